/-! g2: what holds at the law's entry, beside the tables -/
section ZST
variable {s : State} {args : Array Value}
theorem gv (hgv : (Jvm.Cond.and given_1 narrow_1).before args s = true) (i : Nat) {w : Cond} (hw : (flatC (Jvm.Cond.and given_1 narrow_1))[i]? = some w) : w.before args s = true := flat_of_before _ hgv _ (List.mem_of_getElem? hw)
theorem str_ev {own : String} {k : Nat} (h : (Cond.exactly (.string own k) "java/lang/String").before args s = true) : ∃ a, (Term.string own k).eval args s none [] s = some (.ref a) := by
  obtain ⟨a, c, cA, kA, q1, -⟩ := Cond.exactly_spec (args := args) (first := s) (o := none) (s := s) (idx := []) h
  exact ⟨a, q1⟩
theorem zs_NV (hts : ∀ w ∈ lw_tbl, w.before args s = true) : NV s := by
  refine ⟨fun x hx => ?_, va_AO.of (hts _ (List.mem_of_getElem? (i := 211) (by decide +kernel))), (show (Cond.arrayOver (.array .int)).before args s = true from (hts _ (List.mem_of_getElem? (i := 252) (by decide +kernel)))), (show (Cond.arrayOver (.array .byte)).before args s = true from (hts _ (List.mem_of_getElem? (i := 155) (by decide +kernel))))⟩
  simp only [NL, List.mem_cons, List.not_mem_nil, or_false] at hx
  rcases hx with rfl | rfl | rfl | rfl | rfl | rfl | rfl | rfl | rfl | rfl | rfl | rfl
  · exact va_Nw.of rfl (hts _ (List.mem_of_getElem? (i := 82) (by decide +kernel)))
  · exact va_Nw.of rfl (hts _ (List.mem_of_getElem? (i := 88) (by decide +kernel)))
  · exact va_Nw.of rfl (hts _ (List.mem_of_getElem? (i := 150) (by decide +kernel)))
  · exact va_Nw.of rfl (hts _ (List.mem_of_getElem? (i := 201) (by decide +kernel)))
  · exact va_Nw.of rfl (hts _ (List.mem_of_getElem? (i := 203) (by decide +kernel)))
  · exact va_Nw.of rfl (hts _ (List.mem_of_getElem? (i := 212) (by decide +kernel)))
  · exact va_Nw.of rfl (hts _ (List.mem_of_getElem? (i := 225) (by decide +kernel)))
  · exact va_Nw.of rfl (hts _ (List.mem_of_getElem? (i := 247) (by decide +kernel)))
  · exact va_Nw.of rfl (hts _ (List.mem_of_getElem? (i := 275) (by decide +kernel)))
  · exact va_Nw.of rfl (hts _ (List.mem_of_getElem? (i := 281) (by decide +kernel)))
  · exact va_Nw.of rfl (hts _ (List.mem_of_getElem? (i := 318) (by decide +kernel)))
  · exact va_Nw.of rfl (hts _ (List.mem_of_getElem? (i := 975) (by decide +kernel)))
theorem zs_SL (hts : ∀ w ∈ lw_tbl, w.before args s = true) (hgv : (Jvm.Cond.and given_1 narrow_1).before args s = true) : ∀ x ∈ SL, ∃ a, vk_R x.1 x.2.1 x.2.2 a s := by
  intro x hx
  simp only [SL, List.mem_cons, List.not_mem_nil, or_false] at hx
  rcases hx with rfl | rfl | rfl | rfl | rfl | rfl | rfl
  · exact (str_ev (gv hgv 262 (by decide +kernel))).imp fun a h => vk_R.of (hts _ (List.mem_of_getElem? (i := 518) (by decide +kernel))) h
  · exact (str_ev (gv hgv 463 (by decide +kernel))).imp fun a h => vk_R.of (hts _ (List.mem_of_getElem? (i := 942) (by decide +kernel))) h
  · exact (str_ev (gv hgv 493 (by decide +kernel))).imp fun a h => vk_R.of (hts _ (List.mem_of_getElem? (i := 961) (by decide +kernel))) h
  · exact (str_ev (gv hgv 523 (by decide +kernel))).imp fun a h => vk_R.of (hts _ (List.mem_of_getElem? (i := 962) (by decide +kernel))) h
  · exact (str_ev (gv hgv 556 (by decide +kernel))).imp fun a h => vk_R.of (hts _ (List.mem_of_getElem? (i := 1033) (by decide +kernel))) h
  · exact (str_ev (gv hgv 593 (by decide +kernel))).imp fun a h => vk_R.of (hts _ (List.mem_of_getElem? (i := 1180) (by decide +kernel))) h
  · exact (str_ev (gv hgv 640 (by decide +kernel))).imp fun a h => vk_R.of (hts _ (List.mem_of_getElem? (i := 1234) (by decide +kernel))) h
theorem zs_EX (hts : ∀ w ∈ lw_tbl, w.before args s = true) (hgv : (Jvm.Cond.and given_1 narrow_1).before args s = true) : EX s := by
  refine ⟨fun x hx => ?_, fun x hx => ?_, fun x hx y hy hxy => ?_⟩
  · simp only [DL, List.mem_cons, List.not_mem_nil, or_false] at hx
    rcases hx with rfl | rfl | rfl
    · exact va_Nw.of rfl (hts _ (List.mem_of_getElem? (i := 480) (by decide +kernel)))
    · exact va_Nw.of rfl (hts _ (List.mem_of_getElem? (i := 482) (by decide +kernel)))
    · exact va_Nw.of rfl (hts _ (List.mem_of_getElem? (i := 484) (by decide +kernel)))
  · simp only [EL, List.mem_cons, List.not_mem_nil, or_false] at hx
    rcases hx with rfl | rfl | rfl | rfl
    · exact va_Nw.of rfl (hts _ (List.mem_of_getElem? (i := 935) (by decide +kernel)))
    · exact va_Nw.of rfl (hts _ (List.mem_of_getElem? (i := 478) (by decide +kernel)))
    · exact va_Nw.of rfl (hts _ (List.mem_of_getElem? (i := 1227) (by decide +kernel)))
    · exact va_Nw.of rfl (hts _ (List.mem_of_getElem? (i := 1026) (by decide +kernel)))
  · simp only [EL, List.mem_cons, List.not_mem_nil, or_false] at hx
    simp only [CL, List.mem_cons, List.not_mem_nil, or_false] at hy
    rcases hx with rfl | rfl | rfl | rfl <;> rcases hy with rfl | rfl | rfl
    · exact absurd rfl hxy
    · exact va_Nc.of (gv hgv 259 (by decide +kernel))
    · exact va_Nc.of (gv hgv 230 (by decide +kernel))
    · exact va_Nc.of (gv hgv 244 (by decide +kernel))
    · exact absurd rfl hxy
    · exact va_Nc.of (gv hgv 229 (by decide +kernel))
    · exact va_Nc.of (gv hgv 246 (by decide +kernel))
    · exact va_Nc.of (gv hgv 261 (by decide +kernel))
    · exact va_Nc.of (gv hgv 231 (by decide +kernel))
    · exact va_Nc.of (gv hgv 245 (by decide +kernel))
    · exact va_Nc.of (gv hgv 260 (by decide +kernel))
    · exact absurd rfl hxy
def tmW (i : Nat) : Term := if i = 0 then .string RX6 74 else if i = 1 then .string RX6 89 else if i = 2 then .string RX6 101 else if i = 3 then .string RL 70 else if i = 4 then .string RL 79 else if i = 5 then .string RL 85 else if i = 6 then .string RL 87 else if i = 7 then .string RL 93 else .string RL 98
theorem zs_W (hgv : (Jvm.Cond.and given_1 narrow_1).before args s = true) {A : Nat → Prop} (hA : ∀ a : Nat, a < s.heap.size → ¬ A a) : ∃ adK adV : Nat → Nat, vk_S 9 wLen wByt adK adV A s s.heap ∧ ∀ i : Nat, i < 9 → (tmW i).eval args s none [] s = some (.ref (adK i)) := by
  refine vk_Sof (tm := tmW) ?_ ?_ ?_ ?_ ?_ ?_ ?_ hA
  · intro i hi
    rcases (show i = 0 ∨ i = 1 ∨ i = 2 ∨ i = 3 ∨ i = 4 ∨ i = 5 ∨ i = 6 ∨ i = 7 ∨ i = 8 by omega) with rfl | rfl | rfl | rfl | rfl | rfl | rfl | rfl | rfl <;> decide
  · skip
    intro i hi
    rcases (show i = 0 ∨ i = 1 ∨ i = 2 ∨ i = 3 ∨ i = 4 ∨ i = 5 ∨ i = 6 ∨ i = 7 ∨ i = 8 by omega) with rfl | rfl | rfl | rfl | rfl | rfl | rfl | rfl | rfl
    · exact (gv hgv 294 (by decide +kernel))
    · exact (gv hgv 305 (by decide +kernel))
    · exact (gv hgv 316 (by decide +kernel))
    · exact (gv hgv 327 (by decide +kernel))
    · exact (gv hgv 342 (by decide +kernel))
    · exact (gv hgv 365 (by decide +kernel))
    · exact (gv hgv 382 (by decide +kernel))
    · exact (gv hgv 426 (by decide +kernel))
    · exact (gv hgv 442 (by decide +kernel))
  · skip
    intro i hi
    rcases (show i = 0 ∨ i = 1 ∨ i = 2 ∨ i = 3 ∨ i = 4 ∨ i = 5 ∨ i = 6 ∨ i = 7 ∨ i = 8 by omega) with rfl | rfl | rfl | rfl | rfl | rfl | rfl | rfl | rfl
    · exact (gv hgv 295 (by decide +kernel))
    · exact (gv hgv 306 (by decide +kernel))
    · exact (gv hgv 317 (by decide +kernel))
    · exact (gv hgv 328 (by decide +kernel))
    · exact (gv hgv 343 (by decide +kernel))
    · exact (gv hgv 366 (by decide +kernel))
    · exact (gv hgv 383 (by decide +kernel))
    · exact (gv hgv 427 (by decide +kernel))
    · exact (gv hgv 443 (by decide +kernel))
  · skip
    intro i hi
    rcases (show i = 0 ∨ i = 1 ∨ i = 2 ∨ i = 3 ∨ i = 4 ∨ i = 5 ∨ i = 6 ∨ i = 7 ∨ i = 8 by omega) with rfl | rfl | rfl | rfl | rfl | rfl | rfl | rfl | rfl
    · exact (gv hgv 296 (by decide +kernel))
    · exact (gv hgv 307 (by decide +kernel))
    · exact (gv hgv 318 (by decide +kernel))
    · exact (gv hgv 329 (by decide +kernel))
    · exact (gv hgv 344 (by decide +kernel))
    · exact (gv hgv 367 (by decide +kernel))
    · exact (gv hgv 384 (by decide +kernel))
    · exact (gv hgv 428 (by decide +kernel))
    · exact (gv hgv 444 (by decide +kernel))
  · skip
    intro i hi
    rcases (show i = 0 ∨ i = 1 ∨ i = 2 ∨ i = 3 ∨ i = 4 ∨ i = 5 ∨ i = 6 ∨ i = 7 ∨ i = 8 by omega) with rfl | rfl | rfl | rfl | rfl | rfl | rfl | rfl | rfl
    · exact (gv hgv 297 (by decide +kernel))
    · exact (gv hgv 308 (by decide +kernel))
    · exact (gv hgv 319 (by decide +kernel))
    · exact (gv hgv 330 (by decide +kernel))
    · exact (gv hgv 345 (by decide +kernel))
    · exact (gv hgv 368 (by decide +kernel))
    · exact (gv hgv 385 (by decide +kernel))
    · exact (gv hgv 429 (by decide +kernel))
    · exact (gv hgv 445 (by decide +kernel))
  · intro i hi j hj
    rcases (show i = 0 ∨ i = 1 ∨ i = 2 ∨ i = 3 ∨ i = 4 ∨ i = 5 ∨ i = 6 ∨ i = 7 ∨ i = 8 by omega) with rfl | rfl | rfl | rfl | rfl | rfl | rfl | rfl | rfl
    · have hj2 : j < 6 := hj
      rcases (show j = 0 ∨ j = 1 ∨ j = 2 ∨ j = 3 ∨ j = 4 ∨ j = 5 by omega) with rfl | rfl | rfl | rfl | rfl | rfl
      · exact (gv hgv 298 (by decide +kernel))
      · exact (gv hgv 299 (by decide +kernel))
      · exact (gv hgv 300 (by decide +kernel))
      · exact (gv hgv 301 (by decide +kernel))
      · exact (gv hgv 302 (by decide +kernel))
      · exact (gv hgv 303 (by decide +kernel))
    · have hj2 : j < 5 := hj
      rcases (show j = 0 ∨ j = 1 ∨ j = 2 ∨ j = 3 ∨ j = 4 by omega) with rfl | rfl | rfl | rfl | rfl
      · exact (gv hgv 309 (by decide +kernel))
      · exact (gv hgv 310 (by decide +kernel))
      · exact (gv hgv 311 (by decide +kernel))
      · exact (gv hgv 312 (by decide +kernel))
      · exact (gv hgv 313 (by decide +kernel))
    · have hj2 : j < 4 := hj
      rcases (show j = 0 ∨ j = 1 ∨ j = 2 ∨ j = 3 by omega) with rfl | rfl | rfl | rfl
      · exact (gv hgv 320 (by decide +kernel))
      · exact (gv hgv 321 (by decide +kernel))
      · exact (gv hgv 322 (by decide +kernel))
      · exact (gv hgv 323 (by decide +kernel))
    · have hj2 : j < 7 := hj
      rcases (show j = 0 ∨ j = 1 ∨ j = 2 ∨ j = 3 ∨ j = 4 ∨ j = 5 ∨ j = 6 by omega) with rfl | rfl | rfl | rfl | rfl | rfl | rfl
      · exact (gv hgv 331 (by decide +kernel))
      · exact (gv hgv 332 (by decide +kernel))
      · exact (gv hgv 333 (by decide +kernel))
      · exact (gv hgv 334 (by decide +kernel))
      · exact (gv hgv 335 (by decide +kernel))
      · exact (gv hgv 336 (by decide +kernel))
      · exact (gv hgv 337 (by decide +kernel))
    · have hj2 : j < 1 := hj
      rcases (show j = 0 by omega) with rfl
      · exact (gv hgv 346 (by decide +kernel))
    · have hj2 : j < 6 := hj
      rcases (show j = 0 ∨ j = 1 ∨ j = 2 ∨ j = 3 ∨ j = 4 ∨ j = 5 by omega) with rfl | rfl | rfl | rfl | rfl | rfl
      · exact (gv hgv 369 (by decide +kernel))
      · exact (gv hgv 370 (by decide +kernel))
      · exact (gv hgv 371 (by decide +kernel))
      · exact (gv hgv 372 (by decide +kernel))
      · exact (gv hgv 373 (by decide +kernel))
      · exact (gv hgv 374 (by decide +kernel))
    · have hj2 : j < 5 := hj
      rcases (show j = 0 ∨ j = 1 ∨ j = 2 ∨ j = 3 ∨ j = 4 by omega) with rfl | rfl | rfl | rfl | rfl
      · exact (gv hgv 386 (by decide +kernel))
      · exact (gv hgv 387 (by decide +kernel))
      · exact (gv hgv 388 (by decide +kernel))
      · exact (gv hgv 389 (by decide +kernel))
      · exact (gv hgv 390 (by decide +kernel))
    · have hj2 : j < 1 := hj
      rcases (show j = 0 by omega) with rfl
      · exact (gv hgv 430 (by decide +kernel))
    · have hj2 : j < 5 := hj
      rcases (show j = 0 ∨ j = 1 ∨ j = 2 ∨ j = 3 ∨ j = 4 by omega) with rfl | rfl | rfl | rfl | rfl
      · exact (gv hgv 446 (by decide +kernel))
      · exact (gv hgv 447 (by decide +kernel))
      · exact (gv hgv 448 (by decide +kernel))
      · exact (gv hgv 449 (by decide +kernel))
      · exact (gv hgv 450 (by decide +kernel))
  · intro i j hi hj hij
    rcases (show i = 0 ∨ i = 1 ∨ i = 2 ∨ i = 3 ∨ i = 4 ∨ i = 5 ∨ i = 6 ∨ i = 7 ∨ i = 8 by omega) with rfl | rfl | rfl | rfl | rfl | rfl | rfl | rfl | rfl <;> rcases (show j = 0 ∨ j = 1 ∨ j = 2 ∨ j = 3 ∨ j = 4 ∨ j = 5 ∨ j = 6 ∨ j = 7 ∨ j = 8 by omega) with rfl | rfl | rfl | rfl | rfl | rfl | rfl | rfl | rfl
    · exact absurd rfl hij
    · exact Or.inl (gv hgv 315 (by decide +kernel))
    · exact Or.inl (gv hgv 325 (by decide +kernel))
    · exact Or.inl (gv hgv 339 (by decide +kernel))
    · exact Or.inl (gv hgv 348 (by decide +kernel))
    · exact Or.inl (gv hgv 376 (by decide +kernel))
    · exact Or.inl (gv hgv 392 (by decide +kernel))
    · exact Or.inl (gv hgv 432 (by decide +kernel))
    · exact Or.inl (gv hgv 452 (by decide +kernel))
    · exact Or.inr (gv hgv 315 (by decide +kernel))
    · exact absurd rfl hij
    · exact Or.inl (gv hgv 326 (by decide +kernel))
    · exact Or.inl (gv hgv 340 (by decide +kernel))
    · exact Or.inl (gv hgv 349 (by decide +kernel))
    · exact Or.inl (gv hgv 377 (by decide +kernel))
    · exact Or.inl (gv hgv 393 (by decide +kernel))
    · exact Or.inl (gv hgv 433 (by decide +kernel))
    · exact Or.inl (gv hgv 453 (by decide +kernel))
    · exact Or.inr (gv hgv 325 (by decide +kernel))
    · exact Or.inr (gv hgv 326 (by decide +kernel))
    · exact absurd rfl hij
    · exact Or.inl (gv hgv 341 (by decide +kernel))
    · exact Or.inl (gv hgv 350 (by decide +kernel))
    · exact Or.inl (gv hgv 378 (by decide +kernel))
    · exact Or.inl (gv hgv 394 (by decide +kernel))
    · exact Or.inl (gv hgv 434 (by decide +kernel))
    · exact Or.inl (gv hgv 454 (by decide +kernel))
    · exact Or.inr (gv hgv 339 (by decide +kernel))
    · exact Or.inr (gv hgv 340 (by decide +kernel))
    · exact Or.inr (gv hgv 341 (by decide +kernel))
    · exact absurd rfl hij
    · exact Or.inl (gv hgv 351 (by decide +kernel))
    · exact Or.inl (gv hgv 379 (by decide +kernel))
    · exact Or.inl (gv hgv 395 (by decide +kernel))
    · exact Or.inl (gv hgv 435 (by decide +kernel))
    · exact Or.inl (gv hgv 455 (by decide +kernel))
    · exact Or.inr (gv hgv 348 (by decide +kernel))
    · exact Or.inr (gv hgv 349 (by decide +kernel))
    · exact Or.inr (gv hgv 350 (by decide +kernel))
    · exact Or.inr (gv hgv 351 (by decide +kernel))
    · exact absurd rfl hij
    · exact Or.inl (gv hgv 380 (by decide +kernel))
    · exact Or.inl (gv hgv 396 (by decide +kernel))
    · exact Or.inl (gv hgv 436 (by decide +kernel))
    · exact Or.inl (gv hgv 456 (by decide +kernel))
    · exact Or.inr (gv hgv 376 (by decide +kernel))
    · exact Or.inr (gv hgv 377 (by decide +kernel))
    · exact Or.inr (gv hgv 378 (by decide +kernel))
    · exact Or.inr (gv hgv 379 (by decide +kernel))
    · exact Or.inr (gv hgv 380 (by decide +kernel))
    · exact absurd rfl hij
    · exact Or.inl (gv hgv 398 (by decide +kernel))
    · exact Or.inl (gv hgv 438 (by decide +kernel))
    · exact Or.inl (gv hgv 458 (by decide +kernel))
    · exact Or.inr (gv hgv 392 (by decide +kernel))
    · exact Or.inr (gv hgv 393 (by decide +kernel))
    · exact Or.inr (gv hgv 394 (by decide +kernel))
    · exact Or.inr (gv hgv 395 (by decide +kernel))
    · exact Or.inr (gv hgv 396 (by decide +kernel))
    · exact Or.inr (gv hgv 398 (by decide +kernel))
    · exact absurd rfl hij
    · exact Or.inl (gv hgv 439 (by decide +kernel))
    · exact Or.inl (gv hgv 459 (by decide +kernel))
    · exact Or.inr (gv hgv 432 (by decide +kernel))
    · exact Or.inr (gv hgv 433 (by decide +kernel))
    · exact Or.inr (gv hgv 434 (by decide +kernel))
    · exact Or.inr (gv hgv 435 (by decide +kernel))
    · exact Or.inr (gv hgv 436 (by decide +kernel))
    · exact Or.inr (gv hgv 438 (by decide +kernel))
    · exact Or.inr (gv hgv 439 (by decide +kernel))
    · exact absurd rfl hij
    · exact Or.inl (gv hgv 462 (by decide +kernel))
    · exact Or.inr (gv hgv 452 (by decide +kernel))
    · exact Or.inr (gv hgv 453 (by decide +kernel))
    · exact Or.inr (gv hgv 454 (by decide +kernel))
    · exact Or.inr (gv hgv 455 (by decide +kernel))
    · exact Or.inr (gv hgv 456 (by decide +kernel))
    · exact Or.inr (gv hgv 458 (by decide +kernel))
    · exact Or.inr (gv hgv 459 (by decide +kernel))
    · exact Or.inr (gv hgv 462 (by decide +kernel))
    · exact absurd rfl hij
theorem zs_ZZ (hts : ∀ w ∈ lw_tbl, w.before args s = true) (hgv : (Jvm.Cond.and given_1 narrow_1).before args s = true) {A : Nat → Prop} (hA : ∀ a : Nat, a < s.heap.size → ¬ A a) : ∃ (adK adV : Nat → Nat) (fa : Nat), ∀ ρ : Id4 → Nat, (∀ i : Nat, ρ (20, (i : Int), 0, 0) = adK i) → (∀ i : Nat, ρ (21, (i : Int), 0, 0) = adV i) → ρ (22, 0, 0, 0) = fa → ZZ ρ A s := by
  obtain ⟨adK, adV, hS, hev⟩ := zs_W (s := s) (args := args) hgv hA
  obtain ⟨v, hv, hr⟩ := Cond.isRef_spec (args := args) (first := s) (o := none) (s := s) (idx := []) (t := .static fmN fmF fmD) (gv hgv 5 (by decide +kernel))
  obtain ⟨fa, hfa⟩ : ∃ fa : Nat, v = .null ∨ v = .ref fa := by
    cases v with
    | null => exact ⟨0, Or.inl rfl⟩
    | ref a => exact ⟨a, Or.inr rfl⟩
    | _ => cases hr
  have e0 : (Term.string RX6 74).eval args s none [] s = some (.ref (adK 0)) := hev 0 (by decide)
  have e1 : (Term.string RX6 89).eval args s none [] s = some (.ref (adK 1)) := hev 1 (by decide)
  have e2 : (Term.string RX6 101).eval args s none [] s = some (.ref (adK 2)) := hev 2 (by decide)
  have e3 : (Term.string RL 70).eval args s none [] s = some (.ref (adK 3)) := hev 3 (by decide)
  have e4 : (Term.string RL 79).eval args s none [] s = some (.ref (adK 4)) := hev 4 (by decide)
  have e5 : (Term.string RL 85).eval args s none [] s = some (.ref (adK 5)) := hev 5 (by decide)
  have e6 : (Term.string RL 87).eval args s none [] s = some (.ref (adK 6)) := hev 6 (by decide)
  have e7 : (Term.string RL 93).eval args s none [] s = some (.ref (adK 7)) := hev 7 (by decide)
  have e8 : (Term.string RL 98).eval args s none [] s = some (.ref (adK 8)) := hev 8 (by decide)
  refine ⟨adK, adV, fa, fun ρ r20 r21 r22 => ⟨?_, ?_, (zs_NV hts).1, zs_SL hts hgv, ?_, ?_, ⟨?_, ?_⟩, zs_EX hts hgv⟩⟩
  · exact vx_Zqof (hts _ (List.mem_of_getElem? (i := 503) (by decide +kernel))) (hts _ (List.mem_of_getElem? (i := 65) (by decide +kernel))) (gv hgv 9 (by decide +kernel)) hA
  · exact vx_Zqof (hts _ (List.mem_of_getElem? (i := 505) (by decide +kernel))) (hts _ (List.mem_of_getElem? (i := 65) (by decide +kernel))) (gv hgv 10 (by decide +kernel)) hA
  · intro x hx
    simp only [WL, List.mem_cons, List.not_mem_nil, or_false] at hx
    have q0 := r20 0
    have q1 := r20 1
    have q2 := r20 2
    have q3 := r20 3
    have q4 := r20 4
    have q5 := r20 5
    have q6 := r20 6
    have q7 := r20 7
    have q8 := r20 8
    rcases hx with rfl | rfl | rfl | rfl | rfl | rfl | rfl | rfl | rfl
    · exact (show ρ (20, 0, 0, 0) = adK 0 from q0) ▸ vk_R.of (hts _ (List.mem_of_getElem? (i := 575) (by decide +kernel))) e0
    · exact (show ρ (20, 1, 0, 0) = adK 1 from q1) ▸ vk_R.of (hts _ (List.mem_of_getElem? (i := 602) (by decide +kernel))) e1
    · exact (show ρ (20, 2, 0, 0) = adK 2 from q2) ▸ vk_R.of (hts _ (List.mem_of_getElem? (i := 626) (by decide +kernel))) e2
    · exact (show ρ (20, 3, 0, 0) = adK 3 from q3) ▸ vk_R.of (hts _ (List.mem_of_getElem? (i := 700) (by decide +kernel))) e3
    · exact (show ρ (20, 4, 0, 0) = adK 4 from q4) ▸ vk_R.of (hts _ (List.mem_of_getElem? (i := 823) (by decide +kernel))) e4
    · exact (show ρ (20, 5, 0, 0) = adK 5 from q5) ▸ vk_R.of (hts _ (List.mem_of_getElem? (i := 889) (by decide +kernel))) e5
    · exact (show ρ (20, 6, 0, 0) = adK 6 from q6) ▸ vk_R.of (hts _ (List.mem_of_getElem? (i := 890) (by decide +kernel))) e6
    · exact (show ρ (20, 7, 0, 0) = adK 7 from q7) ▸ vk_R.of (hts _ (List.mem_of_getElem? (i := 915) (by decide +kernel))) e7
    · exact (show ρ (20, 8, 0, 0) = adK 8 from q8) ▸ vk_R.of (hts _ (List.mem_of_getElem? (i := 916) (by decide +kernel))) e8
  · rw [show (fun i : Nat => ρ (20, (i : Int), 0, 0)) = adK from funext r20, show (fun i : Nat => ρ (21, (i : Int), 0, 0)) = adV from funext r21]
    exact hS
  · exact va_Zof (hts _ (List.mem_of_getElem? (i := 419) (by decide +kernel))) (hts _ (List.mem_of_getElem? (i := 55) (by decide +kernel))) (va_eqt (gv hgv 4 (by decide +kernel))) hA
  · rcases hfa with rfl | rfl
    · exact Or.inl (va_Zof (hts _ (List.mem_of_getElem? (i := 438) (by decide +kernel))) (hts _ (List.mem_of_getElem? (i := 61) (by decide +kernel))) hv hA)
    · exact Or.inr (r22 ▸ va_Zof (hts _ (List.mem_of_getElem? (i := 438) (by decide +kernel))) (hts _ (List.mem_of_getElem? (i := 61) (by decide +kernel))) hv hA)
theorem ones_tab : ((flatC (Jvm.Cond.and given_1 narrow_1)).drop 14).take 100 = (List.range 100).map (fun (j : Nat) => Cond.eq (.elem (.static "java/lang/Integer" "DigitOnes" "[B") (.int (Int32.ofNat j))) (.int (Int32.ofInt (48 + (j : Int) % 10)))) := by decide +kernel
theorem ones_ok (hts : ∀ w ∈ lw_tbl, w.before args s = true) (hgv : (Jvm.Cond.and given_1 narrow_1).before args s = true) {A : Nat → Prop} (hA : ∀ a : Nat, a < s.heap.size → ¬ A a) : ∃ t : Nat, va_Z "java/lang/Integer" "DigitOnes" "[B" (.ref t) A s s.heap ∧ va_T .byte t 100 (fun j => .int (Int32.ofInt (48 + (j : Int) % 10))) A s s.heap := by
  have hel : ∀ j : Nat, j < 100 → (Term.elem (.static "java/lang/Integer" "DigitOnes" "[B") (.int (Int32.ofNat j))).eval args s none [] s = some (.int (Int32.ofInt (48 + (j : Int) % 10))) := fun j hj => by
    refine va_eqt (gv hgv (14 + j) ?_)
    have e := congrArg (fun l => l[j]?) ones_tab

    rw [List.getElem?_take_of_lt hj, List.getElem?_drop, List.getElem?_map, List.getElem?_range hj] at e
    exact e
  obtain ⟨t, h1, h2⟩ := va_Tof (args := args) (s := s) (tm := (.static "java/lang/Integer" "DigitOnes" "[B")) (ty := .byte) (N := 100) (f := fun j => .int (Int32.ofInt (48 + (j : Int) % 10))) (A := A) (by decide) (gv hgv 12 (by decide +kernel)) (va_eqt (gv hgv 13 (by decide +kernel))) hel hA
  exact ⟨t, va_Zof (hts _ (List.mem_of_getElem? (i := 812) (by decide +kernel))) (hts _ (List.mem_of_getElem? (i := 64) (by decide +kernel))) h1 hA, h2⟩
theorem tens_tab : ((flatC (Jvm.Cond.and given_1 narrow_1)).drop 117).take 100 = (List.range 100).map (fun (j : Nat) => Cond.eq (.elem (.static "java/lang/Integer" "DigitTens" "[B") (.int (Int32.ofNat j))) (.int (Int32.ofInt (48 + (j : Int) / 10)))) := by decide +kernel
theorem tens_ok (hts : ∀ w ∈ lw_tbl, w.before args s = true) (hgv : (Jvm.Cond.and given_1 narrow_1).before args s = true) {A : Nat → Prop} (hA : ∀ a : Nat, a < s.heap.size → ¬ A a) : ∃ t : Nat, va_Z "java/lang/Integer" "DigitTens" "[B" (.ref t) A s s.heap ∧ va_T .byte t 100 (fun j => .int (Int32.ofInt (48 + (j : Int) / 10))) A s s.heap := by
  have hel : ∀ j : Nat, j < 100 → (Term.elem (.static "java/lang/Integer" "DigitTens" "[B") (.int (Int32.ofNat j))).eval args s none [] s = some (.int (Int32.ofInt (48 + (j : Int) / 10))) := fun j hj => by
    refine va_eqt (gv hgv (117 + j) ?_)
    have e := congrArg (fun l => l[j]?) tens_tab

    rw [List.getElem?_take_of_lt hj, List.getElem?_drop, List.getElem?_map, List.getElem?_range hj] at e
    exact e
  obtain ⟨t, h1, h2⟩ := va_Tof (args := args) (s := s) (tm := (.static "java/lang/Integer" "DigitTens" "[B")) (ty := .byte) (N := 100) (f := fun j => .int (Int32.ofInt (48 + (j : Int) / 10))) (A := A) (by decide) (gv hgv 115 (by decide +kernel)) (va_eqt (gv hgv 116 (by decide +kernel))) hel hA
  exact ⟨t, va_Zof (hts _ (List.mem_of_getElem? (i := 814) (by decide +kernel))) (hts _ (List.mem_of_getElem? (i := 64) (by decide +kernel))) h1 hA, h2⟩
theorem zs_PL (hts : ∀ w ∈ lw_tbl, w.before args s = true) : va_Nw (.castable "[B" "java/lang/Cloneable") s ∧ ∀ x ∈ PL, va_Nw (.privateMethod x) s := by
  refine ⟨va_Nw.of rfl (hts _ (List.mem_of_getElem? (i := 739) (by decide +kernel))), fun x hx => ?_⟩
  simp only [PL, List.mem_cons, List.not_mem_nil, or_false] at hx
  rcases hx with rfl | rfl | rfl | rfl
  · exact va_Nw.of rfl (hts _ (List.mem_of_getElem? (i := 713) (by decide +kernel)))
  · exact va_Nw.of rfl (hts _ (List.mem_of_getElem? (i := 717) (by decide +kernel)))
  · exact va_Nw.of rfl (hts _ (List.mem_of_getElem? (i := 765) (by decide +kernel)))
  · exact va_Nw.of rfl (hts _ (List.mem_of_getElem? (i := 769) (by decide +kernel)))
end ZST
