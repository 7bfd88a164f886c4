/-! 9b: what the constructors link; the constructors of the small classes -/
theorem oi2 : Cond.instanceMethod Lib.objectInit ∈ Gw := (gwI 78 (by decide +kernel) rfl)
theorem oi3 : Cond.code Lib.objectInit ⟨#[0xb1]⟩ 1 none ∈ Gw := (gwI 79 (by decide +kernel) rfl)
theorem oi1_0 : Cond.methodLink RX0 3 Lib.objectInit ∈ Gw := (gwI 250 (by decide +kernel) rfl)
theorem df_0 : DF 0 := fun r hr => by
  cases hr
  refine ⟨tyX0, tyX0_ok, fun j hj => ?_⟩
  have hj2 : j < 6 := hj
  rcases (show j = 0 ∨ j = 1 ∨ j = 2 ∨ j = 3 ∨ j = 4 ∨ j = 5 by omega) with rfl | rfl | rfl | rfl | rfl | rfl <;> rfl
theorem nc_0 : ∃ r : vw_C, vwCl[0]? = some r ∧ r.1 = RX0 ∧ r.2.2 = nfl 0 ∧ Cond.instantiable r.1 r.2.2 ∈ Gw := ⟨(RX0, TX0, 6), rfl, rfl, rfl, (gwI 246 (by decide +kernel) rfl)⟩
theorem ni_0 : Cond.initialized RX0 ∈ Gw := (gwI 50 (by decide +kernel) rfl)
theorem oi1_1 : Cond.methodLink RX1 3 Lib.objectInit ∈ Gw := (gwI 228 (by decide +kernel) rfl)
theorem df_1 : DF 1 := fun r hr => by
  cases hr
  refine ⟨tyX1, tyX1_ok, fun j hj => ?_⟩
  have hj2 : j < 5 := hj
  rcases (show j = 0 ∨ j = 1 ∨ j = 2 ∨ j = 3 ∨ j = 4 by omega) with rfl | rfl | rfl | rfl | rfl <;> rfl
theorem nc_1 : ∃ r : vw_C, vwCl[1]? = some r ∧ r.1 = RX1 ∧ r.2.2 = nfl 1 ∧ Cond.instantiable r.1 r.2.2 ∈ Gw := ⟨(RX1, TX1, 5), rfl, rfl, rfl, (gwI 224 (by decide +kernel) rfl)⟩
theorem ni_1 : Cond.initialized RX1 ∈ Gw := (gwI 49 (by decide +kernel) rfl)
theorem oi1_2 : Cond.methodLink RX2 3 Lib.objectInit ∈ Gw := (gwI 209 (by decide +kernel) rfl)
theorem df_2 : DF 2 := fun r hr => by
  cases hr
  refine ⟨tyX2, tyX2_ok, fun j hj => ?_⟩
  have hj2 : j < 3 := hj
  rcases (show j = 0 ∨ j = 1 ∨ j = 2 by omega) with rfl | rfl | rfl <;> rfl
theorem nc_2 : ∃ r : vw_C, vwCl[2]? = some r ∧ r.1 = RX2 ∧ r.2.2 = nfl 2 ∧ Cond.instantiable r.1 r.2.2 ∈ Gw := ⟨(RX2, TX2, 3), rfl, rfl, rfl, (gwI 205 (by decide +kernel) rfl)⟩
theorem ni_2 : Cond.initialized RX2 ∈ Gw := (gwI 48 (by decide +kernel) rfl)
theorem oi1_3 : Cond.methodLink RX3 3 Lib.objectInit ∈ Gw := (gwI 153 (by decide +kernel) rfl)
theorem df_3 : DF 3 := fun r hr => by
  cases hr
  refine ⟨tyX3, tyX3_ok, fun j hj => ?_⟩
  have hj2 : j < 3 := hj
  rcases (show j = 0 ∨ j = 1 ∨ j = 2 by omega) with rfl | rfl | rfl <;> rfl
theorem nc_3 : ∃ r : vw_C, vwCl[3]? = some r ∧ r.1 = RX3 ∧ r.2.2 = nfl 3 ∧ Cond.instantiable r.1 r.2.2 ∈ Gw := ⟨(RX3, TX3, 3), rfl, rfl, rfl, (gwI 149 (by decide +kernel) rfl)⟩
theorem ni_3 : Cond.initialized RX3 ∈ Gw := (gwI 47 (by decide +kernel) rfl)
theorem oi1_4 : Cond.methodLink RX4 3 Lib.objectInit ∈ Gw := (gwI 321 (by decide +kernel) rfl)
theorem df_4 : DF 4 := fun r hr => by
  cases hr
  refine ⟨tyX4, tyX4_ok, fun j hj => ?_⟩
  have hj2 : j < 2 := hj
  rcases (show j = 0 ∨ j = 1 by omega) with rfl | rfl <;> rfl
theorem nc_4 : ∃ r : vw_C, vwCl[4]? = some r ∧ r.1 = RX4 ∧ r.2.2 = nfl 4 ∧ Cond.instantiable r.1 r.2.2 ∈ Gw := ⟨(RX4, TX4, 2), rfl, rfl, rfl, (gwI 317 (by decide +kernel) rfl)⟩
theorem ni_4 : Cond.initialized RX4 ∈ Gw := (gwI 52 (by decide +kernel) rfl)
theorem oi1_5 : Cond.methodLink RX5 3 Lib.objectInit ∈ Gw := (gwI 91 (by decide +kernel) rfl)
theorem df_5 : DF 5 := fun r hr => by
  cases hr
  refine ⟨tyX5, tyX5_ok, fun j hj => ?_⟩
  have hj2 : j < 9 := hj
  rcases (show j = 0 ∨ j = 1 ∨ j = 2 ∨ j = 3 ∨ j = 4 ∨ j = 5 ∨ j = 6 ∨ j = 7 ∨ j = 8 by omega) with rfl | rfl | rfl | rfl | rfl | rfl | rfl | rfl | rfl <;> rfl
theorem nc_5 : ∃ r : vw_C, vwCl[5]? = some r ∧ r.1 = RX5 ∧ r.2.2 = nfl 5 ∧ Cond.instantiable r.1 r.2.2 ∈ Gw := ⟨(RX5, TX5, 9), rfl, rfl, rfl, (gwI 87 (by decide +kernel) rfl)⟩
theorem ni_5 : Cond.initialized RX5 ∈ Gw := (gwI 46 (by decide +kernel) rfl)
theorem oi1_6 : Cond.methodLink RX6 3 Lib.objectInit ∈ Gw := (gwI 85 (by decide +kernel) rfl)
theorem df_6 : DF 6 := fun r hr => by
  cases hr
  refine ⟨tyX6, tyX6_ok, fun j hj => ?_⟩
  have hj2 : j < 10 := hj
  rcases (show j = 0 ∨ j = 1 ∨ j = 2 ∨ j = 3 ∨ j = 4 ∨ j = 5 ∨ j = 6 ∨ j = 7 ∨ j = 8 ∨ j = 9 by omega) with rfl | rfl | rfl | rfl | rfl | rfl | rfl | rfl | rfl | rfl <;> rfl
theorem nc_6 : ∃ r : vw_C, vwCl[6]? = some r ∧ r.1 = RX6 ∧ r.2.2 = nfl 6 ∧ Cond.instantiable r.1 r.2.2 ∈ Gw := ⟨(RX6, TX6, 10), rfl, rfl, rfl, (gwI 81 (by decide +kernel) rfl)⟩
theorem ni_6 : Cond.initialized RX6 ∈ Gw := (gwI 45 (by decide +kernel) rfl)
theorem oi1_7 : Cond.methodLink RX7 3 Lib.objectInit ∈ Gw := (gwI 278 (by decide +kernel) rfl)
theorem df_7 : DF 7 := fun r hr => by
  cases hr
  refine ⟨tyX7, tyX7_ok, fun j hj => ?_⟩
  have hj2 : j < 10 := hj
  rcases (show j = 0 ∨ j = 1 ∨ j = 2 ∨ j = 3 ∨ j = 4 ∨ j = 5 ∨ j = 6 ∨ j = 7 ∨ j = 8 ∨ j = 9 by omega) with rfl | rfl | rfl | rfl | rfl | rfl | rfl | rfl | rfl | rfl <;> rfl
theorem nc_7 : ∃ r : vw_C, vwCl[7]? = some r ∧ r.1 = RX7 ∧ r.2.2 = nfl 7 ∧ Cond.instantiable r.1 r.2.2 ∈ Gw := ⟨(RX7, TX7, 10), rfl, rfl, rfl, (gwI 274 (by decide +kernel) rfl)⟩
theorem ni_7 : Cond.initialized RX7 ∈ Gw := (gwI 51 (by decide +kernel) rfl)
theorem oi1_8 : Cond.methodLink RX8 3 Lib.objectInit ∈ Gw := (gwI 77 (by decide +kernel) rfl)
theorem df_8 : DF 8 := fun r hr => by
  cases hr
  refine ⟨tyX8, tyX8_ok, fun j hj => ?_⟩
  have hj2 : j < 11 := hj
  rcases (show j = 0 ∨ j = 1 ∨ j = 2 ∨ j = 3 ∨ j = 4 ∨ j = 5 ∨ j = 6 ∨ j = 7 ∨ j = 8 ∨ j = 9 ∨ j = 10 by omega) with rfl | rfl | rfl | rfl | rfl | rfl | rfl | rfl | rfl | rfl | rfl <;> rfl
theorem nc_8 : ∃ r : vw_C, vwCl[8]? = some r ∧ r.1 = RX8 ∧ r.2.2 = nfl 8 ∧ Cond.instantiable r.1 r.2.2 ∈ Gw := ⟨(RX8, TX8, 11), rfl, rfl, rfl, (gwI 73 (by decide +kernel) rfl)⟩
theorem ni_8 : Cond.initialized RX8 ∈ Gw := (gwI 44 (by decide +kernel) rfl)
theorem ac_0 : Cond.arrayClass (eT 0) ∈ Gw := (gwI 147 (by decide +kernel) rfl)
theorem ac_1 : Cond.arrayClass (eT 1) ∈ Gw := (gwI 146 (by decide +kernel) rfl)
theorem ac_2 : Cond.arrayClass (eT 2) ∈ Gw := (gwI 272 (by decide +kernel) rfl)
theorem ac_3 : Cond.arrayClass (eT 3) ∈ Gw := (gwI 329 (by decide +kernel) rfl)
theorem fpr_0_1 {X : Cx} (h : INI X) : ∀ r : vw_C, vwCl[0]? = some r → (((r.2.1 1).2.2.2 = true ∧ (r.2.1 1).1 = RX0 ∧ INI X) ∨ (r.2.1 1).2.2.2 = false) ∧ ∃ ty, parseFieldDescriptor (r.2.1 1).2.2.1 = some ty ∧ ∀ a : Nat, narrow ty (.ref a) = .ref a ∧ fits ty (.ref a) = true := fun r hr => by
  cases hr
  exact ⟨Or.inl ⟨rfl, rfl, h⟩, .array .int, by decide +kernel, fun a => ⟨rfl, rfl⟩⟩
theorem cl_0_19 : Cond.classLink RX0 19 "[[I" ∈ Gw := (gwI 251 (by decide +kernel) rfl)
theorem fpr_0_2 {X : Cx} (h : INI X) : ∀ r : vw_C, vwCl[0]? = some r → (((r.2.1 2).2.2.2 = true ∧ (r.2.1 2).1 = RX0 ∧ INI X) ∨ (r.2.1 2).2.2.2 = false) ∧ ∃ ty, parseFieldDescriptor (r.2.1 2).2.2.1 = some ty ∧ ∀ a : Nat, narrow ty (.ref a) = .ref a ∧ fits ty (.ref a) = true := fun r hr => by
  cases hr
  exact ⟨Or.inl ⟨rfl, rfl, h⟩, .array (.array .int), by decide +kernel, fun a => ⟨rfl, rfl⟩⟩
theorem fpr_0_3 {X : Cx} (h : INI X) : ∀ r : vw_C, vwCl[0]? = some r → (((r.2.1 3).2.2.2 = true ∧ (r.2.1 3).1 = RX0 ∧ INI X) ∨ (r.2.1 3).2.2.2 = false) ∧ ∃ ty, parseFieldDescriptor (r.2.1 3).2.2.1 = some ty ∧ ∀ a : Nat, narrow ty (.ref a) = .ref a ∧ fits ty (.ref a) = true := fun r hr => by
  cases hr
  exact ⟨Or.inl ⟨rfl, rfl, h⟩, .array (.array .int), by decide +kernel, fun a => ⟨rfl, rfl⟩⟩
theorem fpr_0_4 {X : Cx} (h : INI X) : ∀ r : vw_C, vwCl[0]? = some r → (((r.2.1 4).2.2.2 = true ∧ (r.2.1 4).1 = RX0 ∧ INI X) ∨ (r.2.1 4).2.2.2 = false) ∧ ∃ ty, parseFieldDescriptor (r.2.1 4).2.2.1 = some ty ∧ ∀ a : Nat, narrow ty (.ref a) = .ref a ∧ fits ty (.ref a) = true := fun r hr => by
  cases hr
  exact ⟨Or.inl ⟨rfl, rfl, h⟩, .array .boolean, by decide +kernel, fun a => ⟨rfl, rfl⟩⟩
theorem fpr_0_5 {X : Cx} (h : INI X) : ∀ r : vw_C, vwCl[0]? = some r → (((r.2.1 5).2.2.2 = true ∧ (r.2.1 5).1 = RX0 ∧ INI X) ∨ (r.2.1 5).2.2.2 = false) ∧ ∃ ty, parseFieldDescriptor (r.2.1 5).2.2.1 = some ty ∧ ∀ a : Nat, narrow ty (.ref a) = .ref a ∧ fits ty (.ref a) = true := fun r hr => by
  cases hr
  exact ⟨Or.inl ⟨rfl, rfl, h⟩, .array .int, by decide +kernel, fun a => ⟨rfl, rfl⟩⟩
theorem fpr_1_1 {X : Cx} (h : INI X) : ∀ r : vw_C, vwCl[1]? = some r → (((r.2.1 1).2.2.2 = true ∧ (r.2.1 1).1 = RX1 ∧ INI X) ∨ (r.2.1 1).2.2.2 = false) ∧ ∃ ty, parseFieldDescriptor (r.2.1 1).2.2.1 = some ty ∧ ∀ a : Nat, narrow ty (.ref a) = .ref a ∧ fits ty (.ref a) = true := fun r hr => by
  cases hr
  exact ⟨Or.inl ⟨rfl, rfl, h⟩, .array .int, by decide +kernel, fun a => ⟨rfl, rfl⟩⟩
theorem cl_2_9 : Cond.classLink RX2 9 RX5 ∈ Gw := (gwI 210 (by decide +kernel) rfl)
theorem fpr_2_0 {X : Cx} (h : INI X) : ∀ r : vw_C, vwCl[2]? = some r → (((r.2.1 0).2.2.2 = true ∧ (r.2.1 0).1 = RX2 ∧ INI X) ∨ (r.2.1 0).2.2.2 = false) ∧ ∃ ty, parseFieldDescriptor (r.2.1 0).2.2.1 = some ty ∧ ∀ a : Nat, narrow ty (.ref a) = .ref a ∧ fits ty (.ref a) = true := fun r hr => by
  cases hr
  exact ⟨Or.inl ⟨rfl, rfl, h⟩, .array (.object "SpanTimetable$Plan"), by decide +kernel, fun a => ⟨rfl, rfl⟩⟩
theorem mi_2_24 : MLI RX2 24 (some RX8) yX5_init cX5_init 1 := ⟨by decide +kernel, by decide, (by decide +kernel), rfl, (gwI 89 (by decide +kernel) rfl), (gwI 46 (by decide +kernel) rfl), (gwI 90 (by decide +kernel) rfl)⟩
theorem cl_3_9 : Cond.classLink RX3 9 "[[B" ∈ Gw := (gwI 154 (by decide +kernel) rfl)
theorem fpr_3_0 {X : Cx} (h : INI X) : ∀ r : vw_C, vwCl[3]? = some r → (((r.2.1 0).2.2.2 = true ∧ (r.2.1 0).1 = RX3 ∧ INI X) ∨ (r.2.1 0).2.2.2 = false) ∧ ∃ ty, parseFieldDescriptor (r.2.1 0).2.2.1 = some ty ∧ ∀ a : Nat, narrow ty (.ref a) = .ref a ∧ fits ty (.ref a) = true := fun r hr => by
  cases hr
  exact ⟨Or.inl ⟨rfl, rfl, h⟩, .array (.array .byte), by decide +kernel, fun a => ⟨rfl, rfl⟩⟩
theorem fpr_3_1 {X : Cx} (h : INI X) : ∀ r : vw_C, vwCl[3]? = some r → (((r.2.1 1).2.2.2 = true ∧ (r.2.1 1).1 = RX3 ∧ INI X) ∨ (r.2.1 1).2.2.2 = false) ∧ ∃ ty, parseFieldDescriptor (r.2.1 1).2.2.1 = some ty ∧ ∀ a : Nat, narrow ty (.ref a) = .ref a ∧ fits ty (.ref a) = true := fun r hr => by
  cases hr
  exact ⟨Or.inl ⟨rfl, rfl, h⟩, .array .int, by decide +kernel, fun a => ⟨rfl, rfl⟩⟩
theorem fpr_4_0 {X : Cx} (h : INI X) : ∀ r : vw_C, vwCl[4]? = some r → (((r.2.1 0).2.2.2 = true ∧ (r.2.1 0).1 = RX4 ∧ INI X) ∨ (r.2.1 0).2.2.2 = false) ∧ ∃ ty, parseFieldDescriptor (r.2.1 0).2.2.1 = some ty ∧ ∀ a : Nat, narrow ty (.ref a) = .ref a ∧ fits ty (.ref a) = true := fun r hr => by
  cases hr
  exact ⟨Or.inl ⟨rfl, rfl, h⟩, .array .char, by decide +kernel, fun a => ⟨rfl, rfl⟩⟩
theorem fpr_5_3 {X : Cx} (h : INI X) : ∀ r : vw_C, vwCl[5]? = some r → (((r.2.1 3).2.2.2 = true ∧ (r.2.1 3).1 = RX5 ∧ INI X) ∨ (r.2.1 3).2.2.2 = false) ∧ ∃ ty, parseFieldDescriptor (r.2.1 3).2.2.1 = some ty ∧ ∀ a : Nat, narrow ty (.ref a) = .ref a ∧ fits ty (.ref a) = true := fun r hr => by
  cases hr
  exact ⟨Or.inl ⟨rfl, rfl, h⟩, .array .int, by decide +kernel, fun a => ⟨rfl, rfl⟩⟩
theorem fpr_5_4 {X : Cx} (h : INI X) : ∀ r : vw_C, vwCl[5]? = some r → (((r.2.1 4).2.2.2 = true ∧ (r.2.1 4).1 = RX5 ∧ INI X) ∨ (r.2.1 4).2.2.2 = false) ∧ ∃ ty, parseFieldDescriptor (r.2.1 4).2.2.1 = some ty ∧ ∀ a : Nat, narrow ty (.ref a) = .ref a ∧ fits ty (.ref a) = true := fun r hr => by
  cases hr
  exact ⟨Or.inl ⟨rfl, rfl, h⟩, .array .int, by decide +kernel, fun a => ⟨rfl, rfl⟩⟩
theorem fpr_5_5 {X : Cx} (h : INI X) : ∀ r : vw_C, vwCl[5]? = some r → (((r.2.1 5).2.2.2 = true ∧ (r.2.1 5).1 = RX5 ∧ INI X) ∨ (r.2.1 5).2.2.2 = false) ∧ ∃ ty, parseFieldDescriptor (r.2.1 5).2.2.1 = some ty ∧ ∀ a : Nat, narrow ty (.ref a) = .ref a ∧ fits ty (.ref a) = true := fun r hr => by
  cases hr
  exact ⟨Or.inl ⟨rfl, rfl, h⟩, .array .int, by decide +kernel, fun a => ⟨rfl, rfl⟩⟩
theorem fpr_5_6 {X : Cx} (h : INI X) : ∀ r : vw_C, vwCl[5]? = some r → (((r.2.1 6).2.2.2 = true ∧ (r.2.1 6).1 = RX5 ∧ INI X) ∨ (r.2.1 6).2.2.2 = false) ∧ ∃ ty, parseFieldDescriptor (r.2.1 6).2.2.1 = some ty ∧ ∀ a : Nat, narrow ty (.ref a) = .ref a ∧ fits ty (.ref a) = true := fun r hr => by
  cases hr
  exact ⟨Or.inl ⟨rfl, rfl, h⟩, .array .int, by decide +kernel, fun a => ⟨rfl, rfl⟩⟩
theorem fpr_5_7 {X : Cx} (h : INI X) : ∀ r : vw_C, vwCl[5]? = some r → (((r.2.1 7).2.2.2 = true ∧ (r.2.1 7).1 = RX5 ∧ INI X) ∨ (r.2.1 7).2.2.2 = false) ∧ ∃ ty, parseFieldDescriptor (r.2.1 7).2.2.1 = some ty ∧ ∀ a : Nat, narrow ty (.ref a) = .ref a ∧ fits ty (.ref a) = true := fun r hr => by
  cases hr
  exact ⟨Or.inl ⟨rfl, rfl, h⟩, .array .int, by decide +kernel, fun a => ⟨rfl, rfl⟩⟩
theorem fpr_5_8 {X : Cx} (h : INI X) : ∀ r : vw_C, vwCl[5]? = some r → (((r.2.1 8).2.2.2 = true ∧ (r.2.1 8).1 = RX5 ∧ INI X) ∨ (r.2.1 8).2.2.2 = false) ∧ ∃ ty, parseFieldDescriptor (r.2.1 8).2.2.1 = some ty ∧ ∀ a : Nat, narrow ty (.ref a) = .ref a ∧ fits ty (.ref a) = true := fun r hr => by
  cases hr
  exact ⟨Or.inl ⟨rfl, rfl, h⟩, .array .int, by decide +kernel, fun a => ⟨rfl, rfl⟩⟩
theorem cl_6_9 : Cond.classLink RX6 9 RX5 ∈ Gw := (gwI 86 (by decide +kernel) rfl)
theorem mi_6_11 : MLI RX6 11 (some RX8) yX5_init cX5_init 1 := ⟨by decide +kernel, by decide, (by decide +kernel), rfl, (gwI 89 (by decide +kernel) rfl), (gwI 46 (by decide +kernel) rfl), (gwI 90 (by decide +kernel) rfl)⟩
theorem fpr_6_0 {X : Cx} (h : INI X) : ∀ r : vw_C, vwCl[6]? = some r → (((r.2.1 0).2.2.2 = true ∧ (r.2.1 0).1 = RX6 ∧ INI X) ∨ (r.2.1 0).2.2.2 = false) ∧ ∃ ty, parseFieldDescriptor (r.2.1 0).2.2.1 = some ty ∧ ∀ a : Nat, narrow ty (.ref a) = .ref a ∧ fits ty (.ref a) = true := fun r hr => by
  cases hr
  exact ⟨Or.inl ⟨rfl, rfl, h⟩, .object "SpanTimetable$Plan", by decide +kernel, fun a => ⟨rfl, rfl⟩⟩
theorem cl_6_18 : Cond.classLink RX6 18 RX3 ∈ Gw := (gwI 148 (by decide +kernel) rfl)
theorem mi_6_20 : MLI RX6 20 (some RX8) yX3_init cX3_init 1 := ⟨by decide +kernel, by decide, (by decide +kernel), rfl, (gwI 151 (by decide +kernel) rfl), (gwI 47 (by decide +kernel) rfl), (gwI 152 (by decide +kernel) rfl)⟩
theorem fpr_6_1 {X : Cx} (h : INI X) : ∀ r : vw_C, vwCl[6]? = some r → (((r.2.1 1).2.2.2 = true ∧ (r.2.1 1).1 = RX6 ∧ INI X) ∨ (r.2.1 1).2.2.2 = false) ∧ ∃ ty, parseFieldDescriptor (r.2.1 1).2.2.1 = some ty ∧ ∀ a : Nat, narrow ty (.ref a) = .ref a ∧ fits ty (.ref a) = true := fun r hr => by
  cases hr
  exact ⟨Or.inl ⟨rfl, rfl, h⟩, .object "SpanTimetable$Names", by decide +kernel, fun a => ⟨rfl, rfl⟩⟩
theorem fpr_6_4 {X : Cx} (h : INI X) : ∀ r : vw_C, vwCl[6]? = some r → (((r.2.1 4).2.2.2 = true ∧ (r.2.1 4).1 = RX6 ∧ INI X) ∨ (r.2.1 4).2.2.2 = false) ∧ ∃ ty, parseFieldDescriptor (r.2.1 4).2.2.1 = some ty ∧ ∀ a : Nat, narrow ty (.ref a) = .ref a ∧ fits ty (.ref a) = true := fun r hr => by
  cases hr
  exact ⟨Or.inr rfl, .array .byte, by decide +kernel, fun a => ⟨rfl, rfl⟩⟩
theorem fpr_7_1 {X : Cx} (h : INI X) : ∀ r : vw_C, vwCl[7]? = some r → (((r.2.1 1).2.2.2 = true ∧ (r.2.1 1).1 = RX7 ∧ INI X) ∨ (r.2.1 1).2.2.2 = false) ∧ ∃ ty, parseFieldDescriptor (r.2.1 1).2.2.1 = some ty ∧ ∀ a : Nat, narrow ty (.ref a) = .ref a ∧ fits ty (.ref a) = true := fun r hr => by
  cases hr
  exact ⟨Or.inl ⟨rfl, rfl, h⟩, .array .int, by decide +kernel, fun a => ⟨rfl, rfl⟩⟩
theorem cl_7_20 : Cond.classLink RX7 20 RX1 ∈ Gw := (gwI 280 (by decide +kernel) rfl)
theorem mi_7_22 : MLI RX7 22 (some RX8) yX1_init cX1_init 1 := ⟨by decide +kernel, by decide, (by decide +kernel), rfl, (gwI 226 (by decide +kernel) rfl), (gwI 49 (by decide +kernel) rfl), (gwI 227 (by decide +kernel) rfl)⟩
theorem fpr_7_2 {X : Cx} (h : INI X) : ∀ r : vw_C, vwCl[7]? = some r → (((r.2.1 2).2.2.2 = true ∧ (r.2.1 2).1 = RX7 ∧ INI X) ∨ (r.2.1 2).2.2.2 = false) ∧ ∃ ty, parseFieldDescriptor (r.2.1 2).2.2.1 = some ty ∧ ∀ a : Nat, narrow ty (.ref a) = .ref a ∧ fits ty (.ref a) = true := fun r hr => by
  cases hr
  exact ⟨Or.inl ⟨rfl, rfl, h⟩, .object "SpanTimetable$Differences", by decide +kernel, fun a => ⟨rfl, rfl⟩⟩
theorem cl_7_27 : Cond.classLink RX7 27 "[[I" ∈ Gw := (gwI 282 (by decide +kernel) rfl)
theorem fpr_7_3 {X : Cx} (h : INI X) : ∀ r : vw_C, vwCl[7]? = some r → (((r.2.1 3).2.2.2 = true ∧ (r.2.1 3).1 = RX7 ∧ INI X) ∨ (r.2.1 3).2.2.2 = false) ∧ ∃ ty, parseFieldDescriptor (r.2.1 3).2.2.1 = some ty ∧ ∀ a : Nat, narrow ty (.ref a) = .ref a ∧ fits ty (.ref a) = true := fun r hr => by
  cases hr
  exact ⟨Or.inl ⟨rfl, rfl, h⟩, .array (.array .int), by decide +kernel, fun a => ⟨rfl, rfl⟩⟩
theorem fpr_7_4 {X : Cx} (h : INI X) : ∀ r : vw_C, vwCl[7]? = some r → (((r.2.1 4).2.2.2 = true ∧ (r.2.1 4).1 = RX7 ∧ INI X) ∨ (r.2.1 4).2.2.2 = false) ∧ ∃ ty, parseFieldDescriptor (r.2.1 4).2.2.1 = some ty ∧ ∀ a : Nat, narrow ty (.ref a) = .ref a ∧ fits ty (.ref a) = true := fun r hr => by
  cases hr
  exact ⟨Or.inl ⟨rfl, rfl, h⟩, .array (.array .int), by decide +kernel, fun a => ⟨rfl, rfl⟩⟩
theorem fpr_7_5 {X : Cx} (h : INI X) : ∀ r : vw_C, vwCl[7]? = some r → (((r.2.1 5).2.2.2 = true ∧ (r.2.1 5).1 = RX7 ∧ INI X) ∨ (r.2.1 5).2.2.2 = false) ∧ ∃ ty, parseFieldDescriptor (r.2.1 5).2.2.1 = some ty ∧ ∀ a : Nat, narrow ty (.ref a) = .ref a ∧ fits ty (.ref a) = true := fun r hr => by
  cases hr
  exact ⟨Or.inl ⟨rfl, rfl, h⟩, .array .int, by decide +kernel, fun a => ⟨rfl, rfl⟩⟩
theorem fpr_7_6 {X : Cx} (h : INI X) : ∀ r : vw_C, vwCl[7]? = some r → (((r.2.1 6).2.2.2 = true ∧ (r.2.1 6).1 = RX7 ∧ INI X) ∨ (r.2.1 6).2.2.2 = false) ∧ ∃ ty, parseFieldDescriptor (r.2.1 6).2.2.1 = some ty ∧ ∀ a : Nat, narrow ty (.ref a) = .ref a ∧ fits ty (.ref a) = true := fun r hr => by
  cases hr
  exact ⟨Or.inl ⟨rfl, rfl, h⟩, .array .int, by decide +kernel, fun a => ⟨rfl, rfl⟩⟩
theorem fpr_8_0 {X : Cx} (h : INI X) : ∀ r : vw_C, vwCl[8]? = some r → (((r.2.1 0).2.2.2 = true ∧ (r.2.1 0).1 = RX8 ∧ INI X) ∨ (r.2.1 0).2.2.2 = false) ∧ ∃ ty, parseFieldDescriptor (r.2.1 0).2.2.1 = some ty ∧ ∀ a : Nat, narrow ty (.ref a) = .ref a ∧ fits ty (.ref a) = true := fun r hr => by
  cases hr
  exact ⟨Or.inl ⟨rfl, rfl, h⟩, .array .byte, by decide +kernel, fun a => ⟨rfl, rfl⟩⟩
theorem cl_8_17 : Cond.classLink RX8 17 RX6 ∈ Gw := (gwI 80 (by decide +kernel) rfl)
theorem mi_8_19 : MLI RX8 19 (some RX8) yX6_init cX6_init 1 := ⟨by decide +kernel, by decide, (by decide +kernel), rfl, (gwI 83 (by decide +kernel) rfl), (gwI 45 (by decide +kernel) rfl), (gwI 84 (by decide +kernel) rfl)⟩
theorem fpr_8_2 {X : Cx} (h : INI X) : ∀ r : vw_C, vwCl[8]? = some r → (((r.2.1 2).2.2.2 = true ∧ (r.2.1 2).1 = RX8 ∧ INI X) ∨ (r.2.1 2).2.2.2 = false) ∧ ∃ ty, parseFieldDescriptor (r.2.1 2).2.2.1 = some ty ∧ ∀ a : Nat, narrow ty (.ref a) = .ref a ∧ fits ty (.ref a) = true := fun r hr => by
  cases hr
  exact ⟨Or.inl ⟨rfl, rfl, h⟩, .object "SpanTimetable$Reader", by decide +kernel, fun a => ⟨rfl, rfl⟩⟩
theorem cl_8_24 : Cond.classLink RX8 24 RX3 ∈ Gw := (gwI 200 (by decide +kernel) rfl)
theorem mi_8_26 : MLI RX8 26 (some RX8) yX3_init cX3_init 1 := ⟨by decide +kernel, by decide, (by decide +kernel), rfl, (gwI 151 (by decide +kernel) rfl), (gwI 47 (by decide +kernel) rfl), (gwI 152 (by decide +kernel) rfl)⟩
theorem fpr_8_3 {X : Cx} (h : INI X) : ∀ r : vw_C, vwCl[8]? = some r → (((r.2.1 3).2.2.2 = true ∧ (r.2.1 3).1 = RX8 ∧ INI X) ∨ (r.2.1 3).2.2.2 = false) ∧ ∃ ty, parseFieldDescriptor (r.2.1 3).2.2.1 = some ty ∧ ∀ a : Nat, narrow ty (.ref a) = .ref a ∧ fits ty (.ref a) = true := fun r hr => by
  cases hr
  exact ⟨Or.inl ⟨rfl, rfl, h⟩, .object "SpanTimetable$Names", by decide +kernel, fun a => ⟨rfl, rfl⟩⟩
theorem cl_8_31 : Cond.classLink RX8 31 RX5 ∈ Gw := (gwI 202 (by decide +kernel) rfl)
theorem mi_8_33 : MLI RX8 33 (some RX8) yX5_init cX5_init 1 := ⟨by decide +kernel, by decide, (by decide +kernel), rfl, (gwI 89 (by decide +kernel) rfl), (gwI 46 (by decide +kernel) rfl), (gwI 90 (by decide +kernel) rfl)⟩
theorem fpr_8_4 {X : Cx} (h : INI X) : ∀ r : vw_C, vwCl[8]? = some r → (((r.2.1 4).2.2.2 = true ∧ (r.2.1 4).1 = RX8 ∧ INI X) ∨ (r.2.1 4).2.2.2 = false) ∧ ∃ ty, parseFieldDescriptor (r.2.1 4).2.2.1 = some ty ∧ ∀ a : Nat, narrow ty (.ref a) = .ref a ∧ fits ty (.ref a) = true := fun r hr => by
  cases hr
  exact ⟨Or.inl ⟨rfl, rfl, h⟩, .object "SpanTimetable$Plan", by decide +kernel, fun a => ⟨rfl, rfl⟩⟩
theorem fpr_8_5 {X : Cx} (h : INI X) : ∀ r : vw_C, vwCl[8]? = some r → (((r.2.1 5).2.2.2 = true ∧ (r.2.1 5).1 = RX8 ∧ INI X) ∨ (r.2.1 5).2.2.2 = false) ∧ ∃ ty, parseFieldDescriptor (r.2.1 5).2.2.1 = some ty ∧ ∀ a : Nat, narrow ty (.ref a) = .ref a ∧ fits ty (.ref a) = true := fun r hr => by
  cases hr
  exact ⟨Or.inl ⟨rfl, rfl, h⟩, .object "SpanTimetable$Plan", by decide +kernel, fun a => ⟨rfl, rfl⟩⟩
theorem cl_8_41 : Cond.classLink RX8 41 RX2 ∈ Gw := (gwI 204 (by decide +kernel) rfl)
theorem mi_8_43 : MLI RX8 43 none yX2_init cX2_init 2 := ⟨by decide +kernel, by decide, (gwI 206 (by decide +kernel) rfl), rfl, (gwI 207 (by decide +kernel) rfl), (gwI 48 (by decide +kernel) rfl), (gwI 208 (by decide +kernel) rfl)⟩
theorem fpr_8_6 {X : Cx} (h : INI X) : ∀ r : vw_C, vwCl[8]? = some r → (((r.2.1 6).2.2.2 = true ∧ (r.2.1 6).1 = RX8 ∧ INI X) ∨ (r.2.1 6).2.2.2 = false) ∧ ∃ ty, parseFieldDescriptor (r.2.1 6).2.2.1 = some ty ∧ ∀ a : Nat, narrow ty (.ref a) = .ref a ∧ fits ty (.ref a) = true := fun r hr => by
  cases hr
  exact ⟨Or.inl ⟨rfl, rfl, h⟩, .object "SpanTimetable$History", by decide +kernel, fun a => ⟨rfl, rfl⟩⟩
theorem cl_8_48 : Cond.classLink RX8 48 RX1 ∈ Gw := (gwI 223 (by decide +kernel) rfl)
theorem mi_8_50 : MLI RX8 50 (some RX8) yX1_init cX1_init 1 := ⟨by decide +kernel, by decide, (by decide +kernel), rfl, (gwI 226 (by decide +kernel) rfl), (gwI 49 (by decide +kernel) rfl), (gwI 227 (by decide +kernel) rfl)⟩
theorem fpr_8_7 {X : Cx} (h : INI X) : ∀ r : vw_C, vwCl[8]? = some r → (((r.2.1 7).2.2.2 = true ∧ (r.2.1 7).1 = RX8 ∧ INI X) ∨ (r.2.1 7).2.2.2 = false) ∧ ∃ ty, parseFieldDescriptor (r.2.1 7).2.2.1 = some ty ∧ ∀ a : Nat, narrow ty (.ref a) = .ref a ∧ fits ty (.ref a) = true := fun r hr => by
  cases hr
  exact ⟨Or.inl ⟨rfl, rfl, h⟩, .object "SpanTimetable$Differences", by decide +kernel, fun a => ⟨rfl, rfl⟩⟩
theorem cl_8_55 : Cond.classLink RX8 55 RX0 ∈ Gw := (gwI 245 (by decide +kernel) rfl)
theorem mi_8_57 : MLI RX8 57 (some RX8) yX0_init cX0_init 1 := ⟨by decide +kernel, by decide, (by decide +kernel), rfl, (gwI 248 (by decide +kernel) rfl), (gwI 50 (by decide +kernel) rfl), (gwI 249 (by decide +kernel) rfl)⟩
theorem fpr_8_8 {X : Cx} (h : INI X) : ∀ r : vw_C, vwCl[8]? = some r → (((r.2.1 8).2.2.2 = true ∧ (r.2.1 8).1 = RX8 ∧ INI X) ∨ (r.2.1 8).2.2.2 = false) ∧ ∃ ty, parseFieldDescriptor (r.2.1 8).2.2.1 = some ty ∧ ∀ a : Nat, narrow ty (.ref a) = .ref a ∧ fits ty (.ref a) = true := fun r hr => by
  cases hr
  exact ⟨Or.inl ⟨rfl, rfl, h⟩, .object "SpanTimetable$Cycles", by decide +kernel, fun a => ⟨rfl, rfl⟩⟩
theorem cl_8_62 : Cond.classLink RX8 62 RX7 ∈ Gw := (gwI 273 (by decide +kernel) rfl)
theorem mi_8_64 : MLI RX8 64 (some RX8) yX7_init cX7_init 1 := ⟨by decide +kernel, by decide, (by decide +kernel), rfl, (gwI 276 (by decide +kernel) rfl), (gwI 51 (by decide +kernel) rfl), (gwI 277 (by decide +kernel) rfl)⟩
theorem fpr_8_9 {X : Cx} (h : INI X) : ∀ r : vw_C, vwCl[8]? = some r → (((r.2.1 9).2.2.2 = true ∧ (r.2.1 9).1 = RX8 ∧ INI X) ∨ (r.2.1 9).2.2.2 = false) ∧ ∃ ty, parseFieldDescriptor (r.2.1 9).2.2.1 = some ty ∧ ∀ a : Nat, narrow ty (.ref a) = .ref a ∧ fits ty (.ref a) = true := fun r hr => by
  cases hr
  exact ⟨Or.inl ⟨rfl, rfl, h⟩, .object "SpanTimetable$Search", by decide +kernel, fun a => ⟨rfl, rfl⟩⟩
theorem cl_8_69 : Cond.classLink RX8 69 RX4 ∈ Gw := (gwI 316 (by decide +kernel) rfl)
theorem mi_8_71 : MLI RX8 71 (some RX8) yX4_init cX4_init 1 := ⟨by decide +kernel, by decide, (by decide +kernel), rfl, (gwI 319 (by decide +kernel) rfl), (gwI 52 (by decide +kernel) rfl), (gwI 320 (by decide +kernel) rfl)⟩
theorem fpr_8_10 {X : Cx} (h : INI X) : ∀ r : vw_C, vwCl[8]? = some r → (((r.2.1 10).2.2.2 = true ∧ (r.2.1 10).1 = RX8 ∧ INI X) ∨ (r.2.1 10).2.2.2 = false) ∧ ∃ ty, parseFieldDescriptor (r.2.1 10).2.2.1 = some ty ∧ ∀ a : Nat, narrow ty (.ref a) = .ref a ∧ fits ty (.ref a) = true := fun r hr => by
  cases hr
  exact ⟨Or.inl ⟨rfl, rfl, h⟩, .object "SpanTimetable$Page", by decide +kernel, fun a => ⟨rfl, rfl⟩⟩
theorem take_mna {nn m : Nat} {q : Id4} {l : List Id4} (h : (Lord.drop nn).take (m + 1) = q :: l) : q ∈ Lord.take (nn + (m + 1)) := by
  rw [List.take_add, h]
  exact List.mem_append_right _ List.mem_cons_self
def A5 (k : Int) : Int := if k = 0 then 12 else 0
def B5 (i k : Int) : Option Id4 := if k = 3 then some (5, i, 4, 0) else if k = 4 then some (5, i, 5, 0) else if k = 5 then some (5, i, 6, 0) else if k = 6 then some (5, i, 7, 0) else if k = 7 then some (5, i, 8, 0) else if k = 8 then some (5, i, 9, 0) else none
theorem cn5_init (i : Int) (nn : Nat) (M : Id4 → Int → Int) (R : Id4 → Int → Option Id4) (h0 : (5, i, 0, 0) ∈ Lord.take nn) (hL : (Lord.drop nn).take 6 = cells 5 i [4, 5, 6, 7, 8, 9]) (hz : ∀ c, M (5, i, c, 0) = fun _ => 0) (hz2 : R (5, i, 0, 0) = fun _ => none) : CnV 1 6 yX5_init cX5_init 1 nn (nn + 1 + 1 + 1 + 1 + 1 + 1) (5, i, 0, 0) (M, R) (fun σ' => σ' = (setA M (5, i, 0, 0) A5, setR R (5, i, 0, 0) (B5 i))) := by
  refine CnV.mk (by decide +kernel) rfl (by decide) (fun X G ρ F hin hk => ?_)
  refine bw_aload0 F dX5_init_0 ?_
  refine bw_objinit F dX5_init_1 oi1_5 oi2 oi3 (by decide) (Nat.le_of_ble_eq_true rfl) ?_
  refine bw_aload0 F dX5_init_4 ?_
  refine bw_bipush F dX5_init_5 (by decide) ?_
  refine bw_putI F dX5_init_7 fl_5_9 fpi_5_0 rfl h0 rfl nz0 ?_
  refine bw_aload0 F dX5_init_10 ?_
  refine bw_iconst F dX5_init_11 ?_
  refine bw_putI F dX5_init_12 fl_5_15 fpi_5_1 rfl h0 rfl nz1 ?_
  refine bw_aload0 F dX5_init_15 ?_
  refine bw_iconst F dX5_init_16 ?_
  refine bw_putI F dX5_init_17 fl_5_18 fpi_5_2 rfl h0 rfl nz2 ?_
  refine bw_aload0 F dX5_init_20 ?_
  refine bw_bipush F dX5_init_21 (by decide) ?_
  refine bw_newa (q := (5, i, 4, 0)) (N := 6) (w := 1) F dX5_init_23 rfl (by decide) ac_0 (dt_at hL 0 rfl) rfl (fun k => by simp [updM, hz]) ⟨fun x h => (by cases h; exact Or.inl h0), trivial⟩ ⟨fun x h => (by cases h; exact Or.inl h0), trivial⟩ (by omega) (by decide) (by decide) ?_
  refine bw_putR F dX5_init_25 fl_5_21 (fpr_5_3 hin) rfl (take_le (by omega) h0) (take_in (dt_at hL 0 rfl)) rfl nz3 ?_
  refine bw_aload0 F dX5_init_28 ?_
  refine bw_bipush F dX5_init_29 (by decide) ?_
  refine bw_newa (q := (5, i, 5, 0)) (N := 14) (w := 1) F dX5_init_31 rfl (by decide) ac_0 (dt_at hL 1 rfl) rfl (fun k => by simp [updM, hz]) ⟨fun x h => (by cases h; exact Or.inl (take_le (by omega) h0)), trivial⟩ ⟨fun x h => (by cases h; exact Or.inl (take_le (by omega) h0)), trivial⟩ (by omega) (by decide) (by decide) ?_
  refine bw_putR F dX5_init_33 fl_5_25 (fpr_5_4 hin) rfl (take_le (by omega) h0) (take_in (dt_at hL 1 rfl)) rfl nz4 ?_
  refine bw_aload0 F dX5_init_36 ?_
  refine bw_bipush F dX5_init_37 (by decide) ?_
  refine bw_newa (q := (5, i, 6, 0)) (N := 14) (w := 1) F dX5_init_39 rfl (by decide) ac_0 (dt_at hL 2 rfl) rfl (fun k => by simp [updM, hz]) ⟨fun x h => (by cases h; exact Or.inl (take_le (by omega) h0)), trivial⟩ ⟨fun x h => (by cases h; exact Or.inl (take_le (by omega) h0)), trivial⟩ (by omega) (by decide) (by decide) ?_
  refine bw_putR F dX5_init_41 fl_5_28 (fpr_5_5 hin) rfl (take_le (by omega) h0) (take_in (dt_at hL 2 rfl)) rfl nz5 ?_
  refine bw_aload0 F dX5_init_44 ?_
  refine bw_bipush F dX5_init_45 (by decide) ?_
  refine bw_newa (q := (5, i, 7, 0)) (N := 14) (w := 1) F dX5_init_47 rfl (by decide) ac_0 (dt_at hL 3 rfl) rfl (fun k => by simp [updM, hz]) ⟨fun x h => (by cases h; exact Or.inl (take_le (by omega) h0)), trivial⟩ ⟨fun x h => (by cases h; exact Or.inl (take_le (by omega) h0)), trivial⟩ (by omega) (by decide) (by decide) ?_
  refine bw_putR F dX5_init_49 fl_5_31 (fpr_5_6 hin) rfl (take_le (by omega) h0) (take_in (dt_at hL 3 rfl)) rfl nz6 ?_
  refine bw_aload0 F dX5_init_52 ?_
  refine bw_bipush F dX5_init_53 (by decide) ?_
  refine bw_newa (q := (5, i, 8, 0)) (N := 14) (w := 1) F dX5_init_55 rfl (by decide) ac_0 (dt_at hL 4 rfl) rfl (fun k => by simp [updM, hz]) ⟨fun x h => (by cases h; exact Or.inl (take_le (by omega) h0)), trivial⟩ ⟨fun x h => (by cases h; exact Or.inl (take_le (by omega) h0)), trivial⟩ (by omega) (by decide) (by decide) ?_
  refine bw_putR F dX5_init_57 fl_5_34 (fpr_5_7 hin) rfl (take_le (by omega) h0) (take_in (dt_at hL 4 rfl)) rfl nz7 ?_
  refine bw_aload0 F dX5_init_60 ?_
  refine bw_bipush F dX5_init_61 (by decide) ?_
  refine bw_newa (q := (5, i, 9, 0)) (N := 14) (w := 1) F dX5_init_63 rfl (by decide) ac_0 (dt_at hL 5 rfl) rfl (fun k => by simp [updM, hz]) ⟨fun x h => (by cases h; exact Or.inl (take_le (by omega) h0)), trivial⟩ ⟨fun x h => (by cases h; exact Or.inl (take_le (by omega) h0)), trivial⟩ (by omega) (by decide) (by decide) ?_
  refine bw_putR F dX5_init_65 fl_5_37 (fpr_5_8 hin) rfl (take_le (by omega) h0) (take_in (dt_at hL 5 rfl)) rfl nz8 ?_
  refine bw_vret F dX5_init_68 (by decide) ?_
  refine congr (congrArg Prod.mk ?_) ?_
  · rw [updM_first (hz 0), updM_next, updM_next]
    congr 1
    funext k
    simp only [upS, A5]
    repeat' split
    all_goals omega
  · rw [updR_first hz2, updR_next, updR_next, updR_next, updR_next, updR_next]
    congr 1
    funext k
    simp only [upR, B5]
    repeat' split
    all_goals first | rfl | (exfalso; omega)
def B3 (i k : Int) : Option Id4 := if k = 0 then some (3, i, 1, 0) else if k = 1 then some (3, i, 2, 0) else none
def W3 (i k : Int) : Option Id4 := if 0 ≤ k ∧ k < (6 : Nat) then some (3, i, 11, k) else none
theorem cn3_init (i : Int) (nn : Nat) (M : Id4 → Int → Int) (R : Id4 → Int → Option Id4) (h0 : (3, i, 0, 0) ∈ Lord.take nn) (hL : (Lord.drop nn).take 7 = (3, i, 1, 0) :: rws 3 i 11 6) (hL2 : Lord[nn + 7]? = some (3, i, 2, 0)) (hz : ∀ c r, M (3, i, c, r) = fun _ => 0) (hz2 : ∀ c, R (3, i, c, 0) = fun _ => none) : CnV 1 8 yX3_init cX3_init 1 nn (nn + (6 + 1) + 1) (3, i, 0, 0) (M, R) (fun σ' => σ' = (setA M (3, i, 0, 0) (fun _ => 0), setR (setR R (3, i, 1, 0) (W3 i)) (3, i, 0, 0) (B3 i))) := by
  refine CnV.mk (by decide +kernel) rfl (by decide) (fun X G ρ F hin hk => ?_)
  refine bw_aload0 F dX3_init_0 ?_
  refine bw_objinit F dX3_init_1 oi1_3 oi2 oi3 (by decide) (Nat.le_of_ble_eq_true rfl) ?_
  refine bw_aload0 F dX3_init_4 ?_
  refine bw_bipush F dX3_init_5 (by decide) ?_
  refine bw_bipush F dX3_init_7 (by decide) ?_
  refine bw_mna (q := (3, i, 1, 0)) (N := 6) (K9 := 8) (w := 7) (t := 3) (i := i) (c := 11) (ei := 1) F (by decide) dX3_init_9 (by decide) cl_3_9 ac_1 hL rfl (fun _ _ => rfl) (fun j k => by rw [hz]) (fun k => by rw [hz2]) (fun j => by simp) ⟨fun x h => (by cases h; exact Or.inl h0), trivial⟩ ⟨fun x h => (by cases h; exact Or.inl h0), trivial⟩ (by omega) (by decide) (by decide) ?_
  refine bw_putR F dX3_init_13 fl_3_11 (fpr_3_0 hin) rfl (take_le (by omega) h0) (take_mna hL) rfl nz0 ?_
  refine bw_aload0 F dX3_init_16 ?_
  refine bw_bipush F dX3_init_17 (by decide) ?_
  refine bw_newa (q := (3, i, 2, 0)) (N := 6) (w := 1) F dX3_init_19 rfl (by decide) ac_0 hL2 rfl (fun k => by rw [hz]) ⟨fun x h => (by cases h; exact Or.inl (take_le (by omega) h0)), trivial⟩ ⟨fun x h => (by cases h; exact Or.inl (take_le (by omega) h0)), trivial⟩ (by omega) (by decide) (by decide) ?_
  refine bw_putR F dX3_init_21 fl_3_16 (fpr_3_1 hin) rfl (take_le (by omega) h0) (take_in hL2) rfl nz1 ?_
  refine bw_aload0 F dX3_init_24 ?_
  refine bw_iconst F dX3_init_25 ?_
  refine bw_putI F dX3_init_26 fl_3_20 fpi_3_2 rfl (take_le (by omega) h0) rfl nz2 ?_
  refine bw_vret F dX3_init_29 (by decide) ?_
  refine congr (congrArg Prod.mk ?_) ?_
  · rw [updM_first (hz 0 0)]
    congr 1
    funext k
    simp only [upS]
    split <;> rfl
  · have e : R (3, i, 0, 0) = fun _ => none := hz2 0
    rw [updR_first (q := (3, i, 0, 0)) ((setR_ne (by simp)).trans e), updR_next]
    congr 1
    funext k
    simp only [upR, B3]
    repeat' split
    all_goals first | rfl | (exfalso; omega)
def A1 (k : Int) : Int := if k = 3 then 12 else 0
def B1 (i k : Int) : Option Id4 := if k = 1 then some (1, i, 2, 0) else none
theorem cn1_init (i : Int) (nn : Nat) (M : Id4 → Int → Int) (R : Id4 → Int → Option Id4) (h0 : (1, i, 0, 0) ∈ Lord.take nn) (hL : Lord[nn]? = some (1, i, 2, 0)) (hz : ∀ c, M (1, i, c, 0) = fun _ => 0) (hz2 : R (1, i, 0, 0) = fun _ => none) : CnV 1 1 yX1_init cX1_init 1 nn (nn + 1) (1, i, 0, 0) (M, R) (fun σ' => σ' = (setA M (1, i, 0, 0) A1, setR R (1, i, 0, 0) (B1 i))) := by
  refine CnV.mk (by decide +kernel) rfl (by decide) (fun X G ρ F hin hk => ?_)
  refine bw_aload0 F dX1_init_0 ?_
  refine bw_objinit F dX1_init_1 oi1_1 oi2 oi3 (by decide) (Nat.le_of_ble_eq_true rfl) ?_
  refine bw_aload0 F dX1_init_4 ?_
  refine bw_iconst F dX1_init_5 ?_
  refine bw_putI F dX1_init_6 fl_1_9 fpi_1_0 rfl h0 rfl nz0 ?_
  refine bw_aload0 F dX1_init_9 ?_
  refine bw_bipush F dX1_init_10 (by decide) ?_
  refine bw_newa (q := (1, i, 2, 0)) (N := 36) (w := 1) F dX1_init_12 rfl (by decide) ac_0 hL rfl (fun k => by simp [updM, hz]) ⟨fun x h => (by cases h; exact Or.inl h0), trivial⟩ ⟨fun x h => (by cases h; exact Or.inl h0), trivial⟩ (by omega) (by decide) (by decide) ?_
  refine bw_putR F dX1_init_14 fl_1_15 (fpr_1_1 hin) rfl (take_le (by omega) h0) (take_in hL) rfl nz1 ?_
  refine bw_aload0 F dX1_init_17 ?_
  refine bw_iconst F dX1_init_18 ?_
  refine bw_putI F dX1_init_19 fl_1_19 fpi_1_2 rfl (take_le (by omega) h0) rfl nz2 ?_
  refine bw_aload0 F dX1_init_22 ?_
  refine bw_bipush F dX1_init_23 (by decide) ?_
  refine bw_putI F dX1_init_25 fl_1_22 fpi_1_3 rfl (take_le (by omega) h0) rfl nz3 ?_
  refine bw_aload0 F dX1_init_28 ?_
  refine bw_iconst F dX1_init_29 ?_
  refine bw_putI F dX1_init_30 fl_1_25 fpi_1_4 rfl (take_le (by omega) h0) rfl nz4 ?_
  refine bw_vret F dX1_init_33 (by decide) ?_
  refine congr (congrArg Prod.mk ?_) ?_
  · rw [updM_first (hz 0), updM_next, updM_next, updM_next]
    congr 1
    funext k
    simp only [upS, A1]
    repeat' split
    all_goals omega
  · rw [updR_first hz2]
    congr 1
