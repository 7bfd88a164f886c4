/-! 16a: a contract that tells more -/
theorem CtV.mono {d U : Nat} {y : MethodName} {bc : ByteArray} {mL : Nat} {ret : Option FieldType} {args : List AV} {σ : Hp} {Q Q' : Hp → Prop} (h : CtV d U y bc mL ret args σ Q) (hq : ∀ σ', Q σ' → Q' σ') : CtV d U y bc mL ret args σ Q' := by
  intro l g cy ρ sz hl
  refine MetFree.imp (h l g cy ρ sz hl) (fun a s o s' z => ?_)
  obtain ⟨⟨⟨u, e, q, w⟩, f⟩, r⟩ := z
  exact ⟨⟨⟨u, e, hq _ q, w⟩, f⟩, r⟩
theorem CtI.mono {d U : Nat} {y : MethodName} {bc : ByteArray} {mL : Nat} {ret : Option FieldType} {args : List AV} {σ : Hp} {Q Q' : Int → Hp → Prop} (h : CtI d U y bc mL ret args σ Q) (hq : ∀ v σ', Q v σ' → Q' v σ') : CtI d U y bc mL ret args σ Q' := by
  intro l g cy ρ sz hl
  refine MetFree.imp (h l g cy ρ sz hl) (fun a s o s' z => ?_)
  obtain ⟨⟨⟨v, u, e, q, w⟩, f⟩, r⟩ := z
  exact ⟨⟨⟨v, u, e, ⟨q.1, hq _ _ q.2⟩, w⟩, f⟩, r⟩
