/-! A contract says less -/
section MNO
variable {l : Launch} {s0 : State} {H : Heap}
theorem cr_c_mono {y : MethodName} {cw : Cond} {d mc ms : Nat} {av : List Value} {Q Q' : cr_Q} (h : cr_c l s0 y cw d mc ms av H Q) (hq : ∀ o H', Q o H' → Q' o H') : cr_c l s0 y cw d mc ms av H Q' := fun hlo =>
  (h hlo).mono (fun _ _ q => q) (fun _ _ _ _ _ q => q) (fun _ _ _ _ _ q => by
    obtain ⟨q1, q2⟩ := q
    refine ⟨?_, q2⟩
    rcases q1 with ⟨v, e, q⟩ | ⟨a, k, e, e2, q⟩
    · exact Or.inl ⟨v, e, hq _ _ q⟩
    · exact Or.inr ⟨a, k, e, e2, hq _ _ q⟩)
end MNO
theorem cr_c_up {l : Launch} {s0 : State} {H : Heap} {y : MethodName} {cw : Cond} {d mc ms d' mc' ms' : Nat} {av : List Value} {Q : cr_Q} (h : cr_c l s0 y cw d mc ms av H Q) (h1 : d ≤ d') (h2 : mc ≤ mc') (h3 : ms ≤ ms') : cr_c l s0 y cw d' mc' ms' av H Q := fun hlo =>
  ct_rs ((h hlo).mono (fun _ _ q => q) (fun _ _ _ _ _ q => q) (fun _ _ _ _ _ q => by
    obtain ⟨q1, L, q2, q3⟩ := q
    exact ⟨q1, L, ⟨q2.1, q2.2.mono h2 h3⟩, q3⟩)) (by show _ ≤ _; simp only [headSpec, cr_rm]; omega) (by show _ ≤ _; simp only [headSpec, cr_rm]; omega) (by show _ ≤ _; simp only [headSpec, cr_rm]; omega) (by show _ ≤ _; simp only [headSpec, cr_rm]; omega)
