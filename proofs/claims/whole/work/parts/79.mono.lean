/-! A contract says less -/
section MNO
variable {l : Launch} {s0 : State} {H : Heap}
theorem cr_c_mono {y : MethodName} {cw : Cond} {d mc ms : Nat} {av : List Value} {Q Q' : cr_Q} (h : cr_c l s0 y cw d mc ms av H Q) (hq : ∀ o H', Q o H' → Q' o H') : cr_c l s0 y cw d mc ms av H Q' := fun hlo =>
  (h hlo).mono (fun _ _ q => q) (fun _ _ _ _ _ q => q) (fun _ _ _ _ _ q => by
    obtain ⟨q1, q2⟩ := q
    refine ⟨?_, q2⟩
    rcases q1 with ⟨v, e, q⟩ | ⟨a, k, e, e2, q⟩
    · exact Or.inl ⟨v, e, hq _ _ q⟩
    · exact Or.inr ⟨a, k, e, e2, hq _ _ q⟩)
end MNO
