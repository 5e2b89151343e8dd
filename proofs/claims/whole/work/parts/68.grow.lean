/-! THE CLASS grows: new cells -/
section GRW
variable {s0 : State} {D : va_G} {ca : Nat → ClassId} {e0 : Nat} {O : Nat → Prop} {H H' : Heap} {A A' : Nat → Nat → Nat} {G G' : mm_G} {w w' : cc_W}
theorem cr_li.lt {a ea n : Nat} {f : Nat → Nat} (h : cr_li s0 D ca e0 H a ea n f) : a < H.size ∧ (ea ≠ e0 → ea < H.size) := by
  obtain ⟨q1, md, q2, q3⟩ := h
  refine ⟨cr_at_lt q2, fun hne => ?_⟩
  rcases q3 with ⟨-, q⟩ | ⟨q4, N, g, q5, q6, q7, q8, q9⟩
  · exact absurd q hne
  · exact cr_at_lt q8
theorem cc_H.lt (h : cc_H s0 D ca e0 O H A G w) {k i : Nat} (hl : cc_L e0 A G k i) : A k i < H.size := by
  obtain ⟨c1, c2, c3, c4, c5, c8⟩ := h
  rcases hl with q | ⟨rfl, q2, q3⟩ | ⟨rfl, q2, q3⟩
  · by_cases ho : cc_o k = true
    · exact cr_at_lt (c2 k i q ho)
    · have hk : k = 5 ∨ k = 6 ∨ k = 7 ∨ k = 8 := by
        by_cases e5 : k = 5
        · exact Or.inl e5
        · by_cases e6 : k = 6
          · exact Or.inr (Or.inl e6)
          · by_cases e7 : k = 7
            · exact Or.inr (Or.inr (Or.inl e7))
            · by_cases e8 : k = 8
              · exact Or.inr (Or.inr (Or.inr e8))
              · exact absurd (by unfold cc_o; split <;> simp_all) ho
      rcases hk with rfl | rfl | rfl | rfl
      · exact (c3 i q).lt.1
      · exact q.elim
      · exact (c4 i q).lt.1
      · exact q.elim
  · exact (c3 i q2).lt.2 q3
  · exact (c4 i q2).lt.2 q3
theorem cc_H.grow (h : cc_H s0 D ca e0 O H A G w) {T : Nat → Prop} (hfr : cr_Fr T H H') (hz : s0.heap.size ≤ H.size) (hT : ∀ k i, cc_l G k i → cc_o k = true → ¬ T (A k i)) (hTo : ∀ q, T q → s0.heap.size ≤ q) (hA : ∀ k i, cc_l G k i → A' k i = A k i)
    (hc : ∀ k i, cc_l G k i → cc_o k = true → cc_c ca A' G' w' k i = cc_c ca A G w k i) (hnew : ∀ k i, cc_L e0 A' G' k i → (cc_L e0 A G k i ∧ A' k i = A k i) ∨ H.size ≤ A' k i)
    (hcell : ∀ k i, cc_l G' k i → ¬ cc_l G k i → cc_o k = true → va_at D kc (A' k i, cc_c ca A' G' w' k i) H') (hinj : ∀ k i k' i', cc_L e0 A' G' k i → cc_L e0 A' G' k' i' → H.size ≤ A' k i → H.size ≤ A' k' i' → A' k i = A' k' i' → k = k' ∧ i = i')
    (hl5 : ∀ i, i < 5 → cr_li s0 D ca e0 H' (A' 5 i) (A' 6 i) (G' (cc_n i) 0) (A' i)) (hl7 : ∀ i, i < G' 4 0 → cr_li s0 D ca e0 H' (A' 7 i) (A' 8 i) (G' 12 i) (fun j => A' 13 (50 * i + j))) :
    cc_H s0 D ca e0 (fun q => O q ∨ H.size ≤ q) H' A' G' w' := by
  have hlt := fun k i (q : cc_L e0 A G k i) => h.lt q
  have hold := h.old
  obtain ⟨c1, c2, c3, c4, c5, c8⟩ := h
  refine ⟨fun k i q => ?_, fun k i q qo => ?_, hl5, hl7, fun k i k' i' q q' e => ?_, hfr.old hold hz hTo⟩
  · rcases hnew k i q with ⟨q1, q2⟩ | q1
    · rw [q2]
      exact ⟨(c1 k i q1).1, Or.inl (c1 k i q1).2⟩
    · exact ⟨by omega, Or.inr q1⟩
  · by_cases e : cc_l G k i
    · rw [hA k i e, hc k i e qo]
      exact hfr.at (c2 k i e qo) (hT k i e qo)
    · exact hcell k i q e qo
  · rcases hnew k i q with ⟨q1, q2⟩ | q1 <;> rcases hnew k' i' q' with ⟨r1, r2⟩ | r1
    · rw [q2, r2] at e
      exact c5 k i k' i' q1 r1 e
    · have := hlt k i q1
      omega
    · have := hlt k' i' r1
      omega
    · exact hinj k i k' i' q q' q1 r1 e
end GRW
