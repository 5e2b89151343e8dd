/-! THE CLASS: room (printed by gen/comp14.py) -/
section CRO
variable {l : Launch} {s0 : State} {D : va_G} {ca : Nat → ClassId} {e0 : Nat} {O : Nat → Prop} {H : Heap} {A : Nat → Nat → Nat} {G : mm_G} {w : cc_W}
theorem cc_room_c {z q ea : Nat} (h5 : ∀ i, i < G 4 0 → G 5 i < G 2 0 ∧ G 6 i < G 2 0) (h18 : ∀ i, i < G 16 0 → G 18 i < G 2 0) (h14 : ∀ i, cc_l G 13 i → G 14 i < G 2 0) : ∀ k i, cc_l G k i → cc_o k = true → cc_c ca (ad_A A 0 (G 2 0) q ea) (mm_up (mm_up G 3 (G 2 0) z) 2 0 (G 2 0 + 1)) w k i = cc_c ca A G w k i := by
  intro k i ql qo
  have e1 : ∀ a b, a ≠ 2 → a ≠ 3 → mm_up (mm_up G 3 (G 2 0) z) 2 0 (G 2 0 + 1) a b = G a b := fun a b h2 h3 => by rw [mm_up_k _ _ _ _ h2, mm_up_k _ _ _ _ h3]
  have e3 : ∀ b, b ≠ G 2 0 → mm_up (mm_up G 3 (G 2 0) z) 2 0 (G 2 0 + 1) 3 b = G 3 b := fun b hb => by rw [mm_up_k _ _ _ _ (by decide), mm_up_i _ _ _ _ hb]
  have a0 : ∀ x, x < G 2 0 → ad_A A 0 (G 2 0) q ea 0 x = A 0 x := fun x hx => ad_A_old (by omega) (by omega)
  have ak : ∀ k x, k ≠ 0 → k ≠ 6 → ad_A A 0 (G 2 0) q ea k x = A k x := fun k x h1 h2 => ad_A_old (by omega) (by omega)
  unfold cc_l at ql
  split at ql
  · show Sum.inr (8, [Value.int (nI i), Value.int (nI (mm_up (mm_up G 3 (G 2 0) z) 2 0 (G 2 0 + 1) 3 i))]) = _
    rw [e3 i (by omega)]
    rfl
  · unfold cc_c
    simp only [e1 5 _ (by decide) (by decide), e1 6 _ (by decide) (by decide), e1 7 _ (by decide) (by decide), e1 8 _ (by decide) (by decide), e1 9 _ (by decide) (by decide), e1 10 _ (by decide) (by decide), a0 _ (h5 i ql).1, a0 _ (h5 i ql).2, ak 9 _ (by decide) (by decide), ak 7 _ (by decide) (by decide)]
  · unfold cc_c
    simp only [e1 17 _ (by decide) (by decide), e1 18 _ (by decide) (by decide), a0 _ (h18 i ql)]
  · unfold cc_c
    simp only [e1 20 _ (by decide) (by decide), e1 21 _ (by decide) (by decide), ak 2 _ (by decide) (by decide)]
  · unfold cc_c
    simp only [e1 23 _ (by decide) (by decide), e1 24 _ (by decide) (by decide), e1 25 _ (by decide) (by decide), e1 26 _ (by decide) (by decide), e1 27 _ (by decide) (by decide)]
  · cases qo
  · cases qo
  · unfold cc_c
    simp only [ak 10 _ (by decide) (by decide), ak 11 _ (by decide) (by decide)]
  · rfl
  · rfl
  · rcases (show i = 0 ∨ i = 1 ∨ i = 2 ∨ i = 3 ∨ i = 4 ∨ i = 5 by omega) with rfl | rfl | rfl | rfl | rfl | rfl
    · unfold cc_c
      simp only [e1 34 _ (by decide) (by decide), ak 12 _ (by decide) (by decide)]
    · rfl
    · unfold cc_c
      simp only [e1 32 _ (by decide) (by decide), ak 12 _ (by decide) (by decide)]
    · rfl
    · unfold cc_c
      simp only [ak 12 _ (by decide) (by decide)]
    · rfl
  · unfold cc_c
    simp only [e1 13 _ (by decide) (by decide), e1 14 _ (by decide) (by decide), e1 15 _ (by decide) (by decide), ak 3 _ (by decide) (by decide), a0 _ (h14 i ql)]
  · subst ql
    unfold cc_c
    simp only [e1 1 _ (by decide) (by decide), ak 5 _ (by decide) (by decide), ak 9 _ (by decide) (by decide), ak 12 _ (by decide) (by decide)]
  · exact ql.elim

end CRO
