/-! THE CLASS: person (printed by gen/comp15.py) -/
section CPE
variable {l : Launch} {s0 : State} {D : va_G} {ca : Nat → ClassId} {e0 : Nat} {O : Nat → Prop} {H : Heap} {A : Nat → Nat → Nat} {G : mm_G} {w : cc_W}
theorem cc_person_c {g q ea : Nat} (h20 : ∀ i, i < G 19 0 → G 20 i < G 16 0) : ∀ k i, cc_l G k i → cc_o k = true → cc_c ca (ad_A A 2 (G 16 0) q ea) (mm_up (mm_up G 17 (G 16 0) g) 16 0 (G 16 0 + 1)) w k i = cc_c ca A G w k i := by
  intro k i ql qo
  have e1 : ∀ a b, a ≠ 16 → a ≠ 17 → mm_up (mm_up G 17 (G 16 0) g) 16 0 (G 16 0 + 1) a b = G a b := fun a b h2 h3 => by rw [mm_up_k _ _ _ _ h2, mm_up_k _ _ _ _ h3]
  have e3 : ∀ b, b ≠ G 16 0 → mm_up (mm_up G 17 (G 16 0) g) 16 0 (G 16 0 + 1) 17 b = G 17 b := fun b hb => by rw [mm_up_k _ _ _ _ (by decide), mm_up_i _ _ _ _ hb]
  have a2 : ∀ x, x < G 16 0 → ad_A A 2 (G 16 0) q ea 2 x = A 2 x := fun x hx => ad_A_old (by omega) (by omega)
  have ak : ∀ k x, k ≠ 2 → k ≠ 6 → ad_A A 2 (G 16 0) q ea k x = A k x := fun k x h1 h2 => ad_A_old (by omega) (by omega)
  unfold cc_l at ql
  split at ql
  · unfold cc_c
    simp only [e1 3 _ (by decide) (by decide)]
  · unfold cc_c
    simp only [e1 5 _ (by decide) (by decide), e1 6 _ (by decide) (by decide), e1 7 _ (by decide) (by decide), e1 8 _ (by decide) (by decide), e1 9 _ (by decide) (by decide), e1 10 _ (by decide) (by decide), ak 0 _ (by decide) (by decide), ak 9 _ (by decide) (by decide), ak 7 _ (by decide) (by decide)]
  · unfold cc_c
    simp only [e3 i (by omega), e1 18 _ (by decide) (by decide), ak 0 _ (by decide) (by decide)]
  · unfold cc_c
    simp only [e1 20 _ (by decide) (by decide), e1 21 _ (by decide) (by decide), a2 _ (h20 i ql)]
  · unfold cc_c
    simp only [e1 23 _ (by decide) (by decide), e1 24 _ (by decide) (by decide), e1 25 _ (by decide) (by decide), e1 26 _ (by decide) (by decide), e1 27 _ (by decide) (by decide)]
  · cases qo
  · cases qo
  · unfold cc_c
    simp only [ak 10 _ (by decide) (by decide), ak 11 _ (by decide) (by decide)]
  · rfl
  · rfl
  · rcases (show i = 0 ∨ i = 1 ∨ i = 2 ∨ i = 3 ∨ i = 4 ∨ i = 5 by omega) with rfl | rfl | rfl | rfl | rfl | rfl
    · unfold cc_c
      simp only [e1 34 _ (by decide) (by decide), ak 12 _ (by decide) (by decide)]
    · rfl
    · unfold cc_c
      simp only [e1 32 _ (by decide) (by decide), ak 12 _ (by decide) (by decide)]
    · rfl
    · unfold cc_c
      simp only [ak 12 _ (by decide) (by decide)]
    · rfl
  · unfold cc_c
    simp only [e1 13 _ (by decide) (by decide), e1 14 _ (by decide) (by decide), e1 15 _ (by decide) (by decide), ak 3 _ (by decide) (by decide), ak 0 _ (by decide) (by decide)]
  · subst ql
    unfold cc_c
    simp only [e1 1 _ (by decide) (by decide), ak 5 _ (by decide) (by decide), ak 9 _ (by decide) (by decide), ak 12 _ (by decide) (by decide)]
  · exact ql.elim

end CPE
