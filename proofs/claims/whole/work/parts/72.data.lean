/-! THE CLASS: a cell's data is the same, so the cell is -/
def cc_same (G G' : mm_G) (w w' : cc_W) : Nat → Nat → Prop
  | 0, i => G' 3 i = G 3 i
  | 1, i => G' 5 i = G 5 i ∧ G' 6 i = G 6 i ∧ G' 7 i = G 7 i ∧ G' 8 i = G 8 i ∧ G' 9 i = G 9 i ∧ w'.2.2.2.2.2.2.2 i = w.2.2.2.2.2.2.2 i ∧ (G' 10 i = 9000 ↔ G 10 i = 9000)
  | 2, i => G' 17 i = G 17 i ∧ G' 18 i = G 18 i
  | 3, i => G' 20 i = G 20 i ∧ G' 21 i = G 21 i
  | 4, i => G' 23 i = G 23 i ∧ G' 24 i = G 24 i ∧ G' 25 i = G 25 i ∧ G' 26 i = G 26 i ∧ G' 27 i = G 27 i
  | 9, i => w'.1 0 i = w.1 0 i ∧ w'.1 1 i = w.1 1 i
  | 10, i => w'.2.1 i = w.2.1 i
  | 11, i => w'.2.2.1 i = w.2.2.1 i
  | 12, 0 => G' 34 0 = G 34 0
  | 12, 1 => w'.2.2.2.1 = w.2.2.2.1
  | 12, 2 => G' 32 0 = G 32 0
  | 12, 3 => w'.2.2.2.2.1 = w.2.2.2.2.1
  | 12, 4 => w'.2.2.2.2.2.2.1 = w.2.2.2.2.2.2.1
  | 12, _ => w'.2.2.2.2.2.1 = w.2.2.2.2.2.1
  | 13, i => G' 13 i = G 13 i ∧ G' 14 i = G 14 i ∧ G' 15 i = G 15 i
  | 14, _ => G' 1 0 = G 1 0
  | _, _ => True
/-- what a cell names is there -/
def cc_r (G : mm_G) : Prop := (∀ i, i < G 4 0 → G 5 i < G 2 0 ∧ G 6 i < G 2 0) ∧ (∀ i, i < G 16 0 → G 18 i < G 2 0) ∧ (∀ i, i < G 19 0 → G 20 i < G 16 0) ∧ ∀ i, cc_l G 13 i → G 13 i < G 19 0 ∧ G 14 i < G 2 0
section DAT
variable {l : Launch} {s0 : State} {D : va_G} {ca : Nat → ClassId} {e0 : Nat} {O : Nat → Prop} {H H1 : Heap} {A A' : Nat → Nat → Nat} {G G' : mm_G} {w w' : cc_W}
theorem cc_B.r {t : Nat} (h : cc_B G t) : cc_r G := by
  obtain ⟨-, -, -, -, -, -, -, -, -, -, -, b5, -, -, b13, b18, b20, -, -, -, -⟩ := h
  refine ⟨fun i hi => ⟨(b5 i hi).1, (b5 i hi).2.1⟩, fun i hi => (b18 i hi).2, fun i hi => (b20 i hi).1, fun i hi => ?_⟩
  obtain ⟨h1, h2⟩ := (show i / 50 < G 4 0 ∧ i % 50 < G 12 (i / 50) from hi)
  have := b13 (i / 50) (i % 50) h1 h2
  rw [show 50 * (i / 50) + i % 50 = i by omega] at this
  exact ⟨this.1, this.2.1⟩
theorem cc_c_of (hr : cc_r G) (hA : ∀ k i, cc_l G k i → A' k i = A k i) {k i : Nat} (ql : cc_l G k i) (qo : cc_o k = true) (hs : cc_same G G' w w' k i) : cc_c ca A' G' w' k i = cc_c ca A G w k i := by
  obtain ⟨r1, r2, r3, r4⟩ := hr
  have hA12 : ∀ i, i < 6 → A' 12 i = A 12 i := fun i hi => hA 12 i hi
  have hA5 : ∀ i, i < 5 → A' 5 i = A 5 i := fun i hi => hA 5 i hi
  unfold cc_l at ql
  split at ql
  · unfold cc_c
    simp only [show G' 3 i = G 3 i from hs]
  · obtain ⟨s1, s2, s3, s4, s5, s6, s7⟩ := hs
    unfold cc_c
    simp only [s1, s2, s3, s4, s5, s6, s7, hA 0 _ (r1 _ ql).1, hA 0 _ (r1 _ ql).2, hA 9 _ (show _ + 1 ≤ G 4 0 from ql), hA 7 _ ql]
  · obtain ⟨s1, s2⟩ := hs
    unfold cc_c
    simp only [s1, s2, hA 0 _ (r2 _ ql)]
  · obtain ⟨s1, s2⟩ := hs
    unfold cc_c
    simp only [s1, s2, hA 2 _ (r3 _ ql)]
  · obtain ⟨s1, s2, s3, s4, s5⟩ := hs
    unfold cc_c
    simp only [s1, s2, s3, s4, s5]
  · cases qo
  · cases qo
  · obtain ⟨s1, s2⟩ := hs
    unfold cc_c
    simp only [s1, s2, hA 10 _ ql, hA 11 _ ql]
  · unfold cc_c
    simp only [show w'.2.1 i = w.2.1 i from hs]
  · unfold cc_c
    simp only [show w'.2.2.1 i = w.2.2.1 i from hs]
  · rcases (show i = 0 ∨ i = 1 ∨ i = 2 ∨ i = 3 ∨ i = 4 ∨ i = 5 by omega) with rfl | rfl | rfl | rfl | rfl | rfl
    · unfold cc_c
      simp only [show G' 34 0 = G 34 0 from hs, hA12 1 (by decide)]
    · unfold cc_c
      simp only [show w'.2.2.2.1 = w.2.2.2.1 from hs]
    · unfold cc_c
      simp only [show G' 32 0 = G 32 0 from hs, hA12 3 (by decide)]
    · unfold cc_c
      simp only [show w'.2.2.2.2.1 = w.2.2.2.2.1 from hs]
    · unfold cc_c
      simp only [show w'.2.2.2.2.2.2.1 = w.2.2.2.2.2.2.1 from hs, hA12 5 (by decide)]
    · unfold cc_c
      simp only [show w'.2.2.2.2.2.1 = w.2.2.2.2.2.1 from hs]
  · obtain ⟨s1, s2, s3⟩ := hs
    unfold cc_c
    simp only [s1, s2, s3, hA 3 _ (r4 _ ql).1, hA 0 _ (r4 _ ql).2]
  · subst ql
    unfold cc_c
    simp only [show G' 1 0 = G 1 0 from hs, hA5 0 (by decide), hA5 1 (by decide), hA5 2 (by decide), hA5 3 (by decide), hA5 4 (by decide), hA 9 0 (Nat.zero_le _), hA12 0 (by decide), hA12 2 (by decide), hA12 4 (by decide)]
  · exact ql.elim
/-- one cell changes, by the data -/
theorem cc_H.set (Z : cr_Z0 s0 D ca e0) (hr : cc_r G) (h : cc_H s0 D ca e0 O H A G w) {k i : Nat} (hl : cc_l G k i) (ho : cc_o k = true) (hu : cr_Up D kc H (A k i) (cc_c ca A G' w' k i) H1) (hn : ∀ k, k = 2 ∨ k = 4 ∨ k = 16 ∨ k = 19 ∨ k = 22 → G' k 0 = G k 0) (h12 : ∀ d, G' 12 d = G 12 d)
    (hc : ∀ k' i', cc_l G k' i' → cc_o k' = true → ¬ (k' = k ∧ i' = i) → cc_same G G' w w' k' i') : cc_H s0 D ca e0 O H1 A G' w' :=
  h.up Z hl ho hu (cc_l_eq hn h12) (fun j hj => hn _ (cc_n_in hj)) h12 (fun k' i' q qo e => cc_c_of hr (fun _ _ _ => rfl) q qo (hc k' i' q qo e))
/-- the counts of the whole's knowledge -/
def w_k (w : cc_W) (x y : Nat) : cc_W := ((fun k i => if i = 0 then cond (Nat.beq k 0) x y else w.1 k i), w.2)
theorem cc_know (Z : cr_Z0 s0 D ca e0) (hr : cc_r G) (h : cc_H s0 D ca e0 O H A G w) {x y : Nat} (hG : ∀ a b, a ≠ 28 → a ≠ 29 → a ≠ 30 → a ≠ 31 → G' a b = G a b) (hu : cr_Up D kc H (A 9 0) (.inr (4, [.int (nI x), .int (nI y), .ref (A 10 0), .ref (A 11 0)])) H1) : cc_H s0 D ca e0 O H1 A G' (w_k w x y) := by
  refine h.set Z hr (k := 9) (i := 0) (Nat.zero_le _) rfl hu (fun k hk => hG _ _ (by omega) (by omega) (by omega) (by omega)) (fun d => hG _ _ (by decide) (by decide) (by decide) (by decide)) (fun k' i' q qo e => ?_)
  unfold cc_same w_k
  split <;> simp [hG]
  exact ⟨fun e9 => absurd ⟨rfl, e9⟩ e, fun e9 => absurd ⟨rfl, e9⟩ e⟩
end DAT
