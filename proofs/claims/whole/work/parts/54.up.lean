/-! THE CLASS: one cell changes (printed by gen/comp5.py) -/
section CUP
variable {l : Launch} {s0 : State} {D : va_G} {ca : Nat → ClassId} {e0 : Nat} {O : Nat → Prop} {H H1 : Heap} {A : Nat → Nat → Nat} {G G' : mm_G} {w w' : cc_W}
theorem mm_fb {o : Nat} (h : o < 2) : fits .boolean (.int (nI o)) = true := by
  rcases (show o = 0 ∨ o = 1 by omega) with rfl | rfl <;> decide
theorem cc_c1 (ca : Nat → ClassId) (A : Nat → Nat → Nat) (G : mm_G) (w : cc_W) (i : Nat) : cc_c ca A G w 1 i = .inr (2, [.int (nI i), .ref (A 0 (G 5 i)), .ref (A 0 (G 6 i)), .int (nI (G 7 i)), .int (nI (G 8 i)), .int (nI (G 9 i)), .int (w.2.2.2.2.2.2.2 i), .int (cr_b (!decide (G 10 i = 9000))), .ref (A 9 (i + 1)), .ref (A 7 i)]) := rfl
theorem cr_e0lt (Z : cr_Z0 s0 D ca e0) : e0 < s0.heap.size := by
  obtain ⟨cell, g1, -⟩ := Z.2.2.2.1
  exact (Array.getElem?_eq_some_iff.mp g1).1
theorem cr_li.fr {a ea n : Nat} {f : Nat → Nat} (h : cr_li s0 D ca e0 H a ea n f) (h1 : H1[a]? = H[a]?) (h2 : H1[ea]? = H[ea]?) : cr_li s0 D ca e0 H1 a ea n f := by
  obtain ⟨q1, md, q2, q3⟩ := h
  refine ⟨q1, md, cr_at_eq q2 h1, ?_⟩
  rcases q3 with q | ⟨q4, N, g, q5, q6, q7, q8, q9⟩
  · exact Or.inl q
  · exact Or.inr ⟨q4, N, g, q5, q6, q7, cr_at_eq q8 h2, q9⟩
theorem cc_H.up (Z : cr_Z0 s0 D ca e0) (h : cc_H s0 D ca e0 O H A G w) {k i : Nat} (hl : cc_l G k i) (ho : cc_o k = true) (hu : cr_Up D kc H (A k i) (cc_c ca A G' w' k i) H1) (hl' : ∀ k' i', cc_l G' k' i' → cc_l G k' i') (hn : ∀ j, j < 5 → G' (cc_n j) 0 = G (cc_n j) 0) (h12 : ∀ d, G' 12 d = G 12 d)
    (hc : ∀ k' i', cc_l G k' i' → cc_o k' = true → ¬ (k' = k ∧ i' = i) → cc_c ca A G' w' k' i' = cc_c ca A G w k' i') : cc_H s0 D ca e0 O H1 A G' w' := by
  obtain ⟨c1, c2, c3, c4, c5, c8⟩ := h
  have he := cr_e0lt Z
  have hL : cc_L e0 A G k i := Or.inl hl
  have hlo := (c1 k i hL).1
  have h4 : G' 4 0 = G 4 0 := hn 1 (by decide)
  have hL' : ∀ k' i', cc_L e0 A G' k' i' → cc_L e0 A G k' i' := by
    rintro k' i' (q | q | ⟨q1, q2, q3⟩)
    · exact Or.inl (hl' k' i' q)
    · exact Or.inr (Or.inl q)
    · exact Or.inr (Or.inr ⟨q1, by rw [← h4]; exact q2, q3⟩)
  have l5 : ∀ j, j < 5 → A 5 j ≠ A k i := fun j hj e => by
    have := (c5 5 j k i (Or.inl hj) hL e).1
    subst this
    cases ho
  have l7 : ∀ j, j < G 4 0 → A 7 j ≠ A k i := fun j hj e => by
    have := (c5 7 j k i (Or.inl hj) hL e).1
    subst this
    cases ho
  have l6 : ∀ j, j < 5 → A 6 j ≠ A k i := fun j hj e => by
    by_cases q : A 6 j = e0
    · rw [e] at q
      omega
    · have := (c5 6 j k i (Or.inr (Or.inl ⟨rfl, hj, q⟩)) hL e).1
      subst this
      cases ho
  have l8 : ∀ j, j < G 4 0 → A 8 j ≠ A k i := fun j hj e => by
    by_cases q : A 8 j = e0
    · rw [e] at q
      omega
    · have := (c5 8 j k i (Or.inr (Or.inr ⟨rfl, hj, q⟩)) hL e).1
      subst this
      cases ho
  refine ⟨fun k' i' q => c1 k' i' (hL' k' i' q), fun k' i' q qo => ?_, fun j hj => ?_, fun j hj => ?_, fun a b a' b' q q' => c5 a b a' b' (hL' a b q) (hL' a' b' q'), ?_⟩
  · by_cases e : k' = k ∧ i' = i
    · rw [e.1, e.2]
      exact hu.2.1
    · rw [hc k' i' (hl' k' i' q) qo e]
      exact cr_at_eq (c2 k' i' (hl' k' i' q) qo) (hu.2.2 _ (fun e9 => e (c5 k' i' k i (Or.inl (hl' k' i' q)) hL e9)))
  · rw [hn j hj]
    exact (c3 j hj).fr (hu.2.2 _ (l5 j hj)) (hu.2.2 _ (l6 j hj))
  · rw [h4] at hj
    rw [h12 j]
    exact (c4 j hj).fr (hu.2.2 _ (l7 j hj)) (hu.2.2 _ (l8 j hj))
  · exact fun q hq => (hu.2.2 q (by omega)).trans (c8 q hq)
/-- what lives is said by the counts alone -/
theorem cc_l_eq (h : ∀ k, k = 2 ∨ k = 4 ∨ k = 16 ∨ k = 19 ∨ k = 22 → G' k 0 = G k 0) (h12 : ∀ d, G' 12 d = G 12 d) : ∀ k i, cc_l G' k i → cc_l G k i := by
  intro k i q
  have a2 := h 2 (by simp)
  have a4 := h 4 (by simp)
  have a16 := h 16 (by simp)
  have a19 := h 19 (by simp)
  have a22 := h 22 (by simp)
  unfold cc_l at q ⊢
  split at q <;> simp_all
theorem cc_Fr (h : cc_H s0 D ca e0 O H A G w) {k i : Nat} (hl : cc_l G k i) {x : va_E} (hu : cr_Up D kc H (A k i) x H1) : cr_Fr O H H1 := hu.fr.mono (fun q _ e => by rw [e]; exact (h.lo k i hl).2)

theorem cc_two (Z : cr_Z0 s0 D ca e0) (h : cc_H s0 D ca e0 O H A G w) {d o : Nat} (hd : d < G 4 0) (hu : cr_Up D kc H (A 1 d) (cc_c ca A (mm_up G 7 d o) w 1 d) H1) : cc_H s0 D ca e0 O H1 A (mm_up G 7 d o) w := by
  refine h.up Z (k := 1) (i := d) hd rfl hu (cc_l_eq (fun k hk => mm_up_k _ _ _ _ (by omega)) (fun d => mm_up_k _ _ _ _ (by decide))) (fun j hj => mm_up_k _ _ _ _ ?_) (fun d => mm_up_k _ _ _ _ (by decide)) (fun k' i' q qo e => ?_)
  · rcases (show j = 0 ∨ j = 1 ∨ j = 2 ∨ j = 3 ∨ j = 4 by omega) with rfl | rfl | rfl | rfl | rfl <;> decide
  · have e1 : ∀ a b, a ≠ 7 → mm_up G 7 d o a b = G a b := fun a b ha => mm_up_k _ _ _ _ ha
    have e2 : ∀ b, b ≠ d → mm_up G 7 d o 7 b = G 7 b := fun b hb => mm_up_i _ _ _ _ hb
    unfold cc_c
    split <;> simp [e1]
    exact congrArg nI (e2 _ (fun e9 => e ⟨rfl, e9⟩))
set_option maxRecDepth 20000 in
theorem j_C_two_ok (hl : l.flags = flags0) (Z : cr_Z0 s0 D ca e0) (h : cc_H s0 D ca e0 O H A G w) {d o : Nat} (hd : d < G 4 0) (h4 : G 4 0 ≤ 30) (ho : o < 2) (h7 : G 7 d < 2) : cr_c l s0 y_C_two cw_C_two 4 0 0 [.ref (A 14 0), .int (nI d), .int (nI o)] H (fun r H' => r = .inl (some (.int (nI (G 7 d)))) ∧ cc_H s0 D ca e0 O H' A (mm_up G 7 d o) w ∧ cr_Fr O H H') := by
  refine cr_enter (by decide +kernel) (Nat.le_of_ble_eq_true rfl) (fun hlo P9 E9 S9 M9 A9 B9 T9 C9 C hem hH => ?_)
  refine cr_vc [] 120 (s_C_two hl Z C hem) (fun K hK => ?_)
  conv => whnf
  refine ⟨rfl, ?_⟩
  conv => whnf
  refine ⟨_, (h.c 14 0 rfl), _, _, _, _, j_C_doorNumbered hl Z (h.c 14 0 rfl) (h.li 1 (by decide)) (show G 4 0 < 2 ^ 31 by omega) hd (h.c 1 d hd), by decide, cr_le rfl, cr_le rfl, cr_le rfl, fun v2 H2 q2 _ => ?_, fun kd H9 q9 _ => by cases q9.1⟩
  obtain ⟨q2a, q2b⟩ := q2
  cases q2a
  replace q2b := q2b.symm
  subst q2b
  conv => whnf
  refine ⟨cr_le rfl, ?_⟩
  conv => whnf
  refine ⟨_, (h.c 1 d hd), ?_⟩
  conv => whnf
  refine ⟨cr_le rfl, ?_⟩
  conv => whnf
  refine ⟨_, (h.c 1 d hd), (h.lo 1 d hd).1, ⟨mm_nb ho, mm_fb ho⟩, ?_⟩
  conv => whnf
  intro H14 u14
  have h9 := cc_two (d := d) (o := o) Z h hd (by refine ⟨u14.1, ?_, u14.2.2⟩; have q := u14.2.1; show va_at D kc (A 1 d, cc_c ca A (mm_up G 7 d o) w 1 d) H14; rw [cc_c1, mm_up_s]; exact q)
  conv => whnf
  exact ⟨mm_nb h7, cr_le rfl, cr_le rfl, rfl, h9, cc_Fr h (k := 1) (i := d) hd u14⟩
end CUP
