/-! THE CLASS: room (printed by gen/comp14.py) -/
section CRO
variable {l : Launch} {s0 : State} {D : va_G} {ca : Nat → ClassId} {e0 : Nat} {O : Nat → Prop} {H : Heap} {A : Nat → Nat → Nat} {G : mm_G} {w : cc_W}
theorem cc_room_c {z q ea : Nat} (h5 : ∀ i, i < G 4 0 → G 5 i < G 2 0 ∧ G 6 i < G 2 0) (h18 : ∀ i, i < G 16 0 → G 18 i < G 2 0) (h14 : ∀ i, cc_l G 13 i → G 14 i < G 2 0) : ∀ k i, cc_l G k i → cc_o k = true → cc_c ca (ad_A A 0 (G 2 0) q ea) (mm_up (mm_up G 3 (G 2 0) z) 2 0 (G 2 0 + 1)) w k i = cc_c ca A G w k i := by
  intro k i ql qo
  have e1 : ∀ a b, a ≠ 2 → a ≠ 3 → mm_up (mm_up G 3 (G 2 0) z) 2 0 (G 2 0 + 1) a b = G a b := fun a b h2 h3 => by rw [mm_up_k _ _ _ _ h2, mm_up_k _ _ _ _ h3]
  have e3 : ∀ b, b ≠ G 2 0 → mm_up (mm_up G 3 (G 2 0) z) 2 0 (G 2 0 + 1) 3 b = G 3 b := fun b hb => by rw [mm_up_k _ _ _ _ (by decide), mm_up_i _ _ _ _ hb]
  have a0 : ∀ x, x < G 2 0 → ad_A A 0 (G 2 0) q ea 0 x = A 0 x := fun x hx => ad_A_old (by omega) (by omega)
  have ak : ∀ k x, k ≠ 0 → k ≠ 6 → ad_A A 0 (G 2 0) q ea k x = A k x := fun k x h1 h2 => ad_A_old (by omega) (by omega)
  unfold cc_l at ql
  split at ql
  · show Sum.inr (8, [Value.int (nI i), Value.int (nI (mm_up (mm_up G 3 (G 2 0) z) 2 0 (G 2 0 + 1) 3 i))]) = _
    rw [e3 i (by omega)]
    rfl
  · unfold cc_c
    simp only [e1 5 _ (by decide) (by decide), e1 6 _ (by decide) (by decide), e1 7 _ (by decide) (by decide), e1 8 _ (by decide) (by decide), e1 9 _ (by decide) (by decide), e1 10 _ (by decide) (by decide), a0 _ (h5 i ql).1, a0 _ (h5 i ql).2, ak 9 _ (by decide) (by decide), ak 7 _ (by decide) (by decide)]
  · unfold cc_c
    simp only [e1 17 _ (by decide) (by decide), e1 18 _ (by decide) (by decide), a0 _ (h18 i ql)]
  · unfold cc_c
    simp only [e1 20 _ (by decide) (by decide), e1 21 _ (by decide) (by decide), ak 2 _ (by decide) (by decide)]
  · unfold cc_c
    simp only [e1 23 _ (by decide) (by decide), e1 24 _ (by decide) (by decide), e1 25 _ (by decide) (by decide), e1 26 _ (by decide) (by decide), e1 27 _ (by decide) (by decide)]
  · cases qo
  · cases qo
  · unfold cc_c
    simp only [ak 10 _ (by decide) (by decide), ak 11 _ (by decide) (by decide)]
  · rfl
  · rfl
  · rcases (show i = 0 ∨ i = 1 ∨ i = 2 ∨ i = 3 ∨ i = 4 ∨ i = 5 by omega) with rfl | rfl | rfl | rfl | rfl | rfl
    · unfold cc_c
      simp only [e1 34 _ (by decide) (by decide), ak 12 _ (by decide) (by decide)]
    · rfl
    · unfold cc_c
      simp only [e1 32 _ (by decide) (by decide), ak 12 _ (by decide) (by decide)]
    · rfl
    · unfold cc_c
      simp only [ak 12 _ (by decide) (by decide)]
    · rfl
  · unfold cc_c
    simp only [e1 13 _ (by decide) (by decide), e1 14 _ (by decide) (by decide), e1 15 _ (by decide) (by decide), ak 3 _ (by decide) (by decide), a0 _ (h14 i ql)]
  · subst ql
    unfold cc_c
    simp only [e1 1 _ (by decide) (by decide), ak 5 _ (by decide) (by decide), ak 9 _ (by decide) (by decide), ak 12 _ (by decide) (by decide)]
  · exact ql.elim

set_option maxRecDepth 20000 in
theorem j_C_room_ok (hl : l.flags = flags0) (Z : cr_Z0 s0 D ca e0) (h : cc_H s0 D ca e0 O H A G w) {z : Nat} (hz : z < 10) (h2 : G 2 0 < 20) (h5 : ∀ i, i < G 4 0 → G 5 i < G 2 0 ∧ G 6 i < G 2 0) (h18 : ∀ i, i < G 16 0 → G 18 i < G 2 0) (h14 : ∀ i, cc_l G 13 i → G 14 i < G 2 0) : cr_c l s0 y_C_room cw_C_room 8 2 111 [.ref (A 14 0), .int (nI z)] H (fun o H' => ∃ ea, o = .inl (some (.int (nI (G 2 0)))) ∧ cc_H s0 D ca e0 (fun x => O x ∨ H.size ≤ x) H' (ad_A A 0 (G 2 0) H.size ea) (mm_up (mm_up G 3 (G 2 0) z) 2 0 (G 2 0 + 1)) w ∧ cr_Fr O H H') := by
  refine cr_enter (by decide +kernel) (Nat.le_of_ble_eq_true rfl) (fun hlo P9 E9 S9 M9 A9 B9 T9 C9 C hem hH => ?_)
  obtain ⟨md, hal, -⟩ := (h.li 0 (by decide)).2
  refine cr_vc [] 120 (s_C_room hl Z C hem) (fun K hK => ?_)
  conv => whnf
  refine ⟨rfl, ?_⟩
  conv => whnf
  refine ⟨_, _, _, _, j_C_checkZone hl Z (mm_in_of (n := 10) hz (by decide)), by decide, cr_le rfl, cr_le rfl, cr_le rfl, fun v1 H1 q1 _ => ?_, fun kd H9 q9 _ => by cases q9.1⟩
  obtain ⟨q1a, q1b⟩ := q1
  cases q1a
  replace q1b := q1b.symm
  subst q1b
  conv => whnf
  refine ⟨_, (h.c 14 0 rfl), ?_⟩
  conv => whnf
  refine ⟨rfl, ?_⟩
  conv => whnf
  refine ⟨_, hal, _, _, _, _, j_AL_sizeL hl Z (h.li 0 (by decide)), by decide, cr_le rfl, cr_le rfl, cr_le rfl, fun v8 H8 q8 _ => ?_, fun kd H9 q9 _ => by cases q9.1⟩
  obtain ⟨q8a, q8b⟩ := q8
  cases q8a
  replace q8b := q8b.symm
  subst q8b
  conv => whnf
  refine ⟨fun b15 => ?_, fun b15 => absurd (show nI (G 2 0) < nI 20 from nI_lt h2 (by decide)) b15⟩
  conv => whnf
  refine ⟨cr_le rfl, cr_le rfl, fun q28 H28 n28 => ?_⟩
  obtain ⟨e28, lq, sz28, at28, fr28⟩ := n28
  subst e28
  have li0 := h.li 0 (by decide)
  have l50 : A 5 0 < H.size := li0.lt.1
  have l60 : A 6 0 < H.size := by
    by_cases q6 : A 6 0 = e0
    · have := cr_e0lt Z
      omega
    · exact li0.lt.2 q6
  have x28 := cr_at_eq (h.c 14 0 rfl) (fr28 _ (cr_at_lt (h.c 14 0 rfl)))
  have li28 := li0.fr (fr28 _ l50) (fr28 _ l60)
  obtain ⟨md28, hal28, -⟩ := li28.2
  conv => whnf
  refine ⟨rfl, ?_⟩
  conv => whnf
  refine ⟨_, x28, ?_⟩
  conv => whnf
  refine ⟨rfl, ?_⟩
  conv => whnf
  refine ⟨_, hal28, _, _, _, _, j_AL_sizeL hl Z li28, by decide, cr_le rfl, cr_le rfl, cr_le rfl, fun v36 H36 q36 _ => ?_, fun kd H9 q9 _ => by cases q9.1⟩
  obtain ⟨q36a, q36b⟩ := q36
  cases q36a
  replace q36b := q36b.symm
  subst q36b
  conv => whnf
  refine ⟨rfl, ?_⟩
  conv => whnf
  refine ⟨_, _, _, _, j_Ro_init hl Z lq at28, by decide, cr_le rfl, cr_le rfl, cr_le rfl, fun v42 H42 q42 _ => ?_, fun kd H9 q9 _ => by cases q9.1⟩
  obtain ⟨qa, u42⟩ := q42
  cases qa
  have x42 := cr_at_eq x28 (u42.2.2 _ (by have := cr_at_lt (h.c 14 0 rfl); omega))
  have li42 := li28.fr (u42.2.2 _ (by omega)) (u42.2.2 _ (by omega))
  obtain ⟨md42, hal42, -⟩ := li42.2
  have fr42 : cr_Fr (fun _ => False) H H42 := ⟨by rw [u42.1, sz28]; omega, fun q a _ => (u42.2.2 q (by omega)).trans (fr28 q a)⟩
  have old42 : cr_Old s0 H42 := fr42.old h.old hlo (fun _ q => q.elim)
  conv => whnf
  refine ⟨cr_le rfl, ?_⟩
  conv => whnf
  refine ⟨_, x42, ?_⟩
  conv => whnf
  refine ⟨rfl, ?_⟩
  conv => whnf
  refine ⟨_, hal42, _, _, _, _, j_AL_add (v := H.size) hl Z old42 li42 (show G 2 0 ≤ 72 by omega) (fun i hi => ⟨fun e => absurd (h.2.2.2.2.1 0 i 5 0 (Or.inl hi) (Or.inl (show 0 < 5 by decide)) e).1 (by decide), 8, _, by decide, fr42.at (h.c 0 i hi) (fun q => q)⟩) ⟨8, _, by decide, u42.2.1⟩ (by omega), by decide, cr_le rfl, cr_le rfl, cr_le rfl, fun v51 H51 q51 _ => ?_, fun kd H9 q9 _ => by cases q9.1⟩
  obtain ⟨qa, ea, li51, hea, fr51⟩ := q51
  cases qa
  have at51 := fr51.at u42.2.1 (by
    rintro (e | ⟨e, -⟩)
    · omega
    · omega)
  conv => whnf
  refine ⟨rfl, ?_⟩
  conv => whnf
  refine ⟨_, at51, ?_⟩
  conv => whnf
  refine ⟨cr_le rfl, cr_le rfl, ea, rfl, ?_, ?_⟩
  · refine cc_add (cr_e0lt Z) h hlo (j := 0) (Or.inl rfl) (mm_up_s _ _ _ _) (fun i hi hne => ?_) (fun d => by rw [mm_up_k _ _ _ _ (by decide), mm_up_k _ _ _ _ (by decide)]) (fr42.trans fr51 (fun _ _ q => q.elim) (fun _ _ q => q)) (Nat.le_refl _) ?_ ?_ li51 (cc_room_c h5 h18 h14)
    · rw [mm_up_k _ _ _ _ (by rcases (show i = 1 ∨ i = 2 ∨ i = 3 ∨ i = 4 by omega) with rfl | rfl | rfl | rfl <;> decide), mm_up_k _ _ _ _ (by rcases (show i = 1 ∨ i = 2 ∨ i = 3 ∨ i = 4 by omega) with rfl | rfl | rfl | rfl <;> decide)]
    · rcases hea with e | e
      · exact Or.inl e
      · exact Or.inr (by rw [e, u42.1, sz28]; omega)
    · show va_at D kc (H.size, Sum.inr (8, [Value.int (nI (G 2 0)), Value.int (nI (mm_up (mm_up G 3 (G 2 0) z) 2 0 (G 2 0 + 1) 3 (G 2 0)))])) H51
      rw [mm_up_k _ _ _ _ (by decide), mm_up_s]
      exact at51
  · exact fr42.trans fr51 (fun _ _ q => q.elim) (fun q hq hT => by
      rcases hT with e | ⟨e, e2⟩
      · rw [e]
        exact (h.lo 5 0 (show 0 < 5 by decide)).2
      · by_cases q6 : A 6 0 = e0
        · have := cr_e0lt Z
          omega
        · rw [e]
          exact (h.1 6 0 (Or.inr (Or.inl ⟨rfl, by decide, q6⟩))).2)
end CRO
