/-! THE CLASS: person (printed by gen/comp15.py) -/
section CPE
variable {l : Launch} {s0 : State} {D : va_G} {ca : Nat → ClassId} {e0 : Nat} {O : Nat → Prop} {H : Heap} {A : Nat → Nat → Nat} {G : mm_G} {w : cc_W}
theorem cc_person_c {g q ea : Nat} (h20 : ∀ i, i < G 19 0 → G 20 i < G 16 0) : ∀ k i, cc_l G k i → cc_o k = true → cc_c ca (ad_A A 2 (G 16 0) q ea) (mm_up (mm_up G 17 (G 16 0) g) 16 0 (G 16 0 + 1)) w k i = cc_c ca A G w k i := by
  intro k i ql qo
  have e1 : ∀ a b, a ≠ 16 → a ≠ 17 → mm_up (mm_up G 17 (G 16 0) g) 16 0 (G 16 0 + 1) a b = G a b := fun a b h2 h3 => by rw [mm_up_k _ _ _ _ h2, mm_up_k _ _ _ _ h3]
  have e3 : ∀ b, b ≠ G 16 0 → mm_up (mm_up G 17 (G 16 0) g) 16 0 (G 16 0 + 1) 17 b = G 17 b := fun b hb => by rw [mm_up_k _ _ _ _ (by decide), mm_up_i _ _ _ _ hb]
  have a2 : ∀ x, x < G 16 0 → ad_A A 2 (G 16 0) q ea 2 x = A 2 x := fun x hx => ad_A_old (by omega) (by omega)
  have ak : ∀ k x, k ≠ 2 → k ≠ 6 → ad_A A 2 (G 16 0) q ea k x = A k x := fun k x h1 h2 => ad_A_old (by omega) (by omega)
  unfold cc_l at ql
  split at ql
  · unfold cc_c
    simp only [e1 3 _ (by decide) (by decide)]
  · unfold cc_c
    simp only [e1 5 _ (by decide) (by decide), e1 6 _ (by decide) (by decide), e1 7 _ (by decide) (by decide), e1 8 _ (by decide) (by decide), e1 9 _ (by decide) (by decide), e1 10 _ (by decide) (by decide), ak 0 _ (by decide) (by decide), ak 9 _ (by decide) (by decide), ak 7 _ (by decide) (by decide)]
  · unfold cc_c
    simp only [e3 i (by omega), e1 18 _ (by decide) (by decide), ak 0 _ (by decide) (by decide)]
  · unfold cc_c
    simp only [e1 20 _ (by decide) (by decide), e1 21 _ (by decide) (by decide), a2 _ (h20 i ql)]
  · unfold cc_c
    simp only [e1 23 _ (by decide) (by decide), e1 24 _ (by decide) (by decide), e1 25 _ (by decide) (by decide), e1 26 _ (by decide) (by decide), e1 27 _ (by decide) (by decide)]
  · cases qo
  · cases qo
  · unfold cc_c
    simp only [ak 10 _ (by decide) (by decide), ak 11 _ (by decide) (by decide)]
  · rfl
  · rfl
  · rcases (show i = 0 ∨ i = 1 ∨ i = 2 ∨ i = 3 ∨ i = 4 ∨ i = 5 by omega) with rfl | rfl | rfl | rfl | rfl | rfl
    · unfold cc_c
      simp only [e1 34 _ (by decide) (by decide), ak 12 _ (by decide) (by decide)]
    · rfl
    · unfold cc_c
      simp only [e1 32 _ (by decide) (by decide), ak 12 _ (by decide) (by decide)]
    · rfl
    · unfold cc_c
      simp only [ak 12 _ (by decide) (by decide)]
    · rfl
  · unfold cc_c
    simp only [e1 13 _ (by decide) (by decide), e1 14 _ (by decide) (by decide), e1 15 _ (by decide) (by decide), ak 3 _ (by decide) (by decide), ak 0 _ (by decide) (by decide)]
  · subst ql
    unfold cc_c
    simp only [e1 1 _ (by decide) (by decide), ak 5 _ (by decide) (by decide), ak 9 _ (by decide) (by decide), ak 12 _ (by decide) (by decide)]
  · exact ql.elim

set_option maxRecDepth 20000 in
theorem j_C_person_ok (hl : l.flags = flags0) (Z : cr_Z0 s0 D ca e0) (h : cc_H s0 D ca e0 O H A G w) {g : Nat} (hg : g < 10) (h16 : G 16 0 < 40) (h2 : 0 < G 2 0) (h22 : G 2 0 ≤ 20) (h18 : G 18 (G 16 0) = 0) (h20 : ∀ i, i < G 19 0 → G 20 i < G 16 0) : cr_c l s0 y_C_person cw_C_person 8 2 111 [.ref (A 14 0), .int (nI g)] H (fun o H' => ∃ ea, o = .inl (some (.int (nI (G 16 0)))) ∧ cc_H s0 D ca e0 (fun x => O x ∨ H.size ≤ x) H' (ad_A A 2 (G 16 0) H.size ea) (mm_up (mm_up G 17 (G 16 0) g) 16 0 (G 16 0 + 1)) w ∧ cr_Fr O H H') := by
  refine cr_enter (by decide +kernel) (Nat.le_of_ble_eq_true rfl) (fun hlo P9 E9 S9 M9 A9 B9 T9 C9 C hem hH => ?_)
  obtain ⟨md2, hal2, -⟩ := (h.li 2 (by decide)).2
  obtain ⟨md0, hal0, -⟩ := (h.li 0 (by decide)).2
  refine cr_vc [] 120 (s_C_person hl Z C hem) (fun K hK => ?_)
  conv => whnf
  refine ⟨rfl, ?_⟩
  conv => whnf
  refine ⟨_, _, _, _, j_C_checkGroup hl Z (mm_in_of (n := 10) hg (by decide)), by decide, cr_le rfl, cr_le rfl, cr_le rfl, fun v1 H1 q1 _ => ?_, fun kd H9 q9 _ => by cases q9.1⟩
  obtain ⟨q1a, q1b⟩ := q1
  cases q1a
  replace q1b := q1b.symm
  subst q1b
  conv => whnf
  refine ⟨_, (h.c 14 0 rfl), ?_⟩
  conv => whnf
  refine ⟨rfl, ?_⟩
  conv => whnf
  refine ⟨_, hal2, _, _, _, _, j_AL_sizeL hl Z (h.li 2 (by decide)), by decide, cr_le rfl, cr_le rfl, cr_le rfl, fun v8 H8 q8 _ => ?_, fun kd H9 q9 _ => by cases q9.1⟩
  obtain ⟨q8a, q8b⟩ := q8
  cases q8a
  replace q8b := q8b.symm
  subst q8b
  conv => whnf
  refine ⟨fun b15 => ?_, fun b15 => absurd (show nI (G 16 0) < nI 40 from nI_lt h16 (by decide)) b15⟩
  conv => whnf
  refine ⟨_, (h.c 14 0 rfl), ?_⟩
  conv => whnf
  refine ⟨rfl, ?_⟩
  conv => whnf
  refine ⟨_, hal0, _, _, _, _, j_AL_isEmpty hl Z hal0, by decide, cr_le rfl, cr_le rfl, cr_le rfl, fun v32 H32 q32 _ => ?_, fun kd H9 q9 _ => by cases q9.1⟩
  obtain ⟨q32a, q32b⟩ := q32
  cases q32a
  replace q32b := q32b.symm
  subst q32b
  conv => whnf
  refine ⟨fun b37 => ?_, fun b37 => absurd (if_neg (show ¬ nI (G (cc_n 0) 0) = 0 from nI_ne0 (show 0 < G 2 0 from h2) (show G 2 0 < 2 ^ 31 by omega))) b37⟩
  conv => whnf
  refine ⟨_, (h.c 14 0 rfl), ?_⟩
  conv => whnf
  refine ⟨cr_le rfl, cr_le rfl, fun q54 H54 n54 => ?_⟩
  obtain ⟨e54, lq, sz54, at54, fr54⟩ := n54
  subst e54
  have li2 := h.li 2 (by decide)
  have li0 := h.li 0 (by decide)
  have he0 := cr_e0lt Z
  have l52 : A 5 2 < H.size := li2.lt.1
  have l50 : A 5 0 < H.size := li0.lt.1
  have l62 : A 6 2 < H.size := by
    by_cases q6 : A 6 2 = e0
    · omega
    · exact li2.lt.2 q6
  have l60 : A 6 0 < H.size := by
    by_cases q6 : A 6 0 = e0
    · omega
    · exact li0.lt.2 q6
  have lx : A 14 0 < H.size := cr_at_lt (h.c 14 0 rfl)
  have x54 := cr_at_eq (h.c 14 0 rfl) (fr54 _ lx)
  have p54 := li2.fr (fr54 _ l52) (fr54 _ l62)
  have r54 := li0.fr (fr54 _ l50) (fr54 _ l60)
  obtain ⟨md54, hal54, -⟩ := r54.2
  have c054 := cr_at_eq (h.c 0 0 h2) (fr54 _ (cr_at_lt (h.c 0 0 h2)))
  conv => whnf
  refine ⟨rfl, ?_⟩
  conv => whnf
  refine ⟨_, x54, ?_⟩
  conv => whnf
  refine ⟨rfl, ?_⟩
  conv => whnf
  refine ⟨_, hal54, _, _, _, _, j_AL_get (i := 0) hl Z r54 h2, by decide, cr_le rfl, cr_le rfl, cr_le rfl, fun v64 H64 q64 _ => ?_, fun kd H9 q9 _ => by cases q9.1⟩
  obtain ⟨q64a, q64b⟩ := q64
  cases q64a
  replace q64b := q64b.symm
  subst q64b
  conv => whnf
  refine ⟨_, c054, ?_⟩
  conv => whnf
  refine ⟨rfl, ?_⟩
  conv => whnf
  refine ⟨_, _, _, _, j_Pe_init hl Z lq at54, by decide, cr_le rfl, cr_le rfl, cr_le rfl, fun v72 H72 q72 _ => ?_, fun kd H9 q9 _ => by cases q9.1⟩
  obtain ⟨qa, u72⟩ := q72
  cases qa
  have x72 := cr_at_eq x54 (u72.2.2 _ (by omega))
  have p72 := p54.fr (u72.2.2 _ (by omega)) (u72.2.2 _ (by omega))
  obtain ⟨md72, hal72, -⟩ := p72.2
  have fr72 : cr_Fr (fun _ => False) H H72 := ⟨by rw [u72.1, sz54]; omega, fun q a _ => (u72.2.2 q (by omega)).trans (fr54 q a)⟩
  have old72 : cr_Old s0 H72 := fr72.old h.old hlo (fun _ q => q.elim)
  conv => whnf
  refine ⟨rfl, ?_⟩
  conv => whnf
  refine ⟨_, hal72, _, _, _, _, j_AL_add (v := H.size) hl Z old72 p72 (show G 16 0 ≤ 72 by omega) (fun i hi => ⟨fun e => absurd (h.2.2.2.2.1 2 i 5 2 (Or.inl hi) (Or.inl (show 2 < 5 by decide)) e).1 (by decide), 6, _, by decide, fr72.at (h.c 2 i hi) (fun q => q)⟩) ⟨6, _, by decide, u72.2.1⟩ (by omega), by decide, cr_le rfl, cr_le rfl, cr_le rfl, fun v75 H75 q75 _ => ?_, fun kd H9 q9 _ => by cases q9.1⟩
  obtain ⟨qa, ea, li75, hea, fr75⟩ := q75
  cases qa
  have at75 := fr75.at u72.2.1 (by
    rintro (e | ⟨e, -⟩)
    · omega
    · omega)
  have x75 := fr75.at x72 (by
    rintro (e | ⟨e, e2⟩)
    · exact absurd (h.2.2.2.2.1 14 0 5 2 (Or.inl rfl) (Or.inl (show 2 < 5 by decide)) e).1 (by decide)
    · by_cases q6 : A 6 2 = e0
      · omega
      · exact absurd (h.2.2.2.2.1 14 0 6 2 (Or.inl rfl) (Or.inr (Or.inl ⟨rfl, by decide, q6⟩)) e).1 (by decide))
  obtain ⟨md75, hal75, -⟩ := li75.2
  conv => whnf
  refine ⟨rfl, ?_⟩
  conv => whnf
  refine ⟨_, x75, ?_⟩
  conv => whnf
  refine ⟨rfl, ?_⟩
  conv => whnf
  refine ⟨_, hal75, _, _, _, _, j_AL_sizeL hl Z li75, by decide, cr_le rfl, cr_le rfl, cr_le rfl, fun v85 H85 q85 _ => ?_, fun kd H9 q9 _ => by cases q9.1⟩
  obtain ⟨q85a, q85b⟩ := q85
  cases q85a
  replace q85b := q85b.symm
  subst q85b
  conv => whnf
  refine ⟨cr_le rfl, cr_le rfl, ea, congrArg (fun x => Sum.inl (some (Value.int x))) (cr_p1 (G 16 0)), ?_, ?_⟩
  · refine cc_add (cr_e0lt Z) h hlo (j := 2) (Or.inr (Or.inl rfl)) (mm_up_s _ _ _ _) (fun i hi hne => ?_) (fun d => by rw [mm_up_k _ _ _ _ (by decide), mm_up_k _ _ _ _ (by decide)]) (fr72.trans fr75 (fun _ _ q => q.elim) (fun _ _ q => q)) (Nat.le_refl _) ?_ ?_ li75 (cc_person_c h20)
    · rw [mm_up_k _ _ _ _ (by rcases (show i = 0 ∨ i = 1 ∨ i = 3 ∨ i = 4 by omega) with rfl | rfl | rfl | rfl <;> decide), mm_up_k _ _ _ _ (by rcases (show i = 0 ∨ i = 1 ∨ i = 3 ∨ i = 4 by omega) with rfl | rfl | rfl | rfl <;> decide)]
    · rcases hea with e | e
      · exact Or.inl e
      · exact Or.inr (by rw [e, u72.1, sz54]; omega)
    · show va_at D kc (H.size, Sum.inr (6, [Value.int (nI (mm_up (mm_up G 17 (G 16 0) g) 16 0 (G 16 0 + 1) 17 (G 16 0))), Value.ref (ad_A A 2 (G 16 0) H.size ea 0 (mm_up (mm_up G 17 (G 16 0) g) 16 0 (G 16 0 + 1) 18 (G 16 0)))])) H75
      rw [mm_up_k _ _ _ _ (by decide), mm_up_s, mm_up_k _ _ _ _ (by decide), mm_up_k _ _ _ _ (by decide), h18, ad_A_old (by omega) (by omega)]
      exact at75
  · exact fr72.trans fr75 (fun _ _ q => q.elim) (fun q hq hT => by
      rcases hT with e | ⟨e, e2⟩
      · rw [e]
        exact (h.lo 5 2 (show 2 < 5 by decide)).2
      · by_cases q6 : A 6 2 = e0
        · omega
        · rw [e]
          exact (h.1 6 2 (Or.inr (Or.inl ⟨rfl, by decide, q6⟩))).2)
end CPE
