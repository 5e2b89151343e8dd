/-! THE CLASS: card, right (printed by gen/comp16.py) -/
section CCR
variable {l : Launch} {s0 : State} {D : va_G} {ca : Nat → ClassId} {e0 : Nat} {O : Nat → Prop} {H : Heap} {A : Nat → Nat → Nat} {G : mm_G} {w : cc_W}
def ca_G (G : mm_G) (p m : Nat) : mm_G := mm_up (mm_up (mm_up G 20 (G 19 0) p) 21 (G 19 0) m) 19 0 (G 19 0 + 1)
def ca_T (G : mm_G) (p m : Nat) : mm_G := mm_up (mm_tl (mm_up (mm_up G 20 (G 19 0) p) 21 (G 19 0) m) 0 (G 19 0) m) 19 0 (G 19 0 + 1)
def ri_G (G : mm_G) (g z f o s9 : Nat) : mm_G := mm_up (mm_up (mm_up (mm_up (mm_up (mm_up G 23 (G 22 0) g) 24 (G 22 0) z) 25 (G 22 0) f) 26 (G 22 0) o) 27 (G 22 0) s9) 22 0 (G 22 0 + 1)
def ri_T (G : mm_G) (g z f o s9 : Nat) : mm_G := mm_up (mm_tl (mm_up (mm_up (mm_up (mm_up (mm_up G 23 (G 22 0) g) 24 (G 22 0) z) 25 (G 22 0) f) 26 (G 22 0) o) 27 (G 22 0) s9) 1 (G 22 0) s9) 22 0 (G 22 0 + 1)
theorem mm_up_at (G : mm_G) (k i v b : Nat) : mm_up G k i v k b = if b = i then v else G k b := by
  by_cases e : b = i
  · rw [if_pos e, e, mm_up_s]
  · rw [if_neg e, mm_up_i _ _ _ _ e]
theorem ca_G_k {p m a b : Nat} (h1 : a ≠ 19) (h2 : a ≠ 20) (h3 : a ≠ 21) : ca_G G p m a b = G a b := by
  unfold ca_G
  rw [mm_up_k _ _ _ _ h1, mm_up_k _ _ _ _ h3, mm_up_k _ _ _ _ h2]
theorem ca_G_i {p m a b : Nat} (h1 : a ≠ 19) (hb : b ≠ G 19 0) : ca_G G p m a b = G a b := by
  unfold ca_G
  rw [mm_up_k _ _ _ _ h1, mm_up_i _ _ _ _ hb, mm_up_i _ _ _ _ hb]
theorem ca_T_k {p m a b : Nat} (h1 : a ≠ 28) (h2 : a ≠ 29) (h3 : a ≠ 30) (h4 : a ≠ 31) : ca_T G p m a b = ca_G G p m a b := by
  unfold ca_T ca_G
  by_cases e : a = 19
  · subst e
    rw [mm_up_at, mm_up_at, tl_k h1 h2 h3 h4]
  · rw [mm_up_k _ _ _ _ e, mm_up_k _ _ _ _ e, tl_k h1 h2 h3 h4]
theorem ri_G_k {g z f o s9 a b : Nat} (h1 : a ≠ 22) (h2 : a ≠ 23) (h3 : a ≠ 24) (h4 : a ≠ 25) (h5 : a ≠ 26) (h6 : a ≠ 27) : ri_G G g z f o s9 a b = G a b := by
  unfold ri_G
  rw [mm_up_k _ _ _ _ h1, mm_up_k _ _ _ _ h6, mm_up_k _ _ _ _ h5, mm_up_k _ _ _ _ h4, mm_up_k _ _ _ _ h3, mm_up_k _ _ _ _ h2]
theorem ri_G_i {g z f o s9 a b : Nat} (h1 : a ≠ 22) (hb : b ≠ G 22 0) : ri_G G g z f o s9 a b = G a b := by
  unfold ri_G
  rw [mm_up_k _ _ _ _ h1, mm_up_i _ _ _ _ hb, mm_up_i _ _ _ _ hb, mm_up_i _ _ _ _ hb, mm_up_i _ _ _ _ hb, mm_up_i _ _ _ _ hb]
theorem ri_T_k {g z f o s9 a b : Nat} (h1 : a ≠ 28) (h2 : a ≠ 29) (h3 : a ≠ 30) (h4 : a ≠ 31) : ri_T G g z f o s9 a b = ri_G G g z f o s9 a b := by
  unfold ri_T ri_G
  by_cases e : a = 22
  · subst e
    rw [mm_up_at, mm_up_at, tl_k h1 h2 h3 h4]
  · rw [mm_up_k _ _ _ _ e, mm_up_k _ _ _ _ e, tl_k h1 h2 h3 h4]
theorem ca_G_q {p m : Nat} (a b : Nat) (q : a ≠ 19 ∧ a ≠ 20 ∧ a ≠ 21) : ca_G G p m a b = G a b := ca_G_k q.1 q.2.1 q.2.2
theorem ri_G_q {g z f o s9 : Nat} (a b : Nat) (q : a ≠ 22 ∧ a ≠ 23 ∧ a ≠ 24 ∧ a ≠ 25 ∧ a ≠ 26 ∧ a ≠ 27) : ri_G G g z f o s9 a b = G a b := ri_G_k q.1 q.2.1 q.2.2.1 q.2.2.2.1 q.2.2.2.2.1 q.2.2.2.2.2
theorem ad_hA {j q ea : Nat} (hj : j < 5) : ∀ k i, cc_l G k i → ad_A A j (G (cc_n j) 0) q ea k i = A k i := fun k i ql => ad_A_old (by
  rintro ⟨rfl, e2⟩
  rw [cc_l_5 hj] at ql
  omega) (by
  rintro ⟨rfl, -⟩
  exact ql)
theorem ca_r {p m : Nat} (hr : cc_r G) (hp : p < G 16 0) : cc_r (ca_G G p m) := by
  obtain ⟨r1, r2, r3, r4⟩ := hr
  have e1 : ∀ a b, a ≠ 19 → a ≠ 20 → a ≠ 21 → ca_G G p m a b = G a b := fun a b h1 h2 h3 => ca_G_k h1 h2 h3
  have e19 : ca_G G p m 19 0 = G 19 0 + 1 := mm_up_s _ _ _ _
  refine ⟨?_, ?_, fun i hi => ?_, fun i hi => ?_⟩
  · simpa [e1] using r1
  · simpa [e1] using r2
  · rw [e19] at hi
    rw [e1 16 0 (by decide) (by decide) (by decide)]
    by_cases e : i = G 19 0
    · have : ca_G G p m 20 i = p := by
        unfold ca_G
        rw [mm_up_k _ _ _ _ (by decide), mm_up_k _ _ _ _ (by decide), e, mm_up_s]
      omega
    · rw [ca_G_i (by decide) e]
      exact r3 i (by omega)
  · have hi2 : cc_l G 13 i := by
      have := (show i / 50 < ca_G G p m 4 0 ∧ i % 50 < ca_G G p m 12 (i / 50) from hi)
      rw [e1 4 0 (by decide) (by decide) (by decide), e1 12 _ (by decide) (by decide) (by decide)] at this
      exact this
    rw [e19, e1 13 _ (by decide) (by decide) (by decide), e1 14 _ (by decide) (by decide) (by decide), e1 2 _ (by decide) (by decide) (by decide)]
    have := r4 i hi2
    omega
theorem ri_r {g z f o s9 : Nat} (hr : cc_r G) : cc_r (ri_G G g z f o s9) := by
  obtain ⟨r1, r2, r3, r4⟩ := hr
  have e1 : ∀ a b, a ≠ 22 → a ≠ 23 → a ≠ 24 → a ≠ 25 → a ≠ 26 → a ≠ 27 → ri_G G g z f o s9 a b = G a b := fun a b h1 h2 h3 h4 h5 h6 => ri_G_k h1 h2 h3 h4 h5 h6
  refine ⟨?_, ?_, ?_, fun i hi => ?_⟩
  · simpa [e1] using r1
  · simpa [e1] using r2
  · simpa [e1] using r3
  · have hi2 : cc_l G 13 i := by
      have := (show i / 50 < ri_G G g z f o s9 4 0 ∧ i % 50 < ri_G G g z f o s9 12 (i / 50) from hi)
      simp [e1] at this
      exact this
    simpa [e1] using r4 i hi2
theorem ca_same {p m : Nat} : ∀ k i, cc_l G k i → cc_same G (ca_G G p m) w w k i := by
  intro k i ql
  have e1 : ∀ a b, a ≠ 19 → a ≠ 20 → a ≠ 21 → ca_G G p m a b = G a b := fun a b h1 h2 h3 => ca_G_k h1 h2 h3
  unfold cc_same
  split <;> try simp [e1]
  have hi : ¬ _ = G 19 0 := Nat.ne_of_lt ql
  exact ⟨ca_G_i (by decide) hi, ca_G_i (by decide) hi⟩
theorem ri_same {g z f o s9 : Nat} : ∀ k i, cc_l G k i → cc_same G (ri_G G g z f o s9) w w k i := by
  intro k i ql
  have e1 : ∀ a b, a ≠ 22 → a ≠ 23 → a ≠ 24 → a ≠ 25 → a ≠ 26 → a ≠ 27 → ri_G G g z f o s9 a b = G a b := fun a b h1 h2 h3 h4 h5 h6 => ri_G_k h1 h2 h3 h4 h5 h6
  unfold cc_same
  split <;> try simp [e1]
  have hi : ¬ _ = G 22 0 := Nat.ne_of_lt ql
  exact ⟨ri_G_i (by decide) hi, ri_G_i (by decide) hi, ri_G_i (by decide) hi, ri_G_i (by decide) hi, ri_G_i (by decide) hi⟩

set_option maxRecDepth 20000 in
theorem j_C_card_ok (hl : l.flags = flags0) (Z : cr_Z0 s0 D ca e0) (h : cc_H s0 D ca e0 O H A G w) (hr : cc_r G) {p m : Nat} (hp : p < G 16 0) (h16 : G 16 0 ≤ 40) (hm : m ≤ 1000000) (h19 : G 19 0 < 60) : cr_c l s0 y_C_card cw_C_card 8 2 112 [.ref (A 14 0), .int (nI p), .int (nI m)] H (fun o H' => ∃ ea, o = .inl (some (.int (nI (G 19 0)))) ∧ cc_H s0 D ca e0 (fun x => O x ∨ H.size ≤ x) H' (ad_A A 3 (G 19 0) H.size ea) (ca_T G p m) (w_k w (G 19 0 + 1) (w.1 1 0)) ∧ cr_Fr O H H') := by
  refine cr_enter (by decide +kernel) (Nat.le_of_ble_eq_true rfl) (fun hlo P9 E9 S9 M9 A9 B9 T9 C9 C hem hH => ?_)
  obtain ⟨md, hal, -⟩ := (h.li 3 (by decide)).2
  refine cr_vc [] 120 (s_C_card hl Z C hem) (fun K hK => ?_)
  conv => whnf
  refine ⟨rfl, ?_⟩
  conv => whnf
  refine ⟨_, (h.c 14 0 rfl), _, _, _, _, j_C_personNumbered hl Z (h.c 14 0 rfl) (h.li 2 (by decide)) (show G 16 0 < 2 ^ 31 by omega) hp (h.c 2 p hp), by decide, cr_le rfl, cr_le rfl, cr_le rfl, fun v2 H2 q2 _ => ?_, fun kd H9 q9 _ => by cases q9.1⟩
  obtain ⟨q2a, q2b⟩ := q2
  cases q2a
  replace q2b := q2b.symm
  subst q2b
  conv => whnf
  refine ⟨cr_le rfl, ?_⟩
  conv => whnf
  refine ⟨rfl, ?_⟩
  conv => whnf
  refine ⟨_, _, _, _, j_C_checkMinute hl Z (mm_min_of hm), by decide, cr_le rfl, cr_le rfl, cr_le rfl, fun v7 H7 q7 _ => ?_, fun kd H9 q9 _ => by cases q9.1⟩
  obtain ⟨q7a, q7b⟩ := q7
  cases q7a
  replace q7b := q7b.symm
  subst q7b
  conv => whnf
  refine ⟨_, (h.c 14 0 rfl), ?_⟩
  conv => whnf
  refine ⟨rfl, ?_⟩
  conv => whnf
  refine ⟨_, hal, _, _, _, _, j_AL_sizeL hl Z (h.li 3 (by decide)), by decide, cr_le rfl, cr_le rfl, cr_le rfl, fun v14 H14 q14 _ => ?_, fun kd H9 q9 _ => by cases q9.1⟩
  obtain ⟨q14a, q14b⟩ := q14
  cases q14a
  replace q14b := q14b.symm
  subst q14b
  conv => whnf
  refine ⟨fun b21 => ?_, fun b21 => absurd (show nI (G 19 0) < nI 60 from nI_lt h19 (by decide)) b21⟩
  conv => whnf
  refine ⟨cr_le rfl, cr_le rfl, fun q34 H34 n34 => ?_⟩
  obtain ⟨e34, lq, sz34, at34, fr34⟩ := n34
  subst e34
  have li0 := h.li 3 (by decide)
  have he0 := cr_e0lt Z
  have l50 : A 5 3 < H.size := li0.lt.1
  have l60 : A 6 3 < H.size := by
    by_cases q6 : A 6 3 = e0
    · omega
    · exact li0.lt.2 q6
  have lx : A 14 0 < H.size := cr_at_lt (h.c 14 0 rfl)
  have xN := cr_at_eq (h.c 14 0 rfl) (fr34 _ lx)
  have liN := li0.fr (fr34 _ l50) (fr34 _ l60)
  obtain ⟨mdN, halN, -⟩ := liN.2
  conv => whnf
  refine ⟨rfl, ?_⟩
  conv => whnf
  refine ⟨_, xN, ?_⟩
  conv => whnf
  refine ⟨rfl, ?_⟩
  conv => whnf
  refine ⟨_, halN, _, _, _, _, j_AL_sizeL hl Z liN, by decide, cr_le rfl, cr_le rfl, cr_le rfl, fun v42 H42 q42 _ => ?_, fun kd H9 q9 _ => by cases q9.1⟩
  obtain ⟨q42a, q42b⟩ := q42
  cases q42a
  replace q42b := q42b.symm
  subst q42b
  conv => whnf
  refine ⟨rfl, ?_⟩
  conv => whnf
  refine ⟨_, _, _, _, j_Cd_init hl Z lq at34, by decide, cr_le rfl, cr_le rfl, cr_le rfl, fun v49 H49 q49 _ => ?_, fun kd H9 q9 _ => by cases q9.1⟩
  obtain ⟨qa, uI⟩ := q49
  cases qa
  have xI := cr_at_eq xN (uI.2.2 _ (by omega))
  have liI := liN.fr (uI.2.2 _ (by omega)) (uI.2.2 _ (by omega))
  obtain ⟨mdI, halI, -⟩ := liI.2
  have frI : cr_Fr (fun _ => False) H H49 := ⟨by rw [uI.1, sz34]; omega, fun q a _ => (uI.2.2 q (by omega)).trans (fr34 q a)⟩
  have oldI : cr_Old s0 H49 := frI.old h.old hlo (fun _ q => q.elim)
  conv => whnf
  refine ⟨cr_le rfl, ?_⟩
  conv => whnf
  refine ⟨_, xI, ?_⟩
  conv => whnf
  refine ⟨rfl, ?_⟩
  conv => whnf
  refine ⟨_, halI, _, _, _, _, j_AL_add (v := H.size) hl Z oldI liI (show G 19 0 ≤ 72 by omega) (fun i hi => ⟨fun e => absurd (h.2.2.2.2.1 3 i 5 3 (Or.inl hi) (Or.inl (show 3 < 5 by decide)) e).1 (by decide), 1, _, by decide, frI.at (h.c 3 i hi) (fun q => q)⟩) ⟨1, _, by decide, uI.2.1⟩ (by omega), by decide, cr_le rfl, cr_le rfl, cr_le rfl, fun v60 H60 q60 _ => ?_, fun kd H9 q9 _ => by cases q9.1⟩
  obtain ⟨qa, ea, liA, hea, frA⟩ := q60
  cases qa
  have ntp : ∀ k i, cc_l G k i → cc_o k = true → ¬ cr_tp s0 (A 5 3) (A 6 3) (A k i) := by
    rintro k i ql qo (e | ⟨e, e2⟩)
    · have := (h.2.2.2.2.1 k i 5 3 (Or.inl ql) (Or.inl (show 3 < 5 by decide)) e).1
      subst this
      cases qo
    · by_cases q6 : A 6 3 = e0
      · omega
      · have := (h.2.2.2.2.1 k i 6 3 (Or.inl ql) (Or.inr (Or.inl ⟨rfl, by decide, q6⟩)) e).1
        subst this
        cases qo
  have atA := frA.at uI.2.1 (by
    rintro (e | ⟨e, -⟩)
    · omega
    · omega)
  have xA := frA.at xI (ntp 14 0 rfl rfl)
  have kA := frA.at (frI.at (h.c 9 0 (Nat.zero_le _)) (fun q => q)) (ntp 9 0 (Nat.zero_le _) rfl)
  obtain ⟨mdA, halA, -⟩ := liA.2
  have frT := frI.trans frA (fun _ _ q => q.elim) (fun _ _ q => q)
  have frO : cr_Fr O H H60 := frI.trans frA (fun _ _ q => q.elim) (fun q hq hT => by
    rcases hT with e | ⟨e, e2⟩
    · rw [e]
      exact (h.lo 5 3 (show 3 < 5 by decide)).2
    · by_cases q6 : A 6 3 = e0
      · omega
      · rw [e]
        exact (h.1 6 3 (Or.inr (Or.inl ⟨rfl, by decide, q6⟩))).2)
  have hA : cc_H s0 D ca e0 (fun x => O x ∨ H.size ≤ x) H60 (ad_A A 3 (G 19 0) H.size ea) (ca_G G p m) w := by
    refine cc_add he0 h hlo (j := 3) (by decide) (mm_up_s _ _ _ _) (fun i hi hne => ca_G_q _ _ ?_) (fun d => ca_G_q _ _ (by decide)) frT (Nat.le_refl _) ?_ ?_ liA (fun k i ql qo => cc_c_of hr (ad_hA (j := 3) (by decide)) ql qo (ca_same k i ql))
    · have := cc_n_in hi
      rcases (show i = 0 ∨ i = 1 ∨ i = 2 ∨ i = 3 ∨ i = 4 by omega) with rfl | rfl | rfl | rfl | rfl <;> first | exact absurd rfl hne | decide
    · rcases hea with e | e
      · exact Or.inl e
      · exact Or.inr (by rw [e, uI.1, sz34]; omega)
    · show va_at D kc (H.size, Sum.inr (1, [Value.int (nI (G 19 0)), Value.ref (ad_A A 3 (G 19 0) H.size ea 2 (ca_G G p m 20 (G 19 0))), Value.int (nI (ca_G G p m 21 (G 19 0)))])) H60
      rw [show ca_G G p m 20 (G 19 0) = p by unfold ca_G; rw [mm_up_k _ _ _ _ (by decide), mm_up_k _ _ _ _ (by decide), mm_up_s], show ca_G G p m 21 (G 19 0) = m by unfold ca_G; rw [mm_up_k _ _ _ _ (by decide), mm_up_s], ad_A_old (by omega) (by omega)]
      exact atA
  conv => whnf
  refine ⟨rfl, ?_⟩
  conv => whnf
  refine ⟨_, xA, ?_⟩
  conv => whnf
  refine ⟨_, xA, ?_⟩
  conv => whnf
  refine ⟨rfl, ?_⟩
  conv => whnf
  refine ⟨_, halA, _, _, _, _, j_AL_sizeL hl Z liA, by decide, cr_le rfl, cr_le rfl, cr_le rfl, fun v74 H74 q74 _ => ?_, fun kd H9 q9 _ => by cases q9.1⟩
  obtain ⟨q74a, q74b⟩ := q74
  cases q74a
  replace q74b := q74b.symm
  subst q74b
  conv => whnf
  refine ⟨_, kA, (h.lo 9 0 (Nat.zero_le _)).1, ⟨rfl, rfl⟩, ?_⟩
  conv => whnf
  intro H79 u79
  have hF := cc_know Z (ca_r hr hp) hA (x := G 19 0 + 1) (y := w.1 1 0) (fun a b h1 h2 h3 h4 => ca_T_k h1 h2 h3 h4) (G' := ca_T G p m) (by
    rw [ad_A_old (k := 9) (by omega) (by omega), ad_A_old (k := 10) (by omega) (by omega), ad_A_old (k := 11) (by omega) (by omega)]
    exact u79)
  conv => whnf
  refine ⟨_, (cr_at_eq atA (u79.2.2 _ (by have := cr_at_lt (h.c 9 0 (Nat.zero_le _)); omega))), ?_⟩
  conv => whnf
  refine ⟨cr_le rfl, cr_le rfl, ea, rfl, hF, frO.trans u79.fr (fun _ _ q => q) (fun q _ e => ?_)⟩
  rw [e]
  exact (h.lo 9 0 (Nat.zero_le _)).2
set_option maxRecDepth 20000 in
theorem j_C_right_ok (hl : l.flags = flags0) (Z : cr_Z0 s0 D ca e0) (h : cc_H s0 D ca e0 O H A G w) (hr : cc_r G) {g z f o s9 : Nat} (hg : g < 10) (hz : z < 10) (hf : f < 1440) (ho : o < 1440) (hm : s9 ≤ 1000000) (h22 : G 22 0 < 16) : cr_c l s0 y_C_right cw_C_right 8 2 114 [.ref (A 14 0), .int (nI g), .int (nI z), .int (nI f), .int (nI o), .int (nI s9)] H (fun r H' => ∃ ea, r = .inl (some (.int (nI (G 22 0)))) ∧ cc_H s0 D ca e0 (fun x => O x ∨ H.size ≤ x) H' (ad_A A 4 (G 22 0) H.size ea) (ri_T G g z f o s9) (w_k w (w.1 0 0) (G 22 0 + 1)) ∧ cr_Fr O H H') := by
  refine cr_enter (by decide +kernel) (Nat.le_of_ble_eq_true rfl) (fun hlo P9 E9 S9 M9 A9 B9 T9 C9 C hem hH => ?_)
  obtain ⟨md, hal, -⟩ := (h.li 4 (by decide)).2
  refine cr_vc [] 120 (s_C_right hl Z C hem) (fun K hK => ?_)
  conv => whnf
  refine ⟨rfl, ?_⟩
  conv => whnf
  refine ⟨_, _, _, _, j_C_checkGroup hl Z (mm_in_of (n := 10) hg (by decide)), by decide, cr_le rfl, cr_le rfl, cr_le rfl, fun v1 H1 q1 _ => ?_, fun kd H9 q9 _ => by cases q9.1⟩
  obtain ⟨q1a, q1b⟩ := q1
  cases q1a
  replace q1b := q1b.symm
  subst q1b
  conv => whnf
  refine ⟨rfl, ?_⟩
  conv => whnf
  refine ⟨_, _, _, _, j_C_checkZone hl Z (mm_in_of (n := 10) hz (by decide)), by decide, cr_le rfl, cr_le rfl, cr_le rfl, fun v5 H5 q5 _ => ?_, fun kd H9 q9 _ => by cases q9.1⟩
  obtain ⟨q5a, q5b⟩ := q5
  cases q5a
  replace q5b := q5b.symm
  subst q5b
  conv => whnf
  refine ⟨rfl, ?_⟩
  conv => whnf
  refine ⟨_, _, _, _, j_C_checkTimeOfDay hl Z (mm_in_of (n := 1440) hf (by decide)), by decide, cr_le rfl, cr_le rfl, cr_le rfl, fun v9 H9 q9 _ => ?_, fun kd H9 q9 _ => by cases q9.1⟩
  obtain ⟨q9a, q9b⟩ := q9
  cases q9a
  replace q9b := q9b.symm
  subst q9b
  conv => whnf
  refine ⟨rfl, ?_⟩
  conv => whnf
  refine ⟨_, _, _, _, j_C_checkTimeOfDay hl Z (mm_in_of (n := 1440) ho (by decide)), by decide, cr_le rfl, cr_le rfl, cr_le rfl, fun v14 H14 q14 _ => ?_, fun kd H9 q9 _ => by cases q9.1⟩
  obtain ⟨q14a, q14b⟩ := q14
  cases q14a
  replace q14b := q14b.symm
  subst q14b
  conv => whnf
  refine ⟨rfl, ?_⟩
  conv => whnf
  refine ⟨_, _, _, _, j_C_checkMinute hl Z (mm_min_of hm), by decide, cr_le rfl, cr_le rfl, cr_le rfl, fun v19 H19 q19 _ => ?_, fun kd H9 q9 _ => by cases q9.1⟩
  obtain ⟨q19a, q19b⟩ := q19
  cases q19a
  replace q19b := q19b.symm
  subst q19b
  conv => whnf
  refine ⟨_, (h.c 14 0 rfl), ?_⟩
  conv => whnf
  refine ⟨rfl, ?_⟩
  conv => whnf
  refine ⟨_, hal, _, _, _, _, j_AL_sizeL hl Z (h.li 4 (by decide)), by decide, cr_le rfl, cr_le rfl, cr_le rfl, fun v26 H26 q26 _ => ?_, fun kd H9 q9 _ => by cases q9.1⟩
  obtain ⟨q26a, q26b⟩ := q26
  cases q26a
  replace q26b := q26b.symm
  subst q26b
  conv => whnf
  refine ⟨fun b33 => ?_, fun b33 => absurd (show nI (G 22 0) < nI 16 from nI_lt h22 (by decide)) b33⟩
  conv => whnf
  refine ⟨_, (h.c 14 0 rfl), ?_⟩
  conv => whnf
  refine ⟨cr_le rfl, cr_le rfl, fun q50 H50 n50 => ?_⟩
  obtain ⟨e50, lq, sz50, at50, fr50⟩ := n50
  subst e50
  have li0 := h.li 4 (by decide)
  have he0 := cr_e0lt Z
  have l50 : A 5 4 < H.size := li0.lt.1
  have l60 : A 6 4 < H.size := by
    by_cases q6 : A 6 4 = e0
    · omega
    · exact li0.lt.2 q6
  have lx : A 14 0 < H.size := cr_at_lt (h.c 14 0 rfl)
  have xN := cr_at_eq (h.c 14 0 rfl) (fr50 _ lx)
  have liN := li0.fr (fr50 _ l50) (fr50 _ l60)
  obtain ⟨mdN, halN, -⟩ := liN.2
  conv => whnf
  refine ⟨rfl, ?_⟩
  conv => whnf
  refine ⟨rfl, ?_⟩
  conv => whnf
  refine ⟨_, _, _, _, j_Ri_init hl Z lq at50, by decide, cr_le rfl, cr_le rfl, cr_le rfl, fun v61 H61 q61 _ => ?_, fun kd H9 q9 _ => by cases q9.1⟩
  obtain ⟨qa, uI⟩ := q61
  cases qa
  have xI := cr_at_eq xN (uI.2.2 _ (by omega))
  have liI := liN.fr (uI.2.2 _ (by omega)) (uI.2.2 _ (by omega))
  obtain ⟨mdI, halI, -⟩ := liI.2
  have frI : cr_Fr (fun _ => False) H H61 := ⟨by rw [uI.1, sz50]; omega, fun q a _ => (uI.2.2 q (by omega)).trans (fr50 q a)⟩
  have oldI : cr_Old s0 H61 := frI.old h.old hlo (fun _ q => q.elim)
  conv => whnf
  refine ⟨rfl, ?_⟩
  conv => whnf
  refine ⟨_, halI, _, _, _, _, j_AL_add (v := H.size) hl Z oldI liI (show G 22 0 ≤ 72 by omega) (fun i hi => ⟨fun e => absurd (h.2.2.2.2.1 4 i 5 4 (Or.inl hi) (Or.inl (show 4 < 5 by decide)) e).1 (by decide), 7, _, by decide, frI.at (h.c 4 i hi) (fun q => q)⟩) ⟨7, _, by decide, uI.2.1⟩ (by omega), by decide, cr_le rfl, cr_le rfl, cr_le rfl, fun v64 H64 q64 _ => ?_, fun kd H9 q9 _ => by cases q9.1⟩
  obtain ⟨qa, ea, liA, hea, frA⟩ := q64
  cases qa
  have ntp : ∀ k i, cc_l G k i → cc_o k = true → ¬ cr_tp s0 (A 5 4) (A 6 4) (A k i) := by
    rintro k i ql qo (e | ⟨e, e2⟩)
    · have := (h.2.2.2.2.1 k i 5 4 (Or.inl ql) (Or.inl (show 4 < 5 by decide)) e).1
      subst this
      cases qo
    · by_cases q6 : A 6 4 = e0
      · omega
      · have := (h.2.2.2.2.1 k i 6 4 (Or.inl ql) (Or.inr (Or.inl ⟨rfl, by decide, q6⟩)) e).1
        subst this
        cases qo
  have atA := frA.at uI.2.1 (by
    rintro (e | ⟨e, -⟩)
    · omega
    · omega)
  have xA := frA.at xI (ntp 14 0 rfl rfl)
  have kA := frA.at (frI.at (h.c 9 0 (Nat.zero_le _)) (fun q => q)) (ntp 9 0 (Nat.zero_le _) rfl)
  obtain ⟨mdA, halA, -⟩ := liA.2
  have frT := frI.trans frA (fun _ _ q => q.elim) (fun _ _ q => q)
  have frO : cr_Fr O H H64 := frI.trans frA (fun _ _ q => q.elim) (fun q hq hT => by
    rcases hT with e | ⟨e, e2⟩
    · rw [e]
      exact (h.lo 5 4 (show 4 < 5 by decide)).2
    · by_cases q6 : A 6 4 = e0
      · omega
      · rw [e]
        exact (h.1 6 4 (Or.inr (Or.inl ⟨rfl, by decide, q6⟩))).2)
  have hA : cc_H s0 D ca e0 (fun x => O x ∨ H.size ≤ x) H64 (ad_A A 4 (G 22 0) H.size ea) (ri_G G g z f o s9) w := by
    refine cc_add he0 h hlo (j := 4) (by decide) (mm_up_s _ _ _ _) (fun i hi hne => ri_G_q _ _ ?_) (fun d => ri_G_q _ _ (by decide)) frT (Nat.le_refl _) ?_ ?_ liA (fun k i ql qo => cc_c_of hr (ad_hA (j := 4) (by decide)) ql qo (ri_same k i ql))
    · have := cc_n_in hi
      rcases (show i = 0 ∨ i = 1 ∨ i = 2 ∨ i = 3 ∨ i = 4 by omega) with rfl | rfl | rfl | rfl | rfl <;> first | exact absurd rfl hne | decide
    · rcases hea with e | e
      · exact Or.inl e
      · exact Or.inr (by rw [e, uI.1, sz50]; omega)
    · show va_at D kc (H.size, Sum.inr (7, [Value.int (nI (ri_G G g z f o s9 23 (G 22 0))), Value.int (nI (ri_G G g z f o s9 24 (G 22 0))), Value.int (nI (ri_G G g z f o s9 25 (G 22 0))), Value.int (nI (ri_G G g z f o s9 26 (G 22 0))), Value.int (nI (ri_G G g z f o s9 27 (G 22 0)))])) H64
      rw [show ri_G G g z f o s9 23 (G 22 0) = g by unfold ri_G; rw [mm_up_k _ _ _ _ (by decide), mm_up_k _ _ _ _ (by decide), mm_up_k _ _ _ _ (by decide), mm_up_k _ _ _ _ (by decide), mm_up_k _ _ _ _ (by decide), mm_up_s], show ri_G G g z f o s9 24 (G 22 0) = z by unfold ri_G; rw [mm_up_k _ _ _ _ (by decide), mm_up_k _ _ _ _ (by decide), mm_up_k _ _ _ _ (by decide), mm_up_k _ _ _ _ (by decide), mm_up_s], show ri_G G g z f o s9 25 (G 22 0) = f by unfold ri_G; rw [mm_up_k _ _ _ _ (by decide), mm_up_k _ _ _ _ (by decide), mm_up_k _ _ _ _ (by decide), mm_up_s], show ri_G G g z f o s9 26 (G 22 0) = o by unfold ri_G; rw [mm_up_k _ _ _ _ (by decide), mm_up_k _ _ _ _ (by decide), mm_up_s], show ri_G G g z f o s9 27 (G 22 0) = s9 by unfold ri_G; rw [mm_up_k _ _ _ _ (by decide), mm_up_s]]
      exact atA
  conv => whnf
  refine ⟨rfl, ?_⟩
  conv => whnf
  refine ⟨_, xA, ?_⟩
  conv => whnf
  refine ⟨_, xA, ?_⟩
  conv => whnf
  refine ⟨rfl, ?_⟩
  conv => whnf
  refine ⟨_, halA, _, _, _, _, j_AL_sizeL hl Z liA, by decide, cr_le rfl, cr_le rfl, cr_le rfl, fun v78 H78 q78 _ => ?_, fun kd H9 q9 _ => by cases q9.1⟩
  obtain ⟨q78a, q78b⟩ := q78
  cases q78a
  replace q78b := q78b.symm
  subst q78b
  conv => whnf
  refine ⟨_, kA, (h.lo 9 0 (Nat.zero_le _)).1, ⟨rfl, rfl⟩, ?_⟩
  conv => whnf
  intro H83 u83
  have hF := cc_know Z (ri_r hr) hA (x := w.1 0 0) (y := G 22 0 + 1) (fun a b h1 h2 h3 h4 => ri_T_k h1 h2 h3 h4) (G' := ri_T G g z f o s9) (by
    rw [ad_A_old (k := 9) (by omega) (by omega), ad_A_old (k := 10) (by omega) (by omega), ad_A_old (k := 11) (by omega) (by omega)]
    exact u83)
  have n9x : A 9 0 ≠ A 14 0 := fun e => absurd (h.2.2.2.2.1 9 0 14 0 (Or.inl (Nat.zero_le _)) (Or.inl rfl) e).1 (by decide)
  have n95 : A 9 0 ≠ A 5 4 := fun e => absurd (h.2.2.2.2.1 9 0 5 4 (Or.inl (Nat.zero_le _)) (Or.inl (show 4 < 5 by decide)) e).1 (by decide)
  have xP := cr_at_eq xA (u83.2.2 _ n9x.symm)
  have halP := cr_at_eq halA (u83.2.2 _ n95.symm)
  conv => whnf
  refine ⟨_, xP, ?_⟩
  conv => whnf
  refine ⟨rfl, ?_⟩
  conv => whnf
  refine ⟨_, halP, _, _, _, _, j_AL_size hl Z halP, by decide, cr_le rfl, cr_le rfl, cr_le rfl, fun v90 H90 q90 _ => ?_, fun kd H9 q9 _ => by cases q9.1⟩
  obtain ⟨q90a, q90b⟩ := q90
  cases q90a
  replace q90b := q90b.symm
  subst q90b
  conv => whnf
  refine ⟨cr_le rfl, cr_le rfl, ea, congrArg (fun x => Sum.inl (some (Value.int x))) (cr_p1 (G 22 0)), hF, frO.trans u83.fr (fun _ _ q => q) (fun q _ e => ?_)⟩
  rw [e]
  exact (h.lo 9 0 (Nat.zero_le _)).2
end CCR
