/-! THE CLASS: a door's rows are gone through (printed by gen/comp24.py) -/
section CGO
variable {l : Launch} {s0 : State} {D : va_G} {ca : Nat → ClassId} {e0 : Nat} {O : Nat → Prop} {H H' : Heap} {A : Nat → Nat → Nat} {G G1 G' : mm_G} {w w1 : cc_W}
def cc_F (G : mm_G) (w : cc_W) : Prop := ∀ k q, k < 100 → k < G 34 0 → q < 4 → w.2.2.2.1 (4 * k + q) = nI (G (35 + q) k)
def go_E (G G1 : mm_G) : Prop := ∀ a b, a ≠ 18 → (a < 34 ∨ 38 < a) → G1 a b = G a b
theorem mm_wy_le (G : mm_G) (c r m b : Nat) (f : Int32) : mm_wy G c r m b f ≤ 0 ↔ mm_wy G c r m b f = 0 := by
  rcases mm_wy_v G c r m b f with e | e | e | e | e | e <;> rw [e] <;> decide
theorem os_34 {d k : Nat} : mm_os G1 d k 34 0 = if mm_oi G1 d k ≤ 0 then G1 34 0 else G1 34 0 + 1 := mm_up_s _ _ _ _
theorem os_18 {d k i : Nat} : mm_os G1 d k 18 i = if i = G1 20 (G1 13 (50 * d + k)) then G1 14 (50 * d + k) else G1 18 i := by
  unfold mm_os
  rw [mm_up_k _ _ _ _ (by decide)]
  unfold mm_o2
  split
  · rw [mm_up_k _ _ _ _ (by decide), mm_up_k _ _ _ _ (by decide), mm_up_k _ _ _ _ (by decide), mm_up_k _ _ _ _ (by decide)]
    exact mm_up_at _ _ _ _ _
  · exact mm_up_at _ _ _ _ _
theorem go_E.st {d k : Nat} (h : go_E G G1) : go_E G (mm_os G1 d k) := fun a b h1 h2 => (mm_os_k h1 (by omega) (by omega) (by omega) (by omega) (by omega)).trans (h a b h1 h2)
/-- no finding -/
theorem os_none {d k : Nat} (h : mm_oi G1 d k = 0) : mm_os G1 d k = mm_o1 G1 d k := by
  have h0 : mm_oi G1 d k ≤ 0 := by rw [h]; decide
  unfold mm_os
  rw [if_pos h0]
  unfold mm_o2
  rw [if_neg (fun q => q.1 h0)]
  exact mm_up_self (mm_o1 G1 d k) 34 0
theorem cc_F_none {d k : Nat} (hF : cc_F G1 w1) : cc_F (mm_o1 G1 d k) w1 := by
  intro k2 q h1 h2 h3
  have e : ∀ a b, a ≠ 18 → mm_o1 G1 d k a b = G1 a b := fun a b ha => mm_up_k _ _ _ _ ha
  rw [e 34 0 (by decide)] at h2
  rw [e (35 + q) k2 (by omega)]
  exact hF k2 q h1 h2 h3
/-- a finding -/
theorem cc_F_some {d k : Nat} (h : ¬ mm_oi G1 d k = 0) (h34 : G1 34 0 < 2 ^ 31) (hF : cc_F G1 w1) : cc_F (mm_os G1 d k) (w_f w1 (G1 34 0) (nI d) (nI (G1 13 (50 * d + k))) (nI (G1 15 (50 * d + k))) (mm_oi G1 d k)) := by
  have h0 : ¬ mm_oi G1 d k ≤ 0 := fun q => h ((mm_wy_le _ _ _ _ _ _).mp q)
  intro k2 q h1 h2 h3
  rw [os_34, if_neg h0] at h2
  have e9 : mm_os G1 d k (35 + q) k2 = mm_o2 G1 d k (35 + q) k2 := mm_up_k _ _ _ _ (by omega)
  rw [e9]
  unfold w_f mm_o2
  by_cases h100 : G1 34 0 < 100
  · have hn : ¬ 100 ≤ nI (G1 34 0) := cr_nle (b := G1 34 0) (a := 100) h100 (by decide)
    rw [if_pos (show ¬ mm_oi G1 d k ≤ 0 ∧ ¬ 100 ≤ nI (G1 34 0) from ⟨h0, hn⟩), if_pos h100]
    have hy : nI (mm_oi G1 d k).toNatClampNeg = mm_oi G1 d k := (mm_wy_n _ _ _ _ _ _).symm
    by_cases e : k2 = G1 34 0
    · rw [e]
      rcases (show q = 0 ∨ q = 1 ∨ q = 2 ∨ q = 3 by omega) with rfl | rfl | rfl | rfl
      · rw [mm_up_k _ _ _ _ (by decide), mm_up_k _ _ _ _ (by decide), mm_up_k _ _ _ _ (by decide), mm_up_s]
        simp [upd]
      · rw [mm_up_k _ _ _ _ (by decide), mm_up_k _ _ _ _ (by decide), mm_up_s]
        simp [upd]
      · rw [mm_up_k _ _ _ _ (by decide), mm_up_s]
        simp [upd]
      · rw [mm_up_s, hy]
        simp [upd]
    · rw [mm_up_i _ _ _ _ e, mm_up_i _ _ _ _ e, mm_up_i _ _ _ _ e, mm_up_i _ _ _ _ e]
      have e2 : mm_o1 G1 d k (35 + q) k2 = G1 (35 + q) k2 := mm_up_k _ _ _ _ (by omega)
      rw [e2, ← hF k2 q h1 (by omega) h3]
      have u : ∀ (f : Nat → Int32) (i : Nat) (v : Int32) (j : Nat), j ≠ i → upd f i v j = f j := fun f i v j hj => by simp [upd, hj]
      dsimp only
      rw [u _ _ _ _ (by omega), u _ _ _ _ (by omega), u _ _ _ _ (by omega), u _ _ _ _ (by omega)]
  · have hn : 100 ≤ nI (G1 34 0) := nI_le (show 100 ≤ G1 34 0 by omega) h34
    rw [if_neg (show ¬ (¬ mm_oi G1 d k ≤ 0 ∧ ¬ 100 ≤ nI (G1 34 0)) from fun z => z.2 hn), if_neg h100]
    have e2 : mm_o1 G1 d k (35 + q) k2 = G1 (35 + q) k2 := mm_up_k _ _ _ _ (by omega)
    rw [e2]
    exact hF k2 q h1 (by omega) h3
/-- what is named is there, after a row -/
theorem go_r {d : Nat} (hr : cc_r G) (hE : go_E G G1) (h18 : ∀ i, i < G 16 0 → G1 18 i < G 2 0) : cc_r (mm_up G1 10 d 9000) := by
  have e : ∀ a b, a ≠ 10 → a ≠ 18 → a < 34 → mm_up G1 10 d 9000 a b = G a b := fun a b h1 h2 h3 => by rw [mm_up_k _ _ _ _ h1, hE a b h2 (Or.inl h3)]
  obtain ⟨r1, r2, r3, r4⟩ := hr
  refine ⟨?_, fun i hi => ?_, ?_, fun i hi => ?_⟩
  · simpa [e] using r1
  · rw [e 16 0 (by decide) (by decide) (by decide)] at hi
    rw [mm_up_k _ _ _ _ (by decide), e 2 0 (by decide) (by decide) (by decide)]
    exact h18 i hi
  · simpa [e] using r3
  · have hi2 : cc_l G 13 i := by
      have := (show i / 50 < mm_up G1 10 d 9000 4 0 ∧ i % 50 < mm_up G1 10 d 9000 12 (i / 50) from hi)
      simp [e] at this
      exact this
    simpa [e] using r4 i hi2

set_option maxRecDepth 20000 in
theorem j_C_rows (hl : l.flags = flags0) (Z : cr_Z0 s0 D ca e0) {d : Nat} (h : cc_H s0 D ca e0 O H A (mm_up G 10 d 9000) w) (hr : cc_r G) (hd : d < G 4 0) (h50 : G 12 d ≤ 50) (h19 : G 19 0 ≤ 60) (h22 : G 22 0 ≤ 16) (h34 : G 34 0 + 50 < 2 ^ 31) (h31 : ∀ q, q < G 28 0 → G 31 q < 2 ^ 31) (hk0 : cc_k G w 0 9000) (hF : cc_F G w) : cr_c l s0 y_C_goThroughRows cw_C_goThroughRows 5 0 0 [.ref (A 14 0), .ref (A 1 d)] H (fun o H' => o = .inl (some (.int (nI (G 12 d)))) ∧ ∃ w', cc_H s0 D ca e0 (fun x => O x ∨ H.size ≤ x) H' A (mm_up (mm_up (mm_ol d 0 (G 12 d) G) 12 d 0) 10 d 9000) w' ∧ cc_F (mm_ol d 0 (G 12 d) G) w' ∧ (w'.1 = w.1 ∧ w'.2.1 = w.2.1 ∧ w'.2.2.1 = w.2.2.1 ∧ w'.2.2.2.2 = w.2.2.2.2) ∧ cr_Fr O H H') := by
  refine cr_enter (by decide +kernel) (Nat.le_of_ble_eq_true rfl) (fun hlo P9 E9 S9 M9 A9 B9 T9 C9 C hem hH => ?_)
  have li0 : cr_li s0 D ca e0 H (A 7 d) (A 8 d) (G 12 d) (fun j => A 13 (50 * d + j)) := h.2.2.2.1 d hd
  obtain ⟨md0, hal0, -⟩ := li0.2
  have loop : ∀ (j k : Nat) (G1 : mm_G) (w1 : cc_W) (H1 : Heap), k + j = G 12 d → mm_ol d k j G1 = mm_ol d 0 (G 12 d) G → go_E G G1 → (∀ i, i < G 16 0 → G1 18 i < G 2 0) → G1 34 0 ≤ G 34 0 + k → (w1.1 = w.1 ∧ w1.2.1 = w.2.1 ∧ w1.2.2.1 = w.2.2.1 ∧ w1.2.2.2.2 = w.2.2.2.2) → cc_F G1 w1 → cc_H s0 D ca e0 O H1 A (mm_up G1 10 d 9000) w1 → cr_Fr O H H1 → cr_G P9 l E9 (cr_rm 5 0 0) S9 M9 A9 B9 T9 C9 s0.heap.size 0 0 (fun o H' => o = .inl (some (.int (nI (G 12 d)))) ∧ ∃ w', cc_H s0 D ca e0 (fun x => O x ∨ H.size ≤ x) H' A (mm_up (mm_up (mm_ol d 0 (G 12 d) G) 12 d 0) 10 d 9000) w' ∧ cc_F (mm_ol d 0 (G 12 d) G) w' ∧ (w'.1 = w.1 ∧ w'.2.1 = w.2.1 ∧ w'.2.2.1 = w.2.2.1 ∧ w'.2.2.2.2 = w.2.2.2.2) ∧ cr_Fr O H H') 12 [some (.ref (A 14 0)), some (.ref (A 1 d)), some (.int (nI (G 12 d))), some (.int (nI k)), none, none] [] H1 0 0 := by
    intro j
    induction j with
    | zero =>
      intro k G1 w1 H1 hkj hol iE i18 i34 iw iF h1 fr1
      have hr1 := go_r (d := d) hr iE i18
      have k4 : mm_up G1 10 d 9000 4 0 = G 4 0 := iE 4 0 (by decide) (by decide)
      have k12 : mm_up G1 10 d 9000 12 d = G 12 d := iE 12 d (by decide) (by decide)
      have hd1 : d < mm_up G1 10 d 9000 4 0 := by rw [k4]; exact hd
      have li1 := h1.2.2.2.1 d hd1
      rw [k12] at li1
      obtain ⟨md, hal, -⟩ := li1.2
      refine cr_vc [12] 90 (s_C_goThroughRows hl Z C hem) (fun K hK => ?_)
      conv => whnf
      refine ⟨fun b14 => ?_, fun b14 => absurd (by rw [show k = G 12 d by omega]; exact Int32.le_refl _) b14⟩
      conv => whnf
      refine ⟨_, (h1.c 1 d hd1), ?_⟩
      conv => whnf
      refine ⟨rfl, ?_⟩
      conv => whnf
      refine ⟨_, hal, _, _, _, _, j_AL_clear hl Z li1, by decide, cr_le rfl, cr_le rfl, cr_le rfl, fun v97 H97 q97 _ => ?_, fun kd H9 q9 _ => by cases q9.1⟩
      obtain ⟨qa, liC, frC⟩ := q97
      cases qa
      conv => whnf
      have eL : G1 = mm_ol d 0 (G 12 d) G := hol
      have hk9 : k = G 12 d := by omega
      refine ⟨cr_le rfl, cr_le rfl, rfl, w1, ?_, ?_, iw, fr1.trans frC (fun _ _ q => q) (fun q hq hT => ?_)⟩
      · rw [← eL]
        refine (cc_clear (cr_e0lt Z) h1 hr1 (Nat.le_trans hlo fr1.1) hd1 (fun a b ha => ?_) (fun j hj => ?_) ?_ frC liC).weak (fun q hq => hq.imp id (fun hq => Nat.le_trans fr1.1 hq))
        · rw [mm_up_comm _ _ _ _ _ (by decide), mm_up_k _ _ _ _ ha]
        · rw [mm_up_comm _ _ _ _ _ (by decide), mm_up_i _ _ _ _ hj]
        · rw [mm_up_k _ _ _ _ (by decide), mm_up_s]
      · rw [← eL]
        exact iF
      · rcases hT with e | ⟨e, e2⟩
        · rw [e]
          exact (h1.lo 7 d hd1).2
        · by_cases q8 : A 8 d = e0
          · have := cr_e0lt Z
            omega
          · rw [e]
            exact (h1.1 8 d (Or.inr (Or.inr ⟨rfl, hd1, q8⟩))).2
    | succ j ih =>
      intro k G1 w1 H1 hkj hol iE i18 i34 iw iF h1 fr1
      have hr1 := go_r (d := d) hr iE i18
      have k4 : mm_up G1 10 d 9000 4 0 = G 4 0 := iE 4 0 (by decide) (by decide)
      have k12 : mm_up G1 10 d 9000 12 d = G 12 d := iE 12 d (by decide) (by decide)
      have hd1 : d < mm_up G1 10 d 9000 4 0 := by rw [k4]; exact hd
      have li1 := h1.2.2.2.1 d hd1
      rw [k12] at li1
      obtain ⟨md, hal, -⟩ := li1.2
      have hi1 : cc_l (mm_up G1 10 d 9000) 13 (50 * d + k) := by
        have q9 : (50 * d + k) / 50 < mm_up G1 10 d 9000 4 0 ∧ (50 * d + k) % 50 < mm_up G1 10 d 9000 12 ((50 * d + k) / 50) := by
          rw [show (50 * d + k) / 50 = d by omega, k4, k12]
          omega
        exact q9
      have hc1 : G1 13 (50 * d + k) < G1 19 0 := (hr1.2.2.2 _ hi1).1
      have hro1 : G1 14 (50 * d + k) < G1 2 0 := (hr1.2.2.2 _ hi1).2
      have hp1 : G1 20 (G1 13 (50 * d + k)) < G1 16 0 := hr1.2.2.1 _ hc1
      have hro2 : G1 14 (50 * d + k) < G 2 0 := by rw [← iE 2 0 (by decide) (by decide)]; exact hro1
      refine cr_vc [12] 90 (s_C_goThroughRows hl Z C hem) (fun K hK => ?_)
      conv => whnf
      refine ⟨fun b14 => absurd b14 (cr_nle (by omega) (by omega)), fun b14 => ?_⟩
      conv => whnf
      refine ⟨_, (h1.c 1 d hd1), ?_⟩
      conv => whnf
      refine ⟨rfl, ?_⟩
      conv => whnf
      refine ⟨_, hal, _, _, _, _, j_AL_get (i := k) hl Z li1 (by omega), by decide, cr_le rfl, cr_le rfl, cr_le rfl, fun v22 H22 q22 _ => ?_, fun kd H9 q9 _ => by cases q9.1⟩
      obtain ⟨q22a, q22b⟩ := q22
      cases q22a
      replace q22b := q22b.symm
      subst q22b
      conv => whnf
      refine ⟨_, (h1.c 13 (50 * d + k) hi1), ?_⟩
      conv => whnf
      refine ⟨cr_le rfl, ?_⟩
      conv => whnf
      refine ⟨_, (h1.c 13 (50 * d + k) hi1), ?_⟩
      conv => whnf
      refine ⟨_, (h1.c 3 (G1 13 (50 * d + k)) hc1), ?_⟩
      conv => whnf
      refine ⟨_, (h1.c 13 (50 * d + k) hi1), ?_⟩
      conv => whnf
      refine ⟨_, (h1.c 2 (G1 20 (G1 13 (50 * d + k))) hp1), (h1.lo 2 (G1 20 (G1 13 (50 * d + k))) hp1).1, ⟨rfl, rfl⟩, ?_⟩
      conv => whnf
      intro H45 u45
      have h2 : cc_H s0 D ca e0 O H45 A (mm_up (mm_o1 G1 d k) 10 d 9000) w1 := by
        refine h1.set Z hr1 (k := 2) (i := G1 20 (G1 13 (50 * d + k))) hp1 rfl ⟨u45.1, ?_, u45.2.2⟩ (fun a ha => ?_) (fun a => ?_) (fun a i q qo e => ?_)
        · show va_at D kc (A 2 (G1 20 (G1 13 (50 * d + k))), .inr (6, [.int (nI (mm_up (mm_o1 G1 d k) 10 d 9000 17 (G1 20 (G1 13 (50 * d + k))))), .ref (A 0 (mm_up (mm_o1 G1 d k) 10 d 9000 18 (G1 20 (G1 13 (50 * d + k)))))])) H45
          have e18 : mm_up (mm_o1 G1 d k) 10 d 9000 18 (G1 20 (G1 13 (50 * d + k))) = G1 14 (50 * d + k) := by
            rw [mm_up_k _ _ _ _ (by decide)]
            exact mm_up_s _ _ _ _
          rw [e18]
          exact u45.2.1
        · rw [mm_up_k _ _ _ _ (by omega), mm_up_k _ _ _ _ (by omega)]
          exact mm_up_k _ _ _ _ (by omega)
        · rw [mm_up_k _ _ _ _ (by decide), mm_up_k _ _ _ _ (by decide)]
          exact mm_up_k _ _ _ _ (by decide)
        · have e1 : ∀ x y, x ≠ 18 → mm_up (mm_o1 G1 d k) 10 d 9000 x y = mm_up G1 10 d 9000 x y := fun x y hx => by
            unfold mm_o1
            rw [← mm_up_comm _ _ _ _ _ (by decide), mm_up_k _ _ _ _ hx]
          unfold cc_same
          split <;> try simp [e1]
          rw [mm_up_k _ _ _ _ (by decide), mm_up_k _ _ _ _ (by decide)]
          exact mm_up_i _ _ _ _ (fun e9 => e ⟨rfl, e9⟩)
      have fr2 : cr_Fr O H H45 := fr1.trans (cc_Fr h1 (k := 2) (i := G1 20 (G1 13 (50 * d + k))) hp1 u45) (fun _ _ q => q) (fun _ _ q => q)
      have E2 : go_E G (mm_o1 G1 d k) := fun a b h1 h2 => (mm_up_k _ _ _ _ h1).trans (iE a b h1 h2)
      have J2 : ∀ i, i < G 16 0 → mm_o1 G1 d k 18 i < G 2 0 := fun i hi => by
        unfold mm_o1
        rw [mm_up_at]
        split
        · exact hro2
        · exact i18 i hi
      have hr2 := go_r (d := d) hr E2 J2
      have hi2 : cc_l (mm_up (mm_o1 G1 d k) 10 d 9000) 13 (50 * d + k) := hi1
      have kk0 : cc_k (mm_o1 G1 d k) w1 0 9000 := cc_k_of hk0 (fun a b q1 q2 => E2 a b (by omega) (by omega)) (E2 19 0 (by decide) (by decide)) (E2 22 0 (by decide) (by decide)) (by rw [iw.1]) (by rw [iw.1]) (by rw [iw.2.1]) (by rw [iw.2.2.1])
      have k19 : mm_o1 G1 d k 19 0 = G 19 0 := E2 19 0 (by decide) (by decide)
      have k22 : mm_o1 G1 d k 22 0 = G 22 0 := E2 22 0 (by decide) (by decide)
      have k28 : mm_o1 G1 d k 28 0 = G 28 0 := E2 28 0 (by decide) (by decide)
      have ew : lb_w (mm_up (mm_o1 G1 d k) 10 d 9000) w1 (50 * d + k) = mm_oi G1 d k := lb_w_eq (G := mm_o1 G1 d k) kk0 hc1 (by rw [k19]; exact h19) (by rw [k22]; exact h22) (fun q hq => by
        rw [k28] at hq
        rw [E2 31 q (by decide) (by decide)]
        exact h31 q hq)
      have c51 : cr_c l s0 y_C_refusalLookingBack cw_C_refusalLookingBack 4 0 0 [.ref (A 14 0), .ref (A 13 (50 * d + k))] H45 (cr_pu (some (.int (mm_oi G1 d k))) H45) := by
        rw [← ew]
        exact j_C_lookBack hl Z h2 hr2 hi2 (show mm_o1 G1 d k 19 0 ≤ 60 by rw [k19]; exact h19) (show mm_o1 G1 d k 22 0 ≤ 16 by rw [k22]; exact h22) (kk0.2.2.2.1)
      conv => whnf
      refine ⟨rfl, ?_⟩
      conv => whnf
      refine ⟨_, (h2.c 14 0 rfl), _, _, _, _, c51, by decide, cr_le rfl, cr_le rfl, cr_le rfl, fun v51 H51 q51 _ => ?_, fun kd H9 q9 _ => by cases q9.1⟩
      obtain ⟨q51a, q51b⟩ := q51
      cases q51a
      replace q51b := q51b.symm
      subst q51b
      conv => whnf
      refine ⟨cr_le rfl, ?_⟩
      conv => whnf
      refine ⟨fun b58 => ?_, fun b58 => ?_⟩
      · conv => whnf
        refine ⟨cr_le rfl, ?_⟩
        conv => whnf
        exact hK _ _ _ _ _ _ (cr_G_fg (ih (k + 1) (mm_os G1 d k) w1 H45 (by omega) hol (iE.st) (fun i hi => by
          rw [os_18]
          split
          · exact hro2
          · exact i18 i hi) (by
          have := mm_os_34 G1 d k
          omega) iw (by rw [os_none b58]; exact cc_F_none iF) (by rw [os_none b58]; exact h2) fr2) ⟨rfl, rfl, rfl, (show Value.int (nI (k + 1)) = Value.int (nI k + 1) by rw [nI_1]), trivial⟩)
      · conv => whnf
        refine ⟨_, (h2.c 14 0 rfl), ?_⟩
        conv => whnf
        refine ⟨_, (h2.c 1 d hd1), ?_⟩
        conv => whnf
        refine ⟨_, (h2.c 13 (50 * d + k) hi2), ?_⟩
        conv => whnf
        refine ⟨_, (h2.c 3 (G1 13 (50 * d + k)) hc1), ?_⟩
        conv => whnf
        refine ⟨_, (h2.c 13 (50 * d + k) hi2), ?_⟩
        conv => whnf
        refine ⟨rfl, ?_⟩
        conv => whnf
        refine ⟨_, (h2.c 12 0 (show 0 < 6 by decide)), _, _, _, _, cc_find hl Z h2 hr2 (show G1 34 0 < 2 ^ 31 by omega) (G' := mm_up (mm_os G1 d k) 10 d 9000) (fun a b hab => by
          by_cases e10 : a = 10
          · subst e10
            rw [mm_up_at, mm_up_at, mm_os_k (by decide) (by decide) (by decide) (by decide) (by decide) (by decide)]
            split
            · rfl
            · exact (mm_up_k _ _ _ _ (by decide)).symm
          · rw [mm_up_k _ _ _ _ e10, mm_up_k _ _ _ _ e10]
            by_cases e18 : a = 18
            · subst e18
              rw [os_18]
              exact (mm_up_at _ _ _ _ _).symm
            · rw [mm_os_k e18 (by omega) (by omega) (by omega) (by omega) (by omega)]
              exact (mm_up_k _ _ _ _ e18).symm) (show mm_os G1 d k 34 0 = G1 34 0 + 1 by rw [os_34, if_neg (show ¬ mm_oi G1 d k ≤ 0 from fun q => b58 ((mm_wy_le _ _ _ _ _ _).mp q))]), by decide, cr_le rfl, cr_le rfl, cr_le rfl, fun v84 H84 q84 _ => ?_, fun kd H9 q9 _ => by cases q9.1⟩
        obtain ⟨qa, h3, fr3⟩ := q84
        cases qa
        conv => whnf
        refine ⟨cr_le rfl, ?_⟩
        conv => whnf
        exact hK _ _ _ _ _ _ (cr_G_fg (ih (k + 1) (mm_os G1 d k) (w_f w1 (G1 34 0) (nI d) (nI (G1 13 (50 * d + k))) (nI (G1 15 (50 * d + k))) (mm_oi G1 d k)) H84 (by omega) hol (iE.st) (fun i hi => by
          rw [os_18]
          split
          · exact hro2
          · exact i18 i hi) (by
          have := mm_os_34 G1 d k
          omega) iw (cc_F_some b58 (by omega) iF) h3 (fr2.trans fr3 (fun _ _ q => q) (fun _ _ q => q))) ⟨rfl, rfl, rfl, (show Value.int (nI (k + 1)) = Value.int (nI k + 1) by rw [nI_1]), trivial⟩)
  refine cr_vc [12] 120 (s_C_goThroughRows hl Z C hem) (fun K hK => ?_)
  conv => whnf
  refine ⟨_, (h.c 1 d hd), ?_⟩
  conv => whnf
  refine ⟨rfl, ?_⟩
  conv => whnf
  refine ⟨_, hal0, _, _, _, _, j_AL_sizeL hl Z li0, by decide, cr_le rfl, cr_le rfl, cr_le rfl, fun v4 H4 q4 _ => ?_, fun kd H9 q9 _ => by cases q9.1⟩
  obtain ⟨q4a, q4b⟩ := q4
  cases q4a
  replace q4b := q4b.symm
  subst q4b
  conv => whnf
  refine ⟨cr_le rfl, ?_⟩
  conv => whnf
  refine ⟨cr_le rfl, ?_⟩
  conv => whnf
  exact hK _ _ _ _ _ _ (cr_G_fg (loop (G 12 d) 0 G w H (by omega) rfl (fun _ _ _ _ => rfl) hr.2.1 (by omega) ⟨rfl, rfl, rfl, rfl⟩ hF h (cr_Fr.refl _)) ⟨rfl, rfl, rfl, rfl, trivial⟩)
end CGO
