/-! THE CLASS: off for a door that joins; calls that are refused: right, found, asks, both (printed by gen/comp25.py) -/
section CTJ
variable {l : Launch} {s0 : State} {D : va_G} {ca : Nat → ClassId} {e0 : Nat} {O : Nat → Prop} {H : Heap} {A : Nat → Nat → Nat} {G : mm_G} {w : cc_W}
theorem fd_3 {x : Int32} (h : x < 4) : ¬ 3 < x := by
  intro q
  rw [Int32.lt_iff_toInt_lt] at h q
  have e4 : (4 : Int32).toInt = 4 := rfl
  have e3 : (3 : Int32).toInt = 3 := rfl
  omega
set_option maxRecDepth 20000 in
theorem j_C_off_off (hl : l.flags = flags0) (Z : cr_Z0 s0 D ca e0) (h : cc_H s0 D ca e0 O H A G w) (hr : cc_r G) {d : Nat} (hd : d < G 4 0) (h4 : G 4 0 ≤ 30) (hoff : G 10 d ≠ 9000) (h50 : G 12 d ≤ 50) (h19 : G 19 0 ≤ 60) (h22 : G 22 0 ≤ 16) (h34 : G 34 0 + 50 < 2 ^ 31) (h31 : ∀ q, q < G 28 0 → G 31 q < 2 ^ 31) (hk0 : cc_k G w 0 9000) (hF : cc_F G w) : cr_c l s0 y_C_off cw_C_off 6 0 0 [.ref (A 14 0), .int (nI d), .int 0] H (fun o H' => o = .inl (some (.int (nI (G 12 d)))) ∧ ∃ w', cc_H s0 D ca e0 (fun x => O x ∨ H.size ≤ x) H' A (mm_up (mm_up (mm_ol d 0 (G 12 d) G) 12 d 0) 10 d 9000) w' ∧ cc_F (mm_ol d 0 (G 12 d) G) w' ∧ (w'.1 = w.1 ∧ w'.2.1 = w.2.1 ∧ w'.2.2.1 = w.2.2.1 ∧ w'.2.2.2.2 = w.2.2.2.2) ∧ cr_Fr O H H') := by
  refine cr_enter (by decide +kernel) (Nat.le_of_ble_eq_true rfl) (fun hlo P9 E9 S9 M9 A9 B9 T9 C9 C hem hH => ?_)
  refine cr_vc [] 120 (s_C_off hl Z C hem) (fun K hK => ?_)
  conv => whnf
  refine ⟨rfl, ?_⟩
  conv => whnf
  refine ⟨_, (h.c 14 0 rfl), _, _, _, _, j_C_doorNumbered hl Z (h.c 14 0 rfl) (h.li 1 (by decide)) (show G 4 0 < 2 ^ 31 by omega) hd (h.c 1 d hd), by decide, cr_le rfl, cr_le rfl, cr_le rfl, fun v2 H2 q2 _ => ?_, fun kd H9 q9 _ => by cases q9.1⟩
  obtain ⟨q2a, q2b⟩ := q2
  cases q2a
  replace q2b := q2b.symm
  subst q2b
  conv => whnf
  refine ⟨cr_le rfl, ?_⟩
  conv => whnf
  refine ⟨_, (h.c 1 d hd), ?_⟩
  conv => whnf
  refine ⟨fun b11 => ?_, fun b11 => absurd b11 (by rw [show (!decide (G 10 d = 9000)) = true by simp [hoff]]; decide)⟩
  conv => whnf
  refine ⟨_, (h.c 1 d hd), (h.lo 1 d hd).1, ⟨rfl, rfl⟩, ?_⟩
  conv => whnf
  intro H18 u18
  have h1 : cc_H s0 D ca e0 O H18 A (mm_up G 10 d 9000) w := by
    refine h.set Z hr (k := 1) (i := d) hd rfl ?_ (fun k hk => mm_up_k _ _ _ _ (by omega)) (fun d => mm_up_k _ _ _ _ (by decide)) (fun k i q qo e => ?_)
    · refine ⟨u18.1, ?_, u18.2.2⟩
      rw [cc_c1, mm_up_s, show (!decide (9000 = 9000)) = false by decide]
      exact u18.2.1
    · have e1 : ∀ a b, a ≠ 10 → mm_up G 10 d 9000 a b = G a b := fun a b h1 => mm_up_k _ _ _ _ h1
      unfold cc_same
      split <;> try simp [e1]
      rw [mm_up_i _ _ _ _ (fun e9 => e ⟨rfl, e9⟩)]
  conv => whnf
  refine ⟨fun b22 => ?_, fun b22 => absurd rfl b22⟩
  conv => whnf
  refine ⟨rfl, ?_⟩
  conv => whnf
  refine ⟨_, (h1.c 14 0 rfl), _, _, _, _, j_C_rows hl Z h1 hr hd h50 h19 h22 h34 h31 hk0 hF, by decide, cr_le rfl, cr_le rfl, cr_le rfl, fun v40 H40 q40 _ => ?_, fun kd H9 q9 _ => by cases q9.1⟩
  obtain ⟨qa, w9, h2, hF2, hw9, fr2⟩ := q40
  cases qa
  conv => whnf
  refine ⟨cr_le rfl, cr_le rfl, rfl, w9, h2.weak (fun q hq => hq.imp id (fun hq => by rw [u18.1] at hq; exact hq)), hF2, hw9, (cc_Fr h (k := 1) (i := d) hd u18).trans fr2 (fun _ _ q => q) (fun _ _ q => q)⟩
set_option maxRecDepth 20000 in
theorem j_C_right_a (hl : l.flags = flags0) (Z : cr_Z0 s0 D ca e0) (h : cc_H s0 D ca e0 O H A G w) {g z f o s9 : Int32}  (hg : mm_in g 10 = false) : cr_c l s0 y_C_right cw_C_right 7 1 6 [.ref (A 14 0), .int g, .int z, .int f, .int o, .int s9] H (ck_T 1 H) := by
  refine cr_enter (by decide +kernel) (Nat.le_of_ble_eq_true rfl) (fun hlo P9 E9 S9 M9 A9 B9 T9 C9 C hem hH => ?_)
  have hold := h.old
  refine cr_vc [] 120 (s_C_right hl Z C hem) (fun K hK => ?_)
  conv => whnf
  refine ⟨rfl, ?_⟩
  conv => whnf
  refine ⟨_, _, _, _, j_C_checkGroup_a hl Z h.old hg, by decide, cr_le rfl, cr_le rfl, cr_le rfl, fun v9 H9 q9 _ => (by cases q9.1), fun kd H9 q9 _ => ?_⟩
  obtain ⟨qa, qf⟩ := q9
  cases qa
  exact ⟨rfl, qf⟩
set_option maxRecDepth 20000 in
theorem j_C_right_b (hl : l.flags = flags0) (Z : cr_Z0 s0 D ca e0) (h : cc_H s0 D ca e0 O H A G w) {g z f o s9 : Int32} (hg : mm_in g 10 = true) (hz : mm_in z 10 = false) : cr_c l s0 y_C_right cw_C_right 7 1 6 [.ref (A 14 0), .int g, .int z, .int f, .int o, .int s9] H (ck_T 1 H) := by
  refine cr_enter (by decide +kernel) (Nat.le_of_ble_eq_true rfl) (fun hlo P9 E9 S9 M9 A9 B9 T9 C9 C hem hH => ?_)
  have hold := h.old
  refine cr_vc [] 120 (s_C_right hl Z C hem) (fun K hK => ?_)
  conv => whnf
  refine ⟨rfl, ?_⟩
  conv => whnf
  refine ⟨_, _, _, _, j_C_checkGroup hl Z hg, by decide, cr_le rfl, cr_le rfl, cr_le rfl, fun v1 H1 q1 _ => ?_, fun kd H9 q9 _ => by cases q9.1⟩
  obtain ⟨q1a, q1b⟩ := q1
  cases q1a
  replace q1b := q1b.symm
  subst q1b
  conv => whnf
  refine ⟨rfl, ?_⟩
  conv => whnf
  refine ⟨_, _, _, _, j_C_checkZone_a hl Z h.old hz, by decide, cr_le rfl, cr_le rfl, cr_le rfl, fun v9 H9 q9 _ => (by cases q9.1), fun kd H9 q9 _ => ?_⟩
  obtain ⟨qa, qf⟩ := q9
  cases qa
  exact ⟨rfl, qf⟩
set_option maxRecDepth 20000 in
theorem j_C_right_c (hl : l.flags = flags0) (Z : cr_Z0 s0 D ca e0) (h : cc_H s0 D ca e0 O H A G w) {g z f o s9 : Int32} (hg : mm_in g 10 = true) (hz : mm_in z 10 = true) (hf : mm_in f 1440 = false) : cr_c l s0 y_C_right cw_C_right 7 1 6 [.ref (A 14 0), .int g, .int z, .int f, .int o, .int s9] H (ck_T 1 H) := by
  refine cr_enter (by decide +kernel) (Nat.le_of_ble_eq_true rfl) (fun hlo P9 E9 S9 M9 A9 B9 T9 C9 C hem hH => ?_)
  have hold := h.old
  refine cr_vc [] 120 (s_C_right hl Z C hem) (fun K hK => ?_)
  conv => whnf
  refine ⟨rfl, ?_⟩
  conv => whnf
  refine ⟨_, _, _, _, j_C_checkGroup hl Z hg, by decide, cr_le rfl, cr_le rfl, cr_le rfl, fun v1 H1 q1 _ => ?_, fun kd H9 q9 _ => by cases q9.1⟩
  obtain ⟨q1a, q1b⟩ := q1
  cases q1a
  replace q1b := q1b.symm
  subst q1b
  conv => whnf
  refine ⟨rfl, ?_⟩
  conv => whnf
  refine ⟨_, _, _, _, j_C_checkZone hl Z hz, by decide, cr_le rfl, cr_le rfl, cr_le rfl, fun v5 H5 q5 _ => ?_, fun kd H9 q9 _ => by cases q9.1⟩
  obtain ⟨q5a, q5b⟩ := q5
  cases q5a
  replace q5b := q5b.symm
  subst q5b
  conv => whnf
  refine ⟨rfl, ?_⟩
  conv => whnf
  refine ⟨_, _, _, _, j_C_checkTimeOfDay_a hl Z h.old hf, by decide, cr_le rfl, cr_le rfl, cr_le rfl, fun v9 H9 q9 _ => (by cases q9.1), fun kd H9 q9 _ => ?_⟩
  obtain ⟨qa, qf⟩ := q9
  cases qa
  exact ⟨rfl, qf⟩
set_option maxRecDepth 20000 in
theorem j_C_right_d (hl : l.flags = flags0) (Z : cr_Z0 s0 D ca e0) (h : cc_H s0 D ca e0 O H A G w) {g z f o s9 : Int32} (hg : mm_in g 10 = true) (hz : mm_in z 10 = true) (hf : mm_in f 1440 = true) (ho : mm_in o 1440 = false) : cr_c l s0 y_C_right cw_C_right 7 1 6 [.ref (A 14 0), .int g, .int z, .int f, .int o, .int s9] H (ck_T 1 H) := by
  refine cr_enter (by decide +kernel) (Nat.le_of_ble_eq_true rfl) (fun hlo P9 E9 S9 M9 A9 B9 T9 C9 C hem hH => ?_)
  have hold := h.old
  refine cr_vc [] 120 (s_C_right hl Z C hem) (fun K hK => ?_)
  conv => whnf
  refine ⟨rfl, ?_⟩
  conv => whnf
  refine ⟨_, _, _, _, j_C_checkGroup hl Z hg, by decide, cr_le rfl, cr_le rfl, cr_le rfl, fun v1 H1 q1 _ => ?_, fun kd H9 q9 _ => by cases q9.1⟩
  obtain ⟨q1a, q1b⟩ := q1
  cases q1a
  replace q1b := q1b.symm
  subst q1b
  conv => whnf
  refine ⟨rfl, ?_⟩
  conv => whnf
  refine ⟨_, _, _, _, j_C_checkZone hl Z hz, by decide, cr_le rfl, cr_le rfl, cr_le rfl, fun v5 H5 q5 _ => ?_, fun kd H9 q9 _ => by cases q9.1⟩
  obtain ⟨q5a, q5b⟩ := q5
  cases q5a
  replace q5b := q5b.symm
  subst q5b
  conv => whnf
  refine ⟨rfl, ?_⟩
  conv => whnf
  refine ⟨_, _, _, _, j_C_checkTimeOfDay hl Z hf, by decide, cr_le rfl, cr_le rfl, cr_le rfl, fun v9 H9 q9 _ => ?_, fun kd H9 q9 _ => by cases q9.1⟩
  obtain ⟨q9a, q9b⟩ := q9
  cases q9a
  replace q9b := q9b.symm
  subst q9b
  conv => whnf
  refine ⟨rfl, ?_⟩
  conv => whnf
  refine ⟨_, _, _, _, j_C_checkTimeOfDay_a hl Z h.old ho, by decide, cr_le rfl, cr_le rfl, cr_le rfl, fun v9 H9 q9 _ => (by cases q9.1), fun kd H9 q9 _ => ?_⟩
  obtain ⟨qa, qf⟩ := q9
  cases qa
  exact ⟨rfl, qf⟩
set_option maxRecDepth 20000 in
theorem j_C_right_e (hl : l.flags = flags0) (Z : cr_Z0 s0 D ca e0) (h : cc_H s0 D ca e0 O H A G w) {g z f o s9 : Int32} (hg : mm_in g 10 = true) (hz : mm_in z 10 = true) (hf : mm_in f 1440 = true) (ho : mm_in o 1440 = true) (hs : mm_min s9 = false) : cr_c l s0 y_C_right cw_C_right 7 1 6 [.ref (A 14 0), .int g, .int z, .int f, .int o, .int s9] H (ck_T 1 H) := by
  refine cr_enter (by decide +kernel) (Nat.le_of_ble_eq_true rfl) (fun hlo P9 E9 S9 M9 A9 B9 T9 C9 C hem hH => ?_)
  have hold := h.old
  refine cr_vc [] 120 (s_C_right hl Z C hem) (fun K hK => ?_)
  conv => whnf
  refine ⟨rfl, ?_⟩
  conv => whnf
  refine ⟨_, _, _, _, j_C_checkGroup hl Z hg, by decide, cr_le rfl, cr_le rfl, cr_le rfl, fun v1 H1 q1 _ => ?_, fun kd H9 q9 _ => by cases q9.1⟩
  obtain ⟨q1a, q1b⟩ := q1
  cases q1a
  replace q1b := q1b.symm
  subst q1b
  conv => whnf
  refine ⟨rfl, ?_⟩
  conv => whnf
  refine ⟨_, _, _, _, j_C_checkZone hl Z hz, by decide, cr_le rfl, cr_le rfl, cr_le rfl, fun v5 H5 q5 _ => ?_, fun kd H9 q9 _ => by cases q9.1⟩
  obtain ⟨q5a, q5b⟩ := q5
  cases q5a
  replace q5b := q5b.symm
  subst q5b
  conv => whnf
  refine ⟨rfl, ?_⟩
  conv => whnf
  refine ⟨_, _, _, _, j_C_checkTimeOfDay hl Z hf, by decide, cr_le rfl, cr_le rfl, cr_le rfl, fun v9 H9 q9 _ => ?_, fun kd H9 q9 _ => by cases q9.1⟩
  obtain ⟨q9a, q9b⟩ := q9
  cases q9a
  replace q9b := q9b.symm
  subst q9b
  conv => whnf
  refine ⟨rfl, ?_⟩
  conv => whnf
  refine ⟨_, _, _, _, j_C_checkTimeOfDay hl Z ho, by decide, cr_le rfl, cr_le rfl, cr_le rfl, fun v14 H14 q14 _ => ?_, fun kd H9 q9 _ => by cases q9.1⟩
  obtain ⟨q14a, q14b⟩ := q14
  cases q14a
  replace q14b := q14b.symm
  subst q14b
  conv => whnf
  refine ⟨rfl, ?_⟩
  conv => whnf
  refine ⟨_, _, _, _, j_C_checkMinute_a hl Z h.old hs, by decide, cr_le rfl, cr_le rfl, cr_le rfl, fun v9 H9 q9 _ => (by cases q9.1), fun kd H9 q9 _ => ?_⟩
  obtain ⟨qa, qf⟩ := q9
  cases qa
  exact ⟨rfl, qf⟩
set_option maxRecDepth 20000 in
theorem j_C_right_s (hl : l.flags = flags0) (Z : cr_Z0 s0 D ca e0) (h : cc_H s0 D ca e0 O H A G w) {g z f o s9 : Int32} (hg : mm_in g 10 = true) (hz : mm_in z 10 = true) (hf : mm_in f 1440 = true) (ho : mm_in o 1440 = true) (hs : mm_min s9 = true) (h16 : 16 ≤ G 22 0) (h162 : G 22 0 ≤ 16) : cr_c l s0 y_C_right cw_C_right 6 1 6 [.ref (A 14 0), .int g, .int z, .int f, .int o, .int s9] H (ck_T 2 H) := by
  refine cr_enter (by decide +kernel) (Nat.le_of_ble_eq_true rfl) (fun hlo P9 E9 S9 M9 A9 B9 T9 C9 C hem hH => ?_)
  have hold := h.old
  obtain ⟨md4, hal4, -⟩ := (h.li 4 (by decide)).2
  refine cr_vc [] 120 (s_C_right hl Z C hem) (fun K hK => ?_)
  conv => whnf
  refine ⟨rfl, ?_⟩
  conv => whnf
  refine ⟨_, _, _, _, j_C_checkGroup hl Z hg, by decide, cr_le rfl, cr_le rfl, cr_le rfl, fun v1 H1 q1 _ => ?_, fun kd H9 q9 _ => by cases q9.1⟩
  obtain ⟨q1a, q1b⟩ := q1
  cases q1a
  replace q1b := q1b.symm
  subst q1b
  conv => whnf
  refine ⟨rfl, ?_⟩
  conv => whnf
  refine ⟨_, _, _, _, j_C_checkZone hl Z hz, by decide, cr_le rfl, cr_le rfl, cr_le rfl, fun v5 H5 q5 _ => ?_, fun kd H9 q9 _ => by cases q9.1⟩
  obtain ⟨q5a, q5b⟩ := q5
  cases q5a
  replace q5b := q5b.symm
  subst q5b
  conv => whnf
  refine ⟨rfl, ?_⟩
  conv => whnf
  refine ⟨_, _, _, _, j_C_checkTimeOfDay hl Z hf, by decide, cr_le rfl, cr_le rfl, cr_le rfl, fun v9 H9 q9 _ => ?_, fun kd H9 q9 _ => by cases q9.1⟩
  obtain ⟨q9a, q9b⟩ := q9
  cases q9a
  replace q9b := q9b.symm
  subst q9b
  conv => whnf
  refine ⟨rfl, ?_⟩
  conv => whnf
  refine ⟨_, _, _, _, j_C_checkTimeOfDay hl Z ho, by decide, cr_le rfl, cr_le rfl, cr_le rfl, fun v14 H14 q14 _ => ?_, fun kd H9 q9 _ => by cases q9.1⟩
  obtain ⟨q14a, q14b⟩ := q14
  cases q14a
  replace q14b := q14b.symm
  subst q14b
  conv => whnf
  refine ⟨rfl, ?_⟩
  conv => whnf
  refine ⟨_, _, _, _, j_C_checkMinute hl Z hs, by decide, cr_le rfl, cr_le rfl, cr_le rfl, fun v19 H19 q19 _ => ?_, fun kd H9 q9 _ => by cases q9.1⟩
  obtain ⟨q19a, q19b⟩ := q19
  cases q19a
  replace q19b := q19b.symm
  subst q19b
  conv => whnf
  refine ⟨_, (h.c 14 0 rfl), ?_⟩
  conv => whnf
  refine ⟨rfl, ?_⟩
  conv => whnf
  refine ⟨_, hal4, _, _, _, _, j_AL_sizeL hl Z (h.li 4 (by decide)), by decide, cr_le rfl, cr_le rfl, cr_le rfl, fun v26 H26 q26 _ => ?_, fun kd H9 q9 _ => by cases q9.1⟩
  obtain ⟨q26a, q26b⟩ := q26
  cases q26a
  replace q26b := q26b.symm
  subst q26b
  conv => whnf
  refine ⟨fun b33 => absurd b33 (show ¬ nI (G 22 0) < nI 16 from nI_nlt h16 (by omega)), fun b33 => ?_⟩
  conv => whnf
  refine ⟨hold, rfl, cr_le rfl, cr_le rfl, by decide, cr_le rfl, fun H9 hs9 hq9 => ?_⟩
  exact ⟨rfl, hs9, fun q a _ => hq9 q a⟩
set_option maxRecDepth 20000 in
theorem j_C_found_a (hl : l.flags = flags0) (Z : cr_Z0 s0 D ca e0) (h : cc_H s0 D ca e0 O H A G w) {k x : Int32} (h34 : G 34 0 < 2 ^ 31) (hno : ¬ (¬ k < 0 ∧ ¬ nI (G 34 0) ≤ k ∧ ¬ 100 ≤ k ∧ ¬ x < 0 ∧ ¬ 3 < x)) : cr_c l s0 y_C_found cw_C_found 6 1 6 [.ref (A 14 0), .int k, .int x] H (ck_T 1 H) := by
  refine cr_enter (by decide +kernel) (Nat.le_of_ble_eq_true rfl) (fun hlo P9 E9 S9 M9 A9 B9 T9 C9 C hem hH => ?_)
  have hold := h.old
  refine cr_vc [] 120 (s_C_found hl Z C hem) (fun K hK => ?_)
  conv => whnf
  refine ⟨fun b1 => ?_, fun b1 => ?_⟩
  · conv => whnf
    refine ⟨hold, rfl, cr_le rfl, cr_le rfl, by decide, cr_le rfl, fun H9 hs9 hq9 => ?_⟩
    exact ⟨rfl, hs9, fun q a _ => hq9 q a⟩
  · conv => whnf
    refine ⟨_, (h.c 14 0 rfl), ?_⟩
    conv => whnf
    refine ⟨_, (h.c 12 0 (show 0 < 6 by decide)), ?_⟩
    conv => whnf
    refine ⟨fun b12 => ?_, fun b12 => ?_⟩
    · conv => whnf
      refine ⟨fun b26 => ?_, fun b26 => ?_⟩
      · conv => whnf
        refine ⟨hold, rfl, cr_le rfl, cr_le rfl, by decide, cr_le rfl, fun H9 hs9 hq9 => ?_⟩
        exact ⟨rfl, hs9, fun q a _ => hq9 q a⟩
      · conv => whnf
        refine ⟨fun b31 => (hno ⟨b1, fun q => absurd (Int32.lt_of_lt_of_le b12 (Int32.le_trans (nI_le (Nat.min_le_left _ _) h34) q)) Int32.lt_irrefl, fun q => absurd (Int32.lt_of_lt_of_le b12 (Int32.le_trans (nI_le (b := 100) (Nat.min_le_right _ _) (by decide)) q)) Int32.lt_irrefl, b26, fd_3 b31⟩).elim, fun b31 => ?_⟩
        conv => whnf
        refine ⟨hold, rfl, cr_le rfl, cr_le rfl, by decide, cr_le rfl, fun H9 hs9 hq9 => ?_⟩
        exact ⟨rfl, hs9, fun q a _ => hq9 q a⟩
    · conv => whnf
      refine ⟨hold, rfl, cr_le rfl, cr_le rfl, by decide, cr_le rfl, fun H9 hs9 hq9 => ?_⟩
      exact ⟨rfl, hs9, fun q a _ => hq9 q a⟩
set_option maxRecDepth 20000 in
theorem j_C_asks_a (hl : l.flags = flags0) (Z : cr_Z0 s0 D ca e0) (h : cc_H s0 D ca e0 O H A G w) (hr : cc_r G) (h19 : G 19 0 ≤ 60) (h4 : G 4 0 ≤ 30) (h2 : G 2 0 ≤ 20) {c d room m : Int32} (hc : mm_in c (nI (G 19 0)) = false) : cr_c l s0 y_C_asks cw_C_asks 7 1 6 [.ref (A 14 0), .int c, .int d, .int room, .int m] H (ck_T 1 H) := by
  refine cr_enter (by decide +kernel) (Nat.le_of_ble_eq_true rfl) (fun hlo P9 E9 S9 M9 A9 B9 T9 C9 C hem hH => ?_)
  have hold := h.old
  refine cr_vc [] 120 (s_C_asks hl Z C hem) (fun K hK => ?_)
  conv => whnf
  refine ⟨rfl, ?_⟩
  conv => whnf
  refine ⟨_, (h.c 14 0 rfl), _, _, _, _, j_C_cardNumbered_a hl Z h.old (h.c 14 0 rfl) (h.li 3 (by decide)) (show G 19 0 < 2 ^ 31 by omega) hc, by decide, cr_le rfl, cr_le rfl, cr_le rfl, fun v9 H9 q9 _ => (by cases q9.1), fun kd H9 q9 _ => ?_⟩
  obtain ⟨qa, qf⟩ := q9
  cases qa
  exact ⟨rfl, qf⟩
set_option maxRecDepth 20000 in
theorem j_C_asks_b (hl : l.flags = flags0) (Z : cr_Z0 s0 D ca e0) (h : cc_H s0 D ca e0 O H A G w) (hr : cc_r G) (h19 : G 19 0 ≤ 60) (h4 : G 4 0 ≤ 30) (h2 : G 2 0 ≤ 20) {c : Nat} {d room m : Int32} (hc : c < G 19 0) (hd : mm_in d (nI (G 4 0)) = false) : cr_c l s0 y_C_asks cw_C_asks 7 1 6 [.ref (A 14 0), .int (nI c), .int d, .int room, .int m] H (ck_T 1 H) := by
  refine cr_enter (by decide +kernel) (Nat.le_of_ble_eq_true rfl) (fun hlo P9 E9 S9 M9 A9 B9 T9 C9 C hem hH => ?_)
  have hold := h.old
  refine cr_vc [] 120 (s_C_asks hl Z C hem) (fun K hK => ?_)
  conv => whnf
  refine ⟨rfl, ?_⟩
  conv => whnf
  refine ⟨_, (h.c 14 0 rfl), _, _, _, _, j_C_cardNumbered hl Z (h.c 14 0 rfl) (h.li 3 (by decide)) (show G 19 0 < 2 ^ 31 by omega) hc (h.c 3 c hc), by decide, cr_le rfl, cr_le rfl, cr_le rfl, fun v2 H2 q2 _ => ?_, fun kd H9 q9 _ => by cases q9.1⟩
  obtain ⟨q2a, q2b⟩ := q2
  cases q2a
  replace q2b := q2b.symm
  subst q2b
  conv => whnf
  refine ⟨cr_le rfl, ?_⟩
  conv => whnf
  refine ⟨rfl, ?_⟩
  conv => whnf
  refine ⟨_, (h.c 14 0 rfl), _, _, _, _, j_C_doorNumbered_a hl Z h.old (h.c 14 0 rfl) (h.li 1 (by decide)) (show G 4 0 < 2 ^ 31 by omega) hd, by decide, cr_le rfl, cr_le rfl, cr_le rfl, fun v9 H9 q9 _ => (by cases q9.1), fun kd H9 q9 _ => ?_⟩
  obtain ⟨qa, qf⟩ := q9
  cases qa
  exact ⟨rfl, qf⟩
set_option maxRecDepth 20000 in
theorem j_C_asks_c (hl : l.flags = flags0) (Z : cr_Z0 s0 D ca e0) (h : cc_H s0 D ca e0 O H A G w) (hr : cc_r G) (h19 : G 19 0 ≤ 60) (h4 : G 4 0 ≤ 30) (h2 : G 2 0 ≤ 20) {c d : Nat} {room m : Int32} (hc : c < G 19 0) (hd : d < G 4 0) (h5 : ¬ room = nI (G 5 d)) (h6 : ¬ room = nI (G 6 d)) : cr_c l s0 y_C_asks cw_C_asks 7 1 6 [.ref (A 14 0), .int (nI c), .int (nI d), .int room, .int m] H (ck_T 1 H) := by
  refine cr_enter (by decide +kernel) (Nat.le_of_ble_eq_true rfl) (fun hlo P9 E9 S9 M9 A9 B9 T9 C9 C hem hH => ?_)
  have hold := h.old
  refine cr_vc [] 120 (s_C_asks hl Z C hem) (fun K hK => ?_)
  conv => whnf
  refine ⟨rfl, ?_⟩
  conv => whnf
  refine ⟨_, (h.c 14 0 rfl), _, _, _, _, j_C_cardNumbered hl Z (h.c 14 0 rfl) (h.li 3 (by decide)) (show G 19 0 < 2 ^ 31 by omega) hc (h.c 3 c hc), by decide, cr_le rfl, cr_le rfl, cr_le rfl, fun v2 H2 q2 _ => ?_, fun kd H9 q9 _ => by cases q9.1⟩
  obtain ⟨q2a, q2b⟩ := q2
  cases q2a
  replace q2b := q2b.symm
  subst q2b
  conv => whnf
  refine ⟨cr_le rfl, ?_⟩
  conv => whnf
  refine ⟨rfl, ?_⟩
  conv => whnf
  refine ⟨_, (h.c 14 0 rfl), _, _, _, _, j_C_doorNumbered hl Z (h.c 14 0 rfl) (h.li 1 (by decide)) (show G 4 0 < 2 ^ 31 by omega) hd (h.c 1 d hd), by decide, cr_le rfl, cr_le rfl, cr_le rfl, fun v9 H9 q9 _ => ?_, fun kd H9 q9 _ => by cases q9.1⟩
  obtain ⟨q9a, q9b⟩ := q9
  cases q9a
  replace q9b := q9b.symm
  subst q9b
  conv => whnf
  refine ⟨cr_le rfl, ?_⟩
  conv => whnf
  refine ⟨rfl, ?_⟩
  conv => whnf
  refine ⟨_, _, _, _, cc_roomOf_a hl Z h hr hd h2 h5 h6, by decide, cr_le rfl, cr_le rfl, cr_le rfl, fun v9 H9 q9 _ => (by cases q9.1), fun kd H9 q9 _ => ?_⟩
  obtain ⟨qa, qf⟩ := q9
  cases qa
  exact ⟨rfl, qf⟩
set_option maxRecDepth 20000 in
theorem j_C_asks_d (hl : l.flags = flags0) (Z : cr_Z0 s0 D ca e0) (h : cc_H s0 D ca e0 O H A G w) (hr : cc_r G) (h19 : G 19 0 ≤ 60) (h4 : G 4 0 ≤ 30) (h2 : G 2 0 ≤ 20) {c d room : Nat} {m : Int32} (hc : c < G 19 0) (hd : d < G 4 0) (hio : room = G 5 d ∨ room = G 6 d) (hm : mm_min m = false) : cr_c l s0 y_C_asks cw_C_asks 8 1 6 [.ref (A 14 0), .int (nI c), .int (nI d), .int (nI room), .int m] H (ck_T 1 H) := by
  refine cr_enter (by decide +kernel) (Nat.le_of_ble_eq_true rfl) (fun hlo P9 E9 S9 M9 A9 B9 T9 C9 C hem hH => ?_)
  have hold := h.old
  refine cr_vc [] 120 (s_C_asks hl Z C hem) (fun K hK => ?_)
  conv => whnf
  refine ⟨rfl, ?_⟩
  conv => whnf
  refine ⟨_, (h.c 14 0 rfl), _, _, _, _, j_C_cardNumbered hl Z (h.c 14 0 rfl) (h.li 3 (by decide)) (show G 19 0 < 2 ^ 31 by omega) hc (h.c 3 c hc), by decide, cr_le rfl, cr_le rfl, cr_le rfl, fun v2 H2 q2 _ => ?_, fun kd H9 q9 _ => by cases q9.1⟩
  obtain ⟨q2a, q2b⟩ := q2
  cases q2a
  replace q2b := q2b.symm
  subst q2b
  conv => whnf
  refine ⟨cr_le rfl, ?_⟩
  conv => whnf
  refine ⟨rfl, ?_⟩
  conv => whnf
  refine ⟨_, (h.c 14 0 rfl), _, _, _, _, j_C_doorNumbered hl Z (h.c 14 0 rfl) (h.li 1 (by decide)) (show G 4 0 < 2 ^ 31 by omega) hd (h.c 1 d hd), by decide, cr_le rfl, cr_le rfl, cr_le rfl, fun v9 H9 q9 _ => ?_, fun kd H9 q9 _ => by cases q9.1⟩
  obtain ⟨q9a, q9b⟩ := q9
  cases q9a
  replace q9b := q9b.symm
  subst q9b
  conv => whnf
  refine ⟨cr_le rfl, ?_⟩
  conv => whnf
  refine ⟨rfl, ?_⟩
  conv => whnf
  refine ⟨_, _, _, _, cc_roomOf hl Z h hr hd h2 hio, by decide, cr_le rfl, cr_le rfl, cr_le rfl, fun v17 H17 q17 _ => ?_, fun kd H9 q9 _ => by cases q9.1⟩
  obtain ⟨q17a, q17b⟩ := q17
  cases q17a
  replace q17b := q17b.symm
  subst q17b
  conv => whnf
  refine ⟨cr_le rfl, ?_⟩
  conv => whnf
  refine ⟨rfl, ?_⟩
  conv => whnf
  refine ⟨_, (h.c 14 0 rfl), _, _, _, _, j_C_checkMinuteFromNow_a hl Z h.old (h.c 14 0 rfl) hm, by decide, cr_le rfl, cr_le rfl, cr_le rfl, fun v9 H9 q9 _ => (by cases q9.1), fun kd H9 q9 _ => ?_⟩
  obtain ⟨qa, qf⟩ := q9
  cases qa
  exact ⟨rfl, qf⟩
set_option maxRecDepth 20000 in
theorem j_C_asks_e (hl : l.flags = flags0) (Z : cr_Z0 s0 D ca e0) (h : cc_H s0 D ca e0 O H A G w) (hr : cc_r G) (h19 : G 19 0 ≤ 60) (h4 : G 4 0 ≤ 30) (h2 : G 2 0 ≤ 20) {c d room : Nat} {m : Int32} (hc : c < G 19 0) (hd : d < G 4 0) (hio : room = G 5 d ∨ room = G 6 d) (hm : mm_min m = true) (hn : ¬ nI (G 1 0) ≤ m) : cr_c l s0 y_C_asks cw_C_asks 8 1 6 [.ref (A 14 0), .int (nI c), .int (nI d), .int (nI room), .int m] H (ck_T 1 H) := by
  refine cr_enter (by decide +kernel) (Nat.le_of_ble_eq_true rfl) (fun hlo P9 E9 S9 M9 A9 B9 T9 C9 C hem hH => ?_)
  have hold := h.old
  refine cr_vc [] 120 (s_C_asks hl Z C hem) (fun K hK => ?_)
  conv => whnf
  refine ⟨rfl, ?_⟩
  conv => whnf
  refine ⟨_, (h.c 14 0 rfl), _, _, _, _, j_C_cardNumbered hl Z (h.c 14 0 rfl) (h.li 3 (by decide)) (show G 19 0 < 2 ^ 31 by omega) hc (h.c 3 c hc), by decide, cr_le rfl, cr_le rfl, cr_le rfl, fun v2 H2 q2 _ => ?_, fun kd H9 q9 _ => by cases q9.1⟩
  obtain ⟨q2a, q2b⟩ := q2
  cases q2a
  replace q2b := q2b.symm
  subst q2b
  conv => whnf
  refine ⟨cr_le rfl, ?_⟩
  conv => whnf
  refine ⟨rfl, ?_⟩
  conv => whnf
  refine ⟨_, (h.c 14 0 rfl), _, _, _, _, j_C_doorNumbered hl Z (h.c 14 0 rfl) (h.li 1 (by decide)) (show G 4 0 < 2 ^ 31 by omega) hd (h.c 1 d hd), by decide, cr_le rfl, cr_le rfl, cr_le rfl, fun v9 H9 q9 _ => ?_, fun kd H9 q9 _ => by cases q9.1⟩
  obtain ⟨q9a, q9b⟩ := q9
  cases q9a
  replace q9b := q9b.symm
  subst q9b
  conv => whnf
  refine ⟨cr_le rfl, ?_⟩
  conv => whnf
  refine ⟨rfl, ?_⟩
  conv => whnf
  refine ⟨_, _, _, _, cc_roomOf hl Z h hr hd h2 hio, by decide, cr_le rfl, cr_le rfl, cr_le rfl, fun v17 H17 q17 _ => ?_, fun kd H9 q9 _ => by cases q9.1⟩
  obtain ⟨q17a, q17b⟩ := q17
  cases q17a
  replace q17b := q17b.symm
  subst q17b
  conv => whnf
  refine ⟨cr_le rfl, ?_⟩
  conv => whnf
  refine ⟨rfl, ?_⟩
  conv => whnf
  refine ⟨_, (h.c 14 0 rfl), _, _, _, _, j_C_checkMinuteFromNow_b hl Z h.old (h.c 14 0 rfl) hm hn, by decide, cr_le rfl, cr_le rfl, cr_le rfl, fun v9 H9 q9 _ => (by cases q9.1), fun kd H9 q9 _ => ?_⟩
  obtain ⟨qa, qf⟩ := q9
  cases qa
  exact ⟨rfl, qf⟩
set_option maxRecDepth 20000 in
theorem j_C_asks_s (hl : l.flags = flags0) (Z : cr_Z0 s0 D ca e0) (h : cc_H s0 D ca e0 O H A G w) (hr : cc_r G) (h19 : G 19 0 ≤ 60) (h4 : G 4 0 ≤ 30) (h2 : G 2 0 ≤ 20) {c d room : Nat} {m : Int32} (hc : c < G 19 0) (hd : d < G 4 0) (hio : room = G 5 d ∨ room = G 6 d) (hm : mm_min m = true) (hn : nI (G 1 0) ≤ m) (hoff : G 10 d ≠ 9000) (hs : 50 < G 12 d + 1) (hs2 : G 12 d + 1 < 2 ^ 31) : cr_c l s0 y_C_asks cw_C_asks 8 1 6 [.ref (A 14 0), .int (nI c), .int (nI d), .int (nI room), .int m] H (ck_T 2 H) := by
  refine cr_enter (by decide +kernel) (Nat.le_of_ble_eq_true rfl) (fun hlo P9 E9 S9 M9 A9 B9 T9 C9 C hem hH => ?_)
  have hold := h.old
  refine cr_vc [] 120 (s_C_asks hl Z C hem) (fun K hK => ?_)
  conv => whnf
  refine ⟨rfl, ?_⟩
  conv => whnf
  refine ⟨_, (h.c 14 0 rfl), _, _, _, _, j_C_cardNumbered hl Z (h.c 14 0 rfl) (h.li 3 (by decide)) (show G 19 0 < 2 ^ 31 by omega) hc (h.c 3 c hc), by decide, cr_le rfl, cr_le rfl, cr_le rfl, fun v2 H2 q2 _ => ?_, fun kd H9 q9 _ => by cases q9.1⟩
  obtain ⟨q2a, q2b⟩ := q2
  cases q2a
  replace q2b := q2b.symm
  subst q2b
  conv => whnf
  refine ⟨cr_le rfl, ?_⟩
  conv => whnf
  refine ⟨rfl, ?_⟩
  conv => whnf
  refine ⟨_, (h.c 14 0 rfl), _, _, _, _, j_C_doorNumbered hl Z (h.c 14 0 rfl) (h.li 1 (by decide)) (show G 4 0 < 2 ^ 31 by omega) hd (h.c 1 d hd), by decide, cr_le rfl, cr_le rfl, cr_le rfl, fun v9 H9 q9 _ => ?_, fun kd H9 q9 _ => by cases q9.1⟩
  obtain ⟨q9a, q9b⟩ := q9
  cases q9a
  replace q9b := q9b.symm
  subst q9b
  conv => whnf
  refine ⟨cr_le rfl, ?_⟩
  conv => whnf
  refine ⟨rfl, ?_⟩
  conv => whnf
  refine ⟨_, _, _, _, cc_roomOf hl Z h hr hd h2 hio, by decide, cr_le rfl, cr_le rfl, cr_le rfl, fun v17 H17 q17 _ => ?_, fun kd H9 q9 _ => by cases q9.1⟩
  obtain ⟨q17a, q17b⟩ := q17
  cases q17a
  replace q17b := q17b.symm
  subst q17b
  conv => whnf
  refine ⟨cr_le rfl, ?_⟩
  conv => whnf
  refine ⟨rfl, ?_⟩
  conv => whnf
  refine ⟨_, (h.c 14 0 rfl), _, _, _, _, j_C_checkMinuteFromNow hl Z (h.c 14 0 rfl) hm hn, by decide, cr_le rfl, cr_le rfl, cr_le rfl, fun v25 H25 q25 _ => ?_, fun kd H9 q9 _ => by cases q9.1⟩
  obtain ⟨q25a, q25b⟩ := q25
  cases q25a
  replace q25b := q25b.symm
  subst q25b
  conv => whnf
  refine ⟨rfl, ?_⟩
  conv => whnf
  refine ⟨_, _, _, _, j_C_space_s (k := 1) hl Z h hd hoff hs hs2, by decide, cr_le rfl, cr_le rfl, cr_le rfl, fun v9 H9 q9 _ => (by cases q9.1), fun kd H9 q9 _ => ?_⟩
  obtain ⟨qa, qf⟩ := q9
  cases qa
  exact ⟨rfl, qf⟩
set_option maxRecDepth 20000 in
theorem j_C_both_a (hl : l.flags = flags0) (Z : cr_Z0 s0 D ca e0) (h : cc_H s0 D ca e0 O H A G w) (hr : cc_r G) (h19 : G 19 0 ≤ 60) (h4 : G 4 0 ≤ 30) (h2 : G 2 0 ≤ 20) {a b d room m : Int32} (ha : mm_in a (nI (G 19 0)) = false) : cr_c l s0 y_C_both cw_C_both 7 1 6 [.ref (A 14 0), .int a, .int b, .int d, .int room, .int m] H (ck_T 1 H) := by
  refine cr_enter (by decide +kernel) (Nat.le_of_ble_eq_true rfl) (fun hlo P9 E9 S9 M9 A9 B9 T9 C9 C hem hH => ?_)
  have hold := h.old
  refine cr_vc [] 120 (s_C_both hl Z C hem) (fun K hK => ?_)
  conv => whnf
  refine ⟨rfl, ?_⟩
  conv => whnf
  refine ⟨_, (h.c 14 0 rfl), _, _, _, _, j_C_cardNumbered_a hl Z h.old (h.c 14 0 rfl) (h.li 3 (by decide)) (show G 19 0 < 2 ^ 31 by omega) ha, by decide, cr_le rfl, cr_le rfl, cr_le rfl, fun v9 H9 q9 _ => (by cases q9.1), fun kd H9 q9 _ => ?_⟩
  obtain ⟨qa, qf⟩ := q9
  cases qa
  exact ⟨rfl, qf⟩
set_option maxRecDepth 20000 in
theorem j_C_both_b (hl : l.flags = flags0) (Z : cr_Z0 s0 D ca e0) (h : cc_H s0 D ca e0 O H A G w) (hr : cc_r G) (h19 : G 19 0 ≤ 60) (h4 : G 4 0 ≤ 30) (h2 : G 2 0 ≤ 20) {a : Nat} {b d room m : Int32} (ha : a < G 19 0) (hb : mm_in b (nI (G 19 0)) = false) : cr_c l s0 y_C_both cw_C_both 7 1 6 [.ref (A 14 0), .int (nI a), .int b, .int d, .int room, .int m] H (ck_T 1 H) := by
  refine cr_enter (by decide +kernel) (Nat.le_of_ble_eq_true rfl) (fun hlo P9 E9 S9 M9 A9 B9 T9 C9 C hem hH => ?_)
  have hold := h.old
  refine cr_vc [] 120 (s_C_both hl Z C hem) (fun K hK => ?_)
  conv => whnf
  refine ⟨rfl, ?_⟩
  conv => whnf
  refine ⟨_, (h.c 14 0 rfl), _, _, _, _, j_C_cardNumbered hl Z (h.c 14 0 rfl) (h.li 3 (by decide)) (show G 19 0 < 2 ^ 31 by omega) ha (h.c 3 a ha), by decide, cr_le rfl, cr_le rfl, cr_le rfl, fun v2 H2 q2 _ => ?_, fun kd H9 q9 _ => by cases q9.1⟩
  obtain ⟨q2a, q2b⟩ := q2
  cases q2a
  replace q2b := q2b.symm
  subst q2b
  conv => whnf
  refine ⟨cr_le rfl, ?_⟩
  conv => whnf
  refine ⟨rfl, ?_⟩
  conv => whnf
  refine ⟨_, (h.c 14 0 rfl), _, _, _, _, j_C_cardNumbered_a hl Z h.old (h.c 14 0 rfl) (h.li 3 (by decide)) (show G 19 0 < 2 ^ 31 by omega) hb, by decide, cr_le rfl, cr_le rfl, cr_le rfl, fun v9 H9 q9 _ => (by cases q9.1), fun kd H9 q9 _ => ?_⟩
  obtain ⟨qa, qf⟩ := q9
  cases qa
  exact ⟨rfl, qf⟩
set_option maxRecDepth 20000 in
theorem j_C_both_c (hl : l.flags = flags0) (Z : cr_Z0 s0 D ca e0) (h : cc_H s0 D ca e0 O H A G w) (hr : cc_r G) (h19 : G 19 0 ≤ 60) (h4 : G 4 0 ≤ 30) (h2 : G 2 0 ≤ 20) {a : Nat} {d room m : Int32} (ha : a < G 19 0) : cr_c l s0 y_C_both cw_C_both 6 1 6 [.ref (A 14 0), .int (nI a), .int (nI a), .int d, .int room, .int m] H (ck_T 1 H) := by
  refine cr_enter (by decide +kernel) (Nat.le_of_ble_eq_true rfl) (fun hlo P9 E9 S9 M9 A9 B9 T9 C9 C hem hH => ?_)
  have hold := h.old
  refine cr_vc [] 120 (s_C_both hl Z C hem) (fun K hK => ?_)
  conv => whnf
  refine ⟨rfl, ?_⟩
  conv => whnf
  refine ⟨_, (h.c 14 0 rfl), _, _, _, _, j_C_cardNumbered hl Z (h.c 14 0 rfl) (h.li 3 (by decide)) (show G 19 0 < 2 ^ 31 by omega) ha (h.c 3 a ha), by decide, cr_le rfl, cr_le rfl, cr_le rfl, fun v2 H2 q2 _ => ?_, fun kd H9 q9 _ => by cases q9.1⟩
  obtain ⟨q2a, q2b⟩ := q2
  cases q2a
  replace q2b := q2b.symm
  subst q2b
  conv => whnf
  refine ⟨cr_le rfl, ?_⟩
  conv => whnf
  refine ⟨rfl, ?_⟩
  conv => whnf
  refine ⟨_, (h.c 14 0 rfl), _, _, _, _, j_C_cardNumbered hl Z (h.c 14 0 rfl) (h.li 3 (by decide)) (show G 19 0 < 2 ^ 31 by omega) ha (h.c 3 a ha), by decide, cr_le rfl, cr_le rfl, cr_le rfl, fun v9 H9 q9 _ => ?_, fun kd H9 q9 _ => by cases q9.1⟩
  obtain ⟨q9a, q9b⟩ := q9
  cases q9a
  replace q9b := q9b.symm
  subst q9b
  conv => whnf
  refine ⟨cr_le rfl, ?_⟩
  conv => whnf
  refine ⟨fun b16 => absurd rfl b16, fun b16 => ?_⟩
  conv => whnf
  refine ⟨hold, rfl, cr_le rfl, cr_le rfl, by decide, cr_le rfl, fun H9 hs9 hq9 => ?_⟩
  exact ⟨rfl, hs9, fun q a _ => hq9 q a⟩
set_option maxRecDepth 20000 in
theorem j_C_both_d (hl : l.flags = flags0) (Z : cr_Z0 s0 D ca e0) (h : cc_H s0 D ca e0 O H A G w) (hr : cc_r G) (h19 : G 19 0 ≤ 60) (h4 : G 4 0 ≤ 30) (h2 : G 2 0 ≤ 20) {a b : Nat} {d room m : Int32} (ha : a < G 19 0) (hb : b < G 19 0) (hab : a ≠ b) (hd : mm_in d (nI (G 4 0)) = false) : cr_c l s0 y_C_both cw_C_both 7 1 6 [.ref (A 14 0), .int (nI a), .int (nI b), .int d, .int room, .int m] H (ck_T 1 H) := by
  refine cr_enter (by decide +kernel) (Nat.le_of_ble_eq_true rfl) (fun hlo P9 E9 S9 M9 A9 B9 T9 C9 C hem hH => ?_)
  have hold := h.old
  refine cr_vc [] 120 (s_C_both hl Z C hem) (fun K hK => ?_)
  conv => whnf
  refine ⟨rfl, ?_⟩
  conv => whnf
  refine ⟨_, (h.c 14 0 rfl), _, _, _, _, j_C_cardNumbered hl Z (h.c 14 0 rfl) (h.li 3 (by decide)) (show G 19 0 < 2 ^ 31 by omega) ha (h.c 3 a ha), by decide, cr_le rfl, cr_le rfl, cr_le rfl, fun v2 H2 q2 _ => ?_, fun kd H9 q9 _ => by cases q9.1⟩
  obtain ⟨q2a, q2b⟩ := q2
  cases q2a
  replace q2b := q2b.symm
  subst q2b
  conv => whnf
  refine ⟨cr_le rfl, ?_⟩
  conv => whnf
  refine ⟨rfl, ?_⟩
  conv => whnf
  refine ⟨_, (h.c 14 0 rfl), _, _, _, _, j_C_cardNumbered hl Z (h.c 14 0 rfl) (h.li 3 (by decide)) (show G 19 0 < 2 ^ 31 by omega) hb (h.c 3 b hb), by decide, cr_le rfl, cr_le rfl, cr_le rfl, fun v9 H9 q9 _ => ?_, fun kd H9 q9 _ => by cases q9.1⟩
  obtain ⟨q9a, q9b⟩ := q9
  cases q9a
  replace q9b := q9b.symm
  subst q9b
  conv => whnf
  refine ⟨cr_le rfl, ?_⟩
  conv => whnf
  refine ⟨fun b16 => ?_, fun b16 => absurd ((nI_eq (by omega) (by omega)).mp b16) hab⟩
  conv => whnf
  refine ⟨rfl, ?_⟩
  conv => whnf
  refine ⟨_, (h.c 14 0 rfl), _, _, _, _, j_C_doorNumbered_a hl Z h.old (h.c 14 0 rfl) (h.li 1 (by decide)) (show G 4 0 < 2 ^ 31 by omega) hd, by decide, cr_le rfl, cr_le rfl, cr_le rfl, fun v9 H9 q9 _ => (by cases q9.1), fun kd H9 q9 _ => ?_⟩
  obtain ⟨qa, qf⟩ := q9
  cases qa
  exact ⟨rfl, qf⟩
set_option maxRecDepth 20000 in
theorem j_C_both_e (hl : l.flags = flags0) (Z : cr_Z0 s0 D ca e0) (h : cc_H s0 D ca e0 O H A G w) (hr : cc_r G) (h19 : G 19 0 ≤ 60) (h4 : G 4 0 ≤ 30) (h2 : G 2 0 ≤ 20) {a b d : Nat} {room m : Int32} (ha : a < G 19 0) (hb : b < G 19 0) (hab : a ≠ b) (hd : d < G 4 0) (h5 : ¬ room = nI (G 5 d)) (h6 : ¬ room = nI (G 6 d)) : cr_c l s0 y_C_both cw_C_both 7 1 6 [.ref (A 14 0), .int (nI a), .int (nI b), .int (nI d), .int room, .int m] H (ck_T 1 H) := by
  refine cr_enter (by decide +kernel) (Nat.le_of_ble_eq_true rfl) (fun hlo P9 E9 S9 M9 A9 B9 T9 C9 C hem hH => ?_)
  have hold := h.old
  refine cr_vc [] 120 (s_C_both hl Z C hem) (fun K hK => ?_)
  conv => whnf
  refine ⟨rfl, ?_⟩
  conv => whnf
  refine ⟨_, (h.c 14 0 rfl), _, _, _, _, j_C_cardNumbered hl Z (h.c 14 0 rfl) (h.li 3 (by decide)) (show G 19 0 < 2 ^ 31 by omega) ha (h.c 3 a ha), by decide, cr_le rfl, cr_le rfl, cr_le rfl, fun v2 H2 q2 _ => ?_, fun kd H9 q9 _ => by cases q9.1⟩
  obtain ⟨q2a, q2b⟩ := q2
  cases q2a
  replace q2b := q2b.symm
  subst q2b
  conv => whnf
  refine ⟨cr_le rfl, ?_⟩
  conv => whnf
  refine ⟨rfl, ?_⟩
  conv => whnf
  refine ⟨_, (h.c 14 0 rfl), _, _, _, _, j_C_cardNumbered hl Z (h.c 14 0 rfl) (h.li 3 (by decide)) (show G 19 0 < 2 ^ 31 by omega) hb (h.c 3 b hb), by decide, cr_le rfl, cr_le rfl, cr_le rfl, fun v9 H9 q9 _ => ?_, fun kd H9 q9 _ => by cases q9.1⟩
  obtain ⟨q9a, q9b⟩ := q9
  cases q9a
  replace q9b := q9b.symm
  subst q9b
  conv => whnf
  refine ⟨cr_le rfl, ?_⟩
  conv => whnf
  refine ⟨fun b16 => ?_, fun b16 => absurd ((nI_eq (by omega) (by omega)).mp b16) hab⟩
  conv => whnf
  refine ⟨rfl, ?_⟩
  conv => whnf
  refine ⟨_, (h.c 14 0 rfl), _, _, _, _, j_C_doorNumbered hl Z (h.c 14 0 rfl) (h.li 1 (by decide)) (show G 4 0 < 2 ^ 31 by omega) hd (h.c 1 d hd), by decide, cr_le rfl, cr_le rfl, cr_le rfl, fun v31 H31 q31 _ => ?_, fun kd H9 q9 _ => by cases q9.1⟩
  obtain ⟨q31a, q31b⟩ := q31
  cases q31a
  replace q31b := q31b.symm
  subst q31b
  conv => whnf
  refine ⟨cr_le rfl, ?_⟩
  conv => whnf
  refine ⟨rfl, ?_⟩
  conv => whnf
  refine ⟨_, _, _, _, cc_roomOf_a hl Z h hr hd h2 h5 h6, by decide, cr_le rfl, cr_le rfl, cr_le rfl, fun v9 H9 q9 _ => (by cases q9.1), fun kd H9 q9 _ => ?_⟩
  obtain ⟨qa, qf⟩ := q9
  cases qa
  exact ⟨rfl, qf⟩
set_option maxRecDepth 20000 in
theorem j_C_both_f (hl : l.flags = flags0) (Z : cr_Z0 s0 D ca e0) (h : cc_H s0 D ca e0 O H A G w) (hr : cc_r G) (h19 : G 19 0 ≤ 60) (h4 : G 4 0 ≤ 30) (h2 : G 2 0 ≤ 20) {a b d room : Nat} {m : Int32} (ha : a < G 19 0) (hb : b < G 19 0) (hab : a ≠ b) (hd : d < G 4 0) (hio : room = G 5 d ∨ room = G 6 d) (hm : mm_min m = false) : cr_c l s0 y_C_both cw_C_both 8 1 6 [.ref (A 14 0), .int (nI a), .int (nI b), .int (nI d), .int (nI room), .int m] H (ck_T 1 H) := by
  refine cr_enter (by decide +kernel) (Nat.le_of_ble_eq_true rfl) (fun hlo P9 E9 S9 M9 A9 B9 T9 C9 C hem hH => ?_)
  have hold := h.old
  refine cr_vc [] 120 (s_C_both hl Z C hem) (fun K hK => ?_)
  conv => whnf
  refine ⟨rfl, ?_⟩
  conv => whnf
  refine ⟨_, (h.c 14 0 rfl), _, _, _, _, j_C_cardNumbered hl Z (h.c 14 0 rfl) (h.li 3 (by decide)) (show G 19 0 < 2 ^ 31 by omega) ha (h.c 3 a ha), by decide, cr_le rfl, cr_le rfl, cr_le rfl, fun v2 H2 q2 _ => ?_, fun kd H9 q9 _ => by cases q9.1⟩
  obtain ⟨q2a, q2b⟩ := q2
  cases q2a
  replace q2b := q2b.symm
  subst q2b
  conv => whnf
  refine ⟨cr_le rfl, ?_⟩
  conv => whnf
  refine ⟨rfl, ?_⟩
  conv => whnf
  refine ⟨_, (h.c 14 0 rfl), _, _, _, _, j_C_cardNumbered hl Z (h.c 14 0 rfl) (h.li 3 (by decide)) (show G 19 0 < 2 ^ 31 by omega) hb (h.c 3 b hb), by decide, cr_le rfl, cr_le rfl, cr_le rfl, fun v9 H9 q9 _ => ?_, fun kd H9 q9 _ => by cases q9.1⟩
  obtain ⟨q9a, q9b⟩ := q9
  cases q9a
  replace q9b := q9b.symm
  subst q9b
  conv => whnf
  refine ⟨cr_le rfl, ?_⟩
  conv => whnf
  refine ⟨fun b16 => ?_, fun b16 => absurd ((nI_eq (by omega) (by omega)).mp b16) hab⟩
  conv => whnf
  refine ⟨rfl, ?_⟩
  conv => whnf
  refine ⟨_, (h.c 14 0 rfl), _, _, _, _, j_C_doorNumbered hl Z (h.c 14 0 rfl) (h.li 1 (by decide)) (show G 4 0 < 2 ^ 31 by omega) hd (h.c 1 d hd), by decide, cr_le rfl, cr_le rfl, cr_le rfl, fun v31 H31 q31 _ => ?_, fun kd H9 q9 _ => by cases q9.1⟩
  obtain ⟨q31a, q31b⟩ := q31
  cases q31a
  replace q31b := q31b.symm
  subst q31b
  conv => whnf
  refine ⟨cr_le rfl, ?_⟩
  conv => whnf
  refine ⟨rfl, ?_⟩
  conv => whnf
  refine ⟨_, _, _, _, cc_roomOf hl Z h hr hd h2 hio, by decide, cr_le rfl, cr_le rfl, cr_le rfl, fun v40 H40 q40 _ => ?_, fun kd H9 q9 _ => by cases q9.1⟩
  obtain ⟨q40a, q40b⟩ := q40
  cases q40a
  replace q40b := q40b.symm
  subst q40b
  conv => whnf
  refine ⟨cr_le rfl, ?_⟩
  conv => whnf
  refine ⟨rfl, ?_⟩
  conv => whnf
  refine ⟨_, (h.c 14 0 rfl), _, _, _, _, j_C_checkMinuteFromNow_a hl Z h.old (h.c 14 0 rfl) hm, by decide, cr_le rfl, cr_le rfl, cr_le rfl, fun v9 H9 q9 _ => (by cases q9.1), fun kd H9 q9 _ => ?_⟩
  obtain ⟨qa, qf⟩ := q9
  cases qa
  exact ⟨rfl, qf⟩
set_option maxRecDepth 20000 in
theorem j_C_both_g (hl : l.flags = flags0) (Z : cr_Z0 s0 D ca e0) (h : cc_H s0 D ca e0 O H A G w) (hr : cc_r G) (h19 : G 19 0 ≤ 60) (h4 : G 4 0 ≤ 30) (h2 : G 2 0 ≤ 20) {a b d room : Nat} {m : Int32} (ha : a < G 19 0) (hb : b < G 19 0) (hab : a ≠ b) (hd : d < G 4 0) (hio : room = G 5 d ∨ room = G 6 d) (hm : mm_min m = true) (hn : ¬ nI (G 1 0) ≤ m) : cr_c l s0 y_C_both cw_C_both 8 1 6 [.ref (A 14 0), .int (nI a), .int (nI b), .int (nI d), .int (nI room), .int m] H (ck_T 1 H) := by
  refine cr_enter (by decide +kernel) (Nat.le_of_ble_eq_true rfl) (fun hlo P9 E9 S9 M9 A9 B9 T9 C9 C hem hH => ?_)
  have hold := h.old
  refine cr_vc [] 120 (s_C_both hl Z C hem) (fun K hK => ?_)
  conv => whnf
  refine ⟨rfl, ?_⟩
  conv => whnf
  refine ⟨_, (h.c 14 0 rfl), _, _, _, _, j_C_cardNumbered hl Z (h.c 14 0 rfl) (h.li 3 (by decide)) (show G 19 0 < 2 ^ 31 by omega) ha (h.c 3 a ha), by decide, cr_le rfl, cr_le rfl, cr_le rfl, fun v2 H2 q2 _ => ?_, fun kd H9 q9 _ => by cases q9.1⟩
  obtain ⟨q2a, q2b⟩ := q2
  cases q2a
  replace q2b := q2b.symm
  subst q2b
  conv => whnf
  refine ⟨cr_le rfl, ?_⟩
  conv => whnf
  refine ⟨rfl, ?_⟩
  conv => whnf
  refine ⟨_, (h.c 14 0 rfl), _, _, _, _, j_C_cardNumbered hl Z (h.c 14 0 rfl) (h.li 3 (by decide)) (show G 19 0 < 2 ^ 31 by omega) hb (h.c 3 b hb), by decide, cr_le rfl, cr_le rfl, cr_le rfl, fun v9 H9 q9 _ => ?_, fun kd H9 q9 _ => by cases q9.1⟩
  obtain ⟨q9a, q9b⟩ := q9
  cases q9a
  replace q9b := q9b.symm
  subst q9b
  conv => whnf
  refine ⟨cr_le rfl, ?_⟩
  conv => whnf
  refine ⟨fun b16 => ?_, fun b16 => absurd ((nI_eq (by omega) (by omega)).mp b16) hab⟩
  conv => whnf
  refine ⟨rfl, ?_⟩
  conv => whnf
  refine ⟨_, (h.c 14 0 rfl), _, _, _, _, j_C_doorNumbered hl Z (h.c 14 0 rfl) (h.li 1 (by decide)) (show G 4 0 < 2 ^ 31 by omega) hd (h.c 1 d hd), by decide, cr_le rfl, cr_le rfl, cr_le rfl, fun v31 H31 q31 _ => ?_, fun kd H9 q9 _ => by cases q9.1⟩
  obtain ⟨q31a, q31b⟩ := q31
  cases q31a
  replace q31b := q31b.symm
  subst q31b
  conv => whnf
  refine ⟨cr_le rfl, ?_⟩
  conv => whnf
  refine ⟨rfl, ?_⟩
  conv => whnf
  refine ⟨_, _, _, _, cc_roomOf hl Z h hr hd h2 hio, by decide, cr_le rfl, cr_le rfl, cr_le rfl, fun v40 H40 q40 _ => ?_, fun kd H9 q9 _ => by cases q9.1⟩
  obtain ⟨q40a, q40b⟩ := q40
  cases q40a
  replace q40b := q40b.symm
  subst q40b
  conv => whnf
  refine ⟨cr_le rfl, ?_⟩
  conv => whnf
  refine ⟨rfl, ?_⟩
  conv => whnf
  refine ⟨_, (h.c 14 0 rfl), _, _, _, _, j_C_checkMinuteFromNow_b hl Z h.old (h.c 14 0 rfl) hm hn, by decide, cr_le rfl, cr_le rfl, cr_le rfl, fun v9 H9 q9 _ => (by cases q9.1), fun kd H9 q9 _ => ?_⟩
  obtain ⟨qa, qf⟩ := q9
  cases qa
  exact ⟨rfl, qf⟩
set_option maxRecDepth 20000 in
theorem j_C_both_s (hl : l.flags = flags0) (Z : cr_Z0 s0 D ca e0) (h : cc_H s0 D ca e0 O H A G w) (hr : cc_r G) (h19 : G 19 0 ≤ 60) (h4 : G 4 0 ≤ 30) (h2 : G 2 0 ≤ 20) {a b d room : Nat} {m : Int32} (ha : a < G 19 0) (hb : b < G 19 0) (hab : a ≠ b) (hd : d < G 4 0) (hio : room = G 5 d ∨ room = G 6 d) (hm : mm_min m = true) (hn : nI (G 1 0) ≤ m) (hoff : G 10 d ≠ 9000) (hs : 50 < G 12 d + 2) (hs2 : G 12 d + 2 < 2 ^ 31) : cr_c l s0 y_C_both cw_C_both 8 1 6 [.ref (A 14 0), .int (nI a), .int (nI b), .int (nI d), .int (nI room), .int m] H (ck_T 2 H) := by
  refine cr_enter (by decide +kernel) (Nat.le_of_ble_eq_true rfl) (fun hlo P9 E9 S9 M9 A9 B9 T9 C9 C hem hH => ?_)
  have hold := h.old
  refine cr_vc [] 120 (s_C_both hl Z C hem) (fun K hK => ?_)
  conv => whnf
  refine ⟨rfl, ?_⟩
  conv => whnf
  refine ⟨_, (h.c 14 0 rfl), _, _, _, _, j_C_cardNumbered hl Z (h.c 14 0 rfl) (h.li 3 (by decide)) (show G 19 0 < 2 ^ 31 by omega) ha (h.c 3 a ha), by decide, cr_le rfl, cr_le rfl, cr_le rfl, fun v2 H2 q2 _ => ?_, fun kd H9 q9 _ => by cases q9.1⟩
  obtain ⟨q2a, q2b⟩ := q2
  cases q2a
  replace q2b := q2b.symm
  subst q2b
  conv => whnf
  refine ⟨cr_le rfl, ?_⟩
  conv => whnf
  refine ⟨rfl, ?_⟩
  conv => whnf
  refine ⟨_, (h.c 14 0 rfl), _, _, _, _, j_C_cardNumbered hl Z (h.c 14 0 rfl) (h.li 3 (by decide)) (show G 19 0 < 2 ^ 31 by omega) hb (h.c 3 b hb), by decide, cr_le rfl, cr_le rfl, cr_le rfl, fun v9 H9 q9 _ => ?_, fun kd H9 q9 _ => by cases q9.1⟩
  obtain ⟨q9a, q9b⟩ := q9
  cases q9a
  replace q9b := q9b.symm
  subst q9b
  conv => whnf
  refine ⟨cr_le rfl, ?_⟩
  conv => whnf
  refine ⟨fun b16 => ?_, fun b16 => absurd ((nI_eq (by omega) (by omega)).mp b16) hab⟩
  conv => whnf
  refine ⟨rfl, ?_⟩
  conv => whnf
  refine ⟨_, (h.c 14 0 rfl), _, _, _, _, j_C_doorNumbered hl Z (h.c 14 0 rfl) (h.li 1 (by decide)) (show G 4 0 < 2 ^ 31 by omega) hd (h.c 1 d hd), by decide, cr_le rfl, cr_le rfl, cr_le rfl, fun v31 H31 q31 _ => ?_, fun kd H9 q9 _ => by cases q9.1⟩
  obtain ⟨q31a, q31b⟩ := q31
  cases q31a
  replace q31b := q31b.symm
  subst q31b
  conv => whnf
  refine ⟨cr_le rfl, ?_⟩
  conv => whnf
  refine ⟨rfl, ?_⟩
  conv => whnf
  refine ⟨_, _, _, _, cc_roomOf hl Z h hr hd h2 hio, by decide, cr_le rfl, cr_le rfl, cr_le rfl, fun v40 H40 q40 _ => ?_, fun kd H9 q9 _ => by cases q9.1⟩
  obtain ⟨q40a, q40b⟩ := q40
  cases q40a
  replace q40b := q40b.symm
  subst q40b
  conv => whnf
  refine ⟨cr_le rfl, ?_⟩
  conv => whnf
  refine ⟨rfl, ?_⟩
  conv => whnf
  refine ⟨_, (h.c 14 0 rfl), _, _, _, _, j_C_checkMinuteFromNow hl Z (h.c 14 0 rfl) hm hn, by decide, cr_le rfl, cr_le rfl, cr_le rfl, fun v48 H48 q48 _ => ?_, fun kd H9 q9 _ => by cases q9.1⟩
  obtain ⟨q48a, q48b⟩ := q48
  cases q48a
  replace q48b := q48b.symm
  subst q48b
  conv => whnf
  refine ⟨rfl, ?_⟩
  conv => whnf
  refine ⟨_, _, _, _, j_C_space_s (k := 2) hl Z h hd hoff hs hs2, by decide, cr_le rfl, cr_le rfl, cr_le rfl, fun v9 H9 q9 _ => (by cases q9.1), fun kd H9 q9 _ => ?_⟩
  obtain ⟨qa, qf⟩ := q9
  cases qa
  exact ⟨rfl, qf⟩
end CTJ
