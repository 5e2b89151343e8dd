/-! THE CLASS: calls that are refused (printed by gen/comp11.py) -/
section CTH
variable {l : Launch} {s0 : State} {D : va_G} {ca : Nat → ClassId} {e0 : Nat} {O : Nat → Prop} {H : Heap} {A : Nat → Nat → Nat} {G : mm_G} {w : cc_W}
set_option maxRecDepth 20000 in
theorem j_C_two_a (hl : l.flags = flags0) (Z : cr_Z0 s0 D ca e0) (h : cc_H s0 D ca e0 O H A G w)(h4 : G 4 0 ≤ 30) {z o : Int32} (hz : mm_in z (nI (G 4 0)) = false) : cr_c l s0 y_C_two cw_C_two 7 1 6 [.ref (A 14 0), .int z, .int o] H (ck_T 1 H) := by
  refine cr_enter (by decide +kernel) (Nat.le_of_ble_eq_true rfl) (fun hlo P9 E9 S9 M9 A9 B9 T9 C9 C hem hH => ?_)
  refine cr_vc [] 120 (s_C_two hl Z C hem) (fun K hK => ?_)
  conv => whnf
  refine ⟨rfl, ?_⟩
  conv => whnf
  refine ⟨_, (h.c 14 0 rfl), _, _, _, _, j_C_doorNumbered_a hl Z h.old (h.c 14 0 rfl) (h.li 1 (by decide)) (show G 4 0 < 2 ^ 31 by omega) hz, by decide, cr_le rfl, cr_le rfl, cr_le rfl, fun v9 H9 q9 _ => (by cases q9.1), fun kd H9 q9 _ => ?_⟩
  obtain ⟨qa, qf⟩ := q9
  cases qa
  exact ⟨rfl, qf⟩
set_option maxRecDepth 20000 in
theorem j_C_state_a (hl : l.flags = flags0) (Z : cr_Z0 s0 D ca e0) (h : cc_H s0 D ca e0 O H A G w)(h4 : G 4 0 ≤ 30) {z o m : Int32} (hz : mm_in z (nI (G 4 0)) = false) : cr_c l s0 y_C_state cw_C_state 7 1 6 [.ref (A 14 0), .int z, .int o, .int m] H (ck_T 1 H) := by
  refine cr_enter (by decide +kernel) (Nat.le_of_ble_eq_true rfl) (fun hlo P9 E9 S9 M9 A9 B9 T9 C9 C hem hH => ?_)
  refine cr_vc [] 120 (s_C_state hl Z C hem) (fun K hK => ?_)
  conv => whnf
  refine ⟨rfl, ?_⟩
  conv => whnf
  refine ⟨_, (h.c 14 0 rfl), _, _, _, _, j_C_doorNumbered_a hl Z h.old (h.c 14 0 rfl) (h.li 1 (by decide)) (show G 4 0 < 2 ^ 31 by omega) hz, by decide, cr_le rfl, cr_le rfl, cr_le rfl, fun v9 H9 q9 _ => (by cases q9.1), fun kd H9 q9 _ => ?_⟩
  obtain ⟨qa, qf⟩ := q9
  cases qa
  exact ⟨rfl, qf⟩
set_option maxRecDepth 20000 in
theorem j_C_state_b (hl : l.flags = flags0) (Z : cr_Z0 s0 D ca e0) (h : cc_H s0 D ca e0 O H A G w)(h4 : G 4 0 ≤ 30) {d : Nat} {o m : Int32} (hd : d < G 4 0) (hm : mm_min m = false) : cr_c l s0 y_C_state cw_C_state 8 1 6 [.ref (A 14 0), .int (nI d), .int o, .int m] H (ck_T 1 H) := by
  refine cr_enter (by decide +kernel) (Nat.le_of_ble_eq_true rfl) (fun hlo P9 E9 S9 M9 A9 B9 T9 C9 C hem hH => ?_)
  refine cr_vc [] 120 (s_C_state hl Z C hem) (fun K hK => ?_)
  conv => whnf
  refine ⟨rfl, ?_⟩
  conv => whnf
  refine ⟨_, (h.c 14 0 rfl), _, _, _, _, j_C_doorNumbered hl Z (h.c 14 0 rfl) (h.li 1 (by decide)) (show G 4 0 < 2 ^ 31 by omega) hd (h.c 1 d hd), by decide, cr_le rfl, cr_le rfl, cr_le rfl, fun v2 H2 q2 _ => ?_, fun kd H9 q9 _ => by cases q9.1⟩
  obtain ⟨q2a, q2b⟩ := q2
  cases q2a
  replace q2b := q2b.symm
  subst q2b
  conv => whnf
  refine ⟨cr_le rfl, ?_⟩
  conv => whnf
  refine ⟨rfl, ?_⟩
  conv => whnf
  refine ⟨_, (h.c 14 0 rfl), _, _, _, _, j_C_checkMinuteFromNow_a hl Z h.old (h.c 14 0 rfl) hm, by decide, cr_le rfl, cr_le rfl, cr_le rfl, fun v9 H9 q9 _ => (by cases q9.1), fun kd H9 q9 _ => ?_⟩
  obtain ⟨qa, qf⟩ := q9
  cases qa
  exact ⟨rfl, qf⟩
set_option maxRecDepth 20000 in
theorem j_C_state_c (hl : l.flags = flags0) (Z : cr_Z0 s0 D ca e0) (h : cc_H s0 D ca e0 O H A G w)(h4 : G 4 0 ≤ 30) {d : Nat} {o m : Int32} (hd : d < G 4 0) (hm : mm_min m = true) (hn : ¬ nI (G 1 0) ≤ m) : cr_c l s0 y_C_state cw_C_state 8 1 6 [.ref (A 14 0), .int (nI d), .int o, .int m] H (ck_T 1 H) := by
  refine cr_enter (by decide +kernel) (Nat.le_of_ble_eq_true rfl) (fun hlo P9 E9 S9 M9 A9 B9 T9 C9 C hem hH => ?_)
  refine cr_vc [] 120 (s_C_state hl Z C hem) (fun K hK => ?_)
  conv => whnf
  refine ⟨rfl, ?_⟩
  conv => whnf
  refine ⟨_, (h.c 14 0 rfl), _, _, _, _, j_C_doorNumbered hl Z (h.c 14 0 rfl) (h.li 1 (by decide)) (show G 4 0 < 2 ^ 31 by omega) hd (h.c 1 d hd), by decide, cr_le rfl, cr_le rfl, cr_le rfl, fun v2 H2 q2 _ => ?_, fun kd H9 q9 _ => by cases q9.1⟩
  obtain ⟨q2a, q2b⟩ := q2
  cases q2a
  replace q2b := q2b.symm
  subst q2b
  conv => whnf
  refine ⟨cr_le rfl, ?_⟩
  conv => whnf
  refine ⟨rfl, ?_⟩
  conv => whnf
  refine ⟨_, (h.c 14 0 rfl), _, _, _, _, j_C_checkMinuteFromNow_b hl Z h.old (h.c 14 0 rfl) hm hn, by decide, cr_le rfl, cr_le rfl, cr_le rfl, fun v9 H9 q9 _ => (by cases q9.1), fun kd H9 q9 _ => ?_⟩
  obtain ⟨qa, qf⟩ := q9
  cases qa
  exact ⟨rfl, qf⟩
set_option maxRecDepth 20000 in
theorem j_C_airlock_a (hl : l.flags = flags0) (Z : cr_Z0 s0 D ca e0) (h : cc_H s0 D ca e0 O H A G w)(h4 : G 4 0 ≤ 30) {a b o : Int32} (ha : mm_in a (nI (G 4 0)) = false) : cr_c l s0 y_C_airlock cw_C_airlock 7 1 6 [.ref (A 14 0), .int a, .int b, .int o] H (ck_T 1 H) := by
  refine cr_enter (by decide +kernel) (Nat.le_of_ble_eq_true rfl) (fun hlo P9 E9 S9 M9 A9 B9 T9 C9 C hem hH => ?_)
  refine cr_vc [] 120 (s_C_airlock hl Z C hem) (fun K hK => ?_)
  conv => whnf
  refine ⟨rfl, ?_⟩
  conv => whnf
  refine ⟨_, (h.c 14 0 rfl), _, _, _, _, j_C_doorNumbered_a hl Z h.old (h.c 14 0 rfl) (h.li 1 (by decide)) (show G 4 0 < 2 ^ 31 by omega) ha, by decide, cr_le rfl, cr_le rfl, cr_le rfl, fun v9 H9 q9 _ => (by cases q9.1), fun kd H9 q9 _ => ?_⟩
  obtain ⟨qa, qf⟩ := q9
  cases qa
  exact ⟨rfl, qf⟩
set_option maxRecDepth 20000 in
theorem j_C_airlock_b (hl : l.flags = flags0) (Z : cr_Z0 s0 D ca e0) (h : cc_H s0 D ca e0 O H A G w)(h4 : G 4 0 ≤ 30) {a : Nat} {b o : Int32} (ha : a < G 4 0) (hb : mm_in b (nI (G 4 0)) = false) : cr_c l s0 y_C_airlock cw_C_airlock 7 1 6 [.ref (A 14 0), .int (nI a), .int b, .int o] H (ck_T 1 H) := by
  refine cr_enter (by decide +kernel) (Nat.le_of_ble_eq_true rfl) (fun hlo P9 E9 S9 M9 A9 B9 T9 C9 C hem hH => ?_)
  refine cr_vc [] 120 (s_C_airlock hl Z C hem) (fun K hK => ?_)
  conv => whnf
  refine ⟨rfl, ?_⟩
  conv => whnf
  refine ⟨_, (h.c 14 0 rfl), _, _, _, _, j_C_doorNumbered hl Z (h.c 14 0 rfl) (h.li 1 (by decide)) (show G 4 0 < 2 ^ 31 by omega) ha (h.c 1 a ha), by decide, cr_le rfl, cr_le rfl, cr_le rfl, fun v2 H2 q2 _ => ?_, fun kd H9 q9 _ => by cases q9.1⟩
  obtain ⟨q2a, q2b⟩ := q2
  cases q2a
  replace q2b := q2b.symm
  subst q2b
  conv => whnf
  refine ⟨cr_le rfl, ?_⟩
  conv => whnf
  refine ⟨rfl, ?_⟩
  conv => whnf
  refine ⟨_, (h.c 14 0 rfl), _, _, _, _, j_C_doorNumbered_a hl Z h.old (h.c 14 0 rfl) (h.li 1 (by decide)) (show G 4 0 < 2 ^ 31 by omega) hb, by decide, cr_le rfl, cr_le rfl, cr_le rfl, fun v9 H9 q9 _ => (by cases q9.1), fun kd H9 q9 _ => ?_⟩
  obtain ⟨qa, qf⟩ := q9
  cases qa
  exact ⟨rfl, qf⟩
set_option maxRecDepth 20000 in
theorem j_C_airlock_c (hl : l.flags = flags0) (Z : cr_Z0 s0 D ca e0) (h : cc_H s0 D ca e0 O H A G w)(h4 : G 4 0 ≤ 30) {a : Nat} {o : Int32} (ha : a < G 4 0) : cr_c l s0 y_C_airlock cw_C_airlock 6 1 6 [.ref (A 14 0), .int (nI a), .int (nI a), .int o] H (ck_T 1 H) := by
  refine cr_enter (by decide +kernel) (Nat.le_of_ble_eq_true rfl) (fun hlo P9 E9 S9 M9 A9 B9 T9 C9 C hem hH => ?_)
  have hold := h.old
  refine cr_vc [] 120 (s_C_airlock hl Z C hem) (fun K hK => ?_)
  conv => whnf
  refine ⟨rfl, ?_⟩
  conv => whnf
  refine ⟨_, (h.c 14 0 rfl), _, _, _, _, j_C_doorNumbered hl Z (h.c 14 0 rfl) (h.li 1 (by decide)) (show G 4 0 < 2 ^ 31 by omega) ha (h.c 1 a ha), by decide, cr_le rfl, cr_le rfl, cr_le rfl, fun v2 H2 q2 _ => ?_, fun kd H9 q9 _ => by cases q9.1⟩
  obtain ⟨q2a, q2b⟩ := q2
  cases q2a
  replace q2b := q2b.symm
  subst q2b
  conv => whnf
  refine ⟨cr_le rfl, ?_⟩
  conv => whnf
  refine ⟨rfl, ?_⟩
  conv => whnf
  refine ⟨_, (h.c 14 0 rfl), _, _, _, _, j_C_doorNumbered hl Z (h.c 14 0 rfl) (h.li 1 (by decide)) (show G 4 0 < 2 ^ 31 by omega) ha (h.c 1 a ha), by decide, cr_le rfl, cr_le rfl, cr_le rfl, fun v9 H9 q9 _ => ?_, fun kd H9 q9 _ => by cases q9.1⟩
  obtain ⟨q9a, q9b⟩ := q9
  cases q9a
  replace q9b := q9b.symm
  subst q9b
  conv => whnf
  refine ⟨cr_le rfl, ?_⟩
  conv => whnf
  refine ⟨fun b16 => absurd rfl b16, fun b16 => ?_⟩
  conv => whnf
  refine ⟨hold, rfl, cr_le rfl, cr_le rfl, by decide, cr_le rfl, fun H9 hs9 hq9 => ?_⟩
  exact ⟨rfl, hs9, fun q a _ => hq9 q a⟩
set_option maxRecDepth 20000 in
theorem j_C_off_a (hl : l.flags = flags0) (Z : cr_Z0 s0 D ca e0) (h : cc_H s0 D ca e0 O H A G w)(h4 : G 4 0 ≤ 30) {z o : Int32} (hz : mm_in z (nI (G 4 0)) = false) : cr_c l s0 y_C_off cw_C_off 7 1 6 [.ref (A 14 0), .int z, .int o] H (ck_T 1 H) := by
  refine cr_enter (by decide +kernel) (Nat.le_of_ble_eq_true rfl) (fun hlo P9 E9 S9 M9 A9 B9 T9 C9 C hem hH => ?_)
  refine cr_vc [] 120 (s_C_off hl Z C hem) (fun K hK => ?_)
  conv => whnf
  refine ⟨rfl, ?_⟩
  conv => whnf
  refine ⟨_, (h.c 14 0 rfl), _, _, _, _, j_C_doorNumbered_a hl Z h.old (h.c 14 0 rfl) (h.li 1 (by decide)) (show G 4 0 < 2 ^ 31 by omega) hz, by decide, cr_le rfl, cr_le rfl, cr_le rfl, fun v9 H9 q9 _ => (by cases q9.1), fun kd H9 q9 _ => ?_⟩
  obtain ⟨qa, qf⟩ := q9
  cases qa
  exact ⟨rfl, qf⟩
set_option maxRecDepth 20000 in
theorem j_C_lost_a (hl : l.flags = flags0) (Z : cr_Z0 s0 D ca e0) (h : cc_H s0 D ca e0 O H A G w) (h19 : G 19 0 ≤ 60) {z m : Int32} (hz : mm_in z (nI (G 19 0)) = false) : cr_c l s0 y_C_lost cw_C_lost 7 1 6 [.ref (A 14 0), .int z, .int m] H (ck_T 1 H) := by
  refine cr_enter (by decide +kernel) (Nat.le_of_ble_eq_true rfl) (fun hlo P9 E9 S9 M9 A9 B9 T9 C9 C hem hH => ?_)
  refine cr_vc [] 120 (s_C_lost hl Z C hem) (fun K hK => ?_)
  conv => whnf
  refine ⟨rfl, ?_⟩
  conv => whnf
  refine ⟨_, (h.c 14 0 rfl), _, _, _, _, j_C_cardNumbered_a hl Z h.old (h.c 14 0 rfl) (h.li 3 (by decide)) (show G 19 0 < 2 ^ 31 by omega) hz, by decide, cr_le rfl, cr_le rfl, cr_le rfl, fun v9 H9 q9 _ => (by cases q9.1), fun kd H9 q9 _ => ?_⟩
  obtain ⟨qa, qf⟩ := q9
  cases qa
  exact ⟨rfl, qf⟩
set_option maxRecDepth 20000 in
theorem j_C_lost_b (hl : l.flags = flags0) (Z : cr_Z0 s0 D ca e0) (h : cc_H s0 D ca e0 O H A G w) (h19 : G 19 0 ≤ 60) {c : Nat} {m : Int32} (hc : c < G 19 0) (hm : mm_min m = false) : cr_c l s0 y_C_lost cw_C_lost 7 1 6 [.ref (A 14 0), .int (nI c), .int m] H (ck_T 1 H) := by
  refine cr_enter (by decide +kernel) (Nat.le_of_ble_eq_true rfl) (fun hlo P9 E9 S9 M9 A9 B9 T9 C9 C hem hH => ?_)
  refine cr_vc [] 120 (s_C_lost hl Z C hem) (fun K hK => ?_)
  conv => whnf
  refine ⟨rfl, ?_⟩
  conv => whnf
  refine ⟨_, (h.c 14 0 rfl), _, _, _, _, j_C_cardNumbered hl Z (h.c 14 0 rfl) (h.li 3 (by decide)) (show G 19 0 < 2 ^ 31 by omega) hc (h.c 3 c hc), by decide, cr_le rfl, cr_le rfl, cr_le rfl, fun v2 H2 q2 _ => ?_, fun kd H9 q9 _ => by cases q9.1⟩
  obtain ⟨q2a, q2b⟩ := q2
  cases q2a
  replace q2b := q2b.symm
  subst q2b
  conv => whnf
  refine ⟨cr_le rfl, ?_⟩
  conv => whnf
  refine ⟨rfl, ?_⟩
  conv => whnf
  refine ⟨_, _, _, _, j_C_checkMinute_a hl Z h.old hm, by decide, cr_le rfl, cr_le rfl, cr_le rfl, fun v9 H9 q9 _ => (by cases q9.1), fun kd H9 q9 _ => ?_⟩
  obtain ⟨qa, qf⟩ := q9
  cases qa
  exact ⟨rfl, qf⟩
set_option maxRecDepth 20000 in
theorem j_C_room_a (hl : l.flags = flags0) (Z : cr_Z0 s0 D ca e0) (h : cc_H s0 D ca e0 O H A G w) {z : Int32} (hz : mm_in z 10 = false) : cr_c l s0 y_C_room cw_C_room 7 1 6 [.ref (A 14 0), .int z] H (ck_T 1 H) := by
  refine cr_enter (by decide +kernel) (Nat.le_of_ble_eq_true rfl) (fun hlo P9 E9 S9 M9 A9 B9 T9 C9 C hem hH => ?_)
  refine cr_vc [] 120 (s_C_room hl Z C hem) (fun K hK => ?_)
  conv => whnf
  refine ⟨rfl, ?_⟩
  conv => whnf
  refine ⟨_, _, _, _, j_C_checkZone_a hl Z h.old hz, by decide, cr_le rfl, cr_le rfl, cr_le rfl, fun v9 H9 q9 _ => (by cases q9.1), fun kd H9 q9 _ => ?_⟩
  obtain ⟨qa, qf⟩ := q9
  cases qa
  exact ⟨rfl, qf⟩
set_option maxRecDepth 20000 in
theorem j_C_room_s (hl : l.flags = flags0) (Z : cr_Z0 s0 D ca e0) (h : cc_H s0 D ca e0 O H A G w) {z : Int32} (hz : mm_in z 10 = true) (h2 : 20 ≤ G 2 0) (h22 : G 2 0 < 2 ^ 31) : cr_c l s0 y_C_room cw_C_room 6 1 6 [.ref (A 14 0), .int z] H (ck_T 2 H) := by
  refine cr_enter (by decide +kernel) (Nat.le_of_ble_eq_true rfl) (fun hlo P9 E9 S9 M9 A9 B9 T9 C9 C hem hH => ?_)
  have hold := h.old
  obtain ⟨md, hal, -⟩ := (h.li 0 (by decide)).2
  refine cr_vc [] 120 (s_C_room hl Z C hem) (fun K hK => ?_)
  conv => whnf
  refine ⟨rfl, ?_⟩
  conv => whnf
  refine ⟨_, _, _, _, j_C_checkZone hl Z hz, by decide, cr_le rfl, cr_le rfl, cr_le rfl, fun v1 H1 q1 _ => ?_, fun kd H9 q9 _ => by cases q9.1⟩
  obtain ⟨q1a, q1b⟩ := q1
  cases q1a
  replace q1b := q1b.symm
  subst q1b
  conv => whnf
  refine ⟨_, (h.c 14 0 rfl), ?_⟩
  conv => whnf
  refine ⟨rfl, ?_⟩
  conv => whnf
  refine ⟨_, hal, _, _, _, _, j_AL_sizeL hl Z (h.li 0 (by decide)), by decide, cr_le rfl, cr_le rfl, cr_le rfl, fun v8 H8 q8 _ => ?_, fun kd H9 q9 _ => by cases q9.1⟩
  obtain ⟨q8a, q8b⟩ := q8
  cases q8a
  replace q8b := q8b.symm
  subst q8b
  conv => whnf
  refine ⟨fun b15 => absurd b15 (show ¬ nI (G 2 0) < nI 20 from nI_nlt h2 h22), fun b15 => ?_⟩
  conv => whnf
  refine ⟨hold, rfl, cr_le rfl, cr_le rfl, by decide, cr_le rfl, fun H9 hs9 hq9 => ?_⟩
  exact ⟨rfl, hs9, fun q a _ => hq9 q a⟩
end CTH
