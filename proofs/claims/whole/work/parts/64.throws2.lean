/-! THE CLASS: calls that are refused, more (printed by gen/comp12.py) -/
section CTI
variable {l : Launch} {s0 : State} {D : va_G} {ca : Nat → ClassId} {e0 : Nat} {O : Nat → Prop} {H : Heap} {A : Nat → Nat → Nat} {G : mm_G} {w : cc_W}
set_option maxRecDepth 20000 in
theorem j_C_person_a (hl : l.flags = flags0) (Z : cr_Z0 s0 D ca e0) (h : cc_H s0 D ca e0 O H A G w) {g : Int32} (hg : mm_in g 10 = false) : cr_c l s0 y_C_person cw_C_person 7 1 6 [.ref (A 14 0), .int g] H (ck_T 1 H) := by
  refine cr_enter (by decide +kernel) (Nat.le_of_ble_eq_true rfl) (fun hlo P9 E9 S9 M9 A9 B9 T9 C9 C hem hH => ?_)
  have hold := h.old
  refine cr_vc [] 120 (s_C_person hl Z C hem) (fun K hK => ?_)
  conv => whnf
  refine ⟨rfl, ?_⟩
  conv => whnf
  refine ⟨_, _, _, _, j_C_checkGroup_a hl Z h.old hg, by decide, cr_le rfl, cr_le rfl, cr_le rfl, fun v9 H9 q9 _ => (by cases q9.1), fun kd H9 q9 _ => ?_⟩
  obtain ⟨qa, qf⟩ := q9
  cases qa
  exact ⟨rfl, qf⟩
set_option maxRecDepth 20000 in
theorem j_C_person_s (hl : l.flags = flags0) (Z : cr_Z0 s0 D ca e0) (h : cc_H s0 D ca e0 O H A G w) {g : Int32} (hg : mm_in g 10 = true) (hs : 40 ≤ G 16 0) (hs2 : G 16 0 ≤ 40) : cr_c l s0 y_C_person cw_C_person 6 1 6 [.ref (A 14 0), .int g] H (ck_T 2 H) := by
  refine cr_enter (by decide +kernel) (Nat.le_of_ble_eq_true rfl) (fun hlo P9 E9 S9 M9 A9 B9 T9 C9 C hem hH => ?_)
  have hold := h.old
  obtain ⟨md2, hal2, -⟩ := (h.li 2 (by decide)).2
  refine cr_vc [] 120 (s_C_person hl Z C hem) (fun K hK => ?_)
  conv => whnf
  refine ⟨rfl, ?_⟩
  conv => whnf
  refine ⟨_, _, _, _, j_C_checkGroup hl Z hg, by decide, cr_le rfl, cr_le rfl, cr_le rfl, fun v1 H1 q1 _ => ?_, fun kd H9 q9 _ => by cases q9.1⟩
  obtain ⟨q1a, q1b⟩ := q1
  cases q1a
  replace q1b := q1b.symm
  subst q1b
  conv => whnf
  refine ⟨_, (h.c 14 0 rfl), ?_⟩
  conv => whnf
  refine ⟨rfl, ?_⟩
  conv => whnf
  refine ⟨_, hal2, _, _, _, _, j_AL_sizeL hl Z (h.li 2 (by decide)), by decide, cr_le rfl, cr_le rfl, cr_le rfl, fun v8 H8 q8 _ => ?_, fun kd H9 q9 _ => by cases q9.1⟩
  obtain ⟨q8a, q8b⟩ := q8
  cases q8a
  replace q8b := q8b.symm
  subst q8b
  conv => whnf
  refine ⟨fun b15 => absurd b15 (show ¬ nI (G 16 0) < nI 40 from nI_nlt hs (by omega)), fun b15 => ?_⟩
  conv => whnf
  refine ⟨hold, rfl, cr_le rfl, cr_le rfl, by decide, cr_le rfl, fun H9 hs9 hq9 => ?_⟩
  exact ⟨rfl, hs9, fun q a _ => hq9 q a⟩
set_option maxRecDepth 20000 in
theorem j_C_person_t (hl : l.flags = flags0) (Z : cr_Z0 s0 D ca e0) (h : cc_H s0 D ca e0 O H A G w) {g : Int32} (hg : mm_in g 10 = true) (hs : G 16 0 < 40) (h2 : G 2 0 = 0) : cr_c l s0 y_C_person cw_C_person 6 1 6 [.ref (A 14 0), .int g] H (ck_T 2 H) := by
  refine cr_enter (by decide +kernel) (Nat.le_of_ble_eq_true rfl) (fun hlo P9 E9 S9 M9 A9 B9 T9 C9 C hem hH => ?_)
  have hold := h.old
  obtain ⟨md2, hal2, -⟩ := (h.li 2 (by decide)).2
  obtain ⟨md0, hal0, -⟩ := (h.li 0 (by decide)).2
  refine cr_vc [] 120 (s_C_person hl Z C hem) (fun K hK => ?_)
  conv => whnf
  refine ⟨rfl, ?_⟩
  conv => whnf
  refine ⟨_, _, _, _, j_C_checkGroup hl Z hg, by decide, cr_le rfl, cr_le rfl, cr_le rfl, fun v1 H1 q1 _ => ?_, fun kd H9 q9 _ => by cases q9.1⟩
  obtain ⟨q1a, q1b⟩ := q1
  cases q1a
  replace q1b := q1b.symm
  subst q1b
  conv => whnf
  refine ⟨_, (h.c 14 0 rfl), ?_⟩
  conv => whnf
  refine ⟨rfl, ?_⟩
  conv => whnf
  refine ⟨_, hal2, _, _, _, _, j_AL_sizeL hl Z (h.li 2 (by decide)), by decide, cr_le rfl, cr_le rfl, cr_le rfl, fun v8 H8 q8 _ => ?_, fun kd H9 q9 _ => by cases q9.1⟩
  obtain ⟨q8a, q8b⟩ := q8
  cases q8a
  replace q8b := q8b.symm
  subst q8b
  conv => whnf
  refine ⟨fun b15 => ?_, fun b15 => absurd (show nI (G 16 0) < nI 40 from nI_lt hs (by decide)) b15⟩
  conv => whnf
  refine ⟨_, (h.c 14 0 rfl), ?_⟩
  conv => whnf
  refine ⟨rfl, ?_⟩
  conv => whnf
  refine ⟨_, hal0, _, _, _, _, j_AL_isEmpty hl Z hal0, by decide, cr_le rfl, cr_le rfl, cr_le rfl, fun v32 H32 q32 _ => ?_, fun kd H9 q9 _ => by cases q9.1⟩
  obtain ⟨q32a, q32b⟩ := q32
  cases q32a
  replace q32b := q32b.symm
  subst q32b
  conv => whnf
  refine ⟨fun b37 => absurd b37 (by rw [if_pos (show nI (G (cc_n 0) 0) = 0 by show nI (G 2 0) = 0; rw [h2]; rfl)]; decide), fun b37 => ?_⟩
  conv => whnf
  refine ⟨hold, rfl, cr_le rfl, cr_le rfl, by decide, cr_le rfl, fun H9 hs9 hq9 => ?_⟩
  exact ⟨rfl, hs9, fun q a _ => hq9 q a⟩
set_option maxRecDepth 20000 in
theorem j_C_door_a (hl : l.flags = flags0) (Z : cr_Z0 s0 D ca e0) (h : cc_H s0 D ca e0 O H A G w) (h2 : G 2 0 ≤ 20) {a b : Int32} (ha : mm_in a (nI (G 2 0)) = false) : cr_c l s0 y_C_door cw_C_door 7 1 6 [.ref (A 14 0), .int a, .int b] H (ck_T 1 H) := by
  refine cr_enter (by decide +kernel) (Nat.le_of_ble_eq_true rfl) (fun hlo P9 E9 S9 M9 A9 B9 T9 C9 C hem hH => ?_)
  have hold := h.old
  refine cr_vc [] 120 (s_C_door hl Z C hem) (fun K hK => ?_)
  conv => whnf
  refine ⟨rfl, ?_⟩
  conv => whnf
  refine ⟨_, (h.c 14 0 rfl), _, _, _, _, j_C_roomNumbered_a hl Z h.old (h.c 14 0 rfl) (h.li 0 (by decide)) (show G 2 0 < 2 ^ 31 by omega) ha, by decide, cr_le rfl, cr_le rfl, cr_le rfl, fun v9 H9 q9 _ => (by cases q9.1), fun kd H9 q9 _ => ?_⟩
  obtain ⟨qa, qf⟩ := q9
  cases qa
  exact ⟨rfl, qf⟩
set_option maxRecDepth 20000 in
theorem j_C_door_b (hl : l.flags = flags0) (Z : cr_Z0 s0 D ca e0) (h : cc_H s0 D ca e0 O H A G w) (h2 : G 2 0 ≤ 20) {a : Nat} {b : Int32} (ha : a < G 2 0) (hb : mm_in b (nI (G 2 0)) = false) : cr_c l s0 y_C_door cw_C_door 7 1 6 [.ref (A 14 0), .int (nI a), .int b] H (ck_T 1 H) := by
  refine cr_enter (by decide +kernel) (Nat.le_of_ble_eq_true rfl) (fun hlo P9 E9 S9 M9 A9 B9 T9 C9 C hem hH => ?_)
  have hold := h.old
  refine cr_vc [] 120 (s_C_door hl Z C hem) (fun K hK => ?_)
  conv => whnf
  refine ⟨rfl, ?_⟩
  conv => whnf
  refine ⟨_, (h.c 14 0 rfl), _, _, _, _, j_C_roomNumbered hl Z (h.c 14 0 rfl) (h.li 0 (by decide)) (show G 2 0 < 2 ^ 31 by omega) ha (h.c 0 a ha), by decide, cr_le rfl, cr_le rfl, cr_le rfl, fun v2 H2 q2 _ => ?_, fun kd H9 q9 _ => by cases q9.1⟩
  obtain ⟨q2a, q2b⟩ := q2
  cases q2a
  replace q2b := q2b.symm
  subst q2b
  conv => whnf
  refine ⟨cr_le rfl, ?_⟩
  conv => whnf
  refine ⟨rfl, ?_⟩
  conv => whnf
  refine ⟨_, (h.c 14 0 rfl), _, _, _, _, j_C_roomNumbered_a hl Z h.old (h.c 14 0 rfl) (h.li 0 (by decide)) (show G 2 0 < 2 ^ 31 by omega) hb, by decide, cr_le rfl, cr_le rfl, cr_le rfl, fun v9 H9 q9 _ => (by cases q9.1), fun kd H9 q9 _ => ?_⟩
  obtain ⟨qa, qf⟩ := q9
  cases qa
  exact ⟨rfl, qf⟩
set_option maxRecDepth 20000 in
theorem j_C_door_c (hl : l.flags = flags0) (Z : cr_Z0 s0 D ca e0) (h : cc_H s0 D ca e0 O H A G w) (h2 : G 2 0 ≤ 20) {a : Nat} (ha : a < G 2 0) : cr_c l s0 y_C_door cw_C_door 6 1 6 [.ref (A 14 0), .int (nI a), .int (nI a)] H (ck_T 1 H) := by
  refine cr_enter (by decide +kernel) (Nat.le_of_ble_eq_true rfl) (fun hlo P9 E9 S9 M9 A9 B9 T9 C9 C hem hH => ?_)
  have hold := h.old
  refine cr_vc [] 120 (s_C_door hl Z C hem) (fun K hK => ?_)
  conv => whnf
  refine ⟨rfl, ?_⟩
  conv => whnf
  refine ⟨_, (h.c 14 0 rfl), _, _, _, _, j_C_roomNumbered hl Z (h.c 14 0 rfl) (h.li 0 (by decide)) (show G 2 0 < 2 ^ 31 by omega) ha (h.c 0 a ha), by decide, cr_le rfl, cr_le rfl, cr_le rfl, fun v2 H2 q2 _ => ?_, fun kd H9 q9 _ => by cases q9.1⟩
  obtain ⟨q2a, q2b⟩ := q2
  cases q2a
  replace q2b := q2b.symm
  subst q2b
  conv => whnf
  refine ⟨cr_le rfl, ?_⟩
  conv => whnf
  refine ⟨rfl, ?_⟩
  conv => whnf
  refine ⟨_, (h.c 14 0 rfl), _, _, _, _, j_C_roomNumbered hl Z (h.c 14 0 rfl) (h.li 0 (by decide)) (show G 2 0 < 2 ^ 31 by omega) ha (h.c 0 a ha), by decide, cr_le rfl, cr_le rfl, cr_le rfl, fun v8 H8 q8 _ => ?_, fun kd H9 q9 _ => by cases q9.1⟩
  obtain ⟨q8a, q8b⟩ := q8
  cases q8a
  replace q8b := q8b.symm
  subst q8b
  conv => whnf
  refine ⟨cr_le rfl, ?_⟩
  conv => whnf
  refine ⟨fun b15 => absurd rfl b15, fun b15 => ?_⟩
  conv => whnf
  refine ⟨hold, rfl, cr_le rfl, cr_le rfl, by decide, cr_le rfl, fun H9 hs9 hq9 => ?_⟩
  exact ⟨rfl, hs9, fun q a _ => hq9 q a⟩
set_option maxRecDepth 20000 in
theorem j_C_door_s (hl : l.flags = flags0) (Z : cr_Z0 s0 D ca e0) (h : cc_H s0 D ca e0 O H A G w) (h2 : G 2 0 ≤ 20) {a b : Nat} (ha : a < G 2 0) (hb : b < G 2 0) (hab : a ≠ b) (hs : 30 ≤ G 4 0) (hs2 : G 4 0 ≤ 30) : cr_c l s0 y_C_door cw_C_door 6 1 6 [.ref (A 14 0), .int (nI a), .int (nI b)] H (ck_T 2 H) := by
  refine cr_enter (by decide +kernel) (Nat.le_of_ble_eq_true rfl) (fun hlo P9 E9 S9 M9 A9 B9 T9 C9 C hem hH => ?_)
  have hold := h.old
  obtain ⟨md1, hal1, -⟩ := (h.li 1 (by decide)).2
  refine cr_vc [] 120 (s_C_door hl Z C hem) (fun K hK => ?_)
  conv => whnf
  refine ⟨rfl, ?_⟩
  conv => whnf
  refine ⟨_, (h.c 14 0 rfl), _, _, _, _, j_C_roomNumbered hl Z (h.c 14 0 rfl) (h.li 0 (by decide)) (show G 2 0 < 2 ^ 31 by omega) ha (h.c 0 a ha), by decide, cr_le rfl, cr_le rfl, cr_le rfl, fun v2 H2 q2 _ => ?_, fun kd H9 q9 _ => by cases q9.1⟩
  obtain ⟨q2a, q2b⟩ := q2
  cases q2a
  replace q2b := q2b.symm
  subst q2b
  conv => whnf
  refine ⟨cr_le rfl, ?_⟩
  conv => whnf
  refine ⟨rfl, ?_⟩
  conv => whnf
  refine ⟨_, (h.c 14 0 rfl), _, _, _, _, j_C_roomNumbered hl Z (h.c 14 0 rfl) (h.li 0 (by decide)) (show G 2 0 < 2 ^ 31 by omega) hb (h.c 0 b hb), by decide, cr_le rfl, cr_le rfl, cr_le rfl, fun v8 H8 q8 _ => ?_, fun kd H9 q9 _ => by cases q9.1⟩
  obtain ⟨q8a, q8b⟩ := q8
  cases q8a
  replace q8b := q8b.symm
  subst q8b
  conv => whnf
  refine ⟨cr_le rfl, ?_⟩
  conv => whnf
  refine ⟨fun b15 => ?_, fun b15 => absurd ((nI_eq (by omega) (by omega)).mp b15) hab⟩
  conv => whnf
  refine ⟨_, (h.c 14 0 rfl), ?_⟩
  conv => whnf
  refine ⟨rfl, ?_⟩
  conv => whnf
  refine ⟨_, hal1, _, _, _, _, j_AL_sizeL hl Z (h.li 1 (by decide)), by decide, cr_le rfl, cr_le rfl, cr_le rfl, fun v32 H32 q32 _ => ?_, fun kd H9 q9 _ => by cases q9.1⟩
  obtain ⟨q32a, q32b⟩ := q32
  cases q32a
  replace q32b := q32b.symm
  subst q32b
  conv => whnf
  refine ⟨fun b39 => absurd b39 (show ¬ nI (G 4 0) < nI 30 from nI_nlt hs (by omega)), fun b39 => ?_⟩
  conv => whnf
  refine ⟨hold, rfl, cr_le rfl, cr_le rfl, by decide, cr_le rfl, fun H9 hs9 hq9 => ?_⟩
  exact ⟨rfl, hs9, fun q a _ => hq9 q a⟩
set_option maxRecDepth 20000 in
theorem j_C_card_a (hl : l.flags = flags0) (Z : cr_Z0 s0 D ca e0) (h : cc_H s0 D ca e0 O H A G w) (h16 : G 16 0 ≤ 40) {p m : Int32} (hp : mm_in p (nI (G 16 0)) = false) : cr_c l s0 y_C_card cw_C_card 7 1 6 [.ref (A 14 0), .int p, .int m] H (ck_T 1 H) := by
  refine cr_enter (by decide +kernel) (Nat.le_of_ble_eq_true rfl) (fun hlo P9 E9 S9 M9 A9 B9 T9 C9 C hem hH => ?_)
  have hold := h.old
  refine cr_vc [] 120 (s_C_card hl Z C hem) (fun K hK => ?_)
  conv => whnf
  refine ⟨rfl, ?_⟩
  conv => whnf
  refine ⟨_, (h.c 14 0 rfl), _, _, _, _, j_C_personNumbered_a hl Z h.old (h.c 14 0 rfl) (h.li 2 (by decide)) (show G 16 0 < 2 ^ 31 by omega) hp, by decide, cr_le rfl, cr_le rfl, cr_le rfl, fun v9 H9 q9 _ => (by cases q9.1), fun kd H9 q9 _ => ?_⟩
  obtain ⟨qa, qf⟩ := q9
  cases qa
  exact ⟨rfl, qf⟩
set_option maxRecDepth 20000 in
theorem j_C_card_b (hl : l.flags = flags0) (Z : cr_Z0 s0 D ca e0) (h : cc_H s0 D ca e0 O H A G w) (h16 : G 16 0 ≤ 40) {p : Nat} {m : Int32} (hp : p < G 16 0) (hm : mm_min m = false) : cr_c l s0 y_C_card cw_C_card 7 1 6 [.ref (A 14 0), .int (nI p), .int m] H (ck_T 1 H) := by
  refine cr_enter (by decide +kernel) (Nat.le_of_ble_eq_true rfl) (fun hlo P9 E9 S9 M9 A9 B9 T9 C9 C hem hH => ?_)
  have hold := h.old
  refine cr_vc [] 120 (s_C_card hl Z C hem) (fun K hK => ?_)
  conv => whnf
  refine ⟨rfl, ?_⟩
  conv => whnf
  refine ⟨_, (h.c 14 0 rfl), _, _, _, _, j_C_personNumbered hl Z (h.c 14 0 rfl) (h.li 2 (by decide)) (show G 16 0 < 2 ^ 31 by omega) hp (h.c 2 p hp), by decide, cr_le rfl, cr_le rfl, cr_le rfl, fun v2 H2 q2 _ => ?_, fun kd H9 q9 _ => by cases q9.1⟩
  obtain ⟨q2a, q2b⟩ := q2
  cases q2a
  replace q2b := q2b.symm
  subst q2b
  conv => whnf
  refine ⟨cr_le rfl, ?_⟩
  conv => whnf
  refine ⟨rfl, ?_⟩
  conv => whnf
  refine ⟨_, _, _, _, j_C_checkMinute_a hl Z h.old hm, by decide, cr_le rfl, cr_le rfl, cr_le rfl, fun v9 H9 q9 _ => (by cases q9.1), fun kd H9 q9 _ => ?_⟩
  obtain ⟨qa, qf⟩ := q9
  cases qa
  exact ⟨rfl, qf⟩
set_option maxRecDepth 20000 in
theorem j_C_card_s (hl : l.flags = flags0) (Z : cr_Z0 s0 D ca e0) (h : cc_H s0 D ca e0 O H A G w) (h16 : G 16 0 ≤ 40) {p : Nat} {m : Int32} (hp : p < G 16 0) (hm : mm_min m = true) (hs : 60 ≤ G 19 0) (hs2 : G 19 0 ≤ 60) : cr_c l s0 y_C_card cw_C_card 6 1 6 [.ref (A 14 0), .int (nI p), .int m] H (ck_T 2 H) := by
  refine cr_enter (by decide +kernel) (Nat.le_of_ble_eq_true rfl) (fun hlo P9 E9 S9 M9 A9 B9 T9 C9 C hem hH => ?_)
  have hold := h.old
  obtain ⟨md3, hal3, -⟩ := (h.li 3 (by decide)).2
  refine cr_vc [] 120 (s_C_card hl Z C hem) (fun K hK => ?_)
  conv => whnf
  refine ⟨rfl, ?_⟩
  conv => whnf
  refine ⟨_, (h.c 14 0 rfl), _, _, _, _, j_C_personNumbered hl Z (h.c 14 0 rfl) (h.li 2 (by decide)) (show G 16 0 < 2 ^ 31 by omega) hp (h.c 2 p hp), by decide, cr_le rfl, cr_le rfl, cr_le rfl, fun v2 H2 q2 _ => ?_, fun kd H9 q9 _ => by cases q9.1⟩
  obtain ⟨q2a, q2b⟩ := q2
  cases q2a
  replace q2b := q2b.symm
  subst q2b
  conv => whnf
  refine ⟨cr_le rfl, ?_⟩
  conv => whnf
  refine ⟨rfl, ?_⟩
  conv => whnf
  refine ⟨_, _, _, _, j_C_checkMinute hl Z hm, by decide, cr_le rfl, cr_le rfl, cr_le rfl, fun v7 H7 q7 _ => ?_, fun kd H9 q9 _ => by cases q9.1⟩
  obtain ⟨q7a, q7b⟩ := q7
  cases q7a
  replace q7b := q7b.symm
  subst q7b
  conv => whnf
  refine ⟨_, (h.c 14 0 rfl), ?_⟩
  conv => whnf
  refine ⟨rfl, ?_⟩
  conv => whnf
  refine ⟨_, hal3, _, _, _, _, j_AL_sizeL hl Z (h.li 3 (by decide)), by decide, cr_le rfl, cr_le rfl, cr_le rfl, fun v14 H14 q14 _ => ?_, fun kd H9 q9 _ => by cases q9.1⟩
  obtain ⟨q14a, q14b⟩ := q14
  cases q14a
  replace q14b := q14b.symm
  subst q14b
  conv => whnf
  refine ⟨fun b21 => absurd b21 (show ¬ nI (G 19 0) < nI 60 from nI_nlt hs (by omega)), fun b21 => ?_⟩
  conv => whnf
  refine ⟨hold, rfl, cr_le rfl, cr_le rfl, by decide, cr_le rfl, fun H9 hs9 hq9 => ?_⟩
  exact ⟨rfl, hs9, fun q a _ => hq9 q a⟩
set_option maxRecDepth 20000 in
theorem j_C_end_a (hl : l.flags = flags0) (Z : cr_Z0 s0 D ca e0) (h : cc_H s0 D ca e0 O H A G w) (h22 : G 22 0 ≤ 16) {r m : Int32} (hr : mm_in r (nI (G 22 0)) = false) : cr_c l s0 y_C_end cw_C_end 6 1 6 [.ref (A 14 0), .int r, .int m] H (ck_T 1 H) := by
  refine cr_enter (by decide +kernel) (Nat.le_of_ble_eq_true rfl) (fun hlo P9 E9 S9 M9 A9 B9 T9 C9 C hem hH => ?_)
  have hold := h.old
  obtain ⟨md4, hal4, -⟩ := (h.li 4 (by decide)).2
  refine cr_vc [] 120 (s_C_end hl Z C hem) (fun K hK => ?_)
  conv => whnf
  refine ⟨fun b1 => ?_, fun b1 => ?_⟩
  · conv => whnf
    refine ⟨hold, rfl, cr_le rfl, cr_le rfl, by decide, cr_le rfl, fun H9 hs9 hq9 => ?_⟩
    exact ⟨rfl, hs9, fun q a _ => hq9 q a⟩
  · conv => whnf
    refine ⟨_, (h.c 14 0 rfl), ?_⟩
    conv => whnf
    refine ⟨rfl, ?_⟩
    conv => whnf
    refine ⟨_, hal4, _, _, _, _, j_AL_sizeL hl Z (h.li 4 (by decide)), by decide, cr_le rfl, cr_le rfl, cr_le rfl, fun v9 H9 q9 _ => ?_, fun kd H9 q9 _ => by cases q9.1⟩
    obtain ⟨q9a, q9b⟩ := q9
    cases q9a
    replace q9b := q9b.symm
    subst q9b
    conv => whnf
    refine ⟨fun b14 => False.elim ((mm_in_f hr).elim b1 (fun q => q b14)), fun b14 => ?_⟩
    conv => whnf
    refine ⟨hold, rfl, cr_le rfl, cr_le rfl, by decide, cr_le rfl, fun H9 hs9 hq9 => ?_⟩
    exact ⟨rfl, hs9, fun q a _ => hq9 q a⟩
set_option maxRecDepth 20000 in
theorem j_C_end_b (hl : l.flags = flags0) (Z : cr_Z0 s0 D ca e0) (h : cc_H s0 D ca e0 O H A G w) (h22 : G 22 0 ≤ 16) {r : Nat} {m : Int32} (hr : r < G 22 0) (hm : mm_min m = false) : cr_c l s0 y_C_end cw_C_end 7 1 6 [.ref (A 14 0), .int (nI r), .int m] H (ck_T 1 H) := by
  refine cr_enter (by decide +kernel) (Nat.le_of_ble_eq_true rfl) (fun hlo P9 E9 S9 M9 A9 B9 T9 C9 C hem hH => ?_)
  have hold := h.old
  obtain ⟨md4, hal4, -⟩ := (h.li 4 (by decide)).2
  refine cr_vc [] 120 (s_C_end hl Z C hem) (fun K hK => ?_)
  conv => whnf
  refine ⟨fun b1 => absurd b1 (nI_pos (by omega)), fun b1 => ?_⟩
  conv => whnf
  refine ⟨_, (h.c 14 0 rfl), ?_⟩
  conv => whnf
  refine ⟨rfl, ?_⟩
  conv => whnf
  refine ⟨_, hal4, _, _, _, _, j_AL_sizeL hl Z (h.li 4 (by decide)), by decide, cr_le rfl, cr_le rfl, cr_le rfl, fun v9 H9 q9 _ => ?_, fun kd H9 q9 _ => by cases q9.1⟩
  obtain ⟨q9a, q9b⟩ := q9
  cases q9a
  replace q9b := q9b.symm
  subst q9b
  conv => whnf
  refine ⟨fun b14 => ?_, fun b14 => absurd (nI_lt hr (by omega)) b14⟩
  conv => whnf
  refine ⟨rfl, ?_⟩
  conv => whnf
  refine ⟨_, _, _, _, j_C_checkMinute_a hl Z h.old hm, by decide, cr_le rfl, cr_le rfl, cr_le rfl, fun v9 H9 q9 _ => (by cases q9.1), fun kd H9 q9 _ => ?_⟩
  obtain ⟨qa, qf⟩ := q9
  cases qa
  exact ⟨rfl, qf⟩
end CTI
