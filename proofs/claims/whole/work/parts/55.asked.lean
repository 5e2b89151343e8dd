/-! THE CLASS: inside, muster, found (printed by gen/comp6.py) -/
section CIM
variable {l : Launch} {s0 : State} {D : va_G} {ca : Nat → ClassId} {e0 : Nat} {O : Nat → Prop} {H : Heap} {A : Nat → Nat → Nat} {G : mm_G} {w : cc_W}
set_option maxRecDepth 20000 in
theorem j_C_inside_ok (hl : l.flags = flags0) (Z : cr_Z0 s0 D ca e0) (h : cc_H s0 D ca e0 O H A G w) {z : Nat} (hz : z < 10) (h16 : G 16 0 ≤ 40) (hz9 : ∀ p, p < G 16 0 → G 18 p < G 2 0) : cr_c l s0 y_C_inside cw_C_inside 3 0 0 [.ref (A 14 0), .int (nI z)] H (cr_pu (some (.int (nI (mm_ct (mm_pz G z) 0 (G 16 0))))) H) := by
  refine cr_enter (by decide +kernel) (Nat.le_of_ble_eq_true rfl) (fun hlo P9 E9 S9 M9 A9 B9 T9 C9 C hem hH => ?_)
  obtain ⟨md, hal, -⟩ := (h.li 2 (by decide)).2
  have loop : ∀ (j i n : Nat), i + j = G 16 0 → n + mm_ct (mm_pz G z) i j = (mm_ct (mm_pz G z) 0 (G 16 0)) → cr_G P9 l E9 (cr_rm 3 0 0) S9 M9 A9 B9 T9 C9 s0.heap.size 0 0 (cr_pu (some (.int (nI (mm_ct (mm_pz G z) 0 (G 16 0))))) H) 8 [some (.ref (A 14 0)), some (.int (nI z)), some (.int (nI n)), some (.int (nI i))] [] H 0 0 := by
    intro j
    induction j with
    | zero =>
      intro i n hj hx9
      refine cr_vc [8] 90 (s_C_inside hl Z C hem) (fun K hK => ?_)
      conv => whnf
      refine ⟨_, (h.c 14 0 rfl), ?_⟩
      conv => whnf
      refine ⟨rfl, ?_⟩
      conv => whnf
      refine ⟨_, hal, _, _, _, _, j_AL_sizeL hl Z (h.li 2 (by decide)), by decide, cr_le rfl, cr_le rfl, cr_le rfl, fun v13 H13 q13 _ => ?_, fun kd H9 q9 _ => by cases q9.1⟩
      obtain ⟨q13a, q13b⟩ := q13
      cases q13a
      replace q13b := q13b.symm
      subst q13b
      conv => whnf
      refine ⟨fun b18 => ?_, fun b18 => absurd (show nI (G 16 0) ≤ nI i from nI_le (by omega) (by omega)) b18⟩
      conv => whnf
      exact ⟨cr_le rfl, cr_le rfl, (by rw [← hx9]; rfl), rfl⟩
    | succ j ih =>
      intro i n hj hx9
      refine cr_vc [8] 90 (s_C_inside hl Z C hem) (fun K hK => ?_)
      conv => whnf
      refine ⟨_, (h.c 14 0 rfl), ?_⟩
      conv => whnf
      refine ⟨rfl, ?_⟩
      conv => whnf
      refine ⟨_, hal, _, _, _, _, j_AL_sizeL hl Z (h.li 2 (by decide)), by decide, cr_le rfl, cr_le rfl, cr_le rfl, fun v13 H13 q13 _ => ?_, fun kd H9 q9 _ => by cases q9.1⟩
      obtain ⟨q13a, q13b⟩ := q13
      cases q13a
      replace q13b := q13b.symm
      subst q13b
      conv => whnf
      refine ⟨fun b18 => absurd b18 (cr_nle (a := G 16 0) (by omega) (by omega)), fun b18 => ?_⟩
      conv => whnf
      refine ⟨_, (h.c 14 0 rfl), ?_⟩
      conv => whnf
      refine ⟨rfl, ?_⟩
      conv => whnf
      refine ⟨_, hal, _, _, _, _, j_AL_get hl Z (h.li 2 (by decide)) (show i < G 16 0 by omega), by decide, cr_le rfl, cr_le rfl, cr_le rfl, fun v26 H26 q26 _ => ?_, fun kd H9 q9 _ => by cases q9.1⟩
      obtain ⟨q26a, q26b⟩ := q26
      cases q26a
      replace q26b := q26b.symm
      subst q26b
      conv => whnf
      refine ⟨_, (h.c 2 i (show i < G 16 0 by omega)), ?_⟩
      conv => whnf
      refine ⟨_, (h.c 2 i (show i < G 16 0 by omega)), ?_⟩
      conv => whnf
      refine ⟨_, (h.c 0 (G 18 i) (hz9 i (by omega))), ?_⟩
      conv => whnf
      refine ⟨fun b41 => ?_, fun b41 => ?_⟩
      · conv => whnf
        refine ⟨cr_le rfl, ?_⟩
        conv => whnf
        exact hK _ _ _ _ _ _ (cr_G_fg (ih (i + 1) n (by omega) (by rw [← hx9]; show _ = n + (cond (mm_pz G z i) 1 0 + _); rw [show mm_pz G z i = false by simp [mm_pz, b41]]; simp)) ⟨rfl, rfl, rfl, (show Value.int (nI (i + 1)) = Value.int (nI i + 1) by rw [nI_1]), trivial⟩)
      · conv => whnf
        refine ⟨cr_le rfl, ?_⟩
        conv => whnf
        refine ⟨cr_le rfl, ?_⟩
        conv => whnf
        exact hK _ _ _ _ _ _ (cr_G_fg (ih (i + 1) (n + 1) (by omega) (by rw [← hx9]; show _ = n + (cond (mm_pz G z i) 1 0 + _); rw [show mm_pz G z i = true by simp [mm_pz, b41]]; simp; omega)) ⟨rfl, rfl, (show Value.int (nI (n + 1)) = Value.int (nI n + 1) by rw [nI_1]), (show Value.int (nI (i + 1)) = Value.int (nI i + 1) by rw [nI_1]), trivial⟩)
  refine cr_vc [8] 120 (s_C_inside hl Z C hem) (fun K hK => ?_)
  conv => whnf
  refine ⟨rfl, ?_⟩
  conv => whnf
  refine ⟨_, _, _, _, j_C_checkZone hl Z (mm_in_of (n := 10) hz (by decide)), by decide, cr_le rfl, cr_le rfl, cr_le rfl, fun v1 H1 q1 _ => ?_, fun kd H9 q9 _ => by cases q9.1⟩
  obtain ⟨q1a, q1b⟩ := q1
  cases q1a
  replace q1b := q1b.symm
  subst q1b
  conv => whnf
  refine ⟨cr_le rfl, ?_⟩
  conv => whnf
  refine ⟨cr_le rfl, ?_⟩
  conv => whnf
  exact hK _ _ _ _ _ _ (loop (G 16 0) 0 0 (by omega) (by omega))
set_option maxRecDepth 20000 in
theorem j_C_inside_a (hl : l.flags = flags0) (Z : cr_Z0 s0 D ca e0) (h : cc_H s0 D ca e0 O H A G w) {z : Int32} (hz : mm_in z 10 = false) : cr_c l s0 y_C_inside cw_C_inside 7 1 6 [.ref (A 14 0), .int z] H (ck_T 1 H) := by
  refine cr_enter (by decide +kernel) (Nat.le_of_ble_eq_true rfl) (fun hlo P9 E9 S9 M9 A9 B9 T9 C9 C hem hH => ?_)
  refine cr_vc [] 120 (s_C_inside hl Z C hem) (fun K hK => ?_)
  conv => whnf
  refine ⟨rfl, ?_⟩
  conv => whnf
  refine ⟨_, _, _, _, j_C_checkZone_a hl Z h.old hz, by decide, cr_le rfl, cr_le rfl, cr_le rfl, fun v9 H9 q9 _ => (by cases q9.1), fun kd H9 q9 _ => ?_⟩
  obtain ⟨qa, qf⟩ := q9
  cases qa
  exact ⟨rfl, qf⟩
set_option maxRecDepth 20000 in
theorem j_C_muster_ok (hl : l.flags = flags0) (Z : cr_Z0 s0 D ca e0) (h : cc_H s0 D ca e0 O H A G w) {z : Nat} (hz : z < 10) (h16 : G 16 0 ≤ 40) (hz9 : ∀ p, p < G 16 0 → G 18 p < G 2 0) {kk : Int32} (hk : 0 ≤ kk) : cr_c l s0 y_C_muster cw_C_muster 3 0 0 [.ref (A 14 0), .int (nI z), .int kk] H (cr_pu (some (.int (mm_ms (mm_pz G z) kk 0 (G 16 0) 0))) H) := by
  refine cr_enter (by decide +kernel) (Nat.le_of_ble_eq_true rfl) (fun hlo P9 E9 S9 M9 A9 B9 T9 C9 C hem hH => ?_)
  obtain ⟨md, hal, -⟩ := (h.li 2 (by decide)).2
  have loop : ∀ (j i n : Nat), i + j = G 16 0 → mm_ms (mm_pz G z) kk i j n = (mm_ms (mm_pz G z) kk 0 (G 16 0) 0) → cr_G P9 l E9 (cr_rm 3 0 0) S9 M9 A9 B9 T9 C9 s0.heap.size 0 0 (cr_pu (some (.int (mm_ms (mm_pz G z) kk 0 (G 16 0) 0))) H) 23 [some (.ref (A 14 0)), some (.int (nI z)), some (.int kk), some (.int (nI n)), some (.int (nI i))] [] H 0 0 := by
    intro j
    induction j with
    | zero =>
      intro i n hj hx9
      refine cr_vc [23] 90 (s_C_muster hl Z C hem) (fun K hK => ?_)
      conv => whnf
      refine ⟨_, (h.c 14 0 rfl), ?_⟩
      conv => whnf
      refine ⟨rfl, ?_⟩
      conv => whnf
      refine ⟨_, hal, _, _, _, _, j_AL_sizeL hl Z (h.li 2 (by decide)), by decide, cr_le rfl, cr_le rfl, cr_le rfl, fun v29 H29 q29 _ => ?_, fun kd H9 q9 _ => by cases q9.1⟩
      obtain ⟨q29a, q29b⟩ := q29
      cases q29a
      replace q29b := q29b.symm
      subst q29b
      conv => whnf
      refine ⟨fun b34 => ?_, fun b34 => absurd (show nI (G 16 0) ≤ nI i from nI_le (by omega) (by omega)) b34⟩
      conv => whnf
      exact ⟨cr_le rfl, cr_le rfl, (by rw [← hx9]; rfl), rfl⟩
    | succ j ih =>
      intro i n hj hx9
      refine cr_vc [23] 90 (s_C_muster hl Z C hem) (fun K hK => ?_)
      conv => whnf
      refine ⟨_, (h.c 14 0 rfl), ?_⟩
      conv => whnf
      refine ⟨rfl, ?_⟩
      conv => whnf
      refine ⟨_, hal, _, _, _, _, j_AL_sizeL hl Z (h.li 2 (by decide)), by decide, cr_le rfl, cr_le rfl, cr_le rfl, fun v29 H29 q29 _ => ?_, fun kd H9 q9 _ => by cases q9.1⟩
      obtain ⟨q29a, q29b⟩ := q29
      cases q29a
      replace q29b := q29b.symm
      subst q29b
      conv => whnf
      refine ⟨fun b34 => absurd b34 (cr_nle (a := G 16 0) (by omega) (by omega)), fun b34 => ?_⟩
      conv => whnf
      refine ⟨_, (h.c 14 0 rfl), ?_⟩
      conv => whnf
      refine ⟨rfl, ?_⟩
      conv => whnf
      refine ⟨_, hal, _, _, _, _, j_AL_get hl Z (h.li 2 (by decide)) (show i < G 16 0 by omega), by decide, cr_le rfl, cr_le rfl, cr_le rfl, fun v43 H43 q43 _ => ?_, fun kd H9 q9 _ => by cases q9.1⟩
      obtain ⟨q43a, q43b⟩ := q43
      cases q43a
      replace q43b := q43b.symm
      subst q43b
      conv => whnf
      refine ⟨_, (h.c 2 i (show i < G 16 0 by omega)), ?_⟩
      conv => whnf
      refine ⟨_, (h.c 2 i (show i < G 16 0 by omega)), ?_⟩
      conv => whnf
      refine ⟨_, (h.c 0 (G 18 i) (hz9 i (by omega))), ?_⟩
      conv => whnf
      refine ⟨fun b58 => ?_, fun b58 => ?_⟩
      · conv => whnf
        refine ⟨cr_le rfl, ?_⟩
        conv => whnf
        exact hK _ _ _ _ _ _ (cr_G_fg (ih (i + 1) n (by omega) (by rw [← hx9]; show _ = cond (mm_pz G z i) _ _; rw [show mm_pz G z i = false by simp [mm_pz, b58]]; rfl)) ⟨rfl, rfl, rfl, rfl, (show Value.int (nI (i + 1)) = Value.int (nI i + 1) by rw [nI_1]), trivial⟩)
      · conv => whnf
        refine ⟨fun b63 => ?_, fun b63 => ?_⟩
        · conv => whnf
          refine ⟨cr_le rfl, ?_⟩
          conv => whnf
          refine ⟨cr_le rfl, ?_⟩
          conv => whnf
          exact hK _ _ _ _ _ _ (cr_G_fg (ih (i + 1) (n + 1) (by omega) (by rw [← hx9]; show _ = cond (mm_pz G z i) _ _; rw [show mm_pz G z i = true by simp [mm_pz, b58]]; show _ = ite _ _ _; rw [if_neg b63])) ⟨rfl, rfl, rfl, (show Value.int (nI (n + 1)) = Value.int (nI n + 1) by rw [nI_1]), (show Value.int (nI (i + 1)) = Value.int (nI i + 1) by rw [nI_1]), trivial⟩)
        · conv => whnf
          exact ⟨cr_le rfl, cr_le rfl, congrArg (fun x => Sum.inl (some (Value.int x))) (by rw [← hx9]; show _ = cond (mm_pz G z i) _ _; rw [show mm_pz G z i = true by simp [mm_pz, b58]]; show _ = ite _ _ _; rw [if_pos b63]), rfl⟩
  refine cr_vc [23] 120 (s_C_muster hl Z C hem) (fun K hK => ?_)
  conv => whnf
  refine ⟨rfl, ?_⟩
  conv => whnf
  refine ⟨_, _, _, _, j_C_checkZone hl Z (mm_in_of (n := 10) hz (by decide)), by decide, cr_le rfl, cr_le rfl, cr_le rfl, fun v1 H1 q1 _ => ?_, fun kd H9 q9 _ => by cases q9.1⟩
  obtain ⟨q1a, q1b⟩ := q1
  cases q1a
  replace q1b := q1b.symm
  subst q1b
  conv => whnf
  refine ⟨fun b5 => ?_, fun b5 => absurd hk b5⟩
  conv => whnf
  refine ⟨cr_le rfl, ?_⟩
  conv => whnf
  refine ⟨cr_le rfl, ?_⟩
  conv => whnf
  exact hK _ _ _ _ _ _ (loop (G 16 0) 0 0 (by omega) rfl)
set_option maxRecDepth 20000 in
theorem j_C_muster_a (hl : l.flags = flags0) (Z : cr_Z0 s0 D ca e0) (h : cc_H s0 D ca e0 O H A G w) {z kk : Int32} (hz : mm_in z 10 = false) : cr_c l s0 y_C_muster cw_C_muster 7 1 6 [.ref (A 14 0), .int z, .int kk] H (ck_T 1 H) := by
  refine cr_enter (by decide +kernel) (Nat.le_of_ble_eq_true rfl) (fun hlo P9 E9 S9 M9 A9 B9 T9 C9 C hem hH => ?_)
  refine cr_vc [] 120 (s_C_muster hl Z C hem) (fun K hK => ?_)
  conv => whnf
  refine ⟨rfl, ?_⟩
  conv => whnf
  refine ⟨_, _, _, _, j_C_checkZone_a hl Z h.old hz, by decide, cr_le rfl, cr_le rfl, cr_le rfl, fun v9 H9 q9 _ => (by cases q9.1), fun kd H9 q9 _ => ?_⟩
  obtain ⟨qa, qf⟩ := q9
  cases qa
  exact ⟨rfl, qf⟩
set_option maxRecDepth 20000 in
theorem j_C_muster_b (hl : l.flags = flags0) (Z : cr_Z0 s0 D ca e0) (h : cc_H s0 D ca e0 O H A G w) {z kk : Int32} (hz : mm_in z 10 = true) (hk : ¬ 0 ≤ kk) : cr_c l s0 y_C_muster cw_C_muster 6 1 6 [.ref (A 14 0), .int z, .int kk] H (ck_T 1 H) := by
  refine cr_enter (by decide +kernel) (Nat.le_of_ble_eq_true rfl) (fun hlo P9 E9 S9 M9 A9 B9 T9 C9 C hem hH => ?_)
  have hold := h.old
  refine cr_vc [] 120 (s_C_muster hl Z C hem) (fun K hK => ?_)
  conv => whnf
  refine ⟨rfl, ?_⟩
  conv => whnf
  refine ⟨_, _, _, _, j_C_checkZone hl Z hz, by decide, cr_le rfl, cr_le rfl, cr_le rfl, fun v1 H1 q1 _ => ?_, fun kd H9 q9 _ => by cases q9.1⟩
  obtain ⟨q1a, q1b⟩ := q1
  cases q1a
  replace q1b := q1b.symm
  subst q1b
  conv => whnf
  refine ⟨fun b5 => absurd b5 hk, fun b5 => ?_⟩
  conv => whnf
  refine ⟨hold, rfl, cr_le rfl, cr_le rfl, by decide, cr_le rfl, fun H9 hs9 hq9 => ?_⟩
  exact ⟨rfl, hs9, fun q a _ => hq9 q a⟩
theorem fi_ix (a b : Nat) : nI a * 4 + nI b = nI (4 * a + b) := by
  have e : nI a * 4 = nI (a * 4) := pk_mul a 4
  rw [e, nI_add, Nat.mul_comm]
set_option maxRecDepth 20000 in
theorem j_C_found_ok (hl : l.flags = flags0) (Z : cr_Z0 s0 D ca e0) (h : cc_H s0 D ca e0 O H A G w) {k q9 : Nat} (hk : k < G 34 0) (hk2 : k < 100) (h34 : G 34 0 < 2 ^ 31) (hq : q9 < 4) : cr_c l s0 y_C_found cw_C_found 2 0 0 [.ref (A 14 0), .int (nI k), .int (nI q9)] H (cr_pu (some (.int (w.2.2.2.1 (4 * k + q9)))) H) := by
  refine cr_enter (by decide +kernel) (Nat.le_of_ble_eq_true rfl) (fun hlo P9 E9 S9 M9 A9 B9 T9 C9 C hem hH => ?_)
  refine cr_vc [] 120 (s_C_found hl Z C hem) (fun K hK => ?_)
  conv => whnf
  refine ⟨fun b1 => absurd b1 (nI_pos (by omega)), fun b1 => ?_⟩
  conv => whnf
  refine ⟨_, (h.c 14 0 rfl), ?_⟩
  conv => whnf
  refine ⟨_, (h.c 12 0 (show 0 < 6 by decide)), ?_⟩
  conv => whnf
  refine ⟨fun b12 => ?_, fun b12 => absurd (nI_lt (show k < min (G 34 0) 100 by omega) (by omega)) b12⟩
  conv => whnf
  refine ⟨fun b26 => absurd b26 (nI_pos (by omega)), fun b26 => ?_⟩
  conv => whnf
  refine ⟨fun b31 => ?_, fun b31 => absurd (show nI q9 < nI 4 from nI_lt hq (by decide)) b31⟩
  conv => whnf
  refine ⟨_, (h.c 14 0 rfl), ?_⟩
  conv => whnf
  refine ⟨_, (h.c 12 0 (show 0 < 6 by decide)), ?_⟩
  conv => whnf
  refine ⟨_, _, _, (h.c 12 1 (show 1 < 6 by decide)), fi_ix k q9, show 4 * k + q9 < 400 by omega, cr_le rfl, ?_⟩
  conv => whnf
  exact ⟨cr_le rfl, cr_le rfl, rfl, rfl⟩
end CIM
