/-! THE REFERENCE's methods: inside, muster, off (printed by gen/ops6.py) -/
section MOP6
variable {l : Launch} {s0 : State} {D : va_G} {ca : Nat → ClassId} {e0 : Nat} {H : Heap} {y : Nat} {ad : Nat → Nat} {G : mm_G}
def mm_ct (P : Nat → Bool) : Nat → Nat → Nat
  | _, 0 => 0
  | i, j + 1 => cond (P i) 1 0 + mm_ct P (i + 1) j
/-- a person is in a zone's room -/
def mm_pz (G : mm_G) (z : Nat) (p : Nat) : Bool := decide (nI (G 3 (G 18 p)) = nI z)
def mm_ms (P : Nat → Bool) (kk : Int32) : Nat → Nat → Nat → Int32
  | _, 0, _ => -1
  | i, j + 1, n => cond (P i) (if nI n = kk then nI i else mm_ms P kk (i + 1) j (n + 1)) (mm_ms P kk (i + 1) j n)
set_option maxRecDepth 20000 in
theorem j_M_thrown (hl : l.flags = flags0) (Z : cr_Z0 s0 D ca e0) (h : mm_R s0 D ca H y ad G)  : cr_c l s0 y_M_thrown cw_M_thrown 0 0 0 [.ref y] H (cr_pu (some (.int (nI (G 0 0)))) H) := by
  refine cr_enter (by decide +kernel) (Nat.le_of_ble_eq_true rfl) (fun hlo P9 E9 S9 M9 A9 B9 T9 C9 C hem hH => ?_)
  refine cr_vc [] 90 (s_M_thrown hl Z C hem) (fun K hK => ?_)
  conv => whnf
  refine ⟨_, h.o, ?_⟩
  conv => whnf
  exact ⟨cr_le rfl, cr_le rfl, rfl, rfl⟩
set_option maxRecDepth 20000 in
theorem j_M_inside_ok (hl : l.flags = flags0) (Z : cr_Z0 s0 D ca e0) (h : mm_R s0 D ca H y ad G) {z : Nat} (hz : z < 10) (h16 : G 16 0 ≤ 40) (hz9 : ∀ p, p < G 16 0 → G 18 p < 20) : cr_c l s0 y_M_inside cw_M_inside 1 0 0 [.ref y, .int (nI z)] H (mm_Q s0 D ca H y ad (some (.int (nI (mm_ct (mm_pz G z) 0 (G 16 0))))) (mm_up G 0 0 0)) := by
  refine cr_enter (by decide +kernel) (Nat.le_of_ble_eq_true rfl) (fun hlo P9 E9 S9 M9 A9 B9 T9 C9 C hem hH => ?_)
  have loop : ∀ (H1 : Heap), mm_R s0 D ca H1 y ad (mm_up G 0 0 0) → mm_Fr y ad H H1 → ∀ (j p n : Nat), p + j = G 16 0 → n + mm_ct (mm_pz G z) p j = (mm_ct (mm_pz G z) 0 (G 16 0)) → cr_G P9 l E9 (cr_rm 1 0 0) S9 M9 A9 B9 T9 C9 s0.heap.size 0 0 (mm_Q s0 D ca H y ad (some (.int (nI (mm_ct (mm_pz G z) 0 (G 16 0))))) (mm_up G 0 0 0)) 20 [some (.ref y), some (.int (nI z)), some (.int (nI n)), some (.int (nI p))] [] H1 0 0 := by
    intro H1 h1 f1 j
    induction j with
    | zero =>
      intro p n hj hx
      refine cr_vc [20] 60 (s_M_inside hl Z C hem) (fun K hK => ?_)
      conv => whnf
      refine ⟨_, h1.o, ?_⟩
      conv => whnf
      refine ⟨fun _ => ?_, fun b => absurd (show nI (G 16 0) ≤ nI p from nI_le (by omega) (by omega)) b⟩
      conv => whnf
      exact ⟨cr_le rfl, cr_le rfl, (by rw [← hx]; rfl), h1, f1⟩
    | succ j ih =>
      intro p n hj hx
      refine cr_vc [20] 90 (s_M_inside hl Z C hem) (fun K hK => ?_)
      conv => whnf
      refine ⟨_, h1.o, ?_⟩
      conv => whnf
      refine ⟨fun b25 => absurd b25 (cr_nle (a := G 16 0) (by omega) (by omega)), fun b25 => ?_⟩
      conv => whnf
      refine ⟨_, h1.o, ?_⟩
      conv => whnf
      refine ⟨_, h1.o, ?_⟩
      conv => whnf
      refine ⟨_, _, _, h1.a 18 rfl, rfl, show p < 40 by omega, cr_le rfl, ?_⟩
      conv => whnf
      refine ⟨_, _, _, h1.a 3 rfl, rfl, hz9 p (by omega), cr_le rfl, ?_⟩
      conv => whnf
      refine ⟨fun b41 => ?_, fun b41 => ?_⟩
      · conv => whnf
        refine ⟨cr_le rfl, ?_⟩
        conv => whnf
        refine ⟨cr_le rfl, ?_⟩
        conv => whnf
        exact hK _ _ _ _ _ _ (cr_G_fg (ih (p + 1) n (by omega) (by rw [← hx]; show _ = n + (cond (mm_pz G z p) 1 0 + _); rw [show mm_pz G z p = false by simp [mm_pz, show ¬ nI (G 3 (G 18 p)) = nI z from b41]]; simp)) ⟨rfl, rfl, (show Value.int (nI n) = Value.int (nI n + 0) by rw [Int32.add_zero]), (show Value.int (nI (p + 1)) = Value.int (nI p + 1) by rw [nI_1]), trivial⟩)
      · conv => whnf
        refine ⟨cr_le rfl, ?_⟩
        conv => whnf
        refine ⟨cr_le rfl, ?_⟩
        conv => whnf
        exact hK _ _ _ _ _ _ (cr_G_fg (ih (p + 1) (n + 1) (by omega) (by rw [← hx]; show _ = n + (cond (mm_pz G z p) 1 0 + _); rw [show mm_pz G z p = true by simp [mm_pz, show nI (G 3 (G 18 p)) = nI z from b41]]; simp; omega)) ⟨rfl, rfl, (show Value.int (nI (n + 1)) = Value.int (nI n + 1) by rw [nI_1]), (show Value.int (nI (p + 1)) = Value.int (nI p + 1) by rw [nI_1]), trivial⟩)
  refine cr_vc [20] 90 (s_M_inside hl Z C hem) (fun K hK => ?_)
  conv => whnf
  refine ⟨rfl, ?_⟩
  conv => whnf
  refine ⟨_, _, _, _, j_M_isIn_t hl Z (mm_in_of (n := 10) hz (by decide)), by decide, cr_le rfl, cr_le rfl, cr_le rfl, fun v1 H1 q1 _ => ?_, fun kd H9 q9 _ => by cases q9.1⟩
  obtain ⟨q1a, q1b⟩ := q1
  cases q1a
  replace q1b := q1b.symm
  subst q1b
  conv => whnf
  refine ⟨rfl, ?_⟩
  conv => whnf
  refine ⟨_, h.o, _, _, _, _, j_M_goes hl Z h true true, by decide, cr_le rfl, cr_le rfl, cr_le rfl, fun v2 H2 q2 _ => ?_, fun kd H9 q9 _ => by cases q9.1⟩
  obtain ⟨q2a, h2, f2⟩ := q2
  cases q2a
  conv => whnf
  refine ⟨fun b11 => ?_, fun b11 => absurd b11 (by decide)⟩
  conv => whnf
  refine ⟨cr_le rfl, ?_⟩
  conv => whnf
  refine ⟨cr_le rfl, ?_⟩
  conv => whnf
  exact hK _ _ _ _ _ _ (loop _ h2 f2 (G 16 0) 0 0 (by omega) (by omega))
set_option maxRecDepth 20000 in
theorem j_M_inside_a (hl : l.flags = flags0) (Z : cr_Z0 s0 D ca e0) (h : mm_R s0 D ca H y ad G) {z : Int32} (hz : mm_in z 10 = false) : cr_c l s0 y_M_inside cw_M_inside 1 0 0 [.ref y, .int z] H (mm_Q s0 D ca H y ad (some (.int 0)) (mm_up G 0 0 1)) := by
  refine cr_enter (by decide +kernel) (Nat.le_of_ble_eq_true rfl) (fun hlo P9 E9 S9 M9 A9 B9 T9 C9 C hem hH => ?_)
  refine cr_vc [] 90 (s_M_inside hl Z C hem) (fun K hK => ?_)
  conv => whnf
  refine ⟨rfl, ?_⟩
  conv => whnf
  refine ⟨_, _, _, _, j_M_isIn_f hl Z hz, by decide, cr_le rfl, cr_le rfl, cr_le rfl, fun v1 H1 q1 _ => ?_, fun kd H9 q9 _ => by cases q9.1⟩
  obtain ⟨q1a, q1b⟩ := q1
  cases q1a
  replace q1b := q1b.symm
  subst q1b
  conv => whnf
  refine ⟨rfl, ?_⟩
  conv => whnf
  refine ⟨_, h.o, _, _, _, _, j_M_goes hl Z h false true, by decide, cr_le rfl, cr_le rfl, cr_le rfl, fun v2 H2 q2 _ => ?_, fun kd H9 q9 _ => by cases q9.1⟩
  obtain ⟨q2a, h2, f2⟩ := q2
  cases q2a
  conv => whnf
  refine ⟨fun b11 => absurd rfl b11, fun b11 => ?_⟩
  conv => whnf
  exact ⟨cr_le rfl, cr_le rfl, rfl, h2, f2⟩
set_option maxRecDepth 20000 in
theorem j_M_muster_ok (hl : l.flags = flags0) (Z : cr_Z0 s0 D ca e0) (h : mm_R s0 D ca H y ad G) {z : Nat} {kk : Int32} (hz : z < 10) (hk : ¬ kk < 0) (h16 : G 16 0 ≤ 40) (hz9 : ∀ p, p < G 16 0 → G 18 p < 20) : cr_c l s0 y_M_muster cw_M_muster 1 0 0 [.ref y, .int (nI z), .int kk] H (mm_Q s0 D ca H y ad (some (.int (mm_ms (mm_pz G z) kk 0 (G 16 0) 0))) (mm_up G 0 0 0)) := by
  refine cr_enter (by decide +kernel) (Nat.le_of_ble_eq_true rfl) (fun hlo P9 E9 S9 M9 A9 B9 T9 C9 C hem hH => ?_)
  have loop : ∀ (H1 : Heap), mm_R s0 D ca H1 y ad (mm_up G 0 0 0) → mm_Fr y ad H H1 → ∀ (j p n : Nat), p + j = G 16 0 → mm_ms (mm_pz G z) kk p j n = (mm_ms (mm_pz G z) kk 0 (G 16 0) 0) → cr_G P9 l E9 (cr_rm 1 0 0) S9 M9 A9 B9 T9 C9 s0.heap.size 0 0 (mm_Q s0 D ca H y ad (some (.int (mm_ms (mm_pz G z) kk 0 (G 16 0) 0))) (mm_up G 0 0 0)) 33 [some (.ref y), some (.int (nI z)), some (.int kk), some (.int (nI n)), some (.int (nI p))] [] H1 0 0 := by
    intro H1 h1 f1 j
    induction j with
    | zero =>
      intro p n hj hx
      refine cr_vc [33] 60 (s_M_muster hl Z C hem) (fun K hK => ?_)
      conv => whnf
      refine ⟨_, h1.o, ?_⟩
      conv => whnf
      refine ⟨fun _ => ?_, fun b => absurd (show nI (G 16 0) ≤ nI p from nI_le (by omega) (by omega)) b⟩
      conv => whnf
      exact ⟨cr_le rfl, cr_le rfl, (by rw [← hx]; rfl), h1, f1⟩
    | succ j ih =>
      intro p n hj hx
      refine cr_vc [33] 90 (s_M_muster hl Z C hem) (fun K hK => ?_)
      conv => whnf
      refine ⟨_, h1.o, ?_⟩
      conv => whnf
      refine ⟨fun b39 => absurd b39 (cr_nle (a := G 16 0) (by omega) (by omega)), fun b39 => ?_⟩
      conv => whnf
      refine ⟨_, h1.o, ?_⟩
      conv => whnf
      refine ⟨_, h1.o, ?_⟩
      conv => whnf
      refine ⟨_, _, _, h1.a 18 rfl, rfl, show p < 40 by omega, cr_le rfl, ?_⟩
      conv => whnf
      refine ⟨_, _, _, h1.a 3 rfl, rfl, hz9 p (by omega), cr_le rfl, ?_⟩
      conv => whnf
      refine ⟨fun b55 => ?_, fun b55 => ?_⟩
      · conv => whnf
        refine ⟨cr_le rfl, ?_⟩
        conv => whnf
        exact hK _ _ _ _ _ _ (cr_G_fg (ih (p + 1) n (by omega) (by rw [← hx]; show _ = cond (mm_pz G z p) _ _; rw [show mm_pz G z p = false by simp [mm_pz, show ¬ nI (G 3 (G 18 p)) = nI z from b55]]; rfl)) ⟨rfl, rfl, rfl, rfl, (show Value.int (nI (p + 1)) = Value.int (nI p + 1) by rw [nI_1]), trivial⟩)
      · conv => whnf
        refine ⟨fun b60 => ?_, fun b60 => ?_⟩
        · conv => whnf
          refine ⟨cr_le rfl, ?_⟩
          conv => whnf
          refine ⟨cr_le rfl, ?_⟩
          conv => whnf
          exact hK _ _ _ _ _ _ (cr_G_fg (ih (p + 1) (n + 1) (by omega) (by rw [← hx]; show _ = cond (mm_pz G z p) _ _; rw [show mm_pz G z p = true by simp [mm_pz, show nI (G 3 (G 18 p)) = nI z from b55]]; show _ = ite _ _ _; rw [if_neg b60])) ⟨rfl, rfl, rfl, (show Value.int (nI (n + 1)) = Value.int (nI n + 1) by rw [nI_1]), (show Value.int (nI (p + 1)) = Value.int (nI p + 1) by rw [nI_1]), trivial⟩)
        · conv => whnf
          exact ⟨cr_le rfl, cr_le rfl, congrArg (fun x => Sum.inl (some (Value.int x))) (by rw [← hx]; show _ = cond (mm_pz G z p) _ _; rw [show mm_pz G z p = true by simp [mm_pz, show nI (G 3 (G 18 p)) = nI z from b55]]; show _ = ite _ _ _; rw [if_pos b60]), h1, f1⟩
  refine cr_vc [33] 90 (s_M_muster hl Z C hem) (fun K hK => ?_)
  conv => whnf
  refine ⟨rfl, ?_⟩
  conv => whnf
  refine ⟨_, _, _, _, j_M_isIn_t hl Z (mm_in_of (n := 10) hz (by decide)), by decide, cr_le rfl, cr_le rfl, cr_le rfl, fun v1 H1 q1 _ => ?_, fun kd H9 q9 _ => by cases q9.1⟩
  obtain ⟨q1a, q1b⟩ := q1
  cases q1a
  replace q1b := q1b.symm
  subst q1b
  conv => whnf
  refine ⟨fun b7 => absurd b7 (by decide), fun b7 => ?_⟩
  conv => whnf
  refine ⟨fun b11 => absurd b11 hk, fun b11 => ?_⟩
  conv => whnf
  refine ⟨rfl, ?_⟩
  conv => whnf
  refine ⟨_, h.o, _, _, _, _, j_M_goes hl Z h true true, by decide, cr_le rfl, cr_le rfl, cr_le rfl, fun v4 H4 q4 _ => ?_, fun kd H9 q9 _ => by cases q9.1⟩
  obtain ⟨q4a, h4, f4⟩ := q4
  cases q4a
  conv => whnf
  refine ⟨fun b23 => ?_, fun b23 => absurd b23 (by decide)⟩
  conv => whnf
  refine ⟨cr_le rfl, ?_⟩
  conv => whnf
  refine ⟨cr_le rfl, ?_⟩
  conv => whnf
  exact hK _ _ _ _ _ _ (loop _ h4 f4 (G 16 0) 0 0 (by omega) rfl)
set_option maxRecDepth 20000 in
theorem j_M_muster_a (hl : l.flags = flags0) (Z : cr_Z0 s0 D ca e0) (h : mm_R s0 D ca H y ad G) {z kk : Int32} (hno : ¬ (mm_in z 10 = true ∧ ¬ kk < 0)) : cr_c l s0 y_M_muster cw_M_muster 1 0 0 [.ref y, .int z, .int kk] H (mm_Q s0 D ca H y ad (some (.int 0)) (mm_up G 0 0 1)) := by
  refine cr_enter (by decide +kernel) (Nat.le_of_ble_eq_true rfl) (fun hlo P9 E9 S9 M9 A9 B9 T9 C9 C hem hH => ?_)
  refine cr_vc [] 90 (s_M_muster hl Z C hem) (fun K hK => ?_)
  conv => whnf
  refine ⟨rfl, ?_⟩
  conv => whnf
  refine ⟨_, _, _, _, j_M_isIn hl Z, by decide, cr_le rfl, cr_le rfl, cr_le rfl, fun v1 H1 q1 _ => ?_, fun kd H9 q9 _ => by cases q9.1⟩
  obtain ⟨q1a, q1b⟩ := q1
  cases q1a
  replace q1b := q1b.symm
  subst q1b
  conv => whnf
  refine ⟨fun b7 => ?_, fun b7 => ?_⟩
  · conv => whnf
    refine ⟨rfl, ?_⟩
    conv => whnf
    refine ⟨_, h.o, _, _, _, _, j_M_goes hl Z h false true, by decide, cr_le rfl, cr_le rfl, cr_le rfl, fun v3 H3 q3 _ => ?_, fun kd H9 q9 _ => by cases q9.1⟩
    obtain ⟨q3a, h3, f3⟩ := q3
    cases q3a
    conv => whnf
    refine ⟨fun b23 => absurd rfl b23, fun b23 => ?_⟩
    conv => whnf
    exact ⟨cr_le rfl, cr_le rfl, rfl, h3, f3⟩
  · conv => whnf
    refine ⟨fun b11 => ?_, fun b11 => False.elim (hno ⟨cr_bt b7, b11⟩)⟩
    conv => whnf
    refine ⟨rfl, ?_⟩
    conv => whnf
    refine ⟨_, h.o, _, _, _, _, j_M_goes hl Z h false true, by decide, cr_le rfl, cr_le rfl, cr_le rfl, fun v6 H6 q6 _ => ?_, fun kd H9 q9 _ => by cases q9.1⟩
    obtain ⟨q6a, h6, f6⟩ := q6
    cases q6a
    conv => whnf
    refine ⟨fun b23 => absurd rfl b23, fun b23 => ?_⟩
    conv => whnf
    exact ⟨cr_le rfl, cr_le rfl, rfl, h6, f6⟩
set_option maxRecDepth 20000 in
theorem j_M_off_on (hl : l.flags = flags0) (Z : cr_Z0 s0 D ca e0) (h : mm_R s0 D ca H y ad G) {d : Nat} (hd : d < G 4 0) (hd2 : G 4 0 ≤ 30) : cr_c l s0 y_M_off cw_M_off 1 0 0 [.ref y, .int (nI d), .int 1] H (mm_Q s0 D ca H y ad (some (.int 0)) (mm_up (mm_up G 0 0 0) 10 d (if nI (G 10 d) = 9000 then G 28 0 else G 10 d))) := by
  refine cr_enter (by decide +kernel) (Nat.le_of_ble_eq_true rfl) (fun hlo P9 E9 S9 M9 A9 B9 T9 C9 C hem hH => ?_)
  refine cr_vc [] 90 (s_M_off hl Z C hem) (fun K hK => ?_)
  conv => whnf
  refine ⟨_, h.o, ?_⟩
  conv => whnf
  refine ⟨rfl, ?_⟩
  conv => whnf
  refine ⟨_, _, _, _, j_M_isIn_t hl Z (mm_in_of hd (by omega)), by decide, cr_le rfl, cr_le rfl, cr_le rfl, fun v1 H1 q1 _ => ?_, fun kd H9 q9 _ => by cases q9.1⟩
  obtain ⟨q1a, q1b⟩ := q1
  cases q1a
  replace q1b := q1b.symm
  subst q1b
  conv => whnf
  refine ⟨rfl, ?_⟩
  conv => whnf
  refine ⟨_, h.o, _, _, _, _, j_M_goes hl Z h true true, by decide, cr_le rfl, cr_le rfl, cr_le rfl, fun v2 H2 q2 _ => ?_, fun kd H9 q9 _ => by cases q9.1⟩
  obtain ⟨q2a, h2, f2⟩ := q2
  cases q2a
  conv => whnf
  refine ⟨fun b13 => ?_, fun b13 => absurd b13 (by decide)⟩
  conv => whnf
  refine ⟨fun b19 => absurd b19 (by decide), fun b19 => ?_⟩
  conv => whnf
  refine ⟨_, h2.o, ?_⟩
  conv => whnf
  refine ⟨_, h2.o, ?_⟩
  conv => whnf
  refine ⟨_, _, _, h2.a 10 rfl, rfl, show d < 30 by omega, cr_le rfl, ?_⟩
  conv => whnf
  refine ⟨fun b36 => ?_, fun b36 => ?_⟩
  · conv => whnf
    refine ⟨_, h2.o, ?_⟩
    conv => whnf
    refine ⟨_, _, _, h2.a 10 rfl, rfl, show d < 30 by omega, cr_le rfl, ?_⟩
    conv => whnf
    refine ⟨_, _, _, h2.a 10 rfl, h2.lo 10 rfl, rfl, show d < 30 by omega, cr_le rfl, fun H6 u6 => ?_⟩
    have h6 := h2.sto (k := 10) rfl u6
    conv => whnf
    exact ⟨cr_le rfl, cr_le rfl, rfl, (by rw [if_neg (show ¬ nI (G 10 d) = 9000 from b36)]; exact h6), (f2.tr (mm_Fr.arr (k := 10) rfl u6))⟩
  · conv => whnf
    refine ⟨_, h2.o, ?_⟩
    conv => whnf
    refine ⟨_, _, _, h2.a 10 rfl, h2.lo 10 rfl, rfl, show d < 30 by omega, cr_le rfl, fun H7 u7 => ?_⟩
    have h7 := h2.sto (k := 10) rfl u7
    conv => whnf
    exact ⟨cr_le rfl, cr_le rfl, rfl, (by rw [if_pos (show nI (G 10 d) = 9000 from b36)]; exact h7), (f2.tr (mm_Fr.arr (k := 10) rfl u7))⟩
set_option maxRecDepth 20000 in
theorem j_M_off_a (hl : l.flags = flags0) (Z : cr_Z0 s0 D ca e0) (h : mm_R s0 D ca H y ad G) {d : Int32} {o : Int32} (hno : mm_in d (nI (G 4 0)) = false) : cr_c l s0 y_M_off cw_M_off 1 0 0 [.ref y, .int d, .int o] H (mm_Q s0 D ca H y ad (some (.int 0)) (mm_up G 0 0 1)) := by
  refine cr_enter (by decide +kernel) (Nat.le_of_ble_eq_true rfl) (fun hlo P9 E9 S9 M9 A9 B9 T9 C9 C hem hH => ?_)
  refine cr_vc [] 90 (s_M_off hl Z C hem) (fun K hK => ?_)
  conv => whnf
  refine ⟨_, h.o, ?_⟩
  conv => whnf
  refine ⟨rfl, ?_⟩
  conv => whnf
  refine ⟨_, _, _, _, j_M_isIn_f hl Z hno, by decide, cr_le rfl, cr_le rfl, cr_le rfl, fun v1 H1 q1 _ => ?_, fun kd H9 q9 _ => by cases q9.1⟩
  obtain ⟨q1a, q1b⟩ := q1
  cases q1a
  replace q1b := q1b.symm
  subst q1b
  conv => whnf
  refine ⟨rfl, ?_⟩
  conv => whnf
  refine ⟨_, h.o, _, _, _, _, j_M_goes hl Z h false true, by decide, cr_le rfl, cr_le rfl, cr_le rfl, fun v2 H2 q2 _ => ?_, fun kd H9 q9 _ => by cases q9.1⟩
  obtain ⟨q2a, h2, f2⟩ := q2
  cases q2a
  conv => whnf
  refine ⟨fun b13 => absurd rfl b13, fun b13 => ?_⟩
  conv => whnf
  exact ⟨cr_le rfl, cr_le rfl, rfl, h2, f2⟩
end MOP6
