/-! THE REFERENCE's methods (printed by gen/ops1.py) -/
theorem cr_bt {b : Bool} (h : ¬ cr_b b = 0) : b = true := by
  cases b with
  | true => rfl
  | false => exact absurd rfl h
theorem cr_bf {b : Bool} (h : cr_b b = 0) : b = false := by
  cases b with
  | false => rfl
  | true => exact absurd h (by decide)
theorem cr_ltof {a b : Nat} (hb : b < 2 ^ 31) (h : ¬ nI a ≤ nI b) : b < a := by
  by_cases h9 : a ≤ b
  · exact absurd (nI_le h9 hb) h
  · omega
theorem cr_leof {a b : Nat} (ha : a < 2 ^ 31) (hb : b < 2 ^ 31) (h : nI a ≤ nI b) : a ≤ b := by
  by_cases h9 : b < a
  · exact absurd h (cr_nle h9 ha)
  · omega
theorem cr_p1 (n : Nat) : nI (n + 1) - 1 = nI n := by
  rw [← nI_1, Int32.add_sub_cancel]
theorem cr_pm (n : Nat) : nI (n + 1) + -1 = nI n := by
  rw [← Int32.sub_eq_add_neg]
  exact cr_p1 n
theorem mm_in_nat {z : Int32} {n : Nat} (hn : n < 2 ^ 31) (h : mm_in z (nI n) = true) : ∃ a, z = nI a ∧ a < n := by
  simp only [mm_in, Bool.and_eq_true, Bool.not_eq_true', decide_eq_false_iff_not] at h
  obtain ⟨h1, h2⟩ := h
  have e : z = nI z.toNatClampNeg := by
    have h3 : (0 : Int) ≤ z.toInt := by
      have := Int32.not_lt.mp h1
      simpa using Int32.le_iff_toInt_le.mp this
    rw [← Int32.toInt_inj]
    have h4 : z.toNatClampNeg < 2 ^ 31 := by
      have h5 := z.toInt_lt
      show z.toInt.toNat < 2 ^ 31
      omega
    rw [nI_toInt h4]
    show z.toInt = ((z.toInt.toNat : Nat) : Int)
    omega
  refine ⟨z.toNatClampNeg, e, ?_⟩
  have h6 : z < nI n := Int32.not_le.mp h2
  rw [e, Int32.lt_iff_toInt_lt, nI_toInt hn] at h6
  have h4 : z.toNatClampNeg < 2 ^ 31 := by
    have h5 := z.toInt_lt
    show z.toInt.toNat < 2 ^ 31
    omega
  rw [nI_toInt h4] at h6
  omega
theorem mm_in_of {a n : Nat} (h : a < n) (hn : n < 2 ^ 31) : mm_in (nI a) (nI n) = true := by
  simp [mm_in, nI_pos (show a < 2 ^ 31 by omega), cr_nle h hn]
theorem mm_min_of {a : Nat} (h : a ≤ 1000000) : mm_min (nI a) = true := by
  have h1 : ¬ (1000000 : Int32) < nI a := nI_nlt (a := 1000000) h (by decide)
  simp [mm_min, nI_pos (show a < 2 ^ 31 by omega), h1]
section MOP
variable {l : Launch} {s0 : State} {D : va_G} {ca : Nat → ClassId} {e0 : Nat} {H : Heap} {y : Nat} {ad : Nat → Nat} {G : mm_G}
theorem j_M_isIn_t (hl : l.flags = flags0) (Z : cr_Z0 s0 D ca e0) {z n : Int32} (h : mm_in z n = true) : cr_c l s0 y_M_isIn cw_M_isIn 0 0 0 [.int z, .int n] H (cr_pu (some (.int 1)) H) := by
  have q := j_M_isIn (H := H) (z := z) (n := n) hl Z
  rw [h] at q
  exact q
theorem j_M_isIn_f (hl : l.flags = flags0) (Z : cr_Z0 s0 D ca e0) {z n : Int32} (h : mm_in z n = false) : cr_c l s0 y_M_isIn cw_M_isIn 0 0 0 [.int z, .int n] H (cr_pu (some (.int 0)) H) := by
  have q := j_M_isIn (H := H) (z := z) (n := n) hl Z
  rw [h] at q
  exact q
theorem j_M_isMinute_t (hl : l.flags = flags0) (Z : cr_Z0 s0 D ca e0) {z : Int32} (h : mm_min z = true) : cr_c l s0 y_M_isMinute cw_M_isMinute 0 0 0 [.int z] H (cr_pu (some (.int 1)) H) := by
  have q := j_M_isMinute (H := H) (z := z) hl Z
  rw [h] at q
  exact q
set_option maxRecDepth 20000 in
theorem j_M_now (hl : l.flags = flags0) (Z : cr_Z0 s0 D ca e0) (h : mm_R s0 D ca H y ad G)  : cr_c l s0 y_M_now cw_M_now 0 0 0 [.ref y] H (mm_Q s0 D ca H y ad (some (.int (nI (G 1 0)))) (mm_up G 0 0 0)) := by
  refine cr_enter (by decide +kernel) (Nat.le_of_ble_eq_true rfl) (fun hlo P9 E9 S9 M9 A9 B9 T9 C9 C hem hH => ?_)
  refine cr_vc [] 90 (s_M_now hl Z C hem) (fun K hK => ?_)
  conv => whnf
  refine ⟨_, h.o, h.1, ⟨rfl, rfl⟩, ?_⟩
  conv => whnf
  intro H1 u1
  have h1 := h.put (k := 0) (v := 0) rfl u1
  conv => whnf
  refine ⟨_, h1.o, ?_⟩
  conv => whnf
  exact ⟨cr_le rfl, cr_le rfl, rfl, h1, (mm_Fr.ob u1)⟩
set_option maxRecDepth 20000 in
theorem j_M_against (hl : l.flags = flags0) (Z : cr_Z0 s0 D ca e0) (h : mm_R s0 D ca H y ad G)  : cr_c l s0 y_M_against cw_M_against 0 0 0 [.ref y] H (mm_Q s0 D ca H y ad (some (.int (nI (G 34 0)))) (mm_up G 0 0 0)) := by
  refine cr_enter (by decide +kernel) (Nat.le_of_ble_eq_true rfl) (fun hlo P9 E9 S9 M9 A9 B9 T9 C9 C hem hH => ?_)
  refine cr_vc [] 90 (s_M_against hl Z C hem) (fun K hK => ?_)
  conv => whnf
  refine ⟨_, h.o, h.1, ⟨rfl, rfl⟩, ?_⟩
  conv => whnf
  intro H1 u1
  have h1 := h.put (k := 0) (v := 0) rfl u1
  conv => whnf
  refine ⟨_, h1.o, ?_⟩
  conv => whnf
  exact ⟨cr_le rfl, cr_le rfl, rfl, h1, (mm_Fr.ob u1)⟩
set_option maxRecDepth 20000 in
theorem j_M_uses (hl : l.flags = flags0) (Z : cr_Z0 s0 D ca e0) (h : mm_R s0 D ca H y ad G)  : cr_c l s0 y_M_uses cw_M_uses 0 0 0 [.ref y] H (mm_Q s0 D ca H y ad (some (.int (nI (G 32 0)))) (mm_up G 0 0 0)) := by
  refine cr_enter (by decide +kernel) (Nat.le_of_ble_eq_true rfl) (fun hlo P9 E9 S9 M9 A9 B9 T9 C9 C hem hH => ?_)
  refine cr_vc [] 90 (s_M_uses hl Z C hem) (fun K hK => ?_)
  conv => whnf
  refine ⟨_, h.o, h.1, ⟨rfl, rfl⟩, ?_⟩
  conv => whnf
  intro H1 u1
  have h1 := h.put (k := 0) (v := 0) rfl u1
  conv => whnf
  refine ⟨_, h1.o, ?_⟩
  conv => whnf
  exact ⟨cr_le rfl, cr_le rfl, rfl, h1, (mm_Fr.ob u1)⟩
set_option maxRecDepth 20000 in
theorem j_M_room_ok (hl : l.flags = flags0) (Z : cr_Z0 s0 D ca e0) (h : mm_R s0 D ca H y ad G) {z : Nat} (hz : z < 10) (hr : G 2 0 < 20) : cr_c l s0 y_M_room cw_M_room 1 0 0 [.ref y, .int (nI z)] H (mm_Q s0 D ca H y ad (some (.int (nI (G 2 0)))) (mm_up (mm_up (mm_up G 0 0 0) 3 (G 2 0) z) 2 0 (G 2 0 + 1))) := by
  refine cr_enter (by decide +kernel) (Nat.le_of_ble_eq_true rfl) (fun hlo P9 E9 S9 M9 A9 B9 T9 C9 C hem hH => ?_)
  refine cr_vc [] 90 (s_M_room hl Z C hem) (fun K hK => ?_)
  conv => whnf
  refine ⟨rfl, ?_⟩
  conv => whnf
  refine ⟨_, _, _, _, j_M_isIn_t hl Z (mm_in_of (n := 10) hz (by decide)), by decide, cr_le rfl, cr_le rfl, cr_le rfl, fun v1 H1 q1 _ => ?_, fun kd H9 q9 _ => by cases q9.1⟩
  obtain ⟨q1a, q1b⟩ := q1
  cases q1a
  replace q1b := q1b.symm
  subst q1b
  conv => whnf
  refine ⟨_, h.o, ?_⟩
  conv => whnf
  refine ⟨fun b13 => absurd b13 (cr_nle (a := 20) hr (by decide)), fun b13 => ?_⟩
  conv => whnf
  refine ⟨rfl, ?_⟩
  conv => whnf
  refine ⟨_, h.o, _, _, _, _, j_M_goes hl Z h true true, by decide, cr_le rfl, cr_le rfl, cr_le rfl, fun v3 H3 q3 _ => ?_, fun kd H9 q9 _ => by cases q9.1⟩
  obtain ⟨q3a, h3, f3⟩ := q3
  cases q3a
  conv => whnf
  refine ⟨fun b24 => ?_, fun b24 => absurd b24 (by decide)⟩
  conv => whnf
  refine ⟨_, h3.o, ?_⟩
  conv => whnf
  refine ⟨_, h3.o, ?_⟩
  conv => whnf
  refine ⟨_, _, _, h3.a 3 rfl, h3.lo 3 rfl, rfl, hr, cr_le rfl, fun H5 u5 => ?_⟩
  have h5 := h3.sto (k := 3) rfl u5
  conv => whnf
  refine ⟨rfl, ?_⟩
  conv => whnf
  refine ⟨_, h5.o, ?_⟩
  conv => whnf
  refine ⟨_, h5.o, h5.1, ⟨rfl, rfl⟩, ?_⟩
  conv => whnf
  intro H6 u6
  have h6 := h5.put (k := 2) (v := G 2 0 + 1) rfl (by rw [nI_1] at u6; exact u6)
  conv => whnf
  refine ⟨_, h6.o, ?_⟩
  conv => whnf
  exact ⟨cr_le rfl, cr_le rfl, congrArg (fun x => Sum.inl (some (Value.int x))) (cr_p1 (G 2 0)), h6, ((f3.tr (mm_Fr.arr (k := 3) rfl u5)).tr (mm_Fr.ob u6))⟩
set_option maxRecDepth 20000 in
theorem j_M_room_a (hl : l.flags = flags0) (Z : cr_Z0 s0 D ca e0) (h : mm_R s0 D ca H y ad G) {z : Int32} (hz : mm_in z 10 = false) : cr_c l s0 y_M_room cw_M_room 1 0 0 [.ref y, .int z] H (mm_Q s0 D ca H y ad (some (.int 0)) (mm_up G 0 0 1)) := by
  refine cr_enter (by decide +kernel) (Nat.le_of_ble_eq_true rfl) (fun hlo P9 E9 S9 M9 A9 B9 T9 C9 C hem hH => ?_)
  refine cr_vc [] 90 (s_M_room hl Z C hem) (fun K hK => ?_)
  conv => whnf
  refine ⟨rfl, ?_⟩
  conv => whnf
  refine ⟨_, _, _, _, j_M_isIn_f hl Z hz, by decide, cr_le rfl, cr_le rfl, cr_le rfl, fun v1 H1 q1 _ => ?_, fun kd H9 q9 _ => by cases q9.1⟩
  obtain ⟨q1a, q1b⟩ := q1
  cases q1a
  replace q1b := q1b.symm
  subst q1b
  conv => whnf
  refine ⟨_, h.o, ?_⟩
  conv => whnf
  refine ⟨fun b13 => ?_, fun b13 => ?_⟩
  · conv => whnf
    refine ⟨rfl, ?_⟩
    conv => whnf
    refine ⟨_, h.o, _, _, _, _, j_M_goes hl Z h false false, by decide, cr_le rfl, cr_le rfl, cr_le rfl, fun v3 H3 q3 _ => ?_, fun kd H9 q9 _ => by cases q9.1⟩
    obtain ⟨q3a, h3, f3⟩ := q3
    cases q3a
    conv => whnf
    refine ⟨fun b24 => absurd rfl b24, fun b24 => ?_⟩
    conv => whnf
    exact ⟨cr_le rfl, cr_le rfl, rfl, h3, f3⟩
  · conv => whnf
    refine ⟨rfl, ?_⟩
    conv => whnf
    refine ⟨_, h.o, _, _, _, _, j_M_goes hl Z h false true, by decide, cr_le rfl, cr_le rfl, cr_le rfl, fun v5 H5 q5 _ => ?_, fun kd H9 q9 _ => by cases q9.1⟩
    obtain ⟨q5a, h5, f5⟩ := q5
    cases q5a
    conv => whnf
    refine ⟨fun b24 => absurd rfl b24, fun b24 => ?_⟩
    conv => whnf
    exact ⟨cr_le rfl, cr_le rfl, rfl, h5, f5⟩
set_option maxRecDepth 20000 in
theorem j_M_room_s (hl : l.flags = flags0) (Z : cr_Z0 s0 D ca e0) (h : mm_R s0 D ca H y ad G) {z : Nat} (hz : z < 10) (hr : 20 ≤ G 2 0) (hr2 : G 2 0 < 2 ^ 31) : cr_c l s0 y_M_room cw_M_room 1 0 0 [.ref y, .int (nI z)] H (mm_Q s0 D ca H y ad (some (.int 0)) (mm_up G 0 0 2)) := by
  refine cr_enter (by decide +kernel) (Nat.le_of_ble_eq_true rfl) (fun hlo P9 E9 S9 M9 A9 B9 T9 C9 C hem hH => ?_)
  refine cr_vc [] 90 (s_M_room hl Z C hem) (fun K hK => ?_)
  conv => whnf
  refine ⟨rfl, ?_⟩
  conv => whnf
  refine ⟨_, _, _, _, j_M_isIn_t hl Z (mm_in_of (n := 10) hz (by decide)), by decide, cr_le rfl, cr_le rfl, cr_le rfl, fun v1 H1 q1 _ => ?_, fun kd H9 q9 _ => by cases q9.1⟩
  obtain ⟨q1a, q1b⟩ := q1
  cases q1a
  replace q1b := q1b.symm
  subst q1b
  conv => whnf
  refine ⟨_, h.o, ?_⟩
  conv => whnf
  refine ⟨fun b13 => ?_, fun b13 => absurd (nI_le (a := 20) hr hr2) b13⟩
  conv => whnf
  refine ⟨rfl, ?_⟩
  conv => whnf
  refine ⟨_, h.o, _, _, _, _, j_M_goes hl Z h true false, by decide, cr_le rfl, cr_le rfl, cr_le rfl, fun v3 H3 q3 _ => ?_, fun kd H9 q9 _ => by cases q9.1⟩
  obtain ⟨q3a, h3, f3⟩ := q3
  cases q3a
  conv => whnf
  refine ⟨fun b24 => absurd rfl b24, fun b24 => ?_⟩
  conv => whnf
  exact ⟨cr_le rfl, cr_le rfl, rfl, h3, f3⟩
set_option maxRecDepth 20000 in
theorem j_M_door_ok (hl : l.flags = flags0) (Z : cr_Z0 s0 D ca e0) (h : mm_R s0 D ca H y ad G) {a b : Nat} (ha : a < G 2 0) (hb : b < G 2 0) (hab : a ≠ b) (hr : G 2 0 < 2 ^ 31) (hd : G 4 0 < 30) : cr_c l s0 y_M_door cw_M_door 1 0 0 [.ref y, .int (nI a), .int (nI b)] H (mm_Q s0 D ca H y ad (some (.int (nI (G 4 0)))) (mm_up (mm_up (mm_up (mm_up (mm_up G 0 0 0) 5 (G 4 0) a) 6 (G 4 0) b) 10 (G 4 0) 9000) 4 0 (G 4 0 + 1))) := by
  refine cr_enter (by decide +kernel) (Nat.le_of_ble_eq_true rfl) (fun hlo P9 E9 S9 M9 A9 B9 T9 C9 C hem hH => ?_)
  refine cr_vc [] 90 (s_M_door hl Z C hem) (fun K hK => ?_)
  conv => whnf
  refine ⟨_, h.o, ?_⟩
  conv => whnf
  refine ⟨rfl, ?_⟩
  conv => whnf
  refine ⟨_, _, _, _, j_M_isIn_t hl Z (mm_in_of ha hr), by decide, cr_le rfl, cr_le rfl, cr_le rfl, fun v1 H1 q1 _ => ?_, fun kd H9 q9 _ => by cases q9.1⟩
  obtain ⟨q1a, q1b⟩ := q1
  cases q1a
  replace q1b := q1b.symm
  subst q1b
  conv => whnf
  refine ⟨fun b9 => absurd b9 (by decide), fun b9 => ?_⟩
  conv => whnf
  refine ⟨_, h.o, ?_⟩
  conv => whnf
  refine ⟨rfl, ?_⟩
  conv => whnf
  refine ⟨_, _, _, _, j_M_isIn_t hl Z (mm_in_of hb hr), by decide, cr_le rfl, cr_le rfl, cr_le rfl, fun v3 H3 q3 _ => ?_, fun kd H9 q9 _ => by cases q9.1⟩
  obtain ⟨q3a, q3b⟩ := q3
  cases q3a
  replace q3b := q3b.symm
  subst q3b
  conv => whnf
  refine ⟨fun b20 => absurd b20 (by decide), fun b20 => ?_⟩
  conv => whnf
  refine ⟨fun b25 => absurd ((nI_eq (by omega) (by omega)).mp b25) hab, fun b25 => ?_⟩
  conv => whnf
  refine ⟨_, h.o, ?_⟩
  conv => whnf
  refine ⟨fun b39 => absurd b39 (cr_nle (a := 30) hd (by decide)), fun b39 => ?_⟩
  conv => whnf
  refine ⟨rfl, ?_⟩
  conv => whnf
  refine ⟨_, h.o, _, _, _, _, j_M_goes hl Z h true true, by decide, cr_le rfl, cr_le rfl, cr_le rfl, fun v7 H7 q7 _ => ?_, fun kd H9 q9 _ => by cases q9.1⟩
  obtain ⟨q7a, h7, f7⟩ := q7
  cases q7a
  conv => whnf
  refine ⟨fun b50 => ?_, fun b50 => absurd b50 (by decide)⟩
  conv => whnf
  refine ⟨_, h7.o, ?_⟩
  conv => whnf
  refine ⟨_, h7.o, ?_⟩
  conv => whnf
  refine ⟨_, _, _, h7.a 5 rfl, h7.lo 5 rfl, rfl, hd, cr_le rfl, fun H9 u9 => ?_⟩
  have h9 := h7.sto (k := 5) rfl u9
  conv => whnf
  refine ⟨_, h9.o, ?_⟩
  conv => whnf
  refine ⟨_, h9.o, ?_⟩
  conv => whnf
  refine ⟨_, _, _, h9.a 6 rfl, h9.lo 6 rfl, rfl, hd, cr_le rfl, fun H10 u10 => ?_⟩
  have h10 := h9.sto (k := 6) rfl u10
  conv => whnf
  refine ⟨_, h10.o, ?_⟩
  conv => whnf
  refine ⟨_, h10.o, ?_⟩
  conv => whnf
  refine ⟨_, _, _, h10.a 10 rfl, h10.lo 10 rfl, rfl, hd, cr_le rfl, fun H11 u11 => ?_⟩
  have h11 := h10.sto (k := 10) (v := 9000) rfl u11
  conv => whnf
  refine ⟨rfl, ?_⟩
  conv => whnf
  refine ⟨_, h11.o, ?_⟩
  conv => whnf
  refine ⟨_, h11.o, h11.1, ⟨rfl, rfl⟩, ?_⟩
  conv => whnf
  intro H12 u12
  have h12 := h11.put (k := 4) (v := G 4 0 + 1) rfl (by rw [nI_1] at u12; exact u12)
  conv => whnf
  refine ⟨_, h12.o, ?_⟩
  conv => whnf
  exact ⟨cr_le rfl, cr_le rfl, congrArg (fun x => Sum.inl (some (Value.int x))) (cr_p1 (G 4 0)), h12, ((((f7.tr (mm_Fr.arr (k := 5) rfl u9)).tr (mm_Fr.arr (k := 6) rfl u10)).tr (mm_Fr.arr (k := 10) rfl u11)).tr (mm_Fr.ob u12))⟩
set_option maxRecDepth 20000 in
theorem j_M_door_a (hl : l.flags = flags0) (Z : cr_Z0 s0 D ca e0) (h : mm_R s0 D ca H y ad G) {a b : Int32} (hno : ¬ (mm_in a (nI (G 2 0)) = true ∧ mm_in b (nI (G 2 0)) = true ∧ a ≠ b)) : cr_c l s0 y_M_door cw_M_door 1 0 0 [.ref y, .int a, .int b] H (mm_Q s0 D ca H y ad (some (.int 0)) (mm_up G 0 0 1)) := by
  refine cr_enter (by decide +kernel) (Nat.le_of_ble_eq_true rfl) (fun hlo P9 E9 S9 M9 A9 B9 T9 C9 C hem hH => ?_)
  refine cr_vc [] 90 (s_M_door hl Z C hem) (fun K hK => ?_)
  conv => whnf
  refine ⟨_, h.o, ?_⟩
  conv => whnf
  refine ⟨rfl, ?_⟩
  conv => whnf
  refine ⟨_, _, _, _, j_M_isIn hl Z, by decide, cr_le rfl, cr_le rfl, cr_le rfl, fun v1 H1 q1 _ => ?_, fun kd H9 q9 _ => by cases q9.1⟩
  obtain ⟨q1a, q1b⟩ := q1
  cases q1a
  replace q1b := q1b.symm
  subst q1b
  conv => whnf
  refine ⟨fun b9 => ?_, fun b9 => ?_⟩
  · conv => whnf
    refine ⟨_, h.o, ?_⟩
    conv => whnf
    refine ⟨fun b39 => ?_, fun b39 => ?_⟩
    · conv => whnf
      refine ⟨rfl, ?_⟩
      conv => whnf
      refine ⟨_, h.o, _, _, _, _, j_M_goes hl Z h false false, by decide, cr_le rfl, cr_le rfl, cr_le rfl, fun v4 H4 q4 _ => ?_, fun kd H9 q9 _ => by cases q9.1⟩
      obtain ⟨q4a, h4, f4⟩ := q4
      cases q4a
      conv => whnf
      refine ⟨fun b50 => absurd rfl b50, fun b50 => ?_⟩
      conv => whnf
      exact ⟨cr_le rfl, cr_le rfl, rfl, h4, f4⟩
    · conv => whnf
      refine ⟨rfl, ?_⟩
      conv => whnf
      refine ⟨_, h.o, _, _, _, _, j_M_goes hl Z h false true, by decide, cr_le rfl, cr_le rfl, cr_le rfl, fun v6 H6 q6 _ => ?_, fun kd H9 q9 _ => by cases q9.1⟩
      obtain ⟨q6a, h6, f6⟩ := q6
      cases q6a
      conv => whnf
      refine ⟨fun b50 => absurd rfl b50, fun b50 => ?_⟩
      conv => whnf
      exact ⟨cr_le rfl, cr_le rfl, rfl, h6, f6⟩
  · conv => whnf
    refine ⟨_, h.o, ?_⟩
    conv => whnf
    refine ⟨rfl, ?_⟩
    conv => whnf
    refine ⟨_, _, _, _, j_M_isIn hl Z, by decide, cr_le rfl, cr_le rfl, cr_le rfl, fun v8 H8 q8 _ => ?_, fun kd H9 q9 _ => by cases q9.1⟩
    obtain ⟨q8a, q8b⟩ := q8
    cases q8a
    replace q8b := q8b.symm
    subst q8b
    conv => whnf
    refine ⟨fun b20 => ?_, fun b20 => ?_⟩
    · conv => whnf
      refine ⟨_, h.o, ?_⟩
      conv => whnf
      refine ⟨fun b39 => ?_, fun b39 => ?_⟩
      · conv => whnf
        refine ⟨rfl, ?_⟩
        conv => whnf
        refine ⟨_, h.o, _, _, _, _, j_M_goes hl Z h false false, by decide, cr_le rfl, cr_le rfl, cr_le rfl, fun v11 H11 q11 _ => ?_, fun kd H9 q9 _ => by cases q9.1⟩
        obtain ⟨q11a, h11, f11⟩ := q11
        cases q11a
        conv => whnf
        refine ⟨fun b50 => absurd rfl b50, fun b50 => ?_⟩
        conv => whnf
        exact ⟨cr_le rfl, cr_le rfl, rfl, h11, f11⟩
      · conv => whnf
        refine ⟨rfl, ?_⟩
        conv => whnf
        refine ⟨_, h.o, _, _, _, _, j_M_goes hl Z h false true, by decide, cr_le rfl, cr_le rfl, cr_le rfl, fun v13 H13 q13 _ => ?_, fun kd H9 q9 _ => by cases q9.1⟩
        obtain ⟨q13a, h13, f13⟩ := q13
        cases q13a
        conv => whnf
        refine ⟨fun b50 => absurd rfl b50, fun b50 => ?_⟩
        conv => whnf
        exact ⟨cr_le rfl, cr_le rfl, rfl, h13, f13⟩
    · conv => whnf
      refine ⟨fun b25 => ?_, fun b25 => False.elim (hno ⟨cr_bt b9, cr_bt b20, b25⟩)⟩
      conv => whnf
      refine ⟨_, h.o, ?_⟩
      conv => whnf
      refine ⟨fun b39 => ?_, fun b39 => ?_⟩
      · conv => whnf
        refine ⟨rfl, ?_⟩
        conv => whnf
        refine ⟨_, h.o, _, _, _, _, j_M_goes hl Z h false false, by decide, cr_le rfl, cr_le rfl, cr_le rfl, fun v17 H17 q17 _ => ?_, fun kd H9 q9 _ => by cases q9.1⟩
        obtain ⟨q17a, h17, f17⟩ := q17
        cases q17a
        conv => whnf
        refine ⟨fun b50 => absurd rfl b50, fun b50 => ?_⟩
        conv => whnf
        exact ⟨cr_le rfl, cr_le rfl, rfl, h17, f17⟩
      · conv => whnf
        refine ⟨rfl, ?_⟩
        conv => whnf
        refine ⟨_, h.o, _, _, _, _, j_M_goes hl Z h false true, by decide, cr_le rfl, cr_le rfl, cr_le rfl, fun v19 H19 q19 _ => ?_, fun kd H9 q9 _ => by cases q9.1⟩
        obtain ⟨q19a, h19, f19⟩ := q19
        cases q19a
        conv => whnf
        refine ⟨fun b50 => absurd rfl b50, fun b50 => ?_⟩
        conv => whnf
        exact ⟨cr_le rfl, cr_le rfl, rfl, h19, f19⟩
set_option maxRecDepth 20000 in
theorem j_M_door_s (hl : l.flags = flags0) (Z : cr_Z0 s0 D ca e0) (h : mm_R s0 D ca H y ad G) {a b : Nat} (ha : a < G 2 0) (hb : b < G 2 0) (hab : a ≠ b) (hr : G 2 0 < 2 ^ 31) (hd : 30 ≤ G 4 0) (hd2 : G 4 0 < 2 ^ 31) : cr_c l s0 y_M_door cw_M_door 1 0 0 [.ref y, .int (nI a), .int (nI b)] H (mm_Q s0 D ca H y ad (some (.int 0)) (mm_up G 0 0 2)) := by
  refine cr_enter (by decide +kernel) (Nat.le_of_ble_eq_true rfl) (fun hlo P9 E9 S9 M9 A9 B9 T9 C9 C hem hH => ?_)
  refine cr_vc [] 90 (s_M_door hl Z C hem) (fun K hK => ?_)
  conv => whnf
  refine ⟨_, h.o, ?_⟩
  conv => whnf
  refine ⟨rfl, ?_⟩
  conv => whnf
  refine ⟨_, _, _, _, j_M_isIn_t hl Z (mm_in_of ha hr), by decide, cr_le rfl, cr_le rfl, cr_le rfl, fun v1 H1 q1 _ => ?_, fun kd H9 q9 _ => by cases q9.1⟩
  obtain ⟨q1a, q1b⟩ := q1
  cases q1a
  replace q1b := q1b.symm
  subst q1b
  conv => whnf
  refine ⟨fun b9 => absurd b9 (by decide), fun b9 => ?_⟩
  conv => whnf
  refine ⟨_, h.o, ?_⟩
  conv => whnf
  refine ⟨rfl, ?_⟩
  conv => whnf
  refine ⟨_, _, _, _, j_M_isIn_t hl Z (mm_in_of hb hr), by decide, cr_le rfl, cr_le rfl, cr_le rfl, fun v3 H3 q3 _ => ?_, fun kd H9 q9 _ => by cases q9.1⟩
  obtain ⟨q3a, q3b⟩ := q3
  cases q3a
  replace q3b := q3b.symm
  subst q3b
  conv => whnf
  refine ⟨fun b20 => absurd b20 (by decide), fun b20 => ?_⟩
  conv => whnf
  refine ⟨fun b25 => absurd ((nI_eq (by omega) (by omega)).mp b25) hab, fun b25 => ?_⟩
  conv => whnf
  refine ⟨_, h.o, ?_⟩
  conv => whnf
  refine ⟨fun b39 => ?_, fun b39 => absurd (nI_le (a := 30) hd hd2) b39⟩
  conv => whnf
  refine ⟨rfl, ?_⟩
  conv => whnf
  refine ⟨_, h.o, _, _, _, _, j_M_goes hl Z h true false, by decide, cr_le rfl, cr_le rfl, cr_le rfl, fun v7 H7 q7 _ => ?_, fun kd H9 q9 _ => by cases q9.1⟩
  obtain ⟨q7a, h7, f7⟩ := q7
  cases q7a
  conv => whnf
  refine ⟨fun b50 => absurd rfl b50, fun b50 => ?_⟩
  conv => whnf
  exact ⟨cr_le rfl, cr_le rfl, rfl, h7, f7⟩
set_option maxRecDepth 20000 in
theorem j_M_person_ok (hl : l.flags = flags0) (Z : cr_Z0 s0 D ca e0) (h : mm_R s0 D ca H y ad G) {g : Nat} (hg : g < 10) (hp : G 16 0 < 40) (hr : 0 < G 2 0) (hr2 : G 2 0 < 2 ^ 31) : cr_c l s0 y_M_person cw_M_person 1 0 0 [.ref y, .int (nI g)] H (mm_Q s0 D ca H y ad (some (.int (nI (G 16 0)))) (mm_up (mm_up (mm_up G 0 0 0) 17 (G 16 0) g) 16 0 (G 16 0 + 1))) := by
  refine cr_enter (by decide +kernel) (Nat.le_of_ble_eq_true rfl) (fun hlo P9 E9 S9 M9 A9 B9 T9 C9 C hem hH => ?_)
  refine cr_vc [] 90 (s_M_person hl Z C hem) (fun K hK => ?_)
  conv => whnf
  refine ⟨rfl, ?_⟩
  conv => whnf
  refine ⟨_, _, _, _, j_M_isIn_t hl Z (mm_in_of (n := 10) hg (by decide)), by decide, cr_le rfl, cr_le rfl, cr_le rfl, fun v1 H1 q1 _ => ?_, fun kd H9 q9 _ => by cases q9.1⟩
  obtain ⟨q1a, q1b⟩ := q1
  cases q1a
  replace q1b := q1b.symm
  subst q1b
  conv => whnf
  refine ⟨_, h.o, ?_⟩
  conv => whnf
  refine ⟨fun b13 => absurd b13 (cr_nle (a := 40) hp (by decide)), fun b13 => ?_⟩
  conv => whnf
  refine ⟨_, h.o, ?_⟩
  conv => whnf
  refine ⟨fun b20 => absurd b20 (nI_nle hr hr2), fun b20 => ?_⟩
  conv => whnf
  refine ⟨rfl, ?_⟩
  conv => whnf
  refine ⟨_, h.o, _, _, _, _, j_M_goes hl Z h true true, by decide, cr_le rfl, cr_le rfl, cr_le rfl, fun v4 H4 q4 _ => ?_, fun kd H9 q9 _ => by cases q9.1⟩
  obtain ⟨q4a, h4, f4⟩ := q4
  cases q4a
  conv => whnf
  refine ⟨fun b31 => ?_, fun b31 => absurd b31 (by decide)⟩
  conv => whnf
  refine ⟨_, h4.o, ?_⟩
  conv => whnf
  refine ⟨_, h4.o, ?_⟩
  conv => whnf
  refine ⟨_, _, _, h4.a 17 rfl, h4.lo 17 rfl, rfl, hp, cr_le rfl, fun H6 u6 => ?_⟩
  have h6 := h4.sto (k := 17) rfl u6
  conv => whnf
  refine ⟨rfl, ?_⟩
  conv => whnf
  refine ⟨_, h6.o, ?_⟩
  conv => whnf
  refine ⟨_, h6.o, h6.1, ⟨rfl, rfl⟩, ?_⟩
  conv => whnf
  intro H7 u7
  have h7 := h6.put (k := 16) (v := G 16 0 + 1) rfl (by rw [nI_1] at u7; exact u7)
  conv => whnf
  refine ⟨_, h7.o, ?_⟩
  conv => whnf
  exact ⟨cr_le rfl, cr_le rfl, congrArg (fun x => Sum.inl (some (Value.int x))) (cr_p1 (G 16 0)), h7, ((f4.tr (mm_Fr.arr (k := 17) rfl u6)).tr (mm_Fr.ob u7))⟩
set_option maxRecDepth 20000 in
theorem j_M_person_a (hl : l.flags = flags0) (Z : cr_Z0 s0 D ca e0) (h : mm_R s0 D ca H y ad G) {g : Int32} (hg : mm_in g 10 = false) : cr_c l s0 y_M_person cw_M_person 1 0 0 [.ref y, .int g] H (mm_Q s0 D ca H y ad (some (.int 0)) (mm_up G 0 0 1)) := by
  refine cr_enter (by decide +kernel) (Nat.le_of_ble_eq_true rfl) (fun hlo P9 E9 S9 M9 A9 B9 T9 C9 C hem hH => ?_)
  refine cr_vc [] 90 (s_M_person hl Z C hem) (fun K hK => ?_)
  conv => whnf
  refine ⟨rfl, ?_⟩
  conv => whnf
  refine ⟨_, _, _, _, j_M_isIn_f hl Z hg, by decide, cr_le rfl, cr_le rfl, cr_le rfl, fun v1 H1 q1 _ => ?_, fun kd H9 q9 _ => by cases q9.1⟩
  obtain ⟨q1a, q1b⟩ := q1
  cases q1a
  replace q1b := q1b.symm
  subst q1b
  conv => whnf
  refine ⟨_, h.o, ?_⟩
  conv => whnf
  refine ⟨fun b13 => ?_, fun b13 => ?_⟩
  · conv => whnf
    refine ⟨rfl, ?_⟩
    conv => whnf
    refine ⟨_, h.o, _, _, _, _, j_M_goes hl Z h false false, by decide, cr_le rfl, cr_le rfl, cr_le rfl, fun v3 H3 q3 _ => ?_, fun kd H9 q9 _ => by cases q9.1⟩
    obtain ⟨q3a, h3, f3⟩ := q3
    cases q3a
    conv => whnf
    refine ⟨fun b31 => absurd rfl b31, fun b31 => ?_⟩
    conv => whnf
    exact ⟨cr_le rfl, cr_le rfl, rfl, h3, f3⟩
  · conv => whnf
    refine ⟨_, h.o, ?_⟩
    conv => whnf
    refine ⟨fun b20 => ?_, fun b20 => ?_⟩
    · conv => whnf
      refine ⟨rfl, ?_⟩
      conv => whnf
      refine ⟨_, h.o, _, _, _, _, j_M_goes hl Z h false false, by decide, cr_le rfl, cr_le rfl, cr_le rfl, fun v6 H6 q6 _ => ?_, fun kd H9 q9 _ => by cases q9.1⟩
      obtain ⟨q6a, h6, f6⟩ := q6
      cases q6a
      conv => whnf
      refine ⟨fun b31 => absurd rfl b31, fun b31 => ?_⟩
      conv => whnf
      exact ⟨cr_le rfl, cr_le rfl, rfl, h6, f6⟩
    · conv => whnf
      refine ⟨rfl, ?_⟩
      conv => whnf
      refine ⟨_, h.o, _, _, _, _, j_M_goes hl Z h false true, by decide, cr_le rfl, cr_le rfl, cr_le rfl, fun v8 H8 q8 _ => ?_, fun kd H9 q9 _ => by cases q9.1⟩
      obtain ⟨q8a, h8, f8⟩ := q8
      cases q8a
      conv => whnf
      refine ⟨fun b31 => absurd rfl b31, fun b31 => ?_⟩
      conv => whnf
      exact ⟨cr_le rfl, cr_le rfl, rfl, h8, f8⟩
set_option maxRecDepth 20000 in
theorem j_M_person_s (hl : l.flags = flags0) (Z : cr_Z0 s0 D ca e0) (h : mm_R s0 D ca H y ad G) {g : Nat} (hg : g < 10) (hs : ¬ (G 16 0 < 40 ∧ 0 < G 2 0)) (hp2 : G 16 0 < 2 ^ 31) : cr_c l s0 y_M_person cw_M_person 1 0 0 [.ref y, .int (nI g)] H (mm_Q s0 D ca H y ad (some (.int 0)) (mm_up G 0 0 2)) := by
  refine cr_enter (by decide +kernel) (Nat.le_of_ble_eq_true rfl) (fun hlo P9 E9 S9 M9 A9 B9 T9 C9 C hem hH => ?_)
  refine cr_vc [] 90 (s_M_person hl Z C hem) (fun K hK => ?_)
  conv => whnf
  refine ⟨rfl, ?_⟩
  conv => whnf
  refine ⟨_, _, _, _, j_M_isIn_t hl Z (mm_in_of (n := 10) hg (by decide)), by decide, cr_le rfl, cr_le rfl, cr_le rfl, fun v1 H1 q1 _ => ?_, fun kd H9 q9 _ => by cases q9.1⟩
  obtain ⟨q1a, q1b⟩ := q1
  cases q1a
  replace q1b := q1b.symm
  subst q1b
  conv => whnf
  refine ⟨_, h.o, ?_⟩
  conv => whnf
  refine ⟨fun b13 => ?_, fun b13 => ?_⟩
  · conv => whnf
    refine ⟨rfl, ?_⟩
    conv => whnf
    refine ⟨_, h.o, _, _, _, _, j_M_goes hl Z h true false, by decide, cr_le rfl, cr_le rfl, cr_le rfl, fun v3 H3 q3 _ => ?_, fun kd H9 q9 _ => by cases q9.1⟩
    obtain ⟨q3a, h3, f3⟩ := q3
    cases q3a
    conv => whnf
    refine ⟨fun b31 => absurd rfl b31, fun b31 => ?_⟩
    conv => whnf
    exact ⟨cr_le rfl, cr_le rfl, rfl, h3, f3⟩
  · conv => whnf
    refine ⟨_, h.o, ?_⟩
    conv => whnf
    refine ⟨fun b20 => ?_, fun b20 => False.elim (hs ⟨cr_ltof (a := 40) hp2 b13, cr_ltof (b := 0) (by decide) b20⟩)⟩
    conv => whnf
    refine ⟨rfl, ?_⟩
    conv => whnf
    refine ⟨_, h.o, _, _, _, _, j_M_goes hl Z h true false, by decide, cr_le rfl, cr_le rfl, cr_le rfl, fun v6 H6 q6 _ => ?_, fun kd H9 q9 _ => by cases q9.1⟩
    obtain ⟨q6a, h6, f6⟩ := q6
    cases q6a
    conv => whnf
    refine ⟨fun b31 => absurd rfl b31, fun b31 => ?_⟩
    conv => whnf
    exact ⟨cr_le rfl, cr_le rfl, rfl, h6, f6⟩
set_option maxRecDepth 20000 in
theorem j_M_card_ok (hl : l.flags = flags0) (Z : cr_Z0 s0 D ca e0) (h : mm_R s0 D ca H y ad G) {p m : Nat} (hp : p < G 16 0) (hp2 : G 16 0 < 2 ^ 31) (hm : m ≤ 1000000) (hc : G 19 0 < 60) (ht : G 28 0 < 9000) : cr_c l s0 y_M_card cw_M_card 1 0 0 [.ref y, .int (nI p), .int (nI m)] H (mm_Q s0 D ca H y ad (some (.int (nI (G 19 0)))) (mm_up (mm_tl (mm_up (mm_up (mm_up G 0 0 0) 20 (G 19 0) p) 21 (G 19 0) m) 0 (G 19 0) m) 19 0 (G 19 0 + 1))) := by
  refine cr_enter (by decide +kernel) (Nat.le_of_ble_eq_true rfl) (fun hlo P9 E9 S9 M9 A9 B9 T9 C9 C hem hH => ?_)
  refine cr_vc [] 90 (s_M_card hl Z C hem) (fun K hK => ?_)
  conv => whnf
  refine ⟨_, h.o, ?_⟩
  conv => whnf
  refine ⟨rfl, ?_⟩
  conv => whnf
  refine ⟨_, _, _, _, j_M_isIn_t hl Z (mm_in_of hp hp2), by decide, cr_le rfl, cr_le rfl, cr_le rfl, fun v1 H1 q1 _ => ?_, fun kd H9 q9 _ => by cases q9.1⟩
  obtain ⟨q1a, q1b⟩ := q1
  cases q1a
  replace q1b := q1b.symm
  subst q1b
  conv => whnf
  refine ⟨fun b9 => absurd b9 (by decide), fun b9 => ?_⟩
  conv => whnf
  refine ⟨rfl, ?_⟩
  conv => whnf
  refine ⟨_, _, _, _, j_M_isMinute_t hl Z (mm_min_of hm), by decide, cr_le rfl, cr_le rfl, cr_le rfl, fun v3 H3 q3 _ => ?_, fun kd H9 q9 _ => by cases q9.1⟩
  obtain ⟨q3a, q3b⟩ := q3
  cases q3a
  replace q3b := q3b.symm
  subst q3b
  conv => whnf
  refine ⟨fun b16 => absurd b16 (by decide), fun b16 => ?_⟩
  conv => whnf
  refine ⟨_, h.o, ?_⟩
  conv => whnf
  refine ⟨fun b30 => absurd b30 (cr_nle (a := 60) hc (by decide)), fun b30 => ?_⟩
  conv => whnf
  refine ⟨rfl, ?_⟩
  conv => whnf
  refine ⟨_, h.o, _, _, _, _, j_M_goes hl Z h true true, by decide, cr_le rfl, cr_le rfl, cr_le rfl, fun v6 H6 q6 _ => ?_, fun kd H9 q9 _ => by cases q9.1⟩
  obtain ⟨q6a, h6, f6⟩ := q6
  cases q6a
  conv => whnf
  refine ⟨fun b41 => ?_, fun b41 => absurd b41 (by decide)⟩
  conv => whnf
  refine ⟨_, h6.o, ?_⟩
  conv => whnf
  refine ⟨_, h6.o, ?_⟩
  conv => whnf
  refine ⟨_, _, _, h6.a 20 rfl, h6.lo 20 rfl, rfl, hc, cr_le rfl, fun H8 u8 => ?_⟩
  have h8 := h6.sto (k := 20) rfl u8
  conv => whnf
  refine ⟨_, h8.o, ?_⟩
  conv => whnf
  refine ⟨_, h8.o, ?_⟩
  conv => whnf
  refine ⟨_, _, _, h8.a 21 rfl, h8.lo 21 rfl, rfl, hc, cr_le rfl, fun H9 u9 => ?_⟩
  have h9 := h8.sto (k := 21) rfl u9
  conv => whnf
  refine ⟨_, h9.o, ?_⟩
  conv => whnf
  refine ⟨rfl, ?_⟩
  conv => whnf
  refine ⟨_, h9.o, _, _, _, _, j_M_tell (kd := 0) hl Z h9 ht, by decide, cr_le rfl, cr_le rfl, cr_le rfl, fun v10 H10 q10 _ => ?_, fun kd H9 q9 _ => by cases q9.1⟩
  obtain ⟨q10a, h10, f10⟩ := q10
  cases q10a
  conv => whnf
  refine ⟨rfl, ?_⟩
  conv => whnf
  refine ⟨_, h10.o, ?_⟩
  conv => whnf
  refine ⟨_, h10.o, h10.1, ⟨rfl, rfl⟩, ?_⟩
  conv => whnf
  intro H11 u11
  have h11 := h10.put (k := 19) (v := G 19 0 + 1) rfl (by rw [nI_1] at u11; exact u11)
  conv => whnf
  refine ⟨_, h11.o, ?_⟩
  conv => whnf
  exact ⟨cr_le rfl, cr_le rfl, congrArg (fun x => Sum.inl (some (Value.int x))) (cr_p1 (G 19 0)), h11, ((((f6.tr (mm_Fr.arr (k := 20) rfl u8)).tr (mm_Fr.arr (k := 21) rfl u9)).tr f10).tr (mm_Fr.ob u11))⟩
set_option maxRecDepth 20000 in
theorem j_M_card_a (hl : l.flags = flags0) (Z : cr_Z0 s0 D ca e0) (h : mm_R s0 D ca H y ad G) {p m : Int32} (hno : ¬ (mm_in p (nI (G 16 0)) = true ∧ mm_min m = true)) : cr_c l s0 y_M_card cw_M_card 1 0 0 [.ref y, .int p, .int m] H (mm_Q s0 D ca H y ad (some (.int 0)) (mm_up G 0 0 1)) := by
  refine cr_enter (by decide +kernel) (Nat.le_of_ble_eq_true rfl) (fun hlo P9 E9 S9 M9 A9 B9 T9 C9 C hem hH => ?_)
  refine cr_vc [] 90 (s_M_card hl Z C hem) (fun K hK => ?_)
  conv => whnf
  refine ⟨_, h.o, ?_⟩
  conv => whnf
  refine ⟨rfl, ?_⟩
  conv => whnf
  refine ⟨_, _, _, _, j_M_isIn hl Z, by decide, cr_le rfl, cr_le rfl, cr_le rfl, fun v1 H1 q1 _ => ?_, fun kd H9 q9 _ => by cases q9.1⟩
  obtain ⟨q1a, q1b⟩ := q1
  cases q1a
  replace q1b := q1b.symm
  subst q1b
  conv => whnf
  refine ⟨fun b9 => ?_, fun b9 => ?_⟩
  · conv => whnf
    refine ⟨_, h.o, ?_⟩
    conv => whnf
    refine ⟨fun b30 => ?_, fun b30 => ?_⟩
    · conv => whnf
      refine ⟨rfl, ?_⟩
      conv => whnf
      refine ⟨_, h.o, _, _, _, _, j_M_goes hl Z h false false, by decide, cr_le rfl, cr_le rfl, cr_le rfl, fun v4 H4 q4 _ => ?_, fun kd H9 q9 _ => by cases q9.1⟩
      obtain ⟨q4a, h4, f4⟩ := q4
      cases q4a
      conv => whnf
      refine ⟨fun b41 => absurd rfl b41, fun b41 => ?_⟩
      conv => whnf
      exact ⟨cr_le rfl, cr_le rfl, rfl, h4, f4⟩
    · conv => whnf
      refine ⟨rfl, ?_⟩
      conv => whnf
      refine ⟨_, h.o, _, _, _, _, j_M_goes hl Z h false true, by decide, cr_le rfl, cr_le rfl, cr_le rfl, fun v6 H6 q6 _ => ?_, fun kd H9 q9 _ => by cases q9.1⟩
      obtain ⟨q6a, h6, f6⟩ := q6
      cases q6a
      conv => whnf
      refine ⟨fun b41 => absurd rfl b41, fun b41 => ?_⟩
      conv => whnf
      exact ⟨cr_le rfl, cr_le rfl, rfl, h6, f6⟩
  · conv => whnf
    refine ⟨rfl, ?_⟩
    conv => whnf
    refine ⟨_, _, _, _, j_M_isMinute hl Z, by decide, cr_le rfl, cr_le rfl, cr_le rfl, fun v8 H8 q8 _ => ?_, fun kd H9 q9 _ => by cases q9.1⟩
    obtain ⟨q8a, q8b⟩ := q8
    cases q8a
    replace q8b := q8b.symm
    subst q8b
    conv => whnf
    refine ⟨fun b16 => ?_, fun b16 => False.elim (hno ⟨cr_bt b9, cr_bt b16⟩)⟩
    conv => whnf
    refine ⟨_, h.o, ?_⟩
    conv => whnf
    refine ⟨fun b30 => ?_, fun b30 => ?_⟩
    · conv => whnf
      refine ⟨rfl, ?_⟩
      conv => whnf
      refine ⟨_, h.o, _, _, _, _, j_M_goes hl Z h false false, by decide, cr_le rfl, cr_le rfl, cr_le rfl, fun v11 H11 q11 _ => ?_, fun kd H9 q9 _ => by cases q9.1⟩
      obtain ⟨q11a, h11, f11⟩ := q11
      cases q11a
      conv => whnf
      refine ⟨fun b41 => absurd rfl b41, fun b41 => ?_⟩
      conv => whnf
      exact ⟨cr_le rfl, cr_le rfl, rfl, h11, f11⟩
    · conv => whnf
      refine ⟨rfl, ?_⟩
      conv => whnf
      refine ⟨_, h.o, _, _, _, _, j_M_goes hl Z h false true, by decide, cr_le rfl, cr_le rfl, cr_le rfl, fun v13 H13 q13 _ => ?_, fun kd H9 q9 _ => by cases q9.1⟩
      obtain ⟨q13a, h13, f13⟩ := q13
      cases q13a
      conv => whnf
      refine ⟨fun b41 => absurd rfl b41, fun b41 => ?_⟩
      conv => whnf
      exact ⟨cr_le rfl, cr_le rfl, rfl, h13, f13⟩
set_option maxRecDepth 20000 in
theorem j_M_card_s (hl : l.flags = flags0) (Z : cr_Z0 s0 D ca e0) (h : mm_R s0 D ca H y ad G) {p m : Nat} (hp : p < G 16 0) (hp2 : G 16 0 < 2 ^ 31) (hm : m ≤ 1000000) (hc : 60 ≤ G 19 0) (hc2 : G 19 0 < 2 ^ 31) : cr_c l s0 y_M_card cw_M_card 1 0 0 [.ref y, .int (nI p), .int (nI m)] H (mm_Q s0 D ca H y ad (some (.int 0)) (mm_up G 0 0 2)) := by
  refine cr_enter (by decide +kernel) (Nat.le_of_ble_eq_true rfl) (fun hlo P9 E9 S9 M9 A9 B9 T9 C9 C hem hH => ?_)
  refine cr_vc [] 90 (s_M_card hl Z C hem) (fun K hK => ?_)
  conv => whnf
  refine ⟨_, h.o, ?_⟩
  conv => whnf
  refine ⟨rfl, ?_⟩
  conv => whnf
  refine ⟨_, _, _, _, j_M_isIn_t hl Z (mm_in_of hp hp2), by decide, cr_le rfl, cr_le rfl, cr_le rfl, fun v1 H1 q1 _ => ?_, fun kd H9 q9 _ => by cases q9.1⟩
  obtain ⟨q1a, q1b⟩ := q1
  cases q1a
  replace q1b := q1b.symm
  subst q1b
  conv => whnf
  refine ⟨fun b9 => absurd b9 (by decide), fun b9 => ?_⟩
  conv => whnf
  refine ⟨rfl, ?_⟩
  conv => whnf
  refine ⟨_, _, _, _, j_M_isMinute_t hl Z (mm_min_of hm), by decide, cr_le rfl, cr_le rfl, cr_le rfl, fun v3 H3 q3 _ => ?_, fun kd H9 q9 _ => by cases q9.1⟩
  obtain ⟨q3a, q3b⟩ := q3
  cases q3a
  replace q3b := q3b.symm
  subst q3b
  conv => whnf
  refine ⟨fun b16 => absurd b16 (by decide), fun b16 => ?_⟩
  conv => whnf
  refine ⟨_, h.o, ?_⟩
  conv => whnf
  refine ⟨fun b30 => ?_, fun b30 => absurd (nI_le (a := 60) hc hc2) b30⟩
  conv => whnf
  refine ⟨rfl, ?_⟩
  conv => whnf
  refine ⟨_, h.o, _, _, _, _, j_M_goes hl Z h true false, by decide, cr_le rfl, cr_le rfl, cr_le rfl, fun v6 H6 q6 _ => ?_, fun kd H9 q9 _ => by cases q9.1⟩
  obtain ⟨q6a, h6, f6⟩ := q6
  cases q6a
  conv => whnf
  refine ⟨fun b41 => absurd rfl b41, fun b41 => ?_⟩
  conv => whnf
  exact ⟨cr_le rfl, cr_le rfl, rfl, h6, f6⟩
set_option maxRecDepth 20000 in
theorem j_M_right_ok (hl : l.flags = flags0) (Z : cr_Z0 s0 D ca e0) (h : mm_R s0 D ca H y ad G) {g z f o s9 : Nat} (hg : g < 10) (hz : z < 10) (hf : f < 1440) (ho : o < 1440) (hs : s9 ≤ 1000000) (hc : G 22 0 < 16) (ht : G 28 0 < 9000) : cr_c l s0 y_M_right cw_M_right 1 0 0 [.ref y, .int (nI g), .int (nI z), .int (nI f), .int (nI o), .int (nI s9)] H (mm_Q s0 D ca H y ad (some (.int (nI (G 22 0)))) (mm_up (mm_tl (mm_up (mm_up (mm_up (mm_up (mm_up (mm_up G 0 0 0) 23 (G 22 0) g) 24 (G 22 0) z) 25 (G 22 0) f) 26 (G 22 0) o) 27 (G 22 0) s9) 1 (G 22 0) s9) 22 0 (G 22 0 + 1))) := by
  refine cr_enter (by decide +kernel) (Nat.le_of_ble_eq_true rfl) (fun hlo P9 E9 S9 M9 A9 B9 T9 C9 C hem hH => ?_)
  refine cr_vc [] 90 (s_M_right hl Z C hem) (fun K hK => ?_)
  conv => whnf
  refine ⟨rfl, ?_⟩
  conv => whnf
  refine ⟨_, _, _, _, j_M_isIn_t hl Z (mm_in_of (n := 10) hg (by decide)), by decide, cr_le rfl, cr_le rfl, cr_le rfl, fun v1 H1 q1 _ => ?_, fun kd H9 q9 _ => by cases q9.1⟩
  obtain ⟨q1a, q1b⟩ := q1
  cases q1a
  replace q1b := q1b.symm
  subst q1b
  conv => whnf
  refine ⟨fun b6 => absurd b6 (by decide), fun b6 => ?_⟩
  conv => whnf
  refine ⟨rfl, ?_⟩
  conv => whnf
  refine ⟨_, _, _, _, j_M_isIn_t hl Z (mm_in_of (n := 10) hz (by decide)), by decide, cr_le rfl, cr_le rfl, cr_le rfl, fun v3 H3 q3 _ => ?_, fun kd H9 q9 _ => by cases q9.1⟩
  obtain ⟨q3a, q3b⟩ := q3
  cases q3a
  replace q3b := q3b.symm
  subst q3b
  conv => whnf
  refine ⟨fun b15 => absurd b15 (by decide), fun b15 => ?_⟩
  conv => whnf
  refine ⟨rfl, ?_⟩
  conv => whnf
  refine ⟨_, _, _, _, j_M_isIn_t hl Z (mm_in_of (n := 1440) hf (by decide)), by decide, cr_le rfl, cr_le rfl, cr_le rfl, fun v5 H5 q5 _ => ?_, fun kd H9 q9 _ => by cases q9.1⟩
  obtain ⟨q5a, q5b⟩ := q5
  cases q5a
  replace q5b := q5b.symm
  subst q5b
  conv => whnf
  refine ⟨fun b25 => absurd b25 (by decide), fun b25 => ?_⟩
  conv => whnf
  refine ⟨rfl, ?_⟩
  conv => whnf
  refine ⟨_, _, _, _, j_M_isIn_t hl Z (mm_in_of (n := 1440) ho (by decide)), by decide, cr_le rfl, cr_le rfl, cr_le rfl, fun v7 H7 q7 _ => ?_, fun kd H9 q9 _ => by cases q9.1⟩
  obtain ⟨q7a, q7b⟩ := q7
  cases q7a
  replace q7b := q7b.symm
  subst q7b
  conv => whnf
  refine ⟨fun b36 => absurd b36 (by decide), fun b36 => ?_⟩
  conv => whnf
  refine ⟨rfl, ?_⟩
  conv => whnf
  refine ⟨_, _, _, _, j_M_isMinute_t hl Z (mm_min_of hs), by decide, cr_le rfl, cr_le rfl, cr_le rfl, fun v9 H9 q9 _ => ?_, fun kd H9 q9 _ => by cases q9.1⟩
  obtain ⟨q9a, q9b⟩ := q9
  cases q9a
  replace q9b := q9b.symm
  subst q9b
  conv => whnf
  refine ⟨fun b44 => absurd b44 (by decide), fun b44 => ?_⟩
  conv => whnf
  refine ⟨cr_le rfl, ?_⟩
  conv => whnf
  refine ⟨_, h.o, ?_⟩
  conv => whnf
  refine ⟨fun b63 => absurd b63 (cr_nle (a := 16) hc (by decide)), fun b63 => ?_⟩
  conv => whnf
  refine ⟨rfl, ?_⟩
  conv => whnf
  refine ⟨_, h.o, _, _, _, _, j_M_goes hl Z h true true, by decide, cr_le rfl, cr_le rfl, cr_le rfl, fun v12 H12 q12 _ => ?_, fun kd H9 q9 _ => by cases q9.1⟩
  obtain ⟨q12a, h12, f12⟩ := q12
  cases q12a
  conv => whnf
  refine ⟨fun b74 => ?_, fun b74 => absurd b74 (by decide)⟩
  conv => whnf
  refine ⟨_, h12.o, ?_⟩
  conv => whnf
  refine ⟨_, h12.o, ?_⟩
  conv => whnf
  refine ⟨_, _, _, h12.a 23 rfl, h12.lo 23 rfl, rfl, hc, cr_le rfl, fun H14 u14 => ?_⟩
  have h14 := h12.sto (k := 23) rfl u14
  conv => whnf
  refine ⟨_, h14.o, ?_⟩
  conv => whnf
  refine ⟨_, h14.o, ?_⟩
  conv => whnf
  refine ⟨_, _, _, h14.a 24 rfl, h14.lo 24 rfl, rfl, hc, cr_le rfl, fun H15 u15 => ?_⟩
  have h15 := h14.sto (k := 24) rfl u15
  conv => whnf
  refine ⟨_, h15.o, ?_⟩
  conv => whnf
  refine ⟨_, h15.o, ?_⟩
  conv => whnf
  refine ⟨_, _, _, h15.a 25 rfl, h15.lo 25 rfl, rfl, hc, cr_le rfl, fun H16 u16 => ?_⟩
  have h16 := h15.sto (k := 25) rfl u16
  conv => whnf
  refine ⟨_, h16.o, ?_⟩
  conv => whnf
  refine ⟨_, h16.o, ?_⟩
  conv => whnf
  refine ⟨_, _, _, h16.a 26 rfl, h16.lo 26 rfl, rfl, hc, cr_le rfl, fun H17 u17 => ?_⟩
  have h17 := h16.sto (k := 26) rfl u17
  conv => whnf
  refine ⟨_, h17.o, ?_⟩
  conv => whnf
  refine ⟨_, h17.o, ?_⟩
  conv => whnf
  refine ⟨_, _, _, h17.a 27 rfl, h17.lo 27 rfl, rfl, hc, cr_le rfl, fun H18 u18 => ?_⟩
  have h18 := h17.sto (k := 27) rfl u18
  conv => whnf
  refine ⟨_, h18.o, ?_⟩
  conv => whnf
  refine ⟨rfl, ?_⟩
  conv => whnf
  refine ⟨_, h18.o, _, _, _, _, j_M_tell (kd := 1) hl Z h18 ht, by decide, cr_le rfl, cr_le rfl, cr_le rfl, fun v19 H19 q19 _ => ?_, fun kd H9 q9 _ => by cases q9.1⟩
  obtain ⟨q19a, h19, f19⟩ := q19
  cases q19a
  conv => whnf
  refine ⟨rfl, ?_⟩
  conv => whnf
  refine ⟨_, h19.o, ?_⟩
  conv => whnf
  refine ⟨_, h19.o, h19.1, ⟨rfl, rfl⟩, ?_⟩
  conv => whnf
  intro H20 u20
  have h20 := h19.put (k := 22) (v := G 22 0 + 1) rfl (by rw [nI_1] at u20; exact u20)
  conv => whnf
  refine ⟨_, h20.o, ?_⟩
  conv => whnf
  exact ⟨cr_le rfl, cr_le rfl, congrArg (fun x => Sum.inl (some (Value.int x))) (cr_p1 (G 22 0)), h20, (((((((f12.tr (mm_Fr.arr (k := 23) rfl u14)).tr (mm_Fr.arr (k := 24) rfl u15)).tr (mm_Fr.arr (k := 25) rfl u16)).tr (mm_Fr.arr (k := 26) rfl u17)).tr (mm_Fr.arr (k := 27) rfl u18)).tr f19).tr (mm_Fr.ob u20))⟩
set_option maxRecDepth 20000 in
theorem j_M_right_a (hl : l.flags = flags0) (Z : cr_Z0 s0 D ca e0) (h : mm_R s0 D ca H y ad G) {g z f o s9 : Int32} (hno : ¬ (mm_in g 10 = true ∧ mm_in z 10 = true ∧ mm_in f 1440 = true ∧ mm_in o 1440 = true ∧ mm_min s9 = true)) : cr_c l s0 y_M_right cw_M_right 1 0 0 [.ref y, .int g, .int z, .int f, .int o, .int s9] H (mm_Q s0 D ca H y ad (some (.int 0)) (mm_up G 0 0 1)) := by
  refine cr_enter (by decide +kernel) (Nat.le_of_ble_eq_true rfl) (fun hlo P9 E9 S9 M9 A9 B9 T9 C9 C hem hH => ?_)
  refine cr_vc [] 90 (s_M_right hl Z C hem) (fun K hK => ?_)
  conv => whnf
  refine ⟨rfl, ?_⟩
  conv => whnf
  refine ⟨_, _, _, _, j_M_isIn hl Z, by decide, cr_le rfl, cr_le rfl, cr_le rfl, fun v1 H1 q1 _ => ?_, fun kd H9 q9 _ => by cases q9.1⟩
  obtain ⟨q1a, q1b⟩ := q1
  cases q1a
  replace q1b := q1b.symm
  subst q1b
  conv => whnf
  refine ⟨fun b6 => ?_, fun b6 => ?_⟩
  · conv => whnf
    refine ⟨cr_le rfl, ?_⟩
    conv => whnf
    refine ⟨_, h.o, ?_⟩
    conv => whnf
    refine ⟨fun b63 => ?_, fun b63 => ?_⟩
    · conv => whnf
      refine ⟨rfl, ?_⟩
      conv => whnf
      refine ⟨_, h.o, _, _, _, _, j_M_goes hl Z h false false, by decide, cr_le rfl, cr_le rfl, cr_le rfl, fun v4 H4 q4 _ => ?_, fun kd H9 q9 _ => by cases q9.1⟩
      obtain ⟨q4a, h4, f4⟩ := q4
      cases q4a
      conv => whnf
      refine ⟨fun b74 => absurd rfl b74, fun b74 => ?_⟩
      conv => whnf
      exact ⟨cr_le rfl, cr_le rfl, rfl, h4, f4⟩
    · conv => whnf
      refine ⟨rfl, ?_⟩
      conv => whnf
      refine ⟨_, h.o, _, _, _, _, j_M_goes hl Z h false true, by decide, cr_le rfl, cr_le rfl, cr_le rfl, fun v6 H6 q6 _ => ?_, fun kd H9 q9 _ => by cases q9.1⟩
      obtain ⟨q6a, h6, f6⟩ := q6
      cases q6a
      conv => whnf
      refine ⟨fun b74 => absurd rfl b74, fun b74 => ?_⟩
      conv => whnf
      exact ⟨cr_le rfl, cr_le rfl, rfl, h6, f6⟩
  · conv => whnf
    refine ⟨rfl, ?_⟩
    conv => whnf
    refine ⟨_, _, _, _, j_M_isIn hl Z, by decide, cr_le rfl, cr_le rfl, cr_le rfl, fun v8 H8 q8 _ => ?_, fun kd H9 q9 _ => by cases q9.1⟩
    obtain ⟨q8a, q8b⟩ := q8
    cases q8a
    replace q8b := q8b.symm
    subst q8b
    conv => whnf
    refine ⟨fun b15 => ?_, fun b15 => ?_⟩
    · conv => whnf
      refine ⟨cr_le rfl, ?_⟩
      conv => whnf
      refine ⟨_, h.o, ?_⟩
      conv => whnf
      refine ⟨fun b63 => ?_, fun b63 => ?_⟩
      · conv => whnf
        refine ⟨rfl, ?_⟩
        conv => whnf
        refine ⟨_, h.o, _, _, _, _, j_M_goes hl Z h false false, by decide, cr_le rfl, cr_le rfl, cr_le rfl, fun v11 H11 q11 _ => ?_, fun kd H9 q9 _ => by cases q9.1⟩
        obtain ⟨q11a, h11, f11⟩ := q11
        cases q11a
        conv => whnf
        refine ⟨fun b74 => absurd rfl b74, fun b74 => ?_⟩
        conv => whnf
        exact ⟨cr_le rfl, cr_le rfl, rfl, h11, f11⟩
      · conv => whnf
        refine ⟨rfl, ?_⟩
        conv => whnf
        refine ⟨_, h.o, _, _, _, _, j_M_goes hl Z h false true, by decide, cr_le rfl, cr_le rfl, cr_le rfl, fun v13 H13 q13 _ => ?_, fun kd H9 q9 _ => by cases q9.1⟩
        obtain ⟨q13a, h13, f13⟩ := q13
        cases q13a
        conv => whnf
        refine ⟨fun b74 => absurd rfl b74, fun b74 => ?_⟩
        conv => whnf
        exact ⟨cr_le rfl, cr_le rfl, rfl, h13, f13⟩
    · conv => whnf
      refine ⟨rfl, ?_⟩
      conv => whnf
      refine ⟨_, _, _, _, j_M_isIn hl Z, by decide, cr_le rfl, cr_le rfl, cr_le rfl, fun v15 H15 q15 _ => ?_, fun kd H9 q9 _ => by cases q9.1⟩
      obtain ⟨q15a, q15b⟩ := q15
      cases q15a
      replace q15b := q15b.symm
      subst q15b
      conv => whnf
      refine ⟨fun b25 => ?_, fun b25 => ?_⟩
      · conv => whnf
        refine ⟨cr_le rfl, ?_⟩
        conv => whnf
        refine ⟨_, h.o, ?_⟩
        conv => whnf
        refine ⟨fun b63 => ?_, fun b63 => ?_⟩
        · conv => whnf
          refine ⟨rfl, ?_⟩
          conv => whnf
          refine ⟨_, h.o, _, _, _, _, j_M_goes hl Z h false false, by decide, cr_le rfl, cr_le rfl, cr_le rfl, fun v18 H18 q18 _ => ?_, fun kd H9 q9 _ => by cases q9.1⟩
          obtain ⟨q18a, h18, f18⟩ := q18
          cases q18a
          conv => whnf
          refine ⟨fun b74 => absurd rfl b74, fun b74 => ?_⟩
          conv => whnf
          exact ⟨cr_le rfl, cr_le rfl, rfl, h18, f18⟩
        · conv => whnf
          refine ⟨rfl, ?_⟩
          conv => whnf
          refine ⟨_, h.o, _, _, _, _, j_M_goes hl Z h false true, by decide, cr_le rfl, cr_le rfl, cr_le rfl, fun v20 H20 q20 _ => ?_, fun kd H9 q9 _ => by cases q9.1⟩
          obtain ⟨q20a, h20, f20⟩ := q20
          cases q20a
          conv => whnf
          refine ⟨fun b74 => absurd rfl b74, fun b74 => ?_⟩
          conv => whnf
          exact ⟨cr_le rfl, cr_le rfl, rfl, h20, f20⟩
      · conv => whnf
        refine ⟨rfl, ?_⟩
        conv => whnf
        refine ⟨_, _, _, _, j_M_isIn hl Z, by decide, cr_le rfl, cr_le rfl, cr_le rfl, fun v22 H22 q22 _ => ?_, fun kd H9 q9 _ => by cases q9.1⟩
        obtain ⟨q22a, q22b⟩ := q22
        cases q22a
        replace q22b := q22b.symm
        subst q22b
        conv => whnf
        refine ⟨fun b36 => ?_, fun b36 => ?_⟩
        · conv => whnf
          refine ⟨cr_le rfl, ?_⟩
          conv => whnf
          refine ⟨_, h.o, ?_⟩
          conv => whnf
          refine ⟨fun b63 => ?_, fun b63 => ?_⟩
          · conv => whnf
            refine ⟨rfl, ?_⟩
            conv => whnf
            refine ⟨_, h.o, _, _, _, _, j_M_goes hl Z h false false, by decide, cr_le rfl, cr_le rfl, cr_le rfl, fun v25 H25 q25 _ => ?_, fun kd H9 q9 _ => by cases q9.1⟩
            obtain ⟨q25a, h25, f25⟩ := q25
            cases q25a
            conv => whnf
            refine ⟨fun b74 => absurd rfl b74, fun b74 => ?_⟩
            conv => whnf
            exact ⟨cr_le rfl, cr_le rfl, rfl, h25, f25⟩
          · conv => whnf
            refine ⟨rfl, ?_⟩
            conv => whnf
            refine ⟨_, h.o, _, _, _, _, j_M_goes hl Z h false true, by decide, cr_le rfl, cr_le rfl, cr_le rfl, fun v27 H27 q27 _ => ?_, fun kd H9 q9 _ => by cases q9.1⟩
            obtain ⟨q27a, h27, f27⟩ := q27
            cases q27a
            conv => whnf
            refine ⟨fun b74 => absurd rfl b74, fun b74 => ?_⟩
            conv => whnf
            exact ⟨cr_le rfl, cr_le rfl, rfl, h27, f27⟩
        · conv => whnf
          refine ⟨rfl, ?_⟩
          conv => whnf
          refine ⟨_, _, _, _, j_M_isMinute hl Z, by decide, cr_le rfl, cr_le rfl, cr_le rfl, fun v29 H29 q29 _ => ?_, fun kd H9 q9 _ => by cases q9.1⟩
          obtain ⟨q29a, q29b⟩ := q29
          cases q29a
          replace q29b := q29b.symm
          subst q29b
          conv => whnf
          refine ⟨fun b44 => ?_, fun b44 => False.elim (hno ⟨cr_bt b6, cr_bt b15, cr_bt b25, cr_bt b36, cr_bt b44⟩)⟩
          conv => whnf
          refine ⟨cr_le rfl, ?_⟩
          conv => whnf
          refine ⟨_, h.o, ?_⟩
          conv => whnf
          refine ⟨fun b63 => ?_, fun b63 => ?_⟩
          · conv => whnf
            refine ⟨rfl, ?_⟩
            conv => whnf
            refine ⟨_, h.o, _, _, _, _, j_M_goes hl Z h false false, by decide, cr_le rfl, cr_le rfl, cr_le rfl, fun v32 H32 q32 _ => ?_, fun kd H9 q9 _ => by cases q9.1⟩
            obtain ⟨q32a, h32, f32⟩ := q32
            cases q32a
            conv => whnf
            refine ⟨fun b74 => absurd rfl b74, fun b74 => ?_⟩
            conv => whnf
            exact ⟨cr_le rfl, cr_le rfl, rfl, h32, f32⟩
          · conv => whnf
            refine ⟨rfl, ?_⟩
            conv => whnf
            refine ⟨_, h.o, _, _, _, _, j_M_goes hl Z h false true, by decide, cr_le rfl, cr_le rfl, cr_le rfl, fun v34 H34 q34 _ => ?_, fun kd H9 q9 _ => by cases q9.1⟩
            obtain ⟨q34a, h34, f34⟩ := q34
            cases q34a
            conv => whnf
            refine ⟨fun b74 => absurd rfl b74, fun b74 => ?_⟩
            conv => whnf
            exact ⟨cr_le rfl, cr_le rfl, rfl, h34, f34⟩
set_option maxRecDepth 20000 in
theorem j_M_right_s (hl : l.flags = flags0) (Z : cr_Z0 s0 D ca e0) (h : mm_R s0 D ca H y ad G) {g z f o s9 : Nat} (hg : g < 10) (hz : z < 10) (hf : f < 1440) (ho : o < 1440) (hs : s9 ≤ 1000000) (hc : 16 ≤ G 22 0) (hc2 : G 22 0 < 2 ^ 31) : cr_c l s0 y_M_right cw_M_right 1 0 0 [.ref y, .int (nI g), .int (nI z), .int (nI f), .int (nI o), .int (nI s9)] H (mm_Q s0 D ca H y ad (some (.int 0)) (mm_up G 0 0 2)) := by
  refine cr_enter (by decide +kernel) (Nat.le_of_ble_eq_true rfl) (fun hlo P9 E9 S9 M9 A9 B9 T9 C9 C hem hH => ?_)
  refine cr_vc [] 90 (s_M_right hl Z C hem) (fun K hK => ?_)
  conv => whnf
  refine ⟨rfl, ?_⟩
  conv => whnf
  refine ⟨_, _, _, _, j_M_isIn_t hl Z (mm_in_of (n := 10) hg (by decide)), by decide, cr_le rfl, cr_le rfl, cr_le rfl, fun v1 H1 q1 _ => ?_, fun kd H9 q9 _ => by cases q9.1⟩
  obtain ⟨q1a, q1b⟩ := q1
  cases q1a
  replace q1b := q1b.symm
  subst q1b
  conv => whnf
  refine ⟨fun b6 => absurd b6 (by decide), fun b6 => ?_⟩
  conv => whnf
  refine ⟨rfl, ?_⟩
  conv => whnf
  refine ⟨_, _, _, _, j_M_isIn_t hl Z (mm_in_of (n := 10) hz (by decide)), by decide, cr_le rfl, cr_le rfl, cr_le rfl, fun v3 H3 q3 _ => ?_, fun kd H9 q9 _ => by cases q9.1⟩
  obtain ⟨q3a, q3b⟩ := q3
  cases q3a
  replace q3b := q3b.symm
  subst q3b
  conv => whnf
  refine ⟨fun b15 => absurd b15 (by decide), fun b15 => ?_⟩
  conv => whnf
  refine ⟨rfl, ?_⟩
  conv => whnf
  refine ⟨_, _, _, _, j_M_isIn_t hl Z (mm_in_of (n := 1440) hf (by decide)), by decide, cr_le rfl, cr_le rfl, cr_le rfl, fun v5 H5 q5 _ => ?_, fun kd H9 q9 _ => by cases q9.1⟩
  obtain ⟨q5a, q5b⟩ := q5
  cases q5a
  replace q5b := q5b.symm
  subst q5b
  conv => whnf
  refine ⟨fun b25 => absurd b25 (by decide), fun b25 => ?_⟩
  conv => whnf
  refine ⟨rfl, ?_⟩
  conv => whnf
  refine ⟨_, _, _, _, j_M_isIn_t hl Z (mm_in_of (n := 1440) ho (by decide)), by decide, cr_le rfl, cr_le rfl, cr_le rfl, fun v7 H7 q7 _ => ?_, fun kd H9 q9 _ => by cases q9.1⟩
  obtain ⟨q7a, q7b⟩ := q7
  cases q7a
  replace q7b := q7b.symm
  subst q7b
  conv => whnf
  refine ⟨fun b36 => absurd b36 (by decide), fun b36 => ?_⟩
  conv => whnf
  refine ⟨rfl, ?_⟩
  conv => whnf
  refine ⟨_, _, _, _, j_M_isMinute_t hl Z (mm_min_of hs), by decide, cr_le rfl, cr_le rfl, cr_le rfl, fun v9 H9 q9 _ => ?_, fun kd H9 q9 _ => by cases q9.1⟩
  obtain ⟨q9a, q9b⟩ := q9
  cases q9a
  replace q9b := q9b.symm
  subst q9b
  conv => whnf
  refine ⟨fun b44 => absurd b44 (by decide), fun b44 => ?_⟩
  conv => whnf
  refine ⟨cr_le rfl, ?_⟩
  conv => whnf
  refine ⟨_, h.o, ?_⟩
  conv => whnf
  refine ⟨fun b63 => ?_, fun b63 => absurd (nI_le (a := 16) hc hc2) b63⟩
  conv => whnf
  refine ⟨rfl, ?_⟩
  conv => whnf
  refine ⟨_, h.o, _, _, _, _, j_M_goes hl Z h true false, by decide, cr_le rfl, cr_le rfl, cr_le rfl, fun v12 H12 q12 _ => ?_, fun kd H9 q9 _ => by cases q9.1⟩
  obtain ⟨q12a, h12, f12⟩ := q12
  cases q12a
  conv => whnf
  refine ⟨fun b74 => absurd rfl b74, fun b74 => ?_⟩
  conv => whnf
  exact ⟨cr_le rfl, cr_le rfl, rfl, h12, f12⟩
/-- the last telling of a kind of a thing among the first t; -1: none -/
def mm_lk (G : mm_G) (kd w : Nat) : Nat → Int32
  | 0 => -1
  | t + 1 => if G 29 t = kd ∧ G 30 t = w then nI (G 31 t) else mm_lk G kd w t
def mm_to (G : mm_G) (kd w b : Nat) : Int32 := mm_lk G kd w (if G 28 0 ≤ b then G 28 0 else b)
theorem mm_lk_eq {G G' : mm_G} (kd w : Nat) : ∀ t : Nat, (∀ i, i < t → G' 29 i = G 29 i ∧ G' 30 i = G 30 i ∧ G' 31 i = G 31 i) → mm_lk G' kd w t = mm_lk G kd w t
  | 0, _ => rfl
  | t + 1, h => by
    unfold mm_lk
    rw [(h t (by omega)).1, (h t (by omega)).2.1, (h t (by omega)).2.2, mm_lk_eq kd w t (fun i hi => h i (by omega))]
theorem mm_to_c (G : mm_G) (c kd w b : Nat) : mm_to (mm_up G 0 0 c) kd w b = mm_to G kd w b := by
  unfold mm_to
  rw [mm_up_k G 0 c 0 (show 28 ≠ 0 by decide)]
  exact mm_lk_eq kd w _ (fun i _ => ⟨mm_up_k G _ _ _ (by decide), mm_up_k G _ _ _ (by decide), mm_up_k G _ _ _ (by decide)⟩)
theorem mm_01 {o : Nat} (h : o < 2) : nI o = 0 ∨ nI o = 1 := by
  rcases (show o = 0 ∨ o = 1 by omega) with rfl | rfl
  · exact Or.inl rfl
  · exact Or.inr rfl
theorem mm_nb {o : Nat} (h : o < 2) : narrow .boolean (.int (nI o)) = .int (nI o) := by
  rcases (show o = 0 ∨ o = 1 by omega) with rfl | rfl <;> rfl
theorem mm_ix (a b : Nat) : (30 : Int32) * nI a + nI b = nI (30 * a + b) := by
  have e : (30 : Int32) * nI a = nI (30 * a) := (Int32.ofNat_mul 30 a).symm
  rw [e, nI_add]
theorem j_M_told (hl : l.flags = flags0) (Z : cr_Z0 s0 D ca e0) (h : mm_R s0 D ca H y ad G) {kd w b : Nat} (hB : ∀ t, t < 9000 → G 29 t < 2 ^ 31 ∧ G 30 t < 2 ^ 31) (hkd : kd < 2 ^ 31) (hw : w < 2 ^ 31) (hb : b < 2 ^ 31) (ht : G 28 0 ≤ 9000) : cr_c l s0 y_M_told cw_M_told 0 0 0 [.ref y, .int (nI kd), .int (nI w), .int (nI b)] H (cr_pu (some (.int (mm_to G kd w b))) H) := by
  refine cr_enter (by decide +kernel) (Nat.le_of_ble_eq_true rfl) (fun hlo p e s m args below meth c C hem hH => ?_)
  have loop : ∀ t, t ≤ 9000 → mm_lk G kd w t = mm_to G kd w b → cr_G p l e (cr_rm 0 0 0) s m args below meth c s0.heap.size 0 0 (cr_pu (some (.int (mm_to G kd w b))) H) 20 [some (.ref y), some (.int (nI kd)), some (.int (nI w)), some (.int (nI b)), some (.int (nI t + -1))] [] H 0 0 := by
    intro t
    induction t with
    | zero =>
      intro _ hr
      refine cr_vc [20] 60 (s_M_told hl Z C hem) (fun K hK => ?_)
      conv => whnf
      refine ⟨fun _ => ?_, fun h9 => absurd (show nI 0 + -1 < 0 by decide) h9⟩
      conv => whnf
      exact ⟨cr_le rfl, cr_le rfl, (by rw [← hr]; rfl), rfl⟩
    | succ t ih =>
      intro ht9 hr
      rw [cr_pm]
      refine cr_vc [20] 60 (s_M_told hl Z C hem) (fun K hK => ?_)
      conv => whnf
      refine ⟨fun b22 => absurd b22 (nI_pos (by omega)), fun b22 => ?_⟩
      conv => whnf
      refine ⟨_, h.o, ?_⟩
      conv => whnf
      refine ⟨_, _, _, h.a 29 rfl, rfl, show t < 9000 by omega, cr_le rfl, ?_⟩
      conv => whnf
      refine ⟨fun b33 => ?_, fun b33 => ?_⟩
      · conv => whnf
        refine ⟨cr_le rfl, ?_⟩
        conv => whnf
        exact hK _ _ _ _ _ _ (ih (by omega) (by rw [← hr]; show _ = ite _ _ _; rw [if_neg (fun hh => b33 (by rw [hh.1]))]))
      · conv => whnf
        refine ⟨_, h.o, ?_⟩
        conv => whnf
        refine ⟨_, _, _, h.a 30 rfl, rfl, show t < 9000 by omega, cr_le rfl, ?_⟩
        conv => whnf
        refine ⟨fun b44 => ?_, fun b44 => ?_⟩
        · conv => whnf
          refine ⟨cr_le rfl, ?_⟩
          conv => whnf
          exact hK _ _ _ _ _ _ (ih (by omega) (by rw [← hr]; show _ = ite _ _ _; rw [if_neg (fun hh => b44 (by rw [hh.2]))]))
        · conv => whnf
          refine ⟨_, h.o, ?_⟩
          conv => whnf
          refine ⟨_, _, _, h.a 31 rfl, rfl, show t < 9000 by omega, cr_le rfl, ?_⟩
          conv => whnf
          exact ⟨cr_le rfl, cr_le rfl, (by rw [← hr]; show _ = Sum.inl (some (Value.int (ite _ _ _))); rw [if_pos ⟨(nI_eq (hB t (by omega)).1 hkd).mp b33, (nI_eq (hB t (by omega)).2 hw).mp b44⟩]), rfl⟩
  refine cr_vc [20] 60 (s_M_told hl Z C hem) (fun K hK => ?_)
  conv => whnf
  refine ⟨_, h.o, ?_⟩
  conv => whnf
  refine ⟨fun b5 => ?_, fun b5 => ?_⟩
  · conv => whnf
    refine ⟨_, h.o, ?_⟩
    conv => whnf
    refine ⟨cr_le rfl, ?_⟩
    conv => whnf
    rw [Int32.sub_eq_add_neg]
    have h9 : G 28 0 ≤ b := cr_leof (by omega) (by omega) b5
    exact hK _ _ _ _ _ _ (loop (G 28 0) ht (by unfold mm_to; rw [if_pos h9]))
  · conv => whnf
    refine ⟨cr_le rfl, ?_⟩
    conv => whnf
    rw [Int32.sub_eq_add_neg]
    have h9 : b < G 28 0 := cr_ltof hb b5
    exact hK _ _ _ _ _ _ (loop b (by omega) (by unfold mm_to; rw [if_neg (by omega)]))
set_option maxRecDepth 20000 in
theorem j_M_end_ok (hl : l.flags = flags0) (Z : cr_Z0 s0 D ca e0) (h : mm_R s0 D ca H y ad G) {w m : Nat} (hw : w < G 22 0) (hw2 : G 22 0 < 2 ^ 31) (hm : m ≤ 1000000) (ht : G 28 0 < 9000) (hB : ∀ t, t < 9000 → G 29 t < 2 ^ 31 ∧ G 30 t < 2 ^ 31) : cr_c l s0 y_M_end cw_M_end 1 0 0 [.ref y, .int (nI w), .int (nI m)] H (mm_Q s0 D ca H y ad (some (.int (mm_to G 2 w 9000))) (mm_tl (mm_up G 0 0 0) 2 w m)) := by
  refine cr_enter (by decide +kernel) (Nat.le_of_ble_eq_true rfl) (fun hlo P9 E9 S9 M9 A9 B9 T9 C9 C hem hH => ?_)
  refine cr_vc [] 90 (s_M_end hl Z C hem) (fun K hK => ?_)
  conv => whnf
  refine ⟨_, h.o, ?_⟩
  conv => whnf
  refine ⟨rfl, ?_⟩
  conv => whnf
  refine ⟨_, _, _, _, j_M_isIn_t hl Z (mm_in_of hw hw2), by decide, cr_le rfl, cr_le rfl, cr_le rfl, fun v1 H1 q1 _ => ?_, fun kd H9 q9 _ => by cases q9.1⟩
  obtain ⟨q1a, q1b⟩ := q1
  cases q1a
  replace q1b := q1b.symm
  subst q1b
  conv => whnf
  refine ⟨fun b9 => absurd b9 (by decide), fun b9 => ?_⟩
  conv => whnf
  refine ⟨rfl, ?_⟩
  conv => whnf
  refine ⟨_, _, _, _, j_M_isMinute_t hl Z (mm_min_of hm), by decide, cr_le rfl, cr_le rfl, cr_le rfl, fun v3 H3 q3 _ => ?_, fun kd H9 q9 _ => by cases q9.1⟩
  obtain ⟨q3a, q3b⟩ := q3
  cases q3a
  replace q3b := q3b.symm
  subst q3b
  conv => whnf
  refine ⟨fun b16 => absurd b16 (by decide), fun b16 => ?_⟩
  conv => whnf
  refine ⟨rfl, ?_⟩
  conv => whnf
  refine ⟨_, h.o, _, _, _, _, j_M_goes hl Z h true true, by decide, cr_le rfl, cr_le rfl, cr_le rfl, fun v5 H5 q5 _ => ?_, fun kd H9 q9 _ => by cases q9.1⟩
  obtain ⟨q5a, h5, f5⟩ := q5
  cases q5a
  conv => whnf
  refine ⟨fun b28 => ?_, fun b28 => absurd b28 (by decide)⟩
  conv => whnf
  refine ⟨rfl, ?_⟩
  conv => whnf
  refine ⟨_, h5.o, _, _, _, _, j_M_told (kd := 2) (b := 9000) hl Z h5 hB (by decide) (by omega) (by decide) (Nat.le_of_lt ht), by decide, cr_le rfl, cr_le rfl, cr_le rfl, fun v7 H7 q7 _ => ?_, fun kd H9 q9 _ => by cases q9.1⟩
  obtain ⟨q7a, q7b⟩ := q7
  cases q7a
  replace q7b := q7b.symm
  subst q7b
  conv => whnf
  refine ⟨cr_le rfl, ?_⟩
  conv => whnf
  refine ⟨rfl, ?_⟩
  conv => whnf
  refine ⟨_, h5.o, _, _, _, _, j_M_tell (kd := 2) hl Z h5 ht, by decide, cr_le rfl, cr_le rfl, cr_le rfl, fun v8 H8 q8 _ => ?_, fun kd H9 q9 _ => by cases q9.1⟩
  obtain ⟨q8a, h8, f8⟩ := q8
  cases q8a
  conv => whnf
  exact ⟨cr_le rfl, cr_le rfl, congrArg (fun x => Sum.inl (some (Value.int x))) (mm_to_c _ _ _ _ _), h8, (f5.tr f8)⟩
set_option maxRecDepth 20000 in
theorem j_M_end_a (hl : l.flags = flags0) (Z : cr_Z0 s0 D ca e0) (h : mm_R s0 D ca H y ad G) {w m : Int32} (hno : ¬ (mm_in w (nI (G 22 0)) = true ∧ mm_min m = true)) : cr_c l s0 y_M_end cw_M_end 1 0 0 [.ref y, .int w, .int m] H (mm_Q s0 D ca H y ad (some (.int 0)) (mm_up G 0 0 1)) := by
  refine cr_enter (by decide +kernel) (Nat.le_of_ble_eq_true rfl) (fun hlo P9 E9 S9 M9 A9 B9 T9 C9 C hem hH => ?_)
  refine cr_vc [] 90 (s_M_end hl Z C hem) (fun K hK => ?_)
  conv => whnf
  refine ⟨_, h.o, ?_⟩
  conv => whnf
  refine ⟨rfl, ?_⟩
  conv => whnf
  refine ⟨_, _, _, _, j_M_isIn hl Z, by decide, cr_le rfl, cr_le rfl, cr_le rfl, fun v1 H1 q1 _ => ?_, fun kd H9 q9 _ => by cases q9.1⟩
  obtain ⟨q1a, q1b⟩ := q1
  cases q1a
  replace q1b := q1b.symm
  subst q1b
  conv => whnf
  refine ⟨fun b9 => ?_, fun b9 => ?_⟩
  · conv => whnf
    refine ⟨rfl, ?_⟩
    conv => whnf
    refine ⟨_, h.o, _, _, _, _, j_M_goes hl Z h false true, by decide, cr_le rfl, cr_le rfl, cr_le rfl, fun v3 H3 q3 _ => ?_, fun kd H9 q9 _ => by cases q9.1⟩
    obtain ⟨q3a, h3, f3⟩ := q3
    cases q3a
    conv => whnf
    refine ⟨fun b28 => absurd rfl b28, fun b28 => ?_⟩
    conv => whnf
    exact ⟨cr_le rfl, cr_le rfl, rfl, h3, f3⟩
  · conv => whnf
    refine ⟨rfl, ?_⟩
    conv => whnf
    refine ⟨_, _, _, _, j_M_isMinute hl Z, by decide, cr_le rfl, cr_le rfl, cr_le rfl, fun v5 H5 q5 _ => ?_, fun kd H9 q9 _ => by cases q9.1⟩
    obtain ⟨q5a, q5b⟩ := q5
    cases q5a
    replace q5b := q5b.symm
    subst q5b
    conv => whnf
    refine ⟨fun b16 => ?_, fun b16 => False.elim (hno ⟨cr_bt b9, cr_bt b16⟩)⟩
    conv => whnf
    refine ⟨rfl, ?_⟩
    conv => whnf
    refine ⟨_, h.o, _, _, _, _, j_M_goes hl Z h false true, by decide, cr_le rfl, cr_le rfl, cr_le rfl, fun v7 H7 q7 _ => ?_, fun kd H9 q9 _ => by cases q9.1⟩
    obtain ⟨q7a, h7, f7⟩ := q7
    cases q7a
    conv => whnf
    refine ⟨fun b28 => absurd rfl b28, fun b28 => ?_⟩
    conv => whnf
    exact ⟨cr_le rfl, cr_le rfl, rfl, h7, f7⟩
set_option maxRecDepth 20000 in
theorem j_M_lost_ok (hl : l.flags = flags0) (Z : cr_Z0 s0 D ca e0) (h : mm_R s0 D ca H y ad G) {w m : Nat} (hw : w < G 19 0) (hw2 : G 19 0 < 2 ^ 31) (hm : m ≤ 1000000) (ht : G 28 0 < 9000) (hB : ∀ t, t < 9000 → G 29 t < 2 ^ 31 ∧ G 30 t < 2 ^ 31) : cr_c l s0 y_M_lost cw_M_lost 1 0 0 [.ref y, .int (nI w), .int (nI m)] H (mm_Q s0 D ca H y ad (some (.int (mm_to G 3 w 9000))) (mm_tl (mm_up G 0 0 0) 3 w m)) := by
  refine cr_enter (by decide +kernel) (Nat.le_of_ble_eq_true rfl) (fun hlo P9 E9 S9 M9 A9 B9 T9 C9 C hem hH => ?_)
  refine cr_vc [] 90 (s_M_lost hl Z C hem) (fun K hK => ?_)
  conv => whnf
  refine ⟨_, h.o, ?_⟩
  conv => whnf
  refine ⟨rfl, ?_⟩
  conv => whnf
  refine ⟨_, _, _, _, j_M_isIn_t hl Z (mm_in_of hw hw2), by decide, cr_le rfl, cr_le rfl, cr_le rfl, fun v1 H1 q1 _ => ?_, fun kd H9 q9 _ => by cases q9.1⟩
  obtain ⟨q1a, q1b⟩ := q1
  cases q1a
  replace q1b := q1b.symm
  subst q1b
  conv => whnf
  refine ⟨fun b9 => absurd b9 (by decide), fun b9 => ?_⟩
  conv => whnf
  refine ⟨rfl, ?_⟩
  conv => whnf
  refine ⟨_, _, _, _, j_M_isMinute_t hl Z (mm_min_of hm), by decide, cr_le rfl, cr_le rfl, cr_le rfl, fun v3 H3 q3 _ => ?_, fun kd H9 q9 _ => by cases q9.1⟩
  obtain ⟨q3a, q3b⟩ := q3
  cases q3a
  replace q3b := q3b.symm
  subst q3b
  conv => whnf
  refine ⟨fun b16 => absurd b16 (by decide), fun b16 => ?_⟩
  conv => whnf
  refine ⟨rfl, ?_⟩
  conv => whnf
  refine ⟨_, h.o, _, _, _, _, j_M_goes hl Z h true true, by decide, cr_le rfl, cr_le rfl, cr_le rfl, fun v5 H5 q5 _ => ?_, fun kd H9 q9 _ => by cases q9.1⟩
  obtain ⟨q5a, h5, f5⟩ := q5
  cases q5a
  conv => whnf
  refine ⟨fun b28 => ?_, fun b28 => absurd b28 (by decide)⟩
  conv => whnf
  refine ⟨rfl, ?_⟩
  conv => whnf
  refine ⟨_, h5.o, _, _, _, _, j_M_told (kd := 3) (b := 9000) hl Z h5 hB (by decide) (by omega) (by decide) (Nat.le_of_lt ht), by decide, cr_le rfl, cr_le rfl, cr_le rfl, fun v7 H7 q7 _ => ?_, fun kd H9 q9 _ => by cases q9.1⟩
  obtain ⟨q7a, q7b⟩ := q7
  cases q7a
  replace q7b := q7b.symm
  subst q7b
  conv => whnf
  refine ⟨cr_le rfl, ?_⟩
  conv => whnf
  refine ⟨rfl, ?_⟩
  conv => whnf
  refine ⟨_, h5.o, _, _, _, _, j_M_tell (kd := 3) hl Z h5 ht, by decide, cr_le rfl, cr_le rfl, cr_le rfl, fun v8 H8 q8 _ => ?_, fun kd H9 q9 _ => by cases q9.1⟩
  obtain ⟨q8a, h8, f8⟩ := q8
  cases q8a
  conv => whnf
  exact ⟨cr_le rfl, cr_le rfl, congrArg (fun x => Sum.inl (some (Value.int x))) (mm_to_c _ _ _ _ _), h8, (f5.tr f8)⟩
set_option maxRecDepth 20000 in
theorem j_M_lost_a (hl : l.flags = flags0) (Z : cr_Z0 s0 D ca e0) (h : mm_R s0 D ca H y ad G) {w m : Int32} (hno : ¬ (mm_in w (nI (G 19 0)) = true ∧ mm_min m = true)) : cr_c l s0 y_M_lost cw_M_lost 1 0 0 [.ref y, .int w, .int m] H (mm_Q s0 D ca H y ad (some (.int 0)) (mm_up G 0 0 1)) := by
  refine cr_enter (by decide +kernel) (Nat.le_of_ble_eq_true rfl) (fun hlo P9 E9 S9 M9 A9 B9 T9 C9 C hem hH => ?_)
  refine cr_vc [] 90 (s_M_lost hl Z C hem) (fun K hK => ?_)
  conv => whnf
  refine ⟨_, h.o, ?_⟩
  conv => whnf
  refine ⟨rfl, ?_⟩
  conv => whnf
  refine ⟨_, _, _, _, j_M_isIn hl Z, by decide, cr_le rfl, cr_le rfl, cr_le rfl, fun v1 H1 q1 _ => ?_, fun kd H9 q9 _ => by cases q9.1⟩
  obtain ⟨q1a, q1b⟩ := q1
  cases q1a
  replace q1b := q1b.symm
  subst q1b
  conv => whnf
  refine ⟨fun b9 => ?_, fun b9 => ?_⟩
  · conv => whnf
    refine ⟨rfl, ?_⟩
    conv => whnf
    refine ⟨_, h.o, _, _, _, _, j_M_goes hl Z h false true, by decide, cr_le rfl, cr_le rfl, cr_le rfl, fun v3 H3 q3 _ => ?_, fun kd H9 q9 _ => by cases q9.1⟩
    obtain ⟨q3a, h3, f3⟩ := q3
    cases q3a
    conv => whnf
    refine ⟨fun b28 => absurd rfl b28, fun b28 => ?_⟩
    conv => whnf
    exact ⟨cr_le rfl, cr_le rfl, rfl, h3, f3⟩
  · conv => whnf
    refine ⟨rfl, ?_⟩
    conv => whnf
    refine ⟨_, _, _, _, j_M_isMinute hl Z, by decide, cr_le rfl, cr_le rfl, cr_le rfl, fun v5 H5 q5 _ => ?_, fun kd H9 q9 _ => by cases q9.1⟩
    obtain ⟨q5a, q5b⟩ := q5
    cases q5a
    replace q5b := q5b.symm
    subst q5b
    conv => whnf
    refine ⟨fun b16 => ?_, fun b16 => False.elim (hno ⟨cr_bt b9, cr_bt b16⟩)⟩
    conv => whnf
    refine ⟨rfl, ?_⟩
    conv => whnf
    refine ⟨_, h.o, _, _, _, _, j_M_goes hl Z h false true, by decide, cr_le rfl, cr_le rfl, cr_le rfl, fun v7 H7 q7 _ => ?_, fun kd H9 q9 _ => by cases q9.1⟩
    obtain ⟨q7a, h7, f7⟩ := q7
    cases q7a
    conv => whnf
    refine ⟨fun b28 => absurd rfl b28, fun b28 => ?_⟩
    conv => whnf
    exact ⟨cr_le rfl, cr_le rfl, rfl, h7, f7⟩
set_option maxRecDepth 20000 in
theorem j_M_where_ok (hl : l.flags = flags0) (Z : cr_Z0 s0 D ca e0) (h : mm_R s0 D ca H y ad G) {w : Nat} (hw : w < G 16 0) (hw2 : G 16 0 ≤ 40) : cr_c l s0 y_M_where cw_M_where 1 0 0 [.ref y, .int (nI w)] H (mm_Q s0 D ca H y ad (some (.int (nI (G 18 w)))) (mm_up G 0 0 0)) := by
  refine cr_enter (by decide +kernel) (Nat.le_of_ble_eq_true rfl) (fun hlo P9 E9 S9 M9 A9 B9 T9 C9 C hem hH => ?_)
  refine cr_vc [] 90 (s_M_where hl Z C hem) (fun K hK => ?_)
  conv => whnf
  refine ⟨_, h.o, ?_⟩
  conv => whnf
  refine ⟨rfl, ?_⟩
  conv => whnf
  refine ⟨_, _, _, _, j_M_isIn_t hl Z (mm_in_of hw (by omega)), by decide, cr_le rfl, cr_le rfl, cr_le rfl, fun v1 H1 q1 _ => ?_, fun kd H9 q9 _ => by cases q9.1⟩
  obtain ⟨q1a, q1b⟩ := q1
  cases q1a
  replace q1b := q1b.symm
  subst q1b
  conv => whnf
  refine ⟨rfl, ?_⟩
  conv => whnf
  refine ⟨_, h.o, _, _, _, _, j_M_goes hl Z h true true, by decide, cr_le rfl, cr_le rfl, cr_le rfl, fun v2 H2 q2 _ => ?_, fun kd H9 q9 _ => by cases q9.1⟩
  obtain ⟨q2a, h2, f2⟩ := q2
  cases q2a
  conv => whnf
  refine ⟨fun b13 => absurd b13 (by decide), fun b13 => ?_⟩
  conv => whnf
  refine ⟨_, h2.o, ?_⟩
  conv => whnf
  refine ⟨_, _, _, h2.a 18 rfl, rfl, show w < 40 by omega, cr_le rfl, ?_⟩
  conv => whnf
  exact ⟨cr_le rfl, cr_le rfl, rfl, h2, f2⟩
set_option maxRecDepth 20000 in
theorem j_M_where_a (hl : l.flags = flags0) (Z : cr_Z0 s0 D ca e0) (h : mm_R s0 D ca H y ad G) {w : Int32} (hno : mm_in w (nI (G 16 0)) = false) : cr_c l s0 y_M_where cw_M_where 1 0 0 [.ref y, .int w] H (mm_Q s0 D ca H y ad (some (.int 0)) (mm_up G 0 0 1)) := by
  refine cr_enter (by decide +kernel) (Nat.le_of_ble_eq_true rfl) (fun hlo P9 E9 S9 M9 A9 B9 T9 C9 C hem hH => ?_)
  refine cr_vc [] 90 (s_M_where hl Z C hem) (fun K hK => ?_)
  conv => whnf
  refine ⟨_, h.o, ?_⟩
  conv => whnf
  refine ⟨rfl, ?_⟩
  conv => whnf
  refine ⟨_, _, _, _, j_M_isIn_f hl Z hno, by decide, cr_le rfl, cr_le rfl, cr_le rfl, fun v1 H1 q1 _ => ?_, fun kd H9 q9 _ => by cases q9.1⟩
  obtain ⟨q1a, q1b⟩ := q1
  cases q1a
  replace q1b := q1b.symm
  subst q1b
  conv => whnf
  refine ⟨rfl, ?_⟩
  conv => whnf
  refine ⟨_, h.o, _, _, _, _, j_M_goes hl Z h false true, by decide, cr_le rfl, cr_le rfl, cr_le rfl, fun v2 H2 q2 _ => ?_, fun kd H9 q9 _ => by cases q9.1⟩
  obtain ⟨q2a, h2, f2⟩ := q2
  cases q2a
  conv => whnf
  refine ⟨fun b13 => ?_, fun b13 => absurd rfl b13⟩
  conv => whnf
  exact ⟨cr_le rfl, cr_le rfl, rfl, h2, f2⟩
set_option maxRecDepth 20000 in
theorem j_M_two_ok (hl : l.flags = flags0) (Z : cr_Z0 s0 D ca e0) (h : mm_R s0 D ca H y ad G) {d o : Nat} (hd : d < G 4 0) (hd2 : G 4 0 ≤ 30) (ho : o < 2) (hz : G 7 d < 2) : cr_c l s0 y_M_two cw_M_two 1 0 0 [.ref y, .int (nI d), .int (nI o)] H (mm_Q s0 D ca H y ad (some (.int (nI (G 7 d)))) (mm_up (mm_up G 0 0 0) 7 d o)) := by
  refine cr_enter (by decide +kernel) (Nat.le_of_ble_eq_true rfl) (fun hlo P9 E9 S9 M9 A9 B9 T9 C9 C hem hH => ?_)
  refine cr_vc [] 90 (s_M_two hl Z C hem) (fun K hK => ?_)
  conv => whnf
  refine ⟨_, h.o, ?_⟩
  conv => whnf
  refine ⟨rfl, ?_⟩
  conv => whnf
  refine ⟨_, _, _, _, j_M_isIn_t hl Z (mm_in_of hd (by omega)), by decide, cr_le rfl, cr_le rfl, cr_le rfl, fun v1 H1 q1 _ => ?_, fun kd H9 q9 _ => by cases q9.1⟩
  obtain ⟨q1a, q1b⟩ := q1
  cases q1a
  replace q1b := q1b.symm
  subst q1b
  conv => whnf
  refine ⟨rfl, ?_⟩
  conv => whnf
  refine ⟨_, h.o, _, _, _, _, j_M_goes hl Z h true true, by decide, cr_le rfl, cr_le rfl, cr_le rfl, fun v2 H2 q2 _ => ?_, fun kd H9 q9 _ => by cases q9.1⟩
  obtain ⟨q2a, h2, f2⟩ := q2
  cases q2a
  conv => whnf
  refine ⟨fun b13 => ?_, fun b13 => absurd b13 (by decide)⟩
  conv => whnf
  refine ⟨_, h2.o, ?_⟩
  conv => whnf
  refine ⟨_, _, _, h2.a 7 rfl, rfl, show d < 30 by omega, cr_le rfl, ?_⟩
  conv => whnf
  refine ⟨cr_le rfl, ?_⟩
  conv => whnf
  refine ⟨_, h2.o, ?_⟩
  conv => whnf
  refine ⟨_, _, _, h2.a 7 rfl, h2.lo 7 rfl, rfl, show d < 30 by omega, cr_le rfl, mm_01 ho, fun H4 u4 => ?_⟩
  have h4 := h2.sto (k := 7) rfl u4
  conv => whnf
  exact ⟨mm_nb hz, cr_le rfl, cr_le rfl, rfl, h4, (f2.tr (mm_Fr.arr (k := 7) rfl u4))⟩
set_option maxRecDepth 20000 in
theorem j_M_two_a (hl : l.flags = flags0) (Z : cr_Z0 s0 D ca e0) (h : mm_R s0 D ca H y ad G) {d : Int32} {o : Nat} (hno : mm_in d (nI (G 4 0)) = false) : cr_c l s0 y_M_two cw_M_two 1 0 0 [.ref y, .int d, .int (nI o)] H (mm_Q s0 D ca H y ad (some (.int 0)) (mm_up G 0 0 1)) := by
  refine cr_enter (by decide +kernel) (Nat.le_of_ble_eq_true rfl) (fun hlo P9 E9 S9 M9 A9 B9 T9 C9 C hem hH => ?_)
  refine cr_vc [] 90 (s_M_two hl Z C hem) (fun K hK => ?_)
  conv => whnf
  refine ⟨_, h.o, ?_⟩
  conv => whnf
  refine ⟨rfl, ?_⟩
  conv => whnf
  refine ⟨_, _, _, _, j_M_isIn_f hl Z hno, by decide, cr_le rfl, cr_le rfl, cr_le rfl, fun v1 H1 q1 _ => ?_, fun kd H9 q9 _ => by cases q9.1⟩
  obtain ⟨q1a, q1b⟩ := q1
  cases q1a
  replace q1b := q1b.symm
  subst q1b
  conv => whnf
  refine ⟨rfl, ?_⟩
  conv => whnf
  refine ⟨_, h.o, _, _, _, _, j_M_goes hl Z h false true, by decide, cr_le rfl, cr_le rfl, cr_le rfl, fun v2 H2 q2 _ => ?_, fun kd H9 q9 _ => by cases q9.1⟩
  obtain ⟨q2a, h2, f2⟩ := q2
  cases q2a
  conv => whnf
  refine ⟨fun b13 => absurd rfl b13, fun b13 => ?_⟩
  conv => whnf
  exact ⟨rfl, cr_le rfl, cr_le rfl, rfl, h2, f2⟩
set_option maxRecDepth 20000 in
theorem j_M_airlock_ok (hl : l.flags = flags0) (Z : cr_Z0 s0 D ca e0) (h : mm_R s0 D ca H y ad G) {a b o : Nat} (ha : a < G 4 0) (hb : b < G 4 0) (hab : a ≠ b) (hd2 : G 4 0 ≤ 30) (ho : o < 2) (hz : G 11 (30 * a + b) < 2) : cr_c l s0 y_M_airlock cw_M_airlock 1 0 0 [.ref y, .int (nI a), .int (nI b), .int (nI o)] H (mm_Q s0 D ca H y ad (some (.int (nI (G 11 (30 * a + b))))) (mm_up (mm_up (mm_up G 0 0 0) 11 (30 * a + b) o) 11 (30 * b + a) o)) := by
  refine cr_enter (by decide +kernel) (Nat.le_of_ble_eq_true rfl) (fun hlo P9 E9 S9 M9 A9 B9 T9 C9 C hem hH => ?_)
  refine cr_vc [] 90 (s_M_airlock hl Z C hem) (fun K hK => ?_)
  conv => whnf
  refine ⟨_, h.o, ?_⟩
  conv => whnf
  refine ⟨rfl, ?_⟩
  conv => whnf
  refine ⟨_, _, _, _, j_M_isIn_t hl Z (mm_in_of ha (by omega)), by decide, cr_le rfl, cr_le rfl, cr_le rfl, fun v1 H1 q1 _ => ?_, fun kd H9 q9 _ => by cases q9.1⟩
  obtain ⟨q1a, q1b⟩ := q1
  cases q1a
  replace q1b := q1b.symm
  subst q1b
  conv => whnf
  refine ⟨fun b9 => absurd b9 (by decide), fun b9 => ?_⟩
  conv => whnf
  refine ⟨_, h.o, ?_⟩
  conv => whnf
  refine ⟨rfl, ?_⟩
  conv => whnf
  refine ⟨_, _, _, _, j_M_isIn_t hl Z (mm_in_of hb (by omega)), by decide, cr_le rfl, cr_le rfl, cr_le rfl, fun v3 H3 q3 _ => ?_, fun kd H9 q9 _ => by cases q9.1⟩
  obtain ⟨q3a, q3b⟩ := q3
  cases q3a
  replace q3b := q3b.symm
  subst q3b
  conv => whnf
  refine ⟨fun b20 => absurd b20 (by decide), fun b20 => ?_⟩
  conv => whnf
  refine ⟨fun b25 => absurd ((nI_eq (by omega) (by omega)).mp b25) hab, fun b25 => ?_⟩
  conv => whnf
  refine ⟨rfl, ?_⟩
  conv => whnf
  refine ⟨_, h.o, _, _, _, _, j_M_goes hl Z h true true, by decide, cr_le rfl, cr_le rfl, cr_le rfl, fun v6 H6 q6 _ => ?_, fun kd H9 q9 _ => by cases q9.1⟩
  obtain ⟨q6a, h6, f6⟩ := q6
  cases q6a
  conv => whnf
  refine ⟨fun b37 => ?_, fun b37 => absurd b37 (by decide)⟩
  conv => whnf
  refine ⟨_, h6.o, ?_⟩
  conv => whnf
  refine ⟨_, _, _, h6.a 11 rfl, mm_ix a b, show 30 * a + b < 900 by omega, cr_le rfl, ?_⟩
  conv => whnf
  refine ⟨cr_le rfl, ?_⟩
  conv => whnf
  refine ⟨_, h6.o, ?_⟩
  conv => whnf
  refine ⟨_, _, _, h6.a 11 rfl, h6.lo 11 rfl, mm_ix a b, show 30 * a + b < 900 by omega, cr_le rfl, mm_01 ho, fun H8 u8 => ?_⟩
  have h8 := h6.sto (k := 11) rfl u8
  conv => whnf
  refine ⟨_, h8.o, ?_⟩
  conv => whnf
  refine ⟨_, _, _, h8.a 11 rfl, h8.lo 11 rfl, mm_ix b a, show 30 * b + a < 900 by omega, cr_le rfl, mm_01 ho, fun H9 u9 => ?_⟩
  have h9 := h8.sto (k := 11) rfl u9
  conv => whnf
  exact ⟨mm_nb hz, cr_le rfl, cr_le rfl, rfl, h9, ((f6.tr (mm_Fr.arr (k := 11) rfl u8)).tr (mm_Fr.arr (k := 11) rfl u9))⟩
set_option maxRecDepth 20000 in
theorem j_M_airlock_a (hl : l.flags = flags0) (Z : cr_Z0 s0 D ca e0) (h : mm_R s0 D ca H y ad G) {a b : Int32} {o : Nat} (hno : ¬ (mm_in a (nI (G 4 0)) = true ∧ mm_in b (nI (G 4 0)) = true ∧ a ≠ b)) : cr_c l s0 y_M_airlock cw_M_airlock 1 0 0 [.ref y, .int a, .int b, .int (nI o)] H (mm_Q s0 D ca H y ad (some (.int 0)) (mm_up G 0 0 1)) := by
  refine cr_enter (by decide +kernel) (Nat.le_of_ble_eq_true rfl) (fun hlo P9 E9 S9 M9 A9 B9 T9 C9 C hem hH => ?_)
  refine cr_vc [] 90 (s_M_airlock hl Z C hem) (fun K hK => ?_)
  conv => whnf
  refine ⟨_, h.o, ?_⟩
  conv => whnf
  refine ⟨rfl, ?_⟩
  conv => whnf
  refine ⟨_, _, _, _, j_M_isIn hl Z, by decide, cr_le rfl, cr_le rfl, cr_le rfl, fun v1 H1 q1 _ => ?_, fun kd H9 q9 _ => by cases q9.1⟩
  obtain ⟨q1a, q1b⟩ := q1
  cases q1a
  replace q1b := q1b.symm
  subst q1b
  conv => whnf
  refine ⟨fun b9 => ?_, fun b9 => ?_⟩
  · conv => whnf
    refine ⟨rfl, ?_⟩
    conv => whnf
    refine ⟨_, h.o, _, _, _, _, j_M_goes hl Z h false true, by decide, cr_le rfl, cr_le rfl, cr_le rfl, fun v3 H3 q3 _ => ?_, fun kd H9 q9 _ => by cases q9.1⟩
    obtain ⟨q3a, h3, f3⟩ := q3
    cases q3a
    conv => whnf
    refine ⟨fun b37 => absurd rfl b37, fun b37 => ?_⟩
    conv => whnf
    exact ⟨rfl, cr_le rfl, cr_le rfl, rfl, h3, f3⟩
  · conv => whnf
    refine ⟨_, h.o, ?_⟩
    conv => whnf
    refine ⟨rfl, ?_⟩
    conv => whnf
    refine ⟨_, _, _, _, j_M_isIn hl Z, by decide, cr_le rfl, cr_le rfl, cr_le rfl, fun v5 H5 q5 _ => ?_, fun kd H9 q9 _ => by cases q9.1⟩
    obtain ⟨q5a, q5b⟩ := q5
    cases q5a
    replace q5b := q5b.symm
    subst q5b
    conv => whnf
    refine ⟨fun b20 => ?_, fun b20 => ?_⟩
    · conv => whnf
      refine ⟨rfl, ?_⟩
      conv => whnf
      refine ⟨_, h.o, _, _, _, _, j_M_goes hl Z h false true, by decide, cr_le rfl, cr_le rfl, cr_le rfl, fun v7 H7 q7 _ => ?_, fun kd H9 q9 _ => by cases q9.1⟩
      obtain ⟨q7a, h7, f7⟩ := q7
      cases q7a
      conv => whnf
      refine ⟨fun b37 => absurd rfl b37, fun b37 => ?_⟩
      conv => whnf
      exact ⟨rfl, cr_le rfl, cr_le rfl, rfl, h7, f7⟩
    · conv => whnf
      refine ⟨fun b25 => ?_, fun b25 => False.elim (hno ⟨cr_bt b9, cr_bt b20, b25⟩)⟩
      conv => whnf
      refine ⟨rfl, ?_⟩
      conv => whnf
      refine ⟨_, h.o, _, _, _, _, j_M_goes hl Z h false true, by decide, cr_le rfl, cr_le rfl, cr_le rfl, fun v10 H10 q10 _ => ?_, fun kd H9 q9 _ => by cases q9.1⟩
      obtain ⟨q10a, h10, f10⟩ := q10
      cases q10a
      conv => whnf
      refine ⟨fun b37 => absurd rfl b37, fun b37 => ?_⟩
      conv => whnf
      exact ⟨rfl, cr_le rfl, cr_le rfl, rfl, h10, f10⟩
def mm_la (G : mm_G) (m : Int32) : Bool := !decide (m < nI (G 1 0)) && !decide (1000000 < m)
set_option maxRecDepth 20000 in
theorem j_M_isLater (hl : l.flags = flags0) (Z : cr_Z0 s0 D ca e0) (h : mm_R s0 D ca H y ad G) {m : Int32} : cr_c l s0 y_M_isLater cw_M_isLater 0 0 0 [.ref y, .int m] H (cr_pu (some (.int (cr_b (mm_la G m)))) H) := by
  refine cr_enter (by decide +kernel) (Nat.le_of_ble_eq_true rfl) (fun hlo P9 E9 S9 M9 A9 B9 T9 C9 C hem hH => ?_)
  refine cr_vc [] 90 (s_M_isLater hl Z C hem) (fun K hK => ?_)
  conv => whnf
  refine ⟨_, h.o, ?_⟩
  conv => whnf
  refine ⟨fun b5 => ?_, fun b5 => ?_⟩
  · conv => whnf
    exact ⟨rfl, cr_le rfl, cr_le rfl, (by rw [show mm_la G m = false by simp [mm_la, b5]]; rfl), rfl⟩
  · conv => whnf
    refine ⟨fun b11 => ?_, fun b11 => ?_⟩
    · conv => whnf
      exact ⟨rfl, cr_le rfl, cr_le rfl, (by rw [show mm_la G m = false by simp [mm_la, b11]]; rfl), rfl⟩
    · conv => whnf
      exact ⟨rfl, cr_le rfl, cr_le rfl, (by rw [show mm_la G m = true by simp [mm_la, b5, b11]]; rfl), rfl⟩
theorem mm_la_of {m : Nat} (h1 : G 1 0 ≤ m) (h2 : m ≤ 1000000) : mm_la G (nI m) = true := by
  have h3 : ¬ nI m < nI (G 1 0) := nI_nlt h1 (by omega)
  have h4 : ¬ (1000000 : Int32) < nI m := nI_nlt (a := 1000000) h2 (by decide)
  simp [mm_la, h3, h4]
theorem j_M_isLater_t (hl : l.flags = flags0) (Z : cr_Z0 s0 D ca e0) (h : mm_R s0 D ca H y ad G) {m : Int32} (h9 : mm_la G m = true) : cr_c l s0 y_M_isLater cw_M_isLater 0 0 0 [.ref y, .int m] H (cr_pu (some (.int 1)) H) := by
  have q := j_M_isLater (m := m) hl Z h
  rw [h9] at q
  exact q
set_option maxRecDepth 20000 in
theorem j_M_state_ok (hl : l.flags = flags0) (Z : cr_Z0 s0 D ca e0) (h : mm_R s0 D ca H y ad G) {d o m : Nat} (hd : d < G 4 0) (hd2 : G 4 0 ≤ 30) (ho : o < 2) (hm : m ≤ 1000000) (hn : G 1 0 ≤ m) (hz : G 8 d < 2) : cr_c l s0 y_M_state cw_M_state 1 0 0 [.ref y, .int (nI d), .int (nI o), .int (nI m)] H (mm_Q s0 D ca H y ad (some (.int (nI m - nI (G 9 d)))) (mm_up (mm_up (mm_up (mm_up G 0 0 0) 1 0 m) 9 d (if G 8 d = o then G 9 d else m)) 8 d o)) := by
  refine cr_enter (by decide +kernel) (Nat.le_of_ble_eq_true rfl) (fun hlo P9 E9 S9 M9 A9 B9 T9 C9 C hem hH => ?_)
  refine cr_vc [] 90 (s_M_state hl Z C hem) (fun K hK => ?_)
  conv => whnf
  refine ⟨_, h.o, ?_⟩
  conv => whnf
  refine ⟨rfl, ?_⟩
  conv => whnf
  refine ⟨_, _, _, _, j_M_isIn_t hl Z (mm_in_of hd (by omega)), by decide, cr_le rfl, cr_le rfl, cr_le rfl, fun v1 H1 q1 _ => ?_, fun kd H9 q9 _ => by cases q9.1⟩
  obtain ⟨q1a, q1b⟩ := q1
  cases q1a
  replace q1b := q1b.symm
  subst q1b
  conv => whnf
  refine ⟨fun b9 => absurd b9 (by decide), fun b9 => ?_⟩
  conv => whnf
  refine ⟨rfl, ?_⟩
  conv => whnf
  refine ⟨_, h.o, _, _, _, _, j_M_isLater_t hl Z h (mm_la_of hn hm), by decide, cr_le rfl, cr_le rfl, cr_le rfl, fun v3 H3 q3 _ => ?_, fun kd H9 q9 _ => by cases q9.1⟩
  obtain ⟨q3a, q3b⟩ := q3
  cases q3a
  replace q3b := q3b.symm
  subst q3b
  conv => whnf
  refine ⟨fun b17 => absurd b17 (by decide), fun b17 => ?_⟩
  conv => whnf
  refine ⟨rfl, ?_⟩
  conv => whnf
  refine ⟨_, h.o, _, _, _, _, j_M_goes hl Z h true true, by decide, cr_le rfl, cr_le rfl, cr_le rfl, fun v5 H5 q5 _ => ?_, fun kd H9 q9 _ => by cases q9.1⟩
  obtain ⟨q5a, h5, f5⟩ := q5
  cases q5a
  conv => whnf
  refine ⟨fun b29 => ?_, fun b29 => absurd b29 (by decide)⟩
  conv => whnf
  refine ⟨_, h5.o, h5.1, ⟨rfl, rfl⟩, ?_⟩
  conv => whnf
  intro H7 u7
  have h7 := h5.put (k := 1) (v := m) rfl u7
  conv => whnf
  refine ⟨_, h7.o, ?_⟩
  conv => whnf
  refine ⟨_, _, _, h7.a 9 rfl, rfl, show d < 30 by omega, cr_le rfl, ?_⟩
  conv => whnf
  refine ⟨cr_le rfl, ?_⟩
  conv => whnf
  refine ⟨_, h7.o, ?_⟩
  conv => whnf
  refine ⟨_, h7.o, ?_⟩
  conv => whnf
  refine ⟨_, _, _, h7.a 8 rfl, rfl, show d < 30 by omega, cr_le rfl, ?_⟩
  conv => whnf
  refine ⟨fun b61 => ?_, fun b61 => ?_⟩
  · conv => whnf
    refine ⟨_, _, _, h7.a 9 rfl, h7.lo 9 rfl, rfl, show d < 30 by omega, cr_le rfl, fun H9 u9 => ?_⟩
    have h9 := h7.sto (k := 9) rfl u9
    conv => whnf
    refine ⟨_, h9.o, ?_⟩
    conv => whnf
    refine ⟨_, _, _, h9.a 8 rfl, h9.lo 8 rfl, rfl, show d < 30 by omega, cr_le rfl, mm_01 ho, fun H10 u10 => ?_⟩
    have h10 := h9.sto (k := 8) rfl u10
    conv => whnf
    exact ⟨cr_le rfl, cr_le rfl, rfl, (by rw [if_neg (fun e => b61 (show nI (G 8 d) = nI o by rw [e]))]; exact h10), (((f5.tr (mm_Fr.ob u7)).tr (mm_Fr.arr (k := 9) rfl u9)).tr (mm_Fr.arr (k := 8) rfl u10))⟩
  · conv => whnf
    refine ⟨_, h7.o, ?_⟩
    conv => whnf
    refine ⟨_, _, _, h7.a 9 rfl, rfl, show d < 30 by omega, cr_le rfl, ?_⟩
    conv => whnf
    refine ⟨_, _, _, h7.a 9 rfl, h7.lo 9 rfl, rfl, show d < 30 by omega, cr_le rfl, fun H11 u11 => ?_⟩
    have h11 := h7.sto (k := 9) rfl u11
    conv => whnf
    refine ⟨_, h11.o, ?_⟩
    conv => whnf
    refine ⟨_, _, _, h11.a 8 rfl, h11.lo 8 rfl, rfl, show d < 30 by omega, cr_le rfl, mm_01 ho, fun H12 u12 => ?_⟩
    have h12 := h11.sto (k := 8) rfl u12
    conv => whnf
    exact ⟨cr_le rfl, cr_le rfl, rfl, (by rw [if_pos (show G 8 d = o from (nI_eq (show G 8 d < 2 ^ 31 by omega) (by omega)).mp b61)]; exact h12), (((f5.tr (mm_Fr.ob u7)).tr (mm_Fr.arr (k := 9) rfl u11)).tr (mm_Fr.arr (k := 8) rfl u12))⟩
set_option maxRecDepth 20000 in
theorem j_M_state_a (hl : l.flags = flags0) (Z : cr_Z0 s0 D ca e0) (h : mm_R s0 D ca H y ad G) {d m : Int32} {o : Nat} (hno : ¬ (mm_in d (nI (G 4 0)) = true ∧ mm_la G m = true)) : cr_c l s0 y_M_state cw_M_state 1 0 0 [.ref y, .int d, .int (nI o), .int m] H (mm_Q s0 D ca H y ad (some (.int 0)) (mm_up G 0 0 1)) := by
  refine cr_enter (by decide +kernel) (Nat.le_of_ble_eq_true rfl) (fun hlo P9 E9 S9 M9 A9 B9 T9 C9 C hem hH => ?_)
  refine cr_vc [] 90 (s_M_state hl Z C hem) (fun K hK => ?_)
  conv => whnf
  refine ⟨_, h.o, ?_⟩
  conv => whnf
  refine ⟨rfl, ?_⟩
  conv => whnf
  refine ⟨_, _, _, _, j_M_isIn hl Z, by decide, cr_le rfl, cr_le rfl, cr_le rfl, fun v1 H1 q1 _ => ?_, fun kd H9 q9 _ => by cases q9.1⟩
  obtain ⟨q1a, q1b⟩ := q1
  cases q1a
  replace q1b := q1b.symm
  subst q1b
  conv => whnf
  refine ⟨fun b9 => ?_, fun b9 => ?_⟩
  · conv => whnf
    refine ⟨rfl, ?_⟩
    conv => whnf
    refine ⟨_, h.o, _, _, _, _, j_M_goes hl Z h false true, by decide, cr_le rfl, cr_le rfl, cr_le rfl, fun v3 H3 q3 _ => ?_, fun kd H9 q9 _ => by cases q9.1⟩
    obtain ⟨q3a, h3, f3⟩ := q3
    cases q3a
    conv => whnf
    refine ⟨fun b29 => absurd rfl b29, fun b29 => ?_⟩
    conv => whnf
    exact ⟨cr_le rfl, cr_le rfl, rfl, h3, f3⟩
  · conv => whnf
    refine ⟨rfl, ?_⟩
    conv => whnf
    refine ⟨_, h.o, _, _, _, _, j_M_isLater hl Z h, by decide, cr_le rfl, cr_le rfl, cr_le rfl, fun v5 H5 q5 _ => ?_, fun kd H9 q9 _ => by cases q9.1⟩
    obtain ⟨q5a, q5b⟩ := q5
    cases q5a
    replace q5b := q5b.symm
    subst q5b
    conv => whnf
    refine ⟨fun b17 => ?_, fun b17 => False.elim (hno ⟨cr_bt b9, cr_bt b17⟩)⟩
    conv => whnf
    refine ⟨rfl, ?_⟩
    conv => whnf
    refine ⟨_, h.o, _, _, _, _, j_M_goes hl Z h false true, by decide, cr_le rfl, cr_le rfl, cr_le rfl, fun v7 H7 q7 _ => ?_, fun kd H9 q9 _ => by cases q9.1⟩
    obtain ⟨q7a, h7, f7⟩ := q7
    cases q7a
    conv => whnf
    refine ⟨fun b29 => absurd rfl b29, fun b29 => ?_⟩
    conv => whnf
    exact ⟨cr_le rfl, cr_le rfl, rfl, h7, f7⟩
set_option maxRecDepth 20000 in
theorem j_M_found_0 (hl : l.flags = flags0) (Z : cr_Z0 s0 D ca e0) (h : mm_R s0 D ca H y ad G) {k : Nat} (hk : k < G 34 0) (hk2 : k < 100) (h34 : G 34 0 < 2 ^ 31) : cr_c l s0 y_M_found cw_M_found 1 0 0 [.ref y, .int (nI k), .int 0] H (mm_Q s0 D ca H y ad (some (.int (nI (G 35 k)))) (mm_up G 0 0 0)) := by
  refine cr_enter (by decide +kernel) (Nat.le_of_ble_eq_true rfl) (fun hlo P9 E9 S9 M9 A9 B9 T9 C9 C hem hH => ?_)
  refine cr_vc [] 90 (s_M_found hl Z C hem) (fun K hK => ?_)
  conv => whnf
  refine ⟨fun b2 => absurd b2 (nI_pos (by omega)), fun b2 => ?_⟩
  conv => whnf
  refine ⟨_, h.o, ?_⟩
  conv => whnf
  refine ⟨fun b10 => absurd b10 (cr_nle hk h34), fun b10 => ?_⟩
  conv => whnf
  refine ⟨fun b16 => absurd b16 (cr_nle (a := 100) hk2 (by decide)), fun b16 => ?_⟩
  conv => whnf
  refine ⟨fun b20 => absurd b20 (by decide), fun b20 => ?_⟩
  conv => whnf
  refine ⟨fun b25 => absurd b25 (by decide), fun b25 => ?_⟩
  conv => whnf
  refine ⟨rfl, ?_⟩
  conv => whnf
  refine ⟨_, h.o, _, _, _, _, j_M_goes hl Z h true true, by decide, cr_le rfl, cr_le rfl, cr_le rfl, fun v6 H6 q6 _ => ?_, fun kd H9 q9 _ => by cases q9.1⟩
  obtain ⟨q6a, h6, f6⟩ := q6
  cases q6a
  conv => whnf
  refine ⟨fun b37 => ?_, fun b37 => absurd b37 (by decide)⟩
  conv => whnf
  refine ⟨fun b43 => absurd rfl b43, fun b43 => ?_⟩
  conv => whnf
  refine ⟨_, h6.o, ?_⟩
  conv => whnf
  refine ⟨_, _, _, h6.a 35 rfl, rfl, hk2, cr_le rfl, ?_⟩
  conv => whnf
  exact ⟨cr_le rfl, cr_le rfl, rfl, h6, f6⟩
set_option maxRecDepth 20000 in
theorem j_M_found_1 (hl : l.flags = flags0) (Z : cr_Z0 s0 D ca e0) (h : mm_R s0 D ca H y ad G) {k : Nat} (hk : k < G 34 0) (hk2 : k < 100) (h34 : G 34 0 < 2 ^ 31) : cr_c l s0 y_M_found cw_M_found 1 0 0 [.ref y, .int (nI k), .int 1] H (mm_Q s0 D ca H y ad (some (.int (nI (G 36 k)))) (mm_up G 0 0 0)) := by
  refine cr_enter (by decide +kernel) (Nat.le_of_ble_eq_true rfl) (fun hlo P9 E9 S9 M9 A9 B9 T9 C9 C hem hH => ?_)
  refine cr_vc [] 90 (s_M_found hl Z C hem) (fun K hK => ?_)
  conv => whnf
  refine ⟨fun b2 => absurd b2 (nI_pos (by omega)), fun b2 => ?_⟩
  conv => whnf
  refine ⟨_, h.o, ?_⟩
  conv => whnf
  refine ⟨fun b10 => absurd b10 (cr_nle hk h34), fun b10 => ?_⟩
  conv => whnf
  refine ⟨fun b16 => absurd b16 (cr_nle (a := 100) hk2 (by decide)), fun b16 => ?_⟩
  conv => whnf
  refine ⟨fun b20 => absurd b20 (by decide), fun b20 => ?_⟩
  conv => whnf
  refine ⟨fun b25 => absurd b25 (by decide), fun b25 => ?_⟩
  conv => whnf
  refine ⟨rfl, ?_⟩
  conv => whnf
  refine ⟨_, h.o, _, _, _, _, j_M_goes hl Z h true true, by decide, cr_le rfl, cr_le rfl, cr_le rfl, fun v6 H6 q6 _ => ?_, fun kd H9 q9 _ => by cases q9.1⟩
  obtain ⟨q6a, h6, f6⟩ := q6
  cases q6a
  conv => whnf
  refine ⟨fun b37 => ?_, fun b37 => absurd b37 (by decide)⟩
  conv => whnf
  refine ⟨fun b43 => ?_, fun b43 => absurd b43 (by decide)⟩
  conv => whnf
  refine ⟨fun b57 => absurd rfl b57, fun b57 => ?_⟩
  conv => whnf
  refine ⟨_, h6.o, ?_⟩
  conv => whnf
  refine ⟨_, _, _, h6.a 36 rfl, rfl, hk2, cr_le rfl, ?_⟩
  conv => whnf
  exact ⟨cr_le rfl, cr_le rfl, rfl, h6, f6⟩
set_option maxRecDepth 20000 in
theorem j_M_found_2 (hl : l.flags = flags0) (Z : cr_Z0 s0 D ca e0) (h : mm_R s0 D ca H y ad G) {k : Nat} (hk : k < G 34 0) (hk2 : k < 100) (h34 : G 34 0 < 2 ^ 31) : cr_c l s0 y_M_found cw_M_found 1 0 0 [.ref y, .int (nI k), .int 2] H (mm_Q s0 D ca H y ad (some (.int (nI (G 37 k)))) (mm_up G 0 0 0)) := by
  refine cr_enter (by decide +kernel) (Nat.le_of_ble_eq_true rfl) (fun hlo P9 E9 S9 M9 A9 B9 T9 C9 C hem hH => ?_)
  refine cr_vc [] 90 (s_M_found hl Z C hem) (fun K hK => ?_)
  conv => whnf
  refine ⟨fun b2 => absurd b2 (nI_pos (by omega)), fun b2 => ?_⟩
  conv => whnf
  refine ⟨_, h.o, ?_⟩
  conv => whnf
  refine ⟨fun b10 => absurd b10 (cr_nle hk h34), fun b10 => ?_⟩
  conv => whnf
  refine ⟨fun b16 => absurd b16 (cr_nle (a := 100) hk2 (by decide)), fun b16 => ?_⟩
  conv => whnf
  refine ⟨fun b20 => absurd b20 (by decide), fun b20 => ?_⟩
  conv => whnf
  refine ⟨fun b25 => absurd b25 (by decide), fun b25 => ?_⟩
  conv => whnf
  refine ⟨rfl, ?_⟩
  conv => whnf
  refine ⟨_, h.o, _, _, _, _, j_M_goes hl Z h true true, by decide, cr_le rfl, cr_le rfl, cr_le rfl, fun v6 H6 q6 _ => ?_, fun kd H9 q9 _ => by cases q9.1⟩
  obtain ⟨q6a, h6, f6⟩ := q6
  cases q6a
  conv => whnf
  refine ⟨fun b37 => ?_, fun b37 => absurd b37 (by decide)⟩
  conv => whnf
  refine ⟨fun b43 => ?_, fun b43 => absurd b43 (by decide)⟩
  conv => whnf
  refine ⟨fun b57 => ?_, fun b57 => absurd b57 (by decide)⟩
  conv => whnf
  refine ⟨fun b71 => absurd rfl b71, fun b71 => ?_⟩
  conv => whnf
  refine ⟨_, h6.o, ?_⟩
  conv => whnf
  refine ⟨_, _, _, h6.a 37 rfl, rfl, hk2, cr_le rfl, ?_⟩
  conv => whnf
  exact ⟨cr_le rfl, cr_le rfl, rfl, h6, f6⟩
set_option maxRecDepth 20000 in
theorem j_M_found_3 (hl : l.flags = flags0) (Z : cr_Z0 s0 D ca e0) (h : mm_R s0 D ca H y ad G) {k : Nat} (hk : k < G 34 0) (hk2 : k < 100) (h34 : G 34 0 < 2 ^ 31) : cr_c l s0 y_M_found cw_M_found 1 0 0 [.ref y, .int (nI k), .int 3] H (mm_Q s0 D ca H y ad (some (.int (nI (G 38 k)))) (mm_up G 0 0 0)) := by
  refine cr_enter (by decide +kernel) (Nat.le_of_ble_eq_true rfl) (fun hlo P9 E9 S9 M9 A9 B9 T9 C9 C hem hH => ?_)
  refine cr_vc [] 90 (s_M_found hl Z C hem) (fun K hK => ?_)
  conv => whnf
  refine ⟨fun b2 => absurd b2 (nI_pos (by omega)), fun b2 => ?_⟩
  conv => whnf
  refine ⟨_, h.o, ?_⟩
  conv => whnf
  refine ⟨fun b10 => absurd b10 (cr_nle hk h34), fun b10 => ?_⟩
  conv => whnf
  refine ⟨fun b16 => absurd b16 (cr_nle (a := 100) hk2 (by decide)), fun b16 => ?_⟩
  conv => whnf
  refine ⟨fun b20 => absurd b20 (by decide), fun b20 => ?_⟩
  conv => whnf
  refine ⟨fun b25 => absurd b25 (by decide), fun b25 => ?_⟩
  conv => whnf
  refine ⟨rfl, ?_⟩
  conv => whnf
  refine ⟨_, h.o, _, _, _, _, j_M_goes hl Z h true true, by decide, cr_le rfl, cr_le rfl, cr_le rfl, fun v6 H6 q6 _ => ?_, fun kd H9 q9 _ => by cases q9.1⟩
  obtain ⟨q6a, h6, f6⟩ := q6
  cases q6a
  conv => whnf
  refine ⟨fun b37 => ?_, fun b37 => absurd b37 (by decide)⟩
  conv => whnf
  refine ⟨fun b43 => ?_, fun b43 => absurd b43 (by decide)⟩
  conv => whnf
  refine ⟨fun b57 => ?_, fun b57 => absurd b57 (by decide)⟩
  conv => whnf
  refine ⟨fun b71 => ?_, fun b71 => absurd b71 (by decide)⟩
  conv => whnf
  refine ⟨_, h6.o, ?_⟩
  conv => whnf
  refine ⟨_, _, _, h6.a 38 rfl, rfl, hk2, cr_le rfl, ?_⟩
  conv => whnf
  exact ⟨cr_le rfl, cr_le rfl, rfl, h6, f6⟩
set_option maxRecDepth 20000 in
theorem j_M_found_a (hl : l.flags = flags0) (Z : cr_Z0 s0 D ca e0) (h : mm_R s0 D ca H y ad G) {k w : Int32} (hno : ¬ (¬ k < 0 ∧ ¬ nI (G 34 0) ≤ k ∧ ¬ 100 ≤ k ∧ ¬ w < 0 ∧ ¬ 3 < w)) : cr_c l s0 y_M_found cw_M_found 1 0 0 [.ref y, .int k, .int w] H (mm_Q s0 D ca H y ad (some (.int 0)) (mm_up G 0 0 1)) := by
  refine cr_enter (by decide +kernel) (Nat.le_of_ble_eq_true rfl) (fun hlo P9 E9 S9 M9 A9 B9 T9 C9 C hem hH => ?_)
  refine cr_vc [] 90 (s_M_found hl Z C hem) (fun K hK => ?_)
  conv => whnf
  refine ⟨fun b2 => ?_, fun b2 => ?_⟩
  · conv => whnf
    refine ⟨rfl, ?_⟩
    conv => whnf
    refine ⟨_, h.o, _, _, _, _, j_M_goes hl Z h false true, by decide, cr_le rfl, cr_le rfl, cr_le rfl, fun v2 H2 q2 _ => ?_, fun kd H9 q9 _ => by cases q9.1⟩
    obtain ⟨q2a, h2, f2⟩ := q2
    cases q2a
    conv => whnf
    refine ⟨fun b37 => absurd rfl b37, fun b37 => ?_⟩
    conv => whnf
    exact ⟨cr_le rfl, cr_le rfl, rfl, h2, f2⟩
  · conv => whnf
    refine ⟨_, h.o, ?_⟩
    conv => whnf
    refine ⟨fun b10 => ?_, fun b10 => ?_⟩
    · conv => whnf
      refine ⟨rfl, ?_⟩
      conv => whnf
      refine ⟨_, h.o, _, _, _, _, j_M_goes hl Z h false true, by decide, cr_le rfl, cr_le rfl, cr_le rfl, fun v5 H5 q5 _ => ?_, fun kd H9 q9 _ => by cases q9.1⟩
      obtain ⟨q5a, h5, f5⟩ := q5
      cases q5a
      conv => whnf
      refine ⟨fun b37 => absurd rfl b37, fun b37 => ?_⟩
      conv => whnf
      exact ⟨cr_le rfl, cr_le rfl, rfl, h5, f5⟩
    · conv => whnf
      refine ⟨fun b16 => ?_, fun b16 => ?_⟩
      · conv => whnf
        refine ⟨rfl, ?_⟩
        conv => whnf
        refine ⟨_, h.o, _, _, _, _, j_M_goes hl Z h false true, by decide, cr_le rfl, cr_le rfl, cr_le rfl, fun v8 H8 q8 _ => ?_, fun kd H9 q9 _ => by cases q9.1⟩
        obtain ⟨q8a, h8, f8⟩ := q8
        cases q8a
        conv => whnf
        refine ⟨fun b37 => absurd rfl b37, fun b37 => ?_⟩
        conv => whnf
        exact ⟨cr_le rfl, cr_le rfl, rfl, h8, f8⟩
      · conv => whnf
        refine ⟨fun b20 => ?_, fun b20 => ?_⟩
        · conv => whnf
          refine ⟨rfl, ?_⟩
          conv => whnf
          refine ⟨_, h.o, _, _, _, _, j_M_goes hl Z h false true, by decide, cr_le rfl, cr_le rfl, cr_le rfl, fun v11 H11 q11 _ => ?_, fun kd H9 q9 _ => by cases q9.1⟩
          obtain ⟨q11a, h11, f11⟩ := q11
          cases q11a
          conv => whnf
          refine ⟨fun b37 => absurd rfl b37, fun b37 => ?_⟩
          conv => whnf
          exact ⟨cr_le rfl, cr_le rfl, rfl, h11, f11⟩
        · conv => whnf
          refine ⟨fun b25 => ?_, fun b25 => False.elim (hno ⟨b2, b10, b16, b20, b25⟩)⟩
          conv => whnf
          refine ⟨rfl, ?_⟩
          conv => whnf
          refine ⟨_, h.o, _, _, _, _, j_M_goes hl Z h false true, by decide, cr_le rfl, cr_le rfl, cr_le rfl, fun v14 H14 q14 _ => ?_, fun kd H9 q9 _ => by cases q9.1⟩
          obtain ⟨q14a, h14, f14⟩ := q14
          cases q14a
          conv => whnf
          refine ⟨fun b37 => absurd rfl b37, fun b37 => ?_⟩
          conv => whnf
          exact ⟨cr_le rfl, cr_le rfl, rfl, h14, f14⟩
end MOP
