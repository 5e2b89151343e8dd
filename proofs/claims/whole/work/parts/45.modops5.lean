/-! THE REFERENCE's methods: asks, both (printed by gen/ops5.py) -/
section MOP5
variable {l : Launch} {s0 : State} {D : va_G} {ca : Nat → ClassId} {e0 : Nat} {H : Heap} {y : Nat} {ad : Nat → Nat} {G : mm_G}
theorem j_M_isOf_t (hl : l.flags = flags0) (Z : cr_Z0 s0 D ca e0) (h : mm_R s0 D ca H y ad G) {d r : Int32} (hd : G 4 0 ≤ 30) (h9 : mm_io G d r = true) : cr_c l s0 y_M_isOf cw_M_isOf 1 0 0 [.ref y, .int d, .int r] H (cr_pu (some (.int 1)) H) := by
  have q := j_M_isOf (d := d) (r := r) hl Z h hd
  rw [h9] at q
  exact q
def mm_aw (G : mm_G) (c d room m : Nat) : Int32 := if mm_rf G c d room m = 0 then (if nI (G 7 d) = 0 then 0 else 7) else mm_rf G c d room m
def mm_ag (G : mm_G) (c d room m : Nat) : mm_G := if mm_aw G c d room m = 0 then mm_lt G c d room m else G
theorem mm_lt_k {G : mm_G} {c d room m k i : Nat} (h1 : k ≠ 33) (h2 : k ≠ 32) (h3 : k ≠ 18) (h4 : k ≠ 13) (h5 : k ≠ 14) (h6 : k ≠ 15) (h7 : k ≠ 12) : mm_lt G c d room m k i = G k i := by
  have e : ∀ fb u, mm_ad G fb u k i = G k i := by
    intro fb u
    cases fb with
    | false => rfl
    | true =>
      show mm_up _ _ _ _ _ _ = _
      rw [mm_up_k _ _ _ _ h2, mm_up_k _ _ _ _ h1]
  unfold mm_lt mm_le
  split
  · rw [mm_up_k _ _ _ _ h3, e]
  · rw [mm_up_k _ _ _ _ h7, mm_up_k _ _ _ _ h6, mm_up_k _ _ _ _ h5, mm_up_k _ _ _ _ h4, e]
theorem mm_ad_k {G : mm_G} {fb : Bool} {u k i : Nat} (h1 : k ≠ 33) (h2 : k ≠ 32) : mm_ad G fb u k i = G k i := by
  cases fb with
  | false => rfl
  | true =>
    show mm_up _ _ _ _ _ _ = _
    rw [mm_up_k _ _ _ _ h2, mm_up_k _ _ _ _ h1]
theorem mm_lt_32 (G : mm_G) (c d room m : Nat) : mm_lt G c d room m 32 0 ≤ G 32 0 + 1 := by
  have e : ∀ fb u, mm_ad G fb u 32 0 ≤ G 32 0 + 1 := by
    intro fb u
    cases fb with
    | false => exact Nat.le_succ _
    | true => exact Nat.le_of_eq (mm_up_s (mm_up G 33 (G 32 0) u) 32 0 (G 32 0 + 1))
  unfold mm_lt mm_le
  split
  · rw [mm_up_k _ _ _ _ (by decide)]
    exact e _ _
  · rw [mm_up_k _ _ _ _ (by decide), mm_up_k _ _ _ _ (by decide), mm_up_k _ _ _ _ (by decide), mm_up_k _ _ _ _ (by decide)]
    exact e _ _
theorem mm_lt_12 (G : mm_G) (c d room m : Nat) : mm_lt G c d room m 12 d ≤ G 12 d + 1 := by
  unfold mm_lt mm_le
  split
  · rw [mm_up_k _ _ _ _ (by decide), mm_ad_k (by decide) (by decide)]
    exact Nat.le_succ _
  · exact Nat.le_of_eq (mm_up_s _ _ _ _)
def mm_b2 (G : mm_G) (a b d room m : Nat) : Int32 := if mm_rf G a d room m ≤ 0 then mm_rf G b d room m else mm_rf G a d room m
def mm_bw (G : mm_G) (a b d room m : Nat) : Int32 := if mm_b2 G a b d room m ≤ 0 then (if nI (G 20 a) = nI (G 20 b) then 8 else 0) else mm_b2 G a b d room m
def mm_bg (G : mm_G) (a b d room m : Nat) : mm_G := if mm_bw G a b d room m = 0 then mm_lt (mm_lt G a d room m) b d room m else G
set_option maxRecDepth 20000 in
theorem j_M_asks_ok (hl : l.flags = flags0) (Z : cr_Z0 s0 D ca e0) (h : mm_R s0 D ca H y ad G) {c d room m : Nat} (hc : c < G 19 0) (hc2 : G 19 0 ≤ 60) (hp : G 20 c < 40) (hu9 : G 32 0 < 9000) (hrw : G 12 d < 50) (hd9 : d < 30) (hr : room < 20) (h22 : G 22 0 ≤ 16) (h4 : G 4 0 ≤ 30) (hB : ∀ t, t < 9000 → G 29 t < 2 ^ 31 ∧ G 30 t < 2 ^ 31) (hb : G 10 d < 2 ^ 31) (ht : G 28 0 ≤ 9000) (hio : mm_io G (nI d) (nI room) = true) (hla : mm_la G (nI m) = true) (hm : m < 2 ^ 31) : cr_c l s0 y_M_asks cw_M_asks 3 0 0 [.ref y, .int (nI c), .int (nI d), .int (nI room), .int (nI m)] H (mm_Q s0 D ca H y ad (some (.int (mm_aw (mm_up (mm_up G 0 0 0) 1 0 m) c d room m))) (mm_ag (mm_up (mm_up G 0 0 0) 1 0 m) c d room m)) := by
  refine cr_enter (by decide +kernel) (Nat.le_of_ble_eq_true rfl) (fun hlo P9 E9 S9 M9 A9 B9 T9 C9 C hem hH => ?_)
  refine cr_vc [] 90 (s_M_asks hl Z C hem) (fun K hK => ?_)
  conv => whnf
  refine ⟨_, h.o, ?_⟩
  conv => whnf
  refine ⟨rfl, ?_⟩
  conv => whnf
  refine ⟨_, _, _, _, j_M_isIn_t hl Z (mm_in_of hc (by omega)), by decide, cr_le rfl, cr_le rfl, cr_le rfl, fun v1 H1 q1 _ => ?_, fun kd H9 q9 _ => by cases q9.1⟩
  obtain ⟨q1a, q1b⟩ := q1
  cases q1a
  replace q1b := q1b.symm
  subst q1b
  conv => whnf
  refine ⟨fun b8 => absurd b8 (by decide), fun b8 => ?_⟩
  conv => whnf
  refine ⟨rfl, ?_⟩
  conv => whnf
  refine ⟨_, h.o, _, _, _, _, j_M_isOf_t hl Z h h4 hio, by decide, cr_le rfl, cr_le rfl, cr_le rfl, fun v3 H3 q3 _ => ?_, fun kd H9 q9 _ => by cases q9.1⟩
  obtain ⟨q3a, q3b⟩ := q3
  cases q3a
  replace q3b := q3b.symm
  subst q3b
  conv => whnf
  refine ⟨fun b17 => absurd b17 (by decide), fun b17 => ?_⟩
  conv => whnf
  refine ⟨rfl, ?_⟩
  conv => whnf
  refine ⟨_, h.o, _, _, _, _, j_M_isLater_t hl Z h hla, by decide, cr_le rfl, cr_le rfl, cr_le rfl, fun v5 H5 q5 _ => ?_, fun kd H9 q9 _ => by cases q9.1⟩
  obtain ⟨q5a, q5b⟩ := q5
  cases q5a
  replace q5b := q5b.symm
  subst q5b
  conv => whnf
  refine ⟨fun b26 => absurd b26 (by decide), fun b26 => ?_⟩
  conv => whnf
  refine ⟨cr_le rfl, ?_⟩
  conv => whnf
  refine ⟨fun b41 => absurd b41 (by decide), fun b41 => ?_⟩
  conv => whnf
  refine ⟨_, h.o, ?_⟩
  conv => whnf
  refine ⟨_, _, _, h.a 12 rfl, rfl, hd9, cr_le rfl, ?_⟩
  conv => whnf
  refine ⟨fun b52 => absurd b52 (cr_nle (a := 50) hrw (by decide)), fun b52 => ?_⟩
  conv => whnf
  refine ⟨rfl, ?_⟩
  conv => whnf
  refine ⟨_, h.o, _, _, _, _, j_M_goes hl Z h true true, by decide, cr_le rfl, cr_le rfl, cr_le rfl, fun v9 H9 q9 _ => ?_, fun kd H9 q9 _ => by cases q9.1⟩
  obtain ⟨q9a, h9, f9⟩ := q9
  cases q9a
  conv => whnf
  refine ⟨fun b63 => ?_, fun b63 => absurd b63 (by decide)⟩
  conv => whnf
  refine ⟨_, h9.o, h9.1, ⟨rfl, rfl⟩, ?_⟩
  conv => whnf
  intro H11 u11
  have h11 := h9.put (k := 1) (v := m) rfl u11
  conv => whnf
  refine ⟨rfl, ?_⟩
  conv => whnf
  refine ⟨_, h11.o, _, _, _, _, j_M_refused hl Z h11 (show c < 60 by omega) hd9 hr hp h22 h4 hB hb ht, by decide, cr_le rfl, cr_le rfl, cr_le rfl, fun v12 H12 q12 _ => ?_, fun kd H9 q9 _ => by cases q9.1⟩
  obtain ⟨q12a, q12b⟩ := q12
  cases q12a
  replace q12b := q12b.symm
  subst q12b
  conv => whnf
  refine ⟨cr_le rfl, ?_⟩
  conv => whnf
  refine ⟨fun b87 => ?_, fun b87 => ?_⟩
  · conv => whnf
    refine ⟨cr_le rfl, ?_⟩
    conv => whnf
    refine ⟨fun b110 => ?_, fun b110 => absurd b110 b87⟩
    conv => whnf
    exact ⟨cr_le rfl, cr_le rfl, (by unfold mm_aw; rw [if_neg (show ¬ mm_rf (mm_up (mm_up G 0 0 0) 1 0 m) c d room m = 0 from b87)]; rfl), (by unfold mm_ag mm_aw; rw [if_neg (show ¬ mm_rf (mm_up (mm_up G 0 0 0) 1 0 m) c d room m = 0 from b87), if_neg (show ¬ mm_rf (mm_up (mm_up G 0 0 0) 1 0 m) c d room m = 0 from b87)]; exact h11), (f9.tr (mm_Fr.ob u11))⟩
  · conv => whnf
    refine ⟨_, h11.o, ?_⟩
    conv => whnf
    refine ⟨_, _, _, h11.a 7 rfl, rfl, hd9, cr_le rfl, ?_⟩
    conv => whnf
    refine ⟨fun b96 => ?_, fun b96 => ?_⟩
    · conv => whnf
      refine ⟨cr_le rfl, ?_⟩
      conv => whnf
      refine ⟨fun b110 => absurd b87 b110, fun b110 => ?_⟩
      conv => whnf
      refine ⟨rfl, ?_⟩
      conv => whnf
      refine ⟨_, h11.o, _, _, _, _, j_M_let hl Z h11 (show c < 60 by omega) hd9 hr hp hm hu9 hrw, by decide, cr_le rfl, cr_le rfl, cr_le rfl, fun v17 H17 q17 _ => ?_, fun kd H9 q9 _ => by cases q9.1⟩
      obtain ⟨q17a, h17, f17⟩ := q17
      cases q17a
      conv => whnf
      exact ⟨cr_le rfl, cr_le rfl, (by unfold mm_aw; rw [if_pos (show mm_rf (mm_up (mm_up G 0 0 0) 1 0 m) c d room m = 0 from b87), if_pos (show nI ((mm_up (mm_up G 0 0 0) 1 0 m) 7 d) = 0 from b96)]; exact congrArg (fun x => Sum.inl (some (Value.int x))) (show mm_rf (mm_up (mm_up G 0 0 0) 1 0 m) c d room m = 0 from b87)), (by unfold mm_ag mm_aw; rw [if_pos (show mm_rf (mm_up (mm_up G 0 0 0) 1 0 m) c d room m = 0 from b87), if_pos (show nI ((mm_up (mm_up G 0 0 0) 1 0 m) 7 d) = 0 from b96), if_pos rfl]; exact h17), ((f9.tr (mm_Fr.ob u11)).tr f17)⟩
    · conv => whnf
      refine ⟨cr_le rfl, ?_⟩
      conv => whnf
      refine ⟨fun b110 => ?_, fun b110 => absurd b110 (by decide)⟩
      conv => whnf
      exact ⟨cr_le rfl, cr_le rfl, (by unfold mm_aw; rw [if_pos (show mm_rf (mm_up (mm_up G 0 0 0) 1 0 m) c d room m = 0 from b87), if_neg (show ¬ nI ((mm_up (mm_up G 0 0 0) 1 0 m) 7 d) = 0 from b96)]), (by unfold mm_ag mm_aw; rw [if_pos (show mm_rf (mm_up (mm_up G 0 0 0) 1 0 m) c d room m = 0 from b87), if_neg (show ¬ nI ((mm_up (mm_up G 0 0 0) 1 0 m) 7 d) = 0 from b96), if_neg (by decide)]; exact h11), (f9.tr (mm_Fr.ob u11))⟩
set_option maxRecDepth 20000 in
theorem j_M_asks_s (hl : l.flags = flags0) (Z : cr_Z0 s0 D ca e0) (h : mm_R s0 D ca H y ad G) {c d room m : Nat} (hc : c < G 19 0) (hc2 : G 19 0 ≤ 60) (hrw : 50 ≤ G 12 d) (hrw2 : G 12 d < 2 ^ 31) (hd9 : d < 30) (hr : room < 20) (h22 : G 22 0 ≤ 16) (h4 : G 4 0 ≤ 30) (hB : ∀ t, t < 9000 → G 29 t < 2 ^ 31 ∧ G 30 t < 2 ^ 31) (hb : G 10 d < 2 ^ 31) (ht : G 28 0 ≤ 9000) (hio : mm_io G (nI d) (nI room) = true) (hla : mm_la G (nI m) = true) (hm : m < 2 ^ 31) : cr_c l s0 y_M_asks cw_M_asks 3 0 0 [.ref y, .int (nI c), .int (nI d), .int (nI room), .int (nI m)] H (mm_Q s0 D ca H y ad (some (.int 0)) (mm_up G 0 0 2)) := by
  refine cr_enter (by decide +kernel) (Nat.le_of_ble_eq_true rfl) (fun hlo P9 E9 S9 M9 A9 B9 T9 C9 C hem hH => ?_)
  refine cr_vc [] 90 (s_M_asks hl Z C hem) (fun K hK => ?_)
  conv => whnf
  refine ⟨_, h.o, ?_⟩
  conv => whnf
  refine ⟨rfl, ?_⟩
  conv => whnf
  refine ⟨_, _, _, _, j_M_isIn_t hl Z (mm_in_of hc (by omega)), by decide, cr_le rfl, cr_le rfl, cr_le rfl, fun v1 H1 q1 _ => ?_, fun kd H9 q9 _ => by cases q9.1⟩
  obtain ⟨q1a, q1b⟩ := q1
  cases q1a
  replace q1b := q1b.symm
  subst q1b
  conv => whnf
  refine ⟨fun b8 => absurd b8 (by decide), fun b8 => ?_⟩
  conv => whnf
  refine ⟨rfl, ?_⟩
  conv => whnf
  refine ⟨_, h.o, _, _, _, _, j_M_isOf_t hl Z h h4 hio, by decide, cr_le rfl, cr_le rfl, cr_le rfl, fun v3 H3 q3 _ => ?_, fun kd H9 q9 _ => by cases q9.1⟩
  obtain ⟨q3a, q3b⟩ := q3
  cases q3a
  replace q3b := q3b.symm
  subst q3b
  conv => whnf
  refine ⟨fun b17 => absurd b17 (by decide), fun b17 => ?_⟩
  conv => whnf
  refine ⟨rfl, ?_⟩
  conv => whnf
  refine ⟨_, h.o, _, _, _, _, j_M_isLater_t hl Z h hla, by decide, cr_le rfl, cr_le rfl, cr_le rfl, fun v5 H5 q5 _ => ?_, fun kd H9 q9 _ => by cases q9.1⟩
  obtain ⟨q5a, q5b⟩ := q5
  cases q5a
  replace q5b := q5b.symm
  subst q5b
  conv => whnf
  refine ⟨fun b26 => absurd b26 (by decide), fun b26 => ?_⟩
  conv => whnf
  refine ⟨cr_le rfl, ?_⟩
  conv => whnf
  refine ⟨fun b41 => absurd b41 (by decide), fun b41 => ?_⟩
  conv => whnf
  refine ⟨_, h.o, ?_⟩
  conv => whnf
  refine ⟨_, _, _, h.a 12 rfl, rfl, hd9, cr_le rfl, ?_⟩
  conv => whnf
  refine ⟨fun b52 => ?_, fun b52 => absurd (nI_le (a := 50) hrw hrw2) b52⟩
  conv => whnf
  refine ⟨rfl, ?_⟩
  conv => whnf
  refine ⟨_, h.o, _, _, _, _, j_M_goes hl Z h true false, by decide, cr_le rfl, cr_le rfl, cr_le rfl, fun v9 H9 q9 _ => ?_, fun kd H9 q9 _ => by cases q9.1⟩
  obtain ⟨q9a, h9, f9⟩ := q9
  cases q9a
  conv => whnf
  refine ⟨fun b63 => absurd rfl b63, fun b63 => ?_⟩
  conv => whnf
  exact ⟨cr_le rfl, cr_le rfl, rfl, h9, f9⟩
set_option maxRecDepth 20000 in
theorem j_M_asks_a (hl : l.flags = flags0) (Z : cr_Z0 s0 D ca e0) (h : mm_R s0 D ca H y ad G) {c d room m : Int32} (h4 : G 4 0 ≤ 30) (hno : ¬ (mm_in c (nI (G 19 0)) = true ∧ mm_io G d room = true ∧ mm_la G m = true)) : cr_c l s0 y_M_asks cw_M_asks 3 0 0 [.ref y, .int c, .int d, .int room, .int m] H (mm_Q s0 D ca H y ad (some (.int 0)) (mm_up G 0 0 1)) := by
  refine cr_enter (by decide +kernel) (Nat.le_of_ble_eq_true rfl) (fun hlo P9 E9 S9 M9 A9 B9 T9 C9 C hem hH => ?_)
  refine cr_vc [] 90 (s_M_asks hl Z C hem) (fun K hK => ?_)
  conv => whnf
  refine ⟨_, h.o, ?_⟩
  conv => whnf
  refine ⟨rfl, ?_⟩
  conv => whnf
  refine ⟨_, _, _, _, j_M_isIn hl Z, by decide, cr_le rfl, cr_le rfl, cr_le rfl, fun v1 H1 q1 _ => ?_, fun kd H9 q9 _ => by cases q9.1⟩
  obtain ⟨q1a, q1b⟩ := q1
  cases q1a
  replace q1b := q1b.symm
  subst q1b
  conv => whnf
  refine ⟨fun b8 => ?_, fun b8 => ?_⟩
  · conv => whnf
    refine ⟨cr_le rfl, ?_⟩
    conv => whnf
    refine ⟨fun b41 => ?_, fun b41 => absurd rfl b41⟩
    conv => whnf
    refine ⟨rfl, ?_⟩
    conv => whnf
    refine ⟨_, h.o, _, _, _, _, j_M_goes hl Z h false false, by decide, cr_le rfl, cr_le rfl, cr_le rfl, fun v4 H4 q4 _ => ?_, fun kd H9 q9 _ => by cases q9.1⟩
    obtain ⟨q4a, h4, f4⟩ := q4
    cases q4a
    conv => whnf
    refine ⟨fun b63 => absurd rfl b63, fun b63 => ?_⟩
    conv => whnf
    exact ⟨cr_le rfl, cr_le rfl, rfl, h4, f4⟩
  · conv => whnf
    refine ⟨rfl, ?_⟩
    conv => whnf
    refine ⟨_, h.o, _, _, _, _, j_M_isOf hl Z h h4, by decide, cr_le rfl, cr_le rfl, cr_le rfl, fun v6 H6 q6 _ => ?_, fun kd H9 q9 _ => by cases q9.1⟩
    obtain ⟨q6a, q6b⟩ := q6
    cases q6a
    replace q6b := q6b.symm
    subst q6b
    conv => whnf
    refine ⟨fun b17 => ?_, fun b17 => ?_⟩
    · conv => whnf
      refine ⟨cr_le rfl, ?_⟩
      conv => whnf
      refine ⟨fun b41 => ?_, fun b41 => absurd rfl b41⟩
      conv => whnf
      refine ⟨rfl, ?_⟩
      conv => whnf
      refine ⟨_, h.o, _, _, _, _, j_M_goes hl Z h false false, by decide, cr_le rfl, cr_le rfl, cr_le rfl, fun v9 H9 q9 _ => ?_, fun kd H9 q9 _ => by cases q9.1⟩
      obtain ⟨q9a, h9, f9⟩ := q9
      cases q9a
      conv => whnf
      refine ⟨fun b63 => absurd rfl b63, fun b63 => ?_⟩
      conv => whnf
      exact ⟨cr_le rfl, cr_le rfl, rfl, h9, f9⟩
    · conv => whnf
      refine ⟨rfl, ?_⟩
      conv => whnf
      refine ⟨_, h.o, _, _, _, _, j_M_isLater hl Z h, by decide, cr_le rfl, cr_le rfl, cr_le rfl, fun v11 H11 q11 _ => ?_, fun kd H9 q9 _ => by cases q9.1⟩
      obtain ⟨q11a, q11b⟩ := q11
      cases q11a
      replace q11b := q11b.symm
      subst q11b
      conv => whnf
      refine ⟨fun b26 => ?_, fun b26 => False.elim (hno ⟨cr_bt b8, cr_bt b17, cr_bt b26⟩)⟩
      conv => whnf
      refine ⟨cr_le rfl, ?_⟩
      conv => whnf
      refine ⟨fun b41 => ?_, fun b41 => absurd rfl b41⟩
      conv => whnf
      refine ⟨rfl, ?_⟩
      conv => whnf
      refine ⟨_, h.o, _, _, _, _, j_M_goes hl Z h false false, by decide, cr_le rfl, cr_le rfl, cr_le rfl, fun v14 H14 q14 _ => ?_, fun kd H9 q9 _ => by cases q9.1⟩
      obtain ⟨q14a, h14, f14⟩ := q14
      cases q14a
      conv => whnf
      refine ⟨fun b63 => absurd rfl b63, fun b63 => ?_⟩
      conv => whnf
      exact ⟨cr_le rfl, cr_le rfl, rfl, h14, f14⟩
set_option maxRecDepth 20000 in
theorem j_M_both_ok (hl : l.flags = flags0) (Z : cr_Z0 s0 D ca e0) (h : mm_R s0 D ca H y ad G) {a b d room m : Nat} (ha : a < G 19 0) (hb9 : b < G 19 0) (hab : a ≠ b) (hc2 : G 19 0 ≤ 60) (hpa : G 20 a < 40) (hpb : G 20 b < 40) (hu9 : G 32 0 < 8999) (hrw : G 12 d < 49) (hd9 : d < 30) (hr : room < 20) (h22 : G 22 0 ≤ 16) (h4 : G 4 0 ≤ 30) (hB : ∀ t, t < 9000 → G 29 t < 2 ^ 31 ∧ G 30 t < 2 ^ 31) (hb : G 10 d < 2 ^ 31) (ht : G 28 0 ≤ 9000) (hio : mm_io G (nI d) (nI room) = true) (hla : mm_la G (nI m) = true) (hm : m < 2 ^ 31) : cr_c l s0 y_M_both cw_M_both 3 0 0 [.ref y, .int (nI a), .int (nI b), .int (nI d), .int (nI room), .int (nI m)] H (mm_Q s0 D ca H y ad (some (.int (mm_bw (mm_up (mm_up G 0 0 0) 1 0 m) a b d room m))) (mm_bg (mm_up (mm_up G 0 0 0) 1 0 m) a b d room m)) := by
  refine cr_enter (by decide +kernel) (Nat.le_of_ble_eq_true rfl) (fun hlo P9 E9 S9 M9 A9 B9 T9 C9 C hem hH => ?_)
  refine cr_vc [] 90 (s_M_both hl Z C hem) (fun K hK => ?_)
  conv => whnf
  refine ⟨_, h.o, ?_⟩
  conv => whnf
  refine ⟨rfl, ?_⟩
  conv => whnf
  refine ⟨_, _, _, _, j_M_isIn_t hl Z (mm_in_of ha (by omega)), by decide, cr_le rfl, cr_le rfl, cr_le rfl, fun v1 H1 q1 _ => ?_, fun kd H9 q9 _ => by cases q9.1⟩
  obtain ⟨q1a, q1b⟩ := q1
  cases q1a
  replace q1b := q1b.symm
  subst q1b
  conv => whnf
  refine ⟨fun b8 => absurd b8 (by decide), fun b8 => ?_⟩
  conv => whnf
  refine ⟨_, h.o, ?_⟩
  conv => whnf
  refine ⟨rfl, ?_⟩
  conv => whnf
  refine ⟨_, _, _, _, j_M_isIn_t hl Z (mm_in_of hb9 (by omega)), by decide, cr_le rfl, cr_le rfl, cr_le rfl, fun v3 H3 q3 _ => ?_, fun kd H9 q9 _ => by cases q9.1⟩
  obtain ⟨q3a, q3b⟩ := q3
  cases q3a
  replace q3b := q3b.symm
  subst q3b
  conv => whnf
  refine ⟨fun b19 => absurd b19 (by decide), fun b19 => ?_⟩
  conv => whnf
  refine ⟨fun b24 => absurd ((nI_eq (by omega) (by omega)).mp b24) hab, fun b24 => ?_⟩
  conv => whnf
  refine ⟨rfl, ?_⟩
  conv => whnf
  refine ⟨_, h.o, _, _, _, _, j_M_isOf_t hl Z h h4 hio, by decide, cr_le rfl, cr_le rfl, cr_le rfl, fun v6 H6 q6 _ => ?_, fun kd H9 q9 _ => by cases q9.1⟩
  obtain ⟨q6a, q6b⟩ := q6
  cases q6a
  replace q6b := q6b.symm
  subst q6b
  conv => whnf
  refine ⟨fun b34 => absurd b34 (by decide), fun b34 => ?_⟩
  conv => whnf
  refine ⟨rfl, ?_⟩
  conv => whnf
  refine ⟨_, h.o, _, _, _, _, j_M_isLater_t hl Z h hla, by decide, cr_le rfl, cr_le rfl, cr_le rfl, fun v8 H8 q8 _ => ?_, fun kd H9 q9 _ => by cases q9.1⟩
  obtain ⟨q8a, q8b⟩ := q8
  cases q8a
  replace q8b := q8b.symm
  subst q8b
  conv => whnf
  refine ⟨fun b43 => absurd b43 (by decide), fun b43 => ?_⟩
  conv => whnf
  refine ⟨cr_le rfl, ?_⟩
  conv => whnf
  refine ⟨fun b58 => absurd b58 (by decide), fun b58 => ?_⟩
  conv => whnf
  refine ⟨_, h.o, ?_⟩
  conv => whnf
  refine ⟨_, _, _, h.a 12 rfl, rfl, hd9, cr_le rfl, ?_⟩
  conv => whnf
  refine ⟨fun b69 => absurd b69 (cr_nle (a := 49) hrw (by decide)), fun b69 => ?_⟩
  conv => whnf
  refine ⟨rfl, ?_⟩
  conv => whnf
  refine ⟨_, h.o, _, _, _, _, j_M_goes hl Z h true true, by decide, cr_le rfl, cr_le rfl, cr_le rfl, fun v12 H12 q12 _ => ?_, fun kd H9 q9 _ => by cases q9.1⟩
  obtain ⟨q12a, h12, f12⟩ := q12
  cases q12a
  conv => whnf
  refine ⟨fun b80 => ?_, fun b80 => absurd b80 (by decide)⟩
  conv => whnf
  refine ⟨_, h12.o, h12.1, ⟨rfl, rfl⟩, ?_⟩
  conv => whnf
  intro H14 u14
  have h14 := h12.put (k := 1) (v := m) rfl u14
  conv => whnf
  refine ⟨rfl, ?_⟩
  conv => whnf
  refine ⟨_, h14.o, _, _, _, _, j_M_refused (c := a) hl Z h14 (show a < 60 by omega) hd9 hr hpa h22 h4 hB hb ht, by decide, cr_le rfl, cr_le rfl, cr_le rfl, fun v15 H15 q15 _ => ?_, fun kd H9 q9 _ => by cases q9.1⟩
  obtain ⟨q15a, q15b⟩ := q15
  cases q15a
  replace q15b := q15b.symm
  subst q15b
  conv => whnf
  refine ⟨cr_le rfl, ?_⟩
  conv => whnf
  refine ⟨fun b105 => ?_, fun b105 => ?_⟩
  · conv => whnf
    refine ⟨rfl, ?_⟩
    conv => whnf
    refine ⟨_, h14.o, _, _, _, _, j_M_refused (c := b) hl Z h14 (show b < 60 by omega) hd9 hr hpb h22 h4 hB hb ht, by decide, cr_le rfl, cr_le rfl, cr_le rfl, fun v17 H17 q17 _ => ?_, fun kd H9 q9 _ => by cases q9.1⟩
    obtain ⟨q17a, q17b⟩ := q17
    cases q17a
    replace q17b := q17b.symm
    subst q17b
    conv => whnf
    refine ⟨cr_le rfl, ?_⟩
    conv => whnf
    refine ⟨fun b127 => ?_, fun b127 => ?_⟩
    · conv => whnf
      refine ⟨_, h14.o, ?_⟩
      conv => whnf
      refine ⟨_, _, _, h14.a 20 rfl, rfl, show a < 60 by omega, cr_le rfl, ?_⟩
      conv => whnf
      refine ⟨_, h14.o, ?_⟩
      conv => whnf
      refine ⟨_, _, _, h14.a 20 rfl, rfl, show b < 60 by omega, cr_le rfl, ?_⟩
      conv => whnf
      refine ⟨fun b147 => ?_, fun b147 => ?_⟩
      · conv => whnf
        refine ⟨cr_le rfl, ?_⟩
        conv => whnf
        refine ⟨fun b160 => absurd rfl b160, fun b160 => ?_⟩
        conv => whnf
        refine ⟨rfl, ?_⟩
        conv => whnf
        refine ⟨_, h14.o, _, _, _, _, j_M_let (c := a) hl Z h14 (show a < 60 by omega) hd9 hr hpa hm (show G 32 0 < 9000 by omega) (show G 12 d < 50 by omega), by decide, cr_le rfl, cr_le rfl, cr_le rfl, fun v21 H21 q21 _ => ?_, fun kd H9 q9 _ => by cases q9.1⟩
        obtain ⟨q21a, h21, f21⟩ := q21
        cases q21a
        conv => whnf
        refine ⟨rfl, ?_⟩
        conv => whnf
        refine ⟨_, h21.o, _, _, _, _, j_M_let (c := b) hl Z h21 (show b < 60 by omega) hd9 hr (show (mm_lt (mm_up (mm_up G 0 0 0) 1 0 m) a d room m) 20 b < 40 by rw [mm_lt_k (by decide) (by decide) (by decide) (by decide) (by decide) (by decide) (by decide)]; exact hpb) hm (Nat.lt_of_le_of_lt (mm_lt_32 _ _ _ _ _) (show G 32 0 + 1 < 9000 by omega)) (Nat.lt_of_le_of_lt (mm_lt_12 _ _ _ _ _) (show G 12 d + 1 < 50 by omega)), by decide, cr_le rfl, cr_le rfl, cr_le rfl, fun v22 H22 q22 _ => ?_, fun kd H9 q9 _ => by cases q9.1⟩
        obtain ⟨q22a, h22, f22⟩ := q22
        cases q22a
        conv => whnf
        exact ⟨cr_le rfl, cr_le rfl, (by unfold mm_bw; rw [(show mm_b2 (mm_up (mm_up G 0 0 0) 1 0 m) a b d room m = mm_rf (mm_up (mm_up G 0 0 0) 1 0 m) b d room m by unfold mm_b2; rw [if_pos (show mm_rf (mm_up (mm_up G 0 0 0) 1 0 m) a d room m ≤ 0 from b105)]), if_pos (show mm_rf (mm_up (mm_up G 0 0 0) 1 0 m) b d room m ≤ 0 from b127), if_neg (show ¬ nI ((mm_up (mm_up G 0 0 0) 1 0 m) 20 a) = nI ((mm_up (mm_up G 0 0 0) 1 0 m) 20 b) from b147)]), (by unfold mm_bg mm_bw; rw [(show mm_b2 (mm_up (mm_up G 0 0 0) 1 0 m) a b d room m = mm_rf (mm_up (mm_up G 0 0 0) 1 0 m) b d room m by unfold mm_b2; rw [if_pos (show mm_rf (mm_up (mm_up G 0 0 0) 1 0 m) a d room m ≤ 0 from b105)]), if_pos (show mm_rf (mm_up (mm_up G 0 0 0) 1 0 m) b d room m ≤ 0 from b127), if_neg (show ¬ nI ((mm_up (mm_up G 0 0 0) 1 0 m) 20 a) = nI ((mm_up (mm_up G 0 0 0) 1 0 m) 20 b) from b147), if_pos rfl]; exact h22), (((f12.tr (mm_Fr.ob u14)).tr f21).tr f22)⟩
      · conv => whnf
        refine ⟨cr_le rfl, ?_⟩
        conv => whnf
        refine ⟨fun b160 => ?_, fun b160 => absurd b160 (by decide)⟩
        conv => whnf
        exact ⟨cr_le rfl, cr_le rfl, (by unfold mm_bw; rw [(show mm_b2 (mm_up (mm_up G 0 0 0) 1 0 m) a b d room m = mm_rf (mm_up (mm_up G 0 0 0) 1 0 m) b d room m by unfold mm_b2; rw [if_pos (show mm_rf (mm_up (mm_up G 0 0 0) 1 0 m) a d room m ≤ 0 from b105)]), if_pos (show mm_rf (mm_up (mm_up G 0 0 0) 1 0 m) b d room m ≤ 0 from b127), if_pos (show nI ((mm_up (mm_up G 0 0 0) 1 0 m) 20 a) = nI ((mm_up (mm_up G 0 0 0) 1 0 m) 20 b) from b147)]), (by unfold mm_bg mm_bw; rw [(show mm_b2 (mm_up (mm_up G 0 0 0) 1 0 m) a b d room m = mm_rf (mm_up (mm_up G 0 0 0) 1 0 m) b d room m by unfold mm_b2; rw [if_pos (show mm_rf (mm_up (mm_up G 0 0 0) 1 0 m) a d room m ≤ 0 from b105)]), if_pos (show mm_rf (mm_up (mm_up G 0 0 0) 1 0 m) b d room m ≤ 0 from b127), if_pos (show nI ((mm_up (mm_up G 0 0 0) 1 0 m) 20 a) = nI ((mm_up (mm_up G 0 0 0) 1 0 m) 20 b) from b147), if_neg (by decide)]; exact h14), (f12.tr (mm_Fr.ob u14))⟩
    · conv => whnf
      refine ⟨cr_le rfl, ?_⟩
      conv => whnf
      refine ⟨fun b160 => ?_, fun b160 => absurd (show mm_rf (mm_up (mm_up G 0 0 0) 1 0 m) b d room m ≤ 0 by rw [show mm_rf (mm_up (mm_up G 0 0 0) 1 0 m) b d room m = 0 from b160]; decide) b127⟩
      conv => whnf
      exact ⟨cr_le rfl, cr_le rfl, (by unfold mm_bw; rw [(show mm_b2 (mm_up (mm_up G 0 0 0) 1 0 m) a b d room m = mm_rf (mm_up (mm_up G 0 0 0) 1 0 m) b d room m by unfold mm_b2; rw [if_pos (show mm_rf (mm_up (mm_up G 0 0 0) 1 0 m) a d room m ≤ 0 from b105)]), if_neg (show ¬ mm_rf (mm_up (mm_up G 0 0 0) 1 0 m) b d room m ≤ 0 from b127)]; rfl), (by unfold mm_bg mm_bw; rw [(show mm_b2 (mm_up (mm_up G 0 0 0) 1 0 m) a b d room m = mm_rf (mm_up (mm_up G 0 0 0) 1 0 m) b d room m by unfold mm_b2; rw [if_pos (show mm_rf (mm_up (mm_up G 0 0 0) 1 0 m) a d room m ≤ 0 from b105)]), if_neg (show ¬ mm_rf (mm_up (mm_up G 0 0 0) 1 0 m) b d room m ≤ 0 from b127), if_neg (fun e9 => b127 (show mm_rf (mm_up (mm_up G 0 0 0) 1 0 m) b d room m ≤ 0 by rw [e9]; decide))]; exact h14), (f12.tr (mm_Fr.ob u14))⟩
  · conv => whnf
    refine ⟨cr_le rfl, ?_⟩
    conv => whnf
    refine ⟨fun b127 => ?_, fun b127 => ?_⟩
    · conv => whnf
      refine ⟨_, h14.o, ?_⟩
      conv => whnf
      refine ⟨_, _, _, h14.a 20 rfl, rfl, show a < 60 by omega, cr_le rfl, ?_⟩
      conv => whnf
      refine ⟨_, h14.o, ?_⟩
      conv => whnf
      refine ⟨_, _, _, h14.a 20 rfl, rfl, show b < 60 by omega, cr_le rfl, ?_⟩
      conv => whnf
      refine ⟨fun b147 => ?_, fun b147 => ?_⟩
      · conv => whnf
        refine ⟨cr_le rfl, ?_⟩
        conv => whnf
        refine ⟨fun b160 => absurd rfl b160, fun b160 => ?_⟩
        conv => whnf
        refine ⟨rfl, ?_⟩
        conv => whnf
        refine ⟨_, h14.o, _, _, _, _, j_M_let (c := a) hl Z h14 (show a < 60 by omega) hd9 hr hpa hm (show G 32 0 < 9000 by omega) (show G 12 d < 50 by omega), by decide, cr_le rfl, cr_le rfl, cr_le rfl, fun v28 H28 q28 _ => ?_, fun kd H9 q9 _ => by cases q9.1⟩
        obtain ⟨q28a, h28, f28⟩ := q28
        cases q28a
        conv => whnf
        refine ⟨rfl, ?_⟩
        conv => whnf
        refine ⟨_, h28.o, _, _, _, _, j_M_let (c := b) hl Z h28 (show b < 60 by omega) hd9 hr (show (mm_lt (mm_up (mm_up G 0 0 0) 1 0 m) a d room m) 20 b < 40 by rw [mm_lt_k (by decide) (by decide) (by decide) (by decide) (by decide) (by decide) (by decide)]; exact hpb) hm (Nat.lt_of_le_of_lt (mm_lt_32 _ _ _ _ _) (show G 32 0 + 1 < 9000 by omega)) (Nat.lt_of_le_of_lt (mm_lt_12 _ _ _ _ _) (show G 12 d + 1 < 50 by omega)), by decide, cr_le rfl, cr_le rfl, cr_le rfl, fun v29 H29 q29 _ => ?_, fun kd H9 q9 _ => by cases q9.1⟩
        obtain ⟨q29a, h29, f29⟩ := q29
        cases q29a
        conv => whnf
        exact ⟨cr_le rfl, cr_le rfl, (by unfold mm_bw; rw [(show mm_b2 (mm_up (mm_up G 0 0 0) 1 0 m) a b d room m = mm_rf (mm_up (mm_up G 0 0 0) 1 0 m) a d room m by unfold mm_b2; rw [if_neg (show ¬ mm_rf (mm_up (mm_up G 0 0 0) 1 0 m) a d room m ≤ 0 from b105)]), if_pos (show mm_rf (mm_up (mm_up G 0 0 0) 1 0 m) a d room m ≤ 0 from b127), if_neg (show ¬ nI ((mm_up (mm_up G 0 0 0) 1 0 m) 20 a) = nI ((mm_up (mm_up G 0 0 0) 1 0 m) 20 b) from b147)]), (by unfold mm_bg mm_bw; rw [(show mm_b2 (mm_up (mm_up G 0 0 0) 1 0 m) a b d room m = mm_rf (mm_up (mm_up G 0 0 0) 1 0 m) a d room m by unfold mm_b2; rw [if_neg (show ¬ mm_rf (mm_up (mm_up G 0 0 0) 1 0 m) a d room m ≤ 0 from b105)]), if_pos (show mm_rf (mm_up (mm_up G 0 0 0) 1 0 m) a d room m ≤ 0 from b127), if_neg (show ¬ nI ((mm_up (mm_up G 0 0 0) 1 0 m) 20 a) = nI ((mm_up (mm_up G 0 0 0) 1 0 m) 20 b) from b147), if_pos rfl]; exact h29), (((f12.tr (mm_Fr.ob u14)).tr f28).tr f29)⟩
      · conv => whnf
        refine ⟨cr_le rfl, ?_⟩
        conv => whnf
        refine ⟨fun b160 => ?_, fun b160 => absurd b160 (by decide)⟩
        conv => whnf
        exact ⟨cr_le rfl, cr_le rfl, (by unfold mm_bw; rw [(show mm_b2 (mm_up (mm_up G 0 0 0) 1 0 m) a b d room m = mm_rf (mm_up (mm_up G 0 0 0) 1 0 m) a d room m by unfold mm_b2; rw [if_neg (show ¬ mm_rf (mm_up (mm_up G 0 0 0) 1 0 m) a d room m ≤ 0 from b105)]), if_pos (show mm_rf (mm_up (mm_up G 0 0 0) 1 0 m) a d room m ≤ 0 from b127), if_pos (show nI ((mm_up (mm_up G 0 0 0) 1 0 m) 20 a) = nI ((mm_up (mm_up G 0 0 0) 1 0 m) 20 b) from b147)]), (by unfold mm_bg mm_bw; rw [(show mm_b2 (mm_up (mm_up G 0 0 0) 1 0 m) a b d room m = mm_rf (mm_up (mm_up G 0 0 0) 1 0 m) a d room m by unfold mm_b2; rw [if_neg (show ¬ mm_rf (mm_up (mm_up G 0 0 0) 1 0 m) a d room m ≤ 0 from b105)]), if_pos (show mm_rf (mm_up (mm_up G 0 0 0) 1 0 m) a d room m ≤ 0 from b127), if_pos (show nI ((mm_up (mm_up G 0 0 0) 1 0 m) 20 a) = nI ((mm_up (mm_up G 0 0 0) 1 0 m) 20 b) from b147), if_neg (by decide)]; exact h14), (f12.tr (mm_Fr.ob u14))⟩
    · conv => whnf
      refine ⟨cr_le rfl, ?_⟩
      conv => whnf
      refine ⟨fun b160 => ?_, fun b160 => absurd (show mm_rf (mm_up (mm_up G 0 0 0) 1 0 m) a d room m ≤ 0 by rw [show mm_rf (mm_up (mm_up G 0 0 0) 1 0 m) a d room m = 0 from b160]; decide) b127⟩
      conv => whnf
      exact ⟨cr_le rfl, cr_le rfl, (by unfold mm_bw; rw [(show mm_b2 (mm_up (mm_up G 0 0 0) 1 0 m) a b d room m = mm_rf (mm_up (mm_up G 0 0 0) 1 0 m) a d room m by unfold mm_b2; rw [if_neg (show ¬ mm_rf (mm_up (mm_up G 0 0 0) 1 0 m) a d room m ≤ 0 from b105)]), if_neg (show ¬ mm_rf (mm_up (mm_up G 0 0 0) 1 0 m) a d room m ≤ 0 from b127)]; rfl), (by unfold mm_bg mm_bw; rw [(show mm_b2 (mm_up (mm_up G 0 0 0) 1 0 m) a b d room m = mm_rf (mm_up (mm_up G 0 0 0) 1 0 m) a d room m by unfold mm_b2; rw [if_neg (show ¬ mm_rf (mm_up (mm_up G 0 0 0) 1 0 m) a d room m ≤ 0 from b105)]), if_neg (show ¬ mm_rf (mm_up (mm_up G 0 0 0) 1 0 m) a d room m ≤ 0 from b127), if_neg (fun e9 => b127 (show mm_rf (mm_up (mm_up G 0 0 0) 1 0 m) a d room m ≤ 0 by rw [e9]; decide))]; exact h14), (f12.tr (mm_Fr.ob u14))⟩
set_option maxRecDepth 20000 in
theorem j_M_both_s (hl : l.flags = flags0) (Z : cr_Z0 s0 D ca e0) (h : mm_R s0 D ca H y ad G) {a b d room m : Nat} (ha : a < G 19 0) (hb9 : b < G 19 0) (hab : a ≠ b) (hc2 : G 19 0 ≤ 60) (hrw : 49 ≤ G 12 d) (hrw2 : G 12 d < 2 ^ 31) (hd9 : d < 30) (hr : room < 20) (h22 : G 22 0 ≤ 16) (h4 : G 4 0 ≤ 30) (hB : ∀ t, t < 9000 → G 29 t < 2 ^ 31 ∧ G 30 t < 2 ^ 31) (hb : G 10 d < 2 ^ 31) (ht : G 28 0 ≤ 9000) (hio : mm_io G (nI d) (nI room) = true) (hla : mm_la G (nI m) = true) (hm : m < 2 ^ 31) : cr_c l s0 y_M_both cw_M_both 3 0 0 [.ref y, .int (nI a), .int (nI b), .int (nI d), .int (nI room), .int (nI m)] H (mm_Q s0 D ca H y ad (some (.int 0)) (mm_up G 0 0 2)) := by
  refine cr_enter (by decide +kernel) (Nat.le_of_ble_eq_true rfl) (fun hlo P9 E9 S9 M9 A9 B9 T9 C9 C hem hH => ?_)
  refine cr_vc [] 90 (s_M_both hl Z C hem) (fun K hK => ?_)
  conv => whnf
  refine ⟨_, h.o, ?_⟩
  conv => whnf
  refine ⟨rfl, ?_⟩
  conv => whnf
  refine ⟨_, _, _, _, j_M_isIn_t hl Z (mm_in_of ha (by omega)), by decide, cr_le rfl, cr_le rfl, cr_le rfl, fun v1 H1 q1 _ => ?_, fun kd H9 q9 _ => by cases q9.1⟩
  obtain ⟨q1a, q1b⟩ := q1
  cases q1a
  replace q1b := q1b.symm
  subst q1b
  conv => whnf
  refine ⟨fun b8 => absurd b8 (by decide), fun b8 => ?_⟩
  conv => whnf
  refine ⟨_, h.o, ?_⟩
  conv => whnf
  refine ⟨rfl, ?_⟩
  conv => whnf
  refine ⟨_, _, _, _, j_M_isIn_t hl Z (mm_in_of hb9 (by omega)), by decide, cr_le rfl, cr_le rfl, cr_le rfl, fun v3 H3 q3 _ => ?_, fun kd H9 q9 _ => by cases q9.1⟩
  obtain ⟨q3a, q3b⟩ := q3
  cases q3a
  replace q3b := q3b.symm
  subst q3b
  conv => whnf
  refine ⟨fun b19 => absurd b19 (by decide), fun b19 => ?_⟩
  conv => whnf
  refine ⟨fun b24 => absurd ((nI_eq (by omega) (by omega)).mp b24) hab, fun b24 => ?_⟩
  conv => whnf
  refine ⟨rfl, ?_⟩
  conv => whnf
  refine ⟨_, h.o, _, _, _, _, j_M_isOf_t hl Z h h4 hio, by decide, cr_le rfl, cr_le rfl, cr_le rfl, fun v6 H6 q6 _ => ?_, fun kd H9 q9 _ => by cases q9.1⟩
  obtain ⟨q6a, q6b⟩ := q6
  cases q6a
  replace q6b := q6b.symm
  subst q6b
  conv => whnf
  refine ⟨fun b34 => absurd b34 (by decide), fun b34 => ?_⟩
  conv => whnf
  refine ⟨rfl, ?_⟩
  conv => whnf
  refine ⟨_, h.o, _, _, _, _, j_M_isLater_t hl Z h hla, by decide, cr_le rfl, cr_le rfl, cr_le rfl, fun v8 H8 q8 _ => ?_, fun kd H9 q9 _ => by cases q9.1⟩
  obtain ⟨q8a, q8b⟩ := q8
  cases q8a
  replace q8b := q8b.symm
  subst q8b
  conv => whnf
  refine ⟨fun b43 => absurd b43 (by decide), fun b43 => ?_⟩
  conv => whnf
  refine ⟨cr_le rfl, ?_⟩
  conv => whnf
  refine ⟨fun b58 => absurd b58 (by decide), fun b58 => ?_⟩
  conv => whnf
  refine ⟨_, h.o, ?_⟩
  conv => whnf
  refine ⟨_, _, _, h.a 12 rfl, rfl, hd9, cr_le rfl, ?_⟩
  conv => whnf
  refine ⟨fun b69 => ?_, fun b69 => absurd (nI_le (a := 49) hrw hrw2) b69⟩
  conv => whnf
  refine ⟨rfl, ?_⟩
  conv => whnf
  refine ⟨_, h.o, _, _, _, _, j_M_goes hl Z h true false, by decide, cr_le rfl, cr_le rfl, cr_le rfl, fun v12 H12 q12 _ => ?_, fun kd H9 q9 _ => by cases q9.1⟩
  obtain ⟨q12a, h12, f12⟩ := q12
  cases q12a
  conv => whnf
  refine ⟨fun b80 => absurd rfl b80, fun b80 => ?_⟩
  conv => whnf
  exact ⟨cr_le rfl, cr_le rfl, rfl, h12, f12⟩
set_option maxRecDepth 20000 in
theorem j_M_both_a (hl : l.flags = flags0) (Z : cr_Z0 s0 D ca e0) (h : mm_R s0 D ca H y ad G) {a b d room m : Int32} (h4 : G 4 0 ≤ 30) (hno : ¬ (mm_in a (nI (G 19 0)) = true ∧ mm_in b (nI (G 19 0)) = true ∧ a ≠ b ∧ mm_io G d room = true ∧ mm_la G m = true)) : cr_c l s0 y_M_both cw_M_both 3 0 0 [.ref y, .int a, .int b, .int d, .int room, .int m] H (mm_Q s0 D ca H y ad (some (.int 0)) (mm_up G 0 0 1)) := by
  refine cr_enter (by decide +kernel) (Nat.le_of_ble_eq_true rfl) (fun hlo P9 E9 S9 M9 A9 B9 T9 C9 C hem hH => ?_)
  refine cr_vc [] 90 (s_M_both hl Z C hem) (fun K hK => ?_)
  conv => whnf
  refine ⟨_, h.o, ?_⟩
  conv => whnf
  refine ⟨rfl, ?_⟩
  conv => whnf
  refine ⟨_, _, _, _, j_M_isIn hl Z, by decide, cr_le rfl, cr_le rfl, cr_le rfl, fun v1 H1 q1 _ => ?_, fun kd H9 q9 _ => by cases q9.1⟩
  obtain ⟨q1a, q1b⟩ := q1
  cases q1a
  replace q1b := q1b.symm
  subst q1b
  conv => whnf
  refine ⟨fun b8 => ?_, fun b8 => ?_⟩
  · conv => whnf
    refine ⟨cr_le rfl, ?_⟩
    conv => whnf
    refine ⟨fun b58 => ?_, fun b58 => absurd rfl b58⟩
    conv => whnf
    refine ⟨rfl, ?_⟩
    conv => whnf
    refine ⟨_, h.o, _, _, _, _, j_M_goes hl Z h false false, by decide, cr_le rfl, cr_le rfl, cr_le rfl, fun v4 H4 q4 _ => ?_, fun kd H9 q9 _ => by cases q9.1⟩
    obtain ⟨q4a, h4, f4⟩ := q4
    cases q4a
    conv => whnf
    refine ⟨fun b80 => absurd rfl b80, fun b80 => ?_⟩
    conv => whnf
    exact ⟨cr_le rfl, cr_le rfl, rfl, h4, f4⟩
  · conv => whnf
    refine ⟨_, h.o, ?_⟩
    conv => whnf
    refine ⟨rfl, ?_⟩
    conv => whnf
    refine ⟨_, _, _, _, j_M_isIn hl Z, by decide, cr_le rfl, cr_le rfl, cr_le rfl, fun v6 H6 q6 _ => ?_, fun kd H9 q9 _ => by cases q9.1⟩
    obtain ⟨q6a, q6b⟩ := q6
    cases q6a
    replace q6b := q6b.symm
    subst q6b
    conv => whnf
    refine ⟨fun b19 => ?_, fun b19 => ?_⟩
    · conv => whnf
      refine ⟨cr_le rfl, ?_⟩
      conv => whnf
      refine ⟨fun b58 => ?_, fun b58 => absurd rfl b58⟩
      conv => whnf
      refine ⟨rfl, ?_⟩
      conv => whnf
      refine ⟨_, h.o, _, _, _, _, j_M_goes hl Z h false false, by decide, cr_le rfl, cr_le rfl, cr_le rfl, fun v9 H9 q9 _ => ?_, fun kd H9 q9 _ => by cases q9.1⟩
      obtain ⟨q9a, h9, f9⟩ := q9
      cases q9a
      conv => whnf
      refine ⟨fun b80 => absurd rfl b80, fun b80 => ?_⟩
      conv => whnf
      exact ⟨cr_le rfl, cr_le rfl, rfl, h9, f9⟩
    · conv => whnf
      refine ⟨fun b24 => ?_, fun b24 => ?_⟩
      · conv => whnf
        refine ⟨cr_le rfl, ?_⟩
        conv => whnf
        refine ⟨fun b58 => ?_, fun b58 => absurd rfl b58⟩
        conv => whnf
        refine ⟨rfl, ?_⟩
        conv => whnf
        refine ⟨_, h.o, _, _, _, _, j_M_goes hl Z h false false, by decide, cr_le rfl, cr_le rfl, cr_le rfl, fun v13 H13 q13 _ => ?_, fun kd H9 q9 _ => by cases q9.1⟩
        obtain ⟨q13a, h13, f13⟩ := q13
        cases q13a
        conv => whnf
        refine ⟨fun b80 => absurd rfl b80, fun b80 => ?_⟩
        conv => whnf
        exact ⟨cr_le rfl, cr_le rfl, rfl, h13, f13⟩
      · conv => whnf
        refine ⟨rfl, ?_⟩
        conv => whnf
        refine ⟨_, h.o, _, _, _, _, j_M_isOf hl Z h h4, by decide, cr_le rfl, cr_le rfl, cr_le rfl, fun v15 H15 q15 _ => ?_, fun kd H9 q9 _ => by cases q9.1⟩
        obtain ⟨q15a, q15b⟩ := q15
        cases q15a
        replace q15b := q15b.symm
        subst q15b
        conv => whnf
        refine ⟨fun b34 => ?_, fun b34 => ?_⟩
        · conv => whnf
          refine ⟨cr_le rfl, ?_⟩
          conv => whnf
          refine ⟨fun b58 => ?_, fun b58 => absurd rfl b58⟩
          conv => whnf
          refine ⟨rfl, ?_⟩
          conv => whnf
          refine ⟨_, h.o, _, _, _, _, j_M_goes hl Z h false false, by decide, cr_le rfl, cr_le rfl, cr_le rfl, fun v18 H18 q18 _ => ?_, fun kd H9 q9 _ => by cases q9.1⟩
          obtain ⟨q18a, h18, f18⟩ := q18
          cases q18a
          conv => whnf
          refine ⟨fun b80 => absurd rfl b80, fun b80 => ?_⟩
          conv => whnf
          exact ⟨cr_le rfl, cr_le rfl, rfl, h18, f18⟩
        · conv => whnf
          refine ⟨rfl, ?_⟩
          conv => whnf
          refine ⟨_, h.o, _, _, _, _, j_M_isLater hl Z h, by decide, cr_le rfl, cr_le rfl, cr_le rfl, fun v20 H20 q20 _ => ?_, fun kd H9 q9 _ => by cases q9.1⟩
          obtain ⟨q20a, q20b⟩ := q20
          cases q20a
          replace q20b := q20b.symm
          subst q20b
          conv => whnf
          refine ⟨fun b43 => ?_, fun b43 => False.elim (hno ⟨cr_bt b8, cr_bt b19, b24, cr_bt b34, cr_bt b43⟩)⟩
          conv => whnf
          refine ⟨cr_le rfl, ?_⟩
          conv => whnf
          refine ⟨fun b58 => ?_, fun b58 => absurd rfl b58⟩
          conv => whnf
          refine ⟨rfl, ?_⟩
          conv => whnf
          refine ⟨_, h.o, _, _, _, _, j_M_goes hl Z h false false, by decide, cr_le rfl, cr_le rfl, cr_le rfl, fun v23 H23 q23 _ => ?_, fun kd H9 q9 _ => by cases q9.1⟩
          obtain ⟨q23a, h23, f23⟩ := q23
          cases q23a
          conv => whnf
          refine ⟨fun b80 => absurd rfl b80, fun b80 => ?_⟩
          conv => whnf
          exact ⟨cr_le rfl, cr_le rfl, rfl, h23, f23⟩
end MOP5
