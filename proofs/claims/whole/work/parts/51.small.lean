/-! THE CLASS: its small classes' questions (printed by gen/comp2.py) -/
section CSM
variable {l : Launch} {s0 : State} {D : va_G} {ca : Nat → ClassId} {e0 : Nat} {H : Heap}
set_option maxRecDepth 20000 in
theorem j_Kn_knowsCard (hl : l.flags = flags0) (Z : cr_Z0 s0 D ca e0) {a la ea : Nat} {kC kR : Int32} (h : va_at D kc (a, .inr (4, [.int kC, .int kR, .ref la, .ref ea])) H) {z : Int32} : cr_c l s0 y_Kn_knowsCard cw_Kn_knowsCard 0 0 0 [.ref a, .int z] H (cr_pu (some (.int (cr_b (!decide (kC ≤ z))))) H) := by
  refine cr_enter (by decide +kernel) (Nat.le_of_ble_eq_true rfl) (fun hlo P9 E9 S9 M9 A9 B9 T9 C9 C hem hH => ?_)
  refine cr_vc [] 120 (s_Kn_knowsCard hl Z C hem) (fun K hK => ?_)
  conv => whnf
  refine ⟨_, h, ?_⟩
  conv => whnf
  refine ⟨fun b5 => ?_, fun b5 => ?_⟩
  · conv => whnf
    exact ⟨rfl, cr_le rfl, cr_le rfl, (by rw [show (!decide (kC ≤ z)) = false by simp [b5]]; rfl), rfl⟩
  · conv => whnf
    exact ⟨rfl, cr_le rfl, cr_le rfl, (by rw [show (!decide (kC ≤ z)) = true by simp [b5]]; rfl), rfl⟩
def kn_fr (x y : Int32) : Bool := !(decide (x = -1)) && !(decide (y < x))
theorem kn_fr_eq (x y : Int32) : (if x = -1 ∨ y < x then (0 : Int32) else 1) = cr_b (kn_fr x y) := by
  by_cases h1 : x = -1
  · simp [kn_fr, h1, cr_b]
  · by_cases h2 : y < x
    · simp [kn_fr, h1, h2, cr_b]
    · simp [kn_fr, h1, h2, cr_b]
set_option maxRecDepth 20000 in
theorem j_Kn_isLost (hl : l.flags = flags0) (Z : cr_Z0 s0 D ca e0) {a la ea : Nat} {kC kR : Int32} (h : va_at D kc (a, .inr (4, [.int kC, .int kR, .ref la, .ref ea])) H) {f : Nat → Int32} (h2 : va_at D kc (la, .inl (ca 0, 60, .inl f)) H) {i : Nat} (hi : i < 60) {y : Int32} : cr_c l s0 y_Kn_isLost cw_Kn_isLost 1 0 0 [.ref a, .int (nI i), .int y] H (cr_pu (some (.int (cr_b (kn_fr (f i) y)))) H) := by
  refine cr_enter (by decide +kernel) (Nat.le_of_ble_eq_true rfl) (fun hlo P9 E9 S9 M9 A9 B9 T9 C9 C hem hH => ?_)
  refine cr_vc [] 120 (s_Kn_isLost hl Z C hem) (fun K hK => ?_)
  conv => whnf
  refine ⟨_, h, ?_⟩
  conv => whnf
  refine ⟨_, _, _, h2, rfl, hi, cr_le rfl, ?_⟩
  conv => whnf
  refine ⟨rfl, ?_⟩
  conv => whnf
  refine ⟨_, _, _, _, j_Kn_isFrom hl Z, by decide, cr_le rfl, cr_le rfl, cr_le rfl, fun v7 H7 q7 _ => ?_, fun kd H9 q9 _ => by cases q9.1⟩
  obtain ⟨q7a, q7b⟩ := q7
  cases q7a
  replace q7b := q7b.symm
  subst q7b
  conv => whnf
  exact ⟨(by rw [kn_fr_eq]; cases kn_fr (f i) y <;> rfl), cr_le rfl, cr_le rfl, (by rw [kn_fr_eq]), rfl⟩
set_option maxRecDepth 20000 in
theorem j_Kn_isEnded (hl : l.flags = flags0) (Z : cr_Z0 s0 D ca e0) {a la ea : Nat} {kC kR : Int32} (h : va_at D kc (a, .inr (4, [.int kC, .int kR, .ref la, .ref ea])) H) {f : Nat → Int32} (h2 : va_at D kc (ea, .inl (ca 0, 16, .inl f)) H) {i : Nat} (hi : i < 16) {y : Int32} : cr_c l s0 y_Kn_isEnded cw_Kn_isEnded 1 0 0 [.ref a, .int (nI i), .int y] H (cr_pu (some (.int (cr_b (kn_fr (f i) y)))) H) := by
  refine cr_enter (by decide +kernel) (Nat.le_of_ble_eq_true rfl) (fun hlo P9 E9 S9 M9 A9 B9 T9 C9 C hem hH => ?_)
  refine cr_vc [] 120 (s_Kn_isEnded hl Z C hem) (fun K hK => ?_)
  conv => whnf
  refine ⟨_, h, ?_⟩
  conv => whnf
  refine ⟨_, _, _, h2, rfl, hi, cr_le rfl, ?_⟩
  conv => whnf
  refine ⟨rfl, ?_⟩
  conv => whnf
  refine ⟨_, _, _, _, j_Kn_isFrom hl Z, by decide, cr_le rfl, cr_le rfl, cr_le rfl, fun v7 H7 q7 _ => ?_, fun kd H9 q9 _ => by cases q9.1⟩
  obtain ⟨q7a, q7b⟩ := q7
  cases q7a
  replace q7b := q7b.symm
  subst q7b
  conv => whnf
  exact ⟨(by rw [kn_fr_eq]; cases kn_fr (f i) y <;> rfl), cr_le rfl, cr_le rfl, (by rw [kn_fr_eq]), rfl⟩
def ri_sp (f o t : Int32) : Bool := cond (decide (o < f)) (decide (f ≤ t) || !decide (o ≤ t)) (!decide (t < f) && !decide (o ≤ t))
def ri_for (g z f o g9 z9 t : Int32) : Bool := decide (g = g9) && (decide (z = z9) && ri_sp f o t)
theorem ri_eq (f o a z g9 z9 t : Int32) : mm_spI f o a z g9 z9 t = ri_for a z f o g9 z9 t := by
  have e : (cond (decide (o ≤ f)) ((!decide (f ≤ o)) && (!decide (t < f) || !decide (o ≤ t))) (!decide (t < f) && !decide (o ≤ t))) = ri_sp f o t := by
    unfold ri_sp
    by_cases h1 : o < f
    · have h2 : o ≤ f := Int32.le_of_lt h1
      have h3 : ¬ f ≤ o := Int32.not_le.mpr h1
      by_cases h4 : t < f
      · have h5 : ¬ f ≤ t := Int32.not_le.mpr h4
        simp [h1, h2, h3, h4, h5]
      · have h5 : f ≤ t := Int32.not_lt.mp h4
        simp [h1, h2, h3, h4, h5]
    · have h2 : f ≤ o := Int32.not_lt.mp h1
      by_cases h3 : o ≤ f
      · by_cases h4 : t < f
        · simp [h1, h2, h3, h4]
        · have h5 : o ≤ t := by
            have h6 : f ≤ t := Int32.not_lt.mp h4
            rw [Int32.le_iff_toInt_le] at h3 h6 ⊢
            omega
          simp [h1, h2, h3, h4, h5]
      · simp [h1, h3]
  unfold mm_spI ri_for
  rw [e]
  cases ri_sp f o t <;> cases decide (a = g9) <;> cases decide (z = z9) <;> rfl
set_option maxRecDepth 20000 in
theorem j_Ri_spans (hl : l.flags = flags0) (Z : cr_Z0 s0 D ca e0) {a : Nat} {g z f o s9 : Int32} (h : va_at D kc (a, .inr (7, [.int g, .int z, .int f, .int o, .int s9])) H) {t : Int32} : cr_c l s0 y_Ri_spans cw_Ri_spans 0 0 0 [.ref a, .int t] H (cr_pu (some (.int (cr_b (ri_sp f o t)))) H) := by
  refine cr_enter (by decide +kernel) (Nat.le_of_ble_eq_true rfl) (fun hlo P9 E9 S9 M9 A9 B9 T9 C9 C hem hH => ?_)
  refine cr_vc [] 120 (s_Ri_spans hl Z C hem) (fun K hK => ?_)
  conv => whnf
  refine ⟨_, h, ?_⟩
  conv => whnf
  refine ⟨_, h, ?_⟩
  conv => whnf
  refine ⟨fun b8 => ?_, fun b8 => ?_⟩
  · conv => whnf
    refine ⟨_, h, ?_⟩
    conv => whnf
    refine ⟨fun b38 => ?_, fun b38 => ?_⟩
    · conv => whnf
      exact ⟨rfl, cr_le rfl, cr_le rfl, (by rw [show ri_sp f o t = true by simp [ri_sp, b8, b38]]; rfl), rfl⟩
    · conv => whnf
      refine ⟨_, h, ?_⟩
      conv => whnf
      refine ⟨fun b46 => ?_, fun b46 => ?_⟩
      · conv => whnf
        exact ⟨rfl, cr_le rfl, cr_le rfl, (by rw [show ri_sp f o t = false by simp [ri_sp, b8, b38, b46]]; rfl), rfl⟩
      · conv => whnf
        exact ⟨rfl, cr_le rfl, cr_le rfl, (by rw [show ri_sp f o t = true by simp [ri_sp, b8, b38, b46]]; rfl), rfl⟩
  · conv => whnf
    refine ⟨_, h, ?_⟩
    conv => whnf
    refine ⟨fun b16 => ?_, fun b16 => ?_⟩
    · conv => whnf
      exact ⟨rfl, cr_le rfl, cr_le rfl, (by rw [show ri_sp f o t = false by simp [ri_sp, b8, b16]]; rfl), rfl⟩
    · conv => whnf
      refine ⟨_, h, ?_⟩
      conv => whnf
      refine ⟨fun b24 => ?_, fun b24 => ?_⟩
      · conv => whnf
        exact ⟨rfl, cr_le rfl, cr_le rfl, (by rw [show ri_sp f o t = false by simp [ri_sp, b8, b16, b24]]; rfl), rfl⟩
      · conv => whnf
        exact ⟨rfl, cr_le rfl, cr_le rfl, (by rw [show ri_sp f o t = true by simp [ri_sp, b8, b16, b24]]; rfl), rfl⟩
set_option maxRecDepth 20000 in
theorem j_Ri_isFor (hl : l.flags = flags0) (Z : cr_Z0 s0 D ca e0) {a : Nat} {g z f o s9 : Int32} (h : va_at D kc (a, .inr (7, [.int g, .int z, .int f, .int o, .int s9])) H) {g9 z9 t : Int32} : cr_c l s0 y_Ri_isFor cw_Ri_isFor 1 0 0 [.ref a, .int g9, .int z9, .int t] H (cr_pu (some (.int (cr_b (ri_for g z f o g9 z9 t)))) H) := by
  refine cr_enter (by decide +kernel) (Nat.le_of_ble_eq_true rfl) (fun hlo P9 E9 S9 M9 A9 B9 T9 C9 C hem hH => ?_)
  refine cr_vc [] 120 (s_Ri_isFor hl Z C hem) (fun K hK => ?_)
  conv => whnf
  refine ⟨_, h, ?_⟩
  conv => whnf
  refine ⟨fun b5 => ?_, fun b5 => ?_⟩
  · conv => whnf
    exact ⟨rfl, cr_le rfl, cr_le rfl, (by rw [show ri_for g z f o g9 z9 t = false by simp [ri_for, b5]]; rfl), rfl⟩
  · conv => whnf
    refine ⟨_, h, ?_⟩
    conv => whnf
    refine ⟨fun b13 => ?_, fun b13 => ?_⟩
    · conv => whnf
      exact ⟨rfl, cr_le rfl, cr_le rfl, (by rw [show ri_for g z f o g9 z9 t = false by simp [ri_for, b13]]; rfl), rfl⟩
    · conv => whnf
      refine ⟨rfl, ?_⟩
      conv => whnf
      refine ⟨_, h, _, _, _, _, j_Ri_spans hl Z h, by decide, cr_le rfl, cr_le rfl, cr_le rfl, fun v18 H18 q18 _ => ?_, fun kd H9 q9 _ => by cases q9.1⟩
      obtain ⟨q18a, q18b⟩ := q18
      cases q18a
      replace q18b := q18b.symm
      subst q18b
      conv => whnf
      refine ⟨fun b21 => ?_, fun b21 => ?_⟩
      · conv => whnf
        exact ⟨rfl, cr_le rfl, cr_le rfl, (by rw [show ri_for g z f o g9 z9 t = false by simp [ri_for, cr_bf b21]]; rfl), rfl⟩
      · conv => whnf
        exact ⟨rfl, cr_le rfl, cr_le rfl, (by rw [show ri_for g z f o g9 z9 t = true by simp [ri_for, b5, b13, cr_bt b21]]; rfl), rfl⟩
set_option maxRecDepth 20000 in
theorem j_Dr_otherRoom (hl : l.flags = flags0) (Z : cr_Z0 s0 D ca e0) {a ra rb : Nat} {n al : Int32} {v3 v4 v5 v7 v8 v9 : Value} (h : va_at D kc (a, .inr (2, [.int n, .ref ra, .ref rb, v3, v4, v5, .int al, v7, v8, v9])) H) {r : Nat} : cr_c l s0 y_Dr_otherRoom cw_Dr_otherRoom 0 0 0 [.ref a, .ref r] H (cr_pu (some (.ref (if r = ra then rb else ra))) H) := by
  refine cr_enter (by decide +kernel) (Nat.le_of_ble_eq_true rfl) (fun hlo P9 E9 S9 M9 A9 B9 T9 C9 C hem hH => ?_)
  refine cr_vc [] 120 (s_Dr_otherRoom hl Z C hem) (fun K hK => ?_)
  conv => whnf
  refine ⟨_, h, ?_⟩
  conv => whnf
  refine ⟨fun b5 => ?_, fun b5 => ?_⟩
  · conv => whnf
    refine ⟨_, h, ?_⟩
    conv => whnf
    exact ⟨cr_le rfl, cr_le rfl, (by rw [if_neg b5]), rfl⟩
  · conv => whnf
    refine ⟨_, h, ?_⟩
    conv => whnf
    exact ⟨cr_le rfl, cr_le rfl, (by rw [if_pos b5]), rfl⟩
set_option maxRecDepth 20000 in
theorem j_Dr_isAirlockWith (hl : l.flags = flags0) (Z : cr_Z0 s0 D ca e0) {a ra rb : Nat} {n al : Int32} {v3 v4 v5 v7 v8 v9 : Value} (h : va_at D kc (a, .inr (2, [.int n, .ref ra, .ref rb, v3, v4, v5, .int al, v7, v8, v9])) H) {b : Nat} {nb : Int32} {w1 w2 w3 w4 w5 w6 w7 w8 w9 : Value} (h2 : va_at D kc (b, .inr (2, [.int nb, w1, w2, w3, w4, w5, w6, w7, w8, w9])) H) : cr_c l s0 y_Dr_isAirlockWith cw_Dr_isAirlockWith 0 0 0 [.ref a, .ref b] H (cr_pu (some (.int (cr_b (!decide (al &&& (1 <<< (nb &&& 31)) = 0))))) H) := by
  refine cr_enter (by decide +kernel) (Nat.le_of_ble_eq_true rfl) (fun hlo P9 E9 S9 M9 A9 B9 T9 C9 C hem hH => ?_)
  refine cr_vc [] 120 (s_Dr_isAirlockWith hl Z C hem) (fun K hK => ?_)
  conv => whnf
  refine ⟨_, h, ?_⟩
  conv => whnf
  refine ⟨_, h2, ?_⟩
  conv => whnf
  refine ⟨fun b11 => ?_, fun b11 => ?_⟩
  · conv => whnf
    exact ⟨rfl, cr_le rfl, cr_le rfl, (by rw [show (!decide (al &&& (1 <<< (nb &&& 31)) = 0)) = false by simp [b11]]; rfl), rfl⟩
  · conv => whnf
    exact ⟨rfl, cr_le rfl, cr_le rfl, (by rw [show (!decide (al &&& (1 <<< (nb &&& 31)) = 0)) = true by simp [b11]]; rfl), rfl⟩
set_option maxRecDepth 20000 in
theorem j_C_roomOfDoor_A (hl : l.flags = flags0) (Z : cr_Z0 s0 D ca e0) {a ra rb : Nat} {n al : Int32} {v3 v4 v5 v7 v8 v9 : Value} (h : va_at D kc (a, .inr (2, [.int n, .ref ra, .ref rb, v3, v4, v5, .int al, v7, v8, v9])) H) {na nb : Int32} {z1 z2 : Value} (h1 : va_at D kc (ra, .inr (8, [.int na, z1])) H) (h2 : va_at D kc (rb, .inr (8, [.int nb, z2])) H) {z : Int32} (hz : z = na) : cr_c l s0 y_C_roomOfDoor cw_C_roomOfDoor 0 0 0 [.ref a, .int z] H (cr_pu (some (.ref ra)) H) := by
  refine cr_enter (by decide +kernel) (Nat.le_of_ble_eq_true rfl) (fun hlo P9 E9 S9 M9 A9 B9 T9 C9 C hem hH => ?_)
  refine cr_vc [] 120 (s_C_roomOfDoor hl Z C hem) (fun K hK => ?_)
  conv => whnf
  refine ⟨_, h, ?_⟩
  conv => whnf
  refine ⟨_, h1, ?_⟩
  conv => whnf
  refine ⟨fun b8 => absurd hz b8, fun b8 => ?_⟩
  conv => whnf
  refine ⟨_, h, ?_⟩
  conv => whnf
  exact ⟨cr_le rfl, cr_le rfl, rfl, rfl⟩
set_option maxRecDepth 20000 in
theorem j_C_roomOfDoor_B (hl : l.flags = flags0) (Z : cr_Z0 s0 D ca e0) {a ra rb : Nat} {n al : Int32} {v3 v4 v5 v7 v8 v9 : Value} (h : va_at D kc (a, .inr (2, [.int n, .ref ra, .ref rb, v3, v4, v5, .int al, v7, v8, v9])) H) {na nb : Int32} {z1 z2 : Value} (h1 : va_at D kc (ra, .inr (8, [.int na, z1])) H) (h2 : va_at D kc (rb, .inr (8, [.int nb, z2])) H) {z : Int32} (hz : ¬ z = na) (hz2 : z = nb) : cr_c l s0 y_C_roomOfDoor cw_C_roomOfDoor 0 0 0 [.ref a, .int z] H (cr_pu (some (.ref rb)) H) := by
  refine cr_enter (by decide +kernel) (Nat.le_of_ble_eq_true rfl) (fun hlo P9 E9 S9 M9 A9 B9 T9 C9 C hem hH => ?_)
  refine cr_vc [] 120 (s_C_roomOfDoor hl Z C hem) (fun K hK => ?_)
  conv => whnf
  refine ⟨_, h, ?_⟩
  conv => whnf
  refine ⟨_, h1, ?_⟩
  conv => whnf
  refine ⟨fun b8 => ?_, fun b8 => absurd b8 hz⟩
  conv => whnf
  refine ⟨_, h, ?_⟩
  conv => whnf
  refine ⟨_, h2, ?_⟩
  conv => whnf
  refine ⟨fun b24 => absurd hz2 b24, fun b24 => ?_⟩
  conv => whnf
  refine ⟨_, h, ?_⟩
  conv => whnf
  exact ⟨cr_le rfl, cr_le rfl, rfl, rfl⟩
set_option maxRecDepth 20000 in
theorem j_C_roomOfDoor_a (hl : l.flags = flags0) (Z : cr_Z0 s0 D ca e0) (hold : cr_Old s0 H) {a ra rb : Nat} {n al : Int32} {v3 v4 v5 v7 v8 v9 : Value} (h : va_at D kc (a, .inr (2, [.int n, .ref ra, .ref rb, v3, v4, v5, .int al, v7, v8, v9])) H) {na nb : Int32} {z1 z2 : Value} (h1 : va_at D kc (ra, .inr (8, [.int na, z1])) H) (h2 : va_at D kc (rb, .inr (8, [.int nb, z2])) H) {z : Int32} (hz : ¬ z = na) (hz2 : ¬ z = nb) : cr_c l s0 y_C_roomOfDoor cw_C_roomOfDoor 6 1 6 [.ref a, .int z] H (ck_T 1 H) := by
  refine cr_enter (by decide +kernel) (Nat.le_of_ble_eq_true rfl) (fun hlo P9 E9 S9 M9 A9 B9 T9 C9 C hem hH => ?_)
  refine cr_vc [] 120 (s_C_roomOfDoor hl Z C hem) (fun K hK => ?_)
  conv => whnf
  refine ⟨_, h, ?_⟩
  conv => whnf
  refine ⟨_, h1, ?_⟩
  conv => whnf
  refine ⟨fun b8 => ?_, fun b8 => absurd b8 hz⟩
  conv => whnf
  refine ⟨_, h, ?_⟩
  conv => whnf
  refine ⟨_, h2, ?_⟩
  conv => whnf
  refine ⟨fun b24 => ?_, fun b24 => absurd b24 hz2⟩
  conv => whnf
  refine ⟨hold, rfl, cr_le rfl, cr_le rfl, by decide, cr_le rfl, fun H9 hs9 hq9 => ?_⟩
  exact ⟨rfl, hs9, fun q a _ => hq9 q a⟩
def cd_wy (kC un m x : Int32) (i : Nat) : Int32 := if (!decide (kC ≤ nI i)) = true then (if m ≤ un then cond (kn_fr x m) 3 0 else 2) else 1
set_option maxRecDepth 20000 in
theorem j_C_refusalOfCard (hl : l.flags = flags0) (Z : cr_Z0 s0 D ca e0) {a la ea : Nat} {kC kR : Int32} (h : va_at D kc (a, .inr (4, [.int kC, .int kR, .ref la, .ref ea])) H) {c p9 : Nat} {un : Int32} {i : Nat} (hc : va_at D kc (c, .inr (1, [.int (nI i), .ref p9, .int un])) H) (hi : i < 60) {f : Nat → Int32} (hf : va_at D kc (la, .inl (ca 0, 60, .inl f)) H) {m : Int32} : cr_c l s0 y_C_refusalOfCard cw_C_refusalOfCard 2 0 0 [.ref a, .ref c, .int m] H (cr_pu (some (.int (cd_wy kC un m (f i) i))) H) := by
  refine cr_enter (by decide +kernel) (Nat.le_of_ble_eq_true rfl) (fun hlo P9 E9 S9 M9 A9 B9 T9 C9 C hem hH => ?_)
  refine cr_vc [] 120 (s_C_refusalOfCard hl Z C hem) (fun K hK => ?_)
  conv => whnf
  refine ⟨_, hc, ?_⟩
  conv => whnf
  refine ⟨rfl, ?_⟩
  conv => whnf
  refine ⟨_, h, _, _, _, _, j_Kn_knowsCard hl Z h, by decide, cr_le rfl, cr_le rfl, cr_le rfl, fun v5 H5 q5 _ => ?_, fun kd H9 q9 _ => by cases q9.1⟩
  obtain ⟨q5a, q5b⟩ := q5
  cases q5a
  replace q5b := q5b.symm
  subst q5b
  conv => whnf
  refine ⟨fun b8 => ?_, fun b8 => ?_⟩
  · conv => whnf
    refine ⟨_, hc, ?_⟩
    conv => whnf
    refine ⟨fun b18 => ?_, fun b18 => ?_⟩
    · conv => whnf
      refine ⟨_, hc, ?_⟩
      conv => whnf
      refine ⟨rfl, ?_⟩
      conv => whnf
      refine ⟨_, h, _, _, _, _, j_Kn_isLost hl Z h hf hi, by decide, cr_le rfl, cr_le rfl, cr_le rfl, fun v29 H29 q29 _ => ?_, fun kd H9 q9 _ => by cases q9.1⟩
      obtain ⟨q29a, q29b⟩ := q29
      cases q29a
      replace q29b := q29b.symm
      subst q29b
      conv => whnf
      refine ⟨fun b32 => ?_, fun b32 => ?_⟩
      · conv => whnf
        exact ⟨cr_le rfl, cr_le rfl, (by unfold cd_wy; rw [if_pos (cr_bt b8), if_pos b18, cr_bf b32]; try rfl), rfl⟩
      · conv => whnf
        exact ⟨cr_le rfl, cr_le rfl, (by unfold cd_wy; rw [if_pos (cr_bt b8), if_pos b18, cr_bt b32]; try rfl), rfl⟩
    · conv => whnf
      exact ⟨cr_le rfl, cr_le rfl, (by unfold cd_wy; rw [if_pos (cr_bt b8), if_neg b18]; try rfl), rfl⟩
  · conv => whnf
    exact ⟨cr_le rfl, cr_le rfl, (by unfold cd_wy; rw [if_neg (show ¬ (!decide (kC ≤ nI i)) = true by rw [cr_bf b8]; decide)]; try rfl), rfl⟩
end CSM
