/-! THE CLASS: what calls may be given (printed by gen/comp1.py) -/
def ck_T (kd : Nat) (H : Heap) : cr_Q := fun o H' => o = .inr kd ∧ cr_Fr (fun _ => False) H H'
theorem mm_in_t {z n : Int32} (h : mm_in z n = true) : ¬ z < 0 ∧ z < n := by
  simp only [mm_in, Bool.and_eq_true, Bool.not_eq_true', decide_eq_false_iff_not] at h
  exact ⟨h.1, Int32.not_le.mp h.2⟩
theorem mm_in_f {z n : Int32} (h : mm_in z n = false) : z < 0 ∨ ¬ z < n := by
  by_cases h1 : z < 0
  · exact Or.inl h1
  · refine Or.inr (fun h2 => ?_)
    have h3 : ¬ n ≤ z := Int32.not_le.mpr h2
    simp [mm_in, h1, h3] at h
theorem mm_min_t {z : Int32} (h : mm_min z = true) : ¬ z < 0 ∧ z ≤ 1000000 := by
  simp only [mm_min, Bool.and_eq_true, Bool.not_eq_true', decide_eq_false_iff_not] at h
  exact ⟨h.1, Int32.not_lt.mp h.2⟩
theorem mm_min_f {z : Int32} (h : mm_min z = false) : z < 0 ∨ ¬ z ≤ 1000000 := by
  by_cases h1 : z < 0
  · exact Or.inl h1
  · refine Or.inr (fun h2 => ?_)
    have h3 : ¬ (1000000 : Int32) < z := Int32.not_lt.mpr h2
    simp [mm_min, h1, h3] at h
section CHK
variable {l : Launch} {s0 : State} {D : va_G} {ca : Nat → ClassId} {e0 : Nat} {H : Heap}
set_option maxRecDepth 20000 in
theorem j_C_checkZone (hl : l.flags = flags0) (Z : cr_Z0 s0 D ca e0) {z : Int32} (h : mm_in z 10 = true) : cr_c l s0 y_C_checkZone cw_C_checkZone 0 0 0 [.int z] H (cr_pu none H) := by
  refine cr_enter (by decide +kernel) (Nat.le_of_ble_eq_true rfl) (fun hlo P9 E9 S9 M9 A9 B9 T9 C9 C hem hH => ?_)
  refine cr_vc [] 120 (s_C_checkZone hl Z C hem) (fun K hK => ?_)
  conv => whnf
  refine ⟨fun b1 => absurd b1 (mm_in_t h).1, fun b1 => ?_⟩
  conv => whnf
  refine ⟨fun b7 => ?_, fun b7 => absurd (mm_in_t h).2 b7⟩
  conv => whnf
  exact ⟨cr_le rfl, cr_le rfl, rfl, rfl⟩
set_option maxRecDepth 20000 in
theorem j_C_checkZone_a (hl : l.flags = flags0) (Z : cr_Z0 s0 D ca e0) (hold : cr_Old s0 H) {z : Int32} (h : mm_in z 10 = false) : cr_c l s0 y_C_checkZone cw_C_checkZone 6 1 6 [.int z] H (ck_T 1 H) := by
  refine cr_enter (by decide +kernel) (Nat.le_of_ble_eq_true rfl) (fun hlo P9 E9 S9 M9 A9 B9 T9 C9 C hem hH => ?_)
  refine cr_vc [] 120 (s_C_checkZone hl Z C hem) (fun K hK => ?_)
  conv => whnf
  refine ⟨fun b1 => ?_, fun b1 => ?_⟩
  · conv => whnf
    refine ⟨hold, rfl, cr_le rfl, cr_le rfl, by decide, cr_le rfl, fun H9 hs9 hq9 => ?_⟩
    exact ⟨rfl, hs9, fun q a _ => hq9 q a⟩
  · conv => whnf
    refine ⟨fun b7 => False.elim ((mm_in_f h).elim b1 (fun q => q b7)), fun b7 => ?_⟩
    conv => whnf
    refine ⟨hold, rfl, cr_le rfl, cr_le rfl, by decide, cr_le rfl, fun H9 hs9 hq9 => ?_⟩
    exact ⟨rfl, hs9, fun q a _ => hq9 q a⟩
set_option maxRecDepth 20000 in
theorem j_C_checkGroup (hl : l.flags = flags0) (Z : cr_Z0 s0 D ca e0) {z : Int32} (h : mm_in z 10 = true) : cr_c l s0 y_C_checkGroup cw_C_checkGroup 0 0 0 [.int z] H (cr_pu none H) := by
  refine cr_enter (by decide +kernel) (Nat.le_of_ble_eq_true rfl) (fun hlo P9 E9 S9 M9 A9 B9 T9 C9 C hem hH => ?_)
  refine cr_vc [] 120 (s_C_checkGroup hl Z C hem) (fun K hK => ?_)
  conv => whnf
  refine ⟨fun b1 => absurd b1 (mm_in_t h).1, fun b1 => ?_⟩
  conv => whnf
  refine ⟨fun b7 => ?_, fun b7 => absurd (mm_in_t h).2 b7⟩
  conv => whnf
  exact ⟨cr_le rfl, cr_le rfl, rfl, rfl⟩
set_option maxRecDepth 20000 in
theorem j_C_checkGroup_a (hl : l.flags = flags0) (Z : cr_Z0 s0 D ca e0) (hold : cr_Old s0 H) {z : Int32} (h : mm_in z 10 = false) : cr_c l s0 y_C_checkGroup cw_C_checkGroup 6 1 6 [.int z] H (ck_T 1 H) := by
  refine cr_enter (by decide +kernel) (Nat.le_of_ble_eq_true rfl) (fun hlo P9 E9 S9 M9 A9 B9 T9 C9 C hem hH => ?_)
  refine cr_vc [] 120 (s_C_checkGroup hl Z C hem) (fun K hK => ?_)
  conv => whnf
  refine ⟨fun b1 => ?_, fun b1 => ?_⟩
  · conv => whnf
    refine ⟨hold, rfl, cr_le rfl, cr_le rfl, by decide, cr_le rfl, fun H9 hs9 hq9 => ?_⟩
    exact ⟨rfl, hs9, fun q a _ => hq9 q a⟩
  · conv => whnf
    refine ⟨fun b7 => False.elim ((mm_in_f h).elim b1 (fun q => q b7)), fun b7 => ?_⟩
    conv => whnf
    refine ⟨hold, rfl, cr_le rfl, cr_le rfl, by decide, cr_le rfl, fun H9 hs9 hq9 => ?_⟩
    exact ⟨rfl, hs9, fun q a _ => hq9 q a⟩
set_option maxRecDepth 20000 in
theorem j_C_checkTimeOfDay (hl : l.flags = flags0) (Z : cr_Z0 s0 D ca e0) {z : Int32} (h : mm_in z 1440 = true) : cr_c l s0 y_C_checkTimeOfDay cw_C_checkTimeOfDay 0 0 0 [.int z] H (cr_pu none H) := by
  refine cr_enter (by decide +kernel) (Nat.le_of_ble_eq_true rfl) (fun hlo P9 E9 S9 M9 A9 B9 T9 C9 C hem hH => ?_)
  refine cr_vc [] 120 (s_C_checkTimeOfDay hl Z C hem) (fun K hK => ?_)
  conv => whnf
  refine ⟨fun b1 => absurd b1 (mm_in_t h).1, fun b1 => ?_⟩
  conv => whnf
  refine ⟨fun b8 => ?_, fun b8 => absurd (mm_in_t h).2 b8⟩
  conv => whnf
  exact ⟨cr_le rfl, cr_le rfl, rfl, rfl⟩
set_option maxRecDepth 20000 in
theorem j_C_checkTimeOfDay_a (hl : l.flags = flags0) (Z : cr_Z0 s0 D ca e0) (hold : cr_Old s0 H) {z : Int32} (h : mm_in z 1440 = false) : cr_c l s0 y_C_checkTimeOfDay cw_C_checkTimeOfDay 6 1 6 [.int z] H (ck_T 1 H) := by
  refine cr_enter (by decide +kernel) (Nat.le_of_ble_eq_true rfl) (fun hlo P9 E9 S9 M9 A9 B9 T9 C9 C hem hH => ?_)
  refine cr_vc [] 120 (s_C_checkTimeOfDay hl Z C hem) (fun K hK => ?_)
  conv => whnf
  refine ⟨fun b1 => ?_, fun b1 => ?_⟩
  · conv => whnf
    refine ⟨hold, rfl, cr_le rfl, cr_le rfl, by decide, cr_le rfl, fun H9 hs9 hq9 => ?_⟩
    exact ⟨rfl, hs9, fun q a _ => hq9 q a⟩
  · conv => whnf
    refine ⟨fun b8 => False.elim ((mm_in_f h).elim b1 (fun q => q b8)), fun b8 => ?_⟩
    conv => whnf
    refine ⟨hold, rfl, cr_le rfl, cr_le rfl, by decide, cr_le rfl, fun H9 hs9 hq9 => ?_⟩
    exact ⟨rfl, hs9, fun q a _ => hq9 q a⟩
set_option maxRecDepth 20000 in
theorem j_C_checkMinute (hl : l.flags = flags0) (Z : cr_Z0 s0 D ca e0) {z : Int32} (h : mm_min z = true) : cr_c l s0 y_C_checkMinute cw_C_checkMinute 0 0 0 [.int z] H (cr_pu none H) := by
  refine cr_enter (by decide +kernel) (Nat.le_of_ble_eq_true rfl) (fun hlo P9 E9 S9 M9 A9 B9 T9 C9 C hem hH => ?_)
  refine cr_vc [] 120 (s_C_checkMinute hl Z C hem) (fun K hK => ?_)
  conv => whnf
  refine ⟨fun b1 => absurd b1 (mm_min_t h).1, fun b1 => ?_⟩
  conv => whnf
  refine ⟨fun b8 => ?_, fun b8 => absurd (mm_min_t h).2 b8⟩
  conv => whnf
  exact ⟨cr_le rfl, cr_le rfl, rfl, rfl⟩
set_option maxRecDepth 20000 in
theorem j_C_checkMinute_a (hl : l.flags = flags0) (Z : cr_Z0 s0 D ca e0) (hold : cr_Old s0 H) {z : Int32} (h : mm_min z = false) : cr_c l s0 y_C_checkMinute cw_C_checkMinute 6 1 6 [.int z] H (ck_T 1 H) := by
  refine cr_enter (by decide +kernel) (Nat.le_of_ble_eq_true rfl) (fun hlo P9 E9 S9 M9 A9 B9 T9 C9 C hem hH => ?_)
  refine cr_vc [] 120 (s_C_checkMinute hl Z C hem) (fun K hK => ?_)
  conv => whnf
  refine ⟨fun b1 => ?_, fun b1 => ?_⟩
  · conv => whnf
    refine ⟨hold, rfl, cr_le rfl, cr_le rfl, by decide, cr_le rfl, fun H9 hs9 hq9 => ?_⟩
    exact ⟨rfl, hs9, fun q a _ => hq9 q a⟩
  · conv => whnf
    refine ⟨fun b8 => False.elim ((mm_min_f h).elim b1 (fun q => q b8)), fun b8 => ?_⟩
    conv => whnf
    refine ⟨hold, rfl, cr_le rfl, cr_le rfl, by decide, cr_le rfl, fun H9 hs9 hq9 => ?_⟩
    exact ⟨rfl, hs9, fun q a _ => hq9 q a⟩
set_option maxRecDepth 20000 in
theorem j_C_checkMinuteFromNow (hl : l.flags = flags0) (Z : cr_Z0 s0 D ca e0) {x : Nat} {v0 v1 v2 v3 v4 v5 v6 v7 v8 : Value} {n : Int32} (hx : va_at D kc (x, .inr (0, [v0, v1, v2, v3, v4, v5, v6, v7, v8, .int n])) H) {z : Int32} (h : mm_min z = true) (h2 : n ≤ z) : cr_c l s0 y_C_checkMinuteFromNow cw_C_checkMinuteFromNow 1 0 0 [.ref x, .int z] H (cr_pu none H) := by
  refine cr_enter (by decide +kernel) (Nat.le_of_ble_eq_true rfl) (fun hlo P9 E9 S9 M9 A9 B9 T9 C9 C hem hH => ?_)
  refine cr_vc [] 120 (s_C_checkMinuteFromNow hl Z C hem) (fun K hK => ?_)
  conv => whnf
  refine ⟨rfl, ?_⟩
  conv => whnf
  refine ⟨_, _, _, _, j_C_checkMinute hl Z h, by decide, cr_le rfl, cr_le rfl, cr_le rfl, fun v1 H1 q1 _ => ?_, fun kd H9 q9 _ => by cases q9.1⟩
  obtain ⟨q1a, q1b⟩ := q1
  cases q1a
  replace q1b := q1b.symm
  subst q1b
  conv => whnf
  refine ⟨_, hx, ?_⟩
  conv => whnf
  refine ⟨fun b9 => ?_, fun b9 => absurd h2 b9⟩
  conv => whnf
  exact ⟨cr_le rfl, cr_le rfl, rfl, rfl⟩
set_option maxRecDepth 20000 in
theorem j_C_checkMinuteFromNow_a (hl : l.flags = flags0) (Z : cr_Z0 s0 D ca e0) (hold : cr_Old s0 H) {x : Nat} {v0 v1 v2 v3 v4 v5 v6 v7 v8 : Value} {n : Int32} (hx : va_at D kc (x, .inr (0, [v0, v1, v2, v3, v4, v5, v6, v7, v8, .int n])) H) {z : Int32} (h : mm_min z = false) : cr_c l s0 y_C_checkMinuteFromNow cw_C_checkMinuteFromNow 7 1 6 [.ref x, .int z] H (ck_T 1 H) := by
  refine cr_enter (by decide +kernel) (Nat.le_of_ble_eq_true rfl) (fun hlo P9 E9 S9 M9 A9 B9 T9 C9 C hem hH => ?_)
  refine cr_vc [] 120 (s_C_checkMinuteFromNow hl Z C hem) (fun K hK => ?_)
  conv => whnf
  refine ⟨rfl, ?_⟩
  conv => whnf
  refine ⟨_, _, _, _, j_C_checkMinute_a hl Z hold h, by decide, cr_le rfl, cr_le rfl, cr_le rfl, fun v9 H9 q9 _ => (by cases q9.1), fun kd H9 q9 _ => ?_⟩
  obtain ⟨qa, qf⟩ := q9
  cases qa
  exact ⟨rfl, qf⟩
set_option maxRecDepth 20000 in
theorem j_C_checkMinuteFromNow_b (hl : l.flags = flags0) (Z : cr_Z0 s0 D ca e0) (hold : cr_Old s0 H) {x : Nat} {v0 v1 v2 v3 v4 v5 v6 v7 v8 : Value} {n : Int32} (hx : va_at D kc (x, .inr (0, [v0, v1, v2, v3, v4, v5, v6, v7, v8, .int n])) H) {z : Int32} (h : mm_min z = true) (h2 : ¬ n ≤ z) : cr_c l s0 y_C_checkMinuteFromNow cw_C_checkMinuteFromNow 6 1 6 [.ref x, .int z] H (ck_T 1 H) := by
  refine cr_enter (by decide +kernel) (Nat.le_of_ble_eq_true rfl) (fun hlo P9 E9 S9 M9 A9 B9 T9 C9 C hem hH => ?_)
  refine cr_vc [] 120 (s_C_checkMinuteFromNow hl Z C hem) (fun K hK => ?_)
  conv => whnf
  refine ⟨rfl, ?_⟩
  conv => whnf
  refine ⟨_, _, _, _, j_C_checkMinute hl Z h, by decide, cr_le rfl, cr_le rfl, cr_le rfl, fun v1 H1 q1 _ => ?_, fun kd H9 q9 _ => by cases q9.1⟩
  obtain ⟨q1a, q1b⟩ := q1
  cases q1a
  replace q1b := q1b.symm
  subst q1b
  conv => whnf
  refine ⟨_, hx, ?_⟩
  conv => whnf
  refine ⟨fun b9 => absurd b9 h2, fun b9 => ?_⟩
  conv => whnf
  refine ⟨hold, rfl, cr_le rfl, cr_le rfl, by decide, cr_le rfl, fun H9 hs9 hq9 => ?_⟩
  exact ⟨rfl, hs9, fun q a _ => hq9 q a⟩
set_option maxRecDepth 20000 in
theorem j_C_roomNumbered (hl : l.flags = flags0) (Z : cr_Z0 s0 D ca e0) {x a ea n : Nat} {f : Nat → Nat} {v1 v2 v3 v4 v5 v6 v7 v8 v9 : Value} (hx : va_at D kc (x, .inr (0, [.ref a, v1, v2, v3, v4, v5, v6, v7, v8, v9])) H) (ha : cr_li s0 D ca e0 H a ea n f) (hn : n < 2 ^ 31) {i : Nat} {fs : List Value} (hi : i < n) (ho : va_at D kc (f i, .inr (8, fs)) H) : cr_c l s0 y_C_roomNumbered cw_C_roomNumbered 3 0 0 [.ref x, .int (nI i)] H (cr_pu (some (.ref (f i))) H) := by
  refine cr_enter (by decide +kernel) (Nat.le_of_ble_eq_true rfl) (fun hlo P9 E9 S9 M9 A9 B9 T9 C9 C hem hH => ?_)
  obtain ⟨md, hal, -⟩ := ha.2
  refine cr_vc [] 120 (s_C_roomNumbered hl Z C hem) (fun K hK => ?_)
  conv => whnf
  refine ⟨fun b1 => absurd b1 (nI_pos (by omega)), fun b1 => ?_⟩
  conv => whnf
  refine ⟨_, hx, ?_⟩
  conv => whnf
  refine ⟨rfl, ?_⟩
  conv => whnf
  refine ⟨_, hal, _, _, _, _, j_AL_sizeL hl Z ha, by decide, cr_le rfl, cr_le rfl, cr_le rfl, fun v9 H9 q9 _ => ?_, fun kd H9 q9 _ => by cases q9.1⟩
  obtain ⟨q9a, q9b⟩ := q9
  cases q9a
  replace q9b := q9b.symm
  subst q9b
  conv => whnf
  refine ⟨fun b14 => ?_, fun b14 => absurd (nI_lt hi hn) b14⟩
  conv => whnf
  refine ⟨_, hx, ?_⟩
  conv => whnf
  refine ⟨rfl, ?_⟩
  conv => whnf
  refine ⟨_, hal, _, _, _, _, j_AL_get hl Z ha hi, by decide, cr_le rfl, cr_le rfl, cr_le rfl, fun v33 H33 q33 _ => ?_, fun kd H9 q9 _ => by cases q9.1⟩
  obtain ⟨q33a, q33b⟩ := q33
  cases q33a
  replace q33b := q33b.symm
  subst q33b
  conv => whnf
  refine ⟨_, ho, ?_⟩
  conv => whnf
  exact ⟨cr_le rfl, cr_le rfl, rfl, rfl⟩
set_option maxRecDepth 20000 in
theorem j_C_roomNumbered_a (hl : l.flags = flags0) (Z : cr_Z0 s0 D ca e0) (hold : cr_Old s0 H) {x a ea n : Nat} {f : Nat → Nat} {v1 v2 v3 v4 v5 v6 v7 v8 v9 : Value} (hx : va_at D kc (x, .inr (0, [.ref a, v1, v2, v3, v4, v5, v6, v7, v8, v9])) H) (ha : cr_li s0 D ca e0 H a ea n f) (hn : n < 2 ^ 31) {z : Int32} (h : mm_in z (nI n) = false) : cr_c l s0 y_C_roomNumbered cw_C_roomNumbered 6 1 6 [.ref x, .int z] H (ck_T 1 H) := by
  refine cr_enter (by decide +kernel) (Nat.le_of_ble_eq_true rfl) (fun hlo P9 E9 S9 M9 A9 B9 T9 C9 C hem hH => ?_)
  obtain ⟨md, hal, -⟩ := ha.2
  refine cr_vc [] 120 (s_C_roomNumbered hl Z C hem) (fun K hK => ?_)
  conv => whnf
  refine ⟨fun b1 => ?_, fun b1 => ?_⟩
  · conv => whnf
    refine ⟨hold, rfl, cr_le rfl, cr_le rfl, by decide, cr_le rfl, fun H9 hs9 hq9 => ?_⟩
    exact ⟨rfl, hs9, fun q a _ => hq9 q a⟩
  · conv => whnf
    refine ⟨_, hx, ?_⟩
    conv => whnf
    refine ⟨rfl, ?_⟩
    conv => whnf
    refine ⟨_, hal, _, _, _, _, j_AL_sizeL hl Z ha, by decide, cr_le rfl, cr_le rfl, cr_le rfl, fun v9 H9 q9 _ => ?_, fun kd H9 q9 _ => by cases q9.1⟩
    obtain ⟨q9a, q9b⟩ := q9
    cases q9a
    replace q9b := q9b.symm
    subst q9b
    conv => whnf
    refine ⟨fun b14 => False.elim ((mm_in_f h).elim b1 (fun q => q b14)), fun b14 => ?_⟩
    conv => whnf
    refine ⟨hold, rfl, cr_le rfl, cr_le rfl, by decide, cr_le rfl, fun H9 hs9 hq9 => ?_⟩
    exact ⟨rfl, hs9, fun q a _ => hq9 q a⟩
set_option maxRecDepth 20000 in
theorem j_C_doorNumbered (hl : l.flags = flags0) (Z : cr_Z0 s0 D ca e0) {x a ea n : Nat} {f : Nat → Nat} {v0 v2 v3 v4 v5 v6 v7 v8 v9 : Value} (hx : va_at D kc (x, .inr (0, [v0, .ref a, v2, v3, v4, v5, v6, v7, v8, v9])) H) (ha : cr_li s0 D ca e0 H a ea n f) (hn : n < 2 ^ 31) {i : Nat} {fs : List Value} (hi : i < n) (ho : va_at D kc (f i, .inr (2, fs)) H) : cr_c l s0 y_C_doorNumbered cw_C_doorNumbered 3 0 0 [.ref x, .int (nI i)] H (cr_pu (some (.ref (f i))) H) := by
  refine cr_enter (by decide +kernel) (Nat.le_of_ble_eq_true rfl) (fun hlo P9 E9 S9 M9 A9 B9 T9 C9 C hem hH => ?_)
  obtain ⟨md, hal, -⟩ := ha.2
  refine cr_vc [] 120 (s_C_doorNumbered hl Z C hem) (fun K hK => ?_)
  conv => whnf
  refine ⟨fun b1 => absurd b1 (nI_pos (by omega)), fun b1 => ?_⟩
  conv => whnf
  refine ⟨_, hx, ?_⟩
  conv => whnf
  refine ⟨rfl, ?_⟩
  conv => whnf
  refine ⟨_, hal, _, _, _, _, j_AL_sizeL hl Z ha, by decide, cr_le rfl, cr_le rfl, cr_le rfl, fun v9 H9 q9 _ => ?_, fun kd H9 q9 _ => by cases q9.1⟩
  obtain ⟨q9a, q9b⟩ := q9
  cases q9a
  replace q9b := q9b.symm
  subst q9b
  conv => whnf
  refine ⟨fun b14 => ?_, fun b14 => absurd (nI_lt hi hn) b14⟩
  conv => whnf
  refine ⟨_, hx, ?_⟩
  conv => whnf
  refine ⟨rfl, ?_⟩
  conv => whnf
  refine ⟨_, hal, _, _, _, _, j_AL_get hl Z ha hi, by decide, cr_le rfl, cr_le rfl, cr_le rfl, fun v33 H33 q33 _ => ?_, fun kd H9 q9 _ => by cases q9.1⟩
  obtain ⟨q33a, q33b⟩ := q33
  cases q33a
  replace q33b := q33b.symm
  subst q33b
  conv => whnf
  refine ⟨_, ho, ?_⟩
  conv => whnf
  exact ⟨cr_le rfl, cr_le rfl, rfl, rfl⟩
set_option maxRecDepth 20000 in
theorem j_C_doorNumbered_a (hl : l.flags = flags0) (Z : cr_Z0 s0 D ca e0) (hold : cr_Old s0 H) {x a ea n : Nat} {f : Nat → Nat} {v0 v2 v3 v4 v5 v6 v7 v8 v9 : Value} (hx : va_at D kc (x, .inr (0, [v0, .ref a, v2, v3, v4, v5, v6, v7, v8, v9])) H) (ha : cr_li s0 D ca e0 H a ea n f) (hn : n < 2 ^ 31) {z : Int32} (h : mm_in z (nI n) = false) : cr_c l s0 y_C_doorNumbered cw_C_doorNumbered 6 1 6 [.ref x, .int z] H (ck_T 1 H) := by
  refine cr_enter (by decide +kernel) (Nat.le_of_ble_eq_true rfl) (fun hlo P9 E9 S9 M9 A9 B9 T9 C9 C hem hH => ?_)
  obtain ⟨md, hal, -⟩ := ha.2
  refine cr_vc [] 120 (s_C_doorNumbered hl Z C hem) (fun K hK => ?_)
  conv => whnf
  refine ⟨fun b1 => ?_, fun b1 => ?_⟩
  · conv => whnf
    refine ⟨hold, rfl, cr_le rfl, cr_le rfl, by decide, cr_le rfl, fun H9 hs9 hq9 => ?_⟩
    exact ⟨rfl, hs9, fun q a _ => hq9 q a⟩
  · conv => whnf
    refine ⟨_, hx, ?_⟩
    conv => whnf
    refine ⟨rfl, ?_⟩
    conv => whnf
    refine ⟨_, hal, _, _, _, _, j_AL_sizeL hl Z ha, by decide, cr_le rfl, cr_le rfl, cr_le rfl, fun v9 H9 q9 _ => ?_, fun kd H9 q9 _ => by cases q9.1⟩
    obtain ⟨q9a, q9b⟩ := q9
    cases q9a
    replace q9b := q9b.symm
    subst q9b
    conv => whnf
    refine ⟨fun b14 => False.elim ((mm_in_f h).elim b1 (fun q => q b14)), fun b14 => ?_⟩
    conv => whnf
    refine ⟨hold, rfl, cr_le rfl, cr_le rfl, by decide, cr_le rfl, fun H9 hs9 hq9 => ?_⟩
    exact ⟨rfl, hs9, fun q a _ => hq9 q a⟩
set_option maxRecDepth 20000 in
theorem j_C_personNumbered (hl : l.flags = flags0) (Z : cr_Z0 s0 D ca e0) {x a ea n : Nat} {f : Nat → Nat} {v0 v1 v3 v4 v5 v6 v7 v8 v9 : Value} (hx : va_at D kc (x, .inr (0, [v0, v1, .ref a, v3, v4, v5, v6, v7, v8, v9])) H) (ha : cr_li s0 D ca e0 H a ea n f) (hn : n < 2 ^ 31) {i : Nat} {fs : List Value} (hi : i < n) (ho : va_at D kc (f i, .inr (6, fs)) H) : cr_c l s0 y_C_personNumbered cw_C_personNumbered 3 0 0 [.ref x, .int (nI i)] H (cr_pu (some (.ref (f i))) H) := by
  refine cr_enter (by decide +kernel) (Nat.le_of_ble_eq_true rfl) (fun hlo P9 E9 S9 M9 A9 B9 T9 C9 C hem hH => ?_)
  obtain ⟨md, hal, -⟩ := ha.2
  refine cr_vc [] 120 (s_C_personNumbered hl Z C hem) (fun K hK => ?_)
  conv => whnf
  refine ⟨fun b1 => absurd b1 (nI_pos (by omega)), fun b1 => ?_⟩
  conv => whnf
  refine ⟨_, hx, ?_⟩
  conv => whnf
  refine ⟨rfl, ?_⟩
  conv => whnf
  refine ⟨_, hal, _, _, _, _, j_AL_sizeL hl Z ha, by decide, cr_le rfl, cr_le rfl, cr_le rfl, fun v9 H9 q9 _ => ?_, fun kd H9 q9 _ => by cases q9.1⟩
  obtain ⟨q9a, q9b⟩ := q9
  cases q9a
  replace q9b := q9b.symm
  subst q9b
  conv => whnf
  refine ⟨fun b14 => ?_, fun b14 => absurd (nI_lt hi hn) b14⟩
  conv => whnf
  refine ⟨_, hx, ?_⟩
  conv => whnf
  refine ⟨rfl, ?_⟩
  conv => whnf
  refine ⟨_, hal, _, _, _, _, j_AL_get hl Z ha hi, by decide, cr_le rfl, cr_le rfl, cr_le rfl, fun v33 H33 q33 _ => ?_, fun kd H9 q9 _ => by cases q9.1⟩
  obtain ⟨q33a, q33b⟩ := q33
  cases q33a
  replace q33b := q33b.symm
  subst q33b
  conv => whnf
  refine ⟨_, ho, ?_⟩
  conv => whnf
  exact ⟨cr_le rfl, cr_le rfl, rfl, rfl⟩
set_option maxRecDepth 20000 in
theorem j_C_personNumbered_a (hl : l.flags = flags0) (Z : cr_Z0 s0 D ca e0) (hold : cr_Old s0 H) {x a ea n : Nat} {f : Nat → Nat} {v0 v1 v3 v4 v5 v6 v7 v8 v9 : Value} (hx : va_at D kc (x, .inr (0, [v0, v1, .ref a, v3, v4, v5, v6, v7, v8, v9])) H) (ha : cr_li s0 D ca e0 H a ea n f) (hn : n < 2 ^ 31) {z : Int32} (h : mm_in z (nI n) = false) : cr_c l s0 y_C_personNumbered cw_C_personNumbered 6 1 6 [.ref x, .int z] H (ck_T 1 H) := by
  refine cr_enter (by decide +kernel) (Nat.le_of_ble_eq_true rfl) (fun hlo P9 E9 S9 M9 A9 B9 T9 C9 C hem hH => ?_)
  obtain ⟨md, hal, -⟩ := ha.2
  refine cr_vc [] 120 (s_C_personNumbered hl Z C hem) (fun K hK => ?_)
  conv => whnf
  refine ⟨fun b1 => ?_, fun b1 => ?_⟩
  · conv => whnf
    refine ⟨hold, rfl, cr_le rfl, cr_le rfl, by decide, cr_le rfl, fun H9 hs9 hq9 => ?_⟩
    exact ⟨rfl, hs9, fun q a _ => hq9 q a⟩
  · conv => whnf
    refine ⟨_, hx, ?_⟩
    conv => whnf
    refine ⟨rfl, ?_⟩
    conv => whnf
    refine ⟨_, hal, _, _, _, _, j_AL_sizeL hl Z ha, by decide, cr_le rfl, cr_le rfl, cr_le rfl, fun v9 H9 q9 _ => ?_, fun kd H9 q9 _ => by cases q9.1⟩
    obtain ⟨q9a, q9b⟩ := q9
    cases q9a
    replace q9b := q9b.symm
    subst q9b
    conv => whnf
    refine ⟨fun b14 => False.elim ((mm_in_f h).elim b1 (fun q => q b14)), fun b14 => ?_⟩
    conv => whnf
    refine ⟨hold, rfl, cr_le rfl, cr_le rfl, by decide, cr_le rfl, fun H9 hs9 hq9 => ?_⟩
    exact ⟨rfl, hs9, fun q a _ => hq9 q a⟩
set_option maxRecDepth 20000 in
theorem j_C_cardNumbered (hl : l.flags = flags0) (Z : cr_Z0 s0 D ca e0) {x a ea n : Nat} {f : Nat → Nat} {v0 v1 v2 v4 v5 v6 v7 v8 v9 : Value} (hx : va_at D kc (x, .inr (0, [v0, v1, v2, .ref a, v4, v5, v6, v7, v8, v9])) H) (ha : cr_li s0 D ca e0 H a ea n f) (hn : n < 2 ^ 31) {i : Nat} {fs : List Value} (hi : i < n) (ho : va_at D kc (f i, .inr (1, fs)) H) : cr_c l s0 y_C_cardNumbered cw_C_cardNumbered 3 0 0 [.ref x, .int (nI i)] H (cr_pu (some (.ref (f i))) H) := by
  refine cr_enter (by decide +kernel) (Nat.le_of_ble_eq_true rfl) (fun hlo P9 E9 S9 M9 A9 B9 T9 C9 C hem hH => ?_)
  obtain ⟨md, hal, -⟩ := ha.2
  refine cr_vc [] 120 (s_C_cardNumbered hl Z C hem) (fun K hK => ?_)
  conv => whnf
  refine ⟨fun b1 => absurd b1 (nI_pos (by omega)), fun b1 => ?_⟩
  conv => whnf
  refine ⟨_, hx, ?_⟩
  conv => whnf
  refine ⟨rfl, ?_⟩
  conv => whnf
  refine ⟨_, hal, _, _, _, _, j_AL_sizeL hl Z ha, by decide, cr_le rfl, cr_le rfl, cr_le rfl, fun v9 H9 q9 _ => ?_, fun kd H9 q9 _ => by cases q9.1⟩
  obtain ⟨q9a, q9b⟩ := q9
  cases q9a
  replace q9b := q9b.symm
  subst q9b
  conv => whnf
  refine ⟨fun b14 => ?_, fun b14 => absurd (nI_lt hi hn) b14⟩
  conv => whnf
  refine ⟨_, hx, ?_⟩
  conv => whnf
  refine ⟨rfl, ?_⟩
  conv => whnf
  refine ⟨_, hal, _, _, _, _, j_AL_get hl Z ha hi, by decide, cr_le rfl, cr_le rfl, cr_le rfl, fun v33 H33 q33 _ => ?_, fun kd H9 q9 _ => by cases q9.1⟩
  obtain ⟨q33a, q33b⟩ := q33
  cases q33a
  replace q33b := q33b.symm
  subst q33b
  conv => whnf
  refine ⟨_, ho, ?_⟩
  conv => whnf
  exact ⟨cr_le rfl, cr_le rfl, rfl, rfl⟩
set_option maxRecDepth 20000 in
theorem j_C_cardNumbered_a (hl : l.flags = flags0) (Z : cr_Z0 s0 D ca e0) (hold : cr_Old s0 H) {x a ea n : Nat} {f : Nat → Nat} {v0 v1 v2 v4 v5 v6 v7 v8 v9 : Value} (hx : va_at D kc (x, .inr (0, [v0, v1, v2, .ref a, v4, v5, v6, v7, v8, v9])) H) (ha : cr_li s0 D ca e0 H a ea n f) (hn : n < 2 ^ 31) {z : Int32} (h : mm_in z (nI n) = false) : cr_c l s0 y_C_cardNumbered cw_C_cardNumbered 6 1 6 [.ref x, .int z] H (ck_T 1 H) := by
  refine cr_enter (by decide +kernel) (Nat.le_of_ble_eq_true rfl) (fun hlo P9 E9 S9 M9 A9 B9 T9 C9 C hem hH => ?_)
  obtain ⟨md, hal, -⟩ := ha.2
  refine cr_vc [] 120 (s_C_cardNumbered hl Z C hem) (fun K hK => ?_)
  conv => whnf
  refine ⟨fun b1 => ?_, fun b1 => ?_⟩
  · conv => whnf
    refine ⟨hold, rfl, cr_le rfl, cr_le rfl, by decide, cr_le rfl, fun H9 hs9 hq9 => ?_⟩
    exact ⟨rfl, hs9, fun q a _ => hq9 q a⟩
  · conv => whnf
    refine ⟨_, hx, ?_⟩
    conv => whnf
    refine ⟨rfl, ?_⟩
    conv => whnf
    refine ⟨_, hal, _, _, _, _, j_AL_sizeL hl Z ha, by decide, cr_le rfl, cr_le rfl, cr_le rfl, fun v9 H9 q9 _ => ?_, fun kd H9 q9 _ => by cases q9.1⟩
    obtain ⟨q9a, q9b⟩ := q9
    cases q9a
    replace q9b := q9b.symm
    subst q9b
    conv => whnf
    refine ⟨fun b14 => False.elim ((mm_in_f h).elim b1 (fun q => q b14)), fun b14 => ?_⟩
    conv => whnf
    refine ⟨hold, rfl, cr_le rfl, cr_le rfl, by decide, cr_le rfl, fun H9 hs9 hq9 => ?_⟩
    exact ⟨rfl, hs9, fun q a _ => hq9 q a⟩
end CHK
