/-! THE CLASS: its loops over lists (printed by gen/comp3.py) -/
section CLP
variable {l : Launch} {s0 : State} {D : va_G} {ca : Nat → ClassId} {e0 : Nat} {H : Heap}
def hr_P (g z fr to si ef : Nat → Int32) (g9 z9 t m : Int32) (i : Nat) : Bool := ri_for (g i) (z i) (fr i) (to i) g9 z9 t && (!decide (m < si i) && !kn_fr (ef i) m)
def ao_P (op : Nat → Int32) (al : Int32) (i : Nat) : Bool := !decide (op i = 0) && !decide (al &&& (1 <<< (nI i &&& 31)) = 0)
set_option maxRecDepth 20000 in
theorem j_C_hasRight (hl : l.flags = flags0) (Z : cr_Z0 s0 D ca e0) {x a ea n : Nat} {f : Nat → Nat} {v0 v1 v2 v3 v5 v6 v7 v8 v9 : Value} (hx : va_at D kc (x, .inr (0, [v0, v1, v2, v3, .ref a, v5, v6, v7, v8, v9])) H) (ha : cr_li s0 D ca e0 H a ea n f) (hn : n ≤ 16) {g z fr to si ef : Nat → Int32} (hr : ∀ i, i < n → va_at D kc (f i, .inr (7, [.int (g i), .int (z i), .int (fr i), .int (to i), .int (si i)])) H) {kk la ka kR : Nat} {kC : Int32} (hk : va_at D kc (kk, .inr (4, [.int kC, .int (nI kR), .ref la, .ref ka])) H) (he : va_at D kc (ka, .inl (ca 0, 16, .inl ef)) H) (hkR : kR < 2 ^ 31) {g9 z9 m : Int32} : cr_c l s0 y_C_hasRight cw_C_hasRight 3 0 0 [.ref x, .ref kk, .int g9, .int z9, .int m] H (cr_pu (some (.int (cr_b (mm_ex (hr_P g z fr to si ef g9 z9 (m - m / 1440 * 1440) m) 0 (min n kR))))) H) := by
  refine cr_enter (by decide +kernel) (Nat.le_of_ble_eq_true rfl) (fun hlo P9 E9 S9 M9 A9 B9 T9 C9 C hem hH => ?_)
  obtain ⟨md, hal, -⟩ := ha.2
  have loop : ∀ (j i : Nat), i + j = min n kR → mm_ex (hr_P g z fr to si ef g9 z9 (m - m / 1440 * 1440) m) i j = (mm_ex (hr_P g z fr to si ef g9 z9 (m - m / 1440 * 1440) m) 0 (min n kR)) → cr_G P9 l E9 (cr_rm 3 0 0) S9 M9 A9 B9 T9 C9 s0.heap.size 0 0 (cr_pu (some (.int (cr_b (mm_ex (hr_P g z fr to si ef g9 z9 (m - m / 1440 * 1440) m) 0 (min n kR))))) H) 3 [some (.ref x), some (.ref kk), some (.int g9), some (.int z9), some (.int m), some (.int (nI i)), none] [] H 0 0 := by
    intro j
    induction j with
    | zero =>
      intro i hj hx9
      refine cr_vc [3] 90 (s_C_hasRight hl Z C hem) (fun K hK => ?_)
      conv => whnf
      refine ⟨_, hx, ?_⟩
      conv => whnf
      refine ⟨rfl, ?_⟩
      conv => whnf
      refine ⟨_, hal, _, _, _, _, j_AL_sizeL hl Z ha, by decide, cr_le rfl, cr_le rfl, cr_le rfl, fun v9 H9 q9 _ => ?_, fun kd H9 q9 _ => by cases q9.1⟩
      obtain ⟨q9a, q9b⟩ := q9
      cases q9a
      replace q9b := q9b.symm
      subst q9b
      conv => whnf
      refine ⟨fun b14 => ?_, fun b14 => ?_⟩
      · conv => whnf
        exact ⟨rfl, cr_le rfl, cr_le rfl, (by rw [← hx9]; rfl), rfl⟩
      · conv => whnf
        refine ⟨_, hk, ?_⟩
        conv => whnf
        refine ⟨fun b23 => ?_, fun b23 => absurd (nI_le (show kR ≤ i by have := cr_ltof (show i < 2 ^ 31 by omega) b14; omega) (by omega)) b23⟩
        conv => whnf
        exact ⟨rfl, cr_le rfl, cr_le rfl, (by rw [← hx9]; rfl), rfl⟩
    | succ j ih =>
      intro i hj hx9
      refine cr_vc [3] 90 (s_C_hasRight hl Z C hem) (fun K hK => ?_)
      conv => whnf
      refine ⟨_, hx, ?_⟩
      conv => whnf
      refine ⟨rfl, ?_⟩
      conv => whnf
      refine ⟨_, hal, _, _, _, _, j_AL_sizeL hl Z ha, by decide, cr_le rfl, cr_le rfl, cr_le rfl, fun v9 H9 q9 _ => ?_, fun kd H9 q9 _ => by cases q9.1⟩
      obtain ⟨q9a, q9b⟩ := q9
      cases q9a
      replace q9b := q9b.symm
      subst q9b
      conv => whnf
      refine ⟨fun b14 => absurd b14 (cr_nle (show i < n by omega) (by omega)), fun b14 => ?_⟩
      conv => whnf
      refine ⟨_, hk, ?_⟩
      conv => whnf
      refine ⟨fun b23 => absurd b23 (cr_nle (show i < kR by omega) (by omega)), fun b23 => ?_⟩
      conv => whnf
      refine ⟨_, hx, ?_⟩
      conv => whnf
      refine ⟨rfl, ?_⟩
      conv => whnf
      refine ⟨_, hal, _, _, _, _, j_AL_get hl Z ha (show i < n by omega), by decide, cr_le rfl, cr_le rfl, cr_le rfl, fun v32 H32 q32 _ => ?_, fun kd H9 q9 _ => by cases q9.1⟩
      obtain ⟨q32a, q32b⟩ := q32
      cases q32a
      replace q32b := q32b.symm
      subst q32b
      conv => whnf
      refine ⟨_, (hr i (by omega)), ?_⟩
      conv => whnf
      refine ⟨cr_le rfl, ?_⟩
      conv => whnf
      refine ⟨by decide, ?_⟩
      conv => whnf
      refine ⟨rfl, ?_⟩
      conv => whnf
      refine ⟨_, (hr i (by omega)), _, _, _, _, j_Ri_isFor hl Z (hr i (by omega)), by decide, cr_le rfl, cr_le rfl, cr_le rfl, fun v52 H52 q52 _ => ?_, fun kd H9 q9 _ => by cases q9.1⟩
      obtain ⟨q52a, q52b⟩ := q52
      cases q52a
      replace q52b := q52b.symm
      subst q52b
      conv => whnf
      refine ⟨fun b55 => ?_, fun b55 => ?_⟩
      · conv => whnf
        refine ⟨cr_le rfl, ?_⟩
        conv => whnf
        exact hK _ _ _ _ _ _ (cr_G_fg (ih (i + 1) (by omega) (by rw [← hx9]; show _ = ((hr_P g z fr to si ef g9 z9 (m - m / 1440 * 1440) m) i || _); rw [show (hr_P g z fr to si ef g9 z9 (m - m / 1440 * 1440) m) i = false by simp [hr_P, cr_bf b55]]; rfl)) ⟨rfl, rfl, rfl, rfl, rfl, (show Value.int (nI (i + 1)) = Value.int (nI i + 1) by rw [nI_1]), trivial⟩)
      · conv => whnf
        refine ⟨_, (hr i (by omega)), ?_⟩
        conv => whnf
        refine ⟨fun b65 => ?_, fun b65 => ?_⟩
        · conv => whnf
          refine ⟨cr_le rfl, ?_⟩
          conv => whnf
          exact hK _ _ _ _ _ _ (cr_G_fg (ih (i + 1) (by omega) (by rw [← hx9]; show _ = ((hr_P g z fr to si ef g9 z9 (m - m / 1440 * 1440) m) i || _); rw [show (hr_P g z fr to si ef g9 z9 (m - m / 1440 * 1440) m) i = false by simp [hr_P, b65]]; rfl)) ⟨rfl, rfl, rfl, rfl, rfl, (show Value.int (nI (i + 1)) = Value.int (nI i + 1) by rw [nI_1]), trivial⟩)
        · conv => whnf
          refine ⟨rfl, ?_⟩
          conv => whnf
          refine ⟨_, hk, _, _, _, _, j_Kn_isEnded hl Z hk he (show i < 16 by omega), by decide, cr_le rfl, cr_le rfl, cr_le rfl, fun v73 H73 q73 _ => ?_, fun kd H9 q9 _ => by cases q9.1⟩
          obtain ⟨q73a, q73b⟩ := q73
          cases q73a
          replace q73b := q73b.symm
          subst q73b
          conv => whnf
          refine ⟨fun b76 => ?_, fun b76 => ?_⟩
          · conv => whnf
            refine ⟨cr_le rfl, ?_⟩
            conv => whnf
            exact hK _ _ _ _ _ _ (cr_G_fg (ih (i + 1) (by omega) (by rw [← hx9]; show _ = ((hr_P g z fr to si ef g9 z9 (m - m / 1440 * 1440) m) i || _); rw [show (hr_P g z fr to si ef g9 z9 (m - m / 1440 * 1440) m) i = false by simp [hr_P, cr_bt b76]]; rfl)) ⟨rfl, rfl, rfl, rfl, rfl, (show Value.int (nI (i + 1)) = Value.int (nI i + 1) by rw [nI_1]), trivial⟩)
          · conv => whnf
            exact ⟨rfl, cr_le rfl, cr_le rfl, (by rw [← hx9, show mm_ex (hr_P g z fr to si ef g9 z9 (m - m / 1440 * 1440) m) i (j + 1) = true by show ((hr_P g z fr to si ef g9 z9 (m - m / 1440 * 1440) m) i || _) = true; rw [show (hr_P g z fr to si ef g9 z9 (m - m / 1440 * 1440) m) i = true by simp [hr_P, cr_bt b55, b65, cr_bf b76]]; rfl]; rfl), rfl⟩
  refine cr_vc [3] 120 (s_C_hasRight hl Z C hem) (fun K hK => ?_)
  conv => whnf
  refine ⟨cr_le rfl, ?_⟩
  conv => whnf
  exact hK _ _ _ _ _ _ (loop (min n kR) 0 (by omega) rfl)
set_option maxRecDepth 20000 in
theorem j_C_isAirlockOpen (hl : l.flags = flags0) (Z : cr_Z0 s0 D ca e0) {x a ea n : Nat} {f : Nat → Nat} {v0 v2 v3 v4 v5 v6 v7 v8 v9 : Value} (hx : va_at D kc (x, .inr (0, [v0, .ref a, v2, v3, v4, v5, v6, v7, v8, v9])) H) (ha : cr_li s0 D ca e0 H a ea n f) (hn : n ≤ 30) {op : Nat → Int32} {w1 w2 w3 w5 w6 w7 w8 w9 : Nat → Value} (hr : ∀ i, i < n → va_at D kc (f i, .inr (2, [.int (nI i), w1 i, w2 i, w3 i, .int (op i), w5 i, w6 i, w7 i, w8 i, w9 i])) H) {d ra rb : Nat} {nd al : Int32} {y3 y4 y5 y7 y8 y9 : Value} (hd : va_at D kc (d, .inr (2, [.int nd, .ref ra, .ref rb, y3, y4, y5, .int al, y7, y8, y9])) H) : cr_c l s0 y_C_isAirlockOpen cw_C_isAirlockOpen 3 0 0 [.ref x, .ref d] H (cr_pu (some (.int (cr_b (mm_ex (ao_P op al) 0 n)))) H) := by
  refine cr_enter (by decide +kernel) (Nat.le_of_ble_eq_true rfl) (fun hlo P9 E9 S9 M9 A9 B9 T9 C9 C hem hH => ?_)
  obtain ⟨md, hal, -⟩ := ha.2
  have loop : ∀ (j i : Nat), i + j = n → mm_ex (ao_P op al) i j = (mm_ex (ao_P op al) 0 n) → cr_G P9 l E9 (cr_rm 3 0 0) S9 M9 A9 B9 T9 C9 s0.heap.size 0 0 (cr_pu (some (.int (cr_b (mm_ex (ao_P op al) 0 n)))) H) 2 [some (.ref x), some (.ref d), some (.int (nI i)), none] [] H 0 0 := by
    intro j
    induction j with
    | zero =>
      intro i hj hx9
      refine cr_vc [2] 90 (s_C_isAirlockOpen hl Z C hem) (fun K hK => ?_)
      conv => whnf
      refine ⟨_, hx, ?_⟩
      conv => whnf
      refine ⟨rfl, ?_⟩
      conv => whnf
      refine ⟨_, hal, _, _, _, _, j_AL_sizeL hl Z ha, by decide, cr_le rfl, cr_le rfl, cr_le rfl, fun v7 H7 q7 _ => ?_, fun kd H9 q9 _ => by cases q9.1⟩
      obtain ⟨q7a, q7b⟩ := q7
      cases q7a
      replace q7b := q7b.symm
      subst q7b
      conv => whnf
      refine ⟨fun b12 => ?_, fun b12 => absurd (nI_le (show n ≤ i by omega) (by omega)) b12⟩
      conv => whnf
      exact ⟨rfl, cr_le rfl, cr_le rfl, (by rw [← hx9]; rfl), rfl⟩
    | succ j ih =>
      intro i hj hx9
      refine cr_vc [2] 90 (s_C_isAirlockOpen hl Z C hem) (fun K hK => ?_)
      conv => whnf
      refine ⟨_, hx, ?_⟩
      conv => whnf
      refine ⟨rfl, ?_⟩
      conv => whnf
      refine ⟨_, hal, _, _, _, _, j_AL_sizeL hl Z ha, by decide, cr_le rfl, cr_le rfl, cr_le rfl, fun v7 H7 q7 _ => ?_, fun kd H9 q9 _ => by cases q9.1⟩
      obtain ⟨q7a, q7b⟩ := q7
      cases q7a
      replace q7b := q7b.symm
      subst q7b
      conv => whnf
      refine ⟨fun b12 => absurd b12 (cr_nle (show i < n by omega) (by omega)), fun b12 => ?_⟩
      conv => whnf
      refine ⟨_, hx, ?_⟩
      conv => whnf
      refine ⟨rfl, ?_⟩
      conv => whnf
      refine ⟨_, hal, _, _, _, _, j_AL_get hl Z ha (show i < n by omega), by decide, cr_le rfl, cr_le rfl, cr_le rfl, fun v20 H20 q20 _ => ?_, fun kd H9 q9 _ => by cases q9.1⟩
      obtain ⟨q20a, q20b⟩ := q20
      cases q20a
      replace q20b := q20b.symm
      subst q20b
      conv => whnf
      refine ⟨_, (hr i (by omega)), ?_⟩
      conv => whnf
      refine ⟨cr_le rfl, ?_⟩
      conv => whnf
      refine ⟨_, (hr i (by omega)), ?_⟩
      conv => whnf
      refine ⟨fun b33 => ?_, fun b33 => ?_⟩
      · conv => whnf
        refine ⟨cr_le rfl, ?_⟩
        conv => whnf
        exact hK _ _ _ _ _ _ (cr_G_fg (ih (i + 1) (by omega) (by rw [← hx9]; show _ = ((ao_P op al) i || _); rw [show (ao_P op al) i = false by unfold ao_P; simp [b33]]; rfl)) ⟨rfl, rfl, (show Value.int (nI (i + 1)) = Value.int (nI i + 1) by rw [nI_1]), trivial⟩)
      · conv => whnf
        refine ⟨rfl, ?_⟩
        conv => whnf
        refine ⟨_, hd, _, _, _, _, j_Dr_isAirlockWith hl Z hd (hr i (by omega)), by decide, cr_le rfl, cr_le rfl, cr_le rfl, fun v38 H38 q38 _ => ?_, fun kd H9 q9 _ => by cases q9.1⟩
        obtain ⟨q38a, q38b⟩ := q38
        cases q38a
        replace q38b := q38b.symm
        subst q38b
        conv => whnf
        refine ⟨fun b41 => ?_, fun b41 => ?_⟩
        · conv => whnf
          refine ⟨cr_le rfl, ?_⟩
          conv => whnf
          exact hK _ _ _ _ _ _ (cr_G_fg (ih (i + 1) (by omega) (by rw [← hx9]; show _ = ((ao_P op al) i || _); rw [show (ao_P op al) i = false by unfold ao_P; rw [cr_bf b41]; simp]; rfl)) ⟨rfl, rfl, (show Value.int (nI (i + 1)) = Value.int (nI i + 1) by rw [nI_1]), trivial⟩)
        · conv => whnf
          exact ⟨rfl, cr_le rfl, cr_le rfl, (by rw [← hx9, show mm_ex (ao_P op al) i (j + 1) = true by show ((ao_P op al) i || _) = true; rw [show (ao_P op al) i = true by unfold ao_P; rw [cr_bt b41]; simp [b33]]; rfl]; rfl), rfl⟩
  refine cr_vc [2] 120 (s_C_isAirlockOpen hl Z C hem) (fun K hK => ?_)
  conv => whnf
  refine ⟨cr_le rfl, ?_⟩
  conv => whnf
  exact hK _ _ _ _ _ _ (loop n 0 (by omega) rfl)
end CLP
