/-! THE CLASS: its small classes' changes (printed by gen/comp8.py) -/
section CCH
variable {l : Launch} {s0 : State} {D : va_G} {ca : Nat → ClassId} {e0 : Nat} {H : Heap}
theorem us_u (g z t : Nat) : (nI g * 10 + nI z) * 1440 + nI t = nI ((g * 10 + z) * 1440 + t) := by
  have e2 : nI g * (10 : Int32) = nI (g * 10) := pk_mul g 10
  have e3 : nI (g * 10 + z) * 1440 = nI ((g * 10 + z) * 1440) := pk_mul _ 1440
  rw [e2, nI_add, e3, nI_add]
theorem us_r {u : Nat} (h : u < 2 ^ 31) : nI u - nI u / 64 * 64 = nI (u % 64) := pk_rem (d := 64) h (by decide) (by decide)
theorem us_d {u : Nat} (h : u < 2 ^ 31) : nI u / 64 = nI (u / 64) := pk_div (d := 64) h (by decide) (by decide)
def us_bit (u : Nat) : Int64 := 1 <<< ((nI (u % 64)).toInt64 &&& 63)
theorem us_cmp {x : Int64} (h : lg_cmp x 0 = 0) : x = 0 := by
  unfold lg_cmp at h
  split at h
  · cases h
  · split at h
    · assumption
    · exact absurd h (by decide)
theorem us_cmp0 : lg_cmp (0 : Int64) 0 = 0 := by decide
set_option maxRecDepth 20000 in
theorem j_Dr_setAirlockWith_on (hl : l.flags = flags0) (Z : cr_Z0 s0 D ca e0) {a ra rb : Nat} {n al : Int32} {v3 v4 v5 v7 v8 v9 : Value} (ha : s0.heap.size ≤ a) (h : va_at D kc (a, .inr (2, [.int n, .ref ra, .ref rb, v3, v4, v5, .int al, v7, v8, v9])) H) {b : Nat} {nb : Int32} {w1 w2 w3 w4 w5 w6 w7 w8 w9 : Value} (h2 : va_at D kc (b, .inr (2, [.int nb, w1, w2, w3, w4, w5, w6, w7, w8, w9])) H) : cr_c l s0 y_Dr_setAirlockWith cw_Dr_setAirlockWith 0 0 0 [.ref a, .ref b, .int 1] H (fun o H' => o = .inl none ∧ cr_Up D kc H a (.inr (2, [.int n, .ref ra, .ref rb, v3, v4, v5, .int (al ||| (1 <<< (nb &&& 31))), v7, v8, v9])) H') := by
  refine cr_enter (by decide +kernel) (Nat.le_of_ble_eq_true rfl) (fun hlo P9 E9 S9 M9 A9 B9 T9 C9 C hem hH => ?_)
  refine cr_vc [] 120 (s_Dr_setAirlockWith hl Z C hem) (fun K hK => ?_)
  conv => whnf
  refine ⟨fun b1 => absurd b1 (by decide), fun b1 => ?_⟩
  conv => whnf
  refine ⟨rfl, ?_⟩
  conv => whnf
  refine ⟨_, h, ?_⟩
  conv => whnf
  refine ⟨_, h2, ?_⟩
  conv => whnf
  refine ⟨_, h, ha, ⟨rfl, rfl⟩, ?_⟩
  conv => whnf
  intro H16 u16
  conv => whnf
  exact ⟨cr_le rfl, cr_le rfl, rfl, u16⟩
set_option maxRecDepth 20000 in
theorem j_Dr_setAirlockWith_of (hl : l.flags = flags0) (Z : cr_Z0 s0 D ca e0) {a ra rb : Nat} {n al : Int32} {v3 v4 v5 v7 v8 v9 : Value} (ha : s0.heap.size ≤ a) (h : va_at D kc (a, .inr (2, [.int n, .ref ra, .ref rb, v3, v4, v5, .int al, v7, v8, v9])) H) {b : Nat} {nb : Int32} {w1 w2 w3 w4 w5 w6 w7 w8 w9 : Value} (h2 : va_at D kc (b, .inr (2, [.int nb, w1, w2, w3, w4, w5, w6, w7, w8, w9])) H) : cr_c l s0 y_Dr_setAirlockWith cw_Dr_setAirlockWith 0 0 0 [.ref a, .ref b, .int 0] H (fun o H' => o = .inl none ∧ cr_Up D kc H a (.inr (2, [.int n, .ref ra, .ref rb, v3, v4, v5, .int (al &&& ((1 <<< (nb &&& 31)) ^^^ -1)), v7, v8, v9])) H') := by
  refine cr_enter (by decide +kernel) (Nat.le_of_ble_eq_true rfl) (fun hlo P9 E9 S9 M9 A9 B9 T9 C9 C hem hH => ?_)
  refine cr_vc [] 120 (s_Dr_setAirlockWith hl Z C hem) (fun K hK => ?_)
  conv => whnf
  refine ⟨fun b1 => ?_, fun b1 => absurd rfl b1⟩
  conv => whnf
  refine ⟨rfl, ?_⟩
  conv => whnf
  refine ⟨_, h, ?_⟩
  conv => whnf
  refine ⟨_, h2, ?_⟩
  conv => whnf
  refine ⟨_, h, ha, ⟨rfl, rfl⟩, ?_⟩
  conv => whnf
  intro H36 u36
  conv => whnf
  exact ⟨cr_le rfl, cr_le rfl, rfl, u36⟩
set_option maxRecDepth 20000 in
theorem j_Us_mark_old (hl : l.flags = flags0) (Z : cr_Z0 s0 D ca e0) {a wa : Nat} {n : Int32} {f : Nat → Int64} (ha : s0.heap.size ≤ a) (hw : s0.heap.size ≤ wa) (h : va_at D kc (a, .inr (10, [.ref wa, .int n])) H) (h2 : va_at D kc (wa, .inl (ca 1, 2250, .inr (.inl f))) H) {g z t : Nat} (hg : g < 10) (hz : z < 10) (ht : t < 1440) {u : Nat} (hu : (g * 10 + z) * 1440 + t = u) (hb : ¬ f (u / 64) &&& us_bit u = 0) : cr_c l s0 y_Us_mark cw_Us_mark 0 0 0 [.ref a, .int (nI g), .int (nI z), .int (nI t)] H (cr_pu none H) := by
  refine cr_enter (by decide +kernel) (Nat.le_of_ble_eq_true rfl) (fun hlo P9 E9 S9 M9 A9 B9 T9 C9 C hem hH => ?_)
  refine cr_vc [] 120 (s_Us_mark hl Z C hem) (fun K hK => ?_)
  conv => whnf
  refine ⟨cr_le rfl, ?_⟩
  rw [us_u, hu]
  conv => whnf
  refine ⟨by decide, ?_⟩
  conv => whnf
  refine ⟨cr_le rfl, ?_⟩
  rw [us_r (by omega)]
  conv => whnf
  refine ⟨_, h, ?_⟩
  conv => whnf
  refine ⟨by decide, ?_⟩
  conv => whnf
  refine ⟨_, _, _, h2, us_d (by omega), show u / 64 < 2250 by omega, cr_le rfl, ?_⟩
  conv => whnf
  refine ⟨fun b38 => ?_, fun b38 => absurd (us_cmp b38) hb⟩
  conv => whnf
  exact ⟨cr_le rfl, cr_le rfl, rfl, rfl⟩
set_option maxRecDepth 20000 in
theorem j_Us_mark_new (hl : l.flags = flags0) (Z : cr_Z0 s0 D ca e0) {a wa : Nat} {n : Int32} {f : Nat → Int64} (ha : s0.heap.size ≤ a) (hw : s0.heap.size ≤ wa) (h : va_at D kc (a, .inr (10, [.ref wa, .int n])) H) (h2 : va_at D kc (wa, .inl (ca 1, 2250, .inr (.inl f))) H) {g z t : Nat} (hg : g < 10) (hz : z < 10) (ht : t < 1440) {u : Nat} (hu : (g * 10 + z) * 1440 + t = u) (hb : f (u / 64) &&& us_bit u = 0) (haw : a ≠ wa) : cr_c l s0 y_Us_mark cw_Us_mark 0 0 0 [.ref a, .int (nI g), .int (nI z), .int (nI t)] H (fun o H' => o = .inl none ∧ va_at D kc (a, .inr (10, [.ref wa, .int (n + 1)])) H' ∧ va_at D kc (wa, .inl (ca 1, 2250, .inr (.inl (vp_updL f (u / 64) (f (u / 64) ||| us_bit u))))) H' ∧ H'.size = H.size ∧ ∀ q : Nat, q ≠ a → q ≠ wa → H'[q]? = H[q]?) := by
  refine cr_enter (by decide +kernel) (Nat.le_of_ble_eq_true rfl) (fun hlo P9 E9 S9 M9 A9 B9 T9 C9 C hem hH => ?_)
  refine cr_vc [] 120 (s_Us_mark hl Z C hem) (fun K hK => ?_)
  conv => whnf
  refine ⟨cr_le rfl, ?_⟩
  rw [us_u, hu]
  conv => whnf
  refine ⟨by decide, ?_⟩
  conv => whnf
  refine ⟨cr_le rfl, ?_⟩
  rw [us_r (by omega)]
  conv => whnf
  refine ⟨_, h, ?_⟩
  conv => whnf
  refine ⟨by decide, ?_⟩
  conv => whnf
  refine ⟨_, _, _, h2, us_d (by omega), show u / 64 < 2250 by omega, cr_le rfl, ?_⟩
  conv => whnf
  refine ⟨fun b38 => absurd (by show lg_cmp (f (u / 64) &&& us_bit u) 0 = 0; rw [hb]; exact us_cmp0) b38, fun b38 => ?_⟩
  conv => whnf
  refine ⟨_, h, ?_⟩
  conv => whnf
  refine ⟨by decide, ?_⟩
  conv => whnf
  refine ⟨rfl, rfl, ?_⟩
  conv => whnf
  refine ⟨_, _, _, h2, us_d (by omega), show u / 64 < 2250 by omega, cr_le rfl, ?_⟩
  conv => whnf
  refine ⟨_, _, _, h2, hw, us_d (by omega), show u / 64 < 2250 by omega, cr_le rfl, fun H55 u55 => ?_⟩
  conv => whnf
  refine ⟨rfl, ?_⟩
  conv => whnf
  refine ⟨_, (cr_at_eq h (u55.2.2 a haw)), ?_⟩
  conv => whnf
  refine ⟨_, (cr_at_eq h (u55.2.2 a haw)), ha, ⟨rfl, rfl⟩, ?_⟩
  conv => whnf
  intro H63 u63
  conv => whnf
  refine ⟨cr_le rfl, cr_le rfl, rfl, u63.2.1, ?_, u63.1.trans u55.1, fun q q1 q2 => (u63.2.2 q q1).trans (u55.2.2 q q2)⟩
  have q9 := cr_at_eq u55.2.1 (u63.2.2 wa (Ne.symm haw))
  exact q9
end CCH
