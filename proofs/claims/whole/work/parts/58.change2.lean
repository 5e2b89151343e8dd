/-! THE CLASS: findings, and a knowledge copied (printed by gen/comp9.py) -/
section CFK
variable {l : Launch} {s0 : State} {D : va_G} {ca : Nat → ClassId} {e0 : Nat} {H : Heap}
theorem fi_4 (n : Nat) : nI n * 4 = nI (4 * n) := by
  rw [Nat.mul_comm]
  exact pk_mul n 4
set_option maxRecDepth 20000 in
theorem j_Fi_add_lt (hl : l.flags = flags0) (Z : cr_Z0 s0 D ca e0) {a pa n t9 : Nat} {f : Nat → Int32} (ha : s0.heap.size ≤ a) (hp : s0.heap.size ≤ pa) (hap : a ≠ pa) (h : va_at D kc (a, .inr (3, [.ref pa, .int (nI t9), .int (nI n)])) H) (h2 : va_at D kc (pa, .inl (ca 0, 400, .inl f)) H) {d9 c9 m9 y9 : Int32} (hn : n < 100) : cr_c l s0 y_Fi_add cw_Fi_add 0 0 0 [.ref a, .int d9, .int c9, .int m9, .int y9] H (fun o H' => o = .inl none ∧ va_at D kc (a, .inr (3, [.ref pa, .int (nI (t9 + 1)), .int (nI (n + 1))])) H' ∧ va_at D kc (pa, .inl (ca 0, 400, .inl (upd (upd (upd (upd f (4 * n) d9) (4 * n + 1) c9) (4 * n + 2) m9) (4 * n + 3) y9))) H' ∧ H'.size = H.size ∧ ∀ q : Nat, q ≠ a → q ≠ pa → H'[q]? = H[q]?) := by
  refine cr_enter (by decide +kernel) (Nat.le_of_ble_eq_true rfl) (fun hlo P9 E9 S9 M9 A9 B9 T9 C9 C hem hH => ?_)
  refine cr_vc [] 120 (s_Fi_add hl Z C hem) (fun K hK => ?_)
  conv => whnf
  refine ⟨rfl, ?_⟩
  conv => whnf
  refine ⟨_, h, ?_⟩
  conv => whnf
  refine ⟨_, h, ha, ⟨rfl, rfl⟩, ?_⟩
  conv => whnf
  intro H7 u7
  conv => whnf
  refine ⟨_, u7.2.1, ?_⟩
  conv => whnf
  refine ⟨fun b16 => ?_, fun b16 => absurd (show nI n < nI 100 from nI_lt hn (by decide)) b16⟩
  conv => whnf
  refine ⟨_, u7.2.1, ?_⟩
  conv => whnf
  refine ⟨cr_le rfl, ?_⟩
  rw [fi_4]
  conv => whnf
  refine ⟨_, u7.2.1, ?_⟩
  conv => whnf
  refine ⟨_, _, _, (cr_at_eq h2 (u7.2.2 pa (Ne.symm hap))), hp, rfl, show 4 * n < 400 by omega, cr_le rfl, fun H35 u35 => ?_⟩
  conv => whnf
  refine ⟨_, (cr_at_eq u7.2.1 (u35.2.2 a hap)), ?_⟩
  conv => whnf
  refine ⟨_, _, _, u35.2.1, hp, nI_1 _, show 4 * n + 1 < 400 by omega, cr_le rfl, fun H45 u45 => ?_⟩
  conv => whnf
  refine ⟨_, (cr_at_eq u7.2.1 ((u45.2.2 a hap).trans (u35.2.2 a hap))), ?_⟩
  conv => whnf
  refine ⟨_, _, _, u45.2.1, hp, nI_add _ 2, show 4 * n + 2 < 400 by omega, cr_le rfl, fun H55 u55 => ?_⟩
  conv => whnf
  refine ⟨_, (cr_at_eq u7.2.1 ((u55.2.2 a hap).trans ((u45.2.2 a hap).trans (u35.2.2 a hap)))), ?_⟩
  conv => whnf
  refine ⟨_, _, _, u55.2.1, hp, nI_add _ 3, show 4 * n + 3 < 400 by omega, cr_le rfl, fun H66 u66 => ?_⟩
  conv => whnf
  refine ⟨rfl, ?_⟩
  conv => whnf
  refine ⟨_, (cr_at_eq u7.2.1 ((u66.2.2 a hap).trans ((u55.2.2 a hap).trans ((u45.2.2 a hap).trans (u35.2.2 a hap))))), ?_⟩
  conv => whnf
  refine ⟨_, (cr_at_eq u7.2.1 ((u66.2.2 a hap).trans ((u55.2.2 a hap).trans ((u45.2.2 a hap).trans (u35.2.2 a hap))))), ha, ⟨rfl, rfl⟩, ?_⟩
  conv => whnf
  intro H74 u74
  conv => whnf
  refine ⟨cr_le rfl, cr_le rfl, rfl, (by have q := u74.2.1; rw [nI_1 t9, nI_1 n] at q; exact q), cr_at_eq u66.2.1 (u74.2.2 pa (Ne.symm hap)), ?_, fun q q1 q2 => ?_⟩
  · rw [u74.1, u66.1, u55.1, u45.1, u35.1, u7.1]
  · rw [u74.2.2 q q1, u66.2.2 q q2, u55.2.2 q q2, u45.2.2 q q2, u35.2.2 q q2, u7.2.2 q q1]
set_option maxRecDepth 20000 in
theorem j_Fi_add_ge (hl : l.flags = flags0) (Z : cr_Z0 s0 D ca e0) {a pa n t9 : Nat} {f : Nat → Int32} (ha : s0.heap.size ≤ a) (hp : s0.heap.size ≤ pa) (hap : a ≠ pa) (h : va_at D kc (a, .inr (3, [.ref pa, .int (nI t9), .int (nI n)])) H) (h2 : va_at D kc (pa, .inl (ca 0, 400, .inl f)) H) {d9 c9 m9 y9 : Int32} (hn : 100 ≤ n) (hn2 : n < 2 ^ 31) : cr_c l s0 y_Fi_add cw_Fi_add 0 0 0 [.ref a, .int d9, .int c9, .int m9, .int y9] H (fun o H' => o = .inl none ∧ cr_Up D kc H a (.inr (3, [.ref pa, .int (nI (t9 + 1)), .int (nI n)])) H') := by
  refine cr_enter (by decide +kernel) (Nat.le_of_ble_eq_true rfl) (fun hlo P9 E9 S9 M9 A9 B9 T9 C9 C hem hH => ?_)
  refine cr_vc [] 120 (s_Fi_add hl Z C hem) (fun K hK => ?_)
  conv => whnf
  refine ⟨rfl, ?_⟩
  conv => whnf
  refine ⟨_, h, ?_⟩
  conv => whnf
  refine ⟨_, h, ha, ⟨rfl, rfl⟩, ?_⟩
  conv => whnf
  intro H7 u7
  conv => whnf
  refine ⟨_, u7.2.1, ?_⟩
  conv => whnf
  refine ⟨fun b16 => absurd b16 (show ¬ nI n < nI 100 from nI_nlt hn hn2), fun b16 => ?_⟩
  conv => whnf
  exact ⟨cr_le rfl, cr_le rfl, rfl, (by have q := u7; rw [nI_1] at q; exact q)⟩
set_option maxRecDepth 20000 in
theorem j_Kn_copyFrom (hl : l.flags = flags0) (Z : cr_Z0 s0 D ca e0) {a b la ea lb eb : Nat} {v0 v1 : Value} {x9 y9 : Int32} {f g f1 g1 : Nat → Int32} (ha : s0.heap.size ≤ a) (hl1 : s0.heap.size ≤ la) (he1 : s0.heap.size ≤ ea) (h : va_at D kc (a, .inr (4, [v0, v1, .ref la, .ref ea])) H) (h2 : va_at D kc (b, .inr (4, [.int x9, .int y9, .ref lb, .ref eb])) H) (q1 : va_at D kc (la, .inl (ca 0, 60, .inl f)) H) (q2 : va_at D kc (ea, .inl (ca 0, 16, .inl g)) H) (q3 : va_at D kc (lb, .inl (ca 0, 60, .inl f1)) H) (q4 : va_at D kc (eb, .inl (ca 0, 16, .inl g1)) H) (n1 : b ≠ a) (n2 : la ≠ a) (n3 : ea ≠ a) (n4 : lb ≠ a) (n5 : eb ≠ a) (n6 : ea ≠ la) (n7 : eb ≠ la) (n8 : b ≠ la) : cr_c l s0 y_Kn_copyFrom cw_Kn_copyFrom 2 0 0 [.ref a, .ref b] H (fun o H' => o = .inl none ∧ va_at D kc (a, .inr (4, [.int x9, .int y9, .ref la, .ref ea])) H' ∧ va_at D kc (la, .inl (ca 0, 60, .inl (va_cpy f1 f 0 0 60))) H' ∧ va_at D kc (ea, .inl (ca 0, 16, .inl (va_cpy g1 g 0 0 16))) H' ∧ H'.size = H.size ∧ ∀ q : Nat, q ≠ a → q ≠ la → q ≠ ea → H'[q]? = H[q]?) := by
  refine cr_enter (by decide +kernel) (Nat.le_of_ble_eq_true rfl) (fun hlo P9 E9 S9 M9 A9 B9 T9 C9 C hem hH => ?_)
  refine cr_vc [] 120 (s_Kn_copyFrom hl Z C hem) (fun K hK => ?_)
  conv => whnf
  refine ⟨_, h2, ?_⟩
  conv => whnf
  refine ⟨_, h, ha, ⟨rfl, rfl⟩, ?_⟩
  conv => whnf
  intro H5 u5
  conv => whnf
  refine ⟨_, (cr_at_eq h2 (u5.2.2 b n1)), ?_⟩
  conv => whnf
  refine ⟨_, u5.2.1, ha, ⟨rfl, rfl⟩, ?_⟩
  conv => whnf
  intro H13 u13
  conv => whnf
  refine ⟨_, (cr_at_eq (cr_at_eq h2 (u5.2.2 b n1)) (u13.2.2 b n1)), ?_⟩
  conv => whnf
  refine ⟨_, u13.2.1, ?_⟩
  conv => whnf
  refine ⟨rfl, by decide, cr_le rfl, 60, 60, _, _, 0, 0, 60, (cr_at_eq (cr_at_eq q3 (u5.2.2 lb n4)) (u13.2.2 lb n4)), (cr_at_eq (cr_at_eq q1 (u5.2.2 la n2)) (u13.2.2 la n2)), hl1, rfl, rfl, rfl, cr_le rfl, cr_le rfl, cr_le rfl, cr_le rfl, fun H28 u28 => ?_⟩
  conv => whnf
  refine ⟨_, (cr_at_eq (cr_at_eq (cr_at_eq h2 (u5.2.2 b n1)) (u13.2.2 b n1)) (u28.2.2 b n8)), ?_⟩
  conv => whnf
  refine ⟨_, (cr_at_eq u13.2.1 (u28.2.2 a (Ne.symm n2))), ?_⟩
  conv => whnf
  refine ⟨rfl, by decide, cr_le rfl, 16, 16, _, _, 0, 0, 16, (cr_at_eq (cr_at_eq (cr_at_eq q4 (u5.2.2 eb n5)) (u13.2.2 eb n5)) (u28.2.2 eb n7)), (cr_at_eq (cr_at_eq (cr_at_eq q2 (u5.2.2 ea n3)) (u13.2.2 ea n3)) (u28.2.2 ea n6)), he1, rfl, rfl, rfl, cr_le rfl, cr_le rfl, cr_le rfl, cr_le rfl, fun H43 u43 => ?_⟩
  conv => whnf
  refine ⟨cr_le rfl, cr_le rfl, rfl, (cr_at_eq (cr_at_eq u13.2.1 (u28.2.2 a (Ne.symm n2))) (u43.2.2 a (Ne.symm n3))), (cr_at_eq u28.2.1 (u43.2.2 la (Ne.symm n6))), u43.2.1, ?_, fun q r1 r2 r3 => ?_⟩
  · rw [u43.1, u28.1, u13.1, u5.1]
  · rw [u43.2.2 q r3, u28.2.2 q r2, u13.2.2 q r1, u5.2.2 q r1]
end CFK
