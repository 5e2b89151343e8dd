/-! CONTRACTS, the small classes -/
section NST
variable {l : Launch} {s0 : State} {D : va_G} {ca : Nat → ClassId} {e0 : Nat} {H : Heap}
theorem cr_Up.tr {cl : List vw_C} {H1 H2 : Heap} {a : Nat} {x y : va_E} (h : cr_Up D cl H a x H1) (h2 : cr_Up D cl H1 a y H2) : cr_Up D cl H a y H2 := ⟨h2.1.trans h.1, h2.2.1, fun q hq => (h2.2.2 q hq).trans (h.2.2 q hq)⟩
theorem j_Ro_init (hl : l.flags = flags0) (Z : cr_Z0 s0 D ca e0) {a : Nat} {v0 v1 : Value} {x0 : Int32} {x1 : Int32} (ha : s0.heap.size ≤ a) (h : va_at D kc (a, .inr (8, [v0, v1])) H) : cr_c l s0 y_Ro_init cw_Ro_init 1 0 0 [.ref a, .int x0, .int x1] H (fun o H' => o = .inl none ∧ cr_Up D kc H a (.inr (8, [.int x0, .int x1])) H') := by
  refine cr_enter (by decide +kernel) (Nat.le_of_ble_eq_true rfl) (fun hlo p e s m args below meth c C hem hH => ?_)
  refine cr_vc [] 60 (s_Ro_init hl Z C hem) (fun K hK => ?_)
  conv => whnf
  refine ⟨rfl, by decide, by decide, ?_⟩
  conv => whnf
  refine ⟨_, h, ha, ⟨rfl, rfl⟩, ?_⟩
  conv => whnf
  intro H0 u0
  conv => whnf
  refine ⟨_, u0.2.1, ha, ⟨rfl, rfl⟩, ?_⟩
  conv => whnf
  intro H1 u1
  conv => whnf
  exact ⟨Nat.le_refl _, Nat.le_refl _, rfl, (u0.tr u1)⟩
theorem j_Pe_init (hl : l.flags = flags0) (Z : cr_Z0 s0 D ca e0) {a : Nat} {v0 v1 : Value} {x0 : Int32} {x1 : Nat} (ha : s0.heap.size ≤ a) (h : va_at D kc (a, .inr (6, [v0, v1])) H) : cr_c l s0 y_Pe_init cw_Pe_init 1 0 0 [.ref a, .int x0, .ref x1] H (fun o H' => o = .inl none ∧ cr_Up D kc H a (.inr (6, [.int x0, .ref x1])) H') := by
  refine cr_enter (by decide +kernel) (Nat.le_of_ble_eq_true rfl) (fun hlo p e s m args below meth c C hem hH => ?_)
  refine cr_vc [] 60 (s_Pe_init hl Z C hem) (fun K hK => ?_)
  conv => whnf
  refine ⟨rfl, by decide, by decide, ?_⟩
  conv => whnf
  refine ⟨_, h, ha, ⟨rfl, rfl⟩, ?_⟩
  conv => whnf
  intro H0 u0
  conv => whnf
  refine ⟨_, u0.2.1, ha, ⟨rfl, rfl⟩, ?_⟩
  conv => whnf
  intro H1 u1
  conv => whnf
  exact ⟨Nat.le_refl _, Nat.le_refl _, rfl, (u0.tr u1)⟩
theorem j_Cd_init (hl : l.flags = flags0) (Z : cr_Z0 s0 D ca e0) {a : Nat} {v0 v1 v2 : Value} {x0 : Int32} {x1 : Nat} {x2 : Int32} (ha : s0.heap.size ≤ a) (h : va_at D kc (a, .inr (1, [v0, v1, v2])) H) : cr_c l s0 y_Cd_init cw_Cd_init 1 0 0 [.ref a, .int x0, .ref x1, .int x2] H (fun o H' => o = .inl none ∧ cr_Up D kc H a (.inr (1, [.int x0, .ref x1, .int x2])) H') := by
  refine cr_enter (by decide +kernel) (Nat.le_of_ble_eq_true rfl) (fun hlo p e s m args below meth c C hem hH => ?_)
  refine cr_vc [] 60 (s_Cd_init hl Z C hem) (fun K hK => ?_)
  conv => whnf
  refine ⟨rfl, by decide, by decide, ?_⟩
  conv => whnf
  refine ⟨_, h, ha, ⟨rfl, rfl⟩, ?_⟩
  conv => whnf
  intro H0 u0
  conv => whnf
  refine ⟨_, u0.2.1, ha, ⟨rfl, rfl⟩, ?_⟩
  conv => whnf
  intro H1 u1
  conv => whnf
  refine ⟨_, u1.2.1, ha, ⟨rfl, rfl⟩, ?_⟩
  conv => whnf
  intro H2 u2
  conv => whnf
  exact ⟨Nat.le_refl _, Nat.le_refl _, rfl, ((u0.tr u1).tr u2)⟩
theorem j_Ri_init (hl : l.flags = flags0) (Z : cr_Z0 s0 D ca e0) {a : Nat} {v0 v1 v2 v3 v4 : Value} {x0 : Int32} {x1 : Int32} {x2 : Int32} {x3 : Int32} {x4 : Int32} (ha : s0.heap.size ≤ a) (h : va_at D kc (a, .inr (7, [v0, v1, v2, v3, v4])) H) : cr_c l s0 y_Ri_init cw_Ri_init 1 0 0 [.ref a, .int x0, .int x1, .int x2, .int x3, .int x4] H (fun o H' => o = .inl none ∧ cr_Up D kc H a (.inr (7, [.int x0, .int x1, .int x2, .int x3, .int x4])) H') := by
  refine cr_enter (by decide +kernel) (Nat.le_of_ble_eq_true rfl) (fun hlo p e s m args below meth c C hem hH => ?_)
  refine cr_vc [] 60 (s_Ri_init hl Z C hem) (fun K hK => ?_)
  conv => whnf
  refine ⟨rfl, by decide, by decide, ?_⟩
  conv => whnf
  refine ⟨_, h, ha, ⟨rfl, rfl⟩, ?_⟩
  conv => whnf
  intro H0 u0
  conv => whnf
  refine ⟨_, u0.2.1, ha, ⟨rfl, rfl⟩, ?_⟩
  conv => whnf
  intro H1 u1
  conv => whnf
  refine ⟨_, u1.2.1, ha, ⟨rfl, rfl⟩, ?_⟩
  conv => whnf
  intro H2 u2
  conv => whnf
  refine ⟨_, u2.2.1, ha, ⟨rfl, rfl⟩, ?_⟩
  conv => whnf
  intro H3 u3
  conv => whnf
  refine ⟨_, u3.2.1, ha, ⟨rfl, rfl⟩, ?_⟩
  conv => whnf
  intro H4 u4
  conv => whnf
  exact ⟨Nat.le_refl _, Nat.le_refl _, rfl, ((((u0.tr u1).tr u2).tr u3).tr u4)⟩
theorem j_Rw_init (hl : l.flags = flags0) (Z : cr_Z0 s0 D ca e0) {a : Nat} {v0 v1 v2 : Value} {x0 : Nat} {x1 : Nat} {x2 : Int32} (ha : s0.heap.size ≤ a) (h : va_at D kc (a, .inr (9, [v0, v1, v2])) H) : cr_c l s0 y_Rw_init cw_Rw_init 1 0 0 [.ref a, .ref x0, .ref x1, .int x2] H (fun o H' => o = .inl none ∧ cr_Up D kc H a (.inr (9, [.ref x0, .ref x1, .int x2])) H') := by
  refine cr_enter (by decide +kernel) (Nat.le_of_ble_eq_true rfl) (fun hlo p e s m args below meth c C hem hH => ?_)
  refine cr_vc [] 60 (s_Rw_init hl Z C hem) (fun K hK => ?_)
  conv => whnf
  refine ⟨rfl, by decide, by decide, ?_⟩
  conv => whnf
  refine ⟨_, h, ha, ⟨rfl, rfl⟩, ?_⟩
  conv => whnf
  intro H0 u0
  conv => whnf
  refine ⟨_, u0.2.1, ha, ⟨rfl, rfl⟩, ?_⟩
  conv => whnf
  intro H1 u1
  conv => whnf
  refine ⟨_, u1.2.1, ha, ⟨rfl, rfl⟩, ?_⟩
  conv => whnf
  intro H2 u2
  conv => whnf
  exact ⟨Nat.le_refl _, Nat.le_refl _, rfl, ((u0.tr u1).tr u2)⟩
/-- the list's constructor -/
theorem j_AbC_init (hl : l.flags = flags0) (Z : cr_Z0 s0 D ca e0) {a : Nat} : cr_c l s0 y_AbC_init cw_AbC_init 1 0 0 [.ref a] H (cr_pu none H) := by
  refine cr_enter (by decide +kernel) (Nat.le_of_ble_eq_true rfl) (fun hlo p e s m args below meth c C hem hH => ?_)
  refine cr_vc [] 60 (s_AbC_init hl Z C hem) (fun K hK => ?_)
  conv => whnf
  refine ⟨rfl, by decide, by decide, ?_⟩
  conv => whnf
  exact ⟨Nat.le_refl _, Nat.le_refl _, rfl, rfl⟩
theorem j_AbL_init (hl : l.flags = flags0) (Z : cr_Z0 s0 D ca e0) {a : Nat} {v0 v1 v2 : Value} (ha : s0.heap.size ≤ a) (h : va_at D kc (a, .inr (12, [v0, v1, v2])) H) : cr_c l s0 y_AbL_init cw_AbL_init 2 0 0 [.ref a] H (fun o H' => o = .inl none ∧ cr_Up D kc H a (.inr (12, [v0, v1, .int 0])) H') := by
  refine cr_enter (by decide +kernel) (Nat.le_of_ble_eq_true rfl) (fun hlo p e s m args below meth c C hem hH => ?_)
  refine cr_vc [] 60 (s_AbL_init hl Z C hem) (fun K hK => ?_)
  conv => whnf
  refine ⟨rfl, ?_⟩
  conv => whnf
  refine ⟨_, _, _, _, j_AbC_init hl Z, by decide, by decide, by decide, cr_le rfl, fun v9 H9 hq _ => ?_, fun kd H9 hq _ => by cases hq.1⟩
  obtain ⟨hq1, hq2⟩ := hq
  cases hq1
  subst hq2
  conv => whnf
  refine ⟨_, h, ha, ⟨rfl, rfl⟩, ?_⟩
  conv => whnf
  intro H0 u0
  conv => whnf
  exact ⟨Nat.le_refl _, Nat.le_refl _, rfl, u0⟩
theorem j_AL_init (hl : l.flags = flags0) (Z : cr_Z0 s0 D ca e0) (hold : cr_Old s0 H) {a : Nat} {v0 v2 : Value} {f : Nat → Nat} (ha : s0.heap.size ≤ a) (h : va_at D kc (a, .inr (12, [v0, .int 0, v2])) H) : cr_c l s0 y_AL_init cw_AL_init 3 0 0 [.ref a] H (fun o H' => o = .inl none ∧ cr_li s0 D ca e0 H' a e0 0 f ∧ H'.size = H.size ∧ ∀ q : Nat, q ≠ a → H'[q]? = H[q]?) := by
  refine cr_enter (by decide +kernel) (Nat.le_of_ble_eq_true rfl) (fun hlo p e s m args below meth c C hem hH => ?_)
  refine cr_vc [] 60 (s_AL_init hl Z C hem) (fun K hK => ?_)
  conv => whnf
  refine ⟨rfl, 2, 0, 0, _, j_AbL_init hl Z ha h, by decide, by decide, by decide, by decide, fun v9 H1 hq _ => ?_, fun kd H' hq _ => by cases hq.1⟩
  obtain ⟨hq1, u1⟩ := hq
  cases hq1
  conv => whnf
  refine ⟨u1.fr.old hold hlo (fun q e => by rw [e]; exact ha), ?_⟩
  conv => whnf
  refine ⟨_, u1.2.1, ha, ⟨rfl, rfl⟩, ?_⟩
  conv => whnf
  intro H2 u2
  conv => whnf
  exact ⟨Nat.le_refl _, Nat.le_refl _, rfl, ⟨ha, _, u2.2.1, Or.inl ⟨rfl, rfl⟩⟩, (u1.tr u2).1, (u1.tr u2).2.2⟩
/-- what a door or the whole knows: counts, and two arrays -/
theorem j_Kn_init (hl : l.flags = flags0) (Z : cr_Z0 s0 D ca e0) {a : Nat} {v0 v1 v2 v3 : Value} (ha : s0.heap.size ≤ a) (h : va_at D kc (a, .inr (4, [v0, v1, v2, v3])) H) : cr_c l s0 y_Kn_init cw_Kn_init 1 2 76 [.ref a] H (fun o H' => o = .inl none ∧ va_at D kc (a, .inr (4, [.int 0, .int 0, .ref H.size, .ref (H.size + 1)])) H' ∧ (∃ g, (∀ i, i < 60 → g i = -1) ∧ va_at D kc (H.size, .inl (ca 0, 60, .inl g)) H') ∧ (∃ g, (∀ i, i < 16 → g i = -1) ∧ va_at D kc (H.size + 1, .inl (ca 0, 16, .inl g)) H') ∧ H'.size = H.size + 2 ∧ ∀ q : Nat, q < H.size → q ≠ a → H'[q]? = H[q]?) := by
  have hlt := cr_at_lt h
  refine cr_enter (by decide +kernel) (Nat.le_of_ble_eq_true rfl) (fun hlo p e s m args below meth c C hem hH => ?_)
  refine cr_vc [] 60 (s_Kn_init hl Z C hem) (fun K hK => ?_)
  conv => whnf
  refine ⟨rfl, by decide, by decide, ?_⟩
  conv => whnf
  refine ⟨_, h, ha, ⟨rfl, rfl⟩, ?_⟩
  conv => whnf
  intro H1 u1
  conv => whnf
  refine ⟨_, u1.2.1, ha, ⟨rfl, rfl⟩, ?_⟩
  conv => whnf
  intro H2 u2
  conv => whnf
  refine ⟨60, rfl, by decide, by decide, by decide, by decide, fun q3 H3 n3 => ?_⟩
  obtain ⟨rfl, hq3, sz3, at3, fr3⟩ := n3
  conv => whnf
  refine ⟨_, cr_at_eq u2.2.1 (fr3 a (by rw [u2.1, u1.1]; exact hlt)), ha, ⟨rfl, rfl⟩, ?_⟩
  conv => whnf
  intro H4 u4
  conv => whnf
  refine ⟨16, rfl, by decide, by decide, by decide, by decide, fun q5 H5 n5 => ?_⟩
  obtain ⟨rfl, hq5, sz5, at5, fr5⟩ := n5
  have s2 : H2.size = H.size := u2.1.trans u1.1
  have s4 : H4.size = H.size + 1 := by rw [u4.1, sz3, s2]
  conv => whnf
  refine ⟨_, cr_at_eq u4.2.1 (fr5 a (by omega)), ha, ⟨rfl, rfl⟩, ?_⟩
  conv => whnf
  intro H6 u6
  have a3 : va_at D kc (H2.size, .inl (ca 0, 60, .inl (fun _ => 0))) H6 := cr_at_eq (cr_at_eq (cr_at_eq at3 (u4.2.2 _ (by omega))) (fr5 _ (by omega))) (u6.2.2 _ (by omega))
  have a5 : va_at D kc (H4.size, .inl (ca 0, 16, .inl (fun _ => 0))) H6 := cr_at_eq at5 (u6.2.2 _ (by omega))
  conv => whnf
  refine ⟨_, u6.2.1, ?_⟩
  conv => whnf
  refine ⟨rfl, 0, 0, 0, _, j_Ar_fill hl Z a3 (by decide) (by omega), by decide, by decide, by decide, by decide, fun v9 H7 hq _ => ?_, fun kd H' hq _ => by cases hq.1⟩
  obtain ⟨hq1, g7, hg7, u7⟩ := hq
  cases hq1
  conv => whnf
  refine ⟨_, cr_at_eq u6.2.1 (u7.2.2 _ (by omega)), ?_⟩
  conv => whnf
  refine ⟨rfl, 0, 0, 0, _, j_Ar_fill hl Z (cr_at_eq a5 (u7.2.2 _ (by omega))) (by decide) (by omega), by decide, by decide, by decide, by decide, fun v9 H8 hq _ => ?_, fun kd H' hq _ => by cases hq.1⟩
  obtain ⟨hq1, g8, hg8, u8⟩ := hq
  cases hq1
  conv => whnf
  refine ⟨by decide, by decide, rfl, ?_, ⟨g7, hg7, ?_⟩, ⟨g8, hg8, ?_⟩, ?_, ?_⟩
  · have h9 := cr_at_eq (cr_at_eq u6.2.1 (u7.2.2 a (by omega))) (u8.2.2 a (by omega))
    rw [s2, s4] at h9
    exact h9
  · have h9 := cr_at_eq u7.2.1 (u8.2.2 _ (by omega))
    rw [s2] at h9
    exact h9
  · have h9 := u8.2.1
    rw [s4] at h9
    exact h9
  · rw [u8.1, u7.1, u6.1, sz5, s4]
  · intro q h1 h2
    rw [u8.2.2 q (by omega), u7.2.2 q (by omega), u6.2.2 q h2, fr5 q (by omega), u4.2.2 q h2, fr3 q (by omega), u2.2.2 q h2, u1.2.2 q h2]
theorem j_Kn_isFrom (hl : l.flags = flags0) (Z : cr_Z0 s0 D ca e0) {x y : Int32} : cr_c l s0 y_Kn_isFrom cw_Kn_isFrom 0 0 0 [.int x, .int y] H (cr_pu (some (.int (if x = -1 ∨ y < x then 0 else 1))) H) := by
  refine cr_enter (by decide +kernel) (Nat.le_of_ble_eq_true rfl) (fun hlo p e s m args below meth c C hem hH => ?_)
  refine cr_vc [] 60 (s_Kn_isFrom hl Z C hem) (fun K hK => ?_)
  conv => whnf
  refine ⟨fun h => ?_, fun h => ?_⟩
  · rw [if_pos (Or.inl h)]
    conv => whnf
    exact ⟨rfl, Nat.le_refl _, Nat.le_refl _, rfl, rfl⟩
  · conv => whnf
    refine ⟨fun h2 => ?_, fun h2 => ?_⟩
    · rw [if_pos (Or.inr h2)]
      conv => whnf
      exact ⟨rfl, Nat.le_refl _, Nat.le_refl _, rfl, rfl⟩
    · rw [if_neg (fun h3 => h3.elim h h2)]
      conv => whnf
      exact ⟨rfl, Nat.le_refl _, Nat.le_refl _, rfl, rfl⟩
end NST
