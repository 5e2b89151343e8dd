/-! THE CLASS's state in the reference's terms (printed by gen/comp4.py): cells by role and place; what the arrays mean is said apart (cc_M).
roles: 0 rooms, 1 doors, 2 persons, 3 cards, 4 rights, 5 the five lists, 6 their arrays, 7 the doors' lists of rows, 8 their arrays, 9 knowledge (0 of the whole, d + 1 of door d), 10 its lost, 11 its ended, 12 findings, its array, uses, its array, needs, its array, 13 rows (50 d + j), 14 the object -/
def cc_n : Nat → Nat
  | 0 => 2
  | 1 => 4
  | 2 => 16
  | 3 => 19
  | _ => 22
/-- what G does not say: arrays as they are; w 0, w 1: counts of a knowledge; lf, ef its arrays; fa findings; na, nn needs; al the doors' bits -/
abbrev cc_W : Type := (Nat → Nat → Nat) × (Nat → Nat → Int32) × (Nat → Nat → Int32) × (Nat → Int32) × (Nat → Int64) × (Nat → Int32) × Int32 × (Nat → Int32)
def cc_c (ca : Nat → ClassId) (A : Nat → Nat → Nat) (G : mm_G) (w : cc_W) : Nat → Nat → va_E
  | 0, i => .inr (8, [.int (nI i), .int (nI (G 3 i))])
  | 1, i => .inr (2, [.int (nI i), .ref (A 0 (G 5 i)), .ref (A 0 (G 6 i)), .int (nI (G 7 i)), .int (nI (G 8 i)), .int (nI (G 9 i)), .int (w.2.2.2.2.2.2.2 i), .int (cr_b (!decide (G 10 i = 9000))), .ref (A 9 (i + 1)), .ref (A 7 i)])
  | 2, i => .inr (6, [.int (nI (G 17 i)), .ref (A 0 (G 18 i))])
  | 3, i => .inr (1, [.int (nI i), .ref (A 2 (G 20 i)), .int (nI (G 21 i))])
  | 4, i => .inr (7, [.int (nI (G 23 i)), .int (nI (G 24 i)), .int (nI (G 25 i)), .int (nI (G 26 i)), .int (nI (G 27 i))])
  | 9, i => .inr (4, [.int (nI (w.1 0 i)), .int (nI (w.1 1 i)), .ref (A 10 i), .ref (A 11 i)])
  | 10, i => .inl (ca 0, 60, .inl (w.2.1 i))
  | 11, i => .inl (ca 0, 16, .inl (w.2.2.1 i))
  | 12, 0 => .inr (3, [.ref (A 12 1), .int (nI (G 34 0)), .int (nI (min (G 34 0) 100))])
  | 12, 1 => .inl (ca 0, 400, .inl w.2.2.2.1)
  | 12, 2 => .inr (10, [.ref (A 12 3), .int (nI (G 32 0))])
  | 12, 3 => .inl (ca 1, 2250, .inr (.inl w.2.2.2.2.1))
  | 12, 4 => .inr (5, [.ref (A 12 5), .int w.2.2.2.2.2.2.1])
  | 12, _ => .inl (ca 0, 32, .inl w.2.2.2.2.2.1)
  | 13, i => .inr (9, [.ref (A 3 (G 13 i)), .ref (A 0 (G 14 i)), .int (nI (G 15 i))])
  | _, _ => .inr (0, [.ref (A 5 0), .ref (A 5 1), .ref (A 5 2), .ref (A 5 3), .ref (A 5 4), .ref (A 9 0), .ref (A 12 0), .ref (A 12 2), .ref (A 12 4), .int (nI (G 1 0))])
/-- which places of a role are there -/
def cc_l (G : mm_G) : Nat → Nat → Prop
  | 0, i => i < G 2 0
  | 1, i => i < G 4 0
  | 2, i => i < G 16 0
  | 3, i => i < G 19 0
  | 4, i => i < G 22 0
  | 5, i => i < 5
  | 7, i => i < G 4 0
  | 9, i => i ≤ G 4 0
  | 10, i => i ≤ G 4 0
  | 11, i => i ≤ G 4 0
  | 12, i => i < 6
  | 13, i => i / 50 < G 4 0 ∧ i % 50 < G 12 (i / 50)
  | 14, i => i = 0
  | _, _ => False
/-- a role with a cell of its own here (not a list: those are said by cr_li) -/
def cc_o : Nat → Bool
  | 5 => false
  | 6 => false
  | 7 => false
  | 8 => false
  | _ => true
/-- the places in use: the arrays of the lists too, but the library's empty one -/
def cc_L (e0 : Nat) (A : Nat → Nat → Nat) (G : mm_G) (k i : Nat) : Prop := cc_l G k i ∨ (k = 6 ∧ i < 5 ∧ A 6 i ≠ e0) ∨ (k = 8 ∧ i < G 4 0 ∧ A 8 i ≠ e0)
/-- the heap: every cell there, the lists there, all in O (the class's own), no two at one place -/
def cc_H (s0 : State) (D : va_G) (ca : Nat → ClassId) (e0 : Nat) (O : Nat → Prop) (H : Heap) (A : Nat → Nat → Nat) (G : mm_G) (w : cc_W) : Prop :=
  (∀ k i, cc_L e0 A G k i → s0.heap.size ≤ A k i ∧ O (A k i)) ∧ (∀ k i, cc_l G k i → cc_o k = true → va_at D kc (A k i, cc_c ca A G w k i) H)
  ∧ (∀ i, i < 5 → cr_li s0 D ca e0 H (A 5 i) (A 6 i) (G (cc_n i) 0) (A i)) ∧ (∀ i, i < G 4 0 → cr_li s0 D ca e0 H (A 7 i) (A 8 i) (G 12 i) (fun j => A 13 (50 * i + j)))
  ∧ (∀ k i k' i', cc_L e0 A G k i → cc_L e0 A G k' i' → A k i = A k' i' → k = k' ∧ i = i') ∧ cr_Old s0 H
/-- a knowledge is that of the tellings before b -/
def cc_k (G : mm_G) (w : cc_W) (i b : Nat) : Prop := (∀ c, c < G 19 0 → (c < w.1 0 i ↔ 0 ≤ mm_to G 0 c b)) ∧ (∀ r, r < G 22 0 → (r < w.1 1 i ↔ 0 ≤ mm_to G 1 r b)) ∧ w.1 0 i ≤ 60 ∧ w.1 1 i ≤ 16 ∧ (∀ c, c < 60 → w.2.1 i c = mm_to G 3 c b) ∧ ∀ r, r < 16 → w.2.2.1 i r = mm_to G 2 r b
/-- the meaning -/
def cc_M (G : mm_G) (w : cc_W) : Prop := w.1 0 0 = G 19 0 ∧ w.1 1 0 = G 22 0 ∧ cc_k G w 0 9000 ∧ (∀ d, d < G 4 0 → G 10 d ≠ 9000 → cc_k G w (d + 1) (G 10 d))
  ∧ (∀ d k, d < G 4 0 → k < G 4 0 → (w.2.2.2.2.2.2.2 d &&& (1 <<< (nI k &&& 31)) = 0 ↔ G 11 (30 * d + k) = 0))
  ∧ (∀ k q, k < 100 → k < G 34 0 → q < 4 → w.2.2.2.1 (4 * k + q) = nI (G (35 + q) k))
  ∧ (∀ u, u < 144000 → (w.2.2.2.2.1 (u / 64) &&& (1 <<< ((nI (u % 64)).toInt64 &&& 63)) = 0 ↔ mm_ex (mm_eu G u) 0 (G 32 0) = false))
/-- the ranges, after at most t calls -/
def cc_B (G : mm_G) (t : Nat) : Prop := G 1 0 ≤ 1000000 ∧ G 2 0 ≤ 20 ∧ G 4 0 ≤ 30 ∧ G 16 0 ≤ 40 ∧ G 19 0 ≤ 60 ∧ G 22 0 ≤ 16 ∧ G 28 0 ≤ t ∧ G 32 0 ≤ 2 * t ∧ G 34 0 ≤ 50 * t ∧ t ≤ 3072
  ∧ (∀ i, i < G 2 0 → G 3 i < 10) ∧ (∀ i, i < G 4 0 → G 5 i < G 2 0 ∧ G 6 i < G 2 0 ∧ G 5 i ≠ G 6 i ∧ G 7 i < 2 ∧ G 8 i < 2 ∧ G 9 i ≤ G 1 0 ∧ (G 10 i = 9000 ∨ G 10 i ≤ G 28 0) ∧ G 12 i ≤ 50 ∧ (G 10 i = 9000 → G 12 i = 0)) ∧ (∀ q, G 11 q < 2) ∧ (∀ q, G 12 q = 0 ∨ q < G 4 0)
  ∧ (∀ d j, d < G 4 0 → j < G 12 d → G 13 (50 * d + j) < G 19 0 ∧ G 14 (50 * d + j) < G 2 0 ∧ G 15 (50 * d + j) ≤ 1000000)
  ∧ (∀ i, i < G 16 0 → G 17 i < 10 ∧ G 18 i < G 2 0) ∧ (∀ i, i < G 19 0 → G 20 i < G 16 0 ∧ G 21 i ≤ 1000000) ∧ (∀ i, i < G 22 0 → G 23 i < 10 ∧ G 24 i < 10 ∧ G 25 i < 1440 ∧ G 26 i < 1440 ∧ G 27 i ≤ 1000000)
  ∧ (∀ q, q < G 28 0 → G 29 q < 4 ∧ G 30 q < 60 ∧ G 31 q ≤ 1000000) ∧ (∀ q, G 29 q < 4 ∧ G 30 q < 60) ∧ (∀ q, q < G 32 0 → G 33 q < 144000)
section CRP
variable {l : Launch} {s0 : State} {D : va_G} {ca : Nat → ClassId} {e0 : Nat} {O : Nat → Prop} {H : Heap} {A : Nat → Nat → Nat} {G : mm_G} {w : cc_W}
theorem cc_H.c (h : cc_H s0 D ca e0 O H A G w) (k i : Nat) (hl : cc_l G k i) (ho : cc_o k = true := by rfl) : va_at D kc (A k i, cc_c ca A G w k i) H := h.2.1 k i hl ho
theorem cc_H.li (h : cc_H s0 D ca e0 O H A G w) (i : Nat) (hi : i < 5) : cr_li s0 D ca e0 H (A 5 i) (A 6 i) (G (cc_n i) 0) (A i) := h.2.2.1 i hi
theorem cc_H.old (h : cc_H s0 D ca e0 O H A G w) : cr_Old s0 H := h.2.2.2.2.2
theorem cc_H.lo (h : cc_H s0 D ca e0 O H A G w) (k i : Nat) (hl : cc_l G k i) : s0.heap.size ≤ A k i ∧ O (A k i) := h.1 k i (Or.inl hl)
set_option maxRecDepth 20000 in
theorem j_C_now (hl : l.flags = flags0) (Z : cr_Z0 s0 D ca e0) (h : cc_H s0 D ca e0 O H A G w) : cr_c l s0 y_C_now cw_C_now 0 0 0 [.ref (A 14 0)] H (cr_pu (some (.int (nI (G 1 0)))) H) := by
  refine cr_enter (by decide +kernel) (Nat.le_of_ble_eq_true rfl) (fun hlo P9 E9 S9 M9 A9 B9 T9 C9 C hem hH => ?_)
  refine cr_vc [] 120 (s_C_now hl Z C hem) (fun K hK => ?_)
  conv => whnf
  refine ⟨_, (h.c 14 0 rfl), ?_⟩
  conv => whnf
  exact ⟨cr_le rfl, cr_le rfl, rfl, rfl⟩
set_option maxRecDepth 20000 in
theorem j_C_against (hl : l.flags = flags0) (Z : cr_Z0 s0 D ca e0) (h : cc_H s0 D ca e0 O H A G w) : cr_c l s0 y_C_against cw_C_against 0 0 0 [.ref (A 14 0)] H (cr_pu (some (.int (nI (G 34 0)))) H) := by
  refine cr_enter (by decide +kernel) (Nat.le_of_ble_eq_true rfl) (fun hlo P9 E9 S9 M9 A9 B9 T9 C9 C hem hH => ?_)
  refine cr_vc [] 120 (s_C_against hl Z C hem) (fun K hK => ?_)
  conv => whnf
  refine ⟨_, (h.c 14 0 rfl), ?_⟩
  conv => whnf
  refine ⟨_, (h.c 12 0 (show 0 < 6 by decide)), ?_⟩
  conv => whnf
  exact ⟨cr_le rfl, cr_le rfl, rfl, rfl⟩
set_option maxRecDepth 20000 in
theorem j_C_uses (hl : l.flags = flags0) (Z : cr_Z0 s0 D ca e0) (h : cc_H s0 D ca e0 O H A G w) : cr_c l s0 y_C_uses cw_C_uses 0 0 0 [.ref (A 14 0)] H (cr_pu (some (.int (nI (G 32 0)))) H) := by
  refine cr_enter (by decide +kernel) (Nat.le_of_ble_eq_true rfl) (fun hlo P9 E9 S9 M9 A9 B9 T9 C9 C hem hH => ?_)
  refine cr_vc [] 120 (s_C_uses hl Z C hem) (fun K hK => ?_)
  conv => whnf
  refine ⟨_, (h.c 14 0 rfl), ?_⟩
  conv => whnf
  refine ⟨_, (h.c 12 2 (show 2 < 6 by decide)), ?_⟩
  conv => whnf
  exact ⟨cr_le rfl, cr_le rfl, rfl, rfl⟩
set_option maxRecDepth 20000 in
theorem j_C_where_ok (hl : l.flags = flags0) (Z : cr_Z0 s0 D ca e0) (h : cc_H s0 D ca e0 O H A G w) {i : Nat} (hi : i < G 16 0) (h16 : G 16 0 ≤ 40) (hr : G 18 i < G 2 0) : cr_c l s0 y_C_where cw_C_where 4 0 0 [.ref (A 14 0), .int (nI i)] H (cr_pu (some (.int (nI (G 18 i)))) H) := by
  refine cr_enter (by decide +kernel) (Nat.le_of_ble_eq_true rfl) (fun hlo P9 E9 S9 M9 A9 B9 T9 C9 C hem hH => ?_)
  refine cr_vc [] 120 (s_C_where hl Z C hem) (fun K hK => ?_)
  conv => whnf
  refine ⟨rfl, ?_⟩
  conv => whnf
  refine ⟨_, (h.c 14 0 rfl), _, _, _, _, j_C_personNumbered hl Z (h.c 14 0 rfl) (h.li 2 (by decide)) (show G 16 0 < 2 ^ 31 by omega) hi (h.c 2 i hi), by decide, cr_le rfl, cr_le rfl, cr_le rfl, fun v2 H2 q2 _ => ?_, fun kd H9 q9 _ => by cases q9.1⟩
  obtain ⟨q2a, q2b⟩ := q2
  cases q2a
  replace q2b := q2b.symm
  subst q2b
  conv => whnf
  refine ⟨_, (h.c 2 i hi), ?_⟩
  conv => whnf
  refine ⟨_, (h.c 0 (G 18 i) hr), ?_⟩
  conv => whnf
  exact ⟨cr_le rfl, cr_le rfl, rfl, rfl⟩
set_option maxRecDepth 20000 in
theorem j_C_where_a (hl : l.flags = flags0) (Z : cr_Z0 s0 D ca e0) (h : cc_H s0 D ca e0 O H A G w) {z : Int32} (h16 : G 16 0 ≤ 40) (hz : mm_in z (nI (G 16 0)) = false) : cr_c l s0 y_C_where cw_C_where 7 1 6 [.ref (A 14 0), .int z] H (ck_T 1 H) := by
  refine cr_enter (by decide +kernel) (Nat.le_of_ble_eq_true rfl) (fun hlo P9 E9 S9 M9 A9 B9 T9 C9 C hem hH => ?_)
  refine cr_vc [] 120 (s_C_where hl Z C hem) (fun K hK => ?_)
  conv => whnf
  refine ⟨rfl, ?_⟩
  conv => whnf
  refine ⟨_, (h.c 14 0 rfl), _, _, _, _, j_C_personNumbered_a hl Z h.old (h.c 14 0 rfl) (h.li 2 (by decide)) (show G 16 0 < 2 ^ 31 by omega) hz, by decide, cr_le rfl, cr_le rfl, cr_le rfl, fun v9 H9 q9 _ => (by cases q9.1), fun kd H9 q9 _ => ?_⟩
  obtain ⟨qa, qf⟩ := q9
  cases qa
  exact ⟨rfl, qf⟩
end CRP
