/-! THE REFERENCE is made (printed by gen/ops8.py) -/
/-- the place in the order of making, of a field -/
def mm_id : Nat → Nat
  | 3 => 0
  | 5 => 1
  | 6 => 2
  | 7 => 3
  | 8 => 4
  | 9 => 5
  | 10 => 6
  | 11 => 7
  | 12 => 8
  | 13 => 9
  | 14 => 10
  | 15 => 11
  | 17 => 12
  | 18 => 13
  | 20 => 14
  | 21 => 15
  | 23 => 16
  | 24 => 17
  | 25 => 18
  | 26 => 19
  | 27 => 20
  | 29 => 21
  | 30 => 22
  | 31 => 23
  | 33 => 24
  | 35 => 25
  | 36 => 26
  | 37 => 27
  | 38 => 28
  | 39 => 29
  | 40 => 30
  | _ => 99
def mm_kk : Nat → Nat
  | 0 => 3
  | 1 => 5
  | 2 => 6
  | 3 => 7
  | 4 => 8
  | 5 => 9
  | 6 => 10
  | 7 => 11
  | 8 => 12
  | 9 => 13
  | 10 => 14
  | 11 => 15
  | 12 => 17
  | 13 => 18
  | 14 => 20
  | 15 => 21
  | 16 => 23
  | 17 => 24
  | 18 => 25
  | 19 => 26
  | 20 => 27
  | 21 => 29
  | 22 => 30
  | 23 => 31
  | 24 => 33
  | 25 => 35
  | 26 => 36
  | 27 => 37
  | 28 => 38
  | 29 => 39
  | 30 => 40
  | _ => 0
def mm_v (h0 n i : Nat) : Value := cond (Nat.blt i n) (.ref (h0 + i)) .null
def mm_fi (h0 n : Nat) : List Value := [.int 0, .int 0, .int 0, mm_v h0 n 0, .int 0, mm_v h0 n 1, mm_v h0 n 2, mm_v h0 n 3, mm_v h0 n 4, mm_v h0 n 5, mm_v h0 n 6, mm_v h0 n 7, mm_v h0 n 8, mm_v h0 n 9, mm_v h0 n 10, mm_v h0 n 11, .int 0, mm_v h0 n 12, mm_v h0 n 13, .int 0, mm_v h0 n 14, mm_v h0 n 15, .int 0, mm_v h0 n 16, mm_v h0 n 17, mm_v h0 n 18, mm_v h0 n 19, mm_v h0 n 20, .int 0, mm_v h0 n 21, mm_v h0 n 22, mm_v h0 n 23, .int 0, mm_v h0 n 24, .int 0, mm_v h0 n 25, mm_v h0 n 26, mm_v h0 n 27, mm_v h0 n 28, mm_v h0 n 29, mm_v h0 n 30]
def mm_I (D : va_G) (ca : Nat → ClassId) (y h0 n : Nat) (H0 H : Heap) : Prop := y < h0 ∧ va_at D kc (y, .inr (11, mm_fi h0 n)) H ∧ H.size = h0 + n ∧ (∀ i, i < n → va_at D kc (h0 + i, .inl (ca (mm_c (mm_kk i)), mm_N (mm_kk i), .inl (fun _ => 0))) H) ∧ ∀ q : Nat, q < h0 → q ≠ y → H[q]? = H0[q]?
theorem mm_I.st {D : va_G} {ca : Nat → ClassId} {lo y h0 n q : Nat} {H0 H H1 H2 : Heap} (h : mm_I D ca y h0 n H0 H) (hn : cr_Nw D kc lo H q (.inl (ca (mm_c (mm_kk n)), mm_N (mm_kk n), .inl (fun _ => 0))) H1) (hu : cr_Up D kc H1 y (.inr (11, mm_fi h0 (n + 1))) H2) : mm_I D ca y h0 (n + 1) H0 H2 := by
  obtain ⟨h1, h2, h3, h4, h5⟩ := h
  obtain ⟨rfl, -, n3, n4, n5⟩ := hn
  obtain ⟨u1, u2, u3⟩ := hu
  refine ⟨h1, u2, by rw [u1, n3, h3]; omega, fun i hi => ?_, fun q hq hy => ?_⟩
  · by_cases e : i = n
    · subst e
      rw [h3] at n4
      exact cr_at_eq n4 (u3 _ (by omega))
    · exact cr_at_eq (cr_at_eq (h4 i (by omega)) (n5 _ (by omega))) (u3 _ (by omega))
  · rw [u3 q hy, n5 q (by omega)]
    exact h5 q hq hy
theorem mm_kk_id : ∀ k, k < 41 → mm_ar k = true → mm_kk (mm_id k) = k ∧ mm_id k < 31 := by decide
theorem mm_ar_lt {k : Nat} (h : mm_ar k = true) : k < 41 := by
  by_cases e : k < 41
  · exact e
  · exfalso
    have : mm_ar k = false := by
      unfold mm_ar
      split <;> first | rfl | omega
    rw [this] at h
    cases h
section MOP8
variable {l : Launch} {s0 : State} {D : va_G} {ca : Nat → ClassId} {e0 : Nat} {H : Heap} {y : Nat}
set_option maxRecDepth 20000 in
set_option maxHeartbeats 4000000 in
theorem j_M_init (hl : l.flags = flags0) (Z : cr_Z0 s0 D ca e0) (hy : s0.heap.size ≤ y) (h : va_at D kc (y, .inr (11, [.int 0, .int 0, .int 0, .null, .int 0, .null, .null, .null, .null, .null, .null, .null, .null, .null, .null, .null, .int 0, .null, .null, .int 0, .null, .null, .int 0, .null, .null, .null, .null, .null, .int 0, .null, .null, .null, .int 0, .null, .int 0, .null, .null, .null, .null, .null, .null])) H) : cr_c l s0 y_M_init cw_M_init 1 31 116846 [.ref y] H (fun o H' => o = .inl none ∧ mm_R s0 D ca H' y (fun k => H.size + mm_id k) (fun _ _ => 0) ∧ H'.size = H.size + 31 ∧ ∀ q : Nat, q < H.size → q ≠ y → H'[q]? = H[q]?) := by
  refine cr_enter (by decide +kernel) (Nat.le_of_ble_eq_true rfl) (fun hlo P9 E9 S9 M9 A9 B9 T9 C9 C hem hH => ?_)
  have i0 : mm_I D ca y H.size 0 H H := ⟨cr_at_lt h, h, rfl, fun i hi => absurd hi (Nat.not_lt_zero i), fun _ _ _ => rfl⟩
  refine cr_vc [] 150 (s_M_init hl Z C hem) (fun K hK => ?_)
  conv => whnf
  refine ⟨rfl, by decide, cr_le rfl, ?_⟩
  conv => whnf
  refine ⟨20, rfl, cr_le rfl, cr_le rfl, cr_le rfl, cr_le rfl, fun q0 A0 n0 => ?_⟩
  have z0 := i0.1
  conv => whnf
  refine ⟨_, cr_at_eq i0.2.1 (n0.2.2.2.2 _ (by rw [i0.2.2.1]; omega)), hy, ⟨rfl, rfl⟩, ?_⟩
  conv => whnf
  intro H0 u0
  have i1 : mm_I D ca y H.size 1 H H0 := i0.st n0 (by rw [n0.1, i0.2.2.1] at u0; exact u0)
  conv => whnf
  refine ⟨30, rfl, cr_le rfl, cr_le rfl, cr_le rfl, cr_le rfl, fun q1 A1 n1 => ?_⟩
  have z1 := i1.1
  conv => whnf
  refine ⟨_, cr_at_eq i1.2.1 (n1.2.2.2.2 _ (by rw [i1.2.2.1]; omega)), hy, ⟨rfl, rfl⟩, ?_⟩
  conv => whnf
  intro H1 u1
  have i2 : mm_I D ca y H.size 2 H H1 := i1.st n1 (by rw [n1.1, i1.2.2.1] at u1; exact u1)
  conv => whnf
  refine ⟨30, rfl, cr_le rfl, cr_le rfl, cr_le rfl, cr_le rfl, fun q2 A2 n2 => ?_⟩
  have z2 := i2.1
  conv => whnf
  refine ⟨_, cr_at_eq i2.2.1 (n2.2.2.2.2 _ (by rw [i2.2.2.1]; omega)), hy, ⟨rfl, rfl⟩, ?_⟩
  conv => whnf
  intro H2 u2
  have i3 : mm_I D ca y H.size 3 H H2 := i2.st n2 (by rw [n2.1, i2.2.2.1] at u2; exact u2)
  conv => whnf
  refine ⟨30, rfl, cr_le rfl, cr_le rfl, cr_le rfl, cr_le rfl, fun q3 A3 n3 => ?_⟩
  have z3 := i3.1
  conv => whnf
  refine ⟨_, cr_at_eq i3.2.1 (n3.2.2.2.2 _ (by rw [i3.2.2.1]; omega)), hy, ⟨rfl, rfl⟩, ?_⟩
  conv => whnf
  intro H3 u3
  have i4 : mm_I D ca y H.size 4 H H3 := i3.st n3 (by rw [n3.1, i3.2.2.1] at u3; exact u3)
  conv => whnf
  refine ⟨30, rfl, cr_le rfl, cr_le rfl, cr_le rfl, cr_le rfl, fun q4 A4 n4 => ?_⟩
  have z4 := i4.1
  conv => whnf
  refine ⟨_, cr_at_eq i4.2.1 (n4.2.2.2.2 _ (by rw [i4.2.2.1]; omega)), hy, ⟨rfl, rfl⟩, ?_⟩
  conv => whnf
  intro H4 u4
  have i5 : mm_I D ca y H.size 5 H H4 := i4.st n4 (by rw [n4.1, i4.2.2.1] at u4; exact u4)
  conv => whnf
  refine ⟨30, rfl, cr_le rfl, cr_le rfl, cr_le rfl, cr_le rfl, fun q5 A5 n5 => ?_⟩
  have z5 := i5.1
  conv => whnf
  refine ⟨_, cr_at_eq i5.2.1 (n5.2.2.2.2 _ (by rw [i5.2.2.1]; omega)), hy, ⟨rfl, rfl⟩, ?_⟩
  conv => whnf
  intro H5 u5
  have i6 : mm_I D ca y H.size 6 H H5 := i5.st n5 (by rw [n5.1, i5.2.2.1] at u5; exact u5)
  conv => whnf
  refine ⟨30, rfl, cr_le rfl, cr_le rfl, cr_le rfl, cr_le rfl, fun q6 A6 n6 => ?_⟩
  have z6 := i6.1
  conv => whnf
  refine ⟨_, cr_at_eq i6.2.1 (n6.2.2.2.2 _ (by rw [i6.2.2.1]; omega)), hy, ⟨rfl, rfl⟩, ?_⟩
  conv => whnf
  intro H6 u6
  have i7 : mm_I D ca y H.size 7 H H6 := i6.st n6 (by rw [n6.1, i6.2.2.1] at u6; exact u6)
  conv => whnf
  refine ⟨900, rfl, cr_le rfl, cr_le rfl, cr_le rfl, cr_le rfl, fun q7 A7 n7 => ?_⟩
  have z7 := i7.1
  conv => whnf
  refine ⟨_, cr_at_eq i7.2.1 (n7.2.2.2.2 _ (by rw [i7.2.2.1]; omega)), hy, ⟨rfl, rfl⟩, ?_⟩
  conv => whnf
  intro H7 u7
  have i8 : mm_I D ca y H.size 8 H H7 := i7.st n7 (by rw [n7.1, i7.2.2.1] at u7; exact u7)
  conv => whnf
  refine ⟨30, rfl, cr_le rfl, cr_le rfl, cr_le rfl, cr_le rfl, fun q8 A8 n8 => ?_⟩
  have z8 := i8.1
  conv => whnf
  refine ⟨_, cr_at_eq i8.2.1 (n8.2.2.2.2 _ (by rw [i8.2.2.1]; omega)), hy, ⟨rfl, rfl⟩, ?_⟩
  conv => whnf
  intro H8 u8
  have i9 : mm_I D ca y H.size 9 H H8 := i8.st n8 (by rw [n8.1, i8.2.2.1] at u8; exact u8)
  conv => whnf
  refine ⟨1500, rfl, cr_le rfl, cr_le rfl, cr_le rfl, cr_le rfl, fun q9 A9 n9 => ?_⟩
  have z9 := i9.1
  conv => whnf
  refine ⟨_, cr_at_eq i9.2.1 (n9.2.2.2.2 _ (by rw [i9.2.2.1]; omega)), hy, ⟨rfl, rfl⟩, ?_⟩
  conv => whnf
  intro H9 u9
  have i10 : mm_I D ca y H.size 10 H H9 := i9.st n9 (by rw [n9.1, i9.2.2.1] at u9; exact u9)
  conv => whnf
  refine ⟨1500, rfl, cr_le rfl, cr_le rfl, cr_le rfl, cr_le rfl, fun q10 A10 n10 => ?_⟩
  have z10 := i10.1
  conv => whnf
  refine ⟨_, cr_at_eq i10.2.1 (n10.2.2.2.2 _ (by rw [i10.2.2.1]; omega)), hy, ⟨rfl, rfl⟩, ?_⟩
  conv => whnf
  intro H10 u10
  have i11 : mm_I D ca y H.size 11 H H10 := i10.st n10 (by rw [n10.1, i10.2.2.1] at u10; exact u10)
  conv => whnf
  refine ⟨1500, rfl, cr_le rfl, cr_le rfl, cr_le rfl, cr_le rfl, fun q11 A11 n11 => ?_⟩
  have z11 := i11.1
  conv => whnf
  refine ⟨_, cr_at_eq i11.2.1 (n11.2.2.2.2 _ (by rw [i11.2.2.1]; omega)), hy, ⟨rfl, rfl⟩, ?_⟩
  conv => whnf
  intro H11 u11
  have i12 : mm_I D ca y H.size 12 H H11 := i11.st n11 (by rw [n11.1, i11.2.2.1] at u11; exact u11)
  conv => whnf
  refine ⟨40, rfl, cr_le rfl, cr_le rfl, cr_le rfl, cr_le rfl, fun q12 A12 n12 => ?_⟩
  have z12 := i12.1
  conv => whnf
  refine ⟨_, cr_at_eq i12.2.1 (n12.2.2.2.2 _ (by rw [i12.2.2.1]; omega)), hy, ⟨rfl, rfl⟩, ?_⟩
  conv => whnf
  intro H12 u12
  have i13 : mm_I D ca y H.size 13 H H12 := i12.st n12 (by rw [n12.1, i12.2.2.1] at u12; exact u12)
  conv => whnf
  refine ⟨40, rfl, cr_le rfl, cr_le rfl, cr_le rfl, cr_le rfl, fun q13 A13 n13 => ?_⟩
  have z13 := i13.1
  conv => whnf
  refine ⟨_, cr_at_eq i13.2.1 (n13.2.2.2.2 _ (by rw [i13.2.2.1]; omega)), hy, ⟨rfl, rfl⟩, ?_⟩
  conv => whnf
  intro H13 u13
  have i14 : mm_I D ca y H.size 14 H H13 := i13.st n13 (by rw [n13.1, i13.2.2.1] at u13; exact u13)
  conv => whnf
  refine ⟨60, rfl, cr_le rfl, cr_le rfl, cr_le rfl, cr_le rfl, fun q14 A14 n14 => ?_⟩
  have z14 := i14.1
  conv => whnf
  refine ⟨_, cr_at_eq i14.2.1 (n14.2.2.2.2 _ (by rw [i14.2.2.1]; omega)), hy, ⟨rfl, rfl⟩, ?_⟩
  conv => whnf
  intro H14 u14
  have i15 : mm_I D ca y H.size 15 H H14 := i14.st n14 (by rw [n14.1, i14.2.2.1] at u14; exact u14)
  conv => whnf
  refine ⟨60, rfl, cr_le rfl, cr_le rfl, cr_le rfl, cr_le rfl, fun q15 A15 n15 => ?_⟩
  have z15 := i15.1
  conv => whnf
  refine ⟨_, cr_at_eq i15.2.1 (n15.2.2.2.2 _ (by rw [i15.2.2.1]; omega)), hy, ⟨rfl, rfl⟩, ?_⟩
  conv => whnf
  intro H15 u15
  have i16 : mm_I D ca y H.size 16 H H15 := i15.st n15 (by rw [n15.1, i15.2.2.1] at u15; exact u15)
  conv => whnf
  refine ⟨16, rfl, cr_le rfl, cr_le rfl, cr_le rfl, cr_le rfl, fun q16 A16 n16 => ?_⟩
  have z16 := i16.1
  conv => whnf
  refine ⟨_, cr_at_eq i16.2.1 (n16.2.2.2.2 _ (by rw [i16.2.2.1]; omega)), hy, ⟨rfl, rfl⟩, ?_⟩
  conv => whnf
  intro H16 u16
  have i17 : mm_I D ca y H.size 17 H H16 := i16.st n16 (by rw [n16.1, i16.2.2.1] at u16; exact u16)
  conv => whnf
  refine ⟨16, rfl, cr_le rfl, cr_le rfl, cr_le rfl, cr_le rfl, fun q17 A17 n17 => ?_⟩
  have z17 := i17.1
  conv => whnf
  refine ⟨_, cr_at_eq i17.2.1 (n17.2.2.2.2 _ (by rw [i17.2.2.1]; omega)), hy, ⟨rfl, rfl⟩, ?_⟩
  conv => whnf
  intro H17 u17
  have i18 : mm_I D ca y H.size 18 H H17 := i17.st n17 (by rw [n17.1, i17.2.2.1] at u17; exact u17)
  conv => whnf
  refine ⟨16, rfl, cr_le rfl, cr_le rfl, cr_le rfl, cr_le rfl, fun q18 A18 n18 => ?_⟩
  have z18 := i18.1
  conv => whnf
  refine ⟨_, cr_at_eq i18.2.1 (n18.2.2.2.2 _ (by rw [i18.2.2.1]; omega)), hy, ⟨rfl, rfl⟩, ?_⟩
  conv => whnf
  intro H18 u18
  have i19 : mm_I D ca y H.size 19 H H18 := i18.st n18 (by rw [n18.1, i18.2.2.1] at u18; exact u18)
  conv => whnf
  refine ⟨16, rfl, cr_le rfl, cr_le rfl, cr_le rfl, cr_le rfl, fun q19 A19 n19 => ?_⟩
  have z19 := i19.1
  conv => whnf
  refine ⟨_, cr_at_eq i19.2.1 (n19.2.2.2.2 _ (by rw [i19.2.2.1]; omega)), hy, ⟨rfl, rfl⟩, ?_⟩
  conv => whnf
  intro H19 u19
  have i20 : mm_I D ca y H.size 20 H H19 := i19.st n19 (by rw [n19.1, i19.2.2.1] at u19; exact u19)
  conv => whnf
  refine ⟨16, rfl, cr_le rfl, cr_le rfl, cr_le rfl, cr_le rfl, fun q20 A20 n20 => ?_⟩
  have z20 := i20.1
  conv => whnf
  refine ⟨_, cr_at_eq i20.2.1 (n20.2.2.2.2 _ (by rw [i20.2.2.1]; omega)), hy, ⟨rfl, rfl⟩, ?_⟩
  conv => whnf
  intro H20 u20
  have i21 : mm_I D ca y H.size 21 H H20 := i20.st n20 (by rw [n20.1, i20.2.2.1] at u20; exact u20)
  conv => whnf
  refine ⟨9000, rfl, cr_le rfl, cr_le rfl, cr_le rfl, cr_le rfl, fun q21 A21 n21 => ?_⟩
  have z21 := i21.1
  conv => whnf
  refine ⟨_, cr_at_eq i21.2.1 (n21.2.2.2.2 _ (by rw [i21.2.2.1]; omega)), hy, ⟨rfl, rfl⟩, ?_⟩
  conv => whnf
  intro H21 u21
  have i22 : mm_I D ca y H.size 22 H H21 := i21.st n21 (by rw [n21.1, i21.2.2.1] at u21; exact u21)
  conv => whnf
  refine ⟨9000, rfl, cr_le rfl, cr_le rfl, cr_le rfl, cr_le rfl, fun q22 A22 n22 => ?_⟩
  have z22 := i22.1
  conv => whnf
  refine ⟨_, cr_at_eq i22.2.1 (n22.2.2.2.2 _ (by rw [i22.2.2.1]; omega)), hy, ⟨rfl, rfl⟩, ?_⟩
  conv => whnf
  intro H22 u22
  have i23 : mm_I D ca y H.size 23 H H22 := i22.st n22 (by rw [n22.1, i22.2.2.1] at u22; exact u22)
  conv => whnf
  refine ⟨9000, rfl, cr_le rfl, cr_le rfl, cr_le rfl, cr_le rfl, fun q23 A23 n23 => ?_⟩
  have z23 := i23.1
  conv => whnf
  refine ⟨_, cr_at_eq i23.2.1 (n23.2.2.2.2 _ (by rw [i23.2.2.1]; omega)), hy, ⟨rfl, rfl⟩, ?_⟩
  conv => whnf
  intro H23 u23
  have i24 : mm_I D ca y H.size 24 H H23 := i23.st n23 (by rw [n23.1, i23.2.2.1] at u23; exact u23)
  conv => whnf
  refine ⟨9000, rfl, cr_le rfl, cr_le rfl, cr_le rfl, cr_le rfl, fun q24 A24 n24 => ?_⟩
  have z24 := i24.1
  conv => whnf
  refine ⟨_, cr_at_eq i24.2.1 (n24.2.2.2.2 _ (by rw [i24.2.2.1]; omega)), hy, ⟨rfl, rfl⟩, ?_⟩
  conv => whnf
  intro H24 u24
  have i25 : mm_I D ca y H.size 25 H H24 := i24.st n24 (by rw [n24.1, i24.2.2.1] at u24; exact u24)
  conv => whnf
  refine ⟨100, rfl, cr_le rfl, cr_le rfl, cr_le rfl, cr_le rfl, fun q25 A25 n25 => ?_⟩
  have z25 := i25.1
  conv => whnf
  refine ⟨_, cr_at_eq i25.2.1 (n25.2.2.2.2 _ (by rw [i25.2.2.1]; omega)), hy, ⟨rfl, rfl⟩, ?_⟩
  conv => whnf
  intro H25 u25
  have i26 : mm_I D ca y H.size 26 H H25 := i25.st n25 (by rw [n25.1, i25.2.2.1] at u25; exact u25)
  conv => whnf
  refine ⟨100, rfl, cr_le rfl, cr_le rfl, cr_le rfl, cr_le rfl, fun q26 A26 n26 => ?_⟩
  have z26 := i26.1
  conv => whnf
  refine ⟨_, cr_at_eq i26.2.1 (n26.2.2.2.2 _ (by rw [i26.2.2.1]; omega)), hy, ⟨rfl, rfl⟩, ?_⟩
  conv => whnf
  intro H26 u26
  have i27 : mm_I D ca y H.size 27 H H26 := i26.st n26 (by rw [n26.1, i26.2.2.1] at u26; exact u26)
  conv => whnf
  refine ⟨100, rfl, cr_le rfl, cr_le rfl, cr_le rfl, cr_le rfl, fun q27 A27 n27 => ?_⟩
  have z27 := i27.1
  conv => whnf
  refine ⟨_, cr_at_eq i27.2.1 (n27.2.2.2.2 _ (by rw [i27.2.2.1]; omega)), hy, ⟨rfl, rfl⟩, ?_⟩
  conv => whnf
  intro H27 u27
  have i28 : mm_I D ca y H.size 28 H H27 := i27.st n27 (by rw [n27.1, i27.2.2.1] at u27; exact u27)
  conv => whnf
  refine ⟨100, rfl, cr_le rfl, cr_le rfl, cr_le rfl, cr_le rfl, fun q28 A28 n28 => ?_⟩
  have z28 := i28.1
  conv => whnf
  refine ⟨_, cr_at_eq i28.2.1 (n28.2.2.2.2 _ (by rw [i28.2.2.1]; omega)), hy, ⟨rfl, rfl⟩, ?_⟩
  conv => whnf
  intro H28 u28
  have i29 : mm_I D ca y H.size 29 H H28 := i28.st n28 (by rw [n28.1, i28.2.2.1] at u28; exact u28)
  conv => whnf
  refine ⟨65536, rfl, cr_le rfl, cr_le rfl, cr_le rfl, cr_le rfl, fun q29 A29 n29 => ?_⟩
  have z29 := i29.1
  conv => whnf
  refine ⟨_, cr_at_eq i29.2.1 (n29.2.2.2.2 _ (by rw [i29.2.2.1]; omega)), hy, ⟨rfl, rfl⟩, ?_⟩
  conv => whnf
  intro H29 u29
  have i30 : mm_I D ca y H.size 30 H H29 := i29.st n29 (by rw [n29.1, i29.2.2.1] at u29; exact u29)
  conv => whnf
  refine ⟨9000, rfl, cr_le rfl, cr_le rfl, cr_le rfl, cr_le rfl, fun q30 A30 n30 => ?_⟩
  have z30 := i30.1
  conv => whnf
  refine ⟨_, cr_at_eq i30.2.1 (n30.2.2.2.2 _ (by rw [i30.2.2.1]; omega)), hy, ⟨rfl, rfl⟩, ?_⟩
  conv => whnf
  intro H30 u30
  have i31 : mm_I D ca y H.size 31 H H30 := i30.st n30 (by rw [n30.1, i30.2.2.1] at u30; exact u30)
  conv => whnf
  obtain ⟨w1, w2, w3, w4, w5⟩ := i31
  refine ⟨cr_le rfl, cr_le rfl, rfl, ⟨hy, w2, fun k hk => ⟨by show s0.heap.size ≤ H.size + mm_id k; omega, ?_⟩, fun k k' hk hk' e => ?_, fun k hk => by show H.size + mm_id k ≠ y; omega⟩, w3, w5⟩
  · have e := mm_kk_id k (mm_ar_lt hk) hk
    have w := w4 (mm_id k) e.2
    rw [e.1] at w
    exact w
  · have e1 := mm_kk_id k (mm_ar_lt hk) hk
    have e2 := mm_kk_id k' (mm_ar_lt hk') hk'
    have e3 : mm_id k = mm_id k' := by
      have : H.size + mm_id k = H.size + mm_id k' := e
      omega
    rw [← e1.1, e3, e2.1]
end MOP8
