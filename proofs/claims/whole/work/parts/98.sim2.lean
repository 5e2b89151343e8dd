/-! One call on both sides: the others -/
section SIN
variable {l : Launch} {s0 : State} {D : va_G} {ca : Nat → ClassId} {e0 : Nat} {O : Nat → Prop} {H : Heap} {A : Nat → Nat → Nat} {G G' : mm_G} {w w' : cc_W} {y : Nat} {ad : Nat → Nat} {t : Nat}
theorem la_min {m : Int32} (h1 : G 1 0 ≤ 1000000) (h : mm_la G m = true) : mm_min m = true ∧ nI (G 1 0) ≤ m := by
  simp only [mm_la, Bool.and_eq_true, Bool.not_eq_true', decide_eq_false_iff_not] at h
  have h2 := Int32.not_lt.mp h.1
  have h3 : ¬ m < 0 := fun q => absurd (Int32.lt_of_le_of_lt h2 q) (nI_pos (by omega))
  refine ⟨?_, h2⟩
  simp [mm_min, h3, h.2]
theorem la_of {m : Int32} (h1 : mm_min m = true) (h2 : nI (G 1 0) ≤ m) : mm_la G m = true := by
  simp only [mm_min, Bool.and_eq_true, Bool.not_eq_true', decide_eq_false_iff_not] at h1
  simp [mm_la, Int32.not_lt.mpr h2, h1.2]
theorem nI_cl {d : Nat} (h : d < 2 ^ 31) : (nI d).toNatClampNeg = d := by
  show (Int32.ofNat d).toInt.toNat = d
  rw [Int32.toInt_ofNat_of_lt (by omega)]
  omega
theorem io_iff {d : Nat} {room : Int32} (hd : d < G 4 0) (h4 : G 4 0 ≤ 30) (h2 : G 2 0 ≤ 20) (h5 : G 5 d < G 2 0) (h6 : G 6 d < G 2 0) : mm_io G (nI d) room = true ↔ (room = nI (G 5 d) ∨ room = nI (G 6 d)) := by
  unfold mm_io
  rw [mm_in_of hd (by omega), nI_cl (by omega)]
  constructor
  · intro h
    simp only [Bool.true_and, Bool.and_eq_true, Bool.or_eq_true, decide_eq_true_eq] at h
    exact h.2.imp Eq.symm Eq.symm
  · rintro (h | h)
    · rw [h, mm_in_of h5 (by omega)]
      simp
    · rw [h, mm_in_of h6 (by omega)]
      simp
theorem io_in {d room : Int32} (h : mm_io G d room = true) : mm_in d (nI (G 4 0)) = true := by
  unfold mm_io at h
  simp only [Bool.and_eq_true] at h
  exact h.1
theorem sm_two (hl : l.flags = flags0) (Z : cr_Z0 s0 D ca e0) (S : sm_S s0 D ca e0 O H A y ad G w t) (ht : t < 3072) (p : Int32) (o : Nat) (ho : o < 2) : sm_Op l s0 D ca e0 O H A y ad G t 1 y_C_two cw_C_two [.int p, .int (nI o)] y_M_two cw_M_two [.int p, .int (nI o)] := by
  have S9 := S
  obtain ⟨hC, hR, hK, hO, hz9⟩ := S9
  have e : ∀ a b, a ≠ 0 → a < 39 → mm_up G 0 0 0 a b = G a b := fun a b h1 _ => mm_up_k _ _ _ _ h1
  have h0 := hC.of0 e
  have K0 := hK.of e
  have hB9 := hK.2.2.1
  obtain ⟨b1, b2, b4, b16, b19, b22, b28, b32, b34, bt, b3, b5, b11, b12, b13, b18, b20, b23, b31, b29, b33⟩ := hB9
  cases hp : mm_in p (nI (G 4 0)) with
  | false => exact sm_a Z S ht (Or.inl rfl) (j_C_two_a hl Z hC b4 hp) (by decide) (by decide) (by decide) (fun H' h' => j_M_two_a hl Z h' hp) (by decide)
  | true =>
    obtain ⟨d, hd, rfl⟩ := in_nat (by omega) hp
    have h7 := (b5 d hd).2.2.2.1
    refine sm_mk (G' := mm_up (mm_up G 0 0 0) 7 d o) (code := 0) (r := nI (G 7 d)) rfl (by decide) (j_C_two_ok hl Z h0 hd b4 ho h7) (by decide) (by decide) (by decide) (fun o H' q => ?_) (fun H' h' => j_M_two_ok hl Z h' hd b4 ho h7) (by decide)
    obtain ⟨q1, q2, q3⟩ := q
    exact ⟨q1, q3, _, _, _, q2, K_two K0 ht hd ho, fun q z => Or.inl z, rfl⟩
theorem sm_airlock (hl : l.flags = flags0) (Z : cr_Z0 s0 D ca e0) (S : sm_S s0 D ca e0 O H A y ad G w t) (ht : t < 3072) (p q : Int32) (o : Nat) (ho : o < 2) : sm_Op l s0 D ca e0 O H A y ad G t 1 y_C_airlock cw_C_airlock [.int p, .int q, .int (nI o)] y_M_airlock cw_M_airlock [.int p, .int q, .int (nI o)] := by
  have S9 := S
  obtain ⟨hC, hR, hK, hO, hz9⟩ := S9
  have e : ∀ a b, a ≠ 0 → a < 39 → mm_up G 0 0 0 a b = G a b := fun a b h1 _ => mm_up_k _ _ _ _ h1
  have h0 := hC.of0 e
  have K0 := hK.of e
  have hB9 := hK.2.2.1
  obtain ⟨b1, b2, b4, b16, b19, b22, b28, b32, b34, bt, b3, b5, b11, b12, b13, b18, b20, b23, b31, b29, b33⟩ := hB9
  cases hp : mm_in p (nI (G 4 0)) with
  | false => exact sm_a Z S ht (Or.inl rfl) (j_C_airlock_a hl Z hC b4 hp) (by decide) (by decide) (by decide) (fun H' h' => j_M_airlock_a hl Z h' (fun q => by rw [hp] at q; exact absurd q.1 (by decide))) (by decide)
  | true =>
    obtain ⟨a, ha, rfl⟩ := in_nat (by omega) hp
    cases hq : mm_in q (nI (G 4 0)) with
    | false => exact sm_a Z S ht (Or.inl rfl) (j_C_airlock_b hl Z hC b4 ha hq) (by decide) (by decide) (by decide) (fun H' h' => j_M_airlock_a hl Z h' (fun q => by rw [hq] at q; exact absurd q.2.1 (by decide))) (by decide)
    | true =>
      obtain ⟨b, hb, rfl⟩ := in_nat (by omega) hq
      by_cases hab : a = b
      · subst hab
        exact sm_a Z S ht (Or.inl rfl) (j_C_airlock_c hl Z hC b4 ha) (by decide) (by decide) (by decide) (fun H' h' => j_M_airlock_a hl Z h' (fun q => q.2.2 rfl)) (by decide)
      · have h11 := b11 (30 * a + b)
        have er : nI (G 11 (30 * a + b)) = cr_b (!decide (w.2.2.2.2.2.2.2 a &&& (1 <<< (nI b &&& 31)) = 0)) := by
          have q := hK.2.1 a b ha (by omega)
          rcases (show G 11 (30 * a + b) = 0 ∨ G 11 (30 * a + b) = 1 by omega) with z | z
          · rw [z, decide_eq_true (q.mpr z)]
            rfl
          · rw [z, decide_eq_false (fun q9 => by have := q.mp q9; omega)]
            rfl
        have hc : ∃ Q, cr_c l s0 y_C_airlock cw_C_airlock 4 0 0 [.ref (A 14 0), .int (nI a), .int (nI b), .int (nI o)] H Q ∧ ∀ o' H', Q o' H' → sm_C s0 D ca e0 O H A (mm_up (mm_up (mm_up G 0 0 0) 11 (30 * a + b) o) 11 (30 * b + a) o) (t + 1) 0 (nI (G 11 (30 * a + b))) o' H' := by
          have kk := K_air K0 ht ha hb hab ho
          rcases (show o = 0 ∨ o = 1 by omega) with rfl | rfl
          · refine ⟨_, j_C_airlock_of hl Z h0 K0.2.2.1.r ha hb hab b4, fun o' H' q => ?_⟩
            obtain ⟨q1, q2, q3⟩ := q
            exact ⟨by rw [q1, er]; rfl, q3, _, _, _, q2, kk, fun q z => Or.inl z, rfl⟩
          · refine ⟨_, j_C_airlock_on hl Z h0 K0.2.2.1.r ha hb hab b4, fun o' H' q => ?_⟩
            obtain ⟨q1, q2, q3⟩ := q
            exact ⟨by rw [q1, er]; rfl, q3, _, _, _, q2, kk, fun q z => Or.inl z, rfl⟩
        obtain ⟨Q, hc1, hc2⟩ := hc
        exact sm_mk (G' := mm_up (mm_up (mm_up G 0 0 0) 11 (30 * a + b) o) 11 (30 * b + a) o) (code := 0) (r := nI (G 11 (30 * a + b))) rfl (by decide) hc1 (by decide) (by decide) (by decide) hc2 (fun H' h' => j_M_airlock_ok hl Z h' ha hb hab b4 ho h11) (by decide)
theorem st_G_eq {d o m : Nat} (h8 : G 8 d < 2) (ho : o < 2) : st_G G d o m = mm_up (mm_up (mm_up G 1 0 m) 9 d (if G 8 d = o then G 9 d else m)) 8 d o := by
  unfold st_G
  by_cases e : G 8 d = o
  · rw [if_pos (by rw [e]), if_pos e]
    have e1 : mm_up (mm_up G 1 0 m) 9 d (G 9 d) = mm_up G 1 0 m := mm_up_self (mm_up G 1 0 m) 9 d
    have e2 := mm_up_self (mm_up G 1 0 m) 8 d
    rw [show (mm_up G 1 0 m) 8 d = o from e] at e2
    rw [e1, e2]
  · rw [if_neg (fun q => e ((nI_eq (by omega) (by omega)).mp q)), if_neg e, mm_up_comm _ _ _ _ _ (by decide)]
theorem sm_state (hl : l.flags = flags0) (Z : cr_Z0 s0 D ca e0) (S : sm_S s0 D ca e0 O H A y ad G w t) (ht : t < 3072) (p : Int32) (o : Nat) (ho : o < 2) (m : Int32) : sm_Op l s0 D ca e0 O H A y ad G t 1 y_C_state cw_C_state [.int p, .int (nI o), .int m] y_M_state cw_M_state [.int p, .int (nI o), .int m] := by
  have S9 := S
  obtain ⟨hC, hR, hK, hO, hz9⟩ := S9
  have e : ∀ a b, a ≠ 0 → a < 39 → mm_up G 0 0 0 a b = G a b := fun a b h1 _ => mm_up_k _ _ _ _ h1
  have h0 := hC.of0 e
  have K0 := hK.of e
  have hB9 := hK.2.2.1
  obtain ⟨b1, b2, b4, b16, b19, b22, b28, b32, b34, bt, b3, b5, b11, b12, b13, b18, b20, b23, b31, b29, b33⟩ := hB9
  cases hp : mm_in p (nI (G 4 0)) with
  | false => exact sm_a Z S ht (Or.inl rfl) (j_C_state_a hl Z hC b4 hp) (by decide) (by decide) (by decide) (fun H' h' => j_M_state_a hl Z h' (fun q => by rw [hp] at q; exact absurd q.1 (by decide))) (by decide)
  | true =>
    obtain ⟨d, hd, rfl⟩ := in_nat (by omega) hp
    cases hm : mm_min m with
    | false => exact sm_a Z S ht (Or.inl rfl) (j_C_state_b hl Z hC b4 hd hm) (by decide) (by decide) (by decide) (fun H' h' => j_M_state_a hl Z h' (fun q => by have := (la_min b1 q.2).1; rw [hm] at this; cases this)) (by decide)
    | true =>
      by_cases hn : nI (G 1 0) ≤ m
      · obtain ⟨k, hk, rfl⟩ := min_nat hm
        have hn2 : G 1 0 ≤ k := Nat.le_of_not_lt (fun q => absurd hn (cr_nle q (by omega)))
        refine sm_mk (G' := mm_up (mm_up (mm_up (mm_up G 0 0 0) 1 0 k) 9 d (if G 8 d = o then G 9 d else k)) 8 d o) (code := 0) (r := nI k - nI (G 9 d)) rfl (by decide) (j_C_state_ok hl Z h0 hd b4 ho hk hn2) (by decide) (by decide) (by decide) (fun o H' q => ?_) (fun H' h' => j_M_state_ok hl Z h' hd b4 ho hk hn2 (b5 d hd).2.2.2.2.1) (by decide)
        obtain ⟨q1, q2, q3⟩ := q
        rw [st_G_eq (G := mm_up G 0 0 0) (b5 d hd).2.2.2.2.1 ho] at q2
        exact ⟨q1, q3, _, _, _, q2, K_state K0 ht hd ho hk hn2, fun q z => Or.inl z, rfl⟩
      · exact sm_a Z S ht (Or.inl rfl) (j_C_state_c hl Z hC b4 hd hm hn) (by decide) (by decide) (by decide) (fun H' h' => j_M_state_a hl Z h' (fun q => hn (la_min b1 q.2).2)) (by decide)
theorem sm_off (hl : l.flags = flags0) (Z : cr_Z0 s0 D ca e0) (S : sm_S s0 D ca e0 O H A y ad G w t) (ht : t < 3072) (p : Int32) (o : Nat) (ho : o < 2) : sm_Op l s0 D ca e0 O H A y ad G t 1 y_C_off cw_C_off [.int p, .int (nI o)] y_M_off cw_M_off [.int p, .int (nI o)] := by
  have S9 := S
  obtain ⟨hC, hR, hK, hO, hz9⟩ := S9
  have e : ∀ a b, a ≠ 0 → a < 39 → mm_up G 0 0 0 a b = G a b := fun a b h1 _ => mm_up_k _ _ _ _ h1
  have h0 := hC.of0 e
  have K0 := hK.of e
  have hB9 := hK.2.2.1
  obtain ⟨b1, b2, b4, b16, b19, b22, b28, b32, b34, bt, b3, b5, b11, b12, b13, b18, b20, b23, b31, b29, b33⟩ := hB9
  cases hp : mm_in p (nI (G 4 0)) with
  | false => exact sm_a Z S ht (Or.inl rfl) (j_C_off_a hl Z hC b4 hp) (by decide) (by decide) (by decide) (fun H' h' => j_M_off_a hl Z h' hp) (by decide)
  | true =>
    obtain ⟨d, hd, rfl⟩ := in_nat (by omega) hp
    have h10 : G 10 d < 2 ^ 31 := by
      have := (b5 d hd).2.2.2.2.2.2.1
      omega
    have h12 := (b5 d hd).2.2.2.2.2.2.2.1
    have h9 : nI (G 10 d) = 9000 ↔ G 10 d = 9000 := nI_eq (b := 9000) h10 (by decide)
    have hl13 : ∀ q, q < G 12 d → cc_l G 13 (50 * d + q) := fun q hq => by
      have q9 : (50 * d + q) / 50 < G 4 0 ∧ (50 * d + q) % 50 < G 12 ((50 * d + q) / 50) := by
        rw [show (50 * d + q) / 50 = d by omega]
        omega
      exact q9
    have hr := hK.2.2.1.r
    have hoI : mm_oI G d (G 12 d) (G 12 d) := ⟨rfl, fun q hq => ⟨by have := (hr.2.2.2 _ (hl13 q hq)).1; omega, by have := (hr.2.2.2 _ (hl13 q hq)).2; omega, by have := hr.2.2.1 _ (hr.2.2.2 _ (hl13 q hq)).1; omega⟩, b22, fun t _ => ⟨by have := (b29 t).1; omega, by have := (b29 t).2; omega⟩, by omega, by omega⟩
    rcases (show o = 0 ∨ o = 1 by omega) with rfl | rfl
    · by_cases hon : G 10 d = 9000
      · have h120 : G 12 d = 0 := (b5 d hd).2.2.2.2.2.2.2.2 hon
        refine sm_p Z S ht (r := 0) (j_C_off_same0 hl Z hC hd b4 hon) (by decide) (by decide) (by decide) (fun H' h' => ?_) (dM := 2) (by decide)
        have q := j_M_off_off hl Z h' hd b4 h12 hoI
        have eG : mm_up (mm_up (mm_ol d 0 (G 12 d) (mm_up G 0 0 0)) 12 d 0) 10 d 9000 = mm_up G 0 0 0 := by
          rw [h120]
          show mm_up (mm_up (mm_up G 0 0 0) 12 d 0) 10 d 9000 = _
          have e1 : mm_up (mm_up G 0 0 0) 12 d 0 = mm_up G 0 0 0 := by
            have := mm_up_self (mm_up G 0 0 0) 12 d
            rw [show (mm_up G 0 0 0) 12 d = 0 from h120] at this
            exact this
          rw [e1]
          have := mm_up_self (mm_up G 0 0 0) 10 d
          rw [show (mm_up G 0 0 0) 10 d = 9000 from hon] at this
          exact this
        rw [eG, h120] at q
        exact q
      · refine sm_mk (G' := mm_up (mm_up (mm_ol d 0 (G 12 d) (mm_up G 0 0 0)) 12 d 0) 10 d 9000) (code := 0) (r := nI (G 12 d)) ?_ (by decide) (j_C_off_off hl Z h0 K0.2.2.1.r hd b4 hon h12 b19 b22 (show G 34 0 + 50 < 2 ^ 31 by omega) (fun q hq => by have := (b31 q hq).2.2; show G 31 q < 2 ^ 31; omega) K0.1.2.2.1 K0.1.2.2.2.2.2.1) (by decide) (by decide) (by decide) (fun o H' q => ?_) (fun H' h' => j_M_off_off hl Z h' hd b4 h12 hoI) (by decide)
        · obtain ⟨hE, -⟩ := ol_all (G := mm_up G 0 0 0) (d := d) (n0 := G 12 d) (fun q hq => hr.2.2.1 _ (hr.2.2.2 _ (hl13 q hq)).1) (fun q hq => (hr.2.2.2 _ (hl13 q hq)).2) (G 12 d) 0 (mm_up G 0 0 0) (by omega) (fun _ _ _ _ => rfl) hr.2.1 hK.2.2.2.1.1
          rw [mm_up_k _ _ _ _ (by decide), mm_up_k _ _ _ _ (by decide), hE 0 0 (by decide) (by decide)]
          rfl
        · obtain ⟨q1, w9, q2, q3, q4, q5⟩ := q
          exact ⟨q1, q5, _, _, _, q2, K_offoff K0 ht hd q3 q4, fun q z => z, rfl⟩
    · by_cases hon : G 10 d = 9000
      · refine sm_mk (G' := mm_up (mm_up G 0 0 0) 10 d (G 28 0)) (code := 0) (r := 0) rfl (by decide) (j_C_off_on hl Z h0 K0.2.2.1.r hd b4 hon (show G 28 0 < 9000 by omega)) (by decide) (by decide) (by decide) (fun o H' q => ?_) (fun H' h' => ?_) (dM := 1) (by decide)
        · obtain ⟨q1, q2, q3⟩ := q
          exact ⟨q1, q3, _, _, _, q2, K_offon K0 ht hd hon, fun q z => Or.inl z, rfl⟩
        · have q := j_M_off_on hl Z h' hd b4
          rw [if_pos (h9.mpr hon)] at q
          exact q
      · refine sm_p Z S ht (r := 0) (j_C_off_same1 hl Z hC hd b4 hon) (by decide) (by decide) (by decide) (fun H' h' => ?_) (dM := 1) (by decide)
        have q := j_M_off_on hl Z h' hd b4
        have := mm_up_self (mm_up G 0 0 0) 10 d
        rw [if_neg (fun z => hon (h9.mp z)), show mm_up (mm_up G 0 0 0) 10 d (G 10 d) = mm_up G 0 0 0 from this] at q
        exact q
theorem sm_where (hl : l.flags = flags0) (Z : cr_Z0 s0 D ca e0) (S : sm_S s0 D ca e0 O H A y ad G w t) (ht : t < 3072) (p : Int32) : sm_Op l s0 D ca e0 O H A y ad G t 1 y_C_where cw_C_where [.int p] y_M_where cw_M_where [.int p] := by
  have S9 := S
  obtain ⟨hC, hR, hK, hO, hz9⟩ := S9
  have hB9 := hK.2.2.1
  obtain ⟨b1, b2, b4, b16, b19, b22, -⟩ := hB9
  cases hp : mm_in p (nI (G 16 0)) with
  | false => exact sm_a Z S ht (Or.inl rfl) (j_C_where_a hl Z hC b16 hp) (by decide) (by decide) (by decide) (fun H' h' => j_M_where_a hl Z h' hp) (by decide)
  | true =>
    obtain ⟨a, ha, rfl⟩ := in_nat (by omega) hp
    exact sm_p Z S ht (j_C_where_ok hl Z hC ha b16 (hK.2.2.1.r.2.1 a ha)) (by decide) (by decide) (by decide) (fun H' h' => j_M_where_ok hl Z h' ha b16) (by decide)
theorem sm_inside (hl : l.flags = flags0) (Z : cr_Z0 s0 D ca e0) (S : sm_S s0 D ca e0 O H A y ad G w t) (ht : t < 3072) (p : Int32) : sm_Op l s0 D ca e0 O H A y ad G t 1 y_C_inside cw_C_inside [.int p] y_M_inside cw_M_inside [.int p] := by
  have S9 := S
  obtain ⟨hC, hR, hK, hO, hz9⟩ := S9
  have hB9 := hK.2.2.1
  obtain ⟨b1, b2, b4, b16, b19, b22, -⟩ := hB9
  cases hp : mm_in p 10 with
  | false => exact sm_a Z S ht (Or.inl rfl) (j_C_inside_a hl Z hC hp) (by decide) (by decide) (by decide) (fun H' h' => j_M_inside_a hl Z h' hp) (by decide)
  | true =>
    obtain ⟨a, ha, rfl⟩ := in_nat (n := 10) (by decide) hp
    exact sm_p Z S ht (j_C_inside_ok hl Z hC ha b16 hK.2.2.1.r.2.1) (by decide) (by decide) (by decide) (fun H' h' => j_M_inside_ok hl Z h' ha b16 (fun p hp => by have := hK.2.2.1.r.2.1 p hp; omega)) (by decide)
theorem sm_muster (hl : l.flags = flags0) (Z : cr_Z0 s0 D ca e0) (S : sm_S s0 D ca e0 O H A y ad G w t) (ht : t < 3072) (p k : Int32) : sm_Op l s0 D ca e0 O H A y ad G t 1 y_C_muster cw_C_muster [.int p, .int k] y_M_muster cw_M_muster [.int p, .int k] := by
  have S9 := S
  obtain ⟨hC, hR, hK, hO, hz9⟩ := S9
  have hB9 := hK.2.2.1
  obtain ⟨b1, b2, b4, b16, b19, b22, -⟩ := hB9
  cases hp : mm_in p 10 with
  | false => exact sm_a Z S ht (Or.inl rfl) (j_C_muster_a hl Z hC hp) (by decide) (by decide) (by decide) (fun H' h' => j_M_muster_a hl Z h' (fun q => by rw [hp] at q; exact absurd q.1 (by decide))) (by decide)
  | true =>
    by_cases hk : 0 ≤ k
    · obtain ⟨a, ha, rfl⟩ := in_nat (n := 10) (by decide) hp
      exact sm_p Z S ht (j_C_muster_ok hl Z hC ha b16 hK.2.2.1.r.2.1 hk) (by decide) (by decide) (by decide) (fun H' h' => j_M_muster_ok hl Z h' ha (Int32.not_lt.mpr hk) b16 (fun p hp => by have := hK.2.2.1.r.2.1 p hp; omega)) (by decide)
    · exact sm_a Z S ht (Or.inl rfl) (j_C_muster_b hl Z hC hp hk) (by decide) (by decide) (by decide) (fun H' h' => j_M_muster_a hl Z h' (fun q => hk (Int32.not_lt.mp q.2))) (by decide)
theorem sm_found (hl : l.flags = flags0) (Z : cr_Z0 s0 D ca e0) (S : sm_S s0 D ca e0 O H A y ad G w t) (ht : t < 3072) (k x : Int32) : sm_Op l s0 D ca e0 O H A y ad G t 1 y_C_found cw_C_found [.int k, .int x] y_M_found cw_M_found [.int k, .int x] := by
  have S9 := S
  obtain ⟨hC, hR, hK, hO, hz9⟩ := S9
  have hB9 := hK.2.2.1
  obtain ⟨b1, b2, b4, b16, b19, b22, b28, b32, b34, bt, -⟩ := hB9
  have h34 : G 34 0 < 2 ^ 31 := by omega
  by_cases hno : ¬ k < 0 ∧ ¬ nI (G 34 0) ≤ k ∧ ¬ 100 ≤ k ∧ ¬ x < 0 ∧ ¬ 3 < x
  · obtain ⟨q1, q2, q3, q4, q5⟩ := hno
    obtain ⟨a, ha, rfl⟩ := nn_nat q1
    obtain ⟨c, hc, rfl⟩ := nn_nat q4
    have a1 : a < G 34 0 := cr_ltof ha q2
    have a2 : a < 100 := cr_ltof (a := 100) ha q3
    have a3 : c < 4 := Nat.lt_of_not_le (fun q => q5 (show nI 3 < nI c from nI_lt (by omega) hc))
    have m6 := hK.1.2.2.2.2.2.1 a c a2 a1 a3
    rcases (show c = 0 ∨ c = 1 ∨ c = 2 ∨ c = 3 by omega) with rfl | rfl | rfl | rfl
    · refine sm_p Z S ht (j_C_found_ok hl Z hC a1 a2 h34 a3) (by decide) (by decide) (by decide) (fun H' h' => ?_) (dM := 1) (by decide)
      rw [m6]
      exact j_M_found_0 hl Z h' a1 a2 h34
    · refine sm_p Z S ht (j_C_found_ok hl Z hC a1 a2 h34 a3) (by decide) (by decide) (by decide) (fun H' h' => ?_) (dM := 1) (by decide)
      rw [m6]
      exact j_M_found_1 hl Z h' a1 a2 h34
    · refine sm_p Z S ht (j_C_found_ok hl Z hC a1 a2 h34 a3) (by decide) (by decide) (by decide) (fun H' h' => ?_) (dM := 1) (by decide)
      rw [m6]
      exact j_M_found_2 hl Z h' a1 a2 h34
    · refine sm_p Z S ht (j_C_found_ok hl Z hC a1 a2 h34 a3) (by decide) (by decide) (by decide) (fun H' h' => ?_) (dM := 1) (by decide)
      rw [m6]
      exact j_M_found_3 hl Z h' a1 a2 h34
  · exact sm_a Z S ht (Or.inl rfl) (j_C_found_a hl Z hC h34 hno) (by decide) (by decide) (by decide) (fun H' h' => j_M_found_a hl Z h' hno) (by decide)
theorem sm_against (hl : l.flags = flags0) (Z : cr_Z0 s0 D ca e0) (S : sm_S s0 D ca e0 O H A y ad G w t) (ht : t < 3072) : sm_Op l s0 D ca e0 O H A y ad G t 1 y_C_against cw_C_against [] y_M_against cw_M_against [] :=
  sm_p Z S ht (j_C_against hl Z S.1) (by decide) (by decide) (by decide) (fun H' h' => j_M_against hl Z h') (by decide)
theorem sm_uses (hl : l.flags = flags0) (Z : cr_Z0 s0 D ca e0) (S : sm_S s0 D ca e0 O H A y ad G w t) (ht : t < 3072) : sm_Op l s0 D ca e0 O H A y ad G t 1 y_C_uses cw_C_uses [] y_M_uses cw_M_uses [] :=
  sm_p Z S ht (j_C_uses hl Z S.1) (by decide) (by decide) (by decide) (fun H' h' => j_M_uses hl Z h') (by decide)
theorem sm_now (hl : l.flags = flags0) (Z : cr_Z0 s0 D ca e0) (S : sm_S s0 D ca e0 O H A y ad G w t) (ht : t < 3072) : sm_Op l s0 D ca e0 O H A y ad G t 1 y_C_now cw_C_now [] y_M_now cw_M_now [] :=
  sm_p Z S ht (j_C_now hl Z S.1) (by decide) (by decide) (by decide) (fun H' h' => j_M_now hl Z h') (by decide)
/-- the fewest: the class's cells hold for whatever the reference's scratch becomes -/
theorem sm_fewest (hl : l.flags = flags0) (Z : cr_Z0 s0 D ca e0) (S : sm_S s0 D ca e0 O H A y ad G w t) (ht : t < 3072) : cr_c l s0 y_C_fewest cw_C_fewest 20 0 0 [.ref (A 14 0)] H (fun o H' => ∃ r w', o = .inl (some (.int r)) ∧ cc_H s0 D ca e0 O H' A G w' ∧ sm_K G w' t ∧ cr_Fr O H H' ∧ ∀ H2, mm_R s0 D ca H2 y ad G → cr_c l s0 y_M_fewest cw_M_fewest 2 0 0 [.ref y] H2 (fun o2 H3 => ∃ G', o2 = .inl (some (.int r)) ∧ fr_E G G' ∧ mm_R s0 D ca H3 y ad G' ∧ mm_Fr y ad H2 H3)) := by
  obtain ⟨hC, hR, hK, hO, hz9⟩ := S
  have hB9 := hK.2.2.1
  obtain ⟨b1, b2, b4, b16, b19, b22, b28, b32, b34, bt, b3, b5, b11, b12, b13, b18, b20, b23, b31, b29, b33⟩ := hB9
  refine cr_c_mono (j_C_fewest hl Z hC hK.2.2.1.r hK.1.2.2.2.2.2.2 b22 b23) (fun o H' q => ?_)
  obtain ⟨n, f, q1, I, q2, q3⟩ := q
  refine ⟨_, _, q1, q2, ⟨cc_M_us hK.1 (fun _ _ _ => rfl) (cc_U_of hK.1.2.2.2.2.2.2 rfl (fun _ => rfl) rfl) rfl rfl rfl rfl rfl, cc_A_of hK.2.1 rfl (fun _ => rfl) rfl, hK.2.2.1, hK.2.2.2.1, cc_T_of hK.2.2.2.2 (fun _ _ _ => rfl) rfl⟩, q3, fun H2 h2 => ?_⟩
  refine cr_c_mono (j_M_fewest hl Z h2 b22 (by omega) b33 b23) (fun o2 H3 q => ?_)
  obtain ⟨b, G', z1, z2, z3, z4, z5⟩ := q
  exact ⟨G', by rw [z1, fw_same I z2 b22 b33], z4, z3, z5⟩
end SIN
