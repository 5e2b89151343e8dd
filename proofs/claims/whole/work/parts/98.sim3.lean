/-! One call on both sides: asks, both -/
section SIP
variable {l : Launch} {s0 : State} {D : va_G} {ca : Nat → ClassId} {e0 : Nat} {O : Nat → Prop} {H : Heap} {A : Nat → Nat → Nat} {G G' : mm_G} {w w' : cc_W} {y : Nat} {ad : Nat → Nat} {t : Nat}
theorem sm_k {mx : Nat} {yC yM : MethodName} {cwC cwM : Cond} {avC avM : List Value} {d mc ms dM : Nat} {r : Int32} {Qc : cr_Q} (h0 : G' 0 0 = 0) (hc : cr_c l s0 yC cwC d mc ms (.ref (A 14 0) :: avC) H Qc) (hd : d ≤ 20) (hmc : mc ≤ 6) (hms : ms ≤ 230) (hq : ∀ o H', Qc o H' → (o = .inl (some (.int r)) ∧ cr_Fr O H H' ∧ ∃ O' A' w', cc_H s0 D ca e0 O' H' A' G' w' ∧ sm_K G' w' (t + 1) ∧ (∀ q, O' q → O q ∨ H.size ≤ q) ∧ A' 14 0 = A 14 0))
    (hm : ∀ H', mm_R s0 D ca H' y ad G → cr_c l s0 yM cwM dM 0 0 (.ref y :: avM) H' (mm_Q s0 D ca H' y ad (some (.int r)) G')) (hdM : dM ≤ 4) : sm_Op l s0 D ca e0 O H A y ad G t mx yC cwC avC yM cwM avM :=
  sm_mk (G' := G') (code := 0) (r := r) h0 (Nat.zero_le _) hc hd hmc hms (fun o H' q => hq o H' q) (fun H' h' => hm H' h') hdM
theorem sm_asks (hl : l.flags = flags0) (Z : cr_Z0 s0 D ca e0) (S : sm_S s0 D ca e0 O H A y ad G w t) (ht : t < 3072) (p q r m : Int32) : sm_Op l s0 D ca e0 O H A y ad G t 2 y_C_asks cw_C_asks [.int p, .int q, .int r, .int m] y_M_asks cw_M_asks [.int p, .int q, .int r, .int m] := by
  have S9 := S
  obtain ⟨hC, hR, hK, hO, hz9⟩ := S9
  have e : ∀ a b, a ≠ 0 → a < 39 → mm_up G 0 0 0 a b = G a b := fun a b h1 _ => mm_up_k _ _ _ _ h1
  have h0 := hC.of0 e
  have K0 := hK.of e
  have hr := hK.2.2.1.r
  have hB9 := hK.2.2.1
  obtain ⟨b1, b2, b4, b16, b19, b22, b28, b32, b34, bt, b3, b5, b11, b12, b13, b18, b20, b23, b31, b29, b33⟩ := hB9
  cases hp : mm_in p (nI (G 19 0)) with
  | false => exact sm_a Z S ht (Or.inl rfl) (j_C_asks_a hl Z hC hr b19 b4 b2 hp) (by decide) (by decide) (by decide) (fun H' h' => j_M_asks_a hl Z h' b4 (fun q => by rw [hp] at q; exact absurd q.1 (by decide))) (by decide)
  | true =>
    have hp' := hp
    obtain ⟨c, hc, rfl⟩ := in_nat (by omega) hp
    cases hq : mm_in q (nI (G 4 0)) with
    | false => exact sm_a Z S ht (Or.inl rfl) (j_C_asks_b hl Z hC hr b19 b4 b2 hc hq) (by decide) (by decide) (by decide) (fun H' h' => j_M_asks_a hl Z h' b4 (fun z => by have := io_in z.2.1; rw [hq] at this; cases this)) (by decide)
    | true =>
      obtain ⟨d, hd, rfl⟩ := in_nat (by omega) hq
      have r5 := hr.1 d hd
      have ioi := io_iff (G := G) (room := r) hd b4 b2 r5.1 r5.2
      by_cases hio : r = nI (G 5 d) ∨ r = nI (G 6 d)
      · obtain ⟨room, hrm, hio2, rfl⟩ : ∃ room, room < G 2 0 ∧ (room = G 5 d ∨ room = G 6 d) ∧ r = nI room := by
          rcases hio with z | z
          · exact ⟨G 5 d, r5.1, Or.inl rfl, z⟩
          · exact ⟨G 6 d, r5.2, Or.inr rfl, z⟩
        cases hm : mm_min m with
        | false => exact sm_a Z S ht (Or.inl rfl) (j_C_asks_d hl Z hC hr b19 b4 b2 hc hd hio2 hm) (by decide) (by decide) (by decide) (fun H' h' => j_M_asks_a hl Z h' b4 (fun z => by have := (la_min b1 z.2.2).1; rw [hm] at this; cases this)) (by decide)
        | true =>
          by_cases hn : nI (G 1 0) ≤ m
          · have hla := la_of (G := G) hm hn
            have hm' := hm
            obtain ⟨k, hk, rfl⟩ := min_nat hm
            have hn2 : G 1 0 ≤ k := Nat.le_of_not_lt (fun q => absurd hn (cr_nle q (by omega)))
            have h10 : G 10 d < 2 ^ 31 := by
              have := (b5 d hd).2.2.2.2.2.2.1
              omega
            have h12 := (b5 d hd).2.2.2.2.2.2.2.1
            have hBt : ∀ t, t < 9000 → G 29 t < 2 ^ 31 ∧ G 30 t < 2 ^ 31 := fun t _ => ⟨by have := (b29 t).1; omega, by have := (b29 t).2; omega⟩
            by_cases hs : G 12 d < 50
            · refine sm_k (G' := mm_ag (mm_up (mm_up G 0 0 0) 1 0 k) c d room k) (r := mm_aw (mm_up (mm_up G 0 0 0) 1 0 k) c d room k) ?_ (j_C_asks_ok hl Z h0 K0.1 K0.2.2.1 hc hd hio2 hk hn2 hs) (by decide) (by decide) (by decide) (fun o H' q => ?_) (fun H' h' => j_M_asks_ok hl Z h' hc b19 (by have := (b20 c hc).1; omega) (by omega) hs (by omega) (by omega) b22 b4 hBt h10 (by omega) (ioi.mpr hio) hla (by omega)) (by decide)
              · unfold mm_ag
                split
                · rw [mm_lt_k (by decide) (by decide) (by decide) (by decide) (by decide) (by decide) (by decide)]
                  rfl
                · rfl
              · obtain ⟨q1, A', q2, q3, q4⟩ := q
                exact ⟨q1, q4, _, _, _, q2, K_asks K0 ht hc hd hrm hk hn2 hs, fun q z => z, q3 14 0 rfl⟩
            · have hoff : G 10 d ≠ 9000 := fun z => by
                have := (b5 d hd).2.2.2.2.2.2.2.2 z
                omega
              exact sm_a Z S ht (Or.inr rfl) (j_C_asks_s hl Z hC hr b19 b4 b2 hc hd hio2 hm' hn hoff (by omega) (by omega)) (by decide) (by decide) (by decide) (fun H' h' => j_M_asks_s hl Z h' hc b19 (by omega) (by omega) (by omega) (by omega) b22 b4 hBt h10 (by omega) (ioi.mpr hio) hla (by omega)) (by decide)
          · exact sm_a Z S ht (Or.inl rfl) (j_C_asks_e hl Z hC hr b19 b4 b2 hc hd hio2 hm hn) (by decide) (by decide) (by decide) (fun H' h' => j_M_asks_a hl Z h' b4 (fun z => hn (la_min b1 z.2.2).2)) (by decide)
      · exact sm_a Z S ht (Or.inl rfl) (j_C_asks_c hl Z hC hr b19 b4 b2 hc hd (fun z => hio (Or.inl z)) (fun z => hio (Or.inr z))) (by decide) (by decide) (by decide) (fun H' h' => j_M_asks_a hl Z h' b4 (fun z => hio (ioi.mp z.2.1))) (by decide)
theorem sm_both (hl : l.flags = flags0) (Z : cr_Z0 s0 D ca e0) (S : sm_S s0 D ca e0 O H A y ad G w t) (ht : t < 3072) (p p2 q r m : Int32) : sm_Op l s0 D ca e0 O H A y ad G t 2 y_C_both cw_C_both [.int p, .int p2, .int q, .int r, .int m] y_M_both cw_M_both [.int p, .int p2, .int q, .int r, .int m] := by
  have S9 := S
  obtain ⟨hC, hR, hK, hO, hz9⟩ := S9
  have e : ∀ a b, a ≠ 0 → a < 39 → mm_up G 0 0 0 a b = G a b := fun a b h1 _ => mm_up_k _ _ _ _ h1
  have h0 := hC.of0 e
  have K0 := hK.of e
  have hr := hK.2.2.1.r
  have hB9 := hK.2.2.1
  obtain ⟨b1, b2, b4, b16, b19, b22, b28, b32, b34, bt, b3, b5, b11, b12, b13, b18, b20, b23, b31, b29, b33⟩ := hB9
  cases hp : mm_in p (nI (G 19 0)) with
  | false => exact sm_a Z S ht (Or.inl rfl) (j_C_both_a hl Z hC hr b19 b4 b2 hp) (by decide) (by decide) (by decide) (fun H' h' => j_M_both_a hl Z h' b4 (fun q => by rw [hp] at q; exact absurd q.1 (by decide))) (by decide)
  | true =>
    obtain ⟨a, ha, rfl⟩ := in_nat (by omega) hp
    cases hp2 : mm_in p2 (nI (G 19 0)) with
    | false => exact sm_a Z S ht (Or.inl rfl) (j_C_both_b hl Z hC hr b19 b4 b2 ha hp2) (by decide) (by decide) (by decide) (fun H' h' => j_M_both_a hl Z h' b4 (fun q => by rw [hp2] at q; exact absurd q.2.1 (by decide))) (by decide)
    | true =>
      obtain ⟨b, hb, rfl⟩ := in_nat (by omega) hp2
      by_cases hab : a = b
      · subst hab
        exact sm_a Z S ht (Or.inl rfl) (j_C_both_c hl Z hC hr b19 b4 b2 ha) (by decide) (by decide) (by decide) (fun H' h' => j_M_both_a hl Z h' b4 (fun q => q.2.2.1 rfl)) (by decide)
      · cases hq : mm_in q (nI (G 4 0)) with
        | false => exact sm_a Z S ht (Or.inl rfl) (j_C_both_d hl Z hC hr b19 b4 b2 ha hb hab hq) (by decide) (by decide) (by decide) (fun H' h' => j_M_both_a hl Z h' b4 (fun z => by have := io_in z.2.2.2.1; rw [hq] at this; cases this)) (by decide)
        | true =>
          obtain ⟨d, hd, rfl⟩ := in_nat (by omega) hq
          have r5 := hr.1 d hd
          have ioi := io_iff (G := G) (room := r) hd b4 b2 r5.1 r5.2
          by_cases hio : r = nI (G 5 d) ∨ r = nI (G 6 d)
          · obtain ⟨room, hrm, hio2, rfl⟩ : ∃ room, room < G 2 0 ∧ (room = G 5 d ∨ room = G 6 d) ∧ r = nI room := by
              rcases hio with z | z
              · exact ⟨G 5 d, r5.1, Or.inl rfl, z⟩
              · exact ⟨G 6 d, r5.2, Or.inr rfl, z⟩
            cases hm : mm_min m with
            | false => exact sm_a Z S ht (Or.inl rfl) (j_C_both_f hl Z hC hr b19 b4 b2 ha hb hab hd hio2 hm) (by decide) (by decide) (by decide) (fun H' h' => j_M_both_a hl Z h' b4 (fun z => by have := (la_min b1 z.2.2.2.2).1; rw [hm] at this; cases this)) (by decide)
            | true =>
              by_cases hn : nI (G 1 0) ≤ m
              · have hla := la_of (G := G) hm hn
                have hm' := hm
                obtain ⟨k, hk, rfl⟩ := min_nat hm
                have hn2 : G 1 0 ≤ k := Nat.le_of_not_lt (fun q => absurd hn (cr_nle q (by omega)))
                have h10 : G 10 d < 2 ^ 31 := by
                  have := (b5 d hd).2.2.2.2.2.2.1
                  omega
                have h12 := (b5 d hd).2.2.2.2.2.2.2.1
                have hBt : ∀ t, t < 9000 → G 29 t < 2 ^ 31 ∧ G 30 t < 2 ^ 31 := fun t _ => ⟨by have := (b29 t).1; omega, by have := (b29 t).2; omega⟩
                by_cases hs : G 12 d < 49
                · refine sm_k (G' := mm_bg (mm_up (mm_up G 0 0 0) 1 0 k) a b d room k) (r := mm_bw (mm_up (mm_up G 0 0 0) 1 0 k) a b d room k) ?_ (j_C_both_ok hl Z h0 K0.1 K0.2.2.1 ht ha hb hab hd hio2 hk hn2 hs) (by decide) (by decide) (by decide) (fun o H' q => ?_) (fun H' h' => j_M_both_ok hl Z h' ha hb hab b19 (by have := (b20 a ha).1; omega) (by have := (b20 b hb).1; omega) (by omega) hs (by omega) (by omega) b22 b4 hBt h10 (by omega) (ioi.mpr hio) hla (by omega)) (by decide)
                  · unfold mm_bg
                    split
                    · rw [mm_lt_k (by decide) (by decide) (by decide) (by decide) (by decide) (by decide) (by decide), mm_lt_k (by decide) (by decide) (by decide) (by decide) (by decide) (by decide) (by decide)]
                      rfl
                    · rfl
                  · obtain ⟨q1, A', q2, q3, q4⟩ := q
                    exact ⟨q1, q4, _, _, _, q2, K_both K0 ht ha hb hd hrm hk hn2 hs, fun q z => z, q3 14 0 rfl⟩
                · have hoff : G 10 d ≠ 9000 := fun z => by
                    have := (b5 d hd).2.2.2.2.2.2.2.2 z
                    omega
                  exact sm_a Z S ht (Or.inr rfl) (j_C_both_s hl Z hC hr b19 b4 b2 ha hb hab hd hio2 hm' hn hoff (by omega) (by omega)) (by decide) (by decide) (by decide) (fun H' h' => j_M_both_s hl Z h' ha hb hab b19 (by omega) (by omega) (by omega) (by omega) b22 b4 hBt h10 (by omega) (ioi.mpr hio) hla (by omega)) (by decide)
              · exact sm_a Z S ht (Or.inl rfl) (j_C_both_g hl Z hC hr b19 b4 b2 ha hb hab hd hio2 hm hn) (by decide) (by decide) (by decide) (fun H' h' => j_M_both_a hl Z h' b4 (fun z => hn (la_min b1 z.2.2.2.2).2)) (by decide)
          · exact sm_a Z S ht (Or.inl rfl) (j_C_both_e hl Z hC hr b19 b4 b2 ha hb hab hd (fun z => hio (Or.inl z)) (fun z => hio (Or.inr z))) (by decide) (by decide) (by decide) (fun H' h' => j_M_both_a hl Z h' b4 (fun z => hio (ioi.mp z.2.2.2.1))) (by decide)
end SIP
