/-! One call on both sides -/
section SIM
variable {l : Launch} {s0 : State} {D : va_G} {ca : Nat → ClassId} {e0 : Nat} {O : Nat → Prop} {H : Heap} {A : Nat → Nat → Nat} {G G' : mm_G} {w w' : cc_W} {y : Nat} {ad : Nat → Nat} {t : Nat}
theorem cc_H.of0 (h : cc_H s0 D ca e0 O H A G w) (e : ∀ a b, a ≠ 0 → a < 39 → G' a b = G a b) : cc_H s0 D ca e0 O H A G' w := by
  have el : ∀ k i, cc_l G' k i = cc_l G k i := fun k i => by
    unfold cc_l
    split <;> simp [e]
  have ec : ∀ k i, cc_c ca A G' w k i = cc_c ca A G w k i := fun k i => by
    unfold cc_c
    split <;> simp [e]
  have eL : ∀ k i, cc_L e0 A G' k i = cc_L e0 A G k i := fun k i => by
    unfold cc_L
    rw [el, e 4 0 (by decide) (by decide)]
  obtain ⟨c1, c2, c3, c4, c5, c6⟩ := h
  refine ⟨fun k i q => c1 k i (by rw [← eL]; exact q), fun k i q qo => ?_, fun i hi => ?_, fun i hi => ?_, fun k i k' i' q q' => c5 k i k' i' (by rw [← eL]; exact q) (by rw [← eL]; exact q'), c6⟩
  · rw [ec]
    exact c2 k i (by rw [← el]; exact q) qo
  · have := cc_n_in hi
    rw [e _ _ (by omega) (by omega)]
    exact c3 i hi
  · rw [e 4 0 (by decide) (by decide)] at hi
    rw [e 12 i (by decide) (by decide)]
    exact c4 i hi
theorem cc_H.fr0 {H' : Heap} (Z : cr_Z0 s0 D ca e0) (h : cc_H s0 D ca e0 O H A G w) (hlo : s0.heap.size ≤ H.size) (hf : cr_Fr (fun _ => False) H H') : cc_H s0 D ca e0 O H' A G w := by
  have hlt := fun k i (q : cc_L e0 A G k i) => h.lt q
  have he := cr_e0lt Z
  obtain ⟨c1, c2, c3, c4, c5, c6⟩ := h
  have kp : ∀ k i, cc_L e0 A G k i → H'[A k i]? = H[A k i]? := fun k i q => hf.2 _ (hlt k i q) (fun z => z)
  have ke : H'[e0]? = H[e0]? := hf.2 _ (by omega) (fun z => z)
  refine ⟨c1, fun k i q qo => cr_at_eq (c2 k i q qo) (kp k i (Or.inl q)), fun i hi => ?_, fun i hi => ?_, c5, hf.old c6 hlo (fun _ z => z.elim)⟩
  · refine (c3 i hi).fr (kp 5 i (Or.inl hi)) ?_
    by_cases q6 : A 6 i = e0
    · rw [q6]
      exact ke
    · exact kp 6 i (Or.inr (Or.inl ⟨rfl, hi, q6⟩))
  · refine (c4 i hi).fr (kp 7 i (Or.inl hi)) ?_
    by_cases q8 : A 8 i = e0
    · rw [q8]
      exact ke
    · exact kp 8 i (Or.inr (Or.inr ⟨rfl, hi, q8⟩))
/-- both sides at one moment -/
def sm_S (s0 : State) (D : va_G) (ca : Nat → ClassId) (e0 : Nat) (O : Nat → Prop) (H : Heap) (A : Nat → Nat → Nat) (y : Nat) (ad : Nat → Nat) (G : mm_G) (w : cc_W) (t : Nat) : Prop := cc_H s0 D ca e0 O H A G w ∧ mm_R s0 D ca H y ad G ∧ sm_K G w t ∧ (∀ q, O q → ¬ mm_S y ad q) ∧ s0.heap.size ≤ H.size
def sm_C (s0 : State) (D : va_G) (ca : Nat → ClassId) (e0 : Nat) (O : Nat → Prop) (H : Heap) (A : Nat → Nat → Nat) (G' : mm_G) (t' code : Nat) (r : Int32) : cr_Q := fun o H' => (o = if code = 0 then .inl (some (.int r)) else .inr code) ∧ cr_Fr O H H' ∧ ∃ O' A' w', cc_H s0 D ca e0 O' H' A' G' w' ∧ sm_K G' w' t' ∧ (∀ q, O' q → O q ∨ H.size ≤ q) ∧ A' 14 0 = A 14 0
def sm_Op (l : Launch) (s0 : State) (D : va_G) (ca : Nat → ClassId) (e0 : Nat) (O : Nat → Prop) (H : Heap) (A : Nat → Nat → Nat) (y : Nat) (ad : Nat → Nat) (G : mm_G) (t mx : Nat) (yC : MethodName) (cwC : Cond) (avC : List Value) (yM : MethodName) (cwM : Cond) (avM : List Value) : Prop :=
  ∃ G' code r, G' 0 0 = code ∧ code ≤ mx ∧ cr_c l s0 yC cwC 20 6 230 (.ref (A 14 0) :: avC) H (sm_C s0 D ca e0 O H A G' (t + 1) code r) ∧ ∀ H', mm_R s0 D ca H' y ad G → cr_c l s0 yM cwM 4 0 0 (.ref y :: avM) H' (mm_Q s0 D ca H' y ad (some (.int (if code = 0 then r else 0))) G')
theorem sm_mk {mx : Nat} {yC yM : MethodName} {cwC cwM : Cond} {avC avM : List Value} {d mc ms dM code : Nat} {r : Int32} {Qc : cr_Q} (h0 : G' 0 0 = code) (hcode : code ≤ mx) (hc : cr_c l s0 yC cwC d mc ms (.ref (A 14 0) :: avC) H Qc) (hd : d ≤ 20) (hmc : mc ≤ 6) (hms : ms ≤ 230) (hq : ∀ o H', Qc o H' → sm_C s0 D ca e0 O H A G' (t + 1) code r o H')
    (hm : ∀ H', mm_R s0 D ca H' y ad G → cr_c l s0 yM cwM dM 0 0 (.ref y :: avM) H' (mm_Q s0 D ca H' y ad (some (.int (if code = 0 then r else 0))) G')) (hdM : dM ≤ 4) : sm_Op l s0 D ca e0 O H A y ad G t mx yC cwC avC yM cwM avM :=
  ⟨G', code, r, h0, hcode, cr_c_up (cr_c_mono hc hq) hd hmc hms, fun H' h' => cr_c_up (hm H' h') hdM (Nat.le_refl _) (Nat.le_refl _)⟩
theorem sm_a (Z : cr_Z0 s0 D ca e0) (S : sm_S s0 D ca e0 O H A y ad G w t) (ht : t < 3072) {mx : Nat} {yC yM : MethodName} {cwC cwM : Cond} {avC avM : List Value} {d mc ms dM kd : Nat} (hk : kd = 1 ∨ kd = 2) (hc : cr_c l s0 yC cwC d mc ms (.ref (A 14 0) :: avC) H (ck_T kd H)) (hd : d ≤ 20) (hmc : mc ≤ 6) (hms : ms ≤ 230)
    (hm : ∀ H', mm_R s0 D ca H' y ad G → cr_c l s0 yM cwM dM 0 0 (.ref y :: avM) H' (mm_Q s0 D ca H' y ad (some (.int 0)) (mm_up G 0 0 kd))) (hdM : dM ≤ 4) (hkm : kd ≤ mx := by decide) : sm_Op l s0 D ca e0 O H A y ad G t mx yC cwC avC yM cwM avM := by
  obtain ⟨hC, hR, hK, hO, hz⟩ := S
  have e : ∀ a b, a ≠ 0 → a < 39 → mm_up G 0 0 kd a b = G a b := fun a b h1 _ => mm_up_k _ _ _ _ h1
  refine sm_mk (G' := mm_up G 0 0 kd) (code := kd) (r := 0) (mm_up_s _ _ _ _) hkm hc hd hmc hms (fun o H' q => ?_) (fun H' h' => by rw [if_neg (by omega)]; exact hm H' h') hdM
  obtain ⟨q1, q2⟩ := q
  refine ⟨by rw [q1, if_neg (by omega)], q2.mono (fun _ _ z => z.elim), O, A, w, (hC.fr0 Z hz q2).of0 e, (hK.of e).st ht, fun q z => Or.inl z, rfl⟩
theorem sm_p (Z : cr_Z0 s0 D ca e0) (S : sm_S s0 D ca e0 O H A y ad G w t) (ht : t < 3072) {mx : Nat} {yC yM : MethodName} {cwC cwM : Cond} {avC avM : List Value} {d mc ms dM : Nat} {r : Int32} (hc : cr_c l s0 yC cwC d mc ms (.ref (A 14 0) :: avC) H (cr_pu (some (.int r)) H)) (hd : d ≤ 20) (hmc : mc ≤ 6) (hms : ms ≤ 230)
    (hm : ∀ H', mm_R s0 D ca H' y ad G → cr_c l s0 yM cwM dM 0 0 (.ref y :: avM) H' (mm_Q s0 D ca H' y ad (some (.int r)) (mm_up G 0 0 0))) (hdM : dM ≤ 4) : sm_Op l s0 D ca e0 O H A y ad G t mx yC cwC avC yM cwM avM := by
  obtain ⟨hC, hR, hK, hO, hz⟩ := S
  have e : ∀ a b, a ≠ 0 → a < 39 → mm_up G 0 0 0 a b = G a b := fun a b h1 _ => mm_up_k _ _ _ _ h1
  refine sm_mk (G' := mm_up G 0 0 0) (code := 0) (r := r) (mm_up_s _ _ _ _) (Nat.zero_le _) hc hd hmc hms (fun o H' q => ?_) (fun H' h' => hm H' h') hdM
  obtain ⟨q1, q2⟩ := q
  subst q2
  exact ⟨q1, cr_Fr.refl _, O, A, w, hC.of0 e, (hK.of e).st ht, fun q z => Or.inl z, rfl⟩
theorem nn_nat {z : Int32} (h : ¬ z < 0) : ∃ a, a < 2 ^ 31 ∧ z = nI a := by
  have h0 : 0 ≤ z.toInt := by
    have := Int32.not_lt.mp h
    rw [Int32.le_iff_toInt_le] at this
    exact this
  have h1 := Int32.toInt_lt z
  refine ⟨z.toInt.toNat, by omega, ?_⟩
  rw [← Int32.toInt_inj]
  show z.toInt = (Int32.ofNat z.toInt.toNat).toInt
  rw [Int32.toInt_ofNat_of_lt (by omega)]
  omega
theorem in_nat {z : Int32} {n : Nat} (hn : n < 2 ^ 31) (h : mm_in z (nI n) = true) : ∃ a, a < n ∧ z = nI a := by
  obtain ⟨h1, h2⟩ := mm_in_t h
  obtain ⟨a, ha, rfl⟩ := nn_nat h1
  exact ⟨a, Nat.lt_of_not_le (fun q => absurd h2 (nI_nlt q ha)), rfl⟩
theorem min_nat {z : Int32} (h : mm_min z = true) : ∃ a, a ≤ 1000000 ∧ z = nI a := by
  simp only [mm_min, Bool.and_eq_true, Bool.not_eq_true', decide_eq_false_iff_not] at h
  obtain ⟨a, ha, rfl⟩ := nn_nat h.1
  exact ⟨a, Nat.le_of_not_lt (fun q => h.2 (show nI 1000000 < nI a from nI_lt q ha)), rfl⟩
theorem sm_room (hl : l.flags = flags0) (Z : cr_Z0 s0 D ca e0) (S : sm_S s0 D ca e0 O H A y ad G w t) (ht : t < 3072) (z : Int32) : sm_Op l s0 D ca e0 O H A y ad G t 2 y_C_room cw_C_room [.int z] y_M_room cw_M_room [.int z] := by
  have S9 := S
  obtain ⟨hC, hR, hK, hO, hz9⟩ := S9
  have e : ∀ a b, a ≠ 0 → a < 39 → mm_up G 0 0 0 a b = G a b := fun a b h1 _ => mm_up_k _ _ _ _ h1
  have h0 := hC.of0 e
  have K0 := hK.of e
  have b2 := hK.2.2.1.2.1
  cases hz : mm_in z 10 with
  | false => exact sm_a Z S ht (Or.inl rfl) (j_C_room_a hl Z hC hz) (by decide) (by decide) (by decide) (fun H' h' => j_M_room_a hl Z h' hz) (by decide)
  | true =>
    obtain ⟨a, ha, rfl⟩ := in_nat (n := 10) (by decide) hz
    by_cases h2 : G 2 0 < 20
    · refine sm_mk (G' := mm_up (mm_up (mm_up G 0 0 0) 3 (G 2 0) a) 2 0 (G 2 0 + 1)) (code := 0) (r := nI (G 2 0)) rfl (by decide) (j_C_room_ok hl Z h0 ha h2 K0.2.2.1.r.1 K0.2.2.1.r.2.1 (fun i hi => (K0.2.2.1.r.2.2.2 i hi).2)) (by decide) (by decide) (by decide) (fun o H' q => ?_) (fun H' h' => j_M_room_ok hl Z h' ha h2) (by decide)
      obtain ⟨ea, q1, q2, q3⟩ := q
      exact ⟨q1, q3, _, _, w, q2, K_room K0 ht ha h2, fun q z => z, ad_A_old (by omega) (by omega)⟩
    · exact sm_a Z S ht (Or.inr rfl) (j_C_room_s hl Z hC hz (by omega) (by omega)) (by decide) (by decide) (by decide) (fun H' h' => j_M_room_s hl Z h' ha (by omega) (by omega)) (by decide)
theorem sm_person (hl : l.flags = flags0) (Z : cr_Z0 s0 D ca e0) (S : sm_S s0 D ca e0 O H A y ad G w t) (ht : t < 3072) (z : Int32) : sm_Op l s0 D ca e0 O H A y ad G t 2 y_C_person cw_C_person [.int z] y_M_person cw_M_person [.int z] := by
  have S9 := S
  obtain ⟨hC, hR, hK, hO, hz9⟩ := S9
  have e : ∀ a b, a ≠ 0 → a < 39 → mm_up G 0 0 0 a b = G a b := fun a b h1 _ => mm_up_k _ _ _ _ h1
  have h0 := hC.of0 e
  have K0 := hK.of e
  have hB9 := hK.2.2.1
  obtain ⟨b1, b2, b4, b16, b19, b22, -⟩ := hB9
  cases hz : mm_in z 10 with
  | false => exact sm_a Z S ht (Or.inl rfl) (j_C_person_a hl Z hC hz) (by decide) (by decide) (by decide) (fun H' h' => j_M_person_a hl Z h' hz) (by decide)
  | true =>
    obtain ⟨a, ha, rfl⟩ := in_nat (n := 10) (by decide) hz
    by_cases h16 : G 16 0 < 40
    · by_cases h2 : 0 < G 2 0
      · refine sm_mk (G' := mm_up (mm_up (mm_up G 0 0 0) 17 (G 16 0) a) 16 0 (G 16 0 + 1)) (code := 0) (r := nI (G 16 0)) rfl (by decide) (j_C_person_ok hl Z h0 ha h16 h2 b2 (K0.2.2.2.1.1 _ (Nat.le_refl _)) K0.2.2.1.r.2.2.1) (by decide) (by decide) (by decide) (fun o H' q => ?_) (fun H' h' => j_M_person_ok hl Z h' ha h16 h2 (by omega)) (by decide)
        obtain ⟨ea, q1, q2, q3⟩ := q
        exact ⟨q1, q3, _, _, w, q2, K_person K0 ht ha h16 h2, fun q z => z, ad_A_old (by omega) (by omega)⟩
      · exact sm_a Z S ht (Or.inr rfl) (j_C_person_t hl Z hC hz h16 (by omega)) (by decide) (by decide) (by decide) (fun H' h' => j_M_person_s hl Z h' ha (fun q => h2 q.2) (by omega)) (by decide)
    · exact sm_a Z S ht (Or.inr rfl) (j_C_person_s hl Z hC hz (by omega) b16) (by decide) (by decide) (by decide) (fun H' h' => j_M_person_s hl Z h' ha (fun q => h16 q.1) (by omega)) (by decide)
theorem sm_card (hl : l.flags = flags0) (Z : cr_Z0 s0 D ca e0) (S : sm_S s0 D ca e0 O H A y ad G w t) (ht : t < 3072) (p m : Int32) : sm_Op l s0 D ca e0 O H A y ad G t 2 y_C_card cw_C_card [.int p, .int m] y_M_card cw_M_card [.int p, .int m] := by
  have S9 := S
  obtain ⟨hC, hR, hK, hO, hz9⟩ := S9
  have e : ∀ a b, a ≠ 0 → a < 39 → mm_up G 0 0 0 a b = G a b := fun a b h1 _ => mm_up_k _ _ _ _ h1
  have h0 := hC.of0 e
  have K0 := hK.of e
  have hB9 := hK.2.2.1
  obtain ⟨b1, b2, b4, b16, b19, b22, b28, b32, b34, bt, -⟩ := hB9
  cases hp : mm_in p (nI (G 16 0)) with
  | false => exact sm_a Z S ht (Or.inl rfl) (j_C_card_a hl Z hC b16 hp) (by decide) (by decide) (by decide) (fun H' h' => j_M_card_a hl Z h' (fun q => by rw [hp] at q; exact absurd q.1 (by decide))) (by decide)
  | true =>
    obtain ⟨a, ha, rfl⟩ := in_nat (by omega) hp
    cases hm : mm_min m with
    | false => exact sm_a Z S ht (Or.inl rfl) (j_C_card_b hl Z hC b16 ha hm) (by decide) (by decide) (by decide) (fun H' h' => j_M_card_a hl Z h' (fun q => by rw [hm] at q; exact absurd q.2 (by decide))) (by decide)
    | true =>
      obtain ⟨k, hk, rfl⟩ := min_nat hm
      by_cases h19 : G 19 0 < 60
      · refine sm_mk (G' := ca_T (mm_up G 0 0 0) a k) (code := 0) (r := nI (G 19 0)) rfl (by decide) (j_C_card_ok hl Z h0 K0.2.2.1.r ha b16 hk h19) (by decide) (by decide) (by decide) (fun o H' q => ?_) (fun H' h' => j_M_card_ok hl Z h' ha (by omega) hk h19 (by omega)) (by decide)
        obtain ⟨ea, q1, q2, q3⟩ := q
        exact ⟨q1, q3, _, _, _, q2, K_card K0 ht ha hk h19, fun q z => z, ad_A_old (by omega) (by omega)⟩
      · exact sm_a Z S ht (Or.inr rfl) (j_C_card_s hl Z hC b16 ha hm (by omega) b19) (by decide) (by decide) (by decide) (fun H' h' => j_M_card_s hl Z h' ha (by omega) hk (by omega) (by omega)) (by decide)
theorem sm_right (hl : l.flags = flags0) (Z : cr_Z0 s0 D ca e0) (S : sm_S s0 D ca e0 O H A y ad G w t) (ht : t < 3072) (g z f o m : Int32) : sm_Op l s0 D ca e0 O H A y ad G t 2 y_C_right cw_C_right [.int g, .int z, .int f, .int o, .int m] y_M_right cw_M_right [.int g, .int z, .int f, .int o, .int m] := by
  have S9 := S
  obtain ⟨hC, hR, hK, hO, hz9⟩ := S9
  have e : ∀ a b, a ≠ 0 → a < 39 → mm_up G 0 0 0 a b = G a b := fun a b h1 _ => mm_up_k _ _ _ _ h1
  have h0 := hC.of0 e
  have K0 := hK.of e
  have hB9 := hK.2.2.1
  obtain ⟨b1, b2, b4, b16, b19, b22, b28, b32, b34, bt, -⟩ := hB9
  cases hg : mm_in g 10 with
  | false => exact sm_a Z S ht (Or.inl rfl) (j_C_right_a hl Z hC hg) (by decide) (by decide) (by decide) (fun H' h' => j_M_right_a hl Z h' (fun q => by rw [hg] at q; exact absurd q.1 (by decide))) (by decide)
  | true =>
    cases hz : mm_in z 10 with
    | false => exact sm_a Z S ht (Or.inl rfl) (j_C_right_b hl Z hC hg hz) (by decide) (by decide) (by decide) (fun H' h' => j_M_right_a hl Z h' (fun q => by rw [hz] at q; exact absurd q.2.1 (by decide))) (by decide)
    | true =>
      cases hf : mm_in f 1440 with
      | false => exact sm_a Z S ht (Or.inl rfl) (j_C_right_c hl Z hC hg hz hf) (by decide) (by decide) (by decide) (fun H' h' => j_M_right_a hl Z h' (fun q => by rw [hf] at q; exact absurd q.2.2.1 (by decide))) (by decide)
      | true =>
        cases ho : mm_in o 1440 with
        | false => exact sm_a Z S ht (Or.inl rfl) (j_C_right_d hl Z hC hg hz hf ho) (by decide) (by decide) (by decide) (fun H' h' => j_M_right_a hl Z h' (fun q => by rw [ho] at q; exact absurd q.2.2.2.1 (by decide))) (by decide)
        | true =>
          cases hm : mm_min m with
          | false => exact sm_a Z S ht (Or.inl rfl) (j_C_right_e hl Z hC hg hz hf ho hm) (by decide) (by decide) (by decide) (fun H' h' => j_M_right_a hl Z h' (fun q => by rw [hm] at q; exact absurd q.2.2.2.2 (by decide))) (by decide)
          | true =>
            have hg' := hg
            have hz' := hz
            have hf' := hf
            have ho' := ho
            obtain ⟨g', h1, rfl⟩ := in_nat (n := 10) (by decide) hg
            obtain ⟨z', h2, rfl⟩ := in_nat (n := 10) (by decide) hz
            obtain ⟨f', h3, rfl⟩ := in_nat (n := 1440) (by decide) hf
            obtain ⟨o', h4, rfl⟩ := in_nat (n := 1440) (by decide) ho
            obtain ⟨m', h5, rfl⟩ := min_nat hm
            by_cases h22 : G 22 0 < 16
            · refine sm_mk (G' := ri_T (mm_up G 0 0 0) g' z' f' o' m') (code := 0) (r := nI (G 22 0)) rfl (by decide) (j_C_right_ok hl Z h0 K0.2.2.1.r h1 h2 h3 h4 h5 h22) (by decide) (by decide) (by decide) (fun o H' q => ?_) (fun H' h' => j_M_right_ok hl Z h' h1 h2 h3 h4 h5 h22 (by omega)) (by decide)
              obtain ⟨ea, q1, q2, q3⟩ := q
              exact ⟨q1, q3, _, _, _, q2, K_right K0 ht h1 h2 h3 h4 h5 h22, fun q z => z, ad_A_old (by omega) (by omega)⟩
            · exact sm_a Z S ht (Or.inr rfl) (j_C_right_s hl Z hC hg' hz' hf' ho' hm (by omega) b22) (by decide) (by decide) (by decide) (fun H' h' => j_M_right_s hl Z h' h1 h2 h3 h4 h5 (by omega) (by omega)) (by decide)
theorem sm_door (hl : l.flags = flags0) (Z : cr_Z0 s0 D ca e0) (S : sm_S s0 D ca e0 O H A y ad G w t) (ht : t < 3072) (p q : Int32) : sm_Op l s0 D ca e0 O H A y ad G t 2 y_C_door cw_C_door [.int p, .int q] y_M_door cw_M_door [.int p, .int q] := by
  have S9 := S
  obtain ⟨hC, hR, hK, hO, hz9⟩ := S9
  have e : ∀ a b, a ≠ 0 → a < 39 → mm_up G 0 0 0 a b = G a b := fun a b h1 _ => mm_up_k _ _ _ _ h1
  have h0 := hC.of0 e
  have K0 := hK.of e
  have hB9 := hK.2.2.1
  obtain ⟨b1, b2, b4, b16, b19, b22, b28, b32, b34, bt, -⟩ := hB9
  cases hp : mm_in p (nI (G 2 0)) with
  | false => exact sm_a Z S ht (Or.inl rfl) (j_C_door_a hl Z hC b2 hp) (by decide) (by decide) (by decide) (fun H' h' => j_M_door_a hl Z h' (fun q => by rw [hp] at q; exact absurd q.1 (by decide))) (by decide)
  | true =>
    obtain ⟨a, ha, rfl⟩ := in_nat (by omega) hp
    cases hq : mm_in q (nI (G 2 0)) with
    | false => exact sm_a Z S ht (Or.inl rfl) (j_C_door_b hl Z hC b2 ha hq) (by decide) (by decide) (by decide) (fun H' h' => j_M_door_a hl Z h' (fun q => by rw [hq] at q; exact absurd q.2.1 (by decide))) (by decide)
    | true =>
      obtain ⟨b, hb, rfl⟩ := in_nat (by omega) hq
      by_cases hab : a = b
      · subst hab
        exact sm_a Z S ht (Or.inl rfl) (j_C_door_c hl Z hC b2 ha) (by decide) (by decide) (by decide) (fun H' h' => j_M_door_a hl Z h' (fun q => q.2.2 rfl)) (by decide)
      · by_cases h4 : G 4 0 < 30
        · obtain ⟨z7, z8, z9, z12⟩ := K0.2.2.2.1.2.1 (G 4 0) (Nat.le_refl _)
          refine sm_mk (G' := dr_G (mm_up G 0 0 0) a b) (code := 0) (r := nI (G 4 0)) rfl (by decide) (j_C_door_ok hl Z h0 K0.2.2.1.r ha hb hab b2 h4 z7 z8 z9 z12) (by decide) (by decide) (by decide) (fun o H' q => ?_) (fun H' h' => j_M_door_ok hl Z h' ha hb hab (by omega) h4) (by decide)
          obtain ⟨ea, g1, g2, -, -, q1, q2, q3⟩ := q
          exact ⟨q1, q3, _, _, _, q2, K_door K0 ht ha hb hab h4, fun q z => z, rfl⟩
        · exact sm_a Z S ht (Or.inr rfl) (j_C_door_s hl Z hC b2 ha hb hab (by omega) b4) (by decide) (by decide) (by decide) (fun H' h' => j_M_door_s hl Z h' ha hb hab (by omega) (by omega) (by omega)) (by decide)
theorem sm_end (hl : l.flags = flags0) (Z : cr_Z0 s0 D ca e0) (S : sm_S s0 D ca e0 O H A y ad G w t) (ht : t < 3072) (p m : Int32) : sm_Op l s0 D ca e0 O H A y ad G t 1 y_C_end cw_C_end [.int p, .int m] y_M_end cw_M_end [.int p, .int m] := by
  have S9 := S
  obtain ⟨hC, hR, hK, hO, hz9⟩ := S9
  have e : ∀ a b, a ≠ 0 → a < 39 → mm_up G 0 0 0 a b = G a b := fun a b h1 _ => mm_up_k _ _ _ _ h1
  have h0 := hC.of0 e
  have K0 := hK.of e
  have hB9 := hK.2.2.1
  obtain ⟨b1, b2, b4, b16, b19, b22, b28, b32, b34, bt, b3, b5, b11, b12, b13, b18, b20, b23, b31, b29, b33⟩ := hB9
  cases hp : mm_in p (nI (G 22 0)) with
  | false => exact sm_a Z S ht (Or.inl rfl) (j_C_end_a hl Z hC b22 hp) (by decide) (by decide) (by decide) (fun H' h' => j_M_end_a hl Z h' (fun q => by rw [hp] at q; exact absurd q.1 (by decide))) (by decide)
  | true =>
    obtain ⟨a, ha, rfl⟩ := in_nat (by omega) hp
    cases hm : mm_min m with
    | false => exact sm_a Z S ht (Or.inl rfl) (j_C_end_b hl Z hC b22 ha hm) (by decide) (by decide) (by decide) (fun H' h' => j_M_end_a hl Z h' (fun q => by rw [hm] at q; exact absurd q.2 (by decide))) (by decide)
    | true =>
      obtain ⟨k, hk, rfl⟩ := min_nat hm
      refine sm_mk (G' := mm_tl (mm_up G 0 0 0) 2 a k) (code := 0) (r := w.2.2.1 0 a) rfl (by decide) (j_C_end_ok hl Z h0 b22 ha hk) (by decide) (by decide) (by decide) (fun o H' q => ?_) (fun H' h' => ?_) (dM := 1) (by decide)
      · obtain ⟨q1, q2, q3⟩ := q
        exact ⟨q1, q3, _, _, _, q2, K_end K0 ht (by omega) hk, fun q z => Or.inl z, rfl⟩
      · rw [if_pos rfl, hK.1.2.2.1.2.2.2.2.2 a (by omega)]
        exact j_M_end_ok hl Z h' ha (by omega) hk (by omega) (fun t _ => ⟨by have := (b29 t).1; omega, by have := (b29 t).2; omega⟩)
theorem sm_lost (hl : l.flags = flags0) (Z : cr_Z0 s0 D ca e0) (S : sm_S s0 D ca e0 O H A y ad G w t) (ht : t < 3072) (p m : Int32) : sm_Op l s0 D ca e0 O H A y ad G t 1 y_C_lost cw_C_lost [.int p, .int m] y_M_lost cw_M_lost [.int p, .int m] := by
  have S9 := S
  obtain ⟨hC, hR, hK, hO, hz9⟩ := S9
  have e : ∀ a b, a ≠ 0 → a < 39 → mm_up G 0 0 0 a b = G a b := fun a b h1 _ => mm_up_k _ _ _ _ h1
  have h0 := hC.of0 e
  have K0 := hK.of e
  have hB9 := hK.2.2.1
  obtain ⟨b1, b2, b4, b16, b19, b22, b28, b32, b34, bt, b3, b5, b11, b12, b13, b18, b20, b23, b31, b29, b33⟩ := hB9
  cases hp : mm_in p (nI (G 19 0)) with
  | false => exact sm_a Z S ht (Or.inl rfl) (j_C_lost_a hl Z hC b19 hp) (by decide) (by decide) (by decide) (fun H' h' => j_M_lost_a hl Z h' (fun q => by rw [hp] at q; exact absurd q.1 (by decide))) (by decide)
  | true =>
    obtain ⟨a, ha, rfl⟩ := in_nat (by omega) hp
    cases hm : mm_min m with
    | false => exact sm_a Z S ht (Or.inl rfl) (j_C_lost_b hl Z hC b19 ha hm) (by decide) (by decide) (by decide) (fun H' h' => j_M_lost_a hl Z h' (fun q => by rw [hm] at q; exact absurd q.2 (by decide))) (by decide)
    | true =>
      obtain ⟨k, hk, rfl⟩ := min_nat hm
      refine sm_mk (G' := mm_tl (mm_up G 0 0 0) 3 a k) (code := 0) (r := w.2.1 0 a) rfl (by decide) (j_C_lost_ok hl Z h0 b19 ha hk) (by decide) (by decide) (by decide) (fun o H' q => ?_) (fun H' h' => ?_) (dM := 1) (by decide)
      · obtain ⟨q1, q2, q3⟩ := q
        exact ⟨q1, q3, _, _, _, q2, K_lost K0 ht (by omega) hk, fun q z => Or.inl z, rfl⟩
      · rw [if_pos rfl, hK.1.2.2.1.2.2.2.2.1 a (by omega)]
        exact j_M_lost_ok hl Z h' ha (by omega) hk (by omega) (fun t _ => ⟨by have := (b29 t).1; omega, by have := (b29 t).2; omega⟩)
end SIM
