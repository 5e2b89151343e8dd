/-! All that is known of the numbers, and that it stays -/
def sm_K (G : mm_G) (w : cc_W) (t : Nat) : Prop := cc_M G w ∧ cc_A G w ∧ cc_B G t ∧ cc_Z G ∧ cc_T G w
section KEE
variable {G G' G1 : mm_G} {w w' : cc_W} {t : Nat}
theorem cc_Z_of (hZ : cc_Z G) (e : ∀ a b, a ≠ 0 → a < 39 → G' a b = G a b) : cc_Z G' := by
  unfold cc_Z
  simp only [e 16 _ (by decide) (by decide), e 18 _ (by decide) (by decide), e 4 _ (by decide) (by decide), e 7 _ (by decide) (by decide), e 8 _ (by decide) (by decide), e 9 _ (by decide) (by decide), e 12 _ (by decide) (by decide), e 11 _ (by decide) (by decide)]
  exact hZ
theorem sm_K.of (h : sm_K G w t) (e : ∀ a b, a ≠ 0 → a < 39 → G' a b = G a b) : sm_K G' w t := ⟨cc_M_of h.1 (fun a b q => e a b (by omega) (by omega)), cc_A_of h.2.1 (e 4 0 (by decide) (by decide)) (fun q => e 11 q (by decide) (by decide)) rfl, cc_B_of h.2.2.1 e, cc_Z_of h.2.2.2.1 e, cc_T_of h.2.2.2.2 (fun a b q => e a b (by omega) (by omega)) rfl⟩
theorem sm_K.st (h : sm_K G w t) (ht : t < 3072) : sm_K G w (t + 1) := ⟨h.1, h.2.1, cc_B_st h.2.2.1 ht, h.2.2.2⟩
theorem K_room {z : Nat} (h : sm_K G w t) (ht : t < 3072) (hz : z < 10) (h2 : G 2 0 < 20) : sm_K (mm_up (mm_up G 3 (G 2 0) z) 2 0 (G 2 0 + 1)) w (t + 1) := by
  obtain ⟨hM, hA, hB, hZ, hT⟩ := h
  exact ⟨cc_M_of hM (fun a b q => by rw [mm_up_k _ _ _ _ (by omega), mm_up_k _ _ _ _ (by omega)]), hA, B_room hB ht hz h2, hZ, hT⟩
theorem K_person {g : Nat} (h : sm_K G w t) (ht : t < 3072) (hg : g < 10) (h16 : G 16 0 < 40) (h2 : 0 < G 2 0) : sm_K (mm_up (mm_up G 17 (G 16 0) g) 16 0 (G 16 0 + 1)) w (t + 1) := by
  obtain ⟨hM, hA, hB, hZ, hT⟩ := h
  refine ⟨cc_M_of hM (fun a b q => by rw [mm_up_k _ _ _ _ (by omega), mm_up_k _ _ _ _ (by omega)]), hA, B_person hB ht hg h16 h2 (hZ.1 _ (Nat.le_refl _)), ⟨fun q hq => ?_, hZ.2⟩, hT⟩
  rw [mm_up_s] at hq
  exact hZ.1 q (by omega)
theorem K_card {p m : Nat} (h : sm_K G w t) (ht : t < 3072) (hp : p < G 16 0) (hm : m ≤ 1000000) (h19 : G 19 0 < 60) : sm_K (ca_T G p m) (w_k w (G 19 0 + 1) (w.1 1 0)) (t + 1) := by
  obtain ⟨hM, hA, hB, hZ, hT⟩ := h
  have e : ∀ a b, a ≠ 19 → a ≠ 20 → a ≠ 21 → a < 28 ∨ 31 < a → ca_T G p m a b = G a b := fun a b h1 h2 h3 h4 => (ca_T_k (by omega) (by omega) (by omega) (by omega)).trans (ca_G_k h1 h2 h3)
  obtain ⟨q1, q2⟩ := M_card (p := p) hM hT hB hm h19
  refine ⟨q1, cc_A_of hA (e 4 0 (by decide) (by decide) (by decide) (by decide)) (fun q => e 11 q (by decide) (by decide) (by decide) (by decide)) rfl, B_card hB ht hp hm h19, ?_, q2⟩
  unfold cc_Z
  simp only [e 16 _ (by decide) (by decide) (by decide) (by decide), e 18 _ (by decide) (by decide) (by decide) (by decide), e 4 _ (by decide) (by decide) (by decide) (by decide), e 7 _ (by decide) (by decide) (by decide) (by decide), e 8 _ (by decide) (by decide) (by decide) (by decide), e 9 _ (by decide) (by decide) (by decide) (by decide), e 12 _ (by decide) (by decide) (by decide) (by decide), e 11 _ (by decide) (by decide) (by decide) (by decide)]
  exact hZ
theorem K_right {g z f o s9 : Nat} (h : sm_K G w t) (ht : t < 3072) (hg : g < 10) (hz : z < 10) (hf : f < 1440) (ho : o < 1440) (hm : s9 ≤ 1000000) (h22 : G 22 0 < 16) : sm_K (ri_T G g z f o s9) (w_k w (w.1 0 0) (G 22 0 + 1)) (t + 1) := by
  obtain ⟨hM, hA, hB, hZ, hT⟩ := h
  have e : ∀ a b, (a < 22 ∨ 27 < a) → a < 28 ∨ 31 < a → ri_T G g z f o s9 a b = G a b := fun a b h1 h4 => (ri_T_k (by omega) (by omega) (by omega) (by omega)).trans (ri_G_k (by omega) (by omega) (by omega) (by omega) (by omega) (by omega))
  obtain ⟨q1, q2⟩ := M_right (g := g) (z := z) (f := f) (o := o) hM hT hB hm h22
  refine ⟨q1, cc_A_of hA (e 4 0 (by decide) (by decide)) (fun q => e 11 q (by decide) (by decide)) rfl, B_right hB ht hg hz hf ho hm h22, ?_, q2⟩
  unfold cc_Z
  simp only [e 16 _ (by decide) (by decide), e 18 _ (by decide) (by decide), e 4 _ (by decide) (by decide), e 7 _ (by decide) (by decide), e 8 _ (by decide) (by decide), e 9 _ (by decide) (by decide), e 12 _ (by decide) (by decide), e 11 _ (by decide) (by decide)]
  exact hZ
theorem K_door {a b : Nat} {g1 g2 : Nat → Int32} (h : sm_K G w t) (ht : t < 3072) (ha : a < G 2 0) (hb : b < G 2 0) (hab : a ≠ b) (h4 : G 4 0 < 30) : sm_K (dr_G G a b) (w_d w (G 4 0) g1 g2) (t + 1) := by
  obtain ⟨hM, hA, hB, hZ, hT⟩ := h
  obtain ⟨q1, q2, q3⟩ := M_door (a := a) (b := b) (g1 := g1) (g2 := g2) hM hT hA hZ h4
  refine ⟨q1, q3, B_door hB ht hZ ha hb hab h4, ?_, q2⟩
  have e : ∀ k i, k ≠ 4 → k ≠ 5 → k ≠ 6 → k ≠ 10 → dr_G G a b k i = G k i := fun k i h1 h2 h3 h4 => dr_G_k h1 h2 h3 h4
  refine ⟨hZ.1, fun q hq => ?_, fun d k hdk hk => ?_⟩
  · rw [dr_G_4] at hq
    exact hZ.2.1 q (by omega)
  · rw [dr_G_4] at hdk
    exact hZ.2.2 d k (by omega) hk
theorem K_end {r m : Nat} (h : sm_K G w t) (ht : t < 3072) (hr : r < 16) (hm : m ≤ 1000000) : sm_K (mm_tl G 2 r m) (w_e w r (nI m)) (t + 1) := by
  obtain ⟨hM, hA, hB, hZ, hT⟩ := h
  have hB9 := hB
  obtain ⟨b1, b2, b4, b16, b19, b22, b28, b32, b34, bt, b3, b5, -⟩ := hB9
  exact ⟨cc_M_end hM (by omega) (fun d hd hne => (((b5 d hd).2.2.2.2.2.2.1).resolve_left hne)), hA, B_tl hB ht (by decide) (by omega) hm, hZ, cc_T_tl hT (by decide) rfl⟩
theorem K_lost {r m : Nat} (h : sm_K G w t) (ht : t < 3072) (hr : r < 60) (hm : m ≤ 1000000) : sm_K (mm_tl G 3 r m) (w_l w r (nI m)) (t + 1) := by
  obtain ⟨hM, hA, hB, hZ, hT⟩ := h
  have hB9 := hB
  obtain ⟨b1, b2, b4, b16, b19, b22, b28, b32, b34, bt, b3, b5, -⟩ := hB9
  exact ⟨cc_M_lost hM (by omega) (fun d hd hne => (((b5 d hd).2.2.2.2.2.2.1).resolve_left hne)), hA, B_tl hB ht (by decide) hr hm, hZ, cc_T_tl hT (by decide) rfl⟩
theorem K_two {d o : Nat} (h : sm_K G w t) (ht : t < 3072) (hd : d < G 4 0) (ho : o < 2) : sm_K (mm_up G 7 d o) w (t + 1) := by
  obtain ⟨hM, hA, hB, hZ, hT⟩ := h
  refine ⟨cc_M_of hM (fun a b q => mm_up_k _ _ _ _ (by omega)), hA, B_two hB ht ho, ⟨hZ.1, fun q hq => ?_, hZ.2.2⟩, hT⟩
  have hq2 : G 4 0 ≤ q := hq
  obtain ⟨z7, z⟩ := hZ.2.1 q hq
  refine ⟨?_, z⟩
  rw [mm_up_i _ _ _ _ (by omega)]
  exact z7
theorem K_air {a b o : Nat} (h : sm_K G w t) (ht : t < 3072) (ha : a < G 4 0) (hb : b < G 4 0) (hab : a ≠ b) (ho : o < 2) : sm_K (mm_up (mm_up G 11 (30 * a + b) o) 11 (30 * b + a) o) (w_al w a b o) (t + 1) := by
  obtain ⟨hM, hA, hB, hZ, hT⟩ := h
  have h4 := hB.2.2.1
  refine ⟨M_air hM hA ha hb hab h4 ho, A_air hA ha hb hab h4 ho, B_air hB ht ho, ⟨hZ.1, hZ.2.1, fun d k hdk hk => ?_⟩, hT⟩
  have hdk2 : G 4 0 ≤ d ∨ G 4 0 ≤ k := hdk
  rw [mm_up_i _ _ _ _ (by omega), mm_up_i _ _ _ _ (by omega)]
  exact hZ.2.2 d k hdk hk
theorem K_state {d o m : Nat} (h : sm_K G w t) (ht : t < 3072) (hd : d < G 4 0) (ho : o < 2) (hm : m ≤ 1000000) (hn : G 1 0 ≤ m) : sm_K (mm_up (mm_up (mm_up G 1 0 m) 9 d (if G 8 d = o then G 9 d else m)) 8 d o) w (t + 1) := by
  obtain ⟨hM, hA, hB, hZ, hT⟩ := h
  refine ⟨cc_M_of hM (fun a b q => by rw [mm_up_k _ _ _ _ (by omega), mm_up_k _ _ _ _ (by omega), mm_up_k _ _ _ _ (by omega)]), hA, B_state hB ht ho hm hn, ⟨hZ.1, fun q hq => ?_, hZ.2.2⟩, hT⟩
  have hq2 : G 4 0 ≤ q := hq
  obtain ⟨z7, z8, z9, z12⟩ := hZ.2.1 q hq
  refine ⟨z7, ?_, ?_, z12⟩
  · rw [mm_up_i _ _ _ _ (by omega)]
    exact z8
  · rw [mm_up_k _ _ _ _ (by decide), mm_up_i _ _ _ _ (by omega)]
    exact z9
theorem K_offon {d : Nat} (h : sm_K G w t) (ht : t < 3072) (hd : d < G 4 0) (hon : G 10 d = 9000) : sm_K (mm_up G 10 d (G 28 0)) (w_c w d) (t + 1) := by
  obtain ⟨hM, hA, hB, hZ, hT⟩ := h
  obtain ⟨q1, q2⟩ := M_offon hM hT hB hd
  exact ⟨q1, hA, B_offon hB ht hon, hZ, q2⟩
/-- the rows gone through -/
theorem ol_all {d n0 : Nat} (hp : ∀ q, q < n0 → G 20 (G 13 (50 * d + q)) < G 16 0) (hro : ∀ q, q < n0 → G 14 (50 * d + q) < G 2 0) : ∀ (j k : Nat) (G1 : mm_G), k + j ≤ n0 → go_E G G1 → (∀ i, i < G 16 0 → G1 18 i < G 2 0) → (∀ i, G 16 0 ≤ i → G1 18 i = 0) → go_E G (mm_ol d k j G1) ∧ (∀ i, i < G 16 0 → mm_ol d k j G1 18 i < G 2 0) ∧ (∀ i, G 16 0 ≤ i → mm_ol d k j G1 18 i = 0) ∧ mm_ol d k j G1 34 0 ≤ G1 34 0 + j
  | 0, k, G1, _, hE, h1, h2 => ⟨hE, h1, h2, Nat.le_refl _⟩
  | j + 1, k, G1, hk, hE, h1, h2 => by
    have e13 := hE 13 (50 * d + k) (by decide) (by decide)
    have e14 := hE 14 (50 * d + k) (by decide) (by decide)
    have e20 := hE 20 (G 13 (50 * d + k)) (by decide) (by decide)
    obtain ⟨a1, a2, a3, a4⟩ := ol_all hp hro j (k + 1) (mm_os G1 d k) (by omega) hE.st (fun i hi => by
      rw [os_18, e14]
      split
      · exact hro k (by omega)
      · exact h1 i hi) (fun i hi => by
      rw [os_18, e13, e20, if_neg (by have := hp k (by omega); omega)]
      exact h2 i hi)
    refine ⟨a1, a2, a3, Nat.le_trans a4 ?_⟩
    have := mm_os_34 G1 d k
    omega
theorem K_offoff {d : Nat} (h : sm_K G w t) (ht : t < 3072) (hd : d < G 4 0) (hF : cc_F (mm_ol d 0 (G 12 d) G) w') (hw : w'.1 = w.1 ∧ w'.2.1 = w.2.1 ∧ w'.2.2.1 = w.2.2.1 ∧ w'.2.2.2.2 = w.2.2.2.2) : sm_K (mm_up (mm_up (mm_ol d 0 (G 12 d) G) 12 d 0) 10 d 9000) w' (t + 1) := by
  obtain ⟨hM, hA, hB, hZ, hT⟩ := h
  have hr := hB.r
  have h34 := hB.2.2.2.2.2.2.2.2.1
  have hd50 := (hB.2.2.2.2.2.2.2.2.2.2.2.1 d hd).2.2.2.2.2.2.2.1
  have hl13 : ∀ q, q < G 12 d → cc_l G 13 (50 * d + q) := fun q hq => by
    have q9 : (50 * d + q) / 50 < G 4 0 ∧ (50 * d + q) % 50 < G 12 ((50 * d + q) / 50) := by
      rw [show (50 * d + q) / 50 = d by omega]
      omega
    exact q9
  obtain ⟨hE, h18, h18z, hc34⟩ := ol_all (G := G) (d := d) (n0 := G 12 d) (fun q hq => hr.2.2.1 _ (hr.2.2.2 _ (hl13 q hq)).1) (fun q hq => (hr.2.2.2 _ (hl13 q hq)).2) (G 12 d) 0 G (by omega) (fun _ _ _ _ => rfl) hr.2.1 hZ.1
  generalize mm_ol d 0 (G 12 d) G = GL at hF hE h18 h18z hc34
  have e : ∀ a b, a ≠ 18 → a ≠ 12 → a ≠ 10 → a < 34 → mm_up (mm_up GL 12 d 0) 10 d 9000 a b = G a b := fun a b h1 h2 h3 h4 => by rw [mm_up_k _ _ _ _ h3, mm_up_k _ _ _ _ h2, hE a b h1 (Or.inl h4)]
  have e12 : ∀ j, mm_up (mm_up GL 12 d 0) 10 d 9000 12 j = if j = d then 0 else G 12 j := fun j => by rw [mm_up_k _ _ _ _ (by decide), mm_up_at, hE 12 j (by decide) (by decide)]
  have e10 : ∀ j, mm_up (mm_up GL 12 d 0) 10 d 9000 10 j = if j = d then 9000 else G 10 j := fun j => by rw [mm_up_at, mm_up_k _ _ _ _ (by decide), hE 10 j (by decide) (by decide)]
  have e18 : ∀ j, mm_up (mm_up GL 12 d 0) 10 d 9000 18 j = GL 18 j := fun j => by rw [mm_up_k _ _ _ _ (by decide), mm_up_k _ _ _ _ (by decide)]
  have eh : ∀ a b, 34 ≤ a → mm_up (mm_up GL 12 d 0) 10 d 9000 a b = GL a b := fun a b h1 => by rw [mm_up_k _ _ _ _ (by omega), mm_up_k _ _ _ _ (by omega)]
  generalize mm_up (mm_up GL 12 d 0) 10 d 9000 = G2 at e e12 e10 e18 eh ⊢
  obtain ⟨m1, m2, m3, m4, m5, m6, m7⟩ := hM
  have e19 := e 19 0 (by decide) (by decide) (by decide) (by decide)
  have e22 := e 22 0 (by decide) (by decide) (by decide) (by decide)
  have e4 := e 4 0 (by decide) (by decide) (by decide) (by decide)
  have et : ∀ a b, 28 ≤ a → a ≤ 31 → G2 a b = G a b := fun a b h1 h2 => e a b (by omega) (by omega) (by omega) (by omega)
  have wa : w'.2.2.2.2.2.2.2 = w.2.2.2.2.2.2.2 := by rw [hw.2.2.2]
  have AA : cc_A G2 w' := cc_A_of hA e4 (fun q => e 11 q (by decide) (by decide) (by decide) (by decide)) wa
  refine ⟨⟨by rw [e19, hw.1]; exact m1, by rw [e22, hw.1]; exact m2, cc_k_of m3 et e19 e22 (by rw [hw.1]) (by rw [hw.1]) (by rw [hw.2.1]) (by rw [hw.2.2.1]), fun d' hd' hne => ?_, AA.five (by rw [e4]; exact hB.2.2.1), fun k q hk hk2 hq => ?_, cc_U_of m7 (e 32 0 (by decide) (by decide) (by decide) (by decide)) (fun q => e 33 q (by decide) (by decide) (by decide) (by decide)) (by rw [hw.2.2.2])⟩, AA, ?_, ⟨fun q hq => ?_, fun q hq => ?_, fun d' k hdk hk => ?_⟩, ?_⟩
  · rw [e4] at hd'
    rw [e10] at hne ⊢
    by_cases ed : d' = d
    · rw [if_pos ed] at hne
      exact absurd rfl hne
    · rw [if_neg ed] at hne ⊢
      exact cc_k_of (m4 d' hd' hne) et e19 e22 (by rw [hw.1]) (by rw [hw.1]) (by rw [hw.2.1]) (by rw [hw.2.2.1])
  · rw [eh 34 0 (by decide)] at hk2
    rw [eh (35 + q) k (by omega)]
    exact hF k q hk hk2 hq
  · obtain ⟨b1, b2, b4, b16, b19, b22, b28, b32, b34, bt, b3, b5, b11, b12, b13, b18, b20, b23, b31, b29, b33⟩ := cc_B_st hB ht
    unfold cc_B
    simp only [e 1 _ (by decide) (by decide) (by decide) (by decide), e 2 _ (by decide) (by decide) (by decide) (by decide), e 3 _ (by decide) (by decide) (by decide) (by decide), e4, e 5 _ (by decide) (by decide) (by decide) (by decide), e 6 _ (by decide) (by decide) (by decide) (by decide), e 7 _ (by decide) (by decide) (by decide) (by decide), e 8 _ (by decide) (by decide) (by decide) (by decide), e 9 _ (by decide) (by decide) (by decide) (by decide), e 11 _ (by decide) (by decide) (by decide) (by decide), e 13 _ (by decide) (by decide) (by decide) (by decide), e 14 _ (by decide) (by decide) (by decide) (by decide), e 15 _ (by decide) (by decide) (by decide) (by decide), e 16 _ (by decide) (by decide) (by decide) (by decide), e 17 _ (by decide) (by decide) (by decide) (by decide), e19, e 20 _ (by decide) (by decide) (by decide) (by decide), e 21 _ (by decide) (by decide) (by decide) (by decide), e22, e 23 _ (by decide) (by decide) (by decide) (by decide), e 24 _ (by decide) (by decide) (by decide) (by decide), e 25 _ (by decide) (by decide) (by decide) (by decide), e 26 _ (by decide) (by decide) (by decide) (by decide), e 27 _ (by decide) (by decide) (by decide) (by decide), e 28 _ (by decide) (by decide) (by decide) (by decide), e 29 _ (by decide) (by decide) (by decide) (by decide), e 30 _ (by decide) (by decide) (by decide) (by decide), e 31 _ (by decide) (by decide) (by decide) (by decide), e 32 _ (by decide) (by decide) (by decide) (by decide), e 33 _ (by decide) (by decide) (by decide) (by decide), eh 34 _ (by decide), e18]
    refine ⟨b1, b2, b4, b16, b19, b22, b28, b32, by omega, bt, b3, fun i hi => ?_, b11, fun q => ?_, fun d' j hd' hj => ?_, fun i hi => ⟨(b18 i hi).1, h18 i hi⟩, b20, b23, b31, b29, b33⟩
    · rw [e10, e12]
      obtain ⟨q1, q2, q3, q4, q5, q6, q7, q8, q9⟩ := b5 i hi
      by_cases ed : i = d
      · rw [if_pos ed, if_pos ed]
        exact ⟨q1, q2, q3, q4, q5, q6, Or.inl rfl, by decide, fun _ => rfl⟩
      · rw [if_neg ed, if_neg ed]
        exact ⟨q1, q2, q3, q4, q5, q6, q7, q8, q9⟩
    · rw [e12]
      split
      · exact Or.inl rfl
      · exact b12 q
    · rw [e12] at hj
      by_cases ed : d' = d
      · rw [if_pos ed] at hj
        exact absurd hj (Nat.not_lt_zero _)
      · rw [if_neg ed] at hj
        exact b13 d' j hd' hj
  · rw [e 16 0 (by decide) (by decide) (by decide) (by decide)] at hq
    rw [e18]
    exact h18z q hq
  · rw [e4] at hq
    rw [e 7 _ (by decide) (by decide) (by decide) (by decide), e 8 _ (by decide) (by decide) (by decide) (by decide), e 9 _ (by decide) (by decide) (by decide) (by decide), e12, if_neg (by omega)]
    exact hZ.2.1 q hq
  · rw [e4] at hdk
    rw [e 11 _ (by decide) (by decide) (by decide) (by decide)]
    exact hZ.2.2 d' k hdk hk
  · exact cc_T_of hT (fun a b q => e a b (by omega) (by omega) (by omega) (by omega)) hw.1
theorem lt_32 {c d room m : Nat} : mm_lt G c d room m 32 0 ≤ G 32 0 + 1 := by
  rw [mm_lt_ad (by decide) (by decide) (by decide) (by decide) (by decide)]
  cases (!mm_ex (mm_eu G (mm_u G c room m)) 0 (G 32 0)) with
  | false => exact Nat.le_succ _
  | true => exact Nat.le_of_eq (mm_up_s (mm_up G 33 (G 32 0) (mm_u G c room m)) 32 0 (G 32 0 + 1))
/-- one that is let in; the count of uses is given -/
theorem K_lt {c d room m : Nat} (h : sm_K G w t) (hc : c < G 19 0) (hd : d < G 4 0) (hrm : room < G 2 0) (hm : m ≤ 1000000) (hd5 : G 12 d < 50) (h32 : G 32 0 + 1 ≤ 2 * t) : sm_K (mm_lt G c d room m) (w_t G w c room m) t := by
  obtain ⟨hM, hA, hB, hZ, hT⟩ := h
  have hp := hB.r.2.2.1 c hc
  have e : ∀ k i, k ≠ 33 → k ≠ 32 → k ≠ 18 → k ≠ 13 → k ≠ 14 → k ≠ 15 → k ≠ 12 → mm_lt G c d room m k i = G k i := fun k i h1 h2 h3 h4 h5 h6 h7 => mm_lt_k h1 h2 h3 h4 h5 h6 h7
  have h17 := (hB.2.2.2.2.2.2.2.2.2.2.2.2.2.2.2.1 _ hp).1
  have h3 := hB.2.2.2.2.2.2.2.2.2.2.1 room hrm
  have h33 := hB.2.2.2.2.2.2.2.2.2.2.2.2.2.2.2.2.2.2.2.2
  refine ⟨cc_M_us hM (fun a b q => e a b (by omega) (by omega) (by omega) (by omega) (by omega) (by omega) (by omega)) (cc_U_lt hM.2.2.2.2.2.2 h17 h3 h33) rfl rfl rfl rfl rfl, cc_A_of hA (e 4 0 (by decide) (by decide) (by decide) (by decide) (by decide) (by decide) (by decide)) (fun q => e 11 q (by decide) (by decide) (by decide) (by decide) (by decide) (by decide) (by decide)) rfl, cc_B_lt hB hc hd hrm hm hd5 h32, ⟨fun q hq => ?_, fun q hq => ?_, fun d' k hdk hk => ?_⟩, cc_T_of hT (fun a b q => e a b (by omega) (by omega) (by omega) (by omega) (by omega) (by omega) (by omega)) rfl⟩
  · rw [e 16 0 (by decide) (by decide) (by decide) (by decide) (by decide) (by decide) (by decide)] at hq
    have hz := hZ.1 q hq
    unfold mm_lt mm_le
    split
    · rw [mm_up_i _ _ _ _ (by omega), ad_k (by decide) (by decide)]
      exact hz
    · rw [mm_up_k _ _ _ _ (by decide), mm_up_k _ _ _ _ (by decide), mm_up_k _ _ _ _ (by decide), mm_up_k _ _ _ _ (by decide), ad_k (by decide) (by decide)]
      exact hz
  · rw [e 4 0 (by decide) (by decide) (by decide) (by decide) (by decide) (by decide) (by decide)] at hq
    obtain ⟨z7, z8, z9, z12⟩ := hZ.2.1 q hq
    rw [e 7 _ (by decide) (by decide) (by decide) (by decide) (by decide) (by decide) (by decide), e 8 _ (by decide) (by decide) (by decide) (by decide) (by decide) (by decide) (by decide), e 9 _ (by decide) (by decide) (by decide) (by decide) (by decide) (by decide) (by decide)]
    refine ⟨z7, z8, z9, ?_⟩
    unfold mm_lt mm_le
    split
    · rw [mm_up_k _ _ _ _ (by decide), ad_k (by decide) (by decide)]
      exact z12
    · rw [mm_up_i _ _ _ _ (by omega), mm_up_k _ _ _ _ (by decide), mm_up_k _ _ _ _ (by decide), mm_up_k _ _ _ _ (by decide), ad_k (by decide) (by decide)]
      exact z12
  · rw [e 4 0 (by decide) (by decide) (by decide) (by decide) (by decide) (by decide) (by decide)] at hdk
    rw [e 11 _ (by decide) (by decide) (by decide) (by decide) (by decide) (by decide) (by decide)]
    exact hZ.2.2 d' k hdk hk
theorem K_now {m : Nat} (h : sm_K G w t) (hm : m ≤ 1000000) (hn : G 1 0 ≤ m) : sm_K (mm_up G 1 0 m) w t := by
  obtain ⟨hM, hA, hB, hZ, hT⟩ := h
  exact ⟨cc_M_of hM (fun a b q => mm_up_k _ _ _ _ (by omega)), hA, cc_B_now hB hm hn, hZ, hT⟩
theorem K_asks {c d room m : Nat} (h : sm_K G w t) (ht : t < 3072) (hc : c < G 19 0) (hd : d < G 4 0) (hrm : room < G 2 0) (hm : m ≤ 1000000) (hn : G 1 0 ≤ m) (hd5 : G 12 d < 50) : sm_K (mm_ag (mm_up G 1 0 m) c d room m) (w_a (mm_up G 1 0 m) w c d room m) (t + 1) := by
  have h1 := (K_now h hm hn).st ht
  have b32 := h.2.2.1.2.2.2.2.2.2.2.1
  unfold mm_ag w_a
  split
  · exact K_lt h1 hc hd hrm hm hd5 (show G 32 0 + 1 ≤ 2 * (t + 1) by omega)
  · exact h1
theorem K_both {a b d room m : Nat} (h : sm_K G w t) (ht : t < 3072) (ha : a < G 19 0) (hb : b < G 19 0) (hd : d < G 4 0) (hrm : room < G 2 0) (hm : m ≤ 1000000) (hn : G 1 0 ≤ m) (hd5 : G 12 d < 49) : sm_K (mm_bg (mm_up G 1 0 m) a b d room m) (w_b (mm_up G 1 0 m) w a b d room m) (t + 1) := by
  have h1 := (K_now h hm hn).st ht
  have b32 := h.2.2.1.2.2.2.2.2.2.2.1
  unfold mm_bg w_b
  split
  · have h2 := K_lt (c := a) (d := d) (room := room) (m := m) h1 ha hd hrm hm (show G 12 d < 50 by omega) (show G 32 0 + 1 ≤ 2 * (t + 1) by omega)
    have e : ∀ k i, k ≠ 33 → k ≠ 32 → k ≠ 18 → k ≠ 13 → k ≠ 14 → k ≠ 15 → k ≠ 12 → mm_lt (mm_up G 1 0 m) a d room m k i = (mm_up G 1 0 m) k i := fun k i h1 h2 h3 h4 h5 h6 h7 => mm_lt_k h1 h2 h3 h4 h5 h6 h7
    have q32 := lt_32 (G := mm_up G 1 0 m) (c := a) (d := d) (room := room) (m := m)
    have q12 := lt_12 (G := mm_up G 1 0 m) (c := a) (d := d) (room := room) (m := m)
    have r32 : (mm_up G 1 0 m) 32 0 = G 32 0 := rfl
    have r12 : (mm_up G 1 0 m) 12 d = G 12 d := rfl
    exact K_lt h2 (by rw [e 19 0 (by decide) (by decide) (by decide) (by decide) (by decide) (by decide) (by decide)]; exact hb) (by rw [e 4 0 (by decide) (by decide) (by decide) (by decide) (by decide) (by decide) (by decide)]; exact hd) (by rw [e 2 0 (by decide) (by decide) (by decide) (by decide) (by decide) (by decide) (by decide)]; exact hrm) hm (by omega) (by omega)
  · exact h1
theorem K_init {g1 g2 : Nat → Int32} (h1 : ∀ i, i < 60 → g1 i = -1) (h2 : ∀ i, i < 16 → g2 i = -1) : sm_K (fun _ _ => 0) (in_w g1 g2) 0 := by
  have k0 : cc_k (fun _ _ => 0) (in_w g1 g2) 0 9000 := ⟨fun c hc => absurd hc (Nat.not_lt_zero _), fun c hc => absurd hc (Nat.not_lt_zero _), Nat.zero_le _, Nat.zero_le _, fun c hc => h1 c hc, fun c hc => h2 c hc⟩
  refine ⟨⟨rfl, rfl, k0, fun d hd => absurd hd (Nat.not_lt_zero _), fun d k hd => absurd hd (Nat.not_lt_zero _), fun k q _ hk => absurd hk (Nat.not_lt_zero _), fun u hu => ⟨fun _ => rfl, fun _ => Int64.zero_and⟩⟩, fun d k hd => absurd hd (Nat.not_lt_zero _), ?_, ⟨fun _ _ => rfl, fun _ _ => ⟨rfl, rfl, rfl, rfl⟩, fun _ _ _ _ => rfl⟩, fun q hq => absurd hq (Nat.not_lt_zero _), fun i hi => ⟨Nat.le_refl _, Nat.le_refl _⟩⟩
  exact ⟨by decide, by decide, by decide, by decide, by decide, by decide, by decide, by decide, by decide, by decide, fun i hi => absurd hi (Nat.not_lt_zero _), fun i hi => absurd hi (Nat.not_lt_zero _), fun q => Nat.zero_lt_two, fun q => Or.inl rfl, fun d j hd => absurd hd (Nat.not_lt_zero _), fun i hi => absurd hi (Nat.not_lt_zero _), fun i hi => absurd hi (Nat.not_lt_zero _), fun i hi => absurd hi (Nat.not_lt_zero _), fun i hi => absurd hi (Nat.not_lt_zero _), fun q => ⟨Nat.succ_pos 3, Nat.succ_pos 59⟩, fun i hi => absurd hi (Nat.not_lt_zero _)⟩
end KEE
