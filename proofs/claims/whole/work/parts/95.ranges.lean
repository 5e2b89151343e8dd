/-! The ranges and the meaning stay, call by call -/
/-- what is not there is 0 -/
def cc_Z (G : mm_G) : Prop := (∀ q, G 16 0 ≤ q → G 18 q = 0) ∧ (∀ q, G 4 0 ≤ q → G 7 q = 0 ∧ G 8 q = 0 ∧ G 9 q = 0 ∧ G 12 q = 0) ∧ ∀ d k, (G 4 0 ≤ d ∨ G 4 0 ≤ k) → k < 30 → G 11 (30 * d + k) = 0
/-- a door's bits, of doors that are not there too -/
def cc_A (G : mm_G) (w : cc_W) : Prop := ∀ d k, d < G 4 0 → k < 30 → (w.2.2.2.2.2.2.2 d &&& (1 <<< (nI k &&& 31)) = 0 ↔ G 11 (30 * d + k) = 0)
def sm_J (G : mm_G) (w : cc_W) (t : Nat) : Prop := cc_M G w ∧ cc_A G w ∧ cc_B G t ∧ cc_Z G
section RNG
variable {G G' : mm_G} {w w' : cc_W} {t : Nat}
theorem B_room {z : Nat} (hB : cc_B G t) (ht : t < 3072) (hz : z < 10) (h2 : G 2 0 < 20) : cc_B (mm_up (mm_up G 3 (G 2 0) z) 2 0 (G 2 0 + 1)) (t + 1) := by
  obtain ⟨b1, b2, b4, b16, b19, b22, b28, b32, b34, bt, b3, b5, b11, b12, b13, b18, b20, b23, b31, b29, b33⟩ := cc_B_st hB ht
  have e2 : mm_up (mm_up G 3 (G 2 0) z) 2 0 (G 2 0 + 1) 2 0 = G 2 0 + 1 := mm_up_s _ _ _ _
  refine ⟨b1, by rw [e2]; omega, b4, b16, b19, b22, b28, b32, b34, bt, fun i hi => ?_, fun i hi => ?_, b11, b12, fun d j hd hj => ?_, fun i hi => ?_, b20, b23, b31, b29, b33⟩
  · rw [e2] at hi
    rw [mm_up_k _ _ _ _ (by decide), mm_up_at]
    split
    · exact hz
    · exact b3 i (by omega)
  · rw [e2]
    obtain ⟨q1, q2, q⟩ := b5 i hi
    exact ⟨Nat.lt_succ_of_lt q1, Nat.lt_succ_of_lt q2, q⟩
  · rw [e2]
    obtain ⟨q1, q2, q⟩ := b13 d j hd hj
    exact ⟨q1, Nat.lt_succ_of_lt q2, q⟩
  · rw [e2]
    obtain ⟨q1, q2⟩ := b18 i hi
    exact ⟨q1, Nat.lt_succ_of_lt q2⟩
theorem B_person {g : Nat} (hB : cc_B G t) (ht : t < 3072) (hg : g < 10) (h16 : G 16 0 < 40) (h2 : 0 < G 2 0) (h18 : G 18 (G 16 0) = 0) : cc_B (mm_up (mm_up G 17 (G 16 0) g) 16 0 (G 16 0 + 1)) (t + 1) := by
  obtain ⟨b1, b2, b4, b16, b19, b22, b28, b32, b34, bt, b3, b5, b11, b12, b13, b18, b20, b23, b31, b29, b33⟩ := cc_B_st hB ht
  have e : mm_up (mm_up G 17 (G 16 0) g) 16 0 (G 16 0 + 1) 16 0 = G 16 0 + 1 := mm_up_s _ _ _ _
  refine ⟨b1, b2, b4, by rw [e]; omega, b19, b22, b28, b32, b34, bt, b3, b5, b11, b12, b13, fun i hi => ?_, fun i hi => ?_, b23, b31, b29, b33⟩
  · rw [e] at hi
    by_cases e9 : i = G 16 0
    · refine ⟨?_, show G 18 i < G 2 0 by rw [e9, h18]; exact h2⟩
      rw [mm_up_k _ _ _ _ (by decide), mm_up_at, if_pos e9]
      exact hg
    · refine ⟨?_, (b18 i (by omega)).2⟩
      rw [mm_up_k _ _ _ _ (by decide), mm_up_at, if_neg e9]
      exact (b18 i (by omega)).1
  · rw [e]
    obtain ⟨q1, q2⟩ := b20 i hi
    exact ⟨Nat.lt_succ_of_lt q1, q2⟩
/-- a telling more -/
theorem B_tl {kd x m : Nat} (hB : cc_B G t) (ht : t < 3072) (hkd : kd < 4) (hx : x < 60) (hm : m ≤ 1000000) : cc_B (mm_tl G kd x m) (t + 1) := by
  have h28 := hB.2.2.2.2.2.2.1
  obtain ⟨b1, b2, b4, b16, b19, b22, b28, b32, b34, bt, b3, b5, b11, b12, b13, b18, b20, b23, b31, b29, b33⟩ := cc_B_st hB ht
  refine ⟨b1, b2, b4, b16, b19, b22, by rw [tl_28]; omega, b32, b34, bt, b3, fun i hi => ?_, b11, b12, b13, b18, b20, b23, fun q hq => ?_, fun q => ?_, b33⟩
  · rw [tl_28]
    obtain ⟨q1, q2, q3, q4, q5, q6, q7, q8⟩ := b5 i hi
    exact ⟨q1, q2, q3, q4, q5, q6, q7.imp id (fun q => Nat.le_succ_of_le q), q8⟩
  · rw [tl_28] at hq
    rw [tl_29, tl_30, tl_31]
    by_cases e : q = G 28 0
    · rw [if_pos e, if_pos e, if_pos e]
      exact ⟨hkd, hx, hm⟩
    · rw [if_neg e, if_neg e, if_neg e]
      exact b31 q (by omega)
  · rw [tl_29, tl_30]
    by_cases e : q = G 28 0
    · rw [if_pos e, if_pos e]
      exact ⟨hkd, hx⟩
    · rw [if_neg e, if_neg e]
      exact b29 q
theorem B_cardG {p m : Nat} (hB : cc_B G t) (hp : p < G 16 0) (hm : m ≤ 1000000) (h19 : G 19 0 < 60) : cc_B (ca_G G p m) t := by
  obtain ⟨b1, b2, b4, b16, b19, b22, b28, b32, b34, bt, b3, b5, b11, b12, b13, b18, b20, b23, b31, b29, b33⟩ := hB
  have e : ca_G G p m 19 0 = G 19 0 + 1 := mm_up_s _ _ _ _
  refine ⟨b1, b2, b4, b16, by rw [e]; omega, b22, b28, b32, b34, bt, b3, b5, b11, b12, fun d j hd hj => ?_, b18, fun i hi => ?_, b23, b31, b29, b33⟩
  · rw [e]
    obtain ⟨q1, q⟩ := b13 d j hd hj
    exact ⟨Nat.lt_succ_of_lt q1, q⟩
  · rw [e] at hi
    by_cases e9 : i = G 19 0
    · have v1 : ca_G G p m 20 i = p := by
        unfold ca_G
        rw [mm_up_k _ _ _ _ (by decide), mm_up_k _ _ _ _ (by decide), e9, mm_up_s]
      have v2 : ca_G G p m 21 i = m := by
        unfold ca_G
        rw [mm_up_k _ _ _ _ (by decide), e9, mm_up_s]
      rw [v1, v2]
      exact ⟨hp, hm⟩
    · rw [ca_G_i (by decide) e9, ca_G_i (by decide) e9]
      exact b20 i (by omega)
theorem B_rightG {g z f o s9 : Nat} (hB : cc_B G t) (hg : g < 10) (hz : z < 10) (hf : f < 1440) (ho : o < 1440) (hm : s9 ≤ 1000000) (h22 : G 22 0 < 16) : cc_B (ri_G G g z f o s9) t := by
  obtain ⟨b1, b2, b4, b16, b19, b22, b28, b32, b34, bt, b3, b5, b11, b12, b13, b18, b20, b23, b31, b29, b33⟩ := hB
  have e : ri_G G g z f o s9 22 0 = G 22 0 + 1 := mm_up_s _ _ _ _
  refine ⟨b1, b2, b4, b16, b19, by rw [e]; omega, b28, b32, b34, bt, b3, b5, b11, b12, b13, b18, b20, fun i hi => ?_, b31, b29, b33⟩
  rw [e] at hi
  by_cases e9 : i = G 22 0
  · have v1 : ri_G G g z f o s9 23 i = g := by
      unfold ri_G
      rw [mm_up_k _ _ _ _ (by decide), mm_up_k _ _ _ _ (by decide), mm_up_k _ _ _ _ (by decide), mm_up_k _ _ _ _ (by decide), mm_up_k _ _ _ _ (by decide), e9, mm_up_s]
    have v2 : ri_G G g z f o s9 24 i = z := by
      unfold ri_G
      rw [mm_up_k _ _ _ _ (by decide), mm_up_k _ _ _ _ (by decide), mm_up_k _ _ _ _ (by decide), mm_up_k _ _ _ _ (by decide), e9, mm_up_s]
    have v3 : ri_G G g z f o s9 25 i = f := by
      unfold ri_G
      rw [mm_up_k _ _ _ _ (by decide), mm_up_k _ _ _ _ (by decide), mm_up_k _ _ _ _ (by decide), e9, mm_up_s]
    have v4 : ri_G G g z f o s9 26 i = o := by
      unfold ri_G
      rw [mm_up_k _ _ _ _ (by decide), mm_up_k _ _ _ _ (by decide), e9, mm_up_s]
    have v5 : ri_G G g z f o s9 27 i = s9 := by
      unfold ri_G
      rw [mm_up_k _ _ _ _ (by decide), e9, mm_up_s]
    rw [v1, v2, v3, v4, v5]
    exact ⟨hg, hz, hf, ho, hm⟩
  · rw [ri_G_i (by decide) e9, ri_G_i (by decide) e9, ri_G_i (by decide) e9, ri_G_i (by decide) e9, ri_G_i (by decide) e9]
    exact b23 i (by omega)
/-- equal ranges for equal fields -/
theorem cc_B_of (hB : cc_B G t) (e : ∀ a b, a ≠ 0 → a < 39 → G' a b = G a b) : cc_B G' t := by
  unfold cc_B
  simp only [e 1 _ (by decide) (by decide), e 2 _ (by decide) (by decide), e 3 _ (by decide) (by decide), e 4 _ (by decide) (by decide), e 5 _ (by decide) (by decide), e 6 _ (by decide) (by decide), e 7 _ (by decide) (by decide), e 8 _ (by decide) (by decide), e 9 _ (by decide) (by decide), e 10 _ (by decide) (by decide), e 11 _ (by decide) (by decide), e 12 _ (by decide) (by decide), e 13 _ (by decide) (by decide), e 14 _ (by decide) (by decide), e 15 _ (by decide) (by decide), e 16 _ (by decide) (by decide), e 17 _ (by decide) (by decide), e 18 _ (by decide) (by decide), e 19 _ (by decide) (by decide), e 20 _ (by decide) (by decide), e 21 _ (by decide) (by decide), e 22 _ (by decide) (by decide), e 23 _ (by decide) (by decide), e 24 _ (by decide) (by decide), e 25 _ (by decide) (by decide), e 26 _ (by decide) (by decide), e 27 _ (by decide) (by decide), e 28 _ (by decide) (by decide), e 29 _ (by decide) (by decide), e 30 _ (by decide) (by decide), e 31 _ (by decide) (by decide), e 32 _ (by decide) (by decide), e 33 _ (by decide) (by decide), e 34 _ (by decide) (by decide)]
  exact hB
theorem B_card {p m : Nat} (hB : cc_B G t) (ht : t < 3072) (hp : p < G 16 0) (hm : m ≤ 1000000) (h19 : G 19 0 < 60) : cc_B (ca_T G p m) (t + 1) := by
  refine cc_B_of (B_tl (kd := 0) (x := G 19 0) (m := m) (B_cardG hB hp hm h19) ht (by decide) h19 hm) (fun a b _ _ => ?_)
  unfold ca_T ca_G
  by_cases e : 28 ≤ a ∧ a ≤ 31
  · rw [mm_up_k _ _ _ _ (by omega)]
    rcases (show a = 28 ∨ a = 29 ∨ a = 30 ∨ a = 31 by omega) with rfl | rfl | rfl | rfl
    · by_cases eb : b = 0
      · rw [eb, tl_28, tl_28]
        rfl
      · have q : ∀ X : mm_G, mm_tl X 0 (G 19 0) m 28 b = X 28 b := fun X => by
          unfold mm_tl
          rw [mm_up_i _ _ _ _ eb, mm_up_k _ _ _ _ (by decide), mm_up_k _ _ _ _ (by decide), mm_up_k _ _ _ _ (by decide)]
        rw [q, q]
        rfl
    · rw [tl_29, tl_29]
      rfl
    · rw [tl_30, tl_30]
      rfl
    · rw [tl_31, tl_31]
      rfl
  · rw [tl_k (by omega) (by omega) (by omega) (by omega)]
    by_cases e19 : a = 19
    · subst e19
      rw [mm_up_at, mm_up_at, tl_k (by decide) (by decide) (by decide) (by decide)]
    · rw [mm_up_k _ _ _ _ e19, mm_up_k _ _ _ _ e19, tl_k (by omega) (by omega) (by omega) (by omega)]
theorem B_right {g z f o s9 : Nat} (hB : cc_B G t) (ht : t < 3072) (hg : g < 10) (hz : z < 10) (hf : f < 1440) (ho : o < 1440) (hm : s9 ≤ 1000000) (h22 : G 22 0 < 16) : cc_B (ri_T G g z f o s9) (t + 1) := by
  refine cc_B_of (B_tl (kd := 1) (x := G 22 0) (m := s9) (B_rightG hB hg hz hf ho hm h22) ht (by decide) (by omega) hm) (fun a b _ _ => ?_)
  unfold ri_T ri_G
  by_cases e : 28 ≤ a ∧ a ≤ 31
  · rw [mm_up_k _ _ _ _ (by omega)]
    rcases (show a = 28 ∨ a = 29 ∨ a = 30 ∨ a = 31 by omega) with rfl | rfl | rfl | rfl
    · by_cases eb : b = 0
      · rw [eb, tl_28, tl_28]
        rfl
      · have q : ∀ X : mm_G, mm_tl X 1 (G 22 0) s9 28 b = X 28 b := fun X => by
          unfold mm_tl
          rw [mm_up_i _ _ _ _ eb, mm_up_k _ _ _ _ (by decide), mm_up_k _ _ _ _ (by decide), mm_up_k _ _ _ _ (by decide)]
        rw [q, q]
        rfl
    · rw [tl_29, tl_29]
      rfl
    · rw [tl_30, tl_30]
      rfl
    · rw [tl_31, tl_31]
      rfl
  · rw [tl_k (by omega) (by omega) (by omega) (by omega)]
    by_cases e22 : a = 22
    · subst e22
      rw [mm_up_at, mm_up_at, tl_k (by decide) (by decide) (by decide) (by decide)]
    · rw [mm_up_k _ _ _ _ e22, mm_up_k _ _ _ _ e22, tl_k (by omega) (by omega) (by omega) (by omega)]
theorem B_door {a b : Nat} (hB : cc_B G t) (ht : t < 3072) (hZ : cc_Z G) (ha : a < G 2 0) (hb : b < G 2 0) (hab : a ≠ b) (h4 : G 4 0 < 30) : cc_B (dr_G G a b) (t + 1) := by
  obtain ⟨b1, b2, b4, b16, b19, b22, b28, b32, b34, bt, b3, b5, b11, b12, b13, b18, b20, b23, b31, b29, b33⟩ := cc_B_st hB ht
  obtain ⟨z7, z8, z9, z12⟩ := hZ.2.1 (G 4 0) (Nat.le_refl _)
  have e : dr_G G a b 4 0 = G 4 0 + 1 := dr_G_4
  refine ⟨b1, b2, by rw [e]; omega, b16, b19, b22, b28, b32, b34, bt, b3, fun i hi => ?_, b11, fun q => ?_, fun d j hd hj => ?_, b18, b20, b23, b31, b29, b33⟩
  · rw [e] at hi
    by_cases e9 : i = G 4 0
    · rw [e9, dr_G_5, dr_G_6, dr_G_10]
      have k7 : dr_G G a b 7 (G 4 0) = 0 := (dr_G_k (by decide) (by decide) (by decide) (by decide)).trans z7
      have k8 : dr_G G a b 8 (G 4 0) = 0 := (dr_G_k (by decide) (by decide) (by decide) (by decide)).trans z8
      have k9 : dr_G G a b 9 (G 4 0) = 0 := (dr_G_k (by decide) (by decide) (by decide) (by decide)).trans z9
      have k12 : dr_G G a b 12 (G 4 0) = 0 := (dr_G_k (by decide) (by decide) (by decide) (by decide)).trans z12
      rw [k7, k8, k9, k12]
      exact ⟨ha, hb, hab, by decide, by decide, Nat.zero_le _, Or.inl rfl, by decide, fun _ => rfl⟩
    · rw [dr_G_i (k := 5) (by decide) e9, dr_G_i (k := 6) (by decide) e9, dr_G_i (k := 10) (by decide) e9]
      exact b5 i (by omega)
  · rw [e]
    rcases b12 q with z | z
    · exact Or.inl z
    · exact Or.inr (by omega)
  · rw [e] at hd
    by_cases e9 : d = G 4 0
    · have k12 : dr_G G a b 12 d = 0 := by
        rw [e9]
        exact (dr_G_k (by decide) (by decide) (by decide) (by decide)).trans z12
      rw [k12] at hj
      exact absurd hj (Nat.not_lt_zero _)
    · exact b13 d j (by omega) hj
theorem B_two {d o : Nat} (hB : cc_B G t) (ht : t < 3072) (ho : o < 2) : cc_B (mm_up G 7 d o) (t + 1) := by
  obtain ⟨b1, b2, b4, b16, b19, b22, b28, b32, b34, bt, b3, b5, b11, b12, b13, b18, b20, b23, b31, b29, b33⟩ := cc_B_st hB ht
  refine ⟨b1, b2, b4, b16, b19, b22, b28, b32, b34, bt, b3, fun i hi => ?_, b11, b12, b13, b18, b20, b23, b31, b29, b33⟩
  obtain ⟨q1, q2, q3, q4, q5⟩ := b5 i hi
  refine ⟨q1, q2, q3, ?_, q5⟩
  rw [mm_up_at]
  split
  · exact ho
  · exact q4
theorem B_air {a b o : Nat} (hB : cc_B G t) (ht : t < 3072) (ho : o < 2) : cc_B (mm_up (mm_up G 11 (30 * a + b) o) 11 (30 * b + a) o) (t + 1) := by
  obtain ⟨b1, b2, b4, b16, b19, b22, b28, b32, b34, bt, b3, b5, b11, b12, b13, b18, b20, b23, b31, b29, b33⟩ := cc_B_st hB ht
  refine ⟨b1, b2, b4, b16, b19, b22, b28, b32, b34, bt, b3, b5, fun q => ?_, b12, b13, b18, b20, b23, b31, b29, b33⟩
  rw [mm_up_at, mm_up_at]
  split
  · exact ho
  · split
    · exact ho
    · exact b11 q
theorem B_state {d o m : Nat} (hB : cc_B G t) (ht : t < 3072) (ho : o < 2) (hm : m ≤ 1000000) (hn : G 1 0 ≤ m) : cc_B (mm_up (mm_up (mm_up G 1 0 m) 9 d (if G 8 d = o then G 9 d else m)) 8 d o) (t + 1) := by
  obtain ⟨b1, b2, b4, b16, b19, b22, b28, b32, b34, bt, b3, b5, b11, b12, b13, b18, b20, b23, b31, b29, b33⟩ := cc_B_st (cc_B_now hB hm hn) ht
  refine ⟨b1, b2, b4, b16, b19, b22, b28, b32, b34, bt, b3, fun i hi => ?_, b11, b12, b13, b18, b20, b23, b31, b29, b33⟩
  obtain ⟨q1, q2, q3, q4, q5, q6, q7⟩ := b5 i hi
  refine ⟨q1, q2, q3, q4, ?_, ?_, q7⟩
  · rw [mm_up_at]
    split
    · exact ho
    · exact q5
  · have e1 : mm_up (mm_up (mm_up G 1 0 m) 9 d (if G 8 d = o then G 9 d else m)) 8 d o 1 0 = m := rfl
    rw [e1, mm_up_k _ _ _ _ (by decide), mm_up_at]
    split
    · rename_i e9
      split
      · have q9 : (mm_up G 1 0 m) 9 i ≤ m := q6
        rw [e9] at q9
        exact q9
      · exact Nat.le_refl _
    · exact q6
theorem B_offon {d : Nat} (hB : cc_B G t) (ht : t < 3072) (hon : G 10 d = 9000) : cc_B (mm_up G 10 d (G 28 0)) (t + 1) := by
  have h28 := hB.2.2.2.2.2.2.1
  obtain ⟨b1, b2, b4, b16, b19, b22, b28, b32, b34, bt, b3, b5, b11, b12, b13, b18, b20, b23, b31, b29, b33⟩ := cc_B_st hB ht
  refine ⟨b1, b2, b4, b16, b19, b22, b28, b32, b34, bt, b3, fun i hi => ?_, b11, b12, b13, b18, b20, b23, b31, b29, b33⟩
  obtain ⟨q1, q2, q3, q4, q5, q6, q7, q8, q9⟩ := b5 i hi
  refine ⟨q1, q2, q3, q4, q5, q6, ?_, q8, ?_⟩
  · rw [mm_up_at]
    split
    · exact Or.inr (Nat.le_refl _)
    · exact q7
  · rw [mm_up_at]
    split
    · exact fun q => by omega
    · exact q9
end RNG
