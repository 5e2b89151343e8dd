/-! The meaning stays, call by call -/
/-- tellings speak of what is there; no knowledge counts more than there is -/
def cc_T (G : mm_G) (w : cc_W) : Prop := (∀ q, q < G 28 0 → (G 29 q = 0 → G 30 q < G 19 0) ∧ (G 29 q = 1 → G 30 q < G 22 0)) ∧ ∀ i, i ≤ G 4 0 → w.1 0 i ≤ G 19 0 ∧ w.1 1 i ≤ G 22 0
section MNG
variable {G G' : mm_G} {w w' : cc_W} {t : Nat}
theorem lk_none (kd x : Nat) : ∀ t : Nat, (∀ q, q < t → ¬ (G 29 q = kd ∧ G 30 q = x)) → mm_lk G kd x t = -1
  | 0, _ => rfl
  | t + 1, h => by
    unfold mm_lk
    rw [if_neg (h t (by omega))]
    exact lk_none kd x t (fun q hq => h q (by omega))
theorem to_none {kd x b : Nat} (h : ∀ q, q < G 28 0 → ¬ (G 29 q = kd ∧ G 30 q = x)) : mm_to G kd x b = -1 := by
  unfold mm_to
  exact lk_none kd x _ (fun q hq => h q (by split at hq <;> omega))
theorem cc_A_of (hA : cc_A G w) (e4 : G' 4 0 = G 4 0) (e11 : ∀ q, G' 11 q = G 11 q) (hw : w'.2.2.2.2.2.2.2 = w.2.2.2.2.2.2.2) : cc_A G' w' := by
  intro d k hd hk
  rw [e4] at hd
  rw [e11, hw]
  exact hA d k hd hk
theorem cc_A.five (hA : cc_A G w) (h4 : G 4 0 ≤ 30) : ∀ d k, d < G 4 0 → k < G 4 0 → (w.2.2.2.2.2.2.2 d &&& (1 <<< (nI k &&& 31)) = 0 ↔ G 11 (30 * d + k) = 0) := fun d k hd hk => hA d k hd (by omega)
theorem cc_T_of (hT : cc_T G w) (e : ∀ a b, (a = 4 ∨ a = 19 ∨ a = 22 ∨ (28 ≤ a ∧ a ≤ 30)) → G' a b = G a b) (hw : w'.1 = w.1) : cc_T G' w' := by
  obtain ⟨t1, t2⟩ := hT
  refine ⟨fun q hq => ?_, fun i hi => ?_⟩
  · rw [e 28 0 (by omega)] at hq
    rw [e 29 q (by omega), e 30 q (by omega), e 19 0 (by omega), e 22 0 (by omega)]
    exact t1 q hq
  · rw [e 4 0 (by omega)] at hi
    rw [hw, e 19 0 (by omega), e 22 0 (by omega)]
    exact t2 i hi
/-- a telling that is none of card or right -/
theorem cc_T_tl {kd x m : Nat} (hT : cc_T G w) (h2 : 2 ≤ kd) (hw : w'.1 = w.1) : cc_T (mm_tl G kd x m) w' := by
  obtain ⟨t1, t2⟩ := hT
  refine ⟨fun q hq => ?_, fun i hi => by rw [hw]; exact t2 i hi⟩
  rw [tl_28] at hq
  rw [tl_29, tl_30]
  by_cases e : q = G 28 0
  · rw [if_pos e, if_pos e]
    exact ⟨fun z => by omega, fun z => by omega⟩
  · rw [if_neg e, if_neg e]
    exact t1 q (by omega)
/-- the meaning where marks alone changed -/
theorem cc_M_us (hM : cc_M G w) (e : ∀ a b, (a = 4 ∨ a = 10 ∨ a = 11 ∨ a = 19 ∨ a = 22 ∨ (28 ≤ a ∧ a ≤ 31) ∨ (34 ≤ a ∧ a ≤ 38)) → G' a b = G a b) (hU : cc_U G' w') (w0 : w'.1 = w.1) (w1 : w'.2.1 = w.2.1) (w2 : w'.2.2.1 = w.2.2.1) (w3 : w'.2.2.2.1 = w.2.2.2.1) (w4 : w'.2.2.2.2.2.2.2 = w.2.2.2.2.2.2.2) : cc_M G' w' := by
  obtain ⟨m1, m2, m3, m4, m5, m6, m7⟩ := hM
  have e19 := e 19 0 (by decide)
  have e22 := e 22 0 (by decide)
  have e4 := e 4 0 (by decide)
  have et : ∀ a b, 28 ≤ a → a ≤ 31 → G' a b = G a b := fun a b h1 h2 => e a b (by omega)
  refine ⟨by rw [e19, w0]; exact m1, by rw [e22, w0]; exact m2, cc_k_of m3 et e19 e22 (by rw [w0]) (by rw [w0]) (by rw [w1]) (by rw [w2]), fun d hd hne => ?_, fun d k hd hk => ?_, fun k q hk hk2 hq => ?_, hU⟩
  · rw [e4] at hd
    rw [e 10 d (by decide)] at hne ⊢
    exact cc_k_of (m4 d hd hne) et e19 e22 (by rw [w0]) (by rw [w0]) (by rw [w1]) (by rw [w2])
  · rw [e4] at hd hk
    rw [e 11 _ (by decide), w4]
    exact m5 d k hd hk
  · rw [e 34 0 (by decide)] at hk2
    rw [e (35 + q) k (by omega), w3]
    exact m6 k q hk hk2 hq
theorem to_up {k i v kd x b : Nat} (hk : k < 28 ∨ 31 < k) : mm_to (mm_up G k i v) kd x b = mm_to G kd x b := mm_to_of (fun a c h1 h2 => mm_up_k _ _ _ _ (by omega)) kd x b
theorem nI_nn {m : Nat} (h : m < 2 ^ 31) : (0 : Int32) ≤ nI m := nI_pos' h
theorem ca_T_to {p m kd x : Nat} (h28 : G 28 0 < 9000) : mm_to (ca_T G p m) kd x 9000 = if kd = 0 ∧ x = G 19 0 then nI m else mm_to G kd x 9000 := by
  unfold ca_T
  rw [to_up (Or.inl (by decide)), tl_new (show (mm_up (mm_up G 20 (G 19 0) p) 21 (G 19 0) m) 28 0 < 9000 from h28)]
  rw [to_up (Or.inl (by decide)), to_up (Or.inl (by decide))]
theorem ca_T_to2 {p m kd x b : Nat} (hb : b ≤ G 28 0) : mm_to (ca_T G p m) kd x b = mm_to G kd x b := by
  unfold ca_T
  rw [to_up (Or.inl (by decide)), tl_old (show b ≤ (mm_up (mm_up G 20 (G 19 0) p) 21 (G 19 0) m) 28 0 from hb), to_up (Or.inl (by decide)), to_up (Or.inl (by decide))]
theorem ri_T_to {g z f o s9 kd x : Nat} (h28 : G 28 0 < 9000) : mm_to (ri_T G g z f o s9) kd x 9000 = if kd = 1 ∧ x = G 22 0 then nI s9 else mm_to G kd x 9000 := by
  unfold ri_T
  rw [to_up (Or.inl (by decide)), tl_new (show (mm_up (mm_up (mm_up (mm_up (mm_up G 23 (G 22 0) g) 24 (G 22 0) z) 25 (G 22 0) f) 26 (G 22 0) o) 27 (G 22 0) s9) 28 0 < 9000 from h28)]
  rw [to_up (Or.inl (by decide)), to_up (Or.inl (by decide)), to_up (Or.inl (by decide)), to_up (Or.inl (by decide)), to_up (Or.inl (by decide))]
theorem ri_T_to2 {g z f o s9 kd x b : Nat} (hb : b ≤ G 28 0) : mm_to (ri_T G g z f o s9) kd x b = mm_to G kd x b := by
  unfold ri_T
  rw [to_up (Or.inl (by decide)), tl_old (show b ≤ (mm_up (mm_up (mm_up (mm_up (mm_up G 23 (G 22 0) g) 24 (G 22 0) z) 25 (G 22 0) f) 26 (G 22 0) o) 27 (G 22 0) s9) 28 0 from hb), to_up (Or.inl (by decide)), to_up (Or.inl (by decide)), to_up (Or.inl (by decide)), to_up (Or.inl (by decide)), to_up (Or.inl (by decide))]
theorem M_card {p m : Nat} (hM : cc_M G w) (hT : cc_T G w) (hB : cc_B G t) (hm : m ≤ 1000000) (h19 : G 19 0 < 60) : cc_M (ca_T G p m) (w_k w (G 19 0 + 1) (w.1 1 0)) ∧ cc_T (ca_T G p m) (w_k w (G 19 0 + 1) (w.1 1 0)) := by
  obtain ⟨m1, m2, m3, m4, m5, m6, m7⟩ := hM
  obtain ⟨t1, t2⟩ := hT
  have h28 : G 28 0 < 9000 := by
    have := hB.2.2.2.2.2.2.1
    have := hB.2.2.2.2.2.2.2.2.2.1
    omega
  have e : ∀ a b, a ≠ 19 → a ≠ 20 → a ≠ 21 → a < 28 ∨ 31 < a → ca_T G p m a b = G a b := fun a b h1 h2 h3 h4 => (ca_T_k (by omega) (by omega) (by omega) (by omega)).trans (ca_G_k h1 h2 h3)
  have e19 : ca_T G p m 19 0 = G 19 0 + 1 := mm_up_s _ _ _ _
  have e22 : ca_T G p m 22 0 = G 22 0 := e 22 0 (by decide) (by decide) (by decide) (by decide)
  have e4 : ca_T G p m 4 0 = G 4 0 := e 4 0 (by decide) (by decide) (by decide) (by decide)
  have e28 : ca_T G p m 28 0 = G 28 0 + 1 := by
    unfold ca_T
    rw [mm_up_k _ _ _ _ (by decide), tl_28]
    rfl
  refine ⟨⟨e19.symm, by rw [e22]; exact m2, ?_, fun d hd hne => ?_, fun d k hd hk => ?_, fun k q hk hk2 hq => ?_, cc_U_of m7 (e 32 0 (by decide) (by decide) (by decide) (by decide)) (fun q => e 33 q (by decide) (by decide) (by decide) (by decide)) rfl⟩, fun q hq => ?_, fun i hi => ?_⟩
  · obtain ⟨k1, k2, k3, k4, k5, k6⟩ := m3
    refine ⟨fun c hc => ?_, fun r hr => ?_, show G 19 0 + 1 ≤ 60 by omega, k4, fun c hc => ?_, fun r hr => ?_⟩
    · rw [e19] at hc
      rw [ca_T_to h28]
      show c < G 19 0 + 1 ↔ _
      by_cases ec : c = G 19 0
      · rw [if_pos ⟨rfl, ec⟩]
        exact ⟨fun _ => nI_nn (by omega), fun _ => by omega⟩
      · rw [if_neg (fun z => ec z.2), ← k1 c (by omega), m1]
        omega
    · rw [e22] at hr
      rw [ca_T_to h28, if_neg (fun z => absurd z.1 (by decide))]
      exact k2 r hr
    · rw [ca_T_to h28, if_neg (fun z => absurd z.1 (by decide))]
      exact k5 c hc
    · rw [ca_T_to h28, if_neg (fun z => absurd z.1 (by decide))]
      exact k6 r hr
  · rw [e4] at hd
    rw [e 10 d (by decide) (by decide) (by decide) (by decide)] at hne ⊢
    have hb : G 10 d ≤ G 28 0 := (((hB.2.2.2.2.2.2.2.2.2.2.2.1 d hd).2.2.2.2.2.2.1).resolve_left hne)
    obtain ⟨k1, k2, k3, k4, k5, k6⟩ := m4 d hd hne
    have w0 : (w_k w (G 19 0 + 1) (w.1 1 0)).1 0 (d + 1) = w.1 0 (d + 1) := rfl
    have w1 : (w_k w (G 19 0 + 1) (w.1 1 0)).1 1 (d + 1) = w.1 1 (d + 1) := rfl
    refine ⟨fun c hc => ?_, fun r hr => ?_, by rw [w0]; exact k3, by rw [w1]; exact k4, fun c hc => ?_, fun r hr => ?_⟩
    · rw [e19] at hc
      rw [w0, ca_T_to2 hb]
      by_cases ec : c = G 19 0
      · have h1 := (t2 (d + 1) hd).1
        rw [to_none (fun q hq z => by have := (t1 q hq).1 z.1; omega)]
        exact ⟨fun z => by omega, fun z => absurd z (by decide)⟩
      · exact k1 c (by omega)
    · rw [e22] at hr
      rw [w1, ca_T_to2 hb]
      exact k2 r hr
    · rw [ca_T_to2 hb]
      exact k5 c hc
    · rw [ca_T_to2 hb]
      exact k6 r hr
  · rw [e4] at hd hk
    rw [e 11 _ (by decide) (by decide) (by decide) (by decide)]
    exact m5 d k hd hk
  · rw [e 34 0 (by decide) (by decide) (by decide) (by decide)] at hk2
    rw [e (35 + q) k (by omega) (by omega) (by omega) (by omega)]
    exact m6 k q hk hk2 hq
  · rw [e28] at hq
    have v29 : ca_T G p m 29 q = if q = G 28 0 then 0 else G 29 q := by
      unfold ca_T
      rw [mm_up_k _ _ _ _ (by decide), tl_29]
      rfl
    have v30 : ca_T G p m 30 q = if q = G 28 0 then G 19 0 else G 30 q := by
      unfold ca_T
      rw [mm_up_k _ _ _ _ (by decide), tl_30]
      rfl
    rw [v29, v30, e19, e22]
    by_cases eq : q = G 28 0
    · rw [if_pos eq, if_pos eq]
      exact ⟨fun _ => by omega, fun z => absurd z (by decide)⟩
    · rw [if_neg eq, if_neg eq]
      have := t1 q (by omega)
      exact ⟨fun z => by have := this.1 z; omega, this.2⟩
  · rw [e4] at hi
    rw [e19, e22]
    by_cases ei : i = 0
    · rw [ei]
      exact ⟨Nat.le_refl _, (t2 0 (by omega)).2⟩
    · have w0 : (w_k w (G 19 0 + 1) (w.1 1 0)).1 0 i = w.1 0 i := if_neg ei
      have w1 : (w_k w (G 19 0 + 1) (w.1 1 0)).1 1 i = w.1 1 i := if_neg ei
      rw [w0, w1]
      have := t2 i hi
      exact ⟨by omega, this.2⟩
theorem M_right {g z f o s9 : Nat} (hM : cc_M G w) (hT : cc_T G w) (hB : cc_B G t) (hm : s9 ≤ 1000000) (h22 : G 22 0 < 16) : cc_M (ri_T G g z f o s9) (w_k w (w.1 0 0) (G 22 0 + 1)) ∧ cc_T (ri_T G g z f o s9) (w_k w (w.1 0 0) (G 22 0 + 1)) := by
  obtain ⟨m1, m2, m3, m4, m5, m6, m7⟩ := hM
  obtain ⟨t1, t2⟩ := hT
  have h28 : G 28 0 < 9000 := by
    have := hB.2.2.2.2.2.2.1
    have := hB.2.2.2.2.2.2.2.2.2.1
    omega
  have e : ∀ a b, (a < 22 ∨ 27 < a) → a < 28 ∨ 31 < a → ri_T G g z f o s9 a b = G a b := fun a b h1 h4 => (ri_T_k (by omega) (by omega) (by omega) (by omega)).trans (ri_G_k (by omega) (by omega) (by omega) (by omega) (by omega) (by omega))
  have e22 : ri_T G g z f o s9 22 0 = G 22 0 + 1 := mm_up_s _ _ _ _
  have e19 : ri_T G g z f o s9 19 0 = G 19 0 := e 19 0 (by decide) (by decide)
  have e4 : ri_T G g z f o s9 4 0 = G 4 0 := e 4 0 (by decide) (by decide)
  have e28 : ri_T G g z f o s9 28 0 = G 28 0 + 1 := by
    unfold ri_T
    rw [mm_up_k _ _ _ _ (by decide), tl_28]
    rfl
  refine ⟨⟨by rw [e19]; exact m1, e22.symm, ?_, fun d hd hne => ?_, fun d k hd hk => ?_, fun k q hk hk2 hq => ?_, cc_U_of m7 (e 32 0 (by decide) (by decide)) (fun q => e 33 q (by decide) (by decide)) rfl⟩, fun q hq => ?_, fun i hi => ?_⟩
  · obtain ⟨k1, k2, k3, k4, k5, k6⟩ := m3
    refine ⟨fun c hc => ?_, fun r hr => ?_, k3, show G 22 0 + 1 ≤ 16 by omega, fun c hc => ?_, fun r hr => ?_⟩
    · rw [e19] at hc
      rw [ri_T_to h28, if_neg (fun z => absurd z.1 (by decide))]
      exact k1 c hc
    · rw [e22] at hr
      rw [ri_T_to h28]
      show r < G 22 0 + 1 ↔ _
      by_cases ec : r = G 22 0
      · rw [if_pos ⟨rfl, ec⟩]
        exact ⟨fun _ => nI_nn (by omega), fun _ => by omega⟩
      · rw [if_neg (fun z => ec z.2), ← k2 r (by omega), m2]
        omega
    · rw [ri_T_to h28, if_neg (fun z => absurd z.1 (by decide))]
      exact k5 c hc
    · rw [ri_T_to h28, if_neg (fun z => absurd z.1 (by decide))]
      exact k6 r hr
  · rw [e4] at hd
    rw [e 10 d (by decide) (by decide)] at hne ⊢
    have hb : G 10 d ≤ G 28 0 := (((hB.2.2.2.2.2.2.2.2.2.2.2.1 d hd).2.2.2.2.2.2.1).resolve_left hne)
    obtain ⟨k1, k2, k3, k4, k5, k6⟩ := m4 d hd hne
    have w0 : (w_k w (w.1 0 0) (G 22 0 + 1)).1 0 (d + 1) = w.1 0 (d + 1) := rfl
    have w1 : (w_k w (w.1 0 0) (G 22 0 + 1)).1 1 (d + 1) = w.1 1 (d + 1) := rfl
    refine ⟨fun c hc => ?_, fun r hr => ?_, by rw [w0]; exact k3, by rw [w1]; exact k4, fun c hc => ?_, fun r hr => ?_⟩
    · rw [e19] at hc
      rw [w0, ri_T_to2 hb]
      exact k1 c hc
    · rw [e22] at hr
      rw [w1, ri_T_to2 hb]
      by_cases ec : r = G 22 0
      · have h1 := (t2 (d + 1) hd).2
        rw [to_none (fun q hq z => by have := (t1 q hq).2 z.1; omega)]
        exact ⟨fun z => by omega, fun z => absurd z (by decide)⟩
      · exact k2 r (by omega)
    · rw [ri_T_to2 hb]
      exact k5 c hc
    · rw [ri_T_to2 hb]
      exact k6 r hr
  · rw [e4] at hd hk
    rw [e 11 _ (by decide) (by decide)]
    exact m5 d k hd hk
  · rw [e 34 0 (by decide) (by decide)] at hk2
    rw [e (35 + q) k (by omega) (by omega)]
    exact m6 k q hk hk2 hq
  · rw [e28] at hq
    have v29 : ri_T G g z f o s9 29 q = if q = G 28 0 then 1 else G 29 q := by
      unfold ri_T
      rw [mm_up_k _ _ _ _ (by decide), tl_29]
      rfl
    have v30 : ri_T G g z f o s9 30 q = if q = G 28 0 then G 22 0 else G 30 q := by
      unfold ri_T
      rw [mm_up_k _ _ _ _ (by decide), tl_30]
      rfl
    rw [v29, v30, e19, e22]
    by_cases eq : q = G 28 0
    · rw [if_pos eq, if_pos eq]
      exact ⟨fun z => absurd z (by decide), fun _ => by omega⟩
    · rw [if_neg eq, if_neg eq]
      have := t1 q (by omega)
      exact ⟨this.1, fun z => by have := this.2 z; omega⟩
  · rw [e4] at hi
    rw [e19, e22]
    by_cases ei : i = 0
    · rw [ei]
      exact ⟨(t2 0 (by omega)).1, Nat.le_refl _⟩
    · have w0 : (w_k w (w.1 0 0) (G 22 0 + 1)).1 0 i = w.1 0 i := if_neg ei
      have w1 : (w_k w (w.1 0 0) (G 22 0 + 1)).1 1 i = w.1 1 i := if_neg ei
      rw [w0, w1]
      have := t2 i hi
      exact ⟨this.1, by omega⟩
theorem M_door {a b : Nat} {g1 g2 : Nat → Int32} (hM : cc_M G w) (hT : cc_T G w) (hA : cc_A G w) (hZ : cc_Z G) (h4 : G 4 0 < 30) : cc_M (dr_G G a b) (w_d w (G 4 0) g1 g2) ∧ cc_T (dr_G G a b) (w_d w (G 4 0) g1 g2) ∧ cc_A (dr_G G a b) (w_d w (G 4 0) g1 g2) := by
  obtain ⟨m1, m2, m3, m4, m5, m6, m7⟩ := hM
  obtain ⟨t1, t2⟩ := hT
  have e : ∀ k i, k ≠ 4 → k ≠ 5 → k ≠ 6 → k ≠ 10 → dr_G G a b k i = G k i := fun k i h1 h2 h3 h4 => dr_G_k h1 h2 h3 h4
  have e4 : dr_G G a b 4 0 = G 4 0 + 1 := dr_G_4
  have e19 := e 19 0 (by decide) (by decide) (by decide) (by decide)
  have e22 := e 22 0 (by decide) (by decide) (by decide) (by decide)
  have et : ∀ k i, 28 ≤ k → k ≤ 31 → dr_G G a b k i = G k i := fun k i h1 h2 => e k i (by omega) (by omega) (by omega) (by omega)
  have wz : ∀ k i, i ≤ G 4 0 → (w_d w (G 4 0) g1 g2).1 k i = w.1 k i := fun k i hi => if_neg (by omega)
  have wl : ∀ i, i ≤ G 4 0 → (w_d w (G 4 0) g1 g2).2.1 i = w.2.1 i := fun i hi => if_neg (by omega)
  have we : ∀ i, i ≤ G 4 0 → (w_d w (G 4 0) g1 g2).2.2.1 i = w.2.2.1 i := fun i hi => if_neg (by omega)
  have AA : cc_A (dr_G G a b) (w_d w (G 4 0) g1 g2) := by
    intro d k hd hk
    rw [e4] at hd
    rw [e 11 _ (by decide) (by decide) (by decide) (by decide)]
    by_cases ed : d = G 4 0
    · have : (w_d w (G 4 0) g1 g2).2.2.2.2.2.2.2 d = 0 := if_pos ed
      rw [this, hZ.2.2 d k (Or.inl (by omega)) hk, Int32.zero_and]
      exact ⟨fun _ => rfl, fun _ => rfl⟩
    · have : (w_d w (G 4 0) g1 g2).2.2.2.2.2.2.2 d = w.2.2.2.2.2.2.2 d := if_neg ed
      rw [this]
      exact hA d k (by omega) hk
  refine ⟨⟨by rw [wz 0 0 (by omega), e19]; exact m1, by rw [wz 1 0 (by omega), e22]; exact m2, cc_k_of m3 et e19 e22 (wz 0 0 (by omega)) (wz 1 0 (by omega)) (wl 0 (by omega)) (we 0 (by omega)), fun d hd hne => ?_, AA.five (by rw [e4]; omega), fun k q hk hk2 hq => ?_, cc_U_of m7 (e 32 0 (by decide) (by decide) (by decide) (by decide)) (fun q => e 33 q (by decide) (by decide) (by decide) (by decide)) rfl⟩, ⟨fun q hq => ?_, fun i hi => ?_⟩, AA⟩
  · rw [e4] at hd
    have ed : d ≠ G 4 0 := fun q => hne (by rw [q]; exact dr_G_10)
    rw [dr_G_i (by decide) ed] at hne ⊢
    exact cc_k_of (m4 d (by omega) hne) et e19 e22 (wz 0 _ (by omega)) (wz 1 _ (by omega)) (wl _ (by omega)) (we _ (by omega))
  · rw [e 34 0 (by decide) (by decide) (by decide) (by decide)] at hk2
    rw [e (35 + q) k (by omega) (by omega) (by omega) (by omega)]
    exact m6 k q hk hk2 hq
  · rw [et 28 0 (by decide) (by decide)] at hq
    rw [et 29 q (by decide) (by decide), et 30 q (by decide) (by decide), e19, e22]
    exact t1 q hq
  · rw [e4] at hi
    rw [e19, e22]
    by_cases ei : i = G 4 0 + 1
    · have w0 : (w_d w (G 4 0) g1 g2).1 0 i = 0 := if_pos ei
      have w1 : (w_d w (G 4 0) g1 g2).1 1 i = 0 := if_pos ei
      rw [w0, w1]
      exact ⟨Nat.zero_le _, Nat.zero_le _⟩
    · rw [wz 0 i (by omega), wz 1 i (by omega)]
      exact t2 i (by omega)
theorem A_air {a b o : Nat} (hA : cc_A G w) (ha : a < G 4 0) (hb : b < G 4 0) (hab : a ≠ b) (h4 : G 4 0 ≤ 30) (ho : o < 2) : cc_A (mm_up (mm_up G 11 (30 * a + b) o) 11 (30 * b + a) o) (w_al w a b o) := by
  have set : ∀ (x : Int32) (k j : Nat), k < 30 → j < 30 → (al_s x k o &&& (1 <<< (nI j &&& 31)) = 0 ↔ if j = k then o = 0 else x &&& (1 <<< (nI j &&& 31)) = 0) := by
    intro x k j hk hj
    unfold al_s
    rcases (show o = 0 ∨ o = 1 by omega) with rfl | rfl
    · rw [if_pos rfl, Int32.and_assoc, al_not (by omega) (by omega)]
      by_cases e : j = k
      · rw [if_pos e, if_pos e.symm, Int32.and_zero]
        simp
      · rw [if_neg e, if_neg (fun q => e q.symm)]
    · rw [if_neg (by decide), al_or, al_and (by omega) (by omega)]
      by_cases e : j = k
      · rw [if_pos e]
        exact ⟨fun q => absurd e.symm q.2, fun q => absurd q (by decide)⟩
      · rw [if_neg e]
        exact ⟨fun q => q.1, fun q => ⟨q, fun z => e z.symm⟩⟩
  intro d k hd hk
  have hd2 : d < G 4 0 := hd
  rw [mm_up_at, mm_up_at]
  unfold w_al
  by_cases e1 : d = b
  · have v : (w_o (w_o w a (al_s (w.2.2.2.2.2.2.2 a) b o)) b (al_s (w.2.2.2.2.2.2.2 b) a o)).2.2.2.2.2.2.2 d = al_s (w.2.2.2.2.2.2.2 b) a o := if_pos e1
    rw [v, set _ _ _ (by omega) hk]
    by_cases e2 : k = a
    · rw [if_pos e2, if_pos (by omega)]
    · rw [if_neg e2, if_neg (by omega), if_neg (by omega), e1]
      exact hA b k hb hk
  · by_cases e3 : d = a
    · have v : (w_o (w_o w a (al_s (w.2.2.2.2.2.2.2 a) b o)) b (al_s (w.2.2.2.2.2.2.2 b) a o)).2.2.2.2.2.2.2 d = al_s (w.2.2.2.2.2.2.2 a) b o := (if_neg e1).trans (if_pos e3)
      rw [v, set _ _ _ (by omega) hk]
      by_cases e2 : k = b
      · rw [if_pos e2]
        by_cases e4 : 30 * d + k = 30 * b + a
        · rw [if_pos e4]
        · rw [if_neg e4, if_pos (by omega)]
      · rw [if_neg e2, if_neg (by omega), if_neg (by omega), e3]
        exact hA a k ha hk
    · have v : (w_o (w_o w a (al_s (w.2.2.2.2.2.2.2 a) b o)) b (al_s (w.2.2.2.2.2.2.2 b) a o)).2.2.2.2.2.2.2 d = w.2.2.2.2.2.2.2 d := (if_neg e1).trans (if_neg e3)
      rw [v, if_neg (by omega), if_neg (by omega)]
      exact hA d k hd2 hk
theorem M_air {a b o : Nat} (hM : cc_M G w) (hA : cc_A G w) (ha : a < G 4 0) (hb : b < G 4 0) (hab : a ≠ b) (h4 : G 4 0 ≤ 30) (ho : o < 2) : cc_M (mm_up (mm_up G 11 (30 * a + b) o) 11 (30 * b + a) o) (w_al w a b o) := by
  obtain ⟨m1, m2, m3, m4, m5, m6, m7⟩ := hM
  have et : ∀ k i, 28 ≤ k → k ≤ 31 → mm_up (mm_up G 11 (30 * a + b) o) 11 (30 * b + a) o k i = G k i := fun k i h1 h2 => by rw [mm_up_k _ _ _ _ (by omega), mm_up_k _ _ _ _ (by omega)]
  refine ⟨m1, m2, cc_k_of m3 et rfl rfl rfl rfl rfl rfl, fun d hd hne => cc_k_of (m4 d hd hne) et rfl rfl rfl rfl rfl rfl, (A_air hA ha hb hab h4 ho).five h4, fun k q hk hk2 hq => ?_, cc_U_of m7 rfl (fun _ => rfl) rfl⟩
  rw [mm_up_k _ _ _ _ (by omega), mm_up_k _ _ _ _ (by omega)]
  exact m6 k q hk hk2 hq
theorem M_offon {d : Nat} (hM : cc_M G w) (hT : cc_T G w) (hB : cc_B G t) (hd : d < G 4 0) : cc_M (mm_up G 10 d (G 28 0)) (w_c w d) ∧ cc_T (mm_up G 10 d (G 28 0)) (w_c w d) := by
  obtain ⟨m1, m2, m3, m4, m5, m6, m7⟩ := hM
  obtain ⟨t1, t2⟩ := hT
  have h28 : G 28 0 ≤ 9000 := by
    have := hB.2.2.2.2.2.2.1
    have := hB.2.2.2.2.2.2.2.2.2.1
    omega
  have et : ∀ k i, 28 ≤ k → k ≤ 31 → mm_up G 10 d (G 28 0) k i = G k i := fun k i h1 h2 => mm_up_k _ _ _ _ (by omega)
  have wz : ∀ k i, i ≠ d + 1 → (w_c w d).1 k i = w.1 k i := fun k i hi => if_neg hi
  have wl : ∀ i, i ≠ d + 1 → (w_c w d).2.1 i = w.2.1 i := fun i hi => if_neg hi
  have we : ∀ i, i ≠ d + 1 → (w_c w d).2.2.1 i = w.2.2.1 i := fun i hi => if_neg hi
  have cp : ∀ (f g : Nat → Int32) (N i : Nat), i < N → va_cpy f g 0 0 N i = f i := fun f g N i hi => by simp [va_cpy, hi]
  refine ⟨⟨by rw [wz 0 0 (by omega)]; exact m1, by rw [wz 1 0 (by omega)]; exact m2, cc_k_of m3 et rfl rfl (wz 0 0 (by omega)) (wz 1 0 (by omega)) (wl 0 (by omega)) (we 0 (by omega)), fun d' hd' hne => ?_, m5, fun k q hk hk2 hq => ?_, cc_U_of m7 rfl (fun _ => rfl) rfl⟩, t1, fun i hi => ?_⟩
  · by_cases e : d' = d
    · subst e
      rw [mm_up_s]
      have v0 : (w_c w d').1 0 (d' + 1) = w.1 0 0 := if_pos rfl
      have v1 : (w_c w d').1 1 (d' + 1) = w.1 1 0 := if_pos rfl
      have v2 : (w_c w d').2.1 (d' + 1) = va_cpy (w.2.1 0) (w.2.1 (d' + 1)) 0 0 60 := if_pos rfl
      have v3 : (w_c w d').2.2.1 (d' + 1) = va_cpy (w.2.2.1 0) (w.2.2.1 (d' + 1)) 0 0 16 := if_pos rfl
      obtain ⟨k1, k2, k3, k4, k5, k6⟩ := m3
      have te : ∀ kd x, mm_to (mm_up G 10 d' (G 28 0)) kd x (G 28 0) = mm_to G kd x 9000 := fun kd x => by rw [to_up (Or.inl (by decide)), to_now h28]
      refine ⟨fun c hc => ?_, fun r hr => ?_, by rw [v0]; exact k3, by rw [v1]; exact k4, fun c hc => ?_, fun r hr => ?_⟩
      · rw [v0, te]
        exact k1 c hc
      · rw [v1, te]
        exact k2 r hr
      · rw [v2, te, cp _ _ _ _ hc]
        exact k5 c hc
      · rw [v3, te, cp _ _ _ _ hr]
        exact k6 r hr
    · rw [mm_up_i _ _ _ _ e] at hne ⊢
      exact cc_k_of (m4 d' hd' hne) et rfl rfl (wz 0 _ (by omega)) (wz 1 _ (by omega)) (wl _ (by omega)) (we _ (by omega))
  · rw [mm_up_k _ _ _ _ (by omega)]
    exact m6 k q hk hk2 hq
  · by_cases e : i = d + 1
    · have v0 : (w_c w d).1 0 i = w.1 0 0 := if_pos e
      have v1 : (w_c w d).1 1 i = w.1 1 0 := if_pos e
      rw [v0, v1]
      exact t2 0 (Nat.zero_le _)
    · rw [wz 0 i e, wz 1 i e]
      exact t2 i hi
end MNG
