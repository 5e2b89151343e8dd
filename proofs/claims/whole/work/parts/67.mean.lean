/-! The meaning stays: end, lost -/
section MEA
variable {G : mm_G} {w : cc_W}
theorem cc_M_end {r m : Nat} (hM : cc_M G w) (ht : G 28 0 < 9000) (h10 : ∀ d, d < G 4 0 → G 10 d ≠ 9000 → G 10 d ≤ G 28 0) : cc_M (mm_tl G 2 r m) (w_e w r (nI m)) := by
  obtain ⟨m1, m2, m3, m4, m5, m6, m7⟩ := hM
  have e1 : ∀ a b, a ≠ 28 → a ≠ 29 → a ≠ 30 → a ≠ 31 → mm_tl G 2 r m a b = G a b := fun a b h1 h2 h3 h4 => tl_k h1 h2 h3 h4
  have a19 := e1 19 0 (by decide) (by decide) (by decide) (by decide)
  have a22 := e1 22 0 (by decide) (by decide) (by decide) (by decide)
  have a4 := e1 4 0 (by decide) (by decide) (by decide) (by decide)
  have a34 := e1 34 0 (by decide) (by decide) (by decide) (by decide)
  have a32 := e1 32 0 (by decide) (by decide) (by decide) (by decide)
  refine ⟨by rw [a19]; exact m1, by rw [a22]; exact m2, ?_, ?_, ?_, ?_, ?_⟩
  · obtain ⟨k1, k2, k3, k4, k5, k6⟩ := m3
    refine ⟨fun c hc => ?_, fun q hq => ?_, k3, k4, fun c hc => ?_, fun q hq => ?_⟩
    · rw [a19] at hc
      rw [tl_new ht, if_neg (fun q => absurd q.1 (by decide))]
      exact k1 c hc
    · rw [a22] at hq
      rw [tl_new ht, if_neg (fun q => absurd q.1 (by decide))]
      exact k2 q hq
    · rw [tl_new ht, if_neg (fun q => absurd q.1 (by decide))]
      exact k5 c hc
    · rw [tl_new ht]
      show (if (0 : Nat) = 0 then upd (w.2.2.1 0) r (nI m) else w.2.2.1 0) q = _
      rw [if_pos rfl]
      by_cases e : q = r
      · rw [if_pos ⟨rfl, e⟩, e]
        simp [upd]
      · rw [if_neg (fun z => e z.2)]
        have : upd (w.2.2.1 0) r (nI m) q = w.2.2.1 0 q := by simp [upd, e]
        rw [this]
        exact k6 q hq
  · intro d hd hne
    rw [a4] at hd
    have a10 := e1 10 d (by decide) (by decide) (by decide) (by decide)
    rw [a10] at hne ⊢
    have hb := h10 d hd hne
    obtain ⟨k1, k2, k3, k4, k5, k6⟩ := m4 d hd hne
    refine ⟨fun c hc => ?_, fun q hq => ?_, k3, k4, fun c hc => ?_, fun q hq => ?_⟩
    · rw [a19] at hc
      rw [tl_old hb]
      exact k1 c hc
    · rw [a22] at hq
      rw [tl_old hb]
      exact k2 q hq
    · rw [tl_old hb]
      exact k5 c hc
    · rw [tl_old hb]
      show (if d + 1 = 0 then upd (w.2.2.1 0) r (nI m) else w.2.2.1 (d + 1)) q = _
      rw [if_neg (by omega)]
      exact k6 q hq
  · intro d k hd hk
    rw [a4] at hd hk
    rw [e1 11 _ (by decide) (by decide) (by decide) (by decide)]
    exact m5 d k hd hk
  · intro k q hk hk2 hq
    rw [a34] at hk2
    rw [e1 (35 + q) k (by omega) (by omega) (by omega) (by omega)]
    exact m6 k q hk hk2 hq
  · intro u hu
    have e2 : mm_eu (mm_tl G 2 r m) u = mm_eu G u := by
      funext k
      unfold mm_eu
      rw [e1 33 k (by decide) (by decide) (by decide) (by decide)]
    rw [a32, e2]
    exact m7 u hu
theorem cc_M_lost {r m : Nat} (hM : cc_M G w) (ht : G 28 0 < 9000) (h10 : ∀ d, d < G 4 0 → G 10 d ≠ 9000 → G 10 d ≤ G 28 0) : cc_M (mm_tl G 3 r m) (w_l w r (nI m)) := by
  obtain ⟨m1, m2, m3, m4, m5, m6, m7⟩ := hM
  have e1 : ∀ a b, a ≠ 28 → a ≠ 29 → a ≠ 30 → a ≠ 31 → mm_tl G 3 r m a b = G a b := fun a b h1 h2 h3 h4 => tl_k h1 h2 h3 h4
  have a19 := e1 19 0 (by decide) (by decide) (by decide) (by decide)
  have a22 := e1 22 0 (by decide) (by decide) (by decide) (by decide)
  have a4 := e1 4 0 (by decide) (by decide) (by decide) (by decide)
  have a34 := e1 34 0 (by decide) (by decide) (by decide) (by decide)
  have a32 := e1 32 0 (by decide) (by decide) (by decide) (by decide)
  refine ⟨by rw [a19]; exact m1, by rw [a22]; exact m2, ?_, ?_, ?_, ?_, ?_⟩
  · obtain ⟨k1, k2, k3, k4, k5, k6⟩ := m3
    refine ⟨fun c hc => ?_, fun q hq => ?_, k3, k4, fun c hc => ?_, fun q hq => ?_⟩
    · rw [a19] at hc
      rw [tl_new ht, if_neg (fun q => absurd q.1 (by decide))]
      exact k1 c hc
    · rw [a22] at hq
      rw [tl_new ht, if_neg (fun q => absurd q.1 (by decide))]
      exact k2 q hq
    · rw [tl_new ht]
      show (if (0 : Nat) = 0 then upd (w.2.1 0) r (nI m) else w.2.1 0) c = _
      rw [if_pos rfl]
      by_cases e : c = r
      · rw [if_pos ⟨rfl, e⟩, e]
        simp [upd]
      · rw [if_neg (fun z => e z.2)]
        have : upd (w.2.1 0) r (nI m) c = w.2.1 0 c := by simp [upd, e]
        rw [this]
        exact k5 c hc
    · rw [tl_new ht, if_neg (fun q => absurd q.1 (by decide))]
      exact k6 q hq
  · intro d hd hne
    rw [a4] at hd
    have a10 := e1 10 d (by decide) (by decide) (by decide) (by decide)
    rw [a10] at hne ⊢
    have hb := h10 d hd hne
    obtain ⟨k1, k2, k3, k4, k5, k6⟩ := m4 d hd hne
    refine ⟨fun c hc => ?_, fun q hq => ?_, k3, k4, fun c hc => ?_, fun q hq => ?_⟩
    · rw [a19] at hc
      rw [tl_old hb]
      exact k1 c hc
    · rw [a22] at hq
      rw [tl_old hb]
      exact k2 q hq
    · rw [tl_old hb]
      show (if d + 1 = 0 then upd (w.2.1 0) r (nI m) else w.2.1 (d + 1)) c = _
      rw [if_neg (by omega)]
      exact k5 c hc
    · rw [tl_old hb]
      exact k6 q hq
  · intro d k hd hk
    rw [a4] at hd hk
    rw [e1 11 _ (by decide) (by decide) (by decide) (by decide)]
    exact m5 d k hd hk
  · intro k q hk hk2 hq
    rw [a34] at hk2
    rw [e1 (35 + q) k (by omega) (by omega) (by omega) (by omega)]
    exact m6 k q hk hk2 hq
  · intro u hu
    have e2 : mm_eu (mm_tl G 3 r m) u = mm_eu G u := by
      funext k
      unfold mm_eu
      rw [e1 33 k (by decide) (by decide) (by decide) (by decide)]
    rw [a32, e2]
    exact m7 u hu
end MEA
