/-! THE CLASS's refusal is the reference's -/
theorem mm_ex_iff (P : Nat → Bool) : ∀ (j i : Nat), mm_ex P i j = true ↔ ∃ r, i ≤ r ∧ r < i + j ∧ P r = true
  | 0, i => by
    constructor
    · intro h
      cases h
    · rintro ⟨r, h1, h2, -⟩
      omega
  | j + 1, i => by
    have ih := mm_ex_iff P j (i + 1)
    show (P i || mm_ex P (i + 1) j) = true ↔ _
    rw [Bool.or_eq_true, ih]
    constructor
    · rintro (h | ⟨r, h1, h2, h3⟩)
      · exact ⟨i, by omega, by omega, h⟩
      · exact ⟨r, by omega, by omega, h3⟩
    · rintro ⟨r, h1, h2, h3⟩
      by_cases e : r = i
      · subst e
        exact Or.inl h3
      · exact Or.inr ⟨r, by omega, by omega, h3⟩
theorem mm_ex_eq {P Q : Nat → Bool} {n n' : Nat} (h1 : ∀ r, r < n → P r = true → r < n' ∧ Q r = true) (h2 : ∀ r, r < n' → Q r = true → r < n ∧ P r = true) : mm_ex P 0 n = mm_ex Q 0 n' := by
  have e : mm_ex P 0 n = true ↔ mm_ex Q 0 n' = true := by
    rw [mm_ex_iff, mm_ex_iff]
    constructor
    · rintro ⟨r, -, a, b⟩
      obtain ⟨c, d⟩ := h1 r (by omega) b
      exact ⟨r, by omega, by omega, d⟩
    · rintro ⟨r, -, a, b⟩
      obtain ⟨c, d⟩ := h2 r (by omega) b
      exact ⟨r, by omega, by omega, d⟩
  cases ha : mm_ex P 0 n <;> cases hb : mm_ex Q 0 n'
  · rfl
  · rw [ha, hb] at e
    exact absurd (e.mpr rfl) (by decide)
  · rw [ha, hb] at e
    exact absurd (e.mp rfl) (by decide)
  · rfl
/-- a telling's minute: none, or a natural one -/
theorem mm_lk_c {G : mm_G} (kd w : Nat) : ∀ t : Nat, (∀ q, q < t → G 31 q < 2 ^ 31) → mm_lk G kd w t = -1 ∨ ∃ v, v < 2 ^ 31 ∧ mm_lk G kd w t = nI v
  | 0, _ => Or.inl rfl
  | t + 1, h => by
    unfold mm_lk
    split
    · exact Or.inr ⟨_, h t (by omega), rfl⟩
    · exact mm_lk_c kd w t (fun q hq => h q (by omega))
theorem mm_to_c2 {G : mm_G} (kd w b : Nat) (h : ∀ q, q < G 28 0 → G 31 q < 2 ^ 31) : mm_to G kd w b = -1 ∨ ∃ v, v < 2 ^ 31 ∧ mm_to G kd w b = nI v := by
  unfold mm_to
  exact mm_lk_c kd w _ (fun q hq => h q (by split at hq <;> omega))
/-- such a value is below 0 only as none -/
theorem mm_neg {x : Int32} (h : x = -1 ∨ ∃ v, v < 2 ^ 31 ∧ x = nI v) : (x < 0 ↔ x = -1) ∧ (0 ≤ x ↔ ¬ x = -1) := by
  rcases h with rfl | ⟨v, hv, rfl⟩
  · exact ⟨by decide, by decide⟩
  · have h1 : ¬ nI v < 0 := nI_pos hv
    have h2 : ¬ nI v = -1 := fun e => by
      rw [e] at h1
      exact h1 (by decide)
    exact ⟨⟨fun q => absurd q h1, fun q => absurd q h2⟩, ⟨fun _ => h2, fun _ => Int32.not_lt.mp h1⟩⟩
theorem kn_fr_iff {x m : Int32} (h : x = -1 ∨ ∃ v, v < 2 ^ 31 ∧ x = nI v) : kn_fr x m = true ↔ (¬ x < 0 ∧ ¬ m < x) := by
  unfold kn_fr
  rw [(mm_neg h).1]
  simp
section RBE
variable {A : Nat → Nat → Nat} {G : mm_G} {w : cc_W}
/-- the card's own part -/
theorem rb_c_eq {i c b m : Nat} (hk : cc_k G w i b) (hc : c < G 19 0) (h19 : G 19 0 ≤ 60) (h31 : ∀ q, q < G 28 0 → G 31 q < 2 ^ 31) : rb_c G w i c (nI m) = (if ¬ 0 ≤ mm_to G 0 c b then 1 else if ¬ nI m ≤ nI (G 21 c) then 2 else if ¬ mm_to G 3 c b < 0 ∧ ¬ nI m < mm_to G 3 c b then 3 else 0) := by
  obtain ⟨k1, -, k3, -, k5, -⟩ := hk
  have e1 : (!decide (nI (w.1 0 i) ≤ nI c)) = true ↔ 0 ≤ mm_to G 0 c b := by
    rw [← k1 c hc]
    simp only [Bool.not_eq_true', decide_eq_false_iff_not]
    constructor
    · intro q
      exact cr_ltof (by omega) q
    · intro q
      exact cr_nle q (by omega)
  unfold rb_c cd_wy
  rw [k5 c (by omega)]
  by_cases a1 : 0 ≤ mm_to G 0 c b
  · rw [if_pos (e1.mpr a1), if_neg (show ¬ ¬ 0 ≤ mm_to G 0 c b from fun q => q a1)]
    by_cases a2 : nI m ≤ nI (G 21 c)
    · rw [if_pos a2, if_neg (show ¬ ¬ nI m ≤ nI (G 21 c) from fun q => q a2)]
      have e3 := kn_fr_iff (m := nI m) (mm_to_c2 (G := G) 3 c b h31)
      by_cases a3 : ¬ mm_to G 3 c b < 0 ∧ ¬ nI m < mm_to G 3 c b
      · rw [if_pos a3, e3.mpr a3]
        rfl
      · rw [if_neg a3]
        have : kn_fr (mm_to G 3 c b) (nI m) = false := by
          cases q : kn_fr (mm_to G 3 c b) (nI m)
          · rfl
          · exact absurd (e3.mp q) a3
        rw [this]
        rfl
    · rw [if_neg a2, if_pos (show ¬ nI m ≤ nI (G 21 c) from a2)]
  · rw [if_neg (fun q => a1 (e1.mp q)), if_pos (show ¬ 0 ≤ mm_to G 0 c b from a1)]
/-- the rights' part -/
theorem rb_h_eq {i b m : Nat} {g9 z9 : Int32} (hk : cc_k G w i b) (h22 : G 22 0 ≤ 16) (h31 : ∀ q, q < G 28 0 → G 31 q < 2 ^ 31) : rb_h G w i g9 z9 (nI m) = mm_ex (mm_rp G g9 z9 (nI m - nI m / 1440 * 1440) m b) 0 (G 22 0) := by
  obtain ⟨-, k2, -, k4, -, k6⟩ := hk
  have key : ∀ r, r < G 22 0 → r < w.1 1 i → hr_P (fun r => nI (G 23 r)) (fun r => nI (G 24 r)) (fun r => nI (G 25 r)) (fun r => nI (G 26 r)) (fun r => nI (G 27 r)) (w.2.2.1 i) g9 z9 (nI m - nI m / 1440 * 1440) (nI m) r = mm_rp G g9 z9 (nI m - nI m / 1440 * 1440) m b r := by
    intro r hr hr2
    have c1 := mm_to_c2 (G := G) 1 r b h31
    have c2 := mm_to_c2 (G := G) 2 r b h31
    have t1 : ¬ mm_to G 1 r b < 0 := by
      have := (k2 r hr).mp hr2
      exact Int32.not_lt.mpr this
    unfold hr_P mm_rp mm_ho mm_sp
    rw [ri_eq, k6 r (by omega)]
    have e2 : (!kn_fr (mm_to G 2 r b) (nI m)) = (decide (mm_to G 2 r b < 0) || !decide (mm_to G 2 r b ≤ nI m)) := by
      unfold kn_fr
      by_cases q1 : mm_to G 2 r b = -1
      · have q2 := (mm_neg c2).1.mpr q1
        simp [q1]
      · have q2 : ¬ mm_to G 2 r b < 0 := fun q => q1 ((mm_neg c2).1.mp q)
        by_cases q3 : nI m < mm_to G 2 r b
        · have q4 : ¬ mm_to G 2 r b ≤ nI m := Int32.not_le.mpr q3
          simp [q1, q2, q3, q4]
        · have q4 : mm_to G 2 r b ≤ nI m := Int32.not_lt.mp q3
          simp [q1, q2, q3, q4]
    rw [e2]
    simp only [t1, decide_false, Bool.not_false, Bool.true_and]
    rw [Bool.and_comm]
  unfold rb_h
  refine mm_ex_eq (fun r hr q => ?_) (fun r hr q => ?_)
  · rw [key r (by omega) (by omega)] at q
    exact ⟨by omega, q⟩
  · have t1 : r < w.1 1 i := by
      rw [k2 r hr]
      unfold mm_rp mm_ho at q
      simp only [Bool.and_eq_true, Bool.not_eq_true', decide_eq_false_iff_not] at q
      exact Int32.not_lt.mp q.1.1
    rw [key r hr t1]
    exact ⟨by omega, q⟩
/-- the airlocks' part -/
theorem rb_a_eq {d : Nat} (hd : d < G 4 0) (hM : ∀ d k, d < G 4 0 → k < G 4 0 → (w.2.2.2.2.2.2.2 d &&& (1 <<< (nI k &&& 31)) = 0 ↔ G 11 (30 * d + k) = 0)) (h11 : ∀ q, G 11 q < 2) : rb_a G w d = mm_ex (mm_lo G d) 0 (G 4 0) := by
  have key : ∀ k, k < G 4 0 → ao_P (fun k => nI (G 8 k)) (w.2.2.2.2.2.2.2 d) k = mm_lo G d k := by
    intro k hk
    unfold ao_P mm_lo
    have e : (nI (G 11 (30 * d + k)) = 0 ↔ G 11 (30 * d + k) = 0) := nI_eq (b := 0) (by have := h11 (30 * d + k); omega) (by decide)
    have e2 : decide (w.2.2.2.2.2.2.2 d &&& (1 <<< (nI k &&& 31)) = 0) = decide (nI (G 11 (30 * d + k)) = 0) := by
      rw [decide_eq_decide, hM d k hd hk, e]
    rw [e2, Bool.and_comm]
  unfold rb_a
  exact mm_ex_eq (fun r hr q => ⟨hr, by rw [← key r hr]; exact q⟩) (fun r hr q => ⟨hr, by rw [key r hr]; exact q⟩)
/-- the whole refusal, by the knowledge i of the tellings before b -/
theorem rb_w_eq {i c d room m : Nat} (hi : i = cond (!decide (G 10 d = 9000)) (d + 1) 0) (hk : cc_k G w i (G 10 d)) (hc : c < G 19 0) (hd : d < G 4 0) (hr : room < G 2 0) (h5 : G 5 d < G 2 0) (h6 : G 6 d < G 2 0) (hp : G 18 (G 20 c) < G 2 0) (h2 : G 2 0 ≤ 20) (h19 : G 19 0 ≤ 60) (h22 : G 22 0 ≤ 16) (h10 : G 10 d < 2 ^ 31) (h31 : ∀ q, q < G 28 0 → G 31 q < 2 ^ 31)
    (hM : ∀ d k, d < G 4 0 → k < G 4 0 → (w.2.2.2.2.2.2.2 d &&& (1 <<< (nI k &&& 31)) = 0 ↔ G 11 (30 * d + k) = 0)) (h11 : ∀ q, G 11 q < 2) (hA : ∀ a b, a < G 2 0 → b < G 2 0 → A 0 a = A 0 b → a = b) : rb_w A G w c d room (nI m) = mm_rf G c d room m := by
  have eA : ∀ a b, a < G 2 0 → b < G 2 0 → (A 0 a = A 0 b ↔ nI a = nI b) := fun a b ha hb => ⟨fun q => by rw [hA a b ha hb q], fun q => by rw [(nI_eq (by omega) (by omega)).mp q]⟩
  have e9 : nI (G 10 d) = 9000 ↔ G 10 d = 9000 := nI_eq (b := 9000) h10 (by decide)
  have ec := rb_c_eq (m := m) hk hc h19 h31
  have eh := rb_h_eq (m := m) (g9 := nI (G 17 (G 20 c))) (z9 := nI (G 3 room)) hk h22 h31
  have ea := rb_a_eq (w := w) hd hM h11
  unfold rb_w mm_rf mm_wy
  rw [← hi, ec, eh, ea]
  by_cases a1 : 0 ≤ mm_to G 0 c (G 10 d)
  · by_cases a2 : nI m ≤ nI (G 21 c)
    · by_cases a3 : ¬ mm_to G 3 c (G 10 d) < 0 ∧ ¬ nI m < mm_to G 3 c (G 10 d)
      · simp only [a1, a2, a3, not_true, not_false_iff, if_true, if_false, and_self]
        rw [if_neg (by decide), if_neg (by decide)]
      · have f4 : ((!decide (G 10 d = 9000)) = false ∧ ¬ A 0 (G 18 (G 20 c)) = (if A 0 room = A 0 (G 5 d) then A 0 (G 6 d) else A 0 (G 5 d))) ↔ (¬ mm_fr G d room < 0 ∧ ¬ nI (G 18 (G 20 c)) = mm_fr G d room) := by
          unfold mm_fr
          by_cases q : G 10 d = 9000
          · rw [if_pos (e9.mpr q)]
            by_cases q5 : A 0 room = A 0 (G 5 d)
            · rw [if_pos q5, if_pos ((eA _ _ hr h5).mp q5), eA _ _ hp h6]
              have := nI_pos (show G 6 d < 2 ^ 31 by omega)
              simp [q, this]
            · rw [if_neg q5, if_neg (fun q6 => q5 ((eA _ _ hr h5).mpr q6)), eA _ _ hp h5]
              have := nI_pos (show G 5 d < 2 ^ 31 by omega)
              simp [q, this]
          · rw [if_neg (fun q6 => q (e9.mp q6))]
            have : (-1 : Int32) < 0 := by decide
            simp [q, this]
        have t1 : ¬ ¬ 0 ≤ mm_to G 0 c (G 10 d) := fun q => q a1
        have t2 : ¬ ¬ nI m ≤ nI (G 21 c) := fun q => q a2
        rw [if_neg t1, if_neg t2, if_neg a3, if_neg t1, if_neg t2, if_neg a3, if_pos rfl]
        by_cases a4 : ¬ mm_fr G d room < 0 ∧ ¬ nI (G 18 (G 20 c)) = mm_fr G d room
        · rw [if_pos (f4.mpr a4), if_pos a4, if_neg (by decide)]
        · rw [if_neg (fun q => a4 (f4.mp q)), if_neg a4]
          cases mm_ex (mm_rp G (nI (G 17 (G 20 c))) (nI (G 3 room)) (nI m - nI m / 1440 * 1440) m (G 10 d)) 0 (G 22 0)
          · rfl
          · rfl
    · have t1 : ¬ ¬ 0 ≤ mm_to G 0 c (G 10 d) := fun q => q a1
      rw [if_neg t1, if_neg t1, if_pos a2, if_pos a2, if_neg (by decide), if_neg (by decide)]
  · rw [if_pos a1, if_pos a1, if_neg (by decide), if_neg (by decide)]
end RBE
