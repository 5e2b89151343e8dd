/-! The class's fewest is the reference's -/
section FSM
variable {G : mm_G}
theorem us_iff {u : Nat} (hu : u < 144000) (h33 : ∀ q, q < G 32 0 → G 33 q < 144000) : us_u9 G u ↔ ∃ q, q < G 32 0 ∧ G 33 q = u := by
  unfold us_u9
  rw [mm_ex_iff]
  constructor
  · rintro ⟨r, -, h2, h3⟩
    unfold mm_eu at h3
    rw [decide_eq_true_iff] at h3
    have := h33 r (by omega)
    exact ⟨r, by omega, (nI_eq (by omega) (by omega)).mp h3⟩
  · rintro ⟨q, h1, h2⟩
    refine ⟨q, Nat.zero_le _, by omega, ?_⟩
    unfold mm_eu
    rw [h2]
    simp
theorem fs_met {n : Nat} {f : Nat → Nat} (I : fs_I G n f 144000) (h33 : ∀ q, q < G 32 0 → G 33 q < 144000) (m : Nat) : fw_meet (lf f 0 n) m ↔ fr_met G m := by
  obtain ⟨h1, h2, h3, h4, h5⟩ := I
  constructor
  · intro hm q hq h0
    obtain ⟨i, hi, e⟩ := h4 (G 33 q) (h33 q hq) ((us_iff (h33 q hq) h33).mpr ⟨q, hq, rfl⟩) h0
    rw [← e]
    exact hm _ ((lf_mem f _ n 0).mpr ⟨i, Nat.zero_le _, by omega, rfl⟩)
  · intro hm s hs
    obtain ⟨i, -, hi, e⟩ := (lf_mem f s n 0).mp hs
    obtain ⟨u, u1, u2, u3⟩ := h5 i (by omega)
    obtain ⟨q, q1, q2⟩ := (us_iff u1 h33).mp u2
    have h0 := (h2 i (by omega)).2
    rw [← e, u3, ← q2]
    exact hm q q1 (by rw [q2, ← u3]; exact h0)
theorem fw_lo_at (S : List Nat) (k m : Nat) (hm : fw_lw S 16 0 k = some m) : ∀ (j i : Nat), i ≤ k → k < i + j → (∀ x, i ≤ x → x < k → fw_lw S 16 0 x = none) → fw_lo S i j = some m
  | 0, i, h1, h2, _ => by omega
  | j + 1, i, h1, h2, h3 => by
    show (match fw_lw S 16 0 i with | some m => some m | none => fw_lo S (i + 1) j) = some m
    by_cases e : i = k
    · rw [e, hm]
    · rw [h3 i (Nat.le_refl _) (by omega)]
      exact fw_lo_at S k m hm j (i + 1) (by omega) (by omega) (fun x hx1 hx2 => h3 x (by omega) hx2)
/-- bits above the rights serve nothing -/
theorem fr_cut {m : Nat} (hm : fr_met G m) : fr_met G (m &&& (2 ^ G 22 0 - 1)) := by
  intro q hq h0
  have lt : nd G (G 33 q) < 2 ^ G 22 0 := fw_set_lt (G 23) (G 24) (G 25) (G 26) (G 33 q / 1440 / 10) (G 33 q / 1440 % 10) (G 33 q % 1440) (G 22 0)
  have e : nd G (G 33 q) &&& (m &&& (2 ^ G 22 0 - 1)) = nd G (G 33 q) &&& m := by
    rw [← Nat.and_assoc, Nat.and_comm _ m, Nat.and_assoc, Nat.and_two_pow_sub_one_of_lt_two_pow lt, Nat.and_comm]
  rw [e]
  exact hm q hq h0
theorem fw_same {n b : Nat} {f : Nat → Nat} (I : fs_I G n f 144000) (hb : fr_is G b) (h22 : G 22 0 ≤ 16) (h33 : ∀ q, q < G 32 0 → G 33 q < 144000) : ow (fw_lo (lf f 0 n) 0 17) = nI b := by
  obtain ⟨hb1, hb2, hb3⟩ := hb
  have e16 : 2 ^ G 22 0 ≤ 2 ^ 16 := Nat.pow_le_pow_right (by decide) h22
  have hpp := Nat.two_pow_pos (G 22 0)
  have ok := fun k => fw_lw_ok (lf f 0 n) 16 0 k rfl
  -- one that meets: its low part is no better than b
  have low : ∀ m, fw_meet (lf f 0 n) m → fw_pc (m &&& (2 ^ G 22 0 - 1)) 16 ≤ fw_pc m 16 ∧ m &&& (2 ^ G 22 0 - 1) ≤ m ∧ (fw_pc b 16 < fw_pc (m &&& (2 ^ G 22 0 - 1)) 16 ∨ (fw_pc b 16 = fw_pc (m &&& (2 ^ G 22 0 - 1)) 16 ∧ b ≤ m &&& (2 ^ G 22 0 - 1))) := by
    intro m hm
    refine ⟨fw_pc_le (fun i h => by rw [Nat.testBit_and] at h; simp at h; exact h.1) 16, Nat.and_le_left, ?_⟩
    exact hb3 _ (Nat.lt_of_le_of_lt Nat.and_le_right (by omega)) (fr_cut ((fs_met I h33 m).mp hm))
  have none_lt : ∀ i, i < fw_pc b 16 → fw_lw (lf f 0 n) 16 0 i = none := by
    intro i hi
    cases hl : fw_lw (lf f 0 n) 16 0 i with
    | none => rfl
    | some m =>
      obtain ⟨⟨x, h1, h2, h3, h4⟩, -⟩ := (ok i).1 m hl
      rw [Nat.zero_add] at h3
      subst h3
      obtain ⟨q1, q2, q3⟩ := low m h4
      omega
  have vb : fw_val (lf f 0 n) 0 16 (fw_pc b 16) b := ⟨b, by omega, Nat.le_refl _, (Nat.zero_add b).symm, (fs_met I h33 b).mpr hb2⟩
  have some_b : fw_lw (lf f 0 n) 16 0 (fw_pc b 16) = some b := by
    cases hl : fw_lw (lf f 0 n) 16 0 (fw_pc b 16) with
    | none => exact absurd vb ((ok _).2 hl b)
    | some m =>
      obtain ⟨⟨x, h1, h2, h3, h4⟩, h5⟩ := (ok _).1 m hl
      rw [Nat.zero_add] at h3
      subst h3
      obtain ⟨q1, q2, q3⟩ := low m h4
      have q4 := h5 b vb
      congr 1
      omega
  have h16 := fw_pc_max b 16
  rw [fw_lo_at (lf f 0 n) (fw_pc b 16) b some_b 17 0 (Nat.zero_le _) (by omega) (fun x _ hx => none_lt x hx)]
  rfl
end FSM
