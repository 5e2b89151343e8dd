/-! Marks: one bit more, one bit less -/
theorem us_or (x y z : Int64) : (x ||| y) &&& z = 0 ↔ (x &&& z = 0 ∧ y &&& z = 0) := by
  rw [← Int64.toBitVec_inj, ← Int64.toBitVec_inj, ← Int64.toBitVec_inj]
  show (x.toBitVec ||| y.toBitVec) &&& z.toBitVec = 0#64 ↔ (x.toBitVec &&& z.toBitVec = 0#64 ∧ y.toBitVec &&& z.toBitVec = 0#64)
  rw [BitVec.and_or_distrib_right, BitVec.or_eq_zero_iff]
theorem al_or (x y z : Int32) : (x ||| y) &&& z = 0 ↔ (x &&& z = 0 ∧ y &&& z = 0) := by
  rw [← Int32.toBitVec_inj, ← Int32.toBitVec_inj, ← Int32.toBitVec_inj]
  show (x.toBitVec ||| y.toBitVec) &&& z.toBitVec = 0#32 ↔ (x.toBitVec &&& z.toBitVec = 0#32 ∧ y.toBitVec &&& z.toBitVec = 0#32)
  rw [BitVec.and_or_distrib_right, BitVec.or_eq_zero_iff]
theorem us_and0 : ∀ a b : Fin 64, ((1 : Int64) <<< ((nI a.1).toInt64 &&& 63) &&& 1 <<< ((nI b.1).toInt64 &&& 63) = 0 ↔ a.1 ≠ b.1) := by decide +kernel
theorem al_and0 : ∀ a b : Fin 32, ((1 : Int32) <<< (nI a.1 &&& 31) &&& 1 <<< (nI b.1 &&& 31) = 0 ↔ a.1 ≠ b.1) := by decide +kernel
theorem al_not0 : ∀ a b : Fin 32, ((((1 : Int32) <<< (nI a.1 &&& 31)) ^^^ (-1 : Int32)) &&& ((1 : Int32) <<< (nI b.1 &&& 31)) = if a.1 = b.1 then (0 : Int32) else (1 : Int32) <<< (nI b.1 &&& 31)) := by decide +kernel
theorem us_and {a b : Nat} (ha : a < 64) (hb : b < 64) : ((1 : Int64) <<< ((nI a).toInt64 &&& 63) &&& 1 <<< ((nI b).toInt64 &&& 63) = 0 ↔ a ≠ b) := us_and0 ⟨a, ha⟩ ⟨b, hb⟩
theorem al_and {a b : Nat} (ha : a < 32) (hb : b < 32) : ((1 : Int32) <<< (nI a &&& 31) &&& 1 <<< (nI b &&& 31) = 0 ↔ a ≠ b) := al_and0 ⟨a, ha⟩ ⟨b, hb⟩
theorem al_not {a b : Nat} (ha : a < 32) (hb : b < 32) : ((((1 : Int32) <<< (nI a &&& 31)) ^^^ (-1 : Int32)) &&& ((1 : Int32) <<< (nI b &&& 31)) = if a = b then (0 : Int32) else (1 : Int32) <<< (nI b &&& 31)) := al_not0 ⟨a, ha⟩ ⟨b, hb⟩
section BTS
variable {G : mm_G} {w : cc_W}
theorem vp_updL_at (f : Nat → Int64) (i : Nat) (v : Int64) (j : Nat) : vp_updL f i v j = if j = i then v else f j := rfl
/-- the marks after one use more -/
theorem cc_U_ad {u : Nat} {fb : Bool} (hU : cc_U G w) (hu : u < 144000) (h33 : ∀ q, q < G 32 0 → G 33 q < 144000) (hfb : (!mm_ex (mm_eu G u) 0 (G 32 0)) = fb) : cc_U (mm_ad G fb u) (w_u w fb u) := by
  cases fb with
  | false => exact hU
  | true =>
    intro u' hu'
    have e32 : mm_ad G true u 32 0 = G 32 0 + 1 := mm_up_s (mm_up G 33 (G 32 0) u) 32 0 _
    have ex : mm_ex (mm_eu (mm_ad G true u) u') 0 (G 32 0 + 1) = false ↔ (mm_ex (mm_eu G u') 0 (G 32 0) = false ∧ u ≠ u') := by
      have e33 : ∀ k, mm_ad G true u 33 k = if k = G 32 0 then u else G 33 k := fun k => by
        show mm_up (mm_up G 33 (G 32 0) u) 32 0 (G 32 0 + 1) 33 k = _
        rw [mm_up_k _ _ _ _ (by decide), mm_up_at]
      rw [← Bool.not_eq_true, ← Bool.not_eq_true, mm_ex_iff, mm_ex_iff]
      constructor
      · intro hn
        refine ⟨?_, ?_⟩
        · rintro ⟨r, -, h2, h3⟩
          refine hn ⟨r, Nat.zero_le _, by omega, ?_⟩
          unfold mm_eu at h3 ⊢
          rw [e33, if_neg (by omega)]
          exact h3
        · rintro rfl
          refine hn ⟨G 32 0, Nat.zero_le _, by omega, ?_⟩
          unfold mm_eu
          rw [e33, if_pos rfl]
          simp
      · rintro ⟨h1, h2⟩ ⟨r, -, h3, h4⟩
        unfold mm_eu at h4
        rw [e33] at h4
        by_cases er : r = G 32 0
        · rw [if_pos er, decide_eq_true_iff] at h4
          exact h2 ((nI_eq (by omega) (by omega)).mp h4)
        · rw [if_neg er] at h4
          exact h1 ⟨r, Nat.zero_le _, by omega, h4⟩
    rw [e32, ex, ← hU u' hu']
    show vp_updL w.2.2.2.2.1 (u / 64) (w.2.2.2.2.1 (u / 64) ||| us_bit u) (u' / 64) &&& _ = 0 ↔ _
    rw [vp_updL_at]
    by_cases e : u' / 64 = u / 64
    · rw [if_pos e, us_or, ← e]
      unfold us_bit
      rw [us_and (by omega) (by omega)]
      constructor
      · rintro ⟨h1, h2⟩
        exact ⟨h1, fun q => h2 (by rw [q])⟩
      · rintro ⟨h1, h2⟩
        exact ⟨h1, fun q => h2 (by omega)⟩
    · rw [if_neg e]
      constructor
      · intro h1
        exact ⟨h1, fun q => e (by rw [q])⟩
      · exact fun h1 => h1.1
theorem mm_lt_ad {c d room m k i : Nat} (h1 : k ≠ 18) (h2 : k ≠ 12) (h3 : k ≠ 13) (h4 : k ≠ 14) (h5 : k ≠ 15) : mm_lt G c d room m k i = mm_ad G (!mm_ex (mm_eu G (mm_u G c room m)) 0 (G 32 0)) (mm_u G c room m) k i := by
  unfold mm_lt mm_le
  split
  · rw [mm_up_k _ _ _ _ h1]
  · rw [mm_up_k _ _ _ _ h2, mm_up_k _ _ _ _ h5, mm_up_k _ _ _ _ h4, mm_up_k _ _ _ _ h3]
theorem mm_u_lt {c room m : Nat} (h17 : G 17 (G 20 c) < 10) (h3 : G 3 room < 10) : mm_u G c room m < 144000 := by
  unfold mm_u
  omega
theorem cc_U_lt {c d room m : Nat} (hU : cc_U G w) (h17 : G 17 (G 20 c) < 10) (h3 : G 3 room < 10) (h33 : ∀ q, q < G 32 0 → G 33 q < 144000) : cc_U (mm_lt G c d room m) (w_u w (!mm_ex (mm_eu G (mm_u G c room m)) 0 (G 32 0)) (mm_u G c room m)) :=
  cc_U_of (cc_U_ad hU (mm_u_lt h17 h3) h33 rfl) (mm_lt_ad (by decide) (by decide) (by decide) (by decide) (by decide)) (fun q => mm_lt_ad (by decide) (by decide) (by decide) (by decide) (by decide)) rfl
theorem mm_wy_v (G : mm_G) (c r m b : Nat) (f : Int32) : mm_wy G c r m b f = 0 ∨ mm_wy G c r m b f = 1 ∨ mm_wy G c r m b f = 2 ∨ mm_wy G c r m b f = 3 ∨ mm_wy G c r m b f = 4 ∨ mm_wy G c r m b f = 5 := by
  unfold mm_wy
  split
  · simp
  · split
    · simp
    · split
      · simp
      · split
        · simp
        · cases mm_ex (mm_rp G (nI (G 17 (G 20 c))) (nI (G 3 r)) (nI m - nI m / 1440 * 1440) m b) 0 (G 22 0)
          · simp
          · simp
theorem mm_rf_le (G : mm_G) (c d r m : Nat) : mm_rf G c d r m ≤ 0 ↔ mm_rf G c d r m = 0 := by
  unfold mm_rf
  split
  · cases mm_ex (mm_lo G d) 0 (G 4 0)
    · decide
    · decide
  · rcases mm_wy_v G c r m (G 10 d) (mm_fr G d r) with e | e | e | e | e | e <;> rw [e] <;> decide
theorem cc_B_now {t m : Nat} (hB : cc_B G t) (hm : m ≤ 1000000) (hn : G 1 0 ≤ m) : cc_B (mm_up G 1 0 m) t := by
  obtain ⟨b1, b2, b4, b16, b19, b22, b28, b32, b34, bt, b3, b5, b11, b12, b13, b18, b20, b23, b31, b29, b33⟩ := hB
  refine ⟨?_, b2, b4, b16, b19, b22, b28, b32, b34, bt, b3, fun i hi => ?_, b11, b12, b13, b18, b20, b23, b31, b29, b33⟩
  · rw [mm_up_s]
    exact hm
  · rw [mm_up_s]
    obtain ⟨q1, q2, q3, q4, q5, q6, q7⟩ := b5 i hi
    exact ⟨q1, q2, q3, q4, q5, Nat.le_trans q6 hn, q7⟩
end BTS
