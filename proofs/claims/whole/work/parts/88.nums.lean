/-! Sets of rights as numbers: the machine's bits and the naturals' -/
theorem nb_and (a b : Nat) : nI a &&& nI b = nI (a &&& b) := by
  rw [← Int32.toBitVec_inj]
  show BitVec.ofNat 32 a &&& BitVec.ofNat 32 b = BitVec.ofNat 32 (a &&& b)
  rw [BitVec.ofNat_and]
theorem nb_or (a b : Nat) : nI a ||| nI b = nI (a ||| b) := by
  rw [← Int32.toBitVec_inj]
  show BitVec.ofNat 32 a ||| BitVec.ofNat 32 b = BitVec.ofNat 32 (a ||| b)
  rw [BitVec.ofNat_or]
theorem nb_shl0 : ∀ k : Fin 31, (1 : Int32) <<< (nI k.1 &&& 31) = nI (2 ^ k.1) := by decide +kernel
theorem nb_shl {k : Nat} (h : k < 31) : (1 : Int32) <<< (nI k &&& 31) = nI (2 ^ k) := nb_shl0 ⟨k, h⟩
theorem nb_shl1 {k : Nat} (h : k < 31) : (1 : Int32) <<< (nI k &&& 31) - 1 = nI (2 ^ k - 1) := by
  rw [nb_shl h, show (1 : Int32) = nI 1 from rfl]
  have hp := Nat.two_pow_pos k
  have e : nI (2 ^ k) = nI (2 ^ k - 1) + nI 1 := by
    rw [nI_add, Nat.sub_add_cancel hp]
  rw [e, Int32.add_sub_cancel]
theorem nb_shr0 : ∀ i : Fin 16, (nI i.1 &&& 31).toBitVec.smod 32 = BitVec.ofNat 32 i.1 := by decide +kernel
theorem nb_shr {m i : Nat} (hm : m < 65536) (hi : i < 16) : (nI m >>> (nI i &&& 31)) &&& 1 = nI (if m.testBit i = true then 1 else 0) := by
  have e1 : (nI m >>> (nI i &&& 31)) = nI (m >>> i) := by
    rw [← Int32.toBitVec_inj, Int32.toBitVec_shiftRight, nb_shr0 ⟨i, hi⟩]
    show (BitVec.ofNat 32 m).sshiftRight' (BitVec.ofNat 32 i) = BitVec.ofNat 32 (m >>> i)
    have hmsb : (BitVec.ofNat 32 m).msb = false := by
      rw [BitVec.msb_eq_false_iff_two_mul_lt, BitVec.toNat_ofNat, Nat.mod_eq_of_lt (by omega)]
      omega
    unfold BitVec.sshiftRight'
    rw [BitVec.sshiftRight_eq_of_msb_false hmsb]
    apply BitVec.eq_of_toNat_eq
    rw [BitVec.toNat_ushiftRight, BitVec.toNat_ofNat, BitVec.toNat_ofNat, BitVec.toNat_ofNat, Nat.mod_eq_of_lt (show m < 2 ^ 32 by omega), Nat.mod_eq_of_lt (show i < 2 ^ 32 by omega)]
    rw [Nat.mod_eq_of_lt]
    exact Nat.lt_of_le_of_lt (Nat.shiftRight_le m i) (by omega)
  rw [e1, show (1 : Int32) = nI 1 from rfl, nb_and, Nat.and_one_is_mod]
  congr 1
  rw [Nat.shiftRight_eq_div_pow, Nat.testBit_eq_decide_div_mod_eq]
  have := Nat.mod_two_eq_zero_or_one (m / 2 ^ i)
  simp only [decide_eq_true_eq]
  split <;> omega
theorem nb_eq0 {a : Nat} (h : a < 2 ^ 31) : nI a = 0 ↔ a = 0 := nI_eq (b := 0) h (by decide)
/-- a word of marks, shifted -/
def lw_sh (x : Int64) (b : Nat) : Int64 := ⟨⟨x.toBitVec >>> b⟩⟩
theorem lw_sh_bv (x : Int64) (b : Nat) : (lw_sh x b).toBitVec = x.toBitVec >>> b := rfl
theorem lw_sh_0 (x : Int64) : lw_sh x 0 = x := by
  rw [← Int64.toBitVec_inj, lw_sh_bv]
  exact BitVec.ushiftRight_zero _
theorem lw_sh_s (x : Int64) (b : Nat) : ((lw_sh x b).toUInt64 >>> ((1 : Int32).toInt64.toUInt64 &&& Int64.toUInt64 63)).toInt64 = lw_sh x (b + 1) := by
  rw [show (1 : Int32).toInt64.toUInt64 &&& Int64.toUInt64 63 = 1 by decide +kernel, ← Int64.toBitVec_inj, lw_sh_bv]
  show ((lw_sh x b).toUInt64 >>> 1).toBitVec = _
  rw [UInt64.toBitVec_shiftRight]
  show (x.toBitVec >>> b) >>> ((1#64 % 64).toNat) = _
  rw [show (1#64 % 64).toNat = 1 by decide +kernel, BitVec.shiftRight_add]
theorem lw_tp0 : ∀ b : Fin 64, ((1 : Int64) <<< ((nI b.1).toInt64 &&& 63)).toBitVec = BitVec.twoPow 64 b.1 := by decide +kernel
theorem lw_tp1 : ∀ b : Fin 64, BitVec.twoPow 64 b.1 ≠ 0#64 := by decide +kernel
theorem lw_bit {x : Int64} {b : Nat} (h : b < 64) : x &&& (1 <<< ((nI b).toInt64 &&& 63)) = 0 ↔ x.toBitVec.getLsbD b = false := by
  rw [← Int64.toBitVec_inj]
  show x.toBitVec &&& ((1 : Int64) <<< ((nI b).toInt64 &&& 63)).toBitVec = 0#64 ↔ _
  rw [lw_tp0 ⟨b, h⟩, BitVec.and_twoPow]
  cases x.toBitVec.getLsbD b with
  | false => simp
  | true => simpa using lw_tp1 ⟨b, h⟩
theorem lw_one {x : Int64} {b : Nat} (h : b < 64) : lw_sh x b &&& 1 = 0 ↔ x &&& (1 <<< ((nI b).toInt64 &&& 63)) = 0 := by
  have e : (1 : Int64) = 1 <<< ((nI 0).toInt64 &&& 63) := by decide +kernel
  have h1 : lw_sh x b &&& 1 = 0 ↔ (lw_sh x b).toBitVec.getLsbD 0 = false := by
    have := lw_bit (x := lw_sh x b) (b := 0) (by decide)
    rw [← e] at this
    exact this
  rw [h1, lw_bit h, lw_sh_bv, BitVec.getLsbD_ushiftRight, Nat.add_zero]
theorem lw_none {x : Int64} {b b' : Nat} (h0 : lw_sh x b = 0) (hb : b ≤ b') (h : b' < 64) : x &&& (1 <<< ((nI b').toInt64 &&& 63)) = 0 := by
  rw [lw_bit h]
  have e : (x.toBitVec >>> b).getLsbD (b' - b) = false := by
    have : x.toBitVec >>> b = 0#64 := by
      have := congrArg Int64.toBitVec h0
      exact this
    rw [this]
    simp
  rw [BitVec.getLsbD_ushiftRight, show b + (b' - b) = b' by omega] at e
  exact e
