/-! THE REFERENCE's methods: let (printed by gen/ops4.py) -/
section MOP4
variable {l : Launch} {s0 : State} {D : va_G} {ca : Nat → ClassId} {e0 : Nat} {H : Heap} {y : Nat} {ad : Nat → Nat} {G : mm_G}
theorem mm_uc {g z m : Nat} (hm : m < 2 ^ 31) : (10 * nI g + nI z) * 1440 + (nI m - nI m / 1440 * 1440) = nI ((10 * g + z) * 1440 + m % 1440) := by
  have e1 : nI m - nI m / 1440 * 1440 = nI (m % 1440) := pk_rem (d := 1440) hm (by decide) (by decide)
  have e2 : (10 : Int32) * nI g = nI (10 * g) := pk_mul 10 g
  have e3 : nI (10 * g + z) * 1440 = nI ((10 * g + z) * 1440) := pk_mul _ 1440
  rw [e1, e2, nI_add, e3, nI_add]
theorem mm_ix50 (a b : Nat) : (50 : Int32) * nI a + nI b = nI (50 * a + b) := by
  have e : (50 : Int32) * nI a = nI (50 * a) := pk_mul 50 a
  rw [e, nI_add]
def mm_eu (G : mm_G) (u k : Nat) : Bool := decide (nI (G 33 k) = nI u)
def mm_u (G : mm_G) (c room m : Nat) : Nat := (10 * G 17 (G 20 c) + G 3 room) * 1440 + m % 1440
def mm_ad (G : mm_G) (fb : Bool) (u : Nat) : mm_G := cond fb (mm_up (mm_up G 33 (G 32 0) u) 32 0 (G 32 0 + 1)) G
def mm_le (G : mm_G) (fb : Bool) (u c d room m : Nat) : mm_G := if nI (G 10 d) = 9000 then mm_up (mm_ad G fb u) 18 (G 20 c) room else mm_up (mm_up (mm_up (mm_up (mm_ad G fb u) 13 (50 * d + G 12 d) c) 14 (50 * d + G 12 d) room) 15 (50 * d + G 12 d) m) 12 d (G 12 d + 1)
def mm_lt (G : mm_G) (c d room m : Nat) : mm_G := mm_le G (!mm_ex (mm_eu G (mm_u G c room m)) 0 (G 32 0)) (mm_u G c room m) c d room m
set_option maxRecDepth 20000 in
theorem j_M_let (hl : l.flags = flags0) (Z : cr_Z0 s0 D ca e0) (h : mm_R s0 D ca H y ad G) {c d room m : Nat} (hc : c < 60) (hd : d < 30) (hr : room < 20) (hp : G 20 c < 40) (hm : m < 2 ^ 31) (hu9 : G 32 0 < 9000) (hrw : G 12 d < 50) : cr_c l s0 y_M_let cw_M_let 0 0 0 [.ref y, .int (nI c), .int (nI d), .int (nI room), .int (nI m)] H (mm_Q s0 D ca H y ad none (mm_lt G c d room m)) := by
  refine cr_enter (by decide +kernel) (Nat.le_of_ble_eq_true rfl) (fun hlo P9 E9 S9 M9 A9 B9 T9 C9 C hem hH => ?_)
  unfold mm_lt
  generalize hfb : (!mm_ex (mm_eu G (mm_u G c room m)) 0 (G 32 0)) = fb
  generalize hu : mm_u G c room m = u at hfb ⊢
  have tail : cr_G P9 l E9 (cr_rm 0 0 0) S9 M9 A9 B9 T9 C9 s0.heap.size 0 0 (mm_Q s0 D ca H y ad none (mm_le G fb u c d room m)) 79 [some (.ref y), some (.int (nI c)), some (.int (nI d)), some (.int (nI room)), some (.int (nI m)), some (.int (nI u)), some (.int (cr_b fb)), none] [] H 0 0 := by
    cases fb with
    | false =>
      refine cr_vc [] 90 (s_M_let hl Z C hem) (fun K hK => ?_)
      conv => whnf
      refine ⟨fun b81 => ?_, fun b81 => absurd rfl b81⟩
      conv => whnf
      refine ⟨_, h.o, ?_⟩
      conv => whnf
      refine ⟨_, _, _, h.a 10 rfl, rfl, hd, cr_le rfl, ?_⟩
      conv => whnf
      refine ⟨fun b114 => ?_, fun b114 => ?_⟩
      · conv => whnf
        refine ⟨_, h.o, ?_⟩
        conv => whnf
        refine ⟨_, _, _, h.a 12 rfl, rfl, hd, cr_le rfl, ?_⟩
        conv => whnf
        refine ⟨cr_le rfl, ?_⟩
        conv => whnf
        refine ⟨_, h.o, ?_⟩
        conv => whnf
        refine ⟨_, _, _, h.a 13 rfl, h.lo 13 rfl, mm_ix50 d (G 12 d), show 50 * d + G 12 d < 1500 by omega, cr_le rfl, fun H3 u3 => ?_⟩
        have h3 := h.sto (k := 13) rfl u3
        conv => whnf
        refine ⟨_, h3.o, ?_⟩
        conv => whnf
        refine ⟨_, _, _, h3.a 14 rfl, h3.lo 14 rfl, mm_ix50 d (G 12 d), show 50 * d + G 12 d < 1500 by omega, cr_le rfl, fun H4 u4 => ?_⟩
        have h4 := h3.sto (k := 14) rfl u4
        conv => whnf
        refine ⟨_, h4.o, ?_⟩
        conv => whnf
        refine ⟨_, _, _, h4.a 15 rfl, h4.lo 15 rfl, mm_ix50 d (G 12 d), show 50 * d + G 12 d < 1500 by omega, cr_le rfl, fun H5 u5 => ?_⟩
        have h5 := h4.sto (k := 15) rfl u5
        conv => whnf
        refine ⟨_, h5.o, ?_⟩
        conv => whnf
        refine ⟨rfl, rfl, ?_⟩
        conv => whnf
        refine ⟨_, _, _, h5.a 12 rfl, rfl, hd, cr_le rfl, ?_⟩
        conv => whnf
        refine ⟨_, _, _, h5.a 12 rfl, h5.lo 12 rfl, rfl, hd, cr_le rfl, fun H6 u6 => ?_⟩
        have h6 := h5.sto (k := 12) (v := G 12 d + 1) rfl (by rw [nI_1] at u6; exact u6)
        conv => whnf
        exact ⟨cr_le rfl, cr_le rfl, rfl, (by unfold mm_le; rw [if_neg (show ¬ nI (G 10 d) = 9000 from b114)]; exact h6), ((((mm_Fr.arr (k := 13) rfl u3).tr (mm_Fr.arr (k := 14) rfl u4)).tr (mm_Fr.arr (k := 15) rfl u5)).tr (mm_Fr.arr (k := 12) rfl u6))⟩
      · conv => whnf
        refine ⟨_, h.o, ?_⟩
        conv => whnf
        refine ⟨_, h.o, ?_⟩
        conv => whnf
        refine ⟨_, _, _, h.a 20 rfl, rfl, hc, cr_le rfl, ?_⟩
        conv => whnf
        refine ⟨_, _, _, h.a 18 rfl, h.lo 18 rfl, rfl, hp, cr_le rfl, fun H7 u7 => ?_⟩
        have h7 := h.sto (k := 18) rfl u7
        conv => whnf
        exact ⟨cr_le rfl, cr_le rfl, rfl, (by unfold mm_le; rw [if_pos (show nI (G 10 d) = 9000 from b114)]; exact h7), (mm_Fr.arr (k := 18) rfl u7)⟩
    | true =>
      refine cr_vc [] 90 (s_M_let hl Z C hem) (fun K hK => ?_)
      conv => whnf
      refine ⟨fun b81 => absurd b81 (by decide), fun b81 => ?_⟩
      conv => whnf
      refine ⟨_, h.o, ?_⟩
      conv => whnf
      refine ⟨_, h.o, ?_⟩
      conv => whnf
      refine ⟨_, _, _, h.a 33 rfl, h.lo 33 rfl, rfl, hu9, cr_le rfl, fun H2 u2 => ?_⟩
      have h2 := h.sto (k := 33) rfl u2
      conv => whnf
      refine ⟨rfl, ?_⟩
      conv => whnf
      refine ⟨_, h2.o, ?_⟩
      conv => whnf
      refine ⟨_, h2.o, h2.1, ⟨rfl, rfl⟩, ?_⟩
      conv => whnf
      intro H3 u3
      have h3 := h2.put (k := 32) (v := G 32 0 + 1) rfl (by rw [nI_1] at u3; exact u3)
      conv => whnf
      refine ⟨_, h3.o, ?_⟩
      conv => whnf
      refine ⟨_, _, _, h3.a 10 rfl, rfl, hd, cr_le rfl, ?_⟩
      conv => whnf
      refine ⟨fun b114 => ?_, fun b114 => ?_⟩
      · conv => whnf
        refine ⟨_, h3.o, ?_⟩
        conv => whnf
        refine ⟨_, _, _, h3.a 12 rfl, rfl, hd, cr_le rfl, ?_⟩
        conv => whnf
        refine ⟨cr_le rfl, ?_⟩
        conv => whnf
        refine ⟨_, h3.o, ?_⟩
        conv => whnf
        refine ⟨_, _, _, h3.a 13 rfl, h3.lo 13 rfl, mm_ix50 d (G 12 d), show 50 * d + G 12 d < 1500 by omega, cr_le rfl, fun H5 u5 => ?_⟩
        have h5 := h3.sto (k := 13) rfl u5
        conv => whnf
        refine ⟨_, h5.o, ?_⟩
        conv => whnf
        refine ⟨_, _, _, h5.a 14 rfl, h5.lo 14 rfl, mm_ix50 d (G 12 d), show 50 * d + G 12 d < 1500 by omega, cr_le rfl, fun H6 u6 => ?_⟩
        have h6 := h5.sto (k := 14) rfl u6
        conv => whnf
        refine ⟨_, h6.o, ?_⟩
        conv => whnf
        refine ⟨_, _, _, h6.a 15 rfl, h6.lo 15 rfl, mm_ix50 d (G 12 d), show 50 * d + G 12 d < 1500 by omega, cr_le rfl, fun H7 u7 => ?_⟩
        have h7 := h6.sto (k := 15) rfl u7
        conv => whnf
        refine ⟨_, h7.o, ?_⟩
        conv => whnf
        refine ⟨rfl, rfl, ?_⟩
        conv => whnf
        refine ⟨_, _, _, h7.a 12 rfl, rfl, hd, cr_le rfl, ?_⟩
        conv => whnf
        refine ⟨_, _, _, h7.a 12 rfl, h7.lo 12 rfl, rfl, hd, cr_le rfl, fun H8 u8 => ?_⟩
        have h8 := h7.sto (k := 12) (v := G 12 d + 1) rfl (by rw [nI_1] at u8; exact u8)
        conv => whnf
        exact ⟨cr_le rfl, cr_le rfl, rfl, (by unfold mm_le; rw [if_neg (show ¬ nI (G 10 d) = 9000 from b114)]; exact h8), ((((((mm_Fr.arr (k := 33) rfl u2).tr (mm_Fr.ob u3)).tr (mm_Fr.arr (k := 13) rfl u5)).tr (mm_Fr.arr (k := 14) rfl u6)).tr (mm_Fr.arr (k := 15) rfl u7)).tr (mm_Fr.arr (k := 12) rfl u8))⟩
      · conv => whnf
        refine ⟨_, h3.o, ?_⟩
        conv => whnf
        refine ⟨_, h3.o, ?_⟩
        conv => whnf
        refine ⟨_, _, _, h3.a 20 rfl, rfl, hc, cr_le rfl, ?_⟩
        conv => whnf
        refine ⟨_, _, _, h3.a 18 rfl, h3.lo 18 rfl, rfl, hp, cr_le rfl, fun H9 u9 => ?_⟩
        have h9 := h3.sto (k := 18) rfl u9
        conv => whnf
        exact ⟨cr_le rfl, cr_le rfl, rfl, (by unfold mm_le; rw [if_pos (show nI (G 10 d) = 9000 from b114)]; exact h9), (((mm_Fr.arr (k := 33) rfl u2).tr (mm_Fr.ob u3)).tr (mm_Fr.arr (k := 18) rfl u9))⟩
  have loop : ∀ (j k : Nat) (f9 : Bool), k + j = G 32 0 → (f9 && !mm_ex (mm_eu G u) k j) = fb → cr_G P9 l E9 (cr_rm 0 0 0) S9 M9 A9 B9 T9 C9 s0.heap.size 0 0 (mm_Q s0 D ca H y ad none (mm_le G fb u c d room m)) 40 [some (.ref y), some (.int (nI c)), some (.int (nI d)), some (.int (nI room)), some (.int (nI m)), some (.int (nI u)), some (.int (cr_b f9)), some (.int (nI k))] [] H 0 0 := by
    intro j
    induction j with
    | zero =>
      intro k f9 hj hx
      have hx' : f9 = fb := by
        rw [← hx]
        show f9 = (f9 && !false)
        simp
      subst hx'
      refine cr_vc [40, 79] 60 (s_M_let hl Z C hem) (fun K hK => ?_)
      conv => whnf
      refine ⟨_, h.o, ?_⟩
      conv => whnf
      refine ⟨fun _ => ?_, fun b => absurd (nI_le (by omega) (by omega)) b⟩
      conv => whnf
      exact hK _ _ _ _ _ _ (cr_G_fg tail ⟨rfl, rfl, rfl, rfl, rfl, rfl, rfl, trivial⟩)
    | succ j ih =>
      intro k f9 hj hx
      refine cr_vc [40] 90 (s_M_let hl Z C hem) (fun K hK => ?_)
      conv => whnf
      refine ⟨_, h.o, ?_⟩
      conv => whnf
      refine ⟨fun b46 => absurd b46 (cr_nle (by omega) (by omega)), fun b46 => ?_⟩
      conv => whnf
      refine ⟨fun b51 => ?_, fun b51 => ?_⟩
      · conv => whnf
        refine ⟨cr_le rfl, ?_⟩
        conv => whnf
        refine ⟨cr_le rfl, ?_⟩
        conv => whnf
        exact hK _ _ _ _ _ _ (cr_G_fg (ih (k + 1) false (by omega) (by rw [← hx, cr_bf b51]; rfl)) ⟨rfl, rfl, rfl, rfl, rfl, rfl, rfl, (show Value.int (nI (k + 1)) = Value.int (nI k + 1) by rw [nI_1]), trivial⟩)
      · conv => whnf
        refine ⟨_, h.o, ?_⟩
        conv => whnf
        refine ⟨_, _, _, h.a 33 rfl, rfl, show k < 9000 by omega, cr_le rfl, ?_⟩
        conv => whnf
        refine ⟨fun b63 => ?_, fun b63 => ?_⟩
        · conv => whnf
          refine ⟨cr_le rfl, ?_⟩
          conv => whnf
          refine ⟨cr_le rfl, ?_⟩
          conv => whnf
          exact hK _ _ _ _ _ _ (cr_G_fg (ih (k + 1) false (by omega) (by rw [← hx, cr_bt b51]; show false = (true && !(mm_eu G u k || _)); rw [show mm_eu G u k = true by simp [mm_eu, b63]]; rfl)) ⟨rfl, rfl, rfl, rfl, rfl, rfl, rfl, (show Value.int (nI (k + 1)) = Value.int (nI k + 1) by rw [nI_1]), trivial⟩)
        · conv => whnf
          refine ⟨cr_le rfl, ?_⟩
          conv => whnf
          refine ⟨cr_le rfl, ?_⟩
          conv => whnf
          exact hK _ _ _ _ _ _ (cr_G_fg (ih (k + 1) true (by omega) (by rw [← hx, cr_bt b51]; show _ = (true && !(mm_eu G u k || _)); rw [show mm_eu G u k = false by simp [mm_eu, b63]]; rfl)) ⟨rfl, rfl, rfl, rfl, rfl, rfl, rfl, (show Value.int (nI (k + 1)) = Value.int (nI k + 1) by rw [nI_1]), trivial⟩)
  refine cr_vc [40] 90 (s_M_let hl Z C hem) (fun K hK => ?_)
  conv => whnf
  refine ⟨_, h.o, ?_⟩
  conv => whnf
  refine ⟨_, h.o, ?_⟩
  conv => whnf
  refine ⟨_, _, _, h.a 20 rfl, rfl, hc, cr_le rfl, ?_⟩
  conv => whnf
  refine ⟨_, _, _, h.a 17 rfl, rfl, hp, cr_le rfl, ?_⟩
  conv => whnf
  refine ⟨_, h.o, ?_⟩
  conv => whnf
  refine ⟨_, _, _, h.a 3 rfl, rfl, hr, cr_le rfl, ?_⟩
  conv => whnf
  refine ⟨by decide, ?_⟩
  conv => whnf
  refine ⟨cr_le rfl, ?_⟩
  conv => whnf
  refine ⟨cr_le rfl, ?_⟩
  conv => whnf
  refine ⟨cr_le rfl, ?_⟩
  conv => whnf
  exact hK _ _ _ _ _ _ (cr_G_fg (loop (G 32 0) 0 true (by omega) (by rw [← hfb]; rfl)) ⟨rfl, rfl, rfl, rfl, rfl, (by rw [← hu]; exact congrArg Value.int (mm_uc hm).symm), rfl, rfl, trivial⟩)
end MOP4
