/-! THE REFERENCE's methods: off, a door joins again (printed by gen/ops7.py) -/
section MOP7
variable {l : Launch} {s0 : State} {D : va_G} {ca : Nat → ClassId} {e0 : Nat} {H : Heap} {y : Nat} {ad : Nat → Nat} {G : mm_G}
theorem mm_wy_n (G : mm_G) (c r m b : Nat) (f : Int32) : mm_wy G c r m b f = nI (mm_wy G c r m b f).toNatClampNeg := by
  unfold mm_wy
  split
  · decide
  · split
    · decide
    · split
      · decide
      · split
        · decide
        · cases mm_ex (mm_rp G (nI (G 17 (G 20 c))) (nI (G 3 r)) (nI m - nI m / 1440 * 1440) m b) 0 (G 22 0) <;> decide
def mm_o1 (G : mm_G) (d k : Nat) : mm_G := mm_up G 18 (G 20 (G 13 (50 * d + k))) (G 14 (50 * d + k))
def mm_oi (G : mm_G) (d k : Nat) : Int32 := mm_wy (mm_o1 G d k) (G 13 (50 * d + k)) (G 14 (50 * d + k)) (G 15 (50 * d + k)) 9000 (-1)
def mm_o2 (G : mm_G) (d k : Nat) : mm_G := if ¬ mm_oi G d k ≤ 0 ∧ ¬ 100 ≤ nI (G 34 0) then mm_up (mm_up (mm_up (mm_up (mm_o1 G d k) 35 (G 34 0) d) 36 (G 34 0) (G 13 (50 * d + k))) 37 (G 34 0) (G 15 (50 * d + k))) 38 (G 34 0) (mm_oi G d k).toNatClampNeg else mm_o1 G d k
def mm_os (G : mm_G) (d k : Nat) : mm_G := mm_up (mm_o2 G d k) 34 0 (if mm_oi G d k ≤ 0 then G 34 0 else G 34 0 + 1)
def mm_ol (d : Nat) : Nat → Nat → mm_G → mm_G
  | _, 0, G => G
  | k, j + 1, G => mm_ol d (k + 1) j (mm_os G d k)
theorem mm_os_k {G : mm_G} {d kk k i : Nat} (h1 : k ≠ 18) (h2 : k ≠ 34) (h3 : k ≠ 35) (h4 : k ≠ 36) (h5 : k ≠ 37) (h6 : k ≠ 38) : mm_os G d kk k i = G k i := by
  unfold mm_os
  rw [mm_up_k _ _ _ _ h2]
  unfold mm_o2
  split
  · rw [mm_up_k _ _ _ _ h6, mm_up_k _ _ _ _ h5, mm_up_k _ _ _ _ h4, mm_up_k _ _ _ _ h3]
    exact mm_up_k _ _ _ _ h1
  · exact mm_up_k _ _ _ _ h1
theorem mm_os_34 (G : mm_G) (d kk : Nat) : mm_os G d kk 34 0 ≤ G 34 0 + 1 := by
  unfold mm_os
  rw [mm_up_s]
  split <;> omega
/-- what the loop leans on -/
def mm_oI (G : mm_G) (d n0 j : Nat) : Prop := G 12 d = n0 ∧ (∀ q, q < n0 → G 13 (50 * d + q) < 60 ∧ G 14 (50 * d + q) < 20 ∧ G 20 (G 13 (50 * d + q)) < 40) ∧ G 22 0 ≤ 16 ∧ (∀ t, t < 9000 → G 29 t < 2 ^ 31 ∧ G 30 t < 2 ^ 31) ∧ G 28 0 ≤ 9000 ∧ G 34 0 + j < 2 ^ 31
theorem mm_oI.st {G : mm_G} {d n0 j k : Nat} (h : mm_oI G d n0 (j + 1)) : mm_oI (mm_os G d k) d n0 j := by
  obtain ⟨h1, h2, h3, h4, h5, h6⟩ := h
  have e : ∀ q i, q ≠ 18 → q ≠ 34 → q ≠ 35 → q ≠ 36 → q ≠ 37 → q ≠ 38 → mm_os G d k q i = G q i := fun q i a b c d e f => mm_os_k a b c d e f
  refine ⟨?_, fun q hq => ?_, ?_, fun t ht => ?_, ?_, ?_⟩
  · rw [e 12 _ (by decide) (by decide) (by decide) (by decide) (by decide) (by decide)]
    exact h1
  · rw [e 13 _ (by decide) (by decide) (by decide) (by decide) (by decide) (by decide), e 14 _ (by decide) (by decide) (by decide) (by decide) (by decide) (by decide), e 20 _ (by decide) (by decide) (by decide) (by decide) (by decide) (by decide)]
    exact h2 q hq
  · rw [e 22 _ (by decide) (by decide) (by decide) (by decide) (by decide) (by decide)]
    exact h3
  · rw [e 29 _ (by decide) (by decide) (by decide) (by decide) (by decide) (by decide), e 30 _ (by decide) (by decide) (by decide) (by decide) (by decide) (by decide)]
    exact h4 t ht
  · rw [e 28 _ (by decide) (by decide) (by decide) (by decide) (by decide) (by decide)]
    exact h5
  · have := mm_os_34 G d k
    omega
set_option maxRecDepth 20000 in
theorem j_M_off_off (hl : l.flags = flags0) (Z : cr_Z0 s0 D ca e0) (h : mm_R s0 D ca H y ad G) {d : Nat} (hd : d < G 4 0) (hd2 : G 4 0 ≤ 30) (h12 : G 12 d ≤ 50) (hI : mm_oI G d (G 12 d) (G 12 d)) : cr_c l s0 y_M_off cw_M_off 2 0 0 [.ref y, .int (nI d), .int 0] H (mm_Q s0 D ca H y ad (some (.int (nI (G 12 d)))) (mm_up (mm_up (mm_ol d 0 (G 12 d) (mm_up G 0 0 0)) 12 d 0) 10 d 9000)) := by
  refine cr_enter (by decide +kernel) (Nat.le_of_ble_eq_true rfl) (fun hlo P9 E9 S9 M9 A9 B9 T9 C9 C hem hH => ?_)
  have hd30 : d < 30 := by omega
  have loop : ∀ (j k : Nat) (H1 : Heap) (G1 : mm_G), mm_R s0 D ca H1 y ad G1 → mm_Fr y ad H H1 → mm_oI G1 d (G 12 d) j → k + j = G 12 d → mm_ol d k j G1 = mm_ol d 0 (G 12 d) (mm_up G 0 0 0) → cr_G P9 l E9 (cr_rm 2 0 0) S9 M9 A9 B9 T9 C9 s0.heap.size 0 0 (mm_Q s0 D ca H y ad (some (.int (nI (G 12 d)))) (mm_up (mm_up (mm_ol d 0 (G 12 d) (mm_up G 0 0 0)) 12 d 0) 10 d 9000)) 57 [some (.ref y), some (.int (nI d)), none, some (.int (nI k)), none, none] [] H1 0 0 := by
    intro j
    induction j with
    | zero =>
      intro k H1 G1 h1 f1 hI hj hx
      have hx : G1 = mm_ol d 0 (G 12 d) (mm_up G 0 0 0) := hx
      refine cr_vc [] 90 (s_M_off hl Z C hem) (fun K hK => ?_)
      conv => whnf
      refine ⟨_, h1.o, ?_⟩
      conv => whnf
      refine ⟨_, _, _, h1.a 12 rfl, rfl, hd30, cr_le rfl, ?_⟩
      conv => whnf
      refine ⟨fun b64 => ?_, fun b64 => absurd (show nI (G1 12 d) ≤ nI k from nI_le (by rw [hI.1]; omega) (by omega)) b64⟩
      conv => whnf
      refine ⟨_, h1.o, ?_⟩
      conv => whnf
      refine ⟨_, _, _, h1.a 12 rfl, rfl, hd30, cr_le rfl, ?_⟩
      conv => whnf
      refine ⟨cr_le rfl, ?_⟩
      conv => whnf
      refine ⟨_, h1.o, ?_⟩
      conv => whnf
      refine ⟨_, _, _, h1.a 12 rfl, h1.lo 12 rfl, rfl, hd30, cr_le rfl, fun H2 u2 => ?_⟩
      have h2 := h1.sto (k := 12) (v := 0) rfl u2
      conv => whnf
      refine ⟨_, h2.o, ?_⟩
      conv => whnf
      refine ⟨_, _, _, h2.a 10 rfl, h2.lo 10 rfl, rfl, hd30, cr_le rfl, fun H3 u3 => ?_⟩
      have h3 := h2.sto (k := 10) (v := 9000) rfl u3
      conv => whnf
      exact ⟨cr_le rfl, cr_le rfl, congrArg (fun x => Sum.inl (some (Value.int (nI x)))) hI.1, (by rw [← hx]; exact h3), f1.tr ((mm_Fr.arr (k := 12) rfl u2).tr (mm_Fr.arr (k := 10) rfl u3))⟩
    | succ j ih =>
      intro k H1 G1 h1 f1 hI hj hx
      have hx : mm_ol d (k + 1) j (mm_os G1 d k) = mm_ol d 0 (G 12 d) (mm_up G 0 0 0) := hx
      refine cr_vc [57] 120 (s_M_off hl Z C hem) (fun K hK => ?_)
      conv => whnf
      refine ⟨_, h1.o, ?_⟩
      conv => whnf
      refine ⟨_, _, _, h1.a 12 rfl, rfl, hd30, cr_le rfl, ?_⟩
      conv => whnf
      refine ⟨fun b64 => absurd b64 (cr_nle (a := G1 12 d) (by rw [hI.1]; omega) (by rw [hI.1]; omega)), fun b64 => ?_⟩
      conv => whnf
      refine ⟨cr_le rfl, ?_⟩
      conv => whnf
      refine ⟨_, h1.o, ?_⟩
      conv => whnf
      refine ⟨_, h1.o, ?_⟩
      conv => whnf
      refine ⟨_, h1.o, ?_⟩
      conv => whnf
      refine ⟨_, _, _, h1.a 13 rfl, mm_ix50 d k, show 50 * d + k < 1500 by omega, cr_le rfl, ?_⟩
      conv => whnf
      refine ⟨_, _, _, h1.a 20 rfl, rfl, (hI.2.1 k (by omega)).1, cr_le rfl, ?_⟩
      conv => whnf
      refine ⟨_, h1.o, ?_⟩
      conv => whnf
      refine ⟨_, _, _, h1.a 14 rfl, mm_ix50 d k, show 50 * d + k < 1500 by omega, cr_le rfl, ?_⟩
      conv => whnf
      refine ⟨_, _, _, h1.a 18 rfl, h1.lo 18 rfl, rfl, (hI.2.1 k (by omega)).2.2, cr_le rfl, fun H2 u2 => ?_⟩
      have h2 := h1.sto (k := 18) rfl u2
      conv => whnf
      refine ⟨_, h2.o, ?_⟩
      conv => whnf
      refine ⟨_, _, _, h2.a 13 rfl, mm_ix50 d k, show 50 * d + k < 1500 by omega, cr_le rfl, ?_⟩
      conv => whnf
      refine ⟨_, h2.o, ?_⟩
      conv => whnf
      refine ⟨_, _, _, h2.a 14 rfl, mm_ix50 d k, show 50 * d + k < 1500 by omega, cr_le rfl, ?_⟩
      conv => whnf
      refine ⟨_, h2.o, ?_⟩
      conv => whnf
      refine ⟨_, _, _, h2.a 15 rfl, mm_ix50 d k, show 50 * d + k < 1500 by omega, cr_le rfl, ?_⟩
      conv => whnf
      refine ⟨rfl, ?_⟩
      conv => whnf
      refine ⟨_, h2.o, _, _, _, _, j_M_why (c := G1 13 (50 * d + k)) (room := G1 14 (50 * d + k)) (m := G1 15 (50 * d + k)) (b := 9000) hl Z h2 (hI.2.1 k (by omega)).1 (hI.2.1 k (by omega)).2.1 (hI.2.1 k (by omega)).2.2 hI.2.2.1 hI.2.2.2.1 (by decide) hI.2.2.2.2.1, by decide, cr_le rfl, cr_le rfl, cr_le rfl, fun v3 H3 q3 _ => ?_, fun kd H9 q9 _ => by cases q9.1⟩
      obtain ⟨q3a, q3b⟩ := q3
      cases q3a
      replace q3b := q3b.symm
      subst q3b
      conv => whnf
      refine ⟨cr_le rfl, ?_⟩
      conv => whnf
      refine ⟨fun b132 => ?_, fun b132 => ?_⟩
      · conv => whnf
        refine ⟨rfl, ?_⟩
        conv => whnf
        refine ⟨_, h2.o, ?_⟩
        conv => whnf
        refine ⟨fun b204 => ?_, fun b204 => absurd b132 b204⟩
        conv => whnf
        refine ⟨_, h2.o, h2.1, ⟨rfl, rfl⟩, ?_⟩
        conv => whnf
        intro H6 u6
        have h6 := h2.put (k := 34) (v := G1 34 0) rfl (by rw [Int32.add_zero] at u6; exact u6)
        conv => whnf
        refine ⟨cr_le rfl, ?_⟩
        conv => whnf
        exact hK _ _ _ _ _ _ (cr_G_fg (ih (k + 1) _ (mm_os G1 d k) (by unfold mm_os mm_o2; rw [if_neg (fun q => q.1 (show mm_oi G1 d k ≤ 0 from b132)), if_pos (show mm_oi G1 d k ≤ 0 from b132)]; exact h6) (f1.tr ((mm_Fr.arr (k := 18) rfl u2).tr (mm_Fr.ob u6))) hI.st (by omega) hx) ⟨rfl, rfl, (show Value.int (nI (k + 1)) = Value.int (nI k + 1) by rw [nI_1]), trivial⟩)
      · conv => whnf
        refine ⟨_, h2.o, ?_⟩
        conv => whnf
        refine ⟨fun b141 => ?_, fun b141 => ?_⟩
        · conv => whnf
          refine ⟨rfl, ?_⟩
          conv => whnf
          refine ⟨_, h2.o, ?_⟩
          conv => whnf
          refine ⟨fun b204 => absurd b204 b132, fun b204 => ?_⟩
          conv => whnf
          refine ⟨_, h2.o, h2.1, ⟨rfl, rfl⟩, ?_⟩
          conv => whnf
          intro H9 u9
          have h9 := h2.put (k := 34) (v := G1 34 0 + 1) rfl (by rw [nI_1] at u9; exact u9)
          conv => whnf
          refine ⟨cr_le rfl, ?_⟩
          conv => whnf
          exact hK _ _ _ _ _ _ (cr_G_fg (ih (k + 1) _ (mm_os G1 d k) (by unfold mm_os mm_o2; rw [if_neg (fun q => q.2 (show 100 ≤ nI (G1 34 0) from b141)), if_neg (show ¬ mm_oi G1 d k ≤ 0 from b132)]; exact h9) (f1.tr ((mm_Fr.arr (k := 18) rfl u2).tr (mm_Fr.ob u9))) hI.st (by omega) hx) ⟨rfl, rfl, (show Value.int (nI (k + 1)) = Value.int (nI k + 1) by rw [nI_1]), trivial⟩)
        · conv => whnf
          refine ⟨_, h2.o, ?_⟩
          conv => whnf
          refine ⟨_, h2.o, ?_⟩
          conv => whnf
          refine ⟨_, _, _, h2.a 35 rfl, h2.lo 35 rfl, rfl, show G1 34 0 < 100 from cr_ltof (a := 100) (show G1 34 0 < 2 ^ 31 by have := hI.2.2.2.2.2; omega) b141, cr_le rfl, fun H10 u10 => ?_⟩
          have h10 := h2.sto (k := 35) rfl u10
          conv => whnf
          refine ⟨_, h10.o, ?_⟩
          conv => whnf
          refine ⟨_, h10.o, ?_⟩
          conv => whnf
          refine ⟨_, h10.o, ?_⟩
          conv => whnf
          refine ⟨_, _, _, h10.a 13 rfl, mm_ix50 d k, show 50 * d + k < 1500 by omega, cr_le rfl, ?_⟩
          conv => whnf
          refine ⟨_, _, _, h10.a 36 rfl, h10.lo 36 rfl, rfl, show G1 34 0 < 100 from cr_ltof (a := 100) (show G1 34 0 < 2 ^ 31 by have := hI.2.2.2.2.2; omega) b141, cr_le rfl, fun H11 u11 => ?_⟩
          have h11 := h10.sto (k := 36) rfl u11
          conv => whnf
          refine ⟨_, h11.o, ?_⟩
          conv => whnf
          refine ⟨_, h11.o, ?_⟩
          conv => whnf
          refine ⟨_, h11.o, ?_⟩
          conv => whnf
          refine ⟨_, _, _, h11.a 15 rfl, mm_ix50 d k, show 50 * d + k < 1500 by omega, cr_le rfl, ?_⟩
          conv => whnf
          refine ⟨_, _, _, h11.a 37 rfl, h11.lo 37 rfl, rfl, show G1 34 0 < 100 from cr_ltof (a := 100) (show G1 34 0 < 2 ^ 31 by have := hI.2.2.2.2.2; omega) b141, cr_le rfl, fun H12 u12 => ?_⟩
          have h12 := h11.sto (k := 37) rfl u12
          conv => whnf
          refine ⟨_, h12.o, ?_⟩
          conv => whnf
          refine ⟨_, h12.o, ?_⟩
          conv => whnf
          refine ⟨_, _, _, h12.a 38 rfl, h12.lo 38 rfl, rfl, show G1 34 0 < 100 from cr_ltof (a := 100) (show G1 34 0 < 2 ^ 31 by have := hI.2.2.2.2.2; omega) b141, cr_le rfl, fun H13 u13 => ?_⟩
          have h13 := h12.sto (k := 38) rfl (by rw [mm_wy_n] at u13; exact u13)
          conv => whnf
          refine ⟨rfl, ?_⟩
          conv => whnf
          refine ⟨_, h13.o, ?_⟩
          conv => whnf
          refine ⟨fun b204 => absurd b204 b132, fun b204 => ?_⟩
          conv => whnf
          refine ⟨_, h13.o, h13.1, ⟨rfl, rfl⟩, ?_⟩
          conv => whnf
          intro H15 u15
          have h15 := h13.put (k := 34) (v := G1 34 0 + 1) rfl (by rw [nI_1] at u15; exact u15)
          conv => whnf
          refine ⟨cr_le rfl, ?_⟩
          conv => whnf
          exact hK _ _ _ _ _ _ (cr_G_fg (ih (k + 1) _ (mm_os G1 d k) (by unfold mm_os mm_o2; rw [if_pos ⟨(show ¬ mm_oi G1 d k ≤ 0 from b132), (show ¬ 100 ≤ nI (G1 34 0) from b141)⟩, if_neg (show ¬ mm_oi G1 d k ≤ 0 from b132)]; exact h15) (f1.tr ((((((mm_Fr.arr (k := 18) rfl u2).tr (mm_Fr.arr (k := 35) rfl u10)).tr (mm_Fr.arr (k := 36) rfl u11)).tr (mm_Fr.arr (k := 37) rfl u12)).tr (mm_Fr.arr (k := 38) rfl u13)).tr (mm_Fr.ob u15))) hI.st (by omega) hx) ⟨rfl, rfl, (show Value.int (nI (k + 1)) = Value.int (nI k + 1) by rw [nI_1]), trivial⟩)
  refine cr_vc [57] 90 (s_M_off hl Z C hem) (fun K hK => ?_)
  conv => whnf
  refine ⟨_, h.o, ?_⟩
  conv => whnf
  refine ⟨rfl, ?_⟩
  conv => whnf
  refine ⟨_, _, _, _, j_M_isIn_t hl Z (mm_in_of hd (by omega)), by decide, cr_le rfl, cr_le rfl, cr_le rfl, fun v1 H1 q1 _ => ?_, fun kd H9 q9 _ => by cases q9.1⟩
  obtain ⟨q1a, q1b⟩ := q1
  cases q1a
  replace q1b := q1b.symm
  subst q1b
  conv => whnf
  refine ⟨rfl, ?_⟩
  conv => whnf
  refine ⟨_, h.o, _, _, _, _, j_M_goes hl Z h true true, by decide, cr_le rfl, cr_le rfl, cr_le rfl, fun v2 H2 q2 _ => ?_, fun kd H9 q9 _ => by cases q9.1⟩
  obtain ⟨q2a, h2, f2⟩ := q2
  cases q2a
  conv => whnf
  refine ⟨fun b13 => ?_, fun b13 => absurd b13 (by decide)⟩
  conv => whnf
  refine ⟨fun b19 => ?_, fun b19 => absurd rfl b19⟩
  conv => whnf
  refine ⟨cr_le rfl, ?_⟩
  conv => whnf
  exact hK _ _ _ _ _ _ (cr_G_fg (loop (G 12 d) 0 _ (mm_up G 0 0 0) h2 f2 hI (by omega) rfl) ⟨rfl, rfl, rfl, trivial⟩)
end MOP7
