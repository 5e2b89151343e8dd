/-! THE CLASS: asks, both (printed by gen/comp21.py) -/
section CAB
variable {l : Launch} {s0 : State} {D : va_G} {ca : Nat → ClassId} {e0 : Nat} {O : Nat → Prop} {H : Heap} {A : Nat → Nat → Nat} {G : mm_G} {w : cc_W}
/-- the marks after one that is let in -/
def w_t (G : mm_G) (w : cc_W) (c room m : Nat) : cc_W := w_u w (!mm_ex (mm_eu G (mm_u G c room m)) 0 (G 32 0)) (mm_u G c room m)
def w_a (G : mm_G) (w : cc_W) (c d room m : Nat) : cc_W := if mm_aw G c d room m = 0 then w_t G w c room m else w
def w_b (G : mm_G) (w : cc_W) (a b d room m : Nat) : cc_W := if mm_bw G a b d room m = 0 then w_t (mm_lt G a d room m) (w_t G w a room m) b room m else w
/-- what a card let in leaves, where the ranges are right -/
theorem cc_B_lt {t c d room m : Nat} (hB : cc_B G t) (hc : c < G 19 0) (hd : d < G 4 0) (hrm : room < G 2 0) (hm : m ≤ 1000000) (hd5 : G 12 d < 50) (h32 : G 32 0 + 1 ≤ 2 * t) : cc_B (mm_lt G c d room m) t := by
  obtain ⟨b1, b2, b4, b16, b19, b22, b28, b32, b34, bt, b3, b5, b11, b12, b13, b18, b20, b23, b31, b29, b33⟩ := hB
  have hp := b20 c hc
  have hu : mm_u G c room m < 144000 := mm_u_lt (b18 _ hp.1).1 (b3 _ hrm)
  have e : ∀ k i, k ≠ 33 → k ≠ 32 → k ≠ 18 → k ≠ 13 → k ≠ 14 → k ≠ 15 → k ≠ 12 → mm_lt G c d room m k i = G k i := fun k i h1 h2 h3 h4 h5 h6 h7 => mm_lt_k h1 h2 h3 h4 h5 h6 h7
  have e32 : mm_lt G c d room m 32 0 ≤ G 32 0 + 1 ∧ (∀ q, q < mm_lt G c d room m 32 0 → mm_lt G c d room m 33 q < 144000) := by
    rw [mm_lt_ad (by decide) (by decide) (by decide) (by decide) (by decide)]
    cases hf : (!mm_ex (mm_eu G (mm_u G c room m)) 0 (G 32 0)) with
    | false =>
      refine ⟨Nat.le_succ _, fun q hq => ?_⟩
      rw [mm_lt_ad (by decide) (by decide) (by decide) (by decide) (by decide), hf]
      exact b33 q hq
    | true =>
      have e9 : mm_ad G true (mm_u G c room m) 32 0 = G 32 0 + 1 := mm_up_s (mm_up G 33 (G 32 0) (mm_u G c room m)) 32 0 (G 32 0 + 1)
      rw [e9]
      refine ⟨Nat.le_refl _, fun q hq => ?_⟩
      rw [mm_lt_ad (by decide) (by decide) (by decide) (by decide) (by decide), hf]
      show mm_up (mm_up G 33 (G 32 0) (mm_u G c room m)) 32 0 (G 32 0 + 1) 33 q < 144000
      rw [mm_up_k _ _ _ _ (by decide), mm_up_at]
      split
      · exact hu
      · exact b33 q (by omega)
  by_cases hon : nI (G 10 d) = 9000
  · have eG : mm_lt G c d room m = mm_up (mm_ad G (!mm_ex (mm_eu G (mm_u G c room m)) 0 (G 32 0)) (mm_u G c room m)) 18 (G 20 c) room := by
      unfold mm_lt mm_le
      rw [if_pos hon]
    have k12 : ∀ j, mm_lt G c d room m 12 j = G 12 j := fun j => by rw [eG, mm_up_k _ _ _ _ (by decide), ad_k (by decide) (by decide)]
    have kr : ∀ k i, k = 13 ∨ k = 14 ∨ k = 15 → mm_lt G c d room m k i = G k i := fun k i hk => by rw [eG, mm_up_k _ _ _ _ (by omega), ad_k (by omega) (by omega)]
    have k18 : ∀ i, mm_lt G c d room m 18 i = if i = G 20 c then room else G 18 i := fun i => by rw [eG, mm_up_at, ad_k (by decide) (by decide)]
    unfold cc_B
    simp only [e 1 0 (by decide) (by decide) (by decide) (by decide) (by decide) (by decide) (by decide), e 2 0 (by decide) (by decide) (by decide) (by decide) (by decide) (by decide) (by decide), e 4 0 (by decide) (by decide) (by decide) (by decide) (by decide) (by decide) (by decide), e 16 0 (by decide) (by decide) (by decide) (by decide) (by decide) (by decide) (by decide), e 19 0 (by decide) (by decide) (by decide) (by decide) (by decide) (by decide) (by decide), e 22 0 (by decide) (by decide) (by decide) (by decide) (by decide) (by decide) (by decide), e 28 0 (by decide) (by decide) (by decide) (by decide) (by decide) (by decide) (by decide), e 34 0 (by decide) (by decide) (by decide) (by decide) (by decide) (by decide) (by decide), k12, kr 13 _ (by decide), kr 14 _ (by decide), kr 15 _ (by decide)]
    simp only [e 3 _ (by decide) (by decide) (by decide) (by decide) (by decide) (by decide) (by decide), e 5 _ (by decide) (by decide) (by decide) (by decide) (by decide) (by decide) (by decide), e 6 _ (by decide) (by decide) (by decide) (by decide) (by decide) (by decide) (by decide), e 7 _ (by decide) (by decide) (by decide) (by decide) (by decide) (by decide) (by decide), e 8 _ (by decide) (by decide) (by decide) (by decide) (by decide) (by decide) (by decide), e 9 _ (by decide) (by decide) (by decide) (by decide) (by decide) (by decide) (by decide), e 10 _ (by decide) (by decide) (by decide) (by decide) (by decide) (by decide) (by decide), e 11 _ (by decide) (by decide) (by decide) (by decide) (by decide) (by decide) (by decide), e 17 _ (by decide) (by decide) (by decide) (by decide) (by decide) (by decide) (by decide), e 20 _ (by decide) (by decide) (by decide) (by decide) (by decide) (by decide) (by decide), e 21 _ (by decide) (by decide) (by decide) (by decide) (by decide) (by decide) (by decide), e 23 _ (by decide) (by decide) (by decide) (by decide) (by decide) (by decide) (by decide), e 24 _ (by decide) (by decide) (by decide) (by decide) (by decide) (by decide) (by decide), e 25 _ (by decide) (by decide) (by decide) (by decide) (by decide) (by decide) (by decide), e 26 _ (by decide) (by decide) (by decide) (by decide) (by decide) (by decide) (by decide), e 27 _ (by decide) (by decide) (by decide) (by decide) (by decide) (by decide) (by decide), e 29 _ (by decide) (by decide) (by decide) (by decide) (by decide) (by decide) (by decide), e 30 _ (by decide) (by decide) (by decide) (by decide) (by decide) (by decide) (by decide), e 31 _ (by decide) (by decide) (by decide) (by decide) (by decide) (by decide) (by decide)]
    refine ⟨b1, b2, b4, b16, b19, b22, b28, by omega, b34, bt, b3, b5, b11, b12, b13, fun i hi => ⟨(b18 i hi).1, ?_⟩, b20, b23, b31, b29, e32.2⟩
    rw [k18]
    split
    · exact hrm
    · exact (b18 i hi).2
  · have eG : mm_lt G c d room m = mm_up (mm_up (mm_up (mm_up (mm_ad G (!mm_ex (mm_eu G (mm_u G c room m)) 0 (G 32 0)) (mm_u G c room m)) 13 (50 * d + G 12 d) c) 14 (50 * d + G 12 d) room) 15 (50 * d + G 12 d) m) 12 d (G 12 d + 1) := by
      unfold mm_lt mm_le
      rw [if_neg hon]
    have k12 : ∀ j, mm_lt G c d room m 12 j = if j = d then G 12 d + 1 else G 12 j := fun j => by rw [eG, mm_up_at, mm_up_k _ _ _ _ (by decide), mm_up_k _ _ _ _ (by decide), mm_up_k _ _ _ _ (by decide), ad_k (by decide) (by decide)]
    have k13 : ∀ j, mm_lt G c d room m 13 j = if j = 50 * d + G 12 d then c else G 13 j := fun j => by rw [eG, mm_up_k _ _ _ _ (by decide), mm_up_k _ _ _ _ (by decide), mm_up_k _ _ _ _ (by decide), mm_up_at, ad_k (by decide) (by decide)]
    have k14 : ∀ j, mm_lt G c d room m 14 j = if j = 50 * d + G 12 d then room else G 14 j := fun j => by rw [eG, mm_up_k _ _ _ _ (by decide), mm_up_k _ _ _ _ (by decide), mm_up_at, mm_up_k _ _ _ _ (by decide), ad_k (by decide) (by decide)]
    have k15 : ∀ j, mm_lt G c d room m 15 j = if j = 50 * d + G 12 d then m else G 15 j := fun j => by rw [eG, mm_up_k _ _ _ _ (by decide), mm_up_at, mm_up_k _ _ _ _ (by decide), mm_up_k _ _ _ _ (by decide), ad_k (by decide) (by decide)]
    have k18 : ∀ i, mm_lt G c d room m 18 i = G 18 i := fun i => by rw [eG, mm_up_k _ _ _ _ (by decide), mm_up_k _ _ _ _ (by decide), mm_up_k _ _ _ _ (by decide), mm_up_k _ _ _ _ (by decide), ad_k (by decide) (by decide)]
    have hno : G 10 d ≠ 9000 := fun q => hon (by rw [q]; rfl)
    unfold cc_B
    simp only [e 1 0 (by decide) (by decide) (by decide) (by decide) (by decide) (by decide) (by decide), e 2 0 (by decide) (by decide) (by decide) (by decide) (by decide) (by decide) (by decide), e 4 0 (by decide) (by decide) (by decide) (by decide) (by decide) (by decide) (by decide), e 16 0 (by decide) (by decide) (by decide) (by decide) (by decide) (by decide) (by decide), e 19 0 (by decide) (by decide) (by decide) (by decide) (by decide) (by decide) (by decide), e 22 0 (by decide) (by decide) (by decide) (by decide) (by decide) (by decide) (by decide), e 28 0 (by decide) (by decide) (by decide) (by decide) (by decide) (by decide) (by decide), e 34 0 (by decide) (by decide) (by decide) (by decide) (by decide) (by decide) (by decide), e 3 _ (by decide) (by decide) (by decide) (by decide) (by decide) (by decide) (by decide), e 5 _ (by decide) (by decide) (by decide) (by decide) (by decide) (by decide) (by decide), e 6 _ (by decide) (by decide) (by decide) (by decide) (by decide) (by decide) (by decide), e 7 _ (by decide) (by decide) (by decide) (by decide) (by decide) (by decide) (by decide), e 8 _ (by decide) (by decide) (by decide) (by decide) (by decide) (by decide) (by decide), e 9 _ (by decide) (by decide) (by decide) (by decide) (by decide) (by decide) (by decide), e 10 _ (by decide) (by decide) (by decide) (by decide) (by decide) (by decide) (by decide), e 11 _ (by decide) (by decide) (by decide) (by decide) (by decide) (by decide) (by decide), e 17 _ (by decide) (by decide) (by decide) (by decide) (by decide) (by decide) (by decide), e 20 _ (by decide) (by decide) (by decide) (by decide) (by decide) (by decide) (by decide), e 21 _ (by decide) (by decide) (by decide) (by decide) (by decide) (by decide) (by decide), e 23 _ (by decide) (by decide) (by decide) (by decide) (by decide) (by decide) (by decide), e 24 _ (by decide) (by decide) (by decide) (by decide) (by decide) (by decide) (by decide), e 25 _ (by decide) (by decide) (by decide) (by decide) (by decide) (by decide) (by decide), e 26 _ (by decide) (by decide) (by decide) (by decide) (by decide) (by decide) (by decide), e 27 _ (by decide) (by decide) (by decide) (by decide) (by decide) (by decide) (by decide), e 29 _ (by decide) (by decide) (by decide) (by decide) (by decide) (by decide) (by decide), e 30 _ (by decide) (by decide) (by decide) (by decide) (by decide) (by decide) (by decide), e 31 _ (by decide) (by decide) (by decide) (by decide) (by decide) (by decide) (by decide), k18]
    refine ⟨b1, b2, b4, b16, b19, b22, b28, by omega, b34, bt, b3, fun i hi => ?_, b11, fun q => ?_, fun d2 j hd2 hj => ?_, b18, b20, b23, b31, b29, e32.2⟩
    · obtain ⟨q1, q2, q3, q4, q5, q6, q7, q8, q9⟩ := b5 i hi
      refine ⟨q1, q2, q3, q4, q5, q6, q7, ?_, fun q => ?_⟩
      · rw [k12]
        split
        · omega
        · exact q8
      · rw [k12, if_neg (fun e9 => hno (by rw [← e9]; exact q))]
        exact q9 q
    · rw [k12]
      split
      · rename_i e9
        exact Or.inr (by omega)
      · exact b12 q
    · rw [k13, k14, k15]
      by_cases e9 : 50 * d2 + j = 50 * d + G 12 d
      · rw [if_pos e9, if_pos e9, if_pos e9]
        exact ⟨hc, hrm, hm⟩
      · rw [if_neg e9, if_neg e9, if_neg e9]
        rw [k12] at hj
        refine b13 d2 j hd2 ?_
        by_cases e10 : d2 = d
        · rw [if_pos e10] at hj
          rw [e10]
          have : j ≠ G 12 d := fun q => e9 (by rw [e10, q])
          omega
        · rw [if_neg e10] at hj
          exact hj

set_option maxRecDepth 20000 in
theorem j_C_asks_ok (hl : l.flags = flags0) (Z : cr_Z0 s0 D ca e0) (h : cc_H s0 D ca e0 O H A G w) (hM : cc_M G w) {t : Nat} (hB : cc_B G t) {c : Nat} (hc : c < G 19 0) {d room m : Nat} (hd : d < G 4 0) (hio : room = G 5 d ∨ room = G 6 d) (hm : m ≤ 1000000) (hn : G 1 0 ≤ m) (hs : G 12 d < 50) : cr_c l s0 y_C_asks cw_C_asks 9 2 112 [.ref (A 14 0), .int (nI c), .int (nI d), .int (nI room), .int (nI m)] H (fun o H' => o = .inl (some (.int (mm_aw (mm_up G 1 0 m) c d room m))) ∧ ∃ A', cc_H s0 D ca e0 (fun x => O x ∨ H.size ≤ x) H' A' (mm_ag (mm_up G 1 0 m) c d room m) (w_a (mm_up G 1 0 m) w c d room m) ∧ (∀ k i, cc_l G k i → A' k i = A k i) ∧ cr_Fr O H H') := by
  refine cr_enter (by decide +kernel) (Nat.le_of_ble_eq_true rfl) (fun hlo P9 E9 S9 M9 A9 B9 T9 C9 C hem hH => ?_)
  have hr := hB.r
  have hB1 := cc_B_now hB hm hn
  have hM1 : cc_M (mm_up G 1 0 m) w := cc_M_of hM (fun a b q => mm_up_k _ _ _ _ (by omega))
  have hr1 := hB1.r
  have hBB := hB
  obtain ⟨b1, b2, b4, b16, b19, b22, b28, b32, b34, bt, b3, b5, b11, b12, b13, b18, b20, b23, b31, b29, b33⟩ := hBB
  have hrm : room < G 2 0 := by
    rcases hio with e | e
    · rw [e]; exact (hr.1 d hd).1
    · rw [e]; exact (hr.1 d hd).2
  have h10 : G 10 d < 2 ^ 31 := by
    have := (b5 d hd).2.2.2.2.2.2.1
    omega
  have h50 : ∀ i, i < G 4 0 → G 12 i ≤ 50 := fun i hi => (b5 i hi).2.2.2.2.2.2.2.1
  refine cr_vc [] 120 (s_C_asks hl Z C hem) (fun K hK => ?_)
  conv => whnf
  refine ⟨rfl, ?_⟩
  conv => whnf
  refine ⟨_, (h.c 14 0 rfl), _, _, _, _, j_C_cardNumbered hl Z (h.c 14 0 rfl) (h.li 3 (by decide)) (show G 19 0 < 2 ^ 31 by omega) hc (h.c 3 c hc), by decide, cr_le rfl, cr_le rfl, cr_le rfl, fun v2 H2 q2 _ => ?_, fun kd H9 q9 _ => by cases q9.1⟩
  obtain ⟨q2a, q2b⟩ := q2
  cases q2a
  replace q2b := q2b.symm
  subst q2b
  conv => whnf
  refine ⟨cr_le rfl, ?_⟩
  conv => whnf
  refine ⟨rfl, ?_⟩
  conv => whnf
  refine ⟨_, (h.c 14 0 rfl), _, _, _, _, j_C_doorNumbered hl Z (h.c 14 0 rfl) (h.li 1 (by decide)) (show G 4 0 < 2 ^ 31 by omega) hd (h.c 1 d hd), by decide, cr_le rfl, cr_le rfl, cr_le rfl, fun v9 H9 q9 _ => ?_, fun kd H9 q9 _ => by cases q9.1⟩
  obtain ⟨q9a, q9b⟩ := q9
  cases q9a
  replace q9b := q9b.symm
  subst q9b
  conv => whnf
  refine ⟨cr_le rfl, ?_⟩
  conv => whnf
  refine ⟨rfl, ?_⟩
  conv => whnf
  refine ⟨_, _, _, _, cc_roomOf hl Z h hr hd b2 hio, by decide, cr_le rfl, cr_le rfl, cr_le rfl, fun v17 H17 q17 _ => ?_, fun kd H9 q9 _ => by cases q9.1⟩
  obtain ⟨q17a, q17b⟩ := q17
  cases q17a
  replace q17b := q17b.symm
  subst q17b
  conv => whnf
  refine ⟨cr_le rfl, ?_⟩
  conv => whnf
  refine ⟨rfl, ?_⟩
  conv => whnf
  refine ⟨_, (h.c 14 0 rfl), _, _, _, _, j_C_checkMinuteFromNow hl Z (h.c 14 0 rfl) (mm_min_of hm) (nI_le hn (by omega)), by decide, cr_le rfl, cr_le rfl, cr_le rfl, fun v25 H25 q25 _ => ?_, fun kd H9 q9 _ => by cases q9.1⟩
  obtain ⟨q25a, q25b⟩ := q25
  cases q25a
  replace q25b := q25b.symm
  subst q25b
  conv => whnf
  refine ⟨rfl, ?_⟩
  conv => whnf
  refine ⟨_, _, _, _, cc_space (k := 1) hl Z h hd (by omega), by decide, cr_le rfl, cr_le rfl, cr_le rfl, fun v31 H31 q31 _ => ?_, fun kd H9 q9 _ => by cases q9.1⟩
  obtain ⟨q31a, q31b⟩ := q31
  cases q31a
  replace q31b := q31b.symm
  subst q31b
  conv => whnf
  refine ⟨_, (h.c 14 0 rfl), (h.lo 14 0 rfl).1, ⟨rfl, rfl⟩, ?_⟩
  conv => whnf
  intro H37 u37
  have h1 : cc_H s0 D ca e0 O H37 A (mm_up G 1 0 m) w := cc_now Z h u37
  have fr1 : cr_Fr O H H37 := cc_Fr h (k := 14) (i := 0) rfl u37
  conv => whnf
  refine ⟨rfl, ?_⟩
  conv => whnf
  refine ⟨_, (h1.c 14 0 rfl), _, _, _, _, cc_rbi (t := t) hl Z h1 hM1 hB1 (show c < (mm_up G 1 0 m) 19 0 from hc) (show d < (mm_up G 1 0 m) 4 0 from hd) (show room < (mm_up G 1 0 m) 2 0 from hrm), by decide, cr_le rfl, cr_le rfl, cr_le rfl, fun v49 H49 q49 _ => ?_, fun kd H9 q9 _ => by cases q9.1⟩
  obtain ⟨q49a, q49b⟩ := q49
  cases q49a
  replace q49b := q49b.symm
  subst q49b
  conv => whnf
  refine ⟨cr_le rfl, ?_⟩
  conv => whnf
  refine ⟨fun b56 => ?_, fun b56 => ?_⟩
  · conv => whnf
    refine ⟨fun b73 => ?_, fun b73 => absurd b73 b56⟩
    conv => whnf
    have e : mm_aw (mm_up G 1 0 m) c d room m = mm_rf (mm_up G 1 0 m) c d room m := if_neg b56
    have e2 : ¬ mm_aw (mm_up G 1 0 m) c d room m = 0 := by rw [e]; exact b56
    refine ⟨cr_le rfl, cr_le rfl, by rw [e], A, ?_, fun _ _ _ => rfl, fr1⟩
    unfold mm_ag w_a
    rw [if_neg e2, if_neg e2]
    exact h1.weak (fun q hq => Or.inl hq)
  · conv => whnf
    refine ⟨_, (h1.c 1 d hd), ?_⟩
    conv => whnf
    refine ⟨fun b64 => ?_, fun b64 => ?_⟩
    · conv => whnf
      refine ⟨fun b73 => absurd b56 b73, fun b73 => ?_⟩
      conv => whnf
      refine ⟨rfl, ?_⟩
      conv => whnf
      refine ⟨_, (h1.c 14 0 rfl), _, _, _, _, cc_letIn (G := mm_up G 1 0 m) hl Z h1 hr1 hM1.2.2.2.2.2.2 hc hd hrm (b18 _ (b20 c hc).1).1 (b3 _ hrm) hm h10 hs h50, by decide, cr_le rfl, cr_le rfl, cr_le rfl, fun v85 H85 q85 _ => ?_, fun kd H9 q9 _ => by cases q9.1⟩
      obtain ⟨qa, A2, h2, hA2, fr2⟩ := q85
      cases qa
      conv => whnf
      have e : mm_aw (mm_up G 1 0 m) c d room m = 0 := by
        unfold mm_aw
        rw [if_pos b56, if_pos b64]
      refine ⟨cr_le rfl, cr_le rfl, by rw [e, b56], A2, ?_, hA2, fr1.trans fr2 (fun _ _ q => q) (fun _ _ q => q)⟩
      unfold mm_ag w_a
      rw [if_pos e, if_pos e]
      exact h2.weak (fun q hq => hq.imp id (fun hq => by rw [u37.1] at hq; exact hq))
    · conv => whnf
      refine ⟨cr_le rfl, ?_⟩
      conv => whnf
      refine ⟨fun b73 => ?_, fun b73 => absurd b73 (by decide)⟩
      conv => whnf
      have e : mm_aw (mm_up G 1 0 m) c d room m = 7 := by
        unfold mm_aw
        rw [if_pos b56, if_neg b64]
      have e2 : ¬ mm_aw (mm_up G 1 0 m) c d room m = 0 := by rw [e]; decide
      refine ⟨cr_le rfl, cr_le rfl, by rw [e], A, ?_, fun _ _ _ => rfl, fr1⟩
      unfold mm_ag w_a
      rw [if_neg e2, if_neg e2]
      exact h1.weak (fun q hq => Or.inl hq)
theorem cc_B_st {t : Nat} (hB : cc_B G t) (ht : t < 3072) : cc_B G (t + 1) := by
  obtain ⟨b1, b2, b4, b16, b19, b22, b28, b32, b34, bt, q⟩ := hB
  exact ⟨b1, b2, b4, b16, b19, b22, by omega, by omega, by omega, by omega, q⟩
theorem lt_12 {c d room m : Nat} : mm_lt G c d room m 12 d ≤ G 12 d + 1 := by
  unfold mm_lt mm_le
  split
  · rw [mm_up_k _ _ _ _ (by decide), ad_k (by decide) (by decide)]
    omega
  · rw [mm_up_s]
    exact Nat.le_refl _
theorem lt_l {c d room m : Nat} (hd : d < G 4 0) (hd5 : G 12 d < 50) : ∀ k i, cc_l G k i → cc_l (mm_lt G c d room m) k i := by
  have e : ∀ k i, k ≠ 33 → k ≠ 32 → k ≠ 18 → k ≠ 13 → k ≠ 14 → k ≠ 15 → k ≠ 12 → mm_lt G c d room m k i = G k i := fun k i h1 h2 h3 h4 h5 h6 h7 => mm_lt_k h1 h2 h3 h4 h5 h6 h7
  have e12 : ∀ j, G 12 j ≤ mm_lt G c d room m 12 j := by
    intro j
    unfold mm_lt mm_le
    split
    · rw [mm_up_k _ _ _ _ (by decide), ad_k (by decide) (by decide)]
      exact Nat.le_refl _
    · rw [mm_up_at]
      split
      · rename_i e9
        rw [e9]
        omega
      · rw [mm_up_k _ _ _ _ (by decide), mm_up_k _ _ _ _ (by decide), mm_up_k _ _ _ _ (by decide), ad_k (by decide) (by decide)]
        exact Nat.le_refl _
  intro k i ql
  unfold cc_l at ql ⊢
  split at ql <;> try simp only [e 2 0 (by decide) (by decide) (by decide) (by decide) (by decide) (by decide) (by decide), e 4 0 (by decide) (by decide) (by decide) (by decide) (by decide) (by decide) (by decide), e 16 0 (by decide) (by decide) (by decide) (by decide) (by decide) (by decide) (by decide), e 19 0 (by decide) (by decide) (by decide) (by decide) (by decide) (by decide) (by decide), e 22 0 (by decide) (by decide) (by decide) (by decide) (by decide) (by decide) (by decide)]
  all_goals first | exact ql | exact ⟨ql.1, Nat.lt_of_lt_of_le ql.2 (e12 _)⟩
set_option maxRecDepth 20000 in
theorem j_C_both_ok (hl : l.flags = flags0) (Z : cr_Z0 s0 D ca e0) (h : cc_H s0 D ca e0 O H A G w) (hM : cc_M G w) {t : Nat} (hB : cc_B G t) (htt : t < 3072) {a b : Nat} (ha : a < G 19 0) (hb : b < G 19 0) (hab : a ≠ b) {d room m : Nat} (hd : d < G 4 0) (hio : room = G 5 d ∨ room = G 6 d) (hm : m ≤ 1000000) (hn : G 1 0 ≤ m) (hs : G 12 d < 49) : cr_c l s0 y_C_both cw_C_both 9 4 224 [.ref (A 14 0), .int (nI a), .int (nI b), .int (nI d), .int (nI room), .int (nI m)] H (fun o H' => o = .inl (some (.int (mm_bw (mm_up G 1 0 m) a b d room m))) ∧ ∃ A', cc_H s0 D ca e0 (fun x => O x ∨ H.size ≤ x) H' A' (mm_bg (mm_up G 1 0 m) a b d room m) (w_b (mm_up G 1 0 m) w a b d room m) ∧ (∀ k i, cc_l G k i → A' k i = A k i) ∧ cr_Fr O H H') := by
  refine cr_enter (by decide +kernel) (Nat.le_of_ble_eq_true rfl) (fun hlo P9 E9 S9 M9 A9 B9 T9 C9 C hem hH => ?_)
  have hr := hB.r
  have hB1 := cc_B_now hB hm hn
  have hM1 : cc_M (mm_up G 1 0 m) w := cc_M_of hM (fun a b q => mm_up_k _ _ _ _ (by omega))
  have hr1 := hB1.r
  have hBB := hB
  obtain ⟨b1, b2, b4, b16, b19, b22, b28, b32, b34, bt, b3, b5, b11, b12, b13, b18, b20, b23, b31, b29, b33⟩ := hBB
  have hrm : room < G 2 0 := by
    rcases hio with e | e
    · rw [e]; exact (hr.1 d hd).1
    · rw [e]; exact (hr.1 d hd).2
  have h10 : G 10 d < 2 ^ 31 := by
    have := (b5 d hd).2.2.2.2.2.2.1
    omega
  have h50 : ∀ i, i < G 4 0 → G 12 i ≤ 50 := fun i hi => (b5 i hi).2.2.2.2.2.2.2.1
  refine cr_vc [] 160 (s_C_both hl Z C hem) (fun K hK => ?_)
  conv => whnf
  refine ⟨rfl, ?_⟩
  conv => whnf
  refine ⟨_, (h.c 14 0 rfl), _, _, _, _, j_C_cardNumbered hl Z (h.c 14 0 rfl) (h.li 3 (by decide)) (show G 19 0 < 2 ^ 31 by omega) ha (h.c 3 a ha), by decide, cr_le rfl, cr_le rfl, cr_le rfl, fun v2 H2 q2 _ => ?_, fun kd H9 q9 _ => by cases q9.1⟩
  obtain ⟨q2a, q2b⟩ := q2
  cases q2a
  replace q2b := q2b.symm
  subst q2b
  conv => whnf
  refine ⟨cr_le rfl, ?_⟩
  conv => whnf
  refine ⟨rfl, ?_⟩
  conv => whnf
  refine ⟨_, (h.c 14 0 rfl), _, _, _, _, j_C_cardNumbered hl Z (h.c 14 0 rfl) (h.li 3 (by decide)) (show G 19 0 < 2 ^ 31 by omega) hb (h.c 3 b hb), by decide, cr_le rfl, cr_le rfl, cr_le rfl, fun v9 H9 q9 _ => ?_, fun kd H9 q9 _ => by cases q9.1⟩
  obtain ⟨q9a, q9b⟩ := q9
  cases q9a
  replace q9b := q9b.symm
  subst q9b
  conv => whnf
  refine ⟨cr_le rfl, ?_⟩
  conv => whnf
  refine ⟨fun b16 => ?_, fun b16 => absurd ((nI_eq (by omega) (by omega)).mp b16) hab⟩
  conv => whnf
  refine ⟨rfl, ?_⟩
  conv => whnf
  refine ⟨_, (h.c 14 0 rfl), _, _, _, _, j_C_doorNumbered hl Z (h.c 14 0 rfl) (h.li 1 (by decide)) (show G 4 0 < 2 ^ 31 by omega) hd (h.c 1 d hd), by decide, cr_le rfl, cr_le rfl, cr_le rfl, fun v31 H31 q31 _ => ?_, fun kd H9 q9 _ => by cases q9.1⟩
  obtain ⟨q31a, q31b⟩ := q31
  cases q31a
  replace q31b := q31b.symm
  subst q31b
  conv => whnf
  refine ⟨cr_le rfl, ?_⟩
  conv => whnf
  refine ⟨rfl, ?_⟩
  conv => whnf
  refine ⟨_, _, _, _, cc_roomOf hl Z h hr hd b2 hio, by decide, cr_le rfl, cr_le rfl, cr_le rfl, fun v40 H40 q40 _ => ?_, fun kd H9 q9 _ => by cases q9.1⟩
  obtain ⟨q40a, q40b⟩ := q40
  cases q40a
  replace q40b := q40b.symm
  subst q40b
  conv => whnf
  refine ⟨cr_le rfl, ?_⟩
  conv => whnf
  refine ⟨rfl, ?_⟩
  conv => whnf
  refine ⟨_, (h.c 14 0 rfl), _, _, _, _, j_C_checkMinuteFromNow hl Z (h.c 14 0 rfl) (mm_min_of hm) (nI_le hn (by omega)), by decide, cr_le rfl, cr_le rfl, cr_le rfl, fun v48 H48 q48 _ => ?_, fun kd H9 q9 _ => by cases q9.1⟩
  obtain ⟨q48a, q48b⟩ := q48
  cases q48a
  replace q48b := q48b.symm
  subst q48b
  conv => whnf
  refine ⟨rfl, ?_⟩
  conv => whnf
  refine ⟨_, _, _, _, cc_space (k := 2) hl Z h hd (by omega), by decide, cr_le rfl, cr_le rfl, cr_le rfl, fun v54 H54 q54 _ => ?_, fun kd H9 q9 _ => by cases q9.1⟩
  obtain ⟨q54a, q54b⟩ := q54
  cases q54a
  replace q54b := q54b.symm
  subst q54b
  conv => whnf
  refine ⟨_, (h.c 14 0 rfl), (h.lo 14 0 rfl).1, ⟨rfl, rfl⟩, ?_⟩
  conv => whnf
  intro H60 u60
  have h1 : cc_H s0 D ca e0 O H60 A (mm_up G 1 0 m) w := cc_now Z h u60
  have fr1 : cr_Fr O H H60 := cc_Fr h (k := 14) (i := 0) rfl u60
  conv => whnf
  refine ⟨rfl, ?_⟩
  conv => whnf
  refine ⟨_, (h1.c 14 0 rfl), _, _, _, _, cc_rbi (t := t) hl Z h1 hM1 hB1 (show a < (mm_up G 1 0 m) 19 0 from ha) (show d < (mm_up G 1 0 m) 4 0 from hd) (show room < (mm_up G 1 0 m) 2 0 from hrm), by decide, cr_le rfl, cr_le rfl, cr_le rfl, fun v72 H72 q72 _ => ?_, fun kd H9 q9 _ => by cases q9.1⟩
  obtain ⟨q72a, q72b⟩ := q72
  cases q72a
  replace q72b := q72b.symm
  subst q72b
  conv => whnf
  refine ⟨cr_le rfl, ?_⟩
  conv => whnf
  refine ⟨fun b79 => ?_, fun b79 => ?_⟩
  · conv => whnf
    refine ⟨fun b98 => ?_, fun b98 => absurd b98 b79⟩
    conv => whnf
    refine ⟨fun b120 => ?_, fun b120 => absurd b120 b79⟩
    conv => whnf
    have n1 : ¬ mm_rf (mm_up G 1 0 m) a d room m ≤ 0 := fun q => b79 ((mm_rf_le _ _ _ _ _).mp q)
    have e1 : mm_b2 (mm_up G 1 0 m) a b d room m = mm_rf (mm_up G 1 0 m) a d room m := if_neg n1
    have e : mm_bw (mm_up G 1 0 m) a b d room m = mm_rf (mm_up G 1 0 m) a d room m := by
      unfold mm_bw
      rw [e1, if_neg n1]
    have e2 : ¬ mm_bw (mm_up G 1 0 m) a b d room m = 0 := by rw [e]; exact b79
    refine ⟨cr_le rfl, cr_le rfl, by rw [e], A, ?_, fun _ _ _ => rfl, fr1⟩
    unfold mm_bg w_b
    rw [if_neg e2, if_neg e2]
    exact h1.weak (fun q hq => Or.inl hq)
  · conv => whnf
    refine ⟨rfl, ?_⟩
    conv => whnf
    refine ⟨_, (h1.c 14 0 rfl), _, _, _, _, cc_rbi (t := t) hl Z h1 hM1 hB1 (show b < (mm_up G 1 0 m) 19 0 from hb) (show d < (mm_up G 1 0 m) 4 0 from hd) (show room < (mm_up G 1 0 m) 2 0 from hrm), by decide, cr_le rfl, cr_le rfl, cr_le rfl, fun v91 H91 q91 _ => ?_, fun kd H9 q9 _ => by cases q9.1⟩
    obtain ⟨q91a, q91b⟩ := q91
    cases q91a
    replace q91b := q91b.symm
    subst q91b
    conv => whnf
    refine ⟨cr_le rfl, ?_⟩
    conv => whnf
    refine ⟨fun b98 => ?_, fun b98 => ?_⟩
    · conv => whnf
      refine ⟨fun b120 => ?_, fun b120 => absurd b120 b98⟩
      conv => whnf
      have n1 : mm_rf (mm_up G 1 0 m) a d room m ≤ 0 := (mm_rf_le _ _ _ _ _).mpr b79
      have e1 : mm_b2 (mm_up G 1 0 m) a b d room m = mm_rf (mm_up G 1 0 m) b d room m := if_pos n1
      have n2 : ¬ mm_rf (mm_up G 1 0 m) b d room m ≤ 0 := fun q => b98 ((mm_rf_le _ _ _ _ _).mp q)
      have e : mm_bw (mm_up G 1 0 m) a b d room m = mm_rf (mm_up G 1 0 m) b d room m := by
        unfold mm_bw
        rw [e1, if_neg n2]
      have e2 : ¬ mm_bw (mm_up G 1 0 m) a b d room m = 0 := by rw [e]; exact b98
      refine ⟨cr_le rfl, cr_le rfl, by rw [e], A, ?_, fun _ _ _ => rfl, fr1⟩
      unfold mm_bg w_b
      rw [if_neg e2, if_neg e2]
      exact h1.weak (fun q hq => Or.inl hq)
    · conv => whnf
      refine ⟨_, (h1.c 3 a ha), ?_⟩
      conv => whnf
      refine ⟨_, (h1.c 3 b hb), ?_⟩
      conv => whnf
      refine ⟨fun b111 => ?_, fun b111 => ?_⟩
      · conv => whnf
        refine ⟨fun b120 => absurd b98 b120, fun b120 => ?_⟩
        conv => whnf
        refine ⟨rfl, ?_⟩
        conv => whnf
        refine ⟨_, (h1.c 14 0 rfl), _, _, _, _, cc_letIn (G := mm_up G 1 0 m) hl Z h1 hr1 hM1.2.2.2.2.2.2 ha hd hrm (b18 _ (b20 a ha).1).1 (b3 _ hrm) hm h10 (show G 12 d < 50 by omega) h50, by decide, cr_le rfl, cr_le rfl, cr_le rfl, fun v132 H132 q132 _ => ?_, fun kd H9 q9 _ => by cases q9.1⟩
        obtain ⟨qa, A2, h2, hA2, fr2⟩ := q132
        cases qa
        have hB2 : cc_B (mm_lt (mm_up G 1 0 m) a d room m) (t + 1) := cc_B_lt (t := t + 1) (cc_B_st hB1 htt) (show a < (mm_up G 1 0 m) 19 0 from ha) (show d < (mm_up G 1 0 m) 4 0 from hd) (show room < (mm_up G 1 0 m) 2 0 from hrm) hm (show (mm_up G 1 0 m) 12 d < 50 from (show G 12 d < 50 by omega)) (show (mm_up G 1 0 m) 32 0 + 1 ≤ 2 * (t + 1) from (show G 32 0 + 1 ≤ 2 * (t + 1) by omega))
        have lk : ∀ k i, cc_l G k i → cc_l (mm_lt (mm_up G 1 0 m) a d room m) k i := lt_l (G := mm_up G 1 0 m) hd (show G 12 d < 50 by omega)
        have kk : ∀ k i, k ≠ 33 → k ≠ 32 → k ≠ 18 → k ≠ 13 → k ≠ 14 → k ≠ 15 → k ≠ 12 → mm_lt (mm_up G 1 0 m) a d room m k i = (mm_up G 1 0 m) k i := fun k i h1 h2 h3 h4 h5 h6 h7 => mm_lt_k h1 h2 h3 h4 h5 h6 h7
        have rA : A2 3 b = A 3 b := hA2 3 b hb
        have rD : A2 1 d = A 1 d := hA2 1 d hd
        have rR : A2 0 room = A 0 room := hA2 0 room hrm
        have rX : A2 14 0 = A 14 0 := hA2 14 0 rfl
        have x2 := h2.c 14 0 rfl
        rw [rX] at x2
        have U2 : cc_U (mm_lt (mm_up G 1 0 m) a d room m) (w_u w (!mm_ex (mm_eu (mm_up G 1 0 m) (mm_u (mm_up G 1 0 m) a room m)) 0 ((mm_up G 1 0 m) 32 0)) (mm_u (mm_up G 1 0 m) a room m)) := cc_U_lt hM1.2.2.2.2.2.2 (b18 _ (b20 a ha).1).1 (b3 _ hrm) b33
        have c3 := cc_letIn (c := b) (d := d) (room := room) (m := m) hl Z h2 hB2.r U2 (by rw [kk 19 0 (by decide) (by decide) (by decide) (by decide) (by decide) (by decide) (by decide)]; exact hb) (by rw [kk 4 0 (by decide) (by decide) (by decide) (by decide) (by decide) (by decide) (by decide)]; exact hd) (by rw [kk 2 0 (by decide) (by decide) (by decide) (by decide) (by decide) (by decide) (by decide)]; exact hrm) (by rw [kk 17 _ (by decide) (by decide) (by decide) (by decide) (by decide) (by decide) (by decide), kk 20 _ (by decide) (by decide) (by decide) (by decide) (by decide) (by decide) (by decide)]; exact (b18 _ (b20 b hb).1).1) (by rw [kk 3 _ (by decide) (by decide) (by decide) (by decide) (by decide) (by decide) (by decide)]; exact b3 _ hrm) hm (by rw [kk 10 _ (by decide) (by decide) (by decide) (by decide) (by decide) (by decide) (by decide)]; exact h10) (by have := lt_12 (G := mm_up G 1 0 m) (c := a) (d := d) (room := room) (m := m); have q9 : (mm_up G 1 0 m) 12 d = G 12 d := rfl; omega) (fun i hi => (hB2.2.2.2.2.2.2.2.2.2.2.2.1 i hi).2.2.2.2.2.2.2.1)
        rw [rX, rA, rD, rR] at c3
        conv => whnf
        refine ⟨rfl, ?_⟩
        conv => whnf
        refine ⟨_, x2, _, _, _, _, c3, by decide, cr_le rfl, cr_le rfl, cr_le rfl, fun v144 H144 q144 _ => ?_, fun kd H9 q9 _ => by cases q9.1⟩
        obtain ⟨qa, A3, h3, hA3, fr3⟩ := q144
        cases qa
        conv => whnf
        have n1 : mm_rf (mm_up G 1 0 m) a d room m ≤ 0 := (mm_rf_le _ _ _ _ _).mpr b79
        have e1 : mm_b2 (mm_up G 1 0 m) a b d room m = mm_rf (mm_up G 1 0 m) b d room m := if_pos n1
        have n2 : mm_rf (mm_up G 1 0 m) b d room m ≤ 0 := (mm_rf_le _ _ _ _ _).mpr b98
        have pa := (b20 a ha).1
        have pb := (b20 b hb).1
        have no : ¬ nI (mm_up G 1 0 m 20 a) = nI (mm_up G 1 0 m 20 b) := fun q => b111 (congrArg (A 2) (show mm_up G 1 0 m 20 a = mm_up G 1 0 m 20 b from (nI_eq (show G 20 a < 2 ^ 31 by omega) (show G 20 b < 2 ^ 31 by omega)).mp q))
        have e : mm_bw (mm_up G 1 0 m) a b d room m = 0 := by
          unfold mm_bw
          rw [e1, if_pos n2, if_neg no]
        refine ⟨cr_le rfl, cr_le rfl, by rw [e, b98], A3, ?_, fun k i ql => (hA3 k i (lk k i ql)).trans (hA2 k i ql), (fr1.trans fr2 (fun _ _ q => q) (fun _ _ q => q)).trans fr3 (fun _ _ q => q) (fun q hq e9 => e9.elim id (fun e9 => by rw [u60.1] at e9; omega))⟩
        unfold mm_bg w_b
        rw [if_pos e, if_pos e]
        exact h3.weak (fun q hq => by
          rcases hq with (hq | hq) | hq
          · exact Or.inl hq
          · rw [u60.1] at hq
            exact Or.inr hq
          · exact Or.inr (Nat.le_trans (fr1.trans fr2 (S2 := O) (fun _ _ q => q) (fun _ _ q => q)).1 hq))
      · conv => whnf
        refine ⟨cr_le rfl, ?_⟩
        conv => whnf
        refine ⟨fun b120 => ?_, fun b120 => absurd b120 (by decide)⟩
        conv => whnf
        have n1 : mm_rf (mm_up G 1 0 m) a d room m ≤ 0 := (mm_rf_le _ _ _ _ _).mpr b79
        have e1 : mm_b2 (mm_up G 1 0 m) a b d room m = mm_rf (mm_up G 1 0 m) b d room m := if_pos n1
        have n2 : mm_rf (mm_up G 1 0 m) b d room m ≤ 0 := (mm_rf_le _ _ _ _ _).mpr b98
        have eo : G 20 a = G 20 b := (h.2.2.2.2.1 2 _ 2 _ (Or.inl (b20 a ha).1) (Or.inl (b20 b hb).1) b111).2
        have e : mm_bw (mm_up G 1 0 m) a b d room m = 8 := by
          unfold mm_bw
          rw [e1, if_pos n2, if_pos (show nI (mm_up G 1 0 m 20 a) = nI (mm_up G 1 0 m 20 b) from congrArg nI eo)]
        have e2 : ¬ mm_bw (mm_up G 1 0 m) a b d room m = 0 := by rw [e]; decide
        refine ⟨cr_le rfl, cr_le rfl, by rw [e], A, ?_, fun _ _ _ => rfl, fr1⟩
        unfold mm_bg w_b
        rw [if_neg e2, if_neg e2]
        exact h1.weak (fun q hq => Or.inl hq)
end CAB
