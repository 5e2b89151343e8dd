/-! THE CLASS: fewest, the whole (printed by gen/comp28.py) -/
section CFX
variable {l : Launch} {s0 : State} {D : va_G} {ca : Nat → ClassId} {e0 : Nat} {O : Nat → Prop} {H H1 : Heap} {A : Nat → Nat → Nat} {G : mm_G} {w : cc_W}
theorem lf_len (f : Nat → Nat) : ∀ j i, (lf f i j).length = j
  | 0, _ => rfl
  | j + 1, i => by
    show (lf f (i + 1) j).length + 1 = j + 1
    rw [lf_len f j (i + 1)]
theorem lf_mem (f : Nat → Nat) (x : Nat) : ∀ j i, x ∈ lf f i j ↔ ∃ q, i ≤ q ∧ q < i + j ∧ f q = x
  | 0, i => by
    constructor
    · intro h
      cases h
    · rintro ⟨q, h1, h2, -⟩
      omega
  | j + 1, i => by
    show x ∈ f i :: lf f (i + 1) j ↔ _
    rw [List.mem_cons, lf_mem f x j (i + 1)]
    constructor
    · rintro (h | ⟨q, h1, h2, h3⟩)
      · exact ⟨i, by omega, by omega, h.symm⟩
      · exact ⟨q, by omega, by omega, h3⟩
    · rintro ⟨q, h1, h2, h3⟩
      by_cases e : q = i
      · subst e
        exact Or.inl h3.symm
      · exact Or.inr ⟨q, by omega, by omega, h3⟩
theorem lf_nd (f : Nat → Nat) : ∀ j i, (∀ a b, i ≤ a → a < i + j → i ≤ b → b < i + j → f a = f b → a = b) → (lf f i j).Nodup
  | 0, _, _ => List.nodup_nil
  | j + 1, i, h => by
    show (f i :: lf f (i + 1) j).Nodup
    rw [List.nodup_cons]
    refine ⟨fun q => ?_, lf_nd f j (i + 1) (fun a b h1 h2 h3 h4 => h a b (by omega) (by omega) (by omega) (by omega))⟩
    obtain ⟨q, h1, h2, h3⟩ := (lf_mem f (f i) j (i + 1)).mp q
    have := h q i (by omega) (by omega) (by omega) (by omega) h3
    omega
def fs_I (G : mm_G) (n : Nat) (f : Nat → Nat) (U : Nat) : Prop := n ≤ 32 ∧ (∀ i, i < n → f i < 65536 ∧ f i ≠ 0) ∧ (∀ i j, i < n → j < n → f i = f j → i = j) ∧ (∀ u, u < U → us_u9 G u → nd G u ≠ 0 → ∃ i, i < n ∧ f i = nd G u) ∧ ∀ i, i < n → ∃ u, u < 144000 ∧ us_u9 G u ∧ f i = nd G u
theorem nd_lt (h22 : G 22 0 ≤ 16) (u : Nat) : nd G u < 65536 := by
  have h1 := fw_set_lt (G 23) (G 24) (G 25) (G 26) (u / 1440 / 10) (u / 1440 % 10) (u % 1440) (G 22 0)
  have h2 := Nat.pow_le_pow_right (show 0 < 2 by decide) h22
  exact Nat.lt_of_lt_of_le h1 h2
theorem fs_I.skip {n U U' : Nat} {f : Nat → Nat} (h : fs_I G n f U) (hs : ∀ u, U ≤ u → u < U' → ¬ us_u9 G u) : fs_I G n f U' := by
  obtain ⟨h1, h2, h3, h4, h5⟩ := h
  refine ⟨h1, h2, h3, fun u hu hus => ?_, h5⟩
  by_cases e : u < U
  · exact h4 u e hus
  · exact absurd hus (hs u (by omega) hu)
theorem fs_I.old {n U : Nat} {f : Nat → Nat} (h : fs_I G n f U) (hs : nd G U = 0 ∨ ∃ i, i < n ∧ f i = nd G U) : fs_I G n f (U + 1) := by
  obtain ⟨h1, h2, h3, h4, h5⟩ := h
  refine ⟨h1, h2, h3, fun u hu hus h0 => ?_, h5⟩
  by_cases e : u = U
  · subst e
    rcases hs with q | q
    · exact absurd q h0
    · exact q
  · exact h4 u (by omega) hus h0
theorem fs_I.cap {n U u : Nat} {f : Nat → Nat} (h : fs_I G n f U) (h22 : G 22 0 ≤ 16) (hf : ∀ i, i < G 22 0 → G 25 i < 1440) (ht : ∀ i, i < G 22 0 → G 26 i < 1440) (h0 : nd G u ≠ 0) (hn : ∀ i, i < n → f i ≠ nd G u) : n < 32 := by
  obtain ⟨h1, h2, h3, h4, h5⟩ := h
  have hc := fw_count (g := G 23) (z := G 24) (fr := G 25) (to := G 26) (n := G 22 0) hf ht (lf (fun i => if i = n then nd G u else f i) 0 (n + 1)) (lf_nd _ _ _ (fun a b _ ha _ hb e => ?_)) (fun y hy => ?_)
  · rw [lf_len] at hc
    omega
  · by_cases ea : a = n <;> by_cases eb : b = n
    · omega
    · simp only [ea, eb, if_true, if_false] at e
      exact absurd e.symm (hn b (by omega))
    · simp only [ea, eb, if_true, if_false] at e
      exact absurd e (hn a (by omega))
    · simp only [ea, eb, if_false] at e
      exact h3 a b (by omega) (by omega) e
  · obtain ⟨q, -, hq, e⟩ := (lf_mem _ _ _ _).mp hy
    by_cases eq : q = n
    · rw [if_pos eq] at e
      rw [← e]
      exact ⟨h0, _, _, _, Nat.mod_lt _ (by decide), rfl⟩
    · rw [if_neg eq] at e
      obtain ⟨u2, -, -, e2⟩ := h5 q (by omega)
      rw [← e]
      exact ⟨(h2 q (by omega)).2, u2 / 1440 / 10, u2 / 1440 % 10, u2 % 1440, Nat.mod_lt _ (by decide), e2⟩
theorem fs_I.new {n U : Nat} {f : Nat → Nat} (h : fs_I G n f U) (hU : U < 144000) (hus : us_u9 G U) (h22 : G 22 0 ≤ 16) (h0 : nd G U ≠ 0) (hn : ∀ i, i < n → f i ≠ nd G U) (h32 : n < 32) : fs_I G (n + 1) (fun i => if i = n then nd G U else f i) (U + 1) := by
  obtain ⟨h1, h2, h3, h4, h5⟩ := h
  refine ⟨by omega, fun i hi => ?_, fun a b ha hb e => ?_, fun u hu hus h0 => ?_, fun i hi => ?_⟩
  · dsimp only
    by_cases e : i = n
    · rw [if_pos e]
      exact ⟨nd_lt h22 U, h0⟩
    · rw [if_neg e]
      exact h2 i (by omega)
  · by_cases ea : a = n <;> by_cases eb : b = n
    · omega
    · simp only [ea, eb, if_true, if_false] at e
      exact absurd e.symm (hn b (by omega))
    · simp only [ea, eb, if_true, if_false] at e
      exact absurd e (hn a (by omega))
    · simp only [ea, eb, if_false] at e
      exact h3 a b (by omega) (by omega) e
  · by_cases e : u = U
    · subst e
      exact ⟨n, by omega, if_pos rfl⟩
    · obtain ⟨i, hi, e2⟩ := h4 u (by omega) hus h0
      exact ⟨i, by omega, by dsimp only; rw [if_neg (by omega)]; exact e2⟩
  · by_cases e : i = n
    · exact ⟨U, hU, hus, by dsimp only; rw [if_pos e]⟩
    · obtain ⟨u, q1, q2, q3⟩ := h5 i (by omega)
      exact ⟨u, q1, q2, by dsimp only; rw [if_neg e]; exact q3⟩
def w_n (w : cc_W) (f : Nat → Nat) (n : Nat) : cc_W := (w.1, w.2.1, w.2.2.1, w.2.2.2.1, w.2.2.2.2.1, (fun i => nI (f i)), nI n, w.2.2.2.2.2.2.2)
theorem nI_surj (x : Int32) : x = nI x.toUInt32.toNat := by
  rw [← Int32.toBitVec_inj]
  show x.toBitVec = BitVec.ofNat 32 x.toBitVec.toNat
  simp
theorem cc_needs (Z : cr_Z0 s0 D ca e0) (hr : cc_r G) (h : cc_H s0 D ca e0 O H A G w) {n : Nat} {f : Nat → Nat} (c4 : va_at D kc (A 12 4, .inr (5, [.ref (A 12 5), .int (nI n)])) H1) (c5 : va_at D kc (A 12 5, .inl (ca 0, 32, .inl (fun i => nI (f i)))) H1) (hfr : ∀ q : Nat, q ≠ A 12 4 → q ≠ A 12 5 → H1[q]? = H[q]?) : cc_H s0 D ca e0 O H1 A G (w_n w f n) := by
  refine h.sets Z hr (P := fun k i => k = 12 ∧ (i = 4 ∨ i = 5)) ?_ (fun q hq => hfr q (hq 12 4 ⟨rfl, Or.inl rfl⟩) (hq 12 5 ⟨rfl, Or.inr rfl⟩)) ?_ (fun _ _ => rfl) (fun _ => rfl) (fun k i ql qo hn => ?_)
  · rintro k i ⟨rfl, rfl | rfl⟩
    · exact ⟨show 4 < 6 by decide, rfl⟩
    · exact ⟨show 5 < 6 by decide, rfl⟩
  · rintro k i ⟨rfl, rfl | rfl⟩
    · exact c4
    · exact c5
  · by_cases e : k = 12
    · subst e
      have hi : i < 6 := ql
      rcases (show i = 0 ∨ i = 1 ∨ i = 2 ∨ i = 3 ∨ i = 4 ∨ i = 5 by omega) with rfl | rfl | rfl | rfl | rfl | rfl
      · rfl
      · rfl
      · rfl
      · rfl
      · exact absurd ⟨rfl, Or.inl rfl⟩ hn
      · exact absurd ⟨rfl, Or.inr rfl⟩ hn
    · unfold cc_same w_n
      split <;> first | exact absurd rfl e | simp

set_option maxRecDepth 20000 in
theorem j_C_fewest (hl : l.flags = flags0) (Z : cr_Z0 s0 D ca e0) (h : cc_H s0 D ca e0 O H A G w) (hr : cc_r G) (hU : cc_U G w) (h22 : G 22 0 ≤ 16) (hR : ∀ i, i < G 22 0 → G 23 i < 10 ∧ G 24 i < 10 ∧ G 25 i < 1440 ∧ G 26 i < 1440 ∧ G 27 i ≤ 1000000) : cr_c l s0 y_C_fewest cw_C_fewest 20 0 0 [.ref (A 14 0)] H (fun o H' => ∃ n f, o = .inl (some (.int (ow (fw_lo (lf f 0 n) 0 17)))) ∧ fs_I G n f 144000 ∧ cc_H s0 D ca e0 O H' A G (w_n w f n) ∧ cr_Fr O H H') := by
  refine cr_enter (by decide +kernel) (Nat.le_of_ble_eq_true rfl) (fun hlo P9 E9 S9 M9 A9 B9 T9 C9 C hem hH => ?_)
  have loop : ∀ (j wd n : Nat) (f : Nat → Nat) (H1 : Heap), wd + j = 2250 → fs_I G n f (wd * 64) → cc_H s0 D ca e0 O H1 A G (w_n w f n) → cr_Fr O H H1 → cr_G P9 l E9 (cr_rm 20 0 0) S9 M9 A9 B9 T9 C9 s0.heap.size 0 0 (fun o H' => ∃ n f, o = .inl (some (.int (ow (fw_lo (lf f 0 n) 0 17)))) ∧ fs_I G n f 144000 ∧ cc_H s0 D ca e0 O H' A G (w_n w f n) ∧ cr_Fr O H H') 9 [some (.ref (A 14 0)), some (.int (nI wd)), none, none, none] [] H1 0 0 := by
    intro j
    induction j with
    | zero =>
      intro wd n f H1 hj I h1 fr1
      refine cr_vc [9, 34] 90 (s_C_fewest hl Z C hem) (fun K hK => ?_)
      conv => whnf
      refine ⟨_, (h1.c 14 0 rfl), ?_⟩
      conv => whnf
      refine ⟨_, (h1.c 12 2 (show 2 < 6 by decide)), ?_⟩
      conv => whnf
      refine ⟨_, (h1.c 12 3 (show 3 < 6 by decide)), ?_⟩
      conv => whnf
      refine ⟨fun b18 => ?_, fun b18 => absurd (show nI 2250 ≤ nI wd from nI_le (by omega) (by omega)) b18⟩
      conv => whnf
      refine ⟨_, (h1.c 14 0 rfl), ?_⟩
      conv => whnf
      refine ⟨rfl, ?_⟩
      conv => whnf
      refine ⟨_, (h1.c 12 4 (show 4 < 6 by decide)), _, _, _, _, j_Ne_leastOfTheFewest hl Z (h1.c 12 4 (show 4 < 6 by decide)) (h1.c 12 5 (show 5 < 6 by decide)) (fun i hi => (I.2.1 i hi).1) I.1, by decide, cr_le rfl, cr_le rfl, cr_le rfl, fun v93 H93 q93 _ => ?_, fun kd H9 q9 _ => by cases q9.1⟩
      obtain ⟨q93a, q93b⟩ := q93
      cases q93a
      replace q93b := q93b.symm
      subst q93b
      conv => whnf
      exact ⟨cr_le rfl, cr_le rfl, n, f, rfl, (by rw [show wd = 2250 by omega] at I; exact I), h1, fr1⟩
    | succ j ih =>
      intro wd n f H1 hj I h1 fr1
      have inner : ∀ (j2 b n : Nat) (f : Nat → Nat) (H1 : Heap), b + j2 = 64 → fs_I G n f (wd * 64 + b) → cc_H s0 D ca e0 O H1 A G (w_n w f n) → cr_Fr O H H1 → cr_G P9 l E9 (cr_rm 20 0 0) S9 M9 A9 B9 T9 C9 s0.heap.size 0 0 (fun o H' => ∃ n f, o = .inl (some (.int (ow (fw_lo (lf f 0 n) 0 17)))) ∧ fs_I G n f 144000 ∧ cc_H s0 D ca e0 O H' A G (w_n w f n) ∧ cr_Fr O H H') 34 [some (.ref (A 14 0)), some (.int (nI wd)), some (.long (lw_sh (w.2.2.2.2.1 wd) b)), none, some (.int (nI b))] [] H1 0 0 := by
        intro j2
        induction j2 with
        | zero =>
          intro b n f H1 hj2 I h1 fr1
          refine cr_vc [9, 34] 90 (s_C_fewest hl Z C hem) (fun K hK => ?_)
          conv => whnf
          refine ⟨fun b38 => ?_, fun b38 => absurd (show nI 64 ≤ nI b from nI_le (by omega) (by omega)) b38⟩
          conv => whnf
          refine ⟨cr_le rfl, ?_⟩
          conv => whnf
          exact hK _ _ _ _ _ _ (cr_G_fg (ih (wd + 1) n f H1 (by omega) (by rw [show (wd + 1) * 64 = wd * 64 + b by omega]; exact I) h1 fr1) ⟨rfl, (show Value.int (nI (wd + 1)) = Value.int (nI wd + 1) by rw [nI_1]), trivial⟩)
        | succ j2 ihb =>
          intro b n f H1 hj2 I h1 fr1
          have hb64 : b < 64 := by omega
          have E : w.2.2.2.2.1 wd &&& (1 <<< ((nI b).toInt64 &&& 63)) = 0 ↔ mm_ex (mm_eu G (wd * 64 + b)) 0 (G 32 0) = false := by
            have := hU (wd * 64 + b) (by omega)
            rw [show (wd * 64 + b) / 64 = wd by omega, show (wd * 64 + b) % 64 = b by omega] at this
            exact this
          refine cr_vc [9, 34] 90 (s_C_fewest hl Z C hem) (fun K hK => ?_)
          conv => whnf
          refine ⟨fun b38 => absurd b38 (show ¬ nI 64 ≤ nI b from cr_nle (by omega) (by decide)), fun b38 => ?_⟩
          conv => whnf
          refine ⟨fun b44 => ?_, fun b44 => ?_⟩
          · conv => whnf
            refine ⟨cr_le rfl, ?_⟩
            conv => whnf
            exact hK _ _ _ _ _ _ (cr_G_fg (ih (wd + 1) n f H1 (by omega) (I.skip (fun u hu1 hu2 hus => by
              have e1 : u / 64 = wd := by omega
              have q := (hU u (by omega)).mp (by rw [e1]; exact lw_none (us_cmp b44) (show b ≤ u % 64 by omega) (by omega))
              unfold us_u9 at hus
              rw [q] at hus
              cases hus)) h1 fr1) ⟨rfl, (show Value.int (nI (wd + 1)) = Value.int (nI wd + 1) by rw [nI_1]), trivial⟩)
          · conv => whnf
            refine ⟨fun b52 => ?_, fun b52 => ?_⟩
            · conv => whnf
              refine ⟨cr_le rfl, ?_⟩
              rw [lw_sh_s]
              conv => whnf
              refine ⟨cr_le rfl, ?_⟩
              conv => whnf
              exact hK _ _ _ _ _ _ (cr_G_fg (ihb (b + 1) n f H1 (by omega) (I.skip (fun u hu1 hu2 hus => by
                have e1 : u = wd * 64 + b := by omega
                have q := E.mp ((lw_one hb64).mp (us_cmp b52))
                unfold us_u9 at hus
                rw [e1, q] at hus
                cases hus)) h1 fr1) ⟨rfl, rfl, rfl, (show Value.int (nI (b + 1)) = Value.int (nI b + 1) by rw [nI_1]), trivial⟩)
            · conv => whnf
              refine ⟨_, (h1.c 14 0 rfl), ?_⟩
              conv => whnf
              refine ⟨rfl, ?_⟩
              conv => whnf
              refine ⟨_, (h1.c 14 0 rfl), _, _, _, _, j_C_rightsThatHave (u := wd * 64 + b) hl Z h1 h22 (fun i hi => by have := hR i hi; omega) (by rw [show (64 : Int32) = nI 64 from rfl, pk_mul, nI_add]) (by omega), by decide, cr_le rfl, cr_le rfl, cr_le rfl, fun v67 H67 q67 _ => ?_, fun kd H9 q9 _ => by cases q9.1⟩
              obtain ⟨q67a, q67b⟩ := q67
              cases q67a
              replace q67b := q67b.symm
              subst q67b
              have hus : us_u9 G (wd * 64 + b) := by
                unfold us_u9
                cases q : mm_ex (mm_eu G (wd * 64 + b)) 0 (G 32 0) with
                | true => rfl
                | false => exact absurd (by rw [(lw_one hb64).mpr (E.mpr q)]; exact us_cmp0) b52
              have n45 : A 12 4 ≠ A 12 5 := fun e => absurd (h1.2.2.2.2.1 12 4 12 5 (Or.inl (show 4 < 6 by decide)) (Or.inl (show 5 < 6 by decide)) e).2 (by decide)
              conv => whnf
              refine ⟨rfl, ?_⟩
              conv => whnf
              refine ⟨_, (h1.c 12 4 (show 4 < 6 by decide)), _, _, _, _, j_Ne_add hl Z (h1.lo 12 4 (show 4 < 6 by decide)).1 (h1.lo 12 5 (show 5 < 6 by decide)).1 n45 (h1.c 12 4 (show 4 < 6 by decide)) (h1.c 12 5 (show 5 < 6 by decide)) (fun i hi => (I.2.1 i hi).1) I.1 (nd_lt h22 _) (fun q1 q2 => Classical.byContradiction (fun q3 => q1 (I.cap h22 (fun i hi => (hR i hi).2.2.1) (fun i hi => (hR i hi).2.2.2.1) q2 (fun i hi e => q3 ⟨i, hi, e⟩)))), by decide, cr_le rfl, cr_le rfl, cr_le rfl, fun v70 H70 q70 _ => ?_, fun kd H9 q9 _ => by cases q9.1⟩
              have q70b : ∃ n' f', fs_I G n' f' (wd * 64 + b + 1) ∧ cc_H s0 D ca e0 O H70 A G (w_n w f' n') ∧ cr_Fr O H H70 := by
                obtain ⟨-, ⟨rfl, q⟩ | ⟨q1, q2, q3, q4, q5, q6, q7⟩⟩ := q70
                · exact ⟨n, f, I.old q, h1, fr1⟩
                · refine ⟨n + 1, _, I.new (by omega) hus h22 q1 q2 q3, cc_needs Z hr h1 q4 q5 q7, fr1.trans (S1 := O) ⟨Nat.le_of_eq q6.symm, fun q _ hq => q7 q (fun e => hq (by rw [e]; exact (h1.lo 12 4 (show 4 < 6 by decide)).2)) (fun e => hq (by rw [e]; exact (h1.lo 12 5 (show 5 < 6 by decide)).2))⟩ (fun _ _ q => q) (fun _ _ q => q)⟩
              obtain ⟨qa, -⟩ := q70
              cases qa
              obtain ⟨n', f', I', h2, fr2⟩ := q70b
              conv => whnf
              refine ⟨cr_le rfl, ?_⟩
              rw [lw_sh_s]
              conv => whnf
              refine ⟨cr_le rfl, ?_⟩
              conv => whnf
              exact hK _ _ _ _ _ _ (cr_G_fg (ihb (b + 1) n' f' H70 (by omega) I' h2 fr2) ⟨rfl, rfl, rfl, (show Value.int (nI (b + 1)) = Value.int (nI b + 1) by rw [nI_1]), trivial⟩)
      refine cr_vc [9, 34] 90 (s_C_fewest hl Z C hem) (fun K hK => ?_)
      conv => whnf
      refine ⟨_, (h1.c 14 0 rfl), ?_⟩
      conv => whnf
      refine ⟨_, (h1.c 12 2 (show 2 < 6 by decide)), ?_⟩
      conv => whnf
      refine ⟨_, (h1.c 12 3 (show 3 < 6 by decide)), ?_⟩
      conv => whnf
      refine ⟨fun b18 => absurd b18 (show ¬ nI 2250 ≤ nI wd from cr_nle (by omega) (by decide)), fun b18 => ?_⟩
      conv => whnf
      refine ⟨_, (h1.c 14 0 rfl), ?_⟩
      conv => whnf
      refine ⟨_, (h1.c 12 2 (show 2 < 6 by decide)), ?_⟩
      conv => whnf
      refine ⟨_, _, _, (h1.c 12 3 (show 3 < 6 by decide)), rfl, show wd < 2250 by omega, cr_le rfl, ?_⟩
      conv => whnf
      refine ⟨cr_le rfl, ?_⟩
      conv => whnf
      refine ⟨cr_le rfl, ?_⟩
      conv => whnf
      exact hK _ _ _ _ _ _ (cr_G_fg (inner 64 0 n f H1 (by omega) (by rw [Nat.add_zero]; exact I) h1 fr1) ⟨rfl, rfl, congrArg Value.long (lw_sh_0 _), rfl, trivial⟩)
  refine cr_vc [9, 34] 120 (s_C_fewest hl Z C hem) (fun K hK => ?_)
  conv => whnf
  refine ⟨_, (h.c 14 0 rfl), ?_⟩
  conv => whnf
  refine ⟨rfl, ?_⟩
  conv => whnf
  refine ⟨_, (h.c 12 4 (show 4 < 6 by decide)), _, _, _, _, j_Ne_clear hl Z (h.lo 12 4 (show 4 < 6 by decide)).1 (h.c 12 4 (show 4 < 6 by decide)), by decide, cr_le rfl, cr_le rfl, cr_le rfl, fun v4 H4 q4 _ => ?_, fun kd H9 q9 _ => by cases q9.1⟩
  obtain ⟨qa, u4⟩ := q4
  cases qa
  have h1 : cc_H s0 D ca e0 O H4 A G (w_n w (fun i => (w.2.2.2.2.2.1 i).toUInt32.toNat) 0) := cc_needs Z hr h u4.2.1 (by
    have q9 := cr_at_eq (h.c 12 5 (show 5 < 6 by decide)) (u4.2.2 _ (fun e => absurd (h.2.2.2.2.1 12 5 12 4 (Or.inl (show 5 < 6 by decide)) (Or.inl (show 4 < 6 by decide)) e).2 (by decide)))
    have e9 : w.2.2.2.2.2.1 = fun i => nI ((w.2.2.2.2.2.1 i).toUInt32.toNat) := by
      funext i
      exact nI_surj _
    have q8 : va_at D kc (A 12 5, .inl (ca 0, 32, .inl w.2.2.2.2.2.1)) H4 := q9
    rw [e9] at q8
    exact q8) (fun q q1 _ => u4.2.2 q q1)
  conv => whnf
  refine ⟨cr_le rfl, ?_⟩
  conv => whnf
  exact hK _ _ _ _ _ _ (cr_G_fg (loop 2250 0 0 _ H4 (by omega) ⟨by omega, fun i hi => absurd hi (Nat.not_lt_zero _), fun i j hi => absurd hi (Nat.not_lt_zero _), fun u hu => absurd hu (by omega), fun i hi => absurd hi (Nat.not_lt_zero _)⟩ h1 (cc_Fr h (k := 12) (i := 4) (show 4 < 6 by decide) u4)) ⟨rfl, rfl, trivial⟩)
end CFX
