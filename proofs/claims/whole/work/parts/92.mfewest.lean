/-! THE REFERENCE: count, meets, fewest (printed by gen/comp29.py) -/
section MFW
variable {l : Launch} {s0 : State} {D : va_G} {ca : Nat → ClassId} {e0 : Nat} {H : Heap} {y : Nat} {ad : Nat → Nat} {G G1 : mm_G}
theorem fw_pc_max (x : Nat) : ∀ n, fw_pc x n ≤ n
  | 0 => Nat.le_refl _
  | n + 1 => by
    have := fw_pc_max x n
    unfold fw_pc
    split <;> omega
def fr_met (G : mm_G) (m : Nat) : Prop := ∀ q, q < G 32 0 → nd G (G 33 q) ≠ 0 → nd G (G 33 q) &&& m ≠ 0
def fr_is (G : mm_G) (b : Nat) : Prop := b < 2 ^ G 22 0 ∧ fr_met G b ∧ ∀ m, m < 2 ^ G 22 0 → fr_met G m → fw_pc b 16 < fw_pc m 16 ∨ (fw_pc b 16 = fw_pc m 16 ∧ b ≤ m)
def fr_E (G G1 : mm_G) : Prop := (∀ k i, k ≠ 0 → k ≠ 39 → k ≠ 40 → G1 k i = G k i) ∧ G1 0 0 = 0
def fr_I (G G1 : mm_G) (n k : Nat) : Prop := n ≤ k ∧ (∀ i, i < n → G1 40 i ≠ 0 ∧ G1 40 i < 2 ^ G 22 0) ∧ (∀ s, s < 65536 → (G1 39 s = 0 ∧ ∀ i, i < n → G1 40 i ≠ s) ∨ (G1 39 s = 1 ∧ ∃ i, i < n ∧ G1 40 i = s)) ∧ (∀ q, q < k → nd G (G 33 q) ≠ 0 → ∃ i, i < n ∧ G1 40 i = nd G (G 33 q)) ∧ ∀ i, i < n → ∃ q, q < G 32 0 ∧ G1 40 i = nd G (G 33 q)
theorem fr_E.st {k i v : Nat} (h : fr_E G G1) (hk : k = 39 ∨ k = 40) : fr_E G (mm_up G1 k i v) := ⟨fun a b h0 h1 h2 => (mm_up_k _ _ _ _ (by omega)).trans (h.1 a b h0 h1 h2), (mm_up_k _ _ _ _ (by omega)).trans h.2⟩
theorem fr_I.old {n k : Nat} (h : fr_I G G1 n k) (hs : nd G (G 33 k) = 0 ∨ ∃ i, i < n ∧ G1 40 i = nd G (G 33 k)) : fr_I G G1 n (k + 1) := by
  obtain ⟨h1, h2, h3, h4, h5⟩ := h
  refine ⟨by omega, h2, h3, fun q hq h0 => ?_, h5⟩
  by_cases e : q = k
  · subst e
    rcases hs with z | z
    · exact absurd z h0
    · exact z
  · exact h4 q (by omega) h0
theorem fr_I.new {n k : Nat} (h : fr_I G G1 n k) (hk : k < G 32 0) (h22 : G 22 0 ≤ 16) (h0 : nd G (G 33 k) ≠ 0) (hu : G1 39 (nd G (G 33 k)) = 0) : fr_I G (mm_up (mm_up G1 39 (nd G (G 33 k)) 1) 40 n (nd G (G 33 k))) (n + 1) (k + 1) := by
  obtain ⟨h1, h2, h3, h4, h5⟩ := h
  have lt := fw_set_lt (G 23) (G 24) (G 25) (G 26) (G 33 k / 1440 / 10) (G 33 k / 1440 % 10) (G 33 k % 1440) (G 22 0)
  have e40 : ∀ i, mm_up (mm_up G1 39 (nd G (G 33 k)) 1) 40 n (nd G (G 33 k)) 40 i = if i = n then nd G (G 33 k) else G1 40 i := fun i => by rw [mm_up_at, mm_up_k _ _ _ _ (by decide)]
  have e39 : ∀ s, mm_up (mm_up G1 39 (nd G (G 33 k)) 1) 40 n (nd G (G 33 k)) 39 s = if s = nd G (G 33 k) then 1 else G1 39 s := fun s => by rw [mm_up_k _ _ _ _ (by decide), mm_up_at]
  refine ⟨by omega, fun i hi => ?_, fun s hs => ?_, fun q hq h9 => ?_, fun i hi => ?_⟩
  · rw [e40]
    by_cases e : i = n
    · rw [if_pos e]
      exact ⟨h0, lt⟩
    · rw [if_neg e]
      exact h2 i (by omega)
  · rw [e39]
    by_cases e : s = nd G (G 33 k)
    · rw [if_pos e]
      exact Or.inr ⟨rfl, n, by omega, by rw [e40, if_pos rfl, e]⟩
    · rw [if_neg e]
      rcases h3 s hs with ⟨q1, q2⟩ | ⟨q1, i, q2, q3⟩
      · refine Or.inl ⟨q1, fun i hi => ?_⟩
        rw [e40]
        by_cases e2 : i = n
        · rw [if_pos e2]
          exact fun q => e q.symm
        · rw [if_neg e2]
          exact q2 i (by omega)
      · exact Or.inr ⟨q1, i, by omega, by rw [e40, if_neg (by omega)]; exact q3⟩
  · by_cases e : q = k
    · subst e
      exact ⟨n, by omega, by rw [e40, if_pos rfl]⟩
    · obtain ⟨i, hi, e2⟩ := h4 q (by omega) h9
      exact ⟨i, by omega, by rw [e40, if_neg (by omega)]; exact e2⟩
  · by_cases e : i = n
    · exact ⟨k, hk, by rw [e40, if_pos e]⟩
    · obtain ⟨q, q1, q2⟩ := h5 i (by omega)
      exact ⟨q, q1, by rw [e40, if_neg e]; exact q2⟩
theorem fr_I.met {n k : Nat} (h : fr_I G G1 n k) (hk : k = G 32 0) (m : Nat) : (∀ i, i < n → G1 40 i &&& m ≠ 0) ↔ fr_met G m := by
  obtain ⟨h1, h2, h3, h4, h5⟩ := h
  constructor
  · intro hm q hq h0
    obtain ⟨i, hi, e⟩ := h4 q (by omega) h0
    rw [← e]
    exact hm i hi
  · intro hm i hi
    obtain ⟨q, q1, q2⟩ := h5 i hi
    rw [q2]
    exact hm q q1 (by rw [← q2]; exact (h2 i hi).1)

set_option maxRecDepth 20000 in
theorem j_M_count (hl : l.flags = flags0) (Z : cr_Z0 s0 D ca e0) {m : Nat} (hm : m < 65536) : cr_c l s0 y_M_count cw_M_count 1 0 0 [.int (nI m)] H (cr_pu (some (.int (nI (fw_pc m 16)))) H) := by
  refine cr_enter (by decide +kernel) (Nat.le_of_ble_eq_true rfl) (fun hlo P9 E9 S9 M9 A9 B9 T9 C9 C hem hH => ?_)
  have loop : ∀ (j i : Nat), i + j = 16 → cr_G P9 l E9 (cr_rm 1 0 0) S9 M9 A9 B9 T9 C9 s0.heap.size 0 0 (cr_pu (some (.int (nI (fw_pc m 16)))) H) 4 [some (.int (nI m)), some (.int (nI (fw_pc m i))), some (.int (nI i))] [] H 0 0 := by
    intro j
    induction j with
    | zero =>
      intro i hj
      refine cr_vc [4] 60 (s_M_count hl Z C hem) (fun K hK => ?_)
      conv => whnf
      refine ⟨fun b7 => ?_, fun b7 => absurd (show nI 16 ≤ nI i from nI_le (by omega) (by omega)) b7⟩
      conv => whnf
      exact ⟨cr_le rfl, cr_le rfl, (by rw [show i = 16 by omega]), rfl⟩
    | succ j ih =>
      intro i hj
      refine cr_vc [4] 60 (s_M_count hl Z C hem) (fun K hK => ?_)
      conv => whnf
      refine ⟨fun b7 => absurd b7 (show ¬ nI 16 ≤ nI i from cr_nle (by omega) (by decide)), fun b7 => ?_⟩
      conv => whnf
      refine ⟨cr_le rfl, ?_⟩
      rw [nb_shr hm (by omega), nI_add]
      conv => whnf
      refine ⟨cr_le rfl, ?_⟩
      conv => whnf
      exact hK _ _ _ _ _ _ (cr_G_fg (ih (i + 1) (by omega)) ⟨rfl, rfl, (show Value.int (nI (i + 1)) = Value.int (nI i + 1) by rw [nI_1]), trivial⟩)
  refine cr_vc [4] 120 (s_M_count hl Z C hem) (fun K hK => ?_)
  conv => whnf
  refine ⟨cr_le rfl, ?_⟩
  conv => whnf
  refine ⟨cr_le rfl, ?_⟩
  conv => whnf
  exact hK _ _ _ _ _ _ (loop 16 0 (by omega))
set_option maxRecDepth 20000 in
theorem j_M_meets (hl : l.flags = flags0) (Z : cr_Z0 s0 D ca e0) {sa n m N : Nat} {f : Nat → Nat} (h2 : va_at D kc (sa, .inl (ca 0, 9000, .inl (fun i => nI (f i)))) H) (hn : n ≤ 9000) (hf : ∀ i, i < n → f i < 65536) : cr_c l s0 y_M_meets cw_M_meets 1 0 0 [.ref y, .int (nI m), .ref sa, .int (nI n)] H (cr_pu (some (.int (cr_b (decide (∀ i, i < n → f i &&& m ≠ 0))))) H) := by
  refine cr_enter (by decide +kernel) (Nat.le_of_ble_eq_true rfl) (fun hlo P9 E9 S9 M9 A9 B9 T9 C9 C hem hH => ?_)
  have stop : ∀ (i : Nat), i ≤ n → ¬ (∀ i, i < n → f i &&& m ≠ 0) → cr_G P9 l E9 (cr_rm 1 0 0) S9 M9 A9 B9 T9 C9 s0.heap.size 0 0 (cr_pu (some (.int (cr_b (decide (∀ i, i < n → f i &&& m ≠ 0))))) H) 6 [some (.ref y), some (.int (nI m)), some (.ref sa), some (.int (nI n)), some (.int 0), some (.int (nI i))] [] H 0 0 := by
    intro i hi hno
    refine cr_vc [6] 60 (s_M_meets hl Z C hem) (fun K hK => ?_)
    conv => whnf
    refine ⟨fun b9 => ?_, fun b9 => ?_⟩
    · conv => whnf
      exact ⟨rfl, cr_le rfl, cr_le rfl, (by rw [decide_eq_false hno]; rfl), rfl⟩
    · conv => whnf
      refine ⟨fun b14 => ?_, fun b14 => absurd rfl b14⟩
      conv => whnf
      exact ⟨rfl, cr_le rfl, cr_le rfl, (by rw [decide_eq_false hno]; rfl), rfl⟩
  have loop : ∀ (j i : Nat), i + j = n → (∀ i9, i9 < i → f i9 &&& m ≠ 0) → cr_G P9 l E9 (cr_rm 1 0 0) S9 M9 A9 B9 T9 C9 s0.heap.size 0 0 (cr_pu (some (.int (cr_b (decide (∀ i, i < n → f i &&& m ≠ 0))))) H) 6 [some (.ref y), some (.int (nI m)), some (.ref sa), some (.int (nI n)), some (.int 1), some (.int (nI i))] [] H 0 0 := by
    intro j
    induction j with
    | zero =>
      intro i hj hyes
      refine cr_vc [6] 60 (s_M_meets hl Z C hem) (fun K hK => ?_)
      conv => whnf
      refine ⟨fun b9 => ?_, fun b9 => absurd (by rw [show i = n by omega]; exact Int32.le_refl _) b9⟩
      conv => whnf
      exact ⟨rfl, cr_le rfl, cr_le rfl, (by rw [decide_eq_true (show ∀ i, i < n → f i &&& m ≠ 0 from fun i9 hi9 => hyes i9 (by omega))]; rfl), rfl⟩
    | succ j ih =>
      intro i hj hyes
      have Em : nI m &&& nI (f i) = 0 ↔ f i &&& m = 0 := by
        have := hf i (by omega)
        rw [nb_and, nb_eq0 (Nat.lt_of_le_of_lt Nat.and_le_right (by omega)), Nat.and_comm]
      refine cr_vc [6] 60 (s_M_meets hl Z C hem) (fun K hK => ?_)
      conv => whnf
      refine ⟨fun b9 => absurd b9 (cr_nle (by omega) (by omega)), fun b9 => ?_⟩
      conv => whnf
      refine ⟨fun b14 => absurd b14 (by decide), fun b14 => ?_⟩
      conv => whnf
      refine ⟨_, _, _, h2, rfl, by omega, cr_le rfl, ?_⟩
      conv => whnf
      refine ⟨fun b23 => ?_, fun b23 => ?_⟩
      · conv => whnf
        refine ⟨cr_le rfl, ?_⟩
        conv => whnf
        refine ⟨cr_le rfl, ?_⟩
        conv => whnf
        exact hK _ _ _ _ _ _ (cr_G_fg (stop (i + 1) (by omega) (fun q => q i (by omega) (Em.mp b23))) ⟨rfl, rfl, rfl, rfl, rfl, (show Value.int (nI (i + 1)) = Value.int (nI i + 1) by rw [nI_1]), trivial⟩)
      · conv => whnf
        refine ⟨cr_le rfl, ?_⟩
        conv => whnf
        refine ⟨cr_le rfl, ?_⟩
        conv => whnf
        exact hK _ _ _ _ _ _ (cr_G_fg (ih (i + 1) (by omega) (fun i9 hi9 => by
          by_cases e9 : i9 = i
          · rw [e9]
            exact fun q => b23 (Em.mpr q)
          · exact hyes i9 (by omega))) ⟨rfl, rfl, rfl, rfl, rfl, (show Value.int (nI (i + 1)) = Value.int (nI i + 1) by rw [nI_1]), trivial⟩)
  refine cr_vc [6] 120 (s_M_meets hl Z C hem) (fun K hK => ?_)
  conv => whnf
  refine ⟨cr_le rfl, ?_⟩
  conv => whnf
  refine ⟨cr_le rfl, ?_⟩
  conv => whnf
  exact hK _ _ _ _ _ _ (loop n 0 (by omega) (fun i9 hi9 => absurd hi9 (Nat.not_lt_zero _)))
set_option maxRecDepth 20000 in
theorem j_M_fewest (hl : l.flags = flags0) (Z : cr_Z0 s0 D ca e0) (h : mm_R s0 D ca H y ad G) (h22 : G 22 0 ≤ 16) (h32 : G 32 0 ≤ 9000) (h33 : ∀ q, q < G 32 0 → G 33 q < 144000) (hR : ∀ i, i < G 22 0 → G 23 i < 10 ∧ G 24 i < 10 ∧ G 25 i < 1440 ∧ G 26 i < 1440 ∧ G 27 i ≤ 1000000) : cr_c l s0 y_M_fewest cw_M_fewest 2 0 0 [.ref y] H (fun o H' => ∃ b G', o = .inl (some (.int (nI b))) ∧ fr_is G b ∧ mm_R s0 D ca H' y ad G' ∧ fr_E G G' ∧ mm_Fr y ad H H') := by
  refine cr_enter (by decide +kernel) (Nat.le_of_ble_eq_true rfl) (fun hlo P9 E9 S9 M9 A9 B9 T9 C9 C hem hH => ?_)
  have e22a : 2 ^ G 22 0 ≤ 65536 := Nat.pow_le_pow_right (n := 2) (by decide) h22
  have loop3 : ∀ (n : Nat) (G1 : mm_G) (H1 : Heap), mm_R s0 D ca H1 y ad G1 → mm_Fr y ad H H1 → fr_E G G1 → n ≤ 9000 → (∀ i, i < n → G1 40 i < 65536) → (∀ m, (∀ i, i < n → G1 40 i &&& m ≠ 0) ↔ fr_met G m) → ∀ (j mk : Nat) (best : Int32) (bc : Nat), mk + j = 2 ^ G 22 0 → bc ≤ 17 → ((best = -1 ∧ bc = 17 ∧ ∀ m, m < mk → ¬ fr_met G m) ∨ (∃ b, best = nI b ∧ b < mk ∧ fr_met G b ∧ bc = fw_pc b 16 ∧ ∀ m, m < mk → fr_met G m → bc < fw_pc m 16 ∨ (bc = fw_pc m 16 ∧ b ≤ m))) → cr_G P9 l E9 (cr_rm 2 0 0) S9 M9 A9 B9 T9 C9 s0.heap.size 0 0 (fun o H' => ∃ b G', o = .inl (some (.int (nI b))) ∧ fr_is G b ∧ mm_R s0 D ca H' y ad G' ∧ fr_E G G' ∧ mm_Fr y ad H H') 155 [some (.ref y), some (.int (nI n)), some (.int best), some (.int (nI bc)), some (.int (nI mk)), none] [] H1 0 0 := by
    intro n G1 H1 h1 fr1 E hn9 hf hme
    have e22 : G1 22 0 = G 22 0 := E.1 22 0 (by decide) (by decide) (by decide)
    intro j
    induction j with
    | zero =>
      intro mk best bc hj hb17 I3
      have hpp := Nat.two_pow_pos (G 22 0)
      refine cr_vc [7, 30, 43, 155] 90 (s_M_fewest hl Z C hem) (fun K hK => ?_)
      conv => whnf
      refine ⟨_, h1.o, ?_⟩
      conv => whnf
      refine ⟨fun b163 => ?_, fun b163 => absurd (by rw [e22, nb_shl (by omega), show mk = 2 ^ G 22 0 by omega]; exact Int32.le_refl _) b163⟩
      conv => whnf
      refine ⟨cr_le rfl, cr_le rfl, ?_⟩
      rcases I3 with ⟨-, -, q⟩ | ⟨b, q1, q2, q3, q4, q5⟩
      · exfalso
        refine q (2 ^ G 22 0 - 1) (by omega) (fun q0 hq0 h0 => ?_)
        have lt : nd G (G 33 q0) < 2 ^ G 22 0 := fw_set_lt (G 23) (G 24) (G 25) (G 26) (G 33 q0 / 1440 / 10) (G 33 q0 / 1440 % 10) (G 33 q0 % 1440) (G 22 0)
        rw [Nat.and_two_pow_sub_one_of_lt_two_pow lt]
        exact h0
      · exact ⟨b, G1, by rw [q1], ⟨by omega, q3, fun m hm hmet => by rw [← q4]; exact q5 m (by omega) hmet⟩, h1, E, fr1⟩
    | succ j ih =>
      intro mk best bc hj hb17 I3
      refine cr_vc [7, 30, 43, 155] 90 (s_M_fewest hl Z C hem) (fun K hK => ?_)
      conv => whnf
      refine ⟨_, h1.o, ?_⟩
      conv => whnf
      refine ⟨fun b163 => absurd b163 (by rw [e22, nb_shl (by omega)]; exact cr_nle (by omega) (by omega)), fun b163 => ?_⟩
      conv => whnf
      refine ⟨rfl, ?_⟩
      conv => whnf
      refine ⟨_, _, _, _, j_M_count hl Z (show mk < 65536 by omega), by decide, cr_le rfl, cr_le rfl, cr_le rfl, fun v168 H168 q168 _ => ?_, fun kd H9 q9 _ => by cases q9.1⟩
      obtain ⟨q168a, q168b⟩ := q168
      cases q168a
      replace q168b := q168b.symm
      subst q168b
      conv => whnf
      refine ⟨cr_le rfl, ?_⟩
      conv => whnf
      refine ⟨fun b176 => ?_, fun b176 => ?_⟩
      · conv => whnf
        refine ⟨cr_le rfl, ?_⟩
        conv => whnf
        have hge : bc ≤ fw_pc mk 16 := Nat.le_of_not_lt (fun q => absurd b176 (Int32.not_le.mpr (nI_lt q (by omega))))
        have hx9 : fr_met G mk → bc ≤ fw_pc mk 16 := fun _ => hge
        refine hK _ _ _ _ _ _ (cr_G_fg (ih (mk + 1) best bc (by omega) (by omega) ?_) ⟨rfl, rfl, rfl, rfl, (show Value.int (nI (mk + 1)) = Value.int (nI mk + 1) by rw [nI_1]), trivial⟩)
        rcases I3 with ⟨q1, q2, q3⟩ | ⟨b, q1, q2, q3, q4, q5⟩
        · refine Or.inl ⟨q1, q2, fun m hm hmet => ?_⟩
          by_cases e : m = mk
          · subst e
            have := hx9 hmet
            have := fw_pc_max m 16
            omega
          · exact q3 m (by omega) hmet
        · refine Or.inr ⟨b, q1, by omega, q3, q4, fun m hm hmet => ?_⟩
          by_cases e : m = mk
          · subst e
            have := hx9 hmet
            omega
          · exact q5 m (by omega) hmet
      · conv => whnf
        refine ⟨_, h1.o, ?_⟩
        conv => whnf
        refine ⟨rfl, ?_⟩
        conv => whnf
        refine ⟨_, h1.o, _, _, _, _, j_M_meets (N := 0) hl Z (h1.a 40 rfl) hn9 hf, by decide, cr_le rfl, cr_le rfl, cr_le rfl, fun v187 H187 q187 _ => ?_, fun kd H9 q9 _ => by cases q9.1⟩
        obtain ⟨q187a, q187b⟩ := q187
        cases q187a
        replace q187b := q187b.symm
        subst q187b
        conv => whnf
        refine ⟨fun b190 => ?_, fun b190 => ?_⟩
        · conv => whnf
          refine ⟨cr_le rfl, ?_⟩
          conv => whnf
          have hx9 : fr_met G mk → bc ≤ fw_pc mk 16 := fun q => by
            have q9 : decide (∀ i, i < n → G1 40 i &&& mk ≠ 0) = false := cr_bf b190
            rw [decide_eq_false_iff_not] at q9
            exact absurd ((hme mk).mpr q) q9
          refine hK _ _ _ _ _ _ (cr_G_fg (ih (mk + 1) best bc (by omega) (by omega) ?_) ⟨rfl, rfl, rfl, rfl, (show Value.int (nI (mk + 1)) = Value.int (nI mk + 1) by rw [nI_1]), trivial⟩)
          rcases I3 with ⟨q1, q2, q3⟩ | ⟨b, q1, q2, q3, q4, q5⟩
          · refine Or.inl ⟨q1, q2, fun m hm hmet => ?_⟩
            by_cases e : m = mk
            · subst e
              have := hx9 hmet
              have := fw_pc_max m 16
              omega
            · exact q3 m (by omega) hmet
          · refine Or.inr ⟨b, q1, by omega, q3, q4, fun m hm hmet => ?_⟩
            by_cases e : m = mk
            · subst e
              have := hx9 hmet
              omega
            · exact q5 m (by omega) hmet
        · conv => whnf
          refine ⟨cr_le rfl, ?_⟩
          conv => whnf
          refine ⟨cr_le rfl, ?_⟩
          conv => whnf
          refine ⟨cr_le rfl, ?_⟩
          conv => whnf
          have hlt : fw_pc mk 16 < bc := cr_ltof (by have := fw_pc_max mk 16; omega) b176
          have hmet : fr_met G mk := (hme mk).mp (by
            have q9 : decide (∀ i, i < n → G1 40 i &&& mk ≠ 0) = true := cr_bt b190
            exact of_decide_eq_true q9)
          refine hK _ _ _ _ _ _ (cr_G_fg (ih (mk + 1) (nI mk) (fw_pc mk 16) (by omega) (by have := fw_pc_max mk 16; omega) ?_) ⟨rfl, rfl, rfl, rfl, (show Value.int (nI (mk + 1)) = Value.int (nI mk + 1) by rw [nI_1]), trivial⟩)
          refine Or.inr ⟨mk, rfl, by omega, hmet, rfl, fun m hm hm2 => ?_⟩
          by_cases e : m = mk
          · subst e
            exact Or.inr ⟨rfl, Nat.le_refl _⟩
          · rcases I3 with ⟨q1, q2, q3⟩ | ⟨b, q1, q2, q3, q4, q5⟩
            · exact absurd hm2 (q3 m (by omega))
            · rcases q5 m (by omega) hm2 with z | z
              · exact Or.inl (by omega)
              · exact Or.inl (by omega)
  have loop2 : ∀ (j k n : Nat) (G1 : mm_G) (H1 : Heap), k + j = G 32 0 → mm_R s0 D ca H1 y ad G1 → mm_Fr y ad H H1 → fr_E G G1 → fr_I G G1 n k → cr_G P9 l E9 (cr_rm 2 0 0) S9 M9 A9 B9 T9 C9 s0.heap.size 0 0 (fun o H' => ∃ b G', o = .inl (some (.int (nI b))) ∧ fr_is G b ∧ mm_R s0 D ca H' y ad G' ∧ fr_E G G' ∧ mm_Fr y ad H H') 30 [some (.ref y), some (.int (nI n)), some (.int (nI k)), none, none, none] [] H1 0 0 := by
    intro j
    induction j with
    | zero =>
      intro k n G1 H1 hj h1 fr1 E I
      refine cr_vc [7, 30, 43, 155] 90 (s_M_fewest hl Z C hem) (fun K hK => ?_)
      conv => whnf
      refine ⟨_, h1.o, ?_⟩
      conv => whnf
      refine ⟨fun b35 => ?_, fun b35 => absurd (by rw [E.1 32 0 (by decide) (by decide) (by decide), show k = G 32 0 by omega]; exact Int32.le_refl _) b35⟩
      conv => whnf
      refine ⟨cr_le rfl, ?_⟩
      conv => whnf
      refine ⟨cr_le rfl, ?_⟩
      conv => whnf
      refine ⟨cr_le rfl, ?_⟩
      conv => whnf
      exact hK _ _ _ _ _ _ (cr_G_fg (loop3 n G1 H1 h1 fr1 E (by have := I.1; omega) (fun i hi => Nat.lt_of_lt_of_le (I.2.1 i hi).2 e22a) (I.met (by omega)) (2 ^ G 22 0) 0 (-1) 17 (by omega) (by omega) (Or.inl ⟨rfl, rfl, fun m hm => absurd hm (Nat.not_lt_zero _)⟩)) ⟨rfl, rfl, rfl, rfl, rfl, trivial⟩)
    | succ j ih =>
      intro k n G1 H1 hj h1 fr1 E I
      have hu := h33 k (by omega)
      have inner : ∀ (jr r : Nat), r + jr = G 22 0 → cr_G P9 l E9 (cr_rm 2 0 0) S9 M9 A9 B9 T9 C9 s0.heap.size 0 0 (fun o H' => ∃ b G', o = .inl (some (.int (nI b))) ∧ fr_is G b ∧ mm_R s0 D ca H' y ad G' ∧ fr_E G G' ∧ mm_Fr y ad H H') 43 [some (.ref y), some (.int (nI n)), some (.int (nI k)), some (.int (nI (fw_set (G 23) (G 24) (G 25) (G 26) (G 33 k / 1440 / 10) (G 33 k / 1440 % 10) (G 33 k % 1440) r))), some (.int (nI r)), none] [] H1 0 0 := by
        intro jr
        induction jr with
        | zero =>
          intro r hjr
          have hsr : fw_set (G 23) (G 24) (G 25) (G 26) (G 33 k / 1440 / 10) (G 33 k / 1440 % 10) (G 33 k % 1440) r = nd G (G 33 k) := by rw [show r = G 22 0 by omega]; rfl
          have ndl : nd G (G 33 k) < 65536 := nd_lt h22 _
          have hsl : fw_set (G 23) (G 24) (G 25) (G 26) (G 33 k / 1440 / 10) (G 33 k / 1440 % 10) (G 33 k % 1440) r < 65536 := by rw [hsr]; exact ndl
          refine cr_vc [7, 30, 43, 155] 90 (s_M_fewest hl Z C hem) (fun K hK => ?_)
          conv => whnf
          refine ⟨_, h1.o, ?_⟩
          conv => whnf
          refine ⟨fun b49 => ?_, fun b49 => absurd (by rw [E.1 22 0 (by decide) (by decide) (by decide), show r = G 22 0 by omega]; exact Int32.le_refl _) b49⟩
          conv => whnf
          refine ⟨fun b112 => ?_, fun b112 => ?_⟩
          · conv => whnf
            refine ⟨cr_le rfl, ?_⟩
            conv => whnf
            exact hK _ _ _ _ _ _ (cr_G_fg (ih (k + 1) n G1 H1 (by omega) h1 fr1 E (I.old (Or.inl (Classical.byContradiction (fun q => absurd (show nI 0 < nI (nd G (G 33 k)) from nI_lt (by omega) (by omega)) (Int32.not_lt.mpr (hsr ▸ b112))))))) ⟨rfl, rfl, (show Value.int (nI (k + 1)) = Value.int (nI k + 1) by rw [nI_1]), trivial⟩)
          · conv => whnf
            refine ⟨_, h1.o, ?_⟩
            conv => whnf
            refine ⟨_, _, _, (h1.a 39 rfl), rfl, hsl, cr_le rfl, ?_⟩
            conv => whnf
            refine ⟨fun b121 => ?_, fun b121 => ?_⟩
            · conv => whnf
              refine ⟨cr_le rfl, ?_⟩
              conv => whnf
              exact hK _ _ _ _ _ _ (cr_G_fg (ih (k + 1) n G1 H1 (by omega) h1 fr1 E (I.old (Or.inr (by
                rcases I.2.2.1 (nd G (G 33 k)) ndl with ⟨z, -⟩ | ⟨-, z⟩
                · exact absurd (show nI (G1 39 (nd G (G 33 k))) = 0 by rw [z]; rfl) (hsr ▸ b121)
                · exact z)))) ⟨rfl, rfl, (show Value.int (nI (k + 1)) = Value.int (nI k + 1) by rw [nI_1]), trivial⟩)
            · conv => whnf
              refine ⟨_, h1.o, ?_⟩
              conv => whnf
              refine ⟨_, _, _, (h1.a 39 rfl), (h1.lo 39 rfl), rfl, hsl, cr_le rfl, by decide, fun H130 u130 => ?_⟩
              have h2 : mm_R s0 D ca H130 y ad (mm_up G1 39 (nd G (G 33 k)) 1) := h1.sto (k := 39) (j := nd G (G 33 k)) (v := 1) rfl (by rw [← hsr]; exact u130)
              conv => whnf
              refine ⟨_, h2.o, ?_⟩
              conv => whnf
              refine ⟨_, _, _, (h2.a 40 rfl), (h2.lo 40 rfl), rfl, show n < 9000 by have := I.1; omega, cr_le rfl, fun H137 u137 => ?_⟩
              have h3 : mm_R s0 D ca H137 y ad (mm_up (mm_up G1 39 (nd G (G 33 k)) 1) 40 n (nd G (G 33 k))) := h2.sto (k := 40) (j := n) (v := nd G (G 33 k)) rfl (by rw [← hsr]; exact u137)
              conv => whnf
              refine ⟨cr_le rfl, ?_⟩
              conv => whnf
              refine ⟨cr_le rfl, ?_⟩
              conv => whnf
              have hz : G1 39 (nd G (G 33 k)) = 0 := by
                rcases I.2.2.1 (nd G (G 33 k)) ndl with ⟨z, -⟩ | ⟨z, -⟩
                · exact z
                · have b9 : nI (G1 39 (nd G (G 33 k))) = 0 := hsr ▸ b121
                  rw [z] at b9
                  exact absurd b9 (by decide)
              have h0 : nd G (G 33 k) ≠ 0 := fun q => by
                have b9 : ¬ nI (nd G (G 33 k)) ≤ 0 := hsr ▸ b112
                rw [q] at b9
                exact b9 (by decide)
              have I2 := I.new (by omega) h22 h0 hz
              exact hK _ _ _ _ _ _ (cr_G_fg (ih (k + 1) (n + 1) _ H137 (by omega) h3 ((fr1.tr (mm_Fr.arr (k := 39) rfl u130)).tr (mm_Fr.arr (k := 40) rfl u137)) ((E.st (Or.inl rfl)).st (Or.inr rfl)) I2) ⟨rfl, (show Value.int (nI (n + 1)) = Value.int (nI n + 1) by rw [nI_1]), (show Value.int (nI (k + 1)) = Value.int (nI k + 1) by rw [nI_1]), trivial⟩)
        | succ jr ihr =>
          intro r hjr
          have En : mm_sp G1 r (nI (G1 33 k) / 14400) (nI (G1 33 k) / 1440 - nI (G1 33 k) / 1440 / 10 * 10) (nI (G1 33 k) - nI (G1 33 k) / 1440 * 1440) = (decide (G 23 r = G 33 k / 1440 / 10 ∧ G 24 r = G 33 k / 1440 % 10) && fw_in (G 25 r) (G 26 r) (G 33 k % 1440)) := by
            obtain ⟨r1, r2, r3, r4, -⟩ := hR r (by omega)
            unfold mm_sp
            rw [ri_eq, E.1 33 k (by decide) (by decide) (by decide), E.1 23 r (by decide) (by decide) (by decide), E.1 24 r (by decide) (by decide) (by decide), E.1 25 r (by decide) (by decide) (by decide), E.1 26 r (by decide) (by decide) (by decide)]
            rw [show (14400 : Int32) = nI 14400 from rfl, show (1440 : Int32) = nI 1440 from rfl, show (10 : Int32) = nI 10 from rfl, pk_div (by omega) (by decide) (by decide), pk_div (by omega) (by decide) (by decide), pk_rem (by omega) (by decide) (by decide)]
            have er : nI (G 33 k) - nI (G 33 k / 1440) * nI 1440 = nI (G 33 k % 1440) := by
              have := pk_rem (a := G 33 k) (d := 1440) (by omega) (by decide) (by decide)
              rw [pk_div (by omega) (by decide) (by decide)] at this
              exact this
            rw [er, show G 33 k / 14400 = G 33 k / 1440 / 10 by omega]
            exact ri_nat (by omega) (by omega) (by omega) (by omega) (by omega) (by omega) (by omega)
          refine cr_vc [7, 30, 43, 155] 90 (s_M_fewest hl Z C hem) (fun K hK => ?_)
          conv => whnf
          refine ⟨_, h1.o, ?_⟩
          conv => whnf
          refine ⟨fun b49 => absurd b49 (by rw [E.1 22 0 (by decide) (by decide) (by decide)]; exact cr_nle (by omega) (by omega)), fun b49 => ?_⟩
          conv => whnf
          refine ⟨_, h1.o, ?_⟩
          conv => whnf
          refine ⟨_, _, _, (h1.a 33 rfl), rfl, show k < 9000 by omega, cr_le rfl, ?_⟩
          conv => whnf
          refine ⟨by decide, ?_⟩
          conv => whnf
          refine ⟨_, h1.o, ?_⟩
          conv => whnf
          refine ⟨_, _, _, (h1.a 33 rfl), rfl, show k < 9000 by omega, cr_le rfl, ?_⟩
          conv => whnf
          refine ⟨by decide, ?_⟩
          conv => whnf
          refine ⟨by decide, ?_⟩
          conv => whnf
          refine ⟨_, h1.o, ?_⟩
          conv => whnf
          refine ⟨_, _, _, (h1.a 33 rfl), rfl, show k < 9000 by omega, cr_le rfl, ?_⟩
          conv => whnf
          refine ⟨by decide, ?_⟩
          conv => whnf
          refine ⟨rfl, ?_⟩
          conv => whnf
          refine ⟨_, h1.o, _, _, _, _, j_M_spans (r := r) hl Z h1 (by omega), by decide, cr_le rfl, cr_le rfl, cr_le rfl, fun v89 H89 q89 _ => ?_, fun kd H9 q9 _ => by cases q9.1⟩
          obtain ⟨q89a, q89b⟩ := q89
          cases q89a
          replace q89b := q89b.symm
          subst q89b
          conv => whnf
          refine ⟨fun b92 => ?_, fun b92 => ?_⟩
          · conv => whnf
            refine ⟨cr_le rfl, ?_⟩
            conv => whnf
            refine ⟨cr_le rfl, ?_⟩
            conv => whnf
            exact hK _ _ _ _ _ _ (cr_G_fg (ihr (r + 1) (by omega)) ⟨rfl, rfl, rfl, (show Value.int (nI (fw_set (G 23) (G 24) (G 25) (G 26) (G 33 k / 1440 / 10) (G 33 k / 1440 % 10) (G 33 k % 1440) (r + 1))) = Value.int (nI (fw_set (G 23) (G 24) (G 25) (G 26) (G 33 k / 1440 / 10) (G 33 k / 1440 % 10) (G 33 k % 1440) r) ||| 0) by rw [show fw_set (G 23) (G 24) (G 25) (G 26) (G 33 k / 1440 / 10) (G 33 k / 1440 % 10) (G 33 k % 1440) (r + 1) = fw_set (G 23) (G 24) (G 25) (G 26) (G 33 k / 1440 / 10) (G 33 k / 1440 % 10) (G 33 k % 1440) r + _ from rfl, ← En, show mm_sp G1 r (nI (G1 33 k) / 14400) (nI (G1 33 k) / 1440 - nI (G1 33 k) / 1440 / 10 * 10) (nI (G1 33 k) - nI (G1 33 k) / 1440 * 1440) = false from cr_bf b92, show (0 : Int32) = nI 0 from rfl, nb_or, Nat.or_zero]; rfl), (show Value.int (nI (r + 1)) = Value.int (nI r + 1) by rw [nI_1]), trivial⟩)
          · conv => whnf
            refine ⟨cr_le rfl, ?_⟩
            conv => whnf
            refine ⟨cr_le rfl, ?_⟩
            conv => whnf
            exact hK _ _ _ _ _ _ (cr_G_fg (ihr (r + 1) (by omega)) ⟨rfl, rfl, rfl, (show Value.int (nI (fw_set (G 23) (G 24) (G 25) (G 26) (G 33 k / 1440 / 10) (G 33 k / 1440 % 10) (G 33 k % 1440) (r + 1))) = Value.int (nI (fw_set (G 23) (G 24) (G 25) (G 26) (G 33 k / 1440 / 10) (G 33 k / 1440 % 10) (G 33 k % 1440) r) ||| (1 <<< (nI r &&& 31))) by rw [show fw_set (G 23) (G 24) (G 25) (G 26) (G 33 k / 1440 / 10) (G 33 k / 1440 % 10) (G 33 k % 1440) (r + 1) = fw_set (G 23) (G 24) (G 25) (G 26) (G 33 k / 1440 / 10) (G 33 k / 1440 % 10) (G 33 k % 1440) r + _ from rfl, ← En, show mm_sp G1 r (nI (G1 33 k) / 14400) (nI (G1 33 k) / 1440 - nI (G1 33 k) / 1440 / 10 * 10) (nI (G1 33 k) - nI (G1 33 k) / 1440 * 1440) = true from cr_bt b92, if_pos rfl, nb_shl (by omega), nb_or, Nat.or_comm, ← fw_or (u := r) (Nat.mod_self _) (fw_set_lt _ _ _ _ _ _ _ _), Nat.add_comm]), (show Value.int (nI (r + 1)) = Value.int (nI r + 1) by rw [nI_1]), trivial⟩)
      refine cr_vc [7, 30, 43, 155] 90 (s_M_fewest hl Z C hem) (fun K hK => ?_)
      conv => whnf
      refine ⟨_, h1.o, ?_⟩
      conv => whnf
      refine ⟨fun b35 => absurd b35 (by rw [E.1 32 0 (by decide) (by decide) (by decide)]; exact cr_nle (by omega) (by omega)), fun b35 => ?_⟩
      conv => whnf
      refine ⟨cr_le rfl, ?_⟩
      conv => whnf
      refine ⟨cr_le rfl, ?_⟩
      conv => whnf
      exact hK _ _ _ _ _ _ (cr_G_fg (inner (G 22 0) 0 (by omega)) ⟨rfl, rfl, rfl, rfl, rfl, trivial⟩)
  have loop1 : ∀ (j i : Nat) (G1 : mm_G) (H1 : Heap), i + j = 65536 → mm_R s0 D ca H1 y ad G1 → mm_Fr y ad H H1 → fr_E G G1 → (∀ q, q < i → G1 39 q = 0) → cr_G P9 l E9 (cr_rm 2 0 0) S9 M9 A9 B9 T9 C9 s0.heap.size 0 0 (fun o H' => ∃ b G', o = .inl (some (.int (nI b))) ∧ fr_is G b ∧ mm_R s0 D ca H' y ad G' ∧ fr_E G G' ∧ mm_Fr y ad H H') 7 [some (.ref y), some (.int (nI i)), none, none, none, none] [] H1 0 0 := by
    intro j
    induction j with
    | zero =>
      intro i G1 H1 hj h1 fr1 E hz
      refine cr_vc [7, 30, 43, 155] 90 (s_M_fewest hl Z C hem) (fun K hK => ?_)
      conv => whnf
      refine ⟨fun b10 => ?_, fun b10 => absurd (show nI 65536 ≤ nI i from nI_le (by omega) (by omega)) b10⟩
      conv => whnf
      refine ⟨cr_le rfl, ?_⟩
      conv => whnf
      refine ⟨cr_le rfl, ?_⟩
      conv => whnf
      exact hK _ _ _ _ _ _ (cr_G_fg (loop2 (G 32 0) 0 0 G1 H1 (by omega) h1 fr1 E ⟨by omega, fun i hi => absurd hi (Nat.not_lt_zero _), fun s hs => Or.inl ⟨hz s (by omega), fun i hi => absurd hi (Nat.not_lt_zero _)⟩, fun q hq => absurd hq (Nat.not_lt_zero _), fun i hi => absurd hi (Nat.not_lt_zero _)⟩) ⟨rfl, rfl, rfl, trivial⟩)
    | succ j ih =>
      intro i G1 H1 hj h1 fr1 E hz
      refine cr_vc [7, 30, 43, 155] 90 (s_M_fewest hl Z C hem) (fun K hK => ?_)
      conv => whnf
      refine ⟨fun b10 => absurd b10 (show ¬ nI 65536 ≤ nI i from cr_nle (by omega) (by decide)), fun b10 => ?_⟩
      conv => whnf
      refine ⟨_, h1.o, ?_⟩
      conv => whnf
      refine ⟨_, _, _, (h1.a 39 rfl), (h1.lo 39 rfl), rfl, show i < 65536 by omega, cr_le rfl, by decide, fun H19 u19 => ?_⟩
      have h2 := h1.sto (k := 39) (j := i) (v := 0) rfl u19
      conv => whnf
      refine ⟨cr_le rfl, ?_⟩
      conv => whnf
      exact hK _ _ _ _ _ _ (cr_G_fg (ih (i + 1) _ H19 (by omega) h2 (fr1.tr (mm_Fr.arr (k := 39) rfl u19)) (E.st (Or.inl rfl)) (fun q hq => by
        rw [mm_up_at]
        split
        · rfl
        · exact hz q (by omega))) ⟨rfl, (show Value.int (nI (i + 1)) = Value.int (nI i + 1) by rw [nI_1]), trivial⟩)
  refine cr_vc [7, 30, 43, 155] 120 (s_M_fewest hl Z C hem) (fun K hK => ?_)
  conv => whnf
  refine ⟨_, h.o, h.1, ⟨rfl, rfl⟩, ?_⟩
  conv => whnf
  intro H2 u2
  have h1 := h.put (k := 0) (v := 0) rfl u2
  conv => whnf
  refine ⟨cr_le rfl, ?_⟩
  conv => whnf
  exact hK _ _ _ _ _ _ (cr_G_fg (loop1 65536 0 _ H2 (by omega) h1 (mm_Fr.ob u2) ⟨fun a b h0 _ _ => mm_up_k _ _ _ _ h0, mm_up_s _ _ _ _⟩ (fun q hq => absurd hq (Nat.not_lt_zero _))) ⟨rfl, rfl, trivial⟩)
end MFW
