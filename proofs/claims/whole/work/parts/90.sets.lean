/-! THE CLASS: fewest (printed by gen/comp27.py) -/
section CFW
variable {l : Launch} {s0 : State} {D : va_G} {ca : Nat → ClassId} {e0 : Nat} {O : Nat → Prop} {H : Heap} {A : Nat → Nat → Nat} {G : mm_G} {w : cc_W}
theorem fw_set_lt (g z fr to : Nat → Nat) (g0 z0 x : Nat) : ∀ q, fw_set g z fr to g0 z0 x q < 2 ^ q
  | 0 => by simp [fw_set]
  | q + 1 => by
    have := fw_set_lt g z fr to g0 z0 x q
    unfold fw_set
    rw [Nat.pow_succ]
    split <;> omega
/-- the rights that have a use -/
def nd (G : mm_G) (u : Nat) : Nat := fw_set (G 23) (G 24) (G 25) (G 26) (u / 1440 / 10) (u / 1440 % 10) (u % 1440) (G 22 0)
def us_u9 (G : mm_G) (u : Nat) : Prop := mm_ex (mm_eu G u) 0 (G 32 0) = true
theorem ri_nat {a b f o g z x : Nat} (ha : a < 2 ^ 31) (hb : b < 2 ^ 31) (hf : f < 2 ^ 31) (ho : o < 2 ^ 31) (hg : g < 2 ^ 31) (hz : z < 2 ^ 31) (hx : x < 2 ^ 31) : ri_for (nI a) (nI b) (nI f) (nI o) (nI g) (nI z) (nI x) = (decide (a = g ∧ b = z) && fw_in f o x) := by
  have lt : ∀ {p q : Nat}, p < 2 ^ 31 → q < 2 ^ 31 → (nI p < nI q ↔ p < q) := fun {p q} hp hq => ⟨fun h => cr_ltof hp (fun h9 => absurd h (Int32.not_lt.mpr h9)), fun h => nI_lt h hq⟩
  have le : ∀ {p q : Nat}, p < 2 ^ 31 → q < 2 ^ 31 → (nI p ≤ nI q ↔ p ≤ q) := fun {p q} hp hq => ⟨fun h => Nat.le_of_not_lt (fun h9 => absurd (nI_lt h9 hp) (Int32.not_lt.mpr h)), fun h => nI_le h hq⟩
  unfold ri_for ri_sp fw_in
  simp only [lt ho hf, le hf hx, le ho hx, lt hx hf, nI_eq ha hg, nI_eq hb hz]
  have k1 : decide (a = g ∧ b = z) = (decide (a = g) && decide (b = z)) := by
    by_cases c1 : a = g <;> by_cases c2 : b = z <;> simp [c1, c2]
  rw [k1, Bool.and_assoc]
  congr 1
  congr 1
  by_cases c3 : f ≤ o
  · have c3' : ¬ o < f := by omega
    simp only [c3, c3', decide_false, cond_false, if_true]
    by_cases c4 : x < f
    · have : ¬ (f ≤ x ∧ x < o) := by omega
      simp [c4, this]
    · by_cases c5 : o ≤ x
      · have : ¬ (f ≤ x ∧ x < o) := by omega
        simp [c5]
      · have : f ≤ x ∧ x < o := by omega
        simp [c4, c5, this]
  · have c3' : o < f := by omega
    simp only [c3, c3', decide_true, cond_true, if_false]
    by_cases c4 : f ≤ x
    · simp [c4]
    · by_cases c5 : o ≤ x
      · simp [c4, c5]
      · have : x < o := by omega
        simp [c4, this]

set_option maxRecDepth 20000 in
theorem j_Us_groupOf (hl : l.flags = flags0) (Z : cr_Z0 s0 D ca e0) {u : Nat} (hu : u < 2 ^ 31) : cr_c l s0 y_Us_groupOf cw_Us_groupOf 1 0 0 [.int (nI u)] H (cr_pu (some (.int (nI (u / 1440 / 10)))) H) := by
  refine cr_enter (by decide +kernel) (Nat.le_of_ble_eq_true rfl) (fun hlo P9 E9 S9 M9 A9 B9 T9 C9 C hem hH => ?_)
  refine cr_vc [] 120 (s_Us_groupOf hl Z C hem) (fun K hK => ?_)
  conv => whnf
  refine ⟨by decide, ?_⟩
  conv => whnf
  refine ⟨by decide, ?_⟩
  conv => whnf
  exact ⟨cr_le rfl, cr_le rfl, (by rw [show (1440 : Int32) = nI 1440 from rfl, pk_div hu (by decide) (by decide), show (10 : Int32) = nI 10 from rfl, pk_div (by omega) (by decide) (by decide)]), rfl⟩
set_option maxRecDepth 20000 in
theorem j_Us_zoneOf (hl : l.flags = flags0) (Z : cr_Z0 s0 D ca e0) {u : Nat} (hu : u < 2 ^ 31) : cr_c l s0 y_Us_zoneOf cw_Us_zoneOf 1 0 0 [.int (nI u)] H (cr_pu (some (.int (nI (u / 1440 % 10)))) H) := by
  refine cr_enter (by decide +kernel) (Nat.le_of_ble_eq_true rfl) (fun hlo P9 E9 S9 M9 A9 B9 T9 C9 C hem hH => ?_)
  refine cr_vc [] 120 (s_Us_zoneOf hl Z C hem) (fun K hK => ?_)
  conv => whnf
  refine ⟨by decide, ?_⟩
  conv => whnf
  refine ⟨by decide, ?_⟩
  conv => whnf
  exact ⟨cr_le rfl, cr_le rfl, (by rw [show (1440 : Int32) = nI 1440 from rfl, pk_div hu (by decide) (by decide), show (10 : Int32) = nI 10 from rfl, pk_rem (by omega) (by decide) (by decide)]), rfl⟩
set_option maxRecDepth 20000 in
theorem j_Us_timeOf (hl : l.flags = flags0) (Z : cr_Z0 s0 D ca e0) {u : Nat} (hu : u < 2 ^ 31) : cr_c l s0 y_Us_timeOf cw_Us_timeOf 1 0 0 [.int (nI u)] H (cr_pu (some (.int (nI (u % 1440)))) H) := by
  refine cr_enter (by decide +kernel) (Nat.le_of_ble_eq_true rfl) (fun hlo P9 E9 S9 M9 A9 B9 T9 C9 C hem hH => ?_)
  refine cr_vc [] 120 (s_Us_timeOf hl Z C hem) (fun K hK => ?_)
  conv => whnf
  refine ⟨by decide, ?_⟩
  conv => whnf
  exact ⟨cr_le rfl, cr_le rfl, (by rw [show (1440 : Int32) = nI 1440 from rfl, pk_rem hu (by decide) (by decide)]), rfl⟩
set_option maxRecDepth 20000 in
theorem j_C_rightsThatHave (hl : l.flags = flags0) (Z : cr_Z0 s0 D ca e0) (h : cc_H s0 D ca e0 O H A G w) (h22 : G 22 0 ≤ 16) (hR : ∀ i, i < G 22 0 → G 23 i < 2 ^ 31 ∧ G 24 i < 2 ^ 31 ∧ G 25 i < 2 ^ 31 ∧ G 26 i < 2 ^ 31) {u : Nat} {x9 : Int32} (hx : x9 = nI u) (hu : u < 144000) : cr_c l s0 y_C_rightsThatHave cw_C_rightsThatHave 3 0 0 [.ref (A 14 0), .int x9] H (cr_pu (some (.int (nI (nd G u)))) H) := by
  refine cr_enter (by decide +kernel) (Nat.le_of_ble_eq_true rfl) (fun hlo P9 E9 S9 M9 A9 B9 T9 C9 C hem hH => ?_)
  subst hx
  obtain ⟨md, hal, -⟩ := (h.li 4 (by decide)).2
  have loop : ∀ (j i : Nat), i + j = G 22 0 → cr_G P9 l E9 (cr_rm 3 0 0) S9 M9 A9 B9 T9 C9 s0.heap.size 0 0 (cr_pu (some (.int (nI (nd G u)))) H) 22 [some (.ref (A 14 0)), some (.int (nI u)), some (.int (nI (u / 1440 / 10))), some (.int (nI (u / 1440 % 10))), some (.int (nI (u % 1440))), some (.int (nI (fw_set (G 23) (G 24) (G 25) (G 26) (u / 1440 / 10) (u / 1440 % 10) (u % 1440) i))), some (.int (nI i))] [] H 0 0 := by
    intro j
    induction j with
    | zero =>
      intro i hj
      refine cr_vc [22] 90 (s_C_rightsThatHave hl Z C hem) (fun K hK => ?_)
      conv => whnf
      refine ⟨_, (h.c 14 0 rfl), ?_⟩
      conv => whnf
      refine ⟨rfl, ?_⟩
      conv => whnf
      refine ⟨_, hal, _, _, _, _, j_AL_sizeL hl Z (h.li 4 (by decide)), by decide, cr_le rfl, cr_le rfl, cr_le rfl, fun v28 H28 q28 _ => ?_, fun kd H9 q9 _ => by cases q9.1⟩
      obtain ⟨q28a, q28b⟩ := q28
      cases q28a
      replace q28b := q28b.symm
      subst q28b
      conv => whnf
      refine ⟨fun b33 => ?_, fun b33 => absurd (by rw [show i = G 22 0 by omega]; exact Int32.le_refl _) b33⟩
      conv => whnf
      exact ⟨cr_le rfl, cr_le rfl, (by rw [show i = G 22 0 by omega]; rfl), rfl⟩
    | succ j ih =>
      intro i hj
      obtain ⟨r1, r2, r3, r4⟩ := hR i (by omega)
      have En := ri_nat (a := G 23 i) (b := G 24 i) (f := G 25 i) (o := G 26 i) (g := u / 1440 / 10) (z := u / 1440 % 10) (x := u % 1440) (by omega) (by omega) (by omega) (by omega) (by omega) (by omega) (by omega)
      refine cr_vc [22] 90 (s_C_rightsThatHave hl Z C hem) (fun K hK => ?_)
      conv => whnf
      refine ⟨_, (h.c 14 0 rfl), ?_⟩
      conv => whnf
      refine ⟨rfl, ?_⟩
      conv => whnf
      refine ⟨_, hal, _, _, _, _, j_AL_sizeL hl Z (h.li 4 (by decide)), by decide, cr_le rfl, cr_le rfl, cr_le rfl, fun v28 H28 q28 _ => ?_, fun kd H9 q9 _ => by cases q9.1⟩
      obtain ⟨q28a, q28b⟩ := q28
      cases q28a
      replace q28b := q28b.symm
      subst q28b
      conv => whnf
      refine ⟨fun b33 => absurd b33 (cr_nle (show i < G 22 0 by omega) (show G 22 0 < 2 ^ 31 by omega)), fun b33 => ?_⟩
      conv => whnf
      refine ⟨_, (h.c 14 0 rfl), ?_⟩
      conv => whnf
      refine ⟨rfl, ?_⟩
      conv => whnf
      refine ⟨_, hal, _, _, _, _, j_AL_get (i := i) hl Z (h.li 4 (by decide)) (show i < G 22 0 by omega), by decide, cr_le rfl, cr_le rfl, cr_le rfl, fun v42 H42 q42 _ => ?_, fun kd H9 q9 _ => by cases q9.1⟩
      obtain ⟨q42a, q42b⟩ := q42
      cases q42a
      replace q42b := q42b.symm
      subst q42b
      conv => whnf
      refine ⟨_, (h.c 4 i (show i < G 22 0 by omega)), ?_⟩
      conv => whnf
      refine ⟨rfl, ?_⟩
      conv => whnf
      refine ⟨_, (h.c 4 i (show i < G 22 0 by omega)), _, _, _, _, j_Ri_isFor hl Z (h.c 4 i (show i < G 22 0 by omega)), by decide, cr_le rfl, cr_le rfl, cr_le rfl, fun v54 H54 q54 _ => ?_, fun kd H9 q9 _ => by cases q9.1⟩
      obtain ⟨q54a, q54b⟩ := q54
      cases q54a
      replace q54b := q54b.symm
      subst q54b
      conv => whnf
      refine ⟨fun b57 => ?_, fun b57 => ?_⟩
      · conv => whnf
        refine ⟨cr_le rfl, ?_⟩
        conv => whnf
        exact hK _ _ _ _ _ _ (cr_G_fg (ih (i + 1) (by omega)) ⟨rfl, rfl, rfl, rfl, rfl, (show Value.int (nI (fw_set (G 23) (G 24) (G 25) (G 26) (u / 1440 / 10) (u / 1440 % 10) (u % 1440) (i + 1))) = Value.int (nI (fw_set (G 23) (G 24) (G 25) (G 26) (u / 1440 / 10) (u / 1440 % 10) (u % 1440) i)) by rw [show fw_set (G 23) (G 24) (G 25) (G 26) (u / 1440 / 10) (u / 1440 % 10) (u % 1440) (i + 1) = fw_set (G 23) (G 24) (G 25) (G 26) (u / 1440 / 10) (u / 1440 % 10) (u % 1440) i + _ from rfl, ← En, show ri_for (nI (G 23 i)) (nI (G 24 i)) (nI (G 25 i)) (nI (G 26 i)) (nI (u / 1440 / 10)) (nI (u / 1440 % 10)) (nI (u % 1440)) = false from cr_bf b57]; rfl), (show Value.int (nI (i + 1)) = Value.int (nI i + 1) by rw [nI_1]), trivial⟩)
      · conv => whnf
        refine ⟨cr_le rfl, ?_⟩
        conv => whnf
        refine ⟨cr_le rfl, ?_⟩
        conv => whnf
        exact hK _ _ _ _ _ _ (cr_G_fg (ih (i + 1) (by omega)) ⟨rfl, rfl, rfl, rfl, rfl, (show Value.int (nI (fw_set (G 23) (G 24) (G 25) (G 26) (u / 1440 / 10) (u / 1440 % 10) (u % 1440) (i + 1))) = Value.int (nI (fw_set (G 23) (G 24) (G 25) (G 26) (u / 1440 / 10) (u / 1440 % 10) (u % 1440) i) ||| (1 <<< (nI i &&& 31))) by rw [show fw_set (G 23) (G 24) (G 25) (G 26) (u / 1440 / 10) (u / 1440 % 10) (u % 1440) (i + 1) = fw_set (G 23) (G 24) (G 25) (G 26) (u / 1440 / 10) (u / 1440 % 10) (u % 1440) i + _ from rfl, ← En, show ri_for (nI (G 23 i)) (nI (G 24 i)) (nI (G 25 i)) (nI (G 26 i)) (nI (u / 1440 / 10)) (nI (u / 1440 % 10)) (nI (u % 1440)) = true from cr_bt b57, if_pos rfl, nb_shl (by omega), nb_or, Nat.or_comm, ← fw_or (u := i) (Nat.mod_self _) (fw_set_lt _ _ _ _ _ _ _ _), Nat.add_comm]), (show Value.int (nI (i + 1)) = Value.int (nI i + 1) by rw [nI_1]), trivial⟩)
  refine cr_vc [22] 120 (s_C_rightsThatHave hl Z C hem) (fun K hK => ?_)
  conv => whnf
  refine ⟨rfl, ?_⟩
  conv => whnf
  refine ⟨_, _, _, _, j_Us_groupOf (u := u) hl Z (by omega), by decide, cr_le rfl, cr_le rfl, cr_le rfl, fun v1 H1 q1 _ => ?_, fun kd H9 q9 _ => by cases q9.1⟩
  obtain ⟨q1a, q1b⟩ := q1
  cases q1a
  replace q1b := q1b.symm
  subst q1b
  conv => whnf
  refine ⟨cr_le rfl, ?_⟩
  conv => whnf
  refine ⟨rfl, ?_⟩
  conv => whnf
  refine ⟨_, _, _, _, j_Us_zoneOf (u := u) hl Z (by omega), by decide, cr_le rfl, cr_le rfl, cr_le rfl, fun v6 H6 q6 _ => ?_, fun kd H9 q9 _ => by cases q9.1⟩
  obtain ⟨q6a, q6b⟩ := q6
  cases q6a
  replace q6b := q6b.symm
  subst q6b
  conv => whnf
  refine ⟨cr_le rfl, ?_⟩
  conv => whnf
  refine ⟨rfl, ?_⟩
  conv => whnf
  refine ⟨_, _, _, _, j_Us_timeOf (u := u) hl Z (by omega), by decide, cr_le rfl, cr_le rfl, cr_le rfl, fun v11 H11 q11 _ => ?_, fun kd H9 q9 _ => by cases q9.1⟩
  obtain ⟨q11a, q11b⟩ := q11
  cases q11a
  replace q11b := q11b.symm
  subst q11b
  conv => whnf
  refine ⟨cr_le rfl, ?_⟩
  conv => whnf
  refine ⟨cr_le rfl, ?_⟩
  conv => whnf
  refine ⟨cr_le rfl, ?_⟩
  conv => whnf
  exact hK _ _ _ _ _ _ (loop (G 22 0) 0 (by omega))
set_option maxRecDepth 20000 in
theorem j_Ne_add (hl : l.flags = flags0) (Z : cr_Z0 s0 D ca e0) {a sa n : Nat} {f : Nat → Nat} (ha : s0.heap.size ≤ a) (hsa : s0.heap.size ≤ sa) (hne : a ≠ sa) (h : va_at D kc (a, .inr (5, [.ref sa, .int (nI n)])) H) (h2 : va_at D kc (sa, .inl (ca 0, 32, .inl (fun i => nI (f i)))) H) (hf : ∀ i, i < n → f i < 65536) (hn : n ≤ 32) {s9 : Nat} (hs : s9 < 65536) (hcap : ¬ n < 32 → s9 ≠ 0 → ∃ i, i < n ∧ f i = s9) : cr_c l s0 y_Ne_add cw_Ne_add 1 0 0 [.ref a, .int (nI s9)] H (fun o H' => o = .inl none ∧ ((H' = H ∧ (s9 = 0 ∨ ∃ i, i < n ∧ f i = s9)) ∨ (s9 ≠ 0 ∧ (∀ i, i < n → f i ≠ s9) ∧ n < 32 ∧ va_at D kc (a, .inr (5, [.ref sa, .int (nI (n + 1))])) H' ∧ va_at D kc (sa, .inl (ca 0, 32, .inl (fun i => nI (if i = n then s9 else f i)))) H' ∧ H'.size = H.size ∧ ∀ q : Nat, q ≠ a → q ≠ sa → H'[q]? = H[q]?))) := by
  refine cr_enter (by decide +kernel) (Nat.le_of_ble_eq_true rfl) (fun hlo P9 E9 S9 M9 A9 B9 T9 C9 C hem hH => ?_)
  have loop : s9 ≠ 0 → n < 32 → ∀ (j i : Nat), i + j = n → (∀ i9, i9 < i → f i9 ≠ s9) → cr_G P9 l E9 (cr_rm 1 0 0) S9 M9 A9 B9 T9 C9 s0.heap.size 0 0 (fun o H' => o = .inl none ∧ ((H' = H ∧ (s9 = 0 ∨ ∃ i, i < n ∧ f i = s9)) ∨ (s9 ≠ 0 ∧ (∀ i, i < n → f i ≠ s9) ∧ n < 32 ∧ va_at D kc (a, .inr (5, [.ref sa, .int (nI (n + 1))])) H' ∧ va_at D kc (sa, .inl (ca 0, 32, .inl (fun i => nI (if i = n then s9 else f i)))) H' ∧ H'.size = H.size ∧ ∀ q : Nat, q ≠ a → q ≠ sa → H'[q]? = H[q]?))) 19 [some (.ref a), some (.int (nI s9)), some (.int (nI i))] [] H 0 0 := by
    intro h0 hn32 j
    induction j with
    | zero =>
      intro i hj hno
      refine cr_vc [19] 90 (s_Ne_add hl Z C hem) (fun K hK => ?_)
      conv => whnf
      refine ⟨_, h, ?_⟩
      conv => whnf
      refine ⟨fun b24 => ?_, fun b24 => absurd (by rw [show i = n by omega]; exact Int32.le_refl _) b24⟩
      conv => whnf
      refine ⟨_, h, ?_⟩
      conv => whnf
      refine ⟨_, h, ?_⟩
      conv => whnf
      refine ⟨_, _, _, h2, hsa, rfl, hn32, cr_le rfl, fun H53 u53 => ?_⟩
      conv => whnf
      refine ⟨rfl, ?_⟩
      conv => whnf
      refine ⟨_, (cr_at_eq h (u53.2.2 a hne)), ?_⟩
      conv => whnf
      refine ⟨_, (cr_at_eq h (u53.2.2 a hne)), ha, ⟨rfl, rfl⟩, ?_⟩
      conv => whnf
      intro H61 u61
      conv => whnf
      refine ⟨cr_le rfl, cr_le rfl, rfl, Or.inr ⟨h0, fun i9 hi9 => hno i9 (by omega), hn32, ?_, ?_, u61.1.trans u53.1, fun q q1 q2 => (u61.2.2 q q1).trans (u53.2.2 q q2)⟩⟩
      · have q9 := u61.2.1
        rw [nI_1] at q9
        exact q9
      · have q9 := cr_at_eq u53.2.1 (u61.2.2 sa (Ne.symm hne))
        have e9 : upd (fun i => nI (f i)) n (nI s9) = fun i => nI (if i = n then s9 else f i) := by
          funext i9
          by_cases e8 : i9 = n
          · simp [upd, e8]
          · simp [upd, e8]
        rw [e9] at q9
        exact q9
    | succ j ih =>
      intro i hj hno
      refine cr_vc [19] 90 (s_Ne_add hl Z C hem) (fun K hK => ?_)
      conv => whnf
      refine ⟨_, h, ?_⟩
      conv => whnf
      refine ⟨fun b24 => absurd b24 (cr_nle (by omega) (by omega)), fun b24 => ?_⟩
      conv => whnf
      refine ⟨_, h, ?_⟩
      conv => whnf
      refine ⟨_, _, _, h2, rfl, by omega, cr_le rfl, ?_⟩
      conv => whnf
      refine ⟨fun b34 => ?_, fun b34 => ?_⟩
      · conv => whnf
        refine ⟨cr_le rfl, ?_⟩
        conv => whnf
        exact hK _ _ _ _ _ _ (cr_G_fg (ih (i + 1) (by omega) (fun i9 hi9 => by
          by_cases e9 : i9 = i
          · rw [e9]
            exact fun q => b34 (by rw [q])
          · exact hno i9 (by omega))) ⟨rfl, rfl, (show Value.int (nI (i + 1)) = Value.int (nI i + 1) by rw [nI_1]), trivial⟩)
      · conv => whnf
        exact ⟨cr_le rfl, cr_le rfl, rfl, Or.inl ⟨rfl, Or.inr ⟨i, by omega, (nI_eq (by have := hf i (by omega); omega) (by omega)).mp b34⟩⟩⟩
  refine cr_vc [19] 120 (s_Ne_add hl Z C hem) (fun K hK => ?_)
  conv => whnf
  refine ⟨fun b1 => ?_, fun b1 => ?_⟩
  · conv => whnf
    exact ⟨cr_le rfl, cr_le rfl, rfl, Or.inl ⟨rfl, Or.inl ((nb_eq0 (by omega)).mp b1)⟩⟩
  · conv => whnf
    refine ⟨_, h, ?_⟩
    conv => whnf
    refine ⟨_, h, ?_⟩
    conv => whnf
    refine ⟨_, h2, ?_⟩
    conv => whnf
    refine ⟨fun b13 => ?_, fun b13 => ?_⟩
    · conv => whnf
      refine ⟨cr_le rfl, ?_⟩
      conv => whnf
      exact hK _ _ _ _ _ _ (loop (fun q => b1 (by rw [q]; rfl)) (cr_ltof (a := 32) (by omega) (fun q => absurd b13 (Int32.not_lt.mpr q))) n 0 (by omega) (fun i9 hi9 => absurd hi9 (Nat.not_lt_zero _)))
    · conv => whnf
      exact ⟨cr_le rfl, cr_le rfl, rfl, Or.inl ⟨rfl, Or.inr (hcap (fun q => b13 (show nI n < nI 32 from nI_lt q (by decide))) (fun q => b1 (by rw [q]; rfl)))⟩⟩
set_option maxRecDepth 20000 in
theorem j_Ne_clear (hl : l.flags = flags0) (Z : cr_Z0 s0 D ca e0) {a sa : Nat} {x : Int32} (ha : s0.heap.size ≤ a) (h : va_at D kc (a, .inr (5, [.ref sa, .int x])) H) : cr_c l s0 y_Ne_clear cw_Ne_clear 1 0 0 [.ref a] H (fun o H' => o = .inl none ∧ cr_Up D kc H a (.inr (5, [.ref sa, .int 0])) H') := by
  refine cr_enter (by decide +kernel) (Nat.le_of_ble_eq_true rfl) (fun hlo P9 E9 S9 M9 A9 B9 T9 C9 C hem hH => ?_)
  refine cr_vc [] 120 (s_Ne_clear hl Z C hem) (fun K hK => ?_)
  conv => whnf
  refine ⟨_, h, ha, ⟨rfl, rfl⟩, ?_⟩
  conv => whnf
  intro H2 u2
  conv => whnf
  exact ⟨cr_le rfl, cr_le rfl, rfl, u2⟩
end CFW
