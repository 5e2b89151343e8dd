/-! HOW MANY DIFFERENT NEEDS THERE CAN BE: the ends of n spans cut the day into 2 n pieces at most -/
def fw_in (fr to x : Nat) : Bool := if fr ≤ to then decide (fr ≤ x ∧ x < to) else decide (fr ≤ x ∨ x < to)
/-- the rights (of n) that have a use: group, zone, time -/
def fw_set (g z fr to : Nat → Nat) (g0 z0 x : Nat) : Nat → Nat
  | 0 => 0
  | n + 1 => fw_set g z fr to g0 z0 x n + (if (decide (g n = g0 ∧ z n = z0) && fw_in (fr n) (to n) x) = true then 2 ^ n else 0)
theorem fw_set_eq {g z fr to : Nat → Nat} {g0 z0 g1 z1 x y : Nat} : ∀ {n : Nat}, (∀ i, i < n → (decide (g i = g0 ∧ z i = z0) && fw_in (fr i) (to i) x) = (decide (g i = g1 ∧ z i = z1) && fw_in (fr i) (to i) y)) → fw_set g z fr to g0 z0 x n = fw_set g z fr to g1 z1 y n
  | 0, _ => rfl
  | n + 1, h => by
    unfold fw_set
    rw [fw_set_eq (fun i hi => h i (by omega)), h n (by omega)]
theorem fw_set_ne {g z fr to : Nat → Nat} {g0 z0 x : Nat} : ∀ {n : Nat}, fw_set g z fr to g0 z0 x n ≠ 0 → ∃ i, i < n ∧ g i = g0 ∧ z i = z0 ∧ fw_in (fr i) (to i) x = true
  | 0, h => absurd rfl h
  | n + 1, h => by
    by_cases hc : (decide (g n = g0 ∧ z n = z0) && fw_in (fr n) (to n) x) = true
    · simp only [Bool.and_eq_true, decide_eq_true_eq] at hc
      exact ⟨n, by omega, hc.1.1, hc.1.2, hc.2⟩
    · unfold fw_set at h
      rw [if_neg hc, Nat.add_zero] at h
      obtain ⟨i, h1, h2⟩ := fw_set_ne h
      exact ⟨i, by omega, h2⟩
def fw_prev (u : Nat) : Nat := if u = 0 then 1439 else u - 1
theorem fw_edge {fr to u : Nat} (h1 : fr < 1440) (h2 : to < 1440) (hu : u < 1440) (h : fw_in fr to u ≠ fw_in fr to (fw_prev u)) : u = fr ∨ u = to := by
  unfold fw_in fw_prev at h
  by_cases c : fr ≤ to <;> by_cases c2 : u = 0 <;> simp only [c, c2, if_true, if_false] at h <;>
    (refine Classical.byContradiction fun hn => h ?_
     first
       | (rw [decide_eq_decide]; omega)
       | (simp only [decide_eq_decide]; omega))
theorem fw_never {fr to : Nat} (h2 : to < 1440) : fw_in fr to to = false := by
  unfold fw_in
  by_cases c : fr ≤ to
  · rw [if_pos c]
    exact decide_eq_false (by omega)
  · rw [if_neg c]
    exact decide_eq_false (by omega)
/-- a set that is not empty begins at an end of a span -/
theorem fw_begin {g z fr to : Nat → Nat} {n g0 z0 x : Nat} (hf : ∀ i, i < n → fr i < 1440) (ht : ∀ i, i < n → to i < 1440) (hx : x < 1440) (h : fw_set g z fr to g0 z0 x n ≠ 0) :
    ∃ i, i < n ∧ (fw_set g z fr to g0 z0 x n = fw_set g z fr to (g i) (z i) (fr i) n ∨ fw_set g z fr to g0 z0 x n = fw_set g z fr to (g i) (z i) (to i) n) := by
  obtain ⟨i0, hi0, e1, e2, e3⟩ := fw_set_ne h
  -- going back from x, somewhere the set changes
  have key : ∃ u, u < 1440 ∧ fw_set g z fr to g0 z0 u n = fw_set g z fr to g0 z0 x n ∧ fw_set g z fr to g0 z0 (fw_prev u) n ≠ fw_set g z fr to g0 z0 x n := by
    refine Classical.byContradiction fun hn => ?_
    have all : ∀ u, u < 1440 → fw_set g z fr to g0 z0 u n = fw_set g z fr to g0 z0 x n → fw_set g z fr to g0 z0 (fw_prev u) n = fw_set g z fr to g0 z0 x n := fun u h1 h2 =>
      Classical.byContradiction fun h3 => hn ⟨u, h1, h2, h3⟩
    have down : ∀ k, k ≤ x → fw_set g z fr to g0 z0 (x - k) n = fw_set g z fr to g0 z0 x n := by
      intro k
      induction k with
      | zero => intro _; rfl
      | succ k ih =>
        intro hk
        have h1 := all (x - k) (by omega) (ih (by omega))
        have h2 : fw_prev (x - k) = x - (k + 1) := by
          unfold fw_prev
          rw [if_neg (by omega)]
          omega
        rw [h2] at h1
        exact h1
    have h0 : fw_set g z fr to g0 z0 0 n = fw_set g z fr to g0 z0 x n := by
      have := down x (Nat.le_refl _)
      rwa [Nat.sub_self] at this
    have hlast : fw_set g z fr to g0 z0 1439 n = fw_set g z fr to g0 z0 x n := all 0 (by omega) h0
    have top : ∀ k, k ≤ 1439 → fw_set g z fr to g0 z0 (1439 - k) n = fw_set g z fr to g0 z0 x n := by
      intro k
      induction k with
      | zero => intro _; exact hlast
      | succ k ih =>
        intro hk
        have h1 := all (1439 - k) (by omega) (ih (by omega))
        have h2 : fw_prev (1439 - k) = 1439 - (k + 1) := by
          unfold fw_prev
          rw [if_neg (by omega)]
          omega
        rw [h2] at h1
        exact h1
    have hto := ht i0 hi0
    have heq := top (1439 - to i0) (by omega)
    rw [show 1439 - (1439 - to i0) = to i0 by omega] at heq
    have hbit : ∀ (m : Nat), i0 < m → m ≤ n → fw_set g z fr to g0 z0 (to i0) m % 2 ^ (i0 + 1) / 2 ^ i0 = 0 ∧ fw_set g z fr to g0 z0 x m % 2 ^ (i0 + 1) / 2 ^ i0 = 1 := by
      intro m
      induction m with
      | zero => intro h; omega
      | succ m ih =>
        intro h1 h2
        have lt : ∀ (y q : Nat), fw_set g z fr to g0 z0 y q < 2 ^ q := by
          intro y q
          induction q with
          | zero => simp [fw_set]
          | succ q ihq =>
            unfold fw_set
            rw [Nat.pow_succ]
            split <;> omega
        by_cases hm : i0 = m
        · subst hm
          have a1 := lt (to i0) i0
          have a2 := lt x i0
          have hp : 2 ^ (i0 + 1) = 2 ^ i0 * 2 := Nat.pow_succ 2 i0
          constructor
          · unfold fw_set
            rw [fw_never hto, Bool.and_false, if_neg (by decide), Nat.add_zero, Nat.mod_eq_of_lt (by omega), Nat.div_eq_of_lt a1]
          · unfold fw_set
            rw [e3, Bool.and_true, if_pos (decide_eq_true ⟨e1, e2⟩), Nat.mod_eq_of_lt (by omega)]
            rw [Nat.add_div_right _ (Nat.two_pow_pos _), Nat.div_eq_of_lt a2]
        · obtain ⟨b1, b2⟩ := ih (by omega) (by omega)
          have dv : ∀ c : Nat, (if c = 1 then 2 ^ m else 0) % 2 ^ (i0 + 1) = 0 := by
            intro c
            split
            · have : 2 ^ m = 2 ^ (i0 + 1) * 2 ^ (m - (i0 + 1)) := by rw [← Nat.pow_add]; congr 1; omega
              rw [this, Nat.mul_mod_right]
            · exact Nat.zero_mod _
          have st : ∀ y, fw_set g z fr to g0 z0 y (m + 1) % 2 ^ (i0 + 1) = fw_set g z fr to g0 z0 y m % 2 ^ (i0 + 1) := by
            intro y
            have e9 : fw_set g z fr to g0 z0 y (m + 1) = fw_set g z fr to g0 z0 y m + (if (decide (g m = g0 ∧ z m = z0) && fw_in (fr m) (to m) y) = true then 2 ^ m else 0) := rfl
            have hd : (if (decide (g m = g0 ∧ z m = z0) && fw_in (fr m) (to m) y) = true then 2 ^ m else 0) % 2 ^ (i0 + 1) = 0 := by
              split
              · have := dv 1
                simpa using this
              · exact Nat.zero_mod _
            rw [e9, Nat.add_mod, hd, Nat.add_zero, Nat.mod_mod]
          rw [st, st]
          exact ⟨b1, b2⟩
    obtain ⟨c1, c2⟩ := hbit n hi0 (Nat.le_refl _)
    rw [heq] at c1
    omega
  obtain ⟨u, hu, k1, k2⟩ := key
  have hd : ∃ i, i < n ∧ (decide (g i = g0 ∧ z i = z0) && fw_in (fr i) (to i) (fw_prev u)) ≠ (decide (g i = g0 ∧ z i = z0) && fw_in (fr i) (to i) u) := by
    refine Classical.byContradiction fun hn => k2 ?_
    rw [← k1]
    refine fw_set_eq (fun i hi => Classical.byContradiction fun h3 => hn ⟨i, hi, h3⟩)
  obtain ⟨i, hi, hne⟩ := hd
  have hg : g i = g0 ∧ z i = z0 := by
    refine Classical.byContradiction fun hc => hne ?_
    rw [decide_eq_false hc]
    rfl
  rw [decide_eq_true hg, Bool.true_and, Bool.true_and] at hne
  refine ⟨i, hi, ?_⟩
  rw [hg.1, hg.2, ← k1]
  rcases fw_edge (hf i hi) (ht i hi) hu (fun h => hne h.symm) with h | h
  · exact Or.inl (by rw [← h])
  · exact Or.inr (by rw [← h])
theorem fw_pig : ∀ (L M : List Nat), L.Nodup → (∀ x ∈ L, x ∈ M) → L.length ≤ M.length
  | [], _, _, _ => Nat.zero_le _
  | x :: t, M, hn, h => by
    have hx := h x List.mem_cons_self
    have h1 := fw_pig t (M.erase x) (List.nodup_cons.mp hn).2 (fun y hy => (List.mem_erase_of_ne (fun e => (List.nodup_cons.mp hn).1 (by rw [← e]; exact hy))).mpr (h y (List.mem_cons_of_mem _ hy)))
    rw [List.length_erase_of_mem hx] at h1
    have h2 := List.length_pos_of_mem hx
    simp only [List.length_cons]
    omega
/-- at most 2 n different needs -/
theorem fw_count {g z fr to : Nat → Nat} {n : Nat} (hf : ∀ i, i < n → fr i < 1440) (ht : ∀ i, i < n → to i < 1440) (L : List Nat) (hn : L.Nodup) (h : ∀ y ∈ L, y ≠ 0 ∧ ∃ g0 z0 x, x < 1440 ∧ y = fw_set g z fr to g0 z0 x n) : L.length ≤ 2 * n := by
  have h1 := fw_pig L ((List.range n).map (fun i => fw_set g z fr to (g i) (z i) (fr i) n) ++ (List.range n).map (fun i => fw_set g z fr to (g i) (z i) (to i) n)) hn (fun y hy => by
    obtain ⟨h0, g0, z0, x, hx, e⟩ := h y hy
    rw [e] at h0
    obtain ⟨i, hi, h2⟩ := fw_begin hf ht hx h0
    rw [e]
    rcases h2 with h2 | h2
    · exact List.mem_append.mpr (Or.inl (List.mem_map.mpr ⟨i, List.mem_range.mpr hi, h2.symm⟩))
    · exact List.mem_append.mpr (Or.inr (List.mem_map.mpr ⟨i, List.mem_range.mpr hi, h2.symm⟩)))
  simp at h1
  omega
