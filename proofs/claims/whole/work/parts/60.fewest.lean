/-! THE FEWEST RIGHTS, as numbers: S the needs (bit sets), t what is taken (bits from u on), u how many are undecided, k how many more may be taken -/
def fw_pc (x : Nat) : Nat → Nat
  | 0 => 0
  | n + 1 => fw_pc x n + (if x.testBit n = true then 1 else 0)
theorem fw_pc_le {x y : Nat} (h : ∀ i, x.testBit i = true → y.testBit i = true) : ∀ n, fw_pc x n ≤ fw_pc y n
  | 0 => Nat.le_refl _
  | n + 1 => by
    have h1 := fw_pc_le h n
    unfold fw_pc
    by_cases hx : x.testBit n = true
    · rw [if_pos hx, if_pos (h n hx)]
      omega
    · rw [if_neg hx]
      omega
theorem fw_pc_add {x a b : Nat} (h : a &&& b = 0) : ∀ n, fw_pc (x &&& (a ||| b)) n = fw_pc (x &&& a) n + fw_pc (x &&& b) n
  | 0 => rfl
  | n + 1 => by
    have h1 := fw_pc_add (x := x) h n
    have h2 : (a.testBit n && b.testBit n) = false := by rw [← Nat.testBit_and, h]; exact Nat.zero_testBit n
    unfold fw_pc
    rw [h1]
    simp only [Nat.testBit_and, Nat.testBit_or]
    cases hx : x.testBit n <;> cases ha : a.testBit n <;> cases hb : b.testBit n <;> simp [ha, hb] at h2 ⊢ <;> omega
theorem fw_pc_pos {x : Nat} {i : Nat} (hi : x.testBit i = true) : ∀ n, i < n → 1 ≤ fw_pc x n
  | 0, h => by omega
  | n + 1, h => by
    unfold fw_pc
    by_cases hn : i = n
    · subst hn
      rw [if_pos hi]
      omega
    · have := fw_pc_pos hi n (by omega)
      omega
theorem fw_bit {x : Nat} (h : x ≠ 0) : ∃ i, x.testBit i = true := by
  refine Classical.byContradiction fun hn => h (Nat.eq_of_testBit_eq fun i => ?_)
  rw [Nat.zero_testBit]
  cases hb : x.testBit i with
  | false => rfl
  | true => exact absurd ⟨i, hb⟩ hn
theorem fw_pc_zero {x : Nat} : ∀ {n : Nat}, fw_pc x n = 0 → ∀ i, i < n → x.testBit i = false
  | 0, _, i, hi => by omega
  | n + 1, h, i, hi => by
    unfold fw_pc at h
    by_cases hn : i = n
    · subst hn
      cases hb : x.testBit i with
      | false => rfl
      | true => rw [if_pos hb] at h; omega
    · exact fw_pc_zero (n := n) (by omega) i (by omega)
/-- the bound -/
def fw_can : List Nat → Nat → Nat → Nat → Nat → Nat → Bool
  | [], _, _, k, _, w => decide (w ≤ k)
  | s :: S, t, f, k, sp, w => if w ≤ k then (if s &&& t = 0 then (if s &&& f = 0 then false else if (s &&& f) &&& sp = 0 then fw_can S t f k (sp ||| (s &&& f)) (w + 1) else fw_can S t f k sp w) else fw_can S t f k sp w) else false
def fw_meet (S : List Nat) (m : Nat) : Prop := ∀ s ∈ S, s &&& m ≠ 0
theorem fw_lt_bit {x u i : Nat} (hx : x < 2 ^ u) (hi : x.testBit i = true) : i < u := by
  refine Nat.lt_of_not_le fun h => ?_
  have h1 : x < 2 ^ i := Nat.lt_of_lt_of_le hx (Nat.pow_le_pow_right (by omega) h)
  rw [Nat.testBit_lt_two_pow h1] at hi
  cases hi
theorem fw_can_ok {t u k x : Nat} (hx : x < 2 ^ u) (hk : fw_pc x u ≤ k) : ∀ (S : List Nat) (sp w : Nat), fw_meet S (t ||| x) → w ≤ fw_pc (x &&& sp) u → fw_can S t (2 ^ u - 1) k sp w = true
  | [], sp, w, _, hw => by
    have h1 : fw_pc (x &&& sp) u ≤ fw_pc x u := fw_pc_le (fun i h => by rw [Nat.testBit_and] at h; simp at h; exact h.1) u
    unfold fw_can
    exact decide_eq_true (by omega)
  | s :: S, sp, w, hm, hw => by
    have h1 : fw_pc (x &&& sp) u ≤ fw_pc x u := fw_pc_le (fun i h => by rw [Nat.testBit_and] at h; simp at h; exact h.1) u
    have hS : fw_meet S (t ||| x) := fun y hy => hm y (List.mem_cons_of_mem _ hy)
    unfold fw_can
    rw [if_pos (by omega)]
    by_cases hst : s &&& t = 0
    · rw [if_pos hst]
      obtain ⟨i, hi⟩ := fw_bit (hm s List.mem_cons_self)
      simp only [Nat.testBit_and, Nat.testBit_or, Bool.and_eq_true, Bool.or_eq_true] at hi
      have hxi : x.testBit i = true := by
        rcases hi.2 with h | h
        · have h9 : (s &&& t).testBit i = true := by rw [Nat.testBit_and, hi.1, h]; rfl
          rw [hst, Nat.zero_testBit] at h9
          cases h9
        · exact h
      have hiu := fw_lt_bit hx hxi
      have hci : (s &&& (2 ^ u - 1)).testBit i = true := by
        rw [Nat.testBit_and, hi.1, Nat.testBit_two_pow_sub_one]
        simp [hiu]
      rw [if_neg (fun h => by rw [h, Nat.zero_testBit] at hci; cases hci)]
      by_cases hsp : (s &&& (2 ^ u - 1)) &&& sp = 0
      · rw [if_pos hsp]
        refine fw_can_ok hx hk S _ _ hS ?_
        have h2 : sp &&& (s &&& (2 ^ u - 1)) = 0 := by rw [Nat.and_comm]; exact hsp
        rw [fw_pc_add h2 u]
        have h3 : 1 ≤ fw_pc (x &&& (s &&& (2 ^ u - 1))) u := fw_pc_pos (i := i) (by rw [Nat.testBit_and, hxi, hci]; rfl) u hiu
        omega
      · rw [if_neg hsp]
        exact fw_can_ok hx hk S _ _ hS hw
    · rw [if_neg hst]
      exact fw_can_ok hx hk S _ _ hS hw
theorem fw_can_0 {t f : Nat} : ∀ (S : List Nat) (sp : Nat), fw_can S t f 0 sp 0 = true → sp = 0 → fw_meet S t
  | [], _, _, _ => fun s hs => by cases hs
  | s :: S, sp, h, hsp => by
    subst hsp
    unfold fw_can at h
    rw [if_pos (Nat.le_refl _)] at h
    by_cases hst : s &&& t = 0
    · rw [if_pos hst] at h
      by_cases hc : s &&& f = 0
      · rw [if_pos hc] at h; cases h
      · rw [if_neg hc, if_pos (Nat.and_zero _)] at h
        cases S with
        | nil => simp [fw_can] at h
        | cons a b => simp [fw_can] at h
    · rw [if_neg hst] at h
      have h1 := fw_can_0 S 0 h rfl
      intro y hy
      rcases List.mem_cons.mp hy with rfl | hy
      · exact hst
      · exact h1 y hy
theorem fw_can_f0 {t k : Nat} : ∀ (S : List Nat) (sp w : Nat), fw_can S t 0 k sp w = true → fw_meet S t
  | [], _, _, _ => fun s hs => by cases hs
  | s :: S, sp, w, h => by
    unfold fw_can at h
    by_cases hw : w ≤ k
    · rw [if_pos hw] at h
      by_cases hst : s &&& t = 0
      · rw [if_pos hst, if_pos (Nat.and_zero _)] at h
        cases h
      · rw [if_neg hst] at h
        have h1 := fw_can_f0 S sp w h
        intro y hy
        rcases List.mem_cons.mp hy with rfl | hy
        · exact hst
        · exact h1 y hy
    · rw [if_neg hw] at h
      cases h
def fw_lw (S : List Nat) : Nat → Nat → Nat → Option Nat
  | 0, t, k => if fw_can S t 0 k 0 0 = true then some t else none
  | u + 1, t, k => if fw_can S t (2 ^ (u + 1) - 1) k 0 0 = true then (if k = 0 then some t else match fw_lw S u t k with | some x => some x | none => fw_lw S u (t + 2 ^ u) (k - 1)) else none
/-- m takes what is taken, and of the undecided at most k more, and meets all -/
def fw_val (S : List Nat) (t u k m : Nat) : Prop := ∃ x, x < 2 ^ u ∧ fw_pc x u ≤ k ∧ m = t + x ∧ fw_meet S m
theorem fw_or {t u x : Nat} (ht : t % 2 ^ u = 0) (hx : x < 2 ^ u) : t + x = t ||| x := by
  have h1 : t = 2 ^ u * (t / 2 ^ u) := by
    have := Nat.div_add_mod t (2 ^ u)
    omega
  rw [h1, Nat.two_pow_add_eq_or_of_lt hx]
theorem fw_pc_lt {x : Nat} : ∀ {n : Nat}, x < 2 ^ n → fw_pc x (n + 1) = fw_pc x n := fun {n} h => by
  show fw_pc x n + (if x.testBit n = true then 1 else 0) = fw_pc x n
  rw [Nat.testBit_lt_two_pow h]
  simp
theorem fw_pc_mod (x : Nat) : ∀ (n u : Nat), n ≤ u → fw_pc (x % 2 ^ u) n = fw_pc x n
  | 0, _, _ => rfl
  | n + 1, u, h => by
    unfold fw_pc
    rw [fw_pc_mod x n u (by omega), Nat.testBit_mod_two_pow]
    simp [show n < u by omega]
theorem fw_pc_hi {x u : Nat} (hx : x < 2 ^ u) : fw_pc (2 ^ u + x) (u + 1) = fw_pc x u + 1 := by
  have h1 : (2 ^ u + x).testBit u = true := by
    rw [Nat.testBit_two_pow_add_eq, Nat.testBit_lt_two_pow hx]
    rfl
  show fw_pc (2 ^ u + x) u + (if (2 ^ u + x).testBit u = true then 1 else 0) = _
  rw [if_pos h1, ← fw_pc_mod (2 ^ u + x) u u (Nat.le_refl _), Nat.add_mod_left, Nat.mod_eq_of_lt hx]
theorem fw_pc_00 : ∀ n, fw_pc 0 n = 0
  | 0 => rfl
  | n + 1 => by
    unfold fw_pc
    rw [fw_pc_00 n]
    simp
theorem fw_lw_ok (S : List Nat) : ∀ (u t k : Nat), t % 2 ^ u = 0 → (∀ m, fw_lw S u t k = some m → fw_val S t u k m ∧ ∀ m', fw_val S t u k m' → m ≤ m') ∧ (fw_lw S u t k = none → ∀ m, ¬ fw_val S t u k m)
  | 0, t, k, ht => by
    unfold fw_lw
    refine ⟨fun m h => ?_, fun h m hv => ?_⟩
    · by_cases hc : fw_can S t 0 k 0 0 = true
      · rw [if_pos hc] at h
        cases h
        exact ⟨⟨0, by simp, by simp [fw_pc], rfl, fw_can_f0 S 0 0 hc⟩, fun m' ⟨x, h1, _, h3, _⟩ => by omega⟩
      · rw [if_neg hc] at h
        cases h
    · obtain ⟨x, h1, h2, h3, h4⟩ := hv
      have hx : x = 0 := by simpa using h1
      subst hx
      have hc : fw_can S t (2 ^ 0 - 1) k 0 0 = true := fw_can_ok (u := 0) (x := 0) (by simp) h2 S 0 0 (by rw [Nat.or_zero]; rw [Nat.add_zero] at h3; rw [← h3]; exact h4) (Nat.zero_le _)
      rw [if_pos hc] at h
      cases h
  | u + 1, t, k, ht => by
    have ht0 : t % 2 ^ u = 0 := by
      have h2 : 2 ^ (u + 1) = 2 ^ u * 2 := Nat.pow_succ 2 u
      have h3 := Nat.mod_mul_right_mod t (2 ^ u) 2
      rw [← h2, ht] at h3
      simpa using h3.symm
    have ht1 : (t + 2 ^ u) % 2 ^ u = 0 := by rw [Nat.add_mod_right]; exact ht0
    have can : ∀ m, fw_val S t (u + 1) k m → fw_can S t (2 ^ (u + 1) - 1) k 0 0 = true := fun m ⟨x, h1, h2, h3, h4⟩ =>
      fw_can_ok h1 h2 S 0 0 (by rw [← fw_or ht h1, ← h3]; exact h4) (Nat.zero_le _)
    obtain ⟨a1, a2⟩ := fw_lw_ok S u t k ht0
    obtain ⟨b1, b2⟩ := fw_lw_ok S u (t + 2 ^ u) (k - 1) ht1
    have up : ∀ m, fw_val S t u k m → fw_val S t (u + 1) k m := fun m ⟨x, h1, h2, h3, h4⟩ => ⟨x, Nat.lt_of_lt_of_le h1 (Nat.pow_le_pow_right (by omega) (by omega)), by rw [fw_pc_lt h1]; exact h2, h3, h4⟩
    have up2 : k ≠ 0 → ∀ m, fw_val S (t + 2 ^ u) u (k - 1) m → fw_val S t (u + 1) k m := fun hk m ⟨x, h1, h2, h3, h4⟩ => ⟨2 ^ u + x, by rw [Nat.pow_succ]; omega, by rw [fw_pc_hi h1]; omega, by omega, h4⟩
    have dn : ∀ m, fw_val S t (u + 1) k m → fw_val S t u k m ∨ (k ≠ 0 ∧ fw_val S (t + 2 ^ u) u (k - 1) m) := by
      intro m ⟨x, h1, h2, h3, h4⟩
      by_cases hx : x < 2 ^ u
      · exact Or.inl ⟨x, hx, by rw [fw_pc_lt hx] at h2; exact h2, h3, h4⟩
      · have h5 : x - 2 ^ u < 2 ^ u := by rw [Nat.pow_succ] at h1; omega
        have h6 : x = 2 ^ u + (x - 2 ^ u) := by omega
        rw [h6, fw_pc_hi h5] at h2
        exact Or.inr ⟨by omega, x - 2 ^ u, h5, by omega, by omega, h4⟩
    unfold fw_lw
    by_cases hc : fw_can S t (2 ^ (u + 1) - 1) k 0 0 = true
    · rw [if_pos hc]
      by_cases hk : k = 0
      · rw [if_pos hk]
        subst hk
        refine ⟨fun m h => ?_, fun h => by cases h⟩
        cases h
        exact ⟨⟨0, Nat.two_pow_pos _, by rw [fw_pc_00]; omega, rfl, fw_can_0 S 0 hc rfl⟩, fun m' ⟨x, _, _, h3, _⟩ => by omega⟩
      · rw [if_neg hk]
        cases hl : fw_lw S u t k with
        | some x =>
          obtain ⟨v1, v2⟩ := a1 x hl
          refine ⟨fun m h => ?_, fun h => by cases h⟩
          cases h
          refine ⟨up x v1, fun m' hm' => ?_⟩
          rcases dn m' hm' with h | ⟨-, h⟩
          · exact v2 m' h
          · obtain ⟨x1, g1, -, g3, -⟩ := v1
            obtain ⟨x2, k1, -, k3, -⟩ := h
            omega
        | none =>
          have hno := a2 hl
          refine ⟨fun m h => ?_, fun h m hm => ?_⟩
          · obtain ⟨v1, v2⟩ := b1 m h
            refine ⟨up2 hk m v1, fun m' hm' => ?_⟩
            rcases dn m' hm' with h' | ⟨-, h'⟩
            · exact absurd h' (hno m')
            · exact v2 m' h'
          · rcases dn m hm with h' | ⟨-, h'⟩
            · exact hno m h'
            · exact b2 h m h'
    · rw [if_neg hc]
      exact ⟨fun m h => (by cases h), fun _ m hm => hc (can m hm)⟩
