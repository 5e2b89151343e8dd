/-! THE CLASS: the fewest that meet the needs (printed by gen/comp26.py) -/
section CNE
variable {l : Launch} {s0 : State} {D : va_G} {ca : Nat → ClassId} {e0 : Nat} {H : Heap}
def lf (f : Nat → Nat) : Nat → Nat → List Nat
  | _, 0 => []
  | i, j + 1 => f i :: lf f (i + 1) j
theorem fw_can_c (s t f k sp w : Nat) (S : List Nat) : fw_can (s :: S) t f k sp w = if w ≤ k then (if s &&& t = 0 then (if s &&& f = 0 then false else if (s &&& f) &&& sp = 0 then fw_can S t f k (sp ||| (s &&& f)) (w + 1) else fw_can S t f k sp w) else fw_can S t f k sp w) else false := rfl
def ow : Option Nat → Int32
  | none => -1
  | some m => nI m
theorem fw_lw_lt {S : List Nat} {u t k m : Nat} (h : fw_lw S u t k = some m) (ht : t % 2 ^ u = 0) (hb : t + 2 ^ u ≤ 65536) : m < 65536 := by
  obtain ⟨⟨x, h1, -, h3, -⟩, -⟩ := (fw_lw_ok S u t k ht).1 m h
  omega
def fw_lo (S : List Nat) : Nat → Nat → Option Nat
  | _, 0 => none
  | i, j + 1 => match fw_lw S 16 0 i with | some m => some m | none => fw_lo S (i + 1) j

set_option maxRecDepth 20000 in
theorem j_Ne_canBeMet (hl : l.flags = flags0) (Z : cr_Z0 s0 D ca e0) {a sa n : Nat} {f : Nat → Nat} (h : va_at D kc (a, .inr (5, [.ref sa, .int (nI n)])) H) (h2 : va_at D kc (sa, .inl (ca 0, 32, .inl (fun i => nI (f i)))) H) (hf : ∀ i, i < n → f i < 65536) (hn : n ≤ 32) {t fr k : Nat} {x9 : Int32} (hx : x9 = nI fr) (hk : k < 2 ^ 31) : cr_c l s0 y_Ne_canBeMet cw_Ne_canBeMet 1 0 0 [.ref a, .int (nI t), .int x9, .int (nI k)] H (cr_pu (some (.int (cr_b (fw_can (lf f 0 n) t fr k 0 0)))) H) := by
  refine cr_enter (by decide +kernel) (Nat.le_of_ble_eq_true rfl) (fun hlo P9 E9 S9 M9 A9 B9 T9 C9 C hem hH => ?_)
  subst hx
  have loop : ∀ (j i sp w : Nat), i + j = n → w ≤ i → fw_can (lf f i j) t fr k sp w = fw_can (lf f 0 n) t fr k 0 0 → cr_G P9 l E9 (cr_rm 1 0 0) S9 M9 A9 B9 T9 C9 s0.heap.size 0 0 (cr_pu (some (.int (cr_b (fw_can (lf f 0 n) t fr k 0 0)))) H) 9 [some (.ref a), some (.int (nI t)), some (.int (nI fr)), some (.int (nI k)), some (.int (nI sp)), some (.int (nI w)), some (.int (nI i)), none] [] H 0 0 := by
    intro j
    induction j with
    | zero =>
      intro i sp w hj hwi hx9
      refine cr_vc [9] 90 (s_Ne_canBeMet hl Z C hem) (fun K hK => ?_)
      conv => whnf
      refine ⟨_, h, ?_⟩
      conv => whnf
      refine ⟨fun b15 => ?_, fun b15 => absurd (by rw [show i = n by omega]; exact Int32.le_refl _) b15⟩
      conv => whnf
      refine ⟨fun b81 => ?_, fun b81 => ?_⟩
      · conv => whnf
        exact ⟨rfl, cr_le rfl, cr_le rfl, (by rw [← hx9]; show _ = Sum.inl (some (Value.int (cr_b (decide (w ≤ k))))); rw [decide_eq_false (show ¬ w ≤ k from fun q => absurd b81 (nI_nlt q (by omega)))]; rfl), rfl⟩
      · conv => whnf
        exact ⟨rfl, cr_le rfl, cr_le rfl, (by rw [← hx9]; show _ = Sum.inl (some (Value.int (cr_b (decide (w ≤ k))))); rw [decide_eq_true (show w ≤ k from Nat.le_of_not_lt (fun q => b81 (nI_lt q (by omega))))]; rfl), rfl⟩
    | succ j ih =>
      intro i sp w hj hwi hx9
      have hfi := hf i (by omega)
      have E1 : nI (f i) &&& nI t = 0 ↔ f i &&& t = 0 := by rw [nb_and, nb_eq0 (Nat.lt_of_le_of_lt Nat.and_le_left (by omega))]
      have E2 : nI (f i &&& fr) = 0 ↔ f i &&& fr = 0 := nb_eq0 (Nat.lt_of_le_of_lt Nat.and_le_left (by omega))
      have E3 : nI (f i &&& fr) &&& nI sp = 0 ↔ f i &&& fr &&& sp = 0 := by rw [nb_and, nb_eq0 (Nat.lt_of_le_of_lt Nat.and_le_left (Nat.lt_of_le_of_lt Nat.and_le_left (by omega)))]
      refine cr_vc [9] 90 (s_Ne_canBeMet hl Z C hem) (fun K hK => ?_)
      conv => whnf
      refine ⟨_, h, ?_⟩
      conv => whnf
      refine ⟨fun b15 => absurd b15 (cr_nle (by omega) (by omega)), fun b15 => ?_⟩
      conv => whnf
      refine ⟨fun b21 => ?_, fun b21 => ?_⟩
      · have hw : ¬ w ≤ k := fun q => absurd b21 (nI_nlt q (by omega))
        conv => whnf
        refine ⟨fun b81 => ?_, fun b81 => absurd b21 b81⟩
        conv => whnf
        exact ⟨rfl, cr_le rfl, cr_le rfl, (by rw [← hx9, show fw_can (lf f i (j + 1)) t fr k sp w = _ from fw_can_c _ _ _ _ _ _ _, if_neg (show ¬ w ≤ k from hw)]; rfl), rfl⟩
      · have hw : w ≤ k := Nat.le_of_not_lt (fun q => b21 (nI_lt q (by omega)))
        conv => whnf
        refine ⟨_, h, ?_⟩
        conv => whnf
        refine ⟨_, _, _, h2, rfl, by omega, cr_le rfl, ?_⟩
        conv => whnf
        refine ⟨fun b33 => ?_, fun b33 => ?_⟩
        · conv => whnf
          refine ⟨cr_le rfl, ?_⟩
          conv => whnf
          exact hK _ _ _ _ _ _ (cr_G_fg (ih (i + 1) sp w (by omega) (by omega) (by rw [← hx9, show fw_can (lf f i (j + 1)) t fr k sp w = _ from fw_can_c _ _ _ _ _ _ _, if_pos (show w ≤ k from hw), if_neg (show ¬ f i &&& t = 0 from fun q => b33 (E1.mpr q))])) ⟨rfl, rfl, rfl, rfl, rfl, rfl, (show Value.int (nI (i + 1)) = Value.int (nI i + 1) by rw [nI_1]), trivial⟩)
        · conv => whnf
          refine ⟨_, h, ?_⟩
          conv => whnf
          refine ⟨_, _, _, h2, rfl, by omega, cr_le rfl, ?_⟩
          conv => whnf
          refine ⟨cr_le rfl, ?_⟩
          rw [nb_and]
          conv => whnf
          refine ⟨fun b49 => ?_, fun b49 => ?_⟩
          · conv => whnf
            refine ⟨fun b59 => ?_, fun b59 => ?_⟩
            · conv => whnf
              refine ⟨cr_le rfl, ?_⟩
              conv => whnf
              exact hK _ _ _ _ _ _ (cr_G_fg (ih (i + 1) sp w (by omega) (by omega) (by rw [← hx9, show fw_can (lf f i (j + 1)) t fr k sp w = _ from fw_can_c _ _ _ _ _ _ _, if_pos (show w ≤ k from hw), if_pos (show f i &&& t = 0 from E1.mp b33), if_neg (show ¬ f i &&& fr = 0 from fun q => b49 (E2.mpr q)), if_neg (show ¬ f i &&& fr &&& sp = 0 from fun q => b59 (E3.mpr q))])) ⟨rfl, rfl, rfl, rfl, rfl, rfl, (show Value.int (nI (i + 1)) = Value.int (nI i + 1) by rw [nI_1]), trivial⟩)
            · conv => whnf
              refine ⟨cr_le rfl, ?_⟩
              rw [nb_or]
              conv => whnf
              refine ⟨cr_le rfl, ?_⟩
              conv => whnf
              refine ⟨cr_le rfl, ?_⟩
              conv => whnf
              exact hK _ _ _ _ _ _ (cr_G_fg (ih (i + 1) (sp ||| (f i &&& fr)) (w + 1) (by omega) (by omega) (by rw [← hx9, show fw_can (lf f i (j + 1)) t fr k sp w = _ from fw_can_c _ _ _ _ _ _ _, if_pos (show w ≤ k from hw), if_pos (show f i &&& t = 0 from E1.mp b33), if_neg (show ¬ f i &&& fr = 0 from fun q => b49 (E2.mpr q)), if_pos (show f i &&& fr &&& sp = 0 from E3.mp b59)])) ⟨rfl, rfl, rfl, rfl, rfl, (show Value.int (nI (w + 1)) = Value.int (nI w + 1) by rw [nI_1]), (show Value.int (nI (i + 1)) = Value.int (nI i + 1) by rw [nI_1]), trivial⟩)
          · conv => whnf
            exact ⟨rfl, cr_le rfl, cr_le rfl, (by rw [← hx9, show fw_can (lf f i (j + 1)) t fr k sp w = _ from fw_can_c _ _ _ _ _ _ _, if_pos (show w ≤ k from hw), if_pos (show f i &&& t = 0 from E1.mp b33), if_pos (show f i &&& fr = 0 from E2.mp b49)]; rfl), rfl⟩
  refine cr_vc [9] 120 (s_Ne_canBeMet hl Z C hem) (fun K hK => ?_)
  conv => whnf
  refine ⟨cr_le rfl, ?_⟩
  conv => whnf
  refine ⟨cr_le rfl, ?_⟩
  conv => whnf
  refine ⟨cr_le rfl, ?_⟩
  conv => whnf
  exact hK _ _ _ _ _ _ (loop n 0 0 0 (by omega) (by omega) rfl)
set_option maxRecDepth 20000 in
theorem j_Ne_leastWith (hl : l.flags = flags0) (Z : cr_Z0 s0 D ca e0) {a sa n : Nat} {f : Nat → Nat} (h : va_at D kc (a, .inr (5, [.ref sa, .int (nI n)])) H) (h2 : va_at D kc (sa, .inl (ca 0, 32, .inl (fun i => nI (f i)))) H) (hf : ∀ i, i < n → f i < 65536) (hn : n ≤ 32) : ∀ (u t k : Nat) (X K9 : Int32), X = nI t → K9 = nI k → t % 2 ^ u = 0 → t + 2 ^ u ≤ 65536 → k < 2 ^ 31 → cr_c l s0 y_Ne_leastWith cw_Ne_leastWith (u + 2) 0 0 [.ref a, .int X, .int (nI u), .int K9] H (cr_pu (some (.int (ow (fw_lw (lf f 0 n) u t k)))) H) := by
  intro u
  induction u with
  | zero =>
    intro t k X K9 hX hK9 ht htb hk
    subst hX
    subst hK9
    refine cr_enter (by decide +kernel) (Nat.le_of_ble_eq_true rfl) (fun hlo P9 E9 S9 M9 A9 B9 T9 C9 C hem hH => ?_)
    refine cr_vc [] 120 (s_Ne_leastWith hl Z C hem) (fun K hK => ?_)
    conv => whnf
    refine ⟨rfl, ?_⟩
    conv => whnf
    refine ⟨_, h, _, _, _, _, j_Ne_canBeMet (fr := 2 ^ 0 - 1) hl Z h h2 hf hn (nb_shl1 (by omega)) hk, Nat.le_refl _, cr_le rfl, cr_le rfl, cr_le rfl, fun v8 H8 q8 _ => ?_, fun kd H9 q9 _ => by cases q9.1⟩
    obtain ⟨q8a, q8b⟩ := q8
    cases q8a
    replace q8b := q8b.symm
    subst q8b
    conv => whnf
    refine ⟨fun b11 => ?_, fun b11 => ?_⟩
    · conv => whnf
      refine ⟨fun b17 => ?_, fun b17 => absurd (show nI 0 ≤ 0 by decide) b17⟩
      conv => whnf
      exact ⟨cr_le rfl, cr_le rfl, (by unfold fw_lw; rw [if_pos (show fw_can (lf f 0 n) t 0 k 0 0 = true from cr_bt b11)]; rfl), rfl⟩
    · conv => whnf
      exact ⟨cr_le rfl, cr_le rfl, (by unfold fw_lw; rw [if_neg (show ¬ fw_can (lf f 0 n) t 0 k 0 0 = true from fun q => by rw [show fw_can (lf f 0 n) t 0 k 0 0 = false from cr_bf b11] at q; cases q)]; rfl), rfl⟩
  | succ u ih =>
    intro t k X K9 hX hK9 ht htb hk
    subst hX
    subst hK9
    have hp := Nat.pow_succ 2 u
    have hpp := Nat.two_pow_pos u
    have hu16 : u < 30 := by
      refine Nat.lt_of_not_le (fun q => ?_)
      have := Nat.pow_le_pow_right (show 0 < 2 by decide) q
      omega
    have ht0 : t % 2 ^ u = 0 := by
      have h3 := Nat.mod_mul_right_mod t (2 ^ u) 2
      rw [← hp, ht] at h3
      simpa using h3.symm
    have ht1 : (t + 2 ^ u) % 2 ^ u = 0 := by rw [Nat.add_mod_right]; exact ht0
    have eor : nI t ||| (1 <<< (nI u &&& 31)) = nI (t + 2 ^ u) := by
      rw [nb_shl (by omega), nb_or, fw_or (u := u + 1) ht (by omega)]
    have ek : 0 < nI k → nI k - 1 = nI (k - 1) := fun q => by
      have hk0 : k ≠ 0 := fun q9 => by
        rw [q9] at q
        exact absurd q (by decide)
      have := cr_p1 (k - 1)
      rw [show k - 1 + 1 = k by omega] at this
      exact this
    refine cr_enter (by decide +kernel) (Nat.le_of_ble_eq_true rfl) (fun hlo P9 E9 S9 M9 A9 B9 T9 C9 C hem hH => ?_)
    refine cr_vc [] 120 (s_Ne_leastWith hl Z C hem) (fun K hK => ?_)
    conv => whnf
    refine ⟨rfl, ?_⟩
    conv => whnf
    refine ⟨_, h, _, _, _, _, j_Ne_canBeMet (fr := 2 ^ (u + 1) - 1) hl Z h h2 hf hn (nb_shl1 (by omega)) hk, by omega, cr_le rfl, cr_le rfl, cr_le rfl, fun v8 H8 q8 _ => ?_, fun kd H9 q9 _ => by cases q9.1⟩
    obtain ⟨q8a, q8b⟩ := q8
    cases q8a
    replace q8b := q8b.symm
    subst q8b
    conv => whnf
    refine ⟨fun b11 => ?_, fun b11 => ?_⟩
    · conv => whnf
      refine ⟨fun b17 => absurd b17 (show ¬ nI (u + 1) ≤ nI 0 from cr_nle (by omega) (by omega)), fun b17 => ?_⟩
      conv => whnf
      refine ⟨fun b21 => ?_, fun b21 => ?_⟩
      · conv => whnf
        refine ⟨cr_le rfl, ?_⟩
        rw [cr_p1]
        conv => whnf
        refine ⟨rfl, ?_⟩
        conv => whnf
        refine ⟨_, h, _, _, _, _, ih t k _ _ rfl rfl ht0 (by omega) hk, Nat.le_refl _, cr_le rfl, cr_le rfl, cr_le rfl, fun v36 H36 q36 _ => ?_, fun kd H9 q9 _ => by cases q9.1⟩
        obtain ⟨q36a, q36b⟩ := q36
        cases q36a
        replace q36b := q36b.symm
        subst q36b
        conv => whnf
        refine ⟨cr_le rfl, ?_⟩
        conv => whnf
        refine ⟨fun b44 => ?_, fun b44 => ?_⟩
        · conv => whnf
          refine ⟨rfl, ?_⟩
          conv => whnf
          refine ⟨_, h, _, _, _, _, ih (t + 2 ^ u) (k - 1) _ _ (eor) (ek b21) ht1 (by omega) (by omega), Nat.le_refl _, cr_le rfl, cr_le rfl, cr_le rfl, fun v64 H64 q64 _ => ?_, fun kd H9 q9 _ => by cases q9.1⟩
          obtain ⟨q64a, q64b⟩ := q64
          cases q64a
          replace q64b := q64b.symm
          subst q64b
          conv => whnf
          have hk0 : k ≠ 0 := fun q => by
            rw [q] at b21
            exact absurd b21 (by decide)
          cases hl9 : fw_lw (lf f 0 n) u t k with
          | none => exact ⟨cr_le rfl, cr_le rfl, (by rw [show fw_lw (lf f 0 n) (u + 1) t k = if fw_can (lf f 0 n) t (2 ^ (u + 1) - 1) k 0 0 = true then (if k = 0 then some t else match fw_lw (lf f 0 n) u t k with | some x => some x | none => fw_lw (lf f 0 n) u (t + 2 ^ u) (k - 1)) else none from rfl, if_pos (show fw_can (lf f 0 n) t (2 ^ (u + 1) - 1) k 0 0 = true from cr_bt b11), if_neg hk0, hl9]; try rfl), rfl⟩
          | some x =>
            rw [hl9] at b44
            exact absurd b44 (fun q => absurd (show nI x < 0 by rw [show nI x = -1 from q]; decide) (nI_pos (by have := fw_lw_lt hl9 ht0 (by omega); omega)))
        · conv => whnf
          have hk0 : k ≠ 0 := fun q => by
            rw [q] at b21
            exact absurd b21 (by decide)
          cases hl9 : fw_lw (lf f 0 n) u t k with
          | none => exact absurd (by rw [hl9]; rfl) b44
          | some x => exact ⟨cr_le rfl, cr_le rfl, (by rw [show fw_lw (lf f 0 n) (u + 1) t k = if fw_can (lf f 0 n) t (2 ^ (u + 1) - 1) k 0 0 = true then (if k = 0 then some t else match fw_lw (lf f 0 n) u t k with | some x => some x | none => fw_lw (lf f 0 n) u (t + 2 ^ u) (k - 1)) else none from rfl, if_pos (show fw_can (lf f 0 n) t (2 ^ (u + 1) - 1) k 0 0 = true from cr_bt b11), if_neg hk0, hl9]; try rfl), rfl⟩
      · conv => whnf
        exact ⟨cr_le rfl, cr_le rfl, (by rw [show fw_lw (lf f 0 n) (u + 1) t k = if fw_can (lf f 0 n) t (2 ^ (u + 1) - 1) k 0 0 = true then (if k = 0 then some t else match fw_lw (lf f 0 n) u t k with | some x => some x | none => fw_lw (lf f 0 n) u (t + 2 ^ u) (k - 1)) else none from rfl, if_pos (show fw_can (lf f 0 n) t (2 ^ (u + 1) - 1) k 0 0 = true from cr_bt b11), if_pos (show k = 0 from (by
          rcases Nat.eq_zero_or_pos k with q | q
          · exact q
          · exact absurd (show nI 0 < nI k from nI_lt q hk) b21))]; rfl), rfl⟩
    · conv => whnf
      exact ⟨cr_le rfl, cr_le rfl, (by rw [show fw_lw (lf f 0 n) (u + 1) t k = if fw_can (lf f 0 n) t (2 ^ (u + 1) - 1) k 0 0 = true then (if k = 0 then some t else match fw_lw (lf f 0 n) u t k with | some x => some x | none => fw_lw (lf f 0 n) u (t + 2 ^ u) (k - 1)) else none from rfl, if_neg (show ¬ fw_can (lf f 0 n) t (2 ^ (u + 1) - 1) k 0 0 = true from fun q => by rw [show fw_can (lf f 0 n) t (2 ^ (u + 1) - 1) k 0 0 = false from cr_bf b11] at q; cases q)]; rfl), rfl⟩
set_option maxRecDepth 20000 in
theorem j_Ne_leastOfTheFewest (hl : l.flags = flags0) (Z : cr_Z0 s0 D ca e0) {a sa n : Nat} {f : Nat → Nat} (h : va_at D kc (a, .inr (5, [.ref sa, .int (nI n)])) H) (h2 : va_at D kc (sa, .inl (ca 0, 32, .inl (fun i => nI (f i)))) H) (hf : ∀ i, i < n → f i < 65536) (hn : n ≤ 32) : cr_c l s0 y_Ne_leastOfTheFewest cw_Ne_leastOfTheFewest 19 0 0 [.ref a] H (cr_pu (some (.int (ow (fw_lo (lf f 0 n) 0 17)))) H) := by
  refine cr_enter (by decide +kernel) (Nat.le_of_ble_eq_true rfl) (fun hlo P9 E9 S9 M9 A9 B9 T9 C9 C hem hH => ?_)
  have stop : ∀ (i m : Nat), m < 2 ^ 31 → i ≤ 17 → fw_lo (lf f 0 n) 0 17 = some m → cr_G P9 l E9 (cr_rm 19 0 0) S9 M9 A9 B9 T9 C9 s0.heap.size 0 0 (cr_pu (some (.int (ow (fw_lo (lf f 0 n) 0 17)))) H) 4 [some (.ref a), some (.int (nI m)), some (.int (nI i))] [] H 0 0 := by
    intro i m hm hi hv
    refine cr_vc [4] 90 (s_Ne_leastOfTheFewest hl Z C hem) (fun K hK => ?_)
    conv => whnf
    refine ⟨fun b7 => ?_, fun b7 => ?_⟩
    · conv => whnf
      exact ⟨cr_le rfl, cr_le rfl, (by rw [hv]; rfl), rfl⟩
    · conv => whnf
      refine ⟨fun b12 => ?_, fun b12 => absurd (show nI m = -1 from b12) (fun q => absurd (show nI m < 0 by rw [q]; decide) (nI_pos hm))⟩
      conv => whnf
      exact ⟨cr_le rfl, cr_le rfl, (by rw [hv]; rfl), rfl⟩
  have loop : ∀ (j i : Nat), i + j = 17 → fw_lo (lf f 0 n) i j = fw_lo (lf f 0 n) 0 17 → cr_G P9 l E9 (cr_rm 19 0 0) S9 M9 A9 B9 T9 C9 s0.heap.size 0 0 (cr_pu (some (.int (ow (fw_lo (lf f 0 n) 0 17)))) H) 4 [some (.ref a), some (.int (-1)), some (.int (nI i))] [] H 0 0 := by
    intro j
    induction j with
    | zero =>
      intro i hj hx9
      refine cr_vc [4] 90 (s_Ne_leastOfTheFewest hl Z C hem) (fun K hK => ?_)
      conv => whnf
      refine ⟨fun b7 => ?_, fun b7 => absurd (show nI 16 < nI i from nI_lt (by omega) (by omega)) b7⟩
      conv => whnf
      exact ⟨cr_le rfl, cr_le rfl, (by rw [← hx9]; rfl), rfl⟩
    | succ j ih =>
      intro i hj hx9
      refine cr_vc [4] 90 (s_Ne_leastOfTheFewest hl Z C hem) (fun K hK => ?_)
      conv => whnf
      refine ⟨fun b7 => absurd b7 (show ¬ nI 16 < nI i from nI_nlt (by omega) (by omega)), fun b7 => ?_⟩
      conv => whnf
      refine ⟨fun b12 => absurd rfl b12, fun b12 => ?_⟩
      conv => whnf
      refine ⟨rfl, ?_⟩
      conv => whnf
      refine ⟨_, h, _, _, _, _, j_Ne_leastWith hl Z h h2 hf hn 16 0 i _ _ rfl rfl rfl (by decide) (by omega), by decide, cr_le rfl, cr_le rfl, cr_le rfl, fun v20 H20 q20 _ => ?_, fun kd H9 q9 _ => by cases q9.1⟩
      obtain ⟨q20a, q20b⟩ := q20
      cases q20a
      replace q20b := q20b.symm
      subst q20b
      conv => whnf
      refine ⟨cr_le rfl, ?_⟩
      conv => whnf
      refine ⟨cr_le rfl, ?_⟩
      conv => whnf
      cases hl9 : fw_lw (lf f 0 n) 16 0 i with
      | none => exact hK _ _ _ _ _ _ (cr_G_fg (ih (i + 1) (by omega) (by rw [← hx9]; show _ = (match fw_lw (lf f 0 n) 16 0 i with | some m => some m | none => fw_lo (lf f 0 n) (i + 1) j); rw [hl9])) ⟨rfl, rfl, (show Value.int (nI (i + 1)) = Value.int (nI i + 1) by rw [nI_1]), trivial⟩)
      | some m => exact hK _ _ _ _ _ _ (cr_G_fg (stop (i + 1) m (by have := fw_lw_lt hl9 rfl (by decide); omega) (by omega) (by rw [← hx9]; show (match fw_lw (lf f 0 n) 16 0 i with | some m => some m | none => fw_lo (lf f 0 n) (i + 1) j) = _; rw [hl9])) ⟨rfl, rfl, (show Value.int (nI (i + 1)) = Value.int (nI i + 1) by rw [nI_1]), trivial⟩)
  refine cr_vc [4] 120 (s_Ne_leastOfTheFewest hl Z C hem) (fun K hK => ?_)
  conv => whnf
  refine ⟨cr_le rfl, ?_⟩
  conv => whnf
  refine ⟨cr_le rfl, ?_⟩
  conv => whnf
  exact hK _ _ _ _ _ _ (loop 17 0 (by omega) rfl)
end CNE
