/-! CONTRACTS, the library's lists -/
abbrev cr_c (l : Launch) (s0 : State) (y : MethodName) (cw : Cond) (d mc ms : Nat) (av : List Value) (H : Heap) (Q : cr_Q) : Prop := cr_M l (cr_W0 s0) s0.heap.size y cw d mc ms av H Q
abbrev cr_pu (v : Option Value) (H : Heap) : cr_Q := fun o H' => o = .inl v ∧ H' = H
/-- a call that changes nothing and throws nothing -/
theorem cr_aft {l : Launch} {U : State → Prop} {lo : Nat} {y : MethodName} {cw : Cond} {d mc ms d' mc' ms' nx : Nat} {K : cr_K} {Q : cr_Q} {lv : cr_Lv} {av r : List Value} {H : Heap} {k n : Nat} {v : Option Value}
    (hM : cr_M l U lo y cw d' mc' ms' av H (cr_pu v H)) (h1 : d' + 1 ≤ d) (h2 : k + mc' ≤ mc) (h3 : n + ms' ≤ ms) (h4 : (r.map fun v => v.category).sum ≤ 8) (h : K nx lv (v.toList ++ r) H (k + mc') (n + ms')) : cr_after l U lo y cw d mc ms nx K Q lv av r H k n :=
  ⟨d', mc', ms', _, hM, h1, h2, h3, h4, fun w H' q _ => by obtain ⟨q1, q2⟩ := q; cases q1; subst q2; exact h, fun kd H' q _ => by cases q.1⟩
theorem cr_le {n m : Nat} (h : Nat.ble n m = true) : n ≤ m := Nat.le_of_ble_eq_true h
theorem cr_nle {a b : Nat} (h : b < a) (ha : a < 2 ^ 31) : ¬ nI a ≤ nI b := fun h9 => absurd (nI_lt h ha) (Int32.not_lt.mpr h9)
section JDK
variable {l : Launch} {s0 : State} {D : va_G} {ca : Nat → ClassId} {e0 : Nat} {H : Heap}
theorem j_AL_size (hl : l.flags = flags0) (Z : cr_Z0 s0 D ca e0) {a : Nat} {x z : Value} {n : Int32} (h : va_at D kc (a, .inr (12, [x, .int n, z])) H) : cr_c l s0 y_AL_size cw_AL_size 0 0 0 [.ref a] H (cr_pu (some (.int n)) H) := by
  refine cr_enter (by decide +kernel) (Nat.le_of_ble_eq_true rfl) (fun hlo p e s m args below meth c C hem hH => ?_)
  refine cr_vc [] 10 (s_AL_size hl Z C hem) (fun K hK => ?_)
  conv => whnf
  refine ⟨_, h, ?_⟩
  conv => whnf
  exact ⟨Nat.le_refl _, Nat.le_refl _, rfl, rfl⟩
theorem j_AL_elementData (hl : l.flags = flags0) (Z : cr_Z0 s0 D ca e0) {a ea N i v : Nat} {x z : Value} {f : Nat → Option Nat} (h : va_at D kc (a, .inr (12, [.ref ea, x, z])) H) (h2 : va_at D kc (ea, .inl (ca 3, N, .inr (.inr (.inr (.inr f))))) H) (hi : i < N) (hN : N < 2 ^ 31) (hv : f i = some v) : cr_c l s0 y_AL_elementData cw_AL_elementData 0 0 0 [.ref a, .int (nI i)] H (cr_pu (some (.ref v)) H) := by
  refine cr_enter (by decide +kernel) (Nat.le_of_ble_eq_true rfl) (fun hlo p e s m args below meth c C hem hH => ?_)
  refine cr_vc [] 10 (s_AL_elementData hl Z C hem) (fun K hK => ?_)
  conv => whnf
  refine ⟨_, h, ?_⟩
  conv => whnf
  refine ⟨N, f, i, some v, h2, rfl, hi, hN, hv, ?_⟩
  conv => whnf
  exact ⟨Nat.le_refl _, Nat.le_refl _, rfl, rfl⟩
theorem j_AL_isEmpty (hl : l.flags = flags0) (Z : cr_Z0 s0 D ca e0) {a : Nat} {x z : Value} {n : Int32} (h : va_at D kc (a, .inr (12, [x, .int n, z])) H) : cr_c l s0 y_AL_isEmpty cw_AL_isEmpty 0 0 0 [.ref a] H (cr_pu (some (.int (if n = 0 then 1 else 0))) H) := by
  refine cr_enter (by decide +kernel) (Nat.le_of_ble_eq_true rfl) (fun hlo p e s m args below meth c C hem hH => ?_)
  refine cr_vc [] 10 (s_AL_isEmpty hl Z C hem) (fun K hK => ?_)
  conv => whnf
  refine ⟨_, h, ?_⟩
  conv => whnf
  refine ⟨fun h => ?_, fun h => ?_⟩
  · conv => whnf
    rw [if_neg h]
    exact ⟨rfl, Nat.le_refl _, Nat.le_refl _, rfl, rfl⟩
  · conv => whnf
    rw [if_pos (by simpa using h)]
    exact ⟨rfl, Nat.le_refl _, Nat.le_refl _, rfl, rfl⟩
/-- Arrays.fill of ints -/
theorem j_Ar_fill (hl : l.flags = flags0) (Z : cr_Z0 s0 D ca e0) {a N : Nat} {f : Nat → Int32} {v : Int32} (h : va_at D kc (a, .inl (ca 0, N, .inl f)) H) (hN : N < 2 ^ 31) (ha : s0.heap.size ≤ a) : cr_c l s0 y_Ar_fill cw_Ar_fill 0 0 0 [.ref a, .int v] H (fun o H' => o = .inl none ∧ ∃ g, (∀ i, i < N → g i = v) ∧ cr_Up D kc H a (.inl (ca 0, N, .inl g)) H') := by
  refine cr_enter (by decide +kernel) (Nat.le_of_ble_eq_true rfl) (fun hlo p e s m args below meth c C hem hH => ?_)
  have loop : ∀ (j i : Nat) (H1 : Heap) (g : Nat → Int32), i + j = N → (∀ q, q < i → g q = v) → cr_Up D kc H a (.inl (ca 0, N, .inl g)) H1 → cr_G p l e (cr_rm 0 0 0) s m args below meth c s0.heap.size 0 0 (fun o H' => o = .inl none ∧ ∃ g, (∀ i, i < N → g i = v) ∧ cr_Up D kc H a (.inl (ca 0, N, .inl g)) H') 5 [some (.ref a), some (.int v), some (.int (nI i)), some (.int (nI N))] [] H1 0 0 := by
    intro j
    induction j with
    | zero =>
      intro i H1 g hij hg hup
      refine cr_vc [5] 20 (s_Ar_fill hl Z C hem) (fun K hK => ?_)
      conv => whnf
      refine ⟨fun h9 => ?_, fun h9 => absurd (by rw [show i = N by omega]; exact Int32.le_refl _) h9⟩
      conv => whnf
      exact ⟨Nat.le_refl _, Nat.le_refl _, rfl, g, fun q hq => hg q (by omega), hup⟩
    | succ j ih =>
      intro i H1 g hij hg hup
      refine cr_vc [5] 20 (s_Ar_fill hl Z C hem) (fun K hK => ?_)
      conv => whnf
      refine ⟨fun h9 => absurd h9 (cr_nle (by omega) (by omega)), fun h9 => ?_⟩
      conv => whnf
      refine ⟨N, g, i, hup.2.1, ha, rfl, by omega, hN, fun H2 hu2 => ?_⟩
      conv => whnf
      refine ⟨cr_le rfl, ?_⟩
      conv => whnf
      rw [nI_1]
      exact hK _ _ _ _ _ _ (ih (i + 1) H2 (upd g i v) (by omega) (fun q hq => by
        by_cases h8 : q = i
        · simp [upd, h8]
        · simp [upd, h8]
          exact hg q (by omega)) ⟨hu2.1.trans hup.1, hu2.2.1, fun q hq => (hu2.2.2 q hq).trans (hup.2.2 q hq)⟩)
  refine cr_vc [5] 20 (s_Ar_fill hl Z C hem) (fun K hK => ?_)
  conv => whnf
  refine ⟨cr_le rfl, ?_⟩
  conv => whnf
  refine ⟨_, h, ?_⟩
  conv => whnf
  refine ⟨cr_le rfl, ?_⟩
  conv => whnf
  exact hK _ _ _ _ _ _ (loop N 0 H f (by omega) (fun q hq => by omega) ⟨rfl, h, fun q _ => rfl⟩)
end JDK
section JDK2
variable {l : Launch} {s0 : State} {D : va_G} {ca : Nat → ClassId} {e0 : Nat} {H : Heap}
theorem j_Pr_checkIndex (hl : l.flags = flags0) (Z : cr_Z0 s0 D ca e0) {i n : Nat} (hi : i < n) (hn : n < 2 ^ 31) : cr_c l s0 y_Pr_checkIndex cw_Pr_checkIndex 0 0 0 [.int (nI i), .int (nI n), .null] H (cr_pu (some (.int (nI i))) H) := by
  refine cr_enter (by decide +kernel) (Nat.le_of_ble_eq_true rfl) (fun hlo p e s m args below meth c C hem hH => ?_)
  refine cr_vc [] 10 (s_Pr_checkIndex hl Z C hem) (fun K hK => ?_)
  conv => whnf
  refine ⟨fun h => absurd h (nI_pos (by omega)), fun h => ?_⟩
  conv => whnf
  refine ⟨fun h => ?_, fun h => absurd (nI_lt hi (by omega)) h⟩
  conv => whnf
  exact ⟨Nat.le_refl _, Nat.le_refl _, rfl, rfl⟩
theorem j_Ob_checkIndex (hl : l.flags = flags0) (Z : cr_Z0 s0 D ca e0) {i n : Nat} (hi : i < n) (hn : n < 2 ^ 31) : cr_c l s0 y_Ob_checkIndex cw_Ob_checkIndex 1 0 0 [.int (nI i), .int (nI n)] H (cr_pu (some (.int (nI i))) H) := by
  refine cr_enter (by decide +kernel) (Nat.le_of_ble_eq_true rfl) (fun hlo p e s m args below meth c C hem hH => ?_)
  refine cr_vc [] 10 (s_Ob_checkIndex hl Z C hem) (fun K hK => ?_)
  conv => whnf
  refine ⟨rfl, cr_aft (j_Pr_checkIndex hl Z hi hn) (by decide) (by decide) (by decide) (by decide) ?_⟩
  conv => whnf
  exact ⟨Nat.le_refl _, Nat.le_refl _, rfl, rfl⟩
/-- a list's own parts: the object at a, the array at ea (or the library's empty one), n elements at f 0 .. -/
def cr_li (s0 : State) (D : va_G) (ca : Nat → ClassId) (e0 : Nat) (H : Heap) (a ea n : Nat) (f : Nat → Nat) : Prop :=
  s0.heap.size ≤ a ∧ ∃ md : Int32, va_at D kc (a, .inr (12, [.ref ea, .int (nI n), .int md])) H ∧ ((n = 0 ∧ ea = e0) ∨ (s0.heap.size ≤ ea ∧ ∃ N g, n ≤ N ∧ N ≤ 109 ∧ 2 ≤ N ∧ va_at D kc (ea, .inl (ca 3, N, .inr (.inr (.inr (.inr g))))) H ∧ ∀ i, i < n → g i = some (f i)))
theorem j_AL_get (hl : l.flags = flags0) (Z : cr_Z0 s0 D ca e0) {a ea n i : Nat} {f : Nat → Nat} (h : cr_li s0 D ca e0 H a ea n f) (hi : i < n) : cr_c l s0 y_AL_get cw_AL_get 2 0 0 [.ref a, .int (nI i)] H (cr_pu (some (.ref (f i))) H) := by
  obtain ⟨ha, md, h1, ⟨h2, -⟩ | ⟨hea, N, g, h2, h3, h3', h4, h5⟩⟩ := h
  · omega
  refine cr_enter (by decide +kernel) (Nat.le_of_ble_eq_true rfl) (fun hlo p e s m args below meth c C hem hH => ?_)
  refine cr_vc [] 20 (s_AL_get hl Z C hem) (fun K hK => ?_)
  conv => whnf
  refine ⟨_, h1, ?_⟩
  conv => whnf
  refine ⟨rfl, cr_aft (j_Ob_checkIndex hl Z hi (by omega)) (by decide) (by decide) (by decide) (by decide) ?_⟩
  conv => whnf
  refine ⟨rfl, ?_⟩
  conv => whnf
  refine ⟨rfl, _, h1, cr_aft (j_AL_elementData hl Z h1 h4 (by omega) (by omega) (h5 i hi)) (by decide) (by decide) (by decide) (by decide) ?_⟩
  conv => whnf
  exact ⟨Nat.le_refl _, Nat.le_refl _, rfl, rfl⟩
theorem j_AL_sizeL (hl : l.flags = flags0) (Z : cr_Z0 s0 D ca e0) {a ea n : Nat} {f : Nat → Nat} (h : cr_li s0 D ca e0 H a ea n f) : cr_c l s0 y_AL_size cw_AL_size 0 0 0 [.ref a] H (cr_pu (some (.int (nI n))) H) := by
  obtain ⟨ha, md, h1, -⟩ := h
  exact j_AL_size hl Z h1
theorem j_Ar_copyOf1 (hl : l.flags = flags0) (Z : cr_Z0 s0 D ca e0) {ea N N' mi : Nat} {g : Nat → Option Nat} (h : va_at D kc (ea, .inl (ca 3, N, .inr (.inr (.inr (.inr g))))) H) (hN : N ≤ N') (hN' : N' ≤ 200) (hmi : va_Mi "[Ljava/lang/Object;" mi s0) (hel : ∀ i y, i < N → g i = some y → ∃ ci fs, ci ∈ cs_obj ∧ va_at D kc (y, .inr (ci, fs)) H) :
    cr_c l s0 y_Ar_copyOf1 cw_Ar_copyOf1 2 1 N' [.ref ea, .int (nI N'), .ref mi] H (fun o H' => o = .inl (some (.ref H.size)) ∧ cr_Nw D kc s0.heap.size H H.size (.inl (ca 3, N', .inr (.inr (.inr (.inr (va_cpy g (fun _ => none) 0 0 N)))))) H') := by
  refine cr_enter (by decide +kernel) (Nat.le_of_ble_eq_true rfl) (fun hlo p e s m args below meth c C hem hH => ?_)
  refine cr_vc [] 40 (s_Ar_copyOf1 hl Z C hem) (fun K hK => ?_)
  conv => whnf
  intro mi' hmi'
  conv => whnf
  refine ⟨fun h9 => absurd (cr_Mi_eq hmi hmi') h9, fun _ => ?_⟩
  conv => whnf
  refine ⟨N', rfl, by omega, by omega, by decide, by omega, fun q H1 hnw => ?_⟩
  obtain ⟨hq, hq2, hsz, hat, hfr⟩ := hnw
  subst hq
  conv => whnf
  refine ⟨cr_le rfl, ?_⟩
  have h1 : va_at D kc (ea, .inl (ca 3, N, .inr (.inr (.inr (.inr g))))) H1 := cr_at_eq h (hfr ea (cr_at_lt h))
  conv => whnf
  refine Or.inl ⟨_, h1, ?_⟩
  conv => whnf
  refine ⟨rfl, cr_le rfl, cr_le rfl, by omega, by omega, ?_⟩
  have emin : (if nI N' < nI N then nI N' else nI N) = nI N := if_neg (nI_nlt (by omega) (by omega))
  rw [emin]
  conv => whnf
  refine ⟨rfl, by decide, by decide, N, N', g, fun _ => none, 0, 0, N, h1, hat, hq2, rfl, rfl, rfl, by omega, by omega, by omega, by omega, ?_, fun H2 hup => ?_⟩
  · intro i9 y hi9 hy
    rw [Nat.zero_add] at hy
    obtain ⟨ci, fs, hci, hv⟩ := hel i9 y hi9 hy
    exact ⟨ci, fs, hci, cr_at_eq hv (hfr y (cr_at_lt hv))⟩
  conv => whnf
  refine ⟨by omega, by omega, rfl, rfl, hq2, by rw [hup.1]; exact hsz, hup.2.1, fun y hy => (hup.2.2 y (by omega)).trans (hfr y hy)⟩
theorem j_Ar_copyOf0 (hl : l.flags = flags0) (Z : cr_Z0 s0 D ca e0) {ea N N' : Nat} {g : Nat → Option Nat} (h : va_at D kc (ea, .inl (ca 3, N, .inr (.inr (.inr (.inr g))))) H) (hN : N ≤ N') (hN' : N' ≤ 200) (hel : ∀ i y, i < N → g i = some y → ∃ ci fs, ci ∈ cs_obj ∧ va_at D kc (y, .inr (ci, fs)) H) :
    cr_c l s0 y_Ar_copyOf0 cw_Ar_copyOf0 3 1 N' [.ref ea, .int (nI N')] H (fun o H' => o = .inl (some (.ref H.size)) ∧ cr_Nw D kc s0.heap.size H H.size (.inl (ca 3, N', .inr (.inr (.inr (.inr (va_cpy g (fun _ => none) 0 0 N)))))) H') := by
  refine cr_enter (by decide +kernel) (Nat.le_of_ble_eq_true rfl) (fun hlo p e s m args below meth c C hem hH => ?_)
  refine cr_vc [] 40 (s_Ar_copyOf0 hl Z C hem) (fun K hK => ?_)
  conv => whnf
  refine ⟨rfl, by decide, cr_le rfl, ⟨_, h⟩, fun mi hmi => ?_⟩
  conv => whnf
  refine ⟨rfl, 2, 1, N', _, j_Ar_copyOf1 hl Z h hN hN' hmi hel, by decide, by decide, by omega, by decide, fun v H' hq _ => ?_, fun kd H' hq _ => by cases hq.1⟩
  obtain ⟨hq1, hq2⟩ := hq
  cases hq1
  conv => whnf
  exact ⟨by omega, by omega, rfl, hq2⟩
theorem j_As_newLength (hl : l.flags = flags0) (Z : cr_Z0 s0 D ca e0) {N : Nat} (hN : 2 ≤ N) (hN' : N ≤ 1000) : cr_c l s0 y_As_newLength cw_As_newLength 1 0 0 [.int (nI N), .int 1, .int (nI (N / 2))] H (cr_pu (some (.int (nI (N + N / 2)))) H) := by
  refine cr_enter (by decide +kernel) (Nat.le_of_ble_eq_true rfl) (fun hlo p e s m args below meth c C hem hH => ?_)
  refine cr_vc [] 40 (s_As_newLength hl Z C hem) (fun K hK => ?_)
  conv => whnf
  refine ⟨rfl, cr_le rfl, cr_le rfl, cr_le rfl, cr_le rfl, ?_⟩
  have e1 : nI N + (if (1 : Int32) < nI (N / 2) then nI (N / 2) else 1) = nI (N + N / 2) := by
    by_cases h : 1 < N / 2
    · have h9 : (1 : Int32) < nI (N / 2) := nI_lt (a := 1) h (by omega)
      rw [if_pos h9]
      exact nI_add N (N / 2)
    · have h9 : ¬ (1 : Int32) < nI (N / 2) := nI_nlt (a := 1) (by omega) (by decide)
      rw [if_neg h9, show N / 2 = 1 by omega]
      exact nI_add N 1
  conv => whnf
  rw [e1]
  refine ⟨cr_le rfl, ?_⟩
  conv => whnf
  refine ⟨fun h9 => absurd h9 (nI_nle (by omega) (by omega)), fun _ => ?_⟩
  conv => whnf
  refine ⟨fun h9 => absurd h9 (show ¬ nI 2147483639 < nI (N + N / 2) from nI_nlt (by omega) (by decide)), fun _ => ?_⟩
  conv => whnf
  exact ⟨Nat.le_refl _, Nat.le_refl _, rfl, rfl⟩
end JDK2
