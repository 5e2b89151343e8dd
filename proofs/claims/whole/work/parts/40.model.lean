/-! THE REFERENCE's state: a number for each of its fields (a scalar at place 0), all in one function G; its cells never move -/
def cr_b (b : Bool) : Int32 := cond b 1 0
def mm_ar : Nat → Bool
  | 3 => true
  | 5 => true
  | 6 => true
  | 7 => true
  | 8 => true
  | 9 => true
  | 10 => true
  | 11 => true
  | 12 => true
  | 13 => true
  | 14 => true
  | 15 => true
  | 17 => true
  | 18 => true
  | 20 => true
  | 21 => true
  | 23 => true
  | 24 => true
  | 25 => true
  | 26 => true
  | 27 => true
  | 29 => true
  | 30 => true
  | 31 => true
  | 33 => true
  | 35 => true
  | 36 => true
  | 37 => true
  | 38 => true
  | 39 => true
  | 40 => true
  | _ => false
def mm_N : Nat → Nat
  | 3 => 20
  | 5 => 30
  | 6 => 30
  | 7 => 30
  | 8 => 30
  | 9 => 30
  | 10 => 30
  | 11 => 900
  | 12 => 30
  | 13 => 1500
  | 14 => 1500
  | 15 => 1500
  | 17 => 40
  | 18 => 40
  | 20 => 60
  | 21 => 60
  | 23 => 16
  | 24 => 16
  | 25 => 16
  | 26 => 16
  | 27 => 16
  | 29 => 9000
  | 30 => 9000
  | 31 => 9000
  | 33 => 9000
  | 35 => 100
  | 36 => 100
  | 37 => 100
  | 38 => 100
  | 39 => 65536
  | 40 => 9000
  | _ => 0
def mm_c : Nat → Nat
  | 7 => 2
  | 8 => 2
  | 11 => 2
  | 39 => 2
  | _ => 0
abbrev mm_G : Type := Nat → Nat → Nat
def mm_up (G : mm_G) (k i v : Nat) : mm_G := fun k' i' => cond (Nat.beq k' k && Nat.beq i' i) v (G k' i')
def mm_f (ad : Nat → Nat) (G : mm_G) : List Value := [.int (nI (G 0 0)), .int (nI (G 1 0)), .int (nI (G 2 0)), .ref (ad 3), .int (nI (G 4 0)), .ref (ad 5), .ref (ad 6), .ref (ad 7), .ref (ad 8), .ref (ad 9), .ref (ad 10), .ref (ad 11), .ref (ad 12), .ref (ad 13), .ref (ad 14), .ref (ad 15), .int (nI (G 16 0)), .ref (ad 17), .ref (ad 18), .int (nI (G 19 0)), .ref (ad 20), .ref (ad 21), .int (nI (G 22 0)), .ref (ad 23), .ref (ad 24), .ref (ad 25), .ref (ad 26), .ref (ad 27), .int (nI (G 28 0)), .ref (ad 29), .ref (ad 30), .ref (ad 31), .int (nI (G 32 0)), .ref (ad 33), .int (nI (G 34 0)), .ref (ad 35), .ref (ad 36), .ref (ad 37), .ref (ad 38), .ref (ad 39), .ref (ad 40)]
theorem mm_bq {a b : Nat} (h : a ≠ b) : Nat.beq a b = false := by
  cases hb : Nat.beq a b with
  | false => rfl
  | true => exact absurd (Nat.eq_of_beq_eq_true hb) h
theorem mm_up_s (G : mm_G) (k i v : Nat) : mm_up G k i v k i = v := by simp [mm_up]
theorem mm_up_k (G : mm_G) {k k' : Nat} (i v i' : Nat) (h : k' ≠ k) : mm_up G k i v k' i' = G k' i' := by
  have : Nat.beq k' k = false := mm_bq h
  simp [mm_up, this]
theorem mm_up_i (G : mm_G) {i i' : Nat} (k v k' : Nat) (h : i' ≠ i) : mm_up G k i v k' i' = G k' i' := by
  have : Nat.beq i' i = false := mm_bq h
  simp [mm_up, this]
theorem mm_f_eq (ad : Nat → Nat) {G G' : mm_G} (h : ∀ k, mm_ar k = false → G' k 0 = G k 0) : mm_f ad G' = mm_f ad G := by
  unfold mm_f
  rw [h 0 rfl, h 1 rfl, h 2 rfl, h 4 rfl, h 16 rfl, h 19 rfl, h 22 rfl, h 28 rfl, h 32 rfl, h 34 rfl]
def mm_R (s0 : State) (D : va_G) (ca : Nat → ClassId) (H : Heap) (y : Nat) (ad : Nat → Nat) (G : mm_G) : Prop :=
  s0.heap.size ≤ y ∧ va_at D kc (y, .inr (11, mm_f ad G)) H ∧ (∀ k, mm_ar k = true → s0.heap.size ≤ ad k ∧ va_at D kc (ad k, .inl (ca (mm_c k), mm_N k, .inl (fun i => nI (G k i)))) H) ∧ (∀ k k', mm_ar k = true → mm_ar k' = true → ad k = ad k' → k = k') ∧ ∀ k, mm_ar k = true → ad k ≠ y
def mm_S (y : Nat) (ad : Nat → Nat) (q : Nat) : Prop := q = y ∨ ∃ k, mm_ar k = true ∧ q = ad k
def mm_Fr (y : Nat) (ad : Nat → Nat) (H H' : Heap) : Prop := H'.size = H.size ∧ ∀ q : Nat, ¬ mm_S y ad q → H'[q]? = H[q]?
def mm_Q (s0 : State) (D : va_G) (ca : Nat → ClassId) (H : Heap) (y : Nat) (ad : Nat → Nat) (r : Option Value) (G : mm_G) : cr_Q := fun o H' => o = .inl r ∧ mm_R s0 D ca H' y ad G ∧ mm_Fr y ad H H'
section MOD
variable {l : Launch} {s0 : State} {D : va_G} {ca : Nat → ClassId} {e0 : Nat} {H H1 H2 : Heap} {y : Nat} {ad : Nat → Nat} {G : mm_G}
theorem mm_Fr.refl : mm_Fr y ad H H := ⟨rfl, fun _ _ => rfl⟩
theorem mm_Fr.tr (h : mm_Fr y ad H H1) (h2 : mm_Fr y ad H1 H2) : mm_Fr y ad H H2 := ⟨h2.1.trans h.1, fun q hq => (h2.2 q hq).trans (h.2 q hq)⟩
theorem mm_Fr.ob {x : va_E} (h : cr_Up D kc H y x H1) : mm_Fr y ad H H1 := ⟨h.1, fun q hq => h.2.2 q (fun e => hq (Or.inl e))⟩
theorem mm_Fr.arr {x : va_E} {k : Nat} (hk : mm_ar k = true) (h : cr_Up D kc H (ad k) x H1) : mm_Fr y ad H H1 := ⟨h.1, fun q hq => h.2.2 q (fun e => hq (Or.inr ⟨k, hk, e⟩))⟩
theorem mm_R.put (h : mm_R s0 D ca H y ad G) {k v : Nat} (hk : mm_ar k = false) (hu : cr_Up D kc H y (.inr (11, mm_f ad (mm_up G k 0 v))) H1) : mm_R s0 D ca H1 y ad (mm_up G k 0 v) := by
  obtain ⟨h1, h2, h3, h4, h5⟩ := h
  refine ⟨h1, hu.2.1, fun k' hk' => ⟨(h3 k' hk').1, ?_⟩, h4, h5⟩
  have e : (fun i => nI (mm_up G k 0 v k' i)) = fun i => nI (G k' i) := by
    funext i
    rw [mm_up_k]
    intro e
    rw [e, hk] at hk'
    cases hk'
  rw [e]
  exact cr_at_eq (h3 k' hk').2 (hu.2.2 _ (h5 k' hk'))
theorem mm_R.sto (h : mm_R s0 D ca H y ad G) {k j v : Nat} (hk : mm_ar k = true) (hu : cr_Up D kc H (ad k) (.inl (ca (mm_c k), mm_N k, .inl (upd (fun i => nI (G k i)) j (nI v)))) H1) : mm_R s0 D ca H1 y ad (mm_up G k j v) := by
  obtain ⟨h1, h2, h3, h4, h5⟩ := h
  refine ⟨h1, ?_, fun k' hk' => ⟨(h3 k' hk').1, ?_⟩, h4, h5⟩
  · rw [mm_f_eq ad (G := G) (fun k' hk' => mm_up_k G _ _ _ (fun e => by rw [e, hk] at hk'; cases hk'))]
    exact cr_at_eq h2 (hu.2.2 _ (fun e => h5 k hk e.symm))
  · by_cases e : k' = k
    · subst e
      have e : (fun i => nI (mm_up G k' j v k' i)) = upd (fun i => nI (G k' i)) j (nI v) := by
        funext i
        by_cases hi : i = j
        · subst hi
          rw [mm_up_s]
          simp [upd]
        · rw [mm_up_i _ _ _ _ hi]
          simp [upd, hi]
      rw [e]
      exact hu.2.1
    · have e' : (fun i => nI (mm_up G k j v k' i)) = fun i => nI (G k' i) := by
        funext i
        rw [mm_up_k _ _ _ _ e]
      rw [e']
      exact cr_at_eq (h3 k' hk').2 (hu.2.2 _ (fun e9 => e (h4 k' k hk' hk e9)))
/-- the cell of the object, of an array -/
theorem mm_R.o (h : mm_R s0 D ca H y ad G) : va_at D kc (y, .inr (11, mm_f ad G)) H := h.2.1
theorem mm_R.a (h : mm_R s0 D ca H y ad G) (k : Nat) (hk : mm_ar k = true) : va_at D kc (ad k, .inl (ca (mm_c k), mm_N k, .inl (fun i => nI (G k i)))) H := (h.2.2.1 k hk).2
theorem mm_R.lo (h : mm_R s0 D ca H y ad G) (k : Nat) (hk : mm_ar k = true) : s0.heap.size ≤ ad k := (h.2.2.1 k hk).1
def mm_in (z n : Int32) : Bool := !decide (z < 0) && !decide (n ≤ z)
theorem j_M_isIn (hl : l.flags = flags0) (Z : cr_Z0 s0 D ca e0) {z n : Int32} : cr_c l s0 y_M_isIn cw_M_isIn 0 0 0 [.int z, .int n] H (cr_pu (some (.int (cr_b (mm_in z n)))) H) := by
  refine cr_enter (by decide +kernel) (Nat.le_of_ble_eq_true rfl) (fun hlo p e s m args below meth c C hem hH => ?_)
  refine cr_vc [] 60 (s_M_isIn hl Z C hem) (fun K hK => ?_)
  conv => whnf
  refine ⟨fun h => ?_, fun h => ?_⟩
  · rw [show mm_in z n = false by simp [mm_in, h]]
    conv => whnf
    exact ⟨rfl, Nat.le_refl _, Nat.le_refl _, rfl, rfl⟩
  · conv => whnf
    refine ⟨fun h2 => ?_, fun h2 => ?_⟩
    · rw [show mm_in z n = false by simp [mm_in, h2]]
      conv => whnf
      exact ⟨rfl, Nat.le_refl _, Nat.le_refl _, rfl, rfl⟩
    · rw [show mm_in z n = true by simp [mm_in, h, h2]]
      conv => whnf
      exact ⟨rfl, Nat.le_refl _, Nat.le_refl _, rfl, rfl⟩
def mm_min (z : Int32) : Bool := !decide (z < 0) && !decide (1000000 < z)
theorem j_M_isMinute (hl : l.flags = flags0) (Z : cr_Z0 s0 D ca e0) {z : Int32} : cr_c l s0 y_M_isMinute cw_M_isMinute 0 0 0 [.int z] H (cr_pu (some (.int (cr_b (mm_min z)))) H) := by
  refine cr_enter (by decide +kernel) (Nat.le_of_ble_eq_true rfl) (fun hlo p e s m args below meth c C hem hH => ?_)
  refine cr_vc [] 60 (s_M_isMinute hl Z C hem) (fun K hK => ?_)
  conv => whnf
  refine ⟨fun h => ?_, fun h => ?_⟩
  · rw [show mm_min z = false by simp [mm_min, h]]
    conv => whnf
    exact ⟨rfl, Nat.le_refl _, Nat.le_refl _, rfl, rfl⟩
  · conv => whnf
    refine ⟨fun h2 => ?_, fun h2 => ?_⟩
    · rw [show mm_min z = false by simp [mm_min, h2]]
      conv => whnf
      exact ⟨rfl, Nat.le_refl _, Nat.le_refl _, rfl, rfl⟩
    · rw [show mm_min z = true by simp [mm_min, h, h2]]
      conv => whnf
      exact ⟨rfl, Nat.le_refl _, Nat.le_refl _, rfl, rfl⟩
/-- the kind of throw that is asked for: none, argument, state -/
def mm_cd (r st : Bool) : Nat := cond r (cond st 0 2) 1
theorem j_M_goes (hl : l.flags = flags0) (Z : cr_Z0 s0 D ca e0) (h : mm_R s0 D ca H y ad G) (r st : Bool) : cr_c l s0 y_M_goes cw_M_goes 0 0 0 [.ref y, .int (cr_b r), .int (cr_b st)] H (mm_Q s0 D ca H y ad (some (.int (cr_b (r && st)))) (mm_up G 0 0 (mm_cd r st))) := by
  refine cr_enter (by decide +kernel) (Nat.le_of_ble_eq_true rfl) (fun hlo p e s m args below meth c C hem hH => ?_)
  refine cr_vc [] 60 (s_M_goes hl Z C hem) (fun K hK => ?_)
  cases r with
  | false =>
    conv => whnf
    refine ⟨fun h9 => absurd rfl h9, fun _ => ?_⟩
    conv => whnf
    refine ⟨_, h.o, h.1, ⟨rfl, rfl⟩, ?_⟩
    conv => whnf
    intro H1 u1
    have h1 := h.put (k := 0) (v := 1) rfl u1
    conv => whnf
    refine ⟨_, h1.o, ?_⟩
    conv => whnf
    refine ⟨fun _ => ?_, fun h9 => absurd h9 (show ¬ nI 1 = 0 by decide)⟩
    conv => whnf
    exact ⟨rfl, Nat.le_refl _, Nat.le_refl _, rfl, h1, mm_Fr.ob u1⟩
  | true =>
    cases st with
    | false =>
      conv => whnf
      refine ⟨fun _ => ?_, fun h9 => absurd h9 (by decide)⟩
      conv => whnf
      refine ⟨fun h9 => absurd rfl h9, fun _ => ?_⟩
      conv => whnf
      refine ⟨_, h.o, h.1, ⟨rfl, rfl⟩, ?_⟩
      conv => whnf
      intro H1 u1
      have h1 := h.put (k := 0) (v := 2) rfl u1
      conv => whnf
      refine ⟨_, h1.o, ?_⟩
      conv => whnf
      refine ⟨fun _ => ?_, fun h9 => absurd h9 (show ¬ nI 2 = 0 by decide)⟩
      conv => whnf
      exact ⟨rfl, Nat.le_refl _, Nat.le_refl _, rfl, h1, mm_Fr.ob u1⟩
    | true =>
      conv => whnf
      refine ⟨fun _ => ?_, fun h9 => absurd h9 (by decide)⟩
      conv => whnf
      refine ⟨fun _ => ?_, fun h9 => absurd h9 (by decide)⟩
      conv => whnf
      refine ⟨_, h.o, h.1, ⟨rfl, rfl⟩, ?_⟩
      conv => whnf
      intro H1 u1
      have h1 := h.put (k := 0) (v := 0) rfl u1
      conv => whnf
      refine ⟨_, h1.o, ?_⟩
      conv => whnf
      refine ⟨fun h9 => absurd rfl h9, fun _ => ?_⟩
      conv => whnf
      exact ⟨rfl, Nat.le_refl _, Nat.le_refl _, rfl, h1, mm_Fr.ob u1⟩
/-- a telling is put down -/
def mm_tl (G : mm_G) (kd w mi : Nat) : mm_G := mm_up (mm_up (mm_up (mm_up G 29 (G 28 0) kd) 30 (G 28 0) w) 31 (G 28 0) mi) 28 0 (G 28 0 + 1)
theorem j_M_tell (hl : l.flags = flags0) (Z : cr_Z0 s0 D ca e0) (h : mm_R s0 D ca H y ad G) {kd w mi : Nat} (ht : G 28 0 < 9000) : cr_c l s0 y_M_tell cw_M_tell 0 0 0 [.ref y, .int (nI kd), .int (nI w), .int (nI mi)] H (mm_Q s0 D ca H y ad none (mm_tl G kd w mi)) := by
  refine cr_enter (by decide +kernel) (Nat.le_of_ble_eq_true rfl) (fun hlo p e s m args below meth c C hem hH => ?_)
  refine cr_vc [] 60 (s_M_tell hl Z C hem) (fun K hK => ?_)
  conv => whnf
  refine ⟨_, h.o, ?_⟩
  conv => whnf
  refine ⟨_, h.o, ?_⟩
  conv => whnf
  refine ⟨_, _, _, h.a 29 rfl, h.lo 29 rfl, rfl, ht, cr_le rfl, fun H1 u1 => ?_⟩
  have h1 := h.sto (k := 29) rfl u1
  conv => whnf
  refine ⟨_, h1.o, ?_⟩
  conv => whnf
  refine ⟨_, h1.o, ?_⟩
  conv => whnf
  refine ⟨_, _, _, h1.a 30 rfl, h1.lo 30 rfl, rfl, ht, cr_le rfl, fun H2 u2 => ?_⟩
  have h2 := h1.sto (k := 30) rfl u2
  conv => whnf
  refine ⟨_, h2.o, ?_⟩
  conv => whnf
  refine ⟨_, h2.o, ?_⟩
  conv => whnf
  refine ⟨_, _, _, h2.a 31 rfl, h2.lo 31 rfl, rfl, ht, cr_le rfl, fun H3 u3 => ?_⟩
  have h3 := h2.sto (k := 31) rfl u3
  conv => whnf
  refine ⟨rfl, ?_⟩
  conv => whnf
  refine ⟨_, h3.o, ?_⟩
  conv => whnf
  refine ⟨_, h3.o, h.1, ⟨rfl, rfl⟩, ?_⟩
  conv => whnf
  intro H4 u4
  have h4 := h3.put (k := 28) (v := G 28 0 + 1) rfl (by rw [nI_1] at u4; exact u4)
  conv => whnf
  exact ⟨Nat.le_refl _, Nat.le_refl _, rfl, h4, (((mm_Fr.arr rfl u1).tr (mm_Fr.arr rfl u2)).tr (mm_Fr.arr rfl u3)).tr (mm_Fr.ob u4)⟩
end MOD
