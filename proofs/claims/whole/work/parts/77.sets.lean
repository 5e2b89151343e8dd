/-! THE CLASS: several cells change; a row more in a door's list; a door's list is emptied -/
section STS
variable {l : Launch} {s0 : State} {D : va_G} {ca : Nat → ClassId} {e0 : Nat} {O : Nat → Prop} {H H' H1 : Heap} {A : Nat → Nat → Nat} {G G' : mm_G} {w w' : cc_W}
theorem cc_H.sets (Z : cr_Z0 s0 D ca e0) (hr : cc_r G) (h : cc_H s0 D ca e0 O H A G w) {P : Nat → Nat → Prop} (hP : ∀ k i, P k i → cc_l G k i ∧ cc_o k = true) (hfr : ∀ q : Nat, (∀ k i, P k i → q ≠ A k i) → H1[q]? = H[q]?) (hcell : ∀ k i, P k i → va_at D kc (A k i, cc_c ca A G' w' k i) H1)
    (hn : ∀ k, k = 2 ∨ k = 4 ∨ k = 16 ∨ k = 19 ∨ k = 22 → G' k 0 = G k 0) (h12 : ∀ d, G' 12 d = G 12 d) (hc : ∀ k i, cc_l G k i → cc_o k = true → ¬ P k i → cc_same G G' w w' k i) : cc_H s0 D ca e0 O H1 A G' w' := by
  have hll := cc_l_eq (G := G) (G' := G') hn h12
  obtain ⟨c1, c2, c3, c4, c5, c8⟩ := h
  have he := cr_e0lt Z
  have h4 : G' 4 0 = G 4 0 := hn 4 (by simp)
  have hL' : ∀ k' i', cc_L e0 A G' k' i' → cc_L e0 A G k' i' := by
    rintro k' i' (q | q | ⟨q1, q2, q3⟩)
    · exact Or.inl (hll k' i' q)
    · exact Or.inr (Or.inl q)
    · exact Or.inr (Or.inr ⟨q1, by rw [← h4]; exact q2, q3⟩)
  have out : ∀ k i, cc_L e0 A G k i → cc_o k = false → H1[A k i]? = H[A k i]? := fun k i ql qo => hfr _ (fun k' i' p e => by
    have := (c5 k i k' i' ql (Or.inl (hP k' i' p).1) e).1
    subst this
    rw [(hP k i' p).2] at qo
    cases qo)
  have oute : H1[e0]? = H[e0]? := hfr _ (fun k' i' p e => by
    have := (c1 k' i' (Or.inl (hP k' i' p).1)).1
    omega)
  refine ⟨fun k' i' q => c1 k' i' (hL' k' i' q), fun k' i' q qo => ?_, fun j hj => ?_, fun j hj => ?_, fun a b a' b' q q' => c5 a b a' b' (hL' a b q) (hL' a' b' q'), fun q hq => ?_⟩
  · by_cases e : P k' i'
    · exact hcell k' i' e
    · have ql := hll k' i' q
      rw [cc_c_of hr (fun _ _ _ => rfl) ql qo (hc k' i' ql qo e)]
      refine cr_at_eq (c2 k' i' ql qo) (hfr _ (fun k2 i2 p e9 => ?_))
      obtain ⟨rfl, rfl⟩ := c5 k' i' k2 i2 (Or.inl ql) (Or.inl (hP k2 i2 p).1) e9
      exact e p
  · rw [hn _ (cc_n_in hj)]
    refine (c3 j hj).fr (out 5 j (Or.inl hj) rfl) ?_
    by_cases q6 : A 6 j = e0
    · rw [q6]
      exact oute
    · exact out 6 j (Or.inr (Or.inl ⟨rfl, hj, q6⟩)) rfl
  · rw [h4] at hj
    rw [h12 j]
    refine (c4 j hj).fr (out 7 j (Or.inl hj) rfl) ?_
    by_cases q8 : A 8 j = e0
    · rw [q8]
      exact oute
    · exact out 8 j (Or.inr (Or.inr ⟨rfl, hj, q8⟩)) rfl
  · refine (hfr q (fun k i p e => ?_)).trans (c8 q hq)
    have := (c1 k i (Or.inl (hP k i p).1)).1
    omega
def rw_A (A : Nat → Nat → Nat) (d n q ea : Nat) : Nat → Nat → Nat := fun k i => if k = 13 ∧ i = 50 * d + n then q else if k = 8 ∧ i = d then ea else A k i
theorem rw_A_new {d n q ea : Nat} : rw_A A d n q ea 13 (50 * d + n) = q := if_pos ⟨rfl, rfl⟩
theorem rw_A_arr {d n q ea : Nat} : rw_A A d n q ea 8 d = ea := by
  unfold rw_A
  rw [if_neg (by omega), if_pos ⟨rfl, rfl⟩]
theorem rw_A_old {d n q ea k i : Nat} (h1 : ¬ (k = 13 ∧ i = 50 * d + n)) (h2 : ¬ (k = 8 ∧ i = d)) : rw_A A d n q ea k i = A k i := by
  unfold rw_A
  rw [if_neg h1, if_neg h2]
theorem rw_l {d : Nat} (hd : d < G 4 0) (hd5 : G 12 d < 50) (hn : ∀ k, k = 2 ∨ k = 4 ∨ k = 16 ∨ k = 19 ∨ k = 22 → G' k 0 = G k 0) (h12 : ∀ j, j ≠ d → G' 12 j = G 12 j) (h12d : G' 12 d = G 12 d + 1) (k i : Nat) : cc_l G' k i ↔ (cc_l G k i ∨ (k = 13 ∧ i = 50 * d + G 12 d)) := by
  have a2 := hn 2 (by simp)
  have a4 := hn 4 (by simp)
  have a16 := hn 16 (by simp)
  have a19 := hn 19 (by simp)
  have a22 := hn 22 (by simp)
  by_cases e : k = 13
  · subst e
    show (i / 50 < G' 4 0 ∧ i % 50 < G' 12 (i / 50)) ↔ ((i / 50 < G 4 0 ∧ i % 50 < G 12 (i / 50)) ∨ (13 = 13 ∧ i = 50 * d + G 12 d))
    rw [a4]
    by_cases e2 : i / 50 = d
    · rw [e2, h12d]
      omega
    · rw [h12 _ e2]
      omega
  · constructor
    · intro q
      refine Or.inl ?_
      unfold cc_l at q ⊢
      split at q <;> simp_all
    · rintro (q | q)
      · unfold cc_l at q ⊢
        split at q <;> simp_all
      · exact absurd q.1 e
theorem rw_hA {d q ea : Nat} (hd5 : G 12 d < 50) : ∀ k i, cc_l G k i → rw_A A d (G 12 d) q ea k i = A k i := fun k i ql => rw_A_old (by
  rintro ⟨rfl, e2⟩
  have := (show i / 50 < G 4 0 ∧ i % 50 < G 12 (i / 50) from ql)
  have e3 : i / 50 = d := by omega
  rw [e3] at this
  omega) (by
  rintro ⟨rfl, -⟩
  exact ql)
theorem cc_addrow (he : e0 < s0.heap.size) (h : cc_H s0 D ca e0 O H A G w) (hr : cc_r G) (hz : s0.heap.size ≤ H.size) {d q ea : Nat} (hd : d < G 4 0) (hd5 : G 12 d < 50) (h50 : ∀ i, i < G 4 0 → G 12 i ≤ 50) (hn : ∀ k, k = 2 ∨ k = 4 ∨ k = 16 ∨ k = 19 ∨ k = 22 → G' k 0 = G k 0) (h12 : ∀ j, j ≠ d → G' 12 j = G 12 j) (h12d : G' 12 d = G 12 d + 1)
    (hfr : cr_Fr (cr_tp s0 (A 7 d) (A 8 d)) H H') (hq : H.size ≤ q) (hea : ea = A 8 d ∨ (H.size ≤ ea ∧ ea ≠ q)) (hcell : va_at D kc (q, cc_c ca (rw_A A d (G 12 d) q ea) G' w' 13 (50 * d + G 12 d)) H')
    (hli : cr_li s0 D ca e0 H' (A 7 d) ea (G 12 d + 1) (fun i => if i = G 12 d then q else A 13 (50 * d + i)))
    (hc : ∀ k i, cc_l G k i → cc_o k = true → cc_same G G' w w' k i) : cc_H s0 D ca e0 (fun x => O x ∨ H.size ≤ x) H' (rw_A A d (G 12 d) q ea) G' w' := by
  have hl := rw_l hd hd5 hn h12 h12d
  have a4 : G' 4 0 = G 4 0 := hn 4 (by simp)
  have hA := rw_hA (A := A) (q := q) (ea := ea) hd5
  have hlt := fun k i (ql : cc_L e0 A G k i) => h.lt ql
  have hin := h.2.2.2.2.1
  have hlo := h.1
  have L7 : cc_L e0 A G 7 d := Or.inl hd
  have l7 := (hlo 7 d L7).1
  have ntp : ∀ k i, cc_L e0 A G k i → ¬ (k = 7 ∧ i = d) → ¬ (k = 8 ∧ i = d) → ¬ cr_tp s0 (A 7 d) (A 8 d) (A k i) := by
    rintro k i ql n5 n6 (e | ⟨e, e2⟩)
    · exact n5 (hin k i 7 d ql L7 e)
    · by_cases q6 : A 8 d = e0
      · rw [e, q6] at e2
        omega
      · exact n6 (hin k i 8 d ql (Or.inr (Or.inr ⟨rfl, hd, q6⟩)) e)
  have nte : ¬ cr_tp s0 (A 7 d) (A 8 d) e0 := by
    rintro (e | ⟨-, e⟩)
    · omega
    · omega
  have A6 : ∀ i, rw_A A d (G 12 d) q ea 6 i = A 6 i := fun i => rw_A_old (by omega) (by omega)
  have A8 : ∀ i, i ≠ d → rw_A A d (G 12 d) q ea 8 i = A 8 i := fun i hi => rw_A_old (by omega) (fun e => hi e.2)
  have A8d : rw_A A d (G 12 d) q ea 8 d = ea := rw_A_arr
  have hnew : ∀ k i, cc_L e0 (rw_A A d (G 12 d) q ea) G' k i → (cc_L e0 A G k i ∧ rw_A A d (G 12 d) q ea k i = A k i) ∨ (H.size ≤ rw_A A d (G 12 d) q ea k i ∧ ((k = 13 ∧ i = 50 * d + G 12 d) ∨ (k = 8 ∧ i = d ∧ ea ≠ q))) := by
    rintro k i (ql | ⟨rfl, q2, q3⟩ | ⟨rfl, q2, q3⟩)
    · rcases (hl k i).mp ql with ql | ⟨rfl, rfl⟩
      · exact Or.inl ⟨Or.inl ql, hA k i ql⟩
      · refine Or.inr ⟨?_, Or.inl ⟨rfl, rfl⟩⟩
        rw [rw_A_new]
        exact hq
    · rw [A6 i] at q3 ⊢
      exact Or.inl ⟨Or.inr (Or.inl ⟨rfl, q2, q3⟩), rfl⟩
    · rw [a4] at q2
      by_cases e : i = d
      · subst e
        rw [A8d] at q3 ⊢
        rcases hea with e9 | e9
        · refine Or.inl ⟨Or.inr (Or.inr ⟨rfl, q2, ?_⟩), e9⟩
          rw [← e9]
          exact q3
        · exact Or.inr ⟨e9.1, Or.inr ⟨rfl, rfl, e9.2⟩⟩
      · rw [A8 i e] at q3 ⊢
        exact Or.inl ⟨Or.inr (Or.inr ⟨rfl, q2, q3⟩), rfl⟩
  have cls : ∀ k i, cc_L e0 (rw_A A d (G 12 d) q ea) G' k i → H.size ≤ rw_A A d (G 12 d) q ea k i → ((k = 13 ∧ i = 50 * d + G 12 d) ∨ (k = 8 ∧ i = d ∧ ea ≠ q)) := by
    intro k i ql hs
    rcases hnew k i ql with ⟨q1, q2⟩ | ⟨-, q2⟩
    · have := hlt k i q1
      omega
    · exact q2
  have keep : ∀ k i, cc_L e0 A G k i → ¬ (k = 7 ∧ i = d) → ¬ (k = 8 ∧ i = d) → H'[A k i]? = H[A k i]? := fun k i ql n5 n6 => hfr.2 _ (hlt k i ql) (ntp k i ql n5 n6)
  have keepe : H'[e0]? = H[e0]? := hfr.2 _ (by omega) nte
  refine h.grow hfr hz (fun k i ql qo => ntp k i (Or.inl ql) (by rintro ⟨rfl, -⟩; cases qo) (by rintro ⟨rfl, -⟩; cases qo)) (fun x hx => ?_) hA (fun k i ql qo => cc_c_of hr hA ql qo (hc k i ql qo)) (fun k i ql => ?_) (fun k i q1 q2 _ => ?_) (fun k i k' i' q1 q2 q3 q4 e => ?_) (fun i hi => ?_) (fun i hi => ?_)
  · rcases hx with e | ⟨-, e⟩
    · rw [e]
      exact l7
    · exact e
  · rcases hnew k i ql with q1 | ⟨q1, -⟩
    · exact Or.inl q1
    · exact Or.inr q1
  · rcases (hl k i).mp q1 with q | ⟨rfl, rfl⟩
    · exact absurd q q2
    · rw [rw_A_new]
      exact hcell
  · rcases cls k i q1 q3 with ⟨rfl, rfl⟩ | ⟨rfl, rfl, n1⟩ <;> rcases cls k' i' q2 q4 with ⟨rfl, rfl⟩ | ⟨rfl, rfl, n2⟩
    · exact ⟨rfl, rfl⟩
    · rw [rw_A_new, A8d] at e
      exact absurd e.symm n2
    · rw [rw_A_new, A8d] at e
      exact absurd e n1
    · exact ⟨rfl, rfl⟩
  · have A5 : rw_A A d (G 12 d) q ea 5 i = A 5 i := rw_A_old (by omega) (by omega)
    have ef : rw_A A d (G 12 d) q ea i = A i := by
      funext x
      exact rw_A_old (by omega) (by omega)
    rw [A5, A6 i, hn _ (cc_n_in hi), ef]
    refine (h.2.2.1 i hi).fr (keep 5 i (Or.inl hi) (by omega) (by omega)) ?_
    by_cases q6 : A 6 i = e0
    · rw [q6]
      exact keepe
    · exact keep 6 i (Or.inr (Or.inl ⟨rfl, hi, q6⟩)) (by omega) (by omega)
  · rw [a4] at hi
    have A7 : rw_A A d (G 12 d) q ea 7 i = A 7 i := rw_A_old (by omega) (by omega)
    rw [A7]
    by_cases e : i = d
    · subst e
      have ef : (fun x => rw_A A i (G 12 i) q ea 13 (50 * i + x)) = fun x => if x = G 12 i then q else A 13 (50 * i + x) := by
        funext x
        by_cases ex : x = G 12 i
        · rw [if_pos ex, ex, rw_A_new]
        · rw [if_neg ex]
          exact rw_A_old (by omega) (by omega)
      rw [A8d, h12d, ef]
      exact hli
    · have h5 := h50 i hi
      rw [A8 i e, h12 i e]
      have old := (h.2.2.2.1 i hi).fr (keep 7 i (Or.inl hi) (by omega) (by omega)) (by
        by_cases q8 : A 8 i = e0
        · rw [q8]
          exact keepe
        · exact keep 8 i (Or.inr (Or.inr ⟨rfl, hi, q8⟩)) (by omega) (by omega))
      obtain ⟨z1, md, z2, z3⟩ := old
      refine ⟨z1, md, z2, ?_⟩
      rcases z3 with z3 | ⟨z4, N, g, z5, z6, z7, z8, z9⟩
      · exact Or.inl z3
      · refine Or.inr ⟨z4, N, g, z5, z6, z7, z8, fun x hx => ?_⟩
        rw [z9 x hx]
        refine congrArg some (Eq.symm (rw_A_old ?_ (by omega)))
        rintro ⟨-, e9⟩
        omega
end STS
