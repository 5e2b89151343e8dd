/-! THE CLASS: an element more in one of its lists (rooms 0, persons 2, cards 3, rights 4) -/
section ADD
variable {s0 : State} {D : va_G} {ca : Nat → ClassId} {e0 : Nat} {O : Nat → Prop} {H H' : Heap} {A : Nat → Nat → Nat} {G G' : mm_G} {w w' : cc_W}
def ad_A (A : Nat → Nat → Nat) (j n q ea : Nat) : Nat → Nat → Nat := fun k i => if k = j ∧ i = n then q else if k = 6 ∧ i = j then ea else A k i
theorem ad_A_new (j n q ea : Nat) : ad_A A j n q ea j n = q := if_pos ⟨rfl, rfl⟩
theorem ad_A_arr {j n q ea : Nat} (hj : j < 5) : ad_A A j n q ea 6 j = ea := by
  unfold ad_A
  rw [if_neg (by omega), if_pos ⟨rfl, rfl⟩]
theorem ad_A_old {j n q ea k i : Nat} (h1 : ¬ (k = j ∧ i = n)) (h2 : ¬ (k = 6 ∧ i = j)) : ad_A A j n q ea k i = A k i := by
  unfold ad_A
  rw [if_neg h1, if_neg h2]
theorem cc_l_5 {j i : Nat} (hj : j < 5) : cc_l G j i ↔ i < G (cc_n j) 0 := by
  rcases (show j = 0 ∨ j = 1 ∨ j = 2 ∨ j = 3 ∨ j = 4 by omega) with rfl | rfl | rfl | rfl | rfl <;> exact Iff.rfl
/-- what lives after it -/
theorem ad_l {j : Nat} (hj : j = 0 ∨ j = 2 ∨ j = 3 ∨ j = 4) (h1 : G' (cc_n j) 0 = G (cc_n j) 0 + 1) (h2 : ∀ i, i < 5 → i ≠ j → G' (cc_n i) 0 = G (cc_n i) 0) (h12 : ∀ d, G' 12 d = G 12 d) (k i : Nat) : cc_l G' k i ↔ (cc_l G k i ∨ (k = j ∧ i = G (cc_n j) 0)) := by
  have a4 : G' 4 0 = G 4 0 := h2 1 (by decide) (by omega)
  by_cases hk : k < 5
  · rw [cc_l_5 hk, cc_l_5 hk]
    by_cases e : k = j
    · subst e
      rw [h1]
      omega
    · rw [h2 k hk e]
      constructor
      · exact fun q => Or.inl q
      · rintro (q | q)
        · exact q
        · exact absurd q.1 e
  · have e : ¬ (k = j ∧ i = G (cc_n j) 0) := by omega
    constructor
    · intro q
      refine Or.inl ?_
      unfold cc_l at q ⊢
      split at q <;> simp_all
    · rintro (q | q)
      · unfold cc_l at q ⊢
        split at q <;> simp_all
      · exact absurd q e
theorem cc_add (he : e0 < s0.heap.size) (h : cc_H s0 D ca e0 O H A G w) (hz : s0.heap.size ≤ H.size) {j q ea : Nat} (hj : j = 0 ∨ j = 2 ∨ j = 3 ∨ j = 4) (h1 : G' (cc_n j) 0 = G (cc_n j) 0 + 1) (h2 : ∀ i, i < 5 → i ≠ j → G' (cc_n i) 0 = G (cc_n i) 0) (h12 : ∀ d, G' 12 d = G 12 d)
    (hfr : cr_Fr (cr_tp s0 (A 5 j) (A 6 j)) H H') (hq : H.size ≤ q) (hea : ea = A 6 j ∨ (H.size ≤ ea ∧ ea ≠ q)) (hcell : va_at D kc (q, cc_c ca (ad_A A j (G (cc_n j) 0) q ea) G' w' j (G (cc_n j) 0)) H')
    (hli : cr_li s0 D ca e0 H' (A 5 j) ea (G (cc_n j) 0 + 1) (fun i => if i = G (cc_n j) 0 then q else A j i))
    (hc : ∀ k i, cc_l G k i → cc_o k = true → cc_c ca (ad_A A j (G (cc_n j) 0) q ea) G' w' k i = cc_c ca A G w k i) : cc_H s0 D ca e0 (fun x => O x ∨ H.size ≤ x) H' (ad_A A j (G (cc_n j) 0) q ea) G' w' := by
  have hj5 : j < 5 := by omega
  have hl := ad_l (G := G) (G' := G') hj h1 h2 h12
  have a4 : G' 4 0 = G 4 0 := h2 1 (by decide) (by omega)
  have hne : ∀ k i, cc_l G k i → ¬ (k = j ∧ i = G (cc_n j) 0) := by
    rintro k i q ⟨rfl, e2⟩
    rw [cc_l_5 hj5] at q
    omega
  have h6 : ∀ i, ¬ cc_l G 6 i := fun i q => q
  have h8 : ∀ i, ¬ cc_l G 8 i := fun i q => q
  have hA : ∀ k i, cc_l G k i → ad_A A j (G (cc_n j) 0) q ea k i = A k i := fun k i ql => ad_A_old (hne k i ql) (by
    rintro ⟨rfl, -⟩
    exact h6 i ql)
  have hlt := fun k i (ql : cc_L e0 A G k i) => h.lt ql
  have hin := h.2.2.2.2.1
  have hlo := h.1
  have L5 : cc_L e0 A G 5 j := Or.inl hj5
  have l5 := (hlo 5 j L5).1
  have ntp : ∀ k i, cc_L e0 A G k i → ¬ (k = 5 ∧ i = j) → ¬ (k = 6 ∧ i = j) → ¬ cr_tp s0 (A 5 j) (A 6 j) (A k i) := by
    rintro k i ql n5 n6 (e | ⟨e, e2⟩)
    · exact n5 (hin k i 5 j ql L5 e)
    · by_cases q6 : A 6 j = e0
      · rw [e, q6] at e2
        omega
      · exact n6 (hin k i 6 j ql (Or.inr (Or.inl ⟨rfl, hj5, q6⟩)) e)
  have nte : ¬ cr_tp s0 (A 5 j) (A 6 j) e0 := by
    rintro (e | ⟨-, e⟩)
    · omega
    · omega
  have A8 : ∀ i, ad_A A j (G (cc_n j) 0) q ea 8 i = A 8 i := fun i => ad_A_old (by omega) (by omega)
  have A6 : ∀ i, i ≠ j → ad_A A j (G (cc_n j) 0) q ea 6 i = A 6 i := fun i hi => ad_A_old (by omega) (fun e => hi e.2)
  have A6j : ad_A A j (G (cc_n j) 0) q ea 6 j = ea := ad_A_arr hj5
  have hnew : ∀ k i, cc_L e0 (ad_A A j (G (cc_n j) 0) q ea) G' k i → (cc_L e0 A G k i ∧ ad_A A j (G (cc_n j) 0) q ea k i = A k i) ∨ (H.size ≤ ad_A A j (G (cc_n j) 0) q ea k i ∧ ((k = j ∧ i = G (cc_n j) 0) ∨ (k = 6 ∧ i = j ∧ ea ≠ q))) := by
    rintro k i (ql | ⟨rfl, q2, q3⟩ | ⟨rfl, q2, q3⟩)
    · rcases (hl k i).mp ql with ql | ⟨rfl, rfl⟩
      · exact Or.inl ⟨Or.inl ql, hA k i ql⟩
      · refine Or.inr ⟨?_, Or.inl ⟨rfl, rfl⟩⟩
        rw [ad_A_new]
        exact hq
    · by_cases e : i = j
      · subst e
        rw [A6j] at q3 ⊢
        rcases hea with e9 | e9
        · refine Or.inl ⟨Or.inr (Or.inl ⟨rfl, q2, ?_⟩), e9⟩
          rw [← e9]
          exact q3
        · exact Or.inr ⟨e9.1, Or.inr ⟨rfl, rfl, e9.2⟩⟩
      · rw [A6 i e] at q3 ⊢
        exact Or.inl ⟨Or.inr (Or.inl ⟨rfl, q2, q3⟩), rfl⟩
    · rw [A8 i] at q3 ⊢
      rw [a4] at q2
      exact Or.inl ⟨Or.inr (Or.inr ⟨rfl, q2, q3⟩), rfl⟩
  have cls : ∀ k i, cc_L e0 (ad_A A j (G (cc_n j) 0) q ea) G' k i → H.size ≤ ad_A A j (G (cc_n j) 0) q ea k i → ((k = j ∧ i = G (cc_n j) 0) ∨ (k = 6 ∧ i = j ∧ ea ≠ q)) := by
    intro k i ql hs
    rcases hnew k i ql with ⟨q1, q2⟩ | ⟨-, q2⟩
    · have := hlt k i q1
      omega
    · exact q2
  have keep : ∀ k i, cc_L e0 A G k i → ¬ (k = 5 ∧ i = j) → ¬ (k = 6 ∧ i = j) → H'[A k i]? = H[A k i]? := fun k i ql n5 n6 => hfr.2 _ (hlt k i ql) (ntp k i ql n5 n6)
  have keepe : H'[e0]? = H[e0]? := hfr.2 _ (by omega) nte
  refine h.grow hfr hz (fun k i ql qo => ntp k i (Or.inl ql) (by rintro ⟨rfl, -⟩; cases qo) (by rintro ⟨rfl, -⟩; cases qo)) (fun x hx => ?_) hA hc (fun k i ql => ?_) (fun k i q1 q2 _ => ?_) (fun k i k' i' q1 q2 q3 q4 e => ?_) (fun i hi => ?_) (fun i hi => ?_)
  · rcases hx with e | ⟨-, e⟩
    · rw [e]
      exact l5
    · exact e
  · rcases hnew k i ql with q1 | ⟨q1, -⟩
    · exact Or.inl q1
    · exact Or.inr q1
  · rcases (hl k i).mp q1 with q | ⟨rfl, rfl⟩
    · exact absurd q q2
    · rw [ad_A_new]
      exact hcell
  · rcases cls k i q1 q3 with ⟨rfl, rfl⟩ | ⟨rfl, rfl, n1⟩ <;> rcases cls k' i' q2 q4 with ⟨rfl, rfl⟩ | ⟨rfl, rfl, n2⟩
    · exact ⟨rfl, rfl⟩
    · rw [ad_A_new, A6j] at e
      exact absurd e.symm n2
    · rw [ad_A_new, A6j] at e
      exact absurd e n1
    · exact ⟨rfl, rfl⟩
  · have A5 : ad_A A j (G (cc_n j) 0) q ea 5 i = A 5 i := ad_A_old (by omega) (by omega)
    rw [A5]
    by_cases e : i = j
    · subst e
      rw [A6j, h1]
      have ef : ad_A A i (G (cc_n i) 0) q ea i = fun x => if x = G (cc_n i) 0 then q else A i x := by
        funext x
        unfold ad_A
        by_cases ex : x = G (cc_n i) 0
        · rw [if_pos ⟨rfl, ex⟩, if_pos ex]
        · rw [if_neg (fun z => ex z.2), if_neg (by omega), if_neg ex]
      rw [ef]
      exact hli
    · rw [A6 i e, h2 i hi e]
      have ef : ad_A A j (G (cc_n j) 0) q ea i = A i := by
        funext x
        exact ad_A_old (by omega) (by omega)
      rw [ef]
      refine (h.2.2.1 i hi).fr (keep 5 i (Or.inl hi) (by omega) (by omega)) ?_
      by_cases q6 : A 6 i = e0
      · rw [q6]
        exact keepe
      · exact keep 6 i (Or.inr (Or.inl ⟨rfl, hi, q6⟩)) (by omega) (by omega)
  · rw [a4] at hi
    have A7 : ad_A A j (G (cc_n j) 0) q ea 7 i = A 7 i := ad_A_old (by omega) (by omega)
    have ef : (fun x => ad_A A j (G (cc_n j) 0) q ea 13 (50 * i + x)) = fun x => A 13 (50 * i + x) := by
      funext x
      exact ad_A_old (by omega) (by omega)
    rw [A7, A8 i, h12 i, ef]
    refine (h.2.2.2.1 i hi).fr (keep 7 i (Or.inl hi) (by omega) (by omega)) ?_
    by_cases q8 : A 8 i = e0
    · rw [q8]
      exact keepe
    · exact keep 8 i (Or.inr (Or.inr ⟨rfl, hi, q8⟩)) (by omega) (by omega)
end ADD
