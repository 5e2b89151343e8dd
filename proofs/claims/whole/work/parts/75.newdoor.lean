/-! THE CLASS: a door more (its cell b, its knowledge b + 1 with arrays b + 2, b + 3, its list b + 4) -/
section NDO
variable {l : Launch} {s0 : State} {D : va_G} {ca : Nat → ClassId} {e0 : Nat} {O : Nat → Prop} {H H' : Heap} {A : Nat → Nat → Nat} {G : mm_G} {w : cc_W}
def dr_G (G : mm_G) (a b : Nat) : mm_G := mm_up (mm_up (mm_up (mm_up G 5 (G 4 0) a) 6 (G 4 0) b) 10 (G 4 0) 9000) 4 0 (G 4 0 + 1)
def dr_A (e0 : Nat) (A : Nat → Nat → Nat) (n b ea : Nat) : Nat → Nat → Nat
  | 1, i => if i = n then b else A 1 i
  | 6, i => if i = 1 then ea else A 6 i
  | 7, i => if i = n then b + 4 else A 7 i
  | 8, i => if i = n then e0 else A 8 i
  | 9, i => if i = n + 1 then b + 1 else A 9 i
  | 10, i => if i = n + 1 then b + 2 else A 10 i
  | 11, i => if i = n + 1 then b + 3 else A 11 i
  | k, i => A k i
def w_d (w : cc_W) (n : Nat) (g1 g2 : Nat → Int32) : cc_W := ((fun k i => if i = n + 1 then 0 else w.1 k i), (fun i => if i = n + 1 then g1 else w.2.1 i), (fun i => if i = n + 1 then g2 else w.2.2.1 i), w.2.2.2.1, w.2.2.2.2.1, w.2.2.2.2.2.1, w.2.2.2.2.2.2.1, fun i => if i = n then 0 else w.2.2.2.2.2.2.2 i)
theorem dr_G_k {a b k i : Nat} (h1 : k ≠ 4) (h2 : k ≠ 5) (h3 : k ≠ 6) (h4 : k ≠ 10) : dr_G G a b k i = G k i := by
  unfold dr_G
  rw [mm_up_k _ _ _ _ h1, mm_up_k _ _ _ _ h4, mm_up_k _ _ _ _ h3, mm_up_k _ _ _ _ h2]
theorem dr_G_i {a b k i : Nat} (h1 : k ≠ 4) (hi : i ≠ G 4 0) : dr_G G a b k i = G k i := by
  unfold dr_G
  rw [mm_up_k _ _ _ _ h1, mm_up_i _ _ _ _ hi, mm_up_i _ _ _ _ hi, mm_up_i _ _ _ _ hi]
theorem dr_G_4 {a b : Nat} : dr_G G a b 4 0 = G 4 0 + 1 := mm_up_s _ _ _ _
theorem dr_G_5 {a b : Nat} : dr_G G a b 5 (G 4 0) = a := by
  unfold dr_G
  rw [mm_up_k _ _ _ _ (by decide), mm_up_k _ _ _ _ (by decide), mm_up_k _ _ _ _ (by decide), mm_up_s]
theorem dr_G_6 {a b : Nat} : dr_G G a b 6 (G 4 0) = b := by
  unfold dr_G
  rw [mm_up_k _ _ _ _ (by decide), mm_up_k _ _ _ _ (by decide), mm_up_s]
theorem dr_G_10 {a b : Nat} : dr_G G a b 10 (G 4 0) = 9000 := by
  unfold dr_G
  rw [mm_up_k _ _ _ _ (by decide), mm_up_s]
/-- what lives after it -/
theorem dr_l {a b : Nat} (h12 : G 12 (G 4 0) = 0) (k i : Nat) : cc_l (dr_G G a b) k i ↔ (cc_l G k i ∨ ((k = 1 ∨ k = 7) ∧ i = G 4 0) ∨ ((k = 9 ∨ k = 10 ∨ k = 11) ∧ i = G 4 0 + 1)) := by
  have e : ∀ k i, k ≠ 4 → k ≠ 5 → k ≠ 6 → k ≠ 10 → dr_G G a b k i = G k i := fun k i h1 h2 h3 h4 => dr_G_k h1 h2 h3 h4
  have e4 : dr_G G a b 4 0 = G 4 0 + 1 := dr_G_4
  have e2 := e 2 0 (by decide) (by decide) (by decide) (by decide)
  have e16 := e 16 0 (by decide) (by decide) (by decide) (by decide)
  have e19 := e 19 0 (by decide) (by decide) (by decide) (by decide)
  have e22 := e 22 0 (by decide) (by decide) (by decide) (by decide)
  have e12 := fun d => e 12 d (by decide) (by decide) (by decide) (by decide)
  unfold cc_l
  split
  · rw [e2]; omega
  · rw [e4]; omega
  · rw [e16]; omega
  · rw [e19]; omega
  · rw [e22]; omega
  · omega
  · rw [e4]; omega
  · rw [e4]; omega
  · rw [e4]; omega
  · rw [e4]; omega
  · omega
  · rw [e4, e12]
    constructor
    · rintro ⟨q1, q2⟩
      by_cases q : i / 50 = G 4 0
      · rw [q, h12] at q2
        omega
      · exact Or.inl ⟨by omega, q2⟩
    · rintro (⟨q1, q2⟩ | q | q)
      · exact ⟨by omega, q2⟩
      · omega
      · omega
  · omega
  · rename_i n1 n2 n3 n4 n5 n6 n7 n8 n9 n10 n11 n12 n13
    constructor
    · exact fun q => q.elim
    · rintro (q | ⟨q | q, -⟩ | ⟨q | q | q, -⟩)
      · exact q
      · exact n2 q
      · exact n7 q
      · exact n8 q
      · exact n9 q
      · exact n10 q
theorem dr_hA {b ea k i : Nat} (ql : cc_l G k i) : dr_A e0 A (G 4 0) b ea k i = A k i := by
  unfold dr_A
  split
  · exact if_neg (Nat.ne_of_lt ql)
  · exact ql.elim
  · exact if_neg (Nat.ne_of_lt ql)
  · exact ql.elim
  · exact if_neg (Nat.ne_of_lt (Nat.lt_succ_of_le ql))
  · exact if_neg (Nat.ne_of_lt (Nat.lt_succ_of_le ql))
  · exact if_neg (Nat.ne_of_lt (Nat.lt_succ_of_le ql))
  · rfl
theorem dr_same {a b : Nat} {g1 g2 : Nat → Int32} : ∀ k i, cc_l G k i → cc_same G (dr_G G a b) w (w_d w (G 4 0) g1 g2) k i := by
  intro k i ql
  have e : ∀ k i, k ≠ 4 → k ≠ 5 → k ≠ 6 → k ≠ 10 → dr_G G a b k i = G k i := fun k i h1 h2 h3 h4 => dr_G_k h1 h2 h3 h4
  unfold cc_same w_d
  split <;> simp [e]
  · have hi : ¬ _ = G 4 0 := Nat.ne_of_lt ql
    refine ⟨dr_G_i (by decide) hi, dr_G_i (by decide) hi, fun e9 => absurd e9 hi, ?_⟩
    rw [dr_G_i (by decide) hi]
  · have hi : ¬ _ = G 4 0 + 1 := Nat.ne_of_lt (Nat.lt_succ_of_le ql)
    exact ⟨fun e9 => absurd e9 hi, fun e9 => absurd e9 hi⟩
  · have hi : ¬ _ = G 4 0 + 1 := Nat.ne_of_lt (Nat.lt_succ_of_le ql)
    exact fun e9 => absurd e9 hi
  · have hi : ¬ _ = G 4 0 + 1 := Nat.ne_of_lt (Nat.lt_succ_of_le ql)
    exact fun e9 => absurd e9 hi
theorem cc_newdoor (he : e0 < s0.heap.size) (h : cc_H s0 D ca e0 O H A G w) (hr : cc_r G) (hz : s0.heap.size ≤ H.size) {a b ea : Nat} {g1 g2 : Nat → Int32} (ha : a < G 2 0) (hb : b < G 2 0) (h7 : G 7 (G 4 0) = 0) (h8 : G 8 (G 4 0) = 0) (h9 : G 9 (G 4 0) = 0) (h12 : G 12 (G 4 0) = 0)
    (hfr : cr_Fr (cr_tp s0 (A 5 1) (A 6 1)) H H') (hea : ea = A 6 1 ∨ ea = H.size + 5)
    (c1 : va_at D kc (H.size, .inr (2, [.int (nI (G 4 0)), .ref (A 0 a), .ref (A 0 b), .int 0, .int 0, .int 0, .int 0, .int 0, .ref (H.size + 1), .ref (H.size + 4)])) H')
    (c2 : va_at D kc (H.size + 1, .inr (4, [.int 0, .int 0, .ref (H.size + 2), .ref (H.size + 3)])) H') (c3 : va_at D kc (H.size + 2, .inl (ca 0, 60, .inl g1)) H') (c4 : va_at D kc (H.size + 3, .inl (ca 0, 16, .inl g2)) H')
    (c5 : ∀ f, cr_li s0 D ca e0 H' (H.size + 4) e0 0 f) (hli : cr_li s0 D ca e0 H' (A 5 1) ea (G 4 0 + 1) (fun i => if i = G 4 0 then H.size else A 1 i)) :
    cc_H s0 D ca e0 (fun x => O x ∨ H.size ≤ x) H' (dr_A e0 A (G 4 0) H.size ea) (dr_G G a b) (w_d w (G 4 0) g1 g2) := by
  have hl := dr_l (G := G) (a := a) (b := b) h12
  have hlt := fun k i (ql : cc_L e0 A G k i) => h.lt ql
  have hin := h.2.2.2.2.1
  have hlo := h.1
  have L5 : cc_L e0 A G 5 1 := Or.inl (show 1 < 5 by decide)
  have l5 := (hlo 5 1 L5).1
  have e4 : dr_G G a b 4 0 = G 4 0 + 1 := dr_G_4
  have ntp : ∀ k i, cc_L e0 A G k i → ¬ (k = 5 ∧ i = 1) → ¬ (k = 6 ∧ i = 1) → ¬ cr_tp s0 (A 5 1) (A 6 1) (A k i) := by
    rintro k i ql n5 n6 (e | ⟨e, e2⟩)
    · exact n5 (hin k i 5 1 ql L5 e)
    · by_cases q6 : A 6 1 = e0
      · rw [e, q6] at e2
        omega
      · exact n6 (hin k i 6 1 ql (Or.inr (Or.inl ⟨rfl, by decide, q6⟩)) e)
  have nte : ¬ cr_tp s0 (A 5 1) (A 6 1) e0 := by
    rintro (e | ⟨-, e⟩)
    · omega
    · omega
  have A6 : ∀ i, i ≠ 1 → dr_A e0 A (G 4 0) H.size ea 6 i = A 6 i := fun i hi => if_neg hi
  have A61 : dr_A e0 A (G 4 0) H.size ea 6 1 = ea := rfl
  have A8 : ∀ i, i ≠ G 4 0 → dr_A e0 A (G 4 0) H.size ea 8 i = A 8 i := fun i hi => if_neg hi
  have A8n : dr_A e0 A (G 4 0) H.size ea 8 (G 4 0) = e0 := if_pos rfl
  have N1 : dr_A e0 A (G 4 0) H.size ea 1 (G 4 0) = H.size := if_pos rfl
  have N7 : dr_A e0 A (G 4 0) H.size ea 7 (G 4 0) = H.size + 4 := if_pos rfl
  have N9 : dr_A e0 A (G 4 0) H.size ea 9 (G 4 0 + 1) = H.size + 1 := if_pos rfl
  have N10 : dr_A e0 A (G 4 0) H.size ea 10 (G 4 0 + 1) = H.size + 2 := if_pos rfl
  have N11 : dr_A e0 A (G 4 0) H.size ea 11 (G 4 0 + 1) = H.size + 3 := if_pos rfl
  -- each place: old, or one of the new ones
  have hnew : ∀ k i, cc_L e0 (dr_A e0 A (G 4 0) H.size ea) (dr_G G a b) k i → (cc_L e0 A G k i ∧ dr_A e0 A (G 4 0) H.size ea k i = A k i) ∨ (k = 1 ∧ i = G 4 0 ∧ dr_A e0 A (G 4 0) H.size ea k i = H.size) ∨ (k = 9 ∧ i = G 4 0 + 1 ∧ dr_A e0 A (G 4 0) H.size ea k i = H.size + 1) ∨ (k = 10 ∧ i = G 4 0 + 1 ∧ dr_A e0 A (G 4 0) H.size ea k i = H.size + 2) ∨ (k = 11 ∧ i = G 4 0 + 1 ∧ dr_A e0 A (G 4 0) H.size ea k i = H.size + 3) ∨ (k = 7 ∧ i = G 4 0 ∧ dr_A e0 A (G 4 0) H.size ea k i = H.size + 4) ∨ (k = 6 ∧ i = 1 ∧ dr_A e0 A (G 4 0) H.size ea k i = H.size + 5) := by
    rintro k i (ql | ⟨rfl, q2, q3⟩ | ⟨rfl, q2, q3⟩)
    · rcases (hl k i).mp ql with ql | ⟨rfl | rfl, rfl⟩ | ⟨rfl | rfl | rfl, rfl⟩
      · exact Or.inl ⟨Or.inl ql, dr_hA ql⟩
      · exact Or.inr (Or.inl ⟨rfl, rfl, N1⟩)
      · exact Or.inr (Or.inr (Or.inr (Or.inr (Or.inr (Or.inl ⟨rfl, rfl, N7⟩)))))
      · exact Or.inr (Or.inr (Or.inl ⟨rfl, rfl, N9⟩))
      · exact Or.inr (Or.inr (Or.inr (Or.inl ⟨rfl, rfl, N10⟩)))
      · exact Or.inr (Or.inr (Or.inr (Or.inr (Or.inl ⟨rfl, rfl, N11⟩))))
    · by_cases e : i = 1
      · subst e
        rw [A61] at q3 ⊢
        rcases hea with e9 | e9
        · refine Or.inl ⟨Or.inr (Or.inl ⟨rfl, q2, ?_⟩), e9⟩
          rw [← e9]
          exact q3
        · exact Or.inr (Or.inr (Or.inr (Or.inr (Or.inr (Or.inr ⟨rfl, rfl, e9⟩)))))
      · rw [A6 i e] at q3 ⊢
        exact Or.inl ⟨Or.inr (Or.inl ⟨rfl, q2, q3⟩), rfl⟩
    · by_cases e : i = G 4 0
      · rw [e, A8n] at q3
        exact absurd rfl q3
      · rw [A8 i e] at q3 ⊢
        rw [e4] at q2
        exact Or.inl ⟨Or.inr (Or.inr ⟨rfl, by omega, q3⟩), rfl⟩
  have keep : ∀ k i, cc_L e0 A G k i → ¬ (k = 5 ∧ i = 1) → ¬ (k = 6 ∧ i = 1) → H'[A k i]? = H[A k i]? := fun k i ql n5 n6 => hfr.2 _ (hlt k i ql) (ntp k i ql n5 n6)
  have keepe : H'[e0]? = H[e0]? := hfr.2 _ (by omega) nte
  refine h.grow hfr hz (fun k i ql qo => ntp k i (Or.inl ql) (by rintro ⟨rfl, -⟩; cases qo) (by rintro ⟨rfl, -⟩; cases qo)) (fun x hx => ?_) (fun k i ql => dr_hA ql) (fun k i ql qo => cc_c_of hr (fun k i ql => dr_hA ql) ql qo (dr_same k i ql)) (fun k i ql => ?_) (fun k i q1 q2 qo => ?_) (fun k i k' i' q1 q2 q3 q4 e => ?_) (fun i hi => ?_) (fun i hi => ?_)
  · rcases hx with e | ⟨-, e⟩
    · rw [e]
      exact l5
    · exact e
  · rcases hnew k i ql with q | ⟨-, -, q⟩ | ⟨-, -, q⟩ | ⟨-, -, q⟩ | ⟨-, -, q⟩ | ⟨-, -, q⟩ | ⟨-, -, q⟩
    · exact Or.inl q
    all_goals (exact Or.inr (by omega))
  · rcases (hl k i).mp q1 with ql | ⟨rfl | rfl, rfl⟩ | ⟨rfl | rfl | rfl, rfl⟩
    · exact absurd ql q2
    · rw [N1]
      have A9n : dr_A e0 A (G 4 0) H.size ea 9 (G 4 0 + 1) = H.size + 1 := N9
      have g7 : dr_G G a b 7 (G 4 0) = 0 := (dr_G_k (by decide) (by decide) (by decide) (by decide)).trans h7
      have g8 : dr_G G a b 8 (G 4 0) = 0 := (dr_G_k (by decide) (by decide) (by decide) (by decide)).trans h8
      have g9 : dr_G G a b 9 (G 4 0) = 0 := (dr_G_k (by decide) (by decide) (by decide) (by decide)).trans h9
      have wl : (w_d w (G 4 0) g1 g2).2.2.2.2.2.2.2 (G 4 0) = 0 := if_pos rfl
      rw [cc_c1, dr_G_5, dr_G_6, g7, g8, g9, dr_G_10, A9n, N7, wl]
      exact c1
    · cases qo
    · rw [N9]
      have w0 : (w_d w (G 4 0) g1 g2).1 0 (G 4 0 + 1) = 0 := if_pos rfl
      have w1 : (w_d w (G 4 0) g1 g2).1 1 (G 4 0 + 1) = 0 := if_pos rfl
      show va_at D kc (H.size + 1, .inr (4, [.int (nI ((w_d w (G 4 0) g1 g2).1 0 (G 4 0 + 1))), .int (nI ((w_d w (G 4 0) g1 g2).1 1 (G 4 0 + 1))), .ref (dr_A e0 A (G 4 0) H.size ea 10 (G 4 0 + 1)), .ref (dr_A e0 A (G 4 0) H.size ea 11 (G 4 0 + 1))])) H'
      rw [w0, w1, N10, N11]
      exact c2
    · rw [N10]
      have w0 : (w_d w (G 4 0) g1 g2).2.1 (G 4 0 + 1) = g1 := if_pos rfl
      show va_at D kc (H.size + 2, .inl (ca 0, 60, .inl ((w_d w (G 4 0) g1 g2).2.1 (G 4 0 + 1)))) H'
      rw [w0]
      exact c3
    · rw [N11]
      have w0 : (w_d w (G 4 0) g1 g2).2.2.1 (G 4 0 + 1) = g2 := if_pos rfl
      show va_at D kc (H.size + 3, .inl (ca 0, 16, .inl ((w_d w (G 4 0) g1 g2).2.2.1 (G 4 0 + 1)))) H'
      rw [w0]
      exact c4
  · have z1 := hnew k i q1
    have z2 := hnew k' i' q2
    have o1 : ∀ q : cc_L e0 A G k i, dr_A e0 A (G 4 0) H.size ea k i = A k i → False := fun q e9 => by
      have := hlt k i q
      omega
    have o2 : ∀ q : cc_L e0 A G k' i', dr_A e0 A (G 4 0) H.size ea k' i' = A k' i' → False := fun q e9 => by
      have := hlt k' i' q
      omega
    rcases z1 with ⟨x1, x2⟩ | z1
    · exact (o1 x1 x2).elim
    rcases z2 with ⟨x1, x2⟩ | z2
    · exact (o2 x1 x2).elim
    omega
  · have A5 : dr_A e0 A (G 4 0) H.size ea 5 i = A 5 i := rfl
    rw [A5]
    by_cases e : i = 1
    · subst e
      have ef : dr_A e0 A (G 4 0) H.size ea 1 = fun x => if x = G 4 0 then H.size else A 1 x := rfl
      rw [A61, show dr_G G a b (cc_n 1) 0 = G 4 0 + 1 from dr_G_4, ef]
      exact hli
    · have en : dr_G G a b (cc_n i) 0 = G (cc_n i) 0 := by
        rcases (show i = 0 ∨ i = 2 ∨ i = 3 ∨ i = 4 by omega) with rfl | rfl | rfl | rfl <;> exact dr_G_k (by decide) (by decide) (by decide) (by decide)
      have ef : dr_A e0 A (G 4 0) H.size ea i = A i := by
        rcases (show i = 0 ∨ i = 2 ∨ i = 3 ∨ i = 4 by omega) with rfl | rfl | rfl | rfl <;> rfl
      rw [A6 i e, en, ef]
      refine (h.2.2.1 i hi).fr (keep 5 i (Or.inl hi) (by omega) (by omega)) ?_
      by_cases q6 : A 6 i = e0
      · rw [q6]
        exact keepe
      · exact keep 6 i (Or.inr (Or.inl ⟨rfl, hi, q6⟩)) (by omega) (by omega)
  · rw [e4] at hi
    have e12 : dr_G G a b 12 i = G 12 i := dr_G_k (by decide) (by decide) (by decide) (by decide)
    by_cases e : i = G 4 0
    · rw [e12, e, N7, A8n, h12]
      exact c5 _
    · have A7 : dr_A e0 A (G 4 0) H.size ea 7 i = A 7 i := if_neg e
      rw [A7, A8 i e, e12]
      refine (h.2.2.2.1 i (by omega)).fr (keep 7 i (Or.inl (show i < G 4 0 by omega)) (by omega) (by omega)) ?_
      by_cases q8 : A 8 i = e0
      · rw [q8]
        exact keepe
      · exact keep 8 i (Or.inr (Or.inr ⟨rfl, by omega, q8⟩)) (by omega) (by omega)
end NDO
