/-! THE CLASS: its constructor (printed by gen/comp30.py) -/
section CIN
variable {l : Launch} {s0 : State} {D : va_G} {ca : Nat → ClassId} {e0 : Nat} {H : Heap}
set_option maxRecDepth 20000 in
theorem j_Fi_init (hl : l.flags = flags0) (Z : cr_Z0 s0 D ca e0) {a : Nat} {v0 v1 v2 : Value} (ha : s0.heap.size ≤ a) (h : va_at D kc (a, .inr (3, [v0, v1, v2])) H) : cr_c l s0 y_Fi_init cw_Fi_init 1 1 400 [.ref a] H (fun o H' => o = .inl none ∧ va_at D kc (a, .inr (3, [.ref H.size, .int 0, .int 0])) H' ∧ va_at D kc (H.size, .inl (ca 0, 400, .inl (fun _ => 0))) H' ∧ H'.size = H.size + 1 ∧ ∀ q : Nat, q < H.size → q ≠ a → H'[q]? = H[q]?) := by
  refine cr_enter (by decide +kernel) (Nat.le_of_ble_eq_true rfl) (fun hlo P9 E9 S9 M9 A9 B9 T9 C9 C hem hH => ?_)
  have hlt := cr_at_lt h
  refine cr_vc [] 120 (s_Fi_init hl Z C hem) (fun K hK => ?_)
  conv => whnf
  refine ⟨rfl, by decide, by decide, ?_⟩
  conv => whnf
  refine ⟨400, rfl, by decide, by decide, cr_le rfl, cr_le rfl, fun q8 H8 n8 => ?_⟩
  obtain ⟨eN, lqN, szN, atN, frN⟩ := n8
  subst eN
  have aN := cr_at_eq h (frN _ hlt)
  conv => whnf
  refine ⟨_, aN, ha, ⟨rfl, rfl⟩, ?_⟩
  conv => whnf
  intro H10 u10
  conv => whnf
  refine ⟨_, u10.2.1, ha, ⟨rfl, rfl⟩, ?_⟩
  conv => whnf
  intro H15 u15
  conv => whnf
  refine ⟨_, u15.2.1, ha, ⟨rfl, rfl⟩, ?_⟩
  conv => whnf
  intro H20 u20
  conv => whnf
  refine ⟨cr_le rfl, cr_le rfl, rfl, u20.2.1, (cr_at_eq (cr_at_eq (cr_at_eq atN (u10.2.2 _ (by omega))) (u15.2.2 _ (by omega))) (u20.2.2 _ (by omega))), by rw [u20.1, u15.1, u10.1, szN], fun q h1 h2 => by rw [u20.2.2 q h2, u15.2.2 q h2, u10.2.2 q h2, frN q h1]⟩
set_option maxRecDepth 20000 in
theorem j_Us_init (hl : l.flags = flags0) (Z : cr_Z0 s0 D ca e0) {a : Nat} {v0 v1 : Value} (ha : s0.heap.size ≤ a) (h : va_at D kc (a, .inr (10, [v0, v1])) H) : cr_c l s0 y_Us_init cw_Us_init 1 1 2250 [.ref a] H (fun o H' => o = .inl none ∧ va_at D kc (a, .inr (10, [.ref H.size, .int 0])) H' ∧ va_at D kc (H.size, .inl (ca 1, 2250, .inr (.inl (fun _ => 0)))) H' ∧ H'.size = H.size + 1 ∧ ∀ q : Nat, q < H.size → q ≠ a → H'[q]? = H[q]?) := by
  refine cr_enter (by decide +kernel) (Nat.le_of_ble_eq_true rfl) (fun hlo P9 E9 S9 M9 A9 B9 T9 C9 C hem hH => ?_)
  have hlt := cr_at_lt h
  refine cr_vc [] 120 (s_Us_init hl Z C hem) (fun K hK => ?_)
  conv => whnf
  refine ⟨rfl, by decide, by decide, ?_⟩
  conv => whnf
  refine ⟨2250, rfl, by decide, by decide, cr_le rfl, cr_le rfl, fun q8 H8 n8 => ?_⟩
  obtain ⟨eN, lqN, szN, atN, frN⟩ := n8
  subst eN
  have aN := cr_at_eq h (frN _ hlt)
  conv => whnf
  refine ⟨_, aN, ha, ⟨rfl, rfl⟩, ?_⟩
  conv => whnf
  intro H10 u10
  conv => whnf
  refine ⟨_, u10.2.1, ha, ⟨rfl, rfl⟩, ?_⟩
  conv => whnf
  intro H15 u15
  conv => whnf
  refine ⟨cr_le rfl, cr_le rfl, rfl, u15.2.1, (cr_at_eq (cr_at_eq atN (u10.2.2 _ (by omega))) (u15.2.2 _ (by omega))), by rw [u15.1, u10.1, szN], fun q h1 h2 => by rw [u15.2.2 q h2, u10.2.2 q h2, frN q h1]⟩
set_option maxRecDepth 20000 in
theorem j_Ne_init (hl : l.flags = flags0) (Z : cr_Z0 s0 D ca e0) {a : Nat} {v0 v1 : Value} (ha : s0.heap.size ≤ a) (h : va_at D kc (a, .inr (5, [v0, v1])) H) : cr_c l s0 y_Ne_init cw_Ne_init 1 1 32 [.ref a] H (fun o H' => o = .inl none ∧ va_at D kc (a, .inr (5, [.ref H.size, .int 0])) H' ∧ va_at D kc (H.size, .inl (ca 0, 32, .inl (fun _ => 0))) H' ∧ H'.size = H.size + 1 ∧ ∀ q : Nat, q < H.size → q ≠ a → H'[q]? = H[q]?) := by
  refine cr_enter (by decide +kernel) (Nat.le_of_ble_eq_true rfl) (fun hlo P9 E9 S9 M9 A9 B9 T9 C9 C hem hH => ?_)
  have hlt := cr_at_lt h
  refine cr_vc [] 120 (s_Ne_init hl Z C hem) (fun K hK => ?_)
  conv => whnf
  refine ⟨rfl, by decide, by decide, ?_⟩
  conv => whnf
  refine ⟨32, rfl, by decide, by decide, cr_le rfl, cr_le rfl, fun q7 H7 n7 => ?_⟩
  obtain ⟨eN, lqN, szN, atN, frN⟩ := n7
  subst eN
  have aN := cr_at_eq h (frN _ hlt)
  conv => whnf
  refine ⟨_, aN, ha, ⟨rfl, rfl⟩, ?_⟩
  conv => whnf
  intro H9 u9
  conv => whnf
  refine ⟨_, u9.2.1, ha, ⟨rfl, rfl⟩, ?_⟩
  conv => whnf
  intro H14 u14
  conv => whnf
  refine ⟨cr_le rfl, cr_le rfl, rfl, u14.2.1, (cr_at_eq (cr_at_eq atN (u9.2.2 _ (by omega))) (u14.2.2 _ (by omega))), by rw [u14.1, u9.1, szN], fun q h1 h2 => by rw [u14.2.2 q h2, u9.2.2 q h2, frN q h1]⟩
/-- what is there after k of the nine parts -/
def ci_c (s0 : State) (D : va_G) (ca : Nat → ClassId) (e0 s : Nat) (H : Heap) : Nat → Prop
  | 5 => va_at D kc (s + 5, .inr (4, [.int 0, .int 0, .ref (s + 6), .ref (s + 7)])) H ∧ (∃ g, (∀ i, i < 60 → g i = -1) ∧ va_at D kc (s + 6, .inl (ca 0, 60, .inl g)) H) ∧ ∃ g, (∀ i, i < 16 → g i = -1) ∧ va_at D kc (s + 7, .inl (ca 0, 16, .inl g)) H
  | 6 => va_at D kc (s + 8, .inr (3, [.ref (s + 9), .int 0, .int 0])) H ∧ va_at D kc (s + 9, .inl (ca 0, 400, .inl (fun _ => 0))) H
  | 7 => va_at D kc (s + 10, .inr (10, [.ref (s + 11), .int 0])) H ∧ va_at D kc (s + 11, .inl (ca 1, 2250, .inr (.inl (fun _ => 0)))) H
  | 8 => va_at D kc (s + 12, .inr (5, [.ref (s + 13), .int 0])) H ∧ va_at D kc (s + 13, .inl (ca 0, 32, .inl (fun _ => 0))) H
  | j => cr_li s0 D ca e0 H (s + j) e0 0 (fun _ => 0)
def ci_I (s0 : State) (D : va_G) (ca : Nat → ClassId) (e0 x : Nat) (H : Heap) (k z : Nat) (H1 : Heap) : Prop := H1.size = H.size + z ∧ (∀ q : Nat, q < H.size → q ≠ x → H1[q]? = H[q]?) ∧ ∀ j, j < k → ci_c s0 D ca e0 H.size H1 j
theorem ci_c_fr {s x j : Nat} {H1 H2 : Heap} (hx : x < s) (hs : s ≤ H1.size) (he : e0 < s0.heap.size) (hxs : s0.heap.size ≤ x) (hfr : ∀ q : Nat, q < H1.size → q ≠ x → H2[q]? = H1[q]?) (h : ci_c s0 D ca e0 s H1 j) : ci_c s0 D ca e0 s H2 j := by
  have mv : ∀ {q : Nat} {v : va_E}, va_at D kc (s + q, v) H1 → va_at D kc (s + q, v) H2 := fun {q v} z => cr_at_eq z (hfr _ (cr_at_lt z) (by omega))
  unfold ci_c at h ⊢
  split at h
  · obtain ⟨h1, ⟨g, g1, h2⟩, ⟨g', g1', h3⟩⟩ := h
    exact ⟨mv h1, ⟨g, g1, mv h2⟩, ⟨g', g1', mv h3⟩⟩
  · exact ⟨mv h.1, mv h.2⟩
  · exact ⟨mv h.1, mv h.2⟩
  · exact ⟨mv h.1, mv h.2⟩
  · have lt := h.lt.1
    exact h.fr (hfr _ lt (by omega)) (hfr _ (by omega) (by omega))
theorem ci_st {x k z z' : Nat} {H1 H2 : Heap} (hx : x < H.size) (he : e0 < s0.heap.size) (hxs : s0.heap.size ≤ x) (I : ci_I s0 D ca e0 x H k z H1) (hsz : H2.size = H.size + z') (hfr : ∀ q : Nat, q < H1.size → q ≠ x → H2[q]? = H1[q]?) (hnew : ci_c s0 D ca e0 H.size H2 k) : ci_I s0 D ca e0 x H (k + 1) z' H2 := by
  obtain ⟨i1, i2, i3⟩ := I
  refine ⟨hsz, fun q hq hx9 => (hfr q (by omega) hx9).trans (i2 q hq hx9), fun j hj => ?_⟩
  by_cases e : j = k
  · rw [e]
    exact hnew
  · exact ci_c_fr hx (by omega) he hxs hfr (i3 j (by omega))
theorem ci_I.old {x k z : Nat} {H1 : Heap} (I : ci_I s0 D ca e0 x H k z H1) (hold : cr_Old s0 H) (hxs : s0.heap.size ≤ x) (hlo : s0.heap.size ≤ H.size) : cr_Old s0 H1 := fun q hq => (I.2.1 q (by omega) (by omega)).trans (hold q hq)

def in_A (e0 s x : Nat) : Nat → Nat → Nat
  | 5, i => s + i
  | 6, _ => e0
  | 9, _ => s + 5
  | 10, _ => s + 6
  | 11, _ => s + 7
  | 12, i => s + 8 + i
  | 14, _ => x
  | _, _ => 0
def in_w (g1 g2 : Nat → Int32) : cc_W := ((fun _ _ => 0), (fun _ => g1), (fun _ => g2), (fun _ => 0), (fun _ => 0), (fun _ => 0), 0, fun _ => 0)
theorem in_l {k i : Nat} (h : cc_l (fun _ _ => 0) k i) : (k = 5 ∧ i < 5) ∨ (k = 9 ∧ i = 0) ∨ (k = 10 ∧ i = 0) ∨ (k = 11 ∧ i = 0) ∨ (k = 12 ∧ i < 6) ∨ (k = 14 ∧ i = 0) := by
  unfold cc_l at h
  split at h <;> simp_all
theorem in_L {e0 s x k i : Nat} (h : cc_L e0 (in_A e0 s x) (fun _ _ => 0) k i) : (k = 5 ∧ i < 5) ∨ (k = 9 ∧ i = 0) ∨ (k = 10 ∧ i = 0) ∨ (k = 11 ∧ i = 0) ∨ (k = 12 ∧ i < 6) ∨ (k = 14 ∧ i = 0) := by
  rcases h with h | ⟨rfl, -, h⟩ | ⟨-, h, -⟩
  · exact in_l h
  · exact absurd rfl h
  · exact absurd h (Nat.not_lt_zero _)
theorem in_inj {e0 s x k i k' i' : Nat} (hx : x < s) (h : cc_L e0 (in_A e0 s x) (fun _ _ => 0) k i) (h' : cc_L e0 (in_A e0 s x) (fun _ _ => 0) k' i') (e : in_A e0 s x k i = in_A e0 s x k' i') : k = k' ∧ i = i' := by
  have v : ∀ {k i : Nat}, cc_L e0 (in_A e0 s x) (fun _ _ => 0) k i → (k = 5 ∧ i < 5 ∧ in_A e0 s x k i = s + i) ∨ (k = 9 ∧ i = 0 ∧ in_A e0 s x k i = s + 5) ∨ (k = 10 ∧ i = 0 ∧ in_A e0 s x k i = s + 6) ∨ (k = 11 ∧ i = 0 ∧ in_A e0 s x k i = s + 7) ∨ (k = 12 ∧ i < 6 ∧ in_A e0 s x k i = s + 8 + i) ∨ (k = 14 ∧ i = 0 ∧ in_A e0 s x k i = x) := by
    intro k i h
    rcases in_L h with ⟨rfl, h5⟩ | ⟨rfl, rfl⟩ | ⟨rfl, rfl⟩ | ⟨rfl, rfl⟩ | ⟨rfl, h6⟩ | ⟨rfl, rfl⟩
    · exact Or.inl ⟨rfl, h5, rfl⟩
    · exact Or.inr (Or.inl ⟨rfl, rfl, rfl⟩)
    · exact Or.inr (Or.inr (Or.inl ⟨rfl, rfl, rfl⟩))
    · exact Or.inr (Or.inr (Or.inr (Or.inl ⟨rfl, rfl, rfl⟩)))
    · exact Or.inr (Or.inr (Or.inr (Or.inr (Or.inl ⟨rfl, h6, rfl⟩))))
    · exact Or.inr (Or.inr (Or.inr (Or.inr (Or.inr ⟨rfl, rfl, rfl⟩))))
  have a := v h
  have b := v h'
  omega
theorem ci_end {x : Nat} {H1 H2 : Heap} (hx : x < H.size) (he : e0 < s0.heap.size) (ha : s0.heap.size ≤ x) (hlo : s0.heap.size ≤ H.size) (hold : cr_Old s0 H) (I : ci_I s0 D ca e0 x H 9 14 H1) (u : cr_Up D kc H1 x (.inr (0, [.ref H.size, .ref (H.size + 1), .ref (H.size + 2), .ref (H.size + 3), .ref (H.size + 4), .ref (H.size + 5), .ref (H.size + 8), .ref (H.size + 10), .ref (H.size + 12), .int 0])) H2) : ∃ g1 g2, (∀ i, i < 60 → g1 i = -1) ∧ (∀ i, i < 16 → g2 i = -1) ∧ cc_H s0 D ca e0 (fun q => q = x ∨ H.size ≤ q) H2 (in_A e0 H.size x) (fun _ _ => 0) (in_w g1 g2) ∧ H2.size = H.size + 14 ∧ ∀ q : Nat, q < H.size → q ≠ x → H2[q]? = H[q]? := by
  have hold1 := I.old hold ha hlo
  obtain ⟨i1, i2, i3⟩ := I
  have cc : ∀ j, j < 9 → ci_c s0 D ca e0 H.size H2 j := fun j hj => ci_c_fr hx (by omega) he ha (fun q _ hq => u.2.2 q hq) (i3 j hj)
  obtain ⟨K5, ⟨g1, hg1, K6⟩, ⟨g2, hg2, K7⟩⟩ := cc 5 (by decide)
  obtain ⟨K8, K9⟩ := cc 6 (by decide)
  obtain ⟨K10, K11⟩ := cc 7 (by decide)
  obtain ⟨K12, K13⟩ := cc 8 (by decide)
  refine ⟨g1, g2, hg1, hg2, ?_, by rw [u.1, i1], fun q hq hx9 => (u.2.2 q hx9).trans (i2 q hq hx9)⟩
  refine ⟨fun k i hk => ?_, fun k i hk ho => ?_, fun i hi => ?_, fun i hi => absurd hi (Nat.not_lt_zero _), fun k i k' i' hk hk' e => in_inj hx hk hk' e, fun q hq => (u.2.2 q (by omega)).trans (hold1 q hq)⟩
  · rcases in_L hk with ⟨rfl, h5⟩ | ⟨rfl, rfl⟩ | ⟨rfl, rfl⟩ | ⟨rfl, rfl⟩ | ⟨rfl, h6⟩ | ⟨rfl, rfl⟩
    · exact ⟨show s0.heap.size ≤ H.size + i by omega, Or.inr (show H.size ≤ H.size + i by omega)⟩
    · exact ⟨show s0.heap.size ≤ H.size + 5 by omega, Or.inr (show H.size ≤ H.size + 5 by omega)⟩
    · exact ⟨show s0.heap.size ≤ H.size + 6 by omega, Or.inr (show H.size ≤ H.size + 6 by omega)⟩
    · exact ⟨show s0.heap.size ≤ H.size + 7 by omega, Or.inr (show H.size ≤ H.size + 7 by omega)⟩
    · exact ⟨show s0.heap.size ≤ H.size + 8 + i by omega, Or.inr (show H.size ≤ H.size + 8 + i by omega)⟩
    · exact ⟨ha, Or.inl rfl⟩
  · rcases in_l hk with ⟨rfl, h5⟩ | ⟨rfl, rfl⟩ | ⟨rfl, rfl⟩ | ⟨rfl, rfl⟩ | ⟨rfl, h6⟩ | ⟨rfl, rfl⟩
    · cases ho
    · exact K5
    · exact K6
    · exact K7
    · rcases (show i = 0 ∨ i = 1 ∨ i = 2 ∨ i = 3 ∨ i = 4 ∨ i = 5 by omega) with rfl | rfl | rfl | rfl | rfl | rfl
      · exact K8
      · exact K9
      · exact K10
      · exact K11
      · exact K12
      · exact K13
    · exact u.2.1
  · rcases (show i = 0 ∨ i = 1 ∨ i = 2 ∨ i = 3 ∨ i = 4 by omega) with rfl | rfl | rfl | rfl | rfl
    · exact cc 0 (by decide)
    · exact cc 1 (by decide)
    · exact cc 2 (by decide)
    · exact cc 3 (by decide)
    · exact cc 4 (by decide)
set_option maxRecDepth 20000 in
theorem j_C_init (hl : l.flags = flags0) (Z : cr_Z0 s0 D ca e0) (hold : cr_Old s0 H) {x : Nat} (ha : s0.heap.size ≤ x) (h : va_at D kc (x, .inr (0, [.null, .null, .null, .null, .null, .null, .null, .null, .null, .int 0])) H) : cr_c l s0 y_C_init cw_C_init 4 14 2784 [.ref x] H (fun o H' => o = .inl none ∧ ∃ g1 g2, (∀ i, i < 60 → g1 i = -1) ∧ (∀ i, i < 16 → g2 i = -1) ∧ cc_H s0 D ca e0 (fun q => q = x ∨ H.size ≤ q) H' (in_A e0 H.size x) (fun _ _ => 0) (in_w g1 g2) ∧ H'.size = H.size + 14 ∧ ∀ q : Nat, q < H.size → q ≠ x → H'[q]? = H[q]?) := by
  refine cr_enter (by decide +kernel) (Nat.le_of_ble_eq_true rfl) (fun hlo P9 E9 S9 M9 A9 B9 T9 C9 C hem hH => ?_)
  have hlt := cr_at_lt h
  have he0 := cr_e0lt Z
  have I0 : ci_I s0 D ca e0 x H 0 0 H := ⟨rfl, fun _ _ _ => rfl, fun j hj => absurd hj (Nat.not_lt_zero _)⟩
  refine cr_vc [] 160 (s_C_init hl Z C hem) (fun K hK => ?_)
  conv => whnf
  refine ⟨rfl, by decide, by decide, ?_⟩
  conv => whnf
  refine ⟨cr_le rfl, cr_le rfl, fun q5 H5 n5 => ?_⟩
  obtain ⟨e5, lq, szN, atN, frN⟩ := n5
  subst e5
  have zN : H5.size = H.size + 1 := by rw [szN, I0.1]
  have aN := cr_at_eq h (frN _ (by have := I0.1; omega))
  have xq : x ≠ H.size := by
    have := I0.1
    omega
  have oldN : cr_Old s0 H5 := fun q hq => (frN q (by have := I0.1; omega)).trans (I0.old hold ha hlo q hq)
  conv => whnf
  refine ⟨rfl, ?_⟩
  conv => whnf
  refine ⟨rfl, ?_⟩
  conv => whnf
  refine ⟨_, _, _, _, j_AL_init (f := fun _ => 0) hl Z oldN lq atN, by decide, cr_le rfl, cr_le rfl, cr_le rfl, fun v9 H9 q9 _ => ?_, fun kd H9 q9 _ => by cases q9.1⟩
  obtain ⟨qa, liN, szi, fri⟩ := q9
  cases qa
  have aI := cr_at_eq aN (fri _ xq)
  conv => whnf
  refine ⟨_, aI, ha, ⟨rfl, rfl⟩, ?_⟩
  conv => whnf
  intro H12 u12
  have I12 : ci_I s0 D ca e0 x H (0 + 1) 1 H12 := ci_st hlt he0 ha I0 (by rw [u12.1, szi, zN]) (fun q hq hx => ((u12.2.2 q hx).trans (fri q (by omega))).trans (frN q hq)) (by
    have q9 := liN.fr (u12.2.2 _ (Ne.symm xq)) (u12.2.2 _ (by omega))
    rw [I0.1] at q9
    exact q9)
  have x12 := u12.2.1
  clear lq szN atN frN zN aN xq oldN szi fri aI u12 liN
  conv => whnf
  refine ⟨cr_le rfl, cr_le rfl, fun q16 H16 n16 => ?_⟩
  obtain ⟨e16, lq, szN, atN, frN⟩ := n16
  subst e16
  have zN : H16.size = H.size + 2 := by rw [szN, I12.1]
  have aN := cr_at_eq x12 (frN _ (by have := I12.1; omega))
  have xq : x ≠ H12.size := by
    have := I12.1
    omega
  have oldN : cr_Old s0 H16 := fun q hq => (frN q (by have := I12.1; omega)).trans (I12.old hold ha hlo q hq)
  conv => whnf
  refine ⟨rfl, ?_⟩
  conv => whnf
  refine ⟨rfl, ?_⟩
  conv => whnf
  refine ⟨_, _, _, _, j_AL_init (f := fun _ => 0) hl Z oldN lq atN, by decide, cr_le rfl, cr_le rfl, cr_le rfl, fun v20 H20 q20 _ => ?_, fun kd H9 q9 _ => by cases q9.1⟩
  obtain ⟨qa, liN, szi, fri⟩ := q20
  cases qa
  have aI := cr_at_eq aN (fri _ xq)
  conv => whnf
  refine ⟨_, aI, ha, ⟨rfl, rfl⟩, ?_⟩
  conv => whnf
  intro H23 u23
  have I23 : ci_I s0 D ca e0 x H (1 + 1) 2 H23 := ci_st hlt he0 ha I12 (by rw [u23.1, szi, zN]) (fun q hq hx => ((u23.2.2 q hx).trans (fri q (by omega))).trans (frN q hq)) (by
    have q9 := liN.fr (u23.2.2 _ (Ne.symm xq)) (u23.2.2 _ (by omega))
    rw [I12.1] at q9
    exact q9)
  have x23 := u23.2.1
  rw [I12.1] at x23
  clear lq szN atN frN zN aN xq oldN szi fri aI u23 liN I12 x12
  conv => whnf
  refine ⟨cr_le rfl, cr_le rfl, fun q27 H27 n27 => ?_⟩
  obtain ⟨e27, lq, szN, atN, frN⟩ := n27
  subst e27
  have zN : H27.size = H.size + 3 := by rw [szN, I23.1]
  have aN := cr_at_eq x23 (frN _ (by have := I23.1; omega))
  have xq : x ≠ H23.size := by
    have := I23.1
    omega
  have oldN : cr_Old s0 H27 := fun q hq => (frN q (by have := I23.1; omega)).trans (I23.old hold ha hlo q hq)
  conv => whnf
  refine ⟨rfl, ?_⟩
  conv => whnf
  refine ⟨rfl, ?_⟩
  conv => whnf
  refine ⟨_, _, _, _, j_AL_init (f := fun _ => 0) hl Z oldN lq atN, by decide, cr_le rfl, cr_le rfl, cr_le rfl, fun v31 H31 q31 _ => ?_, fun kd H9 q9 _ => by cases q9.1⟩
  obtain ⟨qa, liN, szi, fri⟩ := q31
  cases qa
  have aI := cr_at_eq aN (fri _ xq)
  conv => whnf
  refine ⟨_, aI, ha, ⟨rfl, rfl⟩, ?_⟩
  conv => whnf
  intro H34 u34
  have I34 : ci_I s0 D ca e0 x H (2 + 1) 3 H34 := ci_st hlt he0 ha I23 (by rw [u34.1, szi, zN]) (fun q hq hx => ((u34.2.2 q hx).trans (fri q (by omega))).trans (frN q hq)) (by
    have q9 := liN.fr (u34.2.2 _ (Ne.symm xq)) (u34.2.2 _ (by omega))
    rw [I23.1] at q9
    exact q9)
  have x34 := u34.2.1
  rw [I23.1] at x34
  clear lq szN atN frN zN aN xq oldN szi fri aI u34 liN I23 x23
  conv => whnf
  refine ⟨cr_le rfl, cr_le rfl, fun q38 H38 n38 => ?_⟩
  obtain ⟨e38, lq, szN, atN, frN⟩ := n38
  subst e38
  have zN : H38.size = H.size + 4 := by rw [szN, I34.1]
  have aN := cr_at_eq x34 (frN _ (by have := I34.1; omega))
  have xq : x ≠ H34.size := by
    have := I34.1
    omega
  have oldN : cr_Old s0 H38 := fun q hq => (frN q (by have := I34.1; omega)).trans (I34.old hold ha hlo q hq)
  conv => whnf
  refine ⟨rfl, ?_⟩
  conv => whnf
  refine ⟨rfl, ?_⟩
  conv => whnf
  refine ⟨_, _, _, _, j_AL_init (f := fun _ => 0) hl Z oldN lq atN, by decide, cr_le rfl, cr_le rfl, cr_le rfl, fun v42 H42 q42 _ => ?_, fun kd H9 q9 _ => by cases q9.1⟩
  obtain ⟨qa, liN, szi, fri⟩ := q42
  cases qa
  have aI := cr_at_eq aN (fri _ xq)
  conv => whnf
  refine ⟨_, aI, ha, ⟨rfl, rfl⟩, ?_⟩
  conv => whnf
  intro H45 u45
  have I45 : ci_I s0 D ca e0 x H (3 + 1) 4 H45 := ci_st hlt he0 ha I34 (by rw [u45.1, szi, zN]) (fun q hq hx => ((u45.2.2 q hx).trans (fri q (by omega))).trans (frN q hq)) (by
    have q9 := liN.fr (u45.2.2 _ (Ne.symm xq)) (u45.2.2 _ (by omega))
    rw [I34.1] at q9
    exact q9)
  have x45 := u45.2.1
  rw [I34.1] at x45
  clear lq szN atN frN zN aN xq oldN szi fri aI u45 liN I34 x34
  conv => whnf
  refine ⟨cr_le rfl, cr_le rfl, fun q49 H49 n49 => ?_⟩
  obtain ⟨e49, lq, szN, atN, frN⟩ := n49
  subst e49
  have zN : H49.size = H.size + 5 := by rw [szN, I45.1]
  have aN := cr_at_eq x45 (frN _ (by have := I45.1; omega))
  have xq : x ≠ H45.size := by
    have := I45.1
    omega
  have oldN : cr_Old s0 H49 := fun q hq => (frN q (by have := I45.1; omega)).trans (I45.old hold ha hlo q hq)
  conv => whnf
  refine ⟨rfl, ?_⟩
  conv => whnf
  refine ⟨rfl, ?_⟩
  conv => whnf
  refine ⟨_, _, _, _, j_AL_init (f := fun _ => 0) hl Z oldN lq atN, by decide, cr_le rfl, cr_le rfl, cr_le rfl, fun v53 H53 q53 _ => ?_, fun kd H9 q9 _ => by cases q9.1⟩
  obtain ⟨qa, liN, szi, fri⟩ := q53
  cases qa
  have aI := cr_at_eq aN (fri _ xq)
  conv => whnf
  refine ⟨_, aI, ha, ⟨rfl, rfl⟩, ?_⟩
  conv => whnf
  intro H56 u56
  have I56 : ci_I s0 D ca e0 x H (4 + 1) 5 H56 := ci_st hlt he0 ha I45 (by rw [u56.1, szi, zN]) (fun q hq hx => ((u56.2.2 q hx).trans (fri q (by omega))).trans (frN q hq)) (by
    have q9 := liN.fr (u56.2.2 _ (Ne.symm xq)) (u56.2.2 _ (by omega))
    rw [I45.1] at q9
    exact q9)
  have x56 := u56.2.1
  rw [I45.1] at x56
  clear lq szN atN frN zN aN xq oldN szi fri aI u56 liN I45 x45
  conv => whnf
  refine ⟨cr_le rfl, cr_le rfl, fun q60 H60 n60 => ?_⟩
  obtain ⟨e60, lq, szN, atN, frN⟩ := n60
  subst e60
  have zN : H60.size = H.size + 6 := by rw [szN, I56.1]
  have aN := cr_at_eq x56 (frN _ (by have := I56.1; omega))
  have xq : x ≠ H56.size := by
    have := I56.1
    omega
  have oldN : cr_Old s0 H60 := fun q hq => (frN q (by have := I56.1; omega)).trans (I56.old hold ha hlo q hq)
  conv => whnf
  refine ⟨rfl, ?_⟩
  conv => whnf
  refine ⟨rfl, ?_⟩
  conv => whnf
  refine ⟨_, _, _, _, j_Kn_init hl Z lq atN, by decide, cr_le rfl, cr_le rfl, cr_le rfl, fun v64 H64 q64 _ => ?_, fun kd H9 q9 _ => by cases q9.1⟩
  obtain ⟨qa, kN, ⟨g1, hg1, lN⟩, ⟨g2, hg2, mN⟩, szi, fri⟩ := q64
  cases qa
  have aI := cr_at_eq aN (fri _ (by omega) xq)
  conv => whnf
  refine ⟨_, aI, ha, ⟨rfl, rfl⟩, ?_⟩
  conv => whnf
  intro H67 u67
  have I67 : ci_I s0 D ca e0 x H (5 + 1) 8 H67 := ci_st hlt he0 ha I56 (by rw [u67.1, szi, zN]) (fun q hq hx => ((u67.2.2 q hx).trans (fri q (by omega) (by omega))).trans (frN q hq)) (by
    have q1 := cr_at_eq kN (u67.2.2 _ (Ne.symm xq))
    have q2 := cr_at_eq lN (u67.2.2 _ (by omega))
    have q3 := cr_at_eq mN (u67.2.2 _ (by omega))
    rw [zN] at q1 q2 q3
    rw [I56.1] at q1
    exact ⟨q1, ⟨g1, hg1, q2⟩, ⟨g2, hg2, q3⟩⟩)
  have x67 := u67.2.1
  rw [I56.1] at x67
  clear lq szN atN frN zN aN xq oldN szi fri aI u67 kN lN mN hg1 hg2 I56 x56
  conv => whnf
  refine ⟨cr_le rfl, cr_le rfl, fun q71 H71 n71 => ?_⟩
  obtain ⟨e71, lq, szN, atN, frN⟩ := n71
  subst e71
  have zN : H71.size = H.size + 9 := by rw [szN, I67.1]
  have aN := cr_at_eq x67 (frN _ (by have := I67.1; omega))
  have xq : x ≠ H67.size := by
    have := I67.1
    omega
  have oldN : cr_Old s0 H71 := fun q hq => (frN q (by have := I67.1; omega)).trans (I67.old hold ha hlo q hq)
  conv => whnf
  refine ⟨rfl, ?_⟩
  conv => whnf
  refine ⟨rfl, ?_⟩
  conv => whnf
  refine ⟨_, _, _, _, j_Fi_init hl Z lq atN, by decide, cr_le rfl, cr_le rfl, cr_le rfl, fun v75 H75 q75 _ => ?_, fun kd H9 q9 _ => by cases q9.1⟩
  obtain ⟨qa, kN, lN, szi, fri⟩ := q75
  cases qa
  have aI := cr_at_eq aN (fri _ (by omega) xq)
  conv => whnf
  refine ⟨_, aI, ha, ⟨rfl, rfl⟩, ?_⟩
  conv => whnf
  intro H78 u78
  have I78 : ci_I s0 D ca e0 x H (6 + 1) 10 H78 := ci_st hlt he0 ha I67 (by rw [u78.1, szi, zN]) (fun q hq hx => ((u78.2.2 q hx).trans (fri q (by omega) (by omega))).trans (frN q hq)) (by
    have q1 := cr_at_eq kN (u78.2.2 _ (Ne.symm xq))
    have q2 := cr_at_eq lN (u78.2.2 _ (by omega))
    rw [zN] at q1 q2
    rw [I67.1] at q1
    exact ⟨q1, q2⟩)
  have x78 := u78.2.1
  rw [I67.1] at x78
  clear lq szN atN frN zN aN xq oldN szi fri aI u78 kN lN I67 x67
  conv => whnf
  refine ⟨cr_le rfl, cr_le rfl, fun q82 H82 n82 => ?_⟩
  obtain ⟨e82, lq, szN, atN, frN⟩ := n82
  subst e82
  have zN : H82.size = H.size + 11 := by rw [szN, I78.1]
  have aN := cr_at_eq x78 (frN _ (by have := I78.1; omega))
  have xq : x ≠ H78.size := by
    have := I78.1
    omega
  have oldN : cr_Old s0 H82 := fun q hq => (frN q (by have := I78.1; omega)).trans (I78.old hold ha hlo q hq)
  conv => whnf
  refine ⟨rfl, ?_⟩
  conv => whnf
  refine ⟨rfl, ?_⟩
  conv => whnf
  refine ⟨_, _, _, _, j_Us_init hl Z lq atN, by decide, cr_le rfl, cr_le rfl, cr_le rfl, fun v86 H86 q86 _ => ?_, fun kd H9 q9 _ => by cases q9.1⟩
  obtain ⟨qa, kN, lN, szi, fri⟩ := q86
  cases qa
  have aI := cr_at_eq aN (fri _ (by omega) xq)
  conv => whnf
  refine ⟨_, aI, ha, ⟨rfl, rfl⟩, ?_⟩
  conv => whnf
  intro H89 u89
  have I89 : ci_I s0 D ca e0 x H (7 + 1) 12 H89 := ci_st hlt he0 ha I78 (by rw [u89.1, szi, zN]) (fun q hq hx => ((u89.2.2 q hx).trans (fri q (by omega) (by omega))).trans (frN q hq)) (by
    have q1 := cr_at_eq kN (u89.2.2 _ (Ne.symm xq))
    have q2 := cr_at_eq lN (u89.2.2 _ (by omega))
    rw [zN] at q1 q2
    rw [I78.1] at q1
    exact ⟨q1, q2⟩)
  have x89 := u89.2.1
  rw [I78.1] at x89
  clear lq szN atN frN zN aN xq oldN szi fri aI u89 kN lN I78 x78
  conv => whnf
  refine ⟨cr_le rfl, cr_le rfl, fun q93 H93 n93 => ?_⟩
  obtain ⟨e93, lq, szN, atN, frN⟩ := n93
  subst e93
  have zN : H93.size = H.size + 13 := by rw [szN, I89.1]
  have aN := cr_at_eq x89 (frN _ (by have := I89.1; omega))
  have xq : x ≠ H89.size := by
    have := I89.1
    omega
  have oldN : cr_Old s0 H93 := fun q hq => (frN q (by have := I89.1; omega)).trans (I89.old hold ha hlo q hq)
  conv => whnf
  refine ⟨rfl, ?_⟩
  conv => whnf
  refine ⟨rfl, ?_⟩
  conv => whnf
  refine ⟨_, _, _, _, j_Ne_init hl Z lq atN, by decide, cr_le rfl, cr_le rfl, cr_le rfl, fun v97 H97 q97 _ => ?_, fun kd H9 q9 _ => by cases q9.1⟩
  obtain ⟨qa, kN, lN, szi, fri⟩ := q97
  cases qa
  have aI := cr_at_eq aN (fri _ (by omega) xq)
  conv => whnf
  refine ⟨_, aI, ha, ⟨rfl, rfl⟩, ?_⟩
  conv => whnf
  intro H100 u100
  have I100 : ci_I s0 D ca e0 x H (8 + 1) 14 H100 := ci_st hlt he0 ha I89 (by rw [u100.1, szi, zN]) (fun q hq hx => ((u100.2.2 q hx).trans (fri q (by omega) (by omega))).trans (frN q hq)) (by
    have q1 := cr_at_eq kN (u100.2.2 _ (Ne.symm xq))
    have q2 := cr_at_eq lN (u100.2.2 _ (by omega))
    rw [zN] at q1 q2
    rw [I89.1] at q1
    exact ⟨q1, q2⟩)
  have x100 := u100.2.1
  rw [I89.1] at x100
  clear lq szN atN frN zN aN xq oldN szi fri aI u100 kN lN I89 x89
  conv => whnf
  refine ⟨_, x100, ha, ⟨rfl, rfl⟩, ?_⟩
  conv => whnf
  intro H105 u105
  conv => whnf
  refine ⟨cr_le rfl, cr_le rfl, rfl, ?_⟩
  exact ci_end hlt he0 ha hlo hold I100 u105
end CIN
