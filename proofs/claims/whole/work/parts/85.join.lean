/-! THE CLASS: a door joins (printed by gen/comp23.py) -/
section CJO
variable {l : Launch} {s0 : State} {D : va_G} {ca : Nat → ClassId} {e0 : Nat} {O : Nat → Prop} {H H' : Heap} {A : Nat → Nat → Nat} {G G' : mm_G} {w : cc_W}
def lb_w (G : mm_G) (w : cc_W) (i : Nat) : Int32 := if rb_c G w 0 (G 13 i) (nI (G 15 i)) = 0 then cond (rb_h G w 0 (nI (G 17 (G 20 (G 13 i)))) (nI (G 3 (G 14 i))) (nI (G 15 i))) 0 5 else rb_c G w 0 (G 13 i) (nI (G 15 i))
theorem lb_w_eq {i : Nat} (hk : cc_k G w 0 9000) (hc : G 13 i < G 19 0) (h19 : G 19 0 ≤ 60) (h22 : G 22 0 ≤ 16) (h31 : ∀ q, q < G 28 0 → G 31 q < 2 ^ 31) : lb_w G w i = mm_wy G (G 13 i) (G 14 i) (G 15 i) 9000 (-1) := by
  unfold lb_w
  rw [rb_c_eq hk hc h19 h31, rb_h_eq hk h22 h31]
  unfold mm_wy
  have f4 : ¬ (¬ (-1 : Int32) < 0 ∧ ¬ nI (G 18 (G 20 (G 13 i))) = -1) := fun q => q.1 (by decide)
  by_cases a1 : 0 ≤ mm_to G 0 (G 13 i) 9000
  · have t1 : ¬ ¬ 0 ≤ mm_to G 0 (G 13 i) 9000 := fun q => q a1
    rw [if_neg t1, if_neg t1]
    by_cases a2 : nI (G 15 i) ≤ nI (G 21 (G 13 i))
    · have t2 : ¬ ¬ nI (G 15 i) ≤ nI (G 21 (G 13 i)) := fun q => q a2
      rw [if_neg t2, if_neg t2]
      by_cases a3 : ¬ mm_to G 3 (G 13 i) 9000 < 0 ∧ ¬ nI (G 15 i) < mm_to G 3 (G 13 i) 9000
      · rw [if_pos a3, if_pos a3, if_neg (by decide)]
      · rw [if_neg a3, if_neg a3, if_pos rfl, if_neg f4]
    · rw [if_pos a2, if_pos a2, if_neg (by decide)]
  · rw [if_pos a1, if_pos a1, if_neg (by decide)]
/-- a finding more -/
def w_f (w : cc_W) (n : Nat) (d9 c9 m9 y9 : Int32) : cc_W := (w.1, w.2.1, w.2.2.1, (if n < 100 then upd (upd (upd (upd w.2.2.2.1 (4 * n) d9) (4 * n + 1) c9) (4 * n + 2) m9) (4 * n + 3) y9 else w.2.2.2.1), w.2.2.2.2)
theorem cc_find (hl : l.flags = flags0) (Z : cr_Z0 s0 D ca e0) (h : cc_H s0 D ca e0 O H A G w) (hr : cc_r G) (h34 : G 34 0 < 2 ^ 31) {d9 c9 m9 y9 : Int32} (hG : ∀ a b, a < 34 ∨ 38 < a → G' a b = G a b) (hG34 : G' 34 0 = G 34 0 + 1) :
    cr_c l s0 y_Fi_add cw_Fi_add 0 0 0 [.ref (A 12 0), .int d9, .int c9, .int m9, .int y9] H (fun o H' => o = .inl none ∧ cc_H s0 D ca e0 O H' A G' (w_f w (G 34 0) d9 c9 m9 y9) ∧ cr_Fr O H H') := by
  have c0 := h.c 12 0 (show 0 < 6 by decide)
  have c1 := h.c 12 1 (show 1 < 6 by decide)
  have l0 := h.lo 12 0 (show 0 < 6 by decide)
  have l1 := h.lo 12 1 (show 1 < 6 by decide)
  have ne : A 12 0 ≠ A 12 1 := fun e => absurd (h.2.2.2.2.1 12 0 12 1 (Or.inl (show 0 < 6 by decide)) (Or.inl (show 1 < 6 by decide)) e).2 (by decide)
  by_cases h100 : G 34 0 < 100
  · have hm : min (G 34 0) 100 = G 34 0 := by omega
    have c2 : va_at D kc (A 12 0, .inr (3, [.ref (A 12 1), .int (nI (G 34 0)), .int (nI (G 34 0))])) H := by
      have q : va_at D kc (A 12 0, .inr (3, [.ref (A 12 1), .int (nI (G 34 0)), .int (nI (min (G 34 0) 100))])) H := c0
      rw [hm] at q
      exact q
    refine cr_c_mono (j_Fi_add_lt hl Z l0.1 l1.1 ne c2 c1 h100) (fun o H' q => ?_)
    obtain ⟨q1, q2, q3, q4, q5⟩ := q
    refine ⟨q1, ?_, ⟨Nat.le_of_eq q4.symm, fun q _ hq => q5 q (fun e => hq (by rw [e]; exact l0.2)) (fun e => hq (by rw [e]; exact l1.2))⟩⟩
    refine h.sets Z hr (P := fun k i => k = 12 ∧ (i = 0 ∨ i = 1)) ?_ (fun q hq => q5 q (hq 12 0 ⟨rfl, Or.inl rfl⟩) (hq 12 1 ⟨rfl, Or.inr rfl⟩)) ?_ (fun k hk => hG _ _ (by omega)) (fun d => hG _ _ (by decide)) (fun k i ql qo hn => ?_)
    · rintro k i ⟨rfl, rfl | rfl⟩
      · exact ⟨show 0 < 6 by decide, rfl⟩
      · exact ⟨show 1 < 6 by decide, rfl⟩
    · rintro k i ⟨rfl, rfl | rfl⟩
      · show va_at D kc (A 12 0, .inr (3, [.ref (A 12 1), .int (nI (G' 34 0)), .int (nI (min (G' 34 0) 100))])) H'
        rw [show min (G' 34 0) 100 = G 34 0 + 1 by omega, hG34]
        exact q2
      · show va_at D kc (A 12 1, .inl (ca 0, 400, .inl (w_f w (G 34 0) d9 c9 m9 y9).2.2.2.1)) H'
        unfold w_f
        rw [if_pos h100]
        exact q3
    · unfold cc_same w_f
      split <;> try simp [hG]
      · exact absurd ⟨rfl, Or.inl rfl⟩ hn
      · exact absurd ⟨rfl, Or.inr rfl⟩ hn
  · have hm : min (G 34 0) 100 = 100 := by omega
    have c2 : va_at D kc (A 12 0, .inr (3, [.ref (A 12 1), .int (nI (G 34 0)), .int (nI 100)])) H := by
      have q : va_at D kc (A 12 0, .inr (3, [.ref (A 12 1), .int (nI (G 34 0)), .int (nI (min (G 34 0) 100))])) H := c0
      rw [hm] at q
      exact q
    refine cr_c_mono (j_Fi_add_ge hl Z l0.1 l1.1 ne c2 c1 (Nat.le_refl _) (by decide)) (fun o H' q => ?_)
    obtain ⟨q1, u⟩ := q
    refine ⟨q1, ?_, cc_Fr h (k := 12) (i := 0) (show 0 < 6 by decide) u⟩
    refine h.set Z hr (k := 12) (i := 0) (show 0 < 6 by decide) rfl ?_ (fun k hk => hG _ _ (by omega)) (fun d => hG _ _ (by decide)) (fun k i ql qo hn => ?_)
    · refine ⟨u.1, ?_, u.2.2⟩
      show va_at D kc (A 12 0, .inr (3, [.ref (A 12 1), .int (nI (G' 34 0)), .int (nI (min (G' 34 0) 100))])) H'
      rw [show min (G' 34 0) 100 = 100 by omega, hG34]
      exact u.2.1
    · unfold cc_same w_f
      split <;> try simp [hG, h100]
      exact absurd ⟨rfl, rfl⟩ hn
/-- a door's rows are forgotten -/
theorem cc_clear (he : e0 < s0.heap.size) (h : cc_H s0 D ca e0 O H A G w) (hr : cc_r G) (hz : s0.heap.size ≤ H.size) {d : Nat} (hd : d < G 4 0) (hG : ∀ a b, a ≠ 12 → G' a b = G a b) (h12 : ∀ j, j ≠ d → G' 12 j = G 12 j) (h12d : G' 12 d = 0)
    (hfr : cr_Fr (cr_tp s0 (A 7 d) (A 8 d)) H H') {f : Nat → Nat} (hli : cr_li s0 D ca e0 H' (A 7 d) (A 8 d) 0 f) : cc_H s0 D ca e0 (fun x => O x ∨ H.size ≤ x) H' A G' w := by
  have a4 : G' 4 0 = G 4 0 := hG 4 0 (by decide)
  have hl : ∀ k i, cc_l G' k i → cc_l G k i := by
    intro k i q
    unfold cc_l at q ⊢
    split at q <;> try simp only [hG 2 0 (by decide), hG 4 0 (by decide), hG 16 0 (by decide), hG 19 0 (by decide), hG 22 0 (by decide)] at q <;> try exact q
    all_goals first | exact q | skip
    by_cases e : i / 50 = d
    · rw [e, h12d] at q
      exact absurd q.2 (Nat.not_lt_zero _)
    · rw [h12 _ e] at q
      exact q
  have hin := h.2.2.2.2.1
  have hlo := h.1
  have L7 : cc_L e0 A G 7 d := Or.inl hd
  have l7 := (hlo 7 d L7).1
  have ntp : ∀ k i, cc_L e0 A G k i → ¬ (k = 7 ∧ i = d) → ¬ (k = 8 ∧ i = d) → ¬ cr_tp s0 (A 7 d) (A 8 d) (A k i) := by
    rintro k i ql n5 n6 (e | ⟨e, e2⟩)
    · exact n5 (hin k i 7 d ql L7 e)
    · by_cases q6 : A 8 d = e0
      · rw [e, q6] at e2
        omega
      · exact n6 (hin k i 8 d ql (Or.inr (Or.inr ⟨rfl, hd, q6⟩)) e)
  have nte : ¬ cr_tp s0 (A 7 d) (A 8 d) e0 := by
    rintro (e | ⟨-, e⟩)
    · omega
    · omega
  have keep : ∀ k i, cc_L e0 A G k i → ¬ (k = 7 ∧ i = d) → ¬ (k = 8 ∧ i = d) → H'[A k i]? = H[A k i]? := fun k i ql n5 n6 => hfr.2 _ (h.lt ql) (ntp k i ql n5 n6)
  have keepe : H'[e0]? = H[e0]? := hfr.2 _ (by omega) nte
  have hL : ∀ k i, cc_L e0 A G' k i → cc_L e0 A G k i := by
    rintro k i (q | q | ⟨q1, q2, q3⟩)
    · exact Or.inl (hl k i q)
    · exact Or.inr (Or.inl q)
    · exact Or.inr (Or.inr ⟨q1, by rw [← a4]; exact q2, q3⟩)
  refine h.grow hfr hz (fun k i ql qo => ntp k i (Or.inl ql) (by rintro ⟨rfl, -⟩; cases qo) (by rintro ⟨rfl, -⟩; cases qo)) (fun x hx => ?_) (fun _ _ _ => rfl) (fun k i ql qo => cc_c_of hr (fun _ _ _ => rfl) ql qo ?_) (fun k i ql => Or.inl ⟨hL k i ql, rfl⟩) (fun k i q1 q2 _ => absurd (hl k i q1) q2) (fun k i k' i' q1 q2 q3 q4 e => hin k i k' i' (hL k i q1) (hL k' i' q2) e) (fun i hi => ?_) (fun i hi => ?_)
  · rcases hx with e | ⟨-, e⟩
    · rw [e]
      exact l7
    · exact e
  · unfold cc_same
    split <;> try simp [hG]
  · have en : G' (cc_n i) 0 = G (cc_n i) 0 := hG _ _ (by have := cc_n_in hi; omega)
    rw [en]
    refine (h.2.2.1 i hi).fr (keep 5 i (Or.inl hi) (by omega) (by omega)) ?_
    by_cases q6 : A 6 i = e0
    · rw [q6]
      exact keepe
    · exact keep 6 i (Or.inr (Or.inl ⟨rfl, hi, q6⟩)) (by omega) (by omega)
  · rw [a4] at hi
    by_cases e : i = d
    · subst e
      rw [h12d]
      obtain ⟨z1, md, z2, z3⟩ := hli
      refine ⟨z1, md, z2, ?_⟩
      rcases z3 with z3 | ⟨z4, N, g, z5, z6, z7, z8, -⟩
      · exact Or.inl z3
      · exact Or.inr ⟨z4, N, g, z5, z6, z7, z8, fun x hx => absurd hx (Nat.not_lt_zero _)⟩
    · rw [h12 i e]
      refine (h.2.2.2.1 i hi).fr (keep 7 i (Or.inl hi) (by omega) (by omega)) ?_
      by_cases q8 : A 8 i = e0
      · rw [q8]
        exact keepe
      · exact keep 8 i (Or.inr (Or.inr ⟨rfl, hi, q8⟩)) (by omega) (by omega)

set_option maxRecDepth 20000 in
theorem j_C_lookBack (hl : l.flags = flags0) (Z : cr_Z0 s0 D ca e0) (h : cc_H s0 D ca e0 O H A G w) (hr : cc_r G) {i : Nat} (hi : cc_l G 13 i) (h19 : G 19 0 ≤ 60) (h22 : G 22 0 ≤ 16) (hw : w.1 1 0 ≤ 16) : cr_c l s0 y_C_refusalLookingBack cw_C_refusalLookingBack 4 0 0 [.ref (A 14 0), .ref (A 13 i)] H (cr_pu (some (.int (lb_w G w i))) H) := by
  refine cr_enter (by decide +kernel) (Nat.le_of_ble_eq_true rfl) (fun hlo P9 E9 S9 M9 A9 B9 T9 C9 C hem hH => ?_)
  have hc := (hr.2.2.2 i hi).1
  have hro := (hr.2.2.2 i hi).2
  have hp := hr.2.2.1 _ hc
  refine cr_vc [] 120 (s_C_refusalLookingBack hl Z C hem) (fun K hK => ?_)
  conv => whnf
  refine ⟨_, (h.c 14 0 rfl), ?_⟩
  conv => whnf
  refine ⟨_, (h.c 13 i hi), ?_⟩
  conv => whnf
  refine ⟨_, (h.c 13 i hi), ?_⟩
  conv => whnf
  refine ⟨rfl, ?_⟩
  conv => whnf
  refine ⟨_, _, _, _, j_C_refusalOfCard hl Z (h.c 9 0 (Nat.zero_le _)) (h.c 3 (G 13 i) hc) (show G 13 i < 60 by omega) (h.c 10 0 (Nat.zero_le _)), by decide, cr_le rfl, cr_le rfl, cr_le rfl, fun v12 H12 q12 _ => ?_, fun kd H9 q9 _ => by cases q9.1⟩
  obtain ⟨q12a, q12b⟩ := q12
  cases q12a
  replace q12b := q12b.symm
  subst q12b
  conv => whnf
  refine ⟨cr_le rfl, ?_⟩
  conv => whnf
  refine ⟨fun b17 => ?_, fun b17 => ?_⟩
  · conv => whnf
    refine ⟨_, (h.c 14 0 rfl), ?_⟩
    conv => whnf
    refine ⟨_, (h.c 13 i hi), ?_⟩
    conv => whnf
    refine ⟨_, (h.c 3 (G 13 i) hc), ?_⟩
    conv => whnf
    refine ⟨_, (h.c 2 (G 20 (G 13 i)) hp), ?_⟩
    conv => whnf
    refine ⟨_, (h.c 13 i hi), ?_⟩
    conv => whnf
    refine ⟨_, (h.c 0 (G 14 i) hro), ?_⟩
    conv => whnf
    refine ⟨_, (h.c 13 i hi), ?_⟩
    conv => whnf
    refine ⟨rfl, ?_⟩
    conv => whnf
    refine ⟨_, (h.c 14 0 rfl), _, _, _, _, j_C_hasRight (g := fun r => nI (G 23 r)) (z := fun r => nI (G 24 r)) (fr := fun r => nI (G 25 r)) (to := fun r => nI (G 26 r)) (si := fun r => nI (G 27 r)) hl Z (h.c 14 0 rfl) (h.li 4 (by decide)) h22 (fun i hi => h.c 4 i hi) (h.c 9 0 (Nat.zero_le _)) (h.c 11 0 (Nat.zero_le _)) (show w.1 1 0 < 2 ^ 31 by omega), by decide, cr_le rfl, cr_le rfl, cr_le rfl, fun v48 H48 q48 _ => ?_, fun kd H9 q9 _ => by cases q9.1⟩
    obtain ⟨q48a, q48b⟩ := q48
    cases q48a
    replace q48b := q48b.symm
    subst q48b
    conv => whnf
    refine ⟨fun b51 => ?_, fun b51 => ?_⟩
    · conv => whnf
      exact ⟨cr_le rfl, cr_le rfl, (by unfold lb_w; rw [if_pos (show rb_c G w 0 (G 13 i) (nI (G 15 i)) = 0 from b17), show rb_h G w 0 (nI (G 17 (G 20 (G 13 i)))) (nI (G 3 (G 14 i))) (nI (G 15 i)) = false from cr_bf b51]; try rfl), rfl⟩
    · conv => whnf
      exact ⟨cr_le rfl, cr_le rfl, (by unfold lb_w; rw [if_pos (show rb_c G w 0 (G 13 i) (nI (G 15 i)) = 0 from b17), show rb_h G w 0 (nI (G 17 (G 20 (G 13 i)))) (nI (G 3 (G 14 i))) (nI (G 15 i)) = true from cr_bt b51]; try rfl), rfl⟩
  · conv => whnf
    exact ⟨cr_le rfl, cr_le rfl, (by unfold lb_w; rw [if_neg (show ¬ rb_c G w 0 (G 13 i) (nI (G 15 i)) = 0 from b17)]; rfl), rfl⟩
end CJO
