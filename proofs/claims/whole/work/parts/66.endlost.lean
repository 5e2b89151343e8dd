/-! THE CLASS: end, lost (printed by gen/comp13.py) -/
section CEL
variable {l : Launch} {s0 : State} {D : va_G} {ca : Nat → ClassId} {e0 : Nat} {O : Nat → Prop} {H H1 : Heap} {A : Nat → Nat → Nat} {G : mm_G} {w : cc_W}
def w_e (w : cc_W) (r : Nat) (x : Int32) : cc_W := (w.1, w.2.1, (fun i => if i = 0 then upd (w.2.2.1 0) r x else w.2.2.1 i), w.2.2.2)
def w_l (w : cc_W) (c : Nat) (x : Int32) : cc_W := (w.1, (fun i => if i = 0 then upd (w.2.1 0) c x else w.2.1 i), w.2.2)
theorem cc_end (Z : cr_Z0 s0 D ca e0) (h : cc_H s0 D ca e0 O H A G w) {kd r m : Nat} {x : Int32} (hu : cr_Up D kc H (A 11 0) (.inl (ca 0, 16, .inl (upd (w.2.2.1 0) r x))) H1) : cc_H s0 D ca e0 O H1 A (mm_tl G kd r m) (w_e w r x) := by
  refine h.up Z (k := 11) (i := 0) (Nat.zero_le _) rfl hu (cc_l_eq (fun k hk => tl_k (by omega) (by omega) (by omega) (by omega)) (fun d => tl_k (by decide) (by decide) (by decide) (by decide))) (fun j hj => by have := cc_n_in hj; exact tl_k (by omega) (by omega) (by omega) (by omega)) (fun d => tl_k (by decide) (by decide) (by decide) (by decide)) (fun k' i' q qo e => ?_)
  have e1 : ∀ a b, a ≠ 28 → a ≠ 29 → a ≠ 30 → a ≠ 31 → mm_tl G kd r m a b = G a b := fun a b h1 h2 h3 h4 => tl_k h1 h2 h3 h4
  unfold cc_c w_e
  split <;> simp [e1]
  intro e9
  exact absurd ⟨rfl, e9⟩ e
theorem cc_lost (Z : cr_Z0 s0 D ca e0) (h : cc_H s0 D ca e0 O H A G w) {kd r m : Nat} {x : Int32} (hu : cr_Up D kc H (A 10 0) (.inl (ca 0, 60, .inl (upd (w.2.1 0) r x))) H1) : cc_H s0 D ca e0 O H1 A (mm_tl G kd r m) (w_l w r x) := by
  refine h.up Z (k := 10) (i := 0) (Nat.zero_le _) rfl hu (cc_l_eq (fun k hk => tl_k (by omega) (by omega) (by omega) (by omega)) (fun d => tl_k (by decide) (by decide) (by decide) (by decide))) (fun j hj => by have := cc_n_in hj; exact tl_k (by omega) (by omega) (by omega) (by omega)) (fun d => tl_k (by decide) (by decide) (by decide) (by decide)) (fun k' i' q qo e => ?_)
  have e1 : ∀ a b, a ≠ 28 → a ≠ 29 → a ≠ 30 → a ≠ 31 → mm_tl G kd r m a b = G a b := fun a b h1 h2 h3 h4 => tl_k h1 h2 h3 h4
  unfold cc_c w_l
  split <;> simp [e1]
  intro e9
  exact absurd ⟨rfl, e9⟩ e
set_option maxRecDepth 20000 in
theorem j_C_end_ok (hl : l.flags = flags0) (Z : cr_Z0 s0 D ca e0) (h : cc_H s0 D ca e0 O H A G w) (h22 : G 22 0 ≤ 16) {r m : Nat} (hr : r < G 22 0) (hm : m ≤ 1000000) : cr_c l s0 y_C_end cw_C_end 1 0 0 [.ref (A 14 0), .int (nI r), .int (nI m)] H (fun o H' => o = .inl (some (.int (w.2.2.1 0 r))) ∧ cc_H s0 D ca e0 O H' A (mm_tl G 2 r m) (w_e w r (nI m)) ∧ cr_Fr O H H') := by
  refine cr_enter (by decide +kernel) (Nat.le_of_ble_eq_true rfl) (fun hlo P9 E9 S9 M9 A9 B9 T9 C9 C hem hH => ?_)
  obtain ⟨md, hal, -⟩ := (h.li 4 (by decide)).2
  refine cr_vc [] 120 (s_C_end hl Z C hem) (fun K hK => ?_)
  conv => whnf
  refine ⟨fun b1 => absurd b1 (nI_pos (by omega)), fun b1 => ?_⟩
  conv => whnf
  refine ⟨_, (h.c 14 0 rfl), ?_⟩
  conv => whnf
  refine ⟨rfl, ?_⟩
  conv => whnf
  refine ⟨_, hal, _, _, _, _, j_AL_sizeL hl Z (h.li 4 (by decide)), by decide, cr_le rfl, cr_le rfl, cr_le rfl, fun v9 H9 q9 _ => ?_, fun kd H9 q9 _ => by cases q9.1⟩
  obtain ⟨q9a, q9b⟩ := q9
  cases q9a
  replace q9b := q9b.symm
  subst q9b
  conv => whnf
  refine ⟨fun b14 => ?_, fun b14 => absurd (nI_lt hr (by omega)) b14⟩
  conv => whnf
  refine ⟨rfl, ?_⟩
  conv => whnf
  refine ⟨_, _, _, _, j_C_checkMinute hl Z (mm_min_of hm), by decide, cr_le rfl, cr_le rfl, cr_le rfl, fun v28 H28 q28 _ => ?_, fun kd H9 q9 _ => by cases q9.1⟩
  obtain ⟨q28a, q28b⟩ := q28
  cases q28a
  replace q28b := q28b.symm
  subst q28b
  conv => whnf
  refine ⟨_, (h.c 14 0 rfl), ?_⟩
  conv => whnf
  refine ⟨_, (h.c 9 0 (Nat.zero_le _)), ?_⟩
  conv => whnf
  refine ⟨_, _, _, (h.c 11 0 (Nat.zero_le _)), rfl, show r < 16 by omega, cr_le rfl, ?_⟩
  conv => whnf
  refine ⟨cr_le rfl, ?_⟩
  conv => whnf
  refine ⟨_, (h.c 14 0 rfl), ?_⟩
  conv => whnf
  refine ⟨_, (h.c 9 0 (Nat.zero_le _)), ?_⟩
  conv => whnf
  refine ⟨_, _, _, (h.c 11 0 (Nat.zero_le _)), (h.lo 11 0 (Nat.zero_le _)).1, rfl, show r < 16 by omega, cr_le rfl, fun H50 u50 => ?_⟩
  conv => whnf
  exact ⟨cr_le rfl, cr_le rfl, rfl, cc_end Z h u50, cc_Fr h (k := 11) (i := 0) (Nat.zero_le _) u50⟩
set_option maxRecDepth 20000 in
theorem j_C_lost_ok (hl : l.flags = flags0) (Z : cr_Z0 s0 D ca e0) (h : cc_H s0 D ca e0 O H A G w) (h19 : G 19 0 ≤ 60) {c m : Nat} (hc : c < G 19 0) (hm : m ≤ 1000000) : cr_c l s0 y_C_lost cw_C_lost 4 0 0 [.ref (A 14 0), .int (nI c), .int (nI m)] H (fun o H' => o = .inl (some (.int (w.2.1 0 c))) ∧ cc_H s0 D ca e0 O H' A (mm_tl G 3 c m) (w_l w c (nI m)) ∧ cr_Fr O H H') := by
  refine cr_enter (by decide +kernel) (Nat.le_of_ble_eq_true rfl) (fun hlo P9 E9 S9 M9 A9 B9 T9 C9 C hem hH => ?_)
  refine cr_vc [] 120 (s_C_lost hl Z C hem) (fun K hK => ?_)
  conv => whnf
  refine ⟨rfl, ?_⟩
  conv => whnf
  refine ⟨_, (h.c 14 0 rfl), _, _, _, _, j_C_cardNumbered hl Z (h.c 14 0 rfl) (h.li 3 (by decide)) (show G 19 0 < 2 ^ 31 by omega) hc (h.c 3 c hc), by decide, cr_le rfl, cr_le rfl, cr_le rfl, fun v2 H2 q2 _ => ?_, fun kd H9 q9 _ => by cases q9.1⟩
  obtain ⟨q2a, q2b⟩ := q2
  cases q2a
  replace q2b := q2b.symm
  subst q2b
  conv => whnf
  refine ⟨cr_le rfl, ?_⟩
  conv => whnf
  refine ⟨rfl, ?_⟩
  conv => whnf
  refine ⟨_, _, _, _, j_C_checkMinute hl Z (mm_min_of hm), by decide, cr_le rfl, cr_le rfl, cr_le rfl, fun v7 H7 q7 _ => ?_, fun kd H9 q9 _ => by cases q9.1⟩
  obtain ⟨q7a, q7b⟩ := q7
  cases q7a
  replace q7b := q7b.symm
  subst q7b
  conv => whnf
  refine ⟨_, (h.c 14 0 rfl), ?_⟩
  conv => whnf
  refine ⟨_, (h.c 9 0 (Nat.zero_le _)), ?_⟩
  conv => whnf
  refine ⟨_, (h.c 3 c hc), ?_⟩
  conv => whnf
  refine ⟨_, _, _, (h.c 10 0 (Nat.zero_le _)), rfl, show c < 60 by omega, cr_le rfl, ?_⟩
  conv => whnf
  refine ⟨cr_le rfl, ?_⟩
  conv => whnf
  refine ⟨_, (h.c 14 0 rfl), ?_⟩
  conv => whnf
  refine ⟨_, (h.c 9 0 (Nat.zero_le _)), ?_⟩
  conv => whnf
  refine ⟨_, (h.c 3 c hc), ?_⟩
  conv => whnf
  refine ⟨_, _, _, (h.c 10 0 (Nat.zero_le _)), (h.lo 10 0 (Nat.zero_le _)).1, rfl, show c < 60 by omega, cr_le rfl, fun H36 u36 => ?_⟩
  conv => whnf
  exact ⟨cr_le rfl, cr_le rfl, rfl, cc_lost Z h u36, cc_Fr h (k := 10) (i := 0) (Nat.zero_le _) u36⟩
end CEL
