/-! THE CLASS: state (printed by gen/comp10.py) -/
section CST
variable {l : Launch} {s0 : State} {D : va_G} {ca : Nat → ClassId} {e0 : Nat} {O : Nat → Prop} {H H1 : Heap} {A : Nat → Nat → Nat} {G : mm_G} {w : cc_W}
theorem cc_n_in {j : Nat} (hj : j < 5) : cc_n j = 2 ∨ cc_n j = 4 ∨ cc_n j = 16 ∨ cc_n j = 19 ∨ cc_n j = 22 := by
  rcases (show j = 0 ∨ j = 1 ∨ j = 2 ∨ j = 3 ∨ j = 4 by omega) with rfl | rfl | rfl | rfl | rfl <;> decide
/-- a change of G at a field that counts nothing -/
def cc_free (k : Nat) : Prop := k ≠ 2 ∧ k ≠ 4 ∧ k ≠ 16 ∧ k ≠ 19 ∧ k ≠ 22 ∧ k ≠ 12
theorem cc_l_up {k i v : Nat} (h : cc_free k) : ∀ a b, cc_l (mm_up G k i v) a b → cc_l G a b :=
  cc_l_eq (fun q hq => mm_up_k _ _ _ _ (by obtain ⟨h1, h2, h3, h4, h5, h6⟩ := h; omega)) (fun d => mm_up_k _ _ _ _ (Ne.symm h.2.2.2.2.2))
theorem cc_H.upG (Z : cr_Z0 s0 D ca e0) (h : cc_H s0 D ca e0 O H A G w) {k i f j v : Nat} (hl : cc_l G k i) (ho : cc_o k = true) (hf : cc_free f) (hu : cr_Up D kc H (A k i) (cc_c ca A (mm_up G f j v) w k i) H1)
    (hc : ∀ k' i', cc_l G k' i' → cc_o k' = true → ¬ (k' = k ∧ i' = i) → cc_c ca A (mm_up G f j v) w k' i' = cc_c ca A G w k' i') : cc_H s0 D ca e0 O H1 A (mm_up G f j v) w :=
  h.up Z hl ho hu (cc_l_up hf) (fun q hq => mm_up_k _ _ _ _ (by have := cc_n_in hq; obtain ⟨h1, h2, h3, h4, h5, h6⟩ := hf; omega)) (fun d => mm_up_k _ _ _ _ (Ne.symm hf.2.2.2.2.2)) hc
/-- a field of the doors: 7 two, 8 open, 9 since -/
theorem cc_door (Z : cr_Z0 s0 D ca e0) (h : cc_H s0 D ca e0 O H A G w) {d f v : Nat} (hf : f = 7 ∨ f = 8 ∨ f = 9) (hd : d < G 4 0) (hu : cr_Up D kc H (A 1 d) (cc_c ca A (mm_up G f d v) w 1 d) H1) : cc_H s0 D ca e0 O H1 A (mm_up G f d v) w := by
  refine h.upG Z (k := 1) (i := d) hd rfl (by unfold cc_free; omega) hu (fun k' i' q qo e => ?_)
  have e1 : ∀ a b, a ≠ 7 → a ≠ 8 → a ≠ 9 → mm_up G f d v a b = G a b := fun a b h7 h8 h9 => mm_up_k _ _ _ _ (by omega)
  unfold cc_c
  split <;> simp [e1]
  have hne : i' ≠ d := fun e9 => e ⟨rfl, e9⟩
  exact ⟨congrArg nI (mm_up_i _ _ _ _ hne), congrArg nI (mm_up_i _ _ _ _ hne), congrArg nI (mm_up_i _ _ _ _ hne)⟩
theorem cc_now (Z : cr_Z0 s0 D ca e0) (h : cc_H s0 D ca e0 O H A G w) {v : Nat} (hu : cr_Up D kc H (A 14 0) (cc_c ca A (mm_up G 1 0 v) w 14 0) H1) : cc_H s0 D ca e0 O H1 A (mm_up G 1 0 v) w := by
  refine h.upG Z (k := 14) (i := 0) rfl rfl (by unfold cc_free; omega) hu (fun k' i' q qo e => ?_)
  have e1 : ∀ a b, a ≠ 1 → mm_up G 1 0 v a b = G a b := fun a b h7 => mm_up_k _ _ _ _ h7
  by_cases e14 : k' = 14
  · subst e14
    exact absurd ⟨rfl, q⟩ e
  · unfold cc_l at q
    split at q
    all_goals first
      | exact absurd rfl e14
      | exact q.elim
      | (cases qo; done)
      | (show _ = _; unfold cc_c; simp [e1]; done)
      | (unfold cc_c; split <;> simp_all; done)
      | skip

def st_G (G : mm_G) (d o m : Nat) : mm_G := if nI (G 8 d) = nI o then mm_up G 1 0 m else mm_up (mm_up (mm_up G 1 0 m) 8 d o) 9 d m
set_option maxRecDepth 20000 in
theorem j_C_state_ok (hl : l.flags = flags0) (Z : cr_Z0 s0 D ca e0) (h : cc_H s0 D ca e0 O H A G w) {d o m : Nat} (hd : d < G 4 0) (h4 : G 4 0 ≤ 30) (ho : o < 2) (hm : m ≤ 1000000) (hn : G 1 0 ≤ m) : cr_c l s0 y_C_state cw_C_state 4 0 0 [.ref (A 14 0), .int (nI d), .int (nI o), .int (nI m)] H (fun r H' => r = .inl (some (.int (nI m - nI (G 9 d)))) ∧ cc_H s0 D ca e0 O H' A (st_G G d o m) w ∧ cr_Fr O H H') := by
  refine cr_enter (by decide +kernel) (Nat.le_of_ble_eq_true rfl) (fun hlo P9 E9 S9 M9 A9 B9 T9 C9 C hem hH => ?_)
  refine cr_vc [] 120 (s_C_state hl Z C hem) (fun K hK => ?_)
  conv => whnf
  refine ⟨rfl, ?_⟩
  conv => whnf
  refine ⟨_, (h.c 14 0 rfl), _, _, _, _, j_C_doorNumbered hl Z (h.c 14 0 rfl) (h.li 1 (by decide)) (show G 4 0 < 2 ^ 31 by omega) hd (h.c 1 d hd), by decide, cr_le rfl, cr_le rfl, cr_le rfl, fun v2 H2 q2 _ => ?_, fun kd H9 q9 _ => by cases q9.1⟩
  obtain ⟨q2a, q2b⟩ := q2
  cases q2a
  replace q2b := q2b.symm
  subst q2b
  conv => whnf
  refine ⟨cr_le rfl, ?_⟩
  conv => whnf
  refine ⟨rfl, ?_⟩
  conv => whnf
  refine ⟨_, (h.c 14 0 rfl), _, _, _, _, j_C_checkMinuteFromNow hl Z (h.c 14 0 rfl) (mm_min_of hm) (nI_le hn (by omega)), by decide, cr_le rfl, cr_le rfl, cr_le rfl, fun v9 H9 q9 _ => ?_, fun kd H9 q9 _ => by cases q9.1⟩
  obtain ⟨q9a, q9b⟩ := q9
  cases q9a
  replace q9b := q9b.symm
  subst q9b
  conv => whnf
  refine ⟨_, (h.c 14 0 rfl), (h.lo 14 0 rfl).1, ⟨rfl, rfl⟩, ?_⟩
  conv => whnf
  intro H14 u14
  have h1 := cc_now (v := m) Z h u14
  conv => whnf
  refine ⟨_, (h1.c 1 d hd), ?_⟩
  conv => whnf
  refine ⟨cr_le rfl, ?_⟩
  conv => whnf
  refine ⟨_, (h1.c 1 d hd), ?_⟩
  conv => whnf
  refine ⟨fun b32 => ?_, fun b32 => ?_⟩
  · conv => whnf
    exact ⟨cr_le rfl, cr_le rfl, rfl, (by unfold st_G; rw [if_pos (show nI (G 8 d) = nI o from b32)]; exact h1), cc_Fr h (k := 14) (i := 0) rfl u14⟩
  · conv => whnf
    refine ⟨_, (h1.c 1 d hd), (h.lo 1 d hd).1, ⟨mm_nb ho, mm_fb ho⟩, ?_⟩
    conv => whnf
    intro H38 u38
    have h2 := cc_door (f := 8) (d := d) (v := o) Z h1 (by decide) hd (by refine ⟨u38.1, ?_, u38.2.2⟩; have q := u38.2.1; show va_at D kc (A 1 d, cc_c ca A (mm_up (mm_up G 1 0 m) 8 d o) w 1 d) H38; rw [cc_c1, mm_up_s]; exact q)
    conv => whnf
    refine ⟨_, (h2.c 1 d hd), (h.lo 1 d hd).1, ⟨rfl, rfl⟩, ?_⟩
    conv => whnf
    intro H44 u44
    have h3 := cc_door (f := 9) (d := d) (v := m) Z h2 (by decide) hd (by refine ⟨u44.1, ?_, u44.2.2⟩; have q := u44.2.1; show va_at D kc (A 1 d, cc_c ca A (mm_up (mm_up (mm_up G 1 0 m) 8 d o) 9 d m) w 1 d) H44; rw [cc_c1, mm_up_s]; exact q)
    conv => whnf
    exact ⟨cr_le rfl, cr_le rfl, rfl, (by unfold st_G; rw [if_neg (show ¬ nI (G 8 d) = nI o from b32)]; exact h3), ((cc_Fr h (k := 14) (i := 0) rfl u14).trans (cc_Fr h1 (k := 1) (i := d) hd u38) (fun _ _ q => q) (fun _ _ q => q)).trans (cc_Fr h2 (k := 1) (i := d) hd u44) (fun _ _ q => q) (fun _ _ q => q)⟩
end CST
