/-! THE CLASS: door (printed by gen/comp18.py) -/
section CDO
variable {l : Launch} {s0 : State} {D : va_G} {ca : Nat → ClassId} {e0 : Nat} {O : Nat → Prop} {H : Heap} {A : Nat → Nat → Nat} {G : mm_G} {w : cc_W}
theorem cr_li.zero {a : Nat} {f g : Nat → Nat} (h : cr_li s0 D ca e0 H a e0 0 f) : cr_li s0 D ca e0 H a e0 0 g := by
  obtain ⟨q1, md, q2, q3⟩ := h
  exact ⟨q1, md, q2, Or.inl ⟨rfl, rfl⟩⟩
set_option maxRecDepth 20000 in
theorem j_C_door_ok (hl : l.flags = flags0) (Z : cr_Z0 s0 D ca e0) (h : cc_H s0 D ca e0 O H A G w) (hr : cc_r G) {a b : Nat} (ha : a < G 2 0) (hb : b < G 2 0) (hab : a ≠ b) (h2 : G 2 0 ≤ 20) (h4 : G 4 0 < 30) (h7 : G 7 (G 4 0) = 0) (h8 : G 8 (G 4 0) = 0) (h9 : G 9 (G 4 0) = 0) (h12 : G 12 (G 4 0) = 0) : cr_c l s0 y_C_door cw_C_door 8 6 202 [.ref (A 14 0), .int (nI a), .int (nI b)] H (fun o H' => ∃ ea g1 g2, (∀ i, i < 60 → g1 i = -1) ∧ (∀ i, i < 16 → g2 i = -1) ∧ o = .inl (some (.int (nI (G 4 0)))) ∧ cc_H s0 D ca e0 (fun x => O x ∨ H.size ≤ x) H' (dr_A e0 A (G 4 0) H.size ea) (dr_G G a b) (w_d w (G 4 0) g1 g2) ∧ cr_Fr O H H') := by
  refine cr_enter (by decide +kernel) (Nat.le_of_ble_eq_true rfl) (fun hlo P9 E9 S9 M9 A9 B9 T9 C9 C hem hH => ?_)
  obtain ⟨md, hal, -⟩ := (h.li 1 (by decide)).2
  refine cr_vc [] 120 (s_C_door hl Z C hem) (fun K hK => ?_)
  conv => whnf
  refine ⟨rfl, ?_⟩
  conv => whnf
  refine ⟨_, (h.c 14 0 rfl), _, _, _, _, j_C_roomNumbered hl Z (h.c 14 0 rfl) (h.li 0 (by decide)) (show G 2 0 < 2 ^ 31 by omega) ha (h.c 0 a ha), by decide, cr_le rfl, cr_le rfl, cr_le rfl, fun v2 H2 q2 _ => ?_, fun kd H9 q9 _ => by cases q9.1⟩
  obtain ⟨q2a, q2b⟩ := q2
  cases q2a
  replace q2b := q2b.symm
  subst q2b
  conv => whnf
  refine ⟨cr_le rfl, ?_⟩
  conv => whnf
  refine ⟨rfl, ?_⟩
  conv => whnf
  refine ⟨_, (h.c 14 0 rfl), _, _, _, _, j_C_roomNumbered hl Z (h.c 14 0 rfl) (h.li 0 (by decide)) (show G 2 0 < 2 ^ 31 by omega) hb (h.c 0 b hb), by decide, cr_le rfl, cr_le rfl, cr_le rfl, fun v8 H8 q8 _ => ?_, fun kd H9 q9 _ => by cases q9.1⟩
  obtain ⟨q8a, q8b⟩ := q8
  cases q8a
  replace q8b := q8b.symm
  subst q8b
  conv => whnf
  refine ⟨cr_le rfl, ?_⟩
  conv => whnf
  refine ⟨fun b15 => ?_, fun b15 => absurd ((nI_eq (by omega) (by omega)).mp b15) hab⟩
  conv => whnf
  refine ⟨_, (h.c 14 0 rfl), ?_⟩
  conv => whnf
  refine ⟨rfl, ?_⟩
  conv => whnf
  refine ⟨_, hal, _, _, _, _, j_AL_sizeL hl Z (h.li 1 (by decide)), by decide, cr_le rfl, cr_le rfl, cr_le rfl, fun v32 H32 q32 _ => ?_, fun kd H9 q9 _ => by cases q9.1⟩
  obtain ⟨q32a, q32b⟩ := q32
  cases q32a
  replace q32b := q32b.symm
  subst q32b
  conv => whnf
  refine ⟨fun b39 => ?_, fun b39 => absurd (show nI (G 4 0) < nI 30 from nI_lt h4 (by decide)) b39⟩
  conv => whnf
  refine ⟨cr_le rfl, cr_le rfl, fun q52 H52 n52 => ?_⟩
  obtain ⟨e52, lq, sz52, at52, fr52⟩ := n52
  subst e52
  have li0 := h.li 1 (by decide)
  have he0 := cr_e0lt Z
  have l50 : A 5 1 < H.size := li0.lt.1
  have l60 : A 6 1 < H.size := by
    by_cases q6 : A 6 1 = e0
    · omega
    · exact li0.lt.2 q6
  have lx : A 14 0 < H.size := cr_at_lt (h.c 14 0 rfl)
  have xN := cr_at_eq (h.c 14 0 rfl) (fr52 _ lx)
  have liN := li0.fr (fr52 _ l50) (fr52 _ l60)
  obtain ⟨mdN, halN, -⟩ := liN.2
  conv => whnf
  refine ⟨rfl, ?_⟩
  conv => whnf
  refine ⟨_, xN, ?_⟩
  conv => whnf
  refine ⟨rfl, ?_⟩
  conv => whnf
  refine ⟨_, halN, _, _, _, _, j_AL_sizeL hl Z liN, by decide, cr_le rfl, cr_le rfl, cr_le rfl, fun v60 H60 q60 _ => ?_, fun kd H9 q9 _ => by cases q9.1⟩
  obtain ⟨q60a, q60b⟩ := q60
  cases q60a
  replace q60b := q60b.symm
  subst q60b
  conv => whnf
  refine ⟨rfl, ?_⟩
  conv => whnf
  refine ⟨_, _, _, _, j_Dr_init (f := fun _ => 0) hl Z (cr_Nw.fr ⟨rfl, lq, sz52, at52, fr52⟩ |>.old h.old hlo (fun _ q => q.elim)) lq at52, by decide, cr_le rfl, cr_le rfl, cr_le rfl, fun v68 H68 q68 _ => ?_, fun kd H9 q9 _ => by cases q9.1⟩
  obtain ⟨qa, d68, k68, ⟨g1, hg1, l68⟩, ⟨g2, hg2, m68⟩, li68, sz68, fr68⟩ := q68
  cases qa
  rw [sz52] at d68 k68 l68 m68 li68 sz68
  have xI := cr_at_eq xN (fr68 _ (by omega) (by omega))
  have liI := liN.fr (fr68 _ (by omega) (by omega)) (fr68 _ (by omega) (by omega))
  obtain ⟨mdI, halI, -⟩ := liI.2
  have frI : cr_Fr (fun _ => False) H H68 := ⟨by rw [sz68]; omega, fun q a _ => (fr68 q (by omega) (by omega)).trans (fr52 q a)⟩
  have oldI : cr_Old s0 H68 := frI.old h.old hlo (fun _ q => q.elim)
  conv => whnf
  refine ⟨cr_le rfl, ?_⟩
  conv => whnf
  refine ⟨_, xI, ?_⟩
  conv => whnf
  refine ⟨rfl, ?_⟩
  conv => whnf
  refine ⟨_, halI, _, _, _, _, j_AL_add (v := H.size) hl Z oldI liI (show G 4 0 ≤ 72 by omega) (fun i hi => ⟨fun e => absurd (h.2.2.2.2.1 1 i 5 1 (Or.inl hi) (Or.inl (show 1 < 5 by decide)) e).1 (by decide), 2, _, by decide, frI.at (h.c 1 i hi) (fun q => q)⟩) ⟨2, _, by decide, d68⟩ (by omega), by decide, cr_le rfl, cr_le rfl, cr_le rfl, fun v79 H79 q79 _ => ?_, fun kd H9 q9 _ => by cases q9.1⟩
  obtain ⟨qa, ea, liA, hea, frA⟩ := q79
  cases qa
  have ntp : ∀ q, H.size ≤ q → ¬ cr_tp s0 (A 5 1) (A 6 1) q := by
    rintro q hq (e | ⟨e, -⟩)
    · omega
    · omega
  have dA := frA.at d68 (ntp _ (by omega))
  have frT := frI.trans frA (fun _ _ q => q.elim) (fun _ _ q => q)
  have hF := cc_newdoor he0 h hr hlo ha hb h7 h8 h9 h12 (g1 := g1) (g2 := g2) frT (hea.imp id (fun e => by omega)) dA (frA.at k68 (ntp _ (by omega))) (frA.at l68 (ntp _ (by omega))) (frA.at m68 (ntp _ (by omega))) (fun f => (li68.fr (frA.2 _ (by omega) (ntp _ (by omega))) (frA.2 e0 (by omega) (by
    rintro (e | ⟨-, e⟩)
    · have := (h.lo 5 1 (show 1 < 5 by decide)).1
      omega
    · omega))).zero) liA
  conv => whnf
  refine ⟨rfl, ?_⟩
  conv => whnf
  refine ⟨_, dA, ?_⟩
  conv => whnf
  refine ⟨cr_le rfl, cr_le rfl, ea, g1, g2, hg1, hg2, rfl, hF, frI.trans frA (fun _ _ q => q.elim) (fun q hq hT => ?_)⟩
  rcases hT with e | ⟨e, e2⟩
  · rw [e]
    exact (h.lo 5 1 (show 1 < 5 by decide)).2
  · by_cases q6 : A 6 1 = e0
    · omega
    · rw [e]
      exact (h.1 6 1 (Or.inr (Or.inl ⟨rfl, by decide, q6⟩))).2
end CDO
