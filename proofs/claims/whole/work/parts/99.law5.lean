/-! THE LAW's wrappers: what they answer (printed by gen/comp31.py) -/
section LWR
variable {l : Launch} {s0 : State} {D : va_G} {ca : Nat → ClassId} {e0 : Nat} {O : Nat → Prop} {H : Heap} {A : Nat → Nat → Nat} {G G' : mm_G} {w : cc_W} {t' code oa : Nat} {r : Int32} {f0 : Nat → Int64} {fs : List Value}
theorem cc_H.frT {T : Nat → Prop} {H' : Heap} (Z : cr_Z0 s0 D ca e0) (h : cc_H s0 D ca e0 O H A G w) (hlo : s0.heap.size ≤ H.size) (hf : cr_Fr T H H') (hT : ∀ q, T q → ¬ O q ∧ s0.heap.size ≤ q) : cc_H s0 D ca e0 O H' A G w := by
  have hlt := fun k i (q : cc_L e0 A G k i) => h.lt q
  have he := cr_e0lt Z
  obtain ⟨c1, c2, c3, c4, c5, c6⟩ := h
  have kp : ∀ k i, cc_L e0 A G k i → H'[A k i]? = H[A k i]? := fun k i q => hf.2 _ (hlt k i q) (fun z => (hT _ z).1 (c1 k i q).2)
  have ke : H'[e0]? = H[e0]? := hf.2 _ (by omega) (fun z => by have := (hT _ z).2; omega)
  refine ⟨c1, fun k i q qo => cr_at_eq (c2 k i q qo) (kp k i (Or.inl q)), fun i hi => ?_, fun i hi => ?_, c5, hf.old c6 hlo (fun q z => (hT q z).2)⟩
  · refine (c3 i hi).fr (kp 5 i (Or.inl hi)) ?_
    by_cases q6 : A 6 i = e0
    · rw [q6]
      exact ke
    · exact kp 6 i (Or.inr (Or.inl ⟨rfl, hi, q6⟩))
  · refine (c4 i hi).fr (kp 7 i (Or.inl hi)) ?_
    by_cases q8 : A 8 i = e0
    · rw [q8]
      exact ke
    · exact kp 8 i (Or.inr (Or.inr ⟨rfl, hi, q8⟩))
def sm_W (s0 : State) (D : va_G) (ca : Nat → ClassId) (e0 : Nat) (O : Nat → Prop) (H : Heap) (A : Nat → Nat → Nat) (oa : Nat) (G' : mm_G) (t' code : Nat) (lv : Int64) : cr_Q := fun o H' => o = .inl (some (.int (nI code))) ∧ cr_Fr (fun q => O q ∨ q = oa) H H' ∧ (∃ O' A' w', cc_H s0 D ca e0 O' H' A' G' w' ∧ sm_K G' w' t' ∧ (∀ q, O' q → O q ∨ H.size ≤ q) ∧ A' 14 0 = A 14 0) ∧ ∃ f, va_at D kc (oa, .inl (ca 1, 1, .inr (.inl f))) H' ∧ (code = 0 → f 0 = lv)
theorem sm_Wthr (hno : ¬ O oa) (ho : va_at D kc (oa, .inl (ca 1, 1, .inr (.inl f0))) H) (hc : code ≠ 0) {H1 : Heap} {lv : Int64} {oo : cr_Oc} (q : sm_C s0 D ca e0 O H A G' t' code r oo H1) : sm_W s0 D ca e0 O H A oa G' t' code lv (.inl (some (.int (nI code)))) H1 := by
  obtain ⟨q1, q2, q3⟩ := q
  exact ⟨rfl, q2.mono (fun _ _ z => Or.inl z), q3, f0, q2.at ho hno, fun z => absurd z hc⟩
theorem sm_Wret (Z : cr_Z0 s0 D ca e0) (hlo : s0.heap.size ≤ H.size) (hno : ¬ O oa) (hoa : s0.heap.size ≤ oa) (ho : va_at D kc (oa, .inl (ca 1, 1, .inr (.inl f0))) H) {H1 H2 : Heap} {lv : Int64} {oo : cr_Oc} (q : sm_C s0 D ca e0 O H A G' t' 0 r oo H1) (u : cr_Up D kc H1 oa (.inl (ca 1, 1, .inr (.inl (vp_updL f0 0 lv)))) H2) : sm_W s0 D ca e0 O H A oa G' t' 0 lv (.inl (some (.int 0))) H2 := by
  obtain ⟨q1, q2, O', A', w', q3, q4, q5, q6⟩ := q
  have hlt := cr_at_lt ho
  refine ⟨rfl, q2.trans u.fr (fun _ _ z => Or.inl z) (fun _ _ z => Or.inr z), ⟨O', A', w', q3.frT Z (Nat.le_trans hlo q2.1) u.fr (fun q z => ?_), q4, q5, q6⟩, _, u.2.1, fun _ => rfl⟩
  subst z
  refine ⟨fun z => ?_, hoa⟩
  rcases q5 _ z with z | z
  · exact hno z
  · omega
set_option maxRecDepth 20000 in
theorem j_L_room (hl : l.flags = flags0) (Z : cr_Z0 s0 D ca e0) (hN : cr_No s0) {p0 : Int32} (hx : va_at D kc (A 14 0, .inr (0, fs)) H) (hc : cr_c l s0 y_C_room cw_C_room 20 6 230 [.ref (A 14 0), .int p0] H (sm_C s0 D ca e0 O H A G' t' code r)) (hcode : code ≤ 2) (ho : va_at D kc (oa, .inl (ca 1, 1, .inr (.inl f0))) H) (hoa : s0.heap.size ≤ oa) (hno : ¬ O oa) : cr_c l s0 y_L_room cw_L_room 21 6 230 [.ref (A 14 0), .int p0, .ref oa] H (sm_W s0 D ca e0 O H A oa G' t' code r.toInt64) := by
  refine cr_enterW (by decide +kernel) (Nat.le_of_ble_eq_true rfl) (fun hlo P9 E9 S9 M9 A9 B9 T9 C9 C hcw hn hm hcd hH => ?_)
  obtain ⟨m9, t9, c9, z0, z1, z2, -, -, z3, -⟩ := Cond.codeWith_spec hcw
  cases hn.symm.trans z0
  cases hm.symm.trans z1
  cases hcd.symm.trans z2
  have hcat := cr_rows2 (p := P9) (l := l) (e := E9) (R := cr_rm 21 6 230) (args := A9) (below := B9) (meth := T9) Z hN C.2.2.2.2.2.2.2.1 C.2.2.2.1 (pc := 4) (by decide) z3
  refine cr_vc [] 60 (s_L_room (hdl := (hd2 12 15)) Z C hcat) (fun K hK => ?_)
  conv => whnf
  refine ⟨rfl, ?_⟩
  conv => whnf
  refine ⟨_, hx, 20, 6, 230, _, hc, by decide, cr_le rfl, cr_le rfl, cr_le rfl, fun v H1 q _ => ?_, fun kd H1 q _ => ?_⟩
  · have hc0 : code = 0 := by
      by_cases e : code = 0
      · exact e
      · have q1 := q.1
        rw [if_neg e] at q1
        cases q1
    subst hc0
    have q1 : (Sum.inl v : cr_Oc) = .inl (some (.int r)) := q.1
    cases q1
    have ho1 := q.2.1.at ho hno
    conv => whnf
    refine ⟨1, f0, 0, ho1, hoa, rfl, by decide, by decide, fun H2 u => ?_⟩
    conv => whnf
    exact ⟨cr_le rfl, cr_le rfl, sm_Wret Z hlo hno hoa ho q u⟩
  · have hc0 : code ≠ 0 := fun e => by
      have q1 := q.1
      rw [if_pos e] at q1
      cases q1
    have q1 := q.1
    rw [if_neg hc0] at q1
    cases q1
    rcases (show code = 1 ∨ code = 2 by omega) with rfl | rfl
    · refine ⟨12, rfl, fun a => ?_⟩
      conv => whnf
      refine ⟨cr_le rfl, ?_⟩
      conv => whnf
      exact ⟨cr_le rfl, cr_le rfl, sm_Wthr hno ho hc0 q⟩
    · refine ⟨15, rfl, fun a => ?_⟩
      conv => whnf
      refine ⟨cr_le rfl, ?_⟩
      conv => whnf
      exact ⟨cr_le rfl, cr_le rfl, sm_Wthr hno ho hc0 q⟩
set_option maxRecDepth 20000 in
theorem j_L_door (hl : l.flags = flags0) (Z : cr_Z0 s0 D ca e0) (hN : cr_No s0) {p0 p1 : Int32} (hx : va_at D kc (A 14 0, .inr (0, fs)) H) (hc : cr_c l s0 y_C_door cw_C_door 20 6 230 [.ref (A 14 0), .int p0, .int p1] H (sm_C s0 D ca e0 O H A G' t' code r)) (hcode : code ≤ 2) (ho : va_at D kc (oa, .inl (ca 1, 1, .inr (.inl f0))) H) (hoa : s0.heap.size ≤ oa) (hno : ¬ O oa) : cr_c l s0 y_L_door cw_L_door 21 6 230 [.ref (A 14 0), .int p0, .int p1, .ref oa] H (sm_W s0 D ca e0 O H A oa G' t' code r.toInt64) := by
  refine cr_enterW (by decide +kernel) (Nat.le_of_ble_eq_true rfl) (fun hlo P9 E9 S9 M9 A9 B9 T9 C9 C hcw hn hm hcd hH => ?_)
  obtain ⟨m9, t9, c9, z0, z1, z2, -, -, z3, -⟩ := Cond.codeWith_spec hcw
  cases hn.symm.trans z0
  cases hm.symm.trans z1
  cases hcd.symm.trans z2
  have hcat := cr_rows2 (p := P9) (l := l) (e := E9) (R := cr_rm 21 6 230) (args := A9) (below := B9) (meth := T9) Z hN C.2.2.2.2.2.2.2.1 C.2.2.2.1 (pc := 5) (by decide) z3
  refine cr_vc [] 60 (s_L_door (hdl := (hd2 13 17)) Z C hcat) (fun K hK => ?_)
  conv => whnf
  refine ⟨rfl, ?_⟩
  conv => whnf
  refine ⟨_, hx, 20, 6, 230, _, hc, by decide, cr_le rfl, cr_le rfl, cr_le rfl, fun v H1 q _ => ?_, fun kd H1 q _ => ?_⟩
  · have hc0 : code = 0 := by
      by_cases e : code = 0
      · exact e
      · have q1 := q.1
        rw [if_neg e] at q1
        cases q1
    subst hc0
    have q1 : (Sum.inl v : cr_Oc) = .inl (some (.int r)) := q.1
    cases q1
    have ho1 := q.2.1.at ho hno
    conv => whnf
    refine ⟨1, f0, 0, ho1, hoa, rfl, by decide, by decide, fun H2 u => ?_⟩
    conv => whnf
    exact ⟨cr_le rfl, cr_le rfl, sm_Wret Z hlo hno hoa ho q u⟩
  · have hc0 : code ≠ 0 := fun e => by
      have q1 := q.1
      rw [if_pos e] at q1
      cases q1
    have q1 := q.1
    rw [if_neg hc0] at q1
    cases q1
    rcases (show code = 1 ∨ code = 2 by omega) with rfl | rfl
    · refine ⟨13, rfl, fun a => ?_⟩
      conv => whnf
      refine ⟨cr_le rfl, ?_⟩
      conv => whnf
      exact ⟨cr_le rfl, cr_le rfl, sm_Wthr hno ho hc0 q⟩
    · refine ⟨17, rfl, fun a => ?_⟩
      conv => whnf
      refine ⟨cr_le rfl, ?_⟩
      conv => whnf
      exact ⟨cr_le rfl, cr_le rfl, sm_Wthr hno ho hc0 q⟩
set_option maxRecDepth 20000 in
theorem j_L_person (hl : l.flags = flags0) (Z : cr_Z0 s0 D ca e0) (hN : cr_No s0) {p0 : Int32} (hx : va_at D kc (A 14 0, .inr (0, fs)) H) (hc : cr_c l s0 y_C_person cw_C_person 20 6 230 [.ref (A 14 0), .int p0] H (sm_C s0 D ca e0 O H A G' t' code r)) (hcode : code ≤ 2) (ho : va_at D kc (oa, .inl (ca 1, 1, .inr (.inl f0))) H) (hoa : s0.heap.size ≤ oa) (hno : ¬ O oa) : cr_c l s0 y_L_person cw_L_person 21 6 230 [.ref (A 14 0), .int p0, .ref oa] H (sm_W s0 D ca e0 O H A oa G' t' code r.toInt64) := by
  refine cr_enterW (by decide +kernel) (Nat.le_of_ble_eq_true rfl) (fun hlo P9 E9 S9 M9 A9 B9 T9 C9 C hcw hn hm hcd hH => ?_)
  obtain ⟨m9, t9, c9, z0, z1, z2, -, -, z3, -⟩ := Cond.codeWith_spec hcw
  cases hn.symm.trans z0
  cases hm.symm.trans z1
  cases hcd.symm.trans z2
  have hcat := cr_rows2 (p := P9) (l := l) (e := E9) (R := cr_rm 21 6 230) (args := A9) (below := B9) (meth := T9) Z hN C.2.2.2.2.2.2.2.1 C.2.2.2.1 (pc := 4) (by decide) z3
  refine cr_vc [] 60 (s_L_person (hdl := (hd2 12 15)) Z C hcat) (fun K hK => ?_)
  conv => whnf
  refine ⟨rfl, ?_⟩
  conv => whnf
  refine ⟨_, hx, 20, 6, 230, _, hc, by decide, cr_le rfl, cr_le rfl, cr_le rfl, fun v H1 q _ => ?_, fun kd H1 q _ => ?_⟩
  · have hc0 : code = 0 := by
      by_cases e : code = 0
      · exact e
      · have q1 := q.1
        rw [if_neg e] at q1
        cases q1
    subst hc0
    have q1 : (Sum.inl v : cr_Oc) = .inl (some (.int r)) := q.1
    cases q1
    have ho1 := q.2.1.at ho hno
    conv => whnf
    refine ⟨1, f0, 0, ho1, hoa, rfl, by decide, by decide, fun H2 u => ?_⟩
    conv => whnf
    exact ⟨cr_le rfl, cr_le rfl, sm_Wret Z hlo hno hoa ho q u⟩
  · have hc0 : code ≠ 0 := fun e => by
      have q1 := q.1
      rw [if_pos e] at q1
      cases q1
    have q1 := q.1
    rw [if_neg hc0] at q1
    cases q1
    rcases (show code = 1 ∨ code = 2 by omega) with rfl | rfl
    · refine ⟨12, rfl, fun a => ?_⟩
      conv => whnf
      refine ⟨cr_le rfl, ?_⟩
      conv => whnf
      exact ⟨cr_le rfl, cr_le rfl, sm_Wthr hno ho hc0 q⟩
    · refine ⟨15, rfl, fun a => ?_⟩
      conv => whnf
      refine ⟨cr_le rfl, ?_⟩
      conv => whnf
      exact ⟨cr_le rfl, cr_le rfl, sm_Wthr hno ho hc0 q⟩
set_option maxRecDepth 20000 in
theorem j_L_card (hl : l.flags = flags0) (Z : cr_Z0 s0 D ca e0) (hN : cr_No s0) {p0 p1 : Int32} (hx : va_at D kc (A 14 0, .inr (0, fs)) H) (hc : cr_c l s0 y_C_card cw_C_card 20 6 230 [.ref (A 14 0), .int p0, .int p1] H (sm_C s0 D ca e0 O H A G' t' code r)) (hcode : code ≤ 2) (ho : va_at D kc (oa, .inl (ca 1, 1, .inr (.inl f0))) H) (hoa : s0.heap.size ≤ oa) (hno : ¬ O oa) : cr_c l s0 y_L_card cw_L_card 21 6 230 [.ref (A 14 0), .int p0, .int p1, .ref oa] H (sm_W s0 D ca e0 O H A oa G' t' code r.toInt64) := by
  refine cr_enterW (by decide +kernel) (Nat.le_of_ble_eq_true rfl) (fun hlo P9 E9 S9 M9 A9 B9 T9 C9 C hcw hn hm hcd hH => ?_)
  obtain ⟨m9, t9, c9, z0, z1, z2, -, -, z3, -⟩ := Cond.codeWith_spec hcw
  cases hn.symm.trans z0
  cases hm.symm.trans z1
  cases hcd.symm.trans z2
  have hcat := cr_rows2 (p := P9) (l := l) (e := E9) (R := cr_rm 21 6 230) (args := A9) (below := B9) (meth := T9) Z hN C.2.2.2.2.2.2.2.1 C.2.2.2.1 (pc := 5) (by decide) z3
  refine cr_vc [] 60 (s_L_card (hdl := (hd2 13 17)) Z C hcat) (fun K hK => ?_)
  conv => whnf
  refine ⟨rfl, ?_⟩
  conv => whnf
  refine ⟨_, hx, 20, 6, 230, _, hc, by decide, cr_le rfl, cr_le rfl, cr_le rfl, fun v H1 q _ => ?_, fun kd H1 q _ => ?_⟩
  · have hc0 : code = 0 := by
      by_cases e : code = 0
      · exact e
      · have q1 := q.1
        rw [if_neg e] at q1
        cases q1
    subst hc0
    have q1 : (Sum.inl v : cr_Oc) = .inl (some (.int r)) := q.1
    cases q1
    have ho1 := q.2.1.at ho hno
    conv => whnf
    refine ⟨1, f0, 0, ho1, hoa, rfl, by decide, by decide, fun H2 u => ?_⟩
    conv => whnf
    exact ⟨cr_le rfl, cr_le rfl, sm_Wret Z hlo hno hoa ho q u⟩
  · have hc0 : code ≠ 0 := fun e => by
      have q1 := q.1
      rw [if_pos e] at q1
      cases q1
    have q1 := q.1
    rw [if_neg hc0] at q1
    cases q1
    rcases (show code = 1 ∨ code = 2 by omega) with rfl | rfl
    · refine ⟨13, rfl, fun a => ?_⟩
      conv => whnf
      refine ⟨cr_le rfl, ?_⟩
      conv => whnf
      exact ⟨cr_le rfl, cr_le rfl, sm_Wthr hno ho hc0 q⟩
    · refine ⟨17, rfl, fun a => ?_⟩
      conv => whnf
      refine ⟨cr_le rfl, ?_⟩
      conv => whnf
      exact ⟨cr_le rfl, cr_le rfl, sm_Wthr hno ho hc0 q⟩
set_option maxRecDepth 20000 in
theorem j_L_right (hl : l.flags = flags0) (Z : cr_Z0 s0 D ca e0) (hN : cr_No s0) {p0 p1 p2 p3 p4 : Int32} (hx : va_at D kc (A 14 0, .inr (0, fs)) H) (hc : cr_c l s0 y_C_right cw_C_right 20 6 230 [.ref (A 14 0), .int p0, .int p1, .int p2, .int p3, .int p4] H (sm_C s0 D ca e0 O H A G' t' code r)) (hcode : code ≤ 2) (ho : va_at D kc (oa, .inl (ca 1, 1, .inr (.inl f0))) H) (hoa : s0.heap.size ≤ oa) (hno : ¬ O oa) : cr_c l s0 y_L_right cw_L_right 21 6 230 [.ref (A 14 0), .int p0, .int p1, .int p2, .int p3, .int p4, .ref oa] H (sm_W s0 D ca e0 O H A oa G' t' code r.toInt64) := by
  refine cr_enterW (by decide +kernel) (Nat.le_of_ble_eq_true rfl) (fun hlo P9 E9 S9 M9 A9 B9 T9 C9 C hcw hn hm hcd hH => ?_)
  obtain ⟨m9, t9, c9, z0, z1, z2, -, -, z3, -⟩ := Cond.codeWith_spec hcw
  cases hn.symm.trans z0
  cases hm.symm.trans z1
  cases hcd.symm.trans z2
  have hcat := cr_rows2 (p := P9) (l := l) (e := E9) (R := cr_rm 21 6 230) (args := A9) (below := B9) (meth := T9) Z hN C.2.2.2.2.2.2.2.1 C.2.2.2.1 (pc := 11) (by decide) z3
  refine cr_vc [] 60 (s_L_right (hdl := (hd2 19 23)) Z C hcat) (fun K hK => ?_)
  conv => whnf
  refine ⟨rfl, ?_⟩
  conv => whnf
  refine ⟨_, hx, 20, 6, 230, _, hc, by decide, cr_le rfl, cr_le rfl, cr_le rfl, fun v H1 q _ => ?_, fun kd H1 q _ => ?_⟩
  · have hc0 : code = 0 := by
      by_cases e : code = 0
      · exact e
      · have q1 := q.1
        rw [if_neg e] at q1
        cases q1
    subst hc0
    have q1 : (Sum.inl v : cr_Oc) = .inl (some (.int r)) := q.1
    cases q1
    have ho1 := q.2.1.at ho hno
    conv => whnf
    refine ⟨1, f0, 0, ho1, hoa, rfl, by decide, by decide, fun H2 u => ?_⟩
    conv => whnf
    exact ⟨cr_le rfl, cr_le rfl, sm_Wret Z hlo hno hoa ho q u⟩
  · have hc0 : code ≠ 0 := fun e => by
      have q1 := q.1
      rw [if_pos e] at q1
      cases q1
    have q1 := q.1
    rw [if_neg hc0] at q1
    cases q1
    rcases (show code = 1 ∨ code = 2 by omega) with rfl | rfl
    · refine ⟨19, rfl, fun a => ?_⟩
      conv => whnf
      refine ⟨cr_le rfl, ?_⟩
      conv => whnf
      exact ⟨cr_le rfl, cr_le rfl, sm_Wthr hno ho hc0 q⟩
    · refine ⟨23, rfl, fun a => ?_⟩
      conv => whnf
      refine ⟨cr_le rfl, ?_⟩
      conv => whnf
      exact ⟨cr_le rfl, cr_le rfl, sm_Wthr hno ho hc0 q⟩
set_option maxRecDepth 20000 in
theorem j_L_end (hl : l.flags = flags0) (Z : cr_Z0 s0 D ca e0) {p0 p1 : Int32} (hx : va_at D kc (A 14 0, .inr (0, fs)) H) (hc : cr_c l s0 y_C_end cw_C_end 20 6 230 [.ref (A 14 0), .int p0, .int p1] H (sm_C s0 D ca e0 O H A G' t' code r)) (hcode : code ≤ 1) (ho : va_at D kc (oa, .inl (ca 1, 1, .inr (.inl f0))) H) (hoa : s0.heap.size ≤ oa) (hno : ¬ O oa) : cr_c l s0 y_L_end cw_L_end 21 6 230 [.ref (A 14 0), .int p0, .int p1, .ref oa] H (sm_W s0 D ca e0 O H A oa G' t' code r.toInt64) := by
  refine cr_enterW (by decide +kernel) (Nat.le_of_ble_eq_true rfl) (fun hlo P9 E9 S9 M9 A9 B9 T9 C9 C hcw hn hm hcd hH => ?_)
  obtain ⟨m9, t9, c9, z0, z1, z2, -, -, z3, -⟩ := Cond.codeWith_spec hcw
  cases hn.symm.trans z0
  cases hm.symm.trans z1
  cases hcd.symm.trans z2
  have hcat := cr_rows1 (p := P9) (l := l) (e := E9) (R := cr_rm 21 6 230) (args := A9) (below := B9) (meth := T9) Z C.2.2.2.2.2.2.2.1 C.2.2.2.1 (pc := 5) (by decide) z3
  refine cr_vc [] 60 (s_L_end (hdl := (hd1 13)) Z C hcat) (fun K hK => ?_)
  conv => whnf
  refine ⟨rfl, ?_⟩
  conv => whnf
  refine ⟨_, hx, 20, 6, 230, _, hc, by decide, cr_le rfl, cr_le rfl, cr_le rfl, fun v H1 q _ => ?_, fun kd H1 q _ => ?_⟩
  · have hc0 : code = 0 := by
      by_cases e : code = 0
      · exact e
      · have q1 := q.1
        rw [if_neg e] at q1
        cases q1
    subst hc0
    have q1 : (Sum.inl v : cr_Oc) = .inl (some (.int r)) := q.1
    cases q1
    have ho1 := q.2.1.at ho hno
    conv => whnf
    refine ⟨1, f0, 0, ho1, hoa, rfl, by decide, by decide, fun H2 u => ?_⟩
    conv => whnf
    exact ⟨cr_le rfl, cr_le rfl, sm_Wret Z hlo hno hoa ho q u⟩
  · have hc0 : code ≠ 0 := fun e => by
      have q1 := q.1
      rw [if_pos e] at q1
      cases q1
    have q1 := q.1
    rw [if_neg hc0] at q1
    cases q1
    have hc1 : code = 1 := by omega
    subst hc1
    refine ⟨13, rfl, fun a => ?_⟩
    conv => whnf
    refine ⟨cr_le rfl, ?_⟩
    conv => whnf
    exact ⟨cr_le rfl, cr_le rfl, sm_Wthr hno ho hc0 q⟩
set_option maxRecDepth 20000 in
theorem j_L_lost (hl : l.flags = flags0) (Z : cr_Z0 s0 D ca e0) {p0 p1 : Int32} (hx : va_at D kc (A 14 0, .inr (0, fs)) H) (hc : cr_c l s0 y_C_lost cw_C_lost 20 6 230 [.ref (A 14 0), .int p0, .int p1] H (sm_C s0 D ca e0 O H A G' t' code r)) (hcode : code ≤ 1) (ho : va_at D kc (oa, .inl (ca 1, 1, .inr (.inl f0))) H) (hoa : s0.heap.size ≤ oa) (hno : ¬ O oa) : cr_c l s0 y_L_lost cw_L_lost 21 6 230 [.ref (A 14 0), .int p0, .int p1, .ref oa] H (sm_W s0 D ca e0 O H A oa G' t' code r.toInt64) := by
  refine cr_enterW (by decide +kernel) (Nat.le_of_ble_eq_true rfl) (fun hlo P9 E9 S9 M9 A9 B9 T9 C9 C hcw hn hm hcd hH => ?_)
  obtain ⟨m9, t9, c9, z0, z1, z2, -, -, z3, -⟩ := Cond.codeWith_spec hcw
  cases hn.symm.trans z0
  cases hm.symm.trans z1
  cases hcd.symm.trans z2
  have hcat := cr_rows1 (p := P9) (l := l) (e := E9) (R := cr_rm 21 6 230) (args := A9) (below := B9) (meth := T9) Z C.2.2.2.2.2.2.2.1 C.2.2.2.1 (pc := 5) (by decide) z3
  refine cr_vc [] 60 (s_L_lost (hdl := (hd1 13)) Z C hcat) (fun K hK => ?_)
  conv => whnf
  refine ⟨rfl, ?_⟩
  conv => whnf
  refine ⟨_, hx, 20, 6, 230, _, hc, by decide, cr_le rfl, cr_le rfl, cr_le rfl, fun v H1 q _ => ?_, fun kd H1 q _ => ?_⟩
  · have hc0 : code = 0 := by
      by_cases e : code = 0
      · exact e
      · have q1 := q.1
        rw [if_neg e] at q1
        cases q1
    subst hc0
    have q1 : (Sum.inl v : cr_Oc) = .inl (some (.int r)) := q.1
    cases q1
    have ho1 := q.2.1.at ho hno
    conv => whnf
    refine ⟨1, f0, 0, ho1, hoa, rfl, by decide, by decide, fun H2 u => ?_⟩
    conv => whnf
    exact ⟨cr_le rfl, cr_le rfl, sm_Wret Z hlo hno hoa ho q u⟩
  · have hc0 : code ≠ 0 := fun e => by
      have q1 := q.1
      rw [if_pos e] at q1
      cases q1
    have q1 := q.1
    rw [if_neg hc0] at q1
    cases q1
    have hc1 : code = 1 := by omega
    subst hc1
    refine ⟨13, rfl, fun a => ?_⟩
    conv => whnf
    refine ⟨cr_le rfl, ?_⟩
    conv => whnf
    exact ⟨cr_le rfl, cr_le rfl, sm_Wthr hno ho hc0 q⟩
set_option maxRecDepth 20000 in
theorem j_L_two (hl : l.flags = flags0) (Z : cr_Z0 s0 D ca e0) {p0 p1 : Int32} (hx : va_at D kc (A 14 0, .inr (0, fs)) H) (hc : cr_c l s0 y_C_two cw_C_two 20 6 230 [.ref (A 14 0), .int p0, .int p1] H (sm_C s0 D ca e0 O H A G' t' code r)) (hcode : code ≤ 1) (ho : va_at D kc (oa, .inl (ca 1, 1, .inr (.inl f0))) H) (hoa : s0.heap.size ≤ oa) (hno : ¬ O oa) : cr_c l s0 y_L_two cw_L_two 21 6 230 [.ref (A 14 0), .int p0, .int p1, .ref oa] H (sm_W s0 D ca e0 O H A oa G' t' code (if r = 0 then 0 else 1)) := by
  refine cr_enterW (by decide +kernel) (Nat.le_of_ble_eq_true rfl) (fun hlo P9 E9 S9 M9 A9 B9 T9 C9 C hcw hn hm hcd hH => ?_)
  obtain ⟨m9, t9, c9, z0, z1, z2, -, -, z3, -⟩ := Cond.codeWith_spec hcw
  cases hn.symm.trans z0
  cases hm.symm.trans z1
  cases hcd.symm.trans z2
  have hcat := cr_rows1 (p := P9) (l := l) (e := E9) (R := cr_rm 21 6 230) (args := A9) (below := B9) (meth := T9) Z C.2.2.2.2.2.2.2.1 C.2.2.2.1 (pc := 5) (by decide) z3
  refine cr_vc [] 60 (s_L_two (hdl := (hd1 20)) Z C hcat) (fun K hK => ?_)
  conv => whnf
  refine ⟨rfl, ?_⟩
  conv => whnf
  refine ⟨_, hx, 20, 6, 230, _, hc, by decide, cr_le rfl, cr_le rfl, cr_le rfl, fun v H1 q _ => ?_, fun kd H1 q _ => ?_⟩
  · have hc0 : code = 0 := by
      by_cases e : code = 0
      · exact e
      · have q1 := q.1
        rw [if_neg e] at q1
        cases q1
    subst hc0
    have q1 : (Sum.inl v : cr_Oc) = .inl (some (.int r)) := q.1
    cases q1
    have ho1 := q.2.1.at ho hno
    conv => whnf
    refine ⟨fun b9 => ?_, fun b9 => ?_⟩
    · conv => whnf
      refine ⟨1, f0, 0, ho1, hoa, rfl, by decide, by decide, fun H2 u => ?_⟩
      conv => whnf
      exact ⟨cr_le rfl, cr_le rfl, sm_Wret Z hlo hno hoa ho q (by rw [show (if r = 0 then (0 : Int64) else 1) = 0 from if_pos b9]; exact u)⟩
    · conv => whnf
      refine ⟨1, f0, 0, ho1, hoa, rfl, by decide, by decide, fun H2 u => ?_⟩
      conv => whnf
      exact ⟨cr_le rfl, cr_le rfl, sm_Wret Z hlo hno hoa ho q (by rw [show (if r = 0 then (0 : Int64) else 1) = 1 from if_neg b9]; exact u)⟩
  · have hc0 : code ≠ 0 := fun e => by
      have q1 := q.1
      rw [if_pos e] at q1
      cases q1
    have q1 := q.1
    rw [if_neg hc0] at q1
    cases q1
    have hc1 : code = 1 := by omega
    subst hc1
    refine ⟨20, rfl, fun a => ?_⟩
    conv => whnf
    refine ⟨cr_le rfl, ?_⟩
    conv => whnf
    exact ⟨cr_le rfl, cr_le rfl, sm_Wthr hno ho hc0 q⟩
set_option maxRecDepth 20000 in
theorem j_L_airlock (hl : l.flags = flags0) (Z : cr_Z0 s0 D ca e0) {p0 p1 p2 : Int32} (hx : va_at D kc (A 14 0, .inr (0, fs)) H) (hc : cr_c l s0 y_C_airlock cw_C_airlock 20 6 230 [.ref (A 14 0), .int p0, .int p1, .int p2] H (sm_C s0 D ca e0 O H A G' t' code r)) (hcode : code ≤ 1) (ho : va_at D kc (oa, .inl (ca 1, 1, .inr (.inl f0))) H) (hoa : s0.heap.size ≤ oa) (hno : ¬ O oa) : cr_c l s0 y_L_airlock cw_L_airlock 21 6 230 [.ref (A 14 0), .int p0, .int p1, .int p2, .ref oa] H (sm_W s0 D ca e0 O H A oa G' t' code (if r = 0 then 0 else 1)) := by
  refine cr_enterW (by decide +kernel) (Nat.le_of_ble_eq_true rfl) (fun hlo P9 E9 S9 M9 A9 B9 T9 C9 C hcw hn hm hcd hH => ?_)
  obtain ⟨m9, t9, c9, z0, z1, z2, -, -, z3, -⟩ := Cond.codeWith_spec hcw
  cases hn.symm.trans z0
  cases hm.symm.trans z1
  cases hcd.symm.trans z2
  have hcat := cr_rows1 (p := P9) (l := l) (e := E9) (R := cr_rm 21 6 230) (args := A9) (below := B9) (meth := T9) Z C.2.2.2.2.2.2.2.1 C.2.2.2.1 (pc := 7) (by decide) z3
  refine cr_vc [] 60 (s_L_airlock (hdl := (hd1 22)) Z C hcat) (fun K hK => ?_)
  conv => whnf
  refine ⟨rfl, ?_⟩
  conv => whnf
  refine ⟨_, hx, 20, 6, 230, _, hc, by decide, cr_le rfl, cr_le rfl, cr_le rfl, fun v H1 q _ => ?_, fun kd H1 q _ => ?_⟩
  · have hc0 : code = 0 := by
      by_cases e : code = 0
      · exact e
      · have q1 := q.1
        rw [if_neg e] at q1
        cases q1
    subst hc0
    have q1 : (Sum.inl v : cr_Oc) = .inl (some (.int r)) := q.1
    cases q1
    have ho1 := q.2.1.at ho hno
    conv => whnf
    refine ⟨fun b9 => ?_, fun b9 => ?_⟩
    · conv => whnf
      refine ⟨1, f0, 0, ho1, hoa, rfl, by decide, by decide, fun H2 u => ?_⟩
      conv => whnf
      exact ⟨cr_le rfl, cr_le rfl, sm_Wret Z hlo hno hoa ho q (by rw [show (if r = 0 then (0 : Int64) else 1) = 0 from if_pos b9]; exact u)⟩
    · conv => whnf
      refine ⟨1, f0, 0, ho1, hoa, rfl, by decide, by decide, fun H2 u => ?_⟩
      conv => whnf
      exact ⟨cr_le rfl, cr_le rfl, sm_Wret Z hlo hno hoa ho q (by rw [show (if r = 0 then (0 : Int64) else 1) = 1 from if_neg b9]; exact u)⟩
  · have hc0 : code ≠ 0 := fun e => by
      have q1 := q.1
      rw [if_pos e] at q1
      cases q1
    have q1 := q.1
    rw [if_neg hc0] at q1
    cases q1
    have hc1 : code = 1 := by omega
    subst hc1
    refine ⟨22, rfl, fun a => ?_⟩
    conv => whnf
    refine ⟨cr_le rfl, ?_⟩
    conv => whnf
    exact ⟨cr_le rfl, cr_le rfl, sm_Wthr hno ho hc0 q⟩
set_option maxRecDepth 20000 in
theorem j_L_state (hl : l.flags = flags0) (Z : cr_Z0 s0 D ca e0) {p0 p1 p2 : Int32} (hx : va_at D kc (A 14 0, .inr (0, fs)) H) (hc : cr_c l s0 y_C_state cw_C_state 20 6 230 [.ref (A 14 0), .int p0, .int p1, .int p2] H (sm_C s0 D ca e0 O H A G' t' code r)) (hcode : code ≤ 1) (ho : va_at D kc (oa, .inl (ca 1, 1, .inr (.inl f0))) H) (hoa : s0.heap.size ≤ oa) (hno : ¬ O oa) : cr_c l s0 y_L_state cw_L_state 21 6 230 [.ref (A 14 0), .int p0, .int p1, .int p2, .ref oa] H (sm_W s0 D ca e0 O H A oa G' t' code r.toInt64) := by
  refine cr_enterW (by decide +kernel) (Nat.le_of_ble_eq_true rfl) (fun hlo P9 E9 S9 M9 A9 B9 T9 C9 C hcw hn hm hcd hH => ?_)
  obtain ⟨m9, t9, c9, z0, z1, z2, -, -, z3, -⟩ := Cond.codeWith_spec hcw
  cases hn.symm.trans z0
  cases hm.symm.trans z1
  cases hcd.symm.trans z2
  have hcat := cr_rows1 (p := P9) (l := l) (e := E9) (R := cr_rm 21 6 230) (args := A9) (below := B9) (meth := T9) Z C.2.2.2.2.2.2.2.1 C.2.2.2.1 (pc := 7) (by decide) z3
  refine cr_vc [] 60 (s_L_state (hdl := (hd1 15)) Z C hcat) (fun K hK => ?_)
  conv => whnf
  refine ⟨rfl, ?_⟩
  conv => whnf
  refine ⟨_, hx, 20, 6, 230, _, hc, by decide, cr_le rfl, cr_le rfl, cr_le rfl, fun v H1 q _ => ?_, fun kd H1 q _ => ?_⟩
  · have hc0 : code = 0 := by
      by_cases e : code = 0
      · exact e
      · have q1 := q.1
        rw [if_neg e] at q1
        cases q1
    subst hc0
    have q1 : (Sum.inl v : cr_Oc) = .inl (some (.int r)) := q.1
    cases q1
    have ho1 := q.2.1.at ho hno
    conv => whnf
    refine ⟨1, f0, 0, ho1, hoa, rfl, by decide, by decide, fun H2 u => ?_⟩
    conv => whnf
    exact ⟨cr_le rfl, cr_le rfl, sm_Wret Z hlo hno hoa ho q u⟩
  · have hc0 : code ≠ 0 := fun e => by
      have q1 := q.1
      rw [if_pos e] at q1
      cases q1
    have q1 := q.1
    rw [if_neg hc0] at q1
    cases q1
    have hc1 : code = 1 := by omega
    subst hc1
    refine ⟨15, rfl, fun a => ?_⟩
    conv => whnf
    refine ⟨cr_le rfl, ?_⟩
    conv => whnf
    exact ⟨cr_le rfl, cr_le rfl, sm_Wthr hno ho hc0 q⟩
set_option maxRecDepth 20000 in
theorem j_L_off (hl : l.flags = flags0) (Z : cr_Z0 s0 D ca e0) {p0 p1 : Int32} (hx : va_at D kc (A 14 0, .inr (0, fs)) H) (hc : cr_c l s0 y_C_off cw_C_off 20 6 230 [.ref (A 14 0), .int p0, .int p1] H (sm_C s0 D ca e0 O H A G' t' code r)) (hcode : code ≤ 1) (ho : va_at D kc (oa, .inl (ca 1, 1, .inr (.inl f0))) H) (hoa : s0.heap.size ≤ oa) (hno : ¬ O oa) : cr_c l s0 y_L_off cw_L_off 21 6 230 [.ref (A 14 0), .int p0, .int p1, .ref oa] H (sm_W s0 D ca e0 O H A oa G' t' code r.toInt64) := by
  refine cr_enterW (by decide +kernel) (Nat.le_of_ble_eq_true rfl) (fun hlo P9 E9 S9 M9 A9 B9 T9 C9 C hcw hn hm hcd hH => ?_)
  obtain ⟨m9, t9, c9, z0, z1, z2, -, -, z3, -⟩ := Cond.codeWith_spec hcw
  cases hn.symm.trans z0
  cases hm.symm.trans z1
  cases hcd.symm.trans z2
  have hcat := cr_rows1 (p := P9) (l := l) (e := E9) (R := cr_rm 21 6 230) (args := A9) (below := B9) (meth := T9) Z C.2.2.2.2.2.2.2.1 C.2.2.2.1 (pc := 5) (by decide) z3
  refine cr_vc [] 60 (s_L_off (hdl := (hd1 13)) Z C hcat) (fun K hK => ?_)
  conv => whnf
  refine ⟨rfl, ?_⟩
  conv => whnf
  refine ⟨_, hx, 20, 6, 230, _, hc, by decide, cr_le rfl, cr_le rfl, cr_le rfl, fun v H1 q _ => ?_, fun kd H1 q _ => ?_⟩
  · have hc0 : code = 0 := by
      by_cases e : code = 0
      · exact e
      · have q1 := q.1
        rw [if_neg e] at q1
        cases q1
    subst hc0
    have q1 : (Sum.inl v : cr_Oc) = .inl (some (.int r)) := q.1
    cases q1
    have ho1 := q.2.1.at ho hno
    conv => whnf
    refine ⟨1, f0, 0, ho1, hoa, rfl, by decide, by decide, fun H2 u => ?_⟩
    conv => whnf
    exact ⟨cr_le rfl, cr_le rfl, sm_Wret Z hlo hno hoa ho q u⟩
  · have hc0 : code ≠ 0 := fun e => by
      have q1 := q.1
      rw [if_pos e] at q1
      cases q1
    have q1 := q.1
    rw [if_neg hc0] at q1
    cases q1
    have hc1 : code = 1 := by omega
    subst hc1
    refine ⟨13, rfl, fun a => ?_⟩
    conv => whnf
    refine ⟨cr_le rfl, ?_⟩
    conv => whnf
    exact ⟨cr_le rfl, cr_le rfl, sm_Wthr hno ho hc0 q⟩
set_option maxRecDepth 20000 in
theorem j_L_asks (hl : l.flags = flags0) (Z : cr_Z0 s0 D ca e0) (hN : cr_No s0) {p0 p1 p2 p3 : Int32} (hx : va_at D kc (A 14 0, .inr (0, fs)) H) (hc : cr_c l s0 y_C_asks cw_C_asks 20 6 230 [.ref (A 14 0), .int p0, .int p1, .int p2, .int p3] H (sm_C s0 D ca e0 O H A G' t' code r)) (hcode : code ≤ 2) (ho : va_at D kc (oa, .inl (ca 1, 1, .inr (.inl f0))) H) (hoa : s0.heap.size ≤ oa) (hno : ¬ O oa) : cr_c l s0 y_L_asks cw_L_asks 21 6 230 [.ref (A 14 0), .int p0, .int p1, .int p2, .int p3, .ref oa] H (sm_W s0 D ca e0 O H A oa G' t' code r.toInt64) := by
  refine cr_enterW (by decide +kernel) (Nat.le_of_ble_eq_true rfl) (fun hlo P9 E9 S9 M9 A9 B9 T9 C9 C hcw hn hm hcd hH => ?_)
  obtain ⟨m9, t9, c9, z0, z1, z2, -, -, z3, -⟩ := Cond.codeWith_spec hcw
  cases hn.symm.trans z0
  cases hm.symm.trans z1
  cases hcd.symm.trans z2
  have hcat := cr_rows2 (p := P9) (l := l) (e := E9) (R := cr_rm 21 6 230) (args := A9) (below := B9) (meth := T9) Z hN C.2.2.2.2.2.2.2.1 C.2.2.2.1 (pc := 9) (by decide) z3
  refine cr_vc [] 60 (s_L_asks (hdl := (hd2 17 21)) Z C hcat) (fun K hK => ?_)
  conv => whnf
  refine ⟨rfl, ?_⟩
  conv => whnf
  refine ⟨_, hx, 20, 6, 230, _, hc, by decide, cr_le rfl, cr_le rfl, cr_le rfl, fun v H1 q _ => ?_, fun kd H1 q _ => ?_⟩
  · have hc0 : code = 0 := by
      by_cases e : code = 0
      · exact e
      · have q1 := q.1
        rw [if_neg e] at q1
        cases q1
    subst hc0
    have q1 : (Sum.inl v : cr_Oc) = .inl (some (.int r)) := q.1
    cases q1
    have ho1 := q.2.1.at ho hno
    conv => whnf
    refine ⟨1, f0, 0, ho1, hoa, rfl, by decide, by decide, fun H2 u => ?_⟩
    conv => whnf
    exact ⟨cr_le rfl, cr_le rfl, sm_Wret Z hlo hno hoa ho q u⟩
  · have hc0 : code ≠ 0 := fun e => by
      have q1 := q.1
      rw [if_pos e] at q1
      cases q1
    have q1 := q.1
    rw [if_neg hc0] at q1
    cases q1
    rcases (show code = 1 ∨ code = 2 by omega) with rfl | rfl
    · refine ⟨17, rfl, fun a => ?_⟩
      conv => whnf
      refine ⟨cr_le rfl, ?_⟩
      conv => whnf
      exact ⟨cr_le rfl, cr_le rfl, sm_Wthr hno ho hc0 q⟩
    · refine ⟨21, rfl, fun a => ?_⟩
      conv => whnf
      refine ⟨cr_le rfl, ?_⟩
      conv => whnf
      exact ⟨cr_le rfl, cr_le rfl, sm_Wthr hno ho hc0 q⟩
set_option maxRecDepth 20000 in
theorem j_L_both (hl : l.flags = flags0) (Z : cr_Z0 s0 D ca e0) (hN : cr_No s0) {p0 p1 p2 p3 p4 : Int32} (hx : va_at D kc (A 14 0, .inr (0, fs)) H) (hc : cr_c l s0 y_C_both cw_C_both 20 6 230 [.ref (A 14 0), .int p0, .int p1, .int p2, .int p3, .int p4] H (sm_C s0 D ca e0 O H A G' t' code r)) (hcode : code ≤ 2) (ho : va_at D kc (oa, .inl (ca 1, 1, .inr (.inl f0))) H) (hoa : s0.heap.size ≤ oa) (hno : ¬ O oa) : cr_c l s0 y_L_both cw_L_both 21 6 230 [.ref (A 14 0), .int p0, .int p1, .int p2, .int p3, .int p4, .ref oa] H (sm_W s0 D ca e0 O H A oa G' t' code r.toInt64) := by
  refine cr_enterW (by decide +kernel) (Nat.le_of_ble_eq_true rfl) (fun hlo P9 E9 S9 M9 A9 B9 T9 C9 C hcw hn hm hcd hH => ?_)
  obtain ⟨m9, t9, c9, z0, z1, z2, -, -, z3, -⟩ := Cond.codeWith_spec hcw
  cases hn.symm.trans z0
  cases hm.symm.trans z1
  cases hcd.symm.trans z2
  have hcat := cr_rows2 (p := P9) (l := l) (e := E9) (R := cr_rm 21 6 230) (args := A9) (below := B9) (meth := T9) Z hN C.2.2.2.2.2.2.2.1 C.2.2.2.1 (pc := 11) (by decide) z3
  refine cr_vc [] 60 (s_L_both (hdl := (hd2 19 23)) Z C hcat) (fun K hK => ?_)
  conv => whnf
  refine ⟨rfl, ?_⟩
  conv => whnf
  refine ⟨_, hx, 20, 6, 230, _, hc, by decide, cr_le rfl, cr_le rfl, cr_le rfl, fun v H1 q _ => ?_, fun kd H1 q _ => ?_⟩
  · have hc0 : code = 0 := by
      by_cases e : code = 0
      · exact e
      · have q1 := q.1
        rw [if_neg e] at q1
        cases q1
    subst hc0
    have q1 : (Sum.inl v : cr_Oc) = .inl (some (.int r)) := q.1
    cases q1
    have ho1 := q.2.1.at ho hno
    conv => whnf
    refine ⟨1, f0, 0, ho1, hoa, rfl, by decide, by decide, fun H2 u => ?_⟩
    conv => whnf
    exact ⟨cr_le rfl, cr_le rfl, sm_Wret Z hlo hno hoa ho q u⟩
  · have hc0 : code ≠ 0 := fun e => by
      have q1 := q.1
      rw [if_pos e] at q1
      cases q1
    have q1 := q.1
    rw [if_neg hc0] at q1
    cases q1
    rcases (show code = 1 ∨ code = 2 by omega) with rfl | rfl
    · refine ⟨19, rfl, fun a => ?_⟩
      conv => whnf
      refine ⟨cr_le rfl, ?_⟩
      conv => whnf
      exact ⟨cr_le rfl, cr_le rfl, sm_Wthr hno ho hc0 q⟩
    · refine ⟨23, rfl, fun a => ?_⟩
      conv => whnf
      refine ⟨cr_le rfl, ?_⟩
      conv => whnf
      exact ⟨cr_le rfl, cr_le rfl, sm_Wthr hno ho hc0 q⟩
set_option maxRecDepth 20000 in
theorem j_L_where (hl : l.flags = flags0) (Z : cr_Z0 s0 D ca e0) {p0 : Int32} (hx : va_at D kc (A 14 0, .inr (0, fs)) H) (hc : cr_c l s0 y_C_where cw_C_where 20 6 230 [.ref (A 14 0), .int p0] H (sm_C s0 D ca e0 O H A G' t' code r)) (hcode : code ≤ 1) (ho : va_at D kc (oa, .inl (ca 1, 1, .inr (.inl f0))) H) (hoa : s0.heap.size ≤ oa) (hno : ¬ O oa) : cr_c l s0 y_L_where cw_L_where 21 6 230 [.ref (A 14 0), .int p0, .ref oa] H (sm_W s0 D ca e0 O H A oa G' t' code r.toInt64) := by
  refine cr_enterW (by decide +kernel) (Nat.le_of_ble_eq_true rfl) (fun hlo P9 E9 S9 M9 A9 B9 T9 C9 C hcw hn hm hcd hH => ?_)
  obtain ⟨m9, t9, c9, z0, z1, z2, -, -, z3, -⟩ := Cond.codeWith_spec hcw
  cases hn.symm.trans z0
  cases hm.symm.trans z1
  cases hcd.symm.trans z2
  have hcat := cr_rows1 (p := P9) (l := l) (e := E9) (R := cr_rm 21 6 230) (args := A9) (below := B9) (meth := T9) Z C.2.2.2.2.2.2.2.1 C.2.2.2.1 (pc := 4) (by decide) z3
  refine cr_vc [] 60 (s_L_where (hdl := (hd1 12)) Z C hcat) (fun K hK => ?_)
  conv => whnf
  refine ⟨rfl, ?_⟩
  conv => whnf
  refine ⟨_, hx, 20, 6, 230, _, hc, by decide, cr_le rfl, cr_le rfl, cr_le rfl, fun v H1 q _ => ?_, fun kd H1 q _ => ?_⟩
  · have hc0 : code = 0 := by
      by_cases e : code = 0
      · exact e
      · have q1 := q.1
        rw [if_neg e] at q1
        cases q1
    subst hc0
    have q1 : (Sum.inl v : cr_Oc) = .inl (some (.int r)) := q.1
    cases q1
    have ho1 := q.2.1.at ho hno
    conv => whnf
    refine ⟨1, f0, 0, ho1, hoa, rfl, by decide, by decide, fun H2 u => ?_⟩
    conv => whnf
    exact ⟨cr_le rfl, cr_le rfl, sm_Wret Z hlo hno hoa ho q u⟩
  · have hc0 : code ≠ 0 := fun e => by
      have q1 := q.1
      rw [if_pos e] at q1
      cases q1
    have q1 := q.1
    rw [if_neg hc0] at q1
    cases q1
    have hc1 : code = 1 := by omega
    subst hc1
    refine ⟨12, rfl, fun a => ?_⟩
    conv => whnf
    refine ⟨cr_le rfl, ?_⟩
    conv => whnf
    exact ⟨cr_le rfl, cr_le rfl, sm_Wthr hno ho hc0 q⟩
set_option maxRecDepth 20000 in
theorem j_L_inside (hl : l.flags = flags0) (Z : cr_Z0 s0 D ca e0) {p0 : Int32} (hx : va_at D kc (A 14 0, .inr (0, fs)) H) (hc : cr_c l s0 y_C_inside cw_C_inside 20 6 230 [.ref (A 14 0), .int p0] H (sm_C s0 D ca e0 O H A G' t' code r)) (hcode : code ≤ 1) (ho : va_at D kc (oa, .inl (ca 1, 1, .inr (.inl f0))) H) (hoa : s0.heap.size ≤ oa) (hno : ¬ O oa) : cr_c l s0 y_L_inside cw_L_inside 21 6 230 [.ref (A 14 0), .int p0, .ref oa] H (sm_W s0 D ca e0 O H A oa G' t' code r.toInt64) := by
  refine cr_enterW (by decide +kernel) (Nat.le_of_ble_eq_true rfl) (fun hlo P9 E9 S9 M9 A9 B9 T9 C9 C hcw hn hm hcd hH => ?_)
  obtain ⟨m9, t9, c9, z0, z1, z2, -, -, z3, -⟩ := Cond.codeWith_spec hcw
  cases hn.symm.trans z0
  cases hm.symm.trans z1
  cases hcd.symm.trans z2
  have hcat := cr_rows1 (p := P9) (l := l) (e := E9) (R := cr_rm 21 6 230) (args := A9) (below := B9) (meth := T9) Z C.2.2.2.2.2.2.2.1 C.2.2.2.1 (pc := 4) (by decide) z3
  refine cr_vc [] 60 (s_L_inside (hdl := (hd1 12)) Z C hcat) (fun K hK => ?_)
  conv => whnf
  refine ⟨rfl, ?_⟩
  conv => whnf
  refine ⟨_, hx, 20, 6, 230, _, hc, by decide, cr_le rfl, cr_le rfl, cr_le rfl, fun v H1 q _ => ?_, fun kd H1 q _ => ?_⟩
  · have hc0 : code = 0 := by
      by_cases e : code = 0
      · exact e
      · have q1 := q.1
        rw [if_neg e] at q1
        cases q1
    subst hc0
    have q1 : (Sum.inl v : cr_Oc) = .inl (some (.int r)) := q.1
    cases q1
    have ho1 := q.2.1.at ho hno
    conv => whnf
    refine ⟨1, f0, 0, ho1, hoa, rfl, by decide, by decide, fun H2 u => ?_⟩
    conv => whnf
    exact ⟨cr_le rfl, cr_le rfl, sm_Wret Z hlo hno hoa ho q u⟩
  · have hc0 : code ≠ 0 := fun e => by
      have q1 := q.1
      rw [if_pos e] at q1
      cases q1
    have q1 := q.1
    rw [if_neg hc0] at q1
    cases q1
    have hc1 : code = 1 := by omega
    subst hc1
    refine ⟨12, rfl, fun a => ?_⟩
    conv => whnf
    refine ⟨cr_le rfl, ?_⟩
    conv => whnf
    exact ⟨cr_le rfl, cr_le rfl, sm_Wthr hno ho hc0 q⟩
set_option maxRecDepth 20000 in
theorem j_L_muster (hl : l.flags = flags0) (Z : cr_Z0 s0 D ca e0) {p0 p1 : Int32} (hx : va_at D kc (A 14 0, .inr (0, fs)) H) (hc : cr_c l s0 y_C_muster cw_C_muster 20 6 230 [.ref (A 14 0), .int p0, .int p1] H (sm_C s0 D ca e0 O H A G' t' code r)) (hcode : code ≤ 1) (ho : va_at D kc (oa, .inl (ca 1, 1, .inr (.inl f0))) H) (hoa : s0.heap.size ≤ oa) (hno : ¬ O oa) : cr_c l s0 y_L_muster cw_L_muster 21 6 230 [.ref (A 14 0), .int p0, .int p1, .ref oa] H (sm_W s0 D ca e0 O H A oa G' t' code r.toInt64) := by
  refine cr_enterW (by decide +kernel) (Nat.le_of_ble_eq_true rfl) (fun hlo P9 E9 S9 M9 A9 B9 T9 C9 C hcw hn hm hcd hH => ?_)
  obtain ⟨m9, t9, c9, z0, z1, z2, -, -, z3, -⟩ := Cond.codeWith_spec hcw
  cases hn.symm.trans z0
  cases hm.symm.trans z1
  cases hcd.symm.trans z2
  have hcat := cr_rows1 (p := P9) (l := l) (e := E9) (R := cr_rm 21 6 230) (args := A9) (below := B9) (meth := T9) Z C.2.2.2.2.2.2.2.1 C.2.2.2.1 (pc := 5) (by decide) z3
  refine cr_vc [] 60 (s_L_muster (hdl := (hd1 13)) Z C hcat) (fun K hK => ?_)
  conv => whnf
  refine ⟨rfl, ?_⟩
  conv => whnf
  refine ⟨_, hx, 20, 6, 230, _, hc, by decide, cr_le rfl, cr_le rfl, cr_le rfl, fun v H1 q _ => ?_, fun kd H1 q _ => ?_⟩
  · have hc0 : code = 0 := by
      by_cases e : code = 0
      · exact e
      · have q1 := q.1
        rw [if_neg e] at q1
        cases q1
    subst hc0
    have q1 : (Sum.inl v : cr_Oc) = .inl (some (.int r)) := q.1
    cases q1
    have ho1 := q.2.1.at ho hno
    conv => whnf
    refine ⟨1, f0, 0, ho1, hoa, rfl, by decide, by decide, fun H2 u => ?_⟩
    conv => whnf
    exact ⟨cr_le rfl, cr_le rfl, sm_Wret Z hlo hno hoa ho q u⟩
  · have hc0 : code ≠ 0 := fun e => by
      have q1 := q.1
      rw [if_pos e] at q1
      cases q1
    have q1 := q.1
    rw [if_neg hc0] at q1
    cases q1
    have hc1 : code = 1 := by omega
    subst hc1
    refine ⟨13, rfl, fun a => ?_⟩
    conv => whnf
    refine ⟨cr_le rfl, ?_⟩
    conv => whnf
    exact ⟨cr_le rfl, cr_le rfl, sm_Wthr hno ho hc0 q⟩
set_option maxRecDepth 20000 in
theorem j_L_found (hl : l.flags = flags0) (Z : cr_Z0 s0 D ca e0) {p0 p1 : Int32} (hx : va_at D kc (A 14 0, .inr (0, fs)) H) (hc : cr_c l s0 y_C_found cw_C_found 20 6 230 [.ref (A 14 0), .int p0, .int p1] H (sm_C s0 D ca e0 O H A G' t' code r)) (hcode : code ≤ 1) (ho : va_at D kc (oa, .inl (ca 1, 1, .inr (.inl f0))) H) (hoa : s0.heap.size ≤ oa) (hno : ¬ O oa) : cr_c l s0 y_L_found cw_L_found 21 6 230 [.ref (A 14 0), .int p0, .int p1, .ref oa] H (sm_W s0 D ca e0 O H A oa G' t' code r.toInt64) := by
  refine cr_enterW (by decide +kernel) (Nat.le_of_ble_eq_true rfl) (fun hlo P9 E9 S9 M9 A9 B9 T9 C9 C hcw hn hm hcd hH => ?_)
  obtain ⟨m9, t9, c9, z0, z1, z2, -, -, z3, -⟩ := Cond.codeWith_spec hcw
  cases hn.symm.trans z0
  cases hm.symm.trans z1
  cases hcd.symm.trans z2
  have hcat := cr_rows1 (p := P9) (l := l) (e := E9) (R := cr_rm 21 6 230) (args := A9) (below := B9) (meth := T9) Z C.2.2.2.2.2.2.2.1 C.2.2.2.1 (pc := 5) (by decide) z3
  refine cr_vc [] 60 (s_L_found (hdl := (hd1 13)) Z C hcat) (fun K hK => ?_)
  conv => whnf
  refine ⟨rfl, ?_⟩
  conv => whnf
  refine ⟨_, hx, 20, 6, 230, _, hc, by decide, cr_le rfl, cr_le rfl, cr_le rfl, fun v H1 q _ => ?_, fun kd H1 q _ => ?_⟩
  · have hc0 : code = 0 := by
      by_cases e : code = 0
      · exact e
      · have q1 := q.1
        rw [if_neg e] at q1
        cases q1
    subst hc0
    have q1 : (Sum.inl v : cr_Oc) = .inl (some (.int r)) := q.1
    cases q1
    have ho1 := q.2.1.at ho hno
    conv => whnf
    refine ⟨1, f0, 0, ho1, hoa, rfl, by decide, by decide, fun H2 u => ?_⟩
    conv => whnf
    exact ⟨cr_le rfl, cr_le rfl, sm_Wret Z hlo hno hoa ho q u⟩
  · have hc0 : code ≠ 0 := fun e => by
      have q1 := q.1
      rw [if_pos e] at q1
      cases q1
    have q1 := q.1
    rw [if_neg hc0] at q1
    cases q1
    have hc1 : code = 1 := by omega
    subst hc1
    refine ⟨13, rfl, fun a => ?_⟩
    conv => whnf
    refine ⟨cr_le rfl, ?_⟩
    conv => whnf
    exact ⟨cr_le rfl, cr_le rfl, sm_Wthr hno ho hc0 q⟩
end LWR
