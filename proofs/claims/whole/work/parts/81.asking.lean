/-! THE CLASS: what asks and both stand on (printed by gen/comp20.py) -/
section CAS
variable {l : Launch} {s0 : State} {D : va_G} {ca : Nat → ClassId} {e0 : Nat} {O : Nat → Prop} {H : Heap} {A : Nat → Nat → Nat} {G G' : mm_G} {w w' : cc_W}
theorem mm_to_of (e : ∀ a b, 28 ≤ a → a ≤ 31 → G' a b = G a b) (kd x b : Nat) : mm_to G' kd x b = mm_to G kd x b := by
  unfold mm_to
  rw [e 28 0 (by decide) (by decide)]
  exact mm_lk_eq _ _ _ (fun i _ => ⟨e 29 i (by decide) (by decide), e 30 i (by decide) (by decide), e 31 i (by decide) (by decide)⟩)
theorem cc_k_of {i b : Nat} (hk : cc_k G w i b) (e : ∀ a b, 28 ≤ a → a ≤ 31 → G' a b = G a b) (e19 : G' 19 0 = G 19 0) (e22 : G' 22 0 = G 22 0) (w0 : w'.1 0 i = w.1 0 i) (w1 : w'.1 1 i = w.1 1 i) (w2 : w'.2.1 i = w.2.1 i) (w3 : w'.2.2.1 i = w.2.2.1 i) : cc_k G' w' i b := by
  unfold cc_k
  rw [e19, e22, w0, w1, w2, w3]
  simp only [mm_to_of e]
  exact hk
theorem cc_U_of (hU : cc_U G w) (e32 : G' 32 0 = G 32 0) (e33 : ∀ q, G' 33 q = G 33 q) (hw : w'.2.2.2.2.1 = w.2.2.2.2.1) : cc_U G' w' := by
  intro u hu
  have e2 : mm_eu G' u = mm_eu G u := by
    funext k
    unfold mm_eu
    rw [e33 k]
  rw [hw, e32, e2]
  exact hU u hu
/-- the meaning reads these fields alone -/
theorem cc_M_of (hM : cc_M G w) (e : ∀ a b, (a = 4 ∨ a = 10 ∨ a = 11 ∨ a = 19 ∨ a = 22 ∨ (28 ≤ a ∧ a ≤ 38)) → G' a b = G a b) : cc_M G' w := by
  obtain ⟨m1, m2, m3, m4, m5, m6, m7⟩ := hM
  have e19 := e 19 0 (by decide)
  have e22 := e 22 0 (by decide)
  have e4 := e 4 0 (by decide)
  have et : ∀ a b, 28 ≤ a → a ≤ 31 → G' a b = G a b := fun a b h1 h2 => e a b (by omega)
  refine ⟨by rw [e19]; exact m1, by rw [e22]; exact m2, cc_k_of m3 et e19 e22 rfl rfl rfl rfl, fun d hd hne => ?_, fun d k hd hk => ?_, fun k q hk hk2 hq => ?_, cc_U_of m7 (e 32 0 (by decide)) (fun q => e 33 q (by decide)) rfl⟩
  · rw [e4] at hd
    rw [e 10 d (by decide)] at hne ⊢
    exact cc_k_of (m4 d hd hne) et e19 e22 rfl rfl rfl rfl
  · rw [e4] at hd hk
    rw [e 11 _ (by decide)]
    exact m5 d k hd hk
  · rw [e 34 0 (by decide)] at hk2
    rw [e (35 + q) k (by omega)]
    exact m6 k q hk hk2 hq
/-- why a card is refused, as the reference says it -/
theorem cc_rbi (hl : l.flags = flags0) (Z : cr_Z0 s0 D ca e0) (h : cc_H s0 D ca e0 O H A G w) (hM : cc_M G w) {t : Nat} (hB : cc_B G t) {c d room m : Nat} (hc : c < G 19 0) (hd : d < G 4 0) (hr : room < G 2 0) : cr_c l s0 y_C_refusalByItself cw_C_refusalByItself 4 0 0 [.ref (A 14 0), .ref (A 3 c), .ref (A 1 d), .ref (A 0 room), .int (nI m)] H (cr_pu (some (.int (mm_rf G c d room m))) H) := by
  have hin := h.2.2.2.2.1
  obtain ⟨-, b2, b4, b16, b19, b22, b28, -, -, bt, -, b5, b11, -, -, b18, b20, -, b31, -, -⟩ := hB
  obtain ⟨m1, m2, m3, m4, m5, m6, m7⟩ := hM
  have hp := (b20 c hc).1
  have d5 := b5 d hd
  have h31 : ∀ q, q < G 28 0 → G 31 q < 2 ^ 31 := fun q hq => by
    have := (b31 q hq).2.2
    omega
  have hA : ∀ a b, a < G 2 0 → b < G 2 0 → A 0 a = A 0 b → a = b := fun a b ha hb e => (hin 0 a 0 b (Or.inl ha) (Or.inl hb) e).2
  have h10 : G 10 d < 2 ^ 31 := by omega
  by_cases hon : G 10 d = 9000
  · have hk : cc_k G w 0 (G 10 d) := by rw [hon]; exact m3
    rw [← rb_w_eq (A := A) (w := w) (i := 0) (by rw [hon]; rfl) hk hc hd hr d5.1 d5.2.1 (b18 _ hp).2 b2 b19 b22 h10 h31 m5 b11 hA]
    exact j_C_refusalByItself_on hl Z h hc hd hr hp b19 b4 b22 hk.2.2.2.1 (by rw [hon]; rfl)
  · have hk := m4 d hd hon
    rw [← rb_w_eq (A := A) (w := w) (i := d + 1) (by simp [hon]) hk hc hd hr d5.1 d5.2.1 (b18 _ hp).2 b2 b19 b22 h10 h31 m5 b11 hA]
    exact j_C_refusalByItself_off hl Z h hc hd hr hp b19 b4 b22 hk.2.2.2.1 (by simp [hon])
theorem cc_roomOf (hl : l.flags = flags0) (Z : cr_Z0 s0 D ca e0) (h : cc_H s0 D ca e0 O H A G w) (hr : cc_r G) {d room : Nat} (hd : d < G 4 0) (h2 : G 2 0 ≤ 20) (hio : room = G 5 d ∨ room = G 6 d) : cr_c l s0 y_C_roomOfDoor cw_C_roomOfDoor 0 0 0 [.ref (A 1 d), .int (nI room)] H (cr_pu (some (.ref (A 0 room))) H) := by
  have r5 := hr.1 d hd
  by_cases e : room = G 5 d
  · rw [e]
    exact j_C_roomOfDoor_A hl Z (h.c 1 d hd) (h.c 0 (G 5 d) r5.1) (h.c 0 (G 6 d) r5.2) rfl
  · have e2 : room = G 6 d := by omega
    rw [e2]
    exact j_C_roomOfDoor_B hl Z (h.c 1 d hd) (h.c 0 (G 5 d) r5.1) (h.c 0 (G 6 d) r5.2) (fun q => e (e2.trans ((nI_eq (by omega) (by omega)).mp q))) rfl
theorem cc_roomOf_a (hl : l.flags = flags0) (Z : cr_Z0 s0 D ca e0) (h : cc_H s0 D ca e0 O H A G w) (hr : cc_r G) {d : Nat} {room : Int32} (hd : d < G 4 0) (h2 : G 2 0 ≤ 20) (h5 : ¬ room = nI (G 5 d)) (h6 : ¬ room = nI (G 6 d)) : cr_c l s0 y_C_roomOfDoor cw_C_roomOfDoor 6 1 6 [.ref (A 1 d), .int room] H (ck_T 1 H) := by
  have r5 := hr.1 d hd
  exact j_C_roomOfDoor_a hl Z h.old (h.c 1 d hd) (h.c 0 (G 5 d) r5.1) (h.c 0 (G 6 d) r5.2) h5 h6
theorem cc_letIn (hl : l.flags = flags0) (Z : cr_Z0 s0 D ca e0) (h : cc_H s0 D ca e0 O H A G w) (hr : cc_r G) (hU : cc_U G w) {c d room m : Nat} (hc : c < G 19 0) (hd : d < G 4 0) (hrm : room < G 2 0) (h17 : G 17 (G 20 c) < 10) (h3 : G 3 room < 10) (hm : m ≤ 1000000) (h10 : G 10 d < 2 ^ 31) (hd5 : G 12 d < 50) (h50 : ∀ i, i < G 4 0 → G 12 i ≤ 50) : cr_c l s0 y_C_letIn cw_C_letIn 8 2 112 [.ref (A 14 0), .ref (A 3 c), .ref (A 1 d), .ref (A 0 room), .int (nI m)] H (fun o H' => o = .inl none ∧ ∃ A', cc_H s0 D ca e0 (fun x => O x ∨ H.size ≤ x) H' A' (mm_lt G c d room m) (w_u w (!mm_ex (mm_eu G (mm_u G c room m)) 0 (G 32 0)) (mm_u G c room m)) ∧ (∀ k i, cc_l G k i → A' k i = A k i) ∧ cr_Fr O H H') := by
  by_cases hon : G 10 d = 9000
  · exact j_C_letIn_on hl Z h hr hU hc hd hrm h17 h3 hm hon
  · exact j_C_letIn_off hl Z h hr hU hc hd hrm h17 h3 hm hon h10 hd5 h50
set_option maxRecDepth 20000 in
theorem j_C_space_on (hl : l.flags = flags0) (Z : cr_Z0 s0 D ca e0) (h : cc_H s0 D ca e0 O H A G w) {d k : Nat} (hd : d < G 4 0) (hon : G 10 d = 9000) : cr_c l s0 y_C_checkSpaceForRows cw_C_checkSpaceForRows 1 0 0 [.ref (A 1 d), .int (nI k)] H (cr_pu none H) := by
  refine cr_enter (by decide +kernel) (Nat.le_of_ble_eq_true rfl) (fun hlo P9 E9 S9 M9 A9 B9 T9 C9 C hem hH => ?_)
  refine cr_vc [] 120 (s_C_checkSpaceForRows hl Z C hem) (fun K hK => ?_)
  conv => whnf
  refine ⟨_, (h.c 1 d hd), ?_⟩
  conv => whnf
  refine ⟨fun b4 => ?_, fun b4 => absurd (show cr_b (!decide (G 10 d = 9000)) = 0 by rw [hon]; rfl) b4⟩
  conv => whnf
  exact ⟨cr_le rfl, cr_le rfl, rfl, rfl⟩
set_option maxRecDepth 20000 in
theorem j_C_space_off (hl : l.flags = flags0) (Z : cr_Z0 s0 D ca e0) (h : cc_H s0 D ca e0 O H A G w) {d k : Nat} (hd : d < G 4 0) (hoff : G 10 d ≠ 9000) (hs : G 12 d + k ≤ 50) : cr_c l s0 y_C_checkSpaceForRows cw_C_checkSpaceForRows 1 0 0 [.ref (A 1 d), .int (nI k)] H (cr_pu none H) := by
  refine cr_enter (by decide +kernel) (Nat.le_of_ble_eq_true rfl) (fun hlo P9 E9 S9 M9 A9 B9 T9 C9 C hem hH => ?_)
  obtain ⟨md, hal, -⟩ := (h.2.2.2.1 d hd).2
  refine cr_vc [] 120 (s_C_checkSpaceForRows hl Z C hem) (fun K hK => ?_)
  conv => whnf
  refine ⟨_, (h.c 1 d hd), ?_⟩
  conv => whnf
  refine ⟨fun b4 => absurd b4 (by rw [show (!decide (G 10 d = 9000)) = true by simp [hoff]]; decide), fun b4 => ?_⟩
  conv => whnf
  refine ⟨_, (h.c 1 d hd), ?_⟩
  conv => whnf
  refine ⟨rfl, ?_⟩
  conv => whnf
  refine ⟨_, hal, _, _, _, _, j_AL_sizeL hl Z (h.2.2.2.1 d hd), by decide, cr_le rfl, cr_le rfl, cr_le rfl, fun v11 H11 q11 _ => ?_, fun kd H9 q9 _ => by cases q9.1⟩
  obtain ⟨q11a, q11b⟩ := q11
  cases q11a
  replace q11b := q11b.symm
  subst q11b
  conv => whnf
  refine ⟨fun b20 => ?_, fun b20 => absurd (show nI (G 12 d) + nI k ≤ nI 50 by rw [nI_add]; exact nI_le (by omega) (by decide)) b20⟩
  conv => whnf
  exact ⟨cr_le rfl, cr_le rfl, rfl, rfl⟩
set_option maxRecDepth 20000 in
theorem j_C_space_s (hl : l.flags = flags0) (Z : cr_Z0 s0 D ca e0) (h : cc_H s0 D ca e0 O H A G w) {d k : Nat} (hd : d < G 4 0) (hoff : G 10 d ≠ 9000) (hs : 50 < G 12 d + k) (hs2 : G 12 d + k < 2 ^ 31) : cr_c l s0 y_C_checkSpaceForRows cw_C_checkSpaceForRows 6 1 6 [.ref (A 1 d), .int (nI k)] H (ck_T 2 H) := by
  refine cr_enter (by decide +kernel) (Nat.le_of_ble_eq_true rfl) (fun hlo P9 E9 S9 M9 A9 B9 T9 C9 C hem hH => ?_)
  obtain ⟨md, hal, -⟩ := (h.2.2.2.1 d hd).2
  have hold := h.old
  refine cr_vc [] 120 (s_C_checkSpaceForRows hl Z C hem) (fun K hK => ?_)
  conv => whnf
  refine ⟨_, (h.c 1 d hd), ?_⟩
  conv => whnf
  refine ⟨fun b4 => absurd b4 (by rw [show (!decide (G 10 d = 9000)) = true by simp [hoff]]; decide), fun b4 => ?_⟩
  conv => whnf
  refine ⟨_, (h.c 1 d hd), ?_⟩
  conv => whnf
  refine ⟨rfl, ?_⟩
  conv => whnf
  refine ⟨_, hal, _, _, _, _, j_AL_sizeL hl Z (h.2.2.2.1 d hd), by decide, cr_le rfl, cr_le rfl, cr_le rfl, fun v11 H11 q11 _ => ?_, fun kd H9 q9 _ => by cases q9.1⟩
  obtain ⟨q11a, q11b⟩ := q11
  cases q11a
  replace q11b := q11b.symm
  subst q11b
  conv => whnf
  refine ⟨fun b20 => absurd b20 (show ¬ nI (G 12 d) + nI k ≤ nI 50 by rw [nI_add]; exact cr_nle hs hs2), fun b20 => ?_⟩
  conv => whnf
  refine ⟨hold, rfl, cr_le rfl, cr_le rfl, by decide, cr_le rfl, fun H9 hs9 hq9 => ?_⟩
  exact ⟨rfl, hs9, fun q a _ => hq9 q a⟩
theorem cc_space (hl : l.flags = flags0) (Z : cr_Z0 s0 D ca e0) (h : cc_H s0 D ca e0 O H A G w) {d k : Nat} (hd : d < G 4 0) (hs : G 12 d + k ≤ 50) : cr_c l s0 y_C_checkSpaceForRows cw_C_checkSpaceForRows 1 0 0 [.ref (A 1 d), .int (nI k)] H (cr_pu none H) := by
  by_cases hon : G 10 d = 9000
  · exact j_C_space_on hl Z h hd hon
  · exact j_C_space_off hl Z h hd hon hs
end CAS
