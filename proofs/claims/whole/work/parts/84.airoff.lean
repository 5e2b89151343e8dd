/-! THE CLASS: airlock, off (printed by gen/comp22.py) -/
section COF
variable {l : Launch} {s0 : State} {D : va_G} {ca : Nat → ClassId} {e0 : Nat} {O : Nat → Prop} {H H' : Heap} {A : Nat → Nat → Nat} {G G' : mm_G} {w : cc_W}
def w_o (w : cc_W) (a : Nat) (x : Int32) : cc_W := (w.1, w.2.1, w.2.2.1, w.2.2.2.1, w.2.2.2.2.1, w.2.2.2.2.2.1, w.2.2.2.2.2.2.1, fun i => if i = a then x else w.2.2.2.2.2.2.2 i)
def al_s (x : Int32) (k o : Nat) : Int32 := if o = 0 then x &&& ((1 <<< (nI k &&& 31)) ^^^ -1) else x ||| (1 <<< (nI k &&& 31))
def w_al (w : cc_W) (a b o : Nat) : cc_W := w_o (w_o w a (al_s (w.2.2.2.2.2.2.2 a) b o)) b (al_s (w.2.2.2.2.2.2.2 b) a o)
theorem cr_nb (b : Bool) : narrow .boolean (.int (cr_b b)) = .int (cr_b b) := by cases b <;> rfl
theorem mm_up_self (G : mm_G) (k i : Nat) : mm_up G k i (G k i) = G := by
  funext a b
  by_cases e : a = k
  · subst e
    by_cases e2 : b = i
    · rw [e2, mm_up_s]
    · rw [mm_up_i _ _ _ _ e2]
  · rw [mm_up_k _ _ _ _ e]
theorem mm_up_comm (G : mm_G) {k k' : Nat} (i v i' v' : Nat) (h : k ≠ k') : mm_up (mm_up G k i v) k' i' v' = mm_up (mm_up G k' i' v') k i v := by
  funext a b
  by_cases e : a = k
  · subst e
    rw [mm_up_k _ _ _ _ h]
    by_cases e2 : b = i
    · rw [e2, mm_up_s, mm_up_s]
    · rw [mm_up_i _ _ _ _ e2, mm_up_i _ _ _ _ e2, mm_up_k _ _ _ _ h]
  · rw [mm_up_k (mm_up G k' i' v') _ _ _ e]
    by_cases e3 : a = k'
    · subst e3
      by_cases e2 : b = i'
      · rw [e2, mm_up_s, mm_up_s]
      · rw [mm_up_i _ _ _ _ e2, mm_up_i _ _ _ _ e2, mm_up_k _ _ _ _ e]
    · rw [mm_up_k _ _ _ _ e3, mm_up_k _ _ _ _ e, mm_up_k _ _ _ _ e3]
/-- a door's bits -/
theorem cc_bits (Z : cr_Z0 s0 D ca e0) (hr : cc_r G) (h : cc_H s0 D ca e0 O H A G w) {d : Nat} {x : Int32} (hd : d < G 4 0) (hG : ∀ a b, a ≠ 11 → G' a b = G a b) (hu : cr_Up D kc H (A 1 d) (cc_c ca A G (w_o w d x) 1 d) H') : cc_H s0 D ca e0 O H' A G' (w_o w d x) := by
  refine h.set Z hr (k := 1) (i := d) hd rfl ?_ (fun k hk => hG _ _ (by omega)) (fun d => hG _ _ (by decide)) (fun k i q qo e => ?_)
  · refine ⟨hu.1, ?_, hu.2.2⟩
    rw [cc_c1, hG 5 _ (by decide), hG 6 _ (by decide), hG 7 _ (by decide), hG 8 _ (by decide), hG 9 _ (by decide), hG 10 _ (by decide)]
    exact hu.2.1
  · unfold cc_same w_o
    split <;> try simp [hG]
    exact fun e9 => absurd ⟨rfl, e9⟩ e

set_option maxRecDepth 20000 in
theorem j_C_airlock_on (hl : l.flags = flags0) (Z : cr_Z0 s0 D ca e0) (h : cc_H s0 D ca e0 O H A G w) (hr : cc_r G) {a b : Nat} (ha : a < G 4 0) (hb : b < G 4 0) (hab : a ≠ b) (h4 : G 4 0 ≤ 30) : cr_c l s0 y_C_airlock cw_C_airlock 4 0 0 [.ref (A 14 0), .int (nI a), .int (nI b), .int 1] H (fun r H' => r = .inl (some (.int (cr_b (!decide (w.2.2.2.2.2.2.2 a &&& (1 <<< (nI b &&& 31)) = 0))))) ∧ cc_H s0 D ca e0 O H' A (mm_up (mm_up G 11 (30 * a + b) 1) 11 (30 * b + a) 1) (w_al w a b 1) ∧ cr_Fr O H H') := by
  refine cr_enter (by decide +kernel) (Nat.le_of_ble_eq_true rfl) (fun hlo P9 E9 S9 M9 A9 B9 T9 C9 C hem hH => ?_)
  refine cr_vc [] 120 (s_C_airlock hl Z C hem) (fun K hK => ?_)
  conv => whnf
  refine ⟨rfl, ?_⟩
  conv => whnf
  refine ⟨_, (h.c 14 0 rfl), _, _, _, _, j_C_doorNumbered hl Z (h.c 14 0 rfl) (h.li 1 (by decide)) (show G 4 0 < 2 ^ 31 by omega) ha (h.c 1 a ha), by decide, cr_le rfl, cr_le rfl, cr_le rfl, fun v2 H2 q2 _ => ?_, fun kd H9 q9 _ => by cases q9.1⟩
  obtain ⟨q2a, q2b⟩ := q2
  cases q2a
  replace q2b := q2b.symm
  subst q2b
  conv => whnf
  refine ⟨cr_le rfl, ?_⟩
  conv => whnf
  refine ⟨rfl, ?_⟩
  conv => whnf
  refine ⟨_, (h.c 14 0 rfl), _, _, _, _, j_C_doorNumbered hl Z (h.c 14 0 rfl) (h.li 1 (by decide)) (show G 4 0 < 2 ^ 31 by omega) hb (h.c 1 b hb), by decide, cr_le rfl, cr_le rfl, cr_le rfl, fun v9 H9 q9 _ => ?_, fun kd H9 q9 _ => by cases q9.1⟩
  obtain ⟨q9a, q9b⟩ := q9
  cases q9a
  replace q9b := q9b.symm
  subst q9b
  conv => whnf
  refine ⟨cr_le rfl, ?_⟩
  conv => whnf
  refine ⟨fun b16 => ?_, fun b16 => absurd ((nI_eq (by omega) (by omega)).mp b16) hab⟩
  conv => whnf
  refine ⟨rfl, ?_⟩
  conv => whnf
  refine ⟨_, (h.c 1 a ha), _, _, _, _, j_Dr_isAirlockWith hl Z (h.c 1 a ha) (h.c 1 b hb), by decide, cr_le rfl, cr_le rfl, cr_le rfl, fun v33 H33 q33 _ => ?_, fun kd H9 q9 _ => by cases q9.1⟩
  obtain ⟨q33a, q33b⟩ := q33
  cases q33a
  replace q33b := q33b.symm
  subst q33b
  conv => whnf
  refine ⟨cr_le rfl, ?_⟩
  conv => whnf
  refine ⟨rfl, ?_⟩
  conv => whnf
  refine ⟨_, (h.c 1 a ha), _, _, _, _, j_Dr_setAirlockWith_on hl Z (h.lo 1 a ha).1 (h.c 1 a ha) (h.c 1 b hb), by decide, cr_le rfl, cr_le rfl, cr_le rfl, fun v43 H43 q43 _ => ?_, fun kd H9 q9 _ => by cases q9.1⟩
  obtain ⟨qa, u43⟩ := q43
  cases qa
  have h1 : cc_H s0 D ca e0 O H43 A G (w_o w a (al_s (w.2.2.2.2.2.2.2 a) b 1)) := cc_bits Z hr h ha (fun _ _ _ => rfl) (by
    rw [cc_c1, show (w_o w a (al_s (w.2.2.2.2.2.2.2 a) b 1)).2.2.2.2.2.2.2 a = al_s (w.2.2.2.2.2.2.2 a) b 1 from if_pos rfl]
    exact u43)
  have eb : (w_o w a (al_s (w.2.2.2.2.2.2.2 a) b 1)).2.2.2.2.2.2.2 b = w.2.2.2.2.2.2.2 b := if_neg (Ne.symm hab)
  have cb := h1.c 1 b hb
  rw [cc_c1, eb] at cb
  conv => whnf
  refine ⟨rfl, ?_⟩
  conv => whnf
  refine ⟨_, (h1.c 1 b hb), _, _, _, _, j_Dr_setAirlockWith_on hl Z (h.lo 1 b hb).1 cb (h1.c 1 a ha), by decide, cr_le rfl, cr_le rfl, cr_le rfl, fun v51 H51 q51 _ => ?_, fun kd H9 q9 _ => by cases q9.1⟩
  obtain ⟨qa, u51⟩ := q51
  cases qa
  have h2 : cc_H s0 D ca e0 O H51 A (mm_up (mm_up G 11 (30 * a + b) 1) 11 (30 * b + a) 1) (w_al w a b 1) := cc_bits Z hr h1 hb (fun x y hx => by rw [mm_up_k _ _ _ _ hx, mm_up_k _ _ _ _ hx]) (by
    rw [cc_c1, show (w_o (w_o w a (al_s (w.2.2.2.2.2.2.2 a) b 1)) b (al_s (w.2.2.2.2.2.2.2 b) a 1)).2.2.2.2.2.2.2 b = al_s (w.2.2.2.2.2.2.2 b) a 1 from if_pos rfl]
    exact u51)
  conv => whnf
  exact ⟨cr_nb _, cr_le rfl, cr_le rfl, rfl, h2, (cc_Fr h (k := 1) (i := a) ha u43).trans (cc_Fr h1 (k := 1) (i := b) hb u51) (fun _ _ q => q) (fun _ _ q => q)⟩
set_option maxRecDepth 20000 in
theorem j_C_airlock_of (hl : l.flags = flags0) (Z : cr_Z0 s0 D ca e0) (h : cc_H s0 D ca e0 O H A G w) (hr : cc_r G) {a b : Nat} (ha : a < G 4 0) (hb : b < G 4 0) (hab : a ≠ b) (h4 : G 4 0 ≤ 30) : cr_c l s0 y_C_airlock cw_C_airlock 4 0 0 [.ref (A 14 0), .int (nI a), .int (nI b), .int 0] H (fun r H' => r = .inl (some (.int (cr_b (!decide (w.2.2.2.2.2.2.2 a &&& (1 <<< (nI b &&& 31)) = 0))))) ∧ cc_H s0 D ca e0 O H' A (mm_up (mm_up G 11 (30 * a + b) 0) 11 (30 * b + a) 0) (w_al w a b 0) ∧ cr_Fr O H H') := by
  refine cr_enter (by decide +kernel) (Nat.le_of_ble_eq_true rfl) (fun hlo P9 E9 S9 M9 A9 B9 T9 C9 C hem hH => ?_)
  refine cr_vc [] 120 (s_C_airlock hl Z C hem) (fun K hK => ?_)
  conv => whnf
  refine ⟨rfl, ?_⟩
  conv => whnf
  refine ⟨_, (h.c 14 0 rfl), _, _, _, _, j_C_doorNumbered hl Z (h.c 14 0 rfl) (h.li 1 (by decide)) (show G 4 0 < 2 ^ 31 by omega) ha (h.c 1 a ha), by decide, cr_le rfl, cr_le rfl, cr_le rfl, fun v2 H2 q2 _ => ?_, fun kd H9 q9 _ => by cases q9.1⟩
  obtain ⟨q2a, q2b⟩ := q2
  cases q2a
  replace q2b := q2b.symm
  subst q2b
  conv => whnf
  refine ⟨cr_le rfl, ?_⟩
  conv => whnf
  refine ⟨rfl, ?_⟩
  conv => whnf
  refine ⟨_, (h.c 14 0 rfl), _, _, _, _, j_C_doorNumbered hl Z (h.c 14 0 rfl) (h.li 1 (by decide)) (show G 4 0 < 2 ^ 31 by omega) hb (h.c 1 b hb), by decide, cr_le rfl, cr_le rfl, cr_le rfl, fun v9 H9 q9 _ => ?_, fun kd H9 q9 _ => by cases q9.1⟩
  obtain ⟨q9a, q9b⟩ := q9
  cases q9a
  replace q9b := q9b.symm
  subst q9b
  conv => whnf
  refine ⟨cr_le rfl, ?_⟩
  conv => whnf
  refine ⟨fun b16 => ?_, fun b16 => absurd ((nI_eq (by omega) (by omega)).mp b16) hab⟩
  conv => whnf
  refine ⟨rfl, ?_⟩
  conv => whnf
  refine ⟨_, (h.c 1 a ha), _, _, _, _, j_Dr_isAirlockWith hl Z (h.c 1 a ha) (h.c 1 b hb), by decide, cr_le rfl, cr_le rfl, cr_le rfl, fun v33 H33 q33 _ => ?_, fun kd H9 q9 _ => by cases q9.1⟩
  obtain ⟨q33a, q33b⟩ := q33
  cases q33a
  replace q33b := q33b.symm
  subst q33b
  conv => whnf
  refine ⟨cr_le rfl, ?_⟩
  conv => whnf
  refine ⟨rfl, ?_⟩
  conv => whnf
  refine ⟨_, (h.c 1 a ha), _, _, _, _, j_Dr_setAirlockWith_of hl Z (h.lo 1 a ha).1 (h.c 1 a ha) (h.c 1 b hb), by decide, cr_le rfl, cr_le rfl, cr_le rfl, fun v43 H43 q43 _ => ?_, fun kd H9 q9 _ => by cases q9.1⟩
  obtain ⟨qa, u43⟩ := q43
  cases qa
  have h1 : cc_H s0 D ca e0 O H43 A G (w_o w a (al_s (w.2.2.2.2.2.2.2 a) b 0)) := cc_bits Z hr h ha (fun _ _ _ => rfl) (by
    rw [cc_c1, show (w_o w a (al_s (w.2.2.2.2.2.2.2 a) b 0)).2.2.2.2.2.2.2 a = al_s (w.2.2.2.2.2.2.2 a) b 0 from if_pos rfl]
    exact u43)
  have eb : (w_o w a (al_s (w.2.2.2.2.2.2.2 a) b 0)).2.2.2.2.2.2.2 b = w.2.2.2.2.2.2.2 b := if_neg (Ne.symm hab)
  have cb := h1.c 1 b hb
  rw [cc_c1, eb] at cb
  conv => whnf
  refine ⟨rfl, ?_⟩
  conv => whnf
  refine ⟨_, (h1.c 1 b hb), _, _, _, _, j_Dr_setAirlockWith_of hl Z (h.lo 1 b hb).1 cb (h1.c 1 a ha), by decide, cr_le rfl, cr_le rfl, cr_le rfl, fun v51 H51 q51 _ => ?_, fun kd H9 q9 _ => by cases q9.1⟩
  obtain ⟨qa, u51⟩ := q51
  cases qa
  have h2 : cc_H s0 D ca e0 O H51 A (mm_up (mm_up G 11 (30 * a + b) 0) 11 (30 * b + a) 0) (w_al w a b 0) := cc_bits Z hr h1 hb (fun x y hx => by rw [mm_up_k _ _ _ _ hx, mm_up_k _ _ _ _ hx]) (by
    rw [cc_c1, show (w_o (w_o w a (al_s (w.2.2.2.2.2.2.2 a) b 0)) b (al_s (w.2.2.2.2.2.2.2 b) a 0)).2.2.2.2.2.2.2 b = al_s (w.2.2.2.2.2.2.2 b) a 0 from if_pos rfl]
    exact u51)
  conv => whnf
  exact ⟨cr_nb _, cr_le rfl, cr_le rfl, rfl, h2, (cc_Fr h (k := 1) (i := a) ha u43).trans (cc_Fr h1 (k := 1) (i := b) hb u51) (fun _ _ q => q) (fun _ _ q => q)⟩
set_option maxRecDepth 20000 in
theorem j_C_off_same1 (hl : l.flags = flags0) (Z : cr_Z0 s0 D ca e0) (h : cc_H s0 D ca e0 O H A G w) {d : Nat} (hd : d < G 4 0) (h4 : G 4 0 ≤ 30) (hoff : G 10 d ≠ 9000) : cr_c l s0 y_C_off cw_C_off 4 0 0 [.ref (A 14 0), .int (nI d), .int 1] H (cr_pu (some (.int 0)) H) := by
  refine cr_enter (by decide +kernel) (Nat.le_of_ble_eq_true rfl) (fun hlo P9 E9 S9 M9 A9 B9 T9 C9 C hem hH => ?_)
  refine cr_vc [] 120 (s_C_off hl Z C hem) (fun K hK => ?_)
  conv => whnf
  refine ⟨rfl, ?_⟩
  conv => whnf
  refine ⟨_, (h.c 14 0 rfl), _, _, _, _, j_C_doorNumbered hl Z (h.c 14 0 rfl) (h.li 1 (by decide)) (show G 4 0 < 2 ^ 31 by omega) hd (h.c 1 d hd), by decide, cr_le rfl, cr_le rfl, cr_le rfl, fun v2 H2 q2 _ => ?_, fun kd H9 q9 _ => by cases q9.1⟩
  obtain ⟨q2a, q2b⟩ := q2
  cases q2a
  replace q2b := q2b.symm
  subst q2b
  conv => whnf
  refine ⟨cr_le rfl, ?_⟩
  conv => whnf
  refine ⟨_, (h.c 1 d hd), ?_⟩
  conv => whnf
  refine ⟨fun b11 => absurd (show cr_b (!decide (G 10 d = 9000)) = 1 by rw [show (!decide (G 10 d = 9000)) = true by simp [hoff]]; rfl) b11, fun b11 => ?_⟩
  conv => whnf
  exact ⟨cr_le rfl, cr_le rfl, rfl, rfl⟩
set_option maxRecDepth 20000 in
theorem j_C_off_same0 (hl : l.flags = flags0) (Z : cr_Z0 s0 D ca e0) (h : cc_H s0 D ca e0 O H A G w) {d : Nat} (hd : d < G 4 0) (h4 : G 4 0 ≤ 30) (hon : G 10 d = 9000) : cr_c l s0 y_C_off cw_C_off 4 0 0 [.ref (A 14 0), .int (nI d), .int 0] H (cr_pu (some (.int 0)) H) := by
  refine cr_enter (by decide +kernel) (Nat.le_of_ble_eq_true rfl) (fun hlo P9 E9 S9 M9 A9 B9 T9 C9 C hem hH => ?_)
  refine cr_vc [] 120 (s_C_off hl Z C hem) (fun K hK => ?_)
  conv => whnf
  refine ⟨rfl, ?_⟩
  conv => whnf
  refine ⟨_, (h.c 14 0 rfl), _, _, _, _, j_C_doorNumbered hl Z (h.c 14 0 rfl) (h.li 1 (by decide)) (show G 4 0 < 2 ^ 31 by omega) hd (h.c 1 d hd), by decide, cr_le rfl, cr_le rfl, cr_le rfl, fun v2 H2 q2 _ => ?_, fun kd H9 q9 _ => by cases q9.1⟩
  obtain ⟨q2a, q2b⟩ := q2
  cases q2a
  replace q2b := q2b.symm
  subst q2b
  conv => whnf
  refine ⟨cr_le rfl, ?_⟩
  conv => whnf
  refine ⟨_, (h.c 1 d hd), ?_⟩
  conv => whnf
  refine ⟨fun b11 => absurd (show cr_b (!decide (G 10 d = 9000)) = 0 by rw [show (!decide (G 10 d = 9000)) = false by simp [hon]]; rfl) b11, fun b11 => ?_⟩
  conv => whnf
  exact ⟨cr_le rfl, cr_le rfl, rfl, rfl⟩
def w_c (w : cc_W) (d : Nat) : cc_W := ((fun k i => if i = d + 1 then w.1 k 0 else w.1 k i), (fun i => if i = d + 1 then va_cpy (w.2.1 0) (w.2.1 (d + 1)) 0 0 60 else w.2.1 i), (fun i => if i = d + 1 then va_cpy (w.2.2.1 0) (w.2.2.1 (d + 1)) 0 0 16 else w.2.2.1 i), w.2.2.2)
set_option maxRecDepth 20000 in
theorem j_C_off_on (hl : l.flags = flags0) (Z : cr_Z0 s0 D ca e0) (h : cc_H s0 D ca e0 O H A G w) (hr : cc_r G) {d : Nat} (hd : d < G 4 0) (h4 : G 4 0 ≤ 30) (hon : G 10 d = 9000) (h28 : G 28 0 < 9000) : cr_c l s0 y_C_off cw_C_off 4 0 0 [.ref (A 14 0), .int (nI d), .int 1] H (fun r H' => r = .inl (some (.int 0)) ∧ cc_H s0 D ca e0 O H' A (mm_up G 10 d (G 28 0)) (w_c w d) ∧ cr_Fr O H H') := by
  refine cr_enter (by decide +kernel) (Nat.le_of_ble_eq_true rfl) (fun hlo P9 E9 S9 M9 A9 B9 T9 C9 C hem hH => ?_)
  refine cr_vc [] 120 (s_C_off hl Z C hem) (fun K hK => ?_)
  conv => whnf
  refine ⟨rfl, ?_⟩
  conv => whnf
  refine ⟨_, (h.c 14 0 rfl), _, _, _, _, j_C_doorNumbered hl Z (h.c 14 0 rfl) (h.li 1 (by decide)) (show G 4 0 < 2 ^ 31 by omega) hd (h.c 1 d hd), by decide, cr_le rfl, cr_le rfl, cr_le rfl, fun v2 H2 q2 _ => ?_, fun kd H9 q9 _ => by cases q9.1⟩
  obtain ⟨q2a, q2b⟩ := q2
  cases q2a
  replace q2b := q2b.symm
  subst q2b
  conv => whnf
  refine ⟨cr_le rfl, ?_⟩
  conv => whnf
  refine ⟨_, (h.c 1 d hd), ?_⟩
  conv => whnf
  refine ⟨fun b11 => ?_, fun b11 => absurd b11 (by rw [show (!decide (G 10 d = 9000)) = false by simp [hon]]; decide)⟩
  conv => whnf
  refine ⟨_, (h.c 1 d hd), (h.lo 1 d hd).1, ⟨rfl, rfl⟩, ?_⟩
  conv => whnf
  intro H18 u18
  have n9 : ¬ G 28 0 = 9000 := by omega
  have h1 : cc_H s0 D ca e0 O H18 A (mm_up G 10 d (G 28 0)) w := by
    refine h.set Z hr (k := 1) (i := d) hd rfl ?_ (fun k hk => mm_up_k _ _ _ _ (by omega)) (fun d => mm_up_k _ _ _ _ (by decide)) (fun k i q qo e => ?_)
    · refine ⟨u18.1, ?_, u18.2.2⟩
      rw [cc_c1, mm_up_s, show (!decide (G 28 0 = 9000)) = true by simp [n9]]
      exact u18.2.1
    · have e1 : ∀ a b, a ≠ 10 → mm_up G 10 d (G 28 0) a b = G a b := fun a b h1 => mm_up_k _ _ _ _ h1
      unfold cc_same
      split <;> try simp [e1]
      rw [mm_up_i _ _ _ _ (fun e9 => e ⟨rfl, e9⟩)]
  have hr1 : cc_r (mm_up G 10 d (G 28 0)) := hr
  conv => whnf
  refine ⟨fun b22 => absurd b22 (by decide), fun b22 => ?_⟩
  conv => whnf
  refine ⟨_, (h1.c 1 d hd), ?_⟩
  conv => whnf
  refine ⟨_, (h1.c 14 0 rfl), ?_⟩
  conv => whnf
  refine ⟨rfl, ?_⟩
  conv => whnf
  refine ⟨_, (h1.c 9 (d + 1) (show d + 1 ≤ G 4 0 from hd)), _, _, _, _, j_Kn_copyFrom hl Z (h1.lo 9 (d + 1) (show d + 1 ≤ G 4 0 from hd)).1 (h1.lo 10 (d + 1) (show d + 1 ≤ G 4 0 from hd)).1 (h1.lo 11 (d + 1) (show d + 1 ≤ G 4 0 from hd)).1 (h1.c 9 (d + 1) (show d + 1 ≤ G 4 0 from hd)) (h1.c 9 0 (show 0 ≤ G 4 0 from Nat.zero_le _)) (h1.c 10 (d + 1) (show d + 1 ≤ G 4 0 from hd)) (h1.c 11 (d + 1) (show d + 1 ≤ G 4 0 from hd)) (h1.c 10 0 (show 0 ≤ G 4 0 from Nat.zero_le _)) (h1.c 11 0 (show 0 ≤ G 4 0 from Nat.zero_le _)) (fun e => absurd (h1.2.2.2.2.1 9 (0) 9 (d + 1) (Or.inl (show 0 ≤ G 4 0 from Nat.zero_le _)) (Or.inl (show d + 1 ≤ G 4 0 from hd)) e) (by simp)) (fun e => absurd (h1.2.2.2.2.1 10 (d + 1) 9 (d + 1) (Or.inl (show d + 1 ≤ G 4 0 from hd)) (Or.inl (show d + 1 ≤ G 4 0 from hd)) e) (by simp)) (fun e => absurd (h1.2.2.2.2.1 11 (d + 1) 9 (d + 1) (Or.inl (show d + 1 ≤ G 4 0 from hd)) (Or.inl (show d + 1 ≤ G 4 0 from hd)) e) (by simp)) (fun e => absurd (h1.2.2.2.2.1 10 (0) 9 (d + 1) (Or.inl (show 0 ≤ G 4 0 from Nat.zero_le _)) (Or.inl (show d + 1 ≤ G 4 0 from hd)) e) (by simp)) (fun e => absurd (h1.2.2.2.2.1 11 (0) 9 (d + 1) (Or.inl (show 0 ≤ G 4 0 from Nat.zero_le _)) (Or.inl (show d + 1 ≤ G 4 0 from hd)) e) (by simp)) (fun e => absurd (h1.2.2.2.2.1 11 (d + 1) 10 (d + 1) (Or.inl (show d + 1 ≤ G 4 0 from hd)) (Or.inl (show d + 1 ≤ G 4 0 from hd)) e) (by simp)) (fun e => absurd (h1.2.2.2.2.1 11 (0) 10 (d + 1) (Or.inl (show 0 ≤ G 4 0 from Nat.zero_le _)) (Or.inl (show d + 1 ≤ G 4 0 from hd)) e) (by simp)) (fun e => absurd (h1.2.2.2.2.1 9 (0) 10 (d + 1) (Or.inl (show 0 ≤ G 4 0 from Nat.zero_le _)) (Or.inl (show d + 1 ≤ G 4 0 from hd)) e) (by simp)), by decide, cr_le rfl, cr_le rfl, cr_le rfl, fun v33 H33 q33 _ => ?_, fun kd H9 q9 _ => by cases q9.1⟩
  obtain ⟨qa, c9, c10, c11, sz, frc⟩ := q33
  cases qa
  have h2 : cc_H s0 D ca e0 O H33 A (mm_up G 10 d (G 28 0)) (w_c w d) := by
    refine h1.sets Z hr1 (P := fun k i => (k = 9 ∨ k = 10 ∨ k = 11) ∧ i = d + 1) ?_ (fun q hq => frc q (hq 9 (d + 1) ⟨Or.inl rfl, rfl⟩) (hq 10 (d + 1) ⟨Or.inr (Or.inl rfl), rfl⟩) (hq 11 (d + 1) ⟨Or.inr (Or.inr rfl), rfl⟩)) ?_ (fun _ _ => rfl) (fun _ => rfl) (fun k i ql qo hn => ?_)
    · rintro k i ⟨rfl | rfl | rfl, rfl⟩
      · exact ⟨hd, rfl⟩
      · exact ⟨hd, rfl⟩
      · exact ⟨hd, rfl⟩
    · rintro k i ⟨rfl | rfl | rfl, rfl⟩
      · show va_at D kc (A 9 (d + 1), .inr (4, [.int (nI ((w_c w d).1 0 (d + 1))), .int (nI ((w_c w d).1 1 (d + 1))), .ref (A 10 (d + 1)), .ref (A 11 (d + 1))])) H33
        rw [show (w_c w d).1 0 (d + 1) = w.1 0 0 from if_pos rfl, show (w_c w d).1 1 (d + 1) = w.1 1 0 from if_pos rfl]
        exact c9
      · show va_at D kc (A 10 (d + 1), .inl (ca 0, 60, .inl ((w_c w d).2.1 (d + 1)))) H33
        rw [show (w_c w d).2.1 (d + 1) = va_cpy (w.2.1 0) (w.2.1 (d + 1)) 0 0 60 from if_pos rfl]
        exact c10
      · show va_at D kc (A 11 (d + 1), .inl (ca 0, 16, .inl ((w_c w d).2.2.1 (d + 1)))) H33
        rw [show (w_c w d).2.2.1 (d + 1) = va_cpy (w.2.2.1 0) (w.2.2.1 (d + 1)) 0 0 16 from if_pos rfl]
        exact c11
    · unfold cc_same w_c
      split <;> try simp
      · exact ⟨fun e9 => absurd ⟨Or.inl rfl, e9⟩ hn, fun e9 => absurd ⟨Or.inl rfl, e9⟩ hn⟩
      · exact fun e9 => absurd ⟨Or.inr (Or.inl rfl), e9⟩ hn
      · exact fun e9 => absurd ⟨Or.inr (Or.inr rfl), e9⟩ hn
  conv => whnf
  refine ⟨cr_le rfl, cr_le rfl, rfl, h2, (cc_Fr h (k := 1) (i := d) hd u18).trans (S1 := O) ⟨Nat.le_of_eq sz.symm, fun q _ hq => frc q (fun e => hq (by rw [e]; exact (h1.lo 9 (d + 1) (show d + 1 ≤ G 4 0 from hd)).2)) (fun e => hq (by rw [e]; exact (h1.lo 10 (d + 1) (show d + 1 ≤ G 4 0 from hd)).2)) (fun e => hq (by rw [e]; exact (h1.lo 11 (d + 1) (show d + 1 ≤ G 4 0 from hd)).2))⟩ (fun _ _ q => q) (fun _ _ q => q)⟩
end COF
