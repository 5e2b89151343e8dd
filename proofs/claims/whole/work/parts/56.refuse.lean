/-! THE CLASS: why a card is refused (printed by gen/comp7.py) -/
section CRB
variable {l : Launch} {s0 : State} {D : va_G} {ca : Nat → ClassId} {e0 : Nat} {O : Nat → Prop} {H : Heap} {A : Nat → Nat → Nat} {G : mm_G} {w : cc_W}
/-- a card and its minute, by the knowledge i -/
def rb_c (G : mm_G) (w : cc_W) (i c : Nat) (m : Int32) : Int32 := cd_wy (nI (w.1 0 i)) (nI (G 21 c)) m (w.2.1 i c) c
def rb_h (G : mm_G) (w : cc_W) (i : Nat) (g9 z9 m : Int32) : Bool := mm_ex (hr_P (fun r => nI (G 23 r)) (fun r => nI (G 24 r)) (fun r => nI (G 25 r)) (fun r => nI (G 26 r)) (fun r => nI (G 27 r)) (w.2.2.1 i) g9 z9 (m - m / 1440 * 1440) m) 0 (min (G 22 0) (w.1 1 i))
def rb_a (G : mm_G) (w : cc_W) (d : Nat) : Bool := mm_ex (ao_P (fun k => nI (G 8 k)) (w.2.2.2.2.2.2.2 d)) 0 (G 4 0)
/-- as the class does it: room by its address -/
def rb_w (A : Nat → Nat → Nat) (G : mm_G) (w : cc_W) (c d room : Nat) (m : Int32) : Int32 :=
  if rb_c G w (cond (!decide (G 10 d = 9000)) (d + 1) 0) c m = 0 then
    (if (!decide (G 10 d = 9000)) = false ∧ ¬ A 0 (G 18 (G 20 c)) = (if A 0 room = A 0 (G 5 d) then A 0 (G 6 d) else A 0 (G 5 d)) then 4
     else if rb_h G w (cond (!decide (G 10 d = 9000)) (d + 1) 0) (nI (G 17 (G 20 c))) (nI (G 3 room)) m = true then cond (rb_a G w d) 6 0 else 5)
  else rb_c G w (cond (!decide (G 10 d = 9000)) (d + 1) 0) c m
set_option maxRecDepth 20000 in
theorem j_C_refusalByItself_off (hl : l.flags = flags0) (Z : cr_Z0 s0 D ca e0) (h : cc_H s0 D ca e0 O H A G w) {c d room : Nat} {m : Int32} (hc : c < G 19 0) (hd : d < G 4 0) (hr : room < G 2 0) (hp : G 20 c < G 16 0) (h19 : G 19 0 ≤ 60) (h4 : G 4 0 ≤ 30) (h22 : G 22 0 ≤ 16) (hw : w.1 1 (d + 1) ≤ 16) (hoff : (!decide (G 10 d = 9000)) = true) : cr_c l s0 y_C_refusalByItself cw_C_refusalByItself 4 0 0 [.ref (A 14 0), .ref (A 3 c), .ref (A 1 d), .ref (A 0 room), .int m] H (cr_pu (some (.int (rb_w A G w c d room m))) H) := by
  refine cr_enter (by decide +kernel) (Nat.le_of_ble_eq_true rfl) (fun hlo P9 E9 S9 M9 A9 B9 T9 C9 C hem hH => ?_)
  refine cr_vc [] 120 (s_C_refusalByItself hl Z C hem) (fun K hK => ?_)
  conv => whnf
  refine ⟨_, (h.c 1 d hd), ?_⟩
  conv => whnf
  refine ⟨fun b4 => absurd b4 (by rw [hoff]; decide), fun b4 => ?_⟩
  conv => whnf
  refine ⟨_, (h.c 1 d hd), ?_⟩
  conv => whnf
  refine ⟨cr_le rfl, ?_⟩
  conv => whnf
  refine ⟨rfl, ?_⟩
  conv => whnf
  refine ⟨_, _, _, _, j_C_refusalOfCard hl Z (h.c 9 (d + 1) (show d + 1 ≤ G 4 0 by omega)) (h.c 3 c hc) (show c < 60 by omega) (h.c 10 (d + 1) (show d + 1 ≤ G 4 0 by omega)), by decide, cr_le rfl, cr_le rfl, cr_le rfl, fun v25 H25 q25 _ => ?_, fun kd H9 q9 _ => by cases q9.1⟩
  obtain ⟨q25a, q25b⟩ := q25
  cases q25a
  replace q25b := q25b.symm
  subst q25b
  conv => whnf
  refine ⟨cr_le rfl, ?_⟩
  conv => whnf
  refine ⟨fun b32 => ?_, fun b32 => ?_⟩
  · conv => whnf
    refine ⟨_, (h.c 1 d hd), ?_⟩
    conv => whnf
    refine ⟨fun b42 => ?_, fun b42 => absurd b42 (by rw [hoff]; decide)⟩
    conv => whnf
    refine ⟨_, (h.c 3 c hc), ?_⟩
    conv => whnf
    refine ⟨_, (h.c 2 (G 20 c) hp), ?_⟩
    conv => whnf
    refine ⟨_, (h.c 0 room hr), ?_⟩
    conv => whnf
    refine ⟨rfl, ?_⟩
    conv => whnf
    refine ⟨_, (h.c 14 0 rfl), _, _, _, _, j_C_hasRight (g := fun r => nI (G 23 r)) (z := fun r => nI (G 24 r)) (fr := fun r => nI (G 25 r)) (to := fun r => nI (G 26 r)) (si := fun r => nI (G 27 r)) hl Z (h.c 14 0 rfl) (h.li 4 (by decide)) h22 (fun i hi => h.c 4 i hi) (h.c 9 (d + 1) (show d + 1 ≤ G 4 0 by omega)) (h.c 11 (d + 1) (show d + 1 ≤ G 4 0 by omega)) (show w.1 1 (d + 1) < 2 ^ 31 by omega), by decide, cr_le rfl, cr_le rfl, cr_le rfl, fun v78 H78 q78 _ => ?_, fun kd H9 q9 _ => by cases q9.1⟩
    obtain ⟨q78a, q78b⟩ := q78
    cases q78a
    replace q78b := q78b.symm
    subst q78b
    conv => whnf
    refine ⟨fun b81 => ?_, fun b81 => ?_⟩
    · conv => whnf
      refine ⟨rfl, ?_⟩
      conv => whnf
      refine ⟨_, (h.c 14 0 rfl), _, _, _, _, j_C_isAirlockOpen (op := fun k => nI (G 8 k)) hl Z (h.c 14 0 rfl) (h.li 1 (by decide)) h4 (fun i hi => h.c 1 i hi) (h.c 1 d hd), by decide, cr_le rfl, cr_le rfl, cr_le rfl, fun v88 H88 q88 _ => ?_, fun kd H9 q9 _ => by cases q9.1⟩
      obtain ⟨q88a, q88b⟩ := q88
      cases q88a
      replace q88b := q88b.symm
      subst q88b
      conv => whnf
      refine ⟨fun b91 => ?_, fun b91 => ?_⟩
      · conv => whnf
        exact ⟨cr_le rfl, cr_le rfl, (by unfold rb_w; rw [hoff]; rw [if_pos (show rb_c G w (cond true (d + 1) 0) c m = 0 from b32), if_neg (fun q => absurd q.1 (by decide)), if_pos (show rb_h G w (cond true (d + 1) 0) (nI (G 17 (G 20 c))) (nI (G 3 room)) m = true from cr_bt b81), show rb_a G w d = false from cr_bf b91]; try rfl), rfl⟩
      · conv => whnf
        exact ⟨cr_le rfl, cr_le rfl, (by unfold rb_w; rw [hoff]; rw [if_pos (show rb_c G w (cond true (d + 1) 0) c m = 0 from b32), if_neg (fun q => absurd q.1 (by decide)), if_pos (show rb_h G w (cond true (d + 1) 0) (nI (G 17 (G 20 c))) (nI (G 3 room)) m = true from cr_bt b81), show rb_a G w d = true from cr_bt b91]; try rfl), rfl⟩
    · conv => whnf
      exact ⟨cr_le rfl, cr_le rfl, (by unfold rb_w; rw [hoff]; rw [if_pos (show rb_c G w (cond true (d + 1) 0) c m = 0 from b32), if_neg (fun q => absurd q.1 (by decide)), if_neg (show ¬ rb_h G w (cond true (d + 1) 0) (nI (G 17 (G 20 c))) (nI (G 3 room)) m = true from fun q => by rw [show rb_h G w (cond true (d + 1) 0) (nI (G 17 (G 20 c))) (nI (G 3 room)) m = false from cr_bf b81] at q; cases q)]), rfl⟩
  · conv => whnf
    exact ⟨cr_le rfl, cr_le rfl, (by unfold rb_w; rw [hoff]; rw [if_neg (show ¬ rb_c G w (cond true (d + 1) 0) c m = 0 from b32)]; rfl), rfl⟩
set_option maxRecDepth 20000 in
theorem j_C_refusalByItself_on (hl : l.flags = flags0) (Z : cr_Z0 s0 D ca e0) (h : cc_H s0 D ca e0 O H A G w) {c d room : Nat} {m : Int32} (hc : c < G 19 0) (hd : d < G 4 0) (hr : room < G 2 0) (hp : G 20 c < G 16 0) (h19 : G 19 0 ≤ 60) (h4 : G 4 0 ≤ 30) (h22 : G 22 0 ≤ 16) (hw : w.1 1 (0) ≤ 16) (hoff : (!decide (G 10 d = 9000)) = false) : cr_c l s0 y_C_refusalByItself cw_C_refusalByItself 4 0 0 [.ref (A 14 0), .ref (A 3 c), .ref (A 1 d), .ref (A 0 room), .int m] H (cr_pu (some (.int (rb_w A G w c d room m))) H) := by
  refine cr_enter (by decide +kernel) (Nat.le_of_ble_eq_true rfl) (fun hlo P9 E9 S9 M9 A9 B9 T9 C9 C hem hH => ?_)
  refine cr_vc [] 120 (s_C_refusalByItself hl Z C hem) (fun K hK => ?_)
  conv => whnf
  refine ⟨_, (h.c 1 d hd), ?_⟩
  conv => whnf
  refine ⟨fun b4 => ?_, fun b4 => absurd (by rw [hoff]; rfl) b4⟩
  conv => whnf
  refine ⟨_, (h.c 14 0 rfl), ?_⟩
  conv => whnf
  refine ⟨cr_le rfl, ?_⟩
  conv => whnf
  refine ⟨rfl, ?_⟩
  conv => whnf
  refine ⟨_, _, _, _, j_C_refusalOfCard hl Z (h.c 9 0 (Nat.zero_le _)) (h.c 3 c hc) (show c < 60 by omega) (h.c 10 0 (Nat.zero_le _)), by decide, cr_le rfl, cr_le rfl, cr_le rfl, fun v25 H25 q25 _ => ?_, fun kd H9 q9 _ => by cases q9.1⟩
  obtain ⟨q25a, q25b⟩ := q25
  cases q25a
  replace q25b := q25b.symm
  subst q25b
  conv => whnf
  refine ⟨cr_le rfl, ?_⟩
  conv => whnf
  refine ⟨fun b32 => ?_, fun b32 => ?_⟩
  · conv => whnf
    refine ⟨_, (h.c 1 d hd), ?_⟩
    conv => whnf
    refine ⟨fun b42 => absurd (by rw [hoff]; rfl) b42, fun b42 => ?_⟩
    conv => whnf
    refine ⟨_, (h.c 3 c hc), ?_⟩
    conv => whnf
    refine ⟨_, (h.c 2 (G 20 c) hp), ?_⟩
    conv => whnf
    refine ⟨rfl, ?_⟩
    conv => whnf
    refine ⟨_, (h.c 1 d hd), _, _, _, _, j_Dr_otherRoom hl Z (h.c 1 d hd), by decide, cr_le rfl, cr_le rfl, cr_le rfl, fun v54 H54 q54 _ => ?_, fun kd H9 q9 _ => by cases q9.1⟩
    obtain ⟨q54a, q54b⟩ := q54
    cases q54a
    replace q54b := q54b.symm
    subst q54b
    conv => whnf
    refine ⟨fun b57 => ?_, fun b57 => ?_⟩
    · conv => whnf
      refine ⟨_, (h.c 3 c hc), ?_⟩
      conv => whnf
      refine ⟨_, (h.c 2 (G 20 c) hp), ?_⟩
      conv => whnf
      refine ⟨_, (h.c 0 room hr), ?_⟩
      conv => whnf
      refine ⟨rfl, ?_⟩
      conv => whnf
      refine ⟨_, (h.c 14 0 rfl), _, _, _, _, j_C_hasRight (g := fun r => nI (G 23 r)) (z := fun r => nI (G 24 r)) (fr := fun r => nI (G 25 r)) (to := fun r => nI (G 26 r)) (si := fun r => nI (G 27 r)) hl Z (h.c 14 0 rfl) (h.li 4 (by decide)) h22 (fun i hi => h.c 4 i hi) (h.c 9 0 (Nat.zero_le _)) (h.c 11 0 (Nat.zero_le _)) (show w.1 1 (0) < 2 ^ 31 by omega), by decide, cr_le rfl, cr_le rfl, cr_le rfl, fun v78 H78 q78 _ => ?_, fun kd H9 q9 _ => by cases q9.1⟩
      obtain ⟨q78a, q78b⟩ := q78
      cases q78a
      replace q78b := q78b.symm
      subst q78b
      conv => whnf
      refine ⟨fun b81 => ?_, fun b81 => ?_⟩
      · conv => whnf
        refine ⟨rfl, ?_⟩
        conv => whnf
        refine ⟨_, (h.c 14 0 rfl), _, _, _, _, j_C_isAirlockOpen (op := fun k => nI (G 8 k)) hl Z (h.c 14 0 rfl) (h.li 1 (by decide)) h4 (fun i hi => h.c 1 i hi) (h.c 1 d hd), by decide, cr_le rfl, cr_le rfl, cr_le rfl, fun v88 H88 q88 _ => ?_, fun kd H9 q9 _ => by cases q9.1⟩
        obtain ⟨q88a, q88b⟩ := q88
        cases q88a
        replace q88b := q88b.symm
        subst q88b
        conv => whnf
        refine ⟨fun b91 => ?_, fun b91 => ?_⟩
        · conv => whnf
          exact ⟨cr_le rfl, cr_le rfl, (by unfold rb_w; rw [hoff]; rw [if_pos (show rb_c G w (cond false (d + 1) 0) c m = 0 from b32), if_neg (fun q => q.2 b57), if_pos (show rb_h G w (cond false (d + 1) 0) (nI (G 17 (G 20 c))) (nI (G 3 room)) m = true from cr_bt b81), show rb_a G w d = false from cr_bf b91]; try rfl), rfl⟩
        · conv => whnf
          exact ⟨cr_le rfl, cr_le rfl, (by unfold rb_w; rw [hoff]; rw [if_pos (show rb_c G w (cond false (d + 1) 0) c m = 0 from b32), if_neg (fun q => q.2 b57), if_pos (show rb_h G w (cond false (d + 1) 0) (nI (G 17 (G 20 c))) (nI (G 3 room)) m = true from cr_bt b81), show rb_a G w d = true from cr_bt b91]; try rfl), rfl⟩
      · conv => whnf
        exact ⟨cr_le rfl, cr_le rfl, (by unfold rb_w; rw [hoff]; rw [if_pos (show rb_c G w (cond false (d + 1) 0) c m = 0 from b32), if_neg (fun q => q.2 b57), if_neg (show ¬ rb_h G w (cond false (d + 1) 0) (nI (G 17 (G 20 c))) (nI (G 3 room)) m = true from fun q => by rw [show rb_h G w (cond false (d + 1) 0) (nI (G 17 (G 20 c))) (nI (G 3 room)) m = false from cr_bf b81] at q; cases q)]), rfl⟩
    · conv => whnf
      exact ⟨cr_le rfl, cr_le rfl, (by unfold rb_w; rw [hoff]; rw [if_pos (show rb_c G w (cond false (d + 1) 0) c m = 0 from b32), if_pos ⟨rfl, b57⟩]), rfl⟩
  · conv => whnf
    exact ⟨cr_le rfl, cr_le rfl, (by unfold rb_w; rw [hoff]; rw [if_neg (show ¬ rb_c G w (cond false (d + 1) 0) c m = 0 from b32)]; rfl), rfl⟩
end CRB
