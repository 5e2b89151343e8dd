/-! THE REFERENCE's methods: why, refused, let (printed by gen/ops3.py) -/
/-- fewer places known -/
def cr_fg : cr_Lv → cr_Lv → Prop
  | [], [] => True
  | none :: t, _ :: t' => cr_fg t t'
  | some v :: t, some w :: t' => v = w ∧ cr_fg t t'
  | _, _ => False
theorem cr_fg_as : ∀ (a b : cr_Lv) (i : Nat), cr_fg a b → a.length = b.length ∧ ∀ q ∈ cr_as i a, q ∈ cr_as i b
  | [], [], _, _ => ⟨rfl, fun _ h => h⟩
  | [], _ :: _, _, h => h.elim
  | none :: t, [], _, h => h.elim
  | some _ :: t, [], _, h => h.elim
  | some _ :: t, none :: _, _, h => h.elim
  | none :: t, none :: t', i, h => by
    obtain ⟨h1, h2⟩ := cr_fg_as t t' (i + 1) h
    exact ⟨by simp [h1], h2⟩
  | none :: t, some w :: t', i, h => by
    obtain ⟨h1, h2⟩ := cr_fg_as t t' (i + 1) h
    exact ⟨by simp [h1], fun q hq => List.mem_cons_of_mem _ (h2 q hq)⟩
  | some v :: t, some w :: t', i, h => by
    obtain ⟨rfl, h9⟩ := h
    obtain ⟨h1, h2⟩ := cr_fg_as t t' (i + 1) h9
    refine ⟨by simp [h1], fun q hq => ?_⟩
    rcases List.mem_cons.mp hq with e | e
    · exact List.mem_cons.mpr (Or.inl e)
    · exact List.mem_cons_of_mem _ (h2 q e)
theorem cr_G_fg {p : Program} {l : Launch} {e : Env} {R : Room} {s : State} {m : MethodId} {args : Array Value} {below : List Frame} {meth : Method} {c : Code} {lo mc ms : Nat} {Q : cr_Q} {pc : Nat} {lv lv' : cr_Lv} {st : List Value} {H : Heap} {k n : Nat} (h : cr_G p l e R s m args below meth c lo mc ms Q pc lv' st H k n) (hf : cr_fg lv' lv) : cr_G p l e R s m args below meth c lo mc ms Q pc lv st H k n := by
  intro ls locs hl hq
  obtain ⟨h1, h2⟩ := cr_fg_as lv' lv 0 hf
  exact h ls locs ⟨by rw [h1]; exact hl.1, hl.2.1, fun q hq => hl.2.2 q (h2 q hq)⟩ hq
section MOP3
variable {l : Launch} {s0 : State} {D : va_G} {ca : Nat → ClassId} {e0 : Nat} {H : Heap} {y : Nat} {ad : Nat → Nat} {G : mm_G}
def mm_ex (P : Nat → Bool) : Nat → Nat → Bool
  | _, 0 => false
  | i, j + 1 => P i || mm_ex P (i + 1) j
/-- a right is told, has begun, is not ended -/
def mm_ho (G : mm_G) (m b r : Nat) : Bool := !decide (mm_to G 1 r b < 0) && (!decide (nI m < nI (G 27 r)) && (decide (mm_to G 2 r b < 0) || !decide (mm_to G 2 r b ≤ nI m)))
def mm_rp (G : mm_G) (g z t : Int32) (m b r : Nat) : Bool := mm_ho G m b r && mm_sp G r g z t
def mm_wy (G : mm_G) (c room m b : Nat) (fr : Int32) : Int32 := if ¬ 0 ≤ mm_to G 0 c b then 1 else if ¬ nI m ≤ nI (G 21 c) then 2 else if ¬ mm_to G 3 c b < 0 ∧ ¬ nI m < mm_to G 3 c b then 3 else if ¬ fr < 0 ∧ ¬ nI (G 18 (G 20 c)) = fr then 4 else cond (mm_ex (mm_rp G (nI (G 17 (G 20 c))) (nI (G 3 room)) (nI m - nI m / 1440 * 1440) m b) 0 (G 22 0)) 0 5
set_option maxRecDepth 20000 in
theorem j_M_why (hl : l.flags = flags0) (Z : cr_Z0 s0 D ca e0) (h : mm_R s0 D ca H y ad G) {c room m b : Nat} {fr : Int32} (hc : c < 60) (hr : room < 20) (hp : G 20 c < 40) (h22 : G 22 0 ≤ 16) (hB : ∀ t, t < 9000 → G 29 t < 2 ^ 31 ∧ G 30 t < 2 ^ 31) (hb : b < 2 ^ 31) (ht : G 28 0 ≤ 9000) : cr_c l s0 y_M_why cw_M_why 1 0 0 [.ref y, .int (nI c), .int (nI room), .int (nI m), .int (nI b), .int fr] H (cr_pu (some (.int (mm_wy G c room m b fr))) H) := by
  refine cr_enter (by decide +kernel) (Nat.le_of_ble_eq_true rfl) (fun hlo P9 E9 S9 M9 A9 B9 T9 C9 C hem hH => ?_)
  have loop : ∀ (j r : Nat), r + j = G 22 0 → cond (mm_ex (mm_rp G (nI (G 17 (G 20 c))) (nI (G 3 room)) (nI m - nI m / 1440 * 1440) m b) r j) 0 5 = mm_wy G c room m b fr → cr_G P9 l E9 (cr_rm 1 0 0) S9 M9 A9 B9 T9 C9 s0.heap.size 0 0 (cr_pu (some (.int (mm_wy G c room m b fr))) H) 78 [some (.ref y), some (.int (nI c)), some (.int (nI room)), some (.int (nI m)), some (.int (nI b)), none, none, none, some (.int (nI r)), none, none] [] H 0 0 := by
    intro j
    induction j with
    | zero =>
      intro r hj hx
      refine cr_vc [78] 60 (s_M_why hl Z C hem) (fun K hK => ?_)
      conv => whnf
      refine ⟨_, h.o, ?_⟩
      conv => whnf
      refine ⟨fun _ => ?_, fun b84 => absurd (nI_le (by omega) (by omega)) b84⟩
      conv => whnf
      exact ⟨cr_le rfl, cr_le rfl, (by rw [← hx]; rfl), rfl⟩
    | succ j ih =>
      intro r hj hx
      refine cr_vc [78] 90 (s_M_why hl Z C hem) (fun K hK => ?_)
      conv => whnf
      refine ⟨_, h.o, ?_⟩
      conv => whnf
      refine ⟨fun b84 => absurd b84 (cr_nle (by omega) (by omega)), fun b84 => ?_⟩
      conv => whnf
      refine ⟨rfl, ?_⟩
      conv => whnf
      refine ⟨_, h.o, _, _, _, _, j_M_told (kd := 2) (w := r) (b := b) hl Z h hB (by decide) (by omega) hb ht, by decide, cr_le rfl, cr_le rfl, cr_le rfl, fun v2 H2 q2 _ => ?_, fun kd H9 q9 _ => by cases q9.1⟩
      obtain ⟨q2a, q2b⟩ := q2
      cases q2a
      replace q2b := q2b.symm
      subst q2b
      conv => whnf
      refine ⟨cr_le rfl, ?_⟩
      conv => whnf
      refine ⟨rfl, ?_⟩
      conv => whnf
      refine ⟨_, h.o, _, _, _, _, j_M_told (kd := 1) (w := r) (b := b) hl Z h hB (by decide) (by omega) hb ht, by decide, cr_le rfl, cr_le rfl, cr_le rfl, fun v3 H3 q3 _ => ?_, fun kd H9 q9 _ => by cases q9.1⟩
      obtain ⟨q3a, q3b⟩ := q3
      cases q3a
      replace q3b := q3b.symm
      subst q3b
      conv => whnf
      refine ⟨fun b107 => ?_, fun b107 => ?_⟩
      · conv => whnf
        refine ⟨cr_le rfl, ?_⟩
        conv => whnf
        refine ⟨fun b141 => ?_, fun b141 => absurd rfl b141⟩
        conv => whnf
        refine ⟨cr_le rfl, ?_⟩
        conv => whnf
        exact hK _ _ _ _ _ _ (cr_G_fg (ih (r + 1) (by omega) (by rw [← hx]; show cond _ _ _ = cond (mm_rp G (nI (G 17 (G 20 c))) (nI (G 3 room)) (nI m - nI m / 1440 * 1440) m b r || _) _ _; rw [show mm_rp G (nI (G 17 (G 20 c))) (nI (G 3 room)) (nI m - nI m / 1440 * 1440) m b r = false by simp [mm_rp, mm_ho, b107]]; rfl)) ⟨rfl, rfl, rfl, rfl, rfl, (show Value.int (nI (r + 1)) = Value.int (nI r + 1) by rw [nI_1]), trivial⟩)
      · conv => whnf
        refine ⟨_, h.o, ?_⟩
        conv => whnf
        refine ⟨_, _, _, h.a 27 rfl, rfl, show r < 16 by omega, cr_le rfl, ?_⟩
        conv => whnf
        refine ⟨fun b118 => ?_, fun b118 => ?_⟩
        · conv => whnf
          refine ⟨cr_le rfl, ?_⟩
          conv => whnf
          refine ⟨fun b141 => ?_, fun b141 => absurd rfl b141⟩
          conv => whnf
          refine ⟨cr_le rfl, ?_⟩
          conv => whnf
          exact hK _ _ _ _ _ _ (cr_G_fg (ih (r + 1) (by omega) (by rw [← hx]; show cond _ _ _ = cond (mm_rp G (nI (G 17 (G 20 c))) (nI (G 3 room)) (nI m - nI m / 1440 * 1440) m b r || _) _ _; rw [show mm_rp G (nI (G 17 (G 20 c))) (nI (G 3 room)) (nI m - nI m / 1440 * 1440) m b r = false by simp [mm_rp, mm_ho, b118]]; rfl)) ⟨rfl, rfl, rfl, rfl, rfl, (show Value.int (nI (r + 1)) = Value.int (nI r + 1) by rw [nI_1]), trivial⟩)
        · conv => whnf
          refine ⟨fun b123 => ?_, fun b123 => ?_⟩
          · conv => whnf
            refine ⟨cr_le rfl, ?_⟩
            conv => whnf
            refine ⟨fun b141 => absurd b141 (by decide), fun b141 => ?_⟩
            conv => whnf
            refine ⟨_, h.o, ?_⟩
            conv => whnf
            refine ⟨_, h.o, ?_⟩
            conv => whnf
            refine ⟨_, _, _, h.a 20 rfl, rfl, hc, cr_le rfl, ?_⟩
            conv => whnf
            refine ⟨_, _, _, h.a 17 rfl, rfl, hp, cr_le rfl, ?_⟩
            conv => whnf
            refine ⟨_, h.o, ?_⟩
            conv => whnf
            refine ⟨_, _, _, h.a 3 rfl, rfl, hr, cr_le rfl, ?_⟩
            conv => whnf
            refine ⟨by decide, ?_⟩
            conv => whnf
            refine ⟨rfl, ?_⟩
            conv => whnf
            refine ⟨_, h.o, _, _, _, _, j_M_spans hl Z h (show r < 16 by omega), by decide, cr_le rfl, cr_le rfl, cr_le rfl, fun v10 H10 q10 _ => ?_, fun kd H9 q9 _ => by cases q9.1⟩
            obtain ⟨q10a, q10b⟩ := q10
            cases q10a
            replace q10b := q10b.symm
            subst q10b
            conv => whnf
            refine ⟨fun b172 => ?_, fun b172 => ?_⟩
            · conv => whnf
              refine ⟨cr_le rfl, ?_⟩
              conv => whnf
              exact hK _ _ _ _ _ _ (cr_G_fg (ih (r + 1) (by omega) (by rw [← hx]; show cond _ _ _ = cond (mm_rp G (nI (G 17 (G 20 c))) (nI (G 3 room)) (nI m - nI m / 1440 * 1440) m b r || _) _ _; rw [show mm_rp G (nI (G 17 (G 20 c))) (nI (G 3 room)) (nI m - nI m / 1440 * 1440) m b r = false by simp [mm_rp, cr_bf b172]]; rfl)) ⟨rfl, rfl, rfl, rfl, rfl, (show Value.int (nI (r + 1)) = Value.int (nI r + 1) by rw [nI_1]), trivial⟩)
            · conv => whnf
              exact ⟨cr_le rfl, cr_le rfl, (by rw [← hx, show mm_ex (mm_rp G (nI (G 17 (G 20 c))) (nI (G 3 room)) (nI m - nI m / 1440 * 1440) m b) r (j + 1) = true by show (mm_rp G (nI (G 17 (G 20 c))) (nI (G 3 room)) (nI m - nI m / 1440 * 1440) m b r || _) = true; rw [show mm_rp G (nI (G 17 (G 20 c))) (nI (G 3 room)) (nI m - nI m / 1440 * 1440) m b r = true by simp [mm_rp, mm_ho, b107, b118, b123, cr_bt b172]]; rfl]; rfl), rfl⟩
          · conv => whnf
            refine ⟨fun b129 => ?_, fun b129 => ?_⟩
            · conv => whnf
              refine ⟨cr_le rfl, ?_⟩
              conv => whnf
              refine ⟨fun b141 => ?_, fun b141 => absurd rfl b141⟩
              conv => whnf
              refine ⟨cr_le rfl, ?_⟩
              conv => whnf
              exact hK _ _ _ _ _ _ (cr_G_fg (ih (r + 1) (by omega) (by rw [← hx]; show cond _ _ _ = cond (mm_rp G (nI (G 17 (G 20 c))) (nI (G 3 room)) (nI m - nI m / 1440 * 1440) m b r || _) _ _; rw [show mm_rp G (nI (G 17 (G 20 c))) (nI (G 3 room)) (nI m - nI m / 1440 * 1440) m b r = false by simp [mm_rp, mm_ho, b123, b129]]; rfl)) ⟨rfl, rfl, rfl, rfl, rfl, (show Value.int (nI (r + 1)) = Value.int (nI r + 1) by rw [nI_1]), trivial⟩)
            · conv => whnf
              refine ⟨cr_le rfl, ?_⟩
              conv => whnf
              refine ⟨fun b141 => absurd b141 (by decide), fun b141 => ?_⟩
              conv => whnf
              refine ⟨_, h.o, ?_⟩
              conv => whnf
              refine ⟨_, h.o, ?_⟩
              conv => whnf
              refine ⟨_, _, _, h.a 20 rfl, rfl, hc, cr_le rfl, ?_⟩
              conv => whnf
              refine ⟨_, _, _, h.a 17 rfl, rfl, hp, cr_le rfl, ?_⟩
              conv => whnf
              refine ⟨_, h.o, ?_⟩
              conv => whnf
              refine ⟨_, _, _, h.a 3 rfl, rfl, hr, cr_le rfl, ?_⟩
              conv => whnf
              refine ⟨by decide, ?_⟩
              conv => whnf
              refine ⟨rfl, ?_⟩
              conv => whnf
              refine ⟨_, h.o, _, _, _, _, j_M_spans hl Z h (show r < 16 by omega), by decide, cr_le rfl, cr_le rfl, cr_le rfl, fun v15 H15 q15 _ => ?_, fun kd H9 q9 _ => by cases q9.1⟩
              obtain ⟨q15a, q15b⟩ := q15
              cases q15a
              replace q15b := q15b.symm
              subst q15b
              conv => whnf
              refine ⟨fun b172 => ?_, fun b172 => ?_⟩
              · conv => whnf
                refine ⟨cr_le rfl, ?_⟩
                conv => whnf
                exact hK _ _ _ _ _ _ (cr_G_fg (ih (r + 1) (by omega) (by rw [← hx]; show cond _ _ _ = cond (mm_rp G (nI (G 17 (G 20 c))) (nI (G 3 room)) (nI m - nI m / 1440 * 1440) m b r || _) _ _; rw [show mm_rp G (nI (G 17 (G 20 c))) (nI (G 3 room)) (nI m - nI m / 1440 * 1440) m b r = false by simp [mm_rp, cr_bf b172]]; rfl)) ⟨rfl, rfl, rfl, rfl, rfl, (show Value.int (nI (r + 1)) = Value.int (nI r + 1) by rw [nI_1]), trivial⟩)
              · conv => whnf
                exact ⟨cr_le rfl, cr_le rfl, (by rw [← hx, show mm_ex (mm_rp G (nI (G 17 (G 20 c))) (nI (G 3 room)) (nI m - nI m / 1440 * 1440) m b) r (j + 1) = true by show (mm_rp G (nI (G 17 (G 20 c))) (nI (G 3 room)) (nI m - nI m / 1440 * 1440) m b r || _) = true; rw [show mm_rp G (nI (G 17 (G 20 c))) (nI (G 3 room)) (nI m - nI m / 1440 * 1440) m b r = true by simp [mm_rp, mm_ho, b107, b118, b123, b129, cr_bt b172]]; rfl]; rfl), rfl⟩
  refine cr_vc [78] 90 (s_M_why hl Z C hem) (fun K hK => ?_)
  conv => whnf
  refine ⟨rfl, ?_⟩
  conv => whnf
  refine ⟨_, h.o, _, _, _, _, j_M_told (kd := 0) (w := c) (b := b) hl Z h hB (by decide) (by omega) hb ht, by decide, cr_le rfl, cr_le rfl, cr_le rfl, fun v1 H1 q1 _ => ?_, fun kd H9 q9 _ => by cases q9.1⟩
  obtain ⟨q1a, q1b⟩ := q1
  cases q1a
  replace q1b := q1b.symm
  subst q1b
  conv => whnf
  refine ⟨cr_le rfl, ?_⟩
  conv => whnf
  refine ⟨fun b12 => ?_, fun b12 => ?_⟩
  · conv => whnf
    refine ⟨_, h.o, ?_⟩
    conv => whnf
    refine ⟨_, _, _, h.a 21 rfl, rfl, hc, cr_le rfl, ?_⟩
    conv => whnf
    refine ⟨fun b24 => ?_, fun b24 => ?_⟩
    · conv => whnf
      refine ⟨rfl, ?_⟩
      conv => whnf
      refine ⟨_, h.o, _, _, _, _, j_M_told (kd := 3) (w := c) (b := b) hl Z h hB (by decide) (by omega) hb ht, by decide, cr_le rfl, cr_le rfl, cr_le rfl, fun v4 H4 q4 _ => ?_, fun kd H9 q9 _ => by cases q9.1⟩
      obtain ⟨q4a, q4b⟩ := q4
      cases q4a
      replace q4b := q4b.symm
      subst q4b
      conv => whnf
      refine ⟨cr_le rfl, ?_⟩
      conv => whnf
      refine ⟨fun b41 => ?_, fun b41 => ?_⟩
      · conv => whnf
        refine ⟨fun b54 => ?_, fun b54 => ?_⟩
        · conv => whnf
          refine ⟨cr_le rfl, ?_⟩
          conv => whnf
          exact hK _ _ _ _ _ _ (cr_G_fg (loop (G 22 0) 0 (by omega) (by unfold mm_wy; rw [if_neg (fun q => q b12), if_neg (fun q => q b24), if_neg (fun q => q.1 b41), if_neg (fun q => q.1 b54)])) ⟨rfl, rfl, rfl, rfl, rfl, rfl, trivial⟩)
        · conv => whnf
          refine ⟨_, h.o, ?_⟩
          conv => whnf
          refine ⟨_, h.o, ?_⟩
          conv => whnf
          refine ⟨_, _, _, h.a 20 rfl, rfl, hc, cr_le rfl, ?_⟩
          conv => whnf
          refine ⟨_, _, _, h.a 18 rfl, rfl, hp, cr_le rfl, ?_⟩
          conv => whnf
          refine ⟨fun b70 => ?_, fun b70 => ?_⟩
          · conv => whnf
            refine ⟨cr_le rfl, ?_⟩
            conv => whnf
            exact hK _ _ _ _ _ _ (cr_G_fg (loop (G 22 0) 0 (by omega) (by unfold mm_wy; rw [if_neg (fun q => q b12), if_neg (fun q => q b24), if_neg (fun q => q.1 b41), if_neg (fun q => q.2 b70)])) ⟨rfl, rfl, rfl, rfl, rfl, rfl, trivial⟩)
          · conv => whnf
            exact ⟨cr_le rfl, cr_le rfl, (by unfold mm_wy; rw [if_neg (fun q => q b12), if_neg (fun q => q b24), if_neg (fun q => q.1 b41), if_pos ⟨b54, b70⟩]), rfl⟩
      · conv => whnf
        refine ⟨fun b47 => ?_, fun b47 => ?_⟩
        · conv => whnf
          refine ⟨fun b54 => ?_, fun b54 => ?_⟩
          · conv => whnf
            refine ⟨cr_le rfl, ?_⟩
            conv => whnf
            exact hK _ _ _ _ _ _ (cr_G_fg (loop (G 22 0) 0 (by omega) (by unfold mm_wy; rw [if_neg (fun q => q b12), if_neg (fun q => q b24), if_neg (fun q => q.2 b47), if_neg (fun q => q.1 b54)])) ⟨rfl, rfl, rfl, rfl, rfl, rfl, trivial⟩)
          · conv => whnf
            refine ⟨_, h.o, ?_⟩
            conv => whnf
            refine ⟨_, h.o, ?_⟩
            conv => whnf
            refine ⟨_, _, _, h.a 20 rfl, rfl, hc, cr_le rfl, ?_⟩
            conv => whnf
            refine ⟨_, _, _, h.a 18 rfl, rfl, hp, cr_le rfl, ?_⟩
            conv => whnf
            refine ⟨fun b70 => ?_, fun b70 => ?_⟩
            · conv => whnf
              refine ⟨cr_le rfl, ?_⟩
              conv => whnf
              exact hK _ _ _ _ _ _ (cr_G_fg (loop (G 22 0) 0 (by omega) (by unfold mm_wy; rw [if_neg (fun q => q b12), if_neg (fun q => q b24), if_neg (fun q => q.2 b47), if_neg (fun q => q.2 b70)])) ⟨rfl, rfl, rfl, rfl, rfl, rfl, trivial⟩)
            · conv => whnf
              exact ⟨cr_le rfl, cr_le rfl, (by unfold mm_wy; rw [if_neg (fun q => q b12), if_neg (fun q => q b24), if_neg (fun q => q.2 b47), if_pos ⟨b54, b70⟩]), rfl⟩
        · conv => whnf
          exact ⟨cr_le rfl, cr_le rfl, (by unfold mm_wy; rw [if_neg (fun q => q b12), if_neg (fun q => q b24), if_pos ⟨b41, b47⟩]), rfl⟩
    · conv => whnf
      exact ⟨cr_le rfl, cr_le rfl, (by unfold mm_wy; rw [if_neg (fun q => q b12), if_pos b24]), rfl⟩
  · conv => whnf
    exact ⟨cr_le rfl, cr_le rfl, (by unfold mm_wy; rw [if_pos b12]), rfl⟩
def mm_fr (G : mm_G) (d room : Nat) : Int32 := if nI (G 10 d) = 9000 then (if nI room = nI (G 5 d) then nI (G 6 d) else nI (G 5 d)) else -1
def mm_lo (G : mm_G) (d k : Nat) : Bool := !decide (nI (G 11 (30 * d + k)) = 0) && !decide (nI (G 8 k) = 0)
def mm_rf (G : mm_G) (c d room m : Nat) : Int32 := if mm_wy G c room m (G 10 d) (mm_fr G d room) = 0 then cond (mm_ex (mm_lo G d) 0 (G 4 0)) 6 0 else mm_wy G c room m (G 10 d) (mm_fr G d room)
set_option maxRecDepth 20000 in
theorem j_M_refused (hl : l.flags = flags0) (Z : cr_Z0 s0 D ca e0) (h : mm_R s0 D ca H y ad G) {c d room m : Nat} (hc : c < 60) (hd : d < 30) (hr : room < 20) (hp : G 20 c < 40) (h22 : G 22 0 ≤ 16) (h4 : G 4 0 ≤ 30) (hB : ∀ t, t < 9000 → G 29 t < 2 ^ 31 ∧ G 30 t < 2 ^ 31) (hb : G 10 d < 2 ^ 31) (ht : G 28 0 ≤ 9000) : cr_c l s0 y_M_refused cw_M_refused 2 0 0 [.ref y, .int (nI c), .int (nI d), .int (nI room), .int (nI m)] H (cr_pu (some (.int (mm_rf G c d room m))) H) := by
  refine cr_enter (by decide +kernel) (Nat.le_of_ble_eq_true rfl) (fun hlo P9 E9 S9 M9 A9 B9 T9 C9 C hem hH => ?_)
  have stop : ∀ (v k : Int32), ¬ v = 0 → v = mm_rf G c d room m → cr_G P9 l E9 (cr_rm 2 0 0) S9 M9 A9 B9 T9 C9 s0.heap.size 0 0 (cr_pu (some (.int (mm_rf G c d room m))) H) 64 [some (.ref y), none, some (.int (nI d)), none, none, none, some (.int v), some (.int k)] [] H 0 0 := by
    intro v k hv hx
    refine cr_vc [64] 60 (s_M_refused hl Z C hem) (fun K hK => ?_)
    conv => whnf
    refine ⟨_, h.o, ?_⟩
    conv => whnf
    refine ⟨fun _ => ?_, fun _ => ?_⟩
    · conv => whnf
      exact ⟨cr_le rfl, cr_le rfl, (by rw [hx]), rfl⟩
    · conv => whnf
      refine ⟨fun _ => ?_, fun b => absurd b hv⟩
      conv => whnf
      exact ⟨cr_le rfl, cr_le rfl, (by rw [hx]), rfl⟩
  have loop : ∀ (j k : Nat), k + j = G 4 0 → cond (mm_ex (mm_lo G d) k j) 6 0 = mm_rf G c d room m → cr_G P9 l E9 (cr_rm 2 0 0) S9 M9 A9 B9 T9 C9 s0.heap.size 0 0 (cr_pu (some (.int (mm_rf G c d room m))) H) 64 [some (.ref y), none, some (.int (nI d)), none, none, none, some (.int 0), some (.int (nI k))] [] H 0 0 := by
    intro j
    induction j with
    | zero =>
      intro k hj hx
      refine cr_vc [64] 60 (s_M_refused hl Z C hem) (fun K hK => ?_)
      conv => whnf
      refine ⟨_, h.o, ?_⟩
      conv => whnf
      refine ⟨fun _ => ?_, fun b => absurd (nI_le (by omega) (by omega)) b⟩
      conv => whnf
      exact ⟨cr_le rfl, cr_le rfl, (by rw [← hx]; rfl), rfl⟩
    | succ j ih =>
      intro k hj hx
      refine cr_vc [64] 90 (s_M_refused hl Z C hem) (fun K hK => ?_)
      conv => whnf
      refine ⟨_, h.o, ?_⟩
      conv => whnf
      refine ⟨fun b70 => absurd b70 (cr_nle (by omega) (by omega)), fun b70 => ?_⟩
      conv => whnf
      refine ⟨fun b75 => absurd rfl b75, fun b75 => ?_⟩
      conv => whnf
      refine ⟨_, h.o, ?_⟩
      conv => whnf
      refine ⟨_, _, _, h.a 11 rfl, mm_ix d k, show 30 * d + k < 900 by omega, cr_le rfl, ?_⟩
      conv => whnf
      refine ⟨fun b90 => ?_, fun b90 => ?_⟩
      · conv => whnf
        refine ⟨cr_le rfl, ?_⟩
        conv => whnf
        refine ⟨cr_le rfl, ?_⟩
        conv => whnf
        exact hK _ _ _ _ _ _ (cr_G_fg (ih (k + 1) (by omega) (by rw [← hx]; show cond _ _ _ = cond (mm_lo G d k || _) _ _; rw [show mm_lo G d k = false by simp [mm_lo, b90]]; rfl)) ⟨rfl, rfl, rfl, (show Value.int (nI (k + 1)) = Value.int (nI k + 1) by rw [nI_1]), trivial⟩)
      · conv => whnf
        refine ⟨_, h.o, ?_⟩
        conv => whnf
        refine ⟨_, _, _, h.a 8 rfl, rfl, show k < 30 by omega, cr_le rfl, ?_⟩
        conv => whnf
        refine ⟨fun b100 => ?_, fun b100 => ?_⟩
        · conv => whnf
          refine ⟨cr_le rfl, ?_⟩
          conv => whnf
          refine ⟨cr_le rfl, ?_⟩
          conv => whnf
          exact hK _ _ _ _ _ _ (cr_G_fg (ih (k + 1) (by omega) (by rw [← hx]; show cond _ _ _ = cond (mm_lo G d k || _) _ _; rw [show mm_lo G d k = false by simp [mm_lo, b100]]; rfl)) ⟨rfl, rfl, rfl, (show Value.int (nI (k + 1)) = Value.int (nI k + 1) by rw [nI_1]), trivial⟩)
        · conv => whnf
          refine ⟨cr_le rfl, ?_⟩
          conv => whnf
          refine ⟨cr_le rfl, ?_⟩
          conv => whnf
          exact hK _ _ _ _ _ _ (cr_G_fg (stop 6 _ (by decide) (by rw [← hx]; show _ = cond (mm_lo G d k || _) _ _; rw [show mm_lo G d k = true by simp [mm_lo, b90, b100]]; rfl)) ⟨rfl, rfl, rfl, rfl, trivial⟩)
  have mid : ∀ v : Int32, (if v = 0 then cond (mm_ex (mm_lo G d) 0 (G 4 0)) 6 0 else v) = mm_rf G c d room m → cr_G P9 l E9 (cr_rm 2 0 0) S9 M9 A9 B9 T9 C9 s0.heap.size 0 0 (cr_pu (some (.int (mm_rf G c d room m))) H) 64 [some (.ref y), none, some (.int (nI d)), none, none, none, some (.int v), some (.int 0)] [] H 0 0 := by
    intro v hv
    by_cases e : v = 0
    · rw [if_pos e] at hv
      rw [e]
      exact loop (G 4 0) 0 (by omega) hv
    · rw [if_neg e] at hv
      exact stop v 0 e hv
  refine cr_vc [64] 90 (s_M_refused hl Z C hem) (fun K hK => ?_)
  conv => whnf
  refine ⟨_, h.o, ?_⟩
  conv => whnf
  refine ⟨_, _, _, h.a 5 rfl, rfl, hd, cr_le rfl, ?_⟩
  conv => whnf
  refine ⟨fun b7 => ?_, fun b7 => ?_⟩
  · conv => whnf
    refine ⟨_, h.o, ?_⟩
    conv => whnf
    refine ⟨_, _, _, h.a 5 rfl, rfl, hd, cr_le rfl, ?_⟩
    conv => whnf
    refine ⟨cr_le rfl, ?_⟩
    conv => whnf
    refine ⟨_, h.o, ?_⟩
    conv => whnf
    refine ⟨_, _, _, h.a 10 rfl, rfl, hd, cr_le rfl, ?_⟩
    conv => whnf
    refine ⟨_, h.o, ?_⟩
    conv => whnf
    refine ⟨_, _, _, h.a 10 rfl, rfl, hd, cr_le rfl, ?_⟩
    conv => whnf
    refine ⟨fun b47 => ?_, fun b47 => ?_⟩
    · conv => whnf
      refine ⟨rfl, ?_⟩
      conv => whnf
      refine ⟨_, h.o, _, _, _, _, j_M_why hl Z h hc hr hp h22 hB hb ht, by decide, cr_le rfl, cr_le rfl, cr_le rfl, fun v3 H3 q3 _ => ?_, fun kd H9 q9 _ => by cases q9.1⟩
      obtain ⟨q3a, q3b⟩ := q3
      cases q3a
      replace q3b := q3b.symm
      subst q3b
      conv => whnf
      refine ⟨cr_le rfl, ?_⟩
      conv => whnf
      refine ⟨cr_le rfl, ?_⟩
      conv => whnf
      exact hK _ _ _ _ _ _ (cr_G_fg (mid _ (by unfold mm_rf mm_fr; rw [if_neg b47])) ⟨rfl, rfl, rfl, rfl, trivial⟩)
    · conv => whnf
      refine ⟨rfl, ?_⟩
      conv => whnf
      refine ⟨_, h.o, _, _, _, _, j_M_why hl Z h hc hr hp h22 hB hb ht, by decide, cr_le rfl, cr_le rfl, cr_le rfl, fun v4 H4 q4 _ => ?_, fun kd H9 q9 _ => by cases q9.1⟩
      obtain ⟨q4a, q4b⟩ := q4
      cases q4a
      replace q4b := q4b.symm
      subst q4b
      conv => whnf
      refine ⟨cr_le rfl, ?_⟩
      conv => whnf
      refine ⟨cr_le rfl, ?_⟩
      conv => whnf
      exact hK _ _ _ _ _ _ (cr_G_fg (mid _ (by unfold mm_rf mm_fr; rw [if_pos b47, if_neg b7])) ⟨rfl, rfl, rfl, rfl, trivial⟩)
  · conv => whnf
    refine ⟨_, h.o, ?_⟩
    conv => whnf
    refine ⟨_, _, _, h.a 6 rfl, rfl, hd, cr_le rfl, ?_⟩
    conv => whnf
    refine ⟨cr_le rfl, ?_⟩
    conv => whnf
    refine ⟨_, h.o, ?_⟩
    conv => whnf
    refine ⟨_, _, _, h.a 10 rfl, rfl, hd, cr_le rfl, ?_⟩
    conv => whnf
    refine ⟨_, h.o, ?_⟩
    conv => whnf
    refine ⟨_, _, _, h.a 10 rfl, rfl, hd, cr_le rfl, ?_⟩
    conv => whnf
    refine ⟨fun b47 => ?_, fun b47 => ?_⟩
    · conv => whnf
      refine ⟨rfl, ?_⟩
      conv => whnf
      refine ⟨_, h.o, _, _, _, _, j_M_why hl Z h hc hr hp h22 hB hb ht, by decide, cr_le rfl, cr_le rfl, cr_le rfl, fun v6 H6 q6 _ => ?_, fun kd H9 q9 _ => by cases q9.1⟩
      obtain ⟨q6a, q6b⟩ := q6
      cases q6a
      replace q6b := q6b.symm
      subst q6b
      conv => whnf
      refine ⟨cr_le rfl, ?_⟩
      conv => whnf
      refine ⟨cr_le rfl, ?_⟩
      conv => whnf
      exact hK _ _ _ _ _ _ (cr_G_fg (mid _ (by unfold mm_rf mm_fr; rw [if_neg b47])) ⟨rfl, rfl, rfl, rfl, trivial⟩)
    · conv => whnf
      refine ⟨rfl, ?_⟩
      conv => whnf
      refine ⟨_, h.o, _, _, _, _, j_M_why hl Z h hc hr hp h22 hB hb ht, by decide, cr_le rfl, cr_le rfl, cr_le rfl, fun v7 H7 q7 _ => ?_, fun kd H9 q9 _ => by cases q9.1⟩
      obtain ⟨q7a, q7b⟩ := q7
      cases q7a
      replace q7b := q7b.symm
      subst q7b
      conv => whnf
      refine ⟨cr_le rfl, ?_⟩
      conv => whnf
      refine ⟨cr_le rfl, ?_⟩
      conv => whnf
      exact hK _ _ _ _ _ _ (cr_G_fg (mid _ (by unfold mm_rf mm_fr; rw [if_pos b47, if_pos b7])) ⟨rfl, rfl, rfl, rfl, trivial⟩)
end MOP3
