/-! THE LAW: one turn of its loop (printed by gen/comp32.py) -/
section LWT
variable {p : Program} {l : Launch} {e : Env} {m : MethodId} {args : Array Value} {below : List Frame} {meth : Method} {c : Code} {s0 : State} {D : va_G} {ca : Nat → ClassId} {e0 b L : Nat} {xs : Nat → Int32}
variable {O : Nat → Prop} {H H1 H2 : Heap} {A : Nat → Nat → Nat} {G G' : mm_G} {w : cc_W} {y : Nat} {ad : Nat → Nat} {x oa t k n : Nat}
/-- both sides and the place for answers, before call t -/
def lw_J (s0 : State) (D : va_G) (ca : Nat → ClassId) (e0 x y : Nat) (ad : Nat → Nat) (oa t : Nat) (H : Heap) : Prop := ∃ O A G w, sm_S s0 D ca e0 O H A y ad G w t ∧ A 14 0 = x ∧ ¬ O oa ∧ ¬ mm_S y ad oa ∧ s0.heap.size ≤ oa ∧ ∃ f, va_at D kc (oa, .inl (ca 1, 1, .inr (.inl f))) H
def lw_q : cr_Q := fun o _ => o = .inl (some (.int 1))
theorem lg_self (x : Int64) : lg_cmp x x = 0 := by
  unfold lg_cmp
  rw [if_neg (Int64.lt_irrefl), if_pos rfl]
theorem mm_R.fr (h : mm_R s0 D ca H y ad G) (hf : ∀ q : Nat, mm_S y ad q → H1[q]? = H[q]?) : mm_R s0 D ca H1 y ad G := by
  obtain ⟨h1, h2, h3, h4, h5⟩ := h
  exact ⟨h1, cr_at_eq h2 (hf _ (Or.inl rfl)), fun k hk => ⟨(h3 k hk).1, cr_at_eq (h3 k hk).2 (hf _ (Or.inr ⟨k, hk, rfl⟩))⟩, h4, h5⟩
theorem mm_R.lt (h : mm_R s0 D ca H y ad G) {q : Nat} (hq : mm_S y ad q) : q < H.size ∧ s0.heap.size ≤ q := by
  obtain ⟨h1, h2, h3, h4, h5⟩ := h
  rcases hq with rfl | ⟨k, hk, rfl⟩
  · exact ⟨cr_at_lt h2, h1⟩
  · exact ⟨cr_at_lt (h3 k hk).2, (h3 k hk).1⟩
theorem lw_R {T : Nat → Prop} (S : sm_S s0 D ca e0 O H A y ad G w t) (hT : ∀ q, T q → ¬ mm_S y ad q) (fr1 : cr_Fr T H H1) : mm_R s0 D ca H1 y ad G := S.2.1.fr (fun q hq => fr1.2 q (S.2.1.lt hq).1 (fun z => hT q z hq))
theorem lw_step (Z : cr_Z0 s0 D ca e0) (S : sm_S s0 D ca e0 O H A y ad G w t) (hno : ¬ O oa) (hns : ¬ mm_S y ad oa) (hoa : s0.heap.size ≤ oa) (hol : oa < H.size) {O1 : Nat → Prop} {A1 : Nat → Nat → Nat} {w1 : cc_W} {G1 : mm_G} {f1 : Nat → Int64} {T : Nat → Prop} (c1 : cc_H s0 D ca e0 O1 H1 A1 G1 w1) (K1 : sm_K G' w1 (t + 1)) (e1 : ∀ a b, a ≠ 0 → a < 39 → G' a b = G1 a b) (o1 : ∀ q, O1 q → O q ∨ H.size ≤ q) (x1 : A1 14 0 = A 14 0) (fr1 : cr_Fr T H H1) (at1 : va_at D kc (oa, .inl (ca 1, 1, .inr (.inl f1))) H1) (hR2 : mm_R s0 D ca H2 y ad G') (fr2 : mm_Fr y ad H1 H2) : lw_J s0 D ca e0 (A 14 0) y ad oa (t + 1) H2 := by
  have h1 : s0.heap.size ≤ H1.size := Nat.le_trans S.2.2.2.2 fr1.1
  have d1 : ∀ q, mm_S y ad q → ¬ O1 q := fun q hq z => by
    rcases o1 q z with z | z
    · exact S.2.2.2.1 q z hq
    · have := (S.2.1.lt hq).1
      omega
  have fr3 : cr_Fr (mm_S y ad) H1 H2 := ⟨Nat.le_of_eq fr2.1.symm, fun q _ hq => fr2.2 q hq⟩
  refine ⟨O1, A1, G', w1, ⟨(c1.frT Z h1 fr3 (fun q hq => ⟨d1 q hq, (S.2.1.lt hq).2⟩)).of0 e1, hR2, K1, fun q z hq => d1 q hq z, by rw [fr2.1]; exact h1⟩, x1, fun z => ?_, hns, hoa, f1, cr_at_eq at1 (fr2.2 _ hns)⟩
  rcases o1 _ z with z | z
  · exact hno z
  · omega
theorem lw_ix (i j : Nat) : nI i + nI j = nI (i + j) := nI_add i j

set_option maxHeartbeats 4000000 in
set_option maxRecDepth 20000 in
theorem lw_c0 (hl : l.flags = flags0) (Z : cr_Z0 s0 D ca e0) (hN : cr_No s0) (hx : p.tables.exec = Jvm.exec) (hb : c.code = c_L_law) (hml : c.maxLocals = 7) (hown : s0.vm.findClass "CardRightsLaw" = some m.cls) (hr : meth.sig.returnType = some .boolean) (hlk : meth.locks = false) (hX : va_X b L xs s0 s0.heap) (hbl : b < s0.heap.size) (hL : L ≤ 3072) (ht : 6 * t + 6 ≤ L) (J : lw_J s0 D ca e0 x y ad oa t H) (hk : k ≤ 100 + 6 * t) (hn : n ≤ 200000 + 230 * t) (nxt : ∀ H' k' n', lw_J s0 D ca e0 x y ad oa (t + 1) H' → k' ≤ 100 + 6 * (t + 1) → n' ≤ 200000 + 230 * (t + 1) → cr_G p l e (cr_rm 1400 601024 7293034) s0 m args below meth c s0.heap.size 601024 7293034 lw_q 23 [some (.ref b), some (.ref x), some (.ref y), some (.ref oa), some (.int (nI (6 * (t + 1)))), none, none] [] H' k' n') : cr_G p l e (cr_rm 1400 601024 7293034) s0 m args below meth c s0.heap.size 601024 7293034 lw_q 140 [some (.ref b), some (.ref x), some (.ref y), some (.ref oa), some (.int (nI (6 * t))), none, none] [] H k n := by
  obtain ⟨O, A, G, w, S, hxA, hno, hns, hoa, f0, ho⟩ := J
  subst hxA
  have hbk : H[b]? = s0.heap[b]? := S.1.old b hbl
  refine cr_vc [23] 90 (s_Lw0 Z hx hb hml hown hr hlk rfl hX hL) (fun K hK => ?_)
  conv => whnf
  refine ⟨rfl, hbk, 6 * t + 1, lw_ix _ 1, by omega, ?_⟩
  conv => whnf
  refine ⟨rfl, ?_⟩
  conv => whnf
  obtain ⟨G', code, r, h0, hcode, hc, hm⟩ := sm_room hl Z S (by omega) (xs (6 * t + 1))
  have hW := j_L_room hl Z hN (S.1.c 14 0 rfl) hc hcode ho hoa hno
  refine ⟨21, 6, 230, _, hW, by decide, by omega, by omega, cr_le rfl, fun v9 H1 q9 _ => ?_, fun kd H9 q9 _ => (by have z9 := q9.1; cases z9)⟩
  obtain ⟨qa, fr1, ⟨O1, A1, w1, c1, K1, o1, x1⟩, f1, at1, hf1⟩ := q9
  cases qa
  have hR1 := lw_R S (T := fun q => O q ∨ q = oa) (fun q z hq => z.elim (fun z => S.2.2.2.1 q z hq) (fun z => hns (by rw [← z]; exact hq))) fr1
  have hbk1 : H1[b]? = s0.heap[b]? := c1.old b hbl
  conv => whnf
  refine ⟨cr_le rfl, ?_⟩
  conv => whnf
  refine ⟨rfl, hbk1, 6 * t + 1, lw_ix _ 1, by omega, ?_⟩
  conv => whnf
  refine ⟨rfl, ?_⟩
  conv => whnf
  refine ⟨_, hR1.o, 4, 0, 0, _, hm H1 hR1, by decide, by omega, by omega, cr_le rfl, fun v9 H2 q9 _ => ?_, fun kd H9 q9 _ => (by cases q9.1)⟩
  obtain ⟨q9a, hR2, fr2⟩ := q9
  cases q9a
  have at2 := cr_at_eq at1 (fr2.2 _ hns)
  have J2 : lw_J s0 D ca e0 (A 14 0) y ad oa (t + 1) H2 := lw_step Z S hno hns hoa (cr_at_lt ho) c1 K1 (fun _ _ _ _ => rfl) o1 x1 fr1 at1 hR2 fr2
  conv => whnf
  refine ⟨cr_le rfl, ?_⟩
  conv => whnf
  refine ⟨rfl, ?_⟩
  conv => whnf
  refine ⟨_, hR2.o, 0, 0, 0, _, j_M_thrown hl Z hR2, by decide, by omega, by omega, cr_le rfl, fun v9 H9 q9 _ => ?_, fun kd H9 q9 _ => (by cases q9.1)⟩
  obtain ⟨q9a, q9b⟩ := q9
  cases q9a
  replace q9b := q9b.symm
  subst q9b
  conv => whnf
  refine ⟨fun b171 => ?_, fun b171 => absurd (show nI (G' 0 0) = nI code by rw [h0]) b171⟩
  conv => whnf
  refine ⟨fun b178 => ?_, fun b178 => ?_⟩
  · conv => whnf
    refine ⟨cr_le rfl, ?_⟩
    conv => whnf
    exact hK _ _ _ _ _ _ (cr_G_fg (nxt _ _ _ J2 (by omega) (by omega)) ⟨rfl, rfl, rfl, rfl, (show Value.int (nI (6 * (t + 1))) = Value.int (nI (6 * t) + 6) by rw [show 6 * (t + 1) = 6 * t + 6 by omega, show (6 : Int32) = nI 6 from rfl, nI_add]), trivial⟩)
  · have hc0 : code = 0 := (nb_eq0 (by omega)).mp b178
    conv => whnf
    refine ⟨1, f1, 0, at2, rfl, by decide, by decide, ?_⟩
    conv => whnf
    refine ⟨fun b188 => ?_, fun b188 => absurd (show lg_cmp (f1 0) (if code = 0 then r else 0).toInt64 = 0 by rw [hf1 hc0, if_pos hc0]; exact lg_self _) b188⟩
    conv => whnf
    refine ⟨cr_le rfl, ?_⟩
    conv => whnf
    exact hK _ _ _ _ _ _ (cr_G_fg (nxt _ _ _ J2 (by omega) (by omega)) ⟨rfl, rfl, rfl, rfl, (show Value.int (nI (6 * (t + 1))) = Value.int (nI (6 * t) + 6) by rw [show 6 * (t + 1) = 6 * t + 6 by omega, show (6 : Int32) = nI 6 from rfl, nI_add]), trivial⟩)
set_option maxHeartbeats 4000000 in
set_option maxRecDepth 20000 in
theorem lw_c1 (hl : l.flags = flags0) (Z : cr_Z0 s0 D ca e0) (hN : cr_No s0) (hx : p.tables.exec = Jvm.exec) (hb : c.code = c_L_law) (hml : c.maxLocals = 7) (hown : s0.vm.findClass "CardRightsLaw" = some m.cls) (hr : meth.sig.returnType = some .boolean) (hlk : meth.locks = false) (hX : va_X b L xs s0 s0.heap) (hbl : b < s0.heap.size) (hL : L ≤ 3072) (ht : 6 * t + 6 ≤ L) (J : lw_J s0 D ca e0 x y ad oa t H) (hk : k ≤ 100 + 6 * t) (hn : n ≤ 200000 + 230 * t) (nxt : ∀ H' k' n', lw_J s0 D ca e0 x y ad oa (t + 1) H' → k' ≤ 100 + 6 * (t + 1) → n' ≤ 200000 + 230 * (t + 1) → cr_G p l e (cr_rm 1400 601024 7293034) s0 m args below meth c s0.heap.size 601024 7293034 lw_q 23 [some (.ref b), some (.ref x), some (.ref y), some (.ref oa), some (.int (nI (6 * (t + 1)))), none, none] [] H' k' n') : cr_G p l e (cr_rm 1400 601024 7293034) s0 m args below meth c s0.heap.size 601024 7293034 lw_q 196 [some (.ref b), some (.ref x), some (.ref y), some (.ref oa), some (.int (nI (6 * t))), none, none] [] H k n := by
  obtain ⟨O, A, G, w, S, hxA, hno, hns, hoa, f0, ho⟩ := J
  subst hxA
  have hbk : H[b]? = s0.heap[b]? := S.1.old b hbl
  refine cr_vc [23] 90 (s_Lw1 Z hx hb hml hown hr hlk rfl hX hL) (fun K hK => ?_)
  conv => whnf
  refine ⟨rfl, hbk, 6 * t + 1, lw_ix _ 1, by omega, ?_⟩
  conv => whnf
  refine ⟨rfl, hbk, 6 * t + 2, lw_ix _ 2, by omega, ?_⟩
  conv => whnf
  refine ⟨rfl, ?_⟩
  conv => whnf
  obtain ⟨G', code, r, h0, hcode, hc, hm⟩ := sm_door hl Z S (by omega) (xs (6 * t + 1)) (xs (6 * t + 2))
  have hW := j_L_door hl Z hN (S.1.c 14 0 rfl) hc hcode ho hoa hno
  refine ⟨21, 6, 230, _, hW, by decide, by omega, by omega, cr_le rfl, fun v9 H1 q9 _ => ?_, fun kd H9 q9 _ => (by have z9 := q9.1; cases z9)⟩
  obtain ⟨qa, fr1, ⟨O1, A1, w1, c1, K1, o1, x1⟩, f1, at1, hf1⟩ := q9
  cases qa
  have hR1 := lw_R S (T := fun q => O q ∨ q = oa) (fun q z hq => z.elim (fun z => S.2.2.2.1 q z hq) (fun z => hns (by rw [← z]; exact hq))) fr1
  have hbk1 : H1[b]? = s0.heap[b]? := c1.old b hbl
  conv => whnf
  refine ⟨cr_le rfl, ?_⟩
  conv => whnf
  refine ⟨rfl, hbk1, 6 * t + 1, lw_ix _ 1, by omega, ?_⟩
  conv => whnf
  refine ⟨rfl, hbk1, 6 * t + 2, lw_ix _ 2, by omega, ?_⟩
  conv => whnf
  refine ⟨rfl, ?_⟩
  conv => whnf
  refine ⟨_, hR1.o, 4, 0, 0, _, hm H1 hR1, by decide, by omega, by omega, cr_le rfl, fun v9 H2 q9 _ => ?_, fun kd H9 q9 _ => (by cases q9.1)⟩
  obtain ⟨q9a, hR2, fr2⟩ := q9
  cases q9a
  have at2 := cr_at_eq at1 (fr2.2 _ hns)
  have J2 : lw_J s0 D ca e0 (A 14 0) y ad oa (t + 1) H2 := lw_step Z S hno hns hoa (cr_at_lt ho) c1 K1 (fun _ _ _ _ => rfl) o1 x1 fr1 at1 hR2 fr2
  conv => whnf
  refine ⟨cr_le rfl, ?_⟩
  conv => whnf
  refine ⟨rfl, ?_⟩
  conv => whnf
  refine ⟨_, hR2.o, 0, 0, 0, _, j_M_thrown hl Z hR2, by decide, by omega, by omega, cr_le rfl, fun v9 H9 q9 _ => ?_, fun kd H9 q9 _ => (by cases q9.1)⟩
  obtain ⟨q9a, q9b⟩ := q9
  cases q9a
  replace q9b := q9b.symm
  subst q9b
  conv => whnf
  refine ⟨fun b239 => ?_, fun b239 => absurd (show nI (G' 0 0) = nI code by rw [h0]) b239⟩
  conv => whnf
  refine ⟨fun b246 => ?_, fun b246 => ?_⟩
  · conv => whnf
    refine ⟨cr_le rfl, ?_⟩
    conv => whnf
    exact hK _ _ _ _ _ _ (cr_G_fg (nxt _ _ _ J2 (by omega) (by omega)) ⟨rfl, rfl, rfl, rfl, (show Value.int (nI (6 * (t + 1))) = Value.int (nI (6 * t) + 6) by rw [show 6 * (t + 1) = 6 * t + 6 by omega, show (6 : Int32) = nI 6 from rfl, nI_add]), trivial⟩)
  · have hc0 : code = 0 := (nb_eq0 (by omega)).mp b246
    conv => whnf
    refine ⟨1, f1, 0, at2, rfl, by decide, by decide, ?_⟩
    conv => whnf
    refine ⟨fun b256 => ?_, fun b256 => absurd (show lg_cmp (f1 0) (if code = 0 then r else 0).toInt64 = 0 by rw [hf1 hc0, if_pos hc0]; exact lg_self _) b256⟩
    conv => whnf
    refine ⟨cr_le rfl, ?_⟩
    conv => whnf
    exact hK _ _ _ _ _ _ (cr_G_fg (nxt _ _ _ J2 (by omega) (by omega)) ⟨rfl, rfl, rfl, rfl, (show Value.int (nI (6 * (t + 1))) = Value.int (nI (6 * t) + 6) by rw [show 6 * (t + 1) = 6 * t + 6 by omega, show (6 : Int32) = nI 6 from rfl, nI_add]), trivial⟩)
set_option maxHeartbeats 4000000 in
set_option maxRecDepth 20000 in
theorem lw_c2 (hl : l.flags = flags0) (Z : cr_Z0 s0 D ca e0) (hN : cr_No s0) (hx : p.tables.exec = Jvm.exec) (hb : c.code = c_L_law) (hml : c.maxLocals = 7) (hown : s0.vm.findClass "CardRightsLaw" = some m.cls) (hr : meth.sig.returnType = some .boolean) (hlk : meth.locks = false) (hX : va_X b L xs s0 s0.heap) (hbl : b < s0.heap.size) (hL : L ≤ 3072) (ht : 6 * t + 6 ≤ L) (J : lw_J s0 D ca e0 x y ad oa t H) (hk : k ≤ 100 + 6 * t) (hn : n ≤ 200000 + 230 * t) (nxt : ∀ H' k' n', lw_J s0 D ca e0 x y ad oa (t + 1) H' → k' ≤ 100 + 6 * (t + 1) → n' ≤ 200000 + 230 * (t + 1) → cr_G p l e (cr_rm 1400 601024 7293034) s0 m args below meth c s0.heap.size 601024 7293034 lw_q 23 [some (.ref b), some (.ref x), some (.ref y), some (.ref oa), some (.int (nI (6 * (t + 1)))), none, none] [] H' k' n') : cr_G p l e (cr_rm 1400 601024 7293034) s0 m args below meth c s0.heap.size 601024 7293034 lw_q 264 [some (.ref b), some (.ref x), some (.ref y), some (.ref oa), some (.int (nI (6 * t))), none, none] [] H k n := by
  obtain ⟨O, A, G, w, S, hxA, hno, hns, hoa, f0, ho⟩ := J
  subst hxA
  have hbk : H[b]? = s0.heap[b]? := S.1.old b hbl
  refine cr_vc [23] 90 (s_Lw2 Z hx hb hml hown hr hlk rfl hX hL) (fun K hK => ?_)
  conv => whnf
  refine ⟨rfl, hbk, 6 * t + 1, lw_ix _ 1, by omega, ?_⟩
  conv => whnf
  refine ⟨rfl, ?_⟩
  conv => whnf
  obtain ⟨G', code, r, h0, hcode, hc, hm⟩ := sm_person hl Z S (by omega) (xs (6 * t + 1))
  have hW := j_L_person hl Z hN (S.1.c 14 0 rfl) hc hcode ho hoa hno
  refine ⟨21, 6, 230, _, hW, by decide, by omega, by omega, cr_le rfl, fun v9 H1 q9 _ => ?_, fun kd H9 q9 _ => (by have z9 := q9.1; cases z9)⟩
  obtain ⟨qa, fr1, ⟨O1, A1, w1, c1, K1, o1, x1⟩, f1, at1, hf1⟩ := q9
  cases qa
  have hR1 := lw_R S (T := fun q => O q ∨ q = oa) (fun q z hq => z.elim (fun z => S.2.2.2.1 q z hq) (fun z => hns (by rw [← z]; exact hq))) fr1
  have hbk1 : H1[b]? = s0.heap[b]? := c1.old b hbl
  conv => whnf
  refine ⟨cr_le rfl, ?_⟩
  conv => whnf
  refine ⟨rfl, hbk1, 6 * t + 1, lw_ix _ 1, by omega, ?_⟩
  conv => whnf
  refine ⟨rfl, ?_⟩
  conv => whnf
  refine ⟨_, hR1.o, 4, 0, 0, _, hm H1 hR1, by decide, by omega, by omega, cr_le rfl, fun v9 H2 q9 _ => ?_, fun kd H9 q9 _ => (by cases q9.1)⟩
  obtain ⟨q9a, hR2, fr2⟩ := q9
  cases q9a
  have at2 := cr_at_eq at1 (fr2.2 _ hns)
  have J2 : lw_J s0 D ca e0 (A 14 0) y ad oa (t + 1) H2 := lw_step Z S hno hns hoa (cr_at_lt ho) c1 K1 (fun _ _ _ _ => rfl) o1 x1 fr1 at1 hR2 fr2
  conv => whnf
  refine ⟨cr_le rfl, ?_⟩
  conv => whnf
  refine ⟨rfl, ?_⟩
  conv => whnf
  refine ⟨_, hR2.o, 0, 0, 0, _, j_M_thrown hl Z hR2, by decide, by omega, by omega, cr_le rfl, fun v9 H9 q9 _ => ?_, fun kd H9 q9 _ => (by cases q9.1)⟩
  obtain ⟨q9a, q9b⟩ := q9
  cases q9a
  replace q9b := q9b.symm
  subst q9b
  conv => whnf
  refine ⟨fun b295 => ?_, fun b295 => absurd (show nI (G' 0 0) = nI code by rw [h0]) b295⟩
  conv => whnf
  refine ⟨fun b302 => ?_, fun b302 => ?_⟩
  · conv => whnf
    refine ⟨cr_le rfl, ?_⟩
    conv => whnf
    exact hK _ _ _ _ _ _ (cr_G_fg (nxt _ _ _ J2 (by omega) (by omega)) ⟨rfl, rfl, rfl, rfl, (show Value.int (nI (6 * (t + 1))) = Value.int (nI (6 * t) + 6) by rw [show 6 * (t + 1) = 6 * t + 6 by omega, show (6 : Int32) = nI 6 from rfl, nI_add]), trivial⟩)
  · have hc0 : code = 0 := (nb_eq0 (by omega)).mp b302
    conv => whnf
    refine ⟨1, f1, 0, at2, rfl, by decide, by decide, ?_⟩
    conv => whnf
    refine ⟨fun b312 => ?_, fun b312 => absurd (show lg_cmp (f1 0) (if code = 0 then r else 0).toInt64 = 0 by rw [hf1 hc0, if_pos hc0]; exact lg_self _) b312⟩
    conv => whnf
    refine ⟨cr_le rfl, ?_⟩
    conv => whnf
    exact hK _ _ _ _ _ _ (cr_G_fg (nxt _ _ _ J2 (by omega) (by omega)) ⟨rfl, rfl, rfl, rfl, (show Value.int (nI (6 * (t + 1))) = Value.int (nI (6 * t) + 6) by rw [show 6 * (t + 1) = 6 * t + 6 by omega, show (6 : Int32) = nI 6 from rfl, nI_add]), trivial⟩)
set_option maxHeartbeats 4000000 in
set_option maxRecDepth 20000 in
theorem lw_c3 (hl : l.flags = flags0) (Z : cr_Z0 s0 D ca e0) (hN : cr_No s0) (hx : p.tables.exec = Jvm.exec) (hb : c.code = c_L_law) (hml : c.maxLocals = 7) (hown : s0.vm.findClass "CardRightsLaw" = some m.cls) (hr : meth.sig.returnType = some .boolean) (hlk : meth.locks = false) (hX : va_X b L xs s0 s0.heap) (hbl : b < s0.heap.size) (hL : L ≤ 3072) (ht : 6 * t + 6 ≤ L) (J : lw_J s0 D ca e0 x y ad oa t H) (hk : k ≤ 100 + 6 * t) (hn : n ≤ 200000 + 230 * t) (nxt : ∀ H' k' n', lw_J s0 D ca e0 x y ad oa (t + 1) H' → k' ≤ 100 + 6 * (t + 1) → n' ≤ 200000 + 230 * (t + 1) → cr_G p l e (cr_rm 1400 601024 7293034) s0 m args below meth c s0.heap.size 601024 7293034 lw_q 23 [some (.ref b), some (.ref x), some (.ref y), some (.ref oa), some (.int (nI (6 * (t + 1)))), none, none] [] H' k' n') : cr_G p l e (cr_rm 1400 601024 7293034) s0 m args below meth c s0.heap.size 601024 7293034 lw_q 320 [some (.ref b), some (.ref x), some (.ref y), some (.ref oa), some (.int (nI (6 * t))), none, none] [] H k n := by
  obtain ⟨O, A, G, w, S, hxA, hno, hns, hoa, f0, ho⟩ := J
  subst hxA
  have hbk : H[b]? = s0.heap[b]? := S.1.old b hbl
  refine cr_vc [23] 90 (s_Lw3 Z hx hb hml hown hr hlk rfl hX hL) (fun K hK => ?_)
  conv => whnf
  refine ⟨rfl, hbk, 6 * t + 1, lw_ix _ 1, by omega, ?_⟩
  conv => whnf
  refine ⟨rfl, hbk, 6 * t + 2, lw_ix _ 2, by omega, ?_⟩
  conv => whnf
  refine ⟨rfl, ?_⟩
  conv => whnf
  obtain ⟨G', code, r, h0, hcode, hc, hm⟩ := sm_card hl Z S (by omega) (xs (6 * t + 1)) (xs (6 * t + 2))
  have hW := j_L_card hl Z hN (S.1.c 14 0 rfl) hc hcode ho hoa hno
  refine ⟨21, 6, 230, _, hW, by decide, by omega, by omega, cr_le rfl, fun v9 H1 q9 _ => ?_, fun kd H9 q9 _ => (by have z9 := q9.1; cases z9)⟩
  obtain ⟨qa, fr1, ⟨O1, A1, w1, c1, K1, o1, x1⟩, f1, at1, hf1⟩ := q9
  cases qa
  have hR1 := lw_R S (T := fun q => O q ∨ q = oa) (fun q z hq => z.elim (fun z => S.2.2.2.1 q z hq) (fun z => hns (by rw [← z]; exact hq))) fr1
  have hbk1 : H1[b]? = s0.heap[b]? := c1.old b hbl
  conv => whnf
  refine ⟨cr_le rfl, ?_⟩
  conv => whnf
  refine ⟨rfl, hbk1, 6 * t + 1, lw_ix _ 1, by omega, ?_⟩
  conv => whnf
  refine ⟨rfl, hbk1, 6 * t + 2, lw_ix _ 2, by omega, ?_⟩
  conv => whnf
  refine ⟨rfl, ?_⟩
  conv => whnf
  refine ⟨_, hR1.o, 4, 0, 0, _, hm H1 hR1, by decide, by omega, by omega, cr_le rfl, fun v9 H2 q9 _ => ?_, fun kd H9 q9 _ => (by cases q9.1)⟩
  obtain ⟨q9a, hR2, fr2⟩ := q9
  cases q9a
  have at2 := cr_at_eq at1 (fr2.2 _ hns)
  have J2 : lw_J s0 D ca e0 (A 14 0) y ad oa (t + 1) H2 := lw_step Z S hno hns hoa (cr_at_lt ho) c1 K1 (fun _ _ _ _ => rfl) o1 x1 fr1 at1 hR2 fr2
  conv => whnf
  refine ⟨cr_le rfl, ?_⟩
  conv => whnf
  refine ⟨rfl, ?_⟩
  conv => whnf
  refine ⟨_, hR2.o, 0, 0, 0, _, j_M_thrown hl Z hR2, by decide, by omega, by omega, cr_le rfl, fun v9 H9 q9 _ => ?_, fun kd H9 q9 _ => (by cases q9.1)⟩
  obtain ⟨q9a, q9b⟩ := q9
  cases q9a
  replace q9b := q9b.symm
  subst q9b
  conv => whnf
  refine ⟨fun b363 => ?_, fun b363 => absurd (show nI (G' 0 0) = nI code by rw [h0]) b363⟩
  conv => whnf
  refine ⟨fun b370 => ?_, fun b370 => ?_⟩
  · conv => whnf
    refine ⟨cr_le rfl, ?_⟩
    conv => whnf
    exact hK _ _ _ _ _ _ (cr_G_fg (nxt _ _ _ J2 (by omega) (by omega)) ⟨rfl, rfl, rfl, rfl, (show Value.int (nI (6 * (t + 1))) = Value.int (nI (6 * t) + 6) by rw [show 6 * (t + 1) = 6 * t + 6 by omega, show (6 : Int32) = nI 6 from rfl, nI_add]), trivial⟩)
  · have hc0 : code = 0 := (nb_eq0 (by omega)).mp b370
    conv => whnf
    refine ⟨1, f1, 0, at2, rfl, by decide, by decide, ?_⟩
    conv => whnf
    refine ⟨fun b380 => ?_, fun b380 => absurd (show lg_cmp (f1 0) (if code = 0 then r else 0).toInt64 = 0 by rw [hf1 hc0, if_pos hc0]; exact lg_self _) b380⟩
    conv => whnf
    refine ⟨cr_le rfl, ?_⟩
    conv => whnf
    exact hK _ _ _ _ _ _ (cr_G_fg (nxt _ _ _ J2 (by omega) (by omega)) ⟨rfl, rfl, rfl, rfl, (show Value.int (nI (6 * (t + 1))) = Value.int (nI (6 * t) + 6) by rw [show 6 * (t + 1) = 6 * t + 6 by omega, show (6 : Int32) = nI 6 from rfl, nI_add]), trivial⟩)
set_option maxHeartbeats 4000000 in
set_option maxRecDepth 20000 in
theorem lw_c4 (hl : l.flags = flags0) (Z : cr_Z0 s0 D ca e0) (hN : cr_No s0) (hx : p.tables.exec = Jvm.exec) (hb : c.code = c_L_law) (hml : c.maxLocals = 7) (hown : s0.vm.findClass "CardRightsLaw" = some m.cls) (hr : meth.sig.returnType = some .boolean) (hlk : meth.locks = false) (hX : va_X b L xs s0 s0.heap) (hbl : b < s0.heap.size) (hL : L ≤ 3072) (ht : 6 * t + 6 ≤ L) (J : lw_J s0 D ca e0 x y ad oa t H) (hk : k ≤ 100 + 6 * t) (hn : n ≤ 200000 + 230 * t) (nxt : ∀ H' k' n', lw_J s0 D ca e0 x y ad oa (t + 1) H' → k' ≤ 100 + 6 * (t + 1) → n' ≤ 200000 + 230 * (t + 1) → cr_G p l e (cr_rm 1400 601024 7293034) s0 m args below meth c s0.heap.size 601024 7293034 lw_q 23 [some (.ref b), some (.ref x), some (.ref y), some (.ref oa), some (.int (nI (6 * (t + 1)))), none, none] [] H' k' n') : cr_G p l e (cr_rm 1400 601024 7293034) s0 m args below meth c s0.heap.size 601024 7293034 lw_q 388 [some (.ref b), some (.ref x), some (.ref y), some (.ref oa), some (.int (nI (6 * t))), none, none] [] H k n := by
  obtain ⟨O, A, G, w, S, hxA, hno, hns, hoa, f0, ho⟩ := J
  subst hxA
  have hbk : H[b]? = s0.heap[b]? := S.1.old b hbl
  refine cr_vc [23] 90 (s_Lw4 Z hx hb hml hown hr hlk rfl hX hL) (fun K hK => ?_)
  conv => whnf
  refine ⟨rfl, hbk, 6 * t + 1, lw_ix _ 1, by omega, ?_⟩
  conv => whnf
  refine ⟨rfl, hbk, 6 * t + 2, lw_ix _ 2, by omega, ?_⟩
  conv => whnf
  refine ⟨rfl, hbk, 6 * t + 3, lw_ix _ 3, by omega, ?_⟩
  conv => whnf
  refine ⟨rfl, hbk, 6 * t + 4, lw_ix _ 4, by omega, ?_⟩
  conv => whnf
  refine ⟨rfl, hbk, 6 * t + 5, lw_ix _ 5, by omega, ?_⟩
  conv => whnf
  refine ⟨rfl, ?_⟩
  conv => whnf
  obtain ⟨G', code, r, h0, hcode, hc, hm⟩ := sm_right hl Z S (by omega) (xs (6 * t + 1)) (xs (6 * t + 2)) (xs (6 * t + 3)) (xs (6 * t + 4)) (xs (6 * t + 5))
  have hW := j_L_right hl Z hN (S.1.c 14 0 rfl) hc hcode ho hoa hno
  refine ⟨21, 6, 230, _, hW, by decide, by omega, by omega, cr_le rfl, fun v9 H1 q9 _ => ?_, fun kd H9 q9 _ => (by have z9 := q9.1; cases z9)⟩
  obtain ⟨qa, fr1, ⟨O1, A1, w1, c1, K1, o1, x1⟩, f1, at1, hf1⟩ := q9
  cases qa
  have hR1 := lw_R S (T := fun q => O q ∨ q = oa) (fun q z hq => z.elim (fun z => S.2.2.2.1 q z hq) (fun z => hns (by rw [← z]; exact hq))) fr1
  have hbk1 : H1[b]? = s0.heap[b]? := c1.old b hbl
  conv => whnf
  refine ⟨cr_le rfl, ?_⟩
  conv => whnf
  refine ⟨rfl, hbk1, 6 * t + 1, lw_ix _ 1, by omega, ?_⟩
  conv => whnf
  refine ⟨rfl, hbk1, 6 * t + 2, lw_ix _ 2, by omega, ?_⟩
  conv => whnf
  refine ⟨rfl, hbk1, 6 * t + 3, lw_ix _ 3, by omega, ?_⟩
  conv => whnf
  refine ⟨rfl, hbk1, 6 * t + 4, lw_ix _ 4, by omega, ?_⟩
  conv => whnf
  refine ⟨rfl, hbk1, 6 * t + 5, lw_ix _ 5, by omega, ?_⟩
  conv => whnf
  refine ⟨rfl, ?_⟩
  conv => whnf
  refine ⟨_, hR1.o, 4, 0, 0, _, hm H1 hR1, by decide, by omega, by omega, cr_le rfl, fun v9 H2 q9 _ => ?_, fun kd H9 q9 _ => (by cases q9.1)⟩
  obtain ⟨q9a, hR2, fr2⟩ := q9
  cases q9a
  have at2 := cr_at_eq at1 (fr2.2 _ hns)
  have J2 : lw_J s0 D ca e0 (A 14 0) y ad oa (t + 1) H2 := lw_step Z S hno hns hoa (cr_at_lt ho) c1 K1 (fun _ _ _ _ => rfl) o1 x1 fr1 at1 hR2 fr2
  conv => whnf
  refine ⟨cr_le rfl, ?_⟩
  conv => whnf
  refine ⟨rfl, ?_⟩
  conv => whnf
  refine ⟨_, hR2.o, 0, 0, 0, _, j_M_thrown hl Z hR2, by decide, by omega, by omega, cr_le rfl, fun v9 H9 q9 _ => ?_, fun kd H9 q9 _ => (by cases q9.1)⟩
  obtain ⟨q9a, q9b⟩ := q9
  cases q9a
  replace q9b := q9b.symm
  subst q9b
  conv => whnf
  refine ⟨fun b467 => ?_, fun b467 => absurd (show nI (G' 0 0) = nI code by rw [h0]) b467⟩
  conv => whnf
  refine ⟨fun b474 => ?_, fun b474 => ?_⟩
  · conv => whnf
    refine ⟨cr_le rfl, ?_⟩
    conv => whnf
    exact hK _ _ _ _ _ _ (cr_G_fg (nxt _ _ _ J2 (by omega) (by omega)) ⟨rfl, rfl, rfl, rfl, (show Value.int (nI (6 * (t + 1))) = Value.int (nI (6 * t) + 6) by rw [show 6 * (t + 1) = 6 * t + 6 by omega, show (6 : Int32) = nI 6 from rfl, nI_add]), trivial⟩)
  · have hc0 : code = 0 := (nb_eq0 (by omega)).mp b474
    conv => whnf
    refine ⟨1, f1, 0, at2, rfl, by decide, by decide, ?_⟩
    conv => whnf
    refine ⟨fun b484 => ?_, fun b484 => absurd (show lg_cmp (f1 0) (if code = 0 then r else 0).toInt64 = 0 by rw [hf1 hc0, if_pos hc0]; exact lg_self _) b484⟩
    conv => whnf
    refine ⟨cr_le rfl, ?_⟩
    conv => whnf
    exact hK _ _ _ _ _ _ (cr_G_fg (nxt _ _ _ J2 (by omega) (by omega)) ⟨rfl, rfl, rfl, rfl, (show Value.int (nI (6 * (t + 1))) = Value.int (nI (6 * t) + 6) by rw [show 6 * (t + 1) = 6 * t + 6 by omega, show (6 : Int32) = nI 6 from rfl, nI_add]), trivial⟩)
set_option maxHeartbeats 4000000 in
set_option maxRecDepth 20000 in
theorem lw_c5 (hl : l.flags = flags0) (Z : cr_Z0 s0 D ca e0) (hN : cr_No s0) (hx : p.tables.exec = Jvm.exec) (hb : c.code = c_L_law) (hml : c.maxLocals = 7) (hown : s0.vm.findClass "CardRightsLaw" = some m.cls) (hr : meth.sig.returnType = some .boolean) (hlk : meth.locks = false) (hX : va_X b L xs s0 s0.heap) (hbl : b < s0.heap.size) (hL : L ≤ 3072) (ht : 6 * t + 6 ≤ L) (J : lw_J s0 D ca e0 x y ad oa t H) (hk : k ≤ 100 + 6 * t) (hn : n ≤ 200000 + 230 * t) (nxt : ∀ H' k' n', lw_J s0 D ca e0 x y ad oa (t + 1) H' → k' ≤ 100 + 6 * (t + 1) → n' ≤ 200000 + 230 * (t + 1) → cr_G p l e (cr_rm 1400 601024 7293034) s0 m args below meth c s0.heap.size 601024 7293034 lw_q 23 [some (.ref b), some (.ref x), some (.ref y), some (.ref oa), some (.int (nI (6 * (t + 1)))), none, none] [] H' k' n') : cr_G p l e (cr_rm 1400 601024 7293034) s0 m args below meth c s0.heap.size 601024 7293034 lw_q 492 [some (.ref b), some (.ref x), some (.ref y), some (.ref oa), some (.int (nI (6 * t))), none, none] [] H k n := by
  obtain ⟨O, A, G, w, S, hxA, hno, hns, hoa, f0, ho⟩ := J
  subst hxA
  have hbk : H[b]? = s0.heap[b]? := S.1.old b hbl
  refine cr_vc [23] 90 (s_Lw5 Z hx hb hml hown hr hlk rfl hX hL) (fun K hK => ?_)
  conv => whnf
  refine ⟨rfl, hbk, 6 * t + 1, lw_ix _ 1, by omega, ?_⟩
  conv => whnf
  refine ⟨rfl, hbk, 6 * t + 2, lw_ix _ 2, by omega, ?_⟩
  conv => whnf
  refine ⟨rfl, ?_⟩
  conv => whnf
  obtain ⟨G', code, r, h0, hcode, hc, hm⟩ := sm_end hl Z S (by omega) (xs (6 * t + 1)) (xs (6 * t + 2))
  have hW := j_L_end hl Z (S.1.c 14 0 rfl) hc hcode ho hoa hno
  refine ⟨21, 6, 230, _, hW, by decide, by omega, by omega, cr_le rfl, fun v9 H1 q9 _ => ?_, fun kd H9 q9 _ => (by have z9 := q9.1; cases z9)⟩
  obtain ⟨qa, fr1, ⟨O1, A1, w1, c1, K1, o1, x1⟩, f1, at1, hf1⟩ := q9
  cases qa
  have hR1 := lw_R S (T := fun q => O q ∨ q = oa) (fun q z hq => z.elim (fun z => S.2.2.2.1 q z hq) (fun z => hns (by rw [← z]; exact hq))) fr1
  have hbk1 : H1[b]? = s0.heap[b]? := c1.old b hbl
  conv => whnf
  refine ⟨cr_le rfl, ?_⟩
  conv => whnf
  refine ⟨rfl, hbk1, 6 * t + 1, lw_ix _ 1, by omega, ?_⟩
  conv => whnf
  refine ⟨rfl, hbk1, 6 * t + 2, lw_ix _ 2, by omega, ?_⟩
  conv => whnf
  refine ⟨rfl, ?_⟩
  conv => whnf
  refine ⟨_, hR1.o, 4, 0, 0, _, hm H1 hR1, by decide, by omega, by omega, cr_le rfl, fun v9 H2 q9 _ => ?_, fun kd H9 q9 _ => (by cases q9.1)⟩
  obtain ⟨q9a, hR2, fr2⟩ := q9
  cases q9a
  have at2 := cr_at_eq at1 (fr2.2 _ hns)
  have J2 : lw_J s0 D ca e0 (A 14 0) y ad oa (t + 1) H2 := lw_step Z S hno hns hoa (cr_at_lt ho) c1 K1 (fun _ _ _ _ => rfl) o1 x1 fr1 at1 hR2 fr2
  conv => whnf
  refine ⟨cr_le rfl, ?_⟩
  conv => whnf
  refine ⟨rfl, ?_⟩
  conv => whnf
  refine ⟨_, hR2.o, 0, 0, 0, _, j_M_thrown hl Z hR2, by decide, by omega, by omega, cr_le rfl, fun v9 H9 q9 _ => ?_, fun kd H9 q9 _ => (by cases q9.1)⟩
  obtain ⟨q9a, q9b⟩ := q9
  cases q9a
  replace q9b := q9b.symm
  subst q9b
  conv => whnf
  refine ⟨fun b535 => ?_, fun b535 => absurd (show nI (G' 0 0) = nI code by rw [h0]) b535⟩
  conv => whnf
  refine ⟨fun b542 => ?_, fun b542 => ?_⟩
  · conv => whnf
    refine ⟨cr_le rfl, ?_⟩
    conv => whnf
    exact hK _ _ _ _ _ _ (cr_G_fg (nxt _ _ _ J2 (by omega) (by omega)) ⟨rfl, rfl, rfl, rfl, (show Value.int (nI (6 * (t + 1))) = Value.int (nI (6 * t) + 6) by rw [show 6 * (t + 1) = 6 * t + 6 by omega, show (6 : Int32) = nI 6 from rfl, nI_add]), trivial⟩)
  · have hc0 : code = 0 := (nb_eq0 (by omega)).mp b542
    conv => whnf
    refine ⟨1, f1, 0, at2, rfl, by decide, by decide, ?_⟩
    conv => whnf
    refine ⟨fun b552 => ?_, fun b552 => absurd (show lg_cmp (f1 0) (if code = 0 then r else 0).toInt64 = 0 by rw [hf1 hc0, if_pos hc0]; exact lg_self _) b552⟩
    conv => whnf
    refine ⟨cr_le rfl, ?_⟩
    conv => whnf
    exact hK _ _ _ _ _ _ (cr_G_fg (nxt _ _ _ J2 (by omega) (by omega)) ⟨rfl, rfl, rfl, rfl, (show Value.int (nI (6 * (t + 1))) = Value.int (nI (6 * t) + 6) by rw [show 6 * (t + 1) = 6 * t + 6 by omega, show (6 : Int32) = nI 6 from rfl, nI_add]), trivial⟩)
set_option maxHeartbeats 4000000 in
set_option maxRecDepth 20000 in
theorem lw_c6 (hl : l.flags = flags0) (Z : cr_Z0 s0 D ca e0) (hN : cr_No s0) (hx : p.tables.exec = Jvm.exec) (hb : c.code = c_L_law) (hml : c.maxLocals = 7) (hown : s0.vm.findClass "CardRightsLaw" = some m.cls) (hr : meth.sig.returnType = some .boolean) (hlk : meth.locks = false) (hX : va_X b L xs s0 s0.heap) (hbl : b < s0.heap.size) (hL : L ≤ 3072) (ht : 6 * t + 6 ≤ L) (J : lw_J s0 D ca e0 x y ad oa t H) (hk : k ≤ 100 + 6 * t) (hn : n ≤ 200000 + 230 * t) (nxt : ∀ H' k' n', lw_J s0 D ca e0 x y ad oa (t + 1) H' → k' ≤ 100 + 6 * (t + 1) → n' ≤ 200000 + 230 * (t + 1) → cr_G p l e (cr_rm 1400 601024 7293034) s0 m args below meth c s0.heap.size 601024 7293034 lw_q 23 [some (.ref b), some (.ref x), some (.ref y), some (.ref oa), some (.int (nI (6 * (t + 1)))), none, none] [] H' k' n') : cr_G p l e (cr_rm 1400 601024 7293034) s0 m args below meth c s0.heap.size 601024 7293034 lw_q 560 [some (.ref b), some (.ref x), some (.ref y), some (.ref oa), some (.int (nI (6 * t))), none, none] [] H k n := by
  obtain ⟨O, A, G, w, S, hxA, hno, hns, hoa, f0, ho⟩ := J
  subst hxA
  have hbk : H[b]? = s0.heap[b]? := S.1.old b hbl
  refine cr_vc [23] 90 (s_Lw6 Z hx hb hml hown hr hlk rfl hX hL) (fun K hK => ?_)
  conv => whnf
  refine ⟨rfl, hbk, 6 * t + 1, lw_ix _ 1, by omega, ?_⟩
  conv => whnf
  refine ⟨rfl, hbk, 6 * t + 2, lw_ix _ 2, by omega, ?_⟩
  conv => whnf
  refine ⟨rfl, ?_⟩
  conv => whnf
  obtain ⟨G', code, r, h0, hcode, hc, hm⟩ := sm_lost hl Z S (by omega) (xs (6 * t + 1)) (xs (6 * t + 2))
  have hW := j_L_lost hl Z (S.1.c 14 0 rfl) hc hcode ho hoa hno
  refine ⟨21, 6, 230, _, hW, by decide, by omega, by omega, cr_le rfl, fun v9 H1 q9 _ => ?_, fun kd H9 q9 _ => (by have z9 := q9.1; cases z9)⟩
  obtain ⟨qa, fr1, ⟨O1, A1, w1, c1, K1, o1, x1⟩, f1, at1, hf1⟩ := q9
  cases qa
  have hR1 := lw_R S (T := fun q => O q ∨ q = oa) (fun q z hq => z.elim (fun z => S.2.2.2.1 q z hq) (fun z => hns (by rw [← z]; exact hq))) fr1
  have hbk1 : H1[b]? = s0.heap[b]? := c1.old b hbl
  conv => whnf
  refine ⟨cr_le rfl, ?_⟩
  conv => whnf
  refine ⟨rfl, hbk1, 6 * t + 1, lw_ix _ 1, by omega, ?_⟩
  conv => whnf
  refine ⟨rfl, hbk1, 6 * t + 2, lw_ix _ 2, by omega, ?_⟩
  conv => whnf
  refine ⟨rfl, ?_⟩
  conv => whnf
  refine ⟨_, hR1.o, 4, 0, 0, _, hm H1 hR1, by decide, by omega, by omega, cr_le rfl, fun v9 H2 q9 _ => ?_, fun kd H9 q9 _ => (by cases q9.1)⟩
  obtain ⟨q9a, hR2, fr2⟩ := q9
  cases q9a
  have at2 := cr_at_eq at1 (fr2.2 _ hns)
  have J2 : lw_J s0 D ca e0 (A 14 0) y ad oa (t + 1) H2 := lw_step Z S hno hns hoa (cr_at_lt ho) c1 K1 (fun _ _ _ _ => rfl) o1 x1 fr1 at1 hR2 fr2
  conv => whnf
  refine ⟨cr_le rfl, ?_⟩
  conv => whnf
  refine ⟨rfl, ?_⟩
  conv => whnf
  refine ⟨_, hR2.o, 0, 0, 0, _, j_M_thrown hl Z hR2, by decide, by omega, by omega, cr_le rfl, fun v9 H9 q9 _ => ?_, fun kd H9 q9 _ => (by cases q9.1)⟩
  obtain ⟨q9a, q9b⟩ := q9
  cases q9a
  replace q9b := q9b.symm
  subst q9b
  conv => whnf
  refine ⟨fun b603 => ?_, fun b603 => absurd (show nI (G' 0 0) = nI code by rw [h0]) b603⟩
  conv => whnf
  refine ⟨fun b610 => ?_, fun b610 => ?_⟩
  · conv => whnf
    refine ⟨cr_le rfl, ?_⟩
    conv => whnf
    exact hK _ _ _ _ _ _ (cr_G_fg (nxt _ _ _ J2 (by omega) (by omega)) ⟨rfl, rfl, rfl, rfl, (show Value.int (nI (6 * (t + 1))) = Value.int (nI (6 * t) + 6) by rw [show 6 * (t + 1) = 6 * t + 6 by omega, show (6 : Int32) = nI 6 from rfl, nI_add]), trivial⟩)
  · have hc0 : code = 0 := (nb_eq0 (by omega)).mp b610
    conv => whnf
    refine ⟨1, f1, 0, at2, rfl, by decide, by decide, ?_⟩
    conv => whnf
    refine ⟨fun b620 => ?_, fun b620 => absurd (show lg_cmp (f1 0) (if code = 0 then r else 0).toInt64 = 0 by rw [hf1 hc0, if_pos hc0]; exact lg_self _) b620⟩
    conv => whnf
    refine ⟨cr_le rfl, ?_⟩
    conv => whnf
    exact hK _ _ _ _ _ _ (cr_G_fg (nxt _ _ _ J2 (by omega) (by omega)) ⟨rfl, rfl, rfl, rfl, (show Value.int (nI (6 * (t + 1))) = Value.int (nI (6 * t) + 6) by rw [show 6 * (t + 1) = 6 * t + 6 by omega, show (6 : Int32) = nI 6 from rfl, nI_add]), trivial⟩)
set_option maxHeartbeats 4000000 in
set_option maxRecDepth 20000 in
theorem lw_c7 (hl : l.flags = flags0) (Z : cr_Z0 s0 D ca e0) (hN : cr_No s0) (hx : p.tables.exec = Jvm.exec) (hb : c.code = c_L_law) (hml : c.maxLocals = 7) (hown : s0.vm.findClass "CardRightsLaw" = some m.cls) (hr : meth.sig.returnType = some .boolean) (hlk : meth.locks = false) (hX : va_X b L xs s0 s0.heap) (hbl : b < s0.heap.size) (hL : L ≤ 3072) (ht : 6 * t + 6 ≤ L) (J : lw_J s0 D ca e0 x y ad oa t H) (hk : k ≤ 100 + 6 * t) (hn : n ≤ 200000 + 230 * t) (nxt : ∀ H' k' n', lw_J s0 D ca e0 x y ad oa (t + 1) H' → k' ≤ 100 + 6 * (t + 1) → n' ≤ 200000 + 230 * (t + 1) → cr_G p l e (cr_rm 1400 601024 7293034) s0 m args below meth c s0.heap.size 601024 7293034 lw_q 23 [some (.ref b), some (.ref x), some (.ref y), some (.ref oa), some (.int (nI (6 * (t + 1)))), none, none] [] H' k' n') : cr_G p l e (cr_rm 1400 601024 7293034) s0 m args below meth c s0.heap.size 601024 7293034 lw_q 628 [some (.ref b), some (.ref x), some (.ref y), some (.ref oa), some (.int (nI (6 * t))), none, none] [] H k n := by
  obtain ⟨O, A, G, w, S, hxA, hno, hns, hoa, f0, ho⟩ := J
  subst hxA
  have hbk : H[b]? = s0.heap[b]? := S.1.old b hbl
  refine cr_vc [23] 90 (s_Lw7 Z hx hb hml hown hr hlk rfl hX hL) (fun K hK => ?_)
  conv => whnf
  refine ⟨rfl, hbk, 6 * t + 1, lw_ix _ 1, by omega, ?_⟩
  conv => whnf
  refine ⟨rfl, hbk, 6 * t + 2, lw_ix _ 2, by omega, ?_⟩
  conv => whnf
  refine ⟨fun b641 => ?_, fun b641 => ?_⟩
  · conv => whnf
    refine ⟨rfl, ?_⟩
    conv => whnf
    obtain ⟨G', code, r, h0, hcode, hc, hm⟩ := sm_two hl Z S (by omega) (xs (6 * t + 1)) 0 (by decide)
    have hW := j_L_two hl Z (S.1.c 14 0 rfl) hc hcode ho hoa hno
    refine ⟨21, 6, 230, _, hW, by decide, by omega, by omega, cr_le rfl, fun v9 H1 q9 _ => ?_, fun kd H9 q9 _ => (by have z9 := q9.1; cases z9)⟩
    obtain ⟨qa, fr1, ⟨O1, A1, w1, c1, K1, o1, x1⟩, f1, at1, hf1⟩ := q9
    cases qa
    have hR1 := lw_R S (T := fun q => O q ∨ q = oa) (fun q z hq => z.elim (fun z => S.2.2.2.1 q z hq) (fun z => hns (by rw [← z]; exact hq))) fr1
    have hbk1 : H1[b]? = s0.heap[b]? := c1.old b hbl
    conv => whnf
    refine ⟨cr_le rfl, ?_⟩
    conv => whnf
    refine ⟨rfl, hbk1, 6 * t + 1, lw_ix _ 1, by omega, ?_⟩
    conv => whnf
    refine ⟨rfl, hbk1, 6 * t + 2, lw_ix _ 2, by omega, ?_⟩
    conv => whnf
    refine ⟨fun b668 => ?_, fun b668 => absurd b641 b668⟩
    conv => whnf
    refine ⟨rfl, ?_⟩
    conv => whnf
    refine ⟨_, hR1.o, 4, 0, 0, _, hm H1 hR1, by decide, by omega, by omega, cr_le rfl, fun v9 H2 q9 _ => ?_, fun kd H9 q9 _ => (by cases q9.1)⟩
    obtain ⟨q9a, hR2, fr2⟩ := q9
    cases q9a
    have at2 := cr_at_eq at1 (fr2.2 _ hns)
    have J2 : lw_J s0 D ca e0 (A 14 0) y ad oa (t + 1) H2 := lw_step Z S hno hns hoa (cr_at_lt ho) c1 K1 (fun _ _ _ _ => rfl) o1 x1 fr1 at1 hR2 fr2
    conv => whnf
    refine ⟨cr_le rfl, ?_⟩
    conv => whnf
    refine ⟨rfl, ?_⟩
    conv => whnf
    refine ⟨_, hR2.o, 0, 0, 0, _, j_M_thrown hl Z hR2, by decide, by omega, by omega, cr_le rfl, fun v9 H9 q9 _ => ?_, fun kd H9 q9 _ => (by cases q9.1)⟩
    obtain ⟨q9a, q9b⟩ := q9
    cases q9a
    replace q9b := q9b.symm
    subst q9b
    conv => whnf
    refine ⟨fun b687 => ?_, fun b687 => absurd (show nI (G' 0 0) = nI code by rw [h0]) b687⟩
    conv => whnf
    refine ⟨fun b694 => ?_, fun b694 => ?_⟩
    · conv => whnf
      refine ⟨cr_le rfl, ?_⟩
      conv => whnf
      exact hK _ _ _ _ _ _ (cr_G_fg (nxt _ _ _ J2 (by omega) (by omega)) ⟨rfl, rfl, rfl, rfl, (show Value.int (nI (6 * (t + 1))) = Value.int (nI (6 * t) + 6) by rw [show 6 * (t + 1) = 6 * t + 6 by omega, show (6 : Int32) = nI 6 from rfl, nI_add]), trivial⟩)
    · have hc0 : code = 0 := (nb_eq0 (by omega)).mp b694
      conv => whnf
      refine ⟨1, f1, 0, at2, rfl, by decide, by decide, ?_⟩
      conv => whnf
      refine ⟨fun b702 => ?_, fun b702 => ?_⟩
      · conv => whnf
        refine ⟨fun b711 => ?_, fun b711 => absurd (show lg_cmp (f1 0) 0 = 0 by rw [hf1 hc0, if_pos (show r = 0 from by rw [if_pos hc0] at b702; exact b702)]; exact lg_self _) b711⟩
        conv => whnf
        refine ⟨cr_le rfl, ?_⟩
        conv => whnf
        exact hK _ _ _ _ _ _ (cr_G_fg (nxt _ _ _ J2 (by omega) (by omega)) ⟨rfl, rfl, rfl, rfl, (show Value.int (nI (6 * (t + 1))) = Value.int (nI (6 * t) + 6) by rw [show 6 * (t + 1) = 6 * t + 6 by omega, show (6 : Int32) = nI 6 from rfl, nI_add]), trivial⟩)
      · conv => whnf
        refine ⟨fun b711 => ?_, fun b711 => absurd (show lg_cmp (f1 0) 1 = 0 by rw [hf1 hc0, if_neg (show ¬ r = 0 from by rw [if_pos hc0] at b702; exact b702)]; exact lg_self _) b711⟩
        conv => whnf
        refine ⟨cr_le rfl, ?_⟩
        conv => whnf
        exact hK _ _ _ _ _ _ (cr_G_fg (nxt _ _ _ J2 (by omega) (by omega)) ⟨rfl, rfl, rfl, rfl, (show Value.int (nI (6 * (t + 1))) = Value.int (nI (6 * t) + 6) by rw [show 6 * (t + 1) = 6 * t + 6 by omega, show (6 : Int32) = nI 6 from rfl, nI_add]), trivial⟩)
  · conv => whnf
    refine ⟨rfl, ?_⟩
    conv => whnf
    obtain ⟨G', code, r, h0, hcode, hc, hm⟩ := sm_two hl Z S (by omega) (xs (6 * t + 1)) 1 (by decide)
    have hW := j_L_two hl Z (S.1.c 14 0 rfl) hc hcode ho hoa hno
    refine ⟨21, 6, 230, _, hW, by decide, by omega, by omega, cr_le rfl, fun v9 H1 q9 _ => ?_, fun kd H9 q9 _ => (by have z9 := q9.1; cases z9)⟩
    obtain ⟨qa, fr1, ⟨O1, A1, w1, c1, K1, o1, x1⟩, f1, at1, hf1⟩ := q9
    cases qa
    have hR1 := lw_R S (T := fun q => O q ∨ q = oa) (fun q z hq => z.elim (fun z => S.2.2.2.1 q z hq) (fun z => hns (by rw [← z]; exact hq))) fr1
    have hbk1 : H1[b]? = s0.heap[b]? := c1.old b hbl
    conv => whnf
    refine ⟨cr_le rfl, ?_⟩
    conv => whnf
    refine ⟨rfl, hbk1, 6 * t + 1, lw_ix _ 1, by omega, ?_⟩
    conv => whnf
    refine ⟨rfl, hbk1, 6 * t + 2, lw_ix _ 2, by omega, ?_⟩
    conv => whnf
    refine ⟨fun b668 => absurd b668 b641, fun b668 => ?_⟩
    conv => whnf
    refine ⟨rfl, ?_⟩
    conv => whnf
    refine ⟨_, hR1.o, 4, 0, 0, _, hm H1 hR1, by decide, by omega, by omega, cr_le rfl, fun v9 H2 q9 _ => ?_, fun kd H9 q9 _ => (by cases q9.1)⟩
    obtain ⟨q9a, hR2, fr2⟩ := q9
    cases q9a
    have at2 := cr_at_eq at1 (fr2.2 _ hns)
    have J2 : lw_J s0 D ca e0 (A 14 0) y ad oa (t + 1) H2 := lw_step Z S hno hns hoa (cr_at_lt ho) c1 K1 (fun _ _ _ _ => rfl) o1 x1 fr1 at1 hR2 fr2
    conv => whnf
    refine ⟨cr_le rfl, ?_⟩
    conv => whnf
    refine ⟨rfl, ?_⟩
    conv => whnf
    refine ⟨_, hR2.o, 0, 0, 0, _, j_M_thrown hl Z hR2, by decide, by omega, by omega, cr_le rfl, fun v9 H9 q9 _ => ?_, fun kd H9 q9 _ => (by cases q9.1)⟩
    obtain ⟨q9a, q9b⟩ := q9
    cases q9a
    replace q9b := q9b.symm
    subst q9b
    conv => whnf
    refine ⟨fun b687 => ?_, fun b687 => absurd (show nI (G' 0 0) = nI code by rw [h0]) b687⟩
    conv => whnf
    refine ⟨fun b694 => ?_, fun b694 => ?_⟩
    · conv => whnf
      refine ⟨cr_le rfl, ?_⟩
      conv => whnf
      exact hK _ _ _ _ _ _ (cr_G_fg (nxt _ _ _ J2 (by omega) (by omega)) ⟨rfl, rfl, rfl, rfl, (show Value.int (nI (6 * (t + 1))) = Value.int (nI (6 * t) + 6) by rw [show 6 * (t + 1) = 6 * t + 6 by omega, show (6 : Int32) = nI 6 from rfl, nI_add]), trivial⟩)
    · have hc0 : code = 0 := (nb_eq0 (by omega)).mp b694
      conv => whnf
      refine ⟨1, f1, 0, at2, rfl, by decide, by decide, ?_⟩
      conv => whnf
      refine ⟨fun b702 => ?_, fun b702 => ?_⟩
      · conv => whnf
        refine ⟨fun b711 => ?_, fun b711 => absurd (show lg_cmp (f1 0) 0 = 0 by rw [hf1 hc0, if_pos (show r = 0 from by rw [if_pos hc0] at b702; exact b702)]; exact lg_self _) b711⟩
        conv => whnf
        refine ⟨cr_le rfl, ?_⟩
        conv => whnf
        exact hK _ _ _ _ _ _ (cr_G_fg (nxt _ _ _ J2 (by omega) (by omega)) ⟨rfl, rfl, rfl, rfl, (show Value.int (nI (6 * (t + 1))) = Value.int (nI (6 * t) + 6) by rw [show 6 * (t + 1) = 6 * t + 6 by omega, show (6 : Int32) = nI 6 from rfl, nI_add]), trivial⟩)
      · conv => whnf
        refine ⟨fun b711 => ?_, fun b711 => absurd (show lg_cmp (f1 0) 1 = 0 by rw [hf1 hc0, if_neg (show ¬ r = 0 from by rw [if_pos hc0] at b702; exact b702)]; exact lg_self _) b711⟩
        conv => whnf
        refine ⟨cr_le rfl, ?_⟩
        conv => whnf
        exact hK _ _ _ _ _ _ (cr_G_fg (nxt _ _ _ J2 (by omega) (by omega)) ⟨rfl, rfl, rfl, rfl, (show Value.int (nI (6 * (t + 1))) = Value.int (nI (6 * t) + 6) by rw [show 6 * (t + 1) = 6 * t + 6 by omega, show (6 : Int32) = nI 6 from rfl, nI_add]), trivial⟩)
set_option maxHeartbeats 4000000 in
set_option maxRecDepth 20000 in
theorem lw_c8 (hl : l.flags = flags0) (Z : cr_Z0 s0 D ca e0) (hN : cr_No s0) (hx : p.tables.exec = Jvm.exec) (hb : c.code = c_L_law) (hml : c.maxLocals = 7) (hown : s0.vm.findClass "CardRightsLaw" = some m.cls) (hr : meth.sig.returnType = some .boolean) (hlk : meth.locks = false) (hX : va_X b L xs s0 s0.heap) (hbl : b < s0.heap.size) (hL : L ≤ 3072) (ht : 6 * t + 6 ≤ L) (J : lw_J s0 D ca e0 x y ad oa t H) (hk : k ≤ 100 + 6 * t) (hn : n ≤ 200000 + 230 * t) (nxt : ∀ H' k' n', lw_J s0 D ca e0 x y ad oa (t + 1) H' → k' ≤ 100 + 6 * (t + 1) → n' ≤ 200000 + 230 * (t + 1) → cr_G p l e (cr_rm 1400 601024 7293034) s0 m args below meth c s0.heap.size 601024 7293034 lw_q 23 [some (.ref b), some (.ref x), some (.ref y), some (.ref oa), some (.int (nI (6 * (t + 1)))), none, none] [] H' k' n') : cr_G p l e (cr_rm 1400 601024 7293034) s0 m args below meth c s0.heap.size 601024 7293034 lw_q 719 [some (.ref b), some (.ref x), some (.ref y), some (.ref oa), some (.int (nI (6 * t))), none, none] [] H k n := by
  obtain ⟨O, A, G, w, S, hxA, hno, hns, hoa, f0, ho⟩ := J
  subst hxA
  have hbk : H[b]? = s0.heap[b]? := S.1.old b hbl
  refine cr_vc [23] 90 (s_Lw8 Z hx hb hml hown hr hlk rfl hX hL) (fun K hK => ?_)
  conv => whnf
  refine ⟨rfl, hbk, 6 * t + 1, lw_ix _ 1, by omega, ?_⟩
  conv => whnf
  refine ⟨rfl, hbk, 6 * t + 2, lw_ix _ 2, by omega, ?_⟩
  conv => whnf
  refine ⟨rfl, hbk, 6 * t + 3, lw_ix _ 3, by omega, ?_⟩
  conv => whnf
  refine ⟨fun b738 => ?_, fun b738 => ?_⟩
  · conv => whnf
    refine ⟨rfl, ?_⟩
    conv => whnf
    obtain ⟨G', code, r, h0, hcode, hc, hm⟩ := sm_airlock hl Z S (by omega) (xs (6 * t + 1)) (xs (6 * t + 2)) 0 (by decide)
    have hW := j_L_airlock hl Z (S.1.c 14 0 rfl) hc hcode ho hoa hno
    refine ⟨21, 6, 230, _, hW, by decide, by omega, by omega, cr_le rfl, fun v9 H1 q9 _ => ?_, fun kd H9 q9 _ => (by have z9 := q9.1; cases z9)⟩
    obtain ⟨qa, fr1, ⟨O1, A1, w1, c1, K1, o1, x1⟩, f1, at1, hf1⟩ := q9
    cases qa
    have hR1 := lw_R S (T := fun q => O q ∨ q = oa) (fun q z hq => z.elim (fun z => S.2.2.2.1 q z hq) (fun z => hns (by rw [← z]; exact hq))) fr1
    have hbk1 : H1[b]? = s0.heap[b]? := c1.old b hbl
    conv => whnf
    refine ⟨cr_le rfl, ?_⟩
    conv => whnf
    refine ⟨rfl, hbk1, 6 * t + 1, lw_ix _ 1, by omega, ?_⟩
    conv => whnf
    refine ⟨rfl, hbk1, 6 * t + 2, lw_ix _ 2, by omega, ?_⟩
    conv => whnf
    refine ⟨rfl, hbk1, 6 * t + 3, lw_ix _ 3, by omega, ?_⟩
    conv => whnf
    refine ⟨fun b771 => ?_, fun b771 => absurd b738 b771⟩
    conv => whnf
    refine ⟨rfl, ?_⟩
    conv => whnf
    refine ⟨_, hR1.o, 4, 0, 0, _, hm H1 hR1, by decide, by omega, by omega, cr_le rfl, fun v9 H2 q9 _ => ?_, fun kd H9 q9 _ => (by cases q9.1)⟩
    obtain ⟨q9a, hR2, fr2⟩ := q9
    cases q9a
    have at2 := cr_at_eq at1 (fr2.2 _ hns)
    have J2 : lw_J s0 D ca e0 (A 14 0) y ad oa (t + 1) H2 := lw_step Z S hno hns hoa (cr_at_lt ho) c1 K1 (fun _ _ _ _ => rfl) o1 x1 fr1 at1 hR2 fr2
    conv => whnf
    refine ⟨cr_le rfl, ?_⟩
    conv => whnf
    refine ⟨rfl, ?_⟩
    conv => whnf
    refine ⟨_, hR2.o, 0, 0, 0, _, j_M_thrown hl Z hR2, by decide, by omega, by omega, cr_le rfl, fun v9 H9 q9 _ => ?_, fun kd H9 q9 _ => (by cases q9.1)⟩
    obtain ⟨q9a, q9b⟩ := q9
    cases q9a
    replace q9b := q9b.symm
    subst q9b
    conv => whnf
    refine ⟨fun b790 => ?_, fun b790 => absurd (show nI (G' 0 0) = nI code by rw [h0]) b790⟩
    conv => whnf
    refine ⟨fun b797 => ?_, fun b797 => ?_⟩
    · conv => whnf
      refine ⟨cr_le rfl, ?_⟩
      conv => whnf
      exact hK _ _ _ _ _ _ (cr_G_fg (nxt _ _ _ J2 (by omega) (by omega)) ⟨rfl, rfl, rfl, rfl, (show Value.int (nI (6 * (t + 1))) = Value.int (nI (6 * t) + 6) by rw [show 6 * (t + 1) = 6 * t + 6 by omega, show (6 : Int32) = nI 6 from rfl, nI_add]), trivial⟩)
    · have hc0 : code = 0 := (nb_eq0 (by omega)).mp b797
      conv => whnf
      refine ⟨1, f1, 0, at2, rfl, by decide, by decide, ?_⟩
      conv => whnf
      refine ⟨fun b805 => ?_, fun b805 => ?_⟩
      · conv => whnf
        refine ⟨fun b814 => ?_, fun b814 => absurd (show lg_cmp (f1 0) 0 = 0 by rw [hf1 hc0, if_pos (show r = 0 from by rw [if_pos hc0] at b805; exact b805)]; exact lg_self _) b814⟩
        conv => whnf
        refine ⟨cr_le rfl, ?_⟩
        conv => whnf
        exact hK _ _ _ _ _ _ (cr_G_fg (nxt _ _ _ J2 (by omega) (by omega)) ⟨rfl, rfl, rfl, rfl, (show Value.int (nI (6 * (t + 1))) = Value.int (nI (6 * t) + 6) by rw [show 6 * (t + 1) = 6 * t + 6 by omega, show (6 : Int32) = nI 6 from rfl, nI_add]), trivial⟩)
      · conv => whnf
        refine ⟨fun b814 => ?_, fun b814 => absurd (show lg_cmp (f1 0) 1 = 0 by rw [hf1 hc0, if_neg (show ¬ r = 0 from by rw [if_pos hc0] at b805; exact b805)]; exact lg_self _) b814⟩
        conv => whnf
        refine ⟨cr_le rfl, ?_⟩
        conv => whnf
        exact hK _ _ _ _ _ _ (cr_G_fg (nxt _ _ _ J2 (by omega) (by omega)) ⟨rfl, rfl, rfl, rfl, (show Value.int (nI (6 * (t + 1))) = Value.int (nI (6 * t) + 6) by rw [show 6 * (t + 1) = 6 * t + 6 by omega, show (6 : Int32) = nI 6 from rfl, nI_add]), trivial⟩)
  · conv => whnf
    refine ⟨rfl, ?_⟩
    conv => whnf
    obtain ⟨G', code, r, h0, hcode, hc, hm⟩ := sm_airlock hl Z S (by omega) (xs (6 * t + 1)) (xs (6 * t + 2)) 1 (by decide)
    have hW := j_L_airlock hl Z (S.1.c 14 0 rfl) hc hcode ho hoa hno
    refine ⟨21, 6, 230, _, hW, by decide, by omega, by omega, cr_le rfl, fun v9 H1 q9 _ => ?_, fun kd H9 q9 _ => (by have z9 := q9.1; cases z9)⟩
    obtain ⟨qa, fr1, ⟨O1, A1, w1, c1, K1, o1, x1⟩, f1, at1, hf1⟩ := q9
    cases qa
    have hR1 := lw_R S (T := fun q => O q ∨ q = oa) (fun q z hq => z.elim (fun z => S.2.2.2.1 q z hq) (fun z => hns (by rw [← z]; exact hq))) fr1
    have hbk1 : H1[b]? = s0.heap[b]? := c1.old b hbl
    conv => whnf
    refine ⟨cr_le rfl, ?_⟩
    conv => whnf
    refine ⟨rfl, hbk1, 6 * t + 1, lw_ix _ 1, by omega, ?_⟩
    conv => whnf
    refine ⟨rfl, hbk1, 6 * t + 2, lw_ix _ 2, by omega, ?_⟩
    conv => whnf
    refine ⟨rfl, hbk1, 6 * t + 3, lw_ix _ 3, by omega, ?_⟩
    conv => whnf
    refine ⟨fun b771 => absurd b771 b738, fun b771 => ?_⟩
    conv => whnf
    refine ⟨rfl, ?_⟩
    conv => whnf
    refine ⟨_, hR1.o, 4, 0, 0, _, hm H1 hR1, by decide, by omega, by omega, cr_le rfl, fun v9 H2 q9 _ => ?_, fun kd H9 q9 _ => (by cases q9.1)⟩
    obtain ⟨q9a, hR2, fr2⟩ := q9
    cases q9a
    have at2 := cr_at_eq at1 (fr2.2 _ hns)
    have J2 : lw_J s0 D ca e0 (A 14 0) y ad oa (t + 1) H2 := lw_step Z S hno hns hoa (cr_at_lt ho) c1 K1 (fun _ _ _ _ => rfl) o1 x1 fr1 at1 hR2 fr2
    conv => whnf
    refine ⟨cr_le rfl, ?_⟩
    conv => whnf
    refine ⟨rfl, ?_⟩
    conv => whnf
    refine ⟨_, hR2.o, 0, 0, 0, _, j_M_thrown hl Z hR2, by decide, by omega, by omega, cr_le rfl, fun v9 H9 q9 _ => ?_, fun kd H9 q9 _ => (by cases q9.1)⟩
    obtain ⟨q9a, q9b⟩ := q9
    cases q9a
    replace q9b := q9b.symm
    subst q9b
    conv => whnf
    refine ⟨fun b790 => ?_, fun b790 => absurd (show nI (G' 0 0) = nI code by rw [h0]) b790⟩
    conv => whnf
    refine ⟨fun b797 => ?_, fun b797 => ?_⟩
    · conv => whnf
      refine ⟨cr_le rfl, ?_⟩
      conv => whnf
      exact hK _ _ _ _ _ _ (cr_G_fg (nxt _ _ _ J2 (by omega) (by omega)) ⟨rfl, rfl, rfl, rfl, (show Value.int (nI (6 * (t + 1))) = Value.int (nI (6 * t) + 6) by rw [show 6 * (t + 1) = 6 * t + 6 by omega, show (6 : Int32) = nI 6 from rfl, nI_add]), trivial⟩)
    · have hc0 : code = 0 := (nb_eq0 (by omega)).mp b797
      conv => whnf
      refine ⟨1, f1, 0, at2, rfl, by decide, by decide, ?_⟩
      conv => whnf
      refine ⟨fun b805 => ?_, fun b805 => ?_⟩
      · conv => whnf
        refine ⟨fun b814 => ?_, fun b814 => absurd (show lg_cmp (f1 0) 0 = 0 by rw [hf1 hc0, if_pos (show r = 0 from by rw [if_pos hc0] at b805; exact b805)]; exact lg_self _) b814⟩
        conv => whnf
        refine ⟨cr_le rfl, ?_⟩
        conv => whnf
        exact hK _ _ _ _ _ _ (cr_G_fg (nxt _ _ _ J2 (by omega) (by omega)) ⟨rfl, rfl, rfl, rfl, (show Value.int (nI (6 * (t + 1))) = Value.int (nI (6 * t) + 6) by rw [show 6 * (t + 1) = 6 * t + 6 by omega, show (6 : Int32) = nI 6 from rfl, nI_add]), trivial⟩)
      · conv => whnf
        refine ⟨fun b814 => ?_, fun b814 => absurd (show lg_cmp (f1 0) 1 = 0 by rw [hf1 hc0, if_neg (show ¬ r = 0 from by rw [if_pos hc0] at b805; exact b805)]; exact lg_self _) b814⟩
        conv => whnf
        refine ⟨cr_le rfl, ?_⟩
        conv => whnf
        exact hK _ _ _ _ _ _ (cr_G_fg (nxt _ _ _ J2 (by omega) (by omega)) ⟨rfl, rfl, rfl, rfl, (show Value.int (nI (6 * (t + 1))) = Value.int (nI (6 * t) + 6) by rw [show 6 * (t + 1) = 6 * t + 6 by omega, show (6 : Int32) = nI 6 from rfl, nI_add]), trivial⟩)
set_option maxHeartbeats 4000000 in
set_option maxRecDepth 20000 in
theorem lw_c9 (hl : l.flags = flags0) (Z : cr_Z0 s0 D ca e0) (hN : cr_No s0) (hx : p.tables.exec = Jvm.exec) (hb : c.code = c_L_law) (hml : c.maxLocals = 7) (hown : s0.vm.findClass "CardRightsLaw" = some m.cls) (hr : meth.sig.returnType = some .boolean) (hlk : meth.locks = false) (hX : va_X b L xs s0 s0.heap) (hbl : b < s0.heap.size) (hL : L ≤ 3072) (ht : 6 * t + 6 ≤ L) (J : lw_J s0 D ca e0 x y ad oa t H) (hk : k ≤ 100 + 6 * t) (hn : n ≤ 200000 + 230 * t) (nxt : ∀ H' k' n', lw_J s0 D ca e0 x y ad oa (t + 1) H' → k' ≤ 100 + 6 * (t + 1) → n' ≤ 200000 + 230 * (t + 1) → cr_G p l e (cr_rm 1400 601024 7293034) s0 m args below meth c s0.heap.size 601024 7293034 lw_q 23 [some (.ref b), some (.ref x), some (.ref y), some (.ref oa), some (.int (nI (6 * (t + 1)))), none, none] [] H' k' n') : cr_G p l e (cr_rm 1400 601024 7293034) s0 m args below meth c s0.heap.size 601024 7293034 lw_q 822 [some (.ref b), some (.ref x), some (.ref y), some (.ref oa), some (.int (nI (6 * t))), none, none] [] H k n := by
  obtain ⟨O, A, G, w, S, hxA, hno, hns, hoa, f0, ho⟩ := J
  subst hxA
  have hbk : H[b]? = s0.heap[b]? := S.1.old b hbl
  refine cr_vc [23] 90 (s_Lw9 Z hx hb hml hown hr hlk rfl hX hL) (fun K hK => ?_)
  conv => whnf
  refine ⟨rfl, hbk, 6 * t + 1, lw_ix _ 1, by omega, ?_⟩
  conv => whnf
  refine ⟨rfl, hbk, 6 * t + 2, lw_ix _ 2, by omega, ?_⟩
  conv => whnf
  refine ⟨fun b835 => ?_, fun b835 => ?_⟩
  · conv => whnf
    refine ⟨rfl, hbk, 6 * t + 3, lw_ix _ 3, by omega, ?_⟩
    conv => whnf
    refine ⟨rfl, ?_⟩
    conv => whnf
    obtain ⟨G', code, r, h0, hcode, hc, hm⟩ := sm_state hl Z S (by omega) (xs (6 * t + 1)) 0 (by decide) (xs (6 * t + 3))
    have hW := j_L_state hl Z (S.1.c 14 0 rfl) hc hcode ho hoa hno
    refine ⟨21, 6, 230, _, hW, by decide, by omega, by omega, cr_le rfl, fun v9 H1 q9 _ => ?_, fun kd H9 q9 _ => (by have z9 := q9.1; cases z9)⟩
    obtain ⟨qa, fr1, ⟨O1, A1, w1, c1, K1, o1, x1⟩, f1, at1, hf1⟩ := q9
    cases qa
    have hR1 := lw_R S (T := fun q => O q ∨ q = oa) (fun q z hq => z.elim (fun z => S.2.2.2.1 q z hq) (fun z => hns (by rw [← z]; exact hq))) fr1
    have hbk1 : H1[b]? = s0.heap[b]? := c1.old b hbl
    conv => whnf
    refine ⟨cr_le rfl, ?_⟩
    conv => whnf
    refine ⟨rfl, hbk1, 6 * t + 1, lw_ix _ 1, by omega, ?_⟩
    conv => whnf
    refine ⟨rfl, hbk1, 6 * t + 2, lw_ix _ 2, by omega, ?_⟩
    conv => whnf
    refine ⟨fun b868 => ?_, fun b868 => absurd b835 b868⟩
    conv => whnf
    refine ⟨rfl, hbk1, 6 * t + 3, lw_ix _ 3, by omega, ?_⟩
    conv => whnf
    refine ⟨rfl, ?_⟩
    conv => whnf
    refine ⟨_, hR1.o, 4, 0, 0, _, hm H1 hR1, by decide, by omega, by omega, cr_le rfl, fun v9 H2 q9 _ => ?_, fun kd H9 q9 _ => (by cases q9.1)⟩
    obtain ⟨q9a, hR2, fr2⟩ := q9
    cases q9a
    have at2 := cr_at_eq at1 (fr2.2 _ hns)
    have J2 : lw_J s0 D ca e0 (A 14 0) y ad oa (t + 1) H2 := lw_step Z S hno hns hoa (cr_at_lt ho) c1 K1 (fun _ _ _ _ => rfl) o1 x1 fr1 at1 hR2 fr2
    conv => whnf
    refine ⟨cr_le rfl, ?_⟩
    conv => whnf
    refine ⟨rfl, ?_⟩
    conv => whnf
    refine ⟨_, hR2.o, 0, 0, 0, _, j_M_thrown hl Z hR2, by decide, by omega, by omega, cr_le rfl, fun v9 H9 q9 _ => ?_, fun kd H9 q9 _ => (by cases q9.1)⟩
    obtain ⟨q9a, q9b⟩ := q9
    cases q9a
    replace q9b := q9b.symm
    subst q9b
    conv => whnf
    refine ⟨fun b893 => ?_, fun b893 => absurd (show nI (G' 0 0) = nI code by rw [h0]) b893⟩
    conv => whnf
    refine ⟨fun b900 => ?_, fun b900 => ?_⟩
    · conv => whnf
      refine ⟨cr_le rfl, ?_⟩
      conv => whnf
      exact hK _ _ _ _ _ _ (cr_G_fg (nxt _ _ _ J2 (by omega) (by omega)) ⟨rfl, rfl, rfl, rfl, (show Value.int (nI (6 * (t + 1))) = Value.int (nI (6 * t) + 6) by rw [show 6 * (t + 1) = 6 * t + 6 by omega, show (6 : Int32) = nI 6 from rfl, nI_add]), trivial⟩)
    · have hc0 : code = 0 := (nb_eq0 (by omega)).mp b900
      conv => whnf
      refine ⟨1, f1, 0, at2, rfl, by decide, by decide, ?_⟩
      conv => whnf
      refine ⟨fun b910 => ?_, fun b910 => absurd (show lg_cmp (f1 0) (if code = 0 then r else 0).toInt64 = 0 by rw [hf1 hc0, if_pos hc0]; exact lg_self _) b910⟩
      conv => whnf
      refine ⟨cr_le rfl, ?_⟩
      conv => whnf
      exact hK _ _ _ _ _ _ (cr_G_fg (nxt _ _ _ J2 (by omega) (by omega)) ⟨rfl, rfl, rfl, rfl, (show Value.int (nI (6 * (t + 1))) = Value.int (nI (6 * t) + 6) by rw [show 6 * (t + 1) = 6 * t + 6 by omega, show (6 : Int32) = nI 6 from rfl, nI_add]), trivial⟩)
  · conv => whnf
    refine ⟨rfl, hbk, 6 * t + 3, lw_ix _ 3, by omega, ?_⟩
    conv => whnf
    refine ⟨rfl, ?_⟩
    conv => whnf
    obtain ⟨G', code, r, h0, hcode, hc, hm⟩ := sm_state hl Z S (by omega) (xs (6 * t + 1)) 1 (by decide) (xs (6 * t + 3))
    have hW := j_L_state hl Z (S.1.c 14 0 rfl) hc hcode ho hoa hno
    refine ⟨21, 6, 230, _, hW, by decide, by omega, by omega, cr_le rfl, fun v9 H1 q9 _ => ?_, fun kd H9 q9 _ => (by have z9 := q9.1; cases z9)⟩
    obtain ⟨qa, fr1, ⟨O1, A1, w1, c1, K1, o1, x1⟩, f1, at1, hf1⟩ := q9
    cases qa
    have hR1 := lw_R S (T := fun q => O q ∨ q = oa) (fun q z hq => z.elim (fun z => S.2.2.2.1 q z hq) (fun z => hns (by rw [← z]; exact hq))) fr1
    have hbk1 : H1[b]? = s0.heap[b]? := c1.old b hbl
    conv => whnf
    refine ⟨cr_le rfl, ?_⟩
    conv => whnf
    refine ⟨rfl, hbk1, 6 * t + 1, lw_ix _ 1, by omega, ?_⟩
    conv => whnf
    refine ⟨rfl, hbk1, 6 * t + 2, lw_ix _ 2, by omega, ?_⟩
    conv => whnf
    refine ⟨fun b868 => absurd b868 b835, fun b868 => ?_⟩
    conv => whnf
    refine ⟨rfl, hbk1, 6 * t + 3, lw_ix _ 3, by omega, ?_⟩
    conv => whnf
    refine ⟨rfl, ?_⟩
    conv => whnf
    refine ⟨_, hR1.o, 4, 0, 0, _, hm H1 hR1, by decide, by omega, by omega, cr_le rfl, fun v9 H2 q9 _ => ?_, fun kd H9 q9 _ => (by cases q9.1)⟩
    obtain ⟨q9a, hR2, fr2⟩ := q9
    cases q9a
    have at2 := cr_at_eq at1 (fr2.2 _ hns)
    have J2 : lw_J s0 D ca e0 (A 14 0) y ad oa (t + 1) H2 := lw_step Z S hno hns hoa (cr_at_lt ho) c1 K1 (fun _ _ _ _ => rfl) o1 x1 fr1 at1 hR2 fr2
    conv => whnf
    refine ⟨cr_le rfl, ?_⟩
    conv => whnf
    refine ⟨rfl, ?_⟩
    conv => whnf
    refine ⟨_, hR2.o, 0, 0, 0, _, j_M_thrown hl Z hR2, by decide, by omega, by omega, cr_le rfl, fun v9 H9 q9 _ => ?_, fun kd H9 q9 _ => (by cases q9.1)⟩
    obtain ⟨q9a, q9b⟩ := q9
    cases q9a
    replace q9b := q9b.symm
    subst q9b
    conv => whnf
    refine ⟨fun b893 => ?_, fun b893 => absurd (show nI (G' 0 0) = nI code by rw [h0]) b893⟩
    conv => whnf
    refine ⟨fun b900 => ?_, fun b900 => ?_⟩
    · conv => whnf
      refine ⟨cr_le rfl, ?_⟩
      conv => whnf
      exact hK _ _ _ _ _ _ (cr_G_fg (nxt _ _ _ J2 (by omega) (by omega)) ⟨rfl, rfl, rfl, rfl, (show Value.int (nI (6 * (t + 1))) = Value.int (nI (6 * t) + 6) by rw [show 6 * (t + 1) = 6 * t + 6 by omega, show (6 : Int32) = nI 6 from rfl, nI_add]), trivial⟩)
    · have hc0 : code = 0 := (nb_eq0 (by omega)).mp b900
      conv => whnf
      refine ⟨1, f1, 0, at2, rfl, by decide, by decide, ?_⟩
      conv => whnf
      refine ⟨fun b910 => ?_, fun b910 => absurd (show lg_cmp (f1 0) (if code = 0 then r else 0).toInt64 = 0 by rw [hf1 hc0, if_pos hc0]; exact lg_self _) b910⟩
      conv => whnf
      refine ⟨cr_le rfl, ?_⟩
      conv => whnf
      exact hK _ _ _ _ _ _ (cr_G_fg (nxt _ _ _ J2 (by omega) (by omega)) ⟨rfl, rfl, rfl, rfl, (show Value.int (nI (6 * (t + 1))) = Value.int (nI (6 * t) + 6) by rw [show 6 * (t + 1) = 6 * t + 6 by omega, show (6 : Int32) = nI 6 from rfl, nI_add]), trivial⟩)
set_option maxHeartbeats 4000000 in
set_option maxRecDepth 20000 in
theorem lw_c10 (hl : l.flags = flags0) (Z : cr_Z0 s0 D ca e0) (hN : cr_No s0) (hx : p.tables.exec = Jvm.exec) (hb : c.code = c_L_law) (hml : c.maxLocals = 7) (hown : s0.vm.findClass "CardRightsLaw" = some m.cls) (hr : meth.sig.returnType = some .boolean) (hlk : meth.locks = false) (hX : va_X b L xs s0 s0.heap) (hbl : b < s0.heap.size) (hL : L ≤ 3072) (ht : 6 * t + 6 ≤ L) (J : lw_J s0 D ca e0 x y ad oa t H) (hk : k ≤ 100 + 6 * t) (hn : n ≤ 200000 + 230 * t) (nxt : ∀ H' k' n', lw_J s0 D ca e0 x y ad oa (t + 1) H' → k' ≤ 100 + 6 * (t + 1) → n' ≤ 200000 + 230 * (t + 1) → cr_G p l e (cr_rm 1400 601024 7293034) s0 m args below meth c s0.heap.size 601024 7293034 lw_q 23 [some (.ref b), some (.ref x), some (.ref y), some (.ref oa), some (.int (nI (6 * (t + 1)))), none, none] [] H' k' n') : cr_G p l e (cr_rm 1400 601024 7293034) s0 m args below meth c s0.heap.size 601024 7293034 lw_q 918 [some (.ref b), some (.ref x), some (.ref y), some (.ref oa), some (.int (nI (6 * t))), none, none] [] H k n := by
  obtain ⟨O, A, G, w, S, hxA, hno, hns, hoa, f0, ho⟩ := J
  subst hxA
  have hbk : H[b]? = s0.heap[b]? := S.1.old b hbl
  refine cr_vc [23] 90 (s_Lw10 Z hx hb hml hown hr hlk rfl hX hL) (fun K hK => ?_)
  conv => whnf
  refine ⟨rfl, hbk, 6 * t + 1, lw_ix _ 1, by omega, ?_⟩
  conv => whnf
  refine ⟨rfl, hbk, 6 * t + 2, lw_ix _ 2, by omega, ?_⟩
  conv => whnf
  refine ⟨fun b931 => ?_, fun b931 => ?_⟩
  · conv => whnf
    refine ⟨rfl, ?_⟩
    conv => whnf
    obtain ⟨G', code, r, h0, hcode, hc, hm⟩ := sm_off hl Z S (by omega) (xs (6 * t + 1)) 0 (by decide)
    have hW := j_L_off hl Z (S.1.c 14 0 rfl) hc hcode ho hoa hno
    refine ⟨21, 6, 230, _, hW, by decide, by omega, by omega, cr_le rfl, fun v9 H1 q9 _ => ?_, fun kd H9 q9 _ => (by have z9 := q9.1; cases z9)⟩
    obtain ⟨qa, fr1, ⟨O1, A1, w1, c1, K1, o1, x1⟩, f1, at1, hf1⟩ := q9
    cases qa
    have hR1 := lw_R S (T := fun q => O q ∨ q = oa) (fun q z hq => z.elim (fun z => S.2.2.2.1 q z hq) (fun z => hns (by rw [← z]; exact hq))) fr1
    have hbk1 : H1[b]? = s0.heap[b]? := c1.old b hbl
    conv => whnf
    refine ⟨cr_le rfl, ?_⟩
    conv => whnf
    refine ⟨rfl, hbk1, 6 * t + 1, lw_ix _ 1, by omega, ?_⟩
    conv => whnf
    refine ⟨rfl, hbk1, 6 * t + 2, lw_ix _ 2, by omega, ?_⟩
    conv => whnf
    refine ⟨fun b958 => ?_, fun b958 => absurd b931 b958⟩
    conv => whnf
    refine ⟨rfl, ?_⟩
    conv => whnf
    refine ⟨_, hR1.o, 4, 0, 0, _, hm H1 hR1, by decide, by omega, by omega, cr_le rfl, fun v9 H2 q9 _ => ?_, fun kd H9 q9 _ => (by cases q9.1)⟩
    obtain ⟨q9a, hR2, fr2⟩ := q9
    cases q9a
    have at2 := cr_at_eq at1 (fr2.2 _ hns)
    have J2 : lw_J s0 D ca e0 (A 14 0) y ad oa (t + 1) H2 := lw_step Z S hno hns hoa (cr_at_lt ho) c1 K1 (fun _ _ _ _ => rfl) o1 x1 fr1 at1 hR2 fr2
    conv => whnf
    refine ⟨cr_le rfl, ?_⟩
    conv => whnf
    refine ⟨rfl, ?_⟩
    conv => whnf
    refine ⟨_, hR2.o, 0, 0, 0, _, j_M_thrown hl Z hR2, by decide, by omega, by omega, cr_le rfl, fun v9 H9 q9 _ => ?_, fun kd H9 q9 _ => (by cases q9.1)⟩
    obtain ⟨q9a, q9b⟩ := q9
    cases q9a
    replace q9b := q9b.symm
    subst q9b
    conv => whnf
    refine ⟨fun b977 => ?_, fun b977 => absurd (show nI (G' 0 0) = nI code by rw [h0]) b977⟩
    conv => whnf
    refine ⟨fun b984 => ?_, fun b984 => ?_⟩
    · conv => whnf
      refine ⟨cr_le rfl, ?_⟩
      conv => whnf
      exact hK _ _ _ _ _ _ (cr_G_fg (nxt _ _ _ J2 (by omega) (by omega)) ⟨rfl, rfl, rfl, rfl, (show Value.int (nI (6 * (t + 1))) = Value.int (nI (6 * t) + 6) by rw [show 6 * (t + 1) = 6 * t + 6 by omega, show (6 : Int32) = nI 6 from rfl, nI_add]), trivial⟩)
    · have hc0 : code = 0 := (nb_eq0 (by omega)).mp b984
      conv => whnf
      refine ⟨1, f1, 0, at2, rfl, by decide, by decide, ?_⟩
      conv => whnf
      refine ⟨fun b994 => ?_, fun b994 => absurd (show lg_cmp (f1 0) (if code = 0 then r else 0).toInt64 = 0 by rw [hf1 hc0, if_pos hc0]; exact lg_self _) b994⟩
      conv => whnf
      refine ⟨cr_le rfl, ?_⟩
      conv => whnf
      exact hK _ _ _ _ _ _ (cr_G_fg (nxt _ _ _ J2 (by omega) (by omega)) ⟨rfl, rfl, rfl, rfl, (show Value.int (nI (6 * (t + 1))) = Value.int (nI (6 * t) + 6) by rw [show 6 * (t + 1) = 6 * t + 6 by omega, show (6 : Int32) = nI 6 from rfl, nI_add]), trivial⟩)
  · conv => whnf
    refine ⟨rfl, ?_⟩
    conv => whnf
    obtain ⟨G', code, r, h0, hcode, hc, hm⟩ := sm_off hl Z S (by omega) (xs (6 * t + 1)) 1 (by decide)
    have hW := j_L_off hl Z (S.1.c 14 0 rfl) hc hcode ho hoa hno
    refine ⟨21, 6, 230, _, hW, by decide, by omega, by omega, cr_le rfl, fun v9 H1 q9 _ => ?_, fun kd H9 q9 _ => (by have z9 := q9.1; cases z9)⟩
    obtain ⟨qa, fr1, ⟨O1, A1, w1, c1, K1, o1, x1⟩, f1, at1, hf1⟩ := q9
    cases qa
    have hR1 := lw_R S (T := fun q => O q ∨ q = oa) (fun q z hq => z.elim (fun z => S.2.2.2.1 q z hq) (fun z => hns (by rw [← z]; exact hq))) fr1
    have hbk1 : H1[b]? = s0.heap[b]? := c1.old b hbl
    conv => whnf
    refine ⟨cr_le rfl, ?_⟩
    conv => whnf
    refine ⟨rfl, hbk1, 6 * t + 1, lw_ix _ 1, by omega, ?_⟩
    conv => whnf
    refine ⟨rfl, hbk1, 6 * t + 2, lw_ix _ 2, by omega, ?_⟩
    conv => whnf
    refine ⟨fun b958 => absurd b958 b931, fun b958 => ?_⟩
    conv => whnf
    refine ⟨rfl, ?_⟩
    conv => whnf
    refine ⟨_, hR1.o, 4, 0, 0, _, hm H1 hR1, by decide, by omega, by omega, cr_le rfl, fun v9 H2 q9 _ => ?_, fun kd H9 q9 _ => (by cases q9.1)⟩
    obtain ⟨q9a, hR2, fr2⟩ := q9
    cases q9a
    have at2 := cr_at_eq at1 (fr2.2 _ hns)
    have J2 : lw_J s0 D ca e0 (A 14 0) y ad oa (t + 1) H2 := lw_step Z S hno hns hoa (cr_at_lt ho) c1 K1 (fun _ _ _ _ => rfl) o1 x1 fr1 at1 hR2 fr2
    conv => whnf
    refine ⟨cr_le rfl, ?_⟩
    conv => whnf
    refine ⟨rfl, ?_⟩
    conv => whnf
    refine ⟨_, hR2.o, 0, 0, 0, _, j_M_thrown hl Z hR2, by decide, by omega, by omega, cr_le rfl, fun v9 H9 q9 _ => ?_, fun kd H9 q9 _ => (by cases q9.1)⟩
    obtain ⟨q9a, q9b⟩ := q9
    cases q9a
    replace q9b := q9b.symm
    subst q9b
    conv => whnf
    refine ⟨fun b977 => ?_, fun b977 => absurd (show nI (G' 0 0) = nI code by rw [h0]) b977⟩
    conv => whnf
    refine ⟨fun b984 => ?_, fun b984 => ?_⟩
    · conv => whnf
      refine ⟨cr_le rfl, ?_⟩
      conv => whnf
      exact hK _ _ _ _ _ _ (cr_G_fg (nxt _ _ _ J2 (by omega) (by omega)) ⟨rfl, rfl, rfl, rfl, (show Value.int (nI (6 * (t + 1))) = Value.int (nI (6 * t) + 6) by rw [show 6 * (t + 1) = 6 * t + 6 by omega, show (6 : Int32) = nI 6 from rfl, nI_add]), trivial⟩)
    · have hc0 : code = 0 := (nb_eq0 (by omega)).mp b984
      conv => whnf
      refine ⟨1, f1, 0, at2, rfl, by decide, by decide, ?_⟩
      conv => whnf
      refine ⟨fun b994 => ?_, fun b994 => absurd (show lg_cmp (f1 0) (if code = 0 then r else 0).toInt64 = 0 by rw [hf1 hc0, if_pos hc0]; exact lg_self _) b994⟩
      conv => whnf
      refine ⟨cr_le rfl, ?_⟩
      conv => whnf
      exact hK _ _ _ _ _ _ (cr_G_fg (nxt _ _ _ J2 (by omega) (by omega)) ⟨rfl, rfl, rfl, rfl, (show Value.int (nI (6 * (t + 1))) = Value.int (nI (6 * t) + 6) by rw [show 6 * (t + 1) = 6 * t + 6 by omega, show (6 : Int32) = nI 6 from rfl, nI_add]), trivial⟩)
set_option maxHeartbeats 4000000 in
set_option maxRecDepth 20000 in
theorem lw_c11 (hl : l.flags = flags0) (Z : cr_Z0 s0 D ca e0) (hN : cr_No s0) (hx : p.tables.exec = Jvm.exec) (hb : c.code = c_L_law) (hml : c.maxLocals = 7) (hown : s0.vm.findClass "CardRightsLaw" = some m.cls) (hr : meth.sig.returnType = some .boolean) (hlk : meth.locks = false) (hX : va_X b L xs s0 s0.heap) (hbl : b < s0.heap.size) (hL : L ≤ 3072) (ht : 6 * t + 6 ≤ L) (J : lw_J s0 D ca e0 x y ad oa t H) (hk : k ≤ 100 + 6 * t) (hn : n ≤ 200000 + 230 * t) (nxt : ∀ H' k' n', lw_J s0 D ca e0 x y ad oa (t + 1) H' → k' ≤ 100 + 6 * (t + 1) → n' ≤ 200000 + 230 * (t + 1) → cr_G p l e (cr_rm 1400 601024 7293034) s0 m args below meth c s0.heap.size 601024 7293034 lw_q 23 [some (.ref b), some (.ref x), some (.ref y), some (.ref oa), some (.int (nI (6 * (t + 1)))), none, none] [] H' k' n') : cr_G p l e (cr_rm 1400 601024 7293034) s0 m args below meth c s0.heap.size 601024 7293034 lw_q 1002 [some (.ref b), some (.ref x), some (.ref y), some (.ref oa), some (.int (nI (6 * t))), none, none] [] H k n := by
  obtain ⟨O, A, G, w, S, hxA, hno, hns, hoa, f0, ho⟩ := J
  subst hxA
  have hbk : H[b]? = s0.heap[b]? := S.1.old b hbl
  refine cr_vc [23] 90 (s_Lw11 Z hx hb hml hown hr hlk rfl hX hL) (fun K hK => ?_)
  conv => whnf
  refine ⟨rfl, hbk, 6 * t + 1, lw_ix _ 1, by omega, ?_⟩
  conv => whnf
  refine ⟨rfl, hbk, 6 * t + 2, lw_ix _ 2, by omega, ?_⟩
  conv => whnf
  refine ⟨rfl, hbk, 6 * t + 3, lw_ix _ 3, by omega, ?_⟩
  conv => whnf
  refine ⟨rfl, hbk, 6 * t + 4, lw_ix _ 4, by omega, ?_⟩
  conv => whnf
  refine ⟨rfl, ?_⟩
  conv => whnf
  obtain ⟨G', code, r, h0, hcode, hc, hm⟩ := sm_asks hl Z S (by omega) (xs (6 * t + 1)) (xs (6 * t + 2)) (xs (6 * t + 3)) (xs (6 * t + 4))
  have hW := j_L_asks hl Z hN (S.1.c 14 0 rfl) hc hcode ho hoa hno
  refine ⟨21, 6, 230, _, hW, by decide, by omega, by omega, cr_le rfl, fun v9 H1 q9 _ => ?_, fun kd H9 q9 _ => (by have z9 := q9.1; cases z9)⟩
  obtain ⟨qa, fr1, ⟨O1, A1, w1, c1, K1, o1, x1⟩, f1, at1, hf1⟩ := q9
  cases qa
  have hR1 := lw_R S (T := fun q => O q ∨ q = oa) (fun q z hq => z.elim (fun z => S.2.2.2.1 q z hq) (fun z => hns (by rw [← z]; exact hq))) fr1
  have hbk1 : H1[b]? = s0.heap[b]? := c1.old b hbl
  conv => whnf
  refine ⟨cr_le rfl, ?_⟩
  conv => whnf
  refine ⟨rfl, hbk1, 6 * t + 1, lw_ix _ 1, by omega, ?_⟩
  conv => whnf
  refine ⟨rfl, hbk1, 6 * t + 2, lw_ix _ 2, by omega, ?_⟩
  conv => whnf
  refine ⟨rfl, hbk1, 6 * t + 3, lw_ix _ 3, by omega, ?_⟩
  conv => whnf
  refine ⟨rfl, hbk1, 6 * t + 4, lw_ix _ 4, by omega, ?_⟩
  conv => whnf
  refine ⟨rfl, ?_⟩
  conv => whnf
  refine ⟨_, hR1.o, 4, 0, 0, _, hm H1 hR1, by decide, by omega, by omega, cr_le rfl, fun v9 H2 q9 _ => ?_, fun kd H9 q9 _ => (by cases q9.1)⟩
  obtain ⟨q9a, hR2, fr2⟩ := q9
  cases q9a
  have at2 := cr_at_eq at1 (fr2.2 _ hns)
  have J2 : lw_J s0 D ca e0 (A 14 0) y ad oa (t + 1) H2 := lw_step Z S hno hns hoa (cr_at_lt ho) c1 K1 (fun _ _ _ _ => rfl) o1 x1 fr1 at1 hR2 fr2
  conv => whnf
  refine ⟨cr_le rfl, ?_⟩
  conv => whnf
  refine ⟨rfl, ?_⟩
  conv => whnf
  refine ⟨_, hR2.o, 0, 0, 0, _, j_M_thrown hl Z hR2, by decide, by omega, by omega, cr_le rfl, fun v9 H9 q9 _ => ?_, fun kd H9 q9 _ => (by cases q9.1)⟩
  obtain ⟨q9a, q9b⟩ := q9
  cases q9a
  replace q9b := q9b.symm
  subst q9b
  conv => whnf
  refine ⟨fun b1069 => ?_, fun b1069 => absurd (show nI (G' 0 0) = nI code by rw [h0]) b1069⟩
  conv => whnf
  refine ⟨fun b1076 => ?_, fun b1076 => ?_⟩
  · conv => whnf
    refine ⟨cr_le rfl, ?_⟩
    conv => whnf
    exact hK _ _ _ _ _ _ (cr_G_fg (nxt _ _ _ J2 (by omega) (by omega)) ⟨rfl, rfl, rfl, rfl, (show Value.int (nI (6 * (t + 1))) = Value.int (nI (6 * t) + 6) by rw [show 6 * (t + 1) = 6 * t + 6 by omega, show (6 : Int32) = nI 6 from rfl, nI_add]), trivial⟩)
  · have hc0 : code = 0 := (nb_eq0 (by omega)).mp b1076
    conv => whnf
    refine ⟨1, f1, 0, at2, rfl, by decide, by decide, ?_⟩
    conv => whnf
    refine ⟨fun b1086 => ?_, fun b1086 => absurd (show lg_cmp (f1 0) (if code = 0 then r else 0).toInt64 = 0 by rw [hf1 hc0, if_pos hc0]; exact lg_self _) b1086⟩
    conv => whnf
    refine ⟨cr_le rfl, ?_⟩
    conv => whnf
    exact hK _ _ _ _ _ _ (cr_G_fg (nxt _ _ _ J2 (by omega) (by omega)) ⟨rfl, rfl, rfl, rfl, (show Value.int (nI (6 * (t + 1))) = Value.int (nI (6 * t) + 6) by rw [show 6 * (t + 1) = 6 * t + 6 by omega, show (6 : Int32) = nI 6 from rfl, nI_add]), trivial⟩)
set_option maxHeartbeats 4000000 in
set_option maxRecDepth 20000 in
theorem lw_c12 (hl : l.flags = flags0) (Z : cr_Z0 s0 D ca e0) (hN : cr_No s0) (hx : p.tables.exec = Jvm.exec) (hb : c.code = c_L_law) (hml : c.maxLocals = 7) (hown : s0.vm.findClass "CardRightsLaw" = some m.cls) (hr : meth.sig.returnType = some .boolean) (hlk : meth.locks = false) (hX : va_X b L xs s0 s0.heap) (hbl : b < s0.heap.size) (hL : L ≤ 3072) (ht : 6 * t + 6 ≤ L) (J : lw_J s0 D ca e0 x y ad oa t H) (hk : k ≤ 100 + 6 * t) (hn : n ≤ 200000 + 230 * t) (nxt : ∀ H' k' n', lw_J s0 D ca e0 x y ad oa (t + 1) H' → k' ≤ 100 + 6 * (t + 1) → n' ≤ 200000 + 230 * (t + 1) → cr_G p l e (cr_rm 1400 601024 7293034) s0 m args below meth c s0.heap.size 601024 7293034 lw_q 23 [some (.ref b), some (.ref x), some (.ref y), some (.ref oa), some (.int (nI (6 * (t + 1)))), none, none] [] H' k' n') : cr_G p l e (cr_rm 1400 601024 7293034) s0 m args below meth c s0.heap.size 601024 7293034 lw_q 1094 [some (.ref b), some (.ref x), some (.ref y), some (.ref oa), some (.int (nI (6 * t))), none, none] [] H k n := by
  obtain ⟨O, A, G, w, S, hxA, hno, hns, hoa, f0, ho⟩ := J
  subst hxA
  have hbk : H[b]? = s0.heap[b]? := S.1.old b hbl
  refine cr_vc [23] 90 (s_Lw12 Z hx hb hml hown hr hlk rfl hX hL) (fun K hK => ?_)
  conv => whnf
  refine ⟨rfl, hbk, 6 * t + 1, lw_ix _ 1, by omega, ?_⟩
  conv => whnf
  refine ⟨rfl, hbk, 6 * t + 2, lw_ix _ 2, by omega, ?_⟩
  conv => whnf
  refine ⟨rfl, hbk, 6 * t + 3, lw_ix _ 3, by omega, ?_⟩
  conv => whnf
  refine ⟨rfl, hbk, 6 * t + 4, lw_ix _ 4, by omega, ?_⟩
  conv => whnf
  refine ⟨rfl, hbk, 6 * t + 5, lw_ix _ 5, by omega, ?_⟩
  conv => whnf
  refine ⟨rfl, ?_⟩
  conv => whnf
  obtain ⟨G', code, r, h0, hcode, hc, hm⟩ := sm_both hl Z S (by omega) (xs (6 * t + 1)) (xs (6 * t + 2)) (xs (6 * t + 3)) (xs (6 * t + 4)) (xs (6 * t + 5))
  have hW := j_L_both hl Z hN (S.1.c 14 0 rfl) hc hcode ho hoa hno
  refine ⟨21, 6, 230, _, hW, by decide, by omega, by omega, cr_le rfl, fun v9 H1 q9 _ => ?_, fun kd H9 q9 _ => (by have z9 := q9.1; cases z9)⟩
  obtain ⟨qa, fr1, ⟨O1, A1, w1, c1, K1, o1, x1⟩, f1, at1, hf1⟩ := q9
  cases qa
  have hR1 := lw_R S (T := fun q => O q ∨ q = oa) (fun q z hq => z.elim (fun z => S.2.2.2.1 q z hq) (fun z => hns (by rw [← z]; exact hq))) fr1
  have hbk1 : H1[b]? = s0.heap[b]? := c1.old b hbl
  conv => whnf
  refine ⟨cr_le rfl, ?_⟩
  conv => whnf
  refine ⟨rfl, hbk1, 6 * t + 1, lw_ix _ 1, by omega, ?_⟩
  conv => whnf
  refine ⟨rfl, hbk1, 6 * t + 2, lw_ix _ 2, by omega, ?_⟩
  conv => whnf
  refine ⟨rfl, hbk1, 6 * t + 3, lw_ix _ 3, by omega, ?_⟩
  conv => whnf
  refine ⟨rfl, hbk1, 6 * t + 4, lw_ix _ 4, by omega, ?_⟩
  conv => whnf
  refine ⟨rfl, hbk1, 6 * t + 5, lw_ix _ 5, by omega, ?_⟩
  conv => whnf
  refine ⟨rfl, ?_⟩
  conv => whnf
  refine ⟨_, hR1.o, 4, 0, 0, _, hm H1 hR1, by decide, by omega, by omega, cr_le rfl, fun v9 H2 q9 _ => ?_, fun kd H9 q9 _ => (by cases q9.1)⟩
  obtain ⟨q9a, hR2, fr2⟩ := q9
  cases q9a
  have at2 := cr_at_eq at1 (fr2.2 _ hns)
  have J2 : lw_J s0 D ca e0 (A 14 0) y ad oa (t + 1) H2 := lw_step Z S hno hns hoa (cr_at_lt ho) c1 K1 (fun _ _ _ _ => rfl) o1 x1 fr1 at1 hR2 fr2
  conv => whnf
  refine ⟨cr_le rfl, ?_⟩
  conv => whnf
  refine ⟨rfl, ?_⟩
  conv => whnf
  refine ⟨_, hR2.o, 0, 0, 0, _, j_M_thrown hl Z hR2, by decide, by omega, by omega, cr_le rfl, fun v9 H9 q9 _ => ?_, fun kd H9 q9 _ => (by cases q9.1)⟩
  obtain ⟨q9a, q9b⟩ := q9
  cases q9a
  replace q9b := q9b.symm
  subst q9b
  conv => whnf
  refine ⟨fun b1173 => ?_, fun b1173 => absurd (show nI (G' 0 0) = nI code by rw [h0]) b1173⟩
  conv => whnf
  refine ⟨fun b1180 => ?_, fun b1180 => ?_⟩
  · conv => whnf
    refine ⟨cr_le rfl, ?_⟩
    conv => whnf
    exact hK _ _ _ _ _ _ (cr_G_fg (nxt _ _ _ J2 (by omega) (by omega)) ⟨rfl, rfl, rfl, rfl, (show Value.int (nI (6 * (t + 1))) = Value.int (nI (6 * t) + 6) by rw [show 6 * (t + 1) = 6 * t + 6 by omega, show (6 : Int32) = nI 6 from rfl, nI_add]), trivial⟩)
  · have hc0 : code = 0 := (nb_eq0 (by omega)).mp b1180
    conv => whnf
    refine ⟨1, f1, 0, at2, rfl, by decide, by decide, ?_⟩
    conv => whnf
    refine ⟨fun b1190 => ?_, fun b1190 => absurd (show lg_cmp (f1 0) (if code = 0 then r else 0).toInt64 = 0 by rw [hf1 hc0, if_pos hc0]; exact lg_self _) b1190⟩
    conv => whnf
    refine ⟨cr_le rfl, ?_⟩
    conv => whnf
    exact hK _ _ _ _ _ _ (cr_G_fg (nxt _ _ _ J2 (by omega) (by omega)) ⟨rfl, rfl, rfl, rfl, (show Value.int (nI (6 * (t + 1))) = Value.int (nI (6 * t) + 6) by rw [show 6 * (t + 1) = 6 * t + 6 by omega, show (6 : Int32) = nI 6 from rfl, nI_add]), trivial⟩)
set_option maxHeartbeats 4000000 in
set_option maxRecDepth 20000 in
theorem lw_c13 (hl : l.flags = flags0) (Z : cr_Z0 s0 D ca e0) (hN : cr_No s0) (hx : p.tables.exec = Jvm.exec) (hb : c.code = c_L_law) (hml : c.maxLocals = 7) (hown : s0.vm.findClass "CardRightsLaw" = some m.cls) (hr : meth.sig.returnType = some .boolean) (hlk : meth.locks = false) (hX : va_X b L xs s0 s0.heap) (hbl : b < s0.heap.size) (hL : L ≤ 3072) (ht : 6 * t + 6 ≤ L) (J : lw_J s0 D ca e0 x y ad oa t H) (hk : k ≤ 100 + 6 * t) (hn : n ≤ 200000 + 230 * t) (nxt : ∀ H' k' n', lw_J s0 D ca e0 x y ad oa (t + 1) H' → k' ≤ 100 + 6 * (t + 1) → n' ≤ 200000 + 230 * (t + 1) → cr_G p l e (cr_rm 1400 601024 7293034) s0 m args below meth c s0.heap.size 601024 7293034 lw_q 23 [some (.ref b), some (.ref x), some (.ref y), some (.ref oa), some (.int (nI (6 * (t + 1)))), none, none] [] H' k' n') : cr_G p l e (cr_rm 1400 601024 7293034) s0 m args below meth c s0.heap.size 601024 7293034 lw_q 1198 [some (.ref b), some (.ref x), some (.ref y), some (.ref oa), some (.int (nI (6 * t))), none, none] [] H k n := by
  obtain ⟨O, A, G, w, S, hxA, hno, hns, hoa, f0, ho⟩ := J
  subst hxA
  have hbk : H[b]? = s0.heap[b]? := S.1.old b hbl
  refine cr_vc [23] 90 (s_Lw13 Z hx hb hml hown hr hlk rfl hX hL) (fun K hK => ?_)
  conv => whnf
  refine ⟨rfl, hbk, 6 * t + 1, lw_ix _ 1, by omega, ?_⟩
  conv => whnf
  refine ⟨rfl, ?_⟩
  conv => whnf
  obtain ⟨G', code, r, h0, hcode, hc, hm⟩ := sm_where hl Z S (by omega) (xs (6 * t + 1))
  have hW := j_L_where hl Z (S.1.c 14 0 rfl) hc hcode ho hoa hno
  refine ⟨21, 6, 230, _, hW, by decide, by omega, by omega, cr_le rfl, fun v9 H1 q9 _ => ?_, fun kd H9 q9 _ => (by have z9 := q9.1; cases z9)⟩
  obtain ⟨qa, fr1, ⟨O1, A1, w1, c1, K1, o1, x1⟩, f1, at1, hf1⟩ := q9
  cases qa
  have hR1 := lw_R S (T := fun q => O q ∨ q = oa) (fun q z hq => z.elim (fun z => S.2.2.2.1 q z hq) (fun z => hns (by rw [← z]; exact hq))) fr1
  have hbk1 : H1[b]? = s0.heap[b]? := c1.old b hbl
  conv => whnf
  refine ⟨cr_le rfl, ?_⟩
  conv => whnf
  refine ⟨rfl, hbk1, 6 * t + 1, lw_ix _ 1, by omega, ?_⟩
  conv => whnf
  refine ⟨rfl, ?_⟩
  conv => whnf
  refine ⟨_, hR1.o, 4, 0, 0, _, hm H1 hR1, by decide, by omega, by omega, cr_le rfl, fun v9 H2 q9 _ => ?_, fun kd H9 q9 _ => (by cases q9.1)⟩
  obtain ⟨q9a, hR2, fr2⟩ := q9
  cases q9a
  have at2 := cr_at_eq at1 (fr2.2 _ hns)
  have J2 : lw_J s0 D ca e0 (A 14 0) y ad oa (t + 1) H2 := lw_step Z S hno hns hoa (cr_at_lt ho) c1 K1 (fun _ _ _ _ => rfl) o1 x1 fr1 at1 hR2 fr2
  conv => whnf
  refine ⟨cr_le rfl, ?_⟩
  conv => whnf
  refine ⟨rfl, ?_⟩
  conv => whnf
  refine ⟨_, hR2.o, 0, 0, 0, _, j_M_thrown hl Z hR2, by decide, by omega, by omega, cr_le rfl, fun v9 H9 q9 _ => ?_, fun kd H9 q9 _ => (by cases q9.1)⟩
  obtain ⟨q9a, q9b⟩ := q9
  cases q9a
  replace q9b := q9b.symm
  subst q9b
  conv => whnf
  refine ⟨fun b1229 => ?_, fun b1229 => absurd (show nI (G' 0 0) = nI code by rw [h0]) b1229⟩
  conv => whnf
  refine ⟨fun b1236 => ?_, fun b1236 => ?_⟩
  · conv => whnf
    refine ⟨cr_le rfl, ?_⟩
    conv => whnf
    exact hK _ _ _ _ _ _ (cr_G_fg (nxt _ _ _ J2 (by omega) (by omega)) ⟨rfl, rfl, rfl, rfl, (show Value.int (nI (6 * (t + 1))) = Value.int (nI (6 * t) + 6) by rw [show 6 * (t + 1) = 6 * t + 6 by omega, show (6 : Int32) = nI 6 from rfl, nI_add]), trivial⟩)
  · have hc0 : code = 0 := (nb_eq0 (by omega)).mp b1236
    conv => whnf
    refine ⟨1, f1, 0, at2, rfl, by decide, by decide, ?_⟩
    conv => whnf
    refine ⟨fun b1246 => ?_, fun b1246 => absurd (show lg_cmp (f1 0) (if code = 0 then r else 0).toInt64 = 0 by rw [hf1 hc0, if_pos hc0]; exact lg_self _) b1246⟩
    conv => whnf
    refine ⟨cr_le rfl, ?_⟩
    conv => whnf
    exact hK _ _ _ _ _ _ (cr_G_fg (nxt _ _ _ J2 (by omega) (by omega)) ⟨rfl, rfl, rfl, rfl, (show Value.int (nI (6 * (t + 1))) = Value.int (nI (6 * t) + 6) by rw [show 6 * (t + 1) = 6 * t + 6 by omega, show (6 : Int32) = nI 6 from rfl, nI_add]), trivial⟩)
set_option maxHeartbeats 4000000 in
set_option maxRecDepth 20000 in
theorem lw_c14 (hl : l.flags = flags0) (Z : cr_Z0 s0 D ca e0) (hN : cr_No s0) (hx : p.tables.exec = Jvm.exec) (hb : c.code = c_L_law) (hml : c.maxLocals = 7) (hown : s0.vm.findClass "CardRightsLaw" = some m.cls) (hr : meth.sig.returnType = some .boolean) (hlk : meth.locks = false) (hX : va_X b L xs s0 s0.heap) (hbl : b < s0.heap.size) (hL : L ≤ 3072) (ht : 6 * t + 6 ≤ L) (J : lw_J s0 D ca e0 x y ad oa t H) (hk : k ≤ 100 + 6 * t) (hn : n ≤ 200000 + 230 * t) (nxt : ∀ H' k' n', lw_J s0 D ca e0 x y ad oa (t + 1) H' → k' ≤ 100 + 6 * (t + 1) → n' ≤ 200000 + 230 * (t + 1) → cr_G p l e (cr_rm 1400 601024 7293034) s0 m args below meth c s0.heap.size 601024 7293034 lw_q 23 [some (.ref b), some (.ref x), some (.ref y), some (.ref oa), some (.int (nI (6 * (t + 1)))), none, none] [] H' k' n') : cr_G p l e (cr_rm 1400 601024 7293034) s0 m args below meth c s0.heap.size 601024 7293034 lw_q 1254 [some (.ref b), some (.ref x), some (.ref y), some (.ref oa), some (.int (nI (6 * t))), none, none] [] H k n := by
  obtain ⟨O, A, G, w, S, hxA, hno, hns, hoa, f0, ho⟩ := J
  subst hxA
  have hbk : H[b]? = s0.heap[b]? := S.1.old b hbl
  refine cr_vc [23] 90 (s_Lw14 Z hx hb hml hown hr hlk rfl hX hL) (fun K hK => ?_)
  conv => whnf
  refine ⟨rfl, hbk, 6 * t + 1, lw_ix _ 1, by omega, ?_⟩
  conv => whnf
  refine ⟨rfl, ?_⟩
  conv => whnf
  obtain ⟨G', code, r, h0, hcode, hc, hm⟩ := sm_inside hl Z S (by omega) (xs (6 * t + 1))
  have hW := j_L_inside hl Z (S.1.c 14 0 rfl) hc hcode ho hoa hno
  refine ⟨21, 6, 230, _, hW, by decide, by omega, by omega, cr_le rfl, fun v9 H1 q9 _ => ?_, fun kd H9 q9 _ => (by have z9 := q9.1; cases z9)⟩
  obtain ⟨qa, fr1, ⟨O1, A1, w1, c1, K1, o1, x1⟩, f1, at1, hf1⟩ := q9
  cases qa
  have hR1 := lw_R S (T := fun q => O q ∨ q = oa) (fun q z hq => z.elim (fun z => S.2.2.2.1 q z hq) (fun z => hns (by rw [← z]; exact hq))) fr1
  have hbk1 : H1[b]? = s0.heap[b]? := c1.old b hbl
  conv => whnf
  refine ⟨cr_le rfl, ?_⟩
  conv => whnf
  refine ⟨rfl, hbk1, 6 * t + 1, lw_ix _ 1, by omega, ?_⟩
  conv => whnf
  refine ⟨rfl, ?_⟩
  conv => whnf
  refine ⟨_, hR1.o, 4, 0, 0, _, hm H1 hR1, by decide, by omega, by omega, cr_le rfl, fun v9 H2 q9 _ => ?_, fun kd H9 q9 _ => (by cases q9.1)⟩
  obtain ⟨q9a, hR2, fr2⟩ := q9
  cases q9a
  have at2 := cr_at_eq at1 (fr2.2 _ hns)
  have J2 : lw_J s0 D ca e0 (A 14 0) y ad oa (t + 1) H2 := lw_step Z S hno hns hoa (cr_at_lt ho) c1 K1 (fun _ _ _ _ => rfl) o1 x1 fr1 at1 hR2 fr2
  conv => whnf
  refine ⟨cr_le rfl, ?_⟩
  conv => whnf
  refine ⟨rfl, ?_⟩
  conv => whnf
  refine ⟨_, hR2.o, 0, 0, 0, _, j_M_thrown hl Z hR2, by decide, by omega, by omega, cr_le rfl, fun v9 H9 q9 _ => ?_, fun kd H9 q9 _ => (by cases q9.1)⟩
  obtain ⟨q9a, q9b⟩ := q9
  cases q9a
  replace q9b := q9b.symm
  subst q9b
  conv => whnf
  refine ⟨fun b1285 => ?_, fun b1285 => absurd (show nI (G' 0 0) = nI code by rw [h0]) b1285⟩
  conv => whnf
  refine ⟨fun b1292 => ?_, fun b1292 => ?_⟩
  · conv => whnf
    refine ⟨cr_le rfl, ?_⟩
    conv => whnf
    exact hK _ _ _ _ _ _ (cr_G_fg (nxt _ _ _ J2 (by omega) (by omega)) ⟨rfl, rfl, rfl, rfl, (show Value.int (nI (6 * (t + 1))) = Value.int (nI (6 * t) + 6) by rw [show 6 * (t + 1) = 6 * t + 6 by omega, show (6 : Int32) = nI 6 from rfl, nI_add]), trivial⟩)
  · have hc0 : code = 0 := (nb_eq0 (by omega)).mp b1292
    conv => whnf
    refine ⟨1, f1, 0, at2, rfl, by decide, by decide, ?_⟩
    conv => whnf
    refine ⟨fun b1302 => ?_, fun b1302 => absurd (show lg_cmp (f1 0) (if code = 0 then r else 0).toInt64 = 0 by rw [hf1 hc0, if_pos hc0]; exact lg_self _) b1302⟩
    conv => whnf
    refine ⟨cr_le rfl, ?_⟩
    conv => whnf
    exact hK _ _ _ _ _ _ (cr_G_fg (nxt _ _ _ J2 (by omega) (by omega)) ⟨rfl, rfl, rfl, rfl, (show Value.int (nI (6 * (t + 1))) = Value.int (nI (6 * t) + 6) by rw [show 6 * (t + 1) = 6 * t + 6 by omega, show (6 : Int32) = nI 6 from rfl, nI_add]), trivial⟩)
set_option maxHeartbeats 4000000 in
set_option maxRecDepth 20000 in
theorem lw_c15 (hl : l.flags = flags0) (Z : cr_Z0 s0 D ca e0) (hN : cr_No s0) (hx : p.tables.exec = Jvm.exec) (hb : c.code = c_L_law) (hml : c.maxLocals = 7) (hown : s0.vm.findClass "CardRightsLaw" = some m.cls) (hr : meth.sig.returnType = some .boolean) (hlk : meth.locks = false) (hX : va_X b L xs s0 s0.heap) (hbl : b < s0.heap.size) (hL : L ≤ 3072) (ht : 6 * t + 6 ≤ L) (J : lw_J s0 D ca e0 x y ad oa t H) (hk : k ≤ 100 + 6 * t) (hn : n ≤ 200000 + 230 * t) (nxt : ∀ H' k' n', lw_J s0 D ca e0 x y ad oa (t + 1) H' → k' ≤ 100 + 6 * (t + 1) → n' ≤ 200000 + 230 * (t + 1) → cr_G p l e (cr_rm 1400 601024 7293034) s0 m args below meth c s0.heap.size 601024 7293034 lw_q 23 [some (.ref b), some (.ref x), some (.ref y), some (.ref oa), some (.int (nI (6 * (t + 1)))), none, none] [] H' k' n') : cr_G p l e (cr_rm 1400 601024 7293034) s0 m args below meth c s0.heap.size 601024 7293034 lw_q 1310 [some (.ref b), some (.ref x), some (.ref y), some (.ref oa), some (.int (nI (6 * t))), none, none] [] H k n := by
  obtain ⟨O, A, G, w, S, hxA, hno, hns, hoa, f0, ho⟩ := J
  subst hxA
  have hbk : H[b]? = s0.heap[b]? := S.1.old b hbl
  refine cr_vc [23] 90 (s_Lw15 Z hx hb hml hown hr hlk rfl hX hL) (fun K hK => ?_)
  conv => whnf
  refine ⟨rfl, hbk, 6 * t + 1, lw_ix _ 1, by omega, ?_⟩
  conv => whnf
  refine ⟨rfl, hbk, 6 * t + 2, lw_ix _ 2, by omega, ?_⟩
  conv => whnf
  refine ⟨rfl, ?_⟩
  conv => whnf
  obtain ⟨G', code, r, h0, hcode, hc, hm⟩ := sm_muster hl Z S (by omega) (xs (6 * t + 1)) (xs (6 * t + 2))
  have hW := j_L_muster hl Z (S.1.c 14 0 rfl) hc hcode ho hoa hno
  refine ⟨21, 6, 230, _, hW, by decide, by omega, by omega, cr_le rfl, fun v9 H1 q9 _ => ?_, fun kd H9 q9 _ => (by have z9 := q9.1; cases z9)⟩
  obtain ⟨qa, fr1, ⟨O1, A1, w1, c1, K1, o1, x1⟩, f1, at1, hf1⟩ := q9
  cases qa
  have hR1 := lw_R S (T := fun q => O q ∨ q = oa) (fun q z hq => z.elim (fun z => S.2.2.2.1 q z hq) (fun z => hns (by rw [← z]; exact hq))) fr1
  have hbk1 : H1[b]? = s0.heap[b]? := c1.old b hbl
  conv => whnf
  refine ⟨cr_le rfl, ?_⟩
  conv => whnf
  refine ⟨rfl, hbk1, 6 * t + 1, lw_ix _ 1, by omega, ?_⟩
  conv => whnf
  refine ⟨rfl, hbk1, 6 * t + 2, lw_ix _ 2, by omega, ?_⟩
  conv => whnf
  refine ⟨rfl, ?_⟩
  conv => whnf
  refine ⟨_, hR1.o, 4, 0, 0, _, hm H1 hR1, by decide, by omega, by omega, cr_le rfl, fun v9 H2 q9 _ => ?_, fun kd H9 q9 _ => (by cases q9.1)⟩
  obtain ⟨q9a, hR2, fr2⟩ := q9
  cases q9a
  have at2 := cr_at_eq at1 (fr2.2 _ hns)
  have J2 : lw_J s0 D ca e0 (A 14 0) y ad oa (t + 1) H2 := lw_step Z S hno hns hoa (cr_at_lt ho) c1 K1 (fun _ _ _ _ => rfl) o1 x1 fr1 at1 hR2 fr2
  conv => whnf
  refine ⟨cr_le rfl, ?_⟩
  conv => whnf
  refine ⟨rfl, ?_⟩
  conv => whnf
  refine ⟨_, hR2.o, 0, 0, 0, _, j_M_thrown hl Z hR2, by decide, by omega, by omega, cr_le rfl, fun v9 H9 q9 _ => ?_, fun kd H9 q9 _ => (by cases q9.1)⟩
  obtain ⟨q9a, q9b⟩ := q9
  cases q9a
  replace q9b := q9b.symm
  subst q9b
  conv => whnf
  refine ⟨fun b1353 => ?_, fun b1353 => absurd (show nI (G' 0 0) = nI code by rw [h0]) b1353⟩
  conv => whnf
  refine ⟨fun b1360 => ?_, fun b1360 => ?_⟩
  · conv => whnf
    refine ⟨cr_le rfl, ?_⟩
    conv => whnf
    exact hK _ _ _ _ _ _ (cr_G_fg (nxt _ _ _ J2 (by omega) (by omega)) ⟨rfl, rfl, rfl, rfl, (show Value.int (nI (6 * (t + 1))) = Value.int (nI (6 * t) + 6) by rw [show 6 * (t + 1) = 6 * t + 6 by omega, show (6 : Int32) = nI 6 from rfl, nI_add]), trivial⟩)
  · have hc0 : code = 0 := (nb_eq0 (by omega)).mp b1360
    conv => whnf
    refine ⟨1, f1, 0, at2, rfl, by decide, by decide, ?_⟩
    conv => whnf
    refine ⟨fun b1370 => ?_, fun b1370 => absurd (show lg_cmp (f1 0) (if code = 0 then r else 0).toInt64 = 0 by rw [hf1 hc0, if_pos hc0]; exact lg_self _) b1370⟩
    conv => whnf
    refine ⟨cr_le rfl, ?_⟩
    conv => whnf
    exact hK _ _ _ _ _ _ (cr_G_fg (nxt _ _ _ J2 (by omega) (by omega)) ⟨rfl, rfl, rfl, rfl, (show Value.int (nI (6 * (t + 1))) = Value.int (nI (6 * t) + 6) by rw [show 6 * (t + 1) = 6 * t + 6 by omega, show (6 : Int32) = nI 6 from rfl, nI_add]), trivial⟩)
set_option maxHeartbeats 4000000 in
set_option maxRecDepth 20000 in
theorem lw_c16 (hl : l.flags = flags0) (Z : cr_Z0 s0 D ca e0) (hN : cr_No s0) (hx : p.tables.exec = Jvm.exec) (hb : c.code = c_L_law) (hml : c.maxLocals = 7) (hown : s0.vm.findClass "CardRightsLaw" = some m.cls) (hr : meth.sig.returnType = some .boolean) (hlk : meth.locks = false) (hX : va_X b L xs s0 s0.heap) (hbl : b < s0.heap.size) (hL : L ≤ 3072) (ht : 6 * t + 6 ≤ L) (J : lw_J s0 D ca e0 x y ad oa t H) (hk : k ≤ 100 + 6 * t) (hn : n ≤ 200000 + 230 * t) (nxt : ∀ H' k' n', lw_J s0 D ca e0 x y ad oa (t + 1) H' → k' ≤ 100 + 6 * (t + 1) → n' ≤ 200000 + 230 * (t + 1) → cr_G p l e (cr_rm 1400 601024 7293034) s0 m args below meth c s0.heap.size 601024 7293034 lw_q 23 [some (.ref b), some (.ref x), some (.ref y), some (.ref oa), some (.int (nI (6 * (t + 1)))), none, none] [] H' k' n') : cr_G p l e (cr_rm 1400 601024 7293034) s0 m args below meth c s0.heap.size 601024 7293034 lw_q 1378 [some (.ref b), some (.ref x), some (.ref y), some (.ref oa), some (.int (nI (6 * t))), none, none] [] H k n := by
  obtain ⟨O, A, G, w, S, hxA, hno, hns, hoa, f0, ho⟩ := J
  subst hxA
  have hbk : H[b]? = s0.heap[b]? := S.1.old b hbl
  refine cr_vc [23] 90 (s_Lw16 Z hx hb hml hown hr hlk rfl hX hL) (fun K hK => ?_)
  conv => whnf
  refine ⟨rfl, ?_⟩
  conv => whnf
  refine ⟨_, S.1.c 14 0 rfl, 0, 0, 0, _, j_C_against hl Z S.1, by decide, by omega, by omega, cr_le rfl, fun v9 H1 q9 _ => ?_, fun kd H9 q9 _ => (by cases q9.1)⟩
  obtain ⟨q9a, q9b⟩ := q9
  cases q9a
  replace q9b := q9b.symm
  subst q9b
  conv => whnf
  refine ⟨rfl, ?_⟩
  conv => whnf
  refine ⟨_, S.2.1.o, 0, 0, 0, _, j_M_against hl Z S.2.1, by decide, by omega, by omega, cr_le rfl, fun v9 H2 q9 _ => ?_, fun kd H9 q9 _ => (by cases q9.1)⟩
  obtain ⟨q2, hR2, fr2⟩ := q9
  cases q2
  have e1 : ∀ a b, a ≠ 0 → a < 39 → mm_up G 0 0 0 a b = G a b := fun a b h1 _ => mm_up_k _ _ _ _ h1
  have J2 := lw_step Z S hno hns hoa (cr_at_lt ho) S.1 ((S.2.2.1.of e1).st (by omega)) e1 (fun q z => Or.inl z) rfl (cr_Fr.refl (S := O) _) ho hR2 fr2
  conv => whnf
  refine ⟨fun b9 => ?_, fun b9 => absurd rfl b9⟩
  conv => whnf
  refine ⟨cr_le rfl, ?_⟩
  conv => whnf
  exact hK _ _ _ _ _ _ (cr_G_fg (nxt _ _ _ J2 (by omega) (by omega)) ⟨rfl, rfl, rfl, rfl, (show Value.int (nI (6 * (t + 1))) = Value.int (nI (6 * t) + 6) by rw [show 6 * (t + 1) = 6 * t + 6 by omega, show (6 : Int32) = nI 6 from rfl, nI_add]), trivial⟩)
set_option maxHeartbeats 4000000 in
set_option maxRecDepth 20000 in
theorem lw_c17 (hl : l.flags = flags0) (Z : cr_Z0 s0 D ca e0) (hN : cr_No s0) (hx : p.tables.exec = Jvm.exec) (hb : c.code = c_L_law) (hml : c.maxLocals = 7) (hown : s0.vm.findClass "CardRightsLaw" = some m.cls) (hr : meth.sig.returnType = some .boolean) (hlk : meth.locks = false) (hX : va_X b L xs s0 s0.heap) (hbl : b < s0.heap.size) (hL : L ≤ 3072) (ht : 6 * t + 6 ≤ L) (J : lw_J s0 D ca e0 x y ad oa t H) (hk : k ≤ 100 + 6 * t) (hn : n ≤ 200000 + 230 * t) (nxt : ∀ H' k' n', lw_J s0 D ca e0 x y ad oa (t + 1) H' → k' ≤ 100 + 6 * (t + 1) → n' ≤ 200000 + 230 * (t + 1) → cr_G p l e (cr_rm 1400 601024 7293034) s0 m args below meth c s0.heap.size 601024 7293034 lw_q 23 [some (.ref b), some (.ref x), some (.ref y), some (.ref oa), some (.int (nI (6 * (t + 1)))), none, none] [] H' k' n') : cr_G p l e (cr_rm 1400 601024 7293034) s0 m args below meth c s0.heap.size 601024 7293034 lw_q 1391 [some (.ref b), some (.ref x), some (.ref y), some (.ref oa), some (.int (nI (6 * t))), none, none] [] H k n := by
  obtain ⟨O, A, G, w, S, hxA, hno, hns, hoa, f0, ho⟩ := J
  subst hxA
  have hbk : H[b]? = s0.heap[b]? := S.1.old b hbl
  refine cr_vc [23] 90 (s_Lw17 Z hx hb hml hown hr hlk rfl hX hL) (fun K hK => ?_)
  conv => whnf
  refine ⟨rfl, hbk, 6 * t + 1, lw_ix _ 1, by omega, ?_⟩
  conv => whnf
  refine ⟨rfl, hbk, 6 * t + 2, lw_ix _ 2, by omega, ?_⟩
  conv => whnf
  refine ⟨rfl, ?_⟩
  conv => whnf
  obtain ⟨G', code, r, h0, hcode, hc, hm⟩ := sm_found hl Z S (by omega) (xs (6 * t + 1)) (xs (6 * t + 2))
  have hW := j_L_found hl Z (S.1.c 14 0 rfl) hc hcode ho hoa hno
  refine ⟨21, 6, 230, _, hW, by decide, by omega, by omega, cr_le rfl, fun v9 H1 q9 _ => ?_, fun kd H9 q9 _ => (by have z9 := q9.1; cases z9)⟩
  obtain ⟨qa, fr1, ⟨O1, A1, w1, c1, K1, o1, x1⟩, f1, at1, hf1⟩ := q9
  cases qa
  have hR1 := lw_R S (T := fun q => O q ∨ q = oa) (fun q z hq => z.elim (fun z => S.2.2.2.1 q z hq) (fun z => hns (by rw [← z]; exact hq))) fr1
  have hbk1 : H1[b]? = s0.heap[b]? := c1.old b hbl
  conv => whnf
  refine ⟨cr_le rfl, ?_⟩
  conv => whnf
  refine ⟨rfl, hbk1, 6 * t + 1, lw_ix _ 1, by omega, ?_⟩
  conv => whnf
  refine ⟨rfl, hbk1, 6 * t + 2, lw_ix _ 2, by omega, ?_⟩
  conv => whnf
  refine ⟨rfl, ?_⟩
  conv => whnf
  refine ⟨_, hR1.o, 4, 0, 0, _, hm H1 hR1, by decide, by omega, by omega, cr_le rfl, fun v9 H2 q9 _ => ?_, fun kd H9 q9 _ => (by cases q9.1)⟩
  obtain ⟨q9a, hR2, fr2⟩ := q9
  cases q9a
  have at2 := cr_at_eq at1 (fr2.2 _ hns)
  have J2 : lw_J s0 D ca e0 (A 14 0) y ad oa (t + 1) H2 := lw_step Z S hno hns hoa (cr_at_lt ho) c1 K1 (fun _ _ _ _ => rfl) o1 x1 fr1 at1 hR2 fr2
  conv => whnf
  refine ⟨cr_le rfl, ?_⟩
  conv => whnf
  refine ⟨rfl, ?_⟩
  conv => whnf
  refine ⟨_, hR2.o, 0, 0, 0, _, j_M_thrown hl Z hR2, by decide, by omega, by omega, cr_le rfl, fun v9 H9 q9 _ => ?_, fun kd H9 q9 _ => (by cases q9.1)⟩
  obtain ⟨q9a, q9b⟩ := q9
  cases q9a
  replace q9b := q9b.symm
  subst q9b
  conv => whnf
  refine ⟨fun b1434 => ?_, fun b1434 => absurd (show nI (G' 0 0) = nI code by rw [h0]) b1434⟩
  conv => whnf
  refine ⟨fun b1441 => ?_, fun b1441 => ?_⟩
  · conv => whnf
    refine ⟨cr_le rfl, ?_⟩
    conv => whnf
    exact hK _ _ _ _ _ _ (cr_G_fg (nxt _ _ _ J2 (by omega) (by omega)) ⟨rfl, rfl, rfl, rfl, (show Value.int (nI (6 * (t + 1))) = Value.int (nI (6 * t) + 6) by rw [show 6 * (t + 1) = 6 * t + 6 by omega, show (6 : Int32) = nI 6 from rfl, nI_add]), trivial⟩)
  · have hc0 : code = 0 := (nb_eq0 (by omega)).mp b1441
    conv => whnf
    refine ⟨1, f1, 0, at2, rfl, by decide, by decide, ?_⟩
    conv => whnf
    refine ⟨fun b1451 => ?_, fun b1451 => absurd (show lg_cmp (f1 0) (if code = 0 then r else 0).toInt64 = 0 by rw [hf1 hc0, if_pos hc0]; exact lg_self _) b1451⟩
    conv => whnf
    refine ⟨cr_le rfl, ?_⟩
    conv => whnf
    exact hK _ _ _ _ _ _ (cr_G_fg (nxt _ _ _ J2 (by omega) (by omega)) ⟨rfl, rfl, rfl, rfl, (show Value.int (nI (6 * (t + 1))) = Value.int (nI (6 * t) + 6) by rw [show 6 * (t + 1) = 6 * t + 6 by omega, show (6 : Int32) = nI 6 from rfl, nI_add]), trivial⟩)
set_option maxHeartbeats 4000000 in
set_option maxRecDepth 20000 in
theorem lw_c18 (hl : l.flags = flags0) (Z : cr_Z0 s0 D ca e0) (hN : cr_No s0) (hx : p.tables.exec = Jvm.exec) (hb : c.code = c_L_law) (hml : c.maxLocals = 7) (hown : s0.vm.findClass "CardRightsLaw" = some m.cls) (hr : meth.sig.returnType = some .boolean) (hlk : meth.locks = false) (hX : va_X b L xs s0 s0.heap) (hbl : b < s0.heap.size) (hL : L ≤ 3072) (ht : 6 * t + 6 ≤ L) (J : lw_J s0 D ca e0 x y ad oa t H) (hk : k ≤ 100 + 6 * t) (hn : n ≤ 200000 + 230 * t) (nxt : ∀ H' k' n', lw_J s0 D ca e0 x y ad oa (t + 1) H' → k' ≤ 100 + 6 * (t + 1) → n' ≤ 200000 + 230 * (t + 1) → cr_G p l e (cr_rm 1400 601024 7293034) s0 m args below meth c s0.heap.size 601024 7293034 lw_q 23 [some (.ref b), some (.ref x), some (.ref y), some (.ref oa), some (.int (nI (6 * (t + 1)))), none, none] [] H' k' n') : cr_G p l e (cr_rm 1400 601024 7293034) s0 m args below meth c s0.heap.size 601024 7293034 lw_q 1459 [some (.ref b), some (.ref x), some (.ref y), some (.ref oa), some (.int (nI (6 * t))), none, none] [] H k n := by
  obtain ⟨O, A, G, w, S, hxA, hno, hns, hoa, f0, ho⟩ := J
  subst hxA
  have hbk : H[b]? = s0.heap[b]? := S.1.old b hbl
  refine cr_vc [23] 90 (s_Lw18 Z hx hb hml hown hr hlk rfl hX hL) (fun K hK => ?_)
  conv => whnf
  refine ⟨rfl, ?_⟩
  conv => whnf
  refine ⟨_, S.1.c 14 0 rfl, 0, 0, 0, _, j_C_uses hl Z S.1, by decide, by omega, by omega, cr_le rfl, fun v9 H1 q9 _ => ?_, fun kd H9 q9 _ => (by cases q9.1)⟩
  obtain ⟨q9a, q9b⟩ := q9
  cases q9a
  replace q9b := q9b.symm
  subst q9b
  conv => whnf
  refine ⟨rfl, ?_⟩
  conv => whnf
  refine ⟨_, S.2.1.o, 0, 0, 0, _, j_M_uses hl Z S.2.1, by decide, by omega, by omega, cr_le rfl, fun v9 H2 q9 _ => ?_, fun kd H9 q9 _ => (by cases q9.1)⟩
  obtain ⟨q2, hR2, fr2⟩ := q9
  cases q2
  have e1 : ∀ a b, a ≠ 0 → a < 39 → mm_up G 0 0 0 a b = G a b := fun a b h1 _ => mm_up_k _ _ _ _ h1
  have J2 := lw_step Z S hno hns hoa (cr_at_lt ho) S.1 ((S.2.2.1.of e1).st (by omega)) e1 (fun q z => Or.inl z) rfl (cr_Fr.refl (S := O) _) ho hR2 fr2
  conv => whnf
  refine ⟨fun b9 => ?_, fun b9 => absurd rfl b9⟩
  conv => whnf
  refine ⟨cr_le rfl, ?_⟩
  conv => whnf
  exact hK _ _ _ _ _ _ (cr_G_fg (nxt _ _ _ J2 (by omega) (by omega)) ⟨rfl, rfl, rfl, rfl, (show Value.int (nI (6 * (t + 1))) = Value.int (nI (6 * t) + 6) by rw [show 6 * (t + 1) = 6 * t + 6 by omega, show (6 : Int32) = nI 6 from rfl, nI_add]), trivial⟩)
set_option maxHeartbeats 4000000 in
set_option maxRecDepth 20000 in
theorem lw_c19 (hl : l.flags = flags0) (Z : cr_Z0 s0 D ca e0) (hN : cr_No s0) (hx : p.tables.exec = Jvm.exec) (hb : c.code = c_L_law) (hml : c.maxLocals = 7) (hown : s0.vm.findClass "CardRightsLaw" = some m.cls) (hr : meth.sig.returnType = some .boolean) (hlk : meth.locks = false) (hX : va_X b L xs s0 s0.heap) (hbl : b < s0.heap.size) (hL : L ≤ 3072) (ht : 6 * t + 6 ≤ L) (J : lw_J s0 D ca e0 x y ad oa t H) (hk : k ≤ 100 + 6 * t) (hn : n ≤ 200000 + 230 * t) (nxt : ∀ H' k' n', lw_J s0 D ca e0 x y ad oa (t + 1) H' → k' ≤ 100 + 6 * (t + 1) → n' ≤ 200000 + 230 * (t + 1) → cr_G p l e (cr_rm 1400 601024 7293034) s0 m args below meth c s0.heap.size 601024 7293034 lw_q 23 [some (.ref b), some (.ref x), some (.ref y), some (.ref oa), some (.int (nI (6 * (t + 1)))), none, none] [] H' k' n') : cr_G p l e (cr_rm 1400 601024 7293034) s0 m args below meth c s0.heap.size 601024 7293034 lw_q 1472 [some (.ref b), some (.ref x), some (.ref y), some (.ref oa), some (.int (nI (6 * t))), none, none] [] H k n := by
  obtain ⟨O, A, G, w, S, hxA, hno, hns, hoa, f0, ho⟩ := J
  subst hxA
  have hbk : H[b]? = s0.heap[b]? := S.1.old b hbl
  refine cr_vc [23] 90 (s_Lw19 Z hx hb hml hown hr hlk rfl hX hL) (fun K hK => ?_)
  conv => whnf
  refine ⟨rfl, ?_⟩
  conv => whnf
  refine ⟨_, S.1.c 14 0 rfl, 20, 0, 0, _, sm_fewest hl Z S (by omega), by decide, by omega, by omega, cr_le rfl, fun v9 H1 q9 _ => ?_, fun kd H9 q9 _ => (by obtain ⟨r, w9, z9, -⟩ := q9; cases z9)⟩
  obtain ⟨r, w1, q1, c1, K1, fr1, hm⟩ := q9
  cases q1
  have hR1 := lw_R S S.2.2.2.1 fr1
  have at1 := fr1.at ho hno
  conv => whnf
  refine ⟨rfl, ?_⟩
  conv => whnf
  refine ⟨_, hR1.o, 2, 0, 0, _, hm H1 hR1, by decide, by omega, by omega, cr_le rfl, fun v9 H2 q9 _ => ?_, fun kd H9 q9 _ => (by obtain ⟨G9, z9, -⟩ := q9; cases z9)⟩
  obtain ⟨G', q2, E2, hR2, fr2⟩ := q9
  cases q2
  have e1 : ∀ a b, a ≠ 0 → a < 39 → G' a b = G a b := fun a b h1 h2 => E2.1 a b h1 (by omega) (by omega)
  have J2 := lw_step Z S hno hns hoa (cr_at_lt ho) c1 ((K1.of e1).st (by omega)) e1 (fun q z => Or.inl z) rfl fr1 at1 hR2 fr2
  conv => whnf
  refine ⟨fun b9 => ?_, fun b9 => absurd rfl b9⟩
  conv => whnf
  refine ⟨cr_le rfl, ?_⟩
  conv => whnf
  exact hK _ _ _ _ _ _ (cr_G_fg (nxt _ _ _ J2 (by omega) (by omega)) ⟨rfl, rfl, rfl, rfl, (show Value.int (nI (6 * (t + 1))) = Value.int (nI (6 * t) + 6) by rw [show 6 * (t + 1) = 6 * t + 6 by omega, show (6 : Int32) = nI 6 from rfl, nI_add]), trivial⟩)
set_option maxHeartbeats 4000000 in
set_option maxRecDepth 20000 in
theorem lw_c20 (hl : l.flags = flags0) (Z : cr_Z0 s0 D ca e0) (hN : cr_No s0) (hx : p.tables.exec = Jvm.exec) (hb : c.code = c_L_law) (hml : c.maxLocals = 7) (hown : s0.vm.findClass "CardRightsLaw" = some m.cls) (hr : meth.sig.returnType = some .boolean) (hlk : meth.locks = false) (hX : va_X b L xs s0 s0.heap) (hbl : b < s0.heap.size) (hL : L ≤ 3072) (ht : 6 * t + 6 ≤ L) (J : lw_J s0 D ca e0 x y ad oa t H) (hk : k ≤ 100 + 6 * t) (hn : n ≤ 200000 + 230 * t) (nxt : ∀ H' k' n', lw_J s0 D ca e0 x y ad oa (t + 1) H' → k' ≤ 100 + 6 * (t + 1) → n' ≤ 200000 + 230 * (t + 1) → cr_G p l e (cr_rm 1400 601024 7293034) s0 m args below meth c s0.heap.size 601024 7293034 lw_q 23 [some (.ref b), some (.ref x), some (.ref y), some (.ref oa), some (.int (nI (6 * (t + 1)))), none, none] [] H' k' n') : cr_G p l e (cr_rm 1400 601024 7293034) s0 m args below meth c s0.heap.size 601024 7293034 lw_q 1485 [some (.ref b), some (.ref x), some (.ref y), some (.ref oa), some (.int (nI (6 * t))), none, none] [] H k n := by
  obtain ⟨O, A, G, w, S, hxA, hno, hns, hoa, f0, ho⟩ := J
  subst hxA
  have hbk : H[b]? = s0.heap[b]? := S.1.old b hbl
  refine cr_vc [23] 90 (s_Lw20 Z hx hb hml hown hr hlk rfl hX hL) (fun K hK => ?_)
  conv => whnf
  refine ⟨rfl, ?_⟩
  conv => whnf
  refine ⟨_, S.1.c 14 0 rfl, 0, 0, 0, _, j_C_now hl Z S.1, by decide, by omega, by omega, cr_le rfl, fun v9 H1 q9 _ => ?_, fun kd H9 q9 _ => (by cases q9.1)⟩
  obtain ⟨q9a, q9b⟩ := q9
  cases q9a
  replace q9b := q9b.symm
  subst q9b
  conv => whnf
  refine ⟨rfl, ?_⟩
  conv => whnf
  refine ⟨_, S.2.1.o, 0, 0, 0, _, j_M_now hl Z S.2.1, by decide, by omega, by omega, cr_le rfl, fun v9 H2 q9 _ => ?_, fun kd H9 q9 _ => (by cases q9.1)⟩
  obtain ⟨q2, hR2, fr2⟩ := q9
  cases q2
  have e1 : ∀ a b, a ≠ 0 → a < 39 → mm_up G 0 0 0 a b = G a b := fun a b h1 _ => mm_up_k _ _ _ _ h1
  have J2 := lw_step Z S hno hns hoa (cr_at_lt ho) S.1 ((S.2.2.1.of e1).st (by omega)) e1 (fun q z => Or.inl z) rfl (cr_Fr.refl (S := O) _) ho hR2 fr2
  conv => whnf
  refine ⟨fun b9 => ?_, fun b9 => absurd rfl b9⟩
  conv => whnf
  refine ⟨cr_le rfl, ?_⟩
  conv => whnf
  exact hK _ _ _ _ _ _ (cr_G_fg (nxt _ _ _ J2 (by omega) (by omega)) ⟨rfl, rfl, rfl, rfl, (show Value.int (nI (6 * (t + 1))) = Value.int (nI (6 * t) + 6) by rw [show 6 * (t + 1) = 6 * t + 6 by omega, show (6 : Int32) = nI 6 from rfl, nI_add]), trivial⟩)
end LWT
