/-! THE LAW: its loop, its beginning (printed by gen/comp33.py) -/
section LWL
variable {p : Program} {l : Launch} {e : Env} {m : MethodId} {args : Array Value} {below : List Frame} {meth : Method} {c : Code} {s0 : State} {D : va_G} {ca : Nat → ClassId} {e0 b L : Nat} {xs : Nat → Int32}
variable {H H1 H2 : Heap} {y : Nat} {ad : Nat → Nat} {x oa t k n : Nat}
theorem lw_neg0 : ∀ L : Fin 6, nI L.1 - 6 < 0 := by decide +kernel
theorem lw_cmp {L i : Nat} (hL : L ≤ 3072) (hi : i ≤ 4000) : nI L - 6 < nI i ↔ L < i + 6 := by
  by_cases h : L < 6
  · have h1 : nI L - 6 < 0 := lw_neg0 ⟨L, h⟩
    exact ⟨fun _ => by omega, fun _ => Int32.lt_of_lt_of_le h1 (nI_pos' (by omega))⟩
  · have e1 : nI L - 6 = nI (L - 6) := by
      have e2 : nI L = nI (L - 6) + nI 6 := by
        rw [nI_add, show L - 6 + 6 = L by omega]
      rw [e2, show (6 : Int32) = nI 6 from rfl, Int32.add_sub_cancel]
    rw [e1]
    constructor
    · intro q
      refine Nat.lt_of_not_le (fun z => absurd q (nI_nlt (by omega) (by omega)))
    · intro q
      exact nI_lt (by omega) (by omega)
set_option maxHeartbeats 4000000 in
set_option maxRecDepth 20000 in
theorem lw_head (hl : l.flags = flags0) (Z : cr_Z0 s0 D ca e0) (hN : cr_No s0) (hx : p.tables.exec = Jvm.exec) (hb : c.code = c_L_law) (hml : c.maxLocals = 7) (hown : s0.vm.findClass "CardRightsLaw" = some m.cls) (hr : meth.sig.returnType = some .boolean) (hlk : meth.locks = false) (hX : va_X b L xs s0 s0.heap) (hbl : b < s0.heap.size) (hL : L ≤ 3072) (h6 : 6 * t ≤ L) (J : lw_J s0 D ca e0 x y ad oa t H) (hk : k ≤ 100 + 6 * t) (hn : n ≤ 200000 + 230 * t) (nxt : 6 * t + 6 ≤ L → ∀ H' k' n', lw_J s0 D ca e0 x y ad oa (t + 1) H' → k' ≤ 100 + 6 * (t + 1) → n' ≤ 200000 + 230 * (t + 1) → cr_G p l e (cr_rm 1400 601024 7293034) s0 m args below meth c s0.heap.size 601024 7293034 lw_q 23 [some (.ref b), some (.ref x), some (.ref y), some (.ref oa), some (.int (nI (6 * (t + 1)))), none, none] [] H' k' n') : cr_G p l e (cr_rm 1400 601024 7293034) s0 m args below meth c s0.heap.size 601024 7293034 lw_q 23 [some (.ref b), some (.ref x), some (.ref y), some (.ref oa), some (.int (nI (6 * t))), none, none] [] H k n := by
  have hbk : H[b]? = s0.heap[b]? := by
    obtain ⟨O, A, G, w, S, -⟩ := J
    exact S.1.old b hbl
  have J9 : 6 * t + 6 ≤ L → lw_J s0 D ca e0 x y ad oa (t + 1) H := fun ht => by
    obtain ⟨O, A, G, w, S, q⟩ := J
    exact ⟨O, A, G, w, ⟨S.1, S.2.1, S.2.2.1.st (by omega), S.2.2.2⟩, q⟩
  refine cr_vc [23, 140, 196, 264, 320, 388, 492, 560, 628, 719, 822, 918, 1002, 1094, 1198, 1254, 1310, 1378, 1391, 1459, 1472, 1485] 60 (s_Lwh Z hx hb hml hown hr hlk rfl hX hL) (fun K hK => ?_)
  conv => whnf
  refine ⟨rfl, hbk, ?_⟩
  conv => whnf
  refine ⟨fun b30 => ?_, fun b30 => ?_⟩
  · conv => whnf
    exact ⟨rfl, by omega, by omega, rfl⟩
  · have ht : 6 * t + 6 ≤ L := Nat.le_of_not_lt (fun q => b30 ((lw_cmp hL (by omega)).mpr q))
    conv => whnf
    refine ⟨rfl, hbk, 6 * t, rfl, by omega, ?_⟩
    conv => whnf
    refine ⟨fun j9 hj9 _ => ?_, fun _ => ?_⟩
    · rcases (show j9 = 0 ∨ j9 = 1 ∨ j9 = 2 ∨ j9 = 3 ∨ j9 = 4 ∨ j9 = 5 ∨ j9 = 6 ∨ j9 = 7 ∨ j9 = 8 ∨ j9 = 9 ∨ j9 = 10 ∨ j9 = 11 ∨ j9 = 12 ∨ j9 = 13 ∨ j9 = 14 ∨ j9 = 15 ∨ j9 = 16 ∨ j9 = 17 ∨ j9 = 18 ∨ j9 = 19 ∨ j9 = 20 by simp at hj9; omega) with rfl | rfl | rfl | rfl | rfl | rfl | rfl | rfl | rfl | rfl | rfl | rfl | rfl | rfl | rfl | rfl | rfl | rfl | rfl | rfl | rfl
      · exact hK _ _ _ _ _ _ (lw_c0 hl Z hN hx hb hml hown hr hlk hX hbl hL ht J hk hn (nxt ht))
      · exact hK _ _ _ _ _ _ (lw_c1 hl Z hN hx hb hml hown hr hlk hX hbl hL ht J hk hn (nxt ht))
      · exact hK _ _ _ _ _ _ (lw_c2 hl Z hN hx hb hml hown hr hlk hX hbl hL ht J hk hn (nxt ht))
      · exact hK _ _ _ _ _ _ (lw_c3 hl Z hN hx hb hml hown hr hlk hX hbl hL ht J hk hn (nxt ht))
      · exact hK _ _ _ _ _ _ (lw_c4 hl Z hN hx hb hml hown hr hlk hX hbl hL ht J hk hn (nxt ht))
      · exact hK _ _ _ _ _ _ (lw_c5 hl Z hN hx hb hml hown hr hlk hX hbl hL ht J hk hn (nxt ht))
      · exact hK _ _ _ _ _ _ (lw_c6 hl Z hN hx hb hml hown hr hlk hX hbl hL ht J hk hn (nxt ht))
      · exact hK _ _ _ _ _ _ (lw_c7 hl Z hN hx hb hml hown hr hlk hX hbl hL ht J hk hn (nxt ht))
      · exact hK _ _ _ _ _ _ (lw_c8 hl Z hN hx hb hml hown hr hlk hX hbl hL ht J hk hn (nxt ht))
      · exact hK _ _ _ _ _ _ (lw_c9 hl Z hN hx hb hml hown hr hlk hX hbl hL ht J hk hn (nxt ht))
      · exact hK _ _ _ _ _ _ (lw_c10 hl Z hN hx hb hml hown hr hlk hX hbl hL ht J hk hn (nxt ht))
      · exact hK _ _ _ _ _ _ (lw_c11 hl Z hN hx hb hml hown hr hlk hX hbl hL ht J hk hn (nxt ht))
      · exact hK _ _ _ _ _ _ (lw_c12 hl Z hN hx hb hml hown hr hlk hX hbl hL ht J hk hn (nxt ht))
      · exact hK _ _ _ _ _ _ (lw_c13 hl Z hN hx hb hml hown hr hlk hX hbl hL ht J hk hn (nxt ht))
      · exact hK _ _ _ _ _ _ (lw_c14 hl Z hN hx hb hml hown hr hlk hX hbl hL ht J hk hn (nxt ht))
      · exact hK _ _ _ _ _ _ (lw_c15 hl Z hN hx hb hml hown hr hlk hX hbl hL ht J hk hn (nxt ht))
      · exact hK _ _ _ _ _ _ (lw_c16 hl Z hN hx hb hml hown hr hlk hX hbl hL ht J hk hn (nxt ht))
      · exact hK _ _ _ _ _ _ (lw_c17 hl Z hN hx hb hml hown hr hlk hX hbl hL ht J hk hn (nxt ht))
      · exact hK _ _ _ _ _ _ (lw_c18 hl Z hN hx hb hml hown hr hlk hX hbl hL ht J hk hn (nxt ht))
      · exact hK _ _ _ _ _ _ (lw_c19 hl Z hN hx hb hml hown hr hlk hX hbl hL ht J hk hn (nxt ht))
      · exact hK _ _ _ _ _ _ (lw_c20 hl Z hN hx hb hml hown hr hlk hX hbl hL ht J hk hn (nxt ht))
    · conv => whnf
      refine ⟨cr_le rfl, ?_⟩
      conv => whnf
      exact hK _ _ _ _ _ _ (cr_G_fg (nxt ht _ _ _ (J9 ht) (by omega) (by omega)) ⟨rfl, rfl, rfl, rfl, (show Value.int (nI (6 * (t + 1))) = Value.int (nI (6 * t) + 6) by rw [show 6 * (t + 1) = 6 * t + 6 by omega, show (6 : Int32) = nI 6 from rfl, nI_add]), trivial⟩)
theorem lw_loop (hl : l.flags = flags0) (Z : cr_Z0 s0 D ca e0) (hN : cr_No s0) (hx : p.tables.exec = Jvm.exec) (hb : c.code = c_L_law) (hml : c.maxLocals = 7) (hown : s0.vm.findClass "CardRightsLaw" = some m.cls) (hr : meth.sig.returnType = some .boolean) (hlk : meth.locks = false) (hX : va_X b L xs s0 s0.heap) (hbl : b < s0.heap.size) (hL : L ≤ 3072) : ∀ (j t : Nat) (H : Heap) (k n : Nat), L < 6 * (t + j) + 6 → 6 * t ≤ L → lw_J s0 D ca e0 x y ad oa t H → k ≤ 100 + 6 * t → n ≤ 200000 + 230 * t → cr_G p l e (cr_rm 1400 601024 7293034) s0 m args below meth c s0.heap.size 601024 7293034 lw_q 23 [some (.ref b), some (.ref x), some (.ref y), some (.ref oa), some (.int (nI (6 * t))), none, none] [] H k n := by
  intro j
  induction j with
  | zero =>
    intro t H k n hj h6 J hk hn
    exact lw_head hl Z hN hx hb hml hown hr hlk hX hbl hL h6 J hk hn (fun ht => absurd ht (by omega))
  | succ j ih =>
    intro t H k n hj h6 J hk hn
    exact lw_head hl Z hN hx hb hml hown hr hlk hX hbl hL h6 J hk hn (fun ht H' k' n' J' hk' hn' => ih (t + 1) H' k' n' (by omega) (by omega) J' hk' hn')
theorem cc_H.only {O : Nat → Prop} {A : Nat → Nat → Nat} {G : mm_G} {w : cc_W} (h : cc_H s0 D ca e0 O H A G w) : cc_H s0 D ca e0 (fun q => O q ∧ q < H.size) H A G w := ⟨fun k i q => ⟨(h.1 k i q).1, (h.1 k i q).2, h.lt q⟩, h.2⟩

set_option maxHeartbeats 4000000 in
set_option maxRecDepth 20000 in
theorem lw_all (hl : l.flags = flags0) (Z : cr_Z0 s0 D ca e0) (hN : cr_No s0) (hx : p.tables.exec = Jvm.exec) (hb : c.code = c_L_law) (hml : c.maxLocals = 7) (hown : s0.vm.findClass "CardRightsLaw" = some m.cls) (hr : meth.sig.returnType = some .boolean) (hlk : meth.locks = false) (hX : va_X b L xs s0 s0.heap) (hbl : b < s0.heap.size) (hL : L ≤ 3072) : cr_G p l e (cr_rm 1400 601024 7293034) s0 m args below meth c s0.heap.size 601024 7293034 lw_q 0 [some (.ref b), none, none, none, none, none, none] [] s0.heap 0 0 := by
  have he0 := cr_e0lt Z
  have hold : cr_Old s0 s0.heap := fun _ _ => rfl
  refine cr_vc [23] 60 (s_Lwi Z hx hb hml hown hr hlk rfl hX hL) (fun K hK => ?_)
  conv => whnf
  refine ⟨cr_le rfl, cr_le rfl, fun q0 Ha n0 => ?_⟩
  obtain ⟨rfl, lqa, sza, ata, fra⟩ := n0
  have frA : cr_Fr (fun _ => False) s0.heap Ha := ⟨by rw [sza]; omega, fun q a _ => fra q a⟩
  have oldA : cr_Old s0 Ha := frA.old hold (Nat.le_refl _) (fun _ z => z.elim)
  conv => whnf
  refine ⟨rfl, ?_⟩
  conv => whnf
  refine ⟨rfl, ?_⟩
  conv => whnf
  refine ⟨4, 14, 2784, _, j_C_init hl Z oldA lqa ata, by decide, cr_le rfl, cr_le rfl, cr_le rfl, fun v9 Hb q9 _ => ?_, fun kd H9 q9 _ => (by cases q9.1)⟩
  obtain ⟨qa, g1, g2, hg1, hg2, cb, szb, frb⟩ := q9
  cases qa
  conv => whnf
  refine ⟨cr_le rfl, ?_⟩
  conv => whnf
  refine ⟨cr_le rfl, cr_le rfl, fun q1 Hc n1 => ?_⟩
  obtain ⟨rfl, lqc, szc, atc, frc⟩ := n1
  have frC : cr_Fr (fun _ => False) Hb Hc := ⟨by rw [szc]; omega, fun q a _ => frc q a⟩
  have lob : s0.heap.size ≤ Hb.size := by omega
  have cb2 := cb.only
  have cc := cb2.fr0 Z lob frC
  conv => whnf
  refine ⟨rfl, ?_⟩
  conv => whnf
  refine ⟨rfl, ?_⟩
  conv => whnf
  refine ⟨1, 31, 116846, _, j_M_init hl Z lqc atc, by decide, cr_le rfl, cr_le rfl, cr_le rfl, fun v9 Hd q9 _ => ?_, fun kd H9 q9 _ => (by cases q9.1)⟩
  obtain ⟨qa, rd, szd, frd⟩ := q9
  cases qa
  have frD : cr_Fr (fun q => q = Hb.size) Hc Hd := ⟨by rw [szd]; omega, fun q a b => frd q a b⟩
  have cd := cc.frT Z (by omega) frD (fun q z => ⟨fun z9 => by have := z9.2; omega, by omega⟩)
  conv => whnf
  refine ⟨cr_le rfl, ?_⟩
  conv => whnf
  refine ⟨1, rfl, by decide, by decide, cr_le rfl, cr_le rfl, fun q2 He n2 => ?_⟩
  obtain ⟨rfl, lqe, sze, ate, fre⟩ := n2
  have frE : cr_Fr (fun _ => False) Hd He := ⟨by rw [sze]; omega, fun q a _ => fre q a⟩
  have ce := cd.fr0 Z (by omega) frE
  have re := rd.fr (H1 := He) (fun q hq => fre q (rd.lt hq).1)
  have dis : ∀ q, mm_S Hb.size (fun k => Hc.size + mm_id k) q → Hb.size ≤ q ∧ q < Hd.size := fun q hq => by
    refine ⟨?_, (rd.lt hq).1⟩
    rcases hq with rfl | ⟨k, hk, rfl⟩
    · exact Nat.le_refl _
    · show Hb.size ≤ Hc.size + mm_id k
      omega
  conv => whnf
  refine ⟨cr_le rfl, ?_⟩
  conv => whnf
  refine ⟨cr_le rfl, ?_⟩
  conv => whnf
  have J : lw_J s0 D ca e0 s0.heap.size Hb.size (fun k => Hc.size + mm_id k) Hd.size 0 He := ⟨_, _, _, _, ⟨ce, re, K_init hg1 hg2, fun q z hq => by have := (dis q hq).1; have := z.2; omega, by omega⟩, rfl, fun z => by have := z.2; omega, fun z => by have := (dis _ z).2; omega, by omega, _, ate⟩
  exact hK _ _ _ _ _ _ (cr_G_fg (lw_loop hl Z hN hx hb hml hown hr hlk hX hbl hL 513 0 He _ _ (by omega) (by omega) J (by omega) (by omega)) ⟨rfl, rfl, rfl, rfl, rfl, trivial⟩)

end LWL
