/-! THE CLASS: letIn (printed by gen/comp19.py) -/
section CLI
variable {l : Launch} {s0 : State} {D : va_G} {ca : Nat → ClassId} {e0 : Nat} {O : Nat → Prop} {H : Heap} {A : Nat → Nat → Nat} {G : mm_G} {w : cc_W}
theorem cc_H.weak {O' : Nat → Prop} (h : cc_H s0 D ca e0 O H A G w) (ho : ∀ q, O q → O' q) : cc_H s0 D ca e0 O' H A G w := ⟨fun k i q => ⟨(h.1 k i q).1, ho _ (h.1 k i q).2⟩, h.2⟩
/-- the marks of uses mean the list of uses -/
def cc_U (G : mm_G) (w : cc_W) : Prop := ∀ u, u < 144000 → (w.2.2.2.2.1 (u / 64) &&& (1 <<< ((nI (u % 64)).toInt64 &&& 63)) = 0 ↔ mm_ex (mm_eu G u) 0 (G 32 0) = false)
def w_u (w : cc_W) (fb : Bool) (u : Nat) : cc_W := (w.1, w.2.1, w.2.2.1, w.2.2.2.1, cond fb (vp_updL w.2.2.2.2.1 (u / 64) (w.2.2.2.2.1 (u / 64) ||| us_bit u)) w.2.2.2.2.1, w.2.2.2.2.2)
theorem ad_k {fb : Bool} {u k i : Nat} (h1 : k ≠ 33) (h2 : k ≠ 32) : mm_ad G fb u k i = G k i := by
  cases fb with
  | false => rfl
  | true =>
    show mm_up (mm_up G 33 (G 32 0) u) 32 0 (G 32 0 + 1) k i = _
    rw [mm_up_k _ _ _ _ h2, mm_up_k _ _ _ _ h1]
theorem ad_r {fb : Bool} {u : Nat} (hr : cc_r G) : cc_r (mm_ad G fb u) := by
  have e1 : ∀ a b, a ≠ 33 → a ≠ 32 → mm_ad G fb u a b = G a b := fun a b h1 h2 => ad_k h1 h2
  obtain ⟨r1, r2, r3, r4⟩ := hr
  refine ⟨?_, ?_, ?_, fun i hi => ?_⟩
  · simpa [e1] using r1
  · simpa [e1] using r2
  · simpa [e1] using r3
  · have hi2 : cc_l G 13 i := by
      have := (show i / 50 < mm_ad G fb u 4 0 ∧ i % 50 < mm_ad G fb u 12 (i / 50) from hi)
      simp [e1] at this
      exact this
    simpa [e1] using r4 i hi2
theorem ad_same {fb : Bool} {u : Nat} {k i : Nat} (hn : ¬ (k = 12 ∧ (i = 2 ∨ i = 3))) : cc_same G (mm_ad G fb u) w (w_u w fb u) k i := by
  have e1 : ∀ a b, a ≠ 33 → a ≠ 32 → mm_ad G fb u a b = G a b := fun a b h1 h2 => ad_k h1 h2
  unfold cc_same w_u
  split <;> try simp [e1]
  · exact absurd ⟨rfl, Or.inl rfl⟩ hn
  · exact absurd ⟨rfl, Or.inr rfl⟩ hn
theorem mk_l {fb : Bool} {u : Nat} {k i : Nat} : cc_l (mm_ad G fb u) k i = cc_l G k i := by
  have e1 : ∀ a b, a ≠ 33 → a ≠ 32 → mm_ad G fb u a b = G a b := fun a b h1 h2 => ad_k h1 h2
  unfold cc_l
  split <;> simp [e1]
theorem cc_mark (hl : l.flags = flags0) (Z : cr_Z0 s0 D ca e0) (h : cc_H s0 D ca e0 O H A G w) (hr : cc_r G) (hU : cc_U G w) {g z t u : Nat} {x9 : Int32} (hx : x9 = nI t) (hg : g < 10) (hz : z < 10) (ht : t < 1440) (hu : (g * 10 + z) * 1440 + t = u) {fb : Bool} (hfb : (!mm_ex (mm_eu G u) 0 (G 32 0)) = fb) :
    cr_c l s0 y_Us_mark cw_Us_mark 0 0 0 [.ref (A 12 2), .int (nI g), .int (nI z), .int x9] H (fun o H' => o = .inl none ∧ cc_H s0 D ca e0 O H' A (mm_ad G fb u) (w_u w fb u) ∧ cr_Fr O H H' ∧ H'.size = H.size) := by
  subst hx
  have c2 := h.c 12 2 (show 2 < 6 by decide)
  have c3 := h.c 12 3 (show 3 < 6 by decide)
  have l2 := h.lo 12 2 (show 2 < 6 by decide)
  have l3 := h.lo 12 3 (show 3 < 6 by decide)
  have hb := hU u (by omega)
  cases fb with
  | false =>
    have hm : mm_ex (mm_eu G u) 0 (G 32 0) = true := by
      cases q : mm_ex (mm_eu G u) 0 (G 32 0)
      · rw [q] at hfb
        cases hfb
      · rfl
    refine cr_c_mono (j_Us_mark_old hl Z l2.1 l3.1 c2 c3 hg hz ht hu (fun q => ?_)) (fun o H' q => ?_)
    · have := hb.mp q
      rw [hm] at this
      cases this
    · obtain ⟨q1, q2⟩ := q
      subst q2
      exact ⟨q1, h, cr_Fr.refl _, rfl⟩
  | true =>
    have hm : mm_ex (mm_eu G u) 0 (G 32 0) = false := by
      cases q : mm_ex (mm_eu G u) 0 (G 32 0)
      · rfl
      · rw [q] at hfb
        cases hfb
    have ne : A 12 2 ≠ A 12 3 := fun e => absurd (h.2.2.2.2.1 12 2 12 3 (Or.inl (show 2 < 6 by decide)) (Or.inl (show 3 < 6 by decide)) e).2 (by decide)
    refine cr_c_mono (j_Us_mark_new hl Z l2.1 l3.1 c2 c3 hg hz ht hu (hb.mpr hm) ne) (fun o H' q => ?_)
    obtain ⟨q1, q2, q3, q4, q5⟩ := q
    refine ⟨q1, ?_, ⟨Nat.le_of_eq q4.symm, fun q _ hq => q5 q (fun e => hq (by rw [e]; exact l2.2)) (fun e => hq (by rw [e]; exact l3.2))⟩, q4⟩
    refine h.sets Z hr (P := fun k i => k = 12 ∧ (i = 2 ∨ i = 3)) ?_ (fun q hq => q5 q (hq 12 2 ⟨rfl, Or.inl rfl⟩) (hq 12 3 ⟨rfl, Or.inr rfl⟩)) ?_ (fun k hk => ad_k (by omega) (by omega)) (fun d => ad_k (by decide) (by decide)) (fun k i _ _ hn => ad_same hn)
    · rintro k i ⟨rfl, rfl | rfl⟩
      · exact ⟨show 2 < 6 by decide, rfl⟩
      · exact ⟨show 3 < 6 by decide, rfl⟩
    · rintro k i ⟨rfl, rfl | rfl⟩
      · have e : mm_ad G true u 32 0 = G 32 0 + 1 := mm_up_s (mm_up G 33 (G 32 0) u) 32 0 _
        show va_at D kc (A 12 2, .inr (10, [.ref (A 12 3), .int (nI (mm_ad G true u 32 0))])) H'
        rw [e, ← nI_1]
        exact q2
      · exact q3
set_option maxRecDepth 20000 in
theorem j_C_letIn_on (hl : l.flags = flags0) (Z : cr_Z0 s0 D ca e0) (h : cc_H s0 D ca e0 O H A G w) (hr : cc_r G) (hU : cc_U G w) {c d room m : Nat} (hc : c < G 19 0) (hd : d < G 4 0) (hrm : room < G 2 0) (h17 : G 17 (G 20 c) < 10) (h3 : G 3 room < 10) (hm : m ≤ 1000000) (hon : G 10 d = 9000) : cr_c l s0 y_C_letIn cw_C_letIn 8 2 112 [.ref (A 14 0), .ref (A 3 c), .ref (A 1 d), .ref (A 0 room), .int (nI m)] H (fun o H' => o = .inl none ∧ ∃ A', cc_H s0 D ca e0 (fun x => O x ∨ H.size ≤ x) H' A' (mm_lt G c d room m) (w_u w (!mm_ex (mm_eu G (mm_u G c room m)) 0 (G 32 0)) (mm_u G c room m)) ∧ (∀ k i, cc_l G k i → A' k i = A k i) ∧ cr_Fr O H H') := by
  refine cr_enter (by decide +kernel) (Nat.le_of_ble_eq_true rfl) (fun hlo P9 E9 S9 M9 A9 B9 T9 C9 C hem hH => ?_)
  have hp : G 20 c < G 16 0 := hr.2.2.1 c hc
  refine cr_vc [] 120 (s_C_letIn hl Z C hem) (fun K hK => ?_)
  conv => whnf
  refine ⟨_, (h.c 14 0 rfl), ?_⟩
  conv => whnf
  refine ⟨_, (h.c 3 c hc), ?_⟩
  conv => whnf
  refine ⟨_, (h.c 2 (G 20 c) hp), ?_⟩
  conv => whnf
  refine ⟨_, (h.c 0 room hrm), ?_⟩
  conv => whnf
  refine ⟨by decide, ?_⟩
  conv => whnf
  refine ⟨rfl, ?_⟩
  conv => whnf
  refine ⟨_, (h.c 12 2 (show 2 < 6 by decide)), _, _, _, _, cc_mark (t := m % 1440) (u := mm_u G c room m) hl Z h hr hU (pk_rem (d := 1440) (show m < 2 ^ 31 by omega) (by decide) (by decide)) h17 h3 (by omega) (by unfold mm_u; omega) rfl, by decide, cr_le rfl, cr_le rfl, cr_le rfl, fun v21 H21 q21 _ => ?_, fun kd H9 q9 _ => by cases q9.1⟩
  obtain ⟨qa, h1, fr1, sz1⟩ := q21
  cases qa
  have old : ∀ k i, cc_l G k i → cc_o k = true → ¬ (k = 12 ∧ (i = 2 ∨ i = 3)) → va_at D kc (A k i, cc_c ca A G w k i) H21 := fun k i ql qo hn => by
    have q := h1.c k i (by rw [mk_l]; exact ql) qo
    rw [cc_c_of hr (fun _ _ _ => rfl) ql qo (ad_same hn)] at q
    exact q
  conv => whnf
  refine ⟨_, (old 1 d hd rfl (by omega)), ?_⟩
  conv => whnf
  refine ⟨fun b28 => ?_, fun b28 => absurd (show cr_b (!decide (G 10 d = 9000)) = 0 by rw [hon]; rfl) b28⟩
  conv => whnf
  refine ⟨_, (old 3 c hc rfl (by omega)), ?_⟩
  conv => whnf
  refine ⟨_, (old 2 (G 20 c) hp rfl (by omega)), (h.lo 2 (G 20 c) hp).1, ⟨rfl, rfl⟩, ?_⟩
  conv => whnf
  intro H60 u60
  conv => whnf
  have ho9 : nI (G 10 d) = 9000 := by rw [hon]; rfl
  have eG : mm_lt G c d room m = mm_up (mm_ad G (!mm_ex (mm_eu G (mm_u G c room m)) 0 (G 32 0)) (mm_u G c room m)) 18 (G 20 c) room := by
    unfold mm_lt mm_le
    rw [if_pos ho9]
  have hp1 : cc_l (mm_ad G (!mm_ex (mm_eu G (mm_u G c room m)) 0 (G 32 0)) (mm_u G c room m)) 2 (G 20 c) := by rw [mk_l]; exact hp
  refine ⟨cr_le rfl, cr_le rfl, rfl, A, ?_, fun _ _ _ => rfl, fr1.trans (u60.fr.mono (fun q _ e => by rw [e]; exact (h.lo 2 (G 20 c) hp).2)) (fun _ _ q => q) (fun _ _ q => q)⟩
  rw [eG]
  refine (h1.set Z (ad_r hr) (k := 2) (i := G 20 c) (w' := w_u w (!mm_ex (mm_eu G (mm_u G c room m)) 0 (G 32 0)) (mm_u G c room m)) hp1 rfl ?_ (fun k hk => mm_up_k _ _ _ _ (by omega)) (fun d => mm_up_k _ _ _ _ (by decide)) (fun k i ql qo hn => ?_)).weak (fun q hq => Or.inl hq)
  · refine ⟨u60.1, ?_, u60.2.2⟩
    show va_at D kc (A 2 (G 20 c), .inr (6, [.int (nI (mm_up (mm_ad G (!mm_ex (mm_eu G (mm_u G c room m)) 0 (G 32 0)) (mm_u G c room m)) 18 (G 20 c) room 17 (G 20 c))), .ref (A 0 (mm_up (mm_ad G (!mm_ex (mm_eu G (mm_u G c room m)) 0 (G 32 0)) (mm_u G c room m)) 18 (G 20 c) room 18 (G 20 c)))])) H60
    rw [mm_up_s, mm_up_k _ _ _ _ (by decide), ad_k (by decide) (by decide)]
    exact u60.2.1
  · have e1 : ∀ a b, a ≠ 18 → mm_up (mm_ad G (!mm_ex (mm_eu G (mm_u G c room m)) 0 (G 32 0)) (mm_u G c room m)) 18 (G 20 c) room a b = mm_ad G (!mm_ex (mm_eu G (mm_u G c room m)) 0 (G 32 0)) (mm_u G c room m) a b := fun a b h1 => mm_up_k _ _ _ _ h1
    unfold cc_same
    split <;> try simp [e1]
    exact mm_up_i _ _ _ _ (fun e9 => hn ⟨rfl, e9⟩)
set_option maxRecDepth 20000 in
theorem j_C_letIn_off (hl : l.flags = flags0) (Z : cr_Z0 s0 D ca e0) (h : cc_H s0 D ca e0 O H A G w) (hr : cc_r G) (hU : cc_U G w) {c d room m : Nat} (hc : c < G 19 0) (hd : d < G 4 0) (hrm : room < G 2 0) (h17 : G 17 (G 20 c) < 10) (h3 : G 3 room < 10) (hm : m ≤ 1000000) (hoff : G 10 d ≠ 9000) (h10 : G 10 d < 2 ^ 31) (hd5 : G 12 d < 50) (h50 : ∀ i, i < G 4 0 → G 12 i ≤ 50) : cr_c l s0 y_C_letIn cw_C_letIn 8 2 112 [.ref (A 14 0), .ref (A 3 c), .ref (A 1 d), .ref (A 0 room), .int (nI m)] H (fun o H' => o = .inl none ∧ ∃ A', cc_H s0 D ca e0 (fun x => O x ∨ H.size ≤ x) H' A' (mm_lt G c d room m) (w_u w (!mm_ex (mm_eu G (mm_u G c room m)) 0 (G 32 0)) (mm_u G c room m)) ∧ (∀ k i, cc_l G k i → A' k i = A k i) ∧ cr_Fr O H H') := by
  refine cr_enter (by decide +kernel) (Nat.le_of_ble_eq_true rfl) (fun hlo P9 E9 S9 M9 A9 B9 T9 C9 C hem hH => ?_)
  have hp : G 20 c < G 16 0 := hr.2.2.1 c hc
  refine cr_vc [] 120 (s_C_letIn hl Z C hem) (fun K hK => ?_)
  conv => whnf
  refine ⟨_, (h.c 14 0 rfl), ?_⟩
  conv => whnf
  refine ⟨_, (h.c 3 c hc), ?_⟩
  conv => whnf
  refine ⟨_, (h.c 2 (G 20 c) hp), ?_⟩
  conv => whnf
  refine ⟨_, (h.c 0 room hrm), ?_⟩
  conv => whnf
  refine ⟨by decide, ?_⟩
  conv => whnf
  refine ⟨rfl, ?_⟩
  conv => whnf
  refine ⟨_, (h.c 12 2 (show 2 < 6 by decide)), _, _, _, _, cc_mark (t := m % 1440) (u := mm_u G c room m) hl Z h hr hU (pk_rem (d := 1440) (show m < 2 ^ 31 by omega) (by decide) (by decide)) h17 h3 (by omega) (by unfold mm_u; omega) rfl, by decide, cr_le rfl, cr_le rfl, cr_le rfl, fun v21 H21 q21 _ => ?_, fun kd H9 q9 _ => by cases q9.1⟩
  obtain ⟨qa, h1, fr1, sz1⟩ := q21
  cases qa
  have old : ∀ k i, cc_l G k i → cc_o k = true → ¬ (k = 12 ∧ (i = 2 ∨ i = 3)) → va_at D kc (A k i, cc_c ca A G w k i) H21 := fun k i ql qo hn => by
    have q := h1.c k i (by rw [mk_l]; exact ql) qo
    rw [cc_c_of hr (fun _ _ _ => rfl) ql qo (ad_same hn)] at q
    exact q
  conv => whnf
  refine ⟨_, (old 1 d hd rfl (by omega)), ?_⟩
  conv => whnf
  refine ⟨fun b28 => absurd b28 (by rw [show (!decide (G 10 d = 9000)) = true by simp [hoff]]; decide), fun b28 => ?_⟩
  conv => whnf
  refine ⟨_, (old 1 d hd rfl (by omega)), ?_⟩
  conv => whnf
  refine ⟨cr_le rfl, cr_le rfl, fun q35 H35 n35 => ?_⟩
  obtain ⟨e35, lq, sz35, at35, fr35⟩ := n35
  subst e35
  have he0 := cr_e0lt Z
  have hd1 : d < mm_ad G (!mm_ex (mm_eu G (mm_u G c room m)) 0 (G 32 0)) (mm_u G c room m) 4 0 := by rw [ad_k (by decide) (by decide)]; exact hd
  have l12 : mm_ad G (!mm_ex (mm_eu G (mm_u G c room m)) 0 (G 32 0)) (mm_u G c room m) 12 d = G 12 d := ad_k (by decide) (by decide)
  have li1 := h1.2.2.2.1 d hd1
  rw [l12] at li1
  have l7 : A 7 d < H21.size := li1.lt.1
  have l8 : A 8 d < H21.size := by
    by_cases q8 : A 8 d = e0
    · omega
    · exact li1.lt.2 q8
  have liN := li1.fr (fr35 _ l7) (fr35 _ l8)
  conv => whnf
  refine ⟨rfl, ?_⟩
  conv => whnf
  refine ⟨rfl, ?_⟩
  conv => whnf
  refine ⟨_, _, _, _, j_Rw_init hl Z lq at35, by decide, cr_le rfl, cr_le rfl, cr_le rfl, fun v43 H43 q43 _ => ?_, fun kd H9 q9 _ => by cases q9.1⟩
  obtain ⟨qa, uI⟩ := q43
  cases qa
  have liI := liN.fr (uI.2.2 _ (by omega)) (uI.2.2 _ (by omega))
  obtain ⟨mdI, halI, -⟩ := liI.2
  have frI : cr_Fr (fun _ => False) H21 H43 := ⟨by rw [uI.1, sz35]; omega, fun q a _ => (uI.2.2 q (by omega)).trans (fr35 q a)⟩
  have oldI : cr_Old s0 H43 := frI.old h1.old (by omega) (fun _ q => q.elim)
  have hin := h1.2.2.2.2.1
  have lR : ∀ j, j < G 12 d → cc_l (mm_ad G (!mm_ex (mm_eu G (mm_u G c room m)) 0 (G 32 0)) (mm_u G c room m)) 13 (50 * d + j) := fun j hj => by
    rw [mk_l]
    have := h50 d hd
    have q9 : (50 * d + j) / 50 < G 4 0 ∧ (50 * d + j) % 50 < G 12 ((50 * d + j) / 50) := by
      rw [show (50 * d + j) / 50 = d by omega]
      omega
    exact q9
  conv => whnf
  refine ⟨rfl, ?_⟩
  conv => whnf
  refine ⟨_, halI, _, _, _, _, j_AL_add (v := H21.size) hl Z oldI liI (show G 12 d ≤ 72 by omega) (fun i hi => ⟨fun e => absurd (hin 13 (50 * d + i) 7 d (Or.inl (lR i hi)) (Or.inl hd1) e).1 (by decide), 9, _, by decide, frI.at (h1.c 13 (50 * d + i) (lR i hi)) (fun q => q)⟩) ⟨9, _, by decide, uI.2.1⟩ (by omega), by decide, cr_le rfl, cr_le rfl, cr_le rfl, fun v46 H46 q46 _ => ?_, fun kd H9 q9 _ => by cases q9.1⟩
  obtain ⟨qa, ea, liA, hea, frA⟩ := q46
  cases qa
  have atA := frA.at uI.2.1 (by
    rintro (e | ⟨e, -⟩)
    · omega
    · omega)
  have frT := frI.trans frA (fun _ _ q => q.elim) (fun _ _ q => q)
  conv => whnf
  refine ⟨rfl, ?_⟩
  conv => whnf
  have ho9 : ¬ nI (G 10 d) = 9000 := fun e => hoff ((nI_eq (b := 9000) (by omega) (by decide)).mp e)
  have eG : mm_lt G c d room m = mm_up (mm_up (mm_up (mm_up (mm_ad G (!mm_ex (mm_eu G (mm_u G c room m)) 0 (G 32 0)) (mm_u G c room m)) 13 (50 * d + G 12 d) c) 14 (50 * d + G 12 d) room) 15 (50 * d + G 12 d) m) 12 d (G 12 d + 1) := by
    unfold mm_lt mm_le
    rw [if_neg ho9]
  generalize hG1 : mm_ad G (!mm_ex (mm_eu G (mm_u G c room m)) 0 (G 32 0)) (mm_u G c room m) = G1 at *
  have hr1 : cc_r G1 := by rw [← hG1]; exact ad_r hr
  have k4 : G1 4 0 = G 4 0 := by rw [← hG1]; exact ad_k (by decide) (by decide)
  have k12 : ∀ j, G1 12 j = G 12 j := fun j => by rw [← hG1]; exact ad_k (by decide) (by decide)
  have eA : ∀ k i, cc_l G k i → rw_A A d (G 12 d) H21.size ea k i = A k i := rw_hA hd5
  refine ⟨cr_le rfl, cr_le rfl, rfl, rw_A A d (G 12 d) H21.size ea, ?_, eA, ?_⟩
  · rw [eG, ← sz1, ← l12]
    refine cc_addrow he0 h1 hr1 (by omega) hd1 (by rw [l12]; exact hd5) (fun i hi => by rw [k12]; rw [k4] at hi; exact h50 i hi) (fun k hk => ?_) (fun j hj => ?_) (mm_up_s _ _ _ _) frT (Nat.le_refl _) ?_ ?_ (by rw [l12]; exact liA) (fun k i ql qo => ?_)
    · rw [mm_up_k _ _ _ _ (by omega), mm_up_k _ _ _ _ (by omega), mm_up_k _ _ _ _ (by omega), mm_up_k _ _ _ _ (by omega)]
    · rw [mm_up_i _ _ _ _ hj, mm_up_k _ _ _ _ (by decide), mm_up_k _ _ _ _ (by decide), mm_up_k _ _ _ _ (by decide)]
    · rcases hea with e | e
      · exact Or.inl e
      · exact Or.inr (by rw [e, uI.1, sz35]; omega)
    · rw [l12]
      generalize hG2 : mm_up (mm_up (mm_up (mm_up G1 13 (50 * d + G 12 d) c) 14 (50 * d + G 12 d) room) 15 (50 * d + G 12 d) m) 12 d (G 12 d + 1) = G2
      have v13 : G2 13 (50 * d + G 12 d) = c := by rw [← hG2, mm_up_k _ _ _ _ (by decide), mm_up_k _ _ _ _ (by decide), mm_up_k _ _ _ _ (by decide), mm_up_s]
      have v14 : G2 14 (50 * d + G 12 d) = room := by rw [← hG2, mm_up_k _ _ _ _ (by decide), mm_up_k _ _ _ _ (by decide), mm_up_s]
      have v15 : G2 15 (50 * d + G 12 d) = m := by rw [← hG2, mm_up_k _ _ _ _ (by decide), mm_up_s]
      show va_at D kc (H21.size, .inr (9, [.ref (rw_A A d (G 12 d) H21.size ea 3 (G2 13 (50 * d + G 12 d))), .ref (rw_A A d (G 12 d) H21.size ea 0 (G2 14 (50 * d + G 12 d))), .int (nI (G2 15 (50 * d + G 12 d)))])) H46
      rw [v13, v14, v15, rw_A_old (by omega) (by omega), rw_A_old (by omega) (by omega)]
      exact atA
    · have ne : ∀ x, cc_l G1 13 x → x ≠ 50 * d + G1 12 d := fun x hx e9 => by
        have h2 := (show x / 50 < G1 4 0 ∧ x % 50 < G1 12 (x / 50) from hx)
        have e10 : x / 50 = d := by omega
        rw [e10] at h2
        omega
      generalize G1 12 d = n at ne ⊢
      have e1 : ∀ a b, a ≠ 12 → a ≠ 13 → a ≠ 14 → a ≠ 15 → mm_up (mm_up (mm_up (mm_up G1 13 (50 * d + n) c) 14 (50 * d + n) room) 15 (50 * d + n) m) 12 d (n + 1) a b = G1 a b := fun a b q1 q2 q3 q4 => by
        rw [mm_up_k _ _ _ _ q1, mm_up_k _ _ _ _ q4, mm_up_k _ _ _ _ q3, mm_up_k _ _ _ _ q2]
      have e2 : ∀ a b, a ≠ 12 → b ≠ 50 * d + n → mm_up (mm_up (mm_up (mm_up G1 13 (50 * d + n) c) 14 (50 * d + n) room) 15 (50 * d + n) m) 12 d (n + 1) a b = G1 a b := fun a b q1 q2 => by
        rw [mm_up_k _ _ _ _ q1, mm_up_i _ _ _ _ q2, mm_up_i _ _ _ _ q2, mm_up_i _ _ _ _ q2]
      unfold cc_same
      split <;> try simp [e1]
      have q2 := ne _ ql
      exact ⟨e2 _ _ (by decide) q2, e2 _ _ (by decide) q2, e2 _ _ (by decide) q2⟩
  · refine fr1.trans frT (fun _ _ q => q) (fun q hq hT => ?_)
    rcases hT with e | ⟨e, e2⟩
    · rw [e]
      exact (h1.lo 7 d hd1).2
    · by_cases q8 : A 8 d = e0
      · omega
      · rw [e]
        exact (h1.1 8 d (Or.inr (Or.inr ⟨rfl, hd1, q8⟩))).2
end CLI
