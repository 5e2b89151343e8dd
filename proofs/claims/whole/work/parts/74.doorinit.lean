/-! THE CLASS: a door's constructor (printed by gen/comp17.py) -/
section CDI
variable {l : Launch} {s0 : State} {D : va_G} {ca : Nat → ClassId} {e0 : Nat} {O : Nat → Prop} {H : Heap} {A : Nat → Nat → Nat} {G : mm_G} {w : cc_W}
set_option maxRecDepth 20000 in
theorem j_Dr_init (hl : l.flags = flags0) (Z : cr_Z0 s0 D ca e0) (hold : cr_Old s0 H) {a ra rb : Nat} {x0 : Int32} {f : Nat → Nat} (ha : s0.heap.size ≤ a) (h : va_at D kc (a, .inr (2, [.int 0, .null, .null, .int 0, .int 0, .int 0, .int 0, .int 0, .null, .null])) H) : cr_c l s0 y_Dr_init cw_Dr_init 4 4 83 [.ref a, .int x0, .ref ra, .ref rb] H (fun o H' => o = .inl none ∧ va_at D kc (a, .inr (2, [.int x0, .ref ra, .ref rb, .int 0, .int 0, .int 0, .int 0, .int 0, .ref H.size, .ref (H.size + 3)])) H' ∧ va_at D kc (H.size, .inr (4, [.int 0, .int 0, .ref (H.size + 1), .ref (H.size + 2)])) H' ∧ (∃ g, (∀ i, i < 60 → g i = -1) ∧ va_at D kc (H.size + 1, .inl (ca 0, 60, .inl g)) H') ∧ (∃ g, (∀ i, i < 16 → g i = -1) ∧ va_at D kc (H.size + 2, .inl (ca 0, 16, .inl g)) H') ∧ cr_li s0 D ca e0 H' (H.size + 3) e0 0 f ∧ H'.size = H.size + 4 ∧ ∀ q : Nat, q < H.size → q ≠ a → H'[q]? = H[q]?) := by
  refine cr_enter (by decide +kernel) (Nat.le_of_ble_eq_true rfl) (fun hlo P9 E9 S9 M9 A9 B9 T9 C9 C hem hH => ?_)
  have hlt := cr_at_lt h
  have he0 := cr_e0lt Z
  refine cr_vc [] 120 (s_Dr_init hl Z C hem) (fun K hK => ?_)
  conv => whnf
  refine ⟨rfl, by decide, by decide, ?_⟩
  conv => whnf
  refine ⟨_, h, ha, ⟨rfl, rfl⟩, ?_⟩
  conv => whnf
  intro H6 u6
  conv => whnf
  refine ⟨_, u6.2.1, ha, ⟨rfl, rfl⟩, ?_⟩
  conv => whnf
  intro H11 u11
  conv => whnf
  refine ⟨_, u11.2.1, ha, ⟨rfl, rfl⟩, ?_⟩
  conv => whnf
  intro H16 u16
  conv => whnf
  refine ⟨_, u16.2.1, ha, ⟨rfl, rfl⟩, ?_⟩
  conv => whnf
  intro H21 u21
  conv => whnf
  refine ⟨_, u21.2.1, ha, ⟨rfl, rfl⟩, ?_⟩
  conv => whnf
  intro H26 u26
  conv => whnf
  refine ⟨cr_le rfl, cr_le rfl, fun q30 H30 n30 => ?_⟩
  obtain ⟨e30, lq30, sz30, at30, fr30⟩ := n30
  subst e30
  have s26 : H26.size = H.size := by rw [u26.1, u21.1, u16.1, u11.1, u6.1]
  have a30 := cr_at_eq u26.2.1 (fr30 _ (by omega))
  conv => whnf
  refine ⟨rfl, ?_⟩
  conv => whnf
  refine ⟨rfl, ?_⟩
  conv => whnf
  refine ⟨_, _, _, _, j_Kn_init hl Z lq30 at30, by decide, cr_le rfl, cr_le rfl, cr_le rfl, fun v34 H34 q34 _ => ?_, fun kd H9 q9 _ => by cases q9.1⟩
  obtain ⟨qa, k34, ⟨g1, hg1, l34⟩, ⟨g2, hg2, m34⟩, sz34, fr34⟩ := q34
  cases qa
  have a34 := cr_at_eq a30 (fr34 _ (by omega) (by omega))
  conv => whnf
  refine ⟨_, a34, ha, ⟨rfl, rfl⟩, ?_⟩
  conv => whnf
  intro H37 u37
  conv => whnf
  refine ⟨cr_le rfl, cr_le rfl, fun q41 H41 n41 => ?_⟩
  obtain ⟨e41, lq41, sz41, at41, fr41⟩ := n41
  subst e41
  have s37 : H37.size = H.size + 3 := by rw [u37.1, sz34, sz30, s26]
  have a41 := cr_at_eq u37.2.1 (fr41 _ (by omega))
  have old41 : cr_Old s0 H41 := fun q hq => by
    rw [fr41 q (by omega), u37.2.2 q (by omega), fr34 q (by omega) (by omega), fr30 q (by omega), u26.2.2 q (by omega), u21.2.2 q (by omega), u16.2.2 q (by omega), u11.2.2 q (by omega), u6.2.2 q (by omega)]
    exact hold q hq
  conv => whnf
  refine ⟨rfl, ?_⟩
  conv => whnf
  refine ⟨rfl, ?_⟩
  conv => whnf
  refine ⟨_, _, _, _, j_AL_init (f := f) hl Z old41 lq41 at41, by decide, cr_le rfl, cr_le rfl, cr_le rfl, fun v45 H45 q45 _ => ?_, fun kd H9 q9 _ => by cases q9.1⟩
  obtain ⟨qa, li45, sz45, fr45⟩ := q45
  cases qa
  have a45 := cr_at_eq a41 (fr45 _ (by omega))
  conv => whnf
  refine ⟨_, a45, ha, ⟨rfl, rfl⟩, ?_⟩
  conv => whnf
  intro H48 u48
  conv => whnf
  refine ⟨_, u48.2.1, ha, ⟨rfl, rfl⟩, ?_⟩
  conv => whnf
  intro H53 u53
  conv => whnf
  refine ⟨_, u53.2.1, ha, ⟨rfl, rfl⟩, ?_⟩
  conv => whnf
  intro H58 u58
  conv => whnf
  refine ⟨_, u58.2.1, ha, ⟨rfl, rfl⟩, ?_⟩
  conv => whnf
  intro H63 u63
  conv => whnf
  have f63 : ∀ q, q ≠ a → H63[q]? = H45[q]? := fun q hq => by rw [u63.2.2 q hq, u58.2.2 q hq, u53.2.2 q hq, u48.2.2 q hq]
  have g63 : ∀ q, q ≠ a → q < H.size + 3 → H63[q]? = H34[q]? := fun q hq hs => by rw [f63 q hq, fr45 q (by omega), fr41 q (by omega), u37.2.2 q hq]
  have s30 : H30.size = H.size + 1 := by rw [sz30, s26]
  rw [s30] at k34 l34 m34
  rw [s26] at k34
  refine ⟨cr_le rfl, cr_le rfl, rfl, ?_, cr_at_eq k34 (g63 _ (by omega) (by omega)), ⟨g1, hg1, cr_at_eq l34 (g63 _ (by omega) (by omega))⟩, ⟨g2, hg2, cr_at_eq m34 (g63 _ (by omega) (by omega))⟩, ?_, ?_, fun q h1 h2 => ?_⟩
  · have q9 := u63.2.1
    rw [s26, s37] at q9
    exact q9
  · rw [s37] at li45
    exact li45.fr (f63 _ (by omega)) (f63 _ (by omega))
  · rw [u63.1, u58.1, u53.1, u48.1, sz45, sz41, s37]
  · rw [g63 q h2 (by omega), fr34 q (by omega) (by omega), fr30 q (by omega), u26.2.2 q h2, u21.2.2 q h2, u16.2.2 q h2, u11.2.2 q h2, u6.2.2 q h2]
end CDI
