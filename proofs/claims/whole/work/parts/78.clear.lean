/-! A list is emptied -/
section CLR
variable {l : Launch} {s0 : State} {D : va_G} {ca : Nat → ClassId} {e0 : Nat} {H : Heap}
set_option maxRecDepth 20000 in
theorem j_AL_clear (hl : l.flags = flags0) (Z : cr_Z0 s0 D ca e0) {a ea n : Nat} {f : Nat → Nat} (h : cr_li s0 D ca e0 H a ea n f) : cr_c l s0 y_AL_clear cw_AL_clear 0 0 0 [.ref a] H (fun o H' => o = .inl none ∧ cr_li s0 D ca e0 H' a ea 0 f ∧ cr_Fr (cr_tp s0 a ea) H H') := by
  obtain ⟨ha, md, h1, hd⟩ := h
  refine cr_enter (by decide +kernel) (Nat.le_of_ble_eq_true rfl) (fun hlo P9 E9 S9 M9 A9 B9 T9 C9 C hem hH => ?_)
  have loop : ∀ (j i : Nat) (H1 : Heap) (md' : Int32), i + j = n → va_at D kc (a, .inr (12, [.ref ea, .int 0, .int md'])) H1 → ((n = 0 ∧ ea = e0) ∨ (s0.heap.size ≤ ea ∧ ea ≠ a ∧ ∃ N g, n ≤ N ∧ N ≤ 109 ∧ 2 ≤ N ∧ va_at D kc (ea, cr_ar ca N g) H1)) → cr_Fr (cr_tp s0 a ea) H H1 → cr_G P9 l E9 (cr_rm 0 0 0) S9 M9 A9 B9 T9 C9 s0.heap.size 0 0 (fun o H' => o = .inl none ∧ cr_li s0 D ca e0 H' a ea 0 f ∧ cr_Fr (cr_tp s0 a ea) H H') 27 [some (.ref a), some (.ref ea), some (.int (nI n)), some (.int (nI i))] [] H1 0 0 := by
    intro j
    induction j with
    | zero =>
      intro i H1 md' hij hc hd1 hfr
      refine cr_vc [27] 40 (s_AL_clear hl Z C hem) (fun K hK => ?_)
      conv => whnf
      refine ⟨fun h9 => ?_, fun h9 => absurd (by rw [show i = n by omega]; exact Int32.le_refl _) h9⟩
      conv => whnf
      refine ⟨cr_le rfl, cr_le rfl, rfl, ⟨ha, md', hc, ?_⟩, hfr⟩
      rcases hd1 with ⟨-, q⟩ | ⟨q1, -, N, g, -, q3, q4, q5⟩
      · exact Or.inl ⟨rfl, q⟩
      · exact Or.inr ⟨q1, N, g, Nat.zero_le _, q3, q4, q5, fun i hi => absurd hi (Nat.not_lt_zero _)⟩
    | succ j ih =>
      intro i H1 md' hij hc hd1 hfr
      rcases hd1 with ⟨q, -⟩ | ⟨q1, q0, N, g, q2, q3, q4, q5⟩
      · omega
      refine cr_vc [27] 40 (s_AL_clear hl Z C hem) (fun K hK => ?_)
      conv => whnf
      refine ⟨fun h9 => absurd h9 (cr_nle (by omega) (by omega)), fun h9 => ?_⟩
      conv => whnf
      refine ⟨N, g, i, q5, q1, rfl, by omega, by omega, fun H2 hu2 => ?_⟩
      conv => whnf
      refine ⟨cr_le rfl, ?_⟩
      conv => whnf
      rw [nI_1]
      exact hK _ _ _ _ _ _ (ih (i + 1) H2 md' (by omega) (cr_at_eq hc (hu2.2.2 _ (Ne.symm q0))) (Or.inr ⟨q1, q0, N, _, q2, q3, q4, hu2.2.1⟩) (hfr.trans hu2.fr (fun _ _ q => q) (fun q _ e => Or.inr ⟨e, by rw [e]; exact q1⟩)))
  refine cr_vc [27] 40 (s_AL_clear hl Z C hem) (fun K hK => ?_)
  conv => whnf
  refine ⟨rfl, ?_⟩
  conv => whnf
  refine ⟨_, h1, ?_⟩
  conv => whnf
  refine ⟨_, h1, ha, ⟨rfl, rfl⟩, ?_⟩
  conv => whnf
  intro H7 u7
  conv => whnf
  refine ⟨_, u7.2.1, ?_⟩
  conv => whnf
  refine ⟨cr_le rfl, ?_⟩
  conv => whnf
  refine ⟨_, u7.2.1, ?_⟩
  conv => whnf
  refine ⟨cr_le rfl, ?_⟩
  conv => whnf
  refine ⟨rfl, rfl, ?_⟩
  conv => whnf
  refine ⟨_, u7.2.1, ha, ⟨rfl, rfl⟩, ?_⟩
  conv => whnf
  intro H23 u23
  conv => whnf
  refine ⟨cr_le rfl, ?_⟩
  conv => whnf
  refine hK _ _ _ _ _ _ (loop n 0 H23 _ (by omega) u23.2.1 ?_ ((u7.tr u23).fr.mono (fun q _ e => Or.inl e)))
  rcases hd with q | ⟨q1, N, g, q2, q3, q4, q5, -⟩
  · exact Or.inl q
  · have ne := cr_li_ne Z h1 q5
    exact Or.inr ⟨q1, ne, N, g, q2, q3, q4, cr_at_eq (cr_at_eq q5 (u7.2.2 _ ne)) (u23.2.2 _ ne)⟩
end CLR
