/-! CONTRACTS, the library's lists: growing, adding, clearing, making -/
section JDK3
variable {l : Launch} {s0 : State} {D : va_G} {ca : Nat → ClassId} {e0 : Nat} {H : Heap}
abbrev cr_ar (ca : Nat → ClassId) (N : Nat) (g : Nat → Option Nat) : va_E := .inl (ca 3, N, .inr (.inr (.inr (.inr g))))
/-- an array is no object -/
theorem cr_li_ne (Z : cr_Z0 s0 D ca e0) {a ea N : Nat} {fs : List Value} {g : Nat → Option Nat} (h1 : va_at D kc (a, .inr (12, fs)) H) (h2 : va_at D kc (ea, cr_ar ca N g) H) : ea ≠ a := by
  intro e
  subst e
  obtain ⟨r, r1, cell, r2, r3, r4, r5⟩ := h1
  have r6 : H[ea]? = some (vp_cell (ca 3) (N, .inr (.inr (.inr (.inr g))))) := h2
  cases r2.symm.trans r6
  have hK := Z.2.1
  obtain ⟨-, k0, hk0, hkk⟩ := (hK.1 12 _ (show kc[12]? = some (R_AL, T_AL, 3) from rfl)).2
  obtain ⟨kA, comp, k1, k2, -⟩ := (hK.2 3 _ (show (cr_ty ca)[3]? = some (ca 3, .object "java/lang/Object") from rfl)).2
  rw [← r3] at hk0
  cases k1.symm.trans hk0
  rw [k2] at hkk
  cases hkk
/-- a list whose array is full gets a greater one; what it had is there -/
def cr_gr (s0 : State) (D : va_G) (ca : Nat → ClassId) (H : Heap) (a n : Nat) (md : Int32) (f : Nat → Nat) : cr_Q := fun o H' =>
  o = .inl (some (.ref H.size)) ∧ s0.heap.size ≤ H.size ∧ (∃ N' g', n < N' ∧ N' ≤ 109 ∧ 2 ≤ N' ∧ va_at D kc (H.size, cr_ar ca N' g') H' ∧ ∀ i, i < n → g' i = some (f i)) ∧ va_at D kc (a, .inr (12, [.ref H.size, .int (nI n), .int md])) H' ∧ cr_Fr (fun q => q = a) H H'
theorem j_AL_grow1_first (hl : l.flags = flags0) (Z : cr_Z0 s0 D ca e0) (hold : cr_Old s0 H) {a : Nat} {md : Int32} {f : Nat → Nat} (ha : s0.heap.size ≤ a) (h : va_at D kc (a, .inr (12, [.ref e0, .int (nI 0), .int md])) H) :
    cr_c l s0 y_AL_grow1 cw_AL_grow1 4 1 109 [.ref a, .int (nI 1)] H (cr_gr s0 D ca H a 0 md f) := by
  refine cr_enter (by decide +kernel) (Nat.le_of_ble_eq_true rfl) (fun hlo p e s m args below meth c C hem hH => ?_)
  refine cr_vc [] 60 (s_AL_grow1 hl Z C hem) (fun K hK => ?_)
  conv => whnf
  refine ⟨_, h, ?_⟩
  conv => whnf
  refine Or.inr ⟨rfl, hold, ?_⟩
  conv => whnf
  refine ⟨cr_le rfl, ?_⟩
  conv => whnf
  refine ⟨fun h9 => absurd h9 (by decide), fun _ => ?_⟩
  conv => whnf
  refine ⟨_, h, ?_⟩
  conv => whnf
  refine ⟨hold, ?_⟩
  conv => whnf
  refine ⟨fun _ => ?_, fun h9 => absurd rfl h9⟩
  conv => whnf
  refine ⟨rfl, cr_le rfl, cr_le rfl, cr_le rfl, cr_le rfl, ?_⟩
  conv => whnf
  refine ⟨10, by decide, by decide, by decide, by decide, by decide, fun q H1 hnw => ?_⟩
  obtain ⟨hq, hq2, hsz, hat, hfr⟩ := hnw
  subst hq
  conv => whnf
  refine ⟨rfl, rfl, ?_⟩
  conv => whnf
  refine ⟨_, cr_at_eq h (hfr a (cr_at_lt h)), ha, ⟨rfl, rfl⟩, ?_⟩
  conv => whnf
  intro H2 hup
  conv => whnf
  have hlt := cr_at_lt h
  refine ⟨by decide, by decide, rfl, hq2, ⟨10, _, by decide, by decide, by decide, cr_at_eq hat (hup.2.2 _ (by omega)), fun i hi => by omega⟩, hup.2.1, by rw [hup.1, hsz]; omega, fun q h1 h2 => (hup.2.2 q h2).trans (hfr q h1)⟩
theorem j_AL_grow1_more (hl : l.flags = flags0) (Z : cr_Z0 s0 D ca e0) {a ea N : Nat} {md : Int32} {g : Nat → Option Nat} {f : Nat → Nat} (ha : s0.heap.size ≤ a) (h : va_at D kc (a, .inr (12, [.ref ea, .int (nI N), .int md])) H) (h2 : va_at D kc (ea, cr_ar ca N g) H) (hN : 2 ≤ N) (hN' : N ≤ 72) (hg : ∀ i, i < N → g i = some (f i)) (hel : ∀ i, i < N → ∃ ci fs, ci ∈ cs_obj ∧ va_at D kc (f i, .inr (ci, fs)) H) :
    cr_c l s0 y_AL_grow1 cw_AL_grow1 4 1 109 [.ref a, .int (nI (N + 1))] H (cr_gr s0 D ca H a N md f) := by
  refine cr_enter (by decide +kernel) (Nat.le_of_ble_eq_true rfl) (fun hlo p e s m args below meth c C hem hH => ?_)
  refine cr_vc [] 60 (s_AL_grow1 hl Z C hem) (fun K hK => ?_)
  have e2 : nI (N + 1) - nI N = 1 := by
    have k := pk_sub (a := N + 1) (b := N) (by omega)
    rw [Nat.add_sub_cancel_left] at k
    exact k
  have e3 : nI N >>> ((1 : Int32) &&& 31) = nI (N / 2) := by
    have k := pk_shrN (n := N) (by omega) ((1 : Int32) &&& 31) 1 (by decide)
    rw [Nat.pow_one] at k
    exact k
  conv => whnf
  refine ⟨_, h, ?_⟩
  conv => whnf
  refine Or.inl ⟨_, h2, ?_⟩
  conv => whnf
  refine ⟨cr_le rfl, ?_⟩
  conv => whnf
  refine ⟨fun _ => ?_, fun h9 => absurd (show nI 0 < nI N from nI_lt (by omega) (by omega)) h9⟩
  conv => whnf
  refine ⟨rfl, ?_⟩
  conv => whnf
  rw [e2, e3]
  refine cr_aft (j_As_newLength hl Z hN (by omega)) (by decide) (by decide) (by decide) (by decide) ?_
  conv => whnf
  refine ⟨cr_le rfl, ?_⟩
  conv => whnf
  refine ⟨_, h, ?_⟩
  conv => whnf
  refine ⟨rfl, 3, 1, N + N / 2, _, j_Ar_copyOf0 hl Z h2 (by omega) (by omega) (fun i y hi hy => by rw [hg i hi] at hy; cases hy; exact hel i hi), by decide, by decide, by omega, cr_le rfl, fun v H1 hq _ => ?_, fun kd H' hq _ => by cases hq.1⟩
  obtain ⟨hq1, -, hq2, hsz, hat, hfr⟩ := hq
  cases hq1
  conv => whnf
  refine ⟨rfl, rfl, ?_⟩
  conv => whnf
  refine ⟨_, cr_at_eq h (hfr a (cr_at_lt h)), ha, ⟨rfl, rfl⟩, ?_⟩
  conv => whnf
  intro H2 hup
  conv => whnf
  have hlt := cr_at_lt h
  refine ⟨by omega, by omega, rfl, hq2, ⟨N + N / 2, _, by omega, by omega, by omega, cr_at_eq hat (hup.2.2 _ (by omega)), fun i hi => ?_⟩, hup.2.1, by rw [hup.1, hsz]; omega, fun q h1 h2 => (hup.2.2 q h2).trans (hfr q h1)⟩
  rw [va_cpy, if_pos ⟨Nat.zero_le _, by omega⟩, Nat.zero_add]
  exact hg i hi
theorem j_AL_grow0 (hl : l.flags = flags0) (Z : cr_Z0 s0 D ca e0) {a ea n : Nat} {md : Int32} {f : Nat → Nat} (h : va_at D kc (a, .inr (12, [.ref ea, .int (nI n), .int md])) H) (hc : cr_c l s0 y_AL_grow1 cw_AL_grow1 4 1 109 [.ref a, .int (nI (n + 1))] H (cr_gr s0 D ca H a n md f)) :
    cr_c l s0 y_AL_grow0 cw_AL_grow0 5 1 109 [.ref a] H (cr_gr s0 D ca H a n md f) := by
  refine cr_enter (by decide +kernel) (Nat.le_of_ble_eq_true rfl) (fun hlo p e s m args below meth c C hem hH => ?_)
  refine cr_vc [] 60 (s_AL_grow0 hl Z C hem) (fun K hK => ?_)
  conv => whnf
  refine ⟨_, h, ?_⟩
  conv => whnf
  refine ⟨rfl, ?_⟩
  conv => whnf
  rw [nI_1]
  refine ⟨_, h, 4, 1, 109, _, hc, by decide, by decide, by decide, cr_le rfl, fun v H1 hq _ => ?_, fun kd H' hq _ => by cases hq.1⟩
  obtain ⟨hq1, hq2⟩ := hq
  cases hq1
  conv => whnf
  exact ⟨by decide, by decide, rfl, hq2⟩
/-- the places that a list's change may touch -/
def cr_tp (s0 : State) (a ea : Nat) : Nat → Prop := fun q => q = a ∨ (q = ea ∧ s0.heap.size ≤ q)
def cr_ad (s0 : State) (D : va_G) (ca : Nat → ClassId) (e0 : Nat) (H : Heap) (a ea n v : Nat) (f : Nat → Nat) (r : Option Value) : cr_Q := fun o H' =>
  o = .inl r ∧ ∃ ea', cr_li s0 D ca e0 H' a ea' (n + 1) (fun i => if i = n then v else f i) ∧ (ea' = ea ∨ ea' = H.size) ∧ cr_Fr (cr_tp s0 a ea) H H'
theorem j_AL_add1 (hl : l.flags = flags0) (Z : cr_Z0 s0 D ca e0) (hold : cr_Old s0 H) {a ea n v : Nat} {f : Nat → Nat} (h : cr_li s0 D ca e0 H a ea n f) (hn : n ≤ 72) (hel : ∀ i, i < n → ∃ ci fs, ci ∈ cs_obj ∧ va_at D kc (f i, .inr (ci, fs)) H) (hv : ∃ ci fs, ci ∈ cs_obj ∧ va_at D kc (v, .inr (ci, fs)) H) (hva : v ≠ a) :
    cr_c l s0 y_AL_add1 cw_AL_add1 6 1 109 [.ref a, .ref v, .ref ea, .int (nI n)] H (cr_ad s0 D ca e0 H a ea n v f none) := by
  obtain ⟨ha, md, h1, hd⟩ := h
  refine cr_enter (by decide +kernel) (Nat.le_of_ble_eq_true rfl) (fun hlo p e s m args below meth c C hem hH => ?_)
  -- behind the growing
  have fin : ∀ (ea' N : Nat) (g : Nat → Option Nat) (H1 : Heap) (k n9 : Nat), k ≤ 1 → n9 ≤ 109 → s0.heap.size ≤ ea' → n < N → N ≤ 109 → 2 ≤ N → va_at D kc (ea', cr_ar ca N g) H1 → (∀ i, i < n → g i = some (f i)) → va_at D kc (a, .inr (12, [.ref ea', .int (nI n), .int md])) H1 → (ea' = ea ∨ ea' = H.size) → a ≠ ea' → cr_Fr (fun q => q = a) H H1 →
      cr_G p l e (cr_rm 6 1 109) s m args below meth c s0.heap.size 1 109 (cr_ad s0 D ca e0 H a ea n v f none) 11 [some (.ref a), some (.ref v), some (.ref ea'), some (.int (nI n))] [] H1 k n9 := by
    intro ea' N g H1 k n9 hk hn9 hea hN hN1 hN2 hat hg hab hee hae hfr
    refine cr_vc [] 40 (s_AL_add1 hl Z C hem) (fun K hK => ?_)
    obtain ⟨ci, fs, hci, hv⟩ := hv
    conv => whnf
    refine ⟨N, g, n, ci, fs, hat, hea, rfl, hN, by omega, hci, hfr.at hv hva, fun H2 hup => ?_⟩
    conv => whnf
    refine ⟨_, cr_at_eq hab (hup.2.2 a hae), ha, ⟨rfl, rfl⟩, ?_⟩
    conv => whnf
    intro H3 hup3
    conv => whnf
    refine ⟨hk, hn9, rfl, ea', ⟨ha, md, ?_, Or.inr ⟨hea, N, va_up g n (some v), hN, hN1, hN2, cr_at_eq hup.2.1 (hup3.2.2 ea' (Ne.symm hae)), fun i hi => ?_⟩⟩, hee, ?_⟩
    · have h9 := hup3.2.1
      rw [nI_1] at h9
      exact h9
    · by_cases e : i = n
      · simp [va_up, e]
      · simp [va_up, e]
        exact hg i (by omega)
    · refine (hfr.trans hup.fr (S2 := cr_tp s0 a ea) (fun q _ e => Or.inl e) (fun q hq e => ?_)).trans hup3.fr (fun q _ e => e) (fun q _ e => Or.inl e)
      rcases hee with rfl | rfl
      · exact Or.inr ⟨e, by rw [e]; exact hea⟩
      · omega
  have hlt := cr_at_lt h1
  rcases hd with ⟨rfl, rfl⟩ | ⟨hea, N, g, hnN, hN, hN2, hat, hg⟩
  · refine cr_vc [11] 60 (s_AL_add1 hl Z C hem) (fun K hK => ?_)
    conv => whnf
    refine Or.inr ⟨rfl, hold, ?_⟩
    conv => whnf
    refine ⟨fun h9 => absurd rfl h9, fun _ => ?_⟩
    conv => whnf
    refine ⟨rfl, _, h1, 5, 1, 109, _, j_AL_grow0 (f := f) hl Z h1 (j_AL_grow1_first hl Z hold ha h1), by decide, by decide, by decide, cr_le rfl, fun v9 H1 hq _ => ?_, fun kd H' hq _ => by cases hq.1⟩
    obtain ⟨hq1, hq2, ⟨N', g', g1, g2, g3, g4, g5⟩, g6, g7⟩ := hq
    cases hq1
    conv => whnf
    refine ⟨cr_le rfl, ?_⟩
    conv => whnf
    exact hK _ _ _ _ _ _ (fin H.size N' g' H1 _ _ (by decide) (by decide) hq2 g1 g2 g3 g4 g5 g6 (Or.inr rfl) (by omega) g7)
  · have hae : a ≠ ea := Ne.symm (cr_li_ne Z h1 hat)
    refine cr_vc [11] 60 (s_AL_add1 hl Z C hem) (fun K hK => ?_)
    conv => whnf
    refine Or.inl ⟨_, hat, ?_⟩
    conv => whnf
    refine ⟨fun h9 => ?_, fun h9 => ?_⟩
    · conv => whnf
      exact hK _ _ _ _ _ _ (fin ea N g H _ _ (by decide) (by decide) hea (by
        have : n ≠ N := fun e => h9 (by rw [e])
        omega) hN hN2 hat hg h1 (Or.inl rfl) hae (cr_Fr.refl H))
    · have hnN' : n = N := (nI_eq (by omega) (by omega)).mp h9
      subst hnN'
      conv => whnf
      refine ⟨rfl, _, h1, 5, 1, 109, _, j_AL_grow0 (f := f) hl Z h1 (j_AL_grow1_more hl Z ha h1 hat hN2 hn hg hel), by decide, by decide, by decide, cr_le rfl, fun v9 H1 hq _ => ?_, fun kd H' hq _ => by cases hq.1⟩
      obtain ⟨hq1, hq2, ⟨N', g', g1, g2, g3, g4, g5⟩, g6, g7⟩ := hq
      cases hq1
      conv => whnf
      refine ⟨cr_le rfl, ?_⟩
      conv => whnf
      exact hK _ _ _ _ _ _ (fin H.size N' g' H1 _ _ (by decide) (by decide) hq2 g1 g2 g3 g4 g5 g6 (Or.inr rfl) (by omega) g7)
theorem j_AL_add (hl : l.flags = flags0) (Z : cr_Z0 s0 D ca e0) (hold : cr_Old s0 H) {a ea n v : Nat} {f : Nat → Nat} (h : cr_li s0 D ca e0 H a ea n f) (hn : n ≤ 72) (hel : ∀ i, i < n → f i ≠ a ∧ ∃ ci fs, ci ∈ cs_obj ∧ va_at D kc (f i, .inr (ci, fs)) H) (hv : ∃ ci fs, ci ∈ cs_obj ∧ va_at D kc (v, .inr (ci, fs)) H) (hva : v ≠ a) :
    cr_c l s0 y_AL_add0 cw_AL_add0 7 1 109 [.ref a, .ref v] H (cr_ad s0 D ca e0 H a ea n v f (some (.int 1))) := by
  obtain ⟨ha, md, h1, hd⟩ := h
  refine cr_enter (by decide +kernel) (Nat.le_of_ble_eq_true rfl) (fun hlo p e s m args below meth c C hem hH => ?_)
  refine cr_vc [] 60 (s_AL_add0 hl Z C hem) (fun K hK => ?_)
  conv => whnf
  refine ⟨rfl, ?_⟩
  conv => whnf
  refine ⟨_, h1, ?_⟩
  conv => whnf
  refine ⟨_, h1, ha, ⟨rfl, rfl⟩, ?_⟩
  conv => whnf
  intro H1 hup
  have hfr := hup.fr
  have hold1 : cr_Old s0 H1 := hfr.old hold hlo (fun q e => by rw [e]; exact ha)
  have hli : cr_li s0 D ca e0 H1 a ea n f := by
    refine ⟨ha, _, hup.2.1, ?_⟩
    rcases hd with h | ⟨hea, N, g, hnN, hN, hN2, hat, hg⟩
    · exact Or.inl h
    · refine Or.inr ⟨hea, N, g, hnN, hN, hN2, hfr.at hat (cr_li_ne Z h1 hat), hg⟩
  conv => whnf
  refine ⟨_, hup.2.1, ?_⟩
  conv => whnf
  refine ⟨_, hup.2.1, ?_⟩
  conv => whnf
  refine ⟨rfl, _, hup.2.1, 6, 1, 109, _, j_AL_add1 hl Z hold1 hli hn (fun i hi => ?_) ?_ hva, by decide, by decide, by decide, cr_le rfl, fun v9 H2 hq _ => ?_, fun kd H' hq _ => by cases hq.1⟩
  · obtain ⟨h9, ci, fs, q1, q2⟩ := hel i hi
    exact ⟨ci, fs, q1, hfr.at q2 h9⟩
  · obtain ⟨ci, fs, q1, q2⟩ := hv
    exact ⟨ci, fs, q1, hfr.at q2 hva⟩
  obtain ⟨hq1, ea', q1, q2, q3⟩ := hq
  cases hq1
  conv => whnf
  refine ⟨rfl, by decide, by decide, rfl, ea', q1, ?_, hfr.trans q3 (fun q _ e => Or.inl e) (fun q _ e => e)⟩
  rw [← hup.1]
  exact q2
end JDK3
