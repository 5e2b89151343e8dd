/-! THE LIGHT MACHINE, more of it: what lies below lo (statics, the lists' empty array), arrays of booleans, arraycopy, the program's own throws -/
/-- below the law's first heap nothing has changed -/
def cr_Old (s0 : State) (H : Heap) : Prop := ∀ q : Nat, q < s0.heap.size → H[q]? = s0.heap[q]?
theorem cr_wo {s0 V : State} {D : va_G} {ca : Nat → ClassId} {e0 : Nat} (Z : cr_Z0 s0 D ca e0) (hU : cr_W0 s0 V) (args : Array Value) : (Cond.arrayOver (.object "java/lang/Object")).before args V = true := by
  obtain ⟨⟨a0, h⟩, -⟩ := Z
  exact va_AO.use (va_AO.moved hU.alike (va_AO.of (h _ wn_over)))
section CR7
variable {p : Program} {l : Launch} {e : Env} {R : Room} {s : State} {m : MethodId} {args : Array Value} {below : List Frame} {meth : Method} {c : Code} {lo mc ms d : Nat} {Q : cr_Q}
variable {cc : ByteArray} {pc nx : Nat} {D : va_G} {cl : List vw_C} {tys : List (ClassId × FieldType)} {s0 : State} {ca : Nat → ClassId} {e0 : Nat} {own : String} {index : Nat}
def cr_gets (s0 : State) (e0 nx : Nat) : cr_T := fun K _ lv st H k n => cr_Old s0 H ∧ K nx lv (.ref e0 :: st) H k n
theorem cr_gets_ok (hx : p.tables.exec = Jvm.exec) (hb : c.code = cc) (hown : s.vm.findClass own = some m.cls) (Z : cr_Z0 s0 D ca e0) (hU : cr_W0 s0 s) (hlink : (Cond.fieldLink own index "java/util/ArrayList" "DEFAULTCAPACITY_EMPTY_ELEMENTDATA" "[Ljava/lang/Object;").before args s = true) (hd : decode cc pc = .ok (.getstatic index, 3)) (hn : pc + 3 = nx) : cr_Snd p l e R s m args below meth c lo mc ms Q pc (cr_gets s0 e0 nx) := by
  subst hn
  intro K lv st H k n hK h ls locs hl hq
  obtain ⟨cf, kf, fi, f, a, cell, h1, h2, h3, h4, h5, h6, h7, h8⟩ := va_Z.moved hU.alike Z.2.2.1
  refine W.gets hx hb hown hlink h1 h2 h3 h4 (by rw [h.1 a (Array.getElem?_eq_some_iff.mp h5).1]; exact h5) (fun e => by rw [e] at h6; cases h6) h7 rfl hd ?_
  exact hK _ _ _ _ _ _ h.2 ls locs hl hq
def cr_aleE (s0 : State) (D : va_G) (cl : List vw_C) (cA : ClassId) (e0 nx : Nat) : cr_T := fun K _ lv st H k n => match st with
  | .ref a :: r => (∃ x : vp_A, va_at D cl (a, .inl (cA, x)) H ∧ K nx lv (.int (nI x.1) :: r) H k n) ∨ (a = e0 ∧ cr_Old s0 H ∧ K nx lv (.int 0 :: r) H k n)
  | _ => False
theorem cr_aleE_ok {cA : ClassId} {ty : FieldType} {t0 : Nat} (hx : p.tables.exec = Jvm.exec) (hb : c.code = cc) (hK : va_K D cl tys s) (ht : tys[t0]? = some (cA, ty)) (Z : cr_Z0 s0 D ca e0) (hU : cr_W0 s0 s) (hd : decode cc pc = .ok (.arraylength, 1)) (hn : pc + 1 = nx) : cr_Snd p l e R s m args below meth c lo mc ms Q pc (cr_aleE s0 D cl cA e0 nx) := by
  subst hn
  intro K lv st H k n hKK h ls locs hl hq
  match st, h with
  | .ref a :: r, Or.inl ⟨x, h1, h2⟩ => exact va_alen hx hb hK (cr_one h1) 0 t0 rfl ht rfl hd (hKK _ _ _ _ _ _ h2 ls locs hl hq)
  | .ref a :: r, Or.inr ⟨ha, hold, h2⟩ =>
    subst ha
    obtain ⟨cell, g1, g2, g3, g4, g5, -⟩ := va_T.moved hU.alike Z.2.2.2.1
    exact W.alen (n := 0) hx hb (by rw [hold a (Array.getElem?_eq_some_iff.mp g1).1]; exact g1) g2 g5 rfl rfl hd (hKK _ _ _ _ _ _ h2 ls locs hl hq)
-- arrays of booleans
def cr_zald (D : va_G) (cl : List vw_C) (cA : ClassId) (nx : Nat) : cr_T := fun K _ lv st H k n => match st with
  | .int i :: .ref a :: r => ∃ N f j, va_at D cl (a, .inl (cA, N, .inl f)) H ∧ i = nI j ∧ j < N ∧ N < 2 ^ 31 ∧ K nx lv (.int (f j) :: r) H k n
  | _ => False
theorem cr_zald_ok {cA : ClassId} {t0 : Nat} (hx : p.tables.exec = Jvm.exec) (hb : c.code = cc) (hK : va_K D cl tys s) (ht : tys[t0]? = some (cA, .boolean)) (hd : decode cc pc = .ok (.baload, 1)) (hn : pc + 1 = nx) : cr_Snd p l e R s m args below meth c lo mc ms Q pc (cr_zald D cl cA nx) := by
  subst hn
  intro K lv st H k n hKK h ls locs hl hq
  match st, h with
  | .int i :: .ref a :: r, ⟨N, f, j, h1, h2, h3, h4, h5⟩ =>
    subst h2
    refine va_zald hx hb hK (cr_one h1) 0 t0 rfl ht (vp_in_nI h3 h4) hd ?_
    rw [nI_clamp (by omega)]
    exact hKK _ _ _ _ _ _ h5 ls locs hl hq
def cr_zast (D : va_G) (cl : List vw_C) (lo : Nat) (cA : ClassId) (nx : Nat) : cr_T := fun K _ lv st H k n => match st with
  | .int x :: .int i :: .ref a :: r => ∃ N f j, va_at D cl (a, .inl (cA, N, .inl f)) H ∧ lo ≤ a ∧ i = nI j ∧ j < N ∧ N < 2 ^ 31 ∧ (x = 0 ∨ x = 1) ∧ ∀ H', cr_Up D cl H a (.inl (cA, N, .inl (upd f j x))) H' → K nx lv r H' k n
  | _ => False
theorem cr_zast_ok {cA : ClassId} {t0 : Nat} (hx : p.tables.exec = Jvm.exec) (hb : c.code = cc) (hK : va_K D cl tys s) (ht : tys[t0]? = some (cA, .boolean)) (hd : decode cc pc = .ok (.bastore, 1)) (hn : pc + 1 = nx) : cr_Snd p l e R s m args below meth c lo mc ms Q pc (cr_zast D cl lo cA nx) := by
  subst hn
  intro K lv st H k n hKK h ls locs hl hq
  match st, h with
  | .int x :: .int i :: .ref a :: r, ⟨N, f, j, h1, ha, h2, h3, h4, hb01, h5⟩ =>
    subst h2
    have hnar : narrow .boolean (.int x) = .int x := by rcases hb01 with rfl | rfl <;> decide
    refine cr_W_old (cell := vp_cell _ _) h1 rfl (fun hold => ?_)
    refine W.zast hx hb h1 ((hK.2 t0 _ ht).1 N (fun j => .int (f j))) (fun q => by cases q) (by show ¬ (nI j < 0 ∨ (arrV _ _ _).slots.size ≤ _); rw [arrV_size]; exact vp_in_nI h3 h4) rfl rfl hd fun H1 e z oq => ?_
    refine hKK _ _ _ _ _ _ (h5 H1 ⟨z, ?_, oq⟩) ls _ hl (cr_locs1 hq ⟨ha, hold⟩)
    show H1[a]? = some (vp_cell _ _)
    rw [e, nI_clamp (by omega), hnar]
    rw [vp_cell_i, vp_cell_i, arrV_store]
    congr 2
    funext q
    by_cases hq : q = j
    · subst hq
      simp [updV, upd]
    · simp [updV, upd, hq]
/-- System.arraycopy of ints -/
def cr_copyi (s0 : State) (D : va_G) (cl : List vw_C) (d : Nat) (cA : ClassId) (nL nx : Nat) : cr_T := fun K _ lv st H k n => match st with
  | .int z :: .int dp :: .ref a :: .int sp :: .ref a0 :: r => lv.length = nL ∧ 2 ≤ d ∧ (r.map fun v => v.category).sum ≤ 8 ∧ ∃ N0 N1 f g i j w, va_at D cl (a0, .inl (cA, N0, .inl f)) H ∧ va_at D cl (a, .inl (cA, N1, .inl g)) H ∧ s0.heap.size ≤ a ∧ sp = nI i ∧ dp = nI j ∧ z = nI w ∧ i + w ≤ N0 ∧ j + w ≤ N1 ∧ N0 < 2 ^ 31 ∧ N1 < 2 ^ 31 ∧ ∀ H', cr_Up D cl H a (.inl (cA, N1, .inl (va_cpy f g i j w))) H' → K nx lv r H' k n
  | _ => False
theorem cr_copyi_ok {cA : ClassId} {t0 nL : Nat} (hx : p.tables.exec = Jvm.exec) (hb : c.code = cc) (hml : c.maxLocals = nL) (hown : s.vm.findClass own = some m.cls) (hK : va_K D kc tys s) (Z : cr_Z0 s0 D ca e0) (hU : cr_W0 s0 s) (hR : R = cr_rm d mc ms) (ht : tys[t0]? = some (cA, .int)) (hlink : (Cond.methodLink own index arraycopyName).before args s = true) (hd : decode cc pc = .ok (.invokestatic index, 3)) (hn : pc + 3 = nx) : cr_Snd p l e R s m args below meth c s0.heap.size mc ms Q pc (cr_copyi s0 D kc d cA nL nx) := by
  subst hn
  intro K lv st H k n hKK h ls locs hl hq
  match st, h with
  | .int z :: .int dp :: .ref a :: .int sp :: .ref a0 :: r, ⟨hnL, hd2, hcat, N0, N1, f, g, i, j, w, hc0, hc1, ha, e1, e2, e3, h4, h5, h6, h7, h8⟩ =>
    subst e1; subst e2; subst e3
    have hc0' : H[a0]? = some (vp_cell cA (N0, .inl f)) := hc0
    have hc1' : H[a]? = some (vp_cell cA (N1, .inl g)) := hc1
    refine cr_W_old hc1' rfl (fun hold => ?_)
    intro T hT X
    obtain ⟨-, k0, hk0, cm0, hkk0⟩ := (hK.2 t0 _ ht).1 N0 (fun j => .int (f j))
    obtain ⟨-, k1, hk1, cm1, hkk1⟩ := (hK.2 t0 _ ht).1 N1 (fun j => .int (g j))
    have ti : ∀ y : Nat, y < 2 ^ 31 → (nI y).toInt = (y : Int) := fun y hy => nI_toInt hy
    have eci := nI_clamp (n := i) (by omega)
    have ecj := nI_clamp (n := j) (by omega)
    have ecw := nI_clamp (n := w) (by omega)
    obtain ⟨vm', X', step⟩ := X.arraycopy hx hown hlink (cr_w Z wn_cpN rfl hU args) (cr_w Z wn_cpS rfl hU args) (cr_w Z wn_sys rfl hU args) (src := a0) (dst := a) (cs := vp_cell cA (N0, .inl f)) (cd := vp_cell cA (N1, .inl g)) (srcPos := nI i) (destPos := nI j) (n := nI w) (by rw [hT]; exact hc0') (by rw [hT]; exact hc1')
      (fun _ h => by cases h) (fun _ h => by cases h) (fun h => by cases h) (fun h => by cases h) hk0 hk1 hkk0 hkk1 (by show (refKind FieldType.int != refKind FieldType.int || !refKind FieldType.int && FieldType.int != FieldType.int) = false; decide) (nI_pos (by omega)) (nI_pos (by omega)) (nI_pos (by omega))
      (by rw [ti i (by omega), ti w (by omega)]; show ¬ _ > ((arrV cA N0 (fun j => .int (f j))).slots.size : Int); rw [arrV_size]; omega)
      (by rw [ti j (by omega), ti w (by omega)]; show ¬ _ > ((arrV cA N1 (fun j => .int (g j))).slots.size : Int); rw [arrV_size]; omega)
      (fun vm₁ _ i9 hi9 => by
        rw [ecw] at hi9
        have e : (vp_cell cA (N0, .inl f)).slots.getD ((nI i).toNatClampNeg + i9) .null = .int (f (i + i9)) := by
          show (arrV cA N0 (fun j => .int (f j))).slots.getD _ _ = _
          rw [eci, Array.getD_eq_getD_getElem?, arrV_read _ _ (by omega)]
          rfl
        refine ⟨?_, ?_⟩
        · rw [e]
          rfl
        · rw [e]
          exact trivial)
      (g := F0 m pc ls (.int (nI w) :: .int (nI j) :: .ref a :: .int (nI i) :: .ref a0 :: r)) rfl (by rw [hml, ← hnL]; exact hl.1) (rest := r) rfl (by rw [hb]; exact hd) (by rw [hR]; show 1 ≤ d; omega) (by rw [hR]; show 2 * 0 + _ + (5 + 2 + 11) ≤ 60 * d; omega)
    have e1 : copied (vp_cell cA (N0, .inl f)) (vp_cell cA (N1, .inl g)) (nI i) (nI j) (nI w) = vp_cell cA (N1, .inl (va_cpy f g i j w)) := by
      have h9 := va_copied (fun z => .int z) cA cA (n0 := N0) (n1 := N1) (sp := i) (dp := j) (n := w) f g h4
      unfold copied
      rw [eci, ecj, ecw]
      exact h9
    rw [e1] at X' step
    have hlt : a < H.size := (Array.getElem?_eq_some_iff.mp hc1').1
    have hheap : ((T.setVm vm').setCell a (vp_cell cA (N1, .inl (va_cpy f g i j w)))).heap = H.setIfInBounds a (vp_cell cA (N1, .inl (va_cpy f g i j w))) := by rw [← hT]; rfl
    have oq : ∀ q : Nat, q ≠ a → (H.setIfInBounds a (vp_cell cA (N1, .inl (va_cpy f g i j w))))[q]? = H[q]? := fun q hq => by simp [Array.getElem?_setIfInBounds, Ne.symm hq]
    obtain ⟨t, a1, b1⟩ := hKK _ _ _ _ _ _ (h8 _ ⟨by simp, show (H.setIfInBounds a _)[a]? = some _ by simp [Array.getElem?_setIfInBounds, hlt], oq⟩) ls _ hl (fun q hq9 => by
      rcases List.mem_append.mp hq9 with h | h
      · exact hq q h
      · obtain ⟨z, -, hz⟩ := List.mem_map.mp h
        rw [← hz]
        exact ⟨ha, hold⟩) _ hheap X'
    exact ⟨t, step t a1, b1⟩
/-- System.arraycopy of references to Objects -/
def cr_copyq (s0 : State) (D : va_G) (cl : List vw_C) (d : Nat) (cA : ClassId) (cs : List Nat) (nL nx : Nat) : cr_T := fun K _ lv st H k n => match st with
  | .int z :: .int dp :: .ref a :: .int sp :: .ref a0 :: r => lv.length = nL ∧ 2 ≤ d ∧ (r.map fun v => v.category).sum ≤ 8 ∧ ∃ N0 N1 f g i j w, va_at D cl (a0, .inl (cA, N0, .inr (.inr (.inr (.inr f))))) H ∧ va_at D cl (a, .inl (cA, N1, .inr (.inr (.inr (.inr g))))) H ∧ s0.heap.size ≤ a ∧ sp = nI i ∧ dp = nI j ∧ z = nI w ∧ i + w ≤ N0 ∧ j + w ≤ N1 ∧ N0 < 2 ^ 31 ∧ N1 < 2 ^ 31 ∧ (∀ i9 y, i9 < w → f (i + i9) = some y → ∃ ci fs, ci ∈ cs ∧ va_at D cl (y, .inr (ci, fs)) H) ∧ ∀ H', cr_Up D cl H a (.inl (cA, N1, .inr (.inr (.inr (.inr (va_cpy f g i j w)))))) H' → K nx lv r H' k n
  | _ => False
theorem cr_copyq_ok {cA : ClassId} {t0 nL : Nat} {C : String} {cs : List Nat} (hx : p.tables.exec = Jvm.exec) (hb : c.code = cc) (hml : c.maxLocals = nL) (hown : s.vm.findClass own = some m.cls) (hK : va_K D kc tys s) (Z : cr_Z0 s0 D ca e0) (hU : cr_W0 s0 s) (hR : R = cr_rm d mc ms) (ht : tys[t0]? = some (cA, .object C)) (hcast : ∀ ci ∈ cs, ∃ r, kc[ci]? = some r ∧ (Cond.castable r.1 C).before args s = true) (hlink : (Cond.methodLink own index arraycopyName).before args s = true) (hd : decode cc pc = .ok (.invokestatic index, 3)) (hn : pc + 3 = nx) : cr_Snd p l e R s m args below meth c s0.heap.size mc ms Q pc (cr_copyq s0 D kc d cA cs nL nx) := by
  subst hn
  intro K lv st H k n hKK h ls locs hl hq
  match st, h with
  | .int z :: .int dp :: .ref a :: .int sp :: .ref a0 :: r, ⟨hnL, hd2, hcat, N0, N1, f, g, i, j, w, hc0, hc1, ha, e1, e2, e3, h4, h5, h6, h7, hel, h8⟩ =>
    subst e1; subst e2; subst e3
    have hc0' : H[a0]? = some (vp_cell cA (N0, .inr (.inr (.inr (.inr f))))) := hc0
    have hc1' : H[a]? = some (vp_cell cA (N1, .inr (.inr (.inr (.inr g))))) := hc1
    refine cr_W_old hc1' rfl (fun hold => ?_)
    intro T hT X
    obtain ⟨-, k0, hk0, cm0, hkk0⟩ := (hK.2 t0 _ ht).1 N0 (fun j => va_rf (f j))
    obtain ⟨-, k1, hk1, cm1, hkk1⟩ := (hK.2 t0 _ ht).1 N1 (fun j => va_rf (g j))
    have ti : ∀ y : Nat, y < 2 ^ 31 → (nI y).toInt = (y : Int) := fun y hy => nI_toInt hy
    have eci := nI_clamp (n := i) (by omega)
    have ecj := nI_clamp (n := j) (by omega)
    have ecw := nI_clamp (n := w) (by omega)
    obtain ⟨vm', X', step⟩ := X.arraycopy hx hown hlink (cr_w Z wn_cpN rfl hU args) (cr_w Z wn_cpS rfl hU args) (cr_w Z wn_sys rfl hU args) (src := a0) (dst := a) (cs := vp_cell cA (N0, .inr (.inr (.inr (.inr f))))) (cd := vp_cell cA (N1, .inr (.inr (.inr (.inr g))))) (srcPos := nI i) (destPos := nI j) (n := nI w) (by rw [hT]; exact hc0') (by rw [hT]; exact hc1')
      (fun _ h => by cases h) (fun _ h => by cases h) (fun h => by cases h) (fun h => by cases h) hk0 hk1 hkk0 hkk1 rfl (nI_pos (by omega)) (nI_pos (by omega)) (nI_pos (by omega))
      (by rw [ti i (by omega), ti w (by omega)]; show ¬ _ > ((arrV cA N0 (fun j => va_rf (f j))).slots.size : Int); rw [arrV_size]; omega)
      (by rw [ti j (by omega), ti w (by omega)]; show ¬ _ > ((arrV cA N1 (fun j => va_rf (g j))).slots.size : Int); rw [arrV_size]; omega)
      (fun vm₁ hal i9 hi9 => by
        rw [ecw] at hi9
        have e : (vp_cell cA (N0, .inr (.inr (.inr (.inr f))))).slots.getD ((nI i).toNatClampNeg + i9) .null = va_rf (f (i + i9)) := by
          show (arrV cA N0 (fun j => va_rf (f j))).slots.getD _ _ = _
          rw [eci, Array.getD_eq_getD_getElem?, arrV_read _ _ (by omega)]
          rfl
        rw [e]
        cases hy : f (i + i9) with
        | none => exact ⟨rfl, trivial⟩
        | some y =>
          obtain ⟨ci, fs, hci, hv⟩ := hel i9 y hi9 hy
          obtain ⟨r0, hr0, hca⟩ := hcast ci hci
          obtain ⟨r9, hr9, cellV, g1, g2, g3, -⟩ := hv
          have er : r9 = r0 := Option.some.inj (hr9.symm.trans hr0)
          subst er
          have hcls := (hK.1 ci _ hr0).2
          obtain ⟨kA, comp, r1, r2, r3, -⟩ := (hK.2 t0 _ ht).2
          cases hk1.symm.trans r1
          cases hkk1.symm.trans r2
          obtain ⟨c0, t9, w1, w2, w3⟩ := Cond.castable_spec hca
          cases hcls.1.symm.trans w1
          cases r3.symm.trans w2
          obtain ⟨kC, hkC, -⟩ := hcls.2
          obtain ⟨kE, hkE, -⟩ := Vm.findClass_spec r3
          obtain ⟨kC', hkC', -⟩ := hal.2.2 _ _ hkC
          obtain ⟨kE', hkE', -⟩ := hal.2.2 _ _ hkE
          refine ⟨rfl, cellV, (show T.heap[y]? = some cellV by rw [hT]; exact g1), (fun q h => by rw [g3] at h; cases h), ⟨kC', by rw [g2]; exact hkC'⟩, ⟨kE', hkE'⟩, ?_⟩
          show vm₁.assignable _ _ = true
          rw [hal.assignable, g2]
          exact w3)
      (g := F0 m pc ls (.int (nI w) :: .int (nI j) :: .ref a :: .int (nI i) :: .ref a0 :: r)) rfl (by rw [hml, ← hnL]; exact hl.1) (rest := r) rfl (by rw [hb]; exact hd) (by rw [hR]; show 1 ≤ d; omega) (by rw [hR]; show 2 * 0 + _ + (5 + 2 + 11) ≤ 60 * d; omega)
    have e1 : copied (vp_cell cA (N0, .inr (.inr (.inr (.inr f))))) (vp_cell cA (N1, .inr (.inr (.inr (.inr g))))) (nI i) (nI j) (nI w) = vp_cell cA (N1, .inr (.inr (.inr (.inr (va_cpy f g i j w))))) := by
      have h9 := va_copied (fun z => va_rf z) cA cA (n0 := N0) (n1 := N1) (sp := i) (dp := j) (n := w) f g h4
      unfold copied
      rw [eci, ecj, ecw]
      exact h9
    rw [e1] at X' step
    have hlt : a < H.size := (Array.getElem?_eq_some_iff.mp hc1').1
    have hheap : ((T.setVm vm').setCell a (vp_cell cA (N1, .inr (.inr (.inr (.inr (va_cpy f g i j w))))))).heap = H.setIfInBounds a (vp_cell cA (N1, .inr (.inr (.inr (.inr (va_cpy f g i j w)))))) := by rw [← hT]; rfl
    have oq : ∀ q : Nat, q ≠ a → (H.setIfInBounds a (vp_cell cA (N1, .inr (.inr (.inr (.inr (va_cpy f g i j w)))))))[q]? = H[q]? := fun q hq => by simp [Array.getElem?_setIfInBounds, Ne.symm hq]
    obtain ⟨t, a1, b1⟩ := hKK _ _ _ _ _ _ (h8 _ ⟨by simp, show (H.setIfInBounds a _)[a]? = some _ by simp [Array.getElem?_setIfInBounds, hlt], oq⟩) ls _ hl (fun q hq9 => by
      rcases List.mem_append.mp hq9 with h | h
      · exact hq q h
      · obtain ⟨z, -, hz⟩ := List.mem_map.mp h
        rw [← hz]
        exact ⟨ha, hold⟩) _ hheap X'
    exact ⟨t, step t a1, b1⟩
/-- the Class object of Object[] -/
def cr_ldcM (s0 : State) (nx : Nat) : cr_T := fun K _ lv st H k n => ∀ mi, va_Mi "[Ljava/lang/Object;" mi s0 → K nx lv (.ref mi :: st) H k n
theorem cr_ldcM_ok (hx : p.tables.exec = Jvm.exec) (hb : c.code = cc) (hown : s.vm.findClass own = some m.cls) (Z : cr_Z0 s0 D ca e0) (hU : cr_W0 s0 s) (hlink : (Cond.classLink own index "[Ljava/lang/Object;").before args s = true) (hd : decode cc pc = .ok (.ldc index, 2)) (hn : pc + 2 = nx) : cr_Snd p l e R s m args below meth c lo mc ms Q pc (cr_ldcM s0 nx) := by
  subst hn
  intro K lv st H k n hKK h ls locs hl hq
  obtain ⟨mi, hM⟩ := Z.2.2.2.2.2.2
  exact va_ldcM hx hb hown hlink (va_Mi.moved hU.alike hM) hd (hKK _ _ _ _ _ _ (h mi hM) ls locs hl hq)
def cr_getC (s0 : State) (D : va_G) (cl : List vw_C) (cA : ClassId) (d nL nx : Nat) : cr_T := fun K _ lv st H k n => match st with
  | .ref a :: r => lv.length = nL ∧ 1 ≤ d ∧ (r.map fun v => v.category).sum ≤ 8 ∧ (∃ x : vp_A, va_at D cl (a, .inl (cA, x)) H) ∧ ∀ mi, va_Mi "[Ljava/lang/Object;" mi s0 → K nx lv (.ref mi :: r) H k n
  | _ => False
theorem cr_vpn (cA : ClassId) (x : vp_A) : (vp_cell cA x).vm = .none ∧ (vp_cell cA x).cls = cA := by
  obtain ⟨n, f | f | f | f | f⟩ := x <;> exact ⟨rfl, rfl⟩
theorem cr_getC_ok {nL : Nat} (hx : p.tables.exec = Jvm.exec) (hb : c.code = cc) (hml : c.maxLocals = nL) (hown : s.vm.findClass own = some m.cls) (hK : va_K D kc (cr_ty ca) s) (Z : cr_Z0 s0 D ca e0) (hU : cr_W0 s0 s) (hR : R = cr_rm d mc ms) (hlink : (Cond.methodLink own index ⟨"java/lang/Object", "getClass", "()Ljava/lang/Class;"⟩).before args s = true) (hdecl : (Cond.declares ⟨"java/lang/Object", "getClass", "()Ljava/lang/Class;"⟩).before args s = true)
    (hsel : (Cond.selects "[Ljava/lang/Object;" ⟨"java/lang/Object", "getClass", "()Ljava/lang/Class;"⟩ ⟨"java/lang/Object", "getClass", "()Ljava/lang/Class;"⟩).before args s = true) (hinst : (Cond.instanceMethod ⟨"java/lang/Object", "getClass", "()Ljava/lang/Class;"⟩).before args s = true) (hnat : (Cond.native ⟨"java/lang/Object", "getClass", "()Ljava/lang/Class;"⟩).before args s = true) (hd : decode cc pc = .ok (.invokevirtual index, 3)) (hn : pc + 3 = nx) : cr_Snd p l e R s m args below meth c lo mc ms Q pc (cr_getC s0 D kc (ca 3) d nL nx) := by
  subst hn
  intro K lv st H k n hKK h ls locs hl hq
  obtain ⟨mi, hM⟩ := Z.2.2.2.2.2.2
  match st, h with
  | .ref a :: r, ⟨hnL, hd1, hcat, ⟨x, hv⟩, h⟩ =>
    exact va_getC hx hb (by rw [hml, ← hnL]; exact hl.1.symm) hown hlink hdecl hsel hinst hnat (va_Mi.moved hU.alike hM) ⟨vp_cell (ca 3) x, hv, by rw [(cr_vpn _ x).1]; rfl, by rw [(cr_vpn _ x).2]; exact cr_fo hK⟩ (by rw [hR]; exact hd1) (by rw [hR]; show _ + 14 ≤ 60 * d; omega) hd (hKK _ _ _ _ _ _ (h mi hM) ls locs hl hq)
theorem cr_Mi_eq {s0 : State} {C : String} {a b : Nat} (h1 : va_Mi C a s0) (h2 : va_Mi C b s0) : a = b := by
  obtain ⟨c1, k1, x1, x2, x3⟩ := h1
  obtain ⟨c2, k2, y1, y2, y3⟩ := h2
  cases x1.symm.trans y1
  cases x2.symm.trans y2
  exact Option.some.inj (x3.symm.trans y3)
def cr_mmax (mc ms d nL nx : Nat) : cr_T := fun K _ lv st H k n => match st with
  | .int y :: .int x :: r => lv.length = nL ∧ 1 ≤ d ∧ (r.map fun v => v.category).sum ≤ 8 ∧ k ≤ mc ∧ n ≤ ms ∧ K nx lv (.int (if x < y then y else x) :: r) H k n
  | _ => False
theorem cr_mmax_ok {nL : Nat} (hx : p.tables.exec = Jvm.exec) (hb : c.code = cc) (hml : c.maxLocals = nL) (hown : s.vm.findClass own = some m.cls) (hR : R = cr_rm d mc ms) (hlink : (Cond.methodLink own index Lib.Math.max.name).before args s = true) (hstat : (Cond.static Lib.Math.max.name).before args s = true) (hini : (Cond.initialized "java/lang/Math").before args s = true) (hcode : (Cond.code Lib.Math.max.name Lib.Math.max.code 2 (some .int)).before args s = true) (hd : decode cc pc = .ok (.invokestatic index, 3)) (hn : pc + 3 = nx) : cr_Snd p l e R s m args below meth c lo mc ms Q pc (cr_mmax mc ms d nL nx) := by
  subst hn
  intro K lv st H k n hKK h ls locs hl hq
  match st, h with
  | .int y :: .int x :: r, ⟨h1, h2, h3, h4, h5, h6⟩ =>
    exact va_mmax hx hb (by rw [hml, ← h1]; exact hl.1.symm) hown hlink hstat hini hcode (by rw [hR]; exact h2) (by rw [hR]; show _ + 13 ≤ 60 * d; omega) (by rw [hR]; exact h4) (by rw [hR]; exact h5) hd (hKK _ _ _ _ _ _ h6 ls locs hl hq)
def cr_mmin (mc ms d nL nx : Nat) : cr_T := fun K _ lv st H k n => match st with
  | .int y :: .int x :: r => lv.length = nL ∧ 1 ≤ d ∧ (r.map fun v => v.category).sum ≤ 8 ∧ k ≤ mc ∧ n ≤ ms ∧ K nx lv (.int (if y < x then y else x) :: r) H k n
  | _ => False
theorem cr_mmin_ok {nL : Nat} (hx : p.tables.exec = Jvm.exec) (hb : c.code = cc) (hml : c.maxLocals = nL) (hown : s.vm.findClass own = some m.cls) (hR : R = cr_rm d mc ms) (hlink : (Cond.methodLink own index Lib.Math.min.name).before args s = true) (hstat : (Cond.static Lib.Math.min.name).before args s = true) (hini : (Cond.initialized "java/lang/Math").before args s = true) (hcode : (Cond.code Lib.Math.min.name Lib.Math.min.code 2 (some .int)).before args s = true) (hd : decode cc pc = .ok (.invokestatic index, 3)) (hn : pc + 3 = nx) : cr_Snd p l e R s m args below meth c lo mc ms Q pc (cr_mmin mc ms d nL nx) := by
  subst hn
  intro K lv st H k n hKK h ls locs hl hq
  match st, h with
  | .int y :: .int x :: r, ⟨h1, h2, h3, h4, h5, h6⟩ =>
    exact va_mmin hx hb (by rw [hml, ← h1]; exact hl.1.symm) hown hlink hstat hini hcode (by rw [hR]; exact h2) (by rw [hR]; show _ + 13 ≤ 60 * d; omega) (by rw [hR]; exact h4) (by rw [hR]; exact h5) hd (hKK _ _ _ _ _ _ h6 ls locs hl hq)
end CR7
