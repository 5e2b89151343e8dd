/-! THE LIGHT MACHINE, more of it: what lies below lo (statics, the lists' empty array), arrays of booleans, arraycopy, the program's own throws -/
/-- below the law's first heap nothing has changed -/
def cr_Old (s0 : State) (H : Heap) : Prop := ∀ q : Nat, q < s0.heap.size → H[q]? = s0.heap[q]?
theorem cr_wo {s0 V : State} {D : va_G} {ca : Nat → ClassId} {e0 : Nat} (Z : cr_Z0 s0 D ca e0) (hU : cr_W0 s0 V) (args : Array Value) : (Cond.arrayOver (.object "java/lang/Object")).before args V = true := by
  obtain ⟨⟨a0, h⟩, -⟩ := Z
  exact va_AO.use (va_AO.moved hU.alike (va_AO.of (h _ wn_over)))
section CR7
variable {p : Program} {l : Launch} {e : Env} {R : Room} {s : State} {m : MethodId} {args : Array Value} {below : List Frame} {meth : Method} {c : Code} {lo mc ms d : Nat} {Q : cr_Q}
variable {cc : ByteArray} {pc nx : Nat} {D : va_G} {cl : List vw_C} {tys : List (ClassId × FieldType)} {s0 : State} {ca : Nat → ClassId} {e0 : Nat} {own : String} {index : Nat}
def cr_gets (s0 : State) (e0 nx : Nat) : cr_T := fun K _ lv st H k n => cr_Old s0 H ∧ K nx lv (.ref e0 :: st) H k n
theorem cr_gets_ok (hx : p.tables.exec = Jvm.exec) (hb : c.code = cc) (hown : s.vm.findClass own = some m.cls) (Z : cr_Z0 s0 D ca e0) (hU : cr_W0 s0 s) (hlink : (Cond.fieldLink own index "java/util/ArrayList" "DEFAULTCAPACITY_EMPTY_ELEMENTDATA" "[Ljava/lang/Object;").before args s = true) (hd : decode cc pc = .ok (.getstatic index, 3)) (hn : pc + 3 = nx) : cr_Snd p l e R s m args below meth c lo mc ms Q pc (cr_gets s0 e0 nx) := by
  subst hn
  intro K lv st H k n hK h ls locs hl hq
  obtain ⟨cf, kf, fi, f, a, cell, h1, h2, h3, h4, h5, h6, h7, h8⟩ := va_Z.moved hU.alike Z.2.2.1
  refine W.gets hx hb hown hlink h1 h2 h3 h4 (by rw [h.1 a (Array.getElem?_eq_some_iff.mp h5).1]; exact h5) (fun e => by rw [e] at h6; cases h6) h7 rfl hd ?_
  exact hK _ _ _ _ _ _ h.2 ls locs hl hq
def cr_aleE (s0 : State) (D : va_G) (cl : List vw_C) (cA : ClassId) (e0 nx : Nat) : cr_T := fun K _ lv st H k n => match st with
  | .ref a :: r => (∃ x : vp_A, va_at D cl (a, .inl (cA, x)) H ∧ K nx lv (.int (nI x.1) :: r) H k n) ∨ (a = e0 ∧ cr_Old s0 H ∧ K nx lv (.int 0 :: r) H k n)
  | _ => False
theorem cr_aleE_ok {cA : ClassId} {ty : FieldType} {t0 : Nat} (hx : p.tables.exec = Jvm.exec) (hb : c.code = cc) (hK : va_K D cl tys s) (ht : tys[t0]? = some (cA, ty)) (Z : cr_Z0 s0 D ca e0) (hU : cr_W0 s0 s) (hd : decode cc pc = .ok (.arraylength, 1)) (hn : pc + 1 = nx) : cr_Snd p l e R s m args below meth c lo mc ms Q pc (cr_aleE s0 D cl cA e0 nx) := by
  subst hn
  intro K lv st H k n hKK h ls locs hl hq
  match st, h with
  | .ref a :: r, Or.inl ⟨x, h1, h2⟩ => exact va_alen hx hb hK (cr_one h1) 0 t0 rfl ht rfl hd (hKK _ _ _ _ _ _ h2 ls locs hl hq)
  | .ref a :: r, Or.inr ⟨ha, hold, h2⟩ =>
    subst ha
    obtain ⟨cell, g1, g2, g3, g4, g5, -⟩ := va_T.moved hU.alike Z.2.2.2.1
    exact W.alen (n := 0) hx hb (by rw [hold a (Array.getElem?_eq_some_iff.mp g1).1]; exact g1) g2 g5 rfl rfl hd (hKK _ _ _ _ _ _ h2 ls locs hl hq)
-- arrays of booleans
def cr_zald (D : va_G) (cl : List vw_C) (cA : ClassId) (nx : Nat) : cr_T := fun K _ lv st H k n => match st with
  | .int i :: .ref a :: r => ∃ N f j, va_at D cl (a, .inl (cA, N, .inl f)) H ∧ i = nI j ∧ j < N ∧ N < 2 ^ 31 ∧ K nx lv (.int (f j) :: r) H k n
  | _ => False
theorem cr_zald_ok {cA : ClassId} {t0 : Nat} (hx : p.tables.exec = Jvm.exec) (hb : c.code = cc) (hK : va_K D cl tys s) (ht : tys[t0]? = some (cA, .boolean)) (hd : decode cc pc = .ok (.baload, 1)) (hn : pc + 1 = nx) : cr_Snd p l e R s m args below meth c lo mc ms Q pc (cr_zald D cl cA nx) := by
  subst hn
  intro K lv st H k n hKK h ls locs hl hq
  match st, h with
  | .int i :: .ref a :: r, ⟨N, f, j, h1, h2, h3, h4, h5⟩ =>
    subst h2
    refine va_zald hx hb hK (cr_one h1) 0 t0 rfl ht (vp_in_nI h3 h4) hd ?_
    rw [nI_clamp (by omega)]
    exact hKK _ _ _ _ _ _ h5 ls locs hl hq
def cr_zast (D : va_G) (cl : List vw_C) (lo : Nat) (cA : ClassId) (nx : Nat) : cr_T := fun K _ lv st H k n => match st with
  | .int x :: .int i :: .ref a :: r => ∃ N f j, va_at D cl (a, .inl (cA, N, .inl f)) H ∧ lo ≤ a ∧ i = nI j ∧ j < N ∧ N < 2 ^ 31 ∧ (x = 0 ∨ x = 1) ∧ ∀ H', cr_Up D cl H a (.inl (cA, N, .inl (upd f j x))) H' → K nx lv r H' k n
  | _ => False
theorem cr_zast_ok {cA : ClassId} {t0 : Nat} (hx : p.tables.exec = Jvm.exec) (hb : c.code = cc) (hK : va_K D cl tys s) (ht : tys[t0]? = some (cA, .boolean)) (hd : decode cc pc = .ok (.bastore, 1)) (hn : pc + 1 = nx) : cr_Snd p l e R s m args below meth c lo mc ms Q pc (cr_zast D cl lo cA nx) := by
  subst hn
  intro K lv st H k n hKK h ls locs hl hq
  match st, h with
  | .int x :: .int i :: .ref a :: r, ⟨N, f, j, h1, ha, h2, h3, h4, hb01, h5⟩ =>
    subst h2
    have hnar : narrow .boolean (.int x) = .int x := by rcases hb01 with rfl | rfl <;> decide
    refine cr_W_old (cell := vp_cell _ _) h1 rfl (fun hold => ?_)
    refine W.zast hx hb h1 ((hK.2 t0 _ ht).1 N (fun j => .int (f j))) (fun q => by cases q) (by show ¬ (nI j < 0 ∨ (arrV _ _ _).slots.size ≤ _); rw [arrV_size]; exact vp_in_nI h3 h4) rfl rfl hd fun H1 e z oq => ?_
    refine hKK _ _ _ _ _ _ (h5 H1 ⟨z, ?_, oq⟩) ls _ hl (cr_locs1 hq ⟨ha, hold⟩)
    show H1[a]? = some (vp_cell _ _)
    rw [e, nI_clamp (by omega), hnar]
    rw [vp_cell_i, vp_cell_i, arrV_store]
    congr 2
    funext q
    by_cases hq : q = j
    · subst hq
      simp [updV, upd]
    · simp [updV, upd, hq]
/-- System.arraycopy of ints -/
def cr_copyi (s0 : State) (D : va_G) (cl : List vw_C) (d : Nat) (cA : ClassId) (nL nx : Nat) : cr_T := fun K _ lv st H k n => match st with
  | .int z :: .int dp :: .ref a :: .int sp :: .ref a0 :: r => lv.length = nL ∧ 2 ≤ d ∧ (r.map fun v => v.category).sum ≤ 8 ∧ ∃ N0 N1 f g i j w, va_at D cl (a0, .inl (cA, N0, .inl f)) H ∧ va_at D cl (a, .inl (cA, N1, .inl g)) H ∧ s0.heap.size ≤ a ∧ sp = nI i ∧ dp = nI j ∧ z = nI w ∧ i + w ≤ N0 ∧ j + w ≤ N1 ∧ N0 < 2 ^ 31 ∧ N1 < 2 ^ 31 ∧ ∀ H', cr_Up D cl H a (.inl (cA, N1, .inl (va_cpy f g i j w))) H' → K nx lv r H' k n
  | _ => False
theorem cr_copyi_ok {cA : ClassId} {t0 nL : Nat} (hx : p.tables.exec = Jvm.exec) (hb : c.code = cc) (hml : c.maxLocals = nL) (hown : s.vm.findClass own = some m.cls) (hK : va_K D kc tys s) (Z : cr_Z0 s0 D ca e0) (hU : cr_W0 s0 s) (hR : R = cr_rm d mc ms) (ht : tys[t0]? = some (cA, .int)) (hlink : (Cond.methodLink own index arraycopyName).before args s = true) (hd : decode cc pc = .ok (.invokestatic index, 3)) (hn : pc + 3 = nx) : cr_Snd p l e R s m args below meth c s0.heap.size mc ms Q pc (cr_copyi s0 D kc d cA nL nx) := by
  subst hn
  intro K lv st H k n hKK h ls locs hl hq
  match st, h with
  | .int z :: .int dp :: .ref a :: .int sp :: .ref a0 :: r, ⟨hnL, hd2, hcat, N0, N1, f, g, i, j, w, hc0, hc1, ha, e1, e2, e3, h4, h5, h6, h7, h8⟩ =>
    subst e1; subst e2; subst e3
    have hc0' : H[a0]? = some (vp_cell cA (N0, .inl f)) := hc0
    have hc1' : H[a]? = some (vp_cell cA (N1, .inl g)) := hc1
    refine cr_W_old hc1' rfl (fun hold => ?_)
    intro T hT X
    obtain ⟨-, k0, hk0, cm0, hkk0⟩ := (hK.2 t0 _ ht).1 N0 (fun j => .int (f j))
    obtain ⟨-, k1, hk1, cm1, hkk1⟩ := (hK.2 t0 _ ht).1 N1 (fun j => .int (g j))
    have ti : ∀ y : Nat, y < 2 ^ 31 → (nI y).toInt = (y : Int) := fun y hy => nI_toInt hy
    have eci := nI_clamp (n := i) (by omega)
    have ecj := nI_clamp (n := j) (by omega)
    have ecw := nI_clamp (n := w) (by omega)
    obtain ⟨vm', X', step⟩ := X.arraycopy hx hown hlink (cr_w Z wn_cpN rfl hU args) (cr_w Z wn_cpS rfl hU args) (cr_w Z wn_sys rfl hU args) (src := a0) (dst := a) (cs := vp_cell cA (N0, .inl f)) (cd := vp_cell cA (N1, .inl g)) (srcPos := nI i) (destPos := nI j) (n := nI w) (by rw [hT]; exact hc0') (by rw [hT]; exact hc1')
      (fun _ h => by cases h) (fun _ h => by cases h) (fun h => by cases h) (fun h => by cases h) hk0 hk1 hkk0 hkk1 (by show (refKind FieldType.int != refKind FieldType.int || !refKind FieldType.int && FieldType.int != FieldType.int) = false; decide) (nI_pos (by omega)) (nI_pos (by omega)) (nI_pos (by omega))
      (by rw [ti i (by omega), ti w (by omega)]; show ¬ _ > ((arrV cA N0 (fun j => .int (f j))).slots.size : Int); rw [arrV_size]; omega)
      (by rw [ti j (by omega), ti w (by omega)]; show ¬ _ > ((arrV cA N1 (fun j => .int (g j))).slots.size : Int); rw [arrV_size]; omega)
      (fun vm₁ _ i9 hi9 => by
        rw [ecw] at hi9
        have e : (vp_cell cA (N0, .inl f)).slots.getD ((nI i).toNatClampNeg + i9) .null = .int (f (i + i9)) := by
          show (arrV cA N0 (fun j => .int (f j))).slots.getD _ _ = _
          rw [eci, Array.getD_eq_getD_getElem?, arrV_read _ _ (by omega)]
          rfl
        refine ⟨?_, ?_⟩
        · rw [e]
          rfl
        · rw [e]
          exact trivial)
      (g := F0 m pc ls (.int (nI w) :: .int (nI j) :: .ref a :: .int (nI i) :: .ref a0 :: r)) rfl (by rw [hml, ← hnL]; exact hl.1) (rest := r) rfl (by rw [hb]; exact hd) (by rw [hR]; show 1 ≤ d; omega) (by rw [hR]; show 2 * 0 + _ + (5 + 2 + 11) ≤ 60 * d; omega)
    have e1 : copied (vp_cell cA (N0, .inl f)) (vp_cell cA (N1, .inl g)) (nI i) (nI j) (nI w) = vp_cell cA (N1, .inl (va_cpy f g i j w)) := by
      have h9 := va_copied (fun z => .int z) cA cA (n0 := N0) (n1 := N1) (sp := i) (dp := j) (n := w) f g h4
      unfold copied
      rw [eci, ecj, ecw]
      exact h9
    rw [e1] at X' step
    have hlt : a < H.size := (Array.getElem?_eq_some_iff.mp hc1').1
    have hheap : ((T.setVm vm').setCell a (vp_cell cA (N1, .inl (va_cpy f g i j w)))).heap = H.setIfInBounds a (vp_cell cA (N1, .inl (va_cpy f g i j w))) := by rw [← hT]; rfl
    have oq : ∀ q : Nat, q ≠ a → (H.setIfInBounds a (vp_cell cA (N1, .inl (va_cpy f g i j w))))[q]? = H[q]? := fun q hq => by simp [Array.getElem?_setIfInBounds, Ne.symm hq]
    obtain ⟨t, a1, b1⟩ := hKK _ _ _ _ _ _ (h8 _ ⟨by simp, show (H.setIfInBounds a _)[a]? = some _ by simp [Array.getElem?_setIfInBounds, hlt], oq⟩) ls _ hl (fun q hq9 => by
      rcases List.mem_append.mp hq9 with h | h
      · exact hq q h
      · obtain ⟨z, -, hz⟩ := List.mem_map.mp h
        rw [← hz]
        exact ⟨ha, hold⟩) _ hheap X'
    exact ⟨t, step t a1, b1⟩
end CR7
