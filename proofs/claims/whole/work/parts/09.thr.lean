/-! THE PROGRAM's OWN THROWS: new, dup, ldc, <init>, athrow as one step -/
def cr_chain : List String := ["java/lang/RuntimeException", "java/lang/Exception"]
/-- the words that lean on the heap, too -/
def cr_hd : List Cond := [.laysStatic "java/lang/Throwable" "UNASSIGNED_STACK" "[Ljava/lang/StackTraceElement;", .laysStatic "java/lang/Throwable" "SUPPRESSED_SENTINEL" "Ljava/util/List;",
  .isRef (.static "java/lang/Throwable" "UNASSIGNED_STACK" "[Ljava/lang/StackTraceElement;"), .isRef (.static "java/lang/Throwable" "SUPPRESSED_SENTINEL" "Ljava/util/List;")]
theorem cr_ff {u v : State} (hv : v.vm = u.vm) (C n d : String) : v.fieldFound? C n d = u.fieldFound? C n d := by
  unfold State.fieldFound?
  rw [hv]
theorem cr_lsH {u v : State} {a b : Array Value} {C n d : String} (hv : v.vm = u.vm) (hh : ∀ (q : Nat) (cell : Cell), u.heap[q]? = some cell → v.heap[q]? = some cell) (h : (Cond.laysStatic C n d).before a u = true) : (Cond.laysStatic C n d).before b v = true := by
  obtain ⟨c, k, i, f, x, cell, h1, h2, h3, h4, h5, h6, h7, h8, h9⟩ := Cond.laysStatic_spec h
  have e1 : v.vm.findClass C = some c := by rw [hv]; exact h1
  have e2 := (cr_ff hv C n d).trans h2
  simp only [Cond.before, Cond.holds, Cond.value, e1, e2, h4, Option.bind_some, hh x cell h5, Option.map_some, h3, h6, h7, h9, beq_self_eq_true, Bool.and_true, decide_true]
  simp [h8]
theorem cr_irH {u v : State} {a b : Array Value} {C n d : String} (hv : v.vm = u.vm) (hh : ∀ (q : Nat) (cell : Cell), u.heap[q]? = some cell → v.heap[q]? = some cell) (hl : (Cond.laysStatic C n d).before a u = true) (h : (Cond.isRef (.static C n d)).before a u = true) : (Cond.isRef (.static C n d)).before b v = true := by
  obtain ⟨c, k, i, f, x, cell, h1, h2, h3, h4, h5, h6, h7, h8, h9⟩ := Cond.laysStatic_spec hl
  have e2 := (cr_ff hv C n d).trans h2
  have e3 : (Term.static C n d).eval b v none [] v = (Term.static C n d).eval a u none [] u := by
    simp only [Term.eval, State.fieldNamed?, e2, h2, Option.bind_eq_bind, Option.bind_some, h3, beq_self_eq_true, if_true, Option.pure_def, h4, hh x cell h5, h5]
  simp only [Cond.before, Cond.holds, Cond.value, e3] at h ⊢
  exact h
theorem cr_hdH {s0 V : State} {D : va_G} {ca : Nat → ClassId} {e0 : Nat} (Z : cr_Z0 s0 D ca e0) (hU : cr_W0 s0 V) (hold : cr_Old s0 V.heap) (args : Array Value) : ∀ a ∈ cr_hd, a.before args V = true := by
  obtain ⟨⟨a0, h⟩, -, -, -, ⟨a1, g1, g2⟩, -⟩ := Z
  have hh : ∀ (q : Nat) (cell : Cell), (s0.setVm V.vm).heap[q]? = some cell → V.heap[q]? = some cell := fun q cell hq => by
    have hq' : s0.heap[q]? = some cell := hq
    rw [hold q (Array.getElem?_eq_some_iff.mp hq').1]
    exact hq'
  have sh := State.Shifted.of_warmed hU
  have l1 := Cond.before_shiftedFace (args := a0) sh _ rfl (h _ wn_lsU)
  have l2 := Cond.before_shiftedFace (args := a0) sh _ rfl (h _ wn_lsS)
  have l1' := Cond.before_shiftedFace (args := a1) sh (.laysStatic "java/lang/Throwable" "UNASSIGNED_STACK" "[Ljava/lang/StackTraceElement;") rfl (show _ = true from h _ wn_lsU)
  have l2' := Cond.before_shiftedFace (args := a1) sh (.laysStatic "java/lang/Throwable" "SUPPRESSED_SENTINEL" "Ljava/util/List;") rfl (show _ = true from h _ wn_lsS)
  have r1 := Cond.before_shiftedFace (args := a1) sh _ rfl g1
  have r2 := Cond.before_shiftedFace (args := a1) sh _ rfl g2
  unfold cr_hd
  refine List.forall_mem_cons.mpr ⟨cr_lsH (u := s0.setVm V.vm) rfl hh l1, List.forall_mem_cons.mpr ⟨cr_lsH (u := s0.setVm V.vm) rfl hh l2, List.forall_mem_cons.mpr ⟨cr_irH (u := s0.setVm V.vm) rfl hh l1' r1, List.forall_mem_cons.mpr ⟨cr_irH (u := s0.setVm V.vm) rfl hh l2' r2, fun _ h => absurd h List.not_mem_nil⟩⟩⟩⟩
theorem cr_own {s0 V : State} {D : va_G} {ca : Nat → ClassId} {e0 : Nat} {L : List Cond} (Z : cr_Z0 s0 D ca e0) (hL : ∀ a ∈ L, (cr_ok a = true ∧ a ∈ lw_tbl) ∨ a ∈ cr_hd) (hU : cr_W0 s0 V) (hold : cr_Old s0 V.heap) (args : Array Value) : ∀ a ∈ L, a.before args V = true := by
  intro a ha
  rcases hL a ha with ⟨h1, h2⟩ | h
  · exact cr_w Z h2 h1 hU args
  · exact cr_hdH Z hU hold args a h
/-- an illegal argument (1) or state (2) is thrown; nothing that was there changes -/
def cr_thr (s0 : State) (mc ms d kd nL : Nat) : cr_T := fun _ Q lv st H k n => cr_Old s0 H ∧ lv.length = nL ∧ k + 1 ≤ mc ∧ n + 6 ≤ ms ∧ 6 ≤ d ∧ (st.map fun v => v.category).sum ≤ 4 ∧ ∀ H' : Heap, H.size ≤ H'.size → (∀ q : Nat, q < H.size → H'[q]? = H[q]?) → Q (.inr kd) H'
section CR8
variable {p : Program} {l : Launch} {e : Env} {R : Room} {s : State} {m : MethodId} {args : Array Value} {below : List Frame} {meth : Method} {c : Code} {mc ms d : Nat} {Q : cr_Q}
variable {cc : ByteArray} {pc : Nat} {D : va_G} {s0 : State} {ca : Nat → ClassId} {e0 : Nat} {own : String} {index : Nat}
theorem cr_cell_eq {x y : Cell} (h1 : y = { x with slots := y.slots }) (h2 : ∀ i : Nat, y.slots[i]? = x.slots[i]?) : y = x := by
  have h3 : y.slots = x.slots := Array.ext_getElem? h2
  rw [h1, h3]
/-- the throw, its text already on the stack -/
theorem cr_thr_end {T : State} {k n : Nat} {locs : List Loc} {H : Heap} {ls : Array Slot} {st : List Value} {X : String} {kd ix ic nL pcI q : Nat} (hx : p.tables.exec = Jvm.exec) (hb : c.code = cc) (hml : c.maxLocals = nL) (hown : s.vm.findClass own = some m.cls) (hlk : meth.locks = false) (hU : cr_W0 s0 s) (hR : R = cr_rm d mc ms) (hem : c.exceptionTable.toList = []) (Z : cr_Z0 s0 D ca e0) (hl : l.flags = flags0) (hX : X = cr_ex kd)
    (wC : Cond.classLink own ix X ∈ lw_tbl) (wI : Cond.instantiable X 6 ∈ lw_tbl) (wN : Cond.initialized X ∈ lw_tbl) (hfit : Bundle.fit X = true)
    (hO : ∀ {V : State}, cr_W0 s0 V → cr_Old s0 V.heap → ∀ args, ∀ a ∈ Bundle.ownAtoms own ic X cr_chain, a.before args V = true)
    (d0 : decode cc pc = .ok (.new ix, 3)) (d1 : decode cc (pc + 3) = .ok (.dup, 1)) (d3 : decode cc pcI = .ok (.invokespecial ic, 3)) (d4 : decode cc (pcI + 3) = .ok (.athrow, 1))
    (hT : T.heap = H) (X0 : Stand p l e R s m args below meth c T locs k n) (hls : ls.size = nL) (hold : cr_Old s0 H) (hk : k + 1 ≤ mc) (hn : n + 6 ≤ ms) (hd6 : 6 ≤ d) (hcat : (st.map fun v => v.category).sum ≤ 4) (hq : ∀ q ∈ locs, cr_lc s0.heap.size s q.base)
    (hstr : ∀ (s' : State) (R' : Room) (H2 : Heap) (k2 n2 : Nat) (Q2 : State → Prop) (r : List Value), s'.vm.findClass own = some m.cls → cr_W0 s0 s' → W p l e R' s' m args below meth c H2 [] k2 n2 Q2 (F0 m pcI ls (.ref q :: r)) → W p l e R' s' m args below meth c H2 [] k2 n2 Q2 (F0 m (pc + 4) ls r))
    (hQ : ∀ H' : Heap, H.size ≤ H'.size → (∀ q : Nat, q < H.size → H'[q]? = H[q]?) → Q (.inr kd) H') : ∃ t, Steps p.tables e below (T.setTop (F0 m pc ls st)) t ∧ cr_MQ below s0.heap.size mc ms Q s t := by
  have htr : e.platform.stackTraces = false := Launch.traces_off hl X0.admits
  have hRc : R.cells = mc := by rw [hR]; rfl
  have hRs : R.slots = ms := by rw [hR]; rfl
  have Y := cr_rebase (R' := { frames := R.frames, cells := 1, slots := 6, locals := R.locals }) X0 (Nat.le_refl _) (Nat.le_refl _) (by rw [hRc]; exact hk) (by rw [hRs]; exact hn)
  generalize hs' : T.setFrames (.invoking m args :: below) = s' at Y
  have hvm : s'.vm = T.vm := by rw [← hs']; rfl
  have hhp : s'.heap = H := by rw [← hs']; exact hT
  have hW' : s.WarmedH s'.vm := by rw [hvm]; exact X0.warmed
  have hU' : cr_W0 s0 s' := cr_W0_st s0 s s' hW' hU
  have hown' : s'.vm.findClass own = some m.cls := by rw [hW'.alike.findClass]; exact hown
  -- the walk from here
  have walk : W p l e { frames := R.frames, cells := 1, slots := 6, locals := R.locals } s' m args below meth c H [] 0 0 (fun t => ∃ a, t.status = .running ∧ Ended t below (.threw a) ∧ s'.WarmedH t.vm ∧ s'.sameButNew ({ t with vm := s'.vm } : State) [] 1 6 ∧ ∃ ce, t.heap[a]? = some ce ∧ ce.vm = .none ∧ s'.vm.findClass X = some ce.cls) (F0 m pc ls st) := by
    refine W.newc hx hb hown' (cr_w Z wC rfl hU' args) (cr_w Z wI rfl hU' args) (cr_w Z wN rfl hU' args) rfl d0 (Nat.le_refl _) (Nat.le_refl _) fun cC kC f1 f2 f3 f4 => ?_
    refine lv_dup hx hb d1 rfl ?_
    refine hstr s' _ _ _ _ _ _ hown' hU' ?_
    intro T2 hT2 X2
    have hcell : T2.heap[H.size]? = some (freshCell cC kC) := by rw [hT2, Array.getElem?_push_size]
    obtain ⟨U, u1, u2, u3, u4, u5, ce, u6, u7⟩ := X2.ctorThrowS hx htr (own := own) (cls := X) (names := cr_chain) (ic := ic) hown' hfit (by decide) (hO hU' (by rw [hhp]; exact hold) args) (fun x h => by cases h) f1 f2 hcell (by rw [hhp]; exact Nat.le_refl _) (msg := .ref q) rfl
      (g := F0 m pcI ls (.ref q :: .ref H.size :: .ref H.size :: st)) rfl (by rw [hml]; exact hls) rfl rfl (rest := st) rfl (by rw [hb]; exact d3) (by rw [hb]; exact d4) (by rw [hem]; exact fun _ h => absurd h List.not_mem_nil)
      (by show 2 + 3 < R.frames; rw [hR]; show 2 + 3 < d; omega) (by show 2 * 0 + (1 + (st.map fun v => v.category).sum) + (13 * (2 + 1) + 42) ≤ R.locals; rw [hR]; show _ ≤ 60 * d; omega) hlk
    exact ⟨U, u1, H.size, u2, u3, u4, u5, ce, u6, u7.vm, u7.cls⟩
  obtain ⟨t, a1, a, b1, b2, b3, b4, ce, b5, b6, b7⟩ := walk T hT Y
  have hcells : ∀ y : Nat, y < H.size → t.heap[y]? = H[y]? := by
    intro y hy
    obtain ⟨x, hx9⟩ : ∃ x, H[y]? = some x := ⟨_, Array.getElem?_eq_getElem hy⟩
    obtain ⟨c', g1, g2, g3, g4⟩ := b4.2.2.2.2.2 y x (by rw [hhp]; exact hx9)
    have g5 : c' = x := cr_cell_eq g2 (fun i => g4 i List.not_mem_nil)
    rw [hx9, ← g5]
    exact g1
  have hsz : H.size ≤ t.heap.size := by
    have h9 := b4.2.1
    rw [hhp] at h9
    exact h9
  have same : T.sameButNew ({ t with vm := T.vm } : State) [] 1 6 := by
    obtain ⟨e2, q2, q3, q4, q5, q6⟩ := b4
    refine ⟨?_, by rw [hT, ← hhp]; exact q2, by rw [hT, ← hhp]; exact q3, ?_, ?_, ?_⟩
    · rw [← hs', State.setFrames_setFrames] at e2
      exact e2
    · rw [← hs'] at q4; exact q4
    · rw [← hs'] at q5; exact q5
    · rw [← hs'] at q6; exact q6
  refine ⟨t, a1, .threw a, b1, b2, Or.inr ⟨a, kd, rfl, ⟨ce, b5, by rw [b6]; rfl, ?_⟩, hQ _ hsz hcells⟩, locs ++ [], ⟨State.WarmedH.trans hW' b3, (X0.same.trans (same.setVm s.vm)).mono hk hn⟩, by rw [List.append_nil]; exact hq⟩
  rw [← hX, ← hW'.alike.findClass]
  exact b7
theorem cr_thr_ok {X : String} {kd ix ic nL k1 pc1 pc2 pc3 pc4 : Nat} {tx : String} (hx : p.tables.exec = Jvm.exec) (hb : c.code = cc) (hml : c.maxLocals = nL) (hown : s.vm.findClass own = some m.cls) (hlk : meth.locks = false) (hU : cr_W0 s0 s) (hR : R = cr_rm d mc ms) (hem : c.exceptionTable.toList = []) (Z : cr_Z0 s0 D ca e0) (hl : l.flags = flags0) (hX : X = cr_ex kd)
    (wC : Cond.classLink own ix X ∈ lw_tbl) (wI : Cond.instantiable X 6 ∈ lw_tbl) (wN : Cond.initialized X ∈ lw_tbl)
    (hO : ∀ {s0 V : State} {D : va_G} {ca : Nat → ClassId} {e0 : Nat}, cr_Z0 s0 D ca e0 → cr_W0 s0 V → cr_Old s0 V.heap → ∀ args, ∀ a ∈ Bundle.ownAtoms own ic X cr_chain, a.before args V = true)
    (hstr : ∀ {s0 : State} {D : va_G} {ca : Nat → ClassId} {e0 : Nat}, cr_Z0 s0 D ca e0 → ∃ a, vk_R own k1 tx a s0)
    (d0 : decode cc pc = .ok (.new ix, 3)) (d1 : decode cc pc1 = .ok (.dup, 1)) (d2 : decode cc pc2 = .ok (.ldc k1, 2)) (d3 : decode cc pc3 = .ok (.invokespecial ic, 3)) (d4 : decode cc pc4 = .ok (.athrow, 1)) (e1 : pc + 3 = pc1 := by rfl) (e2 : pc + 4 = pc2 := by rfl) (e3 : pc2 + 2 = pc3 := by rfl) (e4 : pc3 + 3 = pc4 := by rfl) (hfit : Bundle.fit X = true := by decide) :
    cr_Snd p l e R s m args below meth c s0.heap.size mc ms Q pc (cr_thr s0 mc ms d kd nL) := by
  subst e1; subst e2; subst e3; subst e4
  intro K lv st H k n hK h ls locs hll hq
  obtain ⟨h1, h2, h3, h4, h5, h6, h7⟩ := h
  obtain ⟨q, hqs⟩ := hstr Z
  intro T hT X0
  refine cr_thr_end (pc := pc) (pcI := pc + 4 + 2) (q := q) hx hb hml hown hlk hU hR hem Z hl hX wC wI wN hfit (fun hU hold args => hO Z hU hold args) d0 d1 d3 d4 hT X0 (by rw [← h2]; exact hll.1) h1 h3 h4 h5 h6 hq (fun s' R' H2 k2 n2 Q2 r ho hu w => ?_) h7
  exact va_ldcS hx hb ho (vk_R.warm hu hqs) d2 w
theorem cr_ldcwS {s' : State} {R' : Room} {H2 : Heap} {k2 n2 : Nat} {Q2 : State → Prop} {locs : List Loc} {ls : Array Slot} {r : List Value} {tx : String} {k1 q : Nat} (hx : p.tables.exec = Jvm.exec) (hb : c.code = cc) (hown : s'.vm.findClass own = some m.cls) (hZ : vk_R own k1 tx q s') (hd : decode cc pc = .ok (.ldc_w k1, 3)) (w : W p l e R' s' m args below meth c H2 locs k2 n2 Q2 (F0 m (pc + 3) ls (.ref q :: r))) : W p l e R' s' m args below meth c H2 locs k2 n2 Q2 (F0 m pc ls r) := by
  intro T hT X
  obtain ⟨t, a1, b1⟩ := w T hT X
  obtain ⟨k, cf, i, a', hk, hcf, hcp, -, hr, hev'⟩ := Cond.stringRef_spec hown hZ.1
  cases hZ.2.symm.trans hev'
  obtain ⟨k', hk', he⟩ := X.warmed.alike.2.2 _ _ hk
  have hr' : k'.resolved[k1]? = some (some (.string q)) := by
    rcases X.warmed.entry hk hk' k1 with h | ⟨h, -⟩
    · rw [h]; exact hr
    · rw [hr] at h; cases h
  refine ⟨t, ?_, b1⟩
  have hdg : decode c.code (F0 m pc ls r).pc = .ok (.ldc_w k1, 3) := by rw [hb]; exact hd
  jvm_step X.here [hx, hdg, ldc_w.wp_string (e := e) (s := T) (f := F0 m pc ls r) X.here.top hk' (by rw [he]; exact hcf) hcp hr']
  exact a1
theorem cr_thrw_ok {X : String} {kd ix ic nL k1 pc1 pc2 pc3 pc4 : Nat} {tx : String} (hx : p.tables.exec = Jvm.exec) (hb : c.code = cc) (hml : c.maxLocals = nL) (hown : s.vm.findClass own = some m.cls) (hlk : meth.locks = false) (hU : cr_W0 s0 s) (hR : R = cr_rm d mc ms) (hem : c.exceptionTable.toList = []) (Z : cr_Z0 s0 D ca e0) (hl : l.flags = flags0) (hX : X = cr_ex kd)
    (wC : Cond.classLink own ix X ∈ lw_tbl) (wI : Cond.instantiable X 6 ∈ lw_tbl) (wN : Cond.initialized X ∈ lw_tbl)
    (hO : ∀ {s0 V : State} {D : va_G} {ca : Nat → ClassId} {e0 : Nat}, cr_Z0 s0 D ca e0 → cr_W0 s0 V → cr_Old s0 V.heap → ∀ args, ∀ a ∈ Bundle.ownAtoms own ic X cr_chain, a.before args V = true)
    (hstr : ∀ {s0 : State} {D : va_G} {ca : Nat → ClassId} {e0 : Nat}, cr_Z0 s0 D ca e0 → ∃ a, vk_R own k1 tx a s0)
    (d0 : decode cc pc = .ok (.new ix, 3)) (d1 : decode cc pc1 = .ok (.dup, 1)) (d2 : decode cc pc2 = .ok (.ldc_w k1, 3)) (d3 : decode cc pc3 = .ok (.invokespecial ic, 3)) (d4 : decode cc pc4 = .ok (.athrow, 1)) (e1 : pc + 3 = pc1 := by rfl) (e2 : pc + 4 = pc2 := by rfl) (e3 : pc2 + 3 = pc3 := by rfl) (e4 : pc3 + 3 = pc4 := by rfl) (hfit : Bundle.fit X = true := by decide) :
    cr_Snd p l e R s m args below meth c s0.heap.size mc ms Q pc (cr_thr s0 mc ms d kd nL) := by
  subst e1; subst e2; subst e3; subst e4
  intro K lv st H k n hK h ls locs hll hq
  obtain ⟨h1, h2, h3, h4, h5, h6, h7⟩ := h
  obtain ⟨q, hqs⟩ := hstr Z
  intro T hT X0
  refine cr_thr_end (pc := pc) (pcI := pc + 4 + 3) (q := q) hx hb hml hown hlk hU hR hem Z hl hX wC wI wN hfit (fun hU hold args => hO Z hU hold args) d0 d1 d3 d4 hT X0 (by rw [← h2]; exact hll.1) h1 h3 h4 h5 h6 hq (fun s' R' H2 k2 n2 Q2 r ho hu w => ?_) h7
  exact cr_ldcwS hx hb ho (vk_R.warm hu hqs) d2 w
end CR8
