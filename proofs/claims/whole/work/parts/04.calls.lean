/-! THE LIGHT MACHINE, its calls: a method's contract 'cr_M', how it is entered, how it is used at a call (both outcomes). -/
def cr_rm (d mc ms : Nat) : Room := { frames := d, cells := mc, slots := ms, locals := 60 * d }
/-- from any state with the heap H and the tables' facts U the method y, called with av, ends with Q; d its frames, mc its cells, ms its slots; nothing below lo is written -/
def cr_M (l : Launch) (U : State → Prop) (lo : Nat) (y : MethodName) (cw : Cond) (d mc ms : Nat) (av : List Value) (H : Heap) (Q : cr_Q) : Prop :=
  lo ≤ H.size → MetFree l y (headSpec [cw] (cr_rm d mc ms)) (fun a st => a = av.toArray ∧ st.heap = H ∧ U st) (fun _ _ _ _ _ => True)
    (fun _ st o t => cr_O Q st o t ∧ ∃ L, cr_FE st t L mc ms ∧ ∀ q ∈ L, cr_lc lo st q.base)
/-- the facts are of the tables alone, and warmer tables keep them -/
def cr_St (U : State → Prop) : Prop := ∀ u v : State, u.WarmedH v.vm → U u → U v
-- what a method's body may lean on
def cr_C (p : Program) (R : Room) (s : State) (m : MethodId) (meth : Method) (c : Code) (U : State → Prop) (lo : Nat) (y : MethodName) (cc : ByteArray) (maxL : Nat) (ret : Option FieldType) (d mc ms : Nat) : Prop :=
  p.tables.exec = Jvm.exec ∧ c.code = cc ∧ c.maxLocals = maxL ∧ s.vm.findClass y.cls = some m.cls ∧ meth.sig.returnType = ret ∧ meth.locks = false ∧ meth.name = y.name ∧ U s ∧ lo ≤ s.heap.size ∧ R = cr_rm d mc ms
def cr_e : List Value → Nat → cr_Lv
  | [], n => List.replicate n none
  | v :: t, n => some v :: (if v.category = 2 then none :: cr_e t (n - 2) else cr_e t (n - 1))
theorem cr_as_none : ∀ (n b : Nat), cr_as b (List.replicate n none) = []
  | 0, _ => rfl
  | n + 1, b => by
    rw [List.replicate_succ]
    exact cr_as_none n (b + 1)
theorem cr_sl_cons (v : Value) (t : List Value) : (lg_sl (v :: t)).length = (if v.category = 2 then 2 else 1) + (lg_sl t).length := by
  by_cases h : v.category = 2 <;> simp [lg_sl, h] <;> omega
theorem cr_e_sp : ∀ (av : List Value) (n b : Nat), (lg_sl av).length ≤ n → (cr_e av n).length = n ∧ cr_as b (cr_e av n) = lv_args b av
  | [], n, b, _ => ⟨by simp [cr_e], cr_as_none n b⟩
  | v :: t, n, b, h => by
    rw [cr_sl_cons] at h
    by_cases hc : v.category = 2
    · rw [if_pos hc] at h
      obtain ⟨h1, h2⟩ := cr_e_sp t (n - 2) (b + 2) (by omega)
      refine ⟨by simp [cr_e, hc, h1]; omega, ?_⟩
      simp only [cr_e, hc, if_true, cr_as, lv_args]
      rw [show b + 1 + 1 = b + 2 by omega, h2]
    · rw [if_neg hc] at h
      obtain ⟨h1, h2⟩ := cr_e_sp t (n - 1) (b + 1) (by omega)
      refine ⟨by simp [cr_e, hc, h1]; omega, ?_⟩
      simp only [cr_e, hc, if_false, cr_as, lv_args]
      rw [h2]
section CR3
variable {l : Launch} {U : State → Prop} {lo : Nat} {y : MethodName} {cc : ByteArray} {maxL : Nat} {ret : Option FieldType} {d mc ms : Nat} {av : List Value} {H : Heap} {Q : cr_Q}
theorem cr_entL (hw : (lg_sl av).length ≤ maxL) : cr_L ((lg_sl av ++ List.replicate (maxL - (lg_sl av).length) Slot.unset).toArray) (cr_e av maxL) := by
  obtain ⟨h1, h2⟩ := cr_e_sp av maxL 0 hw
  unfold cr_L
  rw [h1, h2]
  exact lv_entry av hw
/-- into a method without handlers -/
theorem cr_enter (hy : plainName y.cls = true) (hw : (lg_sl av).length ≤ maxL)
    (body : lo ≤ H.size → ∀ (p : Program) (e : Env) (s : State) (m : MethodId) (args : Array Value) (below : List Frame) (meth : Method) (c : Code), cr_C p (cr_rm d mc ms) s m meth c U lo y cc maxL ret d mc ms → c.exceptionTable.toList = [] → s.heap = H →
      cr_G p l e (cr_rm d mc ms) s m args below meth c lo mc ms Q 0 (cr_e av maxL) [] H 0 0) : cr_M l U lo y (.code y cc maxL ret) d mc ms av H Q := by
  intro hlo
  refine MetFree.of_bodyS (code := cc) (maxLocals := maxL) (ret := ret) hy ?_ ?_
  · intro args s m h hn
    obtain ⟨meth, c, h1, h2, h3, h4, h5, h6, -, -⟩ := Cond.code_spec hn (atoms_spec (ws := [.code y cc maxL ret]) h _ List.mem_cons_self)
    exact ⟨meth, c, h1, h2, h3, h4, h5, h6⟩
  · intro p e s m args below meth c s₁ B hml hP _
    obtain ⟨rfl, hH, hU⟩ := hP
    have hh0 : s₁.heap = H := by rw [B.state]; exact hH
    have hcw := atoms_spec (ws := [.code y cc maxL ret]) B.pre _ List.mem_cons_self
    have hem : c.exceptionTable.toList = [] := by
      have h0 := B.noHandlers hcw
      have h1 : c.exceptionTable.size = 0 := by simpa [Array.isEmpty] using h0
      exact List.eq_nil_of_length_eq_zero (by simpa using h1)
    have hC : cr_C p (cr_rm d mc ms) s m meth c U lo y cc maxL ret d mc ms := ⟨B.exec, B.bytes, hml, findClass_of_methodNamed B.named, B.returns, B.notSynchronized, (name_of_methodNamed B.named B.method).1, hU, by rw [hH]; exact hlo, rfl⟩
    have K := body hlo p e s m av.toArray below meth c hC hem hH _ [] (cr_entL hw) (fun q h => by cases h)
    rw [lg_entry_eq]
    obtain ⟨t, a1, o, b1, b2, b3, L, b4, b5⟩ := K s₁ hh0 (Stand.of_body B)
    exact ⟨t, o, a1, b1, b2, b3, L, b4, b5⟩
/-- into a method with handlers -/
theorem cr_enterW {hh : List (Nat × Nat × Nat × Nat)} (hy : plainName y.cls = true) (hw : (lg_sl av).length ≤ maxL)
    (body : lo ≤ H.size → ∀ (p : Program) (e : Env) (s : State) (m : MethodId) (args : Array Value) (below : List Frame) (meth : Method) (c : Code), cr_C p (cr_rm d mc ms) s m meth c U lo y cc maxL ret d mc ms → (Cond.codeWith y cc maxL ret hh).before args s = true → s.methodNamed? y = some m → s.vm.method? m = some meth → meth.code = some c → s.heap = H →
      cr_G p l e (cr_rm d mc ms) s m args below meth c lo mc ms Q 0 (cr_e av maxL) [] H 0 0) : cr_M l U lo y (.codeWith y cc maxL ret hh) d mc ms av H Q := by
  intro hlo
  refine MetFree.of_bodyS (code := cc) (maxLocals := maxL) (ret := ret) hy ?_ ?_
  · intro args s m h hn
    obtain ⟨m9, meth, c, hn9, h1, h2, h3, h4, -, h5, h6, -⟩ := Cond.codeWith_spec (atoms_spec (ws := [.codeWith y cc maxL ret hh]) h _ List.mem_cons_self)
    cases hn.symm.trans hn9
    exact ⟨meth, c, h1, h2, h3, h4, h5, h6⟩
  · intro p e s m args below meth c s₁ B hml hP _
    obtain ⟨rfl, hH, hU⟩ := hP
    have hh0 : s₁.heap = H := by rw [B.state]; exact hH
    have hcw := atoms_spec (ws := [.codeWith y cc maxL ret hh]) B.pre _ List.mem_cons_self
    have hC : cr_C p (cr_rm d mc ms) s m meth c U lo y cc maxL ret d mc ms := ⟨B.exec, B.bytes, hml, findClass_of_methodNamed B.named, B.returns, B.notSynchronized, (name_of_methodNamed B.named B.method).1, hU, by rw [hH]; exact hlo, rfl⟩
    have K := body hlo p e s m av.toArray below meth c hC hcw B.named B.method (Stand.of_body B).code hH _ [] (cr_entL hw) (fun q h => by cases h)
    rw [lg_entry_eq]
    obtain ⟨t, a1, o, b1, b2, b3, L, b4, b5⟩ := K s₁ hh0 (Stand.of_body B)
    exact ⟨t, o, a1, b1, b2, b3, L, b4, b5⟩
end CR3
-- the top of the operand stack, as arguments
def cr_tk : Nat → List Value → List Value → (List Value → List Value → Prop) → Prop
  | 0, acc, st, f => f acc st
  | _ + 1, _, [], _ => False
  | n + 1, acc, v :: st, f => cr_tk n (v :: acc) st f
theorem cr_tk_sp : ∀ {n : Nat} {acc st : List Value} {f : List Value → List Value → Prop}, cr_tk n acc st f → ∃ vs r, st = vs ++ r ∧ vs.length = n ∧ f (vs.reverse ++ acc) r
  | 0, acc, st, f, h => ⟨[], st, rfl, rfl, h⟩
  | _ + 1, _, [], _, h => False.elim h
  | n + 1, acc, v :: st, f, h => by
    obtain ⟨vs, r, h1, h2, h3⟩ := cr_tk_sp (n := n) (acc := v :: acc) (st := st) (f := f) h
    exact ⟨v :: vs, r, by rw [h1]; rfl, by simp [h2], by simpa using h3⟩
/-- what a call asks of its callee's contract, and what comes back -/
def cr_after (l : Launch) (U : State → Prop) (lo : Nat) (y : MethodName) (cw : Cond) (d mc ms : Nat) (nx : Nat) (K : cr_K) (Q : cr_Q) (lv : cr_Lv) (av r : List Value) (H : Heap) (k n : Nat) : Prop :=
  ∃ d' mc' ms' Qc, cr_M l U lo y cw d' mc' ms' av H Qc ∧ d' + 1 ≤ d ∧ k + mc' ≤ mc ∧ n + ms' ≤ ms ∧ (r.map fun v => v.category).sum ≤ 8 ∧
    (∀ v H', Qc (.inl v) H' → H.size ≤ H'.size → K nx lv (v.toList ++ r) H' (k + mc') (n + ms')) ∧ ∀ kd H', Qc (.inr kd) H' → H.size ≤ H'.size → Q (.inr kd) H'
section CR4
variable {p : Program} {l : Launch} {e : Env} {R : Room} {s : State} {m : MethodId} {args : Array Value} {below : List Frame} {meth : Method} {c : Code} {T : State} {locs : List Loc} {k n : Nat}
theorem cr_inv (X : Stand p l e R s m args below meth c T locs k n) {y : MethodName} {cw : Cond} {rm : Room} {P : Array Value → State → Prop} {Q : Array Value → State → Outcome → State → Prop} (hM : MetFree l y (headSpec [cw] rm) P (fun _ _ _ _ _ => True) Q) {mk : MethodId} {methY : Method} {cY : Code} {kY : Class} {maxL : Nat}
    (hn : T.methodNamed? y = some mk) (hmY : T.vm.method? mk = some methY) (hcY : methY.code = some cY) (hlY : cY.maxLocals = maxL) (hkY : T.vm.classes[mk.cls]? = some kY) (hinitY : kY.init = .initialized)
    (hframes : rm.frames + 1 ≤ R.frames) (hlocals : 8 + (maxL + 11) + rm.locals ≤ R.locals) (hcells : k + rm.cells ≤ R.cells) (hslots : n + rm.slots ≤ R.slots) {a : Array Value} (hcw : cw.before a T = true)
    {g : JFrame} (hg : g.method = m) (hsize : g.locals.size = c.maxLocals) {ig : Instr} {len : Nat} (hdg : decode c.code g.pc = .ok (ig, len)) (hW : 2 * g.monitorRoom + (g.stack.map fun v => v.category).sum ≤ 8) (hP : P a (T.calling g mk a)) :
    ∃ o s₂, Steps p.tables e below (doInvoke e (T.setTop g) [] mk a).1 s₂ ∧ Ended s₂ (.java g :: below) o ∧ Q a (T.calling g mk a) o s₂ := by
  have h : At T g.method c below := by rw [hg]; exact X.here
  have happ : (headSpec [cw] rm).appliesLoose y e.platform (T.calling g mk a) = true :=
    Spec.appliesLoose_calling (g := g) h hdg hn hkY hinitY (X.room_calling (g := g) (R' := rm) hsize hmY hcY hframes (by rw [hlY]; omega) hcells hslots)
      (atoms_intro (fun w hw => by rw [List.mem_singleton.mp hw]; exact hcw))
  obtain ⟨mid, hmid⟩ := h.above
  have hfr : (T.setTop g).frames = (.java g :: mid) ++ below := by rw [State.frames_setTop' g h.top, hmid]; rfl
  obtain ⟨o, s₂, hsteps, -, hend, hq⟩ := Steps.callFree hM p X.admits X.cas X.clock (acts := []) hfr happ hP trivial
  rw [State.frames_setTop' g h.top, X.tail] at hend
  exact ⟨o, s₂, hsteps, hend, hq⟩
variable {H : Heap} {lo mc ms d : Nat} {Q : cr_Q} {U : State → Prop} {pc nx : Nat} {ls : Array Slot} {lv : cr_Lv} {st r av : List Value}
/-- behind the resolution of any invoke: the callee's contract, both outcomes; no handler covers the call -/
theorem cr_cal {y : MethodName} {cw : Cond} {maxL len : Nat} {ig : Instr} {K : cr_K} (hK : ∀ pc lv st H k n, K pc lv st H k n → cr_G p l e R s m args below meth c lo mc ms Q pc lv st H k n)
    (hR : R = cr_rm d mc ms) (hU : U s) (hst : cr_St U) (hlo : lo ≤ s.heap.size) (hlocks : meth.locks = false) (hout : ∀ x ∈ c.exceptionTable.toList, covers x pc = false) (hml : c.maxLocals = lv.length) (hmaxL : maxL ≤ 41)
    (hdg : decode c.code pc = .ok (ig, len)) (hnx : pc + len = nx) (hl : cr_L ls lv) (hq : ∀ q ∈ locs, cr_lc lo s q.base)
    (hcw : ∀ (a' : Array Value) (V : State), s.WarmedH V.vm → cw.before a' V = true)
    (hcY : ∀ V : State, s.WarmedH V.vm → ∀ mk, V.methodNamed? y = some mk → (∃ methY cY, V.vm.method? mk = some methY ∧ methY.code = some cY ∧ cY.maxLocals = maxL) ∧ ∃ kY, V.vm.classes[mk.cls]? = some kY ∧ kY.init = .initialized)
    (hres : ∀ T : State, T.heap = H → Stand p l e R s m args below meth c T locs k n → ∃ vm₁ mk, Stand p l e R s m args below meth c (T.setVm vm₁) locs k n ∧ (T.setVm vm₁).methodNamed? y = some mk ∧
      ∀ target, (∀ acts, Steps p.tables e below (doInvoke e ((T.setVm vm₁).setTop (F0 m pc ls r)) acts mk av.toArray).1 target) → Steps p.tables e below (T.setTop (F0 m pc ls st)) target)
    (h : cr_after l U lo y cw d mc ms nx K Q lv av r H k n) : W p l e R s m args below meth c H locs k n (cr_MQ below lo mc ms Q s) (F0 m pc ls st) := by
  obtain ⟨d', mc', ms', Qc, hM, hd', hk', hn', hcat, hret, hthr⟩ := h
  subst hnx
  refine cr_W_size (fun hsz => ?_)
  have hM := hM (Nat.le_trans hlo hsz)
  intro T hT X
  obtain ⟨vm₁, mk, X₁, hnm, hstp⟩ := hres T hT X
  have hU1 : U (T.setVm vm₁) := hst s _ X₁.warmed hU
  obtain ⟨⟨methY, cY, y1, y2, y3⟩, kY, y4, y5⟩ := hcY (T.setVm vm₁) X₁.warmed mk hnm
  have hsz9 : (F0 m pc ls r).locals.size = c.maxLocals := by rw [hml]; exact hl.1
  obtain ⟨o, s₂, hs, hend, hO, L, hFE, hL⟩ := cr_inv X₁ hM hnm y1 y2 y3 y4 y5 (by rw [hR]; exact hd') (by rw [hR]; show 8 + (maxL + 11) + 60 * d' ≤ 60 * d; omega) (by rw [hR]; exact hk') (by rw [hR]; exact hn') (a := av.toArray) (hcw _ _ X₁.warmed) (g := F0 m pc ls r) rfl hsz9 hdg
    (by show 2 * JFrame.monitorRoom _ + _ ≤ 8; simpa [JFrame.monitorRoom] using hcat) ⟨rfl, hT, hst (T.setVm vm₁) _ (State.WarmedH.refl (T.setVm vm₁)) hU1⟩
  have hlocs : ∀ q ∈ locs ++ L, cr_lc lo s q.base := fun q h => by
    rcases List.mem_append.mp h with h | h
    · exact hq q h
    · refine ⟨(hL q h).1, fun c0 h0 => ?_⟩
      obtain ⟨c', g1, g2, -⟩ := X₁.same.2.2.2.2.2 _ c0 h0
      have g3 := (hL q h).2 c' g1
      have g4 : c'.vm = c0.vm := by rw [g2]
      rw [← g4]
      exact g3
  have hgrow : H.size ≤ s₂.heap.size := by
    have h9 : (T.setVm vm₁).heap.size ≤ s₂.heap.size := hFE.2.2.1
    rw [← hT]
    exact h9
  rcases hO with ⟨v, rfl, hQ⟩ | ⟨a, kd, rfl, hEx, hQ⟩
  · obtain ⟨T', X', -, -, e2⟩ := X₁.outOf (g := F0 m pc ls r) rfl hdg hend hFE.1 hFE.2
    have eh : T'.heap = s₂.heap := by rw [e2]; rfl
    obtain ⟨t, a1, b1⟩ := hK _ _ _ _ _ _ (hret v s₂.heap hQ hgrow) ls (locs ++ L) hl hlocs T' eh X'
    refine ⟨t, hstp t (fun acts => ?_), b1⟩
    rw [doInvoke_state]
    rw [e2] at hs
    exact hs.trans a1
  · obtain ⟨T', X', -, -, e2⟩ := X₁.outOfThrown (g := F0 m pc ls r) rfl hend hFE.1 hFE.2
    have eh : T'.heap = s₂.heap := by rw [e2]; rfl
    obtain ⟨z1, z2, z3, z4, z5⟩ := X'.leaveThrown a (g := F0 m pc ls r) rfl rfl rfl hout hlocks
    refine ⟨_, hstp _ (fun acts => ?_), .threw a, z2, z3, Or.inr ⟨a, kd, rfl, ?_, ?_⟩, locs ++ L, ⟨z4, z5.mono hk' hn'⟩, hlocs⟩
    · rw [doInvoke_state]
      rw [e2] at hs
      exact hs.trans z1
    · obtain ⟨cell, c1, c2, c3⟩ := hEx
      refine ⟨cell, ?_, c2, ?_⟩
      · show T'.heap[a]? = some cell
        rw [eh]; exact c1
      · have h9 : (T.setVm vm₁).vm.findClass (cr_ex kd) = some cell.cls := c3
        rw [X₁.warmed.alike.findClass] at h9
        exact h9
    · show Q (.inr kd) T'.heap
      rw [eh]
      exact hthr kd _ hQ hgrow
end CR4
section CR5
variable {p : Program} {l : Launch} {e : Env} {R : Room} {s : State} {m : MethodId} {args : Array Value} {below : List Frame} {meth : Method} {c : Code} {lo mc ms d : Nat} {Q : cr_Q}
variable {cc : ByteArray} {pc nx : Nat} {D : va_G} {cl : List vw_C} {tys : List (ClassId × FieldType)} {U : State → Prop} {own : String} {index na : Nat} {y : MethodName} {bytes : ByteArray} {maxL nL : Nat} {ret : Option FieldType}
/-- a static call of na arguments -/
def cr_calS (l : Launch) (U : State → Prop) (lo : Nat) (y : MethodName) (cw : Cond) (d mc ms : Nat) (na nL nx : Nat) : cr_T := fun K Q lv st H k n =>
  lv.length = nL ∧ cr_tk na [] st (fun av r => cr_after l U lo y cw d mc ms nx K Q lv av r H k n)
/-- a call on an object of class ci, of na arguments beside it -/
def cr_calV (D : va_G) (cl : List vw_C) (l : Launch) (U : State → Prop) (lo : Nat) (ci : Nat) (y : MethodName) (cw : Cond) (d mc ms : Nat) (na nL nx : Nat) : cr_T := fun K Q lv st H k n =>
  lv.length = nL ∧ cr_tk (na + 1) [] st (fun av r => match av with | .ref b :: As => ∃ fs, va_at D cl (b, .inr (ci, fs)) H ∧ cr_after l U lo y cw d mc ms nx K Q lv (.ref b :: As) r H k n | _ => False)
/-- a constructor's call -/
def cr_calI (l : Launch) (U : State → Prop) (lo : Nat) (y : MethodName) (cw : Cond) (d mc ms : Nat) (na nL nx : Nat) : cr_T := fun K Q lv st H k n =>
  lv.length = nL ∧ cr_tk (na + 1) [] st (fun av r => match av with | .ref b :: As => cr_after l U lo y cw d mc ms nx K Q lv (.ref b :: As) r H k n | _ => False)
/-- what the tables say of a callee without handlers -/
theorem cr_callee (hst : cr_St U) (hcU : ∀ V, U V → (Cond.code y bytes maxL ret).before #[] V = true ∧ (Cond.initialized y.cls).before #[] V = true) (hU : U s) : (∀ (a' : Array Value) (V : State), s.WarmedH V.vm → (Cond.code y bytes maxL ret).before a' V = true) ∧
    ∀ V : State, s.WarmedH V.vm → ∀ mk, V.methodNamed? y = some mk → (∃ methY cY, V.vm.method? mk = some methY ∧ methY.code = some cY ∧ cY.maxLocals = maxL) ∧ ∃ kY, V.vm.classes[mk.cls]? = some kY ∧ kY.init = .initialized := by
  refine ⟨fun a' V hW => va_any rfl (hcU V (hst s V hW hU)).1, fun V hW mk hn => ?_⟩
  obtain ⟨h1, h2⟩ := hcU V (hst s V hW hU)
  obtain ⟨methY, cY, g1, g2, -, g3, -⟩ := Cond.code_spec hn h1
  obtain ⟨kY, hkY, -⟩ := className_of_methodNamed hn
  exact ⟨⟨methY, cY, g1, g2, g3⟩, kY, hkY, Cond.initialized_spec (findClass_of_methodNamed hn) hkY h2⟩
theorem cr_calS_ok (hx : p.tables.exec = Jvm.exec) (hb : c.code = cc) (hml : c.maxLocals = nL) (hown : s.vm.findClass own = some m.cls) (hlocks : meth.locks = false) (hU : U s) (hlo : lo ≤ s.heap.size) (hR : R = cr_rm d mc ms) (hst : cr_St U) (hout : ∀ x ∈ c.exceptionTable.toList, covers x pc = false)
    (hcU : ∀ V, U V → (Cond.code y bytes maxL ret).before #[] V = true ∧ (Cond.initialized y.cls).before #[] V = true) (hlink : (Cond.methodLink own index y).before args s = true ∨ ∃ host, (Cond.methodLinkNest own index y host).before args s = true) (hstat : (Cond.static y).before args s = true)
    (hy : y.cls ≠ "java/lang/invoke/MethodHandle" ∧ y.cls ≠ "java/lang/invoke/VarHandle") (hlen : (parseMethodDescriptor y.desc).map (fun d => d.parameters.length) = some na) (hmaxL : maxL ≤ 41) (hd : decode cc pc = .ok (.invokestatic index, 3)) (hn : pc + 3 = nx) :
    cr_Snd p l e R s m args below meth c lo mc ms Q pc (cr_calS l U lo y (.code y bytes maxL ret) d mc ms na nL nx) := by
  intro K lv st H k n hK h ls locs hl hq
  obtain ⟨hnL, h⟩ := h
  obtain ⟨vs, r, e1, e2, h⟩ := cr_tk_sp h
  rw [List.append_nil] at h
  obtain ⟨hcw, hcY⟩ := cr_callee hst hcU hU
  refine cr_cal (av := vs.reverse) (r := r) (maxL := maxL) (ig := .invokestatic index) (len := 3) hK hR hU hst hlo hlocks hout (by rw [hnL]; exact hml) hmaxL (by rw [hb]; exact hd) hn hl hq hcw hcY ?_ h
  intro T hT X
  have hcode := (hcU s hU).1
  have hini := (hcU s hU).2
  obtain ⟨mk, hnamed⟩ := Cond.code_named hcode
  obtain ⟨methM, cM, hmethM, -, -, -, -, -, -, hsigM⟩ := Cond.code_spec hnamed hcode
  have hstatic : methM.isStatic = true := Cond.static_spec hnamed hmethM hstat
  obtain ⟨kP, hkP, -⟩ := className_of_methodNamed hnamed
  have hinitP : kP.init = .initialized := Cond.initialized_spec (findClass_of_methodNamed hnamed) hkP hini
  have hle : vs.reverse.length = methM.sig.parameters.length := by
    rw [hsigM] at hlen
    rw [List.length_reverse, e2]
    exact (Option.some.inj hlen).symm
  rcases hlink with hlink | ⟨host, hlink⟩
  · obtain ⟨vm₁, X₁, hstep₁⟩ := X.invokestatic hx hown hlink hnamed hmethM hstatic hkP hinitP hy (g := F0 m pc ls st) rfl (argsL := vs.reverse) (rest := r) hle (by rw [List.reverse_reverse]; exact e1) (by rw [hb]; exact hd)
    exact ⟨vm₁, mk, X₁, X₁.named hnamed, hstep₁⟩
  · obtain ⟨vm₁, X₁, hstep₁⟩ := X.invokestaticNest hx hown hlink hnamed hmethM hstatic hkP hinitP hy (g := F0 m pc ls st) rfl (argsL := vs.reverse) (rest := r) hle (by rw [List.reverse_reverse]; exact e1) (by rw [hb]; exact hd)
    exact ⟨vm₁, mk, X₁, X₁.named hnamed, hstep₁⟩
theorem cr_rev {vs As : List Value} {v : Value} (h : vs.reverse = v :: As) : vs = As.reverse ++ [v] := by
  have h1 := congrArg List.reverse h
  simpa using h1
theorem cr_calV_ok {C : String} {Tf : u_T} {N ci : Nat} (hx : p.tables.exec = Jvm.exec) (hb : c.code = cc) (hml : c.maxLocals = nL) (hown : s.vm.findClass own = some m.cls) (hlocks : meth.locks = false) (hU : U s) (hlo : lo ≤ s.heap.size) (hR : R = cr_rm d mc ms) (hst : cr_St U) (hout : ∀ x ∈ c.exceptionTable.toList, covers x pc = false)
    (hKn : va_K D cl tys s) (hc : cl[ci]? = some (C, Tf, N)) (hcU : ∀ V, U V → (Cond.code y bytes maxL ret).before #[] V = true ∧ (Cond.initialized y.cls).before #[] V = true) (hlink : (Cond.methodLink own index y).before args s = true ∨ ∃ host, (Cond.methodLinkNest own index y host).before args s = true) (hinst : (Cond.instanceMethod y).before args s = true) (hsel : (Cond.selects C y y).before args s = true)
    (hy : y.cls ≠ "java/lang/invoke/MethodHandle" ∧ y.cls ≠ "java/lang/invoke/VarHandle") (hlen : (parseMethodDescriptor y.desc).map (fun d => d.parameters.length) = some na) (hmaxL : maxL ≤ 41) (hd : decode cc pc = .ok (.invokevirtual index, 3)) (hn : pc + 3 = nx) :
    cr_Snd p l e R s m args below meth c lo mc ms Q pc (cr_calV D cl l U lo ci y (.code y bytes maxL ret) d mc ms na nL nx) := by
  intro K lv st H k n hK h ls locs hl hq
  obtain ⟨hnL, h⟩ := h
  obtain ⟨vs, r, e1, e2, h⟩ := cr_tk_sp h
  rw [List.append_nil] at h
  match e3 : vs.reverse, h with
  | .ref b :: As, ⟨fs, hat, h⟩ =>
    have e4 := cr_rev e3
    obtain ⟨hcw, hcY⟩ := cr_callee hst hcU hU
    refine cr_cal (av := .ref b :: As) (r := r) (maxL := maxL) (ig := .invokevirtual index) (len := 3) hK hR hU hst hlo hlocks hout (by rw [hnL]; exact hml) hmaxL (by rw [hb]; exact hd) hn hl hq hcw hcY ?_ h
    intro T hT X
    have hcode := (hcU s hU).1
    obtain ⟨mk, methM, hnamed, hmethM, hstM, habM⟩ := Cond.instanceMethod_spec hinst
    obtain ⟨methM', cM, hmethM', -, -, -, -, -, -, hsigM⟩ := Cond.code_spec hnamed hcode
    cases hmethM.symm.trans hmethM'
    obtain ⟨cellB, hcB, hoB, hclB⟩ := va_recv hKn (cr_one hat) hc (q0 := 0) rfl
    obtain ⟨c2, r2, m2, q1, q2, q3, q4, kP, hkP, hkPi⟩ := Cond.selects_spec hsel
    cases hclB.symm.trans q1
    cases (State.methodFound?_of_named hnamed hy).symm.trans q2
    cases hnamed.symm.trans q3
    have hselP : selectMethod e.platform s.vm cellB.cls mk = .method mk := by rw [Launch.admits_selectMethod X.admits]; exact q4
    have hle : As.length = methM.sig.parameters.length := by
      rw [hsigM] at hlen
      have h9 : As.length + 1 = na + 1 := by rw [← e2, e4]; simp
      have h8 : methM.sig.parameters.length = na := Option.some.inj hlen
      omega
    have hstk : st = As.reverse ++ .ref b :: r := by rw [e1, e4]; simp
    rcases hlink with hlink | ⟨host, hlink⟩
    · obtain ⟨vm₁, X₁, hstep₁⟩ := X.invokevirtual hx hown hlink hnamed hmethM hstM hkP hkPi hy (a := b) (cell := cellB) (by rw [hT]; exact hcB) (fun z h => by rw [h] at hoB; cases hoB) hselP hmethM habM hkP hkPi (g := F0 m pc ls st) rfl (argsL := As) (rest := r) hle hstk (by rw [hb]; exact hd)
      exact ⟨vm₁, mk, X₁, X₁.named hnamed, hstep₁⟩
    · obtain ⟨vm₁, X₁, hstep₁⟩ := X.invokevirtualNest hx hown hlink hnamed hmethM hstM hkP hkPi hy (a := b) (cell := cellB) (by rw [hT]; exact hcB) (fun z h => by rw [h] at hoB; cases hoB) hselP hmethM habM hkP hkPi (g := F0 m pc ls st) rfl (argsL := As) (rest := r) hle hstk (by rw [hb]; exact hd)
      exact ⟨vm₁, mk, X₁, X₁.named hnamed, hstep₁⟩
theorem cr_calF_ok {C : String} {Tf : u_T} {N ci count : Nat} {x : MethodName} (hx : p.tables.exec = Jvm.exec) (hb : c.code = cc) (hml : c.maxLocals = nL) (hown : s.vm.findClass own = some m.cls) (hlocks : meth.locks = false) (hU : U s) (hlo : lo ≤ s.heap.size) (hR : R = cr_rm d mc ms) (hst : cr_St U) (hout : ∀ x ∈ c.exceptionTable.toList, covers x pc = false)
    (hKn : va_K D cl tys s) (hc : cl[ci]? = some (C, Tf, N)) (hcU : ∀ V, U V → (Cond.code y bytes maxL ret).before #[] V = true ∧ (Cond.initialized y.cls).before #[] V = true) (hlink : (Cond.methodLink own index x).before args s = true) (hdecl : (Cond.declares x).before args s = true) (hface : (Cond.interfaceMethod x.cls x.cls x.name x.desc).before args s = true)
    (hsel : (Cond.selects C x y).before args s = true) (hinst : (Cond.instanceMethod y).before args s = true) (hpub : (Cond.publicMethod y).before args s = true) (hunh : (Cond.unhidden C x.name x.desc).before args s = true) (hcast : (Cond.castable C x.cls).before args s = true)
    (hy : x.cls ≠ "java/lang/invoke/MethodHandle" ∧ x.cls ≠ "java/lang/invoke/VarHandle") (hlen : (parseMethodDescriptor x.desc).map (fun d => d.parameters.length) = some na) (hmaxL : maxL ≤ 41) (hd : decode cc pc = .ok (.invokeinterface index count, 5)) (hn : pc + 5 = nx) :
    cr_Snd p l e R s m args below meth c lo mc ms Q pc (cr_calV D cl l U lo ci y (.code y bytes maxL ret) d mc ms na nL nx) := by
  intro K lv st H k n hK h ls locs hl hq
  obtain ⟨hnL, h⟩ := h
  obtain ⟨vs, r, e1, e2, h⟩ := cr_tk_sp h
  rw [List.append_nil] at h
  match e3 : vs.reverse, h with
  | .ref b :: As, ⟨fs, hat, h⟩ =>
    have e4 := cr_rev e3
    obtain ⟨hcw, hcY⟩ := cr_callee hst hcU hU
    refine cr_cal (av := .ref b :: As) (r := r) (maxL := maxL) (ig := .invokeinterface index count) (len := 5) hK hR hU hst hlo hlocks hout (by rw [hnL]; exact hml) hmaxL (by rw [hb]; exact hd) hn hl hq hcw hcY ?_ h
    intro T hT X
    obtain ⟨cellB, hcB, hoB, hclB⟩ := va_recv hKn (cr_one hat) hc (q0 := 0) rfl
    obtain ⟨r0, rr, hn0, hrm, hstR, hsigR⟩ := Cond.declares_spec hdecl
    obtain ⟨cL, kL, r1, hcL, hkL, hiL, hfoundL, hn1⟩ := Cond.interfaceMethod_spec hface
    cases hn0.symm.trans hn1
    have hr0cls : r0.cls = cL := Option.some.inj ((findClass_of_methodNamed hn0).symm.trans hcL)
    obtain ⟨hnameR, hdescR⟩ := name_of_methodNamed hn0 hrm
    obtain ⟨mk, methM, hnamed, hmethM, -, habM⟩ := Cond.instanceMethod_spec hinst
    obtain ⟨c2, r2, m2, q1, q2, q3, q4, -⟩ := Cond.selects_spec hsel
    cases hclB.symm.trans q1
    cases hfoundL.symm.trans q2
    cases hnamed.symm.trans q3
    have hselP : selectMethod e.platform s.vm cellB.cls r0 = .method mk := by rw [Launch.admits_selectMethod X.admits]; exact q4
    have hpubM : hasFlag methM.accessFlags Acc.public_ = true := Cond.publicMethod_spec hnamed hmethM hpub
    have hway : ((cellB.cls :: s.vm.superclasses cellB.cls).any fun k => (declaredIn s.vm rr.name rr.desc k).any fun (_, z) => z.isPrivate || z.isStatic) = false := by
      rw [hnameR, hdescR]; exact Cond.unhidden_spec hclB hunh
    obtain ⟨c3, t3, w1, w2, w3⟩ := Cond.castable_spec hcast
    cases hclB.symm.trans w1
    cases hcL.symm.trans w2
    obtain ⟨kB, hkB⟩ := Vm.classAt_of_findClass hclB
    have hle : As.length = rr.sig.parameters.length := by
      rw [hsigR] at hlen
      have h9 : As.length + 1 = na + 1 := by rw [← e2, e4]; simp
      have h8 : rr.sig.parameters.length = na := Option.some.inj hlen
      omega
    have hstk : st = As.reverse ++ .ref b :: r := by rw [e1, e4]; simp
    obtain ⟨vm₁, X₁, hstep₁⟩ := X.invokeinterface hx hown hlink hn0 hrm hstR (by rw [hr0cls]; exact hkL) hiL hy (a := b) (cell := cellB) (kcell := kB) (by rw [hT]; exact hcB)
      (fun z h => by rw [h] at hoB; cases hoB) hkB (by rw [hr0cls]; exact w3) hselP hmethM hway hpubM habM (g := F0 m pc ls st) rfl (argsL := As) (rest := r) hle hstk (by rw [hb]; exact hd)
    exact ⟨vm₁, mk, X₁, X₁.named hnamed, hstep₁⟩
theorem cr_calI_ok (hx : p.tables.exec = Jvm.exec) (hb : c.code = cc) (hml : c.maxLocals = nL) (hown : s.vm.findClass own = some m.cls) (hlocks : meth.locks = false) (hU : U s) (hlo : lo ≤ s.heap.size) (hR : R = cr_rm d mc ms) (hst : cr_St U) (hout : ∀ x ∈ c.exceptionTable.toList, covers x pc = false)
    (hcU : ∀ V, U V → (Cond.code y bytes maxL none).before #[] V = true ∧ (Cond.initialized y.cls).before #[] V = true) (hlink : (Cond.methodLink own index y).before args s = true ∨ ∃ host, (Cond.methodLinkNest own index y host).before args s = true) (hinst : (Cond.instanceMethod y).before args s = true) (hy1 : y.name = "<init>")
    (hy : y.cls ≠ "java/lang/invoke/MethodHandle" ∧ y.cls ≠ "java/lang/invoke/VarHandle") (hlen : (parseMethodDescriptor y.desc).map (fun d => d.parameters.length) = some na) (hmaxL : maxL ≤ 41) (hd : decode cc pc = .ok (.invokespecial index, 3)) (hn : pc + 3 = nx) :
    cr_Snd p l e R s m args below meth c lo mc ms Q pc (cr_calI l U lo y (.code y bytes maxL none) d mc ms na nL nx) := by
  intro K lv st H k n hK h ls locs hl hq
  obtain ⟨hnL, h⟩ := h
  obtain ⟨vs, r, e1, e2, h⟩ := cr_tk_sp h
  rw [List.append_nil] at h
  match e3 : vs.reverse, h with
  | .ref b :: As, h =>
    have e4 := cr_rev e3
    obtain ⟨hcw, hcY⟩ := cr_callee hst hcU hU
    refine cr_cal (av := .ref b :: As) (r := r) (maxL := maxL) (ig := .invokespecial index) (len := 3) hK hR hU hst hlo hlocks hout (by rw [hnL]; exact hml) hmaxL (by rw [hb]; exact hd) hn hl hq hcw hcY ?_ h
    intro T hT X
    have hcode := (hcU s hU).1
    have hpl : e.platform.magicAccessors = ({} : Platform).magicAccessors := by rw [X.admits.platform]
    have hle : ∀ sig, parseMethodDescriptor y.desc = some sig → As.length = sig.parameters.length := by
      intro sig hsig
      rw [hsig] at hlen
      have h9 : As.length + 1 = na + 1 := by rw [← e2, e4]; simp
      have h8 : sig.parameters.length = na := Option.some.inj hlen
      omega
    have hstk : st = As.reverse ++ .ref b :: r := by rw [e1, e4]; simp
    rcases hlink with hlink | ⟨host, hlink⟩
    · obtain ⟨mk, methM, cM, kP, vm₁, hnamed, -, -, -, -, -, -, -, hW₁, hstep₁⟩ := Steps.initColdArgs (e := e) X.here hx X.warmed hpl hown hy1 hy hlink hinst (va_any rfl hcode) (f := F0 m pc ls st) rfl hle hstk (by rw [hb]; exact hd)
      have X₁ := X.noted hW₁
      exact ⟨vm₁, mk, X₁, X₁.named hnamed, hstep₁⟩
    · obtain ⟨mk, methM, cM, kP, vm₁, hnamed, -, -, -, -, -, -, -, hW₁, hstep₁⟩ := Steps.initColdArgsNest (e := e) X.here hx X.warmed hpl hown hy1 hy hlink hinst (va_any rfl hcode) (f := F0 m pc ls st) rfl hle hstk (by rw [hb]; exact hd)
      have X₁ := X.noted hW₁
      exact ⟨vm₁, mk, X₁, X₁.named hnamed, hstep₁⟩
/-- Object.<init>() -/
def cr_oinit (d nL nx : Nat) : cr_T := fun K _ lv st H k n => match st with
  | .ref _ :: r => lv.length = nL ∧ 1 ≤ d ∧ (r.map fun v => v.category).sum ≤ 8 ∧ K nx lv r H k n
  | _ => False
theorem cr_oinit_ok (hx : p.tables.exec = Jvm.exec) (hb : c.code = cc) (hml : c.maxLocals = nL) (hown : s.vm.findClass own = some m.cls) (hR : R = cr_rm d mc ms) (hlink : (Cond.methodLink own index Lib.objectInit).before args s = true) (hinst : (Cond.instanceMethod Lib.objectInit).before args s = true) (hcode : (Cond.code Lib.objectInit ⟨#[0xb1]⟩ 1 none).before args s = true)
    (hd : decode cc pc = .ok (.invokespecial index, 3)) (hn : pc + 3 = nx) : cr_Snd p l e R s m args below meth c lo mc ms Q pc (cr_oinit d nL nx) := by
  subst hn
  intro K lv st H k n hK h ls locs hl hq
  match st, h with
  | .ref a :: r, ⟨h1, h2, h3, h4⟩ =>
    refine W.objInit hx hb hown hlink hinst hcode rfl (by rw [hml, ← h1]; exact hl.1) rfl hd (by rw [hR]; exact h2) ?_ ?_
    · rw [hR]
      show 2 * JFrame.monitorRoom _ + _ + 12 ≤ 60 * d
      have h9 : 2 * (F0 m pc ls (.ref a :: r)).monitorRoom = 0 := by simp [JFrame.monitorRoom]
      omega
    · exact hK _ _ _ _ _ _ h4 ls locs hl hq
end CR5
