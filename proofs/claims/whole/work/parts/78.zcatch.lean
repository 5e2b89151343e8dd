/-! A throw that a row of the method's own table catches, its class cold or warm; rooms -/
theorem ct_room {s : State} {pl : Platform} {r r' : Room} (hf : r.frames ≤ r'.frames) (hl : r.locals ≤ r'.locals) (hc : r.cells ≤ r'.cells) (hs : r.slots ≤ r'.slots) (h : s.hasRoom pl r' = true) : s.hasRoom pl r = true := by
  unfold State.hasRoom at h ⊢
  simp only [Bool.and_eq_true, decide_eq_true_eq] at h ⊢
  have ⟨⟨⟨⟨q1, q2, q3, q4, q5, q6⟩, q7⟩, q8⟩, q9⟩ := h
  refine ⟨⟨⟨⟨?_, ?_, ?_, ?_, ?_, q6⟩, ?_⟩, ?_⟩, q9⟩ <;> omega
theorem ct_rs {l : Launch} {y : MethodName} {cw : List Cond} {R R' : Room} {P : Array Value → State → Prop} {K : Program → Env → List Frame → State → Array Value → Prop} {Q : Array Value → State → Outcome → State → Prop} (h : MetFree l y (headSpec cw R) P K Q)
    (hf : R.frames ≤ R'.frames) (hl : R.locals ≤ R'.locals) (hc : R.cells ≤ R'.cells) (hs : R.slots ≤ R'.slots) : MetFree l y (headSpec cw R') P K Q := fun p e ha h1 h2 s m args below hfr hap => by
  have q := (Spec.appliesLoose_iff hfr).mp hap
  exact h p e ha h1 h2 s m args below hfr ((Spec.appliesLoose_iff hfr).mpr ⟨q.1, q.2.1, q.2.2.1, q.2.2.2.1, q.2.2.2.2.1, q.2.2.2.2.2.1, ct_room hf hl hc hs q.2.2.2.2.2.2.1, q.2.2.2.2.2.2.2⟩)
/-- the row lets the throw by -/
def ct_P (pl : Platform) (s : State) (d : ClassId) (pc : Nat) (th : ClassId) (y : ExceptionTableEntry) : Prop :=
  covers y pc = false ∨ (y.catchType ≠ 0 ∧ ∃ c, s.vm.ClassLinks pl d y.catchType c ∧ s.vm.assignable th c = false)
/-- the row names a type that takes it -/
def ct_K (pl : Platform) (s : State) (d : ClassId) (th : ClassId) (y : ExceptionTableEntry) : Prop :=
  y.catchType ≠ 0 ∧ ∃ c, s.vm.ClassLinks pl d y.catchType c ∧ s.vm.assignable th c = true
theorem ct_warm {s : State} {vm : Vm} {pl : Platform} {d i k : Nat} (hW : s.WarmedH vm) (h : s.vm.ClassLinks pl d i k) : vm.ClassLinks pl d i k ∧ (∃ y, vm.classes[k]? = some y) ∧ s.WarmedH (vm.noted d i (.cls k)) := by
  obtain ⟨dk, _, _, kt, hd, _, _, _, _, hkt, _, ho⟩ := h.here
  obtain ⟨y, hy, -⟩ := hW.alike.2.2 _ _ hkt
  exact ⟨hW.classLinks h, ⟨y, hy⟩, hW.noted hd ho (State.rightAt_cls h)⟩
/-- one row whose pc fits: its class is looked up, and the object is of it or not -/
theorem ct_row {Q : Handler → Pre} {E : CtlPost} {e : Env} {d : Bool} {acts : List Action} {S : State} {f : JFrame} {a : Addr} {x : ExceptionTableEntry} {t : List ExceptionTableEntry} {k : ClassId} {o : Cell} (hin : covers x f.pc = true) (hz : x.catchType ≠ 0)
    (hk : S.vm.ClassLinks e.platform f.method.cls x.catchType k) (ho : S.heap[a]? = some o) (hs : o.vm.isStatics = false) (h1 : ∃ y, S.vm.classes[o.cls]? = some y) (h2 : ∃ y, S.vm.classes[k]? = some y) :
    wp (findHandler.go f a (x :: t)) Q E e d acts S ↔ if S.vm.assignable o.cls k = true then Q (.found x.handlerPc) d acts (S.setVm (S.vm.noted f.method.cls x.catchType (.cls k))) else wp (findHandler.go f a t) Q E e d acts (S.setVm (S.vm.noted f.method.cls x.catchType (.cls k))) := by
  have hr := (resolveClass_links e.toSetting hk).op (op := VmOp.resolveClass f.method.cls x.catchType) rfl
  have hal : S.vm.Alike (S.vm.noted f.method.cls x.catchType (.cls k)) := (Vm.Alike.refl S.vm).noted _ _ _
  obtain ⟨y1, h1⟩ := h1
  obtain ⟨y2, h2⟩ := h2
  obtain ⟨z1, g1, -⟩ := hal.2.2 _ _ h1
  obtain ⟨z2, g2, -⟩ := hal.2.2 _ _ h2
  have hno := VmData.ne_statics_of hs
  rw [← hal.assignable]
  unfold covers at hin
  cases ha : (S.vm.noted f.method.cls x.catchType (.cls k)).assignable o.cls k <;> simp [findHandler.go, hin, hz, hr.1, hr.2, ho, hno, g1, g2, ha, VmOp.dirties, VmOp.acts]
theorem ct_walk {e : Env} {s : State} {f : JFrame} {a : Addr} {o : Cell} (hs : o.vm.isStatics = false) (hc : ∃ y, s.vm.classes[o.cls]? = some y) {x : ExceptionTableEntry} {rest : List ExceptionTableEntry} (hin : covers x f.pc = true) (hx : ct_K e.platform s f.method.cls o.cls x) :
    ∀ (pre : List ExceptionTableEntry) (S : State), s.WarmedH S.vm → S.heap[a]? = some o → (∀ y ∈ pre, ct_P e.platform s f.method.cls f.pc o.cls y) →
      ∃ v, s.WarmedH v ∧ ∀ (Q : Handler → Pre) (E : CtlPost) (d : Bool) (acts : List Action), wp (findHandler.go f a (pre ++ x :: rest)) Q E e d acts S ↔ Q (.found x.handlerPc) d acts (S.setVm v)
  | [], S, hW, ho, _ => by
    obtain ⟨hz, k, hk, hfit⟩ := hx
    obtain ⟨y, hc⟩ := hc
    obtain ⟨y9, hc9, -⟩ := hW.alike.2.2 _ _ hc
    obtain ⟨w1, w2, w3⟩ := ct_warm hW hk
    refine ⟨_, w3, fun Q E d acts => ?_⟩
    rw [List.nil_append, ct_row hin hz w1 ho hs ⟨y9, hc9⟩ w2, if_pos (by rw [hW.alike.assignable]; exact hfit)]
  | y :: ys, S, hW, ho, hp => by
    have hp2 : ∀ z ∈ ys, ct_P e.platform s f.method.cls f.pc o.cls z := fun z hz => hp z (List.mem_cons_of_mem _ hz)
    cases hcov : covers y f.pc with
    | false =>
      obtain ⟨v, v1, v2⟩ := ct_walk hs hc hin hx ys S hW ho hp2
      refine ⟨v, v1, fun Q E d acts => ?_⟩
      rw [List.cons_append, Jvm.W.findHandler_go_skip hcov]
      exact v2 Q E d acts
    | true =>
      rcases hp y List.mem_cons_self with h | ⟨hz, k, hk, hfit⟩
      · rw [h] at hcov
        cases hcov
      · obtain ⟨w1, w2, w3⟩ := ct_warm hW hk
        obtain ⟨v, v1, v2⟩ := ct_walk hs hc hin hx ys (S.setVm (S.vm.noted f.method.cls y.catchType (.cls k))) w3 ho hp2
        obtain ⟨y8, hc⟩ := hc
        obtain ⟨y9, hc9, -⟩ := hW.alike.2.2 _ _ hc
        refine ⟨v, v1, fun Q E d acts => ?_⟩
        rw [List.cons_append, ct_row hcov hz w1 ho hs ⟨y9, hc9⟩ w2, if_neg (by rw [hW.alike.assignable, hfit]; decide)]
        exact v2 Q E d acts
section CTC
variable {p : Program} {l : Launch} {e : Env} {R : Room} {s : State} {m : MethodId} {args : Array Value} {below : List Frame} {meth : Method} {c : Code} {T : State} {locs : List Loc} {k n : Nat}
theorem ct_push (X : Stand p l e R s m args below meth c T locs k n) (g : JFrame) (a : Addr) : (T.setTop g).pushFrame (.throwing a) = T.setFrames (.throwing a :: .java g :: below) := by
  obtain ⟨g0, h0⟩ := X.frames_eq
  unfold State.pushFrame
  rw [State.frames_setTop _ h0, State.setTop_of_frames _ h0]
  exact State.setFrames_setFrames ..
theorem ct_caught (X : Stand p l e R s m args below meth c T locs k n) (a : Addr) {g : JFrame} (hg : g.method = m) {o : Cell} (ho : T.heap[a]? = some o) (hs : o.vm.isStatics = false) (hc : ∃ y, s.vm.classes[o.cls]? = some y)
    (pre : List ExceptionTableEntry) (x : ExceptionTableEntry) (rest : List ExceptionTableEntry) (ht : c.exceptionTable.toList = pre ++ x :: rest) (hp : ∀ y ∈ pre, ct_P e.platform s m.cls g.pc o.cls y) (hin : covers x g.pc = true) (hx : ct_K e.platform s m.cls o.cls x) :
    ∃ v, Stand p l e R s m args below meth c (T.setVm v) locs k n ∧ ∀ t, Steps p.tables e below ((T.setVm v).setTop { g with pc := x.handlerPc, stack := [.ref a] }) t → Steps p.tables e below (T.setFrames (.throwing a :: .java g :: below)) t := by
  subst hg
  obtain ⟨v, v1, v2⟩ := ct_walk (e := e) (f := g) (a := a) (rest := rest) hs hc hin hx pre ((T.setTop g).pushFrame (.throwing a)) X.warmed ho hp
  refine ⟨v, X.noted v1, fun t h => ?_⟩
  obtain ⟨g0, h0⟩ := X.frames_eq
  have h9 : (T.setVm v).frames = .java g0 :: below := h0
  rw [State.setTop_of_frames _ h9] at h
  obtain ⟨r1, r2⟩ := X.here.throwing a
  rw [← ct_push X g a]
  refine Steps.head r1 r2 ?_
  rw [stepThread_throwing (frames_entered X.here.top _), h0, List.tail_cons]
  have e1 : (stepThrowing e ((T.setTop g).pushFrame (.throwing a)) a (.java g :: below)).1 = (((T.setTop g).pushFrame (.throwing a)).setVm v).setFrames (.java { g with pc := x.handlerPc, stack := [.ref a] } :: below) := by
    simp only [stepThrowing, searchFrame, vmDo]
    generalize hr : Sem.go _ e false [] _ = res
    obtain ⟨as, rfl, -⟩ := Sem.eq_ok_of hr (a := Handler.found x.handlerPc) (s' := ((T.setTop g).pushFrame (.throwing a)).setVm v) (acts' := []) (by
      simp [Jvm.W.findHandler_eq (s := (T.setTop g).pushFrame (.throwing a)) X.method' X.code, ht, v2])
    rfl
  rw [e1, ct_push X g a]
  have e2 : ((T.setFrames (.throwing a :: .java g :: below)).setVm v).setFrames (.java { g with pc := x.handlerPc, stack := [.ref a] } :: below) = (T.setVm v).setFrames (.java { g with pc := x.handlerPc, stack := [.ref a] } :: below) := by
    show ((T.setVm v).setFrames _).setFrames _ = _
    exact State.setFrames_setFrames ..
  rw [e2]
  exact h
theorem ct_of_link (X : Stand p l e R s m args below meth c T locs k n) {own name : String} (hown : s.vm.findClass own = some m.cls) {x : ExceptionTableEntry} (hz : x.catchType ≠ 0) (hl : (Cond.classLink own x.catchType name).before args s = true)
    {cT th : ClassId} (hf : s.vm.findClass name = some cT) (hfit : s.vm.assignable th cT = true) : ct_K e.platform s m.cls th x := by
  obtain ⟨c9, h9, hk⟩ := Cond.classLink_spec hown hl e.platform (by rw [X.admits.platform])
  rw [hf] at h9
  cases h9
  exact ⟨hz, cT, hk, hfit⟩
end CTC
