/-! THE LAW's calls -/
section LW2
variable {p : Program} {l : Launch} {e : Env} {R : Room} {s : State} {m : MethodId} {args : Array Value} {below : List Frame} {meth : Method} {c : Code} {lo mc ms d : Nat} {Q : cr_Q}
variable {cc : ByteArray} {pc nx : Nat} {D : va_G} {cl : List vw_C} {tys : List (ClassId × FieldType)} {U : State → Prop} {own : String} {index na : Nat} {y : MethodName} {bytes : ByteArray} {maxL nL : Nat} {ret : Option FieldType} {hh : List (Nat × Nat × Nat × Nat)}
theorem cr_calVh_ok {C : String} {Tf : u_T} {N ci : Nat} {hdl : Nat → Option Nat} (hx : p.tables.exec = Jvm.exec) (hb : c.code = cc) (hml : c.maxLocals = nL) (hown : s.vm.findClass own = some m.cls) (hU : U s) (hlo : lo ≤ s.heap.size) (hR : R = cr_rm d mc ms) (hst : cr_St U)
    (hcat9 : ∀ kd hp (cell : Cell), hdl kd = some hp → s.vm.findClass (cr_ex kd) = some cell.cls → ∀ {T' : State} {locs' : List Loc} {k' n' : Nat}, Stand p l e R s m args below meth c T' locs' k' n' → ∃ pre x rest, c.exceptionTable.toList = pre ++ x :: rest ∧ (∀ y ∈ pre, ct_P e.platform s m.cls pc cell.cls y) ∧ covers x pc = true ∧ ct_K e.platform s m.cls cell.cls x ∧ x.handlerPc = hp)
    (hKn : va_K D cl tys s) (hc : cl[ci]? = some (C, Tf, N)) (hcU : ∀ V, U V → (Cond.code y bytes maxL ret).before #[] V = true ∧ (Cond.initialized y.cls).before #[] V = true) (hlink : (Cond.methodLink own index y).before args s = true) (hinst : (Cond.instanceMethod y).before args s = true) (hsel : (Cond.selects C y y).before args s = true)
    (hy : y.cls ≠ "java/lang/invoke/MethodHandle" ∧ y.cls ≠ "java/lang/invoke/VarHandle") (hlen : (parseMethodDescriptor y.desc).map (fun d => d.parameters.length) = some na) (hmaxL : maxL ≤ 41) (hd : decode cc pc = .ok (.invokevirtual index, 3)) (hn : pc + 3 = nx) :
    cr_Snd p l e R s m args below meth c lo mc ms Q pc (cr_calVh D cl l U lo ci y (.code y bytes maxL ret) hdl d mc ms na nL nx) := by
  intro K lv st H k n hK h ls locs hl hq
  obtain ⟨hnL, h⟩ := h
  obtain ⟨vs, r, e1, e2, h⟩ := cr_tk_sp h
  rw [List.append_nil] at h
  match e3 : vs.reverse, h with
  | .ref b :: As, ⟨fs, hat, h⟩ =>
    have e4 := cr_rev e3
    obtain ⟨hcw, hcY⟩ := cr_callee hst hcU hU
    refine cr_calH (av := .ref b :: As) (r := r) (maxL := maxL) (ig := .invokevirtual index) (len := 3) hK hR hU hst hlo (by rw [hnL]; exact hml) hmaxL (by rw [hb]; exact hd) hn hl hq hcat9 hcw hcY ?_ h
    intro T hT X
    have hcode := (hcU s hU).1
    obtain ⟨mk, methM, hnamed, hmethM, hstM, habM⟩ := Cond.instanceMethod_spec hinst
    obtain ⟨methM', cM, hmethM', -, -, -, -, -, -, hsigM⟩ := Cond.code_spec hnamed hcode
    cases hmethM.symm.trans hmethM'
    obtain ⟨cellB, hcB, hoB, hclB⟩ := va_recv hKn (cr_one hat) hc (q0 := 0) rfl
    obtain ⟨c2, r2, m2, q1, q2, q3, q4, kP, hkP, hkPi⟩ := Cond.selects_spec hsel
    cases hclB.symm.trans q1
    cases (State.methodFound?_of_named hnamed hy).symm.trans q2
    cases hnamed.symm.trans q3
    have hselP : selectMethod e.platform s.vm cellB.cls mk = .method mk := by rw [Launch.admits_selectMethod X.admits]; exact q4
    have hle : As.length = methM.sig.parameters.length := by
      rw [hsigM] at hlen
      have h9 : As.length + 1 = na + 1 := by rw [← e2, e4]; simp
      have h8 : methM.sig.parameters.length = na := Option.some.inj hlen
      omega
    have hstk : st = As.reverse ++ .ref b :: r := by rw [e1, e4]; simp
    obtain ⟨vm₁, X₁, hstep₁⟩ := X.invokevirtual hx hown hlink hnamed hmethM hstM hkP hkPi hy (a := b) (cell := cellB) (by rw [hT]; exact hcB) (fun z h => by rw [h] at hoB; cases hoB) hselP hmethM habM hkP hkPi (g := F0 m pc ls st) rfl (argsL := As) (rest := r) hle hstk (by rw [hb]; exact hd)
    exact ⟨vm₁, mk, X₁, X₁.named hnamed, hstep₁⟩
theorem cr_calleeW (hst : cr_St U) (hcU : ∀ V, U V → (Cond.codeWith y bytes maxL ret hh).before #[] V = true ∧ (Cond.initialized y.cls).before #[] V = true) (hU : U s) : (∀ (a' : Array Value) (V : State), s.WarmedH V.vm → (Cond.codeWith y bytes maxL ret hh).before a' V = true) ∧
    ∀ V : State, s.WarmedH V.vm → ∀ mk, V.methodNamed? y = some mk → (∃ methY cY, V.vm.method? mk = some methY ∧ methY.code = some cY ∧ cY.maxLocals = maxL) ∧ ∃ kY, V.vm.classes[mk.cls]? = some kY ∧ kY.init = .initialized := by
  refine ⟨fun a' V hW => va_any rfl (hcU V (hst s V hW hU)).1, fun V hW mk hn => ?_⟩
  obtain ⟨h1, h2⟩ := hcU V (hst s V hW hU)
  obtain ⟨m9, methY, cY, g0, g1, g2, -, g3, -⟩ := Cond.codeWith_spec h1
  cases hn.symm.trans g0
  obtain ⟨kY, hkY, -⟩ := className_of_methodNamed hn
  exact ⟨⟨methY, cY, g1, g2, g3⟩, kY, hkY, Cond.initialized_spec (findClass_of_methodNamed hn) hkY h2⟩
theorem cr_calSW_ok (hx : p.tables.exec = Jvm.exec) (hb : c.code = cc) (hml : c.maxLocals = nL) (hown : s.vm.findClass own = some m.cls) (hlocks : meth.locks = false) (hU : U s) (hlo : lo ≤ s.heap.size) (hR : R = cr_rm d mc ms) (hst : cr_St U) (hout : ∀ x ∈ c.exceptionTable.toList, covers x pc = false)
    (hcU : ∀ V, U V → (Cond.codeWith y bytes maxL ret hh).before #[] V = true ∧ (Cond.initialized y.cls).before #[] V = true) (hlink : (Cond.methodLink own index y).before args s = true) (hstat : (Cond.static y).before args s = true)
    (hy : y.cls ≠ "java/lang/invoke/MethodHandle" ∧ y.cls ≠ "java/lang/invoke/VarHandle") (hlen : (parseMethodDescriptor y.desc).map (fun d => d.parameters.length) = some na) (hmaxL : maxL ≤ 41) (hd : decode cc pc = .ok (.invokestatic index, 3)) (hn : pc + 3 = nx) :
    cr_Snd p l e R s m args below meth c lo mc ms Q pc (cr_calS l U lo y (.codeWith y bytes maxL ret hh) d mc ms na nL nx) := by
  intro K lv st H k n hK h ls locs hl hq
  obtain ⟨hnL, h⟩ := h
  obtain ⟨vs, r, e1, e2, h⟩ := cr_tk_sp h
  rw [List.append_nil] at h
  obtain ⟨hcw, hcY⟩ := cr_calleeW hst hcU hU
  refine cr_cal (av := vs.reverse) (r := r) (maxL := maxL) (ig := .invokestatic index) (len := 3) hK hR hU hst hlo hlocks hout (by rw [hnL]; exact hml) hmaxL (by rw [hb]; exact hd) hn hl hq hcw hcY ?_ h
  intro T hT X
  have hcode := (hcU s hU).1
  have hini := (hcU s hU).2
  obtain ⟨mk, methM, cM, hnamed, hmethM, -, -, -, -, -, -, hsigM⟩ := Cond.codeWith_spec hcode
  have hstatic : methM.isStatic = true := Cond.static_spec hnamed hmethM hstat
  obtain ⟨kP, hkP, -⟩ := className_of_methodNamed hnamed
  have hinitP : kP.init = .initialized := Cond.initialized_spec (findClass_of_methodNamed hnamed) hkP hini
  have hle : vs.reverse.length = methM.sig.parameters.length := by
    rw [hsigM] at hlen
    rw [List.length_reverse, e2]
    exact (Option.some.inj hlen).symm
  obtain ⟨vm₁, X₁, hstep₁⟩ := X.invokestatic hx hown hlink hnamed hmethM hstatic hkP hinitP hy (g := F0 m pc ls st) rfl (argsL := vs.reverse) (rest := r) hle (by rw [List.reverse_reverse]; exact e1) (by rw [hb]; exact hd)
  exact ⟨vm₁, mk, X₁, X₁.named hnamed, hstep₁⟩
/-- calls that throw nothing: whatever the handlers -/
def cr_calSh (l : Launch) (U : State → Prop) (lo : Nat) (y : MethodName) (cw : Cond) (d mc ms : Nat) (na nL nx : Nat) : cr_T := fun K _ lv st H k n =>
  lv.length = nL ∧ cr_tk na [] st (fun av r => cr_afterH l U lo y cw (fun _ => none) d mc ms nx K lv av r H k n)
def cr_calIh (l : Launch) (U : State → Prop) (lo : Nat) (y : MethodName) (cw : Cond) (d mc ms : Nat) (na nL nx : Nat) : cr_T := fun K _ lv st H k n =>
  lv.length = nL ∧ cr_tk (na + 1) [] st (fun av r => match av with | .ref b :: As => cr_afterH l U lo y cw (fun _ => none) d mc ms nx K lv (.ref b :: As) r H k n | _ => False)
theorem cr_calSh_ok (hx : p.tables.exec = Jvm.exec) (hb : c.code = cc) (hml : c.maxLocals = nL) (hown : s.vm.findClass own = some m.cls) (hU : U s) (hlo : lo ≤ s.heap.size) (hR : R = cr_rm d mc ms) (hst : cr_St U)
    (hcU : ∀ V, U V → (Cond.codeWith y bytes maxL ret hh).before #[] V = true ∧ (Cond.initialized y.cls).before #[] V = true) (hlink : (Cond.methodLink own index y).before args s = true) (hstat : (Cond.static y).before args s = true)
    (hy : y.cls ≠ "java/lang/invoke/MethodHandle" ∧ y.cls ≠ "java/lang/invoke/VarHandle") (hlen : (parseMethodDescriptor y.desc).map (fun d => d.parameters.length) = some na) (hmaxL : maxL ≤ 41) (hd : decode cc pc = .ok (.invokestatic index, 3)) (hn : pc + 3 = nx) :
    cr_Snd p l e R s m args below meth c lo mc ms Q pc (cr_calSh l U lo y (.codeWith y bytes maxL ret hh) d mc ms na nL nx) := by
  intro K lv st H k n hK h ls locs hl hq
  obtain ⟨hnL, h⟩ := h
  obtain ⟨vs, r, e1, e2, h⟩ := cr_tk_sp h
  rw [List.append_nil] at h
  obtain ⟨hcw, hcY⟩ := cr_calleeW hst hcU hU
  refine cr_calH (av := vs.reverse) (r := r) (maxL := maxL) (ig := .invokestatic index) (len := 3) hK hR hU hst hlo (by rw [hnL]; exact hml) hmaxL (by rw [hb]; exact hd) hn hl hq (fun kd hp cell h9 => by cases h9) hcw hcY ?_ h
  intro T hT X
  have hcode := (hcU s hU).1
  have hini := (hcU s hU).2
  obtain ⟨mk, methM, cM, hnamed, hmethM, -, -, -, -, -, -, hsigM⟩ := Cond.codeWith_spec hcode
  have hstatic : methM.isStatic = true := Cond.static_spec hnamed hmethM hstat
  obtain ⟨kP, hkP, -⟩ := className_of_methodNamed hnamed
  have hinitP : kP.init = .initialized := Cond.initialized_spec (findClass_of_methodNamed hnamed) hkP hini
  have hle : vs.reverse.length = methM.sig.parameters.length := by
    rw [hsigM] at hlen
    rw [List.length_reverse, e2]
    exact (Option.some.inj hlen).symm
  obtain ⟨vm₁, X₁, hstep₁⟩ := X.invokestatic hx hown hlink hnamed hmethM hstatic hkP hinitP hy (g := F0 m pc ls st) rfl (argsL := vs.reverse) (rest := r) hle (by rw [List.reverse_reverse]; exact e1) (by rw [hb]; exact hd)
  exact ⟨vm₁, mk, X₁, X₁.named hnamed, hstep₁⟩
theorem cr_calIh_ok (hx : p.tables.exec = Jvm.exec) (hb : c.code = cc) (hml : c.maxLocals = nL) (hown : s.vm.findClass own = some m.cls) (hU : U s) (hlo : lo ≤ s.heap.size) (hR : R = cr_rm d mc ms) (hst : cr_St U)
    (hcU : ∀ V, U V → (Cond.code y bytes maxL none).before #[] V = true ∧ (Cond.initialized y.cls).before #[] V = true) (hlink : (Cond.methodLink own index y).before args s = true) (hinst : (Cond.instanceMethod y).before args s = true) (hy1 : y.name = "<init>")
    (hy : y.cls ≠ "java/lang/invoke/MethodHandle" ∧ y.cls ≠ "java/lang/invoke/VarHandle") (hlen : (parseMethodDescriptor y.desc).map (fun d => d.parameters.length) = some na) (hmaxL : maxL ≤ 41) (hd : decode cc pc = .ok (.invokespecial index, 3)) (hn : pc + 3 = nx) :
    cr_Snd p l e R s m args below meth c lo mc ms Q pc (cr_calIh l U lo y (.code y bytes maxL none) d mc ms na nL nx) := by
  intro K lv st H k n hK h ls locs hl hq
  obtain ⟨hnL, h⟩ := h
  obtain ⟨vs, r, e1, e2, h⟩ := cr_tk_sp h
  rw [List.append_nil] at h
  match e3 : vs.reverse, h with
  | .ref b :: As, h =>
    have e4 := cr_rev e3
    obtain ⟨hcw, hcY⟩ := cr_callee hst hcU hU
    refine cr_calH (av := .ref b :: As) (r := r) (maxL := maxL) (ig := .invokespecial index) (len := 3) hK hR hU hst hlo (by rw [hnL]; exact hml) hmaxL (by rw [hb]; exact hd) hn hl hq (fun kd hp cell h9 => by cases h9) hcw hcY ?_ h
    intro T hT X
    have hcode := (hcU s hU).1
    have hpl : e.platform.magicAccessors = ({} : Platform).magicAccessors := by rw [X.admits.platform]
    have hle : ∀ sig, parseMethodDescriptor y.desc = some sig → As.length = sig.parameters.length := by
      intro sig hsig
      rw [hsig] at hlen
      have h9 : As.length + 1 = na + 1 := by rw [← e2, e4]; simp
      have h8 : sig.parameters.length = na := Option.some.inj hlen
      omega
    have hstk : st = As.reverse ++ .ref b :: r := by rw [e1, e4]; simp
    obtain ⟨mk, methM, cM, kP, vm₁, hnamed, -, -, -, -, -, -, -, hW₁, hstep₁⟩ := Steps.initColdArgs (e := e) X.here hx X.warmed hpl hown hy1 hy hlink hinst (va_any rfl hcode) (f := F0 m pc ls st) rfl hle hstk (by rw [hb]; exact hd)
    have X₁ := X.noted hW₁
    exact ⟨vm₁, mk, X₁, X₁.named hnamed, hstep₁⟩
end LW2
/-- which kinds are caught where -/
def hd1 (h1 : Nat) : Nat → Option Nat := fun kd => if kd = 1 then some h1 else none
def hd2 (h1 h2 : Nat) : Nat → Option Nat := fun kd => if kd = 1 then some h1 else if kd = 2 then some h2 else none
def cr_No (s0 : State) : Prop := ∃ a0 : Array Value, (Cond.not (.castable "java/lang/IllegalStateException" "java/lang/IllegalArgumentException")).before a0 s0 = true
