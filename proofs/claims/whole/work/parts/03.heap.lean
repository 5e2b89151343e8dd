/-! THE LIGHT MACHINE, its heap: fields, arrays, new cells, returns. A cell is said by the kit's va_at; 'cr_Up' one cell changed, 'cr_Nw' one cell new. -/
def cr_nth : List Value → Nat → (Value → Prop) → Prop
  | [], _, _ => False
  | v :: _, 0, f => f v
  | _ :: t, i + 1, f => cr_nth t i f
theorem cr_nth_sp : ∀ {fs : List Value} {i : Nat} {f : Value → Prop}, cr_nth fs i f → ∃ v, fs[i]? = some v ∧ f v
  | [], _, _, h => False.elim h
  | v :: _, 0, _, h => ⟨v, rfl, h⟩
  | _ :: t, i + 1, f, h => by
    obtain ⟨v, h1, h2⟩ := cr_nth_sp (fs := t) (i := i) (f := f) h
    exact ⟨v, by simpa using h1, h2⟩
/-- a field list with one place changed -/
def cr_sn : List Value → Nat → Value → (List Value → Prop) → Prop
  | [], _, _, _ => False
  | _ :: t, 0, v, f => f (v :: t)
  | x :: t, i + 1, v, f => cr_sn t i v (fun t' => f (x :: t'))
theorem cr_sn_sp : ∀ {fs : List Value} {i : Nat} {v : Value} {f : List Value → Prop}, cr_sn fs i v f → i < fs.length ∧ f (fs.set i v)
  | [], _, _, _, h => False.elim h
  | _ :: _, 0, _, _, h => ⟨by simp, h⟩
  | x :: t, i + 1, v, f, h => by
    obtain ⟨h1, h2⟩ := cr_sn_sp (fs := t) (i := i) (v := v) (f := fun t' => f (x :: t')) h
    exact ⟨by simpa using h1, by simpa using h2⟩
def cr_Up (D : va_G) (cl : List vw_C) (H : Heap) (a : Nat) (x : va_E) (H' : Heap) : Prop := H'.size = H.size ∧ va_at D cl (a, x) H' ∧ ∀ q : Nat, q ≠ a → H'[q]? = H[q]?
def cr_Nw (D : va_G) (cl : List vw_C) (lo : Nat) (H : Heap) (q : Nat) (x : va_E) (H' : Heap) : Prop := q = H.size ∧ lo ≤ q ∧ H'.size = H.size + 1 ∧ va_at D cl (q, x) H' ∧ ∀ y : Nat, y < H.size → H'[y]? = H[y]?
def cr_fit (ty : FieldType) (v : Value) : Prop := narrow ty v = v ∧ fits ty v = true
section CR2
variable {p : Program} {l : Launch} {e : Env} {R : Room} {s : State} {m : MethodId} {args : Array Value} {below : List Frame} {meth : Method} {c : Code} {lo mc ms : Nat} {Q : cr_Q}
variable {cc : ByteArray} {pc nx : Nat} {D : va_G} {cl : List vw_C} {tys : List (ClassId × FieldType)}
variable {H : Heap} {locs : List Loc} {k n : Nat} {g : JFrame}
theorem cr_W_ret (hk : k ≤ mc) (hn : n ≤ ms) (h : W p l e R s m args below meth c H locs k n (MQ below (fun _ st o t => cr_O Q st o t) args s k n (cr_lc lo s)) g) : W p l e R s m args below meth c H locs k n (cr_MQ below lo mc ms Q s) g := by
  intro T hT X
  obtain ⟨t, a, o, b1, b2, b3, L, b4, b5⟩ := h T hT X
  exact ⟨t, a, o, b1, b2, b3, L, ⟨b4.2.1, b4.2.2.mono hk hn⟩, b5⟩
theorem cr_W_size {Qw : State → Prop} (h : s.heap.size ≤ H.size → W p l e R s m args below meth c H locs k n Qw g) : W p l e R s m args below meth c H locs k n Qw g := by
  intro T hT X
  have h2 : s.heap.size ≤ T.heap.size := X.same.2.1
  exact h (by rw [← hT]; exact h2) T hT X
/-- an object that is no statics' cell now was none before -/
theorem cr_W_old {Qw : State → Prop} {a : Nat} {cell : Cell} (hc : H[a]? = some cell) (hv : cell.vm.isStatics = false) (h : (∀ c0 : Cell, s.heap[a]? = some c0 → c0.vm.isStatics = false) → W p l e R s m args below meth c H locs k n Qw g) : W p l e R s m args below meth c H locs k n Qw g := by
  intro T hT X
  refine h (fun c0 h0 => ?_) T hT X
  obtain ⟨c', h1, h2, -⟩ := X.same.2.2.2.2.2 a c0 h0
  have h3 : T.heap[a]? = some c' := h1
  rw [hT, hc] at h3
  cases h3
  have h4 : cell.vm = c0.vm := by rw [h2]
  rw [← h4]
  exact hv
theorem cr_locs1 {a i : Nat} (hq : ∀ q ∈ locs, cr_lc lo s q.base) (ha : cr_lc lo s a) : ∀ q ∈ locs ++ [(⟨a, i⟩ : Loc)], cr_lc lo s q.base := by
  intro q h
  rcases List.mem_append.mp h with h | h
  · exact hq q h
  · rw [List.mem_singleton.mp h]
    exact ha
-- returns
def cr_iret (mc ms : Nat) : cr_T := fun _ Q _ st H k n => match st with | [.int v] => k ≤ mc ∧ n ≤ ms ∧ Q (.inl (some (.int v))) H | _ => False
theorem cr_iret_ok (hx : p.tables.exec = Jvm.exec) (hb : c.code = cc) (hr : meth.sig.returnType = some .int) (hlocks : meth.locks = false) (hd : decode cc pc = .ok (.ireturn, 1)) : cr_Snd p l e R s m args below meth c lo mc ms Q pc (cr_iret mc ms) := by
  intro K lv st H k n hK h ls locs hl hq
  match st, h with
  | [.int v], h => exact cr_W_ret h.1 h.2.1 (W.iret hx hb hr (fun t ht _ => Or.inl ⟨_, rfl, by rw [ht]; exact h.2.2⟩) hq hd)
def cr_zret (mc ms : Nat) (ty : FieldType) : cr_T := fun _ Q _ st H k n => match st with | [.int v] => narrow ty (.int v) = .int v ∧ k ≤ mc ∧ n ≤ ms ∧ Q (.inl (some (.int v))) H | _ => False
theorem cr_zret_ok {ty : FieldType} (hx : p.tables.exec = Jvm.exec) (hb : c.code = cc) (hr : meth.sig.returnType = some ty) (hlocks : meth.locks = false) (hd : decode cc pc = .ok (.ireturn, 1)) : cr_Snd p l e R s m args below meth c lo mc ms Q pc (cr_zret mc ms ty) := by
  intro K lv st H k n hK h ls locs hl hq
  match st, h with
  | [.int v], h => exact cr_W_ret h.2.1 h.2.2.1 (W.zret hx hb hr h.1 (fun t ht _ => Or.inl ⟨_, rfl, by rw [ht]; exact h.2.2.2⟩) hq hd)
def cr_lret (mc ms : Nat) : cr_T := fun _ Q _ st H k n => match st with | [.long v] => k ≤ mc ∧ n ≤ ms ∧ Q (.inl (some (.long v))) H | _ => False
theorem cr_lret_ok (hx : p.tables.exec = Jvm.exec) (hb : c.code = cc) (hr : meth.sig.returnType = some .long) (hlocks : meth.locks = false) (hd : decode cc pc = .ok (.lreturn, 1)) : cr_Snd p l e R s m args below meth c lo mc ms Q pc (cr_lret mc ms) := by
  intro K lv st H k n hK h ls locs hl hq
  match st, h with
  | [.long v], h => exact cr_W_ret h.1 h.2.1 (W.lret hx hb hr (fun t ht _ => Or.inl ⟨_, rfl, by rw [ht]; exact h.2.2⟩) hq hd)
def cr_aret (mc ms : Nat) : cr_T := fun _ Q _ st H k n => match st with | [.ref a] => k ≤ mc ∧ n ≤ ms ∧ Q (.inl (some (.ref a))) H | [.null] => k ≤ mc ∧ n ≤ ms ∧ Q (.inl (some .null)) H | _ => False
theorem cr_aret_ok {rt : FieldType} (hx : p.tables.exec = Jvm.exec) (hb : c.code = cc) (hr : meth.sig.returnType = some rt) (hrt : (∃ n, rt = .object n) ∨ ∃ t, rt = .array t) (hlocks : meth.locks = false) (hd : decode cc pc = .ok (.areturn, 1)) : cr_Snd p l e R s m args below meth c lo mc ms Q pc (cr_aret mc ms) := by
  intro K lv st H k n hK h ls locs hl hq
  match st, h with
  | [.ref a], h => exact cr_W_ret h.1 h.2.1 (W.aret hx hb hr hrt (Or.inr ⟨a, rfl⟩) (fun t ht _ => Or.inl ⟨_, rfl, by rw [ht]; exact h.2.2⟩) hq hd)
  | [.null], h => exact cr_W_ret h.1 h.2.1 (W.aret hx hb hr hrt (Or.inl rfl) (fun t ht _ => Or.inl ⟨_, rfl, by rw [ht]; exact h.2.2⟩) hq hd)
def cr_vret (mc ms : Nat) : cr_T := fun _ Q _ st H k n => match st with | [] => k ≤ mc ∧ n ≤ ms ∧ Q (.inl none) H | _ => False
theorem cr_vret_ok (hx : p.tables.exec = Jvm.exec) (hb : c.code = cc) (hr : meth.sig.returnType = none) (hlocks : meth.locks = false) (hd : decode cc pc = .ok (.return_, 1)) : cr_Snd p l e R s m args below meth c lo mc ms Q pc (cr_vret mc ms) := by
  intro K lv st H k n hK h ls locs hl hq
  match st, h with
  | [], h => exact cr_W_ret h.1 h.2.1 (W.vret hx hb hr (fun t ht _ => Or.inl ⟨_, rfl, by rw [ht]; exact h.2.2⟩) hq hd)
-- fields
def cr_getf (D : va_G) (cl : List vw_C) (ci kf nx : Nat) : cr_T := fun K _ lv st H k n => match st with
  | .ref a :: r => ∃ fs, va_at D cl (a, .inr (ci, fs)) H ∧ cr_nth fs kf (fun v => K nx lv (v :: r) H k n)
  | _ => False
theorem cr_one {x : Nat × va_E} (h : va_at D cl x H) : va_P D cl [x] H := by
  intro k q hk
  match k, hk with
  | 0, hk => cases hk; exact h
  | k + 1, hk => simp at hk
theorem cr_getf_ok {own ref C : String} {T : u_T} {N ci kf index : Nat} {Ts : List Cond} (hx : p.tables.exec = Jvm.exec) (hb : c.code = cc) (hts : ∀ w ∈ Ts, w.before args s = true) (hin : ∀ w ∈ u_ws C T N, w ∈ Ts) (hown : s.vm.findClass own = some m.cls) (hK : va_K D cl tys s) (hc : cl[ci]? = some (C, T, N)) (hk : kf < N)
    (hlink : (Cond.fieldLink own index ref (T kf).2.1 (T kf).2.2.1).before args s = true) (hsame : ∀ x, s.fieldFound? (T kf).1 (T kf).2.1 (T kf).2.2.1 = some x → s.fieldFound? ref (T kf).2.1 (T kf).2.2.1 = some x) (hd : decode cc pc = .ok (.getfield index, 3)) (hn : pc + 3 = nx) : cr_Snd p l e R s m args below meth c lo mc ms Q pc (cr_getf D cl ci kf nx) := by
  subst hn
  intro K lv st H k n hKK h ls locs hl hq
  match st, h with
  | .ref a :: r, ⟨fs, h1, h2⟩ =>
    obtain ⟨v, h3, h4⟩ := cr_nth_sp h2
    exact va_get hx hb hts hin hown hK (cr_one h1) 0 rfl hc kf hk hlink hsame h3 hd (hKK _ _ _ _ _ _ h4 ls locs hl hq)
theorem cr_getfN_ok {own ref C host : String} {T : u_T} {N ci kf index : Nat} {Ts : List Cond} (hx : p.tables.exec = Jvm.exec) (hb : c.code = cc) (hts : ∀ w ∈ Ts, w.before args s = true) (hin : ∀ w ∈ u_ws C T N, w ∈ Ts) (hown : s.vm.findClass own = some m.cls) (hK : va_K D cl tys s) (hc : cl[ci]? = some (C, T, N)) (hk : kf < N)
    (hlink : (Cond.fieldLinkNest own index ref (T kf).2.1 (T kf).2.2.1 host).before args s = true) (hsame : ∀ x, s.fieldFound? (T kf).1 (T kf).2.1 (T kf).2.2.1 = some x → s.fieldFound? ref (T kf).2.1 (T kf).2.2.1 = some x) (hd : decode cc pc = .ok (.getfield index, 3)) (hn : pc + 3 = nx) : cr_Snd p l e R s m args below meth c lo mc ms Q pc (cr_getf D cl ci kf nx) := by
  subst hn
  intro K lv st H k n hKK h ls locs hl hq
  match st, h with
  | .ref a :: r, ⟨fs, h1, h2⟩ =>
    obtain ⟨v, h3, h4⟩ := cr_nth_sp h2
    exact va_getN hx hb hts hin hown hK (cr_one h1) 0 rfl hc kf hk hlink hsame h3 hd (hKK _ _ _ _ _ _ h4 ls locs hl hq)
def cr_putf (D : va_G) (cl : List vw_C) (lo : Nat) (ci kf : Nat) (ty : FieldType) (nx : Nat) : cr_T := fun K _ lv st H k n => match st with
  | v :: .ref a :: r => ∃ fs, va_at D cl (a, .inr (ci, fs)) H ∧ lo ≤ a ∧ cr_fit ty v ∧ cr_sn fs kf v (fun fs' => ∀ H', cr_Up D cl H a (.inr (ci, fs')) H' → K nx lv r H' k n)
  | _ => False
theorem cr_putf_ok {own ref C : String} {T : u_T} {N ci kf index : Nat} {Ts : List Cond} {ty : FieldType} (ty0 : Nat → FieldType) (hx : p.tables.exec = Jvm.exec) (hb : c.code = cc) (hts : ∀ w ∈ Ts, w.before args s = true) (hin : ∀ w ∈ u_ws C T N, w ∈ Ts) (hty : ∀ k, k < N → parseFieldDescriptor (T k).2.2.1 = some (ty0 k)) (hnm : ∀ a, a < N → ∀ b, b < N → a ≠ b → (T a).2.1 ≠ (T b).2.1) (hown : s.vm.findClass own = some m.cls) (hK : va_K D cl tys s) (hc : cl[ci]? = some (C, T, N)) (hk : kf < N)
    (hlink : (Cond.fieldLink own index ref (T kf).2.1 (T kf).2.2.1).before args s = true ∨ ∃ host, (Cond.fieldLinkNest own index ref (T kf).2.1 (T kf).2.2.1 host).before args s = true) (hsame : ∀ x, s.fieldFound? (T kf).1 (T kf).2.1 (T kf).2.2.1 = some x → s.fieldFound? ref (T kf).2.1 (T kf).2.2.1 = some x) (hfin : (T kf).2.2.2 = false) (hd2 : parseFieldDescriptor (T kf).2.2.1 = some ty) (hd : decode cc pc = .ok (.putfield index, 3)) (hn : pc + 3 = nx) : cr_Snd p l e R s m args below meth c lo mc ms Q pc (cr_putf D cl lo ci kf ty nx) := by
  subst hn
  intro K lv st H k n hKK h ls locs hl hq
  match st, h with
  | v :: .ref a :: r, ⟨fs, h1, ha, hf, h2⟩ =>
    obtain ⟨h3, h4⟩ := cr_sn_sp h2
    have hap := va_apart (own := own) hts hin ty0 hty hnm hK hc
    obtain ⟨r9, g1, cell, q1, q2, q3, q4⟩ := h1
    refine cr_W_old q1 (by rw [q3]; rfl) (fun hold => ?_)
    have hr : r9 = (C, T, N) := Option.some.inj (g1.symm.trans hc)
    subst hr
    obtain ⟨hS, hfc, kC, hkC, hkind⟩ := hK.1 ci _ hc
    obtain ⟨cf, kf9, fi, f, hi, hsl⟩ := hS kf hk
    have hlay := hts _ (hin _ (u_in_lay hk))
    unfold u_lay at hlay
    rw [if_neg (by rw [hfin]; decide)] at hlay
    have hst := (u_facts hfc hkC (u_lays hts hin hk) hi).1
    have h6 := u_store hfc hkC hkind hlay hi hd2 hf.1 hf.2
    have fin : ∀ H' : Heap, H'[a]? = some (cell.setSlot f.slot v) → H'.size = H.size → (∀ q, q ≠ a → H'[q]? = H[q]?) → W p l e R s m args below meth c H' (locs ++ [⟨a, f.slot⟩]) k n (cr_MQ below lo mc ms Q s) (F0 m (pc + 3) ls r) := by
      intro H' e1 e2 e3
      rw [hsl] at e1
      exact hKK _ _ _ _ _ _ (h4 H' ⟨e2, ⟨_, hc, t_OB.to (V := updV (vp_V fs) kf v) ⟨_, e1, q2, q3, t_set q4 hap hk v⟩ (fun j _ => vp_updV_set h3 v j)⟩, e3⟩) ls _ hl (cr_locs1 hq ⟨ha, hold⟩)
    rcases hlink with hlink | ⟨host, hlink⟩
    · exact W.putK hx hb (f := f) ⟨hown, hlink, ⟨_, _, _, hsame _ hi⟩, hst⟩ (by rw [q2]; exact h6) q1 q3 (by rw [hsl]; exact k2_hasslot (q4 kf hk)) rfl rfl hd fin
    · exact va_WputK hx hb (f := f) hown hlink (hsame _ hi) hst (by rw [q2]; exact h6) q1 q3 (by rw [hsl]; exact k2_hasslot (q4 kf hk)) rfl rfl hd fin
theorem cr_putF_ok {own ref C : String} {T : u_T} {N ci kf index : Nat} {Ts : List Cond} {ty : FieldType} (ty0 : Nat → FieldType) (hx : p.tables.exec = Jvm.exec) (hb : c.code = cc) (hts : ∀ w ∈ Ts, w.before args s = true) (hin : ∀ w ∈ u_ws C T N, w ∈ Ts) (hty : ∀ k, k < N → parseFieldDescriptor (T k).2.2.1 = some (ty0 k)) (hnm : ∀ a, a < N → ∀ b, b < N → a ≠ b → (T a).2.1 ≠ (T b).2.1) (hown : s.vm.findClass own = some m.cls) (hK : va_K D cl tys s) (hc : cl[ci]? = some (C, T, N)) (hk : kf < N)
    (hlink : (Cond.fieldLink own index ref (T kf).2.1 (T kf).2.2.1).before args s = true) (hsame : ∀ x, s.fieldFound? (T kf).1 (T kf).2.1 (T kf).2.2.1 = some x → s.fieldFound? ref (T kf).2.1 (T kf).2.2.1 = some x) (hfin : (T kf).2.2.2 = true) (hin2 : meth.name = "<init>") (hdecl : (T kf).1 = own) (hd2 : parseFieldDescriptor (T kf).2.2.1 = some ty) (hd : decode cc pc = .ok (.putfield index, 3)) (hn : pc + 3 = nx) : cr_Snd p l e R s m args below meth c lo mc ms Q pc (cr_putf D cl lo ci kf ty nx) := by
  subst hn
  intro K lv st H k n hKK h ls locs hl hq
  match st, h with
  | v :: .ref a :: r, ⟨fs, h1, ha, hf, h2⟩ =>
    obtain ⟨h3, h4⟩ := cr_sn_sp h2
    have hap := va_apart (own := own) hts hin ty0 hty hnm hK hc
    obtain ⟨r9, g1, cell, q1, q2, q3, q4⟩ := h1
    refine cr_W_old q1 (by rw [q3]; rfl) (fun hold => ?_)
    have hr : r9 = (C, T, N) := Option.some.inj (g1.symm.trans hc)
    subst hr
    obtain ⟨hS, hfc, kC, hkC, hkind⟩ := hK.1 ci _ hc
    obtain ⟨cf, kf9, fi, f, hi, hsl⟩ := hS kf hk
    have hlay := hts _ (hin _ (u_in_lay hk))
    unfold u_lay at hlay
    rw [if_pos hfin] at hlay
    have hst := (u_facts hfc hkC (u_lays hts hin hk) hi).1
    have hcf : m.cls = cf := by
      obtain ⟨_, _, c', _, _, _, -, -, hf', -, -, -, hown2, -⟩ := Cond.laysFinal_spec hlay
      have e1 : c' = cf := by have := hi.symm.trans hf'; simp at this; exact this.1.symm
      rw [hdecl] at hown2
      rw [← e1]; exact Option.some.inj (hown.symm.trans hown2)
    have h6 := u_fits hfc hkC hkind (Or.inr hlay) hi hd2 hf.1 hf.2
    refine W.putFinK hx hb hown hlink (hsame _ hi) hst hcf hin2 (by rw [q2]; exact h6) q1 q3 (by rw [hsl]; exact k2_hasslot (q4 kf hk)) rfl rfl hd fun H' e1 e2 e3 => ?_
    rw [hsl] at e1
    exact hKK _ _ _ _ _ _ (h4 H' ⟨e2, ⟨_, hc, t_OB.to (V := updV (vp_V fs) kf v) ⟨_, e1, q2, q3, t_set q4 hap hk v⟩ (fun j _ => vp_updV_set h3 v j)⟩, e3⟩) ls _ hl (cr_locs1 hq ⟨ha, hold⟩)
-- new objects
def cr_new (D : va_G) (cl : List vw_C) (lo mc ms : Nat) (ci N : Nat) (fs : List Value) (nx : Nat) : cr_T := fun K _ lv st H k n =>
  k + 1 ≤ mc ∧ n + N ≤ ms ∧ ∀ q H', cr_Nw D cl lo H q (.inr (ci, fs)) H' → K nx lv (.ref q :: st) H' (k + 1) (n + N)
theorem cr_new_ok {own C : String} {T : u_T} {N ci index : Nat} {Ts : List Cond} {fs : List Value} (ty : Nat → FieldType) (hx : p.tables.exec = Jvm.exec) (hb : c.code = cc) (hts : ∀ w ∈ Ts, w.before args s = true) (hin : ∀ w ∈ u_ws C T N, w ∈ Ts) (hty : ∀ k, k < N → parseFieldDescriptor (T k).2.2.1 = some (ty k)) (hown : s.vm.findClass own = some m.cls) (hcl : (Cond.classLink own index C).before args s = true) (hinst : (Cond.instantiable C N).before args s = true) (hini : (Cond.initialized C).before args s = true)
    (hK : va_K D cl tys s) (hc : cl[ci]? = some (C, T, N)) (hfs : ∀ j, j < N → defaultValue (ty j) = vp_V fs j) (hlo : lo ≤ s.heap.size) (hRc : R.cells = mc) (hRs : R.slots = ms) (hd : decode cc pc = .ok (.new index, 3)) (hn : pc + 3 = nx) : cr_Snd p l e R s m args below meth c lo mc ms Q pc (cr_new D cl lo mc ms ci N fs nx) := by
  subst hn
  intro K lv st H k n hKK h ls locs hl hq
  obtain ⟨h1, h2, h3⟩ := h
  refine cr_W_size (fun hsz => ?_)
  have hKn := hK.1 ci _ hc
  refine W.newcK hx hb hown hcl hinst hini rfl hd (by rw [hRc]; exact h1) (by rw [hRs]; exact h2) hKn.2.1 rfl fun H1 kC hkC e1 z1 o1 => ?_
  exact hKK _ _ _ _ _ _ (h3 H.size H1 ⟨rfl, Nat.le_trans hlo hsz, z1, ⟨_, hc, (u_born ty hts hin hKn hkC e1 hty).to hfs⟩, o1⟩) ls locs hl hq
-- arrays
def cr_iald (D : va_G) (cl : List vw_C) (cA : ClassId) (nx : Nat) : cr_T := fun K _ lv st H k n => match st with
  | .int i :: .ref a :: r => ∃ N f j, va_at D cl (a, .inl (cA, N, .inl f)) H ∧ i = nI j ∧ j < N ∧ N < 2 ^ 31 ∧ K nx lv (.int (f j) :: r) H k n
  | _ => False
theorem cr_iald_ok {cA : ClassId} {t0 : Nat} (hx : p.tables.exec = Jvm.exec) (hb : c.code = cc) (hK : va_K D cl tys s) (ht : tys[t0]? = some (cA, .int)) (hd : decode cc pc = .ok (.iaload, 1)) (hn : pc + 1 = nx) : cr_Snd p l e R s m args below meth c lo mc ms Q pc (cr_iald D cl cA nx) := by
  subst hn
  intro K lv st H k n hKK h ls locs hl hq
  match st, h with
  | .int i :: .ref a :: r, ⟨N, f, j, h1, h2, h3, h4, h5⟩ =>
    subst h2
    refine va_iald hx hb hK (cr_one h1) 0 t0 rfl ht (vp_in_nI h3 h4) hd ?_
    rw [nI_clamp (by omega)]
    exact hKK _ _ _ _ _ _ h5 ls locs hl hq
def cr_lald (D : va_G) (cl : List vw_C) (cA : ClassId) (nx : Nat) : cr_T := fun K _ lv st H k n => match st with
  | .int i :: .ref a :: r => ∃ N f j, va_at D cl (a, .inl (cA, N, .inr (.inl f))) H ∧ i = nI j ∧ j < N ∧ N < 2 ^ 31 ∧ K nx lv (.long (f j) :: r) H k n
  | _ => False
theorem cr_lald_ok {cA : ClassId} {t0 : Nat} (hx : p.tables.exec = Jvm.exec) (hb : c.code = cc) (hK : va_K D cl tys s) (ht : tys[t0]? = some (cA, .long)) (hd : decode cc pc = .ok (.laload, 1)) (hn : pc + 1 = nx) : cr_Snd p l e R s m args below meth c lo mc ms Q pc (cr_lald D cl cA nx) := by
  subst hn
  intro K lv st H k n hKK h ls locs hl hq
  match st, h with
  | .int i :: .ref a :: r, ⟨N, f, j, h1, h2, h3, h4, h5⟩ =>
    subst h2
    refine va_lald hx hb hK (cr_one h1) 0 t0 rfl ht (vp_in_nI h3 h4) hd ?_
    rw [nI_clamp (by omega)]
    exact hKK _ _ _ _ _ _ h5 ls locs hl hq
def cr_aald (D : va_G) (cl : List vw_C) (cA : ClassId) (nx : Nat) : cr_T := fun K _ lv st H k n => match st with
  | .int i :: .ref a :: r => ∃ N f j x, va_at D cl (a, .inl (cA, N, .inr (.inr (.inr (.inr f))))) H ∧ i = nI j ∧ j < N ∧ N < 2 ^ 31 ∧ f j = x ∧ (match x with | some y => K nx lv (.ref y :: r) H k n | none => K nx lv (.null :: r) H k n)
  | _ => False
theorem cr_aald_ok {cA : ClassId} {C : String} {t0 : Nat} (hx : p.tables.exec = Jvm.exec) (hb : c.code = cc) (hK : va_K D cl tys s) (ht : tys[t0]? = some (cA, .object C)) (hd : decode cc pc = .ok (.aaload, 1)) (hn : pc + 1 = nx) : cr_Snd p l e R s m args below meth c lo mc ms Q pc (cr_aald D cl cA nx) := by
  subst hn
  intro K lv st H k n hKK h ls locs hl hq
  match st, h with
  | .int i :: .ref a :: r, ⟨N, f, j, x, h1, h2, h3, h4, h5, h6⟩ =>
    subst h2
    refine va_aldq hx hb hK (cr_one h1) 0 t0 rfl ht (vp_in_nI h3 h4) hd ?_
    rw [nI_clamp (by omega), h5]
    match x, h6 with
    | some y, h6 => exact hKK _ _ _ _ _ _ h6 ls locs hl hq
    | none, h6 => exact hKK _ _ _ _ _ _ h6 ls locs hl hq
def cr_iast (D : va_G) (cl : List vw_C) (lo : Nat) (cA : ClassId) (nx : Nat) : cr_T := fun K _ lv st H k n => match st with
  | .int x :: .int i :: .ref a :: r => ∃ N f j, va_at D cl (a, .inl (cA, N, .inl f)) H ∧ lo ≤ a ∧ i = nI j ∧ j < N ∧ N < 2 ^ 31 ∧ ∀ H', cr_Up D cl H a (.inl (cA, N, .inl (upd f j x))) H' → K nx lv r H' k n
  | _ => False
theorem cr_iast_ok {cA : ClassId} {t0 : Nat} (hx : p.tables.exec = Jvm.exec) (hb : c.code = cc) (hK : va_K D cl tys s) (ht : tys[t0]? = some (cA, .int)) (hd : decode cc pc = .ok (.iastore, 1)) (hn : pc + 1 = nx) : cr_Snd p l e R s m args below meth c lo mc ms Q pc (cr_iast D cl lo cA nx) := by
  subst hn
  intro K lv st H k n hKK h ls locs hl hq
  match st, h with
  | .int x :: .int i :: .ref a :: r, ⟨N, f, j, h1, ha, h2, h3, h4, h5⟩ =>
    subst h2
    refine cr_W_old (cell := vp_cell _ _) h1 rfl (fun hold => ?_)
    refine W.iast hx hb h1 ((hK.2 t0 _ ht).1 N (fun j => .int (f j))) (fun q => by cases q) (by show ¬ (nI j < 0 ∨ (arrV _ _ _).slots.size ≤ _); rw [arrV_size]; exact vp_in_nI h3 h4) rfl rfl hd fun H1 e z oq => ?_
    refine hKK _ _ _ _ _ _ (h5 H1 ⟨z, ?_, oq⟩) ls _ hl (cr_locs1 hq ⟨ha, hold⟩)
    show H1[a]? = some (vp_cell _ _)
    rw [e, nI_clamp (by omega)]
    rw [vp_cell_i, vp_cell_i, arrV_store]
    congr 2
    funext q
    by_cases hq : q = j
    · subst hq
      simp [updV, upd]
    · simp [updV, upd, hq]
def cr_last (D : va_G) (cl : List vw_C) (lo : Nat) (cA : ClassId) (nx : Nat) : cr_T := fun K _ lv st H k n => match st with
  | .long x :: .int i :: .ref a :: r => ∃ N f j, va_at D cl (a, .inl (cA, N, .inr (.inl f))) H ∧ lo ≤ a ∧ i = nI j ∧ j < N ∧ N < 2 ^ 31 ∧ ∀ H', cr_Up D cl H a (.inl (cA, N, .inr (.inl (vp_updL f j x)))) H' → K nx lv r H' k n
  | _ => False
theorem cr_last_ok {cA : ClassId} {t0 : Nat} (hx : p.tables.exec = Jvm.exec) (hb : c.code = cc) (hK : va_K D cl tys s) (ht : tys[t0]? = some (cA, .long)) (hd : decode cc pc = .ok (.lastore, 1)) (hn : pc + 1 = nx) : cr_Snd p l e R s m args below meth c lo mc ms Q pc (cr_last D cl lo cA nx) := by
  subst hn
  intro K lv st H k n hKK h ls locs hl hq
  match st, h with
  | .long x :: .int i :: .ref a :: r, ⟨N, f, j, h1, ha, h2, h3, h4, h5⟩ =>
    subst h2
    refine cr_W_old (cell := vp_cell _ _) h1 rfl (fun hold => ?_)
    refine W.last hx hb h1 ((hK.2 t0 _ ht).1 N (fun j => .long (f j))) (fun q => by cases q) (by show ¬ (nI j < 0 ∨ (arrV _ _ _).slots.size ≤ _); rw [arrV_size]; exact vp_in_nI h3 h4) rfl rfl hd fun H1 e z oq => ?_
    refine hKK _ _ _ _ _ _ (h5 H1 ⟨z, ?_, oq⟩) ls _ hl (cr_locs1 hq ⟨ha, hold⟩)
    show H1[a]? = some (vp_cell _ _)
    rw [e, nI_clamp (by omega)]
    rw [vp_cell_l, vp_cell_l, arrV_store]
    congr 2
    funext q
    by_cases hq : q = j
    · subst hq
      simp [updV, vp_updL]
    · simp [updV, vp_updL, hq]
def cr_alen (D : va_G) (cl : List vw_C) (cA : ClassId) (nx : Nat) : cr_T := fun K _ lv st H k n => match st with
  | .ref a :: r => ∃ x : vp_A, va_at D cl (a, .inl (cA, x)) H ∧ K nx lv (.int (nI x.1) :: r) H k n
  | _ => False
theorem cr_alen_ok {cA : ClassId} {ty : FieldType} {t0 : Nat} (hx : p.tables.exec = Jvm.exec) (hb : c.code = cc) (hK : va_K D cl tys s) (ht : tys[t0]? = some (cA, ty)) (hd : decode cc pc = .ok (.arraylength, 1)) (hn : pc + 1 = nx) : cr_Snd p l e R s m args below meth c lo mc ms Q pc (cr_alen D cl cA nx) := by
  subst hn
  intro K lv st H k n hKK h ls locs hl hq
  match st, h with
  | .ref a :: r, ⟨x, h1, h2⟩ => exact va_alen hx hb hK (cr_one h1) 0 t0 rfl ht rfl hd (hKK _ _ _ _ _ _ h2 ls locs hl hq)
/-- a new array of numbers: z its length -/
def cr_newa (D : va_G) (cl : List vw_C) (lo mc ms : Nat) (cA : ClassId) (sz : Nat) (nx : Nat) (x0 : Nat → vp_A) : cr_T := fun K _ lv st H k n => match st with
  | .int z :: r => ∃ N, z = nI N ∧ N < 2 ^ 31 ∧ N * sz ≤ 536870912 ∧ k + 1 ≤ mc ∧ n + N ≤ ms ∧ ∀ q H', cr_Nw D cl lo H q (.inl (cA, x0 N)) H' → K nx lv (.ref q :: r) H' (k + 1) (n + N)
  | _ => False
theorem cr_newa_ok {atype : ArrayType} {ty : FieldType} {cA : ClassId} {sz t0 : Nat} {x0 : Nat → vp_A} (hx : p.tables.exec = Jvm.exec) (hb : c.code = cc) (harr : (Cond.arrayClass (newarray.typeOf atype)).before args s = true) (hty : newarray.typeOf atype = ty) (hnr : ty.isReference = false) (hsz : componentBytes ty = sz) (hx0 : ∀ N, vp_cell cA (x0 N) = arrV cA N (fun _ => defaultValue ty)) (hfc : s.vm.findClass ("[" ++ ty.toString) = some cA)
    (hlo : lo ≤ s.heap.size) (hRc : R.cells = mc) (hRs : R.slots = ms) (hd : decode cc pc = .ok (.newarray atype, 2)) (hn : pc + 2 = nx) : cr_Snd p l e R s m args below meth c lo mc ms Q pc (cr_newa D cl lo mc ms cA sz nx x0) := by
  subst hn; subst hty
  intro K lv st H k n hKK h ls locs hl hq
  match st, h with
  | .int z :: r, ⟨N, h1, h2, h3, h4, h5, h6⟩ =>
    subst h1
    refine cr_W_size (fun hs9 => ?_)
    refine va_newaK hx hb harr rfl hd rfl (nI_pos h2) (nI_clamp h2) (by rw [hsz]; exact h3) (by rw [hRc]; exact h4) (by rw [hRs]; exact h5) rfl fun H1 cB e1 z1 o1 hAr hNm => ?_
    have hcc : cB = cA := Option.some.inj (hNm.symm.trans hfc)
    subst hcc
    exact hKK _ _ _ _ _ _ (h6 H.size H1 ⟨rfl, Nat.le_trans hlo hs9, z1, by show H1[H.size]? = some (vp_cell _ _); rw [hx0]; exact e1, o1⟩) ls locs hl hq
/-- a new array of references -/
def cr_newq (D : va_G) (cl : List vw_C) (lo mc ms : Nat) (cA : ClassId) (nx : Nat) : cr_T := fun K _ lv st H k n => match st with
  | .int z :: r => ∃ N, z = nI N ∧ N < 2 ^ 31 ∧ N * 4 ≤ 536870912 ∧ k + 1 ≤ mc ∧ n + N ≤ ms ∧ ∀ q H', cr_Nw D cl lo H q (.inl (cA, N, .inr (.inr (.inr (.inr (fun _ => none)))))) H' → K nx lv (.ref q :: r) H' (k + 1) (n + N)
  | _ => False
theorem cr_newq_ok {own C : String} {index : Nat} {cA : ClassId} (hx : p.tables.exec = Jvm.exec) (hb : c.code = cc) (hown : s.vm.findClass own = some m.cls) (hclink : (Cond.classLink own index C).before args s = true) (hover : (Cond.arrayOver (.object C)).before args s = true) (hfc : s.vm.findClass ("[" ++ (FieldType.object C).toString) = some cA)
    (hlo : lo ≤ s.heap.size) (hRc : R.cells = mc) (hRs : R.slots = ms) (hd : decode cc pc = .ok (.anewarray index, 3)) (hn : pc + 3 = nx) : cr_Snd p l e R s m args below meth c lo mc ms Q pc (cr_newq D cl lo mc ms cA nx) := by
  subst hn
  intro K lv st H k n hKK h ls locs hl hq
  match st, h with
  | .int z :: r, ⟨N, h1, h2, h3, h4, h5, h6⟩ =>
    subst h1
    have hN := nI_clamp h2
    refine cr_W_size (fun hs9 => ?_)
    refine W.anew hx hb hown hclink hover rfl hd rfl (nI_pos h2) (by rw [hN]; exact h3) (by rw [hRc]; exact h4) (by rw [hN, hRs]; exact h5) fun cB kA comp f1 f2 f3 f4 => ?_
    have hcc : cB = cA := Option.some.inj (f1.symm.trans hfc)
    subst hcc
    rw [hN]
    refine hKK _ _ _ _ _ _ (h6 H.size _ ⟨rfl, Nat.le_trans hlo hs9, by rw [Array.size_push], ?_, fun q hq => by rw [Array.getElem?_push, if_neg (Nat.ne_of_lt hq)]⟩) ls locs hl hq
    show (H.push _)[H.size]? = some (vp_cell _ _)
    rw [vp_cell_q, Array.getElem?_push_size, ← arrV_new]
    rfl
/-- a reference is stored: an object of a class of the list, whose class fits the array's -/
def cr_aast (D : va_G) (cl : List vw_C) (lo : Nat) (cA : ClassId) (cs : List Nat) (nx : Nat) : cr_T := fun K _ lv st H k n => match st with
  | .ref v :: .int i :: .ref a :: r => ∃ N f j ci fs, va_at D cl (a, .inl (cA, N, .inr (.inr (.inr (.inr f))))) H ∧ lo ≤ a ∧ i = nI j ∧ j < N ∧ N < 2 ^ 31 ∧ ci ∈ cs ∧ va_at D cl (v, .inr (ci, fs)) H ∧ ∀ H', cr_Up D cl H a (.inl (cA, N, .inr (.inr (.inr (.inr (va_up f j (some v))))))) H' → K nx lv r H' k n
  | .null :: .int i :: .ref a :: r => ∃ N f j, va_at D cl (a, .inl (cA, N, .inr (.inr (.inr (.inr f))))) H ∧ lo ≤ a ∧ i = nI j ∧ j < N ∧ N < 2 ^ 31 ∧ ∀ H', cr_Up D cl H a (.inl (cA, N, .inr (.inr (.inr (.inr (va_up f j none)))))) H' → K nx lv r H' k n
  | _ => False
theorem cr_aast_ok {cA : ClassId} {C : String} {t0 : Nat} {cs : List Nat} (hx : p.tables.exec = Jvm.exec) (hb : c.code = cc) (hK : va_K D cl tys s) (ht : tys[t0]? = some (cA, .object C)) (hcast : ∀ ci ∈ cs, ∃ r, cl[ci]? = some r ∧ (Cond.castable r.1 C).before args s = true) (hd : decode cc pc = .ok (.aastore, 1)) (hn : pc + 1 = nx) : cr_Snd p l e R s m args below meth c lo mc ms Q pc (cr_aast D cl lo cA cs nx) := by
  subst hn
  intro K lv st H k n hKK h ls locs hl hq
  have stf : ∀ (H1 : Heap) (a j N : Nat) (f : Nat → Option Nat) (x : Option Nat), H1[a]? = some ((arrV cA N (fun j => va_rf (f j))).setSlot j (va_rf x)) → va_at D cl (a, .inl (cA, N, .inr (.inr (.inr (.inr (va_up f j x)))))) H1 := by
    intro H1 a j N f x e
    show H1[a]? = some (vp_cell _ _)
    rw [e, vp_cell_q, arrV_store]
    congr 2
    funext q
    by_cases hq : q = j
    · subst hq
      simp [updV, va_up]
    · simp [updV, va_up, hq]
  match st, h with
  | .ref v :: .int i :: .ref a :: r, ⟨N, f, j, ci, fs, h1, ha, h2, h3, h4, hci, hv, h5⟩ =>
    subst h2
    obtain ⟨r0, hr0, hca⟩ := hcast ci hci
    obtain ⟨r9, hr9, cellV, g1, g2, g3, -⟩ := hv
    have er : r9 = r0 := Option.some.inj (hr9.symm.trans hr0)
    subst er
    have hcls := (hK.1 ci _ hr0).2
    obtain ⟨kA, comp, k1, k2, k3, -⟩ := (hK.2 t0 _ ht).2
    obtain ⟨c0, t9, w1, w2, w3⟩ := Cond.castable_spec hca
    cases hcls.1.symm.trans w1
    cases k3.symm.trans w2
    obtain ⟨kC, hkC, -⟩ := hcls.2
    obtain ⟨kcomp, hkcomp⟩ := Vm.classAt_of_findClass k3
    refine cr_W_old (cell := vp_cell _ _) h1 rfl (fun hold => ?_)
    refine W.aast hx hb h1 (fun q h => by cases h) (fun h => by cases h) k1 k2 rfl hkcomp ⟨nI_pos (by omega), by show _ < (arrV _ _ _).slots.size; rw [arrV_size, nI_clamp (by omega)]; exact h3⟩ g1 (fun q h => by rw [g3] at h; cases h) (by rw [g2]; exact hkC) (by rw [g2]; exact w3) rfl rfl hd fun H1 e z oq => ?_
    refine hKK _ _ _ _ _ _ (h5 H1 ⟨z, stf H1 a j N f (some v) ?_, oq⟩) ls _ hl (cr_locs1 hq ⟨ha, hold⟩)
    rw [e, nI_clamp (by omega)]
    rfl
  | .null :: .int i :: .ref a :: r, ⟨N, f, j, h1, ha, h2, h3, h4, h5⟩ =>
    subst h2
    refine cr_W_old (cell := vp_cell _ _) h1 rfl (fun hold => ?_)
    refine va_WaastN (C := C) hx hb h1 ((hK.2 t0 _ ht).1 N (fun j => va_rf (f j))) (fun h => by cases h) (by show ¬ (nI j < 0 ∨ (arrV _ _ _).slots.size ≤ _); rw [arrV_size]; exact vp_in_nI h3 h4) rfl rfl hd fun H1 e z oq => ?_
    refine hKK _ _ _ _ _ _ (h5 H1 ⟨z, stf H1 a j N f none ?_, oq⟩) ls _ hl (cr_locs1 hq ⟨ha, hold⟩)
    rw [e, nI_clamp (by omega)]
    rfl
/-- checkcast of an object whose class is known -/
def cr_cast (D : va_G) (cl : List vw_C) (ci nx : Nat) : cr_T := fun K _ lv st H k n => match st with
  | .ref a :: r => ∃ fs, va_at D cl (a, .inr (ci, fs)) H ∧ K nx lv (.ref a :: r) H k n
  | _ => False
theorem cr_cast_ok {own C nm : String} {T : u_T} {N ci index : Nat} (hx : p.tables.exec = Jvm.exec) (hb : c.code = cc) (hown : s.vm.findClass own = some m.cls) (hlink : (Cond.classLink own index nm).before args s = true) (hK : va_K D cl tys s) (hc : cl[ci]? = some (C, T, N)) (hnm : nm = C) (hd : decode cc pc = .ok (.checkcast index, 3)) (hn : pc + 3 = nx) : cr_Snd p l e R s m args below meth c lo mc ms Q pc (cr_cast D cl ci nx) := by
  subst hn; subst hnm
  intro K lv st H k n hKK h ls locs hl hq
  match st, h with
  | .ref a :: r, ⟨fs, h1, h2⟩ => exact va_castS hx hb hown hlink (hK.1 ci _ hc).2 (va_recv hK (cr_one h1) hc (q0 := 0) rfl) hd (hKK _ _ _ _ _ _ h2 ls locs hl hq)
end CR2
