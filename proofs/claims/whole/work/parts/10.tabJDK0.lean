theorem d_AL_init_0 : decode c_AL_init 0 = .ok (.aload_n 0, 1) := by decide +kernel
theorem d_AL_init_1 : decode c_AL_init 1 = .ok (.invokespecial 1, 3) := by decide +kernel
theorem d_AL_init_4 : decode c_AL_init 4 = .ok (.aload_n 0, 1) := by decide +kernel
theorem d_AL_init_5 : decode c_AL_init 5 = .ok (.getstatic 39, 3) := by decide +kernel
theorem d_AL_init_8 : decode c_AL_init 8 = .ok (.putfield 9, 3) := by decide +kernel
theorem d_AL_init_11 : decode c_AL_init 11 = .ok (.return_, 1) := by decide +kernel
def t_AL_init_0 (l : Launch) (s0 : State) (D : va_G) (ca : Nat → ClassId) (e0 d mc ms : Nat) : List (Nat × cr_T) := [(0, cr_aload 0 1),
  (1, cr_calI l (cr_W0 s0) s0.heap.size y_AbL_init cw_AbL_init d mc ms 0 1 4),
  (4, cr_aload 0 5),
  (5, cr_gets s0 e0 8),
  (8, cr_putf D kc s0.heap.size 12 0 (.array (.object "java/lang/Object")) 11),
  (11, cr_vret mc ms)]
def t_AL_init (l : Launch) (s0 : State) (D : va_G) (ca : Nat → ClassId) (e0 d mc ms : Nat) : List (Nat × cr_T) := t_AL_init_0 l s0 D ca e0 d mc ms
set_option maxHeartbeats 4000000 in
set_option maxRecDepth 20000 in
theorem s_AL_init_0 {p : Program} {l : Launch} {e : Env} {R : Room} {s : State} {m : MethodId} {args : Array Value} {below : List Frame} {meth : Method} {c : Code} {s0 : State} {D : va_G} {ca : Nat → ClassId} {e0 d mc ms : Nat} {Q : cr_Q} (hl : l.flags = flags0) (Z : cr_Z0 s0 D ca e0) (C : cr_C p R s m meth c (cr_W0 s0) s0.heap.size y_AL_init c_AL_init 1 (Option.none : Option FieldType) d mc ms) (hem : c.exceptionTable.toList = []) : ∀ x ∈ t_AL_init_0 l s0 D ca e0 d mc ms, cr_Snd p l e R s m args below meth c s0.heap.size mc ms Q x.1 x.2 := by
  obtain ⟨hx, hb, hml, hown, hr, hlk, hnm, hU, hlo, hR⟩ := C
  have hK := cr_Z0K Z hU
  have hRc : R.cells = mc := by rw [hR]; rfl
  have hRs : R.slots = ms := by rw [hR]; rfl
  unfold t_AL_init_0
  refine cr_cons (cr_aload_n_ok hx hb d_AL_init_0 rfl rfl) ?_
  refine cr_cons (cr_calI_ok hx hb hml hown hlk hU hlo hR (cr_W0_st s0) (by rw [hem]; exact fun _ h => absurd h List.not_mem_nil) (u_AbL_init Z) (Or.inl (cr_w Z w_40 rfl hU args)) (cr_w Z w_41 rfl hU args) rfl (by decide) (by decide +kernel) (by decide) d_AL_init_1 rfl) ?_
  refine cr_cons (cr_aload_n_ok hx hb d_AL_init_4 rfl rfl) ?_
  refine cr_cons (cr_gets_ok hx hb hown Z hU (cr_w Z w_47 rfl hU args) d_AL_init_5 rfl) ?_
  refine cr_cons (cr_putf_ok (C := R_AL) (T := T_AL) (N := 3) tt_AL hx hb (k_AL Z hU args) (fun _ h => h) ty_AL nm_AL hown hK rfl (by decide) (Or.inl (cr_w Z w_49 rfl hU args)) (fun _ h => h) rfl (by decide +kernel) d_AL_init_8 rfl) ?_
  refine cr_cons (cr_vret_ok hx hb hr hlk d_AL_init_11) ?_
  exact cr_nil
theorem s_AL_init {p : Program} {l : Launch} {e : Env} {R : Room} {s : State} {m : MethodId} {args : Array Value} {below : List Frame} {meth : Method} {c : Code} {s0 : State} {D : va_G} {ca : Nat → ClassId} {e0 d mc ms : Nat} {Q : cr_Q} (hl : l.flags = flags0) (Z : cr_Z0 s0 D ca e0) (C : cr_C p R s m meth c (cr_W0 s0) s0.heap.size y_AL_init c_AL_init 1 (Option.none : Option FieldType) d mc ms) (hem : c.exceptionTable.toList = []) : ∀ x ∈ t_AL_init l s0 D ca e0 d mc ms, cr_Snd p l e R s m args below meth c s0.heap.size mc ms Q x.1 x.2 := s_AL_init_0 hl Z C hem
theorem d_AbL_init_0 : decode c_AbL_init 0 = .ok (.aload_n 0, 1) := by decide +kernel
theorem d_AbL_init_1 : decode c_AbL_init 1 = .ok (.invokespecial 1, 3) := by decide +kernel
theorem d_AbL_init_4 : decode c_AbL_init 4 = .ok (.aload_n 0, 1) := by decide +kernel
theorem d_AbL_init_5 : decode c_AbL_init 5 = .ok (.iconst 0, 1) := by decide +kernel
theorem d_AbL_init_6 : decode c_AbL_init 6 = .ok (.putfield 7, 3) := by decide +kernel
theorem d_AbL_init_9 : decode c_AbL_init 9 = .ok (.return_, 1) := by decide +kernel
def t_AbL_init_0 (l : Launch) (s0 : State) (D : va_G) (ca : Nat → ClassId) (e0 d mc ms : Nat) : List (Nat × cr_T) := [(0, cr_aload 0 1),
  (1, cr_calI l (cr_W0 s0) s0.heap.size y_AbC_init cw_AbC_init d mc ms 0 1 4),
  (4, cr_aload 0 5),
  (5, cr_push (.int 0) 6),
  (6, cr_putf D kc s0.heap.size 12 2 .int 9),
  (9, cr_vret mc ms)]
def t_AbL_init (l : Launch) (s0 : State) (D : va_G) (ca : Nat → ClassId) (e0 d mc ms : Nat) : List (Nat × cr_T) := t_AbL_init_0 l s0 D ca e0 d mc ms
set_option maxHeartbeats 4000000 in
set_option maxRecDepth 20000 in
theorem s_AbL_init_0 {p : Program} {l : Launch} {e : Env} {R : Room} {s : State} {m : MethodId} {args : Array Value} {below : List Frame} {meth : Method} {c : Code} {s0 : State} {D : va_G} {ca : Nat → ClassId} {e0 d mc ms : Nat} {Q : cr_Q} (hl : l.flags = flags0) (Z : cr_Z0 s0 D ca e0) (C : cr_C p R s m meth c (cr_W0 s0) s0.heap.size y_AbL_init c_AbL_init 1 (Option.none : Option FieldType) d mc ms) (hem : c.exceptionTable.toList = []) : ∀ x ∈ t_AbL_init_0 l s0 D ca e0 d mc ms, cr_Snd p l e R s m args below meth c s0.heap.size mc ms Q x.1 x.2 := by
  obtain ⟨hx, hb, hml, hown, hr, hlk, hnm, hU, hlo, hR⟩ := C
  have hK := cr_Z0K Z hU
  have hRc : R.cells = mc := by rw [hR]; rfl
  have hRs : R.slots = ms := by rw [hR]; rfl
  unfold t_AbL_init_0
  refine cr_cons (cr_aload_n_ok hx hb d_AbL_init_0 rfl rfl) ?_
  refine cr_cons (cr_calI_ok hx hb hml hown hlk hU hlo hR (cr_W0_st s0) (by rw [hem]; exact fun _ h => absurd h List.not_mem_nil) (u_AbC_init Z) (Or.inl (cr_w Z w_43 rfl hU args)) (cr_w Z w_44 rfl hU args) rfl (by decide) (by decide +kernel) (by decide) d_AbL_init_1 rfl) ?_
  refine cr_cons (cr_aload_n_ok hx hb d_AbL_init_4 rfl rfl) ?_
  refine cr_cons (cr_iconst_ok hx hb d_AbL_init_5 (by decide) rfl) ?_
  refine cr_cons (cr_putf_ok (C := R_AL) (T := T_AL) (N := 3) tt_AL hx hb (k_AL Z hU args) (fun _ h => h) ty_AL nm_AL hown hK rfl (by decide) (Or.inl (cr_w Z w_51 rfl hU args)) (fun _ h => h) rfl (by decide +kernel) d_AbL_init_6 rfl) ?_
  refine cr_cons (cr_vret_ok hx hb hr hlk d_AbL_init_9) ?_
  exact cr_nil
theorem s_AbL_init {p : Program} {l : Launch} {e : Env} {R : Room} {s : State} {m : MethodId} {args : Array Value} {below : List Frame} {meth : Method} {c : Code} {s0 : State} {D : va_G} {ca : Nat → ClassId} {e0 d mc ms : Nat} {Q : cr_Q} (hl : l.flags = flags0) (Z : cr_Z0 s0 D ca e0) (C : cr_C p R s m meth c (cr_W0 s0) s0.heap.size y_AbL_init c_AbL_init 1 (Option.none : Option FieldType) d mc ms) (hem : c.exceptionTable.toList = []) : ∀ x ∈ t_AbL_init l s0 D ca e0 d mc ms, cr_Snd p l e R s m args below meth c s0.heap.size mc ms Q x.1 x.2 := s_AbL_init_0 hl Z C hem
theorem d_AbC_init_0 : decode c_AbC_init 0 = .ok (.aload_n 0, 1) := by decide +kernel
theorem d_AbC_init_1 : decode c_AbC_init 1 = .ok (.invokespecial 1, 3) := by decide +kernel
theorem d_AbC_init_4 : decode c_AbC_init 4 = .ok (.return_, 1) := by decide +kernel
def t_AbC_init_0 (l : Launch) (s0 : State) (D : va_G) (ca : Nat → ClassId) (e0 d mc ms : Nat) : List (Nat × cr_T) := [(0, cr_aload 0 1),
  (1, cr_oinit d 1 4),
  (4, cr_vret mc ms)]
def t_AbC_init (l : Launch) (s0 : State) (D : va_G) (ca : Nat → ClassId) (e0 d mc ms : Nat) : List (Nat × cr_T) := t_AbC_init_0 l s0 D ca e0 d mc ms
set_option maxHeartbeats 4000000 in
set_option maxRecDepth 20000 in
theorem s_AbC_init_0 {p : Program} {l : Launch} {e : Env} {R : Room} {s : State} {m : MethodId} {args : Array Value} {below : List Frame} {meth : Method} {c : Code} {s0 : State} {D : va_G} {ca : Nat → ClassId} {e0 d mc ms : Nat} {Q : cr_Q} (hl : l.flags = flags0) (Z : cr_Z0 s0 D ca e0) (C : cr_C p R s m meth c (cr_W0 s0) s0.heap.size y_AbC_init c_AbC_init 1 (Option.none : Option FieldType) d mc ms) (hem : c.exceptionTable.toList = []) : ∀ x ∈ t_AbC_init_0 l s0 D ca e0 d mc ms, cr_Snd p l e R s m args below meth c s0.heap.size mc ms Q x.1 x.2 := by
  obtain ⟨hx, hb, hml, hown, hr, hlk, hnm, hU, hlo, hR⟩ := C
  have hK := cr_Z0K Z hU
  have hRc : R.cells = mc := by rw [hR]; rfl
  have hRs : R.slots = ms := by rw [hR]; rfl
  unfold t_AbC_init_0
  refine cr_cons (cr_aload_n_ok hx hb d_AbC_init_0 rfl rfl) ?_
  refine cr_cons (cr_oinit_ok hx hb hml hown hR (cr_w Z w_46 rfl hU args) (cr_w Z w_33 rfl hU args) (cr_w Z w_34 rfl hU args) d_AbC_init_1 rfl) ?_
  refine cr_cons (cr_vret_ok hx hb hr hlk d_AbC_init_4) ?_
  exact cr_nil
theorem s_AbC_init {p : Program} {l : Launch} {e : Env} {R : Room} {s : State} {m : MethodId} {args : Array Value} {below : List Frame} {meth : Method} {c : Code} {s0 : State} {D : va_G} {ca : Nat → ClassId} {e0 d mc ms : Nat} {Q : cr_Q} (hl : l.flags = flags0) (Z : cr_Z0 s0 D ca e0) (C : cr_C p R s m meth c (cr_W0 s0) s0.heap.size y_AbC_init c_AbC_init 1 (Option.none : Option FieldType) d mc ms) (hem : c.exceptionTable.toList = []) : ∀ x ∈ t_AbC_init l s0 D ca e0 d mc ms, cr_Snd p l e R s m args below meth c s0.heap.size mc ms Q x.1 x.2 := s_AbC_init_0 hl Z C hem
theorem d_Ar_fill_0 : decode c_Ar_fill 0 = .ok (.iconst 0, 1) := by decide +kernel
theorem d_Ar_fill_1 : decode c_Ar_fill 1 = .ok (.istore_n 2, 1) := by decide +kernel
theorem d_Ar_fill_2 : decode c_Ar_fill 2 = .ok (.aload_n 0, 1) := by decide +kernel
theorem d_Ar_fill_3 : decode c_Ar_fill 3 = .ok (.arraylength, 1) := by decide +kernel
theorem d_Ar_fill_4 : decode c_Ar_fill 4 = .ok (.istore_n 3, 1) := by decide +kernel
theorem d_Ar_fill_5 : decode c_Ar_fill 5 = .ok (.iload_n 2, 1) := by decide +kernel
theorem d_Ar_fill_6 : decode c_Ar_fill 6 = .ok (.iload_n 3, 1) := by decide +kernel
theorem d_Ar_fill_7 : decode c_Ar_fill 7 = .ok (.if_icmp .ge 13, 3) := by decide +kernel
theorem d_Ar_fill_10 : decode c_Ar_fill 10 = .ok (.aload_n 0, 1) := by decide +kernel
theorem d_Ar_fill_11 : decode c_Ar_fill 11 = .ok (.iload_n 2, 1) := by decide +kernel
theorem d_Ar_fill_12 : decode c_Ar_fill 12 = .ok (.iload_n 1, 1) := by decide +kernel
theorem d_Ar_fill_13 : decode c_Ar_fill 13 = .ok (.iastore, 1) := by decide +kernel
theorem d_Ar_fill_14 : decode c_Ar_fill 14 = .ok (.iinc 2 1, 3) := by decide +kernel
theorem d_Ar_fill_17 : decode c_Ar_fill 17 = .ok (.goto (-12), 3) := by decide +kernel
theorem d_Ar_fill_20 : decode c_Ar_fill 20 = .ok (.return_, 1) := by decide +kernel
def t_Ar_fill_0 (l : Launch) (s0 : State) (D : va_G) (ca : Nat → ClassId) (e0 d mc ms : Nat) : List (Nat × cr_T) := [(0, cr_push (.int 0) 1),
  (1, cr_istore 2 2),
  (2, cr_aload 0 3),
  (3, cr_alen D kc (ca 0) 4),
  (4, cr_istore 3 5),
  (5, cr_iload 2 6),
  (6, cr_iload 3 7),
  (7, cr_icge 20 10),
  (10, cr_aload 0 11),
  (11, cr_iload 2 12),
  (12, cr_iload 1 13),
  (13, cr_iast D kc s0.heap.size (ca 0) 14),
  (14, cr_iinc 2 1 17),
  (17, cr_goto 5),
  (20, cr_vret mc ms)]
def t_Ar_fill (l : Launch) (s0 : State) (D : va_G) (ca : Nat → ClassId) (e0 d mc ms : Nat) : List (Nat × cr_T) := t_Ar_fill_0 l s0 D ca e0 d mc ms
set_option maxHeartbeats 4000000 in
set_option maxRecDepth 20000 in
theorem s_Ar_fill_0 {p : Program} {l : Launch} {e : Env} {R : Room} {s : State} {m : MethodId} {args : Array Value} {below : List Frame} {meth : Method} {c : Code} {s0 : State} {D : va_G} {ca : Nat → ClassId} {e0 d mc ms : Nat} {Q : cr_Q} (hl : l.flags = flags0) (Z : cr_Z0 s0 D ca e0) (C : cr_C p R s m meth c (cr_W0 s0) s0.heap.size y_Ar_fill c_Ar_fill 4 (Option.none : Option FieldType) d mc ms) (hem : c.exceptionTable.toList = []) : ∀ x ∈ t_Ar_fill_0 l s0 D ca e0 d mc ms, cr_Snd p l e R s m args below meth c s0.heap.size mc ms Q x.1 x.2 := by
  obtain ⟨hx, hb, hml, hown, hr, hlk, hnm, hU, hlo, hR⟩ := C
  have hK := cr_Z0K Z hU
  have hRc : R.cells = mc := by rw [hR]; rfl
  have hRs : R.slots = ms := by rw [hR]; rfl
  unfold t_Ar_fill_0
  refine cr_cons (cr_iconst_ok hx hb d_Ar_fill_0 (by decide) rfl) ?_
  refine cr_cons (cr_istore_n_ok hx hb d_Ar_fill_1 rfl rfl) ?_
  refine cr_cons (cr_aload_n_ok hx hb d_Ar_fill_2 rfl rfl) ?_
  refine cr_cons (cr_alen_ok (t0 := 0) hx hb hK rfl d_Ar_fill_3 rfl) ?_
  refine cr_cons (cr_istore_n_ok hx hb d_Ar_fill_4 rfl rfl) ?_
  refine cr_cons (cr_iload_n_ok hx hb d_Ar_fill_5 rfl rfl) ?_
  refine cr_cons (cr_iload_n_ok hx hb d_Ar_fill_6 rfl rfl) ?_
  refine cr_cons (cr_icge_ok hx hb d_Ar_fill_7 (by decide) rfl) ?_
  refine cr_cons (cr_aload_n_ok hx hb d_Ar_fill_10 rfl rfl) ?_
  refine cr_cons (cr_iload_n_ok hx hb d_Ar_fill_11 rfl rfl) ?_
  refine cr_cons (cr_iload_n_ok hx hb d_Ar_fill_12 rfl rfl) ?_
  refine cr_cons (cr_iast_ok (t0 := 0) hx hb hK rfl d_Ar_fill_13 rfl) ?_
  refine cr_cons (cr_iinc_ok hx hb d_Ar_fill_14 (by decide) rfl) ?_
  refine cr_cons (cr_goto_ok hx hb d_Ar_fill_17 (by decide)) ?_
  refine cr_cons (cr_vret_ok hx hb hr hlk d_Ar_fill_20) ?_
  exact cr_nil
theorem s_Ar_fill {p : Program} {l : Launch} {e : Env} {R : Room} {s : State} {m : MethodId} {args : Array Value} {below : List Frame} {meth : Method} {c : Code} {s0 : State} {D : va_G} {ca : Nat → ClassId} {e0 d mc ms : Nat} {Q : cr_Q} (hl : l.flags = flags0) (Z : cr_Z0 s0 D ca e0) (C : cr_C p R s m meth c (cr_W0 s0) s0.heap.size y_Ar_fill c_Ar_fill 4 (Option.none : Option FieldType) d mc ms) (hem : c.exceptionTable.toList = []) : ∀ x ∈ t_Ar_fill l s0 D ca e0 d mc ms, cr_Snd p l e R s m args below meth c s0.heap.size mc ms Q x.1 x.2 := s_Ar_fill_0 hl Z C hem
theorem d_AL_size_0 : decode c_AL_size 0 = .ok (.aload_n 0, 1) := by decide +kernel
theorem d_AL_size_1 : decode c_AL_size 1 = .ok (.getfield 48, 3) := by decide +kernel
theorem d_AL_size_4 : decode c_AL_size 4 = .ok (.ireturn, 1) := by decide +kernel
def t_AL_size_0 (l : Launch) (s0 : State) (D : va_G) (ca : Nat → ClassId) (e0 d mc ms : Nat) : List (Nat × cr_T) := [(0, cr_aload 0 1),
  (1, cr_getf D kc 12 1 4),
  (4, cr_iret mc ms)]
def t_AL_size (l : Launch) (s0 : State) (D : va_G) (ca : Nat → ClassId) (e0 d mc ms : Nat) : List (Nat × cr_T) := t_AL_size_0 l s0 D ca e0 d mc ms
set_option maxHeartbeats 4000000 in
set_option maxRecDepth 20000 in
theorem s_AL_size_0 {p : Program} {l : Launch} {e : Env} {R : Room} {s : State} {m : MethodId} {args : Array Value} {below : List Frame} {meth : Method} {c : Code} {s0 : State} {D : va_G} {ca : Nat → ClassId} {e0 d mc ms : Nat} {Q : cr_Q} (hl : l.flags = flags0) (Z : cr_Z0 s0 D ca e0) (C : cr_C p R s m meth c (cr_W0 s0) s0.heap.size y_AL_size c_AL_size 1 (Option.some FieldType.int) d mc ms) (hem : c.exceptionTable.toList = []) : ∀ x ∈ t_AL_size_0 l s0 D ca e0 d mc ms, cr_Snd p l e R s m args below meth c s0.heap.size mc ms Q x.1 x.2 := by
  obtain ⟨hx, hb, hml, hown, hr, hlk, hnm, hU, hlo, hR⟩ := C
  have hK := cr_Z0K Z hU
  have hRc : R.cells = mc := by rw [hR]; rfl
  have hRs : R.slots = ms := by rw [hR]; rfl
  unfold t_AL_size_0
  refine cr_cons (cr_aload_n_ok hx hb d_AL_size_0 rfl rfl) ?_
  refine cr_cons (cr_getf_ok (C := R_AL) (T := T_AL) (N := 3) hx hb (k_AL Z hU args) (fun _ h => h) hown hK rfl (by decide) (cr_w Z w_50 rfl hU args) (fun _ h => h) d_AL_size_1 rfl) ?_
  refine cr_cons (cr_iret_ok hx hb hr hlk d_AL_size_4) ?_
  exact cr_nil
theorem s_AL_size {p : Program} {l : Launch} {e : Env} {R : Room} {s : State} {m : MethodId} {args : Array Value} {below : List Frame} {meth : Method} {c : Code} {s0 : State} {D : va_G} {ca : Nat → ClassId} {e0 d mc ms : Nat} {Q : cr_Q} (hl : l.flags = flags0) (Z : cr_Z0 s0 D ca e0) (C : cr_C p R s m meth c (cr_W0 s0) s0.heap.size y_AL_size c_AL_size 1 (Option.some FieldType.int) d mc ms) (hem : c.exceptionTable.toList = []) : ∀ x ∈ t_AL_size l s0 D ca e0 d mc ms, cr_Snd p l e R s m args below meth c s0.heap.size mc ms Q x.1 x.2 := s_AL_size_0 hl Z C hem
theorem d_AL_get_0 : decode c_AL_get 0 = .ok (.iload_n 1, 1) := by decide +kernel
theorem d_AL_get_1 : decode c_AL_get 1 = .ok (.aload_n 0, 1) := by decide +kernel
theorem d_AL_get_2 : decode c_AL_get 2 = .ok (.getfield 48, 3) := by decide +kernel
theorem d_AL_get_5 : decode c_AL_get 5 = .ok (.invokestatic 118, 3) := by decide +kernel
theorem d_AL_get_8 : decode c_AL_get 8 = .ok (.pop, 1) := by decide +kernel
theorem d_AL_get_9 : decode c_AL_get 9 = .ok (.aload_n 0, 1) := by decide +kernel
theorem d_AL_get_10 : decode c_AL_get 10 = .ok (.iload_n 1, 1) := by decide +kernel
theorem d_AL_get_11 : decode c_AL_get 11 = .ok (.invokevirtual 123, 3) := by decide +kernel
theorem d_AL_get_14 : decode c_AL_get 14 = .ok (.areturn, 1) := by decide +kernel
def t_AL_get_0 (l : Launch) (s0 : State) (D : va_G) (ca : Nat → ClassId) (e0 d mc ms : Nat) : List (Nat × cr_T) := [(0, cr_iload 1 1),
  (1, cr_aload 0 2),
  (2, cr_getf D kc 12 1 5),
  (5, cr_calS l (cr_W0 s0) s0.heap.size y_Ob_checkIndex cw_Ob_checkIndex d mc ms 2 2 8),
  (8, cr_pop 9),
  (9, cr_aload 0 10),
  (10, cr_iload 1 11),
  (11, cr_calV D kc l (cr_W0 s0) s0.heap.size 12 y_AL_elementData cw_AL_elementData d mc ms 1 2 14),
  (14, cr_aret mc ms)]
def t_AL_get (l : Launch) (s0 : State) (D : va_G) (ca : Nat → ClassId) (e0 d mc ms : Nat) : List (Nat × cr_T) := t_AL_get_0 l s0 D ca e0 d mc ms
set_option maxHeartbeats 4000000 in
set_option maxRecDepth 20000 in
theorem s_AL_get_0 {p : Program} {l : Launch} {e : Env} {R : Room} {s : State} {m : MethodId} {args : Array Value} {below : List Frame} {meth : Method} {c : Code} {s0 : State} {D : va_G} {ca : Nat → ClassId} {e0 d mc ms : Nat} {Q : cr_Q} (hl : l.flags = flags0) (Z : cr_Z0 s0 D ca e0) (C : cr_C p R s m meth c (cr_W0 s0) s0.heap.size y_AL_get c_AL_get 2 (Option.some (FieldType.object "java/lang/Object")) d mc ms) (hem : c.exceptionTable.toList = []) : ∀ x ∈ t_AL_get_0 l s0 D ca e0 d mc ms, cr_Snd p l e R s m args below meth c s0.heap.size mc ms Q x.1 x.2 := by
  obtain ⟨hx, hb, hml, hown, hr, hlk, hnm, hU, hlo, hR⟩ := C
  have hK := cr_Z0K Z hU
  have hRc : R.cells = mc := by rw [hR]; rfl
  have hRs : R.slots = ms := by rw [hR]; rfl
  unfold t_AL_get_0
  refine cr_cons (cr_iload_n_ok hx hb d_AL_get_0 rfl rfl) ?_
  refine cr_cons (cr_aload_n_ok hx hb d_AL_get_1 rfl rfl) ?_
  refine cr_cons (cr_getf_ok (C := R_AL) (T := T_AL) (N := 3) hx hb (k_AL Z hU args) (fun _ h => h) hown hK rfl (by decide) (cr_w Z w_50 rfl hU args) (fun _ h => h) d_AL_get_2 rfl) ?_
  refine cr_cons (cr_calS_ok hx hb hml hown hlk hU hlo hR (cr_W0_st s0) (by rw [hem]; exact fun _ h => absurd h List.not_mem_nil) (u_Ob_checkIndex Z) (Or.inl (cr_w Z w_215 rfl hU args)) (cr_w Z w_216 rfl hU args) (by decide) (by decide +kernel) (by decide) d_AL_get_5 rfl) ?_
  refine cr_cons (cr_pop_ok hx hb d_AL_get_8 rfl) ?_
  refine cr_cons (cr_aload_n_ok hx hb d_AL_get_9 rfl rfl) ?_
  refine cr_cons (cr_iload_n_ok hx hb d_AL_get_10 rfl rfl) ?_
  refine cr_cons (cr_calV_ok (C := R_AL) (Tf := T_AL) (N := 3) hx hb hml hown hlk hU hlo hR (cr_W0_st s0) (by rw [hem]; exact fun _ h => absurd h List.not_mem_nil) hK rfl (u_AL_elementData Z) (Or.inl (cr_w Z w_221 rfl hU args)) (cr_w Z w_222 rfl hU args) (cr_w Z w_223 rfl hU args) (by decide) (by decide +kernel) (by decide) d_AL_get_11 rfl) ?_
  refine cr_cons (cr_aret_ok hx hb hr (Or.inl ⟨_, rfl⟩) hlk d_AL_get_14) ?_
  exact cr_nil
theorem s_AL_get {p : Program} {l : Launch} {e : Env} {R : Room} {s : State} {m : MethodId} {args : Array Value} {below : List Frame} {meth : Method} {c : Code} {s0 : State} {D : va_G} {ca : Nat → ClassId} {e0 d mc ms : Nat} {Q : cr_Q} (hl : l.flags = flags0) (Z : cr_Z0 s0 D ca e0) (C : cr_C p R s m meth c (cr_W0 s0) s0.heap.size y_AL_get c_AL_get 2 (Option.some (FieldType.object "java/lang/Object")) d mc ms) (hem : c.exceptionTable.toList = []) : ∀ x ∈ t_AL_get l s0 D ca e0 d mc ms, cr_Snd p l e R s m args below meth c s0.heap.size mc ms Q x.1 x.2 := s_AL_get_0 hl Z C hem
theorem d_Ob_checkIndex_0 : decode c_Ob_checkIndex 0 = .ok (.iload_n 0, 1) := by decide +kernel
theorem d_Ob_checkIndex_1 : decode c_Ob_checkIndex 1 = .ok (.iload_n 1, 1) := by decide +kernel
theorem d_Ob_checkIndex_2 : decode c_Ob_checkIndex 2 = .ok (.aconst_null, 1) := by decide +kernel
theorem d_Ob_checkIndex_3 : decode c_Ob_checkIndex 3 = .ok (.invokestatic 105, 3) := by decide +kernel
theorem d_Ob_checkIndex_6 : decode c_Ob_checkIndex 6 = .ok (.ireturn, 1) := by decide +kernel
def t_Ob_checkIndex_0 (l : Launch) (s0 : State) (D : va_G) (ca : Nat → ClassId) (e0 d mc ms : Nat) : List (Nat × cr_T) := [(0, cr_iload 0 1),
  (1, cr_iload 1 2),
  (2, cr_push .null 3),
  (3, cr_calS l (cr_W0 s0) s0.heap.size y_Pr_checkIndex cw_Pr_checkIndex d mc ms 3 2 6),
  (6, cr_iret mc ms)]
def t_Ob_checkIndex (l : Launch) (s0 : State) (D : va_G) (ca : Nat → ClassId) (e0 d mc ms : Nat) : List (Nat × cr_T) := t_Ob_checkIndex_0 l s0 D ca e0 d mc ms
set_option maxHeartbeats 4000000 in
set_option maxRecDepth 20000 in
theorem s_Ob_checkIndex_0 {p : Program} {l : Launch} {e : Env} {R : Room} {s : State} {m : MethodId} {args : Array Value} {below : List Frame} {meth : Method} {c : Code} {s0 : State} {D : va_G} {ca : Nat → ClassId} {e0 d mc ms : Nat} {Q : cr_Q} (hl : l.flags = flags0) (Z : cr_Z0 s0 D ca e0) (C : cr_C p R s m meth c (cr_W0 s0) s0.heap.size y_Ob_checkIndex c_Ob_checkIndex 2 (Option.some FieldType.int) d mc ms) (hem : c.exceptionTable.toList = []) : ∀ x ∈ t_Ob_checkIndex_0 l s0 D ca e0 d mc ms, cr_Snd p l e R s m args below meth c s0.heap.size mc ms Q x.1 x.2 := by
  obtain ⟨hx, hb, hml, hown, hr, hlk, hnm, hU, hlo, hR⟩ := C
  have hK := cr_Z0K Z hU
  have hRc : R.cells = mc := by rw [hR]; rfl
  have hRs : R.slots = ms := by rw [hR]; rfl
  unfold t_Ob_checkIndex_0
  refine cr_cons (cr_iload_n_ok hx hb d_Ob_checkIndex_0 rfl rfl) ?_
  refine cr_cons (cr_iload_n_ok hx hb d_Ob_checkIndex_1 rfl rfl) ?_
  refine cr_cons (cr_null_ok hx hb d_Ob_checkIndex_2 rfl) ?_
  refine cr_cons (cr_calS_ok hx hb hml hown hlk hU hlo hR (cr_W0_st s0) (by rw [hem]; exact fun _ h => absurd h List.not_mem_nil) (u_Pr_checkIndex Z) (Or.inl (cr_w Z w_218 rfl hU args)) (cr_w Z w_219 rfl hU args) (by decide) (by decide +kernel) (by decide) d_Ob_checkIndex_3 rfl) ?_
  refine cr_cons (cr_iret_ok hx hb hr hlk d_Ob_checkIndex_6) ?_
  exact cr_nil
theorem s_Ob_checkIndex {p : Program} {l : Launch} {e : Env} {R : Room} {s : State} {m : MethodId} {args : Array Value} {below : List Frame} {meth : Method} {c : Code} {s0 : State} {D : va_G} {ca : Nat → ClassId} {e0 d mc ms : Nat} {Q : cr_Q} (hl : l.flags = flags0) (Z : cr_Z0 s0 D ca e0) (C : cr_C p R s m meth c (cr_W0 s0) s0.heap.size y_Ob_checkIndex c_Ob_checkIndex 2 (Option.some FieldType.int) d mc ms) (hem : c.exceptionTable.toList = []) : ∀ x ∈ t_Ob_checkIndex l s0 D ca e0 d mc ms, cr_Snd p l e R s m args below meth c s0.heap.size mc ms Q x.1 x.2 := s_Ob_checkIndex_0 hl Z C hem
theorem d_Pr_checkIndex_0 : decode c_Pr_checkIndex 0 = .ok (.iload_n 0, 1) := by decide +kernel
theorem d_Pr_checkIndex_1 : decode c_Pr_checkIndex 1 = .ok (.ifCond .lt 8, 3) := by decide +kernel
theorem d_Pr_checkIndex_4 : decode c_Pr_checkIndex 4 = .ok (.iload_n 0, 1) := by decide +kernel
theorem d_Pr_checkIndex_5 : decode c_Pr_checkIndex 5 = .ok (.iload_n 1, 1) := by decide +kernel
theorem d_Pr_checkIndex_6 : decode c_Pr_checkIndex 6 = .ok (.if_icmp .lt 10, 3) := by decide +kernel
theorem d_Pr_checkIndex_16 : decode c_Pr_checkIndex 16 = .ok (.iload_n 0, 1) := by decide +kernel
theorem d_Pr_checkIndex_17 : decode c_Pr_checkIndex 17 = .ok (.ireturn, 1) := by decide +kernel
def t_Pr_checkIndex_0 (l : Launch) (s0 : State) (D : va_G) (ca : Nat → ClassId) (e0 d mc ms : Nat) : List (Nat × cr_T) := [(0, cr_iload 0 1),
  (1, cr_iflt 9 4),
  (4, cr_iload 0 5),
  (5, cr_iload 1 6),
  (6, cr_iclt 16 9),
  (16, cr_iload 0 17),
  (17, cr_iret mc ms)]
def t_Pr_checkIndex (l : Launch) (s0 : State) (D : va_G) (ca : Nat → ClassId) (e0 d mc ms : Nat) : List (Nat × cr_T) := t_Pr_checkIndex_0 l s0 D ca e0 d mc ms
set_option maxHeartbeats 4000000 in
set_option maxRecDepth 20000 in
theorem s_Pr_checkIndex_0 {p : Program} {l : Launch} {e : Env} {R : Room} {s : State} {m : MethodId} {args : Array Value} {below : List Frame} {meth : Method} {c : Code} {s0 : State} {D : va_G} {ca : Nat → ClassId} {e0 d mc ms : Nat} {Q : cr_Q} (hl : l.flags = flags0) (Z : cr_Z0 s0 D ca e0) (C : cr_C p R s m meth c (cr_W0 s0) s0.heap.size y_Pr_checkIndex c_Pr_checkIndex 3 (Option.some FieldType.int) d mc ms) (hem : c.exceptionTable.toList = []) : ∀ x ∈ t_Pr_checkIndex_0 l s0 D ca e0 d mc ms, cr_Snd p l e R s m args below meth c s0.heap.size mc ms Q x.1 x.2 := by
  obtain ⟨hx, hb, hml, hown, hr, hlk, hnm, hU, hlo, hR⟩ := C
  have hK := cr_Z0K Z hU
  have hRc : R.cells = mc := by rw [hR]; rfl
  have hRs : R.slots = ms := by rw [hR]; rfl
  unfold t_Pr_checkIndex_0
  refine cr_cons (cr_iload_n_ok hx hb d_Pr_checkIndex_0 rfl rfl) ?_
  refine cr_cons (cr_iflt_ok hx hb d_Pr_checkIndex_1 (by decide) rfl) ?_
  refine cr_cons (cr_iload_n_ok hx hb d_Pr_checkIndex_4 rfl rfl) ?_
  refine cr_cons (cr_iload_n_ok hx hb d_Pr_checkIndex_5 rfl rfl) ?_
  refine cr_cons (cr_iclt_ok hx hb d_Pr_checkIndex_6 (by decide) rfl) ?_
  refine cr_cons (cr_iload_n_ok hx hb d_Pr_checkIndex_16 rfl rfl) ?_
  refine cr_cons (cr_iret_ok hx hb hr hlk d_Pr_checkIndex_17) ?_
  exact cr_nil
theorem s_Pr_checkIndex {p : Program} {l : Launch} {e : Env} {R : Room} {s : State} {m : MethodId} {args : Array Value} {below : List Frame} {meth : Method} {c : Code} {s0 : State} {D : va_G} {ca : Nat → ClassId} {e0 d mc ms : Nat} {Q : cr_Q} (hl : l.flags = flags0) (Z : cr_Z0 s0 D ca e0) (C : cr_C p R s m meth c (cr_W0 s0) s0.heap.size y_Pr_checkIndex c_Pr_checkIndex 3 (Option.some FieldType.int) d mc ms) (hem : c.exceptionTable.toList = []) : ∀ x ∈ t_Pr_checkIndex l s0 D ca e0 d mc ms, cr_Snd p l e R s m args below meth c s0.heap.size mc ms Q x.1 x.2 := s_Pr_checkIndex_0 hl Z C hem
theorem d_AL_elementData_0 : decode c_AL_elementData 0 = .ok (.aload_n 0, 1) := by decide +kernel
theorem d_AL_elementData_1 : decode c_AL_elementData 1 = .ok (.getfield 9, 3) := by decide +kernel
theorem d_AL_elementData_4 : decode c_AL_elementData 4 = .ok (.iload_n 1, 1) := by decide +kernel
theorem d_AL_elementData_5 : decode c_AL_elementData 5 = .ok (.aaload, 1) := by decide +kernel
theorem d_AL_elementData_6 : decode c_AL_elementData 6 = .ok (.areturn, 1) := by decide +kernel
def t_AL_elementData_0 (l : Launch) (s0 : State) (D : va_G) (ca : Nat → ClassId) (e0 d mc ms : Nat) : List (Nat × cr_T) := [(0, cr_aload 0 1),
  (1, cr_getf D kc 12 0 4),
  (4, cr_iload 1 5),
  (5, cr_aald D kc (ca 3) 6),
  (6, cr_aret mc ms)]
def t_AL_elementData (l : Launch) (s0 : State) (D : va_G) (ca : Nat → ClassId) (e0 d mc ms : Nat) : List (Nat × cr_T) := t_AL_elementData_0 l s0 D ca e0 d mc ms
set_option maxHeartbeats 4000000 in
set_option maxRecDepth 20000 in
theorem s_AL_elementData_0 {p : Program} {l : Launch} {e : Env} {R : Room} {s : State} {m : MethodId} {args : Array Value} {below : List Frame} {meth : Method} {c : Code} {s0 : State} {D : va_G} {ca : Nat → ClassId} {e0 d mc ms : Nat} {Q : cr_Q} (hl : l.flags = flags0) (Z : cr_Z0 s0 D ca e0) (C : cr_C p R s m meth c (cr_W0 s0) s0.heap.size y_AL_elementData c_AL_elementData 2 (Option.some (FieldType.object "java/lang/Object")) d mc ms) (hem : c.exceptionTable.toList = []) : ∀ x ∈ t_AL_elementData_0 l s0 D ca e0 d mc ms, cr_Snd p l e R s m args below meth c s0.heap.size mc ms Q x.1 x.2 := by
  obtain ⟨hx, hb, hml, hown, hr, hlk, hnm, hU, hlo, hR⟩ := C
  have hK := cr_Z0K Z hU
  have hRc : R.cells = mc := by rw [hR]; rfl
  have hRs : R.slots = ms := by rw [hR]; rfl
  unfold t_AL_elementData_0
  refine cr_cons (cr_aload_n_ok hx hb d_AL_elementData_0 rfl rfl) ?_
  refine cr_cons (cr_getf_ok (C := R_AL) (T := T_AL) (N := 3) hx hb (k_AL Z hU args) (fun _ h => h) hown hK rfl (by decide) (cr_w Z w_49 rfl hU args) (fun _ h => h) d_AL_elementData_1 rfl) ?_
  refine cr_cons (cr_iload_n_ok hx hb d_AL_elementData_4 rfl rfl) ?_
  refine cr_cons (cr_aald_ok (t0 := 3) hx hb hK rfl d_AL_elementData_5 rfl) ?_
  refine cr_cons (cr_aret_ok hx hb hr (Or.inl ⟨_, rfl⟩) hlk d_AL_elementData_6) ?_
  exact cr_nil
theorem s_AL_elementData {p : Program} {l : Launch} {e : Env} {R : Room} {s : State} {m : MethodId} {args : Array Value} {below : List Frame} {meth : Method} {c : Code} {s0 : State} {D : va_G} {ca : Nat → ClassId} {e0 d mc ms : Nat} {Q : cr_Q} (hl : l.flags = flags0) (Z : cr_Z0 s0 D ca e0) (C : cr_C p R s m meth c (cr_W0 s0) s0.heap.size y_AL_elementData c_AL_elementData 2 (Option.some (FieldType.object "java/lang/Object")) d mc ms) (hem : c.exceptionTable.toList = []) : ∀ x ∈ t_AL_elementData l s0 D ca e0 d mc ms, cr_Snd p l e R s m args below meth c s0.heap.size mc ms Q x.1 x.2 := s_AL_elementData_0 hl Z C hem
theorem d_AL_add0_0 : decode c_AL_add0 0 = .ok (.aload_n 0, 1) := by decide +kernel
theorem d_AL_add0_1 : decode c_AL_add0 1 = .ok (.dup, 1) := by decide +kernel
theorem d_AL_add0_2 : decode c_AL_add0 2 = .ok (.getfield 63, 3) := by decide +kernel
theorem d_AL_add0_5 : decode c_AL_add0 5 = .ok (.iconst 1, 1) := by decide +kernel
theorem d_AL_add0_6 : decode c_AL_add0 6 = .ok (.iadd, 1) := by decide +kernel
theorem d_AL_add0_7 : decode c_AL_add0 7 = .ok (.putfield 63, 3) := by decide +kernel
theorem d_AL_add0_10 : decode c_AL_add0 10 = .ok (.aload_n 0, 1) := by decide +kernel
theorem d_AL_add0_11 : decode c_AL_add0 11 = .ok (.aload_n 1, 1) := by decide +kernel
theorem d_AL_add0_12 : decode c_AL_add0 12 = .ok (.aload_n 0, 1) := by decide +kernel
theorem d_AL_add0_13 : decode c_AL_add0 13 = .ok (.getfield 9, 3) := by decide +kernel
theorem d_AL_add0_16 : decode c_AL_add0 16 = .ok (.aload_n 0, 1) := by decide +kernel
theorem d_AL_add0_17 : decode c_AL_add0 17 = .ok (.getfield 48, 3) := by decide +kernel
theorem d_AL_add0_20 : decode c_AL_add0 20 = .ok (.invokevirtual 131, 3) := by decide +kernel
theorem d_AL_add0_23 : decode c_AL_add0 23 = .ok (.iconst 1, 1) := by decide +kernel
theorem d_AL_add0_24 : decode c_AL_add0 24 = .ok (.ireturn, 1) := by decide +kernel
def t_AL_add0_0 (l : Launch) (s0 : State) (D : va_G) (ca : Nat → ClassId) (e0 d mc ms : Nat) : List (Nat × cr_T) := [(0, cr_aload 0 1),
  (1, cr_dup 2),
  (2, cr_getf D kc 12 2 5),
  (5, cr_push (.int 1) 6),
  (6, cr_iadd 7),
  (7, cr_putf D kc s0.heap.size 12 2 .int 10),
  (10, cr_aload 0 11),
  (11, cr_aload 1 12),
  (12, cr_aload 0 13),
  (13, cr_getf D kc 12 0 16),
  (16, cr_aload 0 17),
  (17, cr_getf D kc 12 1 20),
  (20, cr_calV D kc l (cr_W0 s0) s0.heap.size 12 y_AL_add1 cw_AL_add1 d mc ms 3 2 23),
  (23, cr_push (.int 1) 24),
  (24, cr_zret mc ms .boolean)]
def t_AL_add0 (l : Launch) (s0 : State) (D : va_G) (ca : Nat → ClassId) (e0 d mc ms : Nat) : List (Nat × cr_T) := t_AL_add0_0 l s0 D ca e0 d mc ms
set_option maxHeartbeats 4000000 in
set_option maxRecDepth 20000 in
theorem s_AL_add0_0 {p : Program} {l : Launch} {e : Env} {R : Room} {s : State} {m : MethodId} {args : Array Value} {below : List Frame} {meth : Method} {c : Code} {s0 : State} {D : va_G} {ca : Nat → ClassId} {e0 d mc ms : Nat} {Q : cr_Q} (hl : l.flags = flags0) (Z : cr_Z0 s0 D ca e0) (C : cr_C p R s m meth c (cr_W0 s0) s0.heap.size y_AL_add0 c_AL_add0 2 (Option.some FieldType.boolean) d mc ms) (hem : c.exceptionTable.toList = []) : ∀ x ∈ t_AL_add0_0 l s0 D ca e0 d mc ms, cr_Snd p l e R s m args below meth c s0.heap.size mc ms Q x.1 x.2 := by
  obtain ⟨hx, hb, hml, hown, hr, hlk, hnm, hU, hlo, hR⟩ := C
  have hK := cr_Z0K Z hU
  have hRc : R.cells = mc := by rw [hR]; rfl
  have hRs : R.slots = ms := by rw [hR]; rfl
  unfold t_AL_add0_0
  refine cr_cons (cr_aload_n_ok hx hb d_AL_add0_0 rfl rfl) ?_
  refine cr_cons (cr_dup_ok hx hb d_AL_add0_1 rfl) ?_
  refine cr_cons (cr_getf_ok (C := R_AL) (T := T_AL) (N := 3) hx hb (k_AL Z hU args) (fun _ h => h) hown hK rfl (by decide) (cr_w Z w_52 rfl hU args) (fun x9 h9 => u_same (cr_w Z w_53 rfl hU args) x9 h9) d_AL_add0_2 rfl) ?_
  refine cr_cons (cr_iconst_ok hx hb d_AL_add0_5 (by decide) rfl) ?_
  refine cr_cons (cr_iadd_ok hx hb d_AL_add0_6 rfl) ?_
  refine cr_cons (cr_putf_ok (C := R_AL) (T := T_AL) (N := 3) tt_AL hx hb (k_AL Z hU args) (fun _ h => h) ty_AL nm_AL hown hK rfl (by decide) (Or.inl (cr_w Z w_52 rfl hU args)) (fun x9 h9 => u_same (cr_w Z w_53 rfl hU args) x9 h9) rfl (by decide +kernel) d_AL_add0_7 rfl) ?_
  refine cr_cons (cr_aload_n_ok hx hb d_AL_add0_10 rfl rfl) ?_
  refine cr_cons (cr_aload_n_ok hx hb d_AL_add0_11 rfl rfl) ?_
  refine cr_cons (cr_aload_n_ok hx hb d_AL_add0_12 rfl rfl) ?_
  refine cr_cons (cr_getf_ok (C := R_AL) (T := T_AL) (N := 3) hx hb (k_AL Z hU args) (fun _ h => h) hown hK rfl (by decide) (cr_w Z w_49 rfl hU args) (fun _ h => h) d_AL_add0_13 rfl) ?_
  refine cr_cons (cr_aload_n_ok hx hb d_AL_add0_16 rfl rfl) ?_
  refine cr_cons (cr_getf_ok (C := R_AL) (T := T_AL) (N := 3) hx hb (k_AL Z hU args) (fun _ h => h) hown hK rfl (by decide) (cr_w Z w_50 rfl hU args) (fun _ h => h) d_AL_add0_17 rfl) ?_
  refine cr_cons (cr_calV_ok (C := R_AL) (Tf := T_AL) (N := 3) hx hb hml hown hlk hU hlo hR (cr_W0_st s0) (by rw [hem]; exact fun _ h => absurd h List.not_mem_nil) hK rfl (u_AL_add1 Z) (Or.inl (cr_w Z w_374 rfl hU args)) (cr_w Z w_376 rfl hU args) (cr_w Z ws_9 rfl hU args) (by decide) (by decide +kernel) (by decide) d_AL_add0_20 rfl) ?_
  refine cr_cons (cr_iconst_ok hx hb d_AL_add0_23 (by decide) rfl) ?_
  refine cr_cons (cr_zret_ok hx hb hr hlk d_AL_add0_24) ?_
  exact cr_nil
theorem s_AL_add0 {p : Program} {l : Launch} {e : Env} {R : Room} {s : State} {m : MethodId} {args : Array Value} {below : List Frame} {meth : Method} {c : Code} {s0 : State} {D : va_G} {ca : Nat → ClassId} {e0 d mc ms : Nat} {Q : cr_Q} (hl : l.flags = flags0) (Z : cr_Z0 s0 D ca e0) (C : cr_C p R s m meth c (cr_W0 s0) s0.heap.size y_AL_add0 c_AL_add0 2 (Option.some FieldType.boolean) d mc ms) (hem : c.exceptionTable.toList = []) : ∀ x ∈ t_AL_add0 l s0 D ca e0 d mc ms, cr_Snd p l e R s m args below meth c s0.heap.size mc ms Q x.1 x.2 := s_AL_add0_0 hl Z C hem
theorem d_AL_add1_0 : decode c_AL_add1 0 = .ok (.iload_n 3, 1) := by decide +kernel
theorem d_AL_add1_1 : decode c_AL_add1 1 = .ok (.aload_n 2, 1) := by decide +kernel
theorem d_AL_add1_2 : decode c_AL_add1 2 = .ok (.arraylength, 1) := by decide +kernel
theorem d_AL_add1_3 : decode c_AL_add1 3 = .ok (.if_icmp .ne 8, 3) := by decide +kernel
theorem d_AL_add1_6 : decode c_AL_add1 6 = .ok (.aload_n 0, 1) := by decide +kernel
theorem d_AL_add1_7 : decode c_AL_add1 7 = .ok (.invokevirtual 129, 3) := by decide +kernel
theorem d_AL_add1_10 : decode c_AL_add1 10 = .ok (.astore_n 2, 1) := by decide +kernel
theorem d_AL_add1_11 : decode c_AL_add1 11 = .ok (.aload_n 2, 1) := by decide +kernel
theorem d_AL_add1_12 : decode c_AL_add1 12 = .ok (.iload_n 3, 1) := by decide +kernel
theorem d_AL_add1_13 : decode c_AL_add1 13 = .ok (.aload_n 1, 1) := by decide +kernel
theorem d_AL_add1_14 : decode c_AL_add1 14 = .ok (.aastore, 1) := by decide +kernel
theorem d_AL_add1_15 : decode c_AL_add1 15 = .ok (.aload_n 0, 1) := by decide +kernel
theorem d_AL_add1_16 : decode c_AL_add1 16 = .ok (.iload_n 3, 1) := by decide +kernel
theorem d_AL_add1_17 : decode c_AL_add1 17 = .ok (.iconst 1, 1) := by decide +kernel
theorem d_AL_add1_18 : decode c_AL_add1 18 = .ok (.iadd, 1) := by decide +kernel
theorem d_AL_add1_19 : decode c_AL_add1 19 = .ok (.putfield 48, 3) := by decide +kernel
theorem d_AL_add1_22 : decode c_AL_add1 22 = .ok (.return_, 1) := by decide +kernel
def t_AL_add1_0 (l : Launch) (s0 : State) (D : va_G) (ca : Nat → ClassId) (e0 d mc ms : Nat) : List (Nat × cr_T) := [(0, cr_iload 3 1),
  (1, cr_aload 2 2),
  (2, cr_aleE s0 D kc (ca 3) e0 3),
  (3, cr_icne 11 6),
  (6, cr_aload 0 7),
  (7, cr_calV D kc l (cr_W0 s0) s0.heap.size 12 y_AL_grow0 cw_AL_grow0 d mc ms 0 4 10),
  (10, cr_astore 2 11),
  (11, cr_aload 2 12),
  (12, cr_iload 3 13),
  (13, cr_aload 1 14),
  (14, cr_aast D kc s0.heap.size (ca 3) cs_obj 15),
  (15, cr_aload 0 16),
  (16, cr_iload 3 17),
  (17, cr_push (.int 1) 18),
  (18, cr_iadd 19),
  (19, cr_putf D kc s0.heap.size 12 1 .int 22),
  (22, cr_vret mc ms)]
def t_AL_add1 (l : Launch) (s0 : State) (D : va_G) (ca : Nat → ClassId) (e0 d mc ms : Nat) : List (Nat × cr_T) := t_AL_add1_0 l s0 D ca e0 d mc ms
set_option maxHeartbeats 4000000 in
set_option maxRecDepth 20000 in
theorem s_AL_add1_0 {p : Program} {l : Launch} {e : Env} {R : Room} {s : State} {m : MethodId} {args : Array Value} {below : List Frame} {meth : Method} {c : Code} {s0 : State} {D : va_G} {ca : Nat → ClassId} {e0 d mc ms : Nat} {Q : cr_Q} (hl : l.flags = flags0) (Z : cr_Z0 s0 D ca e0) (C : cr_C p R s m meth c (cr_W0 s0) s0.heap.size y_AL_add1 c_AL_add1 4 (Option.none : Option FieldType) d mc ms) (hem : c.exceptionTable.toList = []) : ∀ x ∈ t_AL_add1_0 l s0 D ca e0 d mc ms, cr_Snd p l e R s m args below meth c s0.heap.size mc ms Q x.1 x.2 := by
  obtain ⟨hx, hb, hml, hown, hr, hlk, hnm, hU, hlo, hR⟩ := C
  have hK := cr_Z0K Z hU
  have hRc : R.cells = mc := by rw [hR]; rfl
  have hRs : R.slots = ms := by rw [hR]; rfl
  unfold t_AL_add1_0
  refine cr_cons (cr_iload_n_ok hx hb d_AL_add1_0 rfl rfl) ?_
  refine cr_cons (cr_aload_n_ok hx hb d_AL_add1_1 rfl rfl) ?_
  refine cr_cons (cr_aleE_ok (t0 := 3) hx hb hK rfl Z hU d_AL_add1_2 rfl) ?_
  refine cr_cons (cr_icne_ok hx hb d_AL_add1_3 (by decide) rfl) ?_
  refine cr_cons (cr_aload_n_ok hx hb d_AL_add1_6 rfl rfl) ?_
  refine cr_cons (cr_calV_ok (C := R_AL) (Tf := T_AL) (N := 3) hx hb hml hown hlk hU hlo hR (cr_W0_st s0) (by rw [hem]; exact fun _ h => absurd h List.not_mem_nil) hK rfl (u_AL_grow0 Z) (Or.inl (cr_w Z w_378 rfl hU args)) (cr_w Z w_380 rfl hU args) (cr_w Z ws_10 rfl hU args) (by decide) (by decide +kernel) (by decide) d_AL_add1_7 rfl) ?_
  refine cr_cons (cr_astore_n_ok hx hb d_AL_add1_10 rfl rfl) ?_
  refine cr_cons (cr_aload_n_ok hx hb d_AL_add1_11 rfl rfl) ?_
  refine cr_cons (cr_iload_n_ok hx hb d_AL_add1_12 rfl rfl) ?_
  refine cr_cons (cr_aload_n_ok hx hb d_AL_add1_13 rfl rfl) ?_
  refine cr_cons (cr_aast_ok (t0 := 3) hx hb hK rfl (cs_obj_ok Z hU args) d_AL_add1_14 rfl) ?_
  refine cr_cons (cr_aload_n_ok hx hb d_AL_add1_15 rfl rfl) ?_
  refine cr_cons (cr_iload_n_ok hx hb d_AL_add1_16 rfl rfl) ?_
  refine cr_cons (cr_iconst_ok hx hb d_AL_add1_17 (by decide) rfl) ?_
  refine cr_cons (cr_iadd_ok hx hb d_AL_add1_18 rfl) ?_
  refine cr_cons (cr_putf_ok (C := R_AL) (T := T_AL) (N := 3) tt_AL hx hb (k_AL Z hU args) (fun _ h => h) ty_AL nm_AL hown hK rfl (by decide) (Or.inl (cr_w Z w_50 rfl hU args)) (fun _ h => h) rfl (by decide +kernel) d_AL_add1_19 rfl) ?_
  refine cr_cons (cr_vret_ok hx hb hr hlk d_AL_add1_22) ?_
  exact cr_nil
theorem s_AL_add1 {p : Program} {l : Launch} {e : Env} {R : Room} {s : State} {m : MethodId} {args : Array Value} {below : List Frame} {meth : Method} {c : Code} {s0 : State} {D : va_G} {ca : Nat → ClassId} {e0 d mc ms : Nat} {Q : cr_Q} (hl : l.flags = flags0) (Z : cr_Z0 s0 D ca e0) (C : cr_C p R s m meth c (cr_W0 s0) s0.heap.size y_AL_add1 c_AL_add1 4 (Option.none : Option FieldType) d mc ms) (hem : c.exceptionTable.toList = []) : ∀ x ∈ t_AL_add1 l s0 D ca e0 d mc ms, cr_Snd p l e R s m args below meth c s0.heap.size mc ms Q x.1 x.2 := s_AL_add1_0 hl Z C hem
theorem d_AL_grow0_0 : decode c_AL_grow0 0 = .ok (.aload_n 0, 1) := by decide +kernel
theorem d_AL_grow0_1 : decode c_AL_grow0 1 = .ok (.aload_n 0, 1) := by decide +kernel
theorem d_AL_grow0_2 : decode c_AL_grow0 2 = .ok (.getfield 48, 3) := by decide +kernel
theorem d_AL_grow0_5 : decode c_AL_grow0 5 = .ok (.iconst 1, 1) := by decide +kernel
theorem d_AL_grow0_6 : decode c_AL_grow0 6 = .ok (.iadd, 1) := by decide +kernel
theorem d_AL_grow0_7 : decode c_AL_grow0 7 = .ok (.invokevirtual 69, 3) := by decide +kernel
theorem d_AL_grow0_10 : decode c_AL_grow0 10 = .ok (.areturn, 1) := by decide +kernel
def t_AL_grow0_0 (l : Launch) (s0 : State) (D : va_G) (ca : Nat → ClassId) (e0 d mc ms : Nat) : List (Nat × cr_T) := [(0, cr_aload 0 1),
  (1, cr_aload 0 2),
  (2, cr_getf D kc 12 1 5),
  (5, cr_push (.int 1) 6),
  (6, cr_iadd 7),
  (7, cr_calV D kc l (cr_W0 s0) s0.heap.size 12 y_AL_grow1 cw_AL_grow1 d mc ms 1 1 10),
  (10, cr_aret mc ms)]
def t_AL_grow0 (l : Launch) (s0 : State) (D : va_G) (ca : Nat → ClassId) (e0 d mc ms : Nat) : List (Nat × cr_T) := t_AL_grow0_0 l s0 D ca e0 d mc ms
set_option maxHeartbeats 4000000 in
set_option maxRecDepth 20000 in
theorem s_AL_grow0_0 {p : Program} {l : Launch} {e : Env} {R : Room} {s : State} {m : MethodId} {args : Array Value} {below : List Frame} {meth : Method} {c : Code} {s0 : State} {D : va_G} {ca : Nat → ClassId} {e0 d mc ms : Nat} {Q : cr_Q} (hl : l.flags = flags0) (Z : cr_Z0 s0 D ca e0) (C : cr_C p R s m meth c (cr_W0 s0) s0.heap.size y_AL_grow0 c_AL_grow0 1 (Option.some (FieldType.array (FieldType.object "java/lang/Object"))) d mc ms) (hem : c.exceptionTable.toList = []) : ∀ x ∈ t_AL_grow0_0 l s0 D ca e0 d mc ms, cr_Snd p l e R s m args below meth c s0.heap.size mc ms Q x.1 x.2 := by
  obtain ⟨hx, hb, hml, hown, hr, hlk, hnm, hU, hlo, hR⟩ := C
  have hK := cr_Z0K Z hU
  have hRc : R.cells = mc := by rw [hR]; rfl
  have hRs : R.slots = ms := by rw [hR]; rfl
  unfold t_AL_grow0_0
  refine cr_cons (cr_aload_n_ok hx hb d_AL_grow0_0 rfl rfl) ?_
  refine cr_cons (cr_aload_n_ok hx hb d_AL_grow0_1 rfl rfl) ?_
  refine cr_cons (cr_getf_ok (C := R_AL) (T := T_AL) (N := 3) hx hb (k_AL Z hU args) (fun _ h => h) hown hK rfl (by decide) (cr_w Z w_50 rfl hU args) (fun _ h => h) d_AL_grow0_2 rfl) ?_
  refine cr_cons (cr_iconst_ok hx hb d_AL_grow0_5 (by decide) rfl) ?_
  refine cr_cons (cr_iadd_ok hx hb d_AL_grow0_6 rfl) ?_
  refine cr_cons (cr_calV_ok (C := R_AL) (Tf := T_AL) (N := 3) hx hb hml hown hlk hU hlo hR (cr_W0_st s0) (by rw [hem]; exact fun _ h => absurd h List.not_mem_nil) hK rfl (u_AL_grow1 Z) (Or.inl (cr_w Z w_382 rfl hU args)) (cr_w Z w_384 rfl hU args) (cr_w Z ws_11 rfl hU args) (by decide) (by decide +kernel) (by decide) d_AL_grow0_7 rfl) ?_
  refine cr_cons (cr_aret_ok hx hb hr (Or.inr ⟨_, rfl⟩) hlk d_AL_grow0_10) ?_
  exact cr_nil
theorem s_AL_grow0 {p : Program} {l : Launch} {e : Env} {R : Room} {s : State} {m : MethodId} {args : Array Value} {below : List Frame} {meth : Method} {c : Code} {s0 : State} {D : va_G} {ca : Nat → ClassId} {e0 d mc ms : Nat} {Q : cr_Q} (hl : l.flags = flags0) (Z : cr_Z0 s0 D ca e0) (C : cr_C p R s m meth c (cr_W0 s0) s0.heap.size y_AL_grow0 c_AL_grow0 1 (Option.some (FieldType.array (FieldType.object "java/lang/Object"))) d mc ms) (hem : c.exceptionTable.toList = []) : ∀ x ∈ t_AL_grow0 l s0 D ca e0 d mc ms, cr_Snd p l e R s m args below meth c s0.heap.size mc ms Q x.1 x.2 := s_AL_grow0_0 hl Z C hem
theorem d_AL_grow1_0 : decode c_AL_grow1 0 = .ok (.aload_n 0, 1) := by decide +kernel
theorem d_AL_grow1_1 : decode c_AL_grow1 1 = .ok (.getfield 9, 3) := by decide +kernel
theorem d_AL_grow1_4 : decode c_AL_grow1 4 = .ok (.arraylength, 1) := by decide +kernel
theorem d_AL_grow1_5 : decode c_AL_grow1 5 = .ok (.istore_n 2, 1) := by decide +kernel
theorem d_AL_grow1_6 : decode c_AL_grow1 6 = .ok (.iload_n 2, 1) := by decide +kernel
theorem d_AL_grow1_7 : decode c_AL_grow1 7 = .ok (.ifCond .gt 13, 3) := by decide +kernel
theorem d_AL_grow1_10 : decode c_AL_grow1 10 = .ok (.aload_n 0, 1) := by decide +kernel
theorem d_AL_grow1_11 : decode c_AL_grow1 11 = .ok (.getfield 9, 3) := by decide +kernel
theorem d_AL_grow1_14 : decode c_AL_grow1 14 = .ok (.getstatic 39, 3) := by decide +kernel
theorem d_AL_grow1_17 : decode c_AL_grow1 17 = .ok (.if_acmp .eq 28, 3) := by decide +kernel
theorem d_AL_grow1_20 : decode c_AL_grow1 20 = .ok (.iload_n 2, 1) := by decide +kernel
theorem d_AL_grow1_21 : decode c_AL_grow1 21 = .ok (.iload_n 1, 1) := by decide +kernel
theorem d_AL_grow1_22 : decode c_AL_grow1 22 = .ok (.iload_n 2, 1) := by decide +kernel
theorem d_AL_grow1_23 : decode c_AL_grow1 23 = .ok (.isub, 1) := by decide +kernel
theorem d_AL_grow1_24 : decode c_AL_grow1 24 = .ok (.iload_n 2, 1) := by decide +kernel
theorem d_AL_grow1_25 : decode c_AL_grow1 25 = .ok (.iconst 1, 1) := by decide +kernel
theorem d_AL_grow1_26 : decode c_AL_grow1 26 = .ok (.ishr, 1) := by decide +kernel
theorem d_AL_grow1_27 : decode c_AL_grow1 27 = .ok (.invokestatic 73, 3) := by decide +kernel
theorem d_AL_grow1_30 : decode c_AL_grow1 30 = .ok (.istore_n 3, 1) := by decide +kernel
theorem d_AL_grow1_31 : decode c_AL_grow1 31 = .ok (.aload_n 0, 1) := by decide +kernel
theorem d_AL_grow1_32 : decode c_AL_grow1 32 = .ok (.aload_n 0, 1) := by decide +kernel
theorem d_AL_grow1_33 : decode c_AL_grow1 33 = .ok (.getfield 9, 3) := by decide +kernel
theorem d_AL_grow1_36 : decode c_AL_grow1 36 = .ok (.iload_n 3, 1) := by decide +kernel
theorem d_AL_grow1_37 : decode c_AL_grow1 37 = .ok (.invokestatic 66, 3) := by decide +kernel
theorem d_AL_grow1_40 : decode c_AL_grow1 40 = .ok (.dup_x1, 1) := by decide +kernel
theorem d_AL_grow1_41 : decode c_AL_grow1 41 = .ok (.putfield 9, 3) := by decide +kernel
theorem d_AL_grow1_44 : decode c_AL_grow1 44 = .ok (.areturn, 1) := by decide +kernel
theorem d_AL_grow1_45 : decode c_AL_grow1 45 = .ok (.aload_n 0, 1) := by decide +kernel
theorem d_AL_grow1_46 : decode c_AL_grow1 46 = .ok (.bipush 10, 2) := by decide +kernel
theorem d_AL_grow1_48 : decode c_AL_grow1 48 = .ok (.iload_n 1, 1) := by decide +kernel
theorem d_AL_grow1_49 : decode c_AL_grow1 49 = .ok (.invokestatic 79, 3) := by decide +kernel
theorem d_AL_grow1_52 : decode c_AL_grow1 52 = .ok (.anewarray 7, 3) := by decide +kernel
theorem d_AL_grow1_55 : decode c_AL_grow1 55 = .ok (.dup_x1, 1) := by decide +kernel
theorem d_AL_grow1_56 : decode c_AL_grow1 56 = .ok (.putfield 9, 3) := by decide +kernel
theorem d_AL_grow1_59 : decode c_AL_grow1 59 = .ok (.areturn, 1) := by decide +kernel
def t_AL_grow1_0 (l : Launch) (s0 : State) (D : va_G) (ca : Nat → ClassId) (e0 d mc ms : Nat) : List (Nat × cr_T) := [(0, cr_aload 0 1),
  (1, cr_getf D kc 12 0 4),
  (4, cr_aleE s0 D kc (ca 3) e0 5),
  (5, cr_istore 2 6),
  (6, cr_iload 2 7),
  (7, cr_ifgt 20 10),
  (10, cr_aload 0 11),
  (11, cr_getf D kc 12 0 14),
  (14, cr_gets s0 e0 17),
  (17, cr_aceq 45 20),
  (20, cr_iload 2 21),
  (21, cr_iload 1 22),
  (22, cr_iload 2 23),
  (23, cr_isub 24),
  (24, cr_iload 2 25),
  (25, cr_push (.int 1) 26),
  (26, cr_ishr 27),
  (27, cr_calS l (cr_W0 s0) s0.heap.size y_As_newLength cw_As_newLength d mc ms 3 4 30),
  (30, cr_istore 3 31),
  (31, cr_aload 0 32),
  (32, cr_aload 0 33),
  (33, cr_getf D kc 12 0 36),
  (36, cr_iload 3 37),
  (37, cr_calS l (cr_W0 s0) s0.heap.size y_Ar_copyOf0 cw_Ar_copyOf0 d mc ms 2 4 40),
  (40, cr_dup_x1 41),
  (41, cr_putf D kc s0.heap.size 12 0 (.array (.object "java/lang/Object")) 44),
  (44, cr_aret mc ms),
  (45, cr_aload 0 46),
  (46, cr_push (.int 10) 48),
  (48, cr_iload 1 49)]
def t_AL_grow1_1 (l : Launch) (s0 : State) (D : va_G) (ca : Nat → ClassId) (e0 d mc ms : Nat) : List (Nat × cr_T) := [(49, cr_mmax mc ms d 4 52),
  (52, cr_newq D kc s0.heap.size mc ms (ca 3) 55),
  (55, cr_dup_x1 56),
  (56, cr_putf D kc s0.heap.size 12 0 (.array (.object "java/lang/Object")) 59),
  (59, cr_aret mc ms)]
def t_AL_grow1 (l : Launch) (s0 : State) (D : va_G) (ca : Nat → ClassId) (e0 d mc ms : Nat) : List (Nat × cr_T) := t_AL_grow1_0 l s0 D ca e0 d mc ms ++ (t_AL_grow1_1 l s0 D ca e0 d mc ms)
set_option maxHeartbeats 4000000 in
set_option maxRecDepth 20000 in
theorem s_AL_grow1_0 {p : Program} {l : Launch} {e : Env} {R : Room} {s : State} {m : MethodId} {args : Array Value} {below : List Frame} {meth : Method} {c : Code} {s0 : State} {D : va_G} {ca : Nat → ClassId} {e0 d mc ms : Nat} {Q : cr_Q} (hl : l.flags = flags0) (Z : cr_Z0 s0 D ca e0) (C : cr_C p R s m meth c (cr_W0 s0) s0.heap.size y_AL_grow1 c_AL_grow1 4 (Option.some (FieldType.array (FieldType.object "java/lang/Object"))) d mc ms) (hem : c.exceptionTable.toList = []) : ∀ x ∈ t_AL_grow1_0 l s0 D ca e0 d mc ms, cr_Snd p l e R s m args below meth c s0.heap.size mc ms Q x.1 x.2 := by
  obtain ⟨hx, hb, hml, hown, hr, hlk, hnm, hU, hlo, hR⟩ := C
  have hK := cr_Z0K Z hU
  have hRc : R.cells = mc := by rw [hR]; rfl
  have hRs : R.slots = ms := by rw [hR]; rfl
  unfold t_AL_grow1_0
  refine cr_cons (cr_aload_n_ok hx hb d_AL_grow1_0 rfl rfl) ?_
  refine cr_cons (cr_getf_ok (C := R_AL) (T := T_AL) (N := 3) hx hb (k_AL Z hU args) (fun _ h => h) hown hK rfl (by decide) (cr_w Z w_49 rfl hU args) (fun _ h => h) d_AL_grow1_1 rfl) ?_
  refine cr_cons (cr_aleE_ok (t0 := 3) hx hb hK rfl Z hU d_AL_grow1_4 rfl) ?_
  refine cr_cons (cr_istore_n_ok hx hb d_AL_grow1_5 rfl rfl) ?_
  refine cr_cons (cr_iload_n_ok hx hb d_AL_grow1_6 rfl rfl) ?_
  refine cr_cons (cr_ifgt_ok hx hb d_AL_grow1_7 (by decide) rfl) ?_
  refine cr_cons (cr_aload_n_ok hx hb d_AL_grow1_10 rfl rfl) ?_
  refine cr_cons (cr_getf_ok (C := R_AL) (T := T_AL) (N := 3) hx hb (k_AL Z hU args) (fun _ h => h) hown hK rfl (by decide) (cr_w Z w_49 rfl hU args) (fun _ h => h) d_AL_grow1_11 rfl) ?_
  refine cr_cons (cr_gets_ok hx hb hown Z hU (cr_w Z w_47 rfl hU args) d_AL_grow1_14 rfl) ?_
  refine cr_cons (cr_aceq_ok hx hb d_AL_grow1_17 (by decide) rfl) ?_
  refine cr_cons (cr_iload_n_ok hx hb d_AL_grow1_20 rfl rfl) ?_
  refine cr_cons (cr_iload_n_ok hx hb d_AL_grow1_21 rfl rfl) ?_
  refine cr_cons (cr_iload_n_ok hx hb d_AL_grow1_22 rfl rfl) ?_
  refine cr_cons (cr_isub_ok hx hb d_AL_grow1_23 rfl) ?_
  refine cr_cons (cr_iload_n_ok hx hb d_AL_grow1_24 rfl rfl) ?_
  refine cr_cons (cr_iconst_ok hx hb d_AL_grow1_25 (by decide) rfl) ?_
  refine cr_cons (cr_ishr_ok hx hb d_AL_grow1_26 rfl) ?_
  refine cr_cons (cr_calS_ok hx hb hml hown hlk hU hlo hR (cr_W0_st s0) (by rw [hem]; exact fun _ h => absurd h List.not_mem_nil) (u_As_newLength Z) (Or.inl (cr_w Z w_386 rfl hU args)) (cr_w Z w_387 rfl hU args) (by decide) (by decide +kernel) (by decide) d_AL_grow1_27 rfl) ?_
  refine cr_cons (cr_istore_n_ok hx hb d_AL_grow1_30 rfl rfl) ?_
  refine cr_cons (cr_aload_n_ok hx hb d_AL_grow1_31 rfl rfl) ?_
  refine cr_cons (cr_aload_n_ok hx hb d_AL_grow1_32 rfl rfl) ?_
  refine cr_cons (cr_getf_ok (C := R_AL) (T := T_AL) (N := 3) hx hb (k_AL Z hU args) (fun _ h => h) hown hK rfl (by decide) (cr_w Z w_49 rfl hU args) (fun _ h => h) d_AL_grow1_33 rfl) ?_
  refine cr_cons (cr_iload_n_ok hx hb d_AL_grow1_36 rfl rfl) ?_
  refine cr_cons (cr_calS_ok hx hb hml hown hlk hU hlo hR (cr_W0_st s0) (by rw [hem]; exact fun _ h => absurd h List.not_mem_nil) (u_Ar_copyOf0 Z) (Or.inl (cr_w Z w_396 rfl hU args)) (cr_w Z w_397 rfl hU args) (by decide) (by decide +kernel) (by decide) d_AL_grow1_37 rfl) ?_
  refine cr_cons (cr_dup_x1_ok hx hb d_AL_grow1_40 rfl) ?_
  refine cr_cons (cr_putf_ok (C := R_AL) (T := T_AL) (N := 3) tt_AL hx hb (k_AL Z hU args) (fun _ h => h) ty_AL nm_AL hown hK rfl (by decide) (Or.inl (cr_w Z w_49 rfl hU args)) (fun _ h => h) rfl (by decide +kernel) d_AL_grow1_41 rfl) ?_
  refine cr_cons (cr_aret_ok hx hb hr (Or.inr ⟨_, rfl⟩) hlk d_AL_grow1_44) ?_
  refine cr_cons (cr_aload_n_ok hx hb d_AL_grow1_45 rfl rfl) ?_
  refine cr_cons (cr_bipush_ok hx hb d_AL_grow1_46 (by decide) rfl) ?_
  refine cr_cons (cr_iload_n_ok hx hb d_AL_grow1_48 rfl rfl) ?_
  exact cr_nil
set_option maxHeartbeats 4000000 in
set_option maxRecDepth 20000 in
theorem s_AL_grow1_1 {p : Program} {l : Launch} {e : Env} {R : Room} {s : State} {m : MethodId} {args : Array Value} {below : List Frame} {meth : Method} {c : Code} {s0 : State} {D : va_G} {ca : Nat → ClassId} {e0 d mc ms : Nat} {Q : cr_Q} (hl : l.flags = flags0) (Z : cr_Z0 s0 D ca e0) (C : cr_C p R s m meth c (cr_W0 s0) s0.heap.size y_AL_grow1 c_AL_grow1 4 (Option.some (FieldType.array (FieldType.object "java/lang/Object"))) d mc ms) (hem : c.exceptionTable.toList = []) : ∀ x ∈ t_AL_grow1_1 l s0 D ca e0 d mc ms, cr_Snd p l e R s m args below meth c s0.heap.size mc ms Q x.1 x.2 := by
  obtain ⟨hx, hb, hml, hown, hr, hlk, hnm, hU, hlo, hR⟩ := C
  have hK := cr_Z0K Z hU
  have hRc : R.cells = mc := by rw [hR]; rfl
  have hRs : R.slots = ms := by rw [hR]; rfl
  unfold t_AL_grow1_1
  refine cr_cons (cr_mmax_ok hx hb hml hown hR (cr_w Z w_430 rfl hU args) (cr_w Z w_390 rfl hU args) (cr_w Z w_18 rfl hU args) (cr_w Z w_391 rfl hU args) d_AL_grow1_49 rfl) ?_
  refine cr_cons (cr_newq_ok (C := "java/lang/Object") hx hb hown (cr_w Z w_431 rfl hU args) (cr_wo Z hU args) (cr_fo hK) hlo hRc hRs d_AL_grow1_52 rfl) ?_
  refine cr_cons (cr_dup_x1_ok hx hb d_AL_grow1_55 rfl) ?_
  refine cr_cons (cr_putf_ok (C := R_AL) (T := T_AL) (N := 3) tt_AL hx hb (k_AL Z hU args) (fun _ h => h) ty_AL nm_AL hown hK rfl (by decide) (Or.inl (cr_w Z w_49 rfl hU args)) (fun _ h => h) rfl (by decide +kernel) d_AL_grow1_56 rfl) ?_
  refine cr_cons (cr_aret_ok hx hb hr (Or.inr ⟨_, rfl⟩) hlk d_AL_grow1_59) ?_
  exact cr_nil
theorem s_AL_grow1 {p : Program} {l : Launch} {e : Env} {R : Room} {s : State} {m : MethodId} {args : Array Value} {below : List Frame} {meth : Method} {c : Code} {s0 : State} {D : va_G} {ca : Nat → ClassId} {e0 d mc ms : Nat} {Q : cr_Q} (hl : l.flags = flags0) (Z : cr_Z0 s0 D ca e0) (C : cr_C p R s m meth c (cr_W0 s0) s0.heap.size y_AL_grow1 c_AL_grow1 4 (Option.some (FieldType.array (FieldType.object "java/lang/Object"))) d mc ms) (hem : c.exceptionTable.toList = []) : ∀ x ∈ t_AL_grow1 l s0 D ca e0 d mc ms, cr_Snd p l e R s m args below meth c s0.heap.size mc ms Q x.1 x.2 := cr_app (s_AL_grow1_0 hl Z C hem) (s_AL_grow1_1 hl Z C hem)
theorem d_As_newLength_0 : decode c_As_newLength 0 = .ok (.iload_n 0, 1) := by decide +kernel
theorem d_As_newLength_1 : decode c_As_newLength 1 = .ok (.iload_n 1, 1) := by decide +kernel
theorem d_As_newLength_2 : decode c_As_newLength 2 = .ok (.iload_n 2, 1) := by decide +kernel
theorem d_As_newLength_3 : decode c_As_newLength 3 = .ok (.invokestatic 194, 3) := by decide +kernel
theorem d_As_newLength_6 : decode c_As_newLength 6 = .ok (.iadd, 1) := by decide +kernel
theorem d_As_newLength_7 : decode c_As_newLength 7 = .ok (.istore_n 3, 1) := by decide +kernel
theorem d_As_newLength_8 : decode c_As_newLength 8 = .ok (.iconst 0, 1) := by decide +kernel
theorem d_As_newLength_9 : decode c_As_newLength 9 = .ok (.iload_n 3, 1) := by decide +kernel
theorem d_As_newLength_10 : decode c_As_newLength 10 = .ok (.if_icmp .ge 11, 3) := by decide +kernel
theorem d_As_newLength_13 : decode c_As_newLength 13 = .ok (.iload_n 3, 1) := by decide +kernel
theorem d_As_newLength_14 : decode c_As_newLength 14 = .ok (.ldc 200, 2) := by decide +kernel
theorem d_As_newLength_16 : decode c_As_newLength 16 = .ok (.if_icmp .gt 5, 3) := by decide +kernel
theorem d_As_newLength_19 : decode c_As_newLength 19 = .ok (.iload_n 3, 1) := by decide +kernel
theorem d_As_newLength_20 : decode c_As_newLength 20 = .ok (.ireturn, 1) := by decide +kernel
theorem d_As_newLength_21 : decode c_As_newLength 21 = .ok (.iload_n 0, 1) := by decide +kernel
theorem d_As_newLength_22 : decode c_As_newLength 22 = .ok (.iload_n 1, 1) := by decide +kernel
theorem d_As_newLength_23 : decode c_As_newLength 23 = .ok (.invokestatic 201, 3) := by decide +kernel
theorem d_As_newLength_26 : decode c_As_newLength 26 = .ok (.ireturn, 1) := by decide +kernel
def t_As_newLength_0 (l : Launch) (s0 : State) (D : va_G) (ca : Nat → ClassId) (e0 d mc ms : Nat) : List (Nat × cr_T) := [(0, cr_iload 0 1),
  (1, cr_iload 1 2),
  (2, cr_iload 2 3),
  (3, cr_mmax mc ms d 4 6),
  (6, cr_iadd 7),
  (7, cr_istore 3 8),
  (8, cr_push (.int 0) 9),
  (9, cr_iload 3 10),
  (10, cr_icge 21 13),
  (13, cr_iload 3 14),
  (14, cr_push (.int 2147483639) 16),
  (16, cr_icgt 21 19),
  (19, cr_iload 3 20),
  (20, cr_iret mc ms),
  (21, cr_iload 0 22),
  (22, cr_iload 1 23),
  (23, cr_calS l (cr_W0 s0) s0.heap.size y_As_hugeLength cw_As_hugeLength d mc ms 2 4 26),
  (26, cr_iret mc ms)]
def t_As_newLength (l : Launch) (s0 : State) (D : va_G) (ca : Nat → ClassId) (e0 d mc ms : Nat) : List (Nat × cr_T) := t_As_newLength_0 l s0 D ca e0 d mc ms
set_option maxHeartbeats 4000000 in
set_option maxRecDepth 20000 in
theorem s_As_newLength_0 {p : Program} {l : Launch} {e : Env} {R : Room} {s : State} {m : MethodId} {args : Array Value} {below : List Frame} {meth : Method} {c : Code} {s0 : State} {D : va_G} {ca : Nat → ClassId} {e0 d mc ms : Nat} {Q : cr_Q} (hl : l.flags = flags0) (Z : cr_Z0 s0 D ca e0) (C : cr_C p R s m meth c (cr_W0 s0) s0.heap.size y_As_newLength c_As_newLength 4 (Option.some FieldType.int) d mc ms) (hem : c.exceptionTable.toList = []) : ∀ x ∈ t_As_newLength_0 l s0 D ca e0 d mc ms, cr_Snd p l e R s m args below meth c s0.heap.size mc ms Q x.1 x.2 := by
  obtain ⟨hx, hb, hml, hown, hr, hlk, hnm, hU, hlo, hR⟩ := C
  have hK := cr_Z0K Z hU
  have hRc : R.cells = mc := by rw [hR]; rfl
  have hRs : R.slots = ms := by rw [hR]; rfl
  unfold t_As_newLength_0
  refine cr_cons (cr_iload_n_ok hx hb d_As_newLength_0 rfl rfl) ?_
  refine cr_cons (cr_iload_n_ok hx hb d_As_newLength_1 rfl rfl) ?_
  refine cr_cons (cr_iload_n_ok hx hb d_As_newLength_2 rfl rfl) ?_
  refine cr_cons (cr_mmax_ok hx hb hml hown hR (cr_w Z w_389 rfl hU args) (cr_w Z w_390 rfl hU args) (cr_w Z w_18 rfl hU args) (cr_w Z w_391 rfl hU args) d_As_newLength_3 rfl) ?_
  refine cr_cons (cr_iadd_ok hx hb d_As_newLength_6 rfl) ?_
  refine cr_cons (cr_istore_n_ok hx hb d_As_newLength_7 rfl rfl) ?_
  refine cr_cons (cr_iconst_ok hx hb d_As_newLength_8 (by decide) rfl) ?_
  refine cr_cons (cr_iload_n_ok hx hb d_As_newLength_9 rfl rfl) ?_
  refine cr_cons (cr_icge_ok hx hb d_As_newLength_10 (by decide) rfl) ?_
  refine cr_cons (cr_iload_n_ok hx hb d_As_newLength_13 rfl rfl) ?_
  refine cr_cons (cr_ldc_ok hx hb hown (cr_w Z w_392 rfl hU args) d_As_newLength_14 rfl) ?_
  refine cr_cons (cr_icgt_ok hx hb d_As_newLength_16 (by decide) rfl) ?_
  refine cr_cons (cr_iload_n_ok hx hb d_As_newLength_19 rfl rfl) ?_
  refine cr_cons (cr_iret_ok hx hb hr hlk d_As_newLength_20) ?_
  refine cr_cons (cr_iload_n_ok hx hb d_As_newLength_21 rfl rfl) ?_
  refine cr_cons (cr_iload_n_ok hx hb d_As_newLength_22 rfl rfl) ?_
  refine cr_cons (cr_calS_ok hx hb hml hown hlk hU hlo hR (cr_W0_st s0) (by rw [hem]; exact fun _ h => absurd h List.not_mem_nil) (u_As_hugeLength Z) (Or.inl (cr_w Z w_393 rfl hU args)) (cr_w Z w_394 rfl hU args) (by decide) (by decide +kernel) (by decide) d_As_newLength_23 rfl) ?_
  refine cr_cons (cr_iret_ok hx hb hr hlk d_As_newLength_26) ?_
  exact cr_nil
theorem s_As_newLength {p : Program} {l : Launch} {e : Env} {R : Room} {s : State} {m : MethodId} {args : Array Value} {below : List Frame} {meth : Method} {c : Code} {s0 : State} {D : va_G} {ca : Nat → ClassId} {e0 d mc ms : Nat} {Q : cr_Q} (hl : l.flags = flags0) (Z : cr_Z0 s0 D ca e0) (C : cr_C p R s m meth c (cr_W0 s0) s0.heap.size y_As_newLength c_As_newLength 4 (Option.some FieldType.int) d mc ms) (hem : c.exceptionTable.toList = []) : ∀ x ∈ t_As_newLength l s0 D ca e0 d mc ms, cr_Snd p l e R s m args below meth c s0.heap.size mc ms Q x.1 x.2 := s_As_newLength_0 hl Z C hem
theorem d_Ma_max_0 : decode c_Ma_max 0 = .ok (.iload_n 0, 1) := by decide +kernel
theorem d_Ma_max_1 : decode c_Ma_max 1 = .ok (.iload_n 1, 1) := by decide +kernel
theorem d_Ma_max_2 : decode c_Ma_max 2 = .ok (.if_icmp .lt 7, 3) := by decide +kernel
theorem d_Ma_max_5 : decode c_Ma_max 5 = .ok (.iload_n 0, 1) := by decide +kernel
theorem d_Ma_max_6 : decode c_Ma_max 6 = .ok (.goto 4, 3) := by decide +kernel
theorem d_Ma_max_9 : decode c_Ma_max 9 = .ok (.iload_n 1, 1) := by decide +kernel
theorem d_Ma_max_10 : decode c_Ma_max 10 = .ok (.ireturn, 1) := by decide +kernel
def t_Ma_max_0 (l : Launch) (s0 : State) (D : va_G) (ca : Nat → ClassId) (e0 d mc ms : Nat) : List (Nat × cr_T) := [(0, cr_iload 0 1),
  (1, cr_iload 1 2),
  (2, cr_iclt 9 5),
  (5, cr_iload 0 6),
  (6, cr_goto 10),
  (9, cr_iload 1 10),
  (10, cr_iret mc ms)]
def t_Ma_max (l : Launch) (s0 : State) (D : va_G) (ca : Nat → ClassId) (e0 d mc ms : Nat) : List (Nat × cr_T) := t_Ma_max_0 l s0 D ca e0 d mc ms
set_option maxHeartbeats 4000000 in
set_option maxRecDepth 20000 in
theorem s_Ma_max_0 {p : Program} {l : Launch} {e : Env} {R : Room} {s : State} {m : MethodId} {args : Array Value} {below : List Frame} {meth : Method} {c : Code} {s0 : State} {D : va_G} {ca : Nat → ClassId} {e0 d mc ms : Nat} {Q : cr_Q} (hl : l.flags = flags0) (Z : cr_Z0 s0 D ca e0) (C : cr_C p R s m meth c (cr_W0 s0) s0.heap.size y_Ma_max c_Ma_max 2 (Option.some FieldType.int) d mc ms) (hem : c.exceptionTable.toList = []) : ∀ x ∈ t_Ma_max_0 l s0 D ca e0 d mc ms, cr_Snd p l e R s m args below meth c s0.heap.size mc ms Q x.1 x.2 := by
  obtain ⟨hx, hb, hml, hown, hr, hlk, hnm, hU, hlo, hR⟩ := C
  have hK := cr_Z0K Z hU
  have hRc : R.cells = mc := by rw [hR]; rfl
  have hRs : R.slots = ms := by rw [hR]; rfl
  unfold t_Ma_max_0
  refine cr_cons (cr_iload_n_ok hx hb d_Ma_max_0 rfl rfl) ?_
  refine cr_cons (cr_iload_n_ok hx hb d_Ma_max_1 rfl rfl) ?_
  refine cr_cons (cr_iclt_ok hx hb d_Ma_max_2 (by decide) rfl) ?_
  refine cr_cons (cr_iload_n_ok hx hb d_Ma_max_5 rfl rfl) ?_
  refine cr_cons (cr_goto_ok hx hb d_Ma_max_6 (by decide)) ?_
  refine cr_cons (cr_iload_n_ok hx hb d_Ma_max_9 rfl rfl) ?_
  refine cr_cons (cr_iret_ok hx hb hr hlk d_Ma_max_10) ?_
  exact cr_nil
theorem s_Ma_max {p : Program} {l : Launch} {e : Env} {R : Room} {s : State} {m : MethodId} {args : Array Value} {below : List Frame} {meth : Method} {c : Code} {s0 : State} {D : va_G} {ca : Nat → ClassId} {e0 d mc ms : Nat} {Q : cr_Q} (hl : l.flags = flags0) (Z : cr_Z0 s0 D ca e0) (C : cr_C p R s m meth c (cr_W0 s0) s0.heap.size y_Ma_max c_Ma_max 2 (Option.some FieldType.int) d mc ms) (hem : c.exceptionTable.toList = []) : ∀ x ∈ t_Ma_max l s0 D ca e0 d mc ms, cr_Snd p l e R s m args below meth c s0.heap.size mc ms Q x.1 x.2 := s_Ma_max_0 hl Z C hem
theorem d_Ar_copyOf0_0 : decode c_Ar_copyOf0 0 = .ok (.aload_n 0, 1) := by decide +kernel
theorem d_Ar_copyOf0_1 : decode c_Ar_copyOf0 1 = .ok (.iload_n 1, 1) := by decide +kernel
theorem d_Ar_copyOf0_2 : decode c_Ar_copyOf0 2 = .ok (.aload_n 0, 1) := by decide +kernel
theorem d_Ar_copyOf0_3 : decode c_Ar_copyOf0 3 = .ok (.invokevirtual 86, 3) := by decide +kernel
theorem d_Ar_copyOf0_6 : decode c_Ar_copyOf0 6 = .ok (.invokestatic 300, 3) := by decide +kernel
theorem d_Ar_copyOf0_9 : decode c_Ar_copyOf0 9 = .ok (.areturn, 1) := by decide +kernel
def t_Ar_copyOf0_0 (l : Launch) (s0 : State) (D : va_G) (ca : Nat → ClassId) (e0 d mc ms : Nat) : List (Nat × cr_T) := [(0, cr_aload 0 1),
  (1, cr_iload 1 2),
  (2, cr_aload 0 3),
  (3, cr_getC s0 D kc (ca 3) d 2 6),
  (6, cr_calS l (cr_W0 s0) s0.heap.size y_Ar_copyOf1 cw_Ar_copyOf1 d mc ms 3 2 9),
  (9, cr_aret mc ms)]
def t_Ar_copyOf0 (l : Launch) (s0 : State) (D : va_G) (ca : Nat → ClassId) (e0 d mc ms : Nat) : List (Nat × cr_T) := t_Ar_copyOf0_0 l s0 D ca e0 d mc ms
set_option maxHeartbeats 4000000 in
set_option maxRecDepth 20000 in
theorem s_Ar_copyOf0_0 {p : Program} {l : Launch} {e : Env} {R : Room} {s : State} {m : MethodId} {args : Array Value} {below : List Frame} {meth : Method} {c : Code} {s0 : State} {D : va_G} {ca : Nat → ClassId} {e0 d mc ms : Nat} {Q : cr_Q} (hl : l.flags = flags0) (Z : cr_Z0 s0 D ca e0) (C : cr_C p R s m meth c (cr_W0 s0) s0.heap.size y_Ar_copyOf0 c_Ar_copyOf0 2 (Option.some (FieldType.array (FieldType.object "java/lang/Object"))) d mc ms) (hem : c.exceptionTable.toList = []) : ∀ x ∈ t_Ar_copyOf0_0 l s0 D ca e0 d mc ms, cr_Snd p l e R s m args below meth c s0.heap.size mc ms Q x.1 x.2 := by
  obtain ⟨hx, hb, hml, hown, hr, hlk, hnm, hU, hlo, hR⟩ := C
  have hK := cr_Z0K Z hU
  have hRc : R.cells = mc := by rw [hR]; rfl
  have hRs : R.slots = ms := by rw [hR]; rfl
  unfold t_Ar_copyOf0_0
  refine cr_cons (cr_aload_n_ok hx hb d_Ar_copyOf0_0 rfl rfl) ?_
  refine cr_cons (cr_iload_n_ok hx hb d_Ar_copyOf0_1 rfl rfl) ?_
  refine cr_cons (cr_aload_n_ok hx hb d_Ar_copyOf0_2 rfl rfl) ?_
  refine cr_cons (cr_getC_ok hx hb hml hown hK Z hU hR (cr_w Z w_399 rfl hU args) (cr_w Z w_1090 rfl hU args) (cr_w Z w_1089 rfl hU args) (cr_w Z w_400 rfl hU args) (cr_w Z w_417 rfl hU args) d_Ar_copyOf0_3 rfl) ?_
  refine cr_cons (cr_calS_ok hx hb hml hown hlk hU hlo hR (cr_W0_st s0) (by rw [hem]; exact fun _ h => absurd h List.not_mem_nil) (u_Ar_copyOf1 Z) (Or.inl (cr_w Z w_418 rfl hU args)) (cr_w Z w_419 rfl hU args) (by decide) (by decide +kernel) (by decide) d_Ar_copyOf0_6 rfl) ?_
  refine cr_cons (cr_aret_ok hx hb hr (Or.inr ⟨_, rfl⟩) hlk d_Ar_copyOf0_9) ?_
  exact cr_nil
theorem s_Ar_copyOf0 {p : Program} {l : Launch} {e : Env} {R : Room} {s : State} {m : MethodId} {args : Array Value} {below : List Frame} {meth : Method} {c : Code} {s0 : State} {D : va_G} {ca : Nat → ClassId} {e0 d mc ms : Nat} {Q : cr_Q} (hl : l.flags = flags0) (Z : cr_Z0 s0 D ca e0) (C : cr_C p R s m meth c (cr_W0 s0) s0.heap.size y_Ar_copyOf0 c_Ar_copyOf0 2 (Option.some (FieldType.array (FieldType.object "java/lang/Object"))) d mc ms) (hem : c.exceptionTable.toList = []) : ∀ x ∈ t_Ar_copyOf0 l s0 D ca e0 d mc ms, cr_Snd p l e R s m args below meth c s0.heap.size mc ms Q x.1 x.2 := s_Ar_copyOf0_0 hl Z C hem
theorem d_Ar_copyOf1_0 : decode c_Ar_copyOf1 0 = .ok (.aload_n 2, 1) := by decide +kernel
theorem d_Ar_copyOf1_1 : decode c_Ar_copyOf1 1 = .ok (.ldc 110, 2) := by decide +kernel
theorem d_Ar_copyOf1_3 : decode c_Ar_copyOf1 3 = .ok (.if_acmp .ne 10, 3) := by decide +kernel
theorem d_Ar_copyOf1_6 : decode c_Ar_copyOf1 6 = .ok (.iload_n 1, 1) := by decide +kernel
theorem d_Ar_copyOf1_7 : decode c_Ar_copyOf1 7 = .ok (.anewarray 2, 3) := by decide +kernel
theorem d_Ar_copyOf1_10 : decode c_Ar_copyOf1 10 = .ok (.goto 14, 3) := by decide +kernel
theorem d_Ar_copyOf1_24 : decode c_Ar_copyOf1 24 = .ok (.astore_n 3, 1) := by decide +kernel
theorem d_Ar_copyOf1_25 : decode c_Ar_copyOf1 25 = .ok (.aload_n 0, 1) := by decide +kernel
theorem d_Ar_copyOf1_26 : decode c_Ar_copyOf1 26 = .ok (.iconst 0, 1) := by decide +kernel
theorem d_Ar_copyOf1_27 : decode c_Ar_copyOf1 27 = .ok (.aload_n 3, 1) := by decide +kernel
theorem d_Ar_copyOf1_28 : decode c_Ar_copyOf1 28 = .ok (.iconst 0, 1) := by decide +kernel
theorem d_Ar_copyOf1_29 : decode c_Ar_copyOf1 29 = .ok (.aload_n 0, 1) := by decide +kernel
theorem d_Ar_copyOf1_30 : decode c_Ar_copyOf1 30 = .ok (.arraylength, 1) := by decide +kernel
theorem d_Ar_copyOf1_31 : decode c_Ar_copyOf1 31 = .ok (.iload_n 1, 1) := by decide +kernel
theorem d_Ar_copyOf1_32 : decode c_Ar_copyOf1 32 = .ok (.invokestatic 304, 3) := by decide +kernel
theorem d_Ar_copyOf1_35 : decode c_Ar_copyOf1 35 = .ok (.invokestatic 150, 3) := by decide +kernel
theorem d_Ar_copyOf1_38 : decode c_Ar_copyOf1 38 = .ok (.aload_n 3, 1) := by decide +kernel
theorem d_Ar_copyOf1_39 : decode c_Ar_copyOf1 39 = .ok (.areturn, 1) := by decide +kernel
def t_Ar_copyOf1_0 (l : Launch) (s0 : State) (D : va_G) (ca : Nat → ClassId) (e0 d mc ms : Nat) : List (Nat × cr_T) := [(0, cr_aload 2 1),
  (1, cr_ldcM s0 3),
  (3, cr_acne 13 6),
  (6, cr_iload 1 7),
  (7, cr_newq D kc s0.heap.size mc ms (ca 3) 10),
  (10, cr_goto 24),
  (24, cr_astore 3 25),
  (25, cr_aload 0 26),
  (26, cr_push (.int 0) 27),
  (27, cr_aload 3 28),
  (28, cr_push (.int 0) 29),
  (29, cr_aload 0 30),
  (30, cr_aleE s0 D kc (ca 3) e0 31),
  (31, cr_iload 1 32),
  (32, cr_mmin mc ms d 4 35),
  (35, cr_copyq s0 D kc d (ca 3) cs_obj 4 38),
  (38, cr_aload 3 39),
  (39, cr_aret mc ms)]
def t_Ar_copyOf1 (l : Launch) (s0 : State) (D : va_G) (ca : Nat → ClassId) (e0 d mc ms : Nat) : List (Nat × cr_T) := t_Ar_copyOf1_0 l s0 D ca e0 d mc ms
set_option maxHeartbeats 4000000 in
set_option maxRecDepth 20000 in
theorem s_Ar_copyOf1_0 {p : Program} {l : Launch} {e : Env} {R : Room} {s : State} {m : MethodId} {args : Array Value} {below : List Frame} {meth : Method} {c : Code} {s0 : State} {D : va_G} {ca : Nat → ClassId} {e0 d mc ms : Nat} {Q : cr_Q} (hl : l.flags = flags0) (Z : cr_Z0 s0 D ca e0) (C : cr_C p R s m meth c (cr_W0 s0) s0.heap.size y_Ar_copyOf1 c_Ar_copyOf1 4 (Option.some (FieldType.array (FieldType.object "java/lang/Object"))) d mc ms) (hem : c.exceptionTable.toList = []) : ∀ x ∈ t_Ar_copyOf1_0 l s0 D ca e0 d mc ms, cr_Snd p l e R s m args below meth c s0.heap.size mc ms Q x.1 x.2 := by
  obtain ⟨hx, hb, hml, hown, hr, hlk, hnm, hU, hlo, hR⟩ := C
  have hK := cr_Z0K Z hU
  have hRc : R.cells = mc := by rw [hR]; rfl
  have hRs : R.slots = ms := by rw [hR]; rfl
  unfold t_Ar_copyOf1_0
  refine cr_cons (cr_aload_n_ok hx hb d_Ar_copyOf1_0 rfl rfl) ?_
  refine cr_cons (cr_ldcM_ok hx hb hown Z hU (cr_w Z w_421 rfl hU args) d_Ar_copyOf1_1 rfl) ?_
  refine cr_cons (cr_acne_ok hx hb d_Ar_copyOf1_3 (by decide) rfl) ?_
  refine cr_cons (cr_iload_n_ok hx hb d_Ar_copyOf1_6 rfl rfl) ?_
  refine cr_cons (cr_newq_ok (C := "java/lang/Object") hx hb hown (cr_w Z w_423 rfl hU args) (cr_wo Z hU args) (cr_fo hK) hlo hRc hRs d_Ar_copyOf1_7 rfl) ?_
  refine cr_cons (cr_goto_ok hx hb d_Ar_copyOf1_10 (by decide)) ?_
  refine cr_cons (cr_astore_n_ok hx hb d_Ar_copyOf1_24 rfl rfl) ?_
  refine cr_cons (cr_aload_n_ok hx hb d_Ar_copyOf1_25 rfl rfl) ?_
  refine cr_cons (cr_iconst_ok hx hb d_Ar_copyOf1_26 (by decide) rfl) ?_
  refine cr_cons (cr_aload_n_ok hx hb d_Ar_copyOf1_27 rfl rfl) ?_
  refine cr_cons (cr_iconst_ok hx hb d_Ar_copyOf1_28 (by decide) rfl) ?_
  refine cr_cons (cr_aload_n_ok hx hb d_Ar_copyOf1_29 rfl rfl) ?_
  refine cr_cons (cr_aleE_ok (t0 := 3) hx hb hK rfl Z hU d_Ar_copyOf1_30 rfl) ?_
  refine cr_cons (cr_iload_n_ok hx hb d_Ar_copyOf1_31 rfl rfl) ?_
  refine cr_cons (cr_mmin_ok hx hb hml hown hR (cr_w Z w_424 rfl hU args) (cr_w Z w_425 rfl hU args) (cr_w Z w_18 rfl hU args) (cr_w Z w_426 rfl hU args) d_Ar_copyOf1_32 rfl) ?_
  refine cr_cons (cr_copyq_ok (t0 := 3) hx hb hml hown hK Z hU hR rfl (cs_obj_ok Z hU args) (cr_w Z w_427 rfl hU args) d_Ar_copyOf1_35 rfl) ?_
  refine cr_cons (cr_aload_n_ok hx hb d_Ar_copyOf1_38 rfl rfl) ?_
  refine cr_cons (cr_aret_ok hx hb hr (Or.inr ⟨_, rfl⟩) hlk d_Ar_copyOf1_39) ?_
  exact cr_nil
theorem s_Ar_copyOf1 {p : Program} {l : Launch} {e : Env} {R : Room} {s : State} {m : MethodId} {args : Array Value} {below : List Frame} {meth : Method} {c : Code} {s0 : State} {D : va_G} {ca : Nat → ClassId} {e0 d mc ms : Nat} {Q : cr_Q} (hl : l.flags = flags0) (Z : cr_Z0 s0 D ca e0) (C : cr_C p R s m meth c (cr_W0 s0) s0.heap.size y_Ar_copyOf1 c_Ar_copyOf1 4 (Option.some (FieldType.array (FieldType.object "java/lang/Object"))) d mc ms) (hem : c.exceptionTable.toList = []) : ∀ x ∈ t_Ar_copyOf1 l s0 D ca e0 d mc ms, cr_Snd p l e R s m args below meth c s0.heap.size mc ms Q x.1 x.2 := s_Ar_copyOf1_0 hl Z C hem
theorem d_Ma_min_0 : decode c_Ma_min 0 = .ok (.iload_n 0, 1) := by decide +kernel
theorem d_Ma_min_1 : decode c_Ma_min 1 = .ok (.iload_n 1, 1) := by decide +kernel
theorem d_Ma_min_2 : decode c_Ma_min 2 = .ok (.if_icmp .gt 7, 3) := by decide +kernel
theorem d_Ma_min_5 : decode c_Ma_min 5 = .ok (.iload_n 0, 1) := by decide +kernel
theorem d_Ma_min_6 : decode c_Ma_min 6 = .ok (.goto 4, 3) := by decide +kernel
theorem d_Ma_min_9 : decode c_Ma_min 9 = .ok (.iload_n 1, 1) := by decide +kernel
theorem d_Ma_min_10 : decode c_Ma_min 10 = .ok (.ireturn, 1) := by decide +kernel
def t_Ma_min_0 (l : Launch) (s0 : State) (D : va_G) (ca : Nat → ClassId) (e0 d mc ms : Nat) : List (Nat × cr_T) := [(0, cr_iload 0 1),
  (1, cr_iload 1 2),
  (2, cr_icgt 9 5),
  (5, cr_iload 0 6),
  (6, cr_goto 10),
  (9, cr_iload 1 10),
  (10, cr_iret mc ms)]
def t_Ma_min (l : Launch) (s0 : State) (D : va_G) (ca : Nat → ClassId) (e0 d mc ms : Nat) : List (Nat × cr_T) := t_Ma_min_0 l s0 D ca e0 d mc ms
set_option maxHeartbeats 4000000 in
set_option maxRecDepth 20000 in
theorem s_Ma_min_0 {p : Program} {l : Launch} {e : Env} {R : Room} {s : State} {m : MethodId} {args : Array Value} {below : List Frame} {meth : Method} {c : Code} {s0 : State} {D : va_G} {ca : Nat → ClassId} {e0 d mc ms : Nat} {Q : cr_Q} (hl : l.flags = flags0) (Z : cr_Z0 s0 D ca e0) (C : cr_C p R s m meth c (cr_W0 s0) s0.heap.size y_Ma_min c_Ma_min 2 (Option.some FieldType.int) d mc ms) (hem : c.exceptionTable.toList = []) : ∀ x ∈ t_Ma_min_0 l s0 D ca e0 d mc ms, cr_Snd p l e R s m args below meth c s0.heap.size mc ms Q x.1 x.2 := by
  obtain ⟨hx, hb, hml, hown, hr, hlk, hnm, hU, hlo, hR⟩ := C
  have hK := cr_Z0K Z hU
  have hRc : R.cells = mc := by rw [hR]; rfl
  have hRs : R.slots = ms := by rw [hR]; rfl
  unfold t_Ma_min_0
  refine cr_cons (cr_iload_n_ok hx hb d_Ma_min_0 rfl rfl) ?_
  refine cr_cons (cr_iload_n_ok hx hb d_Ma_min_1 rfl rfl) ?_
  refine cr_cons (cr_icgt_ok hx hb d_Ma_min_2 (by decide) rfl) ?_
  refine cr_cons (cr_iload_n_ok hx hb d_Ma_min_5 rfl rfl) ?_
  refine cr_cons (cr_goto_ok hx hb d_Ma_min_6 (by decide)) ?_
  refine cr_cons (cr_iload_n_ok hx hb d_Ma_min_9 rfl rfl) ?_
  refine cr_cons (cr_iret_ok hx hb hr hlk d_Ma_min_10) ?_
  exact cr_nil
theorem s_Ma_min {p : Program} {l : Launch} {e : Env} {R : Room} {s : State} {m : MethodId} {args : Array Value} {below : List Frame} {meth : Method} {c : Code} {s0 : State} {D : va_G} {ca : Nat → ClassId} {e0 d mc ms : Nat} {Q : cr_Q} (hl : l.flags = flags0) (Z : cr_Z0 s0 D ca e0) (C : cr_C p R s m meth c (cr_W0 s0) s0.heap.size y_Ma_min c_Ma_min 2 (Option.some FieldType.int) d mc ms) (hem : c.exceptionTable.toList = []) : ∀ x ∈ t_Ma_min l s0 D ca e0 d mc ms, cr_Snd p l e R s m args below meth c s0.heap.size mc ms Q x.1 x.2 := s_Ma_min_0 hl Z C hem
theorem d_AL_isEmpty_0 : decode c_AL_isEmpty 0 = .ok (.aload_n 0, 1) := by decide +kernel
theorem d_AL_isEmpty_1 : decode c_AL_isEmpty 1 = .ok (.getfield 48, 3) := by decide +kernel
theorem d_AL_isEmpty_4 : decode c_AL_isEmpty 4 = .ok (.ifCond .ne 7, 3) := by decide +kernel
theorem d_AL_isEmpty_7 : decode c_AL_isEmpty 7 = .ok (.iconst 1, 1) := by decide +kernel
theorem d_AL_isEmpty_8 : decode c_AL_isEmpty 8 = .ok (.goto 4, 3) := by decide +kernel
theorem d_AL_isEmpty_11 : decode c_AL_isEmpty 11 = .ok (.iconst 0, 1) := by decide +kernel
theorem d_AL_isEmpty_12 : decode c_AL_isEmpty 12 = .ok (.ireturn, 1) := by decide +kernel
def t_AL_isEmpty_0 (l : Launch) (s0 : State) (D : va_G) (ca : Nat → ClassId) (e0 d mc ms : Nat) : List (Nat × cr_T) := [(0, cr_aload 0 1),
  (1, cr_getf D kc 12 1 4),
  (4, cr_ifne 11 7),
  (7, cr_push (.int 1) 8),
  (8, cr_goto 12),
  (11, cr_push (.int 0) 12),
  (12, cr_zret mc ms .boolean)]
def t_AL_isEmpty (l : Launch) (s0 : State) (D : va_G) (ca : Nat → ClassId) (e0 d mc ms : Nat) : List (Nat × cr_T) := t_AL_isEmpty_0 l s0 D ca e0 d mc ms
set_option maxHeartbeats 4000000 in
set_option maxRecDepth 20000 in
theorem s_AL_isEmpty_0 {p : Program} {l : Launch} {e : Env} {R : Room} {s : State} {m : MethodId} {args : Array Value} {below : List Frame} {meth : Method} {c : Code} {s0 : State} {D : va_G} {ca : Nat → ClassId} {e0 d mc ms : Nat} {Q : cr_Q} (hl : l.flags = flags0) (Z : cr_Z0 s0 D ca e0) (C : cr_C p R s m meth c (cr_W0 s0) s0.heap.size y_AL_isEmpty c_AL_isEmpty 1 (Option.some FieldType.boolean) d mc ms) (hem : c.exceptionTable.toList = []) : ∀ x ∈ t_AL_isEmpty_0 l s0 D ca e0 d mc ms, cr_Snd p l e R s m args below meth c s0.heap.size mc ms Q x.1 x.2 := by
  obtain ⟨hx, hb, hml, hown, hr, hlk, hnm, hU, hlo, hR⟩ := C
  have hK := cr_Z0K Z hU
  have hRc : R.cells = mc := by rw [hR]; rfl
  have hRs : R.slots = ms := by rw [hR]; rfl
  unfold t_AL_isEmpty_0
  refine cr_cons (cr_aload_n_ok hx hb d_AL_isEmpty_0 rfl rfl) ?_
  refine cr_cons (cr_getf_ok (C := R_AL) (T := T_AL) (N := 3) hx hb (k_AL Z hU args) (fun _ h => h) hown hK rfl (by decide) (cr_w Z w_50 rfl hU args) (fun _ h => h) d_AL_isEmpty_1 rfl) ?_
  refine cr_cons (cr_ifne_ok hx hb d_AL_isEmpty_4 (by decide) rfl) ?_
  refine cr_cons (cr_iconst_ok hx hb d_AL_isEmpty_7 (by decide) rfl) ?_
  refine cr_cons (cr_goto_ok hx hb d_AL_isEmpty_8 (by decide)) ?_
  refine cr_cons (cr_iconst_ok hx hb d_AL_isEmpty_11 (by decide) rfl) ?_
  refine cr_cons (cr_zret_ok hx hb hr hlk d_AL_isEmpty_12) ?_
  exact cr_nil
theorem s_AL_isEmpty {p : Program} {l : Launch} {e : Env} {R : Room} {s : State} {m : MethodId} {args : Array Value} {below : List Frame} {meth : Method} {c : Code} {s0 : State} {D : va_G} {ca : Nat → ClassId} {e0 d mc ms : Nat} {Q : cr_Q} (hl : l.flags = flags0) (Z : cr_Z0 s0 D ca e0) (C : cr_C p R s m meth c (cr_W0 s0) s0.heap.size y_AL_isEmpty c_AL_isEmpty 1 (Option.some FieldType.boolean) d mc ms) (hem : c.exceptionTable.toList = []) : ∀ x ∈ t_AL_isEmpty l s0 D ca e0 d mc ms, cr_Snd p l e R s m args below meth c s0.heap.size mc ms Q x.1 x.2 := s_AL_isEmpty_0 hl Z C hem
