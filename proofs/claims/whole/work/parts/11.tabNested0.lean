theorem d_Kn_init_0 : decode c_Kn_init 0 = .ok (.aload_n 0, 1) := by decide +kernel
theorem d_Kn_init_1 : decode c_Kn_init 1 = .ok (.invokespecial 3, 3) := by decide +kernel
theorem d_Kn_init_4 : decode c_Kn_init 4 = .ok (.aload_n 0, 1) := by decide +kernel
theorem d_Kn_init_5 : decode c_Kn_init 5 = .ok (.iconst 0, 1) := by decide +kernel
theorem d_Kn_init_6 : decode c_Kn_init 6 = .ok (.putfield 9, 3) := by decide +kernel
theorem d_Kn_init_9 : decode c_Kn_init 9 = .ok (.aload_n 0, 1) := by decide +kernel
theorem d_Kn_init_10 : decode c_Kn_init 10 = .ok (.iconst 0, 1) := by decide +kernel
theorem d_Kn_init_11 : decode c_Kn_init 11 = .ok (.putfield 15, 3) := by decide +kernel
theorem d_Kn_init_14 : decode c_Kn_init 14 = .ok (.aload_n 0, 1) := by decide +kernel
theorem d_Kn_init_15 : decode c_Kn_init 15 = .ok (.bipush 60, 2) := by decide +kernel
theorem d_Kn_init_17 : decode c_Kn_init 17 = .ok (.newarray .int, 2) := by decide +kernel
theorem d_Kn_init_19 : decode c_Kn_init 19 = .ok (.putfield 18, 3) := by decide +kernel
theorem d_Kn_init_22 : decode c_Kn_init 22 = .ok (.aload_n 0, 1) := by decide +kernel
theorem d_Kn_init_23 : decode c_Kn_init 23 = .ok (.bipush 16, 2) := by decide +kernel
theorem d_Kn_init_25 : decode c_Kn_init 25 = .ok (.newarray .int, 2) := by decide +kernel
theorem d_Kn_init_27 : decode c_Kn_init 27 = .ok (.putfield 22, 3) := by decide +kernel
theorem d_Kn_init_30 : decode c_Kn_init 30 = .ok (.aload_n 0, 1) := by decide +kernel
theorem d_Kn_init_31 : decode c_Kn_init 31 = .ok (.getfield 18, 3) := by decide +kernel
theorem d_Kn_init_34 : decode c_Kn_init 34 = .ok (.iconst (-1), 1) := by decide +kernel
theorem d_Kn_init_35 : decode c_Kn_init 35 = .ok (.invokestatic 25, 3) := by decide +kernel
theorem d_Kn_init_38 : decode c_Kn_init 38 = .ok (.aload_n 0, 1) := by decide +kernel
theorem d_Kn_init_39 : decode c_Kn_init 39 = .ok (.getfield 22, 3) := by decide +kernel
theorem d_Kn_init_42 : decode c_Kn_init 42 = .ok (.iconst (-1), 1) := by decide +kernel
theorem d_Kn_init_43 : decode c_Kn_init 43 = .ok (.invokestatic 25, 3) := by decide +kernel
theorem d_Kn_init_46 : decode c_Kn_init 46 = .ok (.return_, 1) := by decide +kernel
def t_Kn_init_0 (l : Launch) (s0 : State) (D : va_G) (ca : Nat → ClassId) (e0 d mc ms : Nat) : List (Nat × cr_T) := [(0, cr_aload 0 1),
  (1, cr_oinit d 1 4),
  (4, cr_aload 0 5),
  (5, cr_push (.int 0) 6),
  (6, cr_putf D kc s0.heap.size 4 0 .int 9),
  (9, cr_aload 0 10),
  (10, cr_push (.int 0) 11),
  (11, cr_putf D kc s0.heap.size 4 1 .int 14),
  (14, cr_aload 0 15),
  (15, cr_push (.int 60) 17),
  (17, cr_newa D kc s0.heap.size mc ms (ca 0) 4 19 (fun N => (N, .inl (fun _ => 0)))),
  (19, cr_putf D kc s0.heap.size 4 2 (.array .int) 22),
  (22, cr_aload 0 23),
  (23, cr_push (.int 16) 25),
  (25, cr_newa D kc s0.heap.size mc ms (ca 0) 4 27 (fun N => (N, .inl (fun _ => 0)))),
  (27, cr_putf D kc s0.heap.size 4 3 (.array .int) 30),
  (30, cr_aload 0 31),
  (31, cr_getf D kc 4 2 34),
  (34, cr_push (.int (-1)) 35),
  (35, cr_calS l (cr_W0 s0) s0.heap.size y_Ar_fill cw_Ar_fill d mc ms 2 1 38),
  (38, cr_aload 0 39),
  (39, cr_getf D kc 4 3 42),
  (42, cr_push (.int (-1)) 43),
  (43, cr_calS l (cr_W0 s0) s0.heap.size y_Ar_fill cw_Ar_fill d mc ms 2 1 46),
  (46, cr_vret mc ms)]
def t_Kn_init (l : Launch) (s0 : State) (D : va_G) (ca : Nat → ClassId) (e0 d mc ms : Nat) : List (Nat × cr_T) := t_Kn_init_0 l s0 D ca e0 d mc ms
set_option maxHeartbeats 4000000 in
set_option maxRecDepth 20000 in
theorem s_Kn_init_0 {p : Program} {l : Launch} {e : Env} {R : Room} {s : State} {m : MethodId} {args : Array Value} {below : List Frame} {meth : Method} {c : Code} {s0 : State} {D : va_G} {ca : Nat → ClassId} {e0 d mc ms : Nat} {Q : cr_Q} (hl : l.flags = flags0) (Z : cr_Z0 s0 D ca e0) (C : cr_C p R s m meth c (cr_W0 s0) s0.heap.size y_Kn_init c_Kn_init 1 (Option.none : Option FieldType) d mc ms) (hem : c.exceptionTable.toList = []) : ∀ x ∈ t_Kn_init_0 l s0 D ca e0 d mc ms, cr_Snd p l e R s m args below meth c s0.heap.size mc ms Q x.1 x.2 := by
  obtain ⟨hx, hb, hml, hown, hr, hlk, hnm, hU, hlo, hR⟩ := C
  have hK := cr_Z0K Z hU
  have hRc : R.cells = mc := by rw [hR]; rfl
  have hRs : R.slots = ms := by rw [hR]; rfl
  unfold t_Kn_init_0
  refine cr_cons (cr_aload_n_ok hx hb d_Kn_init_0 rfl rfl) ?_
  refine cr_cons (cr_oinit_ok hx hb hml hown hR (cr_w Z w_66 rfl hU args) (cr_w Z w_33 rfl hU args) (cr_w Z w_34 rfl hU args) d_Kn_init_1 rfl) ?_
  refine cr_cons (cr_aload_n_ok hx hb d_Kn_init_4 rfl rfl) ?_
  refine cr_cons (cr_iconst_ok hx hb d_Kn_init_5 (by decide) rfl) ?_
  refine cr_cons (cr_putf_ok (C := R_Kn) (T := T_Kn) (N := 4) tt_Kn hx hb (k_Kn Z hU args) (fun _ h => h) ty_Kn nm_Kn hown hK rfl (by decide) (Or.inl (cr_w Z w_70 rfl hU args)) (fun _ h => h) rfl (by decide +kernel) d_Kn_init_6 rfl) ?_
  refine cr_cons (cr_aload_n_ok hx hb d_Kn_init_9 rfl rfl) ?_
  refine cr_cons (cr_iconst_ok hx hb d_Kn_init_10 (by decide) rfl) ?_
  refine cr_cons (cr_putf_ok (C := R_Kn) (T := T_Kn) (N := 4) tt_Kn hx hb (k_Kn Z hU args) (fun _ h => h) ty_Kn nm_Kn hown hK rfl (by decide) (Or.inl (cr_w Z w_72 rfl hU args)) (fun _ h => h) rfl (by decide +kernel) d_Kn_init_11 rfl) ?_
  refine cr_cons (cr_aload_n_ok hx hb d_Kn_init_14 rfl rfl) ?_
  refine cr_cons (cr_bipush_ok hx hb d_Kn_init_15 (by decide) rfl) ?_
  refine cr_cons (cr_newa_ok (t0 := 0) (atype := .int) (ty := .int) hx hb (cr_wa (ty := .int) Z w_87 hU args) rfl rfl rfl (fun _ => rfl) (hK.2 0 _ rfl).2 hlo hRc hRs d_Kn_init_17 rfl) ?_
  refine cr_cons (cr_putF_ok (C := R_Kn) (T := T_Kn) (N := 4) tt_Kn hx hb (k_Kn Z hU args) (fun _ h => h) ty_Kn nm_Kn hown hK rfl (by decide) (cr_w Z w_74 rfl hU args) (fun _ h => h) rfl hnm rfl (by decide +kernel) d_Kn_init_19 rfl) ?_
  refine cr_cons (cr_aload_n_ok hx hb d_Kn_init_22 rfl rfl) ?_
  refine cr_cons (cr_bipush_ok hx hb d_Kn_init_23 (by decide) rfl) ?_
  refine cr_cons (cr_newa_ok (t0 := 0) (atype := .int) (ty := .int) hx hb (cr_wa (ty := .int) Z w_87 hU args) rfl rfl rfl (fun _ => rfl) (hK.2 0 _ rfl).2 hlo hRc hRs d_Kn_init_25 rfl) ?_
  refine cr_cons (cr_putF_ok (C := R_Kn) (T := T_Kn) (N := 4) tt_Kn hx hb (k_Kn Z hU args) (fun _ h => h) ty_Kn nm_Kn hown hK rfl (by decide) (cr_w Z w_76 rfl hU args) (fun _ h => h) rfl hnm rfl (by decide +kernel) d_Kn_init_27 rfl) ?_
  refine cr_cons (cr_aload_n_ok hx hb d_Kn_init_30 rfl rfl) ?_
  refine cr_cons (cr_getf_ok (C := R_Kn) (T := T_Kn) (N := 4) hx hb (k_Kn Z hU args) (fun _ h => h) hown hK rfl (by decide) (cr_w Z w_74 rfl hU args) (fun _ h => h) d_Kn_init_31 rfl) ?_
  refine cr_cons (cr_iconst_ok hx hb d_Kn_init_34 (by decide) rfl) ?_
  refine cr_cons (cr_calS_ok hx hb hml hown hlk hU hlo hR (cr_W0_st s0) (by rw [hem]; exact fun _ h => absurd h List.not_mem_nil) (u_Ar_fill Z) (Or.inl (cr_w Z w_67 rfl hU args)) (cr_w Z w_68 rfl hU args) (by decide) (by decide +kernel) (by decide) d_Kn_init_35 rfl) ?_
  refine cr_cons (cr_aload_n_ok hx hb d_Kn_init_38 rfl rfl) ?_
  refine cr_cons (cr_getf_ok (C := R_Kn) (T := T_Kn) (N := 4) hx hb (k_Kn Z hU args) (fun _ h => h) hown hK rfl (by decide) (cr_w Z w_76 rfl hU args) (fun _ h => h) d_Kn_init_39 rfl) ?_
  refine cr_cons (cr_iconst_ok hx hb d_Kn_init_42 (by decide) rfl) ?_
  refine cr_cons (cr_calS_ok hx hb hml hown hlk hU hlo hR (cr_W0_st s0) (by rw [hem]; exact fun _ h => absurd h List.not_mem_nil) (u_Ar_fill Z) (Or.inl (cr_w Z w_67 rfl hU args)) (cr_w Z w_68 rfl hU args) (by decide) (by decide +kernel) (by decide) d_Kn_init_43 rfl) ?_
  refine cr_cons (cr_vret_ok hx hb hr hlk d_Kn_init_46) ?_
  exact cr_nil
theorem s_Kn_init {p : Program} {l : Launch} {e : Env} {R : Room} {s : State} {m : MethodId} {args : Array Value} {below : List Frame} {meth : Method} {c : Code} {s0 : State} {D : va_G} {ca : Nat → ClassId} {e0 d mc ms : Nat} {Q : cr_Q} (hl : l.flags = flags0) (Z : cr_Z0 s0 D ca e0) (C : cr_C p R s m meth c (cr_W0 s0) s0.heap.size y_Kn_init c_Kn_init 1 (Option.none : Option FieldType) d mc ms) (hem : c.exceptionTable.toList = []) : ∀ x ∈ t_Kn_init l s0 D ca e0 d mc ms, cr_Snd p l e R s m args below meth c s0.heap.size mc ms Q x.1 x.2 := s_Kn_init_0 hl Z C hem
theorem d_Fi_init_0 : decode c_Fi_init 0 = .ok (.aload_n 0, 1) := by decide +kernel
theorem d_Fi_init_1 : decode c_Fi_init 1 = .ok (.invokespecial 3, 3) := by decide +kernel
theorem d_Fi_init_4 : decode c_Fi_init 4 = .ok (.aload_n 0, 1) := by decide +kernel
theorem d_Fi_init_5 : decode c_Fi_init 5 = .ok (.sipush 400, 3) := by decide +kernel
theorem d_Fi_init_8 : decode c_Fi_init 8 = .ok (.newarray .int, 2) := by decide +kernel
theorem d_Fi_init_10 : decode c_Fi_init 10 = .ok (.putfield 11, 3) := by decide +kernel
theorem d_Fi_init_13 : decode c_Fi_init 13 = .ok (.aload_n 0, 1) := by decide +kernel
theorem d_Fi_init_14 : decode c_Fi_init 14 = .ok (.iconst 0, 1) := by decide +kernel
theorem d_Fi_init_15 : decode c_Fi_init 15 = .ok (.putfield 15, 3) := by decide +kernel
theorem d_Fi_init_18 : decode c_Fi_init 18 = .ok (.aload_n 0, 1) := by decide +kernel
theorem d_Fi_init_19 : decode c_Fi_init 19 = .ok (.iconst 0, 1) := by decide +kernel
theorem d_Fi_init_20 : decode c_Fi_init 20 = .ok (.putfield 19, 3) := by decide +kernel
theorem d_Fi_init_23 : decode c_Fi_init 23 = .ok (.return_, 1) := by decide +kernel
def t_Fi_init_0 (l : Launch) (s0 : State) (D : va_G) (ca : Nat → ClassId) (e0 d mc ms : Nat) : List (Nat × cr_T) := [(0, cr_aload 0 1),
  (1, cr_oinit d 1 4),
  (4, cr_aload 0 5),
  (5, cr_push (.int 400) 8),
  (8, cr_newa D kc s0.heap.size mc ms (ca 0) 4 10 (fun N => (N, .inl (fun _ => 0)))),
  (10, cr_putf D kc s0.heap.size 3 0 (.array .int) 13),
  (13, cr_aload 0 14),
  (14, cr_push (.int 0) 15),
  (15, cr_putf D kc s0.heap.size 3 1 .int 18),
  (18, cr_aload 0 19),
  (19, cr_push (.int 0) 20),
  (20, cr_putf D kc s0.heap.size 3 2 .int 23),
  (23, cr_vret mc ms)]
def t_Fi_init (l : Launch) (s0 : State) (D : va_G) (ca : Nat → ClassId) (e0 d mc ms : Nat) : List (Nat × cr_T) := t_Fi_init_0 l s0 D ca e0 d mc ms
set_option maxHeartbeats 4000000 in
set_option maxRecDepth 20000 in
theorem s_Fi_init_0 {p : Program} {l : Launch} {e : Env} {R : Room} {s : State} {m : MethodId} {args : Array Value} {below : List Frame} {meth : Method} {c : Code} {s0 : State} {D : va_G} {ca : Nat → ClassId} {e0 d mc ms : Nat} {Q : cr_Q} (hl : l.flags = flags0) (Z : cr_Z0 s0 D ca e0) (C : cr_C p R s m meth c (cr_W0 s0) s0.heap.size y_Fi_init c_Fi_init 1 (Option.none : Option FieldType) d mc ms) (hem : c.exceptionTable.toList = []) : ∀ x ∈ t_Fi_init_0 l s0 D ca e0 d mc ms, cr_Snd p l e R s m args below meth c s0.heap.size mc ms Q x.1 x.2 := by
  obtain ⟨hx, hb, hml, hown, hr, hlk, hnm, hU, hlo, hR⟩ := C
  have hK := cr_Z0K Z hU
  have hRc : R.cells = mc := by rw [hR]; rfl
  have hRs : R.slots = ms := by rw [hR]; rfl
  unfold t_Fi_init_0
  refine cr_cons (cr_aload_n_ok hx hb d_Fi_init_0 rfl rfl) ?_
  refine cr_cons (cr_oinit_ok hx hb hml hown hR (cr_w Z w_93 rfl hU args) (cr_w Z w_33 rfl hU args) (cr_w Z w_34 rfl hU args) d_Fi_init_1 rfl) ?_
  refine cr_cons (cr_aload_n_ok hx hb d_Fi_init_4 rfl rfl) ?_
  refine cr_cons (cr_sipush_ok hx hb d_Fi_init_5 (by decide) rfl) ?_
  refine cr_cons (cr_newa_ok (t0 := 0) (atype := .int) (ty := .int) hx hb (cr_wa (ty := .int) Z w_87 hU args) rfl rfl rfl (fun _ => rfl) (hK.2 0 _ rfl).2 hlo hRc hRs d_Fi_init_8 rfl) ?_
  refine cr_cons (cr_putF_ok (C := R_Fi) (T := T_Fi) (N := 3) tt_Fi hx hb (k_Fi Z hU args) (fun _ h => h) ty_Fi nm_Fi hown hK rfl (by decide) (cr_w Z w_94 rfl hU args) (fun _ h => h) rfl hnm rfl (by decide +kernel) d_Fi_init_10 rfl) ?_
  refine cr_cons (cr_aload_n_ok hx hb d_Fi_init_13 rfl rfl) ?_
  refine cr_cons (cr_iconst_ok hx hb d_Fi_init_14 (by decide) rfl) ?_
  refine cr_cons (cr_putf_ok (C := R_Fi) (T := T_Fi) (N := 3) tt_Fi hx hb (k_Fi Z hU args) (fun _ h => h) ty_Fi nm_Fi hown hK rfl (by decide) (Or.inl (cr_w Z w_96 rfl hU args)) (fun _ h => h) rfl (by decide +kernel) d_Fi_init_15 rfl) ?_
  refine cr_cons (cr_aload_n_ok hx hb d_Fi_init_18 rfl rfl) ?_
  refine cr_cons (cr_iconst_ok hx hb d_Fi_init_19 (by decide) rfl) ?_
  refine cr_cons (cr_putf_ok (C := R_Fi) (T := T_Fi) (N := 3) tt_Fi hx hb (k_Fi Z hU args) (fun _ h => h) ty_Fi nm_Fi hown hK rfl (by decide) (Or.inl (cr_w Z w_98 rfl hU args)) (fun _ h => h) rfl (by decide +kernel) d_Fi_init_20 rfl) ?_
  refine cr_cons (cr_vret_ok hx hb hr hlk d_Fi_init_23) ?_
  exact cr_nil
theorem s_Fi_init {p : Program} {l : Launch} {e : Env} {R : Room} {s : State} {m : MethodId} {args : Array Value} {below : List Frame} {meth : Method} {c : Code} {s0 : State} {D : va_G} {ca : Nat → ClassId} {e0 d mc ms : Nat} {Q : cr_Q} (hl : l.flags = flags0) (Z : cr_Z0 s0 D ca e0) (C : cr_C p R s m meth c (cr_W0 s0) s0.heap.size y_Fi_init c_Fi_init 1 (Option.none : Option FieldType) d mc ms) (hem : c.exceptionTable.toList = []) : ∀ x ∈ t_Fi_init l s0 D ca e0 d mc ms, cr_Snd p l e R s m args below meth c s0.heap.size mc ms Q x.1 x.2 := s_Fi_init_0 hl Z C hem
theorem d_Us_init_0 : decode c_Us_init 0 = .ok (.aload_n 0, 1) := by decide +kernel
theorem d_Us_init_1 : decode c_Us_init 1 = .ok (.invokespecial 3, 3) := by decide +kernel
theorem d_Us_init_4 : decode c_Us_init 4 = .ok (.aload_n 0, 1) := by decide +kernel
theorem d_Us_init_5 : decode c_Us_init 5 = .ok (.sipush 2250, 3) := by decide +kernel
theorem d_Us_init_8 : decode c_Us_init 8 = .ok (.newarray .long, 2) := by decide +kernel
theorem d_Us_init_10 : decode c_Us_init 10 = .ok (.putfield 11, 3) := by decide +kernel
theorem d_Us_init_13 : decode c_Us_init 13 = .ok (.aload_n 0, 1) := by decide +kernel
theorem d_Us_init_14 : decode c_Us_init 14 = .ok (.iconst 0, 1) := by decide +kernel
theorem d_Us_init_15 : decode c_Us_init 15 = .ok (.putfield 15, 3) := by decide +kernel
theorem d_Us_init_18 : decode c_Us_init 18 = .ok (.return_, 1) := by decide +kernel
def t_Us_init_0 (l : Launch) (s0 : State) (D : va_G) (ca : Nat → ClassId) (e0 d mc ms : Nat) : List (Nat × cr_T) := [(0, cr_aload 0 1),
  (1, cr_oinit d 1 4),
  (4, cr_aload 0 5),
  (5, cr_push (.int 2250) 8),
  (8, cr_newa D kc s0.heap.size mc ms (ca 1) 8 10 (fun N => (N, .inr (.inl (fun _ => 0))))),
  (10, cr_putf D kc s0.heap.size 10 0 (.array .long) 13),
  (13, cr_aload 0 14),
  (14, cr_push (.int 0) 15),
  (15, cr_putf D kc s0.heap.size 10 1 .int 18),
  (18, cr_vret mc ms)]
def t_Us_init (l : Launch) (s0 : State) (D : va_G) (ca : Nat → ClassId) (e0 d mc ms : Nat) : List (Nat × cr_T) := t_Us_init_0 l s0 D ca e0 d mc ms
set_option maxHeartbeats 4000000 in
set_option maxRecDepth 20000 in
theorem s_Us_init_0 {p : Program} {l : Launch} {e : Env} {R : Room} {s : State} {m : MethodId} {args : Array Value} {below : List Frame} {meth : Method} {c : Code} {s0 : State} {D : va_G} {ca : Nat → ClassId} {e0 d mc ms : Nat} {Q : cr_Q} (hl : l.flags = flags0) (Z : cr_Z0 s0 D ca e0) (C : cr_C p R s m meth c (cr_W0 s0) s0.heap.size y_Us_init c_Us_init 1 (Option.none : Option FieldType) d mc ms) (hem : c.exceptionTable.toList = []) : ∀ x ∈ t_Us_init_0 l s0 D ca e0 d mc ms, cr_Snd p l e R s m args below meth c s0.heap.size mc ms Q x.1 x.2 := by
  obtain ⟨hx, hb, hml, hown, hr, hlk, hnm, hU, hlo, hR⟩ := C
  have hK := cr_Z0K Z hU
  have hRc : R.cells = mc := by rw [hR]; rfl
  have hRs : R.slots = ms := by rw [hR]; rfl
  unfold t_Us_init_0
  refine cr_cons (cr_aload_n_ok hx hb d_Us_init_0 rfl rfl) ?_
  refine cr_cons (cr_oinit_ok hx hb hml hown hR (cr_w Z w_112 rfl hU args) (cr_w Z w_33 rfl hU args) (cr_w Z w_34 rfl hU args) d_Us_init_1 rfl) ?_
  refine cr_cons (cr_aload_n_ok hx hb d_Us_init_4 rfl rfl) ?_
  refine cr_cons (cr_sipush_ok hx hb d_Us_init_5 (by decide) rfl) ?_
  refine cr_cons (cr_newa_ok (t0 := 0) (atype := .long) (ty := .long) hx hb (cr_wa (ty := .long) Z w_122 hU args) rfl rfl rfl (fun _ => rfl) (hK.2 1 _ rfl).2 hlo hRc hRs d_Us_init_8 rfl) ?_
  refine cr_cons (cr_putF_ok (C := R_Us) (T := T_Us) (N := 2) tt_Us hx hb (k_Us Z hU args) (fun _ h => h) ty_Us nm_Us hown hK rfl (by decide) (cr_w Z w_113 rfl hU args) (fun _ h => h) rfl hnm rfl (by decide +kernel) d_Us_init_10 rfl) ?_
  refine cr_cons (cr_aload_n_ok hx hb d_Us_init_13 rfl rfl) ?_
  refine cr_cons (cr_iconst_ok hx hb d_Us_init_14 (by decide) rfl) ?_
  refine cr_cons (cr_putf_ok (C := R_Us) (T := T_Us) (N := 2) tt_Us hx hb (k_Us Z hU args) (fun _ h => h) ty_Us nm_Us hown hK rfl (by decide) (Or.inl (cr_w Z w_115 rfl hU args)) (fun _ h => h) rfl (by decide +kernel) d_Us_init_15 rfl) ?_
  refine cr_cons (cr_vret_ok hx hb hr hlk d_Us_init_18) ?_
  exact cr_nil
theorem s_Us_init {p : Program} {l : Launch} {e : Env} {R : Room} {s : State} {m : MethodId} {args : Array Value} {below : List Frame} {meth : Method} {c : Code} {s0 : State} {D : va_G} {ca : Nat → ClassId} {e0 d mc ms : Nat} {Q : cr_Q} (hl : l.flags = flags0) (Z : cr_Z0 s0 D ca e0) (C : cr_C p R s m meth c (cr_W0 s0) s0.heap.size y_Us_init c_Us_init 1 (Option.none : Option FieldType) d mc ms) (hem : c.exceptionTable.toList = []) : ∀ x ∈ t_Us_init l s0 D ca e0 d mc ms, cr_Snd p l e R s m args below meth c s0.heap.size mc ms Q x.1 x.2 := s_Us_init_0 hl Z C hem
theorem d_Ne_init_0 : decode c_Ne_init 0 = .ok (.aload_n 0, 1) := by decide +kernel
theorem d_Ne_init_1 : decode c_Ne_init 1 = .ok (.invokespecial 3, 3) := by decide +kernel
theorem d_Ne_init_4 : decode c_Ne_init 4 = .ok (.aload_n 0, 1) := by decide +kernel
theorem d_Ne_init_5 : decode c_Ne_init 5 = .ok (.bipush 32, 2) := by decide +kernel
theorem d_Ne_init_7 : decode c_Ne_init 7 = .ok (.newarray .int, 2) := by decide +kernel
theorem d_Ne_init_9 : decode c_Ne_init 9 = .ok (.putfield 9, 3) := by decide +kernel
theorem d_Ne_init_12 : decode c_Ne_init 12 = .ok (.aload_n 0, 1) := by decide +kernel
theorem d_Ne_init_13 : decode c_Ne_init 13 = .ok (.iconst 0, 1) := by decide +kernel
theorem d_Ne_init_14 : decode c_Ne_init 14 = .ok (.putfield 15, 3) := by decide +kernel
theorem d_Ne_init_17 : decode c_Ne_init 17 = .ok (.return_, 1) := by decide +kernel
def t_Ne_init_0 (l : Launch) (s0 : State) (D : va_G) (ca : Nat → ClassId) (e0 d mc ms : Nat) : List (Nat × cr_T) := [(0, cr_aload 0 1),
  (1, cr_oinit d 1 4),
  (4, cr_aload 0 5),
  (5, cr_push (.int 32) 7),
  (7, cr_newa D kc s0.heap.size mc ms (ca 0) 4 9 (fun N => (N, .inl (fun _ => 0)))),
  (9, cr_putf D kc s0.heap.size 5 0 (.array .int) 12),
  (12, cr_aload 0 13),
  (13, cr_push (.int 0) 14),
  (14, cr_putf D kc s0.heap.size 5 1 .int 17),
  (17, cr_vret mc ms)]
def t_Ne_init (l : Launch) (s0 : State) (D : va_G) (ca : Nat → ClassId) (e0 d mc ms : Nat) : List (Nat × cr_T) := t_Ne_init_0 l s0 D ca e0 d mc ms
set_option maxHeartbeats 4000000 in
set_option maxRecDepth 20000 in
theorem s_Ne_init_0 {p : Program} {l : Launch} {e : Env} {R : Room} {s : State} {m : MethodId} {args : Array Value} {below : List Frame} {meth : Method} {c : Code} {s0 : State} {D : va_G} {ca : Nat → ClassId} {e0 d mc ms : Nat} {Q : cr_Q} (hl : l.flags = flags0) (Z : cr_Z0 s0 D ca e0) (C : cr_C p R s m meth c (cr_W0 s0) s0.heap.size y_Ne_init c_Ne_init 1 (Option.none : Option FieldType) d mc ms) (hem : c.exceptionTable.toList = []) : ∀ x ∈ t_Ne_init_0 l s0 D ca e0 d mc ms, cr_Snd p l e R s m args below meth c s0.heap.size mc ms Q x.1 x.2 := by
  obtain ⟨hx, hb, hml, hown, hr, hlk, hnm, hU, hlo, hR⟩ := C
  have hK := cr_Z0K Z hU
  have hRc : R.cells = mc := by rw [hR]; rfl
  have hRs : R.slots = ms := by rw [hR]; rfl
  unfold t_Ne_init_0
  refine cr_cons (cr_aload_n_ok hx hb d_Ne_init_0 rfl rfl) ?_
  refine cr_cons (cr_oinit_ok hx hb hml hown hR (cr_w Z w_128 rfl hU args) (cr_w Z w_33 rfl hU args) (cr_w Z w_34 rfl hU args) d_Ne_init_1 rfl) ?_
  refine cr_cons (cr_aload_n_ok hx hb d_Ne_init_4 rfl rfl) ?_
  refine cr_cons (cr_bipush_ok hx hb d_Ne_init_5 (by decide) rfl) ?_
  refine cr_cons (cr_newa_ok (t0 := 0) (atype := .int) (ty := .int) hx hb (cr_wa (ty := .int) Z w_87 hU args) rfl rfl rfl (fun _ => rfl) (hK.2 0 _ rfl).2 hlo hRc hRs d_Ne_init_7 rfl) ?_
  refine cr_cons (cr_putF_ok (C := R_Ne) (T := T_Ne) (N := 2) tt_Ne hx hb (k_Ne Z hU args) (fun _ h => h) ty_Ne nm_Ne hown hK rfl (by decide) (cr_w Z w_129 rfl hU args) (fun _ h => h) rfl hnm rfl (by decide +kernel) d_Ne_init_9 rfl) ?_
  refine cr_cons (cr_aload_n_ok hx hb d_Ne_init_12 rfl rfl) ?_
  refine cr_cons (cr_iconst_ok hx hb d_Ne_init_13 (by decide) rfl) ?_
  refine cr_cons (cr_putf_ok (C := R_Ne) (T := T_Ne) (N := 2) tt_Ne hx hb (k_Ne Z hU args) (fun _ h => h) ty_Ne nm_Ne hown hK rfl (by decide) (Or.inl (cr_w Z w_130 rfl hU args)) (fun _ h => h) rfl (by decide +kernel) d_Ne_init_14 rfl) ?_
  refine cr_cons (cr_vret_ok hx hb hr hlk d_Ne_init_17) ?_
  exact cr_nil
theorem s_Ne_init {p : Program} {l : Launch} {e : Env} {R : Room} {s : State} {m : MethodId} {args : Array Value} {below : List Frame} {meth : Method} {c : Code} {s0 : State} {D : va_G} {ca : Nat → ClassId} {e0 d mc ms : Nat} {Q : cr_Q} (hl : l.flags = flags0) (Z : cr_Z0 s0 D ca e0) (C : cr_C p R s m meth c (cr_W0 s0) s0.heap.size y_Ne_init c_Ne_init 1 (Option.none : Option FieldType) d mc ms) (hem : c.exceptionTable.toList = []) : ∀ x ∈ t_Ne_init l s0 D ca e0 d mc ms, cr_Snd p l e R s m args below meth c s0.heap.size mc ms Q x.1 x.2 := s_Ne_init_0 hl Z C hem
theorem d_Ne_clear_0 : decode c_Ne_clear 0 = .ok (.aload_n 0, 1) := by decide +kernel
theorem d_Ne_clear_1 : decode c_Ne_clear 1 = .ok (.iconst 0, 1) := by decide +kernel
theorem d_Ne_clear_2 : decode c_Ne_clear 2 = .ok (.putfield 15, 3) := by decide +kernel
theorem d_Ne_clear_5 : decode c_Ne_clear 5 = .ok (.return_, 1) := by decide +kernel
def t_Ne_clear_0 (l : Launch) (s0 : State) (D : va_G) (ca : Nat → ClassId) (e0 d mc ms : Nat) : List (Nat × cr_T) := [(0, cr_aload 0 1),
  (1, cr_push (.int 0) 2),
  (2, cr_putf D kc s0.heap.size 5 1 .int 5),
  (5, cr_vret mc ms)]
def t_Ne_clear (l : Launch) (s0 : State) (D : va_G) (ca : Nat → ClassId) (e0 d mc ms : Nat) : List (Nat × cr_T) := t_Ne_clear_0 l s0 D ca e0 d mc ms
set_option maxHeartbeats 4000000 in
set_option maxRecDepth 20000 in
theorem s_Ne_clear_0 {p : Program} {l : Launch} {e : Env} {R : Room} {s : State} {m : MethodId} {args : Array Value} {below : List Frame} {meth : Method} {c : Code} {s0 : State} {D : va_G} {ca : Nat → ClassId} {e0 d mc ms : Nat} {Q : cr_Q} (hl : l.flags = flags0) (Z : cr_Z0 s0 D ca e0) (C : cr_C p R s m meth c (cr_W0 s0) s0.heap.size y_Ne_clear c_Ne_clear 1 (Option.none : Option FieldType) d mc ms) (hem : c.exceptionTable.toList = []) : ∀ x ∈ t_Ne_clear_0 l s0 D ca e0 d mc ms, cr_Snd p l e R s m args below meth c s0.heap.size mc ms Q x.1 x.2 := by
  obtain ⟨hx, hb, hml, hown, hr, hlk, hnm, hU, hlo, hR⟩ := C
  have hK := cr_Z0K Z hU
  have hRc : R.cells = mc := by rw [hR]; rfl
  have hRs : R.slots = ms := by rw [hR]; rfl
  unfold t_Ne_clear_0
  refine cr_cons (cr_aload_n_ok hx hb d_Ne_clear_0 rfl rfl) ?_
  refine cr_cons (cr_iconst_ok hx hb d_Ne_clear_1 (by decide) rfl) ?_
  refine cr_cons (cr_putf_ok (C := R_Ne) (T := T_Ne) (N := 2) tt_Ne hx hb (k_Ne Z hU args) (fun _ h => h) ty_Ne nm_Ne hown hK rfl (by decide) (Or.inl (cr_w Z w_130 rfl hU args)) (fun _ h => h) rfl (by decide +kernel) d_Ne_clear_2 rfl) ?_
  refine cr_cons (cr_vret_ok hx hb hr hlk d_Ne_clear_5) ?_
  exact cr_nil
theorem s_Ne_clear {p : Program} {l : Launch} {e : Env} {R : Room} {s : State} {m : MethodId} {args : Array Value} {below : List Frame} {meth : Method} {c : Code} {s0 : State} {D : va_G} {ca : Nat → ClassId} {e0 d mc ms : Nat} {Q : cr_Q} (hl : l.flags = flags0) (Z : cr_Z0 s0 D ca e0) (C : cr_C p R s m meth c (cr_W0 s0) s0.heap.size y_Ne_clear c_Ne_clear 1 (Option.none : Option FieldType) d mc ms) (hem : c.exceptionTable.toList = []) : ∀ x ∈ t_Ne_clear l s0 D ca e0 d mc ms, cr_Snd p l e R s m args below meth c s0.heap.size mc ms Q x.1 x.2 := s_Ne_clear_0 hl Z C hem
theorem d_Us_groupOf_0 : decode c_Us_groupOf 0 = .ok (.iload_n 0, 1) := by decide +kernel
theorem d_Us_groupOf_1 : decode c_Us_groupOf 1 = .ok (.sipush 1440, 3) := by decide +kernel
theorem d_Us_groupOf_4 : decode c_Us_groupOf 4 = .ok (.idiv, 1) := by decide +kernel
theorem d_Us_groupOf_5 : decode c_Us_groupOf 5 = .ok (.bipush 10, 2) := by decide +kernel
theorem d_Us_groupOf_7 : decode c_Us_groupOf 7 = .ok (.idiv, 1) := by decide +kernel
theorem d_Us_groupOf_8 : decode c_Us_groupOf 8 = .ok (.ireturn, 1) := by decide +kernel
def t_Us_groupOf_0 (l : Launch) (s0 : State) (D : va_G) (ca : Nat → ClassId) (e0 d mc ms : Nat) : List (Nat × cr_T) := [(0, cr_iload 0 1),
  (1, cr_push (.int 1440) 4),
  (4, cr_idiv 5),
  (5, cr_push (.int 10) 7),
  (7, cr_idiv 8),
  (8, cr_iret mc ms)]
def t_Us_groupOf (l : Launch) (s0 : State) (D : va_G) (ca : Nat → ClassId) (e0 d mc ms : Nat) : List (Nat × cr_T) := t_Us_groupOf_0 l s0 D ca e0 d mc ms
set_option maxHeartbeats 4000000 in
set_option maxRecDepth 20000 in
theorem s_Us_groupOf_0 {p : Program} {l : Launch} {e : Env} {R : Room} {s : State} {m : MethodId} {args : Array Value} {below : List Frame} {meth : Method} {c : Code} {s0 : State} {D : va_G} {ca : Nat → ClassId} {e0 d mc ms : Nat} {Q : cr_Q} (hl : l.flags = flags0) (Z : cr_Z0 s0 D ca e0) (C : cr_C p R s m meth c (cr_W0 s0) s0.heap.size y_Us_groupOf c_Us_groupOf 1 (Option.some FieldType.int) d mc ms) (hem : c.exceptionTable.toList = []) : ∀ x ∈ t_Us_groupOf_0 l s0 D ca e0 d mc ms, cr_Snd p l e R s m args below meth c s0.heap.size mc ms Q x.1 x.2 := by
  obtain ⟨hx, hb, hml, hown, hr, hlk, hnm, hU, hlo, hR⟩ := C
  have hK := cr_Z0K Z hU
  have hRc : R.cells = mc := by rw [hR]; rfl
  have hRs : R.slots = ms := by rw [hR]; rfl
  unfold t_Us_groupOf_0
  refine cr_cons (cr_iload_n_ok hx hb d_Us_groupOf_0 rfl rfl) ?_
  refine cr_cons (cr_sipush_ok hx hb d_Us_groupOf_1 (by decide) rfl) ?_
  refine cr_cons (cr_idiv_ok hx hb d_Us_groupOf_4 rfl) ?_
  refine cr_cons (cr_bipush_ok hx hb d_Us_groupOf_5 (by decide) rfl) ?_
  refine cr_cons (cr_idiv_ok hx hb d_Us_groupOf_7 rfl) ?_
  refine cr_cons (cr_iret_ok hx hb hr hlk d_Us_groupOf_8) ?_
  exact cr_nil
theorem s_Us_groupOf {p : Program} {l : Launch} {e : Env} {R : Room} {s : State} {m : MethodId} {args : Array Value} {below : List Frame} {meth : Method} {c : Code} {s0 : State} {D : va_G} {ca : Nat → ClassId} {e0 d mc ms : Nat} {Q : cr_Q} (hl : l.flags = flags0) (Z : cr_Z0 s0 D ca e0) (C : cr_C p R s m meth c (cr_W0 s0) s0.heap.size y_Us_groupOf c_Us_groupOf 1 (Option.some FieldType.int) d mc ms) (hem : c.exceptionTable.toList = []) : ∀ x ∈ t_Us_groupOf l s0 D ca e0 d mc ms, cr_Snd p l e R s m args below meth c s0.heap.size mc ms Q x.1 x.2 := s_Us_groupOf_0 hl Z C hem
theorem d_Us_zoneOf_0 : decode c_Us_zoneOf 0 = .ok (.iload_n 0, 1) := by decide +kernel
theorem d_Us_zoneOf_1 : decode c_Us_zoneOf 1 = .ok (.sipush 1440, 3) := by decide +kernel
theorem d_Us_zoneOf_4 : decode c_Us_zoneOf 4 = .ok (.idiv, 1) := by decide +kernel
theorem d_Us_zoneOf_5 : decode c_Us_zoneOf 5 = .ok (.bipush 10, 2) := by decide +kernel
theorem d_Us_zoneOf_7 : decode c_Us_zoneOf 7 = .ok (.irem, 1) := by decide +kernel
theorem d_Us_zoneOf_8 : decode c_Us_zoneOf 8 = .ok (.ireturn, 1) := by decide +kernel
def t_Us_zoneOf_0 (l : Launch) (s0 : State) (D : va_G) (ca : Nat → ClassId) (e0 d mc ms : Nat) : List (Nat × cr_T) := [(0, cr_iload 0 1),
  (1, cr_push (.int 1440) 4),
  (4, cr_idiv 5),
  (5, cr_push (.int 10) 7),
  (7, cr_irem 8),
  (8, cr_iret mc ms)]
def t_Us_zoneOf (l : Launch) (s0 : State) (D : va_G) (ca : Nat → ClassId) (e0 d mc ms : Nat) : List (Nat × cr_T) := t_Us_zoneOf_0 l s0 D ca e0 d mc ms
set_option maxHeartbeats 4000000 in
set_option maxRecDepth 20000 in
theorem s_Us_zoneOf_0 {p : Program} {l : Launch} {e : Env} {R : Room} {s : State} {m : MethodId} {args : Array Value} {below : List Frame} {meth : Method} {c : Code} {s0 : State} {D : va_G} {ca : Nat → ClassId} {e0 d mc ms : Nat} {Q : cr_Q} (hl : l.flags = flags0) (Z : cr_Z0 s0 D ca e0) (C : cr_C p R s m meth c (cr_W0 s0) s0.heap.size y_Us_zoneOf c_Us_zoneOf 1 (Option.some FieldType.int) d mc ms) (hem : c.exceptionTable.toList = []) : ∀ x ∈ t_Us_zoneOf_0 l s0 D ca e0 d mc ms, cr_Snd p l e R s m args below meth c s0.heap.size mc ms Q x.1 x.2 := by
  obtain ⟨hx, hb, hml, hown, hr, hlk, hnm, hU, hlo, hR⟩ := C
  have hK := cr_Z0K Z hU
  have hRc : R.cells = mc := by rw [hR]; rfl
  have hRs : R.slots = ms := by rw [hR]; rfl
  unfold t_Us_zoneOf_0
  refine cr_cons (cr_iload_n_ok hx hb d_Us_zoneOf_0 rfl rfl) ?_
  refine cr_cons (cr_sipush_ok hx hb d_Us_zoneOf_1 (by decide) rfl) ?_
  refine cr_cons (cr_idiv_ok hx hb d_Us_zoneOf_4 rfl) ?_
  refine cr_cons (cr_bipush_ok hx hb d_Us_zoneOf_5 (by decide) rfl) ?_
  refine cr_cons (cr_irem_ok hx hb d_Us_zoneOf_7 rfl) ?_
  refine cr_cons (cr_iret_ok hx hb hr hlk d_Us_zoneOf_8) ?_
  exact cr_nil
theorem s_Us_zoneOf {p : Program} {l : Launch} {e : Env} {R : Room} {s : State} {m : MethodId} {args : Array Value} {below : List Frame} {meth : Method} {c : Code} {s0 : State} {D : va_G} {ca : Nat → ClassId} {e0 d mc ms : Nat} {Q : cr_Q} (hl : l.flags = flags0) (Z : cr_Z0 s0 D ca e0) (C : cr_C p R s m meth c (cr_W0 s0) s0.heap.size y_Us_zoneOf c_Us_zoneOf 1 (Option.some FieldType.int) d mc ms) (hem : c.exceptionTable.toList = []) : ∀ x ∈ t_Us_zoneOf l s0 D ca e0 d mc ms, cr_Snd p l e R s m args below meth c s0.heap.size mc ms Q x.1 x.2 := s_Us_zoneOf_0 hl Z C hem
theorem d_Us_timeOf_0 : decode c_Us_timeOf 0 = .ok (.iload_n 0, 1) := by decide +kernel
theorem d_Us_timeOf_1 : decode c_Us_timeOf 1 = .ok (.sipush 1440, 3) := by decide +kernel
theorem d_Us_timeOf_4 : decode c_Us_timeOf 4 = .ok (.irem, 1) := by decide +kernel
theorem d_Us_timeOf_5 : decode c_Us_timeOf 5 = .ok (.ireturn, 1) := by decide +kernel
def t_Us_timeOf_0 (l : Launch) (s0 : State) (D : va_G) (ca : Nat → ClassId) (e0 d mc ms : Nat) : List (Nat × cr_T) := [(0, cr_iload 0 1),
  (1, cr_push (.int 1440) 4),
  (4, cr_irem 5),
  (5, cr_iret mc ms)]
def t_Us_timeOf (l : Launch) (s0 : State) (D : va_G) (ca : Nat → ClassId) (e0 d mc ms : Nat) : List (Nat × cr_T) := t_Us_timeOf_0 l s0 D ca e0 d mc ms
set_option maxHeartbeats 4000000 in
set_option maxRecDepth 20000 in
theorem s_Us_timeOf_0 {p : Program} {l : Launch} {e : Env} {R : Room} {s : State} {m : MethodId} {args : Array Value} {below : List Frame} {meth : Method} {c : Code} {s0 : State} {D : va_G} {ca : Nat → ClassId} {e0 d mc ms : Nat} {Q : cr_Q} (hl : l.flags = flags0) (Z : cr_Z0 s0 D ca e0) (C : cr_C p R s m meth c (cr_W0 s0) s0.heap.size y_Us_timeOf c_Us_timeOf 1 (Option.some FieldType.int) d mc ms) (hem : c.exceptionTable.toList = []) : ∀ x ∈ t_Us_timeOf_0 l s0 D ca e0 d mc ms, cr_Snd p l e R s m args below meth c s0.heap.size mc ms Q x.1 x.2 := by
  obtain ⟨hx, hb, hml, hown, hr, hlk, hnm, hU, hlo, hR⟩ := C
  have hK := cr_Z0K Z hU
  have hRc : R.cells = mc := by rw [hR]; rfl
  have hRs : R.slots = ms := by rw [hR]; rfl
  unfold t_Us_timeOf_0
  refine cr_cons (cr_iload_n_ok hx hb d_Us_timeOf_0 rfl rfl) ?_
  refine cr_cons (cr_sipush_ok hx hb d_Us_timeOf_1 (by decide) rfl) ?_
  refine cr_cons (cr_irem_ok hx hb d_Us_timeOf_4 rfl) ?_
  refine cr_cons (cr_iret_ok hx hb hr hlk d_Us_timeOf_5) ?_
  exact cr_nil
theorem s_Us_timeOf {p : Program} {l : Launch} {e : Env} {R : Room} {s : State} {m : MethodId} {args : Array Value} {below : List Frame} {meth : Method} {c : Code} {s0 : State} {D : va_G} {ca : Nat → ClassId} {e0 d mc ms : Nat} {Q : cr_Q} (hl : l.flags = flags0) (Z : cr_Z0 s0 D ca e0) (C : cr_C p R s m meth c (cr_W0 s0) s0.heap.size y_Us_timeOf c_Us_timeOf 1 (Option.some FieldType.int) d mc ms) (hem : c.exceptionTable.toList = []) : ∀ x ∈ t_Us_timeOf l s0 D ca e0 d mc ms, cr_Snd p l e R s m args below meth c s0.heap.size mc ms Q x.1 x.2 := s_Us_timeOf_0 hl Z C hem
theorem d_Ri_isFor_0 : decode c_Ri_isFor 0 = .ok (.aload_n 0, 1) := by decide +kernel
theorem d_Ri_isFor_1 : decode c_Ri_isFor 1 = .ok (.getfield 7, 3) := by decide +kernel
theorem d_Ri_isFor_4 : decode c_Ri_isFor 4 = .ok (.iload_n 1, 1) := by decide +kernel
theorem d_Ri_isFor_5 : decode c_Ri_isFor 5 = .ok (.if_icmp .ne 23, 3) := by decide +kernel
theorem d_Ri_isFor_8 : decode c_Ri_isFor 8 = .ok (.aload_n 0, 1) := by decide +kernel
theorem d_Ri_isFor_9 : decode c_Ri_isFor 9 = .ok (.getfield 13, 3) := by decide +kernel
theorem d_Ri_isFor_12 : decode c_Ri_isFor 12 = .ok (.iload_n 2, 1) := by decide +kernel
theorem d_Ri_isFor_13 : decode c_Ri_isFor 13 = .ok (.if_icmp .ne 15, 3) := by decide +kernel
theorem d_Ri_isFor_16 : decode c_Ri_isFor 16 = .ok (.aload_n 0, 1) := by decide +kernel
theorem d_Ri_isFor_17 : decode c_Ri_isFor 17 = .ok (.iload_n 3, 1) := by decide +kernel
theorem d_Ri_isFor_18 : decode c_Ri_isFor 18 = .ok (.invokevirtual 25, 3) := by decide +kernel
theorem d_Ri_isFor_21 : decode c_Ri_isFor 21 = .ok (.ifCond .eq 7, 3) := by decide +kernel
theorem d_Ri_isFor_24 : decode c_Ri_isFor 24 = .ok (.iconst 1, 1) := by decide +kernel
theorem d_Ri_isFor_25 : decode c_Ri_isFor 25 = .ok (.goto 4, 3) := by decide +kernel
theorem d_Ri_isFor_28 : decode c_Ri_isFor 28 = .ok (.iconst 0, 1) := by decide +kernel
theorem d_Ri_isFor_29 : decode c_Ri_isFor 29 = .ok (.ireturn, 1) := by decide +kernel
def t_Ri_isFor_0 (l : Launch) (s0 : State) (D : va_G) (ca : Nat → ClassId) (e0 d mc ms : Nat) : List (Nat × cr_T) := [(0, cr_aload 0 1),
  (1, cr_getf D kc 7 0 4),
  (4, cr_iload 1 5),
  (5, cr_icne 28 8),
  (8, cr_aload 0 9),
  (9, cr_getf D kc 7 1 12),
  (12, cr_iload 2 13),
  (13, cr_icne 28 16),
  (16, cr_aload 0 17),
  (17, cr_iload 3 18),
  (18, cr_calV D kc l (cr_W0 s0) s0.heap.size 7 y_Ri_spans cw_Ri_spans d mc ms 1 4 21),
  (21, cr_ifeq 28 24),
  (24, cr_push (.int 1) 25),
  (25, cr_goto 29),
  (28, cr_push (.int 0) 29),
  (29, cr_zret mc ms .boolean)]
def t_Ri_isFor (l : Launch) (s0 : State) (D : va_G) (ca : Nat → ClassId) (e0 d mc ms : Nat) : List (Nat × cr_T) := t_Ri_isFor_0 l s0 D ca e0 d mc ms
set_option maxHeartbeats 4000000 in
set_option maxRecDepth 20000 in
theorem s_Ri_isFor_0 {p : Program} {l : Launch} {e : Env} {R : Room} {s : State} {m : MethodId} {args : Array Value} {below : List Frame} {meth : Method} {c : Code} {s0 : State} {D : va_G} {ca : Nat → ClassId} {e0 d mc ms : Nat} {Q : cr_Q} (hl : l.flags = flags0) (Z : cr_Z0 s0 D ca e0) (C : cr_C p R s m meth c (cr_W0 s0) s0.heap.size y_Ri_isFor c_Ri_isFor 4 (Option.some FieldType.boolean) d mc ms) (hem : c.exceptionTable.toList = []) : ∀ x ∈ t_Ri_isFor_0 l s0 D ca e0 d mc ms, cr_Snd p l e R s m args below meth c s0.heap.size mc ms Q x.1 x.2 := by
  obtain ⟨hx, hb, hml, hown, hr, hlk, hnm, hU, hlo, hR⟩ := C
  have hK := cr_Z0K Z hU
  have hRc : R.cells = mc := by rw [hR]; rfl
  have hRs : R.slots = ms := by rw [hR]; rfl
  unfold t_Ri_isFor_0
  refine cr_cons (cr_aload_n_ok hx hb d_Ri_isFor_0 rfl rfl) ?_
  refine cr_cons (cr_getf_ok (C := R_Ri) (T := T_Ri) (N := 5) hx hb (k_Ri Z hU args) (fun _ h => h) hown hK rfl (by decide) (cr_w Z w_586 rfl hU args) (fun _ h => h) d_Ri_isFor_1 rfl) ?_
  refine cr_cons (cr_iload_n_ok hx hb d_Ri_isFor_4 rfl rfl) ?_
  refine cr_cons (cr_icne_ok hx hb d_Ri_isFor_5 (by decide) rfl) ?_
  refine cr_cons (cr_aload_n_ok hx hb d_Ri_isFor_8 rfl rfl) ?_
  refine cr_cons (cr_getf_ok (C := R_Ri) (T := T_Ri) (N := 5) hx hb (k_Ri Z hU args) (fun _ h => h) hown hK rfl (by decide) (cr_w Z w_587 rfl hU args) (fun _ h => h) d_Ri_isFor_9 rfl) ?_
  refine cr_cons (cr_iload_n_ok hx hb d_Ri_isFor_12 rfl rfl) ?_
  refine cr_cons (cr_icne_ok hx hb d_Ri_isFor_13 (by decide) rfl) ?_
  refine cr_cons (cr_aload_n_ok hx hb d_Ri_isFor_16 rfl rfl) ?_
  refine cr_cons (cr_iload_n_ok hx hb d_Ri_isFor_17 rfl rfl) ?_
  refine cr_cons (cr_calV_ok (C := R_Ri) (Tf := T_Ri) (N := 5) hx hb hml hown hlk hU hlo hR (cr_W0_st s0) (by rw [hem]; exact fun _ h => absurd h List.not_mem_nil) hK rfl (u_Ri_spans Z) (Or.inl (cr_w Z w_231 rfl hU args)) (cr_w Z w_233 rfl hU args) (cr_w Z ws_3 rfl hU args) (by decide) (by decide +kernel) (by decide) d_Ri_isFor_18 rfl) ?_
  refine cr_cons (cr_ifeq_ok hx hb d_Ri_isFor_21 (by decide) rfl) ?_
  refine cr_cons (cr_iconst_ok hx hb d_Ri_isFor_24 (by decide) rfl) ?_
  refine cr_cons (cr_goto_ok hx hb d_Ri_isFor_25 (by decide)) ?_
  refine cr_cons (cr_iconst_ok hx hb d_Ri_isFor_28 (by decide) rfl) ?_
  refine cr_cons (cr_zret_ok hx hb hr hlk d_Ri_isFor_29) ?_
  exact cr_nil
theorem s_Ri_isFor {p : Program} {l : Launch} {e : Env} {R : Room} {s : State} {m : MethodId} {args : Array Value} {below : List Frame} {meth : Method} {c : Code} {s0 : State} {D : va_G} {ca : Nat → ClassId} {e0 d mc ms : Nat} {Q : cr_Q} (hl : l.flags = flags0) (Z : cr_Z0 s0 D ca e0) (C : cr_C p R s m meth c (cr_W0 s0) s0.heap.size y_Ri_isFor c_Ri_isFor 4 (Option.some FieldType.boolean) d mc ms) (hem : c.exceptionTable.toList = []) : ∀ x ∈ t_Ri_isFor l s0 D ca e0 d mc ms, cr_Snd p l e R s m args below meth c s0.heap.size mc ms Q x.1 x.2 := s_Ri_isFor_0 hl Z C hem
theorem d_Ri_spans_0 : decode c_Ri_spans 0 = .ok (.aload_n 0, 1) := by decide +kernel
theorem d_Ri_spans_1 : decode c_Ri_spans 1 = .ok (.getfield 16, 3) := by decide +kernel
theorem d_Ri_spans_4 : decode c_Ri_spans 4 = .ok (.aload_n 0, 1) := by decide +kernel
theorem d_Ri_spans_5 : decode c_Ri_spans 5 = .ok (.getfield 19, 3) := by decide +kernel
theorem d_Ri_spans_8 : decode c_Ri_spans 8 = .ok (.if_icmp .gt 25, 3) := by decide +kernel
theorem d_Ri_spans_11 : decode c_Ri_spans 11 = .ok (.aload_n 0, 1) := by decide +kernel
theorem d_Ri_spans_12 : decode c_Ri_spans 12 = .ok (.getfield 16, 3) := by decide +kernel
theorem d_Ri_spans_15 : decode c_Ri_spans 15 = .ok (.iload_n 1, 1) := by decide +kernel
theorem d_Ri_spans_16 : decode c_Ri_spans 16 = .ok (.if_icmp .gt 15, 3) := by decide +kernel
theorem d_Ri_spans_19 : decode c_Ri_spans 19 = .ok (.iload_n 1, 1) := by decide +kernel
theorem d_Ri_spans_20 : decode c_Ri_spans 20 = .ok (.aload_n 0, 1) := by decide +kernel
theorem d_Ri_spans_21 : decode c_Ri_spans 21 = .ok (.getfield 19, 3) := by decide +kernel
theorem d_Ri_spans_24 : decode c_Ri_spans 24 = .ok (.if_icmp .ge 7, 3) := by decide +kernel
theorem d_Ri_spans_27 : decode c_Ri_spans 27 = .ok (.iconst 1, 1) := by decide +kernel
theorem d_Ri_spans_28 : decode c_Ri_spans 28 = .ok (.goto 4, 3) := by decide +kernel
theorem d_Ri_spans_31 : decode c_Ri_spans 31 = .ok (.iconst 0, 1) := by decide +kernel
theorem d_Ri_spans_32 : decode c_Ri_spans 32 = .ok (.ireturn, 1) := by decide +kernel
theorem d_Ri_spans_33 : decode c_Ri_spans 33 = .ok (.aload_n 0, 1) := by decide +kernel
theorem d_Ri_spans_34 : decode c_Ri_spans 34 = .ok (.getfield 16, 3) := by decide +kernel
theorem d_Ri_spans_37 : decode c_Ri_spans 37 = .ok (.iload_n 1, 1) := by decide +kernel
theorem d_Ri_spans_38 : decode c_Ri_spans 38 = .ok (.if_icmp .le 11, 3) := by decide +kernel
theorem d_Ri_spans_41 : decode c_Ri_spans 41 = .ok (.iload_n 1, 1) := by decide +kernel
theorem d_Ri_spans_42 : decode c_Ri_spans 42 = .ok (.aload_n 0, 1) := by decide +kernel
theorem d_Ri_spans_43 : decode c_Ri_spans 43 = .ok (.getfield 19, 3) := by decide +kernel
theorem d_Ri_spans_46 : decode c_Ri_spans 46 = .ok (.if_icmp .ge 7, 3) := by decide +kernel
theorem d_Ri_spans_49 : decode c_Ri_spans 49 = .ok (.iconst 1, 1) := by decide +kernel
theorem d_Ri_spans_50 : decode c_Ri_spans 50 = .ok (.goto 4, 3) := by decide +kernel
theorem d_Ri_spans_53 : decode c_Ri_spans 53 = .ok (.iconst 0, 1) := by decide +kernel
theorem d_Ri_spans_54 : decode c_Ri_spans 54 = .ok (.ireturn, 1) := by decide +kernel
def t_Ri_spans_0 (l : Launch) (s0 : State) (D : va_G) (ca : Nat → ClassId) (e0 d mc ms : Nat) : List (Nat × cr_T) := [(0, cr_aload 0 1),
  (1, cr_getf D kc 7 2 4),
  (4, cr_aload 0 5),
  (5, cr_getf D kc 7 3 8),
  (8, cr_icgt 33 11),
  (11, cr_aload 0 12),
  (12, cr_getf D kc 7 2 15),
  (15, cr_iload 1 16),
  (16, cr_icgt 31 19),
  (19, cr_iload 1 20),
  (20, cr_aload 0 21),
  (21, cr_getf D kc 7 3 24),
  (24, cr_icge 31 27),
  (27, cr_push (.int 1) 28),
  (28, cr_goto 32),
  (31, cr_push (.int 0) 32),
  (32, cr_zret mc ms .boolean),
  (33, cr_aload 0 34),
  (34, cr_getf D kc 7 2 37),
  (37, cr_iload 1 38),
  (38, cr_icle 49 41),
  (41, cr_iload 1 42),
  (42, cr_aload 0 43),
  (43, cr_getf D kc 7 3 46),
  (46, cr_icge 53 49),
  (49, cr_push (.int 1) 50),
  (50, cr_goto 54),
  (53, cr_push (.int 0) 54),
  (54, cr_zret mc ms .boolean)]
def t_Ri_spans (l : Launch) (s0 : State) (D : va_G) (ca : Nat → ClassId) (e0 d mc ms : Nat) : List (Nat × cr_T) := t_Ri_spans_0 l s0 D ca e0 d mc ms
set_option maxHeartbeats 4000000 in
set_option maxRecDepth 20000 in
theorem s_Ri_spans_0 {p : Program} {l : Launch} {e : Env} {R : Room} {s : State} {m : MethodId} {args : Array Value} {below : List Frame} {meth : Method} {c : Code} {s0 : State} {D : va_G} {ca : Nat → ClassId} {e0 d mc ms : Nat} {Q : cr_Q} (hl : l.flags = flags0) (Z : cr_Z0 s0 D ca e0) (C : cr_C p R s m meth c (cr_W0 s0) s0.heap.size y_Ri_spans c_Ri_spans 2 (Option.some FieldType.boolean) d mc ms) (hem : c.exceptionTable.toList = []) : ∀ x ∈ t_Ri_spans_0 l s0 D ca e0 d mc ms, cr_Snd p l e R s m args below meth c s0.heap.size mc ms Q x.1 x.2 := by
  obtain ⟨hx, hb, hml, hown, hr, hlk, hnm, hU, hlo, hR⟩ := C
  have hK := cr_Z0K Z hU
  have hRc : R.cells = mc := by rw [hR]; rfl
  have hRs : R.slots = ms := by rw [hR]; rfl
  unfold t_Ri_spans_0
  refine cr_cons (cr_aload_n_ok hx hb d_Ri_spans_0 rfl rfl) ?_
  refine cr_cons (cr_getf_ok (C := R_Ri) (T := T_Ri) (N := 5) hx hb (k_Ri Z hU args) (fun _ h => h) hown hK rfl (by decide) (cr_w Z w_588 rfl hU args) (fun _ h => h) d_Ri_spans_1 rfl) ?_
  refine cr_cons (cr_aload_n_ok hx hb d_Ri_spans_4 rfl rfl) ?_
  refine cr_cons (cr_getf_ok (C := R_Ri) (T := T_Ri) (N := 5) hx hb (k_Ri Z hU args) (fun _ h => h) hown hK rfl (by decide) (cr_w Z w_589 rfl hU args) (fun _ h => h) d_Ri_spans_5 rfl) ?_
  refine cr_cons (cr_icgt_ok hx hb d_Ri_spans_8 (by decide) rfl) ?_
  refine cr_cons (cr_aload_n_ok hx hb d_Ri_spans_11 rfl rfl) ?_
  refine cr_cons (cr_getf_ok (C := R_Ri) (T := T_Ri) (N := 5) hx hb (k_Ri Z hU args) (fun _ h => h) hown hK rfl (by decide) (cr_w Z w_588 rfl hU args) (fun _ h => h) d_Ri_spans_12 rfl) ?_
  refine cr_cons (cr_iload_n_ok hx hb d_Ri_spans_15 rfl rfl) ?_
  refine cr_cons (cr_icgt_ok hx hb d_Ri_spans_16 (by decide) rfl) ?_
  refine cr_cons (cr_iload_n_ok hx hb d_Ri_spans_19 rfl rfl) ?_
  refine cr_cons (cr_aload_n_ok hx hb d_Ri_spans_20 rfl rfl) ?_
  refine cr_cons (cr_getf_ok (C := R_Ri) (T := T_Ri) (N := 5) hx hb (k_Ri Z hU args) (fun _ h => h) hown hK rfl (by decide) (cr_w Z w_589 rfl hU args) (fun _ h => h) d_Ri_spans_21 rfl) ?_
  refine cr_cons (cr_icge_ok hx hb d_Ri_spans_24 (by decide) rfl) ?_
  refine cr_cons (cr_iconst_ok hx hb d_Ri_spans_27 (by decide) rfl) ?_
  refine cr_cons (cr_goto_ok hx hb d_Ri_spans_28 (by decide)) ?_
  refine cr_cons (cr_iconst_ok hx hb d_Ri_spans_31 (by decide) rfl) ?_
  refine cr_cons (cr_zret_ok hx hb hr hlk d_Ri_spans_32) ?_
  refine cr_cons (cr_aload_n_ok hx hb d_Ri_spans_33 rfl rfl) ?_
  refine cr_cons (cr_getf_ok (C := R_Ri) (T := T_Ri) (N := 5) hx hb (k_Ri Z hU args) (fun _ h => h) hown hK rfl (by decide) (cr_w Z w_588 rfl hU args) (fun _ h => h) d_Ri_spans_34 rfl) ?_
  refine cr_cons (cr_iload_n_ok hx hb d_Ri_spans_37 rfl rfl) ?_
  refine cr_cons (cr_icle_ok hx hb d_Ri_spans_38 (by decide) rfl) ?_
  refine cr_cons (cr_iload_n_ok hx hb d_Ri_spans_41 rfl rfl) ?_
  refine cr_cons (cr_aload_n_ok hx hb d_Ri_spans_42 rfl rfl) ?_
  refine cr_cons (cr_getf_ok (C := R_Ri) (T := T_Ri) (N := 5) hx hb (k_Ri Z hU args) (fun _ h => h) hown hK rfl (by decide) (cr_w Z w_589 rfl hU args) (fun _ h => h) d_Ri_spans_43 rfl) ?_
  refine cr_cons (cr_icge_ok hx hb d_Ri_spans_46 (by decide) rfl) ?_
  refine cr_cons (cr_iconst_ok hx hb d_Ri_spans_49 (by decide) rfl) ?_
  refine cr_cons (cr_goto_ok hx hb d_Ri_spans_50 (by decide)) ?_
  refine cr_cons (cr_iconst_ok hx hb d_Ri_spans_53 (by decide) rfl) ?_
  refine cr_cons (cr_zret_ok hx hb hr hlk d_Ri_spans_54) ?_
  exact cr_nil
theorem s_Ri_spans {p : Program} {l : Launch} {e : Env} {R : Room} {s : State} {m : MethodId} {args : Array Value} {below : List Frame} {meth : Method} {c : Code} {s0 : State} {D : va_G} {ca : Nat → ClassId} {e0 d mc ms : Nat} {Q : cr_Q} (hl : l.flags = flags0) (Z : cr_Z0 s0 D ca e0) (C : cr_C p R s m meth c (cr_W0 s0) s0.heap.size y_Ri_spans c_Ri_spans 2 (Option.some FieldType.boolean) d mc ms) (hem : c.exceptionTable.toList = []) : ∀ x ∈ t_Ri_spans l s0 D ca e0 d mc ms, cr_Snd p l e R s m args below meth c s0.heap.size mc ms Q x.1 x.2 := s_Ri_spans_0 hl Z C hem
theorem d_Ne_add_0 : decode c_Ne_add 0 = .ok (.iload_n 1, 1) := by decide +kernel
theorem d_Ne_add_1 : decode c_Ne_add 1 = .ok (.ifCond .eq 15, 3) := by decide +kernel
theorem d_Ne_add_4 : decode c_Ne_add 4 = .ok (.aload_n 0, 1) := by decide +kernel
theorem d_Ne_add_5 : decode c_Ne_add 5 = .ok (.getfield 15, 3) := by decide +kernel
theorem d_Ne_add_8 : decode c_Ne_add 8 = .ok (.aload_n 0, 1) := by decide +kernel
theorem d_Ne_add_9 : decode c_Ne_add 9 = .ok (.getfield 9, 3) := by decide +kernel
theorem d_Ne_add_12 : decode c_Ne_add 12 = .ok (.arraylength, 1) := by decide +kernel
theorem d_Ne_add_13 : decode c_Ne_add 13 = .ok (.if_icmp .lt 4, 3) := by decide +kernel
theorem d_Ne_add_16 : decode c_Ne_add 16 = .ok (.return_, 1) := by decide +kernel
theorem d_Ne_add_17 : decode c_Ne_add 17 = .ok (.iconst 0, 1) := by decide +kernel
theorem d_Ne_add_18 : decode c_Ne_add 18 = .ok (.istore_n 2, 1) := by decide +kernel
theorem d_Ne_add_19 : decode c_Ne_add 19 = .ok (.iload_n 2, 1) := by decide +kernel
theorem d_Ne_add_20 : decode c_Ne_add 20 = .ok (.aload_n 0, 1) := by decide +kernel
theorem d_Ne_add_21 : decode c_Ne_add 21 = .ok (.getfield 15, 3) := by decide +kernel
theorem d_Ne_add_24 : decode c_Ne_add 24 = .ok (.if_icmp .ge 20, 3) := by decide +kernel
theorem d_Ne_add_27 : decode c_Ne_add 27 = .ok (.aload_n 0, 1) := by decide +kernel
theorem d_Ne_add_28 : decode c_Ne_add 28 = .ok (.getfield 9, 3) := by decide +kernel
theorem d_Ne_add_31 : decode c_Ne_add 31 = .ok (.iload_n 2, 1) := by decide +kernel
theorem d_Ne_add_32 : decode c_Ne_add 32 = .ok (.iaload, 1) := by decide +kernel
theorem d_Ne_add_33 : decode c_Ne_add 33 = .ok (.iload_n 1, 1) := by decide +kernel
theorem d_Ne_add_34 : decode c_Ne_add 34 = .ok (.if_icmp .ne 4, 3) := by decide +kernel
theorem d_Ne_add_37 : decode c_Ne_add 37 = .ok (.return_, 1) := by decide +kernel
theorem d_Ne_add_38 : decode c_Ne_add 38 = .ok (.iinc 2 1, 3) := by decide +kernel
theorem d_Ne_add_41 : decode c_Ne_add 41 = .ok (.goto (-22), 3) := by decide +kernel
theorem d_Ne_add_44 : decode c_Ne_add 44 = .ok (.aload_n 0, 1) := by decide +kernel
theorem d_Ne_add_45 : decode c_Ne_add 45 = .ok (.getfield 9, 3) := by decide +kernel
theorem d_Ne_add_48 : decode c_Ne_add 48 = .ok (.aload_n 0, 1) := by decide +kernel
theorem d_Ne_add_49 : decode c_Ne_add 49 = .ok (.getfield 15, 3) := by decide +kernel
theorem d_Ne_add_52 : decode c_Ne_add 52 = .ok (.iload_n 1, 1) := by decide +kernel
theorem d_Ne_add_53 : decode c_Ne_add 53 = .ok (.iastore, 1) := by decide +kernel
theorem d_Ne_add_54 : decode c_Ne_add 54 = .ok (.aload_n 0, 1) := by decide +kernel
theorem d_Ne_add_55 : decode c_Ne_add 55 = .ok (.dup, 1) := by decide +kernel
theorem d_Ne_add_56 : decode c_Ne_add 56 = .ok (.getfield 15, 3) := by decide +kernel
theorem d_Ne_add_59 : decode c_Ne_add 59 = .ok (.iconst 1, 1) := by decide +kernel
theorem d_Ne_add_60 : decode c_Ne_add 60 = .ok (.iadd, 1) := by decide +kernel
theorem d_Ne_add_61 : decode c_Ne_add 61 = .ok (.putfield 15, 3) := by decide +kernel
theorem d_Ne_add_64 : decode c_Ne_add 64 = .ok (.return_, 1) := by decide +kernel
def t_Ne_add_0 (l : Launch) (s0 : State) (D : va_G) (ca : Nat → ClassId) (e0 d mc ms : Nat) : List (Nat × cr_T) := [(0, cr_iload 1 1),
  (1, cr_ifeq 16 4),
  (4, cr_aload 0 5),
  (5, cr_getf D kc 5 1 8),
  (8, cr_aload 0 9),
  (9, cr_getf D kc 5 0 12),
  (12, cr_alen D kc (ca 0) 13),
  (13, cr_iclt 17 16),
  (16, cr_vret mc ms),
  (17, cr_push (.int 0) 18),
  (18, cr_istore 2 19),
  (19, cr_iload 2 20),
  (20, cr_aload 0 21),
  (21, cr_getf D kc 5 1 24),
  (24, cr_icge 44 27),
  (27, cr_aload 0 28),
  (28, cr_getf D kc 5 0 31),
  (31, cr_iload 2 32),
  (32, cr_iald D kc (ca 0) 33),
  (33, cr_iload 1 34),
  (34, cr_icne 38 37),
  (37, cr_vret mc ms),
  (38, cr_iinc 2 1 41),
  (41, cr_goto 19),
  (44, cr_aload 0 45),
  (45, cr_getf D kc 5 0 48),
  (48, cr_aload 0 49),
  (49, cr_getf D kc 5 1 52),
  (52, cr_iload 1 53),
  (53, cr_iast D kc s0.heap.size (ca 0) 54)]
def t_Ne_add_1 (l : Launch) (s0 : State) (D : va_G) (ca : Nat → ClassId) (e0 d mc ms : Nat) : List (Nat × cr_T) := [(54, cr_aload 0 55),
  (55, cr_dup 56),
  (56, cr_getf D kc 5 1 59),
  (59, cr_push (.int 1) 60),
  (60, cr_iadd 61),
  (61, cr_putf D kc s0.heap.size 5 1 .int 64),
  (64, cr_vret mc ms)]
def t_Ne_add (l : Launch) (s0 : State) (D : va_G) (ca : Nat → ClassId) (e0 d mc ms : Nat) : List (Nat × cr_T) := t_Ne_add_0 l s0 D ca e0 d mc ms ++ (t_Ne_add_1 l s0 D ca e0 d mc ms)
set_option maxHeartbeats 4000000 in
set_option maxRecDepth 20000 in
theorem s_Ne_add_0 {p : Program} {l : Launch} {e : Env} {R : Room} {s : State} {m : MethodId} {args : Array Value} {below : List Frame} {meth : Method} {c : Code} {s0 : State} {D : va_G} {ca : Nat → ClassId} {e0 d mc ms : Nat} {Q : cr_Q} (hl : l.flags = flags0) (Z : cr_Z0 s0 D ca e0) (C : cr_C p R s m meth c (cr_W0 s0) s0.heap.size y_Ne_add c_Ne_add 3 (Option.none : Option FieldType) d mc ms) (hem : c.exceptionTable.toList = []) : ∀ x ∈ t_Ne_add_0 l s0 D ca e0 d mc ms, cr_Snd p l e R s m args below meth c s0.heap.size mc ms Q x.1 x.2 := by
  obtain ⟨hx, hb, hml, hown, hr, hlk, hnm, hU, hlo, hR⟩ := C
  have hK := cr_Z0K Z hU
  have hRc : R.cells = mc := by rw [hR]; rfl
  have hRs : R.slots = ms := by rw [hR]; rfl
  unfold t_Ne_add_0
  refine cr_cons (cr_iload_n_ok hx hb d_Ne_add_0 rfl rfl) ?_
  refine cr_cons (cr_ifeq_ok hx hb d_Ne_add_1 (by decide) rfl) ?_
  refine cr_cons (cr_aload_n_ok hx hb d_Ne_add_4 rfl rfl) ?_
  refine cr_cons (cr_getf_ok (C := R_Ne) (T := T_Ne) (N := 2) hx hb (k_Ne Z hU args) (fun _ h => h) hown hK rfl (by decide) (cr_w Z w_130 rfl hU args) (fun _ h => h) d_Ne_add_5 rfl) ?_
  refine cr_cons (cr_aload_n_ok hx hb d_Ne_add_8 rfl rfl) ?_
  refine cr_cons (cr_getf_ok (C := R_Ne) (T := T_Ne) (N := 2) hx hb (k_Ne Z hU args) (fun _ h => h) hown hK rfl (by decide) (cr_w Z w_129 rfl hU args) (fun _ h => h) d_Ne_add_9 rfl) ?_
  refine cr_cons (cr_alen_ok (t0 := 0) hx hb hK rfl d_Ne_add_12 rfl) ?_
  refine cr_cons (cr_iclt_ok hx hb d_Ne_add_13 (by decide) rfl) ?_
  refine cr_cons (cr_vret_ok hx hb hr hlk d_Ne_add_16) ?_
  refine cr_cons (cr_iconst_ok hx hb d_Ne_add_17 (by decide) rfl) ?_
  refine cr_cons (cr_istore_n_ok hx hb d_Ne_add_18 rfl rfl) ?_
  refine cr_cons (cr_iload_n_ok hx hb d_Ne_add_19 rfl rfl) ?_
  refine cr_cons (cr_aload_n_ok hx hb d_Ne_add_20 rfl rfl) ?_
  refine cr_cons (cr_getf_ok (C := R_Ne) (T := T_Ne) (N := 2) hx hb (k_Ne Z hU args) (fun _ h => h) hown hK rfl (by decide) (cr_w Z w_130 rfl hU args) (fun _ h => h) d_Ne_add_21 rfl) ?_
  refine cr_cons (cr_icge_ok hx hb d_Ne_add_24 (by decide) rfl) ?_
  refine cr_cons (cr_aload_n_ok hx hb d_Ne_add_27 rfl rfl) ?_
  refine cr_cons (cr_getf_ok (C := R_Ne) (T := T_Ne) (N := 2) hx hb (k_Ne Z hU args) (fun _ h => h) hown hK rfl (by decide) (cr_w Z w_129 rfl hU args) (fun _ h => h) d_Ne_add_28 rfl) ?_
  refine cr_cons (cr_iload_n_ok hx hb d_Ne_add_31 rfl rfl) ?_
  refine cr_cons (cr_iald_ok (t0 := 0) hx hb hK rfl d_Ne_add_32 rfl) ?_
  refine cr_cons (cr_iload_n_ok hx hb d_Ne_add_33 rfl rfl) ?_
  refine cr_cons (cr_icne_ok hx hb d_Ne_add_34 (by decide) rfl) ?_
  refine cr_cons (cr_vret_ok hx hb hr hlk d_Ne_add_37) ?_
  refine cr_cons (cr_iinc_ok hx hb d_Ne_add_38 (by decide) rfl) ?_
  refine cr_cons (cr_goto_ok hx hb d_Ne_add_41 (by decide)) ?_
  refine cr_cons (cr_aload_n_ok hx hb d_Ne_add_44 rfl rfl) ?_
  refine cr_cons (cr_getf_ok (C := R_Ne) (T := T_Ne) (N := 2) hx hb (k_Ne Z hU args) (fun _ h => h) hown hK rfl (by decide) (cr_w Z w_129 rfl hU args) (fun _ h => h) d_Ne_add_45 rfl) ?_
  refine cr_cons (cr_aload_n_ok hx hb d_Ne_add_48 rfl rfl) ?_
  refine cr_cons (cr_getf_ok (C := R_Ne) (T := T_Ne) (N := 2) hx hb (k_Ne Z hU args) (fun _ h => h) hown hK rfl (by decide) (cr_w Z w_130 rfl hU args) (fun _ h => h) d_Ne_add_49 rfl) ?_
  refine cr_cons (cr_iload_n_ok hx hb d_Ne_add_52 rfl rfl) ?_
  refine cr_cons (cr_iast_ok (t0 := 0) hx hb hK rfl d_Ne_add_53 rfl) ?_
  exact cr_nil
set_option maxHeartbeats 4000000 in
set_option maxRecDepth 20000 in
theorem s_Ne_add_1 {p : Program} {l : Launch} {e : Env} {R : Room} {s : State} {m : MethodId} {args : Array Value} {below : List Frame} {meth : Method} {c : Code} {s0 : State} {D : va_G} {ca : Nat → ClassId} {e0 d mc ms : Nat} {Q : cr_Q} (hl : l.flags = flags0) (Z : cr_Z0 s0 D ca e0) (C : cr_C p R s m meth c (cr_W0 s0) s0.heap.size y_Ne_add c_Ne_add 3 (Option.none : Option FieldType) d mc ms) (hem : c.exceptionTable.toList = []) : ∀ x ∈ t_Ne_add_1 l s0 D ca e0 d mc ms, cr_Snd p l e R s m args below meth c s0.heap.size mc ms Q x.1 x.2 := by
  obtain ⟨hx, hb, hml, hown, hr, hlk, hnm, hU, hlo, hR⟩ := C
  have hK := cr_Z0K Z hU
  have hRc : R.cells = mc := by rw [hR]; rfl
  have hRs : R.slots = ms := by rw [hR]; rfl
  unfold t_Ne_add_1
  refine cr_cons (cr_aload_n_ok hx hb d_Ne_add_54 rfl rfl) ?_
  refine cr_cons (cr_dup_ok hx hb d_Ne_add_55 rfl) ?_
  refine cr_cons (cr_getf_ok (C := R_Ne) (T := T_Ne) (N := 2) hx hb (k_Ne Z hU args) (fun _ h => h) hown hK rfl (by decide) (cr_w Z w_130 rfl hU args) (fun _ h => h) d_Ne_add_56 rfl) ?_
  refine cr_cons (cr_iconst_ok hx hb d_Ne_add_59 (by decide) rfl) ?_
  refine cr_cons (cr_iadd_ok hx hb d_Ne_add_60 rfl) ?_
  refine cr_cons (cr_putf_ok (C := R_Ne) (T := T_Ne) (N := 2) tt_Ne hx hb (k_Ne Z hU args) (fun _ h => h) ty_Ne nm_Ne hown hK rfl (by decide) (Or.inl (cr_w Z w_130 rfl hU args)) (fun _ h => h) rfl (by decide +kernel) d_Ne_add_61 rfl) ?_
  refine cr_cons (cr_vret_ok hx hb hr hlk d_Ne_add_64) ?_
  exact cr_nil
theorem s_Ne_add {p : Program} {l : Launch} {e : Env} {R : Room} {s : State} {m : MethodId} {args : Array Value} {below : List Frame} {meth : Method} {c : Code} {s0 : State} {D : va_G} {ca : Nat → ClassId} {e0 d mc ms : Nat} {Q : cr_Q} (hl : l.flags = flags0) (Z : cr_Z0 s0 D ca e0) (C : cr_C p R s m meth c (cr_W0 s0) s0.heap.size y_Ne_add c_Ne_add 3 (Option.none : Option FieldType) d mc ms) (hem : c.exceptionTable.toList = []) : ∀ x ∈ t_Ne_add l s0 D ca e0 d mc ms, cr_Snd p l e R s m args below meth c s0.heap.size mc ms Q x.1 x.2 := cr_app (s_Ne_add_0 hl Z C hem) (s_Ne_add_1 hl Z C hem)
theorem d_Ne_leastOfTheFewest_0 : decode c_Ne_leastOfTheFewest 0 = .ok (.iconst (-1), 1) := by decide +kernel
theorem d_Ne_leastOfTheFewest_1 : decode c_Ne_leastOfTheFewest 1 = .ok (.istore_n 1, 1) := by decide +kernel
theorem d_Ne_leastOfTheFewest_2 : decode c_Ne_leastOfTheFewest 2 = .ok (.iconst 0, 1) := by decide +kernel
theorem d_Ne_leastOfTheFewest_3 : decode c_Ne_leastOfTheFewest 3 = .ok (.istore_n 2, 1) := by decide +kernel
theorem d_Ne_leastOfTheFewest_4 : decode c_Ne_leastOfTheFewest 4 = .ok (.iload_n 2, 1) := by decide +kernel
theorem d_Ne_leastOfTheFewest_5 : decode c_Ne_leastOfTheFewest 5 = .ok (.bipush 16, 2) := by decide +kernel
theorem d_Ne_leastOfTheFewest_7 : decode c_Ne_leastOfTheFewest 7 = .ok (.if_icmp .gt 23, 3) := by decide +kernel
theorem d_Ne_leastOfTheFewest_10 : decode c_Ne_leastOfTheFewest 10 = .ok (.iload_n 1, 1) := by decide +kernel
theorem d_Ne_leastOfTheFewest_11 : decode c_Ne_leastOfTheFewest 11 = .ok (.iconst (-1), 1) := by decide +kernel
theorem d_Ne_leastOfTheFewest_12 : decode c_Ne_leastOfTheFewest 12 = .ok (.if_icmp .ne 18, 3) := by decide +kernel
theorem d_Ne_leastOfTheFewest_15 : decode c_Ne_leastOfTheFewest 15 = .ok (.aload_n 0, 1) := by decide +kernel
theorem d_Ne_leastOfTheFewest_16 : decode c_Ne_leastOfTheFewest 16 = .ok (.iconst 0, 1) := by decide +kernel
theorem d_Ne_leastOfTheFewest_17 : decode c_Ne_leastOfTheFewest 17 = .ok (.bipush 16, 2) := by decide +kernel
theorem d_Ne_leastOfTheFewest_19 : decode c_Ne_leastOfTheFewest 19 = .ok (.iload_n 2, 1) := by decide +kernel
theorem d_Ne_leastOfTheFewest_20 : decode c_Ne_leastOfTheFewest 20 = .ok (.invokevirtual 19, 3) := by decide +kernel
theorem d_Ne_leastOfTheFewest_23 : decode c_Ne_leastOfTheFewest 23 = .ok (.istore_n 1, 1) := by decide +kernel
theorem d_Ne_leastOfTheFewest_24 : decode c_Ne_leastOfTheFewest 24 = .ok (.iinc 2 1, 3) := by decide +kernel
theorem d_Ne_leastOfTheFewest_27 : decode c_Ne_leastOfTheFewest 27 = .ok (.goto (-23), 3) := by decide +kernel
theorem d_Ne_leastOfTheFewest_30 : decode c_Ne_leastOfTheFewest 30 = .ok (.iload_n 1, 1) := by decide +kernel
theorem d_Ne_leastOfTheFewest_31 : decode c_Ne_leastOfTheFewest 31 = .ok (.ireturn, 1) := by decide +kernel
def t_Ne_leastOfTheFewest_0 (l : Launch) (s0 : State) (D : va_G) (ca : Nat → ClassId) (e0 d mc ms : Nat) : List (Nat × cr_T) := [(0, cr_push (.int (-1)) 1),
  (1, cr_istore 1 2),
  (2, cr_push (.int 0) 3),
  (3, cr_istore 2 4),
  (4, cr_iload 2 5),
  (5, cr_push (.int 16) 7),
  (7, cr_icgt 30 10),
  (10, cr_iload 1 11),
  (11, cr_push (.int (-1)) 12),
  (12, cr_icne 30 15),
  (15, cr_aload 0 16),
  (16, cr_push (.int 0) 17),
  (17, cr_push (.int 16) 19),
  (19, cr_iload 2 20),
  (20, cr_calV D kc l (cr_W0 s0) s0.heap.size 5 y_Ne_leastWith cw_Ne_leastWith d mc ms 3 3 23),
  (23, cr_istore 1 24),
  (24, cr_iinc 2 1 27),
  (27, cr_goto 4),
  (30, cr_iload 1 31),
  (31, cr_iret mc ms)]
def t_Ne_leastOfTheFewest (l : Launch) (s0 : State) (D : va_G) (ca : Nat → ClassId) (e0 d mc ms : Nat) : List (Nat × cr_T) := t_Ne_leastOfTheFewest_0 l s0 D ca e0 d mc ms
set_option maxHeartbeats 4000000 in
set_option maxRecDepth 20000 in
theorem s_Ne_leastOfTheFewest_0 {p : Program} {l : Launch} {e : Env} {R : Room} {s : State} {m : MethodId} {args : Array Value} {below : List Frame} {meth : Method} {c : Code} {s0 : State} {D : va_G} {ca : Nat → ClassId} {e0 d mc ms : Nat} {Q : cr_Q} (hl : l.flags = flags0) (Z : cr_Z0 s0 D ca e0) (C : cr_C p R s m meth c (cr_W0 s0) s0.heap.size y_Ne_leastOfTheFewest c_Ne_leastOfTheFewest 3 (Option.some FieldType.int) d mc ms) (hem : c.exceptionTable.toList = []) : ∀ x ∈ t_Ne_leastOfTheFewest_0 l s0 D ca e0 d mc ms, cr_Snd p l e R s m args below meth c s0.heap.size mc ms Q x.1 x.2 := by
  obtain ⟨hx, hb, hml, hown, hr, hlk, hnm, hU, hlo, hR⟩ := C
  have hK := cr_Z0K Z hU
  have hRc : R.cells = mc := by rw [hR]; rfl
  have hRs : R.slots = ms := by rw [hR]; rfl
  unfold t_Ne_leastOfTheFewest_0
  refine cr_cons (cr_iconst_ok hx hb d_Ne_leastOfTheFewest_0 (by decide) rfl) ?_
  refine cr_cons (cr_istore_n_ok hx hb d_Ne_leastOfTheFewest_1 rfl rfl) ?_
  refine cr_cons (cr_iconst_ok hx hb d_Ne_leastOfTheFewest_2 (by decide) rfl) ?_
  refine cr_cons (cr_istore_n_ok hx hb d_Ne_leastOfTheFewest_3 rfl rfl) ?_
  refine cr_cons (cr_iload_n_ok hx hb d_Ne_leastOfTheFewest_4 rfl rfl) ?_
  refine cr_cons (cr_bipush_ok hx hb d_Ne_leastOfTheFewest_5 (by decide) rfl) ?_
  refine cr_cons (cr_icgt_ok hx hb d_Ne_leastOfTheFewest_7 (by decide) rfl) ?_
  refine cr_cons (cr_iload_n_ok hx hb d_Ne_leastOfTheFewest_10 rfl rfl) ?_
  refine cr_cons (cr_iconst_ok hx hb d_Ne_leastOfTheFewest_11 (by decide) rfl) ?_
  refine cr_cons (cr_icne_ok hx hb d_Ne_leastOfTheFewest_12 (by decide) rfl) ?_
  refine cr_cons (cr_aload_n_ok hx hb d_Ne_leastOfTheFewest_15 rfl rfl) ?_
  refine cr_cons (cr_iconst_ok hx hb d_Ne_leastOfTheFewest_16 (by decide) rfl) ?_
  refine cr_cons (cr_bipush_ok hx hb d_Ne_leastOfTheFewest_17 (by decide) rfl) ?_
  refine cr_cons (cr_iload_n_ok hx hb d_Ne_leastOfTheFewest_19 rfl rfl) ?_
  refine cr_cons (cr_calV_ok (C := R_Ne) (Tf := T_Ne) (N := 2) hx hb hml hown hlk hU hlo hR (cr_W0_st s0) (by rw [hem]; exact fun _ h => absurd h List.not_mem_nil) hK rfl (u_Ne_leastWith Z) (Or.inl (cr_w Z w_243 rfl hU args)) (cr_w Z w_245 rfl hU args) (cr_w Z ws_6 rfl hU args) (by decide) (by decide +kernel) (by decide) d_Ne_leastOfTheFewest_20 rfl) ?_
  refine cr_cons (cr_istore_n_ok hx hb d_Ne_leastOfTheFewest_23 rfl rfl) ?_
  refine cr_cons (cr_iinc_ok hx hb d_Ne_leastOfTheFewest_24 (by decide) rfl) ?_
  refine cr_cons (cr_goto_ok hx hb d_Ne_leastOfTheFewest_27 (by decide)) ?_
  refine cr_cons (cr_iload_n_ok hx hb d_Ne_leastOfTheFewest_30 rfl rfl) ?_
  refine cr_cons (cr_iret_ok hx hb hr hlk d_Ne_leastOfTheFewest_31) ?_
  exact cr_nil
theorem s_Ne_leastOfTheFewest {p : Program} {l : Launch} {e : Env} {R : Room} {s : State} {m : MethodId} {args : Array Value} {below : List Frame} {meth : Method} {c : Code} {s0 : State} {D : va_G} {ca : Nat → ClassId} {e0 d mc ms : Nat} {Q : cr_Q} (hl : l.flags = flags0) (Z : cr_Z0 s0 D ca e0) (C : cr_C p R s m meth c (cr_W0 s0) s0.heap.size y_Ne_leastOfTheFewest c_Ne_leastOfTheFewest 3 (Option.some FieldType.int) d mc ms) (hem : c.exceptionTable.toList = []) : ∀ x ∈ t_Ne_leastOfTheFewest l s0 D ca e0 d mc ms, cr_Snd p l e R s m args below meth c s0.heap.size mc ms Q x.1 x.2 := s_Ne_leastOfTheFewest_0 hl Z C hem
