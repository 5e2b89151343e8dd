theorem d_AL_clear_0 : decode c_AL_clear 0 = .ok (.aload_n 0, 1) := by decide +kernel
theorem d_AL_clear_1 : decode c_AL_clear 1 = .ok (.dup, 1) := by decide +kernel
theorem d_AL_clear_2 : decode c_AL_clear 2 = .ok (.getfield 63, 3) := by decide +kernel
theorem d_AL_clear_5 : decode c_AL_clear 5 = .ok (.iconst 1, 1) := by decide +kernel
theorem d_AL_clear_6 : decode c_AL_clear 6 = .ok (.iadd, 1) := by decide +kernel
theorem d_AL_clear_7 : decode c_AL_clear 7 = .ok (.putfield 63, 3) := by decide +kernel
theorem d_AL_clear_10 : decode c_AL_clear 10 = .ok (.aload_n 0, 1) := by decide +kernel
theorem d_AL_clear_11 : decode c_AL_clear 11 = .ok (.getfield 9, 3) := by decide +kernel
theorem d_AL_clear_14 : decode c_AL_clear 14 = .ok (.astore_n 1, 1) := by decide +kernel
theorem d_AL_clear_15 : decode c_AL_clear 15 = .ok (.aload_n 0, 1) := by decide +kernel
theorem d_AL_clear_16 : decode c_AL_clear 16 = .ok (.getfield 48, 3) := by decide +kernel
theorem d_AL_clear_19 : decode c_AL_clear 19 = .ok (.istore_n 2, 1) := by decide +kernel
theorem d_AL_clear_20 : decode c_AL_clear 20 = .ok (.aload_n 0, 1) := by decide +kernel
theorem d_AL_clear_21 : decode c_AL_clear 21 = .ok (.iconst 0, 1) := by decide +kernel
theorem d_AL_clear_22 : decode c_AL_clear 22 = .ok (.dup_x1, 1) := by decide +kernel
theorem d_AL_clear_23 : decode c_AL_clear 23 = .ok (.putfield 48, 3) := by decide +kernel
theorem d_AL_clear_26 : decode c_AL_clear 26 = .ok (.istore_n 3, 1) := by decide +kernel
theorem d_AL_clear_27 : decode c_AL_clear 27 = .ok (.iload_n 3, 1) := by decide +kernel
theorem d_AL_clear_28 : decode c_AL_clear 28 = .ok (.iload_n 2, 1) := by decide +kernel
theorem d_AL_clear_29 : decode c_AL_clear 29 = .ok (.if_icmp .ge 13, 3) := by decide +kernel
theorem d_AL_clear_32 : decode c_AL_clear 32 = .ok (.aload_n 1, 1) := by decide +kernel
theorem d_AL_clear_33 : decode c_AL_clear 33 = .ok (.iload_n 3, 1) := by decide +kernel
theorem d_AL_clear_34 : decode c_AL_clear 34 = .ok (.aconst_null, 1) := by decide +kernel
theorem d_AL_clear_35 : decode c_AL_clear 35 = .ok (.aastore, 1) := by decide +kernel
theorem d_AL_clear_36 : decode c_AL_clear 36 = .ok (.iinc 3 1, 3) := by decide +kernel
theorem d_AL_clear_39 : decode c_AL_clear 39 = .ok (.goto (-12), 3) := by decide +kernel
theorem d_AL_clear_42 : decode c_AL_clear 42 = .ok (.return_, 1) := by decide +kernel
def t_AL_clear_0 (l : Launch) (s0 : State) (D : va_G) (ca : Nat → ClassId) (e0 d mc ms : Nat) : List (Nat × cr_T) := [(0, cr_aload 0 1),
  (1, cr_dup 2),
  (2, cr_getf D kc 12 2 5),
  (5, cr_push (.int 1) 6),
  (6, cr_iadd 7),
  (7, cr_putf D kc s0.heap.size 12 2 .int 10),
  (10, cr_aload 0 11),
  (11, cr_getf D kc 12 0 14),
  (14, cr_astore 1 15),
  (15, cr_aload 0 16),
  (16, cr_getf D kc 12 1 19),
  (19, cr_istore 2 20),
  (20, cr_aload 0 21),
  (21, cr_push (.int 0) 22),
  (22, cr_dup_x1 23),
  (23, cr_putf D kc s0.heap.size 12 1 .int 26),
  (26, cr_istore 3 27),
  (27, cr_iload 3 28),
  (28, cr_iload 2 29),
  (29, cr_icge 42 32),
  (32, cr_aload 1 33),
  (33, cr_iload 3 34),
  (34, cr_push .null 35),
  (35, cr_aast D kc s0.heap.size (ca 3) cs_obj 36),
  (36, cr_iinc 3 1 39),
  (39, cr_goto 27),
  (42, cr_vret mc ms)]
def t_AL_clear (l : Launch) (s0 : State) (D : va_G) (ca : Nat → ClassId) (e0 d mc ms : Nat) : List (Nat × cr_T) := t_AL_clear_0 l s0 D ca e0 d mc ms
set_option maxHeartbeats 4000000 in
set_option maxRecDepth 20000 in
theorem s_AL_clear_0 {p : Program} {l : Launch} {e : Env} {R : Room} {s : State} {m : MethodId} {args : Array Value} {below : List Frame} {meth : Method} {c : Code} {s0 : State} {D : va_G} {ca : Nat → ClassId} {e0 d mc ms : Nat} {Q : cr_Q} (hl : l.flags = flags0) (Z : cr_Z0 s0 D ca e0) (C : cr_C p R s m meth c (cr_W0 s0) s0.heap.size y_AL_clear c_AL_clear 4 (Option.none : Option FieldType) d mc ms) (hem : c.exceptionTable.toList = []) : ∀ x ∈ t_AL_clear_0 l s0 D ca e0 d mc ms, cr_Snd p l e R s m args below meth c s0.heap.size mc ms Q x.1 x.2 := by
  obtain ⟨hx, hb, hml, hown, hr, hlk, hnm, hU, hlo, hR⟩ := C
  have hK := cr_Z0K Z hU
  have hRc : R.cells = mc := by rw [hR]; rfl
  have hRs : R.slots = ms := by rw [hR]; rfl
  unfold t_AL_clear_0
  refine cr_cons (cr_aload_n_ok hx hb d_AL_clear_0 rfl rfl) ?_
  refine cr_cons (cr_dup_ok hx hb d_AL_clear_1 rfl) ?_
  refine cr_cons (cr_getf_ok (C := R_AL) (T := T_AL) (N := 3) hx hb (k_AL Z hU args) (fun _ h => h) hown hK rfl (by decide) (cr_w Z w_52 rfl hU args) (fun x9 h9 => u_same (cr_w Z w_53 rfl hU args) x9 h9) d_AL_clear_2 rfl) ?_
  refine cr_cons (cr_iconst_ok hx hb d_AL_clear_5 (by decide) rfl) ?_
  refine cr_cons (cr_iadd_ok hx hb d_AL_clear_6 rfl) ?_
  refine cr_cons (cr_putf_ok (C := R_AL) (T := T_AL) (N := 3) tt_AL hx hb (k_AL Z hU args) (fun _ h => h) ty_AL nm_AL hown hK rfl (by decide) (Or.inl (cr_w Z w_52 rfl hU args)) (fun x9 h9 => u_same (cr_w Z w_53 rfl hU args) x9 h9) rfl (by decide +kernel) d_AL_clear_7 rfl) ?_
  refine cr_cons (cr_aload_n_ok hx hb d_AL_clear_10 rfl rfl) ?_
  refine cr_cons (cr_getf_ok (C := R_AL) (T := T_AL) (N := 3) hx hb (k_AL Z hU args) (fun _ h => h) hown hK rfl (by decide) (cr_w Z w_49 rfl hU args) (fun _ h => h) d_AL_clear_11 rfl) ?_
  refine cr_cons (cr_astore_n_ok hx hb d_AL_clear_14 rfl rfl) ?_
  refine cr_cons (cr_aload_n_ok hx hb d_AL_clear_15 rfl rfl) ?_
  refine cr_cons (cr_getf_ok (C := R_AL) (T := T_AL) (N := 3) hx hb (k_AL Z hU args) (fun _ h => h) hown hK rfl (by decide) (cr_w Z w_50 rfl hU args) (fun _ h => h) d_AL_clear_16 rfl) ?_
  refine cr_cons (cr_istore_n_ok hx hb d_AL_clear_19 rfl rfl) ?_
  refine cr_cons (cr_aload_n_ok hx hb d_AL_clear_20 rfl rfl) ?_
  refine cr_cons (cr_iconst_ok hx hb d_AL_clear_21 (by decide) rfl) ?_
  refine cr_cons (cr_dup_x1_ok hx hb d_AL_clear_22 rfl) ?_
  refine cr_cons (cr_putf_ok (C := R_AL) (T := T_AL) (N := 3) tt_AL hx hb (k_AL Z hU args) (fun _ h => h) ty_AL nm_AL hown hK rfl (by decide) (Or.inl (cr_w Z w_50 rfl hU args)) (fun _ h => h) rfl (by decide +kernel) d_AL_clear_23 rfl) ?_
  refine cr_cons (cr_istore_n_ok hx hb d_AL_clear_26 rfl rfl) ?_
  refine cr_cons (cr_iload_n_ok hx hb d_AL_clear_27 rfl rfl) ?_
  refine cr_cons (cr_iload_n_ok hx hb d_AL_clear_28 rfl rfl) ?_
  refine cr_cons (cr_icge_ok hx hb d_AL_clear_29 (by decide) rfl) ?_
  refine cr_cons (cr_aload_n_ok hx hb d_AL_clear_32 rfl rfl) ?_
  refine cr_cons (cr_iload_n_ok hx hb d_AL_clear_33 rfl rfl) ?_
  refine cr_cons (cr_null_ok hx hb d_AL_clear_34 rfl) ?_
  refine cr_cons (cr_aast_ok (t0 := 3) hx hb hK rfl (cs_obj_ok Z hU args) d_AL_clear_35 rfl) ?_
  refine cr_cons (cr_iinc_ok hx hb d_AL_clear_36 (by decide) rfl) ?_
  refine cr_cons (cr_goto_ok hx hb d_AL_clear_39 (by decide)) ?_
  refine cr_cons (cr_vret_ok hx hb hr hlk d_AL_clear_42) ?_
  exact cr_nil
theorem s_AL_clear {p : Program} {l : Launch} {e : Env} {R : Room} {s : State} {m : MethodId} {args : Array Value} {below : List Frame} {meth : Method} {c : Code} {s0 : State} {D : va_G} {ca : Nat → ClassId} {e0 d mc ms : Nat} {Q : cr_Q} (hl : l.flags = flags0) (Z : cr_Z0 s0 D ca e0) (C : cr_C p R s m meth c (cr_W0 s0) s0.heap.size y_AL_clear c_AL_clear 4 (Option.none : Option FieldType) d mc ms) (hem : c.exceptionTable.toList = []) : ∀ x ∈ t_AL_clear l s0 D ca e0 d mc ms, cr_Snd p l e R s m args below meth c s0.heap.size mc ms Q x.1 x.2 := s_AL_clear_0 hl Z C hem
