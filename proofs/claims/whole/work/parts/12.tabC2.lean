theorem d_C_two_0 : decode c_C_two 0 = .ok (.aload_n 0, 1) := by decide +kernel
theorem d_C_two_1 : decode c_C_two 1 = .ok (.iload_n 1, 1) := by decide +kernel
theorem d_C_two_2 : decode c_C_two 2 = .ok (.invokevirtual 170, 3) := by decide +kernel
theorem d_C_two_5 : decode c_C_two 5 = .ok (.astore_n 3, 1) := by decide +kernel
theorem d_C_two_6 : decode c_C_two 6 = .ok (.aload_n 3, 1) := by decide +kernel
theorem d_C_two_7 : decode c_C_two 7 = .ok (.getfield 174, 3) := by decide +kernel
theorem d_C_two_10 : decode c_C_two 10 = .ok (.istore 4, 2) := by decide +kernel
theorem d_C_two_12 : decode c_C_two 12 = .ok (.aload_n 3, 1) := by decide +kernel
theorem d_C_two_13 : decode c_C_two 13 = .ok (.iload_n 2, 1) := by decide +kernel
theorem d_C_two_14 : decode c_C_two 14 = .ok (.putfield 174, 3) := by decide +kernel
theorem d_C_two_17 : decode c_C_two 17 = .ok (.iload 4, 2) := by decide +kernel
theorem d_C_two_19 : decode c_C_two 19 = .ok (.ireturn, 1) := by decide +kernel
def t_C_two_0 (l : Launch) (s0 : State) (D : va_G) (ca : Nat → ClassId) (e0 d mc ms : Nat) : List (Nat × cr_T) := [(0, cr_aload 0 1),
  (1, cr_iload 1 2),
  (2, cr_calV D kc l (cr_W0 s0) s0.heap.size 0 y_C_doorNumbered cw_C_doorNumbered d mc ms 1 5 5),
  (5, cr_astore 3 6),
  (6, cr_aload 3 7),
  (7, cr_getf D kc 2 3 10),
  (10, cr_istore 4 12),
  (12, cr_aload 3 13),
  (13, cr_iload 2 14),
  (14, cr_putf D kc s0.heap.size 2 3 .boolean 17),
  (17, cr_iload 4 19),
  (19, cr_zret mc ms .boolean)]
def t_C_two (l : Launch) (s0 : State) (D : va_G) (ca : Nat → ClassId) (e0 d mc ms : Nat) : List (Nat × cr_T) := t_C_two_0 l s0 D ca e0 d mc ms
set_option maxHeartbeats 4000000 in
set_option maxRecDepth 20000 in
theorem s_C_two_0 {p : Program} {l : Launch} {e : Env} {R : Room} {s : State} {m : MethodId} {args : Array Value} {below : List Frame} {meth : Method} {c : Code} {s0 : State} {D : va_G} {ca : Nat → ClassId} {e0 d mc ms : Nat} {Q : cr_Q} (hl : l.flags = flags0) (Z : cr_Z0 s0 D ca e0) (C : cr_C p R s m meth c (cr_W0 s0) s0.heap.size y_C_two c_C_two 5 (Option.some FieldType.boolean) d mc ms) (hem : c.exceptionTable.toList = []) : ∀ x ∈ t_C_two_0 l s0 D ca e0 d mc ms, cr_Snd p l e R s m args below meth c s0.heap.size mc ms Q x.1 x.2 := by
  obtain ⟨hx, hb, hml, hown, hr, hlk, hnm, hU, hlo, hR⟩ := C
  have hK := cr_Z0K Z hU
  have hRc : R.cells = mc := by rw [hR]; rfl
  have hRs : R.slots = ms := by rw [hR]; rfl
  unfold t_C_two_0
  refine cr_cons (cr_aload_n_ok hx hb d_C_two_0 rfl rfl) ?_
  refine cr_cons (cr_iload_n_ok hx hb d_C_two_1 rfl rfl) ?_
  refine cr_cons (cr_calV_ok (C := R_C) (Tf := T_C) (N := 10) hx hb hml hown hlk hU hlo hR (cr_W0_st s0) (by rw [hem]; exact fun _ h => absurd h List.not_mem_nil) hK rfl (u_C_doorNumbered Z) (Or.inl (cr_w Z w_630 rfl hU args)) (cr_w Z w_632 rfl hU args) (cr_w Z ws_15 rfl hU args) (by decide) (by decide +kernel) (by decide) d_C_two_2 rfl) ?_
  refine cr_cons (cr_astore_n_ok hx hb d_C_two_5 rfl rfl) ?_
  refine cr_cons (cr_aload_n_ok hx hb d_C_two_6 rfl rfl) ?_
  refine cr_cons (cr_getfN_ok (C := R_Dr) (T := T_Dr) (N := 10) hx hb (k_Dr Z hU args) (fun _ h => h) hown hK rfl (by decide) (cr_w Z w_463 rfl hU args) (fun _ h => h) d_C_two_7 rfl) ?_
  refine cr_cons (cr_istore_ok hx hb d_C_two_10 rfl) ?_
  refine cr_cons (cr_aload_n_ok hx hb d_C_two_12 rfl rfl) ?_
  refine cr_cons (cr_iload_n_ok hx hb d_C_two_13 rfl rfl) ?_
  refine cr_cons (cr_putf_ok (C := R_Dr) (T := T_Dr) (N := 10) tt_Dr hx hb (k_Dr Z hU args) (fun _ h => h) ty_Dr nm_Dr hown hK rfl (by decide) (Or.inr ⟨_, (cr_w Z w_463 rfl hU args)⟩) (fun _ h => h) rfl (by decide +kernel) d_C_two_14 rfl) ?_
  refine cr_cons (cr_iload_ok hx hb d_C_two_17 rfl) ?_
  refine cr_cons (cr_zret_ok hx hb hr hlk d_C_two_19) ?_
  exact cr_nil
theorem s_C_two {p : Program} {l : Launch} {e : Env} {R : Room} {s : State} {m : MethodId} {args : Array Value} {below : List Frame} {meth : Method} {c : Code} {s0 : State} {D : va_G} {ca : Nat → ClassId} {e0 d mc ms : Nat} {Q : cr_Q} (hl : l.flags = flags0) (Z : cr_Z0 s0 D ca e0) (C : cr_C p R s m meth c (cr_W0 s0) s0.heap.size y_C_two c_C_two 5 (Option.some FieldType.boolean) d mc ms) (hem : c.exceptionTable.toList = []) : ∀ x ∈ t_C_two l s0 D ca e0 d mc ms, cr_Snd p l e R s m args below meth c s0.heap.size mc ms Q x.1 x.2 := s_C_two_0 hl Z C hem
theorem d_C_doorNumbered_0 : decode c_C_doorNumbered 0 = .ok (.iload_n 1, 1) := by decide +kernel
theorem d_C_doorNumbered_1 : decode c_C_doorNumbered 1 = .ok (.ifCond .lt 16, 3) := by decide +kernel
theorem d_C_doorNumbered_4 : decode c_C_doorNumbered 4 = .ok (.iload_n 1, 1) := by decide +kernel
theorem d_C_doorNumbered_5 : decode c_C_doorNumbered 5 = .ok (.aload_n 0, 1) := by decide +kernel
theorem d_C_doorNumbered_6 : decode c_C_doorNumbered 6 = .ok (.getfield 16, 3) := by decide +kernel
theorem d_C_doorNumbered_9 : decode c_C_doorNumbered 9 = .ok (.invokeinterface 64 1, 5) := by decide +kernel
theorem d_C_doorNumbered_14 : decode c_C_doorNumbered 14 = .ok (.if_icmp .lt 14, 3) := by decide +kernel
theorem d_C_doorNumbered_17 : decode c_C_doorNumbered 17 = .ok (.new 93, 3) := by decide +kernel
theorem d_C_doorNumbered_20 : decode c_C_doorNumbered 20 = .ok (.dup, 1) := by decide +kernel
theorem d_C_doorNumbered_21 : decode c_C_doorNumbered 21 = .ok (.ldc_w 298, 3) := by decide +kernel
theorem d_C_doorNumbered_24 : decode c_C_doorNumbered 24 = .ok (.invokespecial 97, 3) := by decide +kernel
theorem d_C_doorNumbered_27 : decode c_C_doorNumbered 27 = .ok (.athrow, 1) := by decide +kernel
theorem d_C_doorNumbered_28 : decode c_C_doorNumbered 28 = .ok (.aload_n 0, 1) := by decide +kernel
theorem d_C_doorNumbered_29 : decode c_C_doorNumbered 29 = .ok (.getfield 16, 3) := by decide +kernel
theorem d_C_doorNumbered_32 : decode c_C_doorNumbered 32 = .ok (.iload_n 1, 1) := by decide +kernel
theorem d_C_doorNumbered_33 : decode c_C_doorNumbered 33 = .ok (.invokeinterface 119 2, 5) := by decide +kernel
theorem d_C_doorNumbered_38 : decode c_C_doorNumbered 38 = .ok (.checkcast 100, 3) := by decide +kernel
theorem d_C_doorNumbered_41 : decode c_C_doorNumbered 41 = .ok (.areturn, 1) := by decide +kernel
def t_C_doorNumbered_0 (l : Launch) (s0 : State) (D : va_G) (ca : Nat → ClassId) (e0 d mc ms : Nat) : List (Nat × cr_T) := [(0, cr_iload 1 1),
  (1, cr_iflt 17 4),
  (4, cr_iload 1 5),
  (5, cr_aload 0 6),
  (6, cr_getf D kc 0 1 9),
  (9, cr_calV D kc l (cr_W0 s0) s0.heap.size 12 y_AL_size cw_AL_size d mc ms 0 2 14),
  (14, cr_iclt 28 17),
  (17, cr_thr s0 mc ms d 1 2),
  (28, cr_aload 0 29),
  (29, cr_getf D kc 0 1 32),
  (32, cr_iload 1 33),
  (33, cr_calV D kc l (cr_W0 s0) s0.heap.size 12 y_AL_get cw_AL_get d mc ms 1 2 38),
  (38, cr_cast D kc 2 41),
  (41, cr_aret mc ms)]
def t_C_doorNumbered (l : Launch) (s0 : State) (D : va_G) (ca : Nat → ClassId) (e0 d mc ms : Nat) : List (Nat × cr_T) := t_C_doorNumbered_0 l s0 D ca e0 d mc ms
set_option maxHeartbeats 4000000 in
set_option maxRecDepth 20000 in
theorem s_C_doorNumbered_0 {p : Program} {l : Launch} {e : Env} {R : Room} {s : State} {m : MethodId} {args : Array Value} {below : List Frame} {meth : Method} {c : Code} {s0 : State} {D : va_G} {ca : Nat → ClassId} {e0 d mc ms : Nat} {Q : cr_Q} (hl : l.flags = flags0) (Z : cr_Z0 s0 D ca e0) (C : cr_C p R s m meth c (cr_W0 s0) s0.heap.size y_C_doorNumbered c_C_doorNumbered 2 (Option.some (FieldType.object "CardRights$Door")) d mc ms) (hem : c.exceptionTable.toList = []) : ∀ x ∈ t_C_doorNumbered_0 l s0 D ca e0 d mc ms, cr_Snd p l e R s m args below meth c s0.heap.size mc ms Q x.1 x.2 := by
  obtain ⟨hx, hb, hml, hown, hr, hlk, hnm, hU, hlo, hR⟩ := C
  have hK := cr_Z0K Z hU
  have hRc : R.cells = mc := by rw [hR]; rfl
  have hRs : R.slots = ms := by rw [hR]; rfl
  unfold t_C_doorNumbered_0
  refine cr_cons (cr_iload_n_ok hx hb d_C_doorNumbered_0 rfl rfl) ?_
  refine cr_cons (cr_iflt_ok hx hb d_C_doorNumbered_1 (by decide) rfl) ?_
  refine cr_cons (cr_iload_n_ok hx hb d_C_doorNumbered_4 rfl rfl) ?_
  refine cr_cons (cr_aload_n_ok hx hb d_C_doorNumbered_5 rfl rfl) ?_
  refine cr_cons (cr_getf_ok (C := R_C) (T := T_C) (N := 10) hx hb (k_C Z hU args) (fun _ h => h) hown hK rfl (by decide) (cr_w Z w_137 rfl hU args) (fun _ h => h) d_C_doorNumbered_6 rfl) ?_
  refine cr_cons (cr_calF_ok (C := R_AL) (Tf := T_AL) (N := 3) (x := { cls := "java/util/List", name := "size", desc := "()I" }) hx hb hml hown hlk hU hlo hR (cr_W0_st s0) (by rw [hem]; exact fun _ h => absurd h List.not_mem_nil) hK rfl (u_AL_size Z) (cr_w Z w_197 rfl hU args) (cr_w Z w_199 rfl hU args) (cr_w Z w_198 rfl hU args) (cr_w Z w_201 rfl hU args) (cr_w Z w_203 rfl hU args) (cr_w Z w_204 rfl hU args) (cr_w Z w_202 rfl hU args) (cr_w Z w_200 rfl hU args) (by decide) (by decide +kernel) (by decide) d_C_doorNumbered_9 rfl) ?_
  refine cr_cons (cr_iclt_ok hx hb d_C_doorNumbered_14 (by decide) rfl) ?_
  refine cr_cons (cr_thrw_ok (X := "java/lang/IllegalArgumentException") hx hb hml hown hlk hU hR hem Z hl rfl w_267 w_268 w_14 own_C_97 str_298 d_C_doorNumbered_17 d_C_doorNumbered_20 d_C_doorNumbered_21 d_C_doorNumbered_24 d_C_doorNumbered_27) ?_
  refine cr_cons (cr_aload_n_ok hx hb d_C_doorNumbered_28 rfl rfl) ?_
  refine cr_cons (cr_getf_ok (C := R_C) (T := T_C) (N := 10) hx hb (k_C Z hU args) (fun _ h => h) hown hK rfl (by decide) (cr_w Z w_137 rfl hU args) (fun _ h => h) d_C_doorNumbered_29 rfl) ?_
  refine cr_cons (cr_iload_n_ok hx hb d_C_doorNumbered_32 rfl rfl) ?_
  refine cr_cons (cr_calF_ok (C := R_AL) (Tf := T_AL) (N := 3) (x := { cls := "java/util/List", name := "get", desc := "(I)Ljava/lang/Object;" }) hx hb hml hown hlk hU hlo hR (cr_W0_st s0) (by rw [hem]; exact fun _ h => absurd h List.not_mem_nil) hK rfl (u_AL_get Z) (cr_w Z w_207 rfl hU args) (cr_w Z w_209 rfl hU args) (cr_w Z w_208 rfl hU args) (cr_w Z w_210 rfl hU args) (cr_w Z w_212 rfl hU args) (cr_w Z w_213 rfl hU args) (cr_w Z w_211 rfl hU args) (cr_w Z w_200 rfl hU args) (by decide) (by decide +kernel) (by decide) d_C_doorNumbered_33 rfl) ?_
  refine cr_cons (cr_cast_ok (C := R_Dr) (T := T_Dr) (N := 10) hx hb hown (cr_w Z w_446 rfl hU args) hK rfl rfl d_C_doorNumbered_38 rfl) ?_
  refine cr_cons (cr_aret_ok hx hb hr (Or.inl ⟨_, rfl⟩) hlk d_C_doorNumbered_41) ?_
  exact cr_nil
theorem s_C_doorNumbered {p : Program} {l : Launch} {e : Env} {R : Room} {s : State} {m : MethodId} {args : Array Value} {below : List Frame} {meth : Method} {c : Code} {s0 : State} {D : va_G} {ca : Nat → ClassId} {e0 d mc ms : Nat} {Q : cr_Q} (hl : l.flags = flags0) (Z : cr_Z0 s0 D ca e0) (C : cr_C p R s m meth c (cr_W0 s0) s0.heap.size y_C_doorNumbered c_C_doorNumbered 2 (Option.some (FieldType.object "CardRights$Door")) d mc ms) (hem : c.exceptionTable.toList = []) : ∀ x ∈ t_C_doorNumbered l s0 D ca e0 d mc ms, cr_Snd p l e R s m args below meth c s0.heap.size mc ms Q x.1 x.2 := s_C_doorNumbered_0 hl Z C hem
theorem d_C_airlock_0 : decode c_C_airlock 0 = .ok (.aload_n 0, 1) := by decide +kernel
theorem d_C_airlock_1 : decode c_C_airlock 1 = .ok (.iload_n 1, 1) := by decide +kernel
theorem d_C_airlock_2 : decode c_C_airlock 2 = .ok (.invokevirtual 170, 3) := by decide +kernel
theorem d_C_airlock_5 : decode c_C_airlock 5 = .ok (.astore 4, 2) := by decide +kernel
theorem d_C_airlock_7 : decode c_C_airlock 7 = .ok (.aload_n 0, 1) := by decide +kernel
theorem d_C_airlock_8 : decode c_C_airlock 8 = .ok (.iload_n 2, 1) := by decide +kernel
theorem d_C_airlock_9 : decode c_C_airlock 9 = .ok (.invokevirtual 170, 3) := by decide +kernel
theorem d_C_airlock_12 : decode c_C_airlock 12 = .ok (.astore 5, 2) := by decide +kernel
theorem d_C_airlock_14 : decode c_C_airlock 14 = .ok (.iload_n 1, 1) := by decide +kernel
theorem d_C_airlock_15 : decode c_C_airlock 15 = .ok (.iload_n 2, 1) := by decide +kernel
theorem d_C_airlock_16 : decode c_C_airlock 16 = .ok (.if_icmp .ne 13, 3) := by decide +kernel
theorem d_C_airlock_19 : decode c_C_airlock 19 = .ok (.new 93, 3) := by decide +kernel
theorem d_C_airlock_22 : decode c_C_airlock 22 = .ok (.dup, 1) := by decide +kernel
theorem d_C_airlock_23 : decode c_C_airlock 23 = .ok (.ldc 178, 2) := by decide +kernel
theorem d_C_airlock_25 : decode c_C_airlock 25 = .ok (.invokespecial 97, 3) := by decide +kernel
theorem d_C_airlock_28 : decode c_C_airlock 28 = .ok (.athrow, 1) := by decide +kernel
theorem d_C_airlock_29 : decode c_C_airlock 29 = .ok (.aload 4, 2) := by decide +kernel
theorem d_C_airlock_31 : decode c_C_airlock 31 = .ok (.aload 5, 2) := by decide +kernel
theorem d_C_airlock_33 : decode c_C_airlock 33 = .ok (.invokevirtual 180, 3) := by decide +kernel
theorem d_C_airlock_36 : decode c_C_airlock 36 = .ok (.istore 6, 2) := by decide +kernel
theorem d_C_airlock_38 : decode c_C_airlock 38 = .ok (.aload 4, 2) := by decide +kernel
theorem d_C_airlock_40 : decode c_C_airlock 40 = .ok (.aload 5, 2) := by decide +kernel
theorem d_C_airlock_42 : decode c_C_airlock 42 = .ok (.iload_n 3, 1) := by decide +kernel
theorem d_C_airlock_43 : decode c_C_airlock 43 = .ok (.invokevirtual 184, 3) := by decide +kernel
theorem d_C_airlock_46 : decode c_C_airlock 46 = .ok (.aload 5, 2) := by decide +kernel
theorem d_C_airlock_48 : decode c_C_airlock 48 = .ok (.aload 4, 2) := by decide +kernel
theorem d_C_airlock_50 : decode c_C_airlock 50 = .ok (.iload_n 3, 1) := by decide +kernel
theorem d_C_airlock_51 : decode c_C_airlock 51 = .ok (.invokevirtual 184, 3) := by decide +kernel
theorem d_C_airlock_54 : decode c_C_airlock 54 = .ok (.iload 6, 2) := by decide +kernel
theorem d_C_airlock_56 : decode c_C_airlock 56 = .ok (.ireturn, 1) := by decide +kernel
def t_C_airlock_0 (l : Launch) (s0 : State) (D : va_G) (ca : Nat → ClassId) (e0 d mc ms : Nat) : List (Nat × cr_T) := [(0, cr_aload 0 1),
  (1, cr_iload 1 2),
  (2, cr_calV D kc l (cr_W0 s0) s0.heap.size 0 y_C_doorNumbered cw_C_doorNumbered d mc ms 1 7 5),
  (5, cr_astore 4 7),
  (7, cr_aload 0 8),
  (8, cr_iload 2 9),
  (9, cr_calV D kc l (cr_W0 s0) s0.heap.size 0 y_C_doorNumbered cw_C_doorNumbered d mc ms 1 7 12),
  (12, cr_astore 5 14),
  (14, cr_iload 1 15),
  (15, cr_iload 2 16),
  (16, cr_icne 29 19),
  (19, cr_thr s0 mc ms d 1 7),
  (29, cr_aload 4 31),
  (31, cr_aload 5 33),
  (33, cr_calV D kc l (cr_W0 s0) s0.heap.size 2 y_Dr_isAirlockWith cw_Dr_isAirlockWith d mc ms 1 7 36),
  (36, cr_istore 6 38),
  (38, cr_aload 4 40),
  (40, cr_aload 5 42),
  (42, cr_iload 3 43),
  (43, cr_calV D kc l (cr_W0 s0) s0.heap.size 2 y_Dr_setAirlockWith cw_Dr_setAirlockWith d mc ms 2 7 46),
  (46, cr_aload 5 48),
  (48, cr_aload 4 50),
  (50, cr_iload 3 51),
  (51, cr_calV D kc l (cr_W0 s0) s0.heap.size 2 y_Dr_setAirlockWith cw_Dr_setAirlockWith d mc ms 2 7 54),
  (54, cr_iload 6 56),
  (56, cr_zret mc ms .boolean)]
def t_C_airlock (l : Launch) (s0 : State) (D : va_G) (ca : Nat → ClassId) (e0 d mc ms : Nat) : List (Nat × cr_T) := t_C_airlock_0 l s0 D ca e0 d mc ms
set_option maxHeartbeats 4000000 in
set_option maxRecDepth 20000 in
theorem s_C_airlock_0 {p : Program} {l : Launch} {e : Env} {R : Room} {s : State} {m : MethodId} {args : Array Value} {below : List Frame} {meth : Method} {c : Code} {s0 : State} {D : va_G} {ca : Nat → ClassId} {e0 d mc ms : Nat} {Q : cr_Q} (hl : l.flags = flags0) (Z : cr_Z0 s0 D ca e0) (C : cr_C p R s m meth c (cr_W0 s0) s0.heap.size y_C_airlock c_C_airlock 7 (Option.some FieldType.boolean) d mc ms) (hem : c.exceptionTable.toList = []) : ∀ x ∈ t_C_airlock_0 l s0 D ca e0 d mc ms, cr_Snd p l e R s m args below meth c s0.heap.size mc ms Q x.1 x.2 := by
  obtain ⟨hx, hb, hml, hown, hr, hlk, hnm, hU, hlo, hR⟩ := C
  have hK := cr_Z0K Z hU
  have hRc : R.cells = mc := by rw [hR]; rfl
  have hRs : R.slots = ms := by rw [hR]; rfl
  unfold t_C_airlock_0
  refine cr_cons (cr_aload_n_ok hx hb d_C_airlock_0 rfl rfl) ?_
  refine cr_cons (cr_iload_n_ok hx hb d_C_airlock_1 rfl rfl) ?_
  refine cr_cons (cr_calV_ok (C := R_C) (Tf := T_C) (N := 10) hx hb hml hown hlk hU hlo hR (cr_W0_st s0) (by rw [hem]; exact fun _ h => absurd h List.not_mem_nil) hK rfl (u_C_doorNumbered Z) (Or.inl (cr_w Z w_630 rfl hU args)) (cr_w Z w_632 rfl hU args) (cr_w Z ws_15 rfl hU args) (by decide) (by decide +kernel) (by decide) d_C_airlock_2 rfl) ?_
  refine cr_cons (cr_astore_ok hx hb d_C_airlock_5 rfl) ?_
  refine cr_cons (cr_aload_n_ok hx hb d_C_airlock_7 rfl rfl) ?_
  refine cr_cons (cr_iload_n_ok hx hb d_C_airlock_8 rfl rfl) ?_
  refine cr_cons (cr_calV_ok (C := R_C) (Tf := T_C) (N := 10) hx hb hml hown hlk hU hlo hR (cr_W0_st s0) (by rw [hem]; exact fun _ h => absurd h List.not_mem_nil) hK rfl (u_C_doorNumbered Z) (Or.inl (cr_w Z w_630 rfl hU args)) (cr_w Z w_632 rfl hU args) (cr_w Z ws_15 rfl hU args) (by decide) (by decide +kernel) (by decide) d_C_airlock_9 rfl) ?_
  refine cr_cons (cr_astore_ok hx hb d_C_airlock_12 rfl) ?_
  refine cr_cons (cr_iload_n_ok hx hb d_C_airlock_14 rfl rfl) ?_
  refine cr_cons (cr_iload_n_ok hx hb d_C_airlock_15 rfl rfl) ?_
  refine cr_cons (cr_icne_ok hx hb d_C_airlock_16 (by decide) rfl) ?_
  refine cr_cons (cr_thr_ok (X := "java/lang/IllegalArgumentException") hx hb hml hown hlk hU hR hem Z hl rfl w_267 w_268 w_14 own_C_97 str_178 d_C_airlock_19 d_C_airlock_22 d_C_airlock_23 d_C_airlock_25 d_C_airlock_28) ?_
  refine cr_cons (cr_aload_ok hx hb d_C_airlock_29 rfl) ?_
  refine cr_cons (cr_aload_ok hx hb d_C_airlock_31 rfl) ?_
  refine cr_cons (cr_calV_ok (C := R_Dr) (Tf := T_Dr) (N := 10) hx hb hml hown hlk hU hlo hR (cr_W0_st s0) (by rw [hem]; exact fun _ h => absurd h List.not_mem_nil) hK rfl (u_Dr_isAirlockWith Z) (Or.inr ⟨_, (cr_w Z w_643 rfl hU args)⟩) (cr_w Z w_645 rfl hU args) (cr_w Z ws_16 rfl hU args) (by decide) (by decide +kernel) (by decide) d_C_airlock_33 rfl) ?_
  refine cr_cons (cr_istore_ok hx hb d_C_airlock_36 rfl) ?_
  refine cr_cons (cr_aload_ok hx hb d_C_airlock_38 rfl) ?_
  refine cr_cons (cr_aload_ok hx hb d_C_airlock_40 rfl) ?_
  refine cr_cons (cr_iload_n_ok hx hb d_C_airlock_42 rfl rfl) ?_
  refine cr_cons (cr_calV_ok (C := R_Dr) (Tf := T_Dr) (N := 10) hx hb hml hown hlk hU hlo hR (cr_W0_st s0) (by rw [hem]; exact fun _ h => absurd h List.not_mem_nil) hK rfl (u_Dr_setAirlockWith Z) (Or.inr ⟨_, (cr_w Z w_647 rfl hU args)⟩) (cr_w Z w_649 rfl hU args) (cr_w Z ws_17 rfl hU args) (by decide) (by decide +kernel) (by decide) d_C_airlock_43 rfl) ?_
  refine cr_cons (cr_aload_ok hx hb d_C_airlock_46 rfl) ?_
  refine cr_cons (cr_aload_ok hx hb d_C_airlock_48 rfl) ?_
  refine cr_cons (cr_iload_n_ok hx hb d_C_airlock_50 rfl rfl) ?_
  refine cr_cons (cr_calV_ok (C := R_Dr) (Tf := T_Dr) (N := 10) hx hb hml hown hlk hU hlo hR (cr_W0_st s0) (by rw [hem]; exact fun _ h => absurd h List.not_mem_nil) hK rfl (u_Dr_setAirlockWith Z) (Or.inr ⟨_, (cr_w Z w_647 rfl hU args)⟩) (cr_w Z w_649 rfl hU args) (cr_w Z ws_17 rfl hU args) (by decide) (by decide +kernel) (by decide) d_C_airlock_51 rfl) ?_
  refine cr_cons (cr_iload_ok hx hb d_C_airlock_54 rfl) ?_
  refine cr_cons (cr_zret_ok hx hb hr hlk d_C_airlock_56) ?_
  exact cr_nil
theorem s_C_airlock {p : Program} {l : Launch} {e : Env} {R : Room} {s : State} {m : MethodId} {args : Array Value} {below : List Frame} {meth : Method} {c : Code} {s0 : State} {D : va_G} {ca : Nat → ClassId} {e0 d mc ms : Nat} {Q : cr_Q} (hl : l.flags = flags0) (Z : cr_Z0 s0 D ca e0) (C : cr_C p R s m meth c (cr_W0 s0) s0.heap.size y_C_airlock c_C_airlock 7 (Option.some FieldType.boolean) d mc ms) (hem : c.exceptionTable.toList = []) : ∀ x ∈ t_C_airlock l s0 D ca e0 d mc ms, cr_Snd p l e R s m args below meth c s0.heap.size mc ms Q x.1 x.2 := s_C_airlock_0 hl Z C hem
theorem d_C_state_0 : decode c_C_state 0 = .ok (.aload_n 0, 1) := by decide +kernel
theorem d_C_state_1 : decode c_C_state 1 = .ok (.iload_n 1, 1) := by decide +kernel
theorem d_C_state_2 : decode c_C_state 2 = .ok (.invokevirtual 170, 3) := by decide +kernel
theorem d_C_state_5 : decode c_C_state 5 = .ok (.astore 4, 2) := by decide +kernel
theorem d_C_state_7 : decode c_C_state 7 = .ok (.aload_n 0, 1) := by decide +kernel
theorem d_C_state_8 : decode c_C_state 8 = .ok (.iload_n 3, 1) := by decide +kernel
theorem d_C_state_9 : decode c_C_state 9 = .ok (.invokevirtual 188, 3) := by decide +kernel
theorem d_C_state_12 : decode c_C_state 12 = .ok (.aload_n 0, 1) := by decide +kernel
theorem d_C_state_13 : decode c_C_state 13 = .ok (.iload_n 3, 1) := by decide +kernel
theorem d_C_state_14 : decode c_C_state 14 = .ok (.putfield 56, 3) := by decide +kernel
theorem d_C_state_17 : decode c_C_state 17 = .ok (.iload_n 3, 1) := by decide +kernel
theorem d_C_state_18 : decode c_C_state 18 = .ok (.aload 4, 2) := by decide +kernel
theorem d_C_state_20 : decode c_C_state 20 = .ok (.getfield 191, 3) := by decide +kernel
theorem d_C_state_23 : decode c_C_state 23 = .ok (.isub, 1) := by decide +kernel
theorem d_C_state_24 : decode c_C_state 24 = .ok (.istore 5, 2) := by decide +kernel
theorem d_C_state_26 : decode c_C_state 26 = .ok (.aload 4, 2) := by decide +kernel
theorem d_C_state_28 : decode c_C_state 28 = .ok (.getfield 194, 3) := by decide +kernel
theorem d_C_state_31 : decode c_C_state 31 = .ok (.iload_n 2, 1) := by decide +kernel
theorem d_C_state_32 : decode c_C_state 32 = .ok (.if_icmp .eq 15, 3) := by decide +kernel
theorem d_C_state_35 : decode c_C_state 35 = .ok (.aload 4, 2) := by decide +kernel
theorem d_C_state_37 : decode c_C_state 37 = .ok (.iload_n 2, 1) := by decide +kernel
theorem d_C_state_38 : decode c_C_state 38 = .ok (.putfield 194, 3) := by decide +kernel
theorem d_C_state_41 : decode c_C_state 41 = .ok (.aload 4, 2) := by decide +kernel
theorem d_C_state_43 : decode c_C_state 43 = .ok (.iload_n 3, 1) := by decide +kernel
theorem d_C_state_44 : decode c_C_state 44 = .ok (.putfield 191, 3) := by decide +kernel
theorem d_C_state_47 : decode c_C_state 47 = .ok (.iload 5, 2) := by decide +kernel
theorem d_C_state_49 : decode c_C_state 49 = .ok (.ireturn, 1) := by decide +kernel
def t_C_state_0 (l : Launch) (s0 : State) (D : va_G) (ca : Nat → ClassId) (e0 d mc ms : Nat) : List (Nat × cr_T) := [(0, cr_aload 0 1),
  (1, cr_iload 1 2),
  (2, cr_calV D kc l (cr_W0 s0) s0.heap.size 0 y_C_doorNumbered cw_C_doorNumbered d mc ms 1 6 5),
  (5, cr_astore 4 7),
  (7, cr_aload 0 8),
  (8, cr_iload 3 9),
  (9, cr_calV D kc l (cr_W0 s0) s0.heap.size 0 y_C_checkMinuteFromNow cw_C_checkMinuteFromNow d mc ms 1 6 12),
  (12, cr_aload 0 13),
  (13, cr_iload 3 14),
  (14, cr_putf D kc s0.heap.size 0 9 .int 17),
  (17, cr_iload 3 18),
  (18, cr_aload 4 20),
  (20, cr_getf D kc 2 5 23),
  (23, cr_isub 24),
  (24, cr_istore 5 26),
  (26, cr_aload 4 28),
  (28, cr_getf D kc 2 4 31),
  (31, cr_iload 2 32),
  (32, cr_iceq 47 35),
  (35, cr_aload 4 37),
  (37, cr_iload 2 38),
  (38, cr_putf D kc s0.heap.size 2 4 .boolean 41),
  (41, cr_aload 4 43),
  (43, cr_iload 3 44),
  (44, cr_putf D kc s0.heap.size 2 5 .int 47),
  (47, cr_iload 5 49),
  (49, cr_iret mc ms)]
def t_C_state (l : Launch) (s0 : State) (D : va_G) (ca : Nat → ClassId) (e0 d mc ms : Nat) : List (Nat × cr_T) := t_C_state_0 l s0 D ca e0 d mc ms
set_option maxHeartbeats 4000000 in
set_option maxRecDepth 20000 in
theorem s_C_state_0 {p : Program} {l : Launch} {e : Env} {R : Room} {s : State} {m : MethodId} {args : Array Value} {below : List Frame} {meth : Method} {c : Code} {s0 : State} {D : va_G} {ca : Nat → ClassId} {e0 d mc ms : Nat} {Q : cr_Q} (hl : l.flags = flags0) (Z : cr_Z0 s0 D ca e0) (C : cr_C p R s m meth c (cr_W0 s0) s0.heap.size y_C_state c_C_state 6 (Option.some FieldType.int) d mc ms) (hem : c.exceptionTable.toList = []) : ∀ x ∈ t_C_state_0 l s0 D ca e0 d mc ms, cr_Snd p l e R s m args below meth c s0.heap.size mc ms Q x.1 x.2 := by
  obtain ⟨hx, hb, hml, hown, hr, hlk, hnm, hU, hlo, hR⟩ := C
  have hK := cr_Z0K Z hU
  have hRc : R.cells = mc := by rw [hR]; rfl
  have hRs : R.slots = ms := by rw [hR]; rfl
  unfold t_C_state_0
  refine cr_cons (cr_aload_n_ok hx hb d_C_state_0 rfl rfl) ?_
  refine cr_cons (cr_iload_n_ok hx hb d_C_state_1 rfl rfl) ?_
  refine cr_cons (cr_calV_ok (C := R_C) (Tf := T_C) (N := 10) hx hb hml hown hlk hU hlo hR (cr_W0_st s0) (by rw [hem]; exact fun _ h => absurd h List.not_mem_nil) hK rfl (u_C_doorNumbered Z) (Or.inl (cr_w Z w_630 rfl hU args)) (cr_w Z w_632 rfl hU args) (cr_w Z ws_15 rfl hU args) (by decide) (by decide +kernel) (by decide) d_C_state_2 rfl) ?_
  refine cr_cons (cr_astore_ok hx hb d_C_state_5 rfl) ?_
  refine cr_cons (cr_aload_n_ok hx hb d_C_state_7 rfl rfl) ?_
  refine cr_cons (cr_iload_n_ok hx hb d_C_state_8 rfl rfl) ?_
  refine cr_cons (cr_calV_ok (C := R_C) (Tf := T_C) (N := 10) hx hb hml hown hlk hU hlo hR (cr_W0_st s0) (by rw [hem]; exact fun _ h => absurd h List.not_mem_nil) hK rfl (u_C_checkMinuteFromNow Z) (Or.inl (cr_w Z w_658 rfl hU args)) (cr_w Z w_660 rfl hU args) (cr_w Z ws_18 rfl hU args) (by decide) (by decide +kernel) (by decide) d_C_state_9 rfl) ?_
  refine cr_cons (cr_aload_n_ok hx hb d_C_state_12 rfl rfl) ?_
  refine cr_cons (cr_iload_n_ok hx hb d_C_state_13 rfl rfl) ?_
  refine cr_cons (cr_putf_ok (C := R_C) (T := T_C) (N := 10) tt_C hx hb (k_C Z hU args) (fun _ h => h) ty_C nm_C hown hK rfl (by decide) (Or.inl (cr_w Z w_145 rfl hU args)) (fun _ h => h) rfl (by decide +kernel) d_C_state_14 rfl) ?_
  refine cr_cons (cr_iload_n_ok hx hb d_C_state_17 rfl rfl) ?_
  refine cr_cons (cr_aload_ok hx hb d_C_state_18 rfl) ?_
  refine cr_cons (cr_getfN_ok (C := R_Dr) (T := T_Dr) (N := 10) hx hb (k_Dr Z hU args) (fun _ h => h) hown hK rfl (by decide) (cr_w Z w_467 rfl hU args) (fun _ h => h) d_C_state_20 rfl) ?_
  refine cr_cons (cr_isub_ok hx hb d_C_state_23 rfl) ?_
  refine cr_cons (cr_istore_ok hx hb d_C_state_24 rfl) ?_
  refine cr_cons (cr_aload_ok hx hb d_C_state_26 rfl) ?_
  refine cr_cons (cr_getfN_ok (C := R_Dr) (T := T_Dr) (N := 10) hx hb (k_Dr Z hU args) (fun _ h => h) hown hK rfl (by decide) (cr_w Z w_465 rfl hU args) (fun _ h => h) d_C_state_28 rfl) ?_
  refine cr_cons (cr_iload_n_ok hx hb d_C_state_31 rfl rfl) ?_
  refine cr_cons (cr_iceq_ok hx hb d_C_state_32 (by decide) rfl) ?_
  refine cr_cons (cr_aload_ok hx hb d_C_state_35 rfl) ?_
  refine cr_cons (cr_iload_n_ok hx hb d_C_state_37 rfl rfl) ?_
  refine cr_cons (cr_putf_ok (C := R_Dr) (T := T_Dr) (N := 10) tt_Dr hx hb (k_Dr Z hU args) (fun _ h => h) ty_Dr nm_Dr hown hK rfl (by decide) (Or.inr ⟨_, (cr_w Z w_465 rfl hU args)⟩) (fun _ h => h) rfl (by decide +kernel) d_C_state_38 rfl) ?_
  refine cr_cons (cr_aload_ok hx hb d_C_state_41 rfl) ?_
  refine cr_cons (cr_iload_n_ok hx hb d_C_state_43 rfl rfl) ?_
  refine cr_cons (cr_putf_ok (C := R_Dr) (T := T_Dr) (N := 10) tt_Dr hx hb (k_Dr Z hU args) (fun _ h => h) ty_Dr nm_Dr hown hK rfl (by decide) (Or.inr ⟨_, (cr_w Z w_467 rfl hU args)⟩) (fun _ h => h) rfl (by decide +kernel) d_C_state_44 rfl) ?_
  refine cr_cons (cr_iload_ok hx hb d_C_state_47 rfl) ?_
  refine cr_cons (cr_iret_ok hx hb hr hlk d_C_state_49) ?_
  exact cr_nil
theorem s_C_state {p : Program} {l : Launch} {e : Env} {R : Room} {s : State} {m : MethodId} {args : Array Value} {below : List Frame} {meth : Method} {c : Code} {s0 : State} {D : va_G} {ca : Nat → ClassId} {e0 d mc ms : Nat} {Q : cr_Q} (hl : l.flags = flags0) (Z : cr_Z0 s0 D ca e0) (C : cr_C p R s m meth c (cr_W0 s0) s0.heap.size y_C_state c_C_state 6 (Option.some FieldType.int) d mc ms) (hem : c.exceptionTable.toList = []) : ∀ x ∈ t_C_state l s0 D ca e0 d mc ms, cr_Snd p l e R s m args below meth c s0.heap.size mc ms Q x.1 x.2 := s_C_state_0 hl Z C hem
theorem d_C_checkMinuteFromNow_0 : decode c_C_checkMinuteFromNow 0 = .ok (.iload_n 1, 1) := by decide +kernel
theorem d_C_checkMinuteFromNow_1 : decode c_C_checkMinuteFromNow 1 = .ok (.invokestatic 130, 3) := by decide +kernel
theorem d_C_checkMinuteFromNow_4 : decode c_C_checkMinuteFromNow 4 = .ok (.iload_n 1, 1) := by decide +kernel
theorem d_C_checkMinuteFromNow_5 : decode c_C_checkMinuteFromNow 5 = .ok (.aload_n 0, 1) := by decide +kernel
theorem d_C_checkMinuteFromNow_6 : decode c_C_checkMinuteFromNow 6 = .ok (.getfield 56, 3) := by decide +kernel
theorem d_C_checkMinuteFromNow_9 : decode c_C_checkMinuteFromNow 9 = .ok (.if_icmp .ge 14, 3) := by decide +kernel
theorem d_C_checkMinuteFromNow_12 : decode c_C_checkMinuteFromNow 12 = .ok (.new 93, 3) := by decide +kernel
theorem d_C_checkMinuteFromNow_15 : decode c_C_checkMinuteFromNow 15 = .ok (.dup, 1) := by decide +kernel
theorem d_C_checkMinuteFromNow_16 : decode c_C_checkMinuteFromNow 16 = .ok (.ldc_w 281, 3) := by decide +kernel
theorem d_C_checkMinuteFromNow_19 : decode c_C_checkMinuteFromNow 19 = .ok (.invokespecial 97, 3) := by decide +kernel
theorem d_C_checkMinuteFromNow_22 : decode c_C_checkMinuteFromNow 22 = .ok (.athrow, 1) := by decide +kernel
theorem d_C_checkMinuteFromNow_23 : decode c_C_checkMinuteFromNow 23 = .ok (.return_, 1) := by decide +kernel
def t_C_checkMinuteFromNow_0 (l : Launch) (s0 : State) (D : va_G) (ca : Nat → ClassId) (e0 d mc ms : Nat) : List (Nat × cr_T) := [(0, cr_iload 1 1),
  (1, cr_calS l (cr_W0 s0) s0.heap.size y_C_checkMinute cw_C_checkMinute d mc ms 1 2 4),
  (4, cr_iload 1 5),
  (5, cr_aload 0 6),
  (6, cr_getf D kc 0 9 9),
  (9, cr_icge 23 12),
  (12, cr_thr s0 mc ms d 1 2),
  (23, cr_vret mc ms)]
def t_C_checkMinuteFromNow (l : Launch) (s0 : State) (D : va_G) (ca : Nat → ClassId) (e0 d mc ms : Nat) : List (Nat × cr_T) := t_C_checkMinuteFromNow_0 l s0 D ca e0 d mc ms
set_option maxHeartbeats 4000000 in
set_option maxRecDepth 20000 in
theorem s_C_checkMinuteFromNow_0 {p : Program} {l : Launch} {e : Env} {R : Room} {s : State} {m : MethodId} {args : Array Value} {below : List Frame} {meth : Method} {c : Code} {s0 : State} {D : va_G} {ca : Nat → ClassId} {e0 d mc ms : Nat} {Q : cr_Q} (hl : l.flags = flags0) (Z : cr_Z0 s0 D ca e0) (C : cr_C p R s m meth c (cr_W0 s0) s0.heap.size y_C_checkMinuteFromNow c_C_checkMinuteFromNow 2 (Option.none : Option FieldType) d mc ms) (hem : c.exceptionTable.toList = []) : ∀ x ∈ t_C_checkMinuteFromNow_0 l s0 D ca e0 d mc ms, cr_Snd p l e R s m args below meth c s0.heap.size mc ms Q x.1 x.2 := by
  obtain ⟨hx, hb, hml, hown, hr, hlk, hnm, hU, hlo, hR⟩ := C
  have hK := cr_Z0K Z hU
  have hRc : R.cells = mc := by rw [hR]; rfl
  have hRs : R.slots = ms := by rw [hR]; rfl
  unfold t_C_checkMinuteFromNow_0
  refine cr_cons (cr_iload_n_ok hx hb d_C_checkMinuteFromNow_0 rfl rfl) ?_
  refine cr_cons (cr_calS_ok hx hb hml hown hlk hU hlo hR (cr_W0_st s0) (by rw [hem]; exact fun _ h => absurd h List.not_mem_nil) (u_C_checkMinute Z) (Or.inl (cr_w Z w_545 rfl hU args)) (cr_w Z w_546 rfl hU args) (by decide) (by decide +kernel) (by decide) d_C_checkMinuteFromNow_1 rfl) ?_
  refine cr_cons (cr_iload_n_ok hx hb d_C_checkMinuteFromNow_4 rfl rfl) ?_
  refine cr_cons (cr_aload_n_ok hx hb d_C_checkMinuteFromNow_5 rfl rfl) ?_
  refine cr_cons (cr_getf_ok (C := R_C) (T := T_C) (N := 10) hx hb (k_C Z hU args) (fun _ h => h) hown hK rfl (by decide) (cr_w Z w_145 rfl hU args) (fun _ h => h) d_C_checkMinuteFromNow_6 rfl) ?_
  refine cr_cons (cr_icge_ok hx hb d_C_checkMinuteFromNow_9 (by decide) rfl) ?_
  refine cr_cons (cr_thrw_ok (X := "java/lang/IllegalArgumentException") hx hb hml hown hlk hU hR hem Z hl rfl w_267 w_268 w_14 own_C_97 str_281 d_C_checkMinuteFromNow_12 d_C_checkMinuteFromNow_15 d_C_checkMinuteFromNow_16 d_C_checkMinuteFromNow_19 d_C_checkMinuteFromNow_22) ?_
  refine cr_cons (cr_vret_ok hx hb hr hlk d_C_checkMinuteFromNow_23) ?_
  exact cr_nil
theorem s_C_checkMinuteFromNow {p : Program} {l : Launch} {e : Env} {R : Room} {s : State} {m : MethodId} {args : Array Value} {below : List Frame} {meth : Method} {c : Code} {s0 : State} {D : va_G} {ca : Nat → ClassId} {e0 d mc ms : Nat} {Q : cr_Q} (hl : l.flags = flags0) (Z : cr_Z0 s0 D ca e0) (C : cr_C p R s m meth c (cr_W0 s0) s0.heap.size y_C_checkMinuteFromNow c_C_checkMinuteFromNow 2 (Option.none : Option FieldType) d mc ms) (hem : c.exceptionTable.toList = []) : ∀ x ∈ t_C_checkMinuteFromNow l s0 D ca e0 d mc ms, cr_Snd p l e R s m args below meth c s0.heap.size mc ms Q x.1 x.2 := s_C_checkMinuteFromNow_0 hl Z C hem
theorem d_C_off_0 : decode c_C_off 0 = .ok (.aload_n 0, 1) := by decide +kernel
theorem d_C_off_1 : decode c_C_off 1 = .ok (.iload_n 1, 1) := by decide +kernel
theorem d_C_off_2 : decode c_C_off 2 = .ok (.invokevirtual 170, 3) := by decide +kernel
theorem d_C_off_5 : decode c_C_off 5 = .ok (.astore_n 3, 1) := by decide +kernel
theorem d_C_off_6 : decode c_C_off 6 = .ok (.aload_n 3, 1) := by decide +kernel
theorem d_C_off_7 : decode c_C_off 7 = .ok (.getfield 197, 3) := by decide +kernel
theorem d_C_off_10 : decode c_C_off 10 = .ok (.iload_n 2, 1) := by decide +kernel
theorem d_C_off_11 : decode c_C_off 11 = .ok (.if_icmp .ne 5, 3) := by decide +kernel
theorem d_C_off_14 : decode c_C_off 14 = .ok (.iconst 0, 1) := by decide +kernel
theorem d_C_off_15 : decode c_C_off 15 = .ok (.ireturn, 1) := by decide +kernel
theorem d_C_off_16 : decode c_C_off 16 = .ok (.aload_n 3, 1) := by decide +kernel
theorem d_C_off_17 : decode c_C_off 17 = .ok (.iload_n 2, 1) := by decide +kernel
theorem d_C_off_18 : decode c_C_off 18 = .ok (.putfield 197, 3) := by decide +kernel
theorem d_C_off_21 : decode c_C_off 21 = .ok (.iload_n 2, 1) := by decide +kernel
theorem d_C_off_22 : decode c_C_off 22 = .ok (.ifCond .eq 16, 3) := by decide +kernel
theorem d_C_off_25 : decode c_C_off 25 = .ok (.aload_n 3, 1) := by decide +kernel
theorem d_C_off_26 : decode c_C_off 26 = .ok (.getfield 200, 3) := by decide +kernel
theorem d_C_off_29 : decode c_C_off 29 = .ok (.aload_n 0, 1) := by decide +kernel
theorem d_C_off_30 : decode c_C_off 30 = .ok (.getfield 31, 3) := by decide +kernel
theorem d_C_off_33 : decode c_C_off 33 = .ok (.invokevirtual 203, 3) := by decide +kernel
theorem d_C_off_36 : decode c_C_off 36 = .ok (.iconst 0, 1) := by decide +kernel
theorem d_C_off_37 : decode c_C_off 37 = .ok (.ireturn, 1) := by decide +kernel
theorem d_C_off_38 : decode c_C_off 38 = .ok (.aload_n 0, 1) := by decide +kernel
theorem d_C_off_39 : decode c_C_off 39 = .ok (.aload_n 3, 1) := by decide +kernel
theorem d_C_off_40 : decode c_C_off 40 = .ok (.invokevirtual 207, 3) := by decide +kernel
theorem d_C_off_43 : decode c_C_off 43 = .ok (.ireturn, 1) := by decide +kernel
def t_C_off_0 (l : Launch) (s0 : State) (D : va_G) (ca : Nat → ClassId) (e0 d mc ms : Nat) : List (Nat × cr_T) := [(0, cr_aload 0 1),
  (1, cr_iload 1 2),
  (2, cr_calV D kc l (cr_W0 s0) s0.heap.size 0 y_C_doorNumbered cw_C_doorNumbered d mc ms 1 4 5),
  (5, cr_astore 3 6),
  (6, cr_aload 3 7),
  (7, cr_getf D kc 2 7 10),
  (10, cr_iload 2 11),
  (11, cr_icne 16 14),
  (14, cr_push (.int 0) 15),
  (15, cr_iret mc ms),
  (16, cr_aload 3 17),
  (17, cr_iload 2 18),
  (18, cr_putf D kc s0.heap.size 2 7 .boolean 21),
  (21, cr_iload 2 22),
  (22, cr_ifeq 38 25),
  (25, cr_aload 3 26),
  (26, cr_getf D kc 2 8 29),
  (29, cr_aload 0 30),
  (30, cr_getf D kc 0 5 33),
  (33, cr_calV D kc l (cr_W0 s0) s0.heap.size 4 y_Kn_copyFrom cw_Kn_copyFrom d mc ms 1 4 36),
  (36, cr_push (.int 0) 37),
  (37, cr_iret mc ms),
  (38, cr_aload 0 39),
  (39, cr_aload 3 40),
  (40, cr_calV D kc l (cr_W0 s0) s0.heap.size 0 y_C_goThroughRows cw_C_goThroughRows d mc ms 1 4 43),
  (43, cr_iret mc ms)]
def t_C_off (l : Launch) (s0 : State) (D : va_G) (ca : Nat → ClassId) (e0 d mc ms : Nat) : List (Nat × cr_T) := t_C_off_0 l s0 D ca e0 d mc ms
set_option maxHeartbeats 4000000 in
set_option maxRecDepth 20000 in
theorem s_C_off_0 {p : Program} {l : Launch} {e : Env} {R : Room} {s : State} {m : MethodId} {args : Array Value} {below : List Frame} {meth : Method} {c : Code} {s0 : State} {D : va_G} {ca : Nat → ClassId} {e0 d mc ms : Nat} {Q : cr_Q} (hl : l.flags = flags0) (Z : cr_Z0 s0 D ca e0) (C : cr_C p R s m meth c (cr_W0 s0) s0.heap.size y_C_off c_C_off 4 (Option.some FieldType.int) d mc ms) (hem : c.exceptionTable.toList = []) : ∀ x ∈ t_C_off_0 l s0 D ca e0 d mc ms, cr_Snd p l e R s m args below meth c s0.heap.size mc ms Q x.1 x.2 := by
  obtain ⟨hx, hb, hml, hown, hr, hlk, hnm, hU, hlo, hR⟩ := C
  have hK := cr_Z0K Z hU
  have hRc : R.cells = mc := by rw [hR]; rfl
  have hRs : R.slots = ms := by rw [hR]; rfl
  unfold t_C_off_0
  refine cr_cons (cr_aload_n_ok hx hb d_C_off_0 rfl rfl) ?_
  refine cr_cons (cr_iload_n_ok hx hb d_C_off_1 rfl rfl) ?_
  refine cr_cons (cr_calV_ok (C := R_C) (Tf := T_C) (N := 10) hx hb hml hown hlk hU hlo hR (cr_W0_st s0) (by rw [hem]; exact fun _ h => absurd h List.not_mem_nil) hK rfl (u_C_doorNumbered Z) (Or.inl (cr_w Z w_630 rfl hU args)) (cr_w Z w_632 rfl hU args) (cr_w Z ws_15 rfl hU args) (by decide) (by decide +kernel) (by decide) d_C_off_2 rfl) ?_
  refine cr_cons (cr_astore_n_ok hx hb d_C_off_5 rfl rfl) ?_
  refine cr_cons (cr_aload_n_ok hx hb d_C_off_6 rfl rfl) ?_
  refine cr_cons (cr_getfN_ok (C := R_Dr) (T := T_Dr) (N := 10) hx hb (k_Dr Z hU args) (fun _ h => h) hown hK rfl (by decide) (cr_w Z w_470 rfl hU args) (fun _ h => h) d_C_off_7 rfl) ?_
  refine cr_cons (cr_iload_n_ok hx hb d_C_off_10 rfl rfl) ?_
  refine cr_cons (cr_icne_ok hx hb d_C_off_11 (by decide) rfl) ?_
  refine cr_cons (cr_iconst_ok hx hb d_C_off_14 (by decide) rfl) ?_
  refine cr_cons (cr_iret_ok hx hb hr hlk d_C_off_15) ?_
  refine cr_cons (cr_aload_n_ok hx hb d_C_off_16 rfl rfl) ?_
  refine cr_cons (cr_iload_n_ok hx hb d_C_off_17 rfl rfl) ?_
  refine cr_cons (cr_putf_ok (C := R_Dr) (T := T_Dr) (N := 10) tt_Dr hx hb (k_Dr Z hU args) (fun _ h => h) ty_Dr nm_Dr hown hK rfl (by decide) (Or.inr ⟨_, (cr_w Z w_470 rfl hU args)⟩) (fun _ h => h) rfl (by decide +kernel) d_C_off_18 rfl) ?_
  refine cr_cons (cr_iload_n_ok hx hb d_C_off_21 rfl rfl) ?_
  refine cr_cons (cr_ifeq_ok hx hb d_C_off_22 (by decide) rfl) ?_
  refine cr_cons (cr_aload_n_ok hx hb d_C_off_25 rfl rfl) ?_
  refine cr_cons (cr_getfN_ok (C := R_Dr) (T := T_Dr) (N := 10) hx hb (k_Dr Z hU args) (fun _ h => h) hown hK rfl (by decide) (cr_w Z w_472 rfl hU args) (fun _ h => h) d_C_off_26 rfl) ?_
  refine cr_cons (cr_aload_n_ok hx hb d_C_off_29 rfl rfl) ?_
  refine cr_cons (cr_getf_ok (C := R_C) (T := T_C) (N := 10) hx hb (k_C Z hU args) (fun _ h => h) hown hK rfl (by decide) (cr_w Z w_141 rfl hU args) (fun _ h => h) d_C_off_30 rfl) ?_
  refine cr_cons (cr_calV_ok (C := R_Kn) (Tf := T_Kn) (N := 4) hx hb hml hown hlk hU hlo hR (cr_W0_st s0) (by rw [hem]; exact fun _ h => absurd h List.not_mem_nil) hK rfl (u_Kn_copyFrom Z) (Or.inr ⟨_, (cr_w Z w_670 rfl hU args)⟩) (cr_w Z w_672 rfl hU args) (cr_w Z ws_19 rfl hU args) (by decide) (by decide +kernel) (by decide) d_C_off_33 rfl) ?_
  refine cr_cons (cr_iconst_ok hx hb d_C_off_36 (by decide) rfl) ?_
  refine cr_cons (cr_iret_ok hx hb hr hlk d_C_off_37) ?_
  refine cr_cons (cr_aload_n_ok hx hb d_C_off_38 rfl rfl) ?_
  refine cr_cons (cr_aload_n_ok hx hb d_C_off_39 rfl rfl) ?_
  refine cr_cons (cr_calV_ok (C := R_C) (Tf := T_C) (N := 10) hx hb hml hown hlk hU hlo hR (cr_W0_st s0) (by rw [hem]; exact fun _ h => absurd h List.not_mem_nil) hK rfl (u_C_goThroughRows Z) (Or.inl (cr_w Z w_675 rfl hU args)) (cr_w Z w_677 rfl hU args) (cr_w Z ws_20 rfl hU args) (by decide) (by decide +kernel) (by decide) d_C_off_40 rfl) ?_
  refine cr_cons (cr_iret_ok hx hb hr hlk d_C_off_43) ?_
  exact cr_nil
theorem s_C_off {p : Program} {l : Launch} {e : Env} {R : Room} {s : State} {m : MethodId} {args : Array Value} {below : List Frame} {meth : Method} {c : Code} {s0 : State} {D : va_G} {ca : Nat → ClassId} {e0 d mc ms : Nat} {Q : cr_Q} (hl : l.flags = flags0) (Z : cr_Z0 s0 D ca e0) (C : cr_C p R s m meth c (cr_W0 s0) s0.heap.size y_C_off c_C_off 4 (Option.some FieldType.int) d mc ms) (hem : c.exceptionTable.toList = []) : ∀ x ∈ t_C_off l s0 D ca e0 d mc ms, cr_Snd p l e R s m args below meth c s0.heap.size mc ms Q x.1 x.2 := s_C_off_0 hl Z C hem
theorem d_C_goThroughRows_0 : decode c_C_goThroughRows 0 = .ok (.aload_n 1, 1) := by decide +kernel
theorem d_C_goThroughRows_1 : decode c_C_goThroughRows 1 = .ok (.getfield 283, 3) := by decide +kernel
theorem d_C_goThroughRows_4 : decode c_C_goThroughRows 4 = .ok (.invokeinterface 64 1, 5) := by decide +kernel
theorem d_C_goThroughRows_9 : decode c_C_goThroughRows 9 = .ok (.istore_n 2, 1) := by decide +kernel
theorem d_C_goThroughRows_10 : decode c_C_goThroughRows 10 = .ok (.iconst 0, 1) := by decide +kernel
theorem d_C_goThroughRows_11 : decode c_C_goThroughRows 11 = .ok (.istore_n 3, 1) := by decide +kernel
theorem d_C_goThroughRows_12 : decode c_C_goThroughRows 12 = .ok (.iload_n 3, 1) := by decide +kernel
theorem d_C_goThroughRows_13 : decode c_C_goThroughRows 13 = .ok (.iload_n 2, 1) := by decide +kernel
theorem d_C_goThroughRows_14 : decode c_C_goThroughRows 14 = .ok (.if_icmp .ge 79, 3) := by decide +kernel
theorem d_C_goThroughRows_17 : decode c_C_goThroughRows 17 = .ok (.aload_n 1, 1) := by decide +kernel
theorem d_C_goThroughRows_18 : decode c_C_goThroughRows 18 = .ok (.getfield 283, 3) := by decide +kernel
theorem d_C_goThroughRows_21 : decode c_C_goThroughRows 21 = .ok (.iload_n 3, 1) := by decide +kernel
theorem d_C_goThroughRows_22 : decode c_C_goThroughRows 22 = .ok (.invokeinterface 119 2, 5) := by decide +kernel
theorem d_C_goThroughRows_27 : decode c_C_goThroughRows 27 = .ok (.checkcast 347, 3) := by decide +kernel
theorem d_C_goThroughRows_30 : decode c_C_goThroughRows 30 = .ok (.astore 4, 2) := by decide +kernel
theorem d_C_goThroughRows_32 : decode c_C_goThroughRows 32 = .ok (.aload 4, 2) := by decide +kernel
theorem d_C_goThroughRows_34 : decode c_C_goThroughRows 34 = .ok (.getfield 352, 3) := by decide +kernel
theorem d_C_goThroughRows_37 : decode c_C_goThroughRows 37 = .ok (.getfield 229, 3) := by decide +kernel
theorem d_C_goThroughRows_40 : decode c_C_goThroughRows 40 = .ok (.aload 4, 2) := by decide +kernel
theorem d_C_goThroughRows_42 : decode c_C_goThroughRows 42 = .ok (.getfield 356, 3) := by decide +kernel
theorem d_C_goThroughRows_45 : decode c_C_goThroughRows 45 = .ok (.putfield 233, 3) := by decide +kernel
theorem d_C_goThroughRows_48 : decode c_C_goThroughRows 48 = .ok (.aload_n 0, 1) := by decide +kernel
theorem d_C_goThroughRows_49 : decode c_C_goThroughRows 49 = .ok (.aload 4, 2) := by decide +kernel
theorem d_C_goThroughRows_51 : decode c_C_goThroughRows 51 = .ok (.invokevirtual 359, 3) := by decide +kernel
theorem d_C_goThroughRows_54 : decode c_C_goThroughRows 54 = .ok (.istore 5, 2) := by decide +kernel
theorem d_C_goThroughRows_56 : decode c_C_goThroughRows 56 = .ok (.iload 5, 2) := by decide +kernel
theorem d_C_goThroughRows_58 : decode c_C_goThroughRows 58 = .ok (.ifCond .eq 29, 3) := by decide +kernel
theorem d_C_goThroughRows_61 : decode c_C_goThroughRows 61 = .ok (.aload_n 0, 1) := by decide +kernel
theorem d_C_goThroughRows_62 : decode c_C_goThroughRows 62 = .ok (.getfield 38, 3) := by decide +kernel
theorem d_C_goThroughRows_65 : decode c_C_goThroughRows 65 = .ok (.aload_n 1, 1) := by decide +kernel
theorem d_C_goThroughRows_66 : decode c_C_goThroughRows 66 = .ok (.getfield 105, 3) := by decide +kernel
theorem d_C_goThroughRows_69 : decode c_C_goThroughRows 69 = .ok (.aload 4, 2) := by decide +kernel
theorem d_C_goThroughRows_71 : decode c_C_goThroughRows 71 = .ok (.getfield 352, 3) := by decide +kernel
theorem d_C_goThroughRows_74 : decode c_C_goThroughRows 74 = .ok (.getfield 143, 3) := by decide +kernel
theorem d_C_goThroughRows_77 : decode c_C_goThroughRows 77 = .ok (.aload 4, 2) := by decide +kernel
theorem d_C_goThroughRows_79 : decode c_C_goThroughRows 79 = .ok (.getfield 363, 3) := by decide +kernel
theorem d_C_goThroughRows_82 : decode c_C_goThroughRows 82 = .ok (.iload 5, 2) := by decide +kernel
theorem d_C_goThroughRows_84 : decode c_C_goThroughRows 84 = .ok (.invokevirtual 366, 3) := by decide +kernel
theorem d_C_goThroughRows_87 : decode c_C_goThroughRows 87 = .ok (.iinc 3 1, 3) := by decide +kernel
theorem d_C_goThroughRows_90 : decode c_C_goThroughRows 90 = .ok (.goto (-78), 3) := by decide +kernel
theorem d_C_goThroughRows_93 : decode c_C_goThroughRows 93 = .ok (.aload_n 1, 1) := by decide +kernel
theorem d_C_goThroughRows_94 : decode c_C_goThroughRows 94 = .ok (.getfield 283, 3) := by decide +kernel
theorem d_C_goThroughRows_97 : decode c_C_goThroughRows 97 = .ok (.invokeinterface 369 1, 5) := by decide +kernel
theorem d_C_goThroughRows_102 : decode c_C_goThroughRows 102 = .ok (.iload_n 2, 1) := by decide +kernel
theorem d_C_goThroughRows_103 : decode c_C_goThroughRows 103 = .ok (.ireturn, 1) := by decide +kernel
def t_C_goThroughRows_0 (l : Launch) (s0 : State) (D : va_G) (ca : Nat → ClassId) (e0 d mc ms : Nat) : List (Nat × cr_T) := [(0, cr_aload 1 1),
  (1, cr_getf D kc 2 9 4),
  (4, cr_calV D kc l (cr_W0 s0) s0.heap.size 12 y_AL_size cw_AL_size d mc ms 0 6 9),
  (9, cr_istore 2 10),
  (10, cr_push (.int 0) 11),
  (11, cr_istore 3 12),
  (12, cr_iload 3 13),
  (13, cr_iload 2 14),
  (14, cr_icge 93 17),
  (17, cr_aload 1 18),
  (18, cr_getf D kc 2 9 21),
  (21, cr_iload 3 22),
  (22, cr_calV D kc l (cr_W0 s0) s0.heap.size 12 y_AL_get cw_AL_get d mc ms 1 6 27),
  (27, cr_cast D kc 9 30),
  (30, cr_astore 4 32),
  (32, cr_aload 4 34),
  (34, cr_getf D kc 9 0 37),
  (37, cr_getf D kc 1 1 40),
  (40, cr_aload 4 42),
  (42, cr_getf D kc 9 1 45),
  (45, cr_putf D kc s0.heap.size 6 1 (.object "CardRights$Room") 48),
  (48, cr_aload 0 49),
  (49, cr_aload 4 51),
  (51, cr_calV D kc l (cr_W0 s0) s0.heap.size 0 y_C_refusalLookingBack cw_C_refusalLookingBack d mc ms 1 6 54),
  (54, cr_istore 5 56),
  (56, cr_iload 5 58),
  (58, cr_ifeq 87 61),
  (61, cr_aload 0 62),
  (62, cr_getf D kc 0 6 65),
  (65, cr_aload 1 66)]
def t_C_goThroughRows_1 (l : Launch) (s0 : State) (D : va_G) (ca : Nat → ClassId) (e0 d mc ms : Nat) : List (Nat × cr_T) := [(66, cr_getf D kc 2 0 69),
  (69, cr_aload 4 71),
  (71, cr_getf D kc 9 0 74),
  (74, cr_getf D kc 1 0 77),
  (77, cr_aload 4 79),
  (79, cr_getf D kc 9 2 82),
  (82, cr_iload 5 84),
  (84, cr_calV D kc l (cr_W0 s0) s0.heap.size 3 y_Fi_add cw_Fi_add d mc ms 4 6 87),
  (87, cr_iinc 3 1 90),
  (90, cr_goto 12),
  (93, cr_aload 1 94),
  (94, cr_getf D kc 2 9 97),
  (97, cr_calV D kc l (cr_W0 s0) s0.heap.size 12 y_AL_clear cw_AL_clear d mc ms 0 6 102),
  (102, cr_iload 2 103),
  (103, cr_iret mc ms)]
def t_C_goThroughRows (l : Launch) (s0 : State) (D : va_G) (ca : Nat → ClassId) (e0 d mc ms : Nat) : List (Nat × cr_T) := t_C_goThroughRows_0 l s0 D ca e0 d mc ms ++ (t_C_goThroughRows_1 l s0 D ca e0 d mc ms)
set_option maxHeartbeats 4000000 in
set_option maxRecDepth 20000 in
theorem s_C_goThroughRows_0 {p : Program} {l : Launch} {e : Env} {R : Room} {s : State} {m : MethodId} {args : Array Value} {below : List Frame} {meth : Method} {c : Code} {s0 : State} {D : va_G} {ca : Nat → ClassId} {e0 d mc ms : Nat} {Q : cr_Q} (hl : l.flags = flags0) (Z : cr_Z0 s0 D ca e0) (C : cr_C p R s m meth c (cr_W0 s0) s0.heap.size y_C_goThroughRows c_C_goThroughRows 6 (Option.some FieldType.int) d mc ms) (hem : c.exceptionTable.toList = []) : ∀ x ∈ t_C_goThroughRows_0 l s0 D ca e0 d mc ms, cr_Snd p l e R s m args below meth c s0.heap.size mc ms Q x.1 x.2 := by
  obtain ⟨hx, hb, hml, hown, hr, hlk, hnm, hU, hlo, hR⟩ := C
  have hK := cr_Z0K Z hU
  have hRc : R.cells = mc := by rw [hR]; rfl
  have hRs : R.slots = ms := by rw [hR]; rfl
  unfold t_C_goThroughRows_0
  refine cr_cons (cr_aload_n_ok hx hb d_C_goThroughRows_0 rfl rfl) ?_
  refine cr_cons (cr_getfN_ok (C := R_Dr) (T := T_Dr) (N := 10) hx hb (k_Dr Z hU args) (fun _ h => h) hown hK rfl (by decide) (cr_w Z w_474 rfl hU args) (fun _ h => h) d_C_goThroughRows_1 rfl) ?_
  refine cr_cons (cr_calF_ok (C := R_AL) (Tf := T_AL) (N := 3) (x := { cls := "java/util/List", name := "size", desc := "()I" }) hx hb hml hown hlk hU hlo hR (cr_W0_st s0) (by rw [hem]; exact fun _ h => absurd h List.not_mem_nil) hK rfl (u_AL_size Z) (cr_w Z w_197 rfl hU args) (cr_w Z w_199 rfl hU args) (cr_w Z w_198 rfl hU args) (cr_w Z w_201 rfl hU args) (cr_w Z w_203 rfl hU args) (cr_w Z w_204 rfl hU args) (cr_w Z w_202 rfl hU args) (cr_w Z w_200 rfl hU args) (by decide) (by decide +kernel) (by decide) d_C_goThroughRows_4 rfl) ?_
  refine cr_cons (cr_istore_n_ok hx hb d_C_goThroughRows_9 rfl rfl) ?_
  refine cr_cons (cr_iconst_ok hx hb d_C_goThroughRows_10 (by decide) rfl) ?_
  refine cr_cons (cr_istore_n_ok hx hb d_C_goThroughRows_11 rfl rfl) ?_
  refine cr_cons (cr_iload_n_ok hx hb d_C_goThroughRows_12 rfl rfl) ?_
  refine cr_cons (cr_iload_n_ok hx hb d_C_goThroughRows_13 rfl rfl) ?_
  refine cr_cons (cr_icge_ok hx hb d_C_goThroughRows_14 (by decide) rfl) ?_
  refine cr_cons (cr_aload_n_ok hx hb d_C_goThroughRows_17 rfl rfl) ?_
  refine cr_cons (cr_getfN_ok (C := R_Dr) (T := T_Dr) (N := 10) hx hb (k_Dr Z hU args) (fun _ h => h) hown hK rfl (by decide) (cr_w Z w_474 rfl hU args) (fun _ h => h) d_C_goThroughRows_18 rfl) ?_
  refine cr_cons (cr_iload_n_ok hx hb d_C_goThroughRows_21 rfl rfl) ?_
  refine cr_cons (cr_calF_ok (C := R_AL) (Tf := T_AL) (N := 3) (x := { cls := "java/util/List", name := "get", desc := "(I)Ljava/lang/Object;" }) hx hb hml hown hlk hU hlo hR (cr_W0_st s0) (by rw [hem]; exact fun _ h => absurd h List.not_mem_nil) hK rfl (u_AL_get Z) (cr_w Z w_207 rfl hU args) (cr_w Z w_209 rfl hU args) (cr_w Z w_208 rfl hU args) (cr_w Z w_210 rfl hU args) (cr_w Z w_212 rfl hU args) (cr_w Z w_213 rfl hU args) (cr_w Z w_211 rfl hU args) (cr_w Z w_200 rfl hU args) (by decide) (by decide +kernel) (by decide) d_C_goThroughRows_22 rfl) ?_
  refine cr_cons (cr_cast_ok (C := R_Rw) (T := T_Rw) (N := 3) hx hb hown (cr_w Z w_679 rfl hU args) hK rfl rfl d_C_goThroughRows_27 rfl) ?_
  refine cr_cons (cr_astore_ok hx hb d_C_goThroughRows_30 rfl) ?_
  refine cr_cons (cr_aload_ok hx hb d_C_goThroughRows_32 rfl) ?_
  refine cr_cons (cr_getfN_ok (C := R_Rw) (T := T_Rw) (N := 3) hx hb (k_Rw Z hU args) (fun _ h => h) hown hK rfl (by decide) (cr_w Z w_760 rfl hU args) (fun _ h => h) d_C_goThroughRows_34 rfl) ?_
  refine cr_cons (cr_getfN_ok (C := R_Cd) (T := T_Cd) (N := 3) hx hb (k_Cd Z hU args) (fun _ h => h) hown hK rfl (by decide) (cr_w Z w_560 rfl hU args) (fun _ h => h) d_C_goThroughRows_37 rfl) ?_
  refine cr_cons (cr_aload_ok hx hb d_C_goThroughRows_40 rfl) ?_
  refine cr_cons (cr_getfN_ok (C := R_Rw) (T := T_Rw) (N := 3) hx hb (k_Rw Z hU args) (fun _ h => h) hown hK rfl (by decide) (cr_w Z w_762 rfl hU args) (fun _ h => h) d_C_goThroughRows_42 rfl) ?_
  refine cr_cons (cr_putf_ok (C := R_Pe) (T := T_Pe) (N := 2) tt_Pe hx hb (k_Pe Z hU args) (fun _ h => h) ty_Pe nm_Pe hown hK rfl (by decide) (Or.inr ⟨_, (cr_w Z w_527 rfl hU args)⟩) (fun _ h => h) rfl (by decide +kernel) d_C_goThroughRows_45 rfl) ?_
  refine cr_cons (cr_aload_n_ok hx hb d_C_goThroughRows_48 rfl rfl) ?_
  refine cr_cons (cr_aload_ok hx hb d_C_goThroughRows_49 rfl) ?_
  refine cr_cons (cr_calV_ok (C := R_C) (Tf := T_C) (N := 10) hx hb hml hown hlk hU hlo hR (cr_W0_st s0) (by rw [hem]; exact fun _ h => absurd h List.not_mem_nil) hK rfl (u_C_refusalLookingBack Z) (Or.inl (cr_w Z w_680 rfl hU args)) (cr_w Z w_682 rfl hU args) (cr_w Z ws_21 rfl hU args) (by decide) (by decide +kernel) (by decide) d_C_goThroughRows_51 rfl) ?_
  refine cr_cons (cr_istore_ok hx hb d_C_goThroughRows_54 rfl) ?_
  refine cr_cons (cr_iload_ok hx hb d_C_goThroughRows_56 rfl) ?_
  refine cr_cons (cr_ifeq_ok hx hb d_C_goThroughRows_58 (by decide) rfl) ?_
  refine cr_cons (cr_aload_n_ok hx hb d_C_goThroughRows_61 rfl rfl) ?_
  refine cr_cons (cr_getf_ok (C := R_C) (T := T_C) (N := 10) hx hb (k_C Z hU args) (fun _ h => h) hown hK rfl (by decide) (cr_w Z w_142 rfl hU args) (fun _ h => h) d_C_goThroughRows_62 rfl) ?_
  refine cr_cons (cr_aload_n_ok hx hb d_C_goThroughRows_65 rfl rfl) ?_
  exact cr_nil
set_option maxHeartbeats 4000000 in
set_option maxRecDepth 20000 in
theorem s_C_goThroughRows_1 {p : Program} {l : Launch} {e : Env} {R : Room} {s : State} {m : MethodId} {args : Array Value} {below : List Frame} {meth : Method} {c : Code} {s0 : State} {D : va_G} {ca : Nat → ClassId} {e0 d mc ms : Nat} {Q : cr_Q} (hl : l.flags = flags0) (Z : cr_Z0 s0 D ca e0) (C : cr_C p R s m meth c (cr_W0 s0) s0.heap.size y_C_goThroughRows c_C_goThroughRows 6 (Option.some FieldType.int) d mc ms) (hem : c.exceptionTable.toList = []) : ∀ x ∈ t_C_goThroughRows_1 l s0 D ca e0 d mc ms, cr_Snd p l e R s m args below meth c s0.heap.size mc ms Q x.1 x.2 := by
  obtain ⟨hx, hb, hml, hown, hr, hlk, hnm, hU, hlo, hR⟩ := C
  have hK := cr_Z0K Z hU
  have hRc : R.cells = mc := by rw [hR]; rfl
  have hRs : R.slots = ms := by rw [hR]; rfl
  unfold t_C_goThroughRows_1
  refine cr_cons (cr_getfN_ok (C := R_Dr) (T := T_Dr) (N := 10) hx hb (k_Dr Z hU args) (fun _ h => h) hown hK rfl (by decide) (cr_w Z w_457 rfl hU args) (fun _ h => h) d_C_goThroughRows_66 rfl) ?_
  refine cr_cons (cr_aload_ok hx hb d_C_goThroughRows_69 rfl) ?_
  refine cr_cons (cr_getfN_ok (C := R_Rw) (T := T_Rw) (N := 3) hx hb (k_Rw Z hU args) (fun _ h => h) hown hK rfl (by decide) (cr_w Z w_760 rfl hU args) (fun _ h => h) d_C_goThroughRows_71 rfl) ?_
  refine cr_cons (cr_getfN_ok (C := R_Cd) (T := T_Cd) (N := 3) hx hb (k_Cd Z hU args) (fun _ h => h) hown hK rfl (by decide) (cr_w Z w_558 rfl hU args) (fun _ h => h) d_C_goThroughRows_74 rfl) ?_
  refine cr_cons (cr_aload_ok hx hb d_C_goThroughRows_77 rfl) ?_
  refine cr_cons (cr_getfN_ok (C := R_Rw) (T := T_Rw) (N := 3) hx hb (k_Rw Z hU args) (fun _ h => h) hown hK rfl (by decide) (cr_w Z w_764 rfl hU args) (fun _ h => h) d_C_goThroughRows_79 rfl) ?_
  refine cr_cons (cr_iload_ok hx hb d_C_goThroughRows_82 rfl) ?_
  refine cr_cons (cr_calV_ok (C := R_Fi) (Tf := T_Fi) (N := 3) hx hb hml hown hlk hU hlo hR (cr_W0_st s0) (by rw [hem]; exact fun _ h => absurd h List.not_mem_nil) hK rfl (u_Fi_add Z) (Or.inr ⟨_, (cr_w Z w_706 rfl hU args)⟩) (cr_w Z w_708 rfl hU args) (cr_w Z ws_26 rfl hU args) (by decide) (by decide +kernel) (by decide) d_C_goThroughRows_84 rfl) ?_
  refine cr_cons (cr_iinc_ok hx hb d_C_goThroughRows_87 (by decide) rfl) ?_
  refine cr_cons (cr_goto_ok hx hb d_C_goThroughRows_90 (by decide)) ?_
  refine cr_cons (cr_aload_n_ok hx hb d_C_goThroughRows_93 rfl rfl) ?_
  refine cr_cons (cr_getfN_ok (C := R_Dr) (T := T_Dr) (N := 10) hx hb (k_Dr Z hU args) (fun _ h => h) hown hK rfl (by decide) (cr_w Z w_474 rfl hU args) (fun _ h => h) d_C_goThroughRows_94 rfl) ?_
  refine cr_cons (cr_calF_ok (C := R_AL) (Tf := T_AL) (N := 3) (x := { cls := "java/util/List", name := "clear", desc := "()V" }) hx hb hml hown hlk hU hlo hR (cr_W0_st s0) (by rw [hem]; exact fun _ h => absurd h List.not_mem_nil) hK rfl (u_AL_clear Z) (cr_w Z w_711 rfl hU args) (cr_w Z w_713 rfl hU args) (cr_w Z w_712 rfl hU args) (cr_w Z w_714 rfl hU args) (cr_w Z w_716 rfl hU args) (cr_w Z w_717 rfl hU args) (cr_w Z w_715 rfl hU args) (cr_w Z w_200 rfl hU args) (by decide) (by decide +kernel) (by decide) d_C_goThroughRows_97 rfl) ?_
  refine cr_cons (cr_iload_n_ok hx hb d_C_goThroughRows_102 rfl rfl) ?_
  refine cr_cons (cr_iret_ok hx hb hr hlk d_C_goThroughRows_103) ?_
  exact cr_nil
theorem s_C_goThroughRows {p : Program} {l : Launch} {e : Env} {R : Room} {s : State} {m : MethodId} {args : Array Value} {below : List Frame} {meth : Method} {c : Code} {s0 : State} {D : va_G} {ca : Nat → ClassId} {e0 d mc ms : Nat} {Q : cr_Q} (hl : l.flags = flags0) (Z : cr_Z0 s0 D ca e0) (C : cr_C p R s m meth c (cr_W0 s0) s0.heap.size y_C_goThroughRows c_C_goThroughRows 6 (Option.some FieldType.int) d mc ms) (hem : c.exceptionTable.toList = []) : ∀ x ∈ t_C_goThroughRows l s0 D ca e0 d mc ms, cr_Snd p l e R s m args below meth c s0.heap.size mc ms Q x.1 x.2 := cr_app (s_C_goThroughRows_0 hl Z C hem) (s_C_goThroughRows_1 hl Z C hem)
theorem d_C_refusalLookingBack_0 : decode c_C_refusalLookingBack 0 = .ok (.aload_n 0, 1) := by decide +kernel
theorem d_C_refusalLookingBack_1 : decode c_C_refusalLookingBack 1 = .ok (.getfield 31, 3) := by decide +kernel
theorem d_C_refusalLookingBack_4 : decode c_C_refusalLookingBack 4 = .ok (.aload_n 1, 1) := by decide +kernel
theorem d_C_refusalLookingBack_5 : decode c_C_refusalLookingBack 5 = .ok (.getfield 352, 3) := by decide +kernel
theorem d_C_refusalLookingBack_8 : decode c_C_refusalLookingBack 8 = .ok (.aload_n 1, 1) := by decide +kernel
theorem d_C_refusalLookingBack_9 : decode c_C_refusalLookingBack 9 = .ok (.getfield 363, 3) := by decide +kernel
theorem d_C_refusalLookingBack_12 : decode c_C_refusalLookingBack 12 = .ok (.invokestatic 304, 3) := by decide +kernel
theorem d_C_refusalLookingBack_15 : decode c_C_refusalLookingBack 15 = .ok (.istore_n 2, 1) := by decide +kernel
theorem d_C_refusalLookingBack_16 : decode c_C_refusalLookingBack 16 = .ok (.iload_n 2, 1) := by decide +kernel
theorem d_C_refusalLookingBack_17 : decode c_C_refusalLookingBack 17 = .ok (.ifCond .eq 5, 3) := by decide +kernel
theorem d_C_refusalLookingBack_20 : decode c_C_refusalLookingBack 20 = .ok (.iload_n 2, 1) := by decide +kernel
theorem d_C_refusalLookingBack_21 : decode c_C_refusalLookingBack 21 = .ok (.ireturn, 1) := by decide +kernel
theorem d_C_refusalLookingBack_22 : decode c_C_refusalLookingBack 22 = .ok (.aload_n 0, 1) := by decide +kernel
theorem d_C_refusalLookingBack_23 : decode c_C_refusalLookingBack 23 = .ok (.aload_n 0, 1) := by decide +kernel
theorem d_C_refusalLookingBack_24 : decode c_C_refusalLookingBack 24 = .ok (.getfield 31, 3) := by decide +kernel
theorem d_C_refusalLookingBack_27 : decode c_C_refusalLookingBack 27 = .ok (.aload_n 1, 1) := by decide +kernel
theorem d_C_refusalLookingBack_28 : decode c_C_refusalLookingBack 28 = .ok (.getfield 352, 3) := by decide +kernel
theorem d_C_refusalLookingBack_31 : decode c_C_refusalLookingBack 31 = .ok (.getfield 229, 3) := by decide +kernel
theorem d_C_refusalLookingBack_34 : decode c_C_refusalLookingBack 34 = .ok (.getfield 312, 3) := by decide +kernel
theorem d_C_refusalLookingBack_37 : decode c_C_refusalLookingBack 37 = .ok (.aload_n 1, 1) := by decide +kernel
theorem d_C_refusalLookingBack_38 : decode c_C_refusalLookingBack 38 = .ok (.getfield 356, 3) := by decide +kernel
theorem d_C_refusalLookingBack_41 : decode c_C_refusalLookingBack 41 = .ok (.getfield 237, 3) := by decide +kernel
theorem d_C_refusalLookingBack_44 : decode c_C_refusalLookingBack 44 = .ok (.aload_n 1, 1) := by decide +kernel
theorem d_C_refusalLookingBack_45 : decode c_C_refusalLookingBack 45 = .ok (.getfield 363, 3) := by decide +kernel
theorem d_C_refusalLookingBack_48 : decode c_C_refusalLookingBack 48 = .ok (.invokevirtual 315, 3) := by decide +kernel
theorem d_C_refusalLookingBack_51 : decode c_C_refusalLookingBack 51 = .ok (.ifCond .eq 7, 3) := by decide +kernel
theorem d_C_refusalLookingBack_54 : decode c_C_refusalLookingBack 54 = .ok (.iconst 0, 1) := by decide +kernel
theorem d_C_refusalLookingBack_55 : decode c_C_refusalLookingBack 55 = .ok (.goto 4, 3) := by decide +kernel
theorem d_C_refusalLookingBack_58 : decode c_C_refusalLookingBack 58 = .ok (.iconst 5, 1) := by decide +kernel
theorem d_C_refusalLookingBack_59 : decode c_C_refusalLookingBack 59 = .ok (.ireturn, 1) := by decide +kernel
def t_C_refusalLookingBack_0 (l : Launch) (s0 : State) (D : va_G) (ca : Nat → ClassId) (e0 d mc ms : Nat) : List (Nat × cr_T) := [(0, cr_aload 0 1),
  (1, cr_getf D kc 0 5 4),
  (4, cr_aload 1 5),
  (5, cr_getf D kc 9 0 8),
  (8, cr_aload 1 9),
  (9, cr_getf D kc 9 2 12),
  (12, cr_calS l (cr_W0 s0) s0.heap.size y_C_refusalOfCard cw_C_refusalOfCard d mc ms 3 3 15),
  (15, cr_istore 2 16),
  (16, cr_iload 2 17),
  (17, cr_ifeq 22 20),
  (20, cr_iload 2 21),
  (21, cr_iret mc ms),
  (22, cr_aload 0 23),
  (23, cr_aload 0 24),
  (24, cr_getf D kc 0 5 27),
  (27, cr_aload 1 28),
  (28, cr_getf D kc 9 0 31),
  (31, cr_getf D kc 1 1 34),
  (34, cr_getf D kc 6 0 37),
  (37, cr_aload 1 38),
  (38, cr_getf D kc 9 1 41),
  (41, cr_getf D kc 8 1 44),
  (44, cr_aload 1 45),
  (45, cr_getf D kc 9 2 48),
  (48, cr_calV D kc l (cr_W0 s0) s0.heap.size 0 y_C_hasRight cw_C_hasRight d mc ms 4 3 51),
  (51, cr_ifeq 58 54),
  (54, cr_push (.int 0) 55),
  (55, cr_goto 59),
  (58, cr_push (.int 5) 59),
  (59, cr_iret mc ms)]
def t_C_refusalLookingBack (l : Launch) (s0 : State) (D : va_G) (ca : Nat → ClassId) (e0 d mc ms : Nat) : List (Nat × cr_T) := t_C_refusalLookingBack_0 l s0 D ca e0 d mc ms
set_option maxHeartbeats 4000000 in
set_option maxRecDepth 20000 in
theorem s_C_refusalLookingBack_0 {p : Program} {l : Launch} {e : Env} {R : Room} {s : State} {m : MethodId} {args : Array Value} {below : List Frame} {meth : Method} {c : Code} {s0 : State} {D : va_G} {ca : Nat → ClassId} {e0 d mc ms : Nat} {Q : cr_Q} (hl : l.flags = flags0) (Z : cr_Z0 s0 D ca e0) (C : cr_C p R s m meth c (cr_W0 s0) s0.heap.size y_C_refusalLookingBack c_C_refusalLookingBack 3 (Option.some FieldType.int) d mc ms) (hem : c.exceptionTable.toList = []) : ∀ x ∈ t_C_refusalLookingBack_0 l s0 D ca e0 d mc ms, cr_Snd p l e R s m args below meth c s0.heap.size mc ms Q x.1 x.2 := by
  obtain ⟨hx, hb, hml, hown, hr, hlk, hnm, hU, hlo, hR⟩ := C
  have hK := cr_Z0K Z hU
  have hRc : R.cells = mc := by rw [hR]; rfl
  have hRs : R.slots = ms := by rw [hR]; rfl
  unfold t_C_refusalLookingBack_0
  refine cr_cons (cr_aload_n_ok hx hb d_C_refusalLookingBack_0 rfl rfl) ?_
  refine cr_cons (cr_getf_ok (C := R_C) (T := T_C) (N := 10) hx hb (k_C Z hU args) (fun _ h => h) hown hK rfl (by decide) (cr_w Z w_141 rfl hU args) (fun _ h => h) d_C_refusalLookingBack_1 rfl) ?_
  refine cr_cons (cr_aload_n_ok hx hb d_C_refusalLookingBack_4 rfl rfl) ?_
  refine cr_cons (cr_getfN_ok (C := R_Rw) (T := T_Rw) (N := 3) hx hb (k_Rw Z hU args) (fun _ h => h) hown hK rfl (by decide) (cr_w Z w_760 rfl hU args) (fun _ h => h) d_C_refusalLookingBack_5 rfl) ?_
  refine cr_cons (cr_aload_n_ok hx hb d_C_refusalLookingBack_8 rfl rfl) ?_
  refine cr_cons (cr_getfN_ok (C := R_Rw) (T := T_Rw) (N := 3) hx hb (k_Rw Z hU args) (fun _ h => h) hown hK rfl (by decide) (cr_w Z w_764 rfl hU args) (fun _ h => h) d_C_refusalLookingBack_9 rfl) ?_
  refine cr_cons (cr_calS_ok hx hb hml hown hlk hU hlo hR (cr_W0_st s0) (by rw [hem]; exact fun _ h => absurd h List.not_mem_nil) (u_C_refusalOfCard Z) (Or.inl (cr_w Z w_684 rfl hU args)) (cr_w Z w_685 rfl hU args) (by decide) (by decide +kernel) (by decide) d_C_refusalLookingBack_12 rfl) ?_
  refine cr_cons (cr_istore_n_ok hx hb d_C_refusalLookingBack_15 rfl rfl) ?_
  refine cr_cons (cr_iload_n_ok hx hb d_C_refusalLookingBack_16 rfl rfl) ?_
  refine cr_cons (cr_ifeq_ok hx hb d_C_refusalLookingBack_17 (by decide) rfl) ?_
  refine cr_cons (cr_iload_n_ok hx hb d_C_refusalLookingBack_20 rfl rfl) ?_
  refine cr_cons (cr_iret_ok hx hb hr hlk d_C_refusalLookingBack_21) ?_
  refine cr_cons (cr_aload_n_ok hx hb d_C_refusalLookingBack_22 rfl rfl) ?_
  refine cr_cons (cr_aload_n_ok hx hb d_C_refusalLookingBack_23 rfl rfl) ?_
  refine cr_cons (cr_getf_ok (C := R_C) (T := T_C) (N := 10) hx hb (k_C Z hU args) (fun _ h => h) hown hK rfl (by decide) (cr_w Z w_141 rfl hU args) (fun _ h => h) d_C_refusalLookingBack_24 rfl) ?_
  refine cr_cons (cr_aload_n_ok hx hb d_C_refusalLookingBack_27 rfl rfl) ?_
  refine cr_cons (cr_getfN_ok (C := R_Rw) (T := T_Rw) (N := 3) hx hb (k_Rw Z hU args) (fun _ h => h) hown hK rfl (by decide) (cr_w Z w_760 rfl hU args) (fun _ h => h) d_C_refusalLookingBack_28 rfl) ?_
  refine cr_cons (cr_getfN_ok (C := R_Cd) (T := T_Cd) (N := 3) hx hb (k_Cd Z hU args) (fun _ h => h) hown hK rfl (by decide) (cr_w Z w_560 rfl hU args) (fun _ h => h) d_C_refusalLookingBack_31 rfl) ?_
  refine cr_cons (cr_getfN_ok (C := R_Pe) (T := T_Pe) (N := 2) hx hb (k_Pe Z hU args) (fun _ h => h) hown hK rfl (by decide) (cr_w Z w_525 rfl hU args) (fun _ h => h) d_C_refusalLookingBack_34 rfl) ?_
  refine cr_cons (cr_aload_n_ok hx hb d_C_refusalLookingBack_37 rfl rfl) ?_
  refine cr_cons (cr_getfN_ok (C := R_Rw) (T := T_Rw) (N := 3) hx hb (k_Rw Z hU args) (fun _ h => h) hown hK rfl (by decide) (cr_w Z w_762 rfl hU args) (fun _ h => h) d_C_refusalLookingBack_38 rfl) ?_
  refine cr_cons (cr_getfN_ok (C := R_Ro) (T := T_Ro) (N := 2) hx hb (k_Ro Z hU args) (fun _ h => h) hown hK rfl (by decide) (cr_w Z w_359 rfl hU args) (fun _ h => h) d_C_refusalLookingBack_41 rfl) ?_
  refine cr_cons (cr_aload_n_ok hx hb d_C_refusalLookingBack_44 rfl rfl) ?_
  refine cr_cons (cr_getfN_ok (C := R_Rw) (T := T_Rw) (N := 3) hx hb (k_Rw Z hU args) (fun _ h => h) hown hK rfl (by decide) (cr_w Z w_764 rfl hU args) (fun _ h => h) d_C_refusalLookingBack_45 rfl) ?_
  refine cr_cons (cr_calV_ok (C := R_C) (Tf := T_C) (N := 10) hx hb hml hown hlk hU hlo hR (cr_W0_st s0) (by rw [hem]; exact fun _ h => absurd h List.not_mem_nil) hK rfl (u_C_hasRight Z) (Or.inl (cr_w Z w_698 rfl hU args)) (cr_w Z w_700 rfl hU args) (cr_w Z ws_24 rfl hU args) (by decide) (by decide +kernel) (by decide) d_C_refusalLookingBack_48 rfl) ?_
  refine cr_cons (cr_ifeq_ok hx hb d_C_refusalLookingBack_51 (by decide) rfl) ?_
  refine cr_cons (cr_iconst_ok hx hb d_C_refusalLookingBack_54 (by decide) rfl) ?_
  refine cr_cons (cr_goto_ok hx hb d_C_refusalLookingBack_55 (by decide)) ?_
  refine cr_cons (cr_iconst_ok hx hb d_C_refusalLookingBack_58 (by decide) rfl) ?_
  refine cr_cons (cr_iret_ok hx hb hr hlk d_C_refusalLookingBack_59) ?_
  exact cr_nil
theorem s_C_refusalLookingBack {p : Program} {l : Launch} {e : Env} {R : Room} {s : State} {m : MethodId} {args : Array Value} {below : List Frame} {meth : Method} {c : Code} {s0 : State} {D : va_G} {ca : Nat → ClassId} {e0 d mc ms : Nat} {Q : cr_Q} (hl : l.flags = flags0) (Z : cr_Z0 s0 D ca e0) (C : cr_C p R s m meth c (cr_W0 s0) s0.heap.size y_C_refusalLookingBack c_C_refusalLookingBack 3 (Option.some FieldType.int) d mc ms) (hem : c.exceptionTable.toList = []) : ∀ x ∈ t_C_refusalLookingBack l s0 D ca e0 d mc ms, cr_Snd p l e R s m args below meth c s0.heap.size mc ms Q x.1 x.2 := s_C_refusalLookingBack_0 hl Z C hem
theorem d_C_refusalOfCard_0 : decode c_C_refusalOfCard 0 = .ok (.aload_n 0, 1) := by decide +kernel
theorem d_C_refusalOfCard_1 : decode c_C_refusalOfCard 1 = .ok (.aload_n 1, 1) := by decide +kernel
theorem d_C_refusalOfCard_2 : decode c_C_refusalOfCard 2 = .ok (.getfield 143, 3) := by decide +kernel
theorem d_C_refusalOfCard_5 : decode c_C_refusalOfCard 5 = .ok (.invokevirtual 322, 3) := by decide +kernel
theorem d_C_refusalOfCard_8 : decode c_C_refusalOfCard 8 = .ok (.ifCond .ne 5, 3) := by decide +kernel
theorem d_C_refusalOfCard_11 : decode c_C_refusalOfCard 11 = .ok (.iconst 1, 1) := by decide +kernel
theorem d_C_refusalOfCard_12 : decode c_C_refusalOfCard 12 = .ok (.ireturn, 1) := by decide +kernel
theorem d_C_refusalOfCard_13 : decode c_C_refusalOfCard 13 = .ok (.aload_n 1, 1) := by decide +kernel
theorem d_C_refusalOfCard_14 : decode c_C_refusalOfCard 14 = .ok (.getfield 326, 3) := by decide +kernel
theorem d_C_refusalOfCard_17 : decode c_C_refusalOfCard 17 = .ok (.iload_n 2, 1) := by decide +kernel
theorem d_C_refusalOfCard_18 : decode c_C_refusalOfCard 18 = .ok (.if_icmp .ge 5, 3) := by decide +kernel
theorem d_C_refusalOfCard_21 : decode c_C_refusalOfCard 21 = .ok (.iconst 2, 1) := by decide +kernel
theorem d_C_refusalOfCard_22 : decode c_C_refusalOfCard 22 = .ok (.ireturn, 1) := by decide +kernel
theorem d_C_refusalOfCard_23 : decode c_C_refusalOfCard 23 = .ok (.aload_n 0, 1) := by decide +kernel
theorem d_C_refusalOfCard_24 : decode c_C_refusalOfCard 24 = .ok (.aload_n 1, 1) := by decide +kernel
theorem d_C_refusalOfCard_25 : decode c_C_refusalOfCard 25 = .ok (.getfield 143, 3) := by decide +kernel
theorem d_C_refusalOfCard_28 : decode c_C_refusalOfCard 28 = .ok (.iload_n 2, 1) := by decide +kernel
theorem d_C_refusalOfCard_29 : decode c_C_refusalOfCard 29 = .ok (.invokevirtual 329, 3) := by decide +kernel
theorem d_C_refusalOfCard_32 : decode c_C_refusalOfCard 32 = .ok (.ifCond .eq 7, 3) := by decide +kernel
theorem d_C_refusalOfCard_35 : decode c_C_refusalOfCard 35 = .ok (.iconst 3, 1) := by decide +kernel
theorem d_C_refusalOfCard_36 : decode c_C_refusalOfCard 36 = .ok (.goto 4, 3) := by decide +kernel
theorem d_C_refusalOfCard_39 : decode c_C_refusalOfCard 39 = .ok (.iconst 0, 1) := by decide +kernel
theorem d_C_refusalOfCard_40 : decode c_C_refusalOfCard 40 = .ok (.ireturn, 1) := by decide +kernel
def t_C_refusalOfCard_0 (l : Launch) (s0 : State) (D : va_G) (ca : Nat → ClassId) (e0 d mc ms : Nat) : List (Nat × cr_T) := [(0, cr_aload 0 1),
  (1, cr_aload 1 2),
  (2, cr_getf D kc 1 0 5),
  (5, cr_calV D kc l (cr_W0 s0) s0.heap.size 4 y_Kn_knowsCard cw_Kn_knowsCard d mc ms 1 3 8),
  (8, cr_ifne 13 11),
  (11, cr_push (.int 1) 12),
  (12, cr_iret mc ms),
  (13, cr_aload 1 14),
  (14, cr_getf D kc 1 2 17),
  (17, cr_iload 2 18),
  (18, cr_icge 23 21),
  (21, cr_push (.int 2) 22),
  (22, cr_iret mc ms),
  (23, cr_aload 0 24),
  (24, cr_aload 1 25),
  (25, cr_getf D kc 1 0 28),
  (28, cr_iload 2 29),
  (29, cr_calV D kc l (cr_W0 s0) s0.heap.size 4 y_Kn_isLost cw_Kn_isLost d mc ms 2 3 32),
  (32, cr_ifeq 39 35),
  (35, cr_push (.int 3) 36),
  (36, cr_goto 40),
  (39, cr_push (.int 0) 40),
  (40, cr_iret mc ms)]
def t_C_refusalOfCard (l : Launch) (s0 : State) (D : va_G) (ca : Nat → ClassId) (e0 d mc ms : Nat) : List (Nat × cr_T) := t_C_refusalOfCard_0 l s0 D ca e0 d mc ms
set_option maxHeartbeats 4000000 in
set_option maxRecDepth 20000 in
theorem s_C_refusalOfCard_0 {p : Program} {l : Launch} {e : Env} {R : Room} {s : State} {m : MethodId} {args : Array Value} {below : List Frame} {meth : Method} {c : Code} {s0 : State} {D : va_G} {ca : Nat → ClassId} {e0 d mc ms : Nat} {Q : cr_Q} (hl : l.flags = flags0) (Z : cr_Z0 s0 D ca e0) (C : cr_C p R s m meth c (cr_W0 s0) s0.heap.size y_C_refusalOfCard c_C_refusalOfCard 3 (Option.some FieldType.int) d mc ms) (hem : c.exceptionTable.toList = []) : ∀ x ∈ t_C_refusalOfCard_0 l s0 D ca e0 d mc ms, cr_Snd p l e R s m args below meth c s0.heap.size mc ms Q x.1 x.2 := by
  obtain ⟨hx, hb, hml, hown, hr, hlk, hnm, hU, hlo, hR⟩ := C
  have hK := cr_Z0K Z hU
  have hRc : R.cells = mc := by rw [hR]; rfl
  have hRs : R.slots = ms := by rw [hR]; rfl
  unfold t_C_refusalOfCard_0
  refine cr_cons (cr_aload_n_ok hx hb d_C_refusalOfCard_0 rfl rfl) ?_
  refine cr_cons (cr_aload_n_ok hx hb d_C_refusalOfCard_1 rfl rfl) ?_
  refine cr_cons (cr_getfN_ok (C := R_Cd) (T := T_Cd) (N := 3) hx hb (k_Cd Z hU args) (fun _ h => h) hown hK rfl (by decide) (cr_w Z w_558 rfl hU args) (fun _ h => h) d_C_refusalOfCard_2 rfl) ?_
  refine cr_cons (cr_calV_ok (C := R_Kn) (Tf := T_Kn) (N := 4) hx hb hml hown hlk hU hlo hR (cr_W0_st s0) (by rw [hem]; exact fun _ h => absurd h List.not_mem_nil) hK rfl (u_Kn_knowsCard Z) (Or.inr ⟨_, (cr_w Z w_687 rfl hU args)⟩) (cr_w Z w_689 rfl hU args) (cr_w Z ws_22 rfl hU args) (by decide) (by decide +kernel) (by decide) d_C_refusalOfCard_5 rfl) ?_
  refine cr_cons (cr_ifne_ok hx hb d_C_refusalOfCard_8 (by decide) rfl) ?_
  refine cr_cons (cr_iconst_ok hx hb d_C_refusalOfCard_11 (by decide) rfl) ?_
  refine cr_cons (cr_iret_ok hx hb hr hlk d_C_refusalOfCard_12) ?_
  refine cr_cons (cr_aload_n_ok hx hb d_C_refusalOfCard_13 rfl rfl) ?_
  refine cr_cons (cr_getfN_ok (C := R_Cd) (T := T_Cd) (N := 3) hx hb (k_Cd Z hU args) (fun _ h => h) hown hK rfl (by decide) (cr_w Z w_562 rfl hU args) (fun _ h => h) d_C_refusalOfCard_14 rfl) ?_
  refine cr_cons (cr_iload_n_ok hx hb d_C_refusalOfCard_17 rfl rfl) ?_
  refine cr_cons (cr_icge_ok hx hb d_C_refusalOfCard_18 (by decide) rfl) ?_
  refine cr_cons (cr_iconst_ok hx hb d_C_refusalOfCard_21 (by decide) rfl) ?_
  refine cr_cons (cr_iret_ok hx hb hr hlk d_C_refusalOfCard_22) ?_
  refine cr_cons (cr_aload_n_ok hx hb d_C_refusalOfCard_23 rfl rfl) ?_
  refine cr_cons (cr_aload_n_ok hx hb d_C_refusalOfCard_24 rfl rfl) ?_
  refine cr_cons (cr_getfN_ok (C := R_Cd) (T := T_Cd) (N := 3) hx hb (k_Cd Z hU args) (fun _ h => h) hown hK rfl (by decide) (cr_w Z w_558 rfl hU args) (fun _ h => h) d_C_refusalOfCard_25 rfl) ?_
  refine cr_cons (cr_iload_n_ok hx hb d_C_refusalOfCard_28 rfl rfl) ?_
  refine cr_cons (cr_calV_ok (C := R_Kn) (Tf := T_Kn) (N := 4) hx hb hml hown hlk hU hlo hR (cr_W0_st s0) (by rw [hem]; exact fun _ h => absurd h List.not_mem_nil) hK rfl (u_Kn_isLost Z) (Or.inr ⟨_, (cr_w Z w_691 rfl hU args)⟩) (cr_w Z w_693 rfl hU args) (cr_w Z ws_23 rfl hU args) (by decide) (by decide +kernel) (by decide) d_C_refusalOfCard_29 rfl) ?_
  refine cr_cons (cr_ifeq_ok hx hb d_C_refusalOfCard_32 (by decide) rfl) ?_
  refine cr_cons (cr_iconst_ok hx hb d_C_refusalOfCard_35 (by decide) rfl) ?_
  refine cr_cons (cr_goto_ok hx hb d_C_refusalOfCard_36 (by decide)) ?_
  refine cr_cons (cr_iconst_ok hx hb d_C_refusalOfCard_39 (by decide) rfl) ?_
  refine cr_cons (cr_iret_ok hx hb hr hlk d_C_refusalOfCard_40) ?_
  exact cr_nil
theorem s_C_refusalOfCard {p : Program} {l : Launch} {e : Env} {R : Room} {s : State} {m : MethodId} {args : Array Value} {below : List Frame} {meth : Method} {c : Code} {s0 : State} {D : va_G} {ca : Nat → ClassId} {e0 d mc ms : Nat} {Q : cr_Q} (hl : l.flags = flags0) (Z : cr_Z0 s0 D ca e0) (C : cr_C p R s m meth c (cr_W0 s0) s0.heap.size y_C_refusalOfCard c_C_refusalOfCard 3 (Option.some FieldType.int) d mc ms) (hem : c.exceptionTable.toList = []) : ∀ x ∈ t_C_refusalOfCard l s0 D ca e0 d mc ms, cr_Snd p l e R s m args below meth c s0.heap.size mc ms Q x.1 x.2 := s_C_refusalOfCard_0 hl Z C hem
