theorem d_C_roomNumbered_0 : decode c_C_roomNumbered 0 = .ok (.iload_n 1, 1) := by decide +kernel
theorem d_C_roomNumbered_1 : decode c_C_roomNumbered 1 = .ok (.ifCond .lt 16, 3) := by decide +kernel
theorem d_C_roomNumbered_4 : decode c_C_roomNumbered 4 = .ok (.iload_n 1, 1) := by decide +kernel
theorem d_C_roomNumbered_5 : decode c_C_roomNumbered 5 = .ok (.aload_n 0, 1) := by decide +kernel
theorem d_C_roomNumbered_6 : decode c_C_roomNumbered 6 = .ok (.getfield 10, 3) := by decide +kernel
theorem d_C_roomNumbered_9 : decode c_C_roomNumbered 9 = .ok (.invokeinterface 64 1, 5) := by decide +kernel
theorem d_C_roomNumbered_14 : decode c_C_roomNumbered 14 = .ok (.if_icmp .lt 14, 3) := by decide +kernel
theorem d_C_roomNumbered_17 : decode c_C_roomNumbered 17 = .ok (.new 93, 3) := by decide +kernel
theorem d_C_roomNumbered_20 : decode c_C_roomNumbered 20 = .ok (.dup, 1) := by decide +kernel
theorem d_C_roomNumbered_21 : decode c_C_roomNumbered 21 = .ok (.ldc_w 288, 3) := by decide +kernel
theorem d_C_roomNumbered_24 : decode c_C_roomNumbered 24 = .ok (.invokespecial 97, 3) := by decide +kernel
theorem d_C_roomNumbered_27 : decode c_C_roomNumbered 27 = .ok (.athrow, 1) := by decide +kernel
theorem d_C_roomNumbered_28 : decode c_C_roomNumbered 28 = .ok (.aload_n 0, 1) := by decide +kernel
theorem d_C_roomNumbered_29 : decode c_C_roomNumbered 29 = .ok (.getfield 10, 3) := by decide +kernel
theorem d_C_roomNumbered_32 : decode c_C_roomNumbered 32 = .ok (.iload_n 1, 1) := by decide +kernel
theorem d_C_roomNumbered_33 : decode c_C_roomNumbered 33 = .ok (.invokeinterface 119 2, 5) := by decide +kernel
theorem d_C_roomNumbered_38 : decode c_C_roomNumbered 38 = .ok (.checkcast 77, 3) := by decide +kernel
theorem d_C_roomNumbered_41 : decode c_C_roomNumbered 41 = .ok (.areturn, 1) := by decide +kernel
def t_C_roomNumbered_0 (l : Launch) (s0 : State) (D : va_G) (ca : Nat → ClassId) (e0 d mc ms : Nat) : List (Nat × cr_T) := [(0, cr_iload 1 1),
  (1, cr_iflt 17 4),
  (4, cr_iload 1 5),
  (5, cr_aload 0 6),
  (6, cr_getf D kc 0 0 9),
  (9, cr_calV D kc l (cr_W0 s0) s0.heap.size 12 y_AL_size cw_AL_size d mc ms 0 2 14),
  (14, cr_iclt 28 17),
  (17, cr_thr s0 mc ms d 1 2),
  (28, cr_aload 0 29),
  (29, cr_getf D kc 0 0 32),
  (32, cr_iload 1 33),
  (33, cr_calV D kc l (cr_W0 s0) s0.heap.size 12 y_AL_get cw_AL_get d mc ms 1 2 38),
  (38, cr_cast D kc 8 41),
  (41, cr_aret mc ms)]
def t_C_roomNumbered (l : Launch) (s0 : State) (D : va_G) (ca : Nat → ClassId) (e0 d mc ms : Nat) : List (Nat × cr_T) := t_C_roomNumbered_0 l s0 D ca e0 d mc ms
set_option maxHeartbeats 4000000 in
set_option maxRecDepth 20000 in
theorem s_C_roomNumbered_0 {p : Program} {l : Launch} {e : Env} {R : Room} {s : State} {m : MethodId} {args : Array Value} {below : List Frame} {meth : Method} {c : Code} {s0 : State} {D : va_G} {ca : Nat → ClassId} {e0 d mc ms : Nat} {Q : cr_Q} (hl : l.flags = flags0) (Z : cr_Z0 s0 D ca e0) (C : cr_C p R s m meth c (cr_W0 s0) s0.heap.size y_C_roomNumbered c_C_roomNumbered 2 (Option.some (FieldType.object "CardRights$Room")) d mc ms) (hem : c.exceptionTable.toList = []) : ∀ x ∈ t_C_roomNumbered_0 l s0 D ca e0 d mc ms, cr_Snd p l e R s m args below meth c s0.heap.size mc ms Q x.1 x.2 := by
  obtain ⟨hx, hb, hml, hown, hr, hlk, hnm, hU, hlo, hR⟩ := C
  have hK := cr_Z0K Z hU
  have hRc : R.cells = mc := by rw [hR]; rfl
  have hRs : R.slots = ms := by rw [hR]; rfl
  unfold t_C_roomNumbered_0
  refine cr_cons (cr_iload_n_ok hx hb d_C_roomNumbered_0 rfl rfl) ?_
  refine cr_cons (cr_iflt_ok hx hb d_C_roomNumbered_1 (by decide) rfl) ?_
  refine cr_cons (cr_iload_n_ok hx hb d_C_roomNumbered_4 rfl rfl) ?_
  refine cr_cons (cr_aload_n_ok hx hb d_C_roomNumbered_5 rfl rfl) ?_
  refine cr_cons (cr_getf_ok (C := R_C) (T := T_C) (N := 10) hx hb (k_C Z hU args) (fun _ h => h) hown hK rfl (by decide) (cr_w Z w_136 rfl hU args) (fun _ h => h) d_C_roomNumbered_6 rfl) ?_
  refine cr_cons (cr_calF_ok (C := R_AL) (Tf := T_AL) (N := 3) (x := { cls := "java/util/List", name := "size", desc := "()I" }) hx hb hml hown hlk hU hlo hR (cr_W0_st s0) (by rw [hem]; exact fun _ h => absurd h List.not_mem_nil) hK rfl (u_AL_size Z) (cr_w Z w_197 rfl hU args) (cr_w Z w_199 rfl hU args) (cr_w Z w_198 rfl hU args) (cr_w Z w_201 rfl hU args) (cr_w Z w_203 rfl hU args) (cr_w Z w_204 rfl hU args) (cr_w Z w_202 rfl hU args) (cr_w Z w_200 rfl hU args) (by decide) (by decide +kernel) (by decide) d_C_roomNumbered_9 rfl) ?_
  refine cr_cons (cr_iclt_ok hx hb d_C_roomNumbered_14 (by decide) rfl) ?_
  refine cr_cons (cr_thrw_ok (X := "java/lang/IllegalArgumentException") hx hb hml hown hlk hU hR hem Z hl rfl w_267 w_268 w_14 own_C_97 str_288 d_C_roomNumbered_17 d_C_roomNumbered_20 d_C_roomNumbered_21 d_C_roomNumbered_24 d_C_roomNumbered_27) ?_
  refine cr_cons (cr_aload_n_ok hx hb d_C_roomNumbered_28 rfl rfl) ?_
  refine cr_cons (cr_getf_ok (C := R_C) (T := T_C) (N := 10) hx hb (k_C Z hU args) (fun _ h => h) hown hK rfl (by decide) (cr_w Z w_136 rfl hU args) (fun _ h => h) d_C_roomNumbered_29 rfl) ?_
  refine cr_cons (cr_iload_n_ok hx hb d_C_roomNumbered_32 rfl rfl) ?_
  refine cr_cons (cr_calF_ok (C := R_AL) (Tf := T_AL) (N := 3) (x := { cls := "java/util/List", name := "get", desc := "(I)Ljava/lang/Object;" }) hx hb hml hown hlk hU hlo hR (cr_W0_st s0) (by rw [hem]; exact fun _ h => absurd h List.not_mem_nil) hK rfl (u_AL_get Z) (cr_w Z w_207 rfl hU args) (cr_w Z w_209 rfl hU args) (cr_w Z w_208 rfl hU args) (cr_w Z w_210 rfl hU args) (cr_w Z w_212 rfl hU args) (cr_w Z w_213 rfl hU args) (cr_w Z w_211 rfl hU args) (cr_w Z w_200 rfl hU args) (by decide) (by decide +kernel) (by decide) d_C_roomNumbered_33 rfl) ?_
  refine cr_cons (cr_cast_ok (C := R_Ro) (T := T_Ro) (N := 2) hx hb hown (cr_w Z w_350 rfl hU args) hK rfl rfl d_C_roomNumbered_38 rfl) ?_
  refine cr_cons (cr_aret_ok hx hb hr (Or.inl ⟨_, rfl⟩) hlk d_C_roomNumbered_41) ?_
  exact cr_nil
theorem s_C_roomNumbered {p : Program} {l : Launch} {e : Env} {R : Room} {s : State} {m : MethodId} {args : Array Value} {below : List Frame} {meth : Method} {c : Code} {s0 : State} {D : va_G} {ca : Nat → ClassId} {e0 d mc ms : Nat} {Q : cr_Q} (hl : l.flags = flags0) (Z : cr_Z0 s0 D ca e0) (C : cr_C p R s m meth c (cr_W0 s0) s0.heap.size y_C_roomNumbered c_C_roomNumbered 2 (Option.some (FieldType.object "CardRights$Room")) d mc ms) (hem : c.exceptionTable.toList = []) : ∀ x ∈ t_C_roomNumbered l s0 D ca e0 d mc ms, cr_Snd p l e R s m args below meth c s0.heap.size mc ms Q x.1 x.2 := s_C_roomNumbered_0 hl Z C hem
theorem d_C_person_0 : decode c_C_person 0 = .ok (.iload_n 1, 1) := by decide +kernel
theorem d_C_person_1 : decode c_C_person 1 = .ok (.invokestatic 106, 3) := by decide +kernel
theorem d_C_person_4 : decode c_C_person 4 = .ok (.aload_n 0, 1) := by decide +kernel
theorem d_C_person_5 : decode c_C_person 5 = .ok (.getfield 19, 3) := by decide +kernel
theorem d_C_person_8 : decode c_C_person 8 = .ok (.invokeinterface 64 1, 5) := by decide +kernel
theorem d_C_person_13 : decode c_C_person 13 = .ok (.bipush 40, 2) := by decide +kernel
theorem d_C_person_15 : decode c_C_person 15 = .ok (.if_icmp .lt 13, 3) := by decide +kernel
theorem d_C_person_18 : decode c_C_person 18 = .ok (.new 70, 3) := by decide +kernel
theorem d_C_person_21 : decode c_C_person 21 = .ok (.dup, 1) := by decide +kernel
theorem d_C_person_22 : decode c_C_person 22 = .ok (.ldc 109, 2) := by decide +kernel
theorem d_C_person_24 : decode c_C_person 24 = .ok (.invokespecial 74, 3) := by decide +kernel
theorem d_C_person_27 : decode c_C_person 27 = .ok (.athrow, 1) := by decide +kernel
theorem d_C_person_28 : decode c_C_person 28 = .ok (.aload_n 0, 1) := by decide +kernel
theorem d_C_person_29 : decode c_C_person 29 = .ok (.getfield 10, 3) := by decide +kernel
theorem d_C_person_32 : decode c_C_person 32 = .ok (.invokeinterface 111 1, 5) := by decide +kernel
theorem d_C_person_37 : decode c_C_person 37 = .ok (.ifCond .eq 13, 3) := by decide +kernel
theorem d_C_person_40 : decode c_C_person 40 = .ok (.new 70, 3) := by decide +kernel
theorem d_C_person_43 : decode c_C_person 43 = .ok (.dup, 1) := by decide +kernel
theorem d_C_person_44 : decode c_C_person 44 = .ok (.ldc 115, 2) := by decide +kernel
theorem d_C_person_46 : decode c_C_person 46 = .ok (.invokespecial 74, 3) := by decide +kernel
theorem d_C_person_49 : decode c_C_person 49 = .ok (.athrow, 1) := by decide +kernel
theorem d_C_person_50 : decode c_C_person 50 = .ok (.aload_n 0, 1) := by decide +kernel
theorem d_C_person_51 : decode c_C_person 51 = .ok (.getfield 19, 3) := by decide +kernel
theorem d_C_person_54 : decode c_C_person 54 = .ok (.new 117, 3) := by decide +kernel
theorem d_C_person_57 : decode c_C_person 57 = .ok (.dup, 1) := by decide +kernel
theorem d_C_person_58 : decode c_C_person 58 = .ok (.iload_n 1, 1) := by decide +kernel
theorem d_C_person_59 : decode c_C_person 59 = .ok (.aload_n 0, 1) := by decide +kernel
theorem d_C_person_60 : decode c_C_person 60 = .ok (.getfield 10, 3) := by decide +kernel
theorem d_C_person_63 : decode c_C_person 63 = .ok (.iconst 0, 1) := by decide +kernel
theorem d_C_person_64 : decode c_C_person 64 = .ok (.invokeinterface 119 2, 5) := by decide +kernel
theorem d_C_person_69 : decode c_C_person 69 = .ok (.checkcast 77, 3) := by decide +kernel
theorem d_C_person_72 : decode c_C_person 72 = .ok (.invokespecial 123, 3) := by decide +kernel
theorem d_C_person_75 : decode c_C_person 75 = .ok (.invokeinterface 82 2, 5) := by decide +kernel
theorem d_C_person_80 : decode c_C_person 80 = .ok (.pop, 1) := by decide +kernel
theorem d_C_person_81 : decode c_C_person 81 = .ok (.aload_n 0, 1) := by decide +kernel
theorem d_C_person_82 : decode c_C_person 82 = .ok (.getfield 19, 3) := by decide +kernel
theorem d_C_person_85 : decode c_C_person 85 = .ok (.invokeinterface 64 1, 5) := by decide +kernel
theorem d_C_person_90 : decode c_C_person 90 = .ok (.iconst 1, 1) := by decide +kernel
theorem d_C_person_91 : decode c_C_person 91 = .ok (.isub, 1) := by decide +kernel
theorem d_C_person_92 : decode c_C_person 92 = .ok (.ireturn, 1) := by decide +kernel
def t_C_person_0 (l : Launch) (s0 : State) (D : va_G) (ca : Nat → ClassId) (e0 d mc ms : Nat) : List (Nat × cr_T) := [(0, cr_iload 1 1),
  (1, cr_calS l (cr_W0 s0) s0.heap.size y_C_checkGroup cw_C_checkGroup d mc ms 1 2 4),
  (4, cr_aload 0 5),
  (5, cr_getf D kc 0 2 8),
  (8, cr_calV D kc l (cr_W0 s0) s0.heap.size 12 y_AL_size cw_AL_size d mc ms 0 2 13),
  (13, cr_push (.int 40) 15),
  (15, cr_iclt 28 18),
  (18, cr_thr s0 mc ms d 2 2),
  (28, cr_aload 0 29),
  (29, cr_getf D kc 0 0 32),
  (32, cr_calV D kc l (cr_W0 s0) s0.heap.size 12 y_AL_isEmpty cw_AL_isEmpty d mc ms 0 2 37),
  (37, cr_ifeq 50 40),
  (40, cr_thr s0 mc ms d 2 2),
  (50, cr_aload 0 51),
  (51, cr_getf D kc 0 2 54),
  (54, cr_new D kc s0.heap.size mc ms 6 2 [.int 0, .null] 57),
  (57, cr_dup 58),
  (58, cr_iload 1 59),
  (59, cr_aload 0 60),
  (60, cr_getf D kc 0 0 63),
  (63, cr_push (.int 0) 64),
  (64, cr_calV D kc l (cr_W0 s0) s0.heap.size 12 y_AL_get cw_AL_get d mc ms 1 2 69),
  (69, cr_cast D kc 8 72),
  (72, cr_calI l (cr_W0 s0) s0.heap.size y_Pe_init cw_Pe_init d mc ms 2 2 75),
  (75, cr_calV D kc l (cr_W0 s0) s0.heap.size 12 y_AL_add0 cw_AL_add0 d mc ms 1 2 80),
  (80, cr_pop 81),
  (81, cr_aload 0 82),
  (82, cr_getf D kc 0 2 85),
  (85, cr_calV D kc l (cr_W0 s0) s0.heap.size 12 y_AL_size cw_AL_size d mc ms 0 2 90),
  (90, cr_push (.int 1) 91)]
def t_C_person_1 (l : Launch) (s0 : State) (D : va_G) (ca : Nat → ClassId) (e0 d mc ms : Nat) : List (Nat × cr_T) := [(91, cr_isub 92),
  (92, cr_iret mc ms)]
def t_C_person (l : Launch) (s0 : State) (D : va_G) (ca : Nat → ClassId) (e0 d mc ms : Nat) : List (Nat × cr_T) := t_C_person_0 l s0 D ca e0 d mc ms ++ (t_C_person_1 l s0 D ca e0 d mc ms)
set_option maxHeartbeats 4000000 in
set_option maxRecDepth 20000 in
theorem s_C_person_0 {p : Program} {l : Launch} {e : Env} {R : Room} {s : State} {m : MethodId} {args : Array Value} {below : List Frame} {meth : Method} {c : Code} {s0 : State} {D : va_G} {ca : Nat → ClassId} {e0 d mc ms : Nat} {Q : cr_Q} (hl : l.flags = flags0) (Z : cr_Z0 s0 D ca e0) (C : cr_C p R s m meth c (cr_W0 s0) s0.heap.size y_C_person c_C_person 2 (Option.some FieldType.int) d mc ms) (hem : c.exceptionTable.toList = []) : ∀ x ∈ t_C_person_0 l s0 D ca e0 d mc ms, cr_Snd p l e R s m args below meth c s0.heap.size mc ms Q x.1 x.2 := by
  obtain ⟨hx, hb, hml, hown, hr, hlk, hnm, hU, hlo, hR⟩ := C
  have hK := cr_Z0K Z hU
  have hRc : R.cells = mc := by rw [hR]; rfl
  have hRs : R.slots = ms := by rw [hR]; rfl
  unfold t_C_person_0
  refine cr_cons (cr_iload_n_ok hx hb d_C_person_0 rfl rfl) ?_
  refine cr_cons (cr_calS_ok hx hb hml hown hlk hU hlo hR (cr_W0_st s0) (by rw [hem]; exact fun _ h => absurd h List.not_mem_nil) (u_C_checkGroup Z) (Or.inl (cr_w Z w_503 rfl hU args)) (cr_w Z w_504 rfl hU args) (by decide) (by decide +kernel) (by decide) d_C_person_1 rfl) ?_
  refine cr_cons (cr_aload_n_ok hx hb d_C_person_4 rfl rfl) ?_
  refine cr_cons (cr_getf_ok (C := R_C) (T := T_C) (N := 10) hx hb (k_C Z hU args) (fun _ h => h) hown hK rfl (by decide) (cr_w Z w_138 rfl hU args) (fun _ h => h) d_C_person_5 rfl) ?_
  refine cr_cons (cr_calF_ok (C := R_AL) (Tf := T_AL) (N := 3) (x := { cls := "java/util/List", name := "size", desc := "()I" }) hx hb hml hown hlk hU hlo hR (cr_W0_st s0) (by rw [hem]; exact fun _ h => absurd h List.not_mem_nil) hK rfl (u_AL_size Z) (cr_w Z w_197 rfl hU args) (cr_w Z w_199 rfl hU args) (cr_w Z w_198 rfl hU args) (cr_w Z w_201 rfl hU args) (cr_w Z w_203 rfl hU args) (cr_w Z w_204 rfl hU args) (cr_w Z w_202 rfl hU args) (cr_w Z w_200 rfl hU args) (by decide) (by decide +kernel) (by decide) d_C_person_8 rfl) ?_
  refine cr_cons (cr_bipush_ok hx hb d_C_person_13 (by decide) rfl) ?_
  refine cr_cons (cr_iclt_ok hx hb d_C_person_15 (by decide) rfl) ?_
  refine cr_cons (cr_thr_ok (X := "java/lang/IllegalStateException") hx hb hml hown hlk hU hR hem Z hl rfl w_334 w_335 w_15 own_C_74 str_109 d_C_person_18 d_C_person_21 d_C_person_22 d_C_person_24 d_C_person_27) ?_
  refine cr_cons (cr_aload_n_ok hx hb d_C_person_28 rfl rfl) ?_
  refine cr_cons (cr_getf_ok (C := R_C) (T := T_C) (N := 10) hx hb (k_C Z hU args) (fun _ h => h) hown hK rfl (by decide) (cr_w Z w_136 rfl hU args) (fun _ h => h) d_C_person_29 rfl) ?_
  refine cr_cons (cr_calF_ok (C := R_AL) (Tf := T_AL) (N := 3) (x := { cls := "java/util/List", name := "isEmpty", desc := "()Z" }) hx hb hml hown hlk hU hlo hR (cr_W0_st s0) (by rw [hem]; exact fun _ h => absurd h List.not_mem_nil) hK rfl (u_AL_isEmpty Z) (cr_w Z w_509 rfl hU args) (cr_w Z w_511 rfl hU args) (cr_w Z w_510 rfl hU args) (cr_w Z w_512 rfl hU args) (cr_w Z w_514 rfl hU args) (cr_w Z w_515 rfl hU args) (cr_w Z w_513 rfl hU args) (cr_w Z w_200 rfl hU args) (by decide) (by decide +kernel) (by decide) d_C_person_32 rfl) ?_
  refine cr_cons (cr_ifeq_ok hx hb d_C_person_37 (by decide) rfl) ?_
  refine cr_cons (cr_thr_ok (X := "java/lang/IllegalStateException") hx hb hml hown hlk hU hR hem Z hl rfl w_334 w_335 w_15 own_C_74 str_115 d_C_person_40 d_C_person_43 d_C_person_44 d_C_person_46 d_C_person_49) ?_
  refine cr_cons (cr_aload_n_ok hx hb d_C_person_50 rfl rfl) ?_
  refine cr_cons (cr_getf_ok (C := R_C) (T := T_C) (N := 10) hx hb (k_C Z hU args) (fun _ h => h) hown hK rfl (by decide) (cr_w Z w_138 rfl hU args) (fun _ h => h) d_C_person_51 rfl) ?_
  refine cr_cons (cr_new_ok (C := R_Pe) (T := T_Pe) (N := 2) tt_Pe hx hb (k_Pe Z hU args) (fun _ h => h) ty_Pe hown (cr_w Z w_518 rfl hU args) (cr_w Z w_519 rfl hU args) (cr_w Z w_23 rfl hU args) hK rfl (by decide +kernel) hlo hRc hRs d_C_person_54 rfl) ?_
  refine cr_cons (cr_dup_ok hx hb d_C_person_57 rfl) ?_
  refine cr_cons (cr_iload_n_ok hx hb d_C_person_58 rfl rfl) ?_
  refine cr_cons (cr_aload_n_ok hx hb d_C_person_59 rfl rfl) ?_
  refine cr_cons (cr_getf_ok (C := R_C) (T := T_C) (N := 10) hx hb (k_C Z hU args) (fun _ h => h) hown hK rfl (by decide) (cr_w Z w_136 rfl hU args) (fun _ h => h) d_C_person_60 rfl) ?_
  refine cr_cons (cr_iconst_ok hx hb d_C_person_63 (by decide) rfl) ?_
  refine cr_cons (cr_calF_ok (C := R_AL) (Tf := T_AL) (N := 3) (x := { cls := "java/util/List", name := "get", desc := "(I)Ljava/lang/Object;" }) hx hb hml hown hlk hU hlo hR (cr_W0_st s0) (by rw [hem]; exact fun _ h => absurd h List.not_mem_nil) hK rfl (u_AL_get Z) (cr_w Z w_207 rfl hU args) (cr_w Z w_209 rfl hU args) (cr_w Z w_208 rfl hU args) (cr_w Z w_210 rfl hU args) (cr_w Z w_212 rfl hU args) (cr_w Z w_213 rfl hU args) (cr_w Z w_211 rfl hU args) (cr_w Z w_200 rfl hU args) (by decide) (by decide +kernel) (by decide) d_C_person_64 rfl) ?_
  refine cr_cons (cr_cast_ok (C := R_Ro) (T := T_Ro) (N := 2) hx hb hown (cr_w Z w_350 rfl hU args) hK rfl rfl d_C_person_69 rfl) ?_
  refine cr_cons (cr_calI_ok hx hb hml hown hlk hU hlo hR (cr_W0_st s0) (by rw [hem]; exact fun _ h => absurd h List.not_mem_nil) (u_Pe_init Z) (Or.inr ⟨_, (cr_w Z w_520 rfl hU args)⟩) (cr_w Z w_521 rfl hU args) rfl (by decide) (by decide +kernel) (by decide) d_C_person_72 rfl) ?_
  refine cr_cons (cr_calF_ok (C := R_AL) (Tf := T_AL) (N := 3) (x := { cls := "java/util/List", name := "add", desc := "(Ljava/lang/Object;)Z" }) hx hb hml hown hlk hU hlo hR (cr_W0_st s0) (by rw [hem]; exact fun _ h => absurd h List.not_mem_nil) hK rfl (u_AL_add0 Z) (cr_w Z w_366 rfl hU args) (cr_w Z w_368 rfl hU args) (cr_w Z w_367 rfl hU args) (cr_w Z w_369 rfl hU args) (cr_w Z w_371 rfl hU args) (cr_w Z w_372 rfl hU args) (cr_w Z w_370 rfl hU args) (cr_w Z w_200 rfl hU args) (by decide) (by decide +kernel) (by decide) d_C_person_75 rfl) ?_
  refine cr_cons (cr_pop_ok hx hb d_C_person_80 rfl) ?_
  refine cr_cons (cr_aload_n_ok hx hb d_C_person_81 rfl rfl) ?_
  refine cr_cons (cr_getf_ok (C := R_C) (T := T_C) (N := 10) hx hb (k_C Z hU args) (fun _ h => h) hown hK rfl (by decide) (cr_w Z w_138 rfl hU args) (fun _ h => h) d_C_person_82 rfl) ?_
  refine cr_cons (cr_calF_ok (C := R_AL) (Tf := T_AL) (N := 3) (x := { cls := "java/util/List", name := "size", desc := "()I" }) hx hb hml hown hlk hU hlo hR (cr_W0_st s0) (by rw [hem]; exact fun _ h => absurd h List.not_mem_nil) hK rfl (u_AL_size Z) (cr_w Z w_197 rfl hU args) (cr_w Z w_199 rfl hU args) (cr_w Z w_198 rfl hU args) (cr_w Z w_201 rfl hU args) (cr_w Z w_203 rfl hU args) (cr_w Z w_204 rfl hU args) (cr_w Z w_202 rfl hU args) (cr_w Z w_200 rfl hU args) (by decide) (by decide +kernel) (by decide) d_C_person_85 rfl) ?_
  refine cr_cons (cr_iconst_ok hx hb d_C_person_90 (by decide) rfl) ?_
  exact cr_nil
set_option maxHeartbeats 4000000 in
set_option maxRecDepth 20000 in
theorem s_C_person_1 {p : Program} {l : Launch} {e : Env} {R : Room} {s : State} {m : MethodId} {args : Array Value} {below : List Frame} {meth : Method} {c : Code} {s0 : State} {D : va_G} {ca : Nat → ClassId} {e0 d mc ms : Nat} {Q : cr_Q} (hl : l.flags = flags0) (Z : cr_Z0 s0 D ca e0) (C : cr_C p R s m meth c (cr_W0 s0) s0.heap.size y_C_person c_C_person 2 (Option.some FieldType.int) d mc ms) (hem : c.exceptionTable.toList = []) : ∀ x ∈ t_C_person_1 l s0 D ca e0 d mc ms, cr_Snd p l e R s m args below meth c s0.heap.size mc ms Q x.1 x.2 := by
  obtain ⟨hx, hb, hml, hown, hr, hlk, hnm, hU, hlo, hR⟩ := C
  have hK := cr_Z0K Z hU
  have hRc : R.cells = mc := by rw [hR]; rfl
  have hRs : R.slots = ms := by rw [hR]; rfl
  unfold t_C_person_1
  refine cr_cons (cr_isub_ok hx hb d_C_person_91 rfl) ?_
  refine cr_cons (cr_iret_ok hx hb hr hlk d_C_person_92) ?_
  exact cr_nil
theorem s_C_person {p : Program} {l : Launch} {e : Env} {R : Room} {s : State} {m : MethodId} {args : Array Value} {below : List Frame} {meth : Method} {c : Code} {s0 : State} {D : va_G} {ca : Nat → ClassId} {e0 d mc ms : Nat} {Q : cr_Q} (hl : l.flags = flags0) (Z : cr_Z0 s0 D ca e0) (C : cr_C p R s m meth c (cr_W0 s0) s0.heap.size y_C_person c_C_person 2 (Option.some FieldType.int) d mc ms) (hem : c.exceptionTable.toList = []) : ∀ x ∈ t_C_person l s0 D ca e0 d mc ms, cr_Snd p l e R s m args below meth c s0.heap.size mc ms Q x.1 x.2 := cr_app (s_C_person_0 hl Z C hem) (s_C_person_1 hl Z C hem)
theorem d_C_checkGroup_0 : decode c_C_checkGroup 0 = .ok (.iload_n 0, 1) := by decide +kernel
theorem d_C_checkGroup_1 : decode c_C_checkGroup 1 = .ok (.ifCond .lt 9, 3) := by decide +kernel
theorem d_C_checkGroup_4 : decode c_C_checkGroup 4 = .ok (.iload_n 0, 1) := by decide +kernel
theorem d_C_checkGroup_5 : decode c_C_checkGroup 5 = .ok (.bipush 10, 2) := by decide +kernel
theorem d_C_checkGroup_7 : decode c_C_checkGroup 7 = .ok (.if_icmp .lt 14, 3) := by decide +kernel
theorem d_C_checkGroup_10 : decode c_C_checkGroup 10 = .ok (.new 93, 3) := by decide +kernel
theorem d_C_checkGroup_13 : decode c_C_checkGroup 13 = .ok (.dup, 1) := by decide +kernel
theorem d_C_checkGroup_14 : decode c_C_checkGroup 14 = .ok (.ldc_w 274, 3) := by decide +kernel
theorem d_C_checkGroup_17 : decode c_C_checkGroup 17 = .ok (.invokespecial 97, 3) := by decide +kernel
theorem d_C_checkGroup_20 : decode c_C_checkGroup 20 = .ok (.athrow, 1) := by decide +kernel
theorem d_C_checkGroup_21 : decode c_C_checkGroup 21 = .ok (.return_, 1) := by decide +kernel
def t_C_checkGroup_0 (l : Launch) (s0 : State) (D : va_G) (ca : Nat → ClassId) (e0 d mc ms : Nat) : List (Nat × cr_T) := [(0, cr_iload 0 1),
  (1, cr_iflt 10 4),
  (4, cr_iload 0 5),
  (5, cr_push (.int 10) 7),
  (7, cr_iclt 21 10),
  (10, cr_thr s0 mc ms d 1 1),
  (21, cr_vret mc ms)]
def t_C_checkGroup (l : Launch) (s0 : State) (D : va_G) (ca : Nat → ClassId) (e0 d mc ms : Nat) : List (Nat × cr_T) := t_C_checkGroup_0 l s0 D ca e0 d mc ms
set_option maxHeartbeats 4000000 in
set_option maxRecDepth 20000 in
theorem s_C_checkGroup_0 {p : Program} {l : Launch} {e : Env} {R : Room} {s : State} {m : MethodId} {args : Array Value} {below : List Frame} {meth : Method} {c : Code} {s0 : State} {D : va_G} {ca : Nat → ClassId} {e0 d mc ms : Nat} {Q : cr_Q} (hl : l.flags = flags0) (Z : cr_Z0 s0 D ca e0) (C : cr_C p R s m meth c (cr_W0 s0) s0.heap.size y_C_checkGroup c_C_checkGroup 1 (Option.none : Option FieldType) d mc ms) (hem : c.exceptionTable.toList = []) : ∀ x ∈ t_C_checkGroup_0 l s0 D ca e0 d mc ms, cr_Snd p l e R s m args below meth c s0.heap.size mc ms Q x.1 x.2 := by
  obtain ⟨hx, hb, hml, hown, hr, hlk, hnm, hU, hlo, hR⟩ := C
  have hK := cr_Z0K Z hU
  have hRc : R.cells = mc := by rw [hR]; rfl
  have hRs : R.slots = ms := by rw [hR]; rfl
  unfold t_C_checkGroup_0
  refine cr_cons (cr_iload_n_ok hx hb d_C_checkGroup_0 rfl rfl) ?_
  refine cr_cons (cr_iflt_ok hx hb d_C_checkGroup_1 (by decide) rfl) ?_
  refine cr_cons (cr_iload_n_ok hx hb d_C_checkGroup_4 rfl rfl) ?_
  refine cr_cons (cr_bipush_ok hx hb d_C_checkGroup_5 (by decide) rfl) ?_
  refine cr_cons (cr_iclt_ok hx hb d_C_checkGroup_7 (by decide) rfl) ?_
  refine cr_cons (cr_thrw_ok (X := "java/lang/IllegalArgumentException") hx hb hml hown hlk hU hR hem Z hl rfl w_267 w_268 w_14 own_C_97 str_274 d_C_checkGroup_10 d_C_checkGroup_13 d_C_checkGroup_14 d_C_checkGroup_17 d_C_checkGroup_20) ?_
  refine cr_cons (cr_vret_ok hx hb hr hlk d_C_checkGroup_21) ?_
  exact cr_nil
theorem s_C_checkGroup {p : Program} {l : Launch} {e : Env} {R : Room} {s : State} {m : MethodId} {args : Array Value} {below : List Frame} {meth : Method} {c : Code} {s0 : State} {D : va_G} {ca : Nat → ClassId} {e0 d mc ms : Nat} {Q : cr_Q} (hl : l.flags = flags0) (Z : cr_Z0 s0 D ca e0) (C : cr_C p R s m meth c (cr_W0 s0) s0.heap.size y_C_checkGroup c_C_checkGroup 1 (Option.none : Option FieldType) d mc ms) (hem : c.exceptionTable.toList = []) : ∀ x ∈ t_C_checkGroup l s0 D ca e0 d mc ms, cr_Snd p l e R s m args below meth c s0.heap.size mc ms Q x.1 x.2 := s_C_checkGroup_0 hl Z C hem
theorem d_C_card_0 : decode c_C_card 0 = .ok (.aload_n 0, 1) := by decide +kernel
theorem d_C_card_1 : decode c_C_card 1 = .ok (.iload_n 1, 1) := by decide +kernel
theorem d_C_card_2 : decode c_C_card 2 = .ok (.invokevirtual 126, 3) := by decide +kernel
theorem d_C_card_5 : decode c_C_card 5 = .ok (.astore_n 3, 1) := by decide +kernel
theorem d_C_card_6 : decode c_C_card 6 = .ok (.iload_n 2, 1) := by decide +kernel
theorem d_C_card_7 : decode c_C_card 7 = .ok (.invokestatic 130, 3) := by decide +kernel
theorem d_C_card_10 : decode c_C_card 10 = .ok (.aload_n 0, 1) := by decide +kernel
theorem d_C_card_11 : decode c_C_card 11 = .ok (.getfield 22, 3) := by decide +kernel
theorem d_C_card_14 : decode c_C_card 14 = .ok (.invokeinterface 64 1, 5) := by decide +kernel
theorem d_C_card_19 : decode c_C_card 19 = .ok (.bipush 60, 2) := by decide +kernel
theorem d_C_card_21 : decode c_C_card 21 = .ok (.if_icmp .lt 13, 3) := by decide +kernel
theorem d_C_card_24 : decode c_C_card 24 = .ok (.new 70, 3) := by decide +kernel
theorem d_C_card_27 : decode c_C_card 27 = .ok (.dup, 1) := by decide +kernel
theorem d_C_card_28 : decode c_C_card 28 = .ok (.ldc 133, 2) := by decide +kernel
theorem d_C_card_30 : decode c_C_card 30 = .ok (.invokespecial 74, 3) := by decide +kernel
theorem d_C_card_33 : decode c_C_card 33 = .ok (.athrow, 1) := by decide +kernel
theorem d_C_card_34 : decode c_C_card 34 = .ok (.new 135, 3) := by decide +kernel
theorem d_C_card_37 : decode c_C_card 37 = .ok (.dup, 1) := by decide +kernel
theorem d_C_card_38 : decode c_C_card 38 = .ok (.aload_n 0, 1) := by decide +kernel
theorem d_C_card_39 : decode c_C_card 39 = .ok (.getfield 22, 3) := by decide +kernel
theorem d_C_card_42 : decode c_C_card 42 = .ok (.invokeinterface 64 1, 5) := by decide +kernel
theorem d_C_card_47 : decode c_C_card 47 = .ok (.aload_n 3, 1) := by decide +kernel
theorem d_C_card_48 : decode c_C_card 48 = .ok (.iload_n 2, 1) := by decide +kernel
theorem d_C_card_49 : decode c_C_card 49 = .ok (.invokespecial 137, 3) := by decide +kernel
theorem d_C_card_52 : decode c_C_card 52 = .ok (.astore 4, 2) := by decide +kernel
theorem d_C_card_54 : decode c_C_card 54 = .ok (.aload_n 0, 1) := by decide +kernel
theorem d_C_card_55 : decode c_C_card 55 = .ok (.getfield 22, 3) := by decide +kernel
theorem d_C_card_58 : decode c_C_card 58 = .ok (.aload 4, 2) := by decide +kernel
theorem d_C_card_60 : decode c_C_card 60 = .ok (.invokeinterface 82 2, 5) := by decide +kernel
theorem d_C_card_65 : decode c_C_card 65 = .ok (.pop, 1) := by decide +kernel
theorem d_C_card_66 : decode c_C_card 66 = .ok (.aload_n 0, 1) := by decide +kernel
theorem d_C_card_67 : decode c_C_card 67 = .ok (.getfield 31, 3) := by decide +kernel
theorem d_C_card_70 : decode c_C_card 70 = .ok (.aload_n 0, 1) := by decide +kernel
theorem d_C_card_71 : decode c_C_card 71 = .ok (.getfield 22, 3) := by decide +kernel
theorem d_C_card_74 : decode c_C_card 74 = .ok (.invokeinterface 64 1, 5) := by decide +kernel
theorem d_C_card_79 : decode c_C_card 79 = .ok (.putfield 140, 3) := by decide +kernel
theorem d_C_card_82 : decode c_C_card 82 = .ok (.aload 4, 2) := by decide +kernel
theorem d_C_card_84 : decode c_C_card 84 = .ok (.getfield 143, 3) := by decide +kernel
theorem d_C_card_87 : decode c_C_card 87 = .ok (.ireturn, 1) := by decide +kernel
def t_C_card_0 (l : Launch) (s0 : State) (D : va_G) (ca : Nat → ClassId) (e0 d mc ms : Nat) : List (Nat × cr_T) := [(0, cr_aload 0 1),
  (1, cr_iload 1 2),
  (2, cr_calV D kc l (cr_W0 s0) s0.heap.size 0 y_C_personNumbered cw_C_personNumbered d mc ms 1 5 5),
  (5, cr_astore 3 6),
  (6, cr_iload 2 7),
  (7, cr_calS l (cr_W0 s0) s0.heap.size y_C_checkMinute cw_C_checkMinute d mc ms 1 5 10),
  (10, cr_aload 0 11),
  (11, cr_getf D kc 0 3 14),
  (14, cr_calV D kc l (cr_W0 s0) s0.heap.size 12 y_AL_size cw_AL_size d mc ms 0 5 19),
  (19, cr_push (.int 60) 21),
  (21, cr_iclt 34 24),
  (24, cr_thr s0 mc ms d 2 5),
  (34, cr_new D kc s0.heap.size mc ms 1 3 [.int 0, .null, .int 0] 37),
  (37, cr_dup 38),
  (38, cr_aload 0 39),
  (39, cr_getf D kc 0 3 42),
  (42, cr_calV D kc l (cr_W0 s0) s0.heap.size 12 y_AL_size cw_AL_size d mc ms 0 5 47),
  (47, cr_aload 3 48),
  (48, cr_iload 2 49),
  (49, cr_calI l (cr_W0 s0) s0.heap.size y_Cd_init cw_Cd_init d mc ms 3 5 52),
  (52, cr_astore 4 54),
  (54, cr_aload 0 55),
  (55, cr_getf D kc 0 3 58),
  (58, cr_aload 4 60),
  (60, cr_calV D kc l (cr_W0 s0) s0.heap.size 12 y_AL_add0 cw_AL_add0 d mc ms 1 5 65),
  (65, cr_pop 66),
  (66, cr_aload 0 67),
  (67, cr_getf D kc 0 5 70),
  (70, cr_aload 0 71),
  (71, cr_getf D kc 0 3 74)]
def t_C_card_1 (l : Launch) (s0 : State) (D : va_G) (ca : Nat → ClassId) (e0 d mc ms : Nat) : List (Nat × cr_T) := [(74, cr_calV D kc l (cr_W0 s0) s0.heap.size 12 y_AL_size cw_AL_size d mc ms 0 5 79),
  (79, cr_putf D kc s0.heap.size 4 0 .int 82),
  (82, cr_aload 4 84),
  (84, cr_getf D kc 1 0 87),
  (87, cr_iret mc ms)]
def t_C_card (l : Launch) (s0 : State) (D : va_G) (ca : Nat → ClassId) (e0 d mc ms : Nat) : List (Nat × cr_T) := t_C_card_0 l s0 D ca e0 d mc ms ++ (t_C_card_1 l s0 D ca e0 d mc ms)
set_option maxHeartbeats 4000000 in
set_option maxRecDepth 20000 in
theorem s_C_card_0 {p : Program} {l : Launch} {e : Env} {R : Room} {s : State} {m : MethodId} {args : Array Value} {below : List Frame} {meth : Method} {c : Code} {s0 : State} {D : va_G} {ca : Nat → ClassId} {e0 d mc ms : Nat} {Q : cr_Q} (hl : l.flags = flags0) (Z : cr_Z0 s0 D ca e0) (C : cr_C p R s m meth c (cr_W0 s0) s0.heap.size y_C_card c_C_card 5 (Option.some FieldType.int) d mc ms) (hem : c.exceptionTable.toList = []) : ∀ x ∈ t_C_card_0 l s0 D ca e0 d mc ms, cr_Snd p l e R s m args below meth c s0.heap.size mc ms Q x.1 x.2 := by
  obtain ⟨hx, hb, hml, hown, hr, hlk, hnm, hU, hlo, hR⟩ := C
  have hK := cr_Z0K Z hU
  have hRc : R.cells = mc := by rw [hR]; rfl
  have hRs : R.slots = ms := by rw [hR]; rfl
  unfold t_C_card_0
  refine cr_cons (cr_aload_n_ok hx hb d_C_card_0 rfl rfl) ?_
  refine cr_cons (cr_iload_n_ok hx hb d_C_card_1 rfl rfl) ?_
  refine cr_cons (cr_calV_ok (C := R_C) (Tf := T_C) (N := 10) hx hb hml hown hlk hU hlo hR (cr_W0_st s0) (by rw [hem]; exact fun _ h => absurd h List.not_mem_nil) hK rfl (u_C_personNumbered Z) (Or.inl (cr_w Z w_540 rfl hU args)) (cr_w Z w_542 rfl hU args) (cr_w Z ws_13 rfl hU args) (by decide) (by decide +kernel) (by decide) d_C_card_2 rfl) ?_
  refine cr_cons (cr_astore_n_ok hx hb d_C_card_5 rfl rfl) ?_
  refine cr_cons (cr_iload_n_ok hx hb d_C_card_6 rfl rfl) ?_
  refine cr_cons (cr_calS_ok hx hb hml hown hlk hU hlo hR (cr_W0_st s0) (by rw [hem]; exact fun _ h => absurd h List.not_mem_nil) (u_C_checkMinute Z) (Or.inl (cr_w Z w_545 rfl hU args)) (cr_w Z w_546 rfl hU args) (by decide) (by decide +kernel) (by decide) d_C_card_7 rfl) ?_
  refine cr_cons (cr_aload_n_ok hx hb d_C_card_10 rfl rfl) ?_
  refine cr_cons (cr_getf_ok (C := R_C) (T := T_C) (N := 10) hx hb (k_C Z hU args) (fun _ h => h) hown hK rfl (by decide) (cr_w Z w_139 rfl hU args) (fun _ h => h) d_C_card_11 rfl) ?_
  refine cr_cons (cr_calF_ok (C := R_AL) (Tf := T_AL) (N := 3) (x := { cls := "java/util/List", name := "size", desc := "()I" }) hx hb hml hown hlk hU hlo hR (cr_W0_st s0) (by rw [hem]; exact fun _ h => absurd h List.not_mem_nil) hK rfl (u_AL_size Z) (cr_w Z w_197 rfl hU args) (cr_w Z w_199 rfl hU args) (cr_w Z w_198 rfl hU args) (cr_w Z w_201 rfl hU args) (cr_w Z w_203 rfl hU args) (cr_w Z w_204 rfl hU args) (cr_w Z w_202 rfl hU args) (cr_w Z w_200 rfl hU args) (by decide) (by decide +kernel) (by decide) d_C_card_14 rfl) ?_
  refine cr_cons (cr_bipush_ok hx hb d_C_card_19 (by decide) rfl) ?_
  refine cr_cons (cr_iclt_ok hx hb d_C_card_21 (by decide) rfl) ?_
  refine cr_cons (cr_thr_ok (X := "java/lang/IllegalStateException") hx hb hml hown hlk hU hR hem Z hl rfl w_334 w_335 w_15 own_C_74 str_133 d_C_card_24 d_C_card_27 d_C_card_28 d_C_card_30 d_C_card_33) ?_
  refine cr_cons (cr_new_ok (C := R_Cd) (T := T_Cd) (N := 3) tt_Cd hx hb (k_Cd Z hU args) (fun _ h => h) ty_Cd hown (cr_w Z w_551 rfl hU args) (cr_w Z w_552 rfl hU args) (cr_w Z w_24 rfl hU args) hK rfl (by decide +kernel) hlo hRc hRs d_C_card_34 rfl) ?_
  refine cr_cons (cr_dup_ok hx hb d_C_card_37 rfl) ?_
  refine cr_cons (cr_aload_n_ok hx hb d_C_card_38 rfl rfl) ?_
  refine cr_cons (cr_getf_ok (C := R_C) (T := T_C) (N := 10) hx hb (k_C Z hU args) (fun _ h => h) hown hK rfl (by decide) (cr_w Z w_139 rfl hU args) (fun _ h => h) d_C_card_39 rfl) ?_
  refine cr_cons (cr_calF_ok (C := R_AL) (Tf := T_AL) (N := 3) (x := { cls := "java/util/List", name := "size", desc := "()I" }) hx hb hml hown hlk hU hlo hR (cr_W0_st s0) (by rw [hem]; exact fun _ h => absurd h List.not_mem_nil) hK rfl (u_AL_size Z) (cr_w Z w_197 rfl hU args) (cr_w Z w_199 rfl hU args) (cr_w Z w_198 rfl hU args) (cr_w Z w_201 rfl hU args) (cr_w Z w_203 rfl hU args) (cr_w Z w_204 rfl hU args) (cr_w Z w_202 rfl hU args) (cr_w Z w_200 rfl hU args) (by decide) (by decide +kernel) (by decide) d_C_card_42 rfl) ?_
  refine cr_cons (cr_aload_n_ok hx hb d_C_card_47 rfl rfl) ?_
  refine cr_cons (cr_iload_n_ok hx hb d_C_card_48 rfl rfl) ?_
  refine cr_cons (cr_calI_ok hx hb hml hown hlk hU hlo hR (cr_W0_st s0) (by rw [hem]; exact fun _ h => absurd h List.not_mem_nil) (u_Cd_init Z) (Or.inr ⟨_, (cr_w Z w_553 rfl hU args)⟩) (cr_w Z w_554 rfl hU args) rfl (by decide) (by decide +kernel) (by decide) d_C_card_49 rfl) ?_
  refine cr_cons (cr_astore_ok hx hb d_C_card_52 rfl) ?_
  refine cr_cons (cr_aload_n_ok hx hb d_C_card_54 rfl rfl) ?_
  refine cr_cons (cr_getf_ok (C := R_C) (T := T_C) (N := 10) hx hb (k_C Z hU args) (fun _ h => h) hown hK rfl (by decide) (cr_w Z w_139 rfl hU args) (fun _ h => h) d_C_card_55 rfl) ?_
  refine cr_cons (cr_aload_ok hx hb d_C_card_58 rfl) ?_
  refine cr_cons (cr_calF_ok (C := R_AL) (Tf := T_AL) (N := 3) (x := { cls := "java/util/List", name := "add", desc := "(Ljava/lang/Object;)Z" }) hx hb hml hown hlk hU hlo hR (cr_W0_st s0) (by rw [hem]; exact fun _ h => absurd h List.not_mem_nil) hK rfl (u_AL_add0 Z) (cr_w Z w_366 rfl hU args) (cr_w Z w_368 rfl hU args) (cr_w Z w_367 rfl hU args) (cr_w Z w_369 rfl hU args) (cr_w Z w_371 rfl hU args) (cr_w Z w_372 rfl hU args) (cr_w Z w_370 rfl hU args) (cr_w Z w_200 rfl hU args) (by decide) (by decide +kernel) (by decide) d_C_card_60 rfl) ?_
  refine cr_cons (cr_pop_ok hx hb d_C_card_65 rfl) ?_
  refine cr_cons (cr_aload_n_ok hx hb d_C_card_66 rfl rfl) ?_
  refine cr_cons (cr_getf_ok (C := R_C) (T := T_C) (N := 10) hx hb (k_C Z hU args) (fun _ h => h) hown hK rfl (by decide) (cr_w Z w_141 rfl hU args) (fun _ h => h) d_C_card_67 rfl) ?_
  refine cr_cons (cr_aload_n_ok hx hb d_C_card_70 rfl rfl) ?_
  refine cr_cons (cr_getf_ok (C := R_C) (T := T_C) (N := 10) hx hb (k_C Z hU args) (fun _ h => h) hown hK rfl (by decide) (cr_w Z w_139 rfl hU args) (fun _ h => h) d_C_card_71 rfl) ?_
  exact cr_nil
set_option maxHeartbeats 4000000 in
set_option maxRecDepth 20000 in
theorem s_C_card_1 {p : Program} {l : Launch} {e : Env} {R : Room} {s : State} {m : MethodId} {args : Array Value} {below : List Frame} {meth : Method} {c : Code} {s0 : State} {D : va_G} {ca : Nat → ClassId} {e0 d mc ms : Nat} {Q : cr_Q} (hl : l.flags = flags0) (Z : cr_Z0 s0 D ca e0) (C : cr_C p R s m meth c (cr_W0 s0) s0.heap.size y_C_card c_C_card 5 (Option.some FieldType.int) d mc ms) (hem : c.exceptionTable.toList = []) : ∀ x ∈ t_C_card_1 l s0 D ca e0 d mc ms, cr_Snd p l e R s m args below meth c s0.heap.size mc ms Q x.1 x.2 := by
  obtain ⟨hx, hb, hml, hown, hr, hlk, hnm, hU, hlo, hR⟩ := C
  have hK := cr_Z0K Z hU
  have hRc : R.cells = mc := by rw [hR]; rfl
  have hRs : R.slots = ms := by rw [hR]; rfl
  unfold t_C_card_1
  refine cr_cons (cr_calF_ok (C := R_AL) (Tf := T_AL) (N := 3) (x := { cls := "java/util/List", name := "size", desc := "()I" }) hx hb hml hown hlk hU hlo hR (cr_W0_st s0) (by rw [hem]; exact fun _ h => absurd h List.not_mem_nil) hK rfl (u_AL_size Z) (cr_w Z w_197 rfl hU args) (cr_w Z w_199 rfl hU args) (cr_w Z w_198 rfl hU args) (cr_w Z w_201 rfl hU args) (cr_w Z w_203 rfl hU args) (cr_w Z w_204 rfl hU args) (cr_w Z w_202 rfl hU args) (cr_w Z w_200 rfl hU args) (by decide) (by decide +kernel) (by decide) d_C_card_74 rfl) ?_
  refine cr_cons (cr_putf_ok (C := R_Kn) (T := T_Kn) (N := 4) tt_Kn hx hb (k_Kn Z hU args) (fun _ h => h) ty_Kn nm_Kn hown hK rfl (by decide) (Or.inr ⟨_, (cr_w Z w_71 rfl hU args)⟩) (fun _ h => h) rfl (by decide +kernel) d_C_card_79 rfl) ?_
  refine cr_cons (cr_aload_ok hx hb d_C_card_82 rfl) ?_
  refine cr_cons (cr_getfN_ok (C := R_Cd) (T := T_Cd) (N := 3) hx hb (k_Cd Z hU args) (fun _ h => h) hown hK rfl (by decide) (cr_w Z w_558 rfl hU args) (fun _ h => h) d_C_card_84 rfl) ?_
  refine cr_cons (cr_iret_ok hx hb hr hlk d_C_card_87) ?_
  exact cr_nil
theorem s_C_card {p : Program} {l : Launch} {e : Env} {R : Room} {s : State} {m : MethodId} {args : Array Value} {below : List Frame} {meth : Method} {c : Code} {s0 : State} {D : va_G} {ca : Nat → ClassId} {e0 d mc ms : Nat} {Q : cr_Q} (hl : l.flags = flags0) (Z : cr_Z0 s0 D ca e0) (C : cr_C p R s m meth c (cr_W0 s0) s0.heap.size y_C_card c_C_card 5 (Option.some FieldType.int) d mc ms) (hem : c.exceptionTable.toList = []) : ∀ x ∈ t_C_card l s0 D ca e0 d mc ms, cr_Snd p l e R s m args below meth c s0.heap.size mc ms Q x.1 x.2 := cr_app (s_C_card_0 hl Z C hem) (s_C_card_1 hl Z C hem)
theorem d_C_personNumbered_0 : decode c_C_personNumbered 0 = .ok (.iload_n 1, 1) := by decide +kernel
theorem d_C_personNumbered_1 : decode c_C_personNumbered 1 = .ok (.ifCond .lt 16, 3) := by decide +kernel
theorem d_C_personNumbered_4 : decode c_C_personNumbered 4 = .ok (.iload_n 1, 1) := by decide +kernel
theorem d_C_personNumbered_5 : decode c_C_personNumbered 5 = .ok (.aload_n 0, 1) := by decide +kernel
theorem d_C_personNumbered_6 : decode c_C_personNumbered 6 = .ok (.getfield 19, 3) := by decide +kernel
theorem d_C_personNumbered_9 : decode c_C_personNumbered 9 = .ok (.invokeinterface 64 1, 5) := by decide +kernel
theorem d_C_personNumbered_14 : decode c_C_personNumbered 14 = .ok (.if_icmp .lt 14, 3) := by decide +kernel
theorem d_C_personNumbered_17 : decode c_C_personNumbered 17 = .ok (.new 93, 3) := by decide +kernel
theorem d_C_personNumbered_20 : decode c_C_personNumbered 20 = .ok (.dup, 1) := by decide +kernel
theorem d_C_personNumbered_21 : decode c_C_personNumbered 21 = .ok (.ldc_w 300, 3) := by decide +kernel
theorem d_C_personNumbered_24 : decode c_C_personNumbered 24 = .ok (.invokespecial 97, 3) := by decide +kernel
theorem d_C_personNumbered_27 : decode c_C_personNumbered 27 = .ok (.athrow, 1) := by decide +kernel
theorem d_C_personNumbered_28 : decode c_C_personNumbered 28 = .ok (.aload_n 0, 1) := by decide +kernel
theorem d_C_personNumbered_29 : decode c_C_personNumbered 29 = .ok (.getfield 19, 3) := by decide +kernel
theorem d_C_personNumbered_32 : decode c_C_personNumbered 32 = .ok (.iload_n 1, 1) := by decide +kernel
theorem d_C_personNumbered_33 : decode c_C_personNumbered 33 = .ok (.invokeinterface 119 2, 5) := by decide +kernel
theorem d_C_personNumbered_38 : decode c_C_personNumbered 38 = .ok (.checkcast 117, 3) := by decide +kernel
theorem d_C_personNumbered_41 : decode c_C_personNumbered 41 = .ok (.areturn, 1) := by decide +kernel
def t_C_personNumbered_0 (l : Launch) (s0 : State) (D : va_G) (ca : Nat → ClassId) (e0 d mc ms : Nat) : List (Nat × cr_T) := [(0, cr_iload 1 1),
  (1, cr_iflt 17 4),
  (4, cr_iload 1 5),
  (5, cr_aload 0 6),
  (6, cr_getf D kc 0 2 9),
  (9, cr_calV D kc l (cr_W0 s0) s0.heap.size 12 y_AL_size cw_AL_size d mc ms 0 2 14),
  (14, cr_iclt 28 17),
  (17, cr_thr s0 mc ms d 1 2),
  (28, cr_aload 0 29),
  (29, cr_getf D kc 0 2 32),
  (32, cr_iload 1 33),
  (33, cr_calV D kc l (cr_W0 s0) s0.heap.size 12 y_AL_get cw_AL_get d mc ms 1 2 38),
  (38, cr_cast D kc 6 41),
  (41, cr_aret mc ms)]
def t_C_personNumbered (l : Launch) (s0 : State) (D : va_G) (ca : Nat → ClassId) (e0 d mc ms : Nat) : List (Nat × cr_T) := t_C_personNumbered_0 l s0 D ca e0 d mc ms
set_option maxHeartbeats 4000000 in
set_option maxRecDepth 20000 in
theorem s_C_personNumbered_0 {p : Program} {l : Launch} {e : Env} {R : Room} {s : State} {m : MethodId} {args : Array Value} {below : List Frame} {meth : Method} {c : Code} {s0 : State} {D : va_G} {ca : Nat → ClassId} {e0 d mc ms : Nat} {Q : cr_Q} (hl : l.flags = flags0) (Z : cr_Z0 s0 D ca e0) (C : cr_C p R s m meth c (cr_W0 s0) s0.heap.size y_C_personNumbered c_C_personNumbered 2 (Option.some (FieldType.object "CardRights$Person")) d mc ms) (hem : c.exceptionTable.toList = []) : ∀ x ∈ t_C_personNumbered_0 l s0 D ca e0 d mc ms, cr_Snd p l e R s m args below meth c s0.heap.size mc ms Q x.1 x.2 := by
  obtain ⟨hx, hb, hml, hown, hr, hlk, hnm, hU, hlo, hR⟩ := C
  have hK := cr_Z0K Z hU
  have hRc : R.cells = mc := by rw [hR]; rfl
  have hRs : R.slots = ms := by rw [hR]; rfl
  unfold t_C_personNumbered_0
  refine cr_cons (cr_iload_n_ok hx hb d_C_personNumbered_0 rfl rfl) ?_
  refine cr_cons (cr_iflt_ok hx hb d_C_personNumbered_1 (by decide) rfl) ?_
  refine cr_cons (cr_iload_n_ok hx hb d_C_personNumbered_4 rfl rfl) ?_
  refine cr_cons (cr_aload_n_ok hx hb d_C_personNumbered_5 rfl rfl) ?_
  refine cr_cons (cr_getf_ok (C := R_C) (T := T_C) (N := 10) hx hb (k_C Z hU args) (fun _ h => h) hown hK rfl (by decide) (cr_w Z w_138 rfl hU args) (fun _ h => h) d_C_personNumbered_6 rfl) ?_
  refine cr_cons (cr_calF_ok (C := R_AL) (Tf := T_AL) (N := 3) (x := { cls := "java/util/List", name := "size", desc := "()I" }) hx hb hml hown hlk hU hlo hR (cr_W0_st s0) (by rw [hem]; exact fun _ h => absurd h List.not_mem_nil) hK rfl (u_AL_size Z) (cr_w Z w_197 rfl hU args) (cr_w Z w_199 rfl hU args) (cr_w Z w_198 rfl hU args) (cr_w Z w_201 rfl hU args) (cr_w Z w_203 rfl hU args) (cr_w Z w_204 rfl hU args) (cr_w Z w_202 rfl hU args) (cr_w Z w_200 rfl hU args) (by decide) (by decide +kernel) (by decide) d_C_personNumbered_9 rfl) ?_
  refine cr_cons (cr_iclt_ok hx hb d_C_personNumbered_14 (by decide) rfl) ?_
  refine cr_cons (cr_thrw_ok (X := "java/lang/IllegalArgumentException") hx hb hml hown hlk hU hR hem Z hl rfl w_267 w_268 w_14 own_C_97 str_300 d_C_personNumbered_17 d_C_personNumbered_20 d_C_personNumbered_21 d_C_personNumbered_24 d_C_personNumbered_27) ?_
  refine cr_cons (cr_aload_n_ok hx hb d_C_personNumbered_28 rfl rfl) ?_
  refine cr_cons (cr_getf_ok (C := R_C) (T := T_C) (N := 10) hx hb (k_C Z hU args) (fun _ h => h) hown hK rfl (by decide) (cr_w Z w_138 rfl hU args) (fun _ h => h) d_C_personNumbered_29 rfl) ?_
  refine cr_cons (cr_iload_n_ok hx hb d_C_personNumbered_32 rfl rfl) ?_
  refine cr_cons (cr_calF_ok (C := R_AL) (Tf := T_AL) (N := 3) (x := { cls := "java/util/List", name := "get", desc := "(I)Ljava/lang/Object;" }) hx hb hml hown hlk hU hlo hR (cr_W0_st s0) (by rw [hem]; exact fun _ h => absurd h List.not_mem_nil) hK rfl (u_AL_get Z) (cr_w Z w_207 rfl hU args) (cr_w Z w_209 rfl hU args) (cr_w Z w_208 rfl hU args) (cr_w Z w_210 rfl hU args) (cr_w Z w_212 rfl hU args) (cr_w Z w_213 rfl hU args) (cr_w Z w_211 rfl hU args) (cr_w Z w_200 rfl hU args) (by decide) (by decide +kernel) (by decide) d_C_personNumbered_33 rfl) ?_
  refine cr_cons (cr_cast_ok (C := R_Pe) (T := T_Pe) (N := 2) hx hb hown (cr_w Z w_518 rfl hU args) hK rfl rfl d_C_personNumbered_38 rfl) ?_
  refine cr_cons (cr_aret_ok hx hb hr (Or.inl ⟨_, rfl⟩) hlk d_C_personNumbered_41) ?_
  exact cr_nil
theorem s_C_personNumbered {p : Program} {l : Launch} {e : Env} {R : Room} {s : State} {m : MethodId} {args : Array Value} {below : List Frame} {meth : Method} {c : Code} {s0 : State} {D : va_G} {ca : Nat → ClassId} {e0 d mc ms : Nat} {Q : cr_Q} (hl : l.flags = flags0) (Z : cr_Z0 s0 D ca e0) (C : cr_C p R s m meth c (cr_W0 s0) s0.heap.size y_C_personNumbered c_C_personNumbered 2 (Option.some (FieldType.object "CardRights$Person")) d mc ms) (hem : c.exceptionTable.toList = []) : ∀ x ∈ t_C_personNumbered l s0 D ca e0 d mc ms, cr_Snd p l e R s m args below meth c s0.heap.size mc ms Q x.1 x.2 := s_C_personNumbered_0 hl Z C hem
theorem d_C_checkMinute_0 : decode c_C_checkMinute 0 = .ok (.iload_n 0, 1) := by decide +kernel
theorem d_C_checkMinute_1 : decode c_C_checkMinute 1 = .ok (.ifCond .lt 10, 3) := by decide +kernel
theorem d_C_checkMinute_4 : decode c_C_checkMinute 4 = .ok (.iload_n 0, 1) := by decide +kernel
theorem d_C_checkMinute_5 : decode c_C_checkMinute 5 = .ok (.ldc_w 278, 3) := by decide +kernel
theorem d_C_checkMinute_8 : decode c_C_checkMinute 8 = .ok (.if_icmp .le 14, 3) := by decide +kernel
theorem d_C_checkMinute_11 : decode c_C_checkMinute 11 = .ok (.new 93, 3) := by decide +kernel
theorem d_C_checkMinute_14 : decode c_C_checkMinute 14 = .ok (.dup, 1) := by decide +kernel
theorem d_C_checkMinute_15 : decode c_C_checkMinute 15 = .ok (.ldc_w 279, 3) := by decide +kernel
theorem d_C_checkMinute_18 : decode c_C_checkMinute 18 = .ok (.invokespecial 97, 3) := by decide +kernel
theorem d_C_checkMinute_21 : decode c_C_checkMinute 21 = .ok (.athrow, 1) := by decide +kernel
theorem d_C_checkMinute_22 : decode c_C_checkMinute 22 = .ok (.return_, 1) := by decide +kernel
def t_C_checkMinute_0 (l : Launch) (s0 : State) (D : va_G) (ca : Nat → ClassId) (e0 d mc ms : Nat) : List (Nat × cr_T) := [(0, cr_iload 0 1),
  (1, cr_iflt 11 4),
  (4, cr_iload 0 5),
  (5, cr_push (.int 1000000) 8),
  (8, cr_icle 22 11),
  (11, cr_thr s0 mc ms d 1 1),
  (22, cr_vret mc ms)]
def t_C_checkMinute (l : Launch) (s0 : State) (D : va_G) (ca : Nat → ClassId) (e0 d mc ms : Nat) : List (Nat × cr_T) := t_C_checkMinute_0 l s0 D ca e0 d mc ms
set_option maxHeartbeats 4000000 in
set_option maxRecDepth 20000 in
theorem s_C_checkMinute_0 {p : Program} {l : Launch} {e : Env} {R : Room} {s : State} {m : MethodId} {args : Array Value} {below : List Frame} {meth : Method} {c : Code} {s0 : State} {D : va_G} {ca : Nat → ClassId} {e0 d mc ms : Nat} {Q : cr_Q} (hl : l.flags = flags0) (Z : cr_Z0 s0 D ca e0) (C : cr_C p R s m meth c (cr_W0 s0) s0.heap.size y_C_checkMinute c_C_checkMinute 1 (Option.none : Option FieldType) d mc ms) (hem : c.exceptionTable.toList = []) : ∀ x ∈ t_C_checkMinute_0 l s0 D ca e0 d mc ms, cr_Snd p l e R s m args below meth c s0.heap.size mc ms Q x.1 x.2 := by
  obtain ⟨hx, hb, hml, hown, hr, hlk, hnm, hU, hlo, hR⟩ := C
  have hK := cr_Z0K Z hU
  have hRc : R.cells = mc := by rw [hR]; rfl
  have hRs : R.slots = ms := by rw [hR]; rfl
  unfold t_C_checkMinute_0
  refine cr_cons (cr_iload_n_ok hx hb d_C_checkMinute_0 rfl rfl) ?_
  refine cr_cons (cr_iflt_ok hx hb d_C_checkMinute_1 (by decide) rfl) ?_
  refine cr_cons (cr_iload_n_ok hx hb d_C_checkMinute_4 rfl rfl) ?_
  refine cr_cons (cr_ldcw_ok hx hb hown (cr_w Z w_548 rfl hU args) d_C_checkMinute_5 rfl) ?_
  refine cr_cons (cr_icle_ok hx hb d_C_checkMinute_8 (by decide) rfl) ?_
  refine cr_cons (cr_thrw_ok (X := "java/lang/IllegalArgumentException") hx hb hml hown hlk hU hR hem Z hl rfl w_267 w_268 w_14 own_C_97 str_279 d_C_checkMinute_11 d_C_checkMinute_14 d_C_checkMinute_15 d_C_checkMinute_18 d_C_checkMinute_21) ?_
  refine cr_cons (cr_vret_ok hx hb hr hlk d_C_checkMinute_22) ?_
  exact cr_nil
theorem s_C_checkMinute {p : Program} {l : Launch} {e : Env} {R : Room} {s : State} {m : MethodId} {args : Array Value} {below : List Frame} {meth : Method} {c : Code} {s0 : State} {D : va_G} {ca : Nat → ClassId} {e0 d mc ms : Nat} {Q : cr_Q} (hl : l.flags = flags0) (Z : cr_Z0 s0 D ca e0) (C : cr_C p R s m meth c (cr_W0 s0) s0.heap.size y_C_checkMinute c_C_checkMinute 1 (Option.none : Option FieldType) d mc ms) (hem : c.exceptionTable.toList = []) : ∀ x ∈ t_C_checkMinute l s0 D ca e0 d mc ms, cr_Snd p l e R s m args below meth c s0.heap.size mc ms Q x.1 x.2 := s_C_checkMinute_0 hl Z C hem
theorem d_C_right_0 : decode c_C_right 0 = .ok (.iload_n 1, 1) := by decide +kernel
theorem d_C_right_1 : decode c_C_right 1 = .ok (.invokestatic 106, 3) := by decide +kernel
theorem d_C_right_4 : decode c_C_right 4 = .ok (.iload_n 2, 1) := by decide +kernel
theorem d_C_right_5 : decode c_C_right 5 = .ok (.invokestatic 60, 3) := by decide +kernel
theorem d_C_right_8 : decode c_C_right 8 = .ok (.iload_n 3, 1) := by decide +kernel
theorem d_C_right_9 : decode c_C_right 9 = .ok (.invokestatic 144, 3) := by decide +kernel
theorem d_C_right_12 : decode c_C_right 12 = .ok (.iload 4, 2) := by decide +kernel
theorem d_C_right_14 : decode c_C_right 14 = .ok (.invokestatic 144, 3) := by decide +kernel
theorem d_C_right_17 : decode c_C_right 17 = .ok (.iload 5, 2) := by decide +kernel
theorem d_C_right_19 : decode c_C_right 19 = .ok (.invokestatic 130, 3) := by decide +kernel
theorem d_C_right_22 : decode c_C_right 22 = .ok (.aload_n 0, 1) := by decide +kernel
theorem d_C_right_23 : decode c_C_right 23 = .ok (.getfield 25, 3) := by decide +kernel
theorem d_C_right_26 : decode c_C_right 26 = .ok (.invokeinterface 64 1, 5) := by decide +kernel
theorem d_C_right_31 : decode c_C_right 31 = .ok (.bipush 16, 2) := by decide +kernel
theorem d_C_right_33 : decode c_C_right 33 = .ok (.if_icmp .lt 13, 3) := by decide +kernel
theorem d_C_right_36 : decode c_C_right 36 = .ok (.new 70, 3) := by decide +kernel
theorem d_C_right_39 : decode c_C_right 39 = .ok (.dup, 1) := by decide +kernel
theorem d_C_right_40 : decode c_C_right 40 = .ok (.ldc 147, 2) := by decide +kernel
theorem d_C_right_42 : decode c_C_right 42 = .ok (.invokespecial 74, 3) := by decide +kernel
theorem d_C_right_45 : decode c_C_right 45 = .ok (.athrow, 1) := by decide +kernel
theorem d_C_right_46 : decode c_C_right 46 = .ok (.aload_n 0, 1) := by decide +kernel
theorem d_C_right_47 : decode c_C_right 47 = .ok (.getfield 25, 3) := by decide +kernel
theorem d_C_right_50 : decode c_C_right 50 = .ok (.new 149, 3) := by decide +kernel
theorem d_C_right_53 : decode c_C_right 53 = .ok (.dup, 1) := by decide +kernel
theorem d_C_right_54 : decode c_C_right 54 = .ok (.iload_n 1, 1) := by decide +kernel
theorem d_C_right_55 : decode c_C_right 55 = .ok (.iload_n 2, 1) := by decide +kernel
theorem d_C_right_56 : decode c_C_right 56 = .ok (.iload_n 3, 1) := by decide +kernel
theorem d_C_right_57 : decode c_C_right 57 = .ok (.iload 4, 2) := by decide +kernel
theorem d_C_right_59 : decode c_C_right 59 = .ok (.iload 5, 2) := by decide +kernel
theorem d_C_right_61 : decode c_C_right 61 = .ok (.invokespecial 151, 3) := by decide +kernel
theorem d_C_right_64 : decode c_C_right 64 = .ok (.invokeinterface 82 2, 5) := by decide +kernel
theorem d_C_right_69 : decode c_C_right 69 = .ok (.pop, 1) := by decide +kernel
theorem d_C_right_70 : decode c_C_right 70 = .ok (.aload_n 0, 1) := by decide +kernel
theorem d_C_right_71 : decode c_C_right 71 = .ok (.getfield 31, 3) := by decide +kernel
theorem d_C_right_74 : decode c_C_right 74 = .ok (.aload_n 0, 1) := by decide +kernel
theorem d_C_right_75 : decode c_C_right 75 = .ok (.getfield 25, 3) := by decide +kernel
theorem d_C_right_78 : decode c_C_right 78 = .ok (.invokeinterface 64 1, 5) := by decide +kernel
theorem d_C_right_83 : decode c_C_right 83 = .ok (.putfield 154, 3) := by decide +kernel
theorem d_C_right_86 : decode c_C_right 86 = .ok (.aload_n 0, 1) := by decide +kernel
theorem d_C_right_87 : decode c_C_right 87 = .ok (.getfield 25, 3) := by decide +kernel
theorem d_C_right_90 : decode c_C_right 90 = .ok (.invokeinterface 64 1, 5) := by decide +kernel
theorem d_C_right_95 : decode c_C_right 95 = .ok (.iconst 1, 1) := by decide +kernel
theorem d_C_right_96 : decode c_C_right 96 = .ok (.isub, 1) := by decide +kernel
theorem d_C_right_97 : decode c_C_right 97 = .ok (.ireturn, 1) := by decide +kernel
def t_C_right_0 (l : Launch) (s0 : State) (D : va_G) (ca : Nat → ClassId) (e0 d mc ms : Nat) : List (Nat × cr_T) := [(0, cr_iload 1 1),
  (1, cr_calS l (cr_W0 s0) s0.heap.size y_C_checkGroup cw_C_checkGroup d mc ms 1 6 4),
  (4, cr_iload 2 5),
  (5, cr_calS l (cr_W0 s0) s0.heap.size y_C_checkZone cw_C_checkZone d mc ms 1 6 8),
  (8, cr_iload 3 9),
  (9, cr_calS l (cr_W0 s0) s0.heap.size y_C_checkTimeOfDay cw_C_checkTimeOfDay d mc ms 1 6 12),
  (12, cr_iload 4 14),
  (14, cr_calS l (cr_W0 s0) s0.heap.size y_C_checkTimeOfDay cw_C_checkTimeOfDay d mc ms 1 6 17),
  (17, cr_iload 5 19),
  (19, cr_calS l (cr_W0 s0) s0.heap.size y_C_checkMinute cw_C_checkMinute d mc ms 1 6 22),
  (22, cr_aload 0 23),
  (23, cr_getf D kc 0 4 26),
  (26, cr_calV D kc l (cr_W0 s0) s0.heap.size 12 y_AL_size cw_AL_size d mc ms 0 6 31),
  (31, cr_push (.int 16) 33),
  (33, cr_iclt 46 36),
  (36, cr_thr s0 mc ms d 2 6),
  (46, cr_aload 0 47),
  (47, cr_getf D kc 0 4 50),
  (50, cr_new D kc s0.heap.size mc ms 7 5 [.int 0, .int 0, .int 0, .int 0, .int 0] 53),
  (53, cr_dup 54),
  (54, cr_iload 1 55),
  (55, cr_iload 2 56),
  (56, cr_iload 3 57),
  (57, cr_iload 4 59),
  (59, cr_iload 5 61),
  (61, cr_calI l (cr_W0 s0) s0.heap.size y_Ri_init cw_Ri_init d mc ms 5 6 64),
  (64, cr_calV D kc l (cr_W0 s0) s0.heap.size 12 y_AL_add0 cw_AL_add0 d mc ms 1 6 69),
  (69, cr_pop 70),
  (70, cr_aload 0 71),
  (71, cr_getf D kc 0 5 74)]
def t_C_right_1 (l : Launch) (s0 : State) (D : va_G) (ca : Nat → ClassId) (e0 d mc ms : Nat) : List (Nat × cr_T) := [(74, cr_aload 0 75),
  (75, cr_getf D kc 0 4 78),
  (78, cr_calV D kc l (cr_W0 s0) s0.heap.size 12 y_AL_size cw_AL_size d mc ms 0 6 83),
  (83, cr_putf D kc s0.heap.size 4 1 .int 86),
  (86, cr_aload 0 87),
  (87, cr_getf D kc 0 4 90),
  (90, cr_calV D kc l (cr_W0 s0) s0.heap.size 12 y_AL_size cw_AL_size d mc ms 0 6 95),
  (95, cr_push (.int 1) 96),
  (96, cr_isub 97),
  (97, cr_iret mc ms)]
def t_C_right (l : Launch) (s0 : State) (D : va_G) (ca : Nat → ClassId) (e0 d mc ms : Nat) : List (Nat × cr_T) := t_C_right_0 l s0 D ca e0 d mc ms ++ (t_C_right_1 l s0 D ca e0 d mc ms)
set_option maxHeartbeats 4000000 in
set_option maxRecDepth 20000 in
theorem s_C_right_0 {p : Program} {l : Launch} {e : Env} {R : Room} {s : State} {m : MethodId} {args : Array Value} {below : List Frame} {meth : Method} {c : Code} {s0 : State} {D : va_G} {ca : Nat → ClassId} {e0 d mc ms : Nat} {Q : cr_Q} (hl : l.flags = flags0) (Z : cr_Z0 s0 D ca e0) (C : cr_C p R s m meth c (cr_W0 s0) s0.heap.size y_C_right c_C_right 6 (Option.some FieldType.int) d mc ms) (hem : c.exceptionTable.toList = []) : ∀ x ∈ t_C_right_0 l s0 D ca e0 d mc ms, cr_Snd p l e R s m args below meth c s0.heap.size mc ms Q x.1 x.2 := by
  obtain ⟨hx, hb, hml, hown, hr, hlk, hnm, hU, hlo, hR⟩ := C
  have hK := cr_Z0K Z hU
  have hRc : R.cells = mc := by rw [hR]; rfl
  have hRs : R.slots = ms := by rw [hR]; rfl
  unfold t_C_right_0
  refine cr_cons (cr_iload_n_ok hx hb d_C_right_0 rfl rfl) ?_
  refine cr_cons (cr_calS_ok hx hb hml hown hlk hU hlo hR (cr_W0_st s0) (by rw [hem]; exact fun _ h => absurd h List.not_mem_nil) (u_C_checkGroup Z) (Or.inl (cr_w Z w_503 rfl hU args)) (cr_w Z w_504 rfl hU args) (by decide) (by decide +kernel) (by decide) d_C_right_1 rfl) ?_
  refine cr_cons (cr_iload_n_ok hx hb d_C_right_4 rfl rfl) ?_
  refine cr_cons (cr_calS_ok hx hb hml hown hlk hU hlo hR (cr_W0_st s0) (by rw [hem]; exact fun _ h => absurd h List.not_mem_nil) (u_C_checkZone Z) (Or.inl (cr_w Z w_264 rfl hU args)) (cr_w Z w_265 rfl hU args) (by decide) (by decide +kernel) (by decide) d_C_right_5 rfl) ?_
  refine cr_cons (cr_iload_n_ok hx hb d_C_right_8 rfl rfl) ?_
  refine cr_cons (cr_calS_ok hx hb hml hown hlk hU hlo hR (cr_W0_st s0) (by rw [hem]; exact fun _ h => absurd h List.not_mem_nil) (u_C_checkTimeOfDay Z) (Or.inl (cr_w Z w_577 rfl hU args)) (cr_w Z w_578 rfl hU args) (by decide) (by decide +kernel) (by decide) d_C_right_9 rfl) ?_
  refine cr_cons (cr_iload_ok hx hb d_C_right_12 rfl) ?_
  refine cr_cons (cr_calS_ok hx hb hml hown hlk hU hlo hR (cr_W0_st s0) (by rw [hem]; exact fun _ h => absurd h List.not_mem_nil) (u_C_checkTimeOfDay Z) (Or.inl (cr_w Z w_577 rfl hU args)) (cr_w Z w_578 rfl hU args) (by decide) (by decide +kernel) (by decide) d_C_right_14 rfl) ?_
  refine cr_cons (cr_iload_ok hx hb d_C_right_17 rfl) ?_
  refine cr_cons (cr_calS_ok hx hb hml hown hlk hU hlo hR (cr_W0_st s0) (by rw [hem]; exact fun _ h => absurd h List.not_mem_nil) (u_C_checkMinute Z) (Or.inl (cr_w Z w_545 rfl hU args)) (cr_w Z w_546 rfl hU args) (by decide) (by decide +kernel) (by decide) d_C_right_19 rfl) ?_
  refine cr_cons (cr_aload_n_ok hx hb d_C_right_22 rfl rfl) ?_
  refine cr_cons (cr_getf_ok (C := R_C) (T := T_C) (N := 10) hx hb (k_C Z hU args) (fun _ h => h) hown hK rfl (by decide) (cr_w Z w_140 rfl hU args) (fun _ h => h) d_C_right_23 rfl) ?_
  refine cr_cons (cr_calF_ok (C := R_AL) (Tf := T_AL) (N := 3) (x := { cls := "java/util/List", name := "size", desc := "()I" }) hx hb hml hown hlk hU hlo hR (cr_W0_st s0) (by rw [hem]; exact fun _ h => absurd h List.not_mem_nil) hK rfl (u_AL_size Z) (cr_w Z w_197 rfl hU args) (cr_w Z w_199 rfl hU args) (cr_w Z w_198 rfl hU args) (cr_w Z w_201 rfl hU args) (cr_w Z w_203 rfl hU args) (cr_w Z w_204 rfl hU args) (cr_w Z w_202 rfl hU args) (cr_w Z w_200 rfl hU args) (by decide) (by decide +kernel) (by decide) d_C_right_26 rfl) ?_
  refine cr_cons (cr_bipush_ok hx hb d_C_right_31 (by decide) rfl) ?_
  refine cr_cons (cr_iclt_ok hx hb d_C_right_33 (by decide) rfl) ?_
  refine cr_cons (cr_thr_ok (X := "java/lang/IllegalStateException") hx hb hml hown hlk hU hR hem Z hl rfl w_334 w_335 w_15 own_C_74 str_147 d_C_right_36 d_C_right_39 d_C_right_40 d_C_right_42 d_C_right_45) ?_
  refine cr_cons (cr_aload_n_ok hx hb d_C_right_46 rfl rfl) ?_
  refine cr_cons (cr_getf_ok (C := R_C) (T := T_C) (N := 10) hx hb (k_C Z hU args) (fun _ h => h) hown hK rfl (by decide) (cr_w Z w_140 rfl hU args) (fun _ h => h) d_C_right_47 rfl) ?_
  refine cr_cons (cr_new_ok (C := R_Ri) (T := T_Ri) (N := 5) tt_Ri hx hb (k_Ri Z hU args) (fun _ h => h) ty_Ri hown (cr_w Z w_225 rfl hU args) (cr_w Z w_229 rfl hU args) (cr_w Z w_25 rfl hU args) hK rfl (by decide +kernel) hlo hRc hRs d_C_right_50 rfl) ?_
  refine cr_cons (cr_dup_ok hx hb d_C_right_53 rfl) ?_
  refine cr_cons (cr_iload_n_ok hx hb d_C_right_54 rfl rfl) ?_
  refine cr_cons (cr_iload_n_ok hx hb d_C_right_55 rfl rfl) ?_
  refine cr_cons (cr_iload_n_ok hx hb d_C_right_56 rfl rfl) ?_
  refine cr_cons (cr_iload_ok hx hb d_C_right_57 rfl) ?_
  refine cr_cons (cr_iload_ok hx hb d_C_right_59 rfl) ?_
  refine cr_cons (cr_calI_ok hx hb hml hown hlk hU hlo hR (cr_W0_st s0) (by rw [hem]; exact fun _ h => absurd h List.not_mem_nil) (u_Ri_init Z) (Or.inr ⟨_, (cr_w Z w_582 rfl hU args)⟩) (cr_w Z w_583 rfl hU args) rfl (by decide) (by decide +kernel) (by decide) d_C_right_61 rfl) ?_
  refine cr_cons (cr_calF_ok (C := R_AL) (Tf := T_AL) (N := 3) (x := { cls := "java/util/List", name := "add", desc := "(Ljava/lang/Object;)Z" }) hx hb hml hown hlk hU hlo hR (cr_W0_st s0) (by rw [hem]; exact fun _ h => absurd h List.not_mem_nil) hK rfl (u_AL_add0 Z) (cr_w Z w_366 rfl hU args) (cr_w Z w_368 rfl hU args) (cr_w Z w_367 rfl hU args) (cr_w Z w_369 rfl hU args) (cr_w Z w_371 rfl hU args) (cr_w Z w_372 rfl hU args) (cr_w Z w_370 rfl hU args) (cr_w Z w_200 rfl hU args) (by decide) (by decide +kernel) (by decide) d_C_right_64 rfl) ?_
  refine cr_cons (cr_pop_ok hx hb d_C_right_69 rfl) ?_
  refine cr_cons (cr_aload_n_ok hx hb d_C_right_70 rfl rfl) ?_
  refine cr_cons (cr_getf_ok (C := R_C) (T := T_C) (N := 10) hx hb (k_C Z hU args) (fun _ h => h) hown hK rfl (by decide) (cr_w Z w_141 rfl hU args) (fun _ h => h) d_C_right_71 rfl) ?_
  exact cr_nil
set_option maxHeartbeats 4000000 in
set_option maxRecDepth 20000 in
theorem s_C_right_1 {p : Program} {l : Launch} {e : Env} {R : Room} {s : State} {m : MethodId} {args : Array Value} {below : List Frame} {meth : Method} {c : Code} {s0 : State} {D : va_G} {ca : Nat → ClassId} {e0 d mc ms : Nat} {Q : cr_Q} (hl : l.flags = flags0) (Z : cr_Z0 s0 D ca e0) (C : cr_C p R s m meth c (cr_W0 s0) s0.heap.size y_C_right c_C_right 6 (Option.some FieldType.int) d mc ms) (hem : c.exceptionTable.toList = []) : ∀ x ∈ t_C_right_1 l s0 D ca e0 d mc ms, cr_Snd p l e R s m args below meth c s0.heap.size mc ms Q x.1 x.2 := by
  obtain ⟨hx, hb, hml, hown, hr, hlk, hnm, hU, hlo, hR⟩ := C
  have hK := cr_Z0K Z hU
  have hRc : R.cells = mc := by rw [hR]; rfl
  have hRs : R.slots = ms := by rw [hR]; rfl
  unfold t_C_right_1
  refine cr_cons (cr_aload_n_ok hx hb d_C_right_74 rfl rfl) ?_
  refine cr_cons (cr_getf_ok (C := R_C) (T := T_C) (N := 10) hx hb (k_C Z hU args) (fun _ h => h) hown hK rfl (by decide) (cr_w Z w_140 rfl hU args) (fun _ h => h) d_C_right_75 rfl) ?_
  refine cr_cons (cr_calF_ok (C := R_AL) (Tf := T_AL) (N := 3) (x := { cls := "java/util/List", name := "size", desc := "()I" }) hx hb hml hown hlk hU hlo hR (cr_W0_st s0) (by rw [hem]; exact fun _ h => absurd h List.not_mem_nil) hK rfl (u_AL_size Z) (cr_w Z w_197 rfl hU args) (cr_w Z w_199 rfl hU args) (cr_w Z w_198 rfl hU args) (cr_w Z w_201 rfl hU args) (cr_w Z w_203 rfl hU args) (cr_w Z w_204 rfl hU args) (cr_w Z w_202 rfl hU args) (cr_w Z w_200 rfl hU args) (by decide) (by decide +kernel) (by decide) d_C_right_78 rfl) ?_
  refine cr_cons (cr_putf_ok (C := R_Kn) (T := T_Kn) (N := 4) tt_Kn hx hb (k_Kn Z hU args) (fun _ h => h) ty_Kn nm_Kn hown hK rfl (by decide) (Or.inr ⟨_, (cr_w Z w_73 rfl hU args)⟩) (fun _ h => h) rfl (by decide +kernel) d_C_right_83 rfl) ?_
  refine cr_cons (cr_aload_n_ok hx hb d_C_right_86 rfl rfl) ?_
  refine cr_cons (cr_getf_ok (C := R_C) (T := T_C) (N := 10) hx hb (k_C Z hU args) (fun _ h => h) hown hK rfl (by decide) (cr_w Z w_140 rfl hU args) (fun _ h => h) d_C_right_87 rfl) ?_
  refine cr_cons (cr_calF_ok (C := R_AL) (Tf := T_AL) (N := 3) (x := { cls := "java/util/List", name := "size", desc := "()I" }) hx hb hml hown hlk hU hlo hR (cr_W0_st s0) (by rw [hem]; exact fun _ h => absurd h List.not_mem_nil) hK rfl (u_AL_size Z) (cr_w Z w_197 rfl hU args) (cr_w Z w_199 rfl hU args) (cr_w Z w_198 rfl hU args) (cr_w Z w_201 rfl hU args) (cr_w Z w_203 rfl hU args) (cr_w Z w_204 rfl hU args) (cr_w Z w_202 rfl hU args) (cr_w Z w_200 rfl hU args) (by decide) (by decide +kernel) (by decide) d_C_right_90 rfl) ?_
  refine cr_cons (cr_iconst_ok hx hb d_C_right_95 (by decide) rfl) ?_
  refine cr_cons (cr_isub_ok hx hb d_C_right_96 rfl) ?_
  refine cr_cons (cr_iret_ok hx hb hr hlk d_C_right_97) ?_
  exact cr_nil
theorem s_C_right {p : Program} {l : Launch} {e : Env} {R : Room} {s : State} {m : MethodId} {args : Array Value} {below : List Frame} {meth : Method} {c : Code} {s0 : State} {D : va_G} {ca : Nat → ClassId} {e0 d mc ms : Nat} {Q : cr_Q} (hl : l.flags = flags0) (Z : cr_Z0 s0 D ca e0) (C : cr_C p R s m meth c (cr_W0 s0) s0.heap.size y_C_right c_C_right 6 (Option.some FieldType.int) d mc ms) (hem : c.exceptionTable.toList = []) : ∀ x ∈ t_C_right l s0 D ca e0 d mc ms, cr_Snd p l e R s m args below meth c s0.heap.size mc ms Q x.1 x.2 := cr_app (s_C_right_0 hl Z C hem) (s_C_right_1 hl Z C hem)
theorem d_C_checkTimeOfDay_0 : decode c_C_checkTimeOfDay 0 = .ok (.iload_n 0, 1) := by decide +kernel
theorem d_C_checkTimeOfDay_1 : decode c_C_checkTimeOfDay 1 = .ok (.ifCond .lt 10, 3) := by decide +kernel
theorem d_C_checkTimeOfDay_4 : decode c_C_checkTimeOfDay 4 = .ok (.iload_n 0, 1) := by decide +kernel
theorem d_C_checkTimeOfDay_5 : decode c_C_checkTimeOfDay 5 = .ok (.sipush 1440, 3) := by decide +kernel
theorem d_C_checkTimeOfDay_8 : decode c_C_checkTimeOfDay 8 = .ok (.if_icmp .lt 14, 3) := by decide +kernel
theorem d_C_checkTimeOfDay_11 : decode c_C_checkTimeOfDay 11 = .ok (.new 93, 3) := by decide +kernel
theorem d_C_checkTimeOfDay_14 : decode c_C_checkTimeOfDay 14 = .ok (.dup, 1) := by decide +kernel
theorem d_C_checkTimeOfDay_15 : decode c_C_checkTimeOfDay 15 = .ok (.ldc_w 276, 3) := by decide +kernel
theorem d_C_checkTimeOfDay_18 : decode c_C_checkTimeOfDay 18 = .ok (.invokespecial 97, 3) := by decide +kernel
theorem d_C_checkTimeOfDay_21 : decode c_C_checkTimeOfDay 21 = .ok (.athrow, 1) := by decide +kernel
theorem d_C_checkTimeOfDay_22 : decode c_C_checkTimeOfDay 22 = .ok (.return_, 1) := by decide +kernel
def t_C_checkTimeOfDay_0 (l : Launch) (s0 : State) (D : va_G) (ca : Nat → ClassId) (e0 d mc ms : Nat) : List (Nat × cr_T) := [(0, cr_iload 0 1),
  (1, cr_iflt 11 4),
  (4, cr_iload 0 5),
  (5, cr_push (.int 1440) 8),
  (8, cr_iclt 22 11),
  (11, cr_thr s0 mc ms d 1 1),
  (22, cr_vret mc ms)]
def t_C_checkTimeOfDay (l : Launch) (s0 : State) (D : va_G) (ca : Nat → ClassId) (e0 d mc ms : Nat) : List (Nat × cr_T) := t_C_checkTimeOfDay_0 l s0 D ca e0 d mc ms
set_option maxHeartbeats 4000000 in
set_option maxRecDepth 20000 in
theorem s_C_checkTimeOfDay_0 {p : Program} {l : Launch} {e : Env} {R : Room} {s : State} {m : MethodId} {args : Array Value} {below : List Frame} {meth : Method} {c : Code} {s0 : State} {D : va_G} {ca : Nat → ClassId} {e0 d mc ms : Nat} {Q : cr_Q} (hl : l.flags = flags0) (Z : cr_Z0 s0 D ca e0) (C : cr_C p R s m meth c (cr_W0 s0) s0.heap.size y_C_checkTimeOfDay c_C_checkTimeOfDay 1 (Option.none : Option FieldType) d mc ms) (hem : c.exceptionTable.toList = []) : ∀ x ∈ t_C_checkTimeOfDay_0 l s0 D ca e0 d mc ms, cr_Snd p l e R s m args below meth c s0.heap.size mc ms Q x.1 x.2 := by
  obtain ⟨hx, hb, hml, hown, hr, hlk, hnm, hU, hlo, hR⟩ := C
  have hK := cr_Z0K Z hU
  have hRc : R.cells = mc := by rw [hR]; rfl
  have hRs : R.slots = ms := by rw [hR]; rfl
  unfold t_C_checkTimeOfDay_0
  refine cr_cons (cr_iload_n_ok hx hb d_C_checkTimeOfDay_0 rfl rfl) ?_
  refine cr_cons (cr_iflt_ok hx hb d_C_checkTimeOfDay_1 (by decide) rfl) ?_
  refine cr_cons (cr_iload_n_ok hx hb d_C_checkTimeOfDay_4 rfl rfl) ?_
  refine cr_cons (cr_sipush_ok hx hb d_C_checkTimeOfDay_5 (by decide) rfl) ?_
  refine cr_cons (cr_iclt_ok hx hb d_C_checkTimeOfDay_8 (by decide) rfl) ?_
  refine cr_cons (cr_thrw_ok (X := "java/lang/IllegalArgumentException") hx hb hml hown hlk hU hR hem Z hl rfl w_267 w_268 w_14 own_C_97 str_276 d_C_checkTimeOfDay_11 d_C_checkTimeOfDay_14 d_C_checkTimeOfDay_15 d_C_checkTimeOfDay_18 d_C_checkTimeOfDay_21) ?_
  refine cr_cons (cr_vret_ok hx hb hr hlk d_C_checkTimeOfDay_22) ?_
  exact cr_nil
theorem s_C_checkTimeOfDay {p : Program} {l : Launch} {e : Env} {R : Room} {s : State} {m : MethodId} {args : Array Value} {below : List Frame} {meth : Method} {c : Code} {s0 : State} {D : va_G} {ca : Nat → ClassId} {e0 d mc ms : Nat} {Q : cr_Q} (hl : l.flags = flags0) (Z : cr_Z0 s0 D ca e0) (C : cr_C p R s m meth c (cr_W0 s0) s0.heap.size y_C_checkTimeOfDay c_C_checkTimeOfDay 1 (Option.none : Option FieldType) d mc ms) (hem : c.exceptionTable.toList = []) : ∀ x ∈ t_C_checkTimeOfDay l s0 D ca e0 d mc ms, cr_Snd p l e R s m args below meth c s0.heap.size mc ms Q x.1 x.2 := s_C_checkTimeOfDay_0 hl Z C hem
theorem d_C_end_0 : decode c_C_end 0 = .ok (.iload_n 1, 1) := by decide +kernel
theorem d_C_end_1 : decode c_C_end 1 = .ok (.ifCond .lt 16, 3) := by decide +kernel
theorem d_C_end_4 : decode c_C_end 4 = .ok (.iload_n 1, 1) := by decide +kernel
theorem d_C_end_5 : decode c_C_end 5 = .ok (.aload_n 0, 1) := by decide +kernel
theorem d_C_end_6 : decode c_C_end 6 = .ok (.getfield 25, 3) := by decide +kernel
theorem d_C_end_9 : decode c_C_end 9 = .ok (.invokeinterface 64 1, 5) := by decide +kernel
theorem d_C_end_14 : decode c_C_end 14 = .ok (.if_icmp .lt 13, 3) := by decide +kernel
theorem d_C_end_17 : decode c_C_end 17 = .ok (.new 93, 3) := by decide +kernel
theorem d_C_end_20 : decode c_C_end 20 = .ok (.dup, 1) := by decide +kernel
theorem d_C_end_21 : decode c_C_end 21 = .ok (.ldc 157, 2) := by decide +kernel
theorem d_C_end_23 : decode c_C_end 23 = .ok (.invokespecial 97, 3) := by decide +kernel
theorem d_C_end_26 : decode c_C_end 26 = .ok (.athrow, 1) := by decide +kernel
theorem d_C_end_27 : decode c_C_end 27 = .ok (.iload_n 2, 1) := by decide +kernel
theorem d_C_end_28 : decode c_C_end 28 = .ok (.invokestatic 130, 3) := by decide +kernel
theorem d_C_end_31 : decode c_C_end 31 = .ok (.aload_n 0, 1) := by decide +kernel
theorem d_C_end_32 : decode c_C_end 32 = .ok (.getfield 31, 3) := by decide +kernel
theorem d_C_end_35 : decode c_C_end 35 = .ok (.getfield 159, 3) := by decide +kernel
theorem d_C_end_38 : decode c_C_end 38 = .ok (.iload_n 1, 1) := by decide +kernel
theorem d_C_end_39 : decode c_C_end 39 = .ok (.iaload, 1) := by decide +kernel
theorem d_C_end_40 : decode c_C_end 40 = .ok (.istore_n 3, 1) := by decide +kernel
theorem d_C_end_41 : decode c_C_end 41 = .ok (.aload_n 0, 1) := by decide +kernel
theorem d_C_end_42 : decode c_C_end 42 = .ok (.getfield 31, 3) := by decide +kernel
theorem d_C_end_45 : decode c_C_end 45 = .ok (.getfield 159, 3) := by decide +kernel
theorem d_C_end_48 : decode c_C_end 48 = .ok (.iload_n 1, 1) := by decide +kernel
theorem d_C_end_49 : decode c_C_end 49 = .ok (.iload_n 2, 1) := by decide +kernel
theorem d_C_end_50 : decode c_C_end 50 = .ok (.iastore, 1) := by decide +kernel
theorem d_C_end_51 : decode c_C_end 51 = .ok (.iload_n 3, 1) := by decide +kernel
theorem d_C_end_52 : decode c_C_end 52 = .ok (.ireturn, 1) := by decide +kernel
def t_C_end_0 (l : Launch) (s0 : State) (D : va_G) (ca : Nat → ClassId) (e0 d mc ms : Nat) : List (Nat × cr_T) := [(0, cr_iload 1 1),
  (1, cr_iflt 17 4),
  (4, cr_iload 1 5),
  (5, cr_aload 0 6),
  (6, cr_getf D kc 0 4 9),
  (9, cr_calV D kc l (cr_W0 s0) s0.heap.size 12 y_AL_size cw_AL_size d mc ms 0 4 14),
  (14, cr_iclt 27 17),
  (17, cr_thr s0 mc ms d 1 4),
  (27, cr_iload 2 28),
  (28, cr_calS l (cr_W0 s0) s0.heap.size y_C_checkMinute cw_C_checkMinute d mc ms 1 4 31),
  (31, cr_aload 0 32),
  (32, cr_getf D kc 0 5 35),
  (35, cr_getf D kc 4 3 38),
  (38, cr_iload 1 39),
  (39, cr_iald D kc (ca 0) 40),
  (40, cr_istore 3 41),
  (41, cr_aload 0 42),
  (42, cr_getf D kc 0 5 45),
  (45, cr_getf D kc 4 3 48),
  (48, cr_iload 1 49),
  (49, cr_iload 2 50),
  (50, cr_iast D kc s0.heap.size (ca 0) 51),
  (51, cr_iload 3 52),
  (52, cr_iret mc ms)]
def t_C_end (l : Launch) (s0 : State) (D : va_G) (ca : Nat → ClassId) (e0 d mc ms : Nat) : List (Nat × cr_T) := t_C_end_0 l s0 D ca e0 d mc ms
set_option maxHeartbeats 4000000 in
set_option maxRecDepth 20000 in
theorem s_C_end_0 {p : Program} {l : Launch} {e : Env} {R : Room} {s : State} {m : MethodId} {args : Array Value} {below : List Frame} {meth : Method} {c : Code} {s0 : State} {D : va_G} {ca : Nat → ClassId} {e0 d mc ms : Nat} {Q : cr_Q} (hl : l.flags = flags0) (Z : cr_Z0 s0 D ca e0) (C : cr_C p R s m meth c (cr_W0 s0) s0.heap.size y_C_end c_C_end 4 (Option.some FieldType.int) d mc ms) (hem : c.exceptionTable.toList = []) : ∀ x ∈ t_C_end_0 l s0 D ca e0 d mc ms, cr_Snd p l e R s m args below meth c s0.heap.size mc ms Q x.1 x.2 := by
  obtain ⟨hx, hb, hml, hown, hr, hlk, hnm, hU, hlo, hR⟩ := C
  have hK := cr_Z0K Z hU
  have hRc : R.cells = mc := by rw [hR]; rfl
  have hRs : R.slots = ms := by rw [hR]; rfl
  unfold t_C_end_0
  refine cr_cons (cr_iload_n_ok hx hb d_C_end_0 rfl rfl) ?_
  refine cr_cons (cr_iflt_ok hx hb d_C_end_1 (by decide) rfl) ?_
  refine cr_cons (cr_iload_n_ok hx hb d_C_end_4 rfl rfl) ?_
  refine cr_cons (cr_aload_n_ok hx hb d_C_end_5 rfl rfl) ?_
  refine cr_cons (cr_getf_ok (C := R_C) (T := T_C) (N := 10) hx hb (k_C Z hU args) (fun _ h => h) hown hK rfl (by decide) (cr_w Z w_140 rfl hU args) (fun _ h => h) d_C_end_6 rfl) ?_
  refine cr_cons (cr_calF_ok (C := R_AL) (Tf := T_AL) (N := 3) (x := { cls := "java/util/List", name := "size", desc := "()I" }) hx hb hml hown hlk hU hlo hR (cr_W0_st s0) (by rw [hem]; exact fun _ h => absurd h List.not_mem_nil) hK rfl (u_AL_size Z) (cr_w Z w_197 rfl hU args) (cr_w Z w_199 rfl hU args) (cr_w Z w_198 rfl hU args) (cr_w Z w_201 rfl hU args) (cr_w Z w_203 rfl hU args) (cr_w Z w_204 rfl hU args) (cr_w Z w_202 rfl hU args) (cr_w Z w_200 rfl hU args) (by decide) (by decide +kernel) (by decide) d_C_end_9 rfl) ?_
  refine cr_cons (cr_iclt_ok hx hb d_C_end_14 (by decide) rfl) ?_
  refine cr_cons (cr_thr_ok (X := "java/lang/IllegalArgumentException") hx hb hml hown hlk hU hR hem Z hl rfl w_267 w_268 w_14 own_C_97 str_157 d_C_end_17 d_C_end_20 d_C_end_21 d_C_end_23 d_C_end_26) ?_
  refine cr_cons (cr_iload_n_ok hx hb d_C_end_27 rfl rfl) ?_
  refine cr_cons (cr_calS_ok hx hb hml hown hlk hU hlo hR (cr_W0_st s0) (by rw [hem]; exact fun _ h => absurd h List.not_mem_nil) (u_C_checkMinute Z) (Or.inl (cr_w Z w_545 rfl hU args)) (cr_w Z w_546 rfl hU args) (by decide) (by decide +kernel) (by decide) d_C_end_28 rfl) ?_
  refine cr_cons (cr_aload_n_ok hx hb d_C_end_31 rfl rfl) ?_
  refine cr_cons (cr_getf_ok (C := R_C) (T := T_C) (N := 10) hx hb (k_C Z hU args) (fun _ h => h) hown hK rfl (by decide) (cr_w Z w_141 rfl hU args) (fun _ h => h) d_C_end_32 rfl) ?_
  refine cr_cons (cr_getfN_ok (C := R_Kn) (T := T_Kn) (N := 4) hx hb (k_Kn Z hU args) (fun _ h => h) hown hK rfl (by decide) (cr_w Z w_77 rfl hU args) (fun _ h => h) d_C_end_35 rfl) ?_
  refine cr_cons (cr_iload_n_ok hx hb d_C_end_38 rfl rfl) ?_
  refine cr_cons (cr_iald_ok (t0 := 0) hx hb hK rfl d_C_end_39 rfl) ?_
  refine cr_cons (cr_istore_n_ok hx hb d_C_end_40 rfl rfl) ?_
  refine cr_cons (cr_aload_n_ok hx hb d_C_end_41 rfl rfl) ?_
  refine cr_cons (cr_getf_ok (C := R_C) (T := T_C) (N := 10) hx hb (k_C Z hU args) (fun _ h => h) hown hK rfl (by decide) (cr_w Z w_141 rfl hU args) (fun _ h => h) d_C_end_42 rfl) ?_
  refine cr_cons (cr_getfN_ok (C := R_Kn) (T := T_Kn) (N := 4) hx hb (k_Kn Z hU args) (fun _ h => h) hown hK rfl (by decide) (cr_w Z w_77 rfl hU args) (fun _ h => h) d_C_end_45 rfl) ?_
  refine cr_cons (cr_iload_n_ok hx hb d_C_end_48 rfl rfl) ?_
  refine cr_cons (cr_iload_n_ok hx hb d_C_end_49 rfl rfl) ?_
  refine cr_cons (cr_iast_ok (t0 := 0) hx hb hK rfl d_C_end_50 rfl) ?_
  refine cr_cons (cr_iload_n_ok hx hb d_C_end_51 rfl rfl) ?_
  refine cr_cons (cr_iret_ok hx hb hr hlk d_C_end_52) ?_
  exact cr_nil
theorem s_C_end {p : Program} {l : Launch} {e : Env} {R : Room} {s : State} {m : MethodId} {args : Array Value} {below : List Frame} {meth : Method} {c : Code} {s0 : State} {D : va_G} {ca : Nat → ClassId} {e0 d mc ms : Nat} {Q : cr_Q} (hl : l.flags = flags0) (Z : cr_Z0 s0 D ca e0) (C : cr_C p R s m meth c (cr_W0 s0) s0.heap.size y_C_end c_C_end 4 (Option.some FieldType.int) d mc ms) (hem : c.exceptionTable.toList = []) : ∀ x ∈ t_C_end l s0 D ca e0 d mc ms, cr_Snd p l e R s m args below meth c s0.heap.size mc ms Q x.1 x.2 := s_C_end_0 hl Z C hem
theorem d_C_lost_0 : decode c_C_lost 0 = .ok (.aload_n 0, 1) := by decide +kernel
theorem d_C_lost_1 : decode c_C_lost 1 = .ok (.iload_n 1, 1) := by decide +kernel
theorem d_C_lost_2 : decode c_C_lost 2 = .ok (.invokevirtual 163, 3) := by decide +kernel
theorem d_C_lost_5 : decode c_C_lost 5 = .ok (.astore_n 3, 1) := by decide +kernel
theorem d_C_lost_6 : decode c_C_lost 6 = .ok (.iload_n 2, 1) := by decide +kernel
theorem d_C_lost_7 : decode c_C_lost 7 = .ok (.invokestatic 130, 3) := by decide +kernel
theorem d_C_lost_10 : decode c_C_lost 10 = .ok (.aload_n 0, 1) := by decide +kernel
theorem d_C_lost_11 : decode c_C_lost 11 = .ok (.getfield 31, 3) := by decide +kernel
theorem d_C_lost_14 : decode c_C_lost 14 = .ok (.getfield 167, 3) := by decide +kernel
theorem d_C_lost_17 : decode c_C_lost 17 = .ok (.aload_n 3, 1) := by decide +kernel
theorem d_C_lost_18 : decode c_C_lost 18 = .ok (.getfield 143, 3) := by decide +kernel
theorem d_C_lost_21 : decode c_C_lost 21 = .ok (.iaload, 1) := by decide +kernel
theorem d_C_lost_22 : decode c_C_lost 22 = .ok (.istore 4, 2) := by decide +kernel
theorem d_C_lost_24 : decode c_C_lost 24 = .ok (.aload_n 0, 1) := by decide +kernel
theorem d_C_lost_25 : decode c_C_lost 25 = .ok (.getfield 31, 3) := by decide +kernel
theorem d_C_lost_28 : decode c_C_lost 28 = .ok (.getfield 167, 3) := by decide +kernel
theorem d_C_lost_31 : decode c_C_lost 31 = .ok (.aload_n 3, 1) := by decide +kernel
theorem d_C_lost_32 : decode c_C_lost 32 = .ok (.getfield 143, 3) := by decide +kernel
theorem d_C_lost_35 : decode c_C_lost 35 = .ok (.iload_n 2, 1) := by decide +kernel
theorem d_C_lost_36 : decode c_C_lost 36 = .ok (.iastore, 1) := by decide +kernel
theorem d_C_lost_37 : decode c_C_lost 37 = .ok (.iload 4, 2) := by decide +kernel
theorem d_C_lost_39 : decode c_C_lost 39 = .ok (.ireturn, 1) := by decide +kernel
def t_C_lost_0 (l : Launch) (s0 : State) (D : va_G) (ca : Nat → ClassId) (e0 d mc ms : Nat) : List (Nat × cr_T) := [(0, cr_aload 0 1),
  (1, cr_iload 1 2),
  (2, cr_calV D kc l (cr_W0 s0) s0.heap.size 0 y_C_cardNumbered cw_C_cardNumbered d mc ms 1 5 5),
  (5, cr_astore 3 6),
  (6, cr_iload 2 7),
  (7, cr_calS l (cr_W0 s0) s0.heap.size y_C_checkMinute cw_C_checkMinute d mc ms 1 5 10),
  (10, cr_aload 0 11),
  (11, cr_getf D kc 0 5 14),
  (14, cr_getf D kc 4 2 17),
  (17, cr_aload 3 18),
  (18, cr_getf D kc 1 0 21),
  (21, cr_iald D kc (ca 0) 22),
  (22, cr_istore 4 24),
  (24, cr_aload 0 25),
  (25, cr_getf D kc 0 5 28),
  (28, cr_getf D kc 4 2 31),
  (31, cr_aload 3 32),
  (32, cr_getf D kc 1 0 35),
  (35, cr_iload 2 36),
  (36, cr_iast D kc s0.heap.size (ca 0) 37),
  (37, cr_iload 4 39),
  (39, cr_iret mc ms)]
def t_C_lost (l : Launch) (s0 : State) (D : va_G) (ca : Nat → ClassId) (e0 d mc ms : Nat) : List (Nat × cr_T) := t_C_lost_0 l s0 D ca e0 d mc ms
set_option maxHeartbeats 4000000 in
set_option maxRecDepth 20000 in
theorem s_C_lost_0 {p : Program} {l : Launch} {e : Env} {R : Room} {s : State} {m : MethodId} {args : Array Value} {below : List Frame} {meth : Method} {c : Code} {s0 : State} {D : va_G} {ca : Nat → ClassId} {e0 d mc ms : Nat} {Q : cr_Q} (hl : l.flags = flags0) (Z : cr_Z0 s0 D ca e0) (C : cr_C p R s m meth c (cr_W0 s0) s0.heap.size y_C_lost c_C_lost 5 (Option.some FieldType.int) d mc ms) (hem : c.exceptionTable.toList = []) : ∀ x ∈ t_C_lost_0 l s0 D ca e0 d mc ms, cr_Snd p l e R s m args below meth c s0.heap.size mc ms Q x.1 x.2 := by
  obtain ⟨hx, hb, hml, hown, hr, hlk, hnm, hU, hlo, hR⟩ := C
  have hK := cr_Z0K Z hU
  have hRc : R.cells = mc := by rw [hR]; rfl
  have hRs : R.slots = ms := by rw [hR]; rfl
  unfold t_C_lost_0
  refine cr_cons (cr_aload_n_ok hx hb d_C_lost_0 rfl rfl) ?_
  refine cr_cons (cr_iload_n_ok hx hb d_C_lost_1 rfl rfl) ?_
  refine cr_cons (cr_calV_ok (C := R_C) (Tf := T_C) (N := 10) hx hb hml hown hlk hU hlo hR (cr_W0_st s0) (by rw [hem]; exact fun _ h => absurd h List.not_mem_nil) hK rfl (u_C_cardNumbered Z) (Or.inl (cr_w Z w_618 rfl hU args)) (cr_w Z w_620 rfl hU args) (cr_w Z ws_14 rfl hU args) (by decide) (by decide +kernel) (by decide) d_C_lost_2 rfl) ?_
  refine cr_cons (cr_astore_n_ok hx hb d_C_lost_5 rfl rfl) ?_
  refine cr_cons (cr_iload_n_ok hx hb d_C_lost_6 rfl rfl) ?_
  refine cr_cons (cr_calS_ok hx hb hml hown hlk hU hlo hR (cr_W0_st s0) (by rw [hem]; exact fun _ h => absurd h List.not_mem_nil) (u_C_checkMinute Z) (Or.inl (cr_w Z w_545 rfl hU args)) (cr_w Z w_546 rfl hU args) (by decide) (by decide +kernel) (by decide) d_C_lost_7 rfl) ?_
  refine cr_cons (cr_aload_n_ok hx hb d_C_lost_10 rfl rfl) ?_
  refine cr_cons (cr_getf_ok (C := R_C) (T := T_C) (N := 10) hx hb (k_C Z hU args) (fun _ h => h) hown hK rfl (by decide) (cr_w Z w_141 rfl hU args) (fun _ h => h) d_C_lost_11 rfl) ?_
  refine cr_cons (cr_getfN_ok (C := R_Kn) (T := T_Kn) (N := 4) hx hb (k_Kn Z hU args) (fun _ h => h) hown hK rfl (by decide) (cr_w Z w_75 rfl hU args) (fun _ h => h) d_C_lost_14 rfl) ?_
  refine cr_cons (cr_aload_n_ok hx hb d_C_lost_17 rfl rfl) ?_
  refine cr_cons (cr_getfN_ok (C := R_Cd) (T := T_Cd) (N := 3) hx hb (k_Cd Z hU args) (fun _ h => h) hown hK rfl (by decide) (cr_w Z w_558 rfl hU args) (fun _ h => h) d_C_lost_18 rfl) ?_
  refine cr_cons (cr_iald_ok (t0 := 0) hx hb hK rfl d_C_lost_21 rfl) ?_
  refine cr_cons (cr_istore_ok hx hb d_C_lost_22 rfl) ?_
  refine cr_cons (cr_aload_n_ok hx hb d_C_lost_24 rfl rfl) ?_
  refine cr_cons (cr_getf_ok (C := R_C) (T := T_C) (N := 10) hx hb (k_C Z hU args) (fun _ h => h) hown hK rfl (by decide) (cr_w Z w_141 rfl hU args) (fun _ h => h) d_C_lost_25 rfl) ?_
  refine cr_cons (cr_getfN_ok (C := R_Kn) (T := T_Kn) (N := 4) hx hb (k_Kn Z hU args) (fun _ h => h) hown hK rfl (by decide) (cr_w Z w_75 rfl hU args) (fun _ h => h) d_C_lost_28 rfl) ?_
  refine cr_cons (cr_aload_n_ok hx hb d_C_lost_31 rfl rfl) ?_
  refine cr_cons (cr_getfN_ok (C := R_Cd) (T := T_Cd) (N := 3) hx hb (k_Cd Z hU args) (fun _ h => h) hown hK rfl (by decide) (cr_w Z w_558 rfl hU args) (fun _ h => h) d_C_lost_32 rfl) ?_
  refine cr_cons (cr_iload_n_ok hx hb d_C_lost_35 rfl rfl) ?_
  refine cr_cons (cr_iast_ok (t0 := 0) hx hb hK rfl d_C_lost_36 rfl) ?_
  refine cr_cons (cr_iload_ok hx hb d_C_lost_37 rfl) ?_
  refine cr_cons (cr_iret_ok hx hb hr hlk d_C_lost_39) ?_
  exact cr_nil
theorem s_C_lost {p : Program} {l : Launch} {e : Env} {R : Room} {s : State} {m : MethodId} {args : Array Value} {below : List Frame} {meth : Method} {c : Code} {s0 : State} {D : va_G} {ca : Nat → ClassId} {e0 d mc ms : Nat} {Q : cr_Q} (hl : l.flags = flags0) (Z : cr_Z0 s0 D ca e0) (C : cr_C p R s m meth c (cr_W0 s0) s0.heap.size y_C_lost c_C_lost 5 (Option.some FieldType.int) d mc ms) (hem : c.exceptionTable.toList = []) : ∀ x ∈ t_C_lost l s0 D ca e0 d mc ms, cr_Snd p l e R s m args below meth c s0.heap.size mc ms Q x.1 x.2 := s_C_lost_0 hl Z C hem
theorem d_C_cardNumbered_0 : decode c_C_cardNumbered 0 = .ok (.iload_n 1, 1) := by decide +kernel
theorem d_C_cardNumbered_1 : decode c_C_cardNumbered 1 = .ok (.ifCond .lt 16, 3) := by decide +kernel
theorem d_C_cardNumbered_4 : decode c_C_cardNumbered 4 = .ok (.iload_n 1, 1) := by decide +kernel
theorem d_C_cardNumbered_5 : decode c_C_cardNumbered 5 = .ok (.aload_n 0, 1) := by decide +kernel
theorem d_C_cardNumbered_6 : decode c_C_cardNumbered 6 = .ok (.getfield 22, 3) := by decide +kernel
theorem d_C_cardNumbered_9 : decode c_C_cardNumbered 9 = .ok (.invokeinterface 64 1, 5) := by decide +kernel
theorem d_C_cardNumbered_14 : decode c_C_cardNumbered 14 = .ok (.if_icmp .lt 14, 3) := by decide +kernel
theorem d_C_cardNumbered_17 : decode c_C_cardNumbered 17 = .ok (.new 93, 3) := by decide +kernel
theorem d_C_cardNumbered_20 : decode c_C_cardNumbered 20 = .ok (.dup, 1) := by decide +kernel
theorem d_C_cardNumbered_21 : decode c_C_cardNumbered 21 = .ok (.ldc_w 302, 3) := by decide +kernel
theorem d_C_cardNumbered_24 : decode c_C_cardNumbered 24 = .ok (.invokespecial 97, 3) := by decide +kernel
theorem d_C_cardNumbered_27 : decode c_C_cardNumbered 27 = .ok (.athrow, 1) := by decide +kernel
theorem d_C_cardNumbered_28 : decode c_C_cardNumbered 28 = .ok (.aload_n 0, 1) := by decide +kernel
theorem d_C_cardNumbered_29 : decode c_C_cardNumbered 29 = .ok (.getfield 22, 3) := by decide +kernel
theorem d_C_cardNumbered_32 : decode c_C_cardNumbered 32 = .ok (.iload_n 1, 1) := by decide +kernel
theorem d_C_cardNumbered_33 : decode c_C_cardNumbered 33 = .ok (.invokeinterface 119 2, 5) := by decide +kernel
theorem d_C_cardNumbered_38 : decode c_C_cardNumbered 38 = .ok (.checkcast 135, 3) := by decide +kernel
theorem d_C_cardNumbered_41 : decode c_C_cardNumbered 41 = .ok (.areturn, 1) := by decide +kernel
def t_C_cardNumbered_0 (l : Launch) (s0 : State) (D : va_G) (ca : Nat → ClassId) (e0 d mc ms : Nat) : List (Nat × cr_T) := [(0, cr_iload 1 1),
  (1, cr_iflt 17 4),
  (4, cr_iload 1 5),
  (5, cr_aload 0 6),
  (6, cr_getf D kc 0 3 9),
  (9, cr_calV D kc l (cr_W0 s0) s0.heap.size 12 y_AL_size cw_AL_size d mc ms 0 2 14),
  (14, cr_iclt 28 17),
  (17, cr_thr s0 mc ms d 1 2),
  (28, cr_aload 0 29),
  (29, cr_getf D kc 0 3 32),
  (32, cr_iload 1 33),
  (33, cr_calV D kc l (cr_W0 s0) s0.heap.size 12 y_AL_get cw_AL_get d mc ms 1 2 38),
  (38, cr_cast D kc 1 41),
  (41, cr_aret mc ms)]
def t_C_cardNumbered (l : Launch) (s0 : State) (D : va_G) (ca : Nat → ClassId) (e0 d mc ms : Nat) : List (Nat × cr_T) := t_C_cardNumbered_0 l s0 D ca e0 d mc ms
set_option maxHeartbeats 4000000 in
set_option maxRecDepth 20000 in
theorem s_C_cardNumbered_0 {p : Program} {l : Launch} {e : Env} {R : Room} {s : State} {m : MethodId} {args : Array Value} {below : List Frame} {meth : Method} {c : Code} {s0 : State} {D : va_G} {ca : Nat → ClassId} {e0 d mc ms : Nat} {Q : cr_Q} (hl : l.flags = flags0) (Z : cr_Z0 s0 D ca e0) (C : cr_C p R s m meth c (cr_W0 s0) s0.heap.size y_C_cardNumbered c_C_cardNumbered 2 (Option.some (FieldType.object "CardRights$Card")) d mc ms) (hem : c.exceptionTable.toList = []) : ∀ x ∈ t_C_cardNumbered_0 l s0 D ca e0 d mc ms, cr_Snd p l e R s m args below meth c s0.heap.size mc ms Q x.1 x.2 := by
  obtain ⟨hx, hb, hml, hown, hr, hlk, hnm, hU, hlo, hR⟩ := C
  have hK := cr_Z0K Z hU
  have hRc : R.cells = mc := by rw [hR]; rfl
  have hRs : R.slots = ms := by rw [hR]; rfl
  unfold t_C_cardNumbered_0
  refine cr_cons (cr_iload_n_ok hx hb d_C_cardNumbered_0 rfl rfl) ?_
  refine cr_cons (cr_iflt_ok hx hb d_C_cardNumbered_1 (by decide) rfl) ?_
  refine cr_cons (cr_iload_n_ok hx hb d_C_cardNumbered_4 rfl rfl) ?_
  refine cr_cons (cr_aload_n_ok hx hb d_C_cardNumbered_5 rfl rfl) ?_
  refine cr_cons (cr_getf_ok (C := R_C) (T := T_C) (N := 10) hx hb (k_C Z hU args) (fun _ h => h) hown hK rfl (by decide) (cr_w Z w_139 rfl hU args) (fun _ h => h) d_C_cardNumbered_6 rfl) ?_
  refine cr_cons (cr_calF_ok (C := R_AL) (Tf := T_AL) (N := 3) (x := { cls := "java/util/List", name := "size", desc := "()I" }) hx hb hml hown hlk hU hlo hR (cr_W0_st s0) (by rw [hem]; exact fun _ h => absurd h List.not_mem_nil) hK rfl (u_AL_size Z) (cr_w Z w_197 rfl hU args) (cr_w Z w_199 rfl hU args) (cr_w Z w_198 rfl hU args) (cr_w Z w_201 rfl hU args) (cr_w Z w_203 rfl hU args) (cr_w Z w_204 rfl hU args) (cr_w Z w_202 rfl hU args) (cr_w Z w_200 rfl hU args) (by decide) (by decide +kernel) (by decide) d_C_cardNumbered_9 rfl) ?_
  refine cr_cons (cr_iclt_ok hx hb d_C_cardNumbered_14 (by decide) rfl) ?_
  refine cr_cons (cr_thrw_ok (X := "java/lang/IllegalArgumentException") hx hb hml hown hlk hU hR hem Z hl rfl w_267 w_268 w_14 own_C_97 str_302 d_C_cardNumbered_17 d_C_cardNumbered_20 d_C_cardNumbered_21 d_C_cardNumbered_24 d_C_cardNumbered_27) ?_
  refine cr_cons (cr_aload_n_ok hx hb d_C_cardNumbered_28 rfl rfl) ?_
  refine cr_cons (cr_getf_ok (C := R_C) (T := T_C) (N := 10) hx hb (k_C Z hU args) (fun _ h => h) hown hK rfl (by decide) (cr_w Z w_139 rfl hU args) (fun _ h => h) d_C_cardNumbered_29 rfl) ?_
  refine cr_cons (cr_iload_n_ok hx hb d_C_cardNumbered_32 rfl rfl) ?_
  refine cr_cons (cr_calF_ok (C := R_AL) (Tf := T_AL) (N := 3) (x := { cls := "java/util/List", name := "get", desc := "(I)Ljava/lang/Object;" }) hx hb hml hown hlk hU hlo hR (cr_W0_st s0) (by rw [hem]; exact fun _ h => absurd h List.not_mem_nil) hK rfl (u_AL_get Z) (cr_w Z w_207 rfl hU args) (cr_w Z w_209 rfl hU args) (cr_w Z w_208 rfl hU args) (cr_w Z w_210 rfl hU args) (cr_w Z w_212 rfl hU args) (cr_w Z w_213 rfl hU args) (cr_w Z w_211 rfl hU args) (cr_w Z w_200 rfl hU args) (by decide) (by decide +kernel) (by decide) d_C_cardNumbered_33 rfl) ?_
  refine cr_cons (cr_cast_ok (C := R_Cd) (T := T_Cd) (N := 3) hx hb hown (cr_w Z w_551 rfl hU args) hK rfl rfl d_C_cardNumbered_38 rfl) ?_
  refine cr_cons (cr_aret_ok hx hb hr (Or.inl ⟨_, rfl⟩) hlk d_C_cardNumbered_41) ?_
  exact cr_nil
theorem s_C_cardNumbered {p : Program} {l : Launch} {e : Env} {R : Room} {s : State} {m : MethodId} {args : Array Value} {below : List Frame} {meth : Method} {c : Code} {s0 : State} {D : va_G} {ca : Nat → ClassId} {e0 d mc ms : Nat} {Q : cr_Q} (hl : l.flags = flags0) (Z : cr_Z0 s0 D ca e0) (C : cr_C p R s m meth c (cr_W0 s0) s0.heap.size y_C_cardNumbered c_C_cardNumbered 2 (Option.some (FieldType.object "CardRights$Card")) d mc ms) (hem : c.exceptionTable.toList = []) : ∀ x ∈ t_C_cardNumbered l s0 D ca e0 d mc ms, cr_Snd p l e R s m args below meth c s0.heap.size mc ms Q x.1 x.2 := s_C_cardNumbered_0 hl Z C hem
