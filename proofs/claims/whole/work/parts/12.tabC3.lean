theorem d_C_hasRight_0 : decode c_C_hasRight 0 = .ok (.iconst 0, 1) := by decide +kernel
theorem d_C_hasRight_1 : decode c_C_hasRight 1 = .ok (.istore 5, 2) := by decide +kernel
theorem d_C_hasRight_3 : decode c_C_hasRight 3 = .ok (.iload 5, 2) := by decide +kernel
theorem d_C_hasRight_5 : decode c_C_hasRight 5 = .ok (.aload_n 0, 1) := by decide +kernel
theorem d_C_hasRight_6 : decode c_C_hasRight 6 = .ok (.getfield 25, 3) := by decide +kernel
theorem d_C_hasRight_9 : decode c_C_hasRight 9 = .ok (.invokeinterface 64 1, 5) := by decide +kernel
theorem d_C_hasRight_14 : decode c_C_hasRight 14 = .ok (.if_icmp .ge 73, 3) := by decide +kernel
theorem d_C_hasRight_17 : decode c_C_hasRight 17 = .ok (.iload 5, 2) := by decide +kernel
theorem d_C_hasRight_19 : decode c_C_hasRight 19 = .ok (.aload_n 1, 1) := by decide +kernel
theorem d_C_hasRight_20 : decode c_C_hasRight 20 = .ok (.getfield 154, 3) := by decide +kernel
theorem d_C_hasRight_23 : decode c_C_hasRight 23 = .ok (.if_icmp .ge 64, 3) := by decide +kernel
theorem d_C_hasRight_26 : decode c_C_hasRight 26 = .ok (.aload_n 0, 1) := by decide +kernel
theorem d_C_hasRight_27 : decode c_C_hasRight 27 = .ok (.getfield 25, 3) := by decide +kernel
theorem d_C_hasRight_30 : decode c_C_hasRight 30 = .ok (.iload 5, 2) := by decide +kernel
theorem d_C_hasRight_32 : decode c_C_hasRight 32 = .ok (.invokeinterface 119 2, 5) := by decide +kernel
theorem d_C_hasRight_37 : decode c_C_hasRight 37 = .ok (.checkcast 149, 3) := by decide +kernel
theorem d_C_hasRight_40 : decode c_C_hasRight 40 = .ok (.astore 6, 2) := by decide +kernel
theorem d_C_hasRight_42 : decode c_C_hasRight 42 = .ok (.aload 6, 2) := by decide +kernel
theorem d_C_hasRight_44 : decode c_C_hasRight 44 = .ok (.iload_n 2, 1) := by decide +kernel
theorem d_C_hasRight_45 : decode c_C_hasRight 45 = .ok (.iload_n 3, 1) := by decide +kernel
theorem d_C_hasRight_46 : decode c_C_hasRight 46 = .ok (.iload 4, 2) := by decide +kernel
theorem d_C_hasRight_48 : decode c_C_hasRight 48 = .ok (.sipush 1440, 3) := by decide +kernel
theorem d_C_hasRight_51 : decode c_C_hasRight 51 = .ok (.irem, 1) := by decide +kernel
theorem d_C_hasRight_52 : decode c_C_hasRight 52 = .ok (.invokevirtual 333, 3) := by decide +kernel
theorem d_C_hasRight_55 : decode c_C_hasRight 55 = .ok (.ifCond .eq 26, 3) := by decide +kernel
theorem d_C_hasRight_58 : decode c_C_hasRight 58 = .ok (.aload 6, 2) := by decide +kernel
theorem d_C_hasRight_60 : decode c_C_hasRight 60 = .ok (.getfield 337, 3) := by decide +kernel
theorem d_C_hasRight_63 : decode c_C_hasRight 63 = .ok (.iload 4, 2) := by decide +kernel
theorem d_C_hasRight_65 : decode c_C_hasRight 65 = .ok (.if_icmp .gt 16, 3) := by decide +kernel
theorem d_C_hasRight_68 : decode c_C_hasRight 68 = .ok (.aload_n 1, 1) := by decide +kernel
theorem d_C_hasRight_69 : decode c_C_hasRight 69 = .ok (.iload 5, 2) := by decide +kernel
theorem d_C_hasRight_71 : decode c_C_hasRight 71 = .ok (.iload 4, 2) := by decide +kernel
theorem d_C_hasRight_73 : decode c_C_hasRight 73 = .ok (.invokevirtual 340, 3) := by decide +kernel
theorem d_C_hasRight_76 : decode c_C_hasRight 76 = .ok (.ifCond .ne 5, 3) := by decide +kernel
theorem d_C_hasRight_79 : decode c_C_hasRight 79 = .ok (.iconst 1, 1) := by decide +kernel
theorem d_C_hasRight_80 : decode c_C_hasRight 80 = .ok (.ireturn, 1) := by decide +kernel
theorem d_C_hasRight_81 : decode c_C_hasRight 81 = .ok (.iinc 5 1, 3) := by decide +kernel
theorem d_C_hasRight_84 : decode c_C_hasRight 84 = .ok (.goto (-81), 3) := by decide +kernel
theorem d_C_hasRight_87 : decode c_C_hasRight 87 = .ok (.iconst 0, 1) := by decide +kernel
theorem d_C_hasRight_88 : decode c_C_hasRight 88 = .ok (.ireturn, 1) := by decide +kernel
def t_C_hasRight_0 (l : Launch) (s0 : State) (D : va_G) (ca : Nat → ClassId) (e0 d mc ms : Nat) : List (Nat × cr_T) := [(0, cr_push (.int 0) 1),
  (1, cr_istore 5 3),
  (3, cr_iload 5 5),
  (5, cr_aload 0 6),
  (6, cr_getf D kc 0 4 9),
  (9, cr_calV D kc l (cr_W0 s0) s0.heap.size 12 y_AL_size cw_AL_size d mc ms 0 7 14),
  (14, cr_icge 87 17),
  (17, cr_iload 5 19),
  (19, cr_aload 1 20),
  (20, cr_getf D kc 4 1 23),
  (23, cr_icge 87 26),
  (26, cr_aload 0 27),
  (27, cr_getf D kc 0 4 30),
  (30, cr_iload 5 32),
  (32, cr_calV D kc l (cr_W0 s0) s0.heap.size 12 y_AL_get cw_AL_get d mc ms 1 7 37),
  (37, cr_cast D kc 7 40),
  (40, cr_astore 6 42),
  (42, cr_aload 6 44),
  (44, cr_iload 2 45),
  (45, cr_iload 3 46),
  (46, cr_iload 4 48),
  (48, cr_push (.int 1440) 51),
  (51, cr_irem 52),
  (52, cr_calV D kc l (cr_W0 s0) s0.heap.size 7 y_Ri_isFor cw_Ri_isFor d mc ms 3 7 55),
  (55, cr_ifeq 81 58),
  (58, cr_aload 6 60),
  (60, cr_getf D kc 7 4 63),
  (63, cr_iload 4 65),
  (65, cr_icgt 81 68),
  (68, cr_aload 1 69)]
def t_C_hasRight_1 (l : Launch) (s0 : State) (D : va_G) (ca : Nat → ClassId) (e0 d mc ms : Nat) : List (Nat × cr_T) := [(69, cr_iload 5 71),
  (71, cr_iload 4 73),
  (73, cr_calV D kc l (cr_W0 s0) s0.heap.size 4 y_Kn_isEnded cw_Kn_isEnded d mc ms 2 7 76),
  (76, cr_ifne 81 79),
  (79, cr_push (.int 1) 80),
  (80, cr_zret mc ms .boolean),
  (81, cr_iinc 5 1 84),
  (84, cr_goto 3),
  (87, cr_push (.int 0) 88),
  (88, cr_zret mc ms .boolean)]
def t_C_hasRight (l : Launch) (s0 : State) (D : va_G) (ca : Nat → ClassId) (e0 d mc ms : Nat) : List (Nat × cr_T) := t_C_hasRight_0 l s0 D ca e0 d mc ms ++ (t_C_hasRight_1 l s0 D ca e0 d mc ms)
set_option maxHeartbeats 4000000 in
set_option maxRecDepth 20000 in
theorem s_C_hasRight_0 {p : Program} {l : Launch} {e : Env} {R : Room} {s : State} {m : MethodId} {args : Array Value} {below : List Frame} {meth : Method} {c : Code} {s0 : State} {D : va_G} {ca : Nat → ClassId} {e0 d mc ms : Nat} {Q : cr_Q} (hl : l.flags = flags0) (Z : cr_Z0 s0 D ca e0) (C : cr_C p R s m meth c (cr_W0 s0) s0.heap.size y_C_hasRight c_C_hasRight 7 (Option.some FieldType.boolean) d mc ms) (hem : c.exceptionTable.toList = []) : ∀ x ∈ t_C_hasRight_0 l s0 D ca e0 d mc ms, cr_Snd p l e R s m args below meth c s0.heap.size mc ms Q x.1 x.2 := by
  obtain ⟨hx, hb, hml, hown, hr, hlk, hnm, hU, hlo, hR⟩ := C
  have hK := cr_Z0K Z hU
  have hRc : R.cells = mc := by rw [hR]; rfl
  have hRs : R.slots = ms := by rw [hR]; rfl
  unfold t_C_hasRight_0
  refine cr_cons (cr_iconst_ok hx hb d_C_hasRight_0 (by decide) rfl) ?_
  refine cr_cons (cr_istore_ok hx hb d_C_hasRight_1 rfl) ?_
  refine cr_cons (cr_iload_ok hx hb d_C_hasRight_3 rfl) ?_
  refine cr_cons (cr_aload_n_ok hx hb d_C_hasRight_5 rfl rfl) ?_
  refine cr_cons (cr_getf_ok (C := R_C) (T := T_C) (N := 10) hx hb (k_C Z hU args) (fun _ h => h) hown hK rfl (by decide) (cr_w Z w_140 rfl hU args) (fun _ h => h) d_C_hasRight_6 rfl) ?_
  refine cr_cons (cr_calF_ok (C := R_AL) (Tf := T_AL) (N := 3) (x := { cls := "java/util/List", name := "size", desc := "()I" }) hx hb hml hown hlk hU hlo hR (cr_W0_st s0) (by rw [hem]; exact fun _ h => absurd h List.not_mem_nil) hK rfl (u_AL_size Z) (cr_w Z w_197 rfl hU args) (cr_w Z w_199 rfl hU args) (cr_w Z w_198 rfl hU args) (cr_w Z w_201 rfl hU args) (cr_w Z w_203 rfl hU args) (cr_w Z w_204 rfl hU args) (cr_w Z w_202 rfl hU args) (cr_w Z w_200 rfl hU args) (by decide) (by decide +kernel) (by decide) d_C_hasRight_9 rfl) ?_
  refine cr_cons (cr_icge_ok hx hb d_C_hasRight_14 (by decide) rfl) ?_
  refine cr_cons (cr_iload_ok hx hb d_C_hasRight_17 rfl) ?_
  refine cr_cons (cr_aload_n_ok hx hb d_C_hasRight_19 rfl rfl) ?_
  refine cr_cons (cr_getfN_ok (C := R_Kn) (T := T_Kn) (N := 4) hx hb (k_Kn Z hU args) (fun _ h => h) hown hK rfl (by decide) (cr_w Z w_73 rfl hU args) (fun _ h => h) d_C_hasRight_20 rfl) ?_
  refine cr_cons (cr_icge_ok hx hb d_C_hasRight_23 (by decide) rfl) ?_
  refine cr_cons (cr_aload_n_ok hx hb d_C_hasRight_26 rfl rfl) ?_
  refine cr_cons (cr_getf_ok (C := R_C) (T := T_C) (N := 10) hx hb (k_C Z hU args) (fun _ h => h) hown hK rfl (by decide) (cr_w Z w_140 rfl hU args) (fun _ h => h) d_C_hasRight_27 rfl) ?_
  refine cr_cons (cr_iload_ok hx hb d_C_hasRight_30 rfl) ?_
  refine cr_cons (cr_calF_ok (C := R_AL) (Tf := T_AL) (N := 3) (x := { cls := "java/util/List", name := "get", desc := "(I)Ljava/lang/Object;" }) hx hb hml hown hlk hU hlo hR (cr_W0_st s0) (by rw [hem]; exact fun _ h => absurd h List.not_mem_nil) hK rfl (u_AL_get Z) (cr_w Z w_207 rfl hU args) (cr_w Z w_209 rfl hU args) (cr_w Z w_208 rfl hU args) (cr_w Z w_210 rfl hU args) (cr_w Z w_212 rfl hU args) (cr_w Z w_213 rfl hU args) (cr_w Z w_211 rfl hU args) (cr_w Z w_200 rfl hU args) (by decide) (by decide +kernel) (by decide) d_C_hasRight_32 rfl) ?_
  refine cr_cons (cr_cast_ok (C := R_Ri) (T := T_Ri) (N := 5) hx hb hown (cr_w Z w_225 rfl hU args) hK rfl rfl d_C_hasRight_37 rfl) ?_
  refine cr_cons (cr_astore_ok hx hb d_C_hasRight_40 rfl) ?_
  refine cr_cons (cr_aload_ok hx hb d_C_hasRight_42 rfl) ?_
  refine cr_cons (cr_iload_n_ok hx hb d_C_hasRight_44 rfl rfl) ?_
  refine cr_cons (cr_iload_n_ok hx hb d_C_hasRight_45 rfl rfl) ?_
  refine cr_cons (cr_iload_ok hx hb d_C_hasRight_46 rfl) ?_
  refine cr_cons (cr_sipush_ok hx hb d_C_hasRight_48 (by decide) rfl) ?_
  refine cr_cons (cr_irem_ok hx hb d_C_hasRight_51 rfl) ?_
  refine cr_cons (cr_calV_ok (C := R_Ri) (Tf := T_Ri) (N := 5) hx hb hml hown hlk hU hlo hR (cr_W0_st s0) (by rw [hem]; exact fun _ h => absurd h List.not_mem_nil) hK rfl (u_Ri_isFor Z) (Or.inr ⟨_, (cr_w Z w_226 rfl hU args)⟩) (cr_w Z w_228 rfl hU args) (cr_w Z ws_2 rfl hU args) (by decide) (by decide +kernel) (by decide) d_C_hasRight_52 rfl) ?_
  refine cr_cons (cr_ifeq_ok hx hb d_C_hasRight_55 (by decide) rfl) ?_
  refine cr_cons (cr_aload_ok hx hb d_C_hasRight_58 rfl) ?_
  refine cr_cons (cr_getfN_ok (C := R_Ri) (T := T_Ri) (N := 5) hx hb (k_Ri Z hU args) (fun _ h => h) hown hK rfl (by decide) (cr_w Z w_591 rfl hU args) (fun _ h => h) d_C_hasRight_60 rfl) ?_
  refine cr_cons (cr_iload_ok hx hb d_C_hasRight_63 rfl) ?_
  refine cr_cons (cr_icgt_ok hx hb d_C_hasRight_65 (by decide) rfl) ?_
  refine cr_cons (cr_aload_n_ok hx hb d_C_hasRight_68 rfl rfl) ?_
  exact cr_nil
set_option maxHeartbeats 4000000 in
set_option maxRecDepth 20000 in
theorem s_C_hasRight_1 {p : Program} {l : Launch} {e : Env} {R : Room} {s : State} {m : MethodId} {args : Array Value} {below : List Frame} {meth : Method} {c : Code} {s0 : State} {D : va_G} {ca : Nat → ClassId} {e0 d mc ms : Nat} {Q : cr_Q} (hl : l.flags = flags0) (Z : cr_Z0 s0 D ca e0) (C : cr_C p R s m meth c (cr_W0 s0) s0.heap.size y_C_hasRight c_C_hasRight 7 (Option.some FieldType.boolean) d mc ms) (hem : c.exceptionTable.toList = []) : ∀ x ∈ t_C_hasRight_1 l s0 D ca e0 d mc ms, cr_Snd p l e R s m args below meth c s0.heap.size mc ms Q x.1 x.2 := by
  obtain ⟨hx, hb, hml, hown, hr, hlk, hnm, hU, hlo, hR⟩ := C
  have hK := cr_Z0K Z hU
  have hRc : R.cells = mc := by rw [hR]; rfl
  have hRs : R.slots = ms := by rw [hR]; rfl
  unfold t_C_hasRight_1
  refine cr_cons (cr_iload_ok hx hb d_C_hasRight_69 rfl) ?_
  refine cr_cons (cr_iload_ok hx hb d_C_hasRight_71 rfl) ?_
  refine cr_cons (cr_calV_ok (C := R_Kn) (Tf := T_Kn) (N := 4) hx hb hml hown hlk hU hlo hR (cr_W0_st s0) (by rw [hem]; exact fun _ h => absurd h List.not_mem_nil) hK rfl (u_Kn_isEnded Z) (Or.inr ⟨_, (cr_w Z w_702 rfl hU args)⟩) (cr_w Z w_704 rfl hU args) (cr_w Z ws_25 rfl hU args) (by decide) (by decide +kernel) (by decide) d_C_hasRight_73 rfl) ?_
  refine cr_cons (cr_ifne_ok hx hb d_C_hasRight_76 (by decide) rfl) ?_
  refine cr_cons (cr_iconst_ok hx hb d_C_hasRight_79 (by decide) rfl) ?_
  refine cr_cons (cr_zret_ok hx hb hr hlk d_C_hasRight_80) ?_
  refine cr_cons (cr_iinc_ok hx hb d_C_hasRight_81 (by decide) rfl) ?_
  refine cr_cons (cr_goto_ok hx hb d_C_hasRight_84 (by decide)) ?_
  refine cr_cons (cr_iconst_ok hx hb d_C_hasRight_87 (by decide) rfl) ?_
  refine cr_cons (cr_zret_ok hx hb hr hlk d_C_hasRight_88) ?_
  exact cr_nil
theorem s_C_hasRight {p : Program} {l : Launch} {e : Env} {R : Room} {s : State} {m : MethodId} {args : Array Value} {below : List Frame} {meth : Method} {c : Code} {s0 : State} {D : va_G} {ca : Nat → ClassId} {e0 d mc ms : Nat} {Q : cr_Q} (hl : l.flags = flags0) (Z : cr_Z0 s0 D ca e0) (C : cr_C p R s m meth c (cr_W0 s0) s0.heap.size y_C_hasRight c_C_hasRight 7 (Option.some FieldType.boolean) d mc ms) (hem : c.exceptionTable.toList = []) : ∀ x ∈ t_C_hasRight l s0 D ca e0 d mc ms, cr_Snd p l e R s m args below meth c s0.heap.size mc ms Q x.1 x.2 := cr_app (s_C_hasRight_0 hl Z C hem) (s_C_hasRight_1 hl Z C hem)
theorem d_C_asks_0 : decode c_C_asks 0 = .ok (.aload_n 0, 1) := by decide +kernel
theorem d_C_asks_1 : decode c_C_asks 1 = .ok (.iload_n 1, 1) := by decide +kernel
theorem d_C_asks_2 : decode c_C_asks 2 = .ok (.invokevirtual 163, 3) := by decide +kernel
theorem d_C_asks_5 : decode c_C_asks 5 = .ok (.astore 5, 2) := by decide +kernel
theorem d_C_asks_7 : decode c_C_asks 7 = .ok (.aload_n 0, 1) := by decide +kernel
theorem d_C_asks_8 : decode c_C_asks 8 = .ok (.iload_n 2, 1) := by decide +kernel
theorem d_C_asks_9 : decode c_C_asks 9 = .ok (.invokevirtual 170, 3) := by decide +kernel
theorem d_C_asks_12 : decode c_C_asks 12 = .ok (.astore 6, 2) := by decide +kernel
theorem d_C_asks_14 : decode c_C_asks 14 = .ok (.aload 6, 2) := by decide +kernel
theorem d_C_asks_16 : decode c_C_asks 16 = .ok (.iload_n 3, 1) := by decide +kernel
theorem d_C_asks_17 : decode c_C_asks 17 = .ok (.invokestatic 211, 3) := by decide +kernel
theorem d_C_asks_20 : decode c_C_asks 20 = .ok (.astore 7, 2) := by decide +kernel
theorem d_C_asks_22 : decode c_C_asks 22 = .ok (.aload_n 0, 1) := by decide +kernel
theorem d_C_asks_23 : decode c_C_asks 23 = .ok (.iload 4, 2) := by decide +kernel
theorem d_C_asks_25 : decode c_C_asks 25 = .ok (.invokevirtual 188, 3) := by decide +kernel
theorem d_C_asks_28 : decode c_C_asks 28 = .ok (.aload 6, 2) := by decide +kernel
theorem d_C_asks_30 : decode c_C_asks 30 = .ok (.iconst 1, 1) := by decide +kernel
theorem d_C_asks_31 : decode c_C_asks 31 = .ok (.invokestatic 215, 3) := by decide +kernel
theorem d_C_asks_34 : decode c_C_asks 34 = .ok (.aload_n 0, 1) := by decide +kernel
theorem d_C_asks_35 : decode c_C_asks 35 = .ok (.iload 4, 2) := by decide +kernel
theorem d_C_asks_37 : decode c_C_asks 37 = .ok (.putfield 56, 3) := by decide +kernel
theorem d_C_asks_40 : decode c_C_asks 40 = .ok (.aload_n 0, 1) := by decide +kernel
theorem d_C_asks_41 : decode c_C_asks 41 = .ok (.aload 5, 2) := by decide +kernel
theorem d_C_asks_43 : decode c_C_asks 43 = .ok (.aload 6, 2) := by decide +kernel
theorem d_C_asks_45 : decode c_C_asks 45 = .ok (.aload 7, 2) := by decide +kernel
theorem d_C_asks_47 : decode c_C_asks 47 = .ok (.iload 4, 2) := by decide +kernel
theorem d_C_asks_49 : decode c_C_asks 49 = .ok (.invokevirtual 219, 3) := by decide +kernel
theorem d_C_asks_52 : decode c_C_asks 52 = .ok (.istore 8, 2) := by decide +kernel
theorem d_C_asks_54 : decode c_C_asks 54 = .ok (.iload 8, 2) := by decide +kernel
theorem d_C_asks_56 : decode c_C_asks 56 = .ok (.ifCond .ne 15, 3) := by decide +kernel
theorem d_C_asks_59 : decode c_C_asks 59 = .ok (.aload 6, 2) := by decide +kernel
theorem d_C_asks_61 : decode c_C_asks 61 = .ok (.getfield 174, 3) := by decide +kernel
theorem d_C_asks_64 : decode c_C_asks 64 = .ok (.ifCond .eq 7, 3) := by decide +kernel
theorem d_C_asks_67 : decode c_C_asks 67 = .ok (.bipush 7, 2) := by decide +kernel
theorem d_C_asks_69 : decode c_C_asks 69 = .ok (.istore 8, 2) := by decide +kernel
theorem d_C_asks_71 : decode c_C_asks 71 = .ok (.iload 8, 2) := by decide +kernel
theorem d_C_asks_73 : decode c_C_asks 73 = .ok (.ifCond .ne 15, 3) := by decide +kernel
theorem d_C_asks_76 : decode c_C_asks 76 = .ok (.aload_n 0, 1) := by decide +kernel
theorem d_C_asks_77 : decode c_C_asks 77 = .ok (.aload 5, 2) := by decide +kernel
theorem d_C_asks_79 : decode c_C_asks 79 = .ok (.aload 6, 2) := by decide +kernel
theorem d_C_asks_81 : decode c_C_asks 81 = .ok (.aload 7, 2) := by decide +kernel
theorem d_C_asks_83 : decode c_C_asks 83 = .ok (.iload 4, 2) := by decide +kernel
theorem d_C_asks_85 : decode c_C_asks 85 = .ok (.invokevirtual 223, 3) := by decide +kernel
theorem d_C_asks_88 : decode c_C_asks 88 = .ok (.iload 8, 2) := by decide +kernel
theorem d_C_asks_90 : decode c_C_asks 90 = .ok (.ireturn, 1) := by decide +kernel
def t_C_asks_0 (l : Launch) (s0 : State) (D : va_G) (ca : Nat → ClassId) (e0 d mc ms : Nat) : List (Nat × cr_T) := [(0, cr_aload 0 1),
  (1, cr_iload 1 2),
  (2, cr_calV D kc l (cr_W0 s0) s0.heap.size 0 y_C_cardNumbered cw_C_cardNumbered d mc ms 1 9 5),
  (5, cr_astore 5 7),
  (7, cr_aload 0 8),
  (8, cr_iload 2 9),
  (9, cr_calV D kc l (cr_W0 s0) s0.heap.size 0 y_C_doorNumbered cw_C_doorNumbered d mc ms 1 9 12),
  (12, cr_astore 6 14),
  (14, cr_aload 6 16),
  (16, cr_iload 3 17),
  (17, cr_calS l (cr_W0 s0) s0.heap.size y_C_roomOfDoor cw_C_roomOfDoor d mc ms 2 9 20),
  (20, cr_astore 7 22),
  (22, cr_aload 0 23),
  (23, cr_iload 4 25),
  (25, cr_calV D kc l (cr_W0 s0) s0.heap.size 0 y_C_checkMinuteFromNow cw_C_checkMinuteFromNow d mc ms 1 9 28),
  (28, cr_aload 6 30),
  (30, cr_push (.int 1) 31),
  (31, cr_calS l (cr_W0 s0) s0.heap.size y_C_checkSpaceForRows cw_C_checkSpaceForRows d mc ms 2 9 34),
  (34, cr_aload 0 35),
  (35, cr_iload 4 37),
  (37, cr_putf D kc s0.heap.size 0 9 .int 40),
  (40, cr_aload 0 41),
  (41, cr_aload 5 43),
  (43, cr_aload 6 45),
  (45, cr_aload 7 47),
  (47, cr_iload 4 49),
  (49, cr_calV D kc l (cr_W0 s0) s0.heap.size 0 y_C_refusalByItself cw_C_refusalByItself d mc ms 4 9 52),
  (52, cr_istore 8 54),
  (54, cr_iload 8 56),
  (56, cr_ifne 71 59)]
def t_C_asks_1 (l : Launch) (s0 : State) (D : va_G) (ca : Nat → ClassId) (e0 d mc ms : Nat) : List (Nat × cr_T) := [(59, cr_aload 6 61),
  (61, cr_getf D kc 2 3 64),
  (64, cr_ifeq 71 67),
  (67, cr_push (.int 7) 69),
  (69, cr_istore 8 71),
  (71, cr_iload 8 73),
  (73, cr_ifne 88 76),
  (76, cr_aload 0 77),
  (77, cr_aload 5 79),
  (79, cr_aload 6 81),
  (81, cr_aload 7 83),
  (83, cr_iload 4 85),
  (85, cr_calV D kc l (cr_W0 s0) s0.heap.size 0 y_C_letIn cw_C_letIn d mc ms 4 9 88),
  (88, cr_iload 8 90),
  (90, cr_iret mc ms)]
def t_C_asks (l : Launch) (s0 : State) (D : va_G) (ca : Nat → ClassId) (e0 d mc ms : Nat) : List (Nat × cr_T) := t_C_asks_0 l s0 D ca e0 d mc ms ++ (t_C_asks_1 l s0 D ca e0 d mc ms)
set_option maxHeartbeats 4000000 in
set_option maxRecDepth 20000 in
theorem s_C_asks_0 {p : Program} {l : Launch} {e : Env} {R : Room} {s : State} {m : MethodId} {args : Array Value} {below : List Frame} {meth : Method} {c : Code} {s0 : State} {D : va_G} {ca : Nat → ClassId} {e0 d mc ms : Nat} {Q : cr_Q} (hl : l.flags = flags0) (Z : cr_Z0 s0 D ca e0) (C : cr_C p R s m meth c (cr_W0 s0) s0.heap.size y_C_asks c_C_asks 9 (Option.some FieldType.int) d mc ms) (hem : c.exceptionTable.toList = []) : ∀ x ∈ t_C_asks_0 l s0 D ca e0 d mc ms, cr_Snd p l e R s m args below meth c s0.heap.size mc ms Q x.1 x.2 := by
  obtain ⟨hx, hb, hml, hown, hr, hlk, hnm, hU, hlo, hR⟩ := C
  have hK := cr_Z0K Z hU
  have hRc : R.cells = mc := by rw [hR]; rfl
  have hRs : R.slots = ms := by rw [hR]; rfl
  unfold t_C_asks_0
  refine cr_cons (cr_aload_n_ok hx hb d_C_asks_0 rfl rfl) ?_
  refine cr_cons (cr_iload_n_ok hx hb d_C_asks_1 rfl rfl) ?_
  refine cr_cons (cr_calV_ok (C := R_C) (Tf := T_C) (N := 10) hx hb hml hown hlk hU hlo hR (cr_W0_st s0) (by rw [hem]; exact fun _ h => absurd h List.not_mem_nil) hK rfl (u_C_cardNumbered Z) (Or.inl (cr_w Z w_618 rfl hU args)) (cr_w Z w_620 rfl hU args) (cr_w Z ws_14 rfl hU args) (by decide) (by decide +kernel) (by decide) d_C_asks_2 rfl) ?_
  refine cr_cons (cr_astore_ok hx hb d_C_asks_5 rfl) ?_
  refine cr_cons (cr_aload_n_ok hx hb d_C_asks_7 rfl rfl) ?_
  refine cr_cons (cr_iload_n_ok hx hb d_C_asks_8 rfl rfl) ?_
  refine cr_cons (cr_calV_ok (C := R_C) (Tf := T_C) (N := 10) hx hb hml hown hlk hU hlo hR (cr_W0_st s0) (by rw [hem]; exact fun _ h => absurd h List.not_mem_nil) hK rfl (u_C_doorNumbered Z) (Or.inl (cr_w Z w_630 rfl hU args)) (cr_w Z w_632 rfl hU args) (cr_w Z ws_15 rfl hU args) (by decide) (by decide +kernel) (by decide) d_C_asks_9 rfl) ?_
  refine cr_cons (cr_astore_ok hx hb d_C_asks_12 rfl) ?_
  refine cr_cons (cr_aload_ok hx hb d_C_asks_14 rfl) ?_
  refine cr_cons (cr_iload_n_ok hx hb d_C_asks_16 rfl rfl) ?_
  refine cr_cons (cr_calS_ok hx hb hml hown hlk hU hlo hR (cr_W0_st s0) (by rw [hem]; exact fun _ h => absurd h List.not_mem_nil) (u_C_roomOfDoor Z) (Or.inl (cr_w Z w_726 rfl hU args)) (cr_w Z w_727 rfl hU args) (by decide) (by decide +kernel) (by decide) d_C_asks_17 rfl) ?_
  refine cr_cons (cr_astore_ok hx hb d_C_asks_20 rfl) ?_
  refine cr_cons (cr_aload_n_ok hx hb d_C_asks_22 rfl rfl) ?_
  refine cr_cons (cr_iload_ok hx hb d_C_asks_23 rfl) ?_
  refine cr_cons (cr_calV_ok (C := R_C) (Tf := T_C) (N := 10) hx hb hml hown hlk hU hlo hR (cr_W0_st s0) (by rw [hem]; exact fun _ h => absurd h List.not_mem_nil) hK rfl (u_C_checkMinuteFromNow Z) (Or.inl (cr_w Z w_658 rfl hU args)) (cr_w Z w_660 rfl hU args) (cr_w Z ws_18 rfl hU args) (by decide) (by decide +kernel) (by decide) d_C_asks_25 rfl) ?_
  refine cr_cons (cr_aload_ok hx hb d_C_asks_28 rfl) ?_
  refine cr_cons (cr_iconst_ok hx hb d_C_asks_30 (by decide) rfl) ?_
  refine cr_cons (cr_calS_ok hx hb hml hown hlk hU hlo hR (cr_W0_st s0) (by rw [hem]; exact fun _ h => absurd h List.not_mem_nil) (u_C_checkSpaceForRows Z) (Or.inl (cr_w Z w_730 rfl hU args)) (cr_w Z w_731 rfl hU args) (by decide) (by decide +kernel) (by decide) d_C_asks_31 rfl) ?_
  refine cr_cons (cr_aload_n_ok hx hb d_C_asks_34 rfl rfl) ?_
  refine cr_cons (cr_iload_ok hx hb d_C_asks_35 rfl) ?_
  refine cr_cons (cr_putf_ok (C := R_C) (T := T_C) (N := 10) tt_C hx hb (k_C Z hU args) (fun _ h => h) ty_C nm_C hown hK rfl (by decide) (Or.inl (cr_w Z w_145 rfl hU args)) (fun _ h => h) rfl (by decide +kernel) d_C_asks_37 rfl) ?_
  refine cr_cons (cr_aload_n_ok hx hb d_C_asks_40 rfl rfl) ?_
  refine cr_cons (cr_aload_ok hx hb d_C_asks_41 rfl) ?_
  refine cr_cons (cr_aload_ok hx hb d_C_asks_43 rfl) ?_
  refine cr_cons (cr_aload_ok hx hb d_C_asks_45 rfl) ?_
  refine cr_cons (cr_iload_ok hx hb d_C_asks_47 rfl) ?_
  refine cr_cons (cr_calV_ok (C := R_C) (Tf := T_C) (N := 10) hx hb hml hown hlk hU hlo hR (cr_W0_st s0) (by rw [hem]; exact fun _ h => absurd h List.not_mem_nil) hK rfl (u_C_refusalByItself Z) (Or.inl (cr_w Z w_734 rfl hU args)) (cr_w Z w_736 rfl hU args) (cr_w Z ws_27 rfl hU args) (by decide) (by decide +kernel) (by decide) d_C_asks_49 rfl) ?_
  refine cr_cons (cr_istore_ok hx hb d_C_asks_52 rfl) ?_
  refine cr_cons (cr_iload_ok hx hb d_C_asks_54 rfl) ?_
  refine cr_cons (cr_ifne_ok hx hb d_C_asks_56 (by decide) rfl) ?_
  exact cr_nil
set_option maxHeartbeats 4000000 in
set_option maxRecDepth 20000 in
theorem s_C_asks_1 {p : Program} {l : Launch} {e : Env} {R : Room} {s : State} {m : MethodId} {args : Array Value} {below : List Frame} {meth : Method} {c : Code} {s0 : State} {D : va_G} {ca : Nat → ClassId} {e0 d mc ms : Nat} {Q : cr_Q} (hl : l.flags = flags0) (Z : cr_Z0 s0 D ca e0) (C : cr_C p R s m meth c (cr_W0 s0) s0.heap.size y_C_asks c_C_asks 9 (Option.some FieldType.int) d mc ms) (hem : c.exceptionTable.toList = []) : ∀ x ∈ t_C_asks_1 l s0 D ca e0 d mc ms, cr_Snd p l e R s m args below meth c s0.heap.size mc ms Q x.1 x.2 := by
  obtain ⟨hx, hb, hml, hown, hr, hlk, hnm, hU, hlo, hR⟩ := C
  have hK := cr_Z0K Z hU
  have hRc : R.cells = mc := by rw [hR]; rfl
  have hRs : R.slots = ms := by rw [hR]; rfl
  unfold t_C_asks_1
  refine cr_cons (cr_aload_ok hx hb d_C_asks_59 rfl) ?_
  refine cr_cons (cr_getfN_ok (C := R_Dr) (T := T_Dr) (N := 10) hx hb (k_Dr Z hU args) (fun _ h => h) hown hK rfl (by decide) (cr_w Z w_463 rfl hU args) (fun _ h => h) d_C_asks_61 rfl) ?_
  refine cr_cons (cr_ifeq_ok hx hb d_C_asks_64 (by decide) rfl) ?_
  refine cr_cons (cr_bipush_ok hx hb d_C_asks_67 (by decide) rfl) ?_
  refine cr_cons (cr_istore_ok hx hb d_C_asks_69 rfl) ?_
  refine cr_cons (cr_iload_ok hx hb d_C_asks_71 rfl) ?_
  refine cr_cons (cr_ifne_ok hx hb d_C_asks_73 (by decide) rfl) ?_
  refine cr_cons (cr_aload_n_ok hx hb d_C_asks_76 rfl rfl) ?_
  refine cr_cons (cr_aload_ok hx hb d_C_asks_77 rfl) ?_
  refine cr_cons (cr_aload_ok hx hb d_C_asks_79 rfl) ?_
  refine cr_cons (cr_aload_ok hx hb d_C_asks_81 rfl) ?_
  refine cr_cons (cr_iload_ok hx hb d_C_asks_83 rfl) ?_
  refine cr_cons (cr_calV_ok (C := R_C) (Tf := T_C) (N := 10) hx hb hml hown hlk hU hlo hR (cr_W0_st s0) (by rw [hem]; exact fun _ h => absurd h List.not_mem_nil) hK rfl (u_C_letIn Z) (Or.inl (cr_w Z w_746 rfl hU args)) (cr_w Z w_748 rfl hU args) (cr_w Z ws_30 rfl hU args) (by decide) (by decide +kernel) (by decide) d_C_asks_85 rfl) ?_
  refine cr_cons (cr_iload_ok hx hb d_C_asks_88 rfl) ?_
  refine cr_cons (cr_iret_ok hx hb hr hlk d_C_asks_90) ?_
  exact cr_nil
theorem s_C_asks {p : Program} {l : Launch} {e : Env} {R : Room} {s : State} {m : MethodId} {args : Array Value} {below : List Frame} {meth : Method} {c : Code} {s0 : State} {D : va_G} {ca : Nat → ClassId} {e0 d mc ms : Nat} {Q : cr_Q} (hl : l.flags = flags0) (Z : cr_Z0 s0 D ca e0) (C : cr_C p R s m meth c (cr_W0 s0) s0.heap.size y_C_asks c_C_asks 9 (Option.some FieldType.int) d mc ms) (hem : c.exceptionTable.toList = []) : ∀ x ∈ t_C_asks l s0 D ca e0 d mc ms, cr_Snd p l e R s m args below meth c s0.heap.size mc ms Q x.1 x.2 := cr_app (s_C_asks_0 hl Z C hem) (s_C_asks_1 hl Z C hem)
theorem d_C_roomOfDoor_0 : decode c_C_roomOfDoor 0 = .ok (.iload_n 1, 1) := by decide +kernel
theorem d_C_roomOfDoor_1 : decode c_C_roomOfDoor 1 = .ok (.aload_n 0, 1) := by decide +kernel
theorem d_C_roomOfDoor_2 : decode c_C_roomOfDoor 2 = .ok (.getfield 290, 3) := by decide +kernel
theorem d_C_roomOfDoor_5 : decode c_C_roomOfDoor 5 = .ok (.getfield 86, 3) := by decide +kernel
theorem d_C_roomOfDoor_8 : decode c_C_roomOfDoor 8 = .ok (.if_icmp .ne 8, 3) := by decide +kernel
theorem d_C_roomOfDoor_11 : decode c_C_roomOfDoor 11 = .ok (.aload_n 0, 1) := by decide +kernel
theorem d_C_roomOfDoor_12 : decode c_C_roomOfDoor 12 = .ok (.getfield 290, 3) := by decide +kernel
theorem d_C_roomOfDoor_15 : decode c_C_roomOfDoor 15 = .ok (.areturn, 1) := by decide +kernel
theorem d_C_roomOfDoor_16 : decode c_C_roomOfDoor 16 = .ok (.iload_n 1, 1) := by decide +kernel
theorem d_C_roomOfDoor_17 : decode c_C_roomOfDoor 17 = .ok (.aload_n 0, 1) := by decide +kernel
theorem d_C_roomOfDoor_18 : decode c_C_roomOfDoor 18 = .ok (.getfield 293, 3) := by decide +kernel
theorem d_C_roomOfDoor_21 : decode c_C_roomOfDoor 21 = .ok (.getfield 86, 3) := by decide +kernel
theorem d_C_roomOfDoor_24 : decode c_C_roomOfDoor 24 = .ok (.if_icmp .ne 8, 3) := by decide +kernel
theorem d_C_roomOfDoor_27 : decode c_C_roomOfDoor 27 = .ok (.aload_n 0, 1) := by decide +kernel
theorem d_C_roomOfDoor_28 : decode c_C_roomOfDoor 28 = .ok (.getfield 293, 3) := by decide +kernel
theorem d_C_roomOfDoor_31 : decode c_C_roomOfDoor 31 = .ok (.areturn, 1) := by decide +kernel
theorem d_C_roomOfDoor_32 : decode c_C_roomOfDoor 32 = .ok (.new 93, 3) := by decide +kernel
theorem d_C_roomOfDoor_35 : decode c_C_roomOfDoor 35 = .ok (.dup, 1) := by decide +kernel
theorem d_C_roomOfDoor_36 : decode c_C_roomOfDoor 36 = .ok (.ldc_w 296, 3) := by decide +kernel
theorem d_C_roomOfDoor_39 : decode c_C_roomOfDoor 39 = .ok (.invokespecial 97, 3) := by decide +kernel
theorem d_C_roomOfDoor_42 : decode c_C_roomOfDoor 42 = .ok (.athrow, 1) := by decide +kernel
def t_C_roomOfDoor_0 (l : Launch) (s0 : State) (D : va_G) (ca : Nat → ClassId) (e0 d mc ms : Nat) : List (Nat × cr_T) := [(0, cr_iload 1 1),
  (1, cr_aload 0 2),
  (2, cr_getf D kc 2 1 5),
  (5, cr_getf D kc 8 0 8),
  (8, cr_icne 16 11),
  (11, cr_aload 0 12),
  (12, cr_getf D kc 2 1 15),
  (15, cr_aret mc ms),
  (16, cr_iload 1 17),
  (17, cr_aload 0 18),
  (18, cr_getf D kc 2 2 21),
  (21, cr_getf D kc 8 0 24),
  (24, cr_icne 32 27),
  (27, cr_aload 0 28),
  (28, cr_getf D kc 2 2 31),
  (31, cr_aret mc ms),
  (32, cr_thr s0 mc ms d 1 2)]
def t_C_roomOfDoor (l : Launch) (s0 : State) (D : va_G) (ca : Nat → ClassId) (e0 d mc ms : Nat) : List (Nat × cr_T) := t_C_roomOfDoor_0 l s0 D ca e0 d mc ms
set_option maxHeartbeats 4000000 in
set_option maxRecDepth 20000 in
theorem s_C_roomOfDoor_0 {p : Program} {l : Launch} {e : Env} {R : Room} {s : State} {m : MethodId} {args : Array Value} {below : List Frame} {meth : Method} {c : Code} {s0 : State} {D : va_G} {ca : Nat → ClassId} {e0 d mc ms : Nat} {Q : cr_Q} (hl : l.flags = flags0) (Z : cr_Z0 s0 D ca e0) (C : cr_C p R s m meth c (cr_W0 s0) s0.heap.size y_C_roomOfDoor c_C_roomOfDoor 2 (Option.some (FieldType.object "CardRights$Room")) d mc ms) (hem : c.exceptionTable.toList = []) : ∀ x ∈ t_C_roomOfDoor_0 l s0 D ca e0 d mc ms, cr_Snd p l e R s m args below meth c s0.heap.size mc ms Q x.1 x.2 := by
  obtain ⟨hx, hb, hml, hown, hr, hlk, hnm, hU, hlo, hR⟩ := C
  have hK := cr_Z0K Z hU
  have hRc : R.cells = mc := by rw [hR]; rfl
  have hRs : R.slots = ms := by rw [hR]; rfl
  unfold t_C_roomOfDoor_0
  refine cr_cons (cr_iload_n_ok hx hb d_C_roomOfDoor_0 rfl rfl) ?_
  refine cr_cons (cr_aload_n_ok hx hb d_C_roomOfDoor_1 rfl rfl) ?_
  refine cr_cons (cr_getfN_ok (C := R_Dr) (T := T_Dr) (N := 10) hx hb (k_Dr Z hU args) (fun _ h => h) hown hK rfl (by decide) (cr_w Z w_459 rfl hU args) (fun _ h => h) d_C_roomOfDoor_2 rfl) ?_
  refine cr_cons (cr_getfN_ok (C := R_Ro) (T := T_Ro) (N := 2) hx hb (k_Ro Z hU args) (fun _ h => h) hown hK rfl (by decide) (cr_w Z w_357 rfl hU args) (fun _ h => h) d_C_roomOfDoor_5 rfl) ?_
  refine cr_cons (cr_icne_ok hx hb d_C_roomOfDoor_8 (by decide) rfl) ?_
  refine cr_cons (cr_aload_n_ok hx hb d_C_roomOfDoor_11 rfl rfl) ?_
  refine cr_cons (cr_getfN_ok (C := R_Dr) (T := T_Dr) (N := 10) hx hb (k_Dr Z hU args) (fun _ h => h) hown hK rfl (by decide) (cr_w Z w_459 rfl hU args) (fun _ h => h) d_C_roomOfDoor_12 rfl) ?_
  refine cr_cons (cr_aret_ok hx hb hr (Or.inl ⟨_, rfl⟩) hlk d_C_roomOfDoor_15) ?_
  refine cr_cons (cr_iload_n_ok hx hb d_C_roomOfDoor_16 rfl rfl) ?_
  refine cr_cons (cr_aload_n_ok hx hb d_C_roomOfDoor_17 rfl rfl) ?_
  refine cr_cons (cr_getfN_ok (C := R_Dr) (T := T_Dr) (N := 10) hx hb (k_Dr Z hU args) (fun _ h => h) hown hK rfl (by decide) (cr_w Z w_461 rfl hU args) (fun _ h => h) d_C_roomOfDoor_18 rfl) ?_
  refine cr_cons (cr_getfN_ok (C := R_Ro) (T := T_Ro) (N := 2) hx hb (k_Ro Z hU args) (fun _ h => h) hown hK rfl (by decide) (cr_w Z w_357 rfl hU args) (fun _ h => h) d_C_roomOfDoor_21 rfl) ?_
  refine cr_cons (cr_icne_ok hx hb d_C_roomOfDoor_24 (by decide) rfl) ?_
  refine cr_cons (cr_aload_n_ok hx hb d_C_roomOfDoor_27 rfl rfl) ?_
  refine cr_cons (cr_getfN_ok (C := R_Dr) (T := T_Dr) (N := 10) hx hb (k_Dr Z hU args) (fun _ h => h) hown hK rfl (by decide) (cr_w Z w_461 rfl hU args) (fun _ h => h) d_C_roomOfDoor_28 rfl) ?_
  refine cr_cons (cr_aret_ok hx hb hr (Or.inl ⟨_, rfl⟩) hlk d_C_roomOfDoor_31) ?_
  refine cr_cons (cr_thrw_ok (X := "java/lang/IllegalArgumentException") hx hb hml hown hlk hU hR hem Z hl rfl w_267 w_268 w_14 own_C_97 str_296 d_C_roomOfDoor_32 d_C_roomOfDoor_35 d_C_roomOfDoor_36 d_C_roomOfDoor_39 d_C_roomOfDoor_42) ?_
  exact cr_nil
theorem s_C_roomOfDoor {p : Program} {l : Launch} {e : Env} {R : Room} {s : State} {m : MethodId} {args : Array Value} {below : List Frame} {meth : Method} {c : Code} {s0 : State} {D : va_G} {ca : Nat → ClassId} {e0 d mc ms : Nat} {Q : cr_Q} (hl : l.flags = flags0) (Z : cr_Z0 s0 D ca e0) (C : cr_C p R s m meth c (cr_W0 s0) s0.heap.size y_C_roomOfDoor c_C_roomOfDoor 2 (Option.some (FieldType.object "CardRights$Room")) d mc ms) (hem : c.exceptionTable.toList = []) : ∀ x ∈ t_C_roomOfDoor l s0 D ca e0 d mc ms, cr_Snd p l e R s m args below meth c s0.heap.size mc ms Q x.1 x.2 := s_C_roomOfDoor_0 hl Z C hem
theorem d_C_checkSpaceForRows_0 : decode c_C_checkSpaceForRows 0 = .ok (.aload_n 0, 1) := by decide +kernel
theorem d_C_checkSpaceForRows_1 : decode c_C_checkSpaceForRows 1 = .ok (.getfield 197, 3) := by decide +kernel
theorem d_C_checkSpaceForRows_4 : decode c_C_checkSpaceForRows 4 = .ok (.ifCond .eq 30, 3) := by decide +kernel
theorem d_C_checkSpaceForRows_7 : decode c_C_checkSpaceForRows 7 = .ok (.aload_n 0, 1) := by decide +kernel
theorem d_C_checkSpaceForRows_8 : decode c_C_checkSpaceForRows 8 = .ok (.getfield 283, 3) := by decide +kernel
theorem d_C_checkSpaceForRows_11 : decode c_C_checkSpaceForRows 11 = .ok (.invokeinterface 64 1, 5) := by decide +kernel
theorem d_C_checkSpaceForRows_16 : decode c_C_checkSpaceForRows 16 = .ok (.iload_n 1, 1) := by decide +kernel
theorem d_C_checkSpaceForRows_17 : decode c_C_checkSpaceForRows 17 = .ok (.iadd, 1) := by decide +kernel
theorem d_C_checkSpaceForRows_18 : decode c_C_checkSpaceForRows 18 = .ok (.bipush 50, 2) := by decide +kernel
theorem d_C_checkSpaceForRows_20 : decode c_C_checkSpaceForRows 20 = .ok (.if_icmp .le 14, 3) := by decide +kernel
theorem d_C_checkSpaceForRows_23 : decode c_C_checkSpaceForRows 23 = .ok (.new 70, 3) := by decide +kernel
theorem d_C_checkSpaceForRows_26 : decode c_C_checkSpaceForRows 26 = .ok (.dup, 1) := by decide +kernel
theorem d_C_checkSpaceForRows_27 : decode c_C_checkSpaceForRows 27 = .ok (.ldc_w 286, 3) := by decide +kernel
theorem d_C_checkSpaceForRows_30 : decode c_C_checkSpaceForRows 30 = .ok (.invokespecial 74, 3) := by decide +kernel
theorem d_C_checkSpaceForRows_33 : decode c_C_checkSpaceForRows 33 = .ok (.athrow, 1) := by decide +kernel
theorem d_C_checkSpaceForRows_34 : decode c_C_checkSpaceForRows 34 = .ok (.return_, 1) := by decide +kernel
def t_C_checkSpaceForRows_0 (l : Launch) (s0 : State) (D : va_G) (ca : Nat → ClassId) (e0 d mc ms : Nat) : List (Nat × cr_T) := [(0, cr_aload 0 1),
  (1, cr_getf D kc 2 7 4),
  (4, cr_ifeq 34 7),
  (7, cr_aload 0 8),
  (8, cr_getf D kc 2 9 11),
  (11, cr_calV D kc l (cr_W0 s0) s0.heap.size 12 y_AL_size cw_AL_size d mc ms 0 2 16),
  (16, cr_iload 1 17),
  (17, cr_iadd 18),
  (18, cr_push (.int 50) 20),
  (20, cr_icle 34 23),
  (23, cr_thr s0 mc ms d 2 2),
  (34, cr_vret mc ms)]
def t_C_checkSpaceForRows (l : Launch) (s0 : State) (D : va_G) (ca : Nat → ClassId) (e0 d mc ms : Nat) : List (Nat × cr_T) := t_C_checkSpaceForRows_0 l s0 D ca e0 d mc ms
set_option maxHeartbeats 4000000 in
set_option maxRecDepth 20000 in
theorem s_C_checkSpaceForRows_0 {p : Program} {l : Launch} {e : Env} {R : Room} {s : State} {m : MethodId} {args : Array Value} {below : List Frame} {meth : Method} {c : Code} {s0 : State} {D : va_G} {ca : Nat → ClassId} {e0 d mc ms : Nat} {Q : cr_Q} (hl : l.flags = flags0) (Z : cr_Z0 s0 D ca e0) (C : cr_C p R s m meth c (cr_W0 s0) s0.heap.size y_C_checkSpaceForRows c_C_checkSpaceForRows 2 (Option.none : Option FieldType) d mc ms) (hem : c.exceptionTable.toList = []) : ∀ x ∈ t_C_checkSpaceForRows_0 l s0 D ca e0 d mc ms, cr_Snd p l e R s m args below meth c s0.heap.size mc ms Q x.1 x.2 := by
  obtain ⟨hx, hb, hml, hown, hr, hlk, hnm, hU, hlo, hR⟩ := C
  have hK := cr_Z0K Z hU
  have hRc : R.cells = mc := by rw [hR]; rfl
  have hRs : R.slots = ms := by rw [hR]; rfl
  unfold t_C_checkSpaceForRows_0
  refine cr_cons (cr_aload_n_ok hx hb d_C_checkSpaceForRows_0 rfl rfl) ?_
  refine cr_cons (cr_getfN_ok (C := R_Dr) (T := T_Dr) (N := 10) hx hb (k_Dr Z hU args) (fun _ h => h) hown hK rfl (by decide) (cr_w Z w_470 rfl hU args) (fun _ h => h) d_C_checkSpaceForRows_1 rfl) ?_
  refine cr_cons (cr_ifeq_ok hx hb d_C_checkSpaceForRows_4 (by decide) rfl) ?_
  refine cr_cons (cr_aload_n_ok hx hb d_C_checkSpaceForRows_7 rfl rfl) ?_
  refine cr_cons (cr_getfN_ok (C := R_Dr) (T := T_Dr) (N := 10) hx hb (k_Dr Z hU args) (fun _ h => h) hown hK rfl (by decide) (cr_w Z w_474 rfl hU args) (fun _ h => h) d_C_checkSpaceForRows_8 rfl) ?_
  refine cr_cons (cr_calF_ok (C := R_AL) (Tf := T_AL) (N := 3) (x := { cls := "java/util/List", name := "size", desc := "()I" }) hx hb hml hown hlk hU hlo hR (cr_W0_st s0) (by rw [hem]; exact fun _ h => absurd h List.not_mem_nil) hK rfl (u_AL_size Z) (cr_w Z w_197 rfl hU args) (cr_w Z w_199 rfl hU args) (cr_w Z w_198 rfl hU args) (cr_w Z w_201 rfl hU args) (cr_w Z w_203 rfl hU args) (cr_w Z w_204 rfl hU args) (cr_w Z w_202 rfl hU args) (cr_w Z w_200 rfl hU args) (by decide) (by decide +kernel) (by decide) d_C_checkSpaceForRows_11 rfl) ?_
  refine cr_cons (cr_iload_n_ok hx hb d_C_checkSpaceForRows_16 rfl rfl) ?_
  refine cr_cons (cr_iadd_ok hx hb d_C_checkSpaceForRows_17 rfl) ?_
  refine cr_cons (cr_bipush_ok hx hb d_C_checkSpaceForRows_18 (by decide) rfl) ?_
  refine cr_cons (cr_icle_ok hx hb d_C_checkSpaceForRows_20 (by decide) rfl) ?_
  refine cr_cons (cr_thrw_ok (X := "java/lang/IllegalStateException") hx hb hml hown hlk hU hR hem Z hl rfl w_334 w_335 w_15 own_C_74 str_286 d_C_checkSpaceForRows_23 d_C_checkSpaceForRows_26 d_C_checkSpaceForRows_27 d_C_checkSpaceForRows_30 d_C_checkSpaceForRows_33) ?_
  refine cr_cons (cr_vret_ok hx hb hr hlk d_C_checkSpaceForRows_34) ?_
  exact cr_nil
theorem s_C_checkSpaceForRows {p : Program} {l : Launch} {e : Env} {R : Room} {s : State} {m : MethodId} {args : Array Value} {below : List Frame} {meth : Method} {c : Code} {s0 : State} {D : va_G} {ca : Nat → ClassId} {e0 d mc ms : Nat} {Q : cr_Q} (hl : l.flags = flags0) (Z : cr_Z0 s0 D ca e0) (C : cr_C p R s m meth c (cr_W0 s0) s0.heap.size y_C_checkSpaceForRows c_C_checkSpaceForRows 2 (Option.none : Option FieldType) d mc ms) (hem : c.exceptionTable.toList = []) : ∀ x ∈ t_C_checkSpaceForRows l s0 D ca e0 d mc ms, cr_Snd p l e R s m args below meth c s0.heap.size mc ms Q x.1 x.2 := s_C_checkSpaceForRows_0 hl Z C hem
theorem d_C_refusalByItself_0 : decode c_C_refusalByItself 0 = .ok (.aload_n 2, 1) := by decide +kernel
theorem d_C_refusalByItself_1 : decode c_C_refusalByItself 1 = .ok (.getfield 197, 3) := by decide +kernel
theorem d_C_refusalByItself_4 : decode c_C_refusalByItself 4 = .ok (.ifCond .eq 10, 3) := by decide +kernel
theorem d_C_refusalByItself_7 : decode c_C_refusalByItself 7 = .ok (.aload_n 2, 1) := by decide +kernel
theorem d_C_refusalByItself_8 : decode c_C_refusalByItself 8 = .ok (.getfield 200, 3) := by decide +kernel
theorem d_C_refusalByItself_11 : decode c_C_refusalByItself 11 = .ok (.goto 7, 3) := by decide +kernel
theorem d_C_refusalByItself_14 : decode c_C_refusalByItself 14 = .ok (.aload_n 0, 1) := by decide +kernel
theorem d_C_refusalByItself_15 : decode c_C_refusalByItself 15 = .ok (.getfield 31, 3) := by decide +kernel
theorem d_C_refusalByItself_18 : decode c_C_refusalByItself 18 = .ok (.astore 5, 2) := by decide +kernel
theorem d_C_refusalByItself_20 : decode c_C_refusalByItself 20 = .ok (.aload 5, 2) := by decide +kernel
theorem d_C_refusalByItself_22 : decode c_C_refusalByItself 22 = .ok (.aload_n 1, 1) := by decide +kernel
theorem d_C_refusalByItself_23 : decode c_C_refusalByItself 23 = .ok (.iload 4, 2) := by decide +kernel
theorem d_C_refusalByItself_25 : decode c_C_refusalByItself 25 = .ok (.invokestatic 304, 3) := by decide +kernel
theorem d_C_refusalByItself_28 : decode c_C_refusalByItself 28 = .ok (.istore 6, 2) := by decide +kernel
theorem d_C_refusalByItself_30 : decode c_C_refusalByItself 30 = .ok (.iload 6, 2) := by decide +kernel
theorem d_C_refusalByItself_32 : decode c_C_refusalByItself 32 = .ok (.ifCond .eq 6, 3) := by decide +kernel
theorem d_C_refusalByItself_35 : decode c_C_refusalByItself 35 = .ok (.iload 6, 2) := by decide +kernel
theorem d_C_refusalByItself_37 : decode c_C_refusalByItself 37 = .ok (.ireturn, 1) := by decide +kernel
theorem d_C_refusalByItself_38 : decode c_C_refusalByItself 38 = .ok (.aload_n 2, 1) := by decide +kernel
theorem d_C_refusalByItself_39 : decode c_C_refusalByItself 39 = .ok (.getfield 197, 3) := by decide +kernel
theorem d_C_refusalByItself_42 : decode c_C_refusalByItself 42 = .ok (.ifCond .ne 20, 3) := by decide +kernel
theorem d_C_refusalByItself_45 : decode c_C_refusalByItself 45 = .ok (.aload_n 1, 1) := by decide +kernel
theorem d_C_refusalByItself_46 : decode c_C_refusalByItself 46 = .ok (.getfield 229, 3) := by decide +kernel
theorem d_C_refusalByItself_49 : decode c_C_refusalByItself 49 = .ok (.getfield 233, 3) := by decide +kernel
theorem d_C_refusalByItself_52 : decode c_C_refusalByItself 52 = .ok (.aload_n 2, 1) := by decide +kernel
theorem d_C_refusalByItself_53 : decode c_C_refusalByItself 53 = .ok (.aload_n 3, 1) := by decide +kernel
theorem d_C_refusalByItself_54 : decode c_C_refusalByItself 54 = .ok (.invokevirtual 308, 3) := by decide +kernel
theorem d_C_refusalByItself_57 : decode c_C_refusalByItself 57 = .ok (.if_acmp .eq 5, 3) := by decide +kernel
theorem d_C_refusalByItself_60 : decode c_C_refusalByItself 60 = .ok (.iconst 4, 1) := by decide +kernel
theorem d_C_refusalByItself_61 : decode c_C_refusalByItself 61 = .ok (.ireturn, 1) := by decide +kernel
theorem d_C_refusalByItself_62 : decode c_C_refusalByItself 62 = .ok (.aload_n 0, 1) := by decide +kernel
theorem d_C_refusalByItself_63 : decode c_C_refusalByItself 63 = .ok (.aload 5, 2) := by decide +kernel
theorem d_C_refusalByItself_65 : decode c_C_refusalByItself 65 = .ok (.aload_n 1, 1) := by decide +kernel
theorem d_C_refusalByItself_66 : decode c_C_refusalByItself 66 = .ok (.getfield 229, 3) := by decide +kernel
theorem d_C_refusalByItself_69 : decode c_C_refusalByItself 69 = .ok (.getfield 312, 3) := by decide +kernel
theorem d_C_refusalByItself_72 : decode c_C_refusalByItself 72 = .ok (.aload_n 3, 1) := by decide +kernel
theorem d_C_refusalByItself_73 : decode c_C_refusalByItself 73 = .ok (.getfield 237, 3) := by decide +kernel
theorem d_C_refusalByItself_76 : decode c_C_refusalByItself 76 = .ok (.iload 4, 2) := by decide +kernel
theorem d_C_refusalByItself_78 : decode c_C_refusalByItself 78 = .ok (.invokevirtual 315, 3) := by decide +kernel
theorem d_C_refusalByItself_81 : decode c_C_refusalByItself 81 = .ok (.ifCond .ne 5, 3) := by decide +kernel
theorem d_C_refusalByItself_84 : decode c_C_refusalByItself 84 = .ok (.iconst 5, 1) := by decide +kernel
theorem d_C_refusalByItself_85 : decode c_C_refusalByItself 85 = .ok (.ireturn, 1) := by decide +kernel
theorem d_C_refusalByItself_86 : decode c_C_refusalByItself 86 = .ok (.aload_n 0, 1) := by decide +kernel
theorem d_C_refusalByItself_87 : decode c_C_refusalByItself 87 = .ok (.aload_n 2, 1) := by decide +kernel
theorem d_C_refusalByItself_88 : decode c_C_refusalByItself 88 = .ok (.invokevirtual 319, 3) := by decide +kernel
theorem d_C_refusalByItself_91 : decode c_C_refusalByItself 91 = .ok (.ifCond .eq 8, 3) := by decide +kernel
theorem d_C_refusalByItself_94 : decode c_C_refusalByItself 94 = .ok (.bipush 6, 2) := by decide +kernel
theorem d_C_refusalByItself_96 : decode c_C_refusalByItself 96 = .ok (.goto 4, 3) := by decide +kernel
theorem d_C_refusalByItself_99 : decode c_C_refusalByItself 99 = .ok (.iconst 0, 1) := by decide +kernel
theorem d_C_refusalByItself_100 : decode c_C_refusalByItself 100 = .ok (.ireturn, 1) := by decide +kernel
def t_C_refusalByItself_0 (l : Launch) (s0 : State) (D : va_G) (ca : Nat → ClassId) (e0 d mc ms : Nat) : List (Nat × cr_T) := [(0, cr_aload 2 1),
  (1, cr_getf D kc 2 7 4),
  (4, cr_ifeq 14 7),
  (7, cr_aload 2 8),
  (8, cr_getf D kc 2 8 11),
  (11, cr_goto 18),
  (14, cr_aload 0 15),
  (15, cr_getf D kc 0 5 18),
  (18, cr_astore 5 20),
  (20, cr_aload 5 22),
  (22, cr_aload 1 23),
  (23, cr_iload 4 25),
  (25, cr_calS l (cr_W0 s0) s0.heap.size y_C_refusalOfCard cw_C_refusalOfCard d mc ms 3 7 28),
  (28, cr_istore 6 30),
  (30, cr_iload 6 32),
  (32, cr_ifeq 38 35),
  (35, cr_iload 6 37),
  (37, cr_iret mc ms),
  (38, cr_aload 2 39),
  (39, cr_getf D kc 2 7 42),
  (42, cr_ifne 62 45),
  (45, cr_aload 1 46),
  (46, cr_getf D kc 1 1 49),
  (49, cr_getf D kc 6 1 52),
  (52, cr_aload 2 53),
  (53, cr_aload 3 54),
  (54, cr_calV D kc l (cr_W0 s0) s0.heap.size 2 y_Dr_otherRoom cw_Dr_otherRoom d mc ms 1 7 57),
  (57, cr_aceq 62 60),
  (60, cr_push (.int 4) 61),
  (61, cr_iret mc ms)]
def t_C_refusalByItself_1 (l : Launch) (s0 : State) (D : va_G) (ca : Nat → ClassId) (e0 d mc ms : Nat) : List (Nat × cr_T) := [(62, cr_aload 0 63),
  (63, cr_aload 5 65),
  (65, cr_aload 1 66),
  (66, cr_getf D kc 1 1 69),
  (69, cr_getf D kc 6 0 72),
  (72, cr_aload 3 73),
  (73, cr_getf D kc 8 1 76),
  (76, cr_iload 4 78),
  (78, cr_calV D kc l (cr_W0 s0) s0.heap.size 0 y_C_hasRight cw_C_hasRight d mc ms 4 7 81),
  (81, cr_ifne 86 84),
  (84, cr_push (.int 5) 85),
  (85, cr_iret mc ms),
  (86, cr_aload 0 87),
  (87, cr_aload 2 88),
  (88, cr_calV D kc l (cr_W0 s0) s0.heap.size 0 y_C_isAirlockOpen cw_C_isAirlockOpen d mc ms 1 7 91),
  (91, cr_ifeq 99 94),
  (94, cr_push (.int 6) 96),
  (96, cr_goto 100),
  (99, cr_push (.int 0) 100),
  (100, cr_iret mc ms)]
def t_C_refusalByItself (l : Launch) (s0 : State) (D : va_G) (ca : Nat → ClassId) (e0 d mc ms : Nat) : List (Nat × cr_T) := t_C_refusalByItself_0 l s0 D ca e0 d mc ms ++ (t_C_refusalByItself_1 l s0 D ca e0 d mc ms)
set_option maxHeartbeats 4000000 in
set_option maxRecDepth 20000 in
theorem s_C_refusalByItself_0 {p : Program} {l : Launch} {e : Env} {R : Room} {s : State} {m : MethodId} {args : Array Value} {below : List Frame} {meth : Method} {c : Code} {s0 : State} {D : va_G} {ca : Nat → ClassId} {e0 d mc ms : Nat} {Q : cr_Q} (hl : l.flags = flags0) (Z : cr_Z0 s0 D ca e0) (C : cr_C p R s m meth c (cr_W0 s0) s0.heap.size y_C_refusalByItself c_C_refusalByItself 7 (Option.some FieldType.int) d mc ms) (hem : c.exceptionTable.toList = []) : ∀ x ∈ t_C_refusalByItself_0 l s0 D ca e0 d mc ms, cr_Snd p l e R s m args below meth c s0.heap.size mc ms Q x.1 x.2 := by
  obtain ⟨hx, hb, hml, hown, hr, hlk, hnm, hU, hlo, hR⟩ := C
  have hK := cr_Z0K Z hU
  have hRc : R.cells = mc := by rw [hR]; rfl
  have hRs : R.slots = ms := by rw [hR]; rfl
  unfold t_C_refusalByItself_0
  refine cr_cons (cr_aload_n_ok hx hb d_C_refusalByItself_0 rfl rfl) ?_
  refine cr_cons (cr_getfN_ok (C := R_Dr) (T := T_Dr) (N := 10) hx hb (k_Dr Z hU args) (fun _ h => h) hown hK rfl (by decide) (cr_w Z w_470 rfl hU args) (fun _ h => h) d_C_refusalByItself_1 rfl) ?_
  refine cr_cons (cr_ifeq_ok hx hb d_C_refusalByItself_4 (by decide) rfl) ?_
  refine cr_cons (cr_aload_n_ok hx hb d_C_refusalByItself_7 rfl rfl) ?_
  refine cr_cons (cr_getfN_ok (C := R_Dr) (T := T_Dr) (N := 10) hx hb (k_Dr Z hU args) (fun _ h => h) hown hK rfl (by decide) (cr_w Z w_472 rfl hU args) (fun _ h => h) d_C_refusalByItself_8 rfl) ?_
  refine cr_cons (cr_goto_ok hx hb d_C_refusalByItself_11 (by decide)) ?_
  refine cr_cons (cr_aload_n_ok hx hb d_C_refusalByItself_14 rfl rfl) ?_
  refine cr_cons (cr_getf_ok (C := R_C) (T := T_C) (N := 10) hx hb (k_C Z hU args) (fun _ h => h) hown hK rfl (by decide) (cr_w Z w_141 rfl hU args) (fun _ h => h) d_C_refusalByItself_15 rfl) ?_
  refine cr_cons (cr_astore_ok hx hb d_C_refusalByItself_18 rfl) ?_
  refine cr_cons (cr_aload_ok hx hb d_C_refusalByItself_20 rfl) ?_
  refine cr_cons (cr_aload_n_ok hx hb d_C_refusalByItself_22 rfl rfl) ?_
  refine cr_cons (cr_iload_ok hx hb d_C_refusalByItself_23 rfl) ?_
  refine cr_cons (cr_calS_ok hx hb hml hown hlk hU hlo hR (cr_W0_st s0) (by rw [hem]; exact fun _ h => absurd h List.not_mem_nil) (u_C_refusalOfCard Z) (Or.inl (cr_w Z w_684 rfl hU args)) (cr_w Z w_685 rfl hU args) (by decide) (by decide +kernel) (by decide) d_C_refusalByItself_25 rfl) ?_
  refine cr_cons (cr_istore_ok hx hb d_C_refusalByItself_28 rfl) ?_
  refine cr_cons (cr_iload_ok hx hb d_C_refusalByItself_30 rfl) ?_
  refine cr_cons (cr_ifeq_ok hx hb d_C_refusalByItself_32 (by decide) rfl) ?_
  refine cr_cons (cr_iload_ok hx hb d_C_refusalByItself_35 rfl) ?_
  refine cr_cons (cr_iret_ok hx hb hr hlk d_C_refusalByItself_37) ?_
  refine cr_cons (cr_aload_n_ok hx hb d_C_refusalByItself_38 rfl rfl) ?_
  refine cr_cons (cr_getfN_ok (C := R_Dr) (T := T_Dr) (N := 10) hx hb (k_Dr Z hU args) (fun _ h => h) hown hK rfl (by decide) (cr_w Z w_470 rfl hU args) (fun _ h => h) d_C_refusalByItself_39 rfl) ?_
  refine cr_cons (cr_ifne_ok hx hb d_C_refusalByItself_42 (by decide) rfl) ?_
  refine cr_cons (cr_aload_n_ok hx hb d_C_refusalByItself_45 rfl rfl) ?_
  refine cr_cons (cr_getfN_ok (C := R_Cd) (T := T_Cd) (N := 3) hx hb (k_Cd Z hU args) (fun _ h => h) hown hK rfl (by decide) (cr_w Z w_560 rfl hU args) (fun _ h => h) d_C_refusalByItself_46 rfl) ?_
  refine cr_cons (cr_getfN_ok (C := R_Pe) (T := T_Pe) (N := 2) hx hb (k_Pe Z hU args) (fun _ h => h) hown hK rfl (by decide) (cr_w Z w_527 rfl hU args) (fun _ h => h) d_C_refusalByItself_49 rfl) ?_
  refine cr_cons (cr_aload_n_ok hx hb d_C_refusalByItself_52 rfl rfl) ?_
  refine cr_cons (cr_aload_n_ok hx hb d_C_refusalByItself_53 rfl rfl) ?_
  refine cr_cons (cr_calV_ok (C := R_Dr) (Tf := T_Dr) (N := 10) hx hb hml hown hlk hU hlo hR (cr_W0_st s0) (by rw [hem]; exact fun _ h => absurd h List.not_mem_nil) hK rfl (u_Dr_otherRoom Z) (Or.inr ⟨_, (cr_w Z w_738 rfl hU args)⟩) (cr_w Z w_740 rfl hU args) (cr_w Z ws_28 rfl hU args) (by decide) (by decide +kernel) (by decide) d_C_refusalByItself_54 rfl) ?_
  refine cr_cons (cr_aceq_ok hx hb d_C_refusalByItself_57 (by decide) rfl) ?_
  refine cr_cons (cr_iconst_ok hx hb d_C_refusalByItself_60 (by decide) rfl) ?_
  refine cr_cons (cr_iret_ok hx hb hr hlk d_C_refusalByItself_61) ?_
  exact cr_nil
set_option maxHeartbeats 4000000 in
set_option maxRecDepth 20000 in
theorem s_C_refusalByItself_1 {p : Program} {l : Launch} {e : Env} {R : Room} {s : State} {m : MethodId} {args : Array Value} {below : List Frame} {meth : Method} {c : Code} {s0 : State} {D : va_G} {ca : Nat → ClassId} {e0 d mc ms : Nat} {Q : cr_Q} (hl : l.flags = flags0) (Z : cr_Z0 s0 D ca e0) (C : cr_C p R s m meth c (cr_W0 s0) s0.heap.size y_C_refusalByItself c_C_refusalByItself 7 (Option.some FieldType.int) d mc ms) (hem : c.exceptionTable.toList = []) : ∀ x ∈ t_C_refusalByItself_1 l s0 D ca e0 d mc ms, cr_Snd p l e R s m args below meth c s0.heap.size mc ms Q x.1 x.2 := by
  obtain ⟨hx, hb, hml, hown, hr, hlk, hnm, hU, hlo, hR⟩ := C
  have hK := cr_Z0K Z hU
  have hRc : R.cells = mc := by rw [hR]; rfl
  have hRs : R.slots = ms := by rw [hR]; rfl
  unfold t_C_refusalByItself_1
  refine cr_cons (cr_aload_n_ok hx hb d_C_refusalByItself_62 rfl rfl) ?_
  refine cr_cons (cr_aload_ok hx hb d_C_refusalByItself_63 rfl) ?_
  refine cr_cons (cr_aload_n_ok hx hb d_C_refusalByItself_65 rfl rfl) ?_
  refine cr_cons (cr_getfN_ok (C := R_Cd) (T := T_Cd) (N := 3) hx hb (k_Cd Z hU args) (fun _ h => h) hown hK rfl (by decide) (cr_w Z w_560 rfl hU args) (fun _ h => h) d_C_refusalByItself_66 rfl) ?_
  refine cr_cons (cr_getfN_ok (C := R_Pe) (T := T_Pe) (N := 2) hx hb (k_Pe Z hU args) (fun _ h => h) hown hK rfl (by decide) (cr_w Z w_525 rfl hU args) (fun _ h => h) d_C_refusalByItself_69 rfl) ?_
  refine cr_cons (cr_aload_n_ok hx hb d_C_refusalByItself_72 rfl rfl) ?_
  refine cr_cons (cr_getfN_ok (C := R_Ro) (T := T_Ro) (N := 2) hx hb (k_Ro Z hU args) (fun _ h => h) hown hK rfl (by decide) (cr_w Z w_359 rfl hU args) (fun _ h => h) d_C_refusalByItself_73 rfl) ?_
  refine cr_cons (cr_iload_ok hx hb d_C_refusalByItself_76 rfl) ?_
  refine cr_cons (cr_calV_ok (C := R_C) (Tf := T_C) (N := 10) hx hb hml hown hlk hU hlo hR (cr_W0_st s0) (by rw [hem]; exact fun _ h => absurd h List.not_mem_nil) hK rfl (u_C_hasRight Z) (Or.inl (cr_w Z w_698 rfl hU args)) (cr_w Z w_700 rfl hU args) (cr_w Z ws_24 rfl hU args) (by decide) (by decide +kernel) (by decide) d_C_refusalByItself_78 rfl) ?_
  refine cr_cons (cr_ifne_ok hx hb d_C_refusalByItself_81 (by decide) rfl) ?_
  refine cr_cons (cr_iconst_ok hx hb d_C_refusalByItself_84 (by decide) rfl) ?_
  refine cr_cons (cr_iret_ok hx hb hr hlk d_C_refusalByItself_85) ?_
  refine cr_cons (cr_aload_n_ok hx hb d_C_refusalByItself_86 rfl rfl) ?_
  refine cr_cons (cr_aload_n_ok hx hb d_C_refusalByItself_87 rfl rfl) ?_
  refine cr_cons (cr_calV_ok (C := R_C) (Tf := T_C) (N := 10) hx hb hml hown hlk hU hlo hR (cr_W0_st s0) (by rw [hem]; exact fun _ h => absurd h List.not_mem_nil) hK rfl (u_C_isAirlockOpen Z) (Or.inl (cr_w Z w_742 rfl hU args)) (cr_w Z w_744 rfl hU args) (cr_w Z ws_29 rfl hU args) (by decide) (by decide +kernel) (by decide) d_C_refusalByItself_88 rfl) ?_
  refine cr_cons (cr_ifeq_ok hx hb d_C_refusalByItself_91 (by decide) rfl) ?_
  refine cr_cons (cr_bipush_ok hx hb d_C_refusalByItself_94 (by decide) rfl) ?_
  refine cr_cons (cr_goto_ok hx hb d_C_refusalByItself_96 (by decide)) ?_
  refine cr_cons (cr_iconst_ok hx hb d_C_refusalByItself_99 (by decide) rfl) ?_
  refine cr_cons (cr_iret_ok hx hb hr hlk d_C_refusalByItself_100) ?_
  exact cr_nil
theorem s_C_refusalByItself {p : Program} {l : Launch} {e : Env} {R : Room} {s : State} {m : MethodId} {args : Array Value} {below : List Frame} {meth : Method} {c : Code} {s0 : State} {D : va_G} {ca : Nat → ClassId} {e0 d mc ms : Nat} {Q : cr_Q} (hl : l.flags = flags0) (Z : cr_Z0 s0 D ca e0) (C : cr_C p R s m meth c (cr_W0 s0) s0.heap.size y_C_refusalByItself c_C_refusalByItself 7 (Option.some FieldType.int) d mc ms) (hem : c.exceptionTable.toList = []) : ∀ x ∈ t_C_refusalByItself l s0 D ca e0 d mc ms, cr_Snd p l e R s m args below meth c s0.heap.size mc ms Q x.1 x.2 := cr_app (s_C_refusalByItself_0 hl Z C hem) (s_C_refusalByItself_1 hl Z C hem)
theorem d_C_isAirlockOpen_0 : decode c_C_isAirlockOpen 0 = .ok (.iconst 0, 1) := by decide +kernel
theorem d_C_isAirlockOpen_1 : decode c_C_isAirlockOpen 1 = .ok (.istore_n 2, 1) := by decide +kernel
theorem d_C_isAirlockOpen_2 : decode c_C_isAirlockOpen 2 = .ok (.iload_n 2, 1) := by decide +kernel
theorem d_C_isAirlockOpen_3 : decode c_C_isAirlockOpen 3 = .ok (.aload_n 0, 1) := by decide +kernel
theorem d_C_isAirlockOpen_4 : decode c_C_isAirlockOpen 4 = .ok (.getfield 16, 3) := by decide +kernel
theorem d_C_isAirlockOpen_7 : decode c_C_isAirlockOpen 7 = .ok (.invokeinterface 64 1, 5) := by decide +kernel
theorem d_C_isAirlockOpen_12 : decode c_C_isAirlockOpen 12 = .ok (.if_icmp .ge 40, 3) := by decide +kernel
theorem d_C_isAirlockOpen_15 : decode c_C_isAirlockOpen 15 = .ok (.aload_n 0, 1) := by decide +kernel
theorem d_C_isAirlockOpen_16 : decode c_C_isAirlockOpen 16 = .ok (.getfield 16, 3) := by decide +kernel
theorem d_C_isAirlockOpen_19 : decode c_C_isAirlockOpen 19 = .ok (.iload_n 2, 1) := by decide +kernel
theorem d_C_isAirlockOpen_20 : decode c_C_isAirlockOpen 20 = .ok (.invokeinterface 119 2, 5) := by decide +kernel
theorem d_C_isAirlockOpen_25 : decode c_C_isAirlockOpen 25 = .ok (.checkcast 100, 3) := by decide +kernel
theorem d_C_isAirlockOpen_28 : decode c_C_isAirlockOpen 28 = .ok (.astore_n 3, 1) := by decide +kernel
theorem d_C_isAirlockOpen_29 : decode c_C_isAirlockOpen 29 = .ok (.aload_n 3, 1) := by decide +kernel
theorem d_C_isAirlockOpen_30 : decode c_C_isAirlockOpen 30 = .ok (.getfield 194, 3) := by decide +kernel
theorem d_C_isAirlockOpen_33 : decode c_C_isAirlockOpen 33 = .ok (.ifCond .eq 13, 3) := by decide +kernel
theorem d_C_isAirlockOpen_36 : decode c_C_isAirlockOpen 36 = .ok (.aload_n 1, 1) := by decide +kernel
theorem d_C_isAirlockOpen_37 : decode c_C_isAirlockOpen 37 = .ok (.aload_n 3, 1) := by decide +kernel
theorem d_C_isAirlockOpen_38 : decode c_C_isAirlockOpen 38 = .ok (.invokevirtual 180, 3) := by decide +kernel
theorem d_C_isAirlockOpen_41 : decode c_C_isAirlockOpen 41 = .ok (.ifCond .eq 5, 3) := by decide +kernel
theorem d_C_isAirlockOpen_44 : decode c_C_isAirlockOpen 44 = .ok (.iconst 1, 1) := by decide +kernel
theorem d_C_isAirlockOpen_45 : decode c_C_isAirlockOpen 45 = .ok (.ireturn, 1) := by decide +kernel
theorem d_C_isAirlockOpen_46 : decode c_C_isAirlockOpen 46 = .ok (.iinc 2 1, 3) := by decide +kernel
theorem d_C_isAirlockOpen_49 : decode c_C_isAirlockOpen 49 = .ok (.goto (-47), 3) := by decide +kernel
theorem d_C_isAirlockOpen_52 : decode c_C_isAirlockOpen 52 = .ok (.iconst 0, 1) := by decide +kernel
theorem d_C_isAirlockOpen_53 : decode c_C_isAirlockOpen 53 = .ok (.ireturn, 1) := by decide +kernel
def t_C_isAirlockOpen_0 (l : Launch) (s0 : State) (D : va_G) (ca : Nat → ClassId) (e0 d mc ms : Nat) : List (Nat × cr_T) := [(0, cr_push (.int 0) 1),
  (1, cr_istore 2 2),
  (2, cr_iload 2 3),
  (3, cr_aload 0 4),
  (4, cr_getf D kc 0 1 7),
  (7, cr_calV D kc l (cr_W0 s0) s0.heap.size 12 y_AL_size cw_AL_size d mc ms 0 4 12),
  (12, cr_icge 52 15),
  (15, cr_aload 0 16),
  (16, cr_getf D kc 0 1 19),
  (19, cr_iload 2 20),
  (20, cr_calV D kc l (cr_W0 s0) s0.heap.size 12 y_AL_get cw_AL_get d mc ms 1 4 25),
  (25, cr_cast D kc 2 28),
  (28, cr_astore 3 29),
  (29, cr_aload 3 30),
  (30, cr_getf D kc 2 4 33),
  (33, cr_ifeq 46 36),
  (36, cr_aload 1 37),
  (37, cr_aload 3 38),
  (38, cr_calV D kc l (cr_W0 s0) s0.heap.size 2 y_Dr_isAirlockWith cw_Dr_isAirlockWith d mc ms 1 4 41),
  (41, cr_ifeq 46 44),
  (44, cr_push (.int 1) 45),
  (45, cr_zret mc ms .boolean),
  (46, cr_iinc 2 1 49),
  (49, cr_goto 2),
  (52, cr_push (.int 0) 53),
  (53, cr_zret mc ms .boolean)]
def t_C_isAirlockOpen (l : Launch) (s0 : State) (D : va_G) (ca : Nat → ClassId) (e0 d mc ms : Nat) : List (Nat × cr_T) := t_C_isAirlockOpen_0 l s0 D ca e0 d mc ms
set_option maxHeartbeats 4000000 in
set_option maxRecDepth 20000 in
theorem s_C_isAirlockOpen_0 {p : Program} {l : Launch} {e : Env} {R : Room} {s : State} {m : MethodId} {args : Array Value} {below : List Frame} {meth : Method} {c : Code} {s0 : State} {D : va_G} {ca : Nat → ClassId} {e0 d mc ms : Nat} {Q : cr_Q} (hl : l.flags = flags0) (Z : cr_Z0 s0 D ca e0) (C : cr_C p R s m meth c (cr_W0 s0) s0.heap.size y_C_isAirlockOpen c_C_isAirlockOpen 4 (Option.some FieldType.boolean) d mc ms) (hem : c.exceptionTable.toList = []) : ∀ x ∈ t_C_isAirlockOpen_0 l s0 D ca e0 d mc ms, cr_Snd p l e R s m args below meth c s0.heap.size mc ms Q x.1 x.2 := by
  obtain ⟨hx, hb, hml, hown, hr, hlk, hnm, hU, hlo, hR⟩ := C
  have hK := cr_Z0K Z hU
  have hRc : R.cells = mc := by rw [hR]; rfl
  have hRs : R.slots = ms := by rw [hR]; rfl
  unfold t_C_isAirlockOpen_0
  refine cr_cons (cr_iconst_ok hx hb d_C_isAirlockOpen_0 (by decide) rfl) ?_
  refine cr_cons (cr_istore_n_ok hx hb d_C_isAirlockOpen_1 rfl rfl) ?_
  refine cr_cons (cr_iload_n_ok hx hb d_C_isAirlockOpen_2 rfl rfl) ?_
  refine cr_cons (cr_aload_n_ok hx hb d_C_isAirlockOpen_3 rfl rfl) ?_
  refine cr_cons (cr_getf_ok (C := R_C) (T := T_C) (N := 10) hx hb (k_C Z hU args) (fun _ h => h) hown hK rfl (by decide) (cr_w Z w_137 rfl hU args) (fun _ h => h) d_C_isAirlockOpen_4 rfl) ?_
  refine cr_cons (cr_calF_ok (C := R_AL) (Tf := T_AL) (N := 3) (x := { cls := "java/util/List", name := "size", desc := "()I" }) hx hb hml hown hlk hU hlo hR (cr_W0_st s0) (by rw [hem]; exact fun _ h => absurd h List.not_mem_nil) hK rfl (u_AL_size Z) (cr_w Z w_197 rfl hU args) (cr_w Z w_199 rfl hU args) (cr_w Z w_198 rfl hU args) (cr_w Z w_201 rfl hU args) (cr_w Z w_203 rfl hU args) (cr_w Z w_204 rfl hU args) (cr_w Z w_202 rfl hU args) (cr_w Z w_200 rfl hU args) (by decide) (by decide +kernel) (by decide) d_C_isAirlockOpen_7 rfl) ?_
  refine cr_cons (cr_icge_ok hx hb d_C_isAirlockOpen_12 (by decide) rfl) ?_
  refine cr_cons (cr_aload_n_ok hx hb d_C_isAirlockOpen_15 rfl rfl) ?_
  refine cr_cons (cr_getf_ok (C := R_C) (T := T_C) (N := 10) hx hb (k_C Z hU args) (fun _ h => h) hown hK rfl (by decide) (cr_w Z w_137 rfl hU args) (fun _ h => h) d_C_isAirlockOpen_16 rfl) ?_
  refine cr_cons (cr_iload_n_ok hx hb d_C_isAirlockOpen_19 rfl rfl) ?_
  refine cr_cons (cr_calF_ok (C := R_AL) (Tf := T_AL) (N := 3) (x := { cls := "java/util/List", name := "get", desc := "(I)Ljava/lang/Object;" }) hx hb hml hown hlk hU hlo hR (cr_W0_st s0) (by rw [hem]; exact fun _ h => absurd h List.not_mem_nil) hK rfl (u_AL_get Z) (cr_w Z w_207 rfl hU args) (cr_w Z w_209 rfl hU args) (cr_w Z w_208 rfl hU args) (cr_w Z w_210 rfl hU args) (cr_w Z w_212 rfl hU args) (cr_w Z w_213 rfl hU args) (cr_w Z w_211 rfl hU args) (cr_w Z w_200 rfl hU args) (by decide) (by decide +kernel) (by decide) d_C_isAirlockOpen_20 rfl) ?_
  refine cr_cons (cr_cast_ok (C := R_Dr) (T := T_Dr) (N := 10) hx hb hown (cr_w Z w_446 rfl hU args) hK rfl rfl d_C_isAirlockOpen_25 rfl) ?_
  refine cr_cons (cr_astore_n_ok hx hb d_C_isAirlockOpen_28 rfl rfl) ?_
  refine cr_cons (cr_aload_n_ok hx hb d_C_isAirlockOpen_29 rfl rfl) ?_
  refine cr_cons (cr_getfN_ok (C := R_Dr) (T := T_Dr) (N := 10) hx hb (k_Dr Z hU args) (fun _ h => h) hown hK rfl (by decide) (cr_w Z w_465 rfl hU args) (fun _ h => h) d_C_isAirlockOpen_30 rfl) ?_
  refine cr_cons (cr_ifeq_ok hx hb d_C_isAirlockOpen_33 (by decide) rfl) ?_
  refine cr_cons (cr_aload_n_ok hx hb d_C_isAirlockOpen_36 rfl rfl) ?_
  refine cr_cons (cr_aload_n_ok hx hb d_C_isAirlockOpen_37 rfl rfl) ?_
  refine cr_cons (cr_calV_ok (C := R_Dr) (Tf := T_Dr) (N := 10) hx hb hml hown hlk hU hlo hR (cr_W0_st s0) (by rw [hem]; exact fun _ h => absurd h List.not_mem_nil) hK rfl (u_Dr_isAirlockWith Z) (Or.inr ⟨_, (cr_w Z w_643 rfl hU args)⟩) (cr_w Z w_645 rfl hU args) (cr_w Z ws_16 rfl hU args) (by decide) (by decide +kernel) (by decide) d_C_isAirlockOpen_38 rfl) ?_
  refine cr_cons (cr_ifeq_ok hx hb d_C_isAirlockOpen_41 (by decide) rfl) ?_
  refine cr_cons (cr_iconst_ok hx hb d_C_isAirlockOpen_44 (by decide) rfl) ?_
  refine cr_cons (cr_zret_ok hx hb hr hlk d_C_isAirlockOpen_45) ?_
  refine cr_cons (cr_iinc_ok hx hb d_C_isAirlockOpen_46 (by decide) rfl) ?_
  refine cr_cons (cr_goto_ok hx hb d_C_isAirlockOpen_49 (by decide)) ?_
  refine cr_cons (cr_iconst_ok hx hb d_C_isAirlockOpen_52 (by decide) rfl) ?_
  refine cr_cons (cr_zret_ok hx hb hr hlk d_C_isAirlockOpen_53) ?_
  exact cr_nil
theorem s_C_isAirlockOpen {p : Program} {l : Launch} {e : Env} {R : Room} {s : State} {m : MethodId} {args : Array Value} {below : List Frame} {meth : Method} {c : Code} {s0 : State} {D : va_G} {ca : Nat → ClassId} {e0 d mc ms : Nat} {Q : cr_Q} (hl : l.flags = flags0) (Z : cr_Z0 s0 D ca e0) (C : cr_C p R s m meth c (cr_W0 s0) s0.heap.size y_C_isAirlockOpen c_C_isAirlockOpen 4 (Option.some FieldType.boolean) d mc ms) (hem : c.exceptionTable.toList = []) : ∀ x ∈ t_C_isAirlockOpen l s0 D ca e0 d mc ms, cr_Snd p l e R s m args below meth c s0.heap.size mc ms Q x.1 x.2 := s_C_isAirlockOpen_0 hl Z C hem
theorem d_C_letIn_0 : decode c_C_letIn 0 = .ok (.aload_n 0, 1) := by decide +kernel
theorem d_C_letIn_1 : decode c_C_letIn 1 = .ok (.getfield 45, 3) := by decide +kernel
theorem d_C_letIn_4 : decode c_C_letIn 4 = .ok (.aload_n 1, 1) := by decide +kernel
theorem d_C_letIn_5 : decode c_C_letIn 5 = .ok (.getfield 229, 3) := by decide +kernel
theorem d_C_letIn_8 : decode c_C_letIn 8 = .ok (.getfield 312, 3) := by decide +kernel
theorem d_C_letIn_11 : decode c_C_letIn 11 = .ok (.aload_n 3, 1) := by decide +kernel
theorem d_C_letIn_12 : decode c_C_letIn 12 = .ok (.getfield 237, 3) := by decide +kernel
theorem d_C_letIn_15 : decode c_C_letIn 15 = .ok (.iload 4, 2) := by decide +kernel
theorem d_C_letIn_17 : decode c_C_letIn 17 = .ok (.sipush 1440, 3) := by decide +kernel
theorem d_C_letIn_20 : decode c_C_letIn 20 = .ok (.irem, 1) := by decide +kernel
theorem d_C_letIn_21 : decode c_C_letIn 21 = .ok (.invokevirtual 343, 3) := by decide +kernel
theorem d_C_letIn_24 : decode c_C_letIn 24 = .ok (.aload_n 2, 1) := by decide +kernel
theorem d_C_letIn_25 : decode c_C_letIn 25 = .ok (.getfield 197, 3) := by decide +kernel
theorem d_C_letIn_28 : decode c_C_letIn 28 = .ok (.ifCond .eq 27, 3) := by decide +kernel
theorem d_C_letIn_31 : decode c_C_letIn 31 = .ok (.aload_n 2, 1) := by decide +kernel
theorem d_C_letIn_32 : decode c_C_letIn 32 = .ok (.getfield 283, 3) := by decide +kernel
theorem d_C_letIn_35 : decode c_C_letIn 35 = .ok (.new 347, 3) := by decide +kernel
theorem d_C_letIn_38 : decode c_C_letIn 38 = .ok (.dup, 1) := by decide +kernel
theorem d_C_letIn_39 : decode c_C_letIn 39 = .ok (.aload_n 1, 1) := by decide +kernel
theorem d_C_letIn_40 : decode c_C_letIn 40 = .ok (.aload_n 3, 1) := by decide +kernel
theorem d_C_letIn_41 : decode c_C_letIn 41 = .ok (.iload 4, 2) := by decide +kernel
theorem d_C_letIn_43 : decode c_C_letIn 43 = .ok (.invokespecial 349, 3) := by decide +kernel
theorem d_C_letIn_46 : decode c_C_letIn 46 = .ok (.invokeinterface 82 2, 5) := by decide +kernel
theorem d_C_letIn_51 : decode c_C_letIn 51 = .ok (.pop, 1) := by decide +kernel
theorem d_C_letIn_52 : decode c_C_letIn 52 = .ok (.goto 11, 3) := by decide +kernel
theorem d_C_letIn_55 : decode c_C_letIn 55 = .ok (.aload_n 1, 1) := by decide +kernel
theorem d_C_letIn_56 : decode c_C_letIn 56 = .ok (.getfield 229, 3) := by decide +kernel
theorem d_C_letIn_59 : decode c_C_letIn 59 = .ok (.aload_n 3, 1) := by decide +kernel
theorem d_C_letIn_60 : decode c_C_letIn 60 = .ok (.putfield 233, 3) := by decide +kernel
theorem d_C_letIn_63 : decode c_C_letIn 63 = .ok (.return_, 1) := by decide +kernel
def t_C_letIn_0 (l : Launch) (s0 : State) (D : va_G) (ca : Nat → ClassId) (e0 d mc ms : Nat) : List (Nat × cr_T) := [(0, cr_aload 0 1),
  (1, cr_getf D kc 0 7 4),
  (4, cr_aload 1 5),
  (5, cr_getf D kc 1 1 8),
  (8, cr_getf D kc 6 0 11),
  (11, cr_aload 3 12),
  (12, cr_getf D kc 8 1 15),
  (15, cr_iload 4 17),
  (17, cr_push (.int 1440) 20),
  (20, cr_irem 21),
  (21, cr_calV D kc l (cr_W0 s0) s0.heap.size 10 y_Us_mark cw_Us_mark d mc ms 3 5 24),
  (24, cr_aload 2 25),
  (25, cr_getf D kc 2 7 28),
  (28, cr_ifeq 55 31),
  (31, cr_aload 2 32),
  (32, cr_getf D kc 2 9 35),
  (35, cr_new D kc s0.heap.size mc ms 9 3 [.null, .null, .int 0] 38),
  (38, cr_dup 39),
  (39, cr_aload 1 40),
  (40, cr_aload 3 41),
  (41, cr_iload 4 43),
  (43, cr_calI l (cr_W0 s0) s0.heap.size y_Rw_init cw_Rw_init d mc ms 3 5 46),
  (46, cr_calV D kc l (cr_W0 s0) s0.heap.size 12 y_AL_add0 cw_AL_add0 d mc ms 1 5 51),
  (51, cr_pop 52),
  (52, cr_goto 63),
  (55, cr_aload 1 56),
  (56, cr_getf D kc 1 1 59),
  (59, cr_aload 3 60),
  (60, cr_putf D kc s0.heap.size 6 1 (.object "CardRights$Room") 63),
  (63, cr_vret mc ms)]
def t_C_letIn (l : Launch) (s0 : State) (D : va_G) (ca : Nat → ClassId) (e0 d mc ms : Nat) : List (Nat × cr_T) := t_C_letIn_0 l s0 D ca e0 d mc ms
set_option maxHeartbeats 4000000 in
set_option maxRecDepth 20000 in
theorem s_C_letIn_0 {p : Program} {l : Launch} {e : Env} {R : Room} {s : State} {m : MethodId} {args : Array Value} {below : List Frame} {meth : Method} {c : Code} {s0 : State} {D : va_G} {ca : Nat → ClassId} {e0 d mc ms : Nat} {Q : cr_Q} (hl : l.flags = flags0) (Z : cr_Z0 s0 D ca e0) (C : cr_C p R s m meth c (cr_W0 s0) s0.heap.size y_C_letIn c_C_letIn 5 (Option.none : Option FieldType) d mc ms) (hem : c.exceptionTable.toList = []) : ∀ x ∈ t_C_letIn_0 l s0 D ca e0 d mc ms, cr_Snd p l e R s m args below meth c s0.heap.size mc ms Q x.1 x.2 := by
  obtain ⟨hx, hb, hml, hown, hr, hlk, hnm, hU, hlo, hR⟩ := C
  have hK := cr_Z0K Z hU
  have hRc : R.cells = mc := by rw [hR]; rfl
  have hRs : R.slots = ms := by rw [hR]; rfl
  unfold t_C_letIn_0
  refine cr_cons (cr_aload_n_ok hx hb d_C_letIn_0 rfl rfl) ?_
  refine cr_cons (cr_getf_ok (C := R_C) (T := T_C) (N := 10) hx hb (k_C Z hU args) (fun _ h => h) hown hK rfl (by decide) (cr_w Z w_143 rfl hU args) (fun _ h => h) d_C_letIn_1 rfl) ?_
  refine cr_cons (cr_aload_n_ok hx hb d_C_letIn_4 rfl rfl) ?_
  refine cr_cons (cr_getfN_ok (C := R_Cd) (T := T_Cd) (N := 3) hx hb (k_Cd Z hU args) (fun _ h => h) hown hK rfl (by decide) (cr_w Z w_560 rfl hU args) (fun _ h => h) d_C_letIn_5 rfl) ?_
  refine cr_cons (cr_getfN_ok (C := R_Pe) (T := T_Pe) (N := 2) hx hb (k_Pe Z hU args) (fun _ h => h) hown hK rfl (by decide) (cr_w Z w_525 rfl hU args) (fun _ h => h) d_C_letIn_8 rfl) ?_
  refine cr_cons (cr_aload_n_ok hx hb d_C_letIn_11 rfl rfl) ?_
  refine cr_cons (cr_getfN_ok (C := R_Ro) (T := T_Ro) (N := 2) hx hb (k_Ro Z hU args) (fun _ h => h) hown hK rfl (by decide) (cr_w Z w_359 rfl hU args) (fun _ h => h) d_C_letIn_12 rfl) ?_
  refine cr_cons (cr_iload_ok hx hb d_C_letIn_15 rfl) ?_
  refine cr_cons (cr_sipush_ok hx hb d_C_letIn_17 (by decide) rfl) ?_
  refine cr_cons (cr_irem_ok hx hb d_C_letIn_20 rfl) ?_
  refine cr_cons (cr_calV_ok (C := R_Us) (Tf := T_Us) (N := 2) hx hb hml hown hlk hU hlo hR (cr_W0_st s0) (by rw [hem]; exact fun _ h => absurd h List.not_mem_nil) hK rfl (u_Us_mark Z) (Or.inr ⟨_, (cr_w Z w_750 rfl hU args)⟩) (cr_w Z w_752 rfl hU args) (cr_w Z ws_31 rfl hU args) (by decide) (by decide +kernel) (by decide) d_C_letIn_21 rfl) ?_
  refine cr_cons (cr_aload_n_ok hx hb d_C_letIn_24 rfl rfl) ?_
  refine cr_cons (cr_getfN_ok (C := R_Dr) (T := T_Dr) (N := 10) hx hb (k_Dr Z hU args) (fun _ h => h) hown hK rfl (by decide) (cr_w Z w_470 rfl hU args) (fun _ h => h) d_C_letIn_25 rfl) ?_
  refine cr_cons (cr_ifeq_ok hx hb d_C_letIn_28 (by decide) rfl) ?_
  refine cr_cons (cr_aload_n_ok hx hb d_C_letIn_31 rfl rfl) ?_
  refine cr_cons (cr_getfN_ok (C := R_Dr) (T := T_Dr) (N := 10) hx hb (k_Dr Z hU args) (fun _ h => h) hown hK rfl (by decide) (cr_w Z w_474 rfl hU args) (fun _ h => h) d_C_letIn_32 rfl) ?_
  refine cr_cons (cr_new_ok (C := R_Rw) (T := T_Rw) (N := 3) tt_Rw hx hb (k_Rw Z hU args) (fun _ h => h) ty_Rw hown (cr_w Z w_679 rfl hU args) (cr_w Z w_754 rfl hU args) (cr_w Z w_26 rfl hU args) hK rfl (by decide +kernel) hlo hRc hRs d_C_letIn_35 rfl) ?_
  refine cr_cons (cr_dup_ok hx hb d_C_letIn_38 rfl) ?_
  refine cr_cons (cr_aload_n_ok hx hb d_C_letIn_39 rfl rfl) ?_
  refine cr_cons (cr_aload_n_ok hx hb d_C_letIn_40 rfl rfl) ?_
  refine cr_cons (cr_iload_ok hx hb d_C_letIn_41 rfl) ?_
  refine cr_cons (cr_calI_ok hx hb hml hown hlk hU hlo hR (cr_W0_st s0) (by rw [hem]; exact fun _ h => absurd h List.not_mem_nil) (u_Rw_init Z) (Or.inr ⟨_, (cr_w Z w_755 rfl hU args)⟩) (cr_w Z w_756 rfl hU args) rfl (by decide) (by decide +kernel) (by decide) d_C_letIn_43 rfl) ?_
  refine cr_cons (cr_calF_ok (C := R_AL) (Tf := T_AL) (N := 3) (x := { cls := "java/util/List", name := "add", desc := "(Ljava/lang/Object;)Z" }) hx hb hml hown hlk hU hlo hR (cr_W0_st s0) (by rw [hem]; exact fun _ h => absurd h List.not_mem_nil) hK rfl (u_AL_add0 Z) (cr_w Z w_366 rfl hU args) (cr_w Z w_368 rfl hU args) (cr_w Z w_367 rfl hU args) (cr_w Z w_369 rfl hU args) (cr_w Z w_371 rfl hU args) (cr_w Z w_372 rfl hU args) (cr_w Z w_370 rfl hU args) (cr_w Z w_200 rfl hU args) (by decide) (by decide +kernel) (by decide) d_C_letIn_46 rfl) ?_
  refine cr_cons (cr_pop_ok hx hb d_C_letIn_51 rfl) ?_
  refine cr_cons (cr_goto_ok hx hb d_C_letIn_52 (by decide)) ?_
  refine cr_cons (cr_aload_n_ok hx hb d_C_letIn_55 rfl rfl) ?_
  refine cr_cons (cr_getfN_ok (C := R_Cd) (T := T_Cd) (N := 3) hx hb (k_Cd Z hU args) (fun _ h => h) hown hK rfl (by decide) (cr_w Z w_560 rfl hU args) (fun _ h => h) d_C_letIn_56 rfl) ?_
  refine cr_cons (cr_aload_n_ok hx hb d_C_letIn_59 rfl rfl) ?_
  refine cr_cons (cr_putf_ok (C := R_Pe) (T := T_Pe) (N := 2) tt_Pe hx hb (k_Pe Z hU args) (fun _ h => h) ty_Pe nm_Pe hown hK rfl (by decide) (Or.inr ⟨_, (cr_w Z w_527 rfl hU args)⟩) (fun _ h => h) rfl (by decide +kernel) d_C_letIn_60 rfl) ?_
  refine cr_cons (cr_vret_ok hx hb hr hlk d_C_letIn_63) ?_
  exact cr_nil
theorem s_C_letIn {p : Program} {l : Launch} {e : Env} {R : Room} {s : State} {m : MethodId} {args : Array Value} {below : List Frame} {meth : Method} {c : Code} {s0 : State} {D : va_G} {ca : Nat → ClassId} {e0 d mc ms : Nat} {Q : cr_Q} (hl : l.flags = flags0) (Z : cr_Z0 s0 D ca e0) (C : cr_C p R s m meth c (cr_W0 s0) s0.heap.size y_C_letIn c_C_letIn 5 (Option.none : Option FieldType) d mc ms) (hem : c.exceptionTable.toList = []) : ∀ x ∈ t_C_letIn l s0 D ca e0 d mc ms, cr_Snd p l e R s m args below meth c s0.heap.size mc ms Q x.1 x.2 := s_C_letIn_0 hl Z C hem
