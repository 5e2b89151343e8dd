theorem d_C_both_0 : decode c_C_both 0 = .ok (.aload_n 0, 1) := by decide +kernel
theorem d_C_both_1 : decode c_C_both 1 = .ok (.iload_n 1, 1) := by decide +kernel
theorem d_C_both_2 : decode c_C_both 2 = .ok (.invokevirtual 163, 3) := by decide +kernel
theorem d_C_both_5 : decode c_C_both 5 = .ok (.astore 6, 2) := by decide +kernel
theorem d_C_both_7 : decode c_C_both 7 = .ok (.aload_n 0, 1) := by decide +kernel
theorem d_C_both_8 : decode c_C_both 8 = .ok (.iload_n 2, 1) := by decide +kernel
theorem d_C_both_9 : decode c_C_both 9 = .ok (.invokevirtual 163, 3) := by decide +kernel
theorem d_C_both_12 : decode c_C_both 12 = .ok (.astore 7, 2) := by decide +kernel
theorem d_C_both_14 : decode c_C_both 14 = .ok (.iload_n 1, 1) := by decide +kernel
theorem d_C_both_15 : decode c_C_both 15 = .ok (.iload_n 2, 1) := by decide +kernel
theorem d_C_both_16 : decode c_C_both 16 = .ok (.if_icmp .ne 13, 3) := by decide +kernel
theorem d_C_both_19 : decode c_C_both 19 = .ok (.new 93, 3) := by decide +kernel
theorem d_C_both_22 : decode c_C_both 22 = .ok (.dup, 1) := by decide +kernel
theorem d_C_both_23 : decode c_C_both 23 = .ok (.ldc 227, 2) := by decide +kernel
theorem d_C_both_25 : decode c_C_both 25 = .ok (.invokespecial 97, 3) := by decide +kernel
theorem d_C_both_28 : decode c_C_both 28 = .ok (.athrow, 1) := by decide +kernel
theorem d_C_both_29 : decode c_C_both 29 = .ok (.aload_n 0, 1) := by decide +kernel
theorem d_C_both_30 : decode c_C_both 30 = .ok (.iload_n 3, 1) := by decide +kernel
theorem d_C_both_31 : decode c_C_both 31 = .ok (.invokevirtual 170, 3) := by decide +kernel
theorem d_C_both_34 : decode c_C_both 34 = .ok (.astore 8, 2) := by decide +kernel
theorem d_C_both_36 : decode c_C_both 36 = .ok (.aload 8, 2) := by decide +kernel
theorem d_C_both_38 : decode c_C_both 38 = .ok (.iload 4, 2) := by decide +kernel
theorem d_C_both_40 : decode c_C_both 40 = .ok (.invokestatic 211, 3) := by decide +kernel
theorem d_C_both_43 : decode c_C_both 43 = .ok (.astore 9, 2) := by decide +kernel
theorem d_C_both_45 : decode c_C_both 45 = .ok (.aload_n 0, 1) := by decide +kernel
theorem d_C_both_46 : decode c_C_both 46 = .ok (.iload 5, 2) := by decide +kernel
theorem d_C_both_48 : decode c_C_both 48 = .ok (.invokevirtual 188, 3) := by decide +kernel
theorem d_C_both_51 : decode c_C_both 51 = .ok (.aload 8, 2) := by decide +kernel
theorem d_C_both_53 : decode c_C_both 53 = .ok (.iconst 2, 1) := by decide +kernel
theorem d_C_both_54 : decode c_C_both 54 = .ok (.invokestatic 215, 3) := by decide +kernel
theorem d_C_both_57 : decode c_C_both 57 = .ok (.aload_n 0, 1) := by decide +kernel
theorem d_C_both_58 : decode c_C_both 58 = .ok (.iload 5, 2) := by decide +kernel
theorem d_C_both_60 : decode c_C_both 60 = .ok (.putfield 56, 3) := by decide +kernel
theorem d_C_both_63 : decode c_C_both 63 = .ok (.aload_n 0, 1) := by decide +kernel
theorem d_C_both_64 : decode c_C_both 64 = .ok (.aload 6, 2) := by decide +kernel
theorem d_C_both_66 : decode c_C_both 66 = .ok (.aload 8, 2) := by decide +kernel
theorem d_C_both_68 : decode c_C_both 68 = .ok (.aload 9, 2) := by decide +kernel
theorem d_C_both_70 : decode c_C_both 70 = .ok (.iload 5, 2) := by decide +kernel
theorem d_C_both_72 : decode c_C_both 72 = .ok (.invokevirtual 219, 3) := by decide +kernel
theorem d_C_both_75 : decode c_C_both 75 = .ok (.istore 10, 2) := by decide +kernel
theorem d_C_both_77 : decode c_C_both 77 = .ok (.iload 10, 2) := by decide +kernel
theorem d_C_both_79 : decode c_C_both 79 = .ok (.ifCond .ne 17, 3) := by decide +kernel
theorem d_C_both_82 : decode c_C_both 82 = .ok (.aload_n 0, 1) := by decide +kernel
theorem d_C_both_83 : decode c_C_both 83 = .ok (.aload 7, 2) := by decide +kernel
theorem d_C_both_85 : decode c_C_both 85 = .ok (.aload 8, 2) := by decide +kernel
theorem d_C_both_87 : decode c_C_both 87 = .ok (.aload 9, 2) := by decide +kernel
theorem d_C_both_89 : decode c_C_both 89 = .ok (.iload 5, 2) := by decide +kernel
theorem d_C_both_91 : decode c_C_both 91 = .ok (.invokevirtual 219, 3) := by decide +kernel
theorem d_C_both_94 : decode c_C_both 94 = .ok (.istore 10, 2) := by decide +kernel
theorem d_C_both_96 : decode c_C_both 96 = .ok (.iload 10, 2) := by decide +kernel
theorem d_C_both_98 : decode c_C_both 98 = .ok (.ifCond .ne 20, 3) := by decide +kernel
theorem d_C_both_101 : decode c_C_both 101 = .ok (.aload 6, 2) := by decide +kernel
theorem d_C_both_103 : decode c_C_both 103 = .ok (.getfield 229, 3) := by decide +kernel
theorem d_C_both_106 : decode c_C_both 106 = .ok (.aload 7, 2) := by decide +kernel
theorem d_C_both_108 : decode c_C_both 108 = .ok (.getfield 229, 3) := by decide +kernel
theorem d_C_both_111 : decode c_C_both 111 = .ok (.if_acmp .ne 7, 3) := by decide +kernel
theorem d_C_both_114 : decode c_C_both 114 = .ok (.bipush 8, 2) := by decide +kernel
theorem d_C_both_116 : decode c_C_both 116 = .ok (.istore 10, 2) := by decide +kernel
theorem d_C_both_118 : decode c_C_both 118 = .ok (.iload 10, 2) := by decide +kernel
theorem d_C_both_120 : decode c_C_both 120 = .ok (.ifCond .ne 27, 3) := by decide +kernel
theorem d_C_both_123 : decode c_C_both 123 = .ok (.aload_n 0, 1) := by decide +kernel
theorem d_C_both_124 : decode c_C_both 124 = .ok (.aload 6, 2) := by decide +kernel
theorem d_C_both_126 : decode c_C_both 126 = .ok (.aload 8, 2) := by decide +kernel
theorem d_C_both_128 : decode c_C_both 128 = .ok (.aload 9, 2) := by decide +kernel
theorem d_C_both_130 : decode c_C_both 130 = .ok (.iload 5, 2) := by decide +kernel
theorem d_C_both_132 : decode c_C_both 132 = .ok (.invokevirtual 223, 3) := by decide +kernel
theorem d_C_both_135 : decode c_C_both 135 = .ok (.aload_n 0, 1) := by decide +kernel
theorem d_C_both_136 : decode c_C_both 136 = .ok (.aload 7, 2) := by decide +kernel
theorem d_C_both_138 : decode c_C_both 138 = .ok (.aload 8, 2) := by decide +kernel
theorem d_C_both_140 : decode c_C_both 140 = .ok (.aload 9, 2) := by decide +kernel
theorem d_C_both_142 : decode c_C_both 142 = .ok (.iload 5, 2) := by decide +kernel
theorem d_C_both_144 : decode c_C_both 144 = .ok (.invokevirtual 223, 3) := by decide +kernel
theorem d_C_both_147 : decode c_C_both 147 = .ok (.iload 10, 2) := by decide +kernel
theorem d_C_both_149 : decode c_C_both 149 = .ok (.ireturn, 1) := by decide +kernel
def t_C_both_0 (l : Launch) (s0 : State) (D : va_G) (ca : Nat → ClassId) (e0 d mc ms : Nat) : List (Nat × cr_T) := [(0, cr_aload 0 1),
  (1, cr_iload 1 2),
  (2, cr_calV D kc l (cr_W0 s0) s0.heap.size 0 y_C_cardNumbered cw_C_cardNumbered d mc ms 1 11 5),
  (5, cr_astore 6 7),
  (7, cr_aload 0 8),
  (8, cr_iload 2 9),
  (9, cr_calV D kc l (cr_W0 s0) s0.heap.size 0 y_C_cardNumbered cw_C_cardNumbered d mc ms 1 11 12),
  (12, cr_astore 7 14),
  (14, cr_iload 1 15),
  (15, cr_iload 2 16),
  (16, cr_icne 29 19),
  (19, cr_thr s0 mc ms d 1 11),
  (29, cr_aload 0 30),
  (30, cr_iload 3 31),
  (31, cr_calV D kc l (cr_W0 s0) s0.heap.size 0 y_C_doorNumbered cw_C_doorNumbered d mc ms 1 11 34),
  (34, cr_astore 8 36),
  (36, cr_aload 8 38),
  (38, cr_iload 4 40),
  (40, cr_calS l (cr_W0 s0) s0.heap.size y_C_roomOfDoor cw_C_roomOfDoor d mc ms 2 11 43),
  (43, cr_astore 9 45),
  (45, cr_aload 0 46),
  (46, cr_iload 5 48),
  (48, cr_calV D kc l (cr_W0 s0) s0.heap.size 0 y_C_checkMinuteFromNow cw_C_checkMinuteFromNow d mc ms 1 11 51),
  (51, cr_aload 8 53),
  (53, cr_push (.int 2) 54),
  (54, cr_calS l (cr_W0 s0) s0.heap.size y_C_checkSpaceForRows cw_C_checkSpaceForRows d mc ms 2 11 57),
  (57, cr_aload 0 58),
  (58, cr_iload 5 60),
  (60, cr_putf D kc s0.heap.size 0 9 .int 63),
  (63, cr_aload 0 64)]
def t_C_both_1 (l : Launch) (s0 : State) (D : va_G) (ca : Nat → ClassId) (e0 d mc ms : Nat) : List (Nat × cr_T) := [(64, cr_aload 6 66),
  (66, cr_aload 8 68),
  (68, cr_aload 9 70),
  (70, cr_iload 5 72),
  (72, cr_calV D kc l (cr_W0 s0) s0.heap.size 0 y_C_refusalByItself cw_C_refusalByItself d mc ms 4 11 75),
  (75, cr_istore 10 77),
  (77, cr_iload 10 79),
  (79, cr_ifne 96 82),
  (82, cr_aload 0 83),
  (83, cr_aload 7 85),
  (85, cr_aload 8 87),
  (87, cr_aload 9 89),
  (89, cr_iload 5 91),
  (91, cr_calV D kc l (cr_W0 s0) s0.heap.size 0 y_C_refusalByItself cw_C_refusalByItself d mc ms 4 11 94),
  (94, cr_istore 10 96),
  (96, cr_iload 10 98),
  (98, cr_ifne 118 101),
  (101, cr_aload 6 103),
  (103, cr_getf D kc 1 1 106),
  (106, cr_aload 7 108),
  (108, cr_getf D kc 1 1 111),
  (111, cr_acne 118 114),
  (114, cr_push (.int 8) 116),
  (116, cr_istore 10 118),
  (118, cr_iload 10 120),
  (120, cr_ifne 147 123),
  (123, cr_aload 0 124),
  (124, cr_aload 6 126),
  (126, cr_aload 8 128),
  (128, cr_aload 9 130)]
def t_C_both_2 (l : Launch) (s0 : State) (D : va_G) (ca : Nat → ClassId) (e0 d mc ms : Nat) : List (Nat × cr_T) := [(130, cr_iload 5 132),
  (132, cr_calV D kc l (cr_W0 s0) s0.heap.size 0 y_C_letIn cw_C_letIn d mc ms 4 11 135),
  (135, cr_aload 0 136),
  (136, cr_aload 7 138),
  (138, cr_aload 8 140),
  (140, cr_aload 9 142),
  (142, cr_iload 5 144),
  (144, cr_calV D kc l (cr_W0 s0) s0.heap.size 0 y_C_letIn cw_C_letIn d mc ms 4 11 147),
  (147, cr_iload 10 149),
  (149, cr_iret mc ms)]
def t_C_both (l : Launch) (s0 : State) (D : va_G) (ca : Nat → ClassId) (e0 d mc ms : Nat) : List (Nat × cr_T) := t_C_both_0 l s0 D ca e0 d mc ms ++ (t_C_both_1 l s0 D ca e0 d mc ms ++ (t_C_both_2 l s0 D ca e0 d mc ms))
set_option maxHeartbeats 4000000 in
set_option maxRecDepth 20000 in
theorem s_C_both_0 {p : Program} {l : Launch} {e : Env} {R : Room} {s : State} {m : MethodId} {args : Array Value} {below : List Frame} {meth : Method} {c : Code} {s0 : State} {D : va_G} {ca : Nat → ClassId} {e0 d mc ms : Nat} {Q : cr_Q} (hl : l.flags = flags0) (Z : cr_Z0 s0 D ca e0) (C : cr_C p R s m meth c (cr_W0 s0) s0.heap.size y_C_both c_C_both 11 (Option.some FieldType.int) d mc ms) (hem : c.exceptionTable.toList = []) : ∀ x ∈ t_C_both_0 l s0 D ca e0 d mc ms, cr_Snd p l e R s m args below meth c s0.heap.size mc ms Q x.1 x.2 := by
  obtain ⟨hx, hb, hml, hown, hr, hlk, hnm, hU, hlo, hR⟩ := C
  have hK := cr_Z0K Z hU
  have hRc : R.cells = mc := by rw [hR]; rfl
  have hRs : R.slots = ms := by rw [hR]; rfl
  unfold t_C_both_0
  refine cr_cons (cr_aload_n_ok hx hb d_C_both_0 rfl rfl) ?_
  refine cr_cons (cr_iload_n_ok hx hb d_C_both_1 rfl rfl) ?_
  refine cr_cons (cr_calV_ok (C := R_C) (Tf := T_C) (N := 10) hx hb hml hown hlk hU hlo hR (cr_W0_st s0) (by rw [hem]; exact fun _ h => absurd h List.not_mem_nil) hK rfl (u_C_cardNumbered Z) (Or.inl (cr_w Z w_618 rfl hU args)) (cr_w Z w_620 rfl hU args) (cr_w Z ws_14 rfl hU args) (by decide) (by decide +kernel) (by decide) d_C_both_2 rfl) ?_
  refine cr_cons (cr_astore_ok hx hb d_C_both_5 rfl) ?_
  refine cr_cons (cr_aload_n_ok hx hb d_C_both_7 rfl rfl) ?_
  refine cr_cons (cr_iload_n_ok hx hb d_C_both_8 rfl rfl) ?_
  refine cr_cons (cr_calV_ok (C := R_C) (Tf := T_C) (N := 10) hx hb hml hown hlk hU hlo hR (cr_W0_st s0) (by rw [hem]; exact fun _ h => absurd h List.not_mem_nil) hK rfl (u_C_cardNumbered Z) (Or.inl (cr_w Z w_618 rfl hU args)) (cr_w Z w_620 rfl hU args) (cr_w Z ws_14 rfl hU args) (by decide) (by decide +kernel) (by decide) d_C_both_9 rfl) ?_
  refine cr_cons (cr_astore_ok hx hb d_C_both_12 rfl) ?_
  refine cr_cons (cr_iload_n_ok hx hb d_C_both_14 rfl rfl) ?_
  refine cr_cons (cr_iload_n_ok hx hb d_C_both_15 rfl rfl) ?_
  refine cr_cons (cr_icne_ok hx hb d_C_both_16 (by decide) rfl) ?_
  refine cr_cons (cr_thr_ok (X := "java/lang/IllegalArgumentException") hx hb hml hown hlk hU hR hem Z hl rfl w_267 w_268 w_14 own_C_97 str_227 d_C_both_19 d_C_both_22 d_C_both_23 d_C_both_25 d_C_both_28) ?_
  refine cr_cons (cr_aload_n_ok hx hb d_C_both_29 rfl rfl) ?_
  refine cr_cons (cr_iload_n_ok hx hb d_C_both_30 rfl rfl) ?_
  refine cr_cons (cr_calV_ok (C := R_C) (Tf := T_C) (N := 10) hx hb hml hown hlk hU hlo hR (cr_W0_st s0) (by rw [hem]; exact fun _ h => absurd h List.not_mem_nil) hK rfl (u_C_doorNumbered Z) (Or.inl (cr_w Z w_630 rfl hU args)) (cr_w Z w_632 rfl hU args) (cr_w Z ws_15 rfl hU args) (by decide) (by decide +kernel) (by decide) d_C_both_31 rfl) ?_
  refine cr_cons (cr_astore_ok hx hb d_C_both_34 rfl) ?_
  refine cr_cons (cr_aload_ok hx hb d_C_both_36 rfl) ?_
  refine cr_cons (cr_iload_ok hx hb d_C_both_38 rfl) ?_
  refine cr_cons (cr_calS_ok hx hb hml hown hlk hU hlo hR (cr_W0_st s0) (by rw [hem]; exact fun _ h => absurd h List.not_mem_nil) (u_C_roomOfDoor Z) (Or.inl (cr_w Z w_726 rfl hU args)) (cr_w Z w_727 rfl hU args) (by decide) (by decide +kernel) (by decide) d_C_both_40 rfl) ?_
  refine cr_cons (cr_astore_ok hx hb d_C_both_43 rfl) ?_
  refine cr_cons (cr_aload_n_ok hx hb d_C_both_45 rfl rfl) ?_
  refine cr_cons (cr_iload_ok hx hb d_C_both_46 rfl) ?_
  refine cr_cons (cr_calV_ok (C := R_C) (Tf := T_C) (N := 10) hx hb hml hown hlk hU hlo hR (cr_W0_st s0) (by rw [hem]; exact fun _ h => absurd h List.not_mem_nil) hK rfl (u_C_checkMinuteFromNow Z) (Or.inl (cr_w Z w_658 rfl hU args)) (cr_w Z w_660 rfl hU args) (cr_w Z ws_18 rfl hU args) (by decide) (by decide +kernel) (by decide) d_C_both_48 rfl) ?_
  refine cr_cons (cr_aload_ok hx hb d_C_both_51 rfl) ?_
  refine cr_cons (cr_iconst_ok hx hb d_C_both_53 (by decide) rfl) ?_
  refine cr_cons (cr_calS_ok hx hb hml hown hlk hU hlo hR (cr_W0_st s0) (by rw [hem]; exact fun _ h => absurd h List.not_mem_nil) (u_C_checkSpaceForRows Z) (Or.inl (cr_w Z w_730 rfl hU args)) (cr_w Z w_731 rfl hU args) (by decide) (by decide +kernel) (by decide) d_C_both_54 rfl) ?_
  refine cr_cons (cr_aload_n_ok hx hb d_C_both_57 rfl rfl) ?_
  refine cr_cons (cr_iload_ok hx hb d_C_both_58 rfl) ?_
  refine cr_cons (cr_putf_ok (C := R_C) (T := T_C) (N := 10) tt_C hx hb (k_C Z hU args) (fun _ h => h) ty_C nm_C hown hK rfl (by decide) (Or.inl (cr_w Z w_145 rfl hU args)) (fun _ h => h) rfl (by decide +kernel) d_C_both_60 rfl) ?_
  refine cr_cons (cr_aload_n_ok hx hb d_C_both_63 rfl rfl) ?_
  exact cr_nil
set_option maxHeartbeats 4000000 in
set_option maxRecDepth 20000 in
theorem s_C_both_1 {p : Program} {l : Launch} {e : Env} {R : Room} {s : State} {m : MethodId} {args : Array Value} {below : List Frame} {meth : Method} {c : Code} {s0 : State} {D : va_G} {ca : Nat → ClassId} {e0 d mc ms : Nat} {Q : cr_Q} (hl : l.flags = flags0) (Z : cr_Z0 s0 D ca e0) (C : cr_C p R s m meth c (cr_W0 s0) s0.heap.size y_C_both c_C_both 11 (Option.some FieldType.int) d mc ms) (hem : c.exceptionTable.toList = []) : ∀ x ∈ t_C_both_1 l s0 D ca e0 d mc ms, cr_Snd p l e R s m args below meth c s0.heap.size mc ms Q x.1 x.2 := by
  obtain ⟨hx, hb, hml, hown, hr, hlk, hnm, hU, hlo, hR⟩ := C
  have hK := cr_Z0K Z hU
  have hRc : R.cells = mc := by rw [hR]; rfl
  have hRs : R.slots = ms := by rw [hR]; rfl
  unfold t_C_both_1
  refine cr_cons (cr_aload_ok hx hb d_C_both_64 rfl) ?_
  refine cr_cons (cr_aload_ok hx hb d_C_both_66 rfl) ?_
  refine cr_cons (cr_aload_ok hx hb d_C_both_68 rfl) ?_
  refine cr_cons (cr_iload_ok hx hb d_C_both_70 rfl) ?_
  refine cr_cons (cr_calV_ok (C := R_C) (Tf := T_C) (N := 10) hx hb hml hown hlk hU hlo hR (cr_W0_st s0) (by rw [hem]; exact fun _ h => absurd h List.not_mem_nil) hK rfl (u_C_refusalByItself Z) (Or.inl (cr_w Z w_734 rfl hU args)) (cr_w Z w_736 rfl hU args) (cr_w Z ws_27 rfl hU args) (by decide) (by decide +kernel) (by decide) d_C_both_72 rfl) ?_
  refine cr_cons (cr_istore_ok hx hb d_C_both_75 rfl) ?_
  refine cr_cons (cr_iload_ok hx hb d_C_both_77 rfl) ?_
  refine cr_cons (cr_ifne_ok hx hb d_C_both_79 (by decide) rfl) ?_
  refine cr_cons (cr_aload_n_ok hx hb d_C_both_82 rfl rfl) ?_
  refine cr_cons (cr_aload_ok hx hb d_C_both_83 rfl) ?_
  refine cr_cons (cr_aload_ok hx hb d_C_both_85 rfl) ?_
  refine cr_cons (cr_aload_ok hx hb d_C_both_87 rfl) ?_
  refine cr_cons (cr_iload_ok hx hb d_C_both_89 rfl) ?_
  refine cr_cons (cr_calV_ok (C := R_C) (Tf := T_C) (N := 10) hx hb hml hown hlk hU hlo hR (cr_W0_st s0) (by rw [hem]; exact fun _ h => absurd h List.not_mem_nil) hK rfl (u_C_refusalByItself Z) (Or.inl (cr_w Z w_734 rfl hU args)) (cr_w Z w_736 rfl hU args) (cr_w Z ws_27 rfl hU args) (by decide) (by decide +kernel) (by decide) d_C_both_91 rfl) ?_
  refine cr_cons (cr_istore_ok hx hb d_C_both_94 rfl) ?_
  refine cr_cons (cr_iload_ok hx hb d_C_both_96 rfl) ?_
  refine cr_cons (cr_ifne_ok hx hb d_C_both_98 (by decide) rfl) ?_
  refine cr_cons (cr_aload_ok hx hb d_C_both_101 rfl) ?_
  refine cr_cons (cr_getfN_ok (C := R_Cd) (T := T_Cd) (N := 3) hx hb (k_Cd Z hU args) (fun _ h => h) hown hK rfl (by decide) (cr_w Z w_560 rfl hU args) (fun _ h => h) d_C_both_103 rfl) ?_
  refine cr_cons (cr_aload_ok hx hb d_C_both_106 rfl) ?_
  refine cr_cons (cr_getfN_ok (C := R_Cd) (T := T_Cd) (N := 3) hx hb (k_Cd Z hU args) (fun _ h => h) hown hK rfl (by decide) (cr_w Z w_560 rfl hU args) (fun _ h => h) d_C_both_108 rfl) ?_
  refine cr_cons (cr_acne_ok hx hb d_C_both_111 (by decide) rfl) ?_
  refine cr_cons (cr_bipush_ok hx hb d_C_both_114 (by decide) rfl) ?_
  refine cr_cons (cr_istore_ok hx hb d_C_both_116 rfl) ?_
  refine cr_cons (cr_iload_ok hx hb d_C_both_118 rfl) ?_
  refine cr_cons (cr_ifne_ok hx hb d_C_both_120 (by decide) rfl) ?_
  refine cr_cons (cr_aload_n_ok hx hb d_C_both_123 rfl rfl) ?_
  refine cr_cons (cr_aload_ok hx hb d_C_both_124 rfl) ?_
  refine cr_cons (cr_aload_ok hx hb d_C_both_126 rfl) ?_
  refine cr_cons (cr_aload_ok hx hb d_C_both_128 rfl) ?_
  exact cr_nil
set_option maxHeartbeats 4000000 in
set_option maxRecDepth 20000 in
theorem s_C_both_2 {p : Program} {l : Launch} {e : Env} {R : Room} {s : State} {m : MethodId} {args : Array Value} {below : List Frame} {meth : Method} {c : Code} {s0 : State} {D : va_G} {ca : Nat → ClassId} {e0 d mc ms : Nat} {Q : cr_Q} (hl : l.flags = flags0) (Z : cr_Z0 s0 D ca e0) (C : cr_C p R s m meth c (cr_W0 s0) s0.heap.size y_C_both c_C_both 11 (Option.some FieldType.int) d mc ms) (hem : c.exceptionTable.toList = []) : ∀ x ∈ t_C_both_2 l s0 D ca e0 d mc ms, cr_Snd p l e R s m args below meth c s0.heap.size mc ms Q x.1 x.2 := by
  obtain ⟨hx, hb, hml, hown, hr, hlk, hnm, hU, hlo, hR⟩ := C
  have hK := cr_Z0K Z hU
  have hRc : R.cells = mc := by rw [hR]; rfl
  have hRs : R.slots = ms := by rw [hR]; rfl
  unfold t_C_both_2
  refine cr_cons (cr_iload_ok hx hb d_C_both_130 rfl) ?_
  refine cr_cons (cr_calV_ok (C := R_C) (Tf := T_C) (N := 10) hx hb hml hown hlk hU hlo hR (cr_W0_st s0) (by rw [hem]; exact fun _ h => absurd h List.not_mem_nil) hK rfl (u_C_letIn Z) (Or.inl (cr_w Z w_746 rfl hU args)) (cr_w Z w_748 rfl hU args) (cr_w Z ws_30 rfl hU args) (by decide) (by decide +kernel) (by decide) d_C_both_132 rfl) ?_
  refine cr_cons (cr_aload_n_ok hx hb d_C_both_135 rfl rfl) ?_
  refine cr_cons (cr_aload_ok hx hb d_C_both_136 rfl) ?_
  refine cr_cons (cr_aload_ok hx hb d_C_both_138 rfl) ?_
  refine cr_cons (cr_aload_ok hx hb d_C_both_140 rfl) ?_
  refine cr_cons (cr_iload_ok hx hb d_C_both_142 rfl) ?_
  refine cr_cons (cr_calV_ok (C := R_C) (Tf := T_C) (N := 10) hx hb hml hown hlk hU hlo hR (cr_W0_st s0) (by rw [hem]; exact fun _ h => absurd h List.not_mem_nil) hK rfl (u_C_letIn Z) (Or.inl (cr_w Z w_746 rfl hU args)) (cr_w Z w_748 rfl hU args) (cr_w Z ws_30 rfl hU args) (by decide) (by decide +kernel) (by decide) d_C_both_144 rfl) ?_
  refine cr_cons (cr_iload_ok hx hb d_C_both_147 rfl) ?_
  refine cr_cons (cr_iret_ok hx hb hr hlk d_C_both_149) ?_
  exact cr_nil
theorem s_C_both {p : Program} {l : Launch} {e : Env} {R : Room} {s : State} {m : MethodId} {args : Array Value} {below : List Frame} {meth : Method} {c : Code} {s0 : State} {D : va_G} {ca : Nat → ClassId} {e0 d mc ms : Nat} {Q : cr_Q} (hl : l.flags = flags0) (Z : cr_Z0 s0 D ca e0) (C : cr_C p R s m meth c (cr_W0 s0) s0.heap.size y_C_both c_C_both 11 (Option.some FieldType.int) d mc ms) (hem : c.exceptionTable.toList = []) : ∀ x ∈ t_C_both l s0 D ca e0 d mc ms, cr_Snd p l e R s m args below meth c s0.heap.size mc ms Q x.1 x.2 := cr_app (s_C_both_0 hl Z C hem) (cr_app (s_C_both_1 hl Z C hem) (s_C_both_2 hl Z C hem))
theorem d_C_where_0 : decode c_C_where 0 = .ok (.aload_n 0, 1) := by decide +kernel
theorem d_C_where_1 : decode c_C_where 1 = .ok (.iload_n 1, 1) := by decide +kernel
theorem d_C_where_2 : decode c_C_where 2 = .ok (.invokevirtual 126, 3) := by decide +kernel
theorem d_C_where_5 : decode c_C_where 5 = .ok (.getfield 233, 3) := by decide +kernel
theorem d_C_where_8 : decode c_C_where 8 = .ok (.getfield 86, 3) := by decide +kernel
theorem d_C_where_11 : decode c_C_where 11 = .ok (.ireturn, 1) := by decide +kernel
def t_C_where_0 (l : Launch) (s0 : State) (D : va_G) (ca : Nat → ClassId) (e0 d mc ms : Nat) : List (Nat × cr_T) := [(0, cr_aload 0 1),
  (1, cr_iload 1 2),
  (2, cr_calV D kc l (cr_W0 s0) s0.heap.size 0 y_C_personNumbered cw_C_personNumbered d mc ms 1 2 5),
  (5, cr_getf D kc 6 1 8),
  (8, cr_getf D kc 8 0 11),
  (11, cr_iret mc ms)]
def t_C_where (l : Launch) (s0 : State) (D : va_G) (ca : Nat → ClassId) (e0 d mc ms : Nat) : List (Nat × cr_T) := t_C_where_0 l s0 D ca e0 d mc ms
set_option maxHeartbeats 4000000 in
set_option maxRecDepth 20000 in
theorem s_C_where_0 {p : Program} {l : Launch} {e : Env} {R : Room} {s : State} {m : MethodId} {args : Array Value} {below : List Frame} {meth : Method} {c : Code} {s0 : State} {D : va_G} {ca : Nat → ClassId} {e0 d mc ms : Nat} {Q : cr_Q} (hl : l.flags = flags0) (Z : cr_Z0 s0 D ca e0) (C : cr_C p R s m meth c (cr_W0 s0) s0.heap.size y_C_where c_C_where 2 (Option.some FieldType.int) d mc ms) (hem : c.exceptionTable.toList = []) : ∀ x ∈ t_C_where_0 l s0 D ca e0 d mc ms, cr_Snd p l e R s m args below meth c s0.heap.size mc ms Q x.1 x.2 := by
  obtain ⟨hx, hb, hml, hown, hr, hlk, hnm, hU, hlo, hR⟩ := C
  have hK := cr_Z0K Z hU
  have hRc : R.cells = mc := by rw [hR]; rfl
  have hRs : R.slots = ms := by rw [hR]; rfl
  unfold t_C_where_0
  refine cr_cons (cr_aload_n_ok hx hb d_C_where_0 rfl rfl) ?_
  refine cr_cons (cr_iload_n_ok hx hb d_C_where_1 rfl rfl) ?_
  refine cr_cons (cr_calV_ok (C := R_C) (Tf := T_C) (N := 10) hx hb hml hown hlk hU hlo hR (cr_W0_st s0) (by rw [hem]; exact fun _ h => absurd h List.not_mem_nil) hK rfl (u_C_personNumbered Z) (Or.inl (cr_w Z w_540 rfl hU args)) (cr_w Z w_542 rfl hU args) (cr_w Z ws_13 rfl hU args) (by decide) (by decide +kernel) (by decide) d_C_where_2 rfl) ?_
  refine cr_cons (cr_getfN_ok (C := R_Pe) (T := T_Pe) (N := 2) hx hb (k_Pe Z hU args) (fun _ h => h) hown hK rfl (by decide) (cr_w Z w_527 rfl hU args) (fun _ h => h) d_C_where_5 rfl) ?_
  refine cr_cons (cr_getfN_ok (C := R_Ro) (T := T_Ro) (N := 2) hx hb (k_Ro Z hU args) (fun _ h => h) hown hK rfl (by decide) (cr_w Z w_357 rfl hU args) (fun _ h => h) d_C_where_8 rfl) ?_
  refine cr_cons (cr_iret_ok hx hb hr hlk d_C_where_11) ?_
  exact cr_nil
theorem s_C_where {p : Program} {l : Launch} {e : Env} {R : Room} {s : State} {m : MethodId} {args : Array Value} {below : List Frame} {meth : Method} {c : Code} {s0 : State} {D : va_G} {ca : Nat → ClassId} {e0 d mc ms : Nat} {Q : cr_Q} (hl : l.flags = flags0) (Z : cr_Z0 s0 D ca e0) (C : cr_C p R s m meth c (cr_W0 s0) s0.heap.size y_C_where c_C_where 2 (Option.some FieldType.int) d mc ms) (hem : c.exceptionTable.toList = []) : ∀ x ∈ t_C_where l s0 D ca e0 d mc ms, cr_Snd p l e R s m args below meth c s0.heap.size mc ms Q x.1 x.2 := s_C_where_0 hl Z C hem
theorem d_C_inside_0 : decode c_C_inside 0 = .ok (.iload_n 1, 1) := by decide +kernel
theorem d_C_inside_1 : decode c_C_inside 1 = .ok (.invokestatic 60, 3) := by decide +kernel
theorem d_C_inside_4 : decode c_C_inside 4 = .ok (.iconst 0, 1) := by decide +kernel
theorem d_C_inside_5 : decode c_C_inside 5 = .ok (.istore_n 2, 1) := by decide +kernel
theorem d_C_inside_6 : decode c_C_inside 6 = .ok (.iconst 0, 1) := by decide +kernel
theorem d_C_inside_7 : decode c_C_inside 7 = .ok (.istore_n 3, 1) := by decide +kernel
theorem d_C_inside_8 : decode c_C_inside 8 = .ok (.iload_n 3, 1) := by decide +kernel
theorem d_C_inside_9 : decode c_C_inside 9 = .ok (.aload_n 0, 1) := by decide +kernel
theorem d_C_inside_10 : decode c_C_inside 10 = .ok (.getfield 19, 3) := by decide +kernel
theorem d_C_inside_13 : decode c_C_inside 13 = .ok (.invokeinterface 64 1, 5) := by decide +kernel
theorem d_C_inside_18 : decode c_C_inside 18 = .ok (.if_icmp .ge 35, 3) := by decide +kernel
theorem d_C_inside_21 : decode c_C_inside 21 = .ok (.aload_n 0, 1) := by decide +kernel
theorem d_C_inside_22 : decode c_C_inside 22 = .ok (.getfield 19, 3) := by decide +kernel
theorem d_C_inside_25 : decode c_C_inside 25 = .ok (.iload_n 3, 1) := by decide +kernel
theorem d_C_inside_26 : decode c_C_inside 26 = .ok (.invokeinterface 119 2, 5) := by decide +kernel
theorem d_C_inside_31 : decode c_C_inside 31 = .ok (.checkcast 117, 3) := by decide +kernel
theorem d_C_inside_34 : decode c_C_inside 34 = .ok (.getfield 233, 3) := by decide +kernel
theorem d_C_inside_37 : decode c_C_inside 37 = .ok (.getfield 237, 3) := by decide +kernel
theorem d_C_inside_40 : decode c_C_inside 40 = .ok (.iload_n 1, 1) := by decide +kernel
theorem d_C_inside_41 : decode c_C_inside 41 = .ok (.if_icmp .ne 6, 3) := by decide +kernel
theorem d_C_inside_44 : decode c_C_inside 44 = .ok (.iinc 2 1, 3) := by decide +kernel
theorem d_C_inside_47 : decode c_C_inside 47 = .ok (.iinc 3 1, 3) := by decide +kernel
theorem d_C_inside_50 : decode c_C_inside 50 = .ok (.goto (-42), 3) := by decide +kernel
theorem d_C_inside_53 : decode c_C_inside 53 = .ok (.iload_n 2, 1) := by decide +kernel
theorem d_C_inside_54 : decode c_C_inside 54 = .ok (.ireturn, 1) := by decide +kernel
def t_C_inside_0 (l : Launch) (s0 : State) (D : va_G) (ca : Nat → ClassId) (e0 d mc ms : Nat) : List (Nat × cr_T) := [(0, cr_iload 1 1),
  (1, cr_calS l (cr_W0 s0) s0.heap.size y_C_checkZone cw_C_checkZone d mc ms 1 4 4),
  (4, cr_push (.int 0) 5),
  (5, cr_istore 2 6),
  (6, cr_push (.int 0) 7),
  (7, cr_istore 3 8),
  (8, cr_iload 3 9),
  (9, cr_aload 0 10),
  (10, cr_getf D kc 0 2 13),
  (13, cr_calV D kc l (cr_W0 s0) s0.heap.size 12 y_AL_size cw_AL_size d mc ms 0 4 18),
  (18, cr_icge 53 21),
  (21, cr_aload 0 22),
  (22, cr_getf D kc 0 2 25),
  (25, cr_iload 3 26),
  (26, cr_calV D kc l (cr_W0 s0) s0.heap.size 12 y_AL_get cw_AL_get d mc ms 1 4 31),
  (31, cr_cast D kc 6 34),
  (34, cr_getf D kc 6 1 37),
  (37, cr_getf D kc 8 1 40),
  (40, cr_iload 1 41),
  (41, cr_icne 47 44),
  (44, cr_iinc 2 1 47),
  (47, cr_iinc 3 1 50),
  (50, cr_goto 8),
  (53, cr_iload 2 54),
  (54, cr_iret mc ms)]
def t_C_inside (l : Launch) (s0 : State) (D : va_G) (ca : Nat → ClassId) (e0 d mc ms : Nat) : List (Nat × cr_T) := t_C_inside_0 l s0 D ca e0 d mc ms
set_option maxHeartbeats 4000000 in
set_option maxRecDepth 20000 in
theorem s_C_inside_0 {p : Program} {l : Launch} {e : Env} {R : Room} {s : State} {m : MethodId} {args : Array Value} {below : List Frame} {meth : Method} {c : Code} {s0 : State} {D : va_G} {ca : Nat → ClassId} {e0 d mc ms : Nat} {Q : cr_Q} (hl : l.flags = flags0) (Z : cr_Z0 s0 D ca e0) (C : cr_C p R s m meth c (cr_W0 s0) s0.heap.size y_C_inside c_C_inside 4 (Option.some FieldType.int) d mc ms) (hem : c.exceptionTable.toList = []) : ∀ x ∈ t_C_inside_0 l s0 D ca e0 d mc ms, cr_Snd p l e R s m args below meth c s0.heap.size mc ms Q x.1 x.2 := by
  obtain ⟨hx, hb, hml, hown, hr, hlk, hnm, hU, hlo, hR⟩ := C
  have hK := cr_Z0K Z hU
  have hRc : R.cells = mc := by rw [hR]; rfl
  have hRs : R.slots = ms := by rw [hR]; rfl
  unfold t_C_inside_0
  refine cr_cons (cr_iload_n_ok hx hb d_C_inside_0 rfl rfl) ?_
  refine cr_cons (cr_calS_ok hx hb hml hown hlk hU hlo hR (cr_W0_st s0) (by rw [hem]; exact fun _ h => absurd h List.not_mem_nil) (u_C_checkZone Z) (Or.inl (cr_w Z w_264 rfl hU args)) (cr_w Z w_265 rfl hU args) (by decide) (by decide +kernel) (by decide) d_C_inside_1 rfl) ?_
  refine cr_cons (cr_iconst_ok hx hb d_C_inside_4 (by decide) rfl) ?_
  refine cr_cons (cr_istore_n_ok hx hb d_C_inside_5 rfl rfl) ?_
  refine cr_cons (cr_iconst_ok hx hb d_C_inside_6 (by decide) rfl) ?_
  refine cr_cons (cr_istore_n_ok hx hb d_C_inside_7 rfl rfl) ?_
  refine cr_cons (cr_iload_n_ok hx hb d_C_inside_8 rfl rfl) ?_
  refine cr_cons (cr_aload_n_ok hx hb d_C_inside_9 rfl rfl) ?_
  refine cr_cons (cr_getf_ok (C := R_C) (T := T_C) (N := 10) hx hb (k_C Z hU args) (fun _ h => h) hown hK rfl (by decide) (cr_w Z w_138 rfl hU args) (fun _ h => h) d_C_inside_10 rfl) ?_
  refine cr_cons (cr_calF_ok (C := R_AL) (Tf := T_AL) (N := 3) (x := { cls := "java/util/List", name := "size", desc := "()I" }) hx hb hml hown hlk hU hlo hR (cr_W0_st s0) (by rw [hem]; exact fun _ h => absurd h List.not_mem_nil) hK rfl (u_AL_size Z) (cr_w Z w_197 rfl hU args) (cr_w Z w_199 rfl hU args) (cr_w Z w_198 rfl hU args) (cr_w Z w_201 rfl hU args) (cr_w Z w_203 rfl hU args) (cr_w Z w_204 rfl hU args) (cr_w Z w_202 rfl hU args) (cr_w Z w_200 rfl hU args) (by decide) (by decide +kernel) (by decide) d_C_inside_13 rfl) ?_
  refine cr_cons (cr_icge_ok hx hb d_C_inside_18 (by decide) rfl) ?_
  refine cr_cons (cr_aload_n_ok hx hb d_C_inside_21 rfl rfl) ?_
  refine cr_cons (cr_getf_ok (C := R_C) (T := T_C) (N := 10) hx hb (k_C Z hU args) (fun _ h => h) hown hK rfl (by decide) (cr_w Z w_138 rfl hU args) (fun _ h => h) d_C_inside_22 rfl) ?_
  refine cr_cons (cr_iload_n_ok hx hb d_C_inside_25 rfl rfl) ?_
  refine cr_cons (cr_calF_ok (C := R_AL) (Tf := T_AL) (N := 3) (x := { cls := "java/util/List", name := "get", desc := "(I)Ljava/lang/Object;" }) hx hb hml hown hlk hU hlo hR (cr_W0_st s0) (by rw [hem]; exact fun _ h => absurd h List.not_mem_nil) hK rfl (u_AL_get Z) (cr_w Z w_207 rfl hU args) (cr_w Z w_209 rfl hU args) (cr_w Z w_208 rfl hU args) (cr_w Z w_210 rfl hU args) (cr_w Z w_212 rfl hU args) (cr_w Z w_213 rfl hU args) (cr_w Z w_211 rfl hU args) (cr_w Z w_200 rfl hU args) (by decide) (by decide +kernel) (by decide) d_C_inside_26 rfl) ?_
  refine cr_cons (cr_cast_ok (C := R_Pe) (T := T_Pe) (N := 2) hx hb hown (cr_w Z w_518 rfl hU args) hK rfl rfl d_C_inside_31 rfl) ?_
  refine cr_cons (cr_getfN_ok (C := R_Pe) (T := T_Pe) (N := 2) hx hb (k_Pe Z hU args) (fun _ h => h) hown hK rfl (by decide) (cr_w Z w_527 rfl hU args) (fun _ h => h) d_C_inside_34 rfl) ?_
  refine cr_cons (cr_getfN_ok (C := R_Ro) (T := T_Ro) (N := 2) hx hb (k_Ro Z hU args) (fun _ h => h) hown hK rfl (by decide) (cr_w Z w_359 rfl hU args) (fun _ h => h) d_C_inside_37 rfl) ?_
  refine cr_cons (cr_iload_n_ok hx hb d_C_inside_40 rfl rfl) ?_
  refine cr_cons (cr_icne_ok hx hb d_C_inside_41 (by decide) rfl) ?_
  refine cr_cons (cr_iinc_ok hx hb d_C_inside_44 (by decide) rfl) ?_
  refine cr_cons (cr_iinc_ok hx hb d_C_inside_47 (by decide) rfl) ?_
  refine cr_cons (cr_goto_ok hx hb d_C_inside_50 (by decide)) ?_
  refine cr_cons (cr_iload_n_ok hx hb d_C_inside_53 rfl rfl) ?_
  refine cr_cons (cr_iret_ok hx hb hr hlk d_C_inside_54) ?_
  exact cr_nil
theorem s_C_inside {p : Program} {l : Launch} {e : Env} {R : Room} {s : State} {m : MethodId} {args : Array Value} {below : List Frame} {meth : Method} {c : Code} {s0 : State} {D : va_G} {ca : Nat → ClassId} {e0 d mc ms : Nat} {Q : cr_Q} (hl : l.flags = flags0) (Z : cr_Z0 s0 D ca e0) (C : cr_C p R s m meth c (cr_W0 s0) s0.heap.size y_C_inside c_C_inside 4 (Option.some FieldType.int) d mc ms) (hem : c.exceptionTable.toList = []) : ∀ x ∈ t_C_inside l s0 D ca e0 d mc ms, cr_Snd p l e R s m args below meth c s0.heap.size mc ms Q x.1 x.2 := s_C_inside_0 hl Z C hem
theorem d_C_muster_0 : decode c_C_muster 0 = .ok (.iload_n 1, 1) := by decide +kernel
theorem d_C_muster_1 : decode c_C_muster 1 = .ok (.invokestatic 60, 3) := by decide +kernel
theorem d_C_muster_4 : decode c_C_muster 4 = .ok (.iload_n 2, 1) := by decide +kernel
theorem d_C_muster_5 : decode c_C_muster 5 = .ok (.ifCond .ge 13, 3) := by decide +kernel
theorem d_C_muster_8 : decode c_C_muster 8 = .ok (.new 93, 3) := by decide +kernel
theorem d_C_muster_11 : decode c_C_muster 11 = .ok (.dup, 1) := by decide +kernel
theorem d_C_muster_12 : decode c_C_muster 12 = .ok (.ldc 240, 2) := by decide +kernel
theorem d_C_muster_14 : decode c_C_muster 14 = .ok (.invokespecial 97, 3) := by decide +kernel
theorem d_C_muster_17 : decode c_C_muster 17 = .ok (.athrow, 1) := by decide +kernel
theorem d_C_muster_18 : decode c_C_muster 18 = .ok (.iconst 0, 1) := by decide +kernel
theorem d_C_muster_19 : decode c_C_muster 19 = .ok (.istore_n 3, 1) := by decide +kernel
theorem d_C_muster_20 : decode c_C_muster 20 = .ok (.iconst 0, 1) := by decide +kernel
theorem d_C_muster_21 : decode c_C_muster 21 = .ok (.istore 4, 2) := by decide +kernel
theorem d_C_muster_23 : decode c_C_muster 23 = .ok (.iload 4, 2) := by decide +kernel
theorem d_C_muster_25 : decode c_C_muster 25 = .ok (.aload_n 0, 1) := by decide +kernel
theorem d_C_muster_26 : decode c_C_muster 26 = .ok (.getfield 19, 3) := by decide +kernel
theorem d_C_muster_29 : decode c_C_muster 29 = .ok (.invokeinterface 64 1, 5) := by decide +kernel
theorem d_C_muster_34 : decode c_C_muster 34 = .ok (.if_icmp .ge 44, 3) := by decide +kernel
theorem d_C_muster_37 : decode c_C_muster 37 = .ok (.aload_n 0, 1) := by decide +kernel
theorem d_C_muster_38 : decode c_C_muster 38 = .ok (.getfield 19, 3) := by decide +kernel
theorem d_C_muster_41 : decode c_C_muster 41 = .ok (.iload 4, 2) := by decide +kernel
theorem d_C_muster_43 : decode c_C_muster 43 = .ok (.invokeinterface 119 2, 5) := by decide +kernel
theorem d_C_muster_48 : decode c_C_muster 48 = .ok (.checkcast 117, 3) := by decide +kernel
theorem d_C_muster_51 : decode c_C_muster 51 = .ok (.getfield 233, 3) := by decide +kernel
theorem d_C_muster_54 : decode c_C_muster 54 = .ok (.getfield 237, 3) := by decide +kernel
theorem d_C_muster_57 : decode c_C_muster 57 = .ok (.iload_n 1, 1) := by decide +kernel
theorem d_C_muster_58 : decode c_C_muster 58 = .ok (.if_icmp .ne 14, 3) := by decide +kernel
theorem d_C_muster_61 : decode c_C_muster 61 = .ok (.iload_n 3, 1) := by decide +kernel
theorem d_C_muster_62 : decode c_C_muster 62 = .ok (.iload_n 2, 1) := by decide +kernel
theorem d_C_muster_63 : decode c_C_muster 63 = .ok (.if_icmp .ne 6, 3) := by decide +kernel
theorem d_C_muster_66 : decode c_C_muster 66 = .ok (.iload 4, 2) := by decide +kernel
theorem d_C_muster_68 : decode c_C_muster 68 = .ok (.ireturn, 1) := by decide +kernel
theorem d_C_muster_69 : decode c_C_muster 69 = .ok (.iinc 3 1, 3) := by decide +kernel
theorem d_C_muster_72 : decode c_C_muster 72 = .ok (.iinc 4 1, 3) := by decide +kernel
theorem d_C_muster_75 : decode c_C_muster 75 = .ok (.goto (-52), 3) := by decide +kernel
theorem d_C_muster_78 : decode c_C_muster 78 = .ok (.iconst (-1), 1) := by decide +kernel
theorem d_C_muster_79 : decode c_C_muster 79 = .ok (.ireturn, 1) := by decide +kernel
def t_C_muster_0 (l : Launch) (s0 : State) (D : va_G) (ca : Nat → ClassId) (e0 d mc ms : Nat) : List (Nat × cr_T) := [(0, cr_iload 1 1),
  (1, cr_calS l (cr_W0 s0) s0.heap.size y_C_checkZone cw_C_checkZone d mc ms 1 5 4),
  (4, cr_iload 2 5),
  (5, cr_ifge 18 8),
  (8, cr_thr s0 mc ms d 1 5),
  (18, cr_push (.int 0) 19),
  (19, cr_istore 3 20),
  (20, cr_push (.int 0) 21),
  (21, cr_istore 4 23),
  (23, cr_iload 4 25),
  (25, cr_aload 0 26),
  (26, cr_getf D kc 0 2 29),
  (29, cr_calV D kc l (cr_W0 s0) s0.heap.size 12 y_AL_size cw_AL_size d mc ms 0 5 34),
  (34, cr_icge 78 37),
  (37, cr_aload 0 38),
  (38, cr_getf D kc 0 2 41),
  (41, cr_iload 4 43),
  (43, cr_calV D kc l (cr_W0 s0) s0.heap.size 12 y_AL_get cw_AL_get d mc ms 1 5 48),
  (48, cr_cast D kc 6 51),
  (51, cr_getf D kc 6 1 54),
  (54, cr_getf D kc 8 1 57),
  (57, cr_iload 1 58),
  (58, cr_icne 72 61),
  (61, cr_iload 3 62),
  (62, cr_iload 2 63),
  (63, cr_icne 69 66),
  (66, cr_iload 4 68),
  (68, cr_iret mc ms),
  (69, cr_iinc 3 1 72),
  (72, cr_iinc 4 1 75)]
def t_C_muster_1 (l : Launch) (s0 : State) (D : va_G) (ca : Nat → ClassId) (e0 d mc ms : Nat) : List (Nat × cr_T) := [(75, cr_goto 23),
  (78, cr_push (.int (-1)) 79),
  (79, cr_iret mc ms)]
def t_C_muster (l : Launch) (s0 : State) (D : va_G) (ca : Nat → ClassId) (e0 d mc ms : Nat) : List (Nat × cr_T) := t_C_muster_0 l s0 D ca e0 d mc ms ++ (t_C_muster_1 l s0 D ca e0 d mc ms)
set_option maxHeartbeats 4000000 in
set_option maxRecDepth 20000 in
theorem s_C_muster_0 {p : Program} {l : Launch} {e : Env} {R : Room} {s : State} {m : MethodId} {args : Array Value} {below : List Frame} {meth : Method} {c : Code} {s0 : State} {D : va_G} {ca : Nat → ClassId} {e0 d mc ms : Nat} {Q : cr_Q} (hl : l.flags = flags0) (Z : cr_Z0 s0 D ca e0) (C : cr_C p R s m meth c (cr_W0 s0) s0.heap.size y_C_muster c_C_muster 5 (Option.some FieldType.int) d mc ms) (hem : c.exceptionTable.toList = []) : ∀ x ∈ t_C_muster_0 l s0 D ca e0 d mc ms, cr_Snd p l e R s m args below meth c s0.heap.size mc ms Q x.1 x.2 := by
  obtain ⟨hx, hb, hml, hown, hr, hlk, hnm, hU, hlo, hR⟩ := C
  have hK := cr_Z0K Z hU
  have hRc : R.cells = mc := by rw [hR]; rfl
  have hRs : R.slots = ms := by rw [hR]; rfl
  unfold t_C_muster_0
  refine cr_cons (cr_iload_n_ok hx hb d_C_muster_0 rfl rfl) ?_
  refine cr_cons (cr_calS_ok hx hb hml hown hlk hU hlo hR (cr_W0_st s0) (by rw [hem]; exact fun _ h => absurd h List.not_mem_nil) (u_C_checkZone Z) (Or.inl (cr_w Z w_264 rfl hU args)) (cr_w Z w_265 rfl hU args) (by decide) (by decide +kernel) (by decide) d_C_muster_1 rfl) ?_
  refine cr_cons (cr_iload_n_ok hx hb d_C_muster_4 rfl rfl) ?_
  refine cr_cons (cr_ifge_ok hx hb d_C_muster_5 (by decide) rfl) ?_
  refine cr_cons (cr_thr_ok (X := "java/lang/IllegalArgumentException") hx hb hml hown hlk hU hR hem Z hl rfl w_267 w_268 w_14 own_C_97 str_240 d_C_muster_8 d_C_muster_11 d_C_muster_12 d_C_muster_14 d_C_muster_17) ?_
  refine cr_cons (cr_iconst_ok hx hb d_C_muster_18 (by decide) rfl) ?_
  refine cr_cons (cr_istore_n_ok hx hb d_C_muster_19 rfl rfl) ?_
  refine cr_cons (cr_iconst_ok hx hb d_C_muster_20 (by decide) rfl) ?_
  refine cr_cons (cr_istore_ok hx hb d_C_muster_21 rfl) ?_
  refine cr_cons (cr_iload_ok hx hb d_C_muster_23 rfl) ?_
  refine cr_cons (cr_aload_n_ok hx hb d_C_muster_25 rfl rfl) ?_
  refine cr_cons (cr_getf_ok (C := R_C) (T := T_C) (N := 10) hx hb (k_C Z hU args) (fun _ h => h) hown hK rfl (by decide) (cr_w Z w_138 rfl hU args) (fun _ h => h) d_C_muster_26 rfl) ?_
  refine cr_cons (cr_calF_ok (C := R_AL) (Tf := T_AL) (N := 3) (x := { cls := "java/util/List", name := "size", desc := "()I" }) hx hb hml hown hlk hU hlo hR (cr_W0_st s0) (by rw [hem]; exact fun _ h => absurd h List.not_mem_nil) hK rfl (u_AL_size Z) (cr_w Z w_197 rfl hU args) (cr_w Z w_199 rfl hU args) (cr_w Z w_198 rfl hU args) (cr_w Z w_201 rfl hU args) (cr_w Z w_203 rfl hU args) (cr_w Z w_204 rfl hU args) (cr_w Z w_202 rfl hU args) (cr_w Z w_200 rfl hU args) (by decide) (by decide +kernel) (by decide) d_C_muster_29 rfl) ?_
  refine cr_cons (cr_icge_ok hx hb d_C_muster_34 (by decide) rfl) ?_
  refine cr_cons (cr_aload_n_ok hx hb d_C_muster_37 rfl rfl) ?_
  refine cr_cons (cr_getf_ok (C := R_C) (T := T_C) (N := 10) hx hb (k_C Z hU args) (fun _ h => h) hown hK rfl (by decide) (cr_w Z w_138 rfl hU args) (fun _ h => h) d_C_muster_38 rfl) ?_
  refine cr_cons (cr_iload_ok hx hb d_C_muster_41 rfl) ?_
  refine cr_cons (cr_calF_ok (C := R_AL) (Tf := T_AL) (N := 3) (x := { cls := "java/util/List", name := "get", desc := "(I)Ljava/lang/Object;" }) hx hb hml hown hlk hU hlo hR (cr_W0_st s0) (by rw [hem]; exact fun _ h => absurd h List.not_mem_nil) hK rfl (u_AL_get Z) (cr_w Z w_207 rfl hU args) (cr_w Z w_209 rfl hU args) (cr_w Z w_208 rfl hU args) (cr_w Z w_210 rfl hU args) (cr_w Z w_212 rfl hU args) (cr_w Z w_213 rfl hU args) (cr_w Z w_211 rfl hU args) (cr_w Z w_200 rfl hU args) (by decide) (by decide +kernel) (by decide) d_C_muster_43 rfl) ?_
  refine cr_cons (cr_cast_ok (C := R_Pe) (T := T_Pe) (N := 2) hx hb hown (cr_w Z w_518 rfl hU args) hK rfl rfl d_C_muster_48 rfl) ?_
  refine cr_cons (cr_getfN_ok (C := R_Pe) (T := T_Pe) (N := 2) hx hb (k_Pe Z hU args) (fun _ h => h) hown hK rfl (by decide) (cr_w Z w_527 rfl hU args) (fun _ h => h) d_C_muster_51 rfl) ?_
  refine cr_cons (cr_getfN_ok (C := R_Ro) (T := T_Ro) (N := 2) hx hb (k_Ro Z hU args) (fun _ h => h) hown hK rfl (by decide) (cr_w Z w_359 rfl hU args) (fun _ h => h) d_C_muster_54 rfl) ?_
  refine cr_cons (cr_iload_n_ok hx hb d_C_muster_57 rfl rfl) ?_
  refine cr_cons (cr_icne_ok hx hb d_C_muster_58 (by decide) rfl) ?_
  refine cr_cons (cr_iload_n_ok hx hb d_C_muster_61 rfl rfl) ?_
  refine cr_cons (cr_iload_n_ok hx hb d_C_muster_62 rfl rfl) ?_
  refine cr_cons (cr_icne_ok hx hb d_C_muster_63 (by decide) rfl) ?_
  refine cr_cons (cr_iload_ok hx hb d_C_muster_66 rfl) ?_
  refine cr_cons (cr_iret_ok hx hb hr hlk d_C_muster_68) ?_
  refine cr_cons (cr_iinc_ok hx hb d_C_muster_69 (by decide) rfl) ?_
  refine cr_cons (cr_iinc_ok hx hb d_C_muster_72 (by decide) rfl) ?_
  exact cr_nil
set_option maxHeartbeats 4000000 in
set_option maxRecDepth 20000 in
theorem s_C_muster_1 {p : Program} {l : Launch} {e : Env} {R : Room} {s : State} {m : MethodId} {args : Array Value} {below : List Frame} {meth : Method} {c : Code} {s0 : State} {D : va_G} {ca : Nat → ClassId} {e0 d mc ms : Nat} {Q : cr_Q} (hl : l.flags = flags0) (Z : cr_Z0 s0 D ca e0) (C : cr_C p R s m meth c (cr_W0 s0) s0.heap.size y_C_muster c_C_muster 5 (Option.some FieldType.int) d mc ms) (hem : c.exceptionTable.toList = []) : ∀ x ∈ t_C_muster_1 l s0 D ca e0 d mc ms, cr_Snd p l e R s m args below meth c s0.heap.size mc ms Q x.1 x.2 := by
  obtain ⟨hx, hb, hml, hown, hr, hlk, hnm, hU, hlo, hR⟩ := C
  have hK := cr_Z0K Z hU
  have hRc : R.cells = mc := by rw [hR]; rfl
  have hRs : R.slots = ms := by rw [hR]; rfl
  unfold t_C_muster_1
  refine cr_cons (cr_goto_ok hx hb d_C_muster_75 (by decide)) ?_
  refine cr_cons (cr_iconst_ok hx hb d_C_muster_78 (by decide) rfl) ?_
  refine cr_cons (cr_iret_ok hx hb hr hlk d_C_muster_79) ?_
  exact cr_nil
theorem s_C_muster {p : Program} {l : Launch} {e : Env} {R : Room} {s : State} {m : MethodId} {args : Array Value} {below : List Frame} {meth : Method} {c : Code} {s0 : State} {D : va_G} {ca : Nat → ClassId} {e0 d mc ms : Nat} {Q : cr_Q} (hl : l.flags = flags0) (Z : cr_Z0 s0 D ca e0) (C : cr_C p R s m meth c (cr_W0 s0) s0.heap.size y_C_muster c_C_muster 5 (Option.some FieldType.int) d mc ms) (hem : c.exceptionTable.toList = []) : ∀ x ∈ t_C_muster l s0 D ca e0 d mc ms, cr_Snd p l e R s m args below meth c s0.heap.size mc ms Q x.1 x.2 := cr_app (s_C_muster_0 hl Z C hem) (s_C_muster_1 hl Z C hem)
theorem d_C_found_0 : decode c_C_found 0 = .ok (.iload_n 1, 1) := by decide +kernel
theorem d_C_found_1 : decode c_C_found 1 = .ok (.ifCond .lt 14, 3) := by decide +kernel
theorem d_C_found_4 : decode c_C_found 4 = .ok (.iload_n 1, 1) := by decide +kernel
theorem d_C_found_5 : decode c_C_found 5 = .ok (.aload_n 0, 1) := by decide +kernel
theorem d_C_found_6 : decode c_C_found 6 = .ok (.getfield 38, 3) := by decide +kernel
theorem d_C_found_9 : decode c_C_found 9 = .ok (.getfield 245, 3) := by decide +kernel
theorem d_C_found_12 : decode c_C_found 12 = .ok (.if_icmp .lt 13, 3) := by decide +kernel
theorem d_C_found_15 : decode c_C_found 15 = .ok (.new 93, 3) := by decide +kernel
theorem d_C_found_18 : decode c_C_found 18 = .ok (.dup, 1) := by decide +kernel
theorem d_C_found_19 : decode c_C_found 19 = .ok (.ldc 248, 2) := by decide +kernel
theorem d_C_found_21 : decode c_C_found 21 = .ok (.invokespecial 97, 3) := by decide +kernel
theorem d_C_found_24 : decode c_C_found 24 = .ok (.athrow, 1) := by decide +kernel
theorem d_C_found_25 : decode c_C_found 25 = .ok (.iload_n 2, 1) := by decide +kernel
theorem d_C_found_26 : decode c_C_found 26 = .ok (.ifCond .lt 8, 3) := by decide +kernel
theorem d_C_found_29 : decode c_C_found 29 = .ok (.iload_n 2, 1) := by decide +kernel
theorem d_C_found_30 : decode c_C_found 30 = .ok (.iconst 4, 1) := by decide +kernel
theorem d_C_found_31 : decode c_C_found 31 = .ok (.if_icmp .lt 13, 3) := by decide +kernel
theorem d_C_found_34 : decode c_C_found 34 = .ok (.new 93, 3) := by decide +kernel
theorem d_C_found_37 : decode c_C_found 37 = .ok (.dup, 1) := by decide +kernel
theorem d_C_found_38 : decode c_C_found 38 = .ok (.ldc 250, 2) := by decide +kernel
theorem d_C_found_40 : decode c_C_found 40 = .ok (.invokespecial 97, 3) := by decide +kernel
theorem d_C_found_43 : decode c_C_found 43 = .ok (.athrow, 1) := by decide +kernel
theorem d_C_found_44 : decode c_C_found 44 = .ok (.aload_n 0, 1) := by decide +kernel
theorem d_C_found_45 : decode c_C_found 45 = .ok (.getfield 38, 3) := by decide +kernel
theorem d_C_found_48 : decode c_C_found 48 = .ok (.getfield 252, 3) := by decide +kernel
theorem d_C_found_51 : decode c_C_found 51 = .ok (.iload_n 1, 1) := by decide +kernel
theorem d_C_found_52 : decode c_C_found 52 = .ok (.iconst 4, 1) := by decide +kernel
theorem d_C_found_53 : decode c_C_found 53 = .ok (.imul, 1) := by decide +kernel
theorem d_C_found_54 : decode c_C_found 54 = .ok (.iload_n 2, 1) := by decide +kernel
theorem d_C_found_55 : decode c_C_found 55 = .ok (.iadd, 1) := by decide +kernel
theorem d_C_found_56 : decode c_C_found 56 = .ok (.iaload, 1) := by decide +kernel
theorem d_C_found_57 : decode c_C_found 57 = .ok (.ireturn, 1) := by decide +kernel
def t_C_found_0 (l : Launch) (s0 : State) (D : va_G) (ca : Nat → ClassId) (e0 d mc ms : Nat) : List (Nat × cr_T) := [(0, cr_iload 1 1),
  (1, cr_iflt 15 4),
  (4, cr_iload 1 5),
  (5, cr_aload 0 6),
  (6, cr_getf D kc 0 6 9),
  (9, cr_getf D kc 3 2 12),
  (12, cr_iclt 25 15),
  (15, cr_thr s0 mc ms d 1 3),
  (25, cr_iload 2 26),
  (26, cr_iflt 34 29),
  (29, cr_iload 2 30),
  (30, cr_push (.int 4) 31),
  (31, cr_iclt 44 34),
  (34, cr_thr s0 mc ms d 1 3),
  (44, cr_aload 0 45),
  (45, cr_getf D kc 0 6 48),
  (48, cr_getf D kc 3 0 51),
  (51, cr_iload 1 52),
  (52, cr_push (.int 4) 53),
  (53, cr_imul 54),
  (54, cr_iload 2 55),
  (55, cr_iadd 56),
  (56, cr_iald D kc (ca 0) 57),
  (57, cr_iret mc ms)]
def t_C_found (l : Launch) (s0 : State) (D : va_G) (ca : Nat → ClassId) (e0 d mc ms : Nat) : List (Nat × cr_T) := t_C_found_0 l s0 D ca e0 d mc ms
set_option maxHeartbeats 4000000 in
set_option maxRecDepth 20000 in
theorem s_C_found_0 {p : Program} {l : Launch} {e : Env} {R : Room} {s : State} {m : MethodId} {args : Array Value} {below : List Frame} {meth : Method} {c : Code} {s0 : State} {D : va_G} {ca : Nat → ClassId} {e0 d mc ms : Nat} {Q : cr_Q} (hl : l.flags = flags0) (Z : cr_Z0 s0 D ca e0) (C : cr_C p R s m meth c (cr_W0 s0) s0.heap.size y_C_found c_C_found 3 (Option.some FieldType.int) d mc ms) (hem : c.exceptionTable.toList = []) : ∀ x ∈ t_C_found_0 l s0 D ca e0 d mc ms, cr_Snd p l e R s m args below meth c s0.heap.size mc ms Q x.1 x.2 := by
  obtain ⟨hx, hb, hml, hown, hr, hlk, hnm, hU, hlo, hR⟩ := C
  have hK := cr_Z0K Z hU
  have hRc : R.cells = mc := by rw [hR]; rfl
  have hRs : R.slots = ms := by rw [hR]; rfl
  unfold t_C_found_0
  refine cr_cons (cr_iload_n_ok hx hb d_C_found_0 rfl rfl) ?_
  refine cr_cons (cr_iflt_ok hx hb d_C_found_1 (by decide) rfl) ?_
  refine cr_cons (cr_iload_n_ok hx hb d_C_found_4 rfl rfl) ?_
  refine cr_cons (cr_aload_n_ok hx hb d_C_found_5 rfl rfl) ?_
  refine cr_cons (cr_getf_ok (C := R_C) (T := T_C) (N := 10) hx hb (k_C Z hU args) (fun _ h => h) hown hK rfl (by decide) (cr_w Z w_142 rfl hU args) (fun _ h => h) d_C_found_6 rfl) ?_
  refine cr_cons (cr_getfN_ok (C := R_Fi) (T := T_Fi) (N := 3) hx hb (k_Fi Z hU args) (fun _ h => h) hown hK rfl (by decide) (cr_w Z w_99 rfl hU args) (fun _ h => h) d_C_found_9 rfl) ?_
  refine cr_cons (cr_iclt_ok hx hb d_C_found_12 (by decide) rfl) ?_
  refine cr_cons (cr_thr_ok (X := "java/lang/IllegalArgumentException") hx hb hml hown hlk hU hR hem Z hl rfl w_267 w_268 w_14 own_C_97 str_248 d_C_found_15 d_C_found_18 d_C_found_19 d_C_found_21 d_C_found_24) ?_
  refine cr_cons (cr_iload_n_ok hx hb d_C_found_25 rfl rfl) ?_
  refine cr_cons (cr_iflt_ok hx hb d_C_found_26 (by decide) rfl) ?_
  refine cr_cons (cr_iload_n_ok hx hb d_C_found_29 rfl rfl) ?_
  refine cr_cons (cr_iconst_ok hx hb d_C_found_30 (by decide) rfl) ?_
  refine cr_cons (cr_iclt_ok hx hb d_C_found_31 (by decide) rfl) ?_
  refine cr_cons (cr_thr_ok (X := "java/lang/IllegalArgumentException") hx hb hml hown hlk hU hR hem Z hl rfl w_267 w_268 w_14 own_C_97 str_250 d_C_found_34 d_C_found_37 d_C_found_38 d_C_found_40 d_C_found_43) ?_
  refine cr_cons (cr_aload_n_ok hx hb d_C_found_44 rfl rfl) ?_
  refine cr_cons (cr_getf_ok (C := R_C) (T := T_C) (N := 10) hx hb (k_C Z hU args) (fun _ h => h) hown hK rfl (by decide) (cr_w Z w_142 rfl hU args) (fun _ h => h) d_C_found_45 rfl) ?_
  refine cr_cons (cr_getfN_ok (C := R_Fi) (T := T_Fi) (N := 3) hx hb (k_Fi Z hU args) (fun _ h => h) hown hK rfl (by decide) (cr_w Z w_95 rfl hU args) (fun _ h => h) d_C_found_48 rfl) ?_
  refine cr_cons (cr_iload_n_ok hx hb d_C_found_51 rfl rfl) ?_
  refine cr_cons (cr_iconst_ok hx hb d_C_found_52 (by decide) rfl) ?_
  refine cr_cons (cr_imul_ok hx hb d_C_found_53 rfl) ?_
  refine cr_cons (cr_iload_n_ok hx hb d_C_found_54 rfl rfl) ?_
  refine cr_cons (cr_iadd_ok hx hb d_C_found_55 rfl) ?_
  refine cr_cons (cr_iald_ok (t0 := 0) hx hb hK rfl d_C_found_56 rfl) ?_
  refine cr_cons (cr_iret_ok hx hb hr hlk d_C_found_57) ?_
  exact cr_nil
theorem s_C_found {p : Program} {l : Launch} {e : Env} {R : Room} {s : State} {m : MethodId} {args : Array Value} {below : List Frame} {meth : Method} {c : Code} {s0 : State} {D : va_G} {ca : Nat → ClassId} {e0 d mc ms : Nat} {Q : cr_Q} (hl : l.flags = flags0) (Z : cr_Z0 s0 D ca e0) (C : cr_C p R s m meth c (cr_W0 s0) s0.heap.size y_C_found c_C_found 3 (Option.some FieldType.int) d mc ms) (hem : c.exceptionTable.toList = []) : ∀ x ∈ t_C_found l s0 D ca e0 d mc ms, cr_Snd p l e R s m args below meth c s0.heap.size mc ms Q x.1 x.2 := s_C_found_0 hl Z C hem
