theorem d_M_right_0 : decode c_M_right 0 = .ok (.iload_n 1, 1) := by decide +kernel
theorem d_M_right_1 : decode c_M_right 1 = .ok (.bipush 10, 2) := by decide +kernel
theorem d_M_right_3 : decode c_M_right 3 = .ok (.invokestatic 113, 3) := by decide +kernel
theorem d_M_right_6 : decode c_M_right 6 = .ok (.ifCond .eq 45, 3) := by decide +kernel
theorem d_M_right_9 : decode c_M_right 9 = .ok (.iload_n 2, 1) := by decide +kernel
theorem d_M_right_10 : decode c_M_right 10 = .ok (.bipush 10, 2) := by decide +kernel
theorem d_M_right_12 : decode c_M_right 12 = .ok (.invokestatic 113, 3) := by decide +kernel
theorem d_M_right_15 : decode c_M_right 15 = .ok (.ifCond .eq 36, 3) := by decide +kernel
theorem d_M_right_18 : decode c_M_right 18 = .ok (.iload_n 3, 1) := by decide +kernel
theorem d_M_right_19 : decode c_M_right 19 = .ok (.sipush 1440, 3) := by decide +kernel
theorem d_M_right_22 : decode c_M_right 22 = .ok (.invokestatic 113, 3) := by decide +kernel
theorem d_M_right_25 : decode c_M_right 25 = .ok (.ifCond .eq 26, 3) := by decide +kernel
theorem d_M_right_28 : decode c_M_right 28 = .ok (.iload 4, 2) := by decide +kernel
theorem d_M_right_30 : decode c_M_right 30 = .ok (.sipush 1440, 3) := by decide +kernel
theorem d_M_right_33 : decode c_M_right 33 = .ok (.invokestatic 113, 3) := by decide +kernel
theorem d_M_right_36 : decode c_M_right 36 = .ok (.ifCond .eq 15, 3) := by decide +kernel
theorem d_M_right_39 : decode c_M_right 39 = .ok (.iload 5, 2) := by decide +kernel
theorem d_M_right_41 : decode c_M_right 41 = .ok (.invokestatic 130, 3) := by decide +kernel
theorem d_M_right_44 : decode c_M_right 44 = .ok (.ifCond .eq 7, 3) := by decide +kernel
theorem d_M_right_47 : decode c_M_right 47 = .ok (.iconst 1, 1) := by decide +kernel
theorem d_M_right_48 : decode c_M_right 48 = .ok (.goto 4, 3) := by decide +kernel
theorem d_M_right_51 : decode c_M_right 51 = .ok (.iconst 0, 1) := by decide +kernel
theorem d_M_right_52 : decode c_M_right 52 = .ok (.istore 6, 2) := by decide +kernel
theorem d_M_right_54 : decode c_M_right 54 = .ok (.aload_n 0, 1) := by decide +kernel
theorem d_M_right_55 : decode c_M_right 55 = .ok (.iload 6, 2) := by decide +kernel
theorem d_M_right_57 : decode c_M_right 57 = .ok (.aload_n 0, 1) := by decide +kernel
theorem d_M_right_58 : decode c_M_right 58 = .ok (.getfield 141, 3) := by decide +kernel
theorem d_M_right_61 : decode c_M_right 61 = .ok (.bipush 16, 2) := by decide +kernel
theorem d_M_right_63 : decode c_M_right 63 = .ok (.if_icmp .ge 7, 3) := by decide +kernel
theorem d_M_right_66 : decode c_M_right 66 = .ok (.iconst 1, 1) := by decide +kernel
theorem d_M_right_67 : decode c_M_right 67 = .ok (.goto 4, 3) := by decide +kernel
theorem d_M_right_70 : decode c_M_right 70 = .ok (.iconst 0, 1) := by decide +kernel
theorem d_M_right_71 : decode c_M_right 71 = .ok (.invokevirtual 120, 3) := by decide +kernel
theorem d_M_right_74 : decode c_M_right 74 = .ok (.ifCond .ne 5, 3) := by decide +kernel
theorem d_M_right_77 : decode c_M_right 77 = .ok (.iconst 0, 1) := by decide +kernel
theorem d_M_right_78 : decode c_M_right 78 = .ok (.ireturn, 1) := by decide +kernel
theorem d_M_right_79 : decode c_M_right 79 = .ok (.aload_n 0, 1) := by decide +kernel
theorem d_M_right_80 : decode c_M_right 80 = .ok (.getfield 59, 3) := by decide +kernel
theorem d_M_right_83 : decode c_M_right 83 = .ok (.aload_n 0, 1) := by decide +kernel
theorem d_M_right_84 : decode c_M_right 84 = .ok (.getfield 141, 3) := by decide +kernel
theorem d_M_right_87 : decode c_M_right 87 = .ok (.iload_n 1, 1) := by decide +kernel
theorem d_M_right_88 : decode c_M_right 88 = .ok (.iastore, 1) := by decide +kernel
theorem d_M_right_89 : decode c_M_right 89 = .ok (.aload_n 0, 1) := by decide +kernel
theorem d_M_right_90 : decode c_M_right 90 = .ok (.getfield 62, 3) := by decide +kernel
theorem d_M_right_93 : decode c_M_right 93 = .ok (.aload_n 0, 1) := by decide +kernel
theorem d_M_right_94 : decode c_M_right 94 = .ok (.getfield 141, 3) := by decide +kernel
theorem d_M_right_97 : decode c_M_right 97 = .ok (.iload_n 2, 1) := by decide +kernel
theorem d_M_right_98 : decode c_M_right 98 = .ok (.iastore, 1) := by decide +kernel
theorem d_M_right_99 : decode c_M_right 99 = .ok (.aload_n 0, 1) := by decide +kernel
theorem d_M_right_100 : decode c_M_right 100 = .ok (.getfield 65, 3) := by decide +kernel
theorem d_M_right_103 : decode c_M_right 103 = .ok (.aload_n 0, 1) := by decide +kernel
theorem d_M_right_104 : decode c_M_right 104 = .ok (.getfield 141, 3) := by decide +kernel
theorem d_M_right_107 : decode c_M_right 107 = .ok (.iload_n 3, 1) := by decide +kernel
theorem d_M_right_108 : decode c_M_right 108 = .ok (.iastore, 1) := by decide +kernel
theorem d_M_right_109 : decode c_M_right 109 = .ok (.aload_n 0, 1) := by decide +kernel
theorem d_M_right_110 : decode c_M_right 110 = .ok (.getfield 68, 3) := by decide +kernel
theorem d_M_right_113 : decode c_M_right 113 = .ok (.aload_n 0, 1) := by decide +kernel
theorem d_M_right_114 : decode c_M_right 114 = .ok (.getfield 141, 3) := by decide +kernel
theorem d_M_right_117 : decode c_M_right 117 = .ok (.iload 4, 2) := by decide +kernel
theorem d_M_right_119 : decode c_M_right 119 = .ok (.iastore, 1) := by decide +kernel
theorem d_M_right_120 : decode c_M_right 120 = .ok (.aload_n 0, 1) := by decide +kernel
theorem d_M_right_121 : decode c_M_right 121 = .ok (.getfield 71, 3) := by decide +kernel
theorem d_M_right_124 : decode c_M_right 124 = .ok (.aload_n 0, 1) := by decide +kernel
theorem d_M_right_125 : decode c_M_right 125 = .ok (.getfield 141, 3) := by decide +kernel
theorem d_M_right_128 : decode c_M_right 128 = .ok (.iload 5, 2) := by decide +kernel
theorem d_M_right_130 : decode c_M_right 130 = .ok (.iastore, 1) := by decide +kernel
theorem d_M_right_131 : decode c_M_right 131 = .ok (.aload_n 0, 1) := by decide +kernel
theorem d_M_right_132 : decode c_M_right 132 = .ok (.iconst 1, 1) := by decide +kernel
theorem d_M_right_133 : decode c_M_right 133 = .ok (.aload_n 0, 1) := by decide +kernel
theorem d_M_right_134 : decode c_M_right 134 = .ok (.getfield 141, 3) := by decide +kernel
theorem d_M_right_137 : decode c_M_right 137 = .ok (.iload 5, 2) := by decide +kernel
theorem d_M_right_139 : decode c_M_right 139 = .ok (.invokevirtual 137, 3) := by decide +kernel
theorem d_M_right_142 : decode c_M_right 142 = .ok (.aload_n 0, 1) := by decide +kernel
theorem d_M_right_143 : decode c_M_right 143 = .ok (.dup, 1) := by decide +kernel
theorem d_M_right_144 : decode c_M_right 144 = .ok (.getfield 141, 3) := by decide +kernel
theorem d_M_right_147 : decode c_M_right 147 = .ok (.iconst 1, 1) := by decide +kernel
theorem d_M_right_148 : decode c_M_right 148 = .ok (.iadd, 1) := by decide +kernel
theorem d_M_right_149 : decode c_M_right 149 = .ok (.putfield 141, 3) := by decide +kernel
theorem d_M_right_152 : decode c_M_right 152 = .ok (.aload_n 0, 1) := by decide +kernel
theorem d_M_right_153 : decode c_M_right 153 = .ok (.getfield 141, 3) := by decide +kernel
theorem d_M_right_156 : decode c_M_right 156 = .ok (.iconst 1, 1) := by decide +kernel
theorem d_M_right_157 : decode c_M_right 157 = .ok (.isub, 1) := by decide +kernel
theorem d_M_right_158 : decode c_M_right 158 = .ok (.ireturn, 1) := by decide +kernel
def t_M_right_0 (l : Launch) (s0 : State) (D : va_G) (ca : Nat → ClassId) (e0 d mc ms : Nat) : List (Nat × cr_T) := [(0, cr_iload 1 1),
  (1, cr_push (.int 10) 3),
  (3, cr_calS l (cr_W0 s0) s0.heap.size y_M_isIn cw_M_isIn d mc ms 2 7 6),
  (6, cr_ifeq 51 9),
  (9, cr_iload 2 10),
  (10, cr_push (.int 10) 12),
  (12, cr_calS l (cr_W0 s0) s0.heap.size y_M_isIn cw_M_isIn d mc ms 2 7 15),
  (15, cr_ifeq 51 18),
  (18, cr_iload 3 19),
  (19, cr_push (.int 1440) 22),
  (22, cr_calS l (cr_W0 s0) s0.heap.size y_M_isIn cw_M_isIn d mc ms 2 7 25),
  (25, cr_ifeq 51 28),
  (28, cr_iload 4 30),
  (30, cr_push (.int 1440) 33),
  (33, cr_calS l (cr_W0 s0) s0.heap.size y_M_isIn cw_M_isIn d mc ms 2 7 36),
  (36, cr_ifeq 51 39),
  (39, cr_iload 5 41),
  (41, cr_calS l (cr_W0 s0) s0.heap.size y_M_isMinute cw_M_isMinute d mc ms 1 7 44),
  (44, cr_ifeq 51 47),
  (47, cr_push (.int 1) 48),
  (48, cr_goto 52),
  (51, cr_push (.int 0) 52),
  (52, cr_istore 6 54),
  (54, cr_aload 0 55),
  (55, cr_iload 6 57),
  (57, cr_aload 0 58),
  (58, cr_getf D kc 11 22 61),
  (61, cr_push (.int 16) 63),
  (63, cr_icge 70 66),
  (66, cr_push (.int 1) 67)]
def t_M_right_1 (l : Launch) (s0 : State) (D : va_G) (ca : Nat → ClassId) (e0 d mc ms : Nat) : List (Nat × cr_T) := [(67, cr_goto 71),
  (70, cr_push (.int 0) 71),
  (71, cr_calV D kc l (cr_W0 s0) s0.heap.size 11 y_M_goes cw_M_goes d mc ms 2 7 74),
  (74, cr_ifne 79 77),
  (77, cr_push (.int 0) 78),
  (78, cr_iret mc ms),
  (79, cr_aload 0 80),
  (80, cr_getf D kc 11 23 83),
  (83, cr_aload 0 84),
  (84, cr_getf D kc 11 22 87),
  (87, cr_iload 1 88),
  (88, cr_iast D kc s0.heap.size (ca 0) 89),
  (89, cr_aload 0 90),
  (90, cr_getf D kc 11 24 93),
  (93, cr_aload 0 94),
  (94, cr_getf D kc 11 22 97),
  (97, cr_iload 2 98),
  (98, cr_iast D kc s0.heap.size (ca 0) 99),
  (99, cr_aload 0 100),
  (100, cr_getf D kc 11 25 103),
  (103, cr_aload 0 104),
  (104, cr_getf D kc 11 22 107),
  (107, cr_iload 3 108),
  (108, cr_iast D kc s0.heap.size (ca 0) 109),
  (109, cr_aload 0 110),
  (110, cr_getf D kc 11 26 113),
  (113, cr_aload 0 114),
  (114, cr_getf D kc 11 22 117),
  (117, cr_iload 4 119),
  (119, cr_iast D kc s0.heap.size (ca 0) 120)]
def t_M_right_2 (l : Launch) (s0 : State) (D : va_G) (ca : Nat → ClassId) (e0 d mc ms : Nat) : List (Nat × cr_T) := [(120, cr_aload 0 121),
  (121, cr_getf D kc 11 27 124),
  (124, cr_aload 0 125),
  (125, cr_getf D kc 11 22 128),
  (128, cr_iload 5 130),
  (130, cr_iast D kc s0.heap.size (ca 0) 131),
  (131, cr_aload 0 132),
  (132, cr_push (.int 1) 133),
  (133, cr_aload 0 134),
  (134, cr_getf D kc 11 22 137),
  (137, cr_iload 5 139),
  (139, cr_calV D kc l (cr_W0 s0) s0.heap.size 11 y_M_tell cw_M_tell d mc ms 3 7 142),
  (142, cr_aload 0 143),
  (143, cr_dup 144),
  (144, cr_getf D kc 11 22 147),
  (147, cr_push (.int 1) 148),
  (148, cr_iadd 149),
  (149, cr_putf D kc s0.heap.size 11 22 .int 152),
  (152, cr_aload 0 153),
  (153, cr_getf D kc 11 22 156),
  (156, cr_push (.int 1) 157),
  (157, cr_isub 158),
  (158, cr_iret mc ms)]
def t_M_right (l : Launch) (s0 : State) (D : va_G) (ca : Nat → ClassId) (e0 d mc ms : Nat) : List (Nat × cr_T) := t_M_right_0 l s0 D ca e0 d mc ms ++ (t_M_right_1 l s0 D ca e0 d mc ms ++ (t_M_right_2 l s0 D ca e0 d mc ms))
set_option maxHeartbeats 4000000 in
set_option maxRecDepth 20000 in
theorem s_M_right_0 {p : Program} {l : Launch} {e : Env} {R : Room} {s : State} {m : MethodId} {args : Array Value} {below : List Frame} {meth : Method} {c : Code} {s0 : State} {D : va_G} {ca : Nat → ClassId} {e0 d mc ms : Nat} {Q : cr_Q} (hl : l.flags = flags0) (Z : cr_Z0 s0 D ca e0) (C : cr_C p R s m meth c (cr_W0 s0) s0.heap.size y_M_right c_M_right 7 (Option.some FieldType.int) d mc ms) (hem : c.exceptionTable.toList = []) : ∀ x ∈ t_M_right_0 l s0 D ca e0 d mc ms, cr_Snd p l e R s m args below meth c s0.heap.size mc ms Q x.1 x.2 := by
  obtain ⟨hx, hb, hml, hown, hr, hlk, hnm, hU, hlo, hR⟩ := C
  have hK := cr_Z0K Z hU
  have hRc : R.cells = mc := by rw [hR]; rfl
  have hRs : R.slots = ms := by rw [hR]; rfl
  unfold t_M_right_0
  refine cr_cons (cr_iload_n_ok hx hb d_M_right_0 rfl rfl) ?_
  refine cr_cons (cr_bipush_ok hx hb d_M_right_1 (by decide) rfl) ?_
  refine cr_cons (cr_calS_ok hx hb hml hown hlk hU hlo hR (cr_W0_st s0) (by rw [hem]; exact fun _ h => absurd h List.not_mem_nil) (u_M_isIn Z) (Or.inl (cr_w Z w_951 rfl hU args)) (cr_w Z w_952 rfl hU args) (by decide) (by decide +kernel) (by decide) d_M_right_3 rfl) ?_
  refine cr_cons (cr_ifeq_ok hx hb d_M_right_6 (by decide) rfl) ?_
  refine cr_cons (cr_iload_n_ok hx hb d_M_right_9 rfl rfl) ?_
  refine cr_cons (cr_bipush_ok hx hb d_M_right_10 (by decide) rfl) ?_
  refine cr_cons (cr_calS_ok hx hb hml hown hlk hU hlo hR (cr_W0_st s0) (by rw [hem]; exact fun _ h => absurd h List.not_mem_nil) (u_M_isIn Z) (Or.inl (cr_w Z w_951 rfl hU args)) (cr_w Z w_952 rfl hU args) (by decide) (by decide +kernel) (by decide) d_M_right_12 rfl) ?_
  refine cr_cons (cr_ifeq_ok hx hb d_M_right_15 (by decide) rfl) ?_
  refine cr_cons (cr_iload_n_ok hx hb d_M_right_18 rfl rfl) ?_
  refine cr_cons (cr_sipush_ok hx hb d_M_right_19 (by decide) rfl) ?_
  refine cr_cons (cr_calS_ok hx hb hml hown hlk hU hlo hR (cr_W0_st s0) (by rw [hem]; exact fun _ h => absurd h List.not_mem_nil) (u_M_isIn Z) (Or.inl (cr_w Z w_951 rfl hU args)) (cr_w Z w_952 rfl hU args) (by decide) (by decide +kernel) (by decide) d_M_right_22 rfl) ?_
  refine cr_cons (cr_ifeq_ok hx hb d_M_right_25 (by decide) rfl) ?_
  refine cr_cons (cr_iload_ok hx hb d_M_right_28 rfl) ?_
  refine cr_cons (cr_sipush_ok hx hb d_M_right_30 (by decide) rfl) ?_
  refine cr_cons (cr_calS_ok hx hb hml hown hlk hU hlo hR (cr_W0_st s0) (by rw [hem]; exact fun _ h => absurd h List.not_mem_nil) (u_M_isIn Z) (Or.inl (cr_w Z w_951 rfl hU args)) (cr_w Z w_952 rfl hU args) (by decide) (by decide +kernel) (by decide) d_M_right_33 rfl) ?_
  refine cr_cons (cr_ifeq_ok hx hb d_M_right_36 (by decide) rfl) ?_
  refine cr_cons (cr_iload_ok hx hb d_M_right_39 rfl) ?_
  refine cr_cons (cr_calS_ok hx hb hml hown hlk hU hlo hR (cr_W0_st s0) (by rw [hem]; exact fun _ h => absurd h List.not_mem_nil) (u_M_isMinute Z) (Or.inl (cr_w Z w_970 rfl hU args)) (cr_w Z w_971 rfl hU args) (by decide) (by decide +kernel) (by decide) d_M_right_41 rfl) ?_
  refine cr_cons (cr_ifeq_ok hx hb d_M_right_44 (by decide) rfl) ?_
  refine cr_cons (cr_iconst_ok hx hb d_M_right_47 (by decide) rfl) ?_
  refine cr_cons (cr_goto_ok hx hb d_M_right_48 (by decide)) ?_
  refine cr_cons (cr_iconst_ok hx hb d_M_right_51 (by decide) rfl) ?_
  refine cr_cons (cr_istore_ok hx hb d_M_right_52 rfl) ?_
  refine cr_cons (cr_aload_n_ok hx hb d_M_right_54 rfl rfl) ?_
  refine cr_cons (cr_iload_ok hx hb d_M_right_55 rfl) ?_
  refine cr_cons (cr_aload_n_ok hx hb d_M_right_57 rfl rfl) ?_
  refine cr_cons (cr_getf_ok (C := R_M) (T := T_M) (N := 41) hx hb (k_M Z hU args) (fun _ h => h) hown hK rfl (by decide) (cr_w Z w_840 rfl hU args) (fun _ h => h) d_M_right_58 rfl) ?_
  refine cr_cons (cr_bipush_ok hx hb d_M_right_61 (by decide) rfl) ?_
  refine cr_cons (cr_icge_ok hx hb d_M_right_63 (by decide) rfl) ?_
  refine cr_cons (cr_iconst_ok hx hb d_M_right_66 (by decide) rfl) ?_
  exact cr_nil
set_option maxHeartbeats 4000000 in
set_option maxRecDepth 20000 in
theorem s_M_right_1 {p : Program} {l : Launch} {e : Env} {R : Room} {s : State} {m : MethodId} {args : Array Value} {below : List Frame} {meth : Method} {c : Code} {s0 : State} {D : va_G} {ca : Nat → ClassId} {e0 d mc ms : Nat} {Q : cr_Q} (hl : l.flags = flags0) (Z : cr_Z0 s0 D ca e0) (C : cr_C p R s m meth c (cr_W0 s0) s0.heap.size y_M_right c_M_right 7 (Option.some FieldType.int) d mc ms) (hem : c.exceptionTable.toList = []) : ∀ x ∈ t_M_right_1 l s0 D ca e0 d mc ms, cr_Snd p l e R s m args below meth c s0.heap.size mc ms Q x.1 x.2 := by
  obtain ⟨hx, hb, hml, hown, hr, hlk, hnm, hU, hlo, hR⟩ := C
  have hK := cr_Z0K Z hU
  have hRc : R.cells = mc := by rw [hR]; rfl
  have hRs : R.slots = ms := by rw [hR]; rfl
  unfold t_M_right_1
  refine cr_cons (cr_goto_ok hx hb d_M_right_67 (by decide)) ?_
  refine cr_cons (cr_iconst_ok hx hb d_M_right_70 (by decide) rfl) ?_
  refine cr_cons (cr_calV_ok (C := R_M) (Tf := T_M) (N := 41) hx hb hml hown hlk hU hlo hR (cr_W0_st s0) (by rw [hem]; exact fun _ h => absurd h List.not_mem_nil) hK rfl (u_M_goes Z) (Or.inl (cr_w Z w_954 rfl hU args)) (cr_w Z w_956 rfl hU args) (cr_w Z ws_32 rfl hU args) (by decide) (by decide +kernel) (by decide) d_M_right_71 rfl) ?_
  refine cr_cons (cr_ifne_ok hx hb d_M_right_74 (by decide) rfl) ?_
  refine cr_cons (cr_iconst_ok hx hb d_M_right_77 (by decide) rfl) ?_
  refine cr_cons (cr_iret_ok hx hb hr hlk d_M_right_78) ?_
  refine cr_cons (cr_aload_n_ok hx hb d_M_right_79 rfl rfl) ?_
  refine cr_cons (cr_getf_ok (C := R_M) (T := T_M) (N := 41) hx hb (k_M Z hU args) (fun _ h => h) hown hK rfl (by decide) (cr_w Z w_841 rfl hU args) (fun _ h => h) d_M_right_80 rfl) ?_
  refine cr_cons (cr_aload_n_ok hx hb d_M_right_83 rfl rfl) ?_
  refine cr_cons (cr_getf_ok (C := R_M) (T := T_M) (N := 41) hx hb (k_M Z hU args) (fun _ h => h) hown hK rfl (by decide) (cr_w Z w_840 rfl hU args) (fun _ h => h) d_M_right_84 rfl) ?_
  refine cr_cons (cr_iload_n_ok hx hb d_M_right_87 rfl rfl) ?_
  refine cr_cons (cr_iast_ok (t0 := 0) hx hb hK rfl d_M_right_88 rfl) ?_
  refine cr_cons (cr_aload_n_ok hx hb d_M_right_89 rfl rfl) ?_
  refine cr_cons (cr_getf_ok (C := R_M) (T := T_M) (N := 41) hx hb (k_M Z hU args) (fun _ h => h) hown hK rfl (by decide) (cr_w Z w_842 rfl hU args) (fun _ h => h) d_M_right_90 rfl) ?_
  refine cr_cons (cr_aload_n_ok hx hb d_M_right_93 rfl rfl) ?_
  refine cr_cons (cr_getf_ok (C := R_M) (T := T_M) (N := 41) hx hb (k_M Z hU args) (fun _ h => h) hown hK rfl (by decide) (cr_w Z w_840 rfl hU args) (fun _ h => h) d_M_right_94 rfl) ?_
  refine cr_cons (cr_iload_n_ok hx hb d_M_right_97 rfl rfl) ?_
  refine cr_cons (cr_iast_ok (t0 := 0) hx hb hK rfl d_M_right_98 rfl) ?_
  refine cr_cons (cr_aload_n_ok hx hb d_M_right_99 rfl rfl) ?_
  refine cr_cons (cr_getf_ok (C := R_M) (T := T_M) (N := 41) hx hb (k_M Z hU args) (fun _ h => h) hown hK rfl (by decide) (cr_w Z w_843 rfl hU args) (fun _ h => h) d_M_right_100 rfl) ?_
  refine cr_cons (cr_aload_n_ok hx hb d_M_right_103 rfl rfl) ?_
  refine cr_cons (cr_getf_ok (C := R_M) (T := T_M) (N := 41) hx hb (k_M Z hU args) (fun _ h => h) hown hK rfl (by decide) (cr_w Z w_840 rfl hU args) (fun _ h => h) d_M_right_104 rfl) ?_
  refine cr_cons (cr_iload_n_ok hx hb d_M_right_107 rfl rfl) ?_
  refine cr_cons (cr_iast_ok (t0 := 0) hx hb hK rfl d_M_right_108 rfl) ?_
  refine cr_cons (cr_aload_n_ok hx hb d_M_right_109 rfl rfl) ?_
  refine cr_cons (cr_getf_ok (C := R_M) (T := T_M) (N := 41) hx hb (k_M Z hU args) (fun _ h => h) hown hK rfl (by decide) (cr_w Z w_844 rfl hU args) (fun _ h => h) d_M_right_110 rfl) ?_
  refine cr_cons (cr_aload_n_ok hx hb d_M_right_113 rfl rfl) ?_
  refine cr_cons (cr_getf_ok (C := R_M) (T := T_M) (N := 41) hx hb (k_M Z hU args) (fun _ h => h) hown hK rfl (by decide) (cr_w Z w_840 rfl hU args) (fun _ h => h) d_M_right_114 rfl) ?_
  refine cr_cons (cr_iload_ok hx hb d_M_right_117 rfl) ?_
  refine cr_cons (cr_iast_ok (t0 := 0) hx hb hK rfl d_M_right_119 rfl) ?_
  exact cr_nil
set_option maxHeartbeats 4000000 in
set_option maxRecDepth 20000 in
theorem s_M_right_2 {p : Program} {l : Launch} {e : Env} {R : Room} {s : State} {m : MethodId} {args : Array Value} {below : List Frame} {meth : Method} {c : Code} {s0 : State} {D : va_G} {ca : Nat → ClassId} {e0 d mc ms : Nat} {Q : cr_Q} (hl : l.flags = flags0) (Z : cr_Z0 s0 D ca e0) (C : cr_C p R s m meth c (cr_W0 s0) s0.heap.size y_M_right c_M_right 7 (Option.some FieldType.int) d mc ms) (hem : c.exceptionTable.toList = []) : ∀ x ∈ t_M_right_2 l s0 D ca e0 d mc ms, cr_Snd p l e R s m args below meth c s0.heap.size mc ms Q x.1 x.2 := by
  obtain ⟨hx, hb, hml, hown, hr, hlk, hnm, hU, hlo, hR⟩ := C
  have hK := cr_Z0K Z hU
  have hRc : R.cells = mc := by rw [hR]; rfl
  have hRs : R.slots = ms := by rw [hR]; rfl
  unfold t_M_right_2
  refine cr_cons (cr_aload_n_ok hx hb d_M_right_120 rfl rfl) ?_
  refine cr_cons (cr_getf_ok (C := R_M) (T := T_M) (N := 41) hx hb (k_M Z hU args) (fun _ h => h) hown hK rfl (by decide) (cr_w Z w_845 rfl hU args) (fun _ h => h) d_M_right_121 rfl) ?_
  refine cr_cons (cr_aload_n_ok hx hb d_M_right_124 rfl rfl) ?_
  refine cr_cons (cr_getf_ok (C := R_M) (T := T_M) (N := 41) hx hb (k_M Z hU args) (fun _ h => h) hown hK rfl (by decide) (cr_w Z w_840 rfl hU args) (fun _ h => h) d_M_right_125 rfl) ?_
  refine cr_cons (cr_iload_ok hx hb d_M_right_128 rfl) ?_
  refine cr_cons (cr_iast_ok (t0 := 0) hx hb hK rfl d_M_right_130 rfl) ?_
  refine cr_cons (cr_aload_n_ok hx hb d_M_right_131 rfl rfl) ?_
  refine cr_cons (cr_iconst_ok hx hb d_M_right_132 (by decide) rfl) ?_
  refine cr_cons (cr_aload_n_ok hx hb d_M_right_133 rfl rfl) ?_
  refine cr_cons (cr_getf_ok (C := R_M) (T := T_M) (N := 41) hx hb (k_M Z hU args) (fun _ h => h) hown hK rfl (by decide) (cr_w Z w_840 rfl hU args) (fun _ h => h) d_M_right_134 rfl) ?_
  refine cr_cons (cr_iload_ok hx hb d_M_right_137 rfl) ?_
  refine cr_cons (cr_calV_ok (C := R_M) (Tf := T_M) (N := 41) hx hb hml hown hlk hU hlo hR (cr_W0_st s0) (by rw [hem]; exact fun _ h => absurd h List.not_mem_nil) hK rfl (u_M_tell Z) (Or.inl (cr_w Z w_974 rfl hU args)) (cr_w Z w_976 rfl hU args) (cr_w Z ws_33 rfl hU args) (by decide) (by decide +kernel) (by decide) d_M_right_139 rfl) ?_
  refine cr_cons (cr_aload_n_ok hx hb d_M_right_142 rfl rfl) ?_
  refine cr_cons (cr_dup_ok hx hb d_M_right_143 rfl) ?_
  refine cr_cons (cr_getf_ok (C := R_M) (T := T_M) (N := 41) hx hb (k_M Z hU args) (fun _ h => h) hown hK rfl (by decide) (cr_w Z w_840 rfl hU args) (fun _ h => h) d_M_right_144 rfl) ?_
  refine cr_cons (cr_iconst_ok hx hb d_M_right_147 (by decide) rfl) ?_
  refine cr_cons (cr_iadd_ok hx hb d_M_right_148 rfl) ?_
  refine cr_cons (cr_putf_ok (C := R_M) (T := T_M) (N := 41) tt_M hx hb (k_M Z hU args) (fun _ h => h) ty_M nm_M hown hK rfl (by decide) (Or.inl (cr_w Z w_840 rfl hU args)) (fun _ h => h) rfl (by decide +kernel) d_M_right_149 rfl) ?_
  refine cr_cons (cr_aload_n_ok hx hb d_M_right_152 rfl rfl) ?_
  refine cr_cons (cr_getf_ok (C := R_M) (T := T_M) (N := 41) hx hb (k_M Z hU args) (fun _ h => h) hown hK rfl (by decide) (cr_w Z w_840 rfl hU args) (fun _ h => h) d_M_right_153 rfl) ?_
  refine cr_cons (cr_iconst_ok hx hb d_M_right_156 (by decide) rfl) ?_
  refine cr_cons (cr_isub_ok hx hb d_M_right_157 rfl) ?_
  refine cr_cons (cr_iret_ok hx hb hr hlk d_M_right_158) ?_
  exact cr_nil
theorem s_M_right {p : Program} {l : Launch} {e : Env} {R : Room} {s : State} {m : MethodId} {args : Array Value} {below : List Frame} {meth : Method} {c : Code} {s0 : State} {D : va_G} {ca : Nat → ClassId} {e0 d mc ms : Nat} {Q : cr_Q} (hl : l.flags = flags0) (Z : cr_Z0 s0 D ca e0) (C : cr_C p R s m meth c (cr_W0 s0) s0.heap.size y_M_right c_M_right 7 (Option.some FieldType.int) d mc ms) (hem : c.exceptionTable.toList = []) : ∀ x ∈ t_M_right l s0 D ca e0 d mc ms, cr_Snd p l e R s m args below meth c s0.heap.size mc ms Q x.1 x.2 := cr_app (s_M_right_0 hl Z C hem) (cr_app (s_M_right_1 hl Z C hem) (s_M_right_2 hl Z C hem))
theorem d_M_end_0 : decode c_M_end 0 = .ok (.aload_n 0, 1) := by decide +kernel
theorem d_M_end_1 : decode c_M_end 1 = .ok (.iload_n 1, 1) := by decide +kernel
theorem d_M_end_2 : decode c_M_end 2 = .ok (.aload_n 0, 1) := by decide +kernel
theorem d_M_end_3 : decode c_M_end 3 = .ok (.getfield 141, 3) := by decide +kernel
theorem d_M_end_6 : decode c_M_end 6 = .ok (.invokestatic 113, 3) := by decide +kernel
theorem d_M_end_9 : decode c_M_end 9 = .ok (.ifCond .eq 14, 3) := by decide +kernel
theorem d_M_end_12 : decode c_M_end 12 = .ok (.iload_n 2, 1) := by decide +kernel
theorem d_M_end_13 : decode c_M_end 13 = .ok (.invokestatic 130, 3) := by decide +kernel
theorem d_M_end_16 : decode c_M_end 16 = .ok (.ifCond .eq 7, 3) := by decide +kernel
theorem d_M_end_19 : decode c_M_end 19 = .ok (.iconst 1, 1) := by decide +kernel
theorem d_M_end_20 : decode c_M_end 20 = .ok (.goto 4, 3) := by decide +kernel
theorem d_M_end_23 : decode c_M_end 23 = .ok (.iconst 0, 1) := by decide +kernel
theorem d_M_end_24 : decode c_M_end 24 = .ok (.iconst 1, 1) := by decide +kernel
theorem d_M_end_25 : decode c_M_end 25 = .ok (.invokevirtual 120, 3) := by decide +kernel
theorem d_M_end_28 : decode c_M_end 28 = .ok (.ifCond .ne 5, 3) := by decide +kernel
theorem d_M_end_31 : decode c_M_end 31 = .ok (.iconst 0, 1) := by decide +kernel
theorem d_M_end_32 : decode c_M_end 32 = .ok (.ireturn, 1) := by decide +kernel
theorem d_M_end_33 : decode c_M_end 33 = .ok (.aload_n 0, 1) := by decide +kernel
theorem d_M_end_34 : decode c_M_end 34 = .ok (.iconst 2, 1) := by decide +kernel
theorem d_M_end_35 : decode c_M_end 35 = .ok (.iload_n 1, 1) := by decide +kernel
theorem d_M_end_36 : decode c_M_end 36 = .ok (.sipush 9000, 3) := by decide +kernel
theorem d_M_end_39 : decode c_M_end 39 = .ok (.invokevirtual 144, 3) := by decide +kernel
theorem d_M_end_42 : decode c_M_end 42 = .ok (.istore_n 3, 1) := by decide +kernel
theorem d_M_end_43 : decode c_M_end 43 = .ok (.aload_n 0, 1) := by decide +kernel
theorem d_M_end_44 : decode c_M_end 44 = .ok (.iconst 2, 1) := by decide +kernel
theorem d_M_end_45 : decode c_M_end 45 = .ok (.iload_n 1, 1) := by decide +kernel
theorem d_M_end_46 : decode c_M_end 46 = .ok (.iload_n 2, 1) := by decide +kernel
theorem d_M_end_47 : decode c_M_end 47 = .ok (.invokevirtual 137, 3) := by decide +kernel
theorem d_M_end_50 : decode c_M_end 50 = .ok (.iload_n 3, 1) := by decide +kernel
theorem d_M_end_51 : decode c_M_end 51 = .ok (.ireturn, 1) := by decide +kernel
def t_M_end_0 (l : Launch) (s0 : State) (D : va_G) (ca : Nat → ClassId) (e0 d mc ms : Nat) : List (Nat × cr_T) := [(0, cr_aload 0 1),
  (1, cr_iload 1 2),
  (2, cr_aload 0 3),
  (3, cr_getf D kc 11 22 6),
  (6, cr_calS l (cr_W0 s0) s0.heap.size y_M_isIn cw_M_isIn d mc ms 2 4 9),
  (9, cr_ifeq 23 12),
  (12, cr_iload 2 13),
  (13, cr_calS l (cr_W0 s0) s0.heap.size y_M_isMinute cw_M_isMinute d mc ms 1 4 16),
  (16, cr_ifeq 23 19),
  (19, cr_push (.int 1) 20),
  (20, cr_goto 24),
  (23, cr_push (.int 0) 24),
  (24, cr_push (.int 1) 25),
  (25, cr_calV D kc l (cr_W0 s0) s0.heap.size 11 y_M_goes cw_M_goes d mc ms 2 4 28),
  (28, cr_ifne 33 31),
  (31, cr_push (.int 0) 32),
  (32, cr_iret mc ms),
  (33, cr_aload 0 34),
  (34, cr_push (.int 2) 35),
  (35, cr_iload 1 36),
  (36, cr_push (.int 9000) 39),
  (39, cr_calV D kc l (cr_W0 s0) s0.heap.size 11 y_M_told cw_M_told d mc ms 3 4 42),
  (42, cr_istore 3 43),
  (43, cr_aload 0 44),
  (44, cr_push (.int 2) 45),
  (45, cr_iload 1 46),
  (46, cr_iload 2 47),
  (47, cr_calV D kc l (cr_W0 s0) s0.heap.size 11 y_M_tell cw_M_tell d mc ms 3 4 50),
  (50, cr_iload 3 51),
  (51, cr_iret mc ms)]
def t_M_end (l : Launch) (s0 : State) (D : va_G) (ca : Nat → ClassId) (e0 d mc ms : Nat) : List (Nat × cr_T) := t_M_end_0 l s0 D ca e0 d mc ms
set_option maxHeartbeats 4000000 in
set_option maxRecDepth 20000 in
theorem s_M_end_0 {p : Program} {l : Launch} {e : Env} {R : Room} {s : State} {m : MethodId} {args : Array Value} {below : List Frame} {meth : Method} {c : Code} {s0 : State} {D : va_G} {ca : Nat → ClassId} {e0 d mc ms : Nat} {Q : cr_Q} (hl : l.flags = flags0) (Z : cr_Z0 s0 D ca e0) (C : cr_C p R s m meth c (cr_W0 s0) s0.heap.size y_M_end c_M_end 4 (Option.some FieldType.int) d mc ms) (hem : c.exceptionTable.toList = []) : ∀ x ∈ t_M_end_0 l s0 D ca e0 d mc ms, cr_Snd p l e R s m args below meth c s0.heap.size mc ms Q x.1 x.2 := by
  obtain ⟨hx, hb, hml, hown, hr, hlk, hnm, hU, hlo, hR⟩ := C
  have hK := cr_Z0K Z hU
  have hRc : R.cells = mc := by rw [hR]; rfl
  have hRs : R.slots = ms := by rw [hR]; rfl
  unfold t_M_end_0
  refine cr_cons (cr_aload_n_ok hx hb d_M_end_0 rfl rfl) ?_
  refine cr_cons (cr_iload_n_ok hx hb d_M_end_1 rfl rfl) ?_
  refine cr_cons (cr_aload_n_ok hx hb d_M_end_2 rfl rfl) ?_
  refine cr_cons (cr_getf_ok (C := R_M) (T := T_M) (N := 41) hx hb (k_M Z hU args) (fun _ h => h) hown hK rfl (by decide) (cr_w Z w_840 rfl hU args) (fun _ h => h) d_M_end_3 rfl) ?_
  refine cr_cons (cr_calS_ok hx hb hml hown hlk hU hlo hR (cr_W0_st s0) (by rw [hem]; exact fun _ h => absurd h List.not_mem_nil) (u_M_isIn Z) (Or.inl (cr_w Z w_951 rfl hU args)) (cr_w Z w_952 rfl hU args) (by decide) (by decide +kernel) (by decide) d_M_end_6 rfl) ?_
  refine cr_cons (cr_ifeq_ok hx hb d_M_end_9 (by decide) rfl) ?_
  refine cr_cons (cr_iload_n_ok hx hb d_M_end_12 rfl rfl) ?_
  refine cr_cons (cr_calS_ok hx hb hml hown hlk hU hlo hR (cr_W0_st s0) (by rw [hem]; exact fun _ h => absurd h List.not_mem_nil) (u_M_isMinute Z) (Or.inl (cr_w Z w_970 rfl hU args)) (cr_w Z w_971 rfl hU args) (by decide) (by decide +kernel) (by decide) d_M_end_13 rfl) ?_
  refine cr_cons (cr_ifeq_ok hx hb d_M_end_16 (by decide) rfl) ?_
  refine cr_cons (cr_iconst_ok hx hb d_M_end_19 (by decide) rfl) ?_
  refine cr_cons (cr_goto_ok hx hb d_M_end_20 (by decide)) ?_
  refine cr_cons (cr_iconst_ok hx hb d_M_end_23 (by decide) rfl) ?_
  refine cr_cons (cr_iconst_ok hx hb d_M_end_24 (by decide) rfl) ?_
  refine cr_cons (cr_calV_ok (C := R_M) (Tf := T_M) (N := 41) hx hb hml hown hlk hU hlo hR (cr_W0_st s0) (by rw [hem]; exact fun _ h => absurd h List.not_mem_nil) hK rfl (u_M_goes Z) (Or.inl (cr_w Z w_954 rfl hU args)) (cr_w Z w_956 rfl hU args) (cr_w Z ws_32 rfl hU args) (by decide) (by decide +kernel) (by decide) d_M_end_25 rfl) ?_
  refine cr_cons (cr_ifne_ok hx hb d_M_end_28 (by decide) rfl) ?_
  refine cr_cons (cr_iconst_ok hx hb d_M_end_31 (by decide) rfl) ?_
  refine cr_cons (cr_iret_ok hx hb hr hlk d_M_end_32) ?_
  refine cr_cons (cr_aload_n_ok hx hb d_M_end_33 rfl rfl) ?_
  refine cr_cons (cr_iconst_ok hx hb d_M_end_34 (by decide) rfl) ?_
  refine cr_cons (cr_iload_n_ok hx hb d_M_end_35 rfl rfl) ?_
  refine cr_cons (cr_sipush_ok hx hb d_M_end_36 (by decide) rfl) ?_
  refine cr_cons (cr_calV_ok (C := R_M) (Tf := T_M) (N := 41) hx hb hml hown hlk hU hlo hR (cr_W0_st s0) (by rw [hem]; exact fun _ h => absurd h List.not_mem_nil) hK rfl (u_M_told Z) (Or.inl (cr_w Z w_986 rfl hU args)) (cr_w Z w_988 rfl hU args) (cr_w Z ws_34 rfl hU args) (by decide) (by decide +kernel) (by decide) d_M_end_39 rfl) ?_
  refine cr_cons (cr_istore_n_ok hx hb d_M_end_42 rfl rfl) ?_
  refine cr_cons (cr_aload_n_ok hx hb d_M_end_43 rfl rfl) ?_
  refine cr_cons (cr_iconst_ok hx hb d_M_end_44 (by decide) rfl) ?_
  refine cr_cons (cr_iload_n_ok hx hb d_M_end_45 rfl rfl) ?_
  refine cr_cons (cr_iload_n_ok hx hb d_M_end_46 rfl rfl) ?_
  refine cr_cons (cr_calV_ok (C := R_M) (Tf := T_M) (N := 41) hx hb hml hown hlk hU hlo hR (cr_W0_st s0) (by rw [hem]; exact fun _ h => absurd h List.not_mem_nil) hK rfl (u_M_tell Z) (Or.inl (cr_w Z w_974 rfl hU args)) (cr_w Z w_976 rfl hU args) (cr_w Z ws_33 rfl hU args) (by decide) (by decide +kernel) (by decide) d_M_end_47 rfl) ?_
  refine cr_cons (cr_iload_n_ok hx hb d_M_end_50 rfl rfl) ?_
  refine cr_cons (cr_iret_ok hx hb hr hlk d_M_end_51) ?_
  exact cr_nil
theorem s_M_end {p : Program} {l : Launch} {e : Env} {R : Room} {s : State} {m : MethodId} {args : Array Value} {below : List Frame} {meth : Method} {c : Code} {s0 : State} {D : va_G} {ca : Nat → ClassId} {e0 d mc ms : Nat} {Q : cr_Q} (hl : l.flags = flags0) (Z : cr_Z0 s0 D ca e0) (C : cr_C p R s m meth c (cr_W0 s0) s0.heap.size y_M_end c_M_end 4 (Option.some FieldType.int) d mc ms) (hem : c.exceptionTable.toList = []) : ∀ x ∈ t_M_end l s0 D ca e0 d mc ms, cr_Snd p l e R s m args below meth c s0.heap.size mc ms Q x.1 x.2 := s_M_end_0 hl Z C hem
theorem d_M_told_0 : decode c_M_told 0 = .ok (.iload_n 3, 1) := by decide +kernel
theorem d_M_told_1 : decode c_M_told 1 = .ok (.aload_n 0, 1) := by decide +kernel
theorem d_M_told_2 : decode c_M_told 2 = .ok (.getfield 110, 3) := by decide +kernel
theorem d_M_told_5 : decode c_M_told 5 = .ok (.if_icmp .ge 7, 3) := by decide +kernel
theorem d_M_told_8 : decode c_M_told 8 = .ok (.iload_n 3, 1) := by decide +kernel
theorem d_M_told_9 : decode c_M_told 9 = .ok (.goto 7, 3) := by decide +kernel
theorem d_M_told_12 : decode c_M_told 12 = .ok (.aload_n 0, 1) := by decide +kernel
theorem d_M_told_13 : decode c_M_told 13 = .ok (.getfield 110, 3) := by decide +kernel
theorem d_M_told_16 : decode c_M_told 16 = .ok (.iconst 1, 1) := by decide +kernel
theorem d_M_told_17 : decode c_M_told 17 = .ok (.isub, 1) := by decide +kernel
theorem d_M_told_18 : decode c_M_told 18 = .ok (.istore 4, 2) := by decide +kernel
theorem d_M_told_20 : decode c_M_told 20 = .ok (.iload 4, 2) := by decide +kernel
theorem d_M_told_22 : decode c_M_told 22 = .ok (.ifCond .lt 39, 3) := by decide +kernel
theorem d_M_told_25 : decode c_M_told 25 = .ok (.aload_n 0, 1) := by decide +kernel
theorem d_M_told_26 : decode c_M_told 26 = .ok (.getfield 74, 3) := by decide +kernel
theorem d_M_told_29 : decode c_M_told 29 = .ok (.iload 4, 2) := by decide +kernel
theorem d_M_told_31 : decode c_M_told 31 = .ok (.iaload, 1) := by decide +kernel
theorem d_M_told_32 : decode c_M_told 32 = .ok (.iload_n 1, 1) := by decide +kernel
theorem d_M_told_33 : decode c_M_told 33 = .ok (.if_icmp .ne 22, 3) := by decide +kernel
theorem d_M_told_36 : decode c_M_told 36 = .ok (.aload_n 0, 1) := by decide +kernel
theorem d_M_told_37 : decode c_M_told 37 = .ok (.getfield 77, 3) := by decide +kernel
theorem d_M_told_40 : decode c_M_told 40 = .ok (.iload 4, 2) := by decide +kernel
theorem d_M_told_42 : decode c_M_told 42 = .ok (.iaload, 1) := by decide +kernel
theorem d_M_told_43 : decode c_M_told 43 = .ok (.iload_n 2, 1) := by decide +kernel
theorem d_M_told_44 : decode c_M_told 44 = .ok (.if_icmp .ne 11, 3) := by decide +kernel
theorem d_M_told_47 : decode c_M_told 47 = .ok (.aload_n 0, 1) := by decide +kernel
theorem d_M_told_48 : decode c_M_told 48 = .ok (.getfield 80, 3) := by decide +kernel
theorem d_M_told_51 : decode c_M_told 51 = .ok (.iload 4, 2) := by decide +kernel
theorem d_M_told_53 : decode c_M_told 53 = .ok (.iaload, 1) := by decide +kernel
theorem d_M_told_54 : decode c_M_told 54 = .ok (.ireturn, 1) := by decide +kernel
theorem d_M_told_55 : decode c_M_told 55 = .ok (.iinc 4 (-1), 3) := by decide +kernel
theorem d_M_told_58 : decode c_M_told 58 = .ok (.goto (-38), 3) := by decide +kernel
theorem d_M_told_61 : decode c_M_told 61 = .ok (.iconst (-1), 1) := by decide +kernel
theorem d_M_told_62 : decode c_M_told 62 = .ok (.ireturn, 1) := by decide +kernel
def t_M_told_0 (l : Launch) (s0 : State) (D : va_G) (ca : Nat → ClassId) (e0 d mc ms : Nat) : List (Nat × cr_T) := [(0, cr_iload 3 1),
  (1, cr_aload 0 2),
  (2, cr_getf D kc 11 28 5),
  (5, cr_icge 12 8),
  (8, cr_iload 3 9),
  (9, cr_goto 16),
  (12, cr_aload 0 13),
  (13, cr_getf D kc 11 28 16),
  (16, cr_push (.int 1) 17),
  (17, cr_isub 18),
  (18, cr_istore 4 20),
  (20, cr_iload 4 22),
  (22, cr_iflt 61 25),
  (25, cr_aload 0 26),
  (26, cr_getf D kc 11 29 29),
  (29, cr_iload 4 31),
  (31, cr_iald D kc (ca 0) 32),
  (32, cr_iload 1 33),
  (33, cr_icne 55 36),
  (36, cr_aload 0 37),
  (37, cr_getf D kc 11 30 40),
  (40, cr_iload 4 42),
  (42, cr_iald D kc (ca 0) 43),
  (43, cr_iload 2 44),
  (44, cr_icne 55 47),
  (47, cr_aload 0 48),
  (48, cr_getf D kc 11 31 51),
  (51, cr_iload 4 53),
  (53, cr_iald D kc (ca 0) 54),
  (54, cr_iret mc ms)]
def t_M_told_1 (l : Launch) (s0 : State) (D : va_G) (ca : Nat → ClassId) (e0 d mc ms : Nat) : List (Nat × cr_T) := [(55, cr_iinc 4 (-1) 58),
  (58, cr_goto 20),
  (61, cr_push (.int (-1)) 62),
  (62, cr_iret mc ms)]
def t_M_told (l : Launch) (s0 : State) (D : va_G) (ca : Nat → ClassId) (e0 d mc ms : Nat) : List (Nat × cr_T) := t_M_told_0 l s0 D ca e0 d mc ms ++ (t_M_told_1 l s0 D ca e0 d mc ms)
set_option maxHeartbeats 4000000 in
set_option maxRecDepth 20000 in
theorem s_M_told_0 {p : Program} {l : Launch} {e : Env} {R : Room} {s : State} {m : MethodId} {args : Array Value} {below : List Frame} {meth : Method} {c : Code} {s0 : State} {D : va_G} {ca : Nat → ClassId} {e0 d mc ms : Nat} {Q : cr_Q} (hl : l.flags = flags0) (Z : cr_Z0 s0 D ca e0) (C : cr_C p R s m meth c (cr_W0 s0) s0.heap.size y_M_told c_M_told 5 (Option.some FieldType.int) d mc ms) (hem : c.exceptionTable.toList = []) : ∀ x ∈ t_M_told_0 l s0 D ca e0 d mc ms, cr_Snd p l e R s m args below meth c s0.heap.size mc ms Q x.1 x.2 := by
  obtain ⟨hx, hb, hml, hown, hr, hlk, hnm, hU, hlo, hR⟩ := C
  have hK := cr_Z0K Z hU
  have hRc : R.cells = mc := by rw [hR]; rfl
  have hRs : R.slots = ms := by rw [hR]; rfl
  unfold t_M_told_0
  refine cr_cons (cr_iload_n_ok hx hb d_M_told_0 rfl rfl) ?_
  refine cr_cons (cr_aload_n_ok hx hb d_M_told_1 rfl rfl) ?_
  refine cr_cons (cr_getf_ok (C := R_M) (T := T_M) (N := 41) hx hb (k_M Z hU args) (fun _ h => h) hown hK rfl (by decide) (cr_w Z w_846 rfl hU args) (fun _ h => h) d_M_told_2 rfl) ?_
  refine cr_cons (cr_icge_ok hx hb d_M_told_5 (by decide) rfl) ?_
  refine cr_cons (cr_iload_n_ok hx hb d_M_told_8 rfl rfl) ?_
  refine cr_cons (cr_goto_ok hx hb d_M_told_9 (by decide)) ?_
  refine cr_cons (cr_aload_n_ok hx hb d_M_told_12 rfl rfl) ?_
  refine cr_cons (cr_getf_ok (C := R_M) (T := T_M) (N := 41) hx hb (k_M Z hU args) (fun _ h => h) hown hK rfl (by decide) (cr_w Z w_846 rfl hU args) (fun _ h => h) d_M_told_13 rfl) ?_
  refine cr_cons (cr_iconst_ok hx hb d_M_told_16 (by decide) rfl) ?_
  refine cr_cons (cr_isub_ok hx hb d_M_told_17 rfl) ?_
  refine cr_cons (cr_istore_ok hx hb d_M_told_18 rfl) ?_
  refine cr_cons (cr_iload_ok hx hb d_M_told_20 rfl) ?_
  refine cr_cons (cr_iflt_ok hx hb d_M_told_22 (by decide) rfl) ?_
  refine cr_cons (cr_aload_n_ok hx hb d_M_told_25 rfl rfl) ?_
  refine cr_cons (cr_getf_ok (C := R_M) (T := T_M) (N := 41) hx hb (k_M Z hU args) (fun _ h => h) hown hK rfl (by decide) (cr_w Z w_847 rfl hU args) (fun _ h => h) d_M_told_26 rfl) ?_
  refine cr_cons (cr_iload_ok hx hb d_M_told_29 rfl) ?_
  refine cr_cons (cr_iald_ok (t0 := 0) hx hb hK rfl d_M_told_31 rfl) ?_
  refine cr_cons (cr_iload_n_ok hx hb d_M_told_32 rfl rfl) ?_
  refine cr_cons (cr_icne_ok hx hb d_M_told_33 (by decide) rfl) ?_
  refine cr_cons (cr_aload_n_ok hx hb d_M_told_36 rfl rfl) ?_
  refine cr_cons (cr_getf_ok (C := R_M) (T := T_M) (N := 41) hx hb (k_M Z hU args) (fun _ h => h) hown hK rfl (by decide) (cr_w Z w_848 rfl hU args) (fun _ h => h) d_M_told_37 rfl) ?_
  refine cr_cons (cr_iload_ok hx hb d_M_told_40 rfl) ?_
  refine cr_cons (cr_iald_ok (t0 := 0) hx hb hK rfl d_M_told_42 rfl) ?_
  refine cr_cons (cr_iload_n_ok hx hb d_M_told_43 rfl rfl) ?_
  refine cr_cons (cr_icne_ok hx hb d_M_told_44 (by decide) rfl) ?_
  refine cr_cons (cr_aload_n_ok hx hb d_M_told_47 rfl rfl) ?_
  refine cr_cons (cr_getf_ok (C := R_M) (T := T_M) (N := 41) hx hb (k_M Z hU args) (fun _ h => h) hown hK rfl (by decide) (cr_w Z w_849 rfl hU args) (fun _ h => h) d_M_told_48 rfl) ?_
  refine cr_cons (cr_iload_ok hx hb d_M_told_51 rfl) ?_
  refine cr_cons (cr_iald_ok (t0 := 0) hx hb hK rfl d_M_told_53 rfl) ?_
  refine cr_cons (cr_iret_ok hx hb hr hlk d_M_told_54) ?_
  exact cr_nil
set_option maxHeartbeats 4000000 in
set_option maxRecDepth 20000 in
theorem s_M_told_1 {p : Program} {l : Launch} {e : Env} {R : Room} {s : State} {m : MethodId} {args : Array Value} {below : List Frame} {meth : Method} {c : Code} {s0 : State} {D : va_G} {ca : Nat → ClassId} {e0 d mc ms : Nat} {Q : cr_Q} (hl : l.flags = flags0) (Z : cr_Z0 s0 D ca e0) (C : cr_C p R s m meth c (cr_W0 s0) s0.heap.size y_M_told c_M_told 5 (Option.some FieldType.int) d mc ms) (hem : c.exceptionTable.toList = []) : ∀ x ∈ t_M_told_1 l s0 D ca e0 d mc ms, cr_Snd p l e R s m args below meth c s0.heap.size mc ms Q x.1 x.2 := by
  obtain ⟨hx, hb, hml, hown, hr, hlk, hnm, hU, hlo, hR⟩ := C
  have hK := cr_Z0K Z hU
  have hRc : R.cells = mc := by rw [hR]; rfl
  have hRs : R.slots = ms := by rw [hR]; rfl
  unfold t_M_told_1
  refine cr_cons (cr_iinc_ok hx hb d_M_told_55 (by decide) rfl) ?_
  refine cr_cons (cr_goto_ok hx hb d_M_told_58 (by decide)) ?_
  refine cr_cons (cr_iconst_ok hx hb d_M_told_61 (by decide) rfl) ?_
  refine cr_cons (cr_iret_ok hx hb hr hlk d_M_told_62) ?_
  exact cr_nil
theorem s_M_told {p : Program} {l : Launch} {e : Env} {R : Room} {s : State} {m : MethodId} {args : Array Value} {below : List Frame} {meth : Method} {c : Code} {s0 : State} {D : va_G} {ca : Nat → ClassId} {e0 d mc ms : Nat} {Q : cr_Q} (hl : l.flags = flags0) (Z : cr_Z0 s0 D ca e0) (C : cr_C p R s m meth c (cr_W0 s0) s0.heap.size y_M_told c_M_told 5 (Option.some FieldType.int) d mc ms) (hem : c.exceptionTable.toList = []) : ∀ x ∈ t_M_told l s0 D ca e0 d mc ms, cr_Snd p l e R s m args below meth c s0.heap.size mc ms Q x.1 x.2 := cr_app (s_M_told_0 hl Z C hem) (s_M_told_1 hl Z C hem)
theorem d_M_lost_0 : decode c_M_lost 0 = .ok (.aload_n 0, 1) := by decide +kernel
theorem d_M_lost_1 : decode c_M_lost 1 = .ok (.iload_n 1, 1) := by decide +kernel
theorem d_M_lost_2 : decode c_M_lost 2 = .ok (.aload_n 0, 1) := by decide +kernel
theorem d_M_lost_3 : decode c_M_lost 3 = .ok (.getfield 134, 3) := by decide +kernel
theorem d_M_lost_6 : decode c_M_lost 6 = .ok (.invokestatic 113, 3) := by decide +kernel
theorem d_M_lost_9 : decode c_M_lost 9 = .ok (.ifCond .eq 14, 3) := by decide +kernel
theorem d_M_lost_12 : decode c_M_lost 12 = .ok (.iload_n 2, 1) := by decide +kernel
theorem d_M_lost_13 : decode c_M_lost 13 = .ok (.invokestatic 130, 3) := by decide +kernel
theorem d_M_lost_16 : decode c_M_lost 16 = .ok (.ifCond .eq 7, 3) := by decide +kernel
theorem d_M_lost_19 : decode c_M_lost 19 = .ok (.iconst 1, 1) := by decide +kernel
theorem d_M_lost_20 : decode c_M_lost 20 = .ok (.goto 4, 3) := by decide +kernel
theorem d_M_lost_23 : decode c_M_lost 23 = .ok (.iconst 0, 1) := by decide +kernel
theorem d_M_lost_24 : decode c_M_lost 24 = .ok (.iconst 1, 1) := by decide +kernel
theorem d_M_lost_25 : decode c_M_lost 25 = .ok (.invokevirtual 120, 3) := by decide +kernel
theorem d_M_lost_28 : decode c_M_lost 28 = .ok (.ifCond .ne 5, 3) := by decide +kernel
theorem d_M_lost_31 : decode c_M_lost 31 = .ok (.iconst 0, 1) := by decide +kernel
theorem d_M_lost_32 : decode c_M_lost 32 = .ok (.ireturn, 1) := by decide +kernel
theorem d_M_lost_33 : decode c_M_lost 33 = .ok (.aload_n 0, 1) := by decide +kernel
theorem d_M_lost_34 : decode c_M_lost 34 = .ok (.iconst 3, 1) := by decide +kernel
theorem d_M_lost_35 : decode c_M_lost 35 = .ok (.iload_n 1, 1) := by decide +kernel
theorem d_M_lost_36 : decode c_M_lost 36 = .ok (.sipush 9000, 3) := by decide +kernel
theorem d_M_lost_39 : decode c_M_lost 39 = .ok (.invokevirtual 144, 3) := by decide +kernel
theorem d_M_lost_42 : decode c_M_lost 42 = .ok (.istore_n 3, 1) := by decide +kernel
theorem d_M_lost_43 : decode c_M_lost 43 = .ok (.aload_n 0, 1) := by decide +kernel
theorem d_M_lost_44 : decode c_M_lost 44 = .ok (.iconst 3, 1) := by decide +kernel
theorem d_M_lost_45 : decode c_M_lost 45 = .ok (.iload_n 1, 1) := by decide +kernel
theorem d_M_lost_46 : decode c_M_lost 46 = .ok (.iload_n 2, 1) := by decide +kernel
theorem d_M_lost_47 : decode c_M_lost 47 = .ok (.invokevirtual 137, 3) := by decide +kernel
theorem d_M_lost_50 : decode c_M_lost 50 = .ok (.iload_n 3, 1) := by decide +kernel
theorem d_M_lost_51 : decode c_M_lost 51 = .ok (.ireturn, 1) := by decide +kernel
def t_M_lost_0 (l : Launch) (s0 : State) (D : va_G) (ca : Nat → ClassId) (e0 d mc ms : Nat) : List (Nat × cr_T) := [(0, cr_aload 0 1),
  (1, cr_iload 1 2),
  (2, cr_aload 0 3),
  (3, cr_getf D kc 11 19 6),
  (6, cr_calS l (cr_W0 s0) s0.heap.size y_M_isIn cw_M_isIn d mc ms 2 4 9),
  (9, cr_ifeq 23 12),
  (12, cr_iload 2 13),
  (13, cr_calS l (cr_W0 s0) s0.heap.size y_M_isMinute cw_M_isMinute d mc ms 1 4 16),
  (16, cr_ifeq 23 19),
  (19, cr_push (.int 1) 20),
  (20, cr_goto 24),
  (23, cr_push (.int 0) 24),
  (24, cr_push (.int 1) 25),
  (25, cr_calV D kc l (cr_W0 s0) s0.heap.size 11 y_M_goes cw_M_goes d mc ms 2 4 28),
  (28, cr_ifne 33 31),
  (31, cr_push (.int 0) 32),
  (32, cr_iret mc ms),
  (33, cr_aload 0 34),
  (34, cr_push (.int 3) 35),
  (35, cr_iload 1 36),
  (36, cr_push (.int 9000) 39),
  (39, cr_calV D kc l (cr_W0 s0) s0.heap.size 11 y_M_told cw_M_told d mc ms 3 4 42),
  (42, cr_istore 3 43),
  (43, cr_aload 0 44),
  (44, cr_push (.int 3) 45),
  (45, cr_iload 1 46),
  (46, cr_iload 2 47),
  (47, cr_calV D kc l (cr_W0 s0) s0.heap.size 11 y_M_tell cw_M_tell d mc ms 3 4 50),
  (50, cr_iload 3 51),
  (51, cr_iret mc ms)]
def t_M_lost (l : Launch) (s0 : State) (D : va_G) (ca : Nat → ClassId) (e0 d mc ms : Nat) : List (Nat × cr_T) := t_M_lost_0 l s0 D ca e0 d mc ms
set_option maxHeartbeats 4000000 in
set_option maxRecDepth 20000 in
theorem s_M_lost_0 {p : Program} {l : Launch} {e : Env} {R : Room} {s : State} {m : MethodId} {args : Array Value} {below : List Frame} {meth : Method} {c : Code} {s0 : State} {D : va_G} {ca : Nat → ClassId} {e0 d mc ms : Nat} {Q : cr_Q} (hl : l.flags = flags0) (Z : cr_Z0 s0 D ca e0) (C : cr_C p R s m meth c (cr_W0 s0) s0.heap.size y_M_lost c_M_lost 4 (Option.some FieldType.int) d mc ms) (hem : c.exceptionTable.toList = []) : ∀ x ∈ t_M_lost_0 l s0 D ca e0 d mc ms, cr_Snd p l e R s m args below meth c s0.heap.size mc ms Q x.1 x.2 := by
  obtain ⟨hx, hb, hml, hown, hr, hlk, hnm, hU, hlo, hR⟩ := C
  have hK := cr_Z0K Z hU
  have hRc : R.cells = mc := by rw [hR]; rfl
  have hRs : R.slots = ms := by rw [hR]; rfl
  unfold t_M_lost_0
  refine cr_cons (cr_aload_n_ok hx hb d_M_lost_0 rfl rfl) ?_
  refine cr_cons (cr_iload_n_ok hx hb d_M_lost_1 rfl rfl) ?_
  refine cr_cons (cr_aload_n_ok hx hb d_M_lost_2 rfl rfl) ?_
  refine cr_cons (cr_getf_ok (C := R_M) (T := T_M) (N := 41) hx hb (k_M Z hU args) (fun _ h => h) hown hK rfl (by decide) (cr_w Z w_837 rfl hU args) (fun _ h => h) d_M_lost_3 rfl) ?_
  refine cr_cons (cr_calS_ok hx hb hml hown hlk hU hlo hR (cr_W0_st s0) (by rw [hem]; exact fun _ h => absurd h List.not_mem_nil) (u_M_isIn Z) (Or.inl (cr_w Z w_951 rfl hU args)) (cr_w Z w_952 rfl hU args) (by decide) (by decide +kernel) (by decide) d_M_lost_6 rfl) ?_
  refine cr_cons (cr_ifeq_ok hx hb d_M_lost_9 (by decide) rfl) ?_
  refine cr_cons (cr_iload_n_ok hx hb d_M_lost_12 rfl rfl) ?_
  refine cr_cons (cr_calS_ok hx hb hml hown hlk hU hlo hR (cr_W0_st s0) (by rw [hem]; exact fun _ h => absurd h List.not_mem_nil) (u_M_isMinute Z) (Or.inl (cr_w Z w_970 rfl hU args)) (cr_w Z w_971 rfl hU args) (by decide) (by decide +kernel) (by decide) d_M_lost_13 rfl) ?_
  refine cr_cons (cr_ifeq_ok hx hb d_M_lost_16 (by decide) rfl) ?_
  refine cr_cons (cr_iconst_ok hx hb d_M_lost_19 (by decide) rfl) ?_
  refine cr_cons (cr_goto_ok hx hb d_M_lost_20 (by decide)) ?_
  refine cr_cons (cr_iconst_ok hx hb d_M_lost_23 (by decide) rfl) ?_
  refine cr_cons (cr_iconst_ok hx hb d_M_lost_24 (by decide) rfl) ?_
  refine cr_cons (cr_calV_ok (C := R_M) (Tf := T_M) (N := 41) hx hb hml hown hlk hU hlo hR (cr_W0_st s0) (by rw [hem]; exact fun _ h => absurd h List.not_mem_nil) hK rfl (u_M_goes Z) (Or.inl (cr_w Z w_954 rfl hU args)) (cr_w Z w_956 rfl hU args) (cr_w Z ws_32 rfl hU args) (by decide) (by decide +kernel) (by decide) d_M_lost_25 rfl) ?_
  refine cr_cons (cr_ifne_ok hx hb d_M_lost_28 (by decide) rfl) ?_
  refine cr_cons (cr_iconst_ok hx hb d_M_lost_31 (by decide) rfl) ?_
  refine cr_cons (cr_iret_ok hx hb hr hlk d_M_lost_32) ?_
  refine cr_cons (cr_aload_n_ok hx hb d_M_lost_33 rfl rfl) ?_
  refine cr_cons (cr_iconst_ok hx hb d_M_lost_34 (by decide) rfl) ?_
  refine cr_cons (cr_iload_n_ok hx hb d_M_lost_35 rfl rfl) ?_
  refine cr_cons (cr_sipush_ok hx hb d_M_lost_36 (by decide) rfl) ?_
  refine cr_cons (cr_calV_ok (C := R_M) (Tf := T_M) (N := 41) hx hb hml hown hlk hU hlo hR (cr_W0_st s0) (by rw [hem]; exact fun _ h => absurd h List.not_mem_nil) hK rfl (u_M_told Z) (Or.inl (cr_w Z w_986 rfl hU args)) (cr_w Z w_988 rfl hU args) (cr_w Z ws_34 rfl hU args) (by decide) (by decide +kernel) (by decide) d_M_lost_39 rfl) ?_
  refine cr_cons (cr_istore_n_ok hx hb d_M_lost_42 rfl rfl) ?_
  refine cr_cons (cr_aload_n_ok hx hb d_M_lost_43 rfl rfl) ?_
  refine cr_cons (cr_iconst_ok hx hb d_M_lost_44 (by decide) rfl) ?_
  refine cr_cons (cr_iload_n_ok hx hb d_M_lost_45 rfl rfl) ?_
  refine cr_cons (cr_iload_n_ok hx hb d_M_lost_46 rfl rfl) ?_
  refine cr_cons (cr_calV_ok (C := R_M) (Tf := T_M) (N := 41) hx hb hml hown hlk hU hlo hR (cr_W0_st s0) (by rw [hem]; exact fun _ h => absurd h List.not_mem_nil) hK rfl (u_M_tell Z) (Or.inl (cr_w Z w_974 rfl hU args)) (cr_w Z w_976 rfl hU args) (cr_w Z ws_33 rfl hU args) (by decide) (by decide +kernel) (by decide) d_M_lost_47 rfl) ?_
  refine cr_cons (cr_iload_n_ok hx hb d_M_lost_50 rfl rfl) ?_
  refine cr_cons (cr_iret_ok hx hb hr hlk d_M_lost_51) ?_
  exact cr_nil
theorem s_M_lost {p : Program} {l : Launch} {e : Env} {R : Room} {s : State} {m : MethodId} {args : Array Value} {below : List Frame} {meth : Method} {c : Code} {s0 : State} {D : va_G} {ca : Nat → ClassId} {e0 d mc ms : Nat} {Q : cr_Q} (hl : l.flags = flags0) (Z : cr_Z0 s0 D ca e0) (C : cr_C p R s m meth c (cr_W0 s0) s0.heap.size y_M_lost c_M_lost 4 (Option.some FieldType.int) d mc ms) (hem : c.exceptionTable.toList = []) : ∀ x ∈ t_M_lost l s0 D ca e0 d mc ms, cr_Snd p l e R s m args below meth c s0.heap.size mc ms Q x.1 x.2 := s_M_lost_0 hl Z C hem
theorem d_M_two_0 : decode c_M_two 0 = .ok (.aload_n 0, 1) := by decide +kernel
theorem d_M_two_1 : decode c_M_two 1 = .ok (.iload_n 1, 1) := by decide +kernel
theorem d_M_two_2 : decode c_M_two 2 = .ok (.aload_n 0, 1) := by decide +kernel
theorem d_M_two_3 : decode c_M_two 3 = .ok (.getfield 124, 3) := by decide +kernel
theorem d_M_two_6 : decode c_M_two 6 = .ok (.invokestatic 113, 3) := by decide +kernel
theorem d_M_two_9 : decode c_M_two 9 = .ok (.iconst 1, 1) := by decide +kernel
theorem d_M_two_10 : decode c_M_two 10 = .ok (.invokevirtual 120, 3) := by decide +kernel
theorem d_M_two_13 : decode c_M_two 13 = .ok (.ifCond .ne 5, 3) := by decide +kernel
theorem d_M_two_16 : decode c_M_two 16 = .ok (.iconst 0, 1) := by decide +kernel
theorem d_M_two_17 : decode c_M_two 17 = .ok (.ireturn, 1) := by decide +kernel
theorem d_M_two_18 : decode c_M_two 18 = .ok (.aload_n 0, 1) := by decide +kernel
theorem d_M_two_19 : decode c_M_two 19 = .ok (.getfield 19, 3) := by decide +kernel
theorem d_M_two_22 : decode c_M_two 22 = .ok (.iload_n 1, 1) := by decide +kernel
theorem d_M_two_23 : decode c_M_two 23 = .ok (.baload, 1) := by decide +kernel
theorem d_M_two_24 : decode c_M_two 24 = .ok (.istore_n 3, 1) := by decide +kernel
theorem d_M_two_25 : decode c_M_two 25 = .ok (.aload_n 0, 1) := by decide +kernel
theorem d_M_two_26 : decode c_M_two 26 = .ok (.getfield 19, 3) := by decide +kernel
theorem d_M_two_29 : decode c_M_two 29 = .ok (.iload_n 1, 1) := by decide +kernel
theorem d_M_two_30 : decode c_M_two 30 = .ok (.iload_n 2, 1) := by decide +kernel
theorem d_M_two_31 : decode c_M_two 31 = .ok (.bastore, 1) := by decide +kernel
theorem d_M_two_32 : decode c_M_two 32 = .ok (.iload_n 3, 1) := by decide +kernel
theorem d_M_two_33 : decode c_M_two 33 = .ok (.ireturn, 1) := by decide +kernel
def t_M_two_0 (l : Launch) (s0 : State) (D : va_G) (ca : Nat → ClassId) (e0 d mc ms : Nat) : List (Nat × cr_T) := [(0, cr_aload 0 1),
  (1, cr_iload 1 2),
  (2, cr_aload 0 3),
  (3, cr_getf D kc 11 4 6),
  (6, cr_calS l (cr_W0 s0) s0.heap.size y_M_isIn cw_M_isIn d mc ms 2 4 9),
  (9, cr_push (.int 1) 10),
  (10, cr_calV D kc l (cr_W0 s0) s0.heap.size 11 y_M_goes cw_M_goes d mc ms 2 4 13),
  (13, cr_ifne 18 16),
  (16, cr_push (.int 0) 17),
  (17, cr_zret mc ms .boolean),
  (18, cr_aload 0 19),
  (19, cr_getf D kc 11 7 22),
  (22, cr_iload 1 23),
  (23, cr_zald D kc (ca 2) 24),
  (24, cr_istore 3 25),
  (25, cr_aload 0 26),
  (26, cr_getf D kc 11 7 29),
  (29, cr_iload 1 30),
  (30, cr_iload 2 31),
  (31, cr_zast D kc s0.heap.size (ca 2) 32),
  (32, cr_iload 3 33),
  (33, cr_zret mc ms .boolean)]
def t_M_two (l : Launch) (s0 : State) (D : va_G) (ca : Nat → ClassId) (e0 d mc ms : Nat) : List (Nat × cr_T) := t_M_two_0 l s0 D ca e0 d mc ms
set_option maxHeartbeats 4000000 in
set_option maxRecDepth 20000 in
theorem s_M_two_0 {p : Program} {l : Launch} {e : Env} {R : Room} {s : State} {m : MethodId} {args : Array Value} {below : List Frame} {meth : Method} {c : Code} {s0 : State} {D : va_G} {ca : Nat → ClassId} {e0 d mc ms : Nat} {Q : cr_Q} (hl : l.flags = flags0) (Z : cr_Z0 s0 D ca e0) (C : cr_C p R s m meth c (cr_W0 s0) s0.heap.size y_M_two c_M_two 4 (Option.some FieldType.boolean) d mc ms) (hem : c.exceptionTable.toList = []) : ∀ x ∈ t_M_two_0 l s0 D ca e0 d mc ms, cr_Snd p l e R s m args below meth c s0.heap.size mc ms Q x.1 x.2 := by
  obtain ⟨hx, hb, hml, hown, hr, hlk, hnm, hU, hlo, hR⟩ := C
  have hK := cr_Z0K Z hU
  have hRc : R.cells = mc := by rw [hR]; rfl
  have hRs : R.slots = ms := by rw [hR]; rfl
  unfold t_M_two_0
  refine cr_cons (cr_aload_n_ok hx hb d_M_two_0 rfl rfl) ?_
  refine cr_cons (cr_iload_n_ok hx hb d_M_two_1 rfl rfl) ?_
  refine cr_cons (cr_aload_n_ok hx hb d_M_two_2 rfl rfl) ?_
  refine cr_cons (cr_getf_ok (C := R_M) (T := T_M) (N := 41) hx hb (k_M Z hU args) (fun _ h => h) hown hK rfl (by decide) (cr_w Z w_822 rfl hU args) (fun _ h => h) d_M_two_3 rfl) ?_
  refine cr_cons (cr_calS_ok hx hb hml hown hlk hU hlo hR (cr_W0_st s0) (by rw [hem]; exact fun _ h => absurd h List.not_mem_nil) (u_M_isIn Z) (Or.inl (cr_w Z w_951 rfl hU args)) (cr_w Z w_952 rfl hU args) (by decide) (by decide +kernel) (by decide) d_M_two_6 rfl) ?_
  refine cr_cons (cr_iconst_ok hx hb d_M_two_9 (by decide) rfl) ?_
  refine cr_cons (cr_calV_ok (C := R_M) (Tf := T_M) (N := 41) hx hb hml hown hlk hU hlo hR (cr_W0_st s0) (by rw [hem]; exact fun _ h => absurd h List.not_mem_nil) hK rfl (u_M_goes Z) (Or.inl (cr_w Z w_954 rfl hU args)) (cr_w Z w_956 rfl hU args) (cr_w Z ws_32 rfl hU args) (by decide) (by decide +kernel) (by decide) d_M_two_10 rfl) ?_
  refine cr_cons (cr_ifne_ok hx hb d_M_two_13 (by decide) rfl) ?_
  refine cr_cons (cr_iconst_ok hx hb d_M_two_16 (by decide) rfl) ?_
  refine cr_cons (cr_zret_ok hx hb hr hlk d_M_two_17) ?_
  refine cr_cons (cr_aload_n_ok hx hb d_M_two_18 rfl rfl) ?_
  refine cr_cons (cr_getf_ok (C := R_M) (T := T_M) (N := 41) hx hb (k_M Z hU args) (fun _ h => h) hown hK rfl (by decide) (cr_w Z w_825 rfl hU args) (fun _ h => h) d_M_two_19 rfl) ?_
  refine cr_cons (cr_iload_n_ok hx hb d_M_two_22 rfl rfl) ?_
  refine cr_cons (cr_zald_ok (t0 := 2) hx hb hK rfl d_M_two_23 rfl) ?_
  refine cr_cons (cr_istore_n_ok hx hb d_M_two_24 rfl rfl) ?_
  refine cr_cons (cr_aload_n_ok hx hb d_M_two_25 rfl rfl) ?_
  refine cr_cons (cr_getf_ok (C := R_M) (T := T_M) (N := 41) hx hb (k_M Z hU args) (fun _ h => h) hown hK rfl (by decide) (cr_w Z w_825 rfl hU args) (fun _ h => h) d_M_two_26 rfl) ?_
  refine cr_cons (cr_iload_n_ok hx hb d_M_two_29 rfl rfl) ?_
  refine cr_cons (cr_iload_n_ok hx hb d_M_two_30 rfl rfl) ?_
  refine cr_cons (cr_zast_ok (t0 := 2) hx hb hK rfl d_M_two_31 rfl) ?_
  refine cr_cons (cr_iload_n_ok hx hb d_M_two_32 rfl rfl) ?_
  refine cr_cons (cr_zret_ok hx hb hr hlk d_M_two_33) ?_
  exact cr_nil
theorem s_M_two {p : Program} {l : Launch} {e : Env} {R : Room} {s : State} {m : MethodId} {args : Array Value} {below : List Frame} {meth : Method} {c : Code} {s0 : State} {D : va_G} {ca : Nat → ClassId} {e0 d mc ms : Nat} {Q : cr_Q} (hl : l.flags = flags0) (Z : cr_Z0 s0 D ca e0) (C : cr_C p R s m meth c (cr_W0 s0) s0.heap.size y_M_two c_M_two 4 (Option.some FieldType.boolean) d mc ms) (hem : c.exceptionTable.toList = []) : ∀ x ∈ t_M_two l s0 D ca e0 d mc ms, cr_Snd p l e R s m args below meth c s0.heap.size mc ms Q x.1 x.2 := s_M_two_0 hl Z C hem
