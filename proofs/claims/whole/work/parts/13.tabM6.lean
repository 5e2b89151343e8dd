theorem d_M_both_0 : decode c_M_both 0 = .ok (.iload_n 1, 1) := by decide +kernel
theorem d_M_both_1 : decode c_M_both 1 = .ok (.aload_n 0, 1) := by decide +kernel
theorem d_M_both_2 : decode c_M_both 2 = .ok (.getfield 134, 3) := by decide +kernel
theorem d_M_both_5 : decode c_M_both 5 = .ok (.invokestatic 113, 3) := by decide +kernel
theorem d_M_both_8 : decode c_M_both 8 = .ok (.ifCond .eq 42, 3) := by decide +kernel
theorem d_M_both_11 : decode c_M_both 11 = .ok (.iload_n 2, 1) := by decide +kernel
theorem d_M_both_12 : decode c_M_both 12 = .ok (.aload_n 0, 1) := by decide +kernel
theorem d_M_both_13 : decode c_M_both 13 = .ok (.getfield 134, 3) := by decide +kernel
theorem d_M_both_16 : decode c_M_both 16 = .ok (.invokestatic 113, 3) := by decide +kernel
theorem d_M_both_19 : decode c_M_both 19 = .ok (.ifCond .eq 31, 3) := by decide +kernel
theorem d_M_both_22 : decode c_M_both 22 = .ok (.iload_n 1, 1) := by decide +kernel
theorem d_M_both_23 : decode c_M_both 23 = .ok (.iload_n 2, 1) := by decide +kernel
theorem d_M_both_24 : decode c_M_both 24 = .ok (.if_icmp .eq 26, 3) := by decide +kernel
theorem d_M_both_27 : decode c_M_both 27 = .ok (.aload_n 0, 1) := by decide +kernel
theorem d_M_both_28 : decode c_M_both 28 = .ok (.iload_n 3, 1) := by decide +kernel
theorem d_M_both_29 : decode c_M_both 29 = .ok (.iload 4, 2) := by decide +kernel
theorem d_M_both_31 : decode c_M_both 31 = .ok (.invokevirtual 165, 3) := by decide +kernel
theorem d_M_both_34 : decode c_M_both 34 = .ok (.ifCond .eq 16, 3) := by decide +kernel
theorem d_M_both_37 : decode c_M_both 37 = .ok (.aload_n 0, 1) := by decide +kernel
theorem d_M_both_38 : decode c_M_both 38 = .ok (.iload 5, 2) := by decide +kernel
theorem d_M_both_40 : decode c_M_both 40 = .ok (.invokevirtual 151, 3) := by decide +kernel
theorem d_M_both_43 : decode c_M_both 43 = .ok (.ifCond .eq 7, 3) := by decide +kernel
theorem d_M_both_46 : decode c_M_both 46 = .ok (.iconst 1, 1) := by decide +kernel
theorem d_M_both_47 : decode c_M_both 47 = .ok (.goto 4, 3) := by decide +kernel
theorem d_M_both_50 : decode c_M_both 50 = .ok (.iconst 0, 1) := by decide +kernel
theorem d_M_both_51 : decode c_M_both 51 = .ok (.istore 6, 2) := by decide +kernel
theorem d_M_both_53 : decode c_M_both 53 = .ok (.aload_n 0, 1) := by decide +kernel
theorem d_M_both_54 : decode c_M_both 54 = .ok (.iload 6, 2) := by decide +kernel
theorem d_M_both_56 : decode c_M_both 56 = .ok (.iload 6, 2) := by decide +kernel
theorem d_M_both_58 : decode c_M_both 58 = .ok (.ifCond .eq 18, 3) := by decide +kernel
theorem d_M_both_61 : decode c_M_both 61 = .ok (.aload_n 0, 1) := by decide +kernel
theorem d_M_both_62 : decode c_M_both 62 = .ok (.getfield 35, 3) := by decide +kernel
theorem d_M_both_65 : decode c_M_both 65 = .ok (.iload_n 3, 1) := by decide +kernel
theorem d_M_both_66 : decode c_M_both 66 = .ok (.iaload, 1) := by decide +kernel
theorem d_M_both_67 : decode c_M_both 67 = .ok (.bipush 49, 2) := by decide +kernel
theorem d_M_both_69 : decode c_M_both 69 = .ok (.if_icmp .ge 7, 3) := by decide +kernel
theorem d_M_both_72 : decode c_M_both 72 = .ok (.iconst 1, 1) := by decide +kernel
theorem d_M_both_73 : decode c_M_both 73 = .ok (.goto 4, 3) := by decide +kernel
theorem d_M_both_76 : decode c_M_both 76 = .ok (.iconst 0, 1) := by decide +kernel
theorem d_M_both_77 : decode c_M_both 77 = .ok (.invokevirtual 120, 3) := by decide +kernel
theorem d_M_both_80 : decode c_M_both 80 = .ok (.ifCond .ne 5, 3) := by decide +kernel
theorem d_M_both_83 : decode c_M_both 83 = .ok (.iconst 0, 1) := by decide +kernel
theorem d_M_both_84 : decode c_M_both 84 = .ok (.ireturn, 1) := by decide +kernel
theorem d_M_both_85 : decode c_M_both 85 = .ok (.aload_n 0, 1) := by decide +kernel
theorem d_M_both_86 : decode c_M_both 86 = .ok (.iload 5, 2) := by decide +kernel
theorem d_M_both_88 : decode c_M_both 88 = .ok (.putfield 148, 3) := by decide +kernel
theorem d_M_both_91 : decode c_M_both 91 = .ok (.aload_n 0, 1) := by decide +kernel
theorem d_M_both_92 : decode c_M_both 92 = .ok (.iload_n 1, 1) := by decide +kernel
theorem d_M_both_93 : decode c_M_both 93 = .ok (.iload_n 3, 1) := by decide +kernel
theorem d_M_both_94 : decode c_M_both 94 = .ok (.iload 4, 2) := by decide +kernel
theorem d_M_both_96 : decode c_M_both 96 = .ok (.iload 5, 2) := by decide +kernel
theorem d_M_both_98 : decode c_M_both 98 = .ok (.invokevirtual 168, 3) := by decide +kernel
theorem d_M_both_101 : decode c_M_both 101 = .ok (.istore 7, 2) := by decide +kernel
theorem d_M_both_103 : decode c_M_both 103 = .ok (.iload 7, 2) := by decide +kernel
theorem d_M_both_105 : decode c_M_both 105 = .ok (.ifCond .le 8, 3) := by decide +kernel
theorem d_M_both_108 : decode c_M_both 108 = .ok (.iload 7, 2) := by decide +kernel
theorem d_M_both_110 : decode c_M_both 110 = .ok (.goto 13, 3) := by decide +kernel
theorem d_M_both_113 : decode c_M_both 113 = .ok (.aload_n 0, 1) := by decide +kernel
theorem d_M_both_114 : decode c_M_both 114 = .ok (.iload_n 2, 1) := by decide +kernel
theorem d_M_both_115 : decode c_M_both 115 = .ok (.iload_n 3, 1) := by decide +kernel
theorem d_M_both_116 : decode c_M_both 116 = .ok (.iload 4, 2) := by decide +kernel
theorem d_M_both_118 : decode c_M_both 118 = .ok (.iload 5, 2) := by decide +kernel
theorem d_M_both_120 : decode c_M_both 120 = .ok (.invokevirtual 168, 3) := by decide +kernel
theorem d_M_both_123 : decode c_M_both 123 = .ok (.istore 7, 2) := by decide +kernel
theorem d_M_both_125 : decode c_M_both 125 = .ok (.iload 7, 2) := by decide +kernel
theorem d_M_both_127 : decode c_M_both 127 = .ok (.ifCond .le 8, 3) := by decide +kernel
theorem d_M_both_130 : decode c_M_both 130 = .ok (.iload 7, 2) := by decide +kernel
theorem d_M_both_132 : decode c_M_both 132 = .ok (.goto 24, 3) := by decide +kernel
theorem d_M_both_135 : decode c_M_both 135 = .ok (.aload_n 0, 1) := by decide +kernel
theorem d_M_both_136 : decode c_M_both 136 = .ok (.getfield 53, 3) := by decide +kernel
theorem d_M_both_139 : decode c_M_both 139 = .ok (.iload_n 1, 1) := by decide +kernel
theorem d_M_both_140 : decode c_M_both 140 = .ok (.iaload, 1) := by decide +kernel
theorem d_M_both_141 : decode c_M_both 141 = .ok (.aload_n 0, 1) := by decide +kernel
theorem d_M_both_142 : decode c_M_both 142 = .ok (.getfield 53, 3) := by decide +kernel
theorem d_M_both_145 : decode c_M_both 145 = .ok (.iload_n 2, 1) := by decide +kernel
theorem d_M_both_146 : decode c_M_both 146 = .ok (.iaload, 1) := by decide +kernel
theorem d_M_both_147 : decode c_M_both 147 = .ok (.if_icmp .ne 8, 3) := by decide +kernel
theorem d_M_both_150 : decode c_M_both 150 = .ok (.bipush 8, 2) := by decide +kernel
theorem d_M_both_152 : decode c_M_both 152 = .ok (.goto 4, 3) := by decide +kernel
theorem d_M_both_155 : decode c_M_both 155 = .ok (.iconst 0, 1) := by decide +kernel
theorem d_M_both_156 : decode c_M_both 156 = .ok (.istore 7, 2) := by decide +kernel
theorem d_M_both_158 : decode c_M_both 158 = .ok (.iload 7, 2) := by decide +kernel
theorem d_M_both_160 : decode c_M_both 160 = .ok (.ifCond .ne 23, 3) := by decide +kernel
theorem d_M_both_163 : decode c_M_both 163 = .ok (.aload_n 0, 1) := by decide +kernel
theorem d_M_both_164 : decode c_M_both 164 = .ok (.iload_n 1, 1) := by decide +kernel
theorem d_M_both_165 : decode c_M_both 165 = .ok (.iload_n 3, 1) := by decide +kernel
theorem d_M_both_166 : decode c_M_both 166 = .ok (.iload 4, 2) := by decide +kernel
theorem d_M_both_168 : decode c_M_both 168 = .ok (.iload 5, 2) := by decide +kernel
theorem d_M_both_170 : decode c_M_both 170 = .ok (.invokevirtual 172, 3) := by decide +kernel
theorem d_M_both_173 : decode c_M_both 173 = .ok (.aload_n 0, 1) := by decide +kernel
theorem d_M_both_174 : decode c_M_both 174 = .ok (.iload_n 2, 1) := by decide +kernel
theorem d_M_both_175 : decode c_M_both 175 = .ok (.iload_n 3, 1) := by decide +kernel
theorem d_M_both_176 : decode c_M_both 176 = .ok (.iload 4, 2) := by decide +kernel
theorem d_M_both_178 : decode c_M_both 178 = .ok (.iload 5, 2) := by decide +kernel
theorem d_M_both_180 : decode c_M_both 180 = .ok (.invokevirtual 172, 3) := by decide +kernel
theorem d_M_both_183 : decode c_M_both 183 = .ok (.iload 7, 2) := by decide +kernel
theorem d_M_both_185 : decode c_M_both 185 = .ok (.ireturn, 1) := by decide +kernel
def t_M_both_0 (l : Launch) (s0 : State) (D : va_G) (ca : Nat → ClassId) (e0 d mc ms : Nat) : List (Nat × cr_T) := [(0, cr_iload 1 1),
  (1, cr_aload 0 2),
  (2, cr_getf D kc 11 19 5),
  (5, cr_calS l (cr_W0 s0) s0.heap.size y_M_isIn cw_M_isIn d mc ms 2 8 8),
  (8, cr_ifeq 50 11),
  (11, cr_iload 2 12),
  (12, cr_aload 0 13),
  (13, cr_getf D kc 11 19 16),
  (16, cr_calS l (cr_W0 s0) s0.heap.size y_M_isIn cw_M_isIn d mc ms 2 8 19),
  (19, cr_ifeq 50 22),
  (22, cr_iload 1 23),
  (23, cr_iload 2 24),
  (24, cr_iceq 50 27),
  (27, cr_aload 0 28),
  (28, cr_iload 3 29),
  (29, cr_iload 4 31),
  (31, cr_calV D kc l (cr_W0 s0) s0.heap.size 11 y_M_isOf cw_M_isOf d mc ms 2 8 34),
  (34, cr_ifeq 50 37),
  (37, cr_aload 0 38),
  (38, cr_iload 5 40),
  (40, cr_calV D kc l (cr_W0 s0) s0.heap.size 11 y_M_isLater cw_M_isLater d mc ms 1 8 43),
  (43, cr_ifeq 50 46),
  (46, cr_push (.int 1) 47),
  (47, cr_goto 51),
  (50, cr_push (.int 0) 51),
  (51, cr_istore 6 53),
  (53, cr_aload 0 54),
  (54, cr_iload 6 56),
  (56, cr_iload 6 58),
  (58, cr_ifeq 76 61)]
def t_M_both_1 (l : Launch) (s0 : State) (D : va_G) (ca : Nat → ClassId) (e0 d mc ms : Nat) : List (Nat × cr_T) := [(61, cr_aload 0 62),
  (62, cr_getf D kc 11 12 65),
  (65, cr_iload 3 66),
  (66, cr_iald D kc (ca 0) 67),
  (67, cr_push (.int 49) 69),
  (69, cr_icge 76 72),
  (72, cr_push (.int 1) 73),
  (73, cr_goto 77),
  (76, cr_push (.int 0) 77),
  (77, cr_calV D kc l (cr_W0 s0) s0.heap.size 11 y_M_goes cw_M_goes d mc ms 2 8 80),
  (80, cr_ifne 85 83),
  (83, cr_push (.int 0) 84),
  (84, cr_iret mc ms),
  (85, cr_aload 0 86),
  (86, cr_iload 5 88),
  (88, cr_putf D kc s0.heap.size 11 1 .int 91),
  (91, cr_aload 0 92),
  (92, cr_iload 1 93),
  (93, cr_iload 3 94),
  (94, cr_iload 4 96),
  (96, cr_iload 5 98),
  (98, cr_calV D kc l (cr_W0 s0) s0.heap.size 11 y_M_refused cw_M_refused d mc ms 4 8 101),
  (101, cr_istore 7 103),
  (103, cr_iload 7 105),
  (105, cr_ifle 113 108),
  (108, cr_iload 7 110),
  (110, cr_goto 123),
  (113, cr_aload 0 114),
  (114, cr_iload 2 115),
  (115, cr_iload 3 116)]
def t_M_both_2 (l : Launch) (s0 : State) (D : va_G) (ca : Nat → ClassId) (e0 d mc ms : Nat) : List (Nat × cr_T) := [(116, cr_iload 4 118),
  (118, cr_iload 5 120),
  (120, cr_calV D kc l (cr_W0 s0) s0.heap.size 11 y_M_refused cw_M_refused d mc ms 4 8 123),
  (123, cr_istore 7 125),
  (125, cr_iload 7 127),
  (127, cr_ifle 135 130),
  (130, cr_iload 7 132),
  (132, cr_goto 156),
  (135, cr_aload 0 136),
  (136, cr_getf D kc 11 20 139),
  (139, cr_iload 1 140),
  (140, cr_iald D kc (ca 0) 141),
  (141, cr_aload 0 142),
  (142, cr_getf D kc 11 20 145),
  (145, cr_iload 2 146),
  (146, cr_iald D kc (ca 0) 147),
  (147, cr_icne 155 150),
  (150, cr_push (.int 8) 152),
  (152, cr_goto 156),
  (155, cr_push (.int 0) 156),
  (156, cr_istore 7 158),
  (158, cr_iload 7 160),
  (160, cr_ifne 183 163),
  (163, cr_aload 0 164),
  (164, cr_iload 1 165),
  (165, cr_iload 3 166),
  (166, cr_iload 4 168),
  (168, cr_iload 5 170),
  (170, cr_calV D kc l (cr_W0 s0) s0.heap.size 11 y_M_let cw_M_let d mc ms 4 8 173),
  (173, cr_aload 0 174)]
def t_M_both_3 (l : Launch) (s0 : State) (D : va_G) (ca : Nat → ClassId) (e0 d mc ms : Nat) : List (Nat × cr_T) := [(174, cr_iload 2 175),
  (175, cr_iload 3 176),
  (176, cr_iload 4 178),
  (178, cr_iload 5 180),
  (180, cr_calV D kc l (cr_W0 s0) s0.heap.size 11 y_M_let cw_M_let d mc ms 4 8 183),
  (183, cr_iload 7 185),
  (185, cr_iret mc ms)]
def t_M_both (l : Launch) (s0 : State) (D : va_G) (ca : Nat → ClassId) (e0 d mc ms : Nat) : List (Nat × cr_T) := t_M_both_0 l s0 D ca e0 d mc ms ++ (t_M_both_1 l s0 D ca e0 d mc ms ++ (t_M_both_2 l s0 D ca e0 d mc ms ++ (t_M_both_3 l s0 D ca e0 d mc ms)))
set_option maxHeartbeats 4000000 in
set_option maxRecDepth 20000 in
theorem s_M_both_0 {p : Program} {l : Launch} {e : Env} {R : Room} {s : State} {m : MethodId} {args : Array Value} {below : List Frame} {meth : Method} {c : Code} {s0 : State} {D : va_G} {ca : Nat → ClassId} {e0 d mc ms : Nat} {Q : cr_Q} (hl : l.flags = flags0) (Z : cr_Z0 s0 D ca e0) (C : cr_C p R s m meth c (cr_W0 s0) s0.heap.size y_M_both c_M_both 8 (Option.some FieldType.int) d mc ms) (hem : c.exceptionTable.toList = []) : ∀ x ∈ t_M_both_0 l s0 D ca e0 d mc ms, cr_Snd p l e R s m args below meth c s0.heap.size mc ms Q x.1 x.2 := by
  obtain ⟨hx, hb, hml, hown, hr, hlk, hnm, hU, hlo, hR⟩ := C
  have hK := cr_Z0K Z hU
  have hRc : R.cells = mc := by rw [hR]; rfl
  have hRs : R.slots = ms := by rw [hR]; rfl
  unfold t_M_both_0
  refine cr_cons (cr_iload_n_ok hx hb d_M_both_0 rfl rfl) ?_
  refine cr_cons (cr_aload_n_ok hx hb d_M_both_1 rfl rfl) ?_
  refine cr_cons (cr_getf_ok (C := R_M) (T := T_M) (N := 41) hx hb (k_M Z hU args) (fun _ h => h) hown hK rfl (by decide) (cr_w Z w_837 rfl hU args) (fun _ h => h) d_M_both_2 rfl) ?_
  refine cr_cons (cr_calS_ok hx hb hml hown hlk hU hlo hR (cr_W0_st s0) (by rw [hem]; exact fun _ h => absurd h List.not_mem_nil) (u_M_isIn Z) (Or.inl (cr_w Z w_951 rfl hU args)) (cr_w Z w_952 rfl hU args) (by decide) (by decide +kernel) (by decide) d_M_both_5 rfl) ?_
  refine cr_cons (cr_ifeq_ok hx hb d_M_both_8 (by decide) rfl) ?_
  refine cr_cons (cr_iload_n_ok hx hb d_M_both_11 rfl rfl) ?_
  refine cr_cons (cr_aload_n_ok hx hb d_M_both_12 rfl rfl) ?_
  refine cr_cons (cr_getf_ok (C := R_M) (T := T_M) (N := 41) hx hb (k_M Z hU args) (fun _ h => h) hown hK rfl (by decide) (cr_w Z w_837 rfl hU args) (fun _ h => h) d_M_both_13 rfl) ?_
  refine cr_cons (cr_calS_ok hx hb hml hown hlk hU hlo hR (cr_W0_st s0) (by rw [hem]; exact fun _ h => absurd h List.not_mem_nil) (u_M_isIn Z) (Or.inl (cr_w Z w_951 rfl hU args)) (cr_w Z w_952 rfl hU args) (by decide) (by decide +kernel) (by decide) d_M_both_16 rfl) ?_
  refine cr_cons (cr_ifeq_ok hx hb d_M_both_19 (by decide) rfl) ?_
  refine cr_cons (cr_iload_n_ok hx hb d_M_both_22 rfl rfl) ?_
  refine cr_cons (cr_iload_n_ok hx hb d_M_both_23 rfl rfl) ?_
  refine cr_cons (cr_iceq_ok hx hb d_M_both_24 (by decide) rfl) ?_
  refine cr_cons (cr_aload_n_ok hx hb d_M_both_27 rfl rfl) ?_
  refine cr_cons (cr_iload_n_ok hx hb d_M_both_28 rfl rfl) ?_
  refine cr_cons (cr_iload_ok hx hb d_M_both_29 rfl) ?_
  refine cr_cons (cr_calV_ok (C := R_M) (Tf := T_M) (N := 41) hx hb hml hown hlk hU hlo hR (cr_W0_st s0) (by rw [hem]; exact fun _ h => absurd h List.not_mem_nil) hK rfl (u_M_isOf Z) (Or.inl (cr_w Z w_1014 rfl hU args)) (cr_w Z w_1016 rfl hU args) (cr_w Z ws_36 rfl hU args) (by decide) (by decide +kernel) (by decide) d_M_both_31 rfl) ?_
  refine cr_cons (cr_ifeq_ok hx hb d_M_both_34 (by decide) rfl) ?_
  refine cr_cons (cr_aload_n_ok hx hb d_M_both_37 rfl rfl) ?_
  refine cr_cons (cr_iload_ok hx hb d_M_both_38 rfl) ?_
  refine cr_cons (cr_calV_ok (C := R_M) (Tf := T_M) (N := 41) hx hb hml hown hlk hU hlo hR (cr_W0_st s0) (by rw [hem]; exact fun _ h => absurd h List.not_mem_nil) hK rfl (u_M_isLater Z) (Or.inl (cr_w Z w_1006 rfl hU args)) (cr_w Z w_1008 rfl hU args) (cr_w Z ws_35 rfl hU args) (by decide) (by decide +kernel) (by decide) d_M_both_40 rfl) ?_
  refine cr_cons (cr_ifeq_ok hx hb d_M_both_43 (by decide) rfl) ?_
  refine cr_cons (cr_iconst_ok hx hb d_M_both_46 (by decide) rfl) ?_
  refine cr_cons (cr_goto_ok hx hb d_M_both_47 (by decide)) ?_
  refine cr_cons (cr_iconst_ok hx hb d_M_both_50 (by decide) rfl) ?_
  refine cr_cons (cr_istore_ok hx hb d_M_both_51 rfl) ?_
  refine cr_cons (cr_aload_n_ok hx hb d_M_both_53 rfl rfl) ?_
  refine cr_cons (cr_iload_ok hx hb d_M_both_54 rfl) ?_
  refine cr_cons (cr_iload_ok hx hb d_M_both_56 rfl) ?_
  refine cr_cons (cr_ifeq_ok hx hb d_M_both_58 (by decide) rfl) ?_
  exact cr_nil
set_option maxHeartbeats 4000000 in
set_option maxRecDepth 20000 in
theorem s_M_both_1 {p : Program} {l : Launch} {e : Env} {R : Room} {s : State} {m : MethodId} {args : Array Value} {below : List Frame} {meth : Method} {c : Code} {s0 : State} {D : va_G} {ca : Nat → ClassId} {e0 d mc ms : Nat} {Q : cr_Q} (hl : l.flags = flags0) (Z : cr_Z0 s0 D ca e0) (C : cr_C p R s m meth c (cr_W0 s0) s0.heap.size y_M_both c_M_both 8 (Option.some FieldType.int) d mc ms) (hem : c.exceptionTable.toList = []) : ∀ x ∈ t_M_both_1 l s0 D ca e0 d mc ms, cr_Snd p l e R s m args below meth c s0.heap.size mc ms Q x.1 x.2 := by
  obtain ⟨hx, hb, hml, hown, hr, hlk, hnm, hU, hlo, hR⟩ := C
  have hK := cr_Z0K Z hU
  have hRc : R.cells = mc := by rw [hR]; rfl
  have hRs : R.slots = ms := by rw [hR]; rfl
  unfold t_M_both_1
  refine cr_cons (cr_aload_n_ok hx hb d_M_both_61 rfl rfl) ?_
  refine cr_cons (cr_getf_ok (C := R_M) (T := T_M) (N := 41) hx hb (k_M Z hU args) (fun _ h => h) hown hK rfl (by decide) (cr_w Z w_830 rfl hU args) (fun _ h => h) d_M_both_62 rfl) ?_
  refine cr_cons (cr_iload_n_ok hx hb d_M_both_65 rfl rfl) ?_
  refine cr_cons (cr_iald_ok (t0 := 0) hx hb hK rfl d_M_both_66 rfl) ?_
  refine cr_cons (cr_bipush_ok hx hb d_M_both_67 (by decide) rfl) ?_
  refine cr_cons (cr_icge_ok hx hb d_M_both_69 (by decide) rfl) ?_
  refine cr_cons (cr_iconst_ok hx hb d_M_both_72 (by decide) rfl) ?_
  refine cr_cons (cr_goto_ok hx hb d_M_both_73 (by decide)) ?_
  refine cr_cons (cr_iconst_ok hx hb d_M_both_76 (by decide) rfl) ?_
  refine cr_cons (cr_calV_ok (C := R_M) (Tf := T_M) (N := 41) hx hb hml hown hlk hU hlo hR (cr_W0_st s0) (by rw [hem]; exact fun _ h => absurd h List.not_mem_nil) hK rfl (u_M_goes Z) (Or.inl (cr_w Z w_954 rfl hU args)) (cr_w Z w_956 rfl hU args) (cr_w Z ws_32 rfl hU args) (by decide) (by decide +kernel) (by decide) d_M_both_77 rfl) ?_
  refine cr_cons (cr_ifne_ok hx hb d_M_both_80 (by decide) rfl) ?_
  refine cr_cons (cr_iconst_ok hx hb d_M_both_83 (by decide) rfl) ?_
  refine cr_cons (cr_iret_ok hx hb hr hlk d_M_both_84) ?_
  refine cr_cons (cr_aload_n_ok hx hb d_M_both_85 rfl rfl) ?_
  refine cr_cons (cr_iload_ok hx hb d_M_both_86 rfl) ?_
  refine cr_cons (cr_putf_ok (C := R_M) (T := T_M) (N := 41) tt_M hx hb (k_M Z hU args) (fun _ h => h) ty_M nm_M hown hK rfl (by decide) (Or.inl (cr_w Z w_819 rfl hU args)) (fun _ h => h) rfl (by decide +kernel) d_M_both_88 rfl) ?_
  refine cr_cons (cr_aload_n_ok hx hb d_M_both_91 rfl rfl) ?_
  refine cr_cons (cr_iload_n_ok hx hb d_M_both_92 rfl rfl) ?_
  refine cr_cons (cr_iload_n_ok hx hb d_M_both_93 rfl rfl) ?_
  refine cr_cons (cr_iload_ok hx hb d_M_both_94 rfl) ?_
  refine cr_cons (cr_iload_ok hx hb d_M_both_96 rfl) ?_
  refine cr_cons (cr_calV_ok (C := R_M) (Tf := T_M) (N := 41) hx hb hml hown hlk hU hlo hR (cr_W0_st s0) (by rw [hem]; exact fun _ h => absurd h List.not_mem_nil) hK rfl (u_M_refused Z) (Or.inl (cr_w Z w_1018 rfl hU args)) (cr_w Z w_1020 rfl hU args) (cr_w Z ws_37 rfl hU args) (by decide) (by decide +kernel) (by decide) d_M_both_98 rfl) ?_
  refine cr_cons (cr_istore_ok hx hb d_M_both_101 rfl) ?_
  refine cr_cons (cr_iload_ok hx hb d_M_both_103 rfl) ?_
  refine cr_cons (cr_ifle_ok hx hb d_M_both_105 (by decide) rfl) ?_
  refine cr_cons (cr_iload_ok hx hb d_M_both_108 rfl) ?_
  refine cr_cons (cr_goto_ok hx hb d_M_both_110 (by decide)) ?_
  refine cr_cons (cr_aload_n_ok hx hb d_M_both_113 rfl rfl) ?_
  refine cr_cons (cr_iload_n_ok hx hb d_M_both_114 rfl rfl) ?_
  refine cr_cons (cr_iload_n_ok hx hb d_M_both_115 rfl rfl) ?_
  exact cr_nil
set_option maxHeartbeats 4000000 in
set_option maxRecDepth 20000 in
theorem s_M_both_2 {p : Program} {l : Launch} {e : Env} {R : Room} {s : State} {m : MethodId} {args : Array Value} {below : List Frame} {meth : Method} {c : Code} {s0 : State} {D : va_G} {ca : Nat → ClassId} {e0 d mc ms : Nat} {Q : cr_Q} (hl : l.flags = flags0) (Z : cr_Z0 s0 D ca e0) (C : cr_C p R s m meth c (cr_W0 s0) s0.heap.size y_M_both c_M_both 8 (Option.some FieldType.int) d mc ms) (hem : c.exceptionTable.toList = []) : ∀ x ∈ t_M_both_2 l s0 D ca e0 d mc ms, cr_Snd p l e R s m args below meth c s0.heap.size mc ms Q x.1 x.2 := by
  obtain ⟨hx, hb, hml, hown, hr, hlk, hnm, hU, hlo, hR⟩ := C
  have hK := cr_Z0K Z hU
  have hRc : R.cells = mc := by rw [hR]; rfl
  have hRs : R.slots = ms := by rw [hR]; rfl
  unfold t_M_both_2
  refine cr_cons (cr_iload_ok hx hb d_M_both_116 rfl) ?_
  refine cr_cons (cr_iload_ok hx hb d_M_both_118 rfl) ?_
  refine cr_cons (cr_calV_ok (C := R_M) (Tf := T_M) (N := 41) hx hb hml hown hlk hU hlo hR (cr_W0_st s0) (by rw [hem]; exact fun _ h => absurd h List.not_mem_nil) hK rfl (u_M_refused Z) (Or.inl (cr_w Z w_1018 rfl hU args)) (cr_w Z w_1020 rfl hU args) (cr_w Z ws_37 rfl hU args) (by decide) (by decide +kernel) (by decide) d_M_both_120 rfl) ?_
  refine cr_cons (cr_istore_ok hx hb d_M_both_123 rfl) ?_
  refine cr_cons (cr_iload_ok hx hb d_M_both_125 rfl) ?_
  refine cr_cons (cr_ifle_ok hx hb d_M_both_127 (by decide) rfl) ?_
  refine cr_cons (cr_iload_ok hx hb d_M_both_130 rfl) ?_
  refine cr_cons (cr_goto_ok hx hb d_M_both_132 (by decide)) ?_
  refine cr_cons (cr_aload_n_ok hx hb d_M_both_135 rfl rfl) ?_
  refine cr_cons (cr_getf_ok (C := R_M) (T := T_M) (N := 41) hx hb (k_M Z hU args) (fun _ h => h) hown hK rfl (by decide) (cr_w Z w_838 rfl hU args) (fun _ h => h) d_M_both_136 rfl) ?_
  refine cr_cons (cr_iload_n_ok hx hb d_M_both_139 rfl rfl) ?_
  refine cr_cons (cr_iald_ok (t0 := 0) hx hb hK rfl d_M_both_140 rfl) ?_
  refine cr_cons (cr_aload_n_ok hx hb d_M_both_141 rfl rfl) ?_
  refine cr_cons (cr_getf_ok (C := R_M) (T := T_M) (N := 41) hx hb (k_M Z hU args) (fun _ h => h) hown hK rfl (by decide) (cr_w Z w_838 rfl hU args) (fun _ h => h) d_M_both_142 rfl) ?_
  refine cr_cons (cr_iload_n_ok hx hb d_M_both_145 rfl rfl) ?_
  refine cr_cons (cr_iald_ok (t0 := 0) hx hb hK rfl d_M_both_146 rfl) ?_
  refine cr_cons (cr_icne_ok hx hb d_M_both_147 (by decide) rfl) ?_
  refine cr_cons (cr_bipush_ok hx hb d_M_both_150 (by decide) rfl) ?_
  refine cr_cons (cr_goto_ok hx hb d_M_both_152 (by decide)) ?_
  refine cr_cons (cr_iconst_ok hx hb d_M_both_155 (by decide) rfl) ?_
  refine cr_cons (cr_istore_ok hx hb d_M_both_156 rfl) ?_
  refine cr_cons (cr_iload_ok hx hb d_M_both_158 rfl) ?_
  refine cr_cons (cr_ifne_ok hx hb d_M_both_160 (by decide) rfl) ?_
  refine cr_cons (cr_aload_n_ok hx hb d_M_both_163 rfl rfl) ?_
  refine cr_cons (cr_iload_n_ok hx hb d_M_both_164 rfl rfl) ?_
  refine cr_cons (cr_iload_n_ok hx hb d_M_both_165 rfl rfl) ?_
  refine cr_cons (cr_iload_ok hx hb d_M_both_166 rfl) ?_
  refine cr_cons (cr_iload_ok hx hb d_M_both_168 rfl) ?_
  refine cr_cons (cr_calV_ok (C := R_M) (Tf := T_M) (N := 41) hx hb hml hown hlk hU hlo hR (cr_W0_st s0) (by rw [hem]; exact fun _ h => absurd h List.not_mem_nil) hK rfl (u_M_let Z) (Or.inl (cr_w Z w_1030 rfl hU args)) (cr_w Z w_1032 rfl hU args) (cr_w Z ws_40 rfl hU args) (by decide) (by decide +kernel) (by decide) d_M_both_170 rfl) ?_
  refine cr_cons (cr_aload_n_ok hx hb d_M_both_173 rfl rfl) ?_
  exact cr_nil
set_option maxHeartbeats 4000000 in
set_option maxRecDepth 20000 in
theorem s_M_both_3 {p : Program} {l : Launch} {e : Env} {R : Room} {s : State} {m : MethodId} {args : Array Value} {below : List Frame} {meth : Method} {c : Code} {s0 : State} {D : va_G} {ca : Nat → ClassId} {e0 d mc ms : Nat} {Q : cr_Q} (hl : l.flags = flags0) (Z : cr_Z0 s0 D ca e0) (C : cr_C p R s m meth c (cr_W0 s0) s0.heap.size y_M_both c_M_both 8 (Option.some FieldType.int) d mc ms) (hem : c.exceptionTable.toList = []) : ∀ x ∈ t_M_both_3 l s0 D ca e0 d mc ms, cr_Snd p l e R s m args below meth c s0.heap.size mc ms Q x.1 x.2 := by
  obtain ⟨hx, hb, hml, hown, hr, hlk, hnm, hU, hlo, hR⟩ := C
  have hK := cr_Z0K Z hU
  have hRc : R.cells = mc := by rw [hR]; rfl
  have hRs : R.slots = ms := by rw [hR]; rfl
  unfold t_M_both_3
  refine cr_cons (cr_iload_n_ok hx hb d_M_both_174 rfl rfl) ?_
  refine cr_cons (cr_iload_n_ok hx hb d_M_both_175 rfl rfl) ?_
  refine cr_cons (cr_iload_ok hx hb d_M_both_176 rfl) ?_
  refine cr_cons (cr_iload_ok hx hb d_M_both_178 rfl) ?_
  refine cr_cons (cr_calV_ok (C := R_M) (Tf := T_M) (N := 41) hx hb hml hown hlk hU hlo hR (cr_W0_st s0) (by rw [hem]; exact fun _ h => absurd h List.not_mem_nil) hK rfl (u_M_let Z) (Or.inl (cr_w Z w_1030 rfl hU args)) (cr_w Z w_1032 rfl hU args) (cr_w Z ws_40 rfl hU args) (by decide) (by decide +kernel) (by decide) d_M_both_180 rfl) ?_
  refine cr_cons (cr_iload_ok hx hb d_M_both_183 rfl) ?_
  refine cr_cons (cr_iret_ok hx hb hr hlk d_M_both_185) ?_
  exact cr_nil
theorem s_M_both {p : Program} {l : Launch} {e : Env} {R : Room} {s : State} {m : MethodId} {args : Array Value} {below : List Frame} {meth : Method} {c : Code} {s0 : State} {D : va_G} {ca : Nat → ClassId} {e0 d mc ms : Nat} {Q : cr_Q} (hl : l.flags = flags0) (Z : cr_Z0 s0 D ca e0) (C : cr_C p R s m meth c (cr_W0 s0) s0.heap.size y_M_both c_M_both 8 (Option.some FieldType.int) d mc ms) (hem : c.exceptionTable.toList = []) : ∀ x ∈ t_M_both l s0 D ca e0 d mc ms, cr_Snd p l e R s m args below meth c s0.heap.size mc ms Q x.1 x.2 := cr_app (s_M_both_0 hl Z C hem) (cr_app (s_M_both_1 hl Z C hem) (cr_app (s_M_both_2 hl Z C hem) (s_M_both_3 hl Z C hem)))
