theorem d_M_fewest_0 : decode c_M_fewest 0 = .ok (.aload_n 0, 1) := by decide +kernel
theorem d_M_fewest_1 : decode c_M_fewest 1 = .ok (.iconst 0, 1) := by decide +kernel
theorem d_M_fewest_2 : decode c_M_fewest 2 = .ok (.putfield 105, 3) := by decide +kernel
theorem d_M_fewest_5 : decode c_M_fewest 5 = .ok (.iconst 0, 1) := by decide +kernel
theorem d_M_fewest_6 : decode c_M_fewest 6 = .ok (.istore_n 1, 1) := by decide +kernel
theorem d_M_fewest_7 : decode c_M_fewest 7 = .ok (.iload_n 1, 1) := by decide +kernel
theorem d_M_fewest_8 : decode c_M_fewest 8 = .ok (.ldc 98, 2) := by decide +kernel
theorem d_M_fewest_10 : decode c_M_fewest 10 = .ok (.if_icmp .ge 16, 3) := by decide +kernel
theorem d_M_fewest_13 : decode c_M_fewest 13 = .ok (.aload_n 0, 1) := by decide +kernel
theorem d_M_fewest_14 : decode c_M_fewest 14 = .ok (.getfield 99, 3) := by decide +kernel
theorem d_M_fewest_17 : decode c_M_fewest 17 = .ok (.iload_n 1, 1) := by decide +kernel
theorem d_M_fewest_18 : decode c_M_fewest 18 = .ok (.iconst 0, 1) := by decide +kernel
theorem d_M_fewest_19 : decode c_M_fewest 19 = .ok (.bastore, 1) := by decide +kernel
theorem d_M_fewest_20 : decode c_M_fewest 20 = .ok (.iinc 1 1, 3) := by decide +kernel
theorem d_M_fewest_23 : decode c_M_fewest 23 = .ok (.goto (-16), 3) := by decide +kernel
theorem d_M_fewest_26 : decode c_M_fewest 26 = .ok (.iconst 0, 1) := by decide +kernel
theorem d_M_fewest_27 : decode c_M_fewest 27 = .ok (.istore_n 1, 1) := by decide +kernel
theorem d_M_fewest_28 : decode c_M_fewest 28 = .ok (.iconst 0, 1) := by decide +kernel
theorem d_M_fewest_29 : decode c_M_fewest 29 = .ok (.istore_n 2, 1) := by decide +kernel
theorem d_M_fewest_30 : decode c_M_fewest 30 = .ok (.iload_n 2, 1) := by decide +kernel
theorem d_M_fewest_31 : decode c_M_fewest 31 = .ok (.aload_n 0, 1) := by decide +kernel
theorem d_M_fewest_32 : decode c_M_fewest 32 = .ok (.getfield 162, 3) := by decide +kernel
theorem d_M_fewest_35 : decode c_M_fewest 35 = .ok (.if_icmp .ge 112, 3) := by decide +kernel
theorem d_M_fewest_38 : decode c_M_fewest 38 = .ok (.iconst 0, 1) := by decide +kernel
theorem d_M_fewest_39 : decode c_M_fewest 39 = .ok (.istore_n 3, 1) := by decide +kernel
theorem d_M_fewest_40 : decode c_M_fewest 40 = .ok (.iconst 0, 1) := by decide +kernel
theorem d_M_fewest_41 : decode c_M_fewest 41 = .ok (.istore 4, 2) := by decide +kernel
theorem d_M_fewest_43 : decode c_M_fewest 43 = .ok (.iload 4, 2) := by decide +kernel
theorem d_M_fewest_45 : decode c_M_fewest 45 = .ok (.aload_n 0, 1) := by decide +kernel
theorem d_M_fewest_46 : decode c_M_fewest 46 = .ok (.getfield 141, 3) := by decide +kernel
theorem d_M_fewest_49 : decode c_M_fewest 49 = .ok (.if_icmp .ge 62, 3) := by decide +kernel
theorem d_M_fewest_52 : decode c_M_fewest 52 = .ok (.iload_n 3, 1) := by decide +kernel
theorem d_M_fewest_53 : decode c_M_fewest 53 = .ok (.aload_n 0, 1) := by decide +kernel
theorem d_M_fewest_54 : decode c_M_fewest 54 = .ok (.iload 4, 2) := by decide +kernel
theorem d_M_fewest_56 : decode c_M_fewest 56 = .ok (.aload_n 0, 1) := by decide +kernel
theorem d_M_fewest_57 : decode c_M_fewest 57 = .ok (.getfield 83, 3) := by decide +kernel
theorem d_M_fewest_60 : decode c_M_fewest 60 = .ok (.iload_n 2, 1) := by decide +kernel
theorem d_M_fewest_61 : decode c_M_fewest 61 = .ok (.iaload, 1) := by decide +kernel
theorem d_M_fewest_62 : decode c_M_fewest 62 = .ok (.sipush 14400, 3) := by decide +kernel
theorem d_M_fewest_65 : decode c_M_fewest 65 = .ok (.idiv, 1) := by decide +kernel
theorem d_M_fewest_66 : decode c_M_fewest 66 = .ok (.aload_n 0, 1) := by decide +kernel
theorem d_M_fewest_67 : decode c_M_fewest 67 = .ok (.getfield 83, 3) := by decide +kernel
theorem d_M_fewest_70 : decode c_M_fewest 70 = .ok (.iload_n 2, 1) := by decide +kernel
theorem d_M_fewest_71 : decode c_M_fewest 71 = .ok (.iaload, 1) := by decide +kernel
theorem d_M_fewest_72 : decode c_M_fewest 72 = .ok (.sipush 1440, 3) := by decide +kernel
theorem d_M_fewest_75 : decode c_M_fewest 75 = .ok (.idiv, 1) := by decide +kernel
theorem d_M_fewest_76 : decode c_M_fewest 76 = .ok (.bipush 10, 2) := by decide +kernel
theorem d_M_fewest_78 : decode c_M_fewest 78 = .ok (.irem, 1) := by decide +kernel
theorem d_M_fewest_79 : decode c_M_fewest 79 = .ok (.aload_n 0, 1) := by decide +kernel
theorem d_M_fewest_80 : decode c_M_fewest 80 = .ok (.getfield 83, 3) := by decide +kernel
theorem d_M_fewest_83 : decode c_M_fewest 83 = .ok (.iload_n 2, 1) := by decide +kernel
theorem d_M_fewest_84 : decode c_M_fewest 84 = .ok (.iaload, 1) := by decide +kernel
theorem d_M_fewest_85 : decode c_M_fewest 85 = .ok (.sipush 1440, 3) := by decide +kernel
theorem d_M_fewest_88 : decode c_M_fewest 88 = .ok (.irem, 1) := by decide +kernel
theorem d_M_fewest_89 : decode c_M_fewest 89 = .ok (.invokevirtual 154, 3) := by decide +kernel
theorem d_M_fewest_92 : decode c_M_fewest 92 = .ok (.ifCond .eq 10, 3) := by decide +kernel
theorem d_M_fewest_95 : decode c_M_fewest 95 = .ok (.iconst 1, 1) := by decide +kernel
theorem d_M_fewest_96 : decode c_M_fewest 96 = .ok (.iload 4, 2) := by decide +kernel
theorem d_M_fewest_98 : decode c_M_fewest 98 = .ok (.ishl, 1) := by decide +kernel
theorem d_M_fewest_99 : decode c_M_fewest 99 = .ok (.goto 4, 3) := by decide +kernel
theorem d_M_fewest_102 : decode c_M_fewest 102 = .ok (.iconst 0, 1) := by decide +kernel
theorem d_M_fewest_103 : decode c_M_fewest 103 = .ok (.ior, 1) := by decide +kernel
theorem d_M_fewest_104 : decode c_M_fewest 104 = .ok (.istore_n 3, 1) := by decide +kernel
theorem d_M_fewest_105 : decode c_M_fewest 105 = .ok (.iinc 4 1, 3) := by decide +kernel
theorem d_M_fewest_108 : decode c_M_fewest 108 = .ok (.goto (-65), 3) := by decide +kernel
theorem d_M_fewest_111 : decode c_M_fewest 111 = .ok (.iload_n 3, 1) := by decide +kernel
theorem d_M_fewest_112 : decode c_M_fewest 112 = .ok (.ifCond .le 29, 3) := by decide +kernel
theorem d_M_fewest_115 : decode c_M_fewest 115 = .ok (.aload_n 0, 1) := by decide +kernel
theorem d_M_fewest_116 : decode c_M_fewest 116 = .ok (.getfield 99, 3) := by decide +kernel
theorem d_M_fewest_119 : decode c_M_fewest 119 = .ok (.iload_n 3, 1) := by decide +kernel
theorem d_M_fewest_120 : decode c_M_fewest 120 = .ok (.baload, 1) := by decide +kernel
theorem d_M_fewest_121 : decode c_M_fewest 121 = .ok (.ifCond .ne 20, 3) := by decide +kernel
theorem d_M_fewest_124 : decode c_M_fewest 124 = .ok (.aload_n 0, 1) := by decide +kernel
theorem d_M_fewest_125 : decode c_M_fewest 125 = .ok (.getfield 99, 3) := by decide +kernel
theorem d_M_fewest_128 : decode c_M_fewest 128 = .ok (.iload_n 3, 1) := by decide +kernel
theorem d_M_fewest_129 : decode c_M_fewest 129 = .ok (.iconst 1, 1) := by decide +kernel
theorem d_M_fewest_130 : decode c_M_fewest 130 = .ok (.bastore, 1) := by decide +kernel
theorem d_M_fewest_131 : decode c_M_fewest 131 = .ok (.aload_n 0, 1) := by decide +kernel
theorem d_M_fewest_132 : decode c_M_fewest 132 = .ok (.getfield 102, 3) := by decide +kernel
theorem d_M_fewest_135 : decode c_M_fewest 135 = .ok (.iload_n 1, 1) := by decide +kernel
theorem d_M_fewest_136 : decode c_M_fewest 136 = .ok (.iload_n 3, 1) := by decide +kernel
theorem d_M_fewest_137 : decode c_M_fewest 137 = .ok (.iastore, 1) := by decide +kernel
theorem d_M_fewest_138 : decode c_M_fewest 138 = .ok (.iinc 1 1, 3) := by decide +kernel
theorem d_M_fewest_141 : decode c_M_fewest 141 = .ok (.iinc 2 1, 3) := by decide +kernel
theorem d_M_fewest_144 : decode c_M_fewest 144 = .ok (.goto (-114), 3) := by decide +kernel
theorem d_M_fewest_147 : decode c_M_fewest 147 = .ok (.iconst (-1), 1) := by decide +kernel
theorem d_M_fewest_148 : decode c_M_fewest 148 = .ok (.istore_n 2, 1) := by decide +kernel
theorem d_M_fewest_149 : decode c_M_fewest 149 = .ok (.bipush 17, 2) := by decide +kernel
theorem d_M_fewest_151 : decode c_M_fewest 151 = .ok (.istore_n 3, 1) := by decide +kernel
theorem d_M_fewest_152 : decode c_M_fewest 152 = .ok (.iconst 0, 1) := by decide +kernel
theorem d_M_fewest_153 : decode c_M_fewest 153 = .ok (.istore 4, 2) := by decide +kernel
theorem d_M_fewest_155 : decode c_M_fewest 155 = .ok (.iload 4, 2) := by decide +kernel
theorem d_M_fewest_157 : decode c_M_fewest 157 = .ok (.iconst 1, 1) := by decide +kernel
theorem d_M_fewest_158 : decode c_M_fewest 158 = .ok (.aload_n 0, 1) := by decide +kernel
theorem d_M_fewest_159 : decode c_M_fewest 159 = .ok (.getfield 141, 3) := by decide +kernel
theorem d_M_fewest_162 : decode c_M_fewest 162 = .ok (.ishl, 1) := by decide +kernel
theorem d_M_fewest_163 : decode c_M_fewest 163 = .ok (.if_icmp .ge 42, 3) := by decide +kernel
theorem d_M_fewest_166 : decode c_M_fewest 166 = .ok (.iload 4, 2) := by decide +kernel
theorem d_M_fewest_168 : decode c_M_fewest 168 = .ok (.invokestatic 179, 3) := by decide +kernel
theorem d_M_fewest_171 : decode c_M_fewest 171 = .ok (.istore 5, 2) := by decide +kernel
theorem d_M_fewest_173 : decode c_M_fewest 173 = .ok (.iload 5, 2) := by decide +kernel
theorem d_M_fewest_175 : decode c_M_fewest 175 = .ok (.iload_n 3, 1) := by decide +kernel
theorem d_M_fewest_176 : decode c_M_fewest 176 = .ok (.if_icmp .ge 23, 3) := by decide +kernel
theorem d_M_fewest_179 : decode c_M_fewest 179 = .ok (.aload_n 0, 1) := by decide +kernel
theorem d_M_fewest_180 : decode c_M_fewest 180 = .ok (.iload 4, 2) := by decide +kernel
theorem d_M_fewest_182 : decode c_M_fewest 182 = .ok (.aload_n 0, 1) := by decide +kernel
theorem d_M_fewest_183 : decode c_M_fewest 183 = .ok (.getfield 102, 3) := by decide +kernel
theorem d_M_fewest_186 : decode c_M_fewest 186 = .ok (.iload_n 1, 1) := by decide +kernel
theorem d_M_fewest_187 : decode c_M_fewest 187 = .ok (.invokevirtual 183, 3) := by decide +kernel
theorem d_M_fewest_190 : decode c_M_fewest 190 = .ok (.ifCond .eq 9, 3) := by decide +kernel
theorem d_M_fewest_193 : decode c_M_fewest 193 = .ok (.iload 4, 2) := by decide +kernel
theorem d_M_fewest_195 : decode c_M_fewest 195 = .ok (.istore_n 2, 1) := by decide +kernel
theorem d_M_fewest_196 : decode c_M_fewest 196 = .ok (.iload 5, 2) := by decide +kernel
theorem d_M_fewest_198 : decode c_M_fewest 198 = .ok (.istore_n 3, 1) := by decide +kernel
theorem d_M_fewest_199 : decode c_M_fewest 199 = .ok (.iinc 4 1, 3) := by decide +kernel
theorem d_M_fewest_202 : decode c_M_fewest 202 = .ok (.goto (-47), 3) := by decide +kernel
theorem d_M_fewest_205 : decode c_M_fewest 205 = .ok (.iload_n 2, 1) := by decide +kernel
theorem d_M_fewest_206 : decode c_M_fewest 206 = .ok (.ireturn, 1) := by decide +kernel
def t_M_fewest_0 (l : Launch) (s0 : State) (D : va_G) (ca : Nat → ClassId) (e0 d mc ms : Nat) : List (Nat × cr_T) := [(0, cr_aload 0 1),
  (1, cr_push (.int 0) 2),
  (2, cr_putf D kc s0.heap.size 11 0 .int 5),
  (5, cr_push (.int 0) 6),
  (6, cr_istore 1 7),
  (7, cr_iload 1 8),
  (8, cr_push (.int 65536) 10),
  (10, cr_icge 26 13),
  (13, cr_aload 0 14),
  (14, cr_getf D kc 11 39 17),
  (17, cr_iload 1 18),
  (18, cr_push (.int 0) 19),
  (19, cr_zast D kc s0.heap.size (ca 2) 20),
  (20, cr_iinc 1 1 23),
  (23, cr_goto 7),
  (26, cr_push (.int 0) 27),
  (27, cr_istore 1 28),
  (28, cr_push (.int 0) 29),
  (29, cr_istore 2 30),
  (30, cr_iload 2 31),
  (31, cr_aload 0 32),
  (32, cr_getf D kc 11 32 35),
  (35, cr_icge 147 38),
  (38, cr_push (.int 0) 39),
  (39, cr_istore 3 40),
  (40, cr_push (.int 0) 41),
  (41, cr_istore 4 43),
  (43, cr_iload 4 45),
  (45, cr_aload 0 46),
  (46, cr_getf D kc 11 22 49)]
def t_M_fewest_1 (l : Launch) (s0 : State) (D : va_G) (ca : Nat → ClassId) (e0 d mc ms : Nat) : List (Nat × cr_T) := [(49, cr_icge 111 52),
  (52, cr_iload 3 53),
  (53, cr_aload 0 54),
  (54, cr_iload 4 56),
  (56, cr_aload 0 57),
  (57, cr_getf D kc 11 33 60),
  (60, cr_iload 2 61),
  (61, cr_iald D kc (ca 0) 62),
  (62, cr_push (.int 14400) 65),
  (65, cr_idiv 66),
  (66, cr_aload 0 67),
  (67, cr_getf D kc 11 33 70),
  (70, cr_iload 2 71),
  (71, cr_iald D kc (ca 0) 72),
  (72, cr_push (.int 1440) 75),
  (75, cr_idiv 76),
  (76, cr_push (.int 10) 78),
  (78, cr_irem 79),
  (79, cr_aload 0 80),
  (80, cr_getf D kc 11 33 83),
  (83, cr_iload 2 84),
  (84, cr_iald D kc (ca 0) 85),
  (85, cr_push (.int 1440) 88),
  (88, cr_irem 89),
  (89, cr_calV D kc l (cr_W0 s0) s0.heap.size 11 y_M_spans cw_M_spans d mc ms 4 6 92),
  (92, cr_ifeq 102 95),
  (95, cr_push (.int 1) 96),
  (96, cr_iload 4 98),
  (98, cr_ishl 99),
  (99, cr_goto 103)]
def t_M_fewest_2 (l : Launch) (s0 : State) (D : va_G) (ca : Nat → ClassId) (e0 d mc ms : Nat) : List (Nat × cr_T) := [(102, cr_push (.int 0) 103),
  (103, cr_ior 104),
  (104, cr_istore 3 105),
  (105, cr_iinc 4 1 108),
  (108, cr_goto 43),
  (111, cr_iload 3 112),
  (112, cr_ifle 141 115),
  (115, cr_aload 0 116),
  (116, cr_getf D kc 11 39 119),
  (119, cr_iload 3 120),
  (120, cr_zald D kc (ca 2) 121),
  (121, cr_ifne 141 124),
  (124, cr_aload 0 125),
  (125, cr_getf D kc 11 39 128),
  (128, cr_iload 3 129),
  (129, cr_push (.int 1) 130),
  (130, cr_zast D kc s0.heap.size (ca 2) 131),
  (131, cr_aload 0 132),
  (132, cr_getf D kc 11 40 135),
  (135, cr_iload 1 136),
  (136, cr_iload 3 137),
  (137, cr_iast D kc s0.heap.size (ca 0) 138),
  (138, cr_iinc 1 1 141),
  (141, cr_iinc 2 1 144),
  (144, cr_goto 30),
  (147, cr_push (.int (-1)) 148),
  (148, cr_istore 2 149),
  (149, cr_push (.int 17) 151),
  (151, cr_istore 3 152),
  (152, cr_push (.int 0) 153)]
def t_M_fewest_3 (l : Launch) (s0 : State) (D : va_G) (ca : Nat → ClassId) (e0 d mc ms : Nat) : List (Nat × cr_T) := [(153, cr_istore 4 155),
  (155, cr_iload 4 157),
  (157, cr_push (.int 1) 158),
  (158, cr_aload 0 159),
  (159, cr_getf D kc 11 22 162),
  (162, cr_ishl 163),
  (163, cr_icge 205 166),
  (166, cr_iload 4 168),
  (168, cr_calS l (cr_W0 s0) s0.heap.size y_M_count cw_M_count d mc ms 1 6 171),
  (171, cr_istore 5 173),
  (173, cr_iload 5 175),
  (175, cr_iload 3 176),
  (176, cr_icge 199 179),
  (179, cr_aload 0 180),
  (180, cr_iload 4 182),
  (182, cr_aload 0 183),
  (183, cr_getf D kc 11 40 186),
  (186, cr_iload 1 187),
  (187, cr_calV D kc l (cr_W0 s0) s0.heap.size 11 y_M_meets cw_M_meets d mc ms 3 6 190),
  (190, cr_ifeq 199 193),
  (193, cr_iload 4 195),
  (195, cr_istore 2 196),
  (196, cr_iload 5 198),
  (198, cr_istore 3 199),
  (199, cr_iinc 4 1 202),
  (202, cr_goto 155),
  (205, cr_iload 2 206),
  (206, cr_iret mc ms)]
def t_M_fewest (l : Launch) (s0 : State) (D : va_G) (ca : Nat → ClassId) (e0 d mc ms : Nat) : List (Nat × cr_T) := t_M_fewest_0 l s0 D ca e0 d mc ms ++ (t_M_fewest_1 l s0 D ca e0 d mc ms ++ (t_M_fewest_2 l s0 D ca e0 d mc ms ++ (t_M_fewest_3 l s0 D ca e0 d mc ms)))
set_option maxHeartbeats 4000000 in
set_option maxRecDepth 20000 in
theorem s_M_fewest_0 {p : Program} {l : Launch} {e : Env} {R : Room} {s : State} {m : MethodId} {args : Array Value} {below : List Frame} {meth : Method} {c : Code} {s0 : State} {D : va_G} {ca : Nat → ClassId} {e0 d mc ms : Nat} {Q : cr_Q} (hl : l.flags = flags0) (Z : cr_Z0 s0 D ca e0) (C : cr_C p R s m meth c (cr_W0 s0) s0.heap.size y_M_fewest c_M_fewest 6 (Option.some FieldType.int) d mc ms) (hem : c.exceptionTable.toList = []) : ∀ x ∈ t_M_fewest_0 l s0 D ca e0 d mc ms, cr_Snd p l e R s m args below meth c s0.heap.size mc ms Q x.1 x.2 := by
  obtain ⟨hx, hb, hml, hown, hr, hlk, hnm, hU, hlo, hR⟩ := C
  have hK := cr_Z0K Z hU
  have hRc : R.cells = mc := by rw [hR]; rfl
  have hRs : R.slots = ms := by rw [hR]; rfl
  unfold t_M_fewest_0
  refine cr_cons (cr_aload_n_ok hx hb d_M_fewest_0 rfl rfl) ?_
  refine cr_cons (cr_iconst_ok hx hb d_M_fewest_1 (by decide) rfl) ?_
  refine cr_cons (cr_putf_ok (C := R_M) (T := T_M) (N := 41) tt_M hx hb (k_M Z hU args) (fun _ h => h) ty_M nm_M hown hK rfl (by decide) (Or.inl (cr_w Z w_818 rfl hU args)) (fun _ h => h) rfl (by decide +kernel) d_M_fewest_2 rfl) ?_
  refine cr_cons (cr_iconst_ok hx hb d_M_fewest_5 (by decide) rfl) ?_
  refine cr_cons (cr_istore_n_ok hx hb d_M_fewest_6 rfl rfl) ?_
  refine cr_cons (cr_iload_n_ok hx hb d_M_fewest_7 rfl rfl) ?_
  refine cr_cons (cr_ldc_ok hx hb hown (cr_w Z w_817 rfl hU args) d_M_fewest_8 rfl) ?_
  refine cr_cons (cr_icge_ok hx hb d_M_fewest_10 (by decide) rfl) ?_
  refine cr_cons (cr_aload_n_ok hx hb d_M_fewest_13 rfl rfl) ?_
  refine cr_cons (cr_getf_ok (C := R_M) (T := T_M) (N := 41) hx hb (k_M Z hU args) (fun _ h => h) hown hK rfl (by decide) (cr_w Z w_857 rfl hU args) (fun _ h => h) d_M_fewest_14 rfl) ?_
  refine cr_cons (cr_iload_n_ok hx hb d_M_fewest_17 rfl rfl) ?_
  refine cr_cons (cr_iconst_ok hx hb d_M_fewest_18 (by decide) rfl) ?_
  refine cr_cons (cr_zast_ok (t0 := 2) hx hb hK rfl d_M_fewest_19 rfl) ?_
  refine cr_cons (cr_iinc_ok hx hb d_M_fewest_20 (by decide) rfl) ?_
  refine cr_cons (cr_goto_ok hx hb d_M_fewest_23 (by decide)) ?_
  refine cr_cons (cr_iconst_ok hx hb d_M_fewest_26 (by decide) rfl) ?_
  refine cr_cons (cr_istore_n_ok hx hb d_M_fewest_27 rfl rfl) ?_
  refine cr_cons (cr_iconst_ok hx hb d_M_fewest_28 (by decide) rfl) ?_
  refine cr_cons (cr_istore_n_ok hx hb d_M_fewest_29 rfl rfl) ?_
  refine cr_cons (cr_iload_n_ok hx hb d_M_fewest_30 rfl rfl) ?_
  refine cr_cons (cr_aload_n_ok hx hb d_M_fewest_31 rfl rfl) ?_
  refine cr_cons (cr_getf_ok (C := R_M) (T := T_M) (N := 41) hx hb (k_M Z hU args) (fun _ h => h) hown hK rfl (by decide) (cr_w Z w_850 rfl hU args) (fun _ h => h) d_M_fewest_32 rfl) ?_
  refine cr_cons (cr_icge_ok hx hb d_M_fewest_35 (by decide) rfl) ?_
  refine cr_cons (cr_iconst_ok hx hb d_M_fewest_38 (by decide) rfl) ?_
  refine cr_cons (cr_istore_n_ok hx hb d_M_fewest_39 rfl rfl) ?_
  refine cr_cons (cr_iconst_ok hx hb d_M_fewest_40 (by decide) rfl) ?_
  refine cr_cons (cr_istore_ok hx hb d_M_fewest_41 rfl) ?_
  refine cr_cons (cr_iload_ok hx hb d_M_fewest_43 rfl) ?_
  refine cr_cons (cr_aload_n_ok hx hb d_M_fewest_45 rfl rfl) ?_
  refine cr_cons (cr_getf_ok (C := R_M) (T := T_M) (N := 41) hx hb (k_M Z hU args) (fun _ h => h) hown hK rfl (by decide) (cr_w Z w_840 rfl hU args) (fun _ h => h) d_M_fewest_46 rfl) ?_
  exact cr_nil
set_option maxHeartbeats 4000000 in
set_option maxRecDepth 20000 in
theorem s_M_fewest_1 {p : Program} {l : Launch} {e : Env} {R : Room} {s : State} {m : MethodId} {args : Array Value} {below : List Frame} {meth : Method} {c : Code} {s0 : State} {D : va_G} {ca : Nat → ClassId} {e0 d mc ms : Nat} {Q : cr_Q} (hl : l.flags = flags0) (Z : cr_Z0 s0 D ca e0) (C : cr_C p R s m meth c (cr_W0 s0) s0.heap.size y_M_fewest c_M_fewest 6 (Option.some FieldType.int) d mc ms) (hem : c.exceptionTable.toList = []) : ∀ x ∈ t_M_fewest_1 l s0 D ca e0 d mc ms, cr_Snd p l e R s m args below meth c s0.heap.size mc ms Q x.1 x.2 := by
  obtain ⟨hx, hb, hml, hown, hr, hlk, hnm, hU, hlo, hR⟩ := C
  have hK := cr_Z0K Z hU
  have hRc : R.cells = mc := by rw [hR]; rfl
  have hRs : R.slots = ms := by rw [hR]; rfl
  unfold t_M_fewest_1
  refine cr_cons (cr_icge_ok hx hb d_M_fewest_49 (by decide) rfl) ?_
  refine cr_cons (cr_iload_n_ok hx hb d_M_fewest_52 rfl rfl) ?_
  refine cr_cons (cr_aload_n_ok hx hb d_M_fewest_53 rfl rfl) ?_
  refine cr_cons (cr_iload_ok hx hb d_M_fewest_54 rfl) ?_
  refine cr_cons (cr_aload_n_ok hx hb d_M_fewest_56 rfl rfl) ?_
  refine cr_cons (cr_getf_ok (C := R_M) (T := T_M) (N := 41) hx hb (k_M Z hU args) (fun _ h => h) hown hK rfl (by decide) (cr_w Z w_851 rfl hU args) (fun _ h => h) d_M_fewest_57 rfl) ?_
  refine cr_cons (cr_iload_n_ok hx hb d_M_fewest_60 rfl rfl) ?_
  refine cr_cons (cr_iald_ok (t0 := 0) hx hb hK rfl d_M_fewest_61 rfl) ?_
  refine cr_cons (cr_sipush_ok hx hb d_M_fewest_62 (by decide) rfl) ?_
  refine cr_cons (cr_idiv_ok hx hb d_M_fewest_65 rfl) ?_
  refine cr_cons (cr_aload_n_ok hx hb d_M_fewest_66 rfl rfl) ?_
  refine cr_cons (cr_getf_ok (C := R_M) (T := T_M) (N := 41) hx hb (k_M Z hU args) (fun _ h => h) hown hK rfl (by decide) (cr_w Z w_851 rfl hU args) (fun _ h => h) d_M_fewest_67 rfl) ?_
  refine cr_cons (cr_iload_n_ok hx hb d_M_fewest_70 rfl rfl) ?_
  refine cr_cons (cr_iald_ok (t0 := 0) hx hb hK rfl d_M_fewest_71 rfl) ?_
  refine cr_cons (cr_sipush_ok hx hb d_M_fewest_72 (by decide) rfl) ?_
  refine cr_cons (cr_idiv_ok hx hb d_M_fewest_75 rfl) ?_
  refine cr_cons (cr_bipush_ok hx hb d_M_fewest_76 (by decide) rfl) ?_
  refine cr_cons (cr_irem_ok hx hb d_M_fewest_78 rfl) ?_
  refine cr_cons (cr_aload_n_ok hx hb d_M_fewest_79 rfl rfl) ?_
  refine cr_cons (cr_getf_ok (C := R_M) (T := T_M) (N := 41) hx hb (k_M Z hU args) (fun _ h => h) hown hK rfl (by decide) (cr_w Z w_851 rfl hU args) (fun _ h => h) d_M_fewest_80 rfl) ?_
  refine cr_cons (cr_iload_n_ok hx hb d_M_fewest_83 rfl rfl) ?_
  refine cr_cons (cr_iald_ok (t0 := 0) hx hb hK rfl d_M_fewest_84 rfl) ?_
  refine cr_cons (cr_sipush_ok hx hb d_M_fewest_85 (by decide) rfl) ?_
  refine cr_cons (cr_irem_ok hx hb d_M_fewest_88 rfl) ?_
  refine cr_cons (cr_calV_ok (C := R_M) (Tf := T_M) (N := 41) hx hb hml hown hlk hU hlo hR (cr_W0_st s0) (by rw [hem]; exact fun _ h => absurd h List.not_mem_nil) hK rfl (u_M_spans Z) (Or.inl (cr_w Z w_1026 rfl hU args)) (cr_w Z w_1028 rfl hU args) (cr_w Z ws_39 rfl hU args) (by decide) (by decide +kernel) (by decide) d_M_fewest_89 rfl) ?_
  refine cr_cons (cr_ifeq_ok hx hb d_M_fewest_92 (by decide) rfl) ?_
  refine cr_cons (cr_iconst_ok hx hb d_M_fewest_95 (by decide) rfl) ?_
  refine cr_cons (cr_iload_ok hx hb d_M_fewest_96 rfl) ?_
  refine cr_cons (cr_ishl_ok hx hb d_M_fewest_98 rfl) ?_
  refine cr_cons (cr_goto_ok hx hb d_M_fewest_99 (by decide)) ?_
  exact cr_nil
set_option maxHeartbeats 4000000 in
set_option maxRecDepth 20000 in
theorem s_M_fewest_2 {p : Program} {l : Launch} {e : Env} {R : Room} {s : State} {m : MethodId} {args : Array Value} {below : List Frame} {meth : Method} {c : Code} {s0 : State} {D : va_G} {ca : Nat → ClassId} {e0 d mc ms : Nat} {Q : cr_Q} (hl : l.flags = flags0) (Z : cr_Z0 s0 D ca e0) (C : cr_C p R s m meth c (cr_W0 s0) s0.heap.size y_M_fewest c_M_fewest 6 (Option.some FieldType.int) d mc ms) (hem : c.exceptionTable.toList = []) : ∀ x ∈ t_M_fewest_2 l s0 D ca e0 d mc ms, cr_Snd p l e R s m args below meth c s0.heap.size mc ms Q x.1 x.2 := by
  obtain ⟨hx, hb, hml, hown, hr, hlk, hnm, hU, hlo, hR⟩ := C
  have hK := cr_Z0K Z hU
  have hRc : R.cells = mc := by rw [hR]; rfl
  have hRs : R.slots = ms := by rw [hR]; rfl
  unfold t_M_fewest_2
  refine cr_cons (cr_iconst_ok hx hb d_M_fewest_102 (by decide) rfl) ?_
  refine cr_cons (cr_ior_ok hx hb d_M_fewest_103 rfl) ?_
  refine cr_cons (cr_istore_n_ok hx hb d_M_fewest_104 rfl rfl) ?_
  refine cr_cons (cr_iinc_ok hx hb d_M_fewest_105 (by decide) rfl) ?_
  refine cr_cons (cr_goto_ok hx hb d_M_fewest_108 (by decide)) ?_
  refine cr_cons (cr_iload_n_ok hx hb d_M_fewest_111 rfl rfl) ?_
  refine cr_cons (cr_ifle_ok hx hb d_M_fewest_112 (by decide) rfl) ?_
  refine cr_cons (cr_aload_n_ok hx hb d_M_fewest_115 rfl rfl) ?_
  refine cr_cons (cr_getf_ok (C := R_M) (T := T_M) (N := 41) hx hb (k_M Z hU args) (fun _ h => h) hown hK rfl (by decide) (cr_w Z w_857 rfl hU args) (fun _ h => h) d_M_fewest_116 rfl) ?_
  refine cr_cons (cr_iload_n_ok hx hb d_M_fewest_119 rfl rfl) ?_
  refine cr_cons (cr_zald_ok (t0 := 2) hx hb hK rfl d_M_fewest_120 rfl) ?_
  refine cr_cons (cr_ifne_ok hx hb d_M_fewest_121 (by decide) rfl) ?_
  refine cr_cons (cr_aload_n_ok hx hb d_M_fewest_124 rfl rfl) ?_
  refine cr_cons (cr_getf_ok (C := R_M) (T := T_M) (N := 41) hx hb (k_M Z hU args) (fun _ h => h) hown hK rfl (by decide) (cr_w Z w_857 rfl hU args) (fun _ h => h) d_M_fewest_125 rfl) ?_
  refine cr_cons (cr_iload_n_ok hx hb d_M_fewest_128 rfl rfl) ?_
  refine cr_cons (cr_iconst_ok hx hb d_M_fewest_129 (by decide) rfl) ?_
  refine cr_cons (cr_zast_ok (t0 := 2) hx hb hK rfl d_M_fewest_130 rfl) ?_
  refine cr_cons (cr_aload_n_ok hx hb d_M_fewest_131 rfl rfl) ?_
  refine cr_cons (cr_getf_ok (C := R_M) (T := T_M) (N := 41) hx hb (k_M Z hU args) (fun _ h => h) hown hK rfl (by decide) (cr_w Z w_858 rfl hU args) (fun _ h => h) d_M_fewest_132 rfl) ?_
  refine cr_cons (cr_iload_n_ok hx hb d_M_fewest_135 rfl rfl) ?_
  refine cr_cons (cr_iload_n_ok hx hb d_M_fewest_136 rfl rfl) ?_
  refine cr_cons (cr_iast_ok (t0 := 0) hx hb hK rfl d_M_fewest_137 rfl) ?_
  refine cr_cons (cr_iinc_ok hx hb d_M_fewest_138 (by decide) rfl) ?_
  refine cr_cons (cr_iinc_ok hx hb d_M_fewest_141 (by decide) rfl) ?_
  refine cr_cons (cr_goto_ok hx hb d_M_fewest_144 (by decide)) ?_
  refine cr_cons (cr_iconst_ok hx hb d_M_fewest_147 (by decide) rfl) ?_
  refine cr_cons (cr_istore_n_ok hx hb d_M_fewest_148 rfl rfl) ?_
  refine cr_cons (cr_bipush_ok hx hb d_M_fewest_149 (by decide) rfl) ?_
  refine cr_cons (cr_istore_n_ok hx hb d_M_fewest_151 rfl rfl) ?_
  refine cr_cons (cr_iconst_ok hx hb d_M_fewest_152 (by decide) rfl) ?_
  exact cr_nil
set_option maxHeartbeats 4000000 in
set_option maxRecDepth 20000 in
theorem s_M_fewest_3 {p : Program} {l : Launch} {e : Env} {R : Room} {s : State} {m : MethodId} {args : Array Value} {below : List Frame} {meth : Method} {c : Code} {s0 : State} {D : va_G} {ca : Nat → ClassId} {e0 d mc ms : Nat} {Q : cr_Q} (hl : l.flags = flags0) (Z : cr_Z0 s0 D ca e0) (C : cr_C p R s m meth c (cr_W0 s0) s0.heap.size y_M_fewest c_M_fewest 6 (Option.some FieldType.int) d mc ms) (hem : c.exceptionTable.toList = []) : ∀ x ∈ t_M_fewest_3 l s0 D ca e0 d mc ms, cr_Snd p l e R s m args below meth c s0.heap.size mc ms Q x.1 x.2 := by
  obtain ⟨hx, hb, hml, hown, hr, hlk, hnm, hU, hlo, hR⟩ := C
  have hK := cr_Z0K Z hU
  have hRc : R.cells = mc := by rw [hR]; rfl
  have hRs : R.slots = ms := by rw [hR]; rfl
  unfold t_M_fewest_3
  refine cr_cons (cr_istore_ok hx hb d_M_fewest_153 rfl) ?_
  refine cr_cons (cr_iload_ok hx hb d_M_fewest_155 rfl) ?_
  refine cr_cons (cr_iconst_ok hx hb d_M_fewest_157 (by decide) rfl) ?_
  refine cr_cons (cr_aload_n_ok hx hb d_M_fewest_158 rfl rfl) ?_
  refine cr_cons (cr_getf_ok (C := R_M) (T := T_M) (N := 41) hx hb (k_M Z hU args) (fun _ h => h) hown hK rfl (by decide) (cr_w Z w_840 rfl hU args) (fun _ h => h) d_M_fewest_159 rfl) ?_
  refine cr_cons (cr_ishl_ok hx hb d_M_fewest_162 rfl) ?_
  refine cr_cons (cr_icge_ok hx hb d_M_fewest_163 (by decide) rfl) ?_
  refine cr_cons (cr_iload_ok hx hb d_M_fewest_166 rfl) ?_
  refine cr_cons (cr_calS_ok hx hb hml hown hlk hU hlo hR (cr_W0_st s0) (by rw [hem]; exact fun _ h => absurd h List.not_mem_nil) (u_M_count Z) (Or.inl (cr_w Z w_1070 rfl hU args)) (cr_w Z w_1071 rfl hU args) (by decide) (by decide +kernel) (by decide) d_M_fewest_168 rfl) ?_
  refine cr_cons (cr_istore_ok hx hb d_M_fewest_171 rfl) ?_
  refine cr_cons (cr_iload_ok hx hb d_M_fewest_173 rfl) ?_
  refine cr_cons (cr_iload_n_ok hx hb d_M_fewest_175 rfl rfl) ?_
  refine cr_cons (cr_icge_ok hx hb d_M_fewest_176 (by decide) rfl) ?_
  refine cr_cons (cr_aload_n_ok hx hb d_M_fewest_179 rfl rfl) ?_
  refine cr_cons (cr_iload_ok hx hb d_M_fewest_180 rfl) ?_
  refine cr_cons (cr_aload_n_ok hx hb d_M_fewest_182 rfl rfl) ?_
  refine cr_cons (cr_getf_ok (C := R_M) (T := T_M) (N := 41) hx hb (k_M Z hU args) (fun _ h => h) hown hK rfl (by decide) (cr_w Z w_858 rfl hU args) (fun _ h => h) d_M_fewest_183 rfl) ?_
  refine cr_cons (cr_iload_n_ok hx hb d_M_fewest_186 rfl rfl) ?_
  refine cr_cons (cr_calV_ok (C := R_M) (Tf := T_M) (N := 41) hx hb hml hown hlk hU hlo hR (cr_W0_st s0) (by rw [hem]; exact fun _ h => absurd h List.not_mem_nil) hK rfl (u_M_meets Z) (Or.inl (cr_w Z w_1073 rfl hU args)) (cr_w Z w_1075 rfl hU args) (cr_w Z ws_41 rfl hU args) (by decide) (by decide +kernel) (by decide) d_M_fewest_187 rfl) ?_
  refine cr_cons (cr_ifeq_ok hx hb d_M_fewest_190 (by decide) rfl) ?_
  refine cr_cons (cr_iload_ok hx hb d_M_fewest_193 rfl) ?_
  refine cr_cons (cr_istore_n_ok hx hb d_M_fewest_195 rfl rfl) ?_
  refine cr_cons (cr_iload_ok hx hb d_M_fewest_196 rfl) ?_
  refine cr_cons (cr_istore_n_ok hx hb d_M_fewest_198 rfl rfl) ?_
  refine cr_cons (cr_iinc_ok hx hb d_M_fewest_199 (by decide) rfl) ?_
  refine cr_cons (cr_goto_ok hx hb d_M_fewest_202 (by decide)) ?_
  refine cr_cons (cr_iload_n_ok hx hb d_M_fewest_205 rfl rfl) ?_
  refine cr_cons (cr_iret_ok hx hb hr hlk d_M_fewest_206) ?_
  exact cr_nil
theorem s_M_fewest {p : Program} {l : Launch} {e : Env} {R : Room} {s : State} {m : MethodId} {args : Array Value} {below : List Frame} {meth : Method} {c : Code} {s0 : State} {D : va_G} {ca : Nat → ClassId} {e0 d mc ms : Nat} {Q : cr_Q} (hl : l.flags = flags0) (Z : cr_Z0 s0 D ca e0) (C : cr_C p R s m meth c (cr_W0 s0) s0.heap.size y_M_fewest c_M_fewest 6 (Option.some FieldType.int) d mc ms) (hem : c.exceptionTable.toList = []) : ∀ x ∈ t_M_fewest l s0 D ca e0 d mc ms, cr_Snd p l e R s m args below meth c s0.heap.size mc ms Q x.1 x.2 := cr_app (s_M_fewest_0 hl Z C hem) (cr_app (s_M_fewest_1 hl Z C hem) (cr_app (s_M_fewest_2 hl Z C hem) (s_M_fewest_3 hl Z C hem)))
theorem d_M_count_0 : decode c_M_count 0 = .ok (.iconst 0, 1) := by decide +kernel
theorem d_M_count_1 : decode c_M_count 1 = .ok (.istore_n 1, 1) := by decide +kernel
theorem d_M_count_2 : decode c_M_count 2 = .ok (.iconst 0, 1) := by decide +kernel
theorem d_M_count_3 : decode c_M_count 3 = .ok (.istore_n 2, 1) := by decide +kernel
theorem d_M_count_4 : decode c_M_count 4 = .ok (.iload_n 2, 1) := by decide +kernel
theorem d_M_count_5 : decode c_M_count 5 = .ok (.bipush 16, 2) := by decide +kernel
theorem d_M_count_7 : decode c_M_count 7 = .ok (.if_icmp .ge 17, 3) := by decide +kernel
theorem d_M_count_10 : decode c_M_count 10 = .ok (.iload_n 1, 1) := by decide +kernel
theorem d_M_count_11 : decode c_M_count 11 = .ok (.iload_n 0, 1) := by decide +kernel
theorem d_M_count_12 : decode c_M_count 12 = .ok (.iload_n 2, 1) := by decide +kernel
theorem d_M_count_13 : decode c_M_count 13 = .ok (.ishr, 1) := by decide +kernel
theorem d_M_count_14 : decode c_M_count 14 = .ok (.iconst 1, 1) := by decide +kernel
theorem d_M_count_15 : decode c_M_count 15 = .ok (.iand, 1) := by decide +kernel
theorem d_M_count_16 : decode c_M_count 16 = .ok (.iadd, 1) := by decide +kernel
theorem d_M_count_17 : decode c_M_count 17 = .ok (.istore_n 1, 1) := by decide +kernel
theorem d_M_count_18 : decode c_M_count 18 = .ok (.iinc 2 1, 3) := by decide +kernel
theorem d_M_count_21 : decode c_M_count 21 = .ok (.goto (-17), 3) := by decide +kernel
theorem d_M_count_24 : decode c_M_count 24 = .ok (.iload_n 1, 1) := by decide +kernel
theorem d_M_count_25 : decode c_M_count 25 = .ok (.ireturn, 1) := by decide +kernel
def t_M_count_0 (l : Launch) (s0 : State) (D : va_G) (ca : Nat → ClassId) (e0 d mc ms : Nat) : List (Nat × cr_T) := [(0, cr_push (.int 0) 1),
  (1, cr_istore 1 2),
  (2, cr_push (.int 0) 3),
  (3, cr_istore 2 4),
  (4, cr_iload 2 5),
  (5, cr_push (.int 16) 7),
  (7, cr_icge 24 10),
  (10, cr_iload 1 11),
  (11, cr_iload 0 12),
  (12, cr_iload 2 13),
  (13, cr_ishr 14),
  (14, cr_push (.int 1) 15),
  (15, cr_iand 16),
  (16, cr_iadd 17),
  (17, cr_istore 1 18),
  (18, cr_iinc 2 1 21),
  (21, cr_goto 4),
  (24, cr_iload 1 25),
  (25, cr_iret mc ms)]
def t_M_count (l : Launch) (s0 : State) (D : va_G) (ca : Nat → ClassId) (e0 d mc ms : Nat) : List (Nat × cr_T) := t_M_count_0 l s0 D ca e0 d mc ms
set_option maxHeartbeats 4000000 in
set_option maxRecDepth 20000 in
theorem s_M_count_0 {p : Program} {l : Launch} {e : Env} {R : Room} {s : State} {m : MethodId} {args : Array Value} {below : List Frame} {meth : Method} {c : Code} {s0 : State} {D : va_G} {ca : Nat → ClassId} {e0 d mc ms : Nat} {Q : cr_Q} (hl : l.flags = flags0) (Z : cr_Z0 s0 D ca e0) (C : cr_C p R s m meth c (cr_W0 s0) s0.heap.size y_M_count c_M_count 3 (Option.some FieldType.int) d mc ms) (hem : c.exceptionTable.toList = []) : ∀ x ∈ t_M_count_0 l s0 D ca e0 d mc ms, cr_Snd p l e R s m args below meth c s0.heap.size mc ms Q x.1 x.2 := by
  obtain ⟨hx, hb, hml, hown, hr, hlk, hnm, hU, hlo, hR⟩ := C
  have hK := cr_Z0K Z hU
  have hRc : R.cells = mc := by rw [hR]; rfl
  have hRs : R.slots = ms := by rw [hR]; rfl
  unfold t_M_count_0
  refine cr_cons (cr_iconst_ok hx hb d_M_count_0 (by decide) rfl) ?_
  refine cr_cons (cr_istore_n_ok hx hb d_M_count_1 rfl rfl) ?_
  refine cr_cons (cr_iconst_ok hx hb d_M_count_2 (by decide) rfl) ?_
  refine cr_cons (cr_istore_n_ok hx hb d_M_count_3 rfl rfl) ?_
  refine cr_cons (cr_iload_n_ok hx hb d_M_count_4 rfl rfl) ?_
  refine cr_cons (cr_bipush_ok hx hb d_M_count_5 (by decide) rfl) ?_
  refine cr_cons (cr_icge_ok hx hb d_M_count_7 (by decide) rfl) ?_
  refine cr_cons (cr_iload_n_ok hx hb d_M_count_10 rfl rfl) ?_
  refine cr_cons (cr_iload_n_ok hx hb d_M_count_11 rfl rfl) ?_
  refine cr_cons (cr_iload_n_ok hx hb d_M_count_12 rfl rfl) ?_
  refine cr_cons (cr_ishr_ok hx hb d_M_count_13 rfl) ?_
  refine cr_cons (cr_iconst_ok hx hb d_M_count_14 (by decide) rfl) ?_
  refine cr_cons (cr_iand_ok hx hb d_M_count_15 rfl) ?_
  refine cr_cons (cr_iadd_ok hx hb d_M_count_16 rfl) ?_
  refine cr_cons (cr_istore_n_ok hx hb d_M_count_17 rfl rfl) ?_
  refine cr_cons (cr_iinc_ok hx hb d_M_count_18 (by decide) rfl) ?_
  refine cr_cons (cr_goto_ok hx hb d_M_count_21 (by decide)) ?_
  refine cr_cons (cr_iload_n_ok hx hb d_M_count_24 rfl rfl) ?_
  refine cr_cons (cr_iret_ok hx hb hr hlk d_M_count_25) ?_
  exact cr_nil
theorem s_M_count {p : Program} {l : Launch} {e : Env} {R : Room} {s : State} {m : MethodId} {args : Array Value} {below : List Frame} {meth : Method} {c : Code} {s0 : State} {D : va_G} {ca : Nat → ClassId} {e0 d mc ms : Nat} {Q : cr_Q} (hl : l.flags = flags0) (Z : cr_Z0 s0 D ca e0) (C : cr_C p R s m meth c (cr_W0 s0) s0.heap.size y_M_count c_M_count 3 (Option.some FieldType.int) d mc ms) (hem : c.exceptionTable.toList = []) : ∀ x ∈ t_M_count l s0 D ca e0 d mc ms, cr_Snd p l e R s m args below meth c s0.heap.size mc ms Q x.1 x.2 := s_M_count_0 hl Z C hem
theorem d_M_meets_0 : decode c_M_meets 0 = .ok (.iconst 1, 1) := by decide +kernel
theorem d_M_meets_1 : decode c_M_meets 1 = .ok (.istore 4, 2) := by decide +kernel
theorem d_M_meets_3 : decode c_M_meets 3 = .ok (.iconst 0, 1) := by decide +kernel
theorem d_M_meets_4 : decode c_M_meets 4 = .ok (.istore 5, 2) := by decide +kernel
theorem d_M_meets_6 : decode c_M_meets 6 = .ok (.iload 5, 2) := by decide +kernel
theorem d_M_meets_8 : decode c_M_meets 8 = .ok (.iload_n 3, 1) := by decide +kernel
theorem d_M_meets_9 : decode c_M_meets 9 = .ok (.if_icmp .ge 30, 3) := by decide +kernel
theorem d_M_meets_12 : decode c_M_meets 12 = .ok (.iload 4, 2) := by decide +kernel
theorem d_M_meets_14 : decode c_M_meets 14 = .ok (.ifCond .eq 25, 3) := by decide +kernel
theorem d_M_meets_17 : decode c_M_meets 17 = .ok (.iload_n 1, 1) := by decide +kernel
theorem d_M_meets_18 : decode c_M_meets 18 = .ok (.aload_n 2, 1) := by decide +kernel
theorem d_M_meets_19 : decode c_M_meets 19 = .ok (.iload 5, 2) := by decide +kernel
theorem d_M_meets_21 : decode c_M_meets 21 = .ok (.iaload, 1) := by decide +kernel
theorem d_M_meets_22 : decode c_M_meets 22 = .ok (.iand, 1) := by decide +kernel
theorem d_M_meets_23 : decode c_M_meets 23 = .ok (.ifCond .eq 7, 3) := by decide +kernel
theorem d_M_meets_26 : decode c_M_meets 26 = .ok (.iconst 1, 1) := by decide +kernel
theorem d_M_meets_27 : decode c_M_meets 27 = .ok (.goto 4, 3) := by decide +kernel
theorem d_M_meets_30 : decode c_M_meets 30 = .ok (.iconst 0, 1) := by decide +kernel
theorem d_M_meets_31 : decode c_M_meets 31 = .ok (.istore 4, 2) := by decide +kernel
theorem d_M_meets_33 : decode c_M_meets 33 = .ok (.iinc 5 1, 3) := by decide +kernel
theorem d_M_meets_36 : decode c_M_meets 36 = .ok (.goto (-30), 3) := by decide +kernel
theorem d_M_meets_39 : decode c_M_meets 39 = .ok (.iload 4, 2) := by decide +kernel
theorem d_M_meets_41 : decode c_M_meets 41 = .ok (.ireturn, 1) := by decide +kernel
def t_M_meets_0 (l : Launch) (s0 : State) (D : va_G) (ca : Nat → ClassId) (e0 d mc ms : Nat) : List (Nat × cr_T) := [(0, cr_push (.int 1) 1),
  (1, cr_istore 4 3),
  (3, cr_push (.int 0) 4),
  (4, cr_istore 5 6),
  (6, cr_iload 5 8),
  (8, cr_iload 3 9),
  (9, cr_icge 39 12),
  (12, cr_iload 4 14),
  (14, cr_ifeq 39 17),
  (17, cr_iload 1 18),
  (18, cr_aload 2 19),
  (19, cr_iload 5 21),
  (21, cr_iald D kc (ca 0) 22),
  (22, cr_iand 23),
  (23, cr_ifeq 30 26),
  (26, cr_push (.int 1) 27),
  (27, cr_goto 31),
  (30, cr_push (.int 0) 31),
  (31, cr_istore 4 33),
  (33, cr_iinc 5 1 36),
  (36, cr_goto 6),
  (39, cr_iload 4 41),
  (41, cr_zret mc ms .boolean)]
def t_M_meets (l : Launch) (s0 : State) (D : va_G) (ca : Nat → ClassId) (e0 d mc ms : Nat) : List (Nat × cr_T) := t_M_meets_0 l s0 D ca e0 d mc ms
set_option maxHeartbeats 4000000 in
set_option maxRecDepth 20000 in
theorem s_M_meets_0 {p : Program} {l : Launch} {e : Env} {R : Room} {s : State} {m : MethodId} {args : Array Value} {below : List Frame} {meth : Method} {c : Code} {s0 : State} {D : va_G} {ca : Nat → ClassId} {e0 d mc ms : Nat} {Q : cr_Q} (hl : l.flags = flags0) (Z : cr_Z0 s0 D ca e0) (C : cr_C p R s m meth c (cr_W0 s0) s0.heap.size y_M_meets c_M_meets 6 (Option.some FieldType.boolean) d mc ms) (hem : c.exceptionTable.toList = []) : ∀ x ∈ t_M_meets_0 l s0 D ca e0 d mc ms, cr_Snd p l e R s m args below meth c s0.heap.size mc ms Q x.1 x.2 := by
  obtain ⟨hx, hb, hml, hown, hr, hlk, hnm, hU, hlo, hR⟩ := C
  have hK := cr_Z0K Z hU
  have hRc : R.cells = mc := by rw [hR]; rfl
  have hRs : R.slots = ms := by rw [hR]; rfl
  unfold t_M_meets_0
  refine cr_cons (cr_iconst_ok hx hb d_M_meets_0 (by decide) rfl) ?_
  refine cr_cons (cr_istore_ok hx hb d_M_meets_1 rfl) ?_
  refine cr_cons (cr_iconst_ok hx hb d_M_meets_3 (by decide) rfl) ?_
  refine cr_cons (cr_istore_ok hx hb d_M_meets_4 rfl) ?_
  refine cr_cons (cr_iload_ok hx hb d_M_meets_6 rfl) ?_
  refine cr_cons (cr_iload_n_ok hx hb d_M_meets_8 rfl rfl) ?_
  refine cr_cons (cr_icge_ok hx hb d_M_meets_9 (by decide) rfl) ?_
  refine cr_cons (cr_iload_ok hx hb d_M_meets_12 rfl) ?_
  refine cr_cons (cr_ifeq_ok hx hb d_M_meets_14 (by decide) rfl) ?_
  refine cr_cons (cr_iload_n_ok hx hb d_M_meets_17 rfl rfl) ?_
  refine cr_cons (cr_aload_n_ok hx hb d_M_meets_18 rfl rfl) ?_
  refine cr_cons (cr_iload_ok hx hb d_M_meets_19 rfl) ?_
  refine cr_cons (cr_iald_ok (t0 := 0) hx hb hK rfl d_M_meets_21 rfl) ?_
  refine cr_cons (cr_iand_ok hx hb d_M_meets_22 rfl) ?_
  refine cr_cons (cr_ifeq_ok hx hb d_M_meets_23 (by decide) rfl) ?_
  refine cr_cons (cr_iconst_ok hx hb d_M_meets_26 (by decide) rfl) ?_
  refine cr_cons (cr_goto_ok hx hb d_M_meets_27 (by decide)) ?_
  refine cr_cons (cr_iconst_ok hx hb d_M_meets_30 (by decide) rfl) ?_
  refine cr_cons (cr_istore_ok hx hb d_M_meets_31 rfl) ?_
  refine cr_cons (cr_iinc_ok hx hb d_M_meets_33 (by decide) rfl) ?_
  refine cr_cons (cr_goto_ok hx hb d_M_meets_36 (by decide)) ?_
  refine cr_cons (cr_iload_ok hx hb d_M_meets_39 rfl) ?_
  refine cr_cons (cr_zret_ok hx hb hr hlk d_M_meets_41) ?_
  exact cr_nil
theorem s_M_meets {p : Program} {l : Launch} {e : Env} {R : Room} {s : State} {m : MethodId} {args : Array Value} {below : List Frame} {meth : Method} {c : Code} {s0 : State} {D : va_G} {ca : Nat → ClassId} {e0 d mc ms : Nat} {Q : cr_Q} (hl : l.flags = flags0) (Z : cr_Z0 s0 D ca e0) (C : cr_C p R s m meth c (cr_W0 s0) s0.heap.size y_M_meets c_M_meets 6 (Option.some FieldType.boolean) d mc ms) (hem : c.exceptionTable.toList = []) : ∀ x ∈ t_M_meets l s0 D ca e0 d mc ms, cr_Snd p l e R s m args below meth c s0.heap.size mc ms Q x.1 x.2 := s_M_meets_0 hl Z C hem
theorem d_M_now_0 : decode c_M_now 0 = .ok (.aload_n 0, 1) := by decide +kernel
theorem d_M_now_1 : decode c_M_now 1 = .ok (.iconst 0, 1) := by decide +kernel
theorem d_M_now_2 : decode c_M_now 2 = .ok (.putfield 105, 3) := by decide +kernel
theorem d_M_now_5 : decode c_M_now 5 = .ok (.aload_n 0, 1) := by decide +kernel
theorem d_M_now_6 : decode c_M_now 6 = .ok (.getfield 148, 3) := by decide +kernel
theorem d_M_now_9 : decode c_M_now 9 = .ok (.ireturn, 1) := by decide +kernel
def t_M_now_0 (l : Launch) (s0 : State) (D : va_G) (ca : Nat → ClassId) (e0 d mc ms : Nat) : List (Nat × cr_T) := [(0, cr_aload 0 1),
  (1, cr_push (.int 0) 2),
  (2, cr_putf D kc s0.heap.size 11 0 .int 5),
  (5, cr_aload 0 6),
  (6, cr_getf D kc 11 1 9),
  (9, cr_iret mc ms)]
def t_M_now (l : Launch) (s0 : State) (D : va_G) (ca : Nat → ClassId) (e0 d mc ms : Nat) : List (Nat × cr_T) := t_M_now_0 l s0 D ca e0 d mc ms
set_option maxHeartbeats 4000000 in
set_option maxRecDepth 20000 in
theorem s_M_now_0 {p : Program} {l : Launch} {e : Env} {R : Room} {s : State} {m : MethodId} {args : Array Value} {below : List Frame} {meth : Method} {c : Code} {s0 : State} {D : va_G} {ca : Nat → ClassId} {e0 d mc ms : Nat} {Q : cr_Q} (hl : l.flags = flags0) (Z : cr_Z0 s0 D ca e0) (C : cr_C p R s m meth c (cr_W0 s0) s0.heap.size y_M_now c_M_now 1 (Option.some FieldType.int) d mc ms) (hem : c.exceptionTable.toList = []) : ∀ x ∈ t_M_now_0 l s0 D ca e0 d mc ms, cr_Snd p l e R s m args below meth c s0.heap.size mc ms Q x.1 x.2 := by
  obtain ⟨hx, hb, hml, hown, hr, hlk, hnm, hU, hlo, hR⟩ := C
  have hK := cr_Z0K Z hU
  have hRc : R.cells = mc := by rw [hR]; rfl
  have hRs : R.slots = ms := by rw [hR]; rfl
  unfold t_M_now_0
  refine cr_cons (cr_aload_n_ok hx hb d_M_now_0 rfl rfl) ?_
  refine cr_cons (cr_iconst_ok hx hb d_M_now_1 (by decide) rfl) ?_
  refine cr_cons (cr_putf_ok (C := R_M) (T := T_M) (N := 41) tt_M hx hb (k_M Z hU args) (fun _ h => h) ty_M nm_M hown hK rfl (by decide) (Or.inl (cr_w Z w_818 rfl hU args)) (fun _ h => h) rfl (by decide +kernel) d_M_now_2 rfl) ?_
  refine cr_cons (cr_aload_n_ok hx hb d_M_now_5 rfl rfl) ?_
  refine cr_cons (cr_getf_ok (C := R_M) (T := T_M) (N := 41) hx hb (k_M Z hU args) (fun _ h => h) hown hK rfl (by decide) (cr_w Z w_819 rfl hU args) (fun _ h => h) d_M_now_6 rfl) ?_
  refine cr_cons (cr_iret_ok hx hb hr hlk d_M_now_9) ?_
  exact cr_nil
theorem s_M_now {p : Program} {l : Launch} {e : Env} {R : Room} {s : State} {m : MethodId} {args : Array Value} {below : List Frame} {meth : Method} {c : Code} {s0 : State} {D : va_G} {ca : Nat → ClassId} {e0 d mc ms : Nat} {Q : cr_Q} (hl : l.flags = flags0) (Z : cr_Z0 s0 D ca e0) (C : cr_C p R s m meth c (cr_W0 s0) s0.heap.size y_M_now c_M_now 1 (Option.some FieldType.int) d mc ms) (hem : c.exceptionTable.toList = []) : ∀ x ∈ t_M_now l s0 D ca e0 d mc ms, cr_Snd p l e R s m args below meth c s0.heap.size mc ms Q x.1 x.2 := s_M_now_0 hl Z C hem
