theorem d_M_off_0 : decode c_M_off 0 = .ok (.aload_n 0, 1) := by decide +kernel
theorem d_M_off_1 : decode c_M_off 1 = .ok (.iload_n 1, 1) := by decide +kernel
theorem d_M_off_2 : decode c_M_off 2 = .ok (.aload_n 0, 1) := by decide +kernel
theorem d_M_off_3 : decode c_M_off 3 = .ok (.getfield 124, 3) := by decide +kernel
theorem d_M_off_6 : decode c_M_off 6 = .ok (.invokestatic 113, 3) := by decide +kernel
theorem d_M_off_9 : decode c_M_off 9 = .ok (.iconst 1, 1) := by decide +kernel
theorem d_M_off_10 : decode c_M_off 10 = .ok (.invokevirtual 120, 3) := by decide +kernel
theorem d_M_off_13 : decode c_M_off 13 = .ok (.ifCond .ne 5, 3) := by decide +kernel
theorem d_M_off_16 : decode c_M_off 16 = .ok (.iconst 0, 1) := by decide +kernel
theorem d_M_off_17 : decode c_M_off 17 = .ok (.ireturn, 1) := by decide +kernel
theorem d_M_off_18 : decode c_M_off 18 = .ok (.iload_n 2, 1) := by decide +kernel
theorem d_M_off_19 : decode c_M_off 19 = .ok (.ifCond .eq 36, 3) := by decide +kernel
theorem d_M_off_22 : decode c_M_off 22 = .ok (.aload_n 0, 1) := by decide +kernel
theorem d_M_off_23 : decode c_M_off 23 = .ok (.getfield 29, 3) := by decide +kernel
theorem d_M_off_26 : decode c_M_off 26 = .ok (.iload_n 1, 1) := by decide +kernel
theorem d_M_off_27 : decode c_M_off 27 = .ok (.aload_n 0, 1) := by decide +kernel
theorem d_M_off_28 : decode c_M_off 28 = .ok (.getfield 29, 3) := by decide +kernel
theorem d_M_off_31 : decode c_M_off 31 = .ok (.iload_n 1, 1) := by decide +kernel
theorem d_M_off_32 : decode c_M_off 32 = .ok (.iaload, 1) := by decide +kernel
theorem d_M_off_33 : decode c_M_off 33 = .ok (.sipush 9000, 3) := by decide +kernel
theorem d_M_off_36 : decode c_M_off 36 = .ok (.if_icmp .ne 10, 3) := by decide +kernel
theorem d_M_off_39 : decode c_M_off 39 = .ok (.aload_n 0, 1) := by decide +kernel
theorem d_M_off_40 : decode c_M_off 40 = .ok (.getfield 110, 3) := by decide +kernel
theorem d_M_off_43 : decode c_M_off 43 = .ok (.goto 9, 3) := by decide +kernel
theorem d_M_off_46 : decode c_M_off 46 = .ok (.aload_n 0, 1) := by decide +kernel
theorem d_M_off_47 : decode c_M_off 47 = .ok (.getfield 29, 3) := by decide +kernel
theorem d_M_off_50 : decode c_M_off 50 = .ok (.iload_n 1, 1) := by decide +kernel
theorem d_M_off_51 : decode c_M_off 51 = .ok (.iaload, 1) := by decide +kernel
theorem d_M_off_52 : decode c_M_off 52 = .ok (.iastore, 1) := by decide +kernel
theorem d_M_off_53 : decode c_M_off 53 = .ok (.iconst 0, 1) := by decide +kernel
theorem d_M_off_54 : decode c_M_off 54 = .ok (.ireturn, 1) := by decide +kernel
theorem d_M_off_55 : decode c_M_off 55 = .ok (.iconst 0, 1) := by decide +kernel
theorem d_M_off_56 : decode c_M_off 56 = .ok (.istore_n 3, 1) := by decide +kernel
theorem d_M_off_57 : decode c_M_off 57 = .ok (.iload_n 3, 1) := by decide +kernel
theorem d_M_off_58 : decode c_M_off 58 = .ok (.aload_n 0, 1) := by decide +kernel
theorem d_M_off_59 : decode c_M_off 59 = .ok (.getfield 35, 3) := by decide +kernel
theorem d_M_off_62 : decode c_M_off 62 = .ok (.iload_n 1, 1) := by decide +kernel
theorem d_M_off_63 : decode c_M_off 63 = .ok (.iaload, 1) := by decide +kernel
theorem d_M_off_64 : decode c_M_off 64 = .ok (.if_icmp .ge 158, 3) := by decide +kernel
theorem d_M_off_67 : decode c_M_off 67 = .ok (.bipush 50, 2) := by decide +kernel
theorem d_M_off_69 : decode c_M_off 69 = .ok (.iload_n 1, 1) := by decide +kernel
theorem d_M_off_70 : decode c_M_off 70 = .ok (.imul, 1) := by decide +kernel
theorem d_M_off_71 : decode c_M_off 71 = .ok (.iload_n 3, 1) := by decide +kernel
theorem d_M_off_72 : decode c_M_off 72 = .ok (.iadd, 1) := by decide +kernel
theorem d_M_off_73 : decode c_M_off 73 = .ok (.istore 4, 2) := by decide +kernel
theorem d_M_off_75 : decode c_M_off 75 = .ok (.aload_n 0, 1) := by decide +kernel
theorem d_M_off_76 : decode c_M_off 76 = .ok (.getfield 50, 3) := by decide +kernel
theorem d_M_off_79 : decode c_M_off 79 = .ok (.aload_n 0, 1) := by decide +kernel
theorem d_M_off_80 : decode c_M_off 80 = .ok (.getfield 53, 3) := by decide +kernel
theorem d_M_off_83 : decode c_M_off 83 = .ok (.aload_n 0, 1) := by decide +kernel
theorem d_M_off_84 : decode c_M_off 84 = .ok (.getfield 38, 3) := by decide +kernel
theorem d_M_off_87 : decode c_M_off 87 = .ok (.iload 4, 2) := by decide +kernel
theorem d_M_off_89 : decode c_M_off 89 = .ok (.iaload, 1) := by decide +kernel
theorem d_M_off_90 : decode c_M_off 90 = .ok (.iaload, 1) := by decide +kernel
theorem d_M_off_91 : decode c_M_off 91 = .ok (.aload_n 0, 1) := by decide +kernel
theorem d_M_off_92 : decode c_M_off 92 = .ok (.getfield 41, 3) := by decide +kernel
theorem d_M_off_95 : decode c_M_off 95 = .ok (.iload 4, 2) := by decide +kernel
theorem d_M_off_97 : decode c_M_off 97 = .ok (.iaload, 1) := by decide +kernel
theorem d_M_off_98 : decode c_M_off 98 = .ok (.iastore, 1) := by decide +kernel
theorem d_M_off_99 : decode c_M_off 99 = .ok (.aload_n 0, 1) := by decide +kernel
theorem d_M_off_100 : decode c_M_off 100 = .ok (.aload_n 0, 1) := by decide +kernel
theorem d_M_off_101 : decode c_M_off 101 = .ok (.getfield 38, 3) := by decide +kernel
theorem d_M_off_104 : decode c_M_off 104 = .ok (.iload 4, 2) := by decide +kernel
theorem d_M_off_106 : decode c_M_off 106 = .ok (.iaload, 1) := by decide +kernel
theorem d_M_off_107 : decode c_M_off 107 = .ok (.aload_n 0, 1) := by decide +kernel
theorem d_M_off_108 : decode c_M_off 108 = .ok (.getfield 41, 3) := by decide +kernel
theorem d_M_off_111 : decode c_M_off 111 = .ok (.iload 4, 2) := by decide +kernel
theorem d_M_off_113 : decode c_M_off 113 = .ok (.iaload, 1) := by decide +kernel
theorem d_M_off_114 : decode c_M_off 114 = .ok (.aload_n 0, 1) := by decide +kernel
theorem d_M_off_115 : decode c_M_off 115 = .ok (.getfield 44, 3) := by decide +kernel
theorem d_M_off_118 : decode c_M_off 118 = .ok (.iload 4, 2) := by decide +kernel
theorem d_M_off_120 : decode c_M_off 120 = .ok (.iaload, 1) := by decide +kernel
theorem d_M_off_121 : decode c_M_off 121 = .ok (.sipush 9000, 3) := by decide +kernel
theorem d_M_off_124 : decode c_M_off 124 = .ok (.iconst (-1), 1) := by decide +kernel
theorem d_M_off_125 : decode c_M_off 125 = .ok (.invokevirtual 158, 3) := by decide +kernel
theorem d_M_off_128 : decode c_M_off 128 = .ok (.istore 5, 2) := by decide +kernel
theorem d_M_off_130 : decode c_M_off 130 = .ok (.iload 5, 2) := by decide +kernel
theorem d_M_off_132 : decode c_M_off 132 = .ok (.ifCond .le 65, 3) := by decide +kernel
theorem d_M_off_135 : decode c_M_off 135 = .ok (.aload_n 0, 1) := by decide +kernel
theorem d_M_off_136 : decode c_M_off 136 = .ok (.getfield 176, 3) := by decide +kernel
theorem d_M_off_139 : decode c_M_off 139 = .ok (.bipush 100, 2) := by decide +kernel
theorem d_M_off_141 : decode c_M_off 141 = .ok (.if_icmp .ge 56, 3) := by decide +kernel
theorem d_M_off_144 : decode c_M_off 144 = .ok (.aload_n 0, 1) := by decide +kernel
theorem d_M_off_145 : decode c_M_off 145 = .ok (.getfield 86, 3) := by decide +kernel
theorem d_M_off_148 : decode c_M_off 148 = .ok (.aload_n 0, 1) := by decide +kernel
theorem d_M_off_149 : decode c_M_off 149 = .ok (.getfield 176, 3) := by decide +kernel
theorem d_M_off_152 : decode c_M_off 152 = .ok (.iload_n 1, 1) := by decide +kernel
theorem d_M_off_153 : decode c_M_off 153 = .ok (.iastore, 1) := by decide +kernel
theorem d_M_off_154 : decode c_M_off 154 = .ok (.aload_n 0, 1) := by decide +kernel
theorem d_M_off_155 : decode c_M_off 155 = .ok (.getfield 89, 3) := by decide +kernel
theorem d_M_off_158 : decode c_M_off 158 = .ok (.aload_n 0, 1) := by decide +kernel
theorem d_M_off_159 : decode c_M_off 159 = .ok (.getfield 176, 3) := by decide +kernel
theorem d_M_off_162 : decode c_M_off 162 = .ok (.aload_n 0, 1) := by decide +kernel
theorem d_M_off_163 : decode c_M_off 163 = .ok (.getfield 38, 3) := by decide +kernel
theorem d_M_off_166 : decode c_M_off 166 = .ok (.iload 4, 2) := by decide +kernel
theorem d_M_off_168 : decode c_M_off 168 = .ok (.iaload, 1) := by decide +kernel
theorem d_M_off_169 : decode c_M_off 169 = .ok (.iastore, 1) := by decide +kernel
theorem d_M_off_170 : decode c_M_off 170 = .ok (.aload_n 0, 1) := by decide +kernel
theorem d_M_off_171 : decode c_M_off 171 = .ok (.getfield 92, 3) := by decide +kernel
theorem d_M_off_174 : decode c_M_off 174 = .ok (.aload_n 0, 1) := by decide +kernel
theorem d_M_off_175 : decode c_M_off 175 = .ok (.getfield 176, 3) := by decide +kernel
theorem d_M_off_178 : decode c_M_off 178 = .ok (.aload_n 0, 1) := by decide +kernel
theorem d_M_off_179 : decode c_M_off 179 = .ok (.getfield 44, 3) := by decide +kernel
theorem d_M_off_182 : decode c_M_off 182 = .ok (.iload 4, 2) := by decide +kernel
theorem d_M_off_184 : decode c_M_off 184 = .ok (.iaload, 1) := by decide +kernel
theorem d_M_off_185 : decode c_M_off 185 = .ok (.iastore, 1) := by decide +kernel
theorem d_M_off_186 : decode c_M_off 186 = .ok (.aload_n 0, 1) := by decide +kernel
theorem d_M_off_187 : decode c_M_off 187 = .ok (.getfield 95, 3) := by decide +kernel
theorem d_M_off_190 : decode c_M_off 190 = .ok (.aload_n 0, 1) := by decide +kernel
theorem d_M_off_191 : decode c_M_off 191 = .ok (.getfield 176, 3) := by decide +kernel
theorem d_M_off_194 : decode c_M_off 194 = .ok (.iload 5, 2) := by decide +kernel
theorem d_M_off_196 : decode c_M_off 196 = .ok (.iastore, 1) := by decide +kernel
theorem d_M_off_197 : decode c_M_off 197 = .ok (.aload_n 0, 1) := by decide +kernel
theorem d_M_off_198 : decode c_M_off 198 = .ok (.dup, 1) := by decide +kernel
theorem d_M_off_199 : decode c_M_off 199 = .ok (.getfield 176, 3) := by decide +kernel
theorem d_M_off_202 : decode c_M_off 202 = .ok (.iload 5, 2) := by decide +kernel
theorem d_M_off_204 : decode c_M_off 204 = .ok (.ifCond .le 7, 3) := by decide +kernel
theorem d_M_off_207 : decode c_M_off 207 = .ok (.iconst 1, 1) := by decide +kernel
theorem d_M_off_208 : decode c_M_off 208 = .ok (.goto 4, 3) := by decide +kernel
theorem d_M_off_211 : decode c_M_off 211 = .ok (.iconst 0, 1) := by decide +kernel
theorem d_M_off_212 : decode c_M_off 212 = .ok (.iadd, 1) := by decide +kernel
theorem d_M_off_213 : decode c_M_off 213 = .ok (.putfield 176, 3) := by decide +kernel
theorem d_M_off_216 : decode c_M_off 216 = .ok (.iinc 3 1, 3) := by decide +kernel
theorem d_M_off_219 : decode c_M_off 219 = .ok (.goto (-162), 3) := by decide +kernel
theorem d_M_off_222 : decode c_M_off 222 = .ok (.aload_n 0, 1) := by decide +kernel
theorem d_M_off_223 : decode c_M_off 223 = .ok (.getfield 35, 3) := by decide +kernel
theorem d_M_off_226 : decode c_M_off 226 = .ok (.iload_n 1, 1) := by decide +kernel
theorem d_M_off_227 : decode c_M_off 227 = .ok (.iaload, 1) := by decide +kernel
theorem d_M_off_228 : decode c_M_off 228 = .ok (.istore_n 3, 1) := by decide +kernel
theorem d_M_off_229 : decode c_M_off 229 = .ok (.aload_n 0, 1) := by decide +kernel
theorem d_M_off_230 : decode c_M_off 230 = .ok (.getfield 35, 3) := by decide +kernel
theorem d_M_off_233 : decode c_M_off 233 = .ok (.iload_n 1, 1) := by decide +kernel
theorem d_M_off_234 : decode c_M_off 234 = .ok (.iconst 0, 1) := by decide +kernel
theorem d_M_off_235 : decode c_M_off 235 = .ok (.iastore, 1) := by decide +kernel
theorem d_M_off_236 : decode c_M_off 236 = .ok (.aload_n 0, 1) := by decide +kernel
theorem d_M_off_237 : decode c_M_off 237 = .ok (.getfield 29, 3) := by decide +kernel
theorem d_M_off_240 : decode c_M_off 240 = .ok (.iload_n 1, 1) := by decide +kernel
theorem d_M_off_241 : decode c_M_off 241 = .ok (.sipush 9000, 3) := by decide +kernel
theorem d_M_off_244 : decode c_M_off 244 = .ok (.iastore, 1) := by decide +kernel
theorem d_M_off_245 : decode c_M_off 245 = .ok (.iload_n 3, 1) := by decide +kernel
theorem d_M_off_246 : decode c_M_off 246 = .ok (.ireturn, 1) := by decide +kernel
def t_M_off_0 (l : Launch) (s0 : State) (D : va_G) (ca : Nat → ClassId) (e0 d mc ms : Nat) : List (Nat × cr_T) := [(0, cr_aload 0 1),
  (1, cr_iload 1 2),
  (2, cr_aload 0 3),
  (3, cr_getf D kc 11 4 6),
  (6, cr_calS l (cr_W0 s0) s0.heap.size y_M_isIn cw_M_isIn d mc ms 2 6 9),
  (9, cr_push (.int 1) 10),
  (10, cr_calV D kc l (cr_W0 s0) s0.heap.size 11 y_M_goes cw_M_goes d mc ms 2 6 13),
  (13, cr_ifne 18 16),
  (16, cr_push (.int 0) 17),
  (17, cr_iret mc ms),
  (18, cr_iload 2 19),
  (19, cr_ifeq 55 22),
  (22, cr_aload 0 23),
  (23, cr_getf D kc 11 10 26),
  (26, cr_iload 1 27),
  (27, cr_aload 0 28),
  (28, cr_getf D kc 11 10 31),
  (31, cr_iload 1 32),
  (32, cr_iald D kc (ca 0) 33),
  (33, cr_push (.int 9000) 36),
  (36, cr_icne 46 39),
  (39, cr_aload 0 40),
  (40, cr_getf D kc 11 28 43),
  (43, cr_goto 52),
  (46, cr_aload 0 47),
  (47, cr_getf D kc 11 10 50),
  (50, cr_iload 1 51),
  (51, cr_iald D kc (ca 0) 52),
  (52, cr_iast D kc s0.heap.size (ca 0) 53),
  (53, cr_push (.int 0) 54)]
def t_M_off_1 (l : Launch) (s0 : State) (D : va_G) (ca : Nat → ClassId) (e0 d mc ms : Nat) : List (Nat × cr_T) := [(54, cr_iret mc ms),
  (55, cr_push (.int 0) 56),
  (56, cr_istore 3 57),
  (57, cr_iload 3 58),
  (58, cr_aload 0 59),
  (59, cr_getf D kc 11 12 62),
  (62, cr_iload 1 63),
  (63, cr_iald D kc (ca 0) 64),
  (64, cr_icge 222 67),
  (67, cr_push (.int 50) 69),
  (69, cr_iload 1 70),
  (70, cr_imul 71),
  (71, cr_iload 3 72),
  (72, cr_iadd 73),
  (73, cr_istore 4 75),
  (75, cr_aload 0 76),
  (76, cr_getf D kc 11 18 79),
  (79, cr_aload 0 80),
  (80, cr_getf D kc 11 20 83),
  (83, cr_aload 0 84),
  (84, cr_getf D kc 11 13 87),
  (87, cr_iload 4 89),
  (89, cr_iald D kc (ca 0) 90),
  (90, cr_iald D kc (ca 0) 91),
  (91, cr_aload 0 92),
  (92, cr_getf D kc 11 14 95),
  (95, cr_iload 4 97),
  (97, cr_iald D kc (ca 0) 98),
  (98, cr_iast D kc s0.heap.size (ca 0) 99),
  (99, cr_aload 0 100)]
def t_M_off_2 (l : Launch) (s0 : State) (D : va_G) (ca : Nat → ClassId) (e0 d mc ms : Nat) : List (Nat × cr_T) := [(100, cr_aload 0 101),
  (101, cr_getf D kc 11 13 104),
  (104, cr_iload 4 106),
  (106, cr_iald D kc (ca 0) 107),
  (107, cr_aload 0 108),
  (108, cr_getf D kc 11 14 111),
  (111, cr_iload 4 113),
  (113, cr_iald D kc (ca 0) 114),
  (114, cr_aload 0 115),
  (115, cr_getf D kc 11 15 118),
  (118, cr_iload 4 120),
  (120, cr_iald D kc (ca 0) 121),
  (121, cr_push (.int 9000) 124),
  (124, cr_push (.int (-1)) 125),
  (125, cr_calV D kc l (cr_W0 s0) s0.heap.size 11 y_M_why cw_M_why d mc ms 5 6 128),
  (128, cr_istore 5 130),
  (130, cr_iload 5 132),
  (132, cr_ifle 197 135),
  (135, cr_aload 0 136),
  (136, cr_getf D kc 11 34 139),
  (139, cr_push (.int 100) 141),
  (141, cr_icge 197 144),
  (144, cr_aload 0 145),
  (145, cr_getf D kc 11 35 148),
  (148, cr_aload 0 149),
  (149, cr_getf D kc 11 34 152),
  (152, cr_iload 1 153),
  (153, cr_iast D kc s0.heap.size (ca 0) 154),
  (154, cr_aload 0 155),
  (155, cr_getf D kc 11 36 158)]
def t_M_off_3 (l : Launch) (s0 : State) (D : va_G) (ca : Nat → ClassId) (e0 d mc ms : Nat) : List (Nat × cr_T) := [(158, cr_aload 0 159),
  (159, cr_getf D kc 11 34 162),
  (162, cr_aload 0 163),
  (163, cr_getf D kc 11 13 166),
  (166, cr_iload 4 168),
  (168, cr_iald D kc (ca 0) 169),
  (169, cr_iast D kc s0.heap.size (ca 0) 170),
  (170, cr_aload 0 171),
  (171, cr_getf D kc 11 37 174),
  (174, cr_aload 0 175),
  (175, cr_getf D kc 11 34 178),
  (178, cr_aload 0 179),
  (179, cr_getf D kc 11 15 182),
  (182, cr_iload 4 184),
  (184, cr_iald D kc (ca 0) 185),
  (185, cr_iast D kc s0.heap.size (ca 0) 186),
  (186, cr_aload 0 187),
  (187, cr_getf D kc 11 38 190),
  (190, cr_aload 0 191),
  (191, cr_getf D kc 11 34 194),
  (194, cr_iload 5 196),
  (196, cr_iast D kc s0.heap.size (ca 0) 197),
  (197, cr_aload 0 198),
  (198, cr_dup 199),
  (199, cr_getf D kc 11 34 202),
  (202, cr_iload 5 204),
  (204, cr_ifle 211 207),
  (207, cr_push (.int 1) 208),
  (208, cr_goto 212),
  (211, cr_push (.int 0) 212)]
def t_M_off_4 (l : Launch) (s0 : State) (D : va_G) (ca : Nat → ClassId) (e0 d mc ms : Nat) : List (Nat × cr_T) := [(212, cr_iadd 213),
  (213, cr_putf D kc s0.heap.size 11 34 .int 216),
  (216, cr_iinc 3 1 219),
  (219, cr_goto 57),
  (222, cr_aload 0 223),
  (223, cr_getf D kc 11 12 226),
  (226, cr_iload 1 227),
  (227, cr_iald D kc (ca 0) 228),
  (228, cr_istore 3 229),
  (229, cr_aload 0 230),
  (230, cr_getf D kc 11 12 233),
  (233, cr_iload 1 234),
  (234, cr_push (.int 0) 235),
  (235, cr_iast D kc s0.heap.size (ca 0) 236),
  (236, cr_aload 0 237),
  (237, cr_getf D kc 11 10 240),
  (240, cr_iload 1 241),
  (241, cr_push (.int 9000) 244),
  (244, cr_iast D kc s0.heap.size (ca 0) 245),
  (245, cr_iload 3 246),
  (246, cr_iret mc ms)]
def t_M_off (l : Launch) (s0 : State) (D : va_G) (ca : Nat → ClassId) (e0 d mc ms : Nat) : List (Nat × cr_T) := t_M_off_0 l s0 D ca e0 d mc ms ++ (t_M_off_1 l s0 D ca e0 d mc ms ++ (t_M_off_2 l s0 D ca e0 d mc ms ++ (t_M_off_3 l s0 D ca e0 d mc ms ++ (t_M_off_4 l s0 D ca e0 d mc ms))))
set_option maxHeartbeats 4000000 in
set_option maxRecDepth 20000 in
theorem s_M_off_0 {p : Program} {l : Launch} {e : Env} {R : Room} {s : State} {m : MethodId} {args : Array Value} {below : List Frame} {meth : Method} {c : Code} {s0 : State} {D : va_G} {ca : Nat → ClassId} {e0 d mc ms : Nat} {Q : cr_Q} (hl : l.flags = flags0) (Z : cr_Z0 s0 D ca e0) (C : cr_C p R s m meth c (cr_W0 s0) s0.heap.size y_M_off c_M_off 6 (Option.some FieldType.int) d mc ms) (hem : c.exceptionTable.toList = []) : ∀ x ∈ t_M_off_0 l s0 D ca e0 d mc ms, cr_Snd p l e R s m args below meth c s0.heap.size mc ms Q x.1 x.2 := by
  obtain ⟨hx, hb, hml, hown, hr, hlk, hnm, hU, hlo, hR⟩ := C
  have hK := cr_Z0K Z hU
  have hRc : R.cells = mc := by rw [hR]; rfl
  have hRs : R.slots = ms := by rw [hR]; rfl
  unfold t_M_off_0
  refine cr_cons (cr_aload_n_ok hx hb d_M_off_0 rfl rfl) ?_
  refine cr_cons (cr_iload_n_ok hx hb d_M_off_1 rfl rfl) ?_
  refine cr_cons (cr_aload_n_ok hx hb d_M_off_2 rfl rfl) ?_
  refine cr_cons (cr_getf_ok (C := R_M) (T := T_M) (N := 41) hx hb (k_M Z hU args) (fun _ h => h) hown hK rfl (by decide) (cr_w Z w_822 rfl hU args) (fun _ h => h) d_M_off_3 rfl) ?_
  refine cr_cons (cr_calS_ok hx hb hml hown hlk hU hlo hR (cr_W0_st s0) (by rw [hem]; exact fun _ h => absurd h List.not_mem_nil) (u_M_isIn Z) (Or.inl (cr_w Z w_951 rfl hU args)) (cr_w Z w_952 rfl hU args) (by decide) (by decide +kernel) (by decide) d_M_off_6 rfl) ?_
  refine cr_cons (cr_iconst_ok hx hb d_M_off_9 (by decide) rfl) ?_
  refine cr_cons (cr_calV_ok (C := R_M) (Tf := T_M) (N := 41) hx hb hml hown hlk hU hlo hR (cr_W0_st s0) (by rw [hem]; exact fun _ h => absurd h List.not_mem_nil) hK rfl (u_M_goes Z) (Or.inl (cr_w Z w_954 rfl hU args)) (cr_w Z w_956 rfl hU args) (cr_w Z ws_32 rfl hU args) (by decide) (by decide +kernel) (by decide) d_M_off_10 rfl) ?_
  refine cr_cons (cr_ifne_ok hx hb d_M_off_13 (by decide) rfl) ?_
  refine cr_cons (cr_iconst_ok hx hb d_M_off_16 (by decide) rfl) ?_
  refine cr_cons (cr_iret_ok hx hb hr hlk d_M_off_17) ?_
  refine cr_cons (cr_iload_n_ok hx hb d_M_off_18 rfl rfl) ?_
  refine cr_cons (cr_ifeq_ok hx hb d_M_off_19 (by decide) rfl) ?_
  refine cr_cons (cr_aload_n_ok hx hb d_M_off_22 rfl rfl) ?_
  refine cr_cons (cr_getf_ok (C := R_M) (T := T_M) (N := 41) hx hb (k_M Z hU args) (fun _ h => h) hown hK rfl (by decide) (cr_w Z w_828 rfl hU args) (fun _ h => h) d_M_off_23 rfl) ?_
  refine cr_cons (cr_iload_n_ok hx hb d_M_off_26 rfl rfl) ?_
  refine cr_cons (cr_aload_n_ok hx hb d_M_off_27 rfl rfl) ?_
  refine cr_cons (cr_getf_ok (C := R_M) (T := T_M) (N := 41) hx hb (k_M Z hU args) (fun _ h => h) hown hK rfl (by decide) (cr_w Z w_828 rfl hU args) (fun _ h => h) d_M_off_28 rfl) ?_
  refine cr_cons (cr_iload_n_ok hx hb d_M_off_31 rfl rfl) ?_
  refine cr_cons (cr_iald_ok (t0 := 0) hx hb hK rfl d_M_off_32 rfl) ?_
  refine cr_cons (cr_sipush_ok hx hb d_M_off_33 (by decide) rfl) ?_
  refine cr_cons (cr_icne_ok hx hb d_M_off_36 (by decide) rfl) ?_
  refine cr_cons (cr_aload_n_ok hx hb d_M_off_39 rfl rfl) ?_
  refine cr_cons (cr_getf_ok (C := R_M) (T := T_M) (N := 41) hx hb (k_M Z hU args) (fun _ h => h) hown hK rfl (by decide) (cr_w Z w_846 rfl hU args) (fun _ h => h) d_M_off_40 rfl) ?_
  refine cr_cons (cr_goto_ok hx hb d_M_off_43 (by decide)) ?_
  refine cr_cons (cr_aload_n_ok hx hb d_M_off_46 rfl rfl) ?_
  refine cr_cons (cr_getf_ok (C := R_M) (T := T_M) (N := 41) hx hb (k_M Z hU args) (fun _ h => h) hown hK rfl (by decide) (cr_w Z w_828 rfl hU args) (fun _ h => h) d_M_off_47 rfl) ?_
  refine cr_cons (cr_iload_n_ok hx hb d_M_off_50 rfl rfl) ?_
  refine cr_cons (cr_iald_ok (t0 := 0) hx hb hK rfl d_M_off_51 rfl) ?_
  refine cr_cons (cr_iast_ok (t0 := 0) hx hb hK rfl d_M_off_52 rfl) ?_
  refine cr_cons (cr_iconst_ok hx hb d_M_off_53 (by decide) rfl) ?_
  exact cr_nil
set_option maxHeartbeats 4000000 in
set_option maxRecDepth 20000 in
theorem s_M_off_1 {p : Program} {l : Launch} {e : Env} {R : Room} {s : State} {m : MethodId} {args : Array Value} {below : List Frame} {meth : Method} {c : Code} {s0 : State} {D : va_G} {ca : Nat → ClassId} {e0 d mc ms : Nat} {Q : cr_Q} (hl : l.flags = flags0) (Z : cr_Z0 s0 D ca e0) (C : cr_C p R s m meth c (cr_W0 s0) s0.heap.size y_M_off c_M_off 6 (Option.some FieldType.int) d mc ms) (hem : c.exceptionTable.toList = []) : ∀ x ∈ t_M_off_1 l s0 D ca e0 d mc ms, cr_Snd p l e R s m args below meth c s0.heap.size mc ms Q x.1 x.2 := by
  obtain ⟨hx, hb, hml, hown, hr, hlk, hnm, hU, hlo, hR⟩ := C
  have hK := cr_Z0K Z hU
  have hRc : R.cells = mc := by rw [hR]; rfl
  have hRs : R.slots = ms := by rw [hR]; rfl
  unfold t_M_off_1
  refine cr_cons (cr_iret_ok hx hb hr hlk d_M_off_54) ?_
  refine cr_cons (cr_iconst_ok hx hb d_M_off_55 (by decide) rfl) ?_
  refine cr_cons (cr_istore_n_ok hx hb d_M_off_56 rfl rfl) ?_
  refine cr_cons (cr_iload_n_ok hx hb d_M_off_57 rfl rfl) ?_
  refine cr_cons (cr_aload_n_ok hx hb d_M_off_58 rfl rfl) ?_
  refine cr_cons (cr_getf_ok (C := R_M) (T := T_M) (N := 41) hx hb (k_M Z hU args) (fun _ h => h) hown hK rfl (by decide) (cr_w Z w_830 rfl hU args) (fun _ h => h) d_M_off_59 rfl) ?_
  refine cr_cons (cr_iload_n_ok hx hb d_M_off_62 rfl rfl) ?_
  refine cr_cons (cr_iald_ok (t0 := 0) hx hb hK rfl d_M_off_63 rfl) ?_
  refine cr_cons (cr_icge_ok hx hb d_M_off_64 (by decide) rfl) ?_
  refine cr_cons (cr_bipush_ok hx hb d_M_off_67 (by decide) rfl) ?_
  refine cr_cons (cr_iload_n_ok hx hb d_M_off_69 rfl rfl) ?_
  refine cr_cons (cr_imul_ok hx hb d_M_off_70 rfl) ?_
  refine cr_cons (cr_iload_n_ok hx hb d_M_off_71 rfl rfl) ?_
  refine cr_cons (cr_iadd_ok hx hb d_M_off_72 rfl) ?_
  refine cr_cons (cr_istore_ok hx hb d_M_off_73 rfl) ?_
  refine cr_cons (cr_aload_n_ok hx hb d_M_off_75 rfl rfl) ?_
  refine cr_cons (cr_getf_ok (C := R_M) (T := T_M) (N := 41) hx hb (k_M Z hU args) (fun _ h => h) hown hK rfl (by decide) (cr_w Z w_836 rfl hU args) (fun _ h => h) d_M_off_76 rfl) ?_
  refine cr_cons (cr_aload_n_ok hx hb d_M_off_79 rfl rfl) ?_
  refine cr_cons (cr_getf_ok (C := R_M) (T := T_M) (N := 41) hx hb (k_M Z hU args) (fun _ h => h) hown hK rfl (by decide) (cr_w Z w_838 rfl hU args) (fun _ h => h) d_M_off_80 rfl) ?_
  refine cr_cons (cr_aload_n_ok hx hb d_M_off_83 rfl rfl) ?_
  refine cr_cons (cr_getf_ok (C := R_M) (T := T_M) (N := 41) hx hb (k_M Z hU args) (fun _ h => h) hown hK rfl (by decide) (cr_w Z w_831 rfl hU args) (fun _ h => h) d_M_off_84 rfl) ?_
  refine cr_cons (cr_iload_ok hx hb d_M_off_87 rfl) ?_
  refine cr_cons (cr_iald_ok (t0 := 0) hx hb hK rfl d_M_off_89 rfl) ?_
  refine cr_cons (cr_iald_ok (t0 := 0) hx hb hK rfl d_M_off_90 rfl) ?_
  refine cr_cons (cr_aload_n_ok hx hb d_M_off_91 rfl rfl) ?_
  refine cr_cons (cr_getf_ok (C := R_M) (T := T_M) (N := 41) hx hb (k_M Z hU args) (fun _ h => h) hown hK rfl (by decide) (cr_w Z w_832 rfl hU args) (fun _ h => h) d_M_off_92 rfl) ?_
  refine cr_cons (cr_iload_ok hx hb d_M_off_95 rfl) ?_
  refine cr_cons (cr_iald_ok (t0 := 0) hx hb hK rfl d_M_off_97 rfl) ?_
  refine cr_cons (cr_iast_ok (t0 := 0) hx hb hK rfl d_M_off_98 rfl) ?_
  refine cr_cons (cr_aload_n_ok hx hb d_M_off_99 rfl rfl) ?_
  exact cr_nil
set_option maxHeartbeats 4000000 in
set_option maxRecDepth 20000 in
theorem s_M_off_2 {p : Program} {l : Launch} {e : Env} {R : Room} {s : State} {m : MethodId} {args : Array Value} {below : List Frame} {meth : Method} {c : Code} {s0 : State} {D : va_G} {ca : Nat → ClassId} {e0 d mc ms : Nat} {Q : cr_Q} (hl : l.flags = flags0) (Z : cr_Z0 s0 D ca e0) (C : cr_C p R s m meth c (cr_W0 s0) s0.heap.size y_M_off c_M_off 6 (Option.some FieldType.int) d mc ms) (hem : c.exceptionTable.toList = []) : ∀ x ∈ t_M_off_2 l s0 D ca e0 d mc ms, cr_Snd p l e R s m args below meth c s0.heap.size mc ms Q x.1 x.2 := by
  obtain ⟨hx, hb, hml, hown, hr, hlk, hnm, hU, hlo, hR⟩ := C
  have hK := cr_Z0K Z hU
  have hRc : R.cells = mc := by rw [hR]; rfl
  have hRs : R.slots = ms := by rw [hR]; rfl
  unfold t_M_off_2
  refine cr_cons (cr_aload_n_ok hx hb d_M_off_100 rfl rfl) ?_
  refine cr_cons (cr_getf_ok (C := R_M) (T := T_M) (N := 41) hx hb (k_M Z hU args) (fun _ h => h) hown hK rfl (by decide) (cr_w Z w_831 rfl hU args) (fun _ h => h) d_M_off_101 rfl) ?_
  refine cr_cons (cr_iload_ok hx hb d_M_off_104 rfl) ?_
  refine cr_cons (cr_iald_ok (t0 := 0) hx hb hK rfl d_M_off_106 rfl) ?_
  refine cr_cons (cr_aload_n_ok hx hb d_M_off_107 rfl rfl) ?_
  refine cr_cons (cr_getf_ok (C := R_M) (T := T_M) (N := 41) hx hb (k_M Z hU args) (fun _ h => h) hown hK rfl (by decide) (cr_w Z w_832 rfl hU args) (fun _ h => h) d_M_off_108 rfl) ?_
  refine cr_cons (cr_iload_ok hx hb d_M_off_111 rfl) ?_
  refine cr_cons (cr_iald_ok (t0 := 0) hx hb hK rfl d_M_off_113 rfl) ?_
  refine cr_cons (cr_aload_n_ok hx hb d_M_off_114 rfl rfl) ?_
  refine cr_cons (cr_getf_ok (C := R_M) (T := T_M) (N := 41) hx hb (k_M Z hU args) (fun _ h => h) hown hK rfl (by decide) (cr_w Z w_833 rfl hU args) (fun _ h => h) d_M_off_115 rfl) ?_
  refine cr_cons (cr_iload_ok hx hb d_M_off_118 rfl) ?_
  refine cr_cons (cr_iald_ok (t0 := 0) hx hb hK rfl d_M_off_120 rfl) ?_
  refine cr_cons (cr_sipush_ok hx hb d_M_off_121 (by decide) rfl) ?_
  refine cr_cons (cr_iconst_ok hx hb d_M_off_124 (by decide) rfl) ?_
  refine cr_cons (cr_calV_ok (C := R_M) (Tf := T_M) (N := 41) hx hb hml hown hlk hU hlo hR (cr_W0_st s0) (by rw [hem]; exact fun _ h => absurd h List.not_mem_nil) hK rfl (u_M_why Z) (Or.inl (cr_w Z w_1022 rfl hU args)) (cr_w Z w_1024 rfl hU args) (cr_w Z ws_38 rfl hU args) (by decide) (by decide +kernel) (by decide) d_M_off_125 rfl) ?_
  refine cr_cons (cr_istore_ok hx hb d_M_off_128 rfl) ?_
  refine cr_cons (cr_iload_ok hx hb d_M_off_130 rfl) ?_
  refine cr_cons (cr_ifle_ok hx hb d_M_off_132 (by decide) rfl) ?_
  refine cr_cons (cr_aload_n_ok hx hb d_M_off_135 rfl rfl) ?_
  refine cr_cons (cr_getf_ok (C := R_M) (T := T_M) (N := 41) hx hb (k_M Z hU args) (fun _ h => h) hown hK rfl (by decide) (cr_w Z w_852 rfl hU args) (fun _ h => h) d_M_off_136 rfl) ?_
  refine cr_cons (cr_bipush_ok hx hb d_M_off_139 (by decide) rfl) ?_
  refine cr_cons (cr_icge_ok hx hb d_M_off_141 (by decide) rfl) ?_
  refine cr_cons (cr_aload_n_ok hx hb d_M_off_144 rfl rfl) ?_
  refine cr_cons (cr_getf_ok (C := R_M) (T := T_M) (N := 41) hx hb (k_M Z hU args) (fun _ h => h) hown hK rfl (by decide) (cr_w Z w_853 rfl hU args) (fun _ h => h) d_M_off_145 rfl) ?_
  refine cr_cons (cr_aload_n_ok hx hb d_M_off_148 rfl rfl) ?_
  refine cr_cons (cr_getf_ok (C := R_M) (T := T_M) (N := 41) hx hb (k_M Z hU args) (fun _ h => h) hown hK rfl (by decide) (cr_w Z w_852 rfl hU args) (fun _ h => h) d_M_off_149 rfl) ?_
  refine cr_cons (cr_iload_n_ok hx hb d_M_off_152 rfl rfl) ?_
  refine cr_cons (cr_iast_ok (t0 := 0) hx hb hK rfl d_M_off_153 rfl) ?_
  refine cr_cons (cr_aload_n_ok hx hb d_M_off_154 rfl rfl) ?_
  refine cr_cons (cr_getf_ok (C := R_M) (T := T_M) (N := 41) hx hb (k_M Z hU args) (fun _ h => h) hown hK rfl (by decide) (cr_w Z w_854 rfl hU args) (fun _ h => h) d_M_off_155 rfl) ?_
  exact cr_nil
set_option maxHeartbeats 4000000 in
set_option maxRecDepth 20000 in
theorem s_M_off_3 {p : Program} {l : Launch} {e : Env} {R : Room} {s : State} {m : MethodId} {args : Array Value} {below : List Frame} {meth : Method} {c : Code} {s0 : State} {D : va_G} {ca : Nat → ClassId} {e0 d mc ms : Nat} {Q : cr_Q} (hl : l.flags = flags0) (Z : cr_Z0 s0 D ca e0) (C : cr_C p R s m meth c (cr_W0 s0) s0.heap.size y_M_off c_M_off 6 (Option.some FieldType.int) d mc ms) (hem : c.exceptionTable.toList = []) : ∀ x ∈ t_M_off_3 l s0 D ca e0 d mc ms, cr_Snd p l e R s m args below meth c s0.heap.size mc ms Q x.1 x.2 := by
  obtain ⟨hx, hb, hml, hown, hr, hlk, hnm, hU, hlo, hR⟩ := C
  have hK := cr_Z0K Z hU
  have hRc : R.cells = mc := by rw [hR]; rfl
  have hRs : R.slots = ms := by rw [hR]; rfl
  unfold t_M_off_3
  refine cr_cons (cr_aload_n_ok hx hb d_M_off_158 rfl rfl) ?_
  refine cr_cons (cr_getf_ok (C := R_M) (T := T_M) (N := 41) hx hb (k_M Z hU args) (fun _ h => h) hown hK rfl (by decide) (cr_w Z w_852 rfl hU args) (fun _ h => h) d_M_off_159 rfl) ?_
  refine cr_cons (cr_aload_n_ok hx hb d_M_off_162 rfl rfl) ?_
  refine cr_cons (cr_getf_ok (C := R_M) (T := T_M) (N := 41) hx hb (k_M Z hU args) (fun _ h => h) hown hK rfl (by decide) (cr_w Z w_831 rfl hU args) (fun _ h => h) d_M_off_163 rfl) ?_
  refine cr_cons (cr_iload_ok hx hb d_M_off_166 rfl) ?_
  refine cr_cons (cr_iald_ok (t0 := 0) hx hb hK rfl d_M_off_168 rfl) ?_
  refine cr_cons (cr_iast_ok (t0 := 0) hx hb hK rfl d_M_off_169 rfl) ?_
  refine cr_cons (cr_aload_n_ok hx hb d_M_off_170 rfl rfl) ?_
  refine cr_cons (cr_getf_ok (C := R_M) (T := T_M) (N := 41) hx hb (k_M Z hU args) (fun _ h => h) hown hK rfl (by decide) (cr_w Z w_855 rfl hU args) (fun _ h => h) d_M_off_171 rfl) ?_
  refine cr_cons (cr_aload_n_ok hx hb d_M_off_174 rfl rfl) ?_
  refine cr_cons (cr_getf_ok (C := R_M) (T := T_M) (N := 41) hx hb (k_M Z hU args) (fun _ h => h) hown hK rfl (by decide) (cr_w Z w_852 rfl hU args) (fun _ h => h) d_M_off_175 rfl) ?_
  refine cr_cons (cr_aload_n_ok hx hb d_M_off_178 rfl rfl) ?_
  refine cr_cons (cr_getf_ok (C := R_M) (T := T_M) (N := 41) hx hb (k_M Z hU args) (fun _ h => h) hown hK rfl (by decide) (cr_w Z w_833 rfl hU args) (fun _ h => h) d_M_off_179 rfl) ?_
  refine cr_cons (cr_iload_ok hx hb d_M_off_182 rfl) ?_
  refine cr_cons (cr_iald_ok (t0 := 0) hx hb hK rfl d_M_off_184 rfl) ?_
  refine cr_cons (cr_iast_ok (t0 := 0) hx hb hK rfl d_M_off_185 rfl) ?_
  refine cr_cons (cr_aload_n_ok hx hb d_M_off_186 rfl rfl) ?_
  refine cr_cons (cr_getf_ok (C := R_M) (T := T_M) (N := 41) hx hb (k_M Z hU args) (fun _ h => h) hown hK rfl (by decide) (cr_w Z w_856 rfl hU args) (fun _ h => h) d_M_off_187 rfl) ?_
  refine cr_cons (cr_aload_n_ok hx hb d_M_off_190 rfl rfl) ?_
  refine cr_cons (cr_getf_ok (C := R_M) (T := T_M) (N := 41) hx hb (k_M Z hU args) (fun _ h => h) hown hK rfl (by decide) (cr_w Z w_852 rfl hU args) (fun _ h => h) d_M_off_191 rfl) ?_
  refine cr_cons (cr_iload_ok hx hb d_M_off_194 rfl) ?_
  refine cr_cons (cr_iast_ok (t0 := 0) hx hb hK rfl d_M_off_196 rfl) ?_
  refine cr_cons (cr_aload_n_ok hx hb d_M_off_197 rfl rfl) ?_
  refine cr_cons (cr_dup_ok hx hb d_M_off_198 rfl) ?_
  refine cr_cons (cr_getf_ok (C := R_M) (T := T_M) (N := 41) hx hb (k_M Z hU args) (fun _ h => h) hown hK rfl (by decide) (cr_w Z w_852 rfl hU args) (fun _ h => h) d_M_off_199 rfl) ?_
  refine cr_cons (cr_iload_ok hx hb d_M_off_202 rfl) ?_
  refine cr_cons (cr_ifle_ok hx hb d_M_off_204 (by decide) rfl) ?_
  refine cr_cons (cr_iconst_ok hx hb d_M_off_207 (by decide) rfl) ?_
  refine cr_cons (cr_goto_ok hx hb d_M_off_208 (by decide)) ?_
  refine cr_cons (cr_iconst_ok hx hb d_M_off_211 (by decide) rfl) ?_
  exact cr_nil
set_option maxHeartbeats 4000000 in
set_option maxRecDepth 20000 in
theorem s_M_off_4 {p : Program} {l : Launch} {e : Env} {R : Room} {s : State} {m : MethodId} {args : Array Value} {below : List Frame} {meth : Method} {c : Code} {s0 : State} {D : va_G} {ca : Nat → ClassId} {e0 d mc ms : Nat} {Q : cr_Q} (hl : l.flags = flags0) (Z : cr_Z0 s0 D ca e0) (C : cr_C p R s m meth c (cr_W0 s0) s0.heap.size y_M_off c_M_off 6 (Option.some FieldType.int) d mc ms) (hem : c.exceptionTable.toList = []) : ∀ x ∈ t_M_off_4 l s0 D ca e0 d mc ms, cr_Snd p l e R s m args below meth c s0.heap.size mc ms Q x.1 x.2 := by
  obtain ⟨hx, hb, hml, hown, hr, hlk, hnm, hU, hlo, hR⟩ := C
  have hK := cr_Z0K Z hU
  have hRc : R.cells = mc := by rw [hR]; rfl
  have hRs : R.slots = ms := by rw [hR]; rfl
  unfold t_M_off_4
  refine cr_cons (cr_iadd_ok hx hb d_M_off_212 rfl) ?_
  refine cr_cons (cr_putf_ok (C := R_M) (T := T_M) (N := 41) tt_M hx hb (k_M Z hU args) (fun _ h => h) ty_M nm_M hown hK rfl (by decide) (Or.inl (cr_w Z w_852 rfl hU args)) (fun _ h => h) rfl (by decide +kernel) d_M_off_213 rfl) ?_
  refine cr_cons (cr_iinc_ok hx hb d_M_off_216 (by decide) rfl) ?_
  refine cr_cons (cr_goto_ok hx hb d_M_off_219 (by decide)) ?_
  refine cr_cons (cr_aload_n_ok hx hb d_M_off_222 rfl rfl) ?_
  refine cr_cons (cr_getf_ok (C := R_M) (T := T_M) (N := 41) hx hb (k_M Z hU args) (fun _ h => h) hown hK rfl (by decide) (cr_w Z w_830 rfl hU args) (fun _ h => h) d_M_off_223 rfl) ?_
  refine cr_cons (cr_iload_n_ok hx hb d_M_off_226 rfl rfl) ?_
  refine cr_cons (cr_iald_ok (t0 := 0) hx hb hK rfl d_M_off_227 rfl) ?_
  refine cr_cons (cr_istore_n_ok hx hb d_M_off_228 rfl rfl) ?_
  refine cr_cons (cr_aload_n_ok hx hb d_M_off_229 rfl rfl) ?_
  refine cr_cons (cr_getf_ok (C := R_M) (T := T_M) (N := 41) hx hb (k_M Z hU args) (fun _ h => h) hown hK rfl (by decide) (cr_w Z w_830 rfl hU args) (fun _ h => h) d_M_off_230 rfl) ?_
  refine cr_cons (cr_iload_n_ok hx hb d_M_off_233 rfl rfl) ?_
  refine cr_cons (cr_iconst_ok hx hb d_M_off_234 (by decide) rfl) ?_
  refine cr_cons (cr_iast_ok (t0 := 0) hx hb hK rfl d_M_off_235 rfl) ?_
  refine cr_cons (cr_aload_n_ok hx hb d_M_off_236 rfl rfl) ?_
  refine cr_cons (cr_getf_ok (C := R_M) (T := T_M) (N := 41) hx hb (k_M Z hU args) (fun _ h => h) hown hK rfl (by decide) (cr_w Z w_828 rfl hU args) (fun _ h => h) d_M_off_237 rfl) ?_
  refine cr_cons (cr_iload_n_ok hx hb d_M_off_240 rfl rfl) ?_
  refine cr_cons (cr_sipush_ok hx hb d_M_off_241 (by decide) rfl) ?_
  refine cr_cons (cr_iast_ok (t0 := 0) hx hb hK rfl d_M_off_244 rfl) ?_
  refine cr_cons (cr_iload_n_ok hx hb d_M_off_245 rfl rfl) ?_
  refine cr_cons (cr_iret_ok hx hb hr hlk d_M_off_246) ?_
  exact cr_nil
theorem s_M_off {p : Program} {l : Launch} {e : Env} {R : Room} {s : State} {m : MethodId} {args : Array Value} {below : List Frame} {meth : Method} {c : Code} {s0 : State} {D : va_G} {ca : Nat → ClassId} {e0 d mc ms : Nat} {Q : cr_Q} (hl : l.flags = flags0) (Z : cr_Z0 s0 D ca e0) (C : cr_C p R s m meth c (cr_W0 s0) s0.heap.size y_M_off c_M_off 6 (Option.some FieldType.int) d mc ms) (hem : c.exceptionTable.toList = []) : ∀ x ∈ t_M_off l s0 D ca e0 d mc ms, cr_Snd p l e R s m args below meth c s0.heap.size mc ms Q x.1 x.2 := cr_app (s_M_off_0 hl Z C hem) (cr_app (s_M_off_1 hl Z C hem) (cr_app (s_M_off_2 hl Z C hem) (cr_app (s_M_off_3 hl Z C hem) (s_M_off_4 hl Z C hem))))
theorem d_M_where_0 : decode c_M_where 0 = .ok (.aload_n 0, 1) := by decide +kernel
theorem d_M_where_1 : decode c_M_where 1 = .ok (.iload_n 1, 1) := by decide +kernel
theorem d_M_where_2 : decode c_M_where 2 = .ok (.aload_n 0, 1) := by decide +kernel
theorem d_M_where_3 : decode c_M_where 3 = .ok (.getfield 127, 3) := by decide +kernel
theorem d_M_where_6 : decode c_M_where 6 = .ok (.invokestatic 113, 3) := by decide +kernel
theorem d_M_where_9 : decode c_M_where 9 = .ok (.iconst 1, 1) := by decide +kernel
theorem d_M_where_10 : decode c_M_where 10 = .ok (.invokevirtual 120, 3) := by decide +kernel
theorem d_M_where_13 : decode c_M_where 13 = .ok (.ifCond .eq 12, 3) := by decide +kernel
theorem d_M_where_16 : decode c_M_where 16 = .ok (.aload_n 0, 1) := by decide +kernel
theorem d_M_where_17 : decode c_M_where 17 = .ok (.getfield 50, 3) := by decide +kernel
theorem d_M_where_20 : decode c_M_where 20 = .ok (.iload_n 1, 1) := by decide +kernel
theorem d_M_where_21 : decode c_M_where 21 = .ok (.iaload, 1) := by decide +kernel
theorem d_M_where_22 : decode c_M_where 22 = .ok (.goto 4, 3) := by decide +kernel
theorem d_M_where_25 : decode c_M_where 25 = .ok (.iconst 0, 1) := by decide +kernel
theorem d_M_where_26 : decode c_M_where 26 = .ok (.ireturn, 1) := by decide +kernel
def t_M_where_0 (l : Launch) (s0 : State) (D : va_G) (ca : Nat → ClassId) (e0 d mc ms : Nat) : List (Nat × cr_T) := [(0, cr_aload 0 1),
  (1, cr_iload 1 2),
  (2, cr_aload 0 3),
  (3, cr_getf D kc 11 16 6),
  (6, cr_calS l (cr_W0 s0) s0.heap.size y_M_isIn cw_M_isIn d mc ms 2 2 9),
  (9, cr_push (.int 1) 10),
  (10, cr_calV D kc l (cr_W0 s0) s0.heap.size 11 y_M_goes cw_M_goes d mc ms 2 2 13),
  (13, cr_ifeq 25 16),
  (16, cr_aload 0 17),
  (17, cr_getf D kc 11 18 20),
  (20, cr_iload 1 21),
  (21, cr_iald D kc (ca 0) 22),
  (22, cr_goto 26),
  (25, cr_push (.int 0) 26),
  (26, cr_iret mc ms)]
def t_M_where (l : Launch) (s0 : State) (D : va_G) (ca : Nat → ClassId) (e0 d mc ms : Nat) : List (Nat × cr_T) := t_M_where_0 l s0 D ca e0 d mc ms
set_option maxHeartbeats 4000000 in
set_option maxRecDepth 20000 in
theorem s_M_where_0 {p : Program} {l : Launch} {e : Env} {R : Room} {s : State} {m : MethodId} {args : Array Value} {below : List Frame} {meth : Method} {c : Code} {s0 : State} {D : va_G} {ca : Nat → ClassId} {e0 d mc ms : Nat} {Q : cr_Q} (hl : l.flags = flags0) (Z : cr_Z0 s0 D ca e0) (C : cr_C p R s m meth c (cr_W0 s0) s0.heap.size y_M_where c_M_where 2 (Option.some FieldType.int) d mc ms) (hem : c.exceptionTable.toList = []) : ∀ x ∈ t_M_where_0 l s0 D ca e0 d mc ms, cr_Snd p l e R s m args below meth c s0.heap.size mc ms Q x.1 x.2 := by
  obtain ⟨hx, hb, hml, hown, hr, hlk, hnm, hU, hlo, hR⟩ := C
  have hK := cr_Z0K Z hU
  have hRc : R.cells = mc := by rw [hR]; rfl
  have hRs : R.slots = ms := by rw [hR]; rfl
  unfold t_M_where_0
  refine cr_cons (cr_aload_n_ok hx hb d_M_where_0 rfl rfl) ?_
  refine cr_cons (cr_iload_n_ok hx hb d_M_where_1 rfl rfl) ?_
  refine cr_cons (cr_aload_n_ok hx hb d_M_where_2 rfl rfl) ?_
  refine cr_cons (cr_getf_ok (C := R_M) (T := T_M) (N := 41) hx hb (k_M Z hU args) (fun _ h => h) hown hK rfl (by decide) (cr_w Z w_834 rfl hU args) (fun _ h => h) d_M_where_3 rfl) ?_
  refine cr_cons (cr_calS_ok hx hb hml hown hlk hU hlo hR (cr_W0_st s0) (by rw [hem]; exact fun _ h => absurd h List.not_mem_nil) (u_M_isIn Z) (Or.inl (cr_w Z w_951 rfl hU args)) (cr_w Z w_952 rfl hU args) (by decide) (by decide +kernel) (by decide) d_M_where_6 rfl) ?_
  refine cr_cons (cr_iconst_ok hx hb d_M_where_9 (by decide) rfl) ?_
  refine cr_cons (cr_calV_ok (C := R_M) (Tf := T_M) (N := 41) hx hb hml hown hlk hU hlo hR (cr_W0_st s0) (by rw [hem]; exact fun _ h => absurd h List.not_mem_nil) hK rfl (u_M_goes Z) (Or.inl (cr_w Z w_954 rfl hU args)) (cr_w Z w_956 rfl hU args) (cr_w Z ws_32 rfl hU args) (by decide) (by decide +kernel) (by decide) d_M_where_10 rfl) ?_
  refine cr_cons (cr_ifeq_ok hx hb d_M_where_13 (by decide) rfl) ?_
  refine cr_cons (cr_aload_n_ok hx hb d_M_where_16 rfl rfl) ?_
  refine cr_cons (cr_getf_ok (C := R_M) (T := T_M) (N := 41) hx hb (k_M Z hU args) (fun _ h => h) hown hK rfl (by decide) (cr_w Z w_836 rfl hU args) (fun _ h => h) d_M_where_17 rfl) ?_
  refine cr_cons (cr_iload_n_ok hx hb d_M_where_20 rfl rfl) ?_
  refine cr_cons (cr_iald_ok (t0 := 0) hx hb hK rfl d_M_where_21 rfl) ?_
  refine cr_cons (cr_goto_ok hx hb d_M_where_22 (by decide)) ?_
  refine cr_cons (cr_iconst_ok hx hb d_M_where_25 (by decide) rfl) ?_
  refine cr_cons (cr_iret_ok hx hb hr hlk d_M_where_26) ?_
  exact cr_nil
theorem s_M_where {p : Program} {l : Launch} {e : Env} {R : Room} {s : State} {m : MethodId} {args : Array Value} {below : List Frame} {meth : Method} {c : Code} {s0 : State} {D : va_G} {ca : Nat → ClassId} {e0 d mc ms : Nat} {Q : cr_Q} (hl : l.flags = flags0) (Z : cr_Z0 s0 D ca e0) (C : cr_C p R s m meth c (cr_W0 s0) s0.heap.size y_M_where c_M_where 2 (Option.some FieldType.int) d mc ms) (hem : c.exceptionTable.toList = []) : ∀ x ∈ t_M_where l s0 D ca e0 d mc ms, cr_Snd p l e R s m args below meth c s0.heap.size mc ms Q x.1 x.2 := s_M_where_0 hl Z C hem
theorem d_M_inside_0 : decode c_M_inside 0 = .ok (.aload_n 0, 1) := by decide +kernel
theorem d_M_inside_1 : decode c_M_inside 1 = .ok (.iload_n 1, 1) := by decide +kernel
theorem d_M_inside_2 : decode c_M_inside 2 = .ok (.bipush 10, 2) := by decide +kernel
theorem d_M_inside_4 : decode c_M_inside 4 = .ok (.invokestatic 113, 3) := by decide +kernel
theorem d_M_inside_7 : decode c_M_inside 7 = .ok (.iconst 1, 1) := by decide +kernel
theorem d_M_inside_8 : decode c_M_inside 8 = .ok (.invokevirtual 120, 3) := by decide +kernel
theorem d_M_inside_11 : decode c_M_inside 11 = .ok (.ifCond .ne 5, 3) := by decide +kernel
theorem d_M_inside_14 : decode c_M_inside 14 = .ok (.iconst 0, 1) := by decide +kernel
theorem d_M_inside_15 : decode c_M_inside 15 = .ok (.ireturn, 1) := by decide +kernel
theorem d_M_inside_16 : decode c_M_inside 16 = .ok (.iconst 0, 1) := by decide +kernel
theorem d_M_inside_17 : decode c_M_inside 17 = .ok (.istore_n 2, 1) := by decide +kernel
theorem d_M_inside_18 : decode c_M_inside 18 = .ok (.iconst 0, 1) := by decide +kernel
theorem d_M_inside_19 : decode c_M_inside 19 = .ok (.istore_n 3, 1) := by decide +kernel
theorem d_M_inside_20 : decode c_M_inside 20 = .ok (.iload_n 3, 1) := by decide +kernel
theorem d_M_inside_21 : decode c_M_inside 21 = .ok (.aload_n 0, 1) := by decide +kernel
theorem d_M_inside_22 : decode c_M_inside 22 = .ok (.getfield 127, 3) := by decide +kernel
theorem d_M_inside_25 : decode c_M_inside 25 = .ok (.if_icmp .ge 32, 3) := by decide +kernel
theorem d_M_inside_28 : decode c_M_inside 28 = .ok (.iload_n 2, 1) := by decide +kernel
theorem d_M_inside_29 : decode c_M_inside 29 = .ok (.aload_n 0, 1) := by decide +kernel
theorem d_M_inside_30 : decode c_M_inside 30 = .ok (.getfield 7, 3) := by decide +kernel
theorem d_M_inside_33 : decode c_M_inside 33 = .ok (.aload_n 0, 1) := by decide +kernel
theorem d_M_inside_34 : decode c_M_inside 34 = .ok (.getfield 50, 3) := by decide +kernel
theorem d_M_inside_37 : decode c_M_inside 37 = .ok (.iload_n 3, 1) := by decide +kernel
theorem d_M_inside_38 : decode c_M_inside 38 = .ok (.iaload, 1) := by decide +kernel
theorem d_M_inside_39 : decode c_M_inside 39 = .ok (.iaload, 1) := by decide +kernel
theorem d_M_inside_40 : decode c_M_inside 40 = .ok (.iload_n 1, 1) := by decide +kernel
theorem d_M_inside_41 : decode c_M_inside 41 = .ok (.if_icmp .ne 7, 3) := by decide +kernel
theorem d_M_inside_44 : decode c_M_inside 44 = .ok (.iconst 1, 1) := by decide +kernel
theorem d_M_inside_45 : decode c_M_inside 45 = .ok (.goto 4, 3) := by decide +kernel
theorem d_M_inside_48 : decode c_M_inside 48 = .ok (.iconst 0, 1) := by decide +kernel
theorem d_M_inside_49 : decode c_M_inside 49 = .ok (.iadd, 1) := by decide +kernel
theorem d_M_inside_50 : decode c_M_inside 50 = .ok (.istore_n 2, 1) := by decide +kernel
theorem d_M_inside_51 : decode c_M_inside 51 = .ok (.iinc 3 1, 3) := by decide +kernel
theorem d_M_inside_54 : decode c_M_inside 54 = .ok (.goto (-34), 3) := by decide +kernel
theorem d_M_inside_57 : decode c_M_inside 57 = .ok (.iload_n 2, 1) := by decide +kernel
theorem d_M_inside_58 : decode c_M_inside 58 = .ok (.ireturn, 1) := by decide +kernel
def t_M_inside_0 (l : Launch) (s0 : State) (D : va_G) (ca : Nat → ClassId) (e0 d mc ms : Nat) : List (Nat × cr_T) := [(0, cr_aload 0 1),
  (1, cr_iload 1 2),
  (2, cr_push (.int 10) 4),
  (4, cr_calS l (cr_W0 s0) s0.heap.size y_M_isIn cw_M_isIn d mc ms 2 4 7),
  (7, cr_push (.int 1) 8),
  (8, cr_calV D kc l (cr_W0 s0) s0.heap.size 11 y_M_goes cw_M_goes d mc ms 2 4 11),
  (11, cr_ifne 16 14),
  (14, cr_push (.int 0) 15),
  (15, cr_iret mc ms),
  (16, cr_push (.int 0) 17),
  (17, cr_istore 2 18),
  (18, cr_push (.int 0) 19),
  (19, cr_istore 3 20),
  (20, cr_iload 3 21),
  (21, cr_aload 0 22),
  (22, cr_getf D kc 11 16 25),
  (25, cr_icge 57 28),
  (28, cr_iload 2 29),
  (29, cr_aload 0 30),
  (30, cr_getf D kc 11 3 33),
  (33, cr_aload 0 34),
  (34, cr_getf D kc 11 18 37),
  (37, cr_iload 3 38),
  (38, cr_iald D kc (ca 0) 39),
  (39, cr_iald D kc (ca 0) 40),
  (40, cr_iload 1 41),
  (41, cr_icne 48 44),
  (44, cr_push (.int 1) 45),
  (45, cr_goto 49),
  (48, cr_push (.int 0) 49)]
def t_M_inside_1 (l : Launch) (s0 : State) (D : va_G) (ca : Nat → ClassId) (e0 d mc ms : Nat) : List (Nat × cr_T) := [(49, cr_iadd 50),
  (50, cr_istore 2 51),
  (51, cr_iinc 3 1 54),
  (54, cr_goto 20),
  (57, cr_iload 2 58),
  (58, cr_iret mc ms)]
def t_M_inside (l : Launch) (s0 : State) (D : va_G) (ca : Nat → ClassId) (e0 d mc ms : Nat) : List (Nat × cr_T) := t_M_inside_0 l s0 D ca e0 d mc ms ++ (t_M_inside_1 l s0 D ca e0 d mc ms)
set_option maxHeartbeats 4000000 in
set_option maxRecDepth 20000 in
theorem s_M_inside_0 {p : Program} {l : Launch} {e : Env} {R : Room} {s : State} {m : MethodId} {args : Array Value} {below : List Frame} {meth : Method} {c : Code} {s0 : State} {D : va_G} {ca : Nat → ClassId} {e0 d mc ms : Nat} {Q : cr_Q} (hl : l.flags = flags0) (Z : cr_Z0 s0 D ca e0) (C : cr_C p R s m meth c (cr_W0 s0) s0.heap.size y_M_inside c_M_inside 4 (Option.some FieldType.int) d mc ms) (hem : c.exceptionTable.toList = []) : ∀ x ∈ t_M_inside_0 l s0 D ca e0 d mc ms, cr_Snd p l e R s m args below meth c s0.heap.size mc ms Q x.1 x.2 := by
  obtain ⟨hx, hb, hml, hown, hr, hlk, hnm, hU, hlo, hR⟩ := C
  have hK := cr_Z0K Z hU
  have hRc : R.cells = mc := by rw [hR]; rfl
  have hRs : R.slots = ms := by rw [hR]; rfl
  unfold t_M_inside_0
  refine cr_cons (cr_aload_n_ok hx hb d_M_inside_0 rfl rfl) ?_
  refine cr_cons (cr_iload_n_ok hx hb d_M_inside_1 rfl rfl) ?_
  refine cr_cons (cr_bipush_ok hx hb d_M_inside_2 (by decide) rfl) ?_
  refine cr_cons (cr_calS_ok hx hb hml hown hlk hU hlo hR (cr_W0_st s0) (by rw [hem]; exact fun _ h => absurd h List.not_mem_nil) (u_M_isIn Z) (Or.inl (cr_w Z w_951 rfl hU args)) (cr_w Z w_952 rfl hU args) (by decide) (by decide +kernel) (by decide) d_M_inside_4 rfl) ?_
  refine cr_cons (cr_iconst_ok hx hb d_M_inside_7 (by decide) rfl) ?_
  refine cr_cons (cr_calV_ok (C := R_M) (Tf := T_M) (N := 41) hx hb hml hown hlk hU hlo hR (cr_W0_st s0) (by rw [hem]; exact fun _ h => absurd h List.not_mem_nil) hK rfl (u_M_goes Z) (Or.inl (cr_w Z w_954 rfl hU args)) (cr_w Z w_956 rfl hU args) (cr_w Z ws_32 rfl hU args) (by decide) (by decide +kernel) (by decide) d_M_inside_8 rfl) ?_
  refine cr_cons (cr_ifne_ok hx hb d_M_inside_11 (by decide) rfl) ?_
  refine cr_cons (cr_iconst_ok hx hb d_M_inside_14 (by decide) rfl) ?_
  refine cr_cons (cr_iret_ok hx hb hr hlk d_M_inside_15) ?_
  refine cr_cons (cr_iconst_ok hx hb d_M_inside_16 (by decide) rfl) ?_
  refine cr_cons (cr_istore_n_ok hx hb d_M_inside_17 rfl rfl) ?_
  refine cr_cons (cr_iconst_ok hx hb d_M_inside_18 (by decide) rfl) ?_
  refine cr_cons (cr_istore_n_ok hx hb d_M_inside_19 rfl rfl) ?_
  refine cr_cons (cr_iload_n_ok hx hb d_M_inside_20 rfl rfl) ?_
  refine cr_cons (cr_aload_n_ok hx hb d_M_inside_21 rfl rfl) ?_
  refine cr_cons (cr_getf_ok (C := R_M) (T := T_M) (N := 41) hx hb (k_M Z hU args) (fun _ h => h) hown hK rfl (by decide) (cr_w Z w_834 rfl hU args) (fun _ h => h) d_M_inside_22 rfl) ?_
  refine cr_cons (cr_icge_ok hx hb d_M_inside_25 (by decide) rfl) ?_
  refine cr_cons (cr_iload_n_ok hx hb d_M_inside_28 rfl rfl) ?_
  refine cr_cons (cr_aload_n_ok hx hb d_M_inside_29 rfl rfl) ?_
  refine cr_cons (cr_getf_ok (C := R_M) (T := T_M) (N := 41) hx hb (k_M Z hU args) (fun _ h => h) hown hK rfl (by decide) (cr_w Z w_821 rfl hU args) (fun _ h => h) d_M_inside_30 rfl) ?_
  refine cr_cons (cr_aload_n_ok hx hb d_M_inside_33 rfl rfl) ?_
  refine cr_cons (cr_getf_ok (C := R_M) (T := T_M) (N := 41) hx hb (k_M Z hU args) (fun _ h => h) hown hK rfl (by decide) (cr_w Z w_836 rfl hU args) (fun _ h => h) d_M_inside_34 rfl) ?_
  refine cr_cons (cr_iload_n_ok hx hb d_M_inside_37 rfl rfl) ?_
  refine cr_cons (cr_iald_ok (t0 := 0) hx hb hK rfl d_M_inside_38 rfl) ?_
  refine cr_cons (cr_iald_ok (t0 := 0) hx hb hK rfl d_M_inside_39 rfl) ?_
  refine cr_cons (cr_iload_n_ok hx hb d_M_inside_40 rfl rfl) ?_
  refine cr_cons (cr_icne_ok hx hb d_M_inside_41 (by decide) rfl) ?_
  refine cr_cons (cr_iconst_ok hx hb d_M_inside_44 (by decide) rfl) ?_
  refine cr_cons (cr_goto_ok hx hb d_M_inside_45 (by decide)) ?_
  refine cr_cons (cr_iconst_ok hx hb d_M_inside_48 (by decide) rfl) ?_
  exact cr_nil
set_option maxHeartbeats 4000000 in
set_option maxRecDepth 20000 in
theorem s_M_inside_1 {p : Program} {l : Launch} {e : Env} {R : Room} {s : State} {m : MethodId} {args : Array Value} {below : List Frame} {meth : Method} {c : Code} {s0 : State} {D : va_G} {ca : Nat → ClassId} {e0 d mc ms : Nat} {Q : cr_Q} (hl : l.flags = flags0) (Z : cr_Z0 s0 D ca e0) (C : cr_C p R s m meth c (cr_W0 s0) s0.heap.size y_M_inside c_M_inside 4 (Option.some FieldType.int) d mc ms) (hem : c.exceptionTable.toList = []) : ∀ x ∈ t_M_inside_1 l s0 D ca e0 d mc ms, cr_Snd p l e R s m args below meth c s0.heap.size mc ms Q x.1 x.2 := by
  obtain ⟨hx, hb, hml, hown, hr, hlk, hnm, hU, hlo, hR⟩ := C
  have hK := cr_Z0K Z hU
  have hRc : R.cells = mc := by rw [hR]; rfl
  have hRs : R.slots = ms := by rw [hR]; rfl
  unfold t_M_inside_1
  refine cr_cons (cr_iadd_ok hx hb d_M_inside_49 rfl) ?_
  refine cr_cons (cr_istore_n_ok hx hb d_M_inside_50 rfl rfl) ?_
  refine cr_cons (cr_iinc_ok hx hb d_M_inside_51 (by decide) rfl) ?_
  refine cr_cons (cr_goto_ok hx hb d_M_inside_54 (by decide)) ?_
  refine cr_cons (cr_iload_n_ok hx hb d_M_inside_57 rfl rfl) ?_
  refine cr_cons (cr_iret_ok hx hb hr hlk d_M_inside_58) ?_
  exact cr_nil
theorem s_M_inside {p : Program} {l : Launch} {e : Env} {R : Room} {s : State} {m : MethodId} {args : Array Value} {below : List Frame} {meth : Method} {c : Code} {s0 : State} {D : va_G} {ca : Nat → ClassId} {e0 d mc ms : Nat} {Q : cr_Q} (hl : l.flags = flags0) (Z : cr_Z0 s0 D ca e0) (C : cr_C p R s m meth c (cr_W0 s0) s0.heap.size y_M_inside c_M_inside 4 (Option.some FieldType.int) d mc ms) (hem : c.exceptionTable.toList = []) : ∀ x ∈ t_M_inside l s0 D ca e0 d mc ms, cr_Snd p l e R s m args below meth c s0.heap.size mc ms Q x.1 x.2 := cr_app (s_M_inside_0 hl Z C hem) (s_M_inside_1 hl Z C hem)
