theorem d_M_init_0 : decode c_M_init 0 = .ok (.aload_n 0, 1) := by decide +kernel
theorem d_M_init_1 : decode c_M_init 1 = .ok (.invokespecial 1, 3) := by decide +kernel
theorem d_M_init_4 : decode c_M_init 4 = .ok (.aload_n 0, 1) := by decide +kernel
theorem d_M_init_5 : decode c_M_init 5 = .ok (.bipush 20, 2) := by decide +kernel
theorem d_M_init_7 : decode c_M_init 7 = .ok (.newarray .int, 2) := by decide +kernel
theorem d_M_init_9 : decode c_M_init 9 = .ok (.putfield 7, 3) := by decide +kernel
theorem d_M_init_12 : decode c_M_init 12 = .ok (.aload_n 0, 1) := by decide +kernel
theorem d_M_init_13 : decode c_M_init 13 = .ok (.bipush 30, 2) := by decide +kernel
theorem d_M_init_15 : decode c_M_init 15 = .ok (.newarray .int, 2) := by decide +kernel
theorem d_M_init_17 : decode c_M_init 17 = .ok (.putfield 13, 3) := by decide +kernel
theorem d_M_init_20 : decode c_M_init 20 = .ok (.aload_n 0, 1) := by decide +kernel
theorem d_M_init_21 : decode c_M_init 21 = .ok (.bipush 30, 2) := by decide +kernel
theorem d_M_init_23 : decode c_M_init 23 = .ok (.newarray .int, 2) := by decide +kernel
theorem d_M_init_25 : decode c_M_init 25 = .ok (.putfield 16, 3) := by decide +kernel
theorem d_M_init_28 : decode c_M_init 28 = .ok (.aload_n 0, 1) := by decide +kernel
theorem d_M_init_29 : decode c_M_init 29 = .ok (.bipush 30, 2) := by decide +kernel
theorem d_M_init_31 : decode c_M_init 31 = .ok (.newarray .boolean, 2) := by decide +kernel
theorem d_M_init_33 : decode c_M_init 33 = .ok (.putfield 19, 3) := by decide +kernel
theorem d_M_init_36 : decode c_M_init 36 = .ok (.aload_n 0, 1) := by decide +kernel
theorem d_M_init_37 : decode c_M_init 37 = .ok (.bipush 30, 2) := by decide +kernel
theorem d_M_init_39 : decode c_M_init 39 = .ok (.newarray .boolean, 2) := by decide +kernel
theorem d_M_init_41 : decode c_M_init 41 = .ok (.putfield 23, 3) := by decide +kernel
theorem d_M_init_44 : decode c_M_init 44 = .ok (.aload_n 0, 1) := by decide +kernel
theorem d_M_init_45 : decode c_M_init 45 = .ok (.bipush 30, 2) := by decide +kernel
theorem d_M_init_47 : decode c_M_init 47 = .ok (.newarray .int, 2) := by decide +kernel
theorem d_M_init_49 : decode c_M_init 49 = .ok (.putfield 26, 3) := by decide +kernel
theorem d_M_init_52 : decode c_M_init 52 = .ok (.aload_n 0, 1) := by decide +kernel
theorem d_M_init_53 : decode c_M_init 53 = .ok (.bipush 30, 2) := by decide +kernel
theorem d_M_init_55 : decode c_M_init 55 = .ok (.newarray .int, 2) := by decide +kernel
theorem d_M_init_57 : decode c_M_init 57 = .ok (.putfield 29, 3) := by decide +kernel
theorem d_M_init_60 : decode c_M_init 60 = .ok (.aload_n 0, 1) := by decide +kernel
theorem d_M_init_61 : decode c_M_init 61 = .ok (.sipush 900, 3) := by decide +kernel
theorem d_M_init_64 : decode c_M_init 64 = .ok (.newarray .boolean, 2) := by decide +kernel
theorem d_M_init_66 : decode c_M_init 66 = .ok (.putfield 32, 3) := by decide +kernel
theorem d_M_init_69 : decode c_M_init 69 = .ok (.aload_n 0, 1) := by decide +kernel
theorem d_M_init_70 : decode c_M_init 70 = .ok (.bipush 30, 2) := by decide +kernel
theorem d_M_init_72 : decode c_M_init 72 = .ok (.newarray .int, 2) := by decide +kernel
theorem d_M_init_74 : decode c_M_init 74 = .ok (.putfield 35, 3) := by decide +kernel
theorem d_M_init_77 : decode c_M_init 77 = .ok (.aload_n 0, 1) := by decide +kernel
theorem d_M_init_78 : decode c_M_init 78 = .ok (.sipush 1500, 3) := by decide +kernel
theorem d_M_init_81 : decode c_M_init 81 = .ok (.newarray .int, 2) := by decide +kernel
theorem d_M_init_83 : decode c_M_init 83 = .ok (.putfield 38, 3) := by decide +kernel
theorem d_M_init_86 : decode c_M_init 86 = .ok (.aload_n 0, 1) := by decide +kernel
theorem d_M_init_87 : decode c_M_init 87 = .ok (.sipush 1500, 3) := by decide +kernel
theorem d_M_init_90 : decode c_M_init 90 = .ok (.newarray .int, 2) := by decide +kernel
theorem d_M_init_92 : decode c_M_init 92 = .ok (.putfield 41, 3) := by decide +kernel
theorem d_M_init_95 : decode c_M_init 95 = .ok (.aload_n 0, 1) := by decide +kernel
theorem d_M_init_96 : decode c_M_init 96 = .ok (.sipush 1500, 3) := by decide +kernel
theorem d_M_init_99 : decode c_M_init 99 = .ok (.newarray .int, 2) := by decide +kernel
theorem d_M_init_101 : decode c_M_init 101 = .ok (.putfield 44, 3) := by decide +kernel
theorem d_M_init_104 : decode c_M_init 104 = .ok (.aload_n 0, 1) := by decide +kernel
theorem d_M_init_105 : decode c_M_init 105 = .ok (.bipush 40, 2) := by decide +kernel
theorem d_M_init_107 : decode c_M_init 107 = .ok (.newarray .int, 2) := by decide +kernel
theorem d_M_init_109 : decode c_M_init 109 = .ok (.putfield 47, 3) := by decide +kernel
theorem d_M_init_112 : decode c_M_init 112 = .ok (.aload_n 0, 1) := by decide +kernel
theorem d_M_init_113 : decode c_M_init 113 = .ok (.bipush 40, 2) := by decide +kernel
theorem d_M_init_115 : decode c_M_init 115 = .ok (.newarray .int, 2) := by decide +kernel
theorem d_M_init_117 : decode c_M_init 117 = .ok (.putfield 50, 3) := by decide +kernel
theorem d_M_init_120 : decode c_M_init 120 = .ok (.aload_n 0, 1) := by decide +kernel
theorem d_M_init_121 : decode c_M_init 121 = .ok (.bipush 60, 2) := by decide +kernel
theorem d_M_init_123 : decode c_M_init 123 = .ok (.newarray .int, 2) := by decide +kernel
theorem d_M_init_125 : decode c_M_init 125 = .ok (.putfield 53, 3) := by decide +kernel
theorem d_M_init_128 : decode c_M_init 128 = .ok (.aload_n 0, 1) := by decide +kernel
theorem d_M_init_129 : decode c_M_init 129 = .ok (.bipush 60, 2) := by decide +kernel
theorem d_M_init_131 : decode c_M_init 131 = .ok (.newarray .int, 2) := by decide +kernel
theorem d_M_init_133 : decode c_M_init 133 = .ok (.putfield 56, 3) := by decide +kernel
theorem d_M_init_136 : decode c_M_init 136 = .ok (.aload_n 0, 1) := by decide +kernel
theorem d_M_init_137 : decode c_M_init 137 = .ok (.bipush 16, 2) := by decide +kernel
theorem d_M_init_139 : decode c_M_init 139 = .ok (.newarray .int, 2) := by decide +kernel
theorem d_M_init_141 : decode c_M_init 141 = .ok (.putfield 59, 3) := by decide +kernel
theorem d_M_init_144 : decode c_M_init 144 = .ok (.aload_n 0, 1) := by decide +kernel
theorem d_M_init_145 : decode c_M_init 145 = .ok (.bipush 16, 2) := by decide +kernel
theorem d_M_init_147 : decode c_M_init 147 = .ok (.newarray .int, 2) := by decide +kernel
theorem d_M_init_149 : decode c_M_init 149 = .ok (.putfield 62, 3) := by decide +kernel
theorem d_M_init_152 : decode c_M_init 152 = .ok (.aload_n 0, 1) := by decide +kernel
theorem d_M_init_153 : decode c_M_init 153 = .ok (.bipush 16, 2) := by decide +kernel
theorem d_M_init_155 : decode c_M_init 155 = .ok (.newarray .int, 2) := by decide +kernel
theorem d_M_init_157 : decode c_M_init 157 = .ok (.putfield 65, 3) := by decide +kernel
theorem d_M_init_160 : decode c_M_init 160 = .ok (.aload_n 0, 1) := by decide +kernel
theorem d_M_init_161 : decode c_M_init 161 = .ok (.bipush 16, 2) := by decide +kernel
theorem d_M_init_163 : decode c_M_init 163 = .ok (.newarray .int, 2) := by decide +kernel
theorem d_M_init_165 : decode c_M_init 165 = .ok (.putfield 68, 3) := by decide +kernel
theorem d_M_init_168 : decode c_M_init 168 = .ok (.aload_n 0, 1) := by decide +kernel
theorem d_M_init_169 : decode c_M_init 169 = .ok (.bipush 16, 2) := by decide +kernel
theorem d_M_init_171 : decode c_M_init 171 = .ok (.newarray .int, 2) := by decide +kernel
theorem d_M_init_173 : decode c_M_init 173 = .ok (.putfield 71, 3) := by decide +kernel
theorem d_M_init_176 : decode c_M_init 176 = .ok (.aload_n 0, 1) := by decide +kernel
theorem d_M_init_177 : decode c_M_init 177 = .ok (.sipush 9000, 3) := by decide +kernel
theorem d_M_init_180 : decode c_M_init 180 = .ok (.newarray .int, 2) := by decide +kernel
theorem d_M_init_182 : decode c_M_init 182 = .ok (.putfield 74, 3) := by decide +kernel
theorem d_M_init_185 : decode c_M_init 185 = .ok (.aload_n 0, 1) := by decide +kernel
theorem d_M_init_186 : decode c_M_init 186 = .ok (.sipush 9000, 3) := by decide +kernel
theorem d_M_init_189 : decode c_M_init 189 = .ok (.newarray .int, 2) := by decide +kernel
theorem d_M_init_191 : decode c_M_init 191 = .ok (.putfield 77, 3) := by decide +kernel
theorem d_M_init_194 : decode c_M_init 194 = .ok (.aload_n 0, 1) := by decide +kernel
theorem d_M_init_195 : decode c_M_init 195 = .ok (.sipush 9000, 3) := by decide +kernel
theorem d_M_init_198 : decode c_M_init 198 = .ok (.newarray .int, 2) := by decide +kernel
theorem d_M_init_200 : decode c_M_init 200 = .ok (.putfield 80, 3) := by decide +kernel
theorem d_M_init_203 : decode c_M_init 203 = .ok (.aload_n 0, 1) := by decide +kernel
theorem d_M_init_204 : decode c_M_init 204 = .ok (.sipush 9000, 3) := by decide +kernel
theorem d_M_init_207 : decode c_M_init 207 = .ok (.newarray .int, 2) := by decide +kernel
theorem d_M_init_209 : decode c_M_init 209 = .ok (.putfield 83, 3) := by decide +kernel
theorem d_M_init_212 : decode c_M_init 212 = .ok (.aload_n 0, 1) := by decide +kernel
theorem d_M_init_213 : decode c_M_init 213 = .ok (.bipush 100, 2) := by decide +kernel
theorem d_M_init_215 : decode c_M_init 215 = .ok (.newarray .int, 2) := by decide +kernel
theorem d_M_init_217 : decode c_M_init 217 = .ok (.putfield 86, 3) := by decide +kernel
theorem d_M_init_220 : decode c_M_init 220 = .ok (.aload_n 0, 1) := by decide +kernel
theorem d_M_init_221 : decode c_M_init 221 = .ok (.bipush 100, 2) := by decide +kernel
theorem d_M_init_223 : decode c_M_init 223 = .ok (.newarray .int, 2) := by decide +kernel
theorem d_M_init_225 : decode c_M_init 225 = .ok (.putfield 89, 3) := by decide +kernel
theorem d_M_init_228 : decode c_M_init 228 = .ok (.aload_n 0, 1) := by decide +kernel
theorem d_M_init_229 : decode c_M_init 229 = .ok (.bipush 100, 2) := by decide +kernel
theorem d_M_init_231 : decode c_M_init 231 = .ok (.newarray .int, 2) := by decide +kernel
theorem d_M_init_233 : decode c_M_init 233 = .ok (.putfield 92, 3) := by decide +kernel
theorem d_M_init_236 : decode c_M_init 236 = .ok (.aload_n 0, 1) := by decide +kernel
theorem d_M_init_237 : decode c_M_init 237 = .ok (.bipush 100, 2) := by decide +kernel
theorem d_M_init_239 : decode c_M_init 239 = .ok (.newarray .int, 2) := by decide +kernel
theorem d_M_init_241 : decode c_M_init 241 = .ok (.putfield 95, 3) := by decide +kernel
theorem d_M_init_244 : decode c_M_init 244 = .ok (.aload_n 0, 1) := by decide +kernel
theorem d_M_init_245 : decode c_M_init 245 = .ok (.ldc 98, 2) := by decide +kernel
theorem d_M_init_247 : decode c_M_init 247 = .ok (.newarray .boolean, 2) := by decide +kernel
theorem d_M_init_249 : decode c_M_init 249 = .ok (.putfield 99, 3) := by decide +kernel
theorem d_M_init_252 : decode c_M_init 252 = .ok (.aload_n 0, 1) := by decide +kernel
theorem d_M_init_253 : decode c_M_init 253 = .ok (.sipush 9000, 3) := by decide +kernel
theorem d_M_init_256 : decode c_M_init 256 = .ok (.newarray .int, 2) := by decide +kernel
theorem d_M_init_258 : decode c_M_init 258 = .ok (.putfield 102, 3) := by decide +kernel
theorem d_M_init_261 : decode c_M_init 261 = .ok (.return_, 1) := by decide +kernel
def t_M_init_0 (l : Launch) (s0 : State) (D : va_G) (ca : Nat → ClassId) (e0 d mc ms : Nat) : List (Nat × cr_T) := [(0, cr_aload 0 1),
  (1, cr_oinit d 1 4),
  (4, cr_aload 0 5),
  (5, cr_push (.int 20) 7),
  (7, cr_newa D kc s0.heap.size mc ms (ca 0) 4 9 (fun N => (N, .inl (fun _ => 0)))),
  (9, cr_putf D kc s0.heap.size 11 3 (.array .int) 12),
  (12, cr_aload 0 13),
  (13, cr_push (.int 30) 15),
  (15, cr_newa D kc s0.heap.size mc ms (ca 0) 4 17 (fun N => (N, .inl (fun _ => 0)))),
  (17, cr_putf D kc s0.heap.size 11 5 (.array .int) 20),
  (20, cr_aload 0 21),
  (21, cr_push (.int 30) 23),
  (23, cr_newa D kc s0.heap.size mc ms (ca 0) 4 25 (fun N => (N, .inl (fun _ => 0)))),
  (25, cr_putf D kc s0.heap.size 11 6 (.array .int) 28),
  (28, cr_aload 0 29),
  (29, cr_push (.int 30) 31),
  (31, cr_newa D kc s0.heap.size mc ms (ca 2) 1 33 (fun N => (N, .inl (fun _ => 0)))),
  (33, cr_putf D kc s0.heap.size 11 7 (.array .boolean) 36),
  (36, cr_aload 0 37),
  (37, cr_push (.int 30) 39),
  (39, cr_newa D kc s0.heap.size mc ms (ca 2) 1 41 (fun N => (N, .inl (fun _ => 0)))),
  (41, cr_putf D kc s0.heap.size 11 8 (.array .boolean) 44),
  (44, cr_aload 0 45),
  (45, cr_push (.int 30) 47),
  (47, cr_newa D kc s0.heap.size mc ms (ca 0) 4 49 (fun N => (N, .inl (fun _ => 0)))),
  (49, cr_putf D kc s0.heap.size 11 9 (.array .int) 52),
  (52, cr_aload 0 53),
  (53, cr_push (.int 30) 55),
  (55, cr_newa D kc s0.heap.size mc ms (ca 0) 4 57 (fun N => (N, .inl (fun _ => 0)))),
  (57, cr_putf D kc s0.heap.size 11 10 (.array .int) 60)]
def t_M_init_1 (l : Launch) (s0 : State) (D : va_G) (ca : Nat → ClassId) (e0 d mc ms : Nat) : List (Nat × cr_T) := [(60, cr_aload 0 61),
  (61, cr_push (.int 900) 64),
  (64, cr_newa D kc s0.heap.size mc ms (ca 2) 1 66 (fun N => (N, .inl (fun _ => 0)))),
  (66, cr_putf D kc s0.heap.size 11 11 (.array .boolean) 69),
  (69, cr_aload 0 70),
  (70, cr_push (.int 30) 72),
  (72, cr_newa D kc s0.heap.size mc ms (ca 0) 4 74 (fun N => (N, .inl (fun _ => 0)))),
  (74, cr_putf D kc s0.heap.size 11 12 (.array .int) 77),
  (77, cr_aload 0 78),
  (78, cr_push (.int 1500) 81),
  (81, cr_newa D kc s0.heap.size mc ms (ca 0) 4 83 (fun N => (N, .inl (fun _ => 0)))),
  (83, cr_putf D kc s0.heap.size 11 13 (.array .int) 86),
  (86, cr_aload 0 87),
  (87, cr_push (.int 1500) 90),
  (90, cr_newa D kc s0.heap.size mc ms (ca 0) 4 92 (fun N => (N, .inl (fun _ => 0)))),
  (92, cr_putf D kc s0.heap.size 11 14 (.array .int) 95),
  (95, cr_aload 0 96),
  (96, cr_push (.int 1500) 99),
  (99, cr_newa D kc s0.heap.size mc ms (ca 0) 4 101 (fun N => (N, .inl (fun _ => 0)))),
  (101, cr_putf D kc s0.heap.size 11 15 (.array .int) 104),
  (104, cr_aload 0 105),
  (105, cr_push (.int 40) 107),
  (107, cr_newa D kc s0.heap.size mc ms (ca 0) 4 109 (fun N => (N, .inl (fun _ => 0)))),
  (109, cr_putf D kc s0.heap.size 11 17 (.array .int) 112),
  (112, cr_aload 0 113),
  (113, cr_push (.int 40) 115),
  (115, cr_newa D kc s0.heap.size mc ms (ca 0) 4 117 (fun N => (N, .inl (fun _ => 0)))),
  (117, cr_putf D kc s0.heap.size 11 18 (.array .int) 120),
  (120, cr_aload 0 121),
  (121, cr_push (.int 60) 123)]
def t_M_init_2 (l : Launch) (s0 : State) (D : va_G) (ca : Nat → ClassId) (e0 d mc ms : Nat) : List (Nat × cr_T) := [(123, cr_newa D kc s0.heap.size mc ms (ca 0) 4 125 (fun N => (N, .inl (fun _ => 0)))),
  (125, cr_putf D kc s0.heap.size 11 20 (.array .int) 128),
  (128, cr_aload 0 129),
  (129, cr_push (.int 60) 131),
  (131, cr_newa D kc s0.heap.size mc ms (ca 0) 4 133 (fun N => (N, .inl (fun _ => 0)))),
  (133, cr_putf D kc s0.heap.size 11 21 (.array .int) 136),
  (136, cr_aload 0 137),
  (137, cr_push (.int 16) 139),
  (139, cr_newa D kc s0.heap.size mc ms (ca 0) 4 141 (fun N => (N, .inl (fun _ => 0)))),
  (141, cr_putf D kc s0.heap.size 11 23 (.array .int) 144),
  (144, cr_aload 0 145),
  (145, cr_push (.int 16) 147),
  (147, cr_newa D kc s0.heap.size mc ms (ca 0) 4 149 (fun N => (N, .inl (fun _ => 0)))),
  (149, cr_putf D kc s0.heap.size 11 24 (.array .int) 152),
  (152, cr_aload 0 153),
  (153, cr_push (.int 16) 155),
  (155, cr_newa D kc s0.heap.size mc ms (ca 0) 4 157 (fun N => (N, .inl (fun _ => 0)))),
  (157, cr_putf D kc s0.heap.size 11 25 (.array .int) 160),
  (160, cr_aload 0 161),
  (161, cr_push (.int 16) 163),
  (163, cr_newa D kc s0.heap.size mc ms (ca 0) 4 165 (fun N => (N, .inl (fun _ => 0)))),
  (165, cr_putf D kc s0.heap.size 11 26 (.array .int) 168),
  (168, cr_aload 0 169),
  (169, cr_push (.int 16) 171),
  (171, cr_newa D kc s0.heap.size mc ms (ca 0) 4 173 (fun N => (N, .inl (fun _ => 0)))),
  (173, cr_putf D kc s0.heap.size 11 27 (.array .int) 176),
  (176, cr_aload 0 177),
  (177, cr_push (.int 9000) 180),
  (180, cr_newa D kc s0.heap.size mc ms (ca 0) 4 182 (fun N => (N, .inl (fun _ => 0)))),
  (182, cr_putf D kc s0.heap.size 11 29 (.array .int) 185)]
def t_M_init_3 (l : Launch) (s0 : State) (D : va_G) (ca : Nat → ClassId) (e0 d mc ms : Nat) : List (Nat × cr_T) := [(185, cr_aload 0 186),
  (186, cr_push (.int 9000) 189),
  (189, cr_newa D kc s0.heap.size mc ms (ca 0) 4 191 (fun N => (N, .inl (fun _ => 0)))),
  (191, cr_putf D kc s0.heap.size 11 30 (.array .int) 194),
  (194, cr_aload 0 195),
  (195, cr_push (.int 9000) 198),
  (198, cr_newa D kc s0.heap.size mc ms (ca 0) 4 200 (fun N => (N, .inl (fun _ => 0)))),
  (200, cr_putf D kc s0.heap.size 11 31 (.array .int) 203),
  (203, cr_aload 0 204),
  (204, cr_push (.int 9000) 207),
  (207, cr_newa D kc s0.heap.size mc ms (ca 0) 4 209 (fun N => (N, .inl (fun _ => 0)))),
  (209, cr_putf D kc s0.heap.size 11 33 (.array .int) 212),
  (212, cr_aload 0 213),
  (213, cr_push (.int 100) 215),
  (215, cr_newa D kc s0.heap.size mc ms (ca 0) 4 217 (fun N => (N, .inl (fun _ => 0)))),
  (217, cr_putf D kc s0.heap.size 11 35 (.array .int) 220),
  (220, cr_aload 0 221),
  (221, cr_push (.int 100) 223),
  (223, cr_newa D kc s0.heap.size mc ms (ca 0) 4 225 (fun N => (N, .inl (fun _ => 0)))),
  (225, cr_putf D kc s0.heap.size 11 36 (.array .int) 228),
  (228, cr_aload 0 229),
  (229, cr_push (.int 100) 231),
  (231, cr_newa D kc s0.heap.size mc ms (ca 0) 4 233 (fun N => (N, .inl (fun _ => 0)))),
  (233, cr_putf D kc s0.heap.size 11 37 (.array .int) 236),
  (236, cr_aload 0 237),
  (237, cr_push (.int 100) 239),
  (239, cr_newa D kc s0.heap.size mc ms (ca 0) 4 241 (fun N => (N, .inl (fun _ => 0)))),
  (241, cr_putf D kc s0.heap.size 11 38 (.array .int) 244),
  (244, cr_aload 0 245),
  (245, cr_push (.int 65536) 247)]
def t_M_init_4 (l : Launch) (s0 : State) (D : va_G) (ca : Nat → ClassId) (e0 d mc ms : Nat) : List (Nat × cr_T) := [(247, cr_newa D kc s0.heap.size mc ms (ca 2) 1 249 (fun N => (N, .inl (fun _ => 0)))),
  (249, cr_putf D kc s0.heap.size 11 39 (.array .boolean) 252),
  (252, cr_aload 0 253),
  (253, cr_push (.int 9000) 256),
  (256, cr_newa D kc s0.heap.size mc ms (ca 0) 4 258 (fun N => (N, .inl (fun _ => 0)))),
  (258, cr_putf D kc s0.heap.size 11 40 (.array .int) 261),
  (261, cr_vret mc ms)]
def t_M_init (l : Launch) (s0 : State) (D : va_G) (ca : Nat → ClassId) (e0 d mc ms : Nat) : List (Nat × cr_T) := t_M_init_0 l s0 D ca e0 d mc ms ++ (t_M_init_1 l s0 D ca e0 d mc ms ++ (t_M_init_2 l s0 D ca e0 d mc ms ++ (t_M_init_3 l s0 D ca e0 d mc ms ++ (t_M_init_4 l s0 D ca e0 d mc ms))))
set_option maxHeartbeats 4000000 in
set_option maxRecDepth 20000 in
theorem s_M_init_0 {p : Program} {l : Launch} {e : Env} {R : Room} {s : State} {m : MethodId} {args : Array Value} {below : List Frame} {meth : Method} {c : Code} {s0 : State} {D : va_G} {ca : Nat → ClassId} {e0 d mc ms : Nat} {Q : cr_Q} (hl : l.flags = flags0) (Z : cr_Z0 s0 D ca e0) (C : cr_C p R s m meth c (cr_W0 s0) s0.heap.size y_M_init c_M_init 1 (Option.none : Option FieldType) d mc ms) (hem : c.exceptionTable.toList = []) : ∀ x ∈ t_M_init_0 l s0 D ca e0 d mc ms, cr_Snd p l e R s m args below meth c s0.heap.size mc ms Q x.1 x.2 := by
  obtain ⟨hx, hb, hml, hown, hr, hlk, hnm, hU, hlo, hR⟩ := C
  have hK := cr_Z0K Z hU
  have hRc : R.cells = mc := by rw [hR]; rfl
  have hRs : R.slots = ms := by rw [hR]; rfl
  unfold t_M_init_0
  refine cr_cons (cr_aload_n_ok hx hb d_M_init_0 rfl rfl) ?_
  refine cr_cons (cr_oinit_ok hx hb hml hown hR (cr_w Z w_816 rfl hU args) (cr_w Z w_33 rfl hU args) (cr_w Z w_34 rfl hU args) d_M_init_1 rfl) ?_
  refine cr_cons (cr_aload_n_ok hx hb d_M_init_4 rfl rfl) ?_
  refine cr_cons (cr_bipush_ok hx hb d_M_init_5 (by decide) rfl) ?_
  refine cr_cons (cr_newa_ok (t0 := 0) (atype := .int) (ty := .int) hx hb (cr_wa (ty := .int) Z w_87 hU args) rfl rfl rfl (fun _ => rfl) (hK.2 0 _ rfl).2 hlo hRc hRs d_M_init_7 rfl) ?_
  refine cr_cons (cr_putF_ok (C := R_M) (T := T_M) (N := 41) tt_M hx hb (k_M Z hU args) (fun _ h => h) ty_M nm_M hown hK rfl (by decide) (cr_w Z w_821 rfl hU args) (fun _ h => h) rfl hnm rfl (by decide +kernel) d_M_init_9 rfl) ?_
  refine cr_cons (cr_aload_n_ok hx hb d_M_init_12 rfl rfl) ?_
  refine cr_cons (cr_bipush_ok hx hb d_M_init_13 (by decide) rfl) ?_
  refine cr_cons (cr_newa_ok (t0 := 0) (atype := .int) (ty := .int) hx hb (cr_wa (ty := .int) Z w_87 hU args) rfl rfl rfl (fun _ => rfl) (hK.2 0 _ rfl).2 hlo hRc hRs d_M_init_15 rfl) ?_
  refine cr_cons (cr_putF_ok (C := R_M) (T := T_M) (N := 41) tt_M hx hb (k_M Z hU args) (fun _ h => h) ty_M nm_M hown hK rfl (by decide) (cr_w Z w_823 rfl hU args) (fun _ h => h) rfl hnm rfl (by decide +kernel) d_M_init_17 rfl) ?_
  refine cr_cons (cr_aload_n_ok hx hb d_M_init_20 rfl rfl) ?_
  refine cr_cons (cr_bipush_ok hx hb d_M_init_21 (by decide) rfl) ?_
  refine cr_cons (cr_newa_ok (t0 := 0) (atype := .int) (ty := .int) hx hb (cr_wa (ty := .int) Z w_87 hU args) rfl rfl rfl (fun _ => rfl) (hK.2 0 _ rfl).2 hlo hRc hRs d_M_init_23 rfl) ?_
  refine cr_cons (cr_putF_ok (C := R_M) (T := T_M) (N := 41) tt_M hx hb (k_M Z hU args) (fun _ h => h) ty_M nm_M hown hK rfl (by decide) (cr_w Z w_824 rfl hU args) (fun _ h => h) rfl hnm rfl (by decide +kernel) d_M_init_25 rfl) ?_
  refine cr_cons (cr_aload_n_ok hx hb d_M_init_28 rfl rfl) ?_
  refine cr_cons (cr_bipush_ok hx hb d_M_init_29 (by decide) rfl) ?_
  refine cr_cons (cr_newa_ok (t0 := 0) (atype := .boolean) (ty := .boolean) hx hb (cr_wa (ty := .boolean) Z w_942 hU args) rfl rfl rfl (fun _ => rfl) (hK.2 2 _ rfl).2 hlo hRc hRs d_M_init_31 rfl) ?_
  refine cr_cons (cr_putF_ok (C := R_M) (T := T_M) (N := 41) tt_M hx hb (k_M Z hU args) (fun _ h => h) ty_M nm_M hown hK rfl (by decide) (cr_w Z w_825 rfl hU args) (fun _ h => h) rfl hnm rfl (by decide +kernel) d_M_init_33 rfl) ?_
  refine cr_cons (cr_aload_n_ok hx hb d_M_init_36 rfl rfl) ?_
  refine cr_cons (cr_bipush_ok hx hb d_M_init_37 (by decide) rfl) ?_
  refine cr_cons (cr_newa_ok (t0 := 0) (atype := .boolean) (ty := .boolean) hx hb (cr_wa (ty := .boolean) Z w_942 hU args) rfl rfl rfl (fun _ => rfl) (hK.2 2 _ rfl).2 hlo hRc hRs d_M_init_39 rfl) ?_
  refine cr_cons (cr_putF_ok (C := R_M) (T := T_M) (N := 41) tt_M hx hb (k_M Z hU args) (fun _ h => h) ty_M nm_M hown hK rfl (by decide) (cr_w Z w_826 rfl hU args) (fun _ h => h) rfl hnm rfl (by decide +kernel) d_M_init_41 rfl) ?_
  refine cr_cons (cr_aload_n_ok hx hb d_M_init_44 rfl rfl) ?_
  refine cr_cons (cr_bipush_ok hx hb d_M_init_45 (by decide) rfl) ?_
  refine cr_cons (cr_newa_ok (t0 := 0) (atype := .int) (ty := .int) hx hb (cr_wa (ty := .int) Z w_87 hU args) rfl rfl rfl (fun _ => rfl) (hK.2 0 _ rfl).2 hlo hRc hRs d_M_init_47 rfl) ?_
  refine cr_cons (cr_putF_ok (C := R_M) (T := T_M) (N := 41) tt_M hx hb (k_M Z hU args) (fun _ h => h) ty_M nm_M hown hK rfl (by decide) (cr_w Z w_827 rfl hU args) (fun _ h => h) rfl hnm rfl (by decide +kernel) d_M_init_49 rfl) ?_
  refine cr_cons (cr_aload_n_ok hx hb d_M_init_52 rfl rfl) ?_
  refine cr_cons (cr_bipush_ok hx hb d_M_init_53 (by decide) rfl) ?_
  refine cr_cons (cr_newa_ok (t0 := 0) (atype := .int) (ty := .int) hx hb (cr_wa (ty := .int) Z w_87 hU args) rfl rfl rfl (fun _ => rfl) (hK.2 0 _ rfl).2 hlo hRc hRs d_M_init_55 rfl) ?_
  refine cr_cons (cr_putF_ok (C := R_M) (T := T_M) (N := 41) tt_M hx hb (k_M Z hU args) (fun _ h => h) ty_M nm_M hown hK rfl (by decide) (cr_w Z w_828 rfl hU args) (fun _ h => h) rfl hnm rfl (by decide +kernel) d_M_init_57 rfl) ?_
  exact cr_nil
set_option maxHeartbeats 4000000 in
set_option maxRecDepth 20000 in
theorem s_M_init_1 {p : Program} {l : Launch} {e : Env} {R : Room} {s : State} {m : MethodId} {args : Array Value} {below : List Frame} {meth : Method} {c : Code} {s0 : State} {D : va_G} {ca : Nat → ClassId} {e0 d mc ms : Nat} {Q : cr_Q} (hl : l.flags = flags0) (Z : cr_Z0 s0 D ca e0) (C : cr_C p R s m meth c (cr_W0 s0) s0.heap.size y_M_init c_M_init 1 (Option.none : Option FieldType) d mc ms) (hem : c.exceptionTable.toList = []) : ∀ x ∈ t_M_init_1 l s0 D ca e0 d mc ms, cr_Snd p l e R s m args below meth c s0.heap.size mc ms Q x.1 x.2 := by
  obtain ⟨hx, hb, hml, hown, hr, hlk, hnm, hU, hlo, hR⟩ := C
  have hK := cr_Z0K Z hU
  have hRc : R.cells = mc := by rw [hR]; rfl
  have hRs : R.slots = ms := by rw [hR]; rfl
  unfold t_M_init_1
  refine cr_cons (cr_aload_n_ok hx hb d_M_init_60 rfl rfl) ?_
  refine cr_cons (cr_sipush_ok hx hb d_M_init_61 (by decide) rfl) ?_
  refine cr_cons (cr_newa_ok (t0 := 0) (atype := .boolean) (ty := .boolean) hx hb (cr_wa (ty := .boolean) Z w_942 hU args) rfl rfl rfl (fun _ => rfl) (hK.2 2 _ rfl).2 hlo hRc hRs d_M_init_64 rfl) ?_
  refine cr_cons (cr_putF_ok (C := R_M) (T := T_M) (N := 41) tt_M hx hb (k_M Z hU args) (fun _ h => h) ty_M nm_M hown hK rfl (by decide) (cr_w Z w_829 rfl hU args) (fun _ h => h) rfl hnm rfl (by decide +kernel) d_M_init_66 rfl) ?_
  refine cr_cons (cr_aload_n_ok hx hb d_M_init_69 rfl rfl) ?_
  refine cr_cons (cr_bipush_ok hx hb d_M_init_70 (by decide) rfl) ?_
  refine cr_cons (cr_newa_ok (t0 := 0) (atype := .int) (ty := .int) hx hb (cr_wa (ty := .int) Z w_87 hU args) rfl rfl rfl (fun _ => rfl) (hK.2 0 _ rfl).2 hlo hRc hRs d_M_init_72 rfl) ?_
  refine cr_cons (cr_putF_ok (C := R_M) (T := T_M) (N := 41) tt_M hx hb (k_M Z hU args) (fun _ h => h) ty_M nm_M hown hK rfl (by decide) (cr_w Z w_830 rfl hU args) (fun _ h => h) rfl hnm rfl (by decide +kernel) d_M_init_74 rfl) ?_
  refine cr_cons (cr_aload_n_ok hx hb d_M_init_77 rfl rfl) ?_
  refine cr_cons (cr_sipush_ok hx hb d_M_init_78 (by decide) rfl) ?_
  refine cr_cons (cr_newa_ok (t0 := 0) (atype := .int) (ty := .int) hx hb (cr_wa (ty := .int) Z w_87 hU args) rfl rfl rfl (fun _ => rfl) (hK.2 0 _ rfl).2 hlo hRc hRs d_M_init_81 rfl) ?_
  refine cr_cons (cr_putF_ok (C := R_M) (T := T_M) (N := 41) tt_M hx hb (k_M Z hU args) (fun _ h => h) ty_M nm_M hown hK rfl (by decide) (cr_w Z w_831 rfl hU args) (fun _ h => h) rfl hnm rfl (by decide +kernel) d_M_init_83 rfl) ?_
  refine cr_cons (cr_aload_n_ok hx hb d_M_init_86 rfl rfl) ?_
  refine cr_cons (cr_sipush_ok hx hb d_M_init_87 (by decide) rfl) ?_
  refine cr_cons (cr_newa_ok (t0 := 0) (atype := .int) (ty := .int) hx hb (cr_wa (ty := .int) Z w_87 hU args) rfl rfl rfl (fun _ => rfl) (hK.2 0 _ rfl).2 hlo hRc hRs d_M_init_90 rfl) ?_
  refine cr_cons (cr_putF_ok (C := R_M) (T := T_M) (N := 41) tt_M hx hb (k_M Z hU args) (fun _ h => h) ty_M nm_M hown hK rfl (by decide) (cr_w Z w_832 rfl hU args) (fun _ h => h) rfl hnm rfl (by decide +kernel) d_M_init_92 rfl) ?_
  refine cr_cons (cr_aload_n_ok hx hb d_M_init_95 rfl rfl) ?_
  refine cr_cons (cr_sipush_ok hx hb d_M_init_96 (by decide) rfl) ?_
  refine cr_cons (cr_newa_ok (t0 := 0) (atype := .int) (ty := .int) hx hb (cr_wa (ty := .int) Z w_87 hU args) rfl rfl rfl (fun _ => rfl) (hK.2 0 _ rfl).2 hlo hRc hRs d_M_init_99 rfl) ?_
  refine cr_cons (cr_putF_ok (C := R_M) (T := T_M) (N := 41) tt_M hx hb (k_M Z hU args) (fun _ h => h) ty_M nm_M hown hK rfl (by decide) (cr_w Z w_833 rfl hU args) (fun _ h => h) rfl hnm rfl (by decide +kernel) d_M_init_101 rfl) ?_
  refine cr_cons (cr_aload_n_ok hx hb d_M_init_104 rfl rfl) ?_
  refine cr_cons (cr_bipush_ok hx hb d_M_init_105 (by decide) rfl) ?_
  refine cr_cons (cr_newa_ok (t0 := 0) (atype := .int) (ty := .int) hx hb (cr_wa (ty := .int) Z w_87 hU args) rfl rfl rfl (fun _ => rfl) (hK.2 0 _ rfl).2 hlo hRc hRs d_M_init_107 rfl) ?_
  refine cr_cons (cr_putF_ok (C := R_M) (T := T_M) (N := 41) tt_M hx hb (k_M Z hU args) (fun _ h => h) ty_M nm_M hown hK rfl (by decide) (cr_w Z w_835 rfl hU args) (fun _ h => h) rfl hnm rfl (by decide +kernel) d_M_init_109 rfl) ?_
  refine cr_cons (cr_aload_n_ok hx hb d_M_init_112 rfl rfl) ?_
  refine cr_cons (cr_bipush_ok hx hb d_M_init_113 (by decide) rfl) ?_
  refine cr_cons (cr_newa_ok (t0 := 0) (atype := .int) (ty := .int) hx hb (cr_wa (ty := .int) Z w_87 hU args) rfl rfl rfl (fun _ => rfl) (hK.2 0 _ rfl).2 hlo hRc hRs d_M_init_115 rfl) ?_
  refine cr_cons (cr_putF_ok (C := R_M) (T := T_M) (N := 41) tt_M hx hb (k_M Z hU args) (fun _ h => h) ty_M nm_M hown hK rfl (by decide) (cr_w Z w_836 rfl hU args) (fun _ h => h) rfl hnm rfl (by decide +kernel) d_M_init_117 rfl) ?_
  refine cr_cons (cr_aload_n_ok hx hb d_M_init_120 rfl rfl) ?_
  refine cr_cons (cr_bipush_ok hx hb d_M_init_121 (by decide) rfl) ?_
  exact cr_nil
set_option maxHeartbeats 4000000 in
set_option maxRecDepth 20000 in
theorem s_M_init_2 {p : Program} {l : Launch} {e : Env} {R : Room} {s : State} {m : MethodId} {args : Array Value} {below : List Frame} {meth : Method} {c : Code} {s0 : State} {D : va_G} {ca : Nat → ClassId} {e0 d mc ms : Nat} {Q : cr_Q} (hl : l.flags = flags0) (Z : cr_Z0 s0 D ca e0) (C : cr_C p R s m meth c (cr_W0 s0) s0.heap.size y_M_init c_M_init 1 (Option.none : Option FieldType) d mc ms) (hem : c.exceptionTable.toList = []) : ∀ x ∈ t_M_init_2 l s0 D ca e0 d mc ms, cr_Snd p l e R s m args below meth c s0.heap.size mc ms Q x.1 x.2 := by
  obtain ⟨hx, hb, hml, hown, hr, hlk, hnm, hU, hlo, hR⟩ := C
  have hK := cr_Z0K Z hU
  have hRc : R.cells = mc := by rw [hR]; rfl
  have hRs : R.slots = ms := by rw [hR]; rfl
  unfold t_M_init_2
  refine cr_cons (cr_newa_ok (t0 := 0) (atype := .int) (ty := .int) hx hb (cr_wa (ty := .int) Z w_87 hU args) rfl rfl rfl (fun _ => rfl) (hK.2 0 _ rfl).2 hlo hRc hRs d_M_init_123 rfl) ?_
  refine cr_cons (cr_putF_ok (C := R_M) (T := T_M) (N := 41) tt_M hx hb (k_M Z hU args) (fun _ h => h) ty_M nm_M hown hK rfl (by decide) (cr_w Z w_838 rfl hU args) (fun _ h => h) rfl hnm rfl (by decide +kernel) d_M_init_125 rfl) ?_
  refine cr_cons (cr_aload_n_ok hx hb d_M_init_128 rfl rfl) ?_
  refine cr_cons (cr_bipush_ok hx hb d_M_init_129 (by decide) rfl) ?_
  refine cr_cons (cr_newa_ok (t0 := 0) (atype := .int) (ty := .int) hx hb (cr_wa (ty := .int) Z w_87 hU args) rfl rfl rfl (fun _ => rfl) (hK.2 0 _ rfl).2 hlo hRc hRs d_M_init_131 rfl) ?_
  refine cr_cons (cr_putF_ok (C := R_M) (T := T_M) (N := 41) tt_M hx hb (k_M Z hU args) (fun _ h => h) ty_M nm_M hown hK rfl (by decide) (cr_w Z w_839 rfl hU args) (fun _ h => h) rfl hnm rfl (by decide +kernel) d_M_init_133 rfl) ?_
  refine cr_cons (cr_aload_n_ok hx hb d_M_init_136 rfl rfl) ?_
  refine cr_cons (cr_bipush_ok hx hb d_M_init_137 (by decide) rfl) ?_
  refine cr_cons (cr_newa_ok (t0 := 0) (atype := .int) (ty := .int) hx hb (cr_wa (ty := .int) Z w_87 hU args) rfl rfl rfl (fun _ => rfl) (hK.2 0 _ rfl).2 hlo hRc hRs d_M_init_139 rfl) ?_
  refine cr_cons (cr_putF_ok (C := R_M) (T := T_M) (N := 41) tt_M hx hb (k_M Z hU args) (fun _ h => h) ty_M nm_M hown hK rfl (by decide) (cr_w Z w_841 rfl hU args) (fun _ h => h) rfl hnm rfl (by decide +kernel) d_M_init_141 rfl) ?_
  refine cr_cons (cr_aload_n_ok hx hb d_M_init_144 rfl rfl) ?_
  refine cr_cons (cr_bipush_ok hx hb d_M_init_145 (by decide) rfl) ?_
  refine cr_cons (cr_newa_ok (t0 := 0) (atype := .int) (ty := .int) hx hb (cr_wa (ty := .int) Z w_87 hU args) rfl rfl rfl (fun _ => rfl) (hK.2 0 _ rfl).2 hlo hRc hRs d_M_init_147 rfl) ?_
  refine cr_cons (cr_putF_ok (C := R_M) (T := T_M) (N := 41) tt_M hx hb (k_M Z hU args) (fun _ h => h) ty_M nm_M hown hK rfl (by decide) (cr_w Z w_842 rfl hU args) (fun _ h => h) rfl hnm rfl (by decide +kernel) d_M_init_149 rfl) ?_
  refine cr_cons (cr_aload_n_ok hx hb d_M_init_152 rfl rfl) ?_
  refine cr_cons (cr_bipush_ok hx hb d_M_init_153 (by decide) rfl) ?_
  refine cr_cons (cr_newa_ok (t0 := 0) (atype := .int) (ty := .int) hx hb (cr_wa (ty := .int) Z w_87 hU args) rfl rfl rfl (fun _ => rfl) (hK.2 0 _ rfl).2 hlo hRc hRs d_M_init_155 rfl) ?_
  refine cr_cons (cr_putF_ok (C := R_M) (T := T_M) (N := 41) tt_M hx hb (k_M Z hU args) (fun _ h => h) ty_M nm_M hown hK rfl (by decide) (cr_w Z w_843 rfl hU args) (fun _ h => h) rfl hnm rfl (by decide +kernel) d_M_init_157 rfl) ?_
  refine cr_cons (cr_aload_n_ok hx hb d_M_init_160 rfl rfl) ?_
  refine cr_cons (cr_bipush_ok hx hb d_M_init_161 (by decide) rfl) ?_
  refine cr_cons (cr_newa_ok (t0 := 0) (atype := .int) (ty := .int) hx hb (cr_wa (ty := .int) Z w_87 hU args) rfl rfl rfl (fun _ => rfl) (hK.2 0 _ rfl).2 hlo hRc hRs d_M_init_163 rfl) ?_
  refine cr_cons (cr_putF_ok (C := R_M) (T := T_M) (N := 41) tt_M hx hb (k_M Z hU args) (fun _ h => h) ty_M nm_M hown hK rfl (by decide) (cr_w Z w_844 rfl hU args) (fun _ h => h) rfl hnm rfl (by decide +kernel) d_M_init_165 rfl) ?_
  refine cr_cons (cr_aload_n_ok hx hb d_M_init_168 rfl rfl) ?_
  refine cr_cons (cr_bipush_ok hx hb d_M_init_169 (by decide) rfl) ?_
  refine cr_cons (cr_newa_ok (t0 := 0) (atype := .int) (ty := .int) hx hb (cr_wa (ty := .int) Z w_87 hU args) rfl rfl rfl (fun _ => rfl) (hK.2 0 _ rfl).2 hlo hRc hRs d_M_init_171 rfl) ?_
  refine cr_cons (cr_putF_ok (C := R_M) (T := T_M) (N := 41) tt_M hx hb (k_M Z hU args) (fun _ h => h) ty_M nm_M hown hK rfl (by decide) (cr_w Z w_845 rfl hU args) (fun _ h => h) rfl hnm rfl (by decide +kernel) d_M_init_173 rfl) ?_
  refine cr_cons (cr_aload_n_ok hx hb d_M_init_176 rfl rfl) ?_
  refine cr_cons (cr_sipush_ok hx hb d_M_init_177 (by decide) rfl) ?_
  refine cr_cons (cr_newa_ok (t0 := 0) (atype := .int) (ty := .int) hx hb (cr_wa (ty := .int) Z w_87 hU args) rfl rfl rfl (fun _ => rfl) (hK.2 0 _ rfl).2 hlo hRc hRs d_M_init_180 rfl) ?_
  refine cr_cons (cr_putF_ok (C := R_M) (T := T_M) (N := 41) tt_M hx hb (k_M Z hU args) (fun _ h => h) ty_M nm_M hown hK rfl (by decide) (cr_w Z w_847 rfl hU args) (fun _ h => h) rfl hnm rfl (by decide +kernel) d_M_init_182 rfl) ?_
  exact cr_nil
set_option maxHeartbeats 4000000 in
set_option maxRecDepth 20000 in
theorem s_M_init_3 {p : Program} {l : Launch} {e : Env} {R : Room} {s : State} {m : MethodId} {args : Array Value} {below : List Frame} {meth : Method} {c : Code} {s0 : State} {D : va_G} {ca : Nat → ClassId} {e0 d mc ms : Nat} {Q : cr_Q} (hl : l.flags = flags0) (Z : cr_Z0 s0 D ca e0) (C : cr_C p R s m meth c (cr_W0 s0) s0.heap.size y_M_init c_M_init 1 (Option.none : Option FieldType) d mc ms) (hem : c.exceptionTable.toList = []) : ∀ x ∈ t_M_init_3 l s0 D ca e0 d mc ms, cr_Snd p l e R s m args below meth c s0.heap.size mc ms Q x.1 x.2 := by
  obtain ⟨hx, hb, hml, hown, hr, hlk, hnm, hU, hlo, hR⟩ := C
  have hK := cr_Z0K Z hU
  have hRc : R.cells = mc := by rw [hR]; rfl
  have hRs : R.slots = ms := by rw [hR]; rfl
  unfold t_M_init_3
  refine cr_cons (cr_aload_n_ok hx hb d_M_init_185 rfl rfl) ?_
  refine cr_cons (cr_sipush_ok hx hb d_M_init_186 (by decide) rfl) ?_
  refine cr_cons (cr_newa_ok (t0 := 0) (atype := .int) (ty := .int) hx hb (cr_wa (ty := .int) Z w_87 hU args) rfl rfl rfl (fun _ => rfl) (hK.2 0 _ rfl).2 hlo hRc hRs d_M_init_189 rfl) ?_
  refine cr_cons (cr_putF_ok (C := R_M) (T := T_M) (N := 41) tt_M hx hb (k_M Z hU args) (fun _ h => h) ty_M nm_M hown hK rfl (by decide) (cr_w Z w_848 rfl hU args) (fun _ h => h) rfl hnm rfl (by decide +kernel) d_M_init_191 rfl) ?_
  refine cr_cons (cr_aload_n_ok hx hb d_M_init_194 rfl rfl) ?_
  refine cr_cons (cr_sipush_ok hx hb d_M_init_195 (by decide) rfl) ?_
  refine cr_cons (cr_newa_ok (t0 := 0) (atype := .int) (ty := .int) hx hb (cr_wa (ty := .int) Z w_87 hU args) rfl rfl rfl (fun _ => rfl) (hK.2 0 _ rfl).2 hlo hRc hRs d_M_init_198 rfl) ?_
  refine cr_cons (cr_putF_ok (C := R_M) (T := T_M) (N := 41) tt_M hx hb (k_M Z hU args) (fun _ h => h) ty_M nm_M hown hK rfl (by decide) (cr_w Z w_849 rfl hU args) (fun _ h => h) rfl hnm rfl (by decide +kernel) d_M_init_200 rfl) ?_
  refine cr_cons (cr_aload_n_ok hx hb d_M_init_203 rfl rfl) ?_
  refine cr_cons (cr_sipush_ok hx hb d_M_init_204 (by decide) rfl) ?_
  refine cr_cons (cr_newa_ok (t0 := 0) (atype := .int) (ty := .int) hx hb (cr_wa (ty := .int) Z w_87 hU args) rfl rfl rfl (fun _ => rfl) (hK.2 0 _ rfl).2 hlo hRc hRs d_M_init_207 rfl) ?_
  refine cr_cons (cr_putF_ok (C := R_M) (T := T_M) (N := 41) tt_M hx hb (k_M Z hU args) (fun _ h => h) ty_M nm_M hown hK rfl (by decide) (cr_w Z w_851 rfl hU args) (fun _ h => h) rfl hnm rfl (by decide +kernel) d_M_init_209 rfl) ?_
  refine cr_cons (cr_aload_n_ok hx hb d_M_init_212 rfl rfl) ?_
  refine cr_cons (cr_bipush_ok hx hb d_M_init_213 (by decide) rfl) ?_
  refine cr_cons (cr_newa_ok (t0 := 0) (atype := .int) (ty := .int) hx hb (cr_wa (ty := .int) Z w_87 hU args) rfl rfl rfl (fun _ => rfl) (hK.2 0 _ rfl).2 hlo hRc hRs d_M_init_215 rfl) ?_
  refine cr_cons (cr_putF_ok (C := R_M) (T := T_M) (N := 41) tt_M hx hb (k_M Z hU args) (fun _ h => h) ty_M nm_M hown hK rfl (by decide) (cr_w Z w_853 rfl hU args) (fun _ h => h) rfl hnm rfl (by decide +kernel) d_M_init_217 rfl) ?_
  refine cr_cons (cr_aload_n_ok hx hb d_M_init_220 rfl rfl) ?_
  refine cr_cons (cr_bipush_ok hx hb d_M_init_221 (by decide) rfl) ?_
  refine cr_cons (cr_newa_ok (t0 := 0) (atype := .int) (ty := .int) hx hb (cr_wa (ty := .int) Z w_87 hU args) rfl rfl rfl (fun _ => rfl) (hK.2 0 _ rfl).2 hlo hRc hRs d_M_init_223 rfl) ?_
  refine cr_cons (cr_putF_ok (C := R_M) (T := T_M) (N := 41) tt_M hx hb (k_M Z hU args) (fun _ h => h) ty_M nm_M hown hK rfl (by decide) (cr_w Z w_854 rfl hU args) (fun _ h => h) rfl hnm rfl (by decide +kernel) d_M_init_225 rfl) ?_
  refine cr_cons (cr_aload_n_ok hx hb d_M_init_228 rfl rfl) ?_
  refine cr_cons (cr_bipush_ok hx hb d_M_init_229 (by decide) rfl) ?_
  refine cr_cons (cr_newa_ok (t0 := 0) (atype := .int) (ty := .int) hx hb (cr_wa (ty := .int) Z w_87 hU args) rfl rfl rfl (fun _ => rfl) (hK.2 0 _ rfl).2 hlo hRc hRs d_M_init_231 rfl) ?_
  refine cr_cons (cr_putF_ok (C := R_M) (T := T_M) (N := 41) tt_M hx hb (k_M Z hU args) (fun _ h => h) ty_M nm_M hown hK rfl (by decide) (cr_w Z w_855 rfl hU args) (fun _ h => h) rfl hnm rfl (by decide +kernel) d_M_init_233 rfl) ?_
  refine cr_cons (cr_aload_n_ok hx hb d_M_init_236 rfl rfl) ?_
  refine cr_cons (cr_bipush_ok hx hb d_M_init_237 (by decide) rfl) ?_
  refine cr_cons (cr_newa_ok (t0 := 0) (atype := .int) (ty := .int) hx hb (cr_wa (ty := .int) Z w_87 hU args) rfl rfl rfl (fun _ => rfl) (hK.2 0 _ rfl).2 hlo hRc hRs d_M_init_239 rfl) ?_
  refine cr_cons (cr_putF_ok (C := R_M) (T := T_M) (N := 41) tt_M hx hb (k_M Z hU args) (fun _ h => h) ty_M nm_M hown hK rfl (by decide) (cr_w Z w_856 rfl hU args) (fun _ h => h) rfl hnm rfl (by decide +kernel) d_M_init_241 rfl) ?_
  refine cr_cons (cr_aload_n_ok hx hb d_M_init_244 rfl rfl) ?_
  refine cr_cons (cr_ldc_ok hx hb hown (cr_w Z w_817 rfl hU args) d_M_init_245 rfl) ?_
  exact cr_nil
set_option maxHeartbeats 4000000 in
set_option maxRecDepth 20000 in
theorem s_M_init_4 {p : Program} {l : Launch} {e : Env} {R : Room} {s : State} {m : MethodId} {args : Array Value} {below : List Frame} {meth : Method} {c : Code} {s0 : State} {D : va_G} {ca : Nat → ClassId} {e0 d mc ms : Nat} {Q : cr_Q} (hl : l.flags = flags0) (Z : cr_Z0 s0 D ca e0) (C : cr_C p R s m meth c (cr_W0 s0) s0.heap.size y_M_init c_M_init 1 (Option.none : Option FieldType) d mc ms) (hem : c.exceptionTable.toList = []) : ∀ x ∈ t_M_init_4 l s0 D ca e0 d mc ms, cr_Snd p l e R s m args below meth c s0.heap.size mc ms Q x.1 x.2 := by
  obtain ⟨hx, hb, hml, hown, hr, hlk, hnm, hU, hlo, hR⟩ := C
  have hK := cr_Z0K Z hU
  have hRc : R.cells = mc := by rw [hR]; rfl
  have hRs : R.slots = ms := by rw [hR]; rfl
  unfold t_M_init_4
  refine cr_cons (cr_newa_ok (t0 := 0) (atype := .boolean) (ty := .boolean) hx hb (cr_wa (ty := .boolean) Z w_942 hU args) rfl rfl rfl (fun _ => rfl) (hK.2 2 _ rfl).2 hlo hRc hRs d_M_init_247 rfl) ?_
  refine cr_cons (cr_putF_ok (C := R_M) (T := T_M) (N := 41) tt_M hx hb (k_M Z hU args) (fun _ h => h) ty_M nm_M hown hK rfl (by decide) (cr_w Z w_857 rfl hU args) (fun _ h => h) rfl hnm rfl (by decide +kernel) d_M_init_249 rfl) ?_
  refine cr_cons (cr_aload_n_ok hx hb d_M_init_252 rfl rfl) ?_
  refine cr_cons (cr_sipush_ok hx hb d_M_init_253 (by decide) rfl) ?_
  refine cr_cons (cr_newa_ok (t0 := 0) (atype := .int) (ty := .int) hx hb (cr_wa (ty := .int) Z w_87 hU args) rfl rfl rfl (fun _ => rfl) (hK.2 0 _ rfl).2 hlo hRc hRs d_M_init_256 rfl) ?_
  refine cr_cons (cr_putF_ok (C := R_M) (T := T_M) (N := 41) tt_M hx hb (k_M Z hU args) (fun _ h => h) ty_M nm_M hown hK rfl (by decide) (cr_w Z w_858 rfl hU args) (fun _ h => h) rfl hnm rfl (by decide +kernel) d_M_init_258 rfl) ?_
  refine cr_cons (cr_vret_ok hx hb hr hlk d_M_init_261) ?_
  exact cr_nil
theorem s_M_init {p : Program} {l : Launch} {e : Env} {R : Room} {s : State} {m : MethodId} {args : Array Value} {below : List Frame} {meth : Method} {c : Code} {s0 : State} {D : va_G} {ca : Nat → ClassId} {e0 d mc ms : Nat} {Q : cr_Q} (hl : l.flags = flags0) (Z : cr_Z0 s0 D ca e0) (C : cr_C p R s m meth c (cr_W0 s0) s0.heap.size y_M_init c_M_init 1 (Option.none : Option FieldType) d mc ms) (hem : c.exceptionTable.toList = []) : ∀ x ∈ t_M_init l s0 D ca e0 d mc ms, cr_Snd p l e R s m args below meth c s0.heap.size mc ms Q x.1 x.2 := cr_app (s_M_init_0 hl Z C hem) (cr_app (s_M_init_1 hl Z C hem) (cr_app (s_M_init_2 hl Z C hem) (cr_app (s_M_init_3 hl Z C hem) (s_M_init_4 hl Z C hem))))
theorem d_M_thrown_0 : decode c_M_thrown 0 = .ok (.aload_n 0, 1) := by decide +kernel
theorem d_M_thrown_1 : decode c_M_thrown 1 = .ok (.getfield 105, 3) := by decide +kernel
theorem d_M_thrown_4 : decode c_M_thrown 4 = .ok (.ireturn, 1) := by decide +kernel
def t_M_thrown_0 (l : Launch) (s0 : State) (D : va_G) (ca : Nat → ClassId) (e0 d mc ms : Nat) : List (Nat × cr_T) := [(0, cr_aload 0 1),
  (1, cr_getf D kc 11 0 4),
  (4, cr_iret mc ms)]
def t_M_thrown (l : Launch) (s0 : State) (D : va_G) (ca : Nat → ClassId) (e0 d mc ms : Nat) : List (Nat × cr_T) := t_M_thrown_0 l s0 D ca e0 d mc ms
set_option maxHeartbeats 4000000 in
set_option maxRecDepth 20000 in
theorem s_M_thrown_0 {p : Program} {l : Launch} {e : Env} {R : Room} {s : State} {m : MethodId} {args : Array Value} {below : List Frame} {meth : Method} {c : Code} {s0 : State} {D : va_G} {ca : Nat → ClassId} {e0 d mc ms : Nat} {Q : cr_Q} (hl : l.flags = flags0) (Z : cr_Z0 s0 D ca e0) (C : cr_C p R s m meth c (cr_W0 s0) s0.heap.size y_M_thrown c_M_thrown 1 (Option.some FieldType.int) d mc ms) (hem : c.exceptionTable.toList = []) : ∀ x ∈ t_M_thrown_0 l s0 D ca e0 d mc ms, cr_Snd p l e R s m args below meth c s0.heap.size mc ms Q x.1 x.2 := by
  obtain ⟨hx, hb, hml, hown, hr, hlk, hnm, hU, hlo, hR⟩ := C
  have hK := cr_Z0K Z hU
  have hRc : R.cells = mc := by rw [hR]; rfl
  have hRs : R.slots = ms := by rw [hR]; rfl
  unfold t_M_thrown_0
  refine cr_cons (cr_aload_n_ok hx hb d_M_thrown_0 rfl rfl) ?_
  refine cr_cons (cr_getf_ok (C := R_M) (T := T_M) (N := 41) hx hb (k_M Z hU args) (fun _ h => h) hown hK rfl (by decide) (cr_w Z w_818 rfl hU args) (fun _ h => h) d_M_thrown_1 rfl) ?_
  refine cr_cons (cr_iret_ok hx hb hr hlk d_M_thrown_4) ?_
  exact cr_nil
theorem s_M_thrown {p : Program} {l : Launch} {e : Env} {R : Room} {s : State} {m : MethodId} {args : Array Value} {below : List Frame} {meth : Method} {c : Code} {s0 : State} {D : va_G} {ca : Nat → ClassId} {e0 d mc ms : Nat} {Q : cr_Q} (hl : l.flags = flags0) (Z : cr_Z0 s0 D ca e0) (C : cr_C p R s m meth c (cr_W0 s0) s0.heap.size y_M_thrown c_M_thrown 1 (Option.some FieldType.int) d mc ms) (hem : c.exceptionTable.toList = []) : ∀ x ∈ t_M_thrown l s0 D ca e0 d mc ms, cr_Snd p l e R s m args below meth c s0.heap.size mc ms Q x.1 x.2 := s_M_thrown_0 hl Z C hem
theorem d_M_room_0 : decode c_M_room 0 = .ok (.aload_n 0, 1) := by decide +kernel
theorem d_M_room_1 : decode c_M_room 1 = .ok (.iload_n 1, 1) := by decide +kernel
theorem d_M_room_2 : decode c_M_room 2 = .ok (.bipush 10, 2) := by decide +kernel
theorem d_M_room_4 : decode c_M_room 4 = .ok (.invokestatic 113, 3) := by decide +kernel
theorem d_M_room_7 : decode c_M_room 7 = .ok (.aload_n 0, 1) := by decide +kernel
theorem d_M_room_8 : decode c_M_room 8 = .ok (.getfield 117, 3) := by decide +kernel
theorem d_M_room_11 : decode c_M_room 11 = .ok (.bipush 20, 2) := by decide +kernel
theorem d_M_room_13 : decode c_M_room 13 = .ok (.if_icmp .ge 7, 3) := by decide +kernel
theorem d_M_room_16 : decode c_M_room 16 = .ok (.iconst 1, 1) := by decide +kernel
theorem d_M_room_17 : decode c_M_room 17 = .ok (.goto 4, 3) := by decide +kernel
theorem d_M_room_20 : decode c_M_room 20 = .ok (.iconst 0, 1) := by decide +kernel
theorem d_M_room_21 : decode c_M_room 21 = .ok (.invokevirtual 120, 3) := by decide +kernel
theorem d_M_room_24 : decode c_M_room 24 = .ok (.ifCond .ne 5, 3) := by decide +kernel
theorem d_M_room_27 : decode c_M_room 27 = .ok (.iconst 0, 1) := by decide +kernel
theorem d_M_room_28 : decode c_M_room 28 = .ok (.ireturn, 1) := by decide +kernel
theorem d_M_room_29 : decode c_M_room 29 = .ok (.aload_n 0, 1) := by decide +kernel
theorem d_M_room_30 : decode c_M_room 30 = .ok (.getfield 7, 3) := by decide +kernel
theorem d_M_room_33 : decode c_M_room 33 = .ok (.aload_n 0, 1) := by decide +kernel
theorem d_M_room_34 : decode c_M_room 34 = .ok (.getfield 117, 3) := by decide +kernel
theorem d_M_room_37 : decode c_M_room 37 = .ok (.iload_n 1, 1) := by decide +kernel
theorem d_M_room_38 : decode c_M_room 38 = .ok (.iastore, 1) := by decide +kernel
theorem d_M_room_39 : decode c_M_room 39 = .ok (.aload_n 0, 1) := by decide +kernel
theorem d_M_room_40 : decode c_M_room 40 = .ok (.dup, 1) := by decide +kernel
theorem d_M_room_41 : decode c_M_room 41 = .ok (.getfield 117, 3) := by decide +kernel
theorem d_M_room_44 : decode c_M_room 44 = .ok (.iconst 1, 1) := by decide +kernel
theorem d_M_room_45 : decode c_M_room 45 = .ok (.iadd, 1) := by decide +kernel
theorem d_M_room_46 : decode c_M_room 46 = .ok (.putfield 117, 3) := by decide +kernel
theorem d_M_room_49 : decode c_M_room 49 = .ok (.aload_n 0, 1) := by decide +kernel
theorem d_M_room_50 : decode c_M_room 50 = .ok (.getfield 117, 3) := by decide +kernel
theorem d_M_room_53 : decode c_M_room 53 = .ok (.iconst 1, 1) := by decide +kernel
theorem d_M_room_54 : decode c_M_room 54 = .ok (.isub, 1) := by decide +kernel
theorem d_M_room_55 : decode c_M_room 55 = .ok (.ireturn, 1) := by decide +kernel
def t_M_room_0 (l : Launch) (s0 : State) (D : va_G) (ca : Nat → ClassId) (e0 d mc ms : Nat) : List (Nat × cr_T) := [(0, cr_aload 0 1),
  (1, cr_iload 1 2),
  (2, cr_push (.int 10) 4),
  (4, cr_calS l (cr_W0 s0) s0.heap.size y_M_isIn cw_M_isIn d mc ms 2 2 7),
  (7, cr_aload 0 8),
  (8, cr_getf D kc 11 2 11),
  (11, cr_push (.int 20) 13),
  (13, cr_icge 20 16),
  (16, cr_push (.int 1) 17),
  (17, cr_goto 21),
  (20, cr_push (.int 0) 21),
  (21, cr_calV D kc l (cr_W0 s0) s0.heap.size 11 y_M_goes cw_M_goes d mc ms 2 2 24),
  (24, cr_ifne 29 27),
  (27, cr_push (.int 0) 28),
  (28, cr_iret mc ms),
  (29, cr_aload 0 30),
  (30, cr_getf D kc 11 3 33),
  (33, cr_aload 0 34),
  (34, cr_getf D kc 11 2 37),
  (37, cr_iload 1 38),
  (38, cr_iast D kc s0.heap.size (ca 0) 39),
  (39, cr_aload 0 40),
  (40, cr_dup 41),
  (41, cr_getf D kc 11 2 44),
  (44, cr_push (.int 1) 45),
  (45, cr_iadd 46),
  (46, cr_putf D kc s0.heap.size 11 2 .int 49),
  (49, cr_aload 0 50),
  (50, cr_getf D kc 11 2 53),
  (53, cr_push (.int 1) 54)]
def t_M_room_1 (l : Launch) (s0 : State) (D : va_G) (ca : Nat → ClassId) (e0 d mc ms : Nat) : List (Nat × cr_T) := [(54, cr_isub 55),
  (55, cr_iret mc ms)]
def t_M_room (l : Launch) (s0 : State) (D : va_G) (ca : Nat → ClassId) (e0 d mc ms : Nat) : List (Nat × cr_T) := t_M_room_0 l s0 D ca e0 d mc ms ++ (t_M_room_1 l s0 D ca e0 d mc ms)
set_option maxHeartbeats 4000000 in
set_option maxRecDepth 20000 in
theorem s_M_room_0 {p : Program} {l : Launch} {e : Env} {R : Room} {s : State} {m : MethodId} {args : Array Value} {below : List Frame} {meth : Method} {c : Code} {s0 : State} {D : va_G} {ca : Nat → ClassId} {e0 d mc ms : Nat} {Q : cr_Q} (hl : l.flags = flags0) (Z : cr_Z0 s0 D ca e0) (C : cr_C p R s m meth c (cr_W0 s0) s0.heap.size y_M_room c_M_room 2 (Option.some FieldType.int) d mc ms) (hem : c.exceptionTable.toList = []) : ∀ x ∈ t_M_room_0 l s0 D ca e0 d mc ms, cr_Snd p l e R s m args below meth c s0.heap.size mc ms Q x.1 x.2 := by
  obtain ⟨hx, hb, hml, hown, hr, hlk, hnm, hU, hlo, hR⟩ := C
  have hK := cr_Z0K Z hU
  have hRc : R.cells = mc := by rw [hR]; rfl
  have hRs : R.slots = ms := by rw [hR]; rfl
  unfold t_M_room_0
  refine cr_cons (cr_aload_n_ok hx hb d_M_room_0 rfl rfl) ?_
  refine cr_cons (cr_iload_n_ok hx hb d_M_room_1 rfl rfl) ?_
  refine cr_cons (cr_bipush_ok hx hb d_M_room_2 (by decide) rfl) ?_
  refine cr_cons (cr_calS_ok hx hb hml hown hlk hU hlo hR (cr_W0_st s0) (by rw [hem]; exact fun _ h => absurd h List.not_mem_nil) (u_M_isIn Z) (Or.inl (cr_w Z w_951 rfl hU args)) (cr_w Z w_952 rfl hU args) (by decide) (by decide +kernel) (by decide) d_M_room_4 rfl) ?_
  refine cr_cons (cr_aload_n_ok hx hb d_M_room_7 rfl rfl) ?_
  refine cr_cons (cr_getf_ok (C := R_M) (T := T_M) (N := 41) hx hb (k_M Z hU args) (fun _ h => h) hown hK rfl (by decide) (cr_w Z w_820 rfl hU args) (fun _ h => h) d_M_room_8 rfl) ?_
  refine cr_cons (cr_bipush_ok hx hb d_M_room_11 (by decide) rfl) ?_
  refine cr_cons (cr_icge_ok hx hb d_M_room_13 (by decide) rfl) ?_
  refine cr_cons (cr_iconst_ok hx hb d_M_room_16 (by decide) rfl) ?_
  refine cr_cons (cr_goto_ok hx hb d_M_room_17 (by decide)) ?_
  refine cr_cons (cr_iconst_ok hx hb d_M_room_20 (by decide) rfl) ?_
  refine cr_cons (cr_calV_ok (C := R_M) (Tf := T_M) (N := 41) hx hb hml hown hlk hU hlo hR (cr_W0_st s0) (by rw [hem]; exact fun _ h => absurd h List.not_mem_nil) hK rfl (u_M_goes Z) (Or.inl (cr_w Z w_954 rfl hU args)) (cr_w Z w_956 rfl hU args) (cr_w Z ws_32 rfl hU args) (by decide) (by decide +kernel) (by decide) d_M_room_21 rfl) ?_
  refine cr_cons (cr_ifne_ok hx hb d_M_room_24 (by decide) rfl) ?_
  refine cr_cons (cr_iconst_ok hx hb d_M_room_27 (by decide) rfl) ?_
  refine cr_cons (cr_iret_ok hx hb hr hlk d_M_room_28) ?_
  refine cr_cons (cr_aload_n_ok hx hb d_M_room_29 rfl rfl) ?_
  refine cr_cons (cr_getf_ok (C := R_M) (T := T_M) (N := 41) hx hb (k_M Z hU args) (fun _ h => h) hown hK rfl (by decide) (cr_w Z w_821 rfl hU args) (fun _ h => h) d_M_room_30 rfl) ?_
  refine cr_cons (cr_aload_n_ok hx hb d_M_room_33 rfl rfl) ?_
  refine cr_cons (cr_getf_ok (C := R_M) (T := T_M) (N := 41) hx hb (k_M Z hU args) (fun _ h => h) hown hK rfl (by decide) (cr_w Z w_820 rfl hU args) (fun _ h => h) d_M_room_34 rfl) ?_
  refine cr_cons (cr_iload_n_ok hx hb d_M_room_37 rfl rfl) ?_
  refine cr_cons (cr_iast_ok (t0 := 0) hx hb hK rfl d_M_room_38 rfl) ?_
  refine cr_cons (cr_aload_n_ok hx hb d_M_room_39 rfl rfl) ?_
  refine cr_cons (cr_dup_ok hx hb d_M_room_40 rfl) ?_
  refine cr_cons (cr_getf_ok (C := R_M) (T := T_M) (N := 41) hx hb (k_M Z hU args) (fun _ h => h) hown hK rfl (by decide) (cr_w Z w_820 rfl hU args) (fun _ h => h) d_M_room_41 rfl) ?_
  refine cr_cons (cr_iconst_ok hx hb d_M_room_44 (by decide) rfl) ?_
  refine cr_cons (cr_iadd_ok hx hb d_M_room_45 rfl) ?_
  refine cr_cons (cr_putf_ok (C := R_M) (T := T_M) (N := 41) tt_M hx hb (k_M Z hU args) (fun _ h => h) ty_M nm_M hown hK rfl (by decide) (Or.inl (cr_w Z w_820 rfl hU args)) (fun _ h => h) rfl (by decide +kernel) d_M_room_46 rfl) ?_
  refine cr_cons (cr_aload_n_ok hx hb d_M_room_49 rfl rfl) ?_
  refine cr_cons (cr_getf_ok (C := R_M) (T := T_M) (N := 41) hx hb (k_M Z hU args) (fun _ h => h) hown hK rfl (by decide) (cr_w Z w_820 rfl hU args) (fun _ h => h) d_M_room_50 rfl) ?_
  refine cr_cons (cr_iconst_ok hx hb d_M_room_53 (by decide) rfl) ?_
  exact cr_nil
set_option maxHeartbeats 4000000 in
set_option maxRecDepth 20000 in
theorem s_M_room_1 {p : Program} {l : Launch} {e : Env} {R : Room} {s : State} {m : MethodId} {args : Array Value} {below : List Frame} {meth : Method} {c : Code} {s0 : State} {D : va_G} {ca : Nat → ClassId} {e0 d mc ms : Nat} {Q : cr_Q} (hl : l.flags = flags0) (Z : cr_Z0 s0 D ca e0) (C : cr_C p R s m meth c (cr_W0 s0) s0.heap.size y_M_room c_M_room 2 (Option.some FieldType.int) d mc ms) (hem : c.exceptionTable.toList = []) : ∀ x ∈ t_M_room_1 l s0 D ca e0 d mc ms, cr_Snd p l e R s m args below meth c s0.heap.size mc ms Q x.1 x.2 := by
  obtain ⟨hx, hb, hml, hown, hr, hlk, hnm, hU, hlo, hR⟩ := C
  have hK := cr_Z0K Z hU
  have hRc : R.cells = mc := by rw [hR]; rfl
  have hRs : R.slots = ms := by rw [hR]; rfl
  unfold t_M_room_1
  refine cr_cons (cr_isub_ok hx hb d_M_room_54 rfl) ?_
  refine cr_cons (cr_iret_ok hx hb hr hlk d_M_room_55) ?_
  exact cr_nil
theorem s_M_room {p : Program} {l : Launch} {e : Env} {R : Room} {s : State} {m : MethodId} {args : Array Value} {below : List Frame} {meth : Method} {c : Code} {s0 : State} {D : va_G} {ca : Nat → ClassId} {e0 d mc ms : Nat} {Q : cr_Q} (hl : l.flags = flags0) (Z : cr_Z0 s0 D ca e0) (C : cr_C p R s m meth c (cr_W0 s0) s0.heap.size y_M_room c_M_room 2 (Option.some FieldType.int) d mc ms) (hem : c.exceptionTable.toList = []) : ∀ x ∈ t_M_room l s0 D ca e0 d mc ms, cr_Snd p l e R s m args below meth c s0.heap.size mc ms Q x.1 x.2 := cr_app (s_M_room_0 hl Z C hem) (s_M_room_1 hl Z C hem)
theorem d_M_isIn_0 : decode c_M_isIn 0 = .ok (.iload_n 0, 1) := by decide +kernel
theorem d_M_isIn_1 : decode c_M_isIn 1 = .ok (.ifCond .lt 12, 3) := by decide +kernel
theorem d_M_isIn_4 : decode c_M_isIn 4 = .ok (.iload_n 0, 1) := by decide +kernel
theorem d_M_isIn_5 : decode c_M_isIn 5 = .ok (.iload_n 1, 1) := by decide +kernel
theorem d_M_isIn_6 : decode c_M_isIn 6 = .ok (.if_icmp .ge 7, 3) := by decide +kernel
theorem d_M_isIn_9 : decode c_M_isIn 9 = .ok (.iconst 1, 1) := by decide +kernel
theorem d_M_isIn_10 : decode c_M_isIn 10 = .ok (.goto 4, 3) := by decide +kernel
theorem d_M_isIn_13 : decode c_M_isIn 13 = .ok (.iconst 0, 1) := by decide +kernel
theorem d_M_isIn_14 : decode c_M_isIn 14 = .ok (.ireturn, 1) := by decide +kernel
def t_M_isIn_0 (l : Launch) (s0 : State) (D : va_G) (ca : Nat → ClassId) (e0 d mc ms : Nat) : List (Nat × cr_T) := [(0, cr_iload 0 1),
  (1, cr_iflt 13 4),
  (4, cr_iload 0 5),
  (5, cr_iload 1 6),
  (6, cr_icge 13 9),
  (9, cr_push (.int 1) 10),
  (10, cr_goto 14),
  (13, cr_push (.int 0) 14),
  (14, cr_zret mc ms .boolean)]
def t_M_isIn (l : Launch) (s0 : State) (D : va_G) (ca : Nat → ClassId) (e0 d mc ms : Nat) : List (Nat × cr_T) := t_M_isIn_0 l s0 D ca e0 d mc ms
set_option maxHeartbeats 4000000 in
set_option maxRecDepth 20000 in
theorem s_M_isIn_0 {p : Program} {l : Launch} {e : Env} {R : Room} {s : State} {m : MethodId} {args : Array Value} {below : List Frame} {meth : Method} {c : Code} {s0 : State} {D : va_G} {ca : Nat → ClassId} {e0 d mc ms : Nat} {Q : cr_Q} (hl : l.flags = flags0) (Z : cr_Z0 s0 D ca e0) (C : cr_C p R s m meth c (cr_W0 s0) s0.heap.size y_M_isIn c_M_isIn 2 (Option.some FieldType.boolean) d mc ms) (hem : c.exceptionTable.toList = []) : ∀ x ∈ t_M_isIn_0 l s0 D ca e0 d mc ms, cr_Snd p l e R s m args below meth c s0.heap.size mc ms Q x.1 x.2 := by
  obtain ⟨hx, hb, hml, hown, hr, hlk, hnm, hU, hlo, hR⟩ := C
  have hK := cr_Z0K Z hU
  have hRc : R.cells = mc := by rw [hR]; rfl
  have hRs : R.slots = ms := by rw [hR]; rfl
  unfold t_M_isIn_0
  refine cr_cons (cr_iload_n_ok hx hb d_M_isIn_0 rfl rfl) ?_
  refine cr_cons (cr_iflt_ok hx hb d_M_isIn_1 (by decide) rfl) ?_
  refine cr_cons (cr_iload_n_ok hx hb d_M_isIn_4 rfl rfl) ?_
  refine cr_cons (cr_iload_n_ok hx hb d_M_isIn_5 rfl rfl) ?_
  refine cr_cons (cr_icge_ok hx hb d_M_isIn_6 (by decide) rfl) ?_
  refine cr_cons (cr_iconst_ok hx hb d_M_isIn_9 (by decide) rfl) ?_
  refine cr_cons (cr_goto_ok hx hb d_M_isIn_10 (by decide)) ?_
  refine cr_cons (cr_iconst_ok hx hb d_M_isIn_13 (by decide) rfl) ?_
  refine cr_cons (cr_zret_ok hx hb hr hlk d_M_isIn_14) ?_
  exact cr_nil
theorem s_M_isIn {p : Program} {l : Launch} {e : Env} {R : Room} {s : State} {m : MethodId} {args : Array Value} {below : List Frame} {meth : Method} {c : Code} {s0 : State} {D : va_G} {ca : Nat → ClassId} {e0 d mc ms : Nat} {Q : cr_Q} (hl : l.flags = flags0) (Z : cr_Z0 s0 D ca e0) (C : cr_C p R s m meth c (cr_W0 s0) s0.heap.size y_M_isIn c_M_isIn 2 (Option.some FieldType.boolean) d mc ms) (hem : c.exceptionTable.toList = []) : ∀ x ∈ t_M_isIn l s0 D ca e0 d mc ms, cr_Snd p l e R s m args below meth c s0.heap.size mc ms Q x.1 x.2 := s_M_isIn_0 hl Z C hem
theorem d_M_goes_0 : decode c_M_goes 0 = .ok (.aload_n 0, 1) := by decide +kernel
theorem d_M_goes_1 : decode c_M_goes 1 = .ok (.iload_n 1, 1) := by decide +kernel
theorem d_M_goes_2 : decode c_M_goes 2 = .ok (.ifCond .ne 7, 3) := by decide +kernel
theorem d_M_goes_5 : decode c_M_goes 5 = .ok (.iconst 1, 1) := by decide +kernel
theorem d_M_goes_6 : decode c_M_goes 6 = .ok (.goto 12, 3) := by decide +kernel
theorem d_M_goes_9 : decode c_M_goes 9 = .ok (.iload_n 2, 1) := by decide +kernel
theorem d_M_goes_10 : decode c_M_goes 10 = .ok (.ifCond .ne 7, 3) := by decide +kernel
theorem d_M_goes_13 : decode c_M_goes 13 = .ok (.iconst 2, 1) := by decide +kernel
theorem d_M_goes_14 : decode c_M_goes 14 = .ok (.goto 4, 3) := by decide +kernel
theorem d_M_goes_17 : decode c_M_goes 17 = .ok (.iconst 0, 1) := by decide +kernel
theorem d_M_goes_18 : decode c_M_goes 18 = .ok (.putfield 105, 3) := by decide +kernel
theorem d_M_goes_21 : decode c_M_goes 21 = .ok (.aload_n 0, 1) := by decide +kernel
theorem d_M_goes_22 : decode c_M_goes 22 = .ok (.getfield 105, 3) := by decide +kernel
theorem d_M_goes_25 : decode c_M_goes 25 = .ok (.ifCond .ne 7, 3) := by decide +kernel
theorem d_M_goes_28 : decode c_M_goes 28 = .ok (.iconst 1, 1) := by decide +kernel
theorem d_M_goes_29 : decode c_M_goes 29 = .ok (.goto 4, 3) := by decide +kernel
theorem d_M_goes_32 : decode c_M_goes 32 = .ok (.iconst 0, 1) := by decide +kernel
theorem d_M_goes_33 : decode c_M_goes 33 = .ok (.ireturn, 1) := by decide +kernel
def t_M_goes_0 (l : Launch) (s0 : State) (D : va_G) (ca : Nat → ClassId) (e0 d mc ms : Nat) : List (Nat × cr_T) := [(0, cr_aload 0 1),
  (1, cr_iload 1 2),
  (2, cr_ifne 9 5),
  (5, cr_push (.int 1) 6),
  (6, cr_goto 18),
  (9, cr_iload 2 10),
  (10, cr_ifne 17 13),
  (13, cr_push (.int 2) 14),
  (14, cr_goto 18),
  (17, cr_push (.int 0) 18),
  (18, cr_putf D kc s0.heap.size 11 0 .int 21),
  (21, cr_aload 0 22),
  (22, cr_getf D kc 11 0 25),
  (25, cr_ifne 32 28),
  (28, cr_push (.int 1) 29),
  (29, cr_goto 33),
  (32, cr_push (.int 0) 33),
  (33, cr_zret mc ms .boolean)]
def t_M_goes (l : Launch) (s0 : State) (D : va_G) (ca : Nat → ClassId) (e0 d mc ms : Nat) : List (Nat × cr_T) := t_M_goes_0 l s0 D ca e0 d mc ms
set_option maxHeartbeats 4000000 in
set_option maxRecDepth 20000 in
theorem s_M_goes_0 {p : Program} {l : Launch} {e : Env} {R : Room} {s : State} {m : MethodId} {args : Array Value} {below : List Frame} {meth : Method} {c : Code} {s0 : State} {D : va_G} {ca : Nat → ClassId} {e0 d mc ms : Nat} {Q : cr_Q} (hl : l.flags = flags0) (Z : cr_Z0 s0 D ca e0) (C : cr_C p R s m meth c (cr_W0 s0) s0.heap.size y_M_goes c_M_goes 3 (Option.some FieldType.boolean) d mc ms) (hem : c.exceptionTable.toList = []) : ∀ x ∈ t_M_goes_0 l s0 D ca e0 d mc ms, cr_Snd p l e R s m args below meth c s0.heap.size mc ms Q x.1 x.2 := by
  obtain ⟨hx, hb, hml, hown, hr, hlk, hnm, hU, hlo, hR⟩ := C
  have hK := cr_Z0K Z hU
  have hRc : R.cells = mc := by rw [hR]; rfl
  have hRs : R.slots = ms := by rw [hR]; rfl
  unfold t_M_goes_0
  refine cr_cons (cr_aload_n_ok hx hb d_M_goes_0 rfl rfl) ?_
  refine cr_cons (cr_iload_n_ok hx hb d_M_goes_1 rfl rfl) ?_
  refine cr_cons (cr_ifne_ok hx hb d_M_goes_2 (by decide) rfl) ?_
  refine cr_cons (cr_iconst_ok hx hb d_M_goes_5 (by decide) rfl) ?_
  refine cr_cons (cr_goto_ok hx hb d_M_goes_6 (by decide)) ?_
  refine cr_cons (cr_iload_n_ok hx hb d_M_goes_9 rfl rfl) ?_
  refine cr_cons (cr_ifne_ok hx hb d_M_goes_10 (by decide) rfl) ?_
  refine cr_cons (cr_iconst_ok hx hb d_M_goes_13 (by decide) rfl) ?_
  refine cr_cons (cr_goto_ok hx hb d_M_goes_14 (by decide)) ?_
  refine cr_cons (cr_iconst_ok hx hb d_M_goes_17 (by decide) rfl) ?_
  refine cr_cons (cr_putf_ok (C := R_M) (T := T_M) (N := 41) tt_M hx hb (k_M Z hU args) (fun _ h => h) ty_M nm_M hown hK rfl (by decide) (Or.inl (cr_w Z w_818 rfl hU args)) (fun _ h => h) rfl (by decide +kernel) d_M_goes_18 rfl) ?_
  refine cr_cons (cr_aload_n_ok hx hb d_M_goes_21 rfl rfl) ?_
  refine cr_cons (cr_getf_ok (C := R_M) (T := T_M) (N := 41) hx hb (k_M Z hU args) (fun _ h => h) hown hK rfl (by decide) (cr_w Z w_818 rfl hU args) (fun _ h => h) d_M_goes_22 rfl) ?_
  refine cr_cons (cr_ifne_ok hx hb d_M_goes_25 (by decide) rfl) ?_
  refine cr_cons (cr_iconst_ok hx hb d_M_goes_28 (by decide) rfl) ?_
  refine cr_cons (cr_goto_ok hx hb d_M_goes_29 (by decide)) ?_
  refine cr_cons (cr_iconst_ok hx hb d_M_goes_32 (by decide) rfl) ?_
  refine cr_cons (cr_zret_ok hx hb hr hlk d_M_goes_33) ?_
  exact cr_nil
theorem s_M_goes {p : Program} {l : Launch} {e : Env} {R : Room} {s : State} {m : MethodId} {args : Array Value} {below : List Frame} {meth : Method} {c : Code} {s0 : State} {D : va_G} {ca : Nat → ClassId} {e0 d mc ms : Nat} {Q : cr_Q} (hl : l.flags = flags0) (Z : cr_Z0 s0 D ca e0) (C : cr_C p R s m meth c (cr_W0 s0) s0.heap.size y_M_goes c_M_goes 3 (Option.some FieldType.boolean) d mc ms) (hem : c.exceptionTable.toList = []) : ∀ x ∈ t_M_goes l s0 D ca e0 d mc ms, cr_Snd p l e R s m args below meth c s0.heap.size mc ms Q x.1 x.2 := s_M_goes_0 hl Z C hem
