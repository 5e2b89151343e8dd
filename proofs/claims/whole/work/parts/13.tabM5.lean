theorem d_M_spans_0 : decode c_M_spans 0 = .ok (.aload_n 0, 1) := by decide +kernel
theorem d_M_spans_1 : decode c_M_spans 1 = .ok (.getfield 65, 3) := by decide +kernel
theorem d_M_spans_4 : decode c_M_spans 4 = .ok (.iload_n 1, 1) := by decide +kernel
theorem d_M_spans_5 : decode c_M_spans 5 = .ok (.iaload, 1) := by decide +kernel
theorem d_M_spans_6 : decode c_M_spans 6 = .ok (.iload 4, 2) := by decide +kernel
theorem d_M_spans_8 : decode c_M_spans 8 = .ok (.if_icmp .gt 7, 3) := by decide +kernel
theorem d_M_spans_11 : decode c_M_spans 11 = .ok (.iconst 1, 1) := by decide +kernel
theorem d_M_spans_12 : decode c_M_spans 12 = .ok (.goto 4, 3) := by decide +kernel
theorem d_M_spans_15 : decode c_M_spans 15 = .ok (.iconst 0, 1) := by decide +kernel
theorem d_M_spans_16 : decode c_M_spans 16 = .ok (.istore 5, 2) := by decide +kernel
theorem d_M_spans_18 : decode c_M_spans 18 = .ok (.iload 4, 2) := by decide +kernel
theorem d_M_spans_20 : decode c_M_spans 20 = .ok (.aload_n 0, 1) := by decide +kernel
theorem d_M_spans_21 : decode c_M_spans 21 = .ok (.getfield 68, 3) := by decide +kernel
theorem d_M_spans_24 : decode c_M_spans 24 = .ok (.iload_n 1, 1) := by decide +kernel
theorem d_M_spans_25 : decode c_M_spans 25 = .ok (.iaload, 1) := by decide +kernel
theorem d_M_spans_26 : decode c_M_spans 26 = .ok (.if_icmp .ge 7, 3) := by decide +kernel
theorem d_M_spans_29 : decode c_M_spans 29 = .ok (.iconst 1, 1) := by decide +kernel
theorem d_M_spans_30 : decode c_M_spans 30 = .ok (.goto 4, 3) := by decide +kernel
theorem d_M_spans_33 : decode c_M_spans 33 = .ok (.iconst 0, 1) := by decide +kernel
theorem d_M_spans_34 : decode c_M_spans 34 = .ok (.istore 6, 2) := by decide +kernel
theorem d_M_spans_36 : decode c_M_spans 36 = .ok (.aload_n 0, 1) := by decide +kernel
theorem d_M_spans_37 : decode c_M_spans 37 = .ok (.getfield 65, 3) := by decide +kernel
theorem d_M_spans_40 : decode c_M_spans 40 = .ok (.iload_n 1, 1) := by decide +kernel
theorem d_M_spans_41 : decode c_M_spans 41 = .ok (.iaload, 1) := by decide +kernel
theorem d_M_spans_42 : decode c_M_spans 42 = .ok (.aload_n 0, 1) := by decide +kernel
theorem d_M_spans_43 : decode c_M_spans 43 = .ok (.getfield 68, 3) := by decide +kernel
theorem d_M_spans_46 : decode c_M_spans 46 = .ok (.iload_n 1, 1) := by decide +kernel
theorem d_M_spans_47 : decode c_M_spans 47 = .ok (.iaload, 1) := by decide +kernel
theorem d_M_spans_48 : decode c_M_spans 48 = .ok (.if_icmp .ge 21, 3) := by decide +kernel
theorem d_M_spans_51 : decode c_M_spans 51 = .ok (.iload 5, 2) := by decide +kernel
theorem d_M_spans_53 : decode c_M_spans 53 = .ok (.ifCond .eq 12, 3) := by decide +kernel
theorem d_M_spans_56 : decode c_M_spans 56 = .ok (.iload 6, 2) := by decide +kernel
theorem d_M_spans_58 : decode c_M_spans 58 = .ok (.ifCond .eq 7, 3) := by decide +kernel
theorem d_M_spans_61 : decode c_M_spans 61 = .ok (.iconst 1, 1) := by decide +kernel
theorem d_M_spans_62 : decode c_M_spans 62 = .ok (.goto 37, 3) := by decide +kernel
theorem d_M_spans_65 : decode c_M_spans 65 = .ok (.iconst 0, 1) := by decide +kernel
theorem d_M_spans_66 : decode c_M_spans 66 = .ok (.goto 33, 3) := by decide +kernel
theorem d_M_spans_69 : decode c_M_spans 69 = .ok (.aload_n 0, 1) := by decide +kernel
theorem d_M_spans_70 : decode c_M_spans 70 = .ok (.getfield 65, 3) := by decide +kernel
theorem d_M_spans_73 : decode c_M_spans 73 = .ok (.iload_n 1, 1) := by decide +kernel
theorem d_M_spans_74 : decode c_M_spans 74 = .ok (.iaload, 1) := by decide +kernel
theorem d_M_spans_75 : decode c_M_spans 75 = .ok (.aload_n 0, 1) := by decide +kernel
theorem d_M_spans_76 : decode c_M_spans 76 = .ok (.getfield 68, 3) := by decide +kernel
theorem d_M_spans_79 : decode c_M_spans 79 = .ok (.iload_n 1, 1) := by decide +kernel
theorem d_M_spans_80 : decode c_M_spans 80 = .ok (.iaload, 1) := by decide +kernel
theorem d_M_spans_81 : decode c_M_spans 81 = .ok (.if_icmp .le 17, 3) := by decide +kernel
theorem d_M_spans_84 : decode c_M_spans 84 = .ok (.iload 5, 2) := by decide +kernel
theorem d_M_spans_86 : decode c_M_spans 86 = .ok (.ifCond .ne 8, 3) := by decide +kernel
theorem d_M_spans_89 : decode c_M_spans 89 = .ok (.iload 6, 2) := by decide +kernel
theorem d_M_spans_91 : decode c_M_spans 91 = .ok (.ifCond .eq 7, 3) := by decide +kernel
theorem d_M_spans_94 : decode c_M_spans 94 = .ok (.iconst 1, 1) := by decide +kernel
theorem d_M_spans_95 : decode c_M_spans 95 = .ok (.goto 4, 3) := by decide +kernel
theorem d_M_spans_98 : decode c_M_spans 98 = .ok (.iconst 0, 1) := by decide +kernel
theorem d_M_spans_99 : decode c_M_spans 99 = .ok (.istore 7, 2) := by decide +kernel
theorem d_M_spans_101 : decode c_M_spans 101 = .ok (.iload 7, 2) := by decide +kernel
theorem d_M_spans_103 : decode c_M_spans 103 = .ok (.ifCond .eq 27, 3) := by decide +kernel
theorem d_M_spans_106 : decode c_M_spans 106 = .ok (.aload_n 0, 1) := by decide +kernel
theorem d_M_spans_107 : decode c_M_spans 107 = .ok (.getfield 59, 3) := by decide +kernel
theorem d_M_spans_110 : decode c_M_spans 110 = .ok (.iload_n 1, 1) := by decide +kernel
theorem d_M_spans_111 : decode c_M_spans 111 = .ok (.iaload, 1) := by decide +kernel
theorem d_M_spans_112 : decode c_M_spans 112 = .ok (.iload_n 2, 1) := by decide +kernel
theorem d_M_spans_113 : decode c_M_spans 113 = .ok (.if_icmp .ne 17, 3) := by decide +kernel
theorem d_M_spans_116 : decode c_M_spans 116 = .ok (.aload_n 0, 1) := by decide +kernel
theorem d_M_spans_117 : decode c_M_spans 117 = .ok (.getfield 62, 3) := by decide +kernel
theorem d_M_spans_120 : decode c_M_spans 120 = .ok (.iload_n 1, 1) := by decide +kernel
theorem d_M_spans_121 : decode c_M_spans 121 = .ok (.iaload, 1) := by decide +kernel
theorem d_M_spans_122 : decode c_M_spans 122 = .ok (.iload_n 3, 1) := by decide +kernel
theorem d_M_spans_123 : decode c_M_spans 123 = .ok (.if_icmp .ne 7, 3) := by decide +kernel
theorem d_M_spans_126 : decode c_M_spans 126 = .ok (.iconst 1, 1) := by decide +kernel
theorem d_M_spans_127 : decode c_M_spans 127 = .ok (.goto 4, 3) := by decide +kernel
theorem d_M_spans_130 : decode c_M_spans 130 = .ok (.iconst 0, 1) := by decide +kernel
theorem d_M_spans_131 : decode c_M_spans 131 = .ok (.ireturn, 1) := by decide +kernel
def t_M_spans_0 (l : Launch) (s0 : State) (D : va_G) (ca : Nat → ClassId) (e0 d mc ms : Nat) : List (Nat × cr_T) := [(0, cr_aload 0 1),
  (1, cr_getf D kc 11 25 4),
  (4, cr_iload 1 5),
  (5, cr_iald D kc (ca 0) 6),
  (6, cr_iload 4 8),
  (8, cr_icgt 15 11),
  (11, cr_push (.int 1) 12),
  (12, cr_goto 16),
  (15, cr_push (.int 0) 16),
  (16, cr_istore 5 18),
  (18, cr_iload 4 20),
  (20, cr_aload 0 21),
  (21, cr_getf D kc 11 26 24),
  (24, cr_iload 1 25),
  (25, cr_iald D kc (ca 0) 26),
  (26, cr_icge 33 29),
  (29, cr_push (.int 1) 30),
  (30, cr_goto 34),
  (33, cr_push (.int 0) 34),
  (34, cr_istore 6 36),
  (36, cr_aload 0 37),
  (37, cr_getf D kc 11 25 40),
  (40, cr_iload 1 41),
  (41, cr_iald D kc (ca 0) 42),
  (42, cr_aload 0 43),
  (43, cr_getf D kc 11 26 46),
  (46, cr_iload 1 47),
  (47, cr_iald D kc (ca 0) 48),
  (48, cr_icge 69 51),
  (51, cr_iload 5 53)]
def t_M_spans_1 (l : Launch) (s0 : State) (D : va_G) (ca : Nat → ClassId) (e0 d mc ms : Nat) : List (Nat × cr_T) := [(53, cr_ifeq 65 56),
  (56, cr_iload 6 58),
  (58, cr_ifeq 65 61),
  (61, cr_push (.int 1) 62),
  (62, cr_goto 99),
  (65, cr_push (.int 0) 66),
  (66, cr_goto 99),
  (69, cr_aload 0 70),
  (70, cr_getf D kc 11 25 73),
  (73, cr_iload 1 74),
  (74, cr_iald D kc (ca 0) 75),
  (75, cr_aload 0 76),
  (76, cr_getf D kc 11 26 79),
  (79, cr_iload 1 80),
  (80, cr_iald D kc (ca 0) 81),
  (81, cr_icle 98 84),
  (84, cr_iload 5 86),
  (86, cr_ifne 94 89),
  (89, cr_iload 6 91),
  (91, cr_ifeq 98 94),
  (94, cr_push (.int 1) 95),
  (95, cr_goto 99),
  (98, cr_push (.int 0) 99),
  (99, cr_istore 7 101),
  (101, cr_iload 7 103),
  (103, cr_ifeq 130 106),
  (106, cr_aload 0 107),
  (107, cr_getf D kc 11 23 110),
  (110, cr_iload 1 111),
  (111, cr_iald D kc (ca 0) 112)]
def t_M_spans_2 (l : Launch) (s0 : State) (D : va_G) (ca : Nat → ClassId) (e0 d mc ms : Nat) : List (Nat × cr_T) := [(112, cr_iload 2 113),
  (113, cr_icne 130 116),
  (116, cr_aload 0 117),
  (117, cr_getf D kc 11 24 120),
  (120, cr_iload 1 121),
  (121, cr_iald D kc (ca 0) 122),
  (122, cr_iload 3 123),
  (123, cr_icne 130 126),
  (126, cr_push (.int 1) 127),
  (127, cr_goto 131),
  (130, cr_push (.int 0) 131),
  (131, cr_zret mc ms .boolean)]
def t_M_spans (l : Launch) (s0 : State) (D : va_G) (ca : Nat → ClassId) (e0 d mc ms : Nat) : List (Nat × cr_T) := t_M_spans_0 l s0 D ca e0 d mc ms ++ (t_M_spans_1 l s0 D ca e0 d mc ms ++ (t_M_spans_2 l s0 D ca e0 d mc ms))
set_option maxHeartbeats 4000000 in
set_option maxRecDepth 20000 in
theorem s_M_spans_0 {p : Program} {l : Launch} {e : Env} {R : Room} {s : State} {m : MethodId} {args : Array Value} {below : List Frame} {meth : Method} {c : Code} {s0 : State} {D : va_G} {ca : Nat → ClassId} {e0 d mc ms : Nat} {Q : cr_Q} (hl : l.flags = flags0) (Z : cr_Z0 s0 D ca e0) (C : cr_C p R s m meth c (cr_W0 s0) s0.heap.size y_M_spans c_M_spans 8 (Option.some FieldType.boolean) d mc ms) (hem : c.exceptionTable.toList = []) : ∀ x ∈ t_M_spans_0 l s0 D ca e0 d mc ms, cr_Snd p l e R s m args below meth c s0.heap.size mc ms Q x.1 x.2 := by
  obtain ⟨hx, hb, hml, hown, hr, hlk, hnm, hU, hlo, hR⟩ := C
  have hK := cr_Z0K Z hU
  have hRc : R.cells = mc := by rw [hR]; rfl
  have hRs : R.slots = ms := by rw [hR]; rfl
  unfold t_M_spans_0
  refine cr_cons (cr_aload_n_ok hx hb d_M_spans_0 rfl rfl) ?_
  refine cr_cons (cr_getf_ok (C := R_M) (T := T_M) (N := 41) hx hb (k_M Z hU args) (fun _ h => h) hown hK rfl (by decide) (cr_w Z w_843 rfl hU args) (fun _ h => h) d_M_spans_1 rfl) ?_
  refine cr_cons (cr_iload_n_ok hx hb d_M_spans_4 rfl rfl) ?_
  refine cr_cons (cr_iald_ok (t0 := 0) hx hb hK rfl d_M_spans_5 rfl) ?_
  refine cr_cons (cr_iload_ok hx hb d_M_spans_6 rfl) ?_
  refine cr_cons (cr_icgt_ok hx hb d_M_spans_8 (by decide) rfl) ?_
  refine cr_cons (cr_iconst_ok hx hb d_M_spans_11 (by decide) rfl) ?_
  refine cr_cons (cr_goto_ok hx hb d_M_spans_12 (by decide)) ?_
  refine cr_cons (cr_iconst_ok hx hb d_M_spans_15 (by decide) rfl) ?_
  refine cr_cons (cr_istore_ok hx hb d_M_spans_16 rfl) ?_
  refine cr_cons (cr_iload_ok hx hb d_M_spans_18 rfl) ?_
  refine cr_cons (cr_aload_n_ok hx hb d_M_spans_20 rfl rfl) ?_
  refine cr_cons (cr_getf_ok (C := R_M) (T := T_M) (N := 41) hx hb (k_M Z hU args) (fun _ h => h) hown hK rfl (by decide) (cr_w Z w_844 rfl hU args) (fun _ h => h) d_M_spans_21 rfl) ?_
  refine cr_cons (cr_iload_n_ok hx hb d_M_spans_24 rfl rfl) ?_
  refine cr_cons (cr_iald_ok (t0 := 0) hx hb hK rfl d_M_spans_25 rfl) ?_
  refine cr_cons (cr_icge_ok hx hb d_M_spans_26 (by decide) rfl) ?_
  refine cr_cons (cr_iconst_ok hx hb d_M_spans_29 (by decide) rfl) ?_
  refine cr_cons (cr_goto_ok hx hb d_M_spans_30 (by decide)) ?_
  refine cr_cons (cr_iconst_ok hx hb d_M_spans_33 (by decide) rfl) ?_
  refine cr_cons (cr_istore_ok hx hb d_M_spans_34 rfl) ?_
  refine cr_cons (cr_aload_n_ok hx hb d_M_spans_36 rfl rfl) ?_
  refine cr_cons (cr_getf_ok (C := R_M) (T := T_M) (N := 41) hx hb (k_M Z hU args) (fun _ h => h) hown hK rfl (by decide) (cr_w Z w_843 rfl hU args) (fun _ h => h) d_M_spans_37 rfl) ?_
  refine cr_cons (cr_iload_n_ok hx hb d_M_spans_40 rfl rfl) ?_
  refine cr_cons (cr_iald_ok (t0 := 0) hx hb hK rfl d_M_spans_41 rfl) ?_
  refine cr_cons (cr_aload_n_ok hx hb d_M_spans_42 rfl rfl) ?_
  refine cr_cons (cr_getf_ok (C := R_M) (T := T_M) (N := 41) hx hb (k_M Z hU args) (fun _ h => h) hown hK rfl (by decide) (cr_w Z w_844 rfl hU args) (fun _ h => h) d_M_spans_43 rfl) ?_
  refine cr_cons (cr_iload_n_ok hx hb d_M_spans_46 rfl rfl) ?_
  refine cr_cons (cr_iald_ok (t0 := 0) hx hb hK rfl d_M_spans_47 rfl) ?_
  refine cr_cons (cr_icge_ok hx hb d_M_spans_48 (by decide) rfl) ?_
  refine cr_cons (cr_iload_ok hx hb d_M_spans_51 rfl) ?_
  exact cr_nil
set_option maxHeartbeats 4000000 in
set_option maxRecDepth 20000 in
theorem s_M_spans_1 {p : Program} {l : Launch} {e : Env} {R : Room} {s : State} {m : MethodId} {args : Array Value} {below : List Frame} {meth : Method} {c : Code} {s0 : State} {D : va_G} {ca : Nat → ClassId} {e0 d mc ms : Nat} {Q : cr_Q} (hl : l.flags = flags0) (Z : cr_Z0 s0 D ca e0) (C : cr_C p R s m meth c (cr_W0 s0) s0.heap.size y_M_spans c_M_spans 8 (Option.some FieldType.boolean) d mc ms) (hem : c.exceptionTable.toList = []) : ∀ x ∈ t_M_spans_1 l s0 D ca e0 d mc ms, cr_Snd p l e R s m args below meth c s0.heap.size mc ms Q x.1 x.2 := by
  obtain ⟨hx, hb, hml, hown, hr, hlk, hnm, hU, hlo, hR⟩ := C
  have hK := cr_Z0K Z hU
  have hRc : R.cells = mc := by rw [hR]; rfl
  have hRs : R.slots = ms := by rw [hR]; rfl
  unfold t_M_spans_1
  refine cr_cons (cr_ifeq_ok hx hb d_M_spans_53 (by decide) rfl) ?_
  refine cr_cons (cr_iload_ok hx hb d_M_spans_56 rfl) ?_
  refine cr_cons (cr_ifeq_ok hx hb d_M_spans_58 (by decide) rfl) ?_
  refine cr_cons (cr_iconst_ok hx hb d_M_spans_61 (by decide) rfl) ?_
  refine cr_cons (cr_goto_ok hx hb d_M_spans_62 (by decide)) ?_
  refine cr_cons (cr_iconst_ok hx hb d_M_spans_65 (by decide) rfl) ?_
  refine cr_cons (cr_goto_ok hx hb d_M_spans_66 (by decide)) ?_
  refine cr_cons (cr_aload_n_ok hx hb d_M_spans_69 rfl rfl) ?_
  refine cr_cons (cr_getf_ok (C := R_M) (T := T_M) (N := 41) hx hb (k_M Z hU args) (fun _ h => h) hown hK rfl (by decide) (cr_w Z w_843 rfl hU args) (fun _ h => h) d_M_spans_70 rfl) ?_
  refine cr_cons (cr_iload_n_ok hx hb d_M_spans_73 rfl rfl) ?_
  refine cr_cons (cr_iald_ok (t0 := 0) hx hb hK rfl d_M_spans_74 rfl) ?_
  refine cr_cons (cr_aload_n_ok hx hb d_M_spans_75 rfl rfl) ?_
  refine cr_cons (cr_getf_ok (C := R_M) (T := T_M) (N := 41) hx hb (k_M Z hU args) (fun _ h => h) hown hK rfl (by decide) (cr_w Z w_844 rfl hU args) (fun _ h => h) d_M_spans_76 rfl) ?_
  refine cr_cons (cr_iload_n_ok hx hb d_M_spans_79 rfl rfl) ?_
  refine cr_cons (cr_iald_ok (t0 := 0) hx hb hK rfl d_M_spans_80 rfl) ?_
  refine cr_cons (cr_icle_ok hx hb d_M_spans_81 (by decide) rfl) ?_
  refine cr_cons (cr_iload_ok hx hb d_M_spans_84 rfl) ?_
  refine cr_cons (cr_ifne_ok hx hb d_M_spans_86 (by decide) rfl) ?_
  refine cr_cons (cr_iload_ok hx hb d_M_spans_89 rfl) ?_
  refine cr_cons (cr_ifeq_ok hx hb d_M_spans_91 (by decide) rfl) ?_
  refine cr_cons (cr_iconst_ok hx hb d_M_spans_94 (by decide) rfl) ?_
  refine cr_cons (cr_goto_ok hx hb d_M_spans_95 (by decide)) ?_
  refine cr_cons (cr_iconst_ok hx hb d_M_spans_98 (by decide) rfl) ?_
  refine cr_cons (cr_istore_ok hx hb d_M_spans_99 rfl) ?_
  refine cr_cons (cr_iload_ok hx hb d_M_spans_101 rfl) ?_
  refine cr_cons (cr_ifeq_ok hx hb d_M_spans_103 (by decide) rfl) ?_
  refine cr_cons (cr_aload_n_ok hx hb d_M_spans_106 rfl rfl) ?_
  refine cr_cons (cr_getf_ok (C := R_M) (T := T_M) (N := 41) hx hb (k_M Z hU args) (fun _ h => h) hown hK rfl (by decide) (cr_w Z w_841 rfl hU args) (fun _ h => h) d_M_spans_107 rfl) ?_
  refine cr_cons (cr_iload_n_ok hx hb d_M_spans_110 rfl rfl) ?_
  refine cr_cons (cr_iald_ok (t0 := 0) hx hb hK rfl d_M_spans_111 rfl) ?_
  exact cr_nil
set_option maxHeartbeats 4000000 in
set_option maxRecDepth 20000 in
theorem s_M_spans_2 {p : Program} {l : Launch} {e : Env} {R : Room} {s : State} {m : MethodId} {args : Array Value} {below : List Frame} {meth : Method} {c : Code} {s0 : State} {D : va_G} {ca : Nat → ClassId} {e0 d mc ms : Nat} {Q : cr_Q} (hl : l.flags = flags0) (Z : cr_Z0 s0 D ca e0) (C : cr_C p R s m meth c (cr_W0 s0) s0.heap.size y_M_spans c_M_spans 8 (Option.some FieldType.boolean) d mc ms) (hem : c.exceptionTable.toList = []) : ∀ x ∈ t_M_spans_2 l s0 D ca e0 d mc ms, cr_Snd p l e R s m args below meth c s0.heap.size mc ms Q x.1 x.2 := by
  obtain ⟨hx, hb, hml, hown, hr, hlk, hnm, hU, hlo, hR⟩ := C
  have hK := cr_Z0K Z hU
  have hRc : R.cells = mc := by rw [hR]; rfl
  have hRs : R.slots = ms := by rw [hR]; rfl
  unfold t_M_spans_2
  refine cr_cons (cr_iload_n_ok hx hb d_M_spans_112 rfl rfl) ?_
  refine cr_cons (cr_icne_ok hx hb d_M_spans_113 (by decide) rfl) ?_
  refine cr_cons (cr_aload_n_ok hx hb d_M_spans_116 rfl rfl) ?_
  refine cr_cons (cr_getf_ok (C := R_M) (T := T_M) (N := 41) hx hb (k_M Z hU args) (fun _ h => h) hown hK rfl (by decide) (cr_w Z w_842 rfl hU args) (fun _ h => h) d_M_spans_117 rfl) ?_
  refine cr_cons (cr_iload_n_ok hx hb d_M_spans_120 rfl rfl) ?_
  refine cr_cons (cr_iald_ok (t0 := 0) hx hb hK rfl d_M_spans_121 rfl) ?_
  refine cr_cons (cr_iload_n_ok hx hb d_M_spans_122 rfl rfl) ?_
  refine cr_cons (cr_icne_ok hx hb d_M_spans_123 (by decide) rfl) ?_
  refine cr_cons (cr_iconst_ok hx hb d_M_spans_126 (by decide) rfl) ?_
  refine cr_cons (cr_goto_ok hx hb d_M_spans_127 (by decide)) ?_
  refine cr_cons (cr_iconst_ok hx hb d_M_spans_130 (by decide) rfl) ?_
  refine cr_cons (cr_zret_ok hx hb hr hlk d_M_spans_131) ?_
  exact cr_nil
theorem s_M_spans {p : Program} {l : Launch} {e : Env} {R : Room} {s : State} {m : MethodId} {args : Array Value} {below : List Frame} {meth : Method} {c : Code} {s0 : State} {D : va_G} {ca : Nat → ClassId} {e0 d mc ms : Nat} {Q : cr_Q} (hl : l.flags = flags0) (Z : cr_Z0 s0 D ca e0) (C : cr_C p R s m meth c (cr_W0 s0) s0.heap.size y_M_spans c_M_spans 8 (Option.some FieldType.boolean) d mc ms) (hem : c.exceptionTable.toList = []) : ∀ x ∈ t_M_spans l s0 D ca e0 d mc ms, cr_Snd p l e R s m args below meth c s0.heap.size mc ms Q x.1 x.2 := cr_app (s_M_spans_0 hl Z C hem) (cr_app (s_M_spans_1 hl Z C hem) (s_M_spans_2 hl Z C hem))
theorem d_M_let_0 : decode c_M_let 0 = .ok (.bipush 10, 2) := by decide +kernel
theorem d_M_let_2 : decode c_M_let 2 = .ok (.aload_n 0, 1) := by decide +kernel
theorem d_M_let_3 : decode c_M_let 3 = .ok (.getfield 47, 3) := by decide +kernel
theorem d_M_let_6 : decode c_M_let 6 = .ok (.aload_n 0, 1) := by decide +kernel
theorem d_M_let_7 : decode c_M_let 7 = .ok (.getfield 53, 3) := by decide +kernel
theorem d_M_let_10 : decode c_M_let 10 = .ok (.iload_n 1, 1) := by decide +kernel
theorem d_M_let_11 : decode c_M_let 11 = .ok (.iaload, 1) := by decide +kernel
theorem d_M_let_12 : decode c_M_let 12 = .ok (.iaload, 1) := by decide +kernel
theorem d_M_let_13 : decode c_M_let 13 = .ok (.imul, 1) := by decide +kernel
theorem d_M_let_14 : decode c_M_let 14 = .ok (.aload_n 0, 1) := by decide +kernel
theorem d_M_let_15 : decode c_M_let 15 = .ok (.getfield 7, 3) := by decide +kernel
theorem d_M_let_18 : decode c_M_let 18 = .ok (.iload_n 3, 1) := by decide +kernel
theorem d_M_let_19 : decode c_M_let 19 = .ok (.iaload, 1) := by decide +kernel
theorem d_M_let_20 : decode c_M_let 20 = .ok (.iadd, 1) := by decide +kernel
theorem d_M_let_21 : decode c_M_let 21 = .ok (.sipush 1440, 3) := by decide +kernel
theorem d_M_let_24 : decode c_M_let 24 = .ok (.imul, 1) := by decide +kernel
theorem d_M_let_25 : decode c_M_let 25 = .ok (.iload 4, 2) := by decide +kernel
theorem d_M_let_27 : decode c_M_let 27 = .ok (.sipush 1440, 3) := by decide +kernel
theorem d_M_let_30 : decode c_M_let 30 = .ok (.irem, 1) := by decide +kernel
theorem d_M_let_31 : decode c_M_let 31 = .ok (.iadd, 1) := by decide +kernel
theorem d_M_let_32 : decode c_M_let 32 = .ok (.istore 5, 2) := by decide +kernel
theorem d_M_let_34 : decode c_M_let 34 = .ok (.iconst 1, 1) := by decide +kernel
theorem d_M_let_35 : decode c_M_let 35 = .ok (.istore 6, 2) := by decide +kernel
theorem d_M_let_37 : decode c_M_let 37 = .ok (.iconst 0, 1) := by decide +kernel
theorem d_M_let_38 : decode c_M_let 38 = .ok (.istore 7, 2) := by decide +kernel
theorem d_M_let_40 : decode c_M_let 40 = .ok (.iload 7, 2) := by decide +kernel
theorem d_M_let_42 : decode c_M_let 42 = .ok (.aload_n 0, 1) := by decide +kernel
theorem d_M_let_43 : decode c_M_let 43 = .ok (.getfield 162, 3) := by decide +kernel
theorem d_M_let_46 : decode c_M_let 46 = .ok (.if_icmp .ge 33, 3) := by decide +kernel
theorem d_M_let_49 : decode c_M_let 49 = .ok (.iload 6, 2) := by decide +kernel
theorem d_M_let_51 : decode c_M_let 51 = .ok (.ifCond .eq 19, 3) := by decide +kernel
theorem d_M_let_54 : decode c_M_let 54 = .ok (.aload_n 0, 1) := by decide +kernel
theorem d_M_let_55 : decode c_M_let 55 = .ok (.getfield 83, 3) := by decide +kernel
theorem d_M_let_58 : decode c_M_let 58 = .ok (.iload 7, 2) := by decide +kernel
theorem d_M_let_60 : decode c_M_let 60 = .ok (.iaload, 1) := by decide +kernel
theorem d_M_let_61 : decode c_M_let 61 = .ok (.iload 5, 2) := by decide +kernel
theorem d_M_let_63 : decode c_M_let 63 = .ok (.if_icmp .eq 7, 3) := by decide +kernel
theorem d_M_let_66 : decode c_M_let 66 = .ok (.iconst 1, 1) := by decide +kernel
theorem d_M_let_67 : decode c_M_let 67 = .ok (.goto 4, 3) := by decide +kernel
theorem d_M_let_70 : decode c_M_let 70 = .ok (.iconst 0, 1) := by decide +kernel
theorem d_M_let_71 : decode c_M_let 71 = .ok (.istore 6, 2) := by decide +kernel
theorem d_M_let_73 : decode c_M_let 73 = .ok (.iinc 7 1, 3) := by decide +kernel
theorem d_M_let_76 : decode c_M_let 76 = .ok (.goto (-36), 3) := by decide +kernel
theorem d_M_let_79 : decode c_M_let 79 = .ok (.iload 6, 2) := by decide +kernel
theorem d_M_let_81 : decode c_M_let 81 = .ok (.ifCond .eq 24, 3) := by decide +kernel
theorem d_M_let_84 : decode c_M_let 84 = .ok (.aload_n 0, 1) := by decide +kernel
theorem d_M_let_85 : decode c_M_let 85 = .ok (.getfield 83, 3) := by decide +kernel
theorem d_M_let_88 : decode c_M_let 88 = .ok (.aload_n 0, 1) := by decide +kernel
theorem d_M_let_89 : decode c_M_let 89 = .ok (.getfield 162, 3) := by decide +kernel
theorem d_M_let_92 : decode c_M_let 92 = .ok (.iload 5, 2) := by decide +kernel
theorem d_M_let_94 : decode c_M_let 94 = .ok (.iastore, 1) := by decide +kernel
theorem d_M_let_95 : decode c_M_let 95 = .ok (.aload_n 0, 1) := by decide +kernel
theorem d_M_let_96 : decode c_M_let 96 = .ok (.dup, 1) := by decide +kernel
theorem d_M_let_97 : decode c_M_let 97 = .ok (.getfield 162, 3) := by decide +kernel
theorem d_M_let_100 : decode c_M_let 100 = .ok (.iconst 1, 1) := by decide +kernel
theorem d_M_let_101 : decode c_M_let 101 = .ok (.iadd, 1) := by decide +kernel
theorem d_M_let_102 : decode c_M_let 102 = .ok (.putfield 162, 3) := by decide +kernel
theorem d_M_let_105 : decode c_M_let 105 = .ok (.aload_n 0, 1) := by decide +kernel
theorem d_M_let_106 : decode c_M_let 106 = .ok (.getfield 29, 3) := by decide +kernel
theorem d_M_let_109 : decode c_M_let 109 = .ok (.iload_n 2, 1) := by decide +kernel
theorem d_M_let_110 : decode c_M_let 110 = .ok (.iaload, 1) := by decide +kernel
theorem d_M_let_111 : decode c_M_let 111 = .ok (.sipush 9000, 3) := by decide +kernel
theorem d_M_let_114 : decode c_M_let 114 = .ok (.if_icmp .ne 16, 3) := by decide +kernel
theorem d_M_let_117 : decode c_M_let 117 = .ok (.aload_n 0, 1) := by decide +kernel
theorem d_M_let_118 : decode c_M_let 118 = .ok (.getfield 50, 3) := by decide +kernel
theorem d_M_let_121 : decode c_M_let 121 = .ok (.aload_n 0, 1) := by decide +kernel
theorem d_M_let_122 : decode c_M_let 122 = .ok (.getfield 53, 3) := by decide +kernel
theorem d_M_let_125 : decode c_M_let 125 = .ok (.iload_n 1, 1) := by decide +kernel
theorem d_M_let_126 : decode c_M_let 126 = .ok (.iaload, 1) := by decide +kernel
theorem d_M_let_127 : decode c_M_let 127 = .ok (.iload_n 3, 1) := by decide +kernel
theorem d_M_let_128 : decode c_M_let 128 = .ok (.iastore, 1) := by decide +kernel
theorem d_M_let_129 : decode c_M_let 129 = .ok (.return_, 1) := by decide +kernel
theorem d_M_let_130 : decode c_M_let 130 = .ok (.bipush 50, 2) := by decide +kernel
theorem d_M_let_132 : decode c_M_let 132 = .ok (.iload_n 2, 1) := by decide +kernel
theorem d_M_let_133 : decode c_M_let 133 = .ok (.imul, 1) := by decide +kernel
theorem d_M_let_134 : decode c_M_let 134 = .ok (.aload_n 0, 1) := by decide +kernel
theorem d_M_let_135 : decode c_M_let 135 = .ok (.getfield 35, 3) := by decide +kernel
theorem d_M_let_138 : decode c_M_let 138 = .ok (.iload_n 2, 1) := by decide +kernel
theorem d_M_let_139 : decode c_M_let 139 = .ok (.iaload, 1) := by decide +kernel
theorem d_M_let_140 : decode c_M_let 140 = .ok (.iadd, 1) := by decide +kernel
theorem d_M_let_141 : decode c_M_let 141 = .ok (.istore 7, 2) := by decide +kernel
theorem d_M_let_143 : decode c_M_let 143 = .ok (.aload_n 0, 1) := by decide +kernel
theorem d_M_let_144 : decode c_M_let 144 = .ok (.getfield 38, 3) := by decide +kernel
theorem d_M_let_147 : decode c_M_let 147 = .ok (.iload 7, 2) := by decide +kernel
theorem d_M_let_149 : decode c_M_let 149 = .ok (.iload_n 1, 1) := by decide +kernel
theorem d_M_let_150 : decode c_M_let 150 = .ok (.iastore, 1) := by decide +kernel
theorem d_M_let_151 : decode c_M_let 151 = .ok (.aload_n 0, 1) := by decide +kernel
theorem d_M_let_152 : decode c_M_let 152 = .ok (.getfield 41, 3) := by decide +kernel
theorem d_M_let_155 : decode c_M_let 155 = .ok (.iload 7, 2) := by decide +kernel
theorem d_M_let_157 : decode c_M_let 157 = .ok (.iload_n 3, 1) := by decide +kernel
theorem d_M_let_158 : decode c_M_let 158 = .ok (.iastore, 1) := by decide +kernel
theorem d_M_let_159 : decode c_M_let 159 = .ok (.aload_n 0, 1) := by decide +kernel
theorem d_M_let_160 : decode c_M_let 160 = .ok (.getfield 44, 3) := by decide +kernel
theorem d_M_let_163 : decode c_M_let 163 = .ok (.iload 7, 2) := by decide +kernel
theorem d_M_let_165 : decode c_M_let 165 = .ok (.iload 4, 2) := by decide +kernel
theorem d_M_let_167 : decode c_M_let 167 = .ok (.iastore, 1) := by decide +kernel
theorem d_M_let_168 : decode c_M_let 168 = .ok (.aload_n 0, 1) := by decide +kernel
theorem d_M_let_169 : decode c_M_let 169 = .ok (.getfield 35, 3) := by decide +kernel
theorem d_M_let_172 : decode c_M_let 172 = .ok (.iload_n 2, 1) := by decide +kernel
theorem d_M_let_173 : decode c_M_let 173 = .ok (.dup2, 1) := by decide +kernel
theorem d_M_let_174 : decode c_M_let 174 = .ok (.iaload, 1) := by decide +kernel
theorem d_M_let_175 : decode c_M_let 175 = .ok (.iconst 1, 1) := by decide +kernel
theorem d_M_let_176 : decode c_M_let 176 = .ok (.iadd, 1) := by decide +kernel
theorem d_M_let_177 : decode c_M_let 177 = .ok (.iastore, 1) := by decide +kernel
theorem d_M_let_178 : decode c_M_let 178 = .ok (.return_, 1) := by decide +kernel
def t_M_let_0 (l : Launch) (s0 : State) (D : va_G) (ca : Nat → ClassId) (e0 d mc ms : Nat) : List (Nat × cr_T) := [(0, cr_push (.int 10) 2),
  (2, cr_aload 0 3),
  (3, cr_getf D kc 11 17 6),
  (6, cr_aload 0 7),
  (7, cr_getf D kc 11 20 10),
  (10, cr_iload 1 11),
  (11, cr_iald D kc (ca 0) 12),
  (12, cr_iald D kc (ca 0) 13),
  (13, cr_imul 14),
  (14, cr_aload 0 15),
  (15, cr_getf D kc 11 3 18),
  (18, cr_iload 3 19),
  (19, cr_iald D kc (ca 0) 20),
  (20, cr_iadd 21),
  (21, cr_push (.int 1440) 24),
  (24, cr_imul 25),
  (25, cr_iload 4 27),
  (27, cr_push (.int 1440) 30),
  (30, cr_irem 31),
  (31, cr_iadd 32),
  (32, cr_istore 5 34),
  (34, cr_push (.int 1) 35),
  (35, cr_istore 6 37),
  (37, cr_push (.int 0) 38),
  (38, cr_istore 7 40),
  (40, cr_iload 7 42),
  (42, cr_aload 0 43),
  (43, cr_getf D kc 11 32 46),
  (46, cr_icge 79 49),
  (49, cr_iload 6 51)]
def t_M_let_1 (l : Launch) (s0 : State) (D : va_G) (ca : Nat → ClassId) (e0 d mc ms : Nat) : List (Nat × cr_T) := [(51, cr_ifeq 70 54),
  (54, cr_aload 0 55),
  (55, cr_getf D kc 11 33 58),
  (58, cr_iload 7 60),
  (60, cr_iald D kc (ca 0) 61),
  (61, cr_iload 5 63),
  (63, cr_iceq 70 66),
  (66, cr_push (.int 1) 67),
  (67, cr_goto 71),
  (70, cr_push (.int 0) 71),
  (71, cr_istore 6 73),
  (73, cr_iinc 7 1 76),
  (76, cr_goto 40),
  (79, cr_iload 6 81),
  (81, cr_ifeq 105 84),
  (84, cr_aload 0 85),
  (85, cr_getf D kc 11 33 88),
  (88, cr_aload 0 89),
  (89, cr_getf D kc 11 32 92),
  (92, cr_iload 5 94),
  (94, cr_iast D kc s0.heap.size (ca 0) 95),
  (95, cr_aload 0 96),
  (96, cr_dup 97),
  (97, cr_getf D kc 11 32 100),
  (100, cr_push (.int 1) 101),
  (101, cr_iadd 102),
  (102, cr_putf D kc s0.heap.size 11 32 .int 105),
  (105, cr_aload 0 106),
  (106, cr_getf D kc 11 10 109),
  (109, cr_iload 2 110)]
def t_M_let_2 (l : Launch) (s0 : State) (D : va_G) (ca : Nat → ClassId) (e0 d mc ms : Nat) : List (Nat × cr_T) := [(110, cr_iald D kc (ca 0) 111),
  (111, cr_push (.int 9000) 114),
  (114, cr_icne 130 117),
  (117, cr_aload 0 118),
  (118, cr_getf D kc 11 18 121),
  (121, cr_aload 0 122),
  (122, cr_getf D kc 11 20 125),
  (125, cr_iload 1 126),
  (126, cr_iald D kc (ca 0) 127),
  (127, cr_iload 3 128),
  (128, cr_iast D kc s0.heap.size (ca 0) 129),
  (129, cr_vret mc ms),
  (130, cr_push (.int 50) 132),
  (132, cr_iload 2 133),
  (133, cr_imul 134),
  (134, cr_aload 0 135),
  (135, cr_getf D kc 11 12 138),
  (138, cr_iload 2 139),
  (139, cr_iald D kc (ca 0) 140),
  (140, cr_iadd 141),
  (141, cr_istore 7 143),
  (143, cr_aload 0 144),
  (144, cr_getf D kc 11 13 147),
  (147, cr_iload 7 149),
  (149, cr_iload 1 150),
  (150, cr_iast D kc s0.heap.size (ca 0) 151),
  (151, cr_aload 0 152),
  (152, cr_getf D kc 11 14 155),
  (155, cr_iload 7 157),
  (157, cr_iload 3 158)]
def t_M_let_3 (l : Launch) (s0 : State) (D : va_G) (ca : Nat → ClassId) (e0 d mc ms : Nat) : List (Nat × cr_T) := [(158, cr_iast D kc s0.heap.size (ca 0) 159),
  (159, cr_aload 0 160),
  (160, cr_getf D kc 11 15 163),
  (163, cr_iload 7 165),
  (165, cr_iload 4 167),
  (167, cr_iast D kc s0.heap.size (ca 0) 168),
  (168, cr_aload 0 169),
  (169, cr_getf D kc 11 12 172),
  (172, cr_iload 2 173),
  (173, cr_dup2 174),
  (174, cr_iald D kc (ca 0) 175),
  (175, cr_push (.int 1) 176),
  (176, cr_iadd 177),
  (177, cr_iast D kc s0.heap.size (ca 0) 178),
  (178, cr_vret mc ms)]
def t_M_let (l : Launch) (s0 : State) (D : va_G) (ca : Nat → ClassId) (e0 d mc ms : Nat) : List (Nat × cr_T) := t_M_let_0 l s0 D ca e0 d mc ms ++ (t_M_let_1 l s0 D ca e0 d mc ms ++ (t_M_let_2 l s0 D ca e0 d mc ms ++ (t_M_let_3 l s0 D ca e0 d mc ms)))
set_option maxHeartbeats 4000000 in
set_option maxRecDepth 20000 in
theorem s_M_let_0 {p : Program} {l : Launch} {e : Env} {R : Room} {s : State} {m : MethodId} {args : Array Value} {below : List Frame} {meth : Method} {c : Code} {s0 : State} {D : va_G} {ca : Nat → ClassId} {e0 d mc ms : Nat} {Q : cr_Q} (hl : l.flags = flags0) (Z : cr_Z0 s0 D ca e0) (C : cr_C p R s m meth c (cr_W0 s0) s0.heap.size y_M_let c_M_let 8 (Option.none : Option FieldType) d mc ms) (hem : c.exceptionTable.toList = []) : ∀ x ∈ t_M_let_0 l s0 D ca e0 d mc ms, cr_Snd p l e R s m args below meth c s0.heap.size mc ms Q x.1 x.2 := by
  obtain ⟨hx, hb, hml, hown, hr, hlk, hnm, hU, hlo, hR⟩ := C
  have hK := cr_Z0K Z hU
  have hRc : R.cells = mc := by rw [hR]; rfl
  have hRs : R.slots = ms := by rw [hR]; rfl
  unfold t_M_let_0
  refine cr_cons (cr_bipush_ok hx hb d_M_let_0 (by decide) rfl) ?_
  refine cr_cons (cr_aload_n_ok hx hb d_M_let_2 rfl rfl) ?_
  refine cr_cons (cr_getf_ok (C := R_M) (T := T_M) (N := 41) hx hb (k_M Z hU args) (fun _ h => h) hown hK rfl (by decide) (cr_w Z w_835 rfl hU args) (fun _ h => h) d_M_let_3 rfl) ?_
  refine cr_cons (cr_aload_n_ok hx hb d_M_let_6 rfl rfl) ?_
  refine cr_cons (cr_getf_ok (C := R_M) (T := T_M) (N := 41) hx hb (k_M Z hU args) (fun _ h => h) hown hK rfl (by decide) (cr_w Z w_838 rfl hU args) (fun _ h => h) d_M_let_7 rfl) ?_
  refine cr_cons (cr_iload_n_ok hx hb d_M_let_10 rfl rfl) ?_
  refine cr_cons (cr_iald_ok (t0 := 0) hx hb hK rfl d_M_let_11 rfl) ?_
  refine cr_cons (cr_iald_ok (t0 := 0) hx hb hK rfl d_M_let_12 rfl) ?_
  refine cr_cons (cr_imul_ok hx hb d_M_let_13 rfl) ?_
  refine cr_cons (cr_aload_n_ok hx hb d_M_let_14 rfl rfl) ?_
  refine cr_cons (cr_getf_ok (C := R_M) (T := T_M) (N := 41) hx hb (k_M Z hU args) (fun _ h => h) hown hK rfl (by decide) (cr_w Z w_821 rfl hU args) (fun _ h => h) d_M_let_15 rfl) ?_
  refine cr_cons (cr_iload_n_ok hx hb d_M_let_18 rfl rfl) ?_
  refine cr_cons (cr_iald_ok (t0 := 0) hx hb hK rfl d_M_let_19 rfl) ?_
  refine cr_cons (cr_iadd_ok hx hb d_M_let_20 rfl) ?_
  refine cr_cons (cr_sipush_ok hx hb d_M_let_21 (by decide) rfl) ?_
  refine cr_cons (cr_imul_ok hx hb d_M_let_24 rfl) ?_
  refine cr_cons (cr_iload_ok hx hb d_M_let_25 rfl) ?_
  refine cr_cons (cr_sipush_ok hx hb d_M_let_27 (by decide) rfl) ?_
  refine cr_cons (cr_irem_ok hx hb d_M_let_30 rfl) ?_
  refine cr_cons (cr_iadd_ok hx hb d_M_let_31 rfl) ?_
  refine cr_cons (cr_istore_ok hx hb d_M_let_32 rfl) ?_
  refine cr_cons (cr_iconst_ok hx hb d_M_let_34 (by decide) rfl) ?_
  refine cr_cons (cr_istore_ok hx hb d_M_let_35 rfl) ?_
  refine cr_cons (cr_iconst_ok hx hb d_M_let_37 (by decide) rfl) ?_
  refine cr_cons (cr_istore_ok hx hb d_M_let_38 rfl) ?_
  refine cr_cons (cr_iload_ok hx hb d_M_let_40 rfl) ?_
  refine cr_cons (cr_aload_n_ok hx hb d_M_let_42 rfl rfl) ?_
  refine cr_cons (cr_getf_ok (C := R_M) (T := T_M) (N := 41) hx hb (k_M Z hU args) (fun _ h => h) hown hK rfl (by decide) (cr_w Z w_850 rfl hU args) (fun _ h => h) d_M_let_43 rfl) ?_
  refine cr_cons (cr_icge_ok hx hb d_M_let_46 (by decide) rfl) ?_
  refine cr_cons (cr_iload_ok hx hb d_M_let_49 rfl) ?_
  exact cr_nil
set_option maxHeartbeats 4000000 in
set_option maxRecDepth 20000 in
theorem s_M_let_1 {p : Program} {l : Launch} {e : Env} {R : Room} {s : State} {m : MethodId} {args : Array Value} {below : List Frame} {meth : Method} {c : Code} {s0 : State} {D : va_G} {ca : Nat → ClassId} {e0 d mc ms : Nat} {Q : cr_Q} (hl : l.flags = flags0) (Z : cr_Z0 s0 D ca e0) (C : cr_C p R s m meth c (cr_W0 s0) s0.heap.size y_M_let c_M_let 8 (Option.none : Option FieldType) d mc ms) (hem : c.exceptionTable.toList = []) : ∀ x ∈ t_M_let_1 l s0 D ca e0 d mc ms, cr_Snd p l e R s m args below meth c s0.heap.size mc ms Q x.1 x.2 := by
  obtain ⟨hx, hb, hml, hown, hr, hlk, hnm, hU, hlo, hR⟩ := C
  have hK := cr_Z0K Z hU
  have hRc : R.cells = mc := by rw [hR]; rfl
  have hRs : R.slots = ms := by rw [hR]; rfl
  unfold t_M_let_1
  refine cr_cons (cr_ifeq_ok hx hb d_M_let_51 (by decide) rfl) ?_
  refine cr_cons (cr_aload_n_ok hx hb d_M_let_54 rfl rfl) ?_
  refine cr_cons (cr_getf_ok (C := R_M) (T := T_M) (N := 41) hx hb (k_M Z hU args) (fun _ h => h) hown hK rfl (by decide) (cr_w Z w_851 rfl hU args) (fun _ h => h) d_M_let_55 rfl) ?_
  refine cr_cons (cr_iload_ok hx hb d_M_let_58 rfl) ?_
  refine cr_cons (cr_iald_ok (t0 := 0) hx hb hK rfl d_M_let_60 rfl) ?_
  refine cr_cons (cr_iload_ok hx hb d_M_let_61 rfl) ?_
  refine cr_cons (cr_iceq_ok hx hb d_M_let_63 (by decide) rfl) ?_
  refine cr_cons (cr_iconst_ok hx hb d_M_let_66 (by decide) rfl) ?_
  refine cr_cons (cr_goto_ok hx hb d_M_let_67 (by decide)) ?_
  refine cr_cons (cr_iconst_ok hx hb d_M_let_70 (by decide) rfl) ?_
  refine cr_cons (cr_istore_ok hx hb d_M_let_71 rfl) ?_
  refine cr_cons (cr_iinc_ok hx hb d_M_let_73 (by decide) rfl) ?_
  refine cr_cons (cr_goto_ok hx hb d_M_let_76 (by decide)) ?_
  refine cr_cons (cr_iload_ok hx hb d_M_let_79 rfl) ?_
  refine cr_cons (cr_ifeq_ok hx hb d_M_let_81 (by decide) rfl) ?_
  refine cr_cons (cr_aload_n_ok hx hb d_M_let_84 rfl rfl) ?_
  refine cr_cons (cr_getf_ok (C := R_M) (T := T_M) (N := 41) hx hb (k_M Z hU args) (fun _ h => h) hown hK rfl (by decide) (cr_w Z w_851 rfl hU args) (fun _ h => h) d_M_let_85 rfl) ?_
  refine cr_cons (cr_aload_n_ok hx hb d_M_let_88 rfl rfl) ?_
  refine cr_cons (cr_getf_ok (C := R_M) (T := T_M) (N := 41) hx hb (k_M Z hU args) (fun _ h => h) hown hK rfl (by decide) (cr_w Z w_850 rfl hU args) (fun _ h => h) d_M_let_89 rfl) ?_
  refine cr_cons (cr_iload_ok hx hb d_M_let_92 rfl) ?_
  refine cr_cons (cr_iast_ok (t0 := 0) hx hb hK rfl d_M_let_94 rfl) ?_
  refine cr_cons (cr_aload_n_ok hx hb d_M_let_95 rfl rfl) ?_
  refine cr_cons (cr_dup_ok hx hb d_M_let_96 rfl) ?_
  refine cr_cons (cr_getf_ok (C := R_M) (T := T_M) (N := 41) hx hb (k_M Z hU args) (fun _ h => h) hown hK rfl (by decide) (cr_w Z w_850 rfl hU args) (fun _ h => h) d_M_let_97 rfl) ?_
  refine cr_cons (cr_iconst_ok hx hb d_M_let_100 (by decide) rfl) ?_
  refine cr_cons (cr_iadd_ok hx hb d_M_let_101 rfl) ?_
  refine cr_cons (cr_putf_ok (C := R_M) (T := T_M) (N := 41) tt_M hx hb (k_M Z hU args) (fun _ h => h) ty_M nm_M hown hK rfl (by decide) (Or.inl (cr_w Z w_850 rfl hU args)) (fun _ h => h) rfl (by decide +kernel) d_M_let_102 rfl) ?_
  refine cr_cons (cr_aload_n_ok hx hb d_M_let_105 rfl rfl) ?_
  refine cr_cons (cr_getf_ok (C := R_M) (T := T_M) (N := 41) hx hb (k_M Z hU args) (fun _ h => h) hown hK rfl (by decide) (cr_w Z w_828 rfl hU args) (fun _ h => h) d_M_let_106 rfl) ?_
  refine cr_cons (cr_iload_n_ok hx hb d_M_let_109 rfl rfl) ?_
  exact cr_nil
set_option maxHeartbeats 4000000 in
set_option maxRecDepth 20000 in
theorem s_M_let_2 {p : Program} {l : Launch} {e : Env} {R : Room} {s : State} {m : MethodId} {args : Array Value} {below : List Frame} {meth : Method} {c : Code} {s0 : State} {D : va_G} {ca : Nat → ClassId} {e0 d mc ms : Nat} {Q : cr_Q} (hl : l.flags = flags0) (Z : cr_Z0 s0 D ca e0) (C : cr_C p R s m meth c (cr_W0 s0) s0.heap.size y_M_let c_M_let 8 (Option.none : Option FieldType) d mc ms) (hem : c.exceptionTable.toList = []) : ∀ x ∈ t_M_let_2 l s0 D ca e0 d mc ms, cr_Snd p l e R s m args below meth c s0.heap.size mc ms Q x.1 x.2 := by
  obtain ⟨hx, hb, hml, hown, hr, hlk, hnm, hU, hlo, hR⟩ := C
  have hK := cr_Z0K Z hU
  have hRc : R.cells = mc := by rw [hR]; rfl
  have hRs : R.slots = ms := by rw [hR]; rfl
  unfold t_M_let_2
  refine cr_cons (cr_iald_ok (t0 := 0) hx hb hK rfl d_M_let_110 rfl) ?_
  refine cr_cons (cr_sipush_ok hx hb d_M_let_111 (by decide) rfl) ?_
  refine cr_cons (cr_icne_ok hx hb d_M_let_114 (by decide) rfl) ?_
  refine cr_cons (cr_aload_n_ok hx hb d_M_let_117 rfl rfl) ?_
  refine cr_cons (cr_getf_ok (C := R_M) (T := T_M) (N := 41) hx hb (k_M Z hU args) (fun _ h => h) hown hK rfl (by decide) (cr_w Z w_836 rfl hU args) (fun _ h => h) d_M_let_118 rfl) ?_
  refine cr_cons (cr_aload_n_ok hx hb d_M_let_121 rfl rfl) ?_
  refine cr_cons (cr_getf_ok (C := R_M) (T := T_M) (N := 41) hx hb (k_M Z hU args) (fun _ h => h) hown hK rfl (by decide) (cr_w Z w_838 rfl hU args) (fun _ h => h) d_M_let_122 rfl) ?_
  refine cr_cons (cr_iload_n_ok hx hb d_M_let_125 rfl rfl) ?_
  refine cr_cons (cr_iald_ok (t0 := 0) hx hb hK rfl d_M_let_126 rfl) ?_
  refine cr_cons (cr_iload_n_ok hx hb d_M_let_127 rfl rfl) ?_
  refine cr_cons (cr_iast_ok (t0 := 0) hx hb hK rfl d_M_let_128 rfl) ?_
  refine cr_cons (cr_vret_ok hx hb hr hlk d_M_let_129) ?_
  refine cr_cons (cr_bipush_ok hx hb d_M_let_130 (by decide) rfl) ?_
  refine cr_cons (cr_iload_n_ok hx hb d_M_let_132 rfl rfl) ?_
  refine cr_cons (cr_imul_ok hx hb d_M_let_133 rfl) ?_
  refine cr_cons (cr_aload_n_ok hx hb d_M_let_134 rfl rfl) ?_
  refine cr_cons (cr_getf_ok (C := R_M) (T := T_M) (N := 41) hx hb (k_M Z hU args) (fun _ h => h) hown hK rfl (by decide) (cr_w Z w_830 rfl hU args) (fun _ h => h) d_M_let_135 rfl) ?_
  refine cr_cons (cr_iload_n_ok hx hb d_M_let_138 rfl rfl) ?_
  refine cr_cons (cr_iald_ok (t0 := 0) hx hb hK rfl d_M_let_139 rfl) ?_
  refine cr_cons (cr_iadd_ok hx hb d_M_let_140 rfl) ?_
  refine cr_cons (cr_istore_ok hx hb d_M_let_141 rfl) ?_
  refine cr_cons (cr_aload_n_ok hx hb d_M_let_143 rfl rfl) ?_
  refine cr_cons (cr_getf_ok (C := R_M) (T := T_M) (N := 41) hx hb (k_M Z hU args) (fun _ h => h) hown hK rfl (by decide) (cr_w Z w_831 rfl hU args) (fun _ h => h) d_M_let_144 rfl) ?_
  refine cr_cons (cr_iload_ok hx hb d_M_let_147 rfl) ?_
  refine cr_cons (cr_iload_n_ok hx hb d_M_let_149 rfl rfl) ?_
  refine cr_cons (cr_iast_ok (t0 := 0) hx hb hK rfl d_M_let_150 rfl) ?_
  refine cr_cons (cr_aload_n_ok hx hb d_M_let_151 rfl rfl) ?_
  refine cr_cons (cr_getf_ok (C := R_M) (T := T_M) (N := 41) hx hb (k_M Z hU args) (fun _ h => h) hown hK rfl (by decide) (cr_w Z w_832 rfl hU args) (fun _ h => h) d_M_let_152 rfl) ?_
  refine cr_cons (cr_iload_ok hx hb d_M_let_155 rfl) ?_
  refine cr_cons (cr_iload_n_ok hx hb d_M_let_157 rfl rfl) ?_
  exact cr_nil
set_option maxHeartbeats 4000000 in
set_option maxRecDepth 20000 in
theorem s_M_let_3 {p : Program} {l : Launch} {e : Env} {R : Room} {s : State} {m : MethodId} {args : Array Value} {below : List Frame} {meth : Method} {c : Code} {s0 : State} {D : va_G} {ca : Nat → ClassId} {e0 d mc ms : Nat} {Q : cr_Q} (hl : l.flags = flags0) (Z : cr_Z0 s0 D ca e0) (C : cr_C p R s m meth c (cr_W0 s0) s0.heap.size y_M_let c_M_let 8 (Option.none : Option FieldType) d mc ms) (hem : c.exceptionTable.toList = []) : ∀ x ∈ t_M_let_3 l s0 D ca e0 d mc ms, cr_Snd p l e R s m args below meth c s0.heap.size mc ms Q x.1 x.2 := by
  obtain ⟨hx, hb, hml, hown, hr, hlk, hnm, hU, hlo, hR⟩ := C
  have hK := cr_Z0K Z hU
  have hRc : R.cells = mc := by rw [hR]; rfl
  have hRs : R.slots = ms := by rw [hR]; rfl
  unfold t_M_let_3
  refine cr_cons (cr_iast_ok (t0 := 0) hx hb hK rfl d_M_let_158 rfl) ?_
  refine cr_cons (cr_aload_n_ok hx hb d_M_let_159 rfl rfl) ?_
  refine cr_cons (cr_getf_ok (C := R_M) (T := T_M) (N := 41) hx hb (k_M Z hU args) (fun _ h => h) hown hK rfl (by decide) (cr_w Z w_833 rfl hU args) (fun _ h => h) d_M_let_160 rfl) ?_
  refine cr_cons (cr_iload_ok hx hb d_M_let_163 rfl) ?_
  refine cr_cons (cr_iload_ok hx hb d_M_let_165 rfl) ?_
  refine cr_cons (cr_iast_ok (t0 := 0) hx hb hK rfl d_M_let_167 rfl) ?_
  refine cr_cons (cr_aload_n_ok hx hb d_M_let_168 rfl rfl) ?_
  refine cr_cons (cr_getf_ok (C := R_M) (T := T_M) (N := 41) hx hb (k_M Z hU args) (fun _ h => h) hown hK rfl (by decide) (cr_w Z w_830 rfl hU args) (fun _ h => h) d_M_let_169 rfl) ?_
  refine cr_cons (cr_iload_n_ok hx hb d_M_let_172 rfl rfl) ?_
  refine cr_cons (cr_dup2_ok hx hb d_M_let_173 rfl) ?_
  refine cr_cons (cr_iald_ok (t0 := 0) hx hb hK rfl d_M_let_174 rfl) ?_
  refine cr_cons (cr_iconst_ok hx hb d_M_let_175 (by decide) rfl) ?_
  refine cr_cons (cr_iadd_ok hx hb d_M_let_176 rfl) ?_
  refine cr_cons (cr_iast_ok (t0 := 0) hx hb hK rfl d_M_let_177 rfl) ?_
  refine cr_cons (cr_vret_ok hx hb hr hlk d_M_let_178) ?_
  exact cr_nil
theorem s_M_let {p : Program} {l : Launch} {e : Env} {R : Room} {s : State} {m : MethodId} {args : Array Value} {below : List Frame} {meth : Method} {c : Code} {s0 : State} {D : va_G} {ca : Nat → ClassId} {e0 d mc ms : Nat} {Q : cr_Q} (hl : l.flags = flags0) (Z : cr_Z0 s0 D ca e0) (C : cr_C p R s m meth c (cr_W0 s0) s0.heap.size y_M_let c_M_let 8 (Option.none : Option FieldType) d mc ms) (hem : c.exceptionTable.toList = []) : ∀ x ∈ t_M_let l s0 D ca e0 d mc ms, cr_Snd p l e R s m args below meth c s0.heap.size mc ms Q x.1 x.2 := cr_app (s_M_let_0 hl Z C hem) (cr_app (s_M_let_1 hl Z C hem) (cr_app (s_M_let_2 hl Z C hem) (s_M_let_3 hl Z C hem)))
