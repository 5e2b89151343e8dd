theorem d_M_refused_0 : decode c_M_refused 0 = .ok (.iload_n 3, 1) := by decide +kernel
theorem d_M_refused_1 : decode c_M_refused 1 = .ok (.aload_n 0, 1) := by decide +kernel
theorem d_M_refused_2 : decode c_M_refused 2 = .ok (.getfield 13, 3) := by decide +kernel
theorem d_M_refused_5 : decode c_M_refused 5 = .ok (.iload_n 2, 1) := by decide +kernel
theorem d_M_refused_6 : decode c_M_refused 6 = .ok (.iaload, 1) := by decide +kernel
theorem d_M_refused_7 : decode c_M_refused 7 = .ok (.if_icmp .ne 12, 3) := by decide +kernel
theorem d_M_refused_10 : decode c_M_refused 10 = .ok (.aload_n 0, 1) := by decide +kernel
theorem d_M_refused_11 : decode c_M_refused 11 = .ok (.getfield 16, 3) := by decide +kernel
theorem d_M_refused_14 : decode c_M_refused 14 = .ok (.iload_n 2, 1) := by decide +kernel
theorem d_M_refused_15 : decode c_M_refused 15 = .ok (.iaload, 1) := by decide +kernel
theorem d_M_refused_16 : decode c_M_refused 16 = .ok (.goto 9, 3) := by decide +kernel
theorem d_M_refused_19 : decode c_M_refused 19 = .ok (.aload_n 0, 1) := by decide +kernel
theorem d_M_refused_20 : decode c_M_refused 20 = .ok (.getfield 13, 3) := by decide +kernel
theorem d_M_refused_23 : decode c_M_refused 23 = .ok (.iload_n 2, 1) := by decide +kernel
theorem d_M_refused_24 : decode c_M_refused 24 = .ok (.iaload, 1) := by decide +kernel
theorem d_M_refused_25 : decode c_M_refused 25 = .ok (.istore 5, 2) := by decide +kernel
theorem d_M_refused_27 : decode c_M_refused 27 = .ok (.aload_n 0, 1) := by decide +kernel
theorem d_M_refused_28 : decode c_M_refused 28 = .ok (.iload_n 1, 1) := by decide +kernel
theorem d_M_refused_29 : decode c_M_refused 29 = .ok (.iload_n 3, 1) := by decide +kernel
theorem d_M_refused_30 : decode c_M_refused 30 = .ok (.iload 4, 2) := by decide +kernel
theorem d_M_refused_32 : decode c_M_refused 32 = .ok (.aload_n 0, 1) := by decide +kernel
theorem d_M_refused_33 : decode c_M_refused 33 = .ok (.getfield 29, 3) := by decide +kernel
theorem d_M_refused_36 : decode c_M_refused 36 = .ok (.iload_n 2, 1) := by decide +kernel
theorem d_M_refused_37 : decode c_M_refused 37 = .ok (.iaload, 1) := by decide +kernel
theorem d_M_refused_38 : decode c_M_refused 38 = .ok (.aload_n 0, 1) := by decide +kernel
theorem d_M_refused_39 : decode c_M_refused 39 = .ok (.getfield 29, 3) := by decide +kernel
theorem d_M_refused_42 : decode c_M_refused 42 = .ok (.iload_n 2, 1) := by decide +kernel
theorem d_M_refused_43 : decode c_M_refused 43 = .ok (.iaload, 1) := by decide +kernel
theorem d_M_refused_44 : decode c_M_refused 44 = .ok (.sipush 9000, 3) := by decide +kernel
theorem d_M_refused_47 : decode c_M_refused 47 = .ok (.if_icmp .ne 8, 3) := by decide +kernel
theorem d_M_refused_50 : decode c_M_refused 50 = .ok (.iload 5, 2) := by decide +kernel
theorem d_M_refused_52 : decode c_M_refused 52 = .ok (.goto 4, 3) := by decide +kernel
theorem d_M_refused_55 : decode c_M_refused 55 = .ok (.iconst (-1), 1) := by decide +kernel
theorem d_M_refused_56 : decode c_M_refused 56 = .ok (.invokevirtual 158, 3) := by decide +kernel
theorem d_M_refused_59 : decode c_M_refused 59 = .ok (.istore 6, 2) := by decide +kernel
theorem d_M_refused_61 : decode c_M_refused 61 = .ok (.iconst 0, 1) := by decide +kernel
theorem d_M_refused_62 : decode c_M_refused 62 = .ok (.istore 7, 2) := by decide +kernel
theorem d_M_refused_64 : decode c_M_refused 64 = .ok (.iload 7, 2) := by decide +kernel
theorem d_M_refused_66 : decode c_M_refused 66 = .ok (.aload_n 0, 1) := by decide +kernel
theorem d_M_refused_67 : decode c_M_refused 67 = .ok (.getfield 124, 3) := by decide +kernel
theorem d_M_refused_70 : decode c_M_refused 70 = .ok (.if_icmp .ge 47, 3) := by decide +kernel
theorem d_M_refused_73 : decode c_M_refused 73 = .ok (.iload 6, 2) := by decide +kernel
theorem d_M_refused_75 : decode c_M_refused 75 = .ok (.ifCond .ne 42, 3) := by decide +kernel
theorem d_M_refused_78 : decode c_M_refused 78 = .ok (.aload_n 0, 1) := by decide +kernel
theorem d_M_refused_79 : decode c_M_refused 79 = .ok (.getfield 32, 3) := by decide +kernel
theorem d_M_refused_82 : decode c_M_refused 82 = .ok (.bipush 30, 2) := by decide +kernel
theorem d_M_refused_84 : decode c_M_refused 84 = .ok (.iload_n 2, 1) := by decide +kernel
theorem d_M_refused_85 : decode c_M_refused 85 = .ok (.imul, 1) := by decide +kernel
theorem d_M_refused_86 : decode c_M_refused 86 = .ok (.iload 7, 2) := by decide +kernel
theorem d_M_refused_88 : decode c_M_refused 88 = .ok (.iadd, 1) := by decide +kernel
theorem d_M_refused_89 : decode c_M_refused 89 = .ok (.baload, 1) := by decide +kernel
theorem d_M_refused_90 : decode c_M_refused 90 = .ok (.ifCond .eq 18, 3) := by decide +kernel
theorem d_M_refused_93 : decode c_M_refused 93 = .ok (.aload_n 0, 1) := by decide +kernel
theorem d_M_refused_94 : decode c_M_refused 94 = .ok (.getfield 23, 3) := by decide +kernel
theorem d_M_refused_97 : decode c_M_refused 97 = .ok (.iload 7, 2) := by decide +kernel
theorem d_M_refused_99 : decode c_M_refused 99 = .ok (.baload, 1) := by decide +kernel
theorem d_M_refused_100 : decode c_M_refused 100 = .ok (.ifCond .eq 8, 3) := by decide +kernel
theorem d_M_refused_103 : decode c_M_refused 103 = .ok (.bipush 6, 2) := by decide +kernel
theorem d_M_refused_105 : decode c_M_refused 105 = .ok (.goto 4, 3) := by decide +kernel
theorem d_M_refused_108 : decode c_M_refused 108 = .ok (.iconst 0, 1) := by decide +kernel
theorem d_M_refused_109 : decode c_M_refused 109 = .ok (.istore 6, 2) := by decide +kernel
theorem d_M_refused_111 : decode c_M_refused 111 = .ok (.iinc 7 1, 3) := by decide +kernel
theorem d_M_refused_114 : decode c_M_refused 114 = .ok (.goto (-50), 3) := by decide +kernel
theorem d_M_refused_117 : decode c_M_refused 117 = .ok (.iload 6, 2) := by decide +kernel
theorem d_M_refused_119 : decode c_M_refused 119 = .ok (.ireturn, 1) := by decide +kernel
def t_M_refused_0 (l : Launch) (s0 : State) (D : va_G) (ca : Nat → ClassId) (e0 d mc ms : Nat) : List (Nat × cr_T) := [(0, cr_iload 3 1),
  (1, cr_aload 0 2),
  (2, cr_getf D kc 11 5 5),
  (5, cr_iload 2 6),
  (6, cr_iald D kc (ca 0) 7),
  (7, cr_icne 19 10),
  (10, cr_aload 0 11),
  (11, cr_getf D kc 11 6 14),
  (14, cr_iload 2 15),
  (15, cr_iald D kc (ca 0) 16),
  (16, cr_goto 25),
  (19, cr_aload 0 20),
  (20, cr_getf D kc 11 5 23),
  (23, cr_iload 2 24),
  (24, cr_iald D kc (ca 0) 25),
  (25, cr_istore 5 27),
  (27, cr_aload 0 28),
  (28, cr_iload 1 29),
  (29, cr_iload 3 30),
  (30, cr_iload 4 32),
  (32, cr_aload 0 33),
  (33, cr_getf D kc 11 10 36),
  (36, cr_iload 2 37),
  (37, cr_iald D kc (ca 0) 38),
  (38, cr_aload 0 39),
  (39, cr_getf D kc 11 10 42),
  (42, cr_iload 2 43),
  (43, cr_iald D kc (ca 0) 44),
  (44, cr_push (.int 9000) 47),
  (47, cr_icne 55 50)]
def t_M_refused_1 (l : Launch) (s0 : State) (D : va_G) (ca : Nat → ClassId) (e0 d mc ms : Nat) : List (Nat × cr_T) := [(50, cr_iload 5 52),
  (52, cr_goto 56),
  (55, cr_push (.int (-1)) 56),
  (56, cr_calV D kc l (cr_W0 s0) s0.heap.size 11 y_M_why cw_M_why d mc ms 5 8 59),
  (59, cr_istore 6 61),
  (61, cr_push (.int 0) 62),
  (62, cr_istore 7 64),
  (64, cr_iload 7 66),
  (66, cr_aload 0 67),
  (67, cr_getf D kc 11 4 70),
  (70, cr_icge 117 73),
  (73, cr_iload 6 75),
  (75, cr_ifne 117 78),
  (78, cr_aload 0 79),
  (79, cr_getf D kc 11 11 82),
  (82, cr_push (.int 30) 84),
  (84, cr_iload 2 85),
  (85, cr_imul 86),
  (86, cr_iload 7 88),
  (88, cr_iadd 89),
  (89, cr_zald D kc (ca 2) 90),
  (90, cr_ifeq 108 93),
  (93, cr_aload 0 94),
  (94, cr_getf D kc 11 8 97),
  (97, cr_iload 7 99),
  (99, cr_zald D kc (ca 2) 100),
  (100, cr_ifeq 108 103),
  (103, cr_push (.int 6) 105),
  (105, cr_goto 109),
  (108, cr_push (.int 0) 109)]
def t_M_refused_2 (l : Launch) (s0 : State) (D : va_G) (ca : Nat → ClassId) (e0 d mc ms : Nat) : List (Nat × cr_T) := [(109, cr_istore 6 111),
  (111, cr_iinc 7 1 114),
  (114, cr_goto 64),
  (117, cr_iload 6 119),
  (119, cr_iret mc ms)]
def t_M_refused (l : Launch) (s0 : State) (D : va_G) (ca : Nat → ClassId) (e0 d mc ms : Nat) : List (Nat × cr_T) := t_M_refused_0 l s0 D ca e0 d mc ms ++ (t_M_refused_1 l s0 D ca e0 d mc ms ++ (t_M_refused_2 l s0 D ca e0 d mc ms))
set_option maxHeartbeats 4000000 in
set_option maxRecDepth 20000 in
theorem s_M_refused_0 {p : Program} {l : Launch} {e : Env} {R : Room} {s : State} {m : MethodId} {args : Array Value} {below : List Frame} {meth : Method} {c : Code} {s0 : State} {D : va_G} {ca : Nat → ClassId} {e0 d mc ms : Nat} {Q : cr_Q} (hl : l.flags = flags0) (Z : cr_Z0 s0 D ca e0) (C : cr_C p R s m meth c (cr_W0 s0) s0.heap.size y_M_refused c_M_refused 8 (Option.some FieldType.int) d mc ms) (hem : c.exceptionTable.toList = []) : ∀ x ∈ t_M_refused_0 l s0 D ca e0 d mc ms, cr_Snd p l e R s m args below meth c s0.heap.size mc ms Q x.1 x.2 := by
  obtain ⟨hx, hb, hml, hown, hr, hlk, hnm, hU, hlo, hR⟩ := C
  have hK := cr_Z0K Z hU
  have hRc : R.cells = mc := by rw [hR]; rfl
  have hRs : R.slots = ms := by rw [hR]; rfl
  unfold t_M_refused_0
  refine cr_cons (cr_iload_n_ok hx hb d_M_refused_0 rfl rfl) ?_
  refine cr_cons (cr_aload_n_ok hx hb d_M_refused_1 rfl rfl) ?_
  refine cr_cons (cr_getf_ok (C := R_M) (T := T_M) (N := 41) hx hb (k_M Z hU args) (fun _ h => h) hown hK rfl (by decide) (cr_w Z w_823 rfl hU args) (fun _ h => h) d_M_refused_2 rfl) ?_
  refine cr_cons (cr_iload_n_ok hx hb d_M_refused_5 rfl rfl) ?_
  refine cr_cons (cr_iald_ok (t0 := 0) hx hb hK rfl d_M_refused_6 rfl) ?_
  refine cr_cons (cr_icne_ok hx hb d_M_refused_7 (by decide) rfl) ?_
  refine cr_cons (cr_aload_n_ok hx hb d_M_refused_10 rfl rfl) ?_
  refine cr_cons (cr_getf_ok (C := R_M) (T := T_M) (N := 41) hx hb (k_M Z hU args) (fun _ h => h) hown hK rfl (by decide) (cr_w Z w_824 rfl hU args) (fun _ h => h) d_M_refused_11 rfl) ?_
  refine cr_cons (cr_iload_n_ok hx hb d_M_refused_14 rfl rfl) ?_
  refine cr_cons (cr_iald_ok (t0 := 0) hx hb hK rfl d_M_refused_15 rfl) ?_
  refine cr_cons (cr_goto_ok hx hb d_M_refused_16 (by decide)) ?_
  refine cr_cons (cr_aload_n_ok hx hb d_M_refused_19 rfl rfl) ?_
  refine cr_cons (cr_getf_ok (C := R_M) (T := T_M) (N := 41) hx hb (k_M Z hU args) (fun _ h => h) hown hK rfl (by decide) (cr_w Z w_823 rfl hU args) (fun _ h => h) d_M_refused_20 rfl) ?_
  refine cr_cons (cr_iload_n_ok hx hb d_M_refused_23 rfl rfl) ?_
  refine cr_cons (cr_iald_ok (t0 := 0) hx hb hK rfl d_M_refused_24 rfl) ?_
  refine cr_cons (cr_istore_ok hx hb d_M_refused_25 rfl) ?_
  refine cr_cons (cr_aload_n_ok hx hb d_M_refused_27 rfl rfl) ?_
  refine cr_cons (cr_iload_n_ok hx hb d_M_refused_28 rfl rfl) ?_
  refine cr_cons (cr_iload_n_ok hx hb d_M_refused_29 rfl rfl) ?_
  refine cr_cons (cr_iload_ok hx hb d_M_refused_30 rfl) ?_
  refine cr_cons (cr_aload_n_ok hx hb d_M_refused_32 rfl rfl) ?_
  refine cr_cons (cr_getf_ok (C := R_M) (T := T_M) (N := 41) hx hb (k_M Z hU args) (fun _ h => h) hown hK rfl (by decide) (cr_w Z w_828 rfl hU args) (fun _ h => h) d_M_refused_33 rfl) ?_
  refine cr_cons (cr_iload_n_ok hx hb d_M_refused_36 rfl rfl) ?_
  refine cr_cons (cr_iald_ok (t0 := 0) hx hb hK rfl d_M_refused_37 rfl) ?_
  refine cr_cons (cr_aload_n_ok hx hb d_M_refused_38 rfl rfl) ?_
  refine cr_cons (cr_getf_ok (C := R_M) (T := T_M) (N := 41) hx hb (k_M Z hU args) (fun _ h => h) hown hK rfl (by decide) (cr_w Z w_828 rfl hU args) (fun _ h => h) d_M_refused_39 rfl) ?_
  refine cr_cons (cr_iload_n_ok hx hb d_M_refused_42 rfl rfl) ?_
  refine cr_cons (cr_iald_ok (t0 := 0) hx hb hK rfl d_M_refused_43 rfl) ?_
  refine cr_cons (cr_sipush_ok hx hb d_M_refused_44 (by decide) rfl) ?_
  refine cr_cons (cr_icne_ok hx hb d_M_refused_47 (by decide) rfl) ?_
  exact cr_nil
set_option maxHeartbeats 4000000 in
set_option maxRecDepth 20000 in
theorem s_M_refused_1 {p : Program} {l : Launch} {e : Env} {R : Room} {s : State} {m : MethodId} {args : Array Value} {below : List Frame} {meth : Method} {c : Code} {s0 : State} {D : va_G} {ca : Nat → ClassId} {e0 d mc ms : Nat} {Q : cr_Q} (hl : l.flags = flags0) (Z : cr_Z0 s0 D ca e0) (C : cr_C p R s m meth c (cr_W0 s0) s0.heap.size y_M_refused c_M_refused 8 (Option.some FieldType.int) d mc ms) (hem : c.exceptionTable.toList = []) : ∀ x ∈ t_M_refused_1 l s0 D ca e0 d mc ms, cr_Snd p l e R s m args below meth c s0.heap.size mc ms Q x.1 x.2 := by
  obtain ⟨hx, hb, hml, hown, hr, hlk, hnm, hU, hlo, hR⟩ := C
  have hK := cr_Z0K Z hU
  have hRc : R.cells = mc := by rw [hR]; rfl
  have hRs : R.slots = ms := by rw [hR]; rfl
  unfold t_M_refused_1
  refine cr_cons (cr_iload_ok hx hb d_M_refused_50 rfl) ?_
  refine cr_cons (cr_goto_ok hx hb d_M_refused_52 (by decide)) ?_
  refine cr_cons (cr_iconst_ok hx hb d_M_refused_55 (by decide) rfl) ?_
  refine cr_cons (cr_calV_ok (C := R_M) (Tf := T_M) (N := 41) hx hb hml hown hlk hU hlo hR (cr_W0_st s0) (by rw [hem]; exact fun _ h => absurd h List.not_mem_nil) hK rfl (u_M_why Z) (Or.inl (cr_w Z w_1022 rfl hU args)) (cr_w Z w_1024 rfl hU args) (cr_w Z ws_38 rfl hU args) (by decide) (by decide +kernel) (by decide) d_M_refused_56 rfl) ?_
  refine cr_cons (cr_istore_ok hx hb d_M_refused_59 rfl) ?_
  refine cr_cons (cr_iconst_ok hx hb d_M_refused_61 (by decide) rfl) ?_
  refine cr_cons (cr_istore_ok hx hb d_M_refused_62 rfl) ?_
  refine cr_cons (cr_iload_ok hx hb d_M_refused_64 rfl) ?_
  refine cr_cons (cr_aload_n_ok hx hb d_M_refused_66 rfl rfl) ?_
  refine cr_cons (cr_getf_ok (C := R_M) (T := T_M) (N := 41) hx hb (k_M Z hU args) (fun _ h => h) hown hK rfl (by decide) (cr_w Z w_822 rfl hU args) (fun _ h => h) d_M_refused_67 rfl) ?_
  refine cr_cons (cr_icge_ok hx hb d_M_refused_70 (by decide) rfl) ?_
  refine cr_cons (cr_iload_ok hx hb d_M_refused_73 rfl) ?_
  refine cr_cons (cr_ifne_ok hx hb d_M_refused_75 (by decide) rfl) ?_
  refine cr_cons (cr_aload_n_ok hx hb d_M_refused_78 rfl rfl) ?_
  refine cr_cons (cr_getf_ok (C := R_M) (T := T_M) (N := 41) hx hb (k_M Z hU args) (fun _ h => h) hown hK rfl (by decide) (cr_w Z w_829 rfl hU args) (fun _ h => h) d_M_refused_79 rfl) ?_
  refine cr_cons (cr_bipush_ok hx hb d_M_refused_82 (by decide) rfl) ?_
  refine cr_cons (cr_iload_n_ok hx hb d_M_refused_84 rfl rfl) ?_
  refine cr_cons (cr_imul_ok hx hb d_M_refused_85 rfl) ?_
  refine cr_cons (cr_iload_ok hx hb d_M_refused_86 rfl) ?_
  refine cr_cons (cr_iadd_ok hx hb d_M_refused_88 rfl) ?_
  refine cr_cons (cr_zald_ok (t0 := 2) hx hb hK rfl d_M_refused_89 rfl) ?_
  refine cr_cons (cr_ifeq_ok hx hb d_M_refused_90 (by decide) rfl) ?_
  refine cr_cons (cr_aload_n_ok hx hb d_M_refused_93 rfl rfl) ?_
  refine cr_cons (cr_getf_ok (C := R_M) (T := T_M) (N := 41) hx hb (k_M Z hU args) (fun _ h => h) hown hK rfl (by decide) (cr_w Z w_826 rfl hU args) (fun _ h => h) d_M_refused_94 rfl) ?_
  refine cr_cons (cr_iload_ok hx hb d_M_refused_97 rfl) ?_
  refine cr_cons (cr_zald_ok (t0 := 2) hx hb hK rfl d_M_refused_99 rfl) ?_
  refine cr_cons (cr_ifeq_ok hx hb d_M_refused_100 (by decide) rfl) ?_
  refine cr_cons (cr_bipush_ok hx hb d_M_refused_103 (by decide) rfl) ?_
  refine cr_cons (cr_goto_ok hx hb d_M_refused_105 (by decide)) ?_
  refine cr_cons (cr_iconst_ok hx hb d_M_refused_108 (by decide) rfl) ?_
  exact cr_nil
set_option maxHeartbeats 4000000 in
set_option maxRecDepth 20000 in
theorem s_M_refused_2 {p : Program} {l : Launch} {e : Env} {R : Room} {s : State} {m : MethodId} {args : Array Value} {below : List Frame} {meth : Method} {c : Code} {s0 : State} {D : va_G} {ca : Nat → ClassId} {e0 d mc ms : Nat} {Q : cr_Q} (hl : l.flags = flags0) (Z : cr_Z0 s0 D ca e0) (C : cr_C p R s m meth c (cr_W0 s0) s0.heap.size y_M_refused c_M_refused 8 (Option.some FieldType.int) d mc ms) (hem : c.exceptionTable.toList = []) : ∀ x ∈ t_M_refused_2 l s0 D ca e0 d mc ms, cr_Snd p l e R s m args below meth c s0.heap.size mc ms Q x.1 x.2 := by
  obtain ⟨hx, hb, hml, hown, hr, hlk, hnm, hU, hlo, hR⟩ := C
  have hK := cr_Z0K Z hU
  have hRc : R.cells = mc := by rw [hR]; rfl
  have hRs : R.slots = ms := by rw [hR]; rfl
  unfold t_M_refused_2
  refine cr_cons (cr_istore_ok hx hb d_M_refused_109 rfl) ?_
  refine cr_cons (cr_iinc_ok hx hb d_M_refused_111 (by decide) rfl) ?_
  refine cr_cons (cr_goto_ok hx hb d_M_refused_114 (by decide)) ?_
  refine cr_cons (cr_iload_ok hx hb d_M_refused_117 rfl) ?_
  refine cr_cons (cr_iret_ok hx hb hr hlk d_M_refused_119) ?_
  exact cr_nil
theorem s_M_refused {p : Program} {l : Launch} {e : Env} {R : Room} {s : State} {m : MethodId} {args : Array Value} {below : List Frame} {meth : Method} {c : Code} {s0 : State} {D : va_G} {ca : Nat → ClassId} {e0 d mc ms : Nat} {Q : cr_Q} (hl : l.flags = flags0) (Z : cr_Z0 s0 D ca e0) (C : cr_C p R s m meth c (cr_W0 s0) s0.heap.size y_M_refused c_M_refused 8 (Option.some FieldType.int) d mc ms) (hem : c.exceptionTable.toList = []) : ∀ x ∈ t_M_refused l s0 D ca e0 d mc ms, cr_Snd p l e R s m args below meth c s0.heap.size mc ms Q x.1 x.2 := cr_app (s_M_refused_0 hl Z C hem) (cr_app (s_M_refused_1 hl Z C hem) (s_M_refused_2 hl Z C hem))
theorem d_M_why_0 : decode c_M_why 0 = .ok (.aload_n 0, 1) := by decide +kernel
theorem d_M_why_1 : decode c_M_why 1 = .ok (.iconst 0, 1) := by decide +kernel
theorem d_M_why_2 : decode c_M_why 2 = .ok (.iload_n 1, 1) := by decide +kernel
theorem d_M_why_3 : decode c_M_why 3 = .ok (.iload 4, 2) := by decide +kernel
theorem d_M_why_5 : decode c_M_why 5 = .ok (.invokevirtual 144, 3) := by decide +kernel
theorem d_M_why_8 : decode c_M_why 8 = .ok (.istore 6, 2) := by decide +kernel
theorem d_M_why_10 : decode c_M_why 10 = .ok (.iload 6, 2) := by decide +kernel
theorem d_M_why_12 : decode c_M_why 12 = .ok (.ifCond .ge 5, 3) := by decide +kernel
theorem d_M_why_15 : decode c_M_why 15 = .ok (.iconst 1, 1) := by decide +kernel
theorem d_M_why_16 : decode c_M_why 16 = .ok (.ireturn, 1) := by decide +kernel
theorem d_M_why_17 : decode c_M_why 17 = .ok (.aload_n 0, 1) := by decide +kernel
theorem d_M_why_18 : decode c_M_why 18 = .ok (.getfield 56, 3) := by decide +kernel
theorem d_M_why_21 : decode c_M_why 21 = .ok (.iload_n 1, 1) := by decide +kernel
theorem d_M_why_22 : decode c_M_why 22 = .ok (.iaload, 1) := by decide +kernel
theorem d_M_why_23 : decode c_M_why 23 = .ok (.iload_n 3, 1) := by decide +kernel
theorem d_M_why_24 : decode c_M_why 24 = .ok (.if_icmp .ge 5, 3) := by decide +kernel
theorem d_M_why_27 : decode c_M_why 27 = .ok (.iconst 2, 1) := by decide +kernel
theorem d_M_why_28 : decode c_M_why 28 = .ok (.ireturn, 1) := by decide +kernel
theorem d_M_why_29 : decode c_M_why 29 = .ok (.aload_n 0, 1) := by decide +kernel
theorem d_M_why_30 : decode c_M_why 30 = .ok (.iconst 3, 1) := by decide +kernel
theorem d_M_why_31 : decode c_M_why 31 = .ok (.iload_n 1, 1) := by decide +kernel
theorem d_M_why_32 : decode c_M_why 32 = .ok (.iload 4, 2) := by decide +kernel
theorem d_M_why_34 : decode c_M_why 34 = .ok (.invokevirtual 144, 3) := by decide +kernel
theorem d_M_why_37 : decode c_M_why 37 = .ok (.istore 7, 2) := by decide +kernel
theorem d_M_why_39 : decode c_M_why 39 = .ok (.iload 7, 2) := by decide +kernel
theorem d_M_why_41 : decode c_M_why 41 = .ok (.ifCond .lt 11, 3) := by decide +kernel
theorem d_M_why_44 : decode c_M_why 44 = .ok (.iload 7, 2) := by decide +kernel
theorem d_M_why_46 : decode c_M_why 46 = .ok (.iload_n 3, 1) := by decide +kernel
theorem d_M_why_47 : decode c_M_why 47 = .ok (.if_icmp .gt 5, 3) := by decide +kernel
theorem d_M_why_50 : decode c_M_why 50 = .ok (.iconst 3, 1) := by decide +kernel
theorem d_M_why_51 : decode c_M_why 51 = .ok (.ireturn, 1) := by decide +kernel
theorem d_M_why_52 : decode c_M_why 52 = .ok (.iload 5, 2) := by decide +kernel
theorem d_M_why_54 : decode c_M_why 54 = .ok (.ifCond .lt 21, 3) := by decide +kernel
theorem d_M_why_57 : decode c_M_why 57 = .ok (.aload_n 0, 1) := by decide +kernel
theorem d_M_why_58 : decode c_M_why 58 = .ok (.getfield 50, 3) := by decide +kernel
theorem d_M_why_61 : decode c_M_why 61 = .ok (.aload_n 0, 1) := by decide +kernel
theorem d_M_why_62 : decode c_M_why 62 = .ok (.getfield 53, 3) := by decide +kernel
theorem d_M_why_65 : decode c_M_why 65 = .ok (.iload_n 1, 1) := by decide +kernel
theorem d_M_why_66 : decode c_M_why 66 = .ok (.iaload, 1) := by decide +kernel
theorem d_M_why_67 : decode c_M_why 67 = .ok (.iaload, 1) := by decide +kernel
theorem d_M_why_68 : decode c_M_why 68 = .ok (.iload 5, 2) := by decide +kernel
theorem d_M_why_70 : decode c_M_why 70 = .ok (.if_icmp .eq 5, 3) := by decide +kernel
theorem d_M_why_73 : decode c_M_why 73 = .ok (.iconst 4, 1) := by decide +kernel
theorem d_M_why_74 : decode c_M_why 74 = .ok (.ireturn, 1) := by decide +kernel
theorem d_M_why_75 : decode c_M_why 75 = .ok (.iconst 0, 1) := by decide +kernel
theorem d_M_why_76 : decode c_M_why 76 = .ok (.istore 8, 2) := by decide +kernel
theorem d_M_why_78 : decode c_M_why 78 = .ok (.iload 8, 2) := by decide +kernel
theorem d_M_why_80 : decode c_M_why 80 = .ok (.aload_n 0, 1) := by decide +kernel
theorem d_M_why_81 : decode c_M_why 81 = .ok (.getfield 141, 3) := by decide +kernel
theorem d_M_why_84 : decode c_M_why 84 = .ok (.if_icmp .ge 99, 3) := by decide +kernel
theorem d_M_why_87 : decode c_M_why 87 = .ok (.aload_n 0, 1) := by decide +kernel
theorem d_M_why_88 : decode c_M_why 88 = .ok (.iconst 2, 1) := by decide +kernel
theorem d_M_why_89 : decode c_M_why 89 = .ok (.iload 8, 2) := by decide +kernel
theorem d_M_why_91 : decode c_M_why 91 = .ok (.iload 4, 2) := by decide +kernel
theorem d_M_why_93 : decode c_M_why 93 = .ok (.invokevirtual 144, 3) := by decide +kernel
theorem d_M_why_96 : decode c_M_why 96 = .ok (.istore 9, 2) := by decide +kernel
theorem d_M_why_98 : decode c_M_why 98 = .ok (.aload_n 0, 1) := by decide +kernel
theorem d_M_why_99 : decode c_M_why 99 = .ok (.iconst 1, 1) := by decide +kernel
theorem d_M_why_100 : decode c_M_why 100 = .ok (.iload 8, 2) := by decide +kernel
theorem d_M_why_102 : decode c_M_why 102 = .ok (.iload 4, 2) := by decide +kernel
theorem d_M_why_104 : decode c_M_why 104 = .ok (.invokevirtual 144, 3) := by decide +kernel
theorem d_M_why_107 : decode c_M_why 107 = .ok (.ifCond .lt 29, 3) := by decide +kernel
theorem d_M_why_110 : decode c_M_why 110 = .ok (.aload_n 0, 1) := by decide +kernel
theorem d_M_why_111 : decode c_M_why 111 = .ok (.getfield 71, 3) := by decide +kernel
theorem d_M_why_114 : decode c_M_why 114 = .ok (.iload 8, 2) := by decide +kernel
theorem d_M_why_116 : decode c_M_why 116 = .ok (.iaload, 1) := by decide +kernel
theorem d_M_why_117 : decode c_M_why 117 = .ok (.iload_n 3, 1) := by decide +kernel
theorem d_M_why_118 : decode c_M_why 118 = .ok (.if_icmp .gt 18, 3) := by decide +kernel
theorem d_M_why_121 : decode c_M_why 121 = .ok (.iload 9, 2) := by decide +kernel
theorem d_M_why_123 : decode c_M_why 123 = .ok (.ifCond .lt 9, 3) := by decide +kernel
theorem d_M_why_126 : decode c_M_why 126 = .ok (.iload 9, 2) := by decide +kernel
theorem d_M_why_128 : decode c_M_why 128 = .ok (.iload_n 3, 1) := by decide +kernel
theorem d_M_why_129 : decode c_M_why 129 = .ok (.if_icmp .le 7, 3) := by decide +kernel
theorem d_M_why_132 : decode c_M_why 132 = .ok (.iconst 1, 1) := by decide +kernel
theorem d_M_why_133 : decode c_M_why 133 = .ok (.goto 4, 3) := by decide +kernel
theorem d_M_why_136 : decode c_M_why 136 = .ok (.iconst 0, 1) := by decide +kernel
theorem d_M_why_137 : decode c_M_why 137 = .ok (.istore 10, 2) := by decide +kernel
theorem d_M_why_139 : decode c_M_why 139 = .ok (.iload 10, 2) := by decide +kernel
theorem d_M_why_141 : decode c_M_why 141 = .ok (.ifCond .eq 36, 3) := by decide +kernel
theorem d_M_why_144 : decode c_M_why 144 = .ok (.aload_n 0, 1) := by decide +kernel
theorem d_M_why_145 : decode c_M_why 145 = .ok (.iload 8, 2) := by decide +kernel
theorem d_M_why_147 : decode c_M_why 147 = .ok (.aload_n 0, 1) := by decide +kernel
theorem d_M_why_148 : decode c_M_why 148 = .ok (.getfield 47, 3) := by decide +kernel
theorem d_M_why_151 : decode c_M_why 151 = .ok (.aload_n 0, 1) := by decide +kernel
theorem d_M_why_152 : decode c_M_why 152 = .ok (.getfield 53, 3) := by decide +kernel
theorem d_M_why_155 : decode c_M_why 155 = .ok (.iload_n 1, 1) := by decide +kernel
theorem d_M_why_156 : decode c_M_why 156 = .ok (.iaload, 1) := by decide +kernel
theorem d_M_why_157 : decode c_M_why 157 = .ok (.iaload, 1) := by decide +kernel
theorem d_M_why_158 : decode c_M_why 158 = .ok (.aload_n 0, 1) := by decide +kernel
theorem d_M_why_159 : decode c_M_why 159 = .ok (.getfield 7, 3) := by decide +kernel
theorem d_M_why_162 : decode c_M_why 162 = .ok (.iload_n 2, 1) := by decide +kernel
theorem d_M_why_163 : decode c_M_why 163 = .ok (.iaload, 1) := by decide +kernel
theorem d_M_why_164 : decode c_M_why 164 = .ok (.iload_n 3, 1) := by decide +kernel
theorem d_M_why_165 : decode c_M_why 165 = .ok (.sipush 1440, 3) := by decide +kernel
theorem d_M_why_168 : decode c_M_why 168 = .ok (.irem, 1) := by decide +kernel
theorem d_M_why_169 : decode c_M_why 169 = .ok (.invokevirtual 154, 3) := by decide +kernel
theorem d_M_why_172 : decode c_M_why 172 = .ok (.ifCond .eq 5, 3) := by decide +kernel
theorem d_M_why_175 : decode c_M_why 175 = .ok (.iconst 0, 1) := by decide +kernel
theorem d_M_why_176 : decode c_M_why 176 = .ok (.ireturn, 1) := by decide +kernel
theorem d_M_why_177 : decode c_M_why 177 = .ok (.iinc 8 1, 3) := by decide +kernel
theorem d_M_why_180 : decode c_M_why 180 = .ok (.goto (-102), 3) := by decide +kernel
theorem d_M_why_183 : decode c_M_why 183 = .ok (.iconst 5, 1) := by decide +kernel
theorem d_M_why_184 : decode c_M_why 184 = .ok (.ireturn, 1) := by decide +kernel
def t_M_why_0 (l : Launch) (s0 : State) (D : va_G) (ca : Nat → ClassId) (e0 d mc ms : Nat) : List (Nat × cr_T) := [(0, cr_aload 0 1),
  (1, cr_push (.int 0) 2),
  (2, cr_iload 1 3),
  (3, cr_iload 4 5),
  (5, cr_calV D kc l (cr_W0 s0) s0.heap.size 11 y_M_told cw_M_told d mc ms 3 11 8),
  (8, cr_istore 6 10),
  (10, cr_iload 6 12),
  (12, cr_ifge 17 15),
  (15, cr_push (.int 1) 16),
  (16, cr_iret mc ms),
  (17, cr_aload 0 18),
  (18, cr_getf D kc 11 21 21),
  (21, cr_iload 1 22),
  (22, cr_iald D kc (ca 0) 23),
  (23, cr_iload 3 24),
  (24, cr_icge 29 27),
  (27, cr_push (.int 2) 28),
  (28, cr_iret mc ms),
  (29, cr_aload 0 30),
  (30, cr_push (.int 3) 31),
  (31, cr_iload 1 32),
  (32, cr_iload 4 34),
  (34, cr_calV D kc l (cr_W0 s0) s0.heap.size 11 y_M_told cw_M_told d mc ms 3 11 37),
  (37, cr_istore 7 39),
  (39, cr_iload 7 41),
  (41, cr_iflt 52 44),
  (44, cr_iload 7 46),
  (46, cr_iload 3 47),
  (47, cr_icgt 52 50),
  (50, cr_push (.int 3) 51)]
def t_M_why_1 (l : Launch) (s0 : State) (D : va_G) (ca : Nat → ClassId) (e0 d mc ms : Nat) : List (Nat × cr_T) := [(51, cr_iret mc ms),
  (52, cr_iload 5 54),
  (54, cr_iflt 75 57),
  (57, cr_aload 0 58),
  (58, cr_getf D kc 11 18 61),
  (61, cr_aload 0 62),
  (62, cr_getf D kc 11 20 65),
  (65, cr_iload 1 66),
  (66, cr_iald D kc (ca 0) 67),
  (67, cr_iald D kc (ca 0) 68),
  (68, cr_iload 5 70),
  (70, cr_iceq 75 73),
  (73, cr_push (.int 4) 74),
  (74, cr_iret mc ms),
  (75, cr_push (.int 0) 76),
  (76, cr_istore 8 78),
  (78, cr_iload 8 80),
  (80, cr_aload 0 81),
  (81, cr_getf D kc 11 22 84),
  (84, cr_icge 183 87),
  (87, cr_aload 0 88),
  (88, cr_push (.int 2) 89),
  (89, cr_iload 8 91),
  (91, cr_iload 4 93),
  (93, cr_calV D kc l (cr_W0 s0) s0.heap.size 11 y_M_told cw_M_told d mc ms 3 11 96),
  (96, cr_istore 9 98),
  (98, cr_aload 0 99),
  (99, cr_push (.int 1) 100),
  (100, cr_iload 8 102),
  (102, cr_iload 4 104)]
def t_M_why_2 (l : Launch) (s0 : State) (D : va_G) (ca : Nat → ClassId) (e0 d mc ms : Nat) : List (Nat × cr_T) := [(104, cr_calV D kc l (cr_W0 s0) s0.heap.size 11 y_M_told cw_M_told d mc ms 3 11 107),
  (107, cr_iflt 136 110),
  (110, cr_aload 0 111),
  (111, cr_getf D kc 11 27 114),
  (114, cr_iload 8 116),
  (116, cr_iald D kc (ca 0) 117),
  (117, cr_iload 3 118),
  (118, cr_icgt 136 121),
  (121, cr_iload 9 123),
  (123, cr_iflt 132 126),
  (126, cr_iload 9 128),
  (128, cr_iload 3 129),
  (129, cr_icle 136 132),
  (132, cr_push (.int 1) 133),
  (133, cr_goto 137),
  (136, cr_push (.int 0) 137),
  (137, cr_istore 10 139),
  (139, cr_iload 10 141),
  (141, cr_ifeq 177 144),
  (144, cr_aload 0 145),
  (145, cr_iload 8 147),
  (147, cr_aload 0 148),
  (148, cr_getf D kc 11 17 151),
  (151, cr_aload 0 152),
  (152, cr_getf D kc 11 20 155),
  (155, cr_iload 1 156),
  (156, cr_iald D kc (ca 0) 157),
  (157, cr_iald D kc (ca 0) 158),
  (158, cr_aload 0 159),
  (159, cr_getf D kc 11 3 162)]
def t_M_why_3 (l : Launch) (s0 : State) (D : va_G) (ca : Nat → ClassId) (e0 d mc ms : Nat) : List (Nat × cr_T) := [(162, cr_iload 2 163),
  (163, cr_iald D kc (ca 0) 164),
  (164, cr_iload 3 165),
  (165, cr_push (.int 1440) 168),
  (168, cr_irem 169),
  (169, cr_calV D kc l (cr_W0 s0) s0.heap.size 11 y_M_spans cw_M_spans d mc ms 4 11 172),
  (172, cr_ifeq 177 175),
  (175, cr_push (.int 0) 176),
  (176, cr_iret mc ms),
  (177, cr_iinc 8 1 180),
  (180, cr_goto 78),
  (183, cr_push (.int 5) 184),
  (184, cr_iret mc ms)]
def t_M_why (l : Launch) (s0 : State) (D : va_G) (ca : Nat → ClassId) (e0 d mc ms : Nat) : List (Nat × cr_T) := t_M_why_0 l s0 D ca e0 d mc ms ++ (t_M_why_1 l s0 D ca e0 d mc ms ++ (t_M_why_2 l s0 D ca e0 d mc ms ++ (t_M_why_3 l s0 D ca e0 d mc ms)))
set_option maxHeartbeats 4000000 in
set_option maxRecDepth 20000 in
theorem s_M_why_0 {p : Program} {l : Launch} {e : Env} {R : Room} {s : State} {m : MethodId} {args : Array Value} {below : List Frame} {meth : Method} {c : Code} {s0 : State} {D : va_G} {ca : Nat → ClassId} {e0 d mc ms : Nat} {Q : cr_Q} (hl : l.flags = flags0) (Z : cr_Z0 s0 D ca e0) (C : cr_C p R s m meth c (cr_W0 s0) s0.heap.size y_M_why c_M_why 11 (Option.some FieldType.int) d mc ms) (hem : c.exceptionTable.toList = []) : ∀ x ∈ t_M_why_0 l s0 D ca e0 d mc ms, cr_Snd p l e R s m args below meth c s0.heap.size mc ms Q x.1 x.2 := by
  obtain ⟨hx, hb, hml, hown, hr, hlk, hnm, hU, hlo, hR⟩ := C
  have hK := cr_Z0K Z hU
  have hRc : R.cells = mc := by rw [hR]; rfl
  have hRs : R.slots = ms := by rw [hR]; rfl
  unfold t_M_why_0
  refine cr_cons (cr_aload_n_ok hx hb d_M_why_0 rfl rfl) ?_
  refine cr_cons (cr_iconst_ok hx hb d_M_why_1 (by decide) rfl) ?_
  refine cr_cons (cr_iload_n_ok hx hb d_M_why_2 rfl rfl) ?_
  refine cr_cons (cr_iload_ok hx hb d_M_why_3 rfl) ?_
  refine cr_cons (cr_calV_ok (C := R_M) (Tf := T_M) (N := 41) hx hb hml hown hlk hU hlo hR (cr_W0_st s0) (by rw [hem]; exact fun _ h => absurd h List.not_mem_nil) hK rfl (u_M_told Z) (Or.inl (cr_w Z w_986 rfl hU args)) (cr_w Z w_988 rfl hU args) (cr_w Z ws_34 rfl hU args) (by decide) (by decide +kernel) (by decide) d_M_why_5 rfl) ?_
  refine cr_cons (cr_istore_ok hx hb d_M_why_8 rfl) ?_
  refine cr_cons (cr_iload_ok hx hb d_M_why_10 rfl) ?_
  refine cr_cons (cr_ifge_ok hx hb d_M_why_12 (by decide) rfl) ?_
  refine cr_cons (cr_iconst_ok hx hb d_M_why_15 (by decide) rfl) ?_
  refine cr_cons (cr_iret_ok hx hb hr hlk d_M_why_16) ?_
  refine cr_cons (cr_aload_n_ok hx hb d_M_why_17 rfl rfl) ?_
  refine cr_cons (cr_getf_ok (C := R_M) (T := T_M) (N := 41) hx hb (k_M Z hU args) (fun _ h => h) hown hK rfl (by decide) (cr_w Z w_839 rfl hU args) (fun _ h => h) d_M_why_18 rfl) ?_
  refine cr_cons (cr_iload_n_ok hx hb d_M_why_21 rfl rfl) ?_
  refine cr_cons (cr_iald_ok (t0 := 0) hx hb hK rfl d_M_why_22 rfl) ?_
  refine cr_cons (cr_iload_n_ok hx hb d_M_why_23 rfl rfl) ?_
  refine cr_cons (cr_icge_ok hx hb d_M_why_24 (by decide) rfl) ?_
  refine cr_cons (cr_iconst_ok hx hb d_M_why_27 (by decide) rfl) ?_
  refine cr_cons (cr_iret_ok hx hb hr hlk d_M_why_28) ?_
  refine cr_cons (cr_aload_n_ok hx hb d_M_why_29 rfl rfl) ?_
  refine cr_cons (cr_iconst_ok hx hb d_M_why_30 (by decide) rfl) ?_
  refine cr_cons (cr_iload_n_ok hx hb d_M_why_31 rfl rfl) ?_
  refine cr_cons (cr_iload_ok hx hb d_M_why_32 rfl) ?_
  refine cr_cons (cr_calV_ok (C := R_M) (Tf := T_M) (N := 41) hx hb hml hown hlk hU hlo hR (cr_W0_st s0) (by rw [hem]; exact fun _ h => absurd h List.not_mem_nil) hK rfl (u_M_told Z) (Or.inl (cr_w Z w_986 rfl hU args)) (cr_w Z w_988 rfl hU args) (cr_w Z ws_34 rfl hU args) (by decide) (by decide +kernel) (by decide) d_M_why_34 rfl) ?_
  refine cr_cons (cr_istore_ok hx hb d_M_why_37 rfl) ?_
  refine cr_cons (cr_iload_ok hx hb d_M_why_39 rfl) ?_
  refine cr_cons (cr_iflt_ok hx hb d_M_why_41 (by decide) rfl) ?_
  refine cr_cons (cr_iload_ok hx hb d_M_why_44 rfl) ?_
  refine cr_cons (cr_iload_n_ok hx hb d_M_why_46 rfl rfl) ?_
  refine cr_cons (cr_icgt_ok hx hb d_M_why_47 (by decide) rfl) ?_
  refine cr_cons (cr_iconst_ok hx hb d_M_why_50 (by decide) rfl) ?_
  exact cr_nil
set_option maxHeartbeats 4000000 in
set_option maxRecDepth 20000 in
theorem s_M_why_1 {p : Program} {l : Launch} {e : Env} {R : Room} {s : State} {m : MethodId} {args : Array Value} {below : List Frame} {meth : Method} {c : Code} {s0 : State} {D : va_G} {ca : Nat → ClassId} {e0 d mc ms : Nat} {Q : cr_Q} (hl : l.flags = flags0) (Z : cr_Z0 s0 D ca e0) (C : cr_C p R s m meth c (cr_W0 s0) s0.heap.size y_M_why c_M_why 11 (Option.some FieldType.int) d mc ms) (hem : c.exceptionTable.toList = []) : ∀ x ∈ t_M_why_1 l s0 D ca e0 d mc ms, cr_Snd p l e R s m args below meth c s0.heap.size mc ms Q x.1 x.2 := by
  obtain ⟨hx, hb, hml, hown, hr, hlk, hnm, hU, hlo, hR⟩ := C
  have hK := cr_Z0K Z hU
  have hRc : R.cells = mc := by rw [hR]; rfl
  have hRs : R.slots = ms := by rw [hR]; rfl
  unfold t_M_why_1
  refine cr_cons (cr_iret_ok hx hb hr hlk d_M_why_51) ?_
  refine cr_cons (cr_iload_ok hx hb d_M_why_52 rfl) ?_
  refine cr_cons (cr_iflt_ok hx hb d_M_why_54 (by decide) rfl) ?_
  refine cr_cons (cr_aload_n_ok hx hb d_M_why_57 rfl rfl) ?_
  refine cr_cons (cr_getf_ok (C := R_M) (T := T_M) (N := 41) hx hb (k_M Z hU args) (fun _ h => h) hown hK rfl (by decide) (cr_w Z w_836 rfl hU args) (fun _ h => h) d_M_why_58 rfl) ?_
  refine cr_cons (cr_aload_n_ok hx hb d_M_why_61 rfl rfl) ?_
  refine cr_cons (cr_getf_ok (C := R_M) (T := T_M) (N := 41) hx hb (k_M Z hU args) (fun _ h => h) hown hK rfl (by decide) (cr_w Z w_838 rfl hU args) (fun _ h => h) d_M_why_62 rfl) ?_
  refine cr_cons (cr_iload_n_ok hx hb d_M_why_65 rfl rfl) ?_
  refine cr_cons (cr_iald_ok (t0 := 0) hx hb hK rfl d_M_why_66 rfl) ?_
  refine cr_cons (cr_iald_ok (t0 := 0) hx hb hK rfl d_M_why_67 rfl) ?_
  refine cr_cons (cr_iload_ok hx hb d_M_why_68 rfl) ?_
  refine cr_cons (cr_iceq_ok hx hb d_M_why_70 (by decide) rfl) ?_
  refine cr_cons (cr_iconst_ok hx hb d_M_why_73 (by decide) rfl) ?_
  refine cr_cons (cr_iret_ok hx hb hr hlk d_M_why_74) ?_
  refine cr_cons (cr_iconst_ok hx hb d_M_why_75 (by decide) rfl) ?_
  refine cr_cons (cr_istore_ok hx hb d_M_why_76 rfl) ?_
  refine cr_cons (cr_iload_ok hx hb d_M_why_78 rfl) ?_
  refine cr_cons (cr_aload_n_ok hx hb d_M_why_80 rfl rfl) ?_
  refine cr_cons (cr_getf_ok (C := R_M) (T := T_M) (N := 41) hx hb (k_M Z hU args) (fun _ h => h) hown hK rfl (by decide) (cr_w Z w_840 rfl hU args) (fun _ h => h) d_M_why_81 rfl) ?_
  refine cr_cons (cr_icge_ok hx hb d_M_why_84 (by decide) rfl) ?_
  refine cr_cons (cr_aload_n_ok hx hb d_M_why_87 rfl rfl) ?_
  refine cr_cons (cr_iconst_ok hx hb d_M_why_88 (by decide) rfl) ?_
  refine cr_cons (cr_iload_ok hx hb d_M_why_89 rfl) ?_
  refine cr_cons (cr_iload_ok hx hb d_M_why_91 rfl) ?_
  refine cr_cons (cr_calV_ok (C := R_M) (Tf := T_M) (N := 41) hx hb hml hown hlk hU hlo hR (cr_W0_st s0) (by rw [hem]; exact fun _ h => absurd h List.not_mem_nil) hK rfl (u_M_told Z) (Or.inl (cr_w Z w_986 rfl hU args)) (cr_w Z w_988 rfl hU args) (cr_w Z ws_34 rfl hU args) (by decide) (by decide +kernel) (by decide) d_M_why_93 rfl) ?_
  refine cr_cons (cr_istore_ok hx hb d_M_why_96 rfl) ?_
  refine cr_cons (cr_aload_n_ok hx hb d_M_why_98 rfl rfl) ?_
  refine cr_cons (cr_iconst_ok hx hb d_M_why_99 (by decide) rfl) ?_
  refine cr_cons (cr_iload_ok hx hb d_M_why_100 rfl) ?_
  refine cr_cons (cr_iload_ok hx hb d_M_why_102 rfl) ?_
  exact cr_nil
set_option maxHeartbeats 4000000 in
set_option maxRecDepth 20000 in
theorem s_M_why_2 {p : Program} {l : Launch} {e : Env} {R : Room} {s : State} {m : MethodId} {args : Array Value} {below : List Frame} {meth : Method} {c : Code} {s0 : State} {D : va_G} {ca : Nat → ClassId} {e0 d mc ms : Nat} {Q : cr_Q} (hl : l.flags = flags0) (Z : cr_Z0 s0 D ca e0) (C : cr_C p R s m meth c (cr_W0 s0) s0.heap.size y_M_why c_M_why 11 (Option.some FieldType.int) d mc ms) (hem : c.exceptionTable.toList = []) : ∀ x ∈ t_M_why_2 l s0 D ca e0 d mc ms, cr_Snd p l e R s m args below meth c s0.heap.size mc ms Q x.1 x.2 := by
  obtain ⟨hx, hb, hml, hown, hr, hlk, hnm, hU, hlo, hR⟩ := C
  have hK := cr_Z0K Z hU
  have hRc : R.cells = mc := by rw [hR]; rfl
  have hRs : R.slots = ms := by rw [hR]; rfl
  unfold t_M_why_2
  refine cr_cons (cr_calV_ok (C := R_M) (Tf := T_M) (N := 41) hx hb hml hown hlk hU hlo hR (cr_W0_st s0) (by rw [hem]; exact fun _ h => absurd h List.not_mem_nil) hK rfl (u_M_told Z) (Or.inl (cr_w Z w_986 rfl hU args)) (cr_w Z w_988 rfl hU args) (cr_w Z ws_34 rfl hU args) (by decide) (by decide +kernel) (by decide) d_M_why_104 rfl) ?_
  refine cr_cons (cr_iflt_ok hx hb d_M_why_107 (by decide) rfl) ?_
  refine cr_cons (cr_aload_n_ok hx hb d_M_why_110 rfl rfl) ?_
  refine cr_cons (cr_getf_ok (C := R_M) (T := T_M) (N := 41) hx hb (k_M Z hU args) (fun _ h => h) hown hK rfl (by decide) (cr_w Z w_845 rfl hU args) (fun _ h => h) d_M_why_111 rfl) ?_
  refine cr_cons (cr_iload_ok hx hb d_M_why_114 rfl) ?_
  refine cr_cons (cr_iald_ok (t0 := 0) hx hb hK rfl d_M_why_116 rfl) ?_
  refine cr_cons (cr_iload_n_ok hx hb d_M_why_117 rfl rfl) ?_
  refine cr_cons (cr_icgt_ok hx hb d_M_why_118 (by decide) rfl) ?_
  refine cr_cons (cr_iload_ok hx hb d_M_why_121 rfl) ?_
  refine cr_cons (cr_iflt_ok hx hb d_M_why_123 (by decide) rfl) ?_
  refine cr_cons (cr_iload_ok hx hb d_M_why_126 rfl) ?_
  refine cr_cons (cr_iload_n_ok hx hb d_M_why_128 rfl rfl) ?_
  refine cr_cons (cr_icle_ok hx hb d_M_why_129 (by decide) rfl) ?_
  refine cr_cons (cr_iconst_ok hx hb d_M_why_132 (by decide) rfl) ?_
  refine cr_cons (cr_goto_ok hx hb d_M_why_133 (by decide)) ?_
  refine cr_cons (cr_iconst_ok hx hb d_M_why_136 (by decide) rfl) ?_
  refine cr_cons (cr_istore_ok hx hb d_M_why_137 rfl) ?_
  refine cr_cons (cr_iload_ok hx hb d_M_why_139 rfl) ?_
  refine cr_cons (cr_ifeq_ok hx hb d_M_why_141 (by decide) rfl) ?_
  refine cr_cons (cr_aload_n_ok hx hb d_M_why_144 rfl rfl) ?_
  refine cr_cons (cr_iload_ok hx hb d_M_why_145 rfl) ?_
  refine cr_cons (cr_aload_n_ok hx hb d_M_why_147 rfl rfl) ?_
  refine cr_cons (cr_getf_ok (C := R_M) (T := T_M) (N := 41) hx hb (k_M Z hU args) (fun _ h => h) hown hK rfl (by decide) (cr_w Z w_835 rfl hU args) (fun _ h => h) d_M_why_148 rfl) ?_
  refine cr_cons (cr_aload_n_ok hx hb d_M_why_151 rfl rfl) ?_
  refine cr_cons (cr_getf_ok (C := R_M) (T := T_M) (N := 41) hx hb (k_M Z hU args) (fun _ h => h) hown hK rfl (by decide) (cr_w Z w_838 rfl hU args) (fun _ h => h) d_M_why_152 rfl) ?_
  refine cr_cons (cr_iload_n_ok hx hb d_M_why_155 rfl rfl) ?_
  refine cr_cons (cr_iald_ok (t0 := 0) hx hb hK rfl d_M_why_156 rfl) ?_
  refine cr_cons (cr_iald_ok (t0 := 0) hx hb hK rfl d_M_why_157 rfl) ?_
  refine cr_cons (cr_aload_n_ok hx hb d_M_why_158 rfl rfl) ?_
  refine cr_cons (cr_getf_ok (C := R_M) (T := T_M) (N := 41) hx hb (k_M Z hU args) (fun _ h => h) hown hK rfl (by decide) (cr_w Z w_821 rfl hU args) (fun _ h => h) d_M_why_159 rfl) ?_
  exact cr_nil
set_option maxHeartbeats 4000000 in
set_option maxRecDepth 20000 in
theorem s_M_why_3 {p : Program} {l : Launch} {e : Env} {R : Room} {s : State} {m : MethodId} {args : Array Value} {below : List Frame} {meth : Method} {c : Code} {s0 : State} {D : va_G} {ca : Nat → ClassId} {e0 d mc ms : Nat} {Q : cr_Q} (hl : l.flags = flags0) (Z : cr_Z0 s0 D ca e0) (C : cr_C p R s m meth c (cr_W0 s0) s0.heap.size y_M_why c_M_why 11 (Option.some FieldType.int) d mc ms) (hem : c.exceptionTable.toList = []) : ∀ x ∈ t_M_why_3 l s0 D ca e0 d mc ms, cr_Snd p l e R s m args below meth c s0.heap.size mc ms Q x.1 x.2 := by
  obtain ⟨hx, hb, hml, hown, hr, hlk, hnm, hU, hlo, hR⟩ := C
  have hK := cr_Z0K Z hU
  have hRc : R.cells = mc := by rw [hR]; rfl
  have hRs : R.slots = ms := by rw [hR]; rfl
  unfold t_M_why_3
  refine cr_cons (cr_iload_n_ok hx hb d_M_why_162 rfl rfl) ?_
  refine cr_cons (cr_iald_ok (t0 := 0) hx hb hK rfl d_M_why_163 rfl) ?_
  refine cr_cons (cr_iload_n_ok hx hb d_M_why_164 rfl rfl) ?_
  refine cr_cons (cr_sipush_ok hx hb d_M_why_165 (by decide) rfl) ?_
  refine cr_cons (cr_irem_ok hx hb d_M_why_168 rfl) ?_
  refine cr_cons (cr_calV_ok (C := R_M) (Tf := T_M) (N := 41) hx hb hml hown hlk hU hlo hR (cr_W0_st s0) (by rw [hem]; exact fun _ h => absurd h List.not_mem_nil) hK rfl (u_M_spans Z) (Or.inl (cr_w Z w_1026 rfl hU args)) (cr_w Z w_1028 rfl hU args) (cr_w Z ws_39 rfl hU args) (by decide) (by decide +kernel) (by decide) d_M_why_169 rfl) ?_
  refine cr_cons (cr_ifeq_ok hx hb d_M_why_172 (by decide) rfl) ?_
  refine cr_cons (cr_iconst_ok hx hb d_M_why_175 (by decide) rfl) ?_
  refine cr_cons (cr_iret_ok hx hb hr hlk d_M_why_176) ?_
  refine cr_cons (cr_iinc_ok hx hb d_M_why_177 (by decide) rfl) ?_
  refine cr_cons (cr_goto_ok hx hb d_M_why_180 (by decide)) ?_
  refine cr_cons (cr_iconst_ok hx hb d_M_why_183 (by decide) rfl) ?_
  refine cr_cons (cr_iret_ok hx hb hr hlk d_M_why_184) ?_
  exact cr_nil
theorem s_M_why {p : Program} {l : Launch} {e : Env} {R : Room} {s : State} {m : MethodId} {args : Array Value} {below : List Frame} {meth : Method} {c : Code} {s0 : State} {D : va_G} {ca : Nat → ClassId} {e0 d mc ms : Nat} {Q : cr_Q} (hl : l.flags = flags0) (Z : cr_Z0 s0 D ca e0) (C : cr_C p R s m meth c (cr_W0 s0) s0.heap.size y_M_why c_M_why 11 (Option.some FieldType.int) d mc ms) (hem : c.exceptionTable.toList = []) : ∀ x ∈ t_M_why l s0 D ca e0 d mc ms, cr_Snd p l e R s m args below meth c s0.heap.size mc ms Q x.1 x.2 := cr_app (s_M_why_0 hl Z C hem) (cr_app (s_M_why_1 hl Z C hem) (cr_app (s_M_why_2 hl Z C hem) (s_M_why_3 hl Z C hem)))
