theorem d_M_door_0 : decode c_M_door 0 = .ok (.aload_n 0, 1) := by decide +kernel
theorem d_M_door_1 : decode c_M_door 1 = .ok (.iload_n 1, 1) := by decide +kernel
theorem d_M_door_2 : decode c_M_door 2 = .ok (.aload_n 0, 1) := by decide +kernel
theorem d_M_door_3 : decode c_M_door 3 = .ok (.getfield 117, 3) := by decide +kernel
theorem d_M_door_6 : decode c_M_door 6 = .ok (.invokestatic 113, 3) := by decide +kernel
theorem d_M_door_9 : decode c_M_door 9 = .ok (.ifCond .eq 23, 3) := by decide +kernel
theorem d_M_door_12 : decode c_M_door 12 = .ok (.iload_n 2, 1) := by decide +kernel
theorem d_M_door_13 : decode c_M_door 13 = .ok (.aload_n 0, 1) := by decide +kernel
theorem d_M_door_14 : decode c_M_door 14 = .ok (.getfield 117, 3) := by decide +kernel
theorem d_M_door_17 : decode c_M_door 17 = .ok (.invokestatic 113, 3) := by decide +kernel
theorem d_M_door_20 : decode c_M_door 20 = .ok (.ifCond .eq 12, 3) := by decide +kernel
theorem d_M_door_23 : decode c_M_door 23 = .ok (.iload_n 1, 1) := by decide +kernel
theorem d_M_door_24 : decode c_M_door 24 = .ok (.iload_n 2, 1) := by decide +kernel
theorem d_M_door_25 : decode c_M_door 25 = .ok (.if_icmp .eq 7, 3) := by decide +kernel
theorem d_M_door_28 : decode c_M_door 28 = .ok (.iconst 1, 1) := by decide +kernel
theorem d_M_door_29 : decode c_M_door 29 = .ok (.goto 4, 3) := by decide +kernel
theorem d_M_door_32 : decode c_M_door 32 = .ok (.iconst 0, 1) := by decide +kernel
theorem d_M_door_33 : decode c_M_door 33 = .ok (.aload_n 0, 1) := by decide +kernel
theorem d_M_door_34 : decode c_M_door 34 = .ok (.getfield 124, 3) := by decide +kernel
theorem d_M_door_37 : decode c_M_door 37 = .ok (.bipush 30, 2) := by decide +kernel
theorem d_M_door_39 : decode c_M_door 39 = .ok (.if_icmp .ge 7, 3) := by decide +kernel
theorem d_M_door_42 : decode c_M_door 42 = .ok (.iconst 1, 1) := by decide +kernel
theorem d_M_door_43 : decode c_M_door 43 = .ok (.goto 4, 3) := by decide +kernel
theorem d_M_door_46 : decode c_M_door 46 = .ok (.iconst 0, 1) := by decide +kernel
theorem d_M_door_47 : decode c_M_door 47 = .ok (.invokevirtual 120, 3) := by decide +kernel
theorem d_M_door_50 : decode c_M_door 50 = .ok (.ifCond .ne 5, 3) := by decide +kernel
theorem d_M_door_53 : decode c_M_door 53 = .ok (.iconst 0, 1) := by decide +kernel
theorem d_M_door_54 : decode c_M_door 54 = .ok (.ireturn, 1) := by decide +kernel
theorem d_M_door_55 : decode c_M_door 55 = .ok (.aload_n 0, 1) := by decide +kernel
theorem d_M_door_56 : decode c_M_door 56 = .ok (.getfield 13, 3) := by decide +kernel
theorem d_M_door_59 : decode c_M_door 59 = .ok (.aload_n 0, 1) := by decide +kernel
theorem d_M_door_60 : decode c_M_door 60 = .ok (.getfield 124, 3) := by decide +kernel
theorem d_M_door_63 : decode c_M_door 63 = .ok (.iload_n 1, 1) := by decide +kernel
theorem d_M_door_64 : decode c_M_door 64 = .ok (.iastore, 1) := by decide +kernel
theorem d_M_door_65 : decode c_M_door 65 = .ok (.aload_n 0, 1) := by decide +kernel
theorem d_M_door_66 : decode c_M_door 66 = .ok (.getfield 16, 3) := by decide +kernel
theorem d_M_door_69 : decode c_M_door 69 = .ok (.aload_n 0, 1) := by decide +kernel
theorem d_M_door_70 : decode c_M_door 70 = .ok (.getfield 124, 3) := by decide +kernel
theorem d_M_door_73 : decode c_M_door 73 = .ok (.iload_n 2, 1) := by decide +kernel
theorem d_M_door_74 : decode c_M_door 74 = .ok (.iastore, 1) := by decide +kernel
theorem d_M_door_75 : decode c_M_door 75 = .ok (.aload_n 0, 1) := by decide +kernel
theorem d_M_door_76 : decode c_M_door 76 = .ok (.getfield 29, 3) := by decide +kernel
theorem d_M_door_79 : decode c_M_door 79 = .ok (.aload_n 0, 1) := by decide +kernel
theorem d_M_door_80 : decode c_M_door 80 = .ok (.getfield 124, 3) := by decide +kernel
theorem d_M_door_83 : decode c_M_door 83 = .ok (.sipush 9000, 3) := by decide +kernel
theorem d_M_door_86 : decode c_M_door 86 = .ok (.iastore, 1) := by decide +kernel
theorem d_M_door_87 : decode c_M_door 87 = .ok (.aload_n 0, 1) := by decide +kernel
theorem d_M_door_88 : decode c_M_door 88 = .ok (.dup, 1) := by decide +kernel
theorem d_M_door_89 : decode c_M_door 89 = .ok (.getfield 124, 3) := by decide +kernel
theorem d_M_door_92 : decode c_M_door 92 = .ok (.iconst 1, 1) := by decide +kernel
theorem d_M_door_93 : decode c_M_door 93 = .ok (.iadd, 1) := by decide +kernel
theorem d_M_door_94 : decode c_M_door 94 = .ok (.putfield 124, 3) := by decide +kernel
theorem d_M_door_97 : decode c_M_door 97 = .ok (.aload_n 0, 1) := by decide +kernel
theorem d_M_door_98 : decode c_M_door 98 = .ok (.getfield 124, 3) := by decide +kernel
theorem d_M_door_101 : decode c_M_door 101 = .ok (.iconst 1, 1) := by decide +kernel
theorem d_M_door_102 : decode c_M_door 102 = .ok (.isub, 1) := by decide +kernel
theorem d_M_door_103 : decode c_M_door 103 = .ok (.ireturn, 1) := by decide +kernel
def t_M_door_0 (l : Launch) (s0 : State) (D : va_G) (ca : Nat → ClassId) (e0 d mc ms : Nat) : List (Nat × cr_T) := [(0, cr_aload 0 1),
  (1, cr_iload 1 2),
  (2, cr_aload 0 3),
  (3, cr_getf D kc 11 2 6),
  (6, cr_calS l (cr_W0 s0) s0.heap.size y_M_isIn cw_M_isIn d mc ms 2 3 9),
  (9, cr_ifeq 32 12),
  (12, cr_iload 2 13),
  (13, cr_aload 0 14),
  (14, cr_getf D kc 11 2 17),
  (17, cr_calS l (cr_W0 s0) s0.heap.size y_M_isIn cw_M_isIn d mc ms 2 3 20),
  (20, cr_ifeq 32 23),
  (23, cr_iload 1 24),
  (24, cr_iload 2 25),
  (25, cr_iceq 32 28),
  (28, cr_push (.int 1) 29),
  (29, cr_goto 33),
  (32, cr_push (.int 0) 33),
  (33, cr_aload 0 34),
  (34, cr_getf D kc 11 4 37),
  (37, cr_push (.int 30) 39),
  (39, cr_icge 46 42),
  (42, cr_push (.int 1) 43),
  (43, cr_goto 47),
  (46, cr_push (.int 0) 47),
  (47, cr_calV D kc l (cr_W0 s0) s0.heap.size 11 y_M_goes cw_M_goes d mc ms 2 3 50),
  (50, cr_ifne 55 53),
  (53, cr_push (.int 0) 54),
  (54, cr_iret mc ms),
  (55, cr_aload 0 56),
  (56, cr_getf D kc 11 5 59)]
def t_M_door_1 (l : Launch) (s0 : State) (D : va_G) (ca : Nat → ClassId) (e0 d mc ms : Nat) : List (Nat × cr_T) := [(59, cr_aload 0 60),
  (60, cr_getf D kc 11 4 63),
  (63, cr_iload 1 64),
  (64, cr_iast D kc s0.heap.size (ca 0) 65),
  (65, cr_aload 0 66),
  (66, cr_getf D kc 11 6 69),
  (69, cr_aload 0 70),
  (70, cr_getf D kc 11 4 73),
  (73, cr_iload 2 74),
  (74, cr_iast D kc s0.heap.size (ca 0) 75),
  (75, cr_aload 0 76),
  (76, cr_getf D kc 11 10 79),
  (79, cr_aload 0 80),
  (80, cr_getf D kc 11 4 83),
  (83, cr_push (.int 9000) 86),
  (86, cr_iast D kc s0.heap.size (ca 0) 87),
  (87, cr_aload 0 88),
  (88, cr_dup 89),
  (89, cr_getf D kc 11 4 92),
  (92, cr_push (.int 1) 93),
  (93, cr_iadd 94),
  (94, cr_putf D kc s0.heap.size 11 4 .int 97),
  (97, cr_aload 0 98),
  (98, cr_getf D kc 11 4 101),
  (101, cr_push (.int 1) 102),
  (102, cr_isub 103),
  (103, cr_iret mc ms)]
def t_M_door (l : Launch) (s0 : State) (D : va_G) (ca : Nat → ClassId) (e0 d mc ms : Nat) : List (Nat × cr_T) := t_M_door_0 l s0 D ca e0 d mc ms ++ (t_M_door_1 l s0 D ca e0 d mc ms)
set_option maxHeartbeats 4000000 in
set_option maxRecDepth 20000 in
theorem s_M_door_0 {p : Program} {l : Launch} {e : Env} {R : Room} {s : State} {m : MethodId} {args : Array Value} {below : List Frame} {meth : Method} {c : Code} {s0 : State} {D : va_G} {ca : Nat → ClassId} {e0 d mc ms : Nat} {Q : cr_Q} (hl : l.flags = flags0) (Z : cr_Z0 s0 D ca e0) (C : cr_C p R s m meth c (cr_W0 s0) s0.heap.size y_M_door c_M_door 3 (Option.some FieldType.int) d mc ms) (hem : c.exceptionTable.toList = []) : ∀ x ∈ t_M_door_0 l s0 D ca e0 d mc ms, cr_Snd p l e R s m args below meth c s0.heap.size mc ms Q x.1 x.2 := by
  obtain ⟨hx, hb, hml, hown, hr, hlk, hnm, hU, hlo, hR⟩ := C
  have hK := cr_Z0K Z hU
  have hRc : R.cells = mc := by rw [hR]; rfl
  have hRs : R.slots = ms := by rw [hR]; rfl
  unfold t_M_door_0
  refine cr_cons (cr_aload_n_ok hx hb d_M_door_0 rfl rfl) ?_
  refine cr_cons (cr_iload_n_ok hx hb d_M_door_1 rfl rfl) ?_
  refine cr_cons (cr_aload_n_ok hx hb d_M_door_2 rfl rfl) ?_
  refine cr_cons (cr_getf_ok (C := R_M) (T := T_M) (N := 41) hx hb (k_M Z hU args) (fun _ h => h) hown hK rfl (by decide) (cr_w Z w_820 rfl hU args) (fun _ h => h) d_M_door_3 rfl) ?_
  refine cr_cons (cr_calS_ok hx hb hml hown hlk hU hlo hR (cr_W0_st s0) (by rw [hem]; exact fun _ h => absurd h List.not_mem_nil) (u_M_isIn Z) (Or.inl (cr_w Z w_951 rfl hU args)) (cr_w Z w_952 rfl hU args) (by decide) (by decide +kernel) (by decide) d_M_door_6 rfl) ?_
  refine cr_cons (cr_ifeq_ok hx hb d_M_door_9 (by decide) rfl) ?_
  refine cr_cons (cr_iload_n_ok hx hb d_M_door_12 rfl rfl) ?_
  refine cr_cons (cr_aload_n_ok hx hb d_M_door_13 rfl rfl) ?_
  refine cr_cons (cr_getf_ok (C := R_M) (T := T_M) (N := 41) hx hb (k_M Z hU args) (fun _ h => h) hown hK rfl (by decide) (cr_w Z w_820 rfl hU args) (fun _ h => h) d_M_door_14 rfl) ?_
  refine cr_cons (cr_calS_ok hx hb hml hown hlk hU hlo hR (cr_W0_st s0) (by rw [hem]; exact fun _ h => absurd h List.not_mem_nil) (u_M_isIn Z) (Or.inl (cr_w Z w_951 rfl hU args)) (cr_w Z w_952 rfl hU args) (by decide) (by decide +kernel) (by decide) d_M_door_17 rfl) ?_
  refine cr_cons (cr_ifeq_ok hx hb d_M_door_20 (by decide) rfl) ?_
  refine cr_cons (cr_iload_n_ok hx hb d_M_door_23 rfl rfl) ?_
  refine cr_cons (cr_iload_n_ok hx hb d_M_door_24 rfl rfl) ?_
  refine cr_cons (cr_iceq_ok hx hb d_M_door_25 (by decide) rfl) ?_
  refine cr_cons (cr_iconst_ok hx hb d_M_door_28 (by decide) rfl) ?_
  refine cr_cons (cr_goto_ok hx hb d_M_door_29 (by decide)) ?_
  refine cr_cons (cr_iconst_ok hx hb d_M_door_32 (by decide) rfl) ?_
  refine cr_cons (cr_aload_n_ok hx hb d_M_door_33 rfl rfl) ?_
  refine cr_cons (cr_getf_ok (C := R_M) (T := T_M) (N := 41) hx hb (k_M Z hU args) (fun _ h => h) hown hK rfl (by decide) (cr_w Z w_822 rfl hU args) (fun _ h => h) d_M_door_34 rfl) ?_
  refine cr_cons (cr_bipush_ok hx hb d_M_door_37 (by decide) rfl) ?_
  refine cr_cons (cr_icge_ok hx hb d_M_door_39 (by decide) rfl) ?_
  refine cr_cons (cr_iconst_ok hx hb d_M_door_42 (by decide) rfl) ?_
  refine cr_cons (cr_goto_ok hx hb d_M_door_43 (by decide)) ?_
  refine cr_cons (cr_iconst_ok hx hb d_M_door_46 (by decide) rfl) ?_
  refine cr_cons (cr_calV_ok (C := R_M) (Tf := T_M) (N := 41) hx hb hml hown hlk hU hlo hR (cr_W0_st s0) (by rw [hem]; exact fun _ h => absurd h List.not_mem_nil) hK rfl (u_M_goes Z) (Or.inl (cr_w Z w_954 rfl hU args)) (cr_w Z w_956 rfl hU args) (cr_w Z ws_32 rfl hU args) (by decide) (by decide +kernel) (by decide) d_M_door_47 rfl) ?_
  refine cr_cons (cr_ifne_ok hx hb d_M_door_50 (by decide) rfl) ?_
  refine cr_cons (cr_iconst_ok hx hb d_M_door_53 (by decide) rfl) ?_
  refine cr_cons (cr_iret_ok hx hb hr hlk d_M_door_54) ?_
  refine cr_cons (cr_aload_n_ok hx hb d_M_door_55 rfl rfl) ?_
  refine cr_cons (cr_getf_ok (C := R_M) (T := T_M) (N := 41) hx hb (k_M Z hU args) (fun _ h => h) hown hK rfl (by decide) (cr_w Z w_823 rfl hU args) (fun _ h => h) d_M_door_56 rfl) ?_
  exact cr_nil
set_option maxHeartbeats 4000000 in
set_option maxRecDepth 20000 in
theorem s_M_door_1 {p : Program} {l : Launch} {e : Env} {R : Room} {s : State} {m : MethodId} {args : Array Value} {below : List Frame} {meth : Method} {c : Code} {s0 : State} {D : va_G} {ca : Nat → ClassId} {e0 d mc ms : Nat} {Q : cr_Q} (hl : l.flags = flags0) (Z : cr_Z0 s0 D ca e0) (C : cr_C p R s m meth c (cr_W0 s0) s0.heap.size y_M_door c_M_door 3 (Option.some FieldType.int) d mc ms) (hem : c.exceptionTable.toList = []) : ∀ x ∈ t_M_door_1 l s0 D ca e0 d mc ms, cr_Snd p l e R s m args below meth c s0.heap.size mc ms Q x.1 x.2 := by
  obtain ⟨hx, hb, hml, hown, hr, hlk, hnm, hU, hlo, hR⟩ := C
  have hK := cr_Z0K Z hU
  have hRc : R.cells = mc := by rw [hR]; rfl
  have hRs : R.slots = ms := by rw [hR]; rfl
  unfold t_M_door_1
  refine cr_cons (cr_aload_n_ok hx hb d_M_door_59 rfl rfl) ?_
  refine cr_cons (cr_getf_ok (C := R_M) (T := T_M) (N := 41) hx hb (k_M Z hU args) (fun _ h => h) hown hK rfl (by decide) (cr_w Z w_822 rfl hU args) (fun _ h => h) d_M_door_60 rfl) ?_
  refine cr_cons (cr_iload_n_ok hx hb d_M_door_63 rfl rfl) ?_
  refine cr_cons (cr_iast_ok (t0 := 0) hx hb hK rfl d_M_door_64 rfl) ?_
  refine cr_cons (cr_aload_n_ok hx hb d_M_door_65 rfl rfl) ?_
  refine cr_cons (cr_getf_ok (C := R_M) (T := T_M) (N := 41) hx hb (k_M Z hU args) (fun _ h => h) hown hK rfl (by decide) (cr_w Z w_824 rfl hU args) (fun _ h => h) d_M_door_66 rfl) ?_
  refine cr_cons (cr_aload_n_ok hx hb d_M_door_69 rfl rfl) ?_
  refine cr_cons (cr_getf_ok (C := R_M) (T := T_M) (N := 41) hx hb (k_M Z hU args) (fun _ h => h) hown hK rfl (by decide) (cr_w Z w_822 rfl hU args) (fun _ h => h) d_M_door_70 rfl) ?_
  refine cr_cons (cr_iload_n_ok hx hb d_M_door_73 rfl rfl) ?_
  refine cr_cons (cr_iast_ok (t0 := 0) hx hb hK rfl d_M_door_74 rfl) ?_
  refine cr_cons (cr_aload_n_ok hx hb d_M_door_75 rfl rfl) ?_
  refine cr_cons (cr_getf_ok (C := R_M) (T := T_M) (N := 41) hx hb (k_M Z hU args) (fun _ h => h) hown hK rfl (by decide) (cr_w Z w_828 rfl hU args) (fun _ h => h) d_M_door_76 rfl) ?_
  refine cr_cons (cr_aload_n_ok hx hb d_M_door_79 rfl rfl) ?_
  refine cr_cons (cr_getf_ok (C := R_M) (T := T_M) (N := 41) hx hb (k_M Z hU args) (fun _ h => h) hown hK rfl (by decide) (cr_w Z w_822 rfl hU args) (fun _ h => h) d_M_door_80 rfl) ?_
  refine cr_cons (cr_sipush_ok hx hb d_M_door_83 (by decide) rfl) ?_
  refine cr_cons (cr_iast_ok (t0 := 0) hx hb hK rfl d_M_door_86 rfl) ?_
  refine cr_cons (cr_aload_n_ok hx hb d_M_door_87 rfl rfl) ?_
  refine cr_cons (cr_dup_ok hx hb d_M_door_88 rfl) ?_
  refine cr_cons (cr_getf_ok (C := R_M) (T := T_M) (N := 41) hx hb (k_M Z hU args) (fun _ h => h) hown hK rfl (by decide) (cr_w Z w_822 rfl hU args) (fun _ h => h) d_M_door_89 rfl) ?_
  refine cr_cons (cr_iconst_ok hx hb d_M_door_92 (by decide) rfl) ?_
  refine cr_cons (cr_iadd_ok hx hb d_M_door_93 rfl) ?_
  refine cr_cons (cr_putf_ok (C := R_M) (T := T_M) (N := 41) tt_M hx hb (k_M Z hU args) (fun _ h => h) ty_M nm_M hown hK rfl (by decide) (Or.inl (cr_w Z w_822 rfl hU args)) (fun _ h => h) rfl (by decide +kernel) d_M_door_94 rfl) ?_
  refine cr_cons (cr_aload_n_ok hx hb d_M_door_97 rfl rfl) ?_
  refine cr_cons (cr_getf_ok (C := R_M) (T := T_M) (N := 41) hx hb (k_M Z hU args) (fun _ h => h) hown hK rfl (by decide) (cr_w Z w_822 rfl hU args) (fun _ h => h) d_M_door_98 rfl) ?_
  refine cr_cons (cr_iconst_ok hx hb d_M_door_101 (by decide) rfl) ?_
  refine cr_cons (cr_isub_ok hx hb d_M_door_102 rfl) ?_
  refine cr_cons (cr_iret_ok hx hb hr hlk d_M_door_103) ?_
  exact cr_nil
theorem s_M_door {p : Program} {l : Launch} {e : Env} {R : Room} {s : State} {m : MethodId} {args : Array Value} {below : List Frame} {meth : Method} {c : Code} {s0 : State} {D : va_G} {ca : Nat → ClassId} {e0 d mc ms : Nat} {Q : cr_Q} (hl : l.flags = flags0) (Z : cr_Z0 s0 D ca e0) (C : cr_C p R s m meth c (cr_W0 s0) s0.heap.size y_M_door c_M_door 3 (Option.some FieldType.int) d mc ms) (hem : c.exceptionTable.toList = []) : ∀ x ∈ t_M_door l s0 D ca e0 d mc ms, cr_Snd p l e R s m args below meth c s0.heap.size mc ms Q x.1 x.2 := cr_app (s_M_door_0 hl Z C hem) (s_M_door_1 hl Z C hem)
theorem d_M_person_0 : decode c_M_person 0 = .ok (.aload_n 0, 1) := by decide +kernel
theorem d_M_person_1 : decode c_M_person 1 = .ok (.iload_n 1, 1) := by decide +kernel
theorem d_M_person_2 : decode c_M_person 2 = .ok (.bipush 10, 2) := by decide +kernel
theorem d_M_person_4 : decode c_M_person 4 = .ok (.invokestatic 113, 3) := by decide +kernel
theorem d_M_person_7 : decode c_M_person 7 = .ok (.aload_n 0, 1) := by decide +kernel
theorem d_M_person_8 : decode c_M_person 8 = .ok (.getfield 127, 3) := by decide +kernel
theorem d_M_person_11 : decode c_M_person 11 = .ok (.bipush 40, 2) := by decide +kernel
theorem d_M_person_13 : decode c_M_person 13 = .ok (.if_icmp .ge 14, 3) := by decide +kernel
theorem d_M_person_16 : decode c_M_person 16 = .ok (.aload_n 0, 1) := by decide +kernel
theorem d_M_person_17 : decode c_M_person 17 = .ok (.getfield 117, 3) := by decide +kernel
theorem d_M_person_20 : decode c_M_person 20 = .ok (.ifCond .le 7, 3) := by decide +kernel
theorem d_M_person_23 : decode c_M_person 23 = .ok (.iconst 1, 1) := by decide +kernel
theorem d_M_person_24 : decode c_M_person 24 = .ok (.goto 4, 3) := by decide +kernel
theorem d_M_person_27 : decode c_M_person 27 = .ok (.iconst 0, 1) := by decide +kernel
theorem d_M_person_28 : decode c_M_person 28 = .ok (.invokevirtual 120, 3) := by decide +kernel
theorem d_M_person_31 : decode c_M_person 31 = .ok (.ifCond .ne 5, 3) := by decide +kernel
theorem d_M_person_34 : decode c_M_person 34 = .ok (.iconst 0, 1) := by decide +kernel
theorem d_M_person_35 : decode c_M_person 35 = .ok (.ireturn, 1) := by decide +kernel
theorem d_M_person_36 : decode c_M_person 36 = .ok (.aload_n 0, 1) := by decide +kernel
theorem d_M_person_37 : decode c_M_person 37 = .ok (.getfield 47, 3) := by decide +kernel
theorem d_M_person_40 : decode c_M_person 40 = .ok (.aload_n 0, 1) := by decide +kernel
theorem d_M_person_41 : decode c_M_person 41 = .ok (.getfield 127, 3) := by decide +kernel
theorem d_M_person_44 : decode c_M_person 44 = .ok (.iload_n 1, 1) := by decide +kernel
theorem d_M_person_45 : decode c_M_person 45 = .ok (.iastore, 1) := by decide +kernel
theorem d_M_person_46 : decode c_M_person 46 = .ok (.aload_n 0, 1) := by decide +kernel
theorem d_M_person_47 : decode c_M_person 47 = .ok (.dup, 1) := by decide +kernel
theorem d_M_person_48 : decode c_M_person 48 = .ok (.getfield 127, 3) := by decide +kernel
theorem d_M_person_51 : decode c_M_person 51 = .ok (.iconst 1, 1) := by decide +kernel
theorem d_M_person_52 : decode c_M_person 52 = .ok (.iadd, 1) := by decide +kernel
theorem d_M_person_53 : decode c_M_person 53 = .ok (.putfield 127, 3) := by decide +kernel
theorem d_M_person_56 : decode c_M_person 56 = .ok (.aload_n 0, 1) := by decide +kernel
theorem d_M_person_57 : decode c_M_person 57 = .ok (.getfield 127, 3) := by decide +kernel
theorem d_M_person_60 : decode c_M_person 60 = .ok (.iconst 1, 1) := by decide +kernel
theorem d_M_person_61 : decode c_M_person 61 = .ok (.isub, 1) := by decide +kernel
theorem d_M_person_62 : decode c_M_person 62 = .ok (.ireturn, 1) := by decide +kernel
def t_M_person_0 (l : Launch) (s0 : State) (D : va_G) (ca : Nat → ClassId) (e0 d mc ms : Nat) : List (Nat × cr_T) := [(0, cr_aload 0 1),
  (1, cr_iload 1 2),
  (2, cr_push (.int 10) 4),
  (4, cr_calS l (cr_W0 s0) s0.heap.size y_M_isIn cw_M_isIn d mc ms 2 2 7),
  (7, cr_aload 0 8),
  (8, cr_getf D kc 11 16 11),
  (11, cr_push (.int 40) 13),
  (13, cr_icge 27 16),
  (16, cr_aload 0 17),
  (17, cr_getf D kc 11 2 20),
  (20, cr_ifle 27 23),
  (23, cr_push (.int 1) 24),
  (24, cr_goto 28),
  (27, cr_push (.int 0) 28),
  (28, cr_calV D kc l (cr_W0 s0) s0.heap.size 11 y_M_goes cw_M_goes d mc ms 2 2 31),
  (31, cr_ifne 36 34),
  (34, cr_push (.int 0) 35),
  (35, cr_iret mc ms),
  (36, cr_aload 0 37),
  (37, cr_getf D kc 11 17 40),
  (40, cr_aload 0 41),
  (41, cr_getf D kc 11 16 44),
  (44, cr_iload 1 45),
  (45, cr_iast D kc s0.heap.size (ca 0) 46),
  (46, cr_aload 0 47),
  (47, cr_dup 48),
  (48, cr_getf D kc 11 16 51),
  (51, cr_push (.int 1) 52),
  (52, cr_iadd 53),
  (53, cr_putf D kc s0.heap.size 11 16 .int 56)]
def t_M_person_1 (l : Launch) (s0 : State) (D : va_G) (ca : Nat → ClassId) (e0 d mc ms : Nat) : List (Nat × cr_T) := [(56, cr_aload 0 57),
  (57, cr_getf D kc 11 16 60),
  (60, cr_push (.int 1) 61),
  (61, cr_isub 62),
  (62, cr_iret mc ms)]
def t_M_person (l : Launch) (s0 : State) (D : va_G) (ca : Nat → ClassId) (e0 d mc ms : Nat) : List (Nat × cr_T) := t_M_person_0 l s0 D ca e0 d mc ms ++ (t_M_person_1 l s0 D ca e0 d mc ms)
set_option maxHeartbeats 4000000 in
set_option maxRecDepth 20000 in
theorem s_M_person_0 {p : Program} {l : Launch} {e : Env} {R : Room} {s : State} {m : MethodId} {args : Array Value} {below : List Frame} {meth : Method} {c : Code} {s0 : State} {D : va_G} {ca : Nat → ClassId} {e0 d mc ms : Nat} {Q : cr_Q} (hl : l.flags = flags0) (Z : cr_Z0 s0 D ca e0) (C : cr_C p R s m meth c (cr_W0 s0) s0.heap.size y_M_person c_M_person 2 (Option.some FieldType.int) d mc ms) (hem : c.exceptionTable.toList = []) : ∀ x ∈ t_M_person_0 l s0 D ca e0 d mc ms, cr_Snd p l e R s m args below meth c s0.heap.size mc ms Q x.1 x.2 := by
  obtain ⟨hx, hb, hml, hown, hr, hlk, hnm, hU, hlo, hR⟩ := C
  have hK := cr_Z0K Z hU
  have hRc : R.cells = mc := by rw [hR]; rfl
  have hRs : R.slots = ms := by rw [hR]; rfl
  unfold t_M_person_0
  refine cr_cons (cr_aload_n_ok hx hb d_M_person_0 rfl rfl) ?_
  refine cr_cons (cr_iload_n_ok hx hb d_M_person_1 rfl rfl) ?_
  refine cr_cons (cr_bipush_ok hx hb d_M_person_2 (by decide) rfl) ?_
  refine cr_cons (cr_calS_ok hx hb hml hown hlk hU hlo hR (cr_W0_st s0) (by rw [hem]; exact fun _ h => absurd h List.not_mem_nil) (u_M_isIn Z) (Or.inl (cr_w Z w_951 rfl hU args)) (cr_w Z w_952 rfl hU args) (by decide) (by decide +kernel) (by decide) d_M_person_4 rfl) ?_
  refine cr_cons (cr_aload_n_ok hx hb d_M_person_7 rfl rfl) ?_
  refine cr_cons (cr_getf_ok (C := R_M) (T := T_M) (N := 41) hx hb (k_M Z hU args) (fun _ h => h) hown hK rfl (by decide) (cr_w Z w_834 rfl hU args) (fun _ h => h) d_M_person_8 rfl) ?_
  refine cr_cons (cr_bipush_ok hx hb d_M_person_11 (by decide) rfl) ?_
  refine cr_cons (cr_icge_ok hx hb d_M_person_13 (by decide) rfl) ?_
  refine cr_cons (cr_aload_n_ok hx hb d_M_person_16 rfl rfl) ?_
  refine cr_cons (cr_getf_ok (C := R_M) (T := T_M) (N := 41) hx hb (k_M Z hU args) (fun _ h => h) hown hK rfl (by decide) (cr_w Z w_820 rfl hU args) (fun _ h => h) d_M_person_17 rfl) ?_
  refine cr_cons (cr_ifle_ok hx hb d_M_person_20 (by decide) rfl) ?_
  refine cr_cons (cr_iconst_ok hx hb d_M_person_23 (by decide) rfl) ?_
  refine cr_cons (cr_goto_ok hx hb d_M_person_24 (by decide)) ?_
  refine cr_cons (cr_iconst_ok hx hb d_M_person_27 (by decide) rfl) ?_
  refine cr_cons (cr_calV_ok (C := R_M) (Tf := T_M) (N := 41) hx hb hml hown hlk hU hlo hR (cr_W0_st s0) (by rw [hem]; exact fun _ h => absurd h List.not_mem_nil) hK rfl (u_M_goes Z) (Or.inl (cr_w Z w_954 rfl hU args)) (cr_w Z w_956 rfl hU args) (cr_w Z ws_32 rfl hU args) (by decide) (by decide +kernel) (by decide) d_M_person_28 rfl) ?_
  refine cr_cons (cr_ifne_ok hx hb d_M_person_31 (by decide) rfl) ?_
  refine cr_cons (cr_iconst_ok hx hb d_M_person_34 (by decide) rfl) ?_
  refine cr_cons (cr_iret_ok hx hb hr hlk d_M_person_35) ?_
  refine cr_cons (cr_aload_n_ok hx hb d_M_person_36 rfl rfl) ?_
  refine cr_cons (cr_getf_ok (C := R_M) (T := T_M) (N := 41) hx hb (k_M Z hU args) (fun _ h => h) hown hK rfl (by decide) (cr_w Z w_835 rfl hU args) (fun _ h => h) d_M_person_37 rfl) ?_
  refine cr_cons (cr_aload_n_ok hx hb d_M_person_40 rfl rfl) ?_
  refine cr_cons (cr_getf_ok (C := R_M) (T := T_M) (N := 41) hx hb (k_M Z hU args) (fun _ h => h) hown hK rfl (by decide) (cr_w Z w_834 rfl hU args) (fun _ h => h) d_M_person_41 rfl) ?_
  refine cr_cons (cr_iload_n_ok hx hb d_M_person_44 rfl rfl) ?_
  refine cr_cons (cr_iast_ok (t0 := 0) hx hb hK rfl d_M_person_45 rfl) ?_
  refine cr_cons (cr_aload_n_ok hx hb d_M_person_46 rfl rfl) ?_
  refine cr_cons (cr_dup_ok hx hb d_M_person_47 rfl) ?_
  refine cr_cons (cr_getf_ok (C := R_M) (T := T_M) (N := 41) hx hb (k_M Z hU args) (fun _ h => h) hown hK rfl (by decide) (cr_w Z w_834 rfl hU args) (fun _ h => h) d_M_person_48 rfl) ?_
  refine cr_cons (cr_iconst_ok hx hb d_M_person_51 (by decide) rfl) ?_
  refine cr_cons (cr_iadd_ok hx hb d_M_person_52 rfl) ?_
  refine cr_cons (cr_putf_ok (C := R_M) (T := T_M) (N := 41) tt_M hx hb (k_M Z hU args) (fun _ h => h) ty_M nm_M hown hK rfl (by decide) (Or.inl (cr_w Z w_834 rfl hU args)) (fun _ h => h) rfl (by decide +kernel) d_M_person_53 rfl) ?_
  exact cr_nil
set_option maxHeartbeats 4000000 in
set_option maxRecDepth 20000 in
theorem s_M_person_1 {p : Program} {l : Launch} {e : Env} {R : Room} {s : State} {m : MethodId} {args : Array Value} {below : List Frame} {meth : Method} {c : Code} {s0 : State} {D : va_G} {ca : Nat → ClassId} {e0 d mc ms : Nat} {Q : cr_Q} (hl : l.flags = flags0) (Z : cr_Z0 s0 D ca e0) (C : cr_C p R s m meth c (cr_W0 s0) s0.heap.size y_M_person c_M_person 2 (Option.some FieldType.int) d mc ms) (hem : c.exceptionTable.toList = []) : ∀ x ∈ t_M_person_1 l s0 D ca e0 d mc ms, cr_Snd p l e R s m args below meth c s0.heap.size mc ms Q x.1 x.2 := by
  obtain ⟨hx, hb, hml, hown, hr, hlk, hnm, hU, hlo, hR⟩ := C
  have hK := cr_Z0K Z hU
  have hRc : R.cells = mc := by rw [hR]; rfl
  have hRs : R.slots = ms := by rw [hR]; rfl
  unfold t_M_person_1
  refine cr_cons (cr_aload_n_ok hx hb d_M_person_56 rfl rfl) ?_
  refine cr_cons (cr_getf_ok (C := R_M) (T := T_M) (N := 41) hx hb (k_M Z hU args) (fun _ h => h) hown hK rfl (by decide) (cr_w Z w_834 rfl hU args) (fun _ h => h) d_M_person_57 rfl) ?_
  refine cr_cons (cr_iconst_ok hx hb d_M_person_60 (by decide) rfl) ?_
  refine cr_cons (cr_isub_ok hx hb d_M_person_61 rfl) ?_
  refine cr_cons (cr_iret_ok hx hb hr hlk d_M_person_62) ?_
  exact cr_nil
theorem s_M_person {p : Program} {l : Launch} {e : Env} {R : Room} {s : State} {m : MethodId} {args : Array Value} {below : List Frame} {meth : Method} {c : Code} {s0 : State} {D : va_G} {ca : Nat → ClassId} {e0 d mc ms : Nat} {Q : cr_Q} (hl : l.flags = flags0) (Z : cr_Z0 s0 D ca e0) (C : cr_C p R s m meth c (cr_W0 s0) s0.heap.size y_M_person c_M_person 2 (Option.some FieldType.int) d mc ms) (hem : c.exceptionTable.toList = []) : ∀ x ∈ t_M_person l s0 D ca e0 d mc ms, cr_Snd p l e R s m args below meth c s0.heap.size mc ms Q x.1 x.2 := cr_app (s_M_person_0 hl Z C hem) (s_M_person_1 hl Z C hem)
theorem d_M_card_0 : decode c_M_card 0 = .ok (.aload_n 0, 1) := by decide +kernel
theorem d_M_card_1 : decode c_M_card 1 = .ok (.iload_n 1, 1) := by decide +kernel
theorem d_M_card_2 : decode c_M_card 2 = .ok (.aload_n 0, 1) := by decide +kernel
theorem d_M_card_3 : decode c_M_card 3 = .ok (.getfield 127, 3) := by decide +kernel
theorem d_M_card_6 : decode c_M_card 6 = .ok (.invokestatic 113, 3) := by decide +kernel
theorem d_M_card_9 : decode c_M_card 9 = .ok (.ifCond .eq 14, 3) := by decide +kernel
theorem d_M_card_12 : decode c_M_card 12 = .ok (.iload_n 2, 1) := by decide +kernel
theorem d_M_card_13 : decode c_M_card 13 = .ok (.invokestatic 130, 3) := by decide +kernel
theorem d_M_card_16 : decode c_M_card 16 = .ok (.ifCond .eq 7, 3) := by decide +kernel
theorem d_M_card_19 : decode c_M_card 19 = .ok (.iconst 1, 1) := by decide +kernel
theorem d_M_card_20 : decode c_M_card 20 = .ok (.goto 4, 3) := by decide +kernel
theorem d_M_card_23 : decode c_M_card 23 = .ok (.iconst 0, 1) := by decide +kernel
theorem d_M_card_24 : decode c_M_card 24 = .ok (.aload_n 0, 1) := by decide +kernel
theorem d_M_card_25 : decode c_M_card 25 = .ok (.getfield 134, 3) := by decide +kernel
theorem d_M_card_28 : decode c_M_card 28 = .ok (.bipush 60, 2) := by decide +kernel
theorem d_M_card_30 : decode c_M_card 30 = .ok (.if_icmp .ge 7, 3) := by decide +kernel
theorem d_M_card_33 : decode c_M_card 33 = .ok (.iconst 1, 1) := by decide +kernel
theorem d_M_card_34 : decode c_M_card 34 = .ok (.goto 4, 3) := by decide +kernel
theorem d_M_card_37 : decode c_M_card 37 = .ok (.iconst 0, 1) := by decide +kernel
theorem d_M_card_38 : decode c_M_card 38 = .ok (.invokevirtual 120, 3) := by decide +kernel
theorem d_M_card_41 : decode c_M_card 41 = .ok (.ifCond .ne 5, 3) := by decide +kernel
theorem d_M_card_44 : decode c_M_card 44 = .ok (.iconst 0, 1) := by decide +kernel
theorem d_M_card_45 : decode c_M_card 45 = .ok (.ireturn, 1) := by decide +kernel
theorem d_M_card_46 : decode c_M_card 46 = .ok (.aload_n 0, 1) := by decide +kernel
theorem d_M_card_47 : decode c_M_card 47 = .ok (.getfield 53, 3) := by decide +kernel
theorem d_M_card_50 : decode c_M_card 50 = .ok (.aload_n 0, 1) := by decide +kernel
theorem d_M_card_51 : decode c_M_card 51 = .ok (.getfield 134, 3) := by decide +kernel
theorem d_M_card_54 : decode c_M_card 54 = .ok (.iload_n 1, 1) := by decide +kernel
theorem d_M_card_55 : decode c_M_card 55 = .ok (.iastore, 1) := by decide +kernel
theorem d_M_card_56 : decode c_M_card 56 = .ok (.aload_n 0, 1) := by decide +kernel
theorem d_M_card_57 : decode c_M_card 57 = .ok (.getfield 56, 3) := by decide +kernel
theorem d_M_card_60 : decode c_M_card 60 = .ok (.aload_n 0, 1) := by decide +kernel
theorem d_M_card_61 : decode c_M_card 61 = .ok (.getfield 134, 3) := by decide +kernel
theorem d_M_card_64 : decode c_M_card 64 = .ok (.iload_n 2, 1) := by decide +kernel
theorem d_M_card_65 : decode c_M_card 65 = .ok (.iastore, 1) := by decide +kernel
theorem d_M_card_66 : decode c_M_card 66 = .ok (.aload_n 0, 1) := by decide +kernel
theorem d_M_card_67 : decode c_M_card 67 = .ok (.iconst 0, 1) := by decide +kernel
theorem d_M_card_68 : decode c_M_card 68 = .ok (.aload_n 0, 1) := by decide +kernel
theorem d_M_card_69 : decode c_M_card 69 = .ok (.getfield 134, 3) := by decide +kernel
theorem d_M_card_72 : decode c_M_card 72 = .ok (.iload_n 2, 1) := by decide +kernel
theorem d_M_card_73 : decode c_M_card 73 = .ok (.invokevirtual 137, 3) := by decide +kernel
theorem d_M_card_76 : decode c_M_card 76 = .ok (.aload_n 0, 1) := by decide +kernel
theorem d_M_card_77 : decode c_M_card 77 = .ok (.dup, 1) := by decide +kernel
theorem d_M_card_78 : decode c_M_card 78 = .ok (.getfield 134, 3) := by decide +kernel
theorem d_M_card_81 : decode c_M_card 81 = .ok (.iconst 1, 1) := by decide +kernel
theorem d_M_card_82 : decode c_M_card 82 = .ok (.iadd, 1) := by decide +kernel
theorem d_M_card_83 : decode c_M_card 83 = .ok (.putfield 134, 3) := by decide +kernel
theorem d_M_card_86 : decode c_M_card 86 = .ok (.aload_n 0, 1) := by decide +kernel
theorem d_M_card_87 : decode c_M_card 87 = .ok (.getfield 134, 3) := by decide +kernel
theorem d_M_card_90 : decode c_M_card 90 = .ok (.iconst 1, 1) := by decide +kernel
theorem d_M_card_91 : decode c_M_card 91 = .ok (.isub, 1) := by decide +kernel
theorem d_M_card_92 : decode c_M_card 92 = .ok (.ireturn, 1) := by decide +kernel
def t_M_card_0 (l : Launch) (s0 : State) (D : va_G) (ca : Nat → ClassId) (e0 d mc ms : Nat) : List (Nat × cr_T) := [(0, cr_aload 0 1),
  (1, cr_iload 1 2),
  (2, cr_aload 0 3),
  (3, cr_getf D kc 11 16 6),
  (6, cr_calS l (cr_W0 s0) s0.heap.size y_M_isIn cw_M_isIn d mc ms 2 3 9),
  (9, cr_ifeq 23 12),
  (12, cr_iload 2 13),
  (13, cr_calS l (cr_W0 s0) s0.heap.size y_M_isMinute cw_M_isMinute d mc ms 1 3 16),
  (16, cr_ifeq 23 19),
  (19, cr_push (.int 1) 20),
  (20, cr_goto 24),
  (23, cr_push (.int 0) 24),
  (24, cr_aload 0 25),
  (25, cr_getf D kc 11 19 28),
  (28, cr_push (.int 60) 30),
  (30, cr_icge 37 33),
  (33, cr_push (.int 1) 34),
  (34, cr_goto 38),
  (37, cr_push (.int 0) 38),
  (38, cr_calV D kc l (cr_W0 s0) s0.heap.size 11 y_M_goes cw_M_goes d mc ms 2 3 41),
  (41, cr_ifne 46 44),
  (44, cr_push (.int 0) 45),
  (45, cr_iret mc ms),
  (46, cr_aload 0 47),
  (47, cr_getf D kc 11 20 50),
  (50, cr_aload 0 51),
  (51, cr_getf D kc 11 19 54),
  (54, cr_iload 1 55),
  (55, cr_iast D kc s0.heap.size (ca 0) 56),
  (56, cr_aload 0 57)]
def t_M_card_1 (l : Launch) (s0 : State) (D : va_G) (ca : Nat → ClassId) (e0 d mc ms : Nat) : List (Nat × cr_T) := [(57, cr_getf D kc 11 21 60),
  (60, cr_aload 0 61),
  (61, cr_getf D kc 11 19 64),
  (64, cr_iload 2 65),
  (65, cr_iast D kc s0.heap.size (ca 0) 66),
  (66, cr_aload 0 67),
  (67, cr_push (.int 0) 68),
  (68, cr_aload 0 69),
  (69, cr_getf D kc 11 19 72),
  (72, cr_iload 2 73),
  (73, cr_calV D kc l (cr_W0 s0) s0.heap.size 11 y_M_tell cw_M_tell d mc ms 3 3 76),
  (76, cr_aload 0 77),
  (77, cr_dup 78),
  (78, cr_getf D kc 11 19 81),
  (81, cr_push (.int 1) 82),
  (82, cr_iadd 83),
  (83, cr_putf D kc s0.heap.size 11 19 .int 86),
  (86, cr_aload 0 87),
  (87, cr_getf D kc 11 19 90),
  (90, cr_push (.int 1) 91),
  (91, cr_isub 92),
  (92, cr_iret mc ms)]
def t_M_card (l : Launch) (s0 : State) (D : va_G) (ca : Nat → ClassId) (e0 d mc ms : Nat) : List (Nat × cr_T) := t_M_card_0 l s0 D ca e0 d mc ms ++ (t_M_card_1 l s0 D ca e0 d mc ms)
set_option maxHeartbeats 4000000 in
set_option maxRecDepth 20000 in
theorem s_M_card_0 {p : Program} {l : Launch} {e : Env} {R : Room} {s : State} {m : MethodId} {args : Array Value} {below : List Frame} {meth : Method} {c : Code} {s0 : State} {D : va_G} {ca : Nat → ClassId} {e0 d mc ms : Nat} {Q : cr_Q} (hl : l.flags = flags0) (Z : cr_Z0 s0 D ca e0) (C : cr_C p R s m meth c (cr_W0 s0) s0.heap.size y_M_card c_M_card 3 (Option.some FieldType.int) d mc ms) (hem : c.exceptionTable.toList = []) : ∀ x ∈ t_M_card_0 l s0 D ca e0 d mc ms, cr_Snd p l e R s m args below meth c s0.heap.size mc ms Q x.1 x.2 := by
  obtain ⟨hx, hb, hml, hown, hr, hlk, hnm, hU, hlo, hR⟩ := C
  have hK := cr_Z0K Z hU
  have hRc : R.cells = mc := by rw [hR]; rfl
  have hRs : R.slots = ms := by rw [hR]; rfl
  unfold t_M_card_0
  refine cr_cons (cr_aload_n_ok hx hb d_M_card_0 rfl rfl) ?_
  refine cr_cons (cr_iload_n_ok hx hb d_M_card_1 rfl rfl) ?_
  refine cr_cons (cr_aload_n_ok hx hb d_M_card_2 rfl rfl) ?_
  refine cr_cons (cr_getf_ok (C := R_M) (T := T_M) (N := 41) hx hb (k_M Z hU args) (fun _ h => h) hown hK rfl (by decide) (cr_w Z w_834 rfl hU args) (fun _ h => h) d_M_card_3 rfl) ?_
  refine cr_cons (cr_calS_ok hx hb hml hown hlk hU hlo hR (cr_W0_st s0) (by rw [hem]; exact fun _ h => absurd h List.not_mem_nil) (u_M_isIn Z) (Or.inl (cr_w Z w_951 rfl hU args)) (cr_w Z w_952 rfl hU args) (by decide) (by decide +kernel) (by decide) d_M_card_6 rfl) ?_
  refine cr_cons (cr_ifeq_ok hx hb d_M_card_9 (by decide) rfl) ?_
  refine cr_cons (cr_iload_n_ok hx hb d_M_card_12 rfl rfl) ?_
  refine cr_cons (cr_calS_ok hx hb hml hown hlk hU hlo hR (cr_W0_st s0) (by rw [hem]; exact fun _ h => absurd h List.not_mem_nil) (u_M_isMinute Z) (Or.inl (cr_w Z w_970 rfl hU args)) (cr_w Z w_971 rfl hU args) (by decide) (by decide +kernel) (by decide) d_M_card_13 rfl) ?_
  refine cr_cons (cr_ifeq_ok hx hb d_M_card_16 (by decide) rfl) ?_
  refine cr_cons (cr_iconst_ok hx hb d_M_card_19 (by decide) rfl) ?_
  refine cr_cons (cr_goto_ok hx hb d_M_card_20 (by decide)) ?_
  refine cr_cons (cr_iconst_ok hx hb d_M_card_23 (by decide) rfl) ?_
  refine cr_cons (cr_aload_n_ok hx hb d_M_card_24 rfl rfl) ?_
  refine cr_cons (cr_getf_ok (C := R_M) (T := T_M) (N := 41) hx hb (k_M Z hU args) (fun _ h => h) hown hK rfl (by decide) (cr_w Z w_837 rfl hU args) (fun _ h => h) d_M_card_25 rfl) ?_
  refine cr_cons (cr_bipush_ok hx hb d_M_card_28 (by decide) rfl) ?_
  refine cr_cons (cr_icge_ok hx hb d_M_card_30 (by decide) rfl) ?_
  refine cr_cons (cr_iconst_ok hx hb d_M_card_33 (by decide) rfl) ?_
  refine cr_cons (cr_goto_ok hx hb d_M_card_34 (by decide)) ?_
  refine cr_cons (cr_iconst_ok hx hb d_M_card_37 (by decide) rfl) ?_
  refine cr_cons (cr_calV_ok (C := R_M) (Tf := T_M) (N := 41) hx hb hml hown hlk hU hlo hR (cr_W0_st s0) (by rw [hem]; exact fun _ h => absurd h List.not_mem_nil) hK rfl (u_M_goes Z) (Or.inl (cr_w Z w_954 rfl hU args)) (cr_w Z w_956 rfl hU args) (cr_w Z ws_32 rfl hU args) (by decide) (by decide +kernel) (by decide) d_M_card_38 rfl) ?_
  refine cr_cons (cr_ifne_ok hx hb d_M_card_41 (by decide) rfl) ?_
  refine cr_cons (cr_iconst_ok hx hb d_M_card_44 (by decide) rfl) ?_
  refine cr_cons (cr_iret_ok hx hb hr hlk d_M_card_45) ?_
  refine cr_cons (cr_aload_n_ok hx hb d_M_card_46 rfl rfl) ?_
  refine cr_cons (cr_getf_ok (C := R_M) (T := T_M) (N := 41) hx hb (k_M Z hU args) (fun _ h => h) hown hK rfl (by decide) (cr_w Z w_838 rfl hU args) (fun _ h => h) d_M_card_47 rfl) ?_
  refine cr_cons (cr_aload_n_ok hx hb d_M_card_50 rfl rfl) ?_
  refine cr_cons (cr_getf_ok (C := R_M) (T := T_M) (N := 41) hx hb (k_M Z hU args) (fun _ h => h) hown hK rfl (by decide) (cr_w Z w_837 rfl hU args) (fun _ h => h) d_M_card_51 rfl) ?_
  refine cr_cons (cr_iload_n_ok hx hb d_M_card_54 rfl rfl) ?_
  refine cr_cons (cr_iast_ok (t0 := 0) hx hb hK rfl d_M_card_55 rfl) ?_
  refine cr_cons (cr_aload_n_ok hx hb d_M_card_56 rfl rfl) ?_
  exact cr_nil
set_option maxHeartbeats 4000000 in
set_option maxRecDepth 20000 in
theorem s_M_card_1 {p : Program} {l : Launch} {e : Env} {R : Room} {s : State} {m : MethodId} {args : Array Value} {below : List Frame} {meth : Method} {c : Code} {s0 : State} {D : va_G} {ca : Nat → ClassId} {e0 d mc ms : Nat} {Q : cr_Q} (hl : l.flags = flags0) (Z : cr_Z0 s0 D ca e0) (C : cr_C p R s m meth c (cr_W0 s0) s0.heap.size y_M_card c_M_card 3 (Option.some FieldType.int) d mc ms) (hem : c.exceptionTable.toList = []) : ∀ x ∈ t_M_card_1 l s0 D ca e0 d mc ms, cr_Snd p l e R s m args below meth c s0.heap.size mc ms Q x.1 x.2 := by
  obtain ⟨hx, hb, hml, hown, hr, hlk, hnm, hU, hlo, hR⟩ := C
  have hK := cr_Z0K Z hU
  have hRc : R.cells = mc := by rw [hR]; rfl
  have hRs : R.slots = ms := by rw [hR]; rfl
  unfold t_M_card_1
  refine cr_cons (cr_getf_ok (C := R_M) (T := T_M) (N := 41) hx hb (k_M Z hU args) (fun _ h => h) hown hK rfl (by decide) (cr_w Z w_839 rfl hU args) (fun _ h => h) d_M_card_57 rfl) ?_
  refine cr_cons (cr_aload_n_ok hx hb d_M_card_60 rfl rfl) ?_
  refine cr_cons (cr_getf_ok (C := R_M) (T := T_M) (N := 41) hx hb (k_M Z hU args) (fun _ h => h) hown hK rfl (by decide) (cr_w Z w_837 rfl hU args) (fun _ h => h) d_M_card_61 rfl) ?_
  refine cr_cons (cr_iload_n_ok hx hb d_M_card_64 rfl rfl) ?_
  refine cr_cons (cr_iast_ok (t0 := 0) hx hb hK rfl d_M_card_65 rfl) ?_
  refine cr_cons (cr_aload_n_ok hx hb d_M_card_66 rfl rfl) ?_
  refine cr_cons (cr_iconst_ok hx hb d_M_card_67 (by decide) rfl) ?_
  refine cr_cons (cr_aload_n_ok hx hb d_M_card_68 rfl rfl) ?_
  refine cr_cons (cr_getf_ok (C := R_M) (T := T_M) (N := 41) hx hb (k_M Z hU args) (fun _ h => h) hown hK rfl (by decide) (cr_w Z w_837 rfl hU args) (fun _ h => h) d_M_card_69 rfl) ?_
  refine cr_cons (cr_iload_n_ok hx hb d_M_card_72 rfl rfl) ?_
  refine cr_cons (cr_calV_ok (C := R_M) (Tf := T_M) (N := 41) hx hb hml hown hlk hU hlo hR (cr_W0_st s0) (by rw [hem]; exact fun _ h => absurd h List.not_mem_nil) hK rfl (u_M_tell Z) (Or.inl (cr_w Z w_974 rfl hU args)) (cr_w Z w_976 rfl hU args) (cr_w Z ws_33 rfl hU args) (by decide) (by decide +kernel) (by decide) d_M_card_73 rfl) ?_
  refine cr_cons (cr_aload_n_ok hx hb d_M_card_76 rfl rfl) ?_
  refine cr_cons (cr_dup_ok hx hb d_M_card_77 rfl) ?_
  refine cr_cons (cr_getf_ok (C := R_M) (T := T_M) (N := 41) hx hb (k_M Z hU args) (fun _ h => h) hown hK rfl (by decide) (cr_w Z w_837 rfl hU args) (fun _ h => h) d_M_card_78 rfl) ?_
  refine cr_cons (cr_iconst_ok hx hb d_M_card_81 (by decide) rfl) ?_
  refine cr_cons (cr_iadd_ok hx hb d_M_card_82 rfl) ?_
  refine cr_cons (cr_putf_ok (C := R_M) (T := T_M) (N := 41) tt_M hx hb (k_M Z hU args) (fun _ h => h) ty_M nm_M hown hK rfl (by decide) (Or.inl (cr_w Z w_837 rfl hU args)) (fun _ h => h) rfl (by decide +kernel) d_M_card_83 rfl) ?_
  refine cr_cons (cr_aload_n_ok hx hb d_M_card_86 rfl rfl) ?_
  refine cr_cons (cr_getf_ok (C := R_M) (T := T_M) (N := 41) hx hb (k_M Z hU args) (fun _ h => h) hown hK rfl (by decide) (cr_w Z w_837 rfl hU args) (fun _ h => h) d_M_card_87 rfl) ?_
  refine cr_cons (cr_iconst_ok hx hb d_M_card_90 (by decide) rfl) ?_
  refine cr_cons (cr_isub_ok hx hb d_M_card_91 rfl) ?_
  refine cr_cons (cr_iret_ok hx hb hr hlk d_M_card_92) ?_
  exact cr_nil
theorem s_M_card {p : Program} {l : Launch} {e : Env} {R : Room} {s : State} {m : MethodId} {args : Array Value} {below : List Frame} {meth : Method} {c : Code} {s0 : State} {D : va_G} {ca : Nat → ClassId} {e0 d mc ms : Nat} {Q : cr_Q} (hl : l.flags = flags0) (Z : cr_Z0 s0 D ca e0) (C : cr_C p R s m meth c (cr_W0 s0) s0.heap.size y_M_card c_M_card 3 (Option.some FieldType.int) d mc ms) (hem : c.exceptionTable.toList = []) : ∀ x ∈ t_M_card l s0 D ca e0 d mc ms, cr_Snd p l e R s m args below meth c s0.heap.size mc ms Q x.1 x.2 := cr_app (s_M_card_0 hl Z C hem) (s_M_card_1 hl Z C hem)
theorem d_M_isMinute_0 : decode c_M_isMinute 0 = .ok (.iload_n 0, 1) := by decide +kernel
theorem d_M_isMinute_1 : decode c_M_isMinute 1 = .ok (.ifCond .lt 13, 3) := by decide +kernel
theorem d_M_isMinute_4 : decode c_M_isMinute 4 = .ok (.iload_n 0, 1) := by decide +kernel
theorem d_M_isMinute_5 : decode c_M_isMinute 5 = .ok (.ldc 109, 2) := by decide +kernel
theorem d_M_isMinute_7 : decode c_M_isMinute 7 = .ok (.if_icmp .gt 7, 3) := by decide +kernel
theorem d_M_isMinute_10 : decode c_M_isMinute 10 = .ok (.iconst 1, 1) := by decide +kernel
theorem d_M_isMinute_11 : decode c_M_isMinute 11 = .ok (.goto 4, 3) := by decide +kernel
theorem d_M_isMinute_14 : decode c_M_isMinute 14 = .ok (.iconst 0, 1) := by decide +kernel
theorem d_M_isMinute_15 : decode c_M_isMinute 15 = .ok (.ireturn, 1) := by decide +kernel
def t_M_isMinute_0 (l : Launch) (s0 : State) (D : va_G) (ca : Nat → ClassId) (e0 d mc ms : Nat) : List (Nat × cr_T) := [(0, cr_iload 0 1),
  (1, cr_iflt 14 4),
  (4, cr_iload 0 5),
  (5, cr_push (.int 1000000) 7),
  (7, cr_icgt 14 10),
  (10, cr_push (.int 1) 11),
  (11, cr_goto 15),
  (14, cr_push (.int 0) 15),
  (15, cr_zret mc ms .boolean)]
def t_M_isMinute (l : Launch) (s0 : State) (D : va_G) (ca : Nat → ClassId) (e0 d mc ms : Nat) : List (Nat × cr_T) := t_M_isMinute_0 l s0 D ca e0 d mc ms
set_option maxHeartbeats 4000000 in
set_option maxRecDepth 20000 in
theorem s_M_isMinute_0 {p : Program} {l : Launch} {e : Env} {R : Room} {s : State} {m : MethodId} {args : Array Value} {below : List Frame} {meth : Method} {c : Code} {s0 : State} {D : va_G} {ca : Nat → ClassId} {e0 d mc ms : Nat} {Q : cr_Q} (hl : l.flags = flags0) (Z : cr_Z0 s0 D ca e0) (C : cr_C p R s m meth c (cr_W0 s0) s0.heap.size y_M_isMinute c_M_isMinute 1 (Option.some FieldType.boolean) d mc ms) (hem : c.exceptionTable.toList = []) : ∀ x ∈ t_M_isMinute_0 l s0 D ca e0 d mc ms, cr_Snd p l e R s m args below meth c s0.heap.size mc ms Q x.1 x.2 := by
  obtain ⟨hx, hb, hml, hown, hr, hlk, hnm, hU, hlo, hR⟩ := C
  have hK := cr_Z0K Z hU
  have hRc : R.cells = mc := by rw [hR]; rfl
  have hRs : R.slots = ms := by rw [hR]; rfl
  unfold t_M_isMinute_0
  refine cr_cons (cr_iload_n_ok hx hb d_M_isMinute_0 rfl rfl) ?_
  refine cr_cons (cr_iflt_ok hx hb d_M_isMinute_1 (by decide) rfl) ?_
  refine cr_cons (cr_iload_n_ok hx hb d_M_isMinute_4 rfl rfl) ?_
  refine cr_cons (cr_ldc_ok hx hb hown (cr_w Z w_973 rfl hU args) d_M_isMinute_5 rfl) ?_
  refine cr_cons (cr_icgt_ok hx hb d_M_isMinute_7 (by decide) rfl) ?_
  refine cr_cons (cr_iconst_ok hx hb d_M_isMinute_10 (by decide) rfl) ?_
  refine cr_cons (cr_goto_ok hx hb d_M_isMinute_11 (by decide)) ?_
  refine cr_cons (cr_iconst_ok hx hb d_M_isMinute_14 (by decide) rfl) ?_
  refine cr_cons (cr_zret_ok hx hb hr hlk d_M_isMinute_15) ?_
  exact cr_nil
theorem s_M_isMinute {p : Program} {l : Launch} {e : Env} {R : Room} {s : State} {m : MethodId} {args : Array Value} {below : List Frame} {meth : Method} {c : Code} {s0 : State} {D : va_G} {ca : Nat → ClassId} {e0 d mc ms : Nat} {Q : cr_Q} (hl : l.flags = flags0) (Z : cr_Z0 s0 D ca e0) (C : cr_C p R s m meth c (cr_W0 s0) s0.heap.size y_M_isMinute c_M_isMinute 1 (Option.some FieldType.boolean) d mc ms) (hem : c.exceptionTable.toList = []) : ∀ x ∈ t_M_isMinute l s0 D ca e0 d mc ms, cr_Snd p l e R s m args below meth c s0.heap.size mc ms Q x.1 x.2 := s_M_isMinute_0 hl Z C hem
theorem d_M_tell_0 : decode c_M_tell 0 = .ok (.aload_n 0, 1) := by decide +kernel
theorem d_M_tell_1 : decode c_M_tell 1 = .ok (.getfield 74, 3) := by decide +kernel
theorem d_M_tell_4 : decode c_M_tell 4 = .ok (.aload_n 0, 1) := by decide +kernel
theorem d_M_tell_5 : decode c_M_tell 5 = .ok (.getfield 110, 3) := by decide +kernel
theorem d_M_tell_8 : decode c_M_tell 8 = .ok (.iload_n 1, 1) := by decide +kernel
theorem d_M_tell_9 : decode c_M_tell 9 = .ok (.iastore, 1) := by decide +kernel
theorem d_M_tell_10 : decode c_M_tell 10 = .ok (.aload_n 0, 1) := by decide +kernel
theorem d_M_tell_11 : decode c_M_tell 11 = .ok (.getfield 77, 3) := by decide +kernel
theorem d_M_tell_14 : decode c_M_tell 14 = .ok (.aload_n 0, 1) := by decide +kernel
theorem d_M_tell_15 : decode c_M_tell 15 = .ok (.getfield 110, 3) := by decide +kernel
theorem d_M_tell_18 : decode c_M_tell 18 = .ok (.iload_n 2, 1) := by decide +kernel
theorem d_M_tell_19 : decode c_M_tell 19 = .ok (.iastore, 1) := by decide +kernel
theorem d_M_tell_20 : decode c_M_tell 20 = .ok (.aload_n 0, 1) := by decide +kernel
theorem d_M_tell_21 : decode c_M_tell 21 = .ok (.getfield 80, 3) := by decide +kernel
theorem d_M_tell_24 : decode c_M_tell 24 = .ok (.aload_n 0, 1) := by decide +kernel
theorem d_M_tell_25 : decode c_M_tell 25 = .ok (.getfield 110, 3) := by decide +kernel
theorem d_M_tell_28 : decode c_M_tell 28 = .ok (.iload_n 3, 1) := by decide +kernel
theorem d_M_tell_29 : decode c_M_tell 29 = .ok (.iastore, 1) := by decide +kernel
theorem d_M_tell_30 : decode c_M_tell 30 = .ok (.aload_n 0, 1) := by decide +kernel
theorem d_M_tell_31 : decode c_M_tell 31 = .ok (.dup, 1) := by decide +kernel
theorem d_M_tell_32 : decode c_M_tell 32 = .ok (.getfield 110, 3) := by decide +kernel
theorem d_M_tell_35 : decode c_M_tell 35 = .ok (.iconst 1, 1) := by decide +kernel
theorem d_M_tell_36 : decode c_M_tell 36 = .ok (.iadd, 1) := by decide +kernel
theorem d_M_tell_37 : decode c_M_tell 37 = .ok (.putfield 110, 3) := by decide +kernel
theorem d_M_tell_40 : decode c_M_tell 40 = .ok (.return_, 1) := by decide +kernel
def t_M_tell_0 (l : Launch) (s0 : State) (D : va_G) (ca : Nat → ClassId) (e0 d mc ms : Nat) : List (Nat × cr_T) := [(0, cr_aload 0 1),
  (1, cr_getf D kc 11 29 4),
  (4, cr_aload 0 5),
  (5, cr_getf D kc 11 28 8),
  (8, cr_iload 1 9),
  (9, cr_iast D kc s0.heap.size (ca 0) 10),
  (10, cr_aload 0 11),
  (11, cr_getf D kc 11 30 14),
  (14, cr_aload 0 15),
  (15, cr_getf D kc 11 28 18),
  (18, cr_iload 2 19),
  (19, cr_iast D kc s0.heap.size (ca 0) 20),
  (20, cr_aload 0 21),
  (21, cr_getf D kc 11 31 24),
  (24, cr_aload 0 25),
  (25, cr_getf D kc 11 28 28),
  (28, cr_iload 3 29),
  (29, cr_iast D kc s0.heap.size (ca 0) 30),
  (30, cr_aload 0 31),
  (31, cr_dup 32),
  (32, cr_getf D kc 11 28 35),
  (35, cr_push (.int 1) 36),
  (36, cr_iadd 37),
  (37, cr_putf D kc s0.heap.size 11 28 .int 40),
  (40, cr_vret mc ms)]
def t_M_tell (l : Launch) (s0 : State) (D : va_G) (ca : Nat → ClassId) (e0 d mc ms : Nat) : List (Nat × cr_T) := t_M_tell_0 l s0 D ca e0 d mc ms
set_option maxHeartbeats 4000000 in
set_option maxRecDepth 20000 in
theorem s_M_tell_0 {p : Program} {l : Launch} {e : Env} {R : Room} {s : State} {m : MethodId} {args : Array Value} {below : List Frame} {meth : Method} {c : Code} {s0 : State} {D : va_G} {ca : Nat → ClassId} {e0 d mc ms : Nat} {Q : cr_Q} (hl : l.flags = flags0) (Z : cr_Z0 s0 D ca e0) (C : cr_C p R s m meth c (cr_W0 s0) s0.heap.size y_M_tell c_M_tell 4 (Option.none : Option FieldType) d mc ms) (hem : c.exceptionTable.toList = []) : ∀ x ∈ t_M_tell_0 l s0 D ca e0 d mc ms, cr_Snd p l e R s m args below meth c s0.heap.size mc ms Q x.1 x.2 := by
  obtain ⟨hx, hb, hml, hown, hr, hlk, hnm, hU, hlo, hR⟩ := C
  have hK := cr_Z0K Z hU
  have hRc : R.cells = mc := by rw [hR]; rfl
  have hRs : R.slots = ms := by rw [hR]; rfl
  unfold t_M_tell_0
  refine cr_cons (cr_aload_n_ok hx hb d_M_tell_0 rfl rfl) ?_
  refine cr_cons (cr_getf_ok (C := R_M) (T := T_M) (N := 41) hx hb (k_M Z hU args) (fun _ h => h) hown hK rfl (by decide) (cr_w Z w_847 rfl hU args) (fun _ h => h) d_M_tell_1 rfl) ?_
  refine cr_cons (cr_aload_n_ok hx hb d_M_tell_4 rfl rfl) ?_
  refine cr_cons (cr_getf_ok (C := R_M) (T := T_M) (N := 41) hx hb (k_M Z hU args) (fun _ h => h) hown hK rfl (by decide) (cr_w Z w_846 rfl hU args) (fun _ h => h) d_M_tell_5 rfl) ?_
  refine cr_cons (cr_iload_n_ok hx hb d_M_tell_8 rfl rfl) ?_
  refine cr_cons (cr_iast_ok (t0 := 0) hx hb hK rfl d_M_tell_9 rfl) ?_
  refine cr_cons (cr_aload_n_ok hx hb d_M_tell_10 rfl rfl) ?_
  refine cr_cons (cr_getf_ok (C := R_M) (T := T_M) (N := 41) hx hb (k_M Z hU args) (fun _ h => h) hown hK rfl (by decide) (cr_w Z w_848 rfl hU args) (fun _ h => h) d_M_tell_11 rfl) ?_
  refine cr_cons (cr_aload_n_ok hx hb d_M_tell_14 rfl rfl) ?_
  refine cr_cons (cr_getf_ok (C := R_M) (T := T_M) (N := 41) hx hb (k_M Z hU args) (fun _ h => h) hown hK rfl (by decide) (cr_w Z w_846 rfl hU args) (fun _ h => h) d_M_tell_15 rfl) ?_
  refine cr_cons (cr_iload_n_ok hx hb d_M_tell_18 rfl rfl) ?_
  refine cr_cons (cr_iast_ok (t0 := 0) hx hb hK rfl d_M_tell_19 rfl) ?_
  refine cr_cons (cr_aload_n_ok hx hb d_M_tell_20 rfl rfl) ?_
  refine cr_cons (cr_getf_ok (C := R_M) (T := T_M) (N := 41) hx hb (k_M Z hU args) (fun _ h => h) hown hK rfl (by decide) (cr_w Z w_849 rfl hU args) (fun _ h => h) d_M_tell_21 rfl) ?_
  refine cr_cons (cr_aload_n_ok hx hb d_M_tell_24 rfl rfl) ?_
  refine cr_cons (cr_getf_ok (C := R_M) (T := T_M) (N := 41) hx hb (k_M Z hU args) (fun _ h => h) hown hK rfl (by decide) (cr_w Z w_846 rfl hU args) (fun _ h => h) d_M_tell_25 rfl) ?_
  refine cr_cons (cr_iload_n_ok hx hb d_M_tell_28 rfl rfl) ?_
  refine cr_cons (cr_iast_ok (t0 := 0) hx hb hK rfl d_M_tell_29 rfl) ?_
  refine cr_cons (cr_aload_n_ok hx hb d_M_tell_30 rfl rfl) ?_
  refine cr_cons (cr_dup_ok hx hb d_M_tell_31 rfl) ?_
  refine cr_cons (cr_getf_ok (C := R_M) (T := T_M) (N := 41) hx hb (k_M Z hU args) (fun _ h => h) hown hK rfl (by decide) (cr_w Z w_846 rfl hU args) (fun _ h => h) d_M_tell_32 rfl) ?_
  refine cr_cons (cr_iconst_ok hx hb d_M_tell_35 (by decide) rfl) ?_
  refine cr_cons (cr_iadd_ok hx hb d_M_tell_36 rfl) ?_
  refine cr_cons (cr_putf_ok (C := R_M) (T := T_M) (N := 41) tt_M hx hb (k_M Z hU args) (fun _ h => h) ty_M nm_M hown hK rfl (by decide) (Or.inl (cr_w Z w_846 rfl hU args)) (fun _ h => h) rfl (by decide +kernel) d_M_tell_37 rfl) ?_
  refine cr_cons (cr_vret_ok hx hb hr hlk d_M_tell_40) ?_
  exact cr_nil
theorem s_M_tell {p : Program} {l : Launch} {e : Env} {R : Room} {s : State} {m : MethodId} {args : Array Value} {below : List Frame} {meth : Method} {c : Code} {s0 : State} {D : va_G} {ca : Nat → ClassId} {e0 d mc ms : Nat} {Q : cr_Q} (hl : l.flags = flags0) (Z : cr_Z0 s0 D ca e0) (C : cr_C p R s m meth c (cr_W0 s0) s0.heap.size y_M_tell c_M_tell 4 (Option.none : Option FieldType) d mc ms) (hem : c.exceptionTable.toList = []) : ∀ x ∈ t_M_tell l s0 D ca e0 d mc ms, cr_Snd p l e R s m args below meth c s0.heap.size mc ms Q x.1 x.2 := s_M_tell_0 hl Z C hem
