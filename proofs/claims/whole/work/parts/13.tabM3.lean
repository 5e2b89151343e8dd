theorem d_M_airlock_0 : decode c_M_airlock 0 = .ok (.aload_n 0, 1) := by decide +kernel
theorem d_M_airlock_1 : decode c_M_airlock 1 = .ok (.iload_n 1, 1) := by decide +kernel
theorem d_M_airlock_2 : decode c_M_airlock 2 = .ok (.aload_n 0, 1) := by decide +kernel
theorem d_M_airlock_3 : decode c_M_airlock 3 = .ok (.getfield 124, 3) := by decide +kernel
theorem d_M_airlock_6 : decode c_M_airlock 6 = .ok (.invokestatic 113, 3) := by decide +kernel
theorem d_M_airlock_9 : decode c_M_airlock 9 = .ok (.ifCond .eq 23, 3) := by decide +kernel
theorem d_M_airlock_12 : decode c_M_airlock 12 = .ok (.iload_n 2, 1) := by decide +kernel
theorem d_M_airlock_13 : decode c_M_airlock 13 = .ok (.aload_n 0, 1) := by decide +kernel
theorem d_M_airlock_14 : decode c_M_airlock 14 = .ok (.getfield 124, 3) := by decide +kernel
theorem d_M_airlock_17 : decode c_M_airlock 17 = .ok (.invokestatic 113, 3) := by decide +kernel
theorem d_M_airlock_20 : decode c_M_airlock 20 = .ok (.ifCond .eq 12, 3) := by decide +kernel
theorem d_M_airlock_23 : decode c_M_airlock 23 = .ok (.iload_n 1, 1) := by decide +kernel
theorem d_M_airlock_24 : decode c_M_airlock 24 = .ok (.iload_n 2, 1) := by decide +kernel
theorem d_M_airlock_25 : decode c_M_airlock 25 = .ok (.if_icmp .eq 7, 3) := by decide +kernel
theorem d_M_airlock_28 : decode c_M_airlock 28 = .ok (.iconst 1, 1) := by decide +kernel
theorem d_M_airlock_29 : decode c_M_airlock 29 = .ok (.goto 4, 3) := by decide +kernel
theorem d_M_airlock_32 : decode c_M_airlock 32 = .ok (.iconst 0, 1) := by decide +kernel
theorem d_M_airlock_33 : decode c_M_airlock 33 = .ok (.iconst 1, 1) := by decide +kernel
theorem d_M_airlock_34 : decode c_M_airlock 34 = .ok (.invokevirtual 120, 3) := by decide +kernel
theorem d_M_airlock_37 : decode c_M_airlock 37 = .ok (.ifCond .ne 5, 3) := by decide +kernel
theorem d_M_airlock_40 : decode c_M_airlock 40 = .ok (.iconst 0, 1) := by decide +kernel
theorem d_M_airlock_41 : decode c_M_airlock 41 = .ok (.ireturn, 1) := by decide +kernel
theorem d_M_airlock_42 : decode c_M_airlock 42 = .ok (.aload_n 0, 1) := by decide +kernel
theorem d_M_airlock_43 : decode c_M_airlock 43 = .ok (.getfield 32, 3) := by decide +kernel
theorem d_M_airlock_46 : decode c_M_airlock 46 = .ok (.bipush 30, 2) := by decide +kernel
theorem d_M_airlock_48 : decode c_M_airlock 48 = .ok (.iload_n 1, 1) := by decide +kernel
theorem d_M_airlock_49 : decode c_M_airlock 49 = .ok (.imul, 1) := by decide +kernel
theorem d_M_airlock_50 : decode c_M_airlock 50 = .ok (.iload_n 2, 1) := by decide +kernel
theorem d_M_airlock_51 : decode c_M_airlock 51 = .ok (.iadd, 1) := by decide +kernel
theorem d_M_airlock_52 : decode c_M_airlock 52 = .ok (.baload, 1) := by decide +kernel
theorem d_M_airlock_53 : decode c_M_airlock 53 = .ok (.istore 4, 2) := by decide +kernel
theorem d_M_airlock_55 : decode c_M_airlock 55 = .ok (.aload_n 0, 1) := by decide +kernel
theorem d_M_airlock_56 : decode c_M_airlock 56 = .ok (.getfield 32, 3) := by decide +kernel
theorem d_M_airlock_59 : decode c_M_airlock 59 = .ok (.bipush 30, 2) := by decide +kernel
theorem d_M_airlock_61 : decode c_M_airlock 61 = .ok (.iload_n 1, 1) := by decide +kernel
theorem d_M_airlock_62 : decode c_M_airlock 62 = .ok (.imul, 1) := by decide +kernel
theorem d_M_airlock_63 : decode c_M_airlock 63 = .ok (.iload_n 2, 1) := by decide +kernel
theorem d_M_airlock_64 : decode c_M_airlock 64 = .ok (.iadd, 1) := by decide +kernel
theorem d_M_airlock_65 : decode c_M_airlock 65 = .ok (.iload_n 3, 1) := by decide +kernel
theorem d_M_airlock_66 : decode c_M_airlock 66 = .ok (.bastore, 1) := by decide +kernel
theorem d_M_airlock_67 : decode c_M_airlock 67 = .ok (.aload_n 0, 1) := by decide +kernel
theorem d_M_airlock_68 : decode c_M_airlock 68 = .ok (.getfield 32, 3) := by decide +kernel
theorem d_M_airlock_71 : decode c_M_airlock 71 = .ok (.bipush 30, 2) := by decide +kernel
theorem d_M_airlock_73 : decode c_M_airlock 73 = .ok (.iload_n 2, 1) := by decide +kernel
theorem d_M_airlock_74 : decode c_M_airlock 74 = .ok (.imul, 1) := by decide +kernel
theorem d_M_airlock_75 : decode c_M_airlock 75 = .ok (.iload_n 1, 1) := by decide +kernel
theorem d_M_airlock_76 : decode c_M_airlock 76 = .ok (.iadd, 1) := by decide +kernel
theorem d_M_airlock_77 : decode c_M_airlock 77 = .ok (.iload_n 3, 1) := by decide +kernel
theorem d_M_airlock_78 : decode c_M_airlock 78 = .ok (.bastore, 1) := by decide +kernel
theorem d_M_airlock_79 : decode c_M_airlock 79 = .ok (.iload 4, 2) := by decide +kernel
theorem d_M_airlock_81 : decode c_M_airlock 81 = .ok (.ireturn, 1) := by decide +kernel
def t_M_airlock_0 (l : Launch) (s0 : State) (D : va_G) (ca : Nat → ClassId) (e0 d mc ms : Nat) : List (Nat × cr_T) := [(0, cr_aload 0 1),
  (1, cr_iload 1 2),
  (2, cr_aload 0 3),
  (3, cr_getf D kc 11 4 6),
  (6, cr_calS l (cr_W0 s0) s0.heap.size y_M_isIn cw_M_isIn d mc ms 2 5 9),
  (9, cr_ifeq 32 12),
  (12, cr_iload 2 13),
  (13, cr_aload 0 14),
  (14, cr_getf D kc 11 4 17),
  (17, cr_calS l (cr_W0 s0) s0.heap.size y_M_isIn cw_M_isIn d mc ms 2 5 20),
  (20, cr_ifeq 32 23),
  (23, cr_iload 1 24),
  (24, cr_iload 2 25),
  (25, cr_iceq 32 28),
  (28, cr_push (.int 1) 29),
  (29, cr_goto 33),
  (32, cr_push (.int 0) 33),
  (33, cr_push (.int 1) 34),
  (34, cr_calV D kc l (cr_W0 s0) s0.heap.size 11 y_M_goes cw_M_goes d mc ms 2 5 37),
  (37, cr_ifne 42 40),
  (40, cr_push (.int 0) 41),
  (41, cr_zret mc ms .boolean),
  (42, cr_aload 0 43),
  (43, cr_getf D kc 11 11 46),
  (46, cr_push (.int 30) 48),
  (48, cr_iload 1 49),
  (49, cr_imul 50),
  (50, cr_iload 2 51),
  (51, cr_iadd 52),
  (52, cr_zald D kc (ca 2) 53)]
def t_M_airlock_1 (l : Launch) (s0 : State) (D : va_G) (ca : Nat → ClassId) (e0 d mc ms : Nat) : List (Nat × cr_T) := [(53, cr_istore 4 55),
  (55, cr_aload 0 56),
  (56, cr_getf D kc 11 11 59),
  (59, cr_push (.int 30) 61),
  (61, cr_iload 1 62),
  (62, cr_imul 63),
  (63, cr_iload 2 64),
  (64, cr_iadd 65),
  (65, cr_iload 3 66),
  (66, cr_zast D kc s0.heap.size (ca 2) 67),
  (67, cr_aload 0 68),
  (68, cr_getf D kc 11 11 71),
  (71, cr_push (.int 30) 73),
  (73, cr_iload 2 74),
  (74, cr_imul 75),
  (75, cr_iload 1 76),
  (76, cr_iadd 77),
  (77, cr_iload 3 78),
  (78, cr_zast D kc s0.heap.size (ca 2) 79),
  (79, cr_iload 4 81),
  (81, cr_zret mc ms .boolean)]
def t_M_airlock (l : Launch) (s0 : State) (D : va_G) (ca : Nat → ClassId) (e0 d mc ms : Nat) : List (Nat × cr_T) := t_M_airlock_0 l s0 D ca e0 d mc ms ++ (t_M_airlock_1 l s0 D ca e0 d mc ms)
set_option maxHeartbeats 4000000 in
set_option maxRecDepth 20000 in
theorem s_M_airlock_0 {p : Program} {l : Launch} {e : Env} {R : Room} {s : State} {m : MethodId} {args : Array Value} {below : List Frame} {meth : Method} {c : Code} {s0 : State} {D : va_G} {ca : Nat → ClassId} {e0 d mc ms : Nat} {Q : cr_Q} (hl : l.flags = flags0) (Z : cr_Z0 s0 D ca e0) (C : cr_C p R s m meth c (cr_W0 s0) s0.heap.size y_M_airlock c_M_airlock 5 (Option.some FieldType.boolean) d mc ms) (hem : c.exceptionTable.toList = []) : ∀ x ∈ t_M_airlock_0 l s0 D ca e0 d mc ms, cr_Snd p l e R s m args below meth c s0.heap.size mc ms Q x.1 x.2 := by
  obtain ⟨hx, hb, hml, hown, hr, hlk, hnm, hU, hlo, hR⟩ := C
  have hK := cr_Z0K Z hU
  have hRc : R.cells = mc := by rw [hR]; rfl
  have hRs : R.slots = ms := by rw [hR]; rfl
  unfold t_M_airlock_0
  refine cr_cons (cr_aload_n_ok hx hb d_M_airlock_0 rfl rfl) ?_
  refine cr_cons (cr_iload_n_ok hx hb d_M_airlock_1 rfl rfl) ?_
  refine cr_cons (cr_aload_n_ok hx hb d_M_airlock_2 rfl rfl) ?_
  refine cr_cons (cr_getf_ok (C := R_M) (T := T_M) (N := 41) hx hb (k_M Z hU args) (fun _ h => h) hown hK rfl (by decide) (cr_w Z w_822 rfl hU args) (fun _ h => h) d_M_airlock_3 rfl) ?_
  refine cr_cons (cr_calS_ok hx hb hml hown hlk hU hlo hR (cr_W0_st s0) (by rw [hem]; exact fun _ h => absurd h List.not_mem_nil) (u_M_isIn Z) (Or.inl (cr_w Z w_951 rfl hU args)) (cr_w Z w_952 rfl hU args) (by decide) (by decide +kernel) (by decide) d_M_airlock_6 rfl) ?_
  refine cr_cons (cr_ifeq_ok hx hb d_M_airlock_9 (by decide) rfl) ?_
  refine cr_cons (cr_iload_n_ok hx hb d_M_airlock_12 rfl rfl) ?_
  refine cr_cons (cr_aload_n_ok hx hb d_M_airlock_13 rfl rfl) ?_
  refine cr_cons (cr_getf_ok (C := R_M) (T := T_M) (N := 41) hx hb (k_M Z hU args) (fun _ h => h) hown hK rfl (by decide) (cr_w Z w_822 rfl hU args) (fun _ h => h) d_M_airlock_14 rfl) ?_
  refine cr_cons (cr_calS_ok hx hb hml hown hlk hU hlo hR (cr_W0_st s0) (by rw [hem]; exact fun _ h => absurd h List.not_mem_nil) (u_M_isIn Z) (Or.inl (cr_w Z w_951 rfl hU args)) (cr_w Z w_952 rfl hU args) (by decide) (by decide +kernel) (by decide) d_M_airlock_17 rfl) ?_
  refine cr_cons (cr_ifeq_ok hx hb d_M_airlock_20 (by decide) rfl) ?_
  refine cr_cons (cr_iload_n_ok hx hb d_M_airlock_23 rfl rfl) ?_
  refine cr_cons (cr_iload_n_ok hx hb d_M_airlock_24 rfl rfl) ?_
  refine cr_cons (cr_iceq_ok hx hb d_M_airlock_25 (by decide) rfl) ?_
  refine cr_cons (cr_iconst_ok hx hb d_M_airlock_28 (by decide) rfl) ?_
  refine cr_cons (cr_goto_ok hx hb d_M_airlock_29 (by decide)) ?_
  refine cr_cons (cr_iconst_ok hx hb d_M_airlock_32 (by decide) rfl) ?_
  refine cr_cons (cr_iconst_ok hx hb d_M_airlock_33 (by decide) rfl) ?_
  refine cr_cons (cr_calV_ok (C := R_M) (Tf := T_M) (N := 41) hx hb hml hown hlk hU hlo hR (cr_W0_st s0) (by rw [hem]; exact fun _ h => absurd h List.not_mem_nil) hK rfl (u_M_goes Z) (Or.inl (cr_w Z w_954 rfl hU args)) (cr_w Z w_956 rfl hU args) (cr_w Z ws_32 rfl hU args) (by decide) (by decide +kernel) (by decide) d_M_airlock_34 rfl) ?_
  refine cr_cons (cr_ifne_ok hx hb d_M_airlock_37 (by decide) rfl) ?_
  refine cr_cons (cr_iconst_ok hx hb d_M_airlock_40 (by decide) rfl) ?_
  refine cr_cons (cr_zret_ok hx hb hr hlk d_M_airlock_41) ?_
  refine cr_cons (cr_aload_n_ok hx hb d_M_airlock_42 rfl rfl) ?_
  refine cr_cons (cr_getf_ok (C := R_M) (T := T_M) (N := 41) hx hb (k_M Z hU args) (fun _ h => h) hown hK rfl (by decide) (cr_w Z w_829 rfl hU args) (fun _ h => h) d_M_airlock_43 rfl) ?_
  refine cr_cons (cr_bipush_ok hx hb d_M_airlock_46 (by decide) rfl) ?_
  refine cr_cons (cr_iload_n_ok hx hb d_M_airlock_48 rfl rfl) ?_
  refine cr_cons (cr_imul_ok hx hb d_M_airlock_49 rfl) ?_
  refine cr_cons (cr_iload_n_ok hx hb d_M_airlock_50 rfl rfl) ?_
  refine cr_cons (cr_iadd_ok hx hb d_M_airlock_51 rfl) ?_
  refine cr_cons (cr_zald_ok (t0 := 2) hx hb hK rfl d_M_airlock_52 rfl) ?_
  exact cr_nil
set_option maxHeartbeats 4000000 in
set_option maxRecDepth 20000 in
theorem s_M_airlock_1 {p : Program} {l : Launch} {e : Env} {R : Room} {s : State} {m : MethodId} {args : Array Value} {below : List Frame} {meth : Method} {c : Code} {s0 : State} {D : va_G} {ca : Nat → ClassId} {e0 d mc ms : Nat} {Q : cr_Q} (hl : l.flags = flags0) (Z : cr_Z0 s0 D ca e0) (C : cr_C p R s m meth c (cr_W0 s0) s0.heap.size y_M_airlock c_M_airlock 5 (Option.some FieldType.boolean) d mc ms) (hem : c.exceptionTable.toList = []) : ∀ x ∈ t_M_airlock_1 l s0 D ca e0 d mc ms, cr_Snd p l e R s m args below meth c s0.heap.size mc ms Q x.1 x.2 := by
  obtain ⟨hx, hb, hml, hown, hr, hlk, hnm, hU, hlo, hR⟩ := C
  have hK := cr_Z0K Z hU
  have hRc : R.cells = mc := by rw [hR]; rfl
  have hRs : R.slots = ms := by rw [hR]; rfl
  unfold t_M_airlock_1
  refine cr_cons (cr_istore_ok hx hb d_M_airlock_53 rfl) ?_
  refine cr_cons (cr_aload_n_ok hx hb d_M_airlock_55 rfl rfl) ?_
  refine cr_cons (cr_getf_ok (C := R_M) (T := T_M) (N := 41) hx hb (k_M Z hU args) (fun _ h => h) hown hK rfl (by decide) (cr_w Z w_829 rfl hU args) (fun _ h => h) d_M_airlock_56 rfl) ?_
  refine cr_cons (cr_bipush_ok hx hb d_M_airlock_59 (by decide) rfl) ?_
  refine cr_cons (cr_iload_n_ok hx hb d_M_airlock_61 rfl rfl) ?_
  refine cr_cons (cr_imul_ok hx hb d_M_airlock_62 rfl) ?_
  refine cr_cons (cr_iload_n_ok hx hb d_M_airlock_63 rfl rfl) ?_
  refine cr_cons (cr_iadd_ok hx hb d_M_airlock_64 rfl) ?_
  refine cr_cons (cr_iload_n_ok hx hb d_M_airlock_65 rfl rfl) ?_
  refine cr_cons (cr_zast_ok (t0 := 2) hx hb hK rfl d_M_airlock_66 rfl) ?_
  refine cr_cons (cr_aload_n_ok hx hb d_M_airlock_67 rfl rfl) ?_
  refine cr_cons (cr_getf_ok (C := R_M) (T := T_M) (N := 41) hx hb (k_M Z hU args) (fun _ h => h) hown hK rfl (by decide) (cr_w Z w_829 rfl hU args) (fun _ h => h) d_M_airlock_68 rfl) ?_
  refine cr_cons (cr_bipush_ok hx hb d_M_airlock_71 (by decide) rfl) ?_
  refine cr_cons (cr_iload_n_ok hx hb d_M_airlock_73 rfl rfl) ?_
  refine cr_cons (cr_imul_ok hx hb d_M_airlock_74 rfl) ?_
  refine cr_cons (cr_iload_n_ok hx hb d_M_airlock_75 rfl rfl) ?_
  refine cr_cons (cr_iadd_ok hx hb d_M_airlock_76 rfl) ?_
  refine cr_cons (cr_iload_n_ok hx hb d_M_airlock_77 rfl rfl) ?_
  refine cr_cons (cr_zast_ok (t0 := 2) hx hb hK rfl d_M_airlock_78 rfl) ?_
  refine cr_cons (cr_iload_ok hx hb d_M_airlock_79 rfl) ?_
  refine cr_cons (cr_zret_ok hx hb hr hlk d_M_airlock_81) ?_
  exact cr_nil
theorem s_M_airlock {p : Program} {l : Launch} {e : Env} {R : Room} {s : State} {m : MethodId} {args : Array Value} {below : List Frame} {meth : Method} {c : Code} {s0 : State} {D : va_G} {ca : Nat → ClassId} {e0 d mc ms : Nat} {Q : cr_Q} (hl : l.flags = flags0) (Z : cr_Z0 s0 D ca e0) (C : cr_C p R s m meth c (cr_W0 s0) s0.heap.size y_M_airlock c_M_airlock 5 (Option.some FieldType.boolean) d mc ms) (hem : c.exceptionTable.toList = []) : ∀ x ∈ t_M_airlock l s0 D ca e0 d mc ms, cr_Snd p l e R s m args below meth c s0.heap.size mc ms Q x.1 x.2 := cr_app (s_M_airlock_0 hl Z C hem) (s_M_airlock_1 hl Z C hem)
theorem d_M_state_0 : decode c_M_state 0 = .ok (.aload_n 0, 1) := by decide +kernel
theorem d_M_state_1 : decode c_M_state 1 = .ok (.iload_n 1, 1) := by decide +kernel
theorem d_M_state_2 : decode c_M_state 2 = .ok (.aload_n 0, 1) := by decide +kernel
theorem d_M_state_3 : decode c_M_state 3 = .ok (.getfield 124, 3) := by decide +kernel
theorem d_M_state_6 : decode c_M_state 6 = .ok (.invokestatic 113, 3) := by decide +kernel
theorem d_M_state_9 : decode c_M_state 9 = .ok (.ifCond .eq 15, 3) := by decide +kernel
theorem d_M_state_12 : decode c_M_state 12 = .ok (.aload_n 0, 1) := by decide +kernel
theorem d_M_state_13 : decode c_M_state 13 = .ok (.iload_n 3, 1) := by decide +kernel
theorem d_M_state_14 : decode c_M_state 14 = .ok (.invokevirtual 151, 3) := by decide +kernel
theorem d_M_state_17 : decode c_M_state 17 = .ok (.ifCond .eq 7, 3) := by decide +kernel
theorem d_M_state_20 : decode c_M_state 20 = .ok (.iconst 1, 1) := by decide +kernel
theorem d_M_state_21 : decode c_M_state 21 = .ok (.goto 4, 3) := by decide +kernel
theorem d_M_state_24 : decode c_M_state 24 = .ok (.iconst 0, 1) := by decide +kernel
theorem d_M_state_25 : decode c_M_state 25 = .ok (.iconst 1, 1) := by decide +kernel
theorem d_M_state_26 : decode c_M_state 26 = .ok (.invokevirtual 120, 3) := by decide +kernel
theorem d_M_state_29 : decode c_M_state 29 = .ok (.ifCond .ne 5, 3) := by decide +kernel
theorem d_M_state_32 : decode c_M_state 32 = .ok (.iconst 0, 1) := by decide +kernel
theorem d_M_state_33 : decode c_M_state 33 = .ok (.ireturn, 1) := by decide +kernel
theorem d_M_state_34 : decode c_M_state 34 = .ok (.aload_n 0, 1) := by decide +kernel
theorem d_M_state_35 : decode c_M_state 35 = .ok (.iload_n 3, 1) := by decide +kernel
theorem d_M_state_36 : decode c_M_state 36 = .ok (.putfield 148, 3) := by decide +kernel
theorem d_M_state_39 : decode c_M_state 39 = .ok (.iload_n 3, 1) := by decide +kernel
theorem d_M_state_40 : decode c_M_state 40 = .ok (.aload_n 0, 1) := by decide +kernel
theorem d_M_state_41 : decode c_M_state 41 = .ok (.getfield 26, 3) := by decide +kernel
theorem d_M_state_44 : decode c_M_state 44 = .ok (.iload_n 1, 1) := by decide +kernel
theorem d_M_state_45 : decode c_M_state 45 = .ok (.iaload, 1) := by decide +kernel
theorem d_M_state_46 : decode c_M_state 46 = .ok (.isub, 1) := by decide +kernel
theorem d_M_state_47 : decode c_M_state 47 = .ok (.istore 4, 2) := by decide +kernel
theorem d_M_state_49 : decode c_M_state 49 = .ok (.aload_n 0, 1) := by decide +kernel
theorem d_M_state_50 : decode c_M_state 50 = .ok (.getfield 26, 3) := by decide +kernel
theorem d_M_state_53 : decode c_M_state 53 = .ok (.iload_n 1, 1) := by decide +kernel
theorem d_M_state_54 : decode c_M_state 54 = .ok (.aload_n 0, 1) := by decide +kernel
theorem d_M_state_55 : decode c_M_state 55 = .ok (.getfield 23, 3) := by decide +kernel
theorem d_M_state_58 : decode c_M_state 58 = .ok (.iload_n 1, 1) := by decide +kernel
theorem d_M_state_59 : decode c_M_state 59 = .ok (.baload, 1) := by decide +kernel
theorem d_M_state_60 : decode c_M_state 60 = .ok (.iload_n 2, 1) := by decide +kernel
theorem d_M_state_61 : decode c_M_state 61 = .ok (.if_icmp .ne 12, 3) := by decide +kernel
theorem d_M_state_64 : decode c_M_state 64 = .ok (.aload_n 0, 1) := by decide +kernel
theorem d_M_state_65 : decode c_M_state 65 = .ok (.getfield 26, 3) := by decide +kernel
theorem d_M_state_68 : decode c_M_state 68 = .ok (.iload_n 1, 1) := by decide +kernel
theorem d_M_state_69 : decode c_M_state 69 = .ok (.iaload, 1) := by decide +kernel
theorem d_M_state_70 : decode c_M_state 70 = .ok (.goto 4, 3) := by decide +kernel
theorem d_M_state_73 : decode c_M_state 73 = .ok (.iload_n 3, 1) := by decide +kernel
theorem d_M_state_74 : decode c_M_state 74 = .ok (.iastore, 1) := by decide +kernel
theorem d_M_state_75 : decode c_M_state 75 = .ok (.aload_n 0, 1) := by decide +kernel
theorem d_M_state_76 : decode c_M_state 76 = .ok (.getfield 23, 3) := by decide +kernel
theorem d_M_state_79 : decode c_M_state 79 = .ok (.iload_n 1, 1) := by decide +kernel
theorem d_M_state_80 : decode c_M_state 80 = .ok (.iload_n 2, 1) := by decide +kernel
theorem d_M_state_81 : decode c_M_state 81 = .ok (.bastore, 1) := by decide +kernel
theorem d_M_state_82 : decode c_M_state 82 = .ok (.iload 4, 2) := by decide +kernel
theorem d_M_state_84 : decode c_M_state 84 = .ok (.ireturn, 1) := by decide +kernel
def t_M_state_0 (l : Launch) (s0 : State) (D : va_G) (ca : Nat → ClassId) (e0 d mc ms : Nat) : List (Nat × cr_T) := [(0, cr_aload 0 1),
  (1, cr_iload 1 2),
  (2, cr_aload 0 3),
  (3, cr_getf D kc 11 4 6),
  (6, cr_calS l (cr_W0 s0) s0.heap.size y_M_isIn cw_M_isIn d mc ms 2 5 9),
  (9, cr_ifeq 24 12),
  (12, cr_aload 0 13),
  (13, cr_iload 3 14),
  (14, cr_calV D kc l (cr_W0 s0) s0.heap.size 11 y_M_isLater cw_M_isLater d mc ms 1 5 17),
  (17, cr_ifeq 24 20),
  (20, cr_push (.int 1) 21),
  (21, cr_goto 25),
  (24, cr_push (.int 0) 25),
  (25, cr_push (.int 1) 26),
  (26, cr_calV D kc l (cr_W0 s0) s0.heap.size 11 y_M_goes cw_M_goes d mc ms 2 5 29),
  (29, cr_ifne 34 32),
  (32, cr_push (.int 0) 33),
  (33, cr_iret mc ms),
  (34, cr_aload 0 35),
  (35, cr_iload 3 36),
  (36, cr_putf D kc s0.heap.size 11 1 .int 39),
  (39, cr_iload 3 40),
  (40, cr_aload 0 41),
  (41, cr_getf D kc 11 9 44),
  (44, cr_iload 1 45),
  (45, cr_iald D kc (ca 0) 46),
  (46, cr_isub 47),
  (47, cr_istore 4 49),
  (49, cr_aload 0 50),
  (50, cr_getf D kc 11 9 53)]
def t_M_state_1 (l : Launch) (s0 : State) (D : va_G) (ca : Nat → ClassId) (e0 d mc ms : Nat) : List (Nat × cr_T) := [(53, cr_iload 1 54),
  (54, cr_aload 0 55),
  (55, cr_getf D kc 11 8 58),
  (58, cr_iload 1 59),
  (59, cr_zald D kc (ca 2) 60),
  (60, cr_iload 2 61),
  (61, cr_icne 73 64),
  (64, cr_aload 0 65),
  (65, cr_getf D kc 11 9 68),
  (68, cr_iload 1 69),
  (69, cr_iald D kc (ca 0) 70),
  (70, cr_goto 74),
  (73, cr_iload 3 74),
  (74, cr_iast D kc s0.heap.size (ca 0) 75),
  (75, cr_aload 0 76),
  (76, cr_getf D kc 11 8 79),
  (79, cr_iload 1 80),
  (80, cr_iload 2 81),
  (81, cr_zast D kc s0.heap.size (ca 2) 82),
  (82, cr_iload 4 84),
  (84, cr_iret mc ms)]
def t_M_state (l : Launch) (s0 : State) (D : va_G) (ca : Nat → ClassId) (e0 d mc ms : Nat) : List (Nat × cr_T) := t_M_state_0 l s0 D ca e0 d mc ms ++ (t_M_state_1 l s0 D ca e0 d mc ms)
set_option maxHeartbeats 4000000 in
set_option maxRecDepth 20000 in
theorem s_M_state_0 {p : Program} {l : Launch} {e : Env} {R : Room} {s : State} {m : MethodId} {args : Array Value} {below : List Frame} {meth : Method} {c : Code} {s0 : State} {D : va_G} {ca : Nat → ClassId} {e0 d mc ms : Nat} {Q : cr_Q} (hl : l.flags = flags0) (Z : cr_Z0 s0 D ca e0) (C : cr_C p R s m meth c (cr_W0 s0) s0.heap.size y_M_state c_M_state 5 (Option.some FieldType.int) d mc ms) (hem : c.exceptionTable.toList = []) : ∀ x ∈ t_M_state_0 l s0 D ca e0 d mc ms, cr_Snd p l e R s m args below meth c s0.heap.size mc ms Q x.1 x.2 := by
  obtain ⟨hx, hb, hml, hown, hr, hlk, hnm, hU, hlo, hR⟩ := C
  have hK := cr_Z0K Z hU
  have hRc : R.cells = mc := by rw [hR]; rfl
  have hRs : R.slots = ms := by rw [hR]; rfl
  unfold t_M_state_0
  refine cr_cons (cr_aload_n_ok hx hb d_M_state_0 rfl rfl) ?_
  refine cr_cons (cr_iload_n_ok hx hb d_M_state_1 rfl rfl) ?_
  refine cr_cons (cr_aload_n_ok hx hb d_M_state_2 rfl rfl) ?_
  refine cr_cons (cr_getf_ok (C := R_M) (T := T_M) (N := 41) hx hb (k_M Z hU args) (fun _ h => h) hown hK rfl (by decide) (cr_w Z w_822 rfl hU args) (fun _ h => h) d_M_state_3 rfl) ?_
  refine cr_cons (cr_calS_ok hx hb hml hown hlk hU hlo hR (cr_W0_st s0) (by rw [hem]; exact fun _ h => absurd h List.not_mem_nil) (u_M_isIn Z) (Or.inl (cr_w Z w_951 rfl hU args)) (cr_w Z w_952 rfl hU args) (by decide) (by decide +kernel) (by decide) d_M_state_6 rfl) ?_
  refine cr_cons (cr_ifeq_ok hx hb d_M_state_9 (by decide) rfl) ?_
  refine cr_cons (cr_aload_n_ok hx hb d_M_state_12 rfl rfl) ?_
  refine cr_cons (cr_iload_n_ok hx hb d_M_state_13 rfl rfl) ?_
  refine cr_cons (cr_calV_ok (C := R_M) (Tf := T_M) (N := 41) hx hb hml hown hlk hU hlo hR (cr_W0_st s0) (by rw [hem]; exact fun _ h => absurd h List.not_mem_nil) hK rfl (u_M_isLater Z) (Or.inl (cr_w Z w_1006 rfl hU args)) (cr_w Z w_1008 rfl hU args) (cr_w Z ws_35 rfl hU args) (by decide) (by decide +kernel) (by decide) d_M_state_14 rfl) ?_
  refine cr_cons (cr_ifeq_ok hx hb d_M_state_17 (by decide) rfl) ?_
  refine cr_cons (cr_iconst_ok hx hb d_M_state_20 (by decide) rfl) ?_
  refine cr_cons (cr_goto_ok hx hb d_M_state_21 (by decide)) ?_
  refine cr_cons (cr_iconst_ok hx hb d_M_state_24 (by decide) rfl) ?_
  refine cr_cons (cr_iconst_ok hx hb d_M_state_25 (by decide) rfl) ?_
  refine cr_cons (cr_calV_ok (C := R_M) (Tf := T_M) (N := 41) hx hb hml hown hlk hU hlo hR (cr_W0_st s0) (by rw [hem]; exact fun _ h => absurd h List.not_mem_nil) hK rfl (u_M_goes Z) (Or.inl (cr_w Z w_954 rfl hU args)) (cr_w Z w_956 rfl hU args) (cr_w Z ws_32 rfl hU args) (by decide) (by decide +kernel) (by decide) d_M_state_26 rfl) ?_
  refine cr_cons (cr_ifne_ok hx hb d_M_state_29 (by decide) rfl) ?_
  refine cr_cons (cr_iconst_ok hx hb d_M_state_32 (by decide) rfl) ?_
  refine cr_cons (cr_iret_ok hx hb hr hlk d_M_state_33) ?_
  refine cr_cons (cr_aload_n_ok hx hb d_M_state_34 rfl rfl) ?_
  refine cr_cons (cr_iload_n_ok hx hb d_M_state_35 rfl rfl) ?_
  refine cr_cons (cr_putf_ok (C := R_M) (T := T_M) (N := 41) tt_M hx hb (k_M Z hU args) (fun _ h => h) ty_M nm_M hown hK rfl (by decide) (Or.inl (cr_w Z w_819 rfl hU args)) (fun _ h => h) rfl (by decide +kernel) d_M_state_36 rfl) ?_
  refine cr_cons (cr_iload_n_ok hx hb d_M_state_39 rfl rfl) ?_
  refine cr_cons (cr_aload_n_ok hx hb d_M_state_40 rfl rfl) ?_
  refine cr_cons (cr_getf_ok (C := R_M) (T := T_M) (N := 41) hx hb (k_M Z hU args) (fun _ h => h) hown hK rfl (by decide) (cr_w Z w_827 rfl hU args) (fun _ h => h) d_M_state_41 rfl) ?_
  refine cr_cons (cr_iload_n_ok hx hb d_M_state_44 rfl rfl) ?_
  refine cr_cons (cr_iald_ok (t0 := 0) hx hb hK rfl d_M_state_45 rfl) ?_
  refine cr_cons (cr_isub_ok hx hb d_M_state_46 rfl) ?_
  refine cr_cons (cr_istore_ok hx hb d_M_state_47 rfl) ?_
  refine cr_cons (cr_aload_n_ok hx hb d_M_state_49 rfl rfl) ?_
  refine cr_cons (cr_getf_ok (C := R_M) (T := T_M) (N := 41) hx hb (k_M Z hU args) (fun _ h => h) hown hK rfl (by decide) (cr_w Z w_827 rfl hU args) (fun _ h => h) d_M_state_50 rfl) ?_
  exact cr_nil
set_option maxHeartbeats 4000000 in
set_option maxRecDepth 20000 in
theorem s_M_state_1 {p : Program} {l : Launch} {e : Env} {R : Room} {s : State} {m : MethodId} {args : Array Value} {below : List Frame} {meth : Method} {c : Code} {s0 : State} {D : va_G} {ca : Nat → ClassId} {e0 d mc ms : Nat} {Q : cr_Q} (hl : l.flags = flags0) (Z : cr_Z0 s0 D ca e0) (C : cr_C p R s m meth c (cr_W0 s0) s0.heap.size y_M_state c_M_state 5 (Option.some FieldType.int) d mc ms) (hem : c.exceptionTable.toList = []) : ∀ x ∈ t_M_state_1 l s0 D ca e0 d mc ms, cr_Snd p l e R s m args below meth c s0.heap.size mc ms Q x.1 x.2 := by
  obtain ⟨hx, hb, hml, hown, hr, hlk, hnm, hU, hlo, hR⟩ := C
  have hK := cr_Z0K Z hU
  have hRc : R.cells = mc := by rw [hR]; rfl
  have hRs : R.slots = ms := by rw [hR]; rfl
  unfold t_M_state_1
  refine cr_cons (cr_iload_n_ok hx hb d_M_state_53 rfl rfl) ?_
  refine cr_cons (cr_aload_n_ok hx hb d_M_state_54 rfl rfl) ?_
  refine cr_cons (cr_getf_ok (C := R_M) (T := T_M) (N := 41) hx hb (k_M Z hU args) (fun _ h => h) hown hK rfl (by decide) (cr_w Z w_826 rfl hU args) (fun _ h => h) d_M_state_55 rfl) ?_
  refine cr_cons (cr_iload_n_ok hx hb d_M_state_58 rfl rfl) ?_
  refine cr_cons (cr_zald_ok (t0 := 2) hx hb hK rfl d_M_state_59 rfl) ?_
  refine cr_cons (cr_iload_n_ok hx hb d_M_state_60 rfl rfl) ?_
  refine cr_cons (cr_icne_ok hx hb d_M_state_61 (by decide) rfl) ?_
  refine cr_cons (cr_aload_n_ok hx hb d_M_state_64 rfl rfl) ?_
  refine cr_cons (cr_getf_ok (C := R_M) (T := T_M) (N := 41) hx hb (k_M Z hU args) (fun _ h => h) hown hK rfl (by decide) (cr_w Z w_827 rfl hU args) (fun _ h => h) d_M_state_65 rfl) ?_
  refine cr_cons (cr_iload_n_ok hx hb d_M_state_68 rfl rfl) ?_
  refine cr_cons (cr_iald_ok (t0 := 0) hx hb hK rfl d_M_state_69 rfl) ?_
  refine cr_cons (cr_goto_ok hx hb d_M_state_70 (by decide)) ?_
  refine cr_cons (cr_iload_n_ok hx hb d_M_state_73 rfl rfl) ?_
  refine cr_cons (cr_iast_ok (t0 := 0) hx hb hK rfl d_M_state_74 rfl) ?_
  refine cr_cons (cr_aload_n_ok hx hb d_M_state_75 rfl rfl) ?_
  refine cr_cons (cr_getf_ok (C := R_M) (T := T_M) (N := 41) hx hb (k_M Z hU args) (fun _ h => h) hown hK rfl (by decide) (cr_w Z w_826 rfl hU args) (fun _ h => h) d_M_state_76 rfl) ?_
  refine cr_cons (cr_iload_n_ok hx hb d_M_state_79 rfl rfl) ?_
  refine cr_cons (cr_iload_n_ok hx hb d_M_state_80 rfl rfl) ?_
  refine cr_cons (cr_zast_ok (t0 := 2) hx hb hK rfl d_M_state_81 rfl) ?_
  refine cr_cons (cr_iload_ok hx hb d_M_state_82 rfl) ?_
  refine cr_cons (cr_iret_ok hx hb hr hlk d_M_state_84) ?_
  exact cr_nil
theorem s_M_state {p : Program} {l : Launch} {e : Env} {R : Room} {s : State} {m : MethodId} {args : Array Value} {below : List Frame} {meth : Method} {c : Code} {s0 : State} {D : va_G} {ca : Nat → ClassId} {e0 d mc ms : Nat} {Q : cr_Q} (hl : l.flags = flags0) (Z : cr_Z0 s0 D ca e0) (C : cr_C p R s m meth c (cr_W0 s0) s0.heap.size y_M_state c_M_state 5 (Option.some FieldType.int) d mc ms) (hem : c.exceptionTable.toList = []) : ∀ x ∈ t_M_state l s0 D ca e0 d mc ms, cr_Snd p l e R s m args below meth c s0.heap.size mc ms Q x.1 x.2 := cr_app (s_M_state_0 hl Z C hem) (s_M_state_1 hl Z C hem)
theorem d_M_isLater_0 : decode c_M_isLater 0 = .ok (.iload_n 1, 1) := by decide +kernel
theorem d_M_isLater_1 : decode c_M_isLater 1 = .ok (.aload_n 0, 1) := by decide +kernel
theorem d_M_isLater_2 : decode c_M_isLater 2 = .ok (.getfield 148, 3) := by decide +kernel
theorem d_M_isLater_5 : decode c_M_isLater 5 = .ok (.if_icmp .lt 13, 3) := by decide +kernel
theorem d_M_isLater_8 : decode c_M_isLater 8 = .ok (.iload_n 1, 1) := by decide +kernel
theorem d_M_isLater_9 : decode c_M_isLater 9 = .ok (.ldc 109, 2) := by decide +kernel
theorem d_M_isLater_11 : decode c_M_isLater 11 = .ok (.if_icmp .gt 7, 3) := by decide +kernel
theorem d_M_isLater_14 : decode c_M_isLater 14 = .ok (.iconst 1, 1) := by decide +kernel
theorem d_M_isLater_15 : decode c_M_isLater 15 = .ok (.goto 4, 3) := by decide +kernel
theorem d_M_isLater_18 : decode c_M_isLater 18 = .ok (.iconst 0, 1) := by decide +kernel
theorem d_M_isLater_19 : decode c_M_isLater 19 = .ok (.ireturn, 1) := by decide +kernel
def t_M_isLater_0 (l : Launch) (s0 : State) (D : va_G) (ca : Nat → ClassId) (e0 d mc ms : Nat) : List (Nat × cr_T) := [(0, cr_iload 1 1),
  (1, cr_aload 0 2),
  (2, cr_getf D kc 11 1 5),
  (5, cr_iclt 18 8),
  (8, cr_iload 1 9),
  (9, cr_push (.int 1000000) 11),
  (11, cr_icgt 18 14),
  (14, cr_push (.int 1) 15),
  (15, cr_goto 19),
  (18, cr_push (.int 0) 19),
  (19, cr_zret mc ms .boolean)]
def t_M_isLater (l : Launch) (s0 : State) (D : va_G) (ca : Nat → ClassId) (e0 d mc ms : Nat) : List (Nat × cr_T) := t_M_isLater_0 l s0 D ca e0 d mc ms
set_option maxHeartbeats 4000000 in
set_option maxRecDepth 20000 in
theorem s_M_isLater_0 {p : Program} {l : Launch} {e : Env} {R : Room} {s : State} {m : MethodId} {args : Array Value} {below : List Frame} {meth : Method} {c : Code} {s0 : State} {D : va_G} {ca : Nat → ClassId} {e0 d mc ms : Nat} {Q : cr_Q} (hl : l.flags = flags0) (Z : cr_Z0 s0 D ca e0) (C : cr_C p R s m meth c (cr_W0 s0) s0.heap.size y_M_isLater c_M_isLater 2 (Option.some FieldType.boolean) d mc ms) (hem : c.exceptionTable.toList = []) : ∀ x ∈ t_M_isLater_0 l s0 D ca e0 d mc ms, cr_Snd p l e R s m args below meth c s0.heap.size mc ms Q x.1 x.2 := by
  obtain ⟨hx, hb, hml, hown, hr, hlk, hnm, hU, hlo, hR⟩ := C
  have hK := cr_Z0K Z hU
  have hRc : R.cells = mc := by rw [hR]; rfl
  have hRs : R.slots = ms := by rw [hR]; rfl
  unfold t_M_isLater_0
  refine cr_cons (cr_iload_n_ok hx hb d_M_isLater_0 rfl rfl) ?_
  refine cr_cons (cr_aload_n_ok hx hb d_M_isLater_1 rfl rfl) ?_
  refine cr_cons (cr_getf_ok (C := R_M) (T := T_M) (N := 41) hx hb (k_M Z hU args) (fun _ h => h) hown hK rfl (by decide) (cr_w Z w_819 rfl hU args) (fun _ h => h) d_M_isLater_2 rfl) ?_
  refine cr_cons (cr_iclt_ok hx hb d_M_isLater_5 (by decide) rfl) ?_
  refine cr_cons (cr_iload_n_ok hx hb d_M_isLater_8 rfl rfl) ?_
  refine cr_cons (cr_ldc_ok hx hb hown (cr_w Z w_973 rfl hU args) d_M_isLater_9 rfl) ?_
  refine cr_cons (cr_icgt_ok hx hb d_M_isLater_11 (by decide) rfl) ?_
  refine cr_cons (cr_iconst_ok hx hb d_M_isLater_14 (by decide) rfl) ?_
  refine cr_cons (cr_goto_ok hx hb d_M_isLater_15 (by decide)) ?_
  refine cr_cons (cr_iconst_ok hx hb d_M_isLater_18 (by decide) rfl) ?_
  refine cr_cons (cr_zret_ok hx hb hr hlk d_M_isLater_19) ?_
  exact cr_nil
theorem s_M_isLater {p : Program} {l : Launch} {e : Env} {R : Room} {s : State} {m : MethodId} {args : Array Value} {below : List Frame} {meth : Method} {c : Code} {s0 : State} {D : va_G} {ca : Nat → ClassId} {e0 d mc ms : Nat} {Q : cr_Q} (hl : l.flags = flags0) (Z : cr_Z0 s0 D ca e0) (C : cr_C p R s m meth c (cr_W0 s0) s0.heap.size y_M_isLater c_M_isLater 2 (Option.some FieldType.boolean) d mc ms) (hem : c.exceptionTable.toList = []) : ∀ x ∈ t_M_isLater l s0 D ca e0 d mc ms, cr_Snd p l e R s m args below meth c s0.heap.size mc ms Q x.1 x.2 := s_M_isLater_0 hl Z C hem
theorem d_M_asks_0 : decode c_M_asks 0 = .ok (.iload_n 1, 1) := by decide +kernel
theorem d_M_asks_1 : decode c_M_asks 1 = .ok (.aload_n 0, 1) := by decide +kernel
theorem d_M_asks_2 : decode c_M_asks 2 = .ok (.getfield 134, 3) := by decide +kernel
theorem d_M_asks_5 : decode c_M_asks 5 = .ok (.invokestatic 113, 3) := by decide +kernel
theorem d_M_asks_8 : decode c_M_asks 8 = .ok (.ifCond .eq 25, 3) := by decide +kernel
theorem d_M_asks_11 : decode c_M_asks 11 = .ok (.aload_n 0, 1) := by decide +kernel
theorem d_M_asks_12 : decode c_M_asks 12 = .ok (.iload_n 2, 1) := by decide +kernel
theorem d_M_asks_13 : decode c_M_asks 13 = .ok (.iload_n 3, 1) := by decide +kernel
theorem d_M_asks_14 : decode c_M_asks 14 = .ok (.invokevirtual 165, 3) := by decide +kernel
theorem d_M_asks_17 : decode c_M_asks 17 = .ok (.ifCond .eq 16, 3) := by decide +kernel
theorem d_M_asks_20 : decode c_M_asks 20 = .ok (.aload_n 0, 1) := by decide +kernel
theorem d_M_asks_21 : decode c_M_asks 21 = .ok (.iload 4, 2) := by decide +kernel
theorem d_M_asks_23 : decode c_M_asks 23 = .ok (.invokevirtual 151, 3) := by decide +kernel
theorem d_M_asks_26 : decode c_M_asks 26 = .ok (.ifCond .eq 7, 3) := by decide +kernel
theorem d_M_asks_29 : decode c_M_asks 29 = .ok (.iconst 1, 1) := by decide +kernel
theorem d_M_asks_30 : decode c_M_asks 30 = .ok (.goto 4, 3) := by decide +kernel
theorem d_M_asks_33 : decode c_M_asks 33 = .ok (.iconst 0, 1) := by decide +kernel
theorem d_M_asks_34 : decode c_M_asks 34 = .ok (.istore 5, 2) := by decide +kernel
theorem d_M_asks_36 : decode c_M_asks 36 = .ok (.aload_n 0, 1) := by decide +kernel
theorem d_M_asks_37 : decode c_M_asks 37 = .ok (.iload 5, 2) := by decide +kernel
theorem d_M_asks_39 : decode c_M_asks 39 = .ok (.iload 5, 2) := by decide +kernel
theorem d_M_asks_41 : decode c_M_asks 41 = .ok (.ifCond .eq 18, 3) := by decide +kernel
theorem d_M_asks_44 : decode c_M_asks 44 = .ok (.aload_n 0, 1) := by decide +kernel
theorem d_M_asks_45 : decode c_M_asks 45 = .ok (.getfield 35, 3) := by decide +kernel
theorem d_M_asks_48 : decode c_M_asks 48 = .ok (.iload_n 2, 1) := by decide +kernel
theorem d_M_asks_49 : decode c_M_asks 49 = .ok (.iaload, 1) := by decide +kernel
theorem d_M_asks_50 : decode c_M_asks 50 = .ok (.bipush 50, 2) := by decide +kernel
theorem d_M_asks_52 : decode c_M_asks 52 = .ok (.if_icmp .ge 7, 3) := by decide +kernel
theorem d_M_asks_55 : decode c_M_asks 55 = .ok (.iconst 1, 1) := by decide +kernel
theorem d_M_asks_56 : decode c_M_asks 56 = .ok (.goto 4, 3) := by decide +kernel
theorem d_M_asks_59 : decode c_M_asks 59 = .ok (.iconst 0, 1) := by decide +kernel
theorem d_M_asks_60 : decode c_M_asks 60 = .ok (.invokevirtual 120, 3) := by decide +kernel
theorem d_M_asks_63 : decode c_M_asks 63 = .ok (.ifCond .ne 5, 3) := by decide +kernel
theorem d_M_asks_66 : decode c_M_asks 66 = .ok (.iconst 0, 1) := by decide +kernel
theorem d_M_asks_67 : decode c_M_asks 67 = .ok (.ireturn, 1) := by decide +kernel
theorem d_M_asks_68 : decode c_M_asks 68 = .ok (.aload_n 0, 1) := by decide +kernel
theorem d_M_asks_69 : decode c_M_asks 69 = .ok (.iload 4, 2) := by decide +kernel
theorem d_M_asks_71 : decode c_M_asks 71 = .ok (.putfield 148, 3) := by decide +kernel
theorem d_M_asks_74 : decode c_M_asks 74 = .ok (.aload_n 0, 1) := by decide +kernel
theorem d_M_asks_75 : decode c_M_asks 75 = .ok (.iload_n 1, 1) := by decide +kernel
theorem d_M_asks_76 : decode c_M_asks 76 = .ok (.iload_n 2, 1) := by decide +kernel
theorem d_M_asks_77 : decode c_M_asks 77 = .ok (.iload_n 3, 1) := by decide +kernel
theorem d_M_asks_78 : decode c_M_asks 78 = .ok (.iload 4, 2) := by decide +kernel
theorem d_M_asks_80 : decode c_M_asks 80 = .ok (.invokevirtual 168, 3) := by decide +kernel
theorem d_M_asks_83 : decode c_M_asks 83 = .ok (.istore 6, 2) := by decide +kernel
theorem d_M_asks_85 : decode c_M_asks 85 = .ok (.iload 6, 2) := by decide +kernel
theorem d_M_asks_87 : decode c_M_asks 87 = .ok (.ifCond .ne 17, 3) := by decide +kernel
theorem d_M_asks_90 : decode c_M_asks 90 = .ok (.aload_n 0, 1) := by decide +kernel
theorem d_M_asks_91 : decode c_M_asks 91 = .ok (.getfield 19, 3) := by decide +kernel
theorem d_M_asks_94 : decode c_M_asks 94 = .ok (.iload_n 2, 1) := by decide +kernel
theorem d_M_asks_95 : decode c_M_asks 95 = .ok (.baload, 1) := by decide +kernel
theorem d_M_asks_96 : decode c_M_asks 96 = .ok (.ifCond .eq 8, 3) := by decide +kernel
theorem d_M_asks_99 : decode c_M_asks 99 = .ok (.bipush 7, 2) := by decide +kernel
theorem d_M_asks_101 : decode c_M_asks 101 = .ok (.goto 5, 3) := by decide +kernel
theorem d_M_asks_104 : decode c_M_asks 104 = .ok (.iload 6, 2) := by decide +kernel
theorem d_M_asks_106 : decode c_M_asks 106 = .ok (.istore 6, 2) := by decide +kernel
theorem d_M_asks_108 : decode c_M_asks 108 = .ok (.iload 6, 2) := by decide +kernel
theorem d_M_asks_110 : decode c_M_asks 110 = .ok (.ifCond .ne 12, 3) := by decide +kernel
theorem d_M_asks_113 : decode c_M_asks 113 = .ok (.aload_n 0, 1) := by decide +kernel
theorem d_M_asks_114 : decode c_M_asks 114 = .ok (.iload_n 1, 1) := by decide +kernel
theorem d_M_asks_115 : decode c_M_asks 115 = .ok (.iload_n 2, 1) := by decide +kernel
theorem d_M_asks_116 : decode c_M_asks 116 = .ok (.iload_n 3, 1) := by decide +kernel
theorem d_M_asks_117 : decode c_M_asks 117 = .ok (.iload 4, 2) := by decide +kernel
theorem d_M_asks_119 : decode c_M_asks 119 = .ok (.invokevirtual 172, 3) := by decide +kernel
theorem d_M_asks_122 : decode c_M_asks 122 = .ok (.iload 6, 2) := by decide +kernel
theorem d_M_asks_124 : decode c_M_asks 124 = .ok (.ireturn, 1) := by decide +kernel
def t_M_asks_0 (l : Launch) (s0 : State) (D : va_G) (ca : Nat → ClassId) (e0 d mc ms : Nat) : List (Nat × cr_T) := [(0, cr_iload 1 1),
  (1, cr_aload 0 2),
  (2, cr_getf D kc 11 19 5),
  (5, cr_calS l (cr_W0 s0) s0.heap.size y_M_isIn cw_M_isIn d mc ms 2 7 8),
  (8, cr_ifeq 33 11),
  (11, cr_aload 0 12),
  (12, cr_iload 2 13),
  (13, cr_iload 3 14),
  (14, cr_calV D kc l (cr_W0 s0) s0.heap.size 11 y_M_isOf cw_M_isOf d mc ms 2 7 17),
  (17, cr_ifeq 33 20),
  (20, cr_aload 0 21),
  (21, cr_iload 4 23),
  (23, cr_calV D kc l (cr_W0 s0) s0.heap.size 11 y_M_isLater cw_M_isLater d mc ms 1 7 26),
  (26, cr_ifeq 33 29),
  (29, cr_push (.int 1) 30),
  (30, cr_goto 34),
  (33, cr_push (.int 0) 34),
  (34, cr_istore 5 36),
  (36, cr_aload 0 37),
  (37, cr_iload 5 39),
  (39, cr_iload 5 41),
  (41, cr_ifeq 59 44),
  (44, cr_aload 0 45),
  (45, cr_getf D kc 11 12 48),
  (48, cr_iload 2 49),
  (49, cr_iald D kc (ca 0) 50),
  (50, cr_push (.int 50) 52),
  (52, cr_icge 59 55),
  (55, cr_push (.int 1) 56),
  (56, cr_goto 60)]
def t_M_asks_1 (l : Launch) (s0 : State) (D : va_G) (ca : Nat → ClassId) (e0 d mc ms : Nat) : List (Nat × cr_T) := [(59, cr_push (.int 0) 60),
  (60, cr_calV D kc l (cr_W0 s0) s0.heap.size 11 y_M_goes cw_M_goes d mc ms 2 7 63),
  (63, cr_ifne 68 66),
  (66, cr_push (.int 0) 67),
  (67, cr_iret mc ms),
  (68, cr_aload 0 69),
  (69, cr_iload 4 71),
  (71, cr_putf D kc s0.heap.size 11 1 .int 74),
  (74, cr_aload 0 75),
  (75, cr_iload 1 76),
  (76, cr_iload 2 77),
  (77, cr_iload 3 78),
  (78, cr_iload 4 80),
  (80, cr_calV D kc l (cr_W0 s0) s0.heap.size 11 y_M_refused cw_M_refused d mc ms 4 7 83),
  (83, cr_istore 6 85),
  (85, cr_iload 6 87),
  (87, cr_ifne 104 90),
  (90, cr_aload 0 91),
  (91, cr_getf D kc 11 7 94),
  (94, cr_iload 2 95),
  (95, cr_zald D kc (ca 2) 96),
  (96, cr_ifeq 104 99),
  (99, cr_push (.int 7) 101),
  (101, cr_goto 106),
  (104, cr_iload 6 106),
  (106, cr_istore 6 108),
  (108, cr_iload 6 110),
  (110, cr_ifne 122 113),
  (113, cr_aload 0 114),
  (114, cr_iload 1 115)]
def t_M_asks_2 (l : Launch) (s0 : State) (D : va_G) (ca : Nat → ClassId) (e0 d mc ms : Nat) : List (Nat × cr_T) := [(115, cr_iload 2 116),
  (116, cr_iload 3 117),
  (117, cr_iload 4 119),
  (119, cr_calV D kc l (cr_W0 s0) s0.heap.size 11 y_M_let cw_M_let d mc ms 4 7 122),
  (122, cr_iload 6 124),
  (124, cr_iret mc ms)]
def t_M_asks (l : Launch) (s0 : State) (D : va_G) (ca : Nat → ClassId) (e0 d mc ms : Nat) : List (Nat × cr_T) := t_M_asks_0 l s0 D ca e0 d mc ms ++ (t_M_asks_1 l s0 D ca e0 d mc ms ++ (t_M_asks_2 l s0 D ca e0 d mc ms))
set_option maxHeartbeats 4000000 in
set_option maxRecDepth 20000 in
theorem s_M_asks_0 {p : Program} {l : Launch} {e : Env} {R : Room} {s : State} {m : MethodId} {args : Array Value} {below : List Frame} {meth : Method} {c : Code} {s0 : State} {D : va_G} {ca : Nat → ClassId} {e0 d mc ms : Nat} {Q : cr_Q} (hl : l.flags = flags0) (Z : cr_Z0 s0 D ca e0) (C : cr_C p R s m meth c (cr_W0 s0) s0.heap.size y_M_asks c_M_asks 7 (Option.some FieldType.int) d mc ms) (hem : c.exceptionTable.toList = []) : ∀ x ∈ t_M_asks_0 l s0 D ca e0 d mc ms, cr_Snd p l e R s m args below meth c s0.heap.size mc ms Q x.1 x.2 := by
  obtain ⟨hx, hb, hml, hown, hr, hlk, hnm, hU, hlo, hR⟩ := C
  have hK := cr_Z0K Z hU
  have hRc : R.cells = mc := by rw [hR]; rfl
  have hRs : R.slots = ms := by rw [hR]; rfl
  unfold t_M_asks_0
  refine cr_cons (cr_iload_n_ok hx hb d_M_asks_0 rfl rfl) ?_
  refine cr_cons (cr_aload_n_ok hx hb d_M_asks_1 rfl rfl) ?_
  refine cr_cons (cr_getf_ok (C := R_M) (T := T_M) (N := 41) hx hb (k_M Z hU args) (fun _ h => h) hown hK rfl (by decide) (cr_w Z w_837 rfl hU args) (fun _ h => h) d_M_asks_2 rfl) ?_
  refine cr_cons (cr_calS_ok hx hb hml hown hlk hU hlo hR (cr_W0_st s0) (by rw [hem]; exact fun _ h => absurd h List.not_mem_nil) (u_M_isIn Z) (Or.inl (cr_w Z w_951 rfl hU args)) (cr_w Z w_952 rfl hU args) (by decide) (by decide +kernel) (by decide) d_M_asks_5 rfl) ?_
  refine cr_cons (cr_ifeq_ok hx hb d_M_asks_8 (by decide) rfl) ?_
  refine cr_cons (cr_aload_n_ok hx hb d_M_asks_11 rfl rfl) ?_
  refine cr_cons (cr_iload_n_ok hx hb d_M_asks_12 rfl rfl) ?_
  refine cr_cons (cr_iload_n_ok hx hb d_M_asks_13 rfl rfl) ?_
  refine cr_cons (cr_calV_ok (C := R_M) (Tf := T_M) (N := 41) hx hb hml hown hlk hU hlo hR (cr_W0_st s0) (by rw [hem]; exact fun _ h => absurd h List.not_mem_nil) hK rfl (u_M_isOf Z) (Or.inl (cr_w Z w_1014 rfl hU args)) (cr_w Z w_1016 rfl hU args) (cr_w Z ws_36 rfl hU args) (by decide) (by decide +kernel) (by decide) d_M_asks_14 rfl) ?_
  refine cr_cons (cr_ifeq_ok hx hb d_M_asks_17 (by decide) rfl) ?_
  refine cr_cons (cr_aload_n_ok hx hb d_M_asks_20 rfl rfl) ?_
  refine cr_cons (cr_iload_ok hx hb d_M_asks_21 rfl) ?_
  refine cr_cons (cr_calV_ok (C := R_M) (Tf := T_M) (N := 41) hx hb hml hown hlk hU hlo hR (cr_W0_st s0) (by rw [hem]; exact fun _ h => absurd h List.not_mem_nil) hK rfl (u_M_isLater Z) (Or.inl (cr_w Z w_1006 rfl hU args)) (cr_w Z w_1008 rfl hU args) (cr_w Z ws_35 rfl hU args) (by decide) (by decide +kernel) (by decide) d_M_asks_23 rfl) ?_
  refine cr_cons (cr_ifeq_ok hx hb d_M_asks_26 (by decide) rfl) ?_
  refine cr_cons (cr_iconst_ok hx hb d_M_asks_29 (by decide) rfl) ?_
  refine cr_cons (cr_goto_ok hx hb d_M_asks_30 (by decide)) ?_
  refine cr_cons (cr_iconst_ok hx hb d_M_asks_33 (by decide) rfl) ?_
  refine cr_cons (cr_istore_ok hx hb d_M_asks_34 rfl) ?_
  refine cr_cons (cr_aload_n_ok hx hb d_M_asks_36 rfl rfl) ?_
  refine cr_cons (cr_iload_ok hx hb d_M_asks_37 rfl) ?_
  refine cr_cons (cr_iload_ok hx hb d_M_asks_39 rfl) ?_
  refine cr_cons (cr_ifeq_ok hx hb d_M_asks_41 (by decide) rfl) ?_
  refine cr_cons (cr_aload_n_ok hx hb d_M_asks_44 rfl rfl) ?_
  refine cr_cons (cr_getf_ok (C := R_M) (T := T_M) (N := 41) hx hb (k_M Z hU args) (fun _ h => h) hown hK rfl (by decide) (cr_w Z w_830 rfl hU args) (fun _ h => h) d_M_asks_45 rfl) ?_
  refine cr_cons (cr_iload_n_ok hx hb d_M_asks_48 rfl rfl) ?_
  refine cr_cons (cr_iald_ok (t0 := 0) hx hb hK rfl d_M_asks_49 rfl) ?_
  refine cr_cons (cr_bipush_ok hx hb d_M_asks_50 (by decide) rfl) ?_
  refine cr_cons (cr_icge_ok hx hb d_M_asks_52 (by decide) rfl) ?_
  refine cr_cons (cr_iconst_ok hx hb d_M_asks_55 (by decide) rfl) ?_
  refine cr_cons (cr_goto_ok hx hb d_M_asks_56 (by decide)) ?_
  exact cr_nil
set_option maxHeartbeats 4000000 in
set_option maxRecDepth 20000 in
theorem s_M_asks_1 {p : Program} {l : Launch} {e : Env} {R : Room} {s : State} {m : MethodId} {args : Array Value} {below : List Frame} {meth : Method} {c : Code} {s0 : State} {D : va_G} {ca : Nat → ClassId} {e0 d mc ms : Nat} {Q : cr_Q} (hl : l.flags = flags0) (Z : cr_Z0 s0 D ca e0) (C : cr_C p R s m meth c (cr_W0 s0) s0.heap.size y_M_asks c_M_asks 7 (Option.some FieldType.int) d mc ms) (hem : c.exceptionTable.toList = []) : ∀ x ∈ t_M_asks_1 l s0 D ca e0 d mc ms, cr_Snd p l e R s m args below meth c s0.heap.size mc ms Q x.1 x.2 := by
  obtain ⟨hx, hb, hml, hown, hr, hlk, hnm, hU, hlo, hR⟩ := C
  have hK := cr_Z0K Z hU
  have hRc : R.cells = mc := by rw [hR]; rfl
  have hRs : R.slots = ms := by rw [hR]; rfl
  unfold t_M_asks_1
  refine cr_cons (cr_iconst_ok hx hb d_M_asks_59 (by decide) rfl) ?_
  refine cr_cons (cr_calV_ok (C := R_M) (Tf := T_M) (N := 41) hx hb hml hown hlk hU hlo hR (cr_W0_st s0) (by rw [hem]; exact fun _ h => absurd h List.not_mem_nil) hK rfl (u_M_goes Z) (Or.inl (cr_w Z w_954 rfl hU args)) (cr_w Z w_956 rfl hU args) (cr_w Z ws_32 rfl hU args) (by decide) (by decide +kernel) (by decide) d_M_asks_60 rfl) ?_
  refine cr_cons (cr_ifne_ok hx hb d_M_asks_63 (by decide) rfl) ?_
  refine cr_cons (cr_iconst_ok hx hb d_M_asks_66 (by decide) rfl) ?_
  refine cr_cons (cr_iret_ok hx hb hr hlk d_M_asks_67) ?_
  refine cr_cons (cr_aload_n_ok hx hb d_M_asks_68 rfl rfl) ?_
  refine cr_cons (cr_iload_ok hx hb d_M_asks_69 rfl) ?_
  refine cr_cons (cr_putf_ok (C := R_M) (T := T_M) (N := 41) tt_M hx hb (k_M Z hU args) (fun _ h => h) ty_M nm_M hown hK rfl (by decide) (Or.inl (cr_w Z w_819 rfl hU args)) (fun _ h => h) rfl (by decide +kernel) d_M_asks_71 rfl) ?_
  refine cr_cons (cr_aload_n_ok hx hb d_M_asks_74 rfl rfl) ?_
  refine cr_cons (cr_iload_n_ok hx hb d_M_asks_75 rfl rfl) ?_
  refine cr_cons (cr_iload_n_ok hx hb d_M_asks_76 rfl rfl) ?_
  refine cr_cons (cr_iload_n_ok hx hb d_M_asks_77 rfl rfl) ?_
  refine cr_cons (cr_iload_ok hx hb d_M_asks_78 rfl) ?_
  refine cr_cons (cr_calV_ok (C := R_M) (Tf := T_M) (N := 41) hx hb hml hown hlk hU hlo hR (cr_W0_st s0) (by rw [hem]; exact fun _ h => absurd h List.not_mem_nil) hK rfl (u_M_refused Z) (Or.inl (cr_w Z w_1018 rfl hU args)) (cr_w Z w_1020 rfl hU args) (cr_w Z ws_37 rfl hU args) (by decide) (by decide +kernel) (by decide) d_M_asks_80 rfl) ?_
  refine cr_cons (cr_istore_ok hx hb d_M_asks_83 rfl) ?_
  refine cr_cons (cr_iload_ok hx hb d_M_asks_85 rfl) ?_
  refine cr_cons (cr_ifne_ok hx hb d_M_asks_87 (by decide) rfl) ?_
  refine cr_cons (cr_aload_n_ok hx hb d_M_asks_90 rfl rfl) ?_
  refine cr_cons (cr_getf_ok (C := R_M) (T := T_M) (N := 41) hx hb (k_M Z hU args) (fun _ h => h) hown hK rfl (by decide) (cr_w Z w_825 rfl hU args) (fun _ h => h) d_M_asks_91 rfl) ?_
  refine cr_cons (cr_iload_n_ok hx hb d_M_asks_94 rfl rfl) ?_
  refine cr_cons (cr_zald_ok (t0 := 2) hx hb hK rfl d_M_asks_95 rfl) ?_
  refine cr_cons (cr_ifeq_ok hx hb d_M_asks_96 (by decide) rfl) ?_
  refine cr_cons (cr_bipush_ok hx hb d_M_asks_99 (by decide) rfl) ?_
  refine cr_cons (cr_goto_ok hx hb d_M_asks_101 (by decide)) ?_
  refine cr_cons (cr_iload_ok hx hb d_M_asks_104 rfl) ?_
  refine cr_cons (cr_istore_ok hx hb d_M_asks_106 rfl) ?_
  refine cr_cons (cr_iload_ok hx hb d_M_asks_108 rfl) ?_
  refine cr_cons (cr_ifne_ok hx hb d_M_asks_110 (by decide) rfl) ?_
  refine cr_cons (cr_aload_n_ok hx hb d_M_asks_113 rfl rfl) ?_
  refine cr_cons (cr_iload_n_ok hx hb d_M_asks_114 rfl rfl) ?_
  exact cr_nil
set_option maxHeartbeats 4000000 in
set_option maxRecDepth 20000 in
theorem s_M_asks_2 {p : Program} {l : Launch} {e : Env} {R : Room} {s : State} {m : MethodId} {args : Array Value} {below : List Frame} {meth : Method} {c : Code} {s0 : State} {D : va_G} {ca : Nat → ClassId} {e0 d mc ms : Nat} {Q : cr_Q} (hl : l.flags = flags0) (Z : cr_Z0 s0 D ca e0) (C : cr_C p R s m meth c (cr_W0 s0) s0.heap.size y_M_asks c_M_asks 7 (Option.some FieldType.int) d mc ms) (hem : c.exceptionTable.toList = []) : ∀ x ∈ t_M_asks_2 l s0 D ca e0 d mc ms, cr_Snd p l e R s m args below meth c s0.heap.size mc ms Q x.1 x.2 := by
  obtain ⟨hx, hb, hml, hown, hr, hlk, hnm, hU, hlo, hR⟩ := C
  have hK := cr_Z0K Z hU
  have hRc : R.cells = mc := by rw [hR]; rfl
  have hRs : R.slots = ms := by rw [hR]; rfl
  unfold t_M_asks_2
  refine cr_cons (cr_iload_n_ok hx hb d_M_asks_115 rfl rfl) ?_
  refine cr_cons (cr_iload_n_ok hx hb d_M_asks_116 rfl rfl) ?_
  refine cr_cons (cr_iload_ok hx hb d_M_asks_117 rfl) ?_
  refine cr_cons (cr_calV_ok (C := R_M) (Tf := T_M) (N := 41) hx hb hml hown hlk hU hlo hR (cr_W0_st s0) (by rw [hem]; exact fun _ h => absurd h List.not_mem_nil) hK rfl (u_M_let Z) (Or.inl (cr_w Z w_1030 rfl hU args)) (cr_w Z w_1032 rfl hU args) (cr_w Z ws_40 rfl hU args) (by decide) (by decide +kernel) (by decide) d_M_asks_119 rfl) ?_
  refine cr_cons (cr_iload_ok hx hb d_M_asks_122 rfl) ?_
  refine cr_cons (cr_iret_ok hx hb hr hlk d_M_asks_124) ?_
  exact cr_nil
theorem s_M_asks {p : Program} {l : Launch} {e : Env} {R : Room} {s : State} {m : MethodId} {args : Array Value} {below : List Frame} {meth : Method} {c : Code} {s0 : State} {D : va_G} {ca : Nat → ClassId} {e0 d mc ms : Nat} {Q : cr_Q} (hl : l.flags = flags0) (Z : cr_Z0 s0 D ca e0) (C : cr_C p R s m meth c (cr_W0 s0) s0.heap.size y_M_asks c_M_asks 7 (Option.some FieldType.int) d mc ms) (hem : c.exceptionTable.toList = []) : ∀ x ∈ t_M_asks l s0 D ca e0 d mc ms, cr_Snd p l e R s m args below meth c s0.heap.size mc ms Q x.1 x.2 := cr_app (s_M_asks_0 hl Z C hem) (cr_app (s_M_asks_1 hl Z C hem) (s_M_asks_2 hl Z C hem))
theorem d_M_isOf_0 : decode c_M_isOf 0 = .ok (.iload_n 1, 1) := by decide +kernel
theorem d_M_isOf_1 : decode c_M_isOf 1 = .ok (.aload_n 0, 1) := by decide +kernel
theorem d_M_isOf_2 : decode c_M_isOf 2 = .ok (.getfield 124, 3) := by decide +kernel
theorem d_M_isOf_5 : decode c_M_isOf 5 = .ok (.invokestatic 113, 3) := by decide +kernel
theorem d_M_isOf_8 : decode c_M_isOf 8 = .ok (.ifCond .eq 38, 3) := by decide +kernel
theorem d_M_isOf_11 : decode c_M_isOf 11 = .ok (.iload_n 2, 1) := by decide +kernel
theorem d_M_isOf_12 : decode c_M_isOf 12 = .ok (.aload_n 0, 1) := by decide +kernel
theorem d_M_isOf_13 : decode c_M_isOf 13 = .ok (.getfield 117, 3) := by decide +kernel
theorem d_M_isOf_16 : decode c_M_isOf 16 = .ok (.invokestatic 113, 3) := by decide +kernel
theorem d_M_isOf_19 : decode c_M_isOf 19 = .ok (.ifCond .eq 27, 3) := by decide +kernel
theorem d_M_isOf_22 : decode c_M_isOf 22 = .ok (.aload_n 0, 1) := by decide +kernel
theorem d_M_isOf_23 : decode c_M_isOf 23 = .ok (.getfield 13, 3) := by decide +kernel
theorem d_M_isOf_26 : decode c_M_isOf 26 = .ok (.iload_n 1, 1) := by decide +kernel
theorem d_M_isOf_27 : decode c_M_isOf 27 = .ok (.iaload, 1) := by decide +kernel
theorem d_M_isOf_28 : decode c_M_isOf 28 = .ok (.iload_n 2, 1) := by decide +kernel
theorem d_M_isOf_29 : decode c_M_isOf 29 = .ok (.if_icmp .eq 13, 3) := by decide +kernel
theorem d_M_isOf_32 : decode c_M_isOf 32 = .ok (.aload_n 0, 1) := by decide +kernel
theorem d_M_isOf_33 : decode c_M_isOf 33 = .ok (.getfield 16, 3) := by decide +kernel
theorem d_M_isOf_36 : decode c_M_isOf 36 = .ok (.iload_n 1, 1) := by decide +kernel
theorem d_M_isOf_37 : decode c_M_isOf 37 = .ok (.iaload, 1) := by decide +kernel
theorem d_M_isOf_38 : decode c_M_isOf 38 = .ok (.iload_n 2, 1) := by decide +kernel
theorem d_M_isOf_39 : decode c_M_isOf 39 = .ok (.if_icmp .ne 7, 3) := by decide +kernel
theorem d_M_isOf_42 : decode c_M_isOf 42 = .ok (.iconst 1, 1) := by decide +kernel
theorem d_M_isOf_43 : decode c_M_isOf 43 = .ok (.goto 4, 3) := by decide +kernel
theorem d_M_isOf_46 : decode c_M_isOf 46 = .ok (.iconst 0, 1) := by decide +kernel
theorem d_M_isOf_47 : decode c_M_isOf 47 = .ok (.ireturn, 1) := by decide +kernel
def t_M_isOf_0 (l : Launch) (s0 : State) (D : va_G) (ca : Nat → ClassId) (e0 d mc ms : Nat) : List (Nat × cr_T) := [(0, cr_iload 1 1),
  (1, cr_aload 0 2),
  (2, cr_getf D kc 11 4 5),
  (5, cr_calS l (cr_W0 s0) s0.heap.size y_M_isIn cw_M_isIn d mc ms 2 3 8),
  (8, cr_ifeq 46 11),
  (11, cr_iload 2 12),
  (12, cr_aload 0 13),
  (13, cr_getf D kc 11 2 16),
  (16, cr_calS l (cr_W0 s0) s0.heap.size y_M_isIn cw_M_isIn d mc ms 2 3 19),
  (19, cr_ifeq 46 22),
  (22, cr_aload 0 23),
  (23, cr_getf D kc 11 5 26),
  (26, cr_iload 1 27),
  (27, cr_iald D kc (ca 0) 28),
  (28, cr_iload 2 29),
  (29, cr_iceq 42 32),
  (32, cr_aload 0 33),
  (33, cr_getf D kc 11 6 36),
  (36, cr_iload 1 37),
  (37, cr_iald D kc (ca 0) 38),
  (38, cr_iload 2 39),
  (39, cr_icne 46 42),
  (42, cr_push (.int 1) 43),
  (43, cr_goto 47),
  (46, cr_push (.int 0) 47),
  (47, cr_zret mc ms .boolean)]
def t_M_isOf (l : Launch) (s0 : State) (D : va_G) (ca : Nat → ClassId) (e0 d mc ms : Nat) : List (Nat × cr_T) := t_M_isOf_0 l s0 D ca e0 d mc ms
set_option maxHeartbeats 4000000 in
set_option maxRecDepth 20000 in
theorem s_M_isOf_0 {p : Program} {l : Launch} {e : Env} {R : Room} {s : State} {m : MethodId} {args : Array Value} {below : List Frame} {meth : Method} {c : Code} {s0 : State} {D : va_G} {ca : Nat → ClassId} {e0 d mc ms : Nat} {Q : cr_Q} (hl : l.flags = flags0) (Z : cr_Z0 s0 D ca e0) (C : cr_C p R s m meth c (cr_W0 s0) s0.heap.size y_M_isOf c_M_isOf 3 (Option.some FieldType.boolean) d mc ms) (hem : c.exceptionTable.toList = []) : ∀ x ∈ t_M_isOf_0 l s0 D ca e0 d mc ms, cr_Snd p l e R s m args below meth c s0.heap.size mc ms Q x.1 x.2 := by
  obtain ⟨hx, hb, hml, hown, hr, hlk, hnm, hU, hlo, hR⟩ := C
  have hK := cr_Z0K Z hU
  have hRc : R.cells = mc := by rw [hR]; rfl
  have hRs : R.slots = ms := by rw [hR]; rfl
  unfold t_M_isOf_0
  refine cr_cons (cr_iload_n_ok hx hb d_M_isOf_0 rfl rfl) ?_
  refine cr_cons (cr_aload_n_ok hx hb d_M_isOf_1 rfl rfl) ?_
  refine cr_cons (cr_getf_ok (C := R_M) (T := T_M) (N := 41) hx hb (k_M Z hU args) (fun _ h => h) hown hK rfl (by decide) (cr_w Z w_822 rfl hU args) (fun _ h => h) d_M_isOf_2 rfl) ?_
  refine cr_cons (cr_calS_ok hx hb hml hown hlk hU hlo hR (cr_W0_st s0) (by rw [hem]; exact fun _ h => absurd h List.not_mem_nil) (u_M_isIn Z) (Or.inl (cr_w Z w_951 rfl hU args)) (cr_w Z w_952 rfl hU args) (by decide) (by decide +kernel) (by decide) d_M_isOf_5 rfl) ?_
  refine cr_cons (cr_ifeq_ok hx hb d_M_isOf_8 (by decide) rfl) ?_
  refine cr_cons (cr_iload_n_ok hx hb d_M_isOf_11 rfl rfl) ?_
  refine cr_cons (cr_aload_n_ok hx hb d_M_isOf_12 rfl rfl) ?_
  refine cr_cons (cr_getf_ok (C := R_M) (T := T_M) (N := 41) hx hb (k_M Z hU args) (fun _ h => h) hown hK rfl (by decide) (cr_w Z w_820 rfl hU args) (fun _ h => h) d_M_isOf_13 rfl) ?_
  refine cr_cons (cr_calS_ok hx hb hml hown hlk hU hlo hR (cr_W0_st s0) (by rw [hem]; exact fun _ h => absurd h List.not_mem_nil) (u_M_isIn Z) (Or.inl (cr_w Z w_951 rfl hU args)) (cr_w Z w_952 rfl hU args) (by decide) (by decide +kernel) (by decide) d_M_isOf_16 rfl) ?_
  refine cr_cons (cr_ifeq_ok hx hb d_M_isOf_19 (by decide) rfl) ?_
  refine cr_cons (cr_aload_n_ok hx hb d_M_isOf_22 rfl rfl) ?_
  refine cr_cons (cr_getf_ok (C := R_M) (T := T_M) (N := 41) hx hb (k_M Z hU args) (fun _ h => h) hown hK rfl (by decide) (cr_w Z w_823 rfl hU args) (fun _ h => h) d_M_isOf_23 rfl) ?_
  refine cr_cons (cr_iload_n_ok hx hb d_M_isOf_26 rfl rfl) ?_
  refine cr_cons (cr_iald_ok (t0 := 0) hx hb hK rfl d_M_isOf_27 rfl) ?_
  refine cr_cons (cr_iload_n_ok hx hb d_M_isOf_28 rfl rfl) ?_
  refine cr_cons (cr_iceq_ok hx hb d_M_isOf_29 (by decide) rfl) ?_
  refine cr_cons (cr_aload_n_ok hx hb d_M_isOf_32 rfl rfl) ?_
  refine cr_cons (cr_getf_ok (C := R_M) (T := T_M) (N := 41) hx hb (k_M Z hU args) (fun _ h => h) hown hK rfl (by decide) (cr_w Z w_824 rfl hU args) (fun _ h => h) d_M_isOf_33 rfl) ?_
  refine cr_cons (cr_iload_n_ok hx hb d_M_isOf_36 rfl rfl) ?_
  refine cr_cons (cr_iald_ok (t0 := 0) hx hb hK rfl d_M_isOf_37 rfl) ?_
  refine cr_cons (cr_iload_n_ok hx hb d_M_isOf_38 rfl rfl) ?_
  refine cr_cons (cr_icne_ok hx hb d_M_isOf_39 (by decide) rfl) ?_
  refine cr_cons (cr_iconst_ok hx hb d_M_isOf_42 (by decide) rfl) ?_
  refine cr_cons (cr_goto_ok hx hb d_M_isOf_43 (by decide)) ?_
  refine cr_cons (cr_iconst_ok hx hb d_M_isOf_46 (by decide) rfl) ?_
  refine cr_cons (cr_zret_ok hx hb hr hlk d_M_isOf_47) ?_
  exact cr_nil
theorem s_M_isOf {p : Program} {l : Launch} {e : Env} {R : Room} {s : State} {m : MethodId} {args : Array Value} {below : List Frame} {meth : Method} {c : Code} {s0 : State} {D : va_G} {ca : Nat → ClassId} {e0 d mc ms : Nat} {Q : cr_Q} (hl : l.flags = flags0) (Z : cr_Z0 s0 D ca e0) (C : cr_C p R s m meth c (cr_W0 s0) s0.heap.size y_M_isOf c_M_isOf 3 (Option.some FieldType.boolean) d mc ms) (hem : c.exceptionTable.toList = []) : ∀ x ∈ t_M_isOf l s0 D ca e0 d mc ms, cr_Snd p l e R s m args below meth c s0.heap.size mc ms Q x.1 x.2 := s_M_isOf_0 hl Z C hem
