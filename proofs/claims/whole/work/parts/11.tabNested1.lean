theorem d_Ne_leastWith_0 : decode c_Ne_leastWith 0 = .ok (.aload_n 0, 1) := by decide +kernel
theorem d_Ne_leastWith_1 : decode c_Ne_leastWith 1 = .ok (.iload_n 1, 1) := by decide +kernel
theorem d_Ne_leastWith_2 : decode c_Ne_leastWith 2 = .ok (.iconst 1, 1) := by decide +kernel
theorem d_Ne_leastWith_3 : decode c_Ne_leastWith 3 = .ok (.iload_n 2, 1) := by decide +kernel
theorem d_Ne_leastWith_4 : decode c_Ne_leastWith 4 = .ok (.ishl, 1) := by decide +kernel
theorem d_Ne_leastWith_5 : decode c_Ne_leastWith 5 = .ok (.iconst 1, 1) := by decide +kernel
theorem d_Ne_leastWith_6 : decode c_Ne_leastWith 6 = .ok (.isub, 1) := by decide +kernel
theorem d_Ne_leastWith_7 : decode c_Ne_leastWith 7 = .ok (.iload_n 3, 1) := by decide +kernel
theorem d_Ne_leastWith_8 : decode c_Ne_leastWith 8 = .ok (.invokevirtual 23, 3) := by decide +kernel
theorem d_Ne_leastWith_11 : decode c_Ne_leastWith 11 = .ok (.ifCond .ne 5, 3) := by decide +kernel
theorem d_Ne_leastWith_14 : decode c_Ne_leastWith 14 = .ok (.iconst (-1), 1) := by decide +kernel
theorem d_Ne_leastWith_15 : decode c_Ne_leastWith 15 = .ok (.ireturn, 1) := by decide +kernel
theorem d_Ne_leastWith_16 : decode c_Ne_leastWith 16 = .ok (.iload_n 2, 1) := by decide +kernel
theorem d_Ne_leastWith_17 : decode c_Ne_leastWith 17 = .ok (.ifCond .le 7, 3) := by decide +kernel
theorem d_Ne_leastWith_20 : decode c_Ne_leastWith 20 = .ok (.iload_n 3, 1) := by decide +kernel
theorem d_Ne_leastWith_21 : decode c_Ne_leastWith 21 = .ok (.ifCond .gt 5, 3) := by decide +kernel
theorem d_Ne_leastWith_24 : decode c_Ne_leastWith 24 = .ok (.iload_n 1, 1) := by decide +kernel
theorem d_Ne_leastWith_25 : decode c_Ne_leastWith 25 = .ok (.ireturn, 1) := by decide +kernel
theorem d_Ne_leastWith_26 : decode c_Ne_leastWith 26 = .ok (.iload_n 2, 1) := by decide +kernel
theorem d_Ne_leastWith_27 : decode c_Ne_leastWith 27 = .ok (.iconst 1, 1) := by decide +kernel
theorem d_Ne_leastWith_28 : decode c_Ne_leastWith 28 = .ok (.isub, 1) := by decide +kernel
theorem d_Ne_leastWith_29 : decode c_Ne_leastWith 29 = .ok (.istore 4, 2) := by decide +kernel
theorem d_Ne_leastWith_31 : decode c_Ne_leastWith 31 = .ok (.aload_n 0, 1) := by decide +kernel
theorem d_Ne_leastWith_32 : decode c_Ne_leastWith 32 = .ok (.iload_n 1, 1) := by decide +kernel
theorem d_Ne_leastWith_33 : decode c_Ne_leastWith 33 = .ok (.iload 4, 2) := by decide +kernel
theorem d_Ne_leastWith_35 : decode c_Ne_leastWith 35 = .ok (.iload_n 3, 1) := by decide +kernel
theorem d_Ne_leastWith_36 : decode c_Ne_leastWith 36 = .ok (.invokevirtual 19, 3) := by decide +kernel
theorem d_Ne_leastWith_39 : decode c_Ne_leastWith 39 = .ok (.istore 5, 2) := by decide +kernel
theorem d_Ne_leastWith_41 : decode c_Ne_leastWith 41 = .ok (.iload 5, 2) := by decide +kernel
theorem d_Ne_leastWith_43 : decode c_Ne_leastWith 43 = .ok (.iconst (-1), 1) := by decide +kernel
theorem d_Ne_leastWith_44 : decode c_Ne_leastWith 44 = .ok (.if_icmp .eq 8, 3) := by decide +kernel
theorem d_Ne_leastWith_47 : decode c_Ne_leastWith 47 = .ok (.iload 5, 2) := by decide +kernel
theorem d_Ne_leastWith_49 : decode c_Ne_leastWith 49 = .ok (.goto 18, 3) := by decide +kernel
theorem d_Ne_leastWith_52 : decode c_Ne_leastWith 52 = .ok (.aload_n 0, 1) := by decide +kernel
theorem d_Ne_leastWith_53 : decode c_Ne_leastWith 53 = .ok (.iload_n 1, 1) := by decide +kernel
theorem d_Ne_leastWith_54 : decode c_Ne_leastWith 54 = .ok (.iconst 1, 1) := by decide +kernel
theorem d_Ne_leastWith_55 : decode c_Ne_leastWith 55 = .ok (.iload 4, 2) := by decide +kernel
theorem d_Ne_leastWith_57 : decode c_Ne_leastWith 57 = .ok (.ishl, 1) := by decide +kernel
theorem d_Ne_leastWith_58 : decode c_Ne_leastWith 58 = .ok (.ior, 1) := by decide +kernel
theorem d_Ne_leastWith_59 : decode c_Ne_leastWith 59 = .ok (.iload 4, 2) := by decide +kernel
theorem d_Ne_leastWith_61 : decode c_Ne_leastWith 61 = .ok (.iload_n 3, 1) := by decide +kernel
theorem d_Ne_leastWith_62 : decode c_Ne_leastWith 62 = .ok (.iconst 1, 1) := by decide +kernel
theorem d_Ne_leastWith_63 : decode c_Ne_leastWith 63 = .ok (.isub, 1) := by decide +kernel
theorem d_Ne_leastWith_64 : decode c_Ne_leastWith 64 = .ok (.invokevirtual 19, 3) := by decide +kernel
theorem d_Ne_leastWith_67 : decode c_Ne_leastWith 67 = .ok (.ireturn, 1) := by decide +kernel
def t_Ne_leastWith_0 (l : Launch) (s0 : State) (D : va_G) (ca : Nat → ClassId) (e0 d mc ms : Nat) : List (Nat × cr_T) := [(0, cr_aload 0 1),
  (1, cr_iload 1 2),
  (2, cr_push (.int 1) 3),
  (3, cr_iload 2 4),
  (4, cr_ishl 5),
  (5, cr_push (.int 1) 6),
  (6, cr_isub 7),
  (7, cr_iload 3 8),
  (8, cr_calV D kc l (cr_W0 s0) s0.heap.size 5 y_Ne_canBeMet cw_Ne_canBeMet d mc ms 3 6 11),
  (11, cr_ifne 16 14),
  (14, cr_push (.int (-1)) 15),
  (15, cr_iret mc ms),
  (16, cr_iload 2 17),
  (17, cr_ifle 24 20),
  (20, cr_iload 3 21),
  (21, cr_ifgt 26 24),
  (24, cr_iload 1 25),
  (25, cr_iret mc ms),
  (26, cr_iload 2 27),
  (27, cr_push (.int 1) 28),
  (28, cr_isub 29),
  (29, cr_istore 4 31),
  (31, cr_aload 0 32),
  (32, cr_iload 1 33),
  (33, cr_iload 4 35),
  (35, cr_iload 3 36),
  (36, cr_calV D kc l (cr_W0 s0) s0.heap.size 5 y_Ne_leastWith cw_Ne_leastWith d mc ms 3 6 39),
  (39, cr_istore 5 41),
  (41, cr_iload 5 43),
  (43, cr_push (.int (-1)) 44)]
def t_Ne_leastWith_1 (l : Launch) (s0 : State) (D : va_G) (ca : Nat → ClassId) (e0 d mc ms : Nat) : List (Nat × cr_T) := [(44, cr_iceq 52 47),
  (47, cr_iload 5 49),
  (49, cr_goto 67),
  (52, cr_aload 0 53),
  (53, cr_iload 1 54),
  (54, cr_push (.int 1) 55),
  (55, cr_iload 4 57),
  (57, cr_ishl 58),
  (58, cr_ior 59),
  (59, cr_iload 4 61),
  (61, cr_iload 3 62),
  (62, cr_push (.int 1) 63),
  (63, cr_isub 64),
  (64, cr_calV D kc l (cr_W0 s0) s0.heap.size 5 y_Ne_leastWith cw_Ne_leastWith d mc ms 3 6 67),
  (67, cr_iret mc ms)]
def t_Ne_leastWith (l : Launch) (s0 : State) (D : va_G) (ca : Nat → ClassId) (e0 d mc ms : Nat) : List (Nat × cr_T) := t_Ne_leastWith_0 l s0 D ca e0 d mc ms ++ (t_Ne_leastWith_1 l s0 D ca e0 d mc ms)
set_option maxHeartbeats 4000000 in
set_option maxRecDepth 20000 in
theorem s_Ne_leastWith_0 {p : Program} {l : Launch} {e : Env} {R : Room} {s : State} {m : MethodId} {args : Array Value} {below : List Frame} {meth : Method} {c : Code} {s0 : State} {D : va_G} {ca : Nat → ClassId} {e0 d mc ms : Nat} {Q : cr_Q} (hl : l.flags = flags0) (Z : cr_Z0 s0 D ca e0) (C : cr_C p R s m meth c (cr_W0 s0) s0.heap.size y_Ne_leastWith c_Ne_leastWith 6 (Option.some FieldType.int) d mc ms) (hem : c.exceptionTable.toList = []) : ∀ x ∈ t_Ne_leastWith_0 l s0 D ca e0 d mc ms, cr_Snd p l e R s m args below meth c s0.heap.size mc ms Q x.1 x.2 := by
  obtain ⟨hx, hb, hml, hown, hr, hlk, hnm, hU, hlo, hR⟩ := C
  have hK := cr_Z0K Z hU
  have hRc : R.cells = mc := by rw [hR]; rfl
  have hRs : R.slots = ms := by rw [hR]; rfl
  unfold t_Ne_leastWith_0
  refine cr_cons (cr_aload_n_ok hx hb d_Ne_leastWith_0 rfl rfl) ?_
  refine cr_cons (cr_iload_n_ok hx hb d_Ne_leastWith_1 rfl rfl) ?_
  refine cr_cons (cr_iconst_ok hx hb d_Ne_leastWith_2 (by decide) rfl) ?_
  refine cr_cons (cr_iload_n_ok hx hb d_Ne_leastWith_3 rfl rfl) ?_
  refine cr_cons (cr_ishl_ok hx hb d_Ne_leastWith_4 rfl) ?_
  refine cr_cons (cr_iconst_ok hx hb d_Ne_leastWith_5 (by decide) rfl) ?_
  refine cr_cons (cr_isub_ok hx hb d_Ne_leastWith_6 rfl) ?_
  refine cr_cons (cr_iload_n_ok hx hb d_Ne_leastWith_7 rfl rfl) ?_
  refine cr_cons (cr_calV_ok (C := R_Ne) (Tf := T_Ne) (N := 2) hx hb hml hown hlk hU hlo hR (cr_W0_st s0) (by rw [hem]; exact fun _ h => absurd h List.not_mem_nil) hK rfl (u_Ne_canBeMet Z) (Or.inl (cr_w Z w_247 rfl hU args)) (cr_w Z w_249 rfl hU args) (cr_w Z ws_7 rfl hU args) (by decide) (by decide +kernel) (by decide) d_Ne_leastWith_8 rfl) ?_
  refine cr_cons (cr_ifne_ok hx hb d_Ne_leastWith_11 (by decide) rfl) ?_
  refine cr_cons (cr_iconst_ok hx hb d_Ne_leastWith_14 (by decide) rfl) ?_
  refine cr_cons (cr_iret_ok hx hb hr hlk d_Ne_leastWith_15) ?_
  refine cr_cons (cr_iload_n_ok hx hb d_Ne_leastWith_16 rfl rfl) ?_
  refine cr_cons (cr_ifle_ok hx hb d_Ne_leastWith_17 (by decide) rfl) ?_
  refine cr_cons (cr_iload_n_ok hx hb d_Ne_leastWith_20 rfl rfl) ?_
  refine cr_cons (cr_ifgt_ok hx hb d_Ne_leastWith_21 (by decide) rfl) ?_
  refine cr_cons (cr_iload_n_ok hx hb d_Ne_leastWith_24 rfl rfl) ?_
  refine cr_cons (cr_iret_ok hx hb hr hlk d_Ne_leastWith_25) ?_
  refine cr_cons (cr_iload_n_ok hx hb d_Ne_leastWith_26 rfl rfl) ?_
  refine cr_cons (cr_iconst_ok hx hb d_Ne_leastWith_27 (by decide) rfl) ?_
  refine cr_cons (cr_isub_ok hx hb d_Ne_leastWith_28 rfl) ?_
  refine cr_cons (cr_istore_ok hx hb d_Ne_leastWith_29 rfl) ?_
  refine cr_cons (cr_aload_n_ok hx hb d_Ne_leastWith_31 rfl rfl) ?_
  refine cr_cons (cr_iload_n_ok hx hb d_Ne_leastWith_32 rfl rfl) ?_
  refine cr_cons (cr_iload_ok hx hb d_Ne_leastWith_33 rfl) ?_
  refine cr_cons (cr_iload_n_ok hx hb d_Ne_leastWith_35 rfl rfl) ?_
  refine cr_cons (cr_calV_ok (C := R_Ne) (Tf := T_Ne) (N := 2) hx hb hml hown hlk hU hlo hR (cr_W0_st s0) (by rw [hem]; exact fun _ h => absurd h List.not_mem_nil) hK rfl (u_Ne_leastWith Z) (Or.inl (cr_w Z w_243 rfl hU args)) (cr_w Z w_245 rfl hU args) (cr_w Z ws_6 rfl hU args) (by decide) (by decide +kernel) (by decide) d_Ne_leastWith_36 rfl) ?_
  refine cr_cons (cr_istore_ok hx hb d_Ne_leastWith_39 rfl) ?_
  refine cr_cons (cr_iload_ok hx hb d_Ne_leastWith_41 rfl) ?_
  refine cr_cons (cr_iconst_ok hx hb d_Ne_leastWith_43 (by decide) rfl) ?_
  exact cr_nil
set_option maxHeartbeats 4000000 in
set_option maxRecDepth 20000 in
theorem s_Ne_leastWith_1 {p : Program} {l : Launch} {e : Env} {R : Room} {s : State} {m : MethodId} {args : Array Value} {below : List Frame} {meth : Method} {c : Code} {s0 : State} {D : va_G} {ca : Nat → ClassId} {e0 d mc ms : Nat} {Q : cr_Q} (hl : l.flags = flags0) (Z : cr_Z0 s0 D ca e0) (C : cr_C p R s m meth c (cr_W0 s0) s0.heap.size y_Ne_leastWith c_Ne_leastWith 6 (Option.some FieldType.int) d mc ms) (hem : c.exceptionTable.toList = []) : ∀ x ∈ t_Ne_leastWith_1 l s0 D ca e0 d mc ms, cr_Snd p l e R s m args below meth c s0.heap.size mc ms Q x.1 x.2 := by
  obtain ⟨hx, hb, hml, hown, hr, hlk, hnm, hU, hlo, hR⟩ := C
  have hK := cr_Z0K Z hU
  have hRc : R.cells = mc := by rw [hR]; rfl
  have hRs : R.slots = ms := by rw [hR]; rfl
  unfold t_Ne_leastWith_1
  refine cr_cons (cr_iceq_ok hx hb d_Ne_leastWith_44 (by decide) rfl) ?_
  refine cr_cons (cr_iload_ok hx hb d_Ne_leastWith_47 rfl) ?_
  refine cr_cons (cr_goto_ok hx hb d_Ne_leastWith_49 (by decide)) ?_
  refine cr_cons (cr_aload_n_ok hx hb d_Ne_leastWith_52 rfl rfl) ?_
  refine cr_cons (cr_iload_n_ok hx hb d_Ne_leastWith_53 rfl rfl) ?_
  refine cr_cons (cr_iconst_ok hx hb d_Ne_leastWith_54 (by decide) rfl) ?_
  refine cr_cons (cr_iload_ok hx hb d_Ne_leastWith_55 rfl) ?_
  refine cr_cons (cr_ishl_ok hx hb d_Ne_leastWith_57 rfl) ?_
  refine cr_cons (cr_ior_ok hx hb d_Ne_leastWith_58 rfl) ?_
  refine cr_cons (cr_iload_ok hx hb d_Ne_leastWith_59 rfl) ?_
  refine cr_cons (cr_iload_n_ok hx hb d_Ne_leastWith_61 rfl rfl) ?_
  refine cr_cons (cr_iconst_ok hx hb d_Ne_leastWith_62 (by decide) rfl) ?_
  refine cr_cons (cr_isub_ok hx hb d_Ne_leastWith_63 rfl) ?_
  refine cr_cons (cr_calV_ok (C := R_Ne) (Tf := T_Ne) (N := 2) hx hb hml hown hlk hU hlo hR (cr_W0_st s0) (by rw [hem]; exact fun _ h => absurd h List.not_mem_nil) hK rfl (u_Ne_leastWith Z) (Or.inl (cr_w Z w_243 rfl hU args)) (cr_w Z w_245 rfl hU args) (cr_w Z ws_6 rfl hU args) (by decide) (by decide +kernel) (by decide) d_Ne_leastWith_64 rfl) ?_
  refine cr_cons (cr_iret_ok hx hb hr hlk d_Ne_leastWith_67) ?_
  exact cr_nil
theorem s_Ne_leastWith {p : Program} {l : Launch} {e : Env} {R : Room} {s : State} {m : MethodId} {args : Array Value} {below : List Frame} {meth : Method} {c : Code} {s0 : State} {D : va_G} {ca : Nat → ClassId} {e0 d mc ms : Nat} {Q : cr_Q} (hl : l.flags = flags0) (Z : cr_Z0 s0 D ca e0) (C : cr_C p R s m meth c (cr_W0 s0) s0.heap.size y_Ne_leastWith c_Ne_leastWith 6 (Option.some FieldType.int) d mc ms) (hem : c.exceptionTable.toList = []) : ∀ x ∈ t_Ne_leastWith l s0 D ca e0 d mc ms, cr_Snd p l e R s m args below meth c s0.heap.size mc ms Q x.1 x.2 := cr_app (s_Ne_leastWith_0 hl Z C hem) (s_Ne_leastWith_1 hl Z C hem)
theorem d_Ne_canBeMet_0 : decode c_Ne_canBeMet 0 = .ok (.iconst 0, 1) := by decide +kernel
theorem d_Ne_canBeMet_1 : decode c_Ne_canBeMet 1 = .ok (.istore 4, 2) := by decide +kernel
theorem d_Ne_canBeMet_3 : decode c_Ne_canBeMet 3 = .ok (.iconst 0, 1) := by decide +kernel
theorem d_Ne_canBeMet_4 : decode c_Ne_canBeMet 4 = .ok (.istore 5, 2) := by decide +kernel
theorem d_Ne_canBeMet_6 : decode c_Ne_canBeMet 6 = .ok (.iconst 0, 1) := by decide +kernel
theorem d_Ne_canBeMet_7 : decode c_Ne_canBeMet 7 = .ok (.istore 6, 2) := by decide +kernel
theorem d_Ne_canBeMet_9 : decode c_Ne_canBeMet 9 = .ok (.iload 6, 2) := by decide +kernel
theorem d_Ne_canBeMet_11 : decode c_Ne_canBeMet 11 = .ok (.aload_n 0, 1) := by decide +kernel
theorem d_Ne_canBeMet_12 : decode c_Ne_canBeMet 12 = .ok (.getfield 15, 3) := by decide +kernel
theorem d_Ne_canBeMet_15 : decode c_Ne_canBeMet 15 = .ok (.if_icmp .ge 63, 3) := by decide +kernel
theorem d_Ne_canBeMet_18 : decode c_Ne_canBeMet 18 = .ok (.iload 5, 2) := by decide +kernel
theorem d_Ne_canBeMet_20 : decode c_Ne_canBeMet 20 = .ok (.iload_n 3, 1) := by decide +kernel
theorem d_Ne_canBeMet_21 : decode c_Ne_canBeMet 21 = .ok (.if_icmp .gt 57, 3) := by decide +kernel
theorem d_Ne_canBeMet_24 : decode c_Ne_canBeMet 24 = .ok (.aload_n 0, 1) := by decide +kernel
theorem d_Ne_canBeMet_25 : decode c_Ne_canBeMet 25 = .ok (.getfield 9, 3) := by decide +kernel
theorem d_Ne_canBeMet_28 : decode c_Ne_canBeMet 28 = .ok (.iload 6, 2) := by decide +kernel
theorem d_Ne_canBeMet_30 : decode c_Ne_canBeMet 30 = .ok (.iaload, 1) := by decide +kernel
theorem d_Ne_canBeMet_31 : decode c_Ne_canBeMet 31 = .ok (.iload_n 1, 1) := by decide +kernel
theorem d_Ne_canBeMet_32 : decode c_Ne_canBeMet 32 = .ok (.iand, 1) := by decide +kernel
theorem d_Ne_canBeMet_33 : decode c_Ne_canBeMet 33 = .ok (.ifCond .ne 39, 3) := by decide +kernel
theorem d_Ne_canBeMet_36 : decode c_Ne_canBeMet 36 = .ok (.aload_n 0, 1) := by decide +kernel
theorem d_Ne_canBeMet_37 : decode c_Ne_canBeMet 37 = .ok (.getfield 9, 3) := by decide +kernel
theorem d_Ne_canBeMet_40 : decode c_Ne_canBeMet 40 = .ok (.iload 6, 2) := by decide +kernel
theorem d_Ne_canBeMet_42 : decode c_Ne_canBeMet 42 = .ok (.iaload, 1) := by decide +kernel
theorem d_Ne_canBeMet_43 : decode c_Ne_canBeMet 43 = .ok (.iload_n 2, 1) := by decide +kernel
theorem d_Ne_canBeMet_44 : decode c_Ne_canBeMet 44 = .ok (.iand, 1) := by decide +kernel
theorem d_Ne_canBeMet_45 : decode c_Ne_canBeMet 45 = .ok (.istore 7, 2) := by decide +kernel
theorem d_Ne_canBeMet_47 : decode c_Ne_canBeMet 47 = .ok (.iload 7, 2) := by decide +kernel
theorem d_Ne_canBeMet_49 : decode c_Ne_canBeMet 49 = .ok (.ifCond .ne 5, 3) := by decide +kernel
theorem d_Ne_canBeMet_52 : decode c_Ne_canBeMet 52 = .ok (.iconst 0, 1) := by decide +kernel
theorem d_Ne_canBeMet_53 : decode c_Ne_canBeMet 53 = .ok (.ireturn, 1) := by decide +kernel
theorem d_Ne_canBeMet_54 : decode c_Ne_canBeMet 54 = .ok (.iload 7, 2) := by decide +kernel
theorem d_Ne_canBeMet_56 : decode c_Ne_canBeMet 56 = .ok (.iload 4, 2) := by decide +kernel
theorem d_Ne_canBeMet_58 : decode c_Ne_canBeMet 58 = .ok (.iand, 1) := by decide +kernel
theorem d_Ne_canBeMet_59 : decode c_Ne_canBeMet 59 = .ok (.ifCond .ne 13, 3) := by decide +kernel
theorem d_Ne_canBeMet_62 : decode c_Ne_canBeMet 62 = .ok (.iload 4, 2) := by decide +kernel
theorem d_Ne_canBeMet_64 : decode c_Ne_canBeMet 64 = .ok (.iload 7, 2) := by decide +kernel
theorem d_Ne_canBeMet_66 : decode c_Ne_canBeMet 66 = .ok (.ior, 1) := by decide +kernel
theorem d_Ne_canBeMet_67 : decode c_Ne_canBeMet 67 = .ok (.istore 4, 2) := by decide +kernel
theorem d_Ne_canBeMet_69 : decode c_Ne_canBeMet 69 = .ok (.iinc 5 1, 3) := by decide +kernel
theorem d_Ne_canBeMet_72 : decode c_Ne_canBeMet 72 = .ok (.iinc 6 1, 3) := by decide +kernel
theorem d_Ne_canBeMet_75 : decode c_Ne_canBeMet 75 = .ok (.goto (-66), 3) := by decide +kernel
theorem d_Ne_canBeMet_78 : decode c_Ne_canBeMet 78 = .ok (.iload 5, 2) := by decide +kernel
theorem d_Ne_canBeMet_80 : decode c_Ne_canBeMet 80 = .ok (.iload_n 3, 1) := by decide +kernel
theorem d_Ne_canBeMet_81 : decode c_Ne_canBeMet 81 = .ok (.if_icmp .gt 7, 3) := by decide +kernel
theorem d_Ne_canBeMet_84 : decode c_Ne_canBeMet 84 = .ok (.iconst 1, 1) := by decide +kernel
theorem d_Ne_canBeMet_85 : decode c_Ne_canBeMet 85 = .ok (.goto 4, 3) := by decide +kernel
theorem d_Ne_canBeMet_88 : decode c_Ne_canBeMet 88 = .ok (.iconst 0, 1) := by decide +kernel
theorem d_Ne_canBeMet_89 : decode c_Ne_canBeMet 89 = .ok (.ireturn, 1) := by decide +kernel
def t_Ne_canBeMet_0 (l : Launch) (s0 : State) (D : va_G) (ca : Nat → ClassId) (e0 d mc ms : Nat) : List (Nat × cr_T) := [(0, cr_push (.int 0) 1),
  (1, cr_istore 4 3),
  (3, cr_push (.int 0) 4),
  (4, cr_istore 5 6),
  (6, cr_push (.int 0) 7),
  (7, cr_istore 6 9),
  (9, cr_iload 6 11),
  (11, cr_aload 0 12),
  (12, cr_getf D kc 5 1 15),
  (15, cr_icge 78 18),
  (18, cr_iload 5 20),
  (20, cr_iload 3 21),
  (21, cr_icgt 78 24),
  (24, cr_aload 0 25),
  (25, cr_getf D kc 5 0 28),
  (28, cr_iload 6 30),
  (30, cr_iald D kc (ca 0) 31),
  (31, cr_iload 1 32),
  (32, cr_iand 33),
  (33, cr_ifne 72 36),
  (36, cr_aload 0 37),
  (37, cr_getf D kc 5 0 40),
  (40, cr_iload 6 42),
  (42, cr_iald D kc (ca 0) 43),
  (43, cr_iload 2 44),
  (44, cr_iand 45),
  (45, cr_istore 7 47),
  (47, cr_iload 7 49),
  (49, cr_ifne 54 52),
  (52, cr_push (.int 0) 53)]
def t_Ne_canBeMet_1 (l : Launch) (s0 : State) (D : va_G) (ca : Nat → ClassId) (e0 d mc ms : Nat) : List (Nat × cr_T) := [(53, cr_zret mc ms .boolean),
  (54, cr_iload 7 56),
  (56, cr_iload 4 58),
  (58, cr_iand 59),
  (59, cr_ifne 72 62),
  (62, cr_iload 4 64),
  (64, cr_iload 7 66),
  (66, cr_ior 67),
  (67, cr_istore 4 69),
  (69, cr_iinc 5 1 72),
  (72, cr_iinc 6 1 75),
  (75, cr_goto 9),
  (78, cr_iload 5 80),
  (80, cr_iload 3 81),
  (81, cr_icgt 88 84),
  (84, cr_push (.int 1) 85),
  (85, cr_goto 89),
  (88, cr_push (.int 0) 89),
  (89, cr_zret mc ms .boolean)]
def t_Ne_canBeMet (l : Launch) (s0 : State) (D : va_G) (ca : Nat → ClassId) (e0 d mc ms : Nat) : List (Nat × cr_T) := t_Ne_canBeMet_0 l s0 D ca e0 d mc ms ++ (t_Ne_canBeMet_1 l s0 D ca e0 d mc ms)
set_option maxHeartbeats 4000000 in
set_option maxRecDepth 20000 in
theorem s_Ne_canBeMet_0 {p : Program} {l : Launch} {e : Env} {R : Room} {s : State} {m : MethodId} {args : Array Value} {below : List Frame} {meth : Method} {c : Code} {s0 : State} {D : va_G} {ca : Nat → ClassId} {e0 d mc ms : Nat} {Q : cr_Q} (hl : l.flags = flags0) (Z : cr_Z0 s0 D ca e0) (C : cr_C p R s m meth c (cr_W0 s0) s0.heap.size y_Ne_canBeMet c_Ne_canBeMet 8 (Option.some FieldType.boolean) d mc ms) (hem : c.exceptionTable.toList = []) : ∀ x ∈ t_Ne_canBeMet_0 l s0 D ca e0 d mc ms, cr_Snd p l e R s m args below meth c s0.heap.size mc ms Q x.1 x.2 := by
  obtain ⟨hx, hb, hml, hown, hr, hlk, hnm, hU, hlo, hR⟩ := C
  have hK := cr_Z0K Z hU
  have hRc : R.cells = mc := by rw [hR]; rfl
  have hRs : R.slots = ms := by rw [hR]; rfl
  unfold t_Ne_canBeMet_0
  refine cr_cons (cr_iconst_ok hx hb d_Ne_canBeMet_0 (by decide) rfl) ?_
  refine cr_cons (cr_istore_ok hx hb d_Ne_canBeMet_1 rfl) ?_
  refine cr_cons (cr_iconst_ok hx hb d_Ne_canBeMet_3 (by decide) rfl) ?_
  refine cr_cons (cr_istore_ok hx hb d_Ne_canBeMet_4 rfl) ?_
  refine cr_cons (cr_iconst_ok hx hb d_Ne_canBeMet_6 (by decide) rfl) ?_
  refine cr_cons (cr_istore_ok hx hb d_Ne_canBeMet_7 rfl) ?_
  refine cr_cons (cr_iload_ok hx hb d_Ne_canBeMet_9 rfl) ?_
  refine cr_cons (cr_aload_n_ok hx hb d_Ne_canBeMet_11 rfl rfl) ?_
  refine cr_cons (cr_getf_ok (C := R_Ne) (T := T_Ne) (N := 2) hx hb (k_Ne Z hU args) (fun _ h => h) hown hK rfl (by decide) (cr_w Z w_130 rfl hU args) (fun _ h => h) d_Ne_canBeMet_12 rfl) ?_
  refine cr_cons (cr_icge_ok hx hb d_Ne_canBeMet_15 (by decide) rfl) ?_
  refine cr_cons (cr_iload_ok hx hb d_Ne_canBeMet_18 rfl) ?_
  refine cr_cons (cr_iload_n_ok hx hb d_Ne_canBeMet_20 rfl rfl) ?_
  refine cr_cons (cr_icgt_ok hx hb d_Ne_canBeMet_21 (by decide) rfl) ?_
  refine cr_cons (cr_aload_n_ok hx hb d_Ne_canBeMet_24 rfl rfl) ?_
  refine cr_cons (cr_getf_ok (C := R_Ne) (T := T_Ne) (N := 2) hx hb (k_Ne Z hU args) (fun _ h => h) hown hK rfl (by decide) (cr_w Z w_129 rfl hU args) (fun _ h => h) d_Ne_canBeMet_25 rfl) ?_
  refine cr_cons (cr_iload_ok hx hb d_Ne_canBeMet_28 rfl) ?_
  refine cr_cons (cr_iald_ok (t0 := 0) hx hb hK rfl d_Ne_canBeMet_30 rfl) ?_
  refine cr_cons (cr_iload_n_ok hx hb d_Ne_canBeMet_31 rfl rfl) ?_
  refine cr_cons (cr_iand_ok hx hb d_Ne_canBeMet_32 rfl) ?_
  refine cr_cons (cr_ifne_ok hx hb d_Ne_canBeMet_33 (by decide) rfl) ?_
  refine cr_cons (cr_aload_n_ok hx hb d_Ne_canBeMet_36 rfl rfl) ?_
  refine cr_cons (cr_getf_ok (C := R_Ne) (T := T_Ne) (N := 2) hx hb (k_Ne Z hU args) (fun _ h => h) hown hK rfl (by decide) (cr_w Z w_129 rfl hU args) (fun _ h => h) d_Ne_canBeMet_37 rfl) ?_
  refine cr_cons (cr_iload_ok hx hb d_Ne_canBeMet_40 rfl) ?_
  refine cr_cons (cr_iald_ok (t0 := 0) hx hb hK rfl d_Ne_canBeMet_42 rfl) ?_
  refine cr_cons (cr_iload_n_ok hx hb d_Ne_canBeMet_43 rfl rfl) ?_
  refine cr_cons (cr_iand_ok hx hb d_Ne_canBeMet_44 rfl) ?_
  refine cr_cons (cr_istore_ok hx hb d_Ne_canBeMet_45 rfl) ?_
  refine cr_cons (cr_iload_ok hx hb d_Ne_canBeMet_47 rfl) ?_
  refine cr_cons (cr_ifne_ok hx hb d_Ne_canBeMet_49 (by decide) rfl) ?_
  refine cr_cons (cr_iconst_ok hx hb d_Ne_canBeMet_52 (by decide) rfl) ?_
  exact cr_nil
set_option maxHeartbeats 4000000 in
set_option maxRecDepth 20000 in
theorem s_Ne_canBeMet_1 {p : Program} {l : Launch} {e : Env} {R : Room} {s : State} {m : MethodId} {args : Array Value} {below : List Frame} {meth : Method} {c : Code} {s0 : State} {D : va_G} {ca : Nat → ClassId} {e0 d mc ms : Nat} {Q : cr_Q} (hl : l.flags = flags0) (Z : cr_Z0 s0 D ca e0) (C : cr_C p R s m meth c (cr_W0 s0) s0.heap.size y_Ne_canBeMet c_Ne_canBeMet 8 (Option.some FieldType.boolean) d mc ms) (hem : c.exceptionTable.toList = []) : ∀ x ∈ t_Ne_canBeMet_1 l s0 D ca e0 d mc ms, cr_Snd p l e R s m args below meth c s0.heap.size mc ms Q x.1 x.2 := by
  obtain ⟨hx, hb, hml, hown, hr, hlk, hnm, hU, hlo, hR⟩ := C
  have hK := cr_Z0K Z hU
  have hRc : R.cells = mc := by rw [hR]; rfl
  have hRs : R.slots = ms := by rw [hR]; rfl
  unfold t_Ne_canBeMet_1
  refine cr_cons (cr_zret_ok hx hb hr hlk d_Ne_canBeMet_53) ?_
  refine cr_cons (cr_iload_ok hx hb d_Ne_canBeMet_54 rfl) ?_
  refine cr_cons (cr_iload_ok hx hb d_Ne_canBeMet_56 rfl) ?_
  refine cr_cons (cr_iand_ok hx hb d_Ne_canBeMet_58 rfl) ?_
  refine cr_cons (cr_ifne_ok hx hb d_Ne_canBeMet_59 (by decide) rfl) ?_
  refine cr_cons (cr_iload_ok hx hb d_Ne_canBeMet_62 rfl) ?_
  refine cr_cons (cr_iload_ok hx hb d_Ne_canBeMet_64 rfl) ?_
  refine cr_cons (cr_ior_ok hx hb d_Ne_canBeMet_66 rfl) ?_
  refine cr_cons (cr_istore_ok hx hb d_Ne_canBeMet_67 rfl) ?_
  refine cr_cons (cr_iinc_ok hx hb d_Ne_canBeMet_69 (by decide) rfl) ?_
  refine cr_cons (cr_iinc_ok hx hb d_Ne_canBeMet_72 (by decide) rfl) ?_
  refine cr_cons (cr_goto_ok hx hb d_Ne_canBeMet_75 (by decide)) ?_
  refine cr_cons (cr_iload_ok hx hb d_Ne_canBeMet_78 rfl) ?_
  refine cr_cons (cr_iload_n_ok hx hb d_Ne_canBeMet_80 rfl rfl) ?_
  refine cr_cons (cr_icgt_ok hx hb d_Ne_canBeMet_81 (by decide) rfl) ?_
  refine cr_cons (cr_iconst_ok hx hb d_Ne_canBeMet_84 (by decide) rfl) ?_
  refine cr_cons (cr_goto_ok hx hb d_Ne_canBeMet_85 (by decide)) ?_
  refine cr_cons (cr_iconst_ok hx hb d_Ne_canBeMet_88 (by decide) rfl) ?_
  refine cr_cons (cr_zret_ok hx hb hr hlk d_Ne_canBeMet_89) ?_
  exact cr_nil
theorem s_Ne_canBeMet {p : Program} {l : Launch} {e : Env} {R : Room} {s : State} {m : MethodId} {args : Array Value} {below : List Frame} {meth : Method} {c : Code} {s0 : State} {D : va_G} {ca : Nat → ClassId} {e0 d mc ms : Nat} {Q : cr_Q} (hl : l.flags = flags0) (Z : cr_Z0 s0 D ca e0) (C : cr_C p R s m meth c (cr_W0 s0) s0.heap.size y_Ne_canBeMet c_Ne_canBeMet 8 (Option.some FieldType.boolean) d mc ms) (hem : c.exceptionTable.toList = []) : ∀ x ∈ t_Ne_canBeMet l s0 D ca e0 d mc ms, cr_Snd p l e R s m args below meth c s0.heap.size mc ms Q x.1 x.2 := cr_app (s_Ne_canBeMet_0 hl Z C hem) (s_Ne_canBeMet_1 hl Z C hem)
theorem d_Ro_init_0 : decode c_Ro_init 0 = .ok (.aload_n 0, 1) := by decide +kernel
theorem d_Ro_init_1 : decode c_Ro_init 1 = .ok (.invokespecial 1, 3) := by decide +kernel
theorem d_Ro_init_4 : decode c_Ro_init 4 = .ok (.aload_n 0, 1) := by decide +kernel
theorem d_Ro_init_5 : decode c_Ro_init 5 = .ok (.iload_n 1, 1) := by decide +kernel
theorem d_Ro_init_6 : decode c_Ro_init 6 = .ok (.putfield 7, 3) := by decide +kernel
theorem d_Ro_init_9 : decode c_Ro_init 9 = .ok (.aload_n 0, 1) := by decide +kernel
theorem d_Ro_init_10 : decode c_Ro_init 10 = .ok (.iload_n 2, 1) := by decide +kernel
theorem d_Ro_init_11 : decode c_Ro_init 11 = .ok (.putfield 13, 3) := by decide +kernel
theorem d_Ro_init_14 : decode c_Ro_init 14 = .ok (.return_, 1) := by decide +kernel
def t_Ro_init_0 (l : Launch) (s0 : State) (D : va_G) (ca : Nat → ClassId) (e0 d mc ms : Nat) : List (Nat × cr_T) := [(0, cr_aload 0 1),
  (1, cr_oinit d 3 4),
  (4, cr_aload 0 5),
  (5, cr_iload 1 6),
  (6, cr_putf D kc s0.heap.size 8 0 .int 9),
  (9, cr_aload 0 10),
  (10, cr_iload 2 11),
  (11, cr_putf D kc s0.heap.size 8 1 .int 14),
  (14, cr_vret mc ms)]
def t_Ro_init (l : Launch) (s0 : State) (D : va_G) (ca : Nat → ClassId) (e0 d mc ms : Nat) : List (Nat × cr_T) := t_Ro_init_0 l s0 D ca e0 d mc ms
set_option maxHeartbeats 4000000 in
set_option maxRecDepth 20000 in
theorem s_Ro_init_0 {p : Program} {l : Launch} {e : Env} {R : Room} {s : State} {m : MethodId} {args : Array Value} {below : List Frame} {meth : Method} {c : Code} {s0 : State} {D : va_G} {ca : Nat → ClassId} {e0 d mc ms : Nat} {Q : cr_Q} (hl : l.flags = flags0) (Z : cr_Z0 s0 D ca e0) (C : cr_C p R s m meth c (cr_W0 s0) s0.heap.size y_Ro_init c_Ro_init 3 (Option.none : Option FieldType) d mc ms) (hem : c.exceptionTable.toList = []) : ∀ x ∈ t_Ro_init_0 l s0 D ca e0 d mc ms, cr_Snd p l e R s m args below meth c s0.heap.size mc ms Q x.1 x.2 := by
  obtain ⟨hx, hb, hml, hown, hr, hlk, hnm, hU, hlo, hR⟩ := C
  have hK := cr_Z0K Z hU
  have hRc : R.cells = mc := by rw [hR]; rfl
  have hRs : R.slots = ms := by rw [hR]; rfl
  unfold t_Ro_init_0
  refine cr_cons (cr_aload_n_ok hx hb d_Ro_init_0 rfl rfl) ?_
  refine cr_cons (cr_oinit_ok hx hb hml hown hR (cr_w Z w_355 rfl hU args) (cr_w Z w_33 rfl hU args) (cr_w Z w_34 rfl hU args) d_Ro_init_1 rfl) ?_
  refine cr_cons (cr_aload_n_ok hx hb d_Ro_init_4 rfl rfl) ?_
  refine cr_cons (cr_iload_n_ok hx hb d_Ro_init_5 rfl rfl) ?_
  refine cr_cons (cr_putF_ok (C := R_Ro) (T := T_Ro) (N := 2) tt_Ro hx hb (k_Ro Z hU args) (fun _ h => h) ty_Ro nm_Ro hown hK rfl (by decide) (cr_w Z w_356 rfl hU args) (fun _ h => h) rfl hnm rfl (by decide +kernel) d_Ro_init_6 rfl) ?_
  refine cr_cons (cr_aload_n_ok hx hb d_Ro_init_9 rfl rfl) ?_
  refine cr_cons (cr_iload_n_ok hx hb d_Ro_init_10 rfl rfl) ?_
  refine cr_cons (cr_putF_ok (C := R_Ro) (T := T_Ro) (N := 2) tt_Ro hx hb (k_Ro Z hU args) (fun _ h => h) ty_Ro nm_Ro hown hK rfl (by decide) (cr_w Z w_358 rfl hU args) (fun _ h => h) rfl hnm rfl (by decide +kernel) d_Ro_init_11 rfl) ?_
  refine cr_cons (cr_vret_ok hx hb hr hlk d_Ro_init_14) ?_
  exact cr_nil
theorem s_Ro_init {p : Program} {l : Launch} {e : Env} {R : Room} {s : State} {m : MethodId} {args : Array Value} {below : List Frame} {meth : Method} {c : Code} {s0 : State} {D : va_G} {ca : Nat → ClassId} {e0 d mc ms : Nat} {Q : cr_Q} (hl : l.flags = flags0) (Z : cr_Z0 s0 D ca e0) (C : cr_C p R s m meth c (cr_W0 s0) s0.heap.size y_Ro_init c_Ro_init 3 (Option.none : Option FieldType) d mc ms) (hem : c.exceptionTable.toList = []) : ∀ x ∈ t_Ro_init l s0 D ca e0 d mc ms, cr_Snd p l e R s m args below meth c s0.heap.size mc ms Q x.1 x.2 := s_Ro_init_0 hl Z C hem
theorem d_Dr_init_0 : decode c_Dr_init 0 = .ok (.aload_n 0, 1) := by decide +kernel
theorem d_Dr_init_1 : decode c_Dr_init 1 = .ok (.invokespecial 1, 3) := by decide +kernel
theorem d_Dr_init_4 : decode c_Dr_init 4 = .ok (.aload_n 0, 1) := by decide +kernel
theorem d_Dr_init_5 : decode c_Dr_init 5 = .ok (.iconst 0, 1) := by decide +kernel
theorem d_Dr_init_6 : decode c_Dr_init 6 = .ok (.putfield 7, 3) := by decide +kernel
theorem d_Dr_init_9 : decode c_Dr_init 9 = .ok (.aload_n 0, 1) := by decide +kernel
theorem d_Dr_init_10 : decode c_Dr_init 10 = .ok (.iconst 0, 1) := by decide +kernel
theorem d_Dr_init_11 : decode c_Dr_init 11 = .ok (.putfield 13, 3) := by decide +kernel
theorem d_Dr_init_14 : decode c_Dr_init 14 = .ok (.aload_n 0, 1) := by decide +kernel
theorem d_Dr_init_15 : decode c_Dr_init 15 = .ok (.iconst 0, 1) := by decide +kernel
theorem d_Dr_init_16 : decode c_Dr_init 16 = .ok (.putfield 16, 3) := by decide +kernel
theorem d_Dr_init_19 : decode c_Dr_init 19 = .ok (.aload_n 0, 1) := by decide +kernel
theorem d_Dr_init_20 : decode c_Dr_init 20 = .ok (.iconst 0, 1) := by decide +kernel
theorem d_Dr_init_21 : decode c_Dr_init 21 = .ok (.putfield 20, 3) := by decide +kernel
theorem d_Dr_init_24 : decode c_Dr_init 24 = .ok (.aload_n 0, 1) := by decide +kernel
theorem d_Dr_init_25 : decode c_Dr_init 25 = .ok (.iconst 0, 1) := by decide +kernel
theorem d_Dr_init_26 : decode c_Dr_init 26 = .ok (.putfield 23, 3) := by decide +kernel
theorem d_Dr_init_29 : decode c_Dr_init 29 = .ok (.aload_n 0, 1) := by decide +kernel
theorem d_Dr_init_30 : decode c_Dr_init 30 = .ok (.new 26, 3) := by decide +kernel
theorem d_Dr_init_33 : decode c_Dr_init 33 = .ok (.dup, 1) := by decide +kernel
theorem d_Dr_init_34 : decode c_Dr_init 34 = .ok (.invokespecial 28, 3) := by decide +kernel
theorem d_Dr_init_37 : decode c_Dr_init 37 = .ok (.putfield 29, 3) := by decide +kernel
theorem d_Dr_init_40 : decode c_Dr_init 40 = .ok (.aload_n 0, 1) := by decide +kernel
theorem d_Dr_init_41 : decode c_Dr_init 41 = .ok (.new 33, 3) := by decide +kernel
theorem d_Dr_init_44 : decode c_Dr_init 44 = .ok (.dup, 1) := by decide +kernel
theorem d_Dr_init_45 : decode c_Dr_init 45 = .ok (.invokespecial 35, 3) := by decide +kernel
theorem d_Dr_init_48 : decode c_Dr_init 48 = .ok (.putfield 36, 3) := by decide +kernel
theorem d_Dr_init_51 : decode c_Dr_init 51 = .ok (.aload_n 0, 1) := by decide +kernel
theorem d_Dr_init_52 : decode c_Dr_init 52 = .ok (.iload_n 1, 1) := by decide +kernel
theorem d_Dr_init_53 : decode c_Dr_init 53 = .ok (.putfield 40, 3) := by decide +kernel
theorem d_Dr_init_56 : decode c_Dr_init 56 = .ok (.aload_n 0, 1) := by decide +kernel
theorem d_Dr_init_57 : decode c_Dr_init 57 = .ok (.aload_n 2, 1) := by decide +kernel
theorem d_Dr_init_58 : decode c_Dr_init 58 = .ok (.putfield 43, 3) := by decide +kernel
theorem d_Dr_init_61 : decode c_Dr_init 61 = .ok (.aload_n 0, 1) := by decide +kernel
theorem d_Dr_init_62 : decode c_Dr_init 62 = .ok (.aload_n 3, 1) := by decide +kernel
theorem d_Dr_init_63 : decode c_Dr_init 63 = .ok (.putfield 47, 3) := by decide +kernel
theorem d_Dr_init_66 : decode c_Dr_init 66 = .ok (.return_, 1) := by decide +kernel
def t_Dr_init_0 (l : Launch) (s0 : State) (D : va_G) (ca : Nat → ClassId) (e0 d mc ms : Nat) : List (Nat × cr_T) := [(0, cr_aload 0 1),
  (1, cr_oinit d 4 4),
  (4, cr_aload 0 5),
  (5, cr_push (.int 0) 6),
  (6, cr_putf D kc s0.heap.size 2 3 .boolean 9),
  (9, cr_aload 0 10),
  (10, cr_push (.int 0) 11),
  (11, cr_putf D kc s0.heap.size 2 4 .boolean 14),
  (14, cr_aload 0 15),
  (15, cr_push (.int 0) 16),
  (16, cr_putf D kc s0.heap.size 2 5 .int 19),
  (19, cr_aload 0 20),
  (20, cr_push (.int 0) 21),
  (21, cr_putf D kc s0.heap.size 2 6 .int 24),
  (24, cr_aload 0 25),
  (25, cr_push (.int 0) 26),
  (26, cr_putf D kc s0.heap.size 2 7 .boolean 29),
  (29, cr_aload 0 30),
  (30, cr_new D kc s0.heap.size mc ms 4 4 [.int 0, .int 0, .null, .null] 33),
  (33, cr_dup 34),
  (34, cr_calI l (cr_W0 s0) s0.heap.size y_Kn_init cw_Kn_init d mc ms 0 4 37),
  (37, cr_putf D kc s0.heap.size 2 8 (.object "CardRights$Knowledge") 40),
  (40, cr_aload 0 41),
  (41, cr_new D kc s0.heap.size mc ms 12 3 [.null, .int 0, .int 0] 44),
  (44, cr_dup 45),
  (45, cr_calI l (cr_W0 s0) s0.heap.size y_AL_init cw_AL_init d mc ms 0 4 48),
  (48, cr_putf D kc s0.heap.size 2 9 (.object "java/util/List") 51),
  (51, cr_aload 0 52),
  (52, cr_iload 1 53),
  (53, cr_putf D kc s0.heap.size 2 0 .int 56)]
def t_Dr_init_1 (l : Launch) (s0 : State) (D : va_G) (ca : Nat → ClassId) (e0 d mc ms : Nat) : List (Nat × cr_T) := [(56, cr_aload 0 57),
  (57, cr_aload 2 58),
  (58, cr_putf D kc s0.heap.size 2 1 (.object "CardRights$Room") 61),
  (61, cr_aload 0 62),
  (62, cr_aload 3 63),
  (63, cr_putf D kc s0.heap.size 2 2 (.object "CardRights$Room") 66),
  (66, cr_vret mc ms)]
def t_Dr_init (l : Launch) (s0 : State) (D : va_G) (ca : Nat → ClassId) (e0 d mc ms : Nat) : List (Nat × cr_T) := t_Dr_init_0 l s0 D ca e0 d mc ms ++ (t_Dr_init_1 l s0 D ca e0 d mc ms)
set_option maxHeartbeats 4000000 in
set_option maxRecDepth 20000 in
theorem s_Dr_init_0 {p : Program} {l : Launch} {e : Env} {R : Room} {s : State} {m : MethodId} {args : Array Value} {below : List Frame} {meth : Method} {c : Code} {s0 : State} {D : va_G} {ca : Nat → ClassId} {e0 d mc ms : Nat} {Q : cr_Q} (hl : l.flags = flags0) (Z : cr_Z0 s0 D ca e0) (C : cr_C p R s m meth c (cr_W0 s0) s0.heap.size y_Dr_init c_Dr_init 4 (Option.none : Option FieldType) d mc ms) (hem : c.exceptionTable.toList = []) : ∀ x ∈ t_Dr_init_0 l s0 D ca e0 d mc ms, cr_Snd p l e R s m args below meth c s0.heap.size mc ms Q x.1 x.2 := by
  obtain ⟨hx, hb, hml, hown, hr, hlk, hnm, hU, hlo, hR⟩ := C
  have hK := cr_Z0K Z hU
  have hRc : R.cells = mc := by rw [hR]; rfl
  have hRs : R.slots = ms := by rw [hR]; rfl
  unfold t_Dr_init_0
  refine cr_cons (cr_aload_n_ok hx hb d_Dr_init_0 rfl rfl) ?_
  refine cr_cons (cr_oinit_ok hx hb hml hown hR (cr_w Z w_451 rfl hU args) (cr_w Z w_33 rfl hU args) (cr_w Z w_34 rfl hU args) d_Dr_init_1 rfl) ?_
  refine cr_cons (cr_aload_n_ok hx hb d_Dr_init_4 rfl rfl) ?_
  refine cr_cons (cr_iconst_ok hx hb d_Dr_init_5 (by decide) rfl) ?_
  refine cr_cons (cr_putf_ok (C := R_Dr) (T := T_Dr) (N := 10) tt_Dr hx hb (k_Dr Z hU args) (fun _ h => h) ty_Dr nm_Dr hown hK rfl (by decide) (Or.inl (cr_w Z w_462 rfl hU args)) (fun _ h => h) rfl (by decide +kernel) d_Dr_init_6 rfl) ?_
  refine cr_cons (cr_aload_n_ok hx hb d_Dr_init_9 rfl rfl) ?_
  refine cr_cons (cr_iconst_ok hx hb d_Dr_init_10 (by decide) rfl) ?_
  refine cr_cons (cr_putf_ok (C := R_Dr) (T := T_Dr) (N := 10) tt_Dr hx hb (k_Dr Z hU args) (fun _ h => h) ty_Dr nm_Dr hown hK rfl (by decide) (Or.inl (cr_w Z w_464 rfl hU args)) (fun _ h => h) rfl (by decide +kernel) d_Dr_init_11 rfl) ?_
  refine cr_cons (cr_aload_n_ok hx hb d_Dr_init_14 rfl rfl) ?_
  refine cr_cons (cr_iconst_ok hx hb d_Dr_init_15 (by decide) rfl) ?_
  refine cr_cons (cr_putf_ok (C := R_Dr) (T := T_Dr) (N := 10) tt_Dr hx hb (k_Dr Z hU args) (fun _ h => h) ty_Dr nm_Dr hown hK rfl (by decide) (Or.inl (cr_w Z w_466 rfl hU args)) (fun _ h => h) rfl (by decide +kernel) d_Dr_init_16 rfl) ?_
  refine cr_cons (cr_aload_n_ok hx hb d_Dr_init_19 rfl rfl) ?_
  refine cr_cons (cr_iconst_ok hx hb d_Dr_init_20 (by decide) rfl) ?_
  refine cr_cons (cr_putf_ok (C := R_Dr) (T := T_Dr) (N := 10) tt_Dr hx hb (k_Dr Z hU args) (fun _ h => h) ty_Dr nm_Dr hown hK rfl (by decide) (Or.inl (cr_w Z w_468 rfl hU args)) (fun _ h => h) rfl (by decide +kernel) d_Dr_init_21 rfl) ?_
  refine cr_cons (cr_aload_n_ok hx hb d_Dr_init_24 rfl rfl) ?_
  refine cr_cons (cr_iconst_ok hx hb d_Dr_init_25 (by decide) rfl) ?_
  refine cr_cons (cr_putf_ok (C := R_Dr) (T := T_Dr) (N := 10) tt_Dr hx hb (k_Dr Z hU args) (fun _ h => h) ty_Dr nm_Dr hown hK rfl (by decide) (Or.inl (cr_w Z w_469 rfl hU args)) (fun _ h => h) rfl (by decide +kernel) d_Dr_init_26 rfl) ?_
  refine cr_cons (cr_aload_n_ok hx hb d_Dr_init_29 rfl rfl) ?_
  refine cr_cons (cr_new_ok (C := R_Kn) (T := T_Kn) (N := 4) tt_Kn hx hb (k_Kn Z hU args) (fun _ h => h) ty_Kn hown (cr_w Z w_452 rfl hU args) (cr_w Z w_62 rfl hU args) (cr_w Z w_5 rfl hU args) hK rfl (by decide +kernel) hlo hRc hRs d_Dr_init_30 rfl) ?_
  refine cr_cons (cr_dup_ok hx hb d_Dr_init_33 rfl) ?_
  refine cr_cons (cr_calI_ok hx hb hml hown hlk hU hlo hR (cr_W0_st s0) (by rw [hem]; exact fun _ h => absurd h List.not_mem_nil) (u_Kn_init Z) (Or.inr ⟨_, (cr_w Z w_453 rfl hU args)⟩) (cr_w Z w_64 rfl hU args) rfl (by decide) (by decide +kernel) (by decide) d_Dr_init_34 rfl) ?_
  refine cr_cons (cr_putF_ok (C := R_Dr) (T := T_Dr) (N := 10) tt_Dr hx hb (k_Dr Z hU args) (fun _ h => h) ty_Dr nm_Dr hown hK rfl (by decide) (cr_w Z w_471 rfl hU args) (fun _ h => h) rfl hnm rfl (by decide +kernel) d_Dr_init_37 rfl) ?_
  refine cr_cons (cr_aload_n_ok hx hb d_Dr_init_40 rfl rfl) ?_
  refine cr_cons (cr_new_ok (C := R_AL) (T := T_AL) (N := 3) tt_AL hx hb (k_AL Z hU args) (fun _ h => h) ty_AL hown (cr_w Z w_454 rfl hU args) (cr_w Z w_36 rfl hU args) (cr_w Z w_4 rfl hU args) hK rfl (by decide +kernel) hlo hRc hRs d_Dr_init_41 rfl) ?_
  refine cr_cons (cr_dup_ok hx hb d_Dr_init_44 rfl) ?_
  refine cr_cons (cr_calI_ok hx hb hml hown hlk hU hlo hR (cr_W0_st s0) (by rw [hem]; exact fun _ h => absurd h List.not_mem_nil) (u_AL_init Z) (Or.inl (cr_w Z w_455 rfl hU args)) (cr_w Z w_38 rfl hU args) rfl (by decide) (by decide +kernel) (by decide) d_Dr_init_45 rfl) ?_
  refine cr_cons (cr_putF_ok (C := R_Dr) (T := T_Dr) (N := 10) tt_Dr hx hb (k_Dr Z hU args) (fun _ h => h) ty_Dr nm_Dr hown hK rfl (by decide) (cr_w Z w_473 rfl hU args) (fun _ h => h) rfl hnm rfl (by decide +kernel) d_Dr_init_48 rfl) ?_
  refine cr_cons (cr_aload_n_ok hx hb d_Dr_init_51 rfl rfl) ?_
  refine cr_cons (cr_iload_n_ok hx hb d_Dr_init_52 rfl rfl) ?_
  refine cr_cons (cr_putF_ok (C := R_Dr) (T := T_Dr) (N := 10) tt_Dr hx hb (k_Dr Z hU args) (fun _ h => h) ty_Dr nm_Dr hown hK rfl (by decide) (cr_w Z w_456 rfl hU args) (fun _ h => h) rfl hnm rfl (by decide +kernel) d_Dr_init_53 rfl) ?_
  exact cr_nil
set_option maxHeartbeats 4000000 in
set_option maxRecDepth 20000 in
theorem s_Dr_init_1 {p : Program} {l : Launch} {e : Env} {R : Room} {s : State} {m : MethodId} {args : Array Value} {below : List Frame} {meth : Method} {c : Code} {s0 : State} {D : va_G} {ca : Nat → ClassId} {e0 d mc ms : Nat} {Q : cr_Q} (hl : l.flags = flags0) (Z : cr_Z0 s0 D ca e0) (C : cr_C p R s m meth c (cr_W0 s0) s0.heap.size y_Dr_init c_Dr_init 4 (Option.none : Option FieldType) d mc ms) (hem : c.exceptionTable.toList = []) : ∀ x ∈ t_Dr_init_1 l s0 D ca e0 d mc ms, cr_Snd p l e R s m args below meth c s0.heap.size mc ms Q x.1 x.2 := by
  obtain ⟨hx, hb, hml, hown, hr, hlk, hnm, hU, hlo, hR⟩ := C
  have hK := cr_Z0K Z hU
  have hRc : R.cells = mc := by rw [hR]; rfl
  have hRs : R.slots = ms := by rw [hR]; rfl
  unfold t_Dr_init_1
  refine cr_cons (cr_aload_n_ok hx hb d_Dr_init_56 rfl rfl) ?_
  refine cr_cons (cr_aload_n_ok hx hb d_Dr_init_57 rfl rfl) ?_
  refine cr_cons (cr_putF_ok (C := R_Dr) (T := T_Dr) (N := 10) tt_Dr hx hb (k_Dr Z hU args) (fun _ h => h) ty_Dr nm_Dr hown hK rfl (by decide) (cr_w Z w_458 rfl hU args) (fun _ h => h) rfl hnm rfl (by decide +kernel) d_Dr_init_58 rfl) ?_
  refine cr_cons (cr_aload_n_ok hx hb d_Dr_init_61 rfl rfl) ?_
  refine cr_cons (cr_aload_n_ok hx hb d_Dr_init_62 rfl rfl) ?_
  refine cr_cons (cr_putF_ok (C := R_Dr) (T := T_Dr) (N := 10) tt_Dr hx hb (k_Dr Z hU args) (fun _ h => h) ty_Dr nm_Dr hown hK rfl (by decide) (cr_w Z w_460 rfl hU args) (fun _ h => h) rfl hnm rfl (by decide +kernel) d_Dr_init_63 rfl) ?_
  refine cr_cons (cr_vret_ok hx hb hr hlk d_Dr_init_66) ?_
  exact cr_nil
theorem s_Dr_init {p : Program} {l : Launch} {e : Env} {R : Room} {s : State} {m : MethodId} {args : Array Value} {below : List Frame} {meth : Method} {c : Code} {s0 : State} {D : va_G} {ca : Nat → ClassId} {e0 d mc ms : Nat} {Q : cr_Q} (hl : l.flags = flags0) (Z : cr_Z0 s0 D ca e0) (C : cr_C p R s m meth c (cr_W0 s0) s0.heap.size y_Dr_init c_Dr_init 4 (Option.none : Option FieldType) d mc ms) (hem : c.exceptionTable.toList = []) : ∀ x ∈ t_Dr_init l s0 D ca e0 d mc ms, cr_Snd p l e R s m args below meth c s0.heap.size mc ms Q x.1 x.2 := cr_app (s_Dr_init_0 hl Z C hem) (s_Dr_init_1 hl Z C hem)
theorem d_Pe_init_0 : decode c_Pe_init 0 = .ok (.aload_n 0, 1) := by decide +kernel
theorem d_Pe_init_1 : decode c_Pe_init 1 = .ok (.invokespecial 1, 3) := by decide +kernel
theorem d_Pe_init_4 : decode c_Pe_init 4 = .ok (.aload_n 0, 1) := by decide +kernel
theorem d_Pe_init_5 : decode c_Pe_init 5 = .ok (.iload_n 1, 1) := by decide +kernel
theorem d_Pe_init_6 : decode c_Pe_init 6 = .ok (.putfield 7, 3) := by decide +kernel
theorem d_Pe_init_9 : decode c_Pe_init 9 = .ok (.aload_n 0, 1) := by decide +kernel
theorem d_Pe_init_10 : decode c_Pe_init 10 = .ok (.aload_n 2, 1) := by decide +kernel
theorem d_Pe_init_11 : decode c_Pe_init 11 = .ok (.putfield 13, 3) := by decide +kernel
theorem d_Pe_init_14 : decode c_Pe_init 14 = .ok (.return_, 1) := by decide +kernel
def t_Pe_init_0 (l : Launch) (s0 : State) (D : va_G) (ca : Nat → ClassId) (e0 d mc ms : Nat) : List (Nat × cr_T) := [(0, cr_aload 0 1),
  (1, cr_oinit d 3 4),
  (4, cr_aload 0 5),
  (5, cr_iload 1 6),
  (6, cr_putf D kc s0.heap.size 6 0 .int 9),
  (9, cr_aload 0 10),
  (10, cr_aload 2 11),
  (11, cr_putf D kc s0.heap.size 6 1 (.object "CardRights$Room") 14),
  (14, cr_vret mc ms)]
def t_Pe_init (l : Launch) (s0 : State) (D : va_G) (ca : Nat → ClassId) (e0 d mc ms : Nat) : List (Nat × cr_T) := t_Pe_init_0 l s0 D ca e0 d mc ms
set_option maxHeartbeats 4000000 in
set_option maxRecDepth 20000 in
theorem s_Pe_init_0 {p : Program} {l : Launch} {e : Env} {R : Room} {s : State} {m : MethodId} {args : Array Value} {below : List Frame} {meth : Method} {c : Code} {s0 : State} {D : va_G} {ca : Nat → ClassId} {e0 d mc ms : Nat} {Q : cr_Q} (hl : l.flags = flags0) (Z : cr_Z0 s0 D ca e0) (C : cr_C p R s m meth c (cr_W0 s0) s0.heap.size y_Pe_init c_Pe_init 3 (Option.none : Option FieldType) d mc ms) (hem : c.exceptionTable.toList = []) : ∀ x ∈ t_Pe_init_0 l s0 D ca e0 d mc ms, cr_Snd p l e R s m args below meth c s0.heap.size mc ms Q x.1 x.2 := by
  obtain ⟨hx, hb, hml, hown, hr, hlk, hnm, hU, hlo, hR⟩ := C
  have hK := cr_Z0K Z hU
  have hRc : R.cells = mc := by rw [hR]; rfl
  have hRs : R.slots = ms := by rw [hR]; rfl
  unfold t_Pe_init_0
  refine cr_cons (cr_aload_n_ok hx hb d_Pe_init_0 rfl rfl) ?_
  refine cr_cons (cr_oinit_ok hx hb hml hown hR (cr_w Z w_523 rfl hU args) (cr_w Z w_33 rfl hU args) (cr_w Z w_34 rfl hU args) d_Pe_init_1 rfl) ?_
  refine cr_cons (cr_aload_n_ok hx hb d_Pe_init_4 rfl rfl) ?_
  refine cr_cons (cr_iload_n_ok hx hb d_Pe_init_5 rfl rfl) ?_
  refine cr_cons (cr_putF_ok (C := R_Pe) (T := T_Pe) (N := 2) tt_Pe hx hb (k_Pe Z hU args) (fun _ h => h) ty_Pe nm_Pe hown hK rfl (by decide) (cr_w Z w_524 rfl hU args) (fun _ h => h) rfl hnm rfl (by decide +kernel) d_Pe_init_6 rfl) ?_
  refine cr_cons (cr_aload_n_ok hx hb d_Pe_init_9 rfl rfl) ?_
  refine cr_cons (cr_aload_n_ok hx hb d_Pe_init_10 rfl rfl) ?_
  refine cr_cons (cr_putf_ok (C := R_Pe) (T := T_Pe) (N := 2) tt_Pe hx hb (k_Pe Z hU args) (fun _ h => h) ty_Pe nm_Pe hown hK rfl (by decide) (Or.inl (cr_w Z w_526 rfl hU args)) (fun _ h => h) rfl (by decide +kernel) d_Pe_init_11 rfl) ?_
  refine cr_cons (cr_vret_ok hx hb hr hlk d_Pe_init_14) ?_
  exact cr_nil
theorem s_Pe_init {p : Program} {l : Launch} {e : Env} {R : Room} {s : State} {m : MethodId} {args : Array Value} {below : List Frame} {meth : Method} {c : Code} {s0 : State} {D : va_G} {ca : Nat → ClassId} {e0 d mc ms : Nat} {Q : cr_Q} (hl : l.flags = flags0) (Z : cr_Z0 s0 D ca e0) (C : cr_C p R s m meth c (cr_W0 s0) s0.heap.size y_Pe_init c_Pe_init 3 (Option.none : Option FieldType) d mc ms) (hem : c.exceptionTable.toList = []) : ∀ x ∈ t_Pe_init l s0 D ca e0 d mc ms, cr_Snd p l e R s m args below meth c s0.heap.size mc ms Q x.1 x.2 := s_Pe_init_0 hl Z C hem
theorem d_Cd_init_0 : decode c_Cd_init 0 = .ok (.aload_n 0, 1) := by decide +kernel
theorem d_Cd_init_1 : decode c_Cd_init 1 = .ok (.invokespecial 1, 3) := by decide +kernel
theorem d_Cd_init_4 : decode c_Cd_init 4 = .ok (.aload_n 0, 1) := by decide +kernel
theorem d_Cd_init_5 : decode c_Cd_init 5 = .ok (.iload_n 1, 1) := by decide +kernel
theorem d_Cd_init_6 : decode c_Cd_init 6 = .ok (.putfield 7, 3) := by decide +kernel
theorem d_Cd_init_9 : decode c_Cd_init 9 = .ok (.aload_n 0, 1) := by decide +kernel
theorem d_Cd_init_10 : decode c_Cd_init 10 = .ok (.aload_n 2, 1) := by decide +kernel
theorem d_Cd_init_11 : decode c_Cd_init 11 = .ok (.putfield 13, 3) := by decide +kernel
theorem d_Cd_init_14 : decode c_Cd_init 14 = .ok (.aload_n 0, 1) := by decide +kernel
theorem d_Cd_init_15 : decode c_Cd_init 15 = .ok (.iload_n 3, 1) := by decide +kernel
theorem d_Cd_init_16 : decode c_Cd_init 16 = .ok (.putfield 17, 3) := by decide +kernel
theorem d_Cd_init_19 : decode c_Cd_init 19 = .ok (.return_, 1) := by decide +kernel
def t_Cd_init_0 (l : Launch) (s0 : State) (D : va_G) (ca : Nat → ClassId) (e0 d mc ms : Nat) : List (Nat × cr_T) := [(0, cr_aload 0 1),
  (1, cr_oinit d 4 4),
  (4, cr_aload 0 5),
  (5, cr_iload 1 6),
  (6, cr_putf D kc s0.heap.size 1 0 .int 9),
  (9, cr_aload 0 10),
  (10, cr_aload 2 11),
  (11, cr_putf D kc s0.heap.size 1 1 (.object "CardRights$Person") 14),
  (14, cr_aload 0 15),
  (15, cr_iload 3 16),
  (16, cr_putf D kc s0.heap.size 1 2 .int 19),
  (19, cr_vret mc ms)]
def t_Cd_init (l : Launch) (s0 : State) (D : va_G) (ca : Nat → ClassId) (e0 d mc ms : Nat) : List (Nat × cr_T) := t_Cd_init_0 l s0 D ca e0 d mc ms
set_option maxHeartbeats 4000000 in
set_option maxRecDepth 20000 in
theorem s_Cd_init_0 {p : Program} {l : Launch} {e : Env} {R : Room} {s : State} {m : MethodId} {args : Array Value} {below : List Frame} {meth : Method} {c : Code} {s0 : State} {D : va_G} {ca : Nat → ClassId} {e0 d mc ms : Nat} {Q : cr_Q} (hl : l.flags = flags0) (Z : cr_Z0 s0 D ca e0) (C : cr_C p R s m meth c (cr_W0 s0) s0.heap.size y_Cd_init c_Cd_init 4 (Option.none : Option FieldType) d mc ms) (hem : c.exceptionTable.toList = []) : ∀ x ∈ t_Cd_init_0 l s0 D ca e0 d mc ms, cr_Snd p l e R s m args below meth c s0.heap.size mc ms Q x.1 x.2 := by
  obtain ⟨hx, hb, hml, hown, hr, hlk, hnm, hU, hlo, hR⟩ := C
  have hK := cr_Z0K Z hU
  have hRc : R.cells = mc := by rw [hR]; rfl
  have hRs : R.slots = ms := by rw [hR]; rfl
  unfold t_Cd_init_0
  refine cr_cons (cr_aload_n_ok hx hb d_Cd_init_0 rfl rfl) ?_
  refine cr_cons (cr_oinit_ok hx hb hml hown hR (cr_w Z w_556 rfl hU args) (cr_w Z w_33 rfl hU args) (cr_w Z w_34 rfl hU args) d_Cd_init_1 rfl) ?_
  refine cr_cons (cr_aload_n_ok hx hb d_Cd_init_4 rfl rfl) ?_
  refine cr_cons (cr_iload_n_ok hx hb d_Cd_init_5 rfl rfl) ?_
  refine cr_cons (cr_putF_ok (C := R_Cd) (T := T_Cd) (N := 3) tt_Cd hx hb (k_Cd Z hU args) (fun _ h => h) ty_Cd nm_Cd hown hK rfl (by decide) (cr_w Z w_557 rfl hU args) (fun _ h => h) rfl hnm rfl (by decide +kernel) d_Cd_init_6 rfl) ?_
  refine cr_cons (cr_aload_n_ok hx hb d_Cd_init_9 rfl rfl) ?_
  refine cr_cons (cr_aload_n_ok hx hb d_Cd_init_10 rfl rfl) ?_
  refine cr_cons (cr_putF_ok (C := R_Cd) (T := T_Cd) (N := 3) tt_Cd hx hb (k_Cd Z hU args) (fun _ h => h) ty_Cd nm_Cd hown hK rfl (by decide) (cr_w Z w_559 rfl hU args) (fun _ h => h) rfl hnm rfl (by decide +kernel) d_Cd_init_11 rfl) ?_
  refine cr_cons (cr_aload_n_ok hx hb d_Cd_init_14 rfl rfl) ?_
  refine cr_cons (cr_iload_n_ok hx hb d_Cd_init_15 rfl rfl) ?_
  refine cr_cons (cr_putF_ok (C := R_Cd) (T := T_Cd) (N := 3) tt_Cd hx hb (k_Cd Z hU args) (fun _ h => h) ty_Cd nm_Cd hown hK rfl (by decide) (cr_w Z w_561 rfl hU args) (fun _ h => h) rfl hnm rfl (by decide +kernel) d_Cd_init_16 rfl) ?_
  refine cr_cons (cr_vret_ok hx hb hr hlk d_Cd_init_19) ?_
  exact cr_nil
theorem s_Cd_init {p : Program} {l : Launch} {e : Env} {R : Room} {s : State} {m : MethodId} {args : Array Value} {below : List Frame} {meth : Method} {c : Code} {s0 : State} {D : va_G} {ca : Nat → ClassId} {e0 d mc ms : Nat} {Q : cr_Q} (hl : l.flags = flags0) (Z : cr_Z0 s0 D ca e0) (C : cr_C p R s m meth c (cr_W0 s0) s0.heap.size y_Cd_init c_Cd_init 4 (Option.none : Option FieldType) d mc ms) (hem : c.exceptionTable.toList = []) : ∀ x ∈ t_Cd_init l s0 D ca e0 d mc ms, cr_Snd p l e R s m args below meth c s0.heap.size mc ms Q x.1 x.2 := s_Cd_init_0 hl Z C hem
theorem d_Ri_init_0 : decode c_Ri_init 0 = .ok (.aload_n 0, 1) := by decide +kernel
theorem d_Ri_init_1 : decode c_Ri_init 1 = .ok (.invokespecial 1, 3) := by decide +kernel
theorem d_Ri_init_4 : decode c_Ri_init 4 = .ok (.aload_n 0, 1) := by decide +kernel
theorem d_Ri_init_5 : decode c_Ri_init 5 = .ok (.iload_n 1, 1) := by decide +kernel
theorem d_Ri_init_6 : decode c_Ri_init 6 = .ok (.putfield 7, 3) := by decide +kernel
theorem d_Ri_init_9 : decode c_Ri_init 9 = .ok (.aload_n 0, 1) := by decide +kernel
theorem d_Ri_init_10 : decode c_Ri_init 10 = .ok (.iload_n 2, 1) := by decide +kernel
theorem d_Ri_init_11 : decode c_Ri_init 11 = .ok (.putfield 13, 3) := by decide +kernel
theorem d_Ri_init_14 : decode c_Ri_init 14 = .ok (.aload_n 0, 1) := by decide +kernel
theorem d_Ri_init_15 : decode c_Ri_init 15 = .ok (.iload_n 3, 1) := by decide +kernel
theorem d_Ri_init_16 : decode c_Ri_init 16 = .ok (.putfield 16, 3) := by decide +kernel
theorem d_Ri_init_19 : decode c_Ri_init 19 = .ok (.aload_n 0, 1) := by decide +kernel
theorem d_Ri_init_20 : decode c_Ri_init 20 = .ok (.iload 4, 2) := by decide +kernel
theorem d_Ri_init_22 : decode c_Ri_init 22 = .ok (.putfield 19, 3) := by decide +kernel
theorem d_Ri_init_25 : decode c_Ri_init 25 = .ok (.aload_n 0, 1) := by decide +kernel
theorem d_Ri_init_26 : decode c_Ri_init 26 = .ok (.iload 5, 2) := by decide +kernel
theorem d_Ri_init_28 : decode c_Ri_init 28 = .ok (.putfield 22, 3) := by decide +kernel
theorem d_Ri_init_31 : decode c_Ri_init 31 = .ok (.return_, 1) := by decide +kernel
def t_Ri_init_0 (l : Launch) (s0 : State) (D : va_G) (ca : Nat → ClassId) (e0 d mc ms : Nat) : List (Nat × cr_T) := [(0, cr_aload 0 1),
  (1, cr_oinit d 6 4),
  (4, cr_aload 0 5),
  (5, cr_iload 1 6),
  (6, cr_putf D kc s0.heap.size 7 0 .int 9),
  (9, cr_aload 0 10),
  (10, cr_iload 2 11),
  (11, cr_putf D kc s0.heap.size 7 1 .int 14),
  (14, cr_aload 0 15),
  (15, cr_iload 3 16),
  (16, cr_putf D kc s0.heap.size 7 2 .int 19),
  (19, cr_aload 0 20),
  (20, cr_iload 4 22),
  (22, cr_putf D kc s0.heap.size 7 3 .int 25),
  (25, cr_aload 0 26),
  (26, cr_iload 5 28),
  (28, cr_putf D kc s0.heap.size 7 4 .int 31),
  (31, cr_vret mc ms)]
def t_Ri_init (l : Launch) (s0 : State) (D : va_G) (ca : Nat → ClassId) (e0 d mc ms : Nat) : List (Nat × cr_T) := t_Ri_init_0 l s0 D ca e0 d mc ms
set_option maxHeartbeats 4000000 in
set_option maxRecDepth 20000 in
theorem s_Ri_init_0 {p : Program} {l : Launch} {e : Env} {R : Room} {s : State} {m : MethodId} {args : Array Value} {below : List Frame} {meth : Method} {c : Code} {s0 : State} {D : va_G} {ca : Nat → ClassId} {e0 d mc ms : Nat} {Q : cr_Q} (hl : l.flags = flags0) (Z : cr_Z0 s0 D ca e0) (C : cr_C p R s m meth c (cr_W0 s0) s0.heap.size y_Ri_init c_Ri_init 6 (Option.none : Option FieldType) d mc ms) (hem : c.exceptionTable.toList = []) : ∀ x ∈ t_Ri_init_0 l s0 D ca e0 d mc ms, cr_Snd p l e R s m args below meth c s0.heap.size mc ms Q x.1 x.2 := by
  obtain ⟨hx, hb, hml, hown, hr, hlk, hnm, hU, hlo, hR⟩ := C
  have hK := cr_Z0K Z hU
  have hRc : R.cells = mc := by rw [hR]; rfl
  have hRs : R.slots = ms := by rw [hR]; rfl
  unfold t_Ri_init_0
  refine cr_cons (cr_aload_n_ok hx hb d_Ri_init_0 rfl rfl) ?_
  refine cr_cons (cr_oinit_ok hx hb hml hown hR (cr_w Z w_585 rfl hU args) (cr_w Z w_33 rfl hU args) (cr_w Z w_34 rfl hU args) d_Ri_init_1 rfl) ?_
  refine cr_cons (cr_aload_n_ok hx hb d_Ri_init_4 rfl rfl) ?_
  refine cr_cons (cr_iload_n_ok hx hb d_Ri_init_5 rfl rfl) ?_
  refine cr_cons (cr_putF_ok (C := R_Ri) (T := T_Ri) (N := 5) tt_Ri hx hb (k_Ri Z hU args) (fun _ h => h) ty_Ri nm_Ri hown hK rfl (by decide) (cr_w Z w_586 rfl hU args) (fun _ h => h) rfl hnm rfl (by decide +kernel) d_Ri_init_6 rfl) ?_
  refine cr_cons (cr_aload_n_ok hx hb d_Ri_init_9 rfl rfl) ?_
  refine cr_cons (cr_iload_n_ok hx hb d_Ri_init_10 rfl rfl) ?_
  refine cr_cons (cr_putF_ok (C := R_Ri) (T := T_Ri) (N := 5) tt_Ri hx hb (k_Ri Z hU args) (fun _ h => h) ty_Ri nm_Ri hown hK rfl (by decide) (cr_w Z w_587 rfl hU args) (fun _ h => h) rfl hnm rfl (by decide +kernel) d_Ri_init_11 rfl) ?_
  refine cr_cons (cr_aload_n_ok hx hb d_Ri_init_14 rfl rfl) ?_
  refine cr_cons (cr_iload_n_ok hx hb d_Ri_init_15 rfl rfl) ?_
  refine cr_cons (cr_putF_ok (C := R_Ri) (T := T_Ri) (N := 5) tt_Ri hx hb (k_Ri Z hU args) (fun _ h => h) ty_Ri nm_Ri hown hK rfl (by decide) (cr_w Z w_588 rfl hU args) (fun _ h => h) rfl hnm rfl (by decide +kernel) d_Ri_init_16 rfl) ?_
  refine cr_cons (cr_aload_n_ok hx hb d_Ri_init_19 rfl rfl) ?_
  refine cr_cons (cr_iload_ok hx hb d_Ri_init_20 rfl) ?_
  refine cr_cons (cr_putF_ok (C := R_Ri) (T := T_Ri) (N := 5) tt_Ri hx hb (k_Ri Z hU args) (fun _ h => h) ty_Ri nm_Ri hown hK rfl (by decide) (cr_w Z w_589 rfl hU args) (fun _ h => h) rfl hnm rfl (by decide +kernel) d_Ri_init_22 rfl) ?_
  refine cr_cons (cr_aload_n_ok hx hb d_Ri_init_25 rfl rfl) ?_
  refine cr_cons (cr_iload_ok hx hb d_Ri_init_26 rfl) ?_
  refine cr_cons (cr_putF_ok (C := R_Ri) (T := T_Ri) (N := 5) tt_Ri hx hb (k_Ri Z hU args) (fun _ h => h) ty_Ri nm_Ri hown hK rfl (by decide) (cr_w Z w_590 rfl hU args) (fun _ h => h) rfl hnm rfl (by decide +kernel) d_Ri_init_28 rfl) ?_
  refine cr_cons (cr_vret_ok hx hb hr hlk d_Ri_init_31) ?_
  exact cr_nil
theorem s_Ri_init {p : Program} {l : Launch} {e : Env} {R : Room} {s : State} {m : MethodId} {args : Array Value} {below : List Frame} {meth : Method} {c : Code} {s0 : State} {D : va_G} {ca : Nat → ClassId} {e0 d mc ms : Nat} {Q : cr_Q} (hl : l.flags = flags0) (Z : cr_Z0 s0 D ca e0) (C : cr_C p R s m meth c (cr_W0 s0) s0.heap.size y_Ri_init c_Ri_init 6 (Option.none : Option FieldType) d mc ms) (hem : c.exceptionTable.toList = []) : ∀ x ∈ t_Ri_init l s0 D ca e0 d mc ms, cr_Snd p l e R s m args below meth c s0.heap.size mc ms Q x.1 x.2 := s_Ri_init_0 hl Z C hem
theorem d_Dr_isAirlockWith_0 : decode c_Dr_isAirlockWith 0 = .ok (.aload_n 0, 1) := by decide +kernel
theorem d_Dr_isAirlockWith_1 : decode c_Dr_isAirlockWith 1 = .ok (.getfield 20, 3) := by decide +kernel
theorem d_Dr_isAirlockWith_4 : decode c_Dr_isAirlockWith 4 = .ok (.iconst 1, 1) := by decide +kernel
theorem d_Dr_isAirlockWith_5 : decode c_Dr_isAirlockWith 5 = .ok (.aload_n 1, 1) := by decide +kernel
theorem d_Dr_isAirlockWith_6 : decode c_Dr_isAirlockWith 6 = .ok (.getfield 40, 3) := by decide +kernel
theorem d_Dr_isAirlockWith_9 : decode c_Dr_isAirlockWith 9 = .ok (.ishl, 1) := by decide +kernel
theorem d_Dr_isAirlockWith_10 : decode c_Dr_isAirlockWith 10 = .ok (.iand, 1) := by decide +kernel
theorem d_Dr_isAirlockWith_11 : decode c_Dr_isAirlockWith 11 = .ok (.ifCond .eq 7, 3) := by decide +kernel
theorem d_Dr_isAirlockWith_14 : decode c_Dr_isAirlockWith 14 = .ok (.iconst 1, 1) := by decide +kernel
theorem d_Dr_isAirlockWith_15 : decode c_Dr_isAirlockWith 15 = .ok (.goto 4, 3) := by decide +kernel
theorem d_Dr_isAirlockWith_18 : decode c_Dr_isAirlockWith 18 = .ok (.iconst 0, 1) := by decide +kernel
theorem d_Dr_isAirlockWith_19 : decode c_Dr_isAirlockWith 19 = .ok (.ireturn, 1) := by decide +kernel
def t_Dr_isAirlockWith_0 (l : Launch) (s0 : State) (D : va_G) (ca : Nat → ClassId) (e0 d mc ms : Nat) : List (Nat × cr_T) := [(0, cr_aload 0 1),
  (1, cr_getf D kc 2 6 4),
  (4, cr_push (.int 1) 5),
  (5, cr_aload 1 6),
  (6, cr_getf D kc 2 0 9),
  (9, cr_ishl 10),
  (10, cr_iand 11),
  (11, cr_ifeq 18 14),
  (14, cr_push (.int 1) 15),
  (15, cr_goto 19),
  (18, cr_push (.int 0) 19),
  (19, cr_zret mc ms .boolean)]
def t_Dr_isAirlockWith (l : Launch) (s0 : State) (D : va_G) (ca : Nat → ClassId) (e0 d mc ms : Nat) : List (Nat × cr_T) := t_Dr_isAirlockWith_0 l s0 D ca e0 d mc ms
set_option maxHeartbeats 4000000 in
set_option maxRecDepth 20000 in
theorem s_Dr_isAirlockWith_0 {p : Program} {l : Launch} {e : Env} {R : Room} {s : State} {m : MethodId} {args : Array Value} {below : List Frame} {meth : Method} {c : Code} {s0 : State} {D : va_G} {ca : Nat → ClassId} {e0 d mc ms : Nat} {Q : cr_Q} (hl : l.flags = flags0) (Z : cr_Z0 s0 D ca e0) (C : cr_C p R s m meth c (cr_W0 s0) s0.heap.size y_Dr_isAirlockWith c_Dr_isAirlockWith 2 (Option.some FieldType.boolean) d mc ms) (hem : c.exceptionTable.toList = []) : ∀ x ∈ t_Dr_isAirlockWith_0 l s0 D ca e0 d mc ms, cr_Snd p l e R s m args below meth c s0.heap.size mc ms Q x.1 x.2 := by
  obtain ⟨hx, hb, hml, hown, hr, hlk, hnm, hU, hlo, hR⟩ := C
  have hK := cr_Z0K Z hU
  have hRc : R.cells = mc := by rw [hR]; rfl
  have hRs : R.slots = ms := by rw [hR]; rfl
  unfold t_Dr_isAirlockWith_0
  refine cr_cons (cr_aload_n_ok hx hb d_Dr_isAirlockWith_0 rfl rfl) ?_
  refine cr_cons (cr_getf_ok (C := R_Dr) (T := T_Dr) (N := 10) hx hb (k_Dr Z hU args) (fun _ h => h) hown hK rfl (by decide) (cr_w Z w_468 rfl hU args) (fun _ h => h) d_Dr_isAirlockWith_1 rfl) ?_
  refine cr_cons (cr_iconst_ok hx hb d_Dr_isAirlockWith_4 (by decide) rfl) ?_
  refine cr_cons (cr_aload_n_ok hx hb d_Dr_isAirlockWith_5 rfl rfl) ?_
  refine cr_cons (cr_getf_ok (C := R_Dr) (T := T_Dr) (N := 10) hx hb (k_Dr Z hU args) (fun _ h => h) hown hK rfl (by decide) (cr_w Z w_456 rfl hU args) (fun _ h => h) d_Dr_isAirlockWith_6 rfl) ?_
  refine cr_cons (cr_ishl_ok hx hb d_Dr_isAirlockWith_9 rfl) ?_
  refine cr_cons (cr_iand_ok hx hb d_Dr_isAirlockWith_10 rfl) ?_
  refine cr_cons (cr_ifeq_ok hx hb d_Dr_isAirlockWith_11 (by decide) rfl) ?_
  refine cr_cons (cr_iconst_ok hx hb d_Dr_isAirlockWith_14 (by decide) rfl) ?_
  refine cr_cons (cr_goto_ok hx hb d_Dr_isAirlockWith_15 (by decide)) ?_
  refine cr_cons (cr_iconst_ok hx hb d_Dr_isAirlockWith_18 (by decide) rfl) ?_
  refine cr_cons (cr_zret_ok hx hb hr hlk d_Dr_isAirlockWith_19) ?_
  exact cr_nil
theorem s_Dr_isAirlockWith {p : Program} {l : Launch} {e : Env} {R : Room} {s : State} {m : MethodId} {args : Array Value} {below : List Frame} {meth : Method} {c : Code} {s0 : State} {D : va_G} {ca : Nat → ClassId} {e0 d mc ms : Nat} {Q : cr_Q} (hl : l.flags = flags0) (Z : cr_Z0 s0 D ca e0) (C : cr_C p R s m meth c (cr_W0 s0) s0.heap.size y_Dr_isAirlockWith c_Dr_isAirlockWith 2 (Option.some FieldType.boolean) d mc ms) (hem : c.exceptionTable.toList = []) : ∀ x ∈ t_Dr_isAirlockWith l s0 D ca e0 d mc ms, cr_Snd p l e R s m args below meth c s0.heap.size mc ms Q x.1 x.2 := s_Dr_isAirlockWith_0 hl Z C hem
theorem d_Dr_setAirlockWith_0 : decode c_Dr_setAirlockWith 0 = .ok (.iload_n 2, 1) := by decide +kernel
theorem d_Dr_setAirlockWith_1 : decode c_Dr_setAirlockWith 1 = .ok (.ifCond .eq 21, 3) := by decide +kernel
theorem d_Dr_setAirlockWith_4 : decode c_Dr_setAirlockWith 4 = .ok (.aload_n 0, 1) := by decide +kernel
theorem d_Dr_setAirlockWith_5 : decode c_Dr_setAirlockWith 5 = .ok (.dup, 1) := by decide +kernel
theorem d_Dr_setAirlockWith_6 : decode c_Dr_setAirlockWith 6 = .ok (.getfield 20, 3) := by decide +kernel
theorem d_Dr_setAirlockWith_9 : decode c_Dr_setAirlockWith 9 = .ok (.iconst 1, 1) := by decide +kernel
theorem d_Dr_setAirlockWith_10 : decode c_Dr_setAirlockWith 10 = .ok (.aload_n 1, 1) := by decide +kernel
theorem d_Dr_setAirlockWith_11 : decode c_Dr_setAirlockWith 11 = .ok (.getfield 40, 3) := by decide +kernel
theorem d_Dr_setAirlockWith_14 : decode c_Dr_setAirlockWith 14 = .ok (.ishl, 1) := by decide +kernel
theorem d_Dr_setAirlockWith_15 : decode c_Dr_setAirlockWith 15 = .ok (.ior, 1) := by decide +kernel
theorem d_Dr_setAirlockWith_16 : decode c_Dr_setAirlockWith 16 = .ok (.putfield 20, 3) := by decide +kernel
theorem d_Dr_setAirlockWith_19 : decode c_Dr_setAirlockWith 19 = .ok (.goto 20, 3) := by decide +kernel
theorem d_Dr_setAirlockWith_22 : decode c_Dr_setAirlockWith 22 = .ok (.aload_n 0, 1) := by decide +kernel
theorem d_Dr_setAirlockWith_23 : decode c_Dr_setAirlockWith 23 = .ok (.dup, 1) := by decide +kernel
theorem d_Dr_setAirlockWith_24 : decode c_Dr_setAirlockWith 24 = .ok (.getfield 20, 3) := by decide +kernel
theorem d_Dr_setAirlockWith_27 : decode c_Dr_setAirlockWith 27 = .ok (.iconst 1, 1) := by decide +kernel
theorem d_Dr_setAirlockWith_28 : decode c_Dr_setAirlockWith 28 = .ok (.aload_n 1, 1) := by decide +kernel
theorem d_Dr_setAirlockWith_29 : decode c_Dr_setAirlockWith 29 = .ok (.getfield 40, 3) := by decide +kernel
theorem d_Dr_setAirlockWith_32 : decode c_Dr_setAirlockWith 32 = .ok (.ishl, 1) := by decide +kernel
theorem d_Dr_setAirlockWith_33 : decode c_Dr_setAirlockWith 33 = .ok (.iconst (-1), 1) := by decide +kernel
theorem d_Dr_setAirlockWith_34 : decode c_Dr_setAirlockWith 34 = .ok (.ixor, 1) := by decide +kernel
theorem d_Dr_setAirlockWith_35 : decode c_Dr_setAirlockWith 35 = .ok (.iand, 1) := by decide +kernel
theorem d_Dr_setAirlockWith_36 : decode c_Dr_setAirlockWith 36 = .ok (.putfield 20, 3) := by decide +kernel
theorem d_Dr_setAirlockWith_39 : decode c_Dr_setAirlockWith 39 = .ok (.return_, 1) := by decide +kernel
def t_Dr_setAirlockWith_0 (l : Launch) (s0 : State) (D : va_G) (ca : Nat → ClassId) (e0 d mc ms : Nat) : List (Nat × cr_T) := [(0, cr_iload 2 1),
  (1, cr_ifeq 22 4),
  (4, cr_aload 0 5),
  (5, cr_dup 6),
  (6, cr_getf D kc 2 6 9),
  (9, cr_push (.int 1) 10),
  (10, cr_aload 1 11),
  (11, cr_getf D kc 2 0 14),
  (14, cr_ishl 15),
  (15, cr_ior 16),
  (16, cr_putf D kc s0.heap.size 2 6 .int 19),
  (19, cr_goto 39),
  (22, cr_aload 0 23),
  (23, cr_dup 24),
  (24, cr_getf D kc 2 6 27),
  (27, cr_push (.int 1) 28),
  (28, cr_aload 1 29),
  (29, cr_getf D kc 2 0 32),
  (32, cr_ishl 33),
  (33, cr_push (.int (-1)) 34),
  (34, cr_ixor 35),
  (35, cr_iand 36),
  (36, cr_putf D kc s0.heap.size 2 6 .int 39),
  (39, cr_vret mc ms)]
def t_Dr_setAirlockWith (l : Launch) (s0 : State) (D : va_G) (ca : Nat → ClassId) (e0 d mc ms : Nat) : List (Nat × cr_T) := t_Dr_setAirlockWith_0 l s0 D ca e0 d mc ms
set_option maxHeartbeats 4000000 in
set_option maxRecDepth 20000 in
theorem s_Dr_setAirlockWith_0 {p : Program} {l : Launch} {e : Env} {R : Room} {s : State} {m : MethodId} {args : Array Value} {below : List Frame} {meth : Method} {c : Code} {s0 : State} {D : va_G} {ca : Nat → ClassId} {e0 d mc ms : Nat} {Q : cr_Q} (hl : l.flags = flags0) (Z : cr_Z0 s0 D ca e0) (C : cr_C p R s m meth c (cr_W0 s0) s0.heap.size y_Dr_setAirlockWith c_Dr_setAirlockWith 3 (Option.none : Option FieldType) d mc ms) (hem : c.exceptionTable.toList = []) : ∀ x ∈ t_Dr_setAirlockWith_0 l s0 D ca e0 d mc ms, cr_Snd p l e R s m args below meth c s0.heap.size mc ms Q x.1 x.2 := by
  obtain ⟨hx, hb, hml, hown, hr, hlk, hnm, hU, hlo, hR⟩ := C
  have hK := cr_Z0K Z hU
  have hRc : R.cells = mc := by rw [hR]; rfl
  have hRs : R.slots = ms := by rw [hR]; rfl
  unfold t_Dr_setAirlockWith_0
  refine cr_cons (cr_iload_n_ok hx hb d_Dr_setAirlockWith_0 rfl rfl) ?_
  refine cr_cons (cr_ifeq_ok hx hb d_Dr_setAirlockWith_1 (by decide) rfl) ?_
  refine cr_cons (cr_aload_n_ok hx hb d_Dr_setAirlockWith_4 rfl rfl) ?_
  refine cr_cons (cr_dup_ok hx hb d_Dr_setAirlockWith_5 rfl) ?_
  refine cr_cons (cr_getf_ok (C := R_Dr) (T := T_Dr) (N := 10) hx hb (k_Dr Z hU args) (fun _ h => h) hown hK rfl (by decide) (cr_w Z w_468 rfl hU args) (fun _ h => h) d_Dr_setAirlockWith_6 rfl) ?_
  refine cr_cons (cr_iconst_ok hx hb d_Dr_setAirlockWith_9 (by decide) rfl) ?_
  refine cr_cons (cr_aload_n_ok hx hb d_Dr_setAirlockWith_10 rfl rfl) ?_
  refine cr_cons (cr_getf_ok (C := R_Dr) (T := T_Dr) (N := 10) hx hb (k_Dr Z hU args) (fun _ h => h) hown hK rfl (by decide) (cr_w Z w_456 rfl hU args) (fun _ h => h) d_Dr_setAirlockWith_11 rfl) ?_
  refine cr_cons (cr_ishl_ok hx hb d_Dr_setAirlockWith_14 rfl) ?_
  refine cr_cons (cr_ior_ok hx hb d_Dr_setAirlockWith_15 rfl) ?_
  refine cr_cons (cr_putf_ok (C := R_Dr) (T := T_Dr) (N := 10) tt_Dr hx hb (k_Dr Z hU args) (fun _ h => h) ty_Dr nm_Dr hown hK rfl (by decide) (Or.inl (cr_w Z w_468 rfl hU args)) (fun _ h => h) rfl (by decide +kernel) d_Dr_setAirlockWith_16 rfl) ?_
  refine cr_cons (cr_goto_ok hx hb d_Dr_setAirlockWith_19 (by decide)) ?_
  refine cr_cons (cr_aload_n_ok hx hb d_Dr_setAirlockWith_22 rfl rfl) ?_
  refine cr_cons (cr_dup_ok hx hb d_Dr_setAirlockWith_23 rfl) ?_
  refine cr_cons (cr_getf_ok (C := R_Dr) (T := T_Dr) (N := 10) hx hb (k_Dr Z hU args) (fun _ h => h) hown hK rfl (by decide) (cr_w Z w_468 rfl hU args) (fun _ h => h) d_Dr_setAirlockWith_24 rfl) ?_
  refine cr_cons (cr_iconst_ok hx hb d_Dr_setAirlockWith_27 (by decide) rfl) ?_
  refine cr_cons (cr_aload_n_ok hx hb d_Dr_setAirlockWith_28 rfl rfl) ?_
  refine cr_cons (cr_getf_ok (C := R_Dr) (T := T_Dr) (N := 10) hx hb (k_Dr Z hU args) (fun _ h => h) hown hK rfl (by decide) (cr_w Z w_456 rfl hU args) (fun _ h => h) d_Dr_setAirlockWith_29 rfl) ?_
  refine cr_cons (cr_ishl_ok hx hb d_Dr_setAirlockWith_32 rfl) ?_
  refine cr_cons (cr_iconst_ok hx hb d_Dr_setAirlockWith_33 (by decide) rfl) ?_
  refine cr_cons (cr_ixor_ok hx hb d_Dr_setAirlockWith_34 rfl) ?_
  refine cr_cons (cr_iand_ok hx hb d_Dr_setAirlockWith_35 rfl) ?_
  refine cr_cons (cr_putf_ok (C := R_Dr) (T := T_Dr) (N := 10) tt_Dr hx hb (k_Dr Z hU args) (fun _ h => h) ty_Dr nm_Dr hown hK rfl (by decide) (Or.inl (cr_w Z w_468 rfl hU args)) (fun _ h => h) rfl (by decide +kernel) d_Dr_setAirlockWith_36 rfl) ?_
  refine cr_cons (cr_vret_ok hx hb hr hlk d_Dr_setAirlockWith_39) ?_
  exact cr_nil
theorem s_Dr_setAirlockWith {p : Program} {l : Launch} {e : Env} {R : Room} {s : State} {m : MethodId} {args : Array Value} {below : List Frame} {meth : Method} {c : Code} {s0 : State} {D : va_G} {ca : Nat → ClassId} {e0 d mc ms : Nat} {Q : cr_Q} (hl : l.flags = flags0) (Z : cr_Z0 s0 D ca e0) (C : cr_C p R s m meth c (cr_W0 s0) s0.heap.size y_Dr_setAirlockWith c_Dr_setAirlockWith 3 (Option.none : Option FieldType) d mc ms) (hem : c.exceptionTable.toList = []) : ∀ x ∈ t_Dr_setAirlockWith l s0 D ca e0 d mc ms, cr_Snd p l e R s m args below meth c s0.heap.size mc ms Q x.1 x.2 := s_Dr_setAirlockWith_0 hl Z C hem
