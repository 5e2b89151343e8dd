theorem d_M_muster_0 : decode c_M_muster 0 = .ok (.aload_n 0, 1) := by decide +kernel
theorem d_M_muster_1 : decode c_M_muster 1 = .ok (.iload_n 1, 1) := by decide +kernel
theorem d_M_muster_2 : decode c_M_muster 2 = .ok (.bipush 10, 2) := by decide +kernel
theorem d_M_muster_4 : decode c_M_muster 4 = .ok (.invokestatic 113, 3) := by decide +kernel
theorem d_M_muster_7 : decode c_M_muster 7 = .ok (.ifCond .eq 11, 3) := by decide +kernel
theorem d_M_muster_10 : decode c_M_muster 10 = .ok (.iload_n 2, 1) := by decide +kernel
theorem d_M_muster_11 : decode c_M_muster 11 = .ok (.ifCond .lt 7, 3) := by decide +kernel
theorem d_M_muster_14 : decode c_M_muster 14 = .ok (.iconst 1, 1) := by decide +kernel
theorem d_M_muster_15 : decode c_M_muster 15 = .ok (.goto 4, 3) := by decide +kernel
theorem d_M_muster_18 : decode c_M_muster 18 = .ok (.iconst 0, 1) := by decide +kernel
theorem d_M_muster_19 : decode c_M_muster 19 = .ok (.iconst 1, 1) := by decide +kernel
theorem d_M_muster_20 : decode c_M_muster 20 = .ok (.invokevirtual 120, 3) := by decide +kernel
theorem d_M_muster_23 : decode c_M_muster 23 = .ok (.ifCond .ne 5, 3) := by decide +kernel
theorem d_M_muster_26 : decode c_M_muster 26 = .ok (.iconst 0, 1) := by decide +kernel
theorem d_M_muster_27 : decode c_M_muster 27 = .ok (.ireturn, 1) := by decide +kernel
theorem d_M_muster_28 : decode c_M_muster 28 = .ok (.iconst 0, 1) := by decide +kernel
theorem d_M_muster_29 : decode c_M_muster 29 = .ok (.istore_n 3, 1) := by decide +kernel
theorem d_M_muster_30 : decode c_M_muster 30 = .ok (.iconst 0, 1) := by decide +kernel
theorem d_M_muster_31 : decode c_M_muster 31 = .ok (.istore 4, 2) := by decide +kernel
theorem d_M_muster_33 : decode c_M_muster 33 = .ok (.iload 4, 2) := by decide +kernel
theorem d_M_muster_35 : decode c_M_muster 35 = .ok (.aload_n 0, 1) := by decide +kernel
theorem d_M_muster_36 : decode c_M_muster 36 = .ok (.getfield 127, 3) := by decide +kernel
theorem d_M_muster_39 : decode c_M_muster 39 = .ok (.if_icmp .ge 36, 3) := by decide +kernel
theorem d_M_muster_42 : decode c_M_muster 42 = .ok (.aload_n 0, 1) := by decide +kernel
theorem d_M_muster_43 : decode c_M_muster 43 = .ok (.getfield 7, 3) := by decide +kernel
theorem d_M_muster_46 : decode c_M_muster 46 = .ok (.aload_n 0, 1) := by decide +kernel
theorem d_M_muster_47 : decode c_M_muster 47 = .ok (.getfield 50, 3) := by decide +kernel
theorem d_M_muster_50 : decode c_M_muster 50 = .ok (.iload 4, 2) := by decide +kernel
theorem d_M_muster_52 : decode c_M_muster 52 = .ok (.iaload, 1) := by decide +kernel
theorem d_M_muster_53 : decode c_M_muster 53 = .ok (.iaload, 1) := by decide +kernel
theorem d_M_muster_54 : decode c_M_muster 54 = .ok (.iload_n 1, 1) := by decide +kernel
theorem d_M_muster_55 : decode c_M_muster 55 = .ok (.if_icmp .ne 14, 3) := by decide +kernel
theorem d_M_muster_58 : decode c_M_muster 58 = .ok (.iload_n 3, 1) := by decide +kernel
theorem d_M_muster_59 : decode c_M_muster 59 = .ok (.iload_n 2, 1) := by decide +kernel
theorem d_M_muster_60 : decode c_M_muster 60 = .ok (.if_icmp .ne 6, 3) := by decide +kernel
theorem d_M_muster_63 : decode c_M_muster 63 = .ok (.iload 4, 2) := by decide +kernel
theorem d_M_muster_65 : decode c_M_muster 65 = .ok (.ireturn, 1) := by decide +kernel
theorem d_M_muster_66 : decode c_M_muster 66 = .ok (.iinc 3 1, 3) := by decide +kernel
theorem d_M_muster_69 : decode c_M_muster 69 = .ok (.iinc 4 1, 3) := by decide +kernel
theorem d_M_muster_72 : decode c_M_muster 72 = .ok (.goto (-39), 3) := by decide +kernel
theorem d_M_muster_75 : decode c_M_muster 75 = .ok (.iconst (-1), 1) := by decide +kernel
theorem d_M_muster_76 : decode c_M_muster 76 = .ok (.ireturn, 1) := by decide +kernel
def t_M_muster_0 (l : Launch) (s0 : State) (D : va_G) (ca : Nat → ClassId) (e0 d mc ms : Nat) : List (Nat × cr_T) := [(0, cr_aload 0 1),
  (1, cr_iload 1 2),
  (2, cr_push (.int 10) 4),
  (4, cr_calS l (cr_W0 s0) s0.heap.size y_M_isIn cw_M_isIn d mc ms 2 5 7),
  (7, cr_ifeq 18 10),
  (10, cr_iload 2 11),
  (11, cr_iflt 18 14),
  (14, cr_push (.int 1) 15),
  (15, cr_goto 19),
  (18, cr_push (.int 0) 19),
  (19, cr_push (.int 1) 20),
  (20, cr_calV D kc l (cr_W0 s0) s0.heap.size 11 y_M_goes cw_M_goes d mc ms 2 5 23),
  (23, cr_ifne 28 26),
  (26, cr_push (.int 0) 27),
  (27, cr_iret mc ms),
  (28, cr_push (.int 0) 29),
  (29, cr_istore 3 30),
  (30, cr_push (.int 0) 31),
  (31, cr_istore 4 33),
  (33, cr_iload 4 35),
  (35, cr_aload 0 36),
  (36, cr_getf D kc 11 16 39),
  (39, cr_icge 75 42),
  (42, cr_aload 0 43),
  (43, cr_getf D kc 11 3 46),
  (46, cr_aload 0 47),
  (47, cr_getf D kc 11 18 50),
  (50, cr_iload 4 52),
  (52, cr_iald D kc (ca 0) 53),
  (53, cr_iald D kc (ca 0) 54)]
def t_M_muster_1 (l : Launch) (s0 : State) (D : va_G) (ca : Nat → ClassId) (e0 d mc ms : Nat) : List (Nat × cr_T) := [(54, cr_iload 1 55),
  (55, cr_icne 69 58),
  (58, cr_iload 3 59),
  (59, cr_iload 2 60),
  (60, cr_icne 66 63),
  (63, cr_iload 4 65),
  (65, cr_iret mc ms),
  (66, cr_iinc 3 1 69),
  (69, cr_iinc 4 1 72),
  (72, cr_goto 33),
  (75, cr_push (.int (-1)) 76),
  (76, cr_iret mc ms)]
def t_M_muster (l : Launch) (s0 : State) (D : va_G) (ca : Nat → ClassId) (e0 d mc ms : Nat) : List (Nat × cr_T) := t_M_muster_0 l s0 D ca e0 d mc ms ++ (t_M_muster_1 l s0 D ca e0 d mc ms)
set_option maxHeartbeats 4000000 in
set_option maxRecDepth 20000 in
theorem s_M_muster_0 {p : Program} {l : Launch} {e : Env} {R : Room} {s : State} {m : MethodId} {args : Array Value} {below : List Frame} {meth : Method} {c : Code} {s0 : State} {D : va_G} {ca : Nat → ClassId} {e0 d mc ms : Nat} {Q : cr_Q} (hl : l.flags = flags0) (Z : cr_Z0 s0 D ca e0) (C : cr_C p R s m meth c (cr_W0 s0) s0.heap.size y_M_muster c_M_muster 5 (Option.some FieldType.int) d mc ms) (hem : c.exceptionTable.toList = []) : ∀ x ∈ t_M_muster_0 l s0 D ca e0 d mc ms, cr_Snd p l e R s m args below meth c s0.heap.size mc ms Q x.1 x.2 := by
  obtain ⟨hx, hb, hml, hown, hr, hlk, hnm, hU, hlo, hR⟩ := C
  have hK := cr_Z0K Z hU
  have hRc : R.cells = mc := by rw [hR]; rfl
  have hRs : R.slots = ms := by rw [hR]; rfl
  unfold t_M_muster_0
  refine cr_cons (cr_aload_n_ok hx hb d_M_muster_0 rfl rfl) ?_
  refine cr_cons (cr_iload_n_ok hx hb d_M_muster_1 rfl rfl) ?_
  refine cr_cons (cr_bipush_ok hx hb d_M_muster_2 (by decide) rfl) ?_
  refine cr_cons (cr_calS_ok hx hb hml hown hlk hU hlo hR (cr_W0_st s0) (by rw [hem]; exact fun _ h => absurd h List.not_mem_nil) (u_M_isIn Z) (Or.inl (cr_w Z w_951 rfl hU args)) (cr_w Z w_952 rfl hU args) (by decide) (by decide +kernel) (by decide) d_M_muster_4 rfl) ?_
  refine cr_cons (cr_ifeq_ok hx hb d_M_muster_7 (by decide) rfl) ?_
  refine cr_cons (cr_iload_n_ok hx hb d_M_muster_10 rfl rfl) ?_
  refine cr_cons (cr_iflt_ok hx hb d_M_muster_11 (by decide) rfl) ?_
  refine cr_cons (cr_iconst_ok hx hb d_M_muster_14 (by decide) rfl) ?_
  refine cr_cons (cr_goto_ok hx hb d_M_muster_15 (by decide)) ?_
  refine cr_cons (cr_iconst_ok hx hb d_M_muster_18 (by decide) rfl) ?_
  refine cr_cons (cr_iconst_ok hx hb d_M_muster_19 (by decide) rfl) ?_
  refine cr_cons (cr_calV_ok (C := R_M) (Tf := T_M) (N := 41) hx hb hml hown hlk hU hlo hR (cr_W0_st s0) (by rw [hem]; exact fun _ h => absurd h List.not_mem_nil) hK rfl (u_M_goes Z) (Or.inl (cr_w Z w_954 rfl hU args)) (cr_w Z w_956 rfl hU args) (cr_w Z ws_32 rfl hU args) (by decide) (by decide +kernel) (by decide) d_M_muster_20 rfl) ?_
  refine cr_cons (cr_ifne_ok hx hb d_M_muster_23 (by decide) rfl) ?_
  refine cr_cons (cr_iconst_ok hx hb d_M_muster_26 (by decide) rfl) ?_
  refine cr_cons (cr_iret_ok hx hb hr hlk d_M_muster_27) ?_
  refine cr_cons (cr_iconst_ok hx hb d_M_muster_28 (by decide) rfl) ?_
  refine cr_cons (cr_istore_n_ok hx hb d_M_muster_29 rfl rfl) ?_
  refine cr_cons (cr_iconst_ok hx hb d_M_muster_30 (by decide) rfl) ?_
  refine cr_cons (cr_istore_ok hx hb d_M_muster_31 rfl) ?_
  refine cr_cons (cr_iload_ok hx hb d_M_muster_33 rfl) ?_
  refine cr_cons (cr_aload_n_ok hx hb d_M_muster_35 rfl rfl) ?_
  refine cr_cons (cr_getf_ok (C := R_M) (T := T_M) (N := 41) hx hb (k_M Z hU args) (fun _ h => h) hown hK rfl (by decide) (cr_w Z w_834 rfl hU args) (fun _ h => h) d_M_muster_36 rfl) ?_
  refine cr_cons (cr_icge_ok hx hb d_M_muster_39 (by decide) rfl) ?_
  refine cr_cons (cr_aload_n_ok hx hb d_M_muster_42 rfl rfl) ?_
  refine cr_cons (cr_getf_ok (C := R_M) (T := T_M) (N := 41) hx hb (k_M Z hU args) (fun _ h => h) hown hK rfl (by decide) (cr_w Z w_821 rfl hU args) (fun _ h => h) d_M_muster_43 rfl) ?_
  refine cr_cons (cr_aload_n_ok hx hb d_M_muster_46 rfl rfl) ?_
  refine cr_cons (cr_getf_ok (C := R_M) (T := T_M) (N := 41) hx hb (k_M Z hU args) (fun _ h => h) hown hK rfl (by decide) (cr_w Z w_836 rfl hU args) (fun _ h => h) d_M_muster_47 rfl) ?_
  refine cr_cons (cr_iload_ok hx hb d_M_muster_50 rfl) ?_
  refine cr_cons (cr_iald_ok (t0 := 0) hx hb hK rfl d_M_muster_52 rfl) ?_
  refine cr_cons (cr_iald_ok (t0 := 0) hx hb hK rfl d_M_muster_53 rfl) ?_
  exact cr_nil
set_option maxHeartbeats 4000000 in
set_option maxRecDepth 20000 in
theorem s_M_muster_1 {p : Program} {l : Launch} {e : Env} {R : Room} {s : State} {m : MethodId} {args : Array Value} {below : List Frame} {meth : Method} {c : Code} {s0 : State} {D : va_G} {ca : Nat → ClassId} {e0 d mc ms : Nat} {Q : cr_Q} (hl : l.flags = flags0) (Z : cr_Z0 s0 D ca e0) (C : cr_C p R s m meth c (cr_W0 s0) s0.heap.size y_M_muster c_M_muster 5 (Option.some FieldType.int) d mc ms) (hem : c.exceptionTable.toList = []) : ∀ x ∈ t_M_muster_1 l s0 D ca e0 d mc ms, cr_Snd p l e R s m args below meth c s0.heap.size mc ms Q x.1 x.2 := by
  obtain ⟨hx, hb, hml, hown, hr, hlk, hnm, hU, hlo, hR⟩ := C
  have hK := cr_Z0K Z hU
  have hRc : R.cells = mc := by rw [hR]; rfl
  have hRs : R.slots = ms := by rw [hR]; rfl
  unfold t_M_muster_1
  refine cr_cons (cr_iload_n_ok hx hb d_M_muster_54 rfl rfl) ?_
  refine cr_cons (cr_icne_ok hx hb d_M_muster_55 (by decide) rfl) ?_
  refine cr_cons (cr_iload_n_ok hx hb d_M_muster_58 rfl rfl) ?_
  refine cr_cons (cr_iload_n_ok hx hb d_M_muster_59 rfl rfl) ?_
  refine cr_cons (cr_icne_ok hx hb d_M_muster_60 (by decide) rfl) ?_
  refine cr_cons (cr_iload_ok hx hb d_M_muster_63 rfl) ?_
  refine cr_cons (cr_iret_ok hx hb hr hlk d_M_muster_65) ?_
  refine cr_cons (cr_iinc_ok hx hb d_M_muster_66 (by decide) rfl) ?_
  refine cr_cons (cr_iinc_ok hx hb d_M_muster_69 (by decide) rfl) ?_
  refine cr_cons (cr_goto_ok hx hb d_M_muster_72 (by decide)) ?_
  refine cr_cons (cr_iconst_ok hx hb d_M_muster_75 (by decide) rfl) ?_
  refine cr_cons (cr_iret_ok hx hb hr hlk d_M_muster_76) ?_
  exact cr_nil
theorem s_M_muster {p : Program} {l : Launch} {e : Env} {R : Room} {s : State} {m : MethodId} {args : Array Value} {below : List Frame} {meth : Method} {c : Code} {s0 : State} {D : va_G} {ca : Nat → ClassId} {e0 d mc ms : Nat} {Q : cr_Q} (hl : l.flags = flags0) (Z : cr_Z0 s0 D ca e0) (C : cr_C p R s m meth c (cr_W0 s0) s0.heap.size y_M_muster c_M_muster 5 (Option.some FieldType.int) d mc ms) (hem : c.exceptionTable.toList = []) : ∀ x ∈ t_M_muster l s0 D ca e0 d mc ms, cr_Snd p l e R s m args below meth c s0.heap.size mc ms Q x.1 x.2 := cr_app (s_M_muster_0 hl Z C hem) (s_M_muster_1 hl Z C hem)
theorem d_M_against_0 : decode c_M_against 0 = .ok (.aload_n 0, 1) := by decide +kernel
theorem d_M_against_1 : decode c_M_against 1 = .ok (.iconst 0, 1) := by decide +kernel
theorem d_M_against_2 : decode c_M_against 2 = .ok (.putfield 105, 3) := by decide +kernel
theorem d_M_against_5 : decode c_M_against 5 = .ok (.aload_n 0, 1) := by decide +kernel
theorem d_M_against_6 : decode c_M_against 6 = .ok (.getfield 176, 3) := by decide +kernel
theorem d_M_against_9 : decode c_M_against 9 = .ok (.ireturn, 1) := by decide +kernel
def t_M_against_0 (l : Launch) (s0 : State) (D : va_G) (ca : Nat → ClassId) (e0 d mc ms : Nat) : List (Nat × cr_T) := [(0, cr_aload 0 1),
  (1, cr_push (.int 0) 2),
  (2, cr_putf D kc s0.heap.size 11 0 .int 5),
  (5, cr_aload 0 6),
  (6, cr_getf D kc 11 34 9),
  (9, cr_iret mc ms)]
def t_M_against (l : Launch) (s0 : State) (D : va_G) (ca : Nat → ClassId) (e0 d mc ms : Nat) : List (Nat × cr_T) := t_M_against_0 l s0 D ca e0 d mc ms
set_option maxHeartbeats 4000000 in
set_option maxRecDepth 20000 in
theorem s_M_against_0 {p : Program} {l : Launch} {e : Env} {R : Room} {s : State} {m : MethodId} {args : Array Value} {below : List Frame} {meth : Method} {c : Code} {s0 : State} {D : va_G} {ca : Nat → ClassId} {e0 d mc ms : Nat} {Q : cr_Q} (hl : l.flags = flags0) (Z : cr_Z0 s0 D ca e0) (C : cr_C p R s m meth c (cr_W0 s0) s0.heap.size y_M_against c_M_against 1 (Option.some FieldType.int) d mc ms) (hem : c.exceptionTable.toList = []) : ∀ x ∈ t_M_against_0 l s0 D ca e0 d mc ms, cr_Snd p l e R s m args below meth c s0.heap.size mc ms Q x.1 x.2 := by
  obtain ⟨hx, hb, hml, hown, hr, hlk, hnm, hU, hlo, hR⟩ := C
  have hK := cr_Z0K Z hU
  have hRc : R.cells = mc := by rw [hR]; rfl
  have hRs : R.slots = ms := by rw [hR]; rfl
  unfold t_M_against_0
  refine cr_cons (cr_aload_n_ok hx hb d_M_against_0 rfl rfl) ?_
  refine cr_cons (cr_iconst_ok hx hb d_M_against_1 (by decide) rfl) ?_
  refine cr_cons (cr_putf_ok (C := R_M) (T := T_M) (N := 41) tt_M hx hb (k_M Z hU args) (fun _ h => h) ty_M nm_M hown hK rfl (by decide) (Or.inl (cr_w Z w_818 rfl hU args)) (fun _ h => h) rfl (by decide +kernel) d_M_against_2 rfl) ?_
  refine cr_cons (cr_aload_n_ok hx hb d_M_against_5 rfl rfl) ?_
  refine cr_cons (cr_getf_ok (C := R_M) (T := T_M) (N := 41) hx hb (k_M Z hU args) (fun _ h => h) hown hK rfl (by decide) (cr_w Z w_852 rfl hU args) (fun _ h => h) d_M_against_6 rfl) ?_
  refine cr_cons (cr_iret_ok hx hb hr hlk d_M_against_9) ?_
  exact cr_nil
theorem s_M_against {p : Program} {l : Launch} {e : Env} {R : Room} {s : State} {m : MethodId} {args : Array Value} {below : List Frame} {meth : Method} {c : Code} {s0 : State} {D : va_G} {ca : Nat → ClassId} {e0 d mc ms : Nat} {Q : cr_Q} (hl : l.flags = flags0) (Z : cr_Z0 s0 D ca e0) (C : cr_C p R s m meth c (cr_W0 s0) s0.heap.size y_M_against c_M_against 1 (Option.some FieldType.int) d mc ms) (hem : c.exceptionTable.toList = []) : ∀ x ∈ t_M_against l s0 D ca e0 d mc ms, cr_Snd p l e R s m args below meth c s0.heap.size mc ms Q x.1 x.2 := s_M_against_0 hl Z C hem
theorem d_M_found_0 : decode c_M_found 0 = .ok (.aload_n 0, 1) := by decide +kernel
theorem d_M_found_1 : decode c_M_found 1 = .ok (.iload_n 1, 1) := by decide +kernel
theorem d_M_found_2 : decode c_M_found 2 = .ok (.ifCond .lt 30, 3) := by decide +kernel
theorem d_M_found_5 : decode c_M_found 5 = .ok (.iload_n 1, 1) := by decide +kernel
theorem d_M_found_6 : decode c_M_found 6 = .ok (.aload_n 0, 1) := by decide +kernel
theorem d_M_found_7 : decode c_M_found 7 = .ok (.getfield 176, 3) := by decide +kernel
theorem d_M_found_10 : decode c_M_found 10 = .ok (.if_icmp .ge 22, 3) := by decide +kernel
theorem d_M_found_13 : decode c_M_found 13 = .ok (.iload_n 1, 1) := by decide +kernel
theorem d_M_found_14 : decode c_M_found 14 = .ok (.bipush 100, 2) := by decide +kernel
theorem d_M_found_16 : decode c_M_found 16 = .ok (.if_icmp .ge 16, 3) := by decide +kernel
theorem d_M_found_19 : decode c_M_found 19 = .ok (.iload_n 2, 1) := by decide +kernel
theorem d_M_found_20 : decode c_M_found 20 = .ok (.ifCond .lt 12, 3) := by decide +kernel
theorem d_M_found_23 : decode c_M_found 23 = .ok (.iload_n 2, 1) := by decide +kernel
theorem d_M_found_24 : decode c_M_found 24 = .ok (.iconst 3, 1) := by decide +kernel
theorem d_M_found_25 : decode c_M_found 25 = .ok (.if_icmp .gt 7, 3) := by decide +kernel
theorem d_M_found_28 : decode c_M_found 28 = .ok (.iconst 1, 1) := by decide +kernel
theorem d_M_found_29 : decode c_M_found 29 = .ok (.goto 4, 3) := by decide +kernel
theorem d_M_found_32 : decode c_M_found 32 = .ok (.iconst 0, 1) := by decide +kernel
theorem d_M_found_33 : decode c_M_found 33 = .ok (.iconst 1, 1) := by decide +kernel
theorem d_M_found_34 : decode c_M_found 34 = .ok (.invokevirtual 120, 3) := by decide +kernel
theorem d_M_found_37 : decode c_M_found 37 = .ok (.ifCond .ne 5, 3) := by decide +kernel
theorem d_M_found_40 : decode c_M_found 40 = .ok (.iconst 0, 1) := by decide +kernel
theorem d_M_found_41 : decode c_M_found 41 = .ok (.ireturn, 1) := by decide +kernel
theorem d_M_found_42 : decode c_M_found 42 = .ok (.iload_n 2, 1) := by decide +kernel
theorem d_M_found_43 : decode c_M_found 43 = .ok (.ifCond .ne 12, 3) := by decide +kernel
theorem d_M_found_46 : decode c_M_found 46 = .ok (.aload_n 0, 1) := by decide +kernel
theorem d_M_found_47 : decode c_M_found 47 = .ok (.getfield 86, 3) := by decide +kernel
theorem d_M_found_50 : decode c_M_found 50 = .ok (.iload_n 1, 1) := by decide +kernel
theorem d_M_found_51 : decode c_M_found 51 = .ok (.iaload, 1) := by decide +kernel
theorem d_M_found_52 : decode c_M_found 52 = .ok (.goto 37, 3) := by decide +kernel
theorem d_M_found_55 : decode c_M_found 55 = .ok (.iload_n 2, 1) := by decide +kernel
theorem d_M_found_56 : decode c_M_found 56 = .ok (.iconst 1, 1) := by decide +kernel
theorem d_M_found_57 : decode c_M_found 57 = .ok (.if_icmp .ne 12, 3) := by decide +kernel
theorem d_M_found_60 : decode c_M_found 60 = .ok (.aload_n 0, 1) := by decide +kernel
theorem d_M_found_61 : decode c_M_found 61 = .ok (.getfield 89, 3) := by decide +kernel
theorem d_M_found_64 : decode c_M_found 64 = .ok (.iload_n 1, 1) := by decide +kernel
theorem d_M_found_65 : decode c_M_found 65 = .ok (.iaload, 1) := by decide +kernel
theorem d_M_found_66 : decode c_M_found 66 = .ok (.goto 23, 3) := by decide +kernel
theorem d_M_found_69 : decode c_M_found 69 = .ok (.iload_n 2, 1) := by decide +kernel
theorem d_M_found_70 : decode c_M_found 70 = .ok (.iconst 2, 1) := by decide +kernel
theorem d_M_found_71 : decode c_M_found 71 = .ok (.if_icmp .ne 12, 3) := by decide +kernel
theorem d_M_found_74 : decode c_M_found 74 = .ok (.aload_n 0, 1) := by decide +kernel
theorem d_M_found_75 : decode c_M_found 75 = .ok (.getfield 92, 3) := by decide +kernel
theorem d_M_found_78 : decode c_M_found 78 = .ok (.iload_n 1, 1) := by decide +kernel
theorem d_M_found_79 : decode c_M_found 79 = .ok (.iaload, 1) := by decide +kernel
theorem d_M_found_80 : decode c_M_found 80 = .ok (.goto 9, 3) := by decide +kernel
theorem d_M_found_83 : decode c_M_found 83 = .ok (.aload_n 0, 1) := by decide +kernel
theorem d_M_found_84 : decode c_M_found 84 = .ok (.getfield 95, 3) := by decide +kernel
theorem d_M_found_87 : decode c_M_found 87 = .ok (.iload_n 1, 1) := by decide +kernel
theorem d_M_found_88 : decode c_M_found 88 = .ok (.iaload, 1) := by decide +kernel
theorem d_M_found_89 : decode c_M_found 89 = .ok (.ireturn, 1) := by decide +kernel
def t_M_found_0 (l : Launch) (s0 : State) (D : va_G) (ca : Nat → ClassId) (e0 d mc ms : Nat) : List (Nat × cr_T) := [(0, cr_aload 0 1),
  (1, cr_iload 1 2),
  (2, cr_iflt 32 5),
  (5, cr_iload 1 6),
  (6, cr_aload 0 7),
  (7, cr_getf D kc 11 34 10),
  (10, cr_icge 32 13),
  (13, cr_iload 1 14),
  (14, cr_push (.int 100) 16),
  (16, cr_icge 32 19),
  (19, cr_iload 2 20),
  (20, cr_iflt 32 23),
  (23, cr_iload 2 24),
  (24, cr_push (.int 3) 25),
  (25, cr_icgt 32 28),
  (28, cr_push (.int 1) 29),
  (29, cr_goto 33),
  (32, cr_push (.int 0) 33),
  (33, cr_push (.int 1) 34),
  (34, cr_calV D kc l (cr_W0 s0) s0.heap.size 11 y_M_goes cw_M_goes d mc ms 2 3 37),
  (37, cr_ifne 42 40),
  (40, cr_push (.int 0) 41),
  (41, cr_iret mc ms),
  (42, cr_iload 2 43),
  (43, cr_ifne 55 46),
  (46, cr_aload 0 47),
  (47, cr_getf D kc 11 35 50),
  (50, cr_iload 1 51),
  (51, cr_iald D kc (ca 0) 52),
  (52, cr_goto 89)]
def t_M_found_1 (l : Launch) (s0 : State) (D : va_G) (ca : Nat → ClassId) (e0 d mc ms : Nat) : List (Nat × cr_T) := [(55, cr_iload 2 56),
  (56, cr_push (.int 1) 57),
  (57, cr_icne 69 60),
  (60, cr_aload 0 61),
  (61, cr_getf D kc 11 36 64),
  (64, cr_iload 1 65),
  (65, cr_iald D kc (ca 0) 66),
  (66, cr_goto 89),
  (69, cr_iload 2 70),
  (70, cr_push (.int 2) 71),
  (71, cr_icne 83 74),
  (74, cr_aload 0 75),
  (75, cr_getf D kc 11 37 78),
  (78, cr_iload 1 79),
  (79, cr_iald D kc (ca 0) 80),
  (80, cr_goto 89),
  (83, cr_aload 0 84),
  (84, cr_getf D kc 11 38 87),
  (87, cr_iload 1 88),
  (88, cr_iald D kc (ca 0) 89),
  (89, cr_iret mc ms)]
def t_M_found (l : Launch) (s0 : State) (D : va_G) (ca : Nat → ClassId) (e0 d mc ms : Nat) : List (Nat × cr_T) := t_M_found_0 l s0 D ca e0 d mc ms ++ (t_M_found_1 l s0 D ca e0 d mc ms)
set_option maxHeartbeats 4000000 in
set_option maxRecDepth 20000 in
theorem s_M_found_0 {p : Program} {l : Launch} {e : Env} {R : Room} {s : State} {m : MethodId} {args : Array Value} {below : List Frame} {meth : Method} {c : Code} {s0 : State} {D : va_G} {ca : Nat → ClassId} {e0 d mc ms : Nat} {Q : cr_Q} (hl : l.flags = flags0) (Z : cr_Z0 s0 D ca e0) (C : cr_C p R s m meth c (cr_W0 s0) s0.heap.size y_M_found c_M_found 3 (Option.some FieldType.int) d mc ms) (hem : c.exceptionTable.toList = []) : ∀ x ∈ t_M_found_0 l s0 D ca e0 d mc ms, cr_Snd p l e R s m args below meth c s0.heap.size mc ms Q x.1 x.2 := by
  obtain ⟨hx, hb, hml, hown, hr, hlk, hnm, hU, hlo, hR⟩ := C
  have hK := cr_Z0K Z hU
  have hRc : R.cells = mc := by rw [hR]; rfl
  have hRs : R.slots = ms := by rw [hR]; rfl
  unfold t_M_found_0
  refine cr_cons (cr_aload_n_ok hx hb d_M_found_0 rfl rfl) ?_
  refine cr_cons (cr_iload_n_ok hx hb d_M_found_1 rfl rfl) ?_
  refine cr_cons (cr_iflt_ok hx hb d_M_found_2 (by decide) rfl) ?_
  refine cr_cons (cr_iload_n_ok hx hb d_M_found_5 rfl rfl) ?_
  refine cr_cons (cr_aload_n_ok hx hb d_M_found_6 rfl rfl) ?_
  refine cr_cons (cr_getf_ok (C := R_M) (T := T_M) (N := 41) hx hb (k_M Z hU args) (fun _ h => h) hown hK rfl (by decide) (cr_w Z w_852 rfl hU args) (fun _ h => h) d_M_found_7 rfl) ?_
  refine cr_cons (cr_icge_ok hx hb d_M_found_10 (by decide) rfl) ?_
  refine cr_cons (cr_iload_n_ok hx hb d_M_found_13 rfl rfl) ?_
  refine cr_cons (cr_bipush_ok hx hb d_M_found_14 (by decide) rfl) ?_
  refine cr_cons (cr_icge_ok hx hb d_M_found_16 (by decide) rfl) ?_
  refine cr_cons (cr_iload_n_ok hx hb d_M_found_19 rfl rfl) ?_
  refine cr_cons (cr_iflt_ok hx hb d_M_found_20 (by decide) rfl) ?_
  refine cr_cons (cr_iload_n_ok hx hb d_M_found_23 rfl rfl) ?_
  refine cr_cons (cr_iconst_ok hx hb d_M_found_24 (by decide) rfl) ?_
  refine cr_cons (cr_icgt_ok hx hb d_M_found_25 (by decide) rfl) ?_
  refine cr_cons (cr_iconst_ok hx hb d_M_found_28 (by decide) rfl) ?_
  refine cr_cons (cr_goto_ok hx hb d_M_found_29 (by decide)) ?_
  refine cr_cons (cr_iconst_ok hx hb d_M_found_32 (by decide) rfl) ?_
  refine cr_cons (cr_iconst_ok hx hb d_M_found_33 (by decide) rfl) ?_
  refine cr_cons (cr_calV_ok (C := R_M) (Tf := T_M) (N := 41) hx hb hml hown hlk hU hlo hR (cr_W0_st s0) (by rw [hem]; exact fun _ h => absurd h List.not_mem_nil) hK rfl (u_M_goes Z) (Or.inl (cr_w Z w_954 rfl hU args)) (cr_w Z w_956 rfl hU args) (cr_w Z ws_32 rfl hU args) (by decide) (by decide +kernel) (by decide) d_M_found_34 rfl) ?_
  refine cr_cons (cr_ifne_ok hx hb d_M_found_37 (by decide) rfl) ?_
  refine cr_cons (cr_iconst_ok hx hb d_M_found_40 (by decide) rfl) ?_
  refine cr_cons (cr_iret_ok hx hb hr hlk d_M_found_41) ?_
  refine cr_cons (cr_iload_n_ok hx hb d_M_found_42 rfl rfl) ?_
  refine cr_cons (cr_ifne_ok hx hb d_M_found_43 (by decide) rfl) ?_
  refine cr_cons (cr_aload_n_ok hx hb d_M_found_46 rfl rfl) ?_
  refine cr_cons (cr_getf_ok (C := R_M) (T := T_M) (N := 41) hx hb (k_M Z hU args) (fun _ h => h) hown hK rfl (by decide) (cr_w Z w_853 rfl hU args) (fun _ h => h) d_M_found_47 rfl) ?_
  refine cr_cons (cr_iload_n_ok hx hb d_M_found_50 rfl rfl) ?_
  refine cr_cons (cr_iald_ok (t0 := 0) hx hb hK rfl d_M_found_51 rfl) ?_
  refine cr_cons (cr_goto_ok hx hb d_M_found_52 (by decide)) ?_
  exact cr_nil
set_option maxHeartbeats 4000000 in
set_option maxRecDepth 20000 in
theorem s_M_found_1 {p : Program} {l : Launch} {e : Env} {R : Room} {s : State} {m : MethodId} {args : Array Value} {below : List Frame} {meth : Method} {c : Code} {s0 : State} {D : va_G} {ca : Nat → ClassId} {e0 d mc ms : Nat} {Q : cr_Q} (hl : l.flags = flags0) (Z : cr_Z0 s0 D ca e0) (C : cr_C p R s m meth c (cr_W0 s0) s0.heap.size y_M_found c_M_found 3 (Option.some FieldType.int) d mc ms) (hem : c.exceptionTable.toList = []) : ∀ x ∈ t_M_found_1 l s0 D ca e0 d mc ms, cr_Snd p l e R s m args below meth c s0.heap.size mc ms Q x.1 x.2 := by
  obtain ⟨hx, hb, hml, hown, hr, hlk, hnm, hU, hlo, hR⟩ := C
  have hK := cr_Z0K Z hU
  have hRc : R.cells = mc := by rw [hR]; rfl
  have hRs : R.slots = ms := by rw [hR]; rfl
  unfold t_M_found_1
  refine cr_cons (cr_iload_n_ok hx hb d_M_found_55 rfl rfl) ?_
  refine cr_cons (cr_iconst_ok hx hb d_M_found_56 (by decide) rfl) ?_
  refine cr_cons (cr_icne_ok hx hb d_M_found_57 (by decide) rfl) ?_
  refine cr_cons (cr_aload_n_ok hx hb d_M_found_60 rfl rfl) ?_
  refine cr_cons (cr_getf_ok (C := R_M) (T := T_M) (N := 41) hx hb (k_M Z hU args) (fun _ h => h) hown hK rfl (by decide) (cr_w Z w_854 rfl hU args) (fun _ h => h) d_M_found_61 rfl) ?_
  refine cr_cons (cr_iload_n_ok hx hb d_M_found_64 rfl rfl) ?_
  refine cr_cons (cr_iald_ok (t0 := 0) hx hb hK rfl d_M_found_65 rfl) ?_
  refine cr_cons (cr_goto_ok hx hb d_M_found_66 (by decide)) ?_
  refine cr_cons (cr_iload_n_ok hx hb d_M_found_69 rfl rfl) ?_
  refine cr_cons (cr_iconst_ok hx hb d_M_found_70 (by decide) rfl) ?_
  refine cr_cons (cr_icne_ok hx hb d_M_found_71 (by decide) rfl) ?_
  refine cr_cons (cr_aload_n_ok hx hb d_M_found_74 rfl rfl) ?_
  refine cr_cons (cr_getf_ok (C := R_M) (T := T_M) (N := 41) hx hb (k_M Z hU args) (fun _ h => h) hown hK rfl (by decide) (cr_w Z w_855 rfl hU args) (fun _ h => h) d_M_found_75 rfl) ?_
  refine cr_cons (cr_iload_n_ok hx hb d_M_found_78 rfl rfl) ?_
  refine cr_cons (cr_iald_ok (t0 := 0) hx hb hK rfl d_M_found_79 rfl) ?_
  refine cr_cons (cr_goto_ok hx hb d_M_found_80 (by decide)) ?_
  refine cr_cons (cr_aload_n_ok hx hb d_M_found_83 rfl rfl) ?_
  refine cr_cons (cr_getf_ok (C := R_M) (T := T_M) (N := 41) hx hb (k_M Z hU args) (fun _ h => h) hown hK rfl (by decide) (cr_w Z w_856 rfl hU args) (fun _ h => h) d_M_found_84 rfl) ?_
  refine cr_cons (cr_iload_n_ok hx hb d_M_found_87 rfl rfl) ?_
  refine cr_cons (cr_iald_ok (t0 := 0) hx hb hK rfl d_M_found_88 rfl) ?_
  refine cr_cons (cr_iret_ok hx hb hr hlk d_M_found_89) ?_
  exact cr_nil
theorem s_M_found {p : Program} {l : Launch} {e : Env} {R : Room} {s : State} {m : MethodId} {args : Array Value} {below : List Frame} {meth : Method} {c : Code} {s0 : State} {D : va_G} {ca : Nat → ClassId} {e0 d mc ms : Nat} {Q : cr_Q} (hl : l.flags = flags0) (Z : cr_Z0 s0 D ca e0) (C : cr_C p R s m meth c (cr_W0 s0) s0.heap.size y_M_found c_M_found 3 (Option.some FieldType.int) d mc ms) (hem : c.exceptionTable.toList = []) : ∀ x ∈ t_M_found l s0 D ca e0 d mc ms, cr_Snd p l e R s m args below meth c s0.heap.size mc ms Q x.1 x.2 := cr_app (s_M_found_0 hl Z C hem) (s_M_found_1 hl Z C hem)
theorem d_M_uses_0 : decode c_M_uses 0 = .ok (.aload_n 0, 1) := by decide +kernel
theorem d_M_uses_1 : decode c_M_uses 1 = .ok (.iconst 0, 1) := by decide +kernel
theorem d_M_uses_2 : decode c_M_uses 2 = .ok (.putfield 105, 3) := by decide +kernel
theorem d_M_uses_5 : decode c_M_uses 5 = .ok (.aload_n 0, 1) := by decide +kernel
theorem d_M_uses_6 : decode c_M_uses 6 = .ok (.getfield 162, 3) := by decide +kernel
theorem d_M_uses_9 : decode c_M_uses 9 = .ok (.ireturn, 1) := by decide +kernel
def t_M_uses_0 (l : Launch) (s0 : State) (D : va_G) (ca : Nat → ClassId) (e0 d mc ms : Nat) : List (Nat × cr_T) := [(0, cr_aload 0 1),
  (1, cr_push (.int 0) 2),
  (2, cr_putf D kc s0.heap.size 11 0 .int 5),
  (5, cr_aload 0 6),
  (6, cr_getf D kc 11 32 9),
  (9, cr_iret mc ms)]
def t_M_uses (l : Launch) (s0 : State) (D : va_G) (ca : Nat → ClassId) (e0 d mc ms : Nat) : List (Nat × cr_T) := t_M_uses_0 l s0 D ca e0 d mc ms
set_option maxHeartbeats 4000000 in
set_option maxRecDepth 20000 in
theorem s_M_uses_0 {p : Program} {l : Launch} {e : Env} {R : Room} {s : State} {m : MethodId} {args : Array Value} {below : List Frame} {meth : Method} {c : Code} {s0 : State} {D : va_G} {ca : Nat → ClassId} {e0 d mc ms : Nat} {Q : cr_Q} (hl : l.flags = flags0) (Z : cr_Z0 s0 D ca e0) (C : cr_C p R s m meth c (cr_W0 s0) s0.heap.size y_M_uses c_M_uses 1 (Option.some FieldType.int) d mc ms) (hem : c.exceptionTable.toList = []) : ∀ x ∈ t_M_uses_0 l s0 D ca e0 d mc ms, cr_Snd p l e R s m args below meth c s0.heap.size mc ms Q x.1 x.2 := by
  obtain ⟨hx, hb, hml, hown, hr, hlk, hnm, hU, hlo, hR⟩ := C
  have hK := cr_Z0K Z hU
  have hRc : R.cells = mc := by rw [hR]; rfl
  have hRs : R.slots = ms := by rw [hR]; rfl
  unfold t_M_uses_0
  refine cr_cons (cr_aload_n_ok hx hb d_M_uses_0 rfl rfl) ?_
  refine cr_cons (cr_iconst_ok hx hb d_M_uses_1 (by decide) rfl) ?_
  refine cr_cons (cr_putf_ok (C := R_M) (T := T_M) (N := 41) tt_M hx hb (k_M Z hU args) (fun _ h => h) ty_M nm_M hown hK rfl (by decide) (Or.inl (cr_w Z w_818 rfl hU args)) (fun _ h => h) rfl (by decide +kernel) d_M_uses_2 rfl) ?_
  refine cr_cons (cr_aload_n_ok hx hb d_M_uses_5 rfl rfl) ?_
  refine cr_cons (cr_getf_ok (C := R_M) (T := T_M) (N := 41) hx hb (k_M Z hU args) (fun _ h => h) hown hK rfl (by decide) (cr_w Z w_850 rfl hU args) (fun _ h => h) d_M_uses_6 rfl) ?_
  refine cr_cons (cr_iret_ok hx hb hr hlk d_M_uses_9) ?_
  exact cr_nil
theorem s_M_uses {p : Program} {l : Launch} {e : Env} {R : Room} {s : State} {m : MethodId} {args : Array Value} {below : List Frame} {meth : Method} {c : Code} {s0 : State} {D : va_G} {ca : Nat → ClassId} {e0 d mc ms : Nat} {Q : cr_Q} (hl : l.flags = flags0) (Z : cr_Z0 s0 D ca e0) (C : cr_C p R s m meth c (cr_W0 s0) s0.heap.size y_M_uses c_M_uses 1 (Option.some FieldType.int) d mc ms) (hem : c.exceptionTable.toList = []) : ∀ x ∈ t_M_uses l s0 D ca e0 d mc ms, cr_Snd p l e R s m args below meth c s0.heap.size mc ms Q x.1 x.2 := s_M_uses_0 hl Z C hem
