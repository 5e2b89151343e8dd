theorem d_Kn_copyFrom_0 : decode c_Kn_copyFrom 0 = .ok (.aload_n 0, 1) := by decide +kernel
theorem d_Kn_copyFrom_1 : decode c_Kn_copyFrom 1 = .ok (.aload_n 1, 1) := by decide +kernel
theorem d_Kn_copyFrom_2 : decode c_Kn_copyFrom 2 = .ok (.getfield 9, 3) := by decide +kernel
theorem d_Kn_copyFrom_5 : decode c_Kn_copyFrom 5 = .ok (.putfield 9, 3) := by decide +kernel
theorem d_Kn_copyFrom_8 : decode c_Kn_copyFrom 8 = .ok (.aload_n 0, 1) := by decide +kernel
theorem d_Kn_copyFrom_9 : decode c_Kn_copyFrom 9 = .ok (.aload_n 1, 1) := by decide +kernel
theorem d_Kn_copyFrom_10 : decode c_Kn_copyFrom 10 = .ok (.getfield 15, 3) := by decide +kernel
theorem d_Kn_copyFrom_13 : decode c_Kn_copyFrom 13 = .ok (.putfield 15, 3) := by decide +kernel
theorem d_Kn_copyFrom_16 : decode c_Kn_copyFrom 16 = .ok (.aload_n 1, 1) := by decide +kernel
theorem d_Kn_copyFrom_17 : decode c_Kn_copyFrom 17 = .ok (.getfield 18, 3) := by decide +kernel
theorem d_Kn_copyFrom_20 : decode c_Kn_copyFrom 20 = .ok (.iconst 0, 1) := by decide +kernel
theorem d_Kn_copyFrom_21 : decode c_Kn_copyFrom 21 = .ok (.aload_n 0, 1) := by decide +kernel
theorem d_Kn_copyFrom_22 : decode c_Kn_copyFrom 22 = .ok (.getfield 18, 3) := by decide +kernel
theorem d_Kn_copyFrom_25 : decode c_Kn_copyFrom 25 = .ok (.iconst 0, 1) := by decide +kernel
theorem d_Kn_copyFrom_26 : decode c_Kn_copyFrom 26 = .ok (.bipush 60, 2) := by decide +kernel
theorem d_Kn_copyFrom_28 : decode c_Kn_copyFrom 28 = .ok (.invokestatic 31, 3) := by decide +kernel
theorem d_Kn_copyFrom_31 : decode c_Kn_copyFrom 31 = .ok (.aload_n 1, 1) := by decide +kernel
theorem d_Kn_copyFrom_32 : decode c_Kn_copyFrom 32 = .ok (.getfield 22, 3) := by decide +kernel
theorem d_Kn_copyFrom_35 : decode c_Kn_copyFrom 35 = .ok (.iconst 0, 1) := by decide +kernel
theorem d_Kn_copyFrom_36 : decode c_Kn_copyFrom 36 = .ok (.aload_n 0, 1) := by decide +kernel
theorem d_Kn_copyFrom_37 : decode c_Kn_copyFrom 37 = .ok (.getfield 22, 3) := by decide +kernel
theorem d_Kn_copyFrom_40 : decode c_Kn_copyFrom 40 = .ok (.iconst 0, 1) := by decide +kernel
theorem d_Kn_copyFrom_41 : decode c_Kn_copyFrom 41 = .ok (.bipush 16, 2) := by decide +kernel
theorem d_Kn_copyFrom_43 : decode c_Kn_copyFrom 43 = .ok (.invokestatic 31, 3) := by decide +kernel
theorem d_Kn_copyFrom_46 : decode c_Kn_copyFrom 46 = .ok (.return_, 1) := by decide +kernel
def t_Kn_copyFrom_0 (l : Launch) (s0 : State) (D : va_G) (ca : Nat → ClassId) (e0 d mc ms : Nat) : List (Nat × cr_T) := [(0, cr_aload 0 1),
  (1, cr_aload 1 2),
  (2, cr_getf D kc 4 0 5),
  (5, cr_putf D kc s0.heap.size 4 0 .int 8),
  (8, cr_aload 0 9),
  (9, cr_aload 1 10),
  (10, cr_getf D kc 4 1 13),
  (13, cr_putf D kc s0.heap.size 4 1 .int 16),
  (16, cr_aload 1 17),
  (17, cr_getf D kc 4 2 20),
  (20, cr_push (.int 0) 21),
  (21, cr_aload 0 22),
  (22, cr_getf D kc 4 2 25),
  (25, cr_push (.int 0) 26),
  (26, cr_push (.int 60) 28),
  (28, cr_copyi s0 D kc d (ca 0) 2 31),
  (31, cr_aload 1 32),
  (32, cr_getf D kc 4 3 35),
  (35, cr_push (.int 0) 36),
  (36, cr_aload 0 37),
  (37, cr_getf D kc 4 3 40),
  (40, cr_push (.int 0) 41),
  (41, cr_push (.int 16) 43),
  (43, cr_copyi s0 D kc d (ca 0) 2 46),
  (46, cr_vret mc ms)]
def t_Kn_copyFrom (l : Launch) (s0 : State) (D : va_G) (ca : Nat → ClassId) (e0 d mc ms : Nat) : List (Nat × cr_T) := t_Kn_copyFrom_0 l s0 D ca e0 d mc ms
set_option maxHeartbeats 4000000 in
set_option maxRecDepth 20000 in
theorem s_Kn_copyFrom_0 {p : Program} {l : Launch} {e : Env} {R : Room} {s : State} {m : MethodId} {args : Array Value} {below : List Frame} {meth : Method} {c : Code} {s0 : State} {D : va_G} {ca : Nat → ClassId} {e0 d mc ms : Nat} {Q : cr_Q} (hl : l.flags = flags0) (Z : cr_Z0 s0 D ca e0) (C : cr_C p R s m meth c (cr_W0 s0) s0.heap.size y_Kn_copyFrom c_Kn_copyFrom 2 (Option.none : Option FieldType) d mc ms) (hem : c.exceptionTable.toList = []) : ∀ x ∈ t_Kn_copyFrom_0 l s0 D ca e0 d mc ms, cr_Snd p l e R s m args below meth c s0.heap.size mc ms Q x.1 x.2 := by
  obtain ⟨hx, hb, hml, hown, hr, hlk, hnm, hU, hlo, hR⟩ := C
  have hK := cr_Z0K Z hU
  have hRc : R.cells = mc := by rw [hR]; rfl
  have hRs : R.slots = ms := by rw [hR]; rfl
  unfold t_Kn_copyFrom_0
  refine cr_cons (cr_aload_n_ok hx hb d_Kn_copyFrom_0 rfl rfl) ?_
  refine cr_cons (cr_aload_n_ok hx hb d_Kn_copyFrom_1 rfl rfl) ?_
  refine cr_cons (cr_getf_ok (C := R_Kn) (T := T_Kn) (N := 4) hx hb (k_Kn Z hU args) (fun _ h => h) hown hK rfl (by decide) (cr_w Z w_70 rfl hU args) (fun _ h => h) d_Kn_copyFrom_2 rfl) ?_
  refine cr_cons (cr_putf_ok (C := R_Kn) (T := T_Kn) (N := 4) tt_Kn hx hb (k_Kn Z hU args) (fun _ h => h) ty_Kn nm_Kn hown hK rfl (by decide) (Or.inl (cr_w Z w_70 rfl hU args)) (fun _ h => h) rfl (by decide +kernel) d_Kn_copyFrom_5 rfl) ?_
  refine cr_cons (cr_aload_n_ok hx hb d_Kn_copyFrom_8 rfl rfl) ?_
  refine cr_cons (cr_aload_n_ok hx hb d_Kn_copyFrom_9 rfl rfl) ?_
  refine cr_cons (cr_getf_ok (C := R_Kn) (T := T_Kn) (N := 4) hx hb (k_Kn Z hU args) (fun _ h => h) hown hK rfl (by decide) (cr_w Z w_72 rfl hU args) (fun _ h => h) d_Kn_copyFrom_10 rfl) ?_
  refine cr_cons (cr_putf_ok (C := R_Kn) (T := T_Kn) (N := 4) tt_Kn hx hb (k_Kn Z hU args) (fun _ h => h) ty_Kn nm_Kn hown hK rfl (by decide) (Or.inl (cr_w Z w_72 rfl hU args)) (fun _ h => h) rfl (by decide +kernel) d_Kn_copyFrom_13 rfl) ?_
  refine cr_cons (cr_aload_n_ok hx hb d_Kn_copyFrom_16 rfl rfl) ?_
  refine cr_cons (cr_getf_ok (C := R_Kn) (T := T_Kn) (N := 4) hx hb (k_Kn Z hU args) (fun _ h => h) hown hK rfl (by decide) (cr_w Z w_74 rfl hU args) (fun _ h => h) d_Kn_copyFrom_17 rfl) ?_
  refine cr_cons (cr_iconst_ok hx hb d_Kn_copyFrom_20 (by decide) rfl) ?_
  refine cr_cons (cr_aload_n_ok hx hb d_Kn_copyFrom_21 rfl rfl) ?_
  refine cr_cons (cr_getf_ok (C := R_Kn) (T := T_Kn) (N := 4) hx hb (k_Kn Z hU args) (fun _ h => h) hown hK rfl (by decide) (cr_w Z w_74 rfl hU args) (fun _ h => h) d_Kn_copyFrom_22 rfl) ?_
  refine cr_cons (cr_iconst_ok hx hb d_Kn_copyFrom_25 (by decide) rfl) ?_
  refine cr_cons (cr_bipush_ok hx hb d_Kn_copyFrom_26 (by decide) rfl) ?_
  refine cr_cons (cr_copyi_ok (t0 := 0) hx hb hml hown hK Z hU hR rfl (cr_w Z w_674 rfl hU args) d_Kn_copyFrom_28 rfl) ?_
  refine cr_cons (cr_aload_n_ok hx hb d_Kn_copyFrom_31 rfl rfl) ?_
  refine cr_cons (cr_getf_ok (C := R_Kn) (T := T_Kn) (N := 4) hx hb (k_Kn Z hU args) (fun _ h => h) hown hK rfl (by decide) (cr_w Z w_76 rfl hU args) (fun _ h => h) d_Kn_copyFrom_32 rfl) ?_
  refine cr_cons (cr_iconst_ok hx hb d_Kn_copyFrom_35 (by decide) rfl) ?_
  refine cr_cons (cr_aload_n_ok hx hb d_Kn_copyFrom_36 rfl rfl) ?_
  refine cr_cons (cr_getf_ok (C := R_Kn) (T := T_Kn) (N := 4) hx hb (k_Kn Z hU args) (fun _ h => h) hown hK rfl (by decide) (cr_w Z w_76 rfl hU args) (fun _ h => h) d_Kn_copyFrom_37 rfl) ?_
  refine cr_cons (cr_iconst_ok hx hb d_Kn_copyFrom_40 (by decide) rfl) ?_
  refine cr_cons (cr_bipush_ok hx hb d_Kn_copyFrom_41 (by decide) rfl) ?_
  refine cr_cons (cr_copyi_ok (t0 := 0) hx hb hml hown hK Z hU hR rfl (cr_w Z w_674 rfl hU args) d_Kn_copyFrom_43 rfl) ?_
  refine cr_cons (cr_vret_ok hx hb hr hlk d_Kn_copyFrom_46) ?_
  exact cr_nil
theorem s_Kn_copyFrom {p : Program} {l : Launch} {e : Env} {R : Room} {s : State} {m : MethodId} {args : Array Value} {below : List Frame} {meth : Method} {c : Code} {s0 : State} {D : va_G} {ca : Nat → ClassId} {e0 d mc ms : Nat} {Q : cr_Q} (hl : l.flags = flags0) (Z : cr_Z0 s0 D ca e0) (C : cr_C p R s m meth c (cr_W0 s0) s0.heap.size y_Kn_copyFrom c_Kn_copyFrom 2 (Option.none : Option FieldType) d mc ms) (hem : c.exceptionTable.toList = []) : ∀ x ∈ t_Kn_copyFrom l s0 D ca e0 d mc ms, cr_Snd p l e R s m args below meth c s0.heap.size mc ms Q x.1 x.2 := s_Kn_copyFrom_0 hl Z C hem
theorem d_Kn_knowsCard_0 : decode c_Kn_knowsCard 0 = .ok (.iload_n 1, 1) := by decide +kernel
theorem d_Kn_knowsCard_1 : decode c_Kn_knowsCard 1 = .ok (.aload_n 0, 1) := by decide +kernel
theorem d_Kn_knowsCard_2 : decode c_Kn_knowsCard 2 = .ok (.getfield 9, 3) := by decide +kernel
theorem d_Kn_knowsCard_5 : decode c_Kn_knowsCard 5 = .ok (.if_icmp .ge 7, 3) := by decide +kernel
theorem d_Kn_knowsCard_8 : decode c_Kn_knowsCard 8 = .ok (.iconst 1, 1) := by decide +kernel
theorem d_Kn_knowsCard_9 : decode c_Kn_knowsCard 9 = .ok (.goto 4, 3) := by decide +kernel
theorem d_Kn_knowsCard_12 : decode c_Kn_knowsCard 12 = .ok (.iconst 0, 1) := by decide +kernel
theorem d_Kn_knowsCard_13 : decode c_Kn_knowsCard 13 = .ok (.ireturn, 1) := by decide +kernel
def t_Kn_knowsCard_0 (l : Launch) (s0 : State) (D : va_G) (ca : Nat → ClassId) (e0 d mc ms : Nat) : List (Nat × cr_T) := [(0, cr_iload 1 1),
  (1, cr_aload 0 2),
  (2, cr_getf D kc 4 0 5),
  (5, cr_icge 12 8),
  (8, cr_push (.int 1) 9),
  (9, cr_goto 13),
  (12, cr_push (.int 0) 13),
  (13, cr_zret mc ms .boolean)]
def t_Kn_knowsCard (l : Launch) (s0 : State) (D : va_G) (ca : Nat → ClassId) (e0 d mc ms : Nat) : List (Nat × cr_T) := t_Kn_knowsCard_0 l s0 D ca e0 d mc ms
set_option maxHeartbeats 4000000 in
set_option maxRecDepth 20000 in
theorem s_Kn_knowsCard_0 {p : Program} {l : Launch} {e : Env} {R : Room} {s : State} {m : MethodId} {args : Array Value} {below : List Frame} {meth : Method} {c : Code} {s0 : State} {D : va_G} {ca : Nat → ClassId} {e0 d mc ms : Nat} {Q : cr_Q} (hl : l.flags = flags0) (Z : cr_Z0 s0 D ca e0) (C : cr_C p R s m meth c (cr_W0 s0) s0.heap.size y_Kn_knowsCard c_Kn_knowsCard 2 (Option.some FieldType.boolean) d mc ms) (hem : c.exceptionTable.toList = []) : ∀ x ∈ t_Kn_knowsCard_0 l s0 D ca e0 d mc ms, cr_Snd p l e R s m args below meth c s0.heap.size mc ms Q x.1 x.2 := by
  obtain ⟨hx, hb, hml, hown, hr, hlk, hnm, hU, hlo, hR⟩ := C
  have hK := cr_Z0K Z hU
  have hRc : R.cells = mc := by rw [hR]; rfl
  have hRs : R.slots = ms := by rw [hR]; rfl
  unfold t_Kn_knowsCard_0
  refine cr_cons (cr_iload_n_ok hx hb d_Kn_knowsCard_0 rfl rfl) ?_
  refine cr_cons (cr_aload_n_ok hx hb d_Kn_knowsCard_1 rfl rfl) ?_
  refine cr_cons (cr_getf_ok (C := R_Kn) (T := T_Kn) (N := 4) hx hb (k_Kn Z hU args) (fun _ h => h) hown hK rfl (by decide) (cr_w Z w_70 rfl hU args) (fun _ h => h) d_Kn_knowsCard_2 rfl) ?_
  refine cr_cons (cr_icge_ok hx hb d_Kn_knowsCard_5 (by decide) rfl) ?_
  refine cr_cons (cr_iconst_ok hx hb d_Kn_knowsCard_8 (by decide) rfl) ?_
  refine cr_cons (cr_goto_ok hx hb d_Kn_knowsCard_9 (by decide)) ?_
  refine cr_cons (cr_iconst_ok hx hb d_Kn_knowsCard_12 (by decide) rfl) ?_
  refine cr_cons (cr_zret_ok hx hb hr hlk d_Kn_knowsCard_13) ?_
  exact cr_nil
theorem s_Kn_knowsCard {p : Program} {l : Launch} {e : Env} {R : Room} {s : State} {m : MethodId} {args : Array Value} {below : List Frame} {meth : Method} {c : Code} {s0 : State} {D : va_G} {ca : Nat → ClassId} {e0 d mc ms : Nat} {Q : cr_Q} (hl : l.flags = flags0) (Z : cr_Z0 s0 D ca e0) (C : cr_C p R s m meth c (cr_W0 s0) s0.heap.size y_Kn_knowsCard c_Kn_knowsCard 2 (Option.some FieldType.boolean) d mc ms) (hem : c.exceptionTable.toList = []) : ∀ x ∈ t_Kn_knowsCard l s0 D ca e0 d mc ms, cr_Snd p l e R s m args below meth c s0.heap.size mc ms Q x.1 x.2 := s_Kn_knowsCard_0 hl Z C hem
theorem d_Kn_isLost_0 : decode c_Kn_isLost 0 = .ok (.aload_n 0, 1) := by decide +kernel
theorem d_Kn_isLost_1 : decode c_Kn_isLost 1 = .ok (.getfield 18, 3) := by decide +kernel
theorem d_Kn_isLost_4 : decode c_Kn_isLost 4 = .ok (.iload_n 1, 1) := by decide +kernel
theorem d_Kn_isLost_5 : decode c_Kn_isLost 5 = .ok (.iaload, 1) := by decide +kernel
theorem d_Kn_isLost_6 : decode c_Kn_isLost 6 = .ok (.iload_n 2, 1) := by decide +kernel
theorem d_Kn_isLost_7 : decode c_Kn_isLost 7 = .ok (.invokestatic 37, 3) := by decide +kernel
theorem d_Kn_isLost_10 : decode c_Kn_isLost 10 = .ok (.ireturn, 1) := by decide +kernel
def t_Kn_isLost_0 (l : Launch) (s0 : State) (D : va_G) (ca : Nat → ClassId) (e0 d mc ms : Nat) : List (Nat × cr_T) := [(0, cr_aload 0 1),
  (1, cr_getf D kc 4 2 4),
  (4, cr_iload 1 5),
  (5, cr_iald D kc (ca 0) 6),
  (6, cr_iload 2 7),
  (7, cr_calS l (cr_W0 s0) s0.heap.size y_Kn_isFrom cw_Kn_isFrom d mc ms 2 3 10),
  (10, cr_zret mc ms .boolean)]
def t_Kn_isLost (l : Launch) (s0 : State) (D : va_G) (ca : Nat → ClassId) (e0 d mc ms : Nat) : List (Nat × cr_T) := t_Kn_isLost_0 l s0 D ca e0 d mc ms
set_option maxHeartbeats 4000000 in
set_option maxRecDepth 20000 in
theorem s_Kn_isLost_0 {p : Program} {l : Launch} {e : Env} {R : Room} {s : State} {m : MethodId} {args : Array Value} {below : List Frame} {meth : Method} {c : Code} {s0 : State} {D : va_G} {ca : Nat → ClassId} {e0 d mc ms : Nat} {Q : cr_Q} (hl : l.flags = flags0) (Z : cr_Z0 s0 D ca e0) (C : cr_C p R s m meth c (cr_W0 s0) s0.heap.size y_Kn_isLost c_Kn_isLost 3 (Option.some FieldType.boolean) d mc ms) (hem : c.exceptionTable.toList = []) : ∀ x ∈ t_Kn_isLost_0 l s0 D ca e0 d mc ms, cr_Snd p l e R s m args below meth c s0.heap.size mc ms Q x.1 x.2 := by
  obtain ⟨hx, hb, hml, hown, hr, hlk, hnm, hU, hlo, hR⟩ := C
  have hK := cr_Z0K Z hU
  have hRc : R.cells = mc := by rw [hR]; rfl
  have hRs : R.slots = ms := by rw [hR]; rfl
  unfold t_Kn_isLost_0
  refine cr_cons (cr_aload_n_ok hx hb d_Kn_isLost_0 rfl rfl) ?_
  refine cr_cons (cr_getf_ok (C := R_Kn) (T := T_Kn) (N := 4) hx hb (k_Kn Z hU args) (fun _ h => h) hown hK rfl (by decide) (cr_w Z w_74 rfl hU args) (fun _ h => h) d_Kn_isLost_1 rfl) ?_
  refine cr_cons (cr_iload_n_ok hx hb d_Kn_isLost_4 rfl rfl) ?_
  refine cr_cons (cr_iald_ok (t0 := 0) hx hb hK rfl d_Kn_isLost_5 rfl) ?_
  refine cr_cons (cr_iload_n_ok hx hb d_Kn_isLost_6 rfl rfl) ?_
  refine cr_cons (cr_calS_ok hx hb hml hown hlk hU hlo hR (cr_W0_st s0) (by rw [hem]; exact fun _ h => absurd h List.not_mem_nil) (u_Kn_isFrom Z) (Or.inl (cr_w Z w_695 rfl hU args)) (cr_w Z w_696 rfl hU args) (by decide) (by decide +kernel) (by decide) d_Kn_isLost_7 rfl) ?_
  refine cr_cons (cr_zret_ok hx hb hr hlk d_Kn_isLost_10) ?_
  exact cr_nil
theorem s_Kn_isLost {p : Program} {l : Launch} {e : Env} {R : Room} {s : State} {m : MethodId} {args : Array Value} {below : List Frame} {meth : Method} {c : Code} {s0 : State} {D : va_G} {ca : Nat → ClassId} {e0 d mc ms : Nat} {Q : cr_Q} (hl : l.flags = flags0) (Z : cr_Z0 s0 D ca e0) (C : cr_C p R s m meth c (cr_W0 s0) s0.heap.size y_Kn_isLost c_Kn_isLost 3 (Option.some FieldType.boolean) d mc ms) (hem : c.exceptionTable.toList = []) : ∀ x ∈ t_Kn_isLost l s0 D ca e0 d mc ms, cr_Snd p l e R s m args below meth c s0.heap.size mc ms Q x.1 x.2 := s_Kn_isLost_0 hl Z C hem
theorem d_Kn_isFrom_0 : decode c_Kn_isFrom 0 = .ok (.iload_n 0, 1) := by decide +kernel
theorem d_Kn_isFrom_1 : decode c_Kn_isFrom 1 = .ok (.iconst (-1), 1) := by decide +kernel
theorem d_Kn_isFrom_2 : decode c_Kn_isFrom 2 = .ok (.if_icmp .eq 12, 3) := by decide +kernel
theorem d_Kn_isFrom_5 : decode c_Kn_isFrom 5 = .ok (.iload_n 0, 1) := by decide +kernel
theorem d_Kn_isFrom_6 : decode c_Kn_isFrom 6 = .ok (.iload_n 1, 1) := by decide +kernel
theorem d_Kn_isFrom_7 : decode c_Kn_isFrom 7 = .ok (.if_icmp .gt 7, 3) := by decide +kernel
theorem d_Kn_isFrom_10 : decode c_Kn_isFrom 10 = .ok (.iconst 1, 1) := by decide +kernel
theorem d_Kn_isFrom_11 : decode c_Kn_isFrom 11 = .ok (.goto 4, 3) := by decide +kernel
theorem d_Kn_isFrom_14 : decode c_Kn_isFrom 14 = .ok (.iconst 0, 1) := by decide +kernel
theorem d_Kn_isFrom_15 : decode c_Kn_isFrom 15 = .ok (.ireturn, 1) := by decide +kernel
def t_Kn_isFrom_0 (l : Launch) (s0 : State) (D : va_G) (ca : Nat → ClassId) (e0 d mc ms : Nat) : List (Nat × cr_T) := [(0, cr_iload 0 1),
  (1, cr_push (.int (-1)) 2),
  (2, cr_iceq 14 5),
  (5, cr_iload 0 6),
  (6, cr_iload 1 7),
  (7, cr_icgt 14 10),
  (10, cr_push (.int 1) 11),
  (11, cr_goto 15),
  (14, cr_push (.int 0) 15),
  (15, cr_zret mc ms .boolean)]
def t_Kn_isFrom (l : Launch) (s0 : State) (D : va_G) (ca : Nat → ClassId) (e0 d mc ms : Nat) : List (Nat × cr_T) := t_Kn_isFrom_0 l s0 D ca e0 d mc ms
set_option maxHeartbeats 4000000 in
set_option maxRecDepth 20000 in
theorem s_Kn_isFrom_0 {p : Program} {l : Launch} {e : Env} {R : Room} {s : State} {m : MethodId} {args : Array Value} {below : List Frame} {meth : Method} {c : Code} {s0 : State} {D : va_G} {ca : Nat → ClassId} {e0 d mc ms : Nat} {Q : cr_Q} (hl : l.flags = flags0) (Z : cr_Z0 s0 D ca e0) (C : cr_C p R s m meth c (cr_W0 s0) s0.heap.size y_Kn_isFrom c_Kn_isFrom 2 (Option.some FieldType.boolean) d mc ms) (hem : c.exceptionTable.toList = []) : ∀ x ∈ t_Kn_isFrom_0 l s0 D ca e0 d mc ms, cr_Snd p l e R s m args below meth c s0.heap.size mc ms Q x.1 x.2 := by
  obtain ⟨hx, hb, hml, hown, hr, hlk, hnm, hU, hlo, hR⟩ := C
  have hK := cr_Z0K Z hU
  have hRc : R.cells = mc := by rw [hR]; rfl
  have hRs : R.slots = ms := by rw [hR]; rfl
  unfold t_Kn_isFrom_0
  refine cr_cons (cr_iload_n_ok hx hb d_Kn_isFrom_0 rfl rfl) ?_
  refine cr_cons (cr_iconst_ok hx hb d_Kn_isFrom_1 (by decide) rfl) ?_
  refine cr_cons (cr_iceq_ok hx hb d_Kn_isFrom_2 (by decide) rfl) ?_
  refine cr_cons (cr_iload_n_ok hx hb d_Kn_isFrom_5 rfl rfl) ?_
  refine cr_cons (cr_iload_n_ok hx hb d_Kn_isFrom_6 rfl rfl) ?_
  refine cr_cons (cr_icgt_ok hx hb d_Kn_isFrom_7 (by decide) rfl) ?_
  refine cr_cons (cr_iconst_ok hx hb d_Kn_isFrom_10 (by decide) rfl) ?_
  refine cr_cons (cr_goto_ok hx hb d_Kn_isFrom_11 (by decide)) ?_
  refine cr_cons (cr_iconst_ok hx hb d_Kn_isFrom_14 (by decide) rfl) ?_
  refine cr_cons (cr_zret_ok hx hb hr hlk d_Kn_isFrom_15) ?_
  exact cr_nil
theorem s_Kn_isFrom {p : Program} {l : Launch} {e : Env} {R : Room} {s : State} {m : MethodId} {args : Array Value} {below : List Frame} {meth : Method} {c : Code} {s0 : State} {D : va_G} {ca : Nat → ClassId} {e0 d mc ms : Nat} {Q : cr_Q} (hl : l.flags = flags0) (Z : cr_Z0 s0 D ca e0) (C : cr_C p R s m meth c (cr_W0 s0) s0.heap.size y_Kn_isFrom c_Kn_isFrom 2 (Option.some FieldType.boolean) d mc ms) (hem : c.exceptionTable.toList = []) : ∀ x ∈ t_Kn_isFrom l s0 D ca e0 d mc ms, cr_Snd p l e R s m args below meth c s0.heap.size mc ms Q x.1 x.2 := s_Kn_isFrom_0 hl Z C hem
theorem d_Kn_isEnded_0 : decode c_Kn_isEnded 0 = .ok (.aload_n 0, 1) := by decide +kernel
theorem d_Kn_isEnded_1 : decode c_Kn_isEnded 1 = .ok (.getfield 22, 3) := by decide +kernel
theorem d_Kn_isEnded_4 : decode c_Kn_isEnded 4 = .ok (.iload_n 1, 1) := by decide +kernel
theorem d_Kn_isEnded_5 : decode c_Kn_isEnded 5 = .ok (.iaload, 1) := by decide +kernel
theorem d_Kn_isEnded_6 : decode c_Kn_isEnded 6 = .ok (.iload_n 2, 1) := by decide +kernel
theorem d_Kn_isEnded_7 : decode c_Kn_isEnded 7 = .ok (.invokestatic 37, 3) := by decide +kernel
theorem d_Kn_isEnded_10 : decode c_Kn_isEnded 10 = .ok (.ireturn, 1) := by decide +kernel
def t_Kn_isEnded_0 (l : Launch) (s0 : State) (D : va_G) (ca : Nat → ClassId) (e0 d mc ms : Nat) : List (Nat × cr_T) := [(0, cr_aload 0 1),
  (1, cr_getf D kc 4 3 4),
  (4, cr_iload 1 5),
  (5, cr_iald D kc (ca 0) 6),
  (6, cr_iload 2 7),
  (7, cr_calS l (cr_W0 s0) s0.heap.size y_Kn_isFrom cw_Kn_isFrom d mc ms 2 3 10),
  (10, cr_zret mc ms .boolean)]
def t_Kn_isEnded (l : Launch) (s0 : State) (D : va_G) (ca : Nat → ClassId) (e0 d mc ms : Nat) : List (Nat × cr_T) := t_Kn_isEnded_0 l s0 D ca e0 d mc ms
set_option maxHeartbeats 4000000 in
set_option maxRecDepth 20000 in
theorem s_Kn_isEnded_0 {p : Program} {l : Launch} {e : Env} {R : Room} {s : State} {m : MethodId} {args : Array Value} {below : List Frame} {meth : Method} {c : Code} {s0 : State} {D : va_G} {ca : Nat → ClassId} {e0 d mc ms : Nat} {Q : cr_Q} (hl : l.flags = flags0) (Z : cr_Z0 s0 D ca e0) (C : cr_C p R s m meth c (cr_W0 s0) s0.heap.size y_Kn_isEnded c_Kn_isEnded 3 (Option.some FieldType.boolean) d mc ms) (hem : c.exceptionTable.toList = []) : ∀ x ∈ t_Kn_isEnded_0 l s0 D ca e0 d mc ms, cr_Snd p l e R s m args below meth c s0.heap.size mc ms Q x.1 x.2 := by
  obtain ⟨hx, hb, hml, hown, hr, hlk, hnm, hU, hlo, hR⟩ := C
  have hK := cr_Z0K Z hU
  have hRc : R.cells = mc := by rw [hR]; rfl
  have hRs : R.slots = ms := by rw [hR]; rfl
  unfold t_Kn_isEnded_0
  refine cr_cons (cr_aload_n_ok hx hb d_Kn_isEnded_0 rfl rfl) ?_
  refine cr_cons (cr_getf_ok (C := R_Kn) (T := T_Kn) (N := 4) hx hb (k_Kn Z hU args) (fun _ h => h) hown hK rfl (by decide) (cr_w Z w_76 rfl hU args) (fun _ h => h) d_Kn_isEnded_1 rfl) ?_
  refine cr_cons (cr_iload_n_ok hx hb d_Kn_isEnded_4 rfl rfl) ?_
  refine cr_cons (cr_iald_ok (t0 := 0) hx hb hK rfl d_Kn_isEnded_5 rfl) ?_
  refine cr_cons (cr_iload_n_ok hx hb d_Kn_isEnded_6 rfl rfl) ?_
  refine cr_cons (cr_calS_ok hx hb hml hown hlk hU hlo hR (cr_W0_st s0) (by rw [hem]; exact fun _ h => absurd h List.not_mem_nil) (u_Kn_isFrom Z) (Or.inl (cr_w Z w_695 rfl hU args)) (cr_w Z w_696 rfl hU args) (by decide) (by decide +kernel) (by decide) d_Kn_isEnded_7 rfl) ?_
  refine cr_cons (cr_zret_ok hx hb hr hlk d_Kn_isEnded_10) ?_
  exact cr_nil
theorem s_Kn_isEnded {p : Program} {l : Launch} {e : Env} {R : Room} {s : State} {m : MethodId} {args : Array Value} {below : List Frame} {meth : Method} {c : Code} {s0 : State} {D : va_G} {ca : Nat → ClassId} {e0 d mc ms : Nat} {Q : cr_Q} (hl : l.flags = flags0) (Z : cr_Z0 s0 D ca e0) (C : cr_C p R s m meth c (cr_W0 s0) s0.heap.size y_Kn_isEnded c_Kn_isEnded 3 (Option.some FieldType.boolean) d mc ms) (hem : c.exceptionTable.toList = []) : ∀ x ∈ t_Kn_isEnded l s0 D ca e0 d mc ms, cr_Snd p l e R s m args below meth c s0.heap.size mc ms Q x.1 x.2 := s_Kn_isEnded_0 hl Z C hem
theorem d_Fi_add_0 : decode c_Fi_add 0 = .ok (.aload_n 0, 1) := by decide +kernel
theorem d_Fi_add_1 : decode c_Fi_add 1 = .ok (.dup, 1) := by decide +kernel
theorem d_Fi_add_2 : decode c_Fi_add 2 = .ok (.getfield 15, 3) := by decide +kernel
theorem d_Fi_add_5 : decode c_Fi_add 5 = .ok (.iconst 1, 1) := by decide +kernel
theorem d_Fi_add_6 : decode c_Fi_add 6 = .ok (.iadd, 1) := by decide +kernel
theorem d_Fi_add_7 : decode c_Fi_add 7 = .ok (.putfield 15, 3) := by decide +kernel
theorem d_Fi_add_10 : decode c_Fi_add 10 = .ok (.aload_n 0, 1) := by decide +kernel
theorem d_Fi_add_11 : decode c_Fi_add 11 = .ok (.getfield 19, 3) := by decide +kernel
theorem d_Fi_add_14 : decode c_Fi_add 14 = .ok (.bipush 100, 2) := by decide +kernel
theorem d_Fi_add_16 : decode c_Fi_add 16 = .ok (.if_icmp .lt 4, 3) := by decide +kernel
theorem d_Fi_add_19 : decode c_Fi_add 19 = .ok (.return_, 1) := by decide +kernel
theorem d_Fi_add_20 : decode c_Fi_add 20 = .ok (.aload_n 0, 1) := by decide +kernel
theorem d_Fi_add_21 : decode c_Fi_add 21 = .ok (.getfield 19, 3) := by decide +kernel
theorem d_Fi_add_24 : decode c_Fi_add 24 = .ok (.iconst 4, 1) := by decide +kernel
theorem d_Fi_add_25 : decode c_Fi_add 25 = .ok (.imul, 1) := by decide +kernel
theorem d_Fi_add_26 : decode c_Fi_add 26 = .ok (.istore 5, 2) := by decide +kernel
theorem d_Fi_add_28 : decode c_Fi_add 28 = .ok (.aload_n 0, 1) := by decide +kernel
theorem d_Fi_add_29 : decode c_Fi_add 29 = .ok (.getfield 11, 3) := by decide +kernel
theorem d_Fi_add_32 : decode c_Fi_add 32 = .ok (.iload 5, 2) := by decide +kernel
theorem d_Fi_add_34 : decode c_Fi_add 34 = .ok (.iload_n 1, 1) := by decide +kernel
theorem d_Fi_add_35 : decode c_Fi_add 35 = .ok (.iastore, 1) := by decide +kernel
theorem d_Fi_add_36 : decode c_Fi_add 36 = .ok (.aload_n 0, 1) := by decide +kernel
theorem d_Fi_add_37 : decode c_Fi_add 37 = .ok (.getfield 11, 3) := by decide +kernel
theorem d_Fi_add_40 : decode c_Fi_add 40 = .ok (.iload 5, 2) := by decide +kernel
theorem d_Fi_add_42 : decode c_Fi_add 42 = .ok (.iconst 1, 1) := by decide +kernel
theorem d_Fi_add_43 : decode c_Fi_add 43 = .ok (.iadd, 1) := by decide +kernel
theorem d_Fi_add_44 : decode c_Fi_add 44 = .ok (.iload_n 2, 1) := by decide +kernel
theorem d_Fi_add_45 : decode c_Fi_add 45 = .ok (.iastore, 1) := by decide +kernel
theorem d_Fi_add_46 : decode c_Fi_add 46 = .ok (.aload_n 0, 1) := by decide +kernel
theorem d_Fi_add_47 : decode c_Fi_add 47 = .ok (.getfield 11, 3) := by decide +kernel
theorem d_Fi_add_50 : decode c_Fi_add 50 = .ok (.iload 5, 2) := by decide +kernel
theorem d_Fi_add_52 : decode c_Fi_add 52 = .ok (.iconst 2, 1) := by decide +kernel
theorem d_Fi_add_53 : decode c_Fi_add 53 = .ok (.iadd, 1) := by decide +kernel
theorem d_Fi_add_54 : decode c_Fi_add 54 = .ok (.iload_n 3, 1) := by decide +kernel
theorem d_Fi_add_55 : decode c_Fi_add 55 = .ok (.iastore, 1) := by decide +kernel
theorem d_Fi_add_56 : decode c_Fi_add 56 = .ok (.aload_n 0, 1) := by decide +kernel
theorem d_Fi_add_57 : decode c_Fi_add 57 = .ok (.getfield 11, 3) := by decide +kernel
theorem d_Fi_add_60 : decode c_Fi_add 60 = .ok (.iload 5, 2) := by decide +kernel
theorem d_Fi_add_62 : decode c_Fi_add 62 = .ok (.iconst 3, 1) := by decide +kernel
theorem d_Fi_add_63 : decode c_Fi_add 63 = .ok (.iadd, 1) := by decide +kernel
theorem d_Fi_add_64 : decode c_Fi_add 64 = .ok (.iload 4, 2) := by decide +kernel
theorem d_Fi_add_66 : decode c_Fi_add 66 = .ok (.iastore, 1) := by decide +kernel
theorem d_Fi_add_67 : decode c_Fi_add 67 = .ok (.aload_n 0, 1) := by decide +kernel
theorem d_Fi_add_68 : decode c_Fi_add 68 = .ok (.dup, 1) := by decide +kernel
theorem d_Fi_add_69 : decode c_Fi_add 69 = .ok (.getfield 19, 3) := by decide +kernel
theorem d_Fi_add_72 : decode c_Fi_add 72 = .ok (.iconst 1, 1) := by decide +kernel
theorem d_Fi_add_73 : decode c_Fi_add 73 = .ok (.iadd, 1) := by decide +kernel
theorem d_Fi_add_74 : decode c_Fi_add 74 = .ok (.putfield 19, 3) := by decide +kernel
theorem d_Fi_add_77 : decode c_Fi_add 77 = .ok (.return_, 1) := by decide +kernel
def t_Fi_add_0 (l : Launch) (s0 : State) (D : va_G) (ca : Nat → ClassId) (e0 d mc ms : Nat) : List (Nat × cr_T) := [(0, cr_aload 0 1),
  (1, cr_dup 2),
  (2, cr_getf D kc 3 1 5),
  (5, cr_push (.int 1) 6),
  (6, cr_iadd 7),
  (7, cr_putf D kc s0.heap.size 3 1 .int 10),
  (10, cr_aload 0 11),
  (11, cr_getf D kc 3 2 14),
  (14, cr_push (.int 100) 16),
  (16, cr_iclt 20 19),
  (19, cr_vret mc ms),
  (20, cr_aload 0 21),
  (21, cr_getf D kc 3 2 24),
  (24, cr_push (.int 4) 25),
  (25, cr_imul 26),
  (26, cr_istore 5 28),
  (28, cr_aload 0 29),
  (29, cr_getf D kc 3 0 32),
  (32, cr_iload 5 34),
  (34, cr_iload 1 35),
  (35, cr_iast D kc s0.heap.size (ca 0) 36),
  (36, cr_aload 0 37),
  (37, cr_getf D kc 3 0 40),
  (40, cr_iload 5 42),
  (42, cr_push (.int 1) 43),
  (43, cr_iadd 44),
  (44, cr_iload 2 45),
  (45, cr_iast D kc s0.heap.size (ca 0) 46),
  (46, cr_aload 0 47),
  (47, cr_getf D kc 3 0 50)]
def t_Fi_add_1 (l : Launch) (s0 : State) (D : va_G) (ca : Nat → ClassId) (e0 d mc ms : Nat) : List (Nat × cr_T) := [(50, cr_iload 5 52),
  (52, cr_push (.int 2) 53),
  (53, cr_iadd 54),
  (54, cr_iload 3 55),
  (55, cr_iast D kc s0.heap.size (ca 0) 56),
  (56, cr_aload 0 57),
  (57, cr_getf D kc 3 0 60),
  (60, cr_iload 5 62),
  (62, cr_push (.int 3) 63),
  (63, cr_iadd 64),
  (64, cr_iload 4 66),
  (66, cr_iast D kc s0.heap.size (ca 0) 67),
  (67, cr_aload 0 68),
  (68, cr_dup 69),
  (69, cr_getf D kc 3 2 72),
  (72, cr_push (.int 1) 73),
  (73, cr_iadd 74),
  (74, cr_putf D kc s0.heap.size 3 2 .int 77),
  (77, cr_vret mc ms)]
def t_Fi_add (l : Launch) (s0 : State) (D : va_G) (ca : Nat → ClassId) (e0 d mc ms : Nat) : List (Nat × cr_T) := t_Fi_add_0 l s0 D ca e0 d mc ms ++ (t_Fi_add_1 l s0 D ca e0 d mc ms)
set_option maxHeartbeats 4000000 in
set_option maxRecDepth 20000 in
theorem s_Fi_add_0 {p : Program} {l : Launch} {e : Env} {R : Room} {s : State} {m : MethodId} {args : Array Value} {below : List Frame} {meth : Method} {c : Code} {s0 : State} {D : va_G} {ca : Nat → ClassId} {e0 d mc ms : Nat} {Q : cr_Q} (hl : l.flags = flags0) (Z : cr_Z0 s0 D ca e0) (C : cr_C p R s m meth c (cr_W0 s0) s0.heap.size y_Fi_add c_Fi_add 6 (Option.none : Option FieldType) d mc ms) (hem : c.exceptionTable.toList = []) : ∀ x ∈ t_Fi_add_0 l s0 D ca e0 d mc ms, cr_Snd p l e R s m args below meth c s0.heap.size mc ms Q x.1 x.2 := by
  obtain ⟨hx, hb, hml, hown, hr, hlk, hnm, hU, hlo, hR⟩ := C
  have hK := cr_Z0K Z hU
  have hRc : R.cells = mc := by rw [hR]; rfl
  have hRs : R.slots = ms := by rw [hR]; rfl
  unfold t_Fi_add_0
  refine cr_cons (cr_aload_n_ok hx hb d_Fi_add_0 rfl rfl) ?_
  refine cr_cons (cr_dup_ok hx hb d_Fi_add_1 rfl) ?_
  refine cr_cons (cr_getf_ok (C := R_Fi) (T := T_Fi) (N := 3) hx hb (k_Fi Z hU args) (fun _ h => h) hown hK rfl (by decide) (cr_w Z w_96 rfl hU args) (fun _ h => h) d_Fi_add_2 rfl) ?_
  refine cr_cons (cr_iconst_ok hx hb d_Fi_add_5 (by decide) rfl) ?_
  refine cr_cons (cr_iadd_ok hx hb d_Fi_add_6 rfl) ?_
  refine cr_cons (cr_putf_ok (C := R_Fi) (T := T_Fi) (N := 3) tt_Fi hx hb (k_Fi Z hU args) (fun _ h => h) ty_Fi nm_Fi hown hK rfl (by decide) (Or.inl (cr_w Z w_96 rfl hU args)) (fun _ h => h) rfl (by decide +kernel) d_Fi_add_7 rfl) ?_
  refine cr_cons (cr_aload_n_ok hx hb d_Fi_add_10 rfl rfl) ?_
  refine cr_cons (cr_getf_ok (C := R_Fi) (T := T_Fi) (N := 3) hx hb (k_Fi Z hU args) (fun _ h => h) hown hK rfl (by decide) (cr_w Z w_98 rfl hU args) (fun _ h => h) d_Fi_add_11 rfl) ?_
  refine cr_cons (cr_bipush_ok hx hb d_Fi_add_14 (by decide) rfl) ?_
  refine cr_cons (cr_iclt_ok hx hb d_Fi_add_16 (by decide) rfl) ?_
  refine cr_cons (cr_vret_ok hx hb hr hlk d_Fi_add_19) ?_
  refine cr_cons (cr_aload_n_ok hx hb d_Fi_add_20 rfl rfl) ?_
  refine cr_cons (cr_getf_ok (C := R_Fi) (T := T_Fi) (N := 3) hx hb (k_Fi Z hU args) (fun _ h => h) hown hK rfl (by decide) (cr_w Z w_98 rfl hU args) (fun _ h => h) d_Fi_add_21 rfl) ?_
  refine cr_cons (cr_iconst_ok hx hb d_Fi_add_24 (by decide) rfl) ?_
  refine cr_cons (cr_imul_ok hx hb d_Fi_add_25 rfl) ?_
  refine cr_cons (cr_istore_ok hx hb d_Fi_add_26 rfl) ?_
  refine cr_cons (cr_aload_n_ok hx hb d_Fi_add_28 rfl rfl) ?_
  refine cr_cons (cr_getf_ok (C := R_Fi) (T := T_Fi) (N := 3) hx hb (k_Fi Z hU args) (fun _ h => h) hown hK rfl (by decide) (cr_w Z w_94 rfl hU args) (fun _ h => h) d_Fi_add_29 rfl) ?_
  refine cr_cons (cr_iload_ok hx hb d_Fi_add_32 rfl) ?_
  refine cr_cons (cr_iload_n_ok hx hb d_Fi_add_34 rfl rfl) ?_
  refine cr_cons (cr_iast_ok (t0 := 0) hx hb hK rfl d_Fi_add_35 rfl) ?_
  refine cr_cons (cr_aload_n_ok hx hb d_Fi_add_36 rfl rfl) ?_
  refine cr_cons (cr_getf_ok (C := R_Fi) (T := T_Fi) (N := 3) hx hb (k_Fi Z hU args) (fun _ h => h) hown hK rfl (by decide) (cr_w Z w_94 rfl hU args) (fun _ h => h) d_Fi_add_37 rfl) ?_
  refine cr_cons (cr_iload_ok hx hb d_Fi_add_40 rfl) ?_
  refine cr_cons (cr_iconst_ok hx hb d_Fi_add_42 (by decide) rfl) ?_
  refine cr_cons (cr_iadd_ok hx hb d_Fi_add_43 rfl) ?_
  refine cr_cons (cr_iload_n_ok hx hb d_Fi_add_44 rfl rfl) ?_
  refine cr_cons (cr_iast_ok (t0 := 0) hx hb hK rfl d_Fi_add_45 rfl) ?_
  refine cr_cons (cr_aload_n_ok hx hb d_Fi_add_46 rfl rfl) ?_
  refine cr_cons (cr_getf_ok (C := R_Fi) (T := T_Fi) (N := 3) hx hb (k_Fi Z hU args) (fun _ h => h) hown hK rfl (by decide) (cr_w Z w_94 rfl hU args) (fun _ h => h) d_Fi_add_47 rfl) ?_
  exact cr_nil
set_option maxHeartbeats 4000000 in
set_option maxRecDepth 20000 in
theorem s_Fi_add_1 {p : Program} {l : Launch} {e : Env} {R : Room} {s : State} {m : MethodId} {args : Array Value} {below : List Frame} {meth : Method} {c : Code} {s0 : State} {D : va_G} {ca : Nat → ClassId} {e0 d mc ms : Nat} {Q : cr_Q} (hl : l.flags = flags0) (Z : cr_Z0 s0 D ca e0) (C : cr_C p R s m meth c (cr_W0 s0) s0.heap.size y_Fi_add c_Fi_add 6 (Option.none : Option FieldType) d mc ms) (hem : c.exceptionTable.toList = []) : ∀ x ∈ t_Fi_add_1 l s0 D ca e0 d mc ms, cr_Snd p l e R s m args below meth c s0.heap.size mc ms Q x.1 x.2 := by
  obtain ⟨hx, hb, hml, hown, hr, hlk, hnm, hU, hlo, hR⟩ := C
  have hK := cr_Z0K Z hU
  have hRc : R.cells = mc := by rw [hR]; rfl
  have hRs : R.slots = ms := by rw [hR]; rfl
  unfold t_Fi_add_1
  refine cr_cons (cr_iload_ok hx hb d_Fi_add_50 rfl) ?_
  refine cr_cons (cr_iconst_ok hx hb d_Fi_add_52 (by decide) rfl) ?_
  refine cr_cons (cr_iadd_ok hx hb d_Fi_add_53 rfl) ?_
  refine cr_cons (cr_iload_n_ok hx hb d_Fi_add_54 rfl rfl) ?_
  refine cr_cons (cr_iast_ok (t0 := 0) hx hb hK rfl d_Fi_add_55 rfl) ?_
  refine cr_cons (cr_aload_n_ok hx hb d_Fi_add_56 rfl rfl) ?_
  refine cr_cons (cr_getf_ok (C := R_Fi) (T := T_Fi) (N := 3) hx hb (k_Fi Z hU args) (fun _ h => h) hown hK rfl (by decide) (cr_w Z w_94 rfl hU args) (fun _ h => h) d_Fi_add_57 rfl) ?_
  refine cr_cons (cr_iload_ok hx hb d_Fi_add_60 rfl) ?_
  refine cr_cons (cr_iconst_ok hx hb d_Fi_add_62 (by decide) rfl) ?_
  refine cr_cons (cr_iadd_ok hx hb d_Fi_add_63 rfl) ?_
  refine cr_cons (cr_iload_ok hx hb d_Fi_add_64 rfl) ?_
  refine cr_cons (cr_iast_ok (t0 := 0) hx hb hK rfl d_Fi_add_66 rfl) ?_
  refine cr_cons (cr_aload_n_ok hx hb d_Fi_add_67 rfl rfl) ?_
  refine cr_cons (cr_dup_ok hx hb d_Fi_add_68 rfl) ?_
  refine cr_cons (cr_getf_ok (C := R_Fi) (T := T_Fi) (N := 3) hx hb (k_Fi Z hU args) (fun _ h => h) hown hK rfl (by decide) (cr_w Z w_98 rfl hU args) (fun _ h => h) d_Fi_add_69 rfl) ?_
  refine cr_cons (cr_iconst_ok hx hb d_Fi_add_72 (by decide) rfl) ?_
  refine cr_cons (cr_iadd_ok hx hb d_Fi_add_73 rfl) ?_
  refine cr_cons (cr_putf_ok (C := R_Fi) (T := T_Fi) (N := 3) tt_Fi hx hb (k_Fi Z hU args) (fun _ h => h) ty_Fi nm_Fi hown hK rfl (by decide) (Or.inl (cr_w Z w_98 rfl hU args)) (fun _ h => h) rfl (by decide +kernel) d_Fi_add_74 rfl) ?_
  refine cr_cons (cr_vret_ok hx hb hr hlk d_Fi_add_77) ?_
  exact cr_nil
theorem s_Fi_add {p : Program} {l : Launch} {e : Env} {R : Room} {s : State} {m : MethodId} {args : Array Value} {below : List Frame} {meth : Method} {c : Code} {s0 : State} {D : va_G} {ca : Nat → ClassId} {e0 d mc ms : Nat} {Q : cr_Q} (hl : l.flags = flags0) (Z : cr_Z0 s0 D ca e0) (C : cr_C p R s m meth c (cr_W0 s0) s0.heap.size y_Fi_add c_Fi_add 6 (Option.none : Option FieldType) d mc ms) (hem : c.exceptionTable.toList = []) : ∀ x ∈ t_Fi_add l s0 D ca e0 d mc ms, cr_Snd p l e R s m args below meth c s0.heap.size mc ms Q x.1 x.2 := cr_app (s_Fi_add_0 hl Z C hem) (s_Fi_add_1 hl Z C hem)
theorem d_Dr_otherRoom_0 : decode c_Dr_otherRoom 0 = .ok (.aload_n 1, 1) := by decide +kernel
theorem d_Dr_otherRoom_1 : decode c_Dr_otherRoom 1 = .ok (.aload_n 0, 1) := by decide +kernel
theorem d_Dr_otherRoom_2 : decode c_Dr_otherRoom 2 = .ok (.getfield 43, 3) := by decide +kernel
theorem d_Dr_otherRoom_5 : decode c_Dr_otherRoom 5 = .ok (.if_acmp .ne 10, 3) := by decide +kernel
theorem d_Dr_otherRoom_8 : decode c_Dr_otherRoom 8 = .ok (.aload_n 0, 1) := by decide +kernel
theorem d_Dr_otherRoom_9 : decode c_Dr_otherRoom 9 = .ok (.getfield 47, 3) := by decide +kernel
theorem d_Dr_otherRoom_12 : decode c_Dr_otherRoom 12 = .ok (.goto 7, 3) := by decide +kernel
theorem d_Dr_otherRoom_15 : decode c_Dr_otherRoom 15 = .ok (.aload_n 0, 1) := by decide +kernel
theorem d_Dr_otherRoom_16 : decode c_Dr_otherRoom 16 = .ok (.getfield 43, 3) := by decide +kernel
theorem d_Dr_otherRoom_19 : decode c_Dr_otherRoom 19 = .ok (.areturn, 1) := by decide +kernel
def t_Dr_otherRoom_0 (l : Launch) (s0 : State) (D : va_G) (ca : Nat → ClassId) (e0 d mc ms : Nat) : List (Nat × cr_T) := [(0, cr_aload 1 1),
  (1, cr_aload 0 2),
  (2, cr_getf D kc 2 1 5),
  (5, cr_acne 15 8),
  (8, cr_aload 0 9),
  (9, cr_getf D kc 2 2 12),
  (12, cr_goto 19),
  (15, cr_aload 0 16),
  (16, cr_getf D kc 2 1 19),
  (19, cr_aret mc ms)]
def t_Dr_otherRoom (l : Launch) (s0 : State) (D : va_G) (ca : Nat → ClassId) (e0 d mc ms : Nat) : List (Nat × cr_T) := t_Dr_otherRoom_0 l s0 D ca e0 d mc ms
set_option maxHeartbeats 4000000 in
set_option maxRecDepth 20000 in
theorem s_Dr_otherRoom_0 {p : Program} {l : Launch} {e : Env} {R : Room} {s : State} {m : MethodId} {args : Array Value} {below : List Frame} {meth : Method} {c : Code} {s0 : State} {D : va_G} {ca : Nat → ClassId} {e0 d mc ms : Nat} {Q : cr_Q} (hl : l.flags = flags0) (Z : cr_Z0 s0 D ca e0) (C : cr_C p R s m meth c (cr_W0 s0) s0.heap.size y_Dr_otherRoom c_Dr_otherRoom 2 (Option.some (FieldType.object "CardRights$Room")) d mc ms) (hem : c.exceptionTable.toList = []) : ∀ x ∈ t_Dr_otherRoom_0 l s0 D ca e0 d mc ms, cr_Snd p l e R s m args below meth c s0.heap.size mc ms Q x.1 x.2 := by
  obtain ⟨hx, hb, hml, hown, hr, hlk, hnm, hU, hlo, hR⟩ := C
  have hK := cr_Z0K Z hU
  have hRc : R.cells = mc := by rw [hR]; rfl
  have hRs : R.slots = ms := by rw [hR]; rfl
  unfold t_Dr_otherRoom_0
  refine cr_cons (cr_aload_n_ok hx hb d_Dr_otherRoom_0 rfl rfl) ?_
  refine cr_cons (cr_aload_n_ok hx hb d_Dr_otherRoom_1 rfl rfl) ?_
  refine cr_cons (cr_getf_ok (C := R_Dr) (T := T_Dr) (N := 10) hx hb (k_Dr Z hU args) (fun _ h => h) hown hK rfl (by decide) (cr_w Z w_458 rfl hU args) (fun _ h => h) d_Dr_otherRoom_2 rfl) ?_
  refine cr_cons (cr_acne_ok hx hb d_Dr_otherRoom_5 (by decide) rfl) ?_
  refine cr_cons (cr_aload_n_ok hx hb d_Dr_otherRoom_8 rfl rfl) ?_
  refine cr_cons (cr_getf_ok (C := R_Dr) (T := T_Dr) (N := 10) hx hb (k_Dr Z hU args) (fun _ h => h) hown hK rfl (by decide) (cr_w Z w_460 rfl hU args) (fun _ h => h) d_Dr_otherRoom_9 rfl) ?_
  refine cr_cons (cr_goto_ok hx hb d_Dr_otherRoom_12 (by decide)) ?_
  refine cr_cons (cr_aload_n_ok hx hb d_Dr_otherRoom_15 rfl rfl) ?_
  refine cr_cons (cr_getf_ok (C := R_Dr) (T := T_Dr) (N := 10) hx hb (k_Dr Z hU args) (fun _ h => h) hown hK rfl (by decide) (cr_w Z w_458 rfl hU args) (fun _ h => h) d_Dr_otherRoom_16 rfl) ?_
  refine cr_cons (cr_aret_ok hx hb hr (Or.inl ⟨_, rfl⟩) hlk d_Dr_otherRoom_19) ?_
  exact cr_nil
theorem s_Dr_otherRoom {p : Program} {l : Launch} {e : Env} {R : Room} {s : State} {m : MethodId} {args : Array Value} {below : List Frame} {meth : Method} {c : Code} {s0 : State} {D : va_G} {ca : Nat → ClassId} {e0 d mc ms : Nat} {Q : cr_Q} (hl : l.flags = flags0) (Z : cr_Z0 s0 D ca e0) (C : cr_C p R s m meth c (cr_W0 s0) s0.heap.size y_Dr_otherRoom c_Dr_otherRoom 2 (Option.some (FieldType.object "CardRights$Room")) d mc ms) (hem : c.exceptionTable.toList = []) : ∀ x ∈ t_Dr_otherRoom l s0 D ca e0 d mc ms, cr_Snd p l e R s m args below meth c s0.heap.size mc ms Q x.1 x.2 := s_Dr_otherRoom_0 hl Z C hem
theorem d_Us_mark_0 : decode c_Us_mark 0 = .ok (.iload_n 1, 1) := by decide +kernel
theorem d_Us_mark_1 : decode c_Us_mark 1 = .ok (.bipush 10, 2) := by decide +kernel
theorem d_Us_mark_3 : decode c_Us_mark 3 = .ok (.imul, 1) := by decide +kernel
theorem d_Us_mark_4 : decode c_Us_mark 4 = .ok (.iload_n 2, 1) := by decide +kernel
theorem d_Us_mark_5 : decode c_Us_mark 5 = .ok (.iadd, 1) := by decide +kernel
theorem d_Us_mark_6 : decode c_Us_mark 6 = .ok (.sipush 1440, 3) := by decide +kernel
theorem d_Us_mark_9 : decode c_Us_mark 9 = .ok (.imul, 1) := by decide +kernel
theorem d_Us_mark_10 : decode c_Us_mark 10 = .ok (.iload_n 3, 1) := by decide +kernel
theorem d_Us_mark_11 : decode c_Us_mark 11 = .ok (.iadd, 1) := by decide +kernel
theorem d_Us_mark_12 : decode c_Us_mark 12 = .ok (.istore 4, 2) := by decide +kernel
theorem d_Us_mark_14 : decode c_Us_mark 14 = .ok (.lconst 1, 1) := by decide +kernel
theorem d_Us_mark_15 : decode c_Us_mark 15 = .ok (.iload 4, 2) := by decide +kernel
theorem d_Us_mark_17 : decode c_Us_mark 17 = .ok (.bipush 64, 2) := by decide +kernel
theorem d_Us_mark_19 : decode c_Us_mark 19 = .ok (.irem, 1) := by decide +kernel
theorem d_Us_mark_20 : decode c_Us_mark 20 = .ok (.lshl, 1) := by decide +kernel
theorem d_Us_mark_21 : decode c_Us_mark 21 = .ok (.lstore 5, 2) := by decide +kernel
theorem d_Us_mark_23 : decode c_Us_mark 23 = .ok (.aload_n 0, 1) := by decide +kernel
theorem d_Us_mark_24 : decode c_Us_mark 24 = .ok (.getfield 11, 3) := by decide +kernel
theorem d_Us_mark_27 : decode c_Us_mark 27 = .ok (.iload 4, 2) := by decide +kernel
theorem d_Us_mark_29 : decode c_Us_mark 29 = .ok (.bipush 64, 2) := by decide +kernel
theorem d_Us_mark_31 : decode c_Us_mark 31 = .ok (.idiv, 1) := by decide +kernel
theorem d_Us_mark_32 : decode c_Us_mark 32 = .ok (.laload, 1) := by decide +kernel
theorem d_Us_mark_33 : decode c_Us_mark 33 = .ok (.lload 5, 2) := by decide +kernel
theorem d_Us_mark_35 : decode c_Us_mark 35 = .ok (.land, 1) := by decide +kernel
theorem d_Us_mark_36 : decode c_Us_mark 36 = .ok (.lconst 0, 1) := by decide +kernel
theorem d_Us_mark_37 : decode c_Us_mark 37 = .ok (.lcmp, 1) := by decide +kernel
theorem d_Us_mark_38 : decode c_Us_mark 38 = .ok (.ifCond .ne 28, 3) := by decide +kernel
theorem d_Us_mark_41 : decode c_Us_mark 41 = .ok (.aload_n 0, 1) := by decide +kernel
theorem d_Us_mark_42 : decode c_Us_mark 42 = .ok (.getfield 11, 3) := by decide +kernel
theorem d_Us_mark_45 : decode c_Us_mark 45 = .ok (.iload 4, 2) := by decide +kernel
theorem d_Us_mark_47 : decode c_Us_mark 47 = .ok (.bipush 64, 2) := by decide +kernel
theorem d_Us_mark_49 : decode c_Us_mark 49 = .ok (.idiv, 1) := by decide +kernel
theorem d_Us_mark_50 : decode c_Us_mark 50 = .ok (.dup2, 1) := by decide +kernel
theorem d_Us_mark_51 : decode c_Us_mark 51 = .ok (.laload, 1) := by decide +kernel
theorem d_Us_mark_52 : decode c_Us_mark 52 = .ok (.lload 5, 2) := by decide +kernel
theorem d_Us_mark_54 : decode c_Us_mark 54 = .ok (.lor, 1) := by decide +kernel
theorem d_Us_mark_55 : decode c_Us_mark 55 = .ok (.lastore, 1) := by decide +kernel
theorem d_Us_mark_56 : decode c_Us_mark 56 = .ok (.aload_n 0, 1) := by decide +kernel
theorem d_Us_mark_57 : decode c_Us_mark 57 = .ok (.dup, 1) := by decide +kernel
theorem d_Us_mark_58 : decode c_Us_mark 58 = .ok (.getfield 15, 3) := by decide +kernel
theorem d_Us_mark_61 : decode c_Us_mark 61 = .ok (.iconst 1, 1) := by decide +kernel
theorem d_Us_mark_62 : decode c_Us_mark 62 = .ok (.iadd, 1) := by decide +kernel
theorem d_Us_mark_63 : decode c_Us_mark 63 = .ok (.putfield 15, 3) := by decide +kernel
theorem d_Us_mark_66 : decode c_Us_mark 66 = .ok (.return_, 1) := by decide +kernel
def t_Us_mark_0 (l : Launch) (s0 : State) (D : va_G) (ca : Nat → ClassId) (e0 d mc ms : Nat) : List (Nat × cr_T) := [(0, cr_iload 1 1),
  (1, cr_push (.int 10) 3),
  (3, cr_imul 4),
  (4, cr_iload 2 5),
  (5, cr_iadd 6),
  (6, cr_push (.int 1440) 9),
  (9, cr_imul 10),
  (10, cr_iload 3 11),
  (11, cr_iadd 12),
  (12, cr_istore 4 14),
  (14, cr_push (.long 1) 15),
  (15, cr_iload 4 17),
  (17, cr_push (.int 64) 19),
  (19, cr_irem 20),
  (20, cr_lshl 21),
  (21, cr_lstore 5 23),
  (23, cr_aload 0 24),
  (24, cr_getf D kc 10 0 27),
  (27, cr_iload 4 29),
  (29, cr_push (.int 64) 31),
  (31, cr_idiv 32),
  (32, cr_lald D kc (ca 1) 33),
  (33, cr_lload 5 35),
  (35, cr_land 36),
  (36, cr_push (.long 0) 37),
  (37, cr_lcmp 38),
  (38, cr_ifne 66 41),
  (41, cr_aload 0 42),
  (42, cr_getf D kc 10 0 45),
  (45, cr_iload 4 47)]
def t_Us_mark_1 (l : Launch) (s0 : State) (D : va_G) (ca : Nat → ClassId) (e0 d mc ms : Nat) : List (Nat × cr_T) := [(47, cr_push (.int 64) 49),
  (49, cr_idiv 50),
  (50, cr_dup2 51),
  (51, cr_lald D kc (ca 1) 52),
  (52, cr_lload 5 54),
  (54, cr_lor 55),
  (55, cr_last D kc s0.heap.size (ca 1) 56),
  (56, cr_aload 0 57),
  (57, cr_dup 58),
  (58, cr_getf D kc 10 1 61),
  (61, cr_push (.int 1) 62),
  (62, cr_iadd 63),
  (63, cr_putf D kc s0.heap.size 10 1 .int 66),
  (66, cr_vret mc ms)]
def t_Us_mark (l : Launch) (s0 : State) (D : va_G) (ca : Nat → ClassId) (e0 d mc ms : Nat) : List (Nat × cr_T) := t_Us_mark_0 l s0 D ca e0 d mc ms ++ (t_Us_mark_1 l s0 D ca e0 d mc ms)
set_option maxHeartbeats 4000000 in
set_option maxRecDepth 20000 in
theorem s_Us_mark_0 {p : Program} {l : Launch} {e : Env} {R : Room} {s : State} {m : MethodId} {args : Array Value} {below : List Frame} {meth : Method} {c : Code} {s0 : State} {D : va_G} {ca : Nat → ClassId} {e0 d mc ms : Nat} {Q : cr_Q} (hl : l.flags = flags0) (Z : cr_Z0 s0 D ca e0) (C : cr_C p R s m meth c (cr_W0 s0) s0.heap.size y_Us_mark c_Us_mark 7 (Option.none : Option FieldType) d mc ms) (hem : c.exceptionTable.toList = []) : ∀ x ∈ t_Us_mark_0 l s0 D ca e0 d mc ms, cr_Snd p l e R s m args below meth c s0.heap.size mc ms Q x.1 x.2 := by
  obtain ⟨hx, hb, hml, hown, hr, hlk, hnm, hU, hlo, hR⟩ := C
  have hK := cr_Z0K Z hU
  have hRc : R.cells = mc := by rw [hR]; rfl
  have hRs : R.slots = ms := by rw [hR]; rfl
  unfold t_Us_mark_0
  refine cr_cons (cr_iload_n_ok hx hb d_Us_mark_0 rfl rfl) ?_
  refine cr_cons (cr_bipush_ok hx hb d_Us_mark_1 (by decide) rfl) ?_
  refine cr_cons (cr_imul_ok hx hb d_Us_mark_3 rfl) ?_
  refine cr_cons (cr_iload_n_ok hx hb d_Us_mark_4 rfl rfl) ?_
  refine cr_cons (cr_iadd_ok hx hb d_Us_mark_5 rfl) ?_
  refine cr_cons (cr_sipush_ok hx hb d_Us_mark_6 (by decide) rfl) ?_
  refine cr_cons (cr_imul_ok hx hb d_Us_mark_9 rfl) ?_
  refine cr_cons (cr_iload_n_ok hx hb d_Us_mark_10 rfl rfl) ?_
  refine cr_cons (cr_iadd_ok hx hb d_Us_mark_11 rfl) ?_
  refine cr_cons (cr_istore_ok hx hb d_Us_mark_12 rfl) ?_
  refine cr_cons (cr_lconst_ok hx hb d_Us_mark_14 (by decide) rfl) ?_
  refine cr_cons (cr_iload_ok hx hb d_Us_mark_15 rfl) ?_
  refine cr_cons (cr_bipush_ok hx hb d_Us_mark_17 (by decide) rfl) ?_
  refine cr_cons (cr_irem_ok hx hb d_Us_mark_19 rfl) ?_
  refine cr_cons (cr_lshl_ok hx hb d_Us_mark_20 rfl) ?_
  refine cr_cons (cr_lstore_ok hx hb d_Us_mark_21 rfl) ?_
  refine cr_cons (cr_aload_n_ok hx hb d_Us_mark_23 rfl rfl) ?_
  refine cr_cons (cr_getf_ok (C := R_Us) (T := T_Us) (N := 2) hx hb (k_Us Z hU args) (fun _ h => h) hown hK rfl (by decide) (cr_w Z w_113 rfl hU args) (fun _ h => h) d_Us_mark_24 rfl) ?_
  refine cr_cons (cr_iload_ok hx hb d_Us_mark_27 rfl) ?_
  refine cr_cons (cr_bipush_ok hx hb d_Us_mark_29 (by decide) rfl) ?_
  refine cr_cons (cr_idiv_ok hx hb d_Us_mark_31 rfl) ?_
  refine cr_cons (cr_lald_ok (t0 := 1) hx hb hK rfl d_Us_mark_32 rfl) ?_
  refine cr_cons (cr_lload_ok hx hb d_Us_mark_33 rfl) ?_
  refine cr_cons (cr_land_ok hx hb d_Us_mark_35 rfl) ?_
  refine cr_cons (cr_lconst_ok hx hb d_Us_mark_36 (by decide) rfl) ?_
  refine cr_cons (cr_lcmp_ok hx hb d_Us_mark_37 rfl) ?_
  refine cr_cons (cr_ifne_ok hx hb d_Us_mark_38 (by decide) rfl) ?_
  refine cr_cons (cr_aload_n_ok hx hb d_Us_mark_41 rfl rfl) ?_
  refine cr_cons (cr_getf_ok (C := R_Us) (T := T_Us) (N := 2) hx hb (k_Us Z hU args) (fun _ h => h) hown hK rfl (by decide) (cr_w Z w_113 rfl hU args) (fun _ h => h) d_Us_mark_42 rfl) ?_
  refine cr_cons (cr_iload_ok hx hb d_Us_mark_45 rfl) ?_
  exact cr_nil
set_option maxHeartbeats 4000000 in
set_option maxRecDepth 20000 in
theorem s_Us_mark_1 {p : Program} {l : Launch} {e : Env} {R : Room} {s : State} {m : MethodId} {args : Array Value} {below : List Frame} {meth : Method} {c : Code} {s0 : State} {D : va_G} {ca : Nat → ClassId} {e0 d mc ms : Nat} {Q : cr_Q} (hl : l.flags = flags0) (Z : cr_Z0 s0 D ca e0) (C : cr_C p R s m meth c (cr_W0 s0) s0.heap.size y_Us_mark c_Us_mark 7 (Option.none : Option FieldType) d mc ms) (hem : c.exceptionTable.toList = []) : ∀ x ∈ t_Us_mark_1 l s0 D ca e0 d mc ms, cr_Snd p l e R s m args below meth c s0.heap.size mc ms Q x.1 x.2 := by
  obtain ⟨hx, hb, hml, hown, hr, hlk, hnm, hU, hlo, hR⟩ := C
  have hK := cr_Z0K Z hU
  have hRc : R.cells = mc := by rw [hR]; rfl
  have hRs : R.slots = ms := by rw [hR]; rfl
  unfold t_Us_mark_1
  refine cr_cons (cr_bipush_ok hx hb d_Us_mark_47 (by decide) rfl) ?_
  refine cr_cons (cr_idiv_ok hx hb d_Us_mark_49 rfl) ?_
  refine cr_cons (cr_dup2_ok hx hb d_Us_mark_50 rfl) ?_
  refine cr_cons (cr_lald_ok (t0 := 1) hx hb hK rfl d_Us_mark_51 rfl) ?_
  refine cr_cons (cr_lload_ok hx hb d_Us_mark_52 rfl) ?_
  refine cr_cons (cr_lor_ok hx hb d_Us_mark_54 rfl) ?_
  refine cr_cons (cr_last_ok (t0 := 1) hx hb hK rfl d_Us_mark_55 rfl) ?_
  refine cr_cons (cr_aload_n_ok hx hb d_Us_mark_56 rfl rfl) ?_
  refine cr_cons (cr_dup_ok hx hb d_Us_mark_57 rfl) ?_
  refine cr_cons (cr_getf_ok (C := R_Us) (T := T_Us) (N := 2) hx hb (k_Us Z hU args) (fun _ h => h) hown hK rfl (by decide) (cr_w Z w_115 rfl hU args) (fun _ h => h) d_Us_mark_58 rfl) ?_
  refine cr_cons (cr_iconst_ok hx hb d_Us_mark_61 (by decide) rfl) ?_
  refine cr_cons (cr_iadd_ok hx hb d_Us_mark_62 rfl) ?_
  refine cr_cons (cr_putf_ok (C := R_Us) (T := T_Us) (N := 2) tt_Us hx hb (k_Us Z hU args) (fun _ h => h) ty_Us nm_Us hown hK rfl (by decide) (Or.inl (cr_w Z w_115 rfl hU args)) (fun _ h => h) rfl (by decide +kernel) d_Us_mark_63 rfl) ?_
  refine cr_cons (cr_vret_ok hx hb hr hlk d_Us_mark_66) ?_
  exact cr_nil
theorem s_Us_mark {p : Program} {l : Launch} {e : Env} {R : Room} {s : State} {m : MethodId} {args : Array Value} {below : List Frame} {meth : Method} {c : Code} {s0 : State} {D : va_G} {ca : Nat → ClassId} {e0 d mc ms : Nat} {Q : cr_Q} (hl : l.flags = flags0) (Z : cr_Z0 s0 D ca e0) (C : cr_C p R s m meth c (cr_W0 s0) s0.heap.size y_Us_mark c_Us_mark 7 (Option.none : Option FieldType) d mc ms) (hem : c.exceptionTable.toList = []) : ∀ x ∈ t_Us_mark l s0 D ca e0 d mc ms, cr_Snd p l e R s m args below meth c s0.heap.size mc ms Q x.1 x.2 := cr_app (s_Us_mark_0 hl Z C hem) (s_Us_mark_1 hl Z C hem)
theorem d_Rw_init_0 : decode c_Rw_init 0 = .ok (.aload_n 0, 1) := by decide +kernel
theorem d_Rw_init_1 : decode c_Rw_init 1 = .ok (.invokespecial 1, 3) := by decide +kernel
theorem d_Rw_init_4 : decode c_Rw_init 4 = .ok (.aload_n 0, 1) := by decide +kernel
theorem d_Rw_init_5 : decode c_Rw_init 5 = .ok (.aload_n 1, 1) := by decide +kernel
theorem d_Rw_init_6 : decode c_Rw_init 6 = .ok (.putfield 7, 3) := by decide +kernel
theorem d_Rw_init_9 : decode c_Rw_init 9 = .ok (.aload_n 0, 1) := by decide +kernel
theorem d_Rw_init_10 : decode c_Rw_init 10 = .ok (.aload_n 2, 1) := by decide +kernel
theorem d_Rw_init_11 : decode c_Rw_init 11 = .ok (.putfield 13, 3) := by decide +kernel
theorem d_Rw_init_14 : decode c_Rw_init 14 = .ok (.aload_n 0, 1) := by decide +kernel
theorem d_Rw_init_15 : decode c_Rw_init 15 = .ok (.iload_n 3, 1) := by decide +kernel
theorem d_Rw_init_16 : decode c_Rw_init 16 = .ok (.putfield 17, 3) := by decide +kernel
theorem d_Rw_init_19 : decode c_Rw_init 19 = .ok (.return_, 1) := by decide +kernel
def t_Rw_init_0 (l : Launch) (s0 : State) (D : va_G) (ca : Nat → ClassId) (e0 d mc ms : Nat) : List (Nat × cr_T) := [(0, cr_aload 0 1),
  (1, cr_oinit d 4 4),
  (4, cr_aload 0 5),
  (5, cr_aload 1 6),
  (6, cr_putf D kc s0.heap.size 9 0 (.object "CardRights$Card") 9),
  (9, cr_aload 0 10),
  (10, cr_aload 2 11),
  (11, cr_putf D kc s0.heap.size 9 1 (.object "CardRights$Room") 14),
  (14, cr_aload 0 15),
  (15, cr_iload 3 16),
  (16, cr_putf D kc s0.heap.size 9 2 .int 19),
  (19, cr_vret mc ms)]
def t_Rw_init (l : Launch) (s0 : State) (D : va_G) (ca : Nat → ClassId) (e0 d mc ms : Nat) : List (Nat × cr_T) := t_Rw_init_0 l s0 D ca e0 d mc ms
set_option maxHeartbeats 4000000 in
set_option maxRecDepth 20000 in
theorem s_Rw_init_0 {p : Program} {l : Launch} {e : Env} {R : Room} {s : State} {m : MethodId} {args : Array Value} {below : List Frame} {meth : Method} {c : Code} {s0 : State} {D : va_G} {ca : Nat → ClassId} {e0 d mc ms : Nat} {Q : cr_Q} (hl : l.flags = flags0) (Z : cr_Z0 s0 D ca e0) (C : cr_C p R s m meth c (cr_W0 s0) s0.heap.size y_Rw_init c_Rw_init 4 (Option.none : Option FieldType) d mc ms) (hem : c.exceptionTable.toList = []) : ∀ x ∈ t_Rw_init_0 l s0 D ca e0 d mc ms, cr_Snd p l e R s m args below meth c s0.heap.size mc ms Q x.1 x.2 := by
  obtain ⟨hx, hb, hml, hown, hr, hlk, hnm, hU, hlo, hR⟩ := C
  have hK := cr_Z0K Z hU
  have hRc : R.cells = mc := by rw [hR]; rfl
  have hRs : R.slots = ms := by rw [hR]; rfl
  unfold t_Rw_init_0
  refine cr_cons (cr_aload_n_ok hx hb d_Rw_init_0 rfl rfl) ?_
  refine cr_cons (cr_oinit_ok hx hb hml hown hR (cr_w Z w_758 rfl hU args) (cr_w Z w_33 rfl hU args) (cr_w Z w_34 rfl hU args) d_Rw_init_1 rfl) ?_
  refine cr_cons (cr_aload_n_ok hx hb d_Rw_init_4 rfl rfl) ?_
  refine cr_cons (cr_aload_n_ok hx hb d_Rw_init_5 rfl rfl) ?_
  refine cr_cons (cr_putF_ok (C := R_Rw) (T := T_Rw) (N := 3) tt_Rw hx hb (k_Rw Z hU args) (fun _ h => h) ty_Rw nm_Rw hown hK rfl (by decide) (cr_w Z w_759 rfl hU args) (fun _ h => h) rfl hnm rfl (by decide +kernel) d_Rw_init_6 rfl) ?_
  refine cr_cons (cr_aload_n_ok hx hb d_Rw_init_9 rfl rfl) ?_
  refine cr_cons (cr_aload_n_ok hx hb d_Rw_init_10 rfl rfl) ?_
  refine cr_cons (cr_putF_ok (C := R_Rw) (T := T_Rw) (N := 3) tt_Rw hx hb (k_Rw Z hU args) (fun _ h => h) ty_Rw nm_Rw hown hK rfl (by decide) (cr_w Z w_761 rfl hU args) (fun _ h => h) rfl hnm rfl (by decide +kernel) d_Rw_init_11 rfl) ?_
  refine cr_cons (cr_aload_n_ok hx hb d_Rw_init_14 rfl rfl) ?_
  refine cr_cons (cr_iload_n_ok hx hb d_Rw_init_15 rfl rfl) ?_
  refine cr_cons (cr_putF_ok (C := R_Rw) (T := T_Rw) (N := 3) tt_Rw hx hb (k_Rw Z hU args) (fun _ h => h) ty_Rw nm_Rw hown hK rfl (by decide) (cr_w Z w_763 rfl hU args) (fun _ h => h) rfl hnm rfl (by decide +kernel) d_Rw_init_16 rfl) ?_
  refine cr_cons (cr_vret_ok hx hb hr hlk d_Rw_init_19) ?_
  exact cr_nil
theorem s_Rw_init {p : Program} {l : Launch} {e : Env} {R : Room} {s : State} {m : MethodId} {args : Array Value} {below : List Frame} {meth : Method} {c : Code} {s0 : State} {D : va_G} {ca : Nat → ClassId} {e0 d mc ms : Nat} {Q : cr_Q} (hl : l.flags = flags0) (Z : cr_Z0 s0 D ca e0) (C : cr_C p R s m meth c (cr_W0 s0) s0.heap.size y_Rw_init c_Rw_init 4 (Option.none : Option FieldType) d mc ms) (hem : c.exceptionTable.toList = []) : ∀ x ∈ t_Rw_init l s0 D ca e0 d mc ms, cr_Snd p l e R s m args below meth c s0.heap.size mc ms Q x.1 x.2 := s_Rw_init_0 hl Z C hem
