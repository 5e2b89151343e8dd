theorem d_C_init_0 : decode c_C_init 0 = .ok (.aload_n 0, 1) := by decide +kernel
theorem d_C_init_1 : decode c_C_init 1 = .ok (.invokespecial 1, 3) := by decide +kernel
theorem d_C_init_4 : decode c_C_init 4 = .ok (.aload_n 0, 1) := by decide +kernel
theorem d_C_init_5 : decode c_C_init 5 = .ok (.new 7, 3) := by decide +kernel
theorem d_C_init_8 : decode c_C_init 8 = .ok (.dup, 1) := by decide +kernel
theorem d_C_init_9 : decode c_C_init 9 = .ok (.invokespecial 9, 3) := by decide +kernel
theorem d_C_init_12 : decode c_C_init 12 = .ok (.putfield 10, 3) := by decide +kernel
theorem d_C_init_15 : decode c_C_init 15 = .ok (.aload_n 0, 1) := by decide +kernel
theorem d_C_init_16 : decode c_C_init 16 = .ok (.new 7, 3) := by decide +kernel
theorem d_C_init_19 : decode c_C_init 19 = .ok (.dup, 1) := by decide +kernel
theorem d_C_init_20 : decode c_C_init 20 = .ok (.invokespecial 9, 3) := by decide +kernel
theorem d_C_init_23 : decode c_C_init 23 = .ok (.putfield 16, 3) := by decide +kernel
theorem d_C_init_26 : decode c_C_init 26 = .ok (.aload_n 0, 1) := by decide +kernel
theorem d_C_init_27 : decode c_C_init 27 = .ok (.new 7, 3) := by decide +kernel
theorem d_C_init_30 : decode c_C_init 30 = .ok (.dup, 1) := by decide +kernel
theorem d_C_init_31 : decode c_C_init 31 = .ok (.invokespecial 9, 3) := by decide +kernel
theorem d_C_init_34 : decode c_C_init 34 = .ok (.putfield 19, 3) := by decide +kernel
theorem d_C_init_37 : decode c_C_init 37 = .ok (.aload_n 0, 1) := by decide +kernel
theorem d_C_init_38 : decode c_C_init 38 = .ok (.new 7, 3) := by decide +kernel
theorem d_C_init_41 : decode c_C_init 41 = .ok (.dup, 1) := by decide +kernel
theorem d_C_init_42 : decode c_C_init 42 = .ok (.invokespecial 9, 3) := by decide +kernel
theorem d_C_init_45 : decode c_C_init 45 = .ok (.putfield 22, 3) := by decide +kernel
theorem d_C_init_48 : decode c_C_init 48 = .ok (.aload_n 0, 1) := by decide +kernel
theorem d_C_init_49 : decode c_C_init 49 = .ok (.new 7, 3) := by decide +kernel
theorem d_C_init_52 : decode c_C_init 52 = .ok (.dup, 1) := by decide +kernel
theorem d_C_init_53 : decode c_C_init 53 = .ok (.invokespecial 9, 3) := by decide +kernel
theorem d_C_init_56 : decode c_C_init 56 = .ok (.putfield 25, 3) := by decide +kernel
theorem d_C_init_59 : decode c_C_init 59 = .ok (.aload_n 0, 1) := by decide +kernel
theorem d_C_init_60 : decode c_C_init 60 = .ok (.new 28, 3) := by decide +kernel
theorem d_C_init_63 : decode c_C_init 63 = .ok (.dup, 1) := by decide +kernel
theorem d_C_init_64 : decode c_C_init 64 = .ok (.invokespecial 30, 3) := by decide +kernel
theorem d_C_init_67 : decode c_C_init 67 = .ok (.putfield 31, 3) := by decide +kernel
theorem d_C_init_70 : decode c_C_init 70 = .ok (.aload_n 0, 1) := by decide +kernel
theorem d_C_init_71 : decode c_C_init 71 = .ok (.new 35, 3) := by decide +kernel
theorem d_C_init_74 : decode c_C_init 74 = .ok (.dup, 1) := by decide +kernel
theorem d_C_init_75 : decode c_C_init 75 = .ok (.invokespecial 37, 3) := by decide +kernel
theorem d_C_init_78 : decode c_C_init 78 = .ok (.putfield 38, 3) := by decide +kernel
theorem d_C_init_81 : decode c_C_init 81 = .ok (.aload_n 0, 1) := by decide +kernel
theorem d_C_init_82 : decode c_C_init 82 = .ok (.new 42, 3) := by decide +kernel
theorem d_C_init_85 : decode c_C_init 85 = .ok (.dup, 1) := by decide +kernel
theorem d_C_init_86 : decode c_C_init 86 = .ok (.invokespecial 44, 3) := by decide +kernel
theorem d_C_init_89 : decode c_C_init 89 = .ok (.putfield 45, 3) := by decide +kernel
theorem d_C_init_92 : decode c_C_init 92 = .ok (.aload_n 0, 1) := by decide +kernel
theorem d_C_init_93 : decode c_C_init 93 = .ok (.new 49, 3) := by decide +kernel
theorem d_C_init_96 : decode c_C_init 96 = .ok (.dup, 1) := by decide +kernel
theorem d_C_init_97 : decode c_C_init 97 = .ok (.invokespecial 51, 3) := by decide +kernel
theorem d_C_init_100 : decode c_C_init 100 = .ok (.putfield 52, 3) := by decide +kernel
theorem d_C_init_103 : decode c_C_init 103 = .ok (.aload_n 0, 1) := by decide +kernel
theorem d_C_init_104 : decode c_C_init 104 = .ok (.iconst 0, 1) := by decide +kernel
theorem d_C_init_105 : decode c_C_init 105 = .ok (.putfield 56, 3) := by decide +kernel
theorem d_C_init_108 : decode c_C_init 108 = .ok (.return_, 1) := by decide +kernel
def t_C_init_0 (l : Launch) (s0 : State) (D : va_G) (ca : Nat → ClassId) (e0 d mc ms : Nat) : List (Nat × cr_T) := [(0, cr_aload 0 1),
  (1, cr_oinit d 1 4),
  (4, cr_aload 0 5),
  (5, cr_new D kc s0.heap.size mc ms 12 3 [.null, .int 0, .int 0] 8),
  (8, cr_dup 9),
  (9, cr_calI l (cr_W0 s0) s0.heap.size y_AL_init cw_AL_init d mc ms 0 1 12),
  (12, cr_putf D kc s0.heap.size 0 0 (.object "java/util/List") 15),
  (15, cr_aload 0 16),
  (16, cr_new D kc s0.heap.size mc ms 12 3 [.null, .int 0, .int 0] 19),
  (19, cr_dup 20),
  (20, cr_calI l (cr_W0 s0) s0.heap.size y_AL_init cw_AL_init d mc ms 0 1 23),
  (23, cr_putf D kc s0.heap.size 0 1 (.object "java/util/List") 26),
  (26, cr_aload 0 27),
  (27, cr_new D kc s0.heap.size mc ms 12 3 [.null, .int 0, .int 0] 30),
  (30, cr_dup 31),
  (31, cr_calI l (cr_W0 s0) s0.heap.size y_AL_init cw_AL_init d mc ms 0 1 34),
  (34, cr_putf D kc s0.heap.size 0 2 (.object "java/util/List") 37),
  (37, cr_aload 0 38),
  (38, cr_new D kc s0.heap.size mc ms 12 3 [.null, .int 0, .int 0] 41),
  (41, cr_dup 42),
  (42, cr_calI l (cr_W0 s0) s0.heap.size y_AL_init cw_AL_init d mc ms 0 1 45),
  (45, cr_putf D kc s0.heap.size 0 3 (.object "java/util/List") 48),
  (48, cr_aload 0 49),
  (49, cr_new D kc s0.heap.size mc ms 12 3 [.null, .int 0, .int 0] 52),
  (52, cr_dup 53),
  (53, cr_calI l (cr_W0 s0) s0.heap.size y_AL_init cw_AL_init d mc ms 0 1 56),
  (56, cr_putf D kc s0.heap.size 0 4 (.object "java/util/List") 59),
  (59, cr_aload 0 60),
  (60, cr_new D kc s0.heap.size mc ms 4 4 [.int 0, .int 0, .null, .null] 63),
  (63, cr_dup 64)]
def t_C_init_1 (l : Launch) (s0 : State) (D : va_G) (ca : Nat → ClassId) (e0 d mc ms : Nat) : List (Nat × cr_T) := [(64, cr_calI l (cr_W0 s0) s0.heap.size y_Kn_init cw_Kn_init d mc ms 0 1 67),
  (67, cr_putf D kc s0.heap.size 0 5 (.object "CardRights$Knowledge") 70),
  (70, cr_aload 0 71),
  (71, cr_new D kc s0.heap.size mc ms 3 3 [.null, .int 0, .int 0] 74),
  (74, cr_dup 75),
  (75, cr_calI l (cr_W0 s0) s0.heap.size y_Fi_init cw_Fi_init d mc ms 0 1 78),
  (78, cr_putf D kc s0.heap.size 0 6 (.object "CardRights$Findings") 81),
  (81, cr_aload 0 82),
  (82, cr_new D kc s0.heap.size mc ms 10 2 [.null, .int 0] 85),
  (85, cr_dup 86),
  (86, cr_calI l (cr_W0 s0) s0.heap.size y_Us_init cw_Us_init d mc ms 0 1 89),
  (89, cr_putf D kc s0.heap.size 0 7 (.object "CardRights$Uses") 92),
  (92, cr_aload 0 93),
  (93, cr_new D kc s0.heap.size mc ms 5 2 [.null, .int 0] 96),
  (96, cr_dup 97),
  (97, cr_calI l (cr_W0 s0) s0.heap.size y_Ne_init cw_Ne_init d mc ms 0 1 100),
  (100, cr_putf D kc s0.heap.size 0 8 (.object "CardRights$Needs") 103),
  (103, cr_aload 0 104),
  (104, cr_push (.int 0) 105),
  (105, cr_putf D kc s0.heap.size 0 9 .int 108),
  (108, cr_vret mc ms)]
def t_C_init (l : Launch) (s0 : State) (D : va_G) (ca : Nat → ClassId) (e0 d mc ms : Nat) : List (Nat × cr_T) := t_C_init_0 l s0 D ca e0 d mc ms ++ (t_C_init_1 l s0 D ca e0 d mc ms)
set_option maxHeartbeats 4000000 in
set_option maxRecDepth 20000 in
theorem s_C_init_0 {p : Program} {l : Launch} {e : Env} {R : Room} {s : State} {m : MethodId} {args : Array Value} {below : List Frame} {meth : Method} {c : Code} {s0 : State} {D : va_G} {ca : Nat → ClassId} {e0 d mc ms : Nat} {Q : cr_Q} (hl : l.flags = flags0) (Z : cr_Z0 s0 D ca e0) (C : cr_C p R s m meth c (cr_W0 s0) s0.heap.size y_C_init c_C_init 1 (Option.none : Option FieldType) d mc ms) (hem : c.exceptionTable.toList = []) : ∀ x ∈ t_C_init_0 l s0 D ca e0 d mc ms, cr_Snd p l e R s m args below meth c s0.heap.size mc ms Q x.1 x.2 := by
  obtain ⟨hx, hb, hml, hown, hr, hlk, hnm, hU, hlo, hR⟩ := C
  have hK := cr_Z0K Z hU
  have hRc : R.cells = mc := by rw [hR]; rfl
  have hRs : R.slots = ms := by rw [hR]; rfl
  unfold t_C_init_0
  refine cr_cons (cr_aload_n_ok hx hb d_C_init_0 rfl rfl) ?_
  refine cr_cons (cr_oinit_ok hx hb hml hown hR (cr_w Z w_32 rfl hU args) (cr_w Z w_33 rfl hU args) (cr_w Z w_34 rfl hU args) d_C_init_1 rfl) ?_
  refine cr_cons (cr_aload_n_ok hx hb d_C_init_4 rfl rfl) ?_
  refine cr_cons (cr_new_ok (C := R_AL) (T := T_AL) (N := 3) tt_AL hx hb (k_AL Z hU args) (fun _ h => h) ty_AL hown (cr_w Z w_35 rfl hU args) (cr_w Z w_36 rfl hU args) (cr_w Z w_4 rfl hU args) hK rfl (by decide +kernel) hlo hRc hRs d_C_init_5 rfl) ?_
  refine cr_cons (cr_dup_ok hx hb d_C_init_8 rfl) ?_
  refine cr_cons (cr_calI_ok hx hb hml hown hlk hU hlo hR (cr_W0_st s0) (by rw [hem]; exact fun _ h => absurd h List.not_mem_nil) (u_AL_init Z) (Or.inl (cr_w Z w_37 rfl hU args)) (cr_w Z w_38 rfl hU args) rfl (by decide) (by decide +kernel) (by decide) d_C_init_9 rfl) ?_
  refine cr_cons (cr_putF_ok (C := R_C) (T := T_C) (N := 10) tt_C hx hb (k_C Z hU args) (fun _ h => h) ty_C nm_C hown hK rfl (by decide) (cr_w Z w_136 rfl hU args) (fun _ h => h) rfl hnm rfl (by decide +kernel) d_C_init_12 rfl) ?_
  refine cr_cons (cr_aload_n_ok hx hb d_C_init_15 rfl rfl) ?_
  refine cr_cons (cr_new_ok (C := R_AL) (T := T_AL) (N := 3) tt_AL hx hb (k_AL Z hU args) (fun _ h => h) ty_AL hown (cr_w Z w_35 rfl hU args) (cr_w Z w_36 rfl hU args) (cr_w Z w_4 rfl hU args) hK rfl (by decide +kernel) hlo hRc hRs d_C_init_16 rfl) ?_
  refine cr_cons (cr_dup_ok hx hb d_C_init_19 rfl) ?_
  refine cr_cons (cr_calI_ok hx hb hml hown hlk hU hlo hR (cr_W0_st s0) (by rw [hem]; exact fun _ h => absurd h List.not_mem_nil) (u_AL_init Z) (Or.inl (cr_w Z w_37 rfl hU args)) (cr_w Z w_38 rfl hU args) rfl (by decide) (by decide +kernel) (by decide) d_C_init_20 rfl) ?_
  refine cr_cons (cr_putF_ok (C := R_C) (T := T_C) (N := 10) tt_C hx hb (k_C Z hU args) (fun _ h => h) ty_C nm_C hown hK rfl (by decide) (cr_w Z w_137 rfl hU args) (fun _ h => h) rfl hnm rfl (by decide +kernel) d_C_init_23 rfl) ?_
  refine cr_cons (cr_aload_n_ok hx hb d_C_init_26 rfl rfl) ?_
  refine cr_cons (cr_new_ok (C := R_AL) (T := T_AL) (N := 3) tt_AL hx hb (k_AL Z hU args) (fun _ h => h) ty_AL hown (cr_w Z w_35 rfl hU args) (cr_w Z w_36 rfl hU args) (cr_w Z w_4 rfl hU args) hK rfl (by decide +kernel) hlo hRc hRs d_C_init_27 rfl) ?_
  refine cr_cons (cr_dup_ok hx hb d_C_init_30 rfl) ?_
  refine cr_cons (cr_calI_ok hx hb hml hown hlk hU hlo hR (cr_W0_st s0) (by rw [hem]; exact fun _ h => absurd h List.not_mem_nil) (u_AL_init Z) (Or.inl (cr_w Z w_37 rfl hU args)) (cr_w Z w_38 rfl hU args) rfl (by decide) (by decide +kernel) (by decide) d_C_init_31 rfl) ?_
  refine cr_cons (cr_putF_ok (C := R_C) (T := T_C) (N := 10) tt_C hx hb (k_C Z hU args) (fun _ h => h) ty_C nm_C hown hK rfl (by decide) (cr_w Z w_138 rfl hU args) (fun _ h => h) rfl hnm rfl (by decide +kernel) d_C_init_34 rfl) ?_
  refine cr_cons (cr_aload_n_ok hx hb d_C_init_37 rfl rfl) ?_
  refine cr_cons (cr_new_ok (C := R_AL) (T := T_AL) (N := 3) tt_AL hx hb (k_AL Z hU args) (fun _ h => h) ty_AL hown (cr_w Z w_35 rfl hU args) (cr_w Z w_36 rfl hU args) (cr_w Z w_4 rfl hU args) hK rfl (by decide +kernel) hlo hRc hRs d_C_init_38 rfl) ?_
  refine cr_cons (cr_dup_ok hx hb d_C_init_41 rfl) ?_
  refine cr_cons (cr_calI_ok hx hb hml hown hlk hU hlo hR (cr_W0_st s0) (by rw [hem]; exact fun _ h => absurd h List.not_mem_nil) (u_AL_init Z) (Or.inl (cr_w Z w_37 rfl hU args)) (cr_w Z w_38 rfl hU args) rfl (by decide) (by decide +kernel) (by decide) d_C_init_42 rfl) ?_
  refine cr_cons (cr_putF_ok (C := R_C) (T := T_C) (N := 10) tt_C hx hb (k_C Z hU args) (fun _ h => h) ty_C nm_C hown hK rfl (by decide) (cr_w Z w_139 rfl hU args) (fun _ h => h) rfl hnm rfl (by decide +kernel) d_C_init_45 rfl) ?_
  refine cr_cons (cr_aload_n_ok hx hb d_C_init_48 rfl rfl) ?_
  refine cr_cons (cr_new_ok (C := R_AL) (T := T_AL) (N := 3) tt_AL hx hb (k_AL Z hU args) (fun _ h => h) ty_AL hown (cr_w Z w_35 rfl hU args) (cr_w Z w_36 rfl hU args) (cr_w Z w_4 rfl hU args) hK rfl (by decide +kernel) hlo hRc hRs d_C_init_49 rfl) ?_
  refine cr_cons (cr_dup_ok hx hb d_C_init_52 rfl) ?_
  refine cr_cons (cr_calI_ok hx hb hml hown hlk hU hlo hR (cr_W0_st s0) (by rw [hem]; exact fun _ h => absurd h List.not_mem_nil) (u_AL_init Z) (Or.inl (cr_w Z w_37 rfl hU args)) (cr_w Z w_38 rfl hU args) rfl (by decide) (by decide +kernel) (by decide) d_C_init_53 rfl) ?_
  refine cr_cons (cr_putF_ok (C := R_C) (T := T_C) (N := 10) tt_C hx hb (k_C Z hU args) (fun _ h => h) ty_C nm_C hown hK rfl (by decide) (cr_w Z w_140 rfl hU args) (fun _ h => h) rfl hnm rfl (by decide +kernel) d_C_init_56 rfl) ?_
  refine cr_cons (cr_aload_n_ok hx hb d_C_init_59 rfl rfl) ?_
  refine cr_cons (cr_new_ok (C := R_Kn) (T := T_Kn) (N := 4) tt_Kn hx hb (k_Kn Z hU args) (fun _ h => h) ty_Kn hown (cr_w Z w_61 rfl hU args) (cr_w Z w_62 rfl hU args) (cr_w Z w_5 rfl hU args) hK rfl (by decide +kernel) hlo hRc hRs d_C_init_60 rfl) ?_
  refine cr_cons (cr_dup_ok hx hb d_C_init_63 rfl) ?_
  exact cr_nil
set_option maxHeartbeats 4000000 in
set_option maxRecDepth 20000 in
theorem s_C_init_1 {p : Program} {l : Launch} {e : Env} {R : Room} {s : State} {m : MethodId} {args : Array Value} {below : List Frame} {meth : Method} {c : Code} {s0 : State} {D : va_G} {ca : Nat → ClassId} {e0 d mc ms : Nat} {Q : cr_Q} (hl : l.flags = flags0) (Z : cr_Z0 s0 D ca e0) (C : cr_C p R s m meth c (cr_W0 s0) s0.heap.size y_C_init c_C_init 1 (Option.none : Option FieldType) d mc ms) (hem : c.exceptionTable.toList = []) : ∀ x ∈ t_C_init_1 l s0 D ca e0 d mc ms, cr_Snd p l e R s m args below meth c s0.heap.size mc ms Q x.1 x.2 := by
  obtain ⟨hx, hb, hml, hown, hr, hlk, hnm, hU, hlo, hR⟩ := C
  have hK := cr_Z0K Z hU
  have hRc : R.cells = mc := by rw [hR]; rfl
  have hRs : R.slots = ms := by rw [hR]; rfl
  unfold t_C_init_1
  refine cr_cons (cr_calI_ok hx hb hml hown hlk hU hlo hR (cr_W0_st s0) (by rw [hem]; exact fun _ h => absurd h List.not_mem_nil) (u_Kn_init Z) (Or.inr ⟨_, (cr_w Z w_63 rfl hU args)⟩) (cr_w Z w_64 rfl hU args) rfl (by decide) (by decide +kernel) (by decide) d_C_init_64 rfl) ?_
  refine cr_cons (cr_putF_ok (C := R_C) (T := T_C) (N := 10) tt_C hx hb (k_C Z hU args) (fun _ h => h) ty_C nm_C hown hK rfl (by decide) (cr_w Z w_141 rfl hU args) (fun _ h => h) rfl hnm rfl (by decide +kernel) d_C_init_67 rfl) ?_
  refine cr_cons (cr_aload_n_ok hx hb d_C_init_70 rfl rfl) ?_
  refine cr_cons (cr_new_ok (C := R_Fi) (T := T_Fi) (N := 3) tt_Fi hx hb (k_Fi Z hU args) (fun _ h => h) ty_Fi hown (cr_w Z w_88 rfl hU args) (cr_w Z w_89 rfl hU args) (cr_w Z w_7 rfl hU args) hK rfl (by decide +kernel) hlo hRc hRs d_C_init_71 rfl) ?_
  refine cr_cons (cr_dup_ok hx hb d_C_init_74 rfl) ?_
  refine cr_cons (cr_calI_ok hx hb hml hown hlk hU hlo hR (cr_W0_st s0) (by rw [hem]; exact fun _ h => absurd h List.not_mem_nil) (u_Fi_init Z) (Or.inr ⟨_, (cr_w Z w_90 rfl hU args)⟩) (cr_w Z w_91 rfl hU args) rfl (by decide) (by decide +kernel) (by decide) d_C_init_75 rfl) ?_
  refine cr_cons (cr_putF_ok (C := R_C) (T := T_C) (N := 10) tt_C hx hb (k_C Z hU args) (fun _ h => h) ty_C nm_C hown hK rfl (by decide) (cr_w Z w_142 rfl hU args) (fun _ h => h) rfl hnm rfl (by decide +kernel) d_C_init_78 rfl) ?_
  refine cr_cons (cr_aload_n_ok hx hb d_C_init_81 rfl rfl) ?_
  refine cr_cons (cr_new_ok (C := R_Us) (T := T_Us) (N := 2) tt_Us hx hb (k_Us Z hU args) (fun _ h => h) ty_Us hown (cr_w Z w_107 rfl hU args) (cr_w Z w_108 rfl hU args) (cr_w Z w_8 rfl hU args) hK rfl (by decide +kernel) hlo hRc hRs d_C_init_82 rfl) ?_
  refine cr_cons (cr_dup_ok hx hb d_C_init_85 rfl) ?_
  refine cr_cons (cr_calI_ok hx hb hml hown hlk hU hlo hR (cr_W0_st s0) (by rw [hem]; exact fun _ h => absurd h List.not_mem_nil) (u_Us_init Z) (Or.inr ⟨_, (cr_w Z w_109 rfl hU args)⟩) (cr_w Z w_110 rfl hU args) rfl (by decide) (by decide +kernel) (by decide) d_C_init_86 rfl) ?_
  refine cr_cons (cr_putF_ok (C := R_C) (T := T_C) (N := 10) tt_C hx hb (k_C Z hU args) (fun _ h => h) ty_C nm_C hown hK rfl (by decide) (cr_w Z w_143 rfl hU args) (fun _ h => h) rfl hnm rfl (by decide +kernel) d_C_init_89 rfl) ?_
  refine cr_cons (cr_aload_n_ok hx hb d_C_init_92 rfl rfl) ?_
  refine cr_cons (cr_new_ok (C := R_Ne) (T := T_Ne) (N := 2) tt_Ne hx hb (k_Ne Z hU args) (fun _ h => h) ty_Ne hown (cr_w Z w_123 rfl hU args) (cr_w Z w_124 rfl hU args) (cr_w Z w_9 rfl hU args) hK rfl (by decide +kernel) hlo hRc hRs d_C_init_93 rfl) ?_
  refine cr_cons (cr_dup_ok hx hb d_C_init_96 rfl) ?_
  refine cr_cons (cr_calI_ok hx hb hml hown hlk hU hlo hR (cr_W0_st s0) (by rw [hem]; exact fun _ h => absurd h List.not_mem_nil) (u_Ne_init Z) (Or.inr ⟨_, (cr_w Z w_125 rfl hU args)⟩) (cr_w Z w_126 rfl hU args) rfl (by decide) (by decide +kernel) (by decide) d_C_init_97 rfl) ?_
  refine cr_cons (cr_putF_ok (C := R_C) (T := T_C) (N := 10) tt_C hx hb (k_C Z hU args) (fun _ h => h) ty_C nm_C hown hK rfl (by decide) (cr_w Z w_144 rfl hU args) (fun _ h => h) rfl hnm rfl (by decide +kernel) d_C_init_100 rfl) ?_
  refine cr_cons (cr_aload_n_ok hx hb d_C_init_103 rfl rfl) ?_
  refine cr_cons (cr_iconst_ok hx hb d_C_init_104 (by decide) rfl) ?_
  refine cr_cons (cr_putf_ok (C := R_C) (T := T_C) (N := 10) tt_C hx hb (k_C Z hU args) (fun _ h => h) ty_C nm_C hown hK rfl (by decide) (Or.inl (cr_w Z w_145 rfl hU args)) (fun _ h => h) rfl (by decide +kernel) d_C_init_105 rfl) ?_
  refine cr_cons (cr_vret_ok hx hb hr hlk d_C_init_108) ?_
  exact cr_nil
theorem s_C_init {p : Program} {l : Launch} {e : Env} {R : Room} {s : State} {m : MethodId} {args : Array Value} {below : List Frame} {meth : Method} {c : Code} {s0 : State} {D : va_G} {ca : Nat → ClassId} {e0 d mc ms : Nat} {Q : cr_Q} (hl : l.flags = flags0) (Z : cr_Z0 s0 D ca e0) (C : cr_C p R s m meth c (cr_W0 s0) s0.heap.size y_C_init c_C_init 1 (Option.none : Option FieldType) d mc ms) (hem : c.exceptionTable.toList = []) : ∀ x ∈ t_C_init l s0 D ca e0 d mc ms, cr_Snd p l e R s m args below meth c s0.heap.size mc ms Q x.1 x.2 := cr_app (s_C_init_0 hl Z C hem) (s_C_init_1 hl Z C hem)
theorem d_C_against_0 : decode c_C_against 0 = .ok (.aload_n 0, 1) := by decide +kernel
theorem d_C_against_1 : decode c_C_against 1 = .ok (.getfield 38, 3) := by decide +kernel
theorem d_C_against_4 : decode c_C_against 4 = .ok (.getfield 242, 3) := by decide +kernel
theorem d_C_against_7 : decode c_C_against 7 = .ok (.ireturn, 1) := by decide +kernel
def t_C_against_0 (l : Launch) (s0 : State) (D : va_G) (ca : Nat → ClassId) (e0 d mc ms : Nat) : List (Nat × cr_T) := [(0, cr_aload 0 1),
  (1, cr_getf D kc 0 6 4),
  (4, cr_getf D kc 3 1 7),
  (7, cr_iret mc ms)]
def t_C_against (l : Launch) (s0 : State) (D : va_G) (ca : Nat → ClassId) (e0 d mc ms : Nat) : List (Nat × cr_T) := t_C_against_0 l s0 D ca e0 d mc ms
set_option maxHeartbeats 4000000 in
set_option maxRecDepth 20000 in
theorem s_C_against_0 {p : Program} {l : Launch} {e : Env} {R : Room} {s : State} {m : MethodId} {args : Array Value} {below : List Frame} {meth : Method} {c : Code} {s0 : State} {D : va_G} {ca : Nat → ClassId} {e0 d mc ms : Nat} {Q : cr_Q} (hl : l.flags = flags0) (Z : cr_Z0 s0 D ca e0) (C : cr_C p R s m meth c (cr_W0 s0) s0.heap.size y_C_against c_C_against 1 (Option.some FieldType.int) d mc ms) (hem : c.exceptionTable.toList = []) : ∀ x ∈ t_C_against_0 l s0 D ca e0 d mc ms, cr_Snd p l e R s m args below meth c s0.heap.size mc ms Q x.1 x.2 := by
  obtain ⟨hx, hb, hml, hown, hr, hlk, hnm, hU, hlo, hR⟩ := C
  have hK := cr_Z0K Z hU
  have hRc : R.cells = mc := by rw [hR]; rfl
  have hRs : R.slots = ms := by rw [hR]; rfl
  unfold t_C_against_0
  refine cr_cons (cr_aload_n_ok hx hb d_C_against_0 rfl rfl) ?_
  refine cr_cons (cr_getf_ok (C := R_C) (T := T_C) (N := 10) hx hb (k_C Z hU args) (fun _ h => h) hown hK rfl (by decide) (cr_w Z w_142 rfl hU args) (fun _ h => h) d_C_against_1 rfl) ?_
  refine cr_cons (cr_getfN_ok (C := R_Fi) (T := T_Fi) (N := 3) hx hb (k_Fi Z hU args) (fun _ h => h) hown hK rfl (by decide) (cr_w Z w_97 rfl hU args) (fun _ h => h) d_C_against_4 rfl) ?_
  refine cr_cons (cr_iret_ok hx hb hr hlk d_C_against_7) ?_
  exact cr_nil
theorem s_C_against {p : Program} {l : Launch} {e : Env} {R : Room} {s : State} {m : MethodId} {args : Array Value} {below : List Frame} {meth : Method} {c : Code} {s0 : State} {D : va_G} {ca : Nat → ClassId} {e0 d mc ms : Nat} {Q : cr_Q} (hl : l.flags = flags0) (Z : cr_Z0 s0 D ca e0) (C : cr_C p R s m meth c (cr_W0 s0) s0.heap.size y_C_against c_C_against 1 (Option.some FieldType.int) d mc ms) (hem : c.exceptionTable.toList = []) : ∀ x ∈ t_C_against l s0 D ca e0 d mc ms, cr_Snd p l e R s m args below meth c s0.heap.size mc ms Q x.1 x.2 := s_C_against_0 hl Z C hem
theorem d_C_uses_0 : decode c_C_uses 0 = .ok (.aload_n 0, 1) := by decide +kernel
theorem d_C_uses_1 : decode c_C_uses 1 = .ok (.getfield 45, 3) := by decide +kernel
theorem d_C_uses_4 : decode c_C_uses 4 = .ok (.getfield 255, 3) := by decide +kernel
theorem d_C_uses_7 : decode c_C_uses 7 = .ok (.ireturn, 1) := by decide +kernel
def t_C_uses_0 (l : Launch) (s0 : State) (D : va_G) (ca : Nat → ClassId) (e0 d mc ms : Nat) : List (Nat × cr_T) := [(0, cr_aload 0 1),
  (1, cr_getf D kc 0 7 4),
  (4, cr_getf D kc 10 1 7),
  (7, cr_iret mc ms)]
def t_C_uses (l : Launch) (s0 : State) (D : va_G) (ca : Nat → ClassId) (e0 d mc ms : Nat) : List (Nat × cr_T) := t_C_uses_0 l s0 D ca e0 d mc ms
set_option maxHeartbeats 4000000 in
set_option maxRecDepth 20000 in
theorem s_C_uses_0 {p : Program} {l : Launch} {e : Env} {R : Room} {s : State} {m : MethodId} {args : Array Value} {below : List Frame} {meth : Method} {c : Code} {s0 : State} {D : va_G} {ca : Nat → ClassId} {e0 d mc ms : Nat} {Q : cr_Q} (hl : l.flags = flags0) (Z : cr_Z0 s0 D ca e0) (C : cr_C p R s m meth c (cr_W0 s0) s0.heap.size y_C_uses c_C_uses 1 (Option.some FieldType.int) d mc ms) (hem : c.exceptionTable.toList = []) : ∀ x ∈ t_C_uses_0 l s0 D ca e0 d mc ms, cr_Snd p l e R s m args below meth c s0.heap.size mc ms Q x.1 x.2 := by
  obtain ⟨hx, hb, hml, hown, hr, hlk, hnm, hU, hlo, hR⟩ := C
  have hK := cr_Z0K Z hU
  have hRc : R.cells = mc := by rw [hR]; rfl
  have hRs : R.slots = ms := by rw [hR]; rfl
  unfold t_C_uses_0
  refine cr_cons (cr_aload_n_ok hx hb d_C_uses_0 rfl rfl) ?_
  refine cr_cons (cr_getf_ok (C := R_C) (T := T_C) (N := 10) hx hb (k_C Z hU args) (fun _ h => h) hown hK rfl (by decide) (cr_w Z w_143 rfl hU args) (fun _ h => h) d_C_uses_1 rfl) ?_
  refine cr_cons (cr_getfN_ok (C := R_Us) (T := T_Us) (N := 2) hx hb (k_Us Z hU args) (fun _ h => h) hown hK rfl (by decide) (cr_w Z w_116 rfl hU args) (fun _ h => h) d_C_uses_4 rfl) ?_
  refine cr_cons (cr_iret_ok hx hb hr hlk d_C_uses_7) ?_
  exact cr_nil
theorem s_C_uses {p : Program} {l : Launch} {e : Env} {R : Room} {s : State} {m : MethodId} {args : Array Value} {below : List Frame} {meth : Method} {c : Code} {s0 : State} {D : va_G} {ca : Nat → ClassId} {e0 d mc ms : Nat} {Q : cr_Q} (hl : l.flags = flags0) (Z : cr_Z0 s0 D ca e0) (C : cr_C p R s m meth c (cr_W0 s0) s0.heap.size y_C_uses c_C_uses 1 (Option.some FieldType.int) d mc ms) (hem : c.exceptionTable.toList = []) : ∀ x ∈ t_C_uses l s0 D ca e0 d mc ms, cr_Snd p l e R s m args below meth c s0.heap.size mc ms Q x.1 x.2 := s_C_uses_0 hl Z C hem
theorem d_C_fewest_0 : decode c_C_fewest 0 = .ok (.aload_n 0, 1) := by decide +kernel
theorem d_C_fewest_1 : decode c_C_fewest 1 = .ok (.getfield 52, 3) := by decide +kernel
theorem d_C_fewest_4 : decode c_C_fewest 4 = .ok (.invokevirtual 256, 3) := by decide +kernel
theorem d_C_fewest_7 : decode c_C_fewest 7 = .ok (.iconst 0, 1) := by decide +kernel
theorem d_C_fewest_8 : decode c_C_fewest 8 = .ok (.istore_n 1, 1) := by decide +kernel
theorem d_C_fewest_9 : decode c_C_fewest 9 = .ok (.iload_n 1, 1) := by decide +kernel
theorem d_C_fewest_10 : decode c_C_fewest 10 = .ok (.aload_n 0, 1) := by decide +kernel
theorem d_C_fewest_11 : decode c_C_fewest 11 = .ok (.getfield 45, 3) := by decide +kernel
theorem d_C_fewest_14 : decode c_C_fewest 14 = .ok (.getfield 259, 3) := by decide +kernel
theorem d_C_fewest_17 : decode c_C_fewest 17 = .ok (.arraylength, 1) := by decide +kernel
theorem d_C_fewest_18 : decode c_C_fewest 18 = .ok (.if_icmp .ge 71, 3) := by decide +kernel
theorem d_C_fewest_21 : decode c_C_fewest 21 = .ok (.aload_n 0, 1) := by decide +kernel
theorem d_C_fewest_22 : decode c_C_fewest 22 = .ok (.getfield 45, 3) := by decide +kernel
theorem d_C_fewest_25 : decode c_C_fewest 25 = .ok (.getfield 259, 3) := by decide +kernel
theorem d_C_fewest_28 : decode c_C_fewest 28 = .ok (.iload_n 1, 1) := by decide +kernel
theorem d_C_fewest_29 : decode c_C_fewest 29 = .ok (.laload, 1) := by decide +kernel
theorem d_C_fewest_30 : decode c_C_fewest 30 = .ok (.lstore_n 2, 1) := by decide +kernel
theorem d_C_fewest_31 : decode c_C_fewest 31 = .ok (.iconst 0, 1) := by decide +kernel
theorem d_C_fewest_32 : decode c_C_fewest 32 = .ok (.istore 4, 2) := by decide +kernel
theorem d_C_fewest_34 : decode c_C_fewest 34 = .ok (.iload 4, 2) := by decide +kernel
theorem d_C_fewest_36 : decode c_C_fewest 36 = .ok (.bipush 64, 2) := by decide +kernel
theorem d_C_fewest_38 : decode c_C_fewest 38 = .ok (.if_icmp .ge 45, 3) := by decide +kernel
theorem d_C_fewest_41 : decode c_C_fewest 41 = .ok (.lload_n 2, 1) := by decide +kernel
theorem d_C_fewest_42 : decode c_C_fewest 42 = .ok (.lconst 0, 1) := by decide +kernel
theorem d_C_fewest_43 : decode c_C_fewest 43 = .ok (.lcmp, 1) := by decide +kernel
theorem d_C_fewest_44 : decode c_C_fewest 44 = .ok (.ifCond .eq 39, 3) := by decide +kernel
theorem d_C_fewest_47 : decode c_C_fewest 47 = .ok (.lload_n 2, 1) := by decide +kernel
theorem d_C_fewest_48 : decode c_C_fewest 48 = .ok (.lconst 1, 1) := by decide +kernel
theorem d_C_fewest_49 : decode c_C_fewest 49 = .ok (.land, 1) := by decide +kernel
theorem d_C_fewest_50 : decode c_C_fewest 50 = .ok (.lconst 0, 1) := by decide +kernel
theorem d_C_fewest_51 : decode c_C_fewest 51 = .ok (.lcmp, 1) := by decide +kernel
theorem d_C_fewest_52 : decode c_C_fewest 52 = .ok (.ifCond .eq 21, 3) := by decide +kernel
theorem d_C_fewest_55 : decode c_C_fewest 55 = .ok (.aload_n 0, 1) := by decide +kernel
theorem d_C_fewest_56 : decode c_C_fewest 56 = .ok (.getfield 52, 3) := by decide +kernel
theorem d_C_fewest_59 : decode c_C_fewest 59 = .ok (.aload_n 0, 1) := by decide +kernel
theorem d_C_fewest_60 : decode c_C_fewest 60 = .ok (.iload_n 1, 1) := by decide +kernel
theorem d_C_fewest_61 : decode c_C_fewest 61 = .ok (.bipush 64, 2) := by decide +kernel
theorem d_C_fewest_63 : decode c_C_fewest 63 = .ok (.imul, 1) := by decide +kernel
theorem d_C_fewest_64 : decode c_C_fewest 64 = .ok (.iload 4, 2) := by decide +kernel
theorem d_C_fewest_66 : decode c_C_fewest 66 = .ok (.iadd, 1) := by decide +kernel
theorem d_C_fewest_67 : decode c_C_fewest 67 = .ok (.invokevirtual 263, 3) := by decide +kernel
theorem d_C_fewest_70 : decode c_C_fewest 70 = .ok (.invokevirtual 267, 3) := by decide +kernel
theorem d_C_fewest_73 : decode c_C_fewest 73 = .ok (.lload_n 2, 1) := by decide +kernel
theorem d_C_fewest_74 : decode c_C_fewest 74 = .ok (.iconst 1, 1) := by decide +kernel
theorem d_C_fewest_75 : decode c_C_fewest 75 = .ok (.lushr, 1) := by decide +kernel
theorem d_C_fewest_76 : decode c_C_fewest 76 = .ok (.lstore_n 2, 1) := by decide +kernel
theorem d_C_fewest_77 : decode c_C_fewest 77 = .ok (.iinc 4 1, 3) := by decide +kernel
theorem d_C_fewest_80 : decode c_C_fewest 80 = .ok (.goto (-46), 3) := by decide +kernel
theorem d_C_fewest_83 : decode c_C_fewest 83 = .ok (.iinc 1 1, 3) := by decide +kernel
theorem d_C_fewest_86 : decode c_C_fewest 86 = .ok (.goto (-77), 3) := by decide +kernel
theorem d_C_fewest_89 : decode c_C_fewest 89 = .ok (.aload_n 0, 1) := by decide +kernel
theorem d_C_fewest_90 : decode c_C_fewest 90 = .ok (.getfield 52, 3) := by decide +kernel
theorem d_C_fewest_93 : decode c_C_fewest 93 = .ok (.invokevirtual 269, 3) := by decide +kernel
theorem d_C_fewest_96 : decode c_C_fewest 96 = .ok (.ireturn, 1) := by decide +kernel
def t_C_fewest_0 (l : Launch) (s0 : State) (D : va_G) (ca : Nat → ClassId) (e0 d mc ms : Nat) : List (Nat × cr_T) := [(0, cr_aload 0 1),
  (1, cr_getf D kc 0 8 4),
  (4, cr_calV D kc l (cr_W0 s0) s0.heap.size 5 y_Ne_clear cw_Ne_clear d mc ms 0 5 7),
  (7, cr_push (.int 0) 8),
  (8, cr_istore 1 9),
  (9, cr_iload 1 10),
  (10, cr_aload 0 11),
  (11, cr_getf D kc 0 7 14),
  (14, cr_getf D kc 10 0 17),
  (17, cr_alen D kc (ca 1) 18),
  (18, cr_icge 89 21),
  (21, cr_aload 0 22),
  (22, cr_getf D kc 0 7 25),
  (25, cr_getf D kc 10 0 28),
  (28, cr_iload 1 29),
  (29, cr_lald D kc (ca 1) 30),
  (30, cr_lstore 2 31),
  (31, cr_push (.int 0) 32),
  (32, cr_istore 4 34),
  (34, cr_iload 4 36),
  (36, cr_push (.int 64) 38),
  (38, cr_icge 83 41),
  (41, cr_lload 2 42),
  (42, cr_push (.long 0) 43),
  (43, cr_lcmp 44),
  (44, cr_ifeq 83 47),
  (47, cr_lload 2 48),
  (48, cr_push (.long 1) 49),
  (49, cr_land 50),
  (50, cr_push (.long 0) 51)]
def t_C_fewest_1 (l : Launch) (s0 : State) (D : va_G) (ca : Nat → ClassId) (e0 d mc ms : Nat) : List (Nat × cr_T) := [(51, cr_lcmp 52),
  (52, cr_ifeq 73 55),
  (55, cr_aload 0 56),
  (56, cr_getf D kc 0 8 59),
  (59, cr_aload 0 60),
  (60, cr_iload 1 61),
  (61, cr_push (.int 64) 63),
  (63, cr_imul 64),
  (64, cr_iload 4 66),
  (66, cr_iadd 67),
  (67, cr_calV D kc l (cr_W0 s0) s0.heap.size 0 y_C_rightsThatHave cw_C_rightsThatHave d mc ms 1 5 70),
  (70, cr_calV D kc l (cr_W0 s0) s0.heap.size 5 y_Ne_add cw_Ne_add d mc ms 1 5 73),
  (73, cr_lload 2 74),
  (74, cr_push (.int 1) 75),
  (75, cr_lushr 76),
  (76, cr_lstore 2 77),
  (77, cr_iinc 4 1 80),
  (80, cr_goto 34),
  (83, cr_iinc 1 1 86),
  (86, cr_goto 9),
  (89, cr_aload 0 90),
  (90, cr_getf D kc 0 8 93),
  (93, cr_calV D kc l (cr_W0 s0) s0.heap.size 5 y_Ne_leastOfTheFewest cw_Ne_leastOfTheFewest d mc ms 0 5 96),
  (96, cr_iret mc ms)]
def t_C_fewest (l : Launch) (s0 : State) (D : va_G) (ca : Nat → ClassId) (e0 d mc ms : Nat) : List (Nat × cr_T) := t_C_fewest_0 l s0 D ca e0 d mc ms ++ (t_C_fewest_1 l s0 D ca e0 d mc ms)
set_option maxHeartbeats 4000000 in
set_option maxRecDepth 20000 in
theorem s_C_fewest_0 {p : Program} {l : Launch} {e : Env} {R : Room} {s : State} {m : MethodId} {args : Array Value} {below : List Frame} {meth : Method} {c : Code} {s0 : State} {D : va_G} {ca : Nat → ClassId} {e0 d mc ms : Nat} {Q : cr_Q} (hl : l.flags = flags0) (Z : cr_Z0 s0 D ca e0) (C : cr_C p R s m meth c (cr_W0 s0) s0.heap.size y_C_fewest c_C_fewest 5 (Option.some FieldType.int) d mc ms) (hem : c.exceptionTable.toList = []) : ∀ x ∈ t_C_fewest_0 l s0 D ca e0 d mc ms, cr_Snd p l e R s m args below meth c s0.heap.size mc ms Q x.1 x.2 := by
  obtain ⟨hx, hb, hml, hown, hr, hlk, hnm, hU, hlo, hR⟩ := C
  have hK := cr_Z0K Z hU
  have hRc : R.cells = mc := by rw [hR]; rfl
  have hRs : R.slots = ms := by rw [hR]; rfl
  unfold t_C_fewest_0
  refine cr_cons (cr_aload_n_ok hx hb d_C_fewest_0 rfl rfl) ?_
  refine cr_cons (cr_getf_ok (C := R_C) (T := T_C) (N := 10) hx hb (k_C Z hU args) (fun _ h => h) hown hK rfl (by decide) (cr_w Z w_144 rfl hU args) (fun _ h => h) d_C_fewest_1 rfl) ?_
  refine cr_cons (cr_calV_ok (C := R_Ne) (Tf := T_Ne) (N := 2) hx hb hml hown hlk hU hlo hR (cr_W0_st s0) (by rw [hem]; exact fun _ h => absurd h List.not_mem_nil) hK rfl (u_Ne_clear Z) (Or.inr ⟨_, (cr_w Z w_179 rfl hU args)⟩) (cr_w Z w_181 rfl hU args) (cr_w Z ws_0 rfl hU args) (by decide) (by decide +kernel) (by decide) d_C_fewest_4 rfl) ?_
  refine cr_cons (cr_iconst_ok hx hb d_C_fewest_7 (by decide) rfl) ?_
  refine cr_cons (cr_istore_n_ok hx hb d_C_fewest_8 rfl rfl) ?_
  refine cr_cons (cr_iload_n_ok hx hb d_C_fewest_9 rfl rfl) ?_
  refine cr_cons (cr_aload_n_ok hx hb d_C_fewest_10 rfl rfl) ?_
  refine cr_cons (cr_getf_ok (C := R_C) (T := T_C) (N := 10) hx hb (k_C Z hU args) (fun _ h => h) hown hK rfl (by decide) (cr_w Z w_143 rfl hU args) (fun _ h => h) d_C_fewest_11 rfl) ?_
  refine cr_cons (cr_getfN_ok (C := R_Us) (T := T_Us) (N := 2) hx hb (k_Us Z hU args) (fun _ h => h) hown hK rfl (by decide) (cr_w Z w_114 rfl hU args) (fun _ h => h) d_C_fewest_14 rfl) ?_
  refine cr_cons (cr_alen_ok (t0 := 1) hx hb hK rfl d_C_fewest_17 rfl) ?_
  refine cr_cons (cr_icge_ok hx hb d_C_fewest_18 (by decide) rfl) ?_
  refine cr_cons (cr_aload_n_ok hx hb d_C_fewest_21 rfl rfl) ?_
  refine cr_cons (cr_getf_ok (C := R_C) (T := T_C) (N := 10) hx hb (k_C Z hU args) (fun _ h => h) hown hK rfl (by decide) (cr_w Z w_143 rfl hU args) (fun _ h => h) d_C_fewest_22 rfl) ?_
  refine cr_cons (cr_getfN_ok (C := R_Us) (T := T_Us) (N := 2) hx hb (k_Us Z hU args) (fun _ h => h) hown hK rfl (by decide) (cr_w Z w_114 rfl hU args) (fun _ h => h) d_C_fewest_25 rfl) ?_
  refine cr_cons (cr_iload_n_ok hx hb d_C_fewest_28 rfl rfl) ?_
  refine cr_cons (cr_lald_ok (t0 := 1) hx hb hK rfl d_C_fewest_29 rfl) ?_
  refine cr_cons (cr_lstore_n_ok hx hb d_C_fewest_30 rfl rfl) ?_
  refine cr_cons (cr_iconst_ok hx hb d_C_fewest_31 (by decide) rfl) ?_
  refine cr_cons (cr_istore_ok hx hb d_C_fewest_32 rfl) ?_
  refine cr_cons (cr_iload_ok hx hb d_C_fewest_34 rfl) ?_
  refine cr_cons (cr_bipush_ok hx hb d_C_fewest_36 (by decide) rfl) ?_
  refine cr_cons (cr_icge_ok hx hb d_C_fewest_38 (by decide) rfl) ?_
  refine cr_cons (cr_lload_n_ok hx hb d_C_fewest_41 rfl rfl) ?_
  refine cr_cons (cr_lconst_ok hx hb d_C_fewest_42 (by decide) rfl) ?_
  refine cr_cons (cr_lcmp_ok hx hb d_C_fewest_43 rfl) ?_
  refine cr_cons (cr_ifeq_ok hx hb d_C_fewest_44 (by decide) rfl) ?_
  refine cr_cons (cr_lload_n_ok hx hb d_C_fewest_47 rfl rfl) ?_
  refine cr_cons (cr_lconst_ok hx hb d_C_fewest_48 (by decide) rfl) ?_
  refine cr_cons (cr_land_ok hx hb d_C_fewest_49 rfl) ?_
  refine cr_cons (cr_lconst_ok hx hb d_C_fewest_50 (by decide) rfl) ?_
  exact cr_nil
set_option maxHeartbeats 4000000 in
set_option maxRecDepth 20000 in
theorem s_C_fewest_1 {p : Program} {l : Launch} {e : Env} {R : Room} {s : State} {m : MethodId} {args : Array Value} {below : List Frame} {meth : Method} {c : Code} {s0 : State} {D : va_G} {ca : Nat → ClassId} {e0 d mc ms : Nat} {Q : cr_Q} (hl : l.flags = flags0) (Z : cr_Z0 s0 D ca e0) (C : cr_C p R s m meth c (cr_W0 s0) s0.heap.size y_C_fewest c_C_fewest 5 (Option.some FieldType.int) d mc ms) (hem : c.exceptionTable.toList = []) : ∀ x ∈ t_C_fewest_1 l s0 D ca e0 d mc ms, cr_Snd p l e R s m args below meth c s0.heap.size mc ms Q x.1 x.2 := by
  obtain ⟨hx, hb, hml, hown, hr, hlk, hnm, hU, hlo, hR⟩ := C
  have hK := cr_Z0K Z hU
  have hRc : R.cells = mc := by rw [hR]; rfl
  have hRs : R.slots = ms := by rw [hR]; rfl
  unfold t_C_fewest_1
  refine cr_cons (cr_lcmp_ok hx hb d_C_fewest_51 rfl) ?_
  refine cr_cons (cr_ifeq_ok hx hb d_C_fewest_52 (by decide) rfl) ?_
  refine cr_cons (cr_aload_n_ok hx hb d_C_fewest_55 rfl rfl) ?_
  refine cr_cons (cr_getf_ok (C := R_C) (T := T_C) (N := 10) hx hb (k_C Z hU args) (fun _ h => h) hown hK rfl (by decide) (cr_w Z w_144 rfl hU args) (fun _ h => h) d_C_fewest_56 rfl) ?_
  refine cr_cons (cr_aload_n_ok hx hb d_C_fewest_59 rfl rfl) ?_
  refine cr_cons (cr_iload_n_ok hx hb d_C_fewest_60 rfl rfl) ?_
  refine cr_cons (cr_bipush_ok hx hb d_C_fewest_61 (by decide) rfl) ?_
  refine cr_cons (cr_imul_ok hx hb d_C_fewest_63 rfl) ?_
  refine cr_cons (cr_iload_ok hx hb d_C_fewest_64 rfl) ?_
  refine cr_cons (cr_iadd_ok hx hb d_C_fewest_66 rfl) ?_
  refine cr_cons (cr_calV_ok (C := R_C) (Tf := T_C) (N := 10) hx hb hml hown hlk hU hlo hR (cr_W0_st s0) (by rw [hem]; exact fun _ h => absurd h List.not_mem_nil) hK rfl (u_C_rightsThatHave Z) (Or.inl (cr_w Z w_183 rfl hU args)) (cr_w Z w_185 rfl hU args) (cr_w Z ws_1 rfl hU args) (by decide) (by decide +kernel) (by decide) d_C_fewest_67 rfl) ?_
  refine cr_cons (cr_calV_ok (C := R_Ne) (Tf := T_Ne) (N := 2) hx hb hml hown hlk hU hlo hR (cr_W0_st s0) (by rw [hem]; exact fun _ h => absurd h List.not_mem_nil) hK rfl (u_Ne_add Z) (Or.inr ⟨_, (cr_w Z w_235 rfl hU args)⟩) (cr_w Z w_237 rfl hU args) (cr_w Z ws_4 rfl hU args) (by decide) (by decide +kernel) (by decide) d_C_fewest_70 rfl) ?_
  refine cr_cons (cr_lload_n_ok hx hb d_C_fewest_73 rfl rfl) ?_
  refine cr_cons (cr_iconst_ok hx hb d_C_fewest_74 (by decide) rfl) ?_
  refine cr_cons (cr_lushr_ok hx hb d_C_fewest_75 rfl) ?_
  refine cr_cons (cr_lstore_n_ok hx hb d_C_fewest_76 rfl rfl) ?_
  refine cr_cons (cr_iinc_ok hx hb d_C_fewest_77 (by decide) rfl) ?_
  refine cr_cons (cr_goto_ok hx hb d_C_fewest_80 (by decide)) ?_
  refine cr_cons (cr_iinc_ok hx hb d_C_fewest_83 (by decide) rfl) ?_
  refine cr_cons (cr_goto_ok hx hb d_C_fewest_86 (by decide)) ?_
  refine cr_cons (cr_aload_n_ok hx hb d_C_fewest_89 rfl rfl) ?_
  refine cr_cons (cr_getf_ok (C := R_C) (T := T_C) (N := 10) hx hb (k_C Z hU args) (fun _ h => h) hown hK rfl (by decide) (cr_w Z w_144 rfl hU args) (fun _ h => h) d_C_fewest_90 rfl) ?_
  refine cr_cons (cr_calV_ok (C := R_Ne) (Tf := T_Ne) (N := 2) hx hb hml hown hlk hU hlo hR (cr_W0_st s0) (by rw [hem]; exact fun _ h => absurd h List.not_mem_nil) hK rfl (u_Ne_leastOfTheFewest Z) (Or.inr ⟨_, (cr_w Z w_239 rfl hU args)⟩) (cr_w Z w_241 rfl hU args) (cr_w Z ws_5 rfl hU args) (by decide) (by decide +kernel) (by decide) d_C_fewest_93 rfl) ?_
  refine cr_cons (cr_iret_ok hx hb hr hlk d_C_fewest_96) ?_
  exact cr_nil
theorem s_C_fewest {p : Program} {l : Launch} {e : Env} {R : Room} {s : State} {m : MethodId} {args : Array Value} {below : List Frame} {meth : Method} {c : Code} {s0 : State} {D : va_G} {ca : Nat → ClassId} {e0 d mc ms : Nat} {Q : cr_Q} (hl : l.flags = flags0) (Z : cr_Z0 s0 D ca e0) (C : cr_C p R s m meth c (cr_W0 s0) s0.heap.size y_C_fewest c_C_fewest 5 (Option.some FieldType.int) d mc ms) (hem : c.exceptionTable.toList = []) : ∀ x ∈ t_C_fewest l s0 D ca e0 d mc ms, cr_Snd p l e R s m args below meth c s0.heap.size mc ms Q x.1 x.2 := cr_app (s_C_fewest_0 hl Z C hem) (s_C_fewest_1 hl Z C hem)
theorem d_C_rightsThatHave_0 : decode c_C_rightsThatHave 0 = .ok (.iload_n 1, 1) := by decide +kernel
theorem d_C_rightsThatHave_1 : decode c_C_rightsThatHave 1 = .ok (.invokestatic 370, 3) := by decide +kernel
theorem d_C_rightsThatHave_4 : decode c_C_rightsThatHave 4 = .ok (.istore_n 2, 1) := by decide +kernel
theorem d_C_rightsThatHave_5 : decode c_C_rightsThatHave 5 = .ok (.iload_n 1, 1) := by decide +kernel
theorem d_C_rightsThatHave_6 : decode c_C_rightsThatHave 6 = .ok (.invokestatic 373, 3) := by decide +kernel
theorem d_C_rightsThatHave_9 : decode c_C_rightsThatHave 9 = .ok (.istore_n 3, 1) := by decide +kernel
theorem d_C_rightsThatHave_10 : decode c_C_rightsThatHave 10 = .ok (.iload_n 1, 1) := by decide +kernel
theorem d_C_rightsThatHave_11 : decode c_C_rightsThatHave 11 = .ok (.invokestatic 376, 3) := by decide +kernel
theorem d_C_rightsThatHave_14 : decode c_C_rightsThatHave 14 = .ok (.istore 4, 2) := by decide +kernel
theorem d_C_rightsThatHave_16 : decode c_C_rightsThatHave 16 = .ok (.iconst 0, 1) := by decide +kernel
theorem d_C_rightsThatHave_17 : decode c_C_rightsThatHave 17 = .ok (.istore 5, 2) := by decide +kernel
theorem d_C_rightsThatHave_19 : decode c_C_rightsThatHave 19 = .ok (.iconst 0, 1) := by decide +kernel
theorem d_C_rightsThatHave_20 : decode c_C_rightsThatHave 20 = .ok (.istore 6, 2) := by decide +kernel
theorem d_C_rightsThatHave_22 : decode c_C_rightsThatHave 22 = .ok (.iload 6, 2) := by decide +kernel
theorem d_C_rightsThatHave_24 : decode c_C_rightsThatHave 24 = .ok (.aload_n 0, 1) := by decide +kernel
theorem d_C_rightsThatHave_25 : decode c_C_rightsThatHave 25 = .ok (.getfield 25, 3) := by decide +kernel
theorem d_C_rightsThatHave_28 : decode c_C_rightsThatHave 28 = .ok (.invokeinterface 64 1, 5) := by decide +kernel
theorem d_C_rightsThatHave_33 : decode c_C_rightsThatHave 33 = .ok (.if_icmp .ge 42, 3) := by decide +kernel
theorem d_C_rightsThatHave_36 : decode c_C_rightsThatHave 36 = .ok (.aload_n 0, 1) := by decide +kernel
theorem d_C_rightsThatHave_37 : decode c_C_rightsThatHave 37 = .ok (.getfield 25, 3) := by decide +kernel
theorem d_C_rightsThatHave_40 : decode c_C_rightsThatHave 40 = .ok (.iload 6, 2) := by decide +kernel
theorem d_C_rightsThatHave_42 : decode c_C_rightsThatHave 42 = .ok (.invokeinterface 119 2, 5) := by decide +kernel
theorem d_C_rightsThatHave_47 : decode c_C_rightsThatHave 47 = .ok (.checkcast 149, 3) := by decide +kernel
theorem d_C_rightsThatHave_50 : decode c_C_rightsThatHave 50 = .ok (.iload_n 2, 1) := by decide +kernel
theorem d_C_rightsThatHave_51 : decode c_C_rightsThatHave 51 = .ok (.iload_n 3, 1) := by decide +kernel
theorem d_C_rightsThatHave_52 : decode c_C_rightsThatHave 52 = .ok (.iload 4, 2) := by decide +kernel
theorem d_C_rightsThatHave_54 : decode c_C_rightsThatHave 54 = .ok (.invokevirtual 333, 3) := by decide +kernel
theorem d_C_rightsThatHave_57 : decode c_C_rightsThatHave 57 = .ok (.ifCond .eq 12, 3) := by decide +kernel
theorem d_C_rightsThatHave_60 : decode c_C_rightsThatHave 60 = .ok (.iload 5, 2) := by decide +kernel
theorem d_C_rightsThatHave_62 : decode c_C_rightsThatHave 62 = .ok (.iconst 1, 1) := by decide +kernel
theorem d_C_rightsThatHave_63 : decode c_C_rightsThatHave 63 = .ok (.iload 6, 2) := by decide +kernel
theorem d_C_rightsThatHave_65 : decode c_C_rightsThatHave 65 = .ok (.ishl, 1) := by decide +kernel
theorem d_C_rightsThatHave_66 : decode c_C_rightsThatHave 66 = .ok (.ior, 1) := by decide +kernel
theorem d_C_rightsThatHave_67 : decode c_C_rightsThatHave 67 = .ok (.istore 5, 2) := by decide +kernel
theorem d_C_rightsThatHave_69 : decode c_C_rightsThatHave 69 = .ok (.iinc 6 1, 3) := by decide +kernel
theorem d_C_rightsThatHave_72 : decode c_C_rightsThatHave 72 = .ok (.goto (-50), 3) := by decide +kernel
theorem d_C_rightsThatHave_75 : decode c_C_rightsThatHave 75 = .ok (.iload 5, 2) := by decide +kernel
theorem d_C_rightsThatHave_77 : decode c_C_rightsThatHave 77 = .ok (.ireturn, 1) := by decide +kernel
def t_C_rightsThatHave_0 (l : Launch) (s0 : State) (D : va_G) (ca : Nat → ClassId) (e0 d mc ms : Nat) : List (Nat × cr_T) := [(0, cr_iload 1 1),
  (1, cr_calS l (cr_W0 s0) s0.heap.size y_Us_groupOf cw_Us_groupOf d mc ms 1 7 4),
  (4, cr_istore 2 5),
  (5, cr_iload 1 6),
  (6, cr_calS l (cr_W0 s0) s0.heap.size y_Us_zoneOf cw_Us_zoneOf d mc ms 1 7 9),
  (9, cr_istore 3 10),
  (10, cr_iload 1 11),
  (11, cr_calS l (cr_W0 s0) s0.heap.size y_Us_timeOf cw_Us_timeOf d mc ms 1 7 14),
  (14, cr_istore 4 16),
  (16, cr_push (.int 0) 17),
  (17, cr_istore 5 19),
  (19, cr_push (.int 0) 20),
  (20, cr_istore 6 22),
  (22, cr_iload 6 24),
  (24, cr_aload 0 25),
  (25, cr_getf D kc 0 4 28),
  (28, cr_calV D kc l (cr_W0 s0) s0.heap.size 12 y_AL_size cw_AL_size d mc ms 0 7 33),
  (33, cr_icge 75 36),
  (36, cr_aload 0 37),
  (37, cr_getf D kc 0 4 40),
  (40, cr_iload 6 42),
  (42, cr_calV D kc l (cr_W0 s0) s0.heap.size 12 y_AL_get cw_AL_get d mc ms 1 7 47),
  (47, cr_cast D kc 7 50),
  (50, cr_iload 2 51),
  (51, cr_iload 3 52),
  (52, cr_iload 4 54),
  (54, cr_calV D kc l (cr_W0 s0) s0.heap.size 7 y_Ri_isFor cw_Ri_isFor d mc ms 3 7 57),
  (57, cr_ifeq 69 60),
  (60, cr_iload 5 62),
  (62, cr_push (.int 1) 63)]
def t_C_rightsThatHave_1 (l : Launch) (s0 : State) (D : va_G) (ca : Nat → ClassId) (e0 d mc ms : Nat) : List (Nat × cr_T) := [(63, cr_iload 6 65),
  (65, cr_ishl 66),
  (66, cr_ior 67),
  (67, cr_istore 5 69),
  (69, cr_iinc 6 1 72),
  (72, cr_goto 22),
  (75, cr_iload 5 77),
  (77, cr_iret mc ms)]
def t_C_rightsThatHave (l : Launch) (s0 : State) (D : va_G) (ca : Nat → ClassId) (e0 d mc ms : Nat) : List (Nat × cr_T) := t_C_rightsThatHave_0 l s0 D ca e0 d mc ms ++ (t_C_rightsThatHave_1 l s0 D ca e0 d mc ms)
set_option maxHeartbeats 4000000 in
set_option maxRecDepth 20000 in
theorem s_C_rightsThatHave_0 {p : Program} {l : Launch} {e : Env} {R : Room} {s : State} {m : MethodId} {args : Array Value} {below : List Frame} {meth : Method} {c : Code} {s0 : State} {D : va_G} {ca : Nat → ClassId} {e0 d mc ms : Nat} {Q : cr_Q} (hl : l.flags = flags0) (Z : cr_Z0 s0 D ca e0) (C : cr_C p R s m meth c (cr_W0 s0) s0.heap.size y_C_rightsThatHave c_C_rightsThatHave 7 (Option.some FieldType.int) d mc ms) (hem : c.exceptionTable.toList = []) : ∀ x ∈ t_C_rightsThatHave_0 l s0 D ca e0 d mc ms, cr_Snd p l e R s m args below meth c s0.heap.size mc ms Q x.1 x.2 := by
  obtain ⟨hx, hb, hml, hown, hr, hlk, hnm, hU, hlo, hR⟩ := C
  have hK := cr_Z0K Z hU
  have hRc : R.cells = mc := by rw [hR]; rfl
  have hRs : R.slots = ms := by rw [hR]; rfl
  unfold t_C_rightsThatHave_0
  refine cr_cons (cr_iload_n_ok hx hb d_C_rightsThatHave_0 rfl rfl) ?_
  refine cr_cons (cr_calS_ok hx hb hml hown hlk hU hlo hR (cr_W0_st s0) (by rw [hem]; exact fun _ h => absurd h List.not_mem_nil) (u_Us_groupOf Z) (Or.inr ⟨_, (cr_w Z w_187 rfl hU args)⟩) (cr_w Z w_188 rfl hU args) (by decide) (by decide +kernel) (by decide) d_C_rightsThatHave_1 rfl) ?_
  refine cr_cons (cr_istore_n_ok hx hb d_C_rightsThatHave_4 rfl rfl) ?_
  refine cr_cons (cr_iload_n_ok hx hb d_C_rightsThatHave_5 rfl rfl) ?_
  refine cr_cons (cr_calS_ok hx hb hml hown hlk hU hlo hR (cr_W0_st s0) (by rw [hem]; exact fun _ h => absurd h List.not_mem_nil) (u_Us_zoneOf Z) (Or.inr ⟨_, (cr_w Z w_190 rfl hU args)⟩) (cr_w Z w_191 rfl hU args) (by decide) (by decide +kernel) (by decide) d_C_rightsThatHave_6 rfl) ?_
  refine cr_cons (cr_istore_n_ok hx hb d_C_rightsThatHave_9 rfl rfl) ?_
  refine cr_cons (cr_iload_n_ok hx hb d_C_rightsThatHave_10 rfl rfl) ?_
  refine cr_cons (cr_calS_ok hx hb hml hown hlk hU hlo hR (cr_W0_st s0) (by rw [hem]; exact fun _ h => absurd h List.not_mem_nil) (u_Us_timeOf Z) (Or.inr ⟨_, (cr_w Z w_193 rfl hU args)⟩) (cr_w Z w_194 rfl hU args) (by decide) (by decide +kernel) (by decide) d_C_rightsThatHave_11 rfl) ?_
  refine cr_cons (cr_istore_ok hx hb d_C_rightsThatHave_14 rfl) ?_
  refine cr_cons (cr_iconst_ok hx hb d_C_rightsThatHave_16 (by decide) rfl) ?_
  refine cr_cons (cr_istore_ok hx hb d_C_rightsThatHave_17 rfl) ?_
  refine cr_cons (cr_iconst_ok hx hb d_C_rightsThatHave_19 (by decide) rfl) ?_
  refine cr_cons (cr_istore_ok hx hb d_C_rightsThatHave_20 rfl) ?_
  refine cr_cons (cr_iload_ok hx hb d_C_rightsThatHave_22 rfl) ?_
  refine cr_cons (cr_aload_n_ok hx hb d_C_rightsThatHave_24 rfl rfl) ?_
  refine cr_cons (cr_getf_ok (C := R_C) (T := T_C) (N := 10) hx hb (k_C Z hU args) (fun _ h => h) hown hK rfl (by decide) (cr_w Z w_140 rfl hU args) (fun _ h => h) d_C_rightsThatHave_25 rfl) ?_
  refine cr_cons (cr_calF_ok (C := R_AL) (Tf := T_AL) (N := 3) (x := { cls := "java/util/List", name := "size", desc := "()I" }) hx hb hml hown hlk hU hlo hR (cr_W0_st s0) (by rw [hem]; exact fun _ h => absurd h List.not_mem_nil) hK rfl (u_AL_size Z) (cr_w Z w_197 rfl hU args) (cr_w Z w_199 rfl hU args) (cr_w Z w_198 rfl hU args) (cr_w Z w_201 rfl hU args) (cr_w Z w_203 rfl hU args) (cr_w Z w_204 rfl hU args) (cr_w Z w_202 rfl hU args) (cr_w Z w_200 rfl hU args) (by decide) (by decide +kernel) (by decide) d_C_rightsThatHave_28 rfl) ?_
  refine cr_cons (cr_icge_ok hx hb d_C_rightsThatHave_33 (by decide) rfl) ?_
  refine cr_cons (cr_aload_n_ok hx hb d_C_rightsThatHave_36 rfl rfl) ?_
  refine cr_cons (cr_getf_ok (C := R_C) (T := T_C) (N := 10) hx hb (k_C Z hU args) (fun _ h => h) hown hK rfl (by decide) (cr_w Z w_140 rfl hU args) (fun _ h => h) d_C_rightsThatHave_37 rfl) ?_
  refine cr_cons (cr_iload_ok hx hb d_C_rightsThatHave_40 rfl) ?_
  refine cr_cons (cr_calF_ok (C := R_AL) (Tf := T_AL) (N := 3) (x := { cls := "java/util/List", name := "get", desc := "(I)Ljava/lang/Object;" }) hx hb hml hown hlk hU hlo hR (cr_W0_st s0) (by rw [hem]; exact fun _ h => absurd h List.not_mem_nil) hK rfl (u_AL_get Z) (cr_w Z w_207 rfl hU args) (cr_w Z w_209 rfl hU args) (cr_w Z w_208 rfl hU args) (cr_w Z w_210 rfl hU args) (cr_w Z w_212 rfl hU args) (cr_w Z w_213 rfl hU args) (cr_w Z w_211 rfl hU args) (cr_w Z w_200 rfl hU args) (by decide) (by decide +kernel) (by decide) d_C_rightsThatHave_42 rfl) ?_
  refine cr_cons (cr_cast_ok (C := R_Ri) (T := T_Ri) (N := 5) hx hb hown (cr_w Z w_225 rfl hU args) hK rfl rfl d_C_rightsThatHave_47 rfl) ?_
  refine cr_cons (cr_iload_n_ok hx hb d_C_rightsThatHave_50 rfl rfl) ?_
  refine cr_cons (cr_iload_n_ok hx hb d_C_rightsThatHave_51 rfl rfl) ?_
  refine cr_cons (cr_iload_ok hx hb d_C_rightsThatHave_52 rfl) ?_
  refine cr_cons (cr_calV_ok (C := R_Ri) (Tf := T_Ri) (N := 5) hx hb hml hown hlk hU hlo hR (cr_W0_st s0) (by rw [hem]; exact fun _ h => absurd h List.not_mem_nil) hK rfl (u_Ri_isFor Z) (Or.inr ⟨_, (cr_w Z w_226 rfl hU args)⟩) (cr_w Z w_228 rfl hU args) (cr_w Z ws_2 rfl hU args) (by decide) (by decide +kernel) (by decide) d_C_rightsThatHave_54 rfl) ?_
  refine cr_cons (cr_ifeq_ok hx hb d_C_rightsThatHave_57 (by decide) rfl) ?_
  refine cr_cons (cr_iload_ok hx hb d_C_rightsThatHave_60 rfl) ?_
  refine cr_cons (cr_iconst_ok hx hb d_C_rightsThatHave_62 (by decide) rfl) ?_
  exact cr_nil
set_option maxHeartbeats 4000000 in
set_option maxRecDepth 20000 in
theorem s_C_rightsThatHave_1 {p : Program} {l : Launch} {e : Env} {R : Room} {s : State} {m : MethodId} {args : Array Value} {below : List Frame} {meth : Method} {c : Code} {s0 : State} {D : va_G} {ca : Nat → ClassId} {e0 d mc ms : Nat} {Q : cr_Q} (hl : l.flags = flags0) (Z : cr_Z0 s0 D ca e0) (C : cr_C p R s m meth c (cr_W0 s0) s0.heap.size y_C_rightsThatHave c_C_rightsThatHave 7 (Option.some FieldType.int) d mc ms) (hem : c.exceptionTable.toList = []) : ∀ x ∈ t_C_rightsThatHave_1 l s0 D ca e0 d mc ms, cr_Snd p l e R s m args below meth c s0.heap.size mc ms Q x.1 x.2 := by
  obtain ⟨hx, hb, hml, hown, hr, hlk, hnm, hU, hlo, hR⟩ := C
  have hK := cr_Z0K Z hU
  have hRc : R.cells = mc := by rw [hR]; rfl
  have hRs : R.slots = ms := by rw [hR]; rfl
  unfold t_C_rightsThatHave_1
  refine cr_cons (cr_iload_ok hx hb d_C_rightsThatHave_63 rfl) ?_
  refine cr_cons (cr_ishl_ok hx hb d_C_rightsThatHave_65 rfl) ?_
  refine cr_cons (cr_ior_ok hx hb d_C_rightsThatHave_66 rfl) ?_
  refine cr_cons (cr_istore_ok hx hb d_C_rightsThatHave_67 rfl) ?_
  refine cr_cons (cr_iinc_ok hx hb d_C_rightsThatHave_69 (by decide) rfl) ?_
  refine cr_cons (cr_goto_ok hx hb d_C_rightsThatHave_72 (by decide)) ?_
  refine cr_cons (cr_iload_ok hx hb d_C_rightsThatHave_75 rfl) ?_
  refine cr_cons (cr_iret_ok hx hb hr hlk d_C_rightsThatHave_77) ?_
  exact cr_nil
theorem s_C_rightsThatHave {p : Program} {l : Launch} {e : Env} {R : Room} {s : State} {m : MethodId} {args : Array Value} {below : List Frame} {meth : Method} {c : Code} {s0 : State} {D : va_G} {ca : Nat → ClassId} {e0 d mc ms : Nat} {Q : cr_Q} (hl : l.flags = flags0) (Z : cr_Z0 s0 D ca e0) (C : cr_C p R s m meth c (cr_W0 s0) s0.heap.size y_C_rightsThatHave c_C_rightsThatHave 7 (Option.some FieldType.int) d mc ms) (hem : c.exceptionTable.toList = []) : ∀ x ∈ t_C_rightsThatHave l s0 D ca e0 d mc ms, cr_Snd p l e R s m args below meth c s0.heap.size mc ms Q x.1 x.2 := cr_app (s_C_rightsThatHave_0 hl Z C hem) (s_C_rightsThatHave_1 hl Z C hem)
theorem d_C_now_0 : decode c_C_now 0 = .ok (.aload_n 0, 1) := by decide +kernel
theorem d_C_now_1 : decode c_C_now 1 = .ok (.getfield 56, 3) := by decide +kernel
theorem d_C_now_4 : decode c_C_now 4 = .ok (.ireturn, 1) := by decide +kernel
def t_C_now_0 (l : Launch) (s0 : State) (D : va_G) (ca : Nat → ClassId) (e0 d mc ms : Nat) : List (Nat × cr_T) := [(0, cr_aload 0 1),
  (1, cr_getf D kc 0 9 4),
  (4, cr_iret mc ms)]
def t_C_now (l : Launch) (s0 : State) (D : va_G) (ca : Nat → ClassId) (e0 d mc ms : Nat) : List (Nat × cr_T) := t_C_now_0 l s0 D ca e0 d mc ms
set_option maxHeartbeats 4000000 in
set_option maxRecDepth 20000 in
theorem s_C_now_0 {p : Program} {l : Launch} {e : Env} {R : Room} {s : State} {m : MethodId} {args : Array Value} {below : List Frame} {meth : Method} {c : Code} {s0 : State} {D : va_G} {ca : Nat → ClassId} {e0 d mc ms : Nat} {Q : cr_Q} (hl : l.flags = flags0) (Z : cr_Z0 s0 D ca e0) (C : cr_C p R s m meth c (cr_W0 s0) s0.heap.size y_C_now c_C_now 1 (Option.some FieldType.int) d mc ms) (hem : c.exceptionTable.toList = []) : ∀ x ∈ t_C_now_0 l s0 D ca e0 d mc ms, cr_Snd p l e R s m args below meth c s0.heap.size mc ms Q x.1 x.2 := by
  obtain ⟨hx, hb, hml, hown, hr, hlk, hnm, hU, hlo, hR⟩ := C
  have hK := cr_Z0K Z hU
  have hRc : R.cells = mc := by rw [hR]; rfl
  have hRs : R.slots = ms := by rw [hR]; rfl
  unfold t_C_now_0
  refine cr_cons (cr_aload_n_ok hx hb d_C_now_0 rfl rfl) ?_
  refine cr_cons (cr_getf_ok (C := R_C) (T := T_C) (N := 10) hx hb (k_C Z hU args) (fun _ h => h) hown hK rfl (by decide) (cr_w Z w_145 rfl hU args) (fun _ h => h) d_C_now_1 rfl) ?_
  refine cr_cons (cr_iret_ok hx hb hr hlk d_C_now_4) ?_
  exact cr_nil
theorem s_C_now {p : Program} {l : Launch} {e : Env} {R : Room} {s : State} {m : MethodId} {args : Array Value} {below : List Frame} {meth : Method} {c : Code} {s0 : State} {D : va_G} {ca : Nat → ClassId} {e0 d mc ms : Nat} {Q : cr_Q} (hl : l.flags = flags0) (Z : cr_Z0 s0 D ca e0) (C : cr_C p R s m meth c (cr_W0 s0) s0.heap.size y_C_now c_C_now 1 (Option.some FieldType.int) d mc ms) (hem : c.exceptionTable.toList = []) : ∀ x ∈ t_C_now l s0 D ca e0 d mc ms, cr_Snd p l e R s m args below meth c s0.heap.size mc ms Q x.1 x.2 := s_C_now_0 hl Z C hem
theorem d_C_room_0 : decode c_C_room 0 = .ok (.iload_n 1, 1) := by decide +kernel
theorem d_C_room_1 : decode c_C_room 1 = .ok (.invokestatic 60, 3) := by decide +kernel
theorem d_C_room_4 : decode c_C_room 4 = .ok (.aload_n 0, 1) := by decide +kernel
theorem d_C_room_5 : decode c_C_room 5 = .ok (.getfield 10, 3) := by decide +kernel
theorem d_C_room_8 : decode c_C_room 8 = .ok (.invokeinterface 64 1, 5) := by decide +kernel
theorem d_C_room_13 : decode c_C_room 13 = .ok (.bipush 20, 2) := by decide +kernel
theorem d_C_room_15 : decode c_C_room 15 = .ok (.if_icmp .lt 13, 3) := by decide +kernel
theorem d_C_room_18 : decode c_C_room 18 = .ok (.new 70, 3) := by decide +kernel
theorem d_C_room_21 : decode c_C_room 21 = .ok (.dup, 1) := by decide +kernel
theorem d_C_room_22 : decode c_C_room 22 = .ok (.ldc 72, 2) := by decide +kernel
theorem d_C_room_24 : decode c_C_room 24 = .ok (.invokespecial 74, 3) := by decide +kernel
theorem d_C_room_27 : decode c_C_room 27 = .ok (.athrow, 1) := by decide +kernel
theorem d_C_room_28 : decode c_C_room 28 = .ok (.new 77, 3) := by decide +kernel
theorem d_C_room_31 : decode c_C_room 31 = .ok (.dup, 1) := by decide +kernel
theorem d_C_room_32 : decode c_C_room 32 = .ok (.aload_n 0, 1) := by decide +kernel
theorem d_C_room_33 : decode c_C_room 33 = .ok (.getfield 10, 3) := by decide +kernel
theorem d_C_room_36 : decode c_C_room 36 = .ok (.invokeinterface 64 1, 5) := by decide +kernel
theorem d_C_room_41 : decode c_C_room 41 = .ok (.iload_n 1, 1) := by decide +kernel
theorem d_C_room_42 : decode c_C_room 42 = .ok (.invokespecial 79, 3) := by decide +kernel
theorem d_C_room_45 : decode c_C_room 45 = .ok (.astore_n 2, 1) := by decide +kernel
theorem d_C_room_46 : decode c_C_room 46 = .ok (.aload_n 0, 1) := by decide +kernel
theorem d_C_room_47 : decode c_C_room 47 = .ok (.getfield 10, 3) := by decide +kernel
theorem d_C_room_50 : decode c_C_room 50 = .ok (.aload_n 2, 1) := by decide +kernel
theorem d_C_room_51 : decode c_C_room 51 = .ok (.invokeinterface 82 2, 5) := by decide +kernel
theorem d_C_room_56 : decode c_C_room 56 = .ok (.pop, 1) := by decide +kernel
theorem d_C_room_57 : decode c_C_room 57 = .ok (.aload_n 2, 1) := by decide +kernel
theorem d_C_room_58 : decode c_C_room 58 = .ok (.getfield 86, 3) := by decide +kernel
theorem d_C_room_61 : decode c_C_room 61 = .ok (.ireturn, 1) := by decide +kernel
def t_C_room_0 (l : Launch) (s0 : State) (D : va_G) (ca : Nat → ClassId) (e0 d mc ms : Nat) : List (Nat × cr_T) := [(0, cr_iload 1 1),
  (1, cr_calS l (cr_W0 s0) s0.heap.size y_C_checkZone cw_C_checkZone d mc ms 1 3 4),
  (4, cr_aload 0 5),
  (5, cr_getf D kc 0 0 8),
  (8, cr_calV D kc l (cr_W0 s0) s0.heap.size 12 y_AL_size cw_AL_size d mc ms 0 3 13),
  (13, cr_push (.int 20) 15),
  (15, cr_iclt 28 18),
  (18, cr_thr s0 mc ms d 2 3),
  (28, cr_new D kc s0.heap.size mc ms 8 2 [.int 0, .int 0] 31),
  (31, cr_dup 32),
  (32, cr_aload 0 33),
  (33, cr_getf D kc 0 0 36),
  (36, cr_calV D kc l (cr_W0 s0) s0.heap.size 12 y_AL_size cw_AL_size d mc ms 0 3 41),
  (41, cr_iload 1 42),
  (42, cr_calI l (cr_W0 s0) s0.heap.size y_Ro_init cw_Ro_init d mc ms 2 3 45),
  (45, cr_astore 2 46),
  (46, cr_aload 0 47),
  (47, cr_getf D kc 0 0 50),
  (50, cr_aload 2 51),
  (51, cr_calV D kc l (cr_W0 s0) s0.heap.size 12 y_AL_add0 cw_AL_add0 d mc ms 1 3 56),
  (56, cr_pop 57),
  (57, cr_aload 2 58),
  (58, cr_getf D kc 8 0 61),
  (61, cr_iret mc ms)]
def t_C_room (l : Launch) (s0 : State) (D : va_G) (ca : Nat → ClassId) (e0 d mc ms : Nat) : List (Nat × cr_T) := t_C_room_0 l s0 D ca e0 d mc ms
set_option maxHeartbeats 4000000 in
set_option maxRecDepth 20000 in
theorem s_C_room_0 {p : Program} {l : Launch} {e : Env} {R : Room} {s : State} {m : MethodId} {args : Array Value} {below : List Frame} {meth : Method} {c : Code} {s0 : State} {D : va_G} {ca : Nat → ClassId} {e0 d mc ms : Nat} {Q : cr_Q} (hl : l.flags = flags0) (Z : cr_Z0 s0 D ca e0) (C : cr_C p R s m meth c (cr_W0 s0) s0.heap.size y_C_room c_C_room 3 (Option.some FieldType.int) d mc ms) (hem : c.exceptionTable.toList = []) : ∀ x ∈ t_C_room_0 l s0 D ca e0 d mc ms, cr_Snd p l e R s m args below meth c s0.heap.size mc ms Q x.1 x.2 := by
  obtain ⟨hx, hb, hml, hown, hr, hlk, hnm, hU, hlo, hR⟩ := C
  have hK := cr_Z0K Z hU
  have hRc : R.cells = mc := by rw [hR]; rfl
  have hRs : R.slots = ms := by rw [hR]; rfl
  unfold t_C_room_0
  refine cr_cons (cr_iload_n_ok hx hb d_C_room_0 rfl rfl) ?_
  refine cr_cons (cr_calS_ok hx hb hml hown hlk hU hlo hR (cr_W0_st s0) (by rw [hem]; exact fun _ h => absurd h List.not_mem_nil) (u_C_checkZone Z) (Or.inl (cr_w Z w_264 rfl hU args)) (cr_w Z w_265 rfl hU args) (by decide) (by decide +kernel) (by decide) d_C_room_1 rfl) ?_
  refine cr_cons (cr_aload_n_ok hx hb d_C_room_4 rfl rfl) ?_
  refine cr_cons (cr_getf_ok (C := R_C) (T := T_C) (N := 10) hx hb (k_C Z hU args) (fun _ h => h) hown hK rfl (by decide) (cr_w Z w_136 rfl hU args) (fun _ h => h) d_C_room_5 rfl) ?_
  refine cr_cons (cr_calF_ok (C := R_AL) (Tf := T_AL) (N := 3) (x := { cls := "java/util/List", name := "size", desc := "()I" }) hx hb hml hown hlk hU hlo hR (cr_W0_st s0) (by rw [hem]; exact fun _ h => absurd h List.not_mem_nil) hK rfl (u_AL_size Z) (cr_w Z w_197 rfl hU args) (cr_w Z w_199 rfl hU args) (cr_w Z w_198 rfl hU args) (cr_w Z w_201 rfl hU args) (cr_w Z w_203 rfl hU args) (cr_w Z w_204 rfl hU args) (cr_w Z w_202 rfl hU args) (cr_w Z w_200 rfl hU args) (by decide) (by decide +kernel) (by decide) d_C_room_8 rfl) ?_
  refine cr_cons (cr_bipush_ok hx hb d_C_room_13 (by decide) rfl) ?_
  refine cr_cons (cr_iclt_ok hx hb d_C_room_15 (by decide) rfl) ?_
  refine cr_cons (cr_thr_ok (X := "java/lang/IllegalStateException") hx hb hml hown hlk hU hR hem Z hl rfl w_334 w_335 w_15 own_C_74 str_72 d_C_room_18 d_C_room_21 d_C_room_22 d_C_room_24 d_C_room_27) ?_
  refine cr_cons (cr_new_ok (C := R_Ro) (T := T_Ro) (N := 2) tt_Ro hx hb (k_Ro Z hU args) (fun _ h => h) ty_Ro hown (cr_w Z w_350 rfl hU args) (cr_w Z w_351 rfl hU args) (cr_w Z w_16 rfl hU args) hK rfl (by decide +kernel) hlo hRc hRs d_C_room_28 rfl) ?_
  refine cr_cons (cr_dup_ok hx hb d_C_room_31 rfl) ?_
  refine cr_cons (cr_aload_n_ok hx hb d_C_room_32 rfl rfl) ?_
  refine cr_cons (cr_getf_ok (C := R_C) (T := T_C) (N := 10) hx hb (k_C Z hU args) (fun _ h => h) hown hK rfl (by decide) (cr_w Z w_136 rfl hU args) (fun _ h => h) d_C_room_33 rfl) ?_
  refine cr_cons (cr_calF_ok (C := R_AL) (Tf := T_AL) (N := 3) (x := { cls := "java/util/List", name := "size", desc := "()I" }) hx hb hml hown hlk hU hlo hR (cr_W0_st s0) (by rw [hem]; exact fun _ h => absurd h List.not_mem_nil) hK rfl (u_AL_size Z) (cr_w Z w_197 rfl hU args) (cr_w Z w_199 rfl hU args) (cr_w Z w_198 rfl hU args) (cr_w Z w_201 rfl hU args) (cr_w Z w_203 rfl hU args) (cr_w Z w_204 rfl hU args) (cr_w Z w_202 rfl hU args) (cr_w Z w_200 rfl hU args) (by decide) (by decide +kernel) (by decide) d_C_room_36 rfl) ?_
  refine cr_cons (cr_iload_n_ok hx hb d_C_room_41 rfl rfl) ?_
  refine cr_cons (cr_calI_ok hx hb hml hown hlk hU hlo hR (cr_W0_st s0) (by rw [hem]; exact fun _ h => absurd h List.not_mem_nil) (u_Ro_init Z) (Or.inr ⟨_, (cr_w Z w_352 rfl hU args)⟩) (cr_w Z w_353 rfl hU args) rfl (by decide) (by decide +kernel) (by decide) d_C_room_42 rfl) ?_
  refine cr_cons (cr_astore_n_ok hx hb d_C_room_45 rfl rfl) ?_
  refine cr_cons (cr_aload_n_ok hx hb d_C_room_46 rfl rfl) ?_
  refine cr_cons (cr_getf_ok (C := R_C) (T := T_C) (N := 10) hx hb (k_C Z hU args) (fun _ h => h) hown hK rfl (by decide) (cr_w Z w_136 rfl hU args) (fun _ h => h) d_C_room_47 rfl) ?_
  refine cr_cons (cr_aload_n_ok hx hb d_C_room_50 rfl rfl) ?_
  refine cr_cons (cr_calF_ok (C := R_AL) (Tf := T_AL) (N := 3) (x := { cls := "java/util/List", name := "add", desc := "(Ljava/lang/Object;)Z" }) hx hb hml hown hlk hU hlo hR (cr_W0_st s0) (by rw [hem]; exact fun _ h => absurd h List.not_mem_nil) hK rfl (u_AL_add0 Z) (cr_w Z w_366 rfl hU args) (cr_w Z w_368 rfl hU args) (cr_w Z w_367 rfl hU args) (cr_w Z w_369 rfl hU args) (cr_w Z w_371 rfl hU args) (cr_w Z w_372 rfl hU args) (cr_w Z w_370 rfl hU args) (cr_w Z w_200 rfl hU args) (by decide) (by decide +kernel) (by decide) d_C_room_51 rfl) ?_
  refine cr_cons (cr_pop_ok hx hb d_C_room_56 rfl) ?_
  refine cr_cons (cr_aload_n_ok hx hb d_C_room_57 rfl rfl) ?_
  refine cr_cons (cr_getfN_ok (C := R_Ro) (T := T_Ro) (N := 2) hx hb (k_Ro Z hU args) (fun _ h => h) hown hK rfl (by decide) (cr_w Z w_357 rfl hU args) (fun _ h => h) d_C_room_58 rfl) ?_
  refine cr_cons (cr_iret_ok hx hb hr hlk d_C_room_61) ?_
  exact cr_nil
theorem s_C_room {p : Program} {l : Launch} {e : Env} {R : Room} {s : State} {m : MethodId} {args : Array Value} {below : List Frame} {meth : Method} {c : Code} {s0 : State} {D : va_G} {ca : Nat → ClassId} {e0 d mc ms : Nat} {Q : cr_Q} (hl : l.flags = flags0) (Z : cr_Z0 s0 D ca e0) (C : cr_C p R s m meth c (cr_W0 s0) s0.heap.size y_C_room c_C_room 3 (Option.some FieldType.int) d mc ms) (hem : c.exceptionTable.toList = []) : ∀ x ∈ t_C_room l s0 D ca e0 d mc ms, cr_Snd p l e R s m args below meth c s0.heap.size mc ms Q x.1 x.2 := s_C_room_0 hl Z C hem
theorem d_C_checkZone_0 : decode c_C_checkZone 0 = .ok (.iload_n 0, 1) := by decide +kernel
theorem d_C_checkZone_1 : decode c_C_checkZone 1 = .ok (.ifCond .lt 9, 3) := by decide +kernel
theorem d_C_checkZone_4 : decode c_C_checkZone 4 = .ok (.iload_n 0, 1) := by decide +kernel
theorem d_C_checkZone_5 : decode c_C_checkZone 5 = .ok (.bipush 10, 2) := by decide +kernel
theorem d_C_checkZone_7 : decode c_C_checkZone 7 = .ok (.if_icmp .lt 14, 3) := by decide +kernel
theorem d_C_checkZone_10 : decode c_C_checkZone 10 = .ok (.new 93, 3) := by decide +kernel
theorem d_C_checkZone_13 : decode c_C_checkZone 13 = .ok (.dup, 1) := by decide +kernel
theorem d_C_checkZone_14 : decode c_C_checkZone 14 = .ok (.ldc_w 272, 3) := by decide +kernel
theorem d_C_checkZone_17 : decode c_C_checkZone 17 = .ok (.invokespecial 97, 3) := by decide +kernel
theorem d_C_checkZone_20 : decode c_C_checkZone 20 = .ok (.athrow, 1) := by decide +kernel
theorem d_C_checkZone_21 : decode c_C_checkZone 21 = .ok (.return_, 1) := by decide +kernel
def t_C_checkZone_0 (l : Launch) (s0 : State) (D : va_G) (ca : Nat → ClassId) (e0 d mc ms : Nat) : List (Nat × cr_T) := [(0, cr_iload 0 1),
  (1, cr_iflt 10 4),
  (4, cr_iload 0 5),
  (5, cr_push (.int 10) 7),
  (7, cr_iclt 21 10),
  (10, cr_thr s0 mc ms d 1 1),
  (21, cr_vret mc ms)]
def t_C_checkZone (l : Launch) (s0 : State) (D : va_G) (ca : Nat → ClassId) (e0 d mc ms : Nat) : List (Nat × cr_T) := t_C_checkZone_0 l s0 D ca e0 d mc ms
set_option maxHeartbeats 4000000 in
set_option maxRecDepth 20000 in
theorem s_C_checkZone_0 {p : Program} {l : Launch} {e : Env} {R : Room} {s : State} {m : MethodId} {args : Array Value} {below : List Frame} {meth : Method} {c : Code} {s0 : State} {D : va_G} {ca : Nat → ClassId} {e0 d mc ms : Nat} {Q : cr_Q} (hl : l.flags = flags0) (Z : cr_Z0 s0 D ca e0) (C : cr_C p R s m meth c (cr_W0 s0) s0.heap.size y_C_checkZone c_C_checkZone 1 (Option.none : Option FieldType) d mc ms) (hem : c.exceptionTable.toList = []) : ∀ x ∈ t_C_checkZone_0 l s0 D ca e0 d mc ms, cr_Snd p l e R s m args below meth c s0.heap.size mc ms Q x.1 x.2 := by
  obtain ⟨hx, hb, hml, hown, hr, hlk, hnm, hU, hlo, hR⟩ := C
  have hK := cr_Z0K Z hU
  have hRc : R.cells = mc := by rw [hR]; rfl
  have hRs : R.slots = ms := by rw [hR]; rfl
  unfold t_C_checkZone_0
  refine cr_cons (cr_iload_n_ok hx hb d_C_checkZone_0 rfl rfl) ?_
  refine cr_cons (cr_iflt_ok hx hb d_C_checkZone_1 (by decide) rfl) ?_
  refine cr_cons (cr_iload_n_ok hx hb d_C_checkZone_4 rfl rfl) ?_
  refine cr_cons (cr_bipush_ok hx hb d_C_checkZone_5 (by decide) rfl) ?_
  refine cr_cons (cr_iclt_ok hx hb d_C_checkZone_7 (by decide) rfl) ?_
  refine cr_cons (cr_thrw_ok (X := "java/lang/IllegalArgumentException") hx hb hml hown hlk hU hR hem Z hl rfl w_267 w_268 w_14 own_C_97 str_272 d_C_checkZone_10 d_C_checkZone_13 d_C_checkZone_14 d_C_checkZone_17 d_C_checkZone_20) ?_
  refine cr_cons (cr_vret_ok hx hb hr hlk d_C_checkZone_21) ?_
  exact cr_nil
theorem s_C_checkZone {p : Program} {l : Launch} {e : Env} {R : Room} {s : State} {m : MethodId} {args : Array Value} {below : List Frame} {meth : Method} {c : Code} {s0 : State} {D : va_G} {ca : Nat → ClassId} {e0 d mc ms : Nat} {Q : cr_Q} (hl : l.flags = flags0) (Z : cr_Z0 s0 D ca e0) (C : cr_C p R s m meth c (cr_W0 s0) s0.heap.size y_C_checkZone c_C_checkZone 1 (Option.none : Option FieldType) d mc ms) (hem : c.exceptionTable.toList = []) : ∀ x ∈ t_C_checkZone l s0 D ca e0 d mc ms, cr_Snd p l e R s m args below meth c s0.heap.size mc ms Q x.1 x.2 := s_C_checkZone_0 hl Z C hem
theorem d_C_door_0 : decode c_C_door 0 = .ok (.aload_n 0, 1) := by decide +kernel
theorem d_C_door_1 : decode c_C_door 1 = .ok (.iload_n 1, 1) := by decide +kernel
theorem d_C_door_2 : decode c_C_door 2 = .ok (.invokevirtual 89, 3) := by decide +kernel
theorem d_C_door_5 : decode c_C_door 5 = .ok (.astore_n 3, 1) := by decide +kernel
theorem d_C_door_6 : decode c_C_door 6 = .ok (.aload_n 0, 1) := by decide +kernel
theorem d_C_door_7 : decode c_C_door 7 = .ok (.iload_n 2, 1) := by decide +kernel
theorem d_C_door_8 : decode c_C_door 8 = .ok (.invokevirtual 89, 3) := by decide +kernel
theorem d_C_door_11 : decode c_C_door 11 = .ok (.astore 4, 2) := by decide +kernel
theorem d_C_door_13 : decode c_C_door 13 = .ok (.iload_n 1, 1) := by decide +kernel
theorem d_C_door_14 : decode c_C_door 14 = .ok (.iload_n 2, 1) := by decide +kernel
theorem d_C_door_15 : decode c_C_door 15 = .ok (.if_icmp .ne 13, 3) := by decide +kernel
theorem d_C_door_18 : decode c_C_door 18 = .ok (.new 93, 3) := by decide +kernel
theorem d_C_door_21 : decode c_C_door 21 = .ok (.dup, 1) := by decide +kernel
theorem d_C_door_22 : decode c_C_door 22 = .ok (.ldc 95, 2) := by decide +kernel
theorem d_C_door_24 : decode c_C_door 24 = .ok (.invokespecial 97, 3) := by decide +kernel
theorem d_C_door_27 : decode c_C_door 27 = .ok (.athrow, 1) := by decide +kernel
theorem d_C_door_28 : decode c_C_door 28 = .ok (.aload_n 0, 1) := by decide +kernel
theorem d_C_door_29 : decode c_C_door 29 = .ok (.getfield 16, 3) := by decide +kernel
theorem d_C_door_32 : decode c_C_door 32 = .ok (.invokeinterface 64 1, 5) := by decide +kernel
theorem d_C_door_37 : decode c_C_door 37 = .ok (.bipush 30, 2) := by decide +kernel
theorem d_C_door_39 : decode c_C_door 39 = .ok (.if_icmp .lt 13, 3) := by decide +kernel
theorem d_C_door_42 : decode c_C_door 42 = .ok (.new 70, 3) := by decide +kernel
theorem d_C_door_45 : decode c_C_door 45 = .ok (.dup, 1) := by decide +kernel
theorem d_C_door_46 : decode c_C_door 46 = .ok (.ldc 98, 2) := by decide +kernel
theorem d_C_door_48 : decode c_C_door 48 = .ok (.invokespecial 74, 3) := by decide +kernel
theorem d_C_door_51 : decode c_C_door 51 = .ok (.athrow, 1) := by decide +kernel
theorem d_C_door_52 : decode c_C_door 52 = .ok (.new 100, 3) := by decide +kernel
theorem d_C_door_55 : decode c_C_door 55 = .ok (.dup, 1) := by decide +kernel
theorem d_C_door_56 : decode c_C_door 56 = .ok (.aload_n 0, 1) := by decide +kernel
theorem d_C_door_57 : decode c_C_door 57 = .ok (.getfield 16, 3) := by decide +kernel
theorem d_C_door_60 : decode c_C_door 60 = .ok (.invokeinterface 64 1, 5) := by decide +kernel
theorem d_C_door_65 : decode c_C_door 65 = .ok (.aload_n 3, 1) := by decide +kernel
theorem d_C_door_66 : decode c_C_door 66 = .ok (.aload 4, 2) := by decide +kernel
theorem d_C_door_68 : decode c_C_door 68 = .ok (.invokespecial 102, 3) := by decide +kernel
theorem d_C_door_71 : decode c_C_door 71 = .ok (.astore 5, 2) := by decide +kernel
theorem d_C_door_73 : decode c_C_door 73 = .ok (.aload_n 0, 1) := by decide +kernel
theorem d_C_door_74 : decode c_C_door 74 = .ok (.getfield 16, 3) := by decide +kernel
theorem d_C_door_77 : decode c_C_door 77 = .ok (.aload 5, 2) := by decide +kernel
theorem d_C_door_79 : decode c_C_door 79 = .ok (.invokeinterface 82 2, 5) := by decide +kernel
theorem d_C_door_84 : decode c_C_door 84 = .ok (.pop, 1) := by decide +kernel
theorem d_C_door_85 : decode c_C_door 85 = .ok (.aload 5, 2) := by decide +kernel
theorem d_C_door_87 : decode c_C_door 87 = .ok (.getfield 105, 3) := by decide +kernel
theorem d_C_door_90 : decode c_C_door 90 = .ok (.ireturn, 1) := by decide +kernel
def t_C_door_0 (l : Launch) (s0 : State) (D : va_G) (ca : Nat → ClassId) (e0 d mc ms : Nat) : List (Nat × cr_T) := [(0, cr_aload 0 1),
  (1, cr_iload 1 2),
  (2, cr_calV D kc l (cr_W0 s0) s0.heap.size 0 y_C_roomNumbered cw_C_roomNumbered d mc ms 1 6 5),
  (5, cr_astore 3 6),
  (6, cr_aload 0 7),
  (7, cr_iload 2 8),
  (8, cr_calV D kc l (cr_W0 s0) s0.heap.size 0 y_C_roomNumbered cw_C_roomNumbered d mc ms 1 6 11),
  (11, cr_astore 4 13),
  (13, cr_iload 1 14),
  (14, cr_iload 2 15),
  (15, cr_icne 28 18),
  (18, cr_thr s0 mc ms d 1 6),
  (28, cr_aload 0 29),
  (29, cr_getf D kc 0 1 32),
  (32, cr_calV D kc l (cr_W0 s0) s0.heap.size 12 y_AL_size cw_AL_size d mc ms 0 6 37),
  (37, cr_push (.int 30) 39),
  (39, cr_iclt 52 42),
  (42, cr_thr s0 mc ms d 2 6),
  (52, cr_new D kc s0.heap.size mc ms 2 10 [.int 0, .null, .null, .int 0, .int 0, .int 0, .int 0, .int 0, .null, .null] 55),
  (55, cr_dup 56),
  (56, cr_aload 0 57),
  (57, cr_getf D kc 0 1 60),
  (60, cr_calV D kc l (cr_W0 s0) s0.heap.size 12 y_AL_size cw_AL_size d mc ms 0 6 65),
  (65, cr_aload 3 66),
  (66, cr_aload 4 68),
  (68, cr_calI l (cr_W0 s0) s0.heap.size y_Dr_init cw_Dr_init d mc ms 3 6 71),
  (71, cr_astore 5 73),
  (73, cr_aload 0 74),
  (74, cr_getf D kc 0 1 77),
  (77, cr_aload 5 79)]
def t_C_door_1 (l : Launch) (s0 : State) (D : va_G) (ca : Nat → ClassId) (e0 d mc ms : Nat) : List (Nat × cr_T) := [(79, cr_calV D kc l (cr_W0 s0) s0.heap.size 12 y_AL_add0 cw_AL_add0 d mc ms 1 6 84),
  (84, cr_pop 85),
  (85, cr_aload 5 87),
  (87, cr_getf D kc 2 0 90),
  (90, cr_iret mc ms)]
def t_C_door (l : Launch) (s0 : State) (D : va_G) (ca : Nat → ClassId) (e0 d mc ms : Nat) : List (Nat × cr_T) := t_C_door_0 l s0 D ca e0 d mc ms ++ (t_C_door_1 l s0 D ca e0 d mc ms)
set_option maxHeartbeats 4000000 in
set_option maxRecDepth 20000 in
theorem s_C_door_0 {p : Program} {l : Launch} {e : Env} {R : Room} {s : State} {m : MethodId} {args : Array Value} {below : List Frame} {meth : Method} {c : Code} {s0 : State} {D : va_G} {ca : Nat → ClassId} {e0 d mc ms : Nat} {Q : cr_Q} (hl : l.flags = flags0) (Z : cr_Z0 s0 D ca e0) (C : cr_C p R s m meth c (cr_W0 s0) s0.heap.size y_C_door c_C_door 6 (Option.some FieldType.int) d mc ms) (hem : c.exceptionTable.toList = []) : ∀ x ∈ t_C_door_0 l s0 D ca e0 d mc ms, cr_Snd p l e R s m args below meth c s0.heap.size mc ms Q x.1 x.2 := by
  obtain ⟨hx, hb, hml, hown, hr, hlk, hnm, hU, hlo, hR⟩ := C
  have hK := cr_Z0K Z hU
  have hRc : R.cells = mc := by rw [hR]; rfl
  have hRs : R.slots = ms := by rw [hR]; rfl
  unfold t_C_door_0
  refine cr_cons (cr_aload_n_ok hx hb d_C_door_0 rfl rfl) ?_
  refine cr_cons (cr_iload_n_ok hx hb d_C_door_1 rfl rfl) ?_
  refine cr_cons (cr_calV_ok (C := R_C) (Tf := T_C) (N := 10) hx hb hml hown hlk hU hlo hR (cr_W0_st s0) (by rw [hem]; exact fun _ h => absurd h List.not_mem_nil) hK rfl (u_C_roomNumbered Z) (Or.inl (cr_w Z w_439 rfl hU args)) (cr_w Z w_441 rfl hU args) (cr_w Z ws_12 rfl hU args) (by decide) (by decide +kernel) (by decide) d_C_door_2 rfl) ?_
  refine cr_cons (cr_astore_n_ok hx hb d_C_door_5 rfl rfl) ?_
  refine cr_cons (cr_aload_n_ok hx hb d_C_door_6 rfl rfl) ?_
  refine cr_cons (cr_iload_n_ok hx hb d_C_door_7 rfl rfl) ?_
  refine cr_cons (cr_calV_ok (C := R_C) (Tf := T_C) (N := 10) hx hb hml hown hlk hU hlo hR (cr_W0_st s0) (by rw [hem]; exact fun _ h => absurd h List.not_mem_nil) hK rfl (u_C_roomNumbered Z) (Or.inl (cr_w Z w_439 rfl hU args)) (cr_w Z w_441 rfl hU args) (cr_w Z ws_12 rfl hU args) (by decide) (by decide +kernel) (by decide) d_C_door_8 rfl) ?_
  refine cr_cons (cr_astore_ok hx hb d_C_door_11 rfl) ?_
  refine cr_cons (cr_iload_n_ok hx hb d_C_door_13 rfl rfl) ?_
  refine cr_cons (cr_iload_n_ok hx hb d_C_door_14 rfl rfl) ?_
  refine cr_cons (cr_icne_ok hx hb d_C_door_15 (by decide) rfl) ?_
  refine cr_cons (cr_thr_ok (X := "java/lang/IllegalArgumentException") hx hb hml hown hlk hU hR hem Z hl rfl w_267 w_268 w_14 own_C_97 str_95 d_C_door_18 d_C_door_21 d_C_door_22 d_C_door_24 d_C_door_27) ?_
  refine cr_cons (cr_aload_n_ok hx hb d_C_door_28 rfl rfl) ?_
  refine cr_cons (cr_getf_ok (C := R_C) (T := T_C) (N := 10) hx hb (k_C Z hU args) (fun _ h => h) hown hK rfl (by decide) (cr_w Z w_137 rfl hU args) (fun _ h => h) d_C_door_29 rfl) ?_
  refine cr_cons (cr_calF_ok (C := R_AL) (Tf := T_AL) (N := 3) (x := { cls := "java/util/List", name := "size", desc := "()I" }) hx hb hml hown hlk hU hlo hR (cr_W0_st s0) (by rw [hem]; exact fun _ h => absurd h List.not_mem_nil) hK rfl (u_AL_size Z) (cr_w Z w_197 rfl hU args) (cr_w Z w_199 rfl hU args) (cr_w Z w_198 rfl hU args) (cr_w Z w_201 rfl hU args) (cr_w Z w_203 rfl hU args) (cr_w Z w_204 rfl hU args) (cr_w Z w_202 rfl hU args) (cr_w Z w_200 rfl hU args) (by decide) (by decide +kernel) (by decide) d_C_door_32 rfl) ?_
  refine cr_cons (cr_bipush_ok hx hb d_C_door_37 (by decide) rfl) ?_
  refine cr_cons (cr_iclt_ok hx hb d_C_door_39 (by decide) rfl) ?_
  refine cr_cons (cr_thr_ok (X := "java/lang/IllegalStateException") hx hb hml hown hlk hU hR hem Z hl rfl w_334 w_335 w_15 own_C_74 str_98 d_C_door_42 d_C_door_45 d_C_door_46 d_C_door_48 d_C_door_51) ?_
  refine cr_cons (cr_new_ok (C := R_Dr) (T := T_Dr) (N := 10) tt_Dr hx hb (k_Dr Z hU args) (fun _ h => h) ty_Dr hown (cr_w Z w_446 rfl hU args) (cr_w Z w_447 rfl hU args) (cr_w Z w_22 rfl hU args) hK rfl (by decide +kernel) hlo hRc hRs d_C_door_52 rfl) ?_
  refine cr_cons (cr_dup_ok hx hb d_C_door_55 rfl) ?_
  refine cr_cons (cr_aload_n_ok hx hb d_C_door_56 rfl rfl) ?_
  refine cr_cons (cr_getf_ok (C := R_C) (T := T_C) (N := 10) hx hb (k_C Z hU args) (fun _ h => h) hown hK rfl (by decide) (cr_w Z w_137 rfl hU args) (fun _ h => h) d_C_door_57 rfl) ?_
  refine cr_cons (cr_calF_ok (C := R_AL) (Tf := T_AL) (N := 3) (x := { cls := "java/util/List", name := "size", desc := "()I" }) hx hb hml hown hlk hU hlo hR (cr_W0_st s0) (by rw [hem]; exact fun _ h => absurd h List.not_mem_nil) hK rfl (u_AL_size Z) (cr_w Z w_197 rfl hU args) (cr_w Z w_199 rfl hU args) (cr_w Z w_198 rfl hU args) (cr_w Z w_201 rfl hU args) (cr_w Z w_203 rfl hU args) (cr_w Z w_204 rfl hU args) (cr_w Z w_202 rfl hU args) (cr_w Z w_200 rfl hU args) (by decide) (by decide +kernel) (by decide) d_C_door_60 rfl) ?_
  refine cr_cons (cr_aload_n_ok hx hb d_C_door_65 rfl rfl) ?_
  refine cr_cons (cr_aload_ok hx hb d_C_door_66 rfl) ?_
  refine cr_cons (cr_calI_ok hx hb hml hown hlk hU hlo hR (cr_W0_st s0) (by rw [hem]; exact fun _ h => absurd h List.not_mem_nil) (u_Dr_init Z) (Or.inr ⟨_, (cr_w Z w_448 rfl hU args)⟩) (cr_w Z w_449 rfl hU args) rfl (by decide) (by decide +kernel) (by decide) d_C_door_68 rfl) ?_
  refine cr_cons (cr_astore_ok hx hb d_C_door_71 rfl) ?_
  refine cr_cons (cr_aload_n_ok hx hb d_C_door_73 rfl rfl) ?_
  refine cr_cons (cr_getf_ok (C := R_C) (T := T_C) (N := 10) hx hb (k_C Z hU args) (fun _ h => h) hown hK rfl (by decide) (cr_w Z w_137 rfl hU args) (fun _ h => h) d_C_door_74 rfl) ?_
  refine cr_cons (cr_aload_ok hx hb d_C_door_77 rfl) ?_
  exact cr_nil
set_option maxHeartbeats 4000000 in
set_option maxRecDepth 20000 in
theorem s_C_door_1 {p : Program} {l : Launch} {e : Env} {R : Room} {s : State} {m : MethodId} {args : Array Value} {below : List Frame} {meth : Method} {c : Code} {s0 : State} {D : va_G} {ca : Nat → ClassId} {e0 d mc ms : Nat} {Q : cr_Q} (hl : l.flags = flags0) (Z : cr_Z0 s0 D ca e0) (C : cr_C p R s m meth c (cr_W0 s0) s0.heap.size y_C_door c_C_door 6 (Option.some FieldType.int) d mc ms) (hem : c.exceptionTable.toList = []) : ∀ x ∈ t_C_door_1 l s0 D ca e0 d mc ms, cr_Snd p l e R s m args below meth c s0.heap.size mc ms Q x.1 x.2 := by
  obtain ⟨hx, hb, hml, hown, hr, hlk, hnm, hU, hlo, hR⟩ := C
  have hK := cr_Z0K Z hU
  have hRc : R.cells = mc := by rw [hR]; rfl
  have hRs : R.slots = ms := by rw [hR]; rfl
  unfold t_C_door_1
  refine cr_cons (cr_calF_ok (C := R_AL) (Tf := T_AL) (N := 3) (x := { cls := "java/util/List", name := "add", desc := "(Ljava/lang/Object;)Z" }) hx hb hml hown hlk hU hlo hR (cr_W0_st s0) (by rw [hem]; exact fun _ h => absurd h List.not_mem_nil) hK rfl (u_AL_add0 Z) (cr_w Z w_366 rfl hU args) (cr_w Z w_368 rfl hU args) (cr_w Z w_367 rfl hU args) (cr_w Z w_369 rfl hU args) (cr_w Z w_371 rfl hU args) (cr_w Z w_372 rfl hU args) (cr_w Z w_370 rfl hU args) (cr_w Z w_200 rfl hU args) (by decide) (by decide +kernel) (by decide) d_C_door_79 rfl) ?_
  refine cr_cons (cr_pop_ok hx hb d_C_door_84 rfl) ?_
  refine cr_cons (cr_aload_ok hx hb d_C_door_85 rfl) ?_
  refine cr_cons (cr_getfN_ok (C := R_Dr) (T := T_Dr) (N := 10) hx hb (k_Dr Z hU args) (fun _ h => h) hown hK rfl (by decide) (cr_w Z w_457 rfl hU args) (fun _ h => h) d_C_door_87 rfl) ?_
  refine cr_cons (cr_iret_ok hx hb hr hlk d_C_door_90) ?_
  exact cr_nil
theorem s_C_door {p : Program} {l : Launch} {e : Env} {R : Room} {s : State} {m : MethodId} {args : Array Value} {below : List Frame} {meth : Method} {c : Code} {s0 : State} {D : va_G} {ca : Nat → ClassId} {e0 d mc ms : Nat} {Q : cr_Q} (hl : l.flags = flags0) (Z : cr_Z0 s0 D ca e0) (C : cr_C p R s m meth c (cr_W0 s0) s0.heap.size y_C_door c_C_door 6 (Option.some FieldType.int) d mc ms) (hem : c.exceptionTable.toList = []) : ∀ x ∈ t_C_door l s0 D ca e0 d mc ms, cr_Snd p l e R s m args below meth c s0.heap.size mc ms Q x.1 x.2 := cr_app (s_C_door_0 hl Z C hem) (s_C_door_1 hl Z C hem)
