/-! WHAT IS KNOWN OF THE TABLES, from the law's first state s0 on -/
def cr_ty (ca : Nat → ClassId) : List (ClassId × FieldType) := [(ca 0, .int), (ca 1, .long), (ca 2, .boolean), (ca 3, .object "java/lang/Object")]
/-- a word that warmer tables keep -/
def cr_ok (w : Cond) : Bool := match w with
  | .fieldLinkNest .. => true
  | .methodLinkNest .. => true
  | w => w.onTables && w.keepsFace
theorem cr_warm {w : Cond} (hk : cr_ok w = true) {u v : State} {a b : Array Value} (hW : u.WarmedH v.vm) (h : w.before a u = true) : w.before b v = true := by
  unfold cr_ok at hk
  split at hk
  · exact va_any rfl (va_Nw.warmF hW (va_any rfl h))
  · exact va_any rfl (va_Nw.warmM hW (va_any rfl h))
  · simp only [Bool.and_eq_true] at hk
    have h3 : w.before a (u.setVm v.vm) = true := Cond.before_shiftedFace (State.Shifted.of_warmed hW) _ hk.2 h
    exact va_tabs (u := u.setVm v.vm) (U := v) hk.1 rfl h3
def cr_W0 (s0 : State) : State → Prop := fun V => s0.WarmedH V.vm
theorem cr_W0_st (s0 : State) : cr_St (cr_W0 s0) := fun _ _ h1 h2 => State.WarmedH.trans h2 h1
/-- the law's first state: the tables' words; the classes and their slots; the empty array of the lists -/
def cr_Z0 (s0 : State) (D : va_G) (ca : Nat → ClassId) (e0 : Nat) : Prop :=
  (∃ a0 : Array Value, ∀ w ∈ lw_tbl, w.before a0 s0 = true) ∧ va_K D kc (cr_ty ca) s0
  ∧ va_Z "java/util/ArrayList" "DEFAULTCAPACITY_EMPTY_ELEMENTDATA" "[Ljava/lang/Object;" (.ref e0) (fun q => s0.heap.size ≤ q) s0 s0.heap
  ∧ va_T (.object "java/lang/Object") e0 0 (fun _ => .null) (fun q => s0.heap.size ≤ q) s0 s0.heap
  ∧ (∃ a0 : Array Value, (Cond.isRef (.static "java/lang/Throwable" "UNASSIGNED_STACK" "[Ljava/lang/StackTraceElement;")).before a0 s0 = true ∧ (Cond.isRef (.static "java/lang/Throwable" "SUPPRESSED_SENTINEL" "Ljava/util/List;")).before a0 s0 = true)
  ∧ (∀ own k tx, Cond.stringRef own k tx ∈ lw_tbl → ∃ a, vk_R own k tx a s0) ∧ ∃ mi : Nat, va_Mi "[Ljava/lang/Object;" mi s0
theorem cr_w {s0 V : State} {D : va_G} {ca : Nat → ClassId} {e0 : Nat} (Z : cr_Z0 s0 D ca e0) {w : Cond} (hm : w ∈ lw_tbl) (hk : cr_ok w = true) (hU : cr_W0 s0 V) (args : Array Value) : w.before args V = true := by
  obtain ⟨⟨a0, h⟩, -⟩ := Z
  exact cr_warm hk hU (h w hm)
theorem cr_wa {s0 V : State} {D : va_G} {ca : Nat → ClassId} {e0 : Nat} (Z : cr_Z0 s0 D ca e0) {ty : FieldType} (hm : Cond.arrayClass ty ∈ lw_tbl) (hU : cr_W0 s0 V) (args : Array Value) : (Cond.arrayClass ty).before args V = true := by
  obtain ⟨⟨a0, h⟩, -⟩ := Z
  exact word_at hU (Or.inr ⟨ty, rfl⟩) (h _ hm)
theorem cr_Z0K {s0 V : State} {D : va_G} {ca : Nat → ClassId} {e0 : Nat} (Z : cr_Z0 s0 D ca e0) (hU : cr_W0 s0 V) : va_K D kc (cr_ty ca) V := va_K.moved hU.alike Z.2.1
theorem cr_fo {V : State} {D : va_G} {ca : Nat → ClassId} (hK : va_K D kc (cr_ty ca) V) : V.vm.findClass ("[" ++ (FieldType.object "java/lang/Object").toString) = some (ca 3) := by
  obtain ⟨kA, comp, -, -, -, h⟩ := (hK.2 3 _ rfl).2
  exact h
section CRB
variable {p : Program} {l : Launch} {e : Env} {R : Room} {s : State} {m : MethodId} {args : Array Value} {below : List Frame} {meth : Method} {c : Code} {lo mc ms d : Nat} {Q : cr_Q}
theorem cr_nil : ∀ x ∈ ([] : List (Nat × cr_T)), cr_Snd p l e R s m args below meth c lo mc ms Q x.1 x.2 := fun _ h => absurd h List.not_mem_nil
theorem cr_cons {pc : Nat} {tr : cr_T} {t : List (Nat × cr_T)} (h : cr_Snd p l e R s m args below meth c lo mc ms Q pc tr) (ht : ∀ x ∈ t, cr_Snd p l e R s m args below meth c lo mc ms Q x.1 x.2) : ∀ x ∈ (pc, tr) :: t, cr_Snd p l e R s m args below meth c lo mc ms Q x.1 x.2 := List.forall_mem_cons.mpr ⟨h, ht⟩
theorem cr_app {a b : List (Nat × cr_T)} (ha : ∀ x ∈ a, cr_Snd p l e R s m args below meth c lo mc ms Q x.1 x.2) (hb : ∀ x ∈ b, cr_Snd p l e R s m args below meth c lo mc ms Q x.1 x.2) : ∀ x ∈ a ++ b, cr_Snd p l e R s m args below meth c lo mc ms Q x.1 x.2 := fun x h => (List.mem_append.mp h).elim (ha x) (hb x)
end CRB
theorem k_C {s0 V : State} {D : va_G} {ca : Nat → ClassId} {e0 : Nat} (Z : cr_Z0 s0 D ca e0) (hU : cr_W0 s0 V) (args : Array Value) : ∀ w ∈ u_ws R_C T_C 10, w.before args V = true := by
  unfold u_ws
  simp only [List.range, List.range.loop, List.map_cons, List.map_nil]
  refine List.forall_mem_cons.mpr ⟨cr_w Z w_146 rfl hU args, ?_⟩
  refine List.forall_mem_cons.mpr ⟨cr_w Z w_148 rfl hU args, ?_⟩
  refine List.forall_mem_cons.mpr ⟨cr_w Z w_150 rfl hU args, ?_⟩
  refine List.forall_mem_cons.mpr ⟨cr_w Z w_152 rfl hU args, ?_⟩
  refine List.forall_mem_cons.mpr ⟨cr_w Z w_154 rfl hU args, ?_⟩
  refine List.forall_mem_cons.mpr ⟨cr_w Z w_156 rfl hU args, ?_⟩
  refine List.forall_mem_cons.mpr ⟨cr_w Z w_158 rfl hU args, ?_⟩
  refine List.forall_mem_cons.mpr ⟨cr_w Z w_160 rfl hU args, ?_⟩
  refine List.forall_mem_cons.mpr ⟨cr_w Z w_162 rfl hU args, ?_⟩
  refine List.forall_mem_cons.mpr ⟨cr_w Z w_164 rfl hU args, ?_⟩
  exact fun _ h => absurd h List.not_mem_nil
theorem k_Cd {s0 V : State} {D : va_G} {ca : Nat → ClassId} {e0 : Nat} (Z : cr_Z0 s0 D ca e0) (hU : cr_W0 s0 V) (args : Array Value) : ∀ w ∈ u_ws R_Cd T_Cd 3, w.before args V = true := by
  unfold u_ws
  simp only [List.range, List.range.loop, List.map_cons, List.map_nil]
  refine List.forall_mem_cons.mpr ⟨cr_w Z w_563 rfl hU args, ?_⟩
  refine List.forall_mem_cons.mpr ⟨cr_w Z w_565 rfl hU args, ?_⟩
  refine List.forall_mem_cons.mpr ⟨cr_w Z w_567 rfl hU args, ?_⟩
  exact fun _ h => absurd h List.not_mem_nil
theorem k_Dr {s0 V : State} {D : va_G} {ca : Nat → ClassId} {e0 : Nat} (Z : cr_Z0 s0 D ca e0) (hU : cr_W0 s0 V) (args : Array Value) : ∀ w ∈ u_ws R_Dr T_Dr 10, w.before args V = true := by
  unfold u_ws
  simp only [List.range, List.range.loop, List.map_cons, List.map_nil]
  refine List.forall_mem_cons.mpr ⟨cr_w Z w_475 rfl hU args, ?_⟩
  refine List.forall_mem_cons.mpr ⟨cr_w Z w_477 rfl hU args, ?_⟩
  refine List.forall_mem_cons.mpr ⟨cr_w Z w_479 rfl hU args, ?_⟩
  refine List.forall_mem_cons.mpr ⟨cr_w Z w_481 rfl hU args, ?_⟩
  refine List.forall_mem_cons.mpr ⟨cr_w Z w_483 rfl hU args, ?_⟩
  refine List.forall_mem_cons.mpr ⟨cr_w Z w_485 rfl hU args, ?_⟩
  refine List.forall_mem_cons.mpr ⟨cr_w Z w_487 rfl hU args, ?_⟩
  refine List.forall_mem_cons.mpr ⟨cr_w Z w_489 rfl hU args, ?_⟩
  refine List.forall_mem_cons.mpr ⟨cr_w Z w_491 rfl hU args, ?_⟩
  refine List.forall_mem_cons.mpr ⟨cr_w Z w_493 rfl hU args, ?_⟩
  exact fun _ h => absurd h List.not_mem_nil
theorem k_Fi {s0 V : State} {D : va_G} {ca : Nat → ClassId} {e0 : Nat} (Z : cr_Z0 s0 D ca e0) (hU : cr_W0 s0 V) (args : Array Value) : ∀ w ∈ u_ws R_Fi T_Fi 3, w.before args V = true := by
  unfold u_ws
  simp only [List.range, List.range.loop, List.map_cons, List.map_nil]
  refine List.forall_mem_cons.mpr ⟨cr_w Z w_100 rfl hU args, ?_⟩
  refine List.forall_mem_cons.mpr ⟨cr_w Z w_102 rfl hU args, ?_⟩
  refine List.forall_mem_cons.mpr ⟨cr_w Z w_104 rfl hU args, ?_⟩
  exact fun _ h => absurd h List.not_mem_nil
theorem k_Kn {s0 V : State} {D : va_G} {ca : Nat → ClassId} {e0 : Nat} (Z : cr_Z0 s0 D ca e0) (hU : cr_W0 s0 V) (args : Array Value) : ∀ w ∈ u_ws R_Kn T_Kn 4, w.before args V = true := by
  unfold u_ws
  simp only [List.range, List.range.loop, List.map_cons, List.map_nil]
  refine List.forall_mem_cons.mpr ⟨cr_w Z w_78 rfl hU args, ?_⟩
  refine List.forall_mem_cons.mpr ⟨cr_w Z w_80 rfl hU args, ?_⟩
  refine List.forall_mem_cons.mpr ⟨cr_w Z w_82 rfl hU args, ?_⟩
  refine List.forall_mem_cons.mpr ⟨cr_w Z w_84 rfl hU args, ?_⟩
  exact fun _ h => absurd h List.not_mem_nil
theorem k_Ne {s0 V : State} {D : va_G} {ca : Nat → ClassId} {e0 : Nat} (Z : cr_Z0 s0 D ca e0) (hU : cr_W0 s0 V) (args : Array Value) : ∀ w ∈ u_ws R_Ne T_Ne 2, w.before args V = true := by
  unfold u_ws
  simp only [List.range, List.range.loop, List.map_cons, List.map_nil]
  refine List.forall_mem_cons.mpr ⟨cr_w Z w_131 rfl hU args, ?_⟩
  refine List.forall_mem_cons.mpr ⟨cr_w Z w_133 rfl hU args, ?_⟩
  exact fun _ h => absurd h List.not_mem_nil
theorem k_Pe {s0 V : State} {D : va_G} {ca : Nat → ClassId} {e0 : Nat} (Z : cr_Z0 s0 D ca e0) (hU : cr_W0 s0 V) (args : Array Value) : ∀ w ∈ u_ws R_Pe T_Pe 2, w.before args V = true := by
  unfold u_ws
  simp only [List.range, List.range.loop, List.map_cons, List.map_nil]
  refine List.forall_mem_cons.mpr ⟨cr_w Z w_528 rfl hU args, ?_⟩
  refine List.forall_mem_cons.mpr ⟨cr_w Z w_530 rfl hU args, ?_⟩
  exact fun _ h => absurd h List.not_mem_nil
theorem k_Ri {s0 V : State} {D : va_G} {ca : Nat → ClassId} {e0 : Nat} (Z : cr_Z0 s0 D ca e0) (hU : cr_W0 s0 V) (args : Array Value) : ∀ w ∈ u_ws R_Ri T_Ri 5, w.before args V = true := by
  unfold u_ws
  simp only [List.range, List.range.loop, List.map_cons, List.map_nil]
  refine List.forall_mem_cons.mpr ⟨cr_w Z w_592 rfl hU args, ?_⟩
  refine List.forall_mem_cons.mpr ⟨cr_w Z w_594 rfl hU args, ?_⟩
  refine List.forall_mem_cons.mpr ⟨cr_w Z w_596 rfl hU args, ?_⟩
  refine List.forall_mem_cons.mpr ⟨cr_w Z w_598 rfl hU args, ?_⟩
  refine List.forall_mem_cons.mpr ⟨cr_w Z w_600 rfl hU args, ?_⟩
  exact fun _ h => absurd h List.not_mem_nil
theorem k_Ro {s0 V : State} {D : va_G} {ca : Nat → ClassId} {e0 : Nat} (Z : cr_Z0 s0 D ca e0) (hU : cr_W0 s0 V) (args : Array Value) : ∀ w ∈ u_ws R_Ro T_Ro 2, w.before args V = true := by
  unfold u_ws
  simp only [List.range, List.range.loop, List.map_cons, List.map_nil]
  refine List.forall_mem_cons.mpr ⟨cr_w Z w_360 rfl hU args, ?_⟩
  refine List.forall_mem_cons.mpr ⟨cr_w Z w_362 rfl hU args, ?_⟩
  exact fun _ h => absurd h List.not_mem_nil
theorem k_Rw {s0 V : State} {D : va_G} {ca : Nat → ClassId} {e0 : Nat} (Z : cr_Z0 s0 D ca e0) (hU : cr_W0 s0 V) (args : Array Value) : ∀ w ∈ u_ws R_Rw T_Rw 3, w.before args V = true := by
  unfold u_ws
  simp only [List.range, List.range.loop, List.map_cons, List.map_nil]
  refine List.forall_mem_cons.mpr ⟨cr_w Z w_765 rfl hU args, ?_⟩
  refine List.forall_mem_cons.mpr ⟨cr_w Z w_767 rfl hU args, ?_⟩
  refine List.forall_mem_cons.mpr ⟨cr_w Z w_769 rfl hU args, ?_⟩
  exact fun _ h => absurd h List.not_mem_nil
theorem k_Us {s0 V : State} {D : va_G} {ca : Nat → ClassId} {e0 : Nat} (Z : cr_Z0 s0 D ca e0) (hU : cr_W0 s0 V) (args : Array Value) : ∀ w ∈ u_ws R_Us T_Us 2, w.before args V = true := by
  unfold u_ws
  simp only [List.range, List.range.loop, List.map_cons, List.map_nil]
  refine List.forall_mem_cons.mpr ⟨cr_w Z w_117 rfl hU args, ?_⟩
  refine List.forall_mem_cons.mpr ⟨cr_w Z w_119 rfl hU args, ?_⟩
  exact fun _ h => absurd h List.not_mem_nil
theorem k_M {s0 V : State} {D : va_G} {ca : Nat → ClassId} {e0 : Nat} (Z : cr_Z0 s0 D ca e0) (hU : cr_W0 s0 V) (args : Array Value) : ∀ w ∈ u_ws R_M T_M 41, w.before args V = true := by
  unfold u_ws
  simp only [List.range, List.range.loop, List.map_cons, List.map_nil]
  refine List.forall_mem_cons.mpr ⟨cr_w Z w_859 rfl hU args, ?_⟩
  refine List.forall_mem_cons.mpr ⟨cr_w Z w_861 rfl hU args, ?_⟩
  refine List.forall_mem_cons.mpr ⟨cr_w Z w_863 rfl hU args, ?_⟩
  refine List.forall_mem_cons.mpr ⟨cr_w Z w_865 rfl hU args, ?_⟩
  refine List.forall_mem_cons.mpr ⟨cr_w Z w_867 rfl hU args, ?_⟩
  refine List.forall_mem_cons.mpr ⟨cr_w Z w_869 rfl hU args, ?_⟩
  refine List.forall_mem_cons.mpr ⟨cr_w Z w_871 rfl hU args, ?_⟩
  refine List.forall_mem_cons.mpr ⟨cr_w Z w_873 rfl hU args, ?_⟩
  refine List.forall_mem_cons.mpr ⟨cr_w Z w_875 rfl hU args, ?_⟩
  refine List.forall_mem_cons.mpr ⟨cr_w Z w_877 rfl hU args, ?_⟩
  refine List.forall_mem_cons.mpr ⟨cr_w Z w_879 rfl hU args, ?_⟩
  refine List.forall_mem_cons.mpr ⟨cr_w Z w_881 rfl hU args, ?_⟩
  refine List.forall_mem_cons.mpr ⟨cr_w Z w_883 rfl hU args, ?_⟩
  refine List.forall_mem_cons.mpr ⟨cr_w Z w_885 rfl hU args, ?_⟩
  refine List.forall_mem_cons.mpr ⟨cr_w Z w_887 rfl hU args, ?_⟩
  refine List.forall_mem_cons.mpr ⟨cr_w Z w_889 rfl hU args, ?_⟩
  refine List.forall_mem_cons.mpr ⟨cr_w Z w_891 rfl hU args, ?_⟩
  refine List.forall_mem_cons.mpr ⟨cr_w Z w_893 rfl hU args, ?_⟩
  refine List.forall_mem_cons.mpr ⟨cr_w Z w_895 rfl hU args, ?_⟩
  refine List.forall_mem_cons.mpr ⟨cr_w Z w_897 rfl hU args, ?_⟩
  refine List.forall_mem_cons.mpr ⟨cr_w Z w_899 rfl hU args, ?_⟩
  refine List.forall_mem_cons.mpr ⟨cr_w Z w_901 rfl hU args, ?_⟩
  refine List.forall_mem_cons.mpr ⟨cr_w Z w_903 rfl hU args, ?_⟩
  refine List.forall_mem_cons.mpr ⟨cr_w Z w_905 rfl hU args, ?_⟩
  refine List.forall_mem_cons.mpr ⟨cr_w Z w_907 rfl hU args, ?_⟩
  refine List.forall_mem_cons.mpr ⟨cr_w Z w_909 rfl hU args, ?_⟩
  refine List.forall_mem_cons.mpr ⟨cr_w Z w_911 rfl hU args, ?_⟩
  refine List.forall_mem_cons.mpr ⟨cr_w Z w_913 rfl hU args, ?_⟩
  refine List.forall_mem_cons.mpr ⟨cr_w Z w_915 rfl hU args, ?_⟩
  refine List.forall_mem_cons.mpr ⟨cr_w Z w_917 rfl hU args, ?_⟩
  refine List.forall_mem_cons.mpr ⟨cr_w Z w_919 rfl hU args, ?_⟩
  refine List.forall_mem_cons.mpr ⟨cr_w Z w_921 rfl hU args, ?_⟩
  refine List.forall_mem_cons.mpr ⟨cr_w Z w_923 rfl hU args, ?_⟩
  refine List.forall_mem_cons.mpr ⟨cr_w Z w_925 rfl hU args, ?_⟩
  refine List.forall_mem_cons.mpr ⟨cr_w Z w_927 rfl hU args, ?_⟩
  refine List.forall_mem_cons.mpr ⟨cr_w Z w_929 rfl hU args, ?_⟩
  refine List.forall_mem_cons.mpr ⟨cr_w Z w_931 rfl hU args, ?_⟩
  refine List.forall_mem_cons.mpr ⟨cr_w Z w_933 rfl hU args, ?_⟩
  refine List.forall_mem_cons.mpr ⟨cr_w Z w_935 rfl hU args, ?_⟩
  refine List.forall_mem_cons.mpr ⟨cr_w Z w_937 rfl hU args, ?_⟩
  refine List.forall_mem_cons.mpr ⟨cr_w Z w_939 rfl hU args, ?_⟩
  exact fun _ h => absurd h List.not_mem_nil
theorem k_AL {s0 V : State} {D : va_G} {ca : Nat → ClassId} {e0 : Nat} (Z : cr_Z0 s0 D ca e0) (hU : cr_W0 s0 V) (args : Array Value) : ∀ w ∈ u_ws R_AL T_AL 3, w.before args V = true := by
  unfold u_ws
  simp only [List.range, List.range.loop, List.map_cons, List.map_nil]
  refine List.forall_mem_cons.mpr ⟨cr_w Z w_54 rfl hU args, ?_⟩
  refine List.forall_mem_cons.mpr ⟨cr_w Z w_56 rfl hU args, ?_⟩
  refine List.forall_mem_cons.mpr ⟨cr_w Z w_58 rfl hU args, ?_⟩
  exact fun _ h => absurd h List.not_mem_nil
theorem u_C_init {s0 : State} {D : va_G} {ca : Nat → ClassId} {e0 : Nat} (Z : cr_Z0 s0 D ca e0) : ∀ V, cr_W0 s0 V → (cw_C_init).before #[] V = true ∧ (Cond.initialized (y_C_init).cls).before #[] V = true := fun V hU => ⟨cr_w Z w_31 rfl hU #[], cr_w Z w_1 rfl hU #[]⟩
theorem u_AL_init {s0 : State} {D : va_G} {ca : Nat → ClassId} {e0 : Nat} (Z : cr_Z0 s0 D ca e0) : ∀ V, cr_W0 s0 V → (cw_AL_init).before #[] V = true ∧ (Cond.initialized (y_AL_init).cls).before #[] V = true := fun V hU => ⟨cr_w Z w_39 rfl hU #[], cr_w Z w_4 rfl hU #[]⟩
theorem u_AbL_init {s0 : State} {D : va_G} {ca : Nat → ClassId} {e0 : Nat} (Z : cr_Z0 s0 D ca e0) : ∀ V, cr_W0 s0 V → (cw_AbL_init).before #[] V = true ∧ (Cond.initialized (y_AbL_init).cls).before #[] V = true := fun V hU => ⟨cr_w Z w_42 rfl hU #[], cr_w Z w_3 rfl hU #[]⟩
theorem u_AbC_init {s0 : State} {D : va_G} {ca : Nat → ClassId} {e0 : Nat} (Z : cr_Z0 s0 D ca e0) : ∀ V, cr_W0 s0 V → (cw_AbC_init).before #[] V = true ∧ (Cond.initialized (y_AbC_init).cls).before #[] V = true := fun V hU => ⟨cr_w Z w_45 rfl hU #[], cr_w Z w_2 rfl hU #[]⟩
theorem u_Kn_init {s0 : State} {D : va_G} {ca : Nat → ClassId} {e0 : Nat} (Z : cr_Z0 s0 D ca e0) : ∀ V, cr_W0 s0 V → (cw_Kn_init).before #[] V = true ∧ (Cond.initialized (y_Kn_init).cls).before #[] V = true := fun V hU => ⟨cr_w Z w_65 rfl hU #[], cr_w Z w_5 rfl hU #[]⟩
theorem u_Ar_fill {s0 : State} {D : va_G} {ca : Nat → ClassId} {e0 : Nat} (Z : cr_Z0 s0 D ca e0) : ∀ V, cr_W0 s0 V → (cw_Ar_fill).before #[] V = true ∧ (Cond.initialized (y_Ar_fill).cls).before #[] V = true := fun V hU => ⟨cr_w Z w_69 rfl hU #[], cr_w Z w_6 rfl hU #[]⟩
theorem u_Fi_init {s0 : State} {D : va_G} {ca : Nat → ClassId} {e0 : Nat} (Z : cr_Z0 s0 D ca e0) : ∀ V, cr_W0 s0 V → (cw_Fi_init).before #[] V = true ∧ (Cond.initialized (y_Fi_init).cls).before #[] V = true := fun V hU => ⟨cr_w Z w_92 rfl hU #[], cr_w Z w_7 rfl hU #[]⟩
theorem u_Us_init {s0 : State} {D : va_G} {ca : Nat → ClassId} {e0 : Nat} (Z : cr_Z0 s0 D ca e0) : ∀ V, cr_W0 s0 V → (cw_Us_init).before #[] V = true ∧ (Cond.initialized (y_Us_init).cls).before #[] V = true := fun V hU => ⟨cr_w Z w_111 rfl hU #[], cr_w Z w_8 rfl hU #[]⟩
theorem u_Ne_init {s0 : State} {D : va_G} {ca : Nat → ClassId} {e0 : Nat} (Z : cr_Z0 s0 D ca e0) : ∀ V, cr_W0 s0 V → (cw_Ne_init).before #[] V = true ∧ (Cond.initialized (y_Ne_init).cls).before #[] V = true := fun V hU => ⟨cr_w Z w_127 rfl hU #[], cr_w Z w_9 rfl hU #[]⟩
theorem u_C_against {s0 : State} {D : va_G} {ca : Nat → ClassId} {e0 : Nat} (Z : cr_Z0 s0 D ca e0) : ∀ V, cr_W0 s0 V → (cw_C_against).before #[] V = true ∧ (Cond.initialized (y_C_against).cls).before #[] V = true := fun V hU => ⟨cr_w Z w_170 rfl hU #[], cr_w Z w_1 rfl hU #[]⟩
theorem u_C_uses {s0 : State} {D : va_G} {ca : Nat → ClassId} {e0 : Nat} (Z : cr_Z0 s0 D ca e0) : ∀ V, cr_W0 s0 V → (cw_C_uses).before #[] V = true ∧ (Cond.initialized (y_C_uses).cls).before #[] V = true := fun V hU => ⟨cr_w Z w_174 rfl hU #[], cr_w Z w_1 rfl hU #[]⟩
theorem u_C_fewest {s0 : State} {D : va_G} {ca : Nat → ClassId} {e0 : Nat} (Z : cr_Z0 s0 D ca e0) : ∀ V, cr_W0 s0 V → (cw_C_fewest).before #[] V = true ∧ (Cond.initialized (y_C_fewest).cls).before #[] V = true := fun V hU => ⟨cr_w Z w_178 rfl hU #[], cr_w Z w_1 rfl hU #[]⟩
theorem u_Ne_clear {s0 : State} {D : va_G} {ca : Nat → ClassId} {e0 : Nat} (Z : cr_Z0 s0 D ca e0) : ∀ V, cr_W0 s0 V → (cw_Ne_clear).before #[] V = true ∧ (Cond.initialized (y_Ne_clear).cls).before #[] V = true := fun V hU => ⟨cr_w Z w_182 rfl hU #[], cr_w Z w_9 rfl hU #[]⟩
theorem u_C_rightsThatHave {s0 : State} {D : va_G} {ca : Nat → ClassId} {e0 : Nat} (Z : cr_Z0 s0 D ca e0) : ∀ V, cr_W0 s0 V → (cw_C_rightsThatHave).before #[] V = true ∧ (Cond.initialized (y_C_rightsThatHave).cls).before #[] V = true := fun V hU => ⟨cr_w Z w_186 rfl hU #[], cr_w Z w_1 rfl hU #[]⟩
theorem u_Us_groupOf {s0 : State} {D : va_G} {ca : Nat → ClassId} {e0 : Nat} (Z : cr_Z0 s0 D ca e0) : ∀ V, cr_W0 s0 V → (cw_Us_groupOf).before #[] V = true ∧ (Cond.initialized (y_Us_groupOf).cls).before #[] V = true := fun V hU => ⟨cr_w Z w_189 rfl hU #[], cr_w Z w_8 rfl hU #[]⟩
theorem u_Us_zoneOf {s0 : State} {D : va_G} {ca : Nat → ClassId} {e0 : Nat} (Z : cr_Z0 s0 D ca e0) : ∀ V, cr_W0 s0 V → (cw_Us_zoneOf).before #[] V = true ∧ (Cond.initialized (y_Us_zoneOf).cls).before #[] V = true := fun V hU => ⟨cr_w Z w_192 rfl hU #[], cr_w Z w_8 rfl hU #[]⟩
theorem u_Us_timeOf {s0 : State} {D : va_G} {ca : Nat → ClassId} {e0 : Nat} (Z : cr_Z0 s0 D ca e0) : ∀ V, cr_W0 s0 V → (cw_Us_timeOf).before #[] V = true ∧ (Cond.initialized (y_Us_timeOf).cls).before #[] V = true := fun V hU => ⟨cr_w Z w_195 rfl hU #[], cr_w Z w_8 rfl hU #[]⟩
theorem u_AL_size {s0 : State} {D : va_G} {ca : Nat → ClassId} {e0 : Nat} (Z : cr_Z0 s0 D ca e0) : ∀ V, cr_W0 s0 V → (cw_AL_size).before #[] V = true ∧ (Cond.initialized (y_AL_size).cls).before #[] V = true := fun V hU => ⟨cr_w Z w_205 rfl hU #[], cr_w Z w_4 rfl hU #[]⟩
theorem u_AL_get {s0 : State} {D : va_G} {ca : Nat → ClassId} {e0 : Nat} (Z : cr_Z0 s0 D ca e0) : ∀ V, cr_W0 s0 V → (cw_AL_get).before #[] V = true ∧ (Cond.initialized (y_AL_get).cls).before #[] V = true := fun V hU => ⟨cr_w Z w_214 rfl hU #[], cr_w Z w_4 rfl hU #[]⟩
theorem u_Ob_checkIndex {s0 : State} {D : va_G} {ca : Nat → ClassId} {e0 : Nat} (Z : cr_Z0 s0 D ca e0) : ∀ V, cr_W0 s0 V → (cw_Ob_checkIndex).before #[] V = true ∧ (Cond.initialized (y_Ob_checkIndex).cls).before #[] V = true := fun V hU => ⟨cr_w Z w_217 rfl hU #[], cr_w Z w_20 rfl hU #[]⟩
theorem u_Pr_checkIndex {s0 : State} {D : va_G} {ca : Nat → ClassId} {e0 : Nat} (Z : cr_Z0 s0 D ca e0) : ∀ V, cr_W0 s0 V → (cw_Pr_checkIndex).before #[] V = true ∧ (Cond.initialized (y_Pr_checkIndex).cls).before #[] V = true := fun V hU => ⟨cr_w Z w_220 rfl hU #[], cr_w Z w_21 rfl hU #[]⟩
theorem u_AL_elementData {s0 : State} {D : va_G} {ca : Nat → ClassId} {e0 : Nat} (Z : cr_Z0 s0 D ca e0) : ∀ V, cr_W0 s0 V → (cw_AL_elementData).before #[] V = true ∧ (Cond.initialized (y_AL_elementData).cls).before #[] V = true := fun V hU => ⟨cr_w Z w_224 rfl hU #[], cr_w Z w_4 rfl hU #[]⟩
theorem u_Ri_isFor {s0 : State} {D : va_G} {ca : Nat → ClassId} {e0 : Nat} (Z : cr_Z0 s0 D ca e0) : ∀ V, cr_W0 s0 V → (cw_Ri_isFor).before #[] V = true ∧ (Cond.initialized (y_Ri_isFor).cls).before #[] V = true := fun V hU => ⟨cr_w Z w_230 rfl hU #[], cr_w Z w_25 rfl hU #[]⟩
theorem u_Ri_spans {s0 : State} {D : va_G} {ca : Nat → ClassId} {e0 : Nat} (Z : cr_Z0 s0 D ca e0) : ∀ V, cr_W0 s0 V → (cw_Ri_spans).before #[] V = true ∧ (Cond.initialized (y_Ri_spans).cls).before #[] V = true := fun V hU => ⟨cr_w Z w_234 rfl hU #[], cr_w Z w_25 rfl hU #[]⟩
theorem u_Ne_add {s0 : State} {D : va_G} {ca : Nat → ClassId} {e0 : Nat} (Z : cr_Z0 s0 D ca e0) : ∀ V, cr_W0 s0 V → (cw_Ne_add).before #[] V = true ∧ (Cond.initialized (y_Ne_add).cls).before #[] V = true := fun V hU => ⟨cr_w Z w_238 rfl hU #[], cr_w Z w_9 rfl hU #[]⟩
theorem u_Ne_leastOfTheFewest {s0 : State} {D : va_G} {ca : Nat → ClassId} {e0 : Nat} (Z : cr_Z0 s0 D ca e0) : ∀ V, cr_W0 s0 V → (cw_Ne_leastOfTheFewest).before #[] V = true ∧ (Cond.initialized (y_Ne_leastOfTheFewest).cls).before #[] V = true := fun V hU => ⟨cr_w Z w_242 rfl hU #[], cr_w Z w_9 rfl hU #[]⟩
theorem u_Ne_leastWith {s0 : State} {D : va_G} {ca : Nat → ClassId} {e0 : Nat} (Z : cr_Z0 s0 D ca e0) : ∀ V, cr_W0 s0 V → (cw_Ne_leastWith).before #[] V = true ∧ (Cond.initialized (y_Ne_leastWith).cls).before #[] V = true := fun V hU => ⟨cr_w Z w_246 rfl hU #[], cr_w Z w_9 rfl hU #[]⟩
theorem u_Ne_canBeMet {s0 : State} {D : va_G} {ca : Nat → ClassId} {e0 : Nat} (Z : cr_Z0 s0 D ca e0) : ∀ V, cr_W0 s0 V → (cw_Ne_canBeMet).before #[] V = true ∧ (Cond.initialized (y_Ne_canBeMet).cls).before #[] V = true := fun V hU => ⟨cr_w Z w_250 rfl hU #[], cr_w Z w_9 rfl hU #[]⟩
theorem u_C_now {s0 : State} {D : va_G} {ca : Nat → ClassId} {e0 : Nat} (Z : cr_Z0 s0 D ca e0) : ∀ V, cr_W0 s0 V → (cw_C_now).before #[] V = true ∧ (Cond.initialized (y_C_now).cls).before #[] V = true := fun V hU => ⟨cr_w Z w_254 rfl hU #[], cr_w Z w_1 rfl hU #[]⟩
theorem u_C_room {s0 : State} {D : va_G} {ca : Nat → ClassId} {e0 : Nat} (Z : cr_Z0 s0 D ca e0) : ∀ V, cr_W0 s0 V → (cw_C_room).before #[] V = true ∧ (Cond.initialized (y_C_room).cls).before #[] V = true := fun V hU => ⟨cr_w Z w_263 rfl hU #[], cr_w Z w_1 rfl hU #[]⟩
theorem u_C_checkZone {s0 : State} {D : va_G} {ca : Nat → ClassId} {e0 : Nat} (Z : cr_Z0 s0 D ca e0) : ∀ V, cr_W0 s0 V → (cw_C_checkZone).before #[] V = true ∧ (Cond.initialized (y_C_checkZone).cls).before #[] V = true := fun V hU => ⟨cr_w Z w_266 rfl hU #[], cr_w Z w_1 rfl hU #[]⟩
theorem u_Ro_init {s0 : State} {D : va_G} {ca : Nat → ClassId} {e0 : Nat} (Z : cr_Z0 s0 D ca e0) : ∀ V, cr_W0 s0 V → (cw_Ro_init).before #[] V = true ∧ (Cond.initialized (y_Ro_init).cls).before #[] V = true := fun V hU => ⟨cr_w Z w_354 rfl hU #[], cr_w Z w_16 rfl hU #[]⟩
theorem u_AL_add0 {s0 : State} {D : va_G} {ca : Nat → ClassId} {e0 : Nat} (Z : cr_Z0 s0 D ca e0) : ∀ V, cr_W0 s0 V → (cw_AL_add0).before #[] V = true ∧ (Cond.initialized (y_AL_add0).cls).before #[] V = true := fun V hU => ⟨cr_w Z w_373 rfl hU #[], cr_w Z w_4 rfl hU #[]⟩
theorem u_AL_add1 {s0 : State} {D : va_G} {ca : Nat → ClassId} {e0 : Nat} (Z : cr_Z0 s0 D ca e0) : ∀ V, cr_W0 s0 V → (cw_AL_add1).before #[] V = true ∧ (Cond.initialized (y_AL_add1).cls).before #[] V = true := fun V hU => ⟨cr_w Z w_377 rfl hU #[], cr_w Z w_4 rfl hU #[]⟩
theorem u_AL_grow0 {s0 : State} {D : va_G} {ca : Nat → ClassId} {e0 : Nat} (Z : cr_Z0 s0 D ca e0) : ∀ V, cr_W0 s0 V → (cw_AL_grow0).before #[] V = true ∧ (Cond.initialized (y_AL_grow0).cls).before #[] V = true := fun V hU => ⟨cr_w Z w_381 rfl hU #[], cr_w Z w_4 rfl hU #[]⟩
theorem u_AL_grow1 {s0 : State} {D : va_G} {ca : Nat → ClassId} {e0 : Nat} (Z : cr_Z0 s0 D ca e0) : ∀ V, cr_W0 s0 V → (cw_AL_grow1).before #[] V = true ∧ (Cond.initialized (y_AL_grow1).cls).before #[] V = true := fun V hU => ⟨cr_w Z w_385 rfl hU #[], cr_w Z w_4 rfl hU #[]⟩
theorem u_As_newLength {s0 : State} {D : va_G} {ca : Nat → ClassId} {e0 : Nat} (Z : cr_Z0 s0 D ca e0) : ∀ V, cr_W0 s0 V → (cw_As_newLength).before #[] V = true ∧ (Cond.initialized (y_As_newLength).cls).before #[] V = true := fun V hU => ⟨cr_w Z w_388 rfl hU #[], cr_w Z w_17 rfl hU #[]⟩
theorem u_Ma_max {s0 : State} {D : va_G} {ca : Nat → ClassId} {e0 : Nat} (Z : cr_Z0 s0 D ca e0) : ∀ V, cr_W0 s0 V → (cw_Ma_max).before #[] V = true ∧ (Cond.initialized (y_Ma_max).cls).before #[] V = true := fun V hU => ⟨cr_w Z w_391 rfl hU #[], cr_w Z w_18 rfl hU #[]⟩
theorem u_As_hugeLength {s0 : State} {D : va_G} {ca : Nat → ClassId} {e0 : Nat} (Z : cr_Z0 s0 D ca e0) : ∀ V, cr_W0 s0 V → (cw_As_hugeLength).before #[] V = true ∧ (Cond.initialized (y_As_hugeLength).cls).before #[] V = true := fun V hU => ⟨cr_w Z w_395 rfl hU #[], cr_w Z w_17 rfl hU #[]⟩
theorem u_Ar_copyOf0 {s0 : State} {D : va_G} {ca : Nat → ClassId} {e0 : Nat} (Z : cr_Z0 s0 D ca e0) : ∀ V, cr_W0 s0 V → (cw_Ar_copyOf0).before #[] V = true ∧ (Cond.initialized (y_Ar_copyOf0).cls).before #[] V = true := fun V hU => ⟨cr_w Z w_398 rfl hU #[], cr_w Z w_6 rfl hU #[]⟩
theorem u_Ar_copyOf1 {s0 : State} {D : va_G} {ca : Nat → ClassId} {e0 : Nat} (Z : cr_Z0 s0 D ca e0) : ∀ V, cr_W0 s0 V → (cw_Ar_copyOf1).before #[] V = true ∧ (Cond.initialized (y_Ar_copyOf1).cls).before #[] V = true := fun V hU => ⟨cr_w Z w_420 rfl hU #[], cr_w Z w_6 rfl hU #[]⟩
theorem u_Ma_min {s0 : State} {D : va_G} {ca : Nat → ClassId} {e0 : Nat} (Z : cr_Z0 s0 D ca e0) : ∀ V, cr_W0 s0 V → (cw_Ma_min).before #[] V = true ∧ (Cond.initialized (y_Ma_min).cls).before #[] V = true := fun V hU => ⟨cr_w Z w_426 rfl hU #[], cr_w Z w_18 rfl hU #[]⟩
theorem u_C_door {s0 : State} {D : va_G} {ca : Nat → ClassId} {e0 : Nat} (Z : cr_Z0 s0 D ca e0) : ∀ V, cr_W0 s0 V → (cw_C_door).before #[] V = true ∧ (Cond.initialized (y_C_door).cls).before #[] V = true := fun V hU => ⟨cr_w Z w_438 rfl hU #[], cr_w Z w_1 rfl hU #[]⟩
theorem u_C_roomNumbered {s0 : State} {D : va_G} {ca : Nat → ClassId} {e0 : Nat} (Z : cr_Z0 s0 D ca e0) : ∀ V, cr_W0 s0 V → (cw_C_roomNumbered).before #[] V = true ∧ (Cond.initialized (y_C_roomNumbered).cls).before #[] V = true := fun V hU => ⟨cr_w Z w_442 rfl hU #[], cr_w Z w_1 rfl hU #[]⟩
theorem u_Dr_init {s0 : State} {D : va_G} {ca : Nat → ClassId} {e0 : Nat} (Z : cr_Z0 s0 D ca e0) : ∀ V, cr_W0 s0 V → (cw_Dr_init).before #[] V = true ∧ (Cond.initialized (y_Dr_init).cls).before #[] V = true := fun V hU => ⟨cr_w Z w_450 rfl hU #[], cr_w Z w_22 rfl hU #[]⟩
theorem u_C_person {s0 : State} {D : va_G} {ca : Nat → ClassId} {e0 : Nat} (Z : cr_Z0 s0 D ca e0) : ∀ V, cr_W0 s0 V → (cw_C_person).before #[] V = true ∧ (Cond.initialized (y_C_person).cls).before #[] V = true := fun V hU => ⟨cr_w Z w_502 rfl hU #[], cr_w Z w_1 rfl hU #[]⟩
theorem u_C_checkGroup {s0 : State} {D : va_G} {ca : Nat → ClassId} {e0 : Nat} (Z : cr_Z0 s0 D ca e0) : ∀ V, cr_W0 s0 V → (cw_C_checkGroup).before #[] V = true ∧ (Cond.initialized (y_C_checkGroup).cls).before #[] V = true := fun V hU => ⟨cr_w Z w_505 rfl hU #[], cr_w Z w_1 rfl hU #[]⟩
theorem u_AL_isEmpty {s0 : State} {D : va_G} {ca : Nat → ClassId} {e0 : Nat} (Z : cr_Z0 s0 D ca e0) : ∀ V, cr_W0 s0 V → (cw_AL_isEmpty).before #[] V = true ∧ (Cond.initialized (y_AL_isEmpty).cls).before #[] V = true := fun V hU => ⟨cr_w Z w_516 rfl hU #[], cr_w Z w_4 rfl hU #[]⟩
theorem u_Pe_init {s0 : State} {D : va_G} {ca : Nat → ClassId} {e0 : Nat} (Z : cr_Z0 s0 D ca e0) : ∀ V, cr_W0 s0 V → (cw_Pe_init).before #[] V = true ∧ (Cond.initialized (y_Pe_init).cls).before #[] V = true := fun V hU => ⟨cr_w Z w_522 rfl hU #[], cr_w Z w_23 rfl hU #[]⟩
theorem u_C_card {s0 : State} {D : va_G} {ca : Nat → ClassId} {e0 : Nat} (Z : cr_Z0 s0 D ca e0) : ∀ V, cr_W0 s0 V → (cw_C_card).before #[] V = true ∧ (Cond.initialized (y_C_card).cls).before #[] V = true := fun V hU => ⟨cr_w Z w_539 rfl hU #[], cr_w Z w_1 rfl hU #[]⟩
theorem u_C_personNumbered {s0 : State} {D : va_G} {ca : Nat → ClassId} {e0 : Nat} (Z : cr_Z0 s0 D ca e0) : ∀ V, cr_W0 s0 V → (cw_C_personNumbered).before #[] V = true ∧ (Cond.initialized (y_C_personNumbered).cls).before #[] V = true := fun V hU => ⟨cr_w Z w_543 rfl hU #[], cr_w Z w_1 rfl hU #[]⟩
theorem u_C_checkMinute {s0 : State} {D : va_G} {ca : Nat → ClassId} {e0 : Nat} (Z : cr_Z0 s0 D ca e0) : ∀ V, cr_W0 s0 V → (cw_C_checkMinute).before #[] V = true ∧ (Cond.initialized (y_C_checkMinute).cls).before #[] V = true := fun V hU => ⟨cr_w Z w_547 rfl hU #[], cr_w Z w_1 rfl hU #[]⟩
theorem u_Cd_init {s0 : State} {D : va_G} {ca : Nat → ClassId} {e0 : Nat} (Z : cr_Z0 s0 D ca e0) : ∀ V, cr_W0 s0 V → (cw_Cd_init).before #[] V = true ∧ (Cond.initialized (y_Cd_init).cls).before #[] V = true := fun V hU => ⟨cr_w Z w_555 rfl hU #[], cr_w Z w_24 rfl hU #[]⟩
theorem u_C_right {s0 : State} {D : va_G} {ca : Nat → ClassId} {e0 : Nat} (Z : cr_Z0 s0 D ca e0) : ∀ V, cr_W0 s0 V → (cw_C_right).before #[] V = true ∧ (Cond.initialized (y_C_right).cls).before #[] V = true := fun V hU => ⟨cr_w Z w_576 rfl hU #[], cr_w Z w_1 rfl hU #[]⟩
theorem u_C_checkTimeOfDay {s0 : State} {D : va_G} {ca : Nat → ClassId} {e0 : Nat} (Z : cr_Z0 s0 D ca e0) : ∀ V, cr_W0 s0 V → (cw_C_checkTimeOfDay).before #[] V = true ∧ (Cond.initialized (y_C_checkTimeOfDay).cls).before #[] V = true := fun V hU => ⟨cr_w Z w_579 rfl hU #[], cr_w Z w_1 rfl hU #[]⟩
theorem u_Ri_init {s0 : State} {D : va_G} {ca : Nat → ClassId} {e0 : Nat} (Z : cr_Z0 s0 D ca e0) : ∀ V, cr_W0 s0 V → (cw_Ri_init).before #[] V = true ∧ (Cond.initialized (y_Ri_init).cls).before #[] V = true := fun V hU => ⟨cr_w Z w_584 rfl hU #[], cr_w Z w_25 rfl hU #[]⟩
theorem u_C_end {s0 : State} {D : va_G} {ca : Nat → ClassId} {e0 : Nat} (Z : cr_Z0 s0 D ca e0) : ∀ V, cr_W0 s0 V → (cw_C_end).before #[] V = true ∧ (Cond.initialized (y_C_end).cls).before #[] V = true := fun V hU => ⟨cr_w Z w_609 rfl hU #[], cr_w Z w_1 rfl hU #[]⟩
theorem u_C_lost {s0 : State} {D : va_G} {ca : Nat → ClassId} {e0 : Nat} (Z : cr_Z0 s0 D ca e0) : ∀ V, cr_W0 s0 V → (cw_C_lost).before #[] V = true ∧ (Cond.initialized (y_C_lost).cls).before #[] V = true := fun V hU => ⟨cr_w Z w_617 rfl hU #[], cr_w Z w_1 rfl hU #[]⟩
theorem u_C_cardNumbered {s0 : State} {D : va_G} {ca : Nat → ClassId} {e0 : Nat} (Z : cr_Z0 s0 D ca e0) : ∀ V, cr_W0 s0 V → (cw_C_cardNumbered).before #[] V = true ∧ (Cond.initialized (y_C_cardNumbered).cls).before #[] V = true := fun V hU => ⟨cr_w Z w_621 rfl hU #[], cr_w Z w_1 rfl hU #[]⟩
theorem u_C_two {s0 : State} {D : va_G} {ca : Nat → ClassId} {e0 : Nat} (Z : cr_Z0 s0 D ca e0) : ∀ V, cr_W0 s0 V → (cw_C_two).before #[] V = true ∧ (Cond.initialized (y_C_two).cls).before #[] V = true := fun V hU => ⟨cr_w Z w_629 rfl hU #[], cr_w Z w_1 rfl hU #[]⟩
theorem u_C_doorNumbered {s0 : State} {D : va_G} {ca : Nat → ClassId} {e0 : Nat} (Z : cr_Z0 s0 D ca e0) : ∀ V, cr_W0 s0 V → (cw_C_doorNumbered).before #[] V = true ∧ (Cond.initialized (y_C_doorNumbered).cls).before #[] V = true := fun V hU => ⟨cr_w Z w_633 rfl hU #[], cr_w Z w_1 rfl hU #[]⟩
theorem u_C_airlock {s0 : State} {D : va_G} {ca : Nat → ClassId} {e0 : Nat} (Z : cr_Z0 s0 D ca e0) : ∀ V, cr_W0 s0 V → (cw_C_airlock).before #[] V = true ∧ (Cond.initialized (y_C_airlock).cls).before #[] V = true := fun V hU => ⟨cr_w Z w_641 rfl hU #[], cr_w Z w_1 rfl hU #[]⟩
theorem u_Dr_isAirlockWith {s0 : State} {D : va_G} {ca : Nat → ClassId} {e0 : Nat} (Z : cr_Z0 s0 D ca e0) : ∀ V, cr_W0 s0 V → (cw_Dr_isAirlockWith).before #[] V = true ∧ (Cond.initialized (y_Dr_isAirlockWith).cls).before #[] V = true := fun V hU => ⟨cr_w Z w_646 rfl hU #[], cr_w Z w_22 rfl hU #[]⟩
theorem u_Dr_setAirlockWith {s0 : State} {D : va_G} {ca : Nat → ClassId} {e0 : Nat} (Z : cr_Z0 s0 D ca e0) : ∀ V, cr_W0 s0 V → (cw_Dr_setAirlockWith).before #[] V = true ∧ (Cond.initialized (y_Dr_setAirlockWith).cls).before #[] V = true := fun V hU => ⟨cr_w Z w_650 rfl hU #[], cr_w Z w_22 rfl hU #[]⟩
theorem u_C_state {s0 : State} {D : va_G} {ca : Nat → ClassId} {e0 : Nat} (Z : cr_Z0 s0 D ca e0) : ∀ V, cr_W0 s0 V → (cw_C_state).before #[] V = true ∧ (Cond.initialized (y_C_state).cls).before #[] V = true := fun V hU => ⟨cr_w Z w_657 rfl hU #[], cr_w Z w_1 rfl hU #[]⟩
theorem u_C_checkMinuteFromNow {s0 : State} {D : va_G} {ca : Nat → ClassId} {e0 : Nat} (Z : cr_Z0 s0 D ca e0) : ∀ V, cr_W0 s0 V → (cw_C_checkMinuteFromNow).before #[] V = true ∧ (Cond.initialized (y_C_checkMinuteFromNow).cls).before #[] V = true := fun V hU => ⟨cr_w Z w_661 rfl hU #[], cr_w Z w_1 rfl hU #[]⟩
theorem u_C_off {s0 : State} {D : va_G} {ca : Nat → ClassId} {e0 : Nat} (Z : cr_Z0 s0 D ca e0) : ∀ V, cr_W0 s0 V → (cw_C_off).before #[] V = true ∧ (Cond.initialized (y_C_off).cls).before #[] V = true := fun V hU => ⟨cr_w Z w_669 rfl hU #[], cr_w Z w_1 rfl hU #[]⟩
theorem u_Kn_copyFrom {s0 : State} {D : va_G} {ca : Nat → ClassId} {e0 : Nat} (Z : cr_Z0 s0 D ca e0) : ∀ V, cr_W0 s0 V → (cw_Kn_copyFrom).before #[] V = true ∧ (Cond.initialized (y_Kn_copyFrom).cls).before #[] V = true := fun V hU => ⟨cr_w Z w_673 rfl hU #[], cr_w Z w_5 rfl hU #[]⟩
theorem u_C_goThroughRows {s0 : State} {D : va_G} {ca : Nat → ClassId} {e0 : Nat} (Z : cr_Z0 s0 D ca e0) : ∀ V, cr_W0 s0 V → (cw_C_goThroughRows).before #[] V = true ∧ (Cond.initialized (y_C_goThroughRows).cls).before #[] V = true := fun V hU => ⟨cr_w Z w_678 rfl hU #[], cr_w Z w_1 rfl hU #[]⟩
theorem u_C_refusalLookingBack {s0 : State} {D : va_G} {ca : Nat → ClassId} {e0 : Nat} (Z : cr_Z0 s0 D ca e0) : ∀ V, cr_W0 s0 V → (cw_C_refusalLookingBack).before #[] V = true ∧ (Cond.initialized (y_C_refusalLookingBack).cls).before #[] V = true := fun V hU => ⟨cr_w Z w_683 rfl hU #[], cr_w Z w_1 rfl hU #[]⟩
theorem u_C_refusalOfCard {s0 : State} {D : va_G} {ca : Nat → ClassId} {e0 : Nat} (Z : cr_Z0 s0 D ca e0) : ∀ V, cr_W0 s0 V → (cw_C_refusalOfCard).before #[] V = true ∧ (Cond.initialized (y_C_refusalOfCard).cls).before #[] V = true := fun V hU => ⟨cr_w Z w_686 rfl hU #[], cr_w Z w_1 rfl hU #[]⟩
theorem u_Kn_knowsCard {s0 : State} {D : va_G} {ca : Nat → ClassId} {e0 : Nat} (Z : cr_Z0 s0 D ca e0) : ∀ V, cr_W0 s0 V → (cw_Kn_knowsCard).before #[] V = true ∧ (Cond.initialized (y_Kn_knowsCard).cls).before #[] V = true := fun V hU => ⟨cr_w Z w_690 rfl hU #[], cr_w Z w_5 rfl hU #[]⟩
theorem u_Kn_isLost {s0 : State} {D : va_G} {ca : Nat → ClassId} {e0 : Nat} (Z : cr_Z0 s0 D ca e0) : ∀ V, cr_W0 s0 V → (cw_Kn_isLost).before #[] V = true ∧ (Cond.initialized (y_Kn_isLost).cls).before #[] V = true := fun V hU => ⟨cr_w Z w_694 rfl hU #[], cr_w Z w_5 rfl hU #[]⟩
theorem u_Kn_isFrom {s0 : State} {D : va_G} {ca : Nat → ClassId} {e0 : Nat} (Z : cr_Z0 s0 D ca e0) : ∀ V, cr_W0 s0 V → (cw_Kn_isFrom).before #[] V = true ∧ (Cond.initialized (y_Kn_isFrom).cls).before #[] V = true := fun V hU => ⟨cr_w Z w_697 rfl hU #[], cr_w Z w_5 rfl hU #[]⟩
theorem u_C_hasRight {s0 : State} {D : va_G} {ca : Nat → ClassId} {e0 : Nat} (Z : cr_Z0 s0 D ca e0) : ∀ V, cr_W0 s0 V → (cw_C_hasRight).before #[] V = true ∧ (Cond.initialized (y_C_hasRight).cls).before #[] V = true := fun V hU => ⟨cr_w Z w_701 rfl hU #[], cr_w Z w_1 rfl hU #[]⟩
theorem u_Kn_isEnded {s0 : State} {D : va_G} {ca : Nat → ClassId} {e0 : Nat} (Z : cr_Z0 s0 D ca e0) : ∀ V, cr_W0 s0 V → (cw_Kn_isEnded).before #[] V = true ∧ (Cond.initialized (y_Kn_isEnded).cls).before #[] V = true := fun V hU => ⟨cr_w Z w_705 rfl hU #[], cr_w Z w_5 rfl hU #[]⟩
theorem u_Fi_add {s0 : State} {D : va_G} {ca : Nat → ClassId} {e0 : Nat} (Z : cr_Z0 s0 D ca e0) : ∀ V, cr_W0 s0 V → (cw_Fi_add).before #[] V = true ∧ (Cond.initialized (y_Fi_add).cls).before #[] V = true := fun V hU => ⟨cr_w Z w_709 rfl hU #[], cr_w Z w_7 rfl hU #[]⟩
theorem u_AL_clear {s0 : State} {D : va_G} {ca : Nat → ClassId} {e0 : Nat} (Z : cr_Z0 s0 D ca e0) : ∀ V, cr_W0 s0 V → (cw_AL_clear).before #[] V = true ∧ (Cond.initialized (y_AL_clear).cls).before #[] V = true := fun V hU => ⟨cr_w Z w_718 rfl hU #[], cr_w Z w_4 rfl hU #[]⟩
theorem u_C_asks {s0 : State} {D : va_G} {ca : Nat → ClassId} {e0 : Nat} (Z : cr_Z0 s0 D ca e0) : ∀ V, cr_W0 s0 V → (cw_C_asks).before #[] V = true ∧ (Cond.initialized (y_C_asks).cls).before #[] V = true := fun V hU => ⟨cr_w Z w_725 rfl hU #[], cr_w Z w_1 rfl hU #[]⟩
theorem u_C_roomOfDoor {s0 : State} {D : va_G} {ca : Nat → ClassId} {e0 : Nat} (Z : cr_Z0 s0 D ca e0) : ∀ V, cr_W0 s0 V → (cw_C_roomOfDoor).before #[] V = true ∧ (Cond.initialized (y_C_roomOfDoor).cls).before #[] V = true := fun V hU => ⟨cr_w Z w_728 rfl hU #[], cr_w Z w_1 rfl hU #[]⟩
theorem u_C_checkSpaceForRows {s0 : State} {D : va_G} {ca : Nat → ClassId} {e0 : Nat} (Z : cr_Z0 s0 D ca e0) : ∀ V, cr_W0 s0 V → (cw_C_checkSpaceForRows).before #[] V = true ∧ (Cond.initialized (y_C_checkSpaceForRows).cls).before #[] V = true := fun V hU => ⟨cr_w Z w_732 rfl hU #[], cr_w Z w_1 rfl hU #[]⟩
theorem u_C_refusalByItself {s0 : State} {D : va_G} {ca : Nat → ClassId} {e0 : Nat} (Z : cr_Z0 s0 D ca e0) : ∀ V, cr_W0 s0 V → (cw_C_refusalByItself).before #[] V = true ∧ (Cond.initialized (y_C_refusalByItself).cls).before #[] V = true := fun V hU => ⟨cr_w Z w_737 rfl hU #[], cr_w Z w_1 rfl hU #[]⟩
theorem u_Dr_otherRoom {s0 : State} {D : va_G} {ca : Nat → ClassId} {e0 : Nat} (Z : cr_Z0 s0 D ca e0) : ∀ V, cr_W0 s0 V → (cw_Dr_otherRoom).before #[] V = true ∧ (Cond.initialized (y_Dr_otherRoom).cls).before #[] V = true := fun V hU => ⟨cr_w Z w_741 rfl hU #[], cr_w Z w_22 rfl hU #[]⟩
theorem u_C_isAirlockOpen {s0 : State} {D : va_G} {ca : Nat → ClassId} {e0 : Nat} (Z : cr_Z0 s0 D ca e0) : ∀ V, cr_W0 s0 V → (cw_C_isAirlockOpen).before #[] V = true ∧ (Cond.initialized (y_C_isAirlockOpen).cls).before #[] V = true := fun V hU => ⟨cr_w Z w_745 rfl hU #[], cr_w Z w_1 rfl hU #[]⟩
theorem u_C_letIn {s0 : State} {D : va_G} {ca : Nat → ClassId} {e0 : Nat} (Z : cr_Z0 s0 D ca e0) : ∀ V, cr_W0 s0 V → (cw_C_letIn).before #[] V = true ∧ (Cond.initialized (y_C_letIn).cls).before #[] V = true := fun V hU => ⟨cr_w Z w_749 rfl hU #[], cr_w Z w_1 rfl hU #[]⟩
theorem u_Us_mark {s0 : State} {D : va_G} {ca : Nat → ClassId} {e0 : Nat} (Z : cr_Z0 s0 D ca e0) : ∀ V, cr_W0 s0 V → (cw_Us_mark).before #[] V = true ∧ (Cond.initialized (y_Us_mark).cls).before #[] V = true := fun V hU => ⟨cr_w Z w_753 rfl hU #[], cr_w Z w_8 rfl hU #[]⟩
theorem u_Rw_init {s0 : State} {D : va_G} {ca : Nat → ClassId} {e0 : Nat} (Z : cr_Z0 s0 D ca e0) : ∀ V, cr_W0 s0 V → (cw_Rw_init).before #[] V = true ∧ (Cond.initialized (y_Rw_init).cls).before #[] V = true := fun V hU => ⟨cr_w Z w_757 rfl hU #[], cr_w Z w_26 rfl hU #[]⟩
theorem u_C_both {s0 : State} {D : va_G} {ca : Nat → ClassId} {e0 : Nat} (Z : cr_Z0 s0 D ca e0) : ∀ V, cr_W0 s0 V → (cw_C_both).before #[] V = true ∧ (Cond.initialized (y_C_both).cls).before #[] V = true := fun V hU => ⟨cr_w Z w_778 rfl hU #[], cr_w Z w_1 rfl hU #[]⟩
theorem u_C_where {s0 : State} {D : va_G} {ca : Nat → ClassId} {e0 : Nat} (Z : cr_Z0 s0 D ca e0) : ∀ V, cr_W0 s0 V → (cw_C_where).before #[] V = true ∧ (Cond.initialized (y_C_where).cls).before #[] V = true := fun V hU => ⟨cr_w Z w_786 rfl hU #[], cr_w Z w_1 rfl hU #[]⟩
theorem u_C_inside {s0 : State} {D : va_G} {ca : Nat → ClassId} {e0 : Nat} (Z : cr_Z0 s0 D ca e0) : ∀ V, cr_W0 s0 V → (cw_C_inside).before #[] V = true ∧ (Cond.initialized (y_C_inside).cls).before #[] V = true := fun V hU => ⟨cr_w Z w_793 rfl hU #[], cr_w Z w_1 rfl hU #[]⟩
theorem u_C_muster {s0 : State} {D : va_G} {ca : Nat → ClassId} {e0 : Nat} (Z : cr_Z0 s0 D ca e0) : ∀ V, cr_W0 s0 V → (cw_C_muster).before #[] V = true ∧ (Cond.initialized (y_C_muster).cls).before #[] V = true := fun V hU => ⟨cr_w Z w_800 rfl hU #[], cr_w Z w_1 rfl hU #[]⟩
theorem u_C_found {s0 : State} {D : va_G} {ca : Nat → ClassId} {e0 : Nat} (Z : cr_Z0 s0 D ca e0) : ∀ V, cr_W0 s0 V → (cw_C_found).before #[] V = true ∧ (Cond.initialized (y_C_found).cls).before #[] V = true := fun V hU => ⟨cr_w Z w_808 rfl hU #[], cr_w Z w_1 rfl hU #[]⟩
theorem u_M_init {s0 : State} {D : va_G} {ca : Nat → ClassId} {e0 : Nat} (Z : cr_Z0 s0 D ca e0) : ∀ V, cr_W0 s0 V → (cw_M_init).before #[] V = true ∧ (Cond.initialized (y_M_init).cls).before #[] V = true := fun V hU => ⟨cr_w Z w_815 rfl hU #[], cr_w Z w_10 rfl hU #[]⟩
theorem u_M_thrown {s0 : State} {D : va_G} {ca : Nat → ClassId} {e0 : Nat} (Z : cr_Z0 s0 D ca e0) : ∀ V, cr_W0 s0 V → (cw_M_thrown).before #[] V = true ∧ (Cond.initialized (y_M_thrown).cls).before #[] V = true := fun V hU => ⟨cr_w Z w_946 rfl hU #[], cr_w Z w_10 rfl hU #[]⟩
theorem u_M_room {s0 : State} {D : va_G} {ca : Nat → ClassId} {e0 : Nat} (Z : cr_Z0 s0 D ca e0) : ∀ V, cr_W0 s0 V → (cw_M_room).before #[] V = true ∧ (Cond.initialized (y_M_room).cls).before #[] V = true := fun V hU => ⟨cr_w Z w_950 rfl hU #[], cr_w Z w_10 rfl hU #[]⟩
theorem u_M_isIn {s0 : State} {D : va_G} {ca : Nat → ClassId} {e0 : Nat} (Z : cr_Z0 s0 D ca e0) : ∀ V, cr_W0 s0 V → (cw_M_isIn).before #[] V = true ∧ (Cond.initialized (y_M_isIn).cls).before #[] V = true := fun V hU => ⟨cr_w Z w_953 rfl hU #[], cr_w Z w_10 rfl hU #[]⟩
theorem u_M_goes {s0 : State} {D : va_G} {ca : Nat → ClassId} {e0 : Nat} (Z : cr_Z0 s0 D ca e0) : ∀ V, cr_W0 s0 V → (cw_M_goes).before #[] V = true ∧ (Cond.initialized (y_M_goes).cls).before #[] V = true := fun V hU => ⟨cr_w Z w_957 rfl hU #[], cr_w Z w_10 rfl hU #[]⟩
theorem u_M_door {s0 : State} {D : va_G} {ca : Nat → ClassId} {e0 : Nat} (Z : cr_Z0 s0 D ca e0) : ∀ V, cr_W0 s0 V → (cw_M_door).before #[] V = true ∧ (Cond.initialized (y_M_door).cls).before #[] V = true := fun V hU => ⟨cr_w Z w_961 rfl hU #[], cr_w Z w_10 rfl hU #[]⟩
theorem u_M_person {s0 : State} {D : va_G} {ca : Nat → ClassId} {e0 : Nat} (Z : cr_Z0 s0 D ca e0) : ∀ V, cr_W0 s0 V → (cw_M_person).before #[] V = true ∧ (Cond.initialized (y_M_person).cls).before #[] V = true := fun V hU => ⟨cr_w Z w_965 rfl hU #[], cr_w Z w_10 rfl hU #[]⟩
theorem u_M_card {s0 : State} {D : va_G} {ca : Nat → ClassId} {e0 : Nat} (Z : cr_Z0 s0 D ca e0) : ∀ V, cr_W0 s0 V → (cw_M_card).before #[] V = true ∧ (Cond.initialized (y_M_card).cls).before #[] V = true := fun V hU => ⟨cr_w Z w_969 rfl hU #[], cr_w Z w_10 rfl hU #[]⟩
theorem u_M_isMinute {s0 : State} {D : va_G} {ca : Nat → ClassId} {e0 : Nat} (Z : cr_Z0 s0 D ca e0) : ∀ V, cr_W0 s0 V → (cw_M_isMinute).before #[] V = true ∧ (Cond.initialized (y_M_isMinute).cls).before #[] V = true := fun V hU => ⟨cr_w Z w_972 rfl hU #[], cr_w Z w_10 rfl hU #[]⟩
theorem u_M_tell {s0 : State} {D : va_G} {ca : Nat → ClassId} {e0 : Nat} (Z : cr_Z0 s0 D ca e0) : ∀ V, cr_W0 s0 V → (cw_M_tell).before #[] V = true ∧ (Cond.initialized (y_M_tell).cls).before #[] V = true := fun V hU => ⟨cr_w Z w_977 rfl hU #[], cr_w Z w_10 rfl hU #[]⟩
theorem u_M_right {s0 : State} {D : va_G} {ca : Nat → ClassId} {e0 : Nat} (Z : cr_Z0 s0 D ca e0) : ∀ V, cr_W0 s0 V → (cw_M_right).before #[] V = true ∧ (Cond.initialized (y_M_right).cls).before #[] V = true := fun V hU => ⟨cr_w Z w_981 rfl hU #[], cr_w Z w_10 rfl hU #[]⟩
theorem u_M_end {s0 : State} {D : va_G} {ca : Nat → ClassId} {e0 : Nat} (Z : cr_Z0 s0 D ca e0) : ∀ V, cr_W0 s0 V → (cw_M_end).before #[] V = true ∧ (Cond.initialized (y_M_end).cls).before #[] V = true := fun V hU => ⟨cr_w Z w_985 rfl hU #[], cr_w Z w_10 rfl hU #[]⟩
theorem u_M_told {s0 : State} {D : va_G} {ca : Nat → ClassId} {e0 : Nat} (Z : cr_Z0 s0 D ca e0) : ∀ V, cr_W0 s0 V → (cw_M_told).before #[] V = true ∧ (Cond.initialized (y_M_told).cls).before #[] V = true := fun V hU => ⟨cr_w Z w_989 rfl hU #[], cr_w Z w_10 rfl hU #[]⟩
theorem u_M_lost {s0 : State} {D : va_G} {ca : Nat → ClassId} {e0 : Nat} (Z : cr_Z0 s0 D ca e0) : ∀ V, cr_W0 s0 V → (cw_M_lost).before #[] V = true ∧ (Cond.initialized (y_M_lost).cls).before #[] V = true := fun V hU => ⟨cr_w Z w_993 rfl hU #[], cr_w Z w_10 rfl hU #[]⟩
theorem u_M_two {s0 : State} {D : va_G} {ca : Nat → ClassId} {e0 : Nat} (Z : cr_Z0 s0 D ca e0) : ∀ V, cr_W0 s0 V → (cw_M_two).before #[] V = true ∧ (Cond.initialized (y_M_two).cls).before #[] V = true := fun V hU => ⟨cr_w Z w_997 rfl hU #[], cr_w Z w_10 rfl hU #[]⟩
theorem u_M_airlock {s0 : State} {D : va_G} {ca : Nat → ClassId} {e0 : Nat} (Z : cr_Z0 s0 D ca e0) : ∀ V, cr_W0 s0 V → (cw_M_airlock).before #[] V = true ∧ (Cond.initialized (y_M_airlock).cls).before #[] V = true := fun V hU => ⟨cr_w Z w_1001 rfl hU #[], cr_w Z w_10 rfl hU #[]⟩
theorem u_M_state {s0 : State} {D : va_G} {ca : Nat → ClassId} {e0 : Nat} (Z : cr_Z0 s0 D ca e0) : ∀ V, cr_W0 s0 V → (cw_M_state).before #[] V = true ∧ (Cond.initialized (y_M_state).cls).before #[] V = true := fun V hU => ⟨cr_w Z w_1005 rfl hU #[], cr_w Z w_10 rfl hU #[]⟩
theorem u_M_isLater {s0 : State} {D : va_G} {ca : Nat → ClassId} {e0 : Nat} (Z : cr_Z0 s0 D ca e0) : ∀ V, cr_W0 s0 V → (cw_M_isLater).before #[] V = true ∧ (Cond.initialized (y_M_isLater).cls).before #[] V = true := fun V hU => ⟨cr_w Z w_1009 rfl hU #[], cr_w Z w_10 rfl hU #[]⟩
theorem u_M_asks {s0 : State} {D : va_G} {ca : Nat → ClassId} {e0 : Nat} (Z : cr_Z0 s0 D ca e0) : ∀ V, cr_W0 s0 V → (cw_M_asks).before #[] V = true ∧ (Cond.initialized (y_M_asks).cls).before #[] V = true := fun V hU => ⟨cr_w Z w_1013 rfl hU #[], cr_w Z w_10 rfl hU #[]⟩
theorem u_M_isOf {s0 : State} {D : va_G} {ca : Nat → ClassId} {e0 : Nat} (Z : cr_Z0 s0 D ca e0) : ∀ V, cr_W0 s0 V → (cw_M_isOf).before #[] V = true ∧ (Cond.initialized (y_M_isOf).cls).before #[] V = true := fun V hU => ⟨cr_w Z w_1017 rfl hU #[], cr_w Z w_10 rfl hU #[]⟩
theorem u_M_refused {s0 : State} {D : va_G} {ca : Nat → ClassId} {e0 : Nat} (Z : cr_Z0 s0 D ca e0) : ∀ V, cr_W0 s0 V → (cw_M_refused).before #[] V = true ∧ (Cond.initialized (y_M_refused).cls).before #[] V = true := fun V hU => ⟨cr_w Z w_1021 rfl hU #[], cr_w Z w_10 rfl hU #[]⟩
theorem u_M_why {s0 : State} {D : va_G} {ca : Nat → ClassId} {e0 : Nat} (Z : cr_Z0 s0 D ca e0) : ∀ V, cr_W0 s0 V → (cw_M_why).before #[] V = true ∧ (Cond.initialized (y_M_why).cls).before #[] V = true := fun V hU => ⟨cr_w Z w_1025 rfl hU #[], cr_w Z w_10 rfl hU #[]⟩
theorem u_M_spans {s0 : State} {D : va_G} {ca : Nat → ClassId} {e0 : Nat} (Z : cr_Z0 s0 D ca e0) : ∀ V, cr_W0 s0 V → (cw_M_spans).before #[] V = true ∧ (Cond.initialized (y_M_spans).cls).before #[] V = true := fun V hU => ⟨cr_w Z w_1029 rfl hU #[], cr_w Z w_10 rfl hU #[]⟩
theorem u_M_let {s0 : State} {D : va_G} {ca : Nat → ClassId} {e0 : Nat} (Z : cr_Z0 s0 D ca e0) : ∀ V, cr_W0 s0 V → (cw_M_let).before #[] V = true ∧ (Cond.initialized (y_M_let).cls).before #[] V = true := fun V hU => ⟨cr_w Z w_1033 rfl hU #[], cr_w Z w_10 rfl hU #[]⟩
theorem u_M_both {s0 : State} {D : va_G} {ca : Nat → ClassId} {e0 : Nat} (Z : cr_Z0 s0 D ca e0) : ∀ V, cr_W0 s0 V → (cw_M_both).before #[] V = true ∧ (Cond.initialized (y_M_both).cls).before #[] V = true := fun V hU => ⟨cr_w Z w_1037 rfl hU #[], cr_w Z w_10 rfl hU #[]⟩
theorem u_M_off {s0 : State} {D : va_G} {ca : Nat → ClassId} {e0 : Nat} (Z : cr_Z0 s0 D ca e0) : ∀ V, cr_W0 s0 V → (cw_M_off).before #[] V = true ∧ (Cond.initialized (y_M_off).cls).before #[] V = true := fun V hU => ⟨cr_w Z w_1041 rfl hU #[], cr_w Z w_10 rfl hU #[]⟩
theorem u_M_where {s0 : State} {D : va_G} {ca : Nat → ClassId} {e0 : Nat} (Z : cr_Z0 s0 D ca e0) : ∀ V, cr_W0 s0 V → (cw_M_where).before #[] V = true ∧ (Cond.initialized (y_M_where).cls).before #[] V = true := fun V hU => ⟨cr_w Z w_1045 rfl hU #[], cr_w Z w_10 rfl hU #[]⟩
theorem u_M_inside {s0 : State} {D : va_G} {ca : Nat → ClassId} {e0 : Nat} (Z : cr_Z0 s0 D ca e0) : ∀ V, cr_W0 s0 V → (cw_M_inside).before #[] V = true ∧ (Cond.initialized (y_M_inside).cls).before #[] V = true := fun V hU => ⟨cr_w Z w_1049 rfl hU #[], cr_w Z w_10 rfl hU #[]⟩
theorem u_M_muster {s0 : State} {D : va_G} {ca : Nat → ClassId} {e0 : Nat} (Z : cr_Z0 s0 D ca e0) : ∀ V, cr_W0 s0 V → (cw_M_muster).before #[] V = true ∧ (Cond.initialized (y_M_muster).cls).before #[] V = true := fun V hU => ⟨cr_w Z w_1053 rfl hU #[], cr_w Z w_10 rfl hU #[]⟩
theorem u_M_against {s0 : State} {D : va_G} {ca : Nat → ClassId} {e0 : Nat} (Z : cr_Z0 s0 D ca e0) : ∀ V, cr_W0 s0 V → (cw_M_against).before #[] V = true ∧ (Cond.initialized (y_M_against).cls).before #[] V = true := fun V hU => ⟨cr_w Z w_1057 rfl hU #[], cr_w Z w_10 rfl hU #[]⟩
theorem u_M_found {s0 : State} {D : va_G} {ca : Nat → ClassId} {e0 : Nat} (Z : cr_Z0 s0 D ca e0) : ∀ V, cr_W0 s0 V → (cw_M_found).before #[] V = true ∧ (Cond.initialized (y_M_found).cls).before #[] V = true := fun V hU => ⟨cr_w Z w_1061 rfl hU #[], cr_w Z w_10 rfl hU #[]⟩
theorem u_M_uses {s0 : State} {D : va_G} {ca : Nat → ClassId} {e0 : Nat} (Z : cr_Z0 s0 D ca e0) : ∀ V, cr_W0 s0 V → (cw_M_uses).before #[] V = true ∧ (Cond.initialized (y_M_uses).cls).before #[] V = true := fun V hU => ⟨cr_w Z w_1065 rfl hU #[], cr_w Z w_10 rfl hU #[]⟩
theorem u_M_fewest {s0 : State} {D : va_G} {ca : Nat → ClassId} {e0 : Nat} (Z : cr_Z0 s0 D ca e0) : ∀ V, cr_W0 s0 V → (cw_M_fewest).before #[] V = true ∧ (Cond.initialized (y_M_fewest).cls).before #[] V = true := fun V hU => ⟨cr_w Z w_1069 rfl hU #[], cr_w Z w_10 rfl hU #[]⟩
theorem u_M_count {s0 : State} {D : va_G} {ca : Nat → ClassId} {e0 : Nat} (Z : cr_Z0 s0 D ca e0) : ∀ V, cr_W0 s0 V → (cw_M_count).before #[] V = true ∧ (Cond.initialized (y_M_count).cls).before #[] V = true := fun V hU => ⟨cr_w Z w_1072 rfl hU #[], cr_w Z w_10 rfl hU #[]⟩
theorem u_M_meets {s0 : State} {D : va_G} {ca : Nat → ClassId} {e0 : Nat} (Z : cr_Z0 s0 D ca e0) : ∀ V, cr_W0 s0 V → (cw_M_meets).before #[] V = true ∧ (Cond.initialized (y_M_meets).cls).before #[] V = true := fun V hU => ⟨cr_w Z w_1076 rfl hU #[], cr_w Z w_10 rfl hU #[]⟩
theorem u_M_now {s0 : State} {D : va_G} {ca : Nat → ClassId} {e0 : Nat} (Z : cr_Z0 s0 D ca e0) : ∀ V, cr_W0 s0 V → (cw_M_now).before #[] V = true ∧ (Cond.initialized (y_M_now).cls).before #[] V = true := fun V hU => ⟨cr_w Z w_1080 rfl hU #[], cr_w Z w_10 rfl hU #[]⟩
def cs_obj : List Nat := [8, 2, 6, 1, 7, 9]
theorem cs_obj_ok {s0 V : State} {D : va_G} {ca : Nat → ClassId} {e0 : Nat} (Z : cr_Z0 s0 D ca e0) (hU : cr_W0 s0 V) (args : Array Value) : ∀ ci ∈ cs_obj, ∃ r, kc[ci]? = some r ∧ (Cond.castable r.1 "java/lang/Object").before args V = true := by
  unfold cs_obj
  refine List.forall_mem_cons.mpr ⟨⟨_, rfl, cr_w Z w_1097 rfl hU args⟩, ?_⟩
  refine List.forall_mem_cons.mpr ⟨⟨_, rfl, cr_w Z w_1098 rfl hU args⟩, ?_⟩
  refine List.forall_mem_cons.mpr ⟨⟨_, rfl, cr_w Z w_1099 rfl hU args⟩, ?_⟩
  refine List.forall_mem_cons.mpr ⟨⟨_, rfl, cr_w Z w_1100 rfl hU args⟩, ?_⟩
  refine List.forall_mem_cons.mpr ⟨⟨_, rfl, cr_w Z w_1101 rfl hU args⟩, ?_⟩
  refine List.forall_mem_cons.mpr ⟨⟨_, rfl, cr_w Z w_1102 rfl hU args⟩, ?_⟩
  exact fun _ h => absurd h List.not_mem_nil
