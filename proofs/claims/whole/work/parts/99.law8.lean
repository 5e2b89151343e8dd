/-! THE LAW: its entry (printed by gen/comp34.py); then the skeleton's end, with the flags passed on -/
theorem w_48 : (Jvm.Cond.laysStatic "java/util/ArrayList" "DEFAULTCAPACITY_EMPTY_ELEMENTDATA" "[Ljava/lang/Object;") ∈ lw_tbl := List.mem_of_getElem? (i := 91) (by decide +kernel)
theorem kk_C {s : State} {args : Array Value} (h : ∀ w ∈ lw_tbl, w.before args s = true) : ∀ w ∈ u_ws R_C T_C 10, w.before args s = true := by
  unfold u_ws
  simp only [List.range, List.range.loop, List.map_cons, List.map_nil]
  refine List.forall_mem_cons.mpr ⟨h _ w_142, ?_⟩
  refine List.forall_mem_cons.mpr ⟨h _ w_144, ?_⟩
  refine List.forall_mem_cons.mpr ⟨h _ w_146, ?_⟩
  refine List.forall_mem_cons.mpr ⟨h _ w_148, ?_⟩
  refine List.forall_mem_cons.mpr ⟨h _ w_150, ?_⟩
  refine List.forall_mem_cons.mpr ⟨h _ w_152, ?_⟩
  refine List.forall_mem_cons.mpr ⟨h _ w_154, ?_⟩
  refine List.forall_mem_cons.mpr ⟨h _ w_156, ?_⟩
  refine List.forall_mem_cons.mpr ⟨h _ w_158, ?_⟩
  refine List.forall_mem_cons.mpr ⟨h _ w_160, ?_⟩
  exact fun _ h => absurd h List.not_mem_nil
theorem kk_Cd {s : State} {args : Array Value} (h : ∀ w ∈ lw_tbl, w.before args s = true) : ∀ w ∈ u_ws R_Cd T_Cd 3, w.before args s = true := by
  unfold u_ws
  simp only [List.range, List.range.loop, List.map_cons, List.map_nil]
  refine List.forall_mem_cons.mpr ⟨h _ w_559, ?_⟩
  refine List.forall_mem_cons.mpr ⟨h _ w_561, ?_⟩
  refine List.forall_mem_cons.mpr ⟨h _ w_563, ?_⟩
  exact fun _ h => absurd h List.not_mem_nil
theorem kk_Dr {s : State} {args : Array Value} (h : ∀ w ∈ lw_tbl, w.before args s = true) : ∀ w ∈ u_ws R_Dr T_Dr 10, w.before args s = true := by
  unfold u_ws
  simp only [List.range, List.range.loop, List.map_cons, List.map_nil]
  refine List.forall_mem_cons.mpr ⟨h _ w_471, ?_⟩
  refine List.forall_mem_cons.mpr ⟨h _ w_473, ?_⟩
  refine List.forall_mem_cons.mpr ⟨h _ w_475, ?_⟩
  refine List.forall_mem_cons.mpr ⟨h _ w_477, ?_⟩
  refine List.forall_mem_cons.mpr ⟨h _ w_479, ?_⟩
  refine List.forall_mem_cons.mpr ⟨h _ w_481, ?_⟩
  refine List.forall_mem_cons.mpr ⟨h _ w_483, ?_⟩
  refine List.forall_mem_cons.mpr ⟨h _ w_485, ?_⟩
  refine List.forall_mem_cons.mpr ⟨h _ w_487, ?_⟩
  refine List.forall_mem_cons.mpr ⟨h _ w_489, ?_⟩
  exact fun _ h => absurd h List.not_mem_nil
theorem kk_Fi {s : State} {args : Array Value} (h : ∀ w ∈ lw_tbl, w.before args s = true) : ∀ w ∈ u_ws R_Fi T_Fi 2, w.before args s = true := by
  unfold u_ws
  simp only [List.range, List.range.loop, List.map_cons, List.map_nil]
  refine List.forall_mem_cons.mpr ⟨h _ w_98, ?_⟩
  refine List.forall_mem_cons.mpr ⟨h _ w_100, ?_⟩
  exact fun _ h => absurd h List.not_mem_nil
theorem kk_Kn {s : State} {args : Array Value} (h : ∀ w ∈ lw_tbl, w.before args s = true) : ∀ w ∈ u_ws R_Kn T_Kn 4, w.before args s = true := by
  unfold u_ws
  simp only [List.range, List.range.loop, List.map_cons, List.map_nil]
  refine List.forall_mem_cons.mpr ⟨h _ w_78, ?_⟩
  refine List.forall_mem_cons.mpr ⟨h _ w_80, ?_⟩
  refine List.forall_mem_cons.mpr ⟨h _ w_82, ?_⟩
  refine List.forall_mem_cons.mpr ⟨h _ w_84, ?_⟩
  exact fun _ h => absurd h List.not_mem_nil
theorem kk_Ne {s : State} {args : Array Value} (h : ∀ w ∈ lw_tbl, w.before args s = true) : ∀ w ∈ u_ws R_Ne T_Ne 2, w.before args s = true := by
  unfold u_ws
  simp only [List.range, List.range.loop, List.map_cons, List.map_nil]
  refine List.forall_mem_cons.mpr ⟨h _ w_127, ?_⟩
  refine List.forall_mem_cons.mpr ⟨h _ w_129, ?_⟩
  exact fun _ h => absurd h List.not_mem_nil
theorem kk_Pe {s : State} {args : Array Value} (h : ∀ w ∈ lw_tbl, w.before args s = true) : ∀ w ∈ u_ws R_Pe T_Pe 2, w.before args s = true := by
  unfold u_ws
  simp only [List.range, List.range.loop, List.map_cons, List.map_nil]
  refine List.forall_mem_cons.mpr ⟨h _ w_524, ?_⟩
  refine List.forall_mem_cons.mpr ⟨h _ w_526, ?_⟩
  exact fun _ h => absurd h List.not_mem_nil
theorem kk_Ri {s : State} {args : Array Value} (h : ∀ w ∈ lw_tbl, w.before args s = true) : ∀ w ∈ u_ws R_Ri T_Ri 5, w.before args s = true := by
  unfold u_ws
  simp only [List.range, List.range.loop, List.map_cons, List.map_nil]
  refine List.forall_mem_cons.mpr ⟨h _ w_588, ?_⟩
  refine List.forall_mem_cons.mpr ⟨h _ w_590, ?_⟩
  refine List.forall_mem_cons.mpr ⟨h _ w_592, ?_⟩
  refine List.forall_mem_cons.mpr ⟨h _ w_594, ?_⟩
  refine List.forall_mem_cons.mpr ⟨h _ w_596, ?_⟩
  exact fun _ h => absurd h List.not_mem_nil
theorem kk_Ro {s : State} {args : Array Value} (h : ∀ w ∈ lw_tbl, w.before args s = true) : ∀ w ∈ u_ws R_Ro T_Ro 2, w.before args s = true := by
  unfold u_ws
  simp only [List.range, List.range.loop, List.map_cons, List.map_nil]
  refine List.forall_mem_cons.mpr ⟨h _ w_356, ?_⟩
  refine List.forall_mem_cons.mpr ⟨h _ w_358, ?_⟩
  exact fun _ h => absurd h List.not_mem_nil
theorem kk_Rw {s : State} {args : Array Value} (h : ∀ w ∈ lw_tbl, w.before args s = true) : ∀ w ∈ u_ws R_Rw T_Rw 3, w.before args s = true := by
  unfold u_ws
  simp only [List.range, List.range.loop, List.map_cons, List.map_nil]
  refine List.forall_mem_cons.mpr ⟨h _ w_761, ?_⟩
  refine List.forall_mem_cons.mpr ⟨h _ w_763, ?_⟩
  refine List.forall_mem_cons.mpr ⟨h _ w_765, ?_⟩
  exact fun _ h => absurd h List.not_mem_nil
theorem kk_Us {s : State} {args : Array Value} (h : ∀ w ∈ lw_tbl, w.before args s = true) : ∀ w ∈ u_ws R_Us T_Us 2, w.before args s = true := by
  unfold u_ws
  simp only [List.range, List.range.loop, List.map_cons, List.map_nil]
  refine List.forall_mem_cons.mpr ⟨h _ w_113, ?_⟩
  refine List.forall_mem_cons.mpr ⟨h _ w_115, ?_⟩
  exact fun _ h => absurd h List.not_mem_nil
theorem kk_M {s : State} {args : Array Value} (h : ∀ w ∈ lw_tbl, w.before args s = true) : ∀ w ∈ u_ws R_M T_M 41, w.before args s = true := by
  unfold u_ws
  simp only [List.range, List.range.loop, List.map_cons, List.map_nil]
  refine List.forall_mem_cons.mpr ⟨h _ w_860, ?_⟩
  refine List.forall_mem_cons.mpr ⟨h _ w_862, ?_⟩
  refine List.forall_mem_cons.mpr ⟨h _ w_864, ?_⟩
  refine List.forall_mem_cons.mpr ⟨h _ w_866, ?_⟩
  refine List.forall_mem_cons.mpr ⟨h _ w_868, ?_⟩
  refine List.forall_mem_cons.mpr ⟨h _ w_870, ?_⟩
  refine List.forall_mem_cons.mpr ⟨h _ w_872, ?_⟩
  refine List.forall_mem_cons.mpr ⟨h _ w_874, ?_⟩
  refine List.forall_mem_cons.mpr ⟨h _ w_876, ?_⟩
  refine List.forall_mem_cons.mpr ⟨h _ w_878, ?_⟩
  refine List.forall_mem_cons.mpr ⟨h _ w_880, ?_⟩
  refine List.forall_mem_cons.mpr ⟨h _ w_882, ?_⟩
  refine List.forall_mem_cons.mpr ⟨h _ w_884, ?_⟩
  refine List.forall_mem_cons.mpr ⟨h _ w_886, ?_⟩
  refine List.forall_mem_cons.mpr ⟨h _ w_888, ?_⟩
  refine List.forall_mem_cons.mpr ⟨h _ w_890, ?_⟩
  refine List.forall_mem_cons.mpr ⟨h _ w_892, ?_⟩
  refine List.forall_mem_cons.mpr ⟨h _ w_894, ?_⟩
  refine List.forall_mem_cons.mpr ⟨h _ w_896, ?_⟩
  refine List.forall_mem_cons.mpr ⟨h _ w_898, ?_⟩
  refine List.forall_mem_cons.mpr ⟨h _ w_900, ?_⟩
  refine List.forall_mem_cons.mpr ⟨h _ w_902, ?_⟩
  refine List.forall_mem_cons.mpr ⟨h _ w_904, ?_⟩
  refine List.forall_mem_cons.mpr ⟨h _ w_906, ?_⟩
  refine List.forall_mem_cons.mpr ⟨h _ w_908, ?_⟩
  refine List.forall_mem_cons.mpr ⟨h _ w_910, ?_⟩
  refine List.forall_mem_cons.mpr ⟨h _ w_912, ?_⟩
  refine List.forall_mem_cons.mpr ⟨h _ w_914, ?_⟩
  refine List.forall_mem_cons.mpr ⟨h _ w_916, ?_⟩
  refine List.forall_mem_cons.mpr ⟨h _ w_918, ?_⟩
  refine List.forall_mem_cons.mpr ⟨h _ w_920, ?_⟩
  refine List.forall_mem_cons.mpr ⟨h _ w_922, ?_⟩
  refine List.forall_mem_cons.mpr ⟨h _ w_924, ?_⟩
  refine List.forall_mem_cons.mpr ⟨h _ w_926, ?_⟩
  refine List.forall_mem_cons.mpr ⟨h _ w_928, ?_⟩
  refine List.forall_mem_cons.mpr ⟨h _ w_930, ?_⟩
  refine List.forall_mem_cons.mpr ⟨h _ w_932, ?_⟩
  refine List.forall_mem_cons.mpr ⟨h _ w_934, ?_⟩
  refine List.forall_mem_cons.mpr ⟨h _ w_936, ?_⟩
  refine List.forall_mem_cons.mpr ⟨h _ w_938, ?_⟩
  refine List.forall_mem_cons.mpr ⟨h _ w_940, ?_⟩
  exact fun _ h => absurd h List.not_mem_nil
theorem kk_AL {s : State} {args : Array Value} (h : ∀ w ∈ lw_tbl, w.before args s = true) : ∀ w ∈ u_ws R_AL T_AL 3, w.before args s = true := by
  unfold u_ws
  simp only [List.range, List.range.loop, List.map_cons, List.map_nil]
  refine List.forall_mem_cons.mpr ⟨h _ w_54, ?_⟩
  refine List.forall_mem_cons.mpr ⟨h _ w_56, ?_⟩
  refine List.forall_mem_cons.mpr ⟨h _ w_58, ?_⟩
  exact fun _ h => absurd h List.not_mem_nil
theorem lw_Arr {s : State} {args : Array Value} {ty : FieldType} (h : (Cond.arrayClass ty).before args s = true) : ∃ cA, ArrOfT s cA ty ∧ s.vm.findClass ("[" ++ ty.toString) = some cA := by
  obtain ⟨c0, k0, comp0, f1, f2, f3⟩ := Cond.arrayClass_spec h
  exact ⟨c0, fun N z => ⟨(fun k h => by cases h), k0, f2, comp0, f3⟩, f1⟩
theorem lw_strs : ∀ w ∈ lw_tbl, (match w with | .stringRef own k _ => (flatC (Jvm.Cond.and given_1 narrow_1)).contains (Cond.exactly (Term.string own k) "java/lang/String") | _ => true) = true := by decide +kernel
theorem lw_Z0 {s : State} {b : Nat} (hts : ∀ w ∈ lw_tbl, w.before #[Value.ref b] s = true) (hg : (Jvm.Cond.and given_1 narrow_1).before #[Value.ref b] s = true) : cr_No s ∧ ∃ D ca e0, cr_Z0 s D ca e0 := by
  have hs := flat_of_before _ hg
  refine ⟨⟨_, hs _ (by decide +kernel)⟩, ?_⟩
  obtain ⟨c0, i0, K0⟩ := u_known (kk_C hts) (fun _ h => h) (hts _ w_28)
  obtain ⟨c1, i1, K1⟩ := u_known (kk_Cd hts) (fun _ h => h) (hts _ w_548)
  obtain ⟨c2, i2, K2⟩ := u_known (kk_Dr hts) (fun _ h => h) (hts _ w_443)
  obtain ⟨c3, i3, K3⟩ := u_known (kk_Fi hts) (fun _ h => h) (hts _ w_89)
  obtain ⟨c4, i4, K4⟩ := u_known (kk_Kn hts) (fun _ h => h) (hts _ w_62)
  obtain ⟨c5, i5, K5⟩ := u_known (kk_Ne hts) (fun _ h => h) (hts _ w_120)
  obtain ⟨c6, i6, K6⟩ := u_known (kk_Pe hts) (fun _ h => h) (hts _ w_515)
  obtain ⟨c7, i7, K7⟩ := u_known (kk_Ri hts) (fun _ h => h) (hts _ w_225)
  obtain ⟨c8, i8, K8⟩ := u_known (kk_Ro hts) (fun _ h => h) (hts _ w_347)
  obtain ⟨c9, i9, K9⟩ := u_known (kk_Rw hts) (fun _ h => h) (hts _ w_750)
  obtain ⟨c10, i10, K10⟩ := u_known (kk_Us hts) (fun _ h => h) (hts _ w_104)
  obtain ⟨c11, i11, K11⟩ := u_known (kk_M hts) (fun _ h => h) (hts _ w_813)
  obtain ⟨c12, i12, K12⟩ := u_known (kk_AL hts) (fun _ h => h) (hts _ w_36)
  obtain ⟨a0, A0, B0⟩ := lw_Arr (hts _ w_87)
  obtain ⟨a1, A1, B1⟩ := lw_Arr (hts _ w_118)
  obtain ⟨a2, A2, B2⟩ := lw_Arr (hts _ w_943)
  obtain ⟨comp, a3, k3, g1, -, g3, g4, g5⟩ := Cond.arrayOver_spec (hts _ wn_over)
  have hA : ∀ a : Nat, a < s.heap.size → ¬ s.heap.size ≤ a := fun a h q => by omega
  have harr : (Cond.arrayOf (Term.static "java/util/ArrayList" "DEFAULTCAPACITY_EMPTY_ELEMENTDATA" "[Ljava/lang/Object;") (.object "java/lang/Object")).before #[Value.ref b] s = true := hs _ (by decide +kernel)
  have hlen : (Cond.eq (.length (Term.static "java/util/ArrayList" "DEFAULTCAPACITY_EMPTY_ELEMENTDATA" "[Ljava/lang/Object;")) (.int 0)).before #[Value.ref b] s = true := hs _ (by decide +kernel)
  obtain ⟨e0, he0, hT⟩ := va_Tof (N := 0) (f := fun _ => .null) (A := fun q => s.heap.size ≤ q) (by decide) harr (va_eqt hlen) (fun j hj => absurd hj (Nat.not_lt_zero _)) hA
  have hmi : (Cond.isRef (.mirror "[Ljava/lang/Object;")).before #[Value.ref b] s = true := hs _ (by decide +kernel)
  refine ⟨(fun c => match c with | 0 => c0 | 1 => c1 | 2 => c2 | 3 => c3 | 4 => c4 | 5 => c5 | 6 => c6 | 7 => c7 | 8 => c8 | 9 => c9 | 10 => c10 | 11 => c11 | _ => c12, fun c => match c with | 0 => i0 | 1 => i1 | 2 => i2 | 3 => i3 | 4 => i4 | 5 => i5 | 6 => i6 | 7 => i7 | 8 => i8 | 9 => i9 | 10 => i10 | 11 => i11 | _ => i12), (fun c => match c with | 0 => a0 | 1 => a1 | 2 => a2 | _ => a3), e0, ⟨_, hts⟩, ⟨fun c q hq => ?_, fun k q hk => ?_⟩, va_Zof (hts _ w_48) (hts _ w_4) he0 hA, hT, ⟨_, hs _ (by decide +kernel), hs _ (by decide +kernel)⟩, fun own k tx hw => ?_, va_Mi.of hmi⟩
  · match c, hq with
    | 0, hq => cases hq; exact K0
    | 1, hq => cases hq; exact K1
    | 2, hq => cases hq; exact K2
    | 3, hq => cases hq; exact K3
    | 4, hq => cases hq; exact K4
    | 5, hq => cases hq; exact K5
    | 6, hq => cases hq; exact K6
    | 7, hq => cases hq; exact K7
    | 8, hq => cases hq; exact K8
    | 9, hq => cases hq; exact K9
    | 10, hq => cases hq; exact K10
    | 11, hq => cases hq; exact K11
    | 12, hq => cases hq; exact K12
    | c + 13, hq => cases hq
  · match k, hk with
    | 0, hk => cases hk; exact ⟨A0, B0⟩
    | 1, hk => cases hk; exact ⟨A1, B1⟩
    | 2, hk => cases hk; exact ⟨A2, B2⟩
    | 3, hk => cases hk; exact ⟨fun N z => ⟨(fun k h => by cases h), k3, g3, comp, g4⟩, k3, comp, g3, g4, g1, g5⟩
    | k + 4, hk => cases hk
  · have h1 := lw_strs _ hw
    have h2 := hs _ (List.contains_iff_mem.mp h1)
    obtain ⟨a, c, cell, k9, z1, -⟩ := Cond.exactly_spec h2
    exact ⟨a, vk_R.of (hts _ hw) z1⟩
