/-! THE LAW: its entry (printed by gen/comp34.py); then the skeleton's end, with the flags passed on -/
theorem w_48 : (Jvm.Cond.laysStatic "java/util/ArrayList" "DEFAULTCAPACITY_EMPTY_ELEMENTDATA" "[Ljava/lang/Object;") ∈ lw_tbl := List.mem_of_getElem? (i := 90) (by decide +kernel)
theorem kk_C {s : State} {args : Array Value} (h : ∀ w ∈ lw_tbl, w.before args s = true) : ∀ w ∈ u_ws R_C T_C 10, w.before args s = true := by
  unfold u_ws
  simp only [List.range, List.range.loop, List.map_cons, List.map_nil]
  refine List.forall_mem_cons.mpr ⟨h _ w_146, ?_⟩
  refine List.forall_mem_cons.mpr ⟨h _ w_148, ?_⟩
  refine List.forall_mem_cons.mpr ⟨h _ w_150, ?_⟩
  refine List.forall_mem_cons.mpr ⟨h _ w_152, ?_⟩
  refine List.forall_mem_cons.mpr ⟨h _ w_154, ?_⟩
  refine List.forall_mem_cons.mpr ⟨h _ w_156, ?_⟩
  refine List.forall_mem_cons.mpr ⟨h _ w_158, ?_⟩
  refine List.forall_mem_cons.mpr ⟨h _ w_160, ?_⟩
  refine List.forall_mem_cons.mpr ⟨h _ w_162, ?_⟩
  refine List.forall_mem_cons.mpr ⟨h _ w_164, ?_⟩
  exact fun _ h => absurd h List.not_mem_nil
theorem kk_Cd {s : State} {args : Array Value} (h : ∀ w ∈ lw_tbl, w.before args s = true) : ∀ w ∈ u_ws R_Cd T_Cd 3, w.before args s = true := by
  unfold u_ws
  simp only [List.range, List.range.loop, List.map_cons, List.map_nil]
  refine List.forall_mem_cons.mpr ⟨h _ w_563, ?_⟩
  refine List.forall_mem_cons.mpr ⟨h _ w_565, ?_⟩
  refine List.forall_mem_cons.mpr ⟨h _ w_567, ?_⟩
  exact fun _ h => absurd h List.not_mem_nil
theorem kk_Dr {s : State} {args : Array Value} (h : ∀ w ∈ lw_tbl, w.before args s = true) : ∀ w ∈ u_ws R_Dr T_Dr 10, w.before args s = true := by
  unfold u_ws
  simp only [List.range, List.range.loop, List.map_cons, List.map_nil]
  refine List.forall_mem_cons.mpr ⟨h _ w_475, ?_⟩
  refine List.forall_mem_cons.mpr ⟨h _ w_477, ?_⟩
  refine List.forall_mem_cons.mpr ⟨h _ w_479, ?_⟩
  refine List.forall_mem_cons.mpr ⟨h _ w_481, ?_⟩
  refine List.forall_mem_cons.mpr ⟨h _ w_483, ?_⟩
  refine List.forall_mem_cons.mpr ⟨h _ w_485, ?_⟩
  refine List.forall_mem_cons.mpr ⟨h _ w_487, ?_⟩
  refine List.forall_mem_cons.mpr ⟨h _ w_489, ?_⟩
  refine List.forall_mem_cons.mpr ⟨h _ w_491, ?_⟩
  refine List.forall_mem_cons.mpr ⟨h _ w_493, ?_⟩
  exact fun _ h => absurd h List.not_mem_nil
theorem kk_Fi {s : State} {args : Array Value} (h : ∀ w ∈ lw_tbl, w.before args s = true) : ∀ w ∈ u_ws R_Fi T_Fi 3, w.before args s = true := by
  unfold u_ws
  simp only [List.range, List.range.loop, List.map_cons, List.map_nil]
  refine List.forall_mem_cons.mpr ⟨h _ w_100, ?_⟩
  refine List.forall_mem_cons.mpr ⟨h _ w_102, ?_⟩
  refine List.forall_mem_cons.mpr ⟨h _ w_104, ?_⟩
  exact fun _ h => absurd h List.not_mem_nil
theorem kk_Kn {s : State} {args : Array Value} (h : ∀ w ∈ lw_tbl, w.before args s = true) : ∀ w ∈ u_ws R_Kn T_Kn 4, w.before args s = true := by
  unfold u_ws
  simp only [List.range, List.range.loop, List.map_cons, List.map_nil]
  refine List.forall_mem_cons.mpr ⟨h _ w_78, ?_⟩
  refine List.forall_mem_cons.mpr ⟨h _ w_80, ?_⟩
  refine List.forall_mem_cons.mpr ⟨h _ w_82, ?_⟩
  refine List.forall_mem_cons.mpr ⟨h _ w_84, ?_⟩
  exact fun _ h => absurd h List.not_mem_nil
theorem kk_Ne {s : State} {args : Array Value} (h : ∀ w ∈ lw_tbl, w.before args s = true) : ∀ w ∈ u_ws R_Ne T_Ne 2, w.before args s = true := by
  unfold u_ws
  simp only [List.range, List.range.loop, List.map_cons, List.map_nil]
  refine List.forall_mem_cons.mpr ⟨h _ w_131, ?_⟩
  refine List.forall_mem_cons.mpr ⟨h _ w_133, ?_⟩
  exact fun _ h => absurd h List.not_mem_nil
theorem kk_Pe {s : State} {args : Array Value} (h : ∀ w ∈ lw_tbl, w.before args s = true) : ∀ w ∈ u_ws R_Pe T_Pe 2, w.before args s = true := by
  unfold u_ws
  simp only [List.range, List.range.loop, List.map_cons, List.map_nil]
  refine List.forall_mem_cons.mpr ⟨h _ w_528, ?_⟩
  refine List.forall_mem_cons.mpr ⟨h _ w_530, ?_⟩
  exact fun _ h => absurd h List.not_mem_nil
theorem kk_Ri {s : State} {args : Array Value} (h : ∀ w ∈ lw_tbl, w.before args s = true) : ∀ w ∈ u_ws R_Ri T_Ri 5, w.before args s = true := by
  unfold u_ws
  simp only [List.range, List.range.loop, List.map_cons, List.map_nil]
  refine List.forall_mem_cons.mpr ⟨h _ w_592, ?_⟩
  refine List.forall_mem_cons.mpr ⟨h _ w_594, ?_⟩
  refine List.forall_mem_cons.mpr ⟨h _ w_596, ?_⟩
  refine List.forall_mem_cons.mpr ⟨h _ w_598, ?_⟩
  refine List.forall_mem_cons.mpr ⟨h _ w_600, ?_⟩
  exact fun _ h => absurd h List.not_mem_nil
theorem kk_Ro {s : State} {args : Array Value} (h : ∀ w ∈ lw_tbl, w.before args s = true) : ∀ w ∈ u_ws R_Ro T_Ro 2, w.before args s = true := by
  unfold u_ws
  simp only [List.range, List.range.loop, List.map_cons, List.map_nil]
  refine List.forall_mem_cons.mpr ⟨h _ w_360, ?_⟩
  refine List.forall_mem_cons.mpr ⟨h _ w_362, ?_⟩
  exact fun _ h => absurd h List.not_mem_nil
theorem kk_Rw {s : State} {args : Array Value} (h : ∀ w ∈ lw_tbl, w.before args s = true) : ∀ w ∈ u_ws R_Rw T_Rw 3, w.before args s = true := by
  unfold u_ws
  simp only [List.range, List.range.loop, List.map_cons, List.map_nil]
  refine List.forall_mem_cons.mpr ⟨h _ w_765, ?_⟩
  refine List.forall_mem_cons.mpr ⟨h _ w_767, ?_⟩
  refine List.forall_mem_cons.mpr ⟨h _ w_769, ?_⟩
  exact fun _ h => absurd h List.not_mem_nil
theorem kk_Us {s : State} {args : Array Value} (h : ∀ w ∈ lw_tbl, w.before args s = true) : ∀ w ∈ u_ws R_Us T_Us 2, w.before args s = true := by
  unfold u_ws
  simp only [List.range, List.range.loop, List.map_cons, List.map_nil]
  refine List.forall_mem_cons.mpr ⟨h _ w_117, ?_⟩
  refine List.forall_mem_cons.mpr ⟨h _ w_119, ?_⟩
  exact fun _ h => absurd h List.not_mem_nil
theorem kk_M {s : State} {args : Array Value} (h : ∀ w ∈ lw_tbl, w.before args s = true) : ∀ w ∈ u_ws R_M T_M 41, w.before args s = true := by
  unfold u_ws
  simp only [List.range, List.range.loop, List.map_cons, List.map_nil]
  refine List.forall_mem_cons.mpr ⟨h _ w_859, ?_⟩
  refine List.forall_mem_cons.mpr ⟨h _ w_861, ?_⟩
  refine List.forall_mem_cons.mpr ⟨h _ w_863, ?_⟩
  refine List.forall_mem_cons.mpr ⟨h _ w_865, ?_⟩
  refine List.forall_mem_cons.mpr ⟨h _ w_867, ?_⟩
  refine List.forall_mem_cons.mpr ⟨h _ w_869, ?_⟩
  refine List.forall_mem_cons.mpr ⟨h _ w_871, ?_⟩
  refine List.forall_mem_cons.mpr ⟨h _ w_873, ?_⟩
  refine List.forall_mem_cons.mpr ⟨h _ w_875, ?_⟩
  refine List.forall_mem_cons.mpr ⟨h _ w_877, ?_⟩
  refine List.forall_mem_cons.mpr ⟨h _ w_879, ?_⟩
  refine List.forall_mem_cons.mpr ⟨h _ w_881, ?_⟩
  refine List.forall_mem_cons.mpr ⟨h _ w_883, ?_⟩
  refine List.forall_mem_cons.mpr ⟨h _ w_885, ?_⟩
  refine List.forall_mem_cons.mpr ⟨h _ w_887, ?_⟩
  refine List.forall_mem_cons.mpr ⟨h _ w_889, ?_⟩
  refine List.forall_mem_cons.mpr ⟨h _ w_891, ?_⟩
  refine List.forall_mem_cons.mpr ⟨h _ w_893, ?_⟩
  refine List.forall_mem_cons.mpr ⟨h _ w_895, ?_⟩
  refine List.forall_mem_cons.mpr ⟨h _ w_897, ?_⟩
  refine List.forall_mem_cons.mpr ⟨h _ w_899, ?_⟩
  refine List.forall_mem_cons.mpr ⟨h _ w_901, ?_⟩
  refine List.forall_mem_cons.mpr ⟨h _ w_903, ?_⟩
  refine List.forall_mem_cons.mpr ⟨h _ w_905, ?_⟩
  refine List.forall_mem_cons.mpr ⟨h _ w_907, ?_⟩
  refine List.forall_mem_cons.mpr ⟨h _ w_909, ?_⟩
  refine List.forall_mem_cons.mpr ⟨h _ w_911, ?_⟩
  refine List.forall_mem_cons.mpr ⟨h _ w_913, ?_⟩
  refine List.forall_mem_cons.mpr ⟨h _ w_915, ?_⟩
  refine List.forall_mem_cons.mpr ⟨h _ w_917, ?_⟩
  refine List.forall_mem_cons.mpr ⟨h _ w_919, ?_⟩
  refine List.forall_mem_cons.mpr ⟨h _ w_921, ?_⟩
  refine List.forall_mem_cons.mpr ⟨h _ w_923, ?_⟩
  refine List.forall_mem_cons.mpr ⟨h _ w_925, ?_⟩
  refine List.forall_mem_cons.mpr ⟨h _ w_927, ?_⟩
  refine List.forall_mem_cons.mpr ⟨h _ w_929, ?_⟩
  refine List.forall_mem_cons.mpr ⟨h _ w_931, ?_⟩
  refine List.forall_mem_cons.mpr ⟨h _ w_933, ?_⟩
  refine List.forall_mem_cons.mpr ⟨h _ w_935, ?_⟩
  refine List.forall_mem_cons.mpr ⟨h _ w_937, ?_⟩
  refine List.forall_mem_cons.mpr ⟨h _ w_939, ?_⟩
  exact fun _ h => absurd h List.not_mem_nil
theorem kk_AL {s : State} {args : Array Value} (h : ∀ w ∈ lw_tbl, w.before args s = true) : ∀ w ∈ u_ws R_AL T_AL 3, w.before args s = true := by
  unfold u_ws
  simp only [List.range, List.range.loop, List.map_cons, List.map_nil]
  refine List.forall_mem_cons.mpr ⟨h _ w_54, ?_⟩
  refine List.forall_mem_cons.mpr ⟨h _ w_56, ?_⟩
  refine List.forall_mem_cons.mpr ⟨h _ w_58, ?_⟩
  exact fun _ h => absurd h List.not_mem_nil
theorem lw_Arr {s : State} {args : Array Value} {ty : FieldType} (h : (Cond.arrayClass ty).before args s = true) : ∃ cA, ArrOfT s cA ty ∧ s.vm.findClass ("[" ++ ty.toString) = some cA := by
  obtain ⟨c0, k0, comp0, f1, f2, f3⟩ := Cond.arrayClass_spec h
  exact ⟨c0, fun N z => ⟨(fun k h => by cases h), k0, f2, comp0, f3⟩, f1⟩
theorem lw_strs : ∀ w ∈ lw_tbl, (match w with | .stringRef own k _ => (flatC (Jvm.Cond.and given_1 narrow_1)).contains (Cond.exactly (Term.string own k) "java/lang/String") | _ => true) = true := by decide +kernel
theorem lw_Z0 {s : State} {b : Nat} (hts : ∀ w ∈ lw_tbl, w.before #[Value.ref b] s = true) (hg : (Jvm.Cond.and given_1 narrow_1).before #[Value.ref b] s = true) : cr_No s ∧ ∃ D ca e0, cr_Z0 s D ca e0 := by
  have hs := flat_of_before _ hg
  refine ⟨⟨_, hs _ (by decide +kernel)⟩, ?_⟩
  obtain ⟨c0, i0, K0⟩ := u_known (kk_C hts) (fun _ h => h) (hts _ w_28)
  obtain ⟨c1, i1, K1⟩ := u_known (kk_Cd hts) (fun _ h => h) (hts _ w_552)
  obtain ⟨c2, i2, K2⟩ := u_known (kk_Dr hts) (fun _ h => h) (hts _ w_447)
  obtain ⟨c3, i3, K3⟩ := u_known (kk_Fi hts) (fun _ h => h) (hts _ w_89)
  obtain ⟨c4, i4, K4⟩ := u_known (kk_Kn hts) (fun _ h => h) (hts _ w_62)
  obtain ⟨c5, i5, K5⟩ := u_known (kk_Ne hts) (fun _ h => h) (hts _ w_124)
  obtain ⟨c6, i6, K6⟩ := u_known (kk_Pe hts) (fun _ h => h) (hts _ w_519)
  obtain ⟨c7, i7, K7⟩ := u_known (kk_Ri hts) (fun _ h => h) (hts _ w_229)
  obtain ⟨c8, i8, K8⟩ := u_known (kk_Ro hts) (fun _ h => h) (hts _ w_351)
  obtain ⟨c9, i9, K9⟩ := u_known (kk_Rw hts) (fun _ h => h) (hts _ w_754)
  obtain ⟨c10, i10, K10⟩ := u_known (kk_Us hts) (fun _ h => h) (hts _ w_108)
  obtain ⟨c11, i11, K11⟩ := u_known (kk_M hts) (fun _ h => h) (hts _ w_812)
  obtain ⟨c12, i12, K12⟩ := u_known (kk_AL hts) (fun _ h => h) (hts _ w_36)
  obtain ⟨a0, A0, B0⟩ := lw_Arr (hts _ w_87)
  obtain ⟨a1, A1, B1⟩ := lw_Arr (hts _ w_122)
  obtain ⟨a2, A2, B2⟩ := lw_Arr (hts _ w_942)
  obtain ⟨comp, a3, k3, g1, -, g3, g4, g5⟩ := Cond.arrayOver_spec (hts _ wn_over)
  have hA : ∀ a : Nat, a < s.heap.size → ¬ s.heap.size ≤ a := fun a h q => by omega
  have harr : (Cond.arrayOf (Term.static "java/util/ArrayList" "DEFAULTCAPACITY_EMPTY_ELEMENTDATA" "[Ljava/lang/Object;") (.object "java/lang/Object")).before #[Value.ref b] s = true := hs _ (by decide +kernel)
  have hlen : (Cond.eq (.length (Term.static "java/util/ArrayList" "DEFAULTCAPACITY_EMPTY_ELEMENTDATA" "[Ljava/lang/Object;")) (.int 0)).before #[Value.ref b] s = true := hs _ (by decide +kernel)
  obtain ⟨e0, he0, hT⟩ := va_Tof (N := 0) (f := fun _ => .null) (A := fun q => s.heap.size ≤ q) (by decide) harr (va_eqt hlen) (fun j hj => absurd hj (Nat.not_lt_zero _)) hA
  have hmi : (Cond.isRef (.mirror "[Ljava/lang/Object;")).before #[Value.ref b] s = true := hs _ (by decide +kernel)
  refine ⟨(fun c => match c with | 0 => c0 | 1 => c1 | 2 => c2 | 3 => c3 | 4 => c4 | 5 => c5 | 6 => c6 | 7 => c7 | 8 => c8 | 9 => c9 | 10 => c10 | 11 => c11 | _ => c12, fun c => match c with | 0 => i0 | 1 => i1 | 2 => i2 | 3 => i3 | 4 => i4 | 5 => i5 | 6 => i6 | 7 => i7 | 8 => i8 | 9 => i9 | 10 => i10 | 11 => i11 | _ => i12), (fun c => match c with | 0 => a0 | 1 => a1 | 2 => a2 | _ => a3), e0, ⟨_, hts⟩, ⟨fun c q hq => ?_, fun k q hk => ?_⟩, va_Zof (hts _ w_48) (hts _ w_4) he0 hA, hT, ⟨_, hs _ (by decide +kernel), hs _ (by decide +kernel)⟩, fun own k tx hw => ?_, va_Mi.of hmi⟩
  · match c, hq with
    | 0, hq => cases hq; exact K0
    | 1, hq => cases hq; exact K1
    | 2, hq => cases hq; exact K2
    | 3, hq => cases hq; exact K3
    | 4, hq => cases hq; exact K4
    | 5, hq => cases hq; exact K5
    | 6, hq => cases hq; exact K6
    | 7, hq => cases hq; exact K7
    | 8, hq => cases hq; exact K8
    | 9, hq => cases hq; exact K9
    | 10, hq => cases hq; exact K10
    | 11, hq => cases hq; exact K11
    | 12, hq => cases hq; exact K12
    | c + 13, hq => cases hq
  · match k, hk with
    | 0, hk => cases hk; exact ⟨A0, B0⟩
    | 1, hk => cases hk; exact ⟨A1, B1⟩
    | 2, hk => cases hk; exact ⟨A2, B2⟩
    | 3, hk => cases hk; exact ⟨fun N z => ⟨(fun k h => by cases h), k3, g3, comp, g4⟩, k3, comp, g3, g4, g1, g5⟩
    | k + 4, hk => cases hk
  · have h1 := lw_strs _ hw
    have h2 := hs _ (List.contains_iff_mem.mp h1)
    obtain ⟨a, c, cell, k9, z1, -⟩ := Cond.exactly_spec h2
    exact ⟨a, vk_R.of (hts _ hw) z1⟩
