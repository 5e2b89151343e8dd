/-! THE LIGHT MACHINE, its throws: an exception of the program's own is made and thrown; the walk is begun anew there ('cr_rebase'), so that what was written before stays said. -/
section CR6
variable {p : Program} {l : Launch} {e : Env} {R : Room} {s : State} {m : MethodId} {args : Array Value} {below : List Frame} {meth : Method} {c : Code} {T : State} {locs : List Loc} {k n : Nat}
theorem cr_hears {u v : State} (h : u.vm.Alike v.vm) (hh : u.hears m below = true) : v.hears m below = true := by
  cases below with
  | nil => simp only [State.hears] at hh ⊢; rw [h.method?]; exact hh
  | cons f r =>
    cases f with
    | java g =>
      have e1 : v.code? g.method = u.code? g.method := by rw [State.code?_eq, State.code?_eq, h.method?]
      simp only [State.hears] at hh ⊢
      rw [e1]
      exact hh
    | native _ => rfl
    | proc _ => rfl
    | _ => simp only [State.hears] at hh ⊢; rw [h.method?]; exact hh
/-- the same place, said of the state itself as the invocation's -/
theorem cr_rebase (X : Stand p l e R s m args below meth c T locs k n) {R' : Room} (hf : R'.frames ≤ R.frames) (hl : R'.locals ≤ R.locals) (hc : k + R'.cells ≤ R.cells) (hs : n + R'.slots ≤ R.slots) : Stand p l e R' (T.setFrames (.invoking m args :: below)) m args below meth c T [] 0 0 := by
  obtain ⟨g₀, hfr⟩ := X.frames_eq
  have hcur : T.cur < T.threads.size := State.cur_lt_of_frames hfr
  obtain ⟨th, hth, -⟩ := State.frames_cons hfr
  have hf9 : (T.setFrames (.invoking m args :: below)).frames = .invoking m args :: below := State.frames_setFrames _ hcur
  obtain ⟨th9, hth9, -⟩ := State.frames_cons hf9
  have hcur9 : (T.setFrames (.invoking m args :: below)).cur < (T.setFrames (.invoking m args :: below)).threads.size := State.cur_lt_of_frames hf9
  refine ⟨X.admits, X.cas, X.clock, hf9, ?_, cr_hears (u := s) X.warmed.alike X.hears, X.method', X.code, X.here, X.tail, State.WarmedH.refl _, (State.stackLimits_setFrames _ _ _).symm, (State.stackBytes_setFrames _ _).symm, ?_⟩
  · have hr := X.room
    have hh := X.heapSize
    have hu := X.used
    have hb := X.book
    have hlim := X.limits
    have hby := X.bytes
    simp only [State.hasRoom, Bool.and_eq_true, decide_eq_true_eq] at hr ⊢
    rw [State.localsInUse_invoking hf9 X.method' X.code, hf9, State.stackLimits_setFrames, State.stackBytes_setFrames, hlim, hby]
    rw [State.localsInUse_invoking X.frames X.method X.code, X.frames] at hr
    refine ⟨⟨⟨⟨by omega, ⟨by omega, by omega, by omega, by omega, hr.1.1.1.2.2.2.2.2⟩⟩, ?_⟩, ?_⟩, hb⟩
    · show T.heap.size + R'.cells ≤ _
      omega
    · show T.slotsUsed + R'.slots ≤ _
      omega
  · have h := (State.sameButNew.refl (T.setFrames (.invoking m args :: below)) hth9).setFrames T.frames hcur9
    rw [State.setFrames_setFrames, State.setFrames_self hth] at h
    exact h
end CR6
