/-! THE LAW's own instructions: its script, its switch; calls whose throws are caught -/
def cr_sld (s0 : State) (b L : Nat) (xs : Nat → Int32) (nx : Nat) : cr_T := fun K _ lv st H k n => match st with
  | .int i :: .ref a :: r => a = b ∧ H[b]? = s0.heap[b]? ∧ ∃ j, i = nI j ∧ j < L ∧ K nx lv (.int (xs j) :: r) H k n
  | _ => False
def cr_slen (s0 : State) (b L : Nat) (nx : Nat) : cr_T := fun K _ lv st H k n => match st with
  | .ref a :: r => a = b ∧ H[b]? = s0.heap[b]? ∧ K nx lv (.int (nI L) :: r) H k n
  | _ => False
def cr_tsw (tg : List Nat) (df : Nat) : cr_T := fun K _ lv st H k n => match st with
  | .int x :: r => (∀ j, j < tg.length → x = nI j → K (tg.getD j 0) lv r H k n) ∧ ((∀ j, j < tg.length → ¬ x = nI j) → K df lv r H k n)
  | _ => False
/-- kinds and where they are caught -/
def cr_afterH (l : Launch) (U : State → Prop) (lo : Nat) (y : MethodName) (cw : Cond) (hd : Nat → Option Nat) (d mc ms : Nat) (nx : Nat) (K : cr_K) (lv : cr_Lv) (av r : List Value) (H : Heap) (k n : Nat) : Prop :=
  ∃ d' mc' ms' Qc, cr_M l U lo y cw d' mc' ms' av H Qc ∧ d' + 1 ≤ d ∧ k + mc' ≤ mc ∧ n + ms' ≤ ms ∧ (r.map fun v => v.category).sum ≤ 8 ∧
    (∀ v H', Qc (.inl v) H' → H.size ≤ H'.size → K nx lv (v.toList ++ r) H' (k + mc') (n + ms')) ∧ ∀ kd H', Qc (.inr kd) H' → H.size ≤ H'.size → ∃ hp, hd kd = some hp ∧ ∀ a, K hp lv [.ref a] H' (k + mc') (n + ms')
def cr_calVh (D : va_G) (cl : List vw_C) (l : Launch) (U : State → Prop) (lo : Nat) (ci : Nat) (y : MethodName) (cw : Cond) (hd : Nat → Option Nat) (d mc ms : Nat) (na nL nx : Nat) : cr_T := fun K _ lv st H k n =>
  lv.length = nL ∧ cr_tk (na + 1) [] st (fun av r => match av with | .ref b :: As => ∃ fs, va_at D cl (b, .inr (ci, fs)) H ∧ cr_afterH l U lo y cw hd d mc ms nx K lv (.ref b :: As) r H k n | _ => False)
section LW1
variable {p : Program} {l : Launch} {e : Env} {R : Room} {s : State} {m : MethodId} {args : Array Value} {below : List Frame} {meth : Method} {c : Code} {T : State} {locs : List Loc} {k n : Nat}
variable {H : Heap} {lo mc ms d : Nat} {Q : cr_Q} {U : State → Prop} {pc nx : Nat} {ls : Array Slot} {lv : cr_Lv} {st r av : List Value} {cc : ByteArray} {D : va_G} {cl : List vw_C} {tys : List (ClassId × FieldType)} {own : String} {index na : Nat} {y : MethodName} {bytes : ByteArray} {maxL nL : Nat} {ret : Option FieldType}
theorem cr_sld_ok {b L : Nat} {xs : Nat → Int32} (hx : p.tables.exec = Jvm.exec) (hb : c.code = cc) (hX : va_X b L xs s s.heap) (hL : L < 2 ^ 31) (hd : decode cc pc = .ok (.iaload, 1)) (hn : pc + 1 = nx) : cr_Snd p l e R s m args below meth c lo mc ms Q pc (cr_sld s b L xs nx) := by
  subst hn
  intro K lv st H k n hK h ls locs hl hq
  match st, h with
  | .int i :: .ref a :: r, ⟨ha, hk, j, hi, hj, h9⟩ =>
    subst ha
    subst hi
    obtain ⟨scr, h1, h2, h3, h4, h5⟩ := hX
    have e9 : (nI j).toNatClampNeg = j := nI_cl (by omega)
    have hin : vp_in (nI j) scr.slots.size := by
      rw [h4]
      rintro (q | q)
      · exact nI_pos (by omega) q
      · rw [e9] at q
        omega
    exact W.iald (v := .int (xs j)) hx hb (by rw [hk]; exact h1) h2 h3 hin (by rw [e9]; exact h5 j hj) rfl rfl hd (hK _ _ _ _ _ _ h9 ls locs hl hq)
theorem cr_slen_ok {b L : Nat} {xs : Nat → Int32} (hx : p.tables.exec = Jvm.exec) (hb : c.code = cc) (hX : va_X b L xs s s.heap) (hd : decode cc pc = .ok (.arraylength, 1)) (hn : pc + 1 = nx) : cr_Snd p l e R s m args below meth c lo mc ms Q pc (cr_slen s b L nx) := by
  subst hn
  intro K lv st H k n hK h ls locs hl hq
  match st, h with
  | .ref a :: r, ⟨ha, hk, h9⟩ =>
    subst ha
    obtain ⟨scr, h1, h2, h3, h4, h5⟩ := hX
    exact W.alen (n := Int32.ofNat L) hx hb (by rw [hk]; exact h1) h2 (by rw [h4] <;> rfl) rfl rfl hd (hK _ _ _ _ _ _ h9 ls locs hl hq)
theorem cr_tsw_ok {dflt hi : Int} {offs : Array Int} {len df : Nat} {tg : List Nat} (hx : p.tables.exec = Jvm.exec) (hb : c.code = cc) (hd : decode cc pc = .ok (.tableswitch dflt 0 hi offs, len)) (hh : hi + 1 = (tg.length : Int)) (hlen : tg.length < 2 ^ 31) (ht : (pc : Int) + dflt = (df : Int)) (ho : ∀ j, j < tg.length → ∃ off, offs[j]? = some off ∧ (pc : Int) + off = ((tg.getD j 0 : Nat) : Int)) : cr_Snd p l e R s m args below meth c lo mc ms Q pc (cr_tsw tg df) := by
  intro K lv st H k n hK h ls locs hl hq
  match st, h with
  | .int x :: r, ⟨h1, h2⟩ =>
    by_cases hr : x.toInt < 0 ∨ hi < x.toInt
    · refine lv_tableOut hx hb hd hr ht (hK _ _ _ _ _ _ (h2 (fun j hj e => ?_)) ls locs hl hq)
      subst e
      have hj2 : (nI j).toInt = (j : Int) := by
        have hlt : j < 2 ^ 31 := by omega
        exact Int32.toInt_ofNat_of_lt hlt
      omega
    · have hx0 : ¬ x.toInt < 0 := fun q => hr (Or.inl q)
      have hx1 : ¬ hi < x.toInt := fun q => hr (Or.inr q)
      have hj : x.toInt.toNat < tg.length := by omega
      obtain ⟨off, o1, o2⟩ := ho _ hj
      have hxe : x = nI x.toInt.toNat := by
        rw [← Int32.toInt_inj]
        show x.toInt = (Int32.ofNat x.toInt.toNat).toInt
        have := Int32.toInt_lt x
        rw [Int32.toInt_ofNat_of_lt (by omega)]
        omega
      exact lv_tableIn hx hb hd hx0 hx1 (by rw [Int.sub_zero]; exact o1) o2 (hK _ _ _ _ _ _ (h1 _ hj hxe) ls locs hl hq)
/-- behind the resolution of an invoke that handlers cover -/
theorem cr_calH {y : MethodName} {cw : Cond} {maxL len : Nat} {ig : Instr} {K : cr_K} {hd : Nat → Option Nat} (hK : ∀ pc lv st H k n, K pc lv st H k n → cr_G p l e R s m args below meth c lo mc ms Q pc lv st H k n)
    (hR : R = cr_rm d mc ms) (hU : U s) (hst : cr_St U) (hlo : lo ≤ s.heap.size) (hml : c.maxLocals = lv.length) (hmaxL : maxL ≤ 41)
    (hdg : decode c.code pc = .ok (ig, len)) (hnx : pc + len = nx) (hl : cr_L ls lv) (hq : ∀ q ∈ locs, cr_lc lo s q.base)
    (hcat9 : ∀ kd hp (cell : Cell), hd kd = some hp → s.vm.findClass (cr_ex kd) = some cell.cls → ∀ {T' : State} {locs' : List Loc} {k' n' : Nat}, Stand p l e R s m args below meth c T' locs' k' n' → ∃ pre x rest, c.exceptionTable.toList = pre ++ x :: rest ∧ (∀ y ∈ pre, ct_P e.platform s m.cls pc cell.cls y) ∧ covers x pc = true ∧ ct_K e.platform s m.cls cell.cls x ∧ x.handlerPc = hp)
    (hcw : ∀ (a' : Array Value) (V : State), s.WarmedH V.vm → cw.before a' V = true)
    (hcY : ∀ V : State, s.WarmedH V.vm → ∀ mk, V.methodNamed? y = some mk → (∃ methY cY, V.vm.method? mk = some methY ∧ methY.code = some cY ∧ cY.maxLocals = maxL) ∧ ∃ kY, V.vm.classes[mk.cls]? = some kY ∧ kY.init = .initialized)
    (hres : ∀ T : State, T.heap = H → Stand p l e R s m args below meth c T locs k n → ∃ vm₁ mk, Stand p l e R s m args below meth c (T.setVm vm₁) locs k n ∧ (T.setVm vm₁).methodNamed? y = some mk ∧
      ∀ target, (∀ acts, Steps p.tables e below (doInvoke e ((T.setVm vm₁).setTop (F0 m pc ls r)) acts mk av.toArray).1 target) → Steps p.tables e below (T.setTop (F0 m pc ls st)) target)
    (h : cr_afterH l U lo y cw hd d mc ms nx K lv av r H k n) : W p l e R s m args below meth c H locs k n (cr_MQ below lo mc ms Q s) (F0 m pc ls st) := by
  obtain ⟨d', mc', ms', Qc, hM, hd', hk', hn', hcat, hret, hthr⟩ := h
  subst hnx
  refine cr_W_size (fun hsz => ?_)
  have hM := hM (Nat.le_trans hlo hsz)
  intro T hT X
  obtain ⟨vm₁, mk, X₁, hnm, hstp⟩ := hres T hT X
  have hU1 : U (T.setVm vm₁) := hst s _ X₁.warmed hU
  obtain ⟨⟨methY, cY, y1, y2, y3⟩, kY, y4, y5⟩ := hcY (T.setVm vm₁) X₁.warmed mk hnm
  have hsz9 : (F0 m pc ls r).locals.size = c.maxLocals := by rw [hml]; exact hl.1
  obtain ⟨o, s₂, hs, hend, hO, L, hFE, hL⟩ := cr_inv X₁ hM hnm y1 y2 y3 y4 y5 (by rw [hR]; exact hd') (by rw [hR]; show 8 + (maxL + 11) + 60 * d' ≤ 60 * d; omega) (by rw [hR]; exact hk') (by rw [hR]; exact hn') (a := av.toArray) (hcw _ _ X₁.warmed) (g := F0 m pc ls r) rfl hsz9 hdg
    (by show 2 * JFrame.monitorRoom _ + _ ≤ 8; simpa [JFrame.monitorRoom] using hcat) ⟨rfl, hT, hst (T.setVm vm₁) _ (State.WarmedH.refl (T.setVm vm₁)) hU1⟩
  have hlocs : ∀ q ∈ locs ++ L, cr_lc lo s q.base := fun q h => by
    rcases List.mem_append.mp h with h | h
    · exact hq q h
    · refine ⟨(hL q h).1, fun c0 h0 => ?_⟩
      obtain ⟨c', g1, g2, -⟩ := X₁.same.2.2.2.2.2 _ c0 h0
      have g3 := (hL q h).2 c' g1
      have g4 : c'.vm = c0.vm := by rw [g2]
      rw [← g4]
      exact g3
  have hgrow : H.size ≤ s₂.heap.size := by
    have h9 : (T.setVm vm₁).heap.size ≤ s₂.heap.size := hFE.2.2.1
    rw [← hT]
    exact h9
  rcases hO with ⟨v, rfl, hQ⟩ | ⟨a, kd, rfl, hEx, hQ⟩
  · obtain ⟨T', X', -, -, e2⟩ := X₁.outOf (g := F0 m pc ls r) rfl hdg hend hFE.1 hFE.2
    have eh : T'.heap = s₂.heap := by rw [e2]; rfl
    obtain ⟨t, a1, b1⟩ := hK _ _ _ _ _ _ (hret v s₂.heap hQ hgrow) ls (locs ++ L) hl hlocs T' eh X'
    refine ⟨t, hstp t (fun acts => ?_), b1⟩
    rw [doInvoke_state]
    rw [e2] at hs
    exact hs.trans a1
  · obtain ⟨T', X', -, -, e2⟩ := X₁.outOfThrown (g := F0 m pc ls r) rfl hend hFE.1 hFE.2
    have eh : T'.heap = s₂.heap := by rw [e2]; rfl
    obtain ⟨hp, hp1, hp2⟩ := hthr kd _ hQ hgrow
    obtain ⟨cell, c1, c2, c3⟩ := hEx
    have c4 : s.vm.findClass (cr_ex kd) = some cell.cls := by
      have h9 : (T.setVm vm₁).vm.findClass (cr_ex kd) = some cell.cls := c3
      rw [X₁.warmed.alike.findClass] at h9
      exact h9
    obtain ⟨pre, x, rest, q1, q2, q3, q4, q5⟩ := hcat9 kd hp cell hp1 c4 X'
    obtain ⟨vm', XV, stp⟩ := ct_caught X' a (g := F0 m pc ls r) rfl (o := cell) (by rw [eh]; exact c1) c2 (Vm.classAt_of_findClass c4) pre x rest q1 q2 q3 q4
    obtain ⟨t, a1, b1⟩ := hK _ _ _ _ _ _ (hp2 a) ls (locs ++ L) hl hlocs (T'.setVm vm') eh XV
    refine ⟨t, hstp t (fun acts => ?_), b1⟩
    rw [doInvoke_state]
    rw [e2, ct_push X'] at hs
    refine hs.trans (stp t ?_)
    rw [q5]
    exact a1
end LW1
