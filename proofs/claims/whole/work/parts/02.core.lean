/-! A LIGHT MACHINE over the kit's rows: one-step transformers in continuation form, each with its soundness; a method is a table of them. -/
abbrev cr_Oc : Type := Option Value ⊕ Nat
abbrev cr_Lv : Type := List (Option Value)
abbrev cr_K : Type := Nat → cr_Lv → List Value → Heap → Nat → Nat → Prop
abbrev cr_Q : Type := cr_Oc → Heap → Prop
abbrev cr_T : Type := cr_K → cr_Q → cr_Lv → List Value → Heap → Nat → Nat → Prop
/-- kinds of exceptions: 1 illegal argument, 2 illegal state -/
def cr_ex (k : Nat) : String := if k = 1 then "java/lang/IllegalArgumentException" else "java/lang/IllegalStateException"
def cr_Ex (k a : Nat) (U : State) (H : Heap) : Prop := ∃ cell : Cell, H[a]? = some cell ∧ cell.vm.isStatics = false ∧ U.vm.findClass (cr_ex k) = some cell.cls
def cr_O (Q : cr_Q) (s : State) (o : Outcome) (t : State) : Prop := (∃ v, o = .returned v ∧ Q (.inl v) t.heap) ∨ ∃ a k, o = .threw a ∧ cr_Ex k a s t.heap ∧ Q (.inr k) t.heap
def cr_FE (s t : State) (L : List Loc) (k n : Nat) : Prop := s.WarmedH t.vm ∧ s.sameButNew ({ t with vm := s.vm } : State) L k n
/-- what may be written: from lo on, and no statics' cell -/
def cr_lc (lo : Nat) (s : State) (a : Nat) : Prop := lo ≤ a ∧ ∀ cell : Cell, s.heap[a]? = some cell → cell.vm.isStatics = false
def cr_MQ (below : List Frame) (lo mc ms : Nat) (Q : cr_Q) (s : State) : State → Prop := fun t =>
  ∃ o, t.status = .running ∧ Ended t below o ∧ cr_O Q s o t ∧ ∃ L, cr_FE s t L mc ms ∧ ∀ q ∈ L, cr_lc lo s q.base
-- locals, by place
def cr_as : Nat → cr_Lv → List (Nat × Value)
  | _, [] => []
  | i, none :: t => cr_as (i + 1) t
  | i, some v :: t => (i, v) :: cr_as (i + 1) t
def cr_kl (x : Option Value) : Option Value := match x with
  | some (.long _) => none
  | some (.double _) => none
  | y => y
def cr_put : cr_Lv → Nat → Value → cr_Lv
  | [], _, _ => []
  | _ :: t, 0, v => some v :: t
  | x :: t, 1, v => cr_kl x :: cr_put t 0 v
  | x :: t, i + 2, v => x :: cr_put t (i + 1) v
def cr_put2 : cr_Lv → Nat → Value → cr_Lv
  | [], _, _ => []
  | [_], _, _ => []
  | _ :: _ :: t, 0, v => some v :: none :: t
  | x :: y :: t, 1, v => cr_kl x :: cr_put2 (y :: t) 0 v
  | x :: y :: t, i + 2, v => x :: cr_put2 (y :: t) (i + 1) v
def cr_L (ls : Array Slot) (lv : cr_Lv) : Prop := lv_has ls lv.length (cr_as 0 lv)
def cr_ld : cr_Lv → Nat → (Value → Prop) → Prop
  | [], _, _ => False
  | none :: _, 0, _ => False
  | some v :: _, 0, f => f v
  | _ :: t, i + 1, f => cr_ld t i f
def cr_nf : cr_Lv → (cr_Lv → Prop) → Prop
  | [], f => f []
  | none :: t, f => cr_nf t (fun t' => f (none :: t'))
  | some v :: t, f => cr_nf t (fun t' => f (some v :: t'))
theorem cr_nf_eq : ∀ (lv : cr_Lv) (f : cr_Lv → Prop), cr_nf lv f ↔ f lv
  | [], _ => Iff.rfl
  | none :: t, f => cr_nf_eq t (fun t' => f (none :: t'))
  | some v :: t, f => cr_nf_eq t (fun t' => f (some v :: t'))
theorem cr_ld_sp : ∀ {lv : cr_Lv} {i : Nat} {f : Value → Prop}, cr_ld lv i f → ∃ v, lv[i]? = some (some v) ∧ f v
  | [], _, _, h => False.elim h
  | none :: _, 0, _, h => False.elim h
  | some v :: _, 0, _, h => ⟨v, rfl, h⟩
  | none :: t, i + 1, f, h => by
    obtain ⟨v, h1, h2⟩ := cr_ld_sp (lv := t) (i := i) (f := f) h
    exact ⟨v, by simpa using h1, h2⟩
  | some _ :: t, i + 1, f, h => by
    obtain ⟨v, h1, h2⟩ := cr_ld_sp (lv := t) (i := i) (f := f) h
    exact ⟨v, by simpa using h1, h2⟩
theorem cr_as_in : ∀ (lv : cr_Lv) (b i : Nat) (v : Value), lv[i]? = some (some v) → (b + i, v) ∈ cr_as b lv
  | [], _, _, _, h => by simp at h
  | none :: t, b, 0, v, h => by simp at h
  | some w :: t, b, 0, v, h => by
    simp at h
    subst h
    exact List.mem_cons_self
  | none :: t, b, i + 1, v, h => by
    have h1 := cr_as_in t (b + 1) i v (by simpa using h)
    rw [show b + (i + 1) = b + 1 + i by omega]
    exact h1
  | some w :: t, b, i + 1, v, h => by
    have h1 := cr_as_in t (b + 1) i v (by simpa using h)
    rw [show b + (i + 1) = b + 1 + i by omega]
    exact List.mem_cons_of_mem _ h1
theorem cr_as_of : ∀ (lv : cr_Lv) (b : Nat) (q : Nat × Value), q ∈ cr_as b lv → ∃ i, q.1 = b + i ∧ lv[i]? = some (some q.2)
  | [], _, _, h => by cases h
  | none :: t, b, q, h => by
    obtain ⟨i, h1, h2⟩ := cr_as_of t (b + 1) q h
    exact ⟨i + 1, by omega, by simpa using h2⟩
  | some w :: t, b, q, h => by
    rcases List.mem_cons.mp h with rfl | h
    · exact ⟨0, rfl, rfl⟩
    · obtain ⟨i, h1, h2⟩ := cr_as_of t (b + 1) q h
      exact ⟨i + 1, by omega, by simpa using h2⟩
theorem cr_L.at {ls : Array Slot} {lv : cr_Lv} (h : cr_L ls lv) {i : Nat} {v : Value} (hv : lv[i]? = some (some v)) : ls[i]? = some (.val v) := by
  have h1 := h.2.2 (0 + i, v) (cr_as_in lv 0 i v hv)
  simpa using h1
theorem cr_L.size {ls : Array Slot} {lv : cr_Lv} (h : cr_L ls lv) : ls.size = lv.length := h.1
theorem cr_kl_sp {x : Option Value} {w : Value} (h : cr_kl x = some w) : x = some w ∧ w.category = 1 := by
  cases x with
  | none => simp [cr_kl] at h
  | some v => cases v <;> simp [cr_kl] at h <;> subst h <;> simp [Value.category]
theorem cr_put_len : ∀ (lv : cr_Lv) (i : Nat) (v : Value), (cr_put lv i v).length = lv.length
  | [], _, _ => rfl
  | _ :: t, 0, v => rfl
  | x :: t, 1, v => by simp [cr_put, cr_put_len t 0 v]
  | x :: t, i + 2, v => by simp [cr_put, cr_put_len t (i + 1) v]
theorem cr_put_sp : ∀ (lv : cr_Lv) (i : Nat) (v : Value) (j : Nat) (w : Value), (cr_put lv i v)[j]? = some (some w) → (j = i ∧ w = v) ∨ (lv[j]? = some (some w) ∧ j ≠ i ∧ ¬ (j + 1 = i ∧ w.category = 2))
  | [], _, _, j, w, h => by simp [cr_put] at h
  | x :: t, 0, v, 0, w, h => by
    simp [cr_put] at h
    exact Or.inl ⟨rfl, h.symm⟩
  | x :: t, 0, v, j + 1, w, h => by
    simp [cr_put] at h
    exact Or.inr ⟨by simpa using h, by omega, by omega⟩
  | x :: t, 1, v, 0, w, h => by
    simp [cr_put] at h
    obtain ⟨h1, h2⟩ := cr_kl_sp h
    exact Or.inr ⟨by simp [h1], by omega, by omega⟩
  | x :: t, 1, v, j + 1, w, h => by
    rcases cr_put_sp t 0 v j w (by simpa [cr_put] using h) with ⟨h1, h2⟩ | ⟨h1, h2, h3⟩
    · exact Or.inl ⟨by omega, h2⟩
    · exact Or.inr ⟨by simpa using h1, by omega, by omega⟩
  | x :: t, i + 2, v, 0, w, h => by
    simp [cr_put] at h
    exact Or.inr ⟨by simp [h], by omega, by omega⟩
  | x :: t, i + 2, v, j + 1, w, h => by
    rcases cr_put_sp t (i + 1) v j w (by simpa [cr_put] using h) with ⟨h1, h2⟩ | ⟨h1, h2, h3⟩
    · exact Or.inl ⟨by omega, h2⟩
    · exact Or.inr ⟨by simpa using h1, by omega, by omega⟩
theorem cr_L.put {ls' : Array Slot} {lv : cr_Lv} {i : Nat} {v : Value} (h : lv_has ls' lv.length ((i, v) :: (cr_as 0 lv).filter (fun q => !(q.1 == i) && !(q.1 + 1 == i && q.2.category == 2)))) : cr_L ls' (cr_put lv i v) := by
  refine ⟨by rw [cr_put_len]; exact h.1, h.2.1, fun q hq => ?_⟩
  obtain ⟨j, h1, h2⟩ := cr_as_of _ 0 q hq
  obtain ⟨j', w⟩ := q
  simp only [Nat.zero_add] at h1
  subst h1
  rcases cr_put_sp lv i v _ w h2 with ⟨g1, g2⟩ | ⟨g1, g2, g3⟩
  · subst g1; subst g2
    exact h.2.2 _ List.mem_cons_self
  · refine h.2.2 (_, w) (List.mem_cons_of_mem _ (List.mem_filter.mpr ⟨?_, ?_⟩))
    · have := cr_as_in lv 0 _ w g1
      simpa using this
    · simp only [Bool.and_eq_true, Bool.not_eq_true', beq_eq_false_iff_ne, ne_eq, Bool.and_eq_false_imp, beq_iff_eq]
      exact ⟨g2, fun a b => g3 ⟨a, b⟩⟩
theorem cr_put2_len : ∀ (lv : cr_Lv) (i : Nat) (v : Value), i + 1 < lv.length → (cr_put2 lv i v).length = lv.length
  | [], _, _, h => by simp at h
  | [_], _, _, h => by simp at h
  | _ :: _ :: t, 0, v, _ => rfl
  | x :: y :: t, 1, v, h => by simp [cr_put2, cr_put2_len (y :: t) 0 v (by simpa using h)]
  | x :: y :: t, i + 2, v, h => by
    have h9 := cr_put2_len (y :: t) (i + 1) v (by simp only [List.length_cons] at h ⊢; omega)
    simp only [List.length_cons] at h9
    simp [cr_put2, h9]
theorem cr_put2_sp : ∀ (lv : cr_Lv) (i : Nat) (v : Value) (j : Nat) (w : Value), (cr_put2 lv i v)[j]? = some (some w) → (j = i ∧ w = v) ∨ (lv[j]? = some (some w) ∧ j ≠ i ∧ j ≠ i + 1 ∧ ¬ (j + 1 = i ∧ w.category = 2))
  | [], _, _, j, w, h => by simp [cr_put2] at h
  | [_], _, _, j, w, h => by simp [cr_put2] at h
  | x :: y :: t, 0, v, 0, w, h => by
    simp [cr_put2] at h
    exact Or.inl ⟨rfl, h.symm⟩
  | x :: y :: t, 0, v, 1, w, h => by simp [cr_put2] at h
  | x :: y :: t, 0, v, j + 2, w, h => by
    simp [cr_put2] at h
    exact Or.inr ⟨by simpa using h, by omega, by omega, by omega⟩
  | x :: y :: t, 1, v, 0, w, h => by
    simp [cr_put2] at h
    obtain ⟨h1, h2⟩ := cr_kl_sp h
    exact Or.inr ⟨by simp [h1], by omega, by omega, by omega⟩
  | x :: y :: t, 1, v, j + 1, w, h => by
    rcases cr_put2_sp (y :: t) 0 v j w (by simpa [cr_put2] using h) with ⟨h1, h2⟩ | ⟨h1, h2, h3, h4⟩
    · exact Or.inl ⟨by omega, h2⟩
    · exact Or.inr ⟨by simpa using h1, by omega, by omega, by omega⟩
  | x :: y :: t, i + 2, v, 0, w, h => by
    simp [cr_put2] at h
    exact Or.inr ⟨by simp [h], by omega, by omega, by omega⟩
  | x :: y :: t, i + 2, v, j + 1, w, h => by
    rcases cr_put2_sp (y :: t) (i + 1) v j w (by simpa [cr_put2] using h) with ⟨h1, h2⟩ | ⟨h1, h2, h3, h4⟩
    · exact Or.inl ⟨by omega, h2⟩
    · exact Or.inr ⟨by simpa using h1, by omega, by omega, by omega⟩
theorem cr_L.put2 {ls' : Array Slot} {lv : cr_Lv} {i : Nat} {v : Value} (hi : i + 1 < lv.length) (h : lv_has ls' lv.length ((i, v) :: (cr_as 0 lv).filter (fun q => !(q.1 == i) && (!(q.1 == i + 1) && !(q.1 + 1 == i && q.2.category == 2))))) : cr_L ls' (cr_put2 lv i v) := by
  refine ⟨by rw [cr_put2_len lv i v hi]; exact h.1, h.2.1, fun q hq => ?_⟩
  obtain ⟨j, h1, h2⟩ := cr_as_of _ 0 q hq
  obtain ⟨j', w⟩ := q
  simp only [Nat.zero_add] at h1
  subst h1
  rcases cr_put2_sp lv i v _ w h2 with ⟨g1, g2⟩ | ⟨g1, g2, g3, g4⟩
  · subst g1; subst g2
    exact h.2.2 _ List.mem_cons_self
  · refine h.2.2 (_, w) (List.mem_cons_of_mem _ (List.mem_filter.mpr ⟨?_, ?_⟩))
    · have := cr_as_in lv 0 _ w g1
      simpa using this
    · simp only [Bool.and_eq_true, Bool.not_eq_true', beq_eq_false_iff_ne, ne_eq, Bool.and_eq_false_imp, beq_iff_eq]
      exact ⟨g2, g3, fun a b => g4 ⟨a, b⟩⟩
-- the judgement: from here the method comes to its end, with Q
def cr_G (p : Program) (l : Launch) (e : Env) (R : Room) (s : State) (m : MethodId) (args : Array Value) (below : List Frame) (meth : Method) (c : Code) (lo mc ms : Nat) (Q : cr_Q) : cr_K := fun pc lv st H k n =>
  ∀ (ls : Array Slot) (locs : List Loc), cr_L ls lv → (∀ q ∈ locs, cr_lc lo s q.base) → W p l e R s m args below meth c H locs k n (cr_MQ below lo mc ms Q s) (F0 m pc ls st)
def cr_Snd (p : Program) (l : Launch) (e : Env) (R : Room) (s : State) (m : MethodId) (args : Array Value) (below : List Frame) (meth : Method) (c : Code) (lo mc ms : Nat) (Q : cr_Q) (pc : Nat) (tr : cr_T) : Prop :=
  ∀ (K : cr_K) (lv : cr_Lv) (st : List Value) (H : Heap) (k n : Nat), (∀ pc lv st H k n, K pc lv st H k n → cr_G p l e R s m args below meth c lo mc ms Q pc lv st H k n) → tr K Q lv st H k n → cr_G p l e R s m args below meth c lo mc ms Q pc lv st H k n
-- a table and its run
def cr_lk : List (Nat × cr_T) → Nat → cr_T
  | [], _ => fun _ _ _ _ _ _ _ => False
  | e :: t, pc => cond (Nat.beq e.1 pc) e.2 (cr_lk t pc)
def cr_me : List Nat → Nat → Bool
  | [], _ => false
  | e :: t, pc => cond (Nat.beq e pc) true (cr_me t pc)
def cr_F (tb : List (Nat × cr_T)) (cut : List Nat) (K : cr_K) (Q : cr_Q) : Nat → cr_K
  | 0, pc, lv, st, H, k, n => K pc lv st H k n
  | f + 1, pc, lv, st, H, k, n => cond (cr_me cut pc) K (fun pc lv st H k n => cr_lk tb pc (cr_F tb cut K Q f) Q lv st H k n) pc lv st H k n
/-- the first step is not cut -/
def cr_F1 (tb : List (Nat × cr_T)) (cut : List Nat) (K : cr_K) (Q : cr_Q) (f : Nat) : cr_K := fun pc lv st H k n => cr_lk tb pc (cr_F tb cut K Q f) Q lv st H k n
section CR1
variable {p : Program} {l : Launch} {e : Env} {R : Room} {s : State} {m : MethodId} {args : Array Value} {below : List Frame} {meth : Method} {c : Code} {lo mc ms : Nat} {Q : cr_Q}
variable {cc : ByteArray} {pc nx : Nat}

theorem cr_lk_ok {K : cr_K} {lv : cr_Lv} {st : List Value} {H : Heap} {k n : Nat} (hK : ∀ pc lv st H k n, K pc lv st H k n → cr_G p l e R s m args below meth c lo mc ms Q pc lv st H k n) : ∀ (tb : List (Nat × cr_T)) (_ : ∀ x ∈ tb, cr_Snd p l e R s m args below meth c lo mc ms Q x.1 x.2) (pc : Nat), cr_lk tb pc K Q lv st H k n → cr_G p l e R s m args below meth c lo mc ms Q pc lv st H k n
  | [], _, _, h => False.elim h
  | x :: t, ht, pc, h => by
    unfold cr_lk at h
    cases hb : Nat.beq x.1 pc with
    | true =>
      rw [hb] at h
      have e1 : x.1 = pc := Nat.eq_of_beq_eq_true hb
      subst e1
      exact ht x List.mem_cons_self K lv st H k n hK h
    | false =>
      rw [hb] at h
      exact cr_lk_ok hK t (fun y hy => ht y (List.mem_cons_of_mem _ hy)) pc h
theorem cr_F_ok {tb : List (Nat × cr_T)} {cut : List Nat} {K : cr_K} (ht : ∀ x ∈ tb, cr_Snd p l e R s m args below meth c lo mc ms Q x.1 x.2) (hK : ∀ pc lv st H k n, K pc lv st H k n → cr_G p l e R s m args below meth c lo mc ms Q pc lv st H k n) : ∀ (f pc : Nat) (lv : cr_Lv) (st : List Value) (H : Heap) (k n : Nat), cr_F tb cut K Q f pc lv st H k n → cr_G p l e R s m args below meth c lo mc ms Q pc lv st H k n
  | 0, pc, lv, st, H, k, n, h => hK _ _ _ _ _ _ h
  | f + 1, pc, lv, st, H, k, n, h => by
    unfold cr_F at h
    cases hb : cr_me cut pc with
    | true =>
      rw [hb] at h
      exact hK _ _ _ _ _ _ h
    | false =>
      rw [hb] at h
      exact cr_lk_ok (cr_F_ok ht hK f) tb ht pc h
/-- HOW A PROOF BEGINS: for any K that the judgement gives, the table's run -/
theorem cr_vc {tb : List (Nat × cr_T)} (cut : List Nat) (f : Nat) {pc : Nat} {lv : cr_Lv} {st : List Value} {H : Heap} {k n : Nat} (ht : ∀ x ∈ tb, cr_Snd p l e R s m args below meth c lo mc ms Q x.1 x.2)
    (h : ∀ K : cr_K, (∀ pc lv st H k n, cr_G p l e R s m args below meth c lo mc ms Q pc lv st H k n → K pc lv st H k n) → cr_F1 tb cut K Q f pc lv st H k n) : cr_G p l e R s m args below meth c lo mc ms Q pc lv st H k n :=
  cr_lk_ok (cr_F_ok ht (fun _ _ _ _ _ _ h => h) f) tb ht pc (h _ (fun _ _ _ _ _ _ h => h))

def cr_iload (i nx : Nat) : cr_T := fun K _ lv st H k n => cr_ld lv i (fun v => match v with | .int x => K nx lv (.int x :: st) H k n | _ => False)
theorem cr_iload_n_ok {j : Fin 4} {i : Nat} (hx : p.tables.exec = Jvm.exec) (hb : c.code = cc) (hd : decode cc pc = .ok (.iload_n j, 1)) (hi : (j : Nat) = i) (hn : pc + 1 = nx) : cr_Snd p l e R s m args below meth c lo mc ms Q pc (cr_iload i nx) := by
  subst hn
  intro K lv st H k n hK h ls locs hl hq
  obtain ⟨v, hv, hf⟩ := cr_ld_sp h
  cases v with
  | int x => exact lv_iload_n hx hb hd hi (hl.at hv) (hK _ _ _ _ _ _ hf ls locs hl hq)
  | _ => exact False.elim hf
theorem cr_iload_ok {i : Nat} (hx : p.tables.exec = Jvm.exec) (hb : c.code = cc) (hd : decode cc pc = .ok (.iload i, 2)) (hn : pc + 2 = nx) : cr_Snd p l e R s m args below meth c lo mc ms Q pc (cr_iload i nx) := by
  subst hn
  intro K lv st H k n hK h ls locs hl hq
  obtain ⟨v, hv, hf⟩ := cr_ld_sp h
  cases v with
  | int x => exact lv_iload hx hb hd (hl.at hv) (hK _ _ _ _ _ _ hf ls locs hl hq)
  | _ => exact False.elim hf
def cr_aload (i nx : Nat) : cr_T := fun K _ lv st H k n => cr_ld lv i (fun v => match v with | .ref x => K nx lv (.ref x :: st) H k n | .null => K nx lv (.null :: st) H k n | _ => False)
theorem cr_aload_n_ok {j : Fin 4} {i : Nat} (hx : p.tables.exec = Jvm.exec) (hb : c.code = cc) (hd : decode cc pc = .ok (.aload_n j, 1)) (hi : (j : Nat) = i) (hn : pc + 1 = nx) : cr_Snd p l e R s m args below meth c lo mc ms Q pc (cr_aload i nx) := by
  subst hn
  intro K lv st H k n hK h ls locs hl hq
  obtain ⟨v, hv, hf⟩ := cr_ld_sp h
  cases v with
  | ref x => exact lv_aload_n hx hb hd hi (hl.at hv) (hK _ _ _ _ _ _ hf ls locs hl hq)
  | null => exact lv_aload_nN hx hb hd hi (hl.at hv) (hK _ _ _ _ _ _ hf ls locs hl hq)
  | _ => exact False.elim hf
theorem cr_aload_ok {i : Nat} (hx : p.tables.exec = Jvm.exec) (hb : c.code = cc) (hd : decode cc pc = .ok (.aload i, 2)) (hn : pc + 2 = nx) : cr_Snd p l e R s m args below meth c lo mc ms Q pc (cr_aload i nx) := by
  subst hn
  intro K lv st H k n hK h ls locs hl hq
  obtain ⟨v, hv, hf⟩ := cr_ld_sp h
  cases v with
  | ref x => exact lv_aload hx hb hd (hl.at hv) (hK _ _ _ _ _ _ hf ls locs hl hq)
  | null => exact lv_aloadN hx hb hd (hl.at hv) (hK _ _ _ _ _ _ hf ls locs hl hq)
  | _ => exact False.elim hf
def cr_lload (i nx : Nat) : cr_T := fun K _ lv st H k n => cr_ld lv i (fun v => match v with | .long x => K nx lv (.long x :: st) H k n | _ => False)
theorem cr_lload_n_ok {j : Fin 4} {i : Nat} (hx : p.tables.exec = Jvm.exec) (hb : c.code = cc) (hd : decode cc pc = .ok (.lload_n j, 1)) (hi : (j : Nat) = i) (hn : pc + 1 = nx) : cr_Snd p l e R s m args below meth c lo mc ms Q pc (cr_lload i nx) := by
  subst hn
  intro K lv st H k n hK h ls locs hl hq
  obtain ⟨v, hv, hf⟩ := cr_ld_sp h
  cases v with
  | long x => exact lv_lload_n hx hb hd hi (hl.at hv) (hK _ _ _ _ _ _ hf ls locs hl hq)
  | _ => exact False.elim hf
theorem cr_lload_ok {i : Nat} (hx : p.tables.exec = Jvm.exec) (hb : c.code = cc) (hd : decode cc pc = .ok (.lload i, 2)) (hn : pc + 2 = nx) : cr_Snd p l e R s m args below meth c lo mc ms Q pc (cr_lload i nx) := by
  subst hn
  intro K lv st H k n hK h ls locs hl hq
  obtain ⟨v, hv, hf⟩ := cr_ld_sp h
  cases v with
  | long x => exact lv_lload hx hb hd (hl.at hv) (hK _ _ _ _ _ _ hf ls locs hl hq)
  | _ => exact False.elim hf
def cr_istore (i nx : Nat) : cr_T := fun K _ lv st H k n => match st with | .int x :: r => i < lv.length ∧ cr_nf (cr_put lv i (.int x)) (fun lv' => K nx lv' r H k n) | _ => False
theorem cr_istore_n_ok {j : Fin 4} {i : Nat} (hx : p.tables.exec = Jvm.exec) (hb : c.code = cc) (hd : decode cc pc = .ok (.istore_n j, 1)) (hi : (j : Nat) = i) (hn : pc + 1 = nx) : cr_Snd p l e R s m args below meth c lo mc ms Q pc (cr_istore i nx) := by
  subst hn
  intro K lv st H k n hK h ls locs hl hq
  match st, h with
  | .int x :: r, h => exact lv_istore_n hx hb hd hi hl h.1 rfl (fun ls' hl' => hK _ _ _ _ _ _ ((cr_nf_eq _ _).mp h.2) ls' locs (cr_L.put hl') hq)
theorem cr_istore_ok {i : Nat} (hx : p.tables.exec = Jvm.exec) (hb : c.code = cc) (hd : decode cc pc = .ok (.istore i, 2)) (hn : pc + 2 = nx) : cr_Snd p l e R s m args below meth c lo mc ms Q pc (cr_istore i nx) := by
  subst hn
  intro K lv st H k n hK h ls locs hl hq
  match st, h with
  | .int x :: r, h => exact lv_istore hx hb hd hl h.1 rfl (fun ls' hl' => hK _ _ _ _ _ _ ((cr_nf_eq _ _).mp h.2) ls' locs (cr_L.put hl') hq)
def cr_astore (i nx : Nat) : cr_T := fun K _ lv st H k n => match st with | .ref x :: r => i < lv.length ∧ cr_nf (cr_put lv i (.ref x)) (fun lv' => K nx lv' r H k n) | .null :: r => i < lv.length ∧ cr_nf (cr_put lv i .null) (fun lv' => K nx lv' r H k n) | _ => False
theorem cr_astore_n_ok {j : Fin 4} {i : Nat} (hx : p.tables.exec = Jvm.exec) (hb : c.code = cc) (hd : decode cc pc = .ok (.astore_n j, 1)) (hi : (j : Nat) = i) (hn : pc + 1 = nx) : cr_Snd p l e R s m args below meth c lo mc ms Q pc (cr_astore i nx) := by
  subst hn
  intro K lv st H k n hK h ls locs hl hq
  match st, h with
  | .ref x :: r, h => exact lv_astore_n hx hb hd hi hl h.1 rfl (fun ls' hl' => hK _ _ _ _ _ _ ((cr_nf_eq _ _).mp h.2) ls' locs (cr_L.put hl') hq)
  | .null :: r, h => exact lv_astore_nN hx hb hd hi hl h.1 rfl (fun ls' hl' => hK _ _ _ _ _ _ ((cr_nf_eq _ _).mp h.2) ls' locs (cr_L.put hl') hq)
theorem cr_astore_ok {i : Nat} (hx : p.tables.exec = Jvm.exec) (hb : c.code = cc) (hd : decode cc pc = .ok (.astore i, 2)) (hn : pc + 2 = nx) : cr_Snd p l e R s m args below meth c lo mc ms Q pc (cr_astore i nx) := by
  subst hn
  intro K lv st H k n hK h ls locs hl hq
  match st, h with
  | .ref x :: r, h => exact lv_astore hx hb hd hl h.1 rfl (fun ls' hl' => hK _ _ _ _ _ _ ((cr_nf_eq _ _).mp h.2) ls' locs (cr_L.put hl') hq)
  | .null :: r, h => exact lv_astoreN hx hb hd hl h.1 rfl (fun ls' hl' => hK _ _ _ _ _ _ ((cr_nf_eq _ _).mp h.2) ls' locs (cr_L.put hl') hq)
def cr_lstore (i nx : Nat) : cr_T := fun K _ lv st H k n => match st with | .long x :: r => i + 1 < lv.length ∧ cr_nf (cr_put2 lv i (.long x)) (fun lv' => K nx lv' r H k n) | _ => False
theorem cr_lstore_n_ok {j : Fin 4} {i : Nat} (hx : p.tables.exec = Jvm.exec) (hb : c.code = cc) (hd : decode cc pc = .ok (.lstore_n j, 1)) (hi : (j : Nat) = i) (hn : pc + 1 = nx) : cr_Snd p l e R s m args below meth c lo mc ms Q pc (cr_lstore i nx) := by
  subst hn
  intro K lv st H k n hK h ls locs hl hq
  match st, h with
  | .long x :: r, h => exact lv_lstore_n hx hb hd hi hl h.1 rfl (fun ls' hl' => hK _ _ _ _ _ _ ((cr_nf_eq _ _).mp h.2) ls' locs (cr_L.put2 h.1 hl') hq)
theorem cr_lstore_ok {i : Nat} (hx : p.tables.exec = Jvm.exec) (hb : c.code = cc) (hd : decode cc pc = .ok (.lstore i, 2)) (hn : pc + 2 = nx) : cr_Snd p l e R s m args below meth c lo mc ms Q pc (cr_lstore i nx) := by
  subst hn
  intro K lv st H k n hK h ls locs hl hq
  match st, h with
  | .long x :: r, h => exact lv_lstore hx hb hd hl h.1 rfl (fun ls' hl' => hK _ _ _ _ _ _ ((cr_nf_eq _ _).mp h.2) ls' locs (cr_L.put2 h.1 hl') hq)
def cr_iinc (i : Nat) (z : Int32) (nx : Nat) : cr_T := fun K _ lv st H k n => i < lv.length ∧ cr_ld lv i (fun v => match v with | .int x => cr_nf (cr_put lv i (.int (x + z))) (fun lv' => K nx lv' st H k n) | _ => False)
theorem cr_iinc_ok {i : Nat} {z : Int32} {zi : Int} (hx : p.tables.exec = Jvm.exec) (hb : c.code = cc) (hd : decode cc pc = .ok (.iinc i zi, 3)) (hz : Int32.ofInt zi = z) (hn : pc + 3 = nx) : cr_Snd p l e R s m args below meth c lo mc ms Q pc (cr_iinc i z nx) := by
  subst hn; subst hz
  intro K lv st H k n hK h ls locs hl hq
  obtain ⟨hi, h⟩ := h
  obtain ⟨v, hv, hf⟩ := cr_ld_sp h
  cases v with
  | int x =>
    have hm := cr_as_in lv 0 i (.int x) hv
    rw [Nat.zero_add] at hm
    obtain ⟨k9, hk9⟩ := List.getElem?_of_mem hm
    exact lv_iinc hx hb hd hl (k := k9) hk9 rfl hi rfl (fun ls' hl' => hK _ _ _ _ _ _ ((cr_nf_eq _ _).mp hf) ls' locs (cr_L.put hl') hq)
  | _ => exact False.elim hf
def cr_push (v : Value) (nx : Nat) : cr_T := fun K _ lv st H k n => K nx lv (v :: st) H k n
theorem cr_iconst_ok (hx : p.tables.exec = Jvm.exec) (hb : c.code = cc) {z : Int} {v : Int32} (hd : decode cc pc = .ok (.iconst z, 1)) (hz : Int32.ofInt z = v) (hn : pc + 1 = nx) : cr_Snd p l e R s m args below meth c lo mc ms Q pc (cr_push (.int v) nx) := by
  subst hn
  intro K lv st H k n hK h ls locs hl hq
  exact lv_iconst hx hb hd hz (hK _ _ _ _ _ _ h ls locs hl hq)
theorem cr_bipush_ok (hx : p.tables.exec = Jvm.exec) (hb : c.code = cc) {z : Int} {v : Int32} (hd : decode cc pc = .ok (.bipush z, 2)) (hz : (Int8.ofInt z).toInt32 = v) (hn : pc + 2 = nx) : cr_Snd p l e R s m args below meth c lo mc ms Q pc (cr_push (.int v) nx) := by
  subst hn
  intro K lv st H k n hK h ls locs hl hq
  exact lv_bipush hx hb hd hz (hK _ _ _ _ _ _ h ls locs hl hq)
theorem cr_sipush_ok (hx : p.tables.exec = Jvm.exec) (hb : c.code = cc) {z : Int} {v : Int32} (hd : decode cc pc = .ok (.sipush z, 3)) (hz : (Int16.ofInt z).toInt32 = v) (hn : pc + 3 = nx) : cr_Snd p l e R s m args below meth c lo mc ms Q pc (cr_push (.int v) nx) := by
  subst hn
  intro K lv st H k n hK h ls locs hl hq
  exact lv_sipush hx hb hd hz (hK _ _ _ _ _ _ h ls locs hl hq)
theorem cr_lconst_ok (hx : p.tables.exec = Jvm.exec) (hb : c.code = cc) {z : Fin 2} {v : Int64} (hd : decode cc pc = .ok (.lconst z, 1)) (hz : Int64.ofNat (z : Nat) = v) (hn : pc + 1 = nx) : cr_Snd p l e R s m args below meth c lo mc ms Q pc (cr_push (.long v) nx) := by
  subst hn
  intro K lv st H k n hK h ls locs hl hq
  exact lv_lconst hx hb hd hz (hK _ _ _ _ _ _ h ls locs hl hq)
theorem cr_ldc_ok (hx : p.tables.exec = Jvm.exec) (hb : c.code = cc) {own : String} {index : Nat} {v : Int32} (hown : s.vm.findClass own = some m.cls) (hc : (Jvm.Cond.constant own index v).before args s = true) (hd : decode cc pc = .ok (.ldc index, 2)) (hn : pc + 2 = nx) : cr_Snd p l e R s m args below meth c lo mc ms Q pc (cr_push (.int v) nx) := by
  subst hn
  intro K lv st H k n hK h ls locs hl hq
  exact lv_ldc hx hb hown hc hd (hK _ _ _ _ _ _ h ls locs hl hq)
theorem cr_ldcw_ok (hx : p.tables.exec = Jvm.exec) (hb : c.code = cc) {own : String} {index : Nat} {v : Int32} (hown : s.vm.findClass own = some m.cls) (hc : (Jvm.Cond.constant own index v).before args s = true) (hd : decode cc pc = .ok (.ldc_w index, 3)) (hn : pc + 3 = nx) : cr_Snd p l e R s m args below meth c lo mc ms Q pc (cr_push (.int v) nx) := by
  subst hn
  intro K lv st H k n hK h ls locs hl hq
  exact lv_ldcw hx hb hown hc hd (hK _ _ _ _ _ _ h ls locs hl hq)
theorem cr_null_ok (hx : p.tables.exec = Jvm.exec) (hb : c.code = cc) (hd : decode cc pc = .ok (.aconst_null, 1)) (hn : pc + 1 = nx) : cr_Snd p l e R s m args below meth c lo mc ms Q pc (cr_push .null nx) := by
  subst hn
  intro K lv st H k n hK h ls locs hl hq
  exact lv_null hx hb hd (hK _ _ _ _ _ _ h ls locs hl hq)
def cr_iadd (nx : Nat) : cr_T := fun K _ lv st H k n => match st with | .int y :: .int x :: r => K nx lv (.int (x + y) :: r) H k n | _ => False
theorem cr_iadd_ok (hx : p.tables.exec = Jvm.exec) (hb : c.code = cc) (hd : decode cc pc = .ok (.iadd, 1)) (hn : pc + 1 = nx) : cr_Snd p l e R s m args below meth c lo mc ms Q pc (cr_iadd nx) := by
  subst hn
  intro K lv st H k n hK h ls locs hl hq
  match st, h with
  | .int y :: .int x :: r, h => exact lv_iadd hx hb hd (hK _ _ _ _ _ _ h ls locs hl hq)
def cr_isub (nx : Nat) : cr_T := fun K _ lv st H k n => match st with | .int y :: .int x :: r => K nx lv (.int (x - y) :: r) H k n | _ => False
theorem cr_isub_ok (hx : p.tables.exec = Jvm.exec) (hb : c.code = cc) (hd : decode cc pc = .ok (.isub, 1)) (hn : pc + 1 = nx) : cr_Snd p l e R s m args below meth c lo mc ms Q pc (cr_isub nx) := by
  subst hn
  intro K lv st H k n hK h ls locs hl hq
  match st, h with
  | .int y :: .int x :: r, h => exact lv_isub hx hb hd (hK _ _ _ _ _ _ h ls locs hl hq)
def cr_imul (nx : Nat) : cr_T := fun K _ lv st H k n => match st with | .int y :: .int x :: r => K nx lv (.int (x * y) :: r) H k n | _ => False
theorem cr_imul_ok (hx : p.tables.exec = Jvm.exec) (hb : c.code = cc) (hd : decode cc pc = .ok (.imul, 1)) (hn : pc + 1 = nx) : cr_Snd p l e R s m args below meth c lo mc ms Q pc (cr_imul nx) := by
  subst hn
  intro K lv st H k n hK h ls locs hl hq
  match st, h with
  | .int y :: .int x :: r, h => exact lv_imul hx hb hd (hK _ _ _ _ _ _ h ls locs hl hq)
def cr_iand (nx : Nat) : cr_T := fun K _ lv st H k n => match st with | .int y :: .int x :: r => K nx lv (.int (x &&& y) :: r) H k n | _ => False
theorem cr_iand_ok (hx : p.tables.exec = Jvm.exec) (hb : c.code = cc) (hd : decode cc pc = .ok (.iand, 1)) (hn : pc + 1 = nx) : cr_Snd p l e R s m args below meth c lo mc ms Q pc (cr_iand nx) := by
  subst hn
  intro K lv st H k n hK h ls locs hl hq
  match st, h with
  | .int y :: .int x :: r, h => exact lv_iand hx hb hd (hK _ _ _ _ _ _ h ls locs hl hq)
def cr_ior (nx : Nat) : cr_T := fun K _ lv st H k n => match st with | .int y :: .int x :: r => K nx lv (.int (x ||| y) :: r) H k n | _ => False
theorem cr_ior_ok (hx : p.tables.exec = Jvm.exec) (hb : c.code = cc) (hd : decode cc pc = .ok (.ior, 1)) (hn : pc + 1 = nx) : cr_Snd p l e R s m args below meth c lo mc ms Q pc (cr_ior nx) := by
  subst hn
  intro K lv st H k n hK h ls locs hl hq
  match st, h with
  | .int y :: .int x :: r, h => exact lv_ior hx hb hd (hK _ _ _ _ _ _ h ls locs hl hq)
def cr_ixor (nx : Nat) : cr_T := fun K _ lv st H k n => match st with | .int y :: .int x :: r => K nx lv (.int (x ^^^ y) :: r) H k n | _ => False
theorem cr_ixor_ok (hx : p.tables.exec = Jvm.exec) (hb : c.code = cc) (hd : decode cc pc = .ok (.ixor, 1)) (hn : pc + 1 = nx) : cr_Snd p l e R s m args below meth c lo mc ms Q pc (cr_ixor nx) := by
  subst hn
  intro K lv st H k n hK h ls locs hl hq
  match st, h with
  | .int y :: .int x :: r, h => exact lv_ixor hx hb hd (hK _ _ _ _ _ _ h ls locs hl hq)
def cr_ishl (nx : Nat) : cr_T := fun K _ lv st H k n => match st with | .int y :: .int x :: r => K nx lv (.int (x <<< (y &&& 31)) :: r) H k n | _ => False
theorem cr_ishl_ok (hx : p.tables.exec = Jvm.exec) (hb : c.code = cc) (hd : decode cc pc = .ok (.ishl, 1)) (hn : pc + 1 = nx) : cr_Snd p l e R s m args below meth c lo mc ms Q pc (cr_ishl nx) := by
  subst hn
  intro K lv st H k n hK h ls locs hl hq
  match st, h with
  | .int y :: .int x :: r, h => exact lv_ishl hx hb hd (hK _ _ _ _ _ _ h ls locs hl hq)
def cr_ishr (nx : Nat) : cr_T := fun K _ lv st H k n => match st with | .int y :: .int x :: r => K nx lv (.int (x >>> (y &&& 31)) :: r) H k n | _ => False
theorem cr_ishr_ok (hx : p.tables.exec = Jvm.exec) (hb : c.code = cc) (hd : decode cc pc = .ok (.ishr, 1)) (hn : pc + 1 = nx) : cr_Snd p l e R s m args below meth c lo mc ms Q pc (cr_ishr nx) := by
  subst hn
  intro K lv st H k n hK h ls locs hl hq
  match st, h with
  | .int y :: .int x :: r, h => exact lv_ishr hx hb hd (hK _ _ _ _ _ _ h ls locs hl hq)
def cr_iushr (nx : Nat) : cr_T := fun K _ lv st H k n => match st with | .int y :: .int x :: r => K nx lv (.int (x.toUInt32 >>> (y.toUInt32 &&& Int32.toUInt32 31)).toInt32 :: r) H k n | _ => False
theorem cr_iushr_ok (hx : p.tables.exec = Jvm.exec) (hb : c.code = cc) (hd : decode cc pc = .ok (.iushr, 1)) (hn : pc + 1 = nx) : cr_Snd p l e R s m args below meth c lo mc ms Q pc (cr_iushr nx) := by
  subst hn
  intro K lv st H k n hK h ls locs hl hq
  match st, h with
  | .int y :: .int x :: r, h => exact lv_iushr hx hb hd rfl (hK _ _ _ _ _ _ h ls locs hl hq)
def cr_idiv (nx : Nat) : cr_T := fun K _ lv st H k n => match st with | .int y :: .int x :: r => ¬ y = 0 ∧ K nx lv (.int (x / y) :: r) H k n | _ => False
theorem cr_idiv_ok (hx : p.tables.exec = Jvm.exec) (hb : c.code = cc) (hd : decode cc pc = .ok (.idiv, 1)) (hn : pc + 1 = nx) : cr_Snd p l e R s m args below meth c lo mc ms Q pc (cr_idiv nx) := by
  subst hn
  intro K lv st H k n hK h ls locs hl hq
  match st, h with
  | .int y :: .int x :: r, h => exact lv_idiv hx hb hd h.1 (hK _ _ _ _ _ _ h.2 ls locs hl hq)
def cr_irem (nx : Nat) : cr_T := fun K _ lv st H k n => match st with | .int y :: .int x :: r => ¬ y = 0 ∧ K nx lv (.int (x - x / y * y) :: r) H k n | _ => False
theorem cr_irem_ok (hx : p.tables.exec = Jvm.exec) (hb : c.code = cc) (hd : decode cc pc = .ok (.irem, 1)) (hn : pc + 1 = nx) : cr_Snd p l e R s m args below meth c lo mc ms Q pc (cr_irem nx) := by
  subst hn
  intro K lv st H k n hK h ls locs hl hq
  match st, h with
  | .int y :: .int x :: r, h => exact lv_irem hx hb hd h.1 (hK _ _ _ _ _ _ h.2 ls locs hl hq)
def cr_ladd (nx : Nat) : cr_T := fun K _ lv st H k n => match st with | .long y :: .long x :: r => K nx lv (.long (x + y) :: r) H k n | _ => False
theorem cr_ladd_ok (hx : p.tables.exec = Jvm.exec) (hb : c.code = cc) (hd : decode cc pc = .ok (.ladd, 1)) (hn : pc + 1 = nx) : cr_Snd p l e R s m args below meth c lo mc ms Q pc (cr_ladd nx) := by
  subst hn
  intro K lv st H k n hK h ls locs hl hq
  match st, h with
  | .long y :: .long x :: r, h => exact lv_ladd hx hb hd (hK _ _ _ _ _ _ h ls locs hl hq)
def cr_lsub (nx : Nat) : cr_T := fun K _ lv st H k n => match st with | .long y :: .long x :: r => K nx lv (.long (x - y) :: r) H k n | _ => False
theorem cr_lsub_ok (hx : p.tables.exec = Jvm.exec) (hb : c.code = cc) (hd : decode cc pc = .ok (.lsub, 1)) (hn : pc + 1 = nx) : cr_Snd p l e R s m args below meth c lo mc ms Q pc (cr_lsub nx) := by
  subst hn
  intro K lv st H k n hK h ls locs hl hq
  match st, h with
  | .long y :: .long x :: r, h => exact lv_lsub hx hb hd (hK _ _ _ _ _ _ h ls locs hl hq)
def cr_land (nx : Nat) : cr_T := fun K _ lv st H k n => match st with | .long y :: .long x :: r => K nx lv (.long (x &&& y) :: r) H k n | _ => False
theorem cr_land_ok (hx : p.tables.exec = Jvm.exec) (hb : c.code = cc) (hd : decode cc pc = .ok (.land, 1)) (hn : pc + 1 = nx) : cr_Snd p l e R s m args below meth c lo mc ms Q pc (cr_land nx) := by
  subst hn
  intro K lv st H k n hK h ls locs hl hq
  match st, h with
  | .long y :: .long x :: r, h => exact lv_land hx hb hd (hK _ _ _ _ _ _ h ls locs hl hq)
def cr_lor (nx : Nat) : cr_T := fun K _ lv st H k n => match st with | .long y :: .long x :: r => K nx lv (.long (x ||| y) :: r) H k n | _ => False
theorem cr_lor_ok (hx : p.tables.exec = Jvm.exec) (hb : c.code = cc) (hd : decode cc pc = .ok (.lor, 1)) (hn : pc + 1 = nx) : cr_Snd p l e R s m args below meth c lo mc ms Q pc (cr_lor nx) := by
  subst hn
  intro K lv st H k n hK h ls locs hl hq
  match st, h with
  | .long y :: .long x :: r, h => exact lv_lor hx hb hd (hK _ _ _ _ _ _ h ls locs hl hq)
def cr_lxor (nx : Nat) : cr_T := fun K _ lv st H k n => match st with | .long y :: .long x :: r => K nx lv (.long (x ^^^ y) :: r) H k n | _ => False
theorem cr_lxor_ok (hx : p.tables.exec = Jvm.exec) (hb : c.code = cc) (hd : decode cc pc = .ok (.lxor, 1)) (hn : pc + 1 = nx) : cr_Snd p l e R s m args below meth c lo mc ms Q pc (cr_lxor nx) := by
  subst hn
  intro K lv st H k n hK h ls locs hl hq
  match st, h with
  | .long y :: .long x :: r, h => exact lv_lxor hx hb hd (hK _ _ _ _ _ _ h ls locs hl hq)
def cr_lshl (nx : Nat) : cr_T := fun K _ lv st H k n => match st with | .int y :: .long x :: r => K nx lv (.long (x <<< (y.toInt64 &&& 63)) :: r) H k n | _ => False
theorem cr_lshl_ok (hx : p.tables.exec = Jvm.exec) (hb : c.code = cc) (hd : decode cc pc = .ok (.lshl, 1)) (hn : pc + 1 = nx) : cr_Snd p l e R s m args below meth c lo mc ms Q pc (cr_lshl nx) := by
  subst hn
  intro K lv st H k n hK h ls locs hl hq
  match st, h with
  | .int y :: .long x :: r, h => exact lv_lshl hx hb hd rfl (hK _ _ _ _ _ _ h ls locs hl hq)
def cr_lushr (nx : Nat) : cr_T := fun K _ lv st H k n => match st with | .int y :: .long x :: r => K nx lv (.long (x.toUInt64 >>> (y.toInt64.toUInt64 &&& Int64.toUInt64 63)).toInt64 :: r) H k n | _ => False
theorem cr_lushr_ok (hx : p.tables.exec = Jvm.exec) (hb : c.code = cc) (hd : decode cc pc = .ok (.lushr, 1)) (hn : pc + 1 = nx) : cr_Snd p l e R s m args below meth c lo mc ms Q pc (cr_lushr nx) := by
  subst hn
  intro K lv st H k n hK h ls locs hl hq
  match st, h with
  | .int y :: .long x :: r, h => exact lv_lushr hx hb hd rfl (hK _ _ _ _ _ _ h ls locs hl hq)
def cr_lcmp (nx : Nat) : cr_T := fun K _ lv st H k n => match st with | .long y :: .long x :: r => K nx lv (.int (lg_cmp x y) :: r) H k n | _ => False
theorem cr_lcmp_ok (hx : p.tables.exec = Jvm.exec) (hb : c.code = cc) (hd : decode cc pc = .ok (.lcmp, 1)) (hn : pc + 1 = nx) : cr_Snd p l e R s m args below meth c lo mc ms Q pc (cr_lcmp nx) := by
  subst hn
  intro K lv st H k n hK h ls locs hl hq
  match st, h with
  | .long y :: .long x :: r, h => exact W.lcmp hx hb hd (hK _ _ _ _ _ _ h ls locs hl hq)
def cr_ineg (nx : Nat) : cr_T := fun K _ lv st H k n => match st with | .int x :: r => K nx lv (.int (-x) :: r) H k n | _ => False
theorem cr_ineg_ok (hx : p.tables.exec = Jvm.exec) (hb : c.code = cc) (hd : decode cc pc = .ok (.ineg, 1)) (hn : pc + 1 = nx) : cr_Snd p l e R s m args below meth c lo mc ms Q pc (cr_ineg nx) := by
  subst hn
  intro K lv st H k n hK h ls locs hl hq
  match st, h with
  | .int x :: r, h => exact lv_ineg hx hb hd (hK _ _ _ _ _ _ h ls locs hl hq)
def cr_i2l (nx : Nat) : cr_T := fun K _ lv st H k n => match st with | .int x :: r => K nx lv (.long x.toInt64 :: r) H k n | _ => False
theorem cr_i2l_ok (hx : p.tables.exec = Jvm.exec) (hb : c.code = cc) (hd : decode cc pc = .ok (.i2l, 1)) (hn : pc + 1 = nx) : cr_Snd p l e R s m args below meth c lo mc ms Q pc (cr_i2l nx) := by
  subst hn
  intro K lv st H k n hK h ls locs hl hq
  match st, h with
  | .int x :: r, h => exact lv_i2l hx hb hd rfl (hK _ _ _ _ _ _ h ls locs hl hq)
def cr_l2i (nx : Nat) : cr_T := fun K _ lv st H k n => match st with | .long x :: r => K nx lv (.int x.toInt32 :: r) H k n | _ => False
theorem cr_l2i_ok (hx : p.tables.exec = Jvm.exec) (hb : c.code = cc) (hd : decode cc pc = .ok (.l2i, 1)) (hn : pc + 1 = nx) : cr_Snd p l e R s m args below meth c lo mc ms Q pc (cr_l2i nx) := by
  subst hn
  intro K lv st H k n hK h ls locs hl hq
  match st, h with
  | .long x :: r, h => exact lv_l2i hx hb hd rfl (hK _ _ _ _ _ _ h ls locs hl hq)
def cr_dup (nx : Nat) : cr_T := fun K _ lv st H k n => match st with | a :: r => a.category = 1 ∧ K nx lv (a :: a :: r) H k n | _ => False
theorem cr_dup_ok (hx : p.tables.exec = Jvm.exec) (hb : c.code = cc) (hd : decode cc pc = .ok (.dup, 1)) (hn : pc + 1 = nx) : cr_Snd p l e R s m args below meth c lo mc ms Q pc (cr_dup nx) := by
  subst hn
  intro K lv st H k n hK h ls locs hl hq
  match st, h with
  | a :: r, h => exact lv_dup hx hb hd h.1 (hK _ _ _ _ _ _ h.2 ls locs hl hq)
def cr_pop (nx : Nat) : cr_T := fun K _ lv st H k n => match st with | a :: r => a.category = 1 ∧ K nx lv (r) H k n | _ => False
theorem cr_pop_ok (hx : p.tables.exec = Jvm.exec) (hb : c.code = cc) (hd : decode cc pc = .ok (.pop, 1)) (hn : pc + 1 = nx) : cr_Snd p l e R s m args below meth c lo mc ms Q pc (cr_pop nx) := by
  subst hn
  intro K lv st H k n hK h ls locs hl hq
  match st, h with
  | a :: r, h => exact lv_pop hx hb hd h.1 (hK _ _ _ _ _ _ h.2 ls locs hl hq)
def cr_dup_x1 (nx : Nat) : cr_T := fun K _ lv st H k n => match st with | a :: b :: r => a.category = 1 ∧ b.category = 1 ∧ K nx lv (a :: b :: a :: r) H k n | _ => False
theorem cr_dup_x1_ok (hx : p.tables.exec = Jvm.exec) (hb : c.code = cc) (hd : decode cc pc = .ok (.dup_x1, 1)) (hn : pc + 1 = nx) : cr_Snd p l e R s m args below meth c lo mc ms Q pc (cr_dup_x1 nx) := by
  subst hn
  intro K lv st H k n hK h ls locs hl hq
  match st, h with
  | a :: b :: r, h => exact lv_dup_x1 hx hb hd h.1 h.2.1 (hK _ _ _ _ _ _ h.2.2 ls locs hl hq)
def cr_dup_x2 (nx : Nat) : cr_T := fun K _ lv st H k n => match st with | a :: b :: d :: r => a.category = 1 ∧ b.category = 1 ∧ d.category = 1 ∧ K nx lv (a :: b :: d :: a :: r) H k n | _ => False
theorem cr_dup_x2_ok (hx : p.tables.exec = Jvm.exec) (hb : c.code = cc) (hd : decode cc pc = .ok (.dup_x2, 1)) (hn : pc + 1 = nx) : cr_Snd p l e R s m args below meth c lo mc ms Q pc (cr_dup_x2 nx) := by
  subst hn
  intro K lv st H k n hK h ls locs hl hq
  match st, h with
  | a :: b :: d :: r, h => exact lv_dup_x2 hx hb hd h.1 h.2.1 h.2.2.1 (hK _ _ _ _ _ _ h.2.2.2 ls locs hl hq)
def cr_dup2 (nx : Nat) : cr_T := fun K _ lv st H k n => match st with | a :: b :: r => a.category = 1 ∧ b.category = 1 ∧ K nx lv (a :: b :: a :: b :: r) H k n | _ => False
theorem cr_dup2_ok (hx : p.tables.exec = Jvm.exec) (hb : c.code = cc) (hd : decode cc pc = .ok (.dup2, 1)) (hn : pc + 1 = nx) : cr_Snd p l e R s m args below meth c lo mc ms Q pc (cr_dup2 nx) := by
  subst hn
  intro K lv st H k n hK h ls locs hl hq
  match st, h with
  | a :: b :: r, h => exact lv_dup2_11 hx hb hd h.1 h.2.1 (hK _ _ _ _ _ _ h.2.2 ls locs hl hq)
def cr_dup2l (nx : Nat) : cr_T := fun K _ lv st H k n => match st with | a :: r => a.category = 2 ∧ K nx lv (a :: a :: r) H k n | _ => False
theorem cr_dup2l_ok (hx : p.tables.exec = Jvm.exec) (hb : c.code = cc) (hd : decode cc pc = .ok (.dup2, 1)) (hn : pc + 1 = nx) : cr_Snd p l e R s m args below meth c lo mc ms Q pc (cr_dup2l nx) := by
  subst hn
  intro K lv st H k n hK h ls locs hl hq
  match st, h with
  | a :: r, h => exact lv_dup2_2 hx hb hd h.1 (hK _ _ _ _ _ _ h.2 ls locs hl hq)
def cr_pop2l (nx : Nat) : cr_T := fun K _ lv st H k n => match st with | a :: r => a.category = 2 ∧ K nx lv (r) H k n | _ => False
theorem cr_pop2l_ok (hx : p.tables.exec = Jvm.exec) (hb : c.code = cc) (hd : decode cc pc = .ok (.pop2, 1)) (hn : pc + 1 = nx) : cr_Snd p l e R s m args below meth c lo mc ms Q pc (cr_pop2l nx) := by
  subst hn
  intro K lv st H k n hK h ls locs hl hq
  match st, h with
  | a :: r, h => exact lv_pop2_2 hx hb hd h.1 (hK _ _ _ _ _ _ h.2 ls locs hl hq)
def cr_ifeq (t nx : Nat) : cr_T := fun K _ lv st H k n => match st with | .int x :: r => (x = 0 → K t lv r H k n) ∧ (¬ x = 0 → K nx lv r H k n) | _ => False
theorem cr_ifeq_ok {off : Int} {t : Nat} (hx : p.tables.exec = Jvm.exec) (hb : c.code = cc) (hd : decode cc pc = .ok (.ifCond .eq off, 3)) (ht : (pc : Int) + off = (t : Int)) (hn : pc + 3 = nx) : cr_Snd p l e R s m args below meth c lo mc ms Q pc (cr_ifeq t nx) := by
  subst hn
  intro K lv st H k n hK h ls locs hl hq
  match st, h with
  | .int x :: r, h => exact lv_if_eq hx hb hd ht (fun z => hK _ _ _ _ _ _ (h.1 z) ls locs hl hq) (fun z => hK _ _ _ _ _ _ (h.2 z) ls locs hl hq)
def cr_iceq (t nx : Nat) : cr_T := fun K _ lv st H k n => match st with | .int y :: .int x :: r => (x = y → K t lv r H k n) ∧ (¬ x = y → K nx lv r H k n) | _ => False
theorem cr_iceq_ok {off : Int} {t : Nat} (hx : p.tables.exec = Jvm.exec) (hb : c.code = cc) (hd : decode cc pc = .ok (.if_icmp .eq off, 3)) (ht : (pc : Int) + off = (t : Int)) (hn : pc + 3 = nx) : cr_Snd p l e R s m args below meth c lo mc ms Q pc (cr_iceq t nx) := by
  subst hn
  intro K lv st H k n hK h ls locs hl hq
  match st, h with
  | .int y :: .int x :: r, h => exact lv_icmp_eq hx hb hd ht (fun z => hK _ _ _ _ _ _ (h.1 z) ls locs hl hq) (fun z => hK _ _ _ _ _ _ (h.2 z) ls locs hl hq)
def cr_iflt (t nx : Nat) : cr_T := fun K _ lv st H k n => match st with | .int x :: r => (x < 0 → K t lv r H k n) ∧ (¬ x < 0 → K nx lv r H k n) | _ => False
theorem cr_iflt_ok {off : Int} {t : Nat} (hx : p.tables.exec = Jvm.exec) (hb : c.code = cc) (hd : decode cc pc = .ok (.ifCond .lt off, 3)) (ht : (pc : Int) + off = (t : Int)) (hn : pc + 3 = nx) : cr_Snd p l e R s m args below meth c lo mc ms Q pc (cr_iflt t nx) := by
  subst hn
  intro K lv st H k n hK h ls locs hl hq
  match st, h with
  | .int x :: r, h => exact lv_if_lt hx hb hd ht (fun z => hK _ _ _ _ _ _ (h.1 z) ls locs hl hq) (fun z => hK _ _ _ _ _ _ (h.2 z) ls locs hl hq)
def cr_iclt (t nx : Nat) : cr_T := fun K _ lv st H k n => match st with | .int y :: .int x :: r => (x < y → K t lv r H k n) ∧ (¬ x < y → K nx lv r H k n) | _ => False
theorem cr_iclt_ok {off : Int} {t : Nat} (hx : p.tables.exec = Jvm.exec) (hb : c.code = cc) (hd : decode cc pc = .ok (.if_icmp .lt off, 3)) (ht : (pc : Int) + off = (t : Int)) (hn : pc + 3 = nx) : cr_Snd p l e R s m args below meth c lo mc ms Q pc (cr_iclt t nx) := by
  subst hn
  intro K lv st H k n hK h ls locs hl hq
  match st, h with
  | .int y :: .int x :: r, h => exact lv_icmp_lt hx hb hd ht (fun z => hK _ _ _ _ _ _ (h.1 z) ls locs hl hq) (fun z => hK _ _ _ _ _ _ (h.2 z) ls locs hl hq)
def cr_ifge (t nx : Nat) : cr_T := fun K _ lv st H k n => match st with | .int x :: r => (0 ≤ x → K t lv r H k n) ∧ (¬ 0 ≤ x → K nx lv r H k n) | _ => False
theorem cr_ifge_ok {off : Int} {t : Nat} (hx : p.tables.exec = Jvm.exec) (hb : c.code = cc) (hd : decode cc pc = .ok (.ifCond .ge off, 3)) (ht : (pc : Int) + off = (t : Int)) (hn : pc + 3 = nx) : cr_Snd p l e R s m args below meth c lo mc ms Q pc (cr_ifge t nx) := by
  subst hn
  intro K lv st H k n hK h ls locs hl hq
  match st, h with
  | .int x :: r, h => exact lv_if_ge hx hb hd ht (fun z => hK _ _ _ _ _ _ (h.1 z) ls locs hl hq) (fun z => hK _ _ _ _ _ _ (h.2 z) ls locs hl hq)
def cr_icge (t nx : Nat) : cr_T := fun K _ lv st H k n => match st with | .int y :: .int x :: r => (y ≤ x → K t lv r H k n) ∧ (¬ y ≤ x → K nx lv r H k n) | _ => False
theorem cr_icge_ok {off : Int} {t : Nat} (hx : p.tables.exec = Jvm.exec) (hb : c.code = cc) (hd : decode cc pc = .ok (.if_icmp .ge off, 3)) (ht : (pc : Int) + off = (t : Int)) (hn : pc + 3 = nx) : cr_Snd p l e R s m args below meth c lo mc ms Q pc (cr_icge t nx) := by
  subst hn
  intro K lv st H k n hK h ls locs hl hq
  match st, h with
  | .int y :: .int x :: r, h => exact lv_icmp_ge hx hb hd ht (fun z => hK _ _ _ _ _ _ (h.1 z) ls locs hl hq) (fun z => hK _ _ _ _ _ _ (h.2 z) ls locs hl hq)
def cr_ifgt (t nx : Nat) : cr_T := fun K _ lv st H k n => match st with | .int x :: r => (0 < x → K t lv r H k n) ∧ (¬ 0 < x → K nx lv r H k n) | _ => False
theorem cr_ifgt_ok {off : Int} {t : Nat} (hx : p.tables.exec = Jvm.exec) (hb : c.code = cc) (hd : decode cc pc = .ok (.ifCond .gt off, 3)) (ht : (pc : Int) + off = (t : Int)) (hn : pc + 3 = nx) : cr_Snd p l e R s m args below meth c lo mc ms Q pc (cr_ifgt t nx) := by
  subst hn
  intro K lv st H k n hK h ls locs hl hq
  match st, h with
  | .int x :: r, h => exact lv_if_gt hx hb hd ht (fun z => hK _ _ _ _ _ _ (h.1 z) ls locs hl hq) (fun z => hK _ _ _ _ _ _ (h.2 z) ls locs hl hq)
def cr_icgt (t nx : Nat) : cr_T := fun K _ lv st H k n => match st with | .int y :: .int x :: r => (y < x → K t lv r H k n) ∧ (¬ y < x → K nx lv r H k n) | _ => False
theorem cr_icgt_ok {off : Int} {t : Nat} (hx : p.tables.exec = Jvm.exec) (hb : c.code = cc) (hd : decode cc pc = .ok (.if_icmp .gt off, 3)) (ht : (pc : Int) + off = (t : Int)) (hn : pc + 3 = nx) : cr_Snd p l e R s m args below meth c lo mc ms Q pc (cr_icgt t nx) := by
  subst hn
  intro K lv st H k n hK h ls locs hl hq
  match st, h with
  | .int y :: .int x :: r, h => exact lv_icmp_gt hx hb hd ht (fun z => hK _ _ _ _ _ _ (h.1 z) ls locs hl hq) (fun z => hK _ _ _ _ _ _ (h.2 z) ls locs hl hq)
def cr_ifle (t nx : Nat) : cr_T := fun K _ lv st H k n => match st with | .int x :: r => (x ≤ 0 → K t lv r H k n) ∧ (¬ x ≤ 0 → K nx lv r H k n) | _ => False
theorem cr_ifle_ok {off : Int} {t : Nat} (hx : p.tables.exec = Jvm.exec) (hb : c.code = cc) (hd : decode cc pc = .ok (.ifCond .le off, 3)) (ht : (pc : Int) + off = (t : Int)) (hn : pc + 3 = nx) : cr_Snd p l e R s m args below meth c lo mc ms Q pc (cr_ifle t nx) := by
  subst hn
  intro K lv st H k n hK h ls locs hl hq
  match st, h with
  | .int x :: r, h => exact lv_if_le hx hb hd ht (fun z => hK _ _ _ _ _ _ (h.1 z) ls locs hl hq) (fun z => hK _ _ _ _ _ _ (h.2 z) ls locs hl hq)
def cr_icle (t nx : Nat) : cr_T := fun K _ lv st H k n => match st with | .int y :: .int x :: r => (x ≤ y → K t lv r H k n) ∧ (¬ x ≤ y → K nx lv r H k n) | _ => False
theorem cr_icle_ok {off : Int} {t : Nat} (hx : p.tables.exec = Jvm.exec) (hb : c.code = cc) (hd : decode cc pc = .ok (.if_icmp .le off, 3)) (ht : (pc : Int) + off = (t : Int)) (hn : pc + 3 = nx) : cr_Snd p l e R s m args below meth c lo mc ms Q pc (cr_icle t nx) := by
  subst hn
  intro K lv st H k n hK h ls locs hl hq
  match st, h with
  | .int y :: .int x :: r, h => exact lv_icmp_le hx hb hd ht (fun z => hK _ _ _ _ _ _ (h.1 z) ls locs hl hq) (fun z => hK _ _ _ _ _ _ (h.2 z) ls locs hl hq)
def cr_ifne (t nx : Nat) : cr_T := fun K _ lv st H k n => match st with | .int x :: r => (¬ x = 0 → K t lv r H k n) ∧ (x = 0 → K nx lv r H k n) | _ => False
theorem cr_ifne_ok {off : Int} {t : Nat} (hx : p.tables.exec = Jvm.exec) (hb : c.code = cc) (hd : decode cc pc = .ok (.ifCond .ne off, 3)) (ht : (pc : Int) + off = (t : Int)) (hn : pc + 3 = nx) : cr_Snd p l e R s m args below meth c lo mc ms Q pc (cr_ifne t nx) := by
  subst hn
  intro K lv st H k n hK h ls locs hl hq
  match st, h with
  | .int x :: r, h => exact lv_if_ne hx hb hd ht (fun z => hK _ _ _ _ _ _ (h.1 z) ls locs hl hq) (fun z => hK _ _ _ _ _ _ (h.2 z) ls locs hl hq)
def cr_icne (t nx : Nat) : cr_T := fun K _ lv st H k n => match st with | .int y :: .int x :: r => (¬ x = y → K t lv r H k n) ∧ (x = y → K nx lv r H k n) | _ => False
theorem cr_icne_ok {off : Int} {t : Nat} (hx : p.tables.exec = Jvm.exec) (hb : c.code = cc) (hd : decode cc pc = .ok (.if_icmp .ne off, 3)) (ht : (pc : Int) + off = (t : Int)) (hn : pc + 3 = nx) : cr_Snd p l e R s m args below meth c lo mc ms Q pc (cr_icne t nx) := by
  subst hn
  intro K lv st H k n hK h ls locs hl hq
  match st, h with
  | .int y :: .int x :: r, h => exact lv_icmp_ne hx hb hd ht (fun z => hK _ _ _ _ _ _ (h.1 z) ls locs hl hq) (fun z => hK _ _ _ _ _ _ (h.2 z) ls locs hl hq)
def cr_goto (t : Nat) : cr_T := fun K _ lv st H k n => K t lv st H k n
theorem cr_goto_ok {off : Int} {t : Nat} (hx : p.tables.exec = Jvm.exec) (hb : c.code = cc) (hd : decode cc pc = .ok (.goto off, 3)) (ht : (pc : Int) + off = (t : Int)) : cr_Snd p l e R s m args below meth c lo mc ms Q pc (cr_goto t) := by
  intro K lv st H k n hK h ls locs hl hq
  exact lv_goto hx hb hd ht (hK _ _ _ _ _ _ h ls locs hl hq)
def cr_acne (t nx : Nat) : cr_T := fun K _ lv st H k n => match st with | .ref y :: .ref x :: r => (¬ x = y → K t lv r H k n) ∧ (x = y → K nx lv r H k n) | _ => False
theorem cr_acne_ok {off : Int} {t : Nat} (hx : p.tables.exec = Jvm.exec) (hb : c.code = cc) (hd : decode cc pc = .ok (.if_acmp .ne off, 3)) (ht : (pc : Int) + off = (t : Int)) (hn : pc + 3 = nx) : cr_Snd p l e R s m args below meth c lo mc ms Q pc (cr_acne t nx) := by
  subst hn
  intro K lv st H k n hK h ls locs hl hq
  match st, h with
  | .ref y :: .ref x :: r, h => exact lv_acmp_ne (rx := some x) (ry := some y) hx hb hd ht (fun z => hK _ _ _ _ _ _ (h.1 (fun q => z (by rw [q]))) ls locs hl hq) (fun z => hK _ _ _ _ _ _ (h.2 (Option.some.inj z)) ls locs hl hq)
def cr_aceq (t nx : Nat) : cr_T := fun K _ lv st H k n => match st with | .ref y :: .ref x :: r => (x = y → K t lv r H k n) ∧ (¬ x = y → K nx lv r H k n) | _ => False
theorem cr_aceq_ok {off : Int} {t : Nat} (hx : p.tables.exec = Jvm.exec) (hb : c.code = cc) (hd : decode cc pc = .ok (.if_acmp .eq off, 3)) (ht : (pc : Int) + off = (t : Int)) (hn : pc + 3 = nx) : cr_Snd p l e R s m args below meth c lo mc ms Q pc (cr_aceq t nx) := by
  subst hn
  intro K lv st H k n hK h ls locs hl hq
  match st, h with
  | .ref y :: .ref x :: r, h => exact lv_acmp_eq (rx := some x) (ry := some y) hx hb hd ht (fun z => hK _ _ _ _ _ _ (h.1 (Option.some.inj z)) ls locs hl hq) (fun z => hK _ _ _ _ _ _ (h.2 (fun q => z (by rw [q]))) ls locs hl hq)
def cr_ifnull (t nx : Nat) : cr_T := fun K _ lv st H k n => match st with | .ref _ :: r => K nx lv r H k n | .null :: r => K t lv r H k n | _ => False
theorem cr_ifnull_ok {off : Int} {t : Nat} (hx : p.tables.exec = Jvm.exec) (hb : c.code = cc) (hd : decode cc pc = .ok (.ifnull off, 3)) (ht : (pc : Int) + off = (t : Int)) (hn : pc + 3 = nx) : cr_Snd p l e R s m args below meth c lo mc ms Q pc (cr_ifnull t nx) := by
  subst hn
  intro K lv st H k n hK h ls locs hl hq
  match st, h with
  | .ref x :: r, h => exact lv_ifnull hx hb hd (hK _ _ _ _ _ _ h ls locs hl hq)
  | .null :: r, h => exact lv_ifnullN hx hb hd ht (hK _ _ _ _ _ _ h ls locs hl hq)
def cr_ifnonnull (t nx : Nat) : cr_T := fun K _ lv st H k n => match st with | .ref _ :: r => K t lv r H k n | .null :: r => K nx lv r H k n | _ => False
theorem cr_ifnonnull_ok {off : Int} {t : Nat} (hx : p.tables.exec = Jvm.exec) (hb : c.code = cc) (hd : decode cc pc = .ok (.ifnonnull off, 3)) (ht : (pc : Int) + off = (t : Int)) (hn : pc + 3 = nx) : cr_Snd p l e R s m args below meth c lo mc ms Q pc (cr_ifnonnull t nx) := by
  subst hn
  intro K lv st H k n hK h ls locs hl hq
  match st, h with
  | .ref x :: r, h => exact lv_ifnonnull hx hb hd ht (hK _ _ _ _ _ _ h ls locs hl hq)
  | .null :: r, h => exact lv_ifnonnullN hx hb hd (hK _ _ _ _ _ _ h ls locs hl hq)
end CR1
