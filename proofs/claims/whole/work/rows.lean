section
/-! A LIGHT MACHINE over the kit's rows: one-step transformers in continuation form, each with its soundness; a method is a table of them. -/
abbrev cr_Oc : Type := Option Value ⊕ Nat
abbrev cr_Lv : Type := List (Option Value)
abbrev cr_K : Type := Nat → cr_Lv → List Value → Heap → Nat → Nat → Prop
abbrev cr_Q : Type := cr_Oc → Heap → Prop
abbrev cr_T : Type := cr_K → cr_Q → cr_Lv → List Value → Heap → Nat → Nat → Prop
/-- kinds of exceptions: 1 illegal argument, 2 illegal state -/
def cr_ex (k : Nat) : String := if k = 1 then "java/lang/IllegalArgumentException" else "java/lang/IllegalStateException"
def cr_Ex (k a : Nat) (U : State) (H : Heap) : Prop := ∃ cell : Cell, H[a]? = some cell ∧ cell.vm.isStatics = false ∧ U.vm.findClass (cr_ex k) = some cell.cls
def cr_O (Q : cr_Q) (s : State) (o : Outcome) (t : State) : Prop := (∃ v, o = .returned v ∧ Q (.inl v) t.heap) ∨ ∃ a k, o = .threw a ∧ cr_Ex k a s t.heap ∧ Q (.inr k) t.heap
def cr_FE (s t : State) (L : List Loc) (k n : Nat) : Prop := s.WarmedH t.vm ∧ s.sameButNew ({ t with vm := s.vm } : State) L k n
/-- what may be written: from lo on, and no statics' cell -/
def cr_lc (lo : Nat) (s : State) (a : Nat) : Prop := lo ≤ a ∧ ∀ cell : Cell, s.heap[a]? = some cell → cell.vm.isStatics = false
def cr_MQ (below : List Frame) (lo mc ms : Nat) (Q : cr_Q) (s : State) : State → Prop := fun t =>
  ∃ o, t.status = .running ∧ Ended t below o ∧ cr_O Q s o t ∧ ∃ L, cr_FE s t L mc ms ∧ ∀ q ∈ L, cr_lc lo s q.base
-- locals, by place
def cr_as : Nat → cr_Lv → List (Nat × Value)
  | _, [] => []
  | i, none :: t => cr_as (i + 1) t
  | i, some v :: t => (i, v) :: cr_as (i + 1) t
def cr_kl (x : Option Value) : Option Value := match x with
  | some (.long _) => none
  | some (.double _) => none
  | y => y
def cr_put : cr_Lv → Nat → Value → cr_Lv
  | [], _, _ => []
  | _ :: t, 0, v => some v :: t
  | x :: t, 1, v => cr_kl x :: cr_put t 0 v
  | x :: t, i + 2, v => x :: cr_put t (i + 1) v
def cr_put2 : cr_Lv → Nat → Value → cr_Lv
  | [], _, _ => []
  | [_], _, _ => []
  | _ :: _ :: t, 0, v => some v :: none :: t
  | x :: y :: t, 1, v => cr_kl x :: cr_put2 (y :: t) 0 v
  | x :: y :: t, i + 2, v => x :: cr_put2 (y :: t) (i + 1) v
def cr_L (ls : Array Slot) (lv : cr_Lv) : Prop := lv_has ls lv.length (cr_as 0 lv)
def cr_ld : cr_Lv → Nat → (Value → Prop) → Prop
  | [], _, _ => False
  | none :: _, 0, _ => False
  | some v :: _, 0, f => f v
  | _ :: t, i + 1, f => cr_ld t i f
def cr_nf : cr_Lv → (cr_Lv → Prop) → Prop
  | [], f => f []
  | none :: t, f => cr_nf t (fun t' => f (none :: t'))
  | some v :: t, f => cr_nf t (fun t' => f (some v :: t'))
theorem cr_nf_eq : ∀ (lv : cr_Lv) (f : cr_Lv → Prop), cr_nf lv f ↔ f lv
  | [], _ => Iff.rfl
  | none :: t, f => cr_nf_eq t (fun t' => f (none :: t'))
  | some v :: t, f => cr_nf_eq t (fun t' => f (some v :: t'))
theorem cr_ld_sp : ∀ {lv : cr_Lv} {i : Nat} {f : Value → Prop}, cr_ld lv i f → ∃ v, lv[i]? = some (some v) ∧ f v
  | [], _, _, h => False.elim h
  | none :: _, 0, _, h => False.elim h
  | some v :: _, 0, _, h => ⟨v, rfl, h⟩
  | none :: t, i + 1, f, h => by
    obtain ⟨v, h1, h2⟩ := cr_ld_sp (lv := t) (i := i) (f := f) h
    exact ⟨v, by simpa using h1, h2⟩
  | some _ :: t, i + 1, f, h => by
    obtain ⟨v, h1, h2⟩ := cr_ld_sp (lv := t) (i := i) (f := f) h
    exact ⟨v, by simpa using h1, h2⟩
theorem cr_as_in : ∀ (lv : cr_Lv) (b i : Nat) (v : Value), lv[i]? = some (some v) → (b + i, v) ∈ cr_as b lv
  | [], _, _, _, h => by simp at h
  | none :: t, b, 0, v, h => by simp at h
  | some w :: t, b, 0, v, h => by
    simp at h
    subst h
    exact List.mem_cons_self
  | none :: t, b, i + 1, v, h => by
    have h1 := cr_as_in t (b + 1) i v (by simpa using h)
    rw [show b + (i + 1) = b + 1 + i by omega]
    exact h1
  | some w :: t, b, i + 1, v, h => by
    have h1 := cr_as_in t (b + 1) i v (by simpa using h)
    rw [show b + (i + 1) = b + 1 + i by omega]
    exact List.mem_cons_of_mem _ h1
theorem cr_as_of : ∀ (lv : cr_Lv) (b : Nat) (q : Nat × Value), q ∈ cr_as b lv → ∃ i, q.1 = b + i ∧ lv[i]? = some (some q.2)
  | [], _, _, h => by cases h
  | none :: t, b, q, h => by
    obtain ⟨i, h1, h2⟩ := cr_as_of t (b + 1) q h
    exact ⟨i + 1, by omega, by simpa using h2⟩
  | some w :: t, b, q, h => by
    rcases List.mem_cons.mp h with rfl | h
    · exact ⟨0, rfl, rfl⟩
    · obtain ⟨i, h1, h2⟩ := cr_as_of t (b + 1) q h
      exact ⟨i + 1, by omega, by simpa using h2⟩
theorem cr_L.at {ls : Array Slot} {lv : cr_Lv} (h : cr_L ls lv) {i : Nat} {v : Value} (hv : lv[i]? = some (some v)) : ls[i]? = some (.val v) := by
  have h1 := h.2.2 (0 + i, v) (cr_as_in lv 0 i v hv)
  simpa using h1
theorem cr_L.size {ls : Array Slot} {lv : cr_Lv} (h : cr_L ls lv) : ls.size = lv.length := h.1
theorem cr_kl_sp {x : Option Value} {w : Value} (h : cr_kl x = some w) : x = some w ∧ w.category = 1 := by
  cases x with
  | none => simp [cr_kl] at h
  | some v => cases v <;> simp [cr_kl] at h <;> subst h <;> simp [Value.category]
theorem cr_put_len : ∀ (lv : cr_Lv) (i : Nat) (v : Value), (cr_put lv i v).length = lv.length
  | [], _, _ => rfl
  | _ :: t, 0, v => rfl
  | x :: t, 1, v => by simp [cr_put, cr_put_len t 0 v]
  | x :: t, i + 2, v => by simp [cr_put, cr_put_len t (i + 1) v]
theorem cr_put_sp : ∀ (lv : cr_Lv) (i : Nat) (v : Value) (j : Nat) (w : Value), (cr_put lv i v)[j]? = some (some w) → (j = i ∧ w = v) ∨ (lv[j]? = some (some w) ∧ j ≠ i ∧ ¬ (j + 1 = i ∧ w.category = 2))
  | [], _, _, j, w, h => by simp [cr_put] at h
  | x :: t, 0, v, 0, w, h => by
    simp [cr_put] at h
    exact Or.inl ⟨rfl, h.symm⟩
  | x :: t, 0, v, j + 1, w, h => by
    simp [cr_put] at h
    exact Or.inr ⟨by simpa using h, by omega, by omega⟩
  | x :: t, 1, v, 0, w, h => by
    simp [cr_put] at h
    obtain ⟨h1, h2⟩ := cr_kl_sp h
    exact Or.inr ⟨by simp [h1], by omega, by omega⟩
  | x :: t, 1, v, j + 1, w, h => by
    rcases cr_put_sp t 0 v j w (by simpa [cr_put] using h) with ⟨h1, h2⟩ | ⟨h1, h2, h3⟩
    · exact Or.inl ⟨by omega, h2⟩
    · exact Or.inr ⟨by simpa using h1, by omega, by omega⟩
  | x :: t, i + 2, v, 0, w, h => by
    simp [cr_put] at h
    exact Or.inr ⟨by simp [h], by omega, by omega⟩
  | x :: t, i + 2, v, j + 1, w, h => by
    rcases cr_put_sp t (i + 1) v j w (by simpa [cr_put] using h) with ⟨h1, h2⟩ | ⟨h1, h2, h3⟩
    · exact Or.inl ⟨by omega, h2⟩
    · exact Or.inr ⟨by simpa using h1, by omega, by omega⟩
theorem cr_L.put {ls' : Array Slot} {lv : cr_Lv} {i : Nat} {v : Value} (h : lv_has ls' lv.length ((i, v) :: (cr_as 0 lv).filter (fun q => !(q.1 == i) && !(q.1 + 1 == i && q.2.category == 2)))) : cr_L ls' (cr_put lv i v) := by
  refine ⟨by rw [cr_put_len]; exact h.1, h.2.1, fun q hq => ?_⟩
  obtain ⟨j, h1, h2⟩ := cr_as_of _ 0 q hq
  obtain ⟨j', w⟩ := q
  simp only [Nat.zero_add] at h1
  subst h1
  rcases cr_put_sp lv i v _ w h2 with ⟨g1, g2⟩ | ⟨g1, g2, g3⟩
  · subst g1; subst g2
    exact h.2.2 _ List.mem_cons_self
  · refine h.2.2 (_, w) (List.mem_cons_of_mem _ (List.mem_filter.mpr ⟨?_, ?_⟩))
    · have := cr_as_in lv 0 _ w g1
      simpa using this
    · simp only [Bool.and_eq_true, Bool.not_eq_true', beq_eq_false_iff_ne, ne_eq, Bool.and_eq_false_imp, beq_iff_eq]
      exact ⟨g2, fun a b => g3 ⟨a, b⟩⟩
theorem cr_put2_len : ∀ (lv : cr_Lv) (i : Nat) (v : Value), i + 1 < lv.length → (cr_put2 lv i v).length = lv.length
  | [], _, _, h => by simp at h
  | [_], _, _, h => by simp at h
  | _ :: _ :: t, 0, v, _ => rfl
  | x :: y :: t, 1, v, h => by simp [cr_put2, cr_put2_len (y :: t) 0 v (by simpa using h)]
  | x :: y :: t, i + 2, v, h => by
    have h9 := cr_put2_len (y :: t) (i + 1) v (by simp only [List.length_cons] at h ⊢; omega)
    simp only [List.length_cons] at h9
    simp [cr_put2, h9]
theorem cr_put2_sp : ∀ (lv : cr_Lv) (i : Nat) (v : Value) (j : Nat) (w : Value), (cr_put2 lv i v)[j]? = some (some w) → (j = i ∧ w = v) ∨ (lv[j]? = some (some w) ∧ j ≠ i ∧ j ≠ i + 1 ∧ ¬ (j + 1 = i ∧ w.category = 2))
  | [], _, _, j, w, h => by simp [cr_put2] at h
  | [_], _, _, j, w, h => by simp [cr_put2] at h
  | x :: y :: t, 0, v, 0, w, h => by
    simp [cr_put2] at h
    exact Or.inl ⟨rfl, h.symm⟩
  | x :: y :: t, 0, v, 1, w, h => by simp [cr_put2] at h
  | x :: y :: t, 0, v, j + 2, w, h => by
    simp [cr_put2] at h
    exact Or.inr ⟨by simpa using h, by omega, by omega, by omega⟩
  | x :: y :: t, 1, v, 0, w, h => by
    simp [cr_put2] at h
    obtain ⟨h1, h2⟩ := cr_kl_sp h
    exact Or.inr ⟨by simp [h1], by omega, by omega, by omega⟩
  | x :: y :: t, 1, v, j + 1, w, h => by
    rcases cr_put2_sp (y :: t) 0 v j w (by simpa [cr_put2] using h) with ⟨h1, h2⟩ | ⟨h1, h2, h3, h4⟩
    · exact Or.inl ⟨by omega, h2⟩
    · exact Or.inr ⟨by simpa using h1, by omega, by omega, by omega⟩
  | x :: y :: t, i + 2, v, 0, w, h => by
    simp [cr_put2] at h
    exact Or.inr ⟨by simp [h], by omega, by omega, by omega⟩
  | x :: y :: t, i + 2, v, j + 1, w, h => by
    rcases cr_put2_sp (y :: t) (i + 1) v j w (by simpa [cr_put2] using h) with ⟨h1, h2⟩ | ⟨h1, h2, h3, h4⟩
    · exact Or.inl ⟨by omega, h2⟩
    · exact Or.inr ⟨by simpa using h1, by omega, by omega, by omega⟩
theorem cr_L.put2 {ls' : Array Slot} {lv : cr_Lv} {i : Nat} {v : Value} (hi : i + 1 < lv.length) (h : lv_has ls' lv.length ((i, v) :: (cr_as 0 lv).filter (fun q => !(q.1 == i) && (!(q.1 == i + 1) && !(q.1 + 1 == i && q.2.category == 2))))) : cr_L ls' (cr_put2 lv i v) := by
  refine ⟨by rw [cr_put2_len lv i v hi]; exact h.1, h.2.1, fun q hq => ?_⟩
  obtain ⟨j, h1, h2⟩ := cr_as_of _ 0 q hq
  obtain ⟨j', w⟩ := q
  simp only [Nat.zero_add] at h1
  subst h1
  rcases cr_put2_sp lv i v _ w h2 with ⟨g1, g2⟩ | ⟨g1, g2, g3, g4⟩
  · subst g1; subst g2
    exact h.2.2 _ List.mem_cons_self
  · refine h.2.2 (_, w) (List.mem_cons_of_mem _ (List.mem_filter.mpr ⟨?_, ?_⟩))
    · have := cr_as_in lv 0 _ w g1
      simpa using this
    · simp only [Bool.and_eq_true, Bool.not_eq_true', beq_eq_false_iff_ne, ne_eq, Bool.and_eq_false_imp, beq_iff_eq]
      exact ⟨g2, g3, fun a b => g4 ⟨a, b⟩⟩
-- the judgement: from here the method comes to its end, with Q
def cr_G (p : Program) (l : Launch) (e : Env) (R : Room) (s : State) (m : MethodId) (args : Array Value) (below : List Frame) (meth : Method) (c : Code) (lo mc ms : Nat) (Q : cr_Q) : cr_K := fun pc lv st H k n =>
  ∀ (ls : Array Slot) (locs : List Loc), cr_L ls lv → (∀ q ∈ locs, cr_lc lo s q.base) → W p l e R s m args below meth c H locs k n (cr_MQ below lo mc ms Q s) (F0 m pc ls st)
def cr_Snd (p : Program) (l : Launch) (e : Env) (R : Room) (s : State) (m : MethodId) (args : Array Value) (below : List Frame) (meth : Method) (c : Code) (lo mc ms : Nat) (Q : cr_Q) (pc : Nat) (tr : cr_T) : Prop :=
  ∀ (K : cr_K) (lv : cr_Lv) (st : List Value) (H : Heap) (k n : Nat), (∀ pc lv st H k n, K pc lv st H k n → cr_G p l e R s m args below meth c lo mc ms Q pc lv st H k n) → tr K Q lv st H k n → cr_G p l e R s m args below meth c lo mc ms Q pc lv st H k n
-- a table and its run
def cr_lk : List (Nat × cr_T) → Nat → cr_T
  | [], _ => fun _ _ _ _ _ _ _ => False
  | e :: t, pc => cond (Nat.beq e.1 pc) e.2 (cr_lk t pc)
def cr_me : List Nat → Nat → Bool
  | [], _ => false
  | e :: t, pc => cond (Nat.beq e pc) true (cr_me t pc)
def cr_F (tb : List (Nat × cr_T)) (cut : List Nat) (K : cr_K) (Q : cr_Q) : Nat → cr_K
  | 0, pc, lv, st, H, k, n => K pc lv st H k n
  | f + 1, pc, lv, st, H, k, n => cond (cr_me cut pc) K (fun pc lv st H k n => cr_lk tb pc (cr_F tb cut K Q f) Q lv st H k n) pc lv st H k n
/-- the first step is not cut -/
def cr_F1 (tb : List (Nat × cr_T)) (cut : List Nat) (K : cr_K) (Q : cr_Q) (f : Nat) : cr_K := fun pc lv st H k n => cr_lk tb pc (cr_F tb cut K Q f) Q lv st H k n
section CR1
variable {p : Program} {l : Launch} {e : Env} {R : Room} {s : State} {m : MethodId} {args : Array Value} {below : List Frame} {meth : Method} {c : Code} {lo mc ms : Nat} {Q : cr_Q}
variable {cc : ByteArray} {pc nx : Nat}

theorem cr_lk_ok {K : cr_K} {lv : cr_Lv} {st : List Value} {H : Heap} {k n : Nat} (hK : ∀ pc lv st H k n, K pc lv st H k n → cr_G p l e R s m args below meth c lo mc ms Q pc lv st H k n) : ∀ (tb : List (Nat × cr_T)) (_ : ∀ x ∈ tb, cr_Snd p l e R s m args below meth c lo mc ms Q x.1 x.2) (pc : Nat), cr_lk tb pc K Q lv st H k n → cr_G p l e R s m args below meth c lo mc ms Q pc lv st H k n
  | [], _, _, h => False.elim h
  | x :: t, ht, pc, h => by
    unfold cr_lk at h
    cases hb : Nat.beq x.1 pc with
    | true =>
      rw [hb] at h
      have e1 : x.1 = pc := Nat.eq_of_beq_eq_true hb
      subst e1
      exact ht x List.mem_cons_self K lv st H k n hK h
    | false =>
      rw [hb] at h
      exact cr_lk_ok hK t (fun y hy => ht y (List.mem_cons_of_mem _ hy)) pc h
theorem cr_F_ok {tb : List (Nat × cr_T)} {cut : List Nat} {K : cr_K} (ht : ∀ x ∈ tb, cr_Snd p l e R s m args below meth c lo mc ms Q x.1 x.2) (hK : ∀ pc lv st H k n, K pc lv st H k n → cr_G p l e R s m args below meth c lo mc ms Q pc lv st H k n) : ∀ (f pc : Nat) (lv : cr_Lv) (st : List Value) (H : Heap) (k n : Nat), cr_F tb cut K Q f pc lv st H k n → cr_G p l e R s m args below meth c lo mc ms Q pc lv st H k n
  | 0, pc, lv, st, H, k, n, h => hK _ _ _ _ _ _ h
  | f + 1, pc, lv, st, H, k, n, h => by
    unfold cr_F at h
    cases hb : cr_me cut pc with
    | true =>
      rw [hb] at h
      exact hK _ _ _ _ _ _ h
    | false =>
      rw [hb] at h
      exact cr_lk_ok (cr_F_ok ht hK f) tb ht pc h
/-- HOW A PROOF BEGINS: for any K that the judgement gives, the table's run -/
theorem cr_vc {tb : List (Nat × cr_T)} (cut : List Nat) (f : Nat) {pc : Nat} {lv : cr_Lv} {st : List Value} {H : Heap} {k n : Nat} (ht : ∀ x ∈ tb, cr_Snd p l e R s m args below meth c lo mc ms Q x.1 x.2)
    (h : ∀ K : cr_K, (∀ pc lv st H k n, cr_G p l e R s m args below meth c lo mc ms Q pc lv st H k n → K pc lv st H k n) → cr_F1 tb cut K Q f pc lv st H k n) : cr_G p l e R s m args below meth c lo mc ms Q pc lv st H k n :=
  cr_lk_ok (cr_F_ok ht (fun _ _ _ _ _ _ h => h) f) tb ht pc (h _ (fun _ _ _ _ _ _ h => h))

def cr_iload (i nx : Nat) : cr_T := fun K _ lv st H k n => cr_ld lv i (fun v => match v with | .int x => K nx lv (.int x :: st) H k n | _ => False)
theorem cr_iload_n_ok {j : Fin 4} {i : Nat} (hx : p.tables.exec = Jvm.exec) (hb : c.code = cc) (hd : decode cc pc = .ok (.iload_n j, 1)) (hi : (j : Nat) = i) (hn : pc + 1 = nx) : cr_Snd p l e R s m args below meth c lo mc ms Q pc (cr_iload i nx) := by
  subst hn
  intro K lv st H k n hK h ls locs hl hq
  obtain ⟨v, hv, hf⟩ := cr_ld_sp h
  cases v with
  | int x => exact lv_iload_n hx hb hd hi (hl.at hv) (hK _ _ _ _ _ _ hf ls locs hl hq)
  | _ => exact False.elim hf
theorem cr_iload_ok {i : Nat} (hx : p.tables.exec = Jvm.exec) (hb : c.code = cc) (hd : decode cc pc = .ok (.iload i, 2)) (hn : pc + 2 = nx) : cr_Snd p l e R s m args below meth c lo mc ms Q pc (cr_iload i nx) := by
  subst hn
  intro K lv st H k n hK h ls locs hl hq
  obtain ⟨v, hv, hf⟩ := cr_ld_sp h
  cases v with
  | int x => exact lv_iload hx hb hd (hl.at hv) (hK _ _ _ _ _ _ hf ls locs hl hq)
  | _ => exact False.elim hf
def cr_aload (i nx : Nat) : cr_T := fun K _ lv st H k n => cr_ld lv i (fun v => match v with | .ref x => K nx lv (.ref x :: st) H k n | .null => K nx lv (.null :: st) H k n | _ => False)
theorem cr_aload_n_ok {j : Fin 4} {i : Nat} (hx : p.tables.exec = Jvm.exec) (hb : c.code = cc) (hd : decode cc pc = .ok (.aload_n j, 1)) (hi : (j : Nat) = i) (hn : pc + 1 = nx) : cr_Snd p l e R s m args below meth c lo mc ms Q pc (cr_aload i nx) := by
  subst hn
  intro K lv st H k n hK h ls locs hl hq
  obtain ⟨v, hv, hf⟩ := cr_ld_sp h
  cases v with
  | ref x => exact lv_aload_n hx hb hd hi (hl.at hv) (hK _ _ _ _ _ _ hf ls locs hl hq)
  | null => exact lv_aload_nN hx hb hd hi (hl.at hv) (hK _ _ _ _ _ _ hf ls locs hl hq)
  | _ => exact False.elim hf
theorem cr_aload_ok {i : Nat} (hx : p.tables.exec = Jvm.exec) (hb : c.code = cc) (hd : decode cc pc = .ok (.aload i, 2)) (hn : pc + 2 = nx) : cr_Snd p l e R s m args below meth c lo mc ms Q pc (cr_aload i nx) := by
  subst hn
  intro K lv st H k n hK h ls locs hl hq
  obtain ⟨v, hv, hf⟩ := cr_ld_sp h
  cases v with
  | ref x => exact lv_aload hx hb hd (hl.at hv) (hK _ _ _ _ _ _ hf ls locs hl hq)
  | null => exact lv_aloadN hx hb hd (hl.at hv) (hK _ _ _ _ _ _ hf ls locs hl hq)
  | _ => exact False.elim hf
def cr_lload (i nx : Nat) : cr_T := fun K _ lv st H k n => cr_ld lv i (fun v => match v with | .long x => K nx lv (.long x :: st) H k n | _ => False)
theorem cr_lload_n_ok {j : Fin 4} {i : Nat} (hx : p.tables.exec = Jvm.exec) (hb : c.code = cc) (hd : decode cc pc = .ok (.lload_n j, 1)) (hi : (j : Nat) = i) (hn : pc + 1 = nx) : cr_Snd p l e R s m args below meth c lo mc ms Q pc (cr_lload i nx) := by
  subst hn
  intro K lv st H k n hK h ls locs hl hq
  obtain ⟨v, hv, hf⟩ := cr_ld_sp h
  cases v with
  | long x => exact lv_lload_n hx hb hd hi (hl.at hv) (hK _ _ _ _ _ _ hf ls locs hl hq)
  | _ => exact False.elim hf
theorem cr_lload_ok {i : Nat} (hx : p.tables.exec = Jvm.exec) (hb : c.code = cc) (hd : decode cc pc = .ok (.lload i, 2)) (hn : pc + 2 = nx) : cr_Snd p l e R s m args below meth c lo mc ms Q pc (cr_lload i nx) := by
  subst hn
  intro K lv st H k n hK h ls locs hl hq
  obtain ⟨v, hv, hf⟩ := cr_ld_sp h
  cases v with
  | long x => exact lv_lload hx hb hd (hl.at hv) (hK _ _ _ _ _ _ hf ls locs hl hq)
  | _ => exact False.elim hf
def cr_istore (i nx : Nat) : cr_T := fun K _ lv st H k n => match st with | .int x :: r => i < lv.length ∧ cr_nf (cr_put lv i (.int x)) (fun lv' => K nx lv' r H k n) | _ => False
theorem cr_istore_n_ok {j : Fin 4} {i : Nat} (hx : p.tables.exec = Jvm.exec) (hb : c.code = cc) (hd : decode cc pc = .ok (.istore_n j, 1)) (hi : (j : Nat) = i) (hn : pc + 1 = nx) : cr_Snd p l e R s m args below meth c lo mc ms Q pc (cr_istore i nx) := by
  subst hn
  intro K lv st H k n hK h ls locs hl hq
  match st, h with
  | .int x :: r, h => exact lv_istore_n hx hb hd hi hl h.1 rfl (fun ls' hl' => hK _ _ _ _ _ _ ((cr_nf_eq _ _).mp h.2) ls' locs (cr_L.put hl') hq)
theorem cr_istore_ok {i : Nat} (hx : p.tables.exec = Jvm.exec) (hb : c.code = cc) (hd : decode cc pc = .ok (.istore i, 2)) (hn : pc + 2 = nx) : cr_Snd p l e R s m args below meth c lo mc ms Q pc (cr_istore i nx) := by
  subst hn
  intro K lv st H k n hK h ls locs hl hq
  match st, h with
  | .int x :: r, h => exact lv_istore hx hb hd hl h.1 rfl (fun ls' hl' => hK _ _ _ _ _ _ ((cr_nf_eq _ _).mp h.2) ls' locs (cr_L.put hl') hq)
def cr_astore (i nx : Nat) : cr_T := fun K _ lv st H k n => match st with | .ref x :: r => i < lv.length ∧ cr_nf (cr_put lv i (.ref x)) (fun lv' => K nx lv' r H k n) | .null :: r => i < lv.length ∧ cr_nf (cr_put lv i .null) (fun lv' => K nx lv' r H k n) | _ => False
theorem cr_astore_n_ok {j : Fin 4} {i : Nat} (hx : p.tables.exec = Jvm.exec) (hb : c.code = cc) (hd : decode cc pc = .ok (.astore_n j, 1)) (hi : (j : Nat) = i) (hn : pc + 1 = nx) : cr_Snd p l e R s m args below meth c lo mc ms Q pc (cr_astore i nx) := by
  subst hn
  intro K lv st H k n hK h ls locs hl hq
  match st, h with
  | .ref x :: r, h => exact lv_astore_n hx hb hd hi hl h.1 rfl (fun ls' hl' => hK _ _ _ _ _ _ ((cr_nf_eq _ _).mp h.2) ls' locs (cr_L.put hl') hq)
  | .null :: r, h => exact lv_astore_nN hx hb hd hi hl h.1 rfl (fun ls' hl' => hK _ _ _ _ _ _ ((cr_nf_eq _ _).mp h.2) ls' locs (cr_L.put hl') hq)
theorem cr_astore_ok {i : Nat} (hx : p.tables.exec = Jvm.exec) (hb : c.code = cc) (hd : decode cc pc = .ok (.astore i, 2)) (hn : pc + 2 = nx) : cr_Snd p l e R s m args below meth c lo mc ms Q pc (cr_astore i nx) := by
  subst hn
  intro K lv st H k n hK h ls locs hl hq
  match st, h with
  | .ref x :: r, h => exact lv_astore hx hb hd hl h.1 rfl (fun ls' hl' => hK _ _ _ _ _ _ ((cr_nf_eq _ _).mp h.2) ls' locs (cr_L.put hl') hq)
  | .null :: r, h => exact lv_astoreN hx hb hd hl h.1 rfl (fun ls' hl' => hK _ _ _ _ _ _ ((cr_nf_eq _ _).mp h.2) ls' locs (cr_L.put hl') hq)
def cr_lstore (i nx : Nat) : cr_T := fun K _ lv st H k n => match st with | .long x :: r => i + 1 < lv.length ∧ cr_nf (cr_put2 lv i (.long x)) (fun lv' => K nx lv' r H k n) | _ => False
theorem cr_lstore_n_ok {j : Fin 4} {i : Nat} (hx : p.tables.exec = Jvm.exec) (hb : c.code = cc) (hd : decode cc pc = .ok (.lstore_n j, 1)) (hi : (j : Nat) = i) (hn : pc + 1 = nx) : cr_Snd p l e R s m args below meth c lo mc ms Q pc (cr_lstore i nx) := by
  subst hn
  intro K lv st H k n hK h ls locs hl hq
  match st, h with
  | .long x :: r, h => exact lv_lstore_n hx hb hd hi hl h.1 rfl (fun ls' hl' => hK _ _ _ _ _ _ ((cr_nf_eq _ _).mp h.2) ls' locs (cr_L.put2 h.1 hl') hq)
theorem cr_lstore_ok {i : Nat} (hx : p.tables.exec = Jvm.exec) (hb : c.code = cc) (hd : decode cc pc = .ok (.lstore i, 2)) (hn : pc + 2 = nx) : cr_Snd p l e R s m args below meth c lo mc ms Q pc (cr_lstore i nx) := by
  subst hn
  intro K lv st H k n hK h ls locs hl hq
  match st, h with
  | .long x :: r, h => exact lv_lstore hx hb hd hl h.1 rfl (fun ls' hl' => hK _ _ _ _ _ _ ((cr_nf_eq _ _).mp h.2) ls' locs (cr_L.put2 h.1 hl') hq)
def cr_iinc (i : Nat) (z : Int32) (nx : Nat) : cr_T := fun K _ lv st H k n => i < lv.length ∧ cr_ld lv i (fun v => match v with | .int x => cr_nf (cr_put lv i (.int (x + z))) (fun lv' => K nx lv' st H k n) | _ => False)
theorem cr_iinc_ok {i : Nat} {z : Int32} {zi : Int} (hx : p.tables.exec = Jvm.exec) (hb : c.code = cc) (hd : decode cc pc = .ok (.iinc i zi, 3)) (hz : Int32.ofInt zi = z) (hn : pc + 3 = nx) : cr_Snd p l e R s m args below meth c lo mc ms Q pc (cr_iinc i z nx) := by
  subst hn; subst hz
  intro K lv st H k n hK h ls locs hl hq
  obtain ⟨hi, h⟩ := h
  obtain ⟨v, hv, hf⟩ := cr_ld_sp h
  cases v with
  | int x =>
    have hm := cr_as_in lv 0 i (.int x) hv
    rw [Nat.zero_add] at hm
    obtain ⟨k9, hk9⟩ := List.getElem?_of_mem hm
    exact lv_iinc hx hb hd hl (k := k9) hk9 rfl hi rfl (fun ls' hl' => hK _ _ _ _ _ _ ((cr_nf_eq _ _).mp hf) ls' locs (cr_L.put hl') hq)
  | _ => exact False.elim hf
def cr_push (v : Value) (nx : Nat) : cr_T := fun K _ lv st H k n => K nx lv (v :: st) H k n
theorem cr_iconst_ok (hx : p.tables.exec = Jvm.exec) (hb : c.code = cc) {z : Int} {v : Int32} (hd : decode cc pc = .ok (.iconst z, 1)) (hz : Int32.ofInt z = v) (hn : pc + 1 = nx) : cr_Snd p l e R s m args below meth c lo mc ms Q pc (cr_push (.int v) nx) := by
  subst hn
  intro K lv st H k n hK h ls locs hl hq
  exact lv_iconst hx hb hd hz (hK _ _ _ _ _ _ h ls locs hl hq)
theorem cr_bipush_ok (hx : p.tables.exec = Jvm.exec) (hb : c.code = cc) {z : Int} {v : Int32} (hd : decode cc pc = .ok (.bipush z, 2)) (hz : (Int8.ofInt z).toInt32 = v) (hn : pc + 2 = nx) : cr_Snd p l e R s m args below meth c lo mc ms Q pc (cr_push (.int v) nx) := by
  subst hn
  intro K lv st H k n hK h ls locs hl hq
  exact lv_bipush hx hb hd hz (hK _ _ _ _ _ _ h ls locs hl hq)
theorem cr_sipush_ok (hx : p.tables.exec = Jvm.exec) (hb : c.code = cc) {z : Int} {v : Int32} (hd : decode cc pc = .ok (.sipush z, 3)) (hz : (Int16.ofInt z).toInt32 = v) (hn : pc + 3 = nx) : cr_Snd p l e R s m args below meth c lo mc ms Q pc (cr_push (.int v) nx) := by
  subst hn
  intro K lv st H k n hK h ls locs hl hq
  exact lv_sipush hx hb hd hz (hK _ _ _ _ _ _ h ls locs hl hq)
theorem cr_lconst_ok (hx : p.tables.exec = Jvm.exec) (hb : c.code = cc) {z : Fin 2} {v : Int64} (hd : decode cc pc = .ok (.lconst z, 1)) (hz : Int64.ofNat (z : Nat) = v) (hn : pc + 1 = nx) : cr_Snd p l e R s m args below meth c lo mc ms Q pc (cr_push (.long v) nx) := by
  subst hn
  intro K lv st H k n hK h ls locs hl hq
  exact lv_lconst hx hb hd hz (hK _ _ _ _ _ _ h ls locs hl hq)
theorem cr_ldc_ok (hx : p.tables.exec = Jvm.exec) (hb : c.code = cc) {own : String} {index : Nat} {v : Int32} (hown : s.vm.findClass own = some m.cls) (hc : (Jvm.Cond.constant own index v).before args s = true) (hd : decode cc pc = .ok (.ldc index, 2)) (hn : pc + 2 = nx) : cr_Snd p l e R s m args below meth c lo mc ms Q pc (cr_push (.int v) nx) := by
  subst hn
  intro K lv st H k n hK h ls locs hl hq
  exact lv_ldc hx hb hown hc hd (hK _ _ _ _ _ _ h ls locs hl hq)
theorem cr_ldcw_ok (hx : p.tables.exec = Jvm.exec) (hb : c.code = cc) {own : String} {index : Nat} {v : Int32} (hown : s.vm.findClass own = some m.cls) (hc : (Jvm.Cond.constant own index v).before args s = true) (hd : decode cc pc = .ok (.ldc_w index, 3)) (hn : pc + 3 = nx) : cr_Snd p l e R s m args below meth c lo mc ms Q pc (cr_push (.int v) nx) := by
  subst hn
  intro K lv st H k n hK h ls locs hl hq
  exact lv_ldcw hx hb hown hc hd (hK _ _ _ _ _ _ h ls locs hl hq)
theorem cr_null_ok (hx : p.tables.exec = Jvm.exec) (hb : c.code = cc) (hd : decode cc pc = .ok (.aconst_null, 1)) (hn : pc + 1 = nx) : cr_Snd p l e R s m args below meth c lo mc ms Q pc (cr_push .null nx) := by
  subst hn
  intro K lv st H k n hK h ls locs hl hq
  exact lv_null hx hb hd (hK _ _ _ _ _ _ h ls locs hl hq)
def cr_iadd (nx : Nat) : cr_T := fun K _ lv st H k n => match st with | .int y :: .int x :: r => K nx lv (.int (x + y) :: r) H k n | _ => False
theorem cr_iadd_ok (hx : p.tables.exec = Jvm.exec) (hb : c.code = cc) (hd : decode cc pc = .ok (.iadd, 1)) (hn : pc + 1 = nx) : cr_Snd p l e R s m args below meth c lo mc ms Q pc (cr_iadd nx) := by
  subst hn
  intro K lv st H k n hK h ls locs hl hq
  match st, h with
  | .int y :: .int x :: r, h => exact lv_iadd hx hb hd (hK _ _ _ _ _ _ h ls locs hl hq)
def cr_isub (nx : Nat) : cr_T := fun K _ lv st H k n => match st with | .int y :: .int x :: r => K nx lv (.int (x - y) :: r) H k n | _ => False
theorem cr_isub_ok (hx : p.tables.exec = Jvm.exec) (hb : c.code = cc) (hd : decode cc pc = .ok (.isub, 1)) (hn : pc + 1 = nx) : cr_Snd p l e R s m args below meth c lo mc ms Q pc (cr_isub nx) := by
  subst hn
  intro K lv st H k n hK h ls locs hl hq
  match st, h with
  | .int y :: .int x :: r, h => exact lv_isub hx hb hd (hK _ _ _ _ _ _ h ls locs hl hq)
def cr_imul (nx : Nat) : cr_T := fun K _ lv st H k n => match st with | .int y :: .int x :: r => K nx lv (.int (x * y) :: r) H k n | _ => False
theorem cr_imul_ok (hx : p.tables.exec = Jvm.exec) (hb : c.code = cc) (hd : decode cc pc = .ok (.imul, 1)) (hn : pc + 1 = nx) : cr_Snd p l e R s m args below meth c lo mc ms Q pc (cr_imul nx) := by
  subst hn
  intro K lv st H k n hK h ls locs hl hq
  match st, h with
  | .int y :: .int x :: r, h => exact lv_imul hx hb hd (hK _ _ _ _ _ _ h ls locs hl hq)
def cr_iand (nx : Nat) : cr_T := fun K _ lv st H k n => match st with | .int y :: .int x :: r => K nx lv (.int (x &&& y) :: r) H k n | _ => False
theorem cr_iand_ok (hx : p.tables.exec = Jvm.exec) (hb : c.code = cc) (hd : decode cc pc = .ok (.iand, 1)) (hn : pc + 1 = nx) : cr_Snd p l e R s m args below meth c lo mc ms Q pc (cr_iand nx) := by
  subst hn
  intro K lv st H k n hK h ls locs hl hq
  match st, h with
  | .int y :: .int x :: r, h => exact lv_iand hx hb hd (hK _ _ _ _ _ _ h ls locs hl hq)
def cr_ior (nx : Nat) : cr_T := fun K _ lv st H k n => match st with | .int y :: .int x :: r => K nx lv (.int (x ||| y) :: r) H k n | _ => False
theorem cr_ior_ok (hx : p.tables.exec = Jvm.exec) (hb : c.code = cc) (hd : decode cc pc = .ok (.ior, 1)) (hn : pc + 1 = nx) : cr_Snd p l e R s m args below meth c lo mc ms Q pc (cr_ior nx) := by
  subst hn
  intro K lv st H k n hK h ls locs hl hq
  match st, h with
  | .int y :: .int x :: r, h => exact lv_ior hx hb hd (hK _ _ _ _ _ _ h ls locs hl hq)
def cr_ixor (nx : Nat) : cr_T := fun K _ lv st H k n => match st with | .int y :: .int x :: r => K nx lv (.int (x ^^^ y) :: r) H k n | _ => False
theorem cr_ixor_ok (hx : p.tables.exec = Jvm.exec) (hb : c.code = cc) (hd : decode cc pc = .ok (.ixor, 1)) (hn : pc + 1 = nx) : cr_Snd p l e R s m args below meth c lo mc ms Q pc (cr_ixor nx) := by
  subst hn
  intro K lv st H k n hK h ls locs hl hq
  match st, h with
  | .int y :: .int x :: r, h => exact lv_ixor hx hb hd (hK _ _ _ _ _ _ h ls locs hl hq)
def cr_ishl (nx : Nat) : cr_T := fun K _ lv st H k n => match st with | .int y :: .int x :: r => K nx lv (.int (x <<< (y &&& 31)) :: r) H k n | _ => False
theorem cr_ishl_ok (hx : p.tables.exec = Jvm.exec) (hb : c.code = cc) (hd : decode cc pc = .ok (.ishl, 1)) (hn : pc + 1 = nx) : cr_Snd p l e R s m args below meth c lo mc ms Q pc (cr_ishl nx) := by
  subst hn
  intro K lv st H k n hK h ls locs hl hq
  match st, h with
  | .int y :: .int x :: r, h => exact lv_ishl hx hb hd (hK _ _ _ _ _ _ h ls locs hl hq)
def cr_ishr (nx : Nat) : cr_T := fun K _ lv st H k n => match st with | .int y :: .int x :: r => K nx lv (.int (x >>> (y &&& 31)) :: r) H k n | _ => False
theorem cr_ishr_ok (hx : p.tables.exec = Jvm.exec) (hb : c.code = cc) (hd : decode cc pc = .ok (.ishr, 1)) (hn : pc + 1 = nx) : cr_Snd p l e R s m args below meth c lo mc ms Q pc (cr_ishr nx) := by
  subst hn
  intro K lv st H k n hK h ls locs hl hq
  match st, h with
  | .int y :: .int x :: r, h => exact lv_ishr hx hb hd (hK _ _ _ _ _ _ h ls locs hl hq)
def cr_iushr (nx : Nat) : cr_T := fun K _ lv st H k n => match st with | .int y :: .int x :: r => K nx lv (.int (x.toUInt32 >>> (y.toUInt32 &&& Int32.toUInt32 31)).toInt32 :: r) H k n | _ => False
theorem cr_iushr_ok (hx : p.tables.exec = Jvm.exec) (hb : c.code = cc) (hd : decode cc pc = .ok (.iushr, 1)) (hn : pc + 1 = nx) : cr_Snd p l e R s m args below meth c lo mc ms Q pc (cr_iushr nx) := by
  subst hn
  intro K lv st H k n hK h ls locs hl hq
  match st, h with
  | .int y :: .int x :: r, h => exact lv_iushr hx hb hd rfl (hK _ _ _ _ _ _ h ls locs hl hq)
def cr_idiv (nx : Nat) : cr_T := fun K _ lv st H k n => match st with | .int y :: .int x :: r => ¬ y = 0 ∧ K nx lv (.int (x / y) :: r) H k n | _ => False
theorem cr_idiv_ok (hx : p.tables.exec = Jvm.exec) (hb : c.code = cc) (hd : decode cc pc = .ok (.idiv, 1)) (hn : pc + 1 = nx) : cr_Snd p l e R s m args below meth c lo mc ms Q pc (cr_idiv nx) := by
  subst hn
  intro K lv st H k n hK h ls locs hl hq
  match st, h with
  | .int y :: .int x :: r, h => exact lv_idiv hx hb hd h.1 (hK _ _ _ _ _ _ h.2 ls locs hl hq)
def cr_irem (nx : Nat) : cr_T := fun K _ lv st H k n => match st with | .int y :: .int x :: r => ¬ y = 0 ∧ K nx lv (.int (x - x / y * y) :: r) H k n | _ => False
theorem cr_irem_ok (hx : p.tables.exec = Jvm.exec) (hb : c.code = cc) (hd : decode cc pc = .ok (.irem, 1)) (hn : pc + 1 = nx) : cr_Snd p l e R s m args below meth c lo mc ms Q pc (cr_irem nx) := by
  subst hn
  intro K lv st H k n hK h ls locs hl hq
  match st, h with
  | .int y :: .int x :: r, h => exact lv_irem hx hb hd h.1 (hK _ _ _ _ _ _ h.2 ls locs hl hq)
def cr_ladd (nx : Nat) : cr_T := fun K _ lv st H k n => match st with | .long y :: .long x :: r => K nx lv (.long (x + y) :: r) H k n | _ => False
theorem cr_ladd_ok (hx : p.tables.exec = Jvm.exec) (hb : c.code = cc) (hd : decode cc pc = .ok (.ladd, 1)) (hn : pc + 1 = nx) : cr_Snd p l e R s m args below meth c lo mc ms Q pc (cr_ladd nx) := by
  subst hn
  intro K lv st H k n hK h ls locs hl hq
  match st, h with
  | .long y :: .long x :: r, h => exact lv_ladd hx hb hd (hK _ _ _ _ _ _ h ls locs hl hq)
def cr_lsub (nx : Nat) : cr_T := fun K _ lv st H k n => match st with | .long y :: .long x :: r => K nx lv (.long (x - y) :: r) H k n | _ => False
theorem cr_lsub_ok (hx : p.tables.exec = Jvm.exec) (hb : c.code = cc) (hd : decode cc pc = .ok (.lsub, 1)) (hn : pc + 1 = nx) : cr_Snd p l e R s m args below meth c lo mc ms Q pc (cr_lsub nx) := by
  subst hn
  intro K lv st H k n hK h ls locs hl hq
  match st, h with
  | .long y :: .long x :: r, h => exact lv_lsub hx hb hd (hK _ _ _ _ _ _ h ls locs hl hq)
def cr_land (nx : Nat) : cr_T := fun K _ lv st H k n => match st with | .long y :: .long x :: r => K nx lv (.long (x &&& y) :: r) H k n | _ => False
theorem cr_land_ok (hx : p.tables.exec = Jvm.exec) (hb : c.code = cc) (hd : decode cc pc = .ok (.land, 1)) (hn : pc + 1 = nx) : cr_Snd p l e R s m args below meth c lo mc ms Q pc (cr_land nx) := by
  subst hn
  intro K lv st H k n hK h ls locs hl hq
  match st, h with
  | .long y :: .long x :: r, h => exact lv_land hx hb hd (hK _ _ _ _ _ _ h ls locs hl hq)
def cr_lor (nx : Nat) : cr_T := fun K _ lv st H k n => match st with | .long y :: .long x :: r => K nx lv (.long (x ||| y) :: r) H k n | _ => False
theorem cr_lor_ok (hx : p.tables.exec = Jvm.exec) (hb : c.code = cc) (hd : decode cc pc = .ok (.lor, 1)) (hn : pc + 1 = nx) : cr_Snd p l e R s m args below meth c lo mc ms Q pc (cr_lor nx) := by
  subst hn
  intro K lv st H k n hK h ls locs hl hq
  match st, h with
  | .long y :: .long x :: r, h => exact lv_lor hx hb hd (hK _ _ _ _ _ _ h ls locs hl hq)
def cr_lxor (nx : Nat) : cr_T := fun K _ lv st H k n => match st with | .long y :: .long x :: r => K nx lv (.long (x ^^^ y) :: r) H k n | _ => False
theorem cr_lxor_ok (hx : p.tables.exec = Jvm.exec) (hb : c.code = cc) (hd : decode cc pc = .ok (.lxor, 1)) (hn : pc + 1 = nx) : cr_Snd p l e R s m args below meth c lo mc ms Q pc (cr_lxor nx) := by
  subst hn
  intro K lv st H k n hK h ls locs hl hq
  match st, h with
  | .long y :: .long x :: r, h => exact lv_lxor hx hb hd (hK _ _ _ _ _ _ h ls locs hl hq)
def cr_lshl (nx : Nat) : cr_T := fun K _ lv st H k n => match st with | .int y :: .long x :: r => K nx lv (.long (x <<< (y.toInt64 &&& 63)) :: r) H k n | _ => False
theorem cr_lshl_ok (hx : p.tables.exec = Jvm.exec) (hb : c.code = cc) (hd : decode cc pc = .ok (.lshl, 1)) (hn : pc + 1 = nx) : cr_Snd p l e R s m args below meth c lo mc ms Q pc (cr_lshl nx) := by
  subst hn
  intro K lv st H k n hK h ls locs hl hq
  match st, h with
  | .int y :: .long x :: r, h => exact lv_lshl hx hb hd rfl (hK _ _ _ _ _ _ h ls locs hl hq)
def cr_lushr (nx : Nat) : cr_T := fun K _ lv st H k n => match st with | .int y :: .long x :: r => K nx lv (.long (x.toUInt64 >>> (y.toInt64.toUInt64 &&& Int64.toUInt64 63)).toInt64 :: r) H k n | _ => False
theorem cr_lushr_ok (hx : p.tables.exec = Jvm.exec) (hb : c.code = cc) (hd : decode cc pc = .ok (.lushr, 1)) (hn : pc + 1 = nx) : cr_Snd p l e R s m args below meth c lo mc ms Q pc (cr_lushr nx) := by
  subst hn
  intro K lv st H k n hK h ls locs hl hq
  match st, h with
  | .int y :: .long x :: r, h => exact lv_lushr hx hb hd rfl (hK _ _ _ _ _ _ h ls locs hl hq)
def cr_lcmp (nx : Nat) : cr_T := fun K _ lv st H k n => match st with | .long y :: .long x :: r => K nx lv (.int (lg_cmp x y) :: r) H k n | _ => False
theorem cr_lcmp_ok (hx : p.tables.exec = Jvm.exec) (hb : c.code = cc) (hd : decode cc pc = .ok (.lcmp, 1)) (hn : pc + 1 = nx) : cr_Snd p l e R s m args below meth c lo mc ms Q pc (cr_lcmp nx) := by
  subst hn
  intro K lv st H k n hK h ls locs hl hq
  match st, h with
  | .long y :: .long x :: r, h => exact W.lcmp hx hb hd (hK _ _ _ _ _ _ h ls locs hl hq)
def cr_ineg (nx : Nat) : cr_T := fun K _ lv st H k n => match st with | .int x :: r => K nx lv (.int (-x) :: r) H k n | _ => False
theorem cr_ineg_ok (hx : p.tables.exec = Jvm.exec) (hb : c.code = cc) (hd : decode cc pc = .ok (.ineg, 1)) (hn : pc + 1 = nx) : cr_Snd p l e R s m args below meth c lo mc ms Q pc (cr_ineg nx) := by
  subst hn
  intro K lv st H k n hK h ls locs hl hq
  match st, h with
  | .int x :: r, h => exact lv_ineg hx hb hd (hK _ _ _ _ _ _ h ls locs hl hq)
def cr_i2l (nx : Nat) : cr_T := fun K _ lv st H k n => match st with | .int x :: r => K nx lv (.long x.toInt64 :: r) H k n | _ => False
theorem cr_i2l_ok (hx : p.tables.exec = Jvm.exec) (hb : c.code = cc) (hd : decode cc pc = .ok (.i2l, 1)) (hn : pc + 1 = nx) : cr_Snd p l e R s m args below meth c lo mc ms Q pc (cr_i2l nx) := by
  subst hn
  intro K lv st H k n hK h ls locs hl hq
  match st, h with
  | .int x :: r, h => exact lv_i2l hx hb hd rfl (hK _ _ _ _ _ _ h ls locs hl hq)
def cr_l2i (nx : Nat) : cr_T := fun K _ lv st H k n => match st with | .long x :: r => K nx lv (.int x.toInt32 :: r) H k n | _ => False
theorem cr_l2i_ok (hx : p.tables.exec = Jvm.exec) (hb : c.code = cc) (hd : decode cc pc = .ok (.l2i, 1)) (hn : pc + 1 = nx) : cr_Snd p l e R s m args below meth c lo mc ms Q pc (cr_l2i nx) := by
  subst hn
  intro K lv st H k n hK h ls locs hl hq
  match st, h with
  | .long x :: r, h => exact lv_l2i hx hb hd rfl (hK _ _ _ _ _ _ h ls locs hl hq)
def cr_dup (nx : Nat) : cr_T := fun K _ lv st H k n => match st with | a :: r => a.category = 1 ∧ K nx lv (a :: a :: r) H k n | _ => False
theorem cr_dup_ok (hx : p.tables.exec = Jvm.exec) (hb : c.code = cc) (hd : decode cc pc = .ok (.dup, 1)) (hn : pc + 1 = nx) : cr_Snd p l e R s m args below meth c lo mc ms Q pc (cr_dup nx) := by
  subst hn
  intro K lv st H k n hK h ls locs hl hq
  match st, h with
  | a :: r, h => exact lv_dup hx hb hd h.1 (hK _ _ _ _ _ _ h.2 ls locs hl hq)
def cr_pop (nx : Nat) : cr_T := fun K _ lv st H k n => match st with | a :: r => a.category = 1 ∧ K nx lv (r) H k n | _ => False
theorem cr_pop_ok (hx : p.tables.exec = Jvm.exec) (hb : c.code = cc) (hd : decode cc pc = .ok (.pop, 1)) (hn : pc + 1 = nx) : cr_Snd p l e R s m args below meth c lo mc ms Q pc (cr_pop nx) := by
  subst hn
  intro K lv st H k n hK h ls locs hl hq
  match st, h with
  | a :: r, h => exact lv_pop hx hb hd h.1 (hK _ _ _ _ _ _ h.2 ls locs hl hq)
def cr_dup_x1 (nx : Nat) : cr_T := fun K _ lv st H k n => match st with | a :: b :: r => a.category = 1 ∧ b.category = 1 ∧ K nx lv (a :: b :: a :: r) H k n | _ => False
theorem cr_dup_x1_ok (hx : p.tables.exec = Jvm.exec) (hb : c.code = cc) (hd : decode cc pc = .ok (.dup_x1, 1)) (hn : pc + 1 = nx) : cr_Snd p l e R s m args below meth c lo mc ms Q pc (cr_dup_x1 nx) := by
  subst hn
  intro K lv st H k n hK h ls locs hl hq
  match st, h with
  | a :: b :: r, h => exact lv_dup_x1 hx hb hd h.1 h.2.1 (hK _ _ _ _ _ _ h.2.2 ls locs hl hq)
def cr_dup_x2 (nx : Nat) : cr_T := fun K _ lv st H k n => match st with | a :: b :: d :: r => a.category = 1 ∧ b.category = 1 ∧ d.category = 1 ∧ K nx lv (a :: b :: d :: a :: r) H k n | _ => False
theorem cr_dup_x2_ok (hx : p.tables.exec = Jvm.exec) (hb : c.code = cc) (hd : decode cc pc = .ok (.dup_x2, 1)) (hn : pc + 1 = nx) : cr_Snd p l e R s m args below meth c lo mc ms Q pc (cr_dup_x2 nx) := by
  subst hn
  intro K lv st H k n hK h ls locs hl hq
  match st, h with
  | a :: b :: d :: r, h => exact lv_dup_x2 hx hb hd h.1 h.2.1 h.2.2.1 (hK _ _ _ _ _ _ h.2.2.2 ls locs hl hq)
def cr_dup2 (nx : Nat) : cr_T := fun K _ lv st H k n => match st with | a :: b :: r => a.category = 1 ∧ b.category = 1 ∧ K nx lv (a :: b :: a :: b :: r) H k n | _ => False
theorem cr_dup2_ok (hx : p.tables.exec = Jvm.exec) (hb : c.code = cc) (hd : decode cc pc = .ok (.dup2, 1)) (hn : pc + 1 = nx) : cr_Snd p l e R s m args below meth c lo mc ms Q pc (cr_dup2 nx) := by
  subst hn
  intro K lv st H k n hK h ls locs hl hq
  match st, h with
  | a :: b :: r, h => exact lv_dup2_11 hx hb hd h.1 h.2.1 (hK _ _ _ _ _ _ h.2.2 ls locs hl hq)
def cr_dup2l (nx : Nat) : cr_T := fun K _ lv st H k n => match st with | a :: r => a.category = 2 ∧ K nx lv (a :: a :: r) H k n | _ => False
theorem cr_dup2l_ok (hx : p.tables.exec = Jvm.exec) (hb : c.code = cc) (hd : decode cc pc = .ok (.dup2, 1)) (hn : pc + 1 = nx) : cr_Snd p l e R s m args below meth c lo mc ms Q pc (cr_dup2l nx) := by
  subst hn
  intro K lv st H k n hK h ls locs hl hq
  match st, h with
  | a :: r, h => exact lv_dup2_2 hx hb hd h.1 (hK _ _ _ _ _ _ h.2 ls locs hl hq)
def cr_pop2l (nx : Nat) : cr_T := fun K _ lv st H k n => match st with | a :: r => a.category = 2 ∧ K nx lv (r) H k n | _ => False
theorem cr_pop2l_ok (hx : p.tables.exec = Jvm.exec) (hb : c.code = cc) (hd : decode cc pc = .ok (.pop2, 1)) (hn : pc + 1 = nx) : cr_Snd p l e R s m args below meth c lo mc ms Q pc (cr_pop2l nx) := by
  subst hn
  intro K lv st H k n hK h ls locs hl hq
  match st, h with
  | a :: r, h => exact lv_pop2_2 hx hb hd h.1 (hK _ _ _ _ _ _ h.2 ls locs hl hq)
def cr_ifeq (t nx : Nat) : cr_T := fun K _ lv st H k n => match st with | .int x :: r => (x = 0 → K t lv r H k n) ∧ (¬ x = 0 → K nx lv r H k n) | _ => False
theorem cr_ifeq_ok {off : Int} {t : Nat} (hx : p.tables.exec = Jvm.exec) (hb : c.code = cc) (hd : decode cc pc = .ok (.ifCond .eq off, 3)) (ht : (pc : Int) + off = (t : Int)) (hn : pc + 3 = nx) : cr_Snd p l e R s m args below meth c lo mc ms Q pc (cr_ifeq t nx) := by
  subst hn
  intro K lv st H k n hK h ls locs hl hq
  match st, h with
  | .int x :: r, h => exact lv_if_eq hx hb hd ht (fun z => hK _ _ _ _ _ _ (h.1 z) ls locs hl hq) (fun z => hK _ _ _ _ _ _ (h.2 z) ls locs hl hq)
def cr_iceq (t nx : Nat) : cr_T := fun K _ lv st H k n => match st with | .int y :: .int x :: r => (x = y → K t lv r H k n) ∧ (¬ x = y → K nx lv r H k n) | _ => False
theorem cr_iceq_ok {off : Int} {t : Nat} (hx : p.tables.exec = Jvm.exec) (hb : c.code = cc) (hd : decode cc pc = .ok (.if_icmp .eq off, 3)) (ht : (pc : Int) + off = (t : Int)) (hn : pc + 3 = nx) : cr_Snd p l e R s m args below meth c lo mc ms Q pc (cr_iceq t nx) := by
  subst hn
  intro K lv st H k n hK h ls locs hl hq
  match st, h with
  | .int y :: .int x :: r, h => exact lv_icmp_eq hx hb hd ht (fun z => hK _ _ _ _ _ _ (h.1 z) ls locs hl hq) (fun z => hK _ _ _ _ _ _ (h.2 z) ls locs hl hq)
def cr_iflt (t nx : Nat) : cr_T := fun K _ lv st H k n => match st with | .int x :: r => (x < 0 → K t lv r H k n) ∧ (¬ x < 0 → K nx lv r H k n) | _ => False
theorem cr_iflt_ok {off : Int} {t : Nat} (hx : p.tables.exec = Jvm.exec) (hb : c.code = cc) (hd : decode cc pc = .ok (.ifCond .lt off, 3)) (ht : (pc : Int) + off = (t : Int)) (hn : pc + 3 = nx) : cr_Snd p l e R s m args below meth c lo mc ms Q pc (cr_iflt t nx) := by
  subst hn
  intro K lv st H k n hK h ls locs hl hq
  match st, h with
  | .int x :: r, h => exact lv_if_lt hx hb hd ht (fun z => hK _ _ _ _ _ _ (h.1 z) ls locs hl hq) (fun z => hK _ _ _ _ _ _ (h.2 z) ls locs hl hq)
def cr_iclt (t nx : Nat) : cr_T := fun K _ lv st H k n => match st with | .int y :: .int x :: r => (x < y → K t lv r H k n) ∧ (¬ x < y → K nx lv r H k n) | _ => False
theorem cr_iclt_ok {off : Int} {t : Nat} (hx : p.tables.exec = Jvm.exec) (hb : c.code = cc) (hd : decode cc pc = .ok (.if_icmp .lt off, 3)) (ht : (pc : Int) + off = (t : Int)) (hn : pc + 3 = nx) : cr_Snd p l e R s m args below meth c lo mc ms Q pc (cr_iclt t nx) := by
  subst hn
  intro K lv st H k n hK h ls locs hl hq
  match st, h with
  | .int y :: .int x :: r, h => exact lv_icmp_lt hx hb hd ht (fun z => hK _ _ _ _ _ _ (h.1 z) ls locs hl hq) (fun z => hK _ _ _ _ _ _ (h.2 z) ls locs hl hq)
def cr_ifge (t nx : Nat) : cr_T := fun K _ lv st H k n => match st with | .int x :: r => (0 ≤ x → K t lv r H k n) ∧ (¬ 0 ≤ x → K nx lv r H k n) | _ => False
theorem cr_ifge_ok {off : Int} {t : Nat} (hx : p.tables.exec = Jvm.exec) (hb : c.code = cc) (hd : decode cc pc = .ok (.ifCond .ge off, 3)) (ht : (pc : Int) + off = (t : Int)) (hn : pc + 3 = nx) : cr_Snd p l e R s m args below meth c lo mc ms Q pc (cr_ifge t nx) := by
  subst hn
  intro K lv st H k n hK h ls locs hl hq
  match st, h with
  | .int x :: r, h => exact lv_if_ge hx hb hd ht (fun z => hK _ _ _ _ _ _ (h.1 z) ls locs hl hq) (fun z => hK _ _ _ _ _ _ (h.2 z) ls locs hl hq)
def cr_icge (t nx : Nat) : cr_T := fun K _ lv st H k n => match st with | .int y :: .int x :: r => (y ≤ x → K t lv r H k n) ∧ (¬ y ≤ x → K nx lv r H k n) | _ => False
theorem cr_icge_ok {off : Int} {t : Nat} (hx : p.tables.exec = Jvm.exec) (hb : c.code = cc) (hd : decode cc pc = .ok (.if_icmp .ge off, 3)) (ht : (pc : Int) + off = (t : Int)) (hn : pc + 3 = nx) : cr_Snd p l e R s m args below meth c lo mc ms Q pc (cr_icge t nx) := by
  subst hn
  intro K lv st H k n hK h ls locs hl hq
  match st, h with
  | .int y :: .int x :: r, h => exact lv_icmp_ge hx hb hd ht (fun z => hK _ _ _ _ _ _ (h.1 z) ls locs hl hq) (fun z => hK _ _ _ _ _ _ (h.2 z) ls locs hl hq)
def cr_ifgt (t nx : Nat) : cr_T := fun K _ lv st H k n => match st with | .int x :: r => (0 < x → K t lv r H k n) ∧ (¬ 0 < x → K nx lv r H k n) | _ => False
theorem cr_ifgt_ok {off : Int} {t : Nat} (hx : p.tables.exec = Jvm.exec) (hb : c.code = cc) (hd : decode cc pc = .ok (.ifCond .gt off, 3)) (ht : (pc : Int) + off = (t : Int)) (hn : pc + 3 = nx) : cr_Snd p l e R s m args below meth c lo mc ms Q pc (cr_ifgt t nx) := by
  subst hn
  intro K lv st H k n hK h ls locs hl hq
  match st, h with
  | .int x :: r, h => exact lv_if_gt hx hb hd ht (fun z => hK _ _ _ _ _ _ (h.1 z) ls locs hl hq) (fun z => hK _ _ _ _ _ _ (h.2 z) ls locs hl hq)
def cr_icgt (t nx : Nat) : cr_T := fun K _ lv st H k n => match st with | .int y :: .int x :: r => (y < x → K t lv r H k n) ∧ (¬ y < x → K nx lv r H k n) | _ => False
theorem cr_icgt_ok {off : Int} {t : Nat} (hx : p.tables.exec = Jvm.exec) (hb : c.code = cc) (hd : decode cc pc = .ok (.if_icmp .gt off, 3)) (ht : (pc : Int) + off = (t : Int)) (hn : pc + 3 = nx) : cr_Snd p l e R s m args below meth c lo mc ms Q pc (cr_icgt t nx) := by
  subst hn
  intro K lv st H k n hK h ls locs hl hq
  match st, h with
  | .int y :: .int x :: r, h => exact lv_icmp_gt hx hb hd ht (fun z => hK _ _ _ _ _ _ (h.1 z) ls locs hl hq) (fun z => hK _ _ _ _ _ _ (h.2 z) ls locs hl hq)
def cr_ifle (t nx : Nat) : cr_T := fun K _ lv st H k n => match st with | .int x :: r => (x ≤ 0 → K t lv r H k n) ∧ (¬ x ≤ 0 → K nx lv r H k n) | _ => False
theorem cr_ifle_ok {off : Int} {t : Nat} (hx : p.tables.exec = Jvm.exec) (hb : c.code = cc) (hd : decode cc pc = .ok (.ifCond .le off, 3)) (ht : (pc : Int) + off = (t : Int)) (hn : pc + 3 = nx) : cr_Snd p l e R s m args below meth c lo mc ms Q pc (cr_ifle t nx) := by
  subst hn
  intro K lv st H k n hK h ls locs hl hq
  match st, h with
  | .int x :: r, h => exact lv_if_le hx hb hd ht (fun z => hK _ _ _ _ _ _ (h.1 z) ls locs hl hq) (fun z => hK _ _ _ _ _ _ (h.2 z) ls locs hl hq)
def cr_icle (t nx : Nat) : cr_T := fun K _ lv st H k n => match st with | .int y :: .int x :: r => (x ≤ y → K t lv r H k n) ∧ (¬ x ≤ y → K nx lv r H k n) | _ => False
theorem cr_icle_ok {off : Int} {t : Nat} (hx : p.tables.exec = Jvm.exec) (hb : c.code = cc) (hd : decode cc pc = .ok (.if_icmp .le off, 3)) (ht : (pc : Int) + off = (t : Int)) (hn : pc + 3 = nx) : cr_Snd p l e R s m args below meth c lo mc ms Q pc (cr_icle t nx) := by
  subst hn
  intro K lv st H k n hK h ls locs hl hq
  match st, h with
  | .int y :: .int x :: r, h => exact lv_icmp_le hx hb hd ht (fun z => hK _ _ _ _ _ _ (h.1 z) ls locs hl hq) (fun z => hK _ _ _ _ _ _ (h.2 z) ls locs hl hq)
def cr_ifne (t nx : Nat) : cr_T := fun K _ lv st H k n => match st with | .int x :: r => (¬ x = 0 → K t lv r H k n) ∧ (x = 0 → K nx lv r H k n) | _ => False
theorem cr_ifne_ok {off : Int} {t : Nat} (hx : p.tables.exec = Jvm.exec) (hb : c.code = cc) (hd : decode cc pc = .ok (.ifCond .ne off, 3)) (ht : (pc : Int) + off = (t : Int)) (hn : pc + 3 = nx) : cr_Snd p l e R s m args below meth c lo mc ms Q pc (cr_ifne t nx) := by
  subst hn
  intro K lv st H k n hK h ls locs hl hq
  match st, h with
  | .int x :: r, h => exact lv_if_ne hx hb hd ht (fun z => hK _ _ _ _ _ _ (h.1 z) ls locs hl hq) (fun z => hK _ _ _ _ _ _ (h.2 z) ls locs hl hq)
def cr_icne (t nx : Nat) : cr_T := fun K _ lv st H k n => match st with | .int y :: .int x :: r => (¬ x = y → K t lv r H k n) ∧ (x = y → K nx lv r H k n) | _ => False
theorem cr_icne_ok {off : Int} {t : Nat} (hx : p.tables.exec = Jvm.exec) (hb : c.code = cc) (hd : decode cc pc = .ok (.if_icmp .ne off, 3)) (ht : (pc : Int) + off = (t : Int)) (hn : pc + 3 = nx) : cr_Snd p l e R s m args below meth c lo mc ms Q pc (cr_icne t nx) := by
  subst hn
  intro K lv st H k n hK h ls locs hl hq
  match st, h with
  | .int y :: .int x :: r, h => exact lv_icmp_ne hx hb hd ht (fun z => hK _ _ _ _ _ _ (h.1 z) ls locs hl hq) (fun z => hK _ _ _ _ _ _ (h.2 z) ls locs hl hq)
def cr_goto (t : Nat) : cr_T := fun K _ lv st H k n => K t lv st H k n
theorem cr_goto_ok {off : Int} {t : Nat} (hx : p.tables.exec = Jvm.exec) (hb : c.code = cc) (hd : decode cc pc = .ok (.goto off, 3)) (ht : (pc : Int) + off = (t : Int)) : cr_Snd p l e R s m args below meth c lo mc ms Q pc (cr_goto t) := by
  intro K lv st H k n hK h ls locs hl hq
  exact lv_goto hx hb hd ht (hK _ _ _ _ _ _ h ls locs hl hq)
def cr_acne (t nx : Nat) : cr_T := fun K _ lv st H k n => match st with | .ref y :: .ref x :: r => (¬ x = y → K t lv r H k n) ∧ (x = y → K nx lv r H k n) | _ => False
theorem cr_acne_ok {off : Int} {t : Nat} (hx : p.tables.exec = Jvm.exec) (hb : c.code = cc) (hd : decode cc pc = .ok (.if_acmp .ne off, 3)) (ht : (pc : Int) + off = (t : Int)) (hn : pc + 3 = nx) : cr_Snd p l e R s m args below meth c lo mc ms Q pc (cr_acne t nx) := by
  subst hn
  intro K lv st H k n hK h ls locs hl hq
  match st, h with
  | .ref y :: .ref x :: r, h => exact lv_acmp_ne (rx := some x) (ry := some y) hx hb hd ht (fun z => hK _ _ _ _ _ _ (h.1 (fun q => z (by rw [q]))) ls locs hl hq) (fun z => hK _ _ _ _ _ _ (h.2 (Option.some.inj z)) ls locs hl hq)
def cr_aceq (t nx : Nat) : cr_T := fun K _ lv st H k n => match st with | .ref y :: .ref x :: r => (x = y → K t lv r H k n) ∧ (¬ x = y → K nx lv r H k n) | _ => False
theorem cr_aceq_ok {off : Int} {t : Nat} (hx : p.tables.exec = Jvm.exec) (hb : c.code = cc) (hd : decode cc pc = .ok (.if_acmp .eq off, 3)) (ht : (pc : Int) + off = (t : Int)) (hn : pc + 3 = nx) : cr_Snd p l e R s m args below meth c lo mc ms Q pc (cr_aceq t nx) := by
  subst hn
  intro K lv st H k n hK h ls locs hl hq
  match st, h with
  | .ref y :: .ref x :: r, h => exact lv_acmp_eq (rx := some x) (ry := some y) hx hb hd ht (fun z => hK _ _ _ _ _ _ (h.1 (Option.some.inj z)) ls locs hl hq) (fun z => hK _ _ _ _ _ _ (h.2 (fun q => z (by rw [q]))) ls locs hl hq)
def cr_ifnull (t nx : Nat) : cr_T := fun K _ lv st H k n => match st with | .ref _ :: r => K nx lv r H k n | .null :: r => K t lv r H k n | _ => False
theorem cr_ifnull_ok {off : Int} {t : Nat} (hx : p.tables.exec = Jvm.exec) (hb : c.code = cc) (hd : decode cc pc = .ok (.ifnull off, 3)) (ht : (pc : Int) + off = (t : Int)) (hn : pc + 3 = nx) : cr_Snd p l e R s m args below meth c lo mc ms Q pc (cr_ifnull t nx) := by
  subst hn
  intro K lv st H k n hK h ls locs hl hq
  match st, h with
  | .ref x :: r, h => exact lv_ifnull hx hb hd (hK _ _ _ _ _ _ h ls locs hl hq)
  | .null :: r, h => exact lv_ifnullN hx hb hd ht (hK _ _ _ _ _ _ h ls locs hl hq)
def cr_ifnonnull (t nx : Nat) : cr_T := fun K _ lv st H k n => match st with | .ref _ :: r => K t lv r H k n | .null :: r => K nx lv r H k n | _ => False
theorem cr_ifnonnull_ok {off : Int} {t : Nat} (hx : p.tables.exec = Jvm.exec) (hb : c.code = cc) (hd : decode cc pc = .ok (.ifnonnull off, 3)) (ht : (pc : Int) + off = (t : Int)) (hn : pc + 3 = nx) : cr_Snd p l e R s m args below meth c lo mc ms Q pc (cr_ifnonnull t nx) := by
  subst hn
  intro K lv st H k n hK h ls locs hl hq
  match st, h with
  | .ref x :: r, h => exact lv_ifnonnull hx hb hd ht (hK _ _ _ _ _ _ h ls locs hl hq)
  | .null :: r, h => exact lv_ifnonnullN hx hb hd (hK _ _ _ _ _ _ h ls locs hl hq)
end CR1
end
section
/-! THE LIGHT MACHINE, its heap: fields, arrays, new cells, returns. A cell is said by the kit's va_at; 'cr_Up' one cell changed, 'cr_Nw' one cell new. -/
def cr_nth : List Value → Nat → (Value → Prop) → Prop
  | [], _, _ => False
  | v :: _, 0, f => f v
  | _ :: t, i + 1, f => cr_nth t i f
theorem cr_nth_sp : ∀ {fs : List Value} {i : Nat} {f : Value → Prop}, cr_nth fs i f → ∃ v, fs[i]? = some v ∧ f v
  | [], _, _, h => False.elim h
  | v :: _, 0, _, h => ⟨v, rfl, h⟩
  | _ :: t, i + 1, f, h => by
    obtain ⟨v, h1, h2⟩ := cr_nth_sp (fs := t) (i := i) (f := f) h
    exact ⟨v, by simpa using h1, h2⟩
/-- a field list with one place changed -/
def cr_sn : List Value → Nat → Value → (List Value → Prop) → Prop
  | [], _, _, _ => False
  | _ :: t, 0, v, f => f (v :: t)
  | x :: t, i + 1, v, f => cr_sn t i v (fun t' => f (x :: t'))
theorem cr_sn_sp : ∀ {fs : List Value} {i : Nat} {v : Value} {f : List Value → Prop}, cr_sn fs i v f → i < fs.length ∧ f (fs.set i v)
  | [], _, _, _, h => False.elim h
  | _ :: _, 0, _, _, h => ⟨by simp, h⟩
  | x :: t, i + 1, v, f, h => by
    obtain ⟨h1, h2⟩ := cr_sn_sp (fs := t) (i := i) (v := v) (f := fun t' => f (x :: t')) h
    exact ⟨by simpa using h1, by simpa using h2⟩
def cr_Up (D : va_G) (cl : List vw_C) (H : Heap) (a : Nat) (x : va_E) (H' : Heap) : Prop := H'.size = H.size ∧ va_at D cl (a, x) H' ∧ ∀ q : Nat, q ≠ a → H'[q]? = H[q]?
def cr_Nw (D : va_G) (cl : List vw_C) (lo : Nat) (H : Heap) (q : Nat) (x : va_E) (H' : Heap) : Prop := q = H.size ∧ lo ≤ q ∧ H'.size = H.size + 1 ∧ va_at D cl (q, x) H' ∧ ∀ y : Nat, y < H.size → H'[y]? = H[y]?
def cr_fit (ty : FieldType) (v : Value) : Prop := narrow ty v = v ∧ fits ty v = true
section CR2
variable {p : Program} {l : Launch} {e : Env} {R : Room} {s : State} {m : MethodId} {args : Array Value} {below : List Frame} {meth : Method} {c : Code} {lo mc ms : Nat} {Q : cr_Q}
variable {cc : ByteArray} {pc nx : Nat} {D : va_G} {cl : List vw_C} {tys : List (ClassId × FieldType)}
variable {H : Heap} {locs : List Loc} {k n : Nat} {g : JFrame}
theorem cr_W_ret (hk : k ≤ mc) (hn : n ≤ ms) (h : W p l e R s m args below meth c H locs k n (MQ below (fun _ st o t => cr_O Q st o t) args s k n (cr_lc lo s)) g) : W p l e R s m args below meth c H locs k n (cr_MQ below lo mc ms Q s) g := by
  intro T hT X
  obtain ⟨t, a, o, b1, b2, b3, L, b4, b5⟩ := h T hT X
  exact ⟨t, a, o, b1, b2, b3, L, ⟨b4.2.1, b4.2.2.mono hk hn⟩, b5⟩
theorem cr_W_size {Qw : State → Prop} (h : s.heap.size ≤ H.size → W p l e R s m args below meth c H locs k n Qw g) : W p l e R s m args below meth c H locs k n Qw g := by
  intro T hT X
  have h2 : s.heap.size ≤ T.heap.size := X.same.2.1
  exact h (by rw [← hT]; exact h2) T hT X
/-- an object that is no statics' cell now was none before -/
theorem cr_W_old {Qw : State → Prop} {a : Nat} {cell : Cell} (hc : H[a]? = some cell) (hv : cell.vm.isStatics = false) (h : (∀ c0 : Cell, s.heap[a]? = some c0 → c0.vm.isStatics = false) → W p l e R s m args below meth c H locs k n Qw g) : W p l e R s m args below meth c H locs k n Qw g := by
  intro T hT X
  refine h (fun c0 h0 => ?_) T hT X
  obtain ⟨c', h1, h2, -⟩ := X.same.2.2.2.2.2 a c0 h0
  have h3 : T.heap[a]? = some c' := h1
  rw [hT, hc] at h3
  cases h3
  have h4 : cell.vm = c0.vm := by rw [h2]
  rw [← h4]
  exact hv
theorem cr_locs1 {a i : Nat} (hq : ∀ q ∈ locs, cr_lc lo s q.base) (ha : cr_lc lo s a) : ∀ q ∈ locs ++ [(⟨a, i⟩ : Loc)], cr_lc lo s q.base := by
  intro q h
  rcases List.mem_append.mp h with h | h
  · exact hq q h
  · rw [List.mem_singleton.mp h]
    exact ha
-- returns
def cr_iret (mc ms : Nat) : cr_T := fun _ Q _ st H k n => match st with | [.int v] => k ≤ mc ∧ n ≤ ms ∧ Q (.inl (some (.int v))) H | _ => False
theorem cr_iret_ok (hx : p.tables.exec = Jvm.exec) (hb : c.code = cc) (hr : meth.sig.returnType = some .int) (hlocks : meth.locks = false) (hd : decode cc pc = .ok (.ireturn, 1)) : cr_Snd p l e R s m args below meth c lo mc ms Q pc (cr_iret mc ms) := by
  intro K lv st H k n hK h ls locs hl hq
  match st, h with
  | [.int v], h => exact cr_W_ret h.1 h.2.1 (W.iret hx hb hr (fun t ht _ => Or.inl ⟨_, rfl, by rw [ht]; exact h.2.2⟩) hq hd)
def cr_zret (mc ms : Nat) (ty : FieldType) : cr_T := fun _ Q _ st H k n => match st with | [.int v] => narrow ty (.int v) = .int v ∧ k ≤ mc ∧ n ≤ ms ∧ Q (.inl (some (.int v))) H | _ => False
theorem cr_zret_ok {ty : FieldType} (hx : p.tables.exec = Jvm.exec) (hb : c.code = cc) (hr : meth.sig.returnType = some ty) (hlocks : meth.locks = false) (hd : decode cc pc = .ok (.ireturn, 1)) : cr_Snd p l e R s m args below meth c lo mc ms Q pc (cr_zret mc ms ty) := by
  intro K lv st H k n hK h ls locs hl hq
  match st, h with
  | [.int v], h => exact cr_W_ret h.2.1 h.2.2.1 (W.zret hx hb hr h.1 (fun t ht _ => Or.inl ⟨_, rfl, by rw [ht]; exact h.2.2.2⟩) hq hd)
def cr_lret (mc ms : Nat) : cr_T := fun _ Q _ st H k n => match st with | [.long v] => k ≤ mc ∧ n ≤ ms ∧ Q (.inl (some (.long v))) H | _ => False
theorem cr_lret_ok (hx : p.tables.exec = Jvm.exec) (hb : c.code = cc) (hr : meth.sig.returnType = some .long) (hlocks : meth.locks = false) (hd : decode cc pc = .ok (.lreturn, 1)) : cr_Snd p l e R s m args below meth c lo mc ms Q pc (cr_lret mc ms) := by
  intro K lv st H k n hK h ls locs hl hq
  match st, h with
  | [.long v], h => exact cr_W_ret h.1 h.2.1 (W.lret hx hb hr (fun t ht _ => Or.inl ⟨_, rfl, by rw [ht]; exact h.2.2⟩) hq hd)
def cr_aret (mc ms : Nat) : cr_T := fun _ Q _ st H k n => match st with | [.ref a] => k ≤ mc ∧ n ≤ ms ∧ Q (.inl (some (.ref a))) H | [.null] => k ≤ mc ∧ n ≤ ms ∧ Q (.inl (some .null)) H | _ => False
theorem cr_aret_ok {rt : FieldType} (hx : p.tables.exec = Jvm.exec) (hb : c.code = cc) (hr : meth.sig.returnType = some rt) (hrt : (∃ n, rt = .object n) ∨ ∃ t, rt = .array t) (hlocks : meth.locks = false) (hd : decode cc pc = .ok (.areturn, 1)) : cr_Snd p l e R s m args below meth c lo mc ms Q pc (cr_aret mc ms) := by
  intro K lv st H k n hK h ls locs hl hq
  match st, h with
  | [.ref a], h => exact cr_W_ret h.1 h.2.1 (W.aret hx hb hr hrt (Or.inr ⟨a, rfl⟩) (fun t ht _ => Or.inl ⟨_, rfl, by rw [ht]; exact h.2.2⟩) hq hd)
  | [.null], h => exact cr_W_ret h.1 h.2.1 (W.aret hx hb hr hrt (Or.inl rfl) (fun t ht _ => Or.inl ⟨_, rfl, by rw [ht]; exact h.2.2⟩) hq hd)
def cr_vret (mc ms : Nat) : cr_T := fun _ Q _ st H k n => match st with | [] => k ≤ mc ∧ n ≤ ms ∧ Q (.inl none) H | _ => False
theorem cr_vret_ok (hx : p.tables.exec = Jvm.exec) (hb : c.code = cc) (hr : meth.sig.returnType = none) (hlocks : meth.locks = false) (hd : decode cc pc = .ok (.return_, 1)) : cr_Snd p l e R s m args below meth c lo mc ms Q pc (cr_vret mc ms) := by
  intro K lv st H k n hK h ls locs hl hq
  match st, h with
  | [], h => exact cr_W_ret h.1 h.2.1 (W.vret hx hb hr (fun t ht _ => Or.inl ⟨_, rfl, by rw [ht]; exact h.2.2⟩) hq hd)
-- fields
def cr_getf (D : va_G) (cl : List vw_C) (ci kf nx : Nat) : cr_T := fun K _ lv st H k n => match st with
  | .ref a :: r => ∃ fs, va_at D cl (a, .inr (ci, fs)) H ∧ cr_nth fs kf (fun v => K nx lv (v :: r) H k n)
  | _ => False
theorem cr_one {x : Nat × va_E} (h : va_at D cl x H) : va_P D cl [x] H := by
  intro k q hk
  match k, hk with
  | 0, hk => cases hk; exact h
  | k + 1, hk => simp at hk
theorem cr_getf_ok {own ref C : String} {T : u_T} {N ci kf index : Nat} {Ts : List Cond} (hx : p.tables.exec = Jvm.exec) (hb : c.code = cc) (hts : ∀ w ∈ Ts, w.before args s = true) (hin : ∀ w ∈ u_ws C T N, w ∈ Ts) (hown : s.vm.findClass own = some m.cls) (hK : va_K D cl tys s) (hc : cl[ci]? = some (C, T, N)) (hk : kf < N)
    (hlink : (Cond.fieldLink own index ref (T kf).2.1 (T kf).2.2.1).before args s = true) (hsame : ∀ x, s.fieldFound? (T kf).1 (T kf).2.1 (T kf).2.2.1 = some x → s.fieldFound? ref (T kf).2.1 (T kf).2.2.1 = some x) (hd : decode cc pc = .ok (.getfield index, 3)) (hn : pc + 3 = nx) : cr_Snd p l e R s m args below meth c lo mc ms Q pc (cr_getf D cl ci kf nx) := by
  subst hn
  intro K lv st H k n hKK h ls locs hl hq
  match st, h with
  | .ref a :: r, ⟨fs, h1, h2⟩ =>
    obtain ⟨v, h3, h4⟩ := cr_nth_sp h2
    exact va_get hx hb hts hin hown hK (cr_one h1) 0 rfl hc kf hk hlink hsame h3 hd (hKK _ _ _ _ _ _ h4 ls locs hl hq)
theorem cr_getfN_ok {own ref C host : String} {T : u_T} {N ci kf index : Nat} {Ts : List Cond} (hx : p.tables.exec = Jvm.exec) (hb : c.code = cc) (hts : ∀ w ∈ Ts, w.before args s = true) (hin : ∀ w ∈ u_ws C T N, w ∈ Ts) (hown : s.vm.findClass own = some m.cls) (hK : va_K D cl tys s) (hc : cl[ci]? = some (C, T, N)) (hk : kf < N)
    (hlink : (Cond.fieldLinkNest own index ref (T kf).2.1 (T kf).2.2.1 host).before args s = true) (hsame : ∀ x, s.fieldFound? (T kf).1 (T kf).2.1 (T kf).2.2.1 = some x → s.fieldFound? ref (T kf).2.1 (T kf).2.2.1 = some x) (hd : decode cc pc = .ok (.getfield index, 3)) (hn : pc + 3 = nx) : cr_Snd p l e R s m args below meth c lo mc ms Q pc (cr_getf D cl ci kf nx) := by
  subst hn
  intro K lv st H k n hKK h ls locs hl hq
  match st, h with
  | .ref a :: r, ⟨fs, h1, h2⟩ =>
    obtain ⟨v, h3, h4⟩ := cr_nth_sp h2
    exact va_getN hx hb hts hin hown hK (cr_one h1) 0 rfl hc kf hk hlink hsame h3 hd (hKK _ _ _ _ _ _ h4 ls locs hl hq)
def cr_putf (D : va_G) (cl : List vw_C) (lo : Nat) (ci kf : Nat) (ty : FieldType) (nx : Nat) : cr_T := fun K _ lv st H k n => match st with
  | v :: .ref a :: r => ∃ fs, va_at D cl (a, .inr (ci, fs)) H ∧ lo ≤ a ∧ cr_fit ty v ∧ cr_sn fs kf v (fun fs' => ∀ H', cr_Up D cl H a (.inr (ci, fs')) H' → K nx lv r H' k n)
  | _ => False
theorem cr_putf_ok {own ref C : String} {T : u_T} {N ci kf index : Nat} {Ts : List Cond} {ty : FieldType} (ty0 : Nat → FieldType) (hx : p.tables.exec = Jvm.exec) (hb : c.code = cc) (hts : ∀ w ∈ Ts, w.before args s = true) (hin : ∀ w ∈ u_ws C T N, w ∈ Ts) (hty : ∀ k, k < N → parseFieldDescriptor (T k).2.2.1 = some (ty0 k)) (hnm : ∀ a, a < N → ∀ b, b < N → a ≠ b → (T a).2.1 ≠ (T b).2.1) (hown : s.vm.findClass own = some m.cls) (hK : va_K D cl tys s) (hc : cl[ci]? = some (C, T, N)) (hk : kf < N)
    (hlink : (Cond.fieldLink own index ref (T kf).2.1 (T kf).2.2.1).before args s = true ∨ ∃ host, (Cond.fieldLinkNest own index ref (T kf).2.1 (T kf).2.2.1 host).before args s = true) (hsame : ∀ x, s.fieldFound? (T kf).1 (T kf).2.1 (T kf).2.2.1 = some x → s.fieldFound? ref (T kf).2.1 (T kf).2.2.1 = some x) (hfin : (T kf).2.2.2 = false) (hd2 : parseFieldDescriptor (T kf).2.2.1 = some ty) (hd : decode cc pc = .ok (.putfield index, 3)) (hn : pc + 3 = nx) : cr_Snd p l e R s m args below meth c lo mc ms Q pc (cr_putf D cl lo ci kf ty nx) := by
  subst hn
  intro K lv st H k n hKK h ls locs hl hq
  match st, h with
  | v :: .ref a :: r, ⟨fs, h1, ha, hf, h2⟩ =>
    obtain ⟨h3, h4⟩ := cr_sn_sp h2
    have hap := va_apart (own := own) hts hin ty0 hty hnm hK hc
    obtain ⟨r9, g1, cell, q1, q2, q3, q4⟩ := h1
    refine cr_W_old q1 (by rw [q3]; rfl) (fun hold => ?_)
    have hr : r9 = (C, T, N) := Option.some.inj (g1.symm.trans hc)
    subst hr
    obtain ⟨hS, hfc, kC, hkC, hkind⟩ := hK.1 ci _ hc
    obtain ⟨cf, kf9, fi, f, hi, hsl⟩ := hS kf hk
    have hlay := hts _ (hin _ (u_in_lay hk))
    unfold u_lay at hlay
    rw [if_neg (by rw [hfin]; decide)] at hlay
    have hst := (u_facts hfc hkC (u_lays hts hin hk) hi).1
    have h6 := u_store hfc hkC hkind hlay hi hd2 hf.1 hf.2
    have fin : ∀ H' : Heap, H'[a]? = some (cell.setSlot f.slot v) → H'.size = H.size → (∀ q, q ≠ a → H'[q]? = H[q]?) → W p l e R s m args below meth c H' (locs ++ [⟨a, f.slot⟩]) k n (cr_MQ below lo mc ms Q s) (F0 m (pc + 3) ls r) := by
      intro H' e1 e2 e3
      rw [hsl] at e1
      exact hKK _ _ _ _ _ _ (h4 H' ⟨e2, ⟨_, hc, t_OB.to (V := updV (vp_V fs) kf v) ⟨_, e1, q2, q3, t_set q4 hap hk v⟩ (fun j _ => vp_updV_set h3 v j)⟩, e3⟩) ls _ hl (cr_locs1 hq ⟨ha, hold⟩)
    rcases hlink with hlink | ⟨host, hlink⟩
    · exact W.putK hx hb (f := f) ⟨hown, hlink, ⟨_, _, _, hsame _ hi⟩, hst⟩ (by rw [q2]; exact h6) q1 q3 (by rw [hsl]; exact k2_hasslot (q4 kf hk)) rfl rfl hd fin
    · exact va_WputK hx hb (f := f) hown hlink (hsame _ hi) hst (by rw [q2]; exact h6) q1 q3 (by rw [hsl]; exact k2_hasslot (q4 kf hk)) rfl rfl hd fin
theorem cr_putF_ok {own ref C : String} {T : u_T} {N ci kf index : Nat} {Ts : List Cond} {ty : FieldType} (ty0 : Nat → FieldType) (hx : p.tables.exec = Jvm.exec) (hb : c.code = cc) (hts : ∀ w ∈ Ts, w.before args s = true) (hin : ∀ w ∈ u_ws C T N, w ∈ Ts) (hty : ∀ k, k < N → parseFieldDescriptor (T k).2.2.1 = some (ty0 k)) (hnm : ∀ a, a < N → ∀ b, b < N → a ≠ b → (T a).2.1 ≠ (T b).2.1) (hown : s.vm.findClass own = some m.cls) (hK : va_K D cl tys s) (hc : cl[ci]? = some (C, T, N)) (hk : kf < N)
    (hlink : (Cond.fieldLink own index ref (T kf).2.1 (T kf).2.2.1).before args s = true) (hsame : ∀ x, s.fieldFound? (T kf).1 (T kf).2.1 (T kf).2.2.1 = some x → s.fieldFound? ref (T kf).2.1 (T kf).2.2.1 = some x) (hfin : (T kf).2.2.2 = true) (hin2 : meth.name = "<init>") (hdecl : (T kf).1 = own) (hd2 : parseFieldDescriptor (T kf).2.2.1 = some ty) (hd : decode cc pc = .ok (.putfield index, 3)) (hn : pc + 3 = nx) : cr_Snd p l e R s m args below meth c lo mc ms Q pc (cr_putf D cl lo ci kf ty nx) := by
  subst hn
  intro K lv st H k n hKK h ls locs hl hq
  match st, h with
  | v :: .ref a :: r, ⟨fs, h1, ha, hf, h2⟩ =>
    obtain ⟨h3, h4⟩ := cr_sn_sp h2
    have hap := va_apart (own := own) hts hin ty0 hty hnm hK hc
    obtain ⟨r9, g1, cell, q1, q2, q3, q4⟩ := h1
    refine cr_W_old q1 (by rw [q3]; rfl) (fun hold => ?_)
    have hr : r9 = (C, T, N) := Option.some.inj (g1.symm.trans hc)
    subst hr
    obtain ⟨hS, hfc, kC, hkC, hkind⟩ := hK.1 ci _ hc
    obtain ⟨cf, kf9, fi, f, hi, hsl⟩ := hS kf hk
    have hlay := hts _ (hin _ (u_in_lay hk))
    unfold u_lay at hlay
    rw [if_pos hfin] at hlay
    have hst := (u_facts hfc hkC (u_lays hts hin hk) hi).1
    have hcf : m.cls = cf := by
      obtain ⟨_, _, c', _, _, _, -, -, hf', -, -, -, hown2, -⟩ := Cond.laysFinal_spec hlay
      have e1 : c' = cf := by have := hi.symm.trans hf'; simp at this; exact this.1.symm
      rw [hdecl] at hown2
      rw [← e1]; exact Option.some.inj (hown.symm.trans hown2)
    have h6 := u_fits hfc hkC hkind (Or.inr hlay) hi hd2 hf.1 hf.2
    refine W.putFinK hx hb hown hlink (hsame _ hi) hst hcf hin2 (by rw [q2]; exact h6) q1 q3 (by rw [hsl]; exact k2_hasslot (q4 kf hk)) rfl rfl hd fun H' e1 e2 e3 => ?_
    rw [hsl] at e1
    exact hKK _ _ _ _ _ _ (h4 H' ⟨e2, ⟨_, hc, t_OB.to (V := updV (vp_V fs) kf v) ⟨_, e1, q2, q3, t_set q4 hap hk v⟩ (fun j _ => vp_updV_set h3 v j)⟩, e3⟩) ls _ hl (cr_locs1 hq ⟨ha, hold⟩)
-- new objects
def cr_new (D : va_G) (cl : List vw_C) (lo mc ms : Nat) (ci N : Nat) (fs : List Value) (nx : Nat) : cr_T := fun K _ lv st H k n =>
  k + 1 ≤ mc ∧ n + N ≤ ms ∧ ∀ q H', cr_Nw D cl lo H q (.inr (ci, fs)) H' → K nx lv (.ref q :: st) H' (k + 1) (n + N)
theorem cr_new_ok {own C : String} {T : u_T} {N ci index : Nat} {Ts : List Cond} {fs : List Value} (ty : Nat → FieldType) (hx : p.tables.exec = Jvm.exec) (hb : c.code = cc) (hts : ∀ w ∈ Ts, w.before args s = true) (hin : ∀ w ∈ u_ws C T N, w ∈ Ts) (hty : ∀ k, k < N → parseFieldDescriptor (T k).2.2.1 = some (ty k)) (hown : s.vm.findClass own = some m.cls) (hcl : (Cond.classLink own index C).before args s = true) (hinst : (Cond.instantiable C N).before args s = true) (hini : (Cond.initialized C).before args s = true)
    (hK : va_K D cl tys s) (hc : cl[ci]? = some (C, T, N)) (hfs : ∀ j, j < N → defaultValue (ty j) = vp_V fs j) (hlo : lo ≤ s.heap.size) (hRc : R.cells = mc) (hRs : R.slots = ms) (hd : decode cc pc = .ok (.new index, 3)) (hn : pc + 3 = nx) : cr_Snd p l e R s m args below meth c lo mc ms Q pc (cr_new D cl lo mc ms ci N fs nx) := by
  subst hn
  intro K lv st H k n hKK h ls locs hl hq
  obtain ⟨h1, h2, h3⟩ := h
  refine cr_W_size (fun hsz => ?_)
  have hKn := hK.1 ci _ hc
  refine W.newcK hx hb hown hcl hinst hini rfl hd (by rw [hRc]; exact h1) (by rw [hRs]; exact h2) hKn.2.1 rfl fun H1 kC hkC e1 z1 o1 => ?_
  exact hKK _ _ _ _ _ _ (h3 H.size H1 ⟨rfl, Nat.le_trans hlo hsz, z1, ⟨_, hc, (u_born ty hts hin hKn hkC e1 hty).to hfs⟩, o1⟩) ls locs hl hq
-- arrays
def cr_iald (D : va_G) (cl : List vw_C) (cA : ClassId) (nx : Nat) : cr_T := fun K _ lv st H k n => match st with
  | .int i :: .ref a :: r => ∃ N f j, va_at D cl (a, .inl (cA, N, .inl f)) H ∧ i = nI j ∧ j < N ∧ N < 2 ^ 31 ∧ K nx lv (.int (f j) :: r) H k n
  | _ => False
theorem cr_iald_ok {cA : ClassId} {t0 : Nat} (hx : p.tables.exec = Jvm.exec) (hb : c.code = cc) (hK : va_K D cl tys s) (ht : tys[t0]? = some (cA, .int)) (hd : decode cc pc = .ok (.iaload, 1)) (hn : pc + 1 = nx) : cr_Snd p l e R s m args below meth c lo mc ms Q pc (cr_iald D cl cA nx) := by
  subst hn
  intro K lv st H k n hKK h ls locs hl hq
  match st, h with
  | .int i :: .ref a :: r, ⟨N, f, j, h1, h2, h3, h4, h5⟩ =>
    subst h2
    refine va_iald hx hb hK (cr_one h1) 0 t0 rfl ht (vp_in_nI h3 h4) hd ?_
    rw [nI_clamp (by omega)]
    exact hKK _ _ _ _ _ _ h5 ls locs hl hq
def cr_lald (D : va_G) (cl : List vw_C) (cA : ClassId) (nx : Nat) : cr_T := fun K _ lv st H k n => match st with
  | .int i :: .ref a :: r => ∃ N f j, va_at D cl (a, .inl (cA, N, .inr (.inl f))) H ∧ i = nI j ∧ j < N ∧ N < 2 ^ 31 ∧ K nx lv (.long (f j) :: r) H k n
  | _ => False
theorem cr_lald_ok {cA : ClassId} {t0 : Nat} (hx : p.tables.exec = Jvm.exec) (hb : c.code = cc) (hK : va_K D cl tys s) (ht : tys[t0]? = some (cA, .long)) (hd : decode cc pc = .ok (.laload, 1)) (hn : pc + 1 = nx) : cr_Snd p l e R s m args below meth c lo mc ms Q pc (cr_lald D cl cA nx) := by
  subst hn
  intro K lv st H k n hKK h ls locs hl hq
  match st, h with
  | .int i :: .ref a :: r, ⟨N, f, j, h1, h2, h3, h4, h5⟩ =>
    subst h2
    refine va_lald hx hb hK (cr_one h1) 0 t0 rfl ht (vp_in_nI h3 h4) hd ?_
    rw [nI_clamp (by omega)]
    exact hKK _ _ _ _ _ _ h5 ls locs hl hq
def cr_aald (D : va_G) (cl : List vw_C) (cA : ClassId) (nx : Nat) : cr_T := fun K _ lv st H k n => match st with
  | .int i :: .ref a :: r => ∃ N f j x, va_at D cl (a, .inl (cA, N, .inr (.inr (.inr (.inr f))))) H ∧ i = nI j ∧ j < N ∧ N < 2 ^ 31 ∧ f j = x ∧ (match x with | some y => K nx lv (.ref y :: r) H k n | none => K nx lv (.null :: r) H k n)
  | _ => False
theorem cr_aald_ok {cA : ClassId} {C : String} {t0 : Nat} (hx : p.tables.exec = Jvm.exec) (hb : c.code = cc) (hK : va_K D cl tys s) (ht : tys[t0]? = some (cA, .object C)) (hd : decode cc pc = .ok (.aaload, 1)) (hn : pc + 1 = nx) : cr_Snd p l e R s m args below meth c lo mc ms Q pc (cr_aald D cl cA nx) := by
  subst hn
  intro K lv st H k n hKK h ls locs hl hq
  match st, h with
  | .int i :: .ref a :: r, ⟨N, f, j, x, h1, h2, h3, h4, h5, h6⟩ =>
    subst h2
    refine va_aldq hx hb hK (cr_one h1) 0 t0 rfl ht (vp_in_nI h3 h4) hd ?_
    rw [nI_clamp (by omega), h5]
    match x, h6 with
    | some y, h6 => exact hKK _ _ _ _ _ _ h6 ls locs hl hq
    | none, h6 => exact hKK _ _ _ _ _ _ h6 ls locs hl hq
def cr_iast (D : va_G) (cl : List vw_C) (lo : Nat) (cA : ClassId) (nx : Nat) : cr_T := fun K _ lv st H k n => match st with
  | .int x :: .int i :: .ref a :: r => ∃ N f j, va_at D cl (a, .inl (cA, N, .inl f)) H ∧ lo ≤ a ∧ i = nI j ∧ j < N ∧ N < 2 ^ 31 ∧ ∀ H', cr_Up D cl H a (.inl (cA, N, .inl (upd f j x))) H' → K nx lv r H' k n
  | _ => False
theorem cr_iast_ok {cA : ClassId} {t0 : Nat} (hx : p.tables.exec = Jvm.exec) (hb : c.code = cc) (hK : va_K D cl tys s) (ht : tys[t0]? = some (cA, .int)) (hd : decode cc pc = .ok (.iastore, 1)) (hn : pc + 1 = nx) : cr_Snd p l e R s m args below meth c lo mc ms Q pc (cr_iast D cl lo cA nx) := by
  subst hn
  intro K lv st H k n hKK h ls locs hl hq
  match st, h with
  | .int x :: .int i :: .ref a :: r, ⟨N, f, j, h1, ha, h2, h3, h4, h5⟩ =>
    subst h2
    refine cr_W_old (cell := vp_cell _ _) h1 rfl (fun hold => ?_)
    refine W.iast hx hb h1 ((hK.2 t0 _ ht).1 N (fun j => .int (f j))) (fun q => by cases q) (by show ¬ (nI j < 0 ∨ (arrV _ _ _).slots.size ≤ _); rw [arrV_size]; exact vp_in_nI h3 h4) rfl rfl hd fun H1 e z oq => ?_
    refine hKK _ _ _ _ _ _ (h5 H1 ⟨z, ?_, oq⟩) ls _ hl (cr_locs1 hq ⟨ha, hold⟩)
    show H1[a]? = some (vp_cell _ _)
    rw [e, nI_clamp (by omega)]
    rw [vp_cell_i, vp_cell_i, arrV_store]
    congr 2
    funext q
    by_cases hq : q = j
    · subst hq
      simp [updV, upd]
    · simp [updV, upd, hq]
def cr_last (D : va_G) (cl : List vw_C) (lo : Nat) (cA : ClassId) (nx : Nat) : cr_T := fun K _ lv st H k n => match st with
  | .long x :: .int i :: .ref a :: r => ∃ N f j, va_at D cl (a, .inl (cA, N, .inr (.inl f))) H ∧ lo ≤ a ∧ i = nI j ∧ j < N ∧ N < 2 ^ 31 ∧ ∀ H', cr_Up D cl H a (.inl (cA, N, .inr (.inl (vp_updL f j x)))) H' → K nx lv r H' k n
  | _ => False
theorem cr_last_ok {cA : ClassId} {t0 : Nat} (hx : p.tables.exec = Jvm.exec) (hb : c.code = cc) (hK : va_K D cl tys s) (ht : tys[t0]? = some (cA, .long)) (hd : decode cc pc = .ok (.lastore, 1)) (hn : pc + 1 = nx) : cr_Snd p l e R s m args below meth c lo mc ms Q pc (cr_last D cl lo cA nx) := by
  subst hn
  intro K lv st H k n hKK h ls locs hl hq
  match st, h with
  | .long x :: .int i :: .ref a :: r, ⟨N, f, j, h1, ha, h2, h3, h4, h5⟩ =>
    subst h2
    refine cr_W_old (cell := vp_cell _ _) h1 rfl (fun hold => ?_)
    refine W.last hx hb h1 ((hK.2 t0 _ ht).1 N (fun j => .long (f j))) (fun q => by cases q) (by show ¬ (nI j < 0 ∨ (arrV _ _ _).slots.size ≤ _); rw [arrV_size]; exact vp_in_nI h3 h4) rfl rfl hd fun H1 e z oq => ?_
    refine hKK _ _ _ _ _ _ (h5 H1 ⟨z, ?_, oq⟩) ls _ hl (cr_locs1 hq ⟨ha, hold⟩)
    show H1[a]? = some (vp_cell _ _)
    rw [e, nI_clamp (by omega)]
    rw [vp_cell_l, vp_cell_l, arrV_store]
    congr 2
    funext q
    by_cases hq : q = j
    · subst hq
      simp [updV, vp_updL]
    · simp [updV, vp_updL, hq]
def cr_alen (D : va_G) (cl : List vw_C) (cA : ClassId) (nx : Nat) : cr_T := fun K _ lv st H k n => match st with
  | .ref a :: r => ∃ x : vp_A, va_at D cl (a, .inl (cA, x)) H ∧ K nx lv (.int (nI x.1) :: r) H k n
  | _ => False
theorem cr_alen_ok {cA : ClassId} {ty : FieldType} {t0 : Nat} (hx : p.tables.exec = Jvm.exec) (hb : c.code = cc) (hK : va_K D cl tys s) (ht : tys[t0]? = some (cA, ty)) (hd : decode cc pc = .ok (.arraylength, 1)) (hn : pc + 1 = nx) : cr_Snd p l e R s m args below meth c lo mc ms Q pc (cr_alen D cl cA nx) := by
  subst hn
  intro K lv st H k n hKK h ls locs hl hq
  match st, h with
  | .ref a :: r, ⟨x, h1, h2⟩ => exact va_alen hx hb hK (cr_one h1) 0 t0 rfl ht rfl hd (hKK _ _ _ _ _ _ h2 ls locs hl hq)
/-- a new array of numbers: z its length -/
def cr_newa (D : va_G) (cl : List vw_C) (lo mc ms : Nat) (cA : ClassId) (sz : Nat) (nx : Nat) (x0 : Nat → vp_A) : cr_T := fun K _ lv st H k n => match st with
  | .int z :: r => ∃ N, z = nI N ∧ N < 2 ^ 31 ∧ N * sz ≤ 536870912 ∧ k + 1 ≤ mc ∧ n + N ≤ ms ∧ ∀ q H', cr_Nw D cl lo H q (.inl (cA, x0 N)) H' → K nx lv (.ref q :: r) H' (k + 1) (n + N)
  | _ => False
theorem cr_newa_ok {atype : ArrayType} {ty : FieldType} {cA : ClassId} {sz t0 : Nat} {x0 : Nat → vp_A} (hx : p.tables.exec = Jvm.exec) (hb : c.code = cc) (harr : (Cond.arrayClass (newarray.typeOf atype)).before args s = true) (hty : newarray.typeOf atype = ty) (hnr : ty.isReference = false) (hsz : componentBytes ty = sz) (hx0 : ∀ N, vp_cell cA (x0 N) = arrV cA N (fun _ => defaultValue ty)) (hfc : s.vm.findClass ("[" ++ ty.toString) = some cA)
    (hlo : lo ≤ s.heap.size) (hRc : R.cells = mc) (hRs : R.slots = ms) (hd : decode cc pc = .ok (.newarray atype, 2)) (hn : pc + 2 = nx) : cr_Snd p l e R s m args below meth c lo mc ms Q pc (cr_newa D cl lo mc ms cA sz nx x0) := by
  subst hn; subst hty
  intro K lv st H k n hKK h ls locs hl hq
  match st, h with
  | .int z :: r, ⟨N, h1, h2, h3, h4, h5, h6⟩ =>
    subst h1
    refine cr_W_size (fun hs9 => ?_)
    refine va_newaK hx hb harr rfl hd rfl (nI_pos h2) (nI_clamp h2) (by rw [hsz]; exact h3) (by rw [hRc]; exact h4) (by rw [hRs]; exact h5) rfl fun H1 cB e1 z1 o1 hAr hNm => ?_
    have hcc : cB = cA := Option.some.inj (hNm.symm.trans hfc)
    subst hcc
    exact hKK _ _ _ _ _ _ (h6 H.size H1 ⟨rfl, Nat.le_trans hlo hs9, z1, by show H1[H.size]? = some (vp_cell _ _); rw [hx0]; exact e1, o1⟩) ls locs hl hq
/-- a new array of references -/
def cr_newq (D : va_G) (cl : List vw_C) (lo mc ms : Nat) (cA : ClassId) (nx : Nat) : cr_T := fun K _ lv st H k n => match st with
  | .int z :: r => ∃ N, z = nI N ∧ N < 2 ^ 31 ∧ N * 4 ≤ 536870912 ∧ k + 1 ≤ mc ∧ n + N ≤ ms ∧ ∀ q H', cr_Nw D cl lo H q (.inl (cA, N, .inr (.inr (.inr (.inr (fun _ => none)))))) H' → K nx lv (.ref q :: r) H' (k + 1) (n + N)
  | _ => False
theorem cr_newq_ok {own C : String} {index : Nat} {cA : ClassId} (hx : p.tables.exec = Jvm.exec) (hb : c.code = cc) (hown : s.vm.findClass own = some m.cls) (hclink : (Cond.classLink own index C).before args s = true) (hover : (Cond.arrayOver (.object C)).before args s = true) (hfc : s.vm.findClass ("[" ++ (FieldType.object C).toString) = some cA)
    (hlo : lo ≤ s.heap.size) (hRc : R.cells = mc) (hRs : R.slots = ms) (hd : decode cc pc = .ok (.anewarray index, 3)) (hn : pc + 3 = nx) : cr_Snd p l e R s m args below meth c lo mc ms Q pc (cr_newq D cl lo mc ms cA nx) := by
  subst hn
  intro K lv st H k n hKK h ls locs hl hq
  match st, h with
  | .int z :: r, ⟨N, h1, h2, h3, h4, h5, h6⟩ =>
    subst h1
    have hN := nI_clamp h2
    refine cr_W_size (fun hs9 => ?_)
    refine W.anew hx hb hown hclink hover rfl hd rfl (nI_pos h2) (by rw [hN]; exact h3) (by rw [hRc]; exact h4) (by rw [hN, hRs]; exact h5) fun cB kA comp f1 f2 f3 f4 => ?_
    have hcc : cB = cA := Option.some.inj (f1.symm.trans hfc)
    subst hcc
    rw [hN]
    refine hKK _ _ _ _ _ _ (h6 H.size _ ⟨rfl, Nat.le_trans hlo hs9, by rw [Array.size_push], ?_, fun q hq => by rw [Array.getElem?_push, if_neg (Nat.ne_of_lt hq)]⟩) ls locs hl hq
    show (H.push _)[H.size]? = some (vp_cell _ _)
    rw [vp_cell_q, Array.getElem?_push_size, ← arrV_new]
    rfl
/-- a reference is stored: an object of a class of the list, whose class fits the array's -/
def cr_aast (D : va_G) (cl : List vw_C) (lo : Nat) (cA : ClassId) (cs : List Nat) (nx : Nat) : cr_T := fun K _ lv st H k n => match st with
  | .ref v :: .int i :: .ref a :: r => ∃ N f j ci fs, va_at D cl (a, .inl (cA, N, .inr (.inr (.inr (.inr f))))) H ∧ lo ≤ a ∧ i = nI j ∧ j < N ∧ N < 2 ^ 31 ∧ ci ∈ cs ∧ va_at D cl (v, .inr (ci, fs)) H ∧ ∀ H', cr_Up D cl H a (.inl (cA, N, .inr (.inr (.inr (.inr (va_up f j (some v))))))) H' → K nx lv r H' k n
  | .null :: .int i :: .ref a :: r => ∃ N f j, va_at D cl (a, .inl (cA, N, .inr (.inr (.inr (.inr f))))) H ∧ lo ≤ a ∧ i = nI j ∧ j < N ∧ N < 2 ^ 31 ∧ ∀ H', cr_Up D cl H a (.inl (cA, N, .inr (.inr (.inr (.inr (va_up f j none)))))) H' → K nx lv r H' k n
  | _ => False
theorem cr_aast_ok {cA : ClassId} {C : String} {t0 : Nat} {cs : List Nat} (hx : p.tables.exec = Jvm.exec) (hb : c.code = cc) (hK : va_K D cl tys s) (ht : tys[t0]? = some (cA, .object C)) (hcast : ∀ ci ∈ cs, ∃ r, cl[ci]? = some r ∧ (Cond.castable r.1 C).before args s = true) (hd : decode cc pc = .ok (.aastore, 1)) (hn : pc + 1 = nx) : cr_Snd p l e R s m args below meth c lo mc ms Q pc (cr_aast D cl lo cA cs nx) := by
  subst hn
  intro K lv st H k n hKK h ls locs hl hq
  have stf : ∀ (H1 : Heap) (a j N : Nat) (f : Nat → Option Nat) (x : Option Nat), H1[a]? = some ((arrV cA N (fun j => va_rf (f j))).setSlot j (va_rf x)) → va_at D cl (a, .inl (cA, N, .inr (.inr (.inr (.inr (va_up f j x)))))) H1 := by
    intro H1 a j N f x e
    show H1[a]? = some (vp_cell _ _)
    rw [e, vp_cell_q, arrV_store]
    congr 2
    funext q
    by_cases hq : q = j
    · subst hq
      simp [updV, va_up]
    · simp [updV, va_up, hq]
  match st, h with
  | .ref v :: .int i :: .ref a :: r, ⟨N, f, j, ci, fs, h1, ha, h2, h3, h4, hci, hv, h5⟩ =>
    subst h2
    obtain ⟨r0, hr0, hca⟩ := hcast ci hci
    obtain ⟨r9, hr9, cellV, g1, g2, g3, -⟩ := hv
    have er : r9 = r0 := Option.some.inj (hr9.symm.trans hr0)
    subst er
    have hcls := (hK.1 ci _ hr0).2
    obtain ⟨kA, comp, k1, k2, k3, -⟩ := (hK.2 t0 _ ht).2
    obtain ⟨c0, t9, w1, w2, w3⟩ := Cond.castable_spec hca
    cases hcls.1.symm.trans w1
    cases k3.symm.trans w2
    obtain ⟨kC, hkC, -⟩ := hcls.2
    obtain ⟨kcomp, hkcomp⟩ := Vm.classAt_of_findClass k3
    refine cr_W_old (cell := vp_cell _ _) h1 rfl (fun hold => ?_)
    refine W.aast hx hb h1 (fun q h => by cases h) (fun h => by cases h) k1 k2 rfl hkcomp ⟨nI_pos (by omega), by show _ < (arrV _ _ _).slots.size; rw [arrV_size, nI_clamp (by omega)]; exact h3⟩ g1 (fun q h => by rw [g3] at h; cases h) (by rw [g2]; exact hkC) (by rw [g2]; exact w3) rfl rfl hd fun H1 e z oq => ?_
    refine hKK _ _ _ _ _ _ (h5 H1 ⟨z, stf H1 a j N f (some v) ?_, oq⟩) ls _ hl (cr_locs1 hq ⟨ha, hold⟩)
    rw [e, nI_clamp (by omega)]
    rfl
  | .null :: .int i :: .ref a :: r, ⟨N, f, j, h1, ha, h2, h3, h4, h5⟩ =>
    subst h2
    refine cr_W_old (cell := vp_cell _ _) h1 rfl (fun hold => ?_)
    refine va_WaastN (C := C) hx hb h1 ((hK.2 t0 _ ht).1 N (fun j => va_rf (f j))) (fun h => by cases h) (by show ¬ (nI j < 0 ∨ (arrV _ _ _).slots.size ≤ _); rw [arrV_size]; exact vp_in_nI h3 h4) rfl rfl hd fun H1 e z oq => ?_
    refine hKK _ _ _ _ _ _ (h5 H1 ⟨z, stf H1 a j N f none ?_, oq⟩) ls _ hl (cr_locs1 hq ⟨ha, hold⟩)
    rw [e, nI_clamp (by omega)]
    rfl
/-- checkcast of an object whose class is known -/
def cr_cast (D : va_G) (cl : List vw_C) (ci nx : Nat) : cr_T := fun K _ lv st H k n => match st with
  | .ref a :: r => ∃ fs, va_at D cl (a, .inr (ci, fs)) H ∧ K nx lv (.ref a :: r) H k n
  | _ => False
theorem cr_cast_ok {own C nm : String} {T : u_T} {N ci index : Nat} (hx : p.tables.exec = Jvm.exec) (hb : c.code = cc) (hown : s.vm.findClass own = some m.cls) (hlink : (Cond.classLink own index nm).before args s = true) (hK : va_K D cl tys s) (hc : cl[ci]? = some (C, T, N)) (hnm : nm = C) (hd : decode cc pc = .ok (.checkcast index, 3)) (hn : pc + 3 = nx) : cr_Snd p l e R s m args below meth c lo mc ms Q pc (cr_cast D cl ci nx) := by
  subst hn; subst hnm
  intro K lv st H k n hKK h ls locs hl hq
  match st, h with
  | .ref a :: r, ⟨fs, h1, h2⟩ => exact va_castS hx hb hown hlink (hK.1 ci _ hc).2 (va_recv hK (cr_one h1) hc (q0 := 0) rfl) hd (hKK _ _ _ _ _ _ h2 ls locs hl hq)
end CR2
end
section
/-! THE LIGHT MACHINE, its calls: a method's contract 'cr_M', how it is entered, how it is used at a call (both outcomes). -/
def cr_rm (d mc ms : Nat) : Room := { frames := d, cells := mc, slots := ms, locals := 60 * d }
/-- from any state with the heap H and the tables' facts U the method y, called with av, ends with Q; d its frames, mc its cells, ms its slots; nothing below lo is written -/
def cr_M (l : Launch) (U : State → Prop) (lo : Nat) (y : MethodName) (cw : Cond) (d mc ms : Nat) (av : List Value) (H : Heap) (Q : cr_Q) : Prop :=
  lo ≤ H.size → MetFree l y (headSpec [cw] (cr_rm d mc ms)) (fun a st => a = av.toArray ∧ st.heap = H ∧ U st) (fun _ _ _ _ _ => True)
    (fun _ st o t => cr_O Q st o t ∧ ∃ L, cr_FE st t L mc ms ∧ ∀ q ∈ L, cr_lc lo st q.base)
/-- the facts are of the tables alone, and warmer tables keep them -/
def cr_St (U : State → Prop) : Prop := ∀ u v : State, u.WarmedH v.vm → U u → U v
-- what a method's body may lean on
def cr_C (p : Program) (R : Room) (s : State) (m : MethodId) (meth : Method) (c : Code) (U : State → Prop) (lo : Nat) (y : MethodName) (cc : ByteArray) (maxL : Nat) (ret : Option FieldType) (d mc ms : Nat) : Prop :=
  p.tables.exec = Jvm.exec ∧ c.code = cc ∧ c.maxLocals = maxL ∧ s.vm.findClass y.cls = some m.cls ∧ meth.sig.returnType = ret ∧ meth.locks = false ∧ meth.name = y.name ∧ U s ∧ lo ≤ s.heap.size ∧ R = cr_rm d mc ms
def cr_e : List Value → Nat → cr_Lv
  | [], n => List.replicate n none
  | v :: t, n => some v :: (if v.category = 2 then none :: cr_e t (n - 2) else cr_e t (n - 1))
theorem cr_as_none : ∀ (n b : Nat), cr_as b (List.replicate n none) = []
  | 0, _ => rfl
  | n + 1, b => by
    rw [List.replicate_succ]
    exact cr_as_none n (b + 1)
theorem cr_sl_cons (v : Value) (t : List Value) : (lg_sl (v :: t)).length = (if v.category = 2 then 2 else 1) + (lg_sl t).length := by
  by_cases h : v.category = 2 <;> simp [lg_sl, h] <;> omega
theorem cr_e_sp : ∀ (av : List Value) (n b : Nat), (lg_sl av).length ≤ n → (cr_e av n).length = n ∧ cr_as b (cr_e av n) = lv_args b av
  | [], n, b, _ => ⟨by simp [cr_e], cr_as_none n b⟩
  | v :: t, n, b, h => by
    rw [cr_sl_cons] at h
    by_cases hc : v.category = 2
    · rw [if_pos hc] at h
      obtain ⟨h1, h2⟩ := cr_e_sp t (n - 2) (b + 2) (by omega)
      refine ⟨by simp [cr_e, hc, h1]; omega, ?_⟩
      simp only [cr_e, hc, if_true, cr_as, lv_args]
      rw [show b + 1 + 1 = b + 2 by omega, h2]
    · rw [if_neg hc] at h
      obtain ⟨h1, h2⟩ := cr_e_sp t (n - 1) (b + 1) (by omega)
      refine ⟨by simp [cr_e, hc, h1]; omega, ?_⟩
      simp only [cr_e, hc, if_false, cr_as, lv_args]
      rw [h2]
section CR3
variable {l : Launch} {U : State → Prop} {lo : Nat} {y : MethodName} {cc : ByteArray} {maxL : Nat} {ret : Option FieldType} {d mc ms : Nat} {av : List Value} {H : Heap} {Q : cr_Q}
theorem cr_entL (hw : (lg_sl av).length ≤ maxL) : cr_L ((lg_sl av ++ List.replicate (maxL - (lg_sl av).length) Slot.unset).toArray) (cr_e av maxL) := by
  obtain ⟨h1, h2⟩ := cr_e_sp av maxL 0 hw
  unfold cr_L
  rw [h1, h2]
  exact lv_entry av hw
/-- into a method without handlers -/
theorem cr_enter (hy : plainName y.cls = true) (hw : (lg_sl av).length ≤ maxL)
    (body : lo ≤ H.size → ∀ (p : Program) (e : Env) (s : State) (m : MethodId) (args : Array Value) (below : List Frame) (meth : Method) (c : Code), cr_C p (cr_rm d mc ms) s m meth c U lo y cc maxL ret d mc ms → c.exceptionTable.toList = [] → s.heap = H →
      cr_G p l e (cr_rm d mc ms) s m args below meth c lo mc ms Q 0 (cr_e av maxL) [] H 0 0) : cr_M l U lo y (.code y cc maxL ret) d mc ms av H Q := by
  intro hlo
  refine MetFree.of_bodyS (code := cc) (maxLocals := maxL) (ret := ret) hy ?_ ?_
  · intro args s m h hn
    obtain ⟨meth, c, h1, h2, h3, h4, h5, h6, -, -⟩ := Cond.code_spec hn (atoms_spec (ws := [.code y cc maxL ret]) h _ List.mem_cons_self)
    exact ⟨meth, c, h1, h2, h3, h4, h5, h6⟩
  · intro p e s m args below meth c s₁ B hml hP _
    obtain ⟨rfl, hH, hU⟩ := hP
    have hh0 : s₁.heap = H := by rw [B.state]; exact hH
    have hcw := atoms_spec (ws := [.code y cc maxL ret]) B.pre _ List.mem_cons_self
    have hem : c.exceptionTable.toList = [] := by
      have h0 := B.noHandlers hcw
      have h1 : c.exceptionTable.size = 0 := by simpa [Array.isEmpty] using h0
      exact List.eq_nil_of_length_eq_zero (by simpa using h1)
    have hC : cr_C p (cr_rm d mc ms) s m meth c U lo y cc maxL ret d mc ms := ⟨B.exec, B.bytes, hml, findClass_of_methodNamed B.named, B.returns, B.notSynchronized, (name_of_methodNamed B.named B.method).1, hU, by rw [hH]; exact hlo, rfl⟩
    have K := body hlo p e s m av.toArray below meth c hC hem hH _ [] (cr_entL hw) (fun q h => by cases h)
    rw [lg_entry_eq]
    obtain ⟨t, a1, o, b1, b2, b3, L, b4, b5⟩ := K s₁ hh0 (Stand.of_body B)
    exact ⟨t, o, a1, b1, b2, b3, L, b4, b5⟩
/-- into a method with handlers -/
theorem cr_enterW {hh : List (Nat × Nat × Nat × Nat)} (hy : plainName y.cls = true) (hw : (lg_sl av).length ≤ maxL)
    (body : lo ≤ H.size → ∀ (p : Program) (e : Env) (s : State) (m : MethodId) (args : Array Value) (below : List Frame) (meth : Method) (c : Code), cr_C p (cr_rm d mc ms) s m meth c U lo y cc maxL ret d mc ms → (Cond.codeWith y cc maxL ret hh).before args s = true → s.methodNamed? y = some m → s.vm.method? m = some meth → meth.code = some c → s.heap = H →
      cr_G p l e (cr_rm d mc ms) s m args below meth c lo mc ms Q 0 (cr_e av maxL) [] H 0 0) : cr_M l U lo y (.codeWith y cc maxL ret hh) d mc ms av H Q := by
  intro hlo
  refine MetFree.of_bodyS (code := cc) (maxLocals := maxL) (ret := ret) hy ?_ ?_
  · intro args s m h hn
    obtain ⟨m9, meth, c, hn9, h1, h2, h3, h4, -, h5, h6, -⟩ := Cond.codeWith_spec (atoms_spec (ws := [.codeWith y cc maxL ret hh]) h _ List.mem_cons_self)
    cases hn.symm.trans hn9
    exact ⟨meth, c, h1, h2, h3, h4, h5, h6⟩
  · intro p e s m args below meth c s₁ B hml hP _
    obtain ⟨rfl, hH, hU⟩ := hP
    have hh0 : s₁.heap = H := by rw [B.state]; exact hH
    have hcw := atoms_spec (ws := [.codeWith y cc maxL ret hh]) B.pre _ List.mem_cons_self
    have hC : cr_C p (cr_rm d mc ms) s m meth c U lo y cc maxL ret d mc ms := ⟨B.exec, B.bytes, hml, findClass_of_methodNamed B.named, B.returns, B.notSynchronized, (name_of_methodNamed B.named B.method).1, hU, by rw [hH]; exact hlo, rfl⟩
    have K := body hlo p e s m av.toArray below meth c hC hcw B.named B.method (Stand.of_body B).code hH _ [] (cr_entL hw) (fun q h => by cases h)
    rw [lg_entry_eq]
    obtain ⟨t, a1, o, b1, b2, b3, L, b4, b5⟩ := K s₁ hh0 (Stand.of_body B)
    exact ⟨t, o, a1, b1, b2, b3, L, b4, b5⟩
end CR3
-- the top of the operand stack, as arguments
def cr_tk : Nat → List Value → List Value → (List Value → List Value → Prop) → Prop
  | 0, acc, st, f => f acc st
  | _ + 1, _, [], _ => False
  | n + 1, acc, v :: st, f => cr_tk n (v :: acc) st f
theorem cr_tk_sp : ∀ {n : Nat} {acc st : List Value} {f : List Value → List Value → Prop}, cr_tk n acc st f → ∃ vs r, st = vs ++ r ∧ vs.length = n ∧ f (vs.reverse ++ acc) r
  | 0, acc, st, f, h => ⟨[], st, rfl, rfl, h⟩
  | _ + 1, _, [], _, h => False.elim h
  | n + 1, acc, v :: st, f, h => by
    obtain ⟨vs, r, h1, h2, h3⟩ := cr_tk_sp (n := n) (acc := v :: acc) (st := st) (f := f) h
    exact ⟨v :: vs, r, by rw [h1]; rfl, by simp [h2], by simpa using h3⟩
/-- what a call asks of its callee's contract, and what comes back -/
def cr_after (l : Launch) (U : State → Prop) (lo : Nat) (y : MethodName) (cw : Cond) (d mc ms : Nat) (nx : Nat) (K : cr_K) (Q : cr_Q) (lv : cr_Lv) (av r : List Value) (H : Heap) (k n : Nat) : Prop :=
  ∃ d' mc' ms' Qc, cr_M l U lo y cw d' mc' ms' av H Qc ∧ d' + 1 ≤ d ∧ k + mc' ≤ mc ∧ n + ms' ≤ ms ∧ (r.map fun v => v.category).sum ≤ 8 ∧
    (∀ v H', Qc (.inl v) H' → H.size ≤ H'.size → K nx lv (v.toList ++ r) H' (k + mc') (n + ms')) ∧ ∀ kd H', Qc (.inr kd) H' → H.size ≤ H'.size → Q (.inr kd) H'
section CR4
variable {p : Program} {l : Launch} {e : Env} {R : Room} {s : State} {m : MethodId} {args : Array Value} {below : List Frame} {meth : Method} {c : Code} {T : State} {locs : List Loc} {k n : Nat}
theorem cr_inv (X : Stand p l e R s m args below meth c T locs k n) {y : MethodName} {cw : Cond} {rm : Room} {P : Array Value → State → Prop} {Q : Array Value → State → Outcome → State → Prop} (hM : MetFree l y (headSpec [cw] rm) P (fun _ _ _ _ _ => True) Q) {mk : MethodId} {methY : Method} {cY : Code} {kY : Class} {maxL : Nat}
    (hn : T.methodNamed? y = some mk) (hmY : T.vm.method? mk = some methY) (hcY : methY.code = some cY) (hlY : cY.maxLocals = maxL) (hkY : T.vm.classes[mk.cls]? = some kY) (hinitY : kY.init = .initialized)
    (hframes : rm.frames + 1 ≤ R.frames) (hlocals : 8 + (maxL + 11) + rm.locals ≤ R.locals) (hcells : k + rm.cells ≤ R.cells) (hslots : n + rm.slots ≤ R.slots) {a : Array Value} (hcw : cw.before a T = true)
    {g : JFrame} (hg : g.method = m) (hsize : g.locals.size = c.maxLocals) {ig : Instr} {len : Nat} (hdg : decode c.code g.pc = .ok (ig, len)) (hW : 2 * g.monitorRoom + (g.stack.map fun v => v.category).sum ≤ 8) (hP : P a (T.calling g mk a)) :
    ∃ o s₂, Steps p.tables e below (doInvoke e (T.setTop g) [] mk a).1 s₂ ∧ Ended s₂ (.java g :: below) o ∧ Q a (T.calling g mk a) o s₂ := by
  have h : At T g.method c below := by rw [hg]; exact X.here
  have happ : (headSpec [cw] rm).appliesLoose y e.platform (T.calling g mk a) = true :=
    Spec.appliesLoose_calling (g := g) h hdg hn hkY hinitY (X.room_calling (g := g) (R' := rm) hsize hmY hcY hframes (by rw [hlY]; omega) hcells hslots)
      (atoms_intro (fun w hw => by rw [List.mem_singleton.mp hw]; exact hcw))
  obtain ⟨mid, hmid⟩ := h.above
  have hfr : (T.setTop g).frames = (.java g :: mid) ++ below := by rw [State.frames_setTop' g h.top, hmid]; rfl
  obtain ⟨o, s₂, hsteps, -, hend, hq⟩ := Steps.callFree hM p X.admits X.cas X.clock (acts := []) hfr happ hP trivial
  rw [State.frames_setTop' g h.top, X.tail] at hend
  exact ⟨o, s₂, hsteps, hend, hq⟩
variable {H : Heap} {lo mc ms d : Nat} {Q : cr_Q} {U : State → Prop} {pc nx : Nat} {ls : Array Slot} {lv : cr_Lv} {st r av : List Value}
/-- behind the resolution of any invoke: the callee's contract, both outcomes; no handler covers the call -/
theorem cr_cal {y : MethodName} {cw : Cond} {maxL len : Nat} {ig : Instr} {K : cr_K} (hK : ∀ pc lv st H k n, K pc lv st H k n → cr_G p l e R s m args below meth c lo mc ms Q pc lv st H k n)
    (hR : R = cr_rm d mc ms) (hU : U s) (hst : cr_St U) (hlo : lo ≤ s.heap.size) (hlocks : meth.locks = false) (hout : ∀ x ∈ c.exceptionTable.toList, covers x pc = false) (hml : c.maxLocals = lv.length) (hmaxL : maxL ≤ 41)
    (hdg : decode c.code pc = .ok (ig, len)) (hnx : pc + len = nx) (hl : cr_L ls lv) (hq : ∀ q ∈ locs, cr_lc lo s q.base)
    (hcw : ∀ (a' : Array Value) (V : State), s.WarmedH V.vm → cw.before a' V = true)
    (hcY : ∀ V : State, s.WarmedH V.vm → ∀ mk, V.methodNamed? y = some mk → (∃ methY cY, V.vm.method? mk = some methY ∧ methY.code = some cY ∧ cY.maxLocals = maxL) ∧ ∃ kY, V.vm.classes[mk.cls]? = some kY ∧ kY.init = .initialized)
    (hres : ∀ T : State, T.heap = H → Stand p l e R s m args below meth c T locs k n → ∃ vm₁ mk, Stand p l e R s m args below meth c (T.setVm vm₁) locs k n ∧ (T.setVm vm₁).methodNamed? y = some mk ∧
      ∀ target, (∀ acts, Steps p.tables e below (doInvoke e ((T.setVm vm₁).setTop (F0 m pc ls r)) acts mk av.toArray).1 target) → Steps p.tables e below (T.setTop (F0 m pc ls st)) target)
    (h : cr_after l U lo y cw d mc ms nx K Q lv av r H k n) : W p l e R s m args below meth c H locs k n (cr_MQ below lo mc ms Q s) (F0 m pc ls st) := by
  obtain ⟨d', mc', ms', Qc, hM, hd', hk', hn', hcat, hret, hthr⟩ := h
  subst hnx
  refine cr_W_size (fun hsz => ?_)
  have hM := hM (Nat.le_trans hlo hsz)
  intro T hT X
  obtain ⟨vm₁, mk, X₁, hnm, hstp⟩ := hres T hT X
  have hU1 : U (T.setVm vm₁) := hst s _ X₁.warmed hU
  obtain ⟨⟨methY, cY, y1, y2, y3⟩, kY, y4, y5⟩ := hcY (T.setVm vm₁) X₁.warmed mk hnm
  have hsz9 : (F0 m pc ls r).locals.size = c.maxLocals := by rw [hml]; exact hl.1
  obtain ⟨o, s₂, hs, hend, hO, L, hFE, hL⟩ := cr_inv X₁ hM hnm y1 y2 y3 y4 y5 (by rw [hR]; exact hd') (by rw [hR]; show 8 + (maxL + 11) + 60 * d' ≤ 60 * d; omega) (by rw [hR]; exact hk') (by rw [hR]; exact hn') (a := av.toArray) (hcw _ _ X₁.warmed) (g := F0 m pc ls r) rfl hsz9 hdg
    (by show 2 * JFrame.monitorRoom _ + _ ≤ 8; simpa [JFrame.monitorRoom] using hcat) ⟨rfl, hT, hst (T.setVm vm₁) _ (State.WarmedH.refl (T.setVm vm₁)) hU1⟩
  have hlocs : ∀ q ∈ locs ++ L, cr_lc lo s q.base := fun q h => by
    rcases List.mem_append.mp h with h | h
    · exact hq q h
    · refine ⟨(hL q h).1, fun c0 h0 => ?_⟩
      obtain ⟨c', g1, g2, -⟩ := X₁.same.2.2.2.2.2 _ c0 h0
      have g3 := (hL q h).2 c' g1
      have g4 : c'.vm = c0.vm := by rw [g2]
      rw [← g4]
      exact g3
  have hgrow : H.size ≤ s₂.heap.size := by
    have h9 : (T.setVm vm₁).heap.size ≤ s₂.heap.size := hFE.2.2.1
    rw [← hT]
    exact h9
  rcases hO with ⟨v, rfl, hQ⟩ | ⟨a, kd, rfl, hEx, hQ⟩
  · obtain ⟨T', X', -, -, e2⟩ := X₁.outOf (g := F0 m pc ls r) rfl hdg hend hFE.1 hFE.2
    have eh : T'.heap = s₂.heap := by rw [e2]; rfl
    obtain ⟨t, a1, b1⟩ := hK _ _ _ _ _ _ (hret v s₂.heap hQ hgrow) ls (locs ++ L) hl hlocs T' eh X'
    refine ⟨t, hstp t (fun acts => ?_), b1⟩
    rw [doInvoke_state]
    rw [e2] at hs
    exact hs.trans a1
  · obtain ⟨T', X', -, -, e2⟩ := X₁.outOfThrown (g := F0 m pc ls r) rfl hend hFE.1 hFE.2
    have eh : T'.heap = s₂.heap := by rw [e2]; rfl
    obtain ⟨z1, z2, z3, z4, z5⟩ := X'.leaveThrown a (g := F0 m pc ls r) rfl rfl rfl hout hlocks
    refine ⟨_, hstp _ (fun acts => ?_), .threw a, z2, z3, Or.inr ⟨a, kd, rfl, ?_, ?_⟩, locs ++ L, ⟨z4, z5.mono hk' hn'⟩, hlocs⟩
    · rw [doInvoke_state]
      rw [e2] at hs
      exact hs.trans z1
    · obtain ⟨cell, c1, c2, c3⟩ := hEx
      refine ⟨cell, ?_, c2, ?_⟩
      · show T'.heap[a]? = some cell
        rw [eh]; exact c1
      · have h9 : (T.setVm vm₁).vm.findClass (cr_ex kd) = some cell.cls := c3
        rw [X₁.warmed.alike.findClass] at h9
        exact h9
    · show Q (.inr kd) T'.heap
      rw [eh]
      exact hthr kd _ hQ hgrow
end CR4
section CR5
variable {p : Program} {l : Launch} {e : Env} {R : Room} {s : State} {m : MethodId} {args : Array Value} {below : List Frame} {meth : Method} {c : Code} {lo mc ms d : Nat} {Q : cr_Q}
variable {cc : ByteArray} {pc nx : Nat} {D : va_G} {cl : List vw_C} {tys : List (ClassId × FieldType)} {U : State → Prop} {own : String} {index na : Nat} {y : MethodName} {bytes : ByteArray} {maxL nL : Nat} {ret : Option FieldType}
/-- a static call of na arguments -/
def cr_calS (l : Launch) (U : State → Prop) (lo : Nat) (y : MethodName) (cw : Cond) (d mc ms : Nat) (na nL nx : Nat) : cr_T := fun K Q lv st H k n =>
  lv.length = nL ∧ cr_tk na [] st (fun av r => cr_after l U lo y cw d mc ms nx K Q lv av r H k n)
/-- a call on an object of class ci, of na arguments beside it -/
def cr_calV (D : va_G) (cl : List vw_C) (l : Launch) (U : State → Prop) (lo : Nat) (ci : Nat) (y : MethodName) (cw : Cond) (d mc ms : Nat) (na nL nx : Nat) : cr_T := fun K Q lv st H k n =>
  lv.length = nL ∧ cr_tk (na + 1) [] st (fun av r => match av with | .ref b :: As => ∃ fs, va_at D cl (b, .inr (ci, fs)) H ∧ cr_after l U lo y cw d mc ms nx K Q lv (.ref b :: As) r H k n | _ => False)
/-- a constructor's call -/
def cr_calI (l : Launch) (U : State → Prop) (lo : Nat) (y : MethodName) (cw : Cond) (d mc ms : Nat) (na nL nx : Nat) : cr_T := fun K Q lv st H k n =>
  lv.length = nL ∧ cr_tk (na + 1) [] st (fun av r => match av with | .ref b :: As => cr_after l U lo y cw d mc ms nx K Q lv (.ref b :: As) r H k n | _ => False)
/-- what the tables say of a callee without handlers -/
theorem cr_callee (hst : cr_St U) (hcU : ∀ V, U V → (Cond.code y bytes maxL ret).before #[] V = true ∧ (Cond.initialized y.cls).before #[] V = true) (hU : U s) : (∀ (a' : Array Value) (V : State), s.WarmedH V.vm → (Cond.code y bytes maxL ret).before a' V = true) ∧
    ∀ V : State, s.WarmedH V.vm → ∀ mk, V.methodNamed? y = some mk → (∃ methY cY, V.vm.method? mk = some methY ∧ methY.code = some cY ∧ cY.maxLocals = maxL) ∧ ∃ kY, V.vm.classes[mk.cls]? = some kY ∧ kY.init = .initialized := by
  refine ⟨fun a' V hW => va_any rfl (hcU V (hst s V hW hU)).1, fun V hW mk hn => ?_⟩
  obtain ⟨h1, h2⟩ := hcU V (hst s V hW hU)
  obtain ⟨methY, cY, g1, g2, -, g3, -⟩ := Cond.code_spec hn h1
  obtain ⟨kY, hkY, -⟩ := className_of_methodNamed hn
  exact ⟨⟨methY, cY, g1, g2, g3⟩, kY, hkY, Cond.initialized_spec (findClass_of_methodNamed hn) hkY h2⟩
theorem cr_calS_ok (hx : p.tables.exec = Jvm.exec) (hb : c.code = cc) (hml : c.maxLocals = nL) (hown : s.vm.findClass own = some m.cls) (hlocks : meth.locks = false) (hU : U s) (hlo : lo ≤ s.heap.size) (hR : R = cr_rm d mc ms) (hst : cr_St U) (hout : ∀ x ∈ c.exceptionTable.toList, covers x pc = false)
    (hcU : ∀ V, U V → (Cond.code y bytes maxL ret).before #[] V = true ∧ (Cond.initialized y.cls).before #[] V = true) (hlink : (Cond.methodLink own index y).before args s = true ∨ ∃ host, (Cond.methodLinkNest own index y host).before args s = true) (hstat : (Cond.static y).before args s = true)
    (hy : y.cls ≠ "java/lang/invoke/MethodHandle" ∧ y.cls ≠ "java/lang/invoke/VarHandle") (hlen : (parseMethodDescriptor y.desc).map (fun d => d.parameters.length) = some na) (hmaxL : maxL ≤ 41) (hd : decode cc pc = .ok (.invokestatic index, 3)) (hn : pc + 3 = nx) :
    cr_Snd p l e R s m args below meth c lo mc ms Q pc (cr_calS l U lo y (.code y bytes maxL ret) d mc ms na nL nx) := by
  intro K lv st H k n hK h ls locs hl hq
  obtain ⟨hnL, h⟩ := h
  obtain ⟨vs, r, e1, e2, h⟩ := cr_tk_sp h
  rw [List.append_nil] at h
  obtain ⟨hcw, hcY⟩ := cr_callee hst hcU hU
  refine cr_cal (av := vs.reverse) (r := r) (maxL := maxL) (ig := .invokestatic index) (len := 3) hK hR hU hst hlo hlocks hout (by rw [hnL]; exact hml) hmaxL (by rw [hb]; exact hd) hn hl hq hcw hcY ?_ h
  intro T hT X
  have hcode := (hcU s hU).1
  have hini := (hcU s hU).2
  obtain ⟨mk, hnamed⟩ := Cond.code_named hcode
  obtain ⟨methM, cM, hmethM, -, -, -, -, -, -, hsigM⟩ := Cond.code_spec hnamed hcode
  have hstatic : methM.isStatic = true := Cond.static_spec hnamed hmethM hstat
  obtain ⟨kP, hkP, -⟩ := className_of_methodNamed hnamed
  have hinitP : kP.init = .initialized := Cond.initialized_spec (findClass_of_methodNamed hnamed) hkP hini
  have hle : vs.reverse.length = methM.sig.parameters.length := by
    rw [hsigM] at hlen
    rw [List.length_reverse, e2]
    exact (Option.some.inj hlen).symm
  rcases hlink with hlink | ⟨host, hlink⟩
  · obtain ⟨vm₁, X₁, hstep₁⟩ := X.invokestatic hx hown hlink hnamed hmethM hstatic hkP hinitP hy (g := F0 m pc ls st) rfl (argsL := vs.reverse) (rest := r) hle (by rw [List.reverse_reverse]; exact e1) (by rw [hb]; exact hd)
    exact ⟨vm₁, mk, X₁, X₁.named hnamed, hstep₁⟩
  · obtain ⟨vm₁, X₁, hstep₁⟩ := X.invokestaticNest hx hown hlink hnamed hmethM hstatic hkP hinitP hy (g := F0 m pc ls st) rfl (argsL := vs.reverse) (rest := r) hle (by rw [List.reverse_reverse]; exact e1) (by rw [hb]; exact hd)
    exact ⟨vm₁, mk, X₁, X₁.named hnamed, hstep₁⟩
theorem cr_rev {vs As : List Value} {v : Value} (h : vs.reverse = v :: As) : vs = As.reverse ++ [v] := by
  have h1 := congrArg List.reverse h
  simpa using h1
theorem cr_calV_ok {C : String} {Tf : u_T} {N ci : Nat} (hx : p.tables.exec = Jvm.exec) (hb : c.code = cc) (hml : c.maxLocals = nL) (hown : s.vm.findClass own = some m.cls) (hlocks : meth.locks = false) (hU : U s) (hlo : lo ≤ s.heap.size) (hR : R = cr_rm d mc ms) (hst : cr_St U) (hout : ∀ x ∈ c.exceptionTable.toList, covers x pc = false)
    (hKn : va_K D cl tys s) (hc : cl[ci]? = some (C, Tf, N)) (hcU : ∀ V, U V → (Cond.code y bytes maxL ret).before #[] V = true ∧ (Cond.initialized y.cls).before #[] V = true) (hlink : (Cond.methodLink own index y).before args s = true ∨ ∃ host, (Cond.methodLinkNest own index y host).before args s = true) (hinst : (Cond.instanceMethod y).before args s = true) (hsel : (Cond.selects C y y).before args s = true)
    (hy : y.cls ≠ "java/lang/invoke/MethodHandle" ∧ y.cls ≠ "java/lang/invoke/VarHandle") (hlen : (parseMethodDescriptor y.desc).map (fun d => d.parameters.length) = some na) (hmaxL : maxL ≤ 41) (hd : decode cc pc = .ok (.invokevirtual index, 3)) (hn : pc + 3 = nx) :
    cr_Snd p l e R s m args below meth c lo mc ms Q pc (cr_calV D cl l U lo ci y (.code y bytes maxL ret) d mc ms na nL nx) := by
  intro K lv st H k n hK h ls locs hl hq
  obtain ⟨hnL, h⟩ := h
  obtain ⟨vs, r, e1, e2, h⟩ := cr_tk_sp h
  rw [List.append_nil] at h
  match e3 : vs.reverse, h with
  | .ref b :: As, ⟨fs, hat, h⟩ =>
    have e4 := cr_rev e3
    obtain ⟨hcw, hcY⟩ := cr_callee hst hcU hU
    refine cr_cal (av := .ref b :: As) (r := r) (maxL := maxL) (ig := .invokevirtual index) (len := 3) hK hR hU hst hlo hlocks hout (by rw [hnL]; exact hml) hmaxL (by rw [hb]; exact hd) hn hl hq hcw hcY ?_ h
    intro T hT X
    have hcode := (hcU s hU).1
    obtain ⟨mk, methM, hnamed, hmethM, hstM, habM⟩ := Cond.instanceMethod_spec hinst
    obtain ⟨methM', cM, hmethM', -, -, -, -, -, -, hsigM⟩ := Cond.code_spec hnamed hcode
    cases hmethM.symm.trans hmethM'
    obtain ⟨cellB, hcB, hoB, hclB⟩ := va_recv hKn (cr_one hat) hc (q0 := 0) rfl
    obtain ⟨c2, r2, m2, q1, q2, q3, q4, kP, hkP, hkPi⟩ := Cond.selects_spec hsel
    cases hclB.symm.trans q1
    cases (State.methodFound?_of_named hnamed hy).symm.trans q2
    cases hnamed.symm.trans q3
    have hselP : selectMethod e.platform s.vm cellB.cls mk = .method mk := by rw [Launch.admits_selectMethod X.admits]; exact q4
    have hle : As.length = methM.sig.parameters.length := by
      rw [hsigM] at hlen
      have h9 : As.length + 1 = na + 1 := by rw [← e2, e4]; simp
      have h8 : methM.sig.parameters.length = na := Option.some.inj hlen
      omega
    have hstk : st = As.reverse ++ .ref b :: r := by rw [e1, e4]; simp
    rcases hlink with hlink | ⟨host, hlink⟩
    · obtain ⟨vm₁, X₁, hstep₁⟩ := X.invokevirtual hx hown hlink hnamed hmethM hstM hkP hkPi hy (a := b) (cell := cellB) (by rw [hT]; exact hcB) (fun z h => by rw [h] at hoB; cases hoB) hselP hmethM habM hkP hkPi (g := F0 m pc ls st) rfl (argsL := As) (rest := r) hle hstk (by rw [hb]; exact hd)
      exact ⟨vm₁, mk, X₁, X₁.named hnamed, hstep₁⟩
    · obtain ⟨vm₁, X₁, hstep₁⟩ := X.invokevirtualNest hx hown hlink hnamed hmethM hstM hkP hkPi hy (a := b) (cell := cellB) (by rw [hT]; exact hcB) (fun z h => by rw [h] at hoB; cases hoB) hselP hmethM habM hkP hkPi (g := F0 m pc ls st) rfl (argsL := As) (rest := r) hle hstk (by rw [hb]; exact hd)
      exact ⟨vm₁, mk, X₁, X₁.named hnamed, hstep₁⟩
theorem cr_calF_ok {C : String} {Tf : u_T} {N ci count : Nat} {x : MethodName} (hx : p.tables.exec = Jvm.exec) (hb : c.code = cc) (hml : c.maxLocals = nL) (hown : s.vm.findClass own = some m.cls) (hlocks : meth.locks = false) (hU : U s) (hlo : lo ≤ s.heap.size) (hR : R = cr_rm d mc ms) (hst : cr_St U) (hout : ∀ x ∈ c.exceptionTable.toList, covers x pc = false)
    (hKn : va_K D cl tys s) (hc : cl[ci]? = some (C, Tf, N)) (hcU : ∀ V, U V → (Cond.code y bytes maxL ret).before #[] V = true ∧ (Cond.initialized y.cls).before #[] V = true) (hlink : (Cond.methodLink own index x).before args s = true) (hdecl : (Cond.declares x).before args s = true) (hface : (Cond.interfaceMethod x.cls x.cls x.name x.desc).before args s = true)
    (hsel : (Cond.selects C x y).before args s = true) (hinst : (Cond.instanceMethod y).before args s = true) (hpub : (Cond.publicMethod y).before args s = true) (hunh : (Cond.unhidden C x.name x.desc).before args s = true) (hcast : (Cond.castable C x.cls).before args s = true)
    (hy : x.cls ≠ "java/lang/invoke/MethodHandle" ∧ x.cls ≠ "java/lang/invoke/VarHandle") (hlen : (parseMethodDescriptor x.desc).map (fun d => d.parameters.length) = some na) (hmaxL : maxL ≤ 41) (hd : decode cc pc = .ok (.invokeinterface index count, 5)) (hn : pc + 5 = nx) :
    cr_Snd p l e R s m args below meth c lo mc ms Q pc (cr_calV D cl l U lo ci y (.code y bytes maxL ret) d mc ms na nL nx) := by
  intro K lv st H k n hK h ls locs hl hq
  obtain ⟨hnL, h⟩ := h
  obtain ⟨vs, r, e1, e2, h⟩ := cr_tk_sp h
  rw [List.append_nil] at h
  match e3 : vs.reverse, h with
  | .ref b :: As, ⟨fs, hat, h⟩ =>
    have e4 := cr_rev e3
    obtain ⟨hcw, hcY⟩ := cr_callee hst hcU hU
    refine cr_cal (av := .ref b :: As) (r := r) (maxL := maxL) (ig := .invokeinterface index count) (len := 5) hK hR hU hst hlo hlocks hout (by rw [hnL]; exact hml) hmaxL (by rw [hb]; exact hd) hn hl hq hcw hcY ?_ h
    intro T hT X
    obtain ⟨cellB, hcB, hoB, hclB⟩ := va_recv hKn (cr_one hat) hc (q0 := 0) rfl
    obtain ⟨r0, rr, hn0, hrm, hstR, hsigR⟩ := Cond.declares_spec hdecl
    obtain ⟨cL, kL, r1, hcL, hkL, hiL, hfoundL, hn1⟩ := Cond.interfaceMethod_spec hface
    cases hn0.symm.trans hn1
    have hr0cls : r0.cls = cL := Option.some.inj ((findClass_of_methodNamed hn0).symm.trans hcL)
    obtain ⟨hnameR, hdescR⟩ := name_of_methodNamed hn0 hrm
    obtain ⟨mk, methM, hnamed, hmethM, -, habM⟩ := Cond.instanceMethod_spec hinst
    obtain ⟨c2, r2, m2, q1, q2, q3, q4, -⟩ := Cond.selects_spec hsel
    cases hclB.symm.trans q1
    cases hfoundL.symm.trans q2
    cases hnamed.symm.trans q3
    have hselP : selectMethod e.platform s.vm cellB.cls r0 = .method mk := by rw [Launch.admits_selectMethod X.admits]; exact q4
    have hpubM : hasFlag methM.accessFlags Acc.public_ = true := Cond.publicMethod_spec hnamed hmethM hpub
    have hway : ((cellB.cls :: s.vm.superclasses cellB.cls).any fun k => (declaredIn s.vm rr.name rr.desc k).any fun (_, z) => z.isPrivate || z.isStatic) = false := by
      rw [hnameR, hdescR]; exact Cond.unhidden_spec hclB hunh
    obtain ⟨c3, t3, w1, w2, w3⟩ := Cond.castable_spec hcast
    cases hclB.symm.trans w1
    cases hcL.symm.trans w2
    obtain ⟨kB, hkB⟩ := Vm.classAt_of_findClass hclB
    have hle : As.length = rr.sig.parameters.length := by
      rw [hsigR] at hlen
      have h9 : As.length + 1 = na + 1 := by rw [← e2, e4]; simp
      have h8 : rr.sig.parameters.length = na := Option.some.inj hlen
      omega
    have hstk : st = As.reverse ++ .ref b :: r := by rw [e1, e4]; simp
    obtain ⟨vm₁, X₁, hstep₁⟩ := X.invokeinterface hx hown hlink hn0 hrm hstR (by rw [hr0cls]; exact hkL) hiL hy (a := b) (cell := cellB) (kcell := kB) (by rw [hT]; exact hcB)
      (fun z h => by rw [h] at hoB; cases hoB) hkB (by rw [hr0cls]; exact w3) hselP hmethM hway hpubM habM (g := F0 m pc ls st) rfl (argsL := As) (rest := r) hle hstk (by rw [hb]; exact hd)
    exact ⟨vm₁, mk, X₁, X₁.named hnamed, hstep₁⟩
theorem cr_calI_ok (hx : p.tables.exec = Jvm.exec) (hb : c.code = cc) (hml : c.maxLocals = nL) (hown : s.vm.findClass own = some m.cls) (hlocks : meth.locks = false) (hU : U s) (hlo : lo ≤ s.heap.size) (hR : R = cr_rm d mc ms) (hst : cr_St U) (hout : ∀ x ∈ c.exceptionTable.toList, covers x pc = false)
    (hcU : ∀ V, U V → (Cond.code y bytes maxL none).before #[] V = true ∧ (Cond.initialized y.cls).before #[] V = true) (hlink : (Cond.methodLink own index y).before args s = true ∨ ∃ host, (Cond.methodLinkNest own index y host).before args s = true) (hinst : (Cond.instanceMethod y).before args s = true) (hy1 : y.name = "<init>")
    (hy : y.cls ≠ "java/lang/invoke/MethodHandle" ∧ y.cls ≠ "java/lang/invoke/VarHandle") (hlen : (parseMethodDescriptor y.desc).map (fun d => d.parameters.length) = some na) (hmaxL : maxL ≤ 41) (hd : decode cc pc = .ok (.invokespecial index, 3)) (hn : pc + 3 = nx) :
    cr_Snd p l e R s m args below meth c lo mc ms Q pc (cr_calI l U lo y (.code y bytes maxL none) d mc ms na nL nx) := by
  intro K lv st H k n hK h ls locs hl hq
  obtain ⟨hnL, h⟩ := h
  obtain ⟨vs, r, e1, e2, h⟩ := cr_tk_sp h
  rw [List.append_nil] at h
  match e3 : vs.reverse, h with
  | .ref b :: As, h =>
    have e4 := cr_rev e3
    obtain ⟨hcw, hcY⟩ := cr_callee hst hcU hU
    refine cr_cal (av := .ref b :: As) (r := r) (maxL := maxL) (ig := .invokespecial index) (len := 3) hK hR hU hst hlo hlocks hout (by rw [hnL]; exact hml) hmaxL (by rw [hb]; exact hd) hn hl hq hcw hcY ?_ h
    intro T hT X
    have hcode := (hcU s hU).1
    have hpl : e.platform.magicAccessors = ({} : Platform).magicAccessors := by rw [X.admits.platform]
    have hle : ∀ sig, parseMethodDescriptor y.desc = some sig → As.length = sig.parameters.length := by
      intro sig hsig
      rw [hsig] at hlen
      have h9 : As.length + 1 = na + 1 := by rw [← e2, e4]; simp
      have h8 : sig.parameters.length = na := Option.some.inj hlen
      omega
    have hstk : st = As.reverse ++ .ref b :: r := by rw [e1, e4]; simp
    rcases hlink with hlink | ⟨host, hlink⟩
    · obtain ⟨mk, methM, cM, kP, vm₁, hnamed, -, -, -, -, -, -, -, hW₁, hstep₁⟩ := Steps.initColdArgs (e := e) X.here hx X.warmed hpl hown hy1 hy hlink hinst (va_any rfl hcode) (f := F0 m pc ls st) rfl hle hstk (by rw [hb]; exact hd)
      have X₁ := X.noted hW₁
      exact ⟨vm₁, mk, X₁, X₁.named hnamed, hstep₁⟩
    · obtain ⟨mk, methM, cM, kP, vm₁, hnamed, -, -, -, -, -, -, -, hW₁, hstep₁⟩ := Steps.initColdArgsNest (e := e) X.here hx X.warmed hpl hown hy1 hy hlink hinst (va_any rfl hcode) (f := F0 m pc ls st) rfl hle hstk (by rw [hb]; exact hd)
      have X₁ := X.noted hW₁
      exact ⟨vm₁, mk, X₁, X₁.named hnamed, hstep₁⟩
/-- Object.<init>() -/
def cr_oinit (d nL nx : Nat) : cr_T := fun K _ lv st H k n => match st with
  | .ref _ :: r => lv.length = nL ∧ 1 ≤ d ∧ (r.map fun v => v.category).sum ≤ 8 ∧ K nx lv r H k n
  | _ => False
theorem cr_oinit_ok (hx : p.tables.exec = Jvm.exec) (hb : c.code = cc) (hml : c.maxLocals = nL) (hown : s.vm.findClass own = some m.cls) (hR : R = cr_rm d mc ms) (hlink : (Cond.methodLink own index Lib.objectInit).before args s = true) (hinst : (Cond.instanceMethod Lib.objectInit).before args s = true) (hcode : (Cond.code Lib.objectInit ⟨#[0xb1]⟩ 1 none).before args s = true)
    (hd : decode cc pc = .ok (.invokespecial index, 3)) (hn : pc + 3 = nx) : cr_Snd p l e R s m args below meth c lo mc ms Q pc (cr_oinit d nL nx) := by
  subst hn
  intro K lv st H k n hK h ls locs hl hq
  match st, h with
  | .ref a :: r, ⟨h1, h2, h3, h4⟩ =>
    refine W.objInit hx hb hown hlink hinst hcode rfl (by rw [hml, ← h1]; exact hl.1) rfl hd (by rw [hR]; exact h2) ?_ ?_
    · rw [hR]
      show 2 * JFrame.monitorRoom _ + _ + 12 ≤ 60 * d
      have h9 : 2 * (F0 m pc ls (.ref a :: r)).monitorRoom = 0 := by simp [JFrame.monitorRoom]
      omega
    · exact hK _ _ _ _ _ _ h4 ls locs hl hq
end CR5
end
section
/-! THE LIGHT MACHINE, its throws: an exception of the program's own is made and thrown; the walk is begun anew there ('cr_rebase'), so that what was written before stays said. -/
section CR6
variable {p : Program} {l : Launch} {e : Env} {R : Room} {s : State} {m : MethodId} {args : Array Value} {below : List Frame} {meth : Method} {c : Code} {T : State} {locs : List Loc} {k n : Nat}
theorem cr_hears {u v : State} (h : u.vm.Alike v.vm) (hh : u.hears m below = true) : v.hears m below = true := by
  cases below with
  | nil => simp only [State.hears] at hh ⊢; rw [h.method?]; exact hh
  | cons f r =>
    cases f with
    | java g =>
      have e1 : v.code? g.method = u.code? g.method := by rw [State.code?_eq, State.code?_eq, h.method?]
      simp only [State.hears] at hh ⊢
      rw [e1]
      exact hh
    | native _ => rfl
    | proc _ => rfl
    | _ => simp only [State.hears] at hh ⊢; rw [h.method?]; exact hh
/-- the same place, said of the state itself as the invocation's -/
theorem cr_rebase (X : Stand p l e R s m args below meth c T locs k n) {R' : Room} (hf : R'.frames ≤ R.frames) (hl : R'.locals ≤ R.locals) (hc : k + R'.cells ≤ R.cells) (hs : n + R'.slots ≤ R.slots) : Stand p l e R' (T.setFrames (.invoking m args :: below)) m args below meth c T [] 0 0 := by
  obtain ⟨g₀, hfr⟩ := X.frames_eq
  have hcur : T.cur < T.threads.size := State.cur_lt_of_frames hfr
  obtain ⟨th, hth, -⟩ := State.frames_cons hfr
  have hf9 : (T.setFrames (.invoking m args :: below)).frames = .invoking m args :: below := State.frames_setFrames _ hcur
  obtain ⟨th9, hth9, -⟩ := State.frames_cons hf9
  have hcur9 : (T.setFrames (.invoking m args :: below)).cur < (T.setFrames (.invoking m args :: below)).threads.size := State.cur_lt_of_frames hf9
  refine ⟨X.admits, X.cas, X.clock, hf9, ?_, cr_hears (u := s) X.warmed.alike X.hears, X.method', X.code, X.here, X.tail, State.WarmedH.refl _, (State.stackLimits_setFrames _ _ _).symm, (State.stackBytes_setFrames _ _).symm, ?_⟩
  · have hr := X.room
    have hh := X.heapSize
    have hu := X.used
    have hb := X.book
    have hlim := X.limits
    have hby := X.bytes
    simp only [State.hasRoom, Bool.and_eq_true, decide_eq_true_eq] at hr ⊢
    rw [State.localsInUse_invoking hf9 X.method' X.code, hf9, State.stackLimits_setFrames, State.stackBytes_setFrames, hlim, hby]
    rw [State.localsInUse_invoking X.frames X.method X.code, X.frames] at hr
    refine ⟨⟨⟨⟨by omega, ⟨by omega, by omega, by omega, by omega, hr.1.1.1.2.2.2.2.2⟩⟩, ?_⟩, ?_⟩, hb⟩
    · show T.heap.size + R'.cells ≤ _
      omega
    · show T.slotsUsed + R'.slots ≤ _
      omega
  · have h := (State.sameButNew.refl (T.setFrames (.invoking m args :: below)) hth9).setFrames T.frames hcur9
    rw [State.setFrames_setFrames, State.setFrames_self hth] at h
    exact h
end CR6
end
section
/-! THE FEWEST RIGHTS, as numbers: S the needs (bit sets), t what is taken (bits from u on), u how many are undecided, k how many more may be taken -/
def fw_pc (x : Nat) : Nat → Nat
  | 0 => 0
  | n + 1 => fw_pc x n + (if x.testBit n = true then 1 else 0)
theorem fw_pc_le {x y : Nat} (h : ∀ i, x.testBit i = true → y.testBit i = true) : ∀ n, fw_pc x n ≤ fw_pc y n
  | 0 => Nat.le_refl _
  | n + 1 => by
    have h1 := fw_pc_le h n
    unfold fw_pc
    by_cases hx : x.testBit n = true
    · rw [if_pos hx, if_pos (h n hx)]
      omega
    · rw [if_neg hx]
      omega
theorem fw_pc_add {x a b : Nat} (h : a &&& b = 0) : ∀ n, fw_pc (x &&& (a ||| b)) n = fw_pc (x &&& a) n + fw_pc (x &&& b) n
  | 0 => rfl
  | n + 1 => by
    have h1 := fw_pc_add (x := x) h n
    have h2 : (a.testBit n && b.testBit n) = false := by rw [← Nat.testBit_and, h]; exact Nat.zero_testBit n
    unfold fw_pc
    rw [h1]
    simp only [Nat.testBit_and, Nat.testBit_or]
    cases hx : x.testBit n <;> cases ha : a.testBit n <;> cases hb : b.testBit n <;> simp [ha, hb] at h2 ⊢ <;> omega
theorem fw_pc_pos {x : Nat} {i : Nat} (hi : x.testBit i = true) : ∀ n, i < n → 1 ≤ fw_pc x n
  | 0, h => by omega
  | n + 1, h => by
    unfold fw_pc
    by_cases hn : i = n
    · subst hn
      rw [if_pos hi]
      omega
    · have := fw_pc_pos hi n (by omega)
      omega
theorem fw_bit {x : Nat} (h : x ≠ 0) : ∃ i, x.testBit i = true := by
  refine Classical.byContradiction fun hn => h (Nat.eq_of_testBit_eq fun i => ?_)
  rw [Nat.zero_testBit]
  cases hb : x.testBit i with
  | false => rfl
  | true => exact absurd ⟨i, hb⟩ hn
theorem fw_pc_zero {x : Nat} : ∀ {n : Nat}, fw_pc x n = 0 → ∀ i, i < n → x.testBit i = false
  | 0, _, i, hi => by omega
  | n + 1, h, i, hi => by
    unfold fw_pc at h
    by_cases hn : i = n
    · subst hn
      cases hb : x.testBit i with
      | false => rfl
      | true => rw [if_pos hb] at h; omega
    · exact fw_pc_zero (n := n) (by omega) i (by omega)
/-- the bound -/
def fw_can : List Nat → Nat → Nat → Nat → Nat → Nat → Bool
  | [], _, _, k, _, w => decide (w ≤ k)
  | s :: S, t, f, k, sp, w => if w ≤ k then (if s &&& t = 0 then (if s &&& f = 0 then false else if (s &&& f) &&& sp = 0 then fw_can S t f k (sp ||| (s &&& f)) (w + 1) else fw_can S t f k sp w) else fw_can S t f k sp w) else false
def fw_meet (S : List Nat) (m : Nat) : Prop := ∀ s ∈ S, s &&& m ≠ 0
theorem fw_lt_bit {x u i : Nat} (hx : x < 2 ^ u) (hi : x.testBit i = true) : i < u := by
  refine Nat.lt_of_not_le fun h => ?_
  have h1 : x < 2 ^ i := Nat.lt_of_lt_of_le hx (Nat.pow_le_pow_right (by omega) h)
  rw [Nat.testBit_lt_two_pow h1] at hi
  cases hi
theorem fw_can_ok {t u k x : Nat} (hx : x < 2 ^ u) (hk : fw_pc x u ≤ k) : ∀ (S : List Nat) (sp w : Nat), fw_meet S (t ||| x) → w ≤ fw_pc (x &&& sp) u → fw_can S t (2 ^ u - 1) k sp w = true
  | [], sp, w, _, hw => by
    have h1 : fw_pc (x &&& sp) u ≤ fw_pc x u := fw_pc_le (fun i h => by rw [Nat.testBit_and] at h; simp at h; exact h.1) u
    unfold fw_can
    exact decide_eq_true (by omega)
  | s :: S, sp, w, hm, hw => by
    have h1 : fw_pc (x &&& sp) u ≤ fw_pc x u := fw_pc_le (fun i h => by rw [Nat.testBit_and] at h; simp at h; exact h.1) u
    have hS : fw_meet S (t ||| x) := fun y hy => hm y (List.mem_cons_of_mem _ hy)
    unfold fw_can
    rw [if_pos (by omega)]
    by_cases hst : s &&& t = 0
    · rw [if_pos hst]
      obtain ⟨i, hi⟩ := fw_bit (hm s List.mem_cons_self)
      simp only [Nat.testBit_and, Nat.testBit_or, Bool.and_eq_true, Bool.or_eq_true] at hi
      have hxi : x.testBit i = true := by
        rcases hi.2 with h | h
        · have h9 : (s &&& t).testBit i = true := by rw [Nat.testBit_and, hi.1, h]; rfl
          rw [hst, Nat.zero_testBit] at h9
          cases h9
        · exact h
      have hiu := fw_lt_bit hx hxi
      have hci : (s &&& (2 ^ u - 1)).testBit i = true := by
        rw [Nat.testBit_and, hi.1, Nat.testBit_two_pow_sub_one]
        simp [hiu]
      rw [if_neg (fun h => by rw [h, Nat.zero_testBit] at hci; cases hci)]
      by_cases hsp : (s &&& (2 ^ u - 1)) &&& sp = 0
      · rw [if_pos hsp]
        refine fw_can_ok hx hk S _ _ hS ?_
        have h2 : sp &&& (s &&& (2 ^ u - 1)) = 0 := by rw [Nat.and_comm]; exact hsp
        rw [fw_pc_add h2 u]
        have h3 : 1 ≤ fw_pc (x &&& (s &&& (2 ^ u - 1))) u := fw_pc_pos (i := i) (by rw [Nat.testBit_and, hxi, hci]; rfl) u hiu
        omega
      · rw [if_neg hsp]
        exact fw_can_ok hx hk S _ _ hS hw
    · rw [if_neg hst]
      exact fw_can_ok hx hk S _ _ hS hw
theorem fw_can_0 {t f : Nat} : ∀ (S : List Nat) (sp : Nat), fw_can S t f 0 sp 0 = true → sp = 0 → fw_meet S t
  | [], _, _, _ => fun s hs => by cases hs
  | s :: S, sp, h, hsp => by
    subst hsp
    unfold fw_can at h
    rw [if_pos (Nat.le_refl _)] at h
    by_cases hst : s &&& t = 0
    · rw [if_pos hst] at h
      by_cases hc : s &&& f = 0
      · rw [if_pos hc] at h; cases h
      · rw [if_neg hc, if_pos (Nat.and_zero _)] at h
        cases S with
        | nil => simp [fw_can] at h
        | cons a b => simp [fw_can] at h
    · rw [if_neg hst] at h
      have h1 := fw_can_0 S 0 h rfl
      intro y hy
      rcases List.mem_cons.mp hy with rfl | hy
      · exact hst
      · exact h1 y hy
theorem fw_can_f0 {t k : Nat} : ∀ (S : List Nat) (sp w : Nat), fw_can S t 0 k sp w = true → fw_meet S t
  | [], _, _, _ => fun s hs => by cases hs
  | s :: S, sp, w, h => by
    unfold fw_can at h
    by_cases hw : w ≤ k
    · rw [if_pos hw] at h
      by_cases hst : s &&& t = 0
      · rw [if_pos hst, if_pos (Nat.and_zero _)] at h
        cases h
      · rw [if_neg hst] at h
        have h1 := fw_can_f0 S sp w h
        intro y hy
        rcases List.mem_cons.mp hy with rfl | hy
        · exact hst
        · exact h1 y hy
    · rw [if_neg hw] at h
      cases h
def fw_lw (S : List Nat) : Nat → Nat → Nat → Option Nat
  | 0, t, k => if fw_can S t 0 k 0 0 = true then some t else none
  | u + 1, t, k => if fw_can S t (2 ^ (u + 1) - 1) k 0 0 = true then (if k = 0 then some t else match fw_lw S u t k with | some x => some x | none => fw_lw S u (t + 2 ^ u) (k - 1)) else none
/-- m takes what is taken, and of the undecided at most k more, and meets all -/
def fw_val (S : List Nat) (t u k m : Nat) : Prop := ∃ x, x < 2 ^ u ∧ fw_pc x u ≤ k ∧ m = t + x ∧ fw_meet S m
theorem fw_or {t u x : Nat} (ht : t % 2 ^ u = 0) (hx : x < 2 ^ u) : t + x = t ||| x := by
  have h1 : t = 2 ^ u * (t / 2 ^ u) := by
    have := Nat.div_add_mod t (2 ^ u)
    omega
  rw [h1, Nat.two_pow_add_eq_or_of_lt hx]
theorem fw_pc_lt {x : Nat} : ∀ {n : Nat}, x < 2 ^ n → fw_pc x (n + 1) = fw_pc x n := fun {n} h => by
  show fw_pc x n + (if x.testBit n = true then 1 else 0) = fw_pc x n
  rw [Nat.testBit_lt_two_pow h]
  simp
theorem fw_pc_mod (x : Nat) : ∀ (n u : Nat), n ≤ u → fw_pc (x % 2 ^ u) n = fw_pc x n
  | 0, _, _ => rfl
  | n + 1, u, h => by
    unfold fw_pc
    rw [fw_pc_mod x n u (by omega), Nat.testBit_mod_two_pow]
    simp [show n < u by omega]
theorem fw_pc_hi {x u : Nat} (hx : x < 2 ^ u) : fw_pc (2 ^ u + x) (u + 1) = fw_pc x u + 1 := by
  have h1 : (2 ^ u + x).testBit u = true := by
    rw [Nat.testBit_two_pow_add_eq, Nat.testBit_lt_two_pow hx]
    rfl
  show fw_pc (2 ^ u + x) u + (if (2 ^ u + x).testBit u = true then 1 else 0) = _
  rw [if_pos h1, ← fw_pc_mod (2 ^ u + x) u u (Nat.le_refl _), Nat.add_mod_left, Nat.mod_eq_of_lt hx]
theorem fw_pc_00 : ∀ n, fw_pc 0 n = 0
  | 0 => rfl
  | n + 1 => by
    unfold fw_pc
    rw [fw_pc_00 n]
    simp
theorem fw_lw_ok (S : List Nat) : ∀ (u t k : Nat), t % 2 ^ u = 0 → (∀ m, fw_lw S u t k = some m → fw_val S t u k m ∧ ∀ m', fw_val S t u k m' → m ≤ m') ∧ (fw_lw S u t k = none → ∀ m, ¬ fw_val S t u k m)
  | 0, t, k, ht => by
    unfold fw_lw
    refine ⟨fun m h => ?_, fun h m hv => ?_⟩
    · by_cases hc : fw_can S t 0 k 0 0 = true
      · rw [if_pos hc] at h
        cases h
        exact ⟨⟨0, by simp, by simp [fw_pc], rfl, fw_can_f0 S 0 0 hc⟩, fun m' ⟨x, h1, _, h3, _⟩ => by omega⟩
      · rw [if_neg hc] at h
        cases h
    · obtain ⟨x, h1, h2, h3, h4⟩ := hv
      have hx : x = 0 := by simpa using h1
      subst hx
      have hc : fw_can S t (2 ^ 0 - 1) k 0 0 = true := fw_can_ok (u := 0) (x := 0) (by simp) h2 S 0 0 (by rw [Nat.or_zero]; rw [Nat.add_zero] at h3; rw [← h3]; exact h4) (Nat.zero_le _)
      rw [if_pos hc] at h
      cases h
  | u + 1, t, k, ht => by
    have ht0 : t % 2 ^ u = 0 := by
      have h2 : 2 ^ (u + 1) = 2 ^ u * 2 := Nat.pow_succ 2 u
      have h3 := Nat.mod_mul_right_mod t (2 ^ u) 2
      rw [← h2, ht] at h3
      simpa using h3.symm
    have ht1 : (t + 2 ^ u) % 2 ^ u = 0 := by rw [Nat.add_mod_right]; exact ht0
    have can : ∀ m, fw_val S t (u + 1) k m → fw_can S t (2 ^ (u + 1) - 1) k 0 0 = true := fun m ⟨x, h1, h2, h3, h4⟩ =>
      fw_can_ok h1 h2 S 0 0 (by rw [← fw_or ht h1, ← h3]; exact h4) (Nat.zero_le _)
    obtain ⟨a1, a2⟩ := fw_lw_ok S u t k ht0
    obtain ⟨b1, b2⟩ := fw_lw_ok S u (t + 2 ^ u) (k - 1) ht1
    have up : ∀ m, fw_val S t u k m → fw_val S t (u + 1) k m := fun m ⟨x, h1, h2, h3, h4⟩ => ⟨x, Nat.lt_of_lt_of_le h1 (Nat.pow_le_pow_right (by omega) (by omega)), by rw [fw_pc_lt h1]; exact h2, h3, h4⟩
    have up2 : k ≠ 0 → ∀ m, fw_val S (t + 2 ^ u) u (k - 1) m → fw_val S t (u + 1) k m := fun hk m ⟨x, h1, h2, h3, h4⟩ => ⟨2 ^ u + x, by rw [Nat.pow_succ]; omega, by rw [fw_pc_hi h1]; omega, by omega, h4⟩
    have dn : ∀ m, fw_val S t (u + 1) k m → fw_val S t u k m ∨ (k ≠ 0 ∧ fw_val S (t + 2 ^ u) u (k - 1) m) := by
      intro m ⟨x, h1, h2, h3, h4⟩
      by_cases hx : x < 2 ^ u
      · exact Or.inl ⟨x, hx, by rw [fw_pc_lt hx] at h2; exact h2, h3, h4⟩
      · have h5 : x - 2 ^ u < 2 ^ u := by rw [Nat.pow_succ] at h1; omega
        have h6 : x = 2 ^ u + (x - 2 ^ u) := by omega
        rw [h6, fw_pc_hi h5] at h2
        exact Or.inr ⟨by omega, x - 2 ^ u, h5, by omega, by omega, h4⟩
    unfold fw_lw
    by_cases hc : fw_can S t (2 ^ (u + 1) - 1) k 0 0 = true
    · rw [if_pos hc]
      by_cases hk : k = 0
      · rw [if_pos hk]
        subst hk
        refine ⟨fun m h => ?_, fun h => by cases h⟩
        cases h
        exact ⟨⟨0, Nat.two_pow_pos _, by rw [fw_pc_00]; omega, rfl, fw_can_0 S 0 hc rfl⟩, fun m' ⟨x, _, _, h3, _⟩ => by omega⟩
      · rw [if_neg hk]
        cases hl : fw_lw S u t k with
        | some x =>
          obtain ⟨v1, v2⟩ := a1 x hl
          refine ⟨fun m h => ?_, fun h => by cases h⟩
          cases h
          refine ⟨up x v1, fun m' hm' => ?_⟩
          rcases dn m' hm' with h | ⟨-, h⟩
          · exact v2 m' h
          · obtain ⟨x1, g1, -, g3, -⟩ := v1
            obtain ⟨x2, k1, -, k3, -⟩ := h
            omega
        | none =>
          have hno := a2 hl
          refine ⟨fun m h => ?_, fun h m hm => ?_⟩
          · obtain ⟨v1, v2⟩ := b1 m h
            refine ⟨up2 hk m v1, fun m' hm' => ?_⟩
            rcases dn m' hm' with h' | ⟨-, h'⟩
            · exact absurd h' (hno m')
            · exact v2 m' h'
          · rcases dn m hm with h' | ⟨-, h'⟩
            · exact hno m h'
            · exact b2 h m h'
    · rw [if_neg hc]
      exact ⟨fun m h => (by cases h), fun _ m hm => hc (can m hm)⟩
end
section
/-! HOW MANY DIFFERENT NEEDS THERE CAN BE: the ends of n spans cut the day into 2 n pieces at most -/
def fw_in (fr to x : Nat) : Bool := if fr ≤ to then decide (fr ≤ x ∧ x < to) else decide (fr ≤ x ∨ x < to)
/-- the rights (of n) that have a use: group, zone, time -/
def fw_set (g z fr to : Nat → Nat) (g0 z0 x : Nat) : Nat → Nat
  | 0 => 0
  | n + 1 => fw_set g z fr to g0 z0 x n + (if (decide (g n = g0 ∧ z n = z0) && fw_in (fr n) (to n) x) = true then 2 ^ n else 0)
theorem fw_set_eq {g z fr to : Nat → Nat} {g0 z0 g1 z1 x y : Nat} : ∀ {n : Nat}, (∀ i, i < n → (decide (g i = g0 ∧ z i = z0) && fw_in (fr i) (to i) x) = (decide (g i = g1 ∧ z i = z1) && fw_in (fr i) (to i) y)) → fw_set g z fr to g0 z0 x n = fw_set g z fr to g1 z1 y n
  | 0, _ => rfl
  | n + 1, h => by
    unfold fw_set
    rw [fw_set_eq (fun i hi => h i (by omega)), h n (by omega)]
theorem fw_set_ne {g z fr to : Nat → Nat} {g0 z0 x : Nat} : ∀ {n : Nat}, fw_set g z fr to g0 z0 x n ≠ 0 → ∃ i, i < n ∧ g i = g0 ∧ z i = z0 ∧ fw_in (fr i) (to i) x = true
  | 0, h => absurd rfl h
  | n + 1, h => by
    by_cases hc : (decide (g n = g0 ∧ z n = z0) && fw_in (fr n) (to n) x) = true
    · simp only [Bool.and_eq_true, decide_eq_true_eq] at hc
      exact ⟨n, by omega, hc.1.1, hc.1.2, hc.2⟩
    · unfold fw_set at h
      rw [if_neg hc, Nat.add_zero] at h
      obtain ⟨i, h1, h2⟩ := fw_set_ne h
      exact ⟨i, by omega, h2⟩
def fw_prev (u : Nat) : Nat := if u = 0 then 1439 else u - 1
theorem fw_edge {fr to u : Nat} (h1 : fr < 1440) (h2 : to < 1440) (hu : u < 1440) (h : fw_in fr to u ≠ fw_in fr to (fw_prev u)) : u = fr ∨ u = to := by
  unfold fw_in fw_prev at h
  by_cases c : fr ≤ to <;> by_cases c2 : u = 0 <;> simp only [c, c2, if_true, if_false] at h <;>
    (refine Classical.byContradiction fun hn => h ?_
     first
       | (rw [decide_eq_decide]; omega)
       | (simp only [decide_eq_decide]; omega))
theorem fw_never {fr to : Nat} (h2 : to < 1440) : fw_in fr to to = false := by
  unfold fw_in
  by_cases c : fr ≤ to
  · rw [if_pos c]
    exact decide_eq_false (by omega)
  · rw [if_neg c]
    exact decide_eq_false (by omega)
/-- a set that is not empty begins at an end of a span -/
theorem fw_begin {g z fr to : Nat → Nat} {n g0 z0 x : Nat} (hf : ∀ i, i < n → fr i < 1440) (ht : ∀ i, i < n → to i < 1440) (hx : x < 1440) (h : fw_set g z fr to g0 z0 x n ≠ 0) :
    ∃ i, i < n ∧ (fw_set g z fr to g0 z0 x n = fw_set g z fr to (g i) (z i) (fr i) n ∨ fw_set g z fr to g0 z0 x n = fw_set g z fr to (g i) (z i) (to i) n) := by
  obtain ⟨i0, hi0, e1, e2, e3⟩ := fw_set_ne h
  -- going back from x, somewhere the set changes
  have key : ∃ u, u < 1440 ∧ fw_set g z fr to g0 z0 u n = fw_set g z fr to g0 z0 x n ∧ fw_set g z fr to g0 z0 (fw_prev u) n ≠ fw_set g z fr to g0 z0 x n := by
    refine Classical.byContradiction fun hn => ?_
    have all : ∀ u, u < 1440 → fw_set g z fr to g0 z0 u n = fw_set g z fr to g0 z0 x n → fw_set g z fr to g0 z0 (fw_prev u) n = fw_set g z fr to g0 z0 x n := fun u h1 h2 =>
      Classical.byContradiction fun h3 => hn ⟨u, h1, h2, h3⟩
    have down : ∀ k, k ≤ x → fw_set g z fr to g0 z0 (x - k) n = fw_set g z fr to g0 z0 x n := by
      intro k
      induction k with
      | zero => intro _; rfl
      | succ k ih =>
        intro hk
        have h1 := all (x - k) (by omega) (ih (by omega))
        have h2 : fw_prev (x - k) = x - (k + 1) := by
          unfold fw_prev
          rw [if_neg (by omega)]
          omega
        rw [h2] at h1
        exact h1
    have h0 : fw_set g z fr to g0 z0 0 n = fw_set g z fr to g0 z0 x n := by
      have := down x (Nat.le_refl _)
      rwa [Nat.sub_self] at this
    have hlast : fw_set g z fr to g0 z0 1439 n = fw_set g z fr to g0 z0 x n := all 0 (by omega) h0
    have top : ∀ k, k ≤ 1439 → fw_set g z fr to g0 z0 (1439 - k) n = fw_set g z fr to g0 z0 x n := by
      intro k
      induction k with
      | zero => intro _; exact hlast
      | succ k ih =>
        intro hk
        have h1 := all (1439 - k) (by omega) (ih (by omega))
        have h2 : fw_prev (1439 - k) = 1439 - (k + 1) := by
          unfold fw_prev
          rw [if_neg (by omega)]
          omega
        rw [h2] at h1
        exact h1
    have hto := ht i0 hi0
    have heq := top (1439 - to i0) (by omega)
    rw [show 1439 - (1439 - to i0) = to i0 by omega] at heq
    have hbit : ∀ (m : Nat), i0 < m → m ≤ n → fw_set g z fr to g0 z0 (to i0) m % 2 ^ (i0 + 1) / 2 ^ i0 = 0 ∧ fw_set g z fr to g0 z0 x m % 2 ^ (i0 + 1) / 2 ^ i0 = 1 := by
      intro m
      induction m with
      | zero => intro h; omega
      | succ m ih =>
        intro h1 h2
        have lt : ∀ (y q : Nat), fw_set g z fr to g0 z0 y q < 2 ^ q := by
          intro y q
          induction q with
          | zero => simp [fw_set]
          | succ q ihq =>
            unfold fw_set
            rw [Nat.pow_succ]
            split <;> omega
        by_cases hm : i0 = m
        · subst hm
          have a1 := lt (to i0) i0
          have a2 := lt x i0
          have hp : 2 ^ (i0 + 1) = 2 ^ i0 * 2 := Nat.pow_succ 2 i0
          constructor
          · unfold fw_set
            rw [fw_never hto, Bool.and_false, if_neg (by decide), Nat.add_zero, Nat.mod_eq_of_lt (by omega), Nat.div_eq_of_lt a1]
          · unfold fw_set
            rw [e3, Bool.and_true, if_pos (decide_eq_true ⟨e1, e2⟩), Nat.mod_eq_of_lt (by omega)]
            rw [Nat.add_div_right _ (Nat.two_pow_pos _), Nat.div_eq_of_lt a2]
        · obtain ⟨b1, b2⟩ := ih (by omega) (by omega)
          have dv : ∀ c : Nat, (if c = 1 then 2 ^ m else 0) % 2 ^ (i0 + 1) = 0 := by
            intro c
            split
            · have : 2 ^ m = 2 ^ (i0 + 1) * 2 ^ (m - (i0 + 1)) := by rw [← Nat.pow_add]; congr 1; omega
              rw [this, Nat.mul_mod_right]
            · exact Nat.zero_mod _
          have st : ∀ y, fw_set g z fr to g0 z0 y (m + 1) % 2 ^ (i0 + 1) = fw_set g z fr to g0 z0 y m % 2 ^ (i0 + 1) := by
            intro y
            have e9 : fw_set g z fr to g0 z0 y (m + 1) = fw_set g z fr to g0 z0 y m + (if (decide (g m = g0 ∧ z m = z0) && fw_in (fr m) (to m) y) = true then 2 ^ m else 0) := rfl
            have hd : (if (decide (g m = g0 ∧ z m = z0) && fw_in (fr m) (to m) y) = true then 2 ^ m else 0) % 2 ^ (i0 + 1) = 0 := by
              split
              · have := dv 1
                simpa using this
              · exact Nat.zero_mod _
            rw [e9, Nat.add_mod, hd, Nat.add_zero, Nat.mod_mod]
          rw [st, st]
          exact ⟨b1, b2⟩
    obtain ⟨c1, c2⟩ := hbit n hi0 (Nat.le_refl _)
    rw [heq] at c1
    omega
  obtain ⟨u, hu, k1, k2⟩ := key
  have hd : ∃ i, i < n ∧ (decide (g i = g0 ∧ z i = z0) && fw_in (fr i) (to i) (fw_prev u)) ≠ (decide (g i = g0 ∧ z i = z0) && fw_in (fr i) (to i) u) := by
    refine Classical.byContradiction fun hn => k2 ?_
    rw [← k1]
    refine fw_set_eq (fun i hi => Classical.byContradiction fun h3 => hn ⟨i, hi, h3⟩)
  obtain ⟨i, hi, hne⟩ := hd
  have hg : g i = g0 ∧ z i = z0 := by
    refine Classical.byContradiction fun hc => hne ?_
    rw [decide_eq_false hc]
    rfl
  rw [decide_eq_true hg, Bool.true_and, Bool.true_and] at hne
  refine ⟨i, hi, ?_⟩
  rw [hg.1, hg.2, ← k1]
  rcases fw_edge (hf i hi) (ht i hi) hu (fun h => hne h.symm) with h | h
  · exact Or.inl (by rw [← h])
  · exact Or.inr (by rw [← h])
theorem fw_pig : ∀ (L M : List Nat), L.Nodup → (∀ x ∈ L, x ∈ M) → L.length ≤ M.length
  | [], _, _, _ => Nat.zero_le _
  | x :: t, M, hn, h => by
    have hx := h x List.mem_cons_self
    have h1 := fw_pig t (M.erase x) (List.nodup_cons.mp hn).2 (fun y hy => (List.mem_erase_of_ne (fun e => (List.nodup_cons.mp hn).1 (by rw [← e]; exact hy))).mpr (h y (List.mem_cons_of_mem _ hy)))
    rw [List.length_erase_of_mem hx] at h1
    have h2 := List.length_pos_of_mem hx
    simp only [List.length_cons]
    omega
/-- at most 2 n different needs -/
theorem fw_count {g z fr to : Nat → Nat} {n : Nat} (hf : ∀ i, i < n → fr i < 1440) (ht : ∀ i, i < n → to i < 1440) (L : List Nat) (hn : L.Nodup) (h : ∀ y ∈ L, y ≠ 0 ∧ ∃ g0 z0 x, x < 1440 ∧ y = fw_set g z fr to g0 z0 x n) : L.length ≤ 2 * n := by
  have h1 := fw_pig L ((List.range n).map (fun i => fw_set g z fr to (g i) (z i) (fr i) n) ++ (List.range n).map (fun i => fw_set g z fr to (g i) (z i) (to i) n)) hn (fun y hy => by
    obtain ⟨h0, g0, z0, x, hx, e⟩ := h y hy
    rw [e] at h0
    obtain ⟨i, hi, h2⟩ := fw_begin hf ht hx h0
    rw [e]
    rcases h2 with h2 | h2
    · exact List.mem_append.mpr (Or.inl (List.mem_map.mpr ⟨i, List.mem_range.mpr hi, h2.symm⟩))
    · exact List.mem_append.mpr (Or.inr (List.mem_map.mpr ⟨i, List.mem_range.mpr hi, h2.symm⟩)))
  simp at h1
  omega
end
