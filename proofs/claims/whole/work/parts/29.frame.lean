/-! FRAMES: what a call leaves as it was -/
def cr_Fr (S : Nat → Prop) (H H' : Heap) : Prop := H.size ≤ H'.size ∧ ∀ q : Nat, q < H.size → ¬ S q → H'[q]? = H[q]?
section FRM
variable {S S1 S2 : Nat → Prop} {H H1 H2 : Heap} {D : va_G} {cl : List vw_C} {s0 : State}
theorem cr_Fr.refl (H : Heap) : cr_Fr S H H := ⟨Nat.le_refl _, fun _ _ _ => rfl⟩
theorem cr_Fr.mono (h : cr_Fr S H H1) (hs : ∀ q, q < H.size → S q → S1 q) : cr_Fr S1 H H1 := ⟨h.1, fun q a b => h.2 q a (fun c => b (hs q a c))⟩
theorem cr_Fr.trans (h : cr_Fr S H H1) (h2 : cr_Fr S1 H1 H2) (hs : ∀ q, q < H.size → S q → S2 q) (hs1 : ∀ q, q < H.size → S1 q → S2 q) : cr_Fr S2 H H2 :=
  ⟨Nat.le_trans h.1 h2.1, fun q a b => (h2.2 q (Nat.lt_of_lt_of_le a h.1) (fun c => b (hs1 q a c))).trans (h.2 q a (fun c => b (hs q a c)))⟩
theorem cr_Up.fr {a : Nat} {x : va_E} (h : cr_Up D cl H a x H1) : cr_Fr (fun q => q = a) H H1 := ⟨by rw [h.1]; exact Nat.le_refl _, fun q _ b => h.2.2 q b⟩
theorem cr_Nw.fr {lo q : Nat} {x : va_E} (h : cr_Nw D cl lo H q x H1) : cr_Fr (fun _ => False) H H1 := ⟨by rw [h.2.2.1]; omega, fun y a _ => h.2.2.2.2 y a⟩
theorem cr_at_eq {q : Nat} {x : va_E} (h : va_at D cl (q, x) H) (e : H1[q]? = H[q]?) : va_at D cl (q, x) H1 := by
  cases x with
  | inl a => exact (show H1[q]? = _ from e.trans h)
  | inr o =>
    obtain ⟨r, h1, h2⟩ := h
    exact ⟨r, h1, h2.kept e⟩
theorem cr_at_lt {q : Nat} {x : va_E} (h : va_at D cl (q, x) H) : q < H.size := by
  cases x with
  | inl a => exact (Array.getElem?_eq_some_iff.mp (show H[q]? = some _ from h)).1
  | inr o =>
    obtain ⟨r, h1, cell, h2, -⟩ := h
    exact (Array.getElem?_eq_some_iff.mp h2).1
theorem cr_Fr.at (h : cr_Fr S H H1) {q : Nat} {x : va_E} (hx : va_at D cl (q, x) H) (hs : ¬ S q) : va_at D cl (q, x) H1 := cr_at_eq hx (h.2 q (cr_at_lt hx) hs)
theorem cr_Fr.old (h : cr_Fr S H H1) (ho : cr_Old s0 H) (hz : s0.heap.size ≤ H.size) (hs : ∀ q, S q → s0.heap.size ≤ q) : cr_Old s0 H1 := fun q hq => (h.2 q (Nat.lt_of_lt_of_le hq hz) (fun c => by have := hs q c; omega)).trans (ho q hq)
end FRM
