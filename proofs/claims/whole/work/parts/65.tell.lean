/-! What is told after one telling more -/
section TEL
variable {G : mm_G}
theorem tl_28 (kd w mi : Nat) : mm_tl G kd w mi 28 0 = G 28 0 + 1 := mm_up_s _ _ _ _
theorem tl_29 (kd w mi i : Nat) : mm_tl G kd w mi 29 i = if i = G 28 0 then kd else G 29 i := by
  unfold mm_tl
  rw [mm_up_k _ _ _ _ (by decide), mm_up_k _ _ _ _ (by decide), mm_up_k _ _ _ _ (by decide)]
  by_cases e : i = G 28 0
  · rw [if_pos e, e, mm_up_s]
  · rw [if_neg e, mm_up_i _ _ _ _ e]
theorem tl_30 (kd w mi i : Nat) : mm_tl G kd w mi 30 i = if i = G 28 0 then w else G 30 i := by
  unfold mm_tl
  rw [mm_up_k _ _ _ _ (by decide), mm_up_k _ _ _ _ (by decide)]
  by_cases e : i = G 28 0
  · rw [if_pos e, e, mm_up_s]
  · rw [if_neg e, mm_up_i _ _ _ _ e, mm_up_k _ _ _ _ (by decide)]
theorem tl_31 (kd w mi i : Nat) : mm_tl G kd w mi 31 i = if i = G 28 0 then mi else G 31 i := by
  unfold mm_tl
  rw [mm_up_k _ _ _ _ (by decide)]
  by_cases e : i = G 28 0
  · rw [if_pos e, e, mm_up_s]
  · rw [if_neg e, mm_up_i _ _ _ _ e, mm_up_k _ _ _ _ (by decide), mm_up_k _ _ _ _ (by decide)]
theorem tl_k {kd w mi k i : Nat} (h1 : k ≠ 28) (h2 : k ≠ 29) (h3 : k ≠ 30) (h4 : k ≠ 31) : mm_tl G kd w mi k i = G k i := by
  unfold mm_tl
  rw [mm_up_k _ _ _ _ h1, mm_up_k _ _ _ _ h4, mm_up_k _ _ _ _ h3, mm_up_k _ _ _ _ h2]
theorem tl_lk (kd w mi kd' w' t : Nat) (h : t ≤ G 28 0) : mm_lk (mm_tl G kd w mi) kd' w' t = mm_lk G kd' w' t :=
  mm_lk_eq kd' w' t (fun i hi => ⟨by rw [tl_29, if_neg (by omega)], by rw [tl_30, if_neg (by omega)], by rw [tl_31, if_neg (by omega)]⟩)
/-- what a door knows that went off before -/
theorem tl_old {kd w mi kd' w' b : Nat} (h : b ≤ G 28 0) : mm_to (mm_tl G kd w mi) kd' w' b = mm_to G kd' w' b := by
  unfold mm_to
  rw [tl_28, if_neg (by omega), tl_lk _ _ _ _ _ _ h]
  by_cases e : G 28 0 ≤ b
  · rw [if_pos e, show G 28 0 = b by omega]
  · rw [if_neg e]
/-- what the whole knows now -/
theorem tl_new {kd w mi kd' w' : Nat} (h : G 28 0 < 9000) : mm_to (mm_tl G kd w mi) kd' w' 9000 = if kd' = kd ∧ w' = w then nI mi else mm_to G kd' w' 9000 := by
  unfold mm_to
  rw [tl_28, if_pos (by omega), if_pos (show G 28 0 ≤ 9000 by omega)]
  show (if mm_tl G kd w mi 29 (G 28 0) = kd' ∧ mm_tl G kd w mi 30 (G 28 0) = w' then nI (mm_tl G kd w mi 31 (G 28 0)) else mm_lk (mm_tl G kd w mi) kd' w' (G 28 0)) = _
  rw [tl_29, tl_30, tl_31, if_pos rfl, if_pos rfl, if_pos rfl, tl_lk _ _ _ _ _ _ (Nat.le_refl _)]
  by_cases e : kd' = kd ∧ w' = w
  · rw [if_pos e, if_pos ⟨e.1.symm, e.2.symm⟩]
  · rw [if_neg e, if_neg (fun q => e ⟨q.1.symm, q.2.symm⟩)]
/-- a door that goes off now knows what the whole knows -/
theorem to_now {kd w : Nat} (h : G 28 0 ≤ 9000) : mm_to G kd w (G 28 0) = mm_to G kd w 9000 := by
  unfold mm_to
  rw [if_pos (Nat.le_refl _), if_pos h]
end TEL
