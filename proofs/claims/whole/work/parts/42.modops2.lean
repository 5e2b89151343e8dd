/-! THE REFERENCE's methods, the greater ones (printed by gen/ops2.py) -/
section MOP2
variable {l : Launch} {s0 : State} {D : va_G} {ca : Nat → ClassId} {e0 : Nat} {H : Heap} {y : Nat} {ad : Nat → Nat} {G : mm_G}
/-- a span of the day, and group and zone -/
def mm_spI (f o a z g9 z9 t : Int32) : Bool := (cond (decide (o ≤ f)) ((!decide (f ≤ o)) && (!decide (t < f) || !decide (o ≤ t))) (!decide (t < f) && !decide (o ≤ t))) && (decide (a = g9) && decide (z = z9))
def mm_sp (G : mm_G) (r : Nat) (g z t : Int32) : Bool := mm_spI (nI (G 25 r)) (nI (G 26 r)) (nI (G 23 r)) (nI (G 24 r)) g z t
set_option maxRecDepth 20000 in
theorem j_M_spans (hl : l.flags = flags0) (Z : cr_Z0 s0 D ca e0) (h : mm_R s0 D ca H y ad G) {r : Nat} {g z t : Int32} (hr : r < 16) : cr_c l s0 y_M_spans cw_M_spans 0 0 0 [.ref y, .int (nI r), .int g, .int z, .int t] H (cr_pu (some (.int (cr_b (mm_sp G r g z t)))) H) := by
  refine cr_enter (by decide +kernel) (Nat.le_of_ble_eq_true rfl) (fun hlo P9 E9 S9 M9 A9 B9 T9 C9 C hem hH => ?_)
  refine cr_vc [] 90 (s_M_spans hl Z C hem) (fun K hK => ?_)
  conv => whnf
  refine ⟨_, h.o, ?_⟩
  conv => whnf
  refine ⟨_, _, _, h.a 25 rfl, rfl, hr, cr_le rfl, ?_⟩
  conv => whnf
  refine ⟨fun b8 => ?_, fun b8 => ?_⟩
  · conv => whnf
    refine ⟨cr_le rfl, ?_⟩
    conv => whnf
    refine ⟨_, h.o, ?_⟩
    conv => whnf
    refine ⟨_, _, _, h.a 26 rfl, rfl, hr, cr_le rfl, ?_⟩
    conv => whnf
    refine ⟨fun b26 => ?_, fun b26 => ?_⟩
    · conv => whnf
      refine ⟨cr_le rfl, ?_⟩
      conv => whnf
      refine ⟨_, h.o, ?_⟩
      conv => whnf
      refine ⟨_, _, _, h.a 25 rfl, rfl, hr, cr_le rfl, ?_⟩
      conv => whnf
      refine ⟨_, h.o, ?_⟩
      conv => whnf
      refine ⟨_, _, _, h.a 26 rfl, rfl, hr, cr_le rfl, ?_⟩
      conv => whnf
      refine ⟨fun b48 => ?_, fun b48 => ?_⟩
      · conv => whnf
        refine ⟨_, h.o, ?_⟩
        conv => whnf
        refine ⟨_, _, _, h.a 25 rfl, rfl, hr, cr_le rfl, ?_⟩
        conv => whnf
        refine ⟨_, h.o, ?_⟩
        conv => whnf
        refine ⟨_, _, _, h.a 26 rfl, rfl, hr, cr_le rfl, ?_⟩
        conv => whnf
        refine ⟨fun b81 => ?_, fun b81 => ?_⟩
        · conv => whnf
          refine ⟨cr_le rfl, ?_⟩
          conv => whnf
          refine ⟨fun b103 => ?_, fun b103 => absurd rfl b103⟩
          conv => whnf
          exact ⟨rfl, cr_le rfl, cr_le rfl, (by rw [show mm_sp G r g z t = false by simp [mm_sp, mm_spI, b8, b26, b48, b81]]; rfl), rfl⟩
        · conv => whnf
          refine ⟨fun b86 => absurd rfl b86, fun b86 => ?_⟩
          conv => whnf
          refine ⟨fun b91 => ?_, fun b91 => absurd rfl b91⟩
          conv => whnf
          refine ⟨cr_le rfl, ?_⟩
          conv => whnf
          refine ⟨fun b103 => ?_, fun b103 => absurd rfl b103⟩
          conv => whnf
          exact ⟨rfl, cr_le rfl, cr_le rfl, (by rw [show mm_sp G r g z t = false by simp [mm_sp, mm_spI, b8, b26, b48, b81]]; rfl), rfl⟩
      · conv => whnf
        refine ⟨fun b53 => ?_, fun b53 => absurd rfl b53⟩
        conv => whnf
        refine ⟨cr_le rfl, ?_⟩
        conv => whnf
        refine ⟨fun b103 => ?_, fun b103 => absurd rfl b103⟩
        conv => whnf
        exact ⟨rfl, cr_le rfl, cr_le rfl, (by rw [show mm_sp G r g z t = false by simp [mm_sp, mm_spI, b8, b26, b48]]; rfl), rfl⟩
    · conv => whnf
      refine ⟨cr_le rfl, ?_⟩
      conv => whnf
      refine ⟨_, h.o, ?_⟩
      conv => whnf
      refine ⟨_, _, _, h.a 25 rfl, rfl, hr, cr_le rfl, ?_⟩
      conv => whnf
      refine ⟨_, h.o, ?_⟩
      conv => whnf
      refine ⟨_, _, _, h.a 26 rfl, rfl, hr, cr_le rfl, ?_⟩
      conv => whnf
      refine ⟨fun b48 => ?_, fun b48 => ?_⟩
      · conv => whnf
        refine ⟨_, h.o, ?_⟩
        conv => whnf
        refine ⟨_, _, _, h.a 25 rfl, rfl, hr, cr_le rfl, ?_⟩
        conv => whnf
        refine ⟨_, h.o, ?_⟩
        conv => whnf
        refine ⟨_, _, _, h.a 26 rfl, rfl, hr, cr_le rfl, ?_⟩
        conv => whnf
        refine ⟨fun b81 => ?_, fun b81 => ?_⟩
        · conv => whnf
          refine ⟨cr_le rfl, ?_⟩
          conv => whnf
          refine ⟨fun b103 => ?_, fun b103 => absurd rfl b103⟩
          conv => whnf
          exact ⟨rfl, cr_le rfl, cr_le rfl, (by rw [show mm_sp G r g z t = false by simp [mm_sp, mm_spI, b8, b26, b48, b81]]; rfl), rfl⟩
        · conv => whnf
          refine ⟨fun b86 => absurd rfl b86, fun b86 => ?_⟩
          conv => whnf
          refine ⟨fun b91 => absurd b91 (by decide), fun b91 => ?_⟩
          conv => whnf
          refine ⟨cr_le rfl, ?_⟩
          conv => whnf
          refine ⟨fun b103 => absurd b103 (by decide), fun b103 => ?_⟩
          conv => whnf
          refine ⟨_, h.o, ?_⟩
          conv => whnf
          refine ⟨_, _, _, h.a 23 rfl, rfl, hr, cr_le rfl, ?_⟩
          conv => whnf
          refine ⟨fun b113 => ?_, fun b113 => ?_⟩
          · conv => whnf
            exact ⟨rfl, cr_le rfl, cr_le rfl, (by rw [show mm_sp G r g z t = false by simp [mm_sp, mm_spI, b8, b26, b48, b81, b113]]; rfl), rfl⟩
          · conv => whnf
            refine ⟨_, h.o, ?_⟩
            conv => whnf
            refine ⟨_, _, _, h.a 24 rfl, rfl, hr, cr_le rfl, ?_⟩
            conv => whnf
            refine ⟨fun b123 => ?_, fun b123 => ?_⟩
            · conv => whnf
              exact ⟨rfl, cr_le rfl, cr_le rfl, (by rw [show mm_sp G r g z t = false by simp [mm_sp, mm_spI, b8, b26, b48, b81, b113, b123]]; rfl), rfl⟩
            · conv => whnf
              exact ⟨rfl, cr_le rfl, cr_le rfl, (by rw [show mm_sp G r g z t = true by simp [mm_sp, mm_spI, b8, b26, b48, b81, b113, b123]]; rfl), rfl⟩
      · conv => whnf
        refine ⟨fun b53 => ?_, fun b53 => absurd rfl b53⟩
        conv => whnf
        refine ⟨cr_le rfl, ?_⟩
        conv => whnf
        refine ⟨fun b103 => ?_, fun b103 => absurd rfl b103⟩
        conv => whnf
        exact ⟨rfl, cr_le rfl, cr_le rfl, (by rw [show mm_sp G r g z t = false by simp [mm_sp, mm_spI, b8, b26, b48]]; rfl), rfl⟩
  · conv => whnf
    refine ⟨cr_le rfl, ?_⟩
    conv => whnf
    refine ⟨_, h.o, ?_⟩
    conv => whnf
    refine ⟨_, _, _, h.a 26 rfl, rfl, hr, cr_le rfl, ?_⟩
    conv => whnf
    refine ⟨fun b26 => ?_, fun b26 => ?_⟩
    · conv => whnf
      refine ⟨cr_le rfl, ?_⟩
      conv => whnf
      refine ⟨_, h.o, ?_⟩
      conv => whnf
      refine ⟨_, _, _, h.a 25 rfl, rfl, hr, cr_le rfl, ?_⟩
      conv => whnf
      refine ⟨_, h.o, ?_⟩
      conv => whnf
      refine ⟨_, _, _, h.a 26 rfl, rfl, hr, cr_le rfl, ?_⟩
      conv => whnf
      refine ⟨fun b48 => ?_, fun b48 => ?_⟩
      · conv => whnf
        refine ⟨_, h.o, ?_⟩
        conv => whnf
        refine ⟨_, _, _, h.a 25 rfl, rfl, hr, cr_le rfl, ?_⟩
        conv => whnf
        refine ⟨_, h.o, ?_⟩
        conv => whnf
        refine ⟨_, _, _, h.a 26 rfl, rfl, hr, cr_le rfl, ?_⟩
        conv => whnf
        refine ⟨fun b81 => ?_, fun b81 => ?_⟩
        · conv => whnf
          refine ⟨cr_le rfl, ?_⟩
          conv => whnf
          refine ⟨fun b103 => ?_, fun b103 => absurd rfl b103⟩
          conv => whnf
          exact ⟨rfl, cr_le rfl, cr_le rfl, (by rw [show mm_sp G r g z t = false by simp [mm_sp, mm_spI, b8, b26, b48, b81]]; rfl), rfl⟩
        · conv => whnf
          refine ⟨fun b86 => ?_, fun b86 => absurd b86 (by decide)⟩
          conv => whnf
          refine ⟨cr_le rfl, ?_⟩
          conv => whnf
          refine ⟨fun b103 => absurd b103 (by decide), fun b103 => ?_⟩
          conv => whnf
          refine ⟨_, h.o, ?_⟩
          conv => whnf
          refine ⟨_, _, _, h.a 23 rfl, rfl, hr, cr_le rfl, ?_⟩
          conv => whnf
          refine ⟨fun b113 => ?_, fun b113 => ?_⟩
          · conv => whnf
            exact ⟨rfl, cr_le rfl, cr_le rfl, (by rw [show mm_sp G r g z t = false by simp [mm_sp, mm_spI, b8, b26, b48, b81, b113]]; rfl), rfl⟩
          · conv => whnf
            refine ⟨_, h.o, ?_⟩
            conv => whnf
            refine ⟨_, _, _, h.a 24 rfl, rfl, hr, cr_le rfl, ?_⟩
            conv => whnf
            refine ⟨fun b123 => ?_, fun b123 => ?_⟩
            · conv => whnf
              exact ⟨rfl, cr_le rfl, cr_le rfl, (by rw [show mm_sp G r g z t = false by simp [mm_sp, mm_spI, b8, b26, b48, b81, b113, b123]]; rfl), rfl⟩
            · conv => whnf
              exact ⟨rfl, cr_le rfl, cr_le rfl, (by rw [show mm_sp G r g z t = true by simp [mm_sp, mm_spI, b8, b26, b48, b81, b113, b123]]; rfl), rfl⟩
      · conv => whnf
        refine ⟨fun b53 => absurd b53 (by decide), fun b53 => ?_⟩
        conv => whnf
        refine ⟨fun b58 => ?_, fun b58 => absurd rfl b58⟩
        conv => whnf
        refine ⟨cr_le rfl, ?_⟩
        conv => whnf
        refine ⟨fun b103 => ?_, fun b103 => absurd rfl b103⟩
        conv => whnf
        exact ⟨rfl, cr_le rfl, cr_le rfl, (by rw [show mm_sp G r g z t = false by simp [mm_sp, mm_spI, b8, b26, b48]]; rfl), rfl⟩
    · conv => whnf
      refine ⟨cr_le rfl, ?_⟩
      conv => whnf
      refine ⟨_, h.o, ?_⟩
      conv => whnf
      refine ⟨_, _, _, h.a 25 rfl, rfl, hr, cr_le rfl, ?_⟩
      conv => whnf
      refine ⟨_, h.o, ?_⟩
      conv => whnf
      refine ⟨_, _, _, h.a 26 rfl, rfl, hr, cr_le rfl, ?_⟩
      conv => whnf
      refine ⟨fun b48 => ?_, fun b48 => ?_⟩
      · conv => whnf
        refine ⟨_, h.o, ?_⟩
        conv => whnf
        refine ⟨_, _, _, h.a 25 rfl, rfl, hr, cr_le rfl, ?_⟩
        conv => whnf
        refine ⟨_, h.o, ?_⟩
        conv => whnf
        refine ⟨_, _, _, h.a 26 rfl, rfl, hr, cr_le rfl, ?_⟩
        conv => whnf
        refine ⟨fun b81 => ?_, fun b81 => ?_⟩
        · conv => whnf
          refine ⟨cr_le rfl, ?_⟩
          conv => whnf
          refine ⟨fun b103 => ?_, fun b103 => absurd rfl b103⟩
          conv => whnf
          exact ⟨rfl, cr_le rfl, cr_le rfl, (by rw [show mm_sp G r g z t = false by simp [mm_sp, mm_spI, b8, b26, b48, b81]]; rfl), rfl⟩
        · conv => whnf
          refine ⟨fun b86 => ?_, fun b86 => absurd b86 (by decide)⟩
          conv => whnf
          refine ⟨cr_le rfl, ?_⟩
          conv => whnf
          refine ⟨fun b103 => absurd b103 (by decide), fun b103 => ?_⟩
          conv => whnf
          refine ⟨_, h.o, ?_⟩
          conv => whnf
          refine ⟨_, _, _, h.a 23 rfl, rfl, hr, cr_le rfl, ?_⟩
          conv => whnf
          refine ⟨fun b113 => ?_, fun b113 => ?_⟩
          · conv => whnf
            exact ⟨rfl, cr_le rfl, cr_le rfl, (by rw [show mm_sp G r g z t = false by simp [mm_sp, mm_spI, b8, b26, b48, b81, b113]]; rfl), rfl⟩
          · conv => whnf
            refine ⟨_, h.o, ?_⟩
            conv => whnf
            refine ⟨_, _, _, h.a 24 rfl, rfl, hr, cr_le rfl, ?_⟩
            conv => whnf
            refine ⟨fun b123 => ?_, fun b123 => ?_⟩
            · conv => whnf
              exact ⟨rfl, cr_le rfl, cr_le rfl, (by rw [show mm_sp G r g z t = false by simp [mm_sp, mm_spI, b8, b26, b48, b81, b113, b123]]; rfl), rfl⟩
            · conv => whnf
              exact ⟨rfl, cr_le rfl, cr_le rfl, (by rw [show mm_sp G r g z t = true by simp [mm_sp, mm_spI, b8, b26, b48, b81, b113, b123]]; rfl), rfl⟩
      · conv => whnf
        refine ⟨fun b53 => absurd b53 (by decide), fun b53 => ?_⟩
        conv => whnf
        refine ⟨fun b58 => absurd b58 (by decide), fun b58 => ?_⟩
        conv => whnf
        refine ⟨cr_le rfl, ?_⟩
        conv => whnf
        refine ⟨fun b103 => absurd b103 (by decide), fun b103 => ?_⟩
        conv => whnf
        refine ⟨_, h.o, ?_⟩
        conv => whnf
        refine ⟨_, _, _, h.a 23 rfl, rfl, hr, cr_le rfl, ?_⟩
        conv => whnf
        refine ⟨fun b113 => ?_, fun b113 => ?_⟩
        · conv => whnf
          exact ⟨rfl, cr_le rfl, cr_le rfl, (by rw [show mm_sp G r g z t = false by simp [mm_sp, mm_spI, b8, b26, b48, b113]]; rfl), rfl⟩
        · conv => whnf
          refine ⟨_, h.o, ?_⟩
          conv => whnf
          refine ⟨_, _, _, h.a 24 rfl, rfl, hr, cr_le rfl, ?_⟩
          conv => whnf
          refine ⟨fun b123 => ?_, fun b123 => ?_⟩
          · conv => whnf
            exact ⟨rfl, cr_le rfl, cr_le rfl, (by rw [show mm_sp G r g z t = false by simp [mm_sp, mm_spI, b8, b26, b48, b113, b123]]; rfl), rfl⟩
          · conv => whnf
            exact ⟨rfl, cr_le rfl, cr_le rfl, (by rw [show mm_sp G r g z t = true by simp [mm_sp, mm_spI, b8, b26, b48, b113, b123]]; rfl), rfl⟩
def mm_io (G : mm_G) (d r : Int32) : Bool := mm_in d (nI (G 4 0)) && (mm_in r (nI (G 2 0)) && (decide (nI (G 5 d.toNatClampNeg) = r) || decide (nI (G 6 d.toNatClampNeg) = r)))
set_option maxRecDepth 20000 in
theorem j_M_isOf (hl : l.flags = flags0) (Z : cr_Z0 s0 D ca e0) (h : mm_R s0 D ca H y ad G) {d r : Int32} (hd : G 4 0 ≤ 30) : cr_c l s0 y_M_isOf cw_M_isOf 1 0 0 [.ref y, .int d, .int r] H (cr_pu (some (.int (cr_b (mm_io G d r)))) H) := by
  refine cr_enter (by decide +kernel) (Nat.le_of_ble_eq_true rfl) (fun hlo P9 E9 S9 M9 A9 B9 T9 C9 C hem hH => ?_)
  refine cr_vc [] 90 (s_M_isOf hl Z C hem) (fun K hK => ?_)
  conv => whnf
  refine ⟨_, h.o, ?_⟩
  conv => whnf
  refine ⟨rfl, ?_⟩
  conv => whnf
  refine ⟨_, _, _, _, j_M_isIn hl Z, by decide, cr_le rfl, cr_le rfl, cr_le rfl, fun v1 H1 q1 _ => ?_, fun kd H9 q9 _ => by cases q9.1⟩
  obtain ⟨q1a, q1b⟩ := q1
  cases q1a
  replace q1b := q1b.symm
  subst q1b
  conv => whnf
  refine ⟨fun b8 => ?_, fun b8 => ?_⟩
  · conv => whnf
    exact ⟨rfl, cr_le rfl, cr_le rfl, (by rw [show mm_io G d r = false by simp [mm_io, cr_bf b8]]; rfl), rfl⟩
  · conv => whnf
    refine ⟨_, h.o, ?_⟩
    conv => whnf
    refine ⟨rfl, ?_⟩
    conv => whnf
    refine ⟨_, _, _, _, j_M_isIn hl Z, by decide, cr_le rfl, cr_le rfl, cr_le rfl, fun v3 H3 q3 _ => ?_, fun kd H9 q9 _ => by cases q9.1⟩
    obtain ⟨q3a, q3b⟩ := q3
    cases q3a
    replace q3b := q3b.symm
    subst q3b
    conv => whnf
    refine ⟨fun b19 => ?_, fun b19 => ?_⟩
    · conv => whnf
      exact ⟨rfl, cr_le rfl, cr_le rfl, (by rw [show mm_io G d r = false by simp [mm_io, cr_bf b19]]; rfl), rfl⟩
    · conv => whnf
      refine ⟨_, h.o, ?_⟩
      conv => whnf
      obtain ⟨d9, e9, hd9⟩ := mm_in_nat (by omega) (cr_bt b8)
      subst e9
      refine ⟨_, _, _, h.a 5 rfl, rfl, show d9 < 30 by omega, cr_le rfl, ?_⟩
      conv => whnf
      refine ⟨fun b29 => ?_, fun b29 => ?_⟩
      · conv => whnf
        exact ⟨rfl, cr_le rfl, cr_le rfl, (by rw [show mm_io G (nI d9) r = true by unfold mm_io; rw [nI_clamp (by omega)]; simp [cr_bt b8, cr_bt b19, b29]]; rfl), rfl⟩
      · conv => whnf
        refine ⟨_, h.o, ?_⟩
        conv => whnf
        refine ⟨_, _, _, h.a 6 rfl, rfl, show d9 < 30 by omega, cr_le rfl, ?_⟩
        conv => whnf
        refine ⟨fun b39 => ?_, fun b39 => ?_⟩
        · conv => whnf
          exact ⟨rfl, cr_le rfl, cr_le rfl, (by rw [show mm_io G (nI d9) r = false by unfold mm_io; rw [nI_clamp (by omega)]; simp [b29, b39]]; rfl), rfl⟩
        · conv => whnf
          exact ⟨rfl, cr_le rfl, cr_le rfl, (by rw [show mm_io G (nI d9) r = true by unfold mm_io; rw [nI_clamp (by omega)]; simp [cr_bt b8, cr_bt b19, b39]]; rfl), rfl⟩
end MOP2
