/-! ===== the world at the law's start ===== -/
theorem jworld {s : State} {b : Nat} (hts : ∀ w ∈ lw_tbl, w.before #[Value.ref b] s = true) (hgv : (Jvm.Cond.and given_1 narrow_1).before #[Value.ref b] s = true) : ∃ E : jE, E.1 = s.heap.size ∧ jWs E s := by
  have htb : ∀ w ∈ jTB, w.before #[Value.ref b] s = true := fun w hw => hts w (List.mem_filter.mp hw).1
  have hs := flat_of_before _ hgv
  have hA : ∀ a : Nat, a < s.heap.size → ¬ (fun q : Nat => s.heap.size ≤ q) a := fun a h z => absurd z (Nat.not_le.mpr h)
  obtain ⟨c0, i0, k0⟩ := u_known (C := RX0) (T := TX0) (N := 3) (n := 3) htb jinX0 (htb (.instantiable RX0 3) (jm 167 (by decide +kernel) (by decide +kernel)))
  obtain ⟨c1, i1, k1⟩ := u_known (C := RX1) (T := TX1) (N := 6) (n := 6) htb jinX1 (htb (.instantiable RX1 6) (jm 70 (by decide +kernel) (by decide +kernel)))
  obtain ⟨c2, i2, k2⟩ := u_known (C := RX2) (T := TX2) (N := 8) (n := 8) htb jinX2 (htb (.instantiable RX2 8) (jm 64 (by decide +kernel) (by decide +kernel)))
  obtain ⟨c3, i3, k3⟩ := u_known (C := RX3) (T := TX3) (N := 9) (n := 9) htb jinX3 (htb (.instantiable RX3 9) (jm 185 (by decide +kernel) (by decide +kernel)))
  obtain ⟨c4, i4, k4⟩ := u_known (C := RX4) (T := TX4) (N := 3) (n := 3) htb jinX4 (htb (.instantiable RX4 3) (jm 224 (by decide +kernel) (by decide +kernel)))
  obtain ⟨c5, i5, k5⟩ := u_known (C := RX5) (T := TX5) (N := 6) (n := 6) htb jinX5 (htb (.instantiable RX5 6) (jm 56 (by decide +kernel) (by decide +kernel)))
  obtain ⟨c6, i6, k6⟩ := u_known (C := RX6) (T := TX6) (N := 14) (n := 14) htb jinX6 (htb (.instantiable RX6 14) (jm 619 (by decide +kernel) (by decide +kernel)))
  obtain ⟨dC, dI, hKc⟩ : ∃ (dC : Nat → ClassId) (dI : Nat → Nat → Nat), ∀ (k : Nat) (q : vw_C), vwCl[k]? = some q → u_Kn s q.1 q.2.1 q.2.2 (dC k) (dI k) := by
    refine ⟨fun k => if k = 0 then c0 else if k = 1 then c1 else if k = 2 then c2 else if k = 3 then c3 else if k = 4 then c4 else if k = 5 then c5 else c6, fun k => if k = 0 then i0 else if k = 1 then i1 else if k = 2 then i2 else if k = 3 then i3 else if k = 4 then i4 else if k = 5 then i5 else i6, ?_⟩
    intro k q hq
    match k, hq with
    | 0, hq => cases hq; exact k0
    | 1, hq => cases hq; exact k1
    | 2, hq => cases hq; exact k2
    | 3, hq => cases hq; exact k3
    | 4, hq => cases hq; exact k4
    | 5, hq => cases hq; exact k5
    | 6, hq => cases hq; exact k6
    | k + 7, hq => simp [vwCl] at hq
  obtain ⟨cI, kI, mI, a1, a2, a3⟩ := Cond.arrayClass_spec (htb (.arrayClass .int) (jm 134 (by decide +kernel) (by decide +kernel)))
  have hov : (Cond.arrayOver (.object "JumpDiscs$Game")).before #[Value.ref b] s = true := hts _ (by decide +kernel)
  obtain ⟨mG, cG, kG, g1, g2, g3, g4, g5⟩ := Cond.arrayOver_spec hov
  have ini : (Cond.initialized "JumpDiscs").before #[Value.ref b] s = true := hts _ (by decide +kernel)
  obtain ⟨tx, ex, Tx⟩ := va_Tof (args := #[Value.ref b]) (s := s) (tm := .static "JumpDiscs" "BASE_X" "[I") (ty := .int) (N := 4) (f := fun j => .int (jtabX j)) (A := fun q : Nat => s.heap.size ≤ q) (by decide) (hs _ (by decide +kernel)) (va_eqt (hs (.eq (.length (.static "JumpDiscs" "BASE_X" "[I")) (.int 4)) (by decide +kernel))) (fun j hj => by
    have e0 := va_eqt (hs (.eq (.elem (.static "JumpDiscs" "BASE_X" "[I") (.int 0)) (.int 0)) (by decide +kernel))
    have e1 := va_eqt (hs (.eq (.elem (.static "JumpDiscs" "BASE_X" "[I") (.int 1)) (.int 40)) (by decide +kernel))
    have e2 := va_eqt (hs (.eq (.elem (.static "JumpDiscs" "BASE_X" "[I") (.int 2)) (.int 40)) (by decide +kernel))
    have e3 := va_eqt (hs (.eq (.elem (.static "JumpDiscs" "BASE_X" "[I") (.int 3)) (.int 0)) (by decide +kernel))
    have : j = 0 ∨ j = 1 ∨ j = 2 ∨ j = 3 := by omega
    rcases this with rfl | rfl | rfl | rfl
    · exact e0
    · exact e1
    · exact e2
    · exact e3) hA
  obtain ⟨ty, ey, Ty⟩ := va_Tof (args := #[Value.ref b]) (s := s) (tm := .static "JumpDiscs" "BASE_Y" "[I") (ty := .int) (N := 4) (f := fun j => .int (jtabY j)) (A := fun q : Nat => s.heap.size ≤ q) (by decide) (hs _ (by decide +kernel)) (va_eqt (hs (.eq (.length (.static "JumpDiscs" "BASE_Y" "[I")) (.int 4)) (by decide +kernel))) (fun j hj => by
    have e0 := va_eqt (hs (.eq (.elem (.static "JumpDiscs" "BASE_Y" "[I") (.int 0)) (.int 0)) (by decide +kernel))
    have e1 := va_eqt (hs (.eq (.elem (.static "JumpDiscs" "BASE_Y" "[I") (.int 1)) (.int 0)) (by decide +kernel))
    have e2 := va_eqt (hs (.eq (.elem (.static "JumpDiscs" "BASE_Y" "[I") (.int 2)) (.int 40)) (by decide +kernel))
    have e3 := va_eqt (hs (.eq (.elem (.static "JumpDiscs" "BASE_Y" "[I") (.int 3)) (.int 40)) (by decide +kernel))
    have : j = 0 ∨ j = 1 ∨ j = 2 ∨ j = 3 := by omega
    rcases this with rfl | rfl | rfl | rfl
    · exact e0
    · exact e1
    · exact e2
    · exact e3) hA
  obtain ⟨tp, ep, Tp⟩ := va_Tof (args := #[Value.ref b]) (s := s) (tm := .static "JumpDiscs" "PLACE_TWELFTHS" "[I") (ty := .int) (N := 4) (f := fun j => .int (jtabP j)) (A := fun q : Nat => s.heap.size ≤ q) (by decide) (hs _ (by decide +kernel)) (va_eqt (hs (.eq (.length (.static "JumpDiscs" "PLACE_TWELFTHS" "[I")) (.int 4)) (by decide +kernel))) (fun j hj => by
    have e0 := va_eqt (hs (.eq (.elem (.static "JumpDiscs" "PLACE_TWELFTHS" "[I") (.int 0)) (.int 48)) (by decide +kernel))
    have e1 := va_eqt (hs (.eq (.elem (.static "JumpDiscs" "PLACE_TWELFTHS" "[I") (.int 1)) (.int 24)) (by decide +kernel))
    have e2 := va_eqt (hs (.eq (.elem (.static "JumpDiscs" "PLACE_TWELFTHS" "[I") (.int 2)) (.int 12)) (by decide +kernel))
    have e3 := va_eqt (hs (.eq (.elem (.static "JumpDiscs" "PLACE_TWELFTHS" "[I") (.int 3)) (.int 0)) (by decide +kernel))
    have : j = 0 ∨ j = 1 ∨ j = 2 ∨ j = 3 := by omega
    rcases this with rfl | rfl | rfl | rfl
    · exact e0
    · exact e1
    · exact e2
    · exact e3) hA
  refine ⟨(s.heap.size, (dC, dI), cI, cG, tx, ty, tp), rfl, ⟨⟨Nat.le_refl _, va_AO.of hov⟩, ⟨hKc, fun k q hq => ?_⟩, jNW_of hts, ⟨va_Zof (hts _ (by decide +kernel)) ini ex hA, Tx⟩, ⟨va_Zof (hts _ (by decide +kernel)) ini ey hA, Ty⟩, ⟨va_Zof (hts _ (by decide +kernel)) ini ep hA, Tp⟩⟩⟩
  match k, hq with
  | 0, hq => cases hq; exact ⟨fun n z => ⟨fun k h => (by cases h), kI, a2, mI, a3⟩, a1⟩
  | 1, hq => cases hq; exact ⟨fun n z => ⟨fun k h => (by cases h), kG, g3, mG, g4⟩, kG, mG, g3, g4, g1, g5⟩
  | k + 2, hq => simp [jtys] at hq
