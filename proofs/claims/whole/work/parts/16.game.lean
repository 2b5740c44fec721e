/-! ===== Game: its methods (but the constructor) ===== -/
abbrev jovr (cu rd : Int32) : Prop := 5 < rd ∨ janyin cu
def jstep (ti go : Int32) (q : Nat × Int32) : Nat × Int32 := ((q.1 + 1) % 4, if (q.1 + 1) % 4 = 0 ∧ ti ≤ go then q.2 + 1 else q.2)
def jskip (ti go : Int32) (fr : Nat → Int32) : Nat → Nat × Int32 → Nat × Int32
  | 0, q => q
  | n + 1, q => if fr q.1 = 0 then jskip ti go fr n (jstep ti go q) else q
def jskipT (fr : Nat → Int32) : Nat → Nat → Nat
  | 0, t => t
  | n + 1, t => if fr t = 0 then jskipT fr n ((t + 1) % 4) else t
/-- endTurn: whose turn, how many rounds, once 'go' turns are gone -/
def jend (ti go : Int32) (fr : Nat → Int32) (b : Prop) [Decidable b] (q : Nat × Int32) : Nat × Int32 := jskip ti go fr 4 (if b then q else jstep ti go q)
def jseed (se : Int64) : Int64 := se * 48271 - se * 48271 / 2147483647 * 2147483647
def jdraw (se : Int64) (sp : Int32) : Int32 := (jseed se - jseed se / (2 * sp + 1).toInt64 * (2 * sp + 1).toInt64).toInt32 - sp
theorem jstep_lt (ti go : Int32) (q : Nat × Int32) : (jstep ti go q).1 < 4 := Nat.mod_lt _ (by decide)
theorem jskip_lt {ti go : Int32} {fr : Nat → Int32} : ∀ (n : Nat) (q : Nat × Int32), q.1 < 4 → (jskip ti go fr n q).1 < 4
  | 0, q, h => h
  | n + 1, q, h => by
    unfold jskip
    split
    · exact jskip_lt n _ (jstep_lt ti go q)
    · exact h
theorem jskipT_lt {fr : Nat → Int32} : ∀ (n t : Nat), t < 4 → jskipT fr n t < 4
  | 0, t, h => h
  | n + 1, t, h => by
    unfold jskipT
    split
    · exact jskipT_lt n _ (Nat.mod_lt _ (by decide))
    · exact h
theorem jend_lt {ti go : Int32} {fr : Nat → Int32} {b : Prop} [Decidable b] {q : Nat × Int32} (h : q.1 < 4) : (jend ti go fr b q).1 < 4 := by
  unfold jend
  apply jskip_lt
  split
  · exact h
  · exact jstep_lt _ _ _
section GA
variable {l : Launch} {E : jE} {h : List va_E} {g d : Nat} {xs ys cv : Nat → Int32} {ly cu cd ro ru ti go rd : Int32} {se : Int64} {tu : Nat}
theorem c_X2_isTimeCome (hg : g + 4 < h.length) : jMd l E yX2_isTimeCome cX2_isTimeCome 1 (some .boolean) 0 [.ref (E.1 + g)] (jp13 E h g xs ys cv ly cu cd ro ru ti se tu go rd) (some (.int (jB01 (ti ≤ go)))) (jp13 E h g xs ys cv ly cu cd ro ru ti se tu go rd) 0 0 := by
  refine jMd_of (by decide) (Nat.le_of_ble_eq_true rfl) (by simp [Value.category]) (by first | rfl | simp [jpG_len, jpB_len]) (fun x hx F T hm => ?_)
  refine jG_aload_n F dX2_isTimeCome_0 rfl ?_
  refine jg_X2_35 F dX2_isTimeCome_1 (jpG_o hg) rfl ?_
  refine jG_aload_n F dX2_isTimeCome_4 rfl ?_
  refine jg_X2_25 F dX2_isTimeCome_5 (jpG_o hg) rfl ?_
  refine jG_icmp_lt F 15 dX2_isTimeCome_8 (by decide) (fun q0 => ?_) (fun q0 => ?_)
  · refine jG_iconst F (v := (0 : Int32)) dX2_isTimeCome_15 (by decide) ?_
    exact jG_iret F T (by first | exact (jB01_neg (Int32.not_le.mpr (by assumption))).symm | exact (jB01_pos (Int32.not_lt.mp (by assumption))).symm) rfl (by first | rfl | exact jnarb _ | (split <;> rfl)) dX2_isTimeCome_16
  · refine jG_iconst F (v := (1 : Int32)) dX2_isTimeCome_11 (by decide) ?_
    refine jG_goto F 16 dX2_isTimeCome_12 (by decide) ?_
    exact jG_iret F T (by first | exact (jB01_neg (Int32.not_le.mpr (by assumption))).symm | exact (jB01_pos (Int32.not_lt.mp (by assumption))).symm) rfl (by first | rfl | exact jnarb _ | (split <;> rfl)) dX2_isTimeCome_16
theorem c_X2_roundsLeft (hg : g + 4 < h.length) : jMd l E yX2_roundsLeft cX2_roundsLeft 1 (some .int) 1 [.ref (E.1 + g)] (jp13 E h g xs ys cv ly cu cd ro ru ti se tu go rd) (some (.int (if ti ≤ go then (if rd = 0 then 5 else 6 - rd) else -4))) (jp13 E h g xs ys cv ly cu cd ro ru ti se tu go rd) 0 0 := by
  refine jMd_of (by decide) (Nat.le_of_ble_eq_true rfl) (by simp [Value.category]) (by first | rfl | simp [jpG_len, jpB_len]) (fun x hx F T hm => ?_)
  refine jG_aload_n F dX2_roundsLeft_0 rfl ?_
  refine jc_X2_48 F dX2_roundsLeft_1 (c_X2_isTimeCome hg) (jpG_o hg) (by decide) (Nat.le_refl 0) (Nat.le_refl 0) (Nat.le_of_ble_eq_true rfl) ?_
  refine jG_if_ne F 10 dX2_roundsLeft_4 (by decide) (fun q => ?_) (fun q => ?_)
  · have q := jB01_ne q
    refine jG_aload_n F dX2_roundsLeft_10 rfl ?_
    refine jg_X2_38 F dX2_roundsLeft_11 (jpG_o hg) rfl ?_
    refine jG_if_ne F 21 dX2_roundsLeft_14 (by decide) (fun q0 => ?_) (fun q0 => ?_)
    · refine jG_bipush F (v := (6 : Int32)) dX2_roundsLeft_21 (by decide) ?_
      refine jG_aload_n F dX2_roundsLeft_23 rfl ?_
      refine jg_X2_38 F dX2_roundsLeft_24 (jpG_o hg) rfl ?_
      refine jG_isub F dX2_roundsLeft_27 ?_
      exact jG_iret F T (by simp [*]) rfl (by first | rfl | exact jnarb _ | (split <;> rfl)) dX2_roundsLeft_28
    · refine jG_iconst F (v := (5 : Int32)) dX2_roundsLeft_17 (by decide) ?_
      refine jG_goto F 28 dX2_roundsLeft_18 (by decide) ?_
      exact jG_iret F T (by simp [*]) rfl (by first | rfl | exact jnarb _ | (split <;> rfl)) dX2_roundsLeft_28
  · have q := jB01_eq q
    refine jG_bipush F (v := (-4 : Int32)) dX2_roundsLeft_7 (by decide) ?_
    exact jG_iret F T (by simp [q]) rfl (by first | rfl | exact jnarb _ | (split <;> rfl)) dX2_roundsLeft_9
theorem c_X2_isOver (hg : g + 4 < h.length) : jMd l E yX2_isOver cX2_isOver 1 (some .boolean) 1 [.ref (E.1 + g)] (jp13 E h g xs ys cv ly cu cd ro ru ti se tu go rd) (some (.int (jB01 (jovr cu rd)))) (jp13 E h g xs ys cv ly cu cd ro ru ti se tu go rd) 0 0 := by
  refine jMd_of (by decide) (Nat.le_of_ble_eq_true rfl) (by simp [Value.category]) (by first | rfl | simp [jpG_len, jpB_len]) (fun x hx F T hm => ?_)
  refine jG_aload_n F dX2_isOver_0 rfl ?_
  refine jg_X2_38 F dX2_isOver_1 (jpG_o hg) rfl ?_
  refine jG_iconst F (v := (5 : Int32)) dX2_isOver_4 (by decide) ?_
  refine jG_icmp_gt F 18 dX2_isOver_5 (by decide) (fun q0 => ?_) (fun q0 => ?_)
  · refine jG_iconst F (v := (1 : Int32)) dX2_isOver_18 (by decide) ?_
    refine jG_goto F 23 dX2_isOver_19 (by decide) ?_
    exact jG_iret F T (by first | exact (jB01_pos (Or.inl (by assumption))).symm | exact (jB01_pos (Or.inr (jB01_ne (by assumption)))).symm | exact (jB01_neg (fun z => z.elim (by assumption) (jB01_eq (by assumption)))).symm) rfl (by first | rfl | exact jnarb _ | (split <;> rfl)) dX2_isOver_23
  · refine jG_aload_n F dX2_isOver_8 rfl ?_
    refine jg_X2_12 F dX2_isOver_9 (jpG_o hg) rfl ?_
    refine jc_X2_55 F dX2_isOver_12 (c_X1_isAnyoneAllIn (jhg hg)) (jpB_o (jhg hg)) (by decide) (Nat.le_refl 0) (Nat.le_refl 0) (Nat.le_of_ble_eq_true rfl) ?_
    refine jG_if_eq F 22 dX2_isOver_15 (by decide) (fun q1 => ?_) (fun q1 => ?_)
    · refine jG_iconst F (v := (0 : Int32)) dX2_isOver_22 (by decide) ?_
      exact jG_iret F T (by first | exact (jB01_pos (Or.inl (by assumption))).symm | exact (jB01_pos (Or.inr (jB01_ne (by assumption)))).symm | exact (jB01_neg (fun z => z.elim (by assumption) (jB01_eq (by assumption)))).symm) rfl (by first | rfl | exact jnarb _ | (split <;> rfl)) dX2_isOver_23
    · refine jG_iconst F (v := (1 : Int32)) dX2_isOver_18 (by decide) ?_
      refine jG_goto F 23 dX2_isOver_19 (by decide) ?_
      exact jG_iret F T (by first | exact (jB01_pos (Or.inl (by assumption))).symm | exact (jB01_pos (Or.inr (jB01_ne (by assumption)))).symm | exact (jB01_neg (fun z => z.elim (by assumption) (jB01_eq (by assumption)))).symm) rfl (by first | rfl | exact jnarb _ | (split <;> rfl)) dX2_isOver_23
theorem c_X2_mayPlay (hg : g + 4 < h.length) (hd : d < 16) (ht : tu < 4) : jMd l E yX2_mayPlay cX2_mayPlay 2 (some .boolean) 2 [.ref (E.1 + g), .int (nI d)] (jp13 E h g xs ys cv ly cu cd ro ru ti se tu go rd) (some (.int (jB01 (d % 4 = tu ∧ (cu ||| cd) &&& jbit d = 0 ∧ ¬ jovr cu rd)))) (jp13 E h g xs ys cv ly cu cd ro ru ti se tu go rd) 0 0 := by
  refine jMd_of (by decide) (Nat.le_of_ble_eq_true rfl) (by simp [Value.category]) (by first | rfl | simp [jpG_len, jpB_len]) (fun x hx F T hm => ?_)
  refine jG_iload_n F dX2_mayPlay_0 rfl ?_
  refine jc_X2_58 F dX2_mayPlay_1 (c_X5_playerOf hd) (by decide) (Nat.le_refl 0) (Nat.le_refl 0) (Nat.le_of_ble_eq_true rfl) ?_
  refine jG_aload_n F dX2_mayPlay_4 rfl ?_
  refine jg_X2_32 F dX2_mayPlay_5 (jpG_o hg) rfl ?_
  refine jG_icmp_ne F 33 dX2_mayPlay_8 (by decide) (fun q => ?_) (fun q => ?_)
  · have q : ¬ d % 4 = tu := fun z => q (by rw [z])
    refine jG_iconst F (v := (0 : Int32)) dX2_mayPlay_33 (by decide) ?_
    exact jG_iret F T ((jB01_neg (fun z => q z.1)).symm) rfl (by first | rfl | exact jnarb _ | (split <;> rfl)) dX2_mayPlay_34
  · have q : d % 4 = tu := (nI_eq (by omega) (by omega)).mp q
    refine jG_aload_n F dX2_mayPlay_11 rfl ?_
    refine jg_X2_12 F dX2_mayPlay_12 (jpG_o hg) rfl ?_
    refine jG_iload_n F dX2_mayPlay_15 rfl ?_
    refine jc_X2_62 F dX2_mayPlay_16 (c_X1_isFree (jhg hg)) (jpB_o (jhg hg)) (by decide) (Nat.le_refl 0) (Nat.le_refl 0) (Nat.le_of_ble_eq_true rfl) ?_
    refine jG_if_eq F 33 dX2_mayPlay_19 (by decide) (fun q2 => ?_) (fun q2 => ?_)
    · have q2 := jB01_eq q2
      refine jG_iconst F (v := (0 : Int32)) dX2_mayPlay_33 (by decide) ?_
      exact jG_iret F T ((jB01_neg (fun z => q2 z.2.1)).symm) rfl (by first | rfl | exact jnarb _ | (split <;> rfl)) dX2_mayPlay_34
    · have q2 := jB01_ne q2
      refine jG_aload_n F dX2_mayPlay_22 rfl ?_
      refine jc_X2_66 F dX2_mayPlay_23 (c_X2_isOver hg) (jpG_o hg) (by decide) (Nat.le_refl 0) (Nat.le_refl 0) (Nat.le_of_ble_eq_true rfl) ?_
      refine jG_if_ne F 33 dX2_mayPlay_26 (by decide) (fun q3 => ?_) (fun q3 => ?_)
      · have q3 := jB01_ne q3
        refine jG_iconst F (v := (0 : Int32)) dX2_mayPlay_33 (by decide) ?_
        exact jG_iret F T ((jB01_neg (fun z => z.2.2 q3)).symm) rfl (by first | rfl | exact jnarb _ | (split <;> rfl)) dX2_mayPlay_34
      · have q3 := jB01_eq q3
        refine jG_iconst F (v := (1 : Int32)) dX2_mayPlay_29 (by decide) ?_
        refine jG_goto F 34 dX2_mayPlay_30 (by decide) ?_
        exact jG_iret F T ((jB01_pos ⟨q, q2, q3⟩).symm) rfl (by first | rfl | exact jnarb _ | (split <;> rfl)) dX2_mayPlay_34
theorem c_X2_changeRough {v : Int32} (hg : g + 4 < h.length) : jMd l E yX2_changeRough cX2_changeRough 3 (some .int) 0 [.ref (E.1 + g), .int v] (jp13 E h g xs ys cv ly cu cd ro ru ti se tu go rd) (some (.int ro)) (jp13 E h g xs ys cv ly cu cd v ru ti se tu go rd) 0 0 := by
  refine jMd_of (by decide) (Nat.le_of_ble_eq_true rfl) (by simp [Value.category]) (by first | rfl | simp [jpG_len, jpB_len]) (fun x hx F T hm => ?_)
  refine jG_aload_n F dX2_changeRough_0 rfl ?_
  refine jg_X2_18 F dX2_changeRough_1 (jpG_o hg) rfl ?_
  refine jG_istore_n_2n F dX2_changeRough_4 (by decide) ?_
  refine jG_aload_n F dX2_changeRough_5 rfl ?_
  refine jG_iload_n F dX2_changeRough_6 rfl ?_
  refine jp_X2_18 F dX2_changeRough_7 (jpG_o hg) rfl rfl (Nat.le_of_ble_eq_true rfl) ?_
  refine jG_eq rfl rfl jpG_put_rough ?_
  refine jG_iload_n F dX2_changeRough_10 rfl ?_
  exact jG_iret F T (rfl) rfl (by first | rfl | exact jnarb _ | (split <;> rfl)) dX2_changeRough_11
theorem c_X2_changeRun {v : Int32} (hg : g + 4 < h.length) : jMd l E yX2_changeRun cX2_changeRun 3 (some .int) 0 [.ref (E.1 + g), .int v] (jp13 E h g xs ys cv ly cu cd ro ru ti se tu go rd) (some (.int ru)) (jp13 E h g xs ys cv ly cu cd ro v ti se tu go rd) 0 0 := by
  refine jMd_of (by decide) (Nat.le_of_ble_eq_true rfl) (by simp [Value.category]) (by first | rfl | simp [jpG_len, jpB_len]) (fun x hx F T hm => ?_)
  refine jG_aload_n F dX2_changeRun_0 rfl ?_
  refine jg_X2_22 F dX2_changeRun_1 (jpG_o hg) rfl ?_
  refine jG_istore_n_2n F dX2_changeRun_4 (by decide) ?_
  refine jG_aload_n F dX2_changeRun_5 rfl ?_
  refine jG_iload_n F dX2_changeRun_6 rfl ?_
  refine jp_X2_22 F dX2_changeRun_7 (jpG_o hg) rfl rfl (Nat.le_of_ble_eq_true rfl) ?_
  refine jG_eq rfl rfl jpG_put_run ?_
  refine jG_iload_n F dX2_changeRun_10 rfl ?_
  exact jG_iret F T (rfl) rfl (by first | rfl | exact jnarb _ | (split <;> rfl)) dX2_changeRun_11
theorem c_X2_stepTurn (hg : g + 4 < h.length) (ht : tu < 4) : jMd l E yX2_stepTurn cX2_stepTurn 1 none 1 [.ref (E.1 + g)] (jp13 E h g xs ys cv ly cu cd ro ru ti se tu go rd) none (jp13 E h g xs ys cv ly cu cd ro ru ti se (jstep ti go (tu, rd)).1 go (jstep ti go (tu, rd)).2) 0 0 := by
  refine jMd_of (by decide) (Nat.le_of_ble_eq_true rfl) (by simp [Value.category]) (by first | rfl | simp [jpG_len, jpB_len]) (fun x hx F T hm => ?_)
  refine jG_aload_n F dX2_stepTurn_0 rfl ?_
  refine jG_aload_n F dX2_stepTurn_1 rfl ?_
  refine jg_X2_32 F dX2_stepTurn_2 (jpG_o hg) rfl ?_
  refine jc_X2_113 F dX2_stepTurn_5 (c_X2_nextInRound ht) (by decide) (Nat.le_refl 0) (Nat.le_refl 0) (Nat.le_of_ble_eq_true rfl) ?_
  refine jp_X2_32 F dX2_stepTurn_8 (jpG_o hg) rfl rfl (Nat.le_of_ble_eq_true rfl) ?_
  refine jG_eq rfl rfl jpG_put_turn ?_
  refine jG_aload_n F dX2_stepTurn_11 rfl ?_
  refine jg_X2_32 F dX2_stepTurn_12 (jpG_o hg) rfl ?_
  refine jG_if_ne F 35 dX2_stepTurn_15 (by decide) (fun q => ?_) (fun q => ?_)
  · have q : ¬ (tu + 1) % 4 = 0 := fun z => q (by rw [z]; rfl)
    exact jG_ret F T (by rw [show jstep ti go (tu, rd) = ((tu + 1) % 4, rd) from by simp [jstep, q]]) dX2_stepTurn_35
  · have q : (tu + 1) % 4 = 0 := (nI_eq (by omega) (by decide)).mp (q.trans nI_0.symm)
    refine jG_aload_n F dX2_stepTurn_18 rfl ?_
    refine jc_X2_48 F dX2_stepTurn_19 (c_X2_isTimeCome hg) (jpG_o hg) (by decide) (Nat.le_refl 0) (Nat.le_refl 0) (Nat.le_of_ble_eq_true rfl) ?_
    refine jG_if_eq F 35 dX2_stepTurn_22 (by decide) (fun q2 => ?_) (fun q2 => ?_)
    · have q2 := jB01_eq q2
      exact jG_ret F T (by rw [show jstep ti go (tu, rd) = ((tu + 1) % 4, rd) from by simp [jstep, q, q2]]) dX2_stepTurn_35
    · have q2 := jB01_ne q2
      refine jG_aload_n F dX2_stepTurn_25 rfl ?_
      refine jG_dup F dX2_stepTurn_26 rfl ?_
      refine jg_X2_38 F dX2_stepTurn_27 (jpG_o hg) rfl ?_
      refine jG_iconst F (v := (1 : Int32)) dX2_stepTurn_30 (by decide) ?_
      refine jG_iadd F dX2_stepTurn_31 ?_
      refine jp_X2_38 F dX2_stepTurn_32 (jpG_o hg) rfl rfl (Nat.le_of_ble_eq_true rfl) ?_
      refine jG_eq rfl rfl jpG_put_rounds ?_
      exact jG_ret F T (by rw [show jstep ti go (tu, rd) = ((tu + 1) % 4, rd + 1) from by simp [jstep, q, q2]]) dX2_stepTurn_35
theorem c_X2_endTurn {b : Int32} (hg : g + 4 < h.length) (ht : tu < 4) : jMd l E yX2_endTurn cX2_endTurn 3 none 2 [.ref (E.1 + g), .int b] (jp13 E h g xs ys cv ly cu cd ro ru ti se tu go rd) none (jp13 E h g xs ys cv ly cu cd ro ru ti se (jend ti (go + 1) (jfree cu cd) (¬ b = 0) (tu, rd)).1 (go + 1) (jend ti (go + 1) (jfree cu cd) (¬ b = 0) (tu, rd)).2) 0 0 := by
  refine jMd_of (by decide) (Nat.le_of_ble_eq_true rfl) (by simp [Value.category]) (by first | rfl | simp [jpG_len, jpB_len]) (fun x hx F T hm => ?_)
  have loop : ∀ n, n ≤ 4 → ∀ (t : Nat) (r : Int32), t < 4 → jskip ti (go + 1) (jfree cu cd) n (t, r) = jend ti (go + 1) (jfree cu cd) (¬ b = 0) (tu, rd) → jG E x 0 0 20 [.ref (E.1 + g), .int b, .int (nI (4 - n))] [] (jp13 E h g xs ys cv ly cu cd ro ru ti se t (go + 1) r) := by
    intro n
    induction n with
    | zero =>
      intro _ t r h0 h1
      refine jG_iload_n F dX2_endTurn_20 rfl ?_
      refine jG_iconst F (v := nI 4) dX2_endTurn_21 (by decide) ?_
      refine jG_icmp_ge F 49 dX2_endTurn_22 (by decide) (fun _ => ?_) (fun q => absurd (nI_le (Nat.le_refl 4) (by decide)) q)
      exact jG_ret F T (by rw [← h1]; rfl) dX2_endTurn_49
    | succ n ih =>
      intro hn t r h0 h1
      refine jG_iload_n F dX2_endTurn_20 rfl ?_
      refine jG_iconst F (v := nI 4) dX2_endTurn_21 (by decide) ?_
      refine jG_icmp_ge F 49 dX2_endTurn_22 (by decide) (fun q => absurd q (nI_ge (show 4 - (n + 1) < 4 by omega) (by decide))) (fun _ => ?_)
      refine jG_aload_n F dX2_endTurn_25 rfl ?_
      refine jg_X2_12 F dX2_endTurn_26 (jpG_o hg) rfl ?_
      refine jG_aload_n F dX2_endTurn_29 rfl ?_
      refine jg_X2_32 F dX2_endTurn_30 (jpG_o hg) rfl ?_
      refine jc_X2_110 F dX2_endTurn_33 (c_X1_freeOf (jhg hg)) (jpB_o (jhg hg)) (by decide) (Nat.le_refl 0) (Nat.le_refl 0) (Nat.le_of_ble_eq_true rfl) ?_
      refine jG_if_ne F 49 dX2_endTurn_36 (by decide) (fun q => ?_) (fun q => ?_)
      · exact jG_ret F T (by rw [← h1, show jskip ti (go + 1) (jfree cu cd) (n + 1) (t, r) = (t, r) from if_neg q]) dX2_endTurn_49
      · refine jG_aload_n F dX2_endTurn_39 rfl ?_
        refine jc_X2_107 F dX2_endTurn_40 (c_X2_stepTurn hg h0) (jpG_o hg) (by decide) (Nat.le_refl 0) (Nat.le_refl 0) (Nat.le_of_ble_eq_true rfl) ?_
        refine jG_iinc_2 F (w := nI (4 - n)) dX2_endTurn_43 ((jinc (4 - (n + 1))).trans (by rw [show 4 - (n + 1) + 1 = 4 - n by omega])) (by decide) ?_
        refine jG_goto F 20 dX2_endTurn_46 (by decide) ?_
        exact ih (by omega) _ _ (jstep_lt _ _ _) (by rw [← h1]; exact (if_pos q).symm)
  refine jG_aload_n F dX2_endTurn_0 rfl ?_
  refine jG_dup F dX2_endTurn_1 rfl ?_
  refine jg_X2_35 F dX2_endTurn_2 (jpG_o hg) rfl ?_
  refine jG_iconst F (v := (1 : Int32)) dX2_endTurn_5 (by decide) ?_
  refine jG_iadd F dX2_endTurn_6 ?_
  refine jp_X2_35 F dX2_endTurn_7 (jpG_o hg) rfl rfl (Nat.le_of_ble_eq_true rfl) ?_
  refine jG_eq rfl rfl jpG_put_gone ?_
  refine jG_iload_n F dX2_endTurn_10 rfl ?_
  refine jG_if_ne F 18 dX2_endTurn_11 (by decide) (fun q => ?_) (fun q => ?_)
  · refine jG_iconst F (v := nI 0) dX2_endTurn_18 (by decide) ?_
    refine jG_istore_n_2n F dX2_endTurn_19 (by decide) ?_
    exact loop 4 (by omega) tu rd ht (by unfold jend; rw [if_pos q])
  · refine jG_aload_n F dX2_endTurn_14 rfl ?_
    refine jc_X2_107 F dX2_endTurn_15 (c_X2_stepTurn hg ht) (jpG_o hg) (by decide) (Nat.le_refl 0) (Nat.le_refl 0) (Nat.le_of_ble_eq_true rfl) ?_
    refine jG_iconst F (v := nI 0) dX2_endTurn_18 (by decide) ?_
    refine jG_istore_n_2n F dX2_endTurn_19 (by decide) ?_
    exact loop 4 (by omega) _ _ (jstep_lt _ _ _) (by unfold jend; rw [if_neg (fun z => z q)])
theorem c_X2_passOverWithoutRounds (hg : g + 4 < h.length) (ht : tu < 4) : jMd l E yX2_passOverWithoutRounds cX2_passOverWithoutRounds 2 none 2 [.ref (E.1 + g)] (jp13 E h g xs ys cv ly cu cd ro ru ti se tu go rd) none (jp13 E h g xs ys cv ly cu cd ro ru ti se (if jovr cu rd then tu else jskipT (jfree cu cd) 4 tu) go rd) 0 0 := by
  refine jMd_of (by decide) (Nat.le_of_ble_eq_true rfl) (by simp [Value.category]) (by first | rfl | simp [jpG_len, jpB_len]) (fun x hx F T hm => ?_)
  have loop : ∀ n, n ≤ 4 → ∀ (t : Nat), t < 4 → (if jovr cu rd then t else jskipT (jfree cu cd) n t) = (if jovr cu rd then tu else jskipT (jfree cu cd) 4 tu) → jG E x 0 0 2 [.ref (E.1 + g), .int (nI (4 - n))] [] (jp13 E h g xs ys cv ly cu cd ro ru ti se t go rd) := by
    intro n
    induction n with
    | zero =>
      intro _ t h0 h1
      refine jG_iload_n F dX2_passOverWithoutRounds_2 rfl ?_
      refine jG_iconst F (v := nI 4) dX2_passOverWithoutRounds_3 (by decide) ?_
      refine jG_icmp_ge F 45 dX2_passOverWithoutRounds_4 (by decide) (fun _ => ?_) (fun q => absurd (nI_le (Nat.le_refl 4) (by decide)) q)
      exact jG_ret F T (by rw [← h1]; simp [jskipT]) dX2_passOverWithoutRounds_45
    | succ n ih =>
      intro hn t h0 h1
      refine jG_iload_n F dX2_passOverWithoutRounds_2 rfl ?_
      refine jG_iconst F (v := nI 4) dX2_passOverWithoutRounds_3 (by decide) ?_
      refine jG_icmp_ge F 45 dX2_passOverWithoutRounds_4 (by decide) (fun q => absurd q (nI_ge (show 4 - (n + 1) < 4 by omega) (by decide))) (fun _ => ?_)
      refine jG_aload_n F dX2_passOverWithoutRounds_7 rfl ?_
      refine jc_X2_66 F dX2_passOverWithoutRounds_8 (c_X2_isOver hg) (jpG_o hg) (by decide) (Nat.le_refl 0) (Nat.le_refl 0) (Nat.le_of_ble_eq_true rfl) ?_
      refine jG_if_ne F 45 dX2_passOverWithoutRounds_11 (by decide) (fun q => ?_) (fun q => ?_)
      · have q := jB01_ne q
        exact jG_ret F T (by rw [← h1, if_pos q]) dX2_passOverWithoutRounds_45
      · have q := jB01_eq q
        refine jG_aload_n F dX2_passOverWithoutRounds_14 rfl ?_
        refine jg_X2_12 F dX2_passOverWithoutRounds_15 (jpG_o hg) rfl ?_
        refine jG_aload_n F dX2_passOverWithoutRounds_18 rfl ?_
        refine jg_X2_32 F dX2_passOverWithoutRounds_19 (jpG_o hg) rfl ?_
        refine jc_X2_110 F dX2_passOverWithoutRounds_22 (c_X1_freeOf (jhg hg)) (jpB_o (jhg hg)) (by decide) (Nat.le_refl 0) (Nat.le_refl 0) (Nat.le_of_ble_eq_true rfl) ?_
        refine jG_if_ne F 45 dX2_passOverWithoutRounds_25 (by decide) (fun q2 => ?_) (fun q2 => ?_)
        · exact jG_ret F T (by rw [← h1, if_neg q, show jskipT (jfree cu cd) (n + 1) t = t from if_neg q2]) dX2_passOverWithoutRounds_45
        · refine jG_aload_n F dX2_passOverWithoutRounds_28 rfl ?_
          refine jG_aload_n F dX2_passOverWithoutRounds_29 rfl ?_
          refine jg_X2_32 F dX2_passOverWithoutRounds_30 (jpG_o hg) rfl ?_
          refine jc_X2_113 F dX2_passOverWithoutRounds_33 (c_X2_nextInRound h0) (by decide) (Nat.le_refl 0) (Nat.le_refl 0) (Nat.le_of_ble_eq_true rfl) ?_
          refine jp_X2_32 F dX2_passOverWithoutRounds_36 (jpG_o hg) rfl rfl (Nat.le_of_ble_eq_true rfl) ?_
          refine jG_eq rfl rfl jpG_put_turn ?_
          refine jG_iinc_1 F (w := nI (4 - n)) dX2_passOverWithoutRounds_39 ((jinc (4 - (n + 1))).trans (by rw [show 4 - (n + 1) + 1 = 4 - n by omega])) (by decide) ?_
          refine jG_goto F 2 dX2_passOverWithoutRounds_42 (by decide) ?_
          exact ih (by omega) _ (Nat.mod_lt _ (by decide)) (by rw [← h1, if_neg q, if_neg q]; exact (if_pos q2).symm)
  refine jG_iconst F (v := nI 0) dX2_passOverWithoutRounds_0 (by decide) ?_
  refine jG_istore_n_1n F dX2_passOverWithoutRounds_1 (by decide) ?_
  exact loop 4 (by omega) tu ht rfl
theorem c_X2_changeTime {v : Int32} (hg : g + 4 < h.length) (ht : tu < 4) : jMd l E yX2_changeTime cX2_changeTime 3 (some .int) 3 [.ref (E.1 + g), .int v] (jp13 E h g xs ys cv ly cu cd ro ru ti se tu go rd) (some (.int (if v < go then -2 else ti))) (if v < go then jp13 E h g xs ys cv ly cu cd ro ru ti se tu go rd else if v ≤ go then jp13 E h g xs ys cv ly cu cd ro ru v se tu go rd else jp13 E h g xs ys cv ly cu cd ro ru v se (if jovr cu 0 then tu else jskipT (jfree cu cd) 4 tu) go 0) 0 0 := by
  refine jMd_of (by decide) (Nat.le_of_ble_eq_true rfl) (by simp [Value.category]) (by (repeat' split) <;> simp [jpG_len]) (fun x hx F T hm => ?_)
  refine jG_iload_n F dX2_changeTime_0 rfl ?_
  refine jG_aload_n F dX2_changeTime_1 rfl ?_
  refine jg_X2_35 F dX2_changeTime_2 (jpG_o hg) rfl ?_
  refine jG_icmp_ge F 11 dX2_changeTime_5 (by decide) (fun q => ?_) (fun q => ?_)
  · have q : ¬ v < go := Int32.not_lt.mpr q
    rw [if_neg q, if_neg q] at T
    refine jG_aload_n F dX2_changeTime_11 rfl ?_
    refine jg_X2_25 F dX2_changeTime_12 (jpG_o hg) rfl ?_
    refine jG_istore_n_2n F dX2_changeTime_15 (by decide) ?_
    refine jG_aload_n F dX2_changeTime_16 rfl ?_
    refine jG_iload_n F dX2_changeTime_17 rfl ?_
    refine jp_X2_25 F dX2_changeTime_18 (jpG_o hg) rfl rfl (Nat.le_of_ble_eq_true rfl) ?_
    refine jG_eq rfl rfl jpG_put_time ?_
    refine jG_aload_n F dX2_changeTime_21 rfl ?_
    refine jc_X2_48 F dX2_changeTime_22 (c_X2_isTimeCome hg) (jpG_o hg) (by decide) (Nat.le_refl 0) (Nat.le_refl 0) (Nat.le_of_ble_eq_true rfl) ?_
    refine jG_if_ne F 37 dX2_changeTime_25 (by decide) (fun q2 => ?_) (fun q2 => ?_)
    · have q2 := jB01_ne q2
      rw [if_pos q2] at T
      refine jG_iload_n F dX2_changeTime_37 rfl ?_
      exact jG_iret F T (rfl) rfl (by first | rfl | exact jnarb _ | (split <;> rfl)) dX2_changeTime_38
    · have q2 := jB01_eq q2
      rw [if_neg q2] at T
      refine jG_aload_n F dX2_changeTime_28 rfl ?_
      refine jG_iconst F (v := (0 : Int32)) dX2_changeTime_29 (by decide) ?_
      refine jp_X2_38 F dX2_changeTime_30 (jpG_o hg) rfl rfl (Nat.le_of_ble_eq_true rfl) ?_
      refine jG_eq rfl rfl jpG_put_rounds ?_
      refine jG_aload_n F dX2_changeTime_33 rfl ?_
      refine jc_X2_52 F dX2_changeTime_34 (c_X2_passOverWithoutRounds hg ht) (jpG_o hg) (by decide) (Nat.le_refl 0) (Nat.le_refl 0) (Nat.le_of_ble_eq_true rfl) ?_
      refine jG_iload_n F dX2_changeTime_37 rfl ?_
      exact jG_iret F T (rfl) rfl (by first | rfl | exact jnarb _ | (split <;> rfl)) dX2_changeTime_38
  · have q : v < go := Int32.not_le.mp q
    rw [if_pos q, if_pos q] at T
    refine jG_bipush F (v := (-2 : Int32)) dX2_changeTime_8 (by decide) ?_
    exact jG_iret F T (rfl) rfl (by first | rfl | exact jnarb _ | (split <;> rfl)) dX2_changeTime_10
theorem c_X2_playerBehind (hg : g + 4 < h.length) (ht : tu < 4) : jMd l E yX2_playerBehind cX2_playerBehind 3 (some .int) 1 [.ref (E.1 + g)] (jp13 E h g xs ys cv ly cu cd ro ru ti se tu go rd) (some (.int (nI (jskipT (jfree cu cd) 4 ((tu + 1) % 4))))) (jp13 E h g xs ys cv ly cu cd ro ru ti se tu go rd) 0 0 := by
  refine jMd_of (by decide) (Nat.le_of_ble_eq_true rfl) (by simp [Value.category]) (by first | rfl | simp [jpG_len, jpB_len]) (fun x hx F T hm => ?_)
  have loop : ∀ n, n ≤ 4 → ∀ (t : Nat), t < 4 → jskipT (jfree cu cd) n t = jskipT (jfree cu cd) 4 ((tu + 1) % 4) → jG E x 0 0 10 [.ref (E.1 + g), .int (nI t), .int (nI (4 - n))] [] (jp13 E h g xs ys cv ly cu cd ro ru ti se tu go rd) := by
    intro n
    induction n with
    | zero =>
      intro _ t h0 h1
      refine jG_iload_n F dX2_playerBehind_10 rfl ?_
      refine jG_iconst F (v := nI 4) dX2_playerBehind_11 (by decide) ?_
      refine jG_icmp_ge F 37 dX2_playerBehind_12 (by decide) (fun _ => ?_) (fun q => absurd (nI_le (Nat.le_refl 4) (by decide)) q)
      refine jG_iload_n F dX2_playerBehind_37 rfl ?_
      exact jG_iret F T (by rw [← h1]; rfl) rfl (by first | rfl | exact jnarb _ | (split <;> rfl)) dX2_playerBehind_38
    | succ n ih =>
      intro hn t h0 h1
      refine jG_iload_n F dX2_playerBehind_10 rfl ?_
      refine jG_iconst F (v := nI 4) dX2_playerBehind_11 (by decide) ?_
      refine jG_icmp_ge F 37 dX2_playerBehind_12 (by decide) (fun q => absurd q (nI_ge (show 4 - (n + 1) < 4 by omega) (by decide))) (fun _ => ?_)
      refine jG_aload_n F dX2_playerBehind_15 rfl ?_
      refine jg_X2_12 F dX2_playerBehind_16 (jpG_o hg) rfl ?_
      refine jG_iload_n F dX2_playerBehind_19 rfl ?_
      refine jc_X2_110 F dX2_playerBehind_20 (c_X1_freeOf (jhg hg)) (jpB_o (jhg hg)) (by decide) (Nat.le_refl 0) (Nat.le_refl 0) (Nat.le_of_ble_eq_true rfl) ?_
      refine jG_if_ne F 37 dX2_playerBehind_23 (by decide) (fun q => ?_) (fun q => ?_)
      · refine jG_iload_n F dX2_playerBehind_37 rfl ?_
        exact jG_iret F T (by rw [← h1, show jskipT (jfree cu cd) (n + 1) t = t from if_neg q]) rfl (by first | rfl | exact jnarb _ | (split <;> rfl)) dX2_playerBehind_38
      · refine jG_iload_n F dX2_playerBehind_26 rfl ?_
        refine jc_X2_113 F dX2_playerBehind_27 (c_X2_nextInRound h0) (by decide) (Nat.le_refl 0) (Nat.le_refl 0) (Nat.le_of_ble_eq_true rfl) ?_
        refine jG_istore_n_1e F dX2_playerBehind_30 (by decide) ?_
        refine jG_iinc_2 F (w := nI (4 - n)) dX2_playerBehind_31 ((jinc (4 - (n + 1))).trans (by rw [show 4 - (n + 1) + 1 = 4 - n by omega])) (by decide) ?_
        refine jG_goto F 10 dX2_playerBehind_34 (by decide) ?_
        exact ih (by omega) _ (Nat.mod_lt _ (by decide)) (by rw [← h1]; exact (if_pos q).symm)
  refine jG_aload_n F dX2_playerBehind_0 rfl ?_
  refine jg_X2_32 F dX2_playerBehind_1 (jpG_o hg) rfl ?_
  refine jc_X2_113 F dX2_playerBehind_4 (c_X2_nextInRound ht) (by decide) (Nat.le_refl 0) (Nat.le_refl 0) (Nat.le_of_ble_eq_true rfl) ?_
  refine jG_istore_n_1n F dX2_playerBehind_7 (by decide) ?_
  refine jG_iconst F (v := nI 0) dX2_playerBehind_8 (by decide) ?_
  refine jG_istore_n_2n F dX2_playerBehind_9 (by decide) ?_
  exact loop 4 (by omega) _ (Nat.mod_lt _ (by decide)) rfl
theorem c_X2_drawOff {sp : Int32} (hg : g + 4 < h.length) (hs : ¬ (2 * sp + 1).toInt64 = 0) : jMd l E yX2_drawOff cX2_drawOff 2 (some .int) 0 [.ref (E.1 + g), .int sp] (jp13 E h g xs ys cv ly cu cd ro ru ti se tu go rd) (some (.int (jdraw se sp))) (jp13 E h g xs ys cv ly cu cd ro ru ti (jseed se) tu go rd) 0 0 := by
  refine jMd_of (by decide) (Nat.le_of_ble_eq_true rfl) (by simp [Value.category]) (by first | rfl | simp [jpG_len, jpB_len]) (fun x hx F T hm => ?_)
  refine jG_aload_n F dX2_drawOff_0 rfl ?_
  refine jG_aload_n F dX2_drawOff_1 rfl ?_
  refine jg_X2_28 F dX2_drawOff_2 (jpG_o hg) rfl ?_
  refine jG_ldc2 F (v := 48271) dX2_drawOff_5 (by decide +kernel) ?_
  refine jG_lmul F dX2_drawOff_8 ?_
  refine jG_ldc2 F (v := 2147483647) dX2_drawOff_9 (by decide +kernel) ?_
  refine jG_lrem F dX2_drawOff_12 (by decide) ?_
  refine jp_X2_28 F dX2_drawOff_13 (jpG_o hg) rfl rfl (Nat.le_of_ble_eq_true rfl) ?_
  refine jG_eq rfl rfl jpG_put_seed ?_
  refine jG_aload_n F dX2_drawOff_16 rfl ?_
  refine jg_X2_28 F dX2_drawOff_17 (jpG_o hg) rfl ?_
  refine jG_iconst F (v := (2 : Int32)) dX2_drawOff_20 (by decide) ?_
  refine jG_iload_n F dX2_drawOff_21 rfl ?_
  refine jG_imul F dX2_drawOff_22 ?_
  refine jG_iconst F (v := (1 : Int32)) dX2_drawOff_23 (by decide) ?_
  refine jG_iadd F dX2_drawOff_24 ?_
  refine jG_i2l F dX2_drawOff_25 ?_
  refine jG_lrem F dX2_drawOff_26 hs ?_
  refine jG_l2i F dX2_drawOff_27 ?_
  refine jG_iload_n F dX2_drawOff_28 rfl ?_
  refine jG_isub F dX2_drawOff_29 ?_
  exact jG_iret F T (rfl) rfl (by first | rfl | exact jnarb _ | (split <;> rfl)) dX2_drawOff_30
theorem c_X2_beginAnew (hg : g + 4 < h.length) : jMd l E yX2_beginAnew cX2_beginAnew 1 none 4 [.ref (E.1 + g)] (jp13 E h g xs ys cv ly cu cd ro ru ti se tu go rd) none (jp6 E (h.set g (jgo E g ro ru ti se 0 0 0)) (g + 1) (jallF (xs, ys, cv, ly, cu, cd) 16).1 (jallF (xs, ys, cv, ly, cu, cd) 16).2.1 (jallF (xs, ys, cv, ly, cu, cd) 16).2.2.1 (jallF (xs, ys, cv, ly, cu, cd) 16).2.2.2.1 (jallF (xs, ys, cv, ly, cu, cd) 16).2.2.2.2.1 (jallF (xs, ys, cv, ly, cu, cd) 16).2.2.2.2.2) 0 0 := by
  refine jMd_of (by decide) (Nat.le_of_ble_eq_true rfl) (by simp [Value.category]) (by first | rfl | simp [jpG_len, jpB_len]) (fun x hx F T hm => ?_)
  refine jG_aload_n F dX2_beginAnew_0 rfl ?_
  refine jg_X2_12 F dX2_beginAnew_1 (jpG_o hg) rfl ?_
  refine jc_X2_41 F dX2_beginAnew_4 (c_X1_bringAllToBase (jhg hg)) (jpB_o (jhg hg)) (by decide) (Nat.le_refl 0) (Nat.le_refl 0) (Nat.le_of_ble_eq_true rfl) ?_
  refine jG_aload_n F dX2_beginAnew_7 rfl ?_
  refine jG_iconst F (v := nI 0) dX2_beginAnew_8 (by decide) ?_
  refine jp_X2_32 F dX2_beginAnew_9 (jpG_o hg) rfl rfl (Nat.le_of_ble_eq_true rfl) ?_
  refine jG_eq rfl rfl jpG_put_turn ?_
  refine jG_aload_n F dX2_beginAnew_12 rfl ?_
  refine jG_iconst F (v := (0 : Int32)) dX2_beginAnew_13 (by decide) ?_
  refine jp_X2_35 F dX2_beginAnew_14 (jpG_o hg) rfl rfl (Nat.le_of_ble_eq_true rfl) ?_
  refine jG_eq rfl rfl jpG_put_gone ?_
  refine jG_aload_n F dX2_beginAnew_17 rfl ?_
  refine jG_iconst F (v := (0 : Int32)) dX2_beginAnew_18 (by decide) ?_
  refine jp_X2_38 F dX2_beginAnew_19 (jpG_o hg) rfl rfl (Nat.le_of_ble_eq_true rfl) ?_
  refine jG_eq rfl rfl jpG_put_rounds ?_
  exact jG_ret F T (rfl) dX2_beginAnew_22
end GA
