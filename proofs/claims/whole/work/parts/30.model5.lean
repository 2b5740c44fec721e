/-! ===== JumpDiscsModel: the public methods that ask and change the board ===== -/
section MV
variable {l : Launch} {E : jE} {B : List va_E} {m km : Nat} {bd ba bw : Int32} {rm : Nat} {A P K rd rx ry pr qs : Nat → Int32} {v w a b c : Int32} {p t d : Nat}
theorem c_X6_bestB (hB : B.length = m) (h : ¬ (0 ≤ a ∧ a ≤ 3) ∨ ¬ (0 ≤ b ∧ b ≤ 2)) : jMd l E yX6_best cX6_best 3 (some .int) 7 [.ref (E.1 + m), .int a, .int b] (jw9 E B m km false bd ba bw rm A P K rd rx ry pr qs) (some (.int (-100))) (jw9 E B m km false bd ba bw rm A P K rd rx ry pr qs) 0 0 := by
  refine jMd_of (by decide) (Nat.le_of_ble_eq_true rfl) (by simp [Value.category]) (by first | rfl | simp [jw9_len]) (fun x hx F T hmm => ?_)
  refine jG_iload_n F dX6_best_0 rfl ?_
  refine jc_X6_163 F dX6_best_1 (c_X6_isPlayer) (by decide) (Nat.le_refl 0) (Nat.le_refl 0) (Nat.le_of_ble_eq_true rfl) ?_
  refine jG_if_eq F 16 dX6_best_4 (by decide) (fun q => ?_) (fun q => ?_)
  · refine jG_bipush F (v := (-100 : Int32)) dX6_best_16 (by decide) ?_
    exact jG_iret F T (rfl) rfl (by first | rfl | exact jnarb _ | (split <;> rfl)) dX6_best_18
  · have q := jB01_ne q
    refine jG_iload_n F dX6_best_7 rfl ?_
    refine jG_iconst F (v := (0 : Int32)) dX6_best_8 (by decide) ?_
    refine jG_iconst F (v := (2 : Int32)) dX6_best_9 (by decide) ?_
    refine jc_X6_109 F dX6_best_10 (c_X6_in) (by decide) (Nat.le_refl 0) (Nat.le_refl 0) (Nat.le_of_ble_eq_true rfl) ?_
    refine jG_if_ne F 19 dX6_best_13 (by decide) (fun qz => absurd qz (fun z => h.elim (fun y => y q) (fun y => y (jB01_ne z)))) (fun _ => ?_)
    refine jG_bipush F (v := (-100 : Int32)) dX6_best_16 (by decide) ?_
    exact jG_iret F T (rfl) rfl (by first | rfl | exact jnarb _ | (split <;> rfl)) dX6_best_18
theorem c_X6_best {Q : Int32 × Int32 × Int32} (hB : B.length = m) (hQ : mbB A p ba 4 = Q) (hp : p < 4) (hb : 0 ≤ b ∧ b ≤ 2) : jMd l E yX6_best cX6_best 3 (some .int) 7 [.ref (E.1 + m), .int (nI p), .int b] (jw9 E B m km false bd ba bw rm A P K rd rx ry pr qs) (some (.int (if Q.1 = -4 then -102 else if b = 0 then Q.1 else if b = 1 then Q.2.1 else Q.2.2))) (jw9 E B m km false (Q.1) (Q.2.1) (Q.2.2) rm A P K rd rx ry pr qs) 0 0 := by
  refine jMd_of (by decide) (Nat.le_of_ble_eq_true rfl) (by simp [Value.category]) (by first | rfl | simp [jw9_len]) (fun x hx F T hmm => ?_)
  have hd := jin_n (k := p) (n := 3) (by omega) (by decide) (m := 3) rfl
  have kb := c_X6_layBest (l := jL x) (E := E) (B := B) (m := m) (km := km) (bd := bd) (ba := ba) (bw := bw) (rm := rm) (A := A) (P := P) (K := K) (rd := rd) (rx := rx) (ry := ry) (pr := pr) (qs := qs) hB hp
  rw [hQ] at kb
  refine jG_iload_n F dX6_best_0 rfl ?_
  refine jc_X6_163 F dX6_best_1 (c_X6_isPlayer) (by decide) (Nat.le_refl 0) (Nat.le_refl 0) (Nat.le_of_ble_eq_true rfl) ?_
  refine jG_if_eq F 16 dX6_best_4 (by decide) (fun qz => absurd qz (by rw [jB01_pos hd]; decide)) (fun _ => ?_)
  refine jG_iload_n F dX6_best_7 rfl ?_
  refine jG_iconst F (v := (0 : Int32)) dX6_best_8 (by decide) ?_
  refine jG_iconst F (v := (2 : Int32)) dX6_best_9 (by decide) ?_
  refine jc_X6_109 F dX6_best_10 (c_X6_in) (by decide) (Nat.le_refl 0) (Nat.le_refl 0) (Nat.le_of_ble_eq_true rfl) ?_
  refine jG_if_ne F 19 dX6_best_13 (by decide) (fun _ => ?_) (fun qz => absurd qz (by rw [jB01_pos hb]; decide))
  refine jG_aload_n F dX6_best_19 rfl ?_
  refine jG_iload_n F dX6_best_20 rfl ?_
  refine jc_X6_192 F dX6_best_21 (kb) (jw9_o hB) (by decide) (Nat.le_refl 0) (Nat.le_refl 0) (Nat.le_of_ble_eq_true rfl) ?_
  refine jG_aload_n F dX6_best_24 rfl ?_
  refine jg_X6_179 F dX6_best_25 (jw9_o hB) rfl ?_
  refine jG_bipush F (v := (-4 : Int32)) dX6_best_28 (by decide) ?_
  refine jG_icmp_ne F 38 dX6_best_30 (by decide) (fun q => ?_) (fun q => ?_)
  · rw [if_neg q] at T
    refine jG_iload_n F dX6_best_38 rfl ?_
    refine jG_if_ne F 49 dX6_best_39 (by decide) (fun q2 => ?_) (fun q2 => ?_)
    · rw [if_neg q2] at T
      refine jG_iload_n F dX6_best_49 rfl ?_
      refine jG_iconst F (v := (1 : Int32)) dX6_best_50 (by decide) ?_
      refine jG_icmp_ne F 61 dX6_best_51 (by decide) (fun q3 => ?_) (fun q3 => ?_)
      · rw [if_neg q3] at T
        refine jG_aload_n F dX6_best_61 rfl ?_
        refine jg_X6_183 F dX6_best_62 (jw9_o hB) rfl ?_
        exact jG_iret F T (rfl) rfl (by first | rfl | exact jnarb _ | (split <;> rfl)) dX6_best_65
      · rw [if_pos q3] at T
        refine jG_aload_n F dX6_best_54 rfl ?_
        refine jg_X6_189 F dX6_best_55 (jw9_o hB) rfl ?_
        refine jG_goto F 65 dX6_best_58 (by decide) ?_
        exact jG_iret F T (rfl) rfl (by first | rfl | exact jnarb _ | (split <;> rfl)) dX6_best_65
    · rw [if_pos q2] at T
      refine jG_aload_n F dX6_best_42 rfl ?_
      refine jg_X6_179 F dX6_best_43 (jw9_o hB) rfl ?_
      refine jG_goto F 65 dX6_best_46 (by decide) ?_
      exact jG_iret F T (rfl) rfl (by first | rfl | exact jnarb _ | (split <;> rfl)) dX6_best_65
  · rw [if_pos q] at T
    refine jG_bipush F (v := (-102 : Int32)) dX6_best_33 (by decide) ?_
    refine jG_goto F 65 dX6_best_35 (by decide) ?_
    exact jG_iret F T (rfl) rfl (by first | rfl | exact jnarb _ | (split <;> rfl)) dX6_best_65
theorem c_X6_aheadN (hB : B.length = m) (h : mover A) : jMd l E yX6_ahead cX6_ahead 3 (some .int) 8 [.ref (E.1 + m)] (jw9 E B m km false bd ba bw rm A P K rd rx ry pr qs) (some (.int (-10002))) (jw9 E B m km false bd ba bw rm A P K rd rx ry pr qs) 0 0 := by
  refine jMd_of (by decide) (Nat.le_of_ble_eq_true rfl) (by simp [Value.category]) (by first | rfl | simp [jw9_len]) (fun x hx F T hmm => ?_)
  refine jG_aload_n F dX6_ahead_0 rfl ?_
  refine jc_X6_113 F dX6_ahead_1 (jW hB (c_X6_isOver (jw9_o hB) (jw9_l hB))) (jw9_o hB) (by decide) (Nat.le_refl 0) (Nat.le_refl 0) (Nat.le_of_ble_eq_true rfl) ?_
  refine jG_if_eq F 11 dX6_ahead_4 (by decide) (fun qz => absurd qz (fun z => jB01_eq z h)) (fun _ => ?_)
  refine jG_sipush F (v := (-10002 : Int32)) dX6_ahead_7 (by decide) ?_
  exact jG_iret F T (rfl) rfl (by first | rfl | exact jnarb _ | (split <;> rfl)) dX6_ahead_10
theorem c_X6_ahead {Q Q2 : Int32 × Int32 × Int32} (hB : B.length = m) (hQ : mbB A t ba 4 = Q) (hp : jskipT (fun p => mfo A p 4) 4 ((t + 1) % 4) = p) (hQ2 : mbB A p Q.2.1 4 = Q2) (ht : t < 4) (hA : A 64 = nI t) (hs : ¬ mfo A p 4 = 0) (h : ¬ mover A) : jMd l E yX6_ahead cX6_ahead 3 (some .int) 8 [.ref (E.1 + m)] (jw9 E B m km false bd ba bw rm A P K rd rx ry pr qs) (some (.int (Q.2.2 - Q2.2.2))) (jw9 E B m km false (Q2.1) (Q2.2.1) (Q2.2.2) rm A P K rd rx ry pr qs) 0 0 := by
  refine jMd_of (by decide) (Nat.le_of_ble_eq_true rfl) (by simp [Value.category]) (by first | rfl | simp [jw9_len]) (fun x hx F T hmm => ?_)
  have kb := c_X6_layBest (l := jL x) (E := E) (B := B) (m := m) (km := km) (bd := bd) (ba := ba) (bw := bw) (rm := rm) (A := A) (P := P) (K := K) (rd := rd) (rx := rx) (ry := ry) (pr := pr) (qs := qs) (p := t) hB ht
  rw [hQ] at kb
  have hp4 : p < 4 := by rw [← hp]; exact jskipT_lt _ _ (by omega)
  have kb2 := c_X6_layBest (l := jL x) (E := E) (B := B) (m := m) (km := km) (bd := Q.1) (ba := Q.2.1) (bw := Q.2.2) (rm := rm) (A := A) (P := P) (K := K) (rd := rd) (rx := rx) (ry := ry) (pr := pr) (qs := qs) (p := p) hB hp4
  rw [hQ2] at kb2
  have loop : ∀ (n j : Nat), j < 4 → jskipT (fun p => mfo A p 4) n j = p → jG E x 0 0 33 [.ref (E.1 + m), .int Q.2.2, .int (nI j)] [] (jw9 E B m km false (Q.1) (Q.2.1) (Q.2.2) rm A P K rd rx ry pr qs) := by
    intro n
    induction n with
    | zero =>
      intro j hj hE
      have hE : j = p := hE
      subst hE
      refine jG_aload_n F dX6_ahead_33 rfl ?_
      refine jG_iload_n F dX6_ahead_34 rfl ?_
      refine jc_X6_91 F dX6_ahead_35 (jW hB (c_X6_freeOf (jw9_o hB) (jw9_l hB) hj)) (jw9_o hB) (by decide) (Nat.le_refl 0) (Nat.le_refl 0) (Nat.le_of_ble_eq_true rfl) ?_
      refine jG_if_ne F 50 dX6_ahead_38 (by decide) (fun _ => ?_) (fun qz => absurd qz hs)
      refine jG_aload_n F dX6_ahead_50 rfl ?_
      refine jG_iload_n F dX6_ahead_51 rfl ?_
      refine jc_X6_192 F dX6_ahead_52 (kb2) (jw9_o hB) (by decide) (Nat.le_refl 0) (Nat.le_refl 0) (Nat.le_of_ble_eq_true rfl) ?_
      refine jG_iload_n F dX6_ahead_55 rfl ?_
      refine jG_aload_n F dX6_ahead_56 rfl ?_
      refine jg_X6_183 F dX6_ahead_57 (jw9_o hB) rfl ?_
      refine jG_isub F dX6_ahead_60 ?_
      exact jG_iret F T (rfl) rfl (by first | rfl | exact jnarb _ | (split <;> rfl)) dX6_ahead_61
    | succ n ih =>
      intro j hj hE
      refine jG_aload_n F dX6_ahead_33 rfl ?_
      refine jG_iload_n F dX6_ahead_34 rfl ?_
      refine jc_X6_91 F dX6_ahead_35 (jW hB (c_X6_freeOf (jw9_o hB) (jw9_l hB) hj)) (jw9_o hB) (by decide) (Nat.le_refl 0) (Nat.le_refl 0) (Nat.le_of_ble_eq_true rfl) ?_
      refine jG_if_ne F 50 dX6_ahead_38 (by decide) (fun q => ?_) (fun q => ?_)
      · have hE : j = p := (show _ = j from if_neg q).symm.trans hE
        subst hE
        refine jG_aload_n F dX6_ahead_50 rfl ?_
        refine jG_iload_n F dX6_ahead_51 rfl ?_
        refine jc_X6_192 F dX6_ahead_52 (kb2) (jw9_o hB) (by decide) (Nat.le_refl 0) (Nat.le_refl 0) (Nat.le_of_ble_eq_true rfl) ?_
        refine jG_iload_n F dX6_ahead_55 rfl ?_
        refine jG_aload_n F dX6_ahead_56 rfl ?_
        refine jg_X6_183 F dX6_ahead_57 (jw9_o hB) rfl ?_
        refine jG_isub F dX6_ahead_60 ?_
        exact jG_iret F T (rfl) rfl (by first | rfl | exact jnarb _ | (split <;> rfl)) dX6_ahead_61
      · refine jG_iload_n F dX6_ahead_41 rfl ?_
        refine jG_iconst F (v := nI 1) dX6_ahead_42 (by decide) ?_
        refine jG_iadd F dX6_ahead_43 ?_
        refine jG_iconst F (v := nI 4) dX6_ahead_44 (by decide) ?_
        refine jG_irem F dX6_ahead_45 (by decide) ?_
        refine jG_istore_n_2e F dX6_ahead_46 (by decide) ?_
        refine jG_goto F 33 dX6_ahead_47 (by decide) ?_
        have e : (nI j + nI 1) - (nI j + nI 1) / nI 4 * nI 4 = nI ((j + 1) % 4) := by rw [nI_add]; exact pk_rem (by omega) (by decide) (by decide)
        refine jG_eq (by rw [e]) rfl rfl (ih ((j + 1) % 4) (by omega) ((show _ = _ from if_pos q).symm.trans hE))
  refine jG_aload_n F dX6_ahead_0 rfl ?_
  refine jc_X6_113 F dX6_ahead_1 (jW hB (c_X6_isOver (jw9_o hB) (jw9_l hB))) (jw9_o hB) (by decide) (Nat.le_refl 0) (Nat.le_refl 0) (Nat.le_of_ble_eq_true rfl) ?_
  refine jG_if_eq F 11 dX6_ahead_4 (by decide) (fun _ => ?_) (fun qz => absurd (jB01_neg h) qz)
  refine jG_aload_n F dX6_ahead_11 rfl ?_
  refine jG_aload_n F dX6_ahead_12 rfl ?_
  refine jc_X6_102 F dX6_ahead_13 (jW hB (c_X6_turn (jw9_o hB) (jw9_l hB))) (jw9_o hB) (by decide) (Nat.le_refl 0) (Nat.le_refl 0) (Nat.le_of_ble_eq_true rfl) ?_
  refine jG_eq rfl (show _ = [Value.int (nI t), Value.ref (E.1 + m)] by rw [hA]) rfl ?_
  refine jc_X6_192 F dX6_ahead_16 (kb) (jw9_o hB) (by decide) (Nat.le_refl 0) (Nat.le_refl 0) (Nat.le_of_ble_eq_true rfl) ?_
  refine jG_aload_n F dX6_ahead_19 rfl ?_
  refine jg_X6_183 F dX6_ahead_20 (jw9_o hB) rfl ?_
  refine jG_istore_n_1n F dX6_ahead_23 (by decide) ?_
  refine jG_aload_n F dX6_ahead_24 rfl ?_
  refine jc_X6_102 F dX6_ahead_25 (jW hB (c_X6_turn (jw9_o hB) (jw9_l hB))) (jw9_o hB) (by decide) (Nat.le_refl 0) (Nat.le_refl 0) (Nat.le_of_ble_eq_true rfl) ?_
  refine jG_iconst F (v := nI 1) dX6_ahead_28 (by decide) ?_
  refine jG_iadd F dX6_ahead_29 ?_
  refine jG_iconst F (v := nI 4) dX6_ahead_30 (by decide) ?_
  refine jG_irem F dX6_ahead_31 (by decide) ?_
  refine jG_istore_n_2n F dX6_ahead_32 (by decide) ?_
  have e : (nI t + nI 1) - (nI t + nI 1) / nI 4 * nI 4 = nI ((t + 1) % 4) := by rw [nI_add]; exact pk_rem (by omega) (by decide) (by decide)
  refine jG_eq (by rw [hA, e]) rfl rfl (loop 4 ((t + 1) % 4) (by omega) hp)
theorem c_X6_anew (hB : B.length = m) : jMd l E yX6_anew cX6_anew 2 (some .int) 2 [.ref (E.1 + m)] (jw9 E B m km false bd ba bw rm A P K rd rx ry pr qs) (some (.int (A 65))) (jw9 E B m km false bd ba bw rm (mclr A) P K rd rx ry pr qs) 0 0 := by
  refine jMd_of (by decide) (Nat.le_of_ble_eq_true rfl) (by simp [Value.category]) (by first | rfl | simp [jw9_len]) (fun x hx F T hmm => ?_)
  refine jG_aload_n F dX6_anew_0 rfl ?_
  refine jc_X6_98 F dX6_anew_1 (jW hB (c_X6_gone (jw9_o hB) (jw9_l hB))) (jw9_o hB) (by decide) (Nat.le_refl 0) (Nat.le_refl 0) (Nat.le_of_ble_eq_true rfl) ?_
  refine jG_istore_n_1n F dX6_anew_4 (by decide) ?_
  refine jG_aload_n F dX6_anew_5 rfl ?_
  refine jc_X6_34 F dX6_anew_6 (jW hB (c_X6_clear (jw9_o hB) (jw9_l hB))) (jw9_o hB) (by decide) (Nat.le_refl 0) (Nat.le_refl 0) (Nat.le_of_ble_eq_true rfl) ?_
  refine jG_iload_n F dX6_anew_9 rfl ?_
  exact jG_iret F T (rfl) rfl (by first | rfl | exact jnarb _ | (split <;> rfl)) dX6_anew_10
theorem c_X6_rule0B (hB : B.length = m) (hv : ¬ (0 ≤ v ∧ v ≤ 5)) : jMd l E yX6_rule cX6_rule 6 (some .int) 8 [.ref (E.1 + m), .int 0, .int v] (jw9 E B m km false bd ba bw rm A P K rd rx ry pr qs) (some (.int (-1))) (jw9 E B m km false bd ba bw rm A P K rd rx ry pr qs) 0 0 := by
  refine jMd_of (by decide) (Nat.le_of_ble_eq_true rfl) (by simp [Value.category]) (by first | rfl | simp [jw9_len]) (fun x hx F T hmm => ?_)
  refine jG_iload_n F dX6_rule_0 rfl ?_
  refine jG_if_eq F 9 dX6_rule_1 (by decide) (fun _ => ?_) (fun qz => absurd rfl qz)
  refine jG_iload_n F dX6_rule_9 rfl ?_
  refine jG_iconst F (v := (0 : Int32)) dX6_rule_10 (by decide) ?_
  refine jG_iconst F (v := (5 : Int32)) dX6_rule_11 (by decide) ?_
  refine jc_X6_109 F dX6_rule_12 (c_X6_in) (by decide) (Nat.le_refl 0) (Nat.le_refl 0) (Nat.le_of_ble_eq_true rfl) ?_
  refine jG_goto F 40 dX6_rule_15 (by decide) ?_
  refine jG_istore_n_3n F dX6_rule_40 (by decide) ?_
  refine jG_iload_n F dX6_rule_41 rfl ?_
  refine jG_if_ne F 47 dX6_rule_42 (by decide) (fun qz => absurd qz (fun z => z (jB01_neg hv))) (fun _ => ?_)
  refine jG_iconst F (v := (-1 : Int32)) dX6_rule_45 (by decide) ?_
  exact jG_iret F T (rfl) rfl (by first | rfl | exact jnarb _ | (split <;> rfl)) dX6_rule_46
theorem c_X6_rule1B (hB : B.length = m) (hv : ¬ (0 ≤ v ∧ v ≤ 5)) : jMd l E yX6_rule cX6_rule 6 (some .int) 8 [.ref (E.1 + m), .int 1, .int v] (jw9 E B m km false bd ba bw rm A P K rd rx ry pr qs) (some (.int (-1))) (jw9 E B m km false bd ba bw rm A P K rd rx ry pr qs) 0 0 := by
  refine jMd_of (by decide) (Nat.le_of_ble_eq_true rfl) (by simp [Value.category]) (by first | rfl | simp [jw9_len]) (fun x hx F T hmm => ?_)
  refine jG_iload_n F dX6_rule_0 rfl ?_
  refine jG_if_eq F 9 dX6_rule_1 (by decide) (fun qz => absurd qz (by decide)) (fun _ => ?_)
  refine jG_iload_n F dX6_rule_4 rfl ?_
  refine jG_iconst F (v := (1 : Int32)) dX6_rule_5 (by decide) ?_
  refine jG_icmp_ne F 18 dX6_rule_6 (by decide) (fun qz => absurd qz (by decide)) (fun _ => ?_)
  refine jG_iload_n F dX6_rule_9 rfl ?_
  refine jG_iconst F (v := (0 : Int32)) dX6_rule_10 (by decide) ?_
  refine jG_iconst F (v := (5 : Int32)) dX6_rule_11 (by decide) ?_
  refine jc_X6_109 F dX6_rule_12 (c_X6_in) (by decide) (Nat.le_refl 0) (Nat.le_refl 0) (Nat.le_of_ble_eq_true rfl) ?_
  refine jG_goto F 40 dX6_rule_15 (by decide) ?_
  refine jG_istore_n_3n F dX6_rule_40 (by decide) ?_
  refine jG_iload_n F dX6_rule_41 rfl ?_
  refine jG_if_ne F 47 dX6_rule_42 (by decide) (fun qz => absurd qz (fun z => z (jB01_neg hv))) (fun _ => ?_)
  refine jG_iconst F (v := (-1 : Int32)) dX6_rule_45 (by decide) ?_
  exact jG_iret F T (rfl) rfl (by first | rfl | exact jnarb _ | (split <;> rfl)) dX6_rule_46
theorem c_X6_rule2B (hB : B.length = m) (hv : ¬ (10 ≤ v ∧ v ≤ 400)) : jMd l E yX6_rule cX6_rule 6 (some .int) 8 [.ref (E.1 + m), .int 2, .int v] (jw9 E B m km false bd ba bw rm A P K rd rx ry pr qs) (some (.int (-1))) (jw9 E B m km false bd ba bw rm A P K rd rx ry pr qs) 0 0 := by
  refine jMd_of (by decide) (Nat.le_of_ble_eq_true rfl) (by simp [Value.category]) (by first | rfl | simp [jw9_len]) (fun x hx F T hmm => ?_)
  refine jG_iload_n F dX6_rule_0 rfl ?_
  refine jG_if_eq F 9 dX6_rule_1 (by decide) (fun qz => absurd qz (by decide)) (fun _ => ?_)
  refine jG_iload_n F dX6_rule_4 rfl ?_
  refine jG_iconst F (v := (1 : Int32)) dX6_rule_5 (by decide) ?_
  refine jG_icmp_ne F 18 dX6_rule_6 (by decide) (fun _ => ?_) (fun qz => absurd qz (by decide))
  refine jG_iload_n F dX6_rule_18 rfl ?_
  refine jG_iconst F (v := (2 : Int32)) dX6_rule_19 (by decide) ?_
  refine jG_icmp_ne F 39 dX6_rule_20 (by decide) (fun qz => absurd qz (by decide)) (fun _ => ?_)
  refine jG_iload_n F dX6_rule_23 rfl ?_
  refine jG_bipush F (v := (10 : Int32)) dX6_rule_24 (by decide) ?_
  refine jG_sipush F (v := (400 : Int32)) dX6_rule_26 (by decide) ?_
  refine jc_X6_109 F dX6_rule_29 (c_X6_in) (by decide) (Nat.le_refl 0) (Nat.le_refl 0) (Nat.le_of_ble_eq_true rfl) ?_
  refine jG_if_eq F 39 dX6_rule_32 (by decide) (fun _ => ?_) (fun qz => absurd (jB01_neg hv) qz)
  refine jG_iconst F (v := (0 : Int32)) dX6_rule_39 (by decide) ?_
  refine jG_istore_n_3n F dX6_rule_40 (by decide) ?_
  refine jG_iload_n F dX6_rule_41 rfl ?_
  refine jG_if_ne F 47 dX6_rule_42 (by decide) (fun qz => absurd qz (by decide)) (fun _ => ?_)
  refine jG_iconst F (v := (-1 : Int32)) dX6_rule_45 (by decide) ?_
  exact jG_iret F T (rfl) rfl (by first | rfl | exact jnarb _ | (split <;> rfl)) dX6_rule_46
theorem c_X6_ruleB (hB : B.length = m) (h0 : ¬ w = 0) (h1 : ¬ w = 1) (h2 : ¬ w = 2) : jMd l E yX6_rule cX6_rule 6 (some .int) 8 [.ref (E.1 + m), .int w, .int v] (jw9 E B m km false bd ba bw rm A P K rd rx ry pr qs) (some (.int (-1))) (jw9 E B m km false bd ba bw rm A P K rd rx ry pr qs) 0 0 := by
  refine jMd_of (by decide) (Nat.le_of_ble_eq_true rfl) (by simp [Value.category]) (by first | rfl | simp [jw9_len]) (fun x hx F T hmm => ?_)
  refine jG_iload_n F dX6_rule_0 rfl ?_
  refine jG_if_eq F 9 dX6_rule_1 (by decide) (fun qz => absurd qz h0) (fun _ => ?_)
  refine jG_iload_n F dX6_rule_4 rfl ?_
  refine jG_iconst F (v := (1 : Int32)) dX6_rule_5 (by decide) ?_
  refine jG_icmp_ne F 18 dX6_rule_6 (by decide) (fun _ => ?_) (fun qz => absurd qz h1)
  refine jG_iload_n F dX6_rule_18 rfl ?_
  refine jG_iconst F (v := (2 : Int32)) dX6_rule_19 (by decide) ?_
  refine jG_icmp_ne F 39 dX6_rule_20 (by decide) (fun _ => ?_) (fun qz => absurd qz h2)
  refine jG_iconst F (v := (0 : Int32)) dX6_rule_39 (by decide) ?_
  refine jG_istore_n_3n F dX6_rule_40 (by decide) ?_
  refine jG_iload_n F dX6_rule_41 rfl ?_
  refine jG_if_ne F 47 dX6_rule_42 (by decide) (fun qz => absurd qz (by decide)) (fun _ => ?_)
  refine jG_iconst F (v := (-1 : Int32)) dX6_rule_45 (by decide) ?_
  exact jG_iret F T (rfl) rfl (by first | rfl | exact jnarb _ | (split <;> rfl)) dX6_rule_46
theorem c_X6_rule0 (hB : B.length = m) (hv : 0 ≤ v ∧ v ≤ 5) : jMd l E yX6_rule cX6_rule 6 (some .int) 8 [.ref (E.1 + m), .int 0, .int v] (jw9 E B m km false bd ba bw rm A P K rd rx ry pr qs) (some (.int (A 69))) (jw9 E B m km false bd ba bw rm (upd A 69 v) P K rd rx ry pr qs) 0 0 := by
  refine jMd_of (by decide) (Nat.le_of_ble_eq_true rfl) (by simp [Value.category]) (by first | rfl | simp [jw9_len]) (fun x hx F T hmm => ?_)
  refine jG_iload_n F dX6_rule_0 rfl ?_
  refine jG_if_eq F 9 dX6_rule_1 (by decide) (fun _ => ?_) (fun qz => absurd rfl qz)
  refine jG_iload_n F dX6_rule_9 rfl ?_
  refine jG_iconst F (v := (0 : Int32)) dX6_rule_10 (by decide) ?_
  refine jG_iconst F (v := (5 : Int32)) dX6_rule_11 (by decide) ?_
  refine jc_X6_109 F dX6_rule_12 (c_X6_in) (by decide) (Nat.le_refl 0) (Nat.le_refl 0) (Nat.le_of_ble_eq_true rfl) ?_
  refine jG_goto F 40 dX6_rule_15 (by decide) ?_
  refine jG_istore_n_3n F dX6_rule_40 (by decide) ?_
  refine jG_iload_n F dX6_rule_41 rfl ?_
  refine jG_if_ne F 47 dX6_rule_42 (by decide) (fun _ => ?_) (fun qz => absurd qz (by rw [jB01_pos hv]; decide))
  refine jG_iload_n F dX6_rule_47 rfl ?_
  refine jG_iconst F (v := (2 : Int32)) dX6_rule_48 (by decide) ?_
  refine jG_icmp_ne F 63 dX6_rule_49 (by decide) (fun _ => ?_) (fun qz => absurd qz (by decide))
  refine jG_aload_n F dX6_rule_63 rfl ?_
  refine jg_X6_7 F dX6_rule_64 (jw9_o hB) rfl ?_
  refine jG_bipush F (v := (69 : Int32)) dX6_rule_67 (by decide) ?_
  refine jG_iload_n F dX6_rule_69 rfl ?_
  refine jG_iadd F dX6_rule_70 ?_
  refine jG_iald F dX6_rule_71 (jw9_1 hB) (show _ = nI 69 from rfl) (by omega) (by decide) ?_
  refine jG_istore_4n F dX6_rule_72 (by decide) ?_
  refine jG_aload_n F dX6_rule_74 rfl ?_
  refine jg_X6_7 F dX6_rule_75 (jw9_o hB) rfl ?_
  refine jG_bipush F (v := (69 : Int32)) dX6_rule_78 (by decide) ?_
  refine jG_iload_n F dX6_rule_80 rfl ?_
  refine jG_iadd F dX6_rule_81 ?_
  refine jG_iload_n F dX6_rule_82 rfl ?_
  refine jG_iast F dX6_rule_83 (jw9_1 hB) (show _ = nI 69 from rfl) (by omega) (by decide) ?_
  refine jG_eq rfl rfl (jw9_s1 hB) ?_
  refine jG_iload_n F dX6_rule_84 rfl ?_
  refine jG_iconst F (v := (2 : Int32)) dX6_rule_85 (by decide) ?_
  refine jG_icmp_ne F 164 dX6_rule_86 (by decide) (fun _ => ?_) (fun qz => absurd qz (by decide))
  refine jG_iload F dX6_rule_164 rfl ?_
  exact jG_iret F T (rfl) rfl (by first | rfl | exact jnarb _ | (split <;> rfl)) dX6_rule_166
theorem c_X6_rule1 (hB : B.length = m) (hv : 0 ≤ v ∧ v ≤ 5) : jMd l E yX6_rule cX6_rule 6 (some .int) 8 [.ref (E.1 + m), .int 1, .int v] (jw9 E B m km false bd ba bw rm A P K rd rx ry pr qs) (some (.int (A 70))) (jw9 E B m km false bd ba bw rm (upd A 70 v) P K rd rx ry pr qs) 0 0 := by
  refine jMd_of (by decide) (Nat.le_of_ble_eq_true rfl) (by simp [Value.category]) (by first | rfl | simp [jw9_len]) (fun x hx F T hmm => ?_)
  refine jG_iload_n F dX6_rule_0 rfl ?_
  refine jG_if_eq F 9 dX6_rule_1 (by decide) (fun qz => absurd qz (by decide)) (fun _ => ?_)
  refine jG_iload_n F dX6_rule_4 rfl ?_
  refine jG_iconst F (v := (1 : Int32)) dX6_rule_5 (by decide) ?_
  refine jG_icmp_ne F 18 dX6_rule_6 (by decide) (fun qz => absurd qz (by decide)) (fun _ => ?_)
  refine jG_iload_n F dX6_rule_9 rfl ?_
  refine jG_iconst F (v := (0 : Int32)) dX6_rule_10 (by decide) ?_
  refine jG_iconst F (v := (5 : Int32)) dX6_rule_11 (by decide) ?_
  refine jc_X6_109 F dX6_rule_12 (c_X6_in) (by decide) (Nat.le_refl 0) (Nat.le_refl 0) (Nat.le_of_ble_eq_true rfl) ?_
  refine jG_goto F 40 dX6_rule_15 (by decide) ?_
  refine jG_istore_n_3n F dX6_rule_40 (by decide) ?_
  refine jG_iload_n F dX6_rule_41 rfl ?_
  refine jG_if_ne F 47 dX6_rule_42 (by decide) (fun _ => ?_) (fun qz => absurd qz (by rw [jB01_pos hv]; decide))
  refine jG_iload_n F dX6_rule_47 rfl ?_
  refine jG_iconst F (v := (2 : Int32)) dX6_rule_48 (by decide) ?_
  refine jG_icmp_ne F 63 dX6_rule_49 (by decide) (fun _ => ?_) (fun qz => absurd qz (by decide))
  refine jG_aload_n F dX6_rule_63 rfl ?_
  refine jg_X6_7 F dX6_rule_64 (jw9_o hB) rfl ?_
  refine jG_bipush F (v := (69 : Int32)) dX6_rule_67 (by decide) ?_
  refine jG_iload_n F dX6_rule_69 rfl ?_
  refine jG_iadd F dX6_rule_70 ?_
  refine jG_iald F dX6_rule_71 (jw9_1 hB) (show _ = nI 70 from rfl) (by omega) (by decide) ?_
  refine jG_istore_4n F dX6_rule_72 (by decide) ?_
  refine jG_aload_n F dX6_rule_74 rfl ?_
  refine jg_X6_7 F dX6_rule_75 (jw9_o hB) rfl ?_
  refine jG_bipush F (v := (69 : Int32)) dX6_rule_78 (by decide) ?_
  refine jG_iload_n F dX6_rule_80 rfl ?_
  refine jG_iadd F dX6_rule_81 ?_
  refine jG_iload_n F dX6_rule_82 rfl ?_
  refine jG_iast F dX6_rule_83 (jw9_1 hB) (show _ = nI 70 from rfl) (by omega) (by decide) ?_
  refine jG_eq rfl rfl (jw9_s1 hB) ?_
  refine jG_iload_n F dX6_rule_84 rfl ?_
  refine jG_iconst F (v := (2 : Int32)) dX6_rule_85 (by decide) ?_
  refine jG_icmp_ne F 164 dX6_rule_86 (by decide) (fun _ => ?_) (fun qz => absurd qz (by decide))
  refine jG_iload F dX6_rule_164 rfl ?_
  exact jG_iret F T (rfl) rfl (by first | rfl | exact jnarb _ | (split <;> rfl)) dX6_rule_166
theorem c_X6_rule2N (hB : B.length = m) (hv : 10 ≤ v ∧ v ≤ 400) (hg : v < A 65) : jMd l E yX6_rule cX6_rule 6 (some .int) 8 [.ref (E.1 + m), .int 2, .int v] (jw9 E B m km false bd ba bw rm A P K rd rx ry pr qs) (some (.int (-2))) (jw9 E B m km false bd ba bw rm A P K rd rx ry pr qs) 0 0 := by
  refine jMd_of (by decide) (Nat.le_of_ble_eq_true rfl) (by simp [Value.category]) (by first | rfl | simp [jw9_len]) (fun x hx F T hmm => ?_)
  refine jG_iload_n F dX6_rule_0 rfl ?_
  refine jG_if_eq F 9 dX6_rule_1 (by decide) (fun qz => absurd qz (by decide)) (fun _ => ?_)
  refine jG_iload_n F dX6_rule_4 rfl ?_
  refine jG_iconst F (v := (1 : Int32)) dX6_rule_5 (by decide) ?_
  refine jG_icmp_ne F 18 dX6_rule_6 (by decide) (fun _ => ?_) (fun qz => absurd qz (by decide))
  refine jG_iload_n F dX6_rule_18 rfl ?_
  refine jG_iconst F (v := (2 : Int32)) dX6_rule_19 (by decide) ?_
  refine jG_icmp_ne F 39 dX6_rule_20 (by decide) (fun qz => absurd qz (by decide)) (fun _ => ?_)
  refine jG_iload_n F dX6_rule_23 rfl ?_
  refine jG_bipush F (v := (10 : Int32)) dX6_rule_24 (by decide) ?_
  refine jG_sipush F (v := (400 : Int32)) dX6_rule_26 (by decide) ?_
  refine jc_X6_109 F dX6_rule_29 (c_X6_in) (by decide) (Nat.le_refl 0) (Nat.le_refl 0) (Nat.le_of_ble_eq_true rfl) ?_
  refine jG_if_eq F 39 dX6_rule_32 (by decide) (fun qz => absurd qz (by rw [jB01_pos hv]; decide)) (fun _ => ?_)
  refine jG_iconst F (v := (1 : Int32)) dX6_rule_35 (by decide) ?_
  refine jG_goto F 40 dX6_rule_36 (by decide) ?_
  refine jG_istore_n_3n F dX6_rule_40 (by decide) ?_
  refine jG_iload_n F dX6_rule_41 rfl ?_
  refine jG_if_ne F 47 dX6_rule_42 (by decide) (fun _ => ?_) (fun qz => absurd qz (by decide))
  refine jG_iload_n F dX6_rule_47 rfl ?_
  refine jG_iconst F (v := (2 : Int32)) dX6_rule_48 (by decide) ?_
  refine jG_icmp_ne F 63 dX6_rule_49 (by decide) (fun qz => absurd qz (fun z => z rfl)) (fun _ => ?_)
  refine jG_iload_n F dX6_rule_52 rfl ?_
  refine jG_aload_n F dX6_rule_53 rfl ?_
  refine jc_X6_98 F dX6_rule_54 (jW hB (c_X6_gone (jw9_o hB) (jw9_l hB))) (jw9_o hB) (by decide) (Nat.le_refl 0) (Nat.le_refl 0) (Nat.le_of_ble_eq_true rfl) ?_
  refine jG_icmp_ge F 63 dX6_rule_57 (by decide) (fun qz => absurd qz (Int32.not_le.mpr hg)) (fun _ => ?_)
  refine jG_bipush F (v := (-2 : Int32)) dX6_rule_60 (by decide) ?_
  exact jG_iret F T (rfl) rfl (by first | rfl | exact jnarb _ | (split <;> rfl)) dX6_rule_62
/-- TIME told anew: the row before the turn is looked for -/
def mtmA (A : Nat → Int32) (v : Int32) : Nat → Int32 := if v ≤ A 65 then upd (upd (upd A 71 v) 67 (if mcome A then A 67 else 0)) 66 1 else upd (upd (upd A 71 v) 67 0) 66 0
def mpov (A : Nat → Int32) (t : Nat) : Nat → Int32 := if mover A then A else mpsO (¬ (0 : Int32) = 0) A t
theorem mtmA_64 : mtmA A v 64 = A 64 := by unfold mtmA; split <;> rfl
theorem c_X6_rule2 {A' : Nat → Int32} (hB : B.length = m) (hv : 10 ≤ v ∧ v ≤ 400) (hg : ¬ v < A 65) (ht : t < 4) (hA : A 64 = nI t) (hA' : mtmA A v = A') : jMd l E yX6_rule cX6_rule 6 (some .int) 8 [.ref (E.1 + m), .int 2, .int v] (jw9 E B m km false bd ba bw rm A P K rd rx ry pr qs) (some (.int (A 71))) (jw9 E B m km false bd ba bw rm (mpov A' t) P K rd rx ry pr qs) 0 0 := by
  refine jMd_of (by decide) (Nat.le_of_ble_eq_true rfl) (by simp [Value.category]) (by first | rfl | simp [jw9_len]) (fun x hx F T hmm => ?_)
  have h64 : A' 64 = nI t := by rw [← hA', mtmA_64]; exact hA
  have fin : ∀ q, jG E x 0 0 148 [.ref (E.1 + m), .int 2, .int v, .int 1, .int (A 71), q] [] (jw9 E B m km false bd ba bw rm (A') P K rd rx ry pr qs) := by
    intro q
    refine jG_aload_n F dX6_rule_148 rfl ?_
    refine jc_X6_113 F dX6_rule_149 (jW hB (c_X6_isOver (jw9_o hB) (jw9_l hB))) (jw9_o hB) (by decide) (Nat.le_refl 0) (Nat.le_refl 0) (Nat.le_of_ble_eq_true rfl) ?_
    refine jG_if_ne F 164 dX6_rule_152 (by decide) (fun q2 => ?_) (fun q2 => ?_)
    · have q2 := jB01_ne q2
      rw [show mpov A' t = A' from if_pos q2] at T
      refine jG_iload F dX6_rule_164 rfl ?_
      exact jG_iret F T (rfl) rfl (by first | rfl | exact jnarb _ | (split <;> rfl)) dX6_rule_166
    · have q2 := jB01_eq q2
      rw [show mpov A' t = mpsO (¬ (0 : Int32) = 0) A' t from if_neg q2] at T
      refine jG_aload_n F dX6_rule_155 rfl ?_
      refine jG_aload_n F dX6_rule_156 rfl ?_
      refine jc_X6_102 F dX6_rule_157 (jW hB (c_X6_turn (jw9_o hB) (jw9_l hB))) (jw9_o hB) (by decide) (Nat.le_refl 0) (Nat.le_refl 0) (Nat.le_of_ble_eq_true rfl) ?_
      refine jG_eq rfl (show _ = [Value.int (nI t), Value.ref (E.1 + m)] by rw [h64]) rfl ?_
      refine jG_iconst F (v := (0 : Int32)) dX6_rule_160 (by decide) ?_
      refine jc_X6_105 F dX6_rule_161 (jW hB (c_X6_passOver (jw9_o hB) (jw9_l hB) ht)) (jw9_o hB) (by decide) (Nat.le_refl 0) (Nat.le_refl 0) (Nat.le_of_ble_eq_true rfl) ?_
      refine jG_iload F dX6_rule_164 rfl ?_
      exact jG_iret F T (rfl) rfl (by first | rfl | exact jnarb _ | (split <;> rfl)) dX6_rule_166
  refine jG_iload_n F dX6_rule_0 rfl ?_
  refine jG_if_eq F 9 dX6_rule_1 (by decide) (fun qz => absurd qz (by decide)) (fun _ => ?_)
  refine jG_iload_n F dX6_rule_4 rfl ?_
  refine jG_iconst F (v := (1 : Int32)) dX6_rule_5 (by decide) ?_
  refine jG_icmp_ne F 18 dX6_rule_6 (by decide) (fun _ => ?_) (fun qz => absurd qz (by decide))
  refine jG_iload_n F dX6_rule_18 rfl ?_
  refine jG_iconst F (v := (2 : Int32)) dX6_rule_19 (by decide) ?_
  refine jG_icmp_ne F 39 dX6_rule_20 (by decide) (fun qz => absurd qz (by decide)) (fun _ => ?_)
  refine jG_iload_n F dX6_rule_23 rfl ?_
  refine jG_bipush F (v := (10 : Int32)) dX6_rule_24 (by decide) ?_
  refine jG_sipush F (v := (400 : Int32)) dX6_rule_26 (by decide) ?_
  refine jc_X6_109 F dX6_rule_29 (c_X6_in) (by decide) (Nat.le_refl 0) (Nat.le_refl 0) (Nat.le_of_ble_eq_true rfl) ?_
  refine jG_if_eq F 39 dX6_rule_32 (by decide) (fun qz => absurd qz (by rw [jB01_pos hv]; decide)) (fun _ => ?_)
  refine jG_iconst F (v := (1 : Int32)) dX6_rule_35 (by decide) ?_
  refine jG_goto F 40 dX6_rule_36 (by decide) ?_
  refine jG_istore_n_3n F dX6_rule_40 (by decide) ?_
  refine jG_iload_n F dX6_rule_41 rfl ?_
  refine jG_if_ne F 47 dX6_rule_42 (by decide) (fun _ => ?_) (fun qz => absurd qz (by decide))
  refine jG_iload_n F dX6_rule_47 rfl ?_
  refine jG_iconst F (v := (2 : Int32)) dX6_rule_48 (by decide) ?_
  refine jG_icmp_ne F 63 dX6_rule_49 (by decide) (fun qz => absurd qz (fun z => z rfl)) (fun _ => ?_)
  refine jG_iload_n F dX6_rule_52 rfl ?_
  refine jG_aload_n F dX6_rule_53 rfl ?_
  refine jc_X6_98 F dX6_rule_54 (jW hB (c_X6_gone (jw9_o hB) (jw9_l hB))) (jw9_o hB) (by decide) (Nat.le_refl 0) (Nat.le_refl 0) (Nat.le_of_ble_eq_true rfl) ?_
  refine jG_icmp_ge F 63 dX6_rule_57 (by decide) (fun _ => ?_) (fun qz => absurd (Int32.not_lt.mp hg) qz)
  refine jG_aload_n F dX6_rule_63 rfl ?_
  refine jg_X6_7 F dX6_rule_64 (jw9_o hB) rfl ?_
  refine jG_bipush F (v := (69 : Int32)) dX6_rule_67 (by decide) ?_
  refine jG_iload_n F dX6_rule_69 rfl ?_
  refine jG_iadd F dX6_rule_70 ?_
  refine jG_iald F dX6_rule_71 (jw9_1 hB) (show _ = nI 71 from rfl) (by omega) (by decide) ?_
  refine jG_istore_4n F dX6_rule_72 (by decide) ?_
  refine jG_aload_n F dX6_rule_74 rfl ?_
  refine jg_X6_7 F dX6_rule_75 (jw9_o hB) rfl ?_
  refine jG_bipush F (v := (69 : Int32)) dX6_rule_78 (by decide) ?_
  refine jG_iload_n F dX6_rule_80 rfl ?_
  refine jG_iadd F dX6_rule_81 ?_
  refine jG_iload_n F dX6_rule_82 rfl ?_
  refine jG_iast F dX6_rule_83 (jw9_1 hB) (show _ = nI 71 from rfl) (by omega) (by decide) ?_
  refine jG_eq rfl rfl (jw9_s1 hB) ?_
  refine jG_iload_n F dX6_rule_84 rfl ?_
  refine jG_iconst F (v := (2 : Int32)) dX6_rule_85 (by decide) ?_
  refine jG_icmp_ne F 164 dX6_rule_86 (by decide) (fun qz => absurd qz (fun z => z rfl)) (fun _ => ?_)
  refine jG_aload_n F dX6_rule_89 rfl ?_
  refine jc_X6_98 F dX6_rule_90 (jW hB (c_X6_gone (jw9_o hB) (jw9_l hB))) (jw9_o hB) (by decide) (Nat.le_refl 0) (Nat.le_refl 0) (Nat.le_of_ble_eq_true rfl) ?_
  refine jG_iload_n F dX6_rule_93 rfl ?_
  refine jG_icmp_lt F 101 dX6_rule_94 (by decide) (fun q => ?_) (fun q => ?_)
  · have q : ¬ v ≤ A 65 := Int32.not_le.mpr q
    refine jG_iconst F (v := (0 : Int32)) dX6_rule_101 (by decide) ?_
    refine jG_istore_5n F dX6_rule_102 (by decide) ?_
    refine jG_aload_n F dX6_rule_104 rfl ?_
    refine jG_bipush F (v := nI 67) dX6_rule_105 (by decide) ?_
    refine jG_iload F dX6_rule_107 rfl ?_
    refine jG_if_eq F 128 dX6_rule_109 (by decide) (fun _ => ?_) (fun qz => absurd rfl qz)
    refine jG_iconst F (v := (0 : Int32)) dX6_rule_128 (by decide) ?_
    refine jc_X6_54 F dX6_rule_129 (jW hB (c_X6_lay (jw9_o hB) (jw9_l hB) rfl (by omega))) (jw9_o hB) (by decide) (Nat.le_refl 0) (Nat.le_refl 0) (Nat.le_of_ble_eq_true rfl) ?_
    refine jG_aload_n F dX6_rule_132 rfl ?_
    refine jG_bipush F (v := nI 66) dX6_rule_133 (by decide) ?_
    refine jG_iload F dX6_rule_135 rfl ?_
    refine jG_if_eq F 144 dX6_rule_137 (by decide) (fun _ => ?_) (fun qz => absurd rfl qz)
    refine jG_iconst F (v := (0 : Int32)) dX6_rule_144 (by decide) ?_
    refine jc_X6_54 F dX6_rule_145 (jW hB (c_X6_lay (jw9_o hB) (jw9_l hB) rfl (by omega))) (jw9_o hB) (by decide) (Nat.le_refl 0) (Nat.le_refl 0) (Nat.le_of_ble_eq_true rfl) ?_
    refine jG_eq rfl rfl ?_ (fin _)
    rw [← hA', show mtmA A v = _ from if_neg q]
  · have q : v ≤ A 65 := Int32.not_lt.mp q
    refine jG_iconst F (v := (1 : Int32)) dX6_rule_97 (by decide) ?_
    refine jG_goto F 102 dX6_rule_98 (by decide) ?_
    refine jG_istore_5n F dX6_rule_102 (by decide) ?_
    refine jG_aload_n F dX6_rule_104 rfl ?_
    refine jG_bipush F (v := nI 67) dX6_rule_105 (by decide) ?_
    refine jG_iload F dX6_rule_107 rfl ?_
    refine jG_if_eq F 128 dX6_rule_109 (by decide) (fun qz => absurd qz (by decide)) (fun _ => ?_)
    refine jG_aload_n F dX6_rule_112 rfl ?_
    refine jc_X6_84 F dX6_rule_113 (jW hB (c_X6_isCome (jw9_o hB) (jw9_l hB))) (jw9_o hB) (by decide) (Nat.le_refl 0) (Nat.le_refl 0) (Nat.le_of_ble_eq_true rfl) ?_
    refine jG_if_eq F 128 dX6_rule_116 (by decide) (fun q3 => ?_) (fun q3 => ?_)
    · have q3 : ¬ mcome A := jB01_eq q3
      refine jG_iconst F (v := (0 : Int32)) dX6_rule_128 (by decide) ?_
      refine jc_X6_54 F dX6_rule_129 (jW hB (c_X6_lay (jw9_o hB) (jw9_l hB) rfl (by omega))) (jw9_o hB) (by decide) (Nat.le_refl 0) (Nat.le_refl 0) (Nat.le_of_ble_eq_true rfl) ?_
      refine jG_aload_n F dX6_rule_132 rfl ?_
      refine jG_bipush F (v := nI 66) dX6_rule_133 (by decide) ?_
      refine jG_iload F dX6_rule_135 rfl ?_
      refine jG_if_eq F 144 dX6_rule_137 (by decide) (fun qz => absurd qz (by decide)) (fun _ => ?_)
      refine jG_iconst F (v := (1 : Int32)) dX6_rule_140 (by decide) ?_
      refine jG_goto F 145 dX6_rule_141 (by decide) ?_
      refine jc_X6_54 F dX6_rule_145 (jW hB (c_X6_lay (jw9_o hB) (jw9_l hB) rfl (by omega))) (jw9_o hB) (by decide) (Nat.le_refl 0) (Nat.le_refl 0) (Nat.le_of_ble_eq_true rfl) ?_
      refine jG_eq rfl rfl ?_ (fin _)
      rw [← hA', show mtmA A v = _ from if_pos q, if_neg q3]
    · have q3 : mcome A := jB01_ne q3
      refine jG_aload_n F dX6_rule_119 rfl ?_
      refine jG_bipush F (v := nI 67) dX6_rule_120 (by decide) ?_
      refine jc_X6_41 F dX6_rule_122 (jW hB (c_X6_at (jw9_o hB) (jw9_l hB) rfl (by omega))) (jw9_o hB) (by decide) (Nat.le_refl 0) (Nat.le_refl 0) (Nat.le_of_ble_eq_true rfl) ?_
      refine jG_goto F 129 dX6_rule_125 (by decide) ?_
      refine jc_X6_54 F dX6_rule_129 (jW hB (c_X6_lay (jw9_o hB) (jw9_l hB) rfl (by omega))) (jw9_o hB) (by decide) (Nat.le_refl 0) (Nat.le_refl 0) (Nat.le_of_ble_eq_true rfl) ?_
      refine jG_aload_n F dX6_rule_132 rfl ?_
      refine jG_bipush F (v := nI 66) dX6_rule_133 (by decide) ?_
      refine jG_iload F dX6_rule_135 rfl ?_
      refine jG_if_eq F 144 dX6_rule_137 (by decide) (fun qz => absurd qz (by decide)) (fun _ => ?_)
      refine jG_iconst F (v := (1 : Int32)) dX6_rule_140 (by decide) ?_
      refine jG_goto F 145 dX6_rule_141 (by decide) ?_
      refine jc_X6_54 F dX6_rule_145 (jW hB (c_X6_lay (jw9_o hB) (jw9_l hB) rfl (by omega))) (jw9_o hB) (by decide) (Nat.le_refl 0) (Nat.le_refl 0) (Nat.le_of_ble_eq_true rfl) ?_
      refine jG_eq rfl rfl ?_ (fin _)
      rw [← hA', show mtmA A v = _ from if_pos q, if_pos q3]; rfl
theorem c_X6_seedB (hB : B.length = m) (h : ¬ (1 ≤ v ∧ v ≤ 2147483646)) : jMd l E yX6_seed cX6_seed 2 (some .int) 1 [.ref (E.1 + m), .int v] (jw9 E B m km false bd ba bw rm A P K rd rx ry pr qs) (some (.int (-1))) (jw9 E B m km false bd ba bw rm A P K rd rx ry pr qs) 0 0 := by
  refine jMd_of (by decide) (Nat.le_of_ble_eq_true rfl) (by simp [Value.category]) (by first | rfl | simp [jw9_len]) (fun x hx F T hmm => ?_)
  refine jG_iload_n F dX6_seed_0 rfl ?_
  refine jG_iconst F (v := (1 : Int32)) dX6_seed_1 (by decide) ?_
  refine jG_ldc F (v := 2147483646) dX6_seed_2 (by decide +kernel) ?_
  refine jc_X6_109 F dX6_seed_4 (c_X6_in) (by decide) (Nat.le_refl 0) (Nat.le_refl 0) (Nat.le_of_ble_eq_true rfl) ?_
  refine jG_if_ne F 12 dX6_seed_7 (by decide) (fun qz => absurd qz (fun z => h (jB01_ne z))) (fun _ => ?_)
  refine jG_iconst F (v := (-1 : Int32)) dX6_seed_10 (by decide) ?_
  exact jG_iret F T (rfl) rfl (by first | rfl | exact jnarb _ | (split <;> rfl)) dX6_seed_11
theorem c_X6_seed (hB : B.length = m) (h : 1 ≤ v ∧ v ≤ 2147483646) : jMd l E yX6_seed cX6_seed 2 (some .int) 1 [.ref (E.1 + m), .int v] (jw9 E B m km false bd ba bw rm A P K rd rx ry pr qs) (some (.int 0)) (jw9 E B m km false bd ba bw rm (upd A 72 v) P K rd rx ry pr qs) 0 0 := by
  refine jMd_of (by decide) (Nat.le_of_ble_eq_true rfl) (by simp [Value.category]) (by first | rfl | simp [jw9_len]) (fun x hx F T hmm => ?_)
  refine jG_iload_n F dX6_seed_0 rfl ?_
  refine jG_iconst F (v := (1 : Int32)) dX6_seed_1 (by decide) ?_
  refine jG_ldc F (v := 2147483646) dX6_seed_2 (by decide +kernel) ?_
  refine jc_X6_109 F dX6_seed_4 (c_X6_in) (by decide) (Nat.le_refl 0) (Nat.le_refl 0) (Nat.le_of_ble_eq_true rfl) ?_
  refine jG_if_ne F 12 dX6_seed_7 (by decide) (fun _ => ?_) (fun qz => absurd qz (by rw [jB01_pos h]; decide))
  refine jG_aload_n F dX6_seed_12 rfl ?_
  refine jg_X6_7 F dX6_seed_13 (jw9_o hB) rfl ?_
  refine jG_bipush F (v := nI 72) dX6_seed_16 (by decide) ?_
  refine jG_iload_n F dX6_seed_18 rfl ?_
  refine jG_iast F dX6_seed_19 (jw9_1 hB) rfl (by omega) (by decide) ?_
  refine jG_eq rfl rfl (jw9_s1 hB) ?_
  refine jG_iconst F (v := (0 : Int32)) dX6_seed_20 (by decide) ?_
  exact jG_iret F T (rfl) rfl (by first | rfl | exact jnarb _ | (split <;> rfl)) dX6_seed_21
abbrev mmark (a b : Int32) : Prop := jspot a b ∨ (a = 41 ∧ b = 41) ∨ (a = -1 ∧ b = -1)
theorem c_X6_putB (hB : B.length = m) (h : ¬ (0 ≤ a ∧ a ≤ 15) ∨ ¬ mmark b c) : jMd l E yX6_put cX6_put 4 (some .int) 8 [.ref (E.1 + m), .int a, .int b, .int c] (jw9 E B m km false bd ba bw rm A P K rd rx ry pr qs) (some (.int (-1))) (jw9 E B m km false bd ba bw rm A P K rd rx ry pr qs) 0 0 := by
  refine jMd_of (by decide) (Nat.le_of_ble_eq_true rfl) (by simp [Value.category]) (by first | rfl | simp [jw9_len]) (fun x hx F T hmm => ?_)
  refine jG_iload_n F dX6_put_0 rfl ?_
  refine jc_X6_117 F dX6_put_1 (c_X6_isDisc) (by decide) (Nat.le_refl 0) (Nat.le_refl 0) (Nat.le_of_ble_eq_true rfl) ?_
  refine jG_if_eq F 31 dX6_put_4 (by decide) (fun q => ?_) (fun q => ?_)
  · refine jG_iconst F (v := (-1 : Int32)) dX6_put_31 (by decide) ?_
    exact jG_iret F T (rfl) rfl (by first | rfl | exact jnarb _ | (split <;> rfl)) dX6_put_32
  · have q := jB01_ne q
    refine jG_iload_n F dX6_put_7 rfl ?_
    refine jG_iload_n F dX6_put_8 rfl ?_
    refine jc_X6_120 F dX6_put_9 (c_X6_isSpot) (by decide) (Nat.le_refl 0) (Nat.le_refl 0) (Nat.le_of_ble_eq_true rfl) ?_
    refine jG_if_ne F 33 dX6_put_12 (by decide) (fun qz => absurd qz (fun z => h.elim (fun y => y q) (fun y => y (Or.inl (jB01_ne z))))) (fun _ => ?_)
    refine jG_iload_n F dX6_put_15 rfl ?_
    refine jG_iload_n F dX6_put_16 rfl ?_
    refine jc_X6_123 F dX6_put_17 (c_X6_isCup) (by decide) (Nat.le_refl 0) (Nat.le_refl 0) (Nat.le_of_ble_eq_true rfl) ?_
    refine jG_if_ne F 33 dX6_put_20 (by decide) (fun qz => absurd qz (fun z => h.elim (fun y => y q) (fun y => y (Or.inr (Or.inl (jB01_ne z)))))) (fun _ => ?_)
    refine jG_iload_n F dX6_put_23 rfl ?_
    refine jG_iload_n F dX6_put_24 rfl ?_
    refine jc_X6_126 F dX6_put_25 (c_X6_isNowhere) (by decide) (Nat.le_refl 0) (Nat.le_refl 0) (Nat.le_of_ble_eq_true rfl) ?_
    refine jG_if_ne F 33 dX6_put_28 (by decide) (fun qz => absurd qz (fun z => h.elim (fun y => y q) (fun y => y (Or.inr (Or.inr (jB01_ne z)))))) (fun _ => ?_)
    refine jG_iconst F (v := (-1 : Int32)) dX6_put_31 (by decide) ?_
    exact jG_iret F T (rfl) rfl (by first | rfl | exact jnarb _ | (split <;> rfl)) dX6_put_32
def mput (A : Nat → Int32) (d : Nat) (a b : Int32) : Nat → Int32 := if jspot a b then mplc A d a b else if a = 41 ∧ b = 41 then upd A d 2 else upd A d 0
theorem mplc_o {k : Nat} (hk : 64 ≤ k) (h68 : ¬ k = 68) (hd : d < 16) : mplc A d a b k = A k := by
  simp [mplc, mpl3, upd, h68, show ¬ k = 48 + d by omega, show ¬ k = 32 + d by omega, show ¬ k = 16 + d by omega, show ¬ k = d by omega]
theorem mput_64 (hd : d < 16) : mput A d a b 64 = A 64 := by
  unfold mput
  split
  · exact mplc_o (by decide) (by decide) hd
  · split <;> simp [upd, show ¬ 64 = d by omega]
theorem c_X6_put {A' : Nat → Int32} (hB : B.length = m) (hd : d < 16) (hk : mmark a b) (ht : t < 4) (hA : A 64 = nI t) (hA' : mput A d a b = A') : jMd l E yX6_put cX6_put 4 (some .int) 8 [.ref (E.1 + m), .int (nI d), .int a, .int b] (jw9 E B m km false bd ba bw rm A P K rd rx ry pr qs) (some (.int 0)) (jw9 E B m km false bd ba bw rm (mpov A' t) P K rd rx ry pr qs) 0 0 := by
  refine jMd_of (by decide) (Nat.le_of_ble_eq_true rfl) (by simp [Value.category]) (by first | rfl | simp [jw9_len]) (fun x hx F T hmm => ?_)
  have h64 : A' 64 = nI t := by rw [← hA', mput_64 hd]; exact hA
  have hdi := jin_n (k := d) (n := 15) (by omega) (by decide) (m := 15) rfl
  have fin : jG E x 0 0 69 [.ref (E.1 + m), .int (nI d), .int a, .int b] [] (jw9 E B m km false bd ba bw rm (A') P K rd rx ry pr qs) := by
    refine jG_aload_n F dX6_put_69 rfl ?_
    refine jc_X6_113 F dX6_put_70 (jW hB (c_X6_isOver (jw9_o hB) (jw9_l hB))) (jw9_o hB) (by decide) (Nat.le_refl 0) (Nat.le_refl 0) (Nat.le_of_ble_eq_true rfl) ?_
    refine jG_if_ne F 85 dX6_put_73 (by decide) (fun q2 => ?_) (fun q2 => ?_)
    · have q2 := jB01_ne q2
      rw [show mpov A' t = A' from if_pos q2] at T
      refine jG_iconst F (v := (0 : Int32)) dX6_put_85 (by decide) ?_
      exact jG_iret F T (rfl) rfl (by first | rfl | exact jnarb _ | (split <;> rfl)) dX6_put_86
    · have q2 := jB01_eq q2
      rw [show mpov A' t = mpsO (¬ (0 : Int32) = 0) A' t from if_neg q2] at T
      refine jG_aload_n F dX6_put_76 rfl ?_
      refine jG_aload_n F dX6_put_77 rfl ?_
      refine jc_X6_102 F dX6_put_78 (jW hB (c_X6_turn (jw9_o hB) (jw9_l hB))) (jw9_o hB) (by decide) (Nat.le_refl 0) (Nat.le_refl 0) (Nat.le_of_ble_eq_true rfl) ?_
      refine jG_eq rfl (show _ = [Value.int (nI t), Value.ref (E.1 + m)] by rw [h64]) rfl ?_
      refine jG_iconst F (v := (0 : Int32)) dX6_put_81 (by decide) ?_
      refine jc_X6_105 F dX6_put_82 (jW hB (c_X6_passOver (jw9_o hB) (jw9_l hB) ht)) (jw9_o hB) (by decide) (Nat.le_refl 0) (Nat.le_refl 0) (Nat.le_of_ble_eq_true rfl) ?_
      refine jG_iconst F (v := (0 : Int32)) dX6_put_85 (by decide) ?_
      exact jG_iret F T (rfl) rfl (by first | rfl | exact jnarb _ | (split <;> rfl)) dX6_put_86
  refine jG_iload_n F dX6_put_0 rfl ?_
  refine jc_X6_117 F dX6_put_1 (c_X6_isDisc) (by decide) (Nat.le_refl 0) (Nat.le_refl 0) (Nat.le_of_ble_eq_true rfl) ?_
  refine jG_if_eq F 31 dX6_put_4 (by decide) (fun qz => absurd qz (by rw [jB01_pos hdi]; decide)) (fun _ => ?_)
  have go : jG E x 0 0 33 [.ref (E.1 + m), .int (nI d), .int a, .int b] [] (jw9 E B m km false bd ba bw rm A P K rd rx ry pr qs) := by
    refine jG_iload_n F dX6_put_33 rfl ?_
    refine jG_iload_n F dX6_put_34 rfl ?_
    refine jc_X6_120 F dX6_put_35 (c_X6_isSpot) (by decide) (Nat.le_refl 0) (Nat.le_refl 0) (Nat.le_of_ble_eq_true rfl) ?_
    refine jG_if_eq F 51 dX6_put_38 (by decide) (fun q => ?_) (fun q => ?_)
    · have q := jB01_eq q
      refine jG_aload_n F dX6_put_51 rfl ?_
      refine jG_iload_n F dX6_put_52 rfl ?_
      refine jG_iload_n F dX6_put_53 rfl ?_
      refine jG_iload_n F dX6_put_54 rfl ?_
      refine jc_X6_123 F dX6_put_55 (c_X6_isCup) (by decide) (Nat.le_refl 0) (Nat.le_refl 0) (Nat.le_of_ble_eq_true rfl) ?_
      refine jG_if_eq F 65 dX6_put_58 (by decide) (fun q2 => ?_) (fun q2 => ?_)
      · have q2 := jB01_eq q2
        refine jG_iconst F (v := (0 : Int32)) dX6_put_65 (by decide) ?_
        refine jc_X6_54 F dX6_put_66 (jW hB (c_X6_lay (jw9_o hB) (jw9_l hB) rfl (by omega))) (jw9_o hB) (by decide) (Nat.le_refl 0) (Nat.le_refl 0) (Nat.le_of_ble_eq_true rfl) ?_
        refine jG_eq rfl rfl ?_ fin
        rw [← hA', show mput A d a b = _ from (if_neg q).trans (if_neg q2)]
      · have q2 := jB01_ne q2
        refine jG_iconst F (v := (2 : Int32)) dX6_put_61 (by decide) ?_
        refine jG_goto F 66 dX6_put_62 (by decide) ?_
        refine jc_X6_54 F dX6_put_66 (jW hB (c_X6_lay (jw9_o hB) (jw9_l hB) rfl (by omega))) (jw9_o hB) (by decide) (Nat.le_refl 0) (Nat.le_refl 0) (Nat.le_of_ble_eq_true rfl) ?_
        refine jG_eq rfl rfl ?_ fin
        rw [← hA', show mput A d a b = _ from (if_neg q).trans (if_pos q2)]
    · have q := jB01_ne q
      refine jG_aload_n F dX6_put_41 rfl ?_
      refine jG_iload_n F dX6_put_42 rfl ?_
      refine jG_iload_n F dX6_put_43 rfl ?_
      refine jG_iload_n F dX6_put_44 rfl ?_
      refine jc_X6_129 F dX6_put_45 (jW hB (c_X6_place (jw9_o hB) (jw9_l hB) hd)) (jw9_o hB) (by decide) (Nat.le_refl 0) (Nat.le_refl 0) (Nat.le_of_ble_eq_true rfl) ?_
      refine jG_goto F 69 dX6_put_48 (by decide) ?_
      refine jG_eq rfl rfl ?_ fin
      rw [← hA', show mput A d a b = _ from if_pos q]
  refine jG_iload_n F dX6_put_7 rfl ?_
  refine jG_iload_n F dX6_put_8 rfl ?_
  refine jc_X6_120 F dX6_put_9 (c_X6_isSpot) (by decide) (Nat.le_refl 0) (Nat.le_refl 0) (Nat.le_of_ble_eq_true rfl) ?_
  refine jG_if_ne F 33 dX6_put_12 (by decide) (fun q => ?_) (fun q => ?_)
  · exact go
  · have q := jB01_eq q
    refine jG_iload_n F dX6_put_15 rfl ?_
    refine jG_iload_n F dX6_put_16 rfl ?_
    refine jc_X6_123 F dX6_put_17 (c_X6_isCup) (by decide) (Nat.le_refl 0) (Nat.le_refl 0) (Nat.le_of_ble_eq_true rfl) ?_
    refine jG_if_ne F 33 dX6_put_20 (by decide) (fun q2 => ?_) (fun q2 => ?_)
    · exact go
    · have q2 := jB01_eq q2
      refine jG_iload_n F dX6_put_23 rfl ?_
      refine jG_iload_n F dX6_put_24 rfl ?_
      refine jc_X6_126 F dX6_put_25 (c_X6_isNowhere) (by decide) (Nat.le_refl 0) (Nat.le_refl 0) (Nat.le_of_ble_eq_true rfl) ?_
      refine jG_if_ne F 33 dX6_put_28 (by decide) (fun _ => ?_) (fun qz => absurd qz (by rw [jB01_pos (hk.resolve_left q |>.resolve_left q2)]; decide))
      exact go
theorem c_X6_aboutB (hB : B.length = m) (h : ¬ (0 ≤ a ∧ a ≤ 15)) : jMd l E yX6_about cX6_about 3 (some .int) 6 [.ref (E.1 + m), .int a, .int w] (jw9 E B m km false bd ba bw rm A P K rd rx ry pr qs) (some (.int (-1))) (jw9 E B m km false bd ba bw rm A P K rd rx ry pr qs) 0 0 := by
  refine jMd_of (by decide) (Nat.le_of_ble_eq_true rfl) (by simp [Value.category]) (by first | rfl | simp [jw9_len]) (fun x hx F T hmm => ?_)
  refine jG_iload_n F dX6_about_0 rfl ?_
  refine jc_X6_117 F dX6_about_1 (c_X6_isDisc) (by decide) (Nat.le_refl 0) (Nat.le_refl 0) (Nat.le_of_ble_eq_true rfl) ?_
  refine jG_if_ne F 9 dX6_about_4 (by decide) (fun qz => absurd qz (fun z => h (jB01_ne z))) (fun _ => ?_)
  refine jG_iconst F (v := (-1 : Int32)) dX6_about_7 (by decide) ?_
  exact jG_iret F T (rfl) rfl (by first | rfl | exact jnarb _ | (split <;> rfl)) dX6_about_8
theorem c_X6_about0 (hB : B.length = m) (hd : d < 16) : jMd l E yX6_about cX6_about 3 (some .int) 6 [.ref (E.1 + m), .int (nI d), .int 0] (jw9 E B m km false bd ba bw rm A P K rd rx ry pr qs) (some (.int (A d))) (jw9 E B m km false bd ba bw rm A P K rd rx ry pr qs) 0 0 := by
  refine jMd_of (by decide) (Nat.le_of_ble_eq_true rfl) (by simp [Value.category]) (by first | rfl | simp [jw9_len]) (fun x hx F T hmm => ?_)
  have hdi := jin_n (k := d) (n := 15) (by omega) (by decide) (m := 15) rfl
  refine jG_iload_n F dX6_about_0 rfl ?_
  refine jc_X6_117 F dX6_about_1 (c_X6_isDisc) (by decide) (Nat.le_refl 0) (Nat.le_refl 0) (Nat.le_of_ble_eq_true rfl) ?_
  refine jG_if_ne F 9 dX6_about_4 (by decide) (fun _ => ?_) (fun qz => absurd qz (by rw [jB01_pos hdi]; decide))
  refine jG_iload_n F dX6_about_9 rfl ?_
  refine jG_tableIn F 52 dX6_about_10 (by decide) (by decide) rfl (by decide) ?_
  refine jG_aload_n F dX6_about_52 rfl ?_
  refine jG_iload_n F dX6_about_53 rfl ?_
  refine jc_X6_45 F dX6_about_54 (jW hB (c_X6_how (jw9_o hB) (jw9_l hB) rfl (by omega))) (jw9_o hB) (by decide) (Nat.le_refl 0) (Nat.le_refl 0) (Nat.le_of_ble_eq_true rfl) ?_
  exact jG_iret F T (rfl) rfl (by first | rfl | exact jnarb _ | (split <;> rfl)) dX6_about_57
theorem c_X6_about1 (hB : B.length = m) (hd : d < 16) : jMd l E yX6_about cX6_about 3 (some .int) 6 [.ref (E.1 + m), .int (nI d), .int 1] (jw9 E B m km false bd ba bw rm A P K rd rx ry pr qs) (some (.int (mX A d))) (jw9 E B m km false bd ba bw rm A P K rd rx ry pr qs) 0 0 := by
  refine jMd_of (by decide) (Nat.le_of_ble_eq_true rfl) (by simp [Value.category]) (by first | rfl | simp [jw9_len]) (fun x hx F T hmm => ?_)
  have hdi := jin_n (k := d) (n := 15) (by omega) (by decide) (m := 15) rfl
  refine jG_iload_n F dX6_about_0 rfl ?_
  refine jc_X6_117 F dX6_about_1 (c_X6_isDisc) (by decide) (Nat.le_refl 0) (Nat.le_refl 0) (Nat.le_of_ble_eq_true rfl) ?_
  refine jG_if_ne F 9 dX6_about_4 (by decide) (fun _ => ?_) (fun qz => absurd qz (by rw [jB01_pos hdi]; decide))
  refine jG_iload_n F dX6_about_9 rfl ?_
  refine jG_tableIn F 58 dX6_about_10 (by decide) (by decide) rfl (by decide) ?_
  refine jG_aload_n F dX6_about_58 rfl ?_
  refine jG_iload_n F dX6_about_59 rfl ?_
  refine jc_X6_58 F dX6_about_60 (jW hB (c_X6_xOf (jw9_o hB) (jw9_l hB) (by omega))) (jw9_o hB) (by decide) (Nat.le_refl 0) (Nat.le_refl 0) (Nat.le_of_ble_eq_true rfl) ?_
  exact jG_iret F T (rfl) rfl (by first | rfl | exact jnarb _ | (split <;> rfl)) dX6_about_63
theorem c_X6_about2 (hB : B.length = m) (hd : d < 16) : jMd l E yX6_about cX6_about 3 (some .int) 6 [.ref (E.1 + m), .int (nI d), .int 2] (jw9 E B m km false bd ba bw rm A P K rd rx ry pr qs) (some (.int (mY A d))) (jw9 E B m km false bd ba bw rm A P K rd rx ry pr qs) 0 0 := by
  refine jMd_of (by decide) (Nat.le_of_ble_eq_true rfl) (by simp [Value.category]) (by first | rfl | simp [jw9_len]) (fun x hx F T hmm => ?_)
  have hdi := jin_n (k := d) (n := 15) (by omega) (by decide) (m := 15) rfl
  refine jG_iload_n F dX6_about_0 rfl ?_
  refine jc_X6_117 F dX6_about_1 (c_X6_isDisc) (by decide) (Nat.le_refl 0) (Nat.le_refl 0) (Nat.le_of_ble_eq_true rfl) ?_
  refine jG_if_ne F 9 dX6_about_4 (by decide) (fun _ => ?_) (fun qz => absurd qz (by rw [jB01_pos hdi]; decide))
  refine jG_iload_n F dX6_about_9 rfl ?_
  refine jG_tableIn F 64 dX6_about_10 (by decide) (by decide) rfl (by decide) ?_
  refine jG_aload_n F dX6_about_64 rfl ?_
  refine jG_iload_n F dX6_about_65 rfl ?_
  refine jc_X6_65 F dX6_about_66 (jW hB (c_X6_yOf (jw9_o hB) (jw9_l hB) (by omega))) (jw9_o hB) (by decide) (Nat.le_refl 0) (Nat.le_refl 0) (Nat.le_of_ble_eq_true rfl) ?_
  exact jG_iret F T (rfl) rfl (by first | rfl | exact jnarb _ | (split <;> rfl)) dX6_about_69
theorem c_X6_about3 (hB : B.length = m) (hd : d < 16) : jMd l E yX6_about cX6_about 3 (some .int) 6 [.ref (E.1 + m), .int (nI d), .int 3] (jw9 E B m km false bd ba bw rm A P K rd rx ry pr qs) (some (.int (jB01 (mfree A d)))) (jw9 E B m km false bd ba bw rm A P K rd rx ry pr qs) 0 0 := by
  refine jMd_of (by decide) (Nat.le_of_ble_eq_true rfl) (by simp [Value.category]) (by first | rfl | simp [jw9_len]) (fun x hx F T hmm => ?_)
  have hdi := jin_n (k := d) (n := 15) (by omega) (by decide) (m := 15) rfl
  refine jG_iload_n F dX6_about_0 rfl ?_
  refine jc_X6_117 F dX6_about_1 (c_X6_isDisc) (by decide) (Nat.le_refl 0) (Nat.le_refl 0) (Nat.le_of_ble_eq_true rfl) ?_
  refine jG_if_ne F 9 dX6_about_4 (by decide) (fun _ => ?_) (fun qz => absurd qz (by rw [jB01_pos hdi]; decide))
  refine jG_iload_n F dX6_about_9 rfl ?_
  refine jG_tableIn F 70 dX6_about_10 (by decide) (by decide) rfl (by decide) ?_
  refine jG_aload_n F dX6_about_70 rfl ?_
  refine jG_iload_n F dX6_about_71 rfl ?_
  refine jc_X6_81 F dX6_about_72 (jW hB (c_X6_isFree (jw9_o hB) (jw9_l hB) (by omega))) (jw9_o hB) (by decide) (Nat.le_refl 0) (Nat.le_refl 0) (Nat.le_of_ble_eq_true rfl) ?_
  refine jG_if_eq F 82 dX6_about_75 (by decide) (fun q => ?_) (fun q => ?_)
  · refine jG_iconst F (v := (0 : Int32)) dX6_about_82 (by decide) ?_
    exact jG_iret F T ((jB01_neg (jB01_eq q)).symm) rfl (by first | rfl | exact jnarb _ | (split <;> rfl)) dX6_about_83
  · refine jG_iconst F (v := (1 : Int32)) dX6_about_78 (by decide) ?_
    refine jG_goto F 83 dX6_about_79 (by decide) ?_
    exact jG_iret F T ((jB01_pos (jB01_ne q)).symm) rfl (by first | rfl | exact jnarb _ | (split <;> rfl)) dX6_about_83
theorem c_X6_about4 (hB : B.length = m) (hd : d < 16) : jMd l E yX6_about cX6_about 3 (some .int) 6 [.ref (E.1 + m), .int (nI d), .int 4] (jw9 E B m km false bd ba bw rm A P K rd rx ry pr qs) (some (.int (mcvd A d))) (jw9 E B m km false bd ba bw rm A P K rd rx ry pr qs) 0 0 := by
  refine jMd_of (by decide) (Nat.le_of_ble_eq_true rfl) (by simp [Value.category]) (by first | rfl | simp [jw9_len]) (fun x hx F T hmm => ?_)
  have hdi := jin_n (k := d) (n := 15) (by omega) (by decide) (m := 15) rfl
  refine jG_iload_n F dX6_about_0 rfl ?_
  refine jc_X6_117 F dX6_about_1 (c_X6_isDisc) (by decide) (Nat.le_refl 0) (Nat.le_refl 0) (Nat.le_of_ble_eq_true rfl) ?_
  refine jG_if_ne F 9 dX6_about_4 (by decide) (fun _ => ?_) (fun qz => absurd qz (by rw [jB01_pos hdi]; decide))
  refine jG_iload_n F dX6_about_9 rfl ?_
  refine jG_tableIn F 84 dX6_about_10 (by decide) (by decide) rfl (by decide) ?_
  refine jG_aload_n F dX6_about_84 rfl ?_
  refine jG_iload_n F dX6_about_85 rfl ?_
  refine jc_X6_78 F dX6_about_86 (jW hB (c_X6_covered (jw9_o hB) (jw9_l hB) (by omega))) (jw9_o hB) (by decide) (Nat.le_refl 0) (Nat.le_refl 0) (Nat.le_of_ble_eq_true rfl) ?_
  exact jG_iret F T (rfl) rfl (by first | rfl | exact jnarb _ | (split <;> rfl)) dX6_about_89
theorem c_X6_about5 (hB : B.length = m) (hd : d < 16) : jMd l E yX6_about cX6_about 3 (some .int) 6 [.ref (E.1 + m), .int (nI d), .int 5] (jw9 E B m km false bd ba bw rm A P K rd rx ry pr qs) (some (.int (mcvr A d))) (jw9 E B m km false bd ba bw rm A P K rd rx ry pr qs) 0 0 := by
  refine jMd_of (by decide) (Nat.le_of_ble_eq_true rfl) (by simp [Value.category]) (by first | rfl | simp [jw9_len]) (fun x hx F T hmm => ?_)
  have hdi := jin_n (k := d) (n := 15) (by omega) (by decide) (m := 15) rfl
  refine jG_iload_n F dX6_about_0 rfl ?_
  refine jc_X6_117 F dX6_about_1 (c_X6_isDisc) (by decide) (Nat.le_refl 0) (Nat.le_refl 0) (Nat.le_of_ble_eq_true rfl) ?_
  refine jG_if_ne F 9 dX6_about_4 (by decide) (fun _ => ?_) (fun qz => absurd qz (by rw [jB01_pos hdi]; decide))
  refine jG_iload_n F dX6_about_9 rfl ?_
  refine jG_tableIn F 90 dX6_about_10 (by decide) (by decide) rfl (by decide) ?_
  refine jG_aload_n F dX6_about_90 rfl ?_
  refine jG_iload_n F dX6_about_91 rfl ?_
  refine jc_X6_75 F dX6_about_92 (jW hB (c_X6_coverers (jw9_o hB) (jw9_l hB) (by omega))) (jw9_o hB) (by decide) (Nat.le_refl 0) (Nat.le_refl 0) (Nat.le_of_ble_eq_true rfl) ?_
  exact jG_iret F T (rfl) rfl (by first | rfl | exact jnarb _ | (split <;> rfl)) dX6_about_95
abbrev mpile (A : Nat → Int32) (d : Nat) : Int32 := if A d = 1 then mitr A (jbit d) 16 else 0
theorem c_X6_about6 (hB : B.length = m) (hd : d < 16) (hb : ¬ jbit d = 0) (hfix : mstp A (mitr A (jbit d) 16) 16 = mitr A (jbit d) 16) : jMd l E yX6_about cX6_about 3 (some .int) 6 [.ref (E.1 + m), .int (nI d), .int 6] (jw9 E B m km false bd ba bw rm A P K rd rx ry pr qs) (some (.int (mpile A d))) (jw9 E B m km false bd ba bw rm A P K rd rx ry pr qs) 0 0 := by
  refine jMd_of (by decide) (Nat.le_of_ble_eq_true rfl) (by simp [Value.category]) (by first | rfl | simp [jw9_len]) (fun x hx F T hmm => ?_)
  have hdi := jin_n (k := d) (n := 15) (by omega) (by decide) (m := 15) rfl
  refine jG_iload_n F dX6_about_0 rfl ?_
  refine jc_X6_117 F dX6_about_1 (c_X6_isDisc) (by decide) (Nat.le_refl 0) (Nat.le_refl 0) (Nat.le_of_ble_eq_true rfl) ?_
  refine jG_if_ne F 9 dX6_about_4 (by decide) (fun _ => ?_) (fun qz => absurd qz (by rw [jB01_pos hdi]; decide))
  refine jG_iload_n F dX6_about_9 rfl ?_
  refine jG_tableIn F 96 dX6_about_10 (by decide) (by decide) rfl (by decide) ?_
  refine jG_aload_n F dX6_about_96 rfl ?_
  refine jG_iload_n F dX6_about_97 rfl ?_
  refine jc_X6_133 F dX6_about_98 (jW hB (c_X6_pile (jw9_o hB) (jw9_l hB) hd hb hfix)) (jw9_o hB) (by decide) (Nat.le_refl 0) (Nat.le_refl 0) (Nat.le_of_ble_eq_true rfl) ?_
  exact jG_iret F T (rfl) rfl (by first | rfl | exact jnarb _ | (split <;> rfl)) dX6_about_101
theorem c_X6_aboutD (hB : B.length = m) (hd : d < 16) (h0 : ¬ w = 0) (h1 : ¬ w = 1) (h2 : ¬ w = 2) (h3 : ¬ w = 3) (h4 : ¬ w = 4) (h5 : ¬ w = 5) (h6 : ¬ w = 6) : jMd l E yX6_about cX6_about 3 (some .int) 6 [.ref (E.1 + m), .int (nI d), .int w] (jw9 E B m km false bd ba bw rm A P K rd rx ry pr qs) (some (.int (-1))) (jw9 E B m km false bd ba bw rm A P K rd rx ry pr qs) 0 0 := by
  refine jMd_of (by decide) (Nat.le_of_ble_eq_true rfl) (by simp [Value.category]) (by first | rfl | simp [jw9_len]) (fun x hx F T hmm => ?_)
  have hdi := jin_n (k := d) (n := 15) (by omega) (by decide) (m := 15) rfl
  refine jG_iload_n F dX6_about_0 rfl ?_
  refine jc_X6_117 F dX6_about_1 (c_X6_isDisc) (by decide) (Nat.le_refl 0) (Nat.le_refl 0) (Nat.le_of_ble_eq_true rfl) ?_
  refine jG_if_ne F 9 dX6_about_4 (by decide) (fun _ => ?_) (fun qz => absurd qz (by rw [jB01_pos hdi]; decide))
  refine jG_iload_n F dX6_about_9 rfl ?_
  refine jG_tableOut F 102 dX6_about_10 (by have z0 := lv_neT (a := 0) h0 rfl; have z1 := lv_neT (a := 1) h1 rfl; have z2 := lv_neT (a := 2) h2 rfl; have z3 := lv_neT (a := 3) h3 rfl; have z4 := lv_neT (a := 4) h4 rfl; have z5 := lv_neT (a := 5) h5 rfl; have z6 := lv_neT (a := 6) h6 rfl; omega) (by decide) ?_
  refine jG_iconst F (v := (-1 : Int32)) dX6_about_102 (by decide) ?_
  exact jG_iret F T (rfl) rfl (by first | rfl | exact jnarb _ | (split <;> rfl)) dX6_about_103
end MV
