/-! ===== JumpDiscs: its public methods ===== -/
section XJ0
variable {E : jE} {C : jCT} {M : List va_E}
theorem jtop_o : (jtop E C M)[0]? = some (.inr (5, [.ref (E.1 + 1), .ref (E.1 + 6), .ref (E.1 + 7), .ref (E.1 + 21), .ref (E.1 + 25), .int (nI C.2.2.2.2.2)])) := rfl
theorem jtop_n : (jtop E C M)[1]? = some (jgo E 1 C.1.2.1 C.1.2.2.1 C.1.2.2.2.1 C.1.2.2.2.2.1 C.1.2.2.2.2.2.1 C.1.2.2.2.2.2.2.1 C.1.2.2.2.2.2.2.2) := rfl
theorem jtop_b : (jtop E C M)[1 + 1]? = some (jbo E (1 + 1) C.1.1.2.2.2.1 C.1.1.2.2.2.2.1 C.1.1.2.2.2.2.2) := rfl
theorem jtop_x : (jtop E C M)[1 + 1 + 1]? = some (jar E 16 C.1.1.1) := rfl
theorem jtop_y : (jtop E C M)[1 + 1 + 2]? = some (jar E 16 C.1.1.2.1) := rfl
theorem jtop_c : (jtop E C M)[1 + 1 + 3]? = some (jar E 16 C.1.1.2.2.1) := rfl
theorem jtop_a : (jtop E C M)[6]? = some (jao C.2.1.1 C.2.1.2.1 C.2.1.2.2) := rfl
theorem jtop_r : (jtop E C M)[7]? = some (jro E 7 C.2.2.1.2.2.2.1 C.2.2.1.2.2.2.2.1 C.2.2.1.2.2.2.2.2.1 C.2.2.1.2.2.2.2.2.2.1) := rfl
theorem jtop_s : (jtop E C M)[21]? = some (jso E 21) := rfl
theorem jtop_k : (jtop E C M)[25]? = some (jgr E 3 (jkf E)) := rfl
theorem jdisc {v : Int32} (h : 0 ≤ v ∧ v ≤ 15) : ∃ k, k < 16 ∧ v = nI k := by
  obtain ⟨k, hk, e⟩ := nI_of2 (M := 15) (n := 15) (by decide) (Int32.not_lt.mpr h.1) h.2
  exact ⟨k, by omega, e⟩
theorem jplay {v : Int32} (h : 0 ≤ v ∧ v ≤ 3) : ∃ k, k < 4 ∧ v = nI k := by
  obtain ⟨k, hk, e⟩ := nI_of2 (M := 3) (n := 3) (by decide) (Int32.not_lt.mpr h.1) h.2
  exact ⟨k, by omega, e⟩
theorem jin_n {k n : Nat} (h : k ≤ n) (hn : n < 2 ^ 31) {m : Int32} (hm : m = nI n) : 0 ≤ nI k ∧ nI k ≤ m := by
  subst hm
  exact ⟨nI_pos' (by omega), nI_le h hn⟩
abbrev jspot (a b : Int32) : Prop := (0 ≤ a ∧ a ≤ 40) ∧ (0 ≤ b ∧ b ≤ 40)
abbrev jmark (a b : Int32) : Prop := ((0 ≤ a ∧ a ≤ 40) ∧ (0 ≤ b ∧ b ≤ 40)) ∨ (a = b ∧ (a = -1 ∨ a = 41))
end XJ0
section XJ
variable {l : Launch} {E : jE} {C : jCT} {M : List va_E} {k : Nat} {a b c v w : Int32}
theorem c_X5_anew : jMd l E yX5_anew cX5_anew 2 (some .int) 5 [.ref (E.1 + 0)] (jtop E C M) (some (.int C.1.2.2.2.2.2.2.1)) (jtop E (jsta C.1 C.1.2.2.2.1, C.2) M) 0 0 := by
  refine jMd_of (by decide) (Nat.le_of_ble_eq_true rfl) (by simp [Value.category]) (by first | rfl | simp [jtop_len]) (fun x hx F T hm => ?_)
  refine jG_aload_n F dX5_anew_0 rfl ?_
  refine jg_X5_10 F dX5_anew_1 jtop_o rfl ?_
  refine jg_X5_45 F dX5_anew_4 jtop_n rfl ?_
  refine jG_istore_n_1n F dX5_anew_7 (by decide) ?_
  refine jG_aload_n F dX5_anew_8 rfl ?_
  refine jg_X5_10 F dX5_anew_9 jtop_o rfl ?_
  refine jc_X5_48 F dX5_anew_12 (t_beginAnew) jtop_n (by decide) (Nat.le_refl 0) (Nat.le_refl 0) (Nat.le_of_ble_eq_true rfl) ?_
  refine jG_iload_n F dX5_anew_15 rfl ?_
  exact jG_iret F T (rfl) rfl (by first | rfl | exact jnarb _ | (split <;> rfl)) dX5_anew_16
theorem c_X5_rule0 (hv : 0 ≤ v ∧ v ≤ 5) : jMd l E yX5_rule cX5_rule 3 (some .int) 4 [.ref (E.1 + 0), .int 0, .int v] (jtop E C M) (some (.int C.1.2.1)) (jtop E ((C.1.1, v, C.1.2.2), C.2) M) 0 0 := by
  refine jMd_of (by decide) (Nat.le_of_ble_eq_true rfl) (by simp [Value.category]) (by first | rfl | simp [jtop_len]) (fun x hx F T hm => ?_)
  refine jG_iload_n F dX5_rule_0 rfl ?_
  refine jG_tableIn F 28 dX5_rule_1 (by decide) (by decide) rfl (by decide) ?_
  refine jG_iload_n F dX5_rule_28 rfl ?_
  refine jG_iconst F (v := (0 : Int32)) dX5_rule_29 (by decide) ?_
  refine jG_iconst F (v := (5 : Int32)) dX5_rule_30 (by decide) ?_
  refine jc_X5_51 F dX5_rule_31 (c_X5_within) (by decide) (Nat.le_refl 0) (Nat.le_refl 0) (Nat.le_of_ble_eq_true rfl) ?_
  refine jG_if_eq F 48 dX5_rule_34 (by decide) (fun qz => absurd qz (by rw [jB01_pos hv]; decide)) (fun _ => ?_)
  refine jG_aload_n F dX5_rule_37 rfl ?_
  refine jg_X5_10 F dX5_rule_38 jtop_o rfl ?_
  refine jG_iload_n F dX5_rule_41 rfl ?_
  refine jc_X5_55 F dX5_rule_42 (t_changeRough) jtop_n (by decide) (Nat.le_refl 0) (Nat.le_refl 0) (Nat.le_of_ble_eq_true rfl) ?_
  refine jG_goto F 49 dX5_rule_45 (by decide) ?_
  exact jG_iret F T (rfl) rfl (by first | rfl | exact jnarb _ | (split <;> rfl)) dX5_rule_49
theorem c_X5_rule0B (hv : ¬ (0 ≤ v ∧ v ≤ 5)) : jMd l E yX5_rule cX5_rule 3 (some .int) 4 [.ref (E.1 + 0), .int 0, .int v] (jtop E C M) (some (.int (-1))) (jtop E C M) 0 0 := by
  refine jMd_of (by decide) (Nat.le_of_ble_eq_true rfl) (by simp [Value.category]) (by first | rfl | simp [jtop_len]) (fun x hx F T hm => ?_)
  refine jG_iload_n F dX5_rule_0 rfl ?_
  refine jG_tableIn F 28 dX5_rule_1 (by decide) (by decide) rfl (by decide) ?_
  refine jG_iload_n F dX5_rule_28 rfl ?_
  refine jG_iconst F (v := (0 : Int32)) dX5_rule_29 (by decide) ?_
  refine jG_iconst F (v := (5 : Int32)) dX5_rule_30 (by decide) ?_
  refine jc_X5_51 F dX5_rule_31 (c_X5_within) (by decide) (Nat.le_refl 0) (Nat.le_refl 0) (Nat.le_of_ble_eq_true rfl) ?_
  refine jG_if_eq F 48 dX5_rule_34 (by decide) (fun _ => ?_) (fun qz => absurd (jB01_neg hv) qz)
  refine jG_iconst F (v := (-1 : Int32)) dX5_rule_48 (by decide) ?_
  exact jG_iret F T (rfl) rfl (by first | rfl | exact jnarb _ | (split <;> rfl)) dX5_rule_49
theorem c_X5_rule1 (hv : 0 ≤ v ∧ v ≤ 5) : jMd l E yX5_rule cX5_rule 3 (some .int) 4 [.ref (E.1 + 0), .int 1, .int v] (jtop E C M) (some (.int C.1.2.2.1)) (jtop E ((C.1.1, C.1.2.1, v, C.1.2.2.2), C.2) M) 0 0 := by
  refine jMd_of (by decide) (Nat.le_of_ble_eq_true rfl) (by simp [Value.category]) (by first | rfl | simp [jtop_len]) (fun x hx F T hm => ?_)
  refine jG_iload_n F dX5_rule_0 rfl ?_
  refine jG_tableIn F 50 dX5_rule_1 (by decide) (by decide) rfl (by decide) ?_
  refine jG_iload_n F dX5_rule_50 rfl ?_
  refine jG_iconst F (v := (0 : Int32)) dX5_rule_51 (by decide) ?_
  refine jG_iconst F (v := (5 : Int32)) dX5_rule_52 (by decide) ?_
  refine jc_X5_51 F dX5_rule_53 (c_X5_within) (by decide) (Nat.le_refl 0) (Nat.le_refl 0) (Nat.le_of_ble_eq_true rfl) ?_
  refine jG_if_eq F 70 dX5_rule_56 (by decide) (fun qz => absurd qz (by rw [jB01_pos hv]; decide)) (fun _ => ?_)
  refine jG_aload_n F dX5_rule_59 rfl ?_
  refine jg_X5_10 F dX5_rule_60 jtop_o rfl ?_
  refine jG_iload_n F dX5_rule_63 rfl ?_
  refine jc_X5_59 F dX5_rule_64 (t_changeRun) jtop_n (by decide) (Nat.le_refl 0) (Nat.le_refl 0) (Nat.le_of_ble_eq_true rfl) ?_
  refine jG_goto F 71 dX5_rule_67 (by decide) ?_
  exact jG_iret F T (rfl) rfl (by first | rfl | exact jnarb _ | (split <;> rfl)) dX5_rule_71
theorem c_X5_rule1B (hv : ¬ (0 ≤ v ∧ v ≤ 5)) : jMd l E yX5_rule cX5_rule 3 (some .int) 4 [.ref (E.1 + 0), .int 1, .int v] (jtop E C M) (some (.int (-1))) (jtop E C M) 0 0 := by
  refine jMd_of (by decide) (Nat.le_of_ble_eq_true rfl) (by simp [Value.category]) (by first | rfl | simp [jtop_len]) (fun x hx F T hm => ?_)
  refine jG_iload_n F dX5_rule_0 rfl ?_
  refine jG_tableIn F 50 dX5_rule_1 (by decide) (by decide) rfl (by decide) ?_
  refine jG_iload_n F dX5_rule_50 rfl ?_
  refine jG_iconst F (v := (0 : Int32)) dX5_rule_51 (by decide) ?_
  refine jG_iconst F (v := (5 : Int32)) dX5_rule_52 (by decide) ?_
  refine jc_X5_51 F dX5_rule_53 (c_X5_within) (by decide) (Nat.le_refl 0) (Nat.le_refl 0) (Nat.le_of_ble_eq_true rfl) ?_
  refine jG_if_eq F 70 dX5_rule_56 (by decide) (fun _ => ?_) (fun qz => absurd (jB01_neg hv) qz)
  refine jG_iconst F (v := (-1 : Int32)) dX5_rule_70 (by decide) ?_
  exact jG_iret F T (rfl) rfl (by first | rfl | exact jnarb _ | (split <;> rfl)) dX5_rule_71
theorem c_X5_rule2 (hv : 10 ≤ v ∧ v ≤ 400) (ht : C.1.2.2.2.2.2.1 < 4) : jMd l E yX5_rule cX5_rule 3 (some .int) 4 [.ref (E.1 + 0), .int 2, .int v] (jtop E C M) (some (.int (if v < C.1.2.2.2.2.2.2.1 then -2 else C.1.2.2.2.1))) (jtop E (jctm C.1 v, C.2) M) 0 0 := by
  refine jMd_of (by decide) (Nat.le_of_ble_eq_true rfl) (by simp [Value.category]) (by first | rfl | simp [jtop_len]) (fun x hx F T hm => ?_)
  refine jG_iload_n F dX5_rule_0 rfl ?_
  refine jG_tableIn F 72 dX5_rule_1 (by decide) (by decide) rfl (by decide) ?_
  refine jG_iload_n F dX5_rule_72 rfl ?_
  refine jG_bipush F (v := (10 : Int32)) dX5_rule_73 (by decide) ?_
  refine jG_sipush F (v := (400 : Int32)) dX5_rule_75 (by decide) ?_
  refine jc_X5_51 F dX5_rule_78 (c_X5_within) (by decide) (Nat.le_refl 0) (Nat.le_refl 0) (Nat.le_of_ble_eq_true rfl) ?_
  refine jG_if_eq F 95 dX5_rule_81 (by decide) (fun qz => absurd qz (by rw [jB01_pos hv]; decide)) (fun _ => ?_)
  refine jG_aload_n F dX5_rule_84 rfl ?_
  refine jg_X5_10 F dX5_rule_85 jtop_o rfl ?_
  refine jG_iload_n F dX5_rule_88 rfl ?_
  refine jc_X5_62 F dX5_rule_89 (t_changeTime ht) jtop_n (by decide) (Nat.le_refl 0) (Nat.le_refl 0) (Nat.le_of_ble_eq_true rfl) ?_
  refine jG_goto F 96 dX5_rule_92 (by decide) ?_
  exact jG_iret F T (rfl) rfl (by first | rfl | exact jnarb _ | (split <;> rfl)) dX5_rule_96
theorem c_X5_rule2B (hv : ¬ (10 ≤ v ∧ v ≤ 400)) : jMd l E yX5_rule cX5_rule 3 (some .int) 4 [.ref (E.1 + 0), .int 2, .int v] (jtop E C M) (some (.int (-1))) (jtop E C M) 0 0 := by
  refine jMd_of (by decide) (Nat.le_of_ble_eq_true rfl) (by simp [Value.category]) (by first | rfl | simp [jtop_len]) (fun x hx F T hm => ?_)
  refine jG_iload_n F dX5_rule_0 rfl ?_
  refine jG_tableIn F 72 dX5_rule_1 (by decide) (by decide) rfl (by decide) ?_
  refine jG_iload_n F dX5_rule_72 rfl ?_
  refine jG_bipush F (v := (10 : Int32)) dX5_rule_73 (by decide) ?_
  refine jG_sipush F (v := (400 : Int32)) dX5_rule_75 (by decide) ?_
  refine jc_X5_51 F dX5_rule_78 (c_X5_within) (by decide) (Nat.le_refl 0) (Nat.le_refl 0) (Nat.le_of_ble_eq_true rfl) ?_
  refine jG_if_eq F 95 dX5_rule_81 (by decide) (fun _ => ?_) (fun qz => absurd (jB01_neg hv) qz)
  refine jG_iconst F (v := (-1 : Int32)) dX5_rule_95 (by decide) ?_
  exact jG_iret F T (rfl) rfl (by first | rfl | exact jnarb _ | (split <;> rfl)) dX5_rule_96
theorem c_X5_ruleB (h0 : ¬ w = 0) (h1 : ¬ w = 1) (h2 : ¬ w = 2) : jMd l E yX5_rule cX5_rule 3 (some .int) 4 [.ref (E.1 + 0), .int w, .int v] (jtop E C M) (some (.int (-1))) (jtop E C M) 0 0 := by
  refine jMd_of (by decide) (Nat.le_of_ble_eq_true rfl) (by simp [Value.category]) (by first | rfl | simp [jtop_len]) (fun x hx F T hm => ?_)
  refine jG_iload_n F dX5_rule_0 rfl ?_
  refine jG_tableOut F 97 dX5_rule_1 (by have z0 := lv_neT (a := 0) h0 rfl; have z1 := lv_neT (a := 1) h1 rfl; have z2 := lv_neT (a := 2) h2 rfl; omega) (by decide) ?_
  refine jG_iconst F (v := (-1 : Int32)) dX5_rule_97 (by decide) ?_
  exact jG_iret F T (rfl) rfl (by first | rfl | exact jnarb _ | (split <;> rfl)) dX5_rule_98
theorem jlcmp (p q : Int64) : lg_cmp p q < 0 ↔ p < q := by
  have h := lg_cmp_ge p q
  constructor
  · intro z; exact Int64.not_le.mp (fun y => absurd (h.mpr y) (Int32.not_le.mpr z))
  · intro z; exact Int32.not_le.mp (fun y => absurd (h.mp y) (Int64.not_le.mpr z))
theorem c_X5_seed (h1 : ¬ v < 1) (h2 : v.toInt64 < 2147483647) : jMd l E yX5_seed cX5_seed 2 (some .int) 0 [.ref (E.1 + 0), .int v] (jtop E C M) (some (.int 0)) (jtop E ((C.1.1, C.1.2.1, C.1.2.2.1, C.1.2.2.2.1, v.toInt64, C.1.2.2.2.2.2), C.2) M) 0 0 := by
  refine jMd_of (by decide) (Nat.le_of_ble_eq_true rfl) (by simp [Value.category]) (by first | rfl | simp [jtop_len]) (fun x hx F T hm => ?_)
  refine jG_iload_n F dX5_seed_0 rfl ?_
  refine jG_iconst F (v := (1 : Int32)) dX5_seed_1 (by decide) ?_
  refine jG_icmp_lt F 14 dX5_seed_2 (by decide) (fun qz => absurd qz h1) (fun _ => ?_)
  refine jG_iload_n F dX5_seed_5 rfl ?_
  refine jG_i2l F dX5_seed_6 ?_
  refine jG_ldc2 F (v := 2147483647) dX5_seed_7 (by decide +kernel) ?_
  refine jG_lcmp F dX5_seed_10 ?_
  refine jG_if_lt F 16 dX5_seed_11 (by decide) (fun _ => ?_) (fun qz => absurd ((jlcmp _ _).mpr h2) qz)
  refine jG_aload_n F dX5_seed_16 rfl ?_
  refine jg_X5_10 F dX5_seed_17 jtop_o rfl ?_
  refine jG_iload_n F dX5_seed_20 rfl ?_
  refine jG_i2l F dX5_seed_21 ?_
  refine jp_X5_67 F dX5_seed_22 jtop_n rfl rfl (Nat.le_of_ble_eq_true rfl) ?_
  refine jG_eq rfl rfl jtop_se ?_
  refine jG_iconst F (v := (0 : Int32)) dX5_seed_25 (by decide) ?_
  exact jG_iret F T (rfl) rfl (by first | rfl | exact jnarb _ | (split <;> rfl)) dX5_seed_26
theorem c_X5_seedB (h : v < 1 ∨ ¬ v.toInt64 < 2147483647) : jMd l E yX5_seed cX5_seed 2 (some .int) 0 [.ref (E.1 + 0), .int v] (jtop E C M) (some (.int (-1))) (jtop E C M) 0 0 := by
  refine jMd_of (by decide) (Nat.le_of_ble_eq_true rfl) (by simp [Value.category]) (by first | rfl | simp [jtop_len]) (fun x hx F T hm => ?_)
  refine jG_iload_n F dX5_seed_0 rfl ?_
  refine jG_iconst F (v := (1 : Int32)) dX5_seed_1 (by decide) ?_
  refine jG_icmp_lt F 14 dX5_seed_2 (by decide) (fun q => ?_) (fun q => ?_)
  · refine jG_iconst F (v := (-1 : Int32)) dX5_seed_14 (by decide) ?_
    exact jG_iret F T (rfl) rfl (by first | rfl | exact jnarb _ | (split <;> rfl)) dX5_seed_15
  · refine jG_iload_n F dX5_seed_5 rfl ?_
    refine jG_i2l F dX5_seed_6 ?_
    refine jG_ldc2 F (v := 2147483647) dX5_seed_7 (by decide +kernel) ?_
    refine jG_lcmp F dX5_seed_10 ?_
    refine jG_if_lt F 16 dX5_seed_11 (by decide) (fun qz => absurd qz (fun z => h.elim q (fun y => y ((jlcmp _ _).mp z)))) (fun _ => ?_)
    refine jG_iconst F (v := (-1 : Int32)) dX5_seed_14 (by decide) ?_
    exact jG_iret F T (rfl) rfl (by first | rfl | exact jnarb _ | (split <;> rfl)) dX5_seed_15
theorem c_X5_putB (h : ¬ (0 ≤ a ∧ a ≤ 15) ∨ ¬ jmark b c) : jMd l E yX5_put cX5_put 4 (some .int) 3 [.ref (E.1 + 0), .int a, .int b, .int c] (jtop E C M) (some (.int (-1))) (jtop E C M) 0 0 := by
  refine jMd_of (by decide) (Nat.le_of_ble_eq_true rfl) (by simp [Value.category]) (by first | rfl | simp [jtop_len]) (fun x hx F T hm => ?_)
  refine jG_iload_n F dX5_put_0 rfl ?_
  refine jc_X5_71 F dX5_put_1 (c_X5_isDisc) (by decide) (Nat.le_refl 0) (Nat.le_refl 0) (Nat.le_of_ble_eq_true rfl) ?_
  refine jG_if_eq F 15 dX5_put_4 (by decide) (fun q => ?_) (fun q => ?_)
  · refine jG_iconst F (v := (-1 : Int32)) dX5_put_15 (by decide) ?_
    exact jG_iret F T (rfl) rfl (by first | rfl | exact jnarb _ | (split <;> rfl)) dX5_put_16
  · have q := jB01_ne q
    refine jG_iload_n F dX5_put_7 rfl ?_
    refine jG_iload_n F dX5_put_8 rfl ?_
    refine jc_X5_75 F dX5_put_9 (c_X5_isMarkOrPlace) (by decide) (Nat.le_refl 0) (Nat.le_refl 0) (Nat.le_of_ble_eq_true rfl) ?_
    refine jG_if_ne F 17 dX5_put_12 (by decide) (fun qz => absurd qz (fun z => h.elim (fun y => y q) (fun y => y (jB01_ne z)))) (fun _ => ?_)
    refine jG_iconst F (v := (-1 : Int32)) dX5_put_15 (by decide) ?_
    exact jG_iret F T (rfl) rfl (by first | rfl | exact jnarb _ | (split <;> rfl)) dX5_put_16
/-- put: the board, then the turn -/
def jpuG (G : jGT) (B : jBT) : jGT := (B, G.2.1, G.2.2.1, G.2.2.2.1, G.2.2.2.2.1, (if jovr B.2.2.2.2.1 G.2.2.2.2.2.2.2 then G.2.2.2.2.2.1 else jskipT (jfree B.2.2.2.2.1 B.2.2.2.2.2) 4 G.2.2.2.2.2.1), G.2.2.2.2.2.2)
theorem c_X5_put {B' : jBT} (hB : jbringF C.1.1 k b c = B') (hk : k < 16) (hm0 : jmark b c) (ht : C.1.2.2.2.2.2.1 < 4) : jMd l E yX5_put cX5_put 4 (some .int) 3 [.ref (E.1 + 0), .int (nI k), .int b, .int c] (jtop E C M) (some (.int 0)) (jtop E (jpuG C.1 B', C.2) M) 0 0 := by
  refine jMd_of (by decide) (Nat.le_of_ble_eq_true rfl) (by simp [Value.category]) (by first | rfl | simp [jtop_len]) (fun x hx F T hm => ?_)
  have hd := jin_n (k := k) (n := 15) (by omega) (by decide) (m := 15) rfl
  have kb := t_bring (l := jL x) (E := E) (C := C) (M := M) (d := k) (a := b) (b := c) hk
  rw [hB] at kb
  refine jG_iload_n F dX5_put_0 rfl ?_
  refine jc_X5_71 F dX5_put_1 (c_X5_isDisc) (by decide) (Nat.le_refl 0) (Nat.le_refl 0) (Nat.le_of_ble_eq_true rfl) ?_
  refine jG_if_eq F 15 dX5_put_4 (by decide) (fun qz => absurd qz (by rw [jB01_pos hd]; decide)) (fun _ => ?_)
  refine jG_iload_n F dX5_put_7 rfl ?_
  refine jG_iload_n F dX5_put_8 rfl ?_
  refine jc_X5_75 F dX5_put_9 (c_X5_isMarkOrPlace) (by decide) (Nat.le_refl 0) (Nat.le_refl 0) (Nat.le_of_ble_eq_true rfl) ?_
  refine jG_if_ne F 17 dX5_put_12 (by decide) (fun _ => ?_) (fun qz => absurd qz (by rw [jB01_pos hm0]; decide))
  refine jG_aload_n F dX5_put_17 rfl ?_
  refine jg_X5_10 F dX5_put_18 jtop_o rfl ?_
  refine jg_X5_79 F dX5_put_21 jtop_n rfl ?_
  refine jG_iload_n F dX5_put_24 rfl ?_
  refine jG_iload_n F dX5_put_25 rfl ?_
  refine jG_iload_n F dX5_put_26 rfl ?_
  refine jc_X5_83 F dX5_put_27 (kb) jtop_b (by decide) (Nat.le_refl 0) (Nat.le_refl 0) (Nat.le_of_ble_eq_true rfl) ?_
  refine jG_aload_n F dX5_put_30 rfl ?_
  refine jg_X5_10 F dX5_put_31 jtop_o rfl ?_
  refine jc_X5_89 F dX5_put_34 (t_passOver (C := ((B', C.1.2), C.2)) ht) jtop_n (by decide) (Nat.le_refl 0) (Nat.le_refl 0) (Nat.le_of_ble_eq_true rfl) ?_
  refine jG_iconst F (v := (0 : Int32)) dX5_put_37 (by decide) ?_
  exact jG_iret F T (rfl) rfl (by first | rfl | exact jnarb _ | (split <;> rfl)) dX5_put_38
theorem c_X5_aboutB (h : ¬ (0 ≤ a ∧ a ≤ 15)) : jMd l E yX5_about cX5_about 4 (some .int) 2 [.ref (E.1 + 0), .int a, .int w] (jtop E C M) (some (.int (-1))) (jtop E C M) 0 0 := by
  refine jMd_of (by decide) (Nat.le_of_ble_eq_true rfl) (by simp [Value.category]) (by first | rfl | simp [jtop_len]) (fun x hx F T hm => ?_)
  refine jG_iload_n F dX5_about_0 rfl ?_
  refine jc_X5_71 F dX5_about_1 (c_X5_isDisc) (by decide) (Nat.le_refl 0) (Nat.le_refl 0) (Nat.le_of_ble_eq_true rfl) ?_
  refine jG_if_ne F 9 dX5_about_4 (by decide) (fun qz => absurd qz (fun z => h (jB01_ne z))) (fun _ => ?_)
  refine jG_iconst F (v := (-1 : Int32)) dX5_about_7 (by decide) ?_
  exact jG_iret F T (rfl) rfl (by first | rfl | exact jnarb _ | (split <;> rfl)) dX5_about_8
theorem c_X5_about0 (hk : k < 16) : jMd l E yX5_about cX5_about 4 (some .int) 2 [.ref (E.1 + 0), .int (nI k), .int 0] (jtop E C M) (some (.int (if jts C.1.1.2.2.2.2.1 k then 2 else if jts C.1.1.2.2.2.1 k then 1 else 0))) (jtop E C M) 0 0 := by
  refine jMd_of (by decide) (Nat.le_of_ble_eq_true rfl) (by simp [Value.category]) (by first | rfl | simp [jtop_len]) (fun x hx F T hm => ?_)
  have hd := jin_n (k := k) (n := 15) (by omega) (by decide) (m := 15) rfl
  refine jG_iload_n F dX5_about_0 rfl ?_
  refine jc_X5_71 F dX5_about_1 (c_X5_isDisc) (by decide) (Nat.le_refl 0) (Nat.le_refl 0) (Nat.le_of_ble_eq_true rfl) ?_
  refine jG_if_ne F 9 dX5_about_4 (by decide) (fun _ => ?_) (fun qz => absurd qz (by rw [jB01_pos hd]; decide))
  refine jG_aload_n F dX5_about_9 rfl ?_
  refine jg_X5_10 F dX5_about_10 jtop_o rfl ?_
  refine jg_X5_79 F dX5_about_13 jtop_n rfl ?_
  refine jG_astore_n_3n F dX5_about_16 (by decide) ?_
  refine jG_iload_n F dX5_about_17 rfl ?_
  refine jG_tableIn F 60 dX5_about_18 (by decide) (by decide) rfl (by decide) ?_
  refine jG_aload_n F dX5_about_60 rfl ?_
  refine jG_iload_n F dX5_about_61 rfl ?_
  refine jc_X5_92 F dX5_about_62 (t_isInCup) jtop_b (by decide) (Nat.le_refl 0) (Nat.le_refl 0) (Nat.le_of_ble_eq_true rfl) ?_
  refine jG_if_eq F 72 dX5_about_65 (by decide) (fun q => ?_) (fun q => ?_)
  · rw [if_neg (jB01_eq q)] at T
    refine jG_aload_n F dX5_about_72 rfl ?_
    refine jG_iload_n F dX5_about_73 rfl ?_
    refine jc_X5_95 F dX5_about_74 (t_doesLie) jtop_b (by decide) (Nat.le_refl 0) (Nat.le_refl 0) (Nat.le_of_ble_eq_true rfl) ?_
    refine jG_if_eq F 84 dX5_about_77 (by decide) (fun q2 => ?_) (fun q2 => ?_)
    · rw [if_neg (jB01_eq q2)] at T
      refine jG_iconst F (v := (0 : Int32)) dX5_about_84 (by decide) ?_
      exact jG_iret F T (rfl) rfl (by first | rfl | exact jnarb _ | (split <;> rfl)) dX5_about_85
    · rw [if_pos (jB01_ne q2)] at T
      refine jG_iconst F (v := (1 : Int32)) dX5_about_80 (by decide) ?_
      refine jG_goto F 85 dX5_about_81 (by decide) ?_
      exact jG_iret F T (rfl) rfl (by first | rfl | exact jnarb _ | (split <;> rfl)) dX5_about_85
  · rw [if_pos (jB01_ne q)] at T
    refine jG_iconst F (v := (2 : Int32)) dX5_about_68 (by decide) ?_
    refine jG_goto F 85 dX5_about_69 (by decide) ?_
    exact jG_iret F T (rfl) rfl (by first | rfl | exact jnarb _ | (split <;> rfl)) dX5_about_85
theorem c_X5_about1 (hk : k < 16) : jMd l E yX5_about cX5_about 4 (some .int) 2 [.ref (E.1 + 0), .int (nI k), .int 1] (jtop E C M) (some (.int (C.1.1.1 k))) (jtop E C M) 0 0 := by
  refine jMd_of (by decide) (Nat.le_of_ble_eq_true rfl) (by simp [Value.category]) (by first | rfl | simp [jtop_len]) (fun x hx F T hm => ?_)
  have hd := jin_n (k := k) (n := 15) (by omega) (by decide) (m := 15) rfl
  refine jG_iload_n F dX5_about_0 rfl ?_
  refine jc_X5_71 F dX5_about_1 (c_X5_isDisc) (by decide) (Nat.le_refl 0) (Nat.le_refl 0) (Nat.le_of_ble_eq_true rfl) ?_
  refine jG_if_ne F 9 dX5_about_4 (by decide) (fun _ => ?_) (fun qz => absurd qz (by rw [jB01_pos hd]; decide))
  refine jG_aload_n F dX5_about_9 rfl ?_
  refine jg_X5_10 F dX5_about_10 jtop_o rfl ?_
  refine jg_X5_79 F dX5_about_13 jtop_n rfl ?_
  refine jG_astore_n_3n F dX5_about_16 (by decide) ?_
  refine jG_iload_n F dX5_about_17 rfl ?_
  refine jG_tableIn F 86 dX5_about_18 (by decide) (by decide) rfl (by decide) ?_
  refine jG_aload_n F dX5_about_86 rfl ?_
  refine jg_X5_98 F dX5_about_87 jtop_b rfl ?_
  refine jG_iload_n F dX5_about_90 rfl ?_
  refine jG_iald F dX5_about_91 jtop_x rfl (by omega) (by decide) ?_
  exact jG_iret F T (rfl) rfl (by first | rfl | exact jnarb _ | (split <;> rfl)) dX5_about_92
theorem c_X5_about2 (hk : k < 16) : jMd l E yX5_about cX5_about 4 (some .int) 2 [.ref (E.1 + 0), .int (nI k), .int 2] (jtop E C M) (some (.int (C.1.1.2.1 k))) (jtop E C M) 0 0 := by
  refine jMd_of (by decide) (Nat.le_of_ble_eq_true rfl) (by simp [Value.category]) (by first | rfl | simp [jtop_len]) (fun x hx F T hm => ?_)
  have hd := jin_n (k := k) (n := 15) (by omega) (by decide) (m := 15) rfl
  refine jG_iload_n F dX5_about_0 rfl ?_
  refine jc_X5_71 F dX5_about_1 (c_X5_isDisc) (by decide) (Nat.le_refl 0) (Nat.le_refl 0) (Nat.le_of_ble_eq_true rfl) ?_
  refine jG_if_ne F 9 dX5_about_4 (by decide) (fun _ => ?_) (fun qz => absurd qz (by rw [jB01_pos hd]; decide))
  refine jG_aload_n F dX5_about_9 rfl ?_
  refine jg_X5_10 F dX5_about_10 jtop_o rfl ?_
  refine jg_X5_79 F dX5_about_13 jtop_n rfl ?_
  refine jG_astore_n_3n F dX5_about_16 (by decide) ?_
  refine jG_iload_n F dX5_about_17 rfl ?_
  refine jG_tableIn F 93 dX5_about_18 (by decide) (by decide) rfl (by decide) ?_
  refine jG_aload_n F dX5_about_93 rfl ?_
  refine jg_X5_102 F dX5_about_94 jtop_b rfl ?_
  refine jG_iload_n F dX5_about_97 rfl ?_
  refine jG_iald F dX5_about_98 jtop_y rfl (by omega) (by decide) ?_
  exact jG_iret F T (rfl) rfl (by first | rfl | exact jnarb _ | (split <;> rfl)) dX5_about_99
theorem c_X5_about3 (hk : k < 16) : jMd l E yX5_about cX5_about 4 (some .int) 2 [.ref (E.1 + 0), .int (nI k), .int 3] (jtop E C M) (some (.int (if (C.1.1.2.2.2.2.1 ||| C.1.1.2.2.2.2.2) &&& jbit k = 0 then 1 else 0))) (jtop E C M) 0 0 := by
  refine jMd_of (by decide) (Nat.le_of_ble_eq_true rfl) (by simp [Value.category]) (by first | rfl | simp [jtop_len]) (fun x hx F T hm => ?_)
  have hd := jin_n (k := k) (n := 15) (by omega) (by decide) (m := 15) rfl
  refine jG_iload_n F dX5_about_0 rfl ?_
  refine jc_X5_71 F dX5_about_1 (c_X5_isDisc) (by decide) (Nat.le_refl 0) (Nat.le_refl 0) (Nat.le_of_ble_eq_true rfl) ?_
  refine jG_if_ne F 9 dX5_about_4 (by decide) (fun _ => ?_) (fun qz => absurd qz (by rw [jB01_pos hd]; decide))
  refine jG_aload_n F dX5_about_9 rfl ?_
  refine jg_X5_10 F dX5_about_10 jtop_o rfl ?_
  refine jg_X5_79 F dX5_about_13 jtop_n rfl ?_
  refine jG_astore_n_3n F dX5_about_16 (by decide) ?_
  refine jG_iload_n F dX5_about_17 rfl ?_
  refine jG_tableIn F 100 dX5_about_18 (by decide) (by decide) rfl (by decide) ?_
  refine jG_aload_n F dX5_about_100 rfl ?_
  refine jG_iload_n F dX5_about_101 rfl ?_
  refine jc_X5_105 F dX5_about_102 (t_isFree) jtop_b (by decide) (Nat.le_refl 0) (Nat.le_refl 0) (Nat.le_of_ble_eq_true rfl) ?_
  refine jG_if_eq F 112 dX5_about_105 (by decide) (fun q => ?_) (fun q => ?_)
  · rw [if_neg (jB01_eq q)] at T
    refine jG_iconst F (v := (0 : Int32)) dX5_about_112 (by decide) ?_
    exact jG_iret F T (rfl) rfl (by first | rfl | exact jnarb _ | (split <;> rfl)) dX5_about_113
  · rw [if_pos (jB01_ne q)] at T
    refine jG_iconst F (v := (1 : Int32)) dX5_about_108 (by decide) ?_
    refine jG_goto F 113 dX5_about_109 (by decide) ?_
    exact jG_iret F T (rfl) rfl (by first | rfl | exact jnarb _ | (split <;> rfl)) dX5_about_113
theorem c_X5_about4 (hk : k < 16) : jMd l E yX5_about cX5_about 4 (some .int) 2 [.ref (E.1 + 0), .int (nI k), .int 4] (jtop E C M) (some (.int (jorI 0 (fun o => decide (jts (C.1.1.2.2.1 o) k)) 16))) (jtop E C M) 0 0 := by
  refine jMd_of (by decide) (Nat.le_of_ble_eq_true rfl) (by simp [Value.category]) (by first | rfl | simp [jtop_len]) (fun x hx F T hm => ?_)
  have hd := jin_n (k := k) (n := 15) (by omega) (by decide) (m := 15) rfl
  refine jG_iload_n F dX5_about_0 rfl ?_
  refine jc_X5_71 F dX5_about_1 (c_X5_isDisc) (by decide) (Nat.le_refl 0) (Nat.le_refl 0) (Nat.le_of_ble_eq_true rfl) ?_
  refine jG_if_ne F 9 dX5_about_4 (by decide) (fun _ => ?_) (fun qz => absurd qz (by rw [jB01_pos hd]; decide))
  refine jG_aload_n F dX5_about_9 rfl ?_
  refine jg_X5_10 F dX5_about_10 jtop_o rfl ?_
  refine jg_X5_79 F dX5_about_13 jtop_n rfl ?_
  refine jG_astore_n_3n F dX5_about_16 (by decide) ?_
  refine jG_iload_n F dX5_about_17 rfl ?_
  refine jG_tableIn F 114 dX5_about_18 (by decide) (by decide) rfl (by decide) ?_
  refine jG_aload_n F dX5_about_114 rfl ?_
  refine jG_iload_n F dX5_about_115 rfl ?_
  refine jc_X5_108 F dX5_about_116 (t_coveredBy) jtop_b (by decide) (Nat.le_refl 0) (Nat.le_refl 0) (Nat.le_of_ble_eq_true rfl) ?_
  exact jG_iret F T (rfl) rfl (by first | rfl | exact jnarb _ | (split <;> rfl)) dX5_about_119
theorem c_X5_about5 (hk : k < 16) : jMd l E yX5_about cX5_about 4 (some .int) 2 [.ref (E.1 + 0), .int (nI k), .int 5] (jtop E C M) (some (.int (C.1.1.2.2.1 k))) (jtop E C M) 0 0 := by
  refine jMd_of (by decide) (Nat.le_of_ble_eq_true rfl) (by simp [Value.category]) (by first | rfl | simp [jtop_len]) (fun x hx F T hm => ?_)
  have hd := jin_n (k := k) (n := 15) (by omega) (by decide) (m := 15) rfl
  refine jG_iload_n F dX5_about_0 rfl ?_
  refine jc_X5_71 F dX5_about_1 (c_X5_isDisc) (by decide) (Nat.le_refl 0) (Nat.le_refl 0) (Nat.le_of_ble_eq_true rfl) ?_
  refine jG_if_ne F 9 dX5_about_4 (by decide) (fun _ => ?_) (fun qz => absurd qz (by rw [jB01_pos hd]; decide))
  refine jG_aload_n F dX5_about_9 rfl ?_
  refine jg_X5_10 F dX5_about_10 jtop_o rfl ?_
  refine jg_X5_79 F dX5_about_13 jtop_n rfl ?_
  refine jG_astore_n_3n F dX5_about_16 (by decide) ?_
  refine jG_iload_n F dX5_about_17 rfl ?_
  refine jG_tableIn F 120 dX5_about_18 (by decide) (by decide) rfl (by decide) ?_
  refine jG_aload_n F dX5_about_120 rfl ?_
  refine jg_X5_111 F dX5_about_121 jtop_b rfl ?_
  refine jG_iload_n F dX5_about_124 rfl ?_
  refine jG_iald F dX5_about_125 jtop_c rfl (by omega) (by decide) ?_
  exact jG_iret F T (rfl) rfl (by first | rfl | exact jnarb _ | (split <;> rfl)) dX5_about_126
theorem c_X5_about6 (hk : k < 16) : jMd l E yX5_about cX5_about 4 (some .int) 2 [.ref (E.1 + 0), .int (nI k), .int 6] (jtop E C M) (some (.int (jpile C.1.1.2.2.1 C.1.1.2.2.2.1 k))) (jtop E C M) 0 0 := by
  refine jMd_of (by decide) (Nat.le_of_ble_eq_true rfl) (by simp [Value.category]) (by first | rfl | simp [jtop_len]) (fun x hx F T hm => ?_)
  have hd := jin_n (k := k) (n := 15) (by omega) (by decide) (m := 15) rfl
  refine jG_iload_n F dX5_about_0 rfl ?_
  refine jc_X5_71 F dX5_about_1 (c_X5_isDisc) (by decide) (Nat.le_refl 0) (Nat.le_refl 0) (Nat.le_of_ble_eq_true rfl) ?_
  refine jG_if_ne F 9 dX5_about_4 (by decide) (fun _ => ?_) (fun qz => absurd qz (by rw [jB01_pos hd]; decide))
  refine jG_aload_n F dX5_about_9 rfl ?_
  refine jg_X5_10 F dX5_about_10 jtop_o rfl ?_
  refine jg_X5_79 F dX5_about_13 jtop_n rfl ?_
  refine jG_astore_n_3n F dX5_about_16 (by decide) ?_
  refine jG_iload_n F dX5_about_17 rfl ?_
  refine jG_tableIn F 127 dX5_about_18 (by decide) (by decide) rfl (by decide) ?_
  refine jG_aload_n F dX5_about_127 rfl ?_
  refine jG_iload_n F dX5_about_128 rfl ?_
  refine jc_X5_114 F dX5_about_129 (t_pileOf) jtop_b (by decide) (Nat.le_refl 0) (Nat.le_refl 0) (Nat.le_of_ble_eq_true rfl) ?_
  exact jG_iret F T (rfl) rfl (by first | rfl | exact jnarb _ | (split <;> rfl)) dX5_about_132
theorem c_X5_aboutD (hk : k < 16) (h0 : ¬ w = 0) (h1 : ¬ w = 1) (h2 : ¬ w = 2) (h3 : ¬ w = 3) (h4 : ¬ w = 4) (h5 : ¬ w = 5) (h6 : ¬ w = 6) : jMd l E yX5_about cX5_about 4 (some .int) 2 [.ref (E.1 + 0), .int (nI k), .int w] (jtop E C M) (some (.int (-1))) (jtop E C M) 0 0 := by
  refine jMd_of (by decide) (Nat.le_of_ble_eq_true rfl) (by simp [Value.category]) (by first | rfl | simp [jtop_len]) (fun x hx F T hm => ?_)
  have hd := jin_n (k := k) (n := 15) (by omega) (by decide) (m := 15) rfl
  refine jG_iload_n F dX5_about_0 rfl ?_
  refine jc_X5_71 F dX5_about_1 (c_X5_isDisc) (by decide) (Nat.le_refl 0) (Nat.le_refl 0) (Nat.le_of_ble_eq_true rfl) ?_
  refine jG_if_ne F 9 dX5_about_4 (by decide) (fun _ => ?_) (fun qz => absurd qz (by rw [jB01_pos hd]; decide))
  refine jG_aload_n F dX5_about_9 rfl ?_
  refine jg_X5_10 F dX5_about_10 jtop_o rfl ?_
  refine jg_X5_79 F dX5_about_13 jtop_n rfl ?_
  refine jG_astore_n_3n F dX5_about_16 (by decide) ?_
  refine jG_iload_n F dX5_about_17 rfl ?_
  refine jG_tableOut F 133 dX5_about_18 (by have z0 := lv_neT (a := 0) h0 rfl; have z1 := lv_neT (a := 1) h1 rfl; have z2 := lv_neT (a := 2) h2 rfl; have z3 := lv_neT (a := 3) h3 rfl; have z4 := lv_neT (a := 4) h4 rfl; have z5 := lv_neT (a := 5) h5 rfl; have z6 := lv_neT (a := 6) h6 rfl; omega) (by decide) ?_
  refine jG_iconst F (v := (-1 : Int32)) dX5_about_133 (by decide) ?_
  exact jG_iret F T (rfl) rfl (by first | rfl | exact jnarb _ | (split <;> rfl)) dX5_about_134
theorem c_X5_shootB (h : ¬ (0 ≤ a ∧ a ≤ 15) ∨ ¬ jspot b c) : jMd l E yX5_shoot cX5_shoot 4 (some .int) 4 [.ref (E.1 + 0), .int a, .int b, .int c] (jtop E C M) (some (.int (-1))) (jtop E C M) 0 0 := by
  refine jMd_of (by decide) (Nat.le_of_ble_eq_true rfl) (by simp [Value.category]) (by first | rfl | simp [jtop_len]) (fun x hx F T hm => ?_)
  refine jG_iload_n F dX5_shoot_0 rfl ?_
  refine jc_X5_71 F dX5_shoot_1 (c_X5_isDisc) (by decide) (Nat.le_refl 0) (Nat.le_refl 0) (Nat.le_of_ble_eq_true rfl) ?_
  refine jG_if_eq F 15 dX5_shoot_4 (by decide) (fun q => ?_) (fun q => ?_)
  · refine jG_iconst F (v := (-1 : Int32)) dX5_shoot_15 (by decide) ?_
    exact jG_iret F T (rfl) rfl (by first | rfl | exact jnarb _ | (split <;> rfl)) dX5_shoot_16
  · have q := jB01_ne q
    refine jG_iload_n F dX5_shoot_7 rfl ?_
    refine jG_iload_n F dX5_shoot_8 rfl ?_
    refine jc_X5_117 F dX5_shoot_9 (c_X5_isPlace) (by decide) (Nat.le_refl 0) (Nat.le_refl 0) (Nat.le_of_ble_eq_true rfl) ?_
    refine jG_if_ne F 17 dX5_shoot_12 (by decide) (fun qz => absurd qz (fun z => h.elim (fun y => y q) (fun y => y (jB01_ne z)))) (fun _ => ?_)
    refine jG_iconst F (v := (-1 : Int32)) dX5_shoot_15 (by decide) ?_
    exact jG_iret F T (rfl) rfl (by first | rfl | exact jnarb _ | (split <;> rfl)) dX5_shoot_16
theorem c_X5_shootN (hk : k < 16) (hs : jspot b c) (ht : C.1.2.2.2.2.2.1 < 4) (hm0 : ¬ jmay C.1 k) : jMd l E yX5_shoot cX5_shoot 4 (some .int) 4 [.ref (E.1 + 0), .int (nI k), .int b, .int c] (jtop E C M) (some (.int (-2))) (jtop E C M) 0 0 := by
  refine jMd_of (by decide) (Nat.le_of_ble_eq_true rfl) (by simp [Value.category]) (by first | rfl | simp [jtop_len]) (fun x hx F T hm => ?_)
  have hd := jin_n (k := k) (n := 15) (by omega) (by decide) (m := 15) rfl
  refine jG_iload_n F dX5_shoot_0 rfl ?_
  refine jc_X5_71 F dX5_shoot_1 (c_X5_isDisc) (by decide) (Nat.le_refl 0) (Nat.le_refl 0) (Nat.le_of_ble_eq_true rfl) ?_
  refine jG_if_eq F 15 dX5_shoot_4 (by decide) (fun qz => absurd qz (by rw [jB01_pos hd]; decide)) (fun _ => ?_)
  refine jG_iload_n F dX5_shoot_7 rfl ?_
  refine jG_iload_n F dX5_shoot_8 rfl ?_
  refine jc_X5_117 F dX5_shoot_9 (c_X5_isPlace) (by decide) (Nat.le_refl 0) (Nat.le_refl 0) (Nat.le_of_ble_eq_true rfl) ?_
  refine jG_if_ne F 17 dX5_shoot_12 (by decide) (fun _ => ?_) (fun qz => absurd qz (by rw [jB01_pos hs]; decide))
  refine jG_aload_n F dX5_shoot_17 rfl ?_
  refine jg_X5_10 F dX5_shoot_18 jtop_o rfl ?_
  refine jG_iload_n F dX5_shoot_21 rfl ?_
  refine jc_X5_120 F dX5_shoot_22 (t_mayPlay hk ht) jtop_n (by decide) (Nat.le_refl 0) (Nat.le_refl 0) (Nat.le_of_ble_eq_true rfl) ?_
  refine jG_if_ne F 31 dX5_shoot_25 (by decide) (fun qz => absurd qz (fun z => hm0 (jB01_ne z))) (fun _ => ?_)
  refine jG_bipush F (v := (-2 : Int32)) dX5_shoot_28 (by decide) ?_
  exact jG_iret F T (rfl) rfl (by first | rfl | exact jnarb _ | (split <;> rfl)) dX5_shoot_30
theorem c_X5_shoot {G' : jGT} (hG : jshG C.1 k b c = G') (hk : k < 16) (hs : jspot b c) (ht : C.1.2.2.2.2.2.1 < 4) (hm0 : jmay C.1 k) (hz : ¬ (2 * jspr C.1.1.1 C.1.1.2.1 k b c C.1.2.1 + 1).toInt64 = 0) : jMd l E yX5_shoot cX5_shoot 4 (some .int) 4 [.ref (E.1 + 0), .int (nI k), .int b, .int c] (jtop E C M) (some (.int (jB01 (jcup (jdx C.1.1.1 C.1.1.2.1 k b c C.1.2.1 C.1.2.2.2.2.1) (jdy C.1.1.1 C.1.1.2.1 k b c C.1.2.1 C.1.2.2.2.2.1))))) (jtop E (G', C.2) M) 0 0 := by
  refine jMd_of (by decide) (Nat.le_of_ble_eq_true rfl) (by simp [Value.category]) (by first | rfl | simp [jtop_len]) (fun x hx F T hm => ?_)
  have hd := jin_n (k := k) (n := 15) (by omega) (by decide) (m := 15) rfl
  refine jG_iload_n F dX5_shoot_0 rfl ?_
  refine jc_X5_71 F dX5_shoot_1 (c_X5_isDisc) (by decide) (Nat.le_refl 0) (Nat.le_refl 0) (Nat.le_of_ble_eq_true rfl) ?_
  refine jG_if_eq F 15 dX5_shoot_4 (by decide) (fun qz => absurd qz (by rw [jB01_pos hd]; decide)) (fun _ => ?_)
  refine jG_iload_n F dX5_shoot_7 rfl ?_
  refine jG_iload_n F dX5_shoot_8 rfl ?_
  refine jc_X5_117 F dX5_shoot_9 (c_X5_isPlace) (by decide) (Nat.le_refl 0) (Nat.le_refl 0) (Nat.le_of_ble_eq_true rfl) ?_
  refine jG_if_ne F 17 dX5_shoot_12 (by decide) (fun _ => ?_) (fun qz => absurd qz (by rw [jB01_pos hs]; decide))
  refine jG_aload_n F dX5_shoot_17 rfl ?_
  refine jg_X5_10 F dX5_shoot_18 jtop_o rfl ?_
  refine jG_iload_n F dX5_shoot_21 rfl ?_
  refine jc_X5_120 F dX5_shoot_22 (t_mayPlay hk ht) jtop_n (by decide) (Nat.le_refl 0) (Nat.le_refl 0) (Nat.le_of_ble_eq_true rfl) ?_
  refine jG_if_ne F 31 dX5_shoot_25 (by decide) (fun _ => ?_) (fun qz => absurd qz (by rw [jB01_pos hm0]; decide))
  refine jG_aload_n F dX5_shoot_31 rfl ?_
  refine jg_X5_10 F dX5_shoot_32 jtop_o rfl ?_
  refine jG_iload_n F dX5_shoot_35 rfl ?_
  refine jG_iload_n F dX5_shoot_36 rfl ?_
  refine jG_iload_n F dX5_shoot_37 rfl ?_
  refine jc_X5_123 F dX5_shoot_38 (t_playShot hG hk ht hz) jtop_n (by decide) (Nat.le_refl 0) (Nat.le_refl 0) (Nat.le_of_ble_eq_true rfl) ?_
  refine jG_if_eq F 48 dX5_shoot_41 (by decide) (fun q => ?_) (fun q => ?_)
  · rw [q] at T
    refine jG_iconst F (v := (0 : Int32)) dX5_shoot_48 (by decide) ?_
    exact jG_iret F T (rfl) rfl (by first | rfl | exact jnarb _ | (split <;> rfl)) dX5_shoot_49
  · rw [jB01_pos (jB01_ne q)] at T
    refine jG_iconst F (v := (1 : Int32)) dX5_shoot_44 (by decide) ?_
    refine jG_goto F 49 dX5_shoot_45 (by decide) ?_
    exact jG_iret F T (rfl) rfl (by first | rfl | exact jnarb _ | (split <;> rfl)) dX5_shoot_49
theorem c_X5_blowB (h : ¬ (0 ≤ a ∧ a ≤ 15)) : jMd l E yX5_blow cX5_blow 3 (some .int) 4 [.ref (E.1 + 0), .int a] (jtop E C M) (some (.int (-1))) (jtop E C M) 0 0 := by
  refine jMd_of (by decide) (Nat.le_of_ble_eq_true rfl) (by simp [Value.category]) (by first | rfl | simp [jtop_len]) (fun x hx F T hm => ?_)
  refine jG_iload_n F dX5_blow_0 rfl ?_
  refine jc_X5_71 F dX5_blow_1 (c_X5_isDisc) (by decide) (Nat.le_refl 0) (Nat.le_refl 0) (Nat.le_of_ble_eq_true rfl) ?_
  refine jG_if_ne F 9 dX5_blow_4 (by decide) (fun qz => absurd qz (fun z => h (jB01_ne z))) (fun _ => ?_)
  refine jG_iconst F (v := (-1 : Int32)) dX5_blow_7 (by decide) ?_
  exact jG_iret F T (rfl) rfl (by first | rfl | exact jnarb _ | (split <;> rfl)) dX5_blow_8
theorem c_X5_blowN (hk : k < 16) (ht : C.1.2.2.2.2.2.1 < 4) (hn : ¬ jmay C.1 k ∨ jbc (jpile C.1.1.2.2.1 C.1.1.2.2.2.1 k) < 2) : jMd l E yX5_blow cX5_blow 3 (some .int) 4 [.ref (E.1 + 0), .int (nI k)] (jtop E C M) (some (.int (-2))) (jtop E C M) 0 0 := by
  refine jMd_of (by decide) (Nat.le_of_ble_eq_true rfl) (by simp [Value.category]) (by first | rfl | simp [jtop_len]) (fun x hx F T hm => ?_)
  have hd := jin_n (k := k) (n := 15) (by omega) (by decide) (m := 15) rfl
  refine jG_iload_n F dX5_blow_0 rfl ?_
  refine jc_X5_71 F dX5_blow_1 (c_X5_isDisc) (by decide) (Nat.le_refl 0) (Nat.le_refl 0) (Nat.le_of_ble_eq_true rfl) ?_
  refine jG_if_ne F 9 dX5_blow_4 (by decide) (fun _ => ?_) (fun qz => absurd qz (by rw [jB01_pos hd]; decide))
  refine jG_aload_n F dX5_blow_9 rfl ?_
  refine jg_X5_10 F dX5_blow_10 jtop_o rfl ?_
  refine jg_X5_79 F dX5_blow_13 jtop_n rfl ?_
  refine jG_iload_n F dX5_blow_16 rfl ?_
  refine jc_X5_114 F dX5_blow_17 (t_pileOf) jtop_b (by decide) (Nat.le_refl 0) (Nat.le_refl 0) (Nat.le_of_ble_eq_true rfl) ?_
  refine jG_istore_n_2n F dX5_blow_20 (by decide) ?_
  refine jG_aload_n F dX5_blow_21 rfl ?_
  refine jg_X5_10 F dX5_blow_22 jtop_o rfl ?_
  refine jG_iload_n F dX5_blow_25 rfl ?_
  refine jc_X5_120 F dX5_blow_26 (t_mayPlay hk ht) jtop_n (by decide) (Nat.le_refl 0) (Nat.le_refl 0) (Nat.le_of_ble_eq_true rfl) ?_
  refine jG_if_eq F 40 dX5_blow_29 (by decide) (fun q => ?_) (fun q => ?_)
  · refine jG_bipush F (v := (-2 : Int32)) dX5_blow_40 (by decide) ?_
    exact jG_iret F T (rfl) rfl (by first | rfl | exact jnarb _ | (split <;> rfl)) dX5_blow_42
  · have q := jB01_ne q
    refine jG_iload_n F dX5_blow_32 rfl ?_
    refine jc_X5_126 F dX5_blow_33 (c_J6_bitCount_0f7a4) (by decide) (Nat.le_refl 0) (Nat.le_refl 0) (Nat.le_of_ble_eq_true rfl) ?_
    refine jG_iconst F (v := (2 : Int32)) dX5_blow_36 (by decide) ?_
    refine jG_icmp_ge F 43 dX5_blow_37 (by decide) (fun qz => absurd qz (fun z => hn.elim (fun y => y q) (fun y => absurd y (Int32.not_lt.mpr z)))) (fun _ => ?_)
    refine jG_bipush F (v := (-2 : Int32)) dX5_blow_40 (by decide) ?_
    exact jG_iret F T (rfl) rfl (by first | rfl | exact jnarb _ | (split <;> rfl)) dX5_blow_42
theorem c_X5_blow {G' : jGT} {pl : Int32} (hp : jpile C.1.1.2.2.1 C.1.1.2.2.2.1 k = pl) (hG : jblG C.1 pl = G') (hk : k < 16) (ht : C.1.2.2.2.2.2.1 < 4) (hm0 : jmay C.1 k) (h2 : 2 ≤ jbc pl) : jMd l E yX5_blow cX5_blow 3 (some .int) 4 [.ref (E.1 + 0), .int (nI k)] (jtop E C M) (some (.int pl)) (jtop E (G', C.2) M) 0 0 := by
  refine jMd_of (by decide) (Nat.le_of_ble_eq_true rfl) (by simp [Value.category]) (by first | rfl | simp [jtop_len]) (fun x hx F T hm => ?_)
  have hd := jin_n (k := k) (n := 15) (by omega) (by decide) (m := 15) rfl
  have k1 := t_pileOf (l := jL x) (E := E) (C := C) (M := M) (d := k)
  rw [hp] at k1
  have k2 := t_blowApart (l := jL x) (E := E) (C := C) (M := M) (pl := pl) ht
  rw [hG] at k2
  refine jG_iload_n F dX5_blow_0 rfl ?_
  refine jc_X5_71 F dX5_blow_1 (c_X5_isDisc) (by decide) (Nat.le_refl 0) (Nat.le_refl 0) (Nat.le_of_ble_eq_true rfl) ?_
  refine jG_if_ne F 9 dX5_blow_4 (by decide) (fun _ => ?_) (fun qz => absurd qz (by rw [jB01_pos hd]; decide))
  refine jG_aload_n F dX5_blow_9 rfl ?_
  refine jg_X5_10 F dX5_blow_10 jtop_o rfl ?_
  refine jg_X5_79 F dX5_blow_13 jtop_n rfl ?_
  refine jG_iload_n F dX5_blow_16 rfl ?_
  refine jc_X5_114 F dX5_blow_17 (k1) jtop_b (by decide) (Nat.le_refl 0) (Nat.le_refl 0) (Nat.le_of_ble_eq_true rfl) ?_
  refine jG_istore_n_2n F dX5_blow_20 (by decide) ?_
  refine jG_aload_n F dX5_blow_21 rfl ?_
  refine jg_X5_10 F dX5_blow_22 jtop_o rfl ?_
  refine jG_iload_n F dX5_blow_25 rfl ?_
  refine jc_X5_120 F dX5_blow_26 (t_mayPlay hk ht) jtop_n (by decide) (Nat.le_refl 0) (Nat.le_refl 0) (Nat.le_of_ble_eq_true rfl) ?_
  refine jG_if_eq F 40 dX5_blow_29 (by decide) (fun qz => absurd qz (by rw [jB01_pos hm0]; decide)) (fun _ => ?_)
  refine jG_iload_n F dX5_blow_32 rfl ?_
  refine jc_X5_126 F dX5_blow_33 (c_J6_bitCount_0f7a4) (by decide) (Nat.le_refl 0) (Nat.le_refl 0) (Nat.le_of_ble_eq_true rfl) ?_
  refine jG_iconst F (v := (2 : Int32)) dX5_blow_36 (by decide) ?_
  refine jG_icmp_ge F 43 dX5_blow_37 (by decide) (fun _ => ?_) (fun qz => absurd h2 qz)
  refine jG_aload_n F dX5_blow_43 rfl ?_
  refine jg_X5_10 F dX5_blow_44 jtop_o rfl ?_
  refine jG_iload_n F dX5_blow_47 rfl ?_
  refine jc_X5_131 F dX5_blow_48 (k2) jtop_n (by decide) (Nat.le_refl 0) (Nat.le_refl 0) (Nat.le_of_ble_eq_true rfl) ?_
  refine jG_iload_n F dX5_blow_51 rfl ?_
  exact jG_iret F T (rfl) rfl (by first | rfl | exact jnarb _ | (split <;> rfl)) dX5_blow_52
theorem c_X5_game0 : jMd l E yX5_game cX5_game 3 (some .int) 2 [.ref (E.1 + 0), .int 0] (jtop E C M) (some (.int (if jovr C.1.1.2.2.2.2.1 C.1.2.2.2.2.2.2.2 then -4 else nI C.1.2.2.2.2.2.1))) (jtop E C M) 0 0 := by
  refine jMd_of (by decide) (Nat.le_of_ble_eq_true rfl) (by simp [Value.category]) (by first | rfl | simp [jtop_len]) (fun x hx F T hm => ?_)
  refine jG_aload_n F dX5_game_0 rfl ?_
  refine jg_X5_10 F dX5_game_1 jtop_o rfl ?_
  refine jc_X5_135 F dX5_game_4 (t_isOver) jtop_n (by decide) (Nat.le_refl 0) (Nat.le_refl 0) (Nat.le_of_ble_eq_true rfl) ?_
  refine jG_istore_n_2n F dX5_game_7 (by decide) ?_
  refine jG_iload_n F dX5_game_8 rfl ?_
  refine jG_tableIn F 44 dX5_game_9 (by decide) (by decide) rfl (by decide) ?_
  refine jG_iload_n F dX5_game_44 rfl ?_
  refine jG_if_eq F 53 dX5_game_45 (by decide) (fun q => ?_) (fun q => ?_)
  · rw [if_neg (jB01_eq q)] at T
    refine jG_aload_n F dX5_game_53 rfl ?_
    refine jg_X5_10 F dX5_game_54 jtop_o rfl ?_
    refine jg_X5_139 F dX5_game_57 jtop_n rfl ?_
    exact jG_iret F T (rfl) rfl (by first | rfl | exact jnarb _ | (split <;> rfl)) dX5_game_60
  · rw [if_pos (jB01_ne q)] at T
    refine jG_bipush F (v := (-4 : Int32)) dX5_game_48 (by decide) ?_
    refine jG_goto F 60 dX5_game_50 (by decide) ?_
    exact jG_iret F T (rfl) rfl (by first | rfl | exact jnarb _ | (split <;> rfl)) dX5_game_60
theorem c_X5_game1 : jMd l E yX5_game cX5_game 3 (some .int) 2 [.ref (E.1 + 0), .int 1] (jtop E C M) (some (.int C.1.2.2.2.2.2.2.1)) (jtop E C M) 0 0 := by
  refine jMd_of (by decide) (Nat.le_of_ble_eq_true rfl) (by simp [Value.category]) (by first | rfl | simp [jtop_len]) (fun x hx F T hm => ?_)
  refine jG_aload_n F dX5_game_0 rfl ?_
  refine jg_X5_10 F dX5_game_1 jtop_o rfl ?_
  refine jc_X5_135 F dX5_game_4 (t_isOver) jtop_n (by decide) (Nat.le_refl 0) (Nat.le_refl 0) (Nat.le_of_ble_eq_true rfl) ?_
  refine jG_istore_n_2n F dX5_game_7 (by decide) ?_
  refine jG_iload_n F dX5_game_8 rfl ?_
  refine jG_tableIn F 61 dX5_game_9 (by decide) (by decide) rfl (by decide) ?_
  refine jG_aload_n F dX5_game_61 rfl ?_
  refine jg_X5_10 F dX5_game_62 jtop_o rfl ?_
  refine jg_X5_45 F dX5_game_65 jtop_n rfl ?_
  exact jG_iret F T (rfl) rfl (by first | rfl | exact jnarb _ | (split <;> rfl)) dX5_game_68
theorem c_X5_game2 : jMd l E yX5_game cX5_game 3 (some .int) 2 [.ref (E.1 + 0), .int 2] (jtop E C M) (some (.int (if C.1.2.2.2.1 ≤ C.1.2.2.2.2.2.2.1 then (if C.1.2.2.2.2.2.2.2 = 0 then 5 else 6 - C.1.2.2.2.2.2.2.2) else -4))) (jtop E C M) 0 0 := by
  refine jMd_of (by decide) (Nat.le_of_ble_eq_true rfl) (by simp [Value.category]) (by first | rfl | simp [jtop_len]) (fun x hx F T hm => ?_)
  refine jG_aload_n F dX5_game_0 rfl ?_
  refine jg_X5_10 F dX5_game_1 jtop_o rfl ?_
  refine jc_X5_135 F dX5_game_4 (t_isOver) jtop_n (by decide) (Nat.le_refl 0) (Nat.le_refl 0) (Nat.le_of_ble_eq_true rfl) ?_
  refine jG_istore_n_2n F dX5_game_7 (by decide) ?_
  refine jG_iload_n F dX5_game_8 rfl ?_
  refine jG_tableIn F 69 dX5_game_9 (by decide) (by decide) rfl (by decide) ?_
  refine jG_aload_n F dX5_game_69 rfl ?_
  refine jg_X5_10 F dX5_game_70 jtop_o rfl ?_
  refine jc_X5_142 F dX5_game_73 (t_roundsLeft) jtop_n (by decide) (Nat.le_refl 0) (Nat.le_refl 0) (Nat.le_of_ble_eq_true rfl) ?_
  exact jG_iret F T (rfl) rfl (by first | rfl | exact jnarb _ | (split <;> rfl)) dX5_game_76
theorem c_X5_game3 : jMd l E yX5_game cX5_game 3 (some .int) 2 [.ref (E.1 + 0), .int 3] (jtop E C M) (some (.int (jB01 (jovr C.1.1.2.2.2.2.1 C.1.2.2.2.2.2.2.2)))) (jtop E C M) 0 0 := by
  refine jMd_of (by decide) (Nat.le_of_ble_eq_true rfl) (by simp [Value.category]) (by first | rfl | simp [jtop_len]) (fun x hx F T hm => ?_)
  refine jG_aload_n F dX5_game_0 rfl ?_
  refine jg_X5_10 F dX5_game_1 jtop_o rfl ?_
  refine jc_X5_135 F dX5_game_4 (t_isOver) jtop_n (by decide) (Nat.le_refl 0) (Nat.le_refl 0) (Nat.le_of_ble_eq_true rfl) ?_
  refine jG_istore_n_2n F dX5_game_7 (by decide) ?_
  refine jG_iload_n F dX5_game_8 rfl ?_
  refine jG_tableIn F 77 dX5_game_9 (by decide) (by decide) rfl (by decide) ?_
  refine jG_iload_n F dX5_game_77 rfl ?_
  refine jG_if_eq F 85 dX5_game_78 (by decide) (fun q => ?_) (fun q => ?_)
  · rw [q] at T
    refine jG_iconst F (v := (0 : Int32)) dX5_game_85 (by decide) ?_
    exact jG_iret F T (rfl) rfl (by first | rfl | exact jnarb _ | (split <;> rfl)) dX5_game_86
  · rw [jB01_pos (jB01_ne q)] at T
    refine jG_iconst F (v := (1 : Int32)) dX5_game_81 (by decide) ?_
    refine jG_goto F 86 dX5_game_82 (by decide) ?_
    exact jG_iret F T (rfl) rfl (by first | rfl | exact jnarb _ | (split <;> rfl)) dX5_game_86
theorem c_X5_game4 : jMd l E yX5_game cX5_game 3 (some .int) 2 [.ref (E.1 + 0), .int 4] (jtop E C M) (some (.int (if jovr C.1.1.2.2.2.2.1 C.1.2.2.2.2.2.2.2 then 0 else jfree C.1.1.2.2.2.2.1 C.1.1.2.2.2.2.2 C.1.2.2.2.2.2.1))) (jtop E C M) 0 0 := by
  refine jMd_of (by decide) (Nat.le_of_ble_eq_true rfl) (by simp [Value.category]) (by first | rfl | simp [jtop_len]) (fun x hx F T hm => ?_)
  refine jG_aload_n F dX5_game_0 rfl ?_
  refine jg_X5_10 F dX5_game_1 jtop_o rfl ?_
  refine jc_X5_135 F dX5_game_4 (t_isOver) jtop_n (by decide) (Nat.le_refl 0) (Nat.le_refl 0) (Nat.le_of_ble_eq_true rfl) ?_
  refine jG_istore_n_2n F dX5_game_7 (by decide) ?_
  refine jG_iload_n F dX5_game_8 rfl ?_
  refine jG_tableIn F 87 dX5_game_9 (by decide) (by decide) rfl (by decide) ?_
  refine jG_iload_n F dX5_game_87 rfl ?_
  refine jG_if_eq F 95 dX5_game_88 (by decide) (fun q => ?_) (fun q => ?_)
  · rw [if_neg (jB01_eq q)] at T
    refine jG_aload_n F dX5_game_95 rfl ?_
    refine jg_X5_10 F dX5_game_96 jtop_o rfl ?_
    refine jg_X5_79 F dX5_game_99 jtop_n rfl ?_
    refine jG_aload_n F dX5_game_102 rfl ?_
    refine jg_X5_10 F dX5_game_103 jtop_o rfl ?_
    refine jg_X5_139 F dX5_game_106 jtop_n rfl ?_
    refine jc_X5_146 F dX5_game_109 (t_freeOf) jtop_b (by decide) (Nat.le_refl 0) (Nat.le_refl 0) (Nat.le_of_ble_eq_true rfl) ?_
    exact jG_iret F T (rfl) rfl (by first | rfl | exact jnarb _ | (split <;> rfl)) dX5_game_112
  · rw [if_pos (jB01_ne q)] at T
    refine jG_iconst F (v := (0 : Int32)) dX5_game_91 (by decide) ?_
    refine jG_goto F 112 dX5_game_92 (by decide) ?_
    exact jG_iret F T (rfl) rfl (by first | rfl | exact jnarb _ | (split <;> rfl)) dX5_game_112
theorem c_X5_gameD (h0 : ¬ w = 0) (h1 : ¬ w = 1) (h2 : ¬ w = 2) (h3 : ¬ w = 3) (h4 : ¬ w = 4) : jMd l E yX5_game cX5_game 3 (some .int) 2 [.ref (E.1 + 0), .int w] (jtop E C M) (some (.int (-1))) (jtop E C M) 0 0 := by
  refine jMd_of (by decide) (Nat.le_of_ble_eq_true rfl) (by simp [Value.category]) (by first | rfl | simp [jtop_len]) (fun x hx F T hm => ?_)
  refine jG_aload_n F dX5_game_0 rfl ?_
  refine jg_X5_10 F dX5_game_1 jtop_o rfl ?_
  refine jc_X5_135 F dX5_game_4 (t_isOver) jtop_n (by decide) (Nat.le_refl 0) (Nat.le_refl 0) (Nat.le_of_ble_eq_true rfl) ?_
  refine jG_istore_n_2n F dX5_game_7 (by decide) ?_
  refine jG_iload_n F dX5_game_8 rfl ?_
  refine jG_tableOut F 113 dX5_game_9 (by have z0 := lv_neT (a := 0) h0 rfl; have z1 := lv_neT (a := 1) h1 rfl; have z2 := lv_neT (a := 2) h2 rfl; have z3 := lv_neT (a := 3) h3 rfl; have z4 := lv_neT (a := 4) h4 rfl; omega) (by decide) ?_
  refine jG_iconst F (v := (-1 : Int32)) dX5_game_113 (by decide) ?_
  exact jG_iret F T (rfl) rfl (by first | rfl | exact jnarb _ | (split <;> rfl)) dX5_game_114
theorem c_X5_scoreB (h : ¬ (0 ≤ a ∧ a ≤ 3)) : jMd l E yX5_score cX5_score 2 (some .int) 2 [.ref (E.1 + 0), .int a] (jtop E C M) (some (.int (-1))) (jtop E C M) 0 0 := by
  refine jMd_of (by decide) (Nat.le_of_ble_eq_true rfl) (by simp [Value.category]) (by first | rfl | simp [jtop_len]) (fun x hx F T hm => ?_)
  refine jG_iload_n F dX5_score_0 rfl ?_
  refine jc_X5_149 F dX5_score_1 (c_X5_isPlayer) (by decide) (Nat.le_refl 0) (Nat.le_refl 0) (Nat.le_of_ble_eq_true rfl) ?_
  refine jG_if_eq F 21 dX5_score_4 (by decide) (fun _ => ?_) (fun qz => absurd (jB01_neg h) qz)
  refine jG_iconst F (v := (-1 : Int32)) dX5_score_21 (by decide) ?_
  exact jG_iret F T (rfl) rfl (by first | rfl | exact jnarb _ | (split <;> rfl)) dX5_score_22
theorem c_X5_score (hk : k < 4) : jMd l E yX5_score cX5_score 2 (some .int) 2 [.ref (E.1 + 0), .int (nI k)] (jtop E C M) (some (.int (jscore C.1.1.2.2.2.1 C.1.1.2.2.2.2.1 C.1.1.2.2.2.2.2 k))) (jtop E C M) 0 0 := by
  refine jMd_of (by decide) (Nat.le_of_ble_eq_true rfl) (by simp [Value.category]) (by first | rfl | simp [jtop_len]) (fun x hx F T hm => ?_)
  have hd := jin_n (k := k) (n := 3) (by omega) (by decide) (m := 3) rfl
  refine jG_iload_n F dX5_score_0 rfl ?_
  refine jc_X5_149 F dX5_score_1 (c_X5_isPlayer) (by decide) (Nat.le_refl 0) (Nat.le_refl 0) (Nat.le_of_ble_eq_true rfl) ?_
  refine jG_if_eq F 21 dX5_score_4 (by decide) (fun qz => absurd qz (by rw [jB01_pos hd]; decide)) (fun _ => ?_)
  refine jG_aload_n F dX5_score_7 rfl ?_
  refine jg_X5_10 F dX5_score_8 jtop_o rfl ?_
  refine jg_X5_79 F dX5_score_11 jtop_n rfl ?_
  refine jG_iload_n F dX5_score_14 rfl ?_
  refine jc_X5_152 F dX5_score_15 (t_scoreOf) jtop_b (by decide) (Nat.le_refl 0) (Nat.le_refl 0) (Nat.le_of_ble_eq_true rfl) ?_
  refine jG_goto F 22 dX5_score_18 (by decide) ?_
  exact jG_iret F T (rfl) rfl (by first | rfl | exact jnarb _ | (split <;> rfl)) dX5_score_22
end XJ
