/-! ===== JumpDiscsModel: covering, piles, turns ===== -/
theorem jor0 (v : Int32) : v ||| 0 = v := by
  apply Int32.toBitVec_inj.mp
  simp
section MQ0
variable {l : Launch} {E : jE} {h : List va_E} {m km rm d : Nat} {bd ba bw : Int32} {o : Bool} {A P : Nat → Int32}
theorem c_X6_covers {b : Nat} (hm : h[m]? = some (jmo E m km (jio o) bd ba bw rm)) (hl : m + 8 < h.length) (hd : d < 16) (hb : b < 16) : jMd l E yX6_covers cX6_covers 6 (some .boolean) 3 [.ref (E.1 + m), .int (nI d), .int (nI b)] (jpO E h m o A P) (some (.int (jB01 (mcov A d b)))) (jpO E h m o A P) 0 0 := by
  refine jMd_of (by decide) (Nat.le_of_ble_eq_true rfl) (by simp [Value.category]) (by first | rfl | simp [jpO_len]) (fun x hx F T hmm => ?_)
  refine jG_aload_n F dX6_covers_0 rfl ?_
  refine jG_iload_n F dX6_covers_1 rfl ?_
  refine jc_X6_45 F dX6_covers_2 (c_X6_how hm hl rfl (by omega)) (jpO_o hm) (by decide) (Nat.le_refl 0) (Nat.le_refl 0) (Nat.le_of_ble_eq_true rfl) ?_
  refine jG_iconst F (v := (1 : Int32)) dX6_covers_5 (by decide) ?_
  refine jG_icmp_ne F 64 dX6_covers_6 (by decide) (fun q1 => ?_) (fun q1 => ?_)
  · refine jG_iconst F (v := (0 : Int32)) dX6_covers_64 (by decide) ?_
    exact jG_iret F T ((jB01_neg (fun z => q1 z.1)).symm) rfl (by first | rfl | exact jnarb _ | (split <;> rfl)) dX6_covers_65
  · refine jG_aload_n F dX6_covers_9 rfl ?_
    refine jG_iload_n F dX6_covers_10 rfl ?_
    refine jc_X6_45 F dX6_covers_11 (c_X6_how hm hl rfl (by omega)) (jpO_o hm) (by decide) (Nat.le_refl 0) (Nat.le_refl 0) (Nat.le_of_ble_eq_true rfl) ?_
    refine jG_iconst F (v := (1 : Int32)) dX6_covers_14 (by decide) ?_
    refine jG_icmp_ne F 64 dX6_covers_15 (by decide) (fun q2 => ?_) (fun q2 => ?_)
    · refine jG_iconst F (v := (0 : Int32)) dX6_covers_64 (by decide) ?_
      exact jG_iret F T ((jB01_neg (fun z => q2 z.2.1)).symm) rfl (by first | rfl | exact jnarb _ | (split <;> rfl)) dX6_covers_65
    · refine jG_iload_n F dX6_covers_18 rfl ?_
      refine jG_iload_n F dX6_covers_19 rfl ?_
      refine jG_icmp_eq F 64 dX6_covers_20 (by decide) (fun q3 => ?_) (fun q3 => ?_)
      · have q3 : d = b := (nI_eq (by omega) (by omega)).mp q3
        refine jG_iconst F (v := (0 : Int32)) dX6_covers_64 (by decide) ?_
        exact jG_iret F T ((jB01_neg (fun z => z.2.2.1 q3)).symm) rfl (by first | rfl | exact jnarb _ | (split <;> rfl)) dX6_covers_65
      · have q3 : ¬ d = b := fun z => q3 (by rw [z])
        refine jG_aload_n F dX6_covers_23 rfl ?_
        refine jG_bipush F (v := nI 48) dX6_covers_24 (by decide) ?_
        refine jG_iload_n F dX6_covers_26 rfl ?_
        refine jG_iadd F dX6_covers_27 ?_
        refine jc_X6_41 F dX6_covers_28 (c_X6_at hm hl (nI_add 48 d) (by omega)) (jpO_o hm) (by decide) (Nat.le_refl 0) (Nat.le_refl 0) (Nat.le_of_ble_eq_true rfl) ?_
        refine jG_aload_n F dX6_covers_31 rfl ?_
        refine jG_bipush F (v := nI 48) dX6_covers_32 (by decide) ?_
        refine jG_iload_n F dX6_covers_34 rfl ?_
        refine jG_iadd F dX6_covers_35 ?_
        refine jc_X6_41 F dX6_covers_36 (c_X6_at hm hl (nI_add 48 b) (by omega)) (jpO_o hm) (by decide) (Nat.le_refl 0) (Nat.le_refl 0) (Nat.le_of_ble_eq_true rfl) ?_
        refine jG_icmp_lt F 64 dX6_covers_39 (by decide) (fun q4 => ?_) (fun q4 => ?_)
        · refine jG_iconst F (v := (0 : Int32)) dX6_covers_64 (by decide) ?_
          exact jG_iret F T ((jB01_neg (fun z => z.2.2.2.1 q4)).symm) rfl (by first | rfl | exact jnarb _ | (split <;> rfl)) dX6_covers_65
        · refine jG_aload_n F dX6_covers_42 rfl ?_
          refine jG_iload_n F dX6_covers_43 rfl ?_
          refine jc_X6_58 F dX6_covers_44 (c_X6_xOf hm hl (by omega)) (jpO_o hm) (by decide) (Nat.le_refl 0) (Nat.le_refl 0) (Nat.le_of_ble_eq_true rfl) ?_
          refine jc_X6_61 F dX6_covers_47 (c_X6_isOff) (by decide) (Nat.le_refl 0) (Nat.le_refl 0) (Nat.le_of_ble_eq_true rfl) ?_
          refine jG_if_ne F 64 dX6_covers_50 (by decide) (fun q5 => ?_) (fun q5 => ?_)
          · have q5 := jB01_ne q5
            refine jG_iconst F (v := (0 : Int32)) dX6_covers_64 (by decide) ?_
            exact jG_iret F T ((jB01_neg (fun z => absurd q5 (Int32.not_lt.mpr z.2.2.2.2.1))).symm) rfl (by first | rfl | exact jnarb _ | (split <;> rfl)) dX6_covers_65
          · have q5 := Int32.not_lt.mp (jB01_eq q5)
            refine jG_aload_n F dX6_covers_53 rfl ?_
            refine jG_iload_n F dX6_covers_54 rfl ?_
            refine jc_X6_58 F dX6_covers_55 (c_X6_xOf hm hl (by omega)) (jpO_o hm) (by decide) (Nat.le_refl 0) (Nat.le_refl 0) (Nat.le_of_ble_eq_true rfl) ?_
            refine jc_X6_61 F dX6_covers_58 (c_X6_isOff) (by decide) (Nat.le_refl 0) (Nat.le_refl 0) (Nat.le_of_ble_eq_true rfl) ?_
            refine jG_if_eq F 66 dX6_covers_61 (by decide) (fun q6 => ?_) (fun q6 => ?_)
            · have q6 := Int32.not_lt.mp (jB01_eq q6)
              refine jG_aload_n F dX6_covers_66 rfl ?_
              refine jG_iload_n F dX6_covers_67 rfl ?_
              refine jc_X6_58 F dX6_covers_68 (c_X6_xOf hm hl (by omega)) (jpO_o hm) (by decide) (Nat.le_refl 0) (Nat.le_refl 0) (Nat.le_of_ble_eq_true rfl) ?_
              refine jG_aload_n F dX6_covers_71 rfl ?_
              refine jG_iload_n F dX6_covers_72 rfl ?_
              refine jc_X6_58 F dX6_covers_73 (c_X6_xOf hm hl (by omega)) (jpO_o hm) (by decide) (Nat.le_refl 0) (Nat.le_refl 0) (Nat.le_of_ble_eq_true rfl) ?_
              refine jG_isub F dX6_covers_76 ?_
              refine jG_istore_n_3n F dX6_covers_77 (by decide) ?_
              refine jG_aload_n F dX6_covers_78 rfl ?_
              refine jG_iload_n F dX6_covers_79 rfl ?_
              refine jc_X6_65 F dX6_covers_80 (c_X6_yOf hm hl (by omega)) (jpO_o hm) (by decide) (Nat.le_refl 0) (Nat.le_refl 0) (Nat.le_of_ble_eq_true rfl) ?_
              refine jG_aload_n F dX6_covers_83 rfl ?_
              refine jG_iload_n F dX6_covers_84 rfl ?_
              refine jc_X6_65 F dX6_covers_85 (c_X6_yOf hm hl (by omega)) (jpO_o hm) (by decide) (Nat.le_refl 0) (Nat.le_refl 0) (Nat.le_of_ble_eq_true rfl) ?_
              refine jG_isub F dX6_covers_88 ?_
              refine jG_istore_4n F dX6_covers_89 (by decide) ?_
              refine jG_iload_n F dX6_covers_91 rfl ?_
              refine jc_X6_68 F dX6_covers_92 (c_X6_sizeOf) (by decide) (Nat.le_refl 0) (Nat.le_refl 0) (Nat.le_of_ble_eq_true rfl) ?_
              refine jG_iload_n F dX6_covers_95 rfl ?_
              refine jc_X6_68 F dX6_covers_96 (c_X6_sizeOf) (by decide) (Nat.le_refl 0) (Nat.le_refl 0) (Nat.le_of_ble_eq_true rfl) ?_
              refine jG_iadd F dX6_covers_99 ?_
              refine jG_istore_5n F dX6_covers_100 (by decide) ?_
              refine jG_iload_n F dX6_covers_102 rfl ?_
              refine jG_iload_n F dX6_covers_103 rfl ?_
              refine jG_imul F dX6_covers_104 ?_
              refine jG_iload F dX6_covers_105 rfl ?_
              refine jG_iload F dX6_covers_107 rfl ?_
              refine jG_imul F dX6_covers_109 ?_
              refine jG_iadd F dX6_covers_110 ?_
              refine jG_iload F dX6_covers_111 rfl ?_
              refine jG_iload F dX6_covers_113 rfl ?_
              refine jG_imul F dX6_covers_115 ?_
              refine jG_icmp_ge F 123 dX6_covers_116 (by decide) (fun q7 => ?_) (fun q7 => ?_)
              · refine jG_iconst F (v := (0 : Int32)) dX6_covers_123 (by decide) ?_
                exact jG_iret F T ((jB01_neg (fun z => absurd z.2.2.2.2.2.2 (Int32.not_lt.mpr q7))).symm) rfl (by first | rfl | exact jnarb _ | (split <;> rfl)) dX6_covers_124
              · refine jG_iconst F (v := (1 : Int32)) dX6_covers_119 (by decide) ?_
                refine jG_goto F 124 dX6_covers_120 (by decide) ?_
                exact jG_iret F T ((jB01_pos ⟨q1, q2, q3, q4, q5, q6, Int32.not_le.mp q7⟩).symm) rfl (by first | rfl | exact jnarb _ | (split <;> rfl)) dX6_covers_124
            · have q6 := jB01_ne q6
              refine jG_iconst F (v := (0 : Int32)) dX6_covers_64 (by decide) ?_
              exact jG_iret F T ((jB01_neg (fun z => absurd q6 (Int32.not_lt.mpr z.2.2.2.2.2.1))).symm) rfl (by first | rfl | exact jnarb _ | (split <;> rfl)) dX6_covers_65
theorem c_X6_coverers (hm : h[m]? = some (jmo E m km (jio o) bd ba bw rm)) (hl : m + 8 < h.length) (hd : d < 16) : jMd l E yX6_coverers cX6_coverers 4 (some .int) 4 [.ref (E.1 + m), .int (nI d)] (jpO E h m o A P) (some (.int (mcvr A d))) (jpO E h m o A P) 0 0 := by
  refine jMd_of (by decide) (Nat.le_of_ble_eq_true rfl) (by simp [Value.category]) (by first | rfl | simp [jpO_len]) (fun x hx F T hmm => ?_)
  refine jG_iconst F (v := (0 : Int32)) dX6_coverers_0 (by decide) ?_
  refine jG_istore_n_2n F dX6_coverers_1 (by decide) ?_
  refine jG_iconst F (v := nI 0) dX6_coverers_2 (by decide) ?_
  refine jG_istore_n_3n F dX6_coverers_3 (by decide) ?_
  have loop : ∀ k, k ≤ 16 → jG E x 0 0 4 [.ref (E.1 + m), .int (nI d), .int (jorI 0 (fun k => decide (mcov A k d)) k), .int (nI k)] [] (jpO E h m o A P) := by
    refine jup 16 _ ?_ ?_
    · refine jG_iload_n F dX6_coverers_4 rfl ?_
      refine jG_bipush F (v := nI 16) dX6_coverers_5 (by decide) ?_
      refine jG_icmp_ge F 35 dX6_coverers_7 (by decide) (fun _ => ?_) (fun q => absurd (nI_le (Nat.le_refl 16) (by decide)) q)
      refine jG_iload_n F dX6_coverers_35 rfl ?_
      exact jG_iret F T (rfl) rfl (by first | rfl | exact jnarb _ | (split <;> rfl)) dX6_coverers_36
    · intro k hk ih
      refine jG_iload_n F dX6_coverers_4 rfl ?_
      refine jG_bipush F (v := nI 16) dX6_coverers_5 (by decide) ?_
      refine jG_icmp_ge F 35 dX6_coverers_7 (by decide) (fun q => absurd q (nI_ge hk (by decide))) (fun _ => ?_)
      refine jG_iload_n F dX6_coverers_10 rfl ?_
      refine jG_aload_n F dX6_coverers_11 rfl ?_
      refine jG_iload_n F dX6_coverers_12 rfl ?_
      refine jG_iload_n F dX6_coverers_13 rfl ?_
      refine jc_X6_71 F dX6_coverers_14 (c_X6_covers hm hl hk hd) (jpO_o hm) (by decide) (Nat.le_refl 0) (Nat.le_refl 0) (Nat.le_of_ble_eq_true rfl) ?_
      refine jG_if_eq F 26 dX6_coverers_17 (by decide) (fun q => ?_) (fun q => ?_)
      · have q := jB01_eq q
        refine jG_iconst F (v := (0 : Int32)) dX6_coverers_26 (by decide) ?_
        refine jG_ior F dX6_coverers_27 ?_
        refine jG_istore_n_2e F dX6_coverers_28 (by decide) ?_
        refine jG_iinc_3 F (w := nI (k + 1)) dX6_coverers_29 (jinc k) (by decide) ?_
        refine jG_goto F 4 dX6_coverers_32 (by decide) ?_
        refine jG_eq ?_ rfl rfl ih
        rw [jorI_f (fun z => q (of_decide_eq_true z)), jor0]
      · have q := jB01_ne q
        refine jG_iconst F (v := (1 : Int32)) dX6_coverers_20 (by decide) ?_
        refine jG_iload_n F dX6_coverers_21 rfl ?_
        refine jG_ishl F dX6_coverers_22 ?_
        refine jG_goto F 27 dX6_coverers_23 (by decide) ?_
        refine jG_ior F dX6_coverers_27 ?_
        refine jG_istore_n_2e F dX6_coverers_28 (by decide) ?_
        refine jG_iinc_3 F (w := nI (k + 1)) dX6_coverers_29 (jinc k) (by decide) ?_
        refine jG_goto F 4 dX6_coverers_32 (by decide) ?_
        refine jG_eq ?_ rfl rfl ih
        rw [jorI_t (decide_eq_true q)]; rfl
  exact loop 0 (by decide)
theorem c_X6_covered (hm : h[m]? = some (jmo E m km (jio o) bd ba bw rm)) (hl : m + 8 < h.length) (hd : d < 16) : jMd l E yX6_covered cX6_covered 4 (some .int) 4 [.ref (E.1 + m), .int (nI d)] (jpO E h m o A P) (some (.int (mcvd A d))) (jpO E h m o A P) 0 0 := by
  refine jMd_of (by decide) (Nat.le_of_ble_eq_true rfl) (by simp [Value.category]) (by first | rfl | simp [jpO_len]) (fun x hx F T hmm => ?_)
  refine jG_iconst F (v := (0 : Int32)) dX6_covered_0 (by decide) ?_
  refine jG_istore_n_2n F dX6_covered_1 (by decide) ?_
  refine jG_iconst F (v := nI 0) dX6_covered_2 (by decide) ?_
  refine jG_istore_n_3n F dX6_covered_3 (by decide) ?_
  have loop : ∀ k, k ≤ 16 → jG E x 0 0 4 [.ref (E.1 + m), .int (nI d), .int (jorI 0 (fun k => decide (mcov A d k)) k), .int (nI k)] [] (jpO E h m o A P) := by
    refine jup 16 _ ?_ ?_
    · refine jG_iload_n F dX6_covered_4 rfl ?_
      refine jG_bipush F (v := nI 16) dX6_covered_5 (by decide) ?_
      refine jG_icmp_ge F 35 dX6_covered_7 (by decide) (fun _ => ?_) (fun q => absurd (nI_le (Nat.le_refl 16) (by decide)) q)
      refine jG_iload_n F dX6_covered_35 rfl ?_
      exact jG_iret F T (rfl) rfl (by first | rfl | exact jnarb _ | (split <;> rfl)) dX6_covered_36
    · intro k hk ih
      refine jG_iload_n F dX6_covered_4 rfl ?_
      refine jG_bipush F (v := nI 16) dX6_covered_5 (by decide) ?_
      refine jG_icmp_ge F 35 dX6_covered_7 (by decide) (fun q => absurd q (nI_ge hk (by decide))) (fun _ => ?_)
      refine jG_iload_n F dX6_covered_10 rfl ?_
      refine jG_aload_n F dX6_covered_11 rfl ?_
      refine jG_iload_n F dX6_covered_12 rfl ?_
      refine jG_iload_n F dX6_covered_13 rfl ?_
      refine jc_X6_71 F dX6_covered_14 (c_X6_covers hm hl hd hk) (jpO_o hm) (by decide) (Nat.le_refl 0) (Nat.le_refl 0) (Nat.le_of_ble_eq_true rfl) ?_
      refine jG_if_eq F 26 dX6_covered_17 (by decide) (fun q => ?_) (fun q => ?_)
      · have q := jB01_eq q
        refine jG_iconst F (v := (0 : Int32)) dX6_covered_26 (by decide) ?_
        refine jG_ior F dX6_covered_27 ?_
        refine jG_istore_n_2e F dX6_covered_28 (by decide) ?_
        refine jG_iinc_3 F (w := nI (k + 1)) dX6_covered_29 (jinc k) (by decide) ?_
        refine jG_goto F 4 dX6_covered_32 (by decide) ?_
        refine jG_eq ?_ rfl rfl ih
        rw [jorI_f (fun z => q (of_decide_eq_true z)), jor0]
      · have q := jB01_ne q
        refine jG_iconst F (v := (1 : Int32)) dX6_covered_20 (by decide) ?_
        refine jG_iload_n F dX6_covered_21 rfl ?_
        refine jG_ishl F dX6_covered_22 ?_
        refine jG_goto F 27 dX6_covered_23 (by decide) ?_
        refine jG_ior F dX6_covered_27 ?_
        refine jG_istore_n_2e F dX6_covered_28 (by decide) ?_
        refine jG_iinc_3 F (w := nI (k + 1)) dX6_covered_29 (jinc k) (by decide) ?_
        refine jG_goto F 4 dX6_covered_32 (by decide) ?_
        refine jG_eq ?_ rfl rfl ih
        rw [jorI_t (decide_eq_true q)]; rfl
  exact loop 0 (by decide)
theorem c_X6_isFree (hm : h[m]? = some (jmo E m km (jio o) bd ba bw rm)) (hl : m + 8 < h.length) (hd : d < 16) : jMd l E yX6_isFree cX6_isFree 2 (some .boolean) 5 [.ref (E.1 + m), .int (nI d)] (jpO E h m o A P) (some (.int (jB01 (mfree A d)))) (jpO E h m o A P) 0 0 := by
  refine jMd_of (by decide) (Nat.le_of_ble_eq_true rfl) (by simp [Value.category]) (by first | rfl | simp [jpO_len]) (fun x hx F T hmm => ?_)
  refine jG_aload_n F dX6_isFree_0 rfl ?_
  refine jG_iload_n F dX6_isFree_1 rfl ?_
  refine jc_X6_45 F dX6_isFree_2 (c_X6_how hm hl rfl (by omega)) (jpO_o hm) (by decide) (Nat.le_refl 0) (Nat.le_refl 0) (Nat.le_of_ble_eq_true rfl) ?_
  refine jG_if_eq F 25 dX6_isFree_5 (by decide) (fun q => ?_) (fun q => ?_)
  · refine jG_iconst F (v := (1 : Int32)) dX6_isFree_25 (by decide) ?_
    refine jG_goto F 30 dX6_isFree_26 (by decide) ?_
    exact jG_iret F T ((jB01_pos (Or.inl q)).symm) rfl (by first | rfl | exact jnarb _ | (split <;> rfl)) dX6_isFree_30
  · refine jG_aload_n F dX6_isFree_8 rfl ?_
    refine jG_iload_n F dX6_isFree_9 rfl ?_
    refine jc_X6_45 F dX6_isFree_10 (c_X6_how hm hl rfl (by omega)) (jpO_o hm) (by decide) (Nat.le_refl 0) (Nat.le_refl 0) (Nat.le_of_ble_eq_true rfl) ?_
    refine jG_iconst F (v := (1 : Int32)) dX6_isFree_13 (by decide) ?_
    refine jG_icmp_ne F 29 dX6_isFree_14 (by decide) (fun q2 => ?_) (fun q2 => ?_)
    · refine jG_iconst F (v := (0 : Int32)) dX6_isFree_29 (by decide) ?_
      exact jG_iret F T ((jB01_neg (fun z => z.elim q (fun y => q2 y.1))).symm) rfl (by first | rfl | exact jnarb _ | (split <;> rfl)) dX6_isFree_30
    · refine jG_aload_n F dX6_isFree_17 rfl ?_
      refine jG_iload_n F dX6_isFree_18 rfl ?_
      refine jc_X6_75 F dX6_isFree_19 (c_X6_coverers hm hl (by omega)) (jpO_o hm) (by decide) (Nat.le_refl 0) (Nat.le_refl 0) (Nat.le_of_ble_eq_true rfl) ?_
      refine jG_if_ne F 29 dX6_isFree_22 (by decide) (fun q3 => ?_) (fun q3 => ?_)
      · refine jG_iconst F (v := (0 : Int32)) dX6_isFree_29 (by decide) ?_
        exact jG_iret F T ((jB01_neg (fun z => z.elim q (fun y => q3 y.2))).symm) rfl (by first | rfl | exact jnarb _ | (split <;> rfl)) dX6_isFree_30
      · refine jG_iconst F (v := (1 : Int32)) dX6_isFree_25 (by decide) ?_
        refine jG_goto F 30 dX6_isFree_26 (by decide) ?_
        exact jG_iret F T ((jB01_pos (Or.inr ⟨q2, q3⟩)).symm) rfl (by first | rfl | exact jnarb _ | (split <;> rfl)) dX6_isFree_30
theorem c_X6_freeOf {p : Nat} (hm : h[m]? = some (jmo E m km (jio o) bd ba bw rm)) (hl : m + 8 < h.length) (hp : p < 4) : jMd l E yX6_freeOf cX6_freeOf 4 (some .int) 6 [.ref (E.1 + m), .int (nI p)] (jpO E h m o A P) (some (.int (mfo A p 4))) (jpO E h m o A P) 0 0 := by
  refine jMd_of (by decide) (Nat.le_of_ble_eq_true rfl) (by simp [Value.category]) (by first | rfl | simp [jpO_len]) (fun x hx F T hmm => ?_)
  refine jG_iconst F (v := (0 : Int32)) dX6_freeOf_0 (by decide) ?_
  refine jG_istore_n_2n F dX6_freeOf_1 (by decide) ?_
  refine jG_iload_n F dX6_freeOf_2 rfl ?_
  refine jG_istore_n_3n F dX6_freeOf_3 (by decide) ?_
  have loop : ∀ k, k ≤ 4 → jG E x 0 0 4 [.ref (E.1 + m), .int (nI p), .int (mfo A p k), .int (nI (p + 4 * k))] [] (jpO E h m o A P) := by
    refine jup 4 _ ?_ ?_
    · refine jG_iload_n F dX6_freeOf_4 rfl ?_
      refine jG_bipush F (v := nI 16) dX6_freeOf_5 (by decide) ?_
      refine jG_icmp_ge F 34 dX6_freeOf_7 (by decide) (fun _ => ?_) (fun qz => absurd (nI_le (show 16 ≤ p + 4 * 4 by omega) (by omega)) qz)
      refine jG_iload_n F dX6_freeOf_34 rfl ?_
      exact jG_iret F T (rfl) rfl (by first | rfl | exact jnarb _ | (split <;> rfl)) dX6_freeOf_35
    · intro k hk ih
      refine jG_iload_n F dX6_freeOf_4 rfl ?_
      refine jG_bipush F (v := nI 16) dX6_freeOf_5 (by decide) ?_
      refine jG_icmp_ge F 34 dX6_freeOf_7 (by decide) (fun qz => absurd qz (nI_ge (show p + 4 * k < 16 by omega) (by decide))) (fun _ => ?_)
      refine jG_iload_n F dX6_freeOf_10 rfl ?_
      refine jG_aload_n F dX6_freeOf_11 rfl ?_
      refine jG_iload_n F dX6_freeOf_12 rfl ?_
      refine jc_X6_81 F dX6_freeOf_13 (c_X6_isFree hm hl (by omega)) (jpO_o hm) (by decide) (Nat.le_refl 0) (Nat.le_refl 0) (Nat.le_of_ble_eq_true rfl) ?_
      refine jG_if_eq F 25 dX6_freeOf_16 (by decide) (fun q => ?_) (fun q => ?_)
      · have q := jB01_eq q
        refine jG_iconst F (v := (0 : Int32)) dX6_freeOf_25 (by decide) ?_
        refine jG_ior F dX6_freeOf_26 ?_
        refine jG_istore_n_2e F dX6_freeOf_27 (by decide) ?_
        refine jG_iinc_3 F (w := nI (p + 4 * (k + 1))) dX6_freeOf_28 ((nI_add (p + 4 * k) 4).trans (by rw [Nat.mul_add, Nat.add_assoc])) (by decide) ?_
        refine jG_goto F 4 dX6_freeOf_31 (by decide) ?_
        refine jG_eq ?_ rfl rfl ih
        rw [show mfo A p (k + 1) = mfo A p k from if_neg q, jor0]
      · have q := jB01_ne q
        refine jG_iconst F (v := (1 : Int32)) dX6_freeOf_19 (by decide) ?_
        refine jG_iload_n F dX6_freeOf_20 rfl ?_
        refine jG_ishl F dX6_freeOf_21 ?_
        refine jG_goto F 26 dX6_freeOf_22 (by decide) ?_
        refine jG_ior F dX6_freeOf_26 ?_
        refine jG_istore_n_2e F dX6_freeOf_27 (by decide) ?_
        refine jG_iinc_3 F (w := nI (p + 4 * (k + 1))) dX6_freeOf_28 ((nI_add (p + 4 * k) 4).trans (by rw [Nat.mul_add, Nat.add_assoc])) (by decide) ?_
        refine jG_goto F 4 dX6_freeOf_31 (by decide) ?_
        refine jG_eq ?_ rfl rfl ih
        rw [show mfo A p (k + 1) = mfo A p k ||| jbit (p + 4 * k) from if_pos q]; rfl
  exact loop 0 (by decide)
theorem c_X6_allIn {p : Nat} (hm : h[m]? = some (jmo E m km (jio o) bd ba bw rm)) (hl : m + 8 < h.length) (hp : p < 4) : jMd l E yX6_allIn cX6_allIn 2 (some .boolean) 2 [.ref (E.1 + m), .int (nI p)] (jpO E h m o A P) (some (.int (jB01 (mall A p)))) (jpO E h m o A P) 0 0 := by
  refine jMd_of (by decide) (Nat.le_of_ble_eq_true rfl) (by simp [Value.category]) (by first | rfl | simp [jpO_len]) (fun x hx F T hmm => ?_)
  refine jG_aload_n F dX6_allIn_0 rfl ?_
  refine jG_iload_n F dX6_allIn_1 rfl ?_
  refine jc_X6_45 F dX6_allIn_2 (c_X6_how hm hl rfl (by omega)) (jpO_o hm) (by decide) (Nat.le_refl 0) (Nat.le_refl 0) (Nat.le_of_ble_eq_true rfl) ?_
  refine jG_iconst F (v := (2 : Int32)) dX6_allIn_5 (by decide) ?_
  refine jG_icmp_ne F 48 dX6_allIn_6 (by decide) (fun q1 => ?_) (fun q1 => ?_)
  · refine jG_iconst F (v := (0 : Int32)) dX6_allIn_48 (by decide) ?_
    exact jG_iret F T ((jB01_neg (fun z => q1 z.1)).symm) rfl (by first | rfl | exact jnarb _ | (split <;> rfl)) dX6_allIn_49
  · refine jG_aload_n F dX6_allIn_9 rfl ?_
    refine jG_iload_n F dX6_allIn_10 rfl ?_
    refine jG_iconst F (v := nI 4) dX6_allIn_11 (by decide) ?_
    refine jG_iadd F dX6_allIn_12 ?_
    refine jc_X6_45 F dX6_allIn_13 (c_X6_how hm hl (nI_add p 4) (by omega)) (jpO_o hm) (by decide) (Nat.le_refl 0) (Nat.le_refl 0) (Nat.le_of_ble_eq_true rfl) ?_
    refine jG_iconst F (v := (2 : Int32)) dX6_allIn_16 (by decide) ?_
    refine jG_icmp_ne F 48 dX6_allIn_17 (by decide) (fun q2 => ?_) (fun q2 => ?_)
    · refine jG_iconst F (v := (0 : Int32)) dX6_allIn_48 (by decide) ?_
      exact jG_iret F T ((jB01_neg (fun z => q2 z.2.1)).symm) rfl (by first | rfl | exact jnarb _ | (split <;> rfl)) dX6_allIn_49
    · refine jG_aload_n F dX6_allIn_20 rfl ?_
      refine jG_iload_n F dX6_allIn_21 rfl ?_
      refine jG_bipush F (v := nI 8) dX6_allIn_22 (by decide) ?_
      refine jG_iadd F dX6_allIn_24 ?_
      refine jc_X6_45 F dX6_allIn_25 (c_X6_how hm hl (nI_add p 8) (by omega)) (jpO_o hm) (by decide) (Nat.le_refl 0) (Nat.le_refl 0) (Nat.le_of_ble_eq_true rfl) ?_
      refine jG_iconst F (v := (2 : Int32)) dX6_allIn_28 (by decide) ?_
      refine jG_icmp_ne F 48 dX6_allIn_29 (by decide) (fun q3 => ?_) (fun q3 => ?_)
      · refine jG_iconst F (v := (0 : Int32)) dX6_allIn_48 (by decide) ?_
        exact jG_iret F T ((jB01_neg (fun z => q3 z.2.2.1)).symm) rfl (by first | rfl | exact jnarb _ | (split <;> rfl)) dX6_allIn_49
      · refine jG_aload_n F dX6_allIn_32 rfl ?_
        refine jG_iload_n F dX6_allIn_33 rfl ?_
        refine jG_bipush F (v := nI 12) dX6_allIn_34 (by decide) ?_
        refine jG_iadd F dX6_allIn_36 ?_
        refine jc_X6_45 F dX6_allIn_37 (c_X6_how hm hl (nI_add p 12) (by omega)) (jpO_o hm) (by decide) (Nat.le_refl 0) (Nat.le_refl 0) (Nat.le_of_ble_eq_true rfl) ?_
        refine jG_iconst F (v := (2 : Int32)) dX6_allIn_40 (by decide) ?_
        refine jG_icmp_ne F 48 dX6_allIn_41 (by decide) (fun q4 => ?_) (fun q4 => ?_)
        · refine jG_iconst F (v := (0 : Int32)) dX6_allIn_48 (by decide) ?_
          exact jG_iret F T ((jB01_neg (fun z => q4 z.2.2.2)).symm) rfl (by first | rfl | exact jnarb _ | (split <;> rfl)) dX6_allIn_49
        · refine jG_iconst F (v := (1 : Int32)) dX6_allIn_44 (by decide) ?_
          refine jG_goto F 49 dX6_allIn_45 (by decide) ?_
          exact jG_iret F T ((jB01_pos ⟨q1, q2, q3, q4⟩).symm) rfl (by first | rfl | exact jnarb _ | (split <;> rfl)) dX6_allIn_49
theorem jbB (b : Bool) : jB01 (b = true) = 0 ↔ b = false := by cases b <;> decide
theorem c_X6_isOver (hm : h[m]? = some (jmo E m km (jio o) bd ba bw rm)) (hl : m + 8 < h.length) : jMd l E yX6_isOver cX6_isOver 4 (some .boolean) 7 [.ref (E.1 + m)] (jpO E h m o A P) (some (.int (jB01 (mover A)))) (jpO E h m o A P) 0 0 := by
  refine jMd_of (by decide) (Nat.le_of_ble_eq_true rfl) (by simp [Value.category]) (by first | rfl | simp [jpO_len]) (fun x hx F T hmm => ?_)
  have loop : ∀ k, k ≤ 4 → jG E x 0 0 28 [.ref (E.1 + m), .int (jB01 (mis A k = true)), .int (jB01 (msom A k = true)), .int (nI k)] [] (jpO E h m o A P) := by
    refine jup 4 _ ?_ ?_
    · refine jG_iload_n F dX6_isOver_28 rfl ?_
      refine jG_iconst F (v := nI 4) dX6_isOver_29 (by decide) ?_
      refine jG_icmp_ge F 75 dX6_isOver_30 (by decide) (fun _ => ?_) (fun q => absurd (nI_le (Nat.le_refl 4) (by decide)) q)
      refine jG_iload_n F dX6_isOver_75 rfl ?_
      refine jG_if_ne F 83 dX6_isOver_76 (by decide) (fun q => ?_) (fun q => ?_)
      · have q := jB01_ne q
        refine jG_iconst F (v := (1 : Int32)) dX6_isOver_83 (by decide) ?_
        refine jG_goto F 88 dX6_isOver_84 (by decide) ?_
        exact jG_iret F T ((jB01_pos (Or.inl q)).symm) rfl (by first | rfl | exact jnarb _ | (split <;> rfl)) dX6_isOver_88
      · have q := (jbB _).mp q
        refine jG_iload_n F dX6_isOver_79 rfl ?_
        refine jG_if_ne F 87 dX6_isOver_80 (by decide) (fun q2 => ?_) (fun q2 => ?_)
        · have q2 := jB01_ne q2
          refine jG_iconst F (v := (0 : Int32)) dX6_isOver_87 (by decide) ?_
          exact jG_iret F T ((jB01_neg (fun z => z.elim (fun y => by rw [q] at y; cases y) (fun y => by rw [q2] at y; cases y))).symm) rfl (by first | rfl | exact jnarb _ | (split <;> rfl)) dX6_isOver_88
        · have q2 := (jbB _).mp q2
          refine jG_iconst F (v := (1 : Int32)) dX6_isOver_83 (by decide) ?_
          refine jG_goto F 88 dX6_isOver_84 (by decide) ?_
          exact jG_iret F T ((jB01_pos (Or.inr q2)).symm) rfl (by first | rfl | exact jnarb _ | (split <;> rfl)) dX6_isOver_88
    · intro k hk ih
      have t2 : ∀ v : Int32, v = jB01 (mis A (k + 1) = true) → jG E x 0 0 51 [.ref (E.1 + m), .int v, .int (jB01 (msom A k = true)), .int (nI k)] [] (jpO E h m o A P) := by
        intro v hv
        refine jG_iload_n F dX6_isOver_51 rfl ?_
        refine jG_if_ne F 63 dX6_isOver_52 (by decide) (fun q => ?_) (fun q => ?_)
        · have q := jB01_ne q
          refine jG_iconst F (v := (1 : Int32)) dX6_isOver_63 (by decide) ?_
          refine jG_goto F 68 dX6_isOver_64 (by decide) ?_
          refine jG_istore_n_2e F dX6_isOver_68 (by decide) ?_
          refine jG_iinc_3 F (w := nI (k + 1)) dX6_isOver_69 (jinc k) (by decide) ?_
          refine jG_goto F 28 dX6_isOver_72 (by decide) ?_
          refine jG_eq ?_ rfl rfl ih
          rw [hv, jB01_pos (show msom A (k + 1) = true by simp [msom, q])]
        · have q := (jbB _).mp q
          refine jG_aload_n F dX6_isOver_55 rfl ?_
          refine jG_iload_n F dX6_isOver_56 rfl ?_
          refine jc_X6_91 F dX6_isOver_57 (c_X6_freeOf hm hl (by omega)) (jpO_o hm) (by decide) (Nat.le_refl 0) (Nat.le_refl 0) (Nat.le_of_ble_eq_true rfl) ?_
          refine jG_if_eq F 67 dX6_isOver_60 (by decide) (fun q2 => ?_) (fun q2 => ?_)
          · refine jG_iconst F (v := (0 : Int32)) dX6_isOver_67 (by decide) ?_
            refine jG_istore_n_2e F dX6_isOver_68 (by decide) ?_
            refine jG_iinc_3 F (w := nI (k + 1)) dX6_isOver_69 (jinc k) (by decide) ?_
            refine jG_goto F 28 dX6_isOver_72 (by decide) ?_
            refine jG_eq ?_ rfl rfl ih
            rw [hv, jB01_neg (show ¬ msom A (k + 1) = true by simp [msom, q, q2])]
          · refine jG_iconst F (v := (1 : Int32)) dX6_isOver_63 (by decide) ?_
            refine jG_goto F 68 dX6_isOver_64 (by decide) ?_
            refine jG_istore_n_2e F dX6_isOver_68 (by decide) ?_
            refine jG_iinc_3 F (w := nI (k + 1)) dX6_isOver_69 (jinc k) (by decide) ?_
            refine jG_goto F 28 dX6_isOver_72 (by decide) ?_
            refine jG_eq ?_ rfl rfl ih
            rw [hv, jB01_pos (show msom A (k + 1) = true by simp [msom, q2])]
      refine jG_iload_n F dX6_isOver_28 rfl ?_
      refine jG_iconst F (v := nI 4) dX6_isOver_29 (by decide) ?_
      refine jG_icmp_ge F 75 dX6_isOver_30 (by decide) (fun q => absurd q (nI_ge hk (by decide))) (fun _ => ?_)
      refine jG_iload_n F dX6_isOver_33 rfl ?_
      refine jG_if_ne F 45 dX6_isOver_34 (by decide) (fun q => ?_) (fun q => ?_)
      · have q := jB01_ne q
        refine jG_iconst F (v := (1 : Int32)) dX6_isOver_45 (by decide) ?_
        refine jG_goto F 50 dX6_isOver_46 (by decide) ?_
        refine jG_istore_n_1e F dX6_isOver_50 (by decide) ?_
        exact t2 1 (jB01_pos (show mis A (k + 1) = true by simp [mis, q])).symm
      · have q := (jbB _).mp q
        refine jG_aload_n F dX6_isOver_37 rfl ?_
        refine jG_iload_n F dX6_isOver_38 rfl ?_
        refine jc_X6_88 F dX6_isOver_39 (c_X6_allIn hm hl (by omega)) (jpO_o hm) (by decide) (Nat.le_refl 0) (Nat.le_refl 0) (Nat.le_of_ble_eq_true rfl) ?_
        refine jG_if_eq F 49 dX6_isOver_42 (by decide) (fun q2 => ?_) (fun q2 => ?_)
        · have q2 := jB01_eq q2
          refine jG_iconst F (v := (0 : Int32)) dX6_isOver_49 (by decide) ?_
          refine jG_istore_n_1e F dX6_isOver_50 (by decide) ?_
          exact t2 0 (jB01_neg (show ¬ mis A (k + 1) = true by simp only [mis, q, Bool.false_or, decide_eq_true_eq]; exact q2)).symm
        · have q2 := jB01_ne q2
          refine jG_iconst F (v := (1 : Int32)) dX6_isOver_45 (by decide) ?_
          refine jG_goto F 50 dX6_isOver_46 (by decide) ?_
          refine jG_istore_n_1e F dX6_isOver_50 (by decide) ?_
          exact t2 1 (jB01_pos (show mis A (k + 1) = true by simp only [mis, q, Bool.false_or, decide_eq_true_eq]; exact q2)).symm
  refine jG_aload_n F dX6_isOver_0 rfl ?_
  refine jc_X6_84 F dX6_isOver_1 (c_X6_isCome hm hl) (jpO_o hm) (by decide) (Nat.le_refl 0) (Nat.le_refl 0) (Nat.le_of_ble_eq_true rfl) ?_
  refine jG_if_eq F 22 dX6_isOver_4 (by decide) (fun q => ?_) (fun q => ?_)
  · have q := jB01_eq q
    refine jG_iconst F (v := (0 : Int32)) dX6_isOver_22 (by decide) ?_
    refine jG_istore_n_1n F dX6_isOver_23 (by decide) ?_
    refine jG_iconst F (v := (0 : Int32)) dX6_isOver_24 (by decide) ?_
    refine jG_istore_n_2n F dX6_isOver_25 (by decide) ?_
    refine jG_iconst F (v := nI 0) dX6_isOver_26 (by decide) ?_
    refine jG_istore_n_3n F dX6_isOver_27 (by decide) ?_
    refine jG_eq ?_ rfl rfl (loop 0 (by decide))
    rw [jB01_neg (show ¬ mis A 0 = true from fun z => q (of_decide_eq_true z).1), jB01_neg (show ¬ msom A 0 = true from Bool.false_ne_true)]
  · have q := jB01_ne q
    refine jG_aload_n F dX6_isOver_7 rfl ?_
    refine jG_bipush F (v := nI 67) dX6_isOver_8 (by decide) ?_
    refine jc_X6_41 F dX6_isOver_10 (c_X6_at hm hl rfl (by omega)) (jpO_o hm) (by decide) (Nat.le_refl 0) (Nat.le_refl 0) (Nat.le_of_ble_eq_true rfl) ?_
    refine jG_bipush F (v := (6 : Int32)) dX6_isOver_13 (by decide) ?_
    refine jG_icmp_lt F 22 dX6_isOver_15 (by decide) (fun q2 => ?_) (fun q2 => ?_)
    · refine jG_iconst F (v := (0 : Int32)) dX6_isOver_22 (by decide) ?_
      refine jG_istore_n_1n F dX6_isOver_23 (by decide) ?_
      refine jG_iconst F (v := (0 : Int32)) dX6_isOver_24 (by decide) ?_
      refine jG_istore_n_2n F dX6_isOver_25 (by decide) ?_
      refine jG_iconst F (v := nI 0) dX6_isOver_26 (by decide) ?_
      refine jG_istore_n_3n F dX6_isOver_27 (by decide) ?_
      refine jG_eq ?_ rfl rfl (loop 0 (by decide))
      rw [jB01_neg (show ¬ mis A 0 = true from fun z => (of_decide_eq_true z).2 q2), jB01_neg (show ¬ msom A 0 = true from Bool.false_ne_true)]
    · refine jG_iconst F (v := (1 : Int32)) dX6_isOver_18 (by decide) ?_
      refine jG_goto F 23 dX6_isOver_19 (by decide) ?_
      refine jG_istore_n_1n F dX6_isOver_23 (by decide) ?_
      refine jG_iconst F (v := (0 : Int32)) dX6_isOver_24 (by decide) ?_
      refine jG_istore_n_2n F dX6_isOver_25 (by decide) ?_
      refine jG_iconst F (v := nI 0) dX6_isOver_26 (by decide) ?_
      refine jG_istore_n_3n F dX6_isOver_27 (by decide) ?_
      refine jG_eq ?_ rfl rfl (loop 0 (by decide))
      rw [jB01_pos (show mis A 0 = true from decide_eq_true ⟨q, q2⟩), jB01_neg (show ¬ msom A 0 = true from Bool.false_ne_true)]
theorem c_X6_next {t : Nat} {c : Int32} (hm : h[m]? = some (jmo E m km (jio o) bd ba bw rm)) (hl : m + 8 < h.length) (ht : t < 4) : jMd l E yX6_next cX6_next 3 (some .int) 2 [.ref (E.1 + m), .int (nI t), .int c] (jpO E h m o A P) (some (.int (nI (mnxt (¬ c = 0) (A, t)).2))) (jpO E h m o (mnxt (¬ c = 0) (A, t)).1 P) 0 0 := by
  refine jMd_of (by decide) (Nat.le_of_ble_eq_true rfl) (by simp [Value.category]) (by first | rfl | simp [jpO_len]) (fun x hx F T hmm => ?_)
  refine jG_iload_n F dX6_next_0 rfl ?_
  refine jG_iconst F (v := nI 3) dX6_next_1 (by decide) ?_
  refine jG_icmp_ge F 9 dX6_next_2 (by decide) (fun q => ?_) (fun q => ?_)
  · have q : ¬ t < 3 := fun z => nI_ge z (by decide) q
    refine jG_aload_n F dX6_next_9 rfl ?_
    refine jG_bipush F (v := nI 67) dX6_next_10 (by decide) ?_
    refine jG_aload_n F dX6_next_12 rfl ?_
    refine jG_bipush F (v := nI 67) dX6_next_13 (by decide) ?_
    refine jc_X6_41 F dX6_next_15 (c_X6_at hm hl rfl (by omega)) (jpO_o hm) (by decide) (Nat.le_refl 0) (Nat.le_refl 0) (Nat.le_of_ble_eq_true rfl) ?_
    refine jG_iload_n F dX6_next_18 rfl ?_
    refine jG_if_eq F 33 dX6_next_19 (by decide) (fun q2 => ?_) (fun q2 => ?_)
    · rw [show mnxt (¬ c = 0) (A, t) = (upd A 67 (A 67 + 0), 0) from by unfold mnxt; rw [if_neg q, if_neg (fun z => z.1 q2)]] at T
      refine jG_iconst F (v := (0 : Int32)) dX6_next_33 (by decide) ?_
      refine jG_iadd F dX6_next_34 ?_
      refine jc_X6_54 F dX6_next_35 (c_X6_lay hm hl rfl (by omega)) (jpO_o hm) (by decide) (Nat.le_refl 0) (Nat.le_refl 0) (Nat.le_of_ble_eq_true rfl) ?_
      refine jG_iconst F (v := (0 : Int32)) dX6_next_38 (by decide) ?_
      exact jG_iret F T (rfl) rfl (by first | rfl | exact jnarb _ | (split <;> rfl)) dX6_next_39
    · refine jG_aload_n F dX6_next_22 rfl ?_
      refine jc_X6_84 F dX6_next_23 (c_X6_isCome hm hl) (jpO_o hm) (by decide) (Nat.le_refl 0) (Nat.le_refl 0) (Nat.le_of_ble_eq_true rfl) ?_
      refine jG_if_eq F 33 dX6_next_26 (by decide) (fun q3 => ?_) (fun q3 => ?_)
      · have q3 := jB01_eq q3
        rw [show mnxt (¬ c = 0) (A, t) = (upd A 67 (A 67 + 0), 0) from by unfold mnxt; rw [if_neg q, if_neg (fun z => q3 z.2)]] at T
        refine jG_iconst F (v := (0 : Int32)) dX6_next_33 (by decide) ?_
        refine jG_iadd F dX6_next_34 ?_
        refine jc_X6_54 F dX6_next_35 (c_X6_lay hm hl rfl (by omega)) (jpO_o hm) (by decide) (Nat.le_refl 0) (Nat.le_refl 0) (Nat.le_of_ble_eq_true rfl) ?_
        refine jG_iconst F (v := (0 : Int32)) dX6_next_38 (by decide) ?_
        exact jG_iret F T (rfl) rfl (by first | rfl | exact jnarb _ | (split <;> rfl)) dX6_next_39
      · have q3 := jB01_ne q3
        rw [show mnxt (¬ c = 0) (A, t) = (upd A 67 (A 67 + 1), 0) from by unfold mnxt; rw [if_neg q, if_pos ⟨q2, q3⟩]] at T
        refine jG_iconst F (v := (1 : Int32)) dX6_next_29 (by decide) ?_
        refine jG_goto F 34 dX6_next_30 (by decide) ?_
        refine jG_iadd F dX6_next_34 ?_
        refine jc_X6_54 F dX6_next_35 (c_X6_lay hm hl rfl (by omega)) (jpO_o hm) (by decide) (Nat.le_refl 0) (Nat.le_refl 0) (Nat.le_of_ble_eq_true rfl) ?_
        refine jG_iconst F (v := (0 : Int32)) dX6_next_38 (by decide) ?_
        exact jG_iret F T (rfl) rfl (by first | rfl | exact jnarb _ | (split <;> rfl)) dX6_next_39
  · have q : t < 3 := Nat.lt_of_not_le (fun z => q (nI_le z (by omega)))
    rw [show mnxt (¬ c = 0) (A, t) = (A, t + 1) from if_pos q] at T
    refine jG_iload_n F dX6_next_5 rfl ?_
    refine jG_iconst F (v := nI 1) dX6_next_6 (by decide) ?_
    refine jG_iadd F dX6_next_7 ?_
    exact jG_iret F T (nI_add t 1) rfl (by first | rfl | exact jnarb _ | (split <;> rfl)) dX6_next_8
theorem c_X6_passOver {t : Nat} {c : Int32} (hm : h[m]? = some (jmo E m km (jio o) bd ba bw rm)) (hl : m + 8 < h.length) (ht : t < 4) : jMd l E yX6_passOver cX6_passOver 5 none 7 [.ref (E.1 + m), .int (nI t), .int c] (jpO E h m o A P) none (jpO E h m o (mpsO (¬ c = 0) A t) P) 0 0 := by
  refine jMd_of (by decide) (Nat.le_of_ble_eq_true rfl) (by simp [Value.category]) (by first | rfl | simp [jpO_len]) (fun x hx F T hmm => ?_)
  have loop : ∀ n, n ≤ 3 → ∀ (Q : (Nat → Int32) × Nat), Q.2 < 4 → mpas (¬ c = 0) n Q = mpas (¬ c = 0) 3 (A, t) → jG E x 0 0 5 [.ref (E.1 + m), .int (nI t), .int c, .int (nI Q.2), .int (nI (3 - n))] [] (jpO E h m o Q.1 P) := by
    intro n
    induction n with
    | zero =>
      intro _ Q h0 h1
      refine jG_iload F dX6_passOver_5 rfl ?_
      refine jG_iconst F (v := nI 3) dX6_passOver_7 (by decide) ?_
      refine jG_icmp_ge F 32 dX6_passOver_8 (by decide) (fun _ => ?_) (fun q => absurd (nI_le (Nat.le_refl 3) (by decide)) q)
      refine jG_aload_n F dX6_passOver_32 rfl ?_
      refine jG_bipush F (v := nI 64) dX6_passOver_33 (by decide) ?_
      refine jG_iload_n F dX6_passOver_35 rfl ?_
      refine jc_X6_54 F dX6_passOver_36 (c_X6_lay hm hl rfl (by omega)) (jpO_o hm) (by decide) (Nat.le_refl 0) (Nat.le_refl 0) (Nat.le_of_ble_eq_true rfl) ?_
      exact jG_ret F T (by unfold mpsO; rw [← h1]; rfl) dX6_passOver_39
    | succ n ih =>
      intro hn Q h0 h1
      refine jG_iload F dX6_passOver_5 rfl ?_
      refine jG_iconst F (v := nI 3) dX6_passOver_7 (by decide) ?_
      refine jG_icmp_ge F 32 dX6_passOver_8 (by decide) (fun q => absurd q (nI_ge (show 3 - (n + 1) < 3 by omega) (by decide))) (fun _ => ?_)
      refine jG_aload_n F dX6_passOver_11 rfl ?_
      refine jG_iload_n F dX6_passOver_12 rfl ?_
      refine jc_X6_91 F dX6_passOver_13 (c_X6_freeOf hm hl h0) (jpO_o hm) (by decide) (Nat.le_refl 0) (Nat.le_refl 0) (Nat.le_of_ble_eq_true rfl) ?_
      refine jG_if_ne F 32 dX6_passOver_16 (by decide) (fun q => ?_) (fun q => ?_)
      · refine jG_aload_n F dX6_passOver_32 rfl ?_
        refine jG_bipush F (v := nI 64) dX6_passOver_33 (by decide) ?_
        refine jG_iload_n F dX6_passOver_35 rfl ?_
        refine jc_X6_54 F dX6_passOver_36 (c_X6_lay hm hl rfl (by omega)) (jpO_o hm) (by decide) (Nat.le_refl 0) (Nat.le_refl 0) (Nat.le_of_ble_eq_true rfl) ?_
        exact jG_ret F T (by unfold mpsO; rw [← h1, show mpas (¬ c = 0) (n + 1) Q = Q from if_neg q]) dX6_passOver_39
      · refine jG_aload_n F dX6_passOver_19 rfl ?_
        refine jG_iload_n F dX6_passOver_20 rfl ?_
        refine jG_iload_n F dX6_passOver_21 rfl ?_
        refine jc_X6_94 F dX6_passOver_22 (c_X6_next hm hl h0) (jpO_o hm) (by decide) (Nat.le_refl 0) (Nat.le_refl 0) (Nat.le_of_ble_eq_true rfl) ?_
        refine jG_istore_n_3e F dX6_passOver_25 (by decide) ?_
        refine jG_iinc_4 F (w := nI (3 - n)) dX6_passOver_26 ((jinc (3 - (n + 1))).trans (by rw [show 3 - (n + 1) + 1 = 3 - n by omega])) (by decide) ?_
        refine jG_goto F 5 dX6_passOver_29 (by decide) ?_
        exact ih (by omega) (mnxt (¬ c = 0) Q) (mnxt_lt h0) (by rw [← h1]; exact (if_pos q).symm)
  refine jG_iload_n F dX6_passOver_0 rfl ?_
  refine jG_istore_n_3n F dX6_passOver_1 (by decide) ?_
  refine jG_iconst F (v := nI 0) dX6_passOver_2 (by decide) ?_
  refine jG_istore_4n F dX6_passOver_3 (by decide) ?_
  exact loop 3 (by omega) (A, t) ht rfl
end MQ0
