/-! ===== JumpDiscsModel: chances and gains; the whole of a model behind the list B ===== -/
theorem jnn {a : Nat} (ha : a < 2 ^ 31) : 0 ≤ nI a := nI_le (Nat.zero_le a) ha
def mgaD (A : Nat → Int32) (d a : Nat) : Int32 := mgaF A d a 16
section MS0
variable {l : Launch} {E : jE} {h : List va_E} {m km rm d : Nat} {bd ba bw : Int32} {o : Bool} {A P : Nat → Int32}
theorem c_X6_chanceP (hm : h[m]? = some (jmo E m km (jio o) bd ba bw rm)) (hl : m + 8 < h.length) (hd : d < 16) : jMd l E yX6_chanceOf cX6_chanceOf 7 (some .int) 3 [.ref (E.1 + m), .int (nI d), .int (-1)] (jpO E h m o A P) (some (.int (mchP A d))) (jpO E h m o A P) 0 0 := by
  refine jMd_of (by decide) (Nat.le_of_ble_eq_true rfl) (by simp [Value.category]) (by first | rfl | simp [jpO_len]) (fun x hx F T hmm => ?_)
  refine jG_iload_n F dX6_chanceOf_0 rfl ?_
  refine jG_if_ge F 9 dX6_chanceOf_1 (by decide) (fun qz => absurd qz (by decide)) (fun _ => ?_)
  refine jG_bipush F (v := (20 : Int32)) dX6_chanceOf_4 (by decide) ?_
  refine jG_goto F 14 dX6_chanceOf_6 (by decide) ?_
  refine jG_istore_n_3n F dX6_chanceOf_14 (by decide) ?_
  refine jG_iload_n F dX6_chanceOf_15 rfl ?_
  refine jG_if_ge F 24 dX6_chanceOf_16 (by decide) (fun qz => absurd qz (by decide)) (fun _ => ?_)
  refine jG_bipush F (v := (20 : Int32)) dX6_chanceOf_19 (by decide) ?_
  refine jG_goto F 29 dX6_chanceOf_21 (by decide) ?_
  refine jG_istore_4n F dX6_chanceOf_29 (by decide) ?_
  refine jG_aload_n F dX6_chanceOf_31 rfl ?_
  refine jG_iload_n F dX6_chanceOf_32 rfl ?_
  refine jc_X6_58 F dX6_chanceOf_33 (c_X6_xOf hm hl (by omega)) (jpO_o hm) (by decide) (Nat.le_refl 0) (Nat.le_refl 0) (Nat.le_of_ble_eq_true rfl) ?_
  refine jG_aload_n F dX6_chanceOf_36 rfl ?_
  refine jG_iload_n F dX6_chanceOf_37 rfl ?_
  refine jc_X6_65 F dX6_chanceOf_38 (c_X6_yOf hm hl (by omega)) (jpO_o hm) (by decide) (Nat.le_refl 0) (Nat.le_refl 0) (Nat.le_of_ble_eq_true rfl) ?_
  refine jG_iload_n F dX6_chanceOf_41 rfl ?_
  refine jG_iload F dX6_chanceOf_42 rfl ?_
  refine jc_X6_146 F dX6_chanceOf_44 (c_X6_wayOf) (by decide) (Nat.le_refl 0) (Nat.le_refl 0) (Nat.le_of_ble_eq_true rfl) ?_
  refine jG_istore_5n F dX6_chanceOf_47 (by decide) ?_
  refine jG_iload_n F dX6_chanceOf_49 rfl ?_
  refine jG_if_lt F 71 dX6_chanceOf_50 (by decide) (fun _ => ?_) (fun qz => absurd (by decide) qz)
  refine jG_bipush F (v := (36 : Int32)) dX6_chanceOf_71 (by decide) ?_
  refine jG_iload F dX6_chanceOf_73 rfl ?_
  refine jG_isub F dX6_chanceOf_75 ?_
  refine jG_istore_6n F dX6_chanceOf_76 (by decide) ?_
  refine jG_iload F dX6_chanceOf_78 rfl ?_
  refine jG_iconst F (v := (1 : Int32)) dX6_chanceOf_80 (by decide) ?_
  refine jG_icmp_ge F 88 dX6_chanceOf_81 (by decide) (fun q => ?_) (fun q => ?_)
  · refine jG_iload F dX6_chanceOf_88 rfl ?_
    exact jG_iret F T (by unfold mchP mlt1; exact (if_neg (Int32.not_lt.mpr q)).symm) rfl (by first | rfl | exact jnarb _ | (split <;> rfl)) dX6_chanceOf_90
  · refine jG_iconst F (v := (1 : Int32)) dX6_chanceOf_84 (by decide) ?_
    refine jG_goto F 90 dX6_chanceOf_85 (by decide) ?_
    exact jG_iret F T (by unfold mchP mlt1; exact (if_pos (Int32.not_le.mp q)).symm) rfl (by first | rfl | exact jnarb _ | (split <;> rfl)) dX6_chanceOf_90
theorem c_X6_chanceD {a : Nat} (hm : h[m]? = some (jmo E m km (jio o) bd ba bw rm)) (hl : m + 8 < h.length) (hd : d < 16) (ha : a < 16) : jMd l E yX6_chanceOf cX6_chanceOf 7 (some .int) 3 [.ref (E.1 + m), .int (nI d), .int (nI a)] (jpO E h m o A P) (some (.int (mchD A d a))) (jpO E h m o A P) 0 0 := by
  refine jMd_of (by decide) (Nat.le_of_ble_eq_true rfl) (by simp [Value.category]) (by first | rfl | simp [jpO_len]) (fun x hx F T hmm => ?_)
  have hn : 0 ≤ nI a := jnn (by omega)
  refine jG_iload_n F dX6_chanceOf_0 rfl ?_
  refine jG_if_ge F 9 dX6_chanceOf_1 (by decide) (fun _ => ?_) (fun qz => absurd hn qz)
  refine jG_aload_n F dX6_chanceOf_9 rfl ?_
  refine jG_iload_n F dX6_chanceOf_10 rfl ?_
  refine jc_X6_58 F dX6_chanceOf_11 (c_X6_xOf hm hl ha) (jpO_o hm) (by decide) (Nat.le_refl 0) (Nat.le_refl 0) (Nat.le_of_ble_eq_true rfl) ?_
  refine jG_istore_n_3n F dX6_chanceOf_14 (by decide) ?_
  refine jG_iload_n F dX6_chanceOf_15 rfl ?_
  refine jG_if_ge F 24 dX6_chanceOf_16 (by decide) (fun _ => ?_) (fun qz => absurd hn qz)
  refine jG_aload_n F dX6_chanceOf_24 rfl ?_
  refine jG_iload_n F dX6_chanceOf_25 rfl ?_
  refine jc_X6_65 F dX6_chanceOf_26 (c_X6_yOf hm hl ha) (jpO_o hm) (by decide) (Nat.le_refl 0) (Nat.le_refl 0) (Nat.le_of_ble_eq_true rfl) ?_
  refine jG_istore_4n F dX6_chanceOf_29 (by decide) ?_
  refine jG_aload_n F dX6_chanceOf_31 rfl ?_
  refine jG_iload_n F dX6_chanceOf_32 rfl ?_
  refine jc_X6_58 F dX6_chanceOf_33 (c_X6_xOf hm hl (by omega)) (jpO_o hm) (by decide) (Nat.le_refl 0) (Nat.le_refl 0) (Nat.le_of_ble_eq_true rfl) ?_
  refine jG_aload_n F dX6_chanceOf_36 rfl ?_
  refine jG_iload_n F dX6_chanceOf_37 rfl ?_
  refine jc_X6_65 F dX6_chanceOf_38 (c_X6_yOf hm hl (by omega)) (jpO_o hm) (by decide) (Nat.le_refl 0) (Nat.le_refl 0) (Nat.le_of_ble_eq_true rfl) ?_
  refine jG_iload_n F dX6_chanceOf_41 rfl ?_
  refine jG_iload F dX6_chanceOf_42 rfl ?_
  refine jc_X6_146 F dX6_chanceOf_44 (c_X6_wayOf) (by decide) (Nat.le_refl 0) (Nat.le_refl 0) (Nat.le_of_ble_eq_true rfl) ?_
  refine jG_istore_5n F dX6_chanceOf_47 (by decide) ?_
  refine jG_iload_n F dX6_chanceOf_49 rfl ?_
  refine jG_if_lt F 71 dX6_chanceOf_50 (by decide) (fun qz => absurd qz (Int32.not_lt.mpr hn)) (fun _ => ?_)
  refine jG_iload_n F dX6_chanceOf_53 rfl ?_
  refine jc_X6_68 F dX6_chanceOf_54 (c_X6_sizeOf) (by decide) (Nat.le_refl 0) (Nat.le_refl 0) (Nat.le_of_ble_eq_true rfl) ?_
  refine jG_iconst F (v := (1 : Int32)) dX6_chanceOf_57 (by decide) ?_
  refine jG_icmp_ne F 71 dX6_chanceOf_58 (by decide) (fun q => ?_) (fun q => ?_)
  · refine jG_bipush F (v := (36 : Int32)) dX6_chanceOf_71 (by decide) ?_
    refine jG_iload F dX6_chanceOf_73 rfl ?_
    refine jG_isub F dX6_chanceOf_75 ?_
    refine jG_istore_6n F dX6_chanceOf_76 (by decide) ?_
    refine jG_iload F dX6_chanceOf_78 rfl ?_
    refine jG_iconst F (v := (1 : Int32)) dX6_chanceOf_80 (by decide) ?_
    refine jG_icmp_ge F 88 dX6_chanceOf_81 (by decide) (fun q2 => ?_) (fun q2 => ?_)
    · refine jG_iload F dX6_chanceOf_88 rfl ?_
      exact jG_iret F T (by rw [mchD, if_neg q]; exact (if_neg (Int32.not_lt.mpr q2)).symm) rfl (by first | rfl | exact jnarb _ | (split <;> rfl)) dX6_chanceOf_90
    · refine jG_iconst F (v := (1 : Int32)) dX6_chanceOf_84 (by decide) ?_
      refine jG_goto F 90 dX6_chanceOf_85 (by decide) ?_
      exact jG_iret F T (by rw [mchD, if_neg q]; exact (if_pos (Int32.not_le.mp q2)).symm) rfl (by first | rfl | exact jnarb _ | (split <;> rfl)) dX6_chanceOf_90
  · refine jG_bipush F (v := (36 : Int32)) dX6_chanceOf_61 (by decide) ?_
    refine jG_iconst F (v := (2 : Int32)) dX6_chanceOf_63 (by decide) ?_
    refine jG_iload F dX6_chanceOf_64 rfl ?_
    refine jG_imul F dX6_chanceOf_66 ?_
    refine jG_isub F dX6_chanceOf_67 ?_
    refine jG_goto F 76 dX6_chanceOf_68 (by decide) ?_
    refine jG_istore_6n F dX6_chanceOf_76 (by decide) ?_
    refine jG_iload F dX6_chanceOf_78 rfl ?_
    refine jG_iconst F (v := (1 : Int32)) dX6_chanceOf_80 (by decide) ?_
    refine jG_icmp_ge F 88 dX6_chanceOf_81 (by decide) (fun q2 => ?_) (fun q2 => ?_)
    · refine jG_iload F dX6_chanceOf_88 rfl ?_
      exact jG_iret F T (by rw [mchD, if_pos q]; exact (if_neg (Int32.not_lt.mpr q2)).symm) rfl (by first | rfl | exact jnarb _ | (split <;> rfl)) dX6_chanceOf_90
    · refine jG_iconst F (v := (1 : Int32)) dX6_chanceOf_84 (by decide) ?_
      refine jG_goto F 90 dX6_chanceOf_85 (by decide) ?_
      exact jG_iret F T (by rw [mchD, if_pos q]; exact (if_pos (Int32.not_le.mp q2)).symm) rfl (by first | rfl | exact jnarb _ | (split <;> rfl)) dX6_chanceOf_90
theorem c_X6_gainP (hm : h[m]? = some (jmo E m km (jio o) bd ba bw rm)) (hl : m + 8 < h.length) (hd : d < 16) : jMd l E yX6_gainOf cX6_gainOf 5 (some .int) 4 [.ref (E.1 + m), .int (nI d), .int (-1)] (jpO E h m o A P) (some (.int (mgaP A d))) (jpO E h m o A P) 0 0 := by
  refine jMd_of (by decide) (Nat.le_of_ble_eq_true rfl) (by simp [Value.category]) (by first | rfl | simp [jpO_len]) (fun x hx F T hmm => ?_)
  refine jG_iload_n F dX6_gainOf_0 rfl ?_
  refine jG_if_ge F 18 dX6_gainOf_1 (by decide) (fun qz => absurd qz (by decide)) (fun _ => ?_)
  refine jG_aload_n F dX6_gainOf_4 rfl ?_
  refine jG_iload_n F dX6_gainOf_5 rfl ?_
  refine jc_X6_45 F dX6_gainOf_6 (c_X6_how hm hl rfl (by omega)) (jpO_o hm) (by decide) (Nat.le_refl 0) (Nat.le_refl 0) (Nat.le_of_ble_eq_true rfl) ?_
  refine jG_if_ne F 16 dX6_gainOf_9 (by decide) (fun q => ?_) (fun q => ?_)
  · refine jG_iconst F (v := (2 : Int32)) dX6_gainOf_16 (by decide) ?_
    exact jG_iret F T ((if_neg q).symm) rfl (by first | rfl | exact jnarb _ | (split <;> rfl)) dX6_gainOf_17
  · refine jG_iconst F (v := (3 : Int32)) dX6_gainOf_12 (by decide) ?_
    refine jG_goto F 17 dX6_gainOf_13 (by decide) ?_
    exact jG_iret F T ((if_pos q).symm) rfl (by first | rfl | exact jnarb _ | (split <;> rfl)) dX6_gainOf_17
theorem c_X6_gainD {a : Nat} (hm : h[m]? = some (jmo E m km (jio o) bd ba bw rm)) (hl : m + 8 < h.length) (hd : d < 16) (ha : a < 16) : jMd l E yX6_gainOf cX6_gainOf 5 (some .int) 4 [.ref (E.1 + m), .int (nI d), .int (nI a)] (jpO E h m o A P) (some (.int (mgaD A d a))) (jpO E h m o A P) 0 0 := by
  refine jMd_of (by decide) (Nat.le_of_ble_eq_true rfl) (by simp [Value.category]) (by first | rfl | simp [jpO_len]) (fun x hx F T hmm => ?_)
  have hn : 0 ≤ nI a := jnn (by omega)
  have e2 : nI d - nI d / nI 2 * nI 2 = nI (d % 2) := pk_rem (by omega) (by decide) (by decide)
  have loop : ∀ k, k ≤ 16 → jG E x 0 0 49 [.ref (E.1 + m), .int (nI d), .int (nI a), .int (mgaF A d a k), .int (nI k)] [] (jpO E h m o A P) := by
    refine jup 16 _ ?_ ?_
    · refine jG_iload F dX6_gainOf_49 rfl ?_
      refine jG_bipush F (v := nI 16) dX6_gainOf_51 (by decide) ?_
      refine jG_icmp_ge F 90 dX6_gainOf_53 (by decide) (fun _ => ?_) (fun q => absurd (nI_le (Nat.le_refl 16) (by decide)) q)
      refine jG_iload_n F dX6_gainOf_90 rfl ?_
      exact jG_iret F T (rfl) rfl (by first | rfl | exact jnarb _ | (split <;> rfl)) dX6_gainOf_91
    · intro k hk ih
      have e1 : nI k - nI k / nI 2 * nI 2 = nI (k % 2) := pk_rem (by omega) (by decide) (by decide)
      refine jG_iload F dX6_gainOf_49 rfl ?_
      refine jG_bipush F (v := nI 16) dX6_gainOf_51 (by decide) ?_
      refine jG_icmp_ge F 90 dX6_gainOf_53 (by decide) (fun q => absurd q (nI_ge hk (by decide))) (fun _ => ?_)
      refine jG_iload_n F dX6_gainOf_56 rfl ?_
      refine jG_aload_n F dX6_gainOf_57 rfl ?_
      refine jG_iload_n F dX6_gainOf_58 rfl ?_
      refine jG_iload F dX6_gainOf_59 rfl ?_
      refine jc_X6_71 F dX6_gainOf_61 (c_X6_covers hm hl ha hk) (jpO_o hm) (by decide) (Nat.le_refl 0) (Nat.le_refl 0) (Nat.le_of_ble_eq_true rfl) ?_
      refine jG_if_eq F 81 dX6_gainOf_64 (by decide) (fun q => ?_) (fun q => ?_)
      · have q := jB01_eq q
        refine jG_iconst F (v := (0 : Int32)) dX6_gainOf_81 (by decide) ?_
        refine jG_iadd F dX6_gainOf_82 ?_
        refine jG_istore_n_3e F dX6_gainOf_83 (by decide) ?_
        refine jG_iinc_4 F (w := nI (k + 1)) dX6_gainOf_84 (jinc k) (by decide) ?_
        refine jG_goto F 49 dX6_gainOf_87 (by decide) ?_
        refine jG_eq ?_ rfl rfl ih
        rw [show mgaF A d a (k + 1) = mgaF A d a k + 0 from congrArg (fun z => mgaF A d a k + z) (if_neg (fun z => q z.1))]
      · have q := jB01_ne q
        refine jG_iload F dX6_gainOf_67 rfl ?_
        refine jG_iconst F (v := nI 2) dX6_gainOf_69 (by decide) ?_
        refine jG_irem F dX6_gainOf_70 (by decide) ?_
        refine jG_iload_n F dX6_gainOf_71 rfl ?_
        refine jG_iconst F (v := nI 2) dX6_gainOf_72 (by decide) ?_
        refine jG_irem F dX6_gainOf_73 (by decide) ?_
        refine jG_icmp_ne F 81 dX6_gainOf_74 (by decide) (fun q2 => ?_) (fun q2 => ?_)
        · have q2 : ¬ k % 2 = d % 2 := fun z => q2 (by rw [e1, e2, z])
          refine jG_iconst F (v := (0 : Int32)) dX6_gainOf_81 (by decide) ?_
          refine jG_iadd F dX6_gainOf_82 ?_
          refine jG_istore_n_3e F dX6_gainOf_83 (by decide) ?_
          refine jG_iinc_4 F (w := nI (k + 1)) dX6_gainOf_84 (jinc k) (by decide) ?_
          refine jG_goto F 49 dX6_gainOf_87 (by decide) ?_
          refine jG_eq ?_ rfl rfl ih
          rw [show mgaF A d a (k + 1) = mgaF A d a k + 0 from congrArg (fun z => mgaF A d a k + z) (if_neg (fun z => q2 z.2))]
        · have q2 : k % 2 = d % 2 := (nI_eq (by omega) (by omega)).mp (e1.symm.trans (q2.trans e2))
          refine jG_iconst F (v := (1 : Int32)) dX6_gainOf_77 (by decide) ?_
          refine jG_goto F 82 dX6_gainOf_78 (by decide) ?_
          refine jG_iadd F dX6_gainOf_82 ?_
          refine jG_istore_n_3e F dX6_gainOf_83 (by decide) ?_
          refine jG_iinc_4 F (w := nI (k + 1)) dX6_gainOf_84 (jinc k) (by decide) ?_
          refine jG_goto F 49 dX6_gainOf_87 (by decide) ?_
          refine jG_eq ?_ rfl rfl ih
          rw [show mgaF A d a (k + 1) = mgaF A d a k + 1 from congrArg (fun z => mgaF A d a k + z) (if_pos ⟨q, q2⟩)]
  refine jG_iload_n F dX6_gainOf_0 rfl ?_
  refine jG_if_ge F 18 dX6_gainOf_1 (by decide) (fun _ => ?_) (fun qz => absurd hn qz)
  refine jG_aload_n F dX6_gainOf_18 rfl ?_
  refine jG_iload_n F dX6_gainOf_19 rfl ?_
  refine jc_X6_58 F dX6_gainOf_20 (c_X6_xOf hm hl ha) (jpO_o hm) (by decide) (Nat.le_refl 0) (Nat.le_refl 0) (Nat.le_of_ble_eq_true rfl) ?_
  refine jG_aload_n F dX6_gainOf_23 rfl ?_
  refine jG_iload_n F dX6_gainOf_24 rfl ?_
  refine jc_X6_65 F dX6_gainOf_25 (c_X6_yOf hm hl ha) (jpO_o hm) (by decide) (Nat.le_refl 0) (Nat.le_refl 0) (Nat.le_of_ble_eq_true rfl) ?_
  refine jG_bipush F (v := (20 : Int32)) dX6_gainOf_28 (by decide) ?_
  refine jG_bipush F (v := (20 : Int32)) dX6_gainOf_30 (by decide) ?_
  refine jc_X6_146 F dX6_gainOf_32 (c_X6_wayOf) (by decide) (Nat.le_refl 0) (Nat.le_refl 0) (Nat.le_of_ble_eq_true rfl) ?_
  refine jG_bipush F (v := (6 : Int32)) dX6_gainOf_35 (by decide) ?_
  refine jG_icmp_gt F 44 dX6_gainOf_37 (by decide) (fun q => ?_) (fun q => ?_)
  · refine jG_iconst F (v := (1 : Int32)) dX6_gainOf_44 (by decide) ?_
    refine jG_istore_n_3n F dX6_gainOf_45 (by decide) ?_
    refine jG_iconst F (v := nI 0) dX6_gainOf_46 (by decide) ?_
    refine jG_istore_4n F dX6_gainOf_47 (by decide) ?_
    refine jG_eq ?_ rfl rfl (loop 0 (by decide))
    rw [show mgaF A d a 0 = 1 from if_pos q]
  · refine jG_iconst F (v := (2 : Int32)) dX6_gainOf_40 (by decide) ?_
    refine jG_goto F 45 dX6_gainOf_41 (by decide) ?_
    refine jG_istore_n_3n F dX6_gainOf_45 (by decide) ?_
    refine jG_iconst F (v := nI 0) dX6_gainOf_46 (by decide) ?_
    refine jG_istore_4n F dX6_gainOf_47 (by decide) ?_
    refine jG_eq ?_ rfl rfl (loop 0 (by decide))
    rw [show mgaF A d a 0 = 2 from if_neg q]
end MS0
def jw9 (E : jE) (B : List va_E) (m km : Nat) (o : Bool) (bd ba bw : Int32) (rm : Nat) (A P K rd rx ry pr qs : Nat → Int32) : List va_E := B ++ [jmo E m km (jio o) bd ba bw rm, jar E 128 A, jar E 128 P, jar E 384 K, jar E 24 rd, jar E 24 rx, jar E 24 ry, jar E 20 pr, jar E 20 qs]
section MW0
variable {E : jE} {B : List va_E} {m km : Nat} {o : Bool} {bd ba bw : Int32} {rm : Nat} {A P K rd rx ry pr qs f g : Nat → Int32} {v : Int32} {n : Nat}
theorem jw9_len : (jw9 E B m km o bd ba bw rm A P K rd rx ry pr qs).length = B.length + 9 := by simp [jw9]
theorem jw9_l (hB : B.length = m) : m + 8 < (jw9 E B m km o bd ba bw rm A P K rd rx ry pr qs).length := by rw [jw9_len]; omega
theorem jw9_o (hB : B.length = m) : (jw9 E B m km o bd ba bw rm A P K rd rx ry pr qs)[m]? = some (jmo E m km (jio o) bd ba bw rm) := by subst hB; simp [jw9]
theorem jw9_1 (hB : B.length = m) : (jw9 E B m km o bd ba bw rm A P K rd rx ry pr qs)[m + 1]? = some (jar E 128 A) := by subst hB; simp [jw9, List.getElem?_append_right]
theorem jw9_2 (hB : B.length = m) : (jw9 E B m km o bd ba bw rm A P K rd rx ry pr qs)[m + 2]? = some (jar E 128 P) := by subst hB; simp [jw9, List.getElem?_append_right]
theorem jw9_3 (hB : B.length = m) : (jw9 E B m km o bd ba bw rm A P K rd rx ry pr qs)[m + 3]? = some (jar E 384 K) := by subst hB; simp [jw9, List.getElem?_append_right]
theorem jw9_4 (hB : B.length = m) : (jw9 E B m km o bd ba bw rm A P K rd rx ry pr qs)[m + 4]? = some (jar E 24 rd) := by subst hB; simp [jw9, List.getElem?_append_right]
theorem jw9_5 (hB : B.length = m) : (jw9 E B m km o bd ba bw rm A P K rd rx ry pr qs)[m + 5]? = some (jar E 24 rx) := by subst hB; simp [jw9, List.getElem?_append_right]
theorem jw9_6 (hB : B.length = m) : (jw9 E B m km o bd ba bw rm A P K rd rx ry pr qs)[m + 6]? = some (jar E 24 ry) := by subst hB; simp [jw9, List.getElem?_append_right]
theorem jw9_7 (hB : B.length = m) : (jw9 E B m km o bd ba bw rm A P K rd rx ry pr qs)[m + 7]? = some (jar E 20 pr) := by subst hB; simp [jw9, List.getElem?_append_right]
theorem jw9_8 (hB : B.length = m) : (jw9 E B m km o bd ba bw rm A P K rd rx ry pr qs)[m + 8]? = some (jar E 20 qs) := by subst hB; simp [jw9, List.getElem?_append_right]
theorem jw9_s (hB : B.length = m) (L : List va_E) (j : Nat) (e : va_E) : (B ++ L).set (m + j) e = B ++ L.set j e := by
  subst hB
  rw [List.set_append_right _ _ (by omega), Nat.add_sub_cancel_left]
theorem jw9_s1 (hB : B.length = m) : (jw9 E B m km o bd ba bw rm A P K rd rx ry pr qs).set (m + 1) (jar E 128 f) = jw9 E B m km o bd ba bw rm f P K rd rx ry pr qs := jw9_s hB _ 1 _
theorem jw9_s2 (hB : B.length = m) : (jw9 E B m km o bd ba bw rm A P K rd rx ry pr qs).set (m + 2) (jar E 128 f) = jw9 E B m km o bd ba bw rm A f K rd rx ry pr qs := jw9_s hB _ 2 _
theorem jw9_s3 (hB : B.length = m) : (jw9 E B m km o bd ba bw rm A P K rd rx ry pr qs).set (m + 3) (jar E 384 f) = jw9 E B m km o bd ba bw rm A P f rd rx ry pr qs := jw9_s hB _ 3 _
theorem jw9_s4 (hB : B.length = m) : (jw9 E B m km o bd ba bw rm A P K rd rx ry pr qs).set (m + 4) (jar E 24 f) = jw9 E B m km o bd ba bw rm A P K f rx ry pr qs := jw9_s hB _ 4 _
theorem jw9_s5 (hB : B.length = m) : (jw9 E B m km o bd ba bw rm A P K rd rx ry pr qs).set (m + 5) (jar E 24 f) = jw9 E B m km o bd ba bw rm A P K rd f ry pr qs := jw9_s hB _ 5 _
theorem jw9_s6 (hB : B.length = m) : (jw9 E B m km o bd ba bw rm A P K rd rx ry pr qs).set (m + 6) (jar E 24 f) = jw9 E B m km o bd ba bw rm A P K rd rx f pr qs := jw9_s hB _ 6 _
theorem jw9_s7 (hB : B.length = m) : (jw9 E B m km o bd ba bw rm A P K rd rx ry pr qs).set (m + 7) (jar E 20 f) = jw9 E B m km o bd ba bw rm A P K rd rx ry f qs := jw9_s hB _ 7 _
theorem jw9_s8 (hB : B.length = m) : (jw9 E B m km o bd ba bw rm A P K rd rx ry pr qs).set (m + 8) (jar E 20 f) = jw9 E B m km o bd ba bw rm A P K rd rx ry pr f := jw9_s hB _ 8 _
abbrev jmol (E : jE) (m km : Nat) (io bd ba bw : Int32) (rm : Nat) : List Value := [.ref (E.1 + (m + 1)), .ref (E.1 + (m + 2)), .ref (E.1 + (m + 3)), .int (nI km), .int io, .int bd, .int ba, .int bw, .int (nI rm), .ref (E.1 + (m + 4)), .ref (E.1 + (m + 5)), .ref (E.1 + (m + 6)), .ref (E.1 + (m + 7)), .ref (E.1 + (m + 8))]
theorem jw9_pk (hB : B.length = m) : (jw9 E B m km o bd ba bw rm A P K rd rx ry pr qs).set m (.inr (6, (jmol E m km (jio o) bd ba bw rm).set 3 (.int (nI n)))) = jw9 E B m n o bd ba bw rm A P K rd rx ry pr qs := jw9_s hB _ 0 _
theorem jw9_pt (hB : B.length = m) : (jw9 E B m km o bd ba bw rm A P K rd rx ry pr qs).set m (.inr (6, (jmol E m km (jio o) bd ba bw rm).set 4 (.int 1))) = jw9 E B m km true bd ba bw rm A P K rd rx ry pr qs := jw9_s hB _ 0 _
theorem jw9_pf (hB : B.length = m) : (jw9 E B m km o bd ba bw rm A P K rd rx ry pr qs).set m (.inr (6, (jmol E m km (jio o) bd ba bw rm).set 4 (.int 0))) = jw9 E B m km false bd ba bw rm A P K rd rx ry pr qs := jw9_s hB _ 0 _
theorem jw9_pd (hB : B.length = m) : (jw9 E B m km o bd ba bw rm A P K rd rx ry pr qs).set m (.inr (6, (jmol E m km (jio o) bd ba bw rm).set 5 (.int v))) = jw9 E B m km o v ba bw rm A P K rd rx ry pr qs := jw9_s hB _ 0 _
theorem jw9_pa (hB : B.length = m) : (jw9 E B m km o bd ba bw rm A P K rd rx ry pr qs).set m (.inr (6, (jmol E m km (jio o) bd ba bw rm).set 6 (.int v))) = jw9 E B m km o bd v bw rm A P K rd rx ry pr qs := jw9_s hB _ 0 _
theorem jw9_pw (hB : B.length = m) : (jw9 E B m km o bd ba bw rm A P K rd rx ry pr qs).set m (.inr (6, (jmol E m km (jio o) bd ba bw rm).set 7 (.int v))) = jw9 E B m km o bd ba v rm A P K rd rx ry pr qs := jw9_s hB _ 0 _
theorem jw9_pr (hB : B.length = m) : (jw9 E B m km o bd ba bw rm A P K rd rx ry pr qs).set m (.inr (6, (jmol E m km (jio o) bd ba bw rm).set 8 (.int (nI n)))) = jw9 E B m km o bd ba bw n A P K rd rx ry pr qs := jw9_s hB _ 0 _
theorem jw9_Of (hB : B.length = m) : jpO E (jw9 E B m km false bd ba bw rm A P K rd rx ry pr qs) m false f g = jw9 E B m km false bd ba bw rm f g K rd rx ry pr qs := by
  unfold jpO
  rw [jw9_s1 hB, jw9_s2 hB]; rfl
theorem jw9_Ot (hB : B.length = m) : jpO E (jw9 E B m km true bd ba bw rm A P K rd rx ry pr qs) m true f g = jw9 E B m km true bd ba bw rm g f K rd rx ry pr qs := by
  unfold jpO
  rw [jw9_s1 hB, jw9_s2 hB]; rfl
/-- a contract over the board alone, over the whole model -/
theorem jW {l : Launch} {y : MethodName} {cc : ByteArray} {nL : Nat} {ret : Option FieldType} {d : Nat} {av : List Value} {r : Option Value} (hB : B.length = m) (c : jMd l E y cc nL ret d av (jpO E (jw9 E B m km false bd ba bw rm A P K rd rx ry pr qs) m false A P) r (jpO E (jw9 E B m km false bd ba bw rm A P K rd rx ry pr qs) m false f g) 0 0) : jMd l E y cc nL ret d av (jw9 E B m km false bd ba bw rm A P K rd rx ry pr qs) r (jw9 E B m km false bd ba bw rm f g K rd rx ry pr qs) 0 0 := by
  rw [jw9_Of hB, jw9_Of hB] at c
  exact c
/-- the same over the other board: A the board, P the other -/
theorem jV1 {l : Launch} {y : MethodName} {cc : ByteArray} {nL : Nat} {ret : Option FieldType} {d : Nat} {av : List Value} {r : Option Value} (hB : B.length = m) (c : jMd l E y cc nL ret d av (jpO E (jw9 E B m km true bd ba bw rm A P K rd rx ry pr qs) m true P A) r (jpO E (jw9 E B m km true bd ba bw rm A P K rd rx ry pr qs) m true f g) 0 0) : jMd l E y cc nL ret d av (jw9 E B m km true bd ba bw rm A P K rd rx ry pr qs) r (jw9 E B m km true bd ba bw rm g f K rd rx ry pr qs) 0 0 := by
  rw [jw9_Ot hB, jw9_Ot hB] at c
  exact c
end MW0
/-- THE BEST SHOT of the model -/
def mbA (A : Nat → Int32) (d : Nat) (q : Int32 × Int32 × Int32) : Nat → Int32 × Int32 × Int32
  | 0 => jwei (nI d) (-1) (mchP A d * mgaP A d) q
  | k + 1 => if ¬ k % 2 = d % 2 ∧ A k = 1 ∧ mfree A k then jwei (nI d) (nI k) (mchD A d k * mgaD A d k) (mbA A d q k) else mbA A d q k
def mbB (A : Nat → Int32) (p : Nat) (ba : Int32) : Nat → Int32 × Int32 × Int32
  | 0 => (-4, ba, 0)
  | k + 1 => if mfree A (p + 4 * k) then mbA A (p + 4 * k) (mbB A p ba k) 16 else mbB A p ba k
section MW
variable {l : Launch} {E : jE} {B : List va_E} {m km : Nat} {bd ba bw : Int32} {rm : Nat} {A P K rd rx ry pr qs : Nat → Int32} {v w a b c : Int32} {p t : Nat}
theorem c_X6_layBest (hB : B.length = m) (hp : p < 4) : jMd l E yX6_layBest cX6_layBest 5 none 6 [.ref (E.1 + m), .int (nI p)] (jw9 E B m km false bd ba bw rm A P K rd rx ry pr qs) none (jw9 E B m km false ((mbB A p ba 4).1) ((mbB A p ba 4).2.1) ((mbB A p ba 4).2.2) rm A P K rd rx ry pr qs) 0 0 := by
  refine jMd_of (by decide) (Nat.le_of_ble_eq_true rfl) (by simp [Value.category]) (by first | rfl | simp [jw9_len]) (fun x hx F T hmm => ?_)
  have outer : ∀ k, k ≤ 4 → ∀ r, jG E x 0 0 13 (.ref (E.1 + m) :: .int (nI p) :: .int (nI (p + 4 * k)) :: r) [] (jw9 E B m km false ((mbB A p ba k).1) ((mbB A p ba k).2.1) ((mbB A p ba k).2.2) rm A P K rd rx ry pr qs) := by
    refine jup 4 _ ?_ ?_
    · intro r
      refine jG_iload_n F dX6_layBest_13 rfl ?_
      refine jG_bipush F (v := nI 16) dX6_layBest_14 (by decide) ?_
      refine jG_icmp_ge F 136 dX6_layBest_16 (by decide) (fun _ => ?_) (fun qz => absurd (nI_le (show 16 ≤ p + 4 * 4 by omega) (by omega)) qz)
      exact jG_ret F T (rfl) dX6_layBest_136
    · intro k hk ih r
      refine jG_take 3 ?_
      have hd : p + 4 * k < 16 := by omega
      have e4 : nI (p + 4 * k) + Int32.ofInt 4 = nI (p + 4 * (k + 1)) := (nI_add (p + 4 * k) 4).trans (by rw [Nat.mul_add, Nat.add_assoc])
      have es : mbB A p ba (k + 1) = if mfree A (p + 4 * k) then mbA A (p + 4 * k) (mbB A p ba k) 16 else mbB A p ba k := rfl
      generalize hqk : mbB A p ba k = Q at es ⊢
      generalize hq1 : mbB A p ba (k + 1) = Q1 at es ih
      have inner : mfree A (p + 4 * k) → ∀ j, j ≤ 16 → ∀ r, jG E x 0 0 21 (.ref (E.1 + m) :: .int (nI p) :: .int (nI (p + 4 * k)) :: .int (nI j) :: r) [] (jw9 E B m km false ((mbA A (p + 4 * k) Q j).1) ((mbA A (p + 4 * k) Q j).2.1) ((mbA A (p + 4 * k) Q j).2.2) rm A P K rd rx ry pr qs) := by
        intro hf
        rw [if_pos hf] at es
        have e2 : nI (p + 4 * k) - nI (p + 4 * k) / nI 2 * nI 2 = nI ((p + 4 * k) % 2) := pk_rem (by omega) (by decide) (by decide)
        refine jup 16 _ ?_ ?_
        · intro r
          refine jG_iload_n F dX6_layBest_21 rfl ?_
          refine jG_bipush F (v := nI 16) dX6_layBest_22 (by decide) ?_
          refine jG_icmp_ge F 130 dX6_layBest_24 (by decide) (fun _ => ?_) (fun q => absurd (nI_le (Nat.le_refl 16) (by decide)) q)
          refine jG_iinc_2 F (w := nI (p + 4 * (k + 1))) dX6_layBest_130 (e4) (by decide) ?_
          refine jG_goto F 13 dX6_layBest_133 (by decide) ?_
          rw [← es]
          exact ih _
        · intro j hj ihj r
          refine jG_take 4 ?_
          have e1 : nI j - nI j / nI 2 * nI 2 = nI (j % 2) := pk_rem (by omega) (by decide) (by decide)
          have hn : ¬ nI j < 0 := Int32.not_lt.mpr (jnn (by omega))
          have ej : mbA A (p + 4 * k) Q (j + 1) = if ¬ j % 2 = (p + 4 * k) % 2 ∧ A j = 1 ∧ mfree A j then jwei (nI (p + 4 * k)) (nI j) (mchD A (p + 4 * k) j * mgaD A (p + 4 * k) j) (mbA A (p + 4 * k) Q j) else mbA A (p + 4 * k) Q j := rfl
          generalize mbA A (p + 4 * k) Q (j + 1) = Y1 at ej ihj
          generalize mbA A (p + 4 * k) Q j = Y at ej ⊢
          have no : ¬ (¬ j % 2 = (p + 4 * k) % 2 ∧ A j = 1 ∧ mfree A j) → jG E x 0 0 69 [.ref (E.1 + m), .int (nI p), .int (nI (p + 4 * k)), .int (nI j)] [] (jw9 E B m km false (Y.1) (Y.2.1) (Y.2.2) rm A P K rd rx ry pr qs) := by
            intro hno
            rw [if_neg hno] at ej
            refine jG_iconst F (v := (0 : Int32)) dX6_layBest_69 (by decide) ?_
            refine jG_istore_4n F dX6_layBest_70 (by decide) ?_
            refine jG_iload F dX6_layBest_72 rfl ?_
            refine jG_if_eq F 124 dX6_layBest_74 (by decide) (fun _ => ?_) (fun qz => absurd rfl qz)
            refine jG_iinc_3 F (w := nI (j + 1)) dX6_layBest_124 (jinc j) (by decide) ?_
            refine jG_goto F 21 dX6_layBest_127 (by decide) ?_
            rw [← ej]
            exact ihj _
          refine jG_iload_n F dX6_layBest_21 rfl ?_
          refine jG_bipush F (v := nI 16) dX6_layBest_22 (by decide) ?_
          refine jG_icmp_ge F 130 dX6_layBest_24 (by decide) (fun q => absurd q (nI_ge hj (by decide))) (fun _ => ?_)
          refine jG_aload_n F dX6_layBest_27 rfl ?_
          refine jG_iload_n F dX6_layBest_28 rfl ?_
          refine jc_X6_81 F dX6_layBest_29 (jW hB (c_X6_isFree (jw9_o hB) (jw9_l hB) hd)) (jw9_o hB) (by decide) (Nat.le_refl 0) (Nat.le_refl 0) (Nat.le_of_ble_eq_true rfl) ?_
          refine jG_if_eq F 130 dX6_layBest_32 (by decide) (fun qz => absurd qz (fun z => jB01_eq z hf)) (fun _ => ?_)
          refine jG_iload_n F dX6_layBest_35 rfl ?_
          refine jG_if_lt F 65 dX6_layBest_36 (by decide) (fun qz => absurd qz hn) (fun _ => ?_)
          refine jG_iload_n F dX6_layBest_39 rfl ?_
          refine jG_iconst F (v := nI 2) dX6_layBest_40 (by decide) ?_
          refine jG_irem F dX6_layBest_41 (by decide) ?_
          refine jG_iload_n F dX6_layBest_42 rfl ?_
          refine jG_iconst F (v := nI 2) dX6_layBest_43 (by decide) ?_
          refine jG_irem F dX6_layBest_44 (by decide) ?_
          refine jG_icmp_eq F 69 dX6_layBest_45 (by decide) (fun q => ?_) (fun q => ?_)
          · exact no (fun z => z.1 ((nI_eq (by omega) (by omega)).mp (e1.symm.trans (q.trans e2))))
          · have q : ¬ j % 2 = (p + 4 * k) % 2 := fun z => q (by rw [e1, e2, z])
            refine jG_aload_n F dX6_layBest_48 rfl ?_
            refine jG_iload_n F dX6_layBest_49 rfl ?_
            refine jc_X6_45 F dX6_layBest_50 (jW hB (c_X6_how (jw9_o hB) (jw9_l hB) rfl (by omega))) (jw9_o hB) (by decide) (Nat.le_refl 0) (Nat.le_refl 0) (Nat.le_of_ble_eq_true rfl) ?_
            refine jG_iconst F (v := (1 : Int32)) dX6_layBest_53 (by decide) ?_
            refine jG_icmp_ne F 69 dX6_layBest_54 (by decide) (fun q2 => ?_) (fun q2 => ?_)
            · exact no (fun z => q2 z.2.1)
            · refine jG_aload_n F dX6_layBest_57 rfl ?_
              refine jG_iload_n F dX6_layBest_58 rfl ?_
              refine jc_X6_81 F dX6_layBest_59 (jW hB (c_X6_isFree (jw9_o hB) (jw9_l hB) hj)) (jw9_o hB) (by decide) (Nat.le_refl 0) (Nat.le_refl 0) (Nat.le_of_ble_eq_true rfl) ?_
              refine jG_if_eq F 69 dX6_layBest_62 (by decide) (fun q3 => ?_) (fun q3 => ?_)
              · exact no (fun z => jB01_eq q3 z.2.2)
              · have q3 := jB01_ne q3
                rw [if_pos ⟨q, q2, q3⟩] at ej
                refine jG_iconst F (v := (1 : Int32)) dX6_layBest_65 (by decide) ?_
                refine jG_goto F 70 dX6_layBest_66 (by decide) ?_
                refine jG_istore_4n F dX6_layBest_70 (by decide) ?_
                refine jG_iload F dX6_layBest_72 rfl ?_
                refine jG_if_eq F 124 dX6_layBest_74 (by decide) (fun qz => absurd qz (by decide)) (fun _ => ?_)
                refine jG_aload_n F dX6_layBest_77 rfl ?_
                refine jG_iload_n F dX6_layBest_78 rfl ?_
                refine jG_iload_n F dX6_layBest_79 rfl ?_
                refine jc_X6_175 F dX6_layBest_80 (jW hB (c_X6_chanceD (jw9_o hB) (jw9_l hB) hd hj)) (jw9_o hB) (by decide) (Nat.le_refl 0) (Nat.le_refl 0) (Nat.le_of_ble_eq_true rfl) ?_
                refine jG_aload_n F dX6_layBest_83 rfl ?_
                refine jG_iload_n F dX6_layBest_84 rfl ?_
                refine jG_iload_n F dX6_layBest_85 rfl ?_
                refine jc_X6_186 F dX6_layBest_86 (jW hB (c_X6_gainD (jw9_o hB) (jw9_l hB) hd hj)) (jw9_o hB) (by decide) (Nat.le_refl 0) (Nat.le_refl 0) (Nat.le_of_ble_eq_true rfl) ?_
                refine jG_imul F dX6_layBest_89 ?_
                refine jG_aload_n F dX6_layBest_90 rfl ?_
                refine jg_X6_183 F dX6_layBest_91 (jw9_o hB) rfl ?_
                refine jG_icmp_le F 124 dX6_layBest_94 (by decide) (fun q4 => ?_) (fun q4 => ?_)
                · refine jG_iinc_3 F (w := nI (j + 1)) dX6_layBest_124 (jinc j) (by decide) ?_
                  refine jG_goto F 21 dX6_layBest_127 (by decide) ?_
                  rw [show jwei _ _ _ Y = Y from if_neg (Int32.not_lt.mpr q4)] at ej
                  rw [← ej]
                  exact ihj _
                · rw [show jwei _ _ _ Y = _ from if_pos (Int32.not_le.mp q4)] at ej
                  rw [ej] at ihj
                  refine jG_aload_n F dX6_layBest_97 rfl ?_
                  refine jG_iload_n F dX6_layBest_98 rfl ?_
                  refine jp_X6_179 F dX6_layBest_99 (jw9_o hB) rfl rfl (Nat.le_of_ble_eq_true rfl) ?_
                  refine jG_eq rfl rfl (jw9_pd hB) ?_
                  refine jG_aload_n F dX6_layBest_102 rfl ?_
                  refine jG_iload_n F dX6_layBest_103 rfl ?_
                  refine jp_X6_189 F dX6_layBest_104 (jw9_o hB) rfl rfl (Nat.le_of_ble_eq_true rfl) ?_
                  refine jG_eq rfl rfl (jw9_pa hB) ?_
                  refine jG_aload_n F dX6_layBest_107 rfl ?_
                  refine jG_aload_n F dX6_layBest_108 rfl ?_
                  refine jG_iload_n F dX6_layBest_109 rfl ?_
                  refine jG_iload_n F dX6_layBest_110 rfl ?_
                  refine jc_X6_175 F dX6_layBest_111 (jW hB (c_X6_chanceD (jw9_o hB) (jw9_l hB) hd hj)) (jw9_o hB) (by decide) (Nat.le_refl 0) (Nat.le_refl 0) (Nat.le_of_ble_eq_true rfl) ?_
                  refine jG_aload_n F dX6_layBest_114 rfl ?_
                  refine jG_iload_n F dX6_layBest_115 rfl ?_
                  refine jG_iload_n F dX6_layBest_116 rfl ?_
                  refine jc_X6_186 F dX6_layBest_117 (jW hB (c_X6_gainD (jw9_o hB) (jw9_l hB) hd hj)) (jw9_o hB) (by decide) (Nat.le_refl 0) (Nat.le_refl 0) (Nat.le_of_ble_eq_true rfl) ?_
                  refine jG_imul F dX6_layBest_120 ?_
                  refine jp_X6_183 F dX6_layBest_121 (jw9_o hB) rfl rfl (Nat.le_of_ble_eq_true rfl) ?_
                  refine jG_eq rfl rfl (jw9_pw hB) ?_
                  refine jG_iinc_3 F (w := nI (j + 1)) dX6_layBest_124 (jinc j) (by decide) ?_
                  refine jG_goto F 21 dX6_layBest_127 (by decide) ?_
                  exact ihj _
      refine jG_iload_n F dX6_layBest_13 rfl ?_
      refine jG_bipush F (v := nI 16) dX6_layBest_14 (by decide) ?_
      refine jG_icmp_ge F 136 dX6_layBest_16 (by decide) (fun qz => absurd qz (nI_ge hd (by decide))) (fun _ => ?_)
      refine jG_iconst F (v := (-1 : Int32)) dX6_layBest_19 (by decide) ?_
      refine jG_istore_n_3n F dX6_layBest_20 (by decide) ?_
      refine jG_iload_n F dX6_layBest_21 rfl ?_
      refine jG_bipush F (v := nI 16) dX6_layBest_22 (by decide) ?_
      refine jG_icmp_ge F 130 dX6_layBest_24 (by decide) (fun qz => absurd qz (by decide)) (fun _ => ?_)
      refine jG_aload_n F dX6_layBest_27 rfl ?_
      refine jG_iload_n F dX6_layBest_28 rfl ?_
      refine jc_X6_81 F dX6_layBest_29 (jW hB (c_X6_isFree (jw9_o hB) (jw9_l hB) hd)) (jw9_o hB) (by decide) (Nat.le_refl 0) (Nat.le_refl 0) (Nat.le_of_ble_eq_true rfl) ?_
      refine jG_if_eq F 130 dX6_layBest_32 (by decide) (fun q => ?_) (fun q => ?_)
      · have q := jB01_eq q
        rw [if_neg q] at es
        refine jG_iinc_2 F (w := nI (p + 4 * (k + 1))) dX6_layBest_130 (e4) (by decide) ?_
        refine jG_goto F 13 dX6_layBest_133 (by decide) ?_
        rw [← es]
        exact ih _
      · have q := jB01_ne q
        have inner := inner q 0 (by decide)
        have ej : mbA A (p + 4 * k) Q 0 = jwei (nI (p + 4 * k)) (-1) (mchP A (p + 4 * k) * mgaP A (p + 4 * k)) Q := rfl
        generalize mbA A (p + 4 * k) Q 0 = Y at ej inner
        refine jG_iload_n F dX6_layBest_35 rfl ?_
        refine jG_if_lt F 65 dX6_layBest_36 (by decide) (fun _ => ?_) (fun qz => absurd (by decide) qz)
        refine jG_iconst F (v := (1 : Int32)) dX6_layBest_65 (by decide) ?_
        refine jG_goto F 70 dX6_layBest_66 (by decide) ?_
        refine jG_istore_4n F dX6_layBest_70 (by decide) ?_
        refine jG_iload F dX6_layBest_72 rfl ?_
        refine jG_if_eq F 124 dX6_layBest_74 (by decide) (fun qz => absurd qz (by decide)) (fun _ => ?_)
        refine jG_aload_n F dX6_layBest_77 rfl ?_
        refine jG_iload_n F dX6_layBest_78 rfl ?_
        refine jG_iload_n F dX6_layBest_79 rfl ?_
        refine jc_X6_175 F dX6_layBest_80 (jW hB (c_X6_chanceP (jw9_o hB) (jw9_l hB) hd)) (jw9_o hB) (by decide) (Nat.le_refl 0) (Nat.le_refl 0) (Nat.le_of_ble_eq_true rfl) ?_
        refine jG_aload_n F dX6_layBest_83 rfl ?_
        refine jG_iload_n F dX6_layBest_84 rfl ?_
        refine jG_iload_n F dX6_layBest_85 rfl ?_
        refine jc_X6_186 F dX6_layBest_86 (jW hB (c_X6_gainP (jw9_o hB) (jw9_l hB) hd)) (jw9_o hB) (by decide) (Nat.le_refl 0) (Nat.le_refl 0) (Nat.le_of_ble_eq_true rfl) ?_
        refine jG_imul F dX6_layBest_89 ?_
        refine jG_aload_n F dX6_layBest_90 rfl ?_
        refine jg_X6_183 F dX6_layBest_91 (jw9_o hB) rfl ?_
        refine jG_icmp_le F 124 dX6_layBest_94 (by decide) (fun q4 => ?_) (fun q4 => ?_)
        · rw [show jwei _ _ _ Q = Q from if_neg (Int32.not_lt.mpr q4)] at ej
          refine jG_iinc_3 F (w := nI 0) dX6_layBest_124 (rfl) (by decide) ?_
          refine jG_goto F 21 dX6_layBest_127 (by decide) ?_
          rw [← ej]
          exact inner _
        · rw [show jwei _ _ _ Q = _ from if_pos (Int32.not_le.mp q4)] at ej
          rw [ej] at inner
          refine jG_aload_n F dX6_layBest_97 rfl ?_
          refine jG_iload_n F dX6_layBest_98 rfl ?_
          refine jp_X6_179 F dX6_layBest_99 (jw9_o hB) rfl rfl (Nat.le_of_ble_eq_true rfl) ?_
          refine jG_eq rfl rfl (jw9_pd hB) ?_
          refine jG_aload_n F dX6_layBest_102 rfl ?_
          refine jG_iload_n F dX6_layBest_103 rfl ?_
          refine jp_X6_189 F dX6_layBest_104 (jw9_o hB) rfl rfl (Nat.le_of_ble_eq_true rfl) ?_
          refine jG_eq rfl rfl (jw9_pa hB) ?_
          refine jG_aload_n F dX6_layBest_107 rfl ?_
          refine jG_aload_n F dX6_layBest_108 rfl ?_
          refine jG_iload_n F dX6_layBest_109 rfl ?_
          refine jG_iload_n F dX6_layBest_110 rfl ?_
          refine jc_X6_175 F dX6_layBest_111 (jW hB (c_X6_chanceP (jw9_o hB) (jw9_l hB) hd)) (jw9_o hB) (by decide) (Nat.le_refl 0) (Nat.le_refl 0) (Nat.le_of_ble_eq_true rfl) ?_
          refine jG_aload_n F dX6_layBest_114 rfl ?_
          refine jG_iload_n F dX6_layBest_115 rfl ?_
          refine jG_iload_n F dX6_layBest_116 rfl ?_
          refine jc_X6_186 F dX6_layBest_117 (jW hB (c_X6_gainP (jw9_o hB) (jw9_l hB) hd)) (jw9_o hB) (by decide) (Nat.le_refl 0) (Nat.le_refl 0) (Nat.le_of_ble_eq_true rfl) ?_
          refine jG_imul F dX6_layBest_120 ?_
          refine jp_X6_183 F dX6_layBest_121 (jw9_o hB) rfl rfl (Nat.le_of_ble_eq_true rfl) ?_
          refine jG_eq rfl rfl (jw9_pw hB) ?_
          refine jG_iinc_3 F (w := nI 0) dX6_layBest_124 (rfl) (by decide) ?_
          refine jG_goto F 21 dX6_layBest_127 (by decide) ?_
          exact inner _
  refine jG_aload_n F dX6_layBest_0 rfl ?_
  refine jG_bipush F (v := (-4 : Int32)) dX6_layBest_1 (by decide) ?_
  refine jp_X6_179 F dX6_layBest_3 (jw9_o hB) rfl rfl (Nat.le_of_ble_eq_true rfl) ?_
  refine jG_eq rfl rfl (jw9_pd hB) ?_
  refine jG_aload_n F dX6_layBest_6 rfl ?_
  refine jG_iconst F (v := (0 : Int32)) dX6_layBest_7 (by decide) ?_
  refine jp_X6_183 F dX6_layBest_8 (jw9_o hB) rfl rfl (Nat.le_of_ble_eq_true rfl) ?_
  refine jG_eq rfl rfl (jw9_pw hB) ?_
  refine jG_iload_n F dX6_layBest_11 rfl ?_
  refine jG_istore_n_2n F dX6_layBest_12 (by decide) ?_
  exact outer 0 (by decide) _
end MW
