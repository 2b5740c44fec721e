/-! ===== Board: lift, bring, bringAllToBase ===== -/
section BR
variable {l : Launch} {E : jE} {h : List va_E} {i d : Nat} {xs ys cv : Nat → Int32} {ly cu cd : Int32}
theorem c_X1_lift (hi : i + 3 < h.length) (hd : d < 16) : jMd l E yX1_lift cX1_lift 4 none 1 [.ref (E.1 + i), .int (nI d)] (jp6 E h i xs ys cv ly cu cd) none (jpB E h i (jliftF (xs, ys, cv, ly, cu, cd) d)) 0 0 := by
  refine jMd_of (by decide) (Nat.le_of_ble_eq_true rfl) (by simp [Value.category]) (by first | rfl | simp [jpB_len]) (fun x hx F T hm => ?_)
  refine jG_iconst F (v := (1 : Int32)) dX1_lift_0 (by decide) ?_
  refine jG_iload_n F dX1_lift_1 rfl ?_
  refine jG_ishl F dX1_lift_2 ?_
  refine jG_iconst F (v := (-1 : Int32)) dX1_lift_3 (by decide) ?_
  refine jG_ixor F dX1_lift_4 ?_
  refine jG_istore_n_2n F dX1_lift_5 (by decide) ?_
  refine jG_aload_n F dX1_lift_6 rfl ?_
  refine jG_dup F dX1_lift_7 rfl ?_
  refine jg_X1_25 F dX1_lift_8 (jpB_o hi) rfl ?_
  refine jG_iload_n F dX1_lift_11 rfl ?_
  refine jG_iand F dX1_lift_12 ?_
  refine jp_X1_25 F dX1_lift_13 (jpB_o hi) rfl rfl (Nat.le_of_ble_eq_true rfl) ?_
  refine jG_eq rfl rfl jpB_put_inCup ?_
  refine jG_aload_n F dX1_lift_16 rfl ?_
  refine jG_iload_n F dX1_lift_17 rfl ?_
  refine jc_X1_58 F dX1_lift_18 (c_X1_doesLie hi) (jpB_o hi) (by decide) (Nat.le_refl 0) (Nat.le_refl 0) (Nat.le_of_ble_eq_true rfl) ?_
  refine jG_if_ne F 25 dX1_lift_21 (by decide) (fun q => ?_) (fun q => ?_)
  · refine jG_aload_n F dX1_lift_25 rfl ?_
    refine jG_dup F dX1_lift_26 rfl ?_
    refine jg_X1_21 F dX1_lift_27 (jpB_o hi) rfl ?_
    refine jG_iload_n F dX1_lift_30 rfl ?_
    refine jG_iand F dX1_lift_31 ?_
    refine jp_X1_21 F dX1_lift_32 (jpB_o hi) rfl rfl (Nat.le_of_ble_eq_true rfl) ?_
    refine jG_eq rfl rfl jpB_put_lying ?_
    refine jG_aload_n F dX1_lift_35 rfl ?_
    refine jg_X1_18 F dX1_lift_36 (jpB_o hi) rfl ?_
    refine jG_iload_n F dX1_lift_39 rfl ?_
    refine jG_iconst F (v := (0 : Int32)) dX1_lift_40 (by decide) ?_
    refine jG_iast F dX1_lift_41 (jpB_c hi) rfl (by omega) (by decide) ?_
    refine jG_eq rfl rfl jpB_st_c ?_
    refine jG_aload_n F dX1_lift_42 rfl ?_
    refine jG_iconst F (v := (0 : Int32)) dX1_lift_43 (by decide) ?_
    refine jp_X1_28 F dX1_lift_44 (jpB_o hi) rfl rfl (Nat.le_of_ble_eq_true rfl) ?_
    refine jG_eq rfl rfl jpB_put_covered ?_
    refine jG_iconst F (v := nI 0) dX1_lift_47 (by decide) ?_
    refine jG_istore_n_3n F dX1_lift_48 (by decide) ?_
    have q := jB01_ne q
    have e : jliftF (xs, ys, cv, ly, cu, cd) d = (xs, ys, jfil (fun o => upd cv d 0 o &&& joth d) (upd cv d 0) 16, ly &&& joth d, cu &&& joth d, jorI 0 (fun o => decide (¬ upd cv d 0 o &&& joth d = 0)) 16) := if_neg q
    have loop : ∀ k, k ≤ 16 → jG E x 0 0 49 [.ref (E.1 + i), .int (nI d), .int (joth d), .int (nI k)] [] (jp6 E h i xs ys (jfil (fun o => upd cv d 0 o &&& joth d) (upd cv d 0) k) (ly &&& joth d) (cu &&& joth d) (jorI 0 (fun o => decide (¬ upd cv d 0 o &&& joth d = 0)) k)) := by
      refine jup 16 _ ?_ ?_
      · refine jG_iload_n F dX1_lift_49 rfl ?_
        refine jG_bipush F (v := nI 16) dX1_lift_50 (by decide) ?_
        refine jG_icmp_ge F 92 dX1_lift_52 (by decide) (fun _ => ?_) (fun q => absurd (nI_le (Nat.le_refl 16) (by decide)) q)
        exact jG_ret F T (by rw [e]) dX1_lift_92
      · intro k hk ih
        refine jG_iload_n F dX1_lift_49 rfl ?_
        refine jG_bipush F (v := nI 16) dX1_lift_50 (by decide) ?_
        refine jG_icmp_ge F 92 dX1_lift_52 (by decide) (fun q => absurd q (nI_ge hk (by decide))) (fun _ => ?_)
        refine jG_aload_n F dX1_lift_55 rfl ?_
        refine jg_X1_18 F dX1_lift_56 (jpB_o hi) rfl ?_
        refine jG_iload_n F dX1_lift_59 rfl ?_
        refine jG_dup2 F dX1_lift_60 rfl rfl ?_
        refine jG_iald F dX1_lift_61 (jpB_c hi) rfl (by omega) (by decide) ?_
        refine jG_iload_n F dX1_lift_62 rfl ?_
        refine jG_iand F dX1_lift_63 ?_
        refine jG_iast F dX1_lift_64 (jpB_c hi) rfl (by omega) (by decide) ?_
        refine jG_eq rfl rfl jpB_st_c ?_
        refine jG_eq rfl rfl (congrArg (fun f => jp6 E h i xs ys f _ _ _) (jfil_s _ _ k (by show jfil _ _ k k &&& _ = _; rw [jfil_at]))) ?_
        refine jG_aload_n F dX1_lift_65 rfl ?_
        refine jg_X1_18 F dX1_lift_66 (jpB_o hi) rfl ?_
        refine jG_iload_n F dX1_lift_69 rfl ?_
        refine jG_iald F dX1_lift_70 (jpB_c hi) rfl (by omega) (by decide) ?_
        refine jG_if_eq F 86 dX1_lift_71 (by decide) (fun q2 => ?_) (fun q2 => ?_)
        · refine jG_iinc_3 F (w := nI (k + 1)) dX1_lift_86 (jinc k) (by decide) ?_
          refine jG_goto F 49 dX1_lift_89 (by decide) ?_
          refine jG_eq rfl rfl ?_ ih
          rw [jorI_f (n := k)]
          simpa [jfil] using q2
        · refine jG_aload_n F dX1_lift_74 rfl ?_
          refine jG_dup F dX1_lift_75 rfl ?_
          refine jg_X1_28 F dX1_lift_76 (jpB_o hi) rfl ?_
          refine jG_iconst F (v := (1 : Int32)) dX1_lift_79 (by decide) ?_
          refine jG_iload_n F dX1_lift_80 rfl ?_
          refine jG_ishl F dX1_lift_81 ?_
          refine jG_ior F dX1_lift_82 ?_
          refine jp_X1_28 F dX1_lift_83 (jpB_o hi) rfl rfl (Nat.le_of_ble_eq_true rfl) ?_
          refine jG_eq rfl rfl jpB_put_covered ?_
          refine jG_iinc_3 F (w := nI (k + 1)) dX1_lift_86 (jinc k) (by decide) ?_
          refine jG_goto F 49 dX1_lift_89 (by decide) ?_
          refine jG_eq rfl rfl ?_ ih
          rw [jorI_t (n := k)]
          · rfl
          · simpa [jfil] using q2
    refine jG_eq rfl rfl ?_ (loop 0 (by decide))
    rw [jfil_0]; rfl
  · exact jG_ret F T (by rw [show jliftF (xs, ys, cv, ly, cu, cd) d = (xs, ys, cv, ly, cu &&& joth d, cd) from if_pos (Classical.not_not.mp (jB01_eq q))]; rfl) dX1_lift_24
theorem c_X1_bring {a b : Int32} (hi : i + 3 < h.length) (hd : d < 16) : jMd l E yX1_bring cX1_bring 5 none 2 [.ref (E.1 + i), .int (nI d), .int a, .int b] (jp6 E h i xs ys cv ly cu cd) none (jpB E h i (jbringF (xs, ys, cv, ly, cu, cd) d a b)) 0 0 := by
  refine jMd_of (by decide) (Nat.le_of_ble_eq_true rfl) (by simp [Value.category]) (by first | rfl | simp [jpB_len]) (fun x hx F T hm => ?_)
  refine jG_aload_n F dX1_bring_0 rfl ?_
  refine jG_iload_n F dX1_bring_1 rfl ?_
  refine jc_X1_44 F dX1_bring_2 (c_X1_lift hi (by omega)) (jpB_o hi) (by decide) (Nat.le_refl 0) (Nat.le_refl 0) (Nat.le_of_ble_eq_true rfl) ?_
  refine jG_iload_n F dX1_bring_5 rfl ?_
  refine jG_iconst F (v := (-1 : Int32)) dX1_bring_6 (by decide) ?_
  refine jG_icmp_ne F 39 dX1_bring_7 (by decide) (fun q => ?_) (fun q => ?_)
  · refine jG_aload_n F dX1_bring_39 rfl ?_
    refine jg_X1_9 F dX1_bring_40 (jpB_o hi) rfl ?_
    refine jG_iload_n F dX1_bring_43 rfl ?_
    refine jG_iload_n F dX1_bring_44 rfl ?_
    refine jG_iast F dX1_bring_45 (jpB_x hi) rfl (by omega) (by decide) ?_
    refine jG_eq rfl rfl jpB_st_x ?_
    refine jG_aload_n F dX1_bring_46 rfl ?_
    refine jg_X1_15 F dX1_bring_47 (jpB_o hi) rfl ?_
    refine jG_iload_n F dX1_bring_50 rfl ?_
    refine jG_iload_n F dX1_bring_51 rfl ?_
    refine jG_iast F dX1_bring_52 (jpB_y hi) rfl (by omega) (by decide) ?_
    refine jG_eq rfl rfl jpB_st_y ?_
    refine jG_iload_n F dX1_bring_53 rfl ?_
    refine jG_bipush F (v := (41 : Int32)) dX1_bring_54 (by decide) ?_
    refine jG_icmp_ne F 72 dX1_bring_56 (by decide) (fun q2 => ?_) (fun q2 => ?_)
    · refine jG_iconst F (v := nI 0) dX1_bring_72 (by decide) ?_
      refine jG_istore_4n F dX1_bring_73 (by decide) ?_
      have e : jbringF (xs, ys, cv, ly, cu, cd) d a b = jlayF (jputF (jliftF (xs, ys, cv, ly, cu, cd) d) d a b) d := (if_neg q).trans (if_neg q2)
      generalize hC : jputF (jliftF (xs, ys, cv, ly, cu, cd) d) d a b = C at e
      have loop : ∀ k, k ≤ 16 → jG E x 0 0 75 [.ref (E.1 + i), .int (nI d), .int a, .int b, .int (nI k)] [] (jp6 E h i C.1 C.2.1 (jfil (fun o => if jhit C.1 C.2.1 C.2.2.2.1 d o then C.2.2.1 o ||| jbit d else C.2.2.1 o) C.2.2.1 k) C.2.2.2.1 C.2.2.2.2.1 (jorI C.2.2.2.2.2 (jhit C.1 C.2.1 C.2.2.2.1 d) k)) := by
        refine jup 16 _ ?_ ?_
        · refine jG_iload F dX1_bring_75 rfl ?_
          refine jG_bipush F (v := nI 16) dX1_bring_77 (by decide) ?_
          refine jG_icmp_ge F 133 dX1_bring_79 (by decide) (fun _ => ?_) (fun q => absurd (nI_le (Nat.le_refl 16) (by decide)) q)
          refine jG_aload_n F dX1_bring_133 rfl ?_
          refine jG_dup F dX1_bring_134 rfl ?_
          refine jg_X1_21 F dX1_bring_135 (jpB_o hi) rfl ?_
          refine jG_iconst F (v := (1 : Int32)) dX1_bring_138 (by decide) ?_
          refine jG_iload_n F dX1_bring_139 rfl ?_
          refine jG_ishl F dX1_bring_140 ?_
          refine jG_ior F dX1_bring_141 ?_
          refine jp_X1_21 F dX1_bring_142 (jpB_o hi) rfl rfl (Nat.le_of_ble_eq_true rfl) ?_
          refine jG_eq rfl rfl jpB_put_lying ?_
          exact jG_ret F T (by rw [e]; rfl) dX1_bring_145
        · intro k hk ih
          refine jG_iload F dX1_bring_75 rfl ?_
          refine jG_bipush F (v := nI 16) dX1_bring_77 (by decide) ?_
          refine jG_icmp_ge F 133 dX1_bring_79 (by decide) (fun q => absurd q (nI_ge hk (by decide))) (fun _ => ?_)
          refine jG_aload_n F dX1_bring_82 rfl ?_
          refine jG_iload F dX1_bring_83 rfl ?_
          refine jc_X1_58 F dX1_bring_85 (c_X1_doesLie hi) (jpB_o hi) (by decide) (Nat.le_refl 0) (Nat.le_refl 0) (Nat.le_of_ble_eq_true rfl) ?_
          refine jG_if_eq F 127 dX1_bring_88 (by decide) (fun q3 => ?_) (fun q3 => ?_)
          · refine jG_iinc_4 F (w := nI (k + 1)) dX1_bring_127 (jinc k) (by decide) ?_
            refine jG_goto F 75 dX1_bring_130 (by decide) ?_
            refine jG_eq rfl rfl ?_ ih
            have hh : jhit C.1 C.2.1 C.2.2.2.1 d k = false := by simp [jhit, show ¬ jts C.2.2.2.1 k from jB01_eq q3]
            rw [jorI_f (n := k) (by rw [hh]; decide), ← jfil_k _ _ k (by simp [hh])]
          · refine jG_aload_n F dX1_bring_91 rfl ?_
            refine jG_iload_n F dX1_bring_92 rfl ?_
            refine jG_iload F dX1_bring_93 rfl ?_
            refine jc_X1_62 F dX1_bring_95 (c_X1_isOverlap hi (by omega) (by omega)) (jpB_o hi) (by decide) (Nat.le_refl 0) (Nat.le_refl 0) (Nat.le_of_ble_eq_true rfl) ?_
            refine jG_if_eq F 127 dX1_bring_98 (by decide) (fun q4 => ?_) (fun q4 => ?_)
            · refine jG_iinc_4 F (w := nI (k + 1)) dX1_bring_127 (jinc k) (by decide) ?_
              refine jG_goto F 75 dX1_bring_130 (by decide) ?_
              refine jG_eq rfl rfl ?_ ih
              have h4 : ¬ jovb C.1 C.2.1 d k = true := jB01_eq q4
              have hh : jhit C.1 C.2.1 C.2.2.2.1 d k = false := by simp [jhit, h4]
              rw [jorI_f (n := k) (by rw [hh]; decide), ← jfil_k _ _ k (by simp [hh])]
            · refine jG_aload_n F dX1_bring_101 rfl ?_
              refine jg_X1_18 F dX1_bring_102 (jpB_o hi) rfl ?_
              refine jG_iload F dX1_bring_105 rfl ?_
              refine jG_dup2 F dX1_bring_107 rfl rfl ?_
              refine jG_iald F dX1_bring_108 (jpB_c hi) rfl (by omega) (by decide) ?_
              refine jG_iconst F (v := (1 : Int32)) dX1_bring_109 (by decide) ?_
              refine jG_iload_n F dX1_bring_110 rfl ?_
              refine jG_ishl F dX1_bring_111 ?_
              refine jG_ior F dX1_bring_112 ?_
              refine jG_iast F dX1_bring_113 (jpB_c hi) rfl (by omega) (by decide) ?_
              refine jG_eq rfl rfl jpB_st_c ?_
              refine jG_aload_n F dX1_bring_114 rfl ?_
              refine jG_dup F dX1_bring_115 rfl ?_
              refine jg_X1_28 F dX1_bring_116 (jpB_o hi) rfl ?_
              refine jG_iconst F (v := (1 : Int32)) dX1_bring_119 (by decide) ?_
              refine jG_iload F dX1_bring_120 rfl ?_
              refine jG_ishl F dX1_bring_122 ?_
              refine jG_ior F dX1_bring_123 ?_
              refine jp_X1_28 F dX1_bring_124 (jpB_o hi) rfl rfl (Nat.le_of_ble_eq_true rfl) ?_
              refine jG_eq rfl rfl jpB_put_covered ?_
              refine jG_iinc_4 F (w := nI (k + 1)) dX1_bring_127 (jinc k) (by decide) ?_
              refine jG_goto F 75 dX1_bring_130 (by decide) ?_
              refine jG_eq rfl rfl ?_ ih
              have h4 : jovb C.1 C.2.1 d k = true := jB01_ne q4
              have h3 : jts C.2.2.2.1 k := jB01_ne q3
              have hh : jhit C.1 C.2.1 C.2.2.2.1 d k = true := by simp [jhit, h3, h4]
              rw [jorI_t (n := k) hh, ← jfil_s _ _ k (v := jfil (fun o => if jhit C.1 C.2.1 C.2.2.2.1 d o then C.2.2.1 o ||| jbit d else C.2.2.1 o) C.2.2.1 k k ||| jbit d) (by rw [jfil_at]; simp [hh])]
              rfl
      refine jG_eq rfl rfl ?_ (loop 0 (by decide))
      rw [jfil_0, ← hC]; rfl
    · refine jG_aload_n F dX1_bring_59 rfl ?_
      refine jG_dup F dX1_bring_60 rfl ?_
      refine jg_X1_25 F dX1_bring_61 (jpB_o hi) rfl ?_
      refine jG_iconst F (v := (1 : Int32)) dX1_bring_64 (by decide) ?_
      refine jG_iload_n F dX1_bring_65 rfl ?_
      refine jG_ishl F dX1_bring_66 ?_
      refine jG_ior F dX1_bring_67 ?_
      refine jp_X1_25 F dX1_bring_68 (jpB_o hi) rfl rfl (Nat.le_of_ble_eq_true rfl) ?_
      refine jG_eq rfl rfl jpB_put_inCup ?_
      exact jG_ret F T (by rw [show jbringF (xs, ys, cv, ly, cu, cd) d a b = _ from (if_neg q).trans (if_pos q2)]; rfl) dX1_bring_71
  · refine jG_aload_n F dX1_bring_10 rfl ?_
    refine jg_X1_9 F dX1_bring_11 (jpB_o hi) rfl ?_
    refine jG_iload_n F dX1_bring_14 rfl ?_
    refine jG_baseXN F (by decide +kernel) dX1_bring_15 ?_
    refine jG_iload_n F dX1_bring_18 rfl ?_
    refine jc_X1_51 F dX1_bring_19 (c_X5_playerOf hd) (by decide) (Nat.le_refl 0) (Nat.le_refl 0) (Nat.le_of_ble_eq_true rfl) ?_
    refine jG_tabN F F.2.2.2.2.2.1.2.2.2.1.2 dX1_bring_22 rfl (by omega) ?_
    refine jG_iast F dX1_bring_23 (jpB_x hi) rfl (by omega) (by decide) ?_
    refine jG_eq rfl rfl jpB_st_x ?_
    refine jG_aload_n F dX1_bring_24 rfl ?_
    refine jg_X1_15 F dX1_bring_25 (jpB_o hi) rfl ?_
    refine jG_iload_n F dX1_bring_28 rfl ?_
    refine jG_baseYN F (by decide +kernel) dX1_bring_29 ?_
    refine jG_iload_n F dX1_bring_32 rfl ?_
    refine jc_X1_51 F dX1_bring_33 (c_X5_playerOf hd) (by decide) (Nat.le_refl 0) (Nat.le_refl 0) (Nat.le_of_ble_eq_true rfl) ?_
    refine jG_tabN F F.2.2.2.2.2.1.2.2.2.2.1.2 dX1_bring_36 rfl (by omega) ?_
    refine jG_iast F dX1_bring_37 (jpB_y hi) rfl (by omega) (by decide) ?_
    refine jG_eq rfl rfl jpB_st_y ?_
    exact jG_ret F T (by rw [show jbringF (xs, ys, cv, ly, cu, cd) d a b = _ from if_pos q]; rfl) dX1_bring_38
theorem c_X1_bringAllToBase (hi : i + 3 < h.length) : jMd l E yX1_bringAllToBase cX1_bringAllToBase 2 none 3 [.ref (E.1 + i)] (jp6 E h i xs ys cv ly cu cd) none (jpB E h i (jallF (xs, ys, cv, ly, cu, cd) 16)) 0 0 := by
  refine jMd_of (by decide) (Nat.le_of_ble_eq_true rfl) (by simp [Value.category]) (by first | rfl | simp [jpB_len]) (fun x hx F T hm => ?_)
  refine jG_iconst F (v := nI 0) dX1_bringAllToBase_0 (by decide) ?_
  refine jG_istore_n_1n F dX1_bringAllToBase_1 (by decide) ?_
  have loop : ∀ k, k ≤ 16 → jG E x 0 0 2 [.ref (E.1 + i), .int (nI k)] [] (jpB E h i (jallF (xs, ys, cv, ly, cu, cd) k)) := by
    refine jup 16 _ ?_ ?_
    · refine jG_iload_n F dX1_bringAllToBase_2 rfl ?_
      refine jG_bipush F (v := nI 16) dX1_bringAllToBase_3 (by decide) ?_
      refine jG_icmp_ge F 21 dX1_bringAllToBase_5 (by decide) (fun _ => ?_) (fun q => absurd (nI_le (Nat.le_refl 16) (by decide)) q)
      exact jG_ret F T (rfl) dX1_bringAllToBase_21
    · intro k hk ih
      refine jG_iload_n F dX1_bringAllToBase_2 rfl ?_
      refine jG_bipush F (v := nI 16) dX1_bringAllToBase_3 (by decide) ?_
      refine jG_icmp_ge F 21 dX1_bringAllToBase_5 (by decide) (fun q => absurd q (nI_ge hk (by decide))) (fun _ => ?_)
      refine jG_aload_n F dX1_bringAllToBase_8 rfl ?_
      refine jG_iload_n F dX1_bringAllToBase_9 rfl ?_
      refine jG_iconst F (v := (-1 : Int32)) dX1_bringAllToBase_10 (by decide) ?_
      refine jG_iconst F (v := (-1 : Int32)) dX1_bringAllToBase_11 (by decide) ?_
      refine jc_X1_34 F dX1_bringAllToBase_12 (c_X1_bring hi (by omega)) (jpB_o hi) (by decide) (Nat.le_refl 0) (Nat.le_refl 0) (Nat.le_of_ble_eq_true rfl) ?_
      refine jG_iinc_1 F (w := nI (k + 1)) dX1_bringAllToBase_15 (jinc k) (by decide) ?_
      refine jG_goto F 2 dX1_bringAllToBase_18 (by decide) ?_
      exact ih
  exact loop 0 (by decide)
end BR
