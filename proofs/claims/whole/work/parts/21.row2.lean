/-! ===== Row: firstWrong, canComeTo, findPlaces ===== -/
section RX
variable {l : Launch} {E : jE} {h : List va_E} {r sz d : Nat} {ds rx ry : Nat → Int32} {pf ff fb : Int32} {U Y : jGT} {dn : Nat → Nat}
theorem c_X3_firstWrong {t : Int32} (hr : r + 13 < h.length) (hs : sz ≤ 24) (hd : ∀ i, i < sz → dn i < 16 ∧ ds i = nI (dn i)) : jMd l E yX3_firstWrong cX3_firstWrong 2 (some .int) 6 [.ref (E.1 + r), .int t] (jpF E h r ds rx ry sz pf ff fb U Y) (some (.int (jfw dn rx ry sz 0 (jsta Y t)).1)) (jpF E h r ds rx ry sz pf ff fb U (jfw dn rx ry sz 0 (jsta Y t)).2) 0 0 := by
  refine jMd_of (by decide) (Nat.le_of_ble_eq_true rfl) (by simp [Value.category]) (by simp [jpF_len]) (fun x hx F T hm => ?_)
  refine jG_aload_n F dX3_firstWrong_0 rfl ?_
  refine jg_X3_41 F dX3_firstWrong_1 (jpF_o hr) rfl ?_
  refine jG_iload_n F dX3_firstWrong_4 rfl ?_
  refine jc_X3_44 F dX3_firstWrong_5 (c_X3_startOver (jpF_T hr)) (by decide) (Nat.le_refl 0) (Nat.le_refl 0) (Nat.le_of_ble_eq_true rfl) ?_
  refine jG_aload_n F dX3_firstWrong_8 rfl ?_
  refine jG_aload_n F dX3_firstWrong_9 rfl ?_
  refine jg_X3_41 F dX3_firstWrong_10 (jpF_o hr) rfl ?_
  refine jG_iconst F (v := nI 0) dX3_firstWrong_13 (by decide) ?_
  refine jG_aload_n F dX3_firstWrong_14 rfl ?_
  refine jg_X3_21 F dX3_firstWrong_15 (jpF_o hr) rfl ?_
  refine jG_eq rfl (congrArg (fun z => [Value.int z, Value.int (nI 0), Value.ref (E.1 + (r + 9)), Value.ref (E.1 + r)]) (show nI sz = nI (0 + sz) by rw [Nat.zero_add])) rfl ?_
  refine jc_X3_48 F dX3_firstWrong_18 (c_X3_firstWrongIn (dn := dn) (fr := 0) (n := sz) (jpF_T hr) (by omega) (by show 0 < 4; decide) ((jpG_ne (by omega)).trans (jpR_o hr)) ((jpG_ne (by omega)).trans (jpR_1 hr)) ((jpG_ne (by omega)).trans (jpR_2 hr)) ((jpG_ne (by omega)).trans (jpR_3 hr)) (by omega) (fun i hi => hd i (by omega))) (jpF_o hr) (by decide) (Nat.le_refl 0) (Nat.le_refl 0) (Nat.le_of_ble_eq_true rfl) ?_
  exact jG_iret F T (rfl) rfl (by first | rfl | exact jnarb _ | (split <;> rfl)) dX3_firstWrong_21
abbrev jcc (dn : Nat → Nat) (rx ry : Nat → Int32) (sz gp : Nat) (U : jGT) (a b : Int32) : Prop := jmay U (dn gp) ∧ (jfw dn rx ry (sz - (gp + 1)) (gp + 1) (jfol U (dn gp) a b)).1 = -4
def jcT (dn : Nat → Nat) (rx ry : Nat → Int32) (sz gp : Nat) (U : jGT) (a b : Int32) : jGT := if jmay U (dn gp) then (jfw dn rx ry (sz - (gp + 1)) (gp + 1) (jfol U (dn gp) a b)).2 else U
theorem c_X3_canComeTo {gp : Nat} {a b : Int32} (hr : r + 13 < h.length) (hs : sz ≤ 24) (hgp : gp < sz) (hU : U.2.2.2.2.2.1 < 4) (hd : ∀ i, i < sz → dn i < 16 ∧ ds i = nI (dn i)) : jMd l E yX3_canComeTo cX3_canComeTo 4 (some .boolean) 5 [.ref (E.1 + r), .int (nI gp), .int a, .int b] (jpF E h r ds rx ry sz pf ff fb U Y) (some (.int (jB01 (jcc dn rx ry sz gp U a b)))) (jpF E h r ds rx ry sz pf ff fb U (jcT dn rx ry sz gp U a b)) 0 0 := by
  refine jMd_of (by decide) (Nat.le_of_ble_eq_true rfl) (by simp [Value.category]) (by simp [jpF_len]) (fun x hx F T hm => ?_)
  refine jG_aload_n F dX3_canComeTo_0 rfl ?_
  refine jg_X3_41 F dX3_canComeTo_1 (jpF_o hr) rfl ?_
  refine jG_aload_n F dX3_canComeTo_4 rfl ?_
  refine jg_X3_37 F dX3_canComeTo_5 (jpF_o hr) rfl ?_
  refine jc_X3_68 F dX3_canComeTo_8 (c_X2_copyFrom (B := U.1) (jpF_T hr) (by omega) (jpG_o (by rw [jpR_len]; omega)) (jisB_of (by rw [jpR_len]; omega))) (jpG_o (jpF_T hr)) (by decide) (Nat.le_refl 0) (Nat.le_refl 0) (Nat.le_of_ble_eq_true rfl) ?_
  refine jG_eq rfl rfl (show _ = jpF E h r ds rx ry sz pf ff fb U U from rfl) ?_
  refine jG_aload_n F dX3_canComeTo_11 rfl ?_
  refine jg_X3_41 F dX3_canComeTo_12 (jpF_o hr) rfl ?_
  refine jG_aload_n F dX3_canComeTo_15 rfl ?_
  refine jg_X3_9 F dX3_canComeTo_16 (jpF_o hr) rfl ?_
  refine jG_iload_n F dX3_canComeTo_19 rfl ?_
  refine jG_iald F dX3_canComeTo_20 (jpF_1 hr) rfl (by omega) (by decide) ?_
  refine jG_eq rfl (congrArg (fun z => [Value.int z, Value.ref (E.1 + (r + 9))]) (hd gp hgp).2) rfl ?_
  refine jG_iload_n F dX3_canComeTo_21 rfl ?_
  refine jG_iload_n F dX3_canComeTo_22 rfl ?_
  refine jc_X3_72 F dX3_canComeTo_23 (c_follow (G := U) (jpF_T hr) (hd gp hgp).1 hU) (jpG_o (jpF_T hr)) (by decide) (Nat.le_refl 0) (Nat.le_refl 0) (Nat.le_of_ble_eq_true rfl) ?_
  refine jG_if_eq F 53 dX3_canComeTo_26 (by decide) (fun q => ?_) (fun q => ?_)
  · have q := jB01_eq q
    refine jG_eq rfl rfl (show _ = jpF E h r ds rx ry sz pf ff fb U U by rw [if_neg q]) ?_
    rw [jB01_neg (fun z : jcc dn rx ry sz gp U a b => q z.1), show jcT dn rx ry sz gp U a b = U from if_neg q] at T
    refine jG_iconst F (v := (0 : Int32)) dX3_canComeTo_53 (by decide) ?_
    exact jG_iret F T (rfl) rfl (by first | rfl | exact jnarb _ | (split <;> rfl)) dX3_canComeTo_54
  · have q := jB01_ne q
    refine jG_eq rfl rfl (show _ = jpF E h r ds rx ry sz pf ff fb U (jfol U (dn gp) a b) by rw [if_pos q]) ?_
    rw [show jcT dn rx ry sz gp U a b = _ from if_pos q] at T
    refine jG_aload_n F dX3_canComeTo_29 rfl ?_
    refine jG_aload_n F dX3_canComeTo_30 rfl ?_
    refine jg_X3_41 F dX3_canComeTo_31 (jpF_o hr) rfl ?_
    refine jG_iload_n F dX3_canComeTo_34 rfl ?_
    refine jG_iconst F (v := nI 1) dX3_canComeTo_35 (by decide) ?_
    refine jG_iadd F dX3_canComeTo_36 ?_
    refine jG_aload_n F dX3_canComeTo_37 rfl ?_
    refine jg_X3_21 F dX3_canComeTo_38 (jpF_o hr) rfl ?_
    refine jG_eq rfl (show _ = [Value.int (nI (gp + 1 + (sz - (gp + 1)))), Value.int (nI (gp + 1)), Value.ref (E.1 + (r + 9)), Value.ref (E.1 + r)] by rw [show gp + 1 + (sz - (gp + 1)) = sz by omega, ← nI_add]) rfl ?_
    refine jc_X3_48 F dX3_canComeTo_41 (c_X3_firstWrongIn (dn := dn) (fr := gp + 1) (n := sz - (gp + 1)) (jpF_T hr) (by omega) (jfol_lt hU) ((jpG_ne (by omega)).trans (jpR_o hr)) ((jpG_ne (by omega)).trans (jpR_1 hr)) ((jpG_ne (by omega)).trans (jpR_2 hr)) ((jpG_ne (by omega)).trans (jpR_3 hr)) (by omega) (fun i hi => hd i (by omega))) (jpF_o hr) (by decide) (Nat.le_refl 0) (Nat.le_refl 0) (Nat.le_of_ble_eq_true rfl) ?_
    refine jG_bipush F (v := (-4 : Int32)) dX3_canComeTo_44 (by decide) ?_
    refine jG_icmp_ne F 53 dX3_canComeTo_46 (by decide) (fun q2 => ?_) (fun q2 => ?_)
    · rw [jB01_neg (fun z : jcc dn rx ry sz gp U a b => q2 z.2)] at T
      refine jG_iconst F (v := (0 : Int32)) dX3_canComeTo_53 (by decide) ?_
      exact jG_iret F T (rfl) rfl (by first | rfl | exact jnarb _ | (split <;> rfl)) dX3_canComeTo_54
    · rw [jB01_pos (show jcc dn rx ry sz gp U a b from ⟨q, q2⟩)] at T
      refine jG_iconst F (v := (1 : Int32)) dX3_canComeTo_49 (by decide) ?_
      refine jG_goto F 54 dX3_canComeTo_50 (by decide) ?_
      exact jG_iret F T (rfl) rfl (by first | rfl | exact jnarb _ | (split <;> rfl)) dX3_canComeTo_54
/-- findPlaces: what is counted, the first, the trial game -/
abbrev jFS : Type := Int32 × Int32 × jGT
def jcnt (a b : Int32) (S : jFS) : jFS := (S.1 + 1, if S.1 = 0 then 100 * a + b else S.2.1, S.2.2)
/-- one place of the mat -/
def jfp1 (dn : Nat → Nat) (rx ry : Nat → Int32) (sz gp : Nat) (U : jGT) (far : Prop) [Decidable far] (a b : Nat) (S : jFS) : jFS :=
  if jnr rx ry (nI a) (nI b) sz 0 = true then (if jcc dn rx ry sz gp U (nI a) (nI b) then jcnt (nI a) (nI b) (S.1, S.2.1, jcT dn rx ry sz gp U (nI a) (nI b)) else (S.1, S.2.1, jcT dn rx ry sz gp U (nI a) (nI b)))
  else (if far then jcnt (nI a) (nI b) S else S)
def jfpy (dn : Nat → Nat) (rx ry : Nat → Int32) (sz gp : Nat) (U : jGT) (far : Prop) [Decidable far] (a : Nat) (S : jFS) : Nat → jFS
  | 0 => S
  | b + 1 => jfp1 dn rx ry sz gp U far a b (jfpy dn rx ry sz gp U far a S b)
def jfpx (dn : Nat → Nat) (rx ry : Nat → Int32) (sz gp : Nat) (U : jGT) (far : Prop) [Decidable far] (S : jFS) : Nat → jFS
  | 0 => S
  | a + 1 => jfpy dn rx ry sz gp U far a (jfpx dn rx ry sz gp U far S a) 41
def jfpc (dn : Nat → Nat) (rx ry : Nat → Int32) (sz gp : Nat) (U : jGT) (S : jFS) : jFS :=
  if jcc dn rx ry sz gp U 41 41 then jcnt 41 41 (S.1, S.2.1, jcT dn rx ry sz gp U 41 41) else (S.1, S.2.1, jcT dn rx ry sz gp U 41 41)
/-- upToGap behind the shots ahead of the gap -/
abbrev jUp (dn : Nat → Nat) (rx ry : Nat → Int32) (gp : Nat) (U : jGT) (t : Int32) : Int32 × jGT := jfw dn rx ry gp 0 (jsta U t)
def jfpS (dn : Nat → Nat) (rx ry : Nat → Int32) (sz gp : Nat) (U : jGT) (Y : jGT) : jFS := jfpc dn rx ry sz gp U (jfpx dn rx ry sz gp U (jcc dn rx ry sz gp U (-1) (-1)) (0, -4, jcT dn rx ry sz gp U (-1) (-1)) 41)
abbrev jpFS (E : jE) (h : List va_E) (r : Nat) (ds rx ry : Nat → Int32) (sz : Nat) (fb : Int32) (U : jGT) (S : jFS) : List va_E := jpF E h r ds rx ry sz S.1 S.2.1 fb U S.2.2
theorem c_X3_findPlaces {gp : Nat} {t : Int32} (hr : r + 13 < h.length) (hs : sz ≤ 24) (hgp : gp < sz) (hd : ∀ i, i < sz → dn i < 16 ∧ ds i = nI (dn i)) : jMd l E yX3_findPlaces cX3_findPlaces 6 none 6 [.ref (E.1 + r), .int (nI gp), .int t] (jpF E h r ds rx ry sz pf ff fb U Y) none (if fb = t then jpF E h r ds rx ry sz pf ff fb U Y else if (jUp dn rx ry gp U t).1 = -4 then jpFS E h r ds rx ry sz t (jUp dn rx ry gp U t).2 (jfpS dn rx ry sz gp (jUp dn rx ry gp U t).2 Y) else jpF E h r ds rx ry sz 0 (-4) t (jUp dn rx ry gp U t).2 Y) 0 0 := by
  refine jMd_of (by decide) (Nat.le_of_ble_eq_true rfl) (by simp [Value.category]) (by (repeat' split) <;> simp [jpF_len]) (fun x hx F T hm => ?_)
  refine jG_aload_n F dX3_findPlaces_0 rfl ?_
  refine jg_X3_31 F dX3_findPlaces_1 (jpF_o hr) rfl ?_
  refine jG_iload_n F dX3_findPlaces_4 rfl ?_
  refine jG_icmp_ne F 9 dX3_findPlaces_5 (by decide) (fun q => ?_) (fun q => ?_)
  · rw [if_neg q] at T
    refine jG_aload_n F dX3_findPlaces_9 rfl ?_
    refine jG_iload_n F dX3_findPlaces_10 rfl ?_
    refine jp_X3_31 F dX3_findPlaces_11 (jpF_o hr) rfl rfl (Nat.le_of_ble_eq_true rfl) ?_
    refine jG_eq rfl rfl jpF_put_fb ?_
    refine jG_aload_n F dX3_findPlaces_14 rfl ?_
    refine jG_iconst F (v := 0) dX3_findPlaces_15 (by decide) ?_
    refine jp_X3_25 F dX3_findPlaces_16 (jpF_o hr) rfl rfl (Nat.le_of_ble_eq_true rfl) ?_
    refine jG_eq rfl rfl jpF_put_pf ?_
    refine jG_aload_n F dX3_findPlaces_19 rfl ?_
    refine jG_bipush F (v := (-4 : Int32)) dX3_findPlaces_20 (by decide) ?_
    refine jp_X3_28 F dX3_findPlaces_22 (jpF_o hr) rfl rfl (Nat.le_of_ble_eq_true rfl) ?_
    refine jG_eq rfl rfl jpF_put_ff ?_
    refine jG_aload_n F dX3_findPlaces_25 rfl ?_
    refine jg_X3_37 F dX3_findPlaces_26 (jpF_o hr) rfl ?_
    refine jG_iload_n F dX3_findPlaces_29 rfl ?_
    refine jG_eq rfl rfl jpF_comm ?_
    refine jc_X3_44 F dX3_findPlaces_30 (c_X3_startOver (jpF_U hr)) (by decide) (Nat.le_refl 0) (Nat.le_refl 0) (Nat.le_of_ble_eq_true rfl) ?_
    refine jG_eq rfl rfl jpF_comm.symm ?_
    refine jG_aload_n F dX3_findPlaces_33 rfl ?_
    refine jG_aload_n F dX3_findPlaces_34 rfl ?_
    refine jg_X3_37 F dX3_findPlaces_35 (jpF_o hr) rfl ?_
    refine jG_iconst F (v := nI 0) dX3_findPlaces_38 (by decide) ?_
    refine jG_iload_n F dX3_findPlaces_39 rfl ?_
    refine jG_eq rfl (show _ = [Value.int (nI (0 + gp)), Value.int (nI 0), Value.ref (E.1 + (r + 4)), Value.ref (E.1 + r)] by rw [Nat.zero_add]) jpF_comm ?_
    refine jc_X3_48 F dX3_findPlaces_40 (c_X3_firstWrongIn (dn := dn) (fr := 0) (n := gp) (jpF_U hr) (by omega) (by show 0 < 4; decide) ((jpG_ne (by omega)).trans (jpR_o hr)) ((jpG_ne (by omega)).trans (jpR_1 hr)) ((jpG_ne (by omega)).trans (jpR_2 hr)) ((jpG_ne (by omega)).trans (jpR_3 hr)) (by omega) (fun i hi => hd i (by omega))) ((jpG_ne (by omega)).trans ((jpG_ne (by omega)).trans (jpR_o hr))) (by decide) (Nat.le_refl 0) (Nat.le_refl 0) (Nat.le_of_ble_eq_true rfl) ?_
    refine jG_eq rfl rfl jpF_comm.symm ?_
    refine jG_bipush F (v := (-4 : Int32)) dX3_findPlaces_43 (by decide) ?_
    have hU : (jUp dn rx ry gp U t).2.2.2.2.2.2.1 < 4 := jfw_lt _ _ _ (by show 0 < 4; decide)
    generalize hUe : jUp dn rx ry gp U t = UU at T hU
    refine jG_eq (st2 := [.int (-4), .int UU.1]) (h2 := jpF E h r ds rx ry sz 0 (-4) t UU.2 Y) rfl (by rw [← hUe]) (by rw [← hUe]) ?_
    refine jG_icmp_eq F 49 dX3_findPlaces_45 (by decide) (fun q2 => ?_) (fun q2 => ?_)
    · rw [if_pos q2] at T
      refine jG_aload_n F dX3_findPlaces_49 rfl ?_
      refine jG_iload_n F dX3_findPlaces_50 rfl ?_
      refine jG_iconst F (v := (-1 : Int32)) dX3_findPlaces_51 (by decide) ?_
      refine jG_iconst F (v := (-1 : Int32)) dX3_findPlaces_52 (by decide) ?_
      refine jc_X3_52 F dX3_findPlaces_53 (c_X3_canComeTo (dn := dn) hr hs hgp hU hd) (jpF_o hr) (by decide) (Nat.le_refl 0) (Nat.le_refl 0) (Nat.le_of_ble_eq_true rfl) ?_
      refine jG_istore_n_3n F dX3_findPlaces_56 (by decide) ?_
      have outer : ∀ a, a ≤ 41 → ∀ rr : List Value, jG E x 0 0 60 (.ref (E.1 + r) :: .int (nI gp) :: .int t :: .int (jB01 (jcc dn rx ry sz gp UU.2 (-1) (-1))) :: .int (nI a) :: rr) [] (jpFS E h r ds rx ry sz t UU.2 (jfpx dn rx ry sz gp UU.2 (jcc dn rx ry sz gp UU.2 (-1) (-1)) (0, -4, jcT dn rx ry sz gp UU.2 (-1) (-1)) a)) := by
        refine jup 41 _ ?_ ?_
        · intro rr
          refine jG_iload F dX3_findPlaces_60 rfl ?_
          refine jG_bipush F (v := nI 40) dX3_findPlaces_62 (by decide) ?_
          refine jG_icmp_gt F 127 dX3_findPlaces_64 (by decide) (fun _ => ?_) (fun q => absurd (nI_lt (show 40 < 41 by decide) (by decide)) q)
          refine jG_aload_n F dX3_findPlaces_127 rfl ?_
          refine jG_iload_n F dX3_findPlaces_128 rfl ?_
          refine jG_bipush F (v := (41 : Int32)) dX3_findPlaces_129 (by decide) ?_
          refine jG_bipush F (v := (41 : Int32)) dX3_findPlaces_131 (by decide) ?_
          refine jc_X3_52 F dX3_findPlaces_133 (c_X3_canComeTo (dn := dn) hr hs hgp hU hd) (jpF_o hr) (by decide) (Nat.le_refl 0) (Nat.le_refl 0) (Nat.le_of_ble_eq_true rfl) ?_
          refine jG_if_eq F 147 dX3_findPlaces_136 (by decide) (fun q3 => ?_) (fun q3 => ?_)
          · have q3 := jB01_eq q3
            rw [show jfpS dn rx ry sz gp UU.2 Y = _ from if_neg q3] at T
            exact jG_ret F T (rfl) dX3_findPlaces_147
          · have q3 := jB01_ne q3
            rw [show jfpS dn rx ry sz gp UU.2 Y = _ from if_pos q3] at T
            refine jG_aload_n F dX3_findPlaces_139 rfl ?_
            refine jG_bipush F (v := (41 : Int32)) dX3_findPlaces_140 (by decide) ?_
            refine jG_bipush F (v := (41 : Int32)) dX3_findPlaces_142 (by decide) ?_
            refine jc_X3_60 F dX3_findPlaces_144 (c_X3_countPlace hr) (jpF_o hr) (by decide) (Nat.le_refl 0) (Nat.le_refl 0) (Nat.le_of_ble_eq_true rfl) ?_
            exact jG_ret F T (rfl) dX3_findPlaces_147
        · intro a ha iha rr
          refine jG_take 5 ?_
          refine jG_iload F dX3_findPlaces_60 rfl ?_
          refine jG_bipush F (v := nI 40) dX3_findPlaces_62 (by decide) ?_
          refine jG_icmp_gt F 127 dX3_findPlaces_64 (by decide) (fun q => absurd q (nI_nlt (show a ≤ 40 by omega) (by decide))) (fun _ => ?_)
          refine jG_iconst F (v := nI 0) dX3_findPlaces_67 (by decide) ?_
          refine jG_istore_5n F dX3_findPlaces_68 (by decide) ?_
          have inner : ∀ b, b ≤ 41 → jG E x 0 0 70 [.ref (E.1 + r), .int (nI gp), .int t, .int (jB01 (jcc dn rx ry sz gp UU.2 (-1) (-1))), .int (nI a), .int (nI b)] [] (jpFS E h r ds rx ry sz t UU.2 (jfpy dn rx ry sz gp UU.2 (jcc dn rx ry sz gp UU.2 (-1) (-1)) a (jfpx dn rx ry sz gp UU.2 (jcc dn rx ry sz gp UU.2 (-1) (-1)) (0, -4, jcT dn rx ry sz gp UU.2 (-1) (-1)) a) b)) := by
            refine jup 41 _ ?_ ?_
            · refine jG_iload F dX3_findPlaces_70 rfl ?_
              refine jG_bipush F (v := nI 40) dX3_findPlaces_72 (by decide) ?_
              refine jG_icmp_gt F 121 dX3_findPlaces_74 (by decide) (fun _ => ?_) (fun q => absurd (nI_lt (show 40 < 41 by decide) (by decide)) q)
              refine jG_iinc_4 F (w := nI (a + 1)) dX3_findPlaces_121 (jinc a) (by decide) ?_
              refine jG_goto F 60 dX3_findPlaces_124 (by decide) ?_
              exact iha _
            · intro b hb ihb
              refine jG_iload F dX3_findPlaces_70 rfl ?_
              refine jG_bipush F (v := nI 40) dX3_findPlaces_72 (by decide) ?_
              refine jG_icmp_gt F 121 dX3_findPlaces_74 (by decide) (fun q => absurd q (nI_nlt (show b ≤ 40 by omega) (by decide))) (fun _ => ?_)
              generalize jfpx dn rx ry sz gp UU.2 (jcc dn rx ry sz gp UU.2 (-1) (-1)) (0, -4, jcT dn rx ry sz gp UU.2 (-1) (-1)) a = S0 at ihb ⊢
              have es : jfpy dn rx ry sz gp UU.2 (jcc dn rx ry sz gp UU.2 (-1) (-1)) a S0 (b + 1) = jfp1 dn rx ry sz gp UU.2 (jcc dn rx ry sz gp UU.2 (-1) (-1)) a b (jfpy dn rx ry sz gp UU.2 (jcc dn rx ry sz gp UU.2 (-1) (-1)) a S0 b) := rfl
              rw [es] at ihb
              generalize jfpy dn rx ry sz gp UU.2 (jcc dn rx ry sz gp UU.2 (-1) (-1)) a S0 b = S at ihb ⊢
              refine jG_aload_n F dX3_findPlaces_77 rfl ?_
              refine jG_iload F dX3_findPlaces_78 rfl ?_
              refine jG_iload F dX3_findPlaces_80 rfl ?_
              refine jc_X3_56 F dX3_findPlaces_82 (c_X3_isNearWritten hr hs) (jpF_o hr) (by decide) (Nat.le_refl 0) (Nat.le_refl 0) (Nat.le_of_ble_eq_true rfl) ?_
              refine jG_if_eq F 103 dX3_findPlaces_85 (by decide) (fun q3 => ?_) (fun q3 => ?_)
              · have q3 := jB01_eq q3
                refine jG_iload_n F dX3_findPlaces_103 rfl ?_
                refine jG_if_eq F 115 dX3_findPlaces_104 (by decide) (fun q4 => ?_) (fun q4 => ?_)
                · have q4 := jB01_eq q4
                  rw [show jfp1 dn rx ry sz gp UU.2 (jcc dn rx ry sz gp UU.2 (-1) (-1)) a b S = S from (if_neg q3).trans (if_neg q4)] at ihb
                  refine jG_iinc_5 F (w := nI (b + 1)) dX3_findPlaces_115 (jinc b) (by decide) ?_
                  refine jG_goto F 70 dX3_findPlaces_118 (by decide) ?_
                  exact ihb
                · have q4 := jB01_ne q4
                  rw [show jfp1 dn rx ry sz gp UU.2 (jcc dn rx ry sz gp UU.2 (-1) (-1)) a b S = jcnt (nI a) (nI b) S from (if_neg q3).trans (if_pos q4)] at ihb
                  refine jG_aload_n F dX3_findPlaces_107 rfl ?_
                  refine jG_iload F dX3_findPlaces_108 rfl ?_
                  refine jG_iload F dX3_findPlaces_110 rfl ?_
                  refine jc_X3_60 F dX3_findPlaces_112 (c_X3_countPlace hr) (jpF_o hr) (by decide) (Nat.le_refl 0) (Nat.le_refl 0) (Nat.le_of_ble_eq_true rfl) ?_
                  refine jG_iinc_5 F (w := nI (b + 1)) dX3_findPlaces_115 (jinc b) (by decide) ?_
                  refine jG_goto F 70 dX3_findPlaces_118 (by decide) ?_
                  exact ihb
              · have q3 := jB01_ne q3
                refine jG_aload_n F dX3_findPlaces_88 rfl ?_
                refine jG_iload_n F dX3_findPlaces_89 rfl ?_
                refine jG_iload F dX3_findPlaces_90 rfl ?_
                refine jG_iload F dX3_findPlaces_92 rfl ?_
                refine jc_X3_52 F dX3_findPlaces_94 (c_X3_canComeTo (dn := dn) hr hs hgp hU hd) (jpF_o hr) (by decide) (Nat.le_refl 0) (Nat.le_refl 0) (Nat.le_of_ble_eq_true rfl) ?_
                refine jG_if_eq F 115 dX3_findPlaces_97 (by decide) (fun q4 => ?_) (fun q4 => ?_)
                · have q4 := jB01_eq q4
                  rw [show jfp1 dn rx ry sz gp UU.2 (jcc dn rx ry sz gp UU.2 (-1) (-1)) a b S = (S.1, S.2.1, jcT dn rx ry sz gp UU.2 (nI a) (nI b)) from (if_pos q3).trans (if_neg q4)] at ihb
                  refine jG_iinc_5 F (w := nI (b + 1)) dX3_findPlaces_115 (jinc b) (by decide) ?_
                  refine jG_goto F 70 dX3_findPlaces_118 (by decide) ?_
                  exact ihb
                · have q4 := jB01_ne q4
                  rw [show jfp1 dn rx ry sz gp UU.2 (jcc dn rx ry sz gp UU.2 (-1) (-1)) a b S = jcnt (nI a) (nI b) (S.1, S.2.1, jcT dn rx ry sz gp UU.2 (nI a) (nI b)) from (if_pos q3).trans (if_pos q4)] at ihb
                  refine jG_goto F 107 dX3_findPlaces_100 (by decide) ?_
                  refine jG_aload_n F dX3_findPlaces_107 rfl ?_
                  refine jG_iload F dX3_findPlaces_108 rfl ?_
                  refine jG_iload F dX3_findPlaces_110 rfl ?_
                  refine jc_X3_60 F dX3_findPlaces_112 (c_X3_countPlace hr) (jpF_o hr) (by decide) (Nat.le_refl 0) (Nat.le_refl 0) (Nat.le_of_ble_eq_true rfl) ?_
                  refine jG_iinc_5 F (w := nI (b + 1)) dX3_findPlaces_115 (jinc b) (by decide) ?_
                  refine jG_goto F 70 dX3_findPlaces_118 (by decide) ?_
                  exact ihb
          exact inner 0 (by decide)
      refine jG_iconst F (v := nI 0) dX3_findPlaces_57 (by decide) ?_
      refine jG_istore_4n F dX3_findPlaces_58 (by decide) ?_
      exact outer 0 (by decide) []
    · rw [if_neg q2] at T
      exact jG_ret F T (rfl) dX3_findPlaces_48
  · rw [if_pos q] at T
    exact jG_ret F T (rfl) dX3_findPlaces_8
end RX
