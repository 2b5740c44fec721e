/-! ===== Adviser ===== -/
abbrev jao (dc am wo : Int32) : va_E := .inr (0, [.int dc, .int am, .int wo])
abbrev jpA (E : jE) (h : List va_E) (a i : Nat) (xs ys cv : Nat → Int32) (ly cu cd dc am wo : Int32) : List va_E := jp6 E (h.set a (jao dc am wo)) i xs ys cv ly cu cd
def jmx1 (v : Int32) : Int32 := if 1 < v then v else 1
def jcup2 (xs ys : Nat → Int32) (d : Nat) : Int32 := jway (xs d) (ys d) 20 20
def jchP (xs ys : Nat → Int32) (d : Nat) : Int32 := jmx1 (36 - jcup2 xs ys d)
def jchD (xs ys : Nat → Int32) (d o : Nat) : Int32 := jmx1 (36 - (if nI d < 8 then 2 * jway (xs d) (ys d) (xs o) (ys o) else jway (xs d) (ys d) (xs o) (ys o)))
def jgaP (ly cu : Int32) (d : Nat) : Int32 := if ¬ jts ly d ∧ ¬ jts cu d then 3 else 2
def jgaD (xs ys cv : Nat → Int32) (d o : Nat) : Int32 := 1 + (if 6 < jcup2 xs ys o then 0 else 1) + jbc (jorI 0 (fun k => decide (jts (cv k) o)) 16 &&& ((21845 : Int32) <<< (nI (d % 2) &&& 31)))
def jwei (d am pr : Int32) (q : Int32 × Int32 × Int32) : Int32 × Int32 × Int32 := if q.2.2 < pr then (d, am, pr) else q
abbrev jodd (v : Int32) : Prop := ¬ v - v / 2 * 2 = 0
/-- weighAims: what stands behind the first k aims -/
def jwA (xs ys cv : Nat → Int32) (ly cu cd : Int32) (d : Nat) (q : Int32 × Int32 × Int32) : Nat → Int32 × Int32 × Int32
  | 0 => jwei (nI d) (-1) (jchP xs ys d * jgaP ly cu d) q
  | k + 1 => if jodd (nI k - nI d) ∧ jts ly k ∧ (cu ||| cd) &&& jbit k = 0 then jwei (nI d) (nI k) (jchD xs ys d k * jgaD xs ys cv d k) (jwA xs ys cv ly cu cd d q k) else jwA xs ys cv ly cu cd d q k
def jwB (xs ys cv : Nat → Int32) (ly cu cd : Int32) (p : Nat) (q : Int32 × Int32 × Int32) : Nat → Int32 × Int32 × Int32
  | 0 => (q.1, q.2.1, 0)
  | k + 1 => if (cu ||| cd) &&& jbit (p + 4 * k) = 0 then jwA xs ys cv ly cu cd (p + 4 * k) (jwB xs ys cv ly cu cd p q k) 16 else jwB xs ys cv ly cu cd p q k
abbrev jpAq (E : jE) (h : List va_E) (a i : Nat) (xs ys cv : Nat → Int32) (ly cu cd : Int32) (q : Int32 × Int32 × Int32) : List va_E := jpA E h a i xs ys cv ly cu cd q.1 q.2.1 q.2.2
section AV0
variable {E : jE} {h : List va_E} {a i : Nat} {xs ys cv : Nat → Int32} {ly cu cd dc am wo v : Int32}
theorem jhA {e : va_E} (hi : i + 3 < h.length) : i + 3 < (h.set a e).length := by rw [List.length_set]; exact hi
theorem jpA_o (ha : a < h.length) (hai : a < i ∨ i + 3 < a) : (jpA E h a i xs ys cv ly cu cd dc am wo)[a]? = some (jao dc am wo) := by
  rw [jpB_ne (by omega) (by omega) (by omega) (by omega)]
  simp [ha]
theorem jpA_put {e : va_E} (hai : a < i ∨ i + 3 < a) : (jpA E h a i xs ys cv ly cu cd dc am wo).set a e = jp6 E (h.set a e) i xs ys cv ly cu cd := by
  rw [jp6_set_ne (by omega) (by omega) (by omega) (by omega), List.set_set]
theorem jpA_len : (jpA E h a i xs ys cv ly cu cd dc am wo).length = h.length := by rw [jpB_len, List.length_set]
theorem jpA_put_disc (hai : a < i ∨ i + 3 < a) : (jpA E h a i xs ys cv ly cu cd dc am wo).set a (.inr (0, [.int dc, .int am, .int wo].set 0 (.int v))) = jpA E h a i xs ys cv ly cu cd v am wo := jpA_put hai
theorem jpA_put_aim (hai : a < i ∨ i + 3 < a) : (jpA E h a i xs ys cv ly cu cd dc am wo).set a (.inr (0, [.int dc, .int am, .int wo].set 1 (.int v))) = jpA E h a i xs ys cv ly cu cd dc v wo := jpA_put hai
theorem jpA_put_worth (hai : a < i ∨ i + 3 < a) : (jpA E h a i xs ys cv ly cu cd dc am wo).set a (.inr (0, [.int dc, .int am, .int wo].set 2 (.int v))) = jpA E h a i xs ys cv ly cu cd dc am v := jpA_put hai
end AV0
section AV
variable {l : Launch} {E : jE} {h : List va_E} {a i d o : Nat} {xs ys cv : Nat → Int32} {ly cu cd dc am wo : Int32}
theorem c_X0_wayToCup (hi : i + 3 < h.length) (hd : d < 16) : jMd l E yX0_wayToCup cX0_wayToCup 2 (some .int) 2 [.ref (E.1 + i), .int (nI d)] (jp6 E h i xs ys cv ly cu cd) (some (.int (jcup2 xs ys d))) (jp6 E h i xs ys cv ly cu cd) 0 0 := by
  refine jMd_of (by decide) (Nat.le_of_ble_eq_true rfl) (by simp [Value.category]) (by first | rfl | simp [jpB_len]) (fun x hx F T hm => ?_)
  refine jG_aload_n F dX0_wayToCup_0 rfl ?_
  refine jg_X0_55 F dX0_wayToCup_1 (jpB_o hi) rfl ?_
  refine jG_iload_n F dX0_wayToCup_4 rfl ?_
  refine jG_iald F dX0_wayToCup_5 (jpB_x hi) rfl (by omega) (by decide) ?_
  refine jG_aload_n F dX0_wayToCup_6 rfl ?_
  refine jg_X0_59 F dX0_wayToCup_7 (jpB_o hi) rfl ?_
  refine jG_iload_n F dX0_wayToCup_10 rfl ?_
  refine jG_iald F dX0_wayToCup_11 (jpB_y hi) rfl (by omega) (by decide) ?_
  refine jG_bipush F (v := (20 : Int32)) dX0_wayToCup_12 (by decide) ?_
  refine jG_bipush F (v := (20 : Int32)) dX0_wayToCup_14 (by decide) ?_
  refine jc_X0_62 F dX0_wayToCup_16 (c_X5_wayBetween) (by decide) (Nat.le_refl 0) (Nat.le_refl 0) (Nat.le_of_ble_eq_true rfl) ?_
  exact jG_iret F T (rfl) rfl (by first | rfl | exact jnarb _ | (split <;> rfl)) dX0_wayToCup_19
theorem c_X0_chanceOfP (hi : i + 3 < h.length) (hd : d < 16) : jMd l E yX0_chanceOf cX0_chanceOf 4 (some .int) 3 [.ref (E.1 + i), .int (nI d), .int (-1)] (jp6 E h i xs ys cv ly cu cd) (some (.int (jchP xs ys d))) (jp6 E h i xs ys cv ly cu cd) 0 0 := by
  refine jMd_of (by decide) (Nat.le_of_ble_eq_true rfl) (by simp [Value.category]) (by first | rfl | simp [jpB_len]) (fun x hx F T hm => ?_)
  refine jG_iload_n F dX0_chanceOf_0 rfl ?_
  refine jG_iconst F (v := (-1 : Int32)) dX0_chanceOf_1 (by decide) ?_
  refine jG_icmp_ne F 18 dX0_chanceOf_2 (by decide) (fun q => absurd q (fun z => z rfl)) (fun _ => ?_)
  refine jG_iconst F (v := (1 : Int32)) dX0_chanceOf_5 (by decide) ?_
  refine jG_bipush F (v := (36 : Int32)) dX0_chanceOf_6 (by decide) ?_
  refine jG_aload_n F dX0_chanceOf_8 rfl ?_
  refine jG_iload_n F dX0_chanceOf_9 rfl ?_
  refine jc_X0_45 F dX0_chanceOf_10 (c_X0_wayToCup hi (by omega)) (by decide) (Nat.le_refl 0) (Nat.le_refl 0) (Nat.le_of_ble_eq_true rfl) ?_
  refine jG_isub F dX0_chanceOf_13 ?_
  refine jc_X0_49 F dX0_chanceOf_14 (by decide) (Nat.le_of_ble_eq_true rfl) ?_
  exact jG_iret F T (rfl) rfl (by first | rfl | exact jnarb _ | (split <;> rfl)) dX0_chanceOf_17
theorem jneg1 {o : Nat} (ho : o < 16) : ¬ nI o = -1 := by
  intro z
  have h1 : (nI o).toInt = o := nI_toInt (by omega)
  rw [z] at h1
  have h2 : (-1 : Int32).toInt = -1 := by decide
  omega
theorem c_X0_chanceOfD (hi : i + 3 < h.length) (hd : d < 16) (ho : o < 16) : jMd l E yX0_chanceOf cX0_chanceOf 4 (some .int) 3 [.ref (E.1 + i), .int (nI d), .int (nI o)] (jp6 E h i xs ys cv ly cu cd) (some (.int (jchD xs ys d o))) (jp6 E h i xs ys cv ly cu cd) 0 0 := by
  refine jMd_of (by decide) (Nat.le_of_ble_eq_true rfl) (by simp [Value.category]) (by first | rfl | simp [jpB_len]) (fun x hx F T hm => ?_)
  refine jG_iload_n F dX0_chanceOf_0 rfl ?_
  refine jG_iconst F (v := (-1 : Int32)) dX0_chanceOf_1 (by decide) ?_
  refine jG_icmp_ne F 18 dX0_chanceOf_2 (by decide) (fun _ => ?_) (fun q => absurd q (jneg1 ho))
  refine jG_aload_n F dX0_chanceOf_18 rfl ?_
  refine jg_X0_55 F dX0_chanceOf_19 (jpB_o hi) rfl ?_
  refine jG_iload_n F dX0_chanceOf_22 rfl ?_
  refine jG_iald F dX0_chanceOf_23 (jpB_x hi) rfl (by omega) (by decide) ?_
  refine jG_aload_n F dX0_chanceOf_24 rfl ?_
  refine jg_X0_59 F dX0_chanceOf_25 (jpB_o hi) rfl ?_
  refine jG_iload_n F dX0_chanceOf_28 rfl ?_
  refine jG_iald F dX0_chanceOf_29 (jpB_y hi) rfl (by omega) (by decide) ?_
  refine jG_aload_n F dX0_chanceOf_30 rfl ?_
  refine jg_X0_55 F dX0_chanceOf_31 (jpB_o hi) rfl ?_
  refine jG_iload_n F dX0_chanceOf_34 rfl ?_
  refine jG_iald F dX0_chanceOf_35 (jpB_x hi) rfl (by omega) (by decide) ?_
  refine jG_aload_n F dX0_chanceOf_36 rfl ?_
  refine jg_X0_59 F dX0_chanceOf_37 (jpB_o hi) rfl ?_
  refine jG_iload_n F dX0_chanceOf_40 rfl ?_
  refine jG_iald F dX0_chanceOf_41 (jpB_y hi) rfl (by omega) (by decide) ?_
  refine jc_X0_62 F dX0_chanceOf_42 (c_X5_wayBetween) (by decide) (Nat.le_refl 0) (Nat.le_refl 0) (Nat.le_of_ble_eq_true rfl) ?_
  refine jG_istore_n_3n F dX0_chanceOf_45 (by decide) ?_
  refine jG_iconst F (v := (1 : Int32)) dX0_chanceOf_46 (by decide) ?_
  refine jG_bipush F (v := (36 : Int32)) dX0_chanceOf_47 (by decide) ?_
  refine jG_iload_n F dX0_chanceOf_49 rfl ?_
  refine jG_bipush F (v := (8 : Int32)) dX0_chanceOf_50 (by decide) ?_
  refine jG_icmp_ge F 61 dX0_chanceOf_52 (by decide) (fun q => ?_) (fun q => ?_)
  · refine jG_iload_n F dX0_chanceOf_61 rfl ?_
    refine jG_isub F dX0_chanceOf_62 ?_
    refine jc_X0_49 F dX0_chanceOf_63 (by decide) (Nat.le_of_ble_eq_true rfl) ?_
    exact jG_iret F T (by rw [jchD, if_neg (Int32.not_lt.mpr q)]; rfl) rfl (by first | rfl | exact jnarb _ | (split <;> rfl)) dX0_chanceOf_66
  · refine jG_iconst F (v := (2 : Int32)) dX0_chanceOf_55 (by decide) ?_
    refine jG_iload_n F dX0_chanceOf_56 rfl ?_
    refine jG_imul F dX0_chanceOf_57 ?_
    refine jG_goto F 62 dX0_chanceOf_58 (by decide) ?_
    refine jG_isub F dX0_chanceOf_62 ?_
    refine jc_X0_49 F dX0_chanceOf_63 (by decide) (Nat.le_of_ble_eq_true rfl) ?_
    exact jG_iret F T (by rw [jchD, if_pos (Int32.not_le.mp q)]; rfl) rfl (by first | rfl | exact jnarb _ | (split <;> rfl)) dX0_chanceOf_66
theorem c_X0_gainOfP (hi : i + 3 < h.length) (hd : d < 16) : jMd l E yX0_gainOf cX0_gainOf 5 (some .int) 3 [.ref (E.1 + i), .int (nI d), .int (-1)] (jp6 E h i xs ys cv ly cu cd) (some (.int (jgaP ly cu d))) (jp6 E h i xs ys cv ly cu cd) 0 0 := by
  refine jMd_of (by decide) (Nat.le_of_ble_eq_true rfl) (by simp [Value.category]) (by first | rfl | simp [jpB_len]) (fun x hx F T hm => ?_)
  refine jG_iload_n F dX0_gainOf_0 rfl ?_
  refine jG_iconst F (v := (-1 : Int32)) dX0_gainOf_1 (by decide) ?_
  refine jG_icmp_ne F 19 dX0_gainOf_2 (by decide) (fun q => absurd q (fun z => z rfl)) (fun _ => ?_)
  refine jG_aload_n F dX0_gainOf_5 rfl ?_
  refine jG_iload_n F dX0_gainOf_6 rfl ?_
  refine jc_X0_66 F dX0_gainOf_7 (c_X1_isAtBase hi) (jpB_o hi) (by decide) (Nat.le_refl 0) (Nat.le_refl 0) (Nat.le_of_ble_eq_true rfl) ?_
  refine jG_if_eq F 17 dX0_gainOf_10 (by decide) (fun q => ?_) (fun q => ?_)
  · have q := jB01_eq q
    refine jG_iconst F (v := (2 : Int32)) dX0_gainOf_17 (by decide) ?_
    exact jG_iret F T ((if_neg q).symm) rfl (by first | rfl | exact jnarb _ | (split <;> rfl)) dX0_gainOf_18
  · have q := jB01_ne q
    refine jG_iconst F (v := (3 : Int32)) dX0_gainOf_13 (by decide) ?_
    refine jG_goto F 18 dX0_gainOf_14 (by decide) ?_
    exact jG_iret F T ((if_pos q).symm) rfl (by first | rfl | exact jnarb _ | (split <;> rfl)) dX0_gainOf_18
theorem c_X0_gainOfD (hi : i + 3 < h.length) (hd : d < 16) (ho : o < 16) : jMd l E yX0_gainOf cX0_gainOf 5 (some .int) 3 [.ref (E.1 + i), .int (nI d), .int (nI o)] (jp6 E h i xs ys cv ly cu cd) (some (.int (jgaD xs ys cv d o))) (jp6 E h i xs ys cv ly cu cd) 0 0 := by
  refine jMd_of (by decide) (Nat.le_of_ble_eq_true rfl) (by simp [Value.category]) (by first | rfl | simp [jpB_len]) (fun x hx F T hm => ?_)
  refine jG_iload_n F dX0_gainOf_0 rfl ?_
  refine jG_iconst F (v := (-1 : Int32)) dX0_gainOf_1 (by decide) ?_
  refine jG_icmp_ne F 19 dX0_gainOf_2 (by decide) (fun _ => ?_) (fun q => absurd q (jneg1 ho))
  refine jG_aload_n F dX0_gainOf_19 rfl ?_
  refine jG_iload_n F dX0_gainOf_20 rfl ?_
  refine jc_X0_45 F dX0_gainOf_21 (c_X0_wayToCup hi (by omega)) (by decide) (Nat.le_refl 0) (Nat.le_refl 0) (Nat.le_of_ble_eq_true rfl) ?_
  refine jG_bipush F (v := (6 : Int32)) dX0_gainOf_24 (by decide) ?_
  have e : nI d - nI d / nI 2 * nI 2 = nI (d % 2) := pk_rem (by omega) (by decide) (by decide)
  refine jG_icmp_gt F 33 dX0_gainOf_26 (by decide) (fun q => ?_) (fun q => ?_)
  · refine jG_iconst F (v := (0 : Int32)) dX0_gainOf_33 (by decide) ?_
    refine jG_istore_n_3n F dX0_gainOf_34 (by decide) ?_
    refine jG_sipush F (v := (21845 : Int32)) dX0_gainOf_35 (by decide) ?_
    refine jG_iload_n F dX0_gainOf_38 rfl ?_
    refine jG_iconst F (v := nI 2) dX0_gainOf_39 (by decide) ?_
    refine jG_irem F dX0_gainOf_40 (by decide) ?_
    refine jG_ishl F dX0_gainOf_41 ?_
    refine jG_istore_4n F dX0_gainOf_42 (by decide) ?_
    refine jG_iconst F (v := (1 : Int32)) dX0_gainOf_44 (by decide) ?_
    refine jG_iload_n F dX0_gainOf_45 rfl ?_
    refine jG_iadd F dX0_gainOf_46 ?_
    refine jG_aload_n F dX0_gainOf_47 rfl ?_
    refine jG_iload_n F dX0_gainOf_48 rfl ?_
    refine jc_X0_69 F dX0_gainOf_49 (c_X1_coveredBy hi) (jpB_o hi) (by decide) (Nat.le_refl 0) (Nat.le_refl 0) (Nat.le_of_ble_eq_true rfl) ?_
    refine jG_iload F dX0_gainOf_52 rfl ?_
    refine jG_iand F dX0_gainOf_54 ?_
    refine jc_X0_73 F dX0_gainOf_55 (c_J6_bitCount_0f7a4) (by decide) (Nat.le_refl 0) (Nat.le_refl 0) (Nat.le_of_ble_eq_true rfl) ?_
    refine jG_iadd F dX0_gainOf_58 ?_
    exact jG_iret F T (by rw [jgaD, if_pos q, e]) rfl (by first | rfl | exact jnarb _ | (split <;> rfl)) dX0_gainOf_59
  · refine jG_iconst F (v := (1 : Int32)) dX0_gainOf_29 (by decide) ?_
    refine jG_goto F 34 dX0_gainOf_30 (by decide) ?_
    refine jG_istore_n_3n F dX0_gainOf_34 (by decide) ?_
    refine jG_sipush F (v := (21845 : Int32)) dX0_gainOf_35 (by decide) ?_
    refine jG_iload_n F dX0_gainOf_38 rfl ?_
    refine jG_iconst F (v := nI 2) dX0_gainOf_39 (by decide) ?_
    refine jG_irem F dX0_gainOf_40 (by decide) ?_
    refine jG_ishl F dX0_gainOf_41 ?_
    refine jG_istore_4n F dX0_gainOf_42 (by decide) ?_
    refine jG_iconst F (v := (1 : Int32)) dX0_gainOf_44 (by decide) ?_
    refine jG_iload_n F dX0_gainOf_45 rfl ?_
    refine jG_iadd F dX0_gainOf_46 ?_
    refine jG_aload_n F dX0_gainOf_47 rfl ?_
    refine jG_iload_n F dX0_gainOf_48 rfl ?_
    refine jc_X0_69 F dX0_gainOf_49 (c_X1_coveredBy hi) (jpB_o hi) (by decide) (Nat.le_refl 0) (Nat.le_refl 0) (Nat.le_of_ble_eq_true rfl) ?_
    refine jG_iload F dX0_gainOf_52 rfl ?_
    refine jG_iand F dX0_gainOf_54 ?_
    refine jc_X0_73 F dX0_gainOf_55 (c_J6_bitCount_0f7a4) (by decide) (Nat.le_refl 0) (Nat.le_refl 0) (Nat.le_of_ble_eq_true rfl) ?_
    refine jG_iadd F dX0_gainOf_58 ?_
    exact jG_iret F T (by rw [jgaD, if_neg q, e]) rfl (by first | rfl | exact jnarb _ | (split <;> rfl)) dX0_gainOf_59
theorem c_X0_weighP (ha : a < h.length) (hi : i + 3 < h.length) (hai : a < i ∨ i + 3 < a) (hd : d < 16) : jMd l E yX0_weigh cX0_weigh 5 none 4 [.ref (E.1 + a), .ref (E.1 + i), .int (nI d), .int (-1)] (jpA E h a i xs ys cv ly cu cd dc am wo) none (jpAq E h a i xs ys cv ly cu cd (jwei (nI d) (-1) (jchP xs ys d * jgaP ly cu d) (dc, am, wo))) 0 0 := by
  refine jMd_of (by decide) (Nat.le_of_ble_eq_true rfl) (by simp [Value.category]) (by first | rfl | simp [jpA_len, jpB_len]) (fun x hx F T hm => ?_)
  refine jG_aload_n F dX0_weigh_0 rfl ?_
  refine jG_iload_n F dX0_weigh_1 rfl ?_
  refine jG_iload_n F dX0_weigh_2 rfl ?_
  refine jc_X0_38 F dX0_weigh_3 (c_X0_chanceOfP (jhA hi) hd) (by decide) (Nat.le_refl 0) (Nat.le_refl 0) (Nat.le_of_ble_eq_true rfl) ?_
  refine jG_aload_n F dX0_weigh_6 rfl ?_
  refine jG_iload_n F dX0_weigh_7 rfl ?_
  refine jG_iload_n F dX0_weigh_8 rfl ?_
  refine jc_X0_42 F dX0_weigh_9 (c_X0_gainOfP (jhA hi) hd) (by decide) (Nat.le_refl 0) (Nat.le_refl 0) (Nat.le_of_ble_eq_true rfl) ?_
  refine jG_imul F dX0_weigh_12 ?_
  refine jG_istore_4n F dX0_weigh_13 (by decide) ?_
  refine jG_iload F dX0_weigh_15 rfl ?_
  refine jG_aload_n F dX0_weigh_17 rfl ?_
  refine jg_X0_18 F dX0_weigh_18 (jpA_o ha hai) rfl ?_
  refine jG_icmp_le F 40 dX0_weigh_21 (by decide) (fun q => ?_) (fun q => ?_)
  · rw [show jwei (nI d) (-1) (jchP xs ys d * jgaP ly cu d) (dc, am, wo) = (dc, am, wo) from if_neg (Int32.not_lt.mpr q)] at T
    exact jG_ret F T (rfl) dX0_weigh_40
  · rw [show jwei (nI d) (-1) (jchP xs ys d * jgaP ly cu d) (dc, am, wo) = (nI d, -1, jchP xs ys d * jgaP ly cu d) from if_pos (Int32.not_le.mp q)] at T
    refine jG_aload_n F dX0_weigh_24 rfl ?_
    refine jG_iload_n F dX0_weigh_25 rfl ?_
    refine jp_X0_9 F dX0_weigh_26 (jpA_o ha hai) rfl rfl (Nat.le_of_ble_eq_true rfl) ?_
    refine jG_eq rfl rfl (jpA_put_disc hai) ?_
    refine jG_aload_n F dX0_weigh_29 rfl ?_
    refine jG_iload_n F dX0_weigh_30 rfl ?_
    refine jp_X0_15 F dX0_weigh_31 (jpA_o ha hai) rfl rfl (Nat.le_of_ble_eq_true rfl) ?_
    refine jG_eq rfl rfl (jpA_put_aim hai) ?_
    refine jG_aload_n F dX0_weigh_34 rfl ?_
    refine jG_iload F dX0_weigh_35 rfl ?_
    refine jp_X0_18 F dX0_weigh_37 (jpA_o ha hai) rfl rfl (Nat.le_of_ble_eq_true rfl) ?_
    refine jG_eq rfl rfl (jpA_put_worth hai) ?_
    exact jG_ret F T (rfl) dX0_weigh_40
theorem c_X0_weighD (ha : a < h.length) (hi : i + 3 < h.length) (hai : a < i ∨ i + 3 < a) (hd : d < 16) (ho : o < 16) : jMd l E yX0_weigh cX0_weigh 5 none 4 [.ref (E.1 + a), .ref (E.1 + i), .int (nI d), .int (nI o)] (jpA E h a i xs ys cv ly cu cd dc am wo) none (jpAq E h a i xs ys cv ly cu cd (jwei (nI d) (nI o) (jchD xs ys d o * jgaD xs ys cv d o) (dc, am, wo))) 0 0 := by
  refine jMd_of (by decide) (Nat.le_of_ble_eq_true rfl) (by simp [Value.category]) (by first | rfl | simp [jpA_len, jpB_len]) (fun x hx F T hm => ?_)
  refine jG_aload_n F dX0_weigh_0 rfl ?_
  refine jG_iload_n F dX0_weigh_1 rfl ?_
  refine jG_iload_n F dX0_weigh_2 rfl ?_
  refine jc_X0_38 F dX0_weigh_3 (c_X0_chanceOfD (jhA hi) hd ho) (by decide) (Nat.le_refl 0) (Nat.le_refl 0) (Nat.le_of_ble_eq_true rfl) ?_
  refine jG_aload_n F dX0_weigh_6 rfl ?_
  refine jG_iload_n F dX0_weigh_7 rfl ?_
  refine jG_iload_n F dX0_weigh_8 rfl ?_
  refine jc_X0_42 F dX0_weigh_9 (c_X0_gainOfD (jhA hi) hd ho) (by decide) (Nat.le_refl 0) (Nat.le_refl 0) (Nat.le_of_ble_eq_true rfl) ?_
  refine jG_imul F dX0_weigh_12 ?_
  refine jG_istore_4n F dX0_weigh_13 (by decide) ?_
  refine jG_iload F dX0_weigh_15 rfl ?_
  refine jG_aload_n F dX0_weigh_17 rfl ?_
  refine jg_X0_18 F dX0_weigh_18 (jpA_o ha hai) rfl ?_
  refine jG_icmp_le F 40 dX0_weigh_21 (by decide) (fun q => ?_) (fun q => ?_)
  · rw [show jwei (nI d) (nI o) (jchD xs ys d o * jgaD xs ys cv d o) (dc, am, wo) = (dc, am, wo) from if_neg (Int32.not_lt.mpr q)] at T
    exact jG_ret F T (rfl) dX0_weigh_40
  · rw [show jwei (nI d) (nI o) (jchD xs ys d o * jgaD xs ys cv d o) (dc, am, wo) = (nI d, nI o, jchD xs ys d o * jgaD xs ys cv d o) from if_pos (Int32.not_le.mp q)] at T
    refine jG_aload_n F dX0_weigh_24 rfl ?_
    refine jG_iload_n F dX0_weigh_25 rfl ?_
    refine jp_X0_9 F dX0_weigh_26 (jpA_o ha hai) rfl rfl (Nat.le_of_ble_eq_true rfl) ?_
    refine jG_eq rfl rfl (jpA_put_disc hai) ?_
    refine jG_aload_n F dX0_weigh_29 rfl ?_
    refine jG_iload_n F dX0_weigh_30 rfl ?_
    refine jp_X0_15 F dX0_weigh_31 (jpA_o ha hai) rfl rfl (Nat.le_of_ble_eq_true rfl) ?_
    refine jG_eq rfl rfl (jpA_put_aim hai) ?_
    refine jG_aload_n F dX0_weigh_34 rfl ?_
    refine jG_iload F dX0_weigh_35 rfl ?_
    refine jp_X0_18 F dX0_weigh_37 (jpA_o ha hai) rfl rfl (Nat.le_of_ble_eq_true rfl) ?_
    refine jG_eq rfl rfl (jpA_put_worth hai) ?_
    exact jG_ret F T (rfl) dX0_weigh_40
theorem c_X0_weighAims (ha : a < h.length) (hi : i + 3 < h.length) (hai : a < i ∨ i + 3 < a) (hd : d < 16) : jMd l E yX0_weighAims cX0_weighAims 5 none 5 [.ref (E.1 + a), .ref (E.1 + i), .int (nI d)] (jpA E h a i xs ys cv ly cu cd dc am wo) none (jpAq E h a i xs ys cv ly cu cd (jwA xs ys cv ly cu cd d (dc, am, wo) 16)) 0 0 := by
  refine jMd_of (by decide) (Nat.le_of_ble_eq_true rfl) (by simp [Value.category]) (by first | rfl | simp [jpA_len, jpB_len]) (fun x hx F T hm => ?_)
  have loop : ∀ k, k ≤ 16 → ∀ r : List Value, jG E x 0 0 9 (.ref (E.1 + a) :: .ref (E.1 + i) :: .int (nI d) :: .int (nI k) :: r) [] (jpAq E h a i xs ys cv ly cu cd (jwA xs ys cv ly cu cd d (dc, am, wo) k)) := by
    refine jup 16 _ ?_ ?_
    · intro r
      refine jG_iload_n F dX0_weighAims_9 rfl ?_
      refine jG_bipush F (v := nI 16) dX0_weighAims_10 (by decide) ?_
      refine jG_icmp_ge F 64 dX0_weighAims_12 (by decide) (fun _ => ?_) (fun q => absurd (nI_le (Nat.le_refl 16) (by decide)) q)
      exact jG_ret F T (rfl) dX0_weighAims_64
    · intro k hk ih r
      refine jG_take 4 ?_
      refine jG_iload_n F dX0_weighAims_9 rfl ?_
      refine jG_bipush F (v := nI 16) dX0_weighAims_10 (by decide) ?_
      refine jG_icmp_ge F 64 dX0_weighAims_12 (by decide) (fun q => absurd q (nI_ge hk (by decide))) (fun _ => ?_)
      refine jG_iload_n F dX0_weighAims_15 rfl ?_
      refine jG_iload_n F dX0_weighAims_16 rfl ?_
      refine jG_isub F dX0_weighAims_17 ?_
      refine jG_iconst F (v := (2 : Int32)) dX0_weighAims_18 (by decide) ?_
      refine jG_irem F dX0_weighAims_19 (by decide) ?_
      refine jG_if_eq F 27 dX0_weighAims_20 (by decide) (fun q => ?_) (fun q => ?_)
      · refine jG_iconst F (v := (0 : Int32)) dX0_weighAims_27 (by decide) ?_
        refine jG_istore_4n F dX0_weighAims_28 (by decide) ?_
        refine jG_iload F dX0_weighAims_30 rfl ?_
        refine jG_if_eq F 58 dX0_weighAims_32 (by decide) (fun _ => ?_) (fun q => absurd rfl q)
        refine jG_iinc_3 F (w := nI (k + 1)) dX0_weighAims_58 (jinc k) (by decide) ?_
        refine jG_goto F 9 dX0_weighAims_61 (by decide) ?_
        refine jG_eq rfl rfl ?_ (ih _)
        rw [show jwA xs ys cv ly cu cd d (dc, am, wo) (k + 1) = jwA xs ys cv ly cu cd d (dc, am, wo) k from if_neg (fun z => z.1 q)]
      · refine jG_iconst F (v := (1 : Int32)) dX0_weighAims_23 (by decide) ?_
        refine jG_goto F 28 dX0_weighAims_24 (by decide) ?_
        refine jG_istore_4n F dX0_weighAims_28 (by decide) ?_
        refine jG_iload F dX0_weighAims_30 rfl ?_
        refine jG_if_eq F 58 dX0_weighAims_32 (by decide) (fun q => absurd q (by decide)) (fun _ => ?_)
        refine jG_aload_n F dX0_weighAims_35 rfl ?_
        refine jG_iload_n F dX0_weighAims_36 rfl ?_
        refine jc_X0_35 F dX0_weighAims_37 (c_X1_doesLie (jhA hi)) (jpB_o (jhA hi)) (by decide) (Nat.le_refl 0) (Nat.le_refl 0) (Nat.le_of_ble_eq_true rfl) ?_
        refine jG_if_eq F 58 dX0_weighAims_40 (by decide) (fun q2 => ?_) (fun q2 => ?_)
        · have q2 := jB01_eq q2
          refine jG_iinc_3 F (w := nI (k + 1)) dX0_weighAims_58 (jinc k) (by decide) ?_
          refine jG_goto F 9 dX0_weighAims_61 (by decide) ?_
          refine jG_eq rfl rfl ?_ (ih _)
          rw [show jwA xs ys cv ly cu cd d (dc, am, wo) (k + 1) = jwA xs ys cv ly cu cd d (dc, am, wo) k from if_neg (fun z => q2 z.2.1)]
        · have q2 := jB01_ne q2
          refine jG_aload_n F dX0_weighAims_43 rfl ?_
          refine jG_iload_n F dX0_weighAims_44 rfl ?_
          refine jc_X0_21 F dX0_weighAims_45 (c_X1_isFree (jhA hi)) (jpB_o (jhA hi)) (by decide) (Nat.le_refl 0) (Nat.le_refl 0) (Nat.le_of_ble_eq_true rfl) ?_
          refine jG_if_eq F 58 dX0_weighAims_48 (by decide) (fun q3 => ?_) (fun q3 => ?_)
          · have q3 := jB01_eq q3
            refine jG_iinc_3 F (w := nI (k + 1)) dX0_weighAims_58 (jinc k) (by decide) ?_
            refine jG_goto F 9 dX0_weighAims_61 (by decide) ?_
            refine jG_eq rfl rfl ?_ (ih _)
            rw [show jwA xs ys cv ly cu cd d (dc, am, wo) (k + 1) = jwA xs ys cv ly cu cd d (dc, am, wo) k from if_neg (fun z => q3 z.2.2)]
          · have q3 := jB01_ne q3
            refine jG_aload_n F dX0_weighAims_51 rfl ?_
            refine jG_aload_n F dX0_weighAims_52 rfl ?_
            refine jG_iload_n F dX0_weighAims_53 rfl ?_
            refine jG_iload_n F dX0_weighAims_54 rfl ?_
            refine jc_X0_31 F dX0_weighAims_55 (c_X0_weighD ha hi hai hd hk) (jpA_o ha hai) (by decide) (Nat.le_refl 0) (Nat.le_refl 0) (Nat.le_of_ble_eq_true rfl) ?_
            refine jG_iinc_3 F (w := nI (k + 1)) dX0_weighAims_58 (jinc k) (by decide) ?_
            refine jG_goto F 9 dX0_weighAims_61 (by decide) ?_
            refine jG_eq rfl rfl ?_ (ih _)
            rw [show jwA xs ys cv ly cu cd d (dc, am, wo) (k + 1) = _ from if_pos ⟨q, q2, q3⟩]
  refine jG_aload_n F dX0_weighAims_0 rfl ?_
  refine jG_aload_n F dX0_weighAims_1 rfl ?_
  refine jG_iload_n F dX0_weighAims_2 rfl ?_
  refine jG_iconst F (v := (-1 : Int32)) dX0_weighAims_3 (by decide) ?_
  refine jc_X0_31 F dX0_weighAims_4 (c_X0_weighP ha hi hai hd) (jpA_o ha hai) (by decide) (Nat.le_refl 0) (Nat.le_refl 0) (Nat.le_of_ble_eq_true rfl) ?_
  refine jG_iconst F (v := nI 0) dX0_weighAims_7 (by decide) ?_
  refine jG_istore_n_3n F dX0_weighAims_8 (by decide) ?_
  exact loop 0 (by decide) []
theorem c_X0_worthOfBest {p : Nat} (ha : a < h.length) (hi : i + 3 < h.length) (hai : a < i ∨ i + 3 < a) (hp : p < 4) : jMd l E yX0_worthOfBest cX0_worthOfBest 5 (some .int) 6 [.ref (E.1 + a), .ref (E.1 + i), .int (nI p)] (jpA E h a i xs ys cv ly cu cd dc am wo) (some (.int (jwB xs ys cv ly cu cd p (dc, am, wo) 4).2.2)) (jpAq E h a i xs ys cv ly cu cd (jwB xs ys cv ly cu cd p (dc, am, wo) 4)) 0 0 := by
  refine jMd_of (by decide) (Nat.le_of_ble_eq_true rfl) (by simp [Value.category]) (by first | rfl | simp [jpA_len, jpB_len]) (fun x hx F T hm => ?_)
  have loop : ∀ k, k ≤ 4 → ∀ r : List Value, jG E x 0 0 7 (.ref (E.1 + a) :: .ref (E.1 + i) :: .int (nI p) :: .int (nI k) :: r) [] (jpAq E h a i xs ys cv ly cu cd (jwB xs ys cv ly cu cd p (dc, am, wo) k)) := by
    refine jup 4 _ ?_ ?_
    · intro r
      refine jG_iload_n F dX0_worthOfBest_7 rfl ?_
      refine jG_iconst F (v := nI 4) dX0_worthOfBest_8 (by decide) ?_
      refine jG_icmp_ge F 41 dX0_worthOfBest_9 (by decide) (fun _ => ?_) (fun q => absurd (nI_le (Nat.le_refl 4) (by decide)) q)
      refine jG_aload_n F dX0_worthOfBest_41 rfl ?_
      refine jg_X0_18 F dX0_worthOfBest_42 (jpA_o ha hai) rfl ?_
      exact jG_iret F T (rfl) rfl (by first | rfl | exact jnarb _ | (split <;> rfl)) dX0_worthOfBest_45
    · intro k hk ih r
      refine jG_take 4 ?_
      refine jG_iload_n F dX0_worthOfBest_7 rfl ?_
      refine jG_iconst F (v := nI 4) dX0_worthOfBest_8 (by decide) ?_
      refine jG_icmp_ge F 41 dX0_worthOfBest_9 (by decide) (fun q => absurd q (nI_ge hk (by decide))) (fun _ => ?_)
      refine jG_iload_n F dX0_worthOfBest_12 rfl ?_
      refine jG_iconst F (v := nI 4) dX0_worthOfBest_13 (by decide) ?_
      refine jG_iload_n F dX0_worthOfBest_14 rfl ?_
      refine jG_imul F dX0_worthOfBest_15 ?_
      refine jG_iadd F dX0_worthOfBest_16 ?_
      refine jG_istore_4n F dX0_worthOfBest_17 (by decide) ?_
      refine jG_eq (lv2 := [.ref (E.1 + a), .ref (E.1 + i), .int (nI p), .int (nI k), .int (nI (p + 4 * k))]) (by rw [← nI_add, ← pk_mul]) rfl rfl ?_
      refine jG_aload_n F dX0_worthOfBest_19 rfl ?_
      refine jG_iload F dX0_worthOfBest_20 rfl ?_
      refine jc_X0_21 F dX0_worthOfBest_22 (c_X1_isFree (jhA hi)) (jpB_o (jhA hi)) (by decide) (Nat.le_refl 0) (Nat.le_refl 0) (Nat.le_of_ble_eq_true rfl) ?_
      refine jG_if_eq F 35 dX0_worthOfBest_25 (by decide) (fun q => ?_) (fun q => ?_)
      · have q := jB01_eq q
        refine jG_iinc_3 F (w := nI (k + 1)) dX0_worthOfBest_35 (jinc k) (by decide) ?_
        refine jG_goto F 7 dX0_worthOfBest_38 (by decide) ?_
        refine jG_eq rfl rfl ?_ (ih _)
        rw [show jwB xs ys cv ly cu cd p (dc, am, wo) (k + 1) = jwB xs ys cv ly cu cd p (dc, am, wo) k from if_neg q]
      · have q := jB01_ne q
        refine jG_aload_n F dX0_worthOfBest_28 rfl ?_
        refine jG_aload_n F dX0_worthOfBest_29 rfl ?_
        refine jG_iload F dX0_worthOfBest_30 rfl ?_
        refine jc_X0_27 F dX0_worthOfBest_32 (c_X0_weighAims ha hi hai (show p + 4 * k < 16 by omega)) (jpA_o ha hai) (by decide) (Nat.le_refl 0) (Nat.le_refl 0) (Nat.le_of_ble_eq_true rfl) ?_
        refine jG_iinc_3 F (w := nI (k + 1)) dX0_worthOfBest_35 (jinc k) (by decide) ?_
        refine jG_goto F 7 dX0_worthOfBest_38 (by decide) ?_
        refine jG_eq rfl rfl ?_ (ih _)
        rw [show jwB xs ys cv ly cu cd p (dc, am, wo) (k + 1) = _ from if_pos q]
  refine jG_aload_n F dX0_worthOfBest_0 rfl ?_
  refine jG_iconst F (v := (0 : Int32)) dX0_worthOfBest_1 (by decide) ?_
  refine jp_X0_18 F dX0_worthOfBest_2 (jpA_o ha hai) rfl rfl (Nat.le_of_ble_eq_true rfl) ?_
  refine jG_eq rfl rfl (jpA_put_worth hai) ?_
  refine jG_iconst F (v := nI 0) dX0_worthOfBest_5 (by decide) ?_
  refine jG_istore_n_3n F dX0_worthOfBest_6 (by decide) ?_
  exact loop 0 (by decide) []
end AV
