/-! ===== Board.copyFrom; Game: shots, copies ===== -/
theorem jend_congr {ti go : Int32} {fr : Nat → Int32} {b c : Prop} [Decidable b] [Decidable c] {q : Nat × Int32} (h : b ↔ c) : jend ti go fr b q = jend ti go fr c q := by
  unfold jend
  by_cases hb : b
  · rw [if_pos hb, if_pos (h.mp hb)]
  · rw [if_neg hb, if_neg (fun z => hb (h.mpr z))]
abbrev jpq (E : jE) (h : List va_E) (g : Nat) (B : jBT) (ro ru ti : Int32) (se : Int64) (go : Int32) (q : Nat × Int32) : List va_E := jp13 E h g B.1 B.2.1 B.2.2.1 B.2.2.2.1 B.2.2.2.2.1 B.2.2.2.2.2 ro ru ti se q.1 go q.2
/-- a turn's end behind the board B -/
abbrev jendB (B : jBT) (ti go : Int32) (b : Prop) [Decidable b] (q : Nat × Int32) : Nat × Int32 := jend ti go (jfree B.2.2.2.2.1 B.2.2.2.2.2) b q
def jspr (xs ys : Nat → Int32) (d : Nat) (ax ay ro : Int32) : Int32 := jway (xs d) (ys d) ax ay / 8 + jsz (nI d) - 1 + ro
abbrev jcup (a b : Int32) : Prop := (a - 20) * (a - 20) + (b - 20) * (b - 20) ≤ 4
/-- where a SHOT comes down -/
def jdx (xs ys : Nat → Int32) (d : Nat) (ax ay ro : Int32) (se : Int64) : Int32 := ax + jdraw se (jspr xs ys d ax ay ro)
def jdy (xs ys : Nat → Int32) (d : Nat) (ax ay ro : Int32) (se : Int64) : Int32 := ay + jdraw (jseed se) (jspr xs ys d ax ay ro)
def jshot (B : jBT) (d : Nat) (ax ay ro ru : Int32) (se : Int64) : jBT :=
  if jcup (jdx B.1 B.2.1 d ax ay ro se) (jdy B.1 B.2.1 d ax ay ro se) then jbringF B d 41 41
  else jbringF B d (jmat (jdx B.1 B.2.1 d ax ay ro se + ru * jsgn (ax - B.1 d))) (jmat (jdy B.1 B.2.1 d ax ay ro se + ru * jsgn (ay - B.2.1 d)))
def jblow (pl : Int32) (B : jBT) (se : Int64) : Nat → jBT × Int64
  | 0 => (B, se)
  | k + 1 => if pl &&& jbit k = 0 then jblow pl B se k else (jbringF (jblow pl B se k).1 k (jmat ((jblow pl B se k).1.1 k + jdraw (jblow pl B se k).2 3)) (jmat ((jblow pl B se k).1.2.1 k + jdraw (jseed (jblow pl B se k).2) 3)), jseed (jseed (jblow pl B se k).2))
theorem jpG_ne {E : jE} {h : List va_E} {g j : Nat} {xs ys cv : Nat → Int32} {ly cu cd ro ru ti go rd : Int32} {se : Int64} {tu : Nat} (hj : j < g ∨ g + 4 < j) : (jp13 E h g xs ys cv ly cu cd ro ru ti se tu go rd)[j]? = h[j]? := by
  rw [jpB_ne (by omega) (by omega) (by omega) (by omega), List.getElem?_set_ne (by omega)]
/-- a Board, a Game that stand in a heap -/
def jisB (E : jE) (h : List va_E) (i : Nat) (B : jBT) : Prop := h[i]? = some (jbo E i B.2.2.2.1 B.2.2.2.2.1 B.2.2.2.2.2) ∧ h[i + 1]? = some (jar E 16 B.1) ∧ h[i + 2]? = some (jar E 16 B.2.1) ∧ h[i + 3]? = some (jar E 16 B.2.2.1)
section GB
variable {l : Launch} {E : jE} {h : List va_E} {g d i j : Nat} {xs ys cv : Nat → Int32} {ly cu cd ro ru ti go rd : Int32} {se : Int64} {tu : Nat}
theorem c_X1_copyFrom {B : jBT} (hi : i + 3 < h.length) (hij : j + 3 < i ∨ i + 3 < j) (ho : jisB E h j B) : jMd l E yX1_copyFrom cX1_copyFrom 2 none 1 [.ref (E.1 + i), .ref (E.1 + j)] (jp6 E h i xs ys cv ly cu cd) none (jpB E h i B) 0 0 := by
  refine jMd_of (by decide) (Nat.le_of_ble_eq_true rfl) (by simp [Value.category]) (by first | rfl | simp [jpB_len]) (fun x hx F T hm => ?_)
  refine jG_aload_n F dX1_copyFrom_0 rfl ?_
  refine jg_X1_9 F dX1_copyFrom_1 ((jpB_ne (by omega) (by omega) (by omega) (by omega)).trans ho.1) rfl ?_
  refine jG_iconst F (v := (0 : Int32)) dX1_copyFrom_4 (by decide) ?_
  refine jG_aload_n F dX1_copyFrom_5 rfl ?_
  refine jg_X1_9 F dX1_copyFrom_6 (jpB_o hi) rfl ?_
  refine jG_iconst F (v := (0 : Int32)) dX1_copyFrom_9 (by decide) ?_
  refine jG_bipush F (v := (16 : Int32)) dX1_copyFrom_10 (by decide) ?_
  refine jG_copy F (n := 16) (jm 572 (by decide +kernel) (by decide +kernel)) (jm 574 (by decide +kernel) (by decide +kernel)) (jm 573 (by decide +kernel) (by decide +kernel)) (jm 54 (by decide +kernel) (by decide +kernel)) (by decide) rfl rfl rfl (by decide) ((jpB_ne (by omega) (by omega) (by omega) (by omega)).trans ho.2.1) (jpB_x hi) (Nat.le_of_ble_eq_true rfl) dX1_copyFrom_12 ?_
  refine jG_eq rfl rfl jpB_st_x ?_
  refine jG_aload_n F dX1_copyFrom_15 rfl ?_
  refine jg_X1_15 F dX1_copyFrom_16 ((jpB_ne (by omega) (by omega) (by omega) (by omega)).trans ho.1) rfl ?_
  refine jG_iconst F (v := (0 : Int32)) dX1_copyFrom_19 (by decide) ?_
  refine jG_aload_n F dX1_copyFrom_20 rfl ?_
  refine jg_X1_15 F dX1_copyFrom_21 (jpB_o hi) rfl ?_
  refine jG_iconst F (v := (0 : Int32)) dX1_copyFrom_24 (by decide) ?_
  refine jG_bipush F (v := (16 : Int32)) dX1_copyFrom_25 (by decide) ?_
  refine jG_copy F (n := 16) (jm 572 (by decide +kernel) (by decide +kernel)) (jm 574 (by decide +kernel) (by decide +kernel)) (jm 573 (by decide +kernel) (by decide +kernel)) (jm 54 (by decide +kernel) (by decide +kernel)) (by decide) rfl rfl rfl (by decide) ((jpB_ne (by omega) (by omega) (by omega) (by omega)).trans ho.2.2.1) (jpB_y hi) (Nat.le_of_ble_eq_true rfl) dX1_copyFrom_27 ?_
  refine jG_eq rfl rfl jpB_st_y ?_
  refine jG_aload_n F dX1_copyFrom_30 rfl ?_
  refine jg_X1_18 F dX1_copyFrom_31 ((jpB_ne (by omega) (by omega) (by omega) (by omega)).trans ho.1) rfl ?_
  refine jG_iconst F (v := (0 : Int32)) dX1_copyFrom_34 (by decide) ?_
  refine jG_aload_n F dX1_copyFrom_35 rfl ?_
  refine jg_X1_18 F dX1_copyFrom_36 (jpB_o hi) rfl ?_
  refine jG_iconst F (v := (0 : Int32)) dX1_copyFrom_39 (by decide) ?_
  refine jG_bipush F (v := (16 : Int32)) dX1_copyFrom_40 (by decide) ?_
  refine jG_copy F (n := 16) (jm 572 (by decide +kernel) (by decide +kernel)) (jm 574 (by decide +kernel) (by decide +kernel)) (jm 573 (by decide +kernel) (by decide +kernel)) (jm 54 (by decide +kernel) (by decide +kernel)) (by decide) rfl rfl rfl (by decide) ((jpB_ne (by omega) (by omega) (by omega) (by omega)).trans ho.2.2.2) (jpB_c hi) (Nat.le_of_ble_eq_true rfl) dX1_copyFrom_42 ?_
  refine jG_eq rfl rfl jpB_st_c ?_
  refine jG_aload_n F dX1_copyFrom_45 rfl ?_
  refine jG_aload_n F dX1_copyFrom_46 rfl ?_
  refine jg_X1_21 F dX1_copyFrom_47 ((jpB_ne (by omega) (by omega) (by omega) (by omega)).trans ho.1) rfl ?_
  refine jp_X1_21 F dX1_copyFrom_50 (jpB_o hi) rfl rfl (Nat.le_of_ble_eq_true rfl) ?_
  refine jG_eq rfl rfl jpB_put_lying ?_
  refine jG_aload_n F dX1_copyFrom_53 rfl ?_
  refine jG_aload_n F dX1_copyFrom_54 rfl ?_
  refine jg_X1_25 F dX1_copyFrom_55 ((jpB_ne (by omega) (by omega) (by omega) (by omega)).trans ho.1) rfl ?_
  refine jp_X1_25 F dX1_copyFrom_58 (jpB_o hi) rfl rfl (Nat.le_of_ble_eq_true rfl) ?_
  refine jG_eq rfl rfl jpB_put_inCup ?_
  refine jG_aload_n F dX1_copyFrom_61 rfl ?_
  refine jG_aload_n F dX1_copyFrom_62 rfl ?_
  refine jg_X1_28 F dX1_copyFrom_63 ((jpB_ne (by omega) (by omega) (by omega) (by omega)).trans ho.1) rfl ?_
  refine jp_X1_28 F dX1_copyFrom_66 (jpB_o hi) rfl rfl (Nat.le_of_ble_eq_true rfl) ?_
  refine jG_eq rfl rfl jpB_put_covered ?_
  exact jG_ret F T (rfl) dX1_copyFrom_69
theorem c_X2_copyFrom {B : jBT} {g2 : Nat} {ro2 ru2 ti2 go2 rd2 : Int32} {se2 : Int64} {tu2 : Nat} (hg : g + 4 < h.length) (hgg : g2 + 4 < g ∨ g + 4 < g2) (hog : h[g2]? = some (jgo E g2 ro2 ru2 ti2 se2 tu2 go2 rd2)) (ho : jisB E h (g2 + 1) B) : jMd l E yX2_copyFrom cX2_copyFrom 2 none 2 [.ref (E.1 + g), .ref (E.1 + g2)] (jp13 E h g xs ys cv ly cu cd ro ru ti se tu go rd) none (jpq E h g B ro2 ru2 ti2 se2 go2 (tu2, rd2)) 0 0 := by
  refine jMd_of (by decide) (Nat.le_of_ble_eq_true rfl) (by simp [Value.category]) (by first | rfl | simp [jpG_len, jpB_len]) (fun x hx F T hm => ?_)
  have hne : g2 < g ∨ g + 4 < g2 := by omega
  refine jG_aload_n F dX2_copyFrom_0 rfl ?_
  refine jg_X2_12 F dX2_copyFrom_1 (jpG_o hg) rfl ?_
  refine jG_aload_n F dX2_copyFrom_4 rfl ?_
  refine jg_X2_12 F dX2_copyFrom_5 ((jpG_ne hne).trans hog) rfl ?_
  refine jc_X2_44 F dX2_copyFrom_8 (c_X1_copyFrom (B := B) (jhg hg) (by omega) ⟨(List.getElem?_set_ne (by omega)).trans ho.1, (List.getElem?_set_ne (by omega)).trans ho.2.1, (List.getElem?_set_ne (by omega)).trans ho.2.2.1, (List.getElem?_set_ne (by omega)).trans ho.2.2.2⟩) (jpB_o (jhg hg)) (by decide) (Nat.le_refl 0) (Nat.le_refl 0) (Nat.le_of_ble_eq_true rfl) ?_
  refine jG_aload_n F dX2_copyFrom_11 rfl ?_
  refine jG_aload_n F dX2_copyFrom_12 rfl ?_
  refine jg_X2_18 F dX2_copyFrom_13 ((jpG_ne hne).trans hog) rfl ?_
  refine jp_X2_18 F dX2_copyFrom_16 (jpG_o hg) rfl rfl (Nat.le_of_ble_eq_true rfl) ?_
  refine jG_eq rfl rfl jpG_put_rough ?_
  refine jG_aload_n F dX2_copyFrom_19 rfl ?_
  refine jG_aload_n F dX2_copyFrom_20 rfl ?_
  refine jg_X2_22 F dX2_copyFrom_21 ((jpG_ne hne).trans hog) rfl ?_
  refine jp_X2_22 F dX2_copyFrom_24 (jpG_o hg) rfl rfl (Nat.le_of_ble_eq_true rfl) ?_
  refine jG_eq rfl rfl jpG_put_run ?_
  refine jG_aload_n F dX2_copyFrom_27 rfl ?_
  refine jG_aload_n F dX2_copyFrom_28 rfl ?_
  refine jg_X2_25 F dX2_copyFrom_29 ((jpG_ne hne).trans hog) rfl ?_
  refine jp_X2_25 F dX2_copyFrom_32 (jpG_o hg) rfl rfl (Nat.le_of_ble_eq_true rfl) ?_
  refine jG_eq rfl rfl jpG_put_time ?_
  refine jG_aload_n F dX2_copyFrom_35 rfl ?_
  refine jG_aload_n F dX2_copyFrom_36 rfl ?_
  refine jg_X2_28 F dX2_copyFrom_37 ((jpG_ne hne).trans hog) rfl ?_
  refine jp_X2_28 F dX2_copyFrom_40 (jpG_o hg) rfl rfl (Nat.le_of_ble_eq_true rfl) ?_
  refine jG_eq rfl rfl jpG_put_seed ?_
  refine jG_aload_n F dX2_copyFrom_43 rfl ?_
  refine jG_aload_n F dX2_copyFrom_44 rfl ?_
  refine jg_X2_32 F dX2_copyFrom_45 ((jpG_ne hne).trans hog) rfl ?_
  refine jp_X2_32 F dX2_copyFrom_48 (jpG_o hg) rfl rfl (Nat.le_of_ble_eq_true rfl) ?_
  refine jG_eq rfl rfl jpG_put_turn ?_
  refine jG_aload_n F dX2_copyFrom_51 rfl ?_
  refine jG_aload_n F dX2_copyFrom_52 rfl ?_
  refine jg_X2_35 F dX2_copyFrom_53 ((jpG_ne hne).trans hog) rfl ?_
  refine jp_X2_35 F dX2_copyFrom_56 (jpG_o hg) rfl rfl (Nat.le_of_ble_eq_true rfl) ?_
  refine jG_eq rfl rfl jpG_put_gone ?_
  refine jG_aload_n F dX2_copyFrom_59 rfl ?_
  refine jG_aload_n F dX2_copyFrom_60 rfl ?_
  refine jg_X2_38 F dX2_copyFrom_61 ((jpG_ne hne).trans hog) rfl ?_
  refine jp_X2_38 F dX2_copyFrom_64 (jpG_o hg) rfl rfl (Nat.le_of_ble_eq_true rfl) ?_
  refine jG_eq rfl rfl jpG_put_rounds ?_
  exact jG_ret F T (rfl) dX2_copyFrom_67
theorem c_X2_follow {a b : Int32} (hg : g + 4 < h.length) (hd : d < 16) (ht : tu < 4) : jMd l E yX2_follow cX2_follow 4 (some .boolean) 3 [.ref (E.1 + g), .int (nI d), .int a, .int b] (jp13 E h g xs ys cv ly cu cd ro ru ti se tu go rd) (some (.int (jB01 (d % 4 = tu ∧ (cu ||| cd) &&& jbit d = 0 ∧ ¬ jovr cu rd)))) (if d % 4 = tu ∧ (cu ||| cd) &&& jbit d = 0 ∧ ¬ jovr cu rd then jpq E h g (jbringF (xs, ys, cv, ly, cu, cd) d a b) ro ru ti se (go + 1) (jendB (jbringF (xs, ys, cv, ly, cu, cd) d a b) ti (go + 1) (a = 41) (tu, rd)) else jp13 E h g xs ys cv ly cu cd ro ru ti se tu go rd) 0 0 := by
  refine jMd_of (by decide) (Nat.le_of_ble_eq_true rfl) (by simp [Value.category]) (by (repeat' split) <;> simp [jpG_len]) (fun x hx F T hm => ?_)
  refine jG_aload_n F dX2_follow_0 rfl ?_
  refine jG_iload_n F dX2_follow_1 rfl ?_
  refine jc_X2_104 F dX2_follow_2 (c_X2_mayPlay hg hd ht) (jpG_o hg) (by decide) (Nat.le_refl 0) (Nat.le_refl 0) (Nat.le_of_ble_eq_true rfl) ?_
  refine jG_if_ne F 10 dX2_follow_5 (by decide) (fun q => ?_) (fun q => ?_)
  · have q := jB01_ne q
    rw [if_pos q, jB01_pos q] at T
    refine jG_aload_n F dX2_follow_10 rfl ?_
    refine jg_X2_12 F dX2_follow_11 (jpG_o hg) rfl ?_
    refine jG_iload_n F dX2_follow_14 rfl ?_
    refine jG_iload_n F dX2_follow_15 rfl ?_
    refine jG_iload_n F dX2_follow_16 rfl ?_
    refine jc_X2_90 F dX2_follow_17 (c_X1_bring (jhg hg) hd) (jpB_o (jhg hg)) (by decide) (Nat.le_refl 0) (Nat.le_refl 0) (Nat.le_of_ble_eq_true rfl) ?_
    refine jG_aload_n F dX2_follow_20 rfl ?_
    refine jG_iload_n F dX2_follow_21 rfl ?_
    refine jG_bipush F (v := (41 : Int32)) dX2_follow_22 (by decide) ?_
    refine jG_icmp_ne F 31 dX2_follow_24 (by decide) (fun q2 => ?_) (fun q2 => ?_)
    · rw [show jendB (jbringF (xs, ys, cv, ly, cu, cd) d a b) ti (go + 1) (a = 41) (tu, rd) = jend ti (go + 1) (jfree (jbringF (xs, ys, cv, ly, cu, cd) d a b).2.2.2.2.1 (jbringF (xs, ys, cv, ly, cu, cd) d a b).2.2.2.2.2) (¬ (0 : Int32) = 0) (tu, rd) from jend_congr ⟨fun z => absurd z q2, fun z => absurd rfl z⟩] at T
      refine jG_iconst F (v := (0 : Int32)) dX2_follow_31 (by decide) ?_
      refine jc_X2_100 F dX2_follow_32 (c_X2_endTurn hg ht) (jpG_o hg) (by decide) (Nat.le_refl 0) (Nat.le_refl 0) (Nat.le_of_ble_eq_true rfl) ?_
      refine jG_iconst F (v := (1 : Int32)) dX2_follow_35 (by decide) ?_
      exact jG_iret F T (rfl) rfl (by first | rfl | exact jnarb _ | (split <;> rfl)) dX2_follow_36
    · rw [show jendB (jbringF (xs, ys, cv, ly, cu, cd) d a b) ti (go + 1) (a = 41) (tu, rd) = jend ti (go + 1) (jfree (jbringF (xs, ys, cv, ly, cu, cd) d a b).2.2.2.2.1 (jbringF (xs, ys, cv, ly, cu, cd) d a b).2.2.2.2.2) (¬ (1 : Int32) = 0) (tu, rd) from jend_congr ⟨fun _ => by decide, fun _ => q2⟩] at T
      refine jG_iconst F (v := (1 : Int32)) dX2_follow_27 (by decide) ?_
      refine jG_goto F 32 dX2_follow_28 (by decide) ?_
      refine jc_X2_100 F dX2_follow_32 (c_X2_endTurn hg ht) (jpG_o hg) (by decide) (Nat.le_refl 0) (Nat.le_refl 0) (Nat.le_of_ble_eq_true rfl) ?_
      refine jG_iconst F (v := (1 : Int32)) dX2_follow_35 (by decide) ?_
      exact jG_iret F T (rfl) rfl (by first | rfl | exact jnarb _ | (split <;> rfl)) dX2_follow_36
  · have q := jB01_eq q
    rw [if_neg q, jB01_neg q] at T
    refine jG_iconst F (v := (0 : Int32)) dX2_follow_8 (by decide) ?_
    exact jG_iret F T (rfl) rfl (by first | rfl | exact jnarb _ | (split <;> rfl)) dX2_follow_9
theorem c_X2_playShot {a b : Int32} (hg : g + 4 < h.length) (hd : d < 16) (ht : tu < 4) (hs : ¬ (2 * jspr xs ys d a b ro + 1).toInt64 = 0) : jMd l E yX2_playShot cX2_playShot 12 (some .boolean) 3 [.ref (E.1 + g), .int (nI d), .int a, .int b] (jp13 E h g xs ys cv ly cu cd ro ru ti se tu go rd) (some (.int (jB01 (jcup (jdx xs ys d a b ro se) (jdy xs ys d a b ro se))))) (jpq E h g (jshot (xs, ys, cv, ly, cu, cd) d a b ro ru se) ro ru ti (jseed (jseed se)) (go + 1) (jendB (jshot (xs, ys, cv, ly, cu, cd) d a b ro ru se) ti (go + 1) (jcup (jdx xs ys d a b ro se) (jdy xs ys d a b ro se)) (tu, rd))) 0 0 := by
  refine jMd_of (by decide) (Nat.le_of_ble_eq_true rfl) (by simp [Value.category]) (by first | rfl | simp [jpG_len, jpB_len]) (fun x hx F T hm => ?_)
  refine jG_aload_n F dX2_playShot_0 rfl ?_
  refine jg_X2_12 F dX2_playShot_1 (jpG_o hg) rfl ?_
  refine jg_X2_69 F dX2_playShot_4 (jpB_o (jhg hg)) rfl ?_
  refine jG_iload_n F dX2_playShot_7 rfl ?_
  refine jG_iald F dX2_playShot_8 (jpB_x (jhg hg)) rfl (by omega) (by decide) ?_
  refine jG_istore_4n F dX2_playShot_9 (by decide) ?_
  refine jG_aload_n F dX2_playShot_11 rfl ?_
  refine jg_X2_12 F dX2_playShot_12 (jpG_o hg) rfl ?_
  refine jg_X2_73 F dX2_playShot_15 (jpB_o (jhg hg)) rfl ?_
  refine jG_iload_n F dX2_playShot_18 rfl ?_
  refine jG_iald F dX2_playShot_19 (jpB_y (jhg hg)) rfl (by omega) (by decide) ?_
  refine jG_istore_5n F dX2_playShot_20 (by decide) ?_
  refine jG_iload F dX2_playShot_22 rfl ?_
  refine jG_iload F dX2_playShot_24 rfl ?_
  refine jG_iload_n F dX2_playShot_26 rfl ?_
  refine jG_iload_n F dX2_playShot_27 rfl ?_
  refine jc_X2_76 F dX2_playShot_28 (c_X5_wayBetween) (by decide) (Nat.le_refl 0) (Nat.le_refl 0) (Nat.le_of_ble_eq_true rfl) ?_
  refine jG_bipush F (v := (8 : Int32)) dX2_playShot_31 (by decide) ?_
  refine jG_idiv F dX2_playShot_33 (by decide) ?_
  refine jG_iload_n F dX2_playShot_34 rfl ?_
  refine jc_X2_80 F dX2_playShot_35 (c_X5_sizeOf) (by decide) (Nat.le_refl 0) (Nat.le_refl 0) (Nat.le_of_ble_eq_true rfl) ?_
  refine jG_iadd F dX2_playShot_38 ?_
  refine jG_iconst F (v := (1 : Int32)) dX2_playShot_39 (by decide) ?_
  refine jG_isub F dX2_playShot_40 ?_
  refine jG_aload_n F dX2_playShot_41 rfl ?_
  refine jg_X2_18 F dX2_playShot_42 (jpG_o hg) rfl ?_
  refine jG_iadd F dX2_playShot_45 ?_
  refine jG_istore_6n F dX2_playShot_46 (by decide) ?_
  refine jG_iload_n F dX2_playShot_48 rfl ?_
  refine jG_aload_n F dX2_playShot_49 rfl ?_
  refine jG_iload F dX2_playShot_50 rfl ?_
  refine jc_X2_83 F dX2_playShot_52 (c_X2_drawOff (sp := jspr xs ys d a b ro) hg hs) (jpG_o hg) (by decide) (Nat.le_refl 0) (Nat.le_refl 0) (Nat.le_of_ble_eq_true rfl) ?_
  refine jG_iadd F dX2_playShot_55 ?_
  refine jG_istore_7n F dX2_playShot_56 (by decide) ?_
  refine jG_iload_n F dX2_playShot_58 rfl ?_
  refine jG_aload_n F dX2_playShot_59 rfl ?_
  refine jG_iload F dX2_playShot_60 rfl ?_
  refine jc_X2_83 F dX2_playShot_62 (c_X2_drawOff (sp := jspr xs ys d a b ro) hg hs) (jpG_o hg) (by decide) (Nat.le_refl 0) (Nat.le_refl 0) (Nat.le_of_ble_eq_true rfl) ?_
  refine jG_iadd F dX2_playShot_65 ?_
  refine jG_istore_8n F dX2_playShot_66 (by decide) ?_
  refine jG_eq (lv2 := [.ref (E.1 + g), .int (nI d), .int a, .int b, .int (xs d), .int (ys d), .int (jspr xs ys d a b ro), .int (jdx xs ys d a b ro se), .int (jdy xs ys d a b ro se)]) rfl rfl rfl ?_
  generalize hX : jdx xs ys d a b ro se = X at T
  generalize hY : jdy xs ys d a b ro se = Y at T
  refine jG_iload F dX2_playShot_68 rfl ?_
  refine jG_iload F dX2_playShot_70 rfl ?_
  refine jc_X2_86 F dX2_playShot_72 (c_X2_doesCupTake) (by decide) (Nat.le_refl 0) (Nat.le_refl 0) (Nat.le_of_ble_eq_true rfl) ?_
  refine jG_istore_9n F dX2_playShot_75 (by decide) ?_
  refine jG_iload F dX2_playShot_77 rfl ?_
  refine jG_if_eq F 97 dX2_playShot_79 (by decide) (fun q => ?_) (fun q => ?_)
  · have q : ¬ jcup X Y := jB01_eq q
    have e : jshot (xs, ys, cv, ly, cu, cd) d a b ro ru se = jbringF (xs, ys, cv, ly, cu, cd) d (jmat (X + ru * jsgn (a - xs d))) (jmat (Y + ru * jsgn (b - ys d))) := by
      rw [← hX, ← hY]; exact if_neg (by rw [← hX, ← hY] at q; exact q)
    rw [e] at T
    rw [show jendB (jbringF (xs, ys, cv, ly, cu, cd) d (jmat (X + ru * jsgn (a - xs d))) (jmat (Y + ru * jsgn (b - ys d)))) ti (go + 1) (jcup X Y) (tu, rd) = jendB (jbringF (xs, ys, cv, ly, cu, cd) d (jmat (X + ru * jsgn (a - xs d))) (jmat (Y + ru * jsgn (b - ys d)))) ti (go + 1) (¬ jB01 (jcup X Y) = 0) (tu, rd) from jend_congr ⟨fun z => absurd z q, fun z => jB01_ne z⟩] at T
    refine jG_iload F dX2_playShot_97 rfl ?_
    refine jG_aload_n F dX2_playShot_99 rfl ?_
    refine jg_X2_22 F dX2_playShot_100 (jpG_o hg) rfl ?_
    refine jG_iload_n F dX2_playShot_103 rfl ?_
    refine jG_iload F dX2_playShot_104 rfl ?_
    refine jG_isub F dX2_playShot_106 ?_
    refine jc_X2_94 F dX2_playShot_107 (c_X2_signOf) (by decide) (Nat.le_refl 0) (Nat.le_refl 0) (Nat.le_of_ble_eq_true rfl) ?_
    refine jG_imul F dX2_playShot_110 ?_
    refine jG_iadd F dX2_playShot_111 ?_
    refine jG_istore_10n F dX2_playShot_112 (by decide) ?_
    refine jG_iload F dX2_playShot_114 rfl ?_
    refine jG_aload_n F dX2_playShot_116 rfl ?_
    refine jg_X2_22 F dX2_playShot_117 (jpG_o hg) rfl ?_
    refine jG_iload_n F dX2_playShot_120 rfl ?_
    refine jG_iload F dX2_playShot_121 rfl ?_
    refine jG_isub F dX2_playShot_123 ?_
    refine jc_X2_94 F dX2_playShot_124 (c_X2_signOf) (by decide) (Nat.le_refl 0) (Nat.le_refl 0) (Nat.le_of_ble_eq_true rfl) ?_
    refine jG_imul F dX2_playShot_127 ?_
    refine jG_iadd F dX2_playShot_128 ?_
    refine jG_istore_11n F dX2_playShot_129 (by decide) ?_
    refine jG_aload_n F dX2_playShot_131 rfl ?_
    refine jg_X2_12 F dX2_playShot_132 (jpG_o hg) rfl ?_
    refine jG_iload_n F dX2_playShot_135 rfl ?_
    refine jG_iload F dX2_playShot_136 rfl ?_
    refine jc_X2_97 F dX2_playShot_138 (c_X2_nearestOnMat) (by decide) (Nat.le_refl 0) (Nat.le_refl 0) (Nat.le_of_ble_eq_true rfl) ?_
    refine jG_iload F dX2_playShot_141 rfl ?_
    refine jc_X2_97 F dX2_playShot_143 (c_X2_nearestOnMat) (by decide) (Nat.le_refl 0) (Nat.le_refl 0) (Nat.le_of_ble_eq_true rfl) ?_
    refine jc_X2_90 F dX2_playShot_146 (c_X1_bring (jhg hg) hd) (jpB_o (jhg hg)) (by decide) (Nat.le_refl 0) (Nat.le_refl 0) (Nat.le_of_ble_eq_true rfl) ?_
    refine jG_aload_n F dX2_playShot_149 rfl ?_
    refine jG_iload F dX2_playShot_150 rfl ?_
    refine jc_X2_100 F dX2_playShot_152 (c_X2_endTurn hg ht) (jpG_o hg) (by decide) (Nat.le_refl 0) (Nat.le_refl 0) (Nat.le_of_ble_eq_true rfl) ?_
    refine jG_iload F dX2_playShot_155 rfl ?_
    exact jG_iret F T (rfl) rfl (by first | rfl | exact jnarb _ | (split <;> rfl)) dX2_playShot_157
  · have q : jcup X Y := jB01_ne q
    have e : jshot (xs, ys, cv, ly, cu, cd) d a b ro ru se = jbringF (xs, ys, cv, ly, cu, cd) d 41 41 := if_pos (by rw [← hX, ← hY] at q; exact q)
    rw [e] at T
    rw [show jendB (jbringF (xs, ys, cv, ly, cu, cd) d 41 41) ti (go + 1) (jcup X Y) (tu, rd) = jendB (jbringF (xs, ys, cv, ly, cu, cd) d 41 41) ti (go + 1) (¬ jB01 (jcup X Y) = 0) (tu, rd) from jend_congr ⟨fun z => by rw [jB01_pos z]; decide, fun z => jB01_ne z⟩] at T
    refine jG_aload_n F dX2_playShot_82 rfl ?_
    refine jg_X2_12 F dX2_playShot_83 (jpG_o hg) rfl ?_
    refine jG_iload_n F dX2_playShot_86 rfl ?_
    refine jG_bipush F (v := (41 : Int32)) dX2_playShot_87 (by decide) ?_
    refine jG_bipush F (v := (41 : Int32)) dX2_playShot_89 (by decide) ?_
    refine jc_X2_90 F dX2_playShot_91 (c_X1_bring (jhg hg) hd) (jpB_o (jhg hg)) (by decide) (Nat.le_refl 0) (Nat.le_refl 0) (Nat.le_of_ble_eq_true rfl) ?_
    refine jG_goto F 149 dX2_playShot_94 (by decide) ?_
    refine jG_aload_n F dX2_playShot_149 rfl ?_
    refine jG_iload F dX2_playShot_150 rfl ?_
    refine jc_X2_100 F dX2_playShot_152 (c_X2_endTurn hg ht) (jpG_o hg) (by decide) (Nat.le_refl 0) (Nat.le_refl 0) (Nat.le_of_ble_eq_true rfl) ?_
    refine jG_iload F dX2_playShot_155 rfl ?_
    exact jG_iret F T (rfl) rfl (by first | rfl | exact jnarb _ | (split <;> rfl)) dX2_playShot_157
theorem c_X2_blowApart {pl : Int32} (hg : g + 4 < h.length) (ht : tu < 4) : jMd l E yX2_blowApart cX2_blowApart 5 none 3 [.ref (E.1 + g), .int pl] (jp13 E h g xs ys cv ly cu cd ro ru ti se tu go rd) none (jpq E h g (jblow pl (xs, ys, cv, ly, cu, cd) se 16).1 ro ru ti (jblow pl (xs, ys, cv, ly, cu, cd) se 16).2 (go + 1) (jendB (jblow pl (xs, ys, cv, ly, cu, cd) se 16).1 ti (go + 1) False (tu, rd))) 0 0 := by
  refine jMd_of (by decide) (Nat.le_of_ble_eq_true rfl) (by simp [Value.category]) (by first | rfl | simp [jpG_len, jpB_len]) (fun x hx F T hm => ?_)
  have loop : ∀ k, k ≤ 16 → ∀ r : List Value, jG E x 0 0 2 (.ref (E.1 + g) :: .int pl :: .int (nI k) :: r) [] (jpq E h g (jblow pl (xs, ys, cv, ly, cu, cd) se k).1 ro ru ti (jblow pl (xs, ys, cv, ly, cu, cd) se k).2 go (tu, rd)) := by
    refine jup 16 _ ?_ ?_
    · intro r
      refine jG_iload_n F dX2_blowApart_2 rfl ?_
      refine jG_bipush F (v := nI 16) dX2_blowApart_3 (by decide) ?_
      refine jG_icmp_ge F 72 dX2_blowApart_5 (by decide) (fun _ => ?_) (fun q => absurd (nI_le (Nat.le_refl 16) (by decide)) q)
      rw [show jendB (jblow pl (xs, ys, cv, ly, cu, cd) se 16).1 ti (go + 1) False (tu, rd) = jendB (jblow pl (xs, ys, cv, ly, cu, cd) se 16).1 ti (go + 1) (¬ (0 : Int32) = 0) (tu, rd) from jend_congr ⟨fun z => z.elim, fun z => z rfl⟩] at T
      refine jG_aload_n F dX2_blowApart_72 rfl ?_
      refine jG_iconst F (v := (0 : Int32)) dX2_blowApart_73 (by decide) ?_
      refine jc_X2_100 F dX2_blowApart_74 (c_X2_endTurn hg ht) (jpG_o hg) (by decide) (Nat.le_refl 0) (Nat.le_refl 0) (Nat.le_of_ble_eq_true rfl) ?_
      exact jG_ret F T (rfl) dX2_blowApart_77
    · intro k hk ih r
      refine jG_iload_n F dX2_blowApart_2 rfl ?_
      refine jG_bipush F (v := nI 16) dX2_blowApart_3 (by decide) ?_
      refine jG_icmp_ge F 72 dX2_blowApart_5 (by decide) (fun q => absurd q (nI_ge hk (by decide))) (fun _ => ?_)
      refine jG_iload_n F dX2_blowApart_8 rfl ?_
      refine jG_iconst F (v := (1 : Int32)) dX2_blowApart_9 (by decide) ?_
      refine jG_iload_n F dX2_blowApart_10 rfl ?_
      refine jG_ishl F dX2_blowApart_11 ?_
      refine jG_iand F dX2_blowApart_12 ?_
      refine jG_if_eq F 66 dX2_blowApart_13 (by decide) (fun q => ?_) (fun q => ?_)
      · refine jG_iinc_2 F (w := nI (k + 1)) dX2_blowApart_66 (jinc k) (by decide) ?_
        refine jG_goto F 2 dX2_blowApart_69 (by decide) ?_
        refine jG_eq rfl rfl ?_ (ih r)
        rw [show jblow pl (xs, ys, cv, ly, cu, cd) se (k + 1) = jblow pl (xs, ys, cv, ly, cu, cd) se k from if_pos q]
      · refine jG_take 3 ?_
        refine jG_aload_n F dX2_blowApart_16 rfl ?_
        refine jg_X2_12 F dX2_blowApart_17 (jpG_o hg) rfl ?_
        refine jg_X2_69 F dX2_blowApart_20 (jpB_o (jhg hg)) rfl ?_
        refine jG_iload_n F dX2_blowApart_23 rfl ?_
        refine jG_iald F dX2_blowApart_24 (jpB_x (jhg hg)) rfl (by omega) (by decide) ?_
        refine jG_aload_n F dX2_blowApart_25 rfl ?_
        refine jG_iconst F (v := (3 : Int32)) dX2_blowApart_26 (by decide) ?_
        refine jc_X2_83 F dX2_blowApart_27 (c_X2_drawOff hg (by decide)) (jpG_o hg) (by decide) (Nat.le_refl 0) (Nat.le_refl 0) (Nat.le_of_ble_eq_true rfl) ?_
        refine jG_iadd F dX2_blowApart_30 ?_
        refine jG_istore_n_3n F dX2_blowApart_31 (by decide) ?_
        refine jG_aload_n F dX2_blowApart_32 rfl ?_
        refine jg_X2_12 F dX2_blowApart_33 (jpG_o hg) rfl ?_
        refine jg_X2_73 F dX2_blowApart_36 (jpB_o (jhg hg)) rfl ?_
        refine jG_iload_n F dX2_blowApart_39 rfl ?_
        refine jG_iald F dX2_blowApart_40 (jpB_y (jhg hg)) rfl (by omega) (by decide) ?_
        refine jG_aload_n F dX2_blowApart_41 rfl ?_
        refine jG_iconst F (v := (3 : Int32)) dX2_blowApart_42 (by decide) ?_
        refine jc_X2_83 F dX2_blowApart_43 (c_X2_drawOff hg (by decide)) (jpG_o hg) (by decide) (Nat.le_refl 0) (Nat.le_refl 0) (Nat.le_of_ble_eq_true rfl) ?_
        refine jG_iadd F dX2_blowApart_46 ?_
        refine jG_istore_4n F dX2_blowApart_47 (by decide) ?_
        refine jG_aload_n F dX2_blowApart_49 rfl ?_
        refine jg_X2_12 F dX2_blowApart_50 (jpG_o hg) rfl ?_
        refine jG_iload_n F dX2_blowApart_53 rfl ?_
        refine jG_iload_n F dX2_blowApart_54 rfl ?_
        refine jc_X2_97 F dX2_blowApart_55 (c_X2_nearestOnMat) (by decide) (Nat.le_refl 0) (Nat.le_refl 0) (Nat.le_of_ble_eq_true rfl) ?_
        refine jG_iload F dX2_blowApart_58 rfl ?_
        refine jc_X2_97 F dX2_blowApart_60 (c_X2_nearestOnMat) (by decide) (Nat.le_refl 0) (Nat.le_refl 0) (Nat.le_of_ble_eq_true rfl) ?_
        refine jc_X2_90 F dX2_blowApart_63 (c_X1_bring (jhg hg) (by omega)) (jpB_o (jhg hg)) (by decide) (Nat.le_refl 0) (Nat.le_refl 0) (Nat.le_of_ble_eq_true rfl) ?_
        refine jG_iinc_2 F (w := nI (k + 1)) dX2_blowApart_66 (jinc k) (by decide) ?_
        refine jG_goto F 2 dX2_blowApart_69 (by decide) ?_
        refine jG_eq rfl rfl ?_ (ih _)
        rw [show jblow pl (xs, ys, cv, ly, cu, cd) se (k + 1) = _ from if_neg q]
  refine jG_iconst F (v := nI 0) dX2_blowApart_0 (by decide) ?_
  refine jG_istore_n_2n F dX2_blowApart_1 (by decide) ?_
  exact loop 0 (by decide) []
end GB
