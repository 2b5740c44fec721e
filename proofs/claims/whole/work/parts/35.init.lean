/-! ===== the constructors ===== -/
theorem jap0 {B L : List va_E} {i : Nat} {e : va_E} (hB : B.length = i) (h : L[0]? = some e) : (B ++ L)[i]? = some e := by
  subst hB
  rw [List.getElem?_append_right (Nat.le_refl _), Nat.sub_self]; exact h
theorem japl {B L : List va_E} {i : Nat} (hB : B.length = i) : (B ++ L).length = i + L.length := by
  rw [List.length_append, hB]
abbrev jB00 : jBT := ((fun _ => 0), (fun _ => 0), (fun _ => 0), 0, 0, 0)
def jB0 : jBT := jallF jB00 16
abbrev jBc (E : jE) (i : Nat) (b : jBT) (r : List va_E) : List va_E := jbo E i b.2.2.2.1 b.2.2.2.2.1 b.2.2.2.2.2 :: jar E 16 b.1 :: jar E 16 b.2.1 :: jar E 16 b.2.2.1 :: r
abbrev jG0 (b0 : jBT) : jGT := (b0, 0, 0, 100, 1, 0, 0, 0)
abbrev jR0 (b0 : jBT) : jRT := ((fun _ => 0), (fun _ => 0), (fun _ => 0), 0, 0, -4, -4, jG0 b0, jG0 b0)
abbrev jC0 (b0 : jBT) : jCT := (jG0 b0, (0, -1, 0), jR0 b0, ((fun _ => 0), (fun _ => 0), (fun _ => 0)), (jG0 b0, jG0 b0, jG0 b0), 0)
theorem jap1 {B L : List va_E} {i : Nat} {e : va_E} (hB : B.length = i) (h : L[1]? = some e) : (B ++ L)[i + 1]? = some e := by
  subst hB
  rw [List.getElem?_append_right (by omega), Nat.add_sub_cancel_left]; exact h
theorem jp6_app {E : jE} {B : List va_E} {i : Nat} {a b c d : va_E} {xs ys cv : Nat → Int32} {ly cu cd : Int32} (hB : B.length = i) : jp6 E (B ++ [a, b, c, d]) i xs ys cv ly cu cd = B ++ [jbo E i ly cu cd, jar E 16 xs, jar E 16 ys, jar E 16 cv] := by
  unfold jp6
  rw [show (B ++ [a, b, c, d]).set i (jbo E i ly cu cd) = B ++ [jbo E i ly cu cd, b, c, d] from jw9_s hB _ 0 _, show (B ++ [jbo E i ly cu cd, b, c, d]).set (i + 1) (jar E 16 xs) = B ++ [jbo E i ly cu cd, jar E 16 xs, c, d] from jw9_s hB _ 1 _, show (B ++ [jbo E i ly cu cd, jar E 16 xs, c, d]).set (i + 2) (jar E 16 ys) = B ++ [jbo E i ly cu cd, jar E 16 xs, jar E 16 ys, d] from jw9_s hB _ 2 _]
  exact jw9_s hB _ 3 _
section IN
variable {l : Launch} {E : jE} {B : List va_E} {i : Nat}
theorem t_base0 (hB : B.length = i) {xs ys cv : Nat → Int32} {ly cu cd : Int32} {b : jBT} (hb : jallF (xs, ys, cv, ly, cu, cd) 16 = b) : jMd l E yX1_bringAllToBase cX1_bringAllToBase 2 none 3 [.ref (E.1 + i)] (B ++ [jbo E i ly cu cd, jar E 16 xs, jar E 16 ys, jar E 16 cv]) none (B ++ jBc E i b []) 0 0 := by
  have k := c_X1_bringAllToBase (l := l) (E := E) (h := B ++ [jbo E i ly cu cd, jar E 16 xs, jar E 16 ys, jar E 16 cv]) (i := i) (xs := xs) (ys := ys) (cv := cv) (ly := ly) (cu := cu) (cd := cd) (by rw [japl hB]; exact Nat.lt_succ_self _)
  rw [hb] at k
  exact jMd_eq (jp6_app hB) rfl (jp6_app hB) k
theorem c_X1_init (hB : B.length = i) : jMd l E yX1_init cX1_init 1 none 4 [.ref (E.1 + i)] (B ++ [.inr (1, jbl1)]) none (B ++ jBc E i jB0 []) 3 48 := by
  refine jMd_of (by decide) (Nat.le_of_ble_eq_true rfl) (by simp [Value.category]) (by simp) (fun x hx F T hm => ?_)
  refine jG_aload_n F dX1_init_0 rfl ?_
  refine jo_X1_3 F dX1_init_1 (by decide) (Nat.le_of_ble_eq_true rfl) ?_
  refine jG_aload_n F dX1_init_4 rfl ?_
  refine jG_bipush F (v := nI 16) dX1_init_5 (by decide) ?_
  refine jn_arr F dX1_init_7 rfl (by decide) (by decide) (by decide) ?_
  refine jG_eq rfl (show _ = [Value.ref (E.1 + (i + 1)), Value.ref (E.1 + i)] by rw [japl hB]; rfl) (List.append_assoc _ _ _) ?_
  refine jp_X1_9 F hm dX1_init_9 (jap0 hB rfl) rfl rfl (Nat.le_of_ble_eq_true rfl) ?_
  refine jG_eq rfl rfl (jw9_s hB _ 0 _) ?_
  refine jG_aload_n F dX1_init_12 rfl ?_
  refine jG_bipush F (v := nI 16) dX1_init_13 (by decide) ?_
  refine jn_arr F dX1_init_15 rfl (by decide) (by decide) (by decide) ?_
  refine jG_eq rfl (show _ = [Value.ref (E.1 + (i + 2)), Value.ref (E.1 + i)] by rw [japl hB]; rfl) (List.append_assoc _ _ _) ?_
  refine jp_X1_15 F hm dX1_init_17 (jap0 hB rfl) rfl rfl (Nat.le_of_ble_eq_true rfl) ?_
  refine jG_eq rfl rfl (jw9_s hB _ 0 _) ?_
  refine jG_aload_n F dX1_init_20 rfl ?_
  refine jG_bipush F (v := nI 16) dX1_init_21 (by decide) ?_
  refine jn_arr F dX1_init_23 rfl (by decide) (by decide) (by decide) ?_
  refine jG_eq rfl (show _ = [Value.ref (E.1 + (i + 3)), Value.ref (E.1 + i)] by rw [japl hB]; rfl) (List.append_assoc _ _ _) ?_
  refine jp_X1_18 F hm dX1_init_25 (jap0 hB rfl) rfl rfl (Nat.le_of_ble_eq_true rfl) ?_
  refine jG_eq rfl rfl (jw9_s hB _ 0 _) ?_
  refine jG_aload_n F dX1_init_28 rfl ?_
  refine jG_iconst F (v := (0 : Int32)) dX1_init_29 (by decide) ?_
  refine jp_X1_21 F dX1_init_30 (jap0 hB rfl) rfl rfl (Nat.le_of_ble_eq_true rfl) ?_
  refine jG_eq rfl rfl (jw9_s hB _ 0 _) ?_
  refine jG_aload_n F dX1_init_33 rfl ?_
  refine jG_iconst F (v := (0 : Int32)) dX1_init_34 (by decide) ?_
  refine jp_X1_25 F dX1_init_35 (jap0 hB rfl) rfl rfl (Nat.le_of_ble_eq_true rfl) ?_
  refine jG_eq rfl rfl (jw9_s hB _ 0 _) ?_
  refine jG_aload_n F dX1_init_38 rfl ?_
  refine jG_iconst F (v := (0 : Int32)) dX1_init_39 (by decide) ?_
  refine jp_X1_28 F dX1_init_40 (jap0 hB rfl) rfl rfl (Nat.le_of_ble_eq_true rfl) ?_
  refine jG_eq rfl rfl (jw9_s hB _ 0 _) ?_
  refine jG_aload_n F dX1_init_43 rfl ?_
  refine jc_X1_31 F dX1_init_44 (t_base0 hB (b := jB0) rfl) (jap0 hB rfl) (by decide) (by decide) (by decide) (Nat.le_of_ble_eq_true rfl) ?_
  exact jG_ret F T (rfl) dX1_init_47
theorem c_X2_init (hB : B.length = i) {b0 : jBT} (hb : jB0 = b0) : jMd l E yX2_init cX2_init 1 none 5 [.ref (E.1 + i)] (B ++ [.inr (2, jbl2)]) none (B ++ jGc E i (jG0 b0) []) 4 54 := by
  refine jMd_of (by decide) (Nat.le_of_ble_eq_true rfl) (by simp [Value.category]) (by simp) (fun x hx F T hm => ?_)
  have kI := fun (B : List va_E) (i : Nat) (hB : B.length = i) => c_X1_init (l := jL x) (E := E) (B := B) (i := i) hB
  rw [hb] at kI
  refine jG_aload_n F dX2_init_0 rfl ?_
  refine jo_X2_3 F dX2_init_1 (by decide) (Nat.le_of_ble_eq_true rfl) ?_
  refine jG_aload_n F dX2_init_4 rfl ?_
  refine jn_X2_9 F dX2_init_5 (by decide) (by decide) ?_
  refine jG_eq rfl (show _ = [Value.ref (E.1 + (i + 1)), Value.ref (E.1 + i)] by rw [japl hB]; rfl) rfl ?_
  refine jG_dup F dX2_init_8 rfl ?_
  refine jc_X2_11 F dX2_init_9 (kI _ (i + 1) (japl hB)) (by decide) (by decide) (by decide) (Nat.le_of_ble_eq_true rfl) ?_
  refine jG_eq rfl rfl (List.append_assoc _ _ _) ?_
  refine jp_X2_12 F hm dX2_init_12 (jap0 hB rfl) rfl rfl (Nat.le_of_ble_eq_true rfl) ?_
  refine jG_eq rfl rfl (jw9_s hB _ 0 _) ?_
  refine jG_aload_n F dX2_init_15 rfl ?_
  refine jG_iconst F (v := (0 : Int32)) dX2_init_16 (by decide) ?_
  refine jp_X2_18 F dX2_init_17 (jap0 hB rfl) rfl rfl (Nat.le_of_ble_eq_true rfl) ?_
  refine jG_eq rfl rfl (jw9_s hB _ 0 _) ?_
  refine jG_aload_n F dX2_init_20 rfl ?_
  refine jG_iconst F (v := (0 : Int32)) dX2_init_21 (by decide) ?_
  refine jp_X2_22 F dX2_init_22 (jap0 hB rfl) rfl rfl (Nat.le_of_ble_eq_true rfl) ?_
  refine jG_eq rfl rfl (jw9_s hB _ 0 _) ?_
  refine jG_aload_n F dX2_init_25 rfl ?_
  refine jG_bipush F (v := (100 : Int32)) dX2_init_26 (by decide) ?_
  refine jp_X2_25 F dX2_init_28 (jap0 hB rfl) rfl rfl (Nat.le_of_ble_eq_true rfl) ?_
  refine jG_eq rfl rfl (jw9_s hB _ 0 _) ?_
  refine jG_aload_n F dX2_init_31 rfl ?_
  refine jG_lconst F (v := 1) dX2_init_32 (by decide) ?_
  refine jp_X2_28 F dX2_init_33 (jap0 hB rfl) rfl rfl (Nat.le_of_ble_eq_true rfl) ?_
  refine jG_eq rfl rfl (jw9_s hB _ 0 _) ?_
  refine jG_aload_n F dX2_init_36 rfl ?_
  refine jG_iconst F (v := nI 0) dX2_init_37 (by decide) ?_
  refine jp_X2_32 F dX2_init_38 (jap0 hB rfl) rfl rfl (Nat.le_of_ble_eq_true rfl) ?_
  refine jG_eq rfl rfl (jw9_s hB _ 0 _) ?_
  refine jG_aload_n F dX2_init_41 rfl ?_
  refine jG_iconst F (v := (0 : Int32)) dX2_init_42 (by decide) ?_
  refine jp_X2_35 F dX2_init_43 (jap0 hB rfl) rfl rfl (Nat.le_of_ble_eq_true rfl) ?_
  refine jG_eq rfl rfl (jw9_s hB _ 0 _) ?_
  refine jG_aload_n F dX2_init_46 rfl ?_
  refine jG_iconst F (v := (0 : Int32)) dX2_init_47 (by decide) ?_
  refine jp_X2_38 F dX2_init_48 (jap0 hB rfl) rfl rfl (Nat.le_of_ble_eq_true rfl) ?_
  refine jG_eq rfl rfl (jw9_s hB _ 0 _) ?_
  exact jG_ret F T (rfl) dX2_init_51
theorem c_X0_init (hB : B.length = i) : jMd l E yX0_init cX0_init 1 none 1 [.ref (E.1 + i)] (B ++ [.inr (0, jbl0)]) none (B ++ [jao 0 (-1) 0]) 0 0 := by
  refine jMd_of (by decide) (Nat.le_of_ble_eq_true rfl) (by simp [Value.category]) (by simp) (fun x hx F T hm => ?_)
  refine jG_aload_n F dX0_init_0 rfl ?_
  refine jo_X0_3 F dX0_init_1 (by decide) (Nat.le_of_ble_eq_true rfl) ?_
  refine jG_aload_n F dX0_init_4 rfl ?_
  refine jG_iconst F (v := (0 : Int32)) dX0_init_5 (by decide) ?_
  refine jp_X0_9 F dX0_init_6 (jap0 hB rfl) rfl rfl (Nat.le_of_ble_eq_true rfl) ?_
  refine jG_eq rfl rfl (jw9_s hB _ 0 _) ?_
  refine jG_aload_n F dX0_init_9 rfl ?_
  refine jG_iconst F (v := (-1 : Int32)) dX0_init_10 (by decide) ?_
  refine jp_X0_15 F dX0_init_11 (jap0 hB rfl) rfl rfl (Nat.le_of_ble_eq_true rfl) ?_
  refine jG_eq rfl rfl (jw9_s hB _ 0 _) ?_
  refine jG_aload_n F dX0_init_14 rfl ?_
  refine jG_iconst F (v := (0 : Int32)) dX0_init_15 (by decide) ?_
  refine jp_X0_18 F dX0_init_16 (jap0 hB rfl) rfl rfl (Nat.le_of_ble_eq_true rfl) ?_
  refine jG_eq rfl rfl (jw9_s hB _ 0 _) ?_
  exact jG_ret F T (rfl) dX0_init_19
theorem c_X4_init (hB : B.length = i) : jMd l E yX4_init cX4_init 1 none 1 [.ref (E.1 + i)] (B ++ [.inr (4, jbl4)]) none (B ++ [jso E i, jar E 20 (fun _ => 0), jar E 20 (fun _ => 0), jar E 4 (fun _ => 0)]) 3 44 := by
  refine jMd_of (by decide) (Nat.le_of_ble_eq_true rfl) (by simp [Value.category]) (by simp) (fun x hx F T hm => ?_)
  refine jG_aload_n F dX4_init_0 rfl ?_
  refine jo_X4_3 F dX4_init_1 (by decide) (Nat.le_of_ble_eq_true rfl) ?_
  refine jG_aload_n F dX4_init_4 rfl ?_
  refine jG_bipush F (v := nI 20) dX4_init_5 (by decide) ?_
  refine jn_arr F dX4_init_7 rfl (by decide) (by decide) (by decide) ?_
  refine jG_eq rfl (show _ = [Value.ref (E.1 + (i + 1)), Value.ref (E.1 + i)] by rw [japl hB]; rfl) (List.append_assoc _ _ _) ?_
  refine jp_X4_9 F hm dX4_init_9 (jap0 hB rfl) rfl rfl (Nat.le_of_ble_eq_true rfl) ?_
  refine jG_eq rfl rfl (jw9_s hB _ 0 _) ?_
  refine jG_aload_n F dX4_init_12 rfl ?_
  refine jG_bipush F (v := nI 20) dX4_init_13 (by decide) ?_
  refine jn_arr F dX4_init_15 rfl (by decide) (by decide) (by decide) ?_
  refine jG_eq rfl (show _ = [Value.ref (E.1 + (i + 2)), Value.ref (E.1 + i)] by rw [japl hB]; rfl) (List.append_assoc _ _ _) ?_
  refine jp_X4_15 F hm dX4_init_17 (jap0 hB rfl) rfl rfl (Nat.le_of_ble_eq_true rfl) ?_
  refine jG_eq rfl rfl (jw9_s hB _ 0 _) ?_
  refine jG_aload_n F dX4_init_20 rfl ?_
  refine jG_iconst F (v := nI 4) dX4_init_21 (by decide) ?_
  refine jn_arr F dX4_init_22 rfl (by decide) (by decide) (by decide) ?_
  refine jG_eq rfl (show _ = [Value.ref (E.1 + (i + 3)), Value.ref (E.1 + i)] by rw [japl hB]; rfl) (List.append_assoc _ _ _) ?_
  refine jp_X4_18 F hm dX4_init_24 (jap0 hB rfl) rfl rfl (Nat.le_of_ble_eq_true rfl) ?_
  refine jG_eq rfl rfl (jw9_s hB _ 0 _) ?_
  exact jG_ret F T (rfl) dX4_init_27
theorem c_X3_init (hB : B.length = i) {b0 : jBT} (hb : jB0 = b0) : jMd l E yX3_init cX3_init 1 none 6 [.ref (E.1 + i)] (B ++ [.inr (3, jbl3)]) none (B ++ (jro E i 0 0 (-4) (-4) :: jar E 24 (fun _ => 0) :: jar E 24 (fun _ => 0) :: jar E 24 (fun _ => 0) :: jGc E (i + 4) (jG0 b0) (jGc E (i + 9) (jG0 b0) []))) 13 196 := by
  refine jMd_of (by decide) (Nat.le_of_ble_eq_true rfl) (by simp [Value.category]) (by simp) (fun x hx F T hm => ?_)
  refine jG_aload_n F dX3_init_0 rfl ?_
  refine jo_X3_3 F dX3_init_1 (by decide) (Nat.le_of_ble_eq_true rfl) ?_
  refine jG_aload_n F dX3_init_4 rfl ?_
  refine jG_bipush F (v := nI 24) dX3_init_5 (by decide) ?_
  refine jn_arr F dX3_init_7 rfl (by decide) (by decide) (by decide) ?_
  refine jG_eq rfl (show _ = [Value.ref (E.1 + (i + 1)), Value.ref (E.1 + i)] by rw [japl hB]; rfl) (List.append_assoc _ _ _) ?_
  refine jp_X3_9 F hm dX3_init_9 (jap0 hB rfl) rfl rfl (Nat.le_of_ble_eq_true rfl) ?_
  refine jG_eq rfl rfl (jw9_s hB _ 0 _) ?_
  refine jG_aload_n F dX3_init_12 rfl ?_
  refine jG_bipush F (v := nI 24) dX3_init_13 (by decide) ?_
  refine jn_arr F dX3_init_15 rfl (by decide) (by decide) (by decide) ?_
  refine jG_eq rfl (show _ = [Value.ref (E.1 + (i + 2)), Value.ref (E.1 + i)] by rw [japl hB]; rfl) (List.append_assoc _ _ _) ?_
  refine jp_X3_15 F hm dX3_init_17 (jap0 hB rfl) rfl rfl (Nat.le_of_ble_eq_true rfl) ?_
  refine jG_eq rfl rfl (jw9_s hB _ 0 _) ?_
  refine jG_aload_n F dX3_init_20 rfl ?_
  refine jG_bipush F (v := nI 24) dX3_init_21 (by decide) ?_
  refine jn_arr F dX3_init_23 rfl (by decide) (by decide) (by decide) ?_
  refine jG_eq rfl (show _ = [Value.ref (E.1 + (i + 3)), Value.ref (E.1 + i)] by rw [japl hB]; rfl) (List.append_assoc _ _ _) ?_
  refine jp_X3_18 F hm dX3_init_25 (jap0 hB rfl) rfl rfl (Nat.le_of_ble_eq_true rfl) ?_
  refine jG_eq rfl rfl (jw9_s hB _ 0 _) ?_
  refine jG_aload_n F dX3_init_28 rfl ?_
  refine jG_iconst F (v := nI 0) dX3_init_29 (by decide) ?_
  refine jp_X3_21 F dX3_init_30 (jap0 hB rfl) rfl rfl (Nat.le_of_ble_eq_true rfl) ?_
  refine jG_eq rfl rfl (jw9_s hB _ 0 _) ?_
  refine jG_aload_n F dX3_init_33 rfl ?_
  refine jG_iconst F (v := (0 : Int32)) dX3_init_34 (by decide) ?_
  refine jp_X3_25 F dX3_init_35 (jap0 hB rfl) rfl rfl (Nat.le_of_ble_eq_true rfl) ?_
  refine jG_eq rfl rfl (jw9_s hB _ 0 _) ?_
  refine jG_aload_n F dX3_init_38 rfl ?_
  refine jG_bipush F (v := (-4 : Int32)) dX3_init_39 (by decide) ?_
  refine jp_X3_28 F dX3_init_41 (jap0 hB rfl) rfl rfl (Nat.le_of_ble_eq_true rfl) ?_
  refine jG_eq rfl rfl (jw9_s hB _ 0 _) ?_
  refine jG_aload_n F dX3_init_44 rfl ?_
  refine jG_bipush F (v := (-4 : Int32)) dX3_init_45 (by decide) ?_
  refine jp_X3_31 F dX3_init_47 (jap0 hB rfl) rfl rfl (Nat.le_of_ble_eq_true rfl) ?_
  refine jG_eq rfl rfl (jw9_s hB _ 0 _) ?_
  refine jG_aload_n F dX3_init_50 rfl ?_
  refine jn_X3_34 F dX3_init_51 (by decide) (by decide) ?_
  refine jG_eq rfl (show _ = [Value.ref (E.1 + (i + 4)), Value.ref (E.1 + i)] by rw [japl hB]; rfl) rfl ?_
  refine jG_dup F dX3_init_54 rfl ?_
  refine jc_X3_36 F dX3_init_55 (c_X2_init (i := i + 4) (japl hB) hb) (by decide) (by decide) (by decide) (Nat.le_of_ble_eq_true rfl) ?_
  refine jG_eq rfl rfl (List.append_assoc _ _ _) ?_
  refine jp_X3_37 F hm dX3_init_58 (jap0 hB rfl) rfl rfl (Nat.le_of_ble_eq_true rfl) ?_
  refine jG_eq rfl rfl (jw9_s hB _ 0 _) ?_
  refine jG_aload_n F dX3_init_61 rfl ?_
  refine jn_X3_34 F dX3_init_62 (by decide) (by decide) ?_
  refine jG_eq rfl (show _ = [Value.ref (E.1 + (i + 9)), Value.ref (E.1 + i)] by rw [japl hB]; rfl) rfl ?_
  refine jG_dup F dX3_init_65 rfl ?_
  refine jc_X3_36 F dX3_init_66 (c_X2_init (i := i + 9) (japl hB) hb) (by decide) (by decide) (by decide) (Nat.le_of_ble_eq_true rfl) ?_
  refine jG_eq rfl rfl (List.append_assoc _ _ _) ?_
  refine jp_X3_41 F hm dX3_init_69 (jap0 hB rfl) rfl rfl (Nat.le_of_ble_eq_true rfl) ?_
  refine jG_eq rfl rfl (jw9_s hB _ 0 _) ?_
  exact jG_ret F T (rfl) dX3_init_72
theorem jkf_up {E : jE} : va_up (va_up (va_up (fun _ => none) 0 (some (E.1 + 26))) 1 (some (E.1 + 31))) 2 (some (E.1 + 36)) = jkf E := by
  funext k
  simp only [va_up, jkf]
  by_cases h2 : k = 2
  · subst h2; simp
  · by_cases h1 : k = 1
    · subst h1; simp
    · by_cases h0 : k = 0
      · subst h0; simp
      · simp [h0, h1, h2]
/-- the same, the kept row's references told apart -/
def jtopK (E : jE) (C : jCT) (kf : Nat → Option Nat) (M : List va_E) : List va_E := (jtop E C M).set 25 (jgr E 3 kf)
theorem jtop_kf {b0 : jBT} : jtopK E (jC0 b0) (va_up (va_up (va_up (fun _ => none) 0 (some (E.1 + 26))) 1 (some (E.1 + 31))) 2 (some (E.1 + 36))) [] = jtop E (jC0 b0) [] := by
  rw [jkf_up]; rfl
theorem c_X5_init {b0 : jBT} (hb : jB0 = b0) : jMd l E yX5_init cX5_init 2 none 7 [.ref (E.1 + 0)] [.inr (5, jbl5)] none (jtop E (jC0 b0) []) 40 506 := by
  refine jMd_of (by decide) (Nat.le_of_ble_eq_true rfl) (by simp [Value.category]) (by rw [jtop_len]; rfl) (fun x hx F T hm => ?_)
  have hB : ([] : List va_E).length = 0 := rfl
  refine jG_eq rfl rfl (show _ = [] ++ [Sum.inr (5, jbl5)] from rfl) ?_
  refine jG_aload_n F dX5_init_0 rfl ?_
  refine jo_X5_1 F dX5_init_1 (by decide) (Nat.le_of_ble_eq_true rfl) ?_
  refine jG_aload_n F dX5_init_4 rfl ?_
  refine jn_X5_7 F dX5_init_5 (by decide) (by decide) ?_
  refine jG_eq rfl (show _ = [Value.ref (E.1 + (0 + 1)), Value.ref (E.1 + 0)] from rfl) rfl ?_
  refine jG_dup F dX5_init_8 rfl ?_
  refine jc_X5_9 F dX5_init_9 (c_X2_init (i := 0 + 1) (japl hB) hb) (by decide) (by decide) (by decide) (Nat.le_of_ble_eq_true rfl) ?_
  refine jG_eq rfl rfl (List.append_assoc _ _ _) ?_
  refine jp_X5_10 F hm dX5_init_12 (jap0 hB rfl) rfl rfl (Nat.le_of_ble_eq_true rfl) ?_
  refine jG_eq rfl rfl (jw9_s hB _ 0 _) ?_
  refine jG_aload_n F dX5_init_15 rfl ?_
  refine jn_X5_16 F dX5_init_16 (by decide) (by decide) ?_
  refine jG_eq rfl (show _ = [Value.ref (E.1 + (0 + 6)), Value.ref (E.1 + 0)] from rfl) rfl ?_
  refine jG_dup F dX5_init_19 rfl ?_
  refine jc_X5_18 F dX5_init_20 (c_X0_init (i := 0 + 6) (japl hB)) (by decide) (by decide) (by decide) (Nat.le_of_ble_eq_true rfl) ?_
  refine jG_eq rfl rfl (List.append_assoc _ _ _) ?_
  refine jp_X5_19 F hm dX5_init_23 (jap0 hB rfl) rfl rfl (Nat.le_of_ble_eq_true rfl) ?_
  refine jG_eq rfl rfl (jw9_s hB _ 0 _) ?_
  refine jG_aload_n F dX5_init_26 rfl ?_
  refine jn_X5_23 F dX5_init_27 (by decide) (by decide) ?_
  refine jG_eq rfl (show _ = [Value.ref (E.1 + (0 + 7)), Value.ref (E.1 + 0)] from rfl) rfl ?_
  refine jG_dup F dX5_init_30 rfl ?_
  refine jc_X5_25 F dX5_init_31 (c_X3_init (i := 0 + 7) (japl hB) hb) (by decide) (by decide) (by decide) (Nat.le_of_ble_eq_true rfl) ?_
  refine jG_eq rfl rfl (List.append_assoc _ _ _) ?_
  refine jp_X5_26 F hm dX5_init_34 (jap0 hB rfl) rfl rfl (Nat.le_of_ble_eq_true rfl) ?_
  refine jG_eq rfl rfl (jw9_s hB _ 0 _) ?_
  refine jG_aload_n F dX5_init_37 rfl ?_
  refine jn_X5_30 F dX5_init_38 (by decide) (by decide) ?_
  refine jG_eq rfl (show _ = [Value.ref (E.1 + (0 + 21)), Value.ref (E.1 + 0)] from rfl) rfl ?_
  refine jG_dup F dX5_init_41 rfl ?_
  refine jc_X5_32 F dX5_init_42 (c_X4_init (i := 0 + 21) (japl hB)) (by decide) (by decide) (by decide) (Nat.le_of_ble_eq_true rfl) ?_
  refine jG_eq rfl rfl (List.append_assoc _ _ _) ?_
  refine jp_X5_33 F hm dX5_init_45 (jap0 hB rfl) rfl rfl (Nat.le_of_ble_eq_true rfl) ?_
  refine jG_eq rfl rfl (jw9_s hB _ 0 _) ?_
  refine jG_aload_n F dX5_init_48 rfl ?_
  refine jG_iconst F (v := nI 3) dX5_init_49 (by decide) ?_
  refine jq_X5_7 F dX5_init_50 rfl (by decide) (by decide) (by decide) ?_
  refine jG_eq rfl (show _ = [Value.ref (E.1 + (0 + 25)), Value.ref (E.1 + 0)] from rfl) (List.append_assoc _ _ _) ?_
  refine jp_X5_37 F hm dX5_init_53 (jap0 hB rfl) rfl rfl (Nat.le_of_ble_eq_true rfl) ?_
  refine jG_eq rfl rfl (jw9_s hB _ 0 _) ?_
  refine jG_aload_n F dX5_init_56 rfl ?_
  refine jG_iconst F (v := nI 0) dX5_init_57 (by decide) ?_
  refine jp_X5_41 F dX5_init_58 (jap0 hB rfl) rfl rfl (Nat.le_of_ble_eq_true rfl) ?_
  refine jG_eq rfl rfl (jw9_s hB _ 0 _) ?_
  refine jG_iconst F (v := nI 0) dX5_init_61 (by decide) ?_
  refine jG_istore_n_1n F dX5_init_62 (by decide) ?_
  refine jG_iload_n F dX5_init_63 rfl ?_
  refine jG_iconst F (v := nI 3) dX5_init_64 (by decide) ?_
  refine jG_icmp_ge F 87 dX5_init_65 (by decide) (fun q => absurd q (nI_ge (show 0 < 3 by decide) (by decide))) (fun _ => ?_)
  refine jG_aload_n F dX5_init_68 rfl ?_
  refine jg_X5_37 F dX5_init_69 (jap0 hB rfl) rfl ?_
  refine jG_iload_n F dX5_init_72 rfl ?_
  refine jn_X5_7 F dX5_init_73 (by decide) (by decide) ?_
  refine jG_eq rfl (show _ = [Value.ref (E.1 + (0 + 26)), .int (nI 0), Value.ref (E.1 + (0 + 25))] from rfl) rfl ?_
  refine jG_dup F dX5_init_76 rfl ?_
  refine jc_X5_9 F dX5_init_77 (c_X2_init (i := 0 + 26) (japl hB) hb) (by decide) (by decide) (by decide) (Nat.le_of_ble_eq_true rfl) ?_
  refine jG_eq rfl rfl (List.append_assoc _ _ _) ?_
  refine jG_aastore F dX5_init_80 rfl rfl rfl (show 0 < 3 by decide) (by decide) ?_
  refine jG_eq rfl rfl (jw9_s hB _ 25 _) ?_
  refine jG_iinc_1 F (w := nI 1) dX5_init_81 (jinc 0) (by decide) ?_
  refine jG_goto F 63 dX5_init_84 (by decide) ?_
  refine jG_iload_n F dX5_init_63 rfl ?_
  refine jG_iconst F (v := nI 3) dX5_init_64 (by decide) ?_
  refine jG_icmp_ge F 87 dX5_init_65 (by decide) (fun q => absurd q (nI_ge (show 1 < 3 by decide) (by decide))) (fun _ => ?_)
  refine jG_aload_n F dX5_init_68 rfl ?_
  refine jg_X5_37 F dX5_init_69 (jap0 hB rfl) rfl ?_
  refine jG_iload_n F dX5_init_72 rfl ?_
  refine jn_X5_7 F dX5_init_73 (by decide) (by decide) ?_
  refine jG_eq rfl (show _ = [Value.ref (E.1 + (0 + 31)), .int (nI 1), Value.ref (E.1 + (0 + 25))] from rfl) rfl ?_
  refine jG_dup F dX5_init_76 rfl ?_
  refine jc_X5_9 F dX5_init_77 (c_X2_init (i := 0 + 31) (japl hB) hb) (by decide) (by decide) (by decide) (Nat.le_of_ble_eq_true rfl) ?_
  refine jG_eq rfl rfl (List.append_assoc _ _ _) ?_
  refine jG_aastore F dX5_init_80 rfl rfl rfl (show 1 < 3 by decide) (by decide) ?_
  refine jG_eq rfl rfl (jw9_s hB _ 25 _) ?_
  refine jG_iinc_1 F (w := nI 2) dX5_init_81 (jinc 1) (by decide) ?_
  refine jG_goto F 63 dX5_init_84 (by decide) ?_
  refine jG_iload_n F dX5_init_63 rfl ?_
  refine jG_iconst F (v := nI 3) dX5_init_64 (by decide) ?_
  refine jG_icmp_ge F 87 dX5_init_65 (by decide) (fun q => absurd q (nI_ge (show 2 < 3 by decide) (by decide))) (fun _ => ?_)
  refine jG_aload_n F dX5_init_68 rfl ?_
  refine jg_X5_37 F dX5_init_69 (jap0 hB rfl) rfl ?_
  refine jG_iload_n F dX5_init_72 rfl ?_
  refine jn_X5_7 F dX5_init_73 (by decide) (by decide) ?_
  refine jG_eq rfl (show _ = [Value.ref (E.1 + (0 + 36)), .int (nI 2), Value.ref (E.1 + (0 + 25))] from rfl) rfl ?_
  refine jG_dup F dX5_init_76 rfl ?_
  refine jc_X5_9 F dX5_init_77 (c_X2_init (i := 0 + 36) (japl hB) hb) (by decide) (by decide) (by decide) (Nat.le_of_ble_eq_true rfl) ?_
  refine jG_eq rfl rfl (List.append_assoc _ _ _) ?_
  refine jG_aastore F dX5_init_80 rfl rfl rfl (show 2 < 3 by decide) (by decide) ?_
  refine jG_eq rfl rfl (jw9_s hB _ 25 _) ?_
  refine jG_iinc_1 F (w := nI 3) dX5_init_81 (jinc 2) (by decide) ?_
  refine jG_goto F 63 dX5_init_84 (by decide) ?_
  refine jG_iload_n F dX5_init_63 rfl ?_
  refine jG_iconst F (v := nI 3) dX5_init_64 (by decide) ?_
  refine jG_icmp_ge F 87 dX5_init_65 (by decide) (fun _ => ?_) (fun q => absurd (nI_le (Nat.le_refl 3) (by decide)) q)
  rw [← jtop_kf] at T
  exact jG_ret F T (rfl) dX5_init_87
end IN
