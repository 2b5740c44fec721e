/-! ===== the model's constructor ===== -/
abbrev mA00 : Nat → Int32 := upd (upd (fun _ => 0) 71 100) 72 1
theorem c_X6_init {l : Launch} {E : jE} {B : List va_E} {m : Nat} {A0 : Nat → Int32} (hB : B.length = m) (hA : mclr mA00 = A0) : jMd l E yX6_init cX6_init 1 none 2 [.ref (E.1 + m)] (B ++ [.inr (6, jbl6)]) none (jw9 E B m 0 false 0 0 0 0 A0 (fun _ => 0) (fun _ => 0) (fun _ => 0) (fun _ => 0) (fun _ => 0) (fun _ => 0) (fun _ => 0)) 8 752 := by
  refine jMd_of (by decide) (Nat.le_of_ble_eq_true rfl) (by simp [Value.category]) (by simp [jw9_len]) (fun x hx F T hm => ?_)
  have kc := jW hB (c_X6_clear (l := jL x) (E := E) (A := mA00) (P := (fun _ => 0)) (jw9_o (km := 0) (o := false) (bd := 0) (ba := 0) (bw := 0) (rm := 0) (A := mA00) (P := (fun _ => 0)) (K := (fun _ => 0)) (rd := (fun _ => 0)) (rx := (fun _ => 0)) (ry := (fun _ => 0)) (pr := (fun _ => 0)) (qs := (fun _ => 0)) hB) (jw9_l hB))
  rw [hA] at kc
  refine jG_aload_n F dX6_init_0 rfl ?_
  refine jo_X6_1 F dX6_init_1 (by decide) (Nat.le_of_ble_eq_true rfl) ?_
  refine jG_aload_n F dX6_init_4 rfl ?_
  refine jG_sipush F (v := nI 128) dX6_init_5 (by decide) ?_
  refine jn_arr F dX6_init_8 rfl (by decide) (by decide) (by decide) ?_
  refine jG_eq rfl (show _ = [Value.ref (E.1 + (m + 1)), Value.ref (E.1 + m)] by rw [japl hB]; rfl) (List.append_assoc _ _ _) ?_
  refine jp_X6_7 F hm dX6_init_10 (jap0 hB rfl) rfl rfl (Nat.le_of_ble_eq_true rfl) ?_
  refine jG_eq rfl rfl (jw9_s hB _ 0 _) ?_
  refine jG_aload_n F dX6_init_13 rfl ?_
  refine jG_sipush F (v := nI 128) dX6_init_14 (by decide) ?_
  refine jn_arr F dX6_init_17 rfl (by decide) (by decide) (by decide) ?_
  refine jG_eq rfl (show _ = [Value.ref (E.1 + (m + 2)), Value.ref (E.1 + m)] by rw [japl hB]; rfl) (List.append_assoc _ _ _) ?_
  refine jp_X6_13 F hm dX6_init_19 (jap0 hB rfl) rfl rfl (Nat.le_of_ble_eq_true rfl) ?_
  refine jG_eq rfl rfl (jw9_s hB _ 0 _) ?_
  refine jG_aload_n F dX6_init_22 rfl ?_
  refine jG_sipush F (v := nI 384) dX6_init_23 (by decide) ?_
  refine jn_arr F dX6_init_26 rfl (by decide) (by decide) (by decide) ?_
  refine jG_eq rfl (show _ = [Value.ref (E.1 + (m + 3)), Value.ref (E.1 + m)] by rw [japl hB]; rfl) (List.append_assoc _ _ _) ?_
  refine jp_X6_16 F hm dX6_init_28 (jap0 hB rfl) rfl rfl (Nat.le_of_ble_eq_true rfl) ?_
  refine jG_eq rfl rfl (jw9_s hB _ 0 _) ?_
  refine jG_aload_n F dX6_init_31 rfl ?_
  refine jG_bipush F (v := nI 24) dX6_init_32 (by decide) ?_
  refine jn_arr F dX6_init_34 rfl (by decide) (by decide) (by decide) ?_
  refine jG_eq rfl (show _ = [Value.ref (E.1 + (m + 4)), Value.ref (E.1 + m)] by rw [japl hB]; rfl) (List.append_assoc _ _ _) ?_
  refine jp_X6_19 F hm dX6_init_36 (jap0 hB rfl) rfl rfl (Nat.le_of_ble_eq_true rfl) ?_
  refine jG_eq rfl rfl (jw9_s hB _ 0 _) ?_
  refine jG_aload_n F dX6_init_39 rfl ?_
  refine jG_bipush F (v := nI 24) dX6_init_40 (by decide) ?_
  refine jn_arr F dX6_init_42 rfl (by decide) (by decide) (by decide) ?_
  refine jG_eq rfl (show _ = [Value.ref (E.1 + (m + 5)), Value.ref (E.1 + m)] by rw [japl hB]; rfl) (List.append_assoc _ _ _) ?_
  refine jp_X6_22 F hm dX6_init_44 (jap0 hB rfl) rfl rfl (Nat.le_of_ble_eq_true rfl) ?_
  refine jG_eq rfl rfl (jw9_s hB _ 0 _) ?_
  refine jG_aload_n F dX6_init_47 rfl ?_
  refine jG_bipush F (v := nI 24) dX6_init_48 (by decide) ?_
  refine jn_arr F dX6_init_50 rfl (by decide) (by decide) (by decide) ?_
  refine jG_eq rfl (show _ = [Value.ref (E.1 + (m + 6)), Value.ref (E.1 + m)] by rw [japl hB]; rfl) (List.append_assoc _ _ _) ?_
  refine jp_X6_25 F hm dX6_init_52 (jap0 hB rfl) rfl rfl (Nat.le_of_ble_eq_true rfl) ?_
  refine jG_eq rfl rfl (jw9_s hB _ 0 _) ?_
  refine jG_aload_n F dX6_init_55 rfl ?_
  refine jG_bipush F (v := nI 20) dX6_init_56 (by decide) ?_
  refine jn_arr F dX6_init_58 rfl (by decide) (by decide) (by decide) ?_
  refine jG_eq rfl (show _ = [Value.ref (E.1 + (m + 7)), Value.ref (E.1 + m)] by rw [japl hB]; rfl) (List.append_assoc _ _ _) ?_
  refine jp_X6_28 F hm dX6_init_60 (jap0 hB rfl) rfl rfl (Nat.le_of_ble_eq_true rfl) ?_
  refine jG_eq rfl rfl (jw9_s hB _ 0 _) ?_
  refine jG_aload_n F dX6_init_63 rfl ?_
  refine jG_bipush F (v := nI 20) dX6_init_64 (by decide) ?_
  refine jn_arr F dX6_init_66 rfl (by decide) (by decide) (by decide) ?_
  refine jG_eq rfl (show _ = [Value.ref (E.1 + (m + 8)), Value.ref (E.1 + m)] by rw [japl hB]; rfl) (List.append_assoc _ _ _) ?_
  refine jp_X6_31 F hm dX6_init_68 (jap0 hB rfl) rfl rfl (Nat.le_of_ble_eq_true rfl) ?_
  refine jG_eq rfl rfl (jw9_s hB _ 0 _) ?_
  refine jG_aload_n F dX6_init_71 rfl ?_
  refine jg_X6_7 F dX6_init_72 (jap0 hB rfl) rfl ?_
  refine jG_bipush F (v := nI 71) dX6_init_75 (by decide) ?_
  refine jG_bipush F (v := (100 : Int32)) dX6_init_77 (by decide) ?_
  refine jG_iast F dX6_init_79 (jap1 hB rfl) rfl (by omega) (by decide) ?_
  refine jG_eq rfl rfl (jw9_s hB _ 1 _) ?_
  refine jG_aload_n F dX6_init_80 rfl ?_
  refine jg_X6_7 F dX6_init_81 (jap0 hB rfl) rfl ?_
  refine jG_bipush F (v := nI 72) dX6_init_84 (by decide) ?_
  refine jG_iconst F (v := (1 : Int32)) dX6_init_86 (by decide) ?_
  refine jG_iast F dX6_init_87 (jap1 hB rfl) rfl (by omega) (by decide) ?_
  refine jG_eq rfl rfl (jw9_s hB _ 1 _) ?_
  refine jG_eq rfl rfl (show _ = jw9 E B m 0 false 0 0 0 0 mA00 (fun _ => 0) (fun _ => 0) (fun _ => 0) (fun _ => 0) (fun _ => 0) (fun _ => 0) (fun _ => 0) from rfl) ?_
  refine jG_aload_n F dX6_init_88 rfl ?_
  refine jc_X6_34 F dX6_init_89 (kc) (jw9_o hB) (by decide) (by decide) (by decide) (Nat.le_of_ble_eq_true rfl) ?_
  exact jG_ret F T (rfl) dX6_init_92
