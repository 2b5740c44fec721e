/-! ===== keep, with the locals that its code has ===== -/
section XKC
variable {l : Launch} {E : jE} {C : jCT} {M : List va_E}
theorem c_X5_keepF1 (h : ¬ C.2.2.2.2.2 < 3) (h3 : C.2.2.2.2.2 ≤ 3) : jMd l E yX5_keep cX5_keep 1 (some .int) 3 [.ref (E.1 + 0)] (jtop E C M) (some (.int (-3))) (jtop E C M) 0 0 := by
  refine jMd_of (by decide) (Nat.le_of_ble_eq_true rfl) (by simp [Value.category]) (by first | rfl | simp [jtop_len]) (fun x hx F T hm => ?_)
  refine jG_aload_n F dX5_keep_0 rfl ?_
  refine jg_X5_41 F dX5_keep_1 jtop_o rfl ?_
  refine jG_iconst F (v := nI 3) dX5_keep_4 (by decide) ?_
  refine jG_icmp_lt F 11 dX5_keep_5 (by decide) (fun qz => absurd qz (fun z => h ((nI_ltI (by omega) (by decide)).mp z))) (fun _ => ?_)
  refine jG_bipush F (v := (-3 : Int32)) dX5_keep_8 (by decide) ?_
  exact jG_iret F T (rfl) rfl (by first | rfl | exact jnarb _ | (split <;> rfl)) dX5_keep_10
theorem c_X5_keep1 {K' : jGT × jGT × jGT} (hK : jkset C.2.2.2.2.1 C.2.2.2.2.2 C.1 = K') (h : C.2.2.2.2.2 < 3) : jMd l E yX5_keep cX5_keep 1 (some .int) 3 [.ref (E.1 + 0)] (jtop E C M) (some (.int (nI (C.2.2.2.2.2 + 1)))) (jtop E (C.1, C.2.1, C.2.2.1, C.2.2.2.1, K', C.2.2.2.2.2 + 1) M) 0 0 := by
  refine jMd_of (by decide) (Nat.le_of_ble_eq_true rfl) (by simp [Value.category]) (by first | rfl | simp [jtop_len]) (fun x hx F T hm => ?_)
  obtain ⟨fs, ho⟩ := jkad_o (E := E) (C := C) (M := M) h
  have k1 := t_copyK (l := jL x) (E := E) (C := C) (M := M) h
  rw [hK] at k1
  refine jG_aload_n F dX5_keep_0 rfl ?_
  refine jg_X5_41 F dX5_keep_1 jtop_o rfl ?_
  refine jG_iconst F (v := nI 3) dX5_keep_4 (by decide) ?_
  refine jG_icmp_lt F 11 dX5_keep_5 (by decide) (fun _ => ?_) (fun qz => absurd (nI_lt h (by decide)) qz)
  refine jG_aload_n F dX5_keep_11 rfl ?_
  refine jg_X5_37 F dX5_keep_12 jtop_o rfl ?_
  refine jG_aload_n F dX5_keep_15 rfl ?_
  refine jg_X5_41 F dX5_keep_16 jtop_o rfl ?_
  refine jG_aaload F dX5_keep_19 jtop_k rfl h (by decide) (jkf_at h) ?_
  refine jG_aload_n F dX5_keep_20 rfl ?_
  refine jg_X5_10 F dX5_keep_21 jtop_o rfl ?_
  refine jc_X5_217 F dX5_keep_24 (k1) ho (by decide) (Nat.le_refl 0) (Nat.le_refl 0) (Nat.le_of_ble_eq_true rfl) ?_
  refine jG_aload_n F dX5_keep_27 rfl ?_
  refine jG_dup F dX5_keep_28 rfl ?_
  refine jg_X5_41 F dX5_keep_29 jtop_o rfl ?_
  refine jG_iconst F (v := nI 1) dX5_keep_32 (by decide) ?_
  refine jG_iadd F dX5_keep_33 ?_
  refine jG_eq rfl (congrArg (fun z => [Value.int z, Value.ref (E.1 + 0)]) (nI_add C.2.2.2.2.2 1)) rfl ?_
  refine jp_X5_41 F dX5_keep_34 jtop_o rfl rfl (Nat.le_of_ble_eq_true rfl) ?_
  refine jG_eq rfl rfl jtop_kc ?_
  refine jG_aload_n F dX5_keep_37 rfl ?_
  refine jg_X5_41 F dX5_keep_38 jtop_o rfl ?_
  exact jG_iret F T (rfl) rfl (by first | rfl | exact jnarb _ | (split <;> rfl)) dX5_keep_41
end XKC
