/-! ===== keep and back ===== -/
section XKB
variable {l : Launch} {E : jE} {C : jCT} {M : List va_E}
theorem c_X5_keepF (h : ¬ C.2.2.2.2.2 < 3) (h3 : C.2.2.2.2.2 ≤ 3) : jMd l E yX5_keep cX5_keep 2 (some .int) 3 [.ref (E.1 + 0)] (jtop E C M) (some (.int (-3))) (jtop E C M) 0 0 := by
  refine jMd_of (by decide) (Nat.le_of_ble_eq_true rfl) (by simp [Value.category]) (by first | rfl | simp [jtop_len]) (fun x hx F T hm => ?_)
  refine jG_aload_n F dX5_keep_0 rfl ?_
  refine jg_X5_41 F dX5_keep_1 jtop_o rfl ?_
  refine jG_iconst F (v := nI 3) dX5_keep_4 (by decide) ?_
  refine jG_icmp_lt F 11 dX5_keep_5 (by decide) (fun qz => absurd qz (fun z => h ((nI_ltI (by omega) (by decide)).mp z))) (fun _ => ?_)
  refine jG_bipush F (v := (-3 : Int32)) dX5_keep_8 (by decide) ?_
  exact jG_iret F T (rfl) rfl (by first | rfl | exact jnarb _ | (split <;> rfl)) dX5_keep_10
/-- the kept games with the n-th set -/
def jkset (K : jGT × jGT × jGT) (n : Nat) (G : jGT) : jGT × jGT × jGT := if n = 0 then (G, K.2) else if n = 1 then (K.1, G, K.2.2) else (K.1, K.2.1, G)
def jkget (K : jGT × jGT × jGT) (n : Nat) : jGT := if n = 0 then K.1 else if n = 1 then K.2.1 else K.2.2
def jkad (n : Nat) : Nat := if n = 0 then 26 else if n = 1 then 31 else 36
theorem t_copyK {n : Nat} (hn : n < 3) : jMd l E yX2_copyFrom cX2_copyFrom 2 none 2 [.ref (E.1 + jkad n), .ref (E.1 + 1)] (jtop E C M) none (jtop E (C.1, C.2.1, C.2.2.1, C.2.2.2.1, jkset C.2.2.2.2.1 n C.1, C.2.2.2.2.2) M) 0 0 := by
  have hB : jisB E (jtop E C M) (1 + 1) C.1.1 := ⟨rfl, rfl, rfl, rfl⟩
  rcases (show n = 0 ∨ n = 1 ∨ n = 2 by omega) with rfl | rfl | rfl
  · exact jMd_eq (jtop_K0 C.2.2.2.2.1.1) rfl (jtop_K0 C.1) (c_X2_copyFrom (g := 26) (g2 := 1) (B := C.1.1) (jtop_gt (by decide)) (by decide) (rfl : (jtop E C M)[1]? = some (jgo E 1 C.1.2.1 C.1.2.2.1 C.1.2.2.2.1 C.1.2.2.2.2.1 C.1.2.2.2.2.2.1 C.1.2.2.2.2.2.2.1 C.1.2.2.2.2.2.2.2)) hB)
  · exact jMd_eq (jtop_K1 C.2.2.2.2.1.2.1) rfl (jtop_K1 C.1) (c_X2_copyFrom (g := 31) (g2 := 1) (B := C.1.1) (jtop_gt (by decide)) (by decide) (rfl : (jtop E C M)[1]? = some (jgo E 1 C.1.2.1 C.1.2.2.1 C.1.2.2.2.1 C.1.2.2.2.2.1 C.1.2.2.2.2.2.1 C.1.2.2.2.2.2.2.1 C.1.2.2.2.2.2.2.2)) hB)
  · exact jMd_eq (jtop_K2 C.2.2.2.2.1.2.2) rfl (jtop_K2 C.1) (c_X2_copyFrom (g := 36) (g2 := 1) (B := C.1.1) (jtop_gt (by decide)) (by decide) (rfl : (jtop E C M)[1]? = some (jgo E 1 C.1.2.1 C.1.2.2.1 C.1.2.2.2.1 C.1.2.2.2.2.1 C.1.2.2.2.2.2.1 C.1.2.2.2.2.2.2.1 C.1.2.2.2.2.2.2.2)) hB)
theorem t_copyN {n : Nat} (hn : n < 3) : jMd l E yX2_copyFrom cX2_copyFrom 2 none 2 [.ref (E.1 + 1), .ref (E.1 + jkad n)] (jtop E C M) none (jtop E (jkget C.2.2.2.2.1 n, C.2) M) 0 0 := by
  rcases (show n = 0 ∨ n = 1 ∨ n = 2 by omega) with rfl | rfl | rfl
  · exact jMd_eq (jtop_N C.1) rfl (jtop_N C.2.2.2.2.1.1) (c_X2_copyFrom (g := 1) (g2 := 26) (B := C.2.2.2.2.1.1.1) (jtop_gt (by decide)) (by decide) (rfl : (jtop E C M)[26]? = some (jgo E 26 C.2.2.2.2.1.1.2.1 C.2.2.2.2.1.1.2.2.1 C.2.2.2.2.1.1.2.2.2.1 C.2.2.2.2.1.1.2.2.2.2.1 C.2.2.2.2.1.1.2.2.2.2.2.1 C.2.2.2.2.1.1.2.2.2.2.2.2.1 C.2.2.2.2.1.1.2.2.2.2.2.2.2)) ⟨rfl, rfl, rfl, rfl⟩)
  · exact jMd_eq (jtop_N C.1) rfl (jtop_N C.2.2.2.2.1.2.1) (c_X2_copyFrom (g := 1) (g2 := 31) (B := C.2.2.2.2.1.2.1.1) (jtop_gt (by decide)) (by decide) (rfl : (jtop E C M)[31]? = some (jgo E 31 C.2.2.2.2.1.2.1.2.1 C.2.2.2.2.1.2.1.2.2.1 C.2.2.2.2.1.2.1.2.2.2.1 C.2.2.2.2.1.2.1.2.2.2.2.1 C.2.2.2.2.1.2.1.2.2.2.2.2.1 C.2.2.2.2.1.2.1.2.2.2.2.2.2.1 C.2.2.2.2.1.2.1.2.2.2.2.2.2.2)) ⟨rfl, rfl, rfl, rfl⟩)
  · exact jMd_eq (jtop_N C.1) rfl (jtop_N C.2.2.2.2.1.2.2) (c_X2_copyFrom (g := 1) (g2 := 36) (B := C.2.2.2.2.1.2.2.1) (jtop_gt (by decide)) (by decide) (rfl : (jtop E C M)[36]? = some (jgo E 36 C.2.2.2.2.1.2.2.2.1 C.2.2.2.2.1.2.2.2.2.1 C.2.2.2.2.1.2.2.2.2.2.1 C.2.2.2.2.1.2.2.2.2.2.2.1 C.2.2.2.2.1.2.2.2.2.2.2.2.1 C.2.2.2.2.1.2.2.2.2.2.2.2.2.1 C.2.2.2.2.1.2.2.2.2.2.2.2.2.2)) ⟨rfl, rfl, rfl, rfl⟩)
theorem jkf_at {n : Nat} (hn : n < 3) : jkf E n = some (E.1 + jkad n) := by
  rcases (show n = 0 ∨ n = 1 ∨ n = 2 by omega) with rfl | rfl | rfl <;> rfl
theorem jkad_o {n : Nat} (hn : n < 3) : ∃ fs, (jtop E C M)[jkad n]? = some (.inr (2, fs)) := by
  rcases (show n = 0 ∨ n = 1 ∨ n = 2 by omega) with rfl | rfl | rfl
  · exact ⟨_, (rfl : (jtop E C M)[26]? = some (jgo E 26 _ _ _ _ _ _ _))⟩
  · exact ⟨_, (rfl : (jtop E C M)[31]? = some (jgo E 31 _ _ _ _ _ _ _))⟩
  · exact ⟨_, (rfl : (jtop E C M)[36]? = some (jgo E 36 _ _ _ _ _ _ _))⟩
theorem c_X5_keep {K' : jGT × jGT × jGT} (hK : jkset C.2.2.2.2.1 C.2.2.2.2.2 C.1 = K') (h : C.2.2.2.2.2 < 3) : jMd l E yX5_keep cX5_keep 2 (some .int) 3 [.ref (E.1 + 0)] (jtop E C M) (some (.int (nI (C.2.2.2.2.2 + 1)))) (jtop E (C.1, C.2.1, C.2.2.1, C.2.2.2.1, K', C.2.2.2.2.2 + 1) M) 0 0 := by
  refine jMd_of (by decide) (Nat.le_of_ble_eq_true rfl) (by simp [Value.category]) (by first | rfl | simp [jtop_len]) (fun x hx F T hm => ?_)
  obtain ⟨fs, ho⟩ := jkad_o (E := E) (C := C) (M := M) h
  have k1 := t_copyK (l := jL x) (E := E) (C := C) (M := M) h
  rw [hK] at k1
  refine jG_aload_n F dX5_keep_0 rfl ?_
  refine jg_X5_41 F dX5_keep_1 jtop_o rfl ?_
  refine jG_iconst F (v := nI 3) dX5_keep_4 (by decide) ?_
  refine jG_icmp_lt F 11 dX5_keep_5 (by decide) (fun _ => ?_) (fun qz => absurd (nI_lt h (by decide)) qz)
  refine jG_aload_n F dX5_keep_11 rfl ?_
  refine jg_X5_37 F dX5_keep_12 jtop_o rfl ?_
  refine jG_aload_n F dX5_keep_15 rfl ?_
  refine jg_X5_41 F dX5_keep_16 jtop_o rfl ?_
  refine jG_aaload F dX5_keep_19 jtop_k rfl h (by decide) (jkf_at h) ?_
  refine jG_aload_n F dX5_keep_20 rfl ?_
  refine jg_X5_10 F dX5_keep_21 jtop_o rfl ?_
  refine jc_X5_217 F dX5_keep_24 (k1) ho (by decide) (Nat.le_refl 0) (Nat.le_refl 0) (Nat.le_of_ble_eq_true rfl) ?_
  refine jG_aload_n F dX5_keep_27 rfl ?_
  refine jG_dup F dX5_keep_28 rfl ?_
  refine jg_X5_41 F dX5_keep_29 jtop_o rfl ?_
  refine jG_iconst F (v := nI 1) dX5_keep_32 (by decide) ?_
  refine jG_iadd F dX5_keep_33 ?_
  refine jG_eq rfl (congrArg (fun z => [Value.int z, Value.ref (E.1 + 0)]) (nI_add C.2.2.2.2.2 1)) rfl ?_
  refine jp_X5_41 F dX5_keep_34 jtop_o rfl rfl (Nat.le_of_ble_eq_true rfl) ?_
  refine jG_eq rfl rfl jtop_kc ?_
  refine jG_aload_n F dX5_keep_37 rfl ?_
  refine jg_X5_41 F dX5_keep_38 jtop_o rfl ?_
  exact jG_iret F T (rfl) rfl (by first | rfl | exact jnarb _ | (split <;> rfl)) dX5_keep_41
theorem c_X5_backN (h : C.2.2.2.2.2 = 0) : jMd l E yX5_back cX5_back 1 (some .int) 3 [.ref (E.1 + 0)] (jtop E C M) (some (.int (-2))) (jtop E C M) 0 0 := by
  refine jMd_of (by decide) (Nat.le_of_ble_eq_true rfl) (by simp [Value.category]) (by first | rfl | simp [jtop_len]) (fun x hx F T hm => ?_)
  refine jG_aload_n F dX5_back_0 rfl ?_
  refine jg_X5_41 F dX5_back_1 jtop_o rfl ?_
  refine jG_if_gt F 10 dX5_back_4 (by decide) (fun qz => absurd qz (by rw [h]; decide)) (fun _ => ?_)
  refine jG_bipush F (v := (-2 : Int32)) dX5_back_7 (by decide) ?_
  exact jG_iret F T (rfl) rfl (by first | rfl | exact jnarb _ | (split <;> rfl)) dX5_back_9
theorem c_X5_back {n : Nat} {G' : jGT} (hn : C.2.2.2.2.2 = n + 1) (h3 : n < 3) (hG : jkget C.2.2.2.2.1 n = G') : jMd l E yX5_back cX5_back 1 (some .int) 3 [.ref (E.1 + 0)] (jtop E C M) (some (.int (nI n))) (jtop E (G', C.2.1, C.2.2.1, C.2.2.2.1, C.2.2.2.2.1, n) M) 0 0 := by
  refine jMd_of (by decide) (Nat.le_of_ble_eq_true rfl) (by simp [Value.category]) (by first | rfl | simp [jtop_len]) (fun x hx F T hm => ?_)
  have k1 := t_copyN (l := jL x) (E := E) (C := (C.1, C.2.1, C.2.2.1, C.2.2.2.1, C.2.2.2.2.1, n)) (M := M) h3
  rw [show jkget (C.1, C.2.1, C.2.2.1, C.2.2.2.1, C.2.2.2.2.1, n).2.2.2.2.1 n = G' from hG] at k1
  refine jG_aload_n F dX5_back_0 rfl ?_
  refine jg_X5_41 F dX5_back_1 jtop_o rfl ?_
  refine jG_if_gt F 10 dX5_back_4 (by decide) (fun _ => ?_) (fun qz => absurd (by rw [hn, ← nI_0]; exact nI_lt (by omega) (by omega)) qz)
  refine jG_aload_n F dX5_back_10 rfl ?_
  refine jG_dup F dX5_back_11 rfl ?_
  refine jg_X5_41 F dX5_back_12 jtop_o rfl ?_
  refine jG_iconst F (v := 1) dX5_back_15 (by decide) ?_
  refine jG_isub F dX5_back_16 ?_
  refine jG_eq rfl (show _ = [Value.int (nI n), Value.ref (E.1 + 0)] by rw [hn, nI_pred]) rfl ?_
  refine jp_X5_41 F dX5_back_17 jtop_o rfl rfl (Nat.le_of_ble_eq_true rfl) ?_
  refine jG_eq rfl rfl jtop_kc ?_
  refine jG_aload_n F dX5_back_20 rfl ?_
  refine jg_X5_10 F dX5_back_21 jtop_o rfl ?_
  refine jG_aload_n F dX5_back_24 rfl ?_
  refine jg_X5_37 F dX5_back_25 jtop_o rfl ?_
  refine jG_aload_n F dX5_back_28 rfl ?_
  refine jg_X5_41 F dX5_back_29 jtop_o rfl ?_
  refine jG_aaload F dX5_back_32 (jtop_k (C := (C.1, C.2.1, C.2.2.1, C.2.2.2.1, C.2.2.2.2.1, n))) rfl h3 (by decide) (jkf_at h3) ?_
  refine jc_X5_217 F dX5_back_33 (k1) jtop_n (by decide) (Nat.le_refl 0) (Nat.le_refl 0) (Nat.le_of_ble_eq_true rfl) ?_
  refine jG_aload_n F dX5_back_36 rfl ?_
  refine jg_X5_41 F dX5_back_37 jtop_o rfl ?_
  exact jG_iret F T (rfl) rfl (by first | rfl | exact jnarb _ | (split <;> rfl)) dX5_back_40
end XKB
