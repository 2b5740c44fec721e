/-! ===== JumpDiscsModel: scatter of none ===== -/
section MV5
variable {l : Launch} {E : jE} {B : List va_E} {m km : Nat} {bd ba bw : Int32} {rm : Nat} {A P K rd rx ry pr qs : Nat → Int32} {v w a b c : Int32} {p t d k : Nat}
theorem c_X6_scatterZ (hB : B.length = m) (hp : p < 4) (hk : k < 5) (hc : 0 ≤ c ∧ c ≤ 2) (hu : pr (5 * p + k) = 0) : jMd l E yX6_scatter cX6_scatter 9 (some .int) 2 [.ref (E.1 + m), .int (nI p), .int (nI k), .int c] (jw9 E B m km false bd ba bw rm A P K rd rx ry pr qs) (some (.int (if c = 2 then 0 else -2))) (jw9 E B m km false bd ba bw rm A P K rd rx ry pr qs) 0 0 := by
  refine jMd_of (by decide) (Nat.le_of_ble_eq_true rfl) (by simp [Value.category]) (by first | rfl | simp [jw9_len]) (fun x hx F T hmm => ?_)
  have hdi := jin_n (k := p) (n := 3) (by omega) (by decide) (m := 3) rfl
  have hki := jin_n (k := k) (n := 4) (by omega) (by decide) (m := 4) rfl
  have e0 : nI 5 * nI p + nI k = nI (5 * p + k) := by rw [pk_mul, nI_add]
  refine jG_iload_n F dX6_scatter_0 rfl ?_
  refine jc_X6_163 F dX6_scatter_1 (c_X6_isPlayer) (by decide) (Nat.le_refl 0) (Nat.le_refl 0) (Nat.le_of_ble_eq_true rfl) ?_
  refine jG_if_eq F 25 dX6_scatter_4 (by decide) (fun qz => absurd qz (by rw [jB01_pos hdi]; decide)) (fun _ => ?_)
  refine jG_iload_n F dX6_scatter_7 rfl ?_
  refine jG_iconst F (v := (0 : Int32)) dX6_scatter_8 (by decide) ?_
  refine jG_iconst F (v := (4 : Int32)) dX6_scatter_9 (by decide) ?_
  refine jc_X6_109 F dX6_scatter_10 (c_X6_in) (by decide) (Nat.le_refl 0) (Nat.le_refl 0) (Nat.le_of_ble_eq_true rfl) ?_
  refine jG_if_eq F 25 dX6_scatter_13 (by decide) (fun qz => absurd qz (by rw [jB01_pos hki]; decide)) (fun _ => ?_)
  refine jG_iload_n F dX6_scatter_16 rfl ?_
  refine jG_iconst F (v := (0 : Int32)) dX6_scatter_17 (by decide) ?_
  refine jG_iconst F (v := (2 : Int32)) dX6_scatter_18 (by decide) ?_
  refine jc_X6_109 F dX6_scatter_19 (c_X6_in) (by decide) (Nat.le_refl 0) (Nat.le_refl 0) (Nat.le_of_ble_eq_true rfl) ?_
  refine jG_if_ne F 27 dX6_scatter_22 (by decide) (fun _ => ?_) (fun qz => absurd qz (by rw [jB01_pos hc]; decide))
  refine jG_aload_n F dX6_scatter_27 rfl ?_
  refine jg_X6_28 F dX6_scatter_28 (jw9_o hB) rfl ?_
  refine jG_iconst F (v := nI 5) dX6_scatter_31 (by decide) ?_
  refine jG_iload_n F dX6_scatter_32 rfl ?_
  refine jG_imul F dX6_scatter_33 ?_
  refine jG_iload_n F dX6_scatter_34 rfl ?_
  refine jG_iadd F dX6_scatter_35 ?_
  refine jG_iald F dX6_scatter_36 (jw9_7 hB) e0 (by omega) (by decide) ?_
  refine jG_istore_4n F dX6_scatter_37 (by decide) ?_
  refine jG_aload_n F dX6_scatter_39 rfl ?_
  refine jg_X6_31 F dX6_scatter_40 (jw9_o hB) rfl ?_
  refine jG_iconst F (v := nI 5) dX6_scatter_43 (by decide) ?_
  refine jG_iload_n F dX6_scatter_44 rfl ?_
  refine jG_imul F dX6_scatter_45 ?_
  refine jG_iload_n F dX6_scatter_46 rfl ?_
  refine jG_iadd F dX6_scatter_47 ?_
  refine jG_iald F dX6_scatter_48 (jw9_8 hB) e0 (by omega) (by decide) ?_
  refine jG_istore_5n F dX6_scatter_49 (by decide) ?_
  refine jG_iload_n F dX6_scatter_51 rfl ?_
  refine jG_iconst F (v := (2 : Int32)) dX6_scatter_52 (by decide) ?_
  refine jG_eq (show _ = [Value.ref (E.1 + m), .int (nI p), .int (nI k), .int c, .int 0, .int (qs (5 * p + k))] by rw [hu]) rfl rfl ?_
  refine jG_icmp_ne F 59 dX6_scatter_53 (by decide) (fun q => ?_) (fun q => ?_)
  · rw [if_neg q] at T
    refine jG_iload F dX6_scatter_59 rfl ?_
    refine jG_if_ne F 67 dX6_scatter_61 (by decide) (fun qz => absurd qz (fun z => z rfl)) (fun _ => ?_)
    refine jG_bipush F (v := (-2 : Int32)) dX6_scatter_64 (by decide) ?_
    exact jG_iret F T (rfl) rfl (by first | rfl | exact jnarb _ | (split <;> rfl)) dX6_scatter_66
  · rw [if_pos q] at T
    refine jG_iload F dX6_scatter_56 rfl ?_
    exact jG_iret F T (rfl) rfl (by first | rfl | exact jnarb _ | (split <;> rfl)) dX6_scatter_58
end MV5
