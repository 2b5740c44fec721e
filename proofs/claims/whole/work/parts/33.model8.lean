/-! ===== JumpDiscsModel: places that can be, scatter, kept boards, counts ===== -/
section MV4
variable {l : Launch} {E : jE} {B : List va_E} {m km : Nat} {bd ba bw : Int32} {rm : Nat} {A P K rd rx ry pr qs : Nat → Int32} {v w a b c : Int32} {p t d k : Nat}
theorem c_X6_canBeB (hB : B.length = m) (h : ¬ (0 ≤ a ∧ a ≤ 1)) : jMd l E yX6_canBe cX6_canBe 7 (some .int) 10 [.ref (E.1 + m), .int a] (jw9 E B m km false bd ba bw rm A P K rd rx ry pr qs) (some (.int (-1))) (jw9 E B m km false bd ba bw rm A P K rd rx ry pr qs) 0 0 := by
  refine jMd_of (by decide) (Nat.le_of_ble_eq_true rfl) (by simp [Value.category]) (by first | rfl | simp [jw9_len]) (fun x hx F T hmm => ?_)
  refine jG_iload_n F dX6_canBe_0 rfl ?_
  refine jG_iconst F (v := (0 : Int32)) dX6_canBe_1 (by decide) ?_
  refine jG_iconst F (v := (1 : Int32)) dX6_canBe_2 (by decide) ?_
  refine jc_X6_109 F dX6_canBe_3 (c_X6_in) (by decide) (Nat.le_refl 0) (Nat.le_refl 0) (Nat.le_of_ble_eq_true rfl) ?_
  refine jG_if_ne F 11 dX6_canBe_6 (by decide) (fun qz => absurd qz (fun z => h (jB01_ne z))) (fun _ => ?_)
  refine jG_iconst F (v := (-1 : Int32)) dX6_canBe_9 (by decide) ?_
  exact jG_iret F T (rfl) rfl (by first | rfl | exact jnarb _ | (split <;> rfl)) dX6_canBe_10
theorem c_X6_canBeG {x : jX} (F : jF E x yX6_canBe.cls cX6_canBe 7 10 0 0) (hB : B.length = m) (hr : rm ≤ 24) (ha : 0 ≤ a ∧ a ≤ 1) (kk : jG E x 0 0 55 [.ref (E.1 + m), .int a, .int (mgpF rx ry rm), .int (nI rm)] [] (jw9 E B m km false bd ba bw rm A P K rd rx ry pr qs)) : jG E x 0 0 0 [.ref (E.1 + m), .int a] [] (jw9 E B m km false bd ba bw rm A P K rd rx ry pr qs) := by
  have loop : ∀ k, k ≤ rm → jG E x 0 0 15 [.ref (E.1 + m), .int a, .int (mgpF rx ry k), .int (nI k)] [] (jw9 E B m km false bd ba bw rm A P K rd rx ry pr qs) := by
    refine jup rm _ ?_ ?_
    · refine jG_iload_n F dX6_canBe_15 rfl ?_
      refine jG_aload_n F dX6_canBe_16 rfl ?_
      refine jg_X6_196 F dX6_canBe_17 (jw9_o hB) rfl ?_
      refine jG_icmp_ge F 55 dX6_canBe_20 (by decide) (fun _ => ?_) (fun qz => absurd (nI_le (Nat.le_refl _) (by omega)) qz)
      exact kk
    · intro k hk ih
      refine jG_iload_n F dX6_canBe_15 rfl ?_
      refine jG_aload_n F dX6_canBe_16 rfl ?_
      refine jg_X6_196 F dX6_canBe_17 (jw9_o hB) rfl ?_
      refine jG_icmp_ge F 55 dX6_canBe_20 (by decide) (fun qz => absurd qz (nI_ge hk (by omega))) (fun _ => ?_)
      refine jG_iload_n F dX6_canBe_23 rfl ?_
      refine jG_aload_n F dX6_canBe_24 rfl ?_
      refine jg_X6_22 F dX6_canBe_25 (jw9_o hB) rfl ?_
      refine jG_iload_n F dX6_canBe_28 rfl ?_
      refine jG_iald F dX6_canBe_29 (jw9_5 hB) rfl (show k < 24 by omega) (by decide) ?_
      refine jG_aload_n F dX6_canBe_30 rfl ?_
      refine jg_X6_25 F dX6_canBe_31 (jw9_o hB) rfl ?_
      refine jG_iload_n F dX6_canBe_34 rfl ?_
      refine jG_iald F dX6_canBe_35 (jw9_6 hB) rfl (show k < 24 by omega) (by decide) ?_
      refine jc_X6_126 F dX6_canBe_36 (c_X6_isNowhere) (by decide) (Nat.le_refl 0) (Nat.le_refl 0) (Nat.le_of_ble_eq_true rfl) ?_
      refine jG_if_eq F 46 dX6_canBe_39 (by decide) (fun q => ?_) (fun q => ?_)
      · have q := jB01_eq q
        refine jG_iconst F (v := (0 : Int32)) dX6_canBe_46 (by decide) ?_
        refine jG_iadd F dX6_canBe_47 ?_
        refine jG_istore_n_2e F dX6_canBe_48 (by decide) ?_
        refine jG_iinc_3 F (w := nI (k + 1)) dX6_canBe_49 (jinc k) (by decide) ?_
        refine jG_goto F 15 dX6_canBe_52 (by decide) ?_
        refine jG_eq ?_ rfl rfl ih
        rw [show mgpF rx ry (k + 1) = mgpF rx ry k + 0 from congrArg (fun z => mgpF rx ry k + z) (if_neg q)]
      · have q := jB01_ne q
        refine jG_iconst F (v := (1 : Int32)) dX6_canBe_42 (by decide) ?_
        refine jG_goto F 47 dX6_canBe_43 (by decide) ?_
        refine jG_iadd F dX6_canBe_47 ?_
        refine jG_istore_n_2e F dX6_canBe_48 (by decide) ?_
        refine jG_iinc_3 F (w := nI (k + 1)) dX6_canBe_49 (jinc k) (by decide) ?_
        refine jG_goto F 15 dX6_canBe_52 (by decide) ?_
        refine jG_eq ?_ rfl rfl ih
        rw [show mgpF rx ry (k + 1) = mgpF rx ry k + 1 from congrArg (fun z => mgpF rx ry k + z) (if_pos q)]
  refine jG_iload_n F dX6_canBe_0 rfl ?_
  refine jG_iconst F (v := (0 : Int32)) dX6_canBe_1 (by decide) ?_
  refine jG_iconst F (v := (1 : Int32)) dX6_canBe_2 (by decide) ?_
  refine jc_X6_109 F dX6_canBe_3 (c_X6_in) (by decide) (Nat.le_refl 0) (Nat.le_refl 0) (Nat.le_of_ble_eq_true rfl) ?_
  refine jG_if_ne F 11 dX6_canBe_6 (by decide) (fun _ => ?_) (fun qz => absurd qz (by rw [jB01_pos ha]; decide))
  refine jG_iconst F (v := 0) dX6_canBe_11 (by decide) ?_
  refine jG_istore_n_2n F dX6_canBe_12 (by decide) ?_
  refine jG_iconst F (v := nI 0) dX6_canBe_13 (by decide) ?_
  refine jG_istore_n_3n F dX6_canBe_14 (by decide) ?_
  exact loop 0 (by omega)
theorem c_X6_canBeN (hB : B.length = m) (hr : rm ≤ 24) (ha : 0 ≤ a ∧ a ≤ 1) (hg : ¬ mgpF rx ry rm = 1) : jMd l E yX6_canBe cX6_canBe 7 (some .int) 10 [.ref (E.1 + m), .int a] (jw9 E B m km false bd ba bw rm A P K rd rx ry pr qs) (some (.int (-2))) (jw9 E B m km false bd ba bw rm A P K rd rx ry pr qs) 0 0 := by
  refine jMd_of (by decide) (Nat.le_of_ble_eq_true rfl) (by simp [Value.category]) (by first | rfl | simp [jw9_len]) (fun x hx F T hmm => ?_)
  refine c_X6_canBeG F hB hr ha ?_
  refine jG_iload_n F dX6_canBe_55 rfl ?_
  refine jG_iconst F (v := (1 : Int32)) dX6_canBe_56 (by decide) ?_
  refine jG_icmp_eq F 63 dX6_canBe_57 (by decide) (fun qz => absurd qz hg) (fun _ => ?_)
  refine jG_bipush F (v := (-2 : Int32)) dX6_canBe_60 (by decide) ?_
  exact jG_iret F T (rfl) rfl (by first | rfl | exact jnarb _ | (split <;> rfl)) dX6_canBe_62
theorem c_X6_canBe {S : mS} (hB : B.length = m) (hr : rm ≤ 24) (hR : ∀ i, i < rm → jdn rd i < 16 ∧ rd i = nI (jdn rd i)) (ha : 0 ≤ a ∧ a ≤ 1) (hg : mgpF rx ry rm = 1) (hS : mcbx (jdn rd) rx ry (A 71) rm (0, -4, P) 42 = S) : jMd l E yX6_canBe cX6_canBe 7 (some .int) 10 [.ref (E.1 + m), .int a] (jw9 E B m km false bd ba bw rm A P K rd rx ry pr qs) (some (.int (if a = 0 then S.1 else S.2.1))) (jw9 E B m km false bd ba bw rm A (S.2.2) K rd rx ry pr qs) 0 0 := by
  refine jMd_of (by decide) (Nat.le_of_ble_eq_true rfl) (by simp [Value.category]) (by first | rfl | simp [jw9_len]) (fun x hx F T hmm => ?_)
  refine c_X6_canBeG F hB hr ha ?_
  have ox : ∀ i, i ≤ 42 → ∀ r, jG E x 0 0 72 (.ref (E.1 + m) :: .int a :: .int (mgpF rx ry rm) :: .int (mcbx (jdn rd) rx ry (A 71) rm (0, -4, P) i).1 :: .int (mcbx (jdn rd) rx ry (A 71) rm (0, -4, P) i).2.1 :: .int (nI i) :: r) [] (jw9 E B m km false bd ba bw rm A ((mcbx (jdn rd) rx ry (A 71) rm (0, -4, P) i).2.2) K rd rx ry pr qs) := by
    refine jup 42 _ ?_ ?_
    · intro r
      rw [hS]
      refine jG_iload F dX6_canBe_72 rfl ?_
      refine jG_bipush F (v := nI 41) dX6_canBe_74 (by decide) ?_
      refine jG_icmp_gt F 156 dX6_canBe_76 (by decide) (fun _ => ?_) (fun qz => absurd (show nI 41 < nI 42 by decide) qz)
      refine jG_iload_n F dX6_canBe_156 rfl ?_
      refine jG_if_ne F 164 dX6_canBe_157 (by decide) (fun q => ?_) (fun q => ?_)
      · rw [if_neg q] at T
        refine jG_iload F dX6_canBe_164 rfl ?_
        exact jG_iret F T (rfl) rfl (by first | rfl | exact jnarb _ | (split <;> rfl)) dX6_canBe_166
      · rw [if_pos q] at T
        refine jG_iload_n F dX6_canBe_160 rfl ?_
        refine jG_goto F 166 dX6_canBe_161 (by decide) ?_
        exact jG_iret F T (rfl) rfl (by first | rfl | exact jnarb _ | (split <;> rfl)) dX6_canBe_166
    · intro i hi ih r
      refine jG_take 6 ?_
      have es : mcbx (jdn rd) rx ry (A 71) rm (0, -4, P) (i + 1) = mcby (jdn rd) rx ry (A 71) rm i (mcbx (jdn rd) rx ry (A 71) rm (0, -4, P) i) 42 := rfl
      generalize mcbx (jdn rd) rx ry (A 71) rm (0, -4, P) (i + 1) = Y1 at es ih
      generalize mcbx (jdn rd) rx ry (A 71) rm (0, -4, P) i = Y at es ⊢
      have oy : ∀ j, j ≤ 42 → jG E x 0 0 82 [.ref (E.1 + m), .int a, .int (mgpF rx ry rm), .int (mcby (jdn rd) rx ry (A 71) rm i Y j).1, .int (mcby (jdn rd) rx ry (A 71) rm i Y j).2.1, .int (nI i), .int (nI j)] [] (jw9 E B m km false bd ba bw rm A ((mcby (jdn rd) rx ry (A 71) rm i Y j).2.2) K rd rx ry pr qs) := by
        refine jup 42 _ ?_ ?_
        · rw [← es]
          refine jG_iload F dX6_canBe_82 rfl ?_
          refine jG_bipush F (v := nI 41) dX6_canBe_84 (by decide) ?_
          refine jG_icmp_gt F 150 dX6_canBe_86 (by decide) (fun _ => ?_) (fun qz => absurd (show nI 41 < nI 42 by decide) qz)
          refine jG_iinc_5 F (w := nI (i + 1)) dX6_canBe_150 (jinc i) (by decide) ?_
          refine jG_goto F 72 dX6_canBe_153 (by decide) ?_
          exact ih _
        · intro j hj ihj
          have ej : mcby (jdn rd) rx ry (A 71) rm i Y (j + 1) = mcb1 (jdn rd) rx ry (A 71) rm i j (mcby (jdn rd) rx ry (A 71) rm i Y j) := rfl
          generalize mcby (jdn rd) rx ry (A 71) rm i Y (j + 1) = Z1 at ej ihj
          generalize mcby (jdn rd) rx ry (A 71) rm i Y j = Z at ej ⊢
          have kw := c_X6_wrongWith (l := jL x) (E := E) (B := B) (m := m) (km := km) (bd := bd) (ba := ba) (bw := bw) (rm := rm) (A := A) (P := Z.2.2) (K := K) (rd := rd) (rx := rx) (ry := ry) (pr := pr) (qs := qs) (a := nI i) (b := nI j) hB hr hR
          have ej2 : (jspot (nI i) (nI j) ∨ (nI i = 41 ∧ nI j = 41)) → Z1 = if (mww (jdn rd) rx ry (nI i) (nI j) (A 71) rm 0 (mclr Z.2.2)).1 = -4 then (Z.1 + 1, if Z.1 = 0 then 100 * nI i + nI j else Z.2.1, (mww (jdn rd) rx ry (nI i) (nI j) (A 71) rm 0 (mclr Z.2.2)).2) else (Z.1, Z.2.1, (mww (jdn rd) rx ry (nI i) (nI j) (A 71) rm 0 (mclr Z.2.2)).2) := fun q => ej.trans (if_pos q)
          have ej3 : ¬ (jspot (nI i) (nI j) ∨ (nI i = 41 ∧ nI j = 41)) → Z1 = Z := fun q => ej.trans (if_neg q)
          clear ej
          generalize mww (jdn rd) rx ry (nI i) (nI j) (A 71) rm 0 (mclr Z.2.2) = R0 at kw ej2
          have yes : (jspot (nI i) (nI j) ∨ (nI i = 41 ∧ nI j = 41)) → jG E x 0 0 109 [.ref (E.1 + m), .int a, .int (mgpF rx ry rm), .int Z.1, .int Z.2.1, .int (nI i), .int (nI j)] [] (jw9 E B m km false bd ba bw rm A (Z.2.2) K rd rx ry pr qs) := by
            intro hy
            have ej2 := ej2 hy
            refine jG_aload_n F dX6_canBe_109 rfl ?_
            refine jG_iload F dX6_canBe_110 rfl ?_
            refine jG_iload F dX6_canBe_112 rfl ?_
            refine jc_X6_199 F dX6_canBe_114 (kw) (jw9_o hB) (by decide) (Nat.le_refl 0) (Nat.le_refl 0) (Nat.le_of_ble_eq_true rfl) ?_
            refine jG_bipush F (v := (-4 : Int32)) dX6_canBe_117 (by decide) ?_
            refine jG_icmp_ne F 144 dX6_canBe_119 (by decide) (fun q2 => ?_) (fun q2 => ?_)
            · rw [if_neg q2] at ej2
              rw [ej2] at ihj
              refine jG_iinc_6 F (w := nI (j + 1)) dX6_canBe_144 (jinc j) (by decide) ?_
              refine jG_goto F 82 dX6_canBe_147 (by decide) ?_
              exact ihj
            · rw [if_pos q2] at ej2
              refine jG_iload_n F dX6_canBe_122 rfl ?_
              refine jG_if_ne F 137 dX6_canBe_123 (by decide) (fun q3 => ?_) (fun q3 => ?_)
              · rw [if_neg q3] at ej2
                rw [ej2] at ihj
                refine jG_iload F dX6_canBe_137 rfl ?_
                refine jG_istore_4e F dX6_canBe_139 (by decide) ?_
                refine jG_iinc_3 F (w := Z.1 + 1) dX6_canBe_141 (rfl) (by decide) ?_
                refine jG_iinc_6 F (w := nI (j + 1)) dX6_canBe_144 (jinc j) (by decide) ?_
                refine jG_goto F 82 dX6_canBe_147 (by decide) ?_
                exact ihj
              · rw [if_pos q3] at ej2
                rw [ej2] at ihj
                refine jG_bipush F (v := (100 : Int32)) dX6_canBe_126 (by decide) ?_
                refine jG_iload F dX6_canBe_128 rfl ?_
                refine jG_imul F dX6_canBe_130 ?_
                refine jG_iload F dX6_canBe_131 rfl ?_
                refine jG_iadd F dX6_canBe_133 ?_
                refine jG_goto F 139 dX6_canBe_134 (by decide) ?_
                refine jG_istore_4e F dX6_canBe_139 (by decide) ?_
                refine jG_iinc_3 F (w := Z.1 + 1) dX6_canBe_141 (rfl) (by decide) ?_
                refine jG_iinc_6 F (w := nI (j + 1)) dX6_canBe_144 (jinc j) (by decide) ?_
                refine jG_goto F 82 dX6_canBe_147 (by decide) ?_
                exact ihj
          refine jG_iload F dX6_canBe_82 rfl ?_
          refine jG_bipush F (v := nI 41) dX6_canBe_84 (by decide) ?_
          refine jG_icmp_gt F 150 dX6_canBe_86 (by decide) (fun qz => absurd qz (Int32.not_lt.mpr (nI_le (show j ≤ 41 by omega) (by decide)))) (fun _ => ?_)
          refine jG_iload F dX6_canBe_89 rfl ?_
          refine jG_iload F dX6_canBe_91 rfl ?_
          refine jc_X6_120 F dX6_canBe_93 (c_X6_isSpot) (by decide) (Nat.le_refl 0) (Nat.le_refl 0) (Nat.le_of_ble_eq_true rfl) ?_
          refine jG_if_ne F 109 dX6_canBe_96 (by decide) (fun q => ?_) (fun q => ?_)
          · exact yes (Or.inl (jB01_ne q))
          · have q := jB01_eq q
            refine jG_iload F dX6_canBe_99 rfl ?_
            refine jG_iload F dX6_canBe_101 rfl ?_
            refine jc_X6_123 F dX6_canBe_103 (c_X6_isCup) (by decide) (Nat.le_refl 0) (Nat.le_refl 0) (Nat.le_of_ble_eq_true rfl) ?_
            refine jG_if_eq F 144 dX6_canBe_106 (by decide) (fun q2 => ?_) (fun q2 => ?_)
            · have q2 := jB01_eq q2
              rw [ej3 (fun z => z.elim q q2)] at ihj
              refine jG_iinc_6 F (w := nI (j + 1)) dX6_canBe_144 (jinc j) (by decide) ?_
              refine jG_goto F 82 dX6_canBe_147 (by decide) ?_
              exact ihj
            · exact yes (Or.inr (jB01_ne q2))
      refine jG_iload F dX6_canBe_72 rfl ?_
      refine jG_bipush F (v := nI 41) dX6_canBe_74 (by decide) ?_
      refine jG_icmp_gt F 156 dX6_canBe_76 (by decide) (fun qz => absurd qz (Int32.not_lt.mpr (nI_le (show i ≤ 41 by omega) (by decide)))) (fun _ => ?_)
      refine jG_iconst F (v := nI 0) dX6_canBe_79 (by decide) ?_
      refine jG_istore_6n F dX6_canBe_80 (by decide) ?_
      exact oy 0 (by decide)
  refine jG_iload_n F dX6_canBe_55 rfl ?_
  refine jG_iconst F (v := (1 : Int32)) dX6_canBe_56 (by decide) ?_
  refine jG_icmp_eq F 63 dX6_canBe_57 (by decide) (fun _ => ?_) (fun qz => absurd hg qz)
  refine jG_take 3 ?_
  refine jG_iconst F (v := 0) dX6_canBe_63 (by decide) ?_
  refine jG_istore_n_3n F dX6_canBe_64 (by decide) ?_
  refine jG_bipush F (v := (-4 : Int32)) dX6_canBe_65 (by decide) ?_
  refine jG_istore_4n F dX6_canBe_67 (by decide) ?_
  refine jG_iconst F (v := nI 0) dX6_canBe_69 (by decide) ?_
  refine jG_istore_5n F dX6_canBe_70 (by decide) ?_
  exact ox 0 (by decide) []
theorem c_X6_pairsOf (hB : B.length = m) (hp : p < 4) : jMd l E yX6_pairsOf cX6_pairsOf 4 (some .int) 0 [.ref (E.1 + m), .int (nI p)] (jw9 E B m km false bd ba bw rm A P K rd rx ry pr qs) (some (.int (mps pr p 5))) (jw9 E B m km false bd ba bw rm A P K rd rx ry pr qs) 0 0 := by
  refine jMd_of (by decide) (Nat.le_of_ble_eq_true rfl) (by simp [Value.category]) (by first | rfl | simp [jw9_len]) (fun x hx F T hmm => ?_)
  have e : ∀ k, nI 5 * nI p + nI k = nI (5 * p + k) := fun k => by rw [pk_mul, nI_add]
  have loop : ∀ k, k ≤ 5 → jG E x 0 0 4 [.ref (E.1 + m), .int (nI p), .int (mps pr p k), .int (nI k)] [] (jw9 E B m km false bd ba bw rm A P K rd rx ry pr qs) := by
    refine jup 5 _ ?_ ?_
    · refine jG_iload_n F dX6_pairsOf_4 rfl ?_
      refine jG_iconst F (v := nI 5) dX6_pairsOf_5 (by decide) ?_
      refine jG_icmp_ge F 28 dX6_pairsOf_6 (by decide) (fun _ => ?_) (fun q => absurd (nI_le (Nat.le_refl 5) (by decide)) q)
      refine jG_iload_n F dX6_pairsOf_28 rfl ?_
      exact jG_iret F T (rfl) rfl (by first | rfl | exact jnarb _ | (split <;> rfl)) dX6_pairsOf_29
    · intro k hk ih
      refine jG_iload_n F dX6_pairsOf_4 rfl ?_
      refine jG_iconst F (v := nI 5) dX6_pairsOf_5 (by decide) ?_
      refine jG_icmp_ge F 28 dX6_pairsOf_6 (by decide) (fun q => absurd q (nI_ge hk (by decide))) (fun _ => ?_)
      refine jG_iload_n F dX6_pairsOf_9 rfl ?_
      refine jG_aload_n F dX6_pairsOf_10 rfl ?_
      refine jg_X6_28 F dX6_pairsOf_11 (jw9_o hB) rfl ?_
      refine jG_iconst F (v := nI 5) dX6_pairsOf_14 (by decide) ?_
      refine jG_iload_n F dX6_pairsOf_15 rfl ?_
      refine jG_imul F dX6_pairsOf_16 ?_
      refine jG_iload_n F dX6_pairsOf_17 rfl ?_
      refine jG_iadd F dX6_pairsOf_18 ?_
      refine jG_iald F dX6_pairsOf_19 (jw9_7 hB) (e k) (by omega) (by decide) ?_
      refine jG_iadd F dX6_pairsOf_20 ?_
      refine jG_istore_n_2e F dX6_pairsOf_21 (by decide) ?_
      refine jG_iinc_3 F (w := nI (k + 1)) dX6_pairsOf_22 (jinc k) (by decide) ?_
      refine jG_goto F 4 dX6_pairsOf_25 (by decide) ?_
      exact ih
  refine jG_iconst F (v := 0) dX6_pairsOf_0 (by decide) ?_
  refine jG_istore_n_2n F dX6_pairsOf_1 (by decide) ?_
  refine jG_iconst F (v := nI 0) dX6_pairsOf_2 (by decide) ?_
  refine jG_istore_n_3n F dX6_pairsOf_3 (by decide) ?_
  exact loop 0 (by decide)
theorem c_X6_seenB {e f g i : Int32} (hB : B.length = m) (h : ¬ ((0 ≤ a ∧ a ≤ 3) ∧ jspot b c ∧ jspot e f ∧ jspot g i)) : jMd l E yX6_seen cX6_seen 9 (some .int) 2 [.ref (E.1 + m), .int a, .int b, .int c, .int e, .int f, .int g, .int i] (jw9 E B m km false bd ba bw rm A P K rd rx ry pr qs) (some (.int (-1))) (jw9 E B m km false bd ba bw rm A P K rd rx ry pr qs) 0 0 := by
  refine jMd_of (by decide) (Nat.le_of_ble_eq_true rfl) (by simp [Value.category]) (by first | rfl | simp [jw9_len]) (fun x hx F T hmm => ?_)
  refine jG_iload_n F dX6_seen_0 rfl ?_
  refine jc_X6_163 F dX6_seen_1 (c_X6_isPlayer) (by decide) (Nat.le_refl 0) (Nat.le_refl 0) (Nat.le_of_ble_eq_true rfl) ?_
  refine jG_if_eq F 35 dX6_seen_4 (by decide) (fun q => ?_) (fun q => ?_)
  · refine jG_iconst F (v := (-1 : Int32)) dX6_seen_35 (by decide) ?_
    exact jG_iret F T (rfl) rfl (by first | rfl | exact jnarb _ | (split <;> rfl)) dX6_seen_36
  · have q := jB01_ne q
    refine jG_iload_n F dX6_seen_7 rfl ?_
    refine jG_iload_n F dX6_seen_8 rfl ?_
    refine jc_X6_120 F dX6_seen_9 (c_X6_isSpot) (by decide) (Nat.le_refl 0) (Nat.le_refl 0) (Nat.le_of_ble_eq_true rfl) ?_
    refine jG_if_eq F 35 dX6_seen_12 (by decide) (fun q2 => ?_) (fun q2 => ?_)
    · refine jG_iconst F (v := (-1 : Int32)) dX6_seen_35 (by decide) ?_
      exact jG_iret F T (rfl) rfl (by first | rfl | exact jnarb _ | (split <;> rfl)) dX6_seen_36
    · have q2 := jB01_ne q2
      refine jG_iload F dX6_seen_15 rfl ?_
      refine jG_iload F dX6_seen_17 rfl ?_
      refine jc_X6_120 F dX6_seen_19 (c_X6_isSpot) (by decide) (Nat.le_refl 0) (Nat.le_refl 0) (Nat.le_of_ble_eq_true rfl) ?_
      refine jG_if_eq F 35 dX6_seen_22 (by decide) (fun q3 => ?_) (fun q3 => ?_)
      · refine jG_iconst F (v := (-1 : Int32)) dX6_seen_35 (by decide) ?_
        exact jG_iret F T (rfl) rfl (by first | rfl | exact jnarb _ | (split <;> rfl)) dX6_seen_36
      · have q3 := jB01_ne q3
        refine jG_iload F dX6_seen_25 rfl ?_
        refine jG_iload F dX6_seen_27 rfl ?_
        refine jc_X6_120 F dX6_seen_29 (c_X6_isSpot) (by decide) (Nat.le_refl 0) (Nat.le_refl 0) (Nat.le_of_ble_eq_true rfl) ?_
        refine jG_if_ne F 37 dX6_seen_32 (by decide) (fun qz => absurd qz (fun z => h ⟨q, q2, q3, jB01_ne z⟩)) (fun _ => ?_)
        refine jG_iconst F (v := (-1 : Int32)) dX6_seen_35 (by decide) ?_
        exact jG_iret F T (rfl) rfl (by first | rfl | exact jnarb _ | (split <;> rfl)) dX6_seen_36
theorem c_X6_seenF {e f g i : Int32} (hB : B.length = m) (hp : p < 4) (h1 : jspot b c) (h2 : jspot e f) (h3 : jspot g i) (hf : mps pr p 5 = 1000) : jMd l E yX6_seen cX6_seen 9 (some .int) 2 [.ref (E.1 + m), .int (nI p), .int b, .int c, .int e, .int f, .int g, .int i] (jw9 E B m km false bd ba bw rm A P K rd rx ry pr qs) (some (.int (-3))) (jw9 E B m km false bd ba bw rm A P K rd rx ry pr qs) 0 0 := by
  refine jMd_of (by decide) (Nat.le_of_ble_eq_true rfl) (by simp [Value.category]) (by first | rfl | simp [jw9_len]) (fun x hx F T hmm => ?_)
  have hdi := jin_n (k := p) (n := 3) (by omega) (by decide) (m := 3) rfl
  refine jG_iload_n F dX6_seen_0 rfl ?_
  refine jc_X6_163 F dX6_seen_1 (c_X6_isPlayer) (by decide) (Nat.le_refl 0) (Nat.le_refl 0) (Nat.le_of_ble_eq_true rfl) ?_
  refine jG_if_eq F 35 dX6_seen_4 (by decide) (fun qz => absurd qz (by rw [jB01_pos hdi]; decide)) (fun _ => ?_)
  refine jG_iload_n F dX6_seen_7 rfl ?_
  refine jG_iload_n F dX6_seen_8 rfl ?_
  refine jc_X6_120 F dX6_seen_9 (c_X6_isSpot) (by decide) (Nat.le_refl 0) (Nat.le_refl 0) (Nat.le_of_ble_eq_true rfl) ?_
  refine jG_if_eq F 35 dX6_seen_12 (by decide) (fun qz => absurd qz (by rw [jB01_pos h1]; decide)) (fun _ => ?_)
  refine jG_iload F dX6_seen_15 rfl ?_
  refine jG_iload F dX6_seen_17 rfl ?_
  refine jc_X6_120 F dX6_seen_19 (c_X6_isSpot) (by decide) (Nat.le_refl 0) (Nat.le_refl 0) (Nat.le_of_ble_eq_true rfl) ?_
  refine jG_if_eq F 35 dX6_seen_22 (by decide) (fun qz => absurd qz (by rw [jB01_pos h2]; decide)) (fun _ => ?_)
  refine jG_iload F dX6_seen_25 rfl ?_
  refine jG_iload F dX6_seen_27 rfl ?_
  refine jc_X6_120 F dX6_seen_29 (c_X6_isSpot) (by decide) (Nat.le_refl 0) (Nat.le_refl 0) (Nat.le_of_ble_eq_true rfl) ?_
  refine jG_if_ne F 37 dX6_seen_32 (by decide) (fun _ => ?_) (fun qz => absurd qz (by rw [jB01_pos h3]; decide))
  refine jG_aload_n F dX6_seen_37 rfl ?_
  refine jG_iload_n F dX6_seen_38 rfl ?_
  refine jc_X6_202 F dX6_seen_39 (c_X6_pairsOf hB hp) (jw9_o hB) (by decide) (Nat.le_refl 0) (Nat.le_refl 0) (Nat.le_of_ble_eq_true rfl) ?_
  refine jG_sipush F (v := (1000 : Int32)) dX6_seen_42 (by decide) ?_
  refine jG_icmp_ne F 51 dX6_seen_45 (by decide) (fun qz => absurd qz (fun z => z hf)) (fun _ => ?_)
  refine jG_bipush F (v := (-3 : Int32)) dX6_seen_48 (by decide) ?_
  exact jG_iret F T (rfl) rfl (by first | rfl | exact jnarb _ | (split <;> rfl)) dX6_seen_50
theorem c_X6_seen {e f g i : Int32} {kd : Nat} (hB : B.length = m) (hp : p < 4) (h1 : jspot b c) (h2 : jspot e f) (h3 : jspot g i) (hf : ¬ mps pr p 5 = 1000) (hkd : kd < 5) (hkk : (if 4 < mway b c e f / 8 then 4 else mway b c e f / 8) = nI kd) : jMd l E yX6_seen cX6_seen 9 (some .int) 2 [.ref (E.1 + m), .int (nI p), .int b, .int c, .int e, .int f, .int g, .int i] (jw9 E B m km false bd ba bw rm A P K rd rx ry pr qs) (some (.int (mps (upd pr (5 * p + kd) (pr (5 * p + kd) + 1)) p 5))) (jw9 E B m km false bd ba bw rm A P K rd rx ry (upd pr (5 * p + kd) (pr (5 * p + kd) + 1)) (upd qs (5 * p + kd) (qs (5 * p + kd) + (msiz (g - e) + msiz (i - f))))) 0 0 := by
  refine jMd_of (by decide) (Nat.le_of_ble_eq_true rfl) (by simp [Value.category]) (by first | rfl | simp [jw9_len]) (fun x hx F T hmm => ?_)
  have hdi := jin_n (k := p) (n := 3) (by omega) (by decide) (m := 3) rfl
  have e0 : nI 5 * nI p + nI kd = nI (5 * p + kd) := by rw [pk_mul, nI_add]
  have fin : jG E x 0 0 79 [.ref (E.1 + m), .int (nI p), .int b, .int c, .int e, .int f, .int g, .int i, .int (nI kd)] [] (jw9 E B m km false bd ba bw rm A P K rd rx ry pr qs) := by
    refine jG_aload_n F dX6_seen_79 rfl ?_
    refine jg_X6_28 F dX6_seen_80 (jw9_o hB) rfl ?_
    refine jG_iconst F (v := nI 5) dX6_seen_83 (by decide) ?_
    refine jG_iload_n F dX6_seen_84 rfl ?_
    refine jG_imul F dX6_seen_85 ?_
    refine jG_iload F dX6_seen_86 rfl ?_
    refine jG_iadd F dX6_seen_88 ?_
    refine jG_dup2 F dX6_seen_89 rfl rfl ?_
    refine jG_iald F dX6_seen_90 (jw9_7 hB) e0 (by omega) (by decide) ?_
    refine jG_iconst F (v := (1 : Int32)) dX6_seen_91 (by decide) ?_
    refine jG_iadd F dX6_seen_92 ?_
    refine jG_iast F dX6_seen_93 (jw9_7 hB) e0 (by omega) (by decide) ?_
    refine jG_eq rfl rfl (jw9_s7 hB) ?_
    refine jG_aload_n F dX6_seen_94 rfl ?_
    refine jg_X6_31 F dX6_seen_95 (jw9_o hB) rfl ?_
    refine jG_iconst F (v := nI 5) dX6_seen_98 (by decide) ?_
    refine jG_iload_n F dX6_seen_99 rfl ?_
    refine jG_imul F dX6_seen_100 ?_
    refine jG_iload F dX6_seen_101 rfl ?_
    refine jG_iadd F dX6_seen_103 ?_
    refine jG_dup2 F dX6_seen_104 rfl rfl ?_
    refine jG_iald F dX6_seen_105 (jw9_8 hB) e0 (by omega) (by decide) ?_
    refine jG_iload F dX6_seen_106 rfl ?_
    refine jG_iload F dX6_seen_108 rfl ?_
    refine jG_isub F dX6_seen_110 ?_
    refine jc_X6_140 F dX6_seen_111 (c_X6_size) (by decide) (Nat.le_refl 0) (Nat.le_refl 0) (Nat.le_of_ble_eq_true rfl) ?_
    refine jG_iload F dX6_seen_114 rfl ?_
    refine jG_iload F dX6_seen_116 rfl ?_
    refine jG_isub F dX6_seen_118 ?_
    refine jc_X6_140 F dX6_seen_119 (c_X6_size) (by decide) (Nat.le_refl 0) (Nat.le_refl 0) (Nat.le_of_ble_eq_true rfl) ?_
    refine jG_iadd F dX6_seen_122 ?_
    refine jG_iadd F dX6_seen_123 ?_
    refine jG_iast F dX6_seen_124 (jw9_8 hB) e0 (by omega) (by decide) ?_
    refine jG_eq rfl rfl (jw9_s8 hB) ?_
    refine jG_aload_n F dX6_seen_125 rfl ?_
    refine jG_iload_n F dX6_seen_126 rfl ?_
    refine jc_X6_202 F dX6_seen_127 (c_X6_pairsOf hB hp) (jw9_o hB) (by decide) (Nat.le_refl 0) (Nat.le_refl 0) (Nat.le_of_ble_eq_true rfl) ?_
    exact jG_iret F T (rfl) rfl (by first | rfl | exact jnarb _ | (split <;> rfl)) dX6_seen_130
  refine jG_iload_n F dX6_seen_0 rfl ?_
  refine jc_X6_163 F dX6_seen_1 (c_X6_isPlayer) (by decide) (Nat.le_refl 0) (Nat.le_refl 0) (Nat.le_of_ble_eq_true rfl) ?_
  refine jG_if_eq F 35 dX6_seen_4 (by decide) (fun qz => absurd qz (by rw [jB01_pos hdi]; decide)) (fun _ => ?_)
  refine jG_iload_n F dX6_seen_7 rfl ?_
  refine jG_iload_n F dX6_seen_8 rfl ?_
  refine jc_X6_120 F dX6_seen_9 (c_X6_isSpot) (by decide) (Nat.le_refl 0) (Nat.le_refl 0) (Nat.le_of_ble_eq_true rfl) ?_
  refine jG_if_eq F 35 dX6_seen_12 (by decide) (fun qz => absurd qz (by rw [jB01_pos h1]; decide)) (fun _ => ?_)
  refine jG_iload F dX6_seen_15 rfl ?_
  refine jG_iload F dX6_seen_17 rfl ?_
  refine jc_X6_120 F dX6_seen_19 (c_X6_isSpot) (by decide) (Nat.le_refl 0) (Nat.le_refl 0) (Nat.le_of_ble_eq_true rfl) ?_
  refine jG_if_eq F 35 dX6_seen_22 (by decide) (fun qz => absurd qz (by rw [jB01_pos h2]; decide)) (fun _ => ?_)
  refine jG_iload F dX6_seen_25 rfl ?_
  refine jG_iload F dX6_seen_27 rfl ?_
  refine jc_X6_120 F dX6_seen_29 (c_X6_isSpot) (by decide) (Nat.le_refl 0) (Nat.le_refl 0) (Nat.le_of_ble_eq_true rfl) ?_
  refine jG_if_ne F 37 dX6_seen_32 (by decide) (fun _ => ?_) (fun qz => absurd qz (by rw [jB01_pos h3]; decide))
  refine jG_aload_n F dX6_seen_37 rfl ?_
  refine jG_iload_n F dX6_seen_38 rfl ?_
  refine jc_X6_202 F dX6_seen_39 (c_X6_pairsOf hB hp) (jw9_o hB) (by decide) (Nat.le_refl 0) (Nat.le_refl 0) (Nat.le_of_ble_eq_true rfl) ?_
  refine jG_sipush F (v := (1000 : Int32)) dX6_seen_42 (by decide) ?_
  refine jG_icmp_ne F 51 dX6_seen_45 (by decide) (fun _ => ?_) (fun qz => absurd qz hf)
  refine jG_iload_n F dX6_seen_51 rfl ?_
  refine jG_iload_n F dX6_seen_52 rfl ?_
  refine jG_iload F dX6_seen_53 rfl ?_
  refine jG_iload F dX6_seen_55 rfl ?_
  refine jc_X6_146 F dX6_seen_57 (c_X6_wayOf) (by decide) (Nat.le_refl 0) (Nat.le_refl 0) (Nat.le_of_ble_eq_true rfl) ?_
  refine jG_bipush F (v := (8 : Int32)) dX6_seen_60 (by decide) ?_
  refine jG_idiv F dX6_seen_62 (by decide) ?_
  refine jG_istore_8n F dX6_seen_63 (by decide) ?_
  refine jG_iload F dX6_seen_65 rfl ?_
  refine jG_iconst F (v := (4 : Int32)) dX6_seen_67 (by decide) ?_
  refine jG_icmp_le F 75 dX6_seen_68 (by decide) (fun q => ?_) (fun q => ?_)
  · refine jG_iload F dX6_seen_75 rfl ?_
    refine jG_istore_8e F dX6_seen_77 (by decide) ?_
    refine jG_eq ?_ rfl rfl fin
    rw [← hkk, if_neg (Int32.not_lt.mpr q)]
  · refine jG_iconst F (v := (4 : Int32)) dX6_seen_71 (by decide) ?_
    refine jG_goto F 77 dX6_seen_72 (by decide) ?_
    refine jG_istore_8e F dX6_seen_77 (by decide) ?_
    refine jG_eq ?_ rfl rfl fin
    rw [← hkk, if_pos (Int32.not_le.mp q)]
theorem c_X6_scatterB (hB : B.length = m) (h : ¬ ((0 ≤ a ∧ a ≤ 3) ∧ (0 ≤ b ∧ b ≤ 4) ∧ (0 ≤ c ∧ c ≤ 2))) : jMd l E yX6_scatter cX6_scatter 9 (some .int) 2 [.ref (E.1 + m), .int a, .int b, .int c] (jw9 E B m km false bd ba bw rm A P K rd rx ry pr qs) (some (.int (-1))) (jw9 E B m km false bd ba bw rm A P K rd rx ry pr qs) 0 0 := by
  refine jMd_of (by decide) (Nat.le_of_ble_eq_true rfl) (by simp [Value.category]) (by first | rfl | simp [jw9_len]) (fun x hx F T hmm => ?_)
  refine jG_iload_n F dX6_scatter_0 rfl ?_
  refine jc_X6_163 F dX6_scatter_1 (c_X6_isPlayer) (by decide) (Nat.le_refl 0) (Nat.le_refl 0) (Nat.le_of_ble_eq_true rfl) ?_
  refine jG_if_eq F 25 dX6_scatter_4 (by decide) (fun q => ?_) (fun q => ?_)
  · refine jG_iconst F (v := (-1 : Int32)) dX6_scatter_25 (by decide) ?_
    exact jG_iret F T (rfl) rfl (by first | rfl | exact jnarb _ | (split <;> rfl)) dX6_scatter_26
  · have q := jB01_ne q
    refine jG_iload_n F dX6_scatter_7 rfl ?_
    refine jG_iconst F (v := (0 : Int32)) dX6_scatter_8 (by decide) ?_
    refine jG_iconst F (v := (4 : Int32)) dX6_scatter_9 (by decide) ?_
    refine jc_X6_109 F dX6_scatter_10 (c_X6_in) (by decide) (Nat.le_refl 0) (Nat.le_refl 0) (Nat.le_of_ble_eq_true rfl) ?_
    refine jG_if_eq F 25 dX6_scatter_13 (by decide) (fun q2 => ?_) (fun q2 => ?_)
    · refine jG_iconst F (v := (-1 : Int32)) dX6_scatter_25 (by decide) ?_
      exact jG_iret F T (rfl) rfl (by first | rfl | exact jnarb _ | (split <;> rfl)) dX6_scatter_26
    · have q2 := jB01_ne q2
      refine jG_iload_n F dX6_scatter_16 rfl ?_
      refine jG_iconst F (v := (0 : Int32)) dX6_scatter_17 (by decide) ?_
      refine jG_iconst F (v := (2 : Int32)) dX6_scatter_18 (by decide) ?_
      refine jc_X6_109 F dX6_scatter_19 (c_X6_in) (by decide) (Nat.le_refl 0) (Nat.le_refl 0) (Nat.le_of_ble_eq_true rfl) ?_
      refine jG_if_ne F 27 dX6_scatter_22 (by decide) (fun qz => absurd qz (fun z => h ⟨q, q2, jB01_ne z⟩)) (fun _ => ?_)
      refine jG_iconst F (v := (-1 : Int32)) dX6_scatter_25 (by decide) ?_
      exact jG_iret F T (rfl) rfl (by first | rfl | exact jnarb _ | (split <;> rfl)) dX6_scatter_26
theorem c_X6_scatter {u s g : Int32} (hB : B.length = m) (hp : p < 4) (hk : k < 5) (hc : 0 ≤ c ∧ c ≤ 2) (hu : pr (5 * p + k) = u) (hs : qs (5 * p + k) = s) (hg : jgcd 100 s u = g) (hz : mgb 100 s u = 0) (hg0 : ¬ g = 0) : jMd l E yX6_scatter cX6_scatter 9 (some .int) 2 [.ref (E.1 + m), .int (nI p), .int (nI k), .int c] (jw9 E B m km false bd ba bw rm A P K rd rx ry pr qs) (some (.int (if c = 2 then u else if u = 0 then -2 else if c = 0 then s / g else u / g))) (jw9 E B m km false bd ba bw rm A P K rd rx ry pr qs) 0 0 := by
  refine jMd_of (by decide) (Nat.le_of_ble_eq_true rfl) (by simp [Value.category]) (by first | rfl | simp [jw9_len]) (fun x hx F T hmm => ?_)
  have hdi := jin_n (k := p) (n := 3) (by omega) (by decide) (m := 3) rfl
  have hki := jin_n (k := k) (n := 4) (by omega) (by decide) (m := 4) rfl
  have e0 : nI 5 * nI p + nI k = nI (5 * p + k) := by rw [pk_mul, nI_add]
  refine jG_iload_n F dX6_scatter_0 rfl ?_
  refine jc_X6_163 F dX6_scatter_1 (c_X6_isPlayer) (by decide) (Nat.le_refl 0) (Nat.le_refl 0) (Nat.le_of_ble_eq_true rfl) ?_
  refine jG_if_eq F 25 dX6_scatter_4 (by decide) (fun qz => absurd qz (by rw [jB01_pos hdi]; decide)) (fun _ => ?_)
  refine jG_iload_n F dX6_scatter_7 rfl ?_
  refine jG_iconst F (v := (0 : Int32)) dX6_scatter_8 (by decide) ?_
  refine jG_iconst F (v := (4 : Int32)) dX6_scatter_9 (by decide) ?_
  refine jc_X6_109 F dX6_scatter_10 (c_X6_in) (by decide) (Nat.le_refl 0) (Nat.le_refl 0) (Nat.le_of_ble_eq_true rfl) ?_
  refine jG_if_eq F 25 dX6_scatter_13 (by decide) (fun qz => absurd qz (by rw [jB01_pos hki]; decide)) (fun _ => ?_)
  refine jG_iload_n F dX6_scatter_16 rfl ?_
  refine jG_iconst F (v := (0 : Int32)) dX6_scatter_17 (by decide) ?_
  refine jG_iconst F (v := (2 : Int32)) dX6_scatter_18 (by decide) ?_
  refine jc_X6_109 F dX6_scatter_19 (c_X6_in) (by decide) (Nat.le_refl 0) (Nat.le_refl 0) (Nat.le_of_ble_eq_true rfl) ?_
  refine jG_if_ne F 27 dX6_scatter_22 (by decide) (fun _ => ?_) (fun qz => absurd qz (by rw [jB01_pos hc]; decide))
  refine jG_aload_n F dX6_scatter_27 rfl ?_
  refine jg_X6_28 F dX6_scatter_28 (jw9_o hB) rfl ?_
  refine jG_iconst F (v := nI 5) dX6_scatter_31 (by decide) ?_
  refine jG_iload_n F dX6_scatter_32 rfl ?_
  refine jG_imul F dX6_scatter_33 ?_
  refine jG_iload_n F dX6_scatter_34 rfl ?_
  refine jG_iadd F dX6_scatter_35 ?_
  refine jG_iald F dX6_scatter_36 (jw9_7 hB) e0 (by omega) (by decide) ?_
  refine jG_istore_4n F dX6_scatter_37 (by decide) ?_
  refine jG_aload_n F dX6_scatter_39 rfl ?_
  refine jg_X6_31 F dX6_scatter_40 (jw9_o hB) rfl ?_
  refine jG_iconst F (v := nI 5) dX6_scatter_43 (by decide) ?_
  refine jG_iload_n F dX6_scatter_44 rfl ?_
  refine jG_imul F dX6_scatter_45 ?_
  refine jG_iload_n F dX6_scatter_46 rfl ?_
  refine jG_iadd F dX6_scatter_47 ?_
  refine jG_iald F dX6_scatter_48 (jw9_8 hB) e0 (by omega) (by decide) ?_
  refine jG_istore_5n F dX6_scatter_49 (by decide) ?_
  refine jG_iload_n F dX6_scatter_51 rfl ?_
  refine jG_iconst F (v := (2 : Int32)) dX6_scatter_52 (by decide) ?_
  refine jG_eq (show _ = [Value.ref (E.1 + m), .int (nI p), .int (nI k), .int c, .int u, .int s] by rw [hu, hs]) rfl rfl ?_
  refine jG_icmp_ne F 59 dX6_scatter_53 (by decide) (fun q => ?_) (fun q => ?_)
  · rw [if_neg q] at T
    refine jG_iload F dX6_scatter_59 rfl ?_
    refine jG_if_ne F 67 dX6_scatter_61 (by decide) (fun q2 => ?_) (fun q2 => ?_)
    · rw [if_neg q2] at T
      have ex : ∀ r, jG E x 0 0 98 (.ref (E.1 + m) :: .int (nI p) :: .int (nI k) :: .int c :: .int u :: .int s :: .int g :: r) [] (jw9 E B m km false bd ba bw rm A P K rd rx ry pr qs) := by
        intro r
        refine jG_take 7 ?_
        refine jG_iload_n F dX6_scatter_98 rfl ?_
        refine jG_if_ne F 110 dX6_scatter_99 (by decide) (fun q3 => ?_) (fun q3 => ?_)
        · rw [if_neg q3] at T
          refine jG_iload F dX6_scatter_110 rfl ?_
          refine jG_iload F dX6_scatter_112 rfl ?_
          refine jG_idiv F dX6_scatter_114 hg0 ?_
          exact jG_iret F T (rfl) rfl (by first | rfl | exact jnarb _ | (split <;> rfl)) dX6_scatter_115
        · rw [if_pos q3] at T
          refine jG_iload F dX6_scatter_102 rfl ?_
          refine jG_iload F dX6_scatter_104 rfl ?_
          refine jG_idiv F dX6_scatter_106 hg0 ?_
          refine jG_goto F 115 dX6_scatter_107 (by decide) ?_
          exact jG_iret F T (rfl) rfl (by first | rfl | exact jnarb _ | (split <;> rfl)) dX6_scatter_115
      have loop : ∀ (n : Nat) (x1 y1 : Int32) (r : List Value), jgcd n x1 y1 = g → mgb n x1 y1 = 0 → jG E x 0 0 75 (.ref (E.1 + m) :: .int (nI p) :: .int (nI k) :: .int c :: .int u :: .int s :: .int x1 :: .int y1 :: r) [] (jw9 E B m km false bd ba bw rm A P K rd rx ry pr qs) := by
        intro n
        induction n with
        | zero =>
          intro x1 y1 r e1 e2
          have e1 : x1 = g := e1
          have e2 : y1 = 0 := e2
          subst e1
          refine jG_iload F dX6_scatter_75 rfl ?_
          refine jG_if_eq F 98 dX6_scatter_77 (by decide) (fun _ => ?_) (fun qz => absurd e2 qz)
          exact ex _
        | succ n ih =>
          intro x1 y1 r e1 e2
          refine jG_take 8 ?_
          refine jG_iload F dX6_scatter_75 rfl ?_
          refine jG_if_eq F 98 dX6_scatter_77 (by decide) (fun q4 => ?_) (fun q4 => ?_)
          · have e1 : x1 = g := (show jgcd (n + 1) x1 y1 = x1 from if_pos q4).symm.trans e1
            subst e1
            exact ex _
          · refine jG_iload F dX6_scatter_80 rfl ?_
            refine jG_iload F dX6_scatter_82 rfl ?_
            refine jG_irem F dX6_scatter_84 q4 ?_
            refine jG_istore_8n F dX6_scatter_85 (by decide) ?_
            refine jG_iload F dX6_scatter_87 rfl ?_
            refine jG_istore_6e F dX6_scatter_89 (by decide) ?_
            refine jG_iload F dX6_scatter_91 rfl ?_
            refine jG_istore_7e F dX6_scatter_93 (by decide) ?_
            refine jG_goto F 75 dX6_scatter_95 (by decide) ?_
            exact ih _ _ _ ((show jgcd (n + 1) x1 y1 = _ from if_neg q4).symm.trans e1) ((show mgb (n + 1) x1 y1 = _ from if_neg q4).symm.trans e2)
      refine jG_iload F dX6_scatter_67 rfl ?_
      refine jG_istore_6n F dX6_scatter_69 (by decide) ?_
      refine jG_iload F dX6_scatter_71 rfl ?_
      refine jG_istore_7n F dX6_scatter_73 (by decide) ?_
      exact loop 100 _ _ [] hg hz
    · rw [if_pos q2] at T
      refine jG_bipush F (v := (-2 : Int32)) dX6_scatter_64 (by decide) ?_
      exact jG_iret F T (rfl) rfl (by first | rfl | exact jnarb _ | (split <;> rfl)) dX6_scatter_66
  · rw [if_pos q] at T
    refine jG_iload F dX6_scatter_56 rfl ?_
    exact jG_iret F T (rfl) rfl (by first | rfl | exact jnarb _ | (split <;> rfl)) dX6_scatter_58
theorem c_X6_keepF (hB : B.length = m) (h : km = 3) : jMd l E yX6_keep cX6_keep 2 (some .int) 0 [.ref (E.1 + m)] (jw9 E B m km false bd ba bw rm A P K rd rx ry pr qs) (some (.int (-3))) (jw9 E B m km false bd ba bw rm A P K rd rx ry pr qs) 0 0 := by
  subst h
  refine jMd_of (by decide) (Nat.le_of_ble_eq_true rfl) (by simp [Value.category]) (by first | rfl | simp [jw9_len]) (fun x hx F T hmm => ?_)
  refine jG_aload_n F dX6_keep_0 rfl ?_
  refine jg_X6_205 F dX6_keep_1 (jw9_o hB) rfl ?_
  refine jG_iconst F (v := (3 : Int32)) dX6_keep_4 (by decide) ?_
  refine jG_icmp_ne F 11 dX6_keep_5 (by decide) (fun qz => absurd qz (fun z => z rfl)) (fun _ => ?_)
  refine jG_bipush F (v := (-3 : Int32)) dX6_keep_8 (by decide) ?_
  exact jG_iret F T (rfl) rfl (by first | rfl | exact jnarb _ | (split <;> rfl)) dX6_keep_10
theorem c_X6_keep (hB : B.length = m) (h : km < 3) : jMd l E yX6_keep cX6_keep 2 (some .int) 0 [.ref (E.1 + m)] (jw9 E B m km false bd ba bw rm A P K rd rx ry pr qs) (some (.int (nI (km + 1)))) (jw9 E B m (km + 1) false bd ba bw rm A P (mkp K A (128 * km) 128) rd rx ry pr qs) 0 0 := by
  refine jMd_of (by decide) (Nat.le_of_ble_eq_true rfl) (by simp [Value.category]) (by first | rfl | simp [jw9_len]) (fun x hx F T hmm => ?_)
  have e0 : ∀ j, nI 128 * nI km + nI j = nI (128 * km + j) := fun j => by rw [pk_mul, nI_add]
  have hne : ¬ nI km = 3 := fun z => absurd ((nI_eq (by omega) (by decide)).mp (show nI km = nI 3 from z)) (by omega)
  have loop : ∀ j, j ≤ 128 → jG E x 0 0 13 [.ref (E.1 + m), .int (nI j)] [] (jw9 E B m km false bd ba bw rm A P (mkp K A (128 * km) j) rd rx ry pr qs) := by
    refine jup 128 _ ?_ ?_
    · refine jG_iload_n F dX6_keep_13 rfl ?_
      refine jG_sipush F (v := nI 128) dX6_keep_14 (by decide) ?_
      refine jG_icmp_ge F 47 dX6_keep_17 (by decide) (fun _ => ?_) (fun q => absurd (nI_le (Nat.le_refl 128) (by decide)) q)
      refine jG_aload_n F dX6_keep_47 rfl ?_
      refine jG_dup F dX6_keep_48 rfl ?_
      refine jg_X6_205 F dX6_keep_49 (jw9_o hB) rfl ?_
      refine jG_iconst F (v := nI 1) dX6_keep_52 (by decide) ?_
      refine jG_iadd F dX6_keep_53 ?_
      refine jG_eq rfl (show _ = [Value.int (nI (km + 1)), Value.ref (E.1 + m)] by rw [nI_add]) rfl ?_
      refine jp_X6_205 F dX6_keep_54 (jw9_o hB) rfl rfl (Nat.le_of_ble_eq_true rfl) ?_
      refine jG_eq rfl rfl (jw9_pk hB) ?_
      refine jG_aload_n F dX6_keep_57 rfl ?_
      refine jg_X6_205 F dX6_keep_58 (jw9_o hB) rfl ?_
      exact jG_iret F T (rfl) rfl (by first | rfl | exact jnarb _ | (split <;> rfl)) dX6_keep_61
    · intro j hj ih
      refine jG_iload_n F dX6_keep_13 rfl ?_
      refine jG_sipush F (v := nI 128) dX6_keep_14 (by decide) ?_
      refine jG_icmp_ge F 47 dX6_keep_17 (by decide) (fun q => absurd q (nI_ge hj (by decide))) (fun _ => ?_)
      refine jG_aload_n F dX6_keep_20 rfl ?_
      refine jg_X6_16 F dX6_keep_21 (jw9_o hB) rfl ?_
      refine jG_sipush F (v := nI 128) dX6_keep_24 (by decide) ?_
      refine jG_aload_n F dX6_keep_27 rfl ?_
      refine jg_X6_205 F dX6_keep_28 (jw9_o hB) rfl ?_
      refine jG_imul F dX6_keep_31 ?_
      refine jG_iload_n F dX6_keep_32 rfl ?_
      refine jG_iadd F dX6_keep_33 ?_
      refine jG_aload_n F dX6_keep_34 rfl ?_
      refine jg_X6_7 F dX6_keep_35 (jw9_o hB) rfl ?_
      refine jG_iload_n F dX6_keep_38 rfl ?_
      refine jG_iald F dX6_keep_39 (jw9_1 hB) rfl hj (by decide) ?_
      refine jG_iast F dX6_keep_40 (jw9_3 hB) (e0 j) (by omega) (by decide) ?_
      refine jG_eq rfl rfl (jw9_s3 hB) ?_
      refine jG_eq rfl rfl (show _ = (jw9 E B m km false bd ba bw rm A P (mkp K A (128 * km) (j + 1)) rd rx ry pr qs) by rw [mkp_s]) ?_
      refine jG_iinc_1 F (w := nI (j + 1)) dX6_keep_41 (jinc j) (by decide) ?_
      refine jG_goto F 13 dX6_keep_44 (by decide) ?_
      exact ih
  refine jG_aload_n F dX6_keep_0 rfl ?_
  refine jg_X6_205 F dX6_keep_1 (jw9_o hB) rfl ?_
  refine jG_iconst F (v := (3 : Int32)) dX6_keep_4 (by decide) ?_
  refine jG_icmp_ne F 11 dX6_keep_5 (by decide) (fun _ => ?_) (fun qz => absurd qz hne)
  refine jG_iconst F (v := nI 0) dX6_keep_11 (by decide) ?_
  refine jG_istore_n_1n F dX6_keep_12 (by decide) ?_
  refine jG_eq rfl rfl ?_ (loop 0 (by decide))
  rw [mkp_0]
theorem c_X6_backN (hB : B.length = m) (h : km = 0) : jMd l E yX6_back cX6_back 2 (some .int) 0 [.ref (E.1 + m)] (jw9 E B m km false bd ba bw rm A P K rd rx ry pr qs) (some (.int (-2))) (jw9 E B m km false bd ba bw rm A P K rd rx ry pr qs) 0 0 := by
  subst h
  refine jMd_of (by decide) (Nat.le_of_ble_eq_true rfl) (by simp [Value.category]) (by first | rfl | simp [jw9_len]) (fun x hx F T hmm => ?_)
  refine jG_aload_n F dX6_back_0 rfl ?_
  refine jg_X6_205 F dX6_back_1 (jw9_o hB) rfl ?_
  refine jG_if_ne F 10 dX6_back_4 (by decide) (fun qz => absurd qz (fun z => z rfl)) (fun _ => ?_)
  refine jG_bipush F (v := (-2 : Int32)) dX6_back_7 (by decide) ?_
  exact jG_iret F T (rfl) rfl (by first | rfl | exact jnarb _ | (split <;> rfl)) dX6_back_9
theorem c_X6_back {n : Nat} (hB : B.length = m) (h : km = n + 1) (h3 : n < 3) : jMd l E yX6_back cX6_back 2 (some .int) 0 [.ref (E.1 + m)] (jw9 E B m km false bd ba bw rm A P K rd rx ry pr qs) (some (.int (nI n))) (jw9 E B m (n) false bd ba bw rm (jfil (fun j => K (128 * n + j)) A 128) P K rd rx ry pr qs) 0 0 := by
  subst h
  refine jMd_of (by decide) (Nat.le_of_ble_eq_true rfl) (by simp [Value.category]) (by first | rfl | simp [jw9_len]) (fun x hx F T hmm => ?_)
  have e0 : ∀ j, nI 128 * nI n + nI j = nI (128 * n + j) := fun j => by rw [pk_mul, nI_add]
  have hne : ¬ nI (n + 1) = 0 := nI_ne0 (by omega) (by omega)
  have loop : ∀ j, j ≤ 128 → jG E x 0 0 22 [.ref (E.1 + m), .int (nI j)] [] (jw9 E B m (n) false bd ba bw rm (jfil (fun j => K (128 * n + j)) A j) P K rd rx ry pr qs) := by
    refine jup 128 _ ?_ ?_
    · refine jG_iload_n F dX6_back_22 rfl ?_
      refine jG_sipush F (v := nI 128) dX6_back_23 (by decide) ?_
      refine jG_icmp_ge F 56 dX6_back_26 (by decide) (fun _ => ?_) (fun q => absurd (nI_le (Nat.le_refl 128) (by decide)) q)
      refine jG_aload_n F dX6_back_56 rfl ?_
      refine jg_X6_205 F dX6_back_57 (jw9_o hB) rfl ?_
      exact jG_iret F T (rfl) rfl (by first | rfl | exact jnarb _ | (split <;> rfl)) dX6_back_60
    · intro j hj ih
      refine jG_iload_n F dX6_back_22 rfl ?_
      refine jG_sipush F (v := nI 128) dX6_back_23 (by decide) ?_
      refine jG_icmp_ge F 56 dX6_back_26 (by decide) (fun q => absurd q (nI_ge hj (by decide))) (fun _ => ?_)
      refine jG_aload_n F dX6_back_29 rfl ?_
      refine jg_X6_7 F dX6_back_30 (jw9_o hB) rfl ?_
      refine jG_iload_n F dX6_back_33 rfl ?_
      refine jG_aload_n F dX6_back_34 rfl ?_
      refine jg_X6_16 F dX6_back_35 (jw9_o hB) rfl ?_
      refine jG_sipush F (v := nI 128) dX6_back_38 (by decide) ?_
      refine jG_aload_n F dX6_back_41 rfl ?_
      refine jg_X6_205 F dX6_back_42 (jw9_o hB) rfl ?_
      refine jG_imul F dX6_back_45 ?_
      refine jG_iload_n F dX6_back_46 rfl ?_
      refine jG_iadd F dX6_back_47 ?_
      refine jG_iald F dX6_back_48 (jw9_3 hB) (e0 j) (by omega) (by decide) ?_
      refine jG_iast F dX6_back_49 (jw9_1 hB) rfl hj (by decide) ?_
      refine jG_eq rfl rfl (jw9_s1 hB) ?_
      refine jG_eq rfl rfl (show _ = (jw9 E B m (n) false bd ba bw rm (jfil (fun j => K (128 * n + j)) A (j + 1)) P K rd rx ry pr qs) by rw [jfil_s _ _ j rfl]) ?_
      refine jG_iinc_1 F (w := nI (j + 1)) dX6_back_50 (jinc j) (by decide) ?_
      refine jG_goto F 22 dX6_back_53 (by decide) ?_
      exact ih
  refine jG_aload_n F dX6_back_0 rfl ?_
  refine jg_X6_205 F dX6_back_1 (jw9_o hB) rfl ?_
  refine jG_if_ne F 10 dX6_back_4 (by decide) (fun _ => ?_) (fun qz => absurd qz hne)
  refine jG_aload_n F dX6_back_10 rfl ?_
  refine jG_dup F dX6_back_11 rfl ?_
  refine jg_X6_205 F dX6_back_12 (jw9_o hB) rfl ?_
  refine jG_iconst F (v := nI 1) dX6_back_15 (by decide) ?_
  refine jG_isub F dX6_back_16 ?_
  refine jG_eq rfl (show _ = [Value.int (nI n), Value.ref (E.1 + m)] by rw [show nI (n + 1) - nI 1 = nI n from by rcases (show n = 0 ∨ n = 1 ∨ n = 2 by omega) with rfl | rfl | rfl <;> rfl]) rfl ?_
  refine jp_X6_205 F dX6_back_17 (jw9_o hB) rfl rfl (Nat.le_of_ble_eq_true rfl) ?_
  refine jG_eq rfl rfl (jw9_pk hB) ?_
  refine jG_iconst F (v := nI 0) dX6_back_20 (by decide) ?_
  refine jG_istore_n_1n F dX6_back_21 (by decide) ?_
  refine jG_eq rfl rfl ?_ (loop 0 (by decide))
  rw [jfil_0]
theorem c_X6_count3 (hB : B.length = m) : jMd l E yX6_count cX6_count 4 (some .int) 6 [.ref (E.1 + m), .int 3] (jw9 E B m km false bd ba bw rm A P K rd rx ry pr qs) (some (.int (nI rm))) (jw9 E B m km false bd ba bw rm A P K rd rx ry pr qs) 0 0 := by
  refine jMd_of (by decide) (Nat.le_of_ble_eq_true rfl) (by simp [Value.category]) (by first | rfl | simp [jw9_len]) (fun x hx F T hmm => ?_)
  refine jG_iload_n F dX6_count_0 rfl ?_
  refine jG_iconst F (v := (3 : Int32)) dX6_count_1 (by decide) ?_
  refine jG_icmp_eq F 10 dX6_count_2 (by decide) (fun _ => ?_) (fun qz => absurd rfl qz)
  refine jG_iload_n F dX6_count_10 rfl ?_
  refine jG_iconst F (v := (3 : Int32)) dX6_count_11 (by decide) ?_
  refine jG_icmp_ne F 22 dX6_count_12 (by decide) (fun qz => absurd qz (fun z => z rfl)) (fun _ => ?_)
  refine jG_aload_n F dX6_count_15 rfl ?_
  refine jg_X6_196 F dX6_count_16 (jw9_o hB) rfl ?_
  refine jG_goto F 26 dX6_count_19 (by decide) ?_
  exact jG_iret F T (rfl) rfl (by first | rfl | exact jnarb _ | (split <;> rfl)) dX6_count_26
theorem c_X6_count4 (hB : B.length = m) : jMd l E yX6_count cX6_count 4 (some .int) 6 [.ref (E.1 + m), .int 4] (jw9 E B m km false bd ba bw rm A P K rd rx ry pr qs) (some (.int (nI km))) (jw9 E B m km false bd ba bw rm A P K rd rx ry pr qs) 0 0 := by
  refine jMd_of (by decide) (Nat.le_of_ble_eq_true rfl) (by simp [Value.category]) (by first | rfl | simp [jw9_len]) (fun x hx F T hmm => ?_)
  refine jG_iload_n F dX6_count_0 rfl ?_
  refine jG_iconst F (v := (3 : Int32)) dX6_count_1 (by decide) ?_
  refine jG_icmp_eq F 10 dX6_count_2 (by decide) (fun qz => absurd qz (by decide)) (fun _ => ?_)
  refine jG_iload_n F dX6_count_5 rfl ?_
  refine jG_iconst F (v := (4 : Int32)) dX6_count_6 (by decide) ?_
  refine jG_icmp_ne F 27 dX6_count_7 (by decide) (fun qz => absurd qz (by decide)) (fun _ => ?_)
  refine jG_iload_n F dX6_count_10 rfl ?_
  refine jG_iconst F (v := (3 : Int32)) dX6_count_11 (by decide) ?_
  refine jG_icmp_ne F 22 dX6_count_12 (by decide) (fun _ => ?_) (fun qz => absurd qz (by decide))
  refine jG_aload_n F dX6_count_22 rfl ?_
  refine jg_X6_205 F dX6_count_23 (jw9_o hB) rfl ?_
  exact jG_iret F T (rfl) rfl (by first | rfl | exact jnarb _ | (split <;> rfl)) dX6_count_26
theorem c_X6_countB (hB : B.length = m) (h : ¬ (0 ≤ w ∧ w ≤ 5)) : jMd l E yX6_count cX6_count 4 (some .int) 6 [.ref (E.1 + m), .int w] (jw9 E B m km false bd ba bw rm A P K rd rx ry pr qs) (some (.int (-1))) (jw9 E B m km false bd ba bw rm A P K rd rx ry pr qs) 0 0 := by
  refine jMd_of (by decide) (Nat.le_of_ble_eq_true rfl) (by simp [Value.category]) (by first | rfl | simp [jw9_len]) (fun x hx F T hmm => ?_)
  refine jG_iload_n F dX6_count_0 rfl ?_
  refine jG_iconst F (v := (3 : Int32)) dX6_count_1 (by decide) ?_
  refine jG_icmp_eq F 10 dX6_count_2 (by decide) (fun qz => absurd qz (fun z => h (by rw [z]; decide))) (fun _ => ?_)
  refine jG_iload_n F dX6_count_5 rfl ?_
  refine jG_iconst F (v := (4 : Int32)) dX6_count_6 (by decide) ?_
  refine jG_icmp_ne F 27 dX6_count_7 (by decide) (fun _ => ?_) (fun qz => absurd qz (fun z => h (by rw [z]; decide)))
  refine jG_iload_n F dX6_count_27 rfl ?_
  refine jG_iconst F (v := (0 : Int32)) dX6_count_28 (by decide) ?_
  refine jG_iconst F (v := (5 : Int32)) dX6_count_29 (by decide) ?_
  refine jc_X6_109 F dX6_count_30 (c_X6_in) (by decide) (Nat.le_refl 0) (Nat.le_refl 0) (Nat.le_of_ble_eq_true rfl) ?_
  refine jG_if_ne F 38 dX6_count_33 (by decide) (fun qz => absurd qz (fun z => h (jB01_ne z))) (fun _ => ?_)
  refine jG_iconst F (v := (-1 : Int32)) dX6_count_36 (by decide) ?_
  exact jG_iret F T (rfl) rfl (by first | rfl | exact jnarb _ | (split <;> rfl)) dX6_count_37
theorem c_X6_countW (hB : B.length = m) (h : 0 ≤ w ∧ w ≤ 2) : jMd l E yX6_count cX6_count 4 (some .int) 6 [.ref (E.1 + m), .int w] (jw9 E B m km false bd ba bw rm A P K rd rx ry pr qs) (some (.int (mcn A w 16))) (jw9 E B m km false bd ba bw rm A P K rd rx ry pr qs) 0 0 := by
  refine jMd_of (by decide) (Nat.le_of_ble_eq_true rfl) (by simp [Value.category]) (by first | rfl | simp [jw9_len]) (fun x hx F T hmm => ?_)
  have h5 : 0 ≤ w ∧ w ≤ 5 := ⟨h.1, Int32.le_trans h.2 (by decide)⟩
  have h3 : w < 3 := Int32.not_le.mp (fun z => absurd (Int32.le_trans z h.2) (by decide))
  have loop : ∀ k, k ≤ 16 → jG E x 0 0 42 [.ref (E.1 + m), .int w, .int (mcn A w k), .int (nI k)] [] (jw9 E B m km false bd ba bw rm A P K rd rx ry pr qs) := by
    refine jup 16 _ ?_ ?_
    · refine jG_iload_n F dX6_count_42 rfl ?_
      refine jG_bipush F (v := nI 16) dX6_count_43 (by decide) ?_
      refine jG_icmp_ge F 101 dX6_count_45 (by decide) (fun _ => ?_) (fun q => absurd (nI_le (Nat.le_refl 16) (by decide)) q)
      refine jG_iload_n F dX6_count_101 rfl ?_
      exact jG_iret F T (rfl) rfl (by first | rfl | exact jnarb _ | (split <;> rfl)) dX6_count_102
    · intro k hk ih
      refine jG_iload_n F dX6_count_42 rfl ?_
      refine jG_bipush F (v := nI 16) dX6_count_43 (by decide) ?_
      refine jG_icmp_ge F 101 dX6_count_45 (by decide) (fun q => absurd q (nI_ge hk (by decide))) (fun _ => ?_)
      refine jG_iload_n F dX6_count_48 rfl ?_
      refine jG_iload_n F dX6_count_49 rfl ?_
      refine jG_iconst F (v := (3 : Int32)) dX6_count_50 (by decide) ?_
      refine jG_icmp_ge F 71 dX6_count_51 (by decide) (fun qz => absurd qz (Int32.not_le.mpr h3)) (fun _ => ?_)
      refine jG_aload_n F dX6_count_54 rfl ?_
      refine jG_iload_n F dX6_count_55 rfl ?_
      refine jc_X6_45 F dX6_count_56 (jW hB (c_X6_how (jw9_o hB) (jw9_l hB) rfl (by omega))) (jw9_o hB) (by decide) (Nat.le_refl 0) (Nat.le_refl 0) (Nat.le_of_ble_eq_true rfl) ?_
      refine jG_iload_n F dX6_count_59 rfl ?_
      refine jG_icmp_ne F 67 dX6_count_60 (by decide) (fun q => ?_) (fun q => ?_)
      · refine jG_iconst F (v := (0 : Int32)) dX6_count_67 (by decide) ?_
        refine jG_goto F 93 dX6_count_68 (by decide) ?_
        refine jG_iadd F dX6_count_93 ?_
        refine jG_istore_n_2e F dX6_count_94 (by decide) ?_
        refine jG_iinc_3 F (w := nI (k + 1)) dX6_count_95 (jinc k) (by decide) ?_
        refine jG_goto F 42 dX6_count_98 (by decide) ?_
        refine jG_eq ?_ rfl rfl ih
        rw [show mcn A w (k + 1) = mcn A w k + 0 from congrArg (fun z => mcn A w k + z) (if_neg q)]
      · refine jG_iconst F (v := (1 : Int32)) dX6_count_63 (by decide) ?_
        refine jG_goto F 93 dX6_count_64 (by decide) ?_
        refine jG_iadd F dX6_count_93 ?_
        refine jG_istore_n_2e F dX6_count_94 (by decide) ?_
        refine jG_iinc_3 F (w := nI (k + 1)) dX6_count_95 (jinc k) (by decide) ?_
        refine jG_goto F 42 dX6_count_98 (by decide) ?_
        refine jG_eq ?_ rfl rfl ih
        rw [show mcn A w (k + 1) = mcn A w k + 1 from congrArg (fun z => mcn A w k + z) (if_pos q)]
  refine jG_iload_n F dX6_count_0 rfl ?_
  refine jG_iconst F (v := (3 : Int32)) dX6_count_1 (by decide) ?_
  refine jG_icmp_eq F 10 dX6_count_2 (by decide) (fun qz => absurd qz (fun z => absurd h3 (by rw [z]; decide))) (fun _ => ?_)
  refine jG_iload_n F dX6_count_5 rfl ?_
  refine jG_iconst F (v := (4 : Int32)) dX6_count_6 (by decide) ?_
  refine jG_icmp_ne F 27 dX6_count_7 (by decide) (fun _ => ?_) (fun qz => absurd qz (fun z => absurd h3 (by rw [z]; decide)))
  refine jG_iload_n F dX6_count_27 rfl ?_
  refine jG_iconst F (v := (0 : Int32)) dX6_count_28 (by decide) ?_
  refine jG_iconst F (v := (5 : Int32)) dX6_count_29 (by decide) ?_
  refine jc_X6_109 F dX6_count_30 (c_X6_in) (by decide) (Nat.le_refl 0) (Nat.le_refl 0) (Nat.le_of_ble_eq_true rfl) ?_
  refine jG_if_ne F 38 dX6_count_33 (by decide) (fun _ => ?_) (fun qz => absurd qz (by rw [jB01_pos h5]; decide))
  refine jG_iconst F (v := 0) dX6_count_38 (by decide) ?_
  refine jG_istore_n_2n F dX6_count_39 (by decide) ?_
  refine jG_iconst F (v := nI 0) dX6_count_40 (by decide) ?_
  refine jG_istore_n_3n F dX6_count_41 (by decide) ?_
  exact loop 0 (by decide)
theorem c_X6_count5 (hB : B.length = m) : jMd l E yX6_count cX6_count 4 (some .int) 6 [.ref (E.1 + m), .int 5] (jw9 E B m km false bd ba bw rm A P K rd rx ry pr qs) (some (.int (mcn5 A 16))) (jw9 E B m km false bd ba bw rm A P K rd rx ry pr qs) 0 0 := by
  refine jMd_of (by decide) (Nat.le_of_ble_eq_true rfl) (by simp [Value.category]) (by first | rfl | simp [jw9_len]) (fun x hx F T hmm => ?_)
  have loop : ∀ k, k ≤ 16 → jG E x 0 0 42 [.ref (E.1 + m), .int 5, .int (mcn5 A k), .int (nI k)] [] (jw9 E B m km false bd ba bw rm A P K rd rx ry pr qs) := by
    refine jup 16 _ ?_ ?_
    · refine jG_iload_n F dX6_count_42 rfl ?_
      refine jG_bipush F (v := nI 16) dX6_count_43 (by decide) ?_
      refine jG_icmp_ge F 101 dX6_count_45 (by decide) (fun _ => ?_) (fun q => absurd (nI_le (Nat.le_refl 16) (by decide)) q)
      refine jG_iload_n F dX6_count_101 rfl ?_
      exact jG_iret F T (rfl) rfl (by first | rfl | exact jnarb _ | (split <;> rfl)) dX6_count_102
    · intro k hk ih
      refine jG_iload_n F dX6_count_42 rfl ?_
      refine jG_bipush F (v := nI 16) dX6_count_43 (by decide) ?_
      refine jG_icmp_ge F 101 dX6_count_45 (by decide) (fun q => absurd q (nI_ge hk (by decide))) (fun _ => ?_)
      refine jG_iload_n F dX6_count_48 rfl ?_
      refine jG_iload_n F dX6_count_49 rfl ?_
      refine jG_iconst F (v := (3 : Int32)) dX6_count_50 (by decide) ?_
      refine jG_icmp_ge F 71 dX6_count_51 (by decide) (fun _ => ?_) (fun qz => absurd (by decide) qz)
      refine jG_aload_n F dX6_count_71 rfl ?_
      refine jG_iload_n F dX6_count_72 rfl ?_
      refine jc_X6_45 F dX6_count_73 (jW hB (c_X6_how (jw9_o hB) (jw9_l hB) rfl (by omega))) (jw9_o hB) (by decide) (Nat.le_refl 0) (Nat.le_refl 0) (Nat.le_of_ble_eq_true rfl) ?_
      refine jG_iconst F (v := (1 : Int32)) dX6_count_76 (by decide) ?_
      refine jG_icmp_ne F 92 dX6_count_77 (by decide) (fun q => ?_) (fun q => ?_)
      · refine jG_iconst F (v := (0 : Int32)) dX6_count_92 (by decide) ?_
        refine jG_iadd F dX6_count_93 ?_
        refine jG_istore_n_2e F dX6_count_94 (by decide) ?_
        refine jG_iinc_3 F (w := nI (k + 1)) dX6_count_95 (jinc k) (by decide) ?_
        refine jG_goto F 42 dX6_count_98 (by decide) ?_
        refine jG_eq ?_ rfl rfl ih
        rw [show mcn5 A (k + 1) = mcn5 A k + 0 from congrArg (fun z => mcn5 A k + z) (if_neg (fun z => q z.1))]
      · refine jG_aload_n F dX6_count_80 rfl ?_
        refine jG_iload_n F dX6_count_81 rfl ?_
        refine jc_X6_81 F dX6_count_82 (jW hB (c_X6_isFree (jw9_o hB) (jw9_l hB) (by omega))) (jw9_o hB) (by decide) (Nat.le_refl 0) (Nat.le_refl 0) (Nat.le_of_ble_eq_true rfl) ?_
        refine jG_if_ne F 92 dX6_count_85 (by decide) (fun q2 => ?_) (fun q2 => ?_)
        · have q2 := jB01_ne q2
          refine jG_iconst F (v := (0 : Int32)) dX6_count_92 (by decide) ?_
          refine jG_iadd F dX6_count_93 ?_
          refine jG_istore_n_2e F dX6_count_94 (by decide) ?_
          refine jG_iinc_3 F (w := nI (k + 1)) dX6_count_95 (jinc k) (by decide) ?_
          refine jG_goto F 42 dX6_count_98 (by decide) ?_
          refine jG_eq ?_ rfl rfl ih
          rw [show mcn5 A (k + 1) = mcn5 A k + 0 from congrArg (fun z => mcn5 A k + z) (if_neg (fun z => z.2 q2))]
        · have q2 := jB01_eq q2
          refine jG_iconst F (v := (1 : Int32)) dX6_count_88 (by decide) ?_
          refine jG_goto F 93 dX6_count_89 (by decide) ?_
          refine jG_iadd F dX6_count_93 ?_
          refine jG_istore_n_2e F dX6_count_94 (by decide) ?_
          refine jG_iinc_3 F (w := nI (k + 1)) dX6_count_95 (jinc k) (by decide) ?_
          refine jG_goto F 42 dX6_count_98 (by decide) ?_
          refine jG_eq ?_ rfl rfl ih
          rw [show mcn5 A (k + 1) = mcn5 A k + 1 from congrArg (fun z => mcn5 A k + z) (if_pos ⟨q, q2⟩)]
  refine jG_iload_n F dX6_count_0 rfl ?_
  refine jG_iconst F (v := (3 : Int32)) dX6_count_1 (by decide) ?_
  refine jG_icmp_eq F 10 dX6_count_2 (by decide) (fun qz => absurd qz (by decide)) (fun _ => ?_)
  refine jG_iload_n F dX6_count_5 rfl ?_
  refine jG_iconst F (v := (4 : Int32)) dX6_count_6 (by decide) ?_
  refine jG_icmp_ne F 27 dX6_count_7 (by decide) (fun _ => ?_) (fun qz => absurd qz (by decide))
  refine jG_iload_n F dX6_count_27 rfl ?_
  refine jG_iconst F (v := (0 : Int32)) dX6_count_28 (by decide) ?_
  refine jG_iconst F (v := (5 : Int32)) dX6_count_29 (by decide) ?_
  refine jc_X6_109 F dX6_count_30 (c_X6_in) (by decide) (Nat.le_refl 0) (Nat.le_refl 0) (Nat.le_of_ble_eq_true rfl) ?_
  refine jG_if_ne F 38 dX6_count_33 (by decide) (fun _ => ?_) (fun qz => absurd qz (by decide))
  refine jG_iconst F (v := 0) dX6_count_38 (by decide) ?_
  refine jG_istore_n_2n F dX6_count_39 (by decide) ?_
  refine jG_iconst F (v := nI 0) dX6_count_40 (by decide) ?_
  refine jG_istore_n_3n F dX6_count_41 (by decide) ?_
  exact loop 0 (by decide)
end MV4
