/-! ===== JumpDiscs: the other public methods ===== -/
/-- twelfthsOf: how many are better, how many alike, of the first n -/
def jbet (sc : Nat → Int32) (p : Nat) : Nat → Nat
  | 0 => 0
  | n + 1 => if sc p < sc n then jbet sc p n + 1 else jbet sc p n
def jali (sc : Nat → Int32) (p : Nat) : Nat → Nat
  | 0 => 0
  | n + 1 => if sc n = sc p then jali sc p n + 1 else jali sc p n
/-- the shares of n places from the i-th on -/
def jshr : Nat → Nat → Int32 → Int32
  | 0, _, s => s
  | n + 1, i, s => if i < 4 then jshr n (i + 1) (s + jtabP i) else s
def jtwo (sc : Nat → Int32) (p : Nat) : Int32 := if jali sc p 4 = 0 then 0 else jshr (jali sc p 4) (jbet sc p 4) 0 / nI (jali sc p 4)
theorem jbet_le (sc : Nat → Int32) (p : Nat) : ∀ n, jbet sc p n ≤ n
  | 0 => Nat.le_refl 0
  | n + 1 => by unfold jbet; have := jbet_le sc p n; split <;> omega
theorem jali_le (sc : Nat → Int32) (p : Nat) : ∀ n, jali sc p n ≤ n
  | 0 => Nat.le_refl 0
  | n + 1 => by unfold jali; have := jali_le sc p n; split <;> omega
/-- points -/
def jpts (tw : Nat → Int32) (al : Nat → Prop) [DecidablePred al] (sd : Nat) : Nat → Int32
  | 0 => 0
  | n + 1 => (if n % 2 = sd then jpts tw al sd n + tw n else jpts tw al sd n) + (if al n then (if n % 2 = sd then 12 else -12) else 0)
section XK
variable {l : Launch} {E : jE} {C : jCT} {M : List va_E} {k : Nat} {a b c v w : Int32}
abbrev jscC (C : jCT) (p : Nat) : Int32 := jscore C.1.1.2.2.2.1 C.1.1.2.2.2.2.1 C.1.1.2.2.2.2.2 p
theorem c_X5_twelfthsOf (hk : k < 4) : jMd l E yX5_twelfthsOf cX5_twelfthsOf 7 (some .int) 2 [.ref (E.1 + 0), .int (nI k)] (jtop E C M) (some (.int (jtwo (jscC C) k))) (jtop E C M) 0 0 := by
  refine jMd_of (by decide) (Nat.le_of_ble_eq_true rfl) (by simp [Value.category]) (by first | rfl | simp [jtop_len]) (fun x hx F T hm => ?_)
  have l2 : ∀ (m i : Nat) (s : Int32), i + m = jbet (jscC C) k 4 + jali (jscC C) k 4 → jshr m i s = jshr (jali (jscC C) k 4) (jbet (jscC C) k 4) 0 → jG E x 0 0 73 [.ref (E.1 + 0), .int (nI k), .int (jscC C k), .int (nI (jbet (jscC C) k 4)), .int (nI (jali (jscC C) k 4)), .int s, .int (nI i)] [] (jtop E C M) := by
    have hb := jbet_le (jscC C) k 4
    have ha := jali_le (jscC C) k 4
    intro m
    induction m with
    | zero =>
      intro i s hi hE
      have hi : i = jbet (jscC C) k 4 + jali (jscC C) k 4 := by omega
      subst hi
      refine jG_iload F dX5_twelfthsOf_73 rfl ?_
      refine jG_iload_n F dX5_twelfthsOf_75 rfl ?_
      refine jG_iload F dX5_twelfthsOf_76 rfl ?_
      refine jG_iadd F dX5_twelfthsOf_78 ?_
      refine jG_icmp_ge F 105 dX5_twelfthsOf_79 (by decide) (fun _ => ?_) (fun qz => absurd (by rw [nI_add]; exact nI_le (Nat.le_refl _) (by omega)) qz)
      refine jG_iload F dX5_twelfthsOf_105 rfl ?_
      refine jG_if_ne F 114 dX5_twelfthsOf_107 (by decide) (fun q => ?_) (fun q => ?_)
      · have q : ¬ jali (jscC C) k 4 = 0 := fun z => q (by rw [z]; rfl)
        rw [show jtwo (jscC C) k = _ from if_neg q] at T
        refine jG_iload F dX5_twelfthsOf_114 rfl ?_
        refine jG_iload F dX5_twelfthsOf_116 rfl ?_
        refine jG_idiv F dX5_twelfthsOf_118 (nI_ne0 (by omega) (by omega)) ?_
        exact jG_iret F T (by rw [← hE]; rfl) rfl (by first | rfl | exact jnarb _ | (split <;> rfl)) dX5_twelfthsOf_119
      · have q : jali (jscC C) k 4 = 0 := (nI_eq (by omega) (by decide)).mp (q.trans nI_0.symm)
        rw [show jtwo (jscC C) k = _ from if_pos q] at T
        refine jG_iconst F (v := (0 : Int32)) dX5_twelfthsOf_110 (by decide) ?_
        refine jG_goto F 119 dX5_twelfthsOf_111 (by decide) ?_
        exact jG_iret F T (rfl) rfl (by first | rfl | exact jnarb _ | (split <;> rfl)) dX5_twelfthsOf_119
    | succ m ih =>
      intro i s hi hE
      refine jG_iload F dX5_twelfthsOf_73 rfl ?_
      refine jG_iload_n F dX5_twelfthsOf_75 rfl ?_
      refine jG_iload F dX5_twelfthsOf_76 rfl ?_
      refine jG_iadd F dX5_twelfthsOf_78 ?_
      refine jG_icmp_ge F 105 dX5_twelfthsOf_79 (by decide) (fun qz => absurd qz (by rw [nI_add]; exact nI_ge (show i < jbet (jscC C) k 4 + jali (jscC C) k 4 by omega) (by omega))) (fun _ => ?_)
      refine jG_iload F dX5_twelfthsOf_82 rfl ?_
      refine jG_iconst F (v := nI 4) dX5_twelfthsOf_84 (by decide) ?_
      refine jG_icmp_ge F 105 dX5_twelfthsOf_85 (by decide) (fun q => ?_) (fun q => ?_)
      · have q : ¬ i < 4 := fun z => nI_ge z (by decide) q
        refine jG_iload F dX5_twelfthsOf_105 rfl ?_
        have hs : s = jshr (jali (jscC C) k 4) (jbet (jscC C) k 4) 0 := by rw [← hE]; exact (if_neg q).symm
        refine jG_if_ne F 114 dX5_twelfthsOf_107 (by decide) (fun q2 => ?_) (fun q2 => ?_)
        · have q2 : ¬ jali (jscC C) k 4 = 0 := fun z => q2 (by rw [z]; rfl)
          rw [show jtwo (jscC C) k = _ from if_neg q2] at T
          refine jG_iload F dX5_twelfthsOf_114 rfl ?_
          refine jG_iload F dX5_twelfthsOf_116 rfl ?_
          refine jG_idiv F dX5_twelfthsOf_118 (nI_ne0 (by omega) (by omega)) ?_
          exact jG_iret F T (by rw [← hs]) rfl (by first | rfl | exact jnarb _ | (split <;> rfl)) dX5_twelfthsOf_119
        · have q2 : jali (jscC C) k 4 = 0 := (nI_eq (by omega) (by decide)).mp (q2.trans nI_0.symm)
          rw [show jtwo (jscC C) k = _ from if_pos q2] at T
          refine jG_iconst F (v := (0 : Int32)) dX5_twelfthsOf_110 (by decide) ?_
          refine jG_goto F 119 dX5_twelfthsOf_111 (by decide) ?_
          exact jG_iret F T (rfl) rfl (by first | rfl | exact jnarb _ | (split <;> rfl)) dX5_twelfthsOf_119
      · have q : i < 4 := Nat.lt_of_not_le (fun z => q (nI_le z (by omega)))
        refine jG_iload F dX5_twelfthsOf_88 rfl ?_
        refine jG_placeT F (by decide +kernel) dX5_twelfthsOf_90 ?_
        refine jG_iload F dX5_twelfthsOf_93 rfl ?_
        refine jG_tabN F F.2.2.2.2.2.1.2.2.2.2.2.2 dX5_twelfthsOf_95 rfl (by omega) ?_
        refine jG_iadd F dX5_twelfthsOf_96 ?_
        refine jG_istore_5e F dX5_twelfthsOf_97 (by decide) ?_
        refine jG_iinc_6 F (w := nI (i + 1)) dX5_twelfthsOf_99 (jinc i) (by decide) ?_
        refine jG_goto F 73 dX5_twelfthsOf_102 (by decide) ?_
        exact ih (i + 1) _ (by omega) (by rw [← hE]; exact (if_pos q).symm)
  have l1 : ∀ n, n ≤ 4 → ∀ r : List Value, jG E x 0 0 20 (.ref (E.1 + 0) :: .int (nI k) :: .int (jscC C k) :: .int (nI (jbet (jscC C) k n)) :: .int (nI (jali (jscC C) k n)) :: .int (nI n) :: r) [] (jtop E C M) := by
    refine jup 4 _ ?_ ?_
    · intro r
      refine jG_take 6 ?_
      refine jG_iload F dX5_twelfthsOf_20 rfl ?_
      refine jG_iconst F (v := nI 4) dX5_twelfthsOf_22 (by decide) ?_
      refine jG_icmp_ge F 67 dX5_twelfthsOf_23 (by decide) (fun _ => ?_) (fun q => absurd (nI_le (Nat.le_refl 4) (by decide)) q)
      refine jG_iconst F (v := 0) dX5_twelfthsOf_67 (by decide) ?_
      refine jG_istore_5e F dX5_twelfthsOf_68 (by decide) ?_
      refine jG_iload_n F dX5_twelfthsOf_70 rfl ?_
      refine jG_istore_6n F dX5_twelfthsOf_71 (by decide) ?_
      exact l2 _ _ 0 (by omega) rfl
    · intro n hn ih r
      refine jG_take 6 ?_
      refine jG_iload F dX5_twelfthsOf_20 rfl ?_
      refine jG_iconst F (v := nI 4) dX5_twelfthsOf_22 (by decide) ?_
      refine jG_icmp_ge F 67 dX5_twelfthsOf_23 (by decide) (fun q => absurd q (nI_ge hn (by decide))) (fun _ => ?_)
      refine jG_aload_n F dX5_twelfthsOf_26 rfl ?_
      refine jg_X5_10 F dX5_twelfthsOf_27 jtop_o rfl ?_
      refine jg_X5_79 F dX5_twelfthsOf_30 jtop_n rfl ?_
      refine jG_iload F dX5_twelfthsOf_33 rfl ?_
      refine jc_X5_152 F dX5_twelfthsOf_35 (t_scoreOf) jtop_b (by decide) (Nat.le_refl 0) (Nat.le_refl 0) (Nat.le_of_ble_eq_true rfl) ?_
      refine jG_istore_6n F dX5_twelfthsOf_38 (by decide) ?_
      refine jG_iload F dX5_twelfthsOf_40 rfl ?_
      refine jG_iload_n F dX5_twelfthsOf_42 rfl ?_
      refine jG_icmp_le F 52 dX5_twelfthsOf_43 (by decide) (fun q => ?_) (fun q => ?_)
      · have q := Int32.not_lt.mpr q
        refine jG_iload F dX5_twelfthsOf_52 rfl ?_
        refine jG_iload_n F dX5_twelfthsOf_54 rfl ?_
        refine jG_icmp_ne F 61 dX5_twelfthsOf_55 (by decide) (fun q2 => ?_) (fun q2 => ?_)
        · refine jG_iinc_5 F (w := nI (n + 1)) dX5_twelfthsOf_61 (jinc n) (by decide) ?_
          refine jG_goto F 20 dX5_twelfthsOf_64 (by decide) ?_
          refine jG_take 6 ?_
          refine jG_eq ?_ rfl rfl (ih [])
          rw [show jbet (jscC C) k (n + 1) = jbet (jscC C) k n from if_neg q, show jali (jscC C) k (n + 1) = jali (jscC C) k n from if_neg q2] <;> rfl
        · refine jG_iinc_4 F (w := nI (jali (jscC C) k n + 1)) dX5_twelfthsOf_58 (jinc _) (by decide) ?_
          refine jG_iinc_5 F (w := nI (n + 1)) dX5_twelfthsOf_61 (jinc n) (by decide) ?_
          refine jG_goto F 20 dX5_twelfthsOf_64 (by decide) ?_
          refine jG_take 6 ?_
          refine jG_eq ?_ rfl rfl (ih [])
          rw [show jbet (jscC C) k (n + 1) = jbet (jscC C) k n from if_neg q, show jali (jscC C) k (n + 1) = jali (jscC C) k n + 1 from if_pos q2] <;> rfl
      · have q := Int32.not_le.mp q
        have q2 : ¬ jscC C n = jscC C k := fun z => Int32.lt_irrefl (by have q' : jscC C k < jscC C n := q; rw [z] at q'; exact q')
        refine jG_iinc_3 F (w := nI (jbet (jscC C) k n + 1)) dX5_twelfthsOf_46 (jinc _) (by decide) ?_
        refine jG_goto F 61 dX5_twelfthsOf_49 (by decide) ?_
        refine jG_iinc_5 F (w := nI (n + 1)) dX5_twelfthsOf_61 (jinc n) (by decide) ?_
        refine jG_goto F 20 dX5_twelfthsOf_64 (by decide) ?_
        refine jG_take 6 ?_
        refine jG_eq ?_ rfl rfl (ih [])
        rw [show jbet (jscC C) k (n + 1) = jbet (jscC C) k n + 1 from if_pos q, show jali (jscC C) k (n + 1) = jali (jscC C) k n from if_neg q2] <;> rfl
  refine jG_aload_n F dX5_twelfthsOf_0 rfl ?_
  refine jg_X5_10 F dX5_twelfthsOf_1 jtop_o rfl ?_
  refine jg_X5_79 F dX5_twelfthsOf_4 jtop_n rfl ?_
  refine jG_iload_n F dX5_twelfthsOf_7 rfl ?_
  refine jc_X5_152 F dX5_twelfthsOf_8 (t_scoreOf) jtop_b (by decide) (Nat.le_refl 0) (Nat.le_refl 0) (Nat.le_of_ble_eq_true rfl) ?_
  refine jG_istore_n_2n F dX5_twelfthsOf_11 (by decide) ?_
  refine jG_iconst F (v := nI 0) dX5_twelfthsOf_12 (by decide) ?_
  refine jG_istore_n_3n F dX5_twelfthsOf_13 (by decide) ?_
  refine jG_iconst F (v := nI 0) dX5_twelfthsOf_14 (by decide) ?_
  refine jG_istore_4n F dX5_twelfthsOf_15 (by decide) ?_
  refine jG_iconst F (v := nI 0) dX5_twelfthsOf_17 (by decide) ?_
  refine jG_istore_5n F dX5_twelfthsOf_18 (by decide) ?_
  exact l1 0 (by decide) []
theorem c_X5_twelfthsB (h : ¬ (0 ≤ a ∧ a ≤ 3)) : jMd l E yX5_twelfths cX5_twelfths 2 (some .int) 3 [.ref (E.1 + 0), .int a] (jtop E C M) (some (.int (-1))) (jtop E C M) 0 0 := by
  refine jMd_of (by decide) (Nat.le_of_ble_eq_true rfl) (by simp [Value.category]) (by first | rfl | simp [jtop_len]) (fun x hx F T hm => ?_)
  refine jG_iload_n F dX5_twelfths_0 rfl ?_
  refine jc_X5_149 F dX5_twelfths_1 (c_X5_isPlayer) (by decide) (Nat.le_refl 0) (Nat.le_refl 0) (Nat.le_of_ble_eq_true rfl) ?_
  refine jG_if_eq F 15 dX5_twelfths_4 (by decide) (fun _ => ?_) (fun qz => absurd (jB01_neg h) qz)
  refine jG_iconst F (v := (-1 : Int32)) dX5_twelfths_15 (by decide) ?_
  exact jG_iret F T (rfl) rfl (by first | rfl | exact jnarb _ | (split <;> rfl)) dX5_twelfths_16
theorem c_X5_twelfths (hk : k < 4) : jMd l E yX5_twelfths cX5_twelfths 2 (some .int) 3 [.ref (E.1 + 0), .int (nI k)] (jtop E C M) (some (.int (jtwo (jscC C) k))) (jtop E C M) 0 0 := by
  refine jMd_of (by decide) (Nat.le_of_ble_eq_true rfl) (by simp [Value.category]) (by first | rfl | simp [jtop_len]) (fun x hx F T hm => ?_)
  have hd := jin_n (k := k) (n := 3) (by omega) (by decide) (m := 3) rfl
  refine jG_iload_n F dX5_twelfths_0 rfl ?_
  refine jc_X5_149 F dX5_twelfths_1 (c_X5_isPlayer) (by decide) (Nat.le_refl 0) (Nat.le_refl 0) (Nat.le_of_ble_eq_true rfl) ?_
  refine jG_if_eq F 15 dX5_twelfths_4 (by decide) (fun qz => absurd qz (by rw [jB01_pos hd]; decide)) (fun _ => ?_)
  refine jG_aload_n F dX5_twelfths_7 rfl ?_
  refine jG_iload_n F dX5_twelfths_8 rfl ?_
  refine jc_X5_155 F dX5_twelfths_9 (c_X5_twelfthsOf hk) jtop_o (by decide) (Nat.le_refl 0) (Nat.le_refl 0) (Nat.le_of_ble_eq_true rfl) ?_
  refine jG_goto F 16 dX5_twelfths_12 (by decide) ?_
  exact jG_iret F T (rfl) rfl (by first | rfl | exact jnarb _ | (split <;> rfl)) dX5_twelfths_16
theorem c_X5_pointsB (h0 : ¬ a = 0) (h1 : ¬ a = 1) : jMd l E yX5_points cX5_points 5 (some .int) 3 [.ref (E.1 + 0), .int a] (jtop E C M) (some (.int (-1))) (jtop E C M) 0 0 := by
  refine jMd_of (by decide) (Nat.le_of_ble_eq_true rfl) (by simp [Value.category]) (by first | rfl | simp [jtop_len]) (fun x hx F T hm => ?_)
  refine jG_iload_n F dX5_points_0 rfl ?_
  refine jG_if_eq F 11 dX5_points_1 (by decide) (fun qz => absurd qz h0) (fun _ => ?_)
  refine jG_iload_n F dX5_points_4 rfl ?_
  refine jG_iconst F (v := (1 : Int32)) dX5_points_5 (by decide) ?_
  refine jG_icmp_eq F 11 dX5_points_6 (by decide) (fun qz => absurd qz h1) (fun _ => ?_)
  refine jG_iconst F (v := (-1 : Int32)) dX5_points_9 (by decide) ?_
  exact jG_iret F T (rfl) rfl (by first | rfl | exact jnarb _ | (split <;> rfl)) dX5_points_10
abbrev jinC (C : jCT) (p : Nat) : Prop := C.1.1.2.2.2.2.1 &&& ((4369 : Int32) <<< (nI p &&& 31)) = (4369 : Int32) <<< (nI p &&& 31)
theorem c_X5_points (hk : k < 2) : jMd l E yX5_points cX5_points 5 (some .int) 3 [.ref (E.1 + 0), .int (nI k)] (jtop E C M) (some (.int (jpts (jtwo (jscC C)) (jinC C) k 4))) (jtop E C M) 0 0 := by
  refine jMd_of (by decide) (Nat.le_of_ble_eq_true rfl) (by simp [Value.category]) (by first | rfl | simp [jtop_len]) (fun x hx F T hm => ?_)
  have loop : ∀ n, n ≤ 4 → ∀ r : List Value, jG E x 0 0 15 (.ref (E.1 + 0) :: .int (nI k) :: .int (jpts (jtwo (jscC C)) (jinC C) k n) :: .int (nI n) :: r) [] (jtop E C M) := by
    refine jup 4 _ ?_ ?_
    · intro r
      refine jG_iload_n F dX5_points_15 rfl ?_
      refine jG_iconst F (v := nI 4) dX5_points_16 (by decide) ?_
      refine jG_icmp_ge F 82 dX5_points_17 (by decide) (fun _ => ?_) (fun q => absurd (nI_le (Nat.le_refl 4) (by decide)) q)
      refine jG_iload_n F dX5_points_82 rfl ?_
      exact jG_iret F T (rfl) rfl (by first | rfl | exact jnarb _ | (split <;> rfl)) dX5_points_83
    · intro n hn ih r
      have e2 : nI n - nI n / nI 2 * nI 2 = nI (n % 2) := pk_rem (by omega) (by decide) (by decide)
      refine jG_take 4 ?_
      refine jG_iload_n F dX5_points_15 rfl ?_
      refine jG_iconst F (v := nI 4) dX5_points_16 (by decide) ?_
      refine jG_icmp_ge F 82 dX5_points_17 (by decide) (fun q => absurd q (nI_ge hn (by decide))) (fun _ => ?_)
      refine jG_iload_n F dX5_points_20 rfl ?_
      refine jG_iconst F (v := nI 2) dX5_points_21 (by decide) ?_
      refine jG_irem F dX5_points_22 (by decide) ?_
      refine jG_iload_n F dX5_points_23 rfl ?_
      refine jG_icmp_ne F 31 dX5_points_24 (by decide) (fun q => ?_) (fun q => ?_)
      · have q : ¬ n % 2 = k := fun z => q (by rw [e2, z])
        refine jG_iconst F (v := (0 : Int32)) dX5_points_31 (by decide) ?_
        refine jG_istore_4n F dX5_points_32 (by decide) ?_
        refine jG_iload F dX5_points_34 rfl ?_
        refine jG_if_eq F 47 dX5_points_36 (by decide) (fun _ => ?_) (fun qz => absurd rfl qz)
        refine jG_aload_n F dX5_points_47 rfl ?_
        refine jg_X5_10 F dX5_points_48 jtop_o rfl ?_
        refine jg_X5_79 F dX5_points_51 jtop_n rfl ?_
        refine jG_iload_n F dX5_points_54 rfl ?_
        refine jc_X5_158 F dX5_points_55 (t_isAllIn) jtop_b (by decide) (Nat.le_refl 0) (Nat.le_refl 0) (Nat.le_of_ble_eq_true rfl) ?_
        refine jG_if_eq F 76 dX5_points_58 (by decide) (fun q2 => ?_) (fun q2 => ?_)
        · have q2 := jB01_eq q2
          refine jG_iinc_3 F (w := nI (n + 1)) dX5_points_76 (jinc n) (by decide) ?_
          refine jG_goto F 15 dX5_points_79 (by decide) ?_
          refine jG_take 4 ?_
          refine jG_eq ?_ rfl rfl (ih [])
          rw [show jpts (jtwo (jscC C)) (jinC C) k (n + 1) = jpts (jtwo (jscC C)) (jinC C) k n from by show (if n % 2 = k then _ else _) + (if jinC C n then _ else _) = _; rw [if_neg q, if_neg q2, Int32.add_zero]] <;> rfl
        · have q2 := jB01_ne q2
          refine jG_iload_n F dX5_points_61 rfl ?_
          refine jG_iload F dX5_points_62 rfl ?_
          refine jG_if_eq F 72 dX5_points_64 (by decide) (fun _ => ?_) (fun qz => absurd rfl qz)
          refine jG_bipush F (v := (-12 : Int32)) dX5_points_72 (by decide) ?_
          refine jG_iadd F dX5_points_74 ?_
          refine jG_istore_n_2e F dX5_points_75 (by decide) ?_
          refine jG_iinc_3 F (w := nI (n + 1)) dX5_points_76 (jinc n) (by decide) ?_
          refine jG_goto F 15 dX5_points_79 (by decide) ?_
          refine jG_take 4 ?_
          refine jG_eq ?_ rfl rfl (ih [])
          rw [show jpts (jtwo (jscC C)) (jinC C) k (n + 1) = jpts (jtwo (jscC C)) (jinC C) k n + -12 from by show (if n % 2 = k then _ else _) + (if jinC C n then _ else _) = _; rw [if_neg q, if_pos q2, if_neg q]] <;> rfl
      · have q : n % 2 = k := (nI_eq (by omega) (by omega)).mp (e2.symm.trans q)
        refine jG_iconst F (v := (1 : Int32)) dX5_points_27 (by decide) ?_
        refine jG_goto F 32 dX5_points_28 (by decide) ?_
        refine jG_istore_4n F dX5_points_32 (by decide) ?_
        refine jG_iload F dX5_points_34 rfl ?_
        refine jG_if_eq F 47 dX5_points_36 (by decide) (fun qz => absurd qz (by decide)) (fun _ => ?_)
        refine jG_iload_n F dX5_points_39 rfl ?_
        refine jG_aload_n F dX5_points_40 rfl ?_
        refine jG_iload_n F dX5_points_41 rfl ?_
        refine jc_X5_155 F dX5_points_42 (c_X5_twelfthsOf hn) jtop_o (by decide) (Nat.le_refl 0) (Nat.le_refl 0) (Nat.le_of_ble_eq_true rfl) ?_
        refine jG_iadd F dX5_points_45 ?_
        refine jG_istore_n_2e F dX5_points_46 (by decide) ?_
        refine jG_aload_n F dX5_points_47 rfl ?_
        refine jg_X5_10 F dX5_points_48 jtop_o rfl ?_
        refine jg_X5_79 F dX5_points_51 jtop_n rfl ?_
        refine jG_iload_n F dX5_points_54 rfl ?_
        refine jc_X5_158 F dX5_points_55 (t_isAllIn) jtop_b (by decide) (Nat.le_refl 0) (Nat.le_refl 0) (Nat.le_of_ble_eq_true rfl) ?_
        refine jG_if_eq F 76 dX5_points_58 (by decide) (fun q2 => ?_) (fun q2 => ?_)
        · have q2 := jB01_eq q2
          refine jG_iinc_3 F (w := nI (n + 1)) dX5_points_76 (jinc n) (by decide) ?_
          refine jG_goto F 15 dX5_points_79 (by decide) ?_
          refine jG_take 4 ?_
          refine jG_eq ?_ rfl rfl (ih [])
          rw [show jpts (jtwo (jscC C)) (jinC C) k (n + 1) = jpts (jtwo (jscC C)) (jinC C) k n + jtwo (jscC C) n from by show (if n % 2 = k then _ else _) + (if jinC C n then _ else _) = _; rw [if_pos q, if_neg q2, Int32.add_zero]] <;> rfl
        · have q2 := jB01_ne q2
          refine jG_iload_n F dX5_points_61 rfl ?_
          refine jG_iload F dX5_points_62 rfl ?_
          refine jG_if_eq F 72 dX5_points_64 (by decide) (fun qz => absurd qz (by decide)) (fun _ => ?_)
          refine jG_bipush F (v := (12 : Int32)) dX5_points_67 (by decide) ?_
          refine jG_goto F 74 dX5_points_69 (by decide) ?_
          refine jG_iadd F dX5_points_74 ?_
          refine jG_istore_n_2e F dX5_points_75 (by decide) ?_
          refine jG_iinc_3 F (w := nI (n + 1)) dX5_points_76 (jinc n) (by decide) ?_
          refine jG_goto F 15 dX5_points_79 (by decide) ?_
          refine jG_take 4 ?_
          refine jG_eq ?_ rfl rfl (ih [])
          rw [show jpts (jtwo (jscC C)) (jinC C) k (n + 1) = jpts (jtwo (jscC C)) (jinC C) k n + jtwo (jscC C) n + 12 from by show (if n % 2 = k then _ else _) + (if jinC C n then _ else _) = _; rw [if_pos q, if_pos q2, if_pos q]] <;> rfl
  refine jG_iload_n F dX5_points_0 rfl ?_
  refine jG_if_eq F 11 dX5_points_1 (by decide) (fun q => ?_) (fun q => ?_)
  · refine jG_iconst F (v := (0 : Int32)) dX5_points_11 (by decide) ?_
    refine jG_istore_n_2n F dX5_points_12 (by decide) ?_
    refine jG_iconst F (v := nI 0) dX5_points_13 (by decide) ?_
    refine jG_istore_n_3n F dX5_points_14 (by decide) ?_
    exact loop 0 (by decide) []
  · have q : k = 1 := by
      rcases (show k = 0 ∨ k = 1 by omega) with z | z
      · exact absurd (by rw [z]; rfl) q
      · exact z
    refine jG_iload_n F dX5_points_4 rfl ?_
    refine jG_iconst F (v := (1 : Int32)) dX5_points_5 (by decide) ?_
    refine jG_icmp_eq F 11 dX5_points_6 (by decide) (fun _ => ?_) (fun qz => absurd (by rw [q]; rfl) qz)
    refine jG_iconst F (v := (0 : Int32)) dX5_points_11 (by decide) ?_
    refine jG_istore_n_2n F dX5_points_12 (by decide) ?_
    refine jG_iconst F (v := nI 0) dX5_points_13 (by decide) ?_
    refine jG_istore_n_3n F dX5_points_14 (by decide) ?_
    exact loop 0 (by decide) []
theorem c_X5_chanceB (h : ¬ (0 ≤ a ∧ a ≤ 15) ∨ (¬ b = -1 ∧ ¬ (0 ≤ b ∧ b ≤ 15))) : jMd l E yX5_chance cX5_chance 4 (some .int) 4 [.ref (E.1 + 0), .int a, .int b] (jtop E C M) (some (.int (-1))) (jtop E C M) 0 0 := by
  refine jMd_of (by decide) (Nat.le_of_ble_eq_true rfl) (by simp [Value.category]) (by first | rfl | simp [jtop_len]) (fun x hx F T hm => ?_)
  refine jG_iload_n F dX5_chance_0 rfl ?_
  refine jc_X5_71 F dX5_chance_1 (c_X5_isDisc) (by decide) (Nat.le_refl 0) (Nat.le_refl 0) (Nat.le_of_ble_eq_true rfl) ?_
  refine jG_if_eq F 19 dX5_chance_4 (by decide) (fun q => ?_) (fun q => ?_)
  · refine jG_iconst F (v := (-1 : Int32)) dX5_chance_19 (by decide) ?_
    exact jG_iret F T (rfl) rfl (by first | rfl | exact jnarb _ | (split <;> rfl)) dX5_chance_20
  · have q := jB01_ne q
    refine jG_iload_n F dX5_chance_7 rfl ?_
    refine jG_iconst F (v := (-1 : Int32)) dX5_chance_8 (by decide) ?_
    refine jG_icmp_eq F 21 dX5_chance_9 (by decide) (fun qz => absurd qz (fun z => h.elim (fun y => y q) (fun y => y.1 z))) (fun _ => ?_)
    refine jG_iload_n F dX5_chance_12 rfl ?_
    refine jc_X5_71 F dX5_chance_13 (c_X5_isDisc) (by decide) (Nat.le_refl 0) (Nat.le_refl 0) (Nat.le_of_ble_eq_true rfl) ?_
    refine jG_if_ne F 21 dX5_chance_16 (by decide) (fun qz => absurd qz (fun z => h.elim (fun y => y q) (fun y => y.2 (jB01_ne z)))) (fun _ => ?_)
    refine jG_iconst F (v := (-1 : Int32)) dX5_chance_19 (by decide) ?_
    exact jG_iret F T (rfl) rfl (by first | rfl | exact jnarb _ | (split <;> rfl)) dX5_chance_20
theorem c_X5_chanceP (hk : k < 16) : jMd l E yX5_chance cX5_chance 4 (some .int) 4 [.ref (E.1 + 0), .int (nI k), .int (-1)] (jtop E C M) (some (.int (if jts C.1.1.2.2.2.2.1 k then -2 else jchP C.1.1.1 C.1.1.2.1 k))) (jtop E C M) 0 0 := by
  refine jMd_of (by decide) (Nat.le_of_ble_eq_true rfl) (by simp [Value.category]) (by first | rfl | simp [jtop_len]) (fun x hx F T hm => ?_)
  have hd := jin_n (k := k) (n := 15) (by omega) (by decide) (m := 15) rfl
  refine jG_iload_n F dX5_chance_0 rfl ?_
  refine jc_X5_71 F dX5_chance_1 (c_X5_isDisc) (by decide) (Nat.le_refl 0) (Nat.le_refl 0) (Nat.le_of_ble_eq_true rfl) ?_
  refine jG_if_eq F 19 dX5_chance_4 (by decide) (fun qz => absurd qz (by rw [jB01_pos hd]; decide)) (fun _ => ?_)
  refine jG_iload_n F dX5_chance_7 rfl ?_
  refine jG_iconst F (v := (-1 : Int32)) dX5_chance_8 (by decide) ?_
  refine jG_icmp_eq F 21 dX5_chance_9 (by decide) (fun _ => ?_) (fun qz => absurd rfl qz)
  refine jG_aload_n F dX5_chance_21 rfl ?_
  refine jg_X5_10 F dX5_chance_22 jtop_o rfl ?_
  refine jg_X5_79 F dX5_chance_25 jtop_n rfl ?_
  refine jG_astore_n_3n F dX5_chance_28 (by decide) ?_
  refine jG_aload_n F dX5_chance_29 rfl ?_
  refine jG_iload_n F dX5_chance_30 rfl ?_
  refine jc_X5_92 F dX5_chance_31 (t_isInCup) jtop_b (by decide) (Nat.le_refl 0) (Nat.le_refl 0) (Nat.le_of_ble_eq_true rfl) ?_
  refine jG_if_ne F 55 dX5_chance_34 (by decide) (fun q => ?_) (fun q => ?_)
  · rw [if_pos (jB01_ne q)] at T
    refine jG_bipush F (v := (-2 : Int32)) dX5_chance_55 (by decide) ?_
    exact jG_iret F T (rfl) rfl (by first | rfl | exact jnarb _ | (split <;> rfl)) dX5_chance_57
  · rw [if_neg (jB01_eq q)] at T
    refine jG_iload_n F dX5_chance_37 rfl ?_
    refine jG_iload_n F dX5_chance_38 rfl ?_
    refine jG_icmp_eq F 55 dX5_chance_39 (by decide) (fun qz => absurd qz (fun z => jneg1 hk z.symm)) (fun _ => ?_)
    refine jG_iload_n F dX5_chance_42 rfl ?_
    refine jG_iconst F (v := (-1 : Int32)) dX5_chance_43 (by decide) ?_
    refine jG_icmp_eq F 58 dX5_chance_44 (by decide) (fun _ => ?_) (fun qz => absurd rfl qz)
    refine jG_aload_n F dX5_chance_58 rfl ?_
    refine jG_iload_n F dX5_chance_59 rfl ?_
    refine jG_iload_n F dX5_chance_60 rfl ?_
    refine jc_X5_161 F dX5_chance_61 (t_chanceOfP hk) (by decide) (Nat.le_refl 0) (Nat.le_refl 0) (Nat.le_of_ble_eq_true rfl) ?_
    exact jG_iret F T (rfl) rfl (by first | rfl | exact jnarb _ | (split <;> rfl)) dX5_chance_64
theorem c_X5_chanceD {o : Nat} (hk : k < 16) (ho : o < 16) : jMd l E yX5_chance cX5_chance 4 (some .int) 4 [.ref (E.1 + 0), .int (nI k), .int (nI o)] (jtop E C M) (some (.int (if jts C.1.1.2.2.2.2.1 k ∨ o = k ∨ ¬ jts C.1.1.2.2.2.1 o then -2 else jchD C.1.1.1 C.1.1.2.1 k o))) (jtop E C M) 0 0 := by
  refine jMd_of (by decide) (Nat.le_of_ble_eq_true rfl) (by simp [Value.category]) (by first | rfl | simp [jtop_len]) (fun x hx F T hm => ?_)
  have hd := jin_n (k := k) (n := 15) (by omega) (by decide) (m := 15) rfl
  have hd2 := jin_n (k := o) (n := 15) (by omega) (by decide) (m := 15) rfl
  refine jG_iload_n F dX5_chance_0 rfl ?_
  refine jc_X5_71 F dX5_chance_1 (c_X5_isDisc) (by decide) (Nat.le_refl 0) (Nat.le_refl 0) (Nat.le_of_ble_eq_true rfl) ?_
  refine jG_if_eq F 19 dX5_chance_4 (by decide) (fun qz => absurd qz (by rw [jB01_pos hd]; decide)) (fun _ => ?_)
  refine jG_iload_n F dX5_chance_7 rfl ?_
  refine jG_iconst F (v := (-1 : Int32)) dX5_chance_8 (by decide) ?_
  refine jG_icmp_eq F 21 dX5_chance_9 (by decide) (fun qz => absurd qz (jneg1 ho)) (fun _ => ?_)
  refine jG_iload_n F dX5_chance_12 rfl ?_
  refine jc_X5_71 F dX5_chance_13 (c_X5_isDisc) (by decide) (Nat.le_refl 0) (Nat.le_refl 0) (Nat.le_of_ble_eq_true rfl) ?_
  refine jG_if_ne F 21 dX5_chance_16 (by decide) (fun _ => ?_) (fun qz => absurd qz (by rw [jB01_pos hd2]; decide))
  refine jG_aload_n F dX5_chance_21 rfl ?_
  refine jg_X5_10 F dX5_chance_22 jtop_o rfl ?_
  refine jg_X5_79 F dX5_chance_25 jtop_n rfl ?_
  refine jG_astore_n_3n F dX5_chance_28 (by decide) ?_
  refine jG_aload_n F dX5_chance_29 rfl ?_
  refine jG_iload_n F dX5_chance_30 rfl ?_
  refine jc_X5_92 F dX5_chance_31 (t_isInCup) jtop_b (by decide) (Nat.le_refl 0) (Nat.le_refl 0) (Nat.le_of_ble_eq_true rfl) ?_
  refine jG_if_ne F 55 dX5_chance_34 (by decide) (fun q => ?_) (fun q => ?_)
  · rw [if_pos (Or.inl (jB01_ne q))] at T
    refine jG_bipush F (v := (-2 : Int32)) dX5_chance_55 (by decide) ?_
    exact jG_iret F T (rfl) rfl (by first | rfl | exact jnarb _ | (split <;> rfl)) dX5_chance_57
  · have q := jB01_eq q
    refine jG_iload_n F dX5_chance_37 rfl ?_
    refine jG_iload_n F dX5_chance_38 rfl ?_
    refine jG_icmp_eq F 55 dX5_chance_39 (by decide) (fun q2 => ?_) (fun q2 => ?_)
    · have q2 : o = k := (nI_eq (by omega) (by omega)).mp q2
      rw [if_pos (Or.inr (Or.inl q2))] at T
      refine jG_bipush F (v := (-2 : Int32)) dX5_chance_55 (by decide) ?_
      exact jG_iret F T (rfl) rfl (by first | rfl | exact jnarb _ | (split <;> rfl)) dX5_chance_57
    · have q2 : ¬ o = k := fun z => q2 (by rw [z])
      refine jG_iload_n F dX5_chance_42 rfl ?_
      refine jG_iconst F (v := (-1 : Int32)) dX5_chance_43 (by decide) ?_
      refine jG_icmp_eq F 58 dX5_chance_44 (by decide) (fun qz => absurd qz (jneg1 ho)) (fun _ => ?_)
      refine jG_aload_n F dX5_chance_47 rfl ?_
      refine jG_iload_n F dX5_chance_48 rfl ?_
      refine jc_X5_95 F dX5_chance_49 (t_doesLie) jtop_b (by decide) (Nat.le_refl 0) (Nat.le_refl 0) (Nat.le_of_ble_eq_true rfl) ?_
      refine jG_if_ne F 58 dX5_chance_52 (by decide) (fun q3 => ?_) (fun q3 => ?_)
      · rw [if_neg (fun z => z.elim q (fun y => y.elim q2 (fun u => u (jB01_ne q3))))] at T
        refine jG_aload_n F dX5_chance_58 rfl ?_
        refine jG_iload_n F dX5_chance_59 rfl ?_
        refine jG_iload_n F dX5_chance_60 rfl ?_
        refine jc_X5_161 F dX5_chance_61 (t_chanceOfD hk ho) (by decide) (Nat.le_refl 0) (Nat.le_refl 0) (Nat.le_of_ble_eq_true rfl) ?_
        exact jG_iret F T (rfl) rfl (by first | rfl | exact jnarb _ | (split <;> rfl)) dX5_chance_64
      · rw [if_pos (Or.inr (Or.inr (jB01_eq q3)))] at T
        refine jG_bipush F (v := (-2 : Int32)) dX5_chance_55 (by decide) ?_
        exact jG_iret F T (rfl) rfl (by first | rfl | exact jnarb _ | (split <;> rfl)) dX5_chance_57
theorem c_X5_bestB (h : ¬ (0 ≤ a ∧ a ≤ 3) ∨ ¬ (0 ≤ b ∧ b ≤ 2)) : jMd l E yX5_best cX5_best 4 (some .int) 7 [.ref (E.1 + 0), .int a, .int b] (jtop E C M) (some (.int (-100))) (jtop E C M) 0 0 := by
  refine jMd_of (by decide) (Nat.le_of_ble_eq_true rfl) (by simp [Value.category]) (by first | rfl | simp [jtop_len]) (fun x hx F T hm => ?_)
  refine jG_iload_n F dX5_best_0 rfl ?_
  refine jc_X5_149 F dX5_best_1 (c_X5_isPlayer) (by decide) (Nat.le_refl 0) (Nat.le_refl 0) (Nat.le_of_ble_eq_true rfl) ?_
  refine jG_if_eq F 16 dX5_best_4 (by decide) (fun q => ?_) (fun q => ?_)
  · refine jG_bipush F (v := (-100 : Int32)) dX5_best_16 (by decide) ?_
    exact jG_iret F T (rfl) rfl (by first | rfl | exact jnarb _ | (split <;> rfl)) dX5_best_18
  · have q := jB01_ne q
    refine jG_iload_n F dX5_best_7 rfl ?_
    refine jG_iconst F (v := (0 : Int32)) dX5_best_8 (by decide) ?_
    refine jG_iconst F (v := (2 : Int32)) dX5_best_9 (by decide) ?_
    refine jc_X5_51 F dX5_best_10 (c_X5_within) (by decide) (Nat.le_refl 0) (Nat.le_refl 0) (Nat.le_of_ble_eq_true rfl) ?_
    refine jG_if_ne F 19 dX5_best_13 (by decide) (fun qz => absurd qz (fun z => h.elim (fun y => y q) (fun y => y (jB01_ne z)))) (fun _ => ?_)
    refine jG_bipush F (v := (-100 : Int32)) dX5_best_16 (by decide) ?_
    exact jG_iret F T (rfl) rfl (by first | rfl | exact jnarb _ | (split <;> rfl)) dX5_best_18
theorem c_X5_best {Q : Int32 × Int32 × Int32} (hQ : jbst C k = Q) (hk : k < 4) (hb : 0 ≤ b ∧ b ≤ 2) : jMd l E yX5_best cX5_best 4 (some .int) 7 [.ref (E.1 + 0), .int (nI k), .int b] (jtop E C M) (some (.int (if Q.2.2 = 0 then -102 else if b = 0 then Q.1 else if b = 1 then Q.2.1 else Q.2.2))) (jtop E (C.1, Q, C.2.2) M) 0 0 := by
  refine jMd_of (by decide) (Nat.le_of_ble_eq_true rfl) (by simp [Value.category]) (by first | rfl | simp [jtop_len]) (fun x hx F T hm => ?_)
  have hd := jin_n (k := k) (n := 3) (by omega) (by decide) (m := 3) rfl
  have k1 := t_worthOfBest (l := jL x) (E := E) (C := C) (M := M) (p := k) hk
  rw [hQ] at k1
  refine jG_iload_n F dX5_best_0 rfl ?_
  refine jc_X5_149 F dX5_best_1 (c_X5_isPlayer) (by decide) (Nat.le_refl 0) (Nat.le_refl 0) (Nat.le_of_ble_eq_true rfl) ?_
  refine jG_if_eq F 16 dX5_best_4 (by decide) (fun qz => absurd qz (by rw [jB01_pos hd]; decide)) (fun _ => ?_)
  refine jG_iload_n F dX5_best_7 rfl ?_
  refine jG_iconst F (v := (0 : Int32)) dX5_best_8 (by decide) ?_
  refine jG_iconst F (v := (2 : Int32)) dX5_best_9 (by decide) ?_
  refine jc_X5_51 F dX5_best_10 (c_X5_within) (by decide) (Nat.le_refl 0) (Nat.le_refl 0) (Nat.le_of_ble_eq_true rfl) ?_
  refine jG_if_ne F 19 dX5_best_13 (by decide) (fun _ => ?_) (fun qz => absurd qz (by rw [jB01_pos hb]; decide))
  refine jG_aload_n F dX5_best_19 rfl ?_
  refine jg_X5_19 F dX5_best_20 jtop_o rfl ?_
  refine jG_aload_n F dX5_best_23 rfl ?_
  refine jg_X5_10 F dX5_best_24 jtop_o rfl ?_
  refine jg_X5_79 F dX5_best_27 jtop_n rfl ?_
  refine jG_iload_n F dX5_best_30 rfl ?_
  refine jc_X5_165 F dX5_best_31 (k1) jtop_a (by decide) (Nat.le_refl 0) (Nat.le_refl 0) (Nat.le_of_ble_eq_true rfl) ?_
  refine jG_istore_n_3n F dX5_best_34 (by decide) ?_
  refine jG_iload_n F dX5_best_35 rfl ?_
  refine jG_if_ne F 42 dX5_best_36 (by decide) (fun q => ?_) (fun q => ?_)
  · rw [if_neg q] at T
    refine jG_iload_n F dX5_best_42 rfl ?_
    refine jG_if_ne F 56 dX5_best_43 (by decide) (fun q2 => ?_) (fun q2 => ?_)
    · rw [if_neg q2] at T
      refine jG_iload_n F dX5_best_56 rfl ?_
      refine jG_iconst F (v := (1 : Int32)) dX5_best_57 (by decide) ?_
      refine jG_icmp_ne F 71 dX5_best_58 (by decide) (fun q3 => ?_) (fun q3 => ?_)
      · rw [if_neg q3] at T
        refine jG_iload_n F dX5_best_71 rfl ?_
        exact jG_iret F T (rfl) rfl (by first | rfl | exact jnarb _ | (split <;> rfl)) dX5_best_72
      · rw [if_pos q3] at T
        refine jG_aload_n F dX5_best_61 rfl ?_
        refine jg_X5_19 F dX5_best_62 jtop_o rfl ?_
        refine jg_X5_172 F dX5_best_65 jtop_a rfl ?_
        refine jG_goto F 72 dX5_best_68 (by decide) ?_
        exact jG_iret F T (rfl) rfl (by first | rfl | exact jnarb _ | (split <;> rfl)) dX5_best_72
    · rw [if_pos q2] at T
      refine jG_aload_n F dX5_best_46 rfl ?_
      refine jg_X5_19 F dX5_best_47 jtop_o rfl ?_
      refine jg_X5_169 F dX5_best_50 jtop_a rfl ?_
      refine jG_goto F 72 dX5_best_53 (by decide) ?_
      exact jG_iret F T (rfl) rfl (by first | rfl | exact jnarb _ | (split <;> rfl)) dX5_best_72
  · rw [if_pos q] at T
    refine jG_bipush F (v := (-102 : Int32)) dX5_best_39 (by decide) ?_
    exact jG_iret F T (rfl) rfl (by first | rfl | exact jnarb _ | (split <;> rfl)) dX5_best_41
theorem c_X5_aheadN (h : jovr C.1.1.2.2.2.2.1 C.1.2.2.2.2.2.2.2) : jMd l E yX5_ahead cX5_ahead 2 (some .int) 7 [.ref (E.1 + 0)] (jtop E C M) (some (.int (-10002))) (jtop E C M) 0 0 := by
  refine jMd_of (by decide) (Nat.le_of_ble_eq_true rfl) (by simp [Value.category]) (by first | rfl | simp [jtop_len]) (fun x hx F T hm => ?_)
  refine jG_aload_n F dX5_ahead_0 rfl ?_
  refine jg_X5_10 F dX5_ahead_1 jtop_o rfl ?_
  refine jc_X5_135 F dX5_ahead_4 (t_isOver) jtop_n (by decide) (Nat.le_refl 0) (Nat.le_refl 0) (Nat.le_of_ble_eq_true rfl) ?_
  refine jG_if_eq F 14 dX5_ahead_7 (by decide) (fun qz => absurd qz (by rw [jB01_pos h]; decide)) (fun _ => ?_)
  refine jG_sipush F (v := (-10002 : Int32)) dX5_ahead_10 (by decide) ?_
  exact jG_iret F T (rfl) rfl (by first | rfl | exact jnarb _ | (split <;> rfl)) dX5_ahead_13
theorem c_X5_ahead {Q Q2 : Int32 × Int32 × Int32} {p : Nat} (hQ : jbst C C.1.2.2.2.2.2.1 = Q) (hp : jskipT (jfree C.1.1.2.2.2.2.1 C.1.1.2.2.2.2.2) 4 ((C.1.2.2.2.2.2.1 + 1) % 4) = p) (hQ2 : jbst (C.1, Q, C.2.2) p = Q2) (ht : C.1.2.2.2.2.2.1 < 4) (hp4 : p < 4) (h : ¬ jovr C.1.1.2.2.2.2.1 C.1.2.2.2.2.2.2.2) : jMd l E yX5_ahead cX5_ahead 2 (some .int) 7 [.ref (E.1 + 0)] (jtop E C M) (some (.int (Q.2.2 - Q2.2.2))) (jtop E (C.1, Q2, C.2.2) M) 0 0 := by
  refine jMd_of (by decide) (Nat.le_of_ble_eq_true rfl) (by simp [Value.category]) (by first | rfl | simp [jtop_len]) (fun x hx F T hm => ?_)
  have k1 := t_worthOfBest (l := jL x) (E := E) (C := C) (M := M) (p := C.1.2.2.2.2.2.1) ht
  rw [hQ] at k1
  have k2 := t_playerBehind (l := jL x) (E := E) (C := (C.1, Q, C.2.2)) (M := M) ht
  rw [show jskipT (jfree (C.1, Q, C.2.2).1.1.2.2.2.2.1 (C.1, Q, C.2.2).1.1.2.2.2.2.2) 4 (((C.1, Q, C.2.2).1.2.2.2.2.2.1 + 1) % 4) = p from hp] at k2
  have k3 := t_worthOfBest (l := jL x) (E := E) (C := (C.1, Q, C.2.2)) (M := M) (p := p) hp4
  rw [hQ2] at k3
  refine jG_aload_n F dX5_ahead_0 rfl ?_
  refine jg_X5_10 F dX5_ahead_1 jtop_o rfl ?_
  refine jc_X5_135 F dX5_ahead_4 (t_isOver) jtop_n (by decide) (Nat.le_refl 0) (Nat.le_refl 0) (Nat.le_of_ble_eq_true rfl) ?_
  refine jG_if_eq F 14 dX5_ahead_7 (by decide) (fun _ => ?_) (fun qz => absurd (jB01_neg h) qz)
  refine jG_aload_n F dX5_ahead_14 rfl ?_
  refine jg_X5_19 F dX5_ahead_15 jtop_o rfl ?_
  refine jG_aload_n F dX5_ahead_18 rfl ?_
  refine jg_X5_10 F dX5_ahead_19 jtop_o rfl ?_
  refine jg_X5_79 F dX5_ahead_22 jtop_n rfl ?_
  refine jG_aload_n F dX5_ahead_25 rfl ?_
  refine jg_X5_10 F dX5_ahead_26 jtop_o rfl ?_
  refine jg_X5_139 F dX5_ahead_29 jtop_n rfl ?_
  refine jc_X5_165 F dX5_ahead_32 (k1) jtop_a (by decide) (Nat.le_refl 0) (Nat.le_refl 0) (Nat.le_of_ble_eq_true rfl) ?_
  refine jG_istore_n_1n F dX5_ahead_35 (by decide) ?_
  refine jG_iload_n F dX5_ahead_36 rfl ?_
  refine jG_aload_n F dX5_ahead_37 rfl ?_
  refine jg_X5_19 F dX5_ahead_38 jtop_o rfl ?_
  refine jG_aload_n F dX5_ahead_41 rfl ?_
  refine jg_X5_10 F dX5_ahead_42 jtop_o rfl ?_
  refine jg_X5_79 F dX5_ahead_45 jtop_n rfl ?_
  refine jG_aload_n F dX5_ahead_48 rfl ?_
  refine jg_X5_10 F dX5_ahead_49 jtop_o rfl ?_
  refine jc_X5_175 F dX5_ahead_52 (k2) jtop_n (by decide) (Nat.le_refl 0) (Nat.le_refl 0) (Nat.le_of_ble_eq_true rfl) ?_
  refine jc_X5_165 F dX5_ahead_55 (k3) jtop_a (by decide) (Nat.le_refl 0) (Nat.le_refl 0) (Nat.le_of_ble_eq_true rfl) ?_
  refine jG_isub F dX5_ahead_58 ?_
  exact jG_iret F T (rfl) rfl (by first | rfl | exact jnarb _ | (split <;> rfl)) dX5_ahead_59
theorem c_X5_writeB (h : ¬ (0 ≤ a ∧ a ≤ 15) ∨ ¬ jmark b c) : jMd l E yX5_write cX5_write 4 (some .int) 3 [.ref (E.1 + 0), .int a, .int b, .int c] (jtop E C M) (some (.int (-1))) (jtop E C M) 0 0 := by
  refine jMd_of (by decide) (Nat.le_of_ble_eq_true rfl) (by simp [Value.category]) (by first | rfl | simp [jtop_len]) (fun x hx F T hm => ?_)
  refine jG_iload_n F dX5_write_0 rfl ?_
  refine jc_X5_71 F dX5_write_1 (c_X5_isDisc) (by decide) (Nat.le_refl 0) (Nat.le_refl 0) (Nat.le_of_ble_eq_true rfl) ?_
  refine jG_if_eq F 15 dX5_write_4 (by decide) (fun q => ?_) (fun q => ?_)
  · refine jG_iconst F (v := (-1 : Int32)) dX5_write_15 (by decide) ?_
    exact jG_iret F T (rfl) rfl (by first | rfl | exact jnarb _ | (split <;> rfl)) dX5_write_16
  · have q := jB01_ne q
    refine jG_iload_n F dX5_write_7 rfl ?_
    refine jG_iload_n F dX5_write_8 rfl ?_
    refine jc_X5_75 F dX5_write_9 (c_X5_isMarkOrPlace) (by decide) (Nat.le_refl 0) (Nat.le_refl 0) (Nat.le_of_ble_eq_true rfl) ?_
    refine jG_if_ne F 17 dX5_write_12 (by decide) (fun qz => absurd qz (fun z => h.elim (fun y => y q) (fun y => y (jB01_ne z)))) (fun _ => ?_)
    refine jG_iconst F (v := (-1 : Int32)) dX5_write_15 (by decide) ?_
    exact jG_iret F T (rfl) rfl (by first | rfl | exact jnarb _ | (split <;> rfl)) dX5_write_16
theorem c_X5_write (hd : 0 ≤ a ∧ a ≤ 15) (hm0 : jmark b c) (hR : jrok C.2.2.1) : jMd l E yX5_write cX5_write 4 (some .int) 3 [.ref (E.1 + 0), .int a, .int b, .int c] (jtop E C M) (some (.int (if C.2.2.1.2.2.2.1 < 24 then nI (C.2.2.1.2.2.2.1 + 1) else -3))) (jtop E (C.1, C.2.1, jradd C.2.2.1 a b c, C.2.2.2) M) 0 0 := by
  refine jMd_of (by decide) (Nat.le_of_ble_eq_true rfl) (by simp [Value.category]) (by first | rfl | simp [jtop_len]) (fun x hx F T hm => ?_)
  refine jG_iload_n F dX5_write_0 rfl ?_
  refine jc_X5_71 F dX5_write_1 (c_X5_isDisc) (by decide) (Nat.le_refl 0) (Nat.le_refl 0) (Nat.le_of_ble_eq_true rfl) ?_
  refine jG_if_eq F 15 dX5_write_4 (by decide) (fun qz => absurd qz (by rw [jB01_pos hd]; decide)) (fun _ => ?_)
  refine jG_iload_n F dX5_write_7 rfl ?_
  refine jG_iload_n F dX5_write_8 rfl ?_
  refine jc_X5_75 F dX5_write_9 (c_X5_isMarkOrPlace) (by decide) (Nat.le_refl 0) (Nat.le_refl 0) (Nat.le_of_ble_eq_true rfl) ?_
  refine jG_if_ne F 17 dX5_write_12 (by decide) (fun _ => ?_) (fun qz => absurd qz (by rw [jB01_pos hm0]; decide))
  refine jG_aload_n F dX5_write_17 rfl ?_
  refine jg_X5_26 F dX5_write_18 jtop_o rfl ?_
  refine jG_iload_n F dX5_write_21 rfl ?_
  refine jG_iload_n F dX5_write_22 rfl ?_
  refine jG_iload_n F dX5_write_23 rfl ?_
  refine jc_X5_178 F dX5_write_24 (t_add hR) jtop_r (by decide) (Nat.le_refl 0) (Nat.le_refl 0) (Nat.le_of_ble_eq_true rfl) ?_
  exact jG_iret F T (rfl) rfl (by first | rfl | exact jnarb _ | (split <;> rfl)) dX5_write_27
theorem c_X5_wipe : jMd l E yX5_wipe cX5_wipe 1 (some .int) 1 [.ref (E.1 + 0)] (jtop E C M) (some (.int (nI C.2.2.1.2.2.2.1))) (jtop E (C.1, C.2.1, (C.2.2.1.1, C.2.2.1.2.1, C.2.2.1.2.2.1, 0, C.2.2.1.2.2.2.2.1, C.2.2.1.2.2.2.2.2.1, -4, C.2.2.1.2.2.2.2.2.2.2), C.2.2.2) M) 0 0 := by
  refine jMd_of (by decide) (Nat.le_of_ble_eq_true rfl) (by simp [Value.category]) (by first | rfl | simp [jtop_len]) (fun x hx F T hm => ?_)
  refine jG_aload_n F dX5_wipe_0 rfl ?_
  refine jg_X5_26 F dX5_wipe_1 jtop_o rfl ?_
  refine jc_X5_182 F dX5_wipe_4 (t_clear) jtop_r (by decide) (Nat.le_refl 0) (Nat.le_refl 0) (Nat.le_of_ble_eq_true rfl) ?_
  exact jG_iret F T (rfl) rfl (by first | rfl | exact jnarb _ | (split <;> rfl)) dX5_wipe_7
theorem c_X5_wrong {f : Int32 × jGT} (hf : jfwA C.2.2.1 C.1.2.2.2.1 = f) (hR : jrok C.2.2.1) : jMd l E yX5_wrong cX5_wrong 1 (some .int) 7 [.ref (E.1 + 0)] (jtop E C M) (some (.int f.1)) (jtop E (C.1, C.2.1, (C.2.2.1.1, C.2.2.1.2.1, C.2.2.1.2.2.1, C.2.2.1.2.2.2.1, C.2.2.1.2.2.2.2.1, C.2.2.1.2.2.2.2.2.1, C.2.2.1.2.2.2.2.2.2.1, C.2.2.1.2.2.2.2.2.2.2.1, f.2), C.2.2.2) M) 0 0 := by
  refine jMd_of (by decide) (Nat.le_of_ble_eq_true rfl) (by simp [Value.category]) (by first | rfl | simp [jtop_len]) (fun x hx F T hm => ?_)
  have k1 := t_firstWrong (l := jL x) (E := E) (C := C) (M := M) (t := C.1.2.2.2.1) hR
  rw [hf] at k1
  refine jG_aload_n F dX5_wrong_0 rfl ?_
  refine jg_X5_26 F dX5_wrong_1 jtop_o rfl ?_
  refine jG_aload_n F dX5_wrong_4 rfl ?_
  refine jg_X5_10 F dX5_wrong_5 jtop_o rfl ?_
  refine jg_X5_185 F dX5_wrong_8 jtop_n rfl ?_
  refine jc_X5_188 F dX5_wrong_11 (k1) jtop_r (by decide) (Nat.le_refl 0) (Nat.le_refl 0) (Nat.le_of_ble_eq_true rfl) ?_
  exact jG_iret F T (rfl) rfl (by first | rfl | exact jnarb _ | (split <;> rfl)) dX5_wrong_14
theorem c_X5_canBeB (h0 : ¬ a = 0) (h1 : ¬ a = 1) : jMd l E yX5_canBe cX5_canBe 3 (some .int) 7 [.ref (E.1 + 0), .int a] (jtop E C M) (some (.int (-1))) (jtop E C M) 0 0 := by
  refine jMd_of (by decide) (Nat.le_of_ble_eq_true rfl) (by simp [Value.category]) (by first | rfl | simp [jtop_len]) (fun x hx F T hm => ?_)
  refine jG_iload_n F dX5_canBe_0 rfl ?_
  refine jG_if_eq F 11 dX5_canBe_1 (by decide) (fun qz => absurd qz h0) (fun _ => ?_)
  refine jG_iload_n F dX5_canBe_4 rfl ?_
  refine jG_iconst F (v := (1 : Int32)) dX5_canBe_5 (by decide) ?_
  refine jG_icmp_eq F 11 dX5_canBe_6 (by decide) (fun qz => absurd qz h1) (fun _ => ?_)
  refine jG_iconst F (v := (-1 : Int32)) dX5_canBe_9 (by decide) ?_
  exact jG_iret F T (rfl) rfl (by first | rfl | exact jnarb _ | (split <;> rfl)) dX5_canBe_10
theorem c_X5_canBeN (h : a = 0 ∨ a = 1) (hR : jrok C.2.2.1) (hg : jog C.2.2.1.2.1 C.2.2.1.2.2.2.1 0 (-4) = -4) : jMd l E yX5_canBe cX5_canBe 3 (some .int) 7 [.ref (E.1 + 0), .int a] (jtop E C M) (some (.int (-2))) (jtop E C M) 0 0 := by
  refine jMd_of (by decide) (Nat.le_of_ble_eq_true rfl) (by simp [Value.category]) (by first | rfl | simp [jtop_len]) (fun x hx F T hm => ?_)
  refine jG_iload_n F dX5_canBe_0 rfl ?_
  refine jG_if_eq F 11 dX5_canBe_1 (by decide) (fun q => ?_) (fun q => ?_)
  · refine jG_aload_n F dX5_canBe_11 rfl ?_
    refine jg_X5_26 F dX5_canBe_12 jtop_o rfl ?_
    refine jc_X5_191 F dX5_canBe_15 (t_onlyGap hR) jtop_r (by decide) (Nat.le_refl 0) (Nat.le_refl 0) (Nat.le_of_ble_eq_true rfl) ?_
    refine jG_istore_n_2n F dX5_canBe_18 (by decide) ?_
    refine jG_iload_n F dX5_canBe_19 rfl ?_
    refine jG_bipush F (v := (-4 : Int32)) dX5_canBe_20 (by decide) ?_
    refine jG_icmp_ne F 28 dX5_canBe_22 (by decide) (fun qz => absurd qz (fun z => z hg)) (fun _ => ?_)
    refine jG_bipush F (v := (-2 : Int32)) dX5_canBe_25 (by decide) ?_
    exact jG_iret F T (rfl) rfl (by first | rfl | exact jnarb _ | (split <;> rfl)) dX5_canBe_27
  · refine jG_iload_n F dX5_canBe_4 rfl ?_
    refine jG_iconst F (v := (1 : Int32)) dX5_canBe_5 (by decide) ?_
    refine jG_icmp_eq F 11 dX5_canBe_6 (by decide) (fun _ => ?_) (fun qz => absurd (h.resolve_left q) qz)
    refine jG_aload_n F dX5_canBe_11 rfl ?_
    refine jg_X5_26 F dX5_canBe_12 jtop_o rfl ?_
    refine jc_X5_191 F dX5_canBe_15 (t_onlyGap hR) jtop_r (by decide) (Nat.le_refl 0) (Nat.le_refl 0) (Nat.le_of_ble_eq_true rfl) ?_
    refine jG_istore_n_2n F dX5_canBe_18 (by decide) ?_
    refine jG_iload_n F dX5_canBe_19 rfl ?_
    refine jG_bipush F (v := (-4 : Int32)) dX5_canBe_20 (by decide) ?_
    refine jG_icmp_ne F 28 dX5_canBe_22 (by decide) (fun qz => absurd qz (fun z => z hg)) (fun _ => ?_)
    refine jG_bipush F (v := (-2 : Int32)) dX5_canBe_25 (by decide) ?_
    exact jG_iret F T (rfl) rfl (by first | rfl | exact jnarb _ | (split <;> rfl)) dX5_canBe_27
theorem c_X5_canBe {gp : Nat} {R' : jRT} (h : a = 0 ∨ a = 1) (hR : jrok C.2.2.1) (hg : jog C.2.2.1.2.1 C.2.2.1.2.2.2.1 0 (-4) = nI gp) (hgp : gp < C.2.2.1.2.2.2.1) (hR' : jrfp C.2.2.1 gp C.1.2.2.2.1 = R') : jMd l E yX5_canBe cX5_canBe 3 (some .int) 7 [.ref (E.1 + 0), .int a] (jtop E C M) (some (.int (if a = 0 then R'.2.2.2.2.1 else R'.2.2.2.2.2.1))) (jtop E (C.1, C.2.1, R', C.2.2.2) M) 0 0 := by
  refine jMd_of (by decide) (Nat.le_of_ble_eq_true rfl) (by simp [Value.category]) (by first | rfl | simp [jtop_len]) (fun x hx F T hm => ?_)
  have hlt : gp < 2 ^ 31 := by have := hR.1; omega
  have hne : ¬ nI gp = -4 := by
    intro z
    have h1 : (nI gp).toInt = gp := nI_toInt hlt
    rw [z] at h1
    have h2 : (-4 : Int32).toInt = -4 := by decide
    omega
  have k0 := t_onlyGap (l := jL x) (E := E) (C := C) (M := M) hR
  rw [hg] at k0
  have k1 := t_findPlaces (l := jL x) (E := E) (C := C) (M := M) (t := C.1.2.2.2.1) hR hgp
  rw [hR'] at k1
  refine jG_iload_n F dX5_canBe_0 rfl ?_
  refine jG_if_eq F 11 dX5_canBe_1 (by decide) (fun q => ?_) (fun q => ?_)
  · rw [if_pos q] at T
    refine jG_aload_n F dX5_canBe_11 rfl ?_
    refine jg_X5_26 F dX5_canBe_12 jtop_o rfl ?_
    refine jc_X5_191 F dX5_canBe_15 (k0) jtop_r (by decide) (Nat.le_refl 0) (Nat.le_refl 0) (Nat.le_of_ble_eq_true rfl) ?_
    refine jG_istore_n_2n F dX5_canBe_18 (by decide) ?_
    refine jG_iload_n F dX5_canBe_19 rfl ?_
    refine jG_bipush F (v := (-4 : Int32)) dX5_canBe_20 (by decide) ?_
    refine jG_icmp_ne F 28 dX5_canBe_22 (by decide) (fun _ => ?_) (fun qz => absurd qz hne)
    refine jG_aload_n F dX5_canBe_28 rfl ?_
    refine jg_X5_26 F dX5_canBe_29 jtop_o rfl ?_
    refine jG_iload_n F dX5_canBe_32 rfl ?_
    refine jG_aload_n F dX5_canBe_33 rfl ?_
    refine jg_X5_10 F dX5_canBe_34 jtop_o rfl ?_
    refine jg_X5_185 F dX5_canBe_37 jtop_n rfl ?_
    refine jc_X5_194 F dX5_canBe_40 (k1) jtop_r (by decide) (Nat.le_refl 0) (Nat.le_refl 0) (Nat.le_of_ble_eq_true rfl) ?_
    refine jG_iload_n F dX5_canBe_43 rfl ?_
    refine jG_if_ne F 57 dX5_canBe_44 (by decide) (fun qz => absurd qz (fun z => z q)) (fun _ => ?_)
    refine jG_aload_n F dX5_canBe_47 rfl ?_
    refine jg_X5_26 F dX5_canBe_48 jtop_o rfl ?_
    refine jg_X5_198 F dX5_canBe_51 jtop_r rfl ?_
    refine jG_goto F 64 dX5_canBe_54 (by decide) ?_
    exact jG_iret F T (rfl) rfl (by first | rfl | exact jnarb _ | (split <;> rfl)) dX5_canBe_64
  · rw [if_neg q] at T
    refine jG_iload_n F dX5_canBe_4 rfl ?_
    refine jG_iconst F (v := (1 : Int32)) dX5_canBe_5 (by decide) ?_
    refine jG_icmp_eq F 11 dX5_canBe_6 (by decide) (fun _ => ?_) (fun qz => absurd (h.resolve_left q) qz)
    refine jG_aload_n F dX5_canBe_11 rfl ?_
    refine jg_X5_26 F dX5_canBe_12 jtop_o rfl ?_
    refine jc_X5_191 F dX5_canBe_15 (k0) jtop_r (by decide) (Nat.le_refl 0) (Nat.le_refl 0) (Nat.le_of_ble_eq_true rfl) ?_
    refine jG_istore_n_2n F dX5_canBe_18 (by decide) ?_
    refine jG_iload_n F dX5_canBe_19 rfl ?_
    refine jG_bipush F (v := (-4 : Int32)) dX5_canBe_20 (by decide) ?_
    refine jG_icmp_ne F 28 dX5_canBe_22 (by decide) (fun _ => ?_) (fun qz => absurd qz hne)
    refine jG_aload_n F dX5_canBe_28 rfl ?_
    refine jg_X5_26 F dX5_canBe_29 jtop_o rfl ?_
    refine jG_iload_n F dX5_canBe_32 rfl ?_
    refine jG_aload_n F dX5_canBe_33 rfl ?_
    refine jg_X5_10 F dX5_canBe_34 jtop_o rfl ?_
    refine jg_X5_185 F dX5_canBe_37 jtop_n rfl ?_
    refine jc_X5_194 F dX5_canBe_40 (k1) jtop_r (by decide) (Nat.le_refl 0) (Nat.le_refl 0) (Nat.le_of_ble_eq_true rfl) ?_
    refine jG_iload_n F dX5_canBe_43 rfl ?_
    refine jG_if_ne F 57 dX5_canBe_44 (by decide) (fun _ => ?_) (fun qz => absurd qz q)
    refine jG_aload_n F dX5_canBe_57 rfl ?_
    refine jg_X5_26 F dX5_canBe_58 jtop_o rfl ?_
    refine jg_X5_201 F dX5_canBe_61 jtop_r rfl ?_
    exact jG_iret F T (rfl) rfl (by first | rfl | exact jnarb _ | (split <;> rfl)) dX5_canBe_64
theorem c_X5_seenB {e f g i j : Int32} (h : ¬ ((0 ≤ a ∧ a ≤ 3) ∧ jspot b c ∧ jspot e f ∧ jspot g i)) : jMd l E yX5_seen cX5_seen 9 (some .int) 2 [.ref (E.1 + 0), .int a, .int b, .int c, .int e, .int f, .int g, .int i] (jtop E C M) (some (.int (-1))) (jtop E C M) 0 0 := by
  refine jMd_of (by decide) (Nat.le_of_ble_eq_true rfl) (by simp [Value.category]) (by first | rfl | simp [jtop_len]) (fun x hx F T hm => ?_)
  refine jG_iload_n F dX5_seen_0 rfl ?_
  refine jc_X5_149 F dX5_seen_1 (c_X5_isPlayer) (by decide) (Nat.le_refl 0) (Nat.le_refl 0) (Nat.le_of_ble_eq_true rfl) ?_
  refine jG_if_eq F 35 dX5_seen_4 (by decide) (fun q => ?_) (fun q => ?_)
  · refine jG_iconst F (v := (-1 : Int32)) dX5_seen_35 (by decide) ?_
    exact jG_iret F T (rfl) rfl (by first | rfl | exact jnarb _ | (split <;> rfl)) dX5_seen_36
  · refine jG_iload_n F dX5_seen_7 rfl ?_
    refine jG_iload_n F dX5_seen_8 rfl ?_
    refine jc_X5_117 F dX5_seen_9 (c_X5_isPlace) (by decide) (Nat.le_refl 0) (Nat.le_refl 0) (Nat.le_of_ble_eq_true rfl) ?_
    refine jG_if_eq F 35 dX5_seen_12 (by decide) (fun q2 => ?_) (fun q2 => ?_)
    · refine jG_iconst F (v := (-1 : Int32)) dX5_seen_35 (by decide) ?_
      exact jG_iret F T (rfl) rfl (by first | rfl | exact jnarb _ | (split <;> rfl)) dX5_seen_36
    · refine jG_iload F dX5_seen_15 rfl ?_
      refine jG_iload F dX5_seen_17 rfl ?_
      refine jc_X5_117 F dX5_seen_19 (c_X5_isPlace) (by decide) (Nat.le_refl 0) (Nat.le_refl 0) (Nat.le_of_ble_eq_true rfl) ?_
      refine jG_if_eq F 35 dX5_seen_22 (by decide) (fun q3 => ?_) (fun q3 => ?_)
      · refine jG_iconst F (v := (-1 : Int32)) dX5_seen_35 (by decide) ?_
        exact jG_iret F T (rfl) rfl (by first | rfl | exact jnarb _ | (split <;> rfl)) dX5_seen_36
      · refine jG_iload F dX5_seen_25 rfl ?_
        refine jG_iload F dX5_seen_27 rfl ?_
        refine jc_X5_117 F dX5_seen_29 (c_X5_isPlace) (by decide) (Nat.le_refl 0) (Nat.le_refl 0) (Nat.le_of_ble_eq_true rfl) ?_
        refine jG_if_ne F 37 dX5_seen_32 (by decide) (fun qz => absurd qz (fun z => h ⟨jB01_ne q, jB01_ne q2, jB01_ne q3, jB01_ne z⟩)) (fun _ => ?_)
        refine jG_iconst F (v := (-1 : Int32)) dX5_seen_35 (by decide) ?_
        exact jG_iret F T (rfl) rfl (by first | rfl | exact jnarb _ | (split <;> rfl)) dX5_seen_36
def jofs (e f g i : Int32) : Int32 := (if 0 ≤ g - e then g - e else 0 - (g - e)) + (if 0 ≤ i - f then i - f else 0 - (i - f))
theorem c_X5_seen {e f g i : Int32} {kd : Nat} (hk : k < 4) (h1 : jspot b c) (h2 : jspot e f) (h3 : jspot g i) (hkd : kd < 5) (hkk : (if jway b c e f / 8 < 4 then jway b c e f / 8 else 4) = nI kd) : jMd l E yX5_seen cX5_seen 9 (some .int) 2 [.ref (E.1 + 0), .int (nI k), .int b, .int c, .int e, .int f, .int g, .int i] (jtop E C M) (some (.int (if C.2.2.2.1.2.2 k < 1000 then C.2.2.2.1.2.2 k + 1 else -3))) (jtop E (C.1, C.2.1, C.2.2.1, jsad C.2.2.2.1 k kd (jofs e f g i), C.2.2.2.2) M) 0 0 := by
  refine jMd_of (by decide) (Nat.le_of_ble_eq_true rfl) (by simp [Value.category]) (by first | rfl | simp [jtop_len]) (fun x hx F T hm => ?_)
  have hd := jin_n (k := k) (n := 3) (by omega) (by decide) (m := 3) rfl
  refine jG_iload_n F dX5_seen_0 rfl ?_
  refine jc_X5_149 F dX5_seen_1 (c_X5_isPlayer) (by decide) (Nat.le_refl 0) (Nat.le_refl 0) (Nat.le_of_ble_eq_true rfl) ?_
  refine jG_if_eq F 35 dX5_seen_4 (by decide) (fun qz => absurd qz (by rw [jB01_pos hd]; decide)) (fun _ => ?_)
  refine jG_iload_n F dX5_seen_7 rfl ?_
  refine jG_iload_n F dX5_seen_8 rfl ?_
  refine jc_X5_117 F dX5_seen_9 (c_X5_isPlace) (by decide) (Nat.le_refl 0) (Nat.le_refl 0) (Nat.le_of_ble_eq_true rfl) ?_
  refine jG_if_eq F 35 dX5_seen_12 (by decide) (fun qz => absurd qz (by rw [jB01_pos h1]; decide)) (fun _ => ?_)
  refine jG_iload F dX5_seen_15 rfl ?_
  refine jG_iload F dX5_seen_17 rfl ?_
  refine jc_X5_117 F dX5_seen_19 (c_X5_isPlace) (by decide) (Nat.le_refl 0) (Nat.le_refl 0) (Nat.le_of_ble_eq_true rfl) ?_
  refine jG_if_eq F 35 dX5_seen_22 (by decide) (fun qz => absurd qz (by rw [jB01_pos h2]; decide)) (fun _ => ?_)
  refine jG_iload F dX5_seen_25 rfl ?_
  refine jG_iload F dX5_seen_27 rfl ?_
  refine jc_X5_117 F dX5_seen_29 (c_X5_isPlace) (by decide) (Nat.le_refl 0) (Nat.le_refl 0) (Nat.le_of_ble_eq_true rfl) ?_
  refine jG_if_ne F 37 dX5_seen_32 (by decide) (fun _ => ?_) (fun qz => absurd qz (by rw [jB01_pos h3]; decide))
  refine jG_iload F dX5_seen_37 rfl ?_
  refine jG_iload F dX5_seen_39 rfl ?_
  refine jG_isub F dX5_seen_41 ?_
  refine jc_X5_204 F dX5_seen_42 (by decide) (Nat.le_of_ble_eq_true rfl) ?_
  refine jG_iload F dX5_seen_45 rfl ?_
  refine jG_iload F dX5_seen_47 rfl ?_
  refine jG_isub F dX5_seen_49 ?_
  refine jc_X5_204 F dX5_seen_50 (by decide) (Nat.le_of_ble_eq_true rfl) ?_
  refine jG_iadd F dX5_seen_53 ?_
  refine jG_istore_8n F dX5_seen_54 (by decide) ?_
  refine jG_aload_n F dX5_seen_56 rfl ?_
  refine jg_X5_33 F dX5_seen_57 jtop_o rfl ?_
  refine jG_iload_n F dX5_seen_60 rfl ?_
  refine jG_iload_n F dX5_seen_61 rfl ?_
  refine jG_iload_n F dX5_seen_62 rfl ?_
  refine jG_iload F dX5_seen_63 rfl ?_
  refine jG_iload F dX5_seen_65 rfl ?_
  refine jc_X5_209 F dX5_seen_67 (c_X5_wayBetween) (by decide) (Nat.le_refl 0) (Nat.le_refl 0) (Nat.le_of_ble_eq_true rfl) ?_
  refine jG_iload F dX5_seen_70 rfl ?_
  refine jc_X5_213 F dX5_seen_72 (t_sadd hk hkd hkk) jtop_s (by decide) (Nat.le_refl 0) (Nat.le_refl 0) (Nat.le_of_ble_eq_true rfl) ?_
  exact jG_iret F T (rfl) rfl (by first | rfl | exact jnarb _ | (split <;> rfl)) dX5_seen_75
theorem c_X5_scatterB (h : ¬ ((0 ≤ a ∧ a ≤ 3) ∧ (0 ≤ b ∧ b ≤ 4) ∧ (0 ≤ c ∧ c ≤ 2))) : jMd l E yX5_scatter cX5_scatter 4 (some .int) 2 [.ref (E.1 + 0), .int a, .int b, .int c] (jtop E C M) (some (.int (-1))) (jtop E C M) 0 0 := by
  refine jMd_of (by decide) (Nat.le_of_ble_eq_true rfl) (by simp [Value.category]) (by first | rfl | simp [jtop_len]) (fun x hx F T hm => ?_)
  refine jG_iload_n F dX5_scatter_0 rfl ?_
  refine jc_X5_149 F dX5_scatter_1 (c_X5_isPlayer) (by decide) (Nat.le_refl 0) (Nat.le_refl 0) (Nat.le_of_ble_eq_true rfl) ?_
  refine jG_if_eq F 25 dX5_scatter_4 (by decide) (fun q => ?_) (fun q => ?_)
  · refine jG_iconst F (v := (-1 : Int32)) dX5_scatter_25 (by decide) ?_
    exact jG_iret F T (rfl) rfl (by first | rfl | exact jnarb _ | (split <;> rfl)) dX5_scatter_26
  · refine jG_iload_n F dX5_scatter_7 rfl ?_
    refine jG_iconst F (v := (0 : Int32)) dX5_scatter_8 (by decide) ?_
    refine jG_iconst F (v := (4 : Int32)) dX5_scatter_9 (by decide) ?_
    refine jc_X5_51 F dX5_scatter_10 (c_X5_within) (by decide) (Nat.le_refl 0) (Nat.le_refl 0) (Nat.le_of_ble_eq_true rfl) ?_
    refine jG_if_eq F 25 dX5_scatter_13 (by decide) (fun q2 => ?_) (fun q2 => ?_)
    · refine jG_iconst F (v := (-1 : Int32)) dX5_scatter_25 (by decide) ?_
      exact jG_iret F T (rfl) rfl (by first | rfl | exact jnarb _ | (split <;> rfl)) dX5_scatter_26
    · refine jG_iload_n F dX5_scatter_16 rfl ?_
      refine jG_iconst F (v := (0 : Int32)) dX5_scatter_17 (by decide) ?_
      refine jG_iconst F (v := (2 : Int32)) dX5_scatter_18 (by decide) ?_
      refine jc_X5_51 F dX5_scatter_19 (c_X5_within) (by decide) (Nat.le_refl 0) (Nat.le_refl 0) (Nat.le_of_ble_eq_true rfl) ?_
      refine jG_if_ne F 27 dX5_scatter_22 (by decide) (fun qz => absurd qz (fun z => h ⟨jB01_ne q, jB01_ne q2, jB01_ne z⟩)) (fun _ => ?_)
      refine jG_iconst F (v := (-1 : Int32)) dX5_scatter_25 (by decide) ?_
      exact jG_iret F T (rfl) rfl (by first | rfl | exact jnarb _ | (split <;> rfl)) dX5_scatter_26
theorem c_X5_scatter {j : Nat} (hk : k < 4) (hj : j < 5) (hc : 0 ≤ c ∧ c ≤ 2) : jMd l E yX5_scatter cX5_scatter 4 (some .int) 2 [.ref (E.1 + 0), .int (nI k), .int (nI j), .int c] (jtop E C M) (some (.int (jtel C.2.2.2.1 (k * 5 + j) c))) (jtop E C M) 0 0 := by
  refine jMd_of (by decide) (Nat.le_of_ble_eq_true rfl) (by simp [Value.category]) (by first | rfl | simp [jtop_len]) (fun x hx F T hm => ?_)
  have hd := jin_n (k := k) (n := 3) (by omega) (by decide) (m := 3) rfl
  have hd2 := jin_n (k := j) (n := 4) (by omega) (by decide) (m := 4) rfl
  refine jG_iload_n F dX5_scatter_0 rfl ?_
  refine jc_X5_149 F dX5_scatter_1 (c_X5_isPlayer) (by decide) (Nat.le_refl 0) (Nat.le_refl 0) (Nat.le_of_ble_eq_true rfl) ?_
  refine jG_if_eq F 25 dX5_scatter_4 (by decide) (fun qz => absurd qz (by rw [jB01_pos hd]; decide)) (fun _ => ?_)
  refine jG_iload_n F dX5_scatter_7 rfl ?_
  refine jG_iconst F (v := (0 : Int32)) dX5_scatter_8 (by decide) ?_
  refine jG_iconst F (v := (4 : Int32)) dX5_scatter_9 (by decide) ?_
  refine jc_X5_51 F dX5_scatter_10 (c_X5_within) (by decide) (Nat.le_refl 0) (Nat.le_refl 0) (Nat.le_of_ble_eq_true rfl) ?_
  refine jG_if_eq F 25 dX5_scatter_13 (by decide) (fun qz => absurd qz (by rw [jB01_pos hd2]; decide)) (fun _ => ?_)
  refine jG_iload_n F dX5_scatter_16 rfl ?_
  refine jG_iconst F (v := (0 : Int32)) dX5_scatter_17 (by decide) ?_
  refine jG_iconst F (v := (2 : Int32)) dX5_scatter_18 (by decide) ?_
  refine jc_X5_51 F dX5_scatter_19 (c_X5_within) (by decide) (Nat.le_refl 0) (Nat.le_refl 0) (Nat.le_of_ble_eq_true rfl) ?_
  refine jG_if_ne F 27 dX5_scatter_22 (by decide) (fun _ => ?_) (fun qz => absurd qz (by rw [jB01_pos hc]; decide))
  refine jG_aload_n F dX5_scatter_27 rfl ?_
  refine jg_X5_33 F dX5_scatter_28 jtop_o rfl ?_
  refine jG_iload_n F dX5_scatter_31 rfl ?_
  refine jG_iload_n F dX5_scatter_32 rfl ?_
  refine jG_iload_n F dX5_scatter_33 rfl ?_
  refine jc_X5_214 F dX5_scatter_34 (t_tell hk hj) jtop_s (by decide) (Nat.le_refl 0) (Nat.le_refl 0) (Nat.le_of_ble_eq_true rfl) ?_
  exact jG_iret F T (rfl) rfl (by first | rfl | exact jnarb _ | (split <;> rfl)) dX5_scatter_37
theorem c_X5_count0 : jMd l E yX5_count cX5_count 3 (some .int) 1 [.ref (E.1 + 0), .int 0] (jtop E C M) (some (.int (16 - jbc C.1.1.2.2.2.1 - jbc C.1.1.2.2.2.2.1))) (jtop E C M) 0 0 := by
  refine jMd_of (by decide) (Nat.le_of_ble_eq_true rfl) (by simp [Value.category]) (by first | rfl | simp [jtop_len]) (fun x hx F T hm => ?_)
  refine jG_aload_n F dX5_count_0 rfl ?_
  refine jg_X5_10 F dX5_count_1 jtop_o rfl ?_
  refine jg_X5_79 F dX5_count_4 jtop_n rfl ?_
  refine jG_astore_n_2n F dX5_count_7 (by decide) ?_
  refine jG_iload_n F dX5_count_8 rfl ?_
  refine jG_tableIn F 48 dX5_count_9 (by decide) (by decide) rfl (by decide) ?_
  refine jG_bipush F (v := (16 : Int32)) dX5_count_48 (by decide) ?_
  refine jG_aload_n F dX5_count_50 rfl ?_
  refine jg_X5_221 F dX5_count_51 jtop_b rfl ?_
  refine jc_X5_126 F dX5_count_54 (c_J6_bitCount_0f7a4) (by decide) (Nat.le_refl 0) (Nat.le_refl 0) (Nat.le_of_ble_eq_true rfl) ?_
  refine jG_isub F dX5_count_57 ?_
  refine jG_aload_n F dX5_count_58 rfl ?_
  refine jg_X5_224 F dX5_count_59 jtop_b rfl ?_
  refine jc_X5_126 F dX5_count_62 (c_J6_bitCount_0f7a4) (by decide) (Nat.le_refl 0) (Nat.le_refl 0) (Nat.le_of_ble_eq_true rfl) ?_
  refine jG_isub F dX5_count_65 ?_
  exact jG_iret F T (rfl) rfl (by first | rfl | exact jnarb _ | (split <;> rfl)) dX5_count_66
theorem c_X5_count1 : jMd l E yX5_count cX5_count 3 (some .int) 1 [.ref (E.1 + 0), .int 1] (jtop E C M) (some (.int (jbc C.1.1.2.2.2.1))) (jtop E C M) 0 0 := by
  refine jMd_of (by decide) (Nat.le_of_ble_eq_true rfl) (by simp [Value.category]) (by first | rfl | simp [jtop_len]) (fun x hx F T hm => ?_)
  refine jG_aload_n F dX5_count_0 rfl ?_
  refine jg_X5_10 F dX5_count_1 jtop_o rfl ?_
  refine jg_X5_79 F dX5_count_4 jtop_n rfl ?_
  refine jG_astore_n_2n F dX5_count_7 (by decide) ?_
  refine jG_iload_n F dX5_count_8 rfl ?_
  refine jG_tableIn F 67 dX5_count_9 (by decide) (by decide) rfl (by decide) ?_
  refine jG_aload_n F dX5_count_67 rfl ?_
  refine jg_X5_221 F dX5_count_68 jtop_b rfl ?_
  refine jc_X5_126 F dX5_count_71 (c_J6_bitCount_0f7a4) (by decide) (Nat.le_refl 0) (Nat.le_refl 0) (Nat.le_of_ble_eq_true rfl) ?_
  exact jG_iret F T (rfl) rfl (by first | rfl | exact jnarb _ | (split <;> rfl)) dX5_count_74
theorem c_X5_count2 : jMd l E yX5_count cX5_count 3 (some .int) 1 [.ref (E.1 + 0), .int 2] (jtop E C M) (some (.int (jbc C.1.1.2.2.2.2.1))) (jtop E C M) 0 0 := by
  refine jMd_of (by decide) (Nat.le_of_ble_eq_true rfl) (by simp [Value.category]) (by first | rfl | simp [jtop_len]) (fun x hx F T hm => ?_)
  refine jG_aload_n F dX5_count_0 rfl ?_
  refine jg_X5_10 F dX5_count_1 jtop_o rfl ?_
  refine jg_X5_79 F dX5_count_4 jtop_n rfl ?_
  refine jG_astore_n_2n F dX5_count_7 (by decide) ?_
  refine jG_iload_n F dX5_count_8 rfl ?_
  refine jG_tableIn F 75 dX5_count_9 (by decide) (by decide) rfl (by decide) ?_
  refine jG_aload_n F dX5_count_75 rfl ?_
  refine jg_X5_224 F dX5_count_76 jtop_b rfl ?_
  refine jc_X5_126 F dX5_count_79 (c_J6_bitCount_0f7a4) (by decide) (Nat.le_refl 0) (Nat.le_refl 0) (Nat.le_of_ble_eq_true rfl) ?_
  exact jG_iret F T (rfl) rfl (by first | rfl | exact jnarb _ | (split <;> rfl)) dX5_count_82
theorem c_X5_count3 : jMd l E yX5_count cX5_count 3 (some .int) 1 [.ref (E.1 + 0), .int 3] (jtop E C M) (some (.int (nI C.2.2.1.2.2.2.1))) (jtop E C M) 0 0 := by
  refine jMd_of (by decide) (Nat.le_of_ble_eq_true rfl) (by simp [Value.category]) (by first | rfl | simp [jtop_len]) (fun x hx F T hm => ?_)
  refine jG_aload_n F dX5_count_0 rfl ?_
  refine jg_X5_10 F dX5_count_1 jtop_o rfl ?_
  refine jg_X5_79 F dX5_count_4 jtop_n rfl ?_
  refine jG_astore_n_2n F dX5_count_7 (by decide) ?_
  refine jG_iload_n F dX5_count_8 rfl ?_
  refine jG_tableIn F 83 dX5_count_9 (by decide) (by decide) rfl (by decide) ?_
  refine jG_aload_n F dX5_count_83 rfl ?_
  refine jg_X5_26 F dX5_count_84 jtop_o rfl ?_
  refine jg_X5_227 F dX5_count_87 jtop_r rfl ?_
  exact jG_iret F T (rfl) rfl (by first | rfl | exact jnarb _ | (split <;> rfl)) dX5_count_90
theorem c_X5_count4 : jMd l E yX5_count cX5_count 3 (some .int) 1 [.ref (E.1 + 0), .int 4] (jtop E C M) (some (.int (nI C.2.2.2.2.2))) (jtop E C M) 0 0 := by
  refine jMd_of (by decide) (Nat.le_of_ble_eq_true rfl) (by simp [Value.category]) (by first | rfl | simp [jtop_len]) (fun x hx F T hm => ?_)
  refine jG_aload_n F dX5_count_0 rfl ?_
  refine jg_X5_10 F dX5_count_1 jtop_o rfl ?_
  refine jg_X5_79 F dX5_count_4 jtop_n rfl ?_
  refine jG_astore_n_2n F dX5_count_7 (by decide) ?_
  refine jG_iload_n F dX5_count_8 rfl ?_
  refine jG_tableIn F 91 dX5_count_9 (by decide) (by decide) rfl (by decide) ?_
  refine jG_aload_n F dX5_count_91 rfl ?_
  refine jg_X5_41 F dX5_count_92 jtop_o rfl ?_
  exact jG_iret F T (rfl) rfl (by first | rfl | exact jnarb _ | (split <;> rfl)) dX5_count_95
theorem c_X5_count5 : jMd l E yX5_count cX5_count 3 (some .int) 1 [.ref (E.1 + 0), .int 5] (jtop E C M) (some (.int (jbc C.1.1.2.2.2.2.2))) (jtop E C M) 0 0 := by
  refine jMd_of (by decide) (Nat.le_of_ble_eq_true rfl) (by simp [Value.category]) (by first | rfl | simp [jtop_len]) (fun x hx F T hm => ?_)
  refine jG_aload_n F dX5_count_0 rfl ?_
  refine jg_X5_10 F dX5_count_1 jtop_o rfl ?_
  refine jg_X5_79 F dX5_count_4 jtop_n rfl ?_
  refine jG_astore_n_2n F dX5_count_7 (by decide) ?_
  refine jG_iload_n F dX5_count_8 rfl ?_
  refine jG_tableIn F 96 dX5_count_9 (by decide) (by decide) rfl (by decide) ?_
  refine jG_aload_n F dX5_count_96 rfl ?_
  refine jg_X5_230 F dX5_count_97 jtop_b rfl ?_
  refine jc_X5_126 F dX5_count_100 (c_J6_bitCount_0f7a4) (by decide) (Nat.le_refl 0) (Nat.le_refl 0) (Nat.le_of_ble_eq_true rfl) ?_
  exact jG_iret F T (rfl) rfl (by first | rfl | exact jnarb _ | (split <;> rfl)) dX5_count_103
theorem c_X5_countD (h0 : ¬ w = 0) (h1 : ¬ w = 1) (h2 : ¬ w = 2) (h3 : ¬ w = 3) (h4 : ¬ w = 4) (h5 : ¬ w = 5) : jMd l E yX5_count cX5_count 3 (some .int) 1 [.ref (E.1 + 0), .int w] (jtop E C M) (some (.int (-1))) (jtop E C M) 0 0 := by
  refine jMd_of (by decide) (Nat.le_of_ble_eq_true rfl) (by simp [Value.category]) (by first | rfl | simp [jtop_len]) (fun x hx F T hm => ?_)
  refine jG_aload_n F dX5_count_0 rfl ?_
  refine jg_X5_10 F dX5_count_1 jtop_o rfl ?_
  refine jg_X5_79 F dX5_count_4 jtop_n rfl ?_
  refine jG_astore_n_2n F dX5_count_7 (by decide) ?_
  refine jG_iload_n F dX5_count_8 rfl ?_
  refine jG_tableOut F 104 dX5_count_9 (by have z0 := lv_neT (a := 0) h0 rfl; have z1 := lv_neT (a := 1) h1 rfl; have z2 := lv_neT (a := 2) h2 rfl; have z3 := lv_neT (a := 3) h3 rfl; have z4 := lv_neT (a := 4) h4 rfl; have z5 := lv_neT (a := 5) h5 rfl; omega) (by decide) ?_
  refine jG_iconst F (v := (-1 : Int32)) dX5_count_104 (by decide) ?_
  exact jG_iret F T (rfl) rfl (by first | rfl | exact jnarb _ | (split <;> rfl)) dX5_count_105
end XK
