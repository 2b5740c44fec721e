/-! ===== static helpers of JumpDiscs and Game: what they answer ===== -/
def jbit (d : Nat) : Int32 := (1 : Int32) <<< (nI d &&& 31)
def jway (a b c e : Int32) : Int32 := if (if 0 ≤ c - a then c - a else 0 - (c - a)) < (if 0 ≤ e - b then e - b else 0 - (e - b)) then (if 0 ≤ e - b then e - b else 0 - (e - b)) else (if 0 ≤ c - a then c - a else 0 - (c - a))
def jB01 (c : Prop) [Decidable c] : Int32 := if c then 1 else 0
theorem jnarb (c : Prop) [Decidable c] : narrow .boolean (.int (jB01 c)) = .int (jB01 c) := by
  unfold jB01; split <;> rfl
theorem jB01_pos {c : Prop} [Decidable c] (h : c) : jB01 c = 1 := if_pos h
theorem jB01_neg {c : Prop} [Decidable c] (h : ¬ c) : jB01 c = 0 := if_neg h
theorem jB01_ne {c : Prop} [Decidable c] (h : ¬ jB01 c = 0) : c := Classical.byContradiction fun q => h (if_neg q)
theorem jB01_eq {c : Prop} [Decidable c] (h : jB01 c = 0) : ¬ c := fun q => absurd ((if_pos q).symm.trans h) (by decide)
theorem jcat0 : ∀ v ∈ ([] : List Value), v.category = 1 := fun _ h => absurd h List.not_mem_nil
section ST
variable {l : Launch} {E : jE} {h : List va_E}
theorem c_X5_within {v lo hi : Int32} : jMd l E yX5_within cX5_within 3 (some .boolean) 0 [.int v, .int lo, .int hi] h (some (.int (jB01 (lo ≤ v ∧ v ≤ hi)))) h 0 0 := by
  refine jMd_of (by decide) (Nat.le_of_ble_eq_true rfl) (by simp [Value.category]) (by first | rfl | simp [jpB_len]) (fun x hx F T hm => ?_)
  refine jG_iload_n F dX5_within_0 rfl ?_
  refine jG_iload_n F dX5_within_1 rfl ?_
  refine jG_icmp_lt F 14 dX5_within_2 (by decide) (fun q0 => ?_) (fun q0 => ?_)
  · refine jG_iconst F (v := (0 : Int32)) dX5_within_14 (by decide) ?_
    exact jG_iret F T (by clear T F; simp only [jB01, Int32.lt_iff_toInt_lt, Int32.le_iff_toInt_le, Int32.reduceToInt] at *; (repeat' split) <;> first | rfl | omega | (exfalso; omega)) rfl (by first | rfl | exact jnarb _ | (split <;> rfl)) dX5_within_15
  · refine jG_iload_n F dX5_within_5 rfl ?_
    refine jG_iload_n F dX5_within_6 rfl ?_
    refine jG_icmp_gt F 14 dX5_within_7 (by decide) (fun q1 => ?_) (fun q1 => ?_)
    · refine jG_iconst F (v := (0 : Int32)) dX5_within_14 (by decide) ?_
      exact jG_iret F T (by clear T F; simp only [jB01, Int32.lt_iff_toInt_lt, Int32.le_iff_toInt_le, Int32.reduceToInt] at *; (repeat' split) <;> first | rfl | omega | (exfalso; omega)) rfl (by first | rfl | exact jnarb _ | (split <;> rfl)) dX5_within_15
    · refine jG_iconst F (v := (1 : Int32)) dX5_within_10 (by decide) ?_
      refine jG_goto F 15 dX5_within_11 (by decide) ?_
      exact jG_iret F T (by clear T F; simp only [jB01, Int32.lt_iff_toInt_lt, Int32.le_iff_toInt_le, Int32.reduceToInt] at *; (repeat' split) <;> first | rfl | omega | (exfalso; omega)) rfl (by first | rfl | exact jnarb _ | (split <;> rfl)) dX5_within_15
theorem c_X5_isPlayer {v : Int32} : jMd l E yX5_isPlayer cX5_isPlayer 1 (some .boolean) 1 [.int v] h (some (.int (jB01 (0 ≤ v ∧ v ≤ 3)))) h 0 0 := by
  refine jMd_of (by decide) (Nat.le_of_ble_eq_true rfl) (by simp [Value.category]) (by first | rfl | simp [jpB_len]) (fun x hx F T hm => ?_)
  refine jG_iload_n F dX5_isPlayer_0 rfl ?_
  refine jG_iconst F (v := (0 : Int32)) dX5_isPlayer_1 (by decide) ?_
  refine jG_iconst F (v := (3 : Int32)) dX5_isPlayer_2 (by decide) ?_
  refine jc_X5_51 F dX5_isPlayer_3 (c_X5_within) (by decide) (Nat.le_refl 0) (Nat.le_refl 0) (Nat.le_of_ble_eq_true rfl) ?_
  exact jG_iret F T (rfl) rfl (by first | rfl | exact jnarb _ | (split <;> rfl)) dX5_isPlayer_6
theorem c_X5_isDisc {v : Int32} : jMd l E yX5_isDisc cX5_isDisc 1 (some .boolean) 1 [.int v] h (some (.int (jB01 (0 ≤ v ∧ v ≤ 15)))) h 0 0 := by
  refine jMd_of (by decide) (Nat.le_of_ble_eq_true rfl) (by simp [Value.category]) (by first | rfl | simp [jpB_len]) (fun x hx F T hm => ?_)
  refine jG_iload_n F dX5_isDisc_0 rfl ?_
  refine jG_iconst F (v := (0 : Int32)) dX5_isDisc_1 (by decide) ?_
  refine jG_bipush F (v := (15 : Int32)) dX5_isDisc_2 (by decide) ?_
  refine jc_X5_51 F dX5_isDisc_4 (c_X5_within) (by decide) (Nat.le_refl 0) (Nat.le_refl 0) (Nat.le_of_ble_eq_true rfl) ?_
  exact jG_iret F T (rfl) rfl (by first | rfl | exact jnarb _ | (split <;> rfl)) dX5_isDisc_7
theorem c_X5_isPlace {a b : Int32} : jMd l E yX5_isPlace cX5_isPlace 2 (some .boolean) 1 [.int a, .int b] h (some (.int (jB01 ((0 ≤ a ∧ a ≤ 40) ∧ (0 ≤ b ∧ b ≤ 40))))) h 0 0 := by
  refine jMd_of (by decide) (Nat.le_of_ble_eq_true rfl) (by simp [Value.category]) (by first | rfl | simp [jpB_len]) (fun x hx F T hm => ?_)
  refine jG_iload_n F dX5_isPlace_0 rfl ?_
  refine jG_iconst F (v := (0 : Int32)) dX5_isPlace_1 (by decide) ?_
  refine jG_bipush F (v := (40 : Int32)) dX5_isPlace_2 (by decide) ?_
  refine jc_X5_51 F dX5_isPlace_4 (c_X5_within) (by decide) (Nat.le_refl 0) (Nat.le_refl 0) (Nat.le_of_ble_eq_true rfl) ?_
  refine jG_if_eq F 24 dX5_isPlace_7 (by decide) (fun q0 => ?_) (fun q0 => ?_)
  · refine jG_iconst F (v := (0 : Int32)) dX5_isPlace_24 (by decide) ?_
    exact jG_iret F T (by first | exact (jB01_neg (fun q => jB01_eq (by assumption) q.1)).symm | exact (jB01_neg (fun q => jB01_eq (by assumption) q.2)).symm | exact (jB01_pos ⟨jB01_ne (by assumption), jB01_ne (by assumption)⟩).symm) rfl (by first | rfl | exact jnarb _ | (split <;> rfl)) dX5_isPlace_25
  · refine jG_iload_n F dX5_isPlace_10 rfl ?_
    refine jG_iconst F (v := (0 : Int32)) dX5_isPlace_11 (by decide) ?_
    refine jG_bipush F (v := (40 : Int32)) dX5_isPlace_12 (by decide) ?_
    refine jc_X5_51 F dX5_isPlace_14 (c_X5_within) (by decide) (Nat.le_refl 0) (Nat.le_refl 0) (Nat.le_of_ble_eq_true rfl) ?_
    refine jG_if_eq F 24 dX5_isPlace_17 (by decide) (fun q1 => ?_) (fun q1 => ?_)
    · refine jG_iconst F (v := (0 : Int32)) dX5_isPlace_24 (by decide) ?_
      exact jG_iret F T (by first | exact (jB01_neg (fun q => jB01_eq (by assumption) q.1)).symm | exact (jB01_neg (fun q => jB01_eq (by assumption) q.2)).symm | exact (jB01_pos ⟨jB01_ne (by assumption), jB01_ne (by assumption)⟩).symm) rfl (by first | rfl | exact jnarb _ | (split <;> rfl)) dX5_isPlace_25
    · refine jG_iconst F (v := (1 : Int32)) dX5_isPlace_20 (by decide) ?_
      refine jG_goto F 25 dX5_isPlace_21 (by decide) ?_
      exact jG_iret F T (by first | exact (jB01_neg (fun q => jB01_eq (by assumption) q.1)).symm | exact (jB01_neg (fun q => jB01_eq (by assumption) q.2)).symm | exact (jB01_pos ⟨jB01_ne (by assumption), jB01_ne (by assumption)⟩).symm) rfl (by first | rfl | exact jnarb _ | (split <;> rfl)) dX5_isPlace_25
theorem c_X5_isMarkOrPlace {a b : Int32} : jMd l E yX5_isMarkOrPlace cX5_isMarkOrPlace 2 (some .boolean) 2 [.int a, .int b] h (some (.int (jB01 (((0 ≤ a ∧ a ≤ 40) ∧ (0 ≤ b ∧ b ≤ 40)) ∨ (a = b ∧ (a = -1 ∨ a = 41)))))) h 0 0 := by
  refine jMd_of (by decide) (Nat.le_of_ble_eq_true rfl) (by simp [Value.category]) (by first | rfl | simp [jpB_len]) (fun x hx F T hm => ?_)
  refine jG_iload_n F dX5_isMarkOrPlace_0 rfl ?_
  refine jG_iload_n F dX5_isMarkOrPlace_1 rfl ?_
  refine jc_X5_117 F dX5_isMarkOrPlace_2 (c_X5_isPlace) (by decide) (Nat.le_refl 0) (Nat.le_refl 0) (Nat.le_of_ble_eq_true rfl) ?_
  refine jG_if_ne F 24 dX5_isMarkOrPlace_5 (by decide) (fun q0 => ?_) (fun q0 => ?_)
  · refine jG_iconst F (v := (1 : Int32)) dX5_isMarkOrPlace_24 (by decide) ?_
    refine jG_goto F 29 dX5_isMarkOrPlace_25 (by decide) ?_
    exact jG_iret F T (by simp_all [jB01]) rfl (by first | rfl | exact jnarb _ | (split <;> rfl)) dX5_isMarkOrPlace_29
  · refine jG_iload_n F dX5_isMarkOrPlace_8 rfl ?_
    refine jG_iload_n F dX5_isMarkOrPlace_9 rfl ?_
    refine jG_icmp_ne F 28 dX5_isMarkOrPlace_10 (by decide) (fun q1 => ?_) (fun q1 => ?_)
    · refine jG_iconst F (v := (0 : Int32)) dX5_isMarkOrPlace_28 (by decide) ?_
      exact jG_iret F T (by simp_all [jB01]) rfl (by first | rfl | exact jnarb _ | (split <;> rfl)) dX5_isMarkOrPlace_29
    · refine jG_iload_n F dX5_isMarkOrPlace_13 rfl ?_
      refine jG_iconst F (v := (-1 : Int32)) dX5_isMarkOrPlace_14 (by decide) ?_
      refine jG_icmp_eq F 24 dX5_isMarkOrPlace_15 (by decide) (fun q2 => ?_) (fun q2 => ?_)
      · refine jG_iconst F (v := (1 : Int32)) dX5_isMarkOrPlace_24 (by decide) ?_
        refine jG_goto F 29 dX5_isMarkOrPlace_25 (by decide) ?_
        exact jG_iret F T (by simp_all [jB01]) rfl (by first | rfl | exact jnarb _ | (split <;> rfl)) dX5_isMarkOrPlace_29
      · refine jG_iload_n F dX5_isMarkOrPlace_18 rfl ?_
        refine jG_bipush F (v := (41 : Int32)) dX5_isMarkOrPlace_19 (by decide) ?_
        refine jG_icmp_ne F 28 dX5_isMarkOrPlace_21 (by decide) (fun q3 => ?_) (fun q3 => ?_)
        · refine jG_iconst F (v := (0 : Int32)) dX5_isMarkOrPlace_28 (by decide) ?_
          exact jG_iret F T (by simp_all [jB01]) rfl (by first | rfl | exact jnarb _ | (split <;> rfl)) dX5_isMarkOrPlace_29
        · refine jG_iconst F (v := (1 : Int32)) dX5_isMarkOrPlace_24 (by decide) ?_
          refine jG_goto F 29 dX5_isMarkOrPlace_25 (by decide) ?_
          exact jG_iret F T (by simp_all [jB01]) rfl (by first | rfl | exact jnarb _ | (split <;> rfl)) dX5_isMarkOrPlace_29
theorem c_X5_playerOf {k : Nat} (hk : k < 16) : jMd l E yX5_playerOf cX5_playerOf 1 (some .int) 0 [.int (nI k)] h (some (.int (nI (k % 4)))) h 0 0 := by
  refine jMd_of (by decide) (Nat.le_of_ble_eq_true rfl) (by simp [Value.category]) (by first | rfl | simp [jpB_len]) (fun x hx F T hm => ?_)
  refine jG_iload_n F dX5_playerOf_0 rfl ?_
  refine jG_iconst F (v := nI 4) dX5_playerOf_1 (by decide) ?_
  refine jG_irem F dX5_playerOf_2 (by decide) ?_
  exact jG_iret F T (pk_rem (by omega) (by decide) (by decide)) rfl (by first | rfl | exact jnarb _ | (split <;> rfl)) dX5_playerOf_3
theorem c_X5_sizeOf {v : Int32} : jMd l E yX5_sizeOf cX5_sizeOf 1 (some .int) 0 [.int v] h (some (.int (if v < 8 then 1 else 2))) h 0 0 := by
  refine jMd_of (by decide) (Nat.le_of_ble_eq_true rfl) (by simp [Value.category]) (by first | rfl | simp [jpB_len]) (fun x hx F T hm => ?_)
  refine jG_iload_n F dX5_sizeOf_0 rfl ?_
  refine jG_bipush F (v := (8 : Int32)) dX5_sizeOf_1 (by decide) ?_
  refine jG_icmp_ge F 10 dX5_sizeOf_3 (by decide) (fun q0 => ?_) (fun q0 => ?_)
  · refine jG_iconst F (v := (2 : Int32)) dX5_sizeOf_10 (by decide) ?_
    exact jG_iret F T (by simp [*]) rfl (by first | rfl | exact jnarb _ | (split <;> rfl)) dX5_sizeOf_11
  · refine jG_iconst F (v := (1 : Int32)) dX5_sizeOf_6 (by decide) ?_
    refine jG_goto F 11 dX5_sizeOf_7 (by decide) ?_
    exact jG_iret F T (by simp [*]) rfl (by first | rfl | exact jnarb _ | (split <;> rfl)) dX5_sizeOf_11
theorem c_X5_wayBetween {a b c e : Int32} : jMd l E yX5_wayBetween cX5_wayBetween 4 (some .int) 1 [.int a, .int b, .int c, .int e] h (some (.int (jway a b c e))) h 0 0 := by
  refine jMd_of (by decide) (Nat.le_of_ble_eq_true rfl) (by simp [Value.category]) (by first | rfl | simp [jpB_len]) (fun x hx F T hm => ?_)
  refine jG_iload_n F dX5_wayBetween_0 rfl ?_
  refine jG_iload_n F dX5_wayBetween_1 rfl ?_
  refine jG_isub F dX5_wayBetween_2 ?_
  refine jc_X5_204 F dX5_wayBetween_3 (by decide) (Nat.le_of_ble_eq_true rfl) ?_
  refine jG_iload_n F dX5_wayBetween_6 rfl ?_
  refine jG_iload_n F dX5_wayBetween_7 rfl ?_
  refine jG_isub F dX5_wayBetween_8 ?_
  refine jc_X5_204 F dX5_wayBetween_9 (by decide) (Nat.le_of_ble_eq_true rfl) ?_
  refine jc_X5_236 F dX5_wayBetween_12 (by decide) (Nat.le_of_ble_eq_true rfl) ?_
  exact jG_iret F T (rfl) rfl (by first | rfl | exact jnarb _ | (split <;> rfl)) dX5_wayBetween_15
theorem c_X2_nextInRound {k : Nat} (hk : k < 4) : jMd l E yX2_nextInRound cX2_nextInRound 1 (some .int) 0 [.int (nI k)] h (some (.int (nI ((k + 1) % 4)))) h 0 0 := by
  refine jMd_of (by decide) (Nat.le_of_ble_eq_true rfl) (by simp [Value.category]) (by first | rfl | simp [jpB_len]) (fun x hx F T hm => ?_)
  refine jG_iload_n F dX2_nextInRound_0 rfl ?_
  refine jG_iconst F (v := nI 1) dX2_nextInRound_1 (by decide) ?_
  refine jG_iadd F dX2_nextInRound_2 ?_
  refine jG_iconst F (v := nI 4) dX2_nextInRound_3 (by decide) ?_
  refine jG_irem F dX2_nextInRound_4 (by decide) ?_
  exact jG_iret F T (by rw [nI_add]; exact pk_rem (by omega) (by decide) (by decide)) rfl (by first | rfl | exact jnarb _ | (split <;> rfl)) dX2_nextInRound_5
theorem c_X2_doesCupTake {a b : Int32} : jMd l E yX2_doesCupTake cX2_doesCupTake 4 (some .boolean) 0 [.int a, .int b] h (some (.int (jB01 ((a - 20) * (a - 20) + (b - 20) * (b - 20) ≤ 4)))) h 0 0 := by
  refine jMd_of (by decide) (Nat.le_of_ble_eq_true rfl) (by simp [Value.category]) (by first | rfl | simp [jpB_len]) (fun x hx F T hm => ?_)
  refine jG_iload_n F dX2_doesCupTake_0 rfl ?_
  refine jG_bipush F (v := (20 : Int32)) dX2_doesCupTake_1 (by decide) ?_
  refine jG_isub F dX2_doesCupTake_3 ?_
  refine jG_istore_n_2n F dX2_doesCupTake_4 (by decide) ?_
  refine jG_iload_n F dX2_doesCupTake_5 rfl ?_
  refine jG_bipush F (v := (20 : Int32)) dX2_doesCupTake_6 (by decide) ?_
  refine jG_isub F dX2_doesCupTake_8 ?_
  refine jG_istore_n_3n F dX2_doesCupTake_9 (by decide) ?_
  refine jG_iload_n F dX2_doesCupTake_10 rfl ?_
  refine jG_iload_n F dX2_doesCupTake_11 rfl ?_
  refine jG_imul F dX2_doesCupTake_12 ?_
  refine jG_iload_n F dX2_doesCupTake_13 rfl ?_
  refine jG_iload_n F dX2_doesCupTake_14 rfl ?_
  refine jG_imul F dX2_doesCupTake_15 ?_
  refine jG_iadd F dX2_doesCupTake_16 ?_
  refine jG_iconst F (v := (4 : Int32)) dX2_doesCupTake_17 (by decide) ?_
  refine jG_icmp_gt F 25 dX2_doesCupTake_18 (by decide) (fun q0 => ?_) (fun q0 => ?_)
  · refine jG_iconst F (v := (0 : Int32)) dX2_doesCupTake_25 (by decide) ?_
    exact jG_iret F T (by clear T F; simp only [jB01, Int32.lt_iff_toInt_lt, Int32.le_iff_toInt_le, Int32.reduceToInt] at *; (repeat' split) <;> first | rfl | omega | (exfalso; omega)) rfl (by first | rfl | exact jnarb _ | (split <;> rfl)) dX2_doesCupTake_26
  · refine jG_iconst F (v := (1 : Int32)) dX2_doesCupTake_21 (by decide) ?_
    refine jG_goto F 26 dX2_doesCupTake_22 (by decide) ?_
    exact jG_iret F T (by clear T F; simp only [jB01, Int32.lt_iff_toInt_lt, Int32.le_iff_toInt_le, Int32.reduceToInt] at *; (repeat' split) <;> first | rfl | omega | (exfalso; omega)) rfl (by first | rfl | exact jnarb _ | (split <;> rfl)) dX2_doesCupTake_26
def jmat (v : Int32) : Int32 := if 0 < (if v < 40 then v else 40) then (if v < 40 then v else 40) else 0
theorem c_X2_nearestOnMat {v : Int32} : jMd l E yX2_nearestOnMat cX2_nearestOnMat 1 (some .int) 1 [.int v] h (some (.int (jmat v))) h 0 0 := by
  refine jMd_of (by decide) (Nat.le_of_ble_eq_true rfl) (by simp [Value.category]) (by first | rfl | simp [jpB_len]) (fun x hx F T hm => ?_)
  refine jG_iconst F (v := (0 : Int32)) dX2_nearestOnMat_0 (by decide) ?_
  refine jG_bipush F (v := (40 : Int32)) dX2_nearestOnMat_1 (by decide) ?_
  refine jG_iload_n F dX2_nearestOnMat_3 rfl ?_
  refine jc_X2_120 F dX2_nearestOnMat_4 (by decide) (Nat.le_of_ble_eq_true rfl) ?_
  refine jc_X2_126 F dX2_nearestOnMat_7 (by decide) (Nat.le_of_ble_eq_true rfl) ?_
  exact jG_iret F T (rfl) rfl (by first | rfl | exact jnarb _ | (split <;> rfl)) dX2_nearestOnMat_10
def jsgn (v : Int32) : Int32 := if 0 < v then 1 else if v < 0 then -1 else 0
theorem c_X2_signOf {v : Int32} : jMd l E yX2_signOf cX2_signOf 1 (some .int) 0 [.int v] h (some (.int (jsgn v))) h 0 0 := by
  refine jMd_of (by decide) (Nat.le_of_ble_eq_true rfl) (by simp [Value.category]) (by first | rfl | simp [jpB_len]) (fun x hx F T hm => ?_)
  refine jG_iload_n F dX2_signOf_0 rfl ?_
  refine jG_if_le F 8 dX2_signOf_1 (by decide) (fun q0 => ?_) (fun q0 => ?_)
  · refine jG_iload_n F dX2_signOf_8 rfl ?_
    refine jG_if_ge F 16 dX2_signOf_9 (by decide) (fun q1 => ?_) (fun q1 => ?_)
    · refine jG_iconst F (v := (0 : Int32)) dX2_signOf_16 (by decide) ?_
      exact jG_iret F T (by unfold jsgn; clear T F; simp only [Int32.lt_iff_toInt_lt, Int32.le_iff_toInt_le, Int32.reduceToInt] at *; (repeat' split) <;> first | rfl | omega | (exfalso; omega)) rfl (by first | rfl | exact jnarb _ | (split <;> rfl)) dX2_signOf_17
    · refine jG_iconst F (v := (-1 : Int32)) dX2_signOf_12 (by decide) ?_
      refine jG_goto F 17 dX2_signOf_13 (by decide) ?_
      exact jG_iret F T (by unfold jsgn; clear T F; simp only [Int32.lt_iff_toInt_lt, Int32.le_iff_toInt_le, Int32.reduceToInt] at *; (repeat' split) <;> first | rfl | omega | (exfalso; omega)) rfl (by first | rfl | exact jnarb _ | (split <;> rfl)) dX2_signOf_17
  · refine jG_iconst F (v := (1 : Int32)) dX2_signOf_4 (by decide) ?_
    refine jG_goto F 17 dX2_signOf_5 (by decide) ?_
    exact jG_iret F T (by unfold jsgn; clear T F; simp only [Int32.lt_iff_toInt_lt, Int32.le_iff_toInt_le, Int32.reduceToInt] at *; (repeat' split) <;> first | rfl | omega | (exfalso; omega)) rfl (by first | rfl | exact jnarb _ | (split <;> rfl)) dX2_signOf_17
end ST
