/-! ===== Board: its methods ===== -/
abbrev jts (m : Int32) (d : Nat) : Prop := ¬ m &&& jbit d = 0
/-- bits gathered: from c on, the bits k < n of which p holds -/
def jorI (c : Int32) (p : Nat → Bool) : Nat → Int32
  | 0 => c
  | n + 1 => if p n = true then jorI c p n ||| jbit n else jorI c p n
theorem jorI_t {c : Int32} {p : Nat → Bool} {n : Nat} (h : p n = true) : jorI c p (n + 1) = jorI c p n ||| jbit n := if_pos h
theorem jorI_f {c : Int32} {p : Nat → Bool} {n : Nat} (h : ¬ p n = true) : jorI c p (n + 1) = jorI c p n := if_neg h
theorem jinc (k : Nat) : nI k + Int32.ofInt 1 = nI (k + 1) := nI_1 k
/-- a row that is filled from its start -/
def jfil (f g : Nat → Int32) (n : Nat) : Nat → Int32 := fun k => if k < n then f k else g k
theorem jfil_0 (f g : Nat → Int32) : jfil f g 0 = g := by funext k; simp [jfil]
theorem jfil_at (f g : Nat → Int32) (n : Nat) : jfil f g n n = g n := by simp [jfil]
theorem jfil_s (f g : Nat → Int32) (n : Nat) {v : Int32} (h : v = f n) : upd (jfil f g n) n v = jfil f g (n + 1) := by
  subst h
  funext k
  unfold jfil upd
  by_cases e : k = n
  · subst e; simp
  · by_cases e2 : k < n
    · simp [e, e2, Nat.lt_succ_of_lt e2]
    · have : ¬ k < n + 1 := by omega
      simp [e, e2, this]
theorem jfil_k (f g : Nat → Int32) (n : Nat) (h : g n = f n) : jfil f g n = jfil f g (n + 1) := by
  funext k
  unfold jfil
  by_cases e2 : k < n
  · simp [e2, Nat.lt_succ_of_lt e2]
  · by_cases e : k = n
    · subst e; simp [h]
    · have : ¬ k < n + 1 := by omega
      simp [e2, this]
def joth (d : Nat) : Int32 := jbit d ^^^ (-1)
/-- lift: the DISC d is taken from where it is -/
def jliftF (B : jBT) (d : Nat) : jBT :=
  if B.2.2.2.1 &&& jbit d = 0 then (B.1, B.2.1, B.2.2.1, B.2.2.2.1, B.2.2.2.2.1 &&& joth d, B.2.2.2.2.2)
  else (B.1, B.2.1, jfil (fun o => upd B.2.2.1 d 0 o &&& joth d) (upd B.2.2.1 d 0) 16, B.2.2.2.1 &&& joth d, B.2.2.2.2.1 &&& joth d, jorI 0 (fun o => decide (¬ upd B.2.2.1 d 0 o &&& joth d = 0)) 16)
def jsz (v : Int32) : Int32 := if v < 8 then 1 else 2
def jovb (xs ys : Nat → Int32) (d o : Nat) : Bool := decide ((xs d - xs o) * (xs d - xs o) + (ys d - ys o) * (ys d - ys o) < (jsz (nI d) + jsz (nI o)) * (jsz (nI d) + jsz (nI o)))
/-- which DISCS the DISC d comes to lie on -/
def jhit (xs ys : Nat → Int32) (ly : Int32) (d o : Nat) : Bool := decide (jts ly o) && jovb xs ys d o
/-- d has its place in xs, ys already: what it covers, and that it lies -/
def jlayF (B : jBT) (d : Nat) : jBT :=
  (B.1, B.2.1, jfil (fun o => if jhit B.1 B.2.1 B.2.2.2.1 d o then B.2.2.1 o ||| jbit d else B.2.2.1 o) B.2.2.1 16, B.2.2.2.1 ||| jbit d, B.2.2.2.2.1, jorI B.2.2.2.2.2 (jhit B.1 B.2.1 B.2.2.2.1 d) 16)
def jputF (B : jBT) (d : Nat) (a b : Int32) : jBT := (upd B.1 d a, upd B.2.1 d b, B.2.2)
/-- bring -/
def jbringF (B : jBT) (d : Nat) (a b : Int32) : jBT :=
  if a = -1 then jputF (jliftF B d) d (jtabX (d % 4)) (jtabY (d % 4))
  else if a = 41 then ((jputF (jliftF B d) d a b).1, (jputF (jliftF B d) d a b).2.1, (jputF (jliftF B d) d a b).2.2.1, (jputF (jliftF B d) d a b).2.2.2.1, (jputF (jliftF B d) d a b).2.2.2.2.1 ||| jbit d, (jputF (jliftF B d) d a b).2.2.2.2.2)
  else jlayF (jputF (jliftF B d) d a b) d
def jallF (B : jBT) : Nat → jBT
  | 0 => B
  | k + 1 => jbringF (jallF B k) k (-1) (-1)
/-- withNeighbours -/
def jwnF (cv : Nat → Int32) (g : Int32) : Nat → Int32
  | 0 => g
  | k + 1 => if ¬ jwnF cv g k &&& jbit k = 0 then jwnF cv g k ||| cv k else if ¬ jwnF cv g k &&& cv k = 0 then jwnF cv g k ||| jbit k else jwnF cv g k
def jpilF (cv : Nat → Int32) (g : Int32) : Nat → Int32
  | 0 => g
  | k + 1 => jwnF cv (jpilF cv g k) 16
def jpile (cv : Nat → Int32) (ly : Int32) (d : Nat) : Int32 := if ly &&& jbit d = 0 then 0 else jpilF cv (jbit d) 16
def jbc1 (v : Int32) : Int32 := v - ((v.toUInt32 >>> ((1 : Int32).toUInt32 &&& Int32.toUInt32 31)).toInt32 &&& 1431655765)
def jbc2 (v : Int32) : Int32 := (v &&& 858993459) + ((v.toUInt32 >>> ((2 : Int32).toUInt32 &&& Int32.toUInt32 31)).toInt32 &&& 858993459)
def jbc3 (v : Int32) : Int32 := (v + (v.toUInt32 >>> ((4 : Int32).toUInt32 &&& Int32.toUInt32 31)).toInt32) &&& 252645135
def jbc4 (v : Int32) : Int32 := v + (v.toUInt32 >>> ((8 : Int32).toUInt32 &&& Int32.toUInt32 31)).toInt32
def jbc5 (v : Int32) : Int32 := v + (v.toUInt32 >>> ((16 : Int32).toUInt32 &&& Int32.toUInt32 31)).toInt32
/-- Integer.bitCount -/
def jbc (v : Int32) : Int32 := jbc5 (jbc4 (jbc3 (jbc2 (jbc1 v)))) &&& 63
def jfree (cu cd : Int32) (p : Nat) : Int32 := ((4369 : Int32) <<< (nI p &&& 31)) &&& ((cu ||| cd) ^^^ (-1))
def jscore (ly cu cd : Int32) (p : Nat) : Int32 := 3 * jbc (cu &&& ((4369 : Int32) <<< (nI p &&& 31))) + jbc (jfree cu cd p &&& ly)
abbrev janyin (cu : Int32) : Prop := ¬ ((cu &&& (cu >>> ((4 : Int32) &&& 31))) &&& (cu >>> ((8 : Int32) &&& 31))) &&& (cu >>> ((12 : Int32) &&& 31)) = 0
section BO
variable {l : Launch} {E : jE} {h : List va_E} {i d : Nat} {xs ys cv : Nat → Int32} {ly cu cd : Int32}
theorem c_J6_bitCount_0f7a4 {v : Int32} : jMd l E yJ6_bitCount_0f7a4 cJ6_bitCount_0f7a4 1 (some .int) 0 [.int v] h (some (.int (jbc v))) h 0 0 := by
  refine jMd_of (by decide) (Nat.le_of_ble_eq_true rfl) (by simp [Value.category]) (by first | rfl | simp [jpB_len]) (fun x hx F T hm => ?_)
  refine jG_iload_n F dJ6_bitCount_0f7a4_0 rfl ?_
  refine jG_iload_n F dJ6_bitCount_0f7a4_1 rfl ?_
  refine jG_iconst F (v := (1 : Int32)) dJ6_bitCount_0f7a4_2 (by decide) ?_
  refine jG_iushr F dJ6_bitCount_0f7a4_3 rfl ?_
  refine jG_ldcw F (v := 1431655765) dJ6_bitCount_0f7a4_4 (by decide +kernel) ?_
  refine jG_iand F dJ6_bitCount_0f7a4_7 ?_
  refine jG_isub F dJ6_bitCount_0f7a4_8 ?_
  refine jG_istore_n_0e F dJ6_bitCount_0f7a4_9 (by decide) ?_
  refine jG_iload_n F dJ6_bitCount_0f7a4_10 rfl ?_
  refine jG_ldcw F (v := 858993459) dJ6_bitCount_0f7a4_11 (by decide +kernel) ?_
  refine jG_iand F dJ6_bitCount_0f7a4_14 ?_
  refine jG_iload_n F dJ6_bitCount_0f7a4_15 rfl ?_
  refine jG_iconst F (v := (2 : Int32)) dJ6_bitCount_0f7a4_16 (by decide) ?_
  refine jG_iushr F dJ6_bitCount_0f7a4_17 rfl ?_
  refine jG_ldcw F (v := 858993459) dJ6_bitCount_0f7a4_18 (by decide +kernel) ?_
  refine jG_iand F dJ6_bitCount_0f7a4_21 ?_
  refine jG_iadd F dJ6_bitCount_0f7a4_22 ?_
  refine jG_istore_n_0e F dJ6_bitCount_0f7a4_23 (by decide) ?_
  refine jG_iload_n F dJ6_bitCount_0f7a4_24 rfl ?_
  refine jG_iload_n F dJ6_bitCount_0f7a4_25 rfl ?_
  refine jG_iconst F (v := (4 : Int32)) dJ6_bitCount_0f7a4_26 (by decide) ?_
  refine jG_iushr F dJ6_bitCount_0f7a4_27 rfl ?_
  refine jG_iadd F dJ6_bitCount_0f7a4_28 ?_
  refine jG_ldcw F (v := 252645135) dJ6_bitCount_0f7a4_29 (by decide +kernel) ?_
  refine jG_iand F dJ6_bitCount_0f7a4_32 ?_
  refine jG_istore_n_0e F dJ6_bitCount_0f7a4_33 (by decide) ?_
  refine jG_iload_n F dJ6_bitCount_0f7a4_34 rfl ?_
  refine jG_iload_n F dJ6_bitCount_0f7a4_35 rfl ?_
  refine jG_bipush F (v := (8 : Int32)) dJ6_bitCount_0f7a4_36 (by decide) ?_
  refine jG_iushr F dJ6_bitCount_0f7a4_38 rfl ?_
  refine jG_iadd F dJ6_bitCount_0f7a4_39 ?_
  refine jG_istore_n_0e F dJ6_bitCount_0f7a4_40 (by decide) ?_
  refine jG_iload_n F dJ6_bitCount_0f7a4_41 rfl ?_
  refine jG_iload_n F dJ6_bitCount_0f7a4_42 rfl ?_
  refine jG_bipush F (v := (16 : Int32)) dJ6_bitCount_0f7a4_43 (by decide) ?_
  refine jG_iushr F dJ6_bitCount_0f7a4_45 rfl ?_
  refine jG_iadd F dJ6_bitCount_0f7a4_46 ?_
  refine jG_istore_n_0e F dJ6_bitCount_0f7a4_47 (by decide) ?_
  refine jG_iload_n F dJ6_bitCount_0f7a4_48 rfl ?_
  refine jG_bipush F (v := (63 : Int32)) dJ6_bitCount_0f7a4_49 (by decide) ?_
  refine jG_iand F dJ6_bitCount_0f7a4_51 ?_
  exact jG_iret F T (rfl) rfl (by first | rfl | exact jnarb _ | (split <;> rfl)) dJ6_bitCount_0f7a4_52
theorem c_X1_doesLie (hi : i + 3 < h.length) : jMd l E yX1_doesLie cX1_doesLie 2 (some .boolean) 0 [.ref (E.1 + i), .int (nI d)] (jp6 E h i xs ys cv ly cu cd) (some (.int (jB01 (jts ly d)))) (jp6 E h i xs ys cv ly cu cd) 0 0 := by
  refine jMd_of (by decide) (Nat.le_of_ble_eq_true rfl) (by simp [Value.category]) (by first | rfl | simp [jpB_len]) (fun x hx F T hm => ?_)
  refine jG_aload_n F dX1_doesLie_0 rfl ?_
  refine jg_X1_21 F dX1_doesLie_1 (jpB_o hi) rfl ?_
  refine jG_iconst F (v := (1 : Int32)) dX1_doesLie_4 (by decide) ?_
  refine jG_iload_n F dX1_doesLie_5 rfl ?_
  refine jG_ishl F dX1_doesLie_6 ?_
  refine jG_iand F dX1_doesLie_7 ?_
  refine jG_if_eq F 15 dX1_doesLie_8 (by decide) (fun q0 => ?_) (fun q0 => ?_)
  · refine jG_iconst F (v := (0 : Int32)) dX1_doesLie_15 (by decide) ?_
    exact jG_iret F T (by first | exact (jB01_neg (fun q => q (by assumption))).symm | exact (jB01_pos (by assumption)).symm) rfl (by first | rfl | exact jnarb _ | (split <;> rfl)) dX1_doesLie_16
  · refine jG_iconst F (v := (1 : Int32)) dX1_doesLie_11 (by decide) ?_
    refine jG_goto F 16 dX1_doesLie_12 (by decide) ?_
    exact jG_iret F T (by first | exact (jB01_neg (fun q => q (by assumption))).symm | exact (jB01_pos (by assumption)).symm) rfl (by first | rfl | exact jnarb _ | (split <;> rfl)) dX1_doesLie_16
theorem c_X1_isInCup (hi : i + 3 < h.length) : jMd l E yX1_isInCup cX1_isInCup 2 (some .boolean) 0 [.ref (E.1 + i), .int (nI d)] (jp6 E h i xs ys cv ly cu cd) (some (.int (jB01 (jts cu d)))) (jp6 E h i xs ys cv ly cu cd) 0 0 := by
  refine jMd_of (by decide) (Nat.le_of_ble_eq_true rfl) (by simp [Value.category]) (by first | rfl | simp [jpB_len]) (fun x hx F T hm => ?_)
  refine jG_aload_n F dX1_isInCup_0 rfl ?_
  refine jg_X1_25 F dX1_isInCup_1 (jpB_o hi) rfl ?_
  refine jG_iconst F (v := (1 : Int32)) dX1_isInCup_4 (by decide) ?_
  refine jG_iload_n F dX1_isInCup_5 rfl ?_
  refine jG_ishl F dX1_isInCup_6 ?_
  refine jG_iand F dX1_isInCup_7 ?_
  refine jG_if_eq F 15 dX1_isInCup_8 (by decide) (fun q0 => ?_) (fun q0 => ?_)
  · refine jG_iconst F (v := (0 : Int32)) dX1_isInCup_15 (by decide) ?_
    exact jG_iret F T (by first | exact (jB01_neg (fun q => q (by assumption))).symm | exact (jB01_pos (by assumption)).symm) rfl (by first | rfl | exact jnarb _ | (split <;> rfl)) dX1_isInCup_16
  · refine jG_iconst F (v := (1 : Int32)) dX1_isInCup_11 (by decide) ?_
    refine jG_goto F 16 dX1_isInCup_12 (by decide) ?_
    exact jG_iret F T (by first | exact (jB01_neg (fun q => q (by assumption))).symm | exact (jB01_pos (by assumption)).symm) rfl (by first | rfl | exact jnarb _ | (split <;> rfl)) dX1_isInCup_16
theorem c_X1_isAtBase (hi : i + 3 < h.length) : jMd l E yX1_isAtBase cX1_isAtBase 2 (some .boolean) 1 [.ref (E.1 + i), .int (nI d)] (jp6 E h i xs ys cv ly cu cd) (some (.int (jB01 (¬ jts ly d ∧ ¬ jts cu d)))) (jp6 E h i xs ys cv ly cu cd) 0 0 := by
  refine jMd_of (by decide) (Nat.le_of_ble_eq_true rfl) (by simp [Value.category]) (by first | rfl | simp [jpB_len]) (fun x hx F T hm => ?_)
  refine jG_aload_n F dX1_isAtBase_0 rfl ?_
  refine jG_iload_n F dX1_isAtBase_1 rfl ?_
  refine jc_X1_58 F dX1_isAtBase_2 (c_X1_doesLie hi) (jpB_o hi) (by decide) (Nat.le_refl 0) (Nat.le_refl 0) (Nat.le_of_ble_eq_true rfl) ?_
  refine jG_if_ne F 20 dX1_isAtBase_5 (by decide) (fun q0 => ?_) (fun q0 => ?_)
  · refine jG_iconst F (v := (0 : Int32)) dX1_isAtBase_20 (by decide) ?_
    exact jG_iret F T (by first | exact (jB01_neg (fun q => q.1 (jB01_ne (by assumption)))).symm | exact (jB01_neg (fun q => q.2 (jB01_ne (by assumption)))).symm | exact (jB01_pos ⟨jB01_eq (by assumption), jB01_eq (by assumption)⟩).symm) rfl (by first | rfl | exact jnarb _ | (split <;> rfl)) dX1_isAtBase_21
  · refine jG_aload_n F dX1_isAtBase_8 rfl ?_
    refine jG_iload_n F dX1_isAtBase_9 rfl ?_
    refine jc_X1_69 F dX1_isAtBase_10 (c_X1_isInCup hi) (jpB_o hi) (by decide) (Nat.le_refl 0) (Nat.le_refl 0) (Nat.le_of_ble_eq_true rfl) ?_
    refine jG_if_ne F 20 dX1_isAtBase_13 (by decide) (fun q1 => ?_) (fun q1 => ?_)
    · refine jG_iconst F (v := (0 : Int32)) dX1_isAtBase_20 (by decide) ?_
      exact jG_iret F T (by first | exact (jB01_neg (fun q => q.1 (jB01_ne (by assumption)))).symm | exact (jB01_neg (fun q => q.2 (jB01_ne (by assumption)))).symm | exact (jB01_pos ⟨jB01_eq (by assumption), jB01_eq (by assumption)⟩).symm) rfl (by first | rfl | exact jnarb _ | (split <;> rfl)) dX1_isAtBase_21
    · refine jG_iconst F (v := (1 : Int32)) dX1_isAtBase_16 (by decide) ?_
      refine jG_goto F 21 dX1_isAtBase_17 (by decide) ?_
      exact jG_iret F T (by first | exact (jB01_neg (fun q => q.1 (jB01_ne (by assumption)))).symm | exact (jB01_neg (fun q => q.2 (jB01_ne (by assumption)))).symm | exact (jB01_pos ⟨jB01_eq (by assumption), jB01_eq (by assumption)⟩).symm) rfl (by first | rfl | exact jnarb _ | (split <;> rfl)) dX1_isAtBase_21
theorem c_X1_isFree (hi : i + 3 < h.length) : jMd l E yX1_isFree cX1_isFree 2 (some .boolean) 0 [.ref (E.1 + i), .int (nI d)] (jp6 E h i xs ys cv ly cu cd) (some (.int (jB01 ((cu ||| cd) &&& jbit d = 0)))) (jp6 E h i xs ys cv ly cu cd) 0 0 := by
  refine jMd_of (by decide) (Nat.le_of_ble_eq_true rfl) (by simp [Value.category]) (by first | rfl | simp [jpB_len]) (fun x hx F T hm => ?_)
  refine jG_aload_n F dX1_isFree_0 rfl ?_
  refine jg_X1_25 F dX1_isFree_1 (jpB_o hi) rfl ?_
  refine jG_aload_n F dX1_isFree_4 rfl ?_
  refine jg_X1_28 F dX1_isFree_5 (jpB_o hi) rfl ?_
  refine jG_ior F dX1_isFree_8 ?_
  refine jG_iconst F (v := (1 : Int32)) dX1_isFree_9 (by decide) ?_
  refine jG_iload_n F dX1_isFree_10 rfl ?_
  refine jG_ishl F dX1_isFree_11 ?_
  refine jG_iand F dX1_isFree_12 ?_
  refine jG_if_ne F 20 dX1_isFree_13 (by decide) (fun q0 => ?_) (fun q0 => ?_)
  · refine jG_iconst F (v := (0 : Int32)) dX1_isFree_20 (by decide) ?_
    exact jG_iret F T (by first | exact (jB01_neg (by assumption)).symm | exact (jB01_pos (by assumption)).symm) rfl (by first | rfl | exact jnarb _ | (split <;> rfl)) dX1_isFree_21
  · refine jG_iconst F (v := (1 : Int32)) dX1_isFree_16 (by decide) ?_
    refine jG_goto F 21 dX1_isFree_17 (by decide) ?_
    exact jG_iret F T (by first | exact (jB01_neg (by assumption)).symm | exact (jB01_pos (by assumption)).symm) rfl (by first | rfl | exact jnarb _ | (split <;> rfl)) dX1_isFree_21
theorem c_X1_freeOf (hi : i + 3 < h.length) : jMd l E yX1_freeOf cX1_freeOf 2 (some .int) 0 [.ref (E.1 + i), .int (nI d)] (jp6 E h i xs ys cv ly cu cd) (some (.int (jfree cu cd d))) (jp6 E h i xs ys cv ly cu cd) 0 0 := by
  refine jMd_of (by decide) (Nat.le_of_ble_eq_true rfl) (by simp [Value.category]) (by first | rfl | simp [jpB_len]) (fun x hx F T hm => ?_)
  refine jG_sipush F (v := (4369 : Int32)) dX1_freeOf_0 (by decide) ?_
  refine jG_iload_n F dX1_freeOf_3 rfl ?_
  refine jG_ishl F dX1_freeOf_4 ?_
  refine jG_aload_n F dX1_freeOf_5 rfl ?_
  refine jg_X1_25 F dX1_freeOf_6 (jpB_o hi) rfl ?_
  refine jG_aload_n F dX1_freeOf_9 rfl ?_
  refine jg_X1_28 F dX1_freeOf_10 (jpB_o hi) rfl ?_
  refine jG_ior F dX1_freeOf_13 ?_
  refine jG_iconst F (v := (-1 : Int32)) dX1_freeOf_14 (by decide) ?_
  refine jG_ixor F dX1_freeOf_15 ?_
  refine jG_iand F dX1_freeOf_16 ?_
  exact jG_iret F T (rfl) rfl (by first | rfl | exact jnarb _ | (split <;> rfl)) dX1_freeOf_17
theorem c_X1_isAllIn (hi : i + 3 < h.length) : jMd l E yX1_isAllIn cX1_isAllIn 3 (some .boolean) 0 [.ref (E.1 + i), .int (nI d)] (jp6 E h i xs ys cv ly cu cd) (some (.int (jB01 (cu &&& ((4369 : Int32) <<< (nI d &&& 31)) = (4369 : Int32) <<< (nI d &&& 31))))) (jp6 E h i xs ys cv ly cu cd) 0 0 := by
  refine jMd_of (by decide) (Nat.le_of_ble_eq_true rfl) (by simp [Value.category]) (by first | rfl | simp [jpB_len]) (fun x hx F T hm => ?_)
  refine jG_sipush F (v := (4369 : Int32)) dX1_isAllIn_0 (by decide) ?_
  refine jG_iload_n F dX1_isAllIn_3 rfl ?_
  refine jG_ishl F dX1_isAllIn_4 ?_
  refine jG_istore_n_2n F dX1_isAllIn_5 (by decide) ?_
  refine jG_aload_n F dX1_isAllIn_6 rfl ?_
  refine jg_X1_25 F dX1_isAllIn_7 (jpB_o hi) rfl ?_
  refine jG_iload_n F dX1_isAllIn_10 rfl ?_
  refine jG_iand F dX1_isAllIn_11 ?_
  refine jG_iload_n F dX1_isAllIn_12 rfl ?_
  refine jG_icmp_ne F 20 dX1_isAllIn_13 (by decide) (fun q0 => ?_) (fun q0 => ?_)
  · refine jG_iconst F (v := (0 : Int32)) dX1_isAllIn_20 (by decide) ?_
    exact jG_iret F T (by first | exact (jB01_neg (by assumption)).symm | exact (jB01_pos (by assumption)).symm) rfl (by first | rfl | exact jnarb _ | (split <;> rfl)) dX1_isAllIn_21
  · refine jG_iconst F (v := (1 : Int32)) dX1_isAllIn_16 (by decide) ?_
    refine jG_goto F 21 dX1_isAllIn_17 (by decide) ?_
    exact jG_iret F T (by first | exact (jB01_neg (by assumption)).symm | exact (jB01_pos (by assumption)).symm) rfl (by first | rfl | exact jnarb _ | (split <;> rfl)) dX1_isAllIn_21
theorem c_X1_isAnyoneAllIn (hi : i + 3 < h.length) : jMd l E yX1_isAnyoneAllIn cX1_isAnyoneAllIn 1 (some .boolean) 0 [.ref (E.1 + i)] (jp6 E h i xs ys cv ly cu cd) (some (.int (jB01 (janyin cu)))) (jp6 E h i xs ys cv ly cu cd) 0 0 := by
  refine jMd_of (by decide) (Nat.le_of_ble_eq_true rfl) (by simp [Value.category]) (by first | rfl | simp [jpB_len]) (fun x hx F T hm => ?_)
  refine jG_aload_n F dX1_isAnyoneAllIn_0 rfl ?_
  refine jg_X1_25 F dX1_isAnyoneAllIn_1 (jpB_o hi) rfl ?_
  refine jG_aload_n F dX1_isAnyoneAllIn_4 rfl ?_
  refine jg_X1_25 F dX1_isAnyoneAllIn_5 (jpB_o hi) rfl ?_
  refine jG_iconst F (v := (4 : Int32)) dX1_isAnyoneAllIn_8 (by decide) ?_
  refine jG_ishr F dX1_isAnyoneAllIn_9 ?_
  refine jG_iand F dX1_isAnyoneAllIn_10 ?_
  refine jG_aload_n F dX1_isAnyoneAllIn_11 rfl ?_
  refine jg_X1_25 F dX1_isAnyoneAllIn_12 (jpB_o hi) rfl ?_
  refine jG_bipush F (v := (8 : Int32)) dX1_isAnyoneAllIn_15 (by decide) ?_
  refine jG_ishr F dX1_isAnyoneAllIn_17 ?_
  refine jG_iand F dX1_isAnyoneAllIn_18 ?_
  refine jG_aload_n F dX1_isAnyoneAllIn_19 rfl ?_
  refine jg_X1_25 F dX1_isAnyoneAllIn_20 (jpB_o hi) rfl ?_
  refine jG_bipush F (v := (12 : Int32)) dX1_isAnyoneAllIn_23 (by decide) ?_
  refine jG_ishr F dX1_isAnyoneAllIn_25 ?_
  refine jG_iand F dX1_isAnyoneAllIn_26 ?_
  refine jG_if_eq F 34 dX1_isAnyoneAllIn_27 (by decide) (fun q0 => ?_) (fun q0 => ?_)
  · refine jG_iconst F (v := (0 : Int32)) dX1_isAnyoneAllIn_34 (by decide) ?_
    exact jG_iret F T (by first | exact (jB01_neg (fun q => q (by assumption))).symm | exact (jB01_pos (by assumption)).symm) rfl (by first | rfl | exact jnarb _ | (split <;> rfl)) dX1_isAnyoneAllIn_35
  · refine jG_iconst F (v := (1 : Int32)) dX1_isAnyoneAllIn_30 (by decide) ?_
    refine jG_goto F 35 dX1_isAnyoneAllIn_31 (by decide) ?_
    exact jG_iret F T (by first | exact (jB01_neg (fun q => q (by assumption))).symm | exact (jB01_pos (by assumption)).symm) rfl (by first | rfl | exact jnarb _ | (split <;> rfl)) dX1_isAnyoneAllIn_35
theorem c_X1_scoreOf (hi : i + 3 < h.length) : jMd l E yX1_scoreOf cX1_scoreOf 3 (some .int) 1 [.ref (E.1 + i), .int (nI d)] (jp6 E h i xs ys cv ly cu cd) (some (.int (jscore ly cu cd d))) (jp6 E h i xs ys cv ly cu cd) 0 0 := by
  refine jMd_of (by decide) (Nat.le_of_ble_eq_true rfl) (by simp [Value.category]) (by first | rfl | simp [jpB_len]) (fun x hx F T hm => ?_)
  refine jG_sipush F (v := (4369 : Int32)) dX1_scoreOf_0 (by decide) ?_
  refine jG_iload_n F dX1_scoreOf_3 rfl ?_
  refine jG_ishl F dX1_scoreOf_4 ?_
  refine jG_istore_n_2n F dX1_scoreOf_5 (by decide) ?_
  refine jG_iconst F (v := (3 : Int32)) dX1_scoreOf_6 (by decide) ?_
  refine jG_aload_n F dX1_scoreOf_7 rfl ?_
  refine jg_X1_25 F dX1_scoreOf_8 (jpB_o hi) rfl ?_
  refine jG_iload_n F dX1_scoreOf_11 rfl ?_
  refine jG_iand F dX1_scoreOf_12 ?_
  refine jc_X1_75 F dX1_scoreOf_13 (c_J6_bitCount_0f7a4) (by decide) (Nat.le_refl 0) (Nat.le_refl 0) (Nat.le_of_ble_eq_true rfl) ?_
  refine jG_imul F dX1_scoreOf_16 ?_
  refine jG_aload_n F dX1_scoreOf_17 rfl ?_
  refine jG_iload_n F dX1_scoreOf_18 rfl ?_
  refine jc_X1_80 F dX1_scoreOf_19 (c_X1_freeOf hi) (jpB_o hi) (by decide) (Nat.le_refl 0) (Nat.le_refl 0) (Nat.le_of_ble_eq_true rfl) ?_
  refine jG_aload_n F dX1_scoreOf_22 rfl ?_
  refine jg_X1_21 F dX1_scoreOf_23 (jpB_o hi) rfl ?_
  refine jG_iand F dX1_scoreOf_26 ?_
  refine jc_X1_75 F dX1_scoreOf_27 (c_J6_bitCount_0f7a4) (by decide) (Nat.le_refl 0) (Nat.le_refl 0) (Nat.le_of_ble_eq_true rfl) ?_
  refine jG_iadd F dX1_scoreOf_30 ?_
  exact jG_iret F T (rfl) rfl (by first | rfl | exact jnarb _ | (split <;> rfl)) dX1_scoreOf_31
theorem c_X1_isOverlap {o : Nat} (hi : i + 3 < h.length) (hd : d < 16) (ho : o < 16) : jMd l E yX1_isOverlap cX1_isOverlap 6 (some .boolean) 1 [.ref (E.1 + i), .int (nI d), .int (nI o)] (jp6 E h i xs ys cv ly cu cd) (some (.int (jB01 (jovb xs ys d o = true)))) (jp6 E h i xs ys cv ly cu cd) 0 0 := by
  refine jMd_of (by decide) (Nat.le_of_ble_eq_true rfl) (by simp [Value.category]) (by first | rfl | simp [jpB_len]) (fun x hx F T hm => ?_)
  refine jG_aload_n F dX1_isOverlap_0 rfl ?_
  refine jg_X1_9 F dX1_isOverlap_1 (jpB_o hi) rfl ?_
  refine jG_iload_n F dX1_isOverlap_4 rfl ?_
  refine jG_iald F dX1_isOverlap_5 (jpB_x hi) rfl (by omega) (by decide) ?_
  refine jG_aload_n F dX1_isOverlap_6 rfl ?_
  refine jg_X1_9 F dX1_isOverlap_7 (jpB_o hi) rfl ?_
  refine jG_iload_n F dX1_isOverlap_10 rfl ?_
  refine jG_iald F dX1_isOverlap_11 (jpB_x hi) rfl (by omega) (by decide) ?_
  refine jG_isub F dX1_isOverlap_12 ?_
  refine jG_istore_n_3n F dX1_isOverlap_13 (by decide) ?_
  refine jG_aload_n F dX1_isOverlap_14 rfl ?_
  refine jg_X1_15 F dX1_isOverlap_15 (jpB_o hi) rfl ?_
  refine jG_iload_n F dX1_isOverlap_18 rfl ?_
  refine jG_iald F dX1_isOverlap_19 (jpB_y hi) rfl (by omega) (by decide) ?_
  refine jG_aload_n F dX1_isOverlap_20 rfl ?_
  refine jg_X1_15 F dX1_isOverlap_21 (jpB_o hi) rfl ?_
  refine jG_iload_n F dX1_isOverlap_24 rfl ?_
  refine jG_iald F dX1_isOverlap_25 (jpB_y hi) rfl (by omega) (by decide) ?_
  refine jG_isub F dX1_isOverlap_26 ?_
  refine jG_istore_4n F dX1_isOverlap_27 (by decide) ?_
  refine jG_iload_n F dX1_isOverlap_29 rfl ?_
  refine jc_X1_66 F dX1_isOverlap_30 (c_X5_sizeOf) (by decide) (Nat.le_refl 0) (Nat.le_refl 0) (Nat.le_of_ble_eq_true rfl) ?_
  refine jG_iload_n F dX1_isOverlap_33 rfl ?_
  refine jc_X1_66 F dX1_isOverlap_34 (c_X5_sizeOf) (by decide) (Nat.le_refl 0) (Nat.le_refl 0) (Nat.le_of_ble_eq_true rfl) ?_
  refine jG_iadd F dX1_isOverlap_37 ?_
  refine jG_istore_5n F dX1_isOverlap_38 (by decide) ?_
  refine jG_iload_n F dX1_isOverlap_40 rfl ?_
  refine jG_iload_n F dX1_isOverlap_41 rfl ?_
  refine jG_imul F dX1_isOverlap_42 ?_
  refine jG_iload F dX1_isOverlap_43 rfl ?_
  refine jG_iload F dX1_isOverlap_45 rfl ?_
  refine jG_imul F dX1_isOverlap_47 ?_
  refine jG_iadd F dX1_isOverlap_48 ?_
  refine jG_iload F dX1_isOverlap_49 rfl ?_
  refine jG_iload F dX1_isOverlap_51 rfl ?_
  refine jG_imul F dX1_isOverlap_53 ?_
  refine jG_icmp_ge F 61 dX1_isOverlap_54 (by decide) (fun q0 => ?_) (fun q0 => ?_)
  · refine jG_iconst F (v := (0 : Int32)) dX1_isOverlap_61 (by decide) ?_
    exact jG_iret F T (by first | exact (jB01_neg (fun q => absurd (of_decide_eq_true q) (Int32.not_lt.mpr (by assumption)))).symm | exact (jB01_pos (decide_eq_true (Int32.not_le.mp (by assumption)))).symm) rfl (by first | rfl | exact jnarb _ | (split <;> rfl)) dX1_isOverlap_62
  · refine jG_iconst F (v := (1 : Int32)) dX1_isOverlap_57 (by decide) ?_
    refine jG_goto F 62 dX1_isOverlap_58 (by decide) ?_
    exact jG_iret F T (by first | exact (jB01_neg (fun q => absurd (of_decide_eq_true q) (Int32.not_lt.mpr (by assumption)))).symm | exact (jB01_pos (decide_eq_true (Int32.not_le.mp (by assumption)))).symm) rfl (by first | rfl | exact jnarb _ | (split <;> rfl)) dX1_isOverlap_62
theorem c_X1_coveredBy (hi : i + 3 < h.length) : jMd l E yX1_coveredBy cX1_coveredBy 4 (some .int) 0 [.ref (E.1 + i), .int (nI d)] (jp6 E h i xs ys cv ly cu cd) (some (.int (jorI 0 (fun o => decide (jts (cv o) d)) 16))) (jp6 E h i xs ys cv ly cu cd) 0 0 := by
  refine jMd_of (by decide) (Nat.le_of_ble_eq_true rfl) (by simp [Value.category]) (by first | rfl | simp [jpB_len]) (fun x hx F T hm => ?_)
  refine jG_iconst F (v := (0 : Int32)) dX1_coveredBy_0 (by decide) ?_
  refine jG_istore_n_2n F dX1_coveredBy_1 (by decide) ?_
  refine jG_iconst F (v := nI 0) dX1_coveredBy_2 (by decide) ?_
  refine jG_istore_n_3n F dX1_coveredBy_3 (by decide) ?_
  have loop : ∀ k, k ≤ 16 → jG E x 0 0 4 [.ref (E.1 + i), .int (nI d), .int (jorI 0 (fun o => decide (jts (cv o) d)) k), .int (nI k)] [] (jp6 E h i xs ys cv ly cu cd) := by
    refine jup 16 _ ?_ ?_
    · refine jG_iload_n F dX1_coveredBy_4 rfl ?_
      refine jG_bipush F (v := nI 16) dX1_coveredBy_5 (by decide) ?_
      refine jG_icmp_ge F 35 dX1_coveredBy_7 (by decide) (fun _ => ?_) (fun q => absurd (nI_le (Nat.le_refl 16) (by decide)) q)
      refine jG_iload_n F dX1_coveredBy_35 rfl ?_
      exact jG_iret F T (rfl) rfl (by first | rfl | exact jnarb _ | (split <;> rfl)) dX1_coveredBy_36
    · intro k hk ih
      refine jG_iload_n F dX1_coveredBy_4 rfl ?_
      refine jG_bipush F (v := nI 16) dX1_coveredBy_5 (by decide) ?_
      refine jG_icmp_ge F 35 dX1_coveredBy_7 (by decide) (fun q => absurd q (nI_ge hk (by decide))) (fun _ => ?_)
      refine jG_aload_n F dX1_coveredBy_10 rfl ?_
      refine jg_X1_18 F dX1_coveredBy_11 (jpB_o hi) rfl ?_
      refine jG_iload_n F dX1_coveredBy_14 rfl ?_
      refine jG_iald F dX1_coveredBy_15 (jpB_c hi) rfl (by omega) (by decide) ?_
      refine jG_iconst F (v := (1 : Int32)) dX1_coveredBy_16 (by decide) ?_
      refine jG_iload_n F dX1_coveredBy_17 rfl ?_
      refine jG_ishl F dX1_coveredBy_18 ?_
      refine jG_iand F dX1_coveredBy_19 ?_
      refine jG_if_eq F 29 dX1_coveredBy_20 (by decide) (fun q => ?_) (fun q => ?_)
      · refine jG_iinc_3 F (w := nI (k + 1)) dX1_coveredBy_29 (jinc k) (by decide) ?_
        refine jG_goto F 4 dX1_coveredBy_32 (by decide) ?_
        refine jG_eq ?_ rfl rfl ih
        rw [jorI_f (fun z => (of_decide_eq_true z) q)]
      · refine jG_iload_n F dX1_coveredBy_23 rfl ?_
        refine jG_iconst F (v := (1 : Int32)) dX1_coveredBy_24 (by decide) ?_
        refine jG_iload_n F dX1_coveredBy_25 rfl ?_
        refine jG_ishl F dX1_coveredBy_26 ?_
        refine jG_ior F dX1_coveredBy_27 ?_
        refine jG_istore_n_2e F dX1_coveredBy_28 (by decide) ?_
        refine jG_iinc_3 F (w := nI (k + 1)) dX1_coveredBy_29 (jinc k) (by decide) ?_
        refine jG_goto F 4 dX1_coveredBy_32 (by decide) ?_
        refine jG_eq ?_ rfl rfl ih
        rw [jorI_t (decide_eq_true q)]; rfl
  exact loop 0 (by decide)
theorem c_X1_withNeighbours {g : Int32} (hi : i + 3 < h.length) : jMd l E yX1_withNeighbours cX1_withNeighbours 4 (some .int) 0 [.ref (E.1 + i), .int g] (jp6 E h i xs ys cv ly cu cd) (some (.int (jwnF cv g 16))) (jp6 E h i xs ys cv ly cu cd) 0 0 := by
  refine jMd_of (by decide) (Nat.le_of_ble_eq_true rfl) (by simp [Value.category]) (by first | rfl | simp [jpB_len]) (fun x hx F T hm => ?_)
  refine jG_iload_n F dX1_withNeighbours_0 rfl ?_
  refine jG_istore_n_2n F dX1_withNeighbours_1 (by decide) ?_
  refine jG_iconst F (v := nI 0) dX1_withNeighbours_2 (by decide) ?_
  refine jG_istore_n_3n F dX1_withNeighbours_3 (by decide) ?_
  have loop : ∀ k, k ≤ 16 → jG E x 0 0 4 [.ref (E.1 + i), .int g, .int (jwnF cv g k), .int (nI k)] [] (jp6 E h i xs ys cv ly cu cd) := by
    refine jup 16 _ ?_ ?_
    · refine jG_iload_n F dX1_withNeighbours_4 rfl ?_
      refine jG_bipush F (v := nI 16) dX1_withNeighbours_5 (by decide) ?_
      refine jG_icmp_ge F 53 dX1_withNeighbours_7 (by decide) (fun _ => ?_) (fun q => absurd (nI_le (Nat.le_refl 16) (by decide)) q)
      refine jG_iload_n F dX1_withNeighbours_53 rfl ?_
      exact jG_iret F T (rfl) rfl (by first | rfl | exact jnarb _ | (split <;> rfl)) dX1_withNeighbours_54
    · intro k hk ih
      refine jG_iload_n F dX1_withNeighbours_4 rfl ?_
      refine jG_bipush F (v := nI 16) dX1_withNeighbours_5 (by decide) ?_
      refine jG_icmp_ge F 53 dX1_withNeighbours_7 (by decide) (fun q => absurd q (nI_ge hk (by decide))) (fun _ => ?_)
      refine jG_iload_n F dX1_withNeighbours_10 rfl ?_
      refine jG_iconst F (v := (1 : Int32)) dX1_withNeighbours_11 (by decide) ?_
      refine jG_iload_n F dX1_withNeighbours_12 rfl ?_
      refine jG_ishl F dX1_withNeighbours_13 ?_
      refine jG_iand F dX1_withNeighbours_14 ?_
      refine jG_if_eq F 30 dX1_withNeighbours_15 (by decide) (fun q => ?_) (fun q => ?_)
      · refine jG_iload_n F dX1_withNeighbours_30 rfl ?_
        refine jG_aload_n F dX1_withNeighbours_31 rfl ?_
        refine jg_X1_18 F dX1_withNeighbours_32 (jpB_o hi) rfl ?_
        refine jG_iload_n F dX1_withNeighbours_35 rfl ?_
        refine jG_iald F dX1_withNeighbours_36 (jpB_c hi) rfl (by omega) (by decide) ?_
        refine jG_iand F dX1_withNeighbours_37 ?_
        refine jG_if_eq F 47 dX1_withNeighbours_38 (by decide) (fun q2 => ?_) (fun q2 => ?_)
        · refine jG_iinc_3 F (w := nI (k + 1)) dX1_withNeighbours_47 (jinc k) (by decide) ?_
          refine jG_goto F 4 dX1_withNeighbours_50 (by decide) ?_
          refine jG_eq ?_ rfl rfl ih
          rw [show jwnF cv g (k + 1) = jwnF cv g k from (if_neg (fun z => z q)).trans (if_neg (fun z => z q2))]
        · refine jG_iload_n F dX1_withNeighbours_41 rfl ?_
          refine jG_iconst F (v := (1 : Int32)) dX1_withNeighbours_42 (by decide) ?_
          refine jG_iload_n F dX1_withNeighbours_43 rfl ?_
          refine jG_ishl F dX1_withNeighbours_44 ?_
          refine jG_ior F dX1_withNeighbours_45 ?_
          refine jG_istore_n_2e F dX1_withNeighbours_46 (by decide) ?_
          refine jG_iinc_3 F (w := nI (k + 1)) dX1_withNeighbours_47 (jinc k) (by decide) ?_
          refine jG_goto F 4 dX1_withNeighbours_50 (by decide) ?_
          refine jG_eq ?_ rfl rfl ih
          rw [show jwnF cv g (k + 1) = jwnF cv g k ||| jbit k from (if_neg (fun z => z q)).trans (if_pos q2)]; rfl
      · refine jG_iload_n F dX1_withNeighbours_18 rfl ?_
        refine jG_aload_n F dX1_withNeighbours_19 rfl ?_
        refine jg_X1_18 F dX1_withNeighbours_20 (jpB_o hi) rfl ?_
        refine jG_iload_n F dX1_withNeighbours_23 rfl ?_
        refine jG_iald F dX1_withNeighbours_24 (jpB_c hi) rfl (by omega) (by decide) ?_
        refine jG_ior F dX1_withNeighbours_25 ?_
        refine jG_istore_n_2e F dX1_withNeighbours_26 (by decide) ?_
        refine jG_goto F 47 dX1_withNeighbours_27 (by decide) ?_
        refine jG_iinc_3 F (w := nI (k + 1)) dX1_withNeighbours_47 (jinc k) (by decide) ?_
        refine jG_goto F 4 dX1_withNeighbours_50 (by decide) ?_
        refine jG_eq ?_ rfl rfl ih
        rw [show jwnF cv g (k + 1) = jwnF cv g k ||| cv k from if_pos q]
  exact loop 0 (by decide)
theorem c_X1_pileOf (hi : i + 3 < h.length) : jMd l E yX1_pileOf cX1_pileOf 4 (some .int) 1 [.ref (E.1 + i), .int (nI d)] (jp6 E h i xs ys cv ly cu cd) (some (.int (jpile cv ly d))) (jp6 E h i xs ys cv ly cu cd) 0 0 := by
  refine jMd_of (by decide) (Nat.le_of_ble_eq_true rfl) (by simp [Value.category]) (by first | rfl | simp [jpB_len]) (fun x hx F T hm => ?_)
  refine jG_aload_n F dX1_pileOf_0 rfl ?_
  refine jG_iload_n F dX1_pileOf_1 rfl ?_
  refine jc_X1_58 F dX1_pileOf_2 (c_X1_doesLie hi) (jpB_o hi) (by decide) (Nat.le_refl 0) (Nat.le_refl 0) (Nat.le_of_ble_eq_true rfl) ?_
  refine jG_if_ne F 10 dX1_pileOf_5 (by decide) (fun q => ?_) (fun q => ?_)
  · refine jG_iconst F (v := (1 : Int32)) dX1_pileOf_10 (by decide) ?_
    refine jG_iload_n F dX1_pileOf_11 rfl ?_
    refine jG_ishl F dX1_pileOf_12 ?_
    refine jG_istore_n_2n F dX1_pileOf_13 (by decide) ?_
    refine jG_iconst F (v := nI 0) dX1_pileOf_14 (by decide) ?_
    refine jG_istore_n_3n F dX1_pileOf_15 (by decide) ?_
    have loop : ∀ k, k ≤ 16 → jG E x 0 0 16 [.ref (E.1 + i), .int (nI d), .int (jpilF cv (jbit d) k), .int (nI k)] [] (jp6 E h i xs ys cv ly cu cd) := by
      refine jup 16 _ ?_ ?_
      · refine jG_iload_n F dX1_pileOf_16 rfl ?_
        refine jG_bipush F (v := nI 16) dX1_pileOf_17 (by decide) ?_
        refine jG_icmp_ge F 34 dX1_pileOf_19 (by decide) (fun _ => ?_) (fun q => absurd (nI_le (Nat.le_refl 16) (by decide)) q)
        refine jG_iload_n F dX1_pileOf_34 rfl ?_
        exact jG_iret F T ((if_neg (jB01_ne q)).symm) rfl (by first | rfl | exact jnarb _ | (split <;> rfl)) dX1_pileOf_35
      · intro k hk ih
        refine jG_iload_n F dX1_pileOf_16 rfl ?_
        refine jG_bipush F (v := nI 16) dX1_pileOf_17 (by decide) ?_
        refine jG_icmp_ge F 34 dX1_pileOf_19 (by decide) (fun q => absurd q (nI_ge hk (by decide))) (fun _ => ?_)
        refine jG_aload_n F dX1_pileOf_22 rfl ?_
        refine jG_iload_n F dX1_pileOf_23 rfl ?_
        refine jc_X1_72 F dX1_pileOf_24 (c_X1_withNeighbours hi) (jpB_o hi) (by decide) (Nat.le_refl 0) (Nat.le_refl 0) (Nat.le_of_ble_eq_true rfl) ?_
        refine jG_istore_n_2e F dX1_pileOf_27 (by decide) ?_
        refine jG_iinc_3 F (w := nI (k + 1)) dX1_pileOf_28 (jinc k) (by decide) ?_
        refine jG_goto F 16 dX1_pileOf_31 (by decide) ?_
        exact ih
    exact loop 0 (by decide)
  · refine jG_iconst F (v := (0 : Int32)) dX1_pileOf_8 (by decide) ?_
    exact jG_iret F T ((if_pos (Classical.not_not.mp (jB01_eq q))).symm) rfl (by first | rfl | exact jnarb _ | (split <;> rfl)) dX1_pileOf_9
end BO
