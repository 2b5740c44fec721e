/-! ===== JumpDiscsModel: the board that is looked at (A; the other is P), its small methods ===== -/
abbrev jmo (E : jE) (m km : Nat) (io bd ba bw : Int32) (rm : Nat) : va_E := .inr (6, [.ref (E.1 + (m + 1)), .ref (E.1 + (m + 2)), .ref (E.1 + (m + 3)), .int (nI km), .int io, .int bd, .int ba, .int bw, .int (nI rm), .ref (E.1 + (m + 4)), .ref (E.1 + (m + 5)), .ref (E.1 + (m + 6)), .ref (E.1 + (m + 7)), .ref (E.1 + (m + 8))])
def jio (o : Bool) : Int32 := if o = true then 1 else 0
def jsel (o : Bool) (x y : Nat → Int32) : Nat → Int32 := if o = true then x else y
def jpO (E : jE) (h : List va_E) (m : Nat) (o : Bool) (A P : Nat → Int32) : List va_E := (h.set (m + 1) (jar E 128 (jsel o P A))).set (m + 2) (jar E 128 (jsel o A P))
section MO0
variable {E : jE} {h : List va_E} {m km rm : Nat} {io bd ba bw : Int32} {o : Bool} {A P f : Nat → Int32}
theorem jpO_len : (jpO E h m o A P).length = h.length := by simp [jpO]
theorem jpO_ne {j : Nat} (h1 : j ≠ m + 1) (h2 : j ≠ m + 2) : (jpO E h m o A P)[j]? = h[j]? := by
  simp [jpO, List.getElem?_set, h1.symm, h2.symm]
theorem jpO_o (hm : h[m]? = some (jmo E m km io bd ba bw rm)) : (jpO E h m o A P)[m]? = some (jmo E m km io bd ba bw rm) := (jpO_ne (by omega) (by omega)).trans hm
theorem jpO_1 (hl : m + 8 < h.length) : (jpO E h m o A P)[m + 1]? = some (jar E 128 (jsel o P A)) := by
  simp [jpO, List.getElem?_set, show m + 1 < h.length by omega]
theorem jpO_2 (hl : m + 8 < h.length) : (jpO E h m o A P)[m + 2]? = some (jar E 128 (jsel o A P)) := by
  simp [jpO, List.getElem?_set, show m + 2 < h.length by omega]
theorem jpO_st1 : (jpO E h m false A P).set (m + 1) (jar E 128 f) = jpO E h m false f P := by
  unfold jpO
  rw [List.set_comm _ _ (by omega), List.set_set]
  rfl
theorem jpO_st2 : (jpO E h m true A P).set (m + 2) (jar E 128 f) = jpO E h m true f P := by
  unfold jpO
  rw [List.set_set]
  rfl
end MO0
def mX (A : Nat → Int32) (d : Nat) : Int32 := if A d = 0 then jtabX (d % 4) else if A d = 2 then 41 else A (16 + d)
def mY (A : Nat → Int32) (d : Nat) : Int32 := if A d = 0 then jtabY (d % 4) else if A d = 2 then 41 else A (32 + d)
def mnear (A : Nat → Int32) (a b : Nat) : Prop := (mX A a - mX A b) * (mX A a - mX A b) + (mY A a - mY A b) * (mY A a - mY A b) < (jsz (nI a) + jsz (nI b)) * (jsz (nI a) + jsz (nI b))
abbrev mcov (A : Nat → Int32) (a b : Nat) : Prop := A a = 1 ∧ A b = 1 ∧ ¬ a = b ∧ ¬ A (48 + a) < A (48 + b) ∧ 0 ≤ mX A a ∧ 0 ≤ mX A b ∧ (mX A a - mX A b) * (mX A a - mX A b) + (mY A a - mY A b) * (mY A a - mY A b) < (jsz (nI a) + jsz (nI b)) * (jsz (nI a) + jsz (nI b))
def mcvr (A : Nat → Int32) (d : Nat) : Int32 := jorI 0 (fun k => decide (mcov A k d)) 16
def mcvd (A : Nat → Int32) (d : Nat) : Int32 := jorI 0 (fun k => decide (mcov A d k)) 16
abbrev mfree (A : Nat → Int32) (d : Nat) : Prop := A d = 0 ∨ (A d = 1 ∧ mcvr A d = 0)
def mfo (A : Nat → Int32) (p : Nat) : Nat → Int32
  | 0 => 0
  | k + 1 => if mfree A (p + 4 * k) then mfo A p k ||| jbit (p + 4 * k) else mfo A p k
abbrev mall (A : Nat → Int32) (p : Nat) : Prop := A p = 2 ∧ A (p + 4) = 2 ∧ A (p + 8) = 2 ∧ A (p + 12) = 2
abbrev mcome (A : Nat → Int32) : Prop := A 66 = 1
def mis (A : Nat → Int32) : Nat → Bool
  | 0 => decide (mcome A ∧ ¬ A 67 < 6)
  | k + 1 => mis A k || decide (mall A k)
def msom (A : Nat → Int32) : Nat → Bool
  | 0 => false
  | k + 1 => msom A k || decide (¬ mfo A k 4 = 0)
abbrev mover (A : Nat → Int32) : Prop := mis A 4 = true ∨ msom A 4 = false
def mnxt (c : Prop) [Decidable c] (q : (Nat → Int32) × Nat) : (Nat → Int32) × Nat := if q.2 < 3 then (q.1, q.2 + 1) else (upd q.1 67 (q.1 67 + (if c ∧ mcome q.1 then 1 else 0)), 0)
def mpas (c : Prop) [Decidable c] : Nat → (Nat → Int32) × Nat → (Nat → Int32) × Nat
  | 0, q => q
  | n + 1, q => if mfo q.1 q.2 4 = 0 then mpas c n (mnxt c q) else q
def mpsO (c : Prop) [Decidable c] (A : Nat → Int32) (t : Nat) : Nat → Int32 := upd (mpas c 3 (A, t)).1 64 (nI (mpas c 3 (A, t)).2)
/-- goOn: turns gone, TIME come -/
def mgo1 (A : Nat → Int32) (ti : Int32) : Nat → Int32 := if (A 65 + 1) < ti then upd A 65 (A 65 + 1) else upd (upd A 65 (A 65 + 1)) 66 1
def mgo (A : Nat → Int32) (ti : Int32) (t : Nat) (b : Prop) [Decidable b] : Nat → Int32 := if b then mpsO (¬ (1 : Int32) = 0) (mgo1 A ti) t else mpsO (¬ (1 : Int32) = 0) (mnxt (¬ (1 : Int32) = 0) (mgo1 A ti, t)).1 (mnxt (¬ (1 : Int32) = 0) (mgo1 A ti, t)).2
def mclr (A : Nat → Int32) : Nat → Int32 := upd (upd (upd (upd (upd (jfil (fun _ => 0) A 16) 64 0) 65 0) 66 0) 67 0) 68 0
def mpl3 (A : Nat → Int32) (d : Nat) (a b : Int32) : Nat → Int32 := upd (upd (upd A d 1) (16 + d) a) (32 + d) b
def mplc (A : Nat → Int32) (d : Nat) (a b : Int32) : Nat → Int32 := upd (upd (mpl3 A d a b) (48 + d) (mpl3 A d a b 68)) 68 (upd (mpl3 A d a b) (48 + d) (mpl3 A d a b 68) 68 + 1)
/-- the PILE, by steps -/
def mstp (A : Nat → Int32) (b : Int32) : Nat → Int32
  | 0 => b
  | k + 1 => mstp A b k ||| (if (b >>> (nI k &&& 31)) &&& 1 = 1 then mcvr A k ||| mcvd A k else 0)
def mitr (A : Nat → Int32) (b : Int32) : Nat → Int32
  | 0 => b
  | n + 1 => mstp A (mitr A b n) 16
theorem mnxt_lt {c : Prop} [Decidable c] {q : (Nat → Int32) × Nat} (h : q.2 < 4) : (mnxt c q).2 < 4 := by
  unfold mnxt; split
  · show q.2 + 1 < 4; omega
  · show 0 < 4; decide
theorem mpas_lt {c : Prop} [Decidable c] : ∀ (n : Nat) (q : (Nat → Int32) × Nat), q.2 < 4 → (mpas c n q).2 < 4
  | 0, q, h => h
  | n + 1, q, h => by
    unfold mpas; split
    · exact mpas_lt n _ (mnxt_lt h)
    · exact h
section MO
variable {l : Launch} {E : jE} {h : List va_E} {m km rm d : Nat} {bd ba bw : Int32} {o : Bool} {A P : Nat → Int32}
theorem c_X6_in {v lo hi : Int32} : jMd l E yX6_in cX6_in 3 (some .boolean) 0 [.int v, .int lo, .int hi] h (some (.int (jB01 (lo ≤ v ∧ v ≤ hi)))) h 0 0 := by
  refine jMd_of (by decide) (Nat.le_of_ble_eq_true rfl) (by simp [Value.category]) (by first | rfl | simp [jpB_len]) (fun x hx F T hm => ?_)
  refine jG_iload_n F dX6_in_0 rfl ?_
  refine jG_iload_n F dX6_in_1 rfl ?_
  refine jG_icmp_lt F 14 dX6_in_2 (by decide) (fun q0 => ?_) (fun q0 => ?_)
  · refine jG_iconst F (v := (0 : Int32)) dX6_in_14 (by decide) ?_
    exact jG_iret F T (by clear T F; simp only [jB01, Int32.lt_iff_toInt_lt, Int32.le_iff_toInt_le, Int32.reduceToInt] at *; (repeat' split) <;> first | rfl | omega | (exfalso; omega)) rfl (by first | rfl | exact jnarb _ | (split <;> rfl)) dX6_in_15
  · refine jG_iload_n F dX6_in_5 rfl ?_
    refine jG_iload_n F dX6_in_6 rfl ?_
    refine jG_icmp_gt F 14 dX6_in_7 (by decide) (fun q1 => ?_) (fun q1 => ?_)
    · refine jG_iconst F (v := (0 : Int32)) dX6_in_14 (by decide) ?_
      exact jG_iret F T (by clear T F; simp only [jB01, Int32.lt_iff_toInt_lt, Int32.le_iff_toInt_le, Int32.reduceToInt] at *; (repeat' split) <;> first | rfl | omega | (exfalso; omega)) rfl (by first | rfl | exact jnarb _ | (split <;> rfl)) dX6_in_15
    · refine jG_iconst F (v := (1 : Int32)) dX6_in_10 (by decide) ?_
      refine jG_goto F 15 dX6_in_11 (by decide) ?_
      exact jG_iret F T (by clear T F; simp only [jB01, Int32.lt_iff_toInt_lt, Int32.le_iff_toInt_le, Int32.reduceToInt] at *; (repeat' split) <;> first | rfl | omega | (exfalso; omega)) rfl (by first | rfl | exact jnarb _ | (split <;> rfl)) dX6_in_15
theorem c_X6_size {v : Int32} : jMd l E yX6_size cX6_size 1 (some .int) 0 [.int v] h (some (.int (if v < 0 then -v else v))) h 0 0 := by
  refine jMd_of (by decide) (Nat.le_of_ble_eq_true rfl) (by simp [Value.category]) (by first | rfl | simp [jpB_len]) (fun x hx F T hm => ?_)
  refine jG_iload_n F dX6_size_0 rfl ?_
  refine jG_if_ge F 9 dX6_size_1 (by decide) (fun q0 => ?_) (fun q0 => ?_)
  · refine jG_iload_n F dX6_size_9 rfl ?_
    exact jG_iret F T (by clear T F; simp only [jB01, Int32.lt_iff_toInt_lt, Int32.le_iff_toInt_le, Int32.reduceToInt] at *; (repeat' split) <;> first | rfl | omega | (exfalso; omega)) rfl (by first | rfl | exact jnarb _ | (split <;> rfl)) dX6_size_10
  · refine jG_iload_n F dX6_size_4 rfl ?_
    refine jG_ineg F dX6_size_5 ?_
    refine jG_goto F 10 dX6_size_6 (by decide) ?_
    exact jG_iret F T (by clear T F; simp only [jB01, Int32.lt_iff_toInt_lt, Int32.le_iff_toInt_le, Int32.reduceToInt] at *; (repeat' split) <;> first | rfl | omega | (exfalso; omega)) rfl (by first | rfl | exact jnarb _ | (split <;> rfl)) dX6_size_10
theorem c_X6_sign {v : Int32} : jMd l E yX6_sign cX6_sign 1 (some .int) 0 [.int v] h (some (.int (jsgn v))) h 0 0 := by
  refine jMd_of (by decide) (Nat.le_of_ble_eq_true rfl) (by simp [Value.category]) (by first | rfl | simp [jpB_len]) (fun x hx F T hm => ?_)
  refine jG_iload_n F dX6_sign_0 rfl ?_
  refine jG_if_le F 8 dX6_sign_1 (by decide) (fun q0 => ?_) (fun q0 => ?_)
  · refine jG_iload_n F dX6_sign_8 rfl ?_
    refine jG_if_ge F 16 dX6_sign_9 (by decide) (fun q1 => ?_) (fun q1 => ?_)
    · refine jG_iconst F (v := (0 : Int32)) dX6_sign_16 (by decide) ?_
      exact jG_iret F T (by unfold jsgn; clear T F; simp only [Int32.lt_iff_toInt_lt, Int32.le_iff_toInt_le, Int32.reduceToInt] at *; (repeat' split) <;> first | rfl | omega | (exfalso; omega)) rfl (by first | rfl | exact jnarb _ | (split <;> rfl)) dX6_sign_17
    · refine jG_iconst F (v := (-1 : Int32)) dX6_sign_12 (by decide) ?_
      refine jG_goto F 17 dX6_sign_13 (by decide) ?_
      exact jG_iret F T (by unfold jsgn; clear T F; simp only [Int32.lt_iff_toInt_lt, Int32.le_iff_toInt_le, Int32.reduceToInt] at *; (repeat' split) <;> first | rfl | omega | (exfalso; omega)) rfl (by first | rfl | exact jnarb _ | (split <;> rfl)) dX6_sign_17
  · refine jG_iconst F (v := (1 : Int32)) dX6_sign_4 (by decide) ?_
    refine jG_goto F 17 dX6_sign_5 (by decide) ?_
    exact jG_iret F T (by unfold jsgn; clear T F; simp only [Int32.lt_iff_toInt_lt, Int32.le_iff_toInt_le, Int32.reduceToInt] at *; (repeat' split) <;> first | rfl | omega | (exfalso; omega)) rfl (by first | rfl | exact jnarb _ | (split <;> rfl)) dX6_sign_17
theorem c_X6_baseX {p : Nat} (hp : p < 4) : jMd l E yX6_baseX cX6_baseX 1 (some .int) 0 [.int (nI p)] h (some (.int (jtabX p))) h 0 0 := by
  refine jMd_of (by decide) (Nat.le_of_ble_eq_true rfl) (by simp [Value.category]) (by first | rfl | simp [jpB_len]) (fun x hx F T hm => ?_)
  rcases (show p = 0 ∨ p = 1 ∨ p = 2 ∨ p = 3 by omega) with rfl | rfl | rfl | rfl
  · refine jG_iload_n F dX6_baseX_0 rfl ?_
    refine jG_iconst F (v := (1 : Int32)) dX6_baseX_1 (by decide) ?_
    refine jG_icmp_eq F 10 dX6_baseX_2 (by decide) (fun q0 => ?_) (fun q0 => ?_)
    · refine jG_bipush F (v := (40 : Int32)) dX6_baseX_10 (by decide) ?_
      refine jG_goto F 16 dX6_baseX_12 (by decide) ?_
      exact jG_iret F T (by first | rfl | (exfalso; revert q0; decide) | (exfalso; revert q1; decide)) rfl (by first | rfl | exact jnarb _ | (split <;> rfl)) dX6_baseX_16
    · refine jG_iload_n F dX6_baseX_5 rfl ?_
      refine jG_iconst F (v := (2 : Int32)) dX6_baseX_6 (by decide) ?_
      refine jG_icmp_ne F 15 dX6_baseX_7 (by decide) (fun q1 => ?_) (fun q1 => ?_)
      · refine jG_iconst F (v := (0 : Int32)) dX6_baseX_15 (by decide) ?_
        exact jG_iret F T (by first | rfl | (exfalso; revert q0; decide) | (exfalso; revert q1; decide)) rfl (by first | rfl | exact jnarb _ | (split <;> rfl)) dX6_baseX_16
      · refine jG_bipush F (v := (40 : Int32)) dX6_baseX_10 (by decide) ?_
        refine jG_goto F 16 dX6_baseX_12 (by decide) ?_
        exact jG_iret F T (by first | rfl | (exfalso; revert q0; decide) | (exfalso; revert q1; decide)) rfl (by first | rfl | exact jnarb _ | (split <;> rfl)) dX6_baseX_16
  · refine jG_iload_n F dX6_baseX_0 rfl ?_
    refine jG_iconst F (v := (1 : Int32)) dX6_baseX_1 (by decide) ?_
    refine jG_icmp_eq F 10 dX6_baseX_2 (by decide) (fun q0 => ?_) (fun q0 => ?_)
    · refine jG_bipush F (v := (40 : Int32)) dX6_baseX_10 (by decide) ?_
      refine jG_goto F 16 dX6_baseX_12 (by decide) ?_
      exact jG_iret F T (by first | rfl | (exfalso; revert q0; decide) | (exfalso; revert q1; decide)) rfl (by first | rfl | exact jnarb _ | (split <;> rfl)) dX6_baseX_16
    · refine jG_iload_n F dX6_baseX_5 rfl ?_
      refine jG_iconst F (v := (2 : Int32)) dX6_baseX_6 (by decide) ?_
      refine jG_icmp_ne F 15 dX6_baseX_7 (by decide) (fun q1 => ?_) (fun q1 => ?_)
      · refine jG_iconst F (v := (0 : Int32)) dX6_baseX_15 (by decide) ?_
        exact jG_iret F T (by first | rfl | (exfalso; revert q0; decide) | (exfalso; revert q1; decide)) rfl (by first | rfl | exact jnarb _ | (split <;> rfl)) dX6_baseX_16
      · refine jG_bipush F (v := (40 : Int32)) dX6_baseX_10 (by decide) ?_
        refine jG_goto F 16 dX6_baseX_12 (by decide) ?_
        exact jG_iret F T (by first | rfl | (exfalso; revert q0; decide) | (exfalso; revert q1; decide)) rfl (by first | rfl | exact jnarb _ | (split <;> rfl)) dX6_baseX_16
  · refine jG_iload_n F dX6_baseX_0 rfl ?_
    refine jG_iconst F (v := (1 : Int32)) dX6_baseX_1 (by decide) ?_
    refine jG_icmp_eq F 10 dX6_baseX_2 (by decide) (fun q0 => ?_) (fun q0 => ?_)
    · refine jG_bipush F (v := (40 : Int32)) dX6_baseX_10 (by decide) ?_
      refine jG_goto F 16 dX6_baseX_12 (by decide) ?_
      exact jG_iret F T (by first | rfl | (exfalso; revert q0; decide) | (exfalso; revert q1; decide)) rfl (by first | rfl | exact jnarb _ | (split <;> rfl)) dX6_baseX_16
    · refine jG_iload_n F dX6_baseX_5 rfl ?_
      refine jG_iconst F (v := (2 : Int32)) dX6_baseX_6 (by decide) ?_
      refine jG_icmp_ne F 15 dX6_baseX_7 (by decide) (fun q1 => ?_) (fun q1 => ?_)
      · refine jG_iconst F (v := (0 : Int32)) dX6_baseX_15 (by decide) ?_
        exact jG_iret F T (by first | rfl | (exfalso; revert q0; decide) | (exfalso; revert q1; decide)) rfl (by first | rfl | exact jnarb _ | (split <;> rfl)) dX6_baseX_16
      · refine jG_bipush F (v := (40 : Int32)) dX6_baseX_10 (by decide) ?_
        refine jG_goto F 16 dX6_baseX_12 (by decide) ?_
        exact jG_iret F T (by first | rfl | (exfalso; revert q0; decide) | (exfalso; revert q1; decide)) rfl (by first | rfl | exact jnarb _ | (split <;> rfl)) dX6_baseX_16
  · refine jG_iload_n F dX6_baseX_0 rfl ?_
    refine jG_iconst F (v := (1 : Int32)) dX6_baseX_1 (by decide) ?_
    refine jG_icmp_eq F 10 dX6_baseX_2 (by decide) (fun q0 => ?_) (fun q0 => ?_)
    · refine jG_bipush F (v := (40 : Int32)) dX6_baseX_10 (by decide) ?_
      refine jG_goto F 16 dX6_baseX_12 (by decide) ?_
      exact jG_iret F T (by first | rfl | (exfalso; revert q0; decide) | (exfalso; revert q1; decide)) rfl (by first | rfl | exact jnarb _ | (split <;> rfl)) dX6_baseX_16
    · refine jG_iload_n F dX6_baseX_5 rfl ?_
      refine jG_iconst F (v := (2 : Int32)) dX6_baseX_6 (by decide) ?_
      refine jG_icmp_ne F 15 dX6_baseX_7 (by decide) (fun q1 => ?_) (fun q1 => ?_)
      · refine jG_iconst F (v := (0 : Int32)) dX6_baseX_15 (by decide) ?_
        exact jG_iret F T (by first | rfl | (exfalso; revert q0; decide) | (exfalso; revert q1; decide)) rfl (by first | rfl | exact jnarb _ | (split <;> rfl)) dX6_baseX_16
      · refine jG_bipush F (v := (40 : Int32)) dX6_baseX_10 (by decide) ?_
        refine jG_goto F 16 dX6_baseX_12 (by decide) ?_
        exact jG_iret F T (by first | rfl | (exfalso; revert q0; decide) | (exfalso; revert q1; decide)) rfl (by first | rfl | exact jnarb _ | (split <;> rfl)) dX6_baseX_16
theorem c_X6_baseY {p : Nat} (hp : p < 4) : jMd l E yX6_baseY cX6_baseY 1 (some .int) 0 [.int (nI p)] h (some (.int (jtabY p))) h 0 0 := by
  refine jMd_of (by decide) (Nat.le_of_ble_eq_true rfl) (by simp [Value.category]) (by first | rfl | simp [jpB_len]) (fun x hx F T hm => ?_)
  rcases (show p = 0 ∨ p = 1 ∨ p = 2 ∨ p = 3 by omega) with rfl | rfl | rfl | rfl
  · refine jG_iload_n F dX6_baseY_0 rfl ?_
    refine jG_iconst F (v := (2 : Int32)) dX6_baseY_1 (by decide) ?_
    refine jG_icmp_lt F 10 dX6_baseY_2 (by decide) (fun q0 => ?_) (fun q0 => ?_)
    · refine jG_iconst F (v := (0 : Int32)) dX6_baseY_10 (by decide) ?_
      exact jG_iret F T (by first | rfl | (exfalso; revert q0; decide)) rfl (by first | rfl | exact jnarb _ | (split <;> rfl)) dX6_baseY_11
    · refine jG_bipush F (v := (40 : Int32)) dX6_baseY_5 (by decide) ?_
      refine jG_goto F 11 dX6_baseY_7 (by decide) ?_
      exact jG_iret F T (by first | rfl | (exfalso; revert q0; decide)) rfl (by first | rfl | exact jnarb _ | (split <;> rfl)) dX6_baseY_11
  · refine jG_iload_n F dX6_baseY_0 rfl ?_
    refine jG_iconst F (v := (2 : Int32)) dX6_baseY_1 (by decide) ?_
    refine jG_icmp_lt F 10 dX6_baseY_2 (by decide) (fun q0 => ?_) (fun q0 => ?_)
    · refine jG_iconst F (v := (0 : Int32)) dX6_baseY_10 (by decide) ?_
      exact jG_iret F T (by first | rfl | (exfalso; revert q0; decide)) rfl (by first | rfl | exact jnarb _ | (split <;> rfl)) dX6_baseY_11
    · refine jG_bipush F (v := (40 : Int32)) dX6_baseY_5 (by decide) ?_
      refine jG_goto F 11 dX6_baseY_7 (by decide) ?_
      exact jG_iret F T (by first | rfl | (exfalso; revert q0; decide)) rfl (by first | rfl | exact jnarb _ | (split <;> rfl)) dX6_baseY_11
  · refine jG_iload_n F dX6_baseY_0 rfl ?_
    refine jG_iconst F (v := (2 : Int32)) dX6_baseY_1 (by decide) ?_
    refine jG_icmp_lt F 10 dX6_baseY_2 (by decide) (fun q0 => ?_) (fun q0 => ?_)
    · refine jG_iconst F (v := (0 : Int32)) dX6_baseY_10 (by decide) ?_
      exact jG_iret F T (by first | rfl | (exfalso; revert q0; decide)) rfl (by first | rfl | exact jnarb _ | (split <;> rfl)) dX6_baseY_11
    · refine jG_bipush F (v := (40 : Int32)) dX6_baseY_5 (by decide) ?_
      refine jG_goto F 11 dX6_baseY_7 (by decide) ?_
      exact jG_iret F T (by first | rfl | (exfalso; revert q0; decide)) rfl (by first | rfl | exact jnarb _ | (split <;> rfl)) dX6_baseY_11
  · refine jG_iload_n F dX6_baseY_0 rfl ?_
    refine jG_iconst F (v := (2 : Int32)) dX6_baseY_1 (by decide) ?_
    refine jG_icmp_lt F 10 dX6_baseY_2 (by decide) (fun q0 => ?_) (fun q0 => ?_)
    · refine jG_iconst F (v := (0 : Int32)) dX6_baseY_10 (by decide) ?_
      exact jG_iret F T (by first | rfl | (exfalso; revert q0; decide)) rfl (by first | rfl | exact jnarb _ | (split <;> rfl)) dX6_baseY_11
    · refine jG_bipush F (v := (40 : Int32)) dX6_baseY_5 (by decide) ?_
      refine jG_goto F 11 dX6_baseY_7 (by decide) ?_
      exact jG_iret F T (by first | rfl | (exfalso; revert q0; decide)) rfl (by first | rfl | exact jnarb _ | (split <;> rfl)) dX6_baseY_11
theorem c_X6_sizeOf {v : Int32} : jMd l E yX6_sizeOf cX6_sizeOf 1 (some .int) 0 [.int v] h (some (.int (jsz v))) h 0 0 := by
  refine jMd_of (by decide) (Nat.le_of_ble_eq_true rfl) (by simp [Value.category]) (by first | rfl | simp [jpB_len]) (fun x hx F T hm => ?_)
  refine jG_iload_n F dX6_sizeOf_0 rfl ?_
  refine jG_bipush F (v := (8 : Int32)) dX6_sizeOf_1 (by decide) ?_
  refine jG_icmp_ge F 10 dX6_sizeOf_3 (by decide) (fun q0 => ?_) (fun q0 => ?_)
  · refine jG_iconst F (v := (2 : Int32)) dX6_sizeOf_10 (by decide) ?_
    exact jG_iret F T (by unfold jsz; clear T F; simp only [Int32.lt_iff_toInt_lt, Int32.le_iff_toInt_le, Int32.reduceToInt] at *; (repeat' split) <;> first | rfl | omega | (exfalso; omega)) rfl (by first | rfl | exact jnarb _ | (split <;> rfl)) dX6_sizeOf_11
  · refine jG_iconst F (v := (1 : Int32)) dX6_sizeOf_6 (by decide) ?_
    refine jG_goto F 11 dX6_sizeOf_7 (by decide) ?_
    exact jG_iret F T (by unfold jsz; clear T F; simp only [Int32.lt_iff_toInt_lt, Int32.le_iff_toInt_le, Int32.reduceToInt] at *; (repeat' split) <;> first | rfl | omega | (exfalso; omega)) rfl (by first | rfl | exact jnarb _ | (split <;> rfl)) dX6_sizeOf_11
theorem c_X6_isOff {v : Int32} : jMd l E yX6_isOff cX6_isOff 1 (some .boolean) 0 [.int v] h (some (.int (jB01 (v < 0)))) h 0 0 := by
  refine jMd_of (by decide) (Nat.le_of_ble_eq_true rfl) (by simp [Value.category]) (by first | rfl | simp [jpB_len]) (fun x hx F T hm => ?_)
  refine jG_iload_n F dX6_isOff_0 rfl ?_
  refine jG_if_ge F 8 dX6_isOff_1 (by decide) (fun q0 => ?_) (fun q0 => ?_)
  · refine jG_iconst F (v := (0 : Int32)) dX6_isOff_8 (by decide) ?_
    exact jG_iret F T (by clear T F; simp only [jB01, Int32.lt_iff_toInt_lt, Int32.le_iff_toInt_le, Int32.reduceToInt] at *; (repeat' split) <;> first | rfl | omega | (exfalso; omega)) rfl (by first | rfl | exact jnarb _ | (split <;> rfl)) dX6_isOff_9
  · refine jG_iconst F (v := (1 : Int32)) dX6_isOff_4 (by decide) ?_
    refine jG_goto F 9 dX6_isOff_5 (by decide) ?_
    exact jG_iret F T (by clear T F; simp only [jB01, Int32.lt_iff_toInt_lt, Int32.le_iff_toInt_le, Int32.reduceToInt] at *; (repeat' split) <;> first | rfl | omega | (exfalso; omega)) rfl (by first | rfl | exact jnarb _ | (split <;> rfl)) dX6_isOff_9
theorem c_X6_isDisc {v : Int32} : jMd l E yX6_isDisc cX6_isDisc 1 (some .boolean) 1 [.int v] h (some (.int (jB01 (0 ≤ v ∧ v ≤ 15)))) h 0 0 := by
  refine jMd_of (by decide) (Nat.le_of_ble_eq_true rfl) (by simp [Value.category]) (by first | rfl | simp [jpB_len]) (fun x hx F T hm => ?_)
  refine jG_iload_n F dX6_isDisc_0 rfl ?_
  refine jG_iconst F (v := (0 : Int32)) dX6_isDisc_1 (by decide) ?_
  refine jG_bipush F (v := (15 : Int32)) dX6_isDisc_2 (by decide) ?_
  refine jc_X6_109 F dX6_isDisc_4 (c_X6_in) (by decide) (Nat.le_refl 0) (Nat.le_refl 0) (Nat.le_of_ble_eq_true rfl) ?_
  exact jG_iret F T (rfl) rfl (by first | rfl | exact jnarb _ | (split <;> rfl)) dX6_isDisc_7
theorem c_X6_isPlayer {v : Int32} : jMd l E yX6_isPlayer cX6_isPlayer 1 (some .boolean) 1 [.int v] h (some (.int (jB01 (0 ≤ v ∧ v ≤ 3)))) h 0 0 := by
  refine jMd_of (by decide) (Nat.le_of_ble_eq_true rfl) (by simp [Value.category]) (by first | rfl | simp [jpB_len]) (fun x hx F T hm => ?_)
  refine jG_iload_n F dX6_isPlayer_0 rfl ?_
  refine jG_iconst F (v := (0 : Int32)) dX6_isPlayer_1 (by decide) ?_
  refine jG_iconst F (v := (3 : Int32)) dX6_isPlayer_2 (by decide) ?_
  refine jc_X6_109 F dX6_isPlayer_3 (c_X6_in) (by decide) (Nat.le_refl 0) (Nat.le_refl 0) (Nat.le_of_ble_eq_true rfl) ?_
  exact jG_iret F T (rfl) rfl (by first | rfl | exact jnarb _ | (split <;> rfl)) dX6_isPlayer_6
theorem c_X6_isSpot {a b : Int32} : jMd l E yX6_isSpot cX6_isSpot 2 (some .boolean) 1 [.int a, .int b] h (some (.int (jB01 (jspot a b)))) h 0 0 := by
  refine jMd_of (by decide) (Nat.le_of_ble_eq_true rfl) (by simp [Value.category]) (by first | rfl | simp [jpB_len]) (fun x hx F T hm => ?_)
  refine jG_iload_n F dX6_isSpot_0 rfl ?_
  refine jG_iconst F (v := (0 : Int32)) dX6_isSpot_1 (by decide) ?_
  refine jG_bipush F (v := (40 : Int32)) dX6_isSpot_2 (by decide) ?_
  refine jc_X6_109 F dX6_isSpot_4 (c_X6_in) (by decide) (Nat.le_refl 0) (Nat.le_refl 0) (Nat.le_of_ble_eq_true rfl) ?_
  refine jG_if_eq F 24 dX6_isSpot_7 (by decide) (fun q0 => ?_) (fun q0 => ?_)
  · refine jG_iconst F (v := (0 : Int32)) dX6_isSpot_24 (by decide) ?_
    exact jG_iret F T (by first | exact (jB01_neg (fun q => jB01_eq (by assumption) q.1)).symm | exact (jB01_neg (fun q => jB01_eq (by assumption) q.2)).symm | exact (jB01_pos ⟨jB01_ne (by assumption), jB01_ne (by assumption)⟩).symm) rfl (by first | rfl | exact jnarb _ | (split <;> rfl)) dX6_isSpot_25
  · refine jG_iload_n F dX6_isSpot_10 rfl ?_
    refine jG_iconst F (v := (0 : Int32)) dX6_isSpot_11 (by decide) ?_
    refine jG_bipush F (v := (40 : Int32)) dX6_isSpot_12 (by decide) ?_
    refine jc_X6_109 F dX6_isSpot_14 (c_X6_in) (by decide) (Nat.le_refl 0) (Nat.le_refl 0) (Nat.le_of_ble_eq_true rfl) ?_
    refine jG_if_eq F 24 dX6_isSpot_17 (by decide) (fun q1 => ?_) (fun q1 => ?_)
    · refine jG_iconst F (v := (0 : Int32)) dX6_isSpot_24 (by decide) ?_
      exact jG_iret F T (by first | exact (jB01_neg (fun q => jB01_eq (by assumption) q.1)).symm | exact (jB01_neg (fun q => jB01_eq (by assumption) q.2)).symm | exact (jB01_pos ⟨jB01_ne (by assumption), jB01_ne (by assumption)⟩).symm) rfl (by first | rfl | exact jnarb _ | (split <;> rfl)) dX6_isSpot_25
    · refine jG_iconst F (v := (1 : Int32)) dX6_isSpot_20 (by decide) ?_
      refine jG_goto F 25 dX6_isSpot_21 (by decide) ?_
      exact jG_iret F T (by first | exact (jB01_neg (fun q => jB01_eq (by assumption) q.1)).symm | exact (jB01_neg (fun q => jB01_eq (by assumption) q.2)).symm | exact (jB01_pos ⟨jB01_ne (by assumption), jB01_ne (by assumption)⟩).symm) rfl (by first | rfl | exact jnarb _ | (split <;> rfl)) dX6_isSpot_25
theorem c_X6_isCup {a b : Int32} : jMd l E yX6_isCup cX6_isCup 2 (some .boolean) 0 [.int a, .int b] h (some (.int (jB01 (a = 41 ∧ b = 41)))) h 0 0 := by
  refine jMd_of (by decide) (Nat.le_of_ble_eq_true rfl) (by simp [Value.category]) (by first | rfl | simp [jpB_len]) (fun x hx F T hm => ?_)
  refine jG_iload_n F dX6_isCup_0 rfl ?_
  refine jG_bipush F (v := (41 : Int32)) dX6_isCup_1 (by decide) ?_
  refine jG_icmp_ne F 16 dX6_isCup_3 (by decide) (fun q0 => ?_) (fun q0 => ?_)
  · refine jG_iconst F (v := (0 : Int32)) dX6_isCup_16 (by decide) ?_
    exact jG_iret F T (by simp [jB01, *]) rfl (by first | rfl | exact jnarb _ | (split <;> rfl)) dX6_isCup_17
  · refine jG_iload_n F dX6_isCup_6 rfl ?_
    refine jG_bipush F (v := (41 : Int32)) dX6_isCup_7 (by decide) ?_
    refine jG_icmp_ne F 16 dX6_isCup_9 (by decide) (fun q1 => ?_) (fun q1 => ?_)
    · refine jG_iconst F (v := (0 : Int32)) dX6_isCup_16 (by decide) ?_
      exact jG_iret F T (by simp [jB01, *]) rfl (by first | rfl | exact jnarb _ | (split <;> rfl)) dX6_isCup_17
    · refine jG_iconst F (v := (1 : Int32)) dX6_isCup_12 (by decide) ?_
      refine jG_goto F 17 dX6_isCup_13 (by decide) ?_
      exact jG_iret F T (by simp [jB01, *]) rfl (by first | rfl | exact jnarb _ | (split <;> rfl)) dX6_isCup_17
theorem c_X6_isNowhere {a b : Int32} : jMd l E yX6_isNowhere cX6_isNowhere 2 (some .boolean) 0 [.int a, .int b] h (some (.int (jB01 (a = -1 ∧ b = -1)))) h 0 0 := by
  refine jMd_of (by decide) (Nat.le_of_ble_eq_true rfl) (by simp [Value.category]) (by first | rfl | simp [jpB_len]) (fun x hx F T hm => ?_)
  refine jG_iload_n F dX6_isNowhere_0 rfl ?_
  refine jG_iconst F (v := (-1 : Int32)) dX6_isNowhere_1 (by decide) ?_
  refine jG_icmp_ne F 14 dX6_isNowhere_2 (by decide) (fun q0 => ?_) (fun q0 => ?_)
  · refine jG_iconst F (v := (0 : Int32)) dX6_isNowhere_14 (by decide) ?_
    exact jG_iret F T (by simp [jB01, *]) rfl (by first | rfl | exact jnarb _ | (split <;> rfl)) dX6_isNowhere_15
  · refine jG_iload_n F dX6_isNowhere_5 rfl ?_
    refine jG_iconst F (v := (-1 : Int32)) dX6_isNowhere_6 (by decide) ?_
    refine jG_icmp_ne F 14 dX6_isNowhere_7 (by decide) (fun q1 => ?_) (fun q1 => ?_)
    · refine jG_iconst F (v := (0 : Int32)) dX6_isNowhere_14 (by decide) ?_
      exact jG_iret F T (by simp [jB01, *]) rfl (by first | rfl | exact jnarb _ | (split <;> rfl)) dX6_isNowhere_15
    · refine jG_iconst F (v := (1 : Int32)) dX6_isNowhere_10 (by decide) ?_
      refine jG_goto F 15 dX6_isNowhere_11 (by decide) ?_
      exact jG_iret F T (by simp [jB01, *]) rfl (by first | rfl | exact jnarb _ | (split <;> rfl)) dX6_isNowhere_15
def monm (v : Int32) : Int32 := if v < 0 then 0 else if 40 < v then 40 else v
theorem c_X6_onMat {v : Int32} : jMd l E yX6_onMat cX6_onMat 1 (some .int) 0 [.int v] h (some (.int (monm v))) h 0 0 := by
  refine jMd_of (by decide) (Nat.le_of_ble_eq_true rfl) (by simp [Value.category]) (by first | rfl | simp [jpB_len]) (fun x hx F T hm => ?_)
  refine jG_iload_n F dX6_onMat_0 rfl ?_
  refine jG_if_ge F 8 dX6_onMat_1 (by decide) (fun q0 => ?_) (fun q0 => ?_)
  · refine jG_iload_n F dX6_onMat_8 rfl ?_
    refine jG_bipush F (v := (40 : Int32)) dX6_onMat_9 (by decide) ?_
    refine jG_icmp_le F 19 dX6_onMat_11 (by decide) (fun q1 => ?_) (fun q1 => ?_)
    · refine jG_iload_n F dX6_onMat_19 rfl ?_
      exact jG_iret F T (by unfold monm; clear T F; simp only [Int32.lt_iff_toInt_lt, Int32.le_iff_toInt_le, Int32.reduceToInt] at *; (repeat' split) <;> first | rfl | omega | (exfalso; omega)) rfl (by first | rfl | exact jnarb _ | (split <;> rfl)) dX6_onMat_20
    · refine jG_bipush F (v := (40 : Int32)) dX6_onMat_14 (by decide) ?_
      refine jG_goto F 20 dX6_onMat_16 (by decide) ?_
      exact jG_iret F T (by unfold monm; clear T F; simp only [Int32.lt_iff_toInt_lt, Int32.le_iff_toInt_le, Int32.reduceToInt] at *; (repeat' split) <;> first | rfl | omega | (exfalso; omega)) rfl (by first | rfl | exact jnarb _ | (split <;> rfl)) dX6_onMat_20
  · refine jG_iconst F (v := (0 : Int32)) dX6_onMat_4 (by decide) ?_
    refine jG_goto F 20 dX6_onMat_5 (by decide) ?_
    exact jG_iret F T (by unfold monm; clear T F; simp only [Int32.lt_iff_toInt_lt, Int32.le_iff_toInt_le, Int32.reduceToInt] at *; (repeat' split) <;> first | rfl | omega | (exfalso; omega)) rfl (by first | rfl | exact jnarb _ | (split <;> rfl)) dX6_onMat_20
def mway (a b c e : Int32) : Int32 := if (if e - b < 0 then -(e - b) else e - b) < (if c - a < 0 then -(c - a) else c - a) then (if c - a < 0 then -(c - a) else c - a) else (if e - b < 0 then -(e - b) else e - b)
theorem c_X6_wayOf {a b c e : Int32} : jMd l E yX6_wayOf cX6_wayOf 6 (some .int) 1 [.int a, .int b, .int c, .int e] h (some (.int (mway a b c e))) h 0 0 := by
  refine jMd_of (by decide) (Nat.le_of_ble_eq_true rfl) (by simp [Value.category]) (by first | rfl | simp [jpB_len]) (fun x hx F T hm => ?_)
  refine jG_iload_n F dX6_wayOf_0 rfl ?_
  refine jG_iload_n F dX6_wayOf_1 rfl ?_
  refine jG_isub F dX6_wayOf_2 ?_
  refine jc_X6_140 F dX6_wayOf_3 (c_X6_size) (by decide) (Nat.le_refl 0) (Nat.le_refl 0) (Nat.le_of_ble_eq_true rfl) ?_
  refine jG_istore_4n F dX6_wayOf_6 (by decide) ?_
  refine jG_iload_n F dX6_wayOf_8 rfl ?_
  refine jG_iload_n F dX6_wayOf_9 rfl ?_
  refine jG_isub F dX6_wayOf_10 ?_
  refine jc_X6_140 F dX6_wayOf_11 (c_X6_size) (by decide) (Nat.le_refl 0) (Nat.le_refl 0) (Nat.le_of_ble_eq_true rfl) ?_
  refine jG_istore_5n F dX6_wayOf_14 (by decide) ?_
  refine jG_iload F dX6_wayOf_16 rfl ?_
  refine jG_iload F dX6_wayOf_18 rfl ?_
  refine jG_icmp_le F 28 dX6_wayOf_20 (by decide) (fun q0 => ?_) (fun q0 => ?_)
  · refine jG_iload F dX6_wayOf_28 rfl ?_
    exact jG_iret F T (by unfold mway; first | exact (if_neg (Int32.not_lt.mpr (by assumption))).symm | exact (if_pos (Int32.not_le.mp (by assumption))).symm) rfl (by first | rfl | exact jnarb _ | (split <;> rfl)) dX6_wayOf_30
  · refine jG_iload F dX6_wayOf_23 rfl ?_
    refine jG_goto F 30 dX6_wayOf_25 (by decide) ?_
    exact jG_iret F T (by unfold mway; first | exact (if_neg (Int32.not_lt.mpr (by assumption))).symm | exact (if_pos (Int32.not_le.mp (by assumption))).symm) rfl (by first | rfl | exact jnarb _ | (split <;> rfl)) dX6_wayOf_30
theorem c_X6_at {j : Int32} {k : Nat} (hm : h[m]? = some (jmo E m km (jio o) bd ba bw rm)) (hl : m + 8 < h.length) (hj : j = nI k) (hk : k < 128) : jMd l E yX6_at cX6_at 2 (some .int) 0 [.ref (E.1 + m), .int j] (jpO E h m o A P) (some (.int (A k))) (jpO E h m o A P) 0 0 := by
  refine jMd_of (by decide) (Nat.le_of_ble_eq_true rfl) (by simp [Value.category]) (by first | rfl | simp [jpO_len]) (fun x hx F T hmm => ?_)
  cases o
  · refine jG_aload_n F dX6_at_0 rfl ?_
    refine jg_X6_37 F dX6_at_1 (jpO_o hm) rfl ?_
    refine jG_if_eq F 16 dX6_at_4 (by decide) (fun _ => ?_) (fun qz => absurd rfl qz)
    refine jG_aload_n F dX6_at_16 rfl ?_
    refine jg_X6_7 F dX6_at_17 (jpO_o hm) rfl ?_
    refine jG_iload_n F dX6_at_20 rfl ?_
    refine jG_iald F dX6_at_21 (jpO_1 hl) hj hk (by decide) ?_
    exact jG_iret F T (rfl) rfl (by first | rfl | exact jnarb _ | (split <;> rfl)) dX6_at_22
  · refine jG_aload_n F dX6_at_0 rfl ?_
    refine jg_X6_37 F dX6_at_1 (jpO_o hm) rfl ?_
    refine jG_if_eq F 16 dX6_at_4 (by decide) (fun qz => absurd qz (by decide)) (fun _ => ?_)
    refine jG_aload_n F dX6_at_7 rfl ?_
    refine jg_X6_13 F dX6_at_8 (jpO_o hm) rfl ?_
    refine jG_iload_n F dX6_at_11 rfl ?_
    refine jG_iald F dX6_at_12 (jpO_2 hl) hj hk (by decide) ?_
    refine jG_goto F 22 dX6_at_13 (by decide) ?_
    exact jG_iret F T (rfl) rfl (by first | rfl | exact jnarb _ | (split <;> rfl)) dX6_at_22
theorem c_X6_lay {j v : Int32} {k : Nat} (hm : h[m]? = some (jmo E m km (jio o) bd ba bw rm)) (hl : m + 8 < h.length) (hj : j = nI k) (hk : k < 128) : jMd l E yX6_lay cX6_lay 3 none 0 [.ref (E.1 + m), .int j, .int v] (jpO E h m o A P) none (jpO E h m o (upd A k v) P) 0 0 := by
  refine jMd_of (by decide) (Nat.le_of_ble_eq_true rfl) (by simp [Value.category]) (by first | rfl | simp [jpO_len]) (fun x hx F T hmm => ?_)
  cases o
  · refine jG_aload_n F dX6_lay_0 rfl ?_
    refine jg_X6_37 F dX6_lay_1 (jpO_o hm) rfl ?_
    refine jG_if_eq F 17 dX6_lay_4 (by decide) (fun _ => ?_) (fun qz => absurd rfl qz)
    refine jG_aload_n F dX6_lay_17 rfl ?_
    refine jg_X6_7 F dX6_lay_18 (jpO_o hm) rfl ?_
    refine jG_iload_n F dX6_lay_21 rfl ?_
    refine jG_iload_n F dX6_lay_22 rfl ?_
    refine jG_iast F dX6_lay_23 (jpO_1 hl) hj hk (by decide) ?_
    exact jG_ret F T (jpO_st1) dX6_lay_24
  · refine jG_aload_n F dX6_lay_0 rfl ?_
    refine jg_X6_37 F dX6_lay_1 (jpO_o hm) rfl ?_
    refine jG_if_eq F 17 dX6_lay_4 (by decide) (fun qz => absurd qz (by decide)) (fun _ => ?_)
    refine jG_aload_n F dX6_lay_7 rfl ?_
    refine jg_X6_13 F dX6_lay_8 (jpO_o hm) rfl ?_
    refine jG_iload_n F dX6_lay_11 rfl ?_
    refine jG_iload_n F dX6_lay_12 rfl ?_
    refine jG_iast F dX6_lay_13 (jpO_2 hl) hj hk (by decide) ?_
    refine jG_goto F 24 dX6_lay_14 (by decide) ?_
    exact jG_ret F T (jpO_st2) dX6_lay_24
theorem c_X6_how (hm : h[m]? = some (jmo E m km (jio o) bd ba bw rm)) (hl : m + 8 < h.length) {j : Int32} (hj : j = nI d) (hd : d < 128) : jMd l E yX6_how cX6_how 2 (some .int) 1 [.ref (E.1 + m), .int j] (jpO E h m o A P) (some (.int (A d))) (jpO E h m o A P) 0 0 := by
  refine jMd_of (by decide) (Nat.le_of_ble_eq_true rfl) (by simp [Value.category]) (by first | rfl | simp [jpO_len]) (fun x hx F T hmm => ?_)
  refine jG_aload_n F dX6_how_0 rfl ?_
  refine jG_iload_n F dX6_how_1 rfl ?_
  refine jc_X6_41 F dX6_how_2 (c_X6_at hm hl hj hd) (jpO_o hm) (by decide) (Nat.le_refl 0) (Nat.le_refl 0) (Nat.le_of_ble_eq_true rfl) ?_
  exact jG_iret F T (rfl) rfl (by first | rfl | exact jnarb _ | (split <;> rfl)) dX6_how_5
theorem c_X6_turn (hm : h[m]? = some (jmo E m km (jio o) bd ba bw rm)) (hl : m + 8 < h.length) : jMd l E yX6_turn cX6_turn 1 (some .int) 1 [.ref (E.1 + m)] (jpO E h m o A P) (some (.int (A 64))) (jpO E h m o A P) 0 0 := by
  refine jMd_of (by decide) (Nat.le_of_ble_eq_true rfl) (by simp [Value.category]) (by first | rfl | simp [jpO_len]) (fun x hx F T hmm => ?_)
  refine jG_aload_n F dX6_turn_0 rfl ?_
  refine jG_bipush F (v := nI 64) dX6_turn_1 (by decide) ?_
  refine jc_X6_41 F dX6_turn_3 (c_X6_at hm hl rfl (by omega)) (jpO_o hm) (by decide) (Nat.le_refl 0) (Nat.le_refl 0) (Nat.le_of_ble_eq_true rfl) ?_
  exact jG_iret F T (rfl) rfl (by first | rfl | exact jnarb _ | (split <;> rfl)) dX6_turn_6
theorem c_X6_gone (hm : h[m]? = some (jmo E m km (jio o) bd ba bw rm)) (hl : m + 8 < h.length) : jMd l E yX6_gone cX6_gone 1 (some .int) 1 [.ref (E.1 + m)] (jpO E h m o A P) (some (.int (A 65))) (jpO E h m o A P) 0 0 := by
  refine jMd_of (by decide) (Nat.le_of_ble_eq_true rfl) (by simp [Value.category]) (by first | rfl | simp [jpO_len]) (fun x hx F T hmm => ?_)
  refine jG_aload_n F dX6_gone_0 rfl ?_
  refine jG_bipush F (v := nI 65) dX6_gone_1 (by decide) ?_
  refine jc_X6_41 F dX6_gone_3 (c_X6_at hm hl rfl (by omega)) (jpO_o hm) (by decide) (Nat.le_refl 0) (Nat.le_refl 0) (Nat.le_of_ble_eq_true rfl) ?_
  exact jG_iret F T (rfl) rfl (by first | rfl | exact jnarb _ | (split <;> rfl)) dX6_gone_6
theorem c_X6_isCome (hm : h[m]? = some (jmo E m km (jio o) bd ba bw rm)) (hl : m + 8 < h.length) : jMd l E yX6_isCome cX6_isCome 1 (some .boolean) 1 [.ref (E.1 + m)] (jpO E h m o A P) (some (.int (jB01 (mcome A)))) (jpO E h m o A P) 0 0 := by
  refine jMd_of (by decide) (Nat.le_of_ble_eq_true rfl) (by simp [Value.category]) (by first | rfl | simp [jpO_len]) (fun x hx F T hmm => ?_)
  refine jG_aload_n F dX6_isCome_0 rfl ?_
  refine jG_bipush F (v := nI 66) dX6_isCome_1 (by decide) ?_
  refine jc_X6_41 F dX6_isCome_3 (c_X6_at hm hl rfl (by omega)) (jpO_o hm) (by decide) (Nat.le_refl 0) (Nat.le_refl 0) (Nat.le_of_ble_eq_true rfl) ?_
  refine jG_iconst F (v := (1 : Int32)) dX6_isCome_6 (by decide) ?_
  refine jG_icmp_ne F 14 dX6_isCome_7 (by decide) (fun q0 => ?_) (fun q0 => ?_)
  · refine jG_iconst F (v := (0 : Int32)) dX6_isCome_14 (by decide) ?_
    exact jG_iret F T (by first | exact (jB01_neg (by assumption)).symm | exact (jB01_pos (by assumption)).symm) rfl (by first | rfl | exact jnarb _ | (split <;> rfl)) dX6_isCome_15
  · refine jG_iconst F (v := (1 : Int32)) dX6_isCome_10 (by decide) ?_
    refine jG_goto F 15 dX6_isCome_11 (by decide) ?_
    exact jG_iret F T (by first | exact (jB01_neg (by assumption)).symm | exact (jB01_pos (by assumption)).symm) rfl (by first | rfl | exact jnarb _ | (split <;> rfl)) dX6_isCome_15
theorem c_X6_xOf (hm : h[m]? = some (jmo E m km (jio o) bd ba bw rm)) (hl : m + 8 < h.length) (hd : d < 16) : jMd l E yX6_xOf cX6_xOf 2 (some .int) 2 [.ref (E.1 + m), .int (nI d)] (jpO E h m o A P) (some (.int (mX A d))) (jpO E h m o A P) 0 0 := by
  refine jMd_of (by decide) (Nat.le_of_ble_eq_true rfl) (by simp [Value.category]) (by first | rfl | simp [jpO_len]) (fun x hx F T hmm => ?_)
  have e4 : nI d - nI d / nI 4 * nI 4 = nI (d % 4) := pk_rem (by omega) (by decide) (by decide)
  refine jG_aload_n F dX6_xOf_0 rfl ?_
  refine jG_iload_n F dX6_xOf_1 rfl ?_
  refine jc_X6_45 F dX6_xOf_2 (c_X6_how hm hl rfl (by omega)) (jpO_o hm) (by decide) (Nat.le_refl 0) (Nat.le_refl 0) (Nat.le_of_ble_eq_true rfl) ?_
  refine jG_if_ne F 17 dX6_xOf_5 (by decide) (fun q => ?_) (fun q => ?_)
  · refine jG_aload_n F dX6_xOf_17 rfl ?_
    refine jG_iload_n F dX6_xOf_18 rfl ?_
    refine jc_X6_45 F dX6_xOf_19 (c_X6_how hm hl rfl (by omega)) (jpO_o hm) (by decide) (Nat.le_refl 0) (Nat.le_refl 0) (Nat.le_of_ble_eq_true rfl) ?_
    refine jG_iconst F (v := (2 : Int32)) dX6_xOf_22 (by decide) ?_
    refine jG_icmp_ne F 31 dX6_xOf_23 (by decide) (fun q2 => ?_) (fun q2 => ?_)
    · refine jG_aload_n F dX6_xOf_31 rfl ?_
      refine jG_bipush F (v := nI 16) dX6_xOf_32 (by decide) ?_
      refine jG_iload_n F dX6_xOf_34 rfl ?_
      refine jG_iadd F dX6_xOf_35 ?_
      refine jc_X6_41 F dX6_xOf_36 (c_X6_at hm hl (nI_add 16 d) (by omega)) (jpO_o hm) (by decide) (Nat.le_refl 0) (Nat.le_refl 0) (Nat.le_of_ble_eq_true rfl) ?_
      exact jG_iret F T (((if_neg q).trans (if_neg q2)).symm) rfl (by first | rfl | exact jnarb _ | (split <;> rfl)) dX6_xOf_39
    · refine jG_bipush F (v := (41 : Int32)) dX6_xOf_26 (by decide) ?_
      refine jG_goto F 39 dX6_xOf_28 (by decide) ?_
      exact jG_iret F T (((if_neg q).trans (if_pos q2)).symm) rfl (by first | rfl | exact jnarb _ | (split <;> rfl)) dX6_xOf_39
  · refine jG_iload_n F dX6_xOf_8 rfl ?_
    refine jG_iconst F (v := nI 4) dX6_xOf_9 (by decide) ?_
    refine jG_irem F dX6_xOf_10 (by decide) ?_
    refine jG_eq rfl (congrArg (fun z => [Value.int z]) e4) rfl ?_
    refine jc_X6_48 F dX6_xOf_11 (c_X6_baseX (p := d % 4) (by omega)) (by decide) (Nat.le_refl 0) (Nat.le_refl 0) (Nat.le_of_ble_eq_true rfl) ?_
    refine jG_goto F 39 dX6_xOf_14 (by decide) ?_
    exact jG_iret F T ((if_pos q).symm) rfl (by first | rfl | exact jnarb _ | (split <;> rfl)) dX6_xOf_39
theorem c_X6_yOf (hm : h[m]? = some (jmo E m km (jio o) bd ba bw rm)) (hl : m + 8 < h.length) (hd : d < 16) : jMd l E yX6_yOf cX6_yOf 2 (some .int) 2 [.ref (E.1 + m), .int (nI d)] (jpO E h m o A P) (some (.int (mY A d))) (jpO E h m o A P) 0 0 := by
  refine jMd_of (by decide) (Nat.le_of_ble_eq_true rfl) (by simp [Value.category]) (by first | rfl | simp [jpO_len]) (fun x hx F T hmm => ?_)
  have e4 : nI d - nI d / nI 4 * nI 4 = nI (d % 4) := pk_rem (by omega) (by decide) (by decide)
  refine jG_aload_n F dX6_yOf_0 rfl ?_
  refine jG_iload_n F dX6_yOf_1 rfl ?_
  refine jc_X6_45 F dX6_yOf_2 (c_X6_how hm hl rfl (by omega)) (jpO_o hm) (by decide) (Nat.le_refl 0) (Nat.le_refl 0) (Nat.le_of_ble_eq_true rfl) ?_
  refine jG_if_ne F 17 dX6_yOf_5 (by decide) (fun q => ?_) (fun q => ?_)
  · refine jG_aload_n F dX6_yOf_17 rfl ?_
    refine jG_iload_n F dX6_yOf_18 rfl ?_
    refine jc_X6_45 F dX6_yOf_19 (c_X6_how hm hl rfl (by omega)) (jpO_o hm) (by decide) (Nat.le_refl 0) (Nat.le_refl 0) (Nat.le_of_ble_eq_true rfl) ?_
    refine jG_iconst F (v := (2 : Int32)) dX6_yOf_22 (by decide) ?_
    refine jG_icmp_ne F 31 dX6_yOf_23 (by decide) (fun q2 => ?_) (fun q2 => ?_)
    · refine jG_aload_n F dX6_yOf_31 rfl ?_
      refine jG_bipush F (v := nI 32) dX6_yOf_32 (by decide) ?_
      refine jG_iload_n F dX6_yOf_34 rfl ?_
      refine jG_iadd F dX6_yOf_35 ?_
      refine jc_X6_41 F dX6_yOf_36 (c_X6_at hm hl (nI_add 32 d) (by omega)) (jpO_o hm) (by decide) (Nat.le_refl 0) (Nat.le_refl 0) (Nat.le_of_ble_eq_true rfl) ?_
      exact jG_iret F T (((if_neg q).trans (if_neg q2)).symm) rfl (by first | rfl | exact jnarb _ | (split <;> rfl)) dX6_yOf_39
    · refine jG_bipush F (v := (41 : Int32)) dX6_yOf_26 (by decide) ?_
      refine jG_goto F 39 dX6_yOf_28 (by decide) ?_
      exact jG_iret F T (((if_neg q).trans (if_pos q2)).symm) rfl (by first | rfl | exact jnarb _ | (split <;> rfl)) dX6_yOf_39
  · refine jG_iload_n F dX6_yOf_8 rfl ?_
    refine jG_iconst F (v := nI 4) dX6_yOf_9 (by decide) ?_
    refine jG_irem F dX6_yOf_10 (by decide) ?_
    refine jG_eq rfl (congrArg (fun z => [Value.int z]) e4) rfl ?_
    refine jc_X6_51 F dX6_yOf_11 (c_X6_baseY (p := d % 4) (by omega)) (by decide) (Nat.le_refl 0) (Nat.le_refl 0) (Nat.le_of_ble_eq_true rfl) ?_
    refine jG_goto F 39 dX6_yOf_14 (by decide) ?_
    exact jG_iret F T ((if_pos q).symm) rfl (by first | rfl | exact jnarb _ | (split <;> rfl)) dX6_yOf_39
theorem c_X6_clear (hm : h[m]? = some (jmo E m km (jio o) bd ba bw rm)) (hl : m + 8 < h.length) : jMd l E yX6_clear cX6_clear 2 none 1 [.ref (E.1 + m)] (jpO E h m o A P) none (jpO E h m o (mclr A) P) 0 0 := by
  refine jMd_of (by decide) (Nat.le_of_ble_eq_true rfl) (by simp [Value.category]) (by first | rfl | simp [jpO_len]) (fun x hx F T hmm => ?_)
  refine jG_iconst F (v := nI 0) dX6_clear_0 (by decide) ?_
  refine jG_istore_n_1n F dX6_clear_1 (by decide) ?_
  have loop : ∀ k, k ≤ 16 → jG E x 0 0 2 [.ref (E.1 + m), .int (nI k)] [] (jpO E h m o (jfil (fun _ => 0) A k) P) := by
    refine jup 16 _ ?_ ?_
    · refine jG_iload_n F dX6_clear_2 rfl ?_
      refine jG_bipush F (v := nI 16) dX6_clear_3 (by decide) ?_
      refine jG_icmp_ge F 20 dX6_clear_5 (by decide) (fun _ => ?_) (fun q => absurd (nI_le (Nat.le_refl 16) (by decide)) q)
      refine jG_aload_n F dX6_clear_20 rfl ?_
      refine jG_bipush F (v := nI 64) dX6_clear_21 (by decide) ?_
      refine jG_iconst F (v := (0 : Int32)) dX6_clear_23 (by decide) ?_
      refine jc_X6_54 F dX6_clear_24 (c_X6_lay hm hl rfl (by omega)) (jpO_o hm) (by decide) (Nat.le_refl 0) (Nat.le_refl 0) (Nat.le_of_ble_eq_true rfl) ?_
      refine jG_aload_n F dX6_clear_27 rfl ?_
      refine jG_bipush F (v := nI 65) dX6_clear_28 (by decide) ?_
      refine jG_iconst F (v := (0 : Int32)) dX6_clear_30 (by decide) ?_
      refine jc_X6_54 F dX6_clear_31 (c_X6_lay hm hl rfl (by omega)) (jpO_o hm) (by decide) (Nat.le_refl 0) (Nat.le_refl 0) (Nat.le_of_ble_eq_true rfl) ?_
      refine jG_aload_n F dX6_clear_34 rfl ?_
      refine jG_bipush F (v := nI 66) dX6_clear_35 (by decide) ?_
      refine jG_iconst F (v := (0 : Int32)) dX6_clear_37 (by decide) ?_
      refine jc_X6_54 F dX6_clear_38 (c_X6_lay hm hl rfl (by omega)) (jpO_o hm) (by decide) (Nat.le_refl 0) (Nat.le_refl 0) (Nat.le_of_ble_eq_true rfl) ?_
      refine jG_aload_n F dX6_clear_41 rfl ?_
      refine jG_bipush F (v := nI 67) dX6_clear_42 (by decide) ?_
      refine jG_iconst F (v := (0 : Int32)) dX6_clear_44 (by decide) ?_
      refine jc_X6_54 F dX6_clear_45 (c_X6_lay hm hl rfl (by omega)) (jpO_o hm) (by decide) (Nat.le_refl 0) (Nat.le_refl 0) (Nat.le_of_ble_eq_true rfl) ?_
      refine jG_aload_n F dX6_clear_48 rfl ?_
      refine jG_bipush F (v := nI 68) dX6_clear_49 (by decide) ?_
      refine jG_iconst F (v := (0 : Int32)) dX6_clear_51 (by decide) ?_
      refine jc_X6_54 F dX6_clear_52 (c_X6_lay hm hl rfl (by omega)) (jpO_o hm) (by decide) (Nat.le_refl 0) (Nat.le_refl 0) (Nat.le_of_ble_eq_true rfl) ?_
      exact jG_ret F T (rfl) dX6_clear_55
    · intro k hk ih
      refine jG_iload_n F dX6_clear_2 rfl ?_
      refine jG_bipush F (v := nI 16) dX6_clear_3 (by decide) ?_
      refine jG_icmp_ge F 20 dX6_clear_5 (by decide) (fun q => absurd q (nI_ge hk (by decide))) (fun _ => ?_)
      refine jG_aload_n F dX6_clear_8 rfl ?_
      refine jG_iload_n F dX6_clear_9 rfl ?_
      refine jG_iconst F (v := (0 : Int32)) dX6_clear_10 (by decide) ?_
      refine jc_X6_54 F dX6_clear_11 (c_X6_lay hm hl rfl (by omega)) (jpO_o hm) (by decide) (Nat.le_refl 0) (Nat.le_refl 0) (Nat.le_of_ble_eq_true rfl) ?_
      refine jG_iinc_1 F (w := nI (k + 1)) dX6_clear_14 (jinc k) (by decide) ?_
      refine jG_goto F 2 dX6_clear_17 (by decide) ?_
      refine jG_eq rfl rfl ?_ ih
      rw [jfil_s _ _ k rfl]
  refine jG_eq rfl rfl ?_ (loop 0 (by decide))
  rw [jfil_0]
theorem c_X6_place {a b : Int32} (hm : h[m]? = some (jmo E m km (jio o) bd ba bw rm)) (hl : m + 8 < h.length) (hd : d < 16) : jMd l E yX6_place cX6_place 4 none 1 [.ref (E.1 + m), .int (nI d), .int a, .int b] (jpO E h m o A P) none (jpO E h m o (mplc A d a b) P) 0 0 := by
  refine jMd_of (by decide) (Nat.le_of_ble_eq_true rfl) (by simp [Value.category]) (by first | rfl | simp [jpO_len]) (fun x hx F T hmm => ?_)
  refine jG_aload_n F dX6_place_0 rfl ?_
  refine jG_iload_n F dX6_place_1 rfl ?_
  refine jG_iconst F (v := (1 : Int32)) dX6_place_2 (by decide) ?_
  refine jc_X6_54 F dX6_place_3 (c_X6_lay hm hl rfl (by omega)) (jpO_o hm) (by decide) (Nat.le_refl 0) (Nat.le_refl 0) (Nat.le_of_ble_eq_true rfl) ?_
  refine jG_aload_n F dX6_place_6 rfl ?_
  refine jG_bipush F (v := nI 16) dX6_place_7 (by decide) ?_
  refine jG_iload_n F dX6_place_9 rfl ?_
  refine jG_iadd F dX6_place_10 ?_
  refine jG_iload_n F dX6_place_11 rfl ?_
  refine jc_X6_54 F dX6_place_12 (c_X6_lay hm hl (nI_add 16 d) (by omega)) (jpO_o hm) (by decide) (Nat.le_refl 0) (Nat.le_refl 0) (Nat.le_of_ble_eq_true rfl) ?_
  refine jG_aload_n F dX6_place_15 rfl ?_
  refine jG_bipush F (v := nI 32) dX6_place_16 (by decide) ?_
  refine jG_iload_n F dX6_place_18 rfl ?_
  refine jG_iadd F dX6_place_19 ?_
  refine jG_iload_n F dX6_place_20 rfl ?_
  refine jc_X6_54 F dX6_place_21 (c_X6_lay hm hl (nI_add 32 d) (by omega)) (jpO_o hm) (by decide) (Nat.le_refl 0) (Nat.le_refl 0) (Nat.le_of_ble_eq_true rfl) ?_
  refine jG_aload_n F dX6_place_24 rfl ?_
  refine jG_bipush F (v := nI 48) dX6_place_25 (by decide) ?_
  refine jG_iload_n F dX6_place_27 rfl ?_
  refine jG_iadd F dX6_place_28 ?_
  refine jG_aload_n F dX6_place_29 rfl ?_
  refine jG_bipush F (v := nI 68) dX6_place_30 (by decide) ?_
  refine jc_X6_41 F dX6_place_32 (c_X6_at hm hl rfl (by omega)) (jpO_o hm) (by decide) (Nat.le_refl 0) (Nat.le_refl 0) (Nat.le_of_ble_eq_true rfl) ?_
  refine jc_X6_54 F dX6_place_35 (c_X6_lay hm hl (nI_add 48 d) (by omega)) (jpO_o hm) (by decide) (Nat.le_refl 0) (Nat.le_refl 0) (Nat.le_of_ble_eq_true rfl) ?_
  refine jG_aload_n F dX6_place_38 rfl ?_
  refine jG_bipush F (v := nI 68) dX6_place_39 (by decide) ?_
  refine jG_aload_n F dX6_place_41 rfl ?_
  refine jG_bipush F (v := nI 68) dX6_place_42 (by decide) ?_
  refine jc_X6_41 F dX6_place_44 (c_X6_at hm hl rfl (by omega)) (jpO_o hm) (by decide) (Nat.le_refl 0) (Nat.le_refl 0) (Nat.le_of_ble_eq_true rfl) ?_
  refine jG_iconst F (v := (1 : Int32)) dX6_place_47 (by decide) ?_
  refine jG_iadd F dX6_place_48 ?_
  refine jc_X6_54 F dX6_place_49 (c_X6_lay hm hl rfl (by omega)) (jpO_o hm) (by decide) (Nat.le_refl 0) (Nat.le_refl 0) (Nat.le_of_ble_eq_true rfl) ?_
  exact jG_ret F T (rfl) dX6_place_52
end MO
