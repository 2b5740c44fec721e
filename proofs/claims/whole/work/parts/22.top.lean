/-! ===== the whole of a JumpDiscs: 41 cells ===== -/
abbrev jRT : Type := (Nat → Int32) × (Nat → Int32) × (Nat → Int32) × Nat × Int32 × Int32 × Int32 × jGT × jGT
abbrev jCT : Type := jGT × (Int32 × Int32 × Int32) × jRT × ((Nat → Int32) × (Nat → Int32) × (Nat → Int32)) × (jGT × jGT × jGT) × Nat
abbrev jGc (E : jE) (g : Nat) (G : jGT) (r : List va_E) : List va_E := jgo E g G.2.1 G.2.2.1 G.2.2.2.1 G.2.2.2.2.1 G.2.2.2.2.2.1 G.2.2.2.2.2.2.1 G.2.2.2.2.2.2.2 :: jbo E (g + 1) G.1.2.2.2.1 G.1.2.2.2.2.1 G.1.2.2.2.2.2 :: jar E 16 G.1.1 :: jar E 16 G.1.2.1 :: jar E 16 G.1.2.2.1 :: r
def jkf (E : jE) (k : Nat) : Option Nat := if k = 0 then some (E.1 + 26) else if k = 1 then some (E.1 + 31) else if k = 2 then some (E.1 + 36) else none
def jtop (E : jE) (C : jCT) (M : List va_E) : List va_E :=
  .inr (5, [.ref (E.1 + 1), .ref (E.1 + 6), .ref (E.1 + 7), .ref (E.1 + 21), .ref (E.1 + 25), .int (nI C.2.2.2.2.2)]) ::
  jGc E 1 C.1 (jao C.2.1.1 C.2.1.2.1 C.2.1.2.2 :: jro E 7 C.2.2.1.2.2.2.1 C.2.2.1.2.2.2.2.1 C.2.2.1.2.2.2.2.2.1 C.2.2.1.2.2.2.2.2.2.1 :: jar E 24 C.2.2.1.1 :: jar E 24 C.2.2.1.2.1 :: jar E 24 C.2.2.1.2.2.1 ::
  jGc E 11 C.2.2.1.2.2.2.2.2.2.2.1 (jGc E 16 C.2.2.1.2.2.2.2.2.2.2.2 (jso E 21 :: jar E 20 C.2.2.2.1.1 :: jar E 20 C.2.2.2.1.2.1 :: jar E 4 C.2.2.2.1.2.2 :: jgr E 3 (jkf E) ::
  jGc E 26 C.2.2.2.2.1.1 (jGc E 31 C.2.2.2.2.1.2.1 (jGc E 36 C.2.2.2.2.1.2.2 M)))))
section TP
variable {l : Launch} {E : jE} {C : jCT} {M : List va_E}
theorem jtop_len : (jtop E C M).length = 41 + M.length := by simp [jtop]; omega
theorem jtop_gt {n : Nat} (h : n < 41) : n < (jtop E C M).length := by rw [jtop_len]; omega
theorem jtop_N (G : jGT) : jpT E (jtop E C M) 1 G = jtop E (G, C.2) M := rfl
theorem jtop_A (q : Int32 × Int32 × Int32) : jpAq E (jtop E C M) 6 2 C.1.1.1 C.1.1.2.1 C.1.1.2.2.1 C.1.1.2.2.2.1 C.1.1.2.2.2.2.1 C.1.1.2.2.2.2.2 q = jtop E (C.1, q, C.2.2) M := rfl
theorem jtop_R (R : jRT) : jpF E (jtop E C M) 7 R.1 R.2.1 R.2.2.1 R.2.2.2.1 R.2.2.2.2.1 R.2.2.2.2.2.1 R.2.2.2.2.2.2.1 R.2.2.2.2.2.2.2.1 R.2.2.2.2.2.2.2.2 = jtop E (C.1, C.2.1, R, C.2.2.2) M := rfl
theorem jtop_S (s : (Nat → Int32) × (Nat → Int32) × (Nat → Int32)) : jpS E (jtop E C M) 21 s.1 s.2.1 s.2.2 = jtop E (C.1, C.2.1, C.2.2.1, s, C.2.2.2.2) M := rfl
theorem jtop_K0 (G : jGT) : jpT E (jtop E C M) 26 G = jtop E (C.1, C.2.1, C.2.2.1, C.2.2.2.1, (G, C.2.2.2.2.1.2), C.2.2.2.2.2) M := rfl
theorem jtop_K1 (G : jGT) : jpT E (jtop E C M) 31 G = jtop E (C.1, C.2.1, C.2.2.1, C.2.2.2.1, (C.2.2.2.2.1.1, G, C.2.2.2.2.1.2.2), C.2.2.2.2.2) M := rfl
theorem jtop_K2 (G : jGT) : jpT E (jtop E C M) 36 G = jtop E (C.1, C.2.1, C.2.2.1, C.2.2.2.1, (C.2.2.2.2.1.1, C.2.2.2.2.1.2.1, G), C.2.2.2.2.2) M := rfl
theorem jtop_B (B : jBT) : jpB E (jtop E C M) 2 B = jtop E ((B, C.1.2), C.2) M := rfl
theorem jtop_kc {n : Nat} : (jtop E C M).set 0 (.inr (5, [.ref (E.1 + 1), .ref (E.1 + 6), .ref (E.1 + 7), .ref (E.1 + 21), .ref (E.1 + 25), .int (nI C.2.2.2.2.2)].set 5 (.int (nI n)))) = jtop E (C.1, C.2.1, C.2.2.1, C.2.2.2.1, C.2.2.2.2.1, n) M := rfl
theorem jtop_se {w : Int64} : (jtop E C M).set 1 (.inr (2, [.ref (E.1 + (1 + 1)), .int C.1.2.1, .int C.1.2.2.1, .int C.1.2.2.2.1, .long C.1.2.2.2.2.1, .int (nI C.1.2.2.2.2.2.1), .int C.1.2.2.2.2.2.2.1, .int C.1.2.2.2.2.2.2.2].set 4 (.long w))) = jtop E ((C.1.1, C.1.2.1, C.1.2.2.1, C.1.2.2.2.1, w, C.1.2.2.2.2.2), C.2) M := rfl
/-- a contract over a heap that is the same -/
theorem jMd_eq {y : MethodName} {cc : ByteArray} {nL : Nat} {ret : Option FieldType} {d : Nat} {av : List Value} {h h2 : List va_E} {r r2 : Option Value} {k k2 : List va_E} {mc ms : Nat} (e1 : h = h2) (e2 : r = r2) (e3 : k = k2) (m : jMd l E y cc nL ret d av h r k mc ms) : jMd l E y cc nL ret d av h2 r2 k2 mc ms := by
  subst e1; subst e2; subst e3; exact m
theorem t_isOver : jMd l E yX2_isOver cX2_isOver 1 (some .boolean) 1 [.ref (E.1 + 1)] (jtop E C M) (some (.int (jB01 (jovr C.1.1.2.2.2.2.1 C.1.2.2.2.2.2.2.2)))) (jtop E C M) 0 0 :=
  jMd_eq (jtop_N C.1) rfl (jtop_N C.1) (c_X2_isOver (jtop_gt (by decide)))
theorem t_beginAnew : jMd l E yX2_beginAnew cX2_beginAnew 1 none 4 [.ref (E.1 + 1)] (jtop E C M) none (jtop E (jsta C.1 C.1.2.2.2.1, C.2) M) 0 0 :=
  jMd_eq (jtop_N C.1) rfl (jtop_N (jsta C.1 C.1.2.2.2.1)) (c_X2_beginAnew (jtop_gt (by decide)))
theorem t_changeRough {v : Int32} : jMd l E yX2_changeRough cX2_changeRough 3 (some .int) 0 [.ref (E.1 + 1), .int v] (jtop E C M) (some (.int C.1.2.1)) (jtop E ((C.1.1, v, C.1.2.2), C.2) M) 0 0 :=
  jMd_eq (jtop_N C.1) rfl (jtop_N (C.1.1, v, C.1.2.2)) (c_X2_changeRough (jtop_gt (by decide)))
theorem t_changeRun {v : Int32} : jMd l E yX2_changeRun cX2_changeRun 3 (some .int) 0 [.ref (E.1 + 1), .int v] (jtop E C M) (some (.int C.1.2.2.1)) (jtop E ((C.1.1, C.1.2.1, v, C.1.2.2.2), C.2) M) 0 0 :=
  jMd_eq (jtop_N C.1) rfl (jtop_N (C.1.1, C.1.2.1, v, C.1.2.2.2)) (c_X2_changeRun (jtop_gt (by decide)))
/-- TIME changed -/
def jctm (G : jGT) (v : Int32) : jGT :=
  if v < G.2.2.2.2.2.2.1 then G else if v ≤ G.2.2.2.2.2.2.1 then (G.1, G.2.1, G.2.2.1, v, G.2.2.2.2)
  else (G.1, G.2.1, G.2.2.1, v, G.2.2.2.2.1, (if jovr G.1.2.2.2.2.1 0 then G.2.2.2.2.2.1 else jskipT (jfree G.1.2.2.2.2.1 G.1.2.2.2.2.2) 4 G.2.2.2.2.2.1), G.2.2.2.2.2.2.1, 0)
theorem t_changeTime {v : Int32} (ht : C.1.2.2.2.2.2.1 < 4) : jMd l E yX2_changeTime cX2_changeTime 3 (some .int) 3 [.ref (E.1 + 1), .int v] (jtop E C M) (some (.int (if v < C.1.2.2.2.2.2.2.1 then -2 else C.1.2.2.2.1))) (jtop E (jctm C.1 v, C.2) M) 0 0 := by
  refine jMd_eq (jtop_N C.1) rfl (Eq.trans ?_ (jtop_N (jctm C.1 v))) (c_X2_changeTime (jtop_gt (by decide)) ht)
  by_cases c1 : v < C.1.2.2.2.2.2.2.1
  · rw [if_pos c1, show jctm C.1 v = C.1 from if_pos c1]
  · by_cases c2 : v ≤ C.1.2.2.2.2.2.2.1
    · rw [if_neg c1, if_pos c2, show jctm C.1 v = _ from (if_neg c1).trans (if_pos c2)]
    · rw [if_neg c1, if_neg c2, show jctm C.1 v = _ from (if_neg c1).trans (if_neg c2)]
theorem t_bring {d : Nat} {a b : Int32} (hd : d < 16) : jMd l E yX1_bring cX1_bring 5 none 2 [.ref (E.1 + 2), .int (nI d), .int a, .int b] (jtop E C M) none (jtop E ((jbringF C.1.1 d a b, C.1.2), C.2) M) 0 0 :=
  jMd_eq (jtop_B C.1.1) rfl (jtop_B (jbringF C.1.1 d a b)) (c_X1_bring (jtop_gt (by decide)) hd)
theorem t_passOver (ht : C.1.2.2.2.2.2.1 < 4) : jMd l E yX2_passOverWithoutRounds cX2_passOverWithoutRounds 2 none 2 [.ref (E.1 + 1)] (jtop E C M) none (jtop E ((C.1.1, C.1.2.1, C.1.2.2.1, C.1.2.2.2.1, C.1.2.2.2.2.1, (if jovr C.1.1.2.2.2.2.1 C.1.2.2.2.2.2.2.2 then C.1.2.2.2.2.2.1 else jskipT (jfree C.1.1.2.2.2.2.1 C.1.1.2.2.2.2.2) 4 C.1.2.2.2.2.2.1), C.1.2.2.2.2.2.2), C.2) M) 0 0 :=
  jMd_eq (jtop_N C.1) rfl (jtop_N (C.1.1, C.1.2.1, C.1.2.2.1, C.1.2.2.2.1, C.1.2.2.2.2.1, (if jovr C.1.1.2.2.2.2.1 C.1.2.2.2.2.2.2.2 then C.1.2.2.2.2.2.1 else jskipT (jfree C.1.1.2.2.2.2.1 C.1.1.2.2.2.2.2) 4 C.1.2.2.2.2.2.1), C.1.2.2.2.2.2.2)) (c_X2_passOverWithoutRounds (jtop_gt (by decide)) ht)
theorem t_isInCup {d : Nat} : jMd l E yX1_isInCup cX1_isInCup 2 (some .boolean) 0 [.ref (E.1 + 2), .int (nI d)] (jtop E C M) (some (.int (jB01 (jts C.1.1.2.2.2.2.1 d)))) (jtop E C M) 0 0 :=
  jMd_eq (jtop_B C.1.1) rfl (jtop_B C.1.1) (c_X1_isInCup (jtop_gt (by decide)))
theorem t_doesLie {d : Nat} : jMd l E yX1_doesLie cX1_doesLie 2 (some .boolean) 0 [.ref (E.1 + 2), .int (nI d)] (jtop E C M) (some (.int (jB01 (jts C.1.1.2.2.2.1 d)))) (jtop E C M) 0 0 :=
  jMd_eq (jtop_B C.1.1) rfl (jtop_B C.1.1) (c_X1_doesLie (jtop_gt (by decide)))
theorem t_isFree {d : Nat} : jMd l E yX1_isFree cX1_isFree 2 (some .boolean) 0 [.ref (E.1 + 2), .int (nI d)] (jtop E C M) (some (.int (jB01 ((C.1.1.2.2.2.2.1 ||| C.1.1.2.2.2.2.2) &&& jbit d = 0)))) (jtop E C M) 0 0 :=
  jMd_eq (jtop_B C.1.1) rfl (jtop_B C.1.1) (c_X1_isFree (jtop_gt (by decide)))
theorem t_coveredBy {d : Nat} : jMd l E yX1_coveredBy cX1_coveredBy 4 (some .int) 0 [.ref (E.1 + 2), .int (nI d)] (jtop E C M) (some (.int (jorI 0 (fun o => decide (jts (C.1.1.2.2.1 o) d)) 16))) (jtop E C M) 0 0 :=
  jMd_eq (jtop_B C.1.1) rfl (jtop_B C.1.1) (c_X1_coveredBy (jtop_gt (by decide)))
theorem t_pileOf {d : Nat} : jMd l E yX1_pileOf cX1_pileOf 4 (some .int) 1 [.ref (E.1 + 2), .int (nI d)] (jtop E C M) (some (.int (jpile C.1.1.2.2.1 C.1.1.2.2.2.1 d))) (jtop E C M) 0 0 :=
  jMd_eq (jtop_B C.1.1) rfl (jtop_B C.1.1) (c_X1_pileOf (jtop_gt (by decide)))
theorem t_freeOf {d : Nat} : jMd l E yX1_freeOf cX1_freeOf 2 (some .int) 0 [.ref (E.1 + 2), .int (nI d)] (jtop E C M) (some (.int (jfree C.1.1.2.2.2.2.1 C.1.1.2.2.2.2.2 d))) (jtop E C M) 0 0 :=
  jMd_eq (jtop_B C.1.1) rfl (jtop_B C.1.1) (c_X1_freeOf (jtop_gt (by decide)))
theorem t_scoreOf {d : Nat} : jMd l E yX1_scoreOf cX1_scoreOf 3 (some .int) 1 [.ref (E.1 + 2), .int (nI d)] (jtop E C M) (some (.int (jscore C.1.1.2.2.2.1 C.1.1.2.2.2.2.1 C.1.1.2.2.2.2.2 d))) (jtop E C M) 0 0 :=
  jMd_eq (jtop_B C.1.1) rfl (jtop_B C.1.1) (c_X1_scoreOf (jtop_gt (by decide)))
theorem t_isAllIn {d : Nat} : jMd l E yX1_isAllIn cX1_isAllIn 3 (some .boolean) 0 [.ref (E.1 + 2), .int (nI d)] (jtop E C M) (some (.int (jB01 (C.1.1.2.2.2.2.1 &&& ((4369 : Int32) <<< (nI d &&& 31)) = (4369 : Int32) <<< (nI d &&& 31))))) (jtop E C M) 0 0 :=
  jMd_eq (jtop_B C.1.1) rfl (jtop_B C.1.1) (c_X1_isAllIn (jtop_gt (by decide)))
theorem t_mayPlay {d : Nat} (hd : d < 16) (ht : C.1.2.2.2.2.2.1 < 4) : jMd l E yX2_mayPlay cX2_mayPlay 2 (some .boolean) 2 [.ref (E.1 + 1), .int (nI d)] (jtop E C M) (some (.int (jB01 (jmay C.1 d)))) (jtop E C M) 0 0 :=
  jMd_eq (jtop_N C.1) rfl (jtop_N C.1) (c_X2_mayPlay (jtop_gt (by decide)) hd ht)
/-- a SHOT -/
def jshq (G : jGT) (d : Nat) (a b : Int32) : Nat × Int32 := jendB (jshot (G.1.1, G.1.2.1, G.1.2.2.1, G.1.2.2.2.1, G.1.2.2.2.2.1, G.1.2.2.2.2.2) d a b G.2.1 G.2.2.1 G.2.2.2.2.1) G.2.2.2.1 (G.2.2.2.2.2.2.1 + 1) (jcup (jdx G.1.1 G.1.2.1 d a b G.2.1 G.2.2.2.2.1) (jdy G.1.1 G.1.2.1 d a b G.2.1 G.2.2.2.2.1)) (G.2.2.2.2.2.1, G.2.2.2.2.2.2.2)
def jshG (G : jGT) (d : Nat) (a b : Int32) : jGT := (jshot (G.1.1, G.1.2.1, G.1.2.2.1, G.1.2.2.2.1, G.1.2.2.2.2.1, G.1.2.2.2.2.2) d a b G.2.1 G.2.2.1 G.2.2.2.2.1, G.2.1, G.2.2.1, G.2.2.2.1, jseed (jseed G.2.2.2.2.1), (jshq G d a b).1, G.2.2.2.2.2.2.1 + 1, (jshq G d a b).2)
theorem jtop_q1 {B' : jBT} {q' : Nat × Int32} {s' : Int64} {g' : Int32} : jpq E (jtop E C M) 1 B' C.1.2.1 C.1.2.2.1 C.1.2.2.2.1 s' g' q' = jpT E (jtop E C M) 1 (B', C.1.2.1, C.1.2.2.1, C.1.2.2.2.1, s', q'.1, g', q'.2) := rfl
theorem t_playShot1 {d : Nat} {a b : Int32} {B' : jBT} {q' : Nat × Int32} {s' : Int64} {g' : Int32} (hB : jshot (C.1.1.1, C.1.1.2.1, C.1.1.2.2.1, C.1.1.2.2.2.1, C.1.1.2.2.2.2.1, C.1.1.2.2.2.2.2) d a b C.1.2.1 C.1.2.2.1 C.1.2.2.2.2.1 = B') (hq : jendB B' C.1.2.2.2.1 (C.1.2.2.2.2.2.2.1 + 1) (jcup (jdx C.1.1.1 C.1.1.2.1 d a b C.1.2.1 C.1.2.2.2.2.1) (jdy C.1.1.1 C.1.1.2.1 d a b C.1.2.1 C.1.2.2.2.2.1)) (C.1.2.2.2.2.2.1, C.1.2.2.2.2.2.2.2) = q') (hs' : jseed (jseed C.1.2.2.2.2.1) = s') (hg' : C.1.2.2.2.2.2.2.1 + 1 = g') (hd : d < 16) (ht : C.1.2.2.2.2.2.1 < 4) (hs : ¬ (2 * jspr C.1.1.1 C.1.1.2.1 d a b C.1.2.1 + 1).toInt64 = 0) : jMd l E yX2_playShot cX2_playShot 12 (some .boolean) 3 [.ref (E.1 + 1), .int (nI d), .int a, .int b] (jtop E C M) (some (.int (jB01 (jcup (jdx C.1.1.1 C.1.1.2.1 d a b C.1.2.1 C.1.2.2.2.2.1) (jdy C.1.1.1 C.1.1.2.1 d a b C.1.2.1 C.1.2.2.2.2.1))))) (jpT E (jtop E C M) 1 (B', C.1.2.1, C.1.2.2.1, C.1.2.2.2.1, s', q'.1, g', q'.2)) 0 0 := by
  have k := @c_X2_playShot l E (jtop E C M) 1 d C.1.1.1 C.1.1.2.1 C.1.1.2.2.1 C.1.1.2.2.2.1 C.1.1.2.2.2.2.1 C.1.1.2.2.2.2.2 C.1.2.1 C.1.2.2.1 C.1.2.2.2.1 C.1.2.2.2.2.2.2.1 C.1.2.2.2.2.2.2.2 C.1.2.2.2.2.1 C.1.2.2.2.2.2.1 a b (jtop_gt (by decide)) hd ht hs
  rw [hB, hq, hs', hg', jtop_q1] at k
  exact jMd_eq (jtop_N C.1) rfl rfl k
theorem jshG_e {d : Nat} {a b : Int32} {B' : jBT} {q' : Nat × Int32} {s' : Int64} {g' : Int32} (hB : jshot (C.1.1.1, C.1.1.2.1, C.1.1.2.2.1, C.1.1.2.2.2.1, C.1.1.2.2.2.2.1, C.1.1.2.2.2.2.2) d a b C.1.2.1 C.1.2.2.1 C.1.2.2.2.2.1 = B') (hq : jendB B' C.1.2.2.2.1 (C.1.2.2.2.2.2.2.1 + 1) (jcup (jdx C.1.1.1 C.1.1.2.1 d a b C.1.2.1 C.1.2.2.2.2.1) (jdy C.1.1.1 C.1.1.2.1 d a b C.1.2.1 C.1.2.2.2.2.1)) (C.1.2.2.2.2.2.1, C.1.2.2.2.2.2.2.2) = q') (hs' : jseed (jseed C.1.2.2.2.2.1) = s') (hg' : C.1.2.2.2.2.2.2.1 + 1 = g') : jshG C.1 d a b = (B', C.1.2.1, C.1.2.2.1, C.1.2.2.2.1, s', q'.1, g', q'.2) := by
  unfold jshG jshq
  rw [hB, hq, hs', hg']
theorem t_playShot {d : Nat} {a b : Int32} {G' : jGT} (hG : jshG C.1 d a b = G') (hd : d < 16) (ht : C.1.2.2.2.2.2.1 < 4) (hs : ¬ (2 * jspr C.1.1.1 C.1.1.2.1 d a b C.1.2.1 + 1).toInt64 = 0) : jMd l E yX2_playShot cX2_playShot 12 (some .boolean) 3 [.ref (E.1 + 1), .int (nI d), .int a, .int b] (jtop E C M) (some (.int (jB01 (jcup (jdx C.1.1.1 C.1.1.2.1 d a b C.1.2.1 C.1.2.2.2.2.1) (jdy C.1.1.1 C.1.1.2.1 d a b C.1.2.1 C.1.2.2.2.2.1))))) (jtop E (G', C.2) M) 0 0 := by
  generalize hB : jshot (C.1.1.1, C.1.1.2.1, C.1.1.2.2.1, C.1.1.2.2.2.1, C.1.1.2.2.2.2.1, C.1.1.2.2.2.2.2) d a b C.1.2.1 C.1.2.2.1 C.1.2.2.2.2.1 = B' 
  generalize hq : jendB B' C.1.2.2.2.1 (C.1.2.2.2.2.2.2.1 + 1) (jcup (jdx C.1.1.1 C.1.1.2.1 d a b C.1.2.1 C.1.2.2.2.2.1) (jdy C.1.1.1 C.1.1.2.1 d a b C.1.2.1 C.1.2.2.2.2.1)) (C.1.2.2.2.2.2.1, C.1.2.2.2.2.2.2.2) = q'
  generalize hs' : jseed (jseed C.1.2.2.2.2.1) = s'
  generalize hg' : C.1.2.2.2.2.2.2.1 + 1 = g'
  have e := hG.symm.trans (jshG_e hB hq hs' hg')
  rw [e]
  exact jMd_eq rfl rfl (jtop_N (C := C) (B', C.1.2.1, C.1.2.2.1, C.1.2.2.2.1, s', q'.1, g', q'.2)) (t_playShot1 hB hq hs' hg' hd ht hs)
/-- a PILE blown -/
def jblG (G : jGT) (pl : Int32) : jGT := (fun H : jGT => (H.1, H.2.1, H.2.2.1, H.2.2.2.1, (jblow pl G.1 G.2.2.2.2.1 16).2, H.2.2.2.2.2)) (jgon G (jblow pl G.1 G.2.2.2.2.1 16).1 False)
theorem t_blowApart {pl : Int32} (ht : C.1.2.2.2.2.2.1 < 4) : jMd l E yX2_blowApart cX2_blowApart 5 none 3 [.ref (E.1 + 1), .int pl] (jtop E C M) none (jtop E (jblG C.1 pl, C.2) M) 0 0 :=
  jMd_eq (jtop_N C.1) rfl (jtop_N (jblG C.1 pl)) (c_X2_blowApart (jtop_gt (by decide)) ht)
theorem t_roundsLeft : jMd l E yX2_roundsLeft cX2_roundsLeft 1 (some .int) 1 [.ref (E.1 + 1)] (jtop E C M) (some (.int (if C.1.2.2.2.1 ≤ C.1.2.2.2.2.2.2.1 then (if C.1.2.2.2.2.2.2.2 = 0 then 5 else 6 - C.1.2.2.2.2.2.2.2) else -4))) (jtop E C M) 0 0 :=
  jMd_eq (jtop_N C.1) rfl (jtop_N C.1) (c_X2_roundsLeft (jtop_gt (by decide)))
theorem t_playerBehind (ht : C.1.2.2.2.2.2.1 < 4) : jMd l E yX2_playerBehind cX2_playerBehind 3 (some .int) 1 [.ref (E.1 + 1)] (jtop E C M) (some (.int (nI (jskipT (jfree C.1.1.2.2.2.2.1 C.1.1.2.2.2.2.2) 4 ((C.1.2.2.2.2.2.1 + 1) % 4))))) (jtop E C M) 0 0 :=
  jMd_eq (jtop_N C.1) rfl (jtop_N C.1) (c_X2_playerBehind (jtop_gt (by decide)) ht)
theorem t_chanceOfP {d : Nat} (hd : d < 16) : jMd l E yX0_chanceOf cX0_chanceOf 4 (some .int) 3 [.ref (E.1 + 2), .int (nI d), .int (-1)] (jtop E C M) (some (.int (jchP C.1.1.1 C.1.1.2.1 d))) (jtop E C M) 0 0 :=
  jMd_eq (jtop_B C.1.1) rfl (jtop_B C.1.1) (c_X0_chanceOfP (jtop_gt (by decide)) hd)
theorem t_chanceOfD {d o : Nat} (hd : d < 16) (ho : o < 16) : jMd l E yX0_chanceOf cX0_chanceOf 4 (some .int) 3 [.ref (E.1 + 2), .int (nI d), .int (nI o)] (jtop E C M) (some (.int (jchD C.1.1.1 C.1.1.2.1 d o))) (jtop E C M) 0 0 :=
  jMd_eq (jtop_B C.1.1) rfl (jtop_B C.1.1) (c_X0_chanceOfD (jtop_gt (by decide)) hd ho)
/-- THE BEST SHOT of p, as the adviser holds it -/
abbrev jbst (C : jCT) (p : Nat) : Int32 × Int32 × Int32 := jwB C.1.1.1 C.1.1.2.1 C.1.1.2.2.1 C.1.1.2.2.2.1 C.1.1.2.2.2.2.1 C.1.1.2.2.2.2.2 p C.2.1 4
theorem t_worthOfBest {p : Nat} (hp : p < 4) : jMd l E yX0_worthOfBest cX0_worthOfBest 5 (some .int) 6 [.ref (E.1 + 6), .ref (E.1 + 2), .int (nI p)] (jtop E C M) (some (.int (jbst C p).2.2)) (jtop E (C.1, jbst C p, C.2.2) M) 0 0 :=
  jMd_eq (jtop_A C.2.1) rfl (jtop_A (jbst C p)) (c_X0_worthOfBest (jtop_gt (by decide)) (jtop_gt (by decide)) (by decide) hp)
abbrev jdn (ds : Nat → Int32) (i : Nat) : Nat := (ds i).toNatClampNeg
/-- the row's discs are discs -/
def jrok (R : jRT) : Prop := R.2.2.2.1 ≤ 24 ∧ ∀ i, i < R.2.2.2.1 → jdn R.1 i < 16 ∧ R.1 i = nI (jdn R.1 i)
def jradd (R : jRT) (a b c : Int32) : jRT := if R.2.2.2.1 < 24 then (upd R.1 R.2.2.2.1 a, upd R.2.1 R.2.2.2.1 b, upd R.2.2.1 R.2.2.2.1 c, R.2.2.2.1 + 1, R.2.2.2.2.1, R.2.2.2.2.2.1, -4, R.2.2.2.2.2.2.2) else R
theorem t_add {a b c : Int32} (hR : jrok C.2.2.1) : jMd l E yX3_add cX3_add 4 (some .int) 0 [.ref (E.1 + 7), .int a, .int b, .int c] (jtop E C M) (some (.int (if C.2.2.1.2.2.2.1 < 24 then nI (C.2.2.1.2.2.2.1 + 1) else -3))) (jtop E (C.1, C.2.1, jradd C.2.2.1 a b c, C.2.2.2) M) 0 0 := by
  refine jMd_eq (jtop_R C.2.2.1) rfl (Eq.trans ?_ (jtop_R (jradd C.2.2.1 a b c))) (c_X3_add (jtop_gt (by decide)) hR.1)
  unfold jradd
  split <;> rfl
theorem t_clear : jMd l E yX3_clear cX3_clear 2 (some .int) 0 [.ref (E.1 + 7)] (jtop E C M) (some (.int (nI C.2.2.1.2.2.2.1))) (jtop E (C.1, C.2.1, (C.2.2.1.1, C.2.2.1.2.1, C.2.2.1.2.2.1, 0, C.2.2.1.2.2.2.2.1, C.2.2.1.2.2.2.2.2.1, -4, C.2.2.1.2.2.2.2.2.2.2), C.2.2.2) M) 0 0 :=
  jMd_eq (jtop_R C.2.2.1) rfl (jtop_R (C.2.2.1.1, C.2.2.1.2.1, C.2.2.1.2.2.1, 0, C.2.2.1.2.2.2.2.1, C.2.2.1.2.2.2.2.2.1, -4, C.2.2.1.2.2.2.2.2.2.2)) (c_X3_clear (jtop_gt (by decide)))
/-- the whole ROW told from the start -/
abbrev jfwA (R : jRT) (t : Int32) : Int32 × jGT := jfw (jdn R.1) R.2.1 R.2.2.1 R.2.2.2.1 0 (jsta R.2.2.2.2.2.2.2.2 t)
theorem t_firstWrong {t : Int32} (hR : jrok C.2.2.1) : jMd l E yX3_firstWrong cX3_firstWrong 2 (some .int) 6 [.ref (E.1 + 7), .int t] (jtop E C M) (some (.int (jfwA C.2.2.1 t).1)) (jtop E (C.1, C.2.1, (C.2.2.1.1, C.2.2.1.2.1, C.2.2.1.2.2.1, C.2.2.1.2.2.2.1, C.2.2.1.2.2.2.2.1, C.2.2.1.2.2.2.2.2.1, C.2.2.1.2.2.2.2.2.2.1, C.2.2.1.2.2.2.2.2.2.2.1, (jfwA C.2.2.1 t).2), C.2.2.2) M) 0 0 :=
  jMd_eq (jtop_R C.2.2.1) rfl (jtop_R (C.2.2.1.1, C.2.2.1.2.1, C.2.2.1.2.2.1, C.2.2.1.2.2.2.1, C.2.2.1.2.2.2.2.1, C.2.2.1.2.2.2.2.2.1, C.2.2.1.2.2.2.2.2.2.1, C.2.2.1.2.2.2.2.2.2.2.1, (jfwA C.2.2.1 t).2)) (c_X3_firstWrong (dn := jdn C.2.2.1.1) (jtop_gt (by decide)) hR.1 hR.2)
theorem t_onlyGap (hR : jrok C.2.2.1) : jMd l E yX3_onlyGap cX3_onlyGap 3 (some .int) 0 [.ref (E.1 + 7)] (jtop E C M) (some (.int (jog C.2.2.1.2.1 C.2.2.1.2.2.2.1 0 (-4)))) (jtop E C M) 0 0 :=
  jMd_eq (jtop_R C.2.2.1) rfl (jtop_R C.2.2.1) (c_X3_onlyGap (jtop_gt (by decide)) hR.1)
/-- findPlaces -/
def jrfp (R : jRT) (gp : Nat) (t : Int32) : jRT :=
  if R.2.2.2.2.2.2.1 = t then R
  else if (jUp (jdn R.1) R.2.1 R.2.2.1 gp R.2.2.2.2.2.2.2.1 t).1 = -4 then (R.1, R.2.1, R.2.2.1, R.2.2.2.1, (jfpS (jdn R.1) R.2.1 R.2.2.1 R.2.2.2.1 gp (jUp (jdn R.1) R.2.1 R.2.2.1 gp R.2.2.2.2.2.2.2.1 t).2 R.2.2.2.2.2.2.2.2).1, (jfpS (jdn R.1) R.2.1 R.2.2.1 R.2.2.2.1 gp (jUp (jdn R.1) R.2.1 R.2.2.1 gp R.2.2.2.2.2.2.2.1 t).2 R.2.2.2.2.2.2.2.2).2.1, t, (jUp (jdn R.1) R.2.1 R.2.2.1 gp R.2.2.2.2.2.2.2.1 t).2, (jfpS (jdn R.1) R.2.1 R.2.2.1 R.2.2.2.1 gp (jUp (jdn R.1) R.2.1 R.2.2.1 gp R.2.2.2.2.2.2.2.1 t).2 R.2.2.2.2.2.2.2.2).2.2)
  else (R.1, R.2.1, R.2.2.1, R.2.2.2.1, 0, -4, t, (jUp (jdn R.1) R.2.1 R.2.2.1 gp R.2.2.2.2.2.2.2.1 t).2, R.2.2.2.2.2.2.2.2)
theorem t_findPlaces {gp : Nat} {t : Int32} (hR : jrok C.2.2.1) (hgp : gp < C.2.2.1.2.2.2.1) : jMd l E yX3_findPlaces cX3_findPlaces 6 none 6 [.ref (E.1 + 7), .int (nI gp), .int t] (jtop E C M) none (jtop E (C.1, C.2.1, jrfp C.2.2.1 gp t, C.2.2.2) M) 0 0 := by
  refine jMd_eq (jtop_R C.2.2.1) rfl (Eq.trans ?_ (jtop_R (jrfp C.2.2.1 gp t))) (c_X3_findPlaces (dn := jdn C.2.2.1.1) (jtop_gt (by decide)) hR.1 hgp hR.2)
  by_cases c1 : C.2.2.1.2.2.2.2.2.2.1 = t
  · rw [if_pos c1, show jrfp C.2.2.1 gp t = C.2.2.1 from if_pos c1]
  · by_cases c2 : (jUp (jdn C.2.2.1.1) C.2.2.1.2.1 C.2.2.1.2.2.1 gp C.2.2.1.2.2.2.2.2.2.2.1 t).1 = -4
    · rw [if_neg c1, if_pos c2, show jrfp C.2.2.1 gp t = _ from (if_neg c1).trans (if_pos c2)]
    · rw [if_neg c1, if_neg c2, show jrfp C.2.2.1 gp t = _ from (if_neg c1).trans (if_neg c2)]
def jsad (s : (Nat → Int32) × (Nat → Int32) × (Nat → Int32)) (p k : Nat) (of : Int32) : (Nat → Int32) × (Nat → Int32) × (Nat → Int32) := if s.2.2 p < 1000 then (upd s.1 (p * 5 + k) (s.1 (p * 5 + k) + 1), upd s.2.1 (p * 5 + k) (s.2.1 (p * 5 + k) + of), upd s.2.2 p (s.2.2 p + 1)) else s
theorem t_sadd {p k : Nat} {w of : Int32} (hp : p < 4) (hk : k < 5) (hkk : (if w / 8 < 4 then w / 8 else 4) = nI k) : jMd l E yX4_add cX4_add 5 (some .int) 1 [.ref (E.1 + 21), .int (nI p), .int w, .int of] (jtop E C M) (some (.int (if C.2.2.2.1.2.2 p < 1000 then C.2.2.2.1.2.2 p + 1 else -3))) (jtop E (C.1, C.2.1, C.2.2.1, jsad C.2.2.2.1 p k of, C.2.2.2.2) M) 0 0 := by
  refine jMd_eq (jtop_S C.2.2.2.1) rfl (Eq.trans ?_ (jtop_S (jsad C.2.2.2.1 p k of))) (c_X4_add (jtop_gt (by decide)) rfl hp hk hkk)
  unfold jsad
  split <;> rfl
def jtel (s : (Nat → Int32) × (Nat → Int32) × (Nat → Int32)) (i : Nat) (wh : Int32) : Int32 := if wh = 2 then s.1 i else if s.1 i = 0 ∨ jgcd 100 (s.2.1 i) (s.1 i) = 0 then -2 else if wh = 0 then s.2.1 i / jgcd 100 (s.2.1 i) (s.1 i) else s.1 i / jgcd 100 (s.2.1 i) (s.1 i)
theorem t_tell {p k : Nat} {wh : Int32} (hp : p < 4) (hk : k < 5) : jMd l E yX4_tell cX4_tell 7 (some .int) 1 [.ref (E.1 + 21), .int (nI p), .int (nI k), .int wh] (jtop E C M) (some (.int (jtel C.2.2.2.1 (p * 5 + k) wh))) (jtop E C M) 0 0 :=
  jMd_eq (jtop_S C.2.2.2.1) rfl (jtop_S C.2.2.2.1) (c_X4_tell (jtop_gt (by decide)) rfl hp hk)
end TP
