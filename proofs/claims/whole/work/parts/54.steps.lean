/-! ===== a call by both: the same answer, and the states side by side again ===== -/
def jStp (l : Launch) (N : Nat) (C : jCT) (Q : jMT) (y1 : MethodName) (c1 : ByteArray) (n1 d1 : Nat) (y2 : MethodName) (c2 : ByteArray) (n2 d2 : Nat) (as : List Value) : Prop :=
  ∃ (r : Int32) (C' : jCT) (Q' : jMT), jREL (N + 1) C' Q' ∧ (∀ (E : jE) (M : List va_E), jMd l E y1 c1 n1 (some .int) d1 (.ref (E.1 + 0) :: as) (jtop E C M) (some (.int r)) (jtop E C' M) 0 0) ∧ (∀ (E : jE) (B : List va_E), B.length = 41 → jMd l E y2 c2 n2 (some .int) d2 (.ref (E.1 + 41) :: as) (jmd E B Q) (some (.int r)) (jmd E B Q') 0 0)
theorem jStp.mk {l : Launch} {N : Nat} {C : jCT} {Q : jMT} {y1 : MethodName} {c1 : ByteArray} {n1 d1 : Nat} {y2 : MethodName} {c2 : ByteArray} {n2 d2 : Nat} {as : List Value} {r1 r2 : Int32} (C' : jCT) (Q' : jMT) (e : r1 = r2) (h : jREL (N + 1) C' Q')
    (m1 : ∀ (E : jE) (M : List va_E), jMd l E y1 c1 n1 (some .int) d1 (.ref (E.1 + 0) :: as) (jtop E C M) (some (.int r1)) (jtop E C' M) 0 0)
    (m2 : ∀ (E : jE) (B : List va_E), B.length = 41 → jMd l E y2 c2 n2 (some .int) d2 (.ref (E.1 + 41) :: as) (jmd E B Q) (some (.int r2)) (jmd E B Q') 0 0) : jStp l N C Q y1 c1 n1 d1 y2 c2 n2 d2 as := by
  subst e
  exact ⟨r1, C', Q', h, m1, m2⟩
section SP
variable {l : Launch} {N : Nat} {C : jCT} {Q : jMT}
theorem jdisc16 {a : Int32} (h : 0 ≤ a ∧ a ≤ 15) : ∃ k : Nat, k < 16 ∧ a = nI k := by
  obtain ⟨k, k1, k2⟩ := nI_of2 (M := 15) (n := 15) (by decide) (Int32.not_lt.mpr h.1) h.2
  exact ⟨k, by omega, k2⟩
theorem jplayer {a : Int32} (h : 0 ≤ a ∧ a ≤ 3) : ∃ k : Nat, k < 4 ∧ a = nI k := by
  obtain ⟨k, k1, k2⟩ := nI_of2 (M := 3) (n := 3) (by decide) (Int32.not_lt.mpr h.1) h.2
  exact ⟨k, by omega, k2⟩
theorem jREL.t4 (h : jREL N C Q) : C.1.2.2.2.2.2.1 < 4 := h.1.1.2.2.1.1
theorem jREL.t64 (h : jREL N C Q) : Q.2.2.2.1 64 = nI C.1.2.2.2.2.2.1 := h.1.1.2.2.1.2
theorem jREL.same (h : jREL N C Q) : jREL (N + 1) C Q := h.mono (Nat.le_succ N)
theorem s_anew (h : jREL N C Q) : jStp l N C Q yX5_anew cX5_anew 2 5 yX6_anew cX6_anew 2 2 [] :=
  jStp.mk (jsta C.1 C.1.2.2.2.1, C.2) (Q.1, Q.2.1, Q.2.2.1, mclr Q.2.2.2.1, Q.2.2.2.2) h.1.1.2.2.2.1.1 (h.game (Nat.le_succ N) (h.1.anew.mono (Nat.le_succ N))) (fun E M => c_X5_anew) (fun E B hB => c_X6_anew hB)
theorem s_rule (h : jREL N C Q) {w v : Int32} : jStp l N C Q yX5_rule cX5_rule 3 4 yX6_rule cX6_rule 6 8 [.int w, .int v] := by
  by_cases w0 : w = 0
  · subst w0
    by_cases hv : 0 ≤ v ∧ v ≤ 5
    · exact jStp.mk ((C.1.1, v, C.1.2.2), C.2) (Q.1, Q.2.1, Q.2.2.1, upd Q.2.2.2.1 69 v, Q.2.2.2.2) h.1.2.2.1.1 (h.game (Nat.le_succ N) ((h.1.rough hv).mono (Nat.le_succ N))) (fun E M => c_X5_rule0 hv) (fun E B hB => c_X6_rule0 hB hv)
    · exact jStp.mk C Q rfl h.same (fun E M => c_X5_rule0B hv) (fun E B hB => c_X6_rule0B hB hv)
  · by_cases w1 : w = 1
    · subst w1
      by_cases hv : 0 ≤ v ∧ v ≤ 5
      · exact jStp.mk ((C.1.1, C.1.2.1, v, C.1.2.2.2), C.2) (Q.1, Q.2.1, Q.2.2.1, upd Q.2.2.2.1 70 v, Q.2.2.2.2) h.1.2.2.2.1 (h.game (Nat.le_succ N) (h.1.run.mono (Nat.le_succ N))) (fun E M => c_X5_rule1 hv) (fun E B hB => c_X6_rule1 hB hv)
      · exact jStp.mk C Q rfl h.same (fun E M => c_X5_rule1B hv) (fun E B hB => c_X6_rule1B hB hv)
    · by_cases w2 : w = 2
      · subst w2
        by_cases hv : 10 ≤ v ∧ v ≤ 400
        · have eg : C.1.2.2.2.2.2.2.1 = Q.2.2.2.1 65 := h.1.1.2.2.2.1.1
          by_cases hg : v < Q.2.2.2.1 65
          · have z : v < C.1.2.2.2.2.2.2.1 := by rw [eg]; exact hg
            exact jStp.mk (jctm C.1 v, C.2) Q (if_pos z) (by rw [show jctm C.1 v = C.1 from if_pos z]; exact h.same) (fun E M => c_X5_rule2 hv h.t4) (fun E B hB => c_X6_rule2N hB hv hg)
          · have z : ¬ v < C.1.2.2.2.2.2.2.1 := by rw [eg]; exact hg
            obtain ⟨A', hA'⟩ : ∃ A', mtmA Q.2.2.2.1 v = A' := ⟨_, rfl⟩
            have k := h.1.time hv.1 hg
            rw [hA'] at k
            exact jStp.mk (jctm C.1 v, C.2) (Q.1, Q.2.1, Q.2.2.1, mpov A' C.1.2.2.2.2.2.1, Q.2.2.2.2) ((if_neg z).trans h.1.1.2.1) (h.game (Nat.le_succ N) (k.mono (Nat.le_succ N))) (fun E M => c_X5_rule2 hv h.t4) (fun E B hB => c_X6_rule2 hB hv hg h.t4 h.t64 hA')
        · exact jStp.mk C Q rfl h.same (fun E M => c_X5_rule2B hv) (fun E B hB => c_X6_rule2B hB hv)
      · exact jStp.mk C Q rfl h.same (fun E M => c_X5_ruleB w0 w1 w2) (fun E B hB => c_X6_ruleB hB w0 w1 w2)
theorem s_seed (h : jREL N C Q) {v : Int32} : jStp l N C Q yX5_seed cX5_seed 2 0 yX6_seed cX6_seed 2 1 [.int v] := by
  have M1 : (2147483647 : Int64) = lN 2147483647 := rfl
  by_cases hv : 1 ≤ v ∧ v ≤ 2147483646
  · have n1 : ¬ v < 1 := Int32.not_lt.mpr hv.1
    have n0 : ¬ v < 0 := fun z => n1 (Int32.lt_trans z (by decide))
    obtain ⟨s, s1, s2⟩ := nI_of2 (M := 2147483646) (n := 2147483646) (by decide) n0 hv.2
    have h2 : v.toInt64 < 2147483647 := by
      rw [s2, nI_l (by omega), M1]
      exact (pk_lLT (by omega) (by decide)).mpr (by omega)
    exact jStp.mk ((C.1.1, C.1.2.1, C.1.2.2.1, C.1.2.2.2.1, v.toInt64, C.1.2.2.2.2.2), C.2) (Q.1, Q.2.1, Q.2.2.1, upd Q.2.2.2.1 72 v, Q.2.2.2.2) rfl (h.game (Nat.le_succ N) ((h.1.seed (s := s) (by omega) s2).mono (Nat.le_succ N))) (fun E M => c_X5_seed n1 h2) (fun E B hB => c_X6_seed hB hv)
  · refine jStp.mk C Q rfl h.same (fun E M => c_X5_seedB ?_) (fun E B hB => c_X6_seedB hB hv)
    by_cases n1 : v < 1
    · exact Or.inl n1
    · refine Or.inr (fun z => hv ⟨Int32.not_lt.mp n1, ?_⟩)
      have n0 : ¬ v < 0 := fun z => n1 (Int32.lt_trans z (by decide))
      obtain ⟨s, s1, s2⟩ := nI_of n0
      rw [s2, nI_l s1, M1] at z
      have := (pk_lLT (by omega) (by decide)).mp z
      rw [s2]
      exact nI_le (b := 2147483646) (by omega) (by decide)
theorem s_put (h : jREL N C Q) (hN : N ≤ 900) {a b c : Int32} : jStp l N C Q yX5_put cX5_put 4 3 yX6_put cX6_put 4 8 [.int a, .int b, .int c] := by
  by_cases ha : 0 ≤ a ∧ a ≤ 15
  · by_cases hm : mmark b c
    · obtain ⟨k, hk, rfl⟩ := jdisc16 ha
      obtain ⟨B', hB'⟩ : ∃ B', jbringF C.1.1 k b c = B' := ⟨_, rfl⟩
      obtain ⟨A', hA'⟩ : ∃ A', mput Q.2.2.2.1 k b c = A' := ⟨_, rfl⟩
      have q := h.1.put (by omega) hk hm
      rw [hB', hA'] at q
      exact jStp.mk (jpuG C.1 B', C.2) (Q.1, Q.2.1, Q.2.2.1, mpov A' C.1.2.2.2.2.2.1, Q.2.2.2.2) rfl (h.game (Nat.le_succ N) q) (fun E M => c_X5_put hB' hk (jmark_iff.mpr hm) h.t4) (fun E B hB => c_X6_put hB hk hm h.t4 h.t64 hA')
    · exact jStp.mk C Q rfl h.same (fun E M => c_X5_putB (Or.inr (fun z => hm (jmark_iff.mp z)))) (fun E B hB => c_X6_putB hB (Or.inr hm))
  · exact jStp.mk C Q rfl h.same (fun E M => c_X5_putB (Or.inl ha)) (fun E B hB => c_X6_putB hB (Or.inl ha))
theorem s_about (h : jREL N C Q) {a w : Int32} : jStp l N C Q yX5_about cX5_about 4 2 yX6_about cX6_about 3 6 [.int a, .int w] := by
  by_cases ha : 0 ≤ a ∧ a ≤ 15
  · obtain ⟨k, hk, rfl⟩ := jdisc16 ha
    have hb := h.1.1.1
    by_cases w0 : w = 0
    · subst w0; exact jStp.mk C Q (jtell0 hb hk) h.same (fun E M => c_X5_about0 hk) (fun E B hB => c_X6_about0 hB hk)
    by_cases w1 : w = 1
    · subst w1; exact jStp.mk C Q (h.1.2.1 k hk).1 h.same (fun E M => c_X5_about1 hk) (fun E B hB => c_X6_about1 hB hk)
    by_cases w2 : w = 2
    · subst w2; exact jStp.mk C Q (h.1.2.1 k hk).2 h.same (fun E M => c_X5_about2 hk) (fun E B hB => c_X6_about2 hB hk)
    by_cases w3 : w = 3
    · subst w3; exact jStp.mk C Q (jtell3 hb hk) h.same (fun E M => c_X5_about3 hk) (fun E B hB => c_X6_about3 hB hk)
    by_cases w4 : w = 4
    · subst w4; exact jStp.mk C Q (jtell4 hb hk) h.same (fun E M => c_X5_about4 hk) (fun E B hB => c_X6_about4 hB hk)
    by_cases w5 : w = 5
    · subst w5; exact jStp.mk C Q (jtell5 hb hk) h.same (fun E M => c_X5_about5 hk) (fun E B hB => c_X6_about5 hB hk)
    by_cases w6 : w = 6
    · subst w6; exact jStp.mk C Q (jtell6 hb hk) h.same (fun E M => c_X5_about6 hk) (fun E B hB => c_X6_about6 hB hk (jbit_ne hk) (mfix hk))
    exact jStp.mk C Q rfl h.same (fun E M => c_X5_aboutD hk w0 w1 w2 w3 w4 w5 w6) (fun E B hB => c_X6_aboutD hB hk w0 w1 w2 w3 w4 w5 w6)
  · exact jStp.mk C Q rfl h.same (fun E M => c_X5_aboutB ha) (fun E B hB => c_X6_aboutB hB ha)
theorem s_shoot (h : jREL N C Q) (hN : N ≤ 900) {a b c : Int32} : jStp l N C Q yX5_shoot cX5_shoot 4 4 yX6_shoot cX6_shoot 12 9 [.int a, .int b, .int c] := by
  by_cases ha : 0 ≤ a ∧ a ≤ 15
  · by_cases hs : jspot b c
    · obtain ⟨d, hd, rfl⟩ := jdisc16 ha
      by_cases hm : mmay Q.2.2.2.1 d C.1.2.2.2.2.2.1
      · have jm := (h.1.1.may hd).mpr hm
        obtain ⟨k, s, k1, s1, s2, s3, k2, k3⟩ := jshot_n h.1 hd hs hm
        obtain ⟨A1, hA1⟩ : ∃ A1, upd Q.2.2.2.1 72 (mdr (Q.2.2.2.1 72)) = A1 := ⟨_, rfl⟩
        obtain ⟨A2, hA2⟩ : ∃ A2, upd A1 72 (mdr (A1 72)) = A2 := ⟨_, rfl⟩
        obtain ⟨dx, hdx⟩ : ∃ dx, b + (mdr (Q.2.2.2.1 72) - mdr (Q.2.2.2.1 72) / (2 * nI k + 1) * (2 * nI k + 1)) - nI k = dx := ⟨_, rfl⟩
        obtain ⟨dy, hdy⟩ : ∃ dy, c + (mdr (A1 72) - mdr (A1 72) / (2 * nI k + 1) * (2 * nI k + 1)) - nI k = dy := ⟨_, rfl⟩
        obtain ⟨A3, h3⟩ : ∃ A3, (if jcup dx dy then upd A2 d 2 else mplc A2 d (monm (dx + A2 70 * jsgn (b - mX Q.2.2.2.1 d))) (monm (dy + A2 70 * jsgn (c - mY Q.2.2.2.1 d)))) = A3 := ⟨_, rfl⟩
        obtain ⟨A4, h4⟩ : ∃ A4, (if jcup dx dy then mgo A3 (A3 71) C.1.2.2.2.2.2.1 (¬ (1 : Int32) = 0) else mgo A3 (A3 71) C.1.2.2.2.2.2.1 (¬ (0 : Int32) = 0)) = A4 := ⟨_, rfl⟩
        obtain ⟨G', hG'⟩ : ∃ G', jshG C.1 d b c = G' := ⟨_, rfl⟩
        have q := h.1.shot (cp := jcup dx dy) (by omega) hd hs hm k1 s1 s2 s3 k2 (by rw [hA1]; exact hA2) hdx (by rw [hA1]; exact hdy) Iff.rfl h3 h4
        rw [hG'] at q
        have n0 : ¬ 2 * nI k + 1 = 0 := by rw [jodd_n]; exact nI_ne0 (by omega) (by omega)
        have hz : ¬ (2 * jspr C.1.1.1 C.1.1.2.1 d b c C.1.2.1 + 1).toInt64 = 0 := by
          rw [k2, jodd_n, nI_l (by omega)]
          intro z
          have := (lN_eq (b := 0) (by omega) (by decide)).mp z
          omega
        have er : jB01 (jcup (jdx C.1.1.1 C.1.1.2.1 d b c C.1.2.1 C.1.2.2.2.2.1) (jdy C.1.1.1 C.1.1.2.1 d b c C.1.2.1 C.1.2.2.2.2.1)) = jB01 (jcup dx dy) := by
          by_cases y : jcup dx dy
          · rw [jB01_pos y, jB01_pos (q.2.2.mpr y)]
          · rw [jB01_neg y, jB01_neg (fun w => y (q.2.2.mp w))]
        exact jStp.mk (G', C.2) (Q.1, Q.2.1, Q.2.2.1, A4, Q.2.2.2.2) er (h.game (Nat.le_succ N) q.2.1) (fun E M => c_X5_shoot hG' hd hs h.t4 jm hz) (fun E B hB => c_X6_shoot hB hd hs h.t4 h.t64 hm hA1 hA2 k3 n0 hdx hdy Iff.rfl h3 q.1 h4)
      · exact jStp.mk C Q rfl h.same (fun E M => c_X5_shootN hd hs h.t4 (fun z => hm ((h.1.1.may hd).mp z))) (fun E B hB => c_X6_shootN hB hd hs h.t4 h.t64 hm)
    · exact jStp.mk C Q rfl h.same (fun E M => c_X5_shootB (Or.inr hs)) (fun E B hB => c_X6_shootB hB (Or.inr hs))
  · exact jStp.mk C Q rfl h.same (fun E M => c_X5_shootB (Or.inl ha)) (fun E B hB => c_X6_shootB hB (Or.inl ha))
theorem s_blow (h : jREL N C Q) (hN : N ≤ 900) {a : Int32} : jStp l N C Q yX5_blow cX5_blow 3 4 yX6_blow cX6_blow 6 9 [.int a] := by
  by_cases ha : 0 ≤ a ∧ a ≤ 15
  · obtain ⟨d, hd, rfl⟩ := jdisc16 ha
    obtain ⟨pl, hpl⟩ : ∃ pl, mpile Q.2.2.2.1 d = pl := ⟨_, rfl⟩
    have p16 : j16 pl := by rw [← hpl]; exact mpile_16 hd
    have hp1 : jpile C.1.1.2.2.1 C.1.1.2.2.2.1 d = pl := (jtell6 h.1.1.1 hd).trans hpl
    have tb := jtwo_bits p16
    by_cases hm : mmay Q.2.2.2.1 d C.1.2.2.2.2.2.1
    · have jm := (h.1.1.may hd).mpr hm
      by_cases h2 : pl &&& (pl - 1) = 0
      · exact jStp.mk C Q rfl h.same (fun E M => c_X5_blowN hd h.t4 (Or.inr (by rw [hp1]; exact tb.mpr h2))) (fun E B hB => c_X6_blowN hB hd h.t4 h.t64 hpl (jbit_ne hd) (mfix hd) (Or.inr h2))
      · obtain ⟨A2, hA2⟩ : ∃ A2, mbl Q.2.2.2.1 pl 16 = A2 := ⟨_, rfl⟩
        obtain ⟨A3, hA3⟩ : ∃ A3, mgo A2 (A2 71) C.1.2.2.2.2.2.1 (¬ (0 : Int32) = 0) = A3 := ⟨_, rfl⟩
        obtain ⟨G', hG'⟩ : ∃ G', jblG C.1 pl = G' := ⟨_, rfl⟩
        have q := h.1.blow (by omega) hd hm hA2
        rw [hG', hA3] at q
        exact jStp.mk (G', C.2) (Q.1, Q.2.1, Q.2.2.1, A3, Q.2.2.2.2) rfl (h.game (Nat.le_succ N) q) (fun E M => c_X5_blow hp1 hG' hd h.t4 jm (Int32.not_lt.mp (fun z => h2 (tb.mp z)))) (fun E B hB => c_X6_blow hB hd h.t4 h.t64 hpl (jbit_ne hd) (mfix hd) hm h2 hA2 hA3)
    · exact jStp.mk C Q rfl h.same (fun E M => c_X5_blowN hd h.t4 (Or.inl (fun z => hm ((h.1.1.may hd).mp z)))) (fun E B hB => c_X6_blowN hB hd h.t4 h.t64 hpl (jbit_ne hd) (mfix hd) (Or.inl hm))
  · exact jStp.mk C Q rfl h.same (fun E M => c_X5_blowB ha) (fun E B hB => c_X6_blowB hB ha)
theorem s_game (h : jREL N C Q) {w : Int32} : jStp l N C Q yX5_game cX5_game 3 2 yX6_game cX6_game 3 8 [.int w] := by
  have ho := h.1.1.ov
  have ec : ∀ {x y : Int32}, (if jovr C.1.1.2.2.2.2.1 C.1.2.2.2.2.2.2.2 then x else y) = (if mover Q.2.2.2.1 then x else y) := fun {x y} => by
    by_cases z : mover Q.2.2.2.1
    · rw [if_pos z, if_pos (ho.mpr z)]
    · rw [if_neg z, if_neg (fun y => z (ho.mp y))]
  by_cases w0 : w = 0
  · subst w0; exact jStp.mk C Q (by rw [ec, h.t64]) h.same (fun E M => c_X5_game0) (fun E B hB => c_X6_game0 hB)
  by_cases w1 : w = 1
  · subst w1; exact jStp.mk C Q h.1.1.2.2.2.1.1 h.same (fun E M => c_X5_game1) (fun E B hB => c_X6_game1 hB)
  by_cases w2 : w = 2
  · subst w2
    refine jStp.mk C Q ?_ h.same (fun E M => c_X5_game2) (fun E B hB => c_X6_game2 hB)
    have k := h.1.1.2.2.2.2.1
    rw [h.1.1.2.1, h.1.1.2.2.2.1.1, h.1.1.2.2.2.2.2.1.1]
    by_cases z : mcome Q.2.2.2.1
    · rw [if_pos z, if_pos (k.mp z)]
    · rw [if_neg z, if_neg (fun y => z (k.mpr y))]
  by_cases w3 : w = 3
  · subst w3; exact jStp.mk C Q ec h.same (fun E M => c_X5_game3) (fun E B hB => c_X6_game3 hB)
  by_cases w4 : w = 4
  · subst w4; exact jStp.mk C Q (by rw [ec, h.1.1.1.freeOf h.t4]) h.same (fun E M => c_X5_game4) (fun E B hB => c_X6_game4 hB h.t4 h.t64)
  exact jStp.mk C Q rfl h.same (fun E M => c_X5_gameD w0 w1 w2 w3 w4) (fun E B hB => c_X6_gameD hB w0 w1 w2 w3 w4)
theorem s_score (h : jREL N C Q) {a : Int32} : jStp l N C Q yX5_score cX5_score 2 2 yX6_score cX6_score 2 7 [.int a] := by
  by_cases ha : 0 ≤ a ∧ a ≤ 3
  · obtain ⟨p, hp, rfl⟩ := jplayer ha
    exact jStp.mk C Q (jscore_eq h.1.1.1 hp) h.same (fun E M => c_X5_score hp) (fun E B hB => c_X6_score hB hp)
  · exact jStp.mk C Q rfl h.same (fun E M => c_X5_scoreB ha) (fun E B hB => c_X6_scoreB hB ha)
theorem s_twelfths (h : jREL N C Q) {a : Int32} : jStp l N C Q yX5_twelfths cX5_twelfths 2 3 yX6_twelfths cX6_twelfths 2 9 [.int a] := by
  by_cases ha : 0 ≤ a ∧ a ≤ 3
  · obtain ⟨p, hp, rfl⟩ := jplayer ha
    exact jStp.mk C Q (jtwo_eq h.1.1.1 hp) h.same (fun E M => c_X5_twelfths hp) (fun E B hB => c_X6_twelfths hB hp)
  · exact jStp.mk C Q rfl h.same (fun E M => c_X5_twelfthsB ha) (fun E B hB => c_X6_twelfthsB hB ha)
theorem s_points (h : jREL N C Q) {a : Int32} : jStp l N C Q yX5_points cX5_points 5 3 yX6_points cX6_points 4 9 [.int a] := by
  by_cases ha : 0 ≤ a ∧ a ≤ 1
  · obtain ⟨p, hp, rfl⟩ := nI_of2 (M := 1) (n := 1) (by decide) (Int32.not_lt.mpr ha.1) ha.2
    exact jStp.mk C Q (jpts_eq h.1.1.1 (by omega) (fun p hp => jin_eq h.1.1.1 hp)) h.same (fun E M => c_X5_points (by omega)) (fun E B hB => c_X6_points hB (by omega))
  · exact jStp.mk C Q rfl h.same (fun E M => c_X5_pointsB (fun z => ha (by rw [z]; decide)) (fun z => ha (by rw [z]; decide))) (fun E B hB => c_X6_pointsB hB ha)
theorem jdisc1 {b : Int32} : (-1 ≤ b ∧ b ≤ 15) ↔ (b = -1 ∨ (0 ≤ b ∧ b ≤ 15)) := by
  have e1 : (-1 : Int32).toInt = -1 := by decide
  have e0 : (0 : Int32).toInt = 0 := by decide
  have e15 : (15 : Int32).toInt = 15 := by decide
  rw [← Int32.toInt_inj, Int32.le_iff_toInt_le, Int32.le_iff_toInt_le, Int32.le_iff_toInt_le, e1, e0, e15]
  omega
theorem s_chance (h : jREL N C Q) {a b : Int32} : jStp l N C Q yX5_chance cX5_chance 4 4 yX6_chance cX6_chance 3 4 [.int a, .int b] := by
  by_cases ha : 0 ≤ a ∧ a ≤ 15
  · obtain ⟨d, hd, rfl⟩ := jdisc16 ha
    by_cases b1 : b = -1
    · subst b1
      refine jStp.mk C Q ?_ h.same (fun E M => c_X5_chanceP hd) (fun E B hB => c_X6_chanceQ hB hd)
      rw [jchP_eq h.1.2.1 hd]
      by_cases z : Q.2.2.2.1 d = 2
      · rw [if_pos z, if_pos ((jcuT h.1.1.1 hd).mpr z)]
      · rw [if_neg z, if_neg (fun y => z ((jcuT h.1.1.1 hd).mp y))]
    · by_cases hb : 0 ≤ b ∧ b ≤ 15
      · obtain ⟨o, ho, rfl⟩ := jdisc16 hb
        refine jStp.mk C Q ?_ h.same (fun E M => c_X5_chanceD hd ho) (fun E B hB => c_X6_chanceR hB hd ho)
        rw [jchD_eq h.1.2.1 hd ho]
        have k : (jts C.1.1.2.2.2.2.1 d ∨ o = d ∨ ¬ jts C.1.1.2.2.2.1 o) ↔ (Q.2.2.2.1 d = 2 ∨ ¬ Q.2.2.2.1 o = 1 ∨ o = d) := by
          rw [jcuT h.1.1.1 hd, jlyT h.1.1.1 ho]
          constructor
          · rintro (z | z | z)
            · exact Or.inl z
            · exact Or.inr (Or.inr z)
            · exact Or.inr (Or.inl z)
          · rintro (z | z | z)
            · exact Or.inl z
            · exact Or.inr (Or.inr z)
            · exact Or.inr (Or.inl z)
        by_cases z : Q.2.2.2.1 d = 2 ∨ ¬ Q.2.2.2.1 o = 1 ∨ o = d
        · rw [if_pos z, if_pos (k.mpr z)]
        · rw [if_neg z, if_neg (fun y => z (k.mp y))]
      · exact jStp.mk C Q rfl h.same (fun E M => c_X5_chanceB (Or.inr ⟨b1, hb⟩)) (fun E B hB => c_X6_chanceB hB (Or.inr (fun z => (jdisc1.mp z).elim b1 hb)))
  · exact jStp.mk C Q rfl h.same (fun E M => c_X5_chanceB (Or.inl ha)) (fun E B hB => c_X6_chanceB hB (Or.inl ha))
end SP
