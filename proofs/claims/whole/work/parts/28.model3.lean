/-! ===== JumpDiscsModel: turns, piles, draws, scores, chances ===== -/
theorem mgo1_64 {A : Nat → Int32} {ti : Int32} : mgo1 A ti 64 = A 64 := by
  unfold mgo1; split <;> simp [upd]
theorem jsel_71 {o : Bool} {P A : Nat → Int32} {v : Int32} : jsel o P (upd A 65 v) 71 = jsel o P A 71 := by
  cases o <;> simp [jsel, upd]
def mdr (s : Int32) : Int32 := (s.toInt64 * 48271 - s.toInt64 * 48271 / 2147483647 * 2147483647).toInt32
def msc (A : Nat → Int32) (p : Nat) : Nat → Int32
  | 0 => 0
  | k + 1 => msc A p k + (if A (p + 4 * k) = 2 then 3 else if A (p + 4 * k) = 1 ∧ mfree A (p + 4 * k) then 1 else 0)
def mrk (A : Nat → Int32) (p : Nat) : Int32 := msc A p 4 + (if mall A p then 1000 else 0)
def mshr : Nat → Nat → Int32 → Int32
  | 0, _, s => s
  | n + 1, i, s => mshr n (i + 1) (s + jtabP i)
def mtwo (sc : Nat → Int32) (p : Nat) : Int32 := mshr (jali sc p 4) (jbet sc p 4) 0 / nI (jali sc p 4)
theorem jali_pos {sc : Nat → Int32} {p : Nat} : ∀ n, p < n → 0 < jali sc p n
  | 0, h => absurd h (Nat.not_lt_zero p)
  | n + 1, h => by
    unfold jali
    by_cases e : p = n
    · subst e; rw [if_pos rfl]; omega
    · have := jali_pos (sc := sc) n (show p < n by omega)
      split <;> omega
def mlt1 (c : Int32) : Int32 := if c < 1 then 1 else c
def mchP (A : Nat → Int32) (d : Nat) : Int32 := mlt1 (36 - mway (mX A d) (mY A d) 20 20)
def mchD (A : Nat → Int32) (d a : Nat) : Int32 := mlt1 (if jsz (nI d) = 1 then 36 - 2 * mway (mX A d) (mY A d) (mX A a) (mY A a) else 36 - mway (mX A d) (mY A d) (mX A a) (mY A a))
def mgaP (A : Nat → Int32) (d : Nat) : Int32 := if A d = 0 then 3 else 2
def mgaF (A : Nat → Int32) (d a : Nat) : Nat → Int32
  | 0 => if 6 < mway (mX A a) (mY A a) 20 20 then 1 else 2
  | k + 1 => mgaF A d a k + (if mcov A a k ∧ k % 2 = d % 2 then 1 else 0)
section MR
variable {l : Launch} {E : jE} {h : List va_E} {m km rm d : Nat} {bd ba bw : Int32} {o : Bool} {A P : Nat → Int32}
theorem c_X6_goOn {t : Nat} {b : Int32} (hm : h[m]? = some (jmo E m km (jio o) bd ba bw rm)) (hl : m + 8 < h.length) (ht : t < 4) (hA : A 64 = nI t) : jMd l E yX6_goOn cX6_goOn 2 none 8 [.ref (E.1 + m), .int b] (jpO E h m o A P) none (jpO E h m o (mgo A (jsel o P A 71) t (¬ b = 0)) P) 0 0 := by
  refine jMd_of (by decide) (Nat.le_of_ble_eq_true rfl) (by simp [Value.category]) (by first | rfl | simp [jpO_len]) (fun x hx F T hmm => ?_)
  have k2 : jG E x 0 0 33 [.ref (E.1 + m), .int b] [] (jpO E h m o (mgo1 A (jsel o P A 71)) P) := by
    have e64 : mgo1 A (jsel o P A 71) 64 = nI t := mgo1_64.trans hA
    generalize hg : mgo1 A (jsel o P A 71) = A2 at e64
    refine jG_aload_n F dX6_goOn_33 rfl ?_
    refine jG_iload_n F dX6_goOn_34 rfl ?_
    refine jG_if_eq F 45 dX6_goOn_35 (by decide) (fun q => ?_) (fun q => ?_)
    · rw [show mgo A (jsel o P A 71) t (¬ b = 0) = mpsO (¬ (1 : Int32) = 0) (mnxt (¬ (1 : Int32) = 0) (A2, t)).1 (mnxt (¬ (1 : Int32) = 0) (A2, t)).2 from by unfold mgo; rw [if_neg (fun z => z q), hg]] at T
      have hn4 : (mnxt (¬ (1 : Int32) = 0) (A2, t)).2 < 4 := mnxt_lt ht
      refine jG_aload_n F dX6_goOn_45 rfl ?_
      refine jG_aload_n F dX6_goOn_46 rfl ?_
      refine jc_X6_102 F dX6_goOn_47 (c_X6_turn hm hl) (jpO_o hm) (by decide) (Nat.le_refl 0) (Nat.le_refl 0) (Nat.le_of_ble_eq_true rfl) ?_
      refine jG_eq rfl (show _ = [Value.int (nI t), Value.ref (E.1 + m), Value.ref (E.1 + m)] by rw [e64]) rfl ?_
      refine jG_iconst F (v := (1 : Int32)) dX6_goOn_50 (by decide) ?_
      refine jc_X6_94 F dX6_goOn_51 (c_X6_next hm hl ht) (jpO_o hm) (by decide) (Nat.le_refl 0) (Nat.le_refl 0) (Nat.le_of_ble_eq_true rfl) ?_
      generalize mnxt (¬ (1 : Int32) = 0) (A2, t) = Q at T hn4 ⊢
      refine jG_iconst F (v := (1 : Int32)) dX6_goOn_54 (by decide) ?_
      refine jc_X6_105 F dX6_goOn_55 (c_X6_passOver hm hl hn4) (jpO_o hm) (by decide) (Nat.le_refl 0) (Nat.le_refl 0) (Nat.le_of_ble_eq_true rfl) ?_
      exact jG_ret F T (rfl) dX6_goOn_58
    · rw [show mgo A (jsel o P A 71) t (¬ b = 0) = mpsO (¬ (1 : Int32) = 0) A2 t from by unfold mgo; rw [if_pos q, hg]] at T
      refine jG_aload_n F dX6_goOn_38 rfl ?_
      refine jc_X6_102 F dX6_goOn_39 (c_X6_turn hm hl) (jpO_o hm) (by decide) (Nat.le_refl 0) (Nat.le_refl 0) (Nat.le_of_ble_eq_true rfl) ?_
      refine jG_eq rfl (show _ = [Value.int (nI t), Value.ref (E.1 + m)] by rw [e64]) rfl ?_
      refine jG_goto F 54 dX6_goOn_42 (by decide) ?_
      refine jG_iconst F (v := (1 : Int32)) dX6_goOn_54 (by decide) ?_
      refine jc_X6_105 F dX6_goOn_55 (c_X6_passOver hm hl ht) (jpO_o hm) (by decide) (Nat.le_refl 0) (Nat.le_refl 0) (Nat.le_of_ble_eq_true rfl) ?_
      exact jG_ret F T (rfl) dX6_goOn_58
  refine jG_aload_n F dX6_goOn_0 rfl ?_
  refine jG_bipush F (v := nI 65) dX6_goOn_1 (by decide) ?_
  refine jG_aload_n F dX6_goOn_3 rfl ?_
  refine jc_X6_98 F dX6_goOn_4 (c_X6_gone hm hl) (jpO_o hm) (by decide) (Nat.le_refl 0) (Nat.le_refl 0) (Nat.le_of_ble_eq_true rfl) ?_
  refine jG_iconst F (v := (1 : Int32)) dX6_goOn_7 (by decide) ?_
  refine jG_iadd F dX6_goOn_8 ?_
  refine jc_X6_54 F dX6_goOn_9 (c_X6_lay hm hl rfl (by omega)) (jpO_o hm) (by decide) (Nat.le_refl 0) (Nat.le_refl 0) (Nat.le_of_ble_eq_true rfl) ?_
  refine jG_aload_n F dX6_goOn_12 rfl ?_
  refine jc_X6_98 F dX6_goOn_13 (c_X6_gone hm hl) (jpO_o hm) (by decide) (Nat.le_refl 0) (Nat.le_refl 0) (Nat.le_of_ble_eq_true rfl) ?_
  refine jG_aload_n F dX6_goOn_16 rfl ?_
  refine jg_X6_7 F dX6_goOn_17 (jpO_o hm) rfl ?_
  refine jG_bipush F (v := nI 71) dX6_goOn_20 (by decide) ?_
  refine jG_iald F dX6_goOn_22 (jpO_1 hl) rfl (by omega) (by decide) ?_
  refine jG_icmp_lt F 33 dX6_goOn_23 (by decide) (fun q => ?_) (fun q => ?_)
  · refine jG_eq rfl rfl (show _ = jpO E h m o (mgo1 A (jsel o P A 71)) P from ?_) k2
    unfold mgo1
    rw [if_pos (show A 65 + 1 < jsel o P A 71 from by rw [jsel_71] at q; simpa [upd] using q)]
  · refine jG_aload_n F dX6_goOn_26 rfl ?_
    refine jG_bipush F (v := nI 66) dX6_goOn_27 (by decide) ?_
    refine jG_iconst F (v := (1 : Int32)) dX6_goOn_29 (by decide) ?_
    refine jc_X6_54 F dX6_goOn_30 (c_X6_lay hm hl rfl (by omega)) (jpO_o hm) (by decide) (Nat.le_refl 0) (Nat.le_refl 0) (Nat.le_of_ble_eq_true rfl) ?_
    refine jG_eq rfl rfl (show _ = jpO E h m o (mgo1 A (jsel o P A 71)) P from ?_) k2
    unfold mgo1
    rw [if_neg (show ¬ A 65 + 1 < jsel o P A 71 from by rw [jsel_71] at q; simpa [upd] using q)]
abbrev mmay (A : Nat → Int32) (d t : Nat) : Prop := ¬ mover A ∧ d % 4 = t ∧ mfree A d
theorem c_X6_mayShoot {t : Nat} (hm : h[m]? = some (jmo E m km (jio o) bd ba bw rm)) (hl : m + 8 < h.length) (ht : t < 4) (hA : A 64 = nI t) (hd : d < 16) : jMd l E yX6_mayShoot cX6_mayShoot 2 (some .boolean) 8 [.ref (E.1 + m), .int (nI d)] (jpO E h m o A P) (some (.int (jB01 (mmay A d t)))) (jpO E h m o A P) 0 0 := by
  refine jMd_of (by decide) (Nat.le_of_ble_eq_true rfl) (by simp [Value.category]) (by first | rfl | simp [jpO_len]) (fun x hx F T hmm => ?_)
  have e4 : nI d - nI d / nI 4 * nI 4 = nI (d % 4) := pk_rem (by omega) (by decide) (by decide)
  refine jG_aload_n F dX6_mayShoot_0 rfl ?_
  refine jc_X6_113 F dX6_mayShoot_1 (c_X6_isOver hm hl) (jpO_o hm) (by decide) (Nat.le_refl 0) (Nat.le_refl 0) (Nat.le_of_ble_eq_true rfl) ?_
  refine jG_if_ne F 29 dX6_mayShoot_4 (by decide) (fun q => ?_) (fun q => ?_)
  · have q := jB01_ne q
    refine jG_iconst F (v := (0 : Int32)) dX6_mayShoot_29 (by decide) ?_
    exact jG_iret F T ((jB01_neg (fun z => z.1 q)).symm) rfl (by first | rfl | exact jnarb _ | (split <;> rfl)) dX6_mayShoot_30
  · have q := jB01_eq q
    refine jG_iload_n F dX6_mayShoot_7 rfl ?_
    refine jG_iconst F (v := nI 4) dX6_mayShoot_8 (by decide) ?_
    refine jG_irem F dX6_mayShoot_9 (by decide) ?_
    refine jG_aload_n F dX6_mayShoot_10 rfl ?_
    refine jc_X6_102 F dX6_mayShoot_11 (c_X6_turn hm hl) (jpO_o hm) (by decide) (Nat.le_refl 0) (Nat.le_refl 0) (Nat.le_of_ble_eq_true rfl) ?_
    refine jG_icmp_ne F 29 dX6_mayShoot_14 (by decide) (fun q2 => ?_) (fun q2 => ?_)
    · have q2 : ¬ d % 4 = t := fun z => q2 (by rw [e4, hA, z])
      refine jG_iconst F (v := (0 : Int32)) dX6_mayShoot_29 (by decide) ?_
      exact jG_iret F T ((jB01_neg (fun z => q2 z.2.1)).symm) rfl (by first | rfl | exact jnarb _ | (split <;> rfl)) dX6_mayShoot_30
    · have q2 : d % 4 = t := (nI_eq (by omega) (by omega)).mp (e4.symm.trans (q2.trans hA))
      refine jG_aload_n F dX6_mayShoot_17 rfl ?_
      refine jG_iload_n F dX6_mayShoot_18 rfl ?_
      refine jc_X6_81 F dX6_mayShoot_19 (c_X6_isFree hm hl (by omega)) (jpO_o hm) (by decide) (Nat.le_refl 0) (Nat.le_refl 0) (Nat.le_of_ble_eq_true rfl) ?_
      refine jG_if_eq F 29 dX6_mayShoot_22 (by decide) (fun q3 => ?_) (fun q3 => ?_)
      · have q3 := jB01_eq q3
        refine jG_iconst F (v := (0 : Int32)) dX6_mayShoot_29 (by decide) ?_
        exact jG_iret F T ((jB01_neg (fun z => q3 z.2.2)).symm) rfl (by first | rfl | exact jnarb _ | (split <;> rfl)) dX6_mayShoot_30
      · have q3 := jB01_ne q3
        refine jG_iconst F (v := (1 : Int32)) dX6_mayShoot_25 (by decide) ?_
        refine jG_goto F 30 dX6_mayShoot_26 (by decide) ?_
        exact jG_iret F T ((jB01_pos ⟨q, q2, q3⟩).symm) rfl (by first | rfl | exact jnarb _ | (split <;> rfl)) dX6_mayShoot_30
theorem c_X6_pile (hm : h[m]? = some (jmo E m km (jio o) bd ba bw rm)) (hl : m + 8 < h.length) (hd : d < 16) (hb : ¬ jbit d = 0) (hfix : mstp A (mitr A (jbit d) 16) 16 = mitr A (jbit d) 16) : jMd l E yX6_pile cX6_pile 5 (some .int) 5 [.ref (E.1 + m), .int (nI d)] (jpO E h m o A P) (some (.int (if A d = 1 then mitr A (jbit d) 16 else 0))) (jpO E h m o A P) 0 0 := by
  refine jMd_of (by decide) (Nat.le_of_ble_eq_true rfl) (by simp [Value.category]) (by first | rfl | simp [jpO_len]) (fun x hx F T hmm => ?_)
  refine jG_aload_n F dX6_pile_0 rfl ?_
  refine jG_iload_n F dX6_pile_1 rfl ?_
  refine jc_X6_45 F dX6_pile_2 (c_X6_how hm hl rfl (by omega)) (jpO_o hm) (by decide) (Nat.le_refl 0) (Nat.le_refl 0) (Nat.le_of_ble_eq_true rfl) ?_
  refine jG_iconst F (v := (1 : Int32)) dX6_pile_5 (by decide) ?_
  refine jG_icmp_eq F 11 dX6_pile_6 (by decide) (fun q => ?_) (fun q => ?_)
  · rw [if_pos q] at T
    refine jG_iconst F (v := (1 : Int32)) dX6_pile_11 (by decide) ?_
    refine jG_iload_n F dX6_pile_12 rfl ?_
    refine jG_ishl F dX6_pile_13 ?_
    refine jG_istore_n_2n F dX6_pile_14 (by decide) ?_
    refine jG_iconst F (v := (0 : Int32)) dX6_pile_15 (by decide) ?_
    refine jG_istore_n_3n F dX6_pile_16 (by decide) ?_
    have fixn : ∀ (j i : Nat), mitr A (jbit d) (i + 1) = mitr A (jbit d) i → mitr A (jbit d) (i + j) = mitr A (jbit d) i := by
      intro j
      induction j with
      | zero => intro i _; rfl
      | succ j ihj =>
        intro i hi
        show mstp A (mitr A (jbit d) (i + j)) 16 = _
        rw [ihj i hi]; exact hi
    have loop : ∀ (n i : Nat) (bf : Int32) (r : List Value), i + n = 17 → (i = 0 ∧ bf = 0 ∨ ∃ j, i = j + 1 ∧ bf = mitr A (jbit d) j) → jG E x 0 0 17 (.ref (E.1 + m) :: .int (nI d) :: .int (mitr A (jbit d) i) :: .int bf :: r) [] (jpO E h m o A P) := by
      intro n
      induction n with
      | zero =>
        intro i bf r hi hbf
        have h17 : mitr A (jbit d) i = bf := by
          rcases hbf with ⟨h0, _⟩ | ⟨j, hj, hb2⟩
          · omega
          · have : j = 16 := by omega
            subst this; subst hj
            rw [hb2]; exact hfix
        have h18 : mitr A (jbit d) i = mitr A (jbit d) 16 := by
          have : i = 16 + 1 := by omega
          rw [this]; exact hfix
        refine jG_iload_n F dX6_pile_17 rfl ?_
        refine jG_iload_n F dX6_pile_18 rfl ?_
        refine jG_icmp_eq F 73 dX6_pile_19 (by decide) (fun _ => ?_) (fun qz => absurd h17 qz)
        refine jG_iload_n F dX6_pile_73 rfl ?_
        exact jG_iret F T (h18) rfl (by first | rfl | exact jnarb _ | (split <;> rfl)) dX6_pile_74
      | succ n ih =>
        intro i bf r hi hbf
        refine jG_take 4 ?_
        refine jG_iload_n F dX6_pile_17 rfl ?_
        refine jG_iload_n F dX6_pile_18 rfl ?_
        refine jG_icmp_eq F 73 dX6_pile_19 (by decide) (fun q2 => ?_) (fun q2 => ?_)
        · have h18 : mitr A (jbit d) i = mitr A (jbit d) 16 := by
            rcases hbf with ⟨h0, hb2⟩ | ⟨j, hj, hb2⟩
            · subst h0; rw [hb2] at q2; exact absurd q2 hb
            · subst hj
              rw [hb2] at q2
              have e1 := fixn (16 - j) j q2
              rw [show j + (16 - j) = 16 by omega] at e1
              rw [e1]; exact q2
          refine jG_iload_n F dX6_pile_73 rfl ?_
          exact jG_iret F T (h18) rfl (by first | rfl | exact jnarb _ | (split <;> rfl)) dX6_pile_74
        · refine jG_iload_n F dX6_pile_22 rfl ?_
          refine jG_istore_n_3e F dX6_pile_23 (by decide) ?_
          refine jG_iconst F (v := nI 0) dX6_pile_24 (by decide) ?_
          refine jG_istore_4n F dX6_pile_25 (by decide) ?_
          have inner : ∀ k, k ≤ 16 → jG E x 0 0 27 [.ref (E.1 + m), .int (nI d), .int (mstp A (mitr A (jbit d) i) k), .int (mitr A (jbit d) i), .int (nI k)] [] (jpO E h m o A P) := by
            refine jup 16 _ ?_ ?_
            · refine jG_iload F dX6_pile_27 rfl ?_
              refine jG_bipush F (v := nI 16) dX6_pile_29 (by decide) ?_
              refine jG_icmp_ge F 70 dX6_pile_31 (by decide) (fun _ => ?_) (fun q => absurd (nI_le (Nat.le_refl 16) (by decide)) q)
              refine jG_goto F 17 dX6_pile_70 (by decide) ?_
              exact ih (i + 1) _ _ (by omega) (Or.inr ⟨i, rfl, rfl⟩)
            · intro k hk ihk
              refine jG_iload F dX6_pile_27 rfl ?_
              refine jG_bipush F (v := nI 16) dX6_pile_29 (by decide) ?_
              refine jG_icmp_ge F 70 dX6_pile_31 (by decide) (fun q => absurd q (nI_ge hk (by decide))) (fun _ => ?_)
              refine jG_iload_n F dX6_pile_34 rfl ?_
              refine jG_iload_n F dX6_pile_35 rfl ?_
              refine jG_iload F dX6_pile_36 rfl ?_
              refine jG_ishr F dX6_pile_38 ?_
              refine jG_iconst F (v := (1 : Int32)) dX6_pile_39 (by decide) ?_
              refine jG_iand F dX6_pile_40 ?_
              refine jG_iconst F (v := (1 : Int32)) dX6_pile_41 (by decide) ?_
              refine jG_icmp_ne F 61 dX6_pile_42 (by decide) (fun q3 => ?_) (fun q3 => ?_)
              · refine jG_iconst F (v := (0 : Int32)) dX6_pile_61 (by decide) ?_
                refine jG_ior F dX6_pile_62 ?_
                refine jG_istore_n_2e F dX6_pile_63 (by decide) ?_
                refine jG_iinc_4 F (w := nI (k + 1)) dX6_pile_64 (jinc k) (by decide) ?_
                refine jG_goto F 27 dX6_pile_67 (by decide) ?_
                refine jG_eq ?_ rfl rfl ihk
                rw [show mstp A (mitr A (jbit d) i) (k + 1) = mstp A (mitr A (jbit d) i) k ||| 0 from congrArg (fun z => mstp A (mitr A (jbit d) i) k ||| z) (if_neg q3)]
              · refine jG_aload_n F dX6_pile_45 rfl ?_
                refine jG_iload F dX6_pile_46 rfl ?_
                refine jc_X6_75 F dX6_pile_48 (c_X6_coverers hm hl hk) (jpO_o hm) (by decide) (Nat.le_refl 0) (Nat.le_refl 0) (Nat.le_of_ble_eq_true rfl) ?_
                refine jG_aload_n F dX6_pile_51 rfl ?_
                refine jG_iload F dX6_pile_52 rfl ?_
                refine jc_X6_78 F dX6_pile_54 (c_X6_covered hm hl hk) (jpO_o hm) (by decide) (Nat.le_refl 0) (Nat.le_refl 0) (Nat.le_of_ble_eq_true rfl) ?_
                refine jG_ior F dX6_pile_57 ?_
                refine jG_goto F 62 dX6_pile_58 (by decide) ?_
                refine jG_ior F dX6_pile_62 ?_
                refine jG_istore_n_2e F dX6_pile_63 (by decide) ?_
                refine jG_iinc_4 F (w := nI (k + 1)) dX6_pile_64 (jinc k) (by decide) ?_
                refine jG_goto F 27 dX6_pile_67 (by decide) ?_
                refine jG_eq ?_ rfl rfl ihk
                rw [show mstp A (mitr A (jbit d) i) (k + 1) = mstp A (mitr A (jbit d) i) k ||| (mcvr A k ||| mcvd A k) from congrArg (fun z => mstp A (mitr A (jbit d) i) k ||| z) (if_pos q3)]
          exact inner 0 (by decide)
    exact loop 17 0 0 [] rfl (Or.inl ⟨rfl, rfl⟩)
  · rw [if_neg q] at T
    refine jG_iconst F (v := (0 : Int32)) dX6_pile_9 (by decide) ?_
    exact jG_iret F T (rfl) rfl (by first | rfl | exact jnarb _ | (split <;> rfl)) dX6_pile_10
theorem c_X6_draw {n : Int32} (hm : h[m]? = some (jmo E m km (jio false) bd ba bw rm)) (hl : m + 8 < h.length) (hn : ¬ n = 0) : jMd l E yX6_draw cX6_draw 2 (some .int) 0 [.ref (E.1 + m), .int n] (jpO E h m false A P) (some (.int (mdr (A 72) - mdr (A 72) / n * n))) (jpO E h m false (upd A 72 (mdr (A 72))) P) 0 0 := by
  refine jMd_of (by decide) (Nat.le_of_ble_eq_true rfl) (by simp [Value.category]) (by first | rfl | simp [jpO_len]) (fun x hx F T hmm => ?_)
  refine jG_aload_n F dX6_draw_0 rfl ?_
  refine jg_X6_7 F dX6_draw_1 (jpO_o hm) rfl ?_
  refine jG_bipush F (v := nI 72) dX6_draw_4 (by decide) ?_
  refine jG_aload_n F dX6_draw_6 rfl ?_
  refine jg_X6_7 F dX6_draw_7 (jpO_o hm) rfl ?_
  refine jG_bipush F (v := nI 72) dX6_draw_10 (by decide) ?_
  refine jG_iald F dX6_draw_12 (jpO_1 hl) rfl (by omega) (by decide) ?_
  refine jG_i2l F dX6_draw_13 ?_
  refine jG_ldc2 F (v := 48271) dX6_draw_14 (by decide +kernel) ?_
  refine jG_lmul F dX6_draw_17 ?_
  refine jG_ldc2 F (v := 2147483647) dX6_draw_18 (by decide +kernel) ?_
  refine jG_lrem F dX6_draw_21 (by decide) ?_
  refine jG_l2i F dX6_draw_22 ?_
  refine jG_iast F dX6_draw_23 (jpO_1 hl) rfl (by omega) (by decide) ?_
  refine jG_eq rfl rfl (show _ = jpO E h m false (upd A 72 (mdr (A 72))) P from jpO_st1) ?_
  refine jG_aload_n F dX6_draw_24 rfl ?_
  refine jg_X6_7 F dX6_draw_25 (jpO_o hm) rfl ?_
  refine jG_bipush F (v := nI 72) dX6_draw_28 (by decide) ?_
  refine jG_iald F dX6_draw_30 (jpO_1 hl) rfl (by omega) (by decide) ?_
  refine jG_iload_n F dX6_draw_31 rfl ?_
  refine jG_irem F dX6_draw_32 hn ?_
  exact jG_iret F T (by simp [jsel, upd]) rfl (by first | rfl | exact jnarb _ | (split <;> rfl)) dX6_draw_33
theorem c_X6_scoreOf {p : Nat} (hm : h[m]? = some (jmo E m km (jio o) bd ba bw rm)) (hl : m + 8 < h.length) (hp : p < 4) : jMd l E yX6_scoreOf cX6_scoreOf 4 (some .int) 6 [.ref (E.1 + m), .int (nI p)] (jpO E h m o A P) (some (.int (msc A p 4))) (jpO E h m o A P) 0 0 := by
  refine jMd_of (by decide) (Nat.le_of_ble_eq_true rfl) (by simp [Value.category]) (by first | rfl | simp [jpO_len]) (fun x hx F T hmm => ?_)
  refine jG_iconst F (v := (0 : Int32)) dX6_scoreOf_0 (by decide) ?_
  refine jG_istore_n_2n F dX6_scoreOf_1 (by decide) ?_
  refine jG_iload_n F dX6_scoreOf_2 rfl ?_
  refine jG_istore_n_3n F dX6_scoreOf_3 (by decide) ?_
  have loop : ∀ k, k ≤ 4 → jG E x 0 0 4 [.ref (E.1 + m), .int (nI p), .int (msc A p k), .int (nI (p + 4 * k))] [] (jpO E h m o A P) := by
    refine jup 4 _ ?_ ?_
    · refine jG_iload_n F dX6_scoreOf_4 rfl ?_
      refine jG_bipush F (v := nI 16) dX6_scoreOf_5 (by decide) ?_
      refine jG_icmp_ge F 54 dX6_scoreOf_7 (by decide) (fun _ => ?_) (fun qz => absurd (nI_le (show 16 ≤ p + 4 * 4 by omega) (by omega)) qz)
      refine jG_iload_n F dX6_scoreOf_54 rfl ?_
      exact jG_iret F T (rfl) rfl (by first | rfl | exact jnarb _ | (split <;> rfl)) dX6_scoreOf_55
    · intro k hk ih
      refine jG_iload_n F dX6_scoreOf_4 rfl ?_
      refine jG_bipush F (v := nI 16) dX6_scoreOf_5 (by decide) ?_
      refine jG_icmp_ge F 54 dX6_scoreOf_7 (by decide) (fun qz => absurd qz (nI_ge (show p + 4 * k < 16 by omega) (by decide))) (fun _ => ?_)
      refine jG_iload_n F dX6_scoreOf_10 rfl ?_
      refine jG_aload_n F dX6_scoreOf_11 rfl ?_
      refine jG_iload_n F dX6_scoreOf_12 rfl ?_
      refine jc_X6_45 F dX6_scoreOf_13 (c_X6_how hm hl rfl (by omega)) (jpO_o hm) (by decide) (Nat.le_refl 0) (Nat.le_refl 0) (Nat.le_of_ble_eq_true rfl) ?_
      refine jG_iconst F (v := (2 : Int32)) dX6_scoreOf_16 (by decide) ?_
      refine jG_icmp_ne F 24 dX6_scoreOf_17 (by decide) (fun q => ?_) (fun q => ?_)
      · refine jG_aload_n F dX6_scoreOf_24 rfl ?_
        refine jG_iload_n F dX6_scoreOf_25 rfl ?_
        refine jc_X6_45 F dX6_scoreOf_26 (c_X6_how hm hl rfl (by omega)) (jpO_o hm) (by decide) (Nat.le_refl 0) (Nat.le_refl 0) (Nat.le_of_ble_eq_true rfl) ?_
        refine jG_iconst F (v := (1 : Int32)) dX6_scoreOf_29 (by decide) ?_
        refine jG_icmp_ne F 45 dX6_scoreOf_30 (by decide) (fun q2 => ?_) (fun q2 => ?_)
        · refine jG_iconst F (v := (0 : Int32)) dX6_scoreOf_45 (by decide) ?_
          refine jG_iadd F dX6_scoreOf_46 ?_
          refine jG_istore_n_2e F dX6_scoreOf_47 (by decide) ?_
          refine jG_iinc_3 F (w := nI (p + 4 * (k + 1))) dX6_scoreOf_48 ((nI_add (p + 4 * k) 4).trans (by rw [Nat.mul_add, Nat.add_assoc])) (by decide) ?_
          refine jG_goto F 4 dX6_scoreOf_51 (by decide) ?_
          refine jG_eq ?_ rfl rfl ih
          rw [show msc A p (k + 1) = msc A p k + 0 from congrArg (fun z => msc A p k + z) ((if_neg q).trans (if_neg (fun z => q2 z.1)))]
        · refine jG_aload_n F dX6_scoreOf_33 rfl ?_
          refine jG_iload_n F dX6_scoreOf_34 rfl ?_
          refine jc_X6_81 F dX6_scoreOf_35 (c_X6_isFree hm hl (by omega)) (jpO_o hm) (by decide) (Nat.le_refl 0) (Nat.le_refl 0) (Nat.le_of_ble_eq_true rfl) ?_
          refine jG_if_eq F 45 dX6_scoreOf_38 (by decide) (fun q3 => ?_) (fun q3 => ?_)
          · have q3 := jB01_eq q3
            refine jG_iconst F (v := (0 : Int32)) dX6_scoreOf_45 (by decide) ?_
            refine jG_iadd F dX6_scoreOf_46 ?_
            refine jG_istore_n_2e F dX6_scoreOf_47 (by decide) ?_
            refine jG_iinc_3 F (w := nI (p + 4 * (k + 1))) dX6_scoreOf_48 ((nI_add (p + 4 * k) 4).trans (by rw [Nat.mul_add, Nat.add_assoc])) (by decide) ?_
            refine jG_goto F 4 dX6_scoreOf_51 (by decide) ?_
            refine jG_eq ?_ rfl rfl ih
            rw [show msc A p (k + 1) = msc A p k + 0 from congrArg (fun z => msc A p k + z) ((if_neg q).trans (if_neg (fun z => q3 z.2)))]
          · have q3 := jB01_ne q3
            refine jG_iconst F (v := (1 : Int32)) dX6_scoreOf_41 (by decide) ?_
            refine jG_goto F 46 dX6_scoreOf_42 (by decide) ?_
            refine jG_iadd F dX6_scoreOf_46 ?_
            refine jG_istore_n_2e F dX6_scoreOf_47 (by decide) ?_
            refine jG_iinc_3 F (w := nI (p + 4 * (k + 1))) dX6_scoreOf_48 ((nI_add (p + 4 * k) 4).trans (by rw [Nat.mul_add, Nat.add_assoc])) (by decide) ?_
            refine jG_goto F 4 dX6_scoreOf_51 (by decide) ?_
            refine jG_eq ?_ rfl rfl ih
            rw [show msc A p (k + 1) = msc A p k + 1 from congrArg (fun z => msc A p k + z) ((if_neg q).trans (if_pos ⟨q2, q3⟩))]
      · refine jG_iconst F (v := (3 : Int32)) dX6_scoreOf_20 (by decide) ?_
        refine jG_goto F 46 dX6_scoreOf_21 (by decide) ?_
        refine jG_iadd F dX6_scoreOf_46 ?_
        refine jG_istore_n_2e F dX6_scoreOf_47 (by decide) ?_
        refine jG_iinc_3 F (w := nI (p + 4 * (k + 1))) dX6_scoreOf_48 ((nI_add (p + 4 * k) 4).trans (by rw [Nat.mul_add, Nat.add_assoc])) (by decide) ?_
        refine jG_goto F 4 dX6_scoreOf_51 (by decide) ?_
        refine jG_eq ?_ rfl rfl ih
        rw [show msc A p (k + 1) = msc A p k + 3 from congrArg (fun z => msc A p k + z) (if_pos q)]
  exact loop 0 (by decide)
theorem c_X6_rank {p : Nat} (hm : h[m]? = some (jmo E m km (jio o) bd ba bw rm)) (hl : m + 8 < h.length) (hp : p < 4) : jMd l E yX6_rank cX6_rank 2 (some .int) 7 [.ref (E.1 + m), .int (nI p)] (jpO E h m o A P) (some (.int (mrk A p))) (jpO E h m o A P) 0 0 := by
  refine jMd_of (by decide) (Nat.le_of_ble_eq_true rfl) (by simp [Value.category]) (by first | rfl | simp [jpO_len]) (fun x hx F T hmm => ?_)
  refine jG_aload_n F dX6_rank_0 rfl ?_
  refine jG_iload_n F dX6_rank_1 rfl ?_
  refine jc_X6_166 F dX6_rank_2 (c_X6_scoreOf hm hl (by omega)) (jpO_o hm) (by decide) (Nat.le_refl 0) (Nat.le_refl 0) (Nat.le_of_ble_eq_true rfl) ?_
  refine jG_aload_n F dX6_rank_5 rfl ?_
  refine jG_iload_n F dX6_rank_6 rfl ?_
  refine jc_X6_88 F dX6_rank_7 (c_X6_allIn hm hl (by omega)) (jpO_o hm) (by decide) (Nat.le_refl 0) (Nat.le_refl 0) (Nat.le_of_ble_eq_true rfl) ?_
  refine jG_if_eq F 19 dX6_rank_10 (by decide) (fun q => ?_) (fun q => ?_)
  · refine jG_iconst F (v := (0 : Int32)) dX6_rank_19 (by decide) ?_
    refine jG_iadd F dX6_rank_20 ?_
    exact jG_iret F T (congrArg (fun z => msc A p 4 + z) (if_neg (jB01_eq q)).symm) rfl (by first | rfl | exact jnarb _ | (split <;> rfl)) dX6_rank_21
  · refine jG_sipush F (v := (1000 : Int32)) dX6_rank_13 (by decide) ?_
    refine jG_goto F 20 dX6_rank_16 (by decide) ?_
    refine jG_iadd F dX6_rank_20 ?_
    exact jG_iret F T (congrArg (fun z => msc A p 4 + z) (if_pos (jB01_ne q)).symm) rfl (by first | rfl | exact jnarb _ | (split <;> rfl)) dX6_rank_21
theorem c_X6_twelfthsOf {p : Nat} {j : Int32} (hm : h[m]? = some (jmo E m km (jio o) bd ba bw rm)) (hl : m + 8 < h.length) (hp : p < 4) (hj : j = nI p) : jMd l E yX6_twelfthsOf cX6_twelfthsOf 6 (some .int) 8 [.ref (E.1 + m), .int j] (jpO E h m o A P) (some (.int (mtwo (mrk A) p))) (jpO E h m o A P) 0 0 := by
  subst hj
  refine jMd_of (by decide) (Nat.le_of_ble_eq_true rfl) (by simp [Value.category]) (by first | rfl | simp [jpO_len]) (fun x hx F T hmm => ?_)
  have hb := jbet_le (mrk A) p 4
  have ha := jali_le (mrk A) p 4
  have ha0 := jali_pos (sc := mrk A) 4 hp
  have l2 : ∀ (n i : Nat) (s : Int32), i + n = jbet (mrk A) p 4 + jali (mrk A) p 4 → mshr n i s = mshr (jali (mrk A) p 4) (jbet (mrk A) p 4) 0 → jG E x 0 0 69 [.ref (E.1 + m), .int (nI p), .int (nI (jbet (mrk A) p 4)), .int (nI (jali (mrk A) p 4)), .int s, .int (nI i)] [] (jpO E h m o A P) := by
    intro n
    induction n with
    | zero =>
      intro i s hi hE
      have hi : i = jbet (mrk A) p 4 + jali (mrk A) p 4 := by omega
      subst hi
      refine jG_iload F dX6_twelfthsOf_69 rfl ?_
      refine jG_iload_n F dX6_twelfthsOf_71 rfl ?_
      refine jG_iload_n F dX6_twelfthsOf_72 rfl ?_
      refine jG_iadd F dX6_twelfthsOf_73 ?_
      refine jG_icmp_ge F 121 dX6_twelfthsOf_74 (by decide) (fun _ => ?_) (fun qz => absurd (by rw [nI_add]; exact nI_le (Nat.le_refl _) (by omega)) qz)
      refine jG_iload F dX6_twelfthsOf_121 rfl ?_
      refine jG_iload_n F dX6_twelfthsOf_123 rfl ?_
      refine jG_idiv F dX6_twelfthsOf_124 (nI_ne0 ha0 (by omega)) ?_
      exact jG_iret F T (by rw [show s = _ from hE]; rfl) rfl (by first | rfl | exact jnarb _ | (split <;> rfl)) dX6_twelfthsOf_125
    | succ n ih =>
      intro i s hi hE
      refine jG_iload F dX6_twelfthsOf_69 rfl ?_
      refine jG_iload_n F dX6_twelfthsOf_71 rfl ?_
      refine jG_iload_n F dX6_twelfthsOf_72 rfl ?_
      refine jG_iadd F dX6_twelfthsOf_73 ?_
      refine jG_icmp_ge F 121 dX6_twelfthsOf_74 (by decide) (fun qz => absurd qz (by rw [nI_add]; exact nI_ge (show i < jbet (mrk A) p 4 + jali (mrk A) p 4 by omega) (by omega))) (fun _ => ?_)
      have fin : jG E x 0 0 115 [.ref (E.1 + m), .int (nI p), .int (nI (jbet (mrk A) p 4)), .int (nI (jali (mrk A) p 4)), .int (s + jtabP i), .int (nI i)] [] (jpO E h m o A P) := by
        refine jG_iinc_5 F (w := nI (i + 1)) dX6_twelfthsOf_115 (jinc i) (by decide) ?_
        refine jG_goto F 69 dX6_twelfthsOf_118 (by decide) ?_
        exact ih (i + 1) _ (by omega) hE
      refine jG_iload F dX6_twelfthsOf_77 rfl ?_
      refine jG_iload F dX6_twelfthsOf_79 rfl ?_
      refine jG_if_ne F 89 dX6_twelfthsOf_81 (by decide) (fun q => ?_) (fun q => ?_)
      · have q : ¬ i = 0 := fun z => q (by rw [z]; rfl)
        refine jG_iload F dX6_twelfthsOf_89 rfl ?_
        refine jG_iconst F (v := nI 1) dX6_twelfthsOf_91 (by decide) ?_
        refine jG_icmp_ne F 100 dX6_twelfthsOf_92 (by decide) (fun q2 => ?_) (fun q2 => ?_)
        · have q2 : ¬ i = 1 := fun z => q2 (by rw [z])
          refine jG_iload F dX6_twelfthsOf_100 rfl ?_
          refine jG_iconst F (v := nI 2) dX6_twelfthsOf_102 (by decide) ?_
          refine jG_icmp_ne F 111 dX6_twelfthsOf_103 (by decide) (fun q3 => ?_) (fun q3 => ?_)
          · have q3 : ¬ i = 2 := fun z => q3 (by rw [z])
            refine jG_iconst F (v := (0 : Int32)) dX6_twelfthsOf_111 (by decide) ?_
            refine jG_iadd F dX6_twelfthsOf_112 ?_
            refine jG_istore_4e F dX6_twelfthsOf_113 (by decide) ?_
            exact jG_eq (by rw [show jtabP i = 0 from by unfold jtabP; rw [if_neg q, if_neg q2, if_neg q3]]) rfl rfl fin
          · have q3 : i = 2 := (nI_eq (by omega) (by decide)).mp q3
            refine jG_bipush F (v := (12 : Int32)) dX6_twelfthsOf_106 (by decide) ?_
            refine jG_goto F 112 dX6_twelfthsOf_108 (by decide) ?_
            refine jG_iadd F dX6_twelfthsOf_112 ?_
            refine jG_istore_4e F dX6_twelfthsOf_113 (by decide) ?_
            exact jG_eq (by rw [show jtabP i = 12 from by rw [q3]; rfl]) rfl rfl fin
        · have q2 : i = 1 := (nI_eq (by omega) (by decide)).mp q2
          refine jG_bipush F (v := (24 : Int32)) dX6_twelfthsOf_95 (by decide) ?_
          refine jG_goto F 112 dX6_twelfthsOf_97 (by decide) ?_
          refine jG_iadd F dX6_twelfthsOf_112 ?_
          refine jG_istore_4e F dX6_twelfthsOf_113 (by decide) ?_
          exact jG_eq (by rw [show jtabP i = 24 from by rw [q2]; rfl]) rfl rfl fin
      · have q : i = 0 := (nI_eq (by omega) (by decide)).mp (q.trans nI_0.symm)
        refine jG_bipush F (v := (48 : Int32)) dX6_twelfthsOf_84 (by decide) ?_
        refine jG_goto F 112 dX6_twelfthsOf_86 (by decide) ?_
        refine jG_iadd F dX6_twelfthsOf_112 ?_
        refine jG_istore_4e F dX6_twelfthsOf_113 (by decide) ?_
        exact jG_eq (by rw [show jtabP i = 48 from by rw [q]; rfl]) rfl rfl fin
  have l1 : ∀ n, n ≤ 4 → jG E x 0 0 7 [.ref (E.1 + m), .int (nI p), .int (nI (jbet (mrk A) p n)), .int (nI (jali (mrk A) p n)), .int (nI n)] [] (jpO E h m o A P) := by
    refine jup 4 _ ?_ ?_
    · refine jG_iload F dX6_twelfthsOf_7 rfl ?_
      refine jG_iconst F (v := nI 4) dX6_twelfthsOf_9 (by decide) ?_
      refine jG_icmp_ge F 63 dX6_twelfthsOf_10 (by decide) (fun _ => ?_) (fun q => absurd (nI_le (Nat.le_refl 4) (by decide)) q)
      refine jG_iconst F (v := 0) dX6_twelfthsOf_63 (by decide) ?_
      refine jG_istore_4e F dX6_twelfthsOf_64 (by decide) ?_
      refine jG_iload_n F dX6_twelfthsOf_66 rfl ?_
      refine jG_istore_5n F dX6_twelfthsOf_67 (by decide) ?_
      exact l2 _ _ 0 (by omega) rfl
    · intro n hn ih
      have t2 : jG E x 0 0 35 [.ref (E.1 + m), .int (nI p), .int (nI (jbet (mrk A) p (n + 1))), .int (nI (jali (mrk A) p n)), .int (nI n)] [] (jpO E h m o A P) := by
        refine jG_iload_n F dX6_twelfthsOf_35 rfl ?_
        refine jG_aload_n F dX6_twelfthsOf_36 rfl ?_
        refine jG_iload F dX6_twelfthsOf_37 rfl ?_
        refine jc_X6_169 F dX6_twelfthsOf_39 (c_X6_rank hm hl hn) (jpO_o hm) (by decide) (Nat.le_refl 0) (Nat.le_refl 0) (Nat.le_of_ble_eq_true rfl) ?_
        refine jG_aload_n F dX6_twelfthsOf_42 rfl ?_
        refine jG_iload_n F dX6_twelfthsOf_43 rfl ?_
        refine jc_X6_169 F dX6_twelfthsOf_44 (c_X6_rank hm hl hp) (jpO_o hm) (by decide) (Nat.le_refl 0) (Nat.le_refl 0) (Nat.le_of_ble_eq_true rfl) ?_
        refine jG_icmp_ne F 54 dX6_twelfthsOf_47 (by decide) (fun q => ?_) (fun q => ?_)
        · refine jG_iconst F (v := nI 0) dX6_twelfthsOf_54 (by decide) ?_
          refine jG_iadd F dX6_twelfthsOf_55 ?_
          refine jG_istore_n_3e F dX6_twelfthsOf_56 (by decide) ?_
          refine jG_iinc_4 F (w := nI (n + 1)) dX6_twelfthsOf_57 (jinc n) (by decide) ?_
          refine jG_goto F 7 dX6_twelfthsOf_60 (by decide) ?_
          refine jG_eq ?_ rfl rfl ih
          rw [show jali (mrk A) p (n + 1) = jali (mrk A) p n from if_neg q, nI_add]; rfl
        · refine jG_iconst F (v := nI 1) dX6_twelfthsOf_50 (by decide) ?_
          refine jG_goto F 55 dX6_twelfthsOf_51 (by decide) ?_
          refine jG_iadd F dX6_twelfthsOf_55 ?_
          refine jG_istore_n_3e F dX6_twelfthsOf_56 (by decide) ?_
          refine jG_iinc_4 F (w := nI (n + 1)) dX6_twelfthsOf_57 (jinc n) (by decide) ?_
          refine jG_goto F 7 dX6_twelfthsOf_60 (by decide) ?_
          refine jG_eq ?_ rfl rfl ih
          rw [show jali (mrk A) p (n + 1) = jali (mrk A) p n + 1 from if_pos q, nI_add]
      refine jG_iload F dX6_twelfthsOf_7 rfl ?_
      refine jG_iconst F (v := nI 4) dX6_twelfthsOf_9 (by decide) ?_
      refine jG_icmp_ge F 63 dX6_twelfthsOf_10 (by decide) (fun q => absurd q (nI_ge hn (by decide))) (fun _ => ?_)
      refine jG_iload_n F dX6_twelfthsOf_13 rfl ?_
      refine jG_aload_n F dX6_twelfthsOf_14 rfl ?_
      refine jG_iload F dX6_twelfthsOf_15 rfl ?_
      refine jc_X6_169 F dX6_twelfthsOf_17 (c_X6_rank hm hl hn) (jpO_o hm) (by decide) (Nat.le_refl 0) (Nat.le_refl 0) (Nat.le_of_ble_eq_true rfl) ?_
      refine jG_aload_n F dX6_twelfthsOf_20 rfl ?_
      refine jG_iload_n F dX6_twelfthsOf_21 rfl ?_
      refine jc_X6_169 F dX6_twelfthsOf_22 (c_X6_rank hm hl hp) (jpO_o hm) (by decide) (Nat.le_refl 0) (Nat.le_refl 0) (Nat.le_of_ble_eq_true rfl) ?_
      refine jG_icmp_le F 32 dX6_twelfthsOf_25 (by decide) (fun q => ?_) (fun q => ?_)
      · refine jG_iconst F (v := nI 0) dX6_twelfthsOf_32 (by decide) ?_
        refine jG_iadd F dX6_twelfthsOf_33 ?_
        refine jG_istore_n_2e F dX6_twelfthsOf_34 (by decide) ?_
        refine jG_eq ?_ rfl rfl t2
        rw [show jbet (mrk A) p (n + 1) = jbet (mrk A) p n from if_neg (Int32.not_lt.mpr q), nI_add]; rfl
      · refine jG_iconst F (v := nI 1) dX6_twelfthsOf_28 (by decide) ?_
        refine jG_goto F 33 dX6_twelfthsOf_29 (by decide) ?_
        refine jG_iadd F dX6_twelfthsOf_33 ?_
        refine jG_istore_n_2e F dX6_twelfthsOf_34 (by decide) ?_
        refine jG_eq ?_ rfl rfl t2
        rw [show jbet (mrk A) p (n + 1) = jbet (mrk A) p n + 1 from if_pos (Int32.not_le.mp q), nI_add]
  refine jG_iconst F (v := nI 0) dX6_twelfthsOf_0 (by decide) ?_
  refine jG_istore_n_2n F dX6_twelfthsOf_1 (by decide) ?_
  refine jG_iconst F (v := nI 0) dX6_twelfthsOf_2 (by decide) ?_
  refine jG_istore_n_3n F dX6_twelfthsOf_3 (by decide) ?_
  refine jG_iconst F (v := nI 0) dX6_twelfthsOf_4 (by decide) ?_
  refine jG_istore_4n F dX6_twelfthsOf_5 (by decide) ?_
  exact l1 0 (by decide)
end MR
