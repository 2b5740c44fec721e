/-! ===== JumpDiscsModel: rows, scatter, kept boards, counts ===== -/
abbrev mtu (P : Nat → Int32) : Nat := (P 64).toNatClampNeg
/-- a SHOT of the ROW, on the other board -/
def mfl1 (P : Nat → Int32) (d : Nat) (a b : Int32) : Nat → Int32 := if a = 41 ∧ b = 41 then upd P d 2 else mplc P d a b
def mfol (P : Nat → Int32) (ti : Int32) (d : Nat) (a b : Int32) : Nat → Int32 := mgo (mfl1 P d a b) ti (mtu P) (¬ jB01 (a = 41 ∧ b = 41) = 0)
def mgx (rx ry : Nat → Int32) (g : Int32) (z : Nat → Int32) (i : Nat) : Int32 := if rx i = -1 ∧ ry i = -1 then g else z i
def mww (dn : Nat → Nat) (rx ry : Nat → Int32) (gx gy ti : Int32) : Nat → Nat → (Nat → Int32) → Int32 × (Nat → Int32)
  | 0, _, P => (-4, P)
  | n + 1, i, P => if mmay P (dn i) (mtu P) then mww dn rx ry gx gy ti n (i + 1) (mfol P ti (dn i) (mgx rx ry gx rx i) (mgx rx ry gy ry i)) else (nI i, P)
abbrev mok (P : Nat → Int32) : Prop := mtu P < 4 ∧ P 64 = nI (mtu P)
theorem mok_of {P : Nat → Int32} {t : Nat} (ht : t < 4) (h : P 64 = nI t) : mok P := by
  have e : mtu P = t := by show (P 64).toNatClampNeg = t; rw [h]; exact nI_clamp (by omega)
  rw [mok, e]; exact ⟨ht, h⟩
theorem mpsO_ok {c : Prop} [Decidable c] {A : Nat → Int32} {t : Nat} (ht : t < 4) : mok (mpsO c A t) := mok_of (mpas_lt (c := c) 3 (A, t) ht) (by simp [mpsO, upd])
theorem mgo_ok {A : Nat → Int32} {ti : Int32} {t : Nat} {b : Prop} [Decidable b] (ht : t < 4) : mok (mgo A ti t b) := by
  unfold mgo
  split
  · exact mpsO_ok ht
  · exact mpsO_ok (mnxt_lt ht)
theorem mfl1_64 {P : Nat → Int32} {d : Nat} {a b : Int32} (hd : d < 16) : mfl1 P d a b 64 = P 64 := by
  unfold mfl1
  split
  · simp [upd, show ¬ 64 = d by omega]
  · exact mplc_o (by decide) (by decide) hd
theorem mfol_ok {P : Nat → Int32} {ti : Int32} {d : Nat} {a b : Int32} (h : mok P) : mok (mfol P ti d a b) := mgo_ok h.1
theorem mclr_ok {P : Nat → Int32} : mok (mclr P) := mok_of (t := 0) (by decide) (by simp [mclr, upd]; rfl)
theorem jneg4 {o : Nat} (ho : o < 100) : ¬ nI o = -4 := by
  intro z
  have h1 : (nI o).toInt = o := nI_toInt (by omega)
  rw [z] at h1
  have h2 : (-4 : Int32).toInt = -4 := by decide
  omega
def mgpF (rx ry : Nat → Int32) : Nat → Int32
  | 0 => 0
  | k + 1 => mgpF rx ry k + (if rx k = -1 ∧ ry k = -1 then 1 else 0)
abbrev mS : Type := Int32 × Int32 × (Nat → Int32)
def mcb1 (dn : Nat → Nat) (rx ry : Nat → Int32) (ti : Int32) (n a b : Nat) (S : mS) : mS :=
  if jspot (nI a) (nI b) ∨ (nI a = 41 ∧ nI b = 41) then
    (if (mww dn rx ry (nI a) (nI b) ti n 0 (mclr S.2.2)).1 = -4 then (S.1 + 1, if S.1 = 0 then 100 * nI a + nI b else S.2.1, (mww dn rx ry (nI a) (nI b) ti n 0 (mclr S.2.2)).2) else (S.1, S.2.1, (mww dn rx ry (nI a) (nI b) ti n 0 (mclr S.2.2)).2))
  else S
def mcby (dn : Nat → Nat) (rx ry : Nat → Int32) (ti : Int32) (n a : Nat) (S : mS) : Nat → mS
  | 0 => S
  | b + 1 => mcb1 dn rx ry ti n a b (mcby dn rx ry ti n a S b)
def mcbx (dn : Nat → Nat) (rx ry : Nat → Int32) (ti : Int32) (n : Nat) (S : mS) : Nat → mS
  | 0 => S
  | a + 1 => mcby dn rx ry ti n a (mcbx dn rx ry ti n S a) 42
def mps (pr : Nat → Int32) (p : Nat) : Nat → Int32
  | 0 => 0
  | k + 1 => mps pr p k + pr (5 * p + k)
def msiz (v : Int32) : Int32 := if v < 0 then -v else v
def mgb : Nat → Int32 → Int32 → Int32
  | 0, _, b => b
  | n + 1, a, b => if b = 0 then 0 else mgb n b (a - a / b * b)
def mkp (K A : Nat → Int32) (b n : Nat) : Nat → Int32 := fun j => if b ≤ j ∧ j < b + n then A (j - b) else K j
theorem mkp_0 (K A : Nat → Int32) (b : Nat) : mkp K A b 0 = K := by
  funext j; simp only [mkp]; rw [if_neg (by omega)]
theorem mkp_s (K A : Nat → Int32) (b n : Nat) : upd (mkp K A b n) (b + n) (A n) = mkp K A b (n + 1) := by
  funext j
  simp only [mkp, upd]
  by_cases e : j = b + n
  · subst e
    rw [if_pos rfl, if_pos (by omega), Nat.add_sub_cancel_left]
  · rw [if_neg e]
    by_cases e2 : b ≤ j ∧ j < b + n
    · rw [if_pos e2, if_pos (by omega)]
    · rw [if_neg e2, if_neg (by omega)]
def mcn (A : Nat → Int32) (w : Int32) : Nat → Int32
  | 0 => 0
  | k + 1 => mcn A w k + (if A k = w then 1 else 0)
def mcn5 (A : Nat → Int32) : Nat → Int32
  | 0 => 0
  | k + 1 => mcn5 A k + (if A k = 1 ∧ ¬ mfree A k then 1 else 0)
section MV3
variable {l : Launch} {E : jE} {B : List va_E} {m km : Nat} {bd ba bw : Int32} {rm : Nat} {A P K rd rx ry pr qs : Nat → Int32} {v w a b c : Int32} {p t d k : Nat}
theorem c_X6_writeB (hB : B.length = m) (h : ¬ (0 ≤ a ∧ a ≤ 15) ∨ ¬ mmark b c) : jMd l E yX6_write cX6_write 4 (some .int) 2 [.ref (E.1 + m), .int a, .int b, .int c] (jw9 E B m km false bd ba bw rm A P K rd rx ry pr qs) (some (.int (-1))) (jw9 E B m km false bd ba bw rm A P K rd rx ry pr qs) 0 0 := by
  refine jMd_of (by decide) (Nat.le_of_ble_eq_true rfl) (by simp [Value.category]) (by first | rfl | simp [jw9_len]) (fun x hx F T hmm => ?_)
  refine jG_iload_n F dX6_write_0 rfl ?_
  refine jc_X6_117 F dX6_write_1 (c_X6_isDisc) (by decide) (Nat.le_refl 0) (Nat.le_refl 0) (Nat.le_of_ble_eq_true rfl) ?_
  refine jG_if_eq F 31 dX6_write_4 (by decide) (fun q => ?_) (fun q => ?_)
  · refine jG_iconst F (v := (-1 : Int32)) dX6_write_31 (by decide) ?_
    exact jG_iret F T (rfl) rfl (by first | rfl | exact jnarb _ | (split <;> rfl)) dX6_write_32
  · have q := jB01_ne q
    refine jG_iload_n F dX6_write_7 rfl ?_
    refine jG_iload_n F dX6_write_8 rfl ?_
    refine jc_X6_120 F dX6_write_9 (c_X6_isSpot) (by decide) (Nat.le_refl 0) (Nat.le_refl 0) (Nat.le_of_ble_eq_true rfl) ?_
    refine jG_if_ne F 33 dX6_write_12 (by decide) (fun qz => absurd qz (fun z => h.elim (fun y => y q) (fun y => y (Or.inl (jB01_ne z))))) (fun _ => ?_)
    refine jG_iload_n F dX6_write_15 rfl ?_
    refine jG_iload_n F dX6_write_16 rfl ?_
    refine jc_X6_123 F dX6_write_17 (c_X6_isCup) (by decide) (Nat.le_refl 0) (Nat.le_refl 0) (Nat.le_of_ble_eq_true rfl) ?_
    refine jG_if_ne F 33 dX6_write_20 (by decide) (fun qz => absurd qz (fun z => h.elim (fun y => y q) (fun y => y (Or.inr (Or.inl (jB01_ne z)))))) (fun _ => ?_)
    refine jG_iload_n F dX6_write_23 rfl ?_
    refine jG_iload_n F dX6_write_24 rfl ?_
    refine jc_X6_126 F dX6_write_25 (c_X6_isNowhere) (by decide) (Nat.le_refl 0) (Nat.le_refl 0) (Nat.le_of_ble_eq_true rfl) ?_
    refine jG_if_ne F 33 dX6_write_28 (by decide) (fun qz => absurd qz (fun z => h.elim (fun y => y q) (fun y => y (Or.inr (Or.inr (jB01_ne z)))))) (fun _ => ?_)
    refine jG_iconst F (v := (-1 : Int32)) dX6_write_31 (by decide) ?_
    exact jG_iret F T (rfl) rfl (by first | rfl | exact jnarb _ | (split <;> rfl)) dX6_write_32
theorem c_X6_writeF (hB : B.length = m) (hd : 0 ≤ a ∧ a ≤ 15) (hk : mmark b c) (hr : rm = 24) : jMd l E yX6_write cX6_write 4 (some .int) 2 [.ref (E.1 + m), .int a, .int b, .int c] (jw9 E B m km false bd ba bw rm A P K rd rx ry pr qs) (some (.int (-3))) (jw9 E B m km false bd ba bw rm A P K rd rx ry pr qs) 0 0 := by
  subst hr
  refine jMd_of (by decide) (Nat.le_of_ble_eq_true rfl) (by simp [Value.category]) (by first | rfl | simp [jw9_len]) (fun x hx F T hmm => ?_)
  have go : jG E x 0 0 33 [.ref (E.1 + m), .int a, .int b, .int c] [] (jw9 E B m km false bd ba bw (24) A P K rd rx ry pr qs) := by
    refine jG_aload_n F dX6_write_33 rfl ?_
    refine jg_X6_196 F dX6_write_34 (jw9_o hB) rfl ?_
    refine jG_bipush F (v := (24 : Int32)) dX6_write_37 (by decide) ?_
    refine jG_icmp_ne F 45 dX6_write_39 (by decide) (fun qz => absurd qz (fun z => z rfl)) (fun _ => ?_)
    refine jG_bipush F (v := (-3 : Int32)) dX6_write_42 (by decide) ?_
    exact jG_iret F T (rfl) rfl (by first | rfl | exact jnarb _ | (split <;> rfl)) dX6_write_44
  refine jG_iload_n F dX6_write_0 rfl ?_
  refine jc_X6_117 F dX6_write_1 (c_X6_isDisc) (by decide) (Nat.le_refl 0) (Nat.le_refl 0) (Nat.le_of_ble_eq_true rfl) ?_
  refine jG_if_eq F 31 dX6_write_4 (by decide) (fun qz => absurd qz (by rw [jB01_pos hd]; decide)) (fun _ => ?_)
  refine jG_iload_n F dX6_write_7 rfl ?_
  refine jG_iload_n F dX6_write_8 rfl ?_
  refine jc_X6_120 F dX6_write_9 (c_X6_isSpot) (by decide) (Nat.le_refl 0) (Nat.le_refl 0) (Nat.le_of_ble_eq_true rfl) ?_
  refine jG_if_ne F 33 dX6_write_12 (by decide) (fun q => ?_) (fun q => ?_)
  · exact go
  · have q := jB01_eq q
    refine jG_iload_n F dX6_write_15 rfl ?_
    refine jG_iload_n F dX6_write_16 rfl ?_
    refine jc_X6_123 F dX6_write_17 (c_X6_isCup) (by decide) (Nat.le_refl 0) (Nat.le_refl 0) (Nat.le_of_ble_eq_true rfl) ?_
    refine jG_if_ne F 33 dX6_write_20 (by decide) (fun q2 => ?_) (fun q2 => ?_)
    · exact go
    · have q2 := jB01_eq q2
      refine jG_iload_n F dX6_write_23 rfl ?_
      refine jG_iload_n F dX6_write_24 rfl ?_
      refine jc_X6_126 F dX6_write_25 (c_X6_isNowhere) (by decide) (Nat.le_refl 0) (Nat.le_refl 0) (Nat.le_of_ble_eq_true rfl) ?_
      refine jG_if_ne F 33 dX6_write_28 (by decide) (fun _ => ?_) (fun qz => absurd qz (by rw [jB01_pos (hk.resolve_left q |>.resolve_left q2)]; decide))
      exact go
theorem c_X6_write (hB : B.length = m) (hd : 0 ≤ a ∧ a ≤ 15) (hk : mmark b c) (hr : rm < 24) : jMd l E yX6_write cX6_write 4 (some .int) 2 [.ref (E.1 + m), .int a, .int b, .int c] (jw9 E B m km false bd ba bw rm A P K rd rx ry pr qs) (some (.int (nI (rm + 1)))) (jw9 E B m km false bd ba bw (rm + 1) A P K (upd rd rm a) (upd rx rm b) (upd ry rm c) pr qs) 0 0 := by
  refine jMd_of (by decide) (Nat.le_of_ble_eq_true rfl) (by simp [Value.category]) (by first | rfl | simp [jw9_len]) (fun x hx F T hmm => ?_)
  have hne : ¬ nI rm = 24 := fun z => absurd ((nI_eq (by omega) (by decide)).mp (show nI rm = nI 24 from z)) (by omega)
  have go : jG E x 0 0 33 [.ref (E.1 + m), .int a, .int b, .int c] [] (jw9 E B m km false bd ba bw rm A P K rd rx ry pr qs) := by
    refine jG_aload_n F dX6_write_33 rfl ?_
    refine jg_X6_196 F dX6_write_34 (jw9_o hB) rfl ?_
    refine jG_bipush F (v := (24 : Int32)) dX6_write_37 (by decide) ?_
    refine jG_icmp_ne F 45 dX6_write_39 (by decide) (fun _ => ?_) (fun qz => absurd qz hne)
    refine jG_aload_n F dX6_write_45 rfl ?_
    refine jg_X6_19 F dX6_write_46 (jw9_o hB) rfl ?_
    refine jG_aload_n F dX6_write_49 rfl ?_
    refine jg_X6_196 F dX6_write_50 (jw9_o hB) rfl ?_
    refine jG_iload_n F dX6_write_53 rfl ?_
    refine jG_iast F dX6_write_54 (jw9_4 hB) rfl hr (by decide) ?_
    refine jG_eq rfl rfl (jw9_s4 hB) ?_
    refine jG_aload_n F dX6_write_55 rfl ?_
    refine jg_X6_22 F dX6_write_56 (jw9_o hB) rfl ?_
    refine jG_aload_n F dX6_write_59 rfl ?_
    refine jg_X6_196 F dX6_write_60 (jw9_o hB) rfl ?_
    refine jG_iload_n F dX6_write_63 rfl ?_
    refine jG_iast F dX6_write_64 (jw9_5 hB) rfl hr (by decide) ?_
    refine jG_eq rfl rfl (jw9_s5 hB) ?_
    refine jG_aload_n F dX6_write_65 rfl ?_
    refine jg_X6_25 F dX6_write_66 (jw9_o hB) rfl ?_
    refine jG_aload_n F dX6_write_69 rfl ?_
    refine jg_X6_196 F dX6_write_70 (jw9_o hB) rfl ?_
    refine jG_iload_n F dX6_write_73 rfl ?_
    refine jG_iast F dX6_write_74 (jw9_6 hB) rfl hr (by decide) ?_
    refine jG_eq rfl rfl (jw9_s6 hB) ?_
    refine jG_aload_n F dX6_write_75 rfl ?_
    refine jG_dup F dX6_write_76 rfl ?_
    refine jg_X6_196 F dX6_write_77 (jw9_o hB) rfl ?_
    refine jG_iconst F (v := nI 1) dX6_write_80 (by decide) ?_
    refine jG_iadd F dX6_write_81 ?_
    refine jG_eq rfl (show _ = [Value.int (nI (rm + 1)), Value.ref (E.1 + m)] by rw [nI_add]) rfl ?_
    refine jp_X6_196 F dX6_write_82 (jw9_o hB) rfl rfl (Nat.le_of_ble_eq_true rfl) ?_
    refine jG_eq rfl rfl (jw9_pr hB) ?_
    refine jG_aload_n F dX6_write_85 rfl ?_
    refine jg_X6_196 F dX6_write_86 (jw9_o hB) rfl ?_
    exact jG_iret F T (rfl) rfl (by first | rfl | exact jnarb _ | (split <;> rfl)) dX6_write_89
  refine jG_iload_n F dX6_write_0 rfl ?_
  refine jc_X6_117 F dX6_write_1 (c_X6_isDisc) (by decide) (Nat.le_refl 0) (Nat.le_refl 0) (Nat.le_of_ble_eq_true rfl) ?_
  refine jG_if_eq F 31 dX6_write_4 (by decide) (fun qz => absurd qz (by rw [jB01_pos hd]; decide)) (fun _ => ?_)
  refine jG_iload_n F dX6_write_7 rfl ?_
  refine jG_iload_n F dX6_write_8 rfl ?_
  refine jc_X6_120 F dX6_write_9 (c_X6_isSpot) (by decide) (Nat.le_refl 0) (Nat.le_refl 0) (Nat.le_of_ble_eq_true rfl) ?_
  refine jG_if_ne F 33 dX6_write_12 (by decide) (fun q => ?_) (fun q => ?_)
  · exact go
  · have q := jB01_eq q
    refine jG_iload_n F dX6_write_15 rfl ?_
    refine jG_iload_n F dX6_write_16 rfl ?_
    refine jc_X6_123 F dX6_write_17 (c_X6_isCup) (by decide) (Nat.le_refl 0) (Nat.le_refl 0) (Nat.le_of_ble_eq_true rfl) ?_
    refine jG_if_ne F 33 dX6_write_20 (by decide) (fun q2 => ?_) (fun q2 => ?_)
    · exact go
    · have q2 := jB01_eq q2
      refine jG_iload_n F dX6_write_23 rfl ?_
      refine jG_iload_n F dX6_write_24 rfl ?_
      refine jc_X6_126 F dX6_write_25 (c_X6_isNowhere) (by decide) (Nat.le_refl 0) (Nat.le_refl 0) (Nat.le_of_ble_eq_true rfl) ?_
      refine jG_if_ne F 33 dX6_write_28 (by decide) (fun _ => ?_) (fun qz => absurd qz (by rw [jB01_pos (hk.resolve_left q |>.resolve_left q2)]; decide))
      exact go
theorem c_X6_wipe (hB : B.length = m) : jMd l E yX6_wipe cX6_wipe 2 (some .int) 0 [.ref (E.1 + m)] (jw9 E B m km false bd ba bw rm A P K rd rx ry pr qs) (some (.int (nI rm))) (jw9 E B m km false bd ba bw (0) A P K rd rx ry pr qs) 0 0 := by
  refine jMd_of (by decide) (Nat.le_of_ble_eq_true rfl) (by simp [Value.category]) (by first | rfl | simp [jw9_len]) (fun x hx F T hmm => ?_)
  refine jG_aload_n F dX6_wipe_0 rfl ?_
  refine jg_X6_196 F dX6_wipe_1 (jw9_o hB) rfl ?_
  refine jG_istore_n_1n F dX6_wipe_4 (by decide) ?_
  refine jG_aload_n F dX6_wipe_5 rfl ?_
  refine jG_iconst F (v := nI 0) dX6_wipe_6 (by decide) ?_
  refine jp_X6_196 F dX6_wipe_7 (jw9_o hB) rfl rfl (Nat.le_of_ble_eq_true rfl) ?_
  refine jG_eq rfl rfl (jw9_pr hB) ?_
  refine jG_iload_n F dX6_wipe_10 rfl ?_
  exact jG_iret F T (rfl) rfl (by first | rfl | exact jnarb _ | (split <;> rfl)) dX6_wipe_11
theorem c_X6_wrongWith (hB : B.length = m) (hr : rm ≤ 24) (hR : ∀ i, i < rm → jdn rd i < 16 ∧ rd i = nI (jdn rd i)) : jMd l E yX6_wrongWith cX6_wrongWith 8 (some .int) 9 [.ref (E.1 + m), .int a, .int b] (jw9 E B m km false bd ba bw rm A P K rd rx ry pr qs) (some (.int (mww (jdn rd) rx ry a b (A 71) rm 0 (mclr P)).1)) (jw9 E B m km false bd ba bw rm A ((mww (jdn rd) rx ry a b (A 71) rm 0 (mclr P)).2) K rd rx ry pr qs) 0 0 := by
  refine jMd_of (by decide) (Nat.le_of_ble_eq_true rfl) (by simp [Value.category]) (by first | rfl | simp [jw9_len]) (fun x hx F T hmm => ?_)
  generalize hR0 : mww (jdn rd) rx ry a b (A 71) rm 0 (mclr P) = R0 at T
  have ex : ∀ (bd0 : Int32) (q : Value) (r : List Value) (P2 : Nat → Int32), bd0 = R0.1 → P2 = R0.2 → jG E x 0 0 162 (.ref (E.1 + m) :: .int a :: .int b :: .int bd0 :: q :: r) [] (jw9 E B m km (true) bd ba bw rm A (P2) K rd rx ry pr qs) := by
    intro bd0 q r P2 e1 e2
    subst e2
    refine jG_take 4 ?_
    refine jG_aload_n F dX6_wrongWith_162 rfl ?_
    refine jG_iconst F (v := (0 : Int32)) dX6_wrongWith_163 (by decide) ?_
    refine jp_X6_37 F dX6_wrongWith_164 (jw9_o hB) rfl rfl (Nat.le_of_ble_eq_true rfl) ?_
    refine jG_eq rfl rfl (jw9_pf hB) ?_
    refine jG_iload_n F dX6_wrongWith_167 rfl ?_
    exact jG_iret F T (e1) rfl (by first | rfl | exact jnarb _ | (split <;> rfl)) dX6_wrongWith_168
  have loop : ∀ (n i : Nat) (P2 : Nat → Int32) (r : List Value), i + n = rm → mok P2 → mww (jdn rd) rx ry a b (A 71) n i P2 = R0 → jG E x 0 0 15 (.ref (E.1 + m) :: .int a :: .int b :: .int (-4) :: .int (nI i) :: r) [] (jw9 E B m km (true) bd ba bw rm A (P2) K rd rx ry pr qs) := by
    intro n
    induction n with
    | zero =>
      intro i P2 r hi _ hE
      have hi : i = rm := by omega
      subst hi
      refine jG_iload F dX6_wrongWith_15 rfl ?_
      refine jG_aload_n F dX6_wrongWith_17 rfl ?_
      refine jg_X6_196 F dX6_wrongWith_18 (jw9_o hB) rfl ?_
      refine jG_icmp_ge F 162 dX6_wrongWith_21 (by decide) (fun _ => ?_) (fun qz => absurd (nI_le (Nat.le_refl _) (by omega)) qz)
      exact ex _ _ _ _ (by rw [← hE]; rfl) (by rw [← hE]; rfl)
    | succ n ih =>
      intro i P2 r hi hok hE
      refine jG_take 5 ?_
      have hrd := (hR i (by omega)).2
      have hd := (hR i (by omega)).1
      have es : mww (jdn rd) rx ry a b (A 71) (n + 1) i P2 = if mmay P2 (jdn rd i) (mtu P2) then mww (jdn rd) rx ry a b (A 71) n (i + 1) (mfol P2 (A 71) (jdn rd i) (mgx rx ry a rx i) (mgx rx ry b ry i)) else (nI i, P2) := rfl
      rw [hE] at es
      generalize jdn rd i = d at *
      refine jG_iload F dX6_wrongWith_15 rfl ?_
      refine jG_aload_n F dX6_wrongWith_17 rfl ?_
      refine jg_X6_196 F dX6_wrongWith_18 (jw9_o hB) rfl ?_
      refine jG_icmp_ge F 162 dX6_wrongWith_21 (by decide) (fun qz => absurd qz (nI_ge (show i < rm by omega) (by omega))) (fun _ => ?_)
      refine jG_iload_n F dX6_wrongWith_24 rfl ?_
      refine jG_bipush F (v := (-4 : Int32)) dX6_wrongWith_25 (by decide) ?_
      refine jG_icmp_ne F 162 dX6_wrongWith_27 (by decide) (fun qz => absurd qz (fun z => z rfl)) (fun _ => ?_)
      refine jG_aload_n F dX6_wrongWith_30 rfl ?_
      refine jG_aload_n F dX6_wrongWith_31 rfl ?_
      refine jg_X6_19 F dX6_wrongWith_32 (jw9_o hB) rfl ?_
      refine jG_iload F dX6_wrongWith_35 rfl ?_
      refine jG_iald F dX6_wrongWith_37 (jw9_4 hB) rfl (show i < 24 by omega) (by decide) ?_
      refine jG_eq rfl (show _ = [Value.int (nI d), Value.ref (E.1 + m)] by rw [hrd]) rfl ?_
      refine jc_X6_143 F dX6_wrongWith_38 (jV1 hB (c_X6_mayShoot (jw9_o hB) (jw9_l hB) hok.1 hok.2 hd)) (jw9_o hB) (by decide) (Nat.le_refl 0) (Nat.le_refl 0) (Nat.le_of_ble_eq_true rfl) ?_
      refine jG_if_eq F 153 dX6_wrongWith_41 (by decide) (fun q => ?_) (fun q => ?_)
      · rw [if_neg (jB01_eq q)] at es
        refine jG_iload F dX6_wrongWith_153 rfl ?_
        refine jG_istore_n_3e F dX6_wrongWith_155 (by decide) ?_
        refine jG_iinc_4 F (w := nI (i + 1)) dX6_wrongWith_156 (jinc i) (by decide) ?_
        refine jG_goto F 15 dX6_wrongWith_159 (by decide) ?_
        refine jG_iload F dX6_wrongWith_15 rfl ?_
        refine jG_aload_n F dX6_wrongWith_17 rfl ?_
        refine jg_X6_196 F dX6_wrongWith_18 (jw9_o hB) rfl ?_
        by_cases hlast : i + 1 < rm
        · refine jG_icmp_ge F 162 dX6_wrongWith_21 (by decide) (fun qz => absurd qz (nI_ge hlast (by omega))) (fun _ => ?_)
          refine jG_iload_n F dX6_wrongWith_24 rfl ?_
          refine jG_bipush F (v := (-4 : Int32)) dX6_wrongWith_25 (by decide) ?_
          refine jG_icmp_ne F 162 dX6_wrongWith_27 (by decide) (fun _ => ?_) (fun qz => absurd qz (fun z => jneg4 (by omega) z))
          exact ex _ _ _ _ (by rw [es]) (by rw [es])
        · refine jG_icmp_ge F 162 dX6_wrongWith_21 (by decide) (fun _ => ?_) (fun qz => absurd (nI_le (by omega) (by omega)) qz)
          exact ex _ _ _ _ (by rw [es]) (by rw [es])
      · rw [if_pos (jB01_ne q)] at es
        have fin : ∀ (gp X Y : Int32) (P3 : Nat → Int32), X = mgx rx ry a rx i → Y = mgx rx ry b ry i → P3 = mfl1 P2 d X Y → jG E x 0 0 139 [.ref (E.1 + m), .int a, .int b, .int (-4), .int (nI i), .int gp, .int X, .int Y] [] (jw9 E B m km (true) bd ba bw rm A (P3) K rd rx ry pr qs) := by
          intro gp X Y P3 hX hY h3
          have h64 : P3 64 = nI (mtu P2) := by rw [h3, mfl1_64 hd]; exact hok.2
          refine jG_aload_n F dX6_wrongWith_139 rfl ?_
          refine jG_iload F dX6_wrongWith_140 rfl ?_
          refine jG_iload F dX6_wrongWith_142 rfl ?_
          refine jc_X6_123 F dX6_wrongWith_144 (c_X6_isCup) (by decide) (Nat.le_refl 0) (Nat.le_refl 0) (Nat.le_of_ble_eq_true rfl) ?_
          refine jc_X6_159 F dX6_wrongWith_147 (jV1 hB (c_X6_goOn (jw9_o hB) (jw9_l hB) hok.1 h64)) (jw9_o hB) (by decide) (Nat.le_refl 0) (Nat.le_refl 0) (Nat.le_of_ble_eq_true rfl) ?_
          refine jG_goto F 156 dX6_wrongWith_150 (by decide) ?_
          refine jG_iinc_4 F (w := nI (i + 1)) dX6_wrongWith_156 (jinc i) (by decide) ?_
          refine jG_goto F 15 dX6_wrongWith_159 (by decide) ?_
          refine jG_eq rfl rfl (show _ = (jw9 E B m km (true) bd ba bw rm A (mfol P2 (A 71) d (mgx rx ry a rx i) (mgx rx ry b ry i)) K rd rx ry pr qs) by rw [← hX, ← hY, h3]; rfl) ?_
          exact ih (i + 1) _ _ (by omega) (mfol_ok hok) es.symm
        have mid : ∀ (gp X Y : Int32), X = mgx rx ry a rx i → Y = mgx rx ry b ry i → jG E x 0 0 99 [.ref (E.1 + m), .int a, .int b, .int (-4), .int (nI i), .int gp, .int X, .int Y] [] (jw9 E B m km (true) bd ba bw rm A (P2) K rd rx ry pr qs) := by
          intro gp X Y hX hY
          refine jG_iload F dX6_wrongWith_99 rfl ?_
          refine jG_iload F dX6_wrongWith_101 rfl ?_
          refine jc_X6_123 F dX6_wrongWith_103 (c_X6_isCup) (by decide) (Nat.le_refl 0) (Nat.le_refl 0) (Nat.le_of_ble_eq_true rfl) ?_
          refine jG_if_eq F 124 dX6_wrongWith_106 (by decide) (fun q3 => ?_) (fun q3 => ?_)
          · refine jG_aload_n F dX6_wrongWith_124 rfl ?_
            refine jG_aload_n F dX6_wrongWith_125 rfl ?_
            refine jg_X6_19 F dX6_wrongWith_126 (jw9_o hB) rfl ?_
            refine jG_iload F dX6_wrongWith_129 rfl ?_
            refine jG_iald F dX6_wrongWith_131 (jw9_4 hB) rfl (show i < 24 by omega) (by decide) ?_
            refine jG_eq rfl (show _ = [Value.int (nI d), Value.ref (E.1 + m)] by rw [hrd]) rfl ?_
            refine jG_iload F dX6_wrongWith_132 rfl ?_
            refine jG_iload F dX6_wrongWith_134 rfl ?_
            refine jc_X6_129 F dX6_wrongWith_136 (jV1 hB (c_X6_place (jw9_o hB) (jw9_l hB) hd)) (jw9_o hB) (by decide) (Nat.le_refl 0) (Nat.le_refl 0) (Nat.le_of_ble_eq_true rfl) ?_
            exact fin _ _ _ _ hX hY (show _ = _ from (if_neg (jB01_eq q3)).symm)
          · refine jG_aload_n F dX6_wrongWith_109 rfl ?_
            refine jG_aload_n F dX6_wrongWith_110 rfl ?_
            refine jg_X6_19 F dX6_wrongWith_111 (jw9_o hB) rfl ?_
            refine jG_iload F dX6_wrongWith_114 rfl ?_
            refine jG_iald F dX6_wrongWith_116 (jw9_4 hB) rfl (show i < 24 by omega) (by decide) ?_
            refine jG_eq rfl (show _ = [Value.int (nI d), Value.ref (E.1 + m)] by rw [hrd]) rfl ?_
            refine jG_iconst F (v := (2 : Int32)) dX6_wrongWith_117 (by decide) ?_
            refine jc_X6_54 F dX6_wrongWith_118 (jV1 hB (c_X6_lay (k := d) (jw9_o hB) (jw9_l hB) rfl (by omega))) (jw9_o hB) (by decide) (Nat.le_refl 0) (Nat.le_refl 0) (Nat.le_of_ble_eq_true rfl) ?_
            refine jG_goto F 139 dX6_wrongWith_121 (by decide) ?_
            exact fin _ _ _ _ hX hY (show _ = _ from (if_pos (jB01_ne q3)).symm)
        refine jG_aload_n F dX6_wrongWith_44 rfl ?_
        refine jg_X6_22 F dX6_wrongWith_45 (jw9_o hB) rfl ?_
        refine jG_iload F dX6_wrongWith_48 rfl ?_
        refine jG_iald F dX6_wrongWith_50 (jw9_5 hB) rfl (show i < 24 by omega) (by decide) ?_
        refine jG_aload_n F dX6_wrongWith_51 rfl ?_
        refine jg_X6_25 F dX6_wrongWith_52 (jw9_o hB) rfl ?_
        refine jG_iload F dX6_wrongWith_55 rfl ?_
        refine jG_iald F dX6_wrongWith_57 (jw9_6 hB) rfl (show i < 24 by omega) (by decide) ?_
        refine jc_X6_126 F dX6_wrongWith_58 (c_X6_isNowhere) (by decide) (Nat.le_refl 0) (Nat.le_refl 0) (Nat.le_of_ble_eq_true rfl) ?_
        refine jG_istore_5n F dX6_wrongWith_61 (by decide) ?_
        refine jG_iload F dX6_wrongWith_63 rfl ?_
        refine jG_if_eq F 72 dX6_wrongWith_65 (by decide) (fun q2 => ?_) (fun q2 => ?_)
        · have q2 := jB01_eq q2
          refine jG_aload_n F dX6_wrongWith_72 rfl ?_
          refine jg_X6_22 F dX6_wrongWith_73 (jw9_o hB) rfl ?_
          refine jG_iload F dX6_wrongWith_76 rfl ?_
          refine jG_iald F dX6_wrongWith_78 (jw9_5 hB) rfl (show i < 24 by omega) (by decide) ?_
          refine jG_istore_6n F dX6_wrongWith_79 (by decide) ?_
          refine jG_iload F dX6_wrongWith_81 rfl ?_
          refine jG_if_eq F 90 dX6_wrongWith_83 (by decide) (fun _ => ?_) (fun qz => absurd (jB01_neg q2) qz)
          refine jG_aload_n F dX6_wrongWith_90 rfl ?_
          refine jg_X6_25 F dX6_wrongWith_91 (jw9_o hB) rfl ?_
          refine jG_iload F dX6_wrongWith_94 rfl ?_
          refine jG_iald F dX6_wrongWith_96 (jw9_6 hB) rfl (show i < 24 by omega) (by decide) ?_
          refine jG_istore_7n F dX6_wrongWith_97 (by decide) ?_
          exact mid _ _ _ (if_neg q2).symm (if_neg q2).symm
        · have q2 := jB01_ne q2
          refine jG_iload_n F dX6_wrongWith_68 rfl ?_
          refine jG_goto F 79 dX6_wrongWith_69 (by decide) ?_
          refine jG_istore_6n F dX6_wrongWith_79 (by decide) ?_
          refine jG_iload F dX6_wrongWith_81 rfl ?_
          refine jG_if_eq F 90 dX6_wrongWith_83 (by decide) (fun qz => absurd qz (by rw [jB01_pos q2]; decide)) (fun _ => ?_)
          refine jG_iload_n F dX6_wrongWith_86 rfl ?_
          refine jG_goto F 97 dX6_wrongWith_87 (by decide) ?_
          refine jG_istore_7n F dX6_wrongWith_97 (by decide) ?_
          exact mid _ _ _ (if_pos q2).symm (if_pos q2).symm
  refine jG_aload_n F dX6_wrongWith_0 rfl ?_
  refine jG_iconst F (v := (1 : Int32)) dX6_wrongWith_1 (by decide) ?_
  refine jp_X6_37 F dX6_wrongWith_2 (jw9_o hB) rfl rfl (Nat.le_of_ble_eq_true rfl) ?_
  refine jG_eq rfl rfl (jw9_pt hB) ?_
  refine jG_aload_n F dX6_wrongWith_5 rfl ?_
  refine jc_X6_34 F dX6_wrongWith_6 (jV1 hB (c_X6_clear (jw9_o hB) (jw9_l hB))) (jw9_o hB) (by decide) (Nat.le_refl 0) (Nat.le_refl 0) (Nat.le_of_ble_eq_true rfl) ?_
  refine jG_bipush F (v := (-4 : Int32)) dX6_wrongWith_9 (by decide) ?_
  refine jG_istore_n_3n F dX6_wrongWith_11 (by decide) ?_
  refine jG_iconst F (v := nI 0) dX6_wrongWith_12 (by decide) ?_
  refine jG_istore_4n F dX6_wrongWith_13 (by decide) ?_
  exact loop rm 0 _ [] (by omega) mclr_ok hR0
theorem c_X6_wrong (hB : B.length = m) (hr : rm ≤ 24) (hR : ∀ i, i < rm → jdn rd i < 16 ∧ rd i = nI (jdn rd i)) {R0 : Int32 × (Nat → Int32)} (hR0 : mww (jdn rd) rx ry (-1) (-1) (A 71) rm 0 (mclr P) = R0) : jMd l E yX6_wrong cX6_wrong 1 (some .int) 10 [.ref (E.1 + m)] (jw9 E B m km false bd ba bw rm A P K rd rx ry pr qs) (some (.int R0.1)) (jw9 E B m km false bd ba bw rm A (R0.2) K rd rx ry pr qs) 0 0 := by
  refine jMd_of (by decide) (Nat.le_of_ble_eq_true rfl) (by simp [Value.category]) (by first | rfl | simp [jw9_len]) (fun x hx F T hmm => ?_)
  have kw := c_X6_wrongWith (l := jL x) (E := E) (B := B) (m := m) (km := km) (bd := bd) (ba := ba) (bw := bw) (rm := rm) (A := A) (P := P) (K := K) (rd := rd) (rx := rx) (ry := ry) (pr := pr) (qs := qs) (a := -1) (b := -1) hB hr hR
  rw [hR0] at kw
  refine jG_aload_n F dX6_wrong_0 rfl ?_
  refine jG_iconst F (v := (-1 : Int32)) dX6_wrong_1 (by decide) ?_
  refine jG_iconst F (v := (-1 : Int32)) dX6_wrong_2 (by decide) ?_
  refine jc_X6_199 F dX6_wrong_3 (kw) (jw9_o hB) (by decide) (Nat.le_refl 0) (Nat.le_refl 0) (Nat.le_of_ble_eq_true rfl) ?_
  exact jG_iret F T (rfl) rfl (by first | rfl | exact jnarb _ | (split <;> rfl)) dX6_wrong_6
end MV3
