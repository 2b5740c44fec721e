/-! ===== JumpDiscsModel: shots, blows, the game told, points ===== -/
/-- the draw of a blow -/
def mdr7 (s : Int32) : Int32 := mdr s - mdr s / 7 * 7
def mbl1 (A : Nat → Int32) (k : Nat) : Nat → Int32 := mplc (upd (upd A 72 (mdr (A 72))) 72 (mdr (upd A 72 (mdr (A 72)) 72))) k (monm (mX A k + mdr7 (A 72) - 3)) (monm (mY (upd A 72 (mdr (A 72))) k + mdr7 (upd A 72 (mdr (A 72)) 72) - 3))
def mbl (A : Nat → Int32) (pl : Int32) : Nat → Nat → Int32
  | 0 => A
  | k + 1 => if (pl >>> (nI k &&& 31)) &&& 1 = 1 then mbl1 (mbl A pl k) k else mbl A pl k
theorem mbl_64 {A : Nat → Int32} {pl : Int32} : ∀ k, k ≤ 16 → mbl A pl k 64 = A 64
  | 0, _ => rfl
  | k + 1, h => by
    unfold mbl
    split
    · unfold mbl1
      rw [mplc_o (by decide) (by decide) (by omega)]
      have := mbl_64 (A := A) (pl := pl) k (by omega)
      simpa [upd] using this
    · exact mbl_64 k (by omega)
def mptF (A : Nat → Int32) (s : Nat) : Nat → Int32
  | 0 => mtwo (mrk A) s + mtwo (mrk A) (s + 2)
  | k + 1 => mptF A s k + (if ¬ mall A k then 0 else if k % 2 = s then 12 else -12)
section MV2
variable {l : Launch} {E : jE} {B : List va_E} {m km : Nat} {bd ba bw : Int32} {rm : Nat} {A P K rd rx ry pr qs : Nat → Int32} {v w a b c : Int32} {p t d : Nat}
theorem c_X6_shootB (hB : B.length = m) (h : ¬ (0 ≤ a ∧ a ≤ 15) ∨ ¬ jspot b c) : jMd l E yX6_shoot cX6_shoot 12 (some .int) 9 [.ref (E.1 + m), .int a, .int b, .int c] (jw9 E B m km false bd ba bw rm A P K rd rx ry pr qs) (some (.int (-1))) (jw9 E B m km false bd ba bw rm A P K rd rx ry pr qs) 0 0 := by
  refine jMd_of (by decide) (Nat.le_of_ble_eq_true rfl) (by simp [Value.category]) (by first | rfl | simp [jw9_len]) (fun x hx F T hmm => ?_)
  refine jG_iload_n F dX6_shoot_0 rfl ?_
  refine jc_X6_117 F dX6_shoot_1 (c_X6_isDisc) (by decide) (Nat.le_refl 0) (Nat.le_refl 0) (Nat.le_of_ble_eq_true rfl) ?_
  refine jG_if_eq F 15 dX6_shoot_4 (by decide) (fun q => ?_) (fun q => ?_)
  · refine jG_iconst F (v := (-1 : Int32)) dX6_shoot_15 (by decide) ?_
    exact jG_iret F T (rfl) rfl (by first | rfl | exact jnarb _ | (split <;> rfl)) dX6_shoot_16
  · have q := jB01_ne q
    refine jG_iload_n F dX6_shoot_7 rfl ?_
    refine jG_iload_n F dX6_shoot_8 rfl ?_
    refine jc_X6_120 F dX6_shoot_9 (c_X6_isSpot) (by decide) (Nat.le_refl 0) (Nat.le_refl 0) (Nat.le_of_ble_eq_true rfl) ?_
    refine jG_if_ne F 17 dX6_shoot_12 (by decide) (fun qz => absurd qz (fun z => h.elim (fun y => y q) (fun y => y (jB01_ne z)))) (fun _ => ?_)
    refine jG_iconst F (v := (-1 : Int32)) dX6_shoot_15 (by decide) ?_
    exact jG_iret F T (rfl) rfl (by first | rfl | exact jnarb _ | (split <;> rfl)) dX6_shoot_16
theorem c_X6_shootN (hB : B.length = m) (hd : d < 16) (hs : jspot a b) (ht : t < 4) (hA : A 64 = nI t) (h : ¬ mmay A d t) : jMd l E yX6_shoot cX6_shoot 12 (some .int) 9 [.ref (E.1 + m), .int (nI d), .int a, .int b] (jw9 E B m km false bd ba bw rm A P K rd rx ry pr qs) (some (.int (-2))) (jw9 E B m km false bd ba bw rm A P K rd rx ry pr qs) 0 0 := by
  refine jMd_of (by decide) (Nat.le_of_ble_eq_true rfl) (by simp [Value.category]) (by first | rfl | simp [jw9_len]) (fun x hx F T hmm => ?_)
  have hdi := jin_n (k := d) (n := 15) (by omega) (by decide) (m := 15) rfl
  refine jG_iload_n F dX6_shoot_0 rfl ?_
  refine jc_X6_117 F dX6_shoot_1 (c_X6_isDisc) (by decide) (Nat.le_refl 0) (Nat.le_refl 0) (Nat.le_of_ble_eq_true rfl) ?_
  refine jG_if_eq F 15 dX6_shoot_4 (by decide) (fun qz => absurd qz (by rw [jB01_pos hdi]; decide)) (fun _ => ?_)
  refine jG_iload_n F dX6_shoot_7 rfl ?_
  refine jG_iload_n F dX6_shoot_8 rfl ?_
  refine jc_X6_120 F dX6_shoot_9 (c_X6_isSpot) (by decide) (Nat.le_refl 0) (Nat.le_refl 0) (Nat.le_of_ble_eq_true rfl) ?_
  refine jG_if_ne F 17 dX6_shoot_12 (by decide) (fun _ => ?_) (fun qz => absurd qz (by rw [jB01_pos hs]; decide))
  refine jG_aload_n F dX6_shoot_17 rfl ?_
  refine jG_iload_n F dX6_shoot_18 rfl ?_
  refine jc_X6_143 F dX6_shoot_19 (jW hB (c_X6_mayShoot (jw9_o hB) (jw9_l hB) ht hA hd)) (jw9_o hB) (by decide) (Nat.le_refl 0) (Nat.le_refl 0) (Nat.le_of_ble_eq_true rfl) ?_
  refine jG_if_ne F 28 dX6_shoot_22 (by decide) (fun qz => absurd qz (fun z => h (jB01_ne z))) (fun _ => ?_)
  refine jG_bipush F (v := (-2 : Int32)) dX6_shoot_25 (by decide) ?_
  exact jG_iret F T (rfl) rfl (by first | rfl | exact jnarb _ | (split <;> rfl)) dX6_shoot_27
theorem c_X6_shoot {A1 A2 A3 A4 : Nat → Int32} {mm dx dy : Int32} {cp : Prop} [Decidable cp] (hB : B.length = m) (hd : d < 16) (hs : jspot a b) (ht : t < 4) (hA : A 64 = nI t) (h : mmay A d t) (h1 : upd A 72 (mdr (A 72)) = A1) (h2 : upd A1 72 (mdr (A1 72)) = A2) (hsp : mway (mX A d) (mY A d) a b / 8 + jsz (nI d) - 1 + A 69 = mm) (hn : ¬ 2 * mm + 1 = 0) (hdx : a + (mdr (A 72) - mdr (A 72) / (2 * mm + 1) * (2 * mm + 1)) - mm = dx) (hdy : b + (mdr (A1 72) - mdr (A1 72) / (2 * mm + 1) * (2 * mm + 1)) - mm = dy) (hcp : cp ↔ jcup dx dy) (h3 : (if cp then upd A2 d 2 else mplc A2 d (monm (dx + A2 70 * jsgn (a - mX A d))) (monm (dy + A2 70 * jsgn (b - mY A d)))) = A3) (h64 : A3 64 = nI t) (h4 : (if cp then mgo A3 (A3 71) t (¬ (1 : Int32) = 0) else mgo A3 (A3 71) t (¬ (0 : Int32) = 0)) = A4) : jMd l E yX6_shoot cX6_shoot 12 (some .int) 9 [.ref (E.1 + m), .int (nI d), .int a, .int b] (jw9 E B m km false bd ba bw rm A P K rd rx ry pr qs) (some (.int (jB01 cp))) (jw9 E B m km false bd ba bw rm (A4) P K rd rx ry pr qs) 0 0 := by
  refine jMd_of (by decide) (Nat.le_of_ble_eq_true rfl) (by simp [Value.category]) (by first | rfl | simp [jw9_len]) (fun x hx F T hmm => ?_)
  have hdi := jin_n (k := d) (n := 15) (by omega) (by decide) (m := 15) rfl
  have k1 := jW hB (c_X6_draw (l := jL x) (E := E) (A := A) (P := P) (n := 2 * mm + 1) (jw9_o (km := km) (o := false) (bd := bd) (ba := ba) (bw := bw) (rm := rm) (A := A) (P := P) (K := K) (rd := rd) (rx := rx) (ry := ry) (pr := pr) (qs := qs) hB) (jw9_l hB) hn)
  have k2 := jW hB (c_X6_draw (l := jL x) (E := E) (A := A1) (P := P) (n := 2 * mm + 1) (jw9_o (km := km) (o := false) (bd := bd) (ba := ba) (bw := bw) (rm := rm) (A := A1) (P := P) (K := K) (rd := rd) (rx := rx) (ry := ry) (pr := pr) (qs := qs) hB) (jw9_l hB) hn)
  have kg := fun b0 => jW hB (c_X6_goOn (l := jL x) (E := E) (A := A3) (P := P) (b := b0) (jw9_o (km := km) (o := false) (bd := bd) (ba := ba) (bw := bw) (rm := rm) (A := A3) (P := P) (K := K) (rd := rd) (rx := rx) (ry := ry) (pr := pr) (qs := qs) hB) (jw9_l hB) ht h64)
  rw [h1] at k1
  rw [h2] at k2
  generalize hr1 : mdr (A 72) - mdr (A 72) / (2 * mm + 1) * (2 * mm + 1) = r1 at k1 hdx
  generalize hr2 : mdr (A1 72) - mdr (A1 72) / (2 * mm + 1) * (2 * mm + 1) = r2 at k2 hdy
  refine jG_iload_n F dX6_shoot_0 rfl ?_
  refine jc_X6_117 F dX6_shoot_1 (c_X6_isDisc) (by decide) (Nat.le_refl 0) (Nat.le_refl 0) (Nat.le_of_ble_eq_true rfl) ?_
  refine jG_if_eq F 15 dX6_shoot_4 (by decide) (fun qz => absurd qz (by rw [jB01_pos hdi]; decide)) (fun _ => ?_)
  refine jG_iload_n F dX6_shoot_7 rfl ?_
  refine jG_iload_n F dX6_shoot_8 rfl ?_
  refine jc_X6_120 F dX6_shoot_9 (c_X6_isSpot) (by decide) (Nat.le_refl 0) (Nat.le_refl 0) (Nat.le_of_ble_eq_true rfl) ?_
  refine jG_if_ne F 17 dX6_shoot_12 (by decide) (fun _ => ?_) (fun qz => absurd qz (by rw [jB01_pos hs]; decide))
  refine jG_aload_n F dX6_shoot_17 rfl ?_
  refine jG_iload_n F dX6_shoot_18 rfl ?_
  refine jc_X6_143 F dX6_shoot_19 (jW hB (c_X6_mayShoot (jw9_o hB) (jw9_l hB) ht hA hd)) (jw9_o hB) (by decide) (Nat.le_refl 0) (Nat.le_refl 0) (Nat.le_of_ble_eq_true rfl) ?_
  refine jG_if_ne F 28 dX6_shoot_22 (by decide) (fun _ => ?_) (fun qz => absurd qz (by rw [jB01_pos h]; decide))
  refine jG_aload_n F dX6_shoot_28 rfl ?_
  refine jG_iload_n F dX6_shoot_29 rfl ?_
  refine jc_X6_58 F dX6_shoot_30 (jW hB (c_X6_xOf (jw9_o hB) (jw9_l hB) (by omega))) (jw9_o hB) (by decide) (Nat.le_refl 0) (Nat.le_refl 0) (Nat.le_of_ble_eq_true rfl) ?_
  refine jG_istore_4n F dX6_shoot_33 (by decide) ?_
  refine jG_aload_n F dX6_shoot_35 rfl ?_
  refine jG_iload_n F dX6_shoot_36 rfl ?_
  refine jc_X6_65 F dX6_shoot_37 (jW hB (c_X6_yOf (jw9_o hB) (jw9_l hB) (by omega))) (jw9_o hB) (by decide) (Nat.le_refl 0) (Nat.le_refl 0) (Nat.le_of_ble_eq_true rfl) ?_
  refine jG_istore_5n F dX6_shoot_40 (by decide) ?_
  refine jG_iload F dX6_shoot_42 rfl ?_
  refine jG_iload F dX6_shoot_44 rfl ?_
  refine jG_iload_n F dX6_shoot_46 rfl ?_
  refine jG_iload_n F dX6_shoot_47 rfl ?_
  refine jc_X6_146 F dX6_shoot_48 (c_X6_wayOf) (by decide) (Nat.le_refl 0) (Nat.le_refl 0) (Nat.le_of_ble_eq_true rfl) ?_
  refine jG_bipush F (v := (8 : Int32)) dX6_shoot_51 (by decide) ?_
  refine jG_idiv F dX6_shoot_53 (by decide) ?_
  refine jG_iload_n F dX6_shoot_54 rfl ?_
  refine jc_X6_68 F dX6_shoot_55 (c_X6_sizeOf) (by decide) (Nat.le_refl 0) (Nat.le_refl 0) (Nat.le_of_ble_eq_true rfl) ?_
  refine jG_iadd F dX6_shoot_58 ?_
  refine jG_iconst F (v := (1 : Int32)) dX6_shoot_59 (by decide) ?_
  refine jG_isub F dX6_shoot_60 ?_
  refine jG_aload_n F dX6_shoot_61 rfl ?_
  refine jg_X6_7 F dX6_shoot_62 (jw9_o hB) rfl ?_
  refine jG_bipush F (v := nI 69) dX6_shoot_65 (by decide) ?_
  refine jG_iald F dX6_shoot_67 (jw9_1 hB) rfl (by omega) (by decide) ?_
  refine jG_iadd F dX6_shoot_68 ?_
  refine jG_eq rfl (show _ = [Value.int mm] by rw [hsp]) rfl ?_
  refine jG_istore_6n F dX6_shoot_69 (by decide) ?_
  refine jG_iload_n F dX6_shoot_71 rfl ?_
  refine jG_aload_n F dX6_shoot_72 rfl ?_
  refine jG_iconst F (v := (2 : Int32)) dX6_shoot_73 (by decide) ?_
  refine jG_iload F dX6_shoot_74 rfl ?_
  refine jG_imul F dX6_shoot_76 ?_
  refine jG_iconst F (v := (1 : Int32)) dX6_shoot_77 (by decide) ?_
  refine jG_iadd F dX6_shoot_78 ?_
  refine jc_X6_150 F dX6_shoot_79 (k1) (jw9_o hB) (by decide) (Nat.le_refl 0) (Nat.le_refl 0) (Nat.le_of_ble_eq_true rfl) ?_
  refine jG_iadd F dX6_shoot_82 ?_
  refine jG_iload F dX6_shoot_83 rfl ?_
  refine jG_isub F dX6_shoot_85 ?_
  refine jG_eq rfl (show _ = [Value.int dx] by rw [hdx]) rfl ?_
  refine jG_istore_7n F dX6_shoot_86 (by decide) ?_
  refine jG_iload_n F dX6_shoot_88 rfl ?_
  refine jG_aload_n F dX6_shoot_89 rfl ?_
  refine jG_iconst F (v := (2 : Int32)) dX6_shoot_90 (by decide) ?_
  refine jG_iload F dX6_shoot_91 rfl ?_
  refine jG_imul F dX6_shoot_93 ?_
  refine jG_iconst F (v := (1 : Int32)) dX6_shoot_94 (by decide) ?_
  refine jG_iadd F dX6_shoot_95 ?_
  refine jc_X6_150 F dX6_shoot_96 (k2) (jw9_o hB) (by decide) (Nat.le_refl 0) (Nat.le_refl 0) (Nat.le_of_ble_eq_true rfl) ?_
  refine jG_iadd F dX6_shoot_99 ?_
  refine jG_iload F dX6_shoot_100 rfl ?_
  refine jG_isub F dX6_shoot_102 ?_
  refine jG_eq rfl (show _ = [Value.int dy] by rw [hdy]) rfl ?_
  refine jG_istore_8n F dX6_shoot_103 (by decide) ?_
  refine jG_iload F dX6_shoot_105 rfl ?_
  refine jG_bipush F (v := (20 : Int32)) dX6_shoot_107 (by decide) ?_
  refine jG_isub F dX6_shoot_109 ?_
  refine jG_istore_9n F dX6_shoot_110 (by decide) ?_
  refine jG_iload F dX6_shoot_112 rfl ?_
  refine jG_bipush F (v := (20 : Int32)) dX6_shoot_114 (by decide) ?_
  refine jG_isub F dX6_shoot_116 ?_
  refine jG_istore_10n F dX6_shoot_117 (by decide) ?_
  refine jG_iload F dX6_shoot_119 rfl ?_
  refine jG_iload F dX6_shoot_121 rfl ?_
  refine jG_imul F dX6_shoot_123 ?_
  refine jG_iload F dX6_shoot_124 rfl ?_
  refine jG_iload F dX6_shoot_126 rfl ?_
  refine jG_imul F dX6_shoot_128 ?_
  refine jG_iadd F dX6_shoot_129 ?_
  refine jG_iconst F (v := (4 : Int32)) dX6_shoot_130 (by decide) ?_
  refine jG_icmp_gt F 138 dX6_shoot_131 (by decide) (fun q => ?_) (fun q => ?_)
  · have q : ¬ cp := fun z => absurd (hcp.mp z) (Int32.not_le.mpr q)
    rw [if_neg q] at h3 h4
    refine jG_iconst F (v := (0 : Int32)) dX6_shoot_138 (by decide) ?_
    refine jG_istore_11n F dX6_shoot_139 (by decide) ?_
    refine jG_iload F dX6_shoot_141 rfl ?_
    refine jG_if_eq F 155 dX6_shoot_143 (by decide) (fun _ => ?_) (fun qz => absurd rfl qz)
    refine jG_aload_n F dX6_shoot_155 rfl ?_
    refine jG_iload_n F dX6_shoot_156 rfl ?_
    refine jG_iload F dX6_shoot_157 rfl ?_
    refine jG_aload_n F dX6_shoot_159 rfl ?_
    refine jg_X6_7 F dX6_shoot_160 (jw9_o hB) rfl ?_
    refine jG_bipush F (v := nI 70) dX6_shoot_163 (by decide) ?_
    refine jG_iald F dX6_shoot_165 (jw9_1 hB) rfl (by omega) (by decide) ?_
    refine jG_iload_n F dX6_shoot_166 rfl ?_
    refine jG_iload F dX6_shoot_167 rfl ?_
    refine jG_isub F dX6_shoot_169 ?_
    refine jc_X6_153 F dX6_shoot_170 (c_X6_sign) (by decide) (Nat.le_refl 0) (Nat.le_refl 0) (Nat.le_of_ble_eq_true rfl) ?_
    refine jG_imul F dX6_shoot_173 ?_
    refine jG_iadd F dX6_shoot_174 ?_
    refine jc_X6_156 F dX6_shoot_175 (c_X6_onMat) (by decide) (Nat.le_refl 0) (Nat.le_refl 0) (Nat.le_of_ble_eq_true rfl) ?_
    refine jG_iload F dX6_shoot_178 rfl ?_
    refine jG_aload_n F dX6_shoot_180 rfl ?_
    refine jg_X6_7 F dX6_shoot_181 (jw9_o hB) rfl ?_
    refine jG_bipush F (v := nI 70) dX6_shoot_184 (by decide) ?_
    refine jG_iald F dX6_shoot_186 (jw9_1 hB) rfl (by omega) (by decide) ?_
    refine jG_iload_n F dX6_shoot_187 rfl ?_
    refine jG_iload F dX6_shoot_188 rfl ?_
    refine jG_isub F dX6_shoot_190 ?_
    refine jc_X6_153 F dX6_shoot_191 (c_X6_sign) (by decide) (Nat.le_refl 0) (Nat.le_refl 0) (Nat.le_of_ble_eq_true rfl) ?_
    refine jG_imul F dX6_shoot_194 ?_
    refine jG_iadd F dX6_shoot_195 ?_
    refine jc_X6_156 F dX6_shoot_196 (c_X6_onMat) (by decide) (Nat.le_refl 0) (Nat.le_refl 0) (Nat.le_of_ble_eq_true rfl) ?_
    refine jc_X6_129 F dX6_shoot_199 (jW hB (c_X6_place (jw9_o hB) (jw9_l hB) hd)) (jw9_o hB) (by decide) (Nat.le_refl 0) (Nat.le_refl 0) (Nat.le_of_ble_eq_true rfl) ?_
    refine jG_eq rfl rfl (show _ = (jw9 E B m km false bd ba bw rm (A3) P K rd rx ry pr qs) by rw [h3]) ?_
    refine jG_aload_n F dX6_shoot_202 rfl ?_
    refine jG_iload F dX6_shoot_203 rfl ?_
    refine jc_X6_159 F dX6_shoot_205 (kg 0) (jw9_o hB) (by decide) (Nat.le_refl 0) (Nat.le_refl 0) (Nat.le_of_ble_eq_true rfl) ?_
    refine jG_eq rfl rfl (show _ = (jw9 E B m km false bd ba bw rm (A4) P K rd rx ry pr qs) by rw [← h4]; rfl) ?_
    refine jG_iload F dX6_shoot_208 rfl ?_
    refine jG_if_eq F 217 dX6_shoot_210 (by decide) (fun _ => ?_) (fun qz => absurd rfl qz)
    refine jG_iconst F (v := (0 : Int32)) dX6_shoot_217 (by decide) ?_
    exact jG_iret F T ((jB01_neg q).symm) rfl (by first | rfl | exact jnarb _ | (split <;> rfl)) dX6_shoot_218
  · have q : cp := hcp.mpr (Int32.not_lt.mp q)
    rw [if_pos q] at h3 h4
    refine jG_iconst F (v := (1 : Int32)) dX6_shoot_134 (by decide) ?_
    refine jG_goto F 139 dX6_shoot_135 (by decide) ?_
    refine jG_istore_11n F dX6_shoot_139 (by decide) ?_
    refine jG_iload F dX6_shoot_141 rfl ?_
    refine jG_if_eq F 155 dX6_shoot_143 (by decide) (fun qz => absurd qz (by decide)) (fun _ => ?_)
    refine jG_aload_n F dX6_shoot_146 rfl ?_
    refine jG_iload_n F dX6_shoot_147 rfl ?_
    refine jG_iconst F (v := (2 : Int32)) dX6_shoot_148 (by decide) ?_
    refine jc_X6_54 F dX6_shoot_149 (jW hB (c_X6_lay (jw9_o hB) (jw9_l hB) rfl (by omega))) (jw9_o hB) (by decide) (Nat.le_refl 0) (Nat.le_refl 0) (Nat.le_of_ble_eq_true rfl) ?_
    refine jG_goto F 202 dX6_shoot_152 (by decide) ?_
    refine jG_eq rfl rfl (show _ = (jw9 E B m km false bd ba bw rm (A3) P K rd rx ry pr qs) by rw [h3]) ?_
    refine jG_aload_n F dX6_shoot_202 rfl ?_
    refine jG_iload F dX6_shoot_203 rfl ?_
    refine jc_X6_159 F dX6_shoot_205 (kg 1) (jw9_o hB) (by decide) (Nat.le_refl 0) (Nat.le_refl 0) (Nat.le_of_ble_eq_true rfl) ?_
    refine jG_eq rfl rfl (show _ = (jw9 E B m km false bd ba bw rm (A4) P K rd rx ry pr qs) by rw [← h4]; rfl) ?_
    refine jG_iload F dX6_shoot_208 rfl ?_
    refine jG_if_eq F 217 dX6_shoot_210 (by decide) (fun qz => absurd qz (by decide)) (fun _ => ?_)
    refine jG_iconst F (v := (1 : Int32)) dX6_shoot_213 (by decide) ?_
    refine jG_goto F 218 dX6_shoot_214 (by decide) ?_
    exact jG_iret F T ((jB01_pos q).symm) rfl (by first | rfl | exact jnarb _ | (split <;> rfl)) dX6_shoot_218
theorem c_X6_blowB (hB : B.length = m) (h : ¬ (0 ≤ a ∧ a ≤ 15)) : jMd l E yX6_blow cX6_blow 6 (some .int) 9 [.ref (E.1 + m), .int a] (jw9 E B m km false bd ba bw rm A P K rd rx ry pr qs) (some (.int (-1))) (jw9 E B m km false bd ba bw rm A P K rd rx ry pr qs) 0 0 := by
  refine jMd_of (by decide) (Nat.le_of_ble_eq_true rfl) (by simp [Value.category]) (by first | rfl | simp [jw9_len]) (fun x hx F T hmm => ?_)
  refine jG_iload_n F dX6_blow_0 rfl ?_
  refine jc_X6_117 F dX6_blow_1 (c_X6_isDisc) (by decide) (Nat.le_refl 0) (Nat.le_refl 0) (Nat.le_of_ble_eq_true rfl) ?_
  refine jG_if_ne F 9 dX6_blow_4 (by decide) (fun qz => absurd qz (fun z => h (jB01_ne z))) (fun _ => ?_)
  refine jG_iconst F (v := (-1 : Int32)) dX6_blow_7 (by decide) ?_
  exact jG_iret F T (rfl) rfl (by first | rfl | exact jnarb _ | (split <;> rfl)) dX6_blow_8
theorem c_X6_blowN {pl : Int32} (hB : B.length = m) (hd : d < 16) (ht : t < 4) (hA : A 64 = nI t) (hpl : mpile A d = pl) (hb : ¬ jbit d = 0) (hfix : mstp A (mitr A (jbit d) 16) 16 = mitr A (jbit d) 16) (h : ¬ mmay A d t ∨ pl &&& (pl - 1) = 0) : jMd l E yX6_blow cX6_blow 6 (some .int) 9 [.ref (E.1 + m), .int (nI d)] (jw9 E B m km false bd ba bw rm A P K rd rx ry pr qs) (some (.int (-2))) (jw9 E B m km false bd ba bw rm A P K rd rx ry pr qs) 0 0 := by
  refine jMd_of (by decide) (Nat.le_of_ble_eq_true rfl) (by simp [Value.category]) (by first | rfl | simp [jw9_len]) (fun x hx F T hmm => ?_)
  have hdi := jin_n (k := d) (n := 15) (by omega) (by decide) (m := 15) rfl
  have kp := jW hB (c_X6_pile (l := jL x) (E := E) (A := A) (P := P) (jw9_o (km := km) (o := false) (bd := bd) (ba := ba) (bw := bw) (rm := rm) (A := A) (P := P) (K := K) (rd := rd) (rx := rx) (ry := ry) (pr := pr) (qs := qs) hB) (jw9_l hB) hd hb hfix)
  rw [show (if A d = 1 then mitr A (jbit d) 16 else 0) = pl from hpl] at kp
  refine jG_iload_n F dX6_blow_0 rfl ?_
  refine jc_X6_117 F dX6_blow_1 (c_X6_isDisc) (by decide) (Nat.le_refl 0) (Nat.le_refl 0) (Nat.le_of_ble_eq_true rfl) ?_
  refine jG_if_ne F 9 dX6_blow_4 (by decide) (fun _ => ?_) (fun qz => absurd qz (by rw [jB01_pos hdi]; decide))
  refine jG_aload_n F dX6_blow_9 rfl ?_
  refine jG_iload_n F dX6_blow_10 rfl ?_
  refine jc_X6_133 F dX6_blow_11 (kp) (jw9_o hB) (by decide) (Nat.le_refl 0) (Nat.le_refl 0) (Nat.le_of_ble_eq_true rfl) ?_
  refine jG_istore_n_2n F dX6_blow_14 (by decide) ?_
  refine jG_aload_n F dX6_blow_15 rfl ?_
  refine jG_iload_n F dX6_blow_16 rfl ?_
  refine jc_X6_143 F dX6_blow_17 (jW hB (c_X6_mayShoot (jw9_o hB) (jw9_l hB) ht hA hd)) (jw9_o hB) (by decide) (Nat.le_refl 0) (Nat.le_refl 0) (Nat.le_of_ble_eq_true rfl) ?_
  refine jG_if_eq F 31 dX6_blow_20 (by decide) (fun q => ?_) (fun q => ?_)
  · refine jG_bipush F (v := (-2 : Int32)) dX6_blow_31 (by decide) ?_
    exact jG_iret F T (rfl) rfl (by first | rfl | exact jnarb _ | (split <;> rfl)) dX6_blow_33
  · have q := jB01_ne q
    refine jG_iload_n F dX6_blow_23 rfl ?_
    refine jG_iload_n F dX6_blow_24 rfl ?_
    refine jG_iconst F (v := (1 : Int32)) dX6_blow_25 (by decide) ?_
    refine jG_isub F dX6_blow_26 ?_
    refine jG_iand F dX6_blow_27 ?_
    refine jG_if_ne F 34 dX6_blow_28 (by decide) (fun qz => absurd qz (fun z => z (h.resolve_left (fun y => y q)))) (fun _ => ?_)
    refine jG_bipush F (v := (-2 : Int32)) dX6_blow_31 (by decide) ?_
    exact jG_iret F T (rfl) rfl (by first | rfl | exact jnarb _ | (split <;> rfl)) dX6_blow_33
theorem c_X6_blow {pl : Int32} {A2 A3 : Nat → Int32} (hB : B.length = m) (hd : d < 16) (ht : t < 4) (hA : A 64 = nI t) (hpl : mpile A d = pl) (hb : ¬ jbit d = 0) (hfix : mstp A (mitr A (jbit d) 16) 16 = mitr A (jbit d) 16) (hmy : mmay A d t) (h : ¬ pl &&& (pl - 1) = 0) (h2 : mbl A pl 16 = A2) (h3 : mgo A2 (A2 71) t (¬ (0 : Int32) = 0) = A3) : jMd l E yX6_blow cX6_blow 6 (some .int) 9 [.ref (E.1 + m), .int (nI d)] (jw9 E B m km false bd ba bw rm A P K rd rx ry pr qs) (some (.int pl)) (jw9 E B m km false bd ba bw rm (A3) P K rd rx ry pr qs) 0 0 := by
  refine jMd_of (by decide) (Nat.le_of_ble_eq_true rfl) (by simp [Value.category]) (by first | rfl | simp [jw9_len]) (fun x hx F T hmm => ?_)
  have hdi := jin_n (k := d) (n := 15) (by omega) (by decide) (m := 15) rfl
  have kp := jW hB (c_X6_pile (l := jL x) (E := E) (A := A) (P := P) (jw9_o (km := km) (o := false) (bd := bd) (ba := ba) (bw := bw) (rm := rm) (A := A) (P := P) (K := K) (rd := rd) (rx := rx) (ry := ry) (pr := pr) (qs := qs) hB) (jw9_l hB) hd hb hfix)
  rw [show (if A d = 1 then mitr A (jbit d) 16 else 0) = pl from hpl] at kp
  have h64 : A2 64 = nI t := by rw [← h2, mbl_64 16 (by decide)]; exact hA
  have loop : ∀ k, k ≤ 16 → ∀ r, jG E x 0 0 36 (.ref (E.1 + m) :: .int (nI d) :: .int pl :: .int (nI k) :: r) [] (jw9 E B m km false bd ba bw rm (mbl A pl k) P K rd rx ry pr qs) := by
    refine jup 16 _ ?_ ?_
    · intro r
      rw [h2]
      refine jG_iload_n F dX6_blow_36 rfl ?_
      refine jG_bipush F (v := nI 16) dX6_blow_37 (by decide) ?_
      refine jG_icmp_ge F 104 dX6_blow_39 (by decide) (fun _ => ?_) (fun q => absurd (nI_le (Nat.le_refl 16) (by decide)) q)
      refine jG_aload_n F dX6_blow_104 rfl ?_
      refine jG_iconst F (v := (0 : Int32)) dX6_blow_105 (by decide) ?_
      refine jc_X6_159 F dX6_blow_106 (jW hB (c_X6_goOn (jw9_o hB) (jw9_l hB) ht h64)) (jw9_o hB) (by decide) (Nat.le_refl 0) (Nat.le_refl 0) (Nat.le_of_ble_eq_true rfl) ?_
      refine jG_eq rfl rfl (show _ = (jw9 E B m km false bd ba bw rm (A3) P K rd rx ry pr qs) by rw [← h3]; rfl) ?_
      refine jG_iload_n F dX6_blow_109 rfl ?_
      exact jG_iret F T (rfl) rfl (by first | rfl | exact jnarb _ | (split <;> rfl)) dX6_blow_110
    · intro k hk ih r
      refine jG_take 4 ?_
      have es : mbl A pl (k + 1) = if (pl >>> (nI k &&& 31)) &&& 1 = 1 then mbl1 (mbl A pl k) k else mbl A pl k := rfl
      generalize mbl A pl (k + 1) = Y1 at es ih
      generalize mbl A pl k = Y at es ⊢
      refine jG_iload_n F dX6_blow_36 rfl ?_
      refine jG_bipush F (v := nI 16) dX6_blow_37 (by decide) ?_
      refine jG_icmp_ge F 104 dX6_blow_39 (by decide) (fun q => absurd q (nI_ge hk (by decide))) (fun _ => ?_)
      refine jG_iload_n F dX6_blow_42 rfl ?_
      refine jG_iload_n F dX6_blow_43 rfl ?_
      refine jG_ishr F dX6_blow_44 ?_
      refine jG_iconst F (v := (1 : Int32)) dX6_blow_45 (by decide) ?_
      refine jG_iand F dX6_blow_46 ?_
      refine jG_iconst F (v := (1 : Int32)) dX6_blow_47 (by decide) ?_
      refine jG_icmp_ne F 98 dX6_blow_48 (by decide) (fun q => ?_) (fun q => ?_)
      · rw [if_neg q] at es
        refine jG_iinc_3 F (w := nI (k + 1)) dX6_blow_98 (jinc k) (by decide) ?_
        refine jG_goto F 36 dX6_blow_101 (by decide) ?_
        rw [← es]
        exact ih _
      · rw [if_pos q] at es
        refine jG_aload_n F dX6_blow_51 rfl ?_
        refine jG_iload_n F dX6_blow_52 rfl ?_
        refine jc_X6_58 F dX6_blow_53 (jW hB (c_X6_xOf (jw9_o hB) (jw9_l hB) hk)) (jw9_o hB) (by decide) (Nat.le_refl 0) (Nat.le_refl 0) (Nat.le_of_ble_eq_true rfl) ?_
        refine jG_aload_n F dX6_blow_56 rfl ?_
        refine jG_bipush F (v := (7 : Int32)) dX6_blow_57 (by decide) ?_
        refine jc_X6_150 F dX6_blow_59 (jW hB (c_X6_draw (jw9_o hB) (jw9_l hB) (by decide))) (jw9_o hB) (by decide) (Nat.le_refl 0) (Nat.le_refl 0) (Nat.le_of_ble_eq_true rfl) ?_
        refine jG_iadd F dX6_blow_62 ?_
        refine jG_iconst F (v := (3 : Int32)) dX6_blow_63 (by decide) ?_
        refine jG_isub F dX6_blow_64 ?_
        refine jG_istore_4n F dX6_blow_65 (by decide) ?_
        refine jG_aload_n F dX6_blow_67 rfl ?_
        refine jG_iload_n F dX6_blow_68 rfl ?_
        refine jc_X6_65 F dX6_blow_69 (jW hB (c_X6_yOf (jw9_o hB) (jw9_l hB) hk)) (jw9_o hB) (by decide) (Nat.le_refl 0) (Nat.le_refl 0) (Nat.le_of_ble_eq_true rfl) ?_
        refine jG_aload_n F dX6_blow_72 rfl ?_
        refine jG_bipush F (v := (7 : Int32)) dX6_blow_73 (by decide) ?_
        refine jc_X6_150 F dX6_blow_75 (jW hB (c_X6_draw (jw9_o hB) (jw9_l hB) (by decide))) (jw9_o hB) (by decide) (Nat.le_refl 0) (Nat.le_refl 0) (Nat.le_of_ble_eq_true rfl) ?_
        refine jG_iadd F dX6_blow_78 ?_
        refine jG_iconst F (v := (3 : Int32)) dX6_blow_79 (by decide) ?_
        refine jG_isub F dX6_blow_80 ?_
        refine jG_istore_5n F dX6_blow_81 (by decide) ?_
        refine jG_aload_n F dX6_blow_83 rfl ?_
        refine jG_iload_n F dX6_blow_84 rfl ?_
        refine jG_iload F dX6_blow_85 rfl ?_
        refine jc_X6_156 F dX6_blow_87 (c_X6_onMat) (by decide) (Nat.le_refl 0) (Nat.le_refl 0) (Nat.le_of_ble_eq_true rfl) ?_
        refine jG_iload F dX6_blow_90 rfl ?_
        refine jc_X6_156 F dX6_blow_92 (c_X6_onMat) (by decide) (Nat.le_refl 0) (Nat.le_refl 0) (Nat.le_of_ble_eq_true rfl) ?_
        refine jc_X6_129 F dX6_blow_95 (jW hB (c_X6_place (jw9_o hB) (jw9_l hB) hk)) (jw9_o hB) (by decide) (Nat.le_refl 0) (Nat.le_refl 0) (Nat.le_of_ble_eq_true rfl) ?_
        refine jG_eq rfl rfl (show _ = (jw9 E B m km false bd ba bw rm (Y1) P K rd rx ry pr qs) by rw [es]; rfl) ?_
        refine jG_iinc_3 F (w := nI (k + 1)) dX6_blow_98 (jinc k) (by decide) ?_
        refine jG_goto F 36 dX6_blow_101 (by decide) ?_
        exact ih _
  refine jG_iload_n F dX6_blow_0 rfl ?_
  refine jc_X6_117 F dX6_blow_1 (c_X6_isDisc) (by decide) (Nat.le_refl 0) (Nat.le_refl 0) (Nat.le_of_ble_eq_true rfl) ?_
  refine jG_if_ne F 9 dX6_blow_4 (by decide) (fun _ => ?_) (fun qz => absurd qz (by rw [jB01_pos hdi]; decide))
  refine jG_aload_n F dX6_blow_9 rfl ?_
  refine jG_iload_n F dX6_blow_10 rfl ?_
  refine jc_X6_133 F dX6_blow_11 (kp) (jw9_o hB) (by decide) (Nat.le_refl 0) (Nat.le_refl 0) (Nat.le_of_ble_eq_true rfl) ?_
  refine jG_istore_n_2n F dX6_blow_14 (by decide) ?_
  refine jG_aload_n F dX6_blow_15 rfl ?_
  refine jG_iload_n F dX6_blow_16 rfl ?_
  refine jc_X6_143 F dX6_blow_17 (jW hB (c_X6_mayShoot (jw9_o hB) (jw9_l hB) ht hA hd)) (jw9_o hB) (by decide) (Nat.le_refl 0) (Nat.le_refl 0) (Nat.le_of_ble_eq_true rfl) ?_
  refine jG_if_eq F 31 dX6_blow_20 (by decide) (fun qz => absurd qz (by rw [jB01_pos hmy]; decide)) (fun _ => ?_)
  refine jG_iload_n F dX6_blow_23 rfl ?_
  refine jG_iload_n F dX6_blow_24 rfl ?_
  refine jG_iconst F (v := (1 : Int32)) dX6_blow_25 (by decide) ?_
  refine jG_isub F dX6_blow_26 ?_
  refine jG_iand F dX6_blow_27 ?_
  refine jG_if_ne F 34 dX6_blow_28 (by decide) (fun _ => ?_) (fun qz => absurd qz h)
  refine jG_iconst F (v := nI 0) dX6_blow_34 (by decide) ?_
  refine jG_istore_n_3n F dX6_blow_35 (by decide) ?_
  exact loop 0 (by decide) _
theorem c_X6_game0 (hB : B.length = m) : jMd l E yX6_game cX6_game 3 (some .int) 8 [.ref (E.1 + m), .int 0] (jw9 E B m km false bd ba bw rm A P K rd rx ry pr qs) (some (.int (if mover A then -4 else A 64))) (jw9 E B m km false bd ba bw rm A P K rd rx ry pr qs) 0 0 := by
  refine jMd_of (by decide) (Nat.le_of_ble_eq_true rfl) (by simp [Value.category]) (by first | rfl | simp [jw9_len]) (fun x hx F T hmm => ?_)
  refine jG_aload_n F dX6_game_0 rfl ?_
  refine jc_X6_113 F dX6_game_1 (jW hB (c_X6_isOver (jw9_o hB) (jw9_l hB))) (jw9_o hB) (by decide) (Nat.le_refl 0) (Nat.le_refl 0) (Nat.le_of_ble_eq_true rfl) ?_
  refine jG_istore_n_2n F dX6_game_4 (by decide) ?_
  refine jG_iload_n F dX6_game_5 rfl ?_
  refine jG_tableIn F 40 dX6_game_6 (by decide) (by decide) rfl (by decide) ?_
  refine jG_iload_n F dX6_game_40 rfl ?_
  refine jG_if_eq F 49 dX6_game_41 (by decide) (fun q => ?_) (fun q => ?_)
  · refine jG_aload_n F dX6_game_49 rfl ?_
    refine jc_X6_102 F dX6_game_50 (jW hB (c_X6_turn (jw9_o hB) (jw9_l hB))) (jw9_o hB) (by decide) (Nat.le_refl 0) (Nat.le_refl 0) (Nat.le_of_ble_eq_true rfl) ?_
    exact jG_iret F T ((if_neg (jB01_eq q)).symm) rfl (by first | rfl | exact jnarb _ | (split <;> rfl)) dX6_game_53
  · refine jG_bipush F (v := (-4 : Int32)) dX6_game_44 (by decide) ?_
    refine jG_goto F 53 dX6_game_46 (by decide) ?_
    exact jG_iret F T ((if_pos (jB01_ne q)).symm) rfl (by first | rfl | exact jnarb _ | (split <;> rfl)) dX6_game_53
theorem c_X6_game1 (hB : B.length = m) : jMd l E yX6_game cX6_game 3 (some .int) 8 [.ref (E.1 + m), .int 1] (jw9 E B m km false bd ba bw rm A P K rd rx ry pr qs) (some (.int (A 65))) (jw9 E B m km false bd ba bw rm A P K rd rx ry pr qs) 0 0 := by
  refine jMd_of (by decide) (Nat.le_of_ble_eq_true rfl) (by simp [Value.category]) (by first | rfl | simp [jw9_len]) (fun x hx F T hmm => ?_)
  refine jG_aload_n F dX6_game_0 rfl ?_
  refine jc_X6_113 F dX6_game_1 (jW hB (c_X6_isOver (jw9_o hB) (jw9_l hB))) (jw9_o hB) (by decide) (Nat.le_refl 0) (Nat.le_refl 0) (Nat.le_of_ble_eq_true rfl) ?_
  refine jG_istore_n_2n F dX6_game_4 (by decide) ?_
  refine jG_iload_n F dX6_game_5 rfl ?_
  refine jG_tableIn F 54 dX6_game_6 (by decide) (by decide) rfl (by decide) ?_
  refine jG_aload_n F dX6_game_54 rfl ?_
  refine jc_X6_98 F dX6_game_55 (jW hB (c_X6_gone (jw9_o hB) (jw9_l hB))) (jw9_o hB) (by decide) (Nat.le_refl 0) (Nat.le_refl 0) (Nat.le_of_ble_eq_true rfl) ?_
  exact jG_iret F T (rfl) rfl (by first | rfl | exact jnarb _ | (split <;> rfl)) dX6_game_58
theorem c_X6_game2 (hB : B.length = m) : jMd l E yX6_game cX6_game 3 (some .int) 8 [.ref (E.1 + m), .int 2] (jw9 E B m km false bd ba bw rm A P K rd rx ry pr qs) (some (.int (if mcome A then (if A 67 = 0 then 5 else 6 - A 67) else -4))) (jw9 E B m km false bd ba bw rm A P K rd rx ry pr qs) 0 0 := by
  refine jMd_of (by decide) (Nat.le_of_ble_eq_true rfl) (by simp [Value.category]) (by first | rfl | simp [jw9_len]) (fun x hx F T hmm => ?_)
  refine jG_aload_n F dX6_game_0 rfl ?_
  refine jc_X6_113 F dX6_game_1 (jW hB (c_X6_isOver (jw9_o hB) (jw9_l hB))) (jw9_o hB) (by decide) (Nat.le_refl 0) (Nat.le_refl 0) (Nat.le_of_ble_eq_true rfl) ?_
  refine jG_istore_n_2n F dX6_game_4 (by decide) ?_
  refine jG_iload_n F dX6_game_5 rfl ?_
  refine jG_tableIn F 59 dX6_game_6 (by decide) (by decide) rfl (by decide) ?_
  refine jG_aload_n F dX6_game_59 rfl ?_
  refine jc_X6_84 F dX6_game_60 (jW hB (c_X6_isCome (jw9_o hB) (jw9_l hB))) (jw9_o hB) (by decide) (Nat.le_refl 0) (Nat.le_refl 0) (Nat.le_of_ble_eq_true rfl) ?_
  refine jG_if_ne F 71 dX6_game_63 (by decide) (fun q => ?_) (fun q => ?_)
  · rw [if_pos (jB01_ne q)] at T
    refine jG_aload_n F dX6_game_71 rfl ?_
    refine jG_bipush F (v := nI 67) dX6_game_72 (by decide) ?_
    refine jc_X6_41 F dX6_game_74 (jW hB (c_X6_at (jw9_o hB) (jw9_l hB) rfl (by omega))) (jw9_o hB) (by decide) (Nat.le_refl 0) (Nat.le_refl 0) (Nat.le_of_ble_eq_true rfl) ?_
    refine jG_if_ne F 84 dX6_game_77 (by decide) (fun q2 => ?_) (fun q2 => ?_)
    · refine jG_bipush F (v := (6 : Int32)) dX6_game_84 (by decide) ?_
      refine jG_aload_n F dX6_game_86 rfl ?_
      refine jG_bipush F (v := nI 67) dX6_game_87 (by decide) ?_
      refine jc_X6_41 F dX6_game_89 (jW hB (c_X6_at (jw9_o hB) (jw9_l hB) rfl (by omega))) (jw9_o hB) (by decide) (Nat.le_refl 0) (Nat.le_refl 0) (Nat.le_of_ble_eq_true rfl) ?_
      refine jG_isub F dX6_game_92 ?_
      exact jG_iret F T ((if_neg q2).symm) rfl (by first | rfl | exact jnarb _ | (split <;> rfl)) dX6_game_93
    · refine jG_iconst F (v := (5 : Int32)) dX6_game_80 (by decide) ?_
      refine jG_goto F 93 dX6_game_81 (by decide) ?_
      exact jG_iret F T ((if_pos q2).symm) rfl (by first | rfl | exact jnarb _ | (split <;> rfl)) dX6_game_93
  · refine jG_bipush F (v := (-4 : Int32)) dX6_game_66 (by decide) ?_
    refine jG_goto F 93 dX6_game_68 (by decide) ?_
    exact jG_iret F T ((if_neg (jB01_eq q)).symm) rfl (by first | rfl | exact jnarb _ | (split <;> rfl)) dX6_game_93
theorem c_X6_game3 (hB : B.length = m) : jMd l E yX6_game cX6_game 3 (some .int) 8 [.ref (E.1 + m), .int 3] (jw9 E B m km false bd ba bw rm A P K rd rx ry pr qs) (some (.int (jB01 (mover A)))) (jw9 E B m km false bd ba bw rm A P K rd rx ry pr qs) 0 0 := by
  refine jMd_of (by decide) (Nat.le_of_ble_eq_true rfl) (by simp [Value.category]) (by first | rfl | simp [jw9_len]) (fun x hx F T hmm => ?_)
  refine jG_aload_n F dX6_game_0 rfl ?_
  refine jc_X6_113 F dX6_game_1 (jW hB (c_X6_isOver (jw9_o hB) (jw9_l hB))) (jw9_o hB) (by decide) (Nat.le_refl 0) (Nat.le_refl 0) (Nat.le_of_ble_eq_true rfl) ?_
  refine jG_istore_n_2n F dX6_game_4 (by decide) ?_
  refine jG_iload_n F dX6_game_5 rfl ?_
  refine jG_tableIn F 94 dX6_game_6 (by decide) (by decide) rfl (by decide) ?_
  refine jG_iload_n F dX6_game_94 rfl ?_
  refine jG_if_eq F 102 dX6_game_95 (by decide) (fun q => ?_) (fun q => ?_)
  · refine jG_iconst F (v := (0 : Int32)) dX6_game_102 (by decide) ?_
    exact jG_iret F T ((jB01_neg (jB01_eq q)).symm) rfl (by first | rfl | exact jnarb _ | (split <;> rfl)) dX6_game_103
  · refine jG_iconst F (v := (1 : Int32)) dX6_game_98 (by decide) ?_
    refine jG_goto F 103 dX6_game_99 (by decide) ?_
    exact jG_iret F T ((jB01_pos (jB01_ne q)).symm) rfl (by first | rfl | exact jnarb _ | (split <;> rfl)) dX6_game_103
theorem c_X6_game4 (hB : B.length = m) (ht : t < 4) (hA : A 64 = nI t) : jMd l E yX6_game cX6_game 3 (some .int) 8 [.ref (E.1 + m), .int 4] (jw9 E B m km false bd ba bw rm A P K rd rx ry pr qs) (some (.int (if mover A then 0 else mfo A t 4))) (jw9 E B m km false bd ba bw rm A P K rd rx ry pr qs) 0 0 := by
  refine jMd_of (by decide) (Nat.le_of_ble_eq_true rfl) (by simp [Value.category]) (by first | rfl | simp [jw9_len]) (fun x hx F T hmm => ?_)
  refine jG_aload_n F dX6_game_0 rfl ?_
  refine jc_X6_113 F dX6_game_1 (jW hB (c_X6_isOver (jw9_o hB) (jw9_l hB))) (jw9_o hB) (by decide) (Nat.le_refl 0) (Nat.le_refl 0) (Nat.le_of_ble_eq_true rfl) ?_
  refine jG_istore_n_2n F dX6_game_4 (by decide) ?_
  refine jG_iload_n F dX6_game_5 rfl ?_
  refine jG_tableIn F 104 dX6_game_6 (by decide) (by decide) rfl (by decide) ?_
  refine jG_iload_n F dX6_game_104 rfl ?_
  refine jG_if_eq F 112 dX6_game_105 (by decide) (fun q => ?_) (fun q => ?_)
  · refine jG_aload_n F dX6_game_112 rfl ?_
    refine jG_aload_n F dX6_game_113 rfl ?_
    refine jc_X6_102 F dX6_game_114 (jW hB (c_X6_turn (jw9_o hB) (jw9_l hB))) (jw9_o hB) (by decide) (Nat.le_refl 0) (Nat.le_refl 0) (Nat.le_of_ble_eq_true rfl) ?_
    refine jG_eq rfl (show _ = [Value.int (nI t), Value.ref (E.1 + m)] by rw [hA]) rfl ?_
    refine jc_X6_91 F dX6_game_117 (jW hB (c_X6_freeOf (jw9_o hB) (jw9_l hB) ht)) (jw9_o hB) (by decide) (Nat.le_refl 0) (Nat.le_refl 0) (Nat.le_of_ble_eq_true rfl) ?_
    exact jG_iret F T ((if_neg (jB01_eq q)).symm) rfl (by first | rfl | exact jnarb _ | (split <;> rfl)) dX6_game_120
  · refine jG_iconst F (v := (0 : Int32)) dX6_game_108 (by decide) ?_
    refine jG_goto F 120 dX6_game_109 (by decide) ?_
    exact jG_iret F T ((if_pos (jB01_ne q)).symm) rfl (by first | rfl | exact jnarb _ | (split <;> rfl)) dX6_game_120
theorem c_X6_gameD (hB : B.length = m) (h0 : ¬ w = 0) (h1 : ¬ w = 1) (h2 : ¬ w = 2) (h3 : ¬ w = 3) (h4 : ¬ w = 4) : jMd l E yX6_game cX6_game 3 (some .int) 8 [.ref (E.1 + m), .int w] (jw9 E B m km false bd ba bw rm A P K rd rx ry pr qs) (some (.int (-1))) (jw9 E B m km false bd ba bw rm A P K rd rx ry pr qs) 0 0 := by
  refine jMd_of (by decide) (Nat.le_of_ble_eq_true rfl) (by simp [Value.category]) (by first | rfl | simp [jw9_len]) (fun x hx F T hmm => ?_)
  refine jG_aload_n F dX6_game_0 rfl ?_
  refine jc_X6_113 F dX6_game_1 (jW hB (c_X6_isOver (jw9_o hB) (jw9_l hB))) (jw9_o hB) (by decide) (Nat.le_refl 0) (Nat.le_refl 0) (Nat.le_of_ble_eq_true rfl) ?_
  refine jG_istore_n_2n F dX6_game_4 (by decide) ?_
  refine jG_iload_n F dX6_game_5 rfl ?_
  refine jG_tableOut F 121 dX6_game_6 (by have z0 := lv_neT (a := 0) h0 rfl; have z1 := lv_neT (a := 1) h1 rfl; have z2 := lv_neT (a := 2) h2 rfl; have z3 := lv_neT (a := 3) h3 rfl; have z4 := lv_neT (a := 4) h4 rfl; omega) (by decide) ?_
  refine jG_iconst F (v := (-1 : Int32)) dX6_game_121 (by decide) ?_
  exact jG_iret F T (rfl) rfl (by first | rfl | exact jnarb _ | (split <;> rfl)) dX6_game_122
theorem c_X6_scoreB (hB : B.length = m) (h : ¬ (0 ≤ a ∧ a ≤ 3)) : jMd l E yX6_score cX6_score 2 (some .int) 7 [.ref (E.1 + m), .int a] (jw9 E B m km false bd ba bw rm A P K rd rx ry pr qs) (some (.int (-1))) (jw9 E B m km false bd ba bw rm A P K rd rx ry pr qs) 0 0 := by
  refine jMd_of (by decide) (Nat.le_of_ble_eq_true rfl) (by simp [Value.category]) (by first | rfl | simp [jw9_len]) (fun x hx F T hmm => ?_)
  refine jG_iload_n F dX6_score_0 rfl ?_
  refine jc_X6_163 F dX6_score_1 (c_X6_isPlayer) (by decide) (Nat.le_refl 0) (Nat.le_refl 0) (Nat.le_of_ble_eq_true rfl) ?_
  refine jG_if_eq F 15 dX6_score_4 (by decide) (fun _ => ?_) (fun qz => absurd (jB01_neg h) qz)
  refine jG_iconst F (v := (-1 : Int32)) dX6_score_15 (by decide) ?_
  exact jG_iret F T (rfl) rfl (by first | rfl | exact jnarb _ | (split <;> rfl)) dX6_score_16
theorem c_X6_score (hB : B.length = m) (hp : p < 4) : jMd l E yX6_score cX6_score 2 (some .int) 7 [.ref (E.1 + m), .int (nI p)] (jw9 E B m km false bd ba bw rm A P K rd rx ry pr qs) (some (.int (msc A p 4))) (jw9 E B m km false bd ba bw rm A P K rd rx ry pr qs) 0 0 := by
  refine jMd_of (by decide) (Nat.le_of_ble_eq_true rfl) (by simp [Value.category]) (by first | rfl | simp [jw9_len]) (fun x hx F T hmm => ?_)
  have hdi := jin_n (k := p) (n := 3) (by omega) (by decide) (m := 3) rfl
  refine jG_iload_n F dX6_score_0 rfl ?_
  refine jc_X6_163 F dX6_score_1 (c_X6_isPlayer) (by decide) (Nat.le_refl 0) (Nat.le_refl 0) (Nat.le_of_ble_eq_true rfl) ?_
  refine jG_if_eq F 15 dX6_score_4 (by decide) (fun qz => absurd qz (by rw [jB01_pos hdi]; decide)) (fun _ => ?_)
  refine jG_aload_n F dX6_score_7 rfl ?_
  refine jG_iload_n F dX6_score_8 rfl ?_
  refine jc_X6_166 F dX6_score_9 (jW hB (c_X6_scoreOf (jw9_o hB) (jw9_l hB) (by omega))) (jw9_o hB) (by decide) (Nat.le_refl 0) (Nat.le_refl 0) (Nat.le_of_ble_eq_true rfl) ?_
  refine jG_goto F 16 dX6_score_12 (by decide) ?_
  exact jG_iret F T (rfl) rfl (by first | rfl | exact jnarb _ | (split <;> rfl)) dX6_score_16
theorem c_X6_twelfthsB (hB : B.length = m) (h : ¬ (0 ≤ a ∧ a ≤ 3)) : jMd l E yX6_twelfths cX6_twelfths 2 (some .int) 9 [.ref (E.1 + m), .int a] (jw9 E B m km false bd ba bw rm A P K rd rx ry pr qs) (some (.int (-1))) (jw9 E B m km false bd ba bw rm A P K rd rx ry pr qs) 0 0 := by
  refine jMd_of (by decide) (Nat.le_of_ble_eq_true rfl) (by simp [Value.category]) (by first | rfl | simp [jw9_len]) (fun x hx F T hmm => ?_)
  refine jG_iload_n F dX6_twelfths_0 rfl ?_
  refine jc_X6_163 F dX6_twelfths_1 (c_X6_isPlayer) (by decide) (Nat.le_refl 0) (Nat.le_refl 0) (Nat.le_of_ble_eq_true rfl) ?_
  refine jG_if_eq F 15 dX6_twelfths_4 (by decide) (fun _ => ?_) (fun qz => absurd (jB01_neg h) qz)
  refine jG_iconst F (v := (-1 : Int32)) dX6_twelfths_15 (by decide) ?_
  exact jG_iret F T (rfl) rfl (by first | rfl | exact jnarb _ | (split <;> rfl)) dX6_twelfths_16
theorem c_X6_twelfths (hB : B.length = m) (hp : p < 4) : jMd l E yX6_twelfths cX6_twelfths 2 (some .int) 9 [.ref (E.1 + m), .int (nI p)] (jw9 E B m km false bd ba bw rm A P K rd rx ry pr qs) (some (.int (mtwo (mrk A) p))) (jw9 E B m km false bd ba bw rm A P K rd rx ry pr qs) 0 0 := by
  refine jMd_of (by decide) (Nat.le_of_ble_eq_true rfl) (by simp [Value.category]) (by first | rfl | simp [jw9_len]) (fun x hx F T hmm => ?_)
  have hdi := jin_n (k := p) (n := 3) (by omega) (by decide) (m := 3) rfl
  refine jG_iload_n F dX6_twelfths_0 rfl ?_
  refine jc_X6_163 F dX6_twelfths_1 (c_X6_isPlayer) (by decide) (Nat.le_refl 0) (Nat.le_refl 0) (Nat.le_of_ble_eq_true rfl) ?_
  refine jG_if_eq F 15 dX6_twelfths_4 (by decide) (fun qz => absurd qz (by rw [jB01_pos hdi]; decide)) (fun _ => ?_)
  refine jG_aload_n F dX6_twelfths_7 rfl ?_
  refine jG_iload_n F dX6_twelfths_8 rfl ?_
  refine jc_X6_172 F dX6_twelfths_9 (jW hB (c_X6_twelfthsOf (jw9_o hB) (jw9_l hB) (by omega) rfl)) (jw9_o hB) (by decide) (Nat.le_refl 0) (Nat.le_refl 0) (Nat.le_of_ble_eq_true rfl) ?_
  refine jG_goto F 16 dX6_twelfths_12 (by decide) ?_
  exact jG_iret F T (rfl) rfl (by first | rfl | exact jnarb _ | (split <;> rfl)) dX6_twelfths_16
theorem c_X6_pointsB (hB : B.length = m) (h : ¬ (0 ≤ a ∧ a ≤ 1)) : jMd l E yX6_points cX6_points 4 (some .int) 9 [.ref (E.1 + m), .int a] (jw9 E B m km false bd ba bw rm A P K rd rx ry pr qs) (some (.int (-1))) (jw9 E B m km false bd ba bw rm A P K rd rx ry pr qs) 0 0 := by
  refine jMd_of (by decide) (Nat.le_of_ble_eq_true rfl) (by simp [Value.category]) (by first | rfl | simp [jw9_len]) (fun x hx F T hmm => ?_)
  refine jG_iload_n F dX6_points_0 rfl ?_
  refine jG_iconst F (v := (0 : Int32)) dX6_points_1 (by decide) ?_
  refine jG_iconst F (v := (1 : Int32)) dX6_points_2 (by decide) ?_
  refine jc_X6_109 F dX6_points_3 (c_X6_in) (by decide) (Nat.le_refl 0) (Nat.le_refl 0) (Nat.le_of_ble_eq_true rfl) ?_
  refine jG_if_ne F 11 dX6_points_6 (by decide) (fun qz => absurd qz (fun z => h (jB01_ne z))) (fun _ => ?_)
  refine jG_iconst F (v := (-1 : Int32)) dX6_points_9 (by decide) ?_
  exact jG_iret F T (rfl) rfl (by first | rfl | exact jnarb _ | (split <;> rfl)) dX6_points_10
theorem c_X6_points (hB : B.length = m) (hp : p < 2) : jMd l E yX6_points cX6_points 4 (some .int) 9 [.ref (E.1 + m), .int (nI p)] (jw9 E B m km false bd ba bw rm A P K rd rx ry pr qs) (some (.int (mptF A p 4))) (jw9 E B m km false bd ba bw rm A P K rd rx ry pr qs) 0 0 := by
  refine jMd_of (by decide) (Nat.le_of_ble_eq_true rfl) (by simp [Value.category]) (by first | rfl | simp [jw9_len]) (fun x hx F T hmm => ?_)
  have hdi := jin_n (k := p) (n := 1) (by omega) (by decide) (m := 1) rfl
  have loop : ∀ k, k ≤ 4 → jG E x 0 0 27 [.ref (E.1 + m), .int (nI p), .int (mptF A p k), .int (nI k)] [] (jw9 E B m km false bd ba bw rm A P K rd rx ry pr qs) := by
    refine jup 4 _ ?_ ?_
    · refine jG_iload_n F dX6_points_27 rfl ?_
      refine jG_iconst F (v := nI 4) dX6_points_28 (by decide) ?_
      refine jG_icmp_ge F 67 dX6_points_29 (by decide) (fun _ => ?_) (fun q => absurd (nI_le (Nat.le_refl 4) (by decide)) q)
      refine jG_iload_n F dX6_points_67 rfl ?_
      exact jG_iret F T (rfl) rfl (by first | rfl | exact jnarb _ | (split <;> rfl)) dX6_points_68
    · intro k hk ih
      have e1 : nI k - nI k / nI 2 * nI 2 = nI (k % 2) := pk_rem (by omega) (by decide) (by decide)
      have es : mptF A p (k + 1) = mptF A p k + (if ¬ mall A k then 0 else if k % 2 = p then 12 else -12) := rfl
      generalize mptF A p (k + 1) = Y1 at es ih
      generalize mptF A p k = Y at es ⊢
      refine jG_iload_n F dX6_points_27 rfl ?_
      refine jG_iconst F (v := nI 4) dX6_points_28 (by decide) ?_
      refine jG_icmp_ge F 67 dX6_points_29 (by decide) (fun q => absurd q (nI_ge hk (by decide))) (fun _ => ?_)
      refine jG_iload_n F dX6_points_32 rfl ?_
      refine jG_aload_n F dX6_points_33 rfl ?_
      refine jG_iload_n F dX6_points_34 rfl ?_
      refine jc_X6_88 F dX6_points_35 (jW hB (c_X6_allIn (jw9_o hB) (jw9_l hB) hk)) (jw9_o hB) (by decide) (Nat.le_refl 0) (Nat.le_refl 0) (Nat.le_of_ble_eq_true rfl) ?_
      refine jG_if_ne F 45 dX6_points_38 (by decide) (fun q => ?_) (fun q => ?_)
      · have q := jB01_ne q
        rw [if_neg (fun z => z q)] at es
        refine jG_iload_n F dX6_points_45 rfl ?_
        refine jG_iconst F (v := nI 2) dX6_points_46 (by decide) ?_
        refine jG_irem F dX6_points_47 (by decide) ?_
        refine jG_iload_n F dX6_points_48 rfl ?_
        refine jG_icmp_ne F 57 dX6_points_49 (by decide) (fun q2 => ?_) (fun q2 => ?_)
        · have q2 : ¬ k % 2 = p := fun z => q2 (by rw [e1, z])
          rw [if_neg q2] at es
          refine jG_bipush F (v := (-12 : Int32)) dX6_points_57 (by decide) ?_
          refine jG_iadd F dX6_points_59 ?_
          refine jG_istore_n_2e F dX6_points_60 (by decide) ?_
          refine jG_iinc_3 F (w := nI (k + 1)) dX6_points_61 (jinc k) (by decide) ?_
          refine jG_goto F 27 dX6_points_64 (by decide) ?_
          rw [← es]
          exact ih
        · have q2 : k % 2 = p := (nI_eq (by omega) (by omega)).mp (e1.symm.trans q2)
          rw [if_pos q2] at es
          refine jG_bipush F (v := (12 : Int32)) dX6_points_52 (by decide) ?_
          refine jG_goto F 59 dX6_points_54 (by decide) ?_
          refine jG_iadd F dX6_points_59 ?_
          refine jG_istore_n_2e F dX6_points_60 (by decide) ?_
          refine jG_iinc_3 F (w := nI (k + 1)) dX6_points_61 (jinc k) (by decide) ?_
          refine jG_goto F 27 dX6_points_64 (by decide) ?_
          rw [← es]
          exact ih
      · have q := jB01_eq q
        rw [if_pos q] at es
        refine jG_iconst F (v := (0 : Int32)) dX6_points_41 (by decide) ?_
        refine jG_goto F 59 dX6_points_42 (by decide) ?_
        refine jG_iadd F dX6_points_59 ?_
        refine jG_istore_n_2e F dX6_points_60 (by decide) ?_
        refine jG_iinc_3 F (w := nI (k + 1)) dX6_points_61 (jinc k) (by decide) ?_
        refine jG_goto F 27 dX6_points_64 (by decide) ?_
        rw [← es]
        exact ih
  refine jG_iload_n F dX6_points_0 rfl ?_
  refine jG_iconst F (v := (0 : Int32)) dX6_points_1 (by decide) ?_
  refine jG_iconst F (v := (1 : Int32)) dX6_points_2 (by decide) ?_
  refine jc_X6_109 F dX6_points_3 (c_X6_in) (by decide) (Nat.le_refl 0) (Nat.le_refl 0) (Nat.le_of_ble_eq_true rfl) ?_
  refine jG_if_ne F 11 dX6_points_6 (by decide) (fun _ => ?_) (fun qz => absurd qz (by rw [jB01_pos hdi]; decide))
  refine jG_aload_n F dX6_points_11 rfl ?_
  refine jG_iload_n F dX6_points_12 rfl ?_
  refine jc_X6_172 F dX6_points_13 (jW hB (c_X6_twelfthsOf (jw9_o hB) (jw9_l hB) (by omega) rfl)) (jw9_o hB) (by decide) (Nat.le_refl 0) (Nat.le_refl 0) (Nat.le_of_ble_eq_true rfl) ?_
  refine jG_aload_n F dX6_points_16 rfl ?_
  refine jG_iload_n F dX6_points_17 rfl ?_
  refine jG_iconst F (v := nI 2) dX6_points_18 (by decide) ?_
  refine jG_iadd F dX6_points_19 ?_
  refine jc_X6_172 F dX6_points_20 (jW hB (c_X6_twelfthsOf (p := p + 2) (jw9_o hB) (jw9_l hB) (by omega) (nI_add p 2))) (jw9_o hB) (by decide) (Nat.le_refl 0) (Nat.le_refl 0) (Nat.le_of_ble_eq_true rfl) ?_
  refine jG_iadd F dX6_points_23 ?_
  refine jG_istore_n_2n F dX6_points_24 (by decide) ?_
  refine jG_iconst F (v := nI 0) dX6_points_25 (by decide) ?_
  refine jG_istore_n_3n F dX6_points_26 (by decide) ?_
  exact loop 0 (by decide)
theorem c_X6_chanceB (hB : B.length = m) (h : ¬ (0 ≤ a ∧ a ≤ 15) ∨ ¬ (-1 ≤ b ∧ b ≤ 15)) : jMd l E yX6_chance cX6_chance 3 (some .int) 4 [.ref (E.1 + m), .int a, .int b] (jw9 E B m km false bd ba bw rm A P K rd rx ry pr qs) (some (.int (-1))) (jw9 E B m km false bd ba bw rm A P K rd rx ry pr qs) 0 0 := by
  refine jMd_of (by decide) (Nat.le_of_ble_eq_true rfl) (by simp [Value.category]) (by first | rfl | simp [jw9_len]) (fun x hx F T hmm => ?_)
  refine jG_iload_n F dX6_chance_0 rfl ?_
  refine jc_X6_117 F dX6_chance_1 (c_X6_isDisc) (by decide) (Nat.le_refl 0) (Nat.le_refl 0) (Nat.le_of_ble_eq_true rfl) ?_
  refine jG_if_eq F 17 dX6_chance_4 (by decide) (fun q => ?_) (fun q => ?_)
  · refine jG_iconst F (v := (-1 : Int32)) dX6_chance_17 (by decide) ?_
    exact jG_iret F T (rfl) rfl (by first | rfl | exact jnarb _ | (split <;> rfl)) dX6_chance_18
  · have q := jB01_ne q
    refine jG_iload_n F dX6_chance_7 rfl ?_
    refine jG_iconst F (v := (-1 : Int32)) dX6_chance_8 (by decide) ?_
    refine jG_bipush F (v := (15 : Int32)) dX6_chance_9 (by decide) ?_
    refine jc_X6_109 F dX6_chance_11 (c_X6_in) (by decide) (Nat.le_refl 0) (Nat.le_refl 0) (Nat.le_of_ble_eq_true rfl) ?_
    refine jG_if_ne F 19 dX6_chance_14 (by decide) (fun qz => absurd qz (fun z => h.elim (fun y => y q) (fun y => y (jB01_ne z)))) (fun _ => ?_)
    refine jG_iconst F (v := (-1 : Int32)) dX6_chance_17 (by decide) ?_
    exact jG_iret F T (rfl) rfl (by first | rfl | exact jnarb _ | (split <;> rfl)) dX6_chance_18
theorem c_X6_chanceQ (hB : B.length = m) (hd : d < 16) : jMd l E yX6_chance cX6_chance 3 (some .int) 4 [.ref (E.1 + m), .int (nI d), .int (-1)] (jw9 E B m km false bd ba bw rm A P K rd rx ry pr qs) (some (.int (if A d = 2 then -2 else mchP A d))) (jw9 E B m km false bd ba bw rm A P K rd rx ry pr qs) 0 0 := by
  refine jMd_of (by decide) (Nat.le_of_ble_eq_true rfl) (by simp [Value.category]) (by first | rfl | simp [jw9_len]) (fun x hx F T hmm => ?_)
  have hdi := jin_n (k := d) (n := 15) (by omega) (by decide) (m := 15) rfl
  refine jG_iload_n F dX6_chance_0 rfl ?_
  refine jc_X6_117 F dX6_chance_1 (c_X6_isDisc) (by decide) (Nat.le_refl 0) (Nat.le_refl 0) (Nat.le_of_ble_eq_true rfl) ?_
  refine jG_if_eq F 17 dX6_chance_4 (by decide) (fun qz => absurd qz (by rw [jB01_pos hdi]; decide)) (fun _ => ?_)
  refine jG_iload_n F dX6_chance_7 rfl ?_
  refine jG_iconst F (v := (-1 : Int32)) dX6_chance_8 (by decide) ?_
  refine jG_bipush F (v := (15 : Int32)) dX6_chance_9 (by decide) ?_
  refine jc_X6_109 F dX6_chance_11 (c_X6_in) (by decide) (Nat.le_refl 0) (Nat.le_refl 0) (Nat.le_of_ble_eq_true rfl) ?_
  refine jG_if_ne F 19 dX6_chance_14 (by decide) (fun _ => ?_) (fun qz => absurd qz (by decide))
  refine jG_aload_n F dX6_chance_19 rfl ?_
  refine jG_iload_n F dX6_chance_20 rfl ?_
  refine jc_X6_45 F dX6_chance_21 (jW hB (c_X6_how (jw9_o hB) (jw9_l hB) rfl (by omega))) (jw9_o hB) (by decide) (Nat.le_refl 0) (Nat.le_refl 0) (Nat.le_of_ble_eq_true rfl) ?_
  refine jG_iconst F (v := (2 : Int32)) dX6_chance_24 (by decide) ?_
  refine jG_icmp_eq F 46 dX6_chance_25 (by decide) (fun q => ?_) (fun q => ?_)
  · refine jG_bipush F (v := (-2 : Int32)) dX6_chance_46 (by decide) ?_
    exact jG_iret F T ((if_pos q).symm) rfl (by first | rfl | exact jnarb _ | (split <;> rfl)) dX6_chance_48
  · rw [if_neg q] at T
    refine jG_iload_n F dX6_chance_28 rfl ?_
    refine jG_if_lt F 49 dX6_chance_29 (by decide) (fun _ => ?_) (fun qz => absurd (by decide) qz)
    refine jG_aload_n F dX6_chance_49 rfl ?_
    refine jG_iload_n F dX6_chance_50 rfl ?_
    refine jG_iload_n F dX6_chance_51 rfl ?_
    refine jc_X6_175 F dX6_chance_52 (jW hB (c_X6_chanceP (jw9_o hB) (jw9_l hB) hd)) (jw9_o hB) (by decide) (Nat.le_refl 0) (Nat.le_refl 0) (Nat.le_of_ble_eq_true rfl) ?_
    exact jG_iret F T (rfl) rfl (by first | rfl | exact jnarb _ | (split <;> rfl)) dX6_chance_55
theorem c_X6_chanceR {e : Nat} (hB : B.length = m) (hd : d < 16) (he : e < 16) : jMd l E yX6_chance cX6_chance 3 (some .int) 4 [.ref (E.1 + m), .int (nI d), .int (nI e)] (jw9 E B m km false bd ba bw rm A P K rd rx ry pr qs) (some (.int (if A d = 2 ∨ ¬ A e = 1 ∨ e = d then -2 else mchD A d e))) (jw9 E B m km false bd ba bw rm A P K rd rx ry pr qs) 0 0 := by
  refine jMd_of (by decide) (Nat.le_of_ble_eq_true rfl) (by simp [Value.category]) (by first | rfl | simp [jw9_len]) (fun x hx F T hmm => ?_)
  have hdi := jin_n (k := d) (n := 15) (by omega) (by decide) (m := 15) rfl
  have hei := jin_n (k := e) (n := 15) (by omega) (by decide) (m := 15) rfl
  have hn : 0 ≤ nI e := jnn (by omega)
  have hei2 : -1 ≤ nI e ∧ nI e ≤ 15 := ⟨Int32.le_trans (by decide) hn, hei.2⟩
  refine jG_iload_n F dX6_chance_0 rfl ?_
  refine jc_X6_117 F dX6_chance_1 (c_X6_isDisc) (by decide) (Nat.le_refl 0) (Nat.le_refl 0) (Nat.le_of_ble_eq_true rfl) ?_
  refine jG_if_eq F 17 dX6_chance_4 (by decide) (fun qz => absurd qz (by rw [jB01_pos hdi]; decide)) (fun _ => ?_)
  refine jG_iload_n F dX6_chance_7 rfl ?_
  refine jG_iconst F (v := (-1 : Int32)) dX6_chance_8 (by decide) ?_
  refine jG_bipush F (v := (15 : Int32)) dX6_chance_9 (by decide) ?_
  refine jc_X6_109 F dX6_chance_11 (c_X6_in) (by decide) (Nat.le_refl 0) (Nat.le_refl 0) (Nat.le_of_ble_eq_true rfl) ?_
  refine jG_if_ne F 19 dX6_chance_14 (by decide) (fun _ => ?_) (fun qz => absurd qz (by rw [jB01_pos hei2]; decide))
  refine jG_aload_n F dX6_chance_19 rfl ?_
  refine jG_iload_n F dX6_chance_20 rfl ?_
  refine jc_X6_45 F dX6_chance_21 (jW hB (c_X6_how (jw9_o hB) (jw9_l hB) rfl (by omega))) (jw9_o hB) (by decide) (Nat.le_refl 0) (Nat.le_refl 0) (Nat.le_of_ble_eq_true rfl) ?_
  refine jG_iconst F (v := (2 : Int32)) dX6_chance_24 (by decide) ?_
  refine jG_icmp_eq F 46 dX6_chance_25 (by decide) (fun q => ?_) (fun q => ?_)
  · refine jG_bipush F (v := (-2 : Int32)) dX6_chance_46 (by decide) ?_
    exact jG_iret F T ((if_pos (Or.inl q)).symm) rfl (by first | rfl | exact jnarb _ | (split <;> rfl)) dX6_chance_48
  · refine jG_iload_n F dX6_chance_28 rfl ?_
    refine jG_if_lt F 49 dX6_chance_29 (by decide) (fun qz => absurd qz (Int32.not_lt.mpr hn)) (fun _ => ?_)
    refine jG_aload_n F dX6_chance_32 rfl ?_
    refine jG_iload_n F dX6_chance_33 rfl ?_
    refine jc_X6_45 F dX6_chance_34 (jW hB (c_X6_how (jw9_o hB) (jw9_l hB) rfl (by omega))) (jw9_o hB) (by decide) (Nat.le_refl 0) (Nat.le_refl 0) (Nat.le_of_ble_eq_true rfl) ?_
    refine jG_iconst F (v := (1 : Int32)) dX6_chance_37 (by decide) ?_
    refine jG_icmp_ne F 46 dX6_chance_38 (by decide) (fun q2 => ?_) (fun q2 => ?_)
    · refine jG_bipush F (v := (-2 : Int32)) dX6_chance_46 (by decide) ?_
      exact jG_iret F T ((if_pos (Or.inr (Or.inl q2))).symm) rfl (by first | rfl | exact jnarb _ | (split <;> rfl)) dX6_chance_48
    · refine jG_iload_n F dX6_chance_41 rfl ?_
      refine jG_iload_n F dX6_chance_42 rfl ?_
      refine jG_icmp_ne F 49 dX6_chance_43 (by decide) (fun q3 => ?_) (fun q3 => ?_)
      · have q3 : ¬ e = d := fun z => q3 (by rw [z])
        rw [if_neg (show ¬ (A d = 2 ∨ ¬ A e = 1 ∨ e = d) from fun z => z.elim q (fun y => y.elim (fun u => u q2) q3))] at T
        refine jG_aload_n F dX6_chance_49 rfl ?_
        refine jG_iload_n F dX6_chance_50 rfl ?_
        refine jG_iload_n F dX6_chance_51 rfl ?_
        refine jc_X6_175 F dX6_chance_52 (jW hB (c_X6_chanceD (jw9_o hB) (jw9_l hB) hd he)) (jw9_o hB) (by decide) (Nat.le_refl 0) (Nat.le_refl 0) (Nat.le_of_ble_eq_true rfl) ?_
        exact jG_iret F T (rfl) rfl (by first | rfl | exact jnarb _ | (split <;> rfl)) dX6_chance_55
      · have q3 : e = d := (nI_eq (by omega) (by omega)).mp q3
        refine jG_bipush F (v := (-2 : Int32)) dX6_chance_46 (by decide) ?_
        exact jG_iret F T ((if_pos (Or.inr (Or.inr q3))).symm) rfl (by first | rfl | exact jnarb _ | (split <;> rfl)) dX6_chance_48
end MV2
