/-! ===== Row: its cells, its methods ===== -/
abbrev jGT : Type := jBT × Int32 × Int32 × Int32 × Int64 × Nat × Int32 × Int32
abbrev jpT (E : jE) (h : List va_E) (g : Nat) (G : jGT) : List va_E := jp13 E h g G.1.1 G.1.2.1 G.1.2.2.1 G.1.2.2.2.1 G.1.2.2.2.2.1 G.1.2.2.2.2.2 G.2.1 G.2.2.1 G.2.2.2.1 G.2.2.2.2.1 G.2.2.2.2.2.1 G.2.2.2.2.2.2.1 G.2.2.2.2.2.2.2
abbrev jmay (G : jGT) (d : Nat) : Prop := d % 4 = G.2.2.2.2.2.1 ∧ (G.1.2.2.2.2.1 ||| G.1.2.2.2.2.2) &&& jbit d = 0 ∧ ¬ jovr G.1.2.2.2.2.1 G.2.2.2.2.2.2.2
/-- the board, the turn behind it -/
def jgon (G : jGT) (B : jBT) (b : Prop) [Decidable b] : jGT := (B, G.2.1, G.2.2.1, G.2.2.2.1, G.2.2.2.2.1, (jendB B G.2.2.2.1 (G.2.2.2.2.2.2.1 + 1) b (G.2.2.2.2.2.1, G.2.2.2.2.2.2.2)).1, G.2.2.2.2.2.2.1 + 1, (jendB B G.2.2.2.1 (G.2.2.2.2.2.2.1 + 1) b (G.2.2.2.2.2.1, G.2.2.2.2.2.2.2)).2)
def jfol (G : jGT) (d : Nat) (a b : Int32) : jGT := jgon G (jbringF G.1 d a b) (a = 41)
def jsta (G : jGT) (t : Int32) : jGT := (jallF G.1 16, G.2.1, G.2.2.1, t, G.2.2.2.2.1, 0, 0, 0)
/-- firstWrongIn: n shots from the i-th on -/
def jfw (dn : Nat → Nat) (rx ry : Nat → Int32) : Nat → Nat → jGT → Int32 × jGT
  | 0, _, G => (-4, G)
  | n + 1, i, G => if jmay G (dn i) then jfw dn rx ry n (i + 1) (jfol G (dn i) (rx i) (ry i)) else (nI i, G)
theorem jfol_lt {G : jGT} {d : Nat} {a b : Int32} (h : G.2.2.2.2.2.1 < 4) : (jfol G d a b).2.2.2.2.2.1 < 4 := jend_lt h
theorem jfw_lt {dn : Nat → Nat} {rx ry : Nat → Int32} : ∀ (n i : Nat) (G : jGT), G.2.2.2.2.2.1 < 4 → (jfw dn rx ry n i G).2.2.2.2.2.2.1 < 4
  | 0, _, G, h => h
  | n + 1, i, G, h => by
    unfold jfw
    split
    · exact jfw_lt n _ _ (jfol_lt h)
    · exact h
abbrev jro (E : jE) (r sz : Nat) (pf ff fb : Int32) : va_E := .inr (3, [.ref (E.1 + (r + 1)), .ref (E.1 + (r + 2)), .ref (E.1 + (r + 3)), .int (nI sz), .int pf, .int ff, .int fb, .ref (E.1 + (r + 4)), .ref (E.1 + (r + 9))])
def jpR (E : jE) (h : List va_E) (r : Nat) (ds rx ry : Nat → Int32) (sz : Nat) (pf ff fb : Int32) : List va_E := (((h.set r (jro E r sz pf ff fb)).set (r + 1) (jar E 24 ds)).set (r + 2) (jar E 24 rx)).set (r + 3) (jar E 24 ry)
abbrev jpF (E : jE) (h : List va_E) (r : Nat) (ds rx ry : Nat → Int32) (sz : Nat) (pf ff fb : Int32) (U T : jGT) : List va_E := jpT E (jpT E (jpR E h r ds rx ry sz pf ff fb) (r + 4) U) (r + 9) T
section RW0
variable {E : jE} {h : List va_E} {r sz n g g2 : Nat} {ds rx ry f : Nat → Int32} {pf ff fb v : Int32} {U T G G2 : jGT}
theorem jpT_set {j : Nat} {e : va_E} (hj : j < g ∨ g + 4 < j) : (jpT E h g G).set j e = jpT E (h.set j e) g G := by
  unfold jpT
  rw [jp6_set_ne (by omega) (by omega) (by omega) (by omega), List.set_comm _ _ (by omega)]
theorem jpT_comm (hg : g + 4 < g2 ∨ g2 + 4 < g) : jpT E (jpT E h g G) g2 G2 = jpT E (jpT E h g2 G2) g G := by
  show jp6 E ((jpT E h g G).set g2 _) (g2 + 1) _ _ _ _ _ _ = _
  rw [jpT_set (by omega)]
  unfold jp6
  rw [jpT_set (by omega), jpT_set (by omega), jpT_set (by omega), jpT_set (by omega)]
  rfl
theorem jpT_len : (jpT E h g G).length = h.length := by rw [jpG_len]
theorem jpT_twice {G3 : jGT} : jpT E (jpT E h g G) g G3 = jpT E h g G3 := by
  show jp6 E ((jp6 E (h.set g _) (g + 1) _ _ _ _ _ _).set g _) (g + 1) _ _ _ _ _ _ = _
  rw [jp6_set_ne (by omega) (by omega) (by omega) (by omega), List.set_set, jpB_twice]
theorem jpR_len : (jpR E h r ds rx ry sz pf ff fb).length = h.length := by simp [jpR]
theorem jpR_o (hr : r + 13 < h.length) : (jpR E h r ds rx ry sz pf ff fb)[r]? = some (jro E r sz pf ff fb) := by
  simp [jpR, List.getElem?_set, show r < h.length by omega]
theorem jpR_1 (hr : r + 13 < h.length) : (jpR E h r ds rx ry sz pf ff fb)[r + 1]? = some (jar E 24 ds) := by
  simp [jpR, List.getElem?_set, show r + 1 < h.length by omega]
theorem jpR_2 (hr : r + 13 < h.length) : (jpR E h r ds rx ry sz pf ff fb)[r + 2]? = some (jar E 24 rx) := by
  simp [jpR, List.getElem?_set, show r + 2 < h.length by omega]
theorem jpR_3 (hr : r + 13 < h.length) : (jpR E h r ds rx ry sz pf ff fb)[r + 3]? = some (jar E 24 ry) := by
  simp [jpR, List.getElem?_set, show r + 3 < h.length by omega]
theorem jpF_at {j : Nat} (hj : j < r + 4) : (jpF E h r ds rx ry sz pf ff fb U T)[j]? = (jpR E h r ds rx ry sz pf ff fb)[j]? := by
  rw [jpG_ne (by omega), jpG_ne (by omega)]
theorem jpF_o (hr : r + 13 < h.length) : (jpF E h r ds rx ry sz pf ff fb U T)[r]? = some (jro E r sz pf ff fb) := (jpF_at (by omega)).trans (jpR_o hr)
theorem jpF_1 (hr : r + 13 < h.length) : (jpF E h r ds rx ry sz pf ff fb U T)[r + 1]? = some (jar E 24 ds) := (jpF_at (by omega)).trans (jpR_1 hr)
theorem jpF_2 (hr : r + 13 < h.length) : (jpF E h r ds rx ry sz pf ff fb U T)[r + 2]? = some (jar E 24 rx) := (jpF_at (by omega)).trans (jpR_2 hr)
theorem jpF_3 (hr : r + 13 < h.length) : (jpF E h r ds rx ry sz pf ff fb U T)[r + 3]? = some (jar E 24 ry) := (jpF_at (by omega)).trans (jpR_3 hr)
theorem jpF_set {j : Nat} {e : va_E} (hj : j < r + 4) : (jpF E h r ds rx ry sz pf ff fb U T).set j e = jpT E (jpT E ((jpR E h r ds rx ry sz pf ff fb).set j e) (r + 4) U) (r + 9) T := by
  rw [jpT_set (by omega), jpT_set (by omega)]
theorem jpR_put {sz2 : Nat} {pf2 ff2 fb2 : Int32} : (jpR E h r ds rx ry sz pf ff fb).set r (jro E r sz2 pf2 ff2 fb2) = jpR E h r ds rx ry sz2 pf2 ff2 fb2 := by
  apply jset_ext; intro j
  simp only [jpR, List.getElem?_set, List.length_set]
  by_cases e : r = j
  · subst e; simp
  · simp [e]
theorem jpR_st1 : (jpR E h r ds rx ry sz pf ff fb).set (r + 1) (jar E 24 f) = jpR E h r f rx ry sz pf ff fb := by
  apply jset_ext; intro j
  simp only [jpR, List.getElem?_set, List.length_set]
  by_cases e : r + 1 = j
  · subst e; simp
  · simp [e]
theorem jpR_st2 : (jpR E h r ds rx ry sz pf ff fb).set (r + 2) (jar E 24 f) = jpR E h r ds f ry sz pf ff fb := by
  apply jset_ext; intro j
  simp only [jpR, List.getElem?_set, List.length_set]
  by_cases e : r + 2 = j
  · subst e; simp
  · simp [e]
theorem jpR_st3 : (jpR E h r ds rx ry sz pf ff fb).set (r + 3) (jar E 24 f) = jpR E h r ds rx f sz pf ff fb := by
  apply jset_ext; intro j
  simp only [jpR, List.getElem?_set, List.length_set]
  by_cases e : r + 3 = j
  · subst e; simp
  · simp [e]
theorem jpF_put {sz2 : Nat} {pf2 ff2 fb2 : Int32} : (jpF E h r ds rx ry sz pf ff fb U T).set r (jro E r sz2 pf2 ff2 fb2) = jpF E h r ds rx ry sz2 pf2 ff2 fb2 U T := by
  rw [jpF_set (by omega), jpR_put]
theorem jpF_put_size : (jpF E h r ds rx ry sz pf ff fb U T).set r (.inr (3, [.ref (E.1 + (r + 1)), .ref (E.1 + (r + 2)), .ref (E.1 + (r + 3)), .int (nI sz), .int pf, .int ff, .int fb, .ref (E.1 + (r + 4)), .ref (E.1 + (r + 9))].set 3 (.int (nI n)))) = jpF E h r ds rx ry n pf ff fb U T := jpF_put
theorem jpF_put_pf : (jpF E h r ds rx ry sz pf ff fb U T).set r (.inr (3, [.ref (E.1 + (r + 1)), .ref (E.1 + (r + 2)), .ref (E.1 + (r + 3)), .int (nI sz), .int pf, .int ff, .int fb, .ref (E.1 + (r + 4)), .ref (E.1 + (r + 9))].set 4 (.int v))) = jpF E h r ds rx ry sz v ff fb U T := jpF_put
theorem jpF_put_ff : (jpF E h r ds rx ry sz pf ff fb U T).set r (.inr (3, [.ref (E.1 + (r + 1)), .ref (E.1 + (r + 2)), .ref (E.1 + (r + 3)), .int (nI sz), .int pf, .int ff, .int fb, .ref (E.1 + (r + 4)), .ref (E.1 + (r + 9))].set 5 (.int v))) = jpF E h r ds rx ry sz pf v fb U T := jpF_put
theorem jpF_put_fb : (jpF E h r ds rx ry sz pf ff fb U T).set r (.inr (3, [.ref (E.1 + (r + 1)), .ref (E.1 + (r + 2)), .ref (E.1 + (r + 3)), .int (nI sz), .int pf, .int ff, .int fb, .ref (E.1 + (r + 4)), .ref (E.1 + (r + 9))].set 6 (.int v))) = jpF E h r ds rx ry sz pf ff v U T := jpF_put
theorem jpF_st1 : (jpF E h r ds rx ry sz pf ff fb U T).set (r + 1) (jar E 24 f) = jpF E h r f rx ry sz pf ff fb U T := by rw [jpF_set (by omega), jpR_st1]
theorem jpF_st2 : (jpF E h r ds rx ry sz pf ff fb U T).set (r + 2) (jar E 24 f) = jpF E h r ds f ry sz pf ff fb U T := by rw [jpF_set (by omega), jpR_st2]
theorem jpF_st3 : (jpF E h r ds rx ry sz pf ff fb U T).set (r + 3) (jar E 24 f) = jpF E h r ds rx f sz pf ff fb U T := by rw [jpF_set (by omega), jpR_st3]
theorem jpF_len : (jpF E h r ds rx ry sz pf ff fb U T).length = h.length := by rw [jpT_len, jpT_len, jpR_len]
theorem jpF_T (hr : r + 13 < h.length) : r + 9 + 4 < (jpT E (jpR E h r ds rx ry sz pf ff fb) (r + 4) U).length := by rw [jpT_len, jpR_len]; omega
theorem jpF_U (hr : r + 13 < h.length) : r + 4 + 4 < (jpT E (jpR E h r ds rx ry sz pf ff fb) (r + 9) T).length := by rw [jpT_len, jpR_len]; omega
theorem jpF_comm : jpF E h r ds rx ry sz pf ff fb U T = jpT E (jpT E (jpR E h r ds rx ry sz pf ff fb) (r + 9) T) (r + 4) U := jpT_comm (by omega)
theorem jisB_of (hg : g + 4 < h.length) : jisB E (jpT E h g G) (g + 1) G.1 := ⟨jpB_o (jhg hg), jpB_x (jhg hg), jpB_y (jhg hg), jpB_c (jhg hg)⟩
end RW0
section RW
variable {l : Launch} {E : jE} {h : List va_E} {r sz g d : Nat} {ds rx ry : Nat → Int32} {pf ff fb : Int32} {U Y G : jGT}
theorem c_follow {a b : Int32} (hg : g + 4 < h.length) (hd : d < 16) (ht : G.2.2.2.2.2.1 < 4) : jMd l E yX2_follow cX2_follow 4 (some .boolean) 3 [.ref (E.1 + g), .int (nI d), .int a, .int b] (jpT E h g G) (some (.int (jB01 (jmay G d)))) (jpT E h g (if jmay G d then jfol G d a b else G)) 0 0 := by
  have k := c_X2_follow (l := l) (E := E) (h := h) (g := g) (d := d) (xs := G.1.1) (ys := G.1.2.1) (cv := G.1.2.2.1) (ly := G.1.2.2.2.1) (cu := G.1.2.2.2.2.1) (cd := G.1.2.2.2.2.2) (ro := G.2.1) (ru := G.2.2.1) (ti := G.2.2.2.1) (go := G.2.2.2.2.2.2.1) (rd := G.2.2.2.2.2.2.2) (se := G.2.2.2.2.1) (tu := G.2.2.2.2.2.1) (a := a) (b := b) hg hd ht
  have e : (jpT E h g (if jmay G d then jfol G d a b else G)) = (if jmay G d then jpT E h g (jfol G d a b) else jpT E h g G) := by split <;> rfl
  rw [e]
  exact k
theorem c_X3_startOver {t : Int32} (hg : g + 4 < h.length) : jMd l E yX3_startOver cX3_startOver 2 none 5 [.ref (E.1 + g), .int t] (jpT E h g G) none (jpT E h g (jsta G t)) 0 0 := by
  refine jMd_of (by decide) (Nat.le_of_ble_eq_true rfl) (by simp [Value.category]) (by first | rfl | simp [jpG_len, jpB_len]) (fun x hx F T hm => ?_)
  refine jG_aload_n F dX3_startOver_0 rfl ?_
  refine jc_X3_75 F dX3_startOver_1 (c_X2_beginAnew hg) (jpG_o hg) (by decide) (Nat.le_refl 0) (Nat.le_refl 0) (Nat.le_of_ble_eq_true rfl) ?_
  refine jG_aload_n F dX3_startOver_4 rfl ?_
  refine jG_iload_n F dX3_startOver_5 rfl ?_
  refine jp_X3_78 F dX3_startOver_6 (jpG_o hg) rfl rfl (Nat.le_of_ble_eq_true rfl) ?_
  refine jG_eq rfl rfl jpG_put_time ?_
  exact jG_ret F T (rfl) dX3_startOver_9
theorem c_X3_firstWrongIn {dn : Nat → Nat} {fr n : Nat} (hg : g + 4 < h.length) (hgr : r + 3 < g) (ht : G.2.2.2.2.2.1 < 4) (h0 : h[r]? = some (jro E r sz pf ff fb)) (h1 : h[r + 1]? = some (jar E 24 ds)) (h2 : h[r + 2]? = some (jar E 24 rx)) (h3 : h[r + 3]? = some (jar E 24 ry)) (hn : fr + n ≤ 24) (hd : ∀ i, i < fr + n → dn i < 16 ∧ ds i = nI (dn i)) : jMd l E yX3_firstWrongIn cX3_firstWrongIn 5 (some .int) 4 [.ref (E.1 + r), .ref (E.1 + g), .int (nI fr), .int (nI (fr + n))] (jpT E h g G) (some (.int (jfw dn rx ry n fr G).1)) (jpT E h g (jfw dn rx ry n fr G).2) 0 0 := by
  refine jMd_of (by decide) (Nat.le_of_ble_eq_true rfl) (by simp [Value.category]) (by first | rfl | simp [jpG_len, jpB_len]) (fun x hx F T hm => ?_)
  have loop : ∀ (m i : Nat) (G' : jGT), i + m = fr + n → G'.2.2.2.2.2.1 < 4 → jfw dn rx ry m i G' = jfw dn rx ry n fr G → jG E x 0 0 3 [.ref (E.1 + r), .ref (E.1 + g), .int (nI fr), .int (nI (fr + n)), .int (nI i)] [] (jpT E h g G') := by
    intro m
    induction m with
    | zero =>
      intro i G' hi hG hE
      have hi : i = fr + n := by omega
      subst hi
      refine jG_iload F dX3_firstWrongIn_3 rfl ?_
      refine jG_iload_n F dX3_firstWrongIn_5 rfl ?_
      refine jG_icmp_ge F 53 dX3_firstWrongIn_6 (by decide) (fun _ => ?_) (fun q => absurd (nI_le (Nat.le_refl (fr + n)) (by omega)) q)
      refine jG_bipush F (v := (-4 : Int32)) dX3_firstWrongIn_53 (by decide) ?_
      rw [← hE] at T
      exact jG_iret F T (rfl) rfl (by first | rfl | exact jnarb _ | (split <;> rfl)) dX3_firstWrongIn_55
    | succ m ih =>
      intro i G' hi hG hE
      refine jG_iload F dX3_firstWrongIn_3 rfl ?_
      refine jG_iload_n F dX3_firstWrongIn_5 rfl ?_
      refine jG_icmp_ge F 53 dX3_firstWrongIn_6 (by decide) (fun q => absurd q (nI_ge (show i < fr + n by omega) (by omega))) (fun _ => ?_)
      refine jG_iload F dX3_firstWrongIn_9 rfl ?_
      refine jG_bipush F (v := nI 24) dX3_firstWrongIn_11 (by decide) ?_
      refine jG_icmp_ge F 53 dX3_firstWrongIn_13 (by decide) (fun q => absurd q (nI_ge (show i < 24 by omega) (by decide))) (fun _ => ?_)
      refine jG_aload_n F dX3_firstWrongIn_16 rfl ?_
      refine jG_aload_n F dX3_firstWrongIn_17 rfl ?_
      refine jg_X3_9 F dX3_firstWrongIn_18 ((jpG_ne (by omega)).trans h0) rfl ?_
      refine jG_iload F dX3_firstWrongIn_21 rfl ?_
      refine jG_iald F dX3_firstWrongIn_23 ((jpG_ne (by omega)).trans h1) rfl (by omega) (by decide) ?_
      refine jG_eq rfl (congrArg (fun q => [Value.int q, Value.ref (E.1 + g)]) (hd i (by omega)).2) rfl ?_
      refine jG_aload_n F dX3_firstWrongIn_24 rfl ?_
      refine jg_X3_15 F dX3_firstWrongIn_25 ((jpG_ne (by omega)).trans h0) rfl ?_
      refine jG_iload F dX3_firstWrongIn_28 rfl ?_
      refine jG_iald F dX3_firstWrongIn_30 ((jpG_ne (by omega)).trans h2) rfl (by omega) (by decide) ?_
      refine jG_aload_n F dX3_firstWrongIn_31 rfl ?_
      refine jg_X3_18 F dX3_firstWrongIn_32 ((jpG_ne (by omega)).trans h0) rfl ?_
      refine jG_iload F dX3_firstWrongIn_35 rfl ?_
      refine jG_iald F dX3_firstWrongIn_37 ((jpG_ne (by omega)).trans h3) rfl (by omega) (by decide) ?_
      refine jc_X3_72 F dX3_firstWrongIn_38 (c_follow hg (hd i (by omega)).1 hG) (jpG_o hg) (by decide) (Nat.le_refl 0) (Nat.le_refl 0) (Nat.le_of_ble_eq_true rfl) ?_
      refine jG_if_ne F 47 dX3_firstWrongIn_41 (by decide) (fun q => ?_) (fun q => ?_)
      · have q := jB01_ne q
        refine jG_eq rfl rfl (show _ = jpT E h g (jfol G' (dn i) (rx i) (ry i)) by rw [if_pos q]) ?_
        refine jG_iinc_4 F (w := nI (i + 1)) dX3_firstWrongIn_47 (jinc i) (by decide) ?_
        refine jG_goto F 3 dX3_firstWrongIn_50 (by decide) ?_
        exact ih (i + 1) _ (by omega) (jfol_lt hG) (by rw [← hE]; exact (if_pos q).symm)
      · have q := jB01_eq q
        refine jG_eq rfl rfl (show _ = jpT E h g G' by rw [if_neg q]) ?_
        refine jG_iload F dX3_firstWrongIn_44 rfl ?_
        rw [← hE, show jfw dn rx ry (m + 1) i G' = (nI i, G') from if_neg q] at T
        exact jG_iret F T (rfl) rfl (by first | rfl | exact jnarb _ | (split <;> rfl)) dX3_firstWrongIn_46
  refine jG_iload_n F dX3_firstWrongIn_0 rfl ?_
  refine jG_istore_4n F dX3_firstWrongIn_1 (by decide) ?_
  exact loop n fr G rfl ht rfl
theorem c_X3_clear (hr : r + 13 < h.length) : jMd l E yX3_clear cX3_clear 2 (some .int) 0 [.ref (E.1 + r)] (jpF E h r ds rx ry sz pf ff fb U Y) (some (.int (nI sz))) (jpF E h r ds rx ry 0 pf ff (-4) U Y) 0 0 := by
  refine jMd_of (by decide) (Nat.le_of_ble_eq_true rfl) (by simp [Value.category]) (by simp [jpF_len]) (fun x hx F T hm => ?_)
  refine jG_aload_n F dX3_clear_0 rfl ?_
  refine jg_X3_21 F dX3_clear_1 (jpF_o hr) rfl ?_
  refine jG_istore_n_1n F dX3_clear_4 (by decide) ?_
  refine jG_aload_n F dX3_clear_5 rfl ?_
  refine jG_iconst F (v := nI 0) dX3_clear_6 (by decide) ?_
  refine jp_X3_21 F dX3_clear_7 (jpF_o hr) rfl rfl (Nat.le_of_ble_eq_true rfl) ?_
  refine jG_eq rfl rfl jpF_put_size ?_
  refine jG_aload_n F dX3_clear_10 rfl ?_
  refine jG_bipush F (v := (-4 : Int32)) dX3_clear_11 (by decide) ?_
  refine jp_X3_31 F dX3_clear_13 (jpF_o hr) rfl rfl (Nat.le_of_ble_eq_true rfl) ?_
  refine jG_eq rfl rfl jpF_put_fb ?_
  refine jG_iload_n F dX3_clear_16 rfl ?_
  exact jG_iret F T (rfl) rfl (by first | rfl | exact jnarb _ | (split <;> rfl)) dX3_clear_17
theorem c_X3_add {a b c : Int32} (hr : r + 13 < h.length) (hs : sz ≤ 24) : jMd l E yX3_add cX3_add 4 (some .int) 0 [.ref (E.1 + r), .int a, .int b, .int c] (jpF E h r ds rx ry sz pf ff fb U Y) (some (.int (if sz < 24 then nI (sz + 1) else -3))) (if sz < 24 then jpF E h r (upd ds sz a) (upd rx sz b) (upd ry sz c) (sz + 1) pf ff (-4) U Y else jpF E h r ds rx ry sz pf ff fb U Y) 0 0 := by
  refine jMd_of (by decide) (Nat.le_of_ble_eq_true rfl) (by simp [Value.category]) (by (repeat' split) <;> simp [jpF_len]) (fun x hx F T hm => ?_)
  refine jG_aload_n F dX3_add_0 rfl ?_
  refine jg_X3_21 F dX3_add_1 (jpF_o hr) rfl ?_
  refine jG_bipush F (v := nI 24) dX3_add_4 (by decide) ?_
  refine jG_icmp_lt F 12 dX3_add_6 (by decide) (fun q => ?_) (fun q => ?_)
  · have q : sz < 24 := (nI_ltI (by omega) (by decide)).mp q
    rw [if_pos q, if_pos q] at T
    refine jG_aload_n F dX3_add_12 rfl ?_
    refine jg_X3_9 F dX3_add_13 (jpF_o hr) rfl ?_
    refine jG_aload_n F dX3_add_16 rfl ?_
    refine jg_X3_21 F dX3_add_17 (jpF_o hr) rfl ?_
    refine jG_iload_n F dX3_add_20 rfl ?_
    refine jG_iast F dX3_add_21 (jpF_1 hr) rfl (by omega) (by decide) ?_
    refine jG_eq rfl rfl jpF_st1 ?_
    refine jG_aload_n F dX3_add_22 rfl ?_
    refine jg_X3_15 F dX3_add_23 (jpF_o hr) rfl ?_
    refine jG_aload_n F dX3_add_26 rfl ?_
    refine jg_X3_21 F dX3_add_27 (jpF_o hr) rfl ?_
    refine jG_iload_n F dX3_add_30 rfl ?_
    refine jG_iast F dX3_add_31 (jpF_2 hr) rfl (by omega) (by decide) ?_
    refine jG_eq rfl rfl jpF_st2 ?_
    refine jG_aload_n F dX3_add_32 rfl ?_
    refine jg_X3_18 F dX3_add_33 (jpF_o hr) rfl ?_
    refine jG_aload_n F dX3_add_36 rfl ?_
    refine jg_X3_21 F dX3_add_37 (jpF_o hr) rfl ?_
    refine jG_iload_n F dX3_add_40 rfl ?_
    refine jG_iast F dX3_add_41 (jpF_3 hr) rfl (by omega) (by decide) ?_
    refine jG_eq rfl rfl jpF_st3 ?_
    refine jG_aload_n F dX3_add_42 rfl ?_
    refine jG_dup F dX3_add_43 rfl ?_
    refine jg_X3_21 F dX3_add_44 (jpF_o hr) rfl ?_
    refine jG_iconst F (v := nI 1) dX3_add_47 (by decide) ?_
    refine jG_iadd F dX3_add_48 ?_
    refine jG_eq rfl (congrArg (fun z => [Value.int z, Value.ref (E.1 + r)]) (nI_add sz 1)) rfl ?_
    refine jp_X3_21 F dX3_add_49 (jpF_o hr) rfl rfl (Nat.le_of_ble_eq_true rfl) ?_
    refine jG_eq rfl rfl jpF_put_size ?_
    refine jG_aload_n F dX3_add_52 rfl ?_
    refine jG_bipush F (v := (-4 : Int32)) dX3_add_53 (by decide) ?_
    refine jp_X3_31 F dX3_add_55 (jpF_o hr) rfl rfl (Nat.le_of_ble_eq_true rfl) ?_
    refine jG_eq rfl rfl jpF_put_fb ?_
    refine jG_aload_n F dX3_add_58 rfl ?_
    refine jg_X3_21 F dX3_add_59 (jpF_o hr) rfl ?_
    exact jG_iret F T (rfl) rfl (by first | rfl | exact jnarb _ | (split <;> rfl)) dX3_add_62
  · have q : ¬ sz < 24 := fun z => q (nI_lt z (by decide))
    rw [if_neg q, if_neg q] at T
    refine jG_bipush F (v := (-3 : Int32)) dX3_add_9 (by decide) ?_
    exact jG_iret F T (rfl) rfl (by first | rfl | exact jnarb _ | (split <;> rfl)) dX3_add_11
theorem c_X3_countPlace {a b : Int32} (hr : r + 13 < h.length) : jMd l E yX3_countPlace cX3_countPlace 3 none 0 [.ref (E.1 + r), .int a, .int b] (jpF E h r ds rx ry sz pf ff fb U Y) none (jpF E h r ds rx ry sz (pf + 1) (if pf = 0 then 100 * a + b else ff) fb U Y) 0 0 := by
  refine jMd_of (by decide) (Nat.le_of_ble_eq_true rfl) (by simp [Value.category]) (by simp [jpF_len]) (fun x hx F T hm => ?_)
  refine jG_aload_n F dX3_countPlace_0 rfl ?_
  refine jg_X3_25 F dX3_countPlace_1 (jpF_o hr) rfl ?_
  refine jG_if_ne F 17 dX3_countPlace_4 (by decide) (fun q => ?_) (fun q => ?_)
  · rw [if_neg q] at T
    refine jG_aload_n F dX3_countPlace_17 rfl ?_
    refine jG_dup F dX3_countPlace_18 rfl ?_
    refine jg_X3_25 F dX3_countPlace_19 (jpF_o hr) rfl ?_
    refine jG_iconst F (v := (1 : Int32)) dX3_countPlace_22 (by decide) ?_
    refine jG_iadd F dX3_countPlace_23 ?_
    refine jp_X3_25 F dX3_countPlace_24 (jpF_o hr) rfl rfl (Nat.le_of_ble_eq_true rfl) ?_
    refine jG_eq rfl rfl jpF_put_pf ?_
    exact jG_ret F T (rfl) dX3_countPlace_27
  · rw [if_pos q] at T
    refine jG_aload_n F dX3_countPlace_7 rfl ?_
    refine jG_bipush F (v := (100 : Int32)) dX3_countPlace_8 (by decide) ?_
    refine jG_iload_n F dX3_countPlace_10 rfl ?_
    refine jG_imul F dX3_countPlace_11 ?_
    refine jG_iload_n F dX3_countPlace_12 rfl ?_
    refine jG_iadd F dX3_countPlace_13 ?_
    refine jp_X3_28 F dX3_countPlace_14 (jpF_o hr) rfl rfl (Nat.le_of_ble_eq_true rfl) ?_
    refine jG_eq rfl rfl jpF_put_ff ?_
    refine jG_aload_n F dX3_countPlace_17 rfl ?_
    refine jG_dup F dX3_countPlace_18 rfl ?_
    refine jg_X3_25 F dX3_countPlace_19 (jpF_o hr) rfl ?_
    refine jG_iconst F (v := (1 : Int32)) dX3_countPlace_22 (by decide) ?_
    refine jG_iadd F dX3_countPlace_23 ?_
    refine jp_X3_25 F dX3_countPlace_24 (jpF_o hr) rfl rfl (Nat.le_of_ble_eq_true rfl) ?_
    refine jG_eq rfl rfl jpF_put_pf ?_
    exact jG_ret F T (rfl) dX3_countPlace_27
/-- onlyGap -/
def jog (rx : Nat → Int32) : Nat → Nat → Int32 → Int32
  | 0, _, g => g
  | n + 1, i, g => if rx i = -1 then (if g = -4 then jog rx n (i + 1) (nI i) else -4) else jog rx n (i + 1) g
theorem c_X3_onlyGap (hr : r + 13 < h.length) (hs : sz ≤ 24) : jMd l E yX3_onlyGap cX3_onlyGap 3 (some .int) 0 [.ref (E.1 + r)] (jpF E h r ds rx ry sz pf ff fb U Y) (some (.int (jog rx sz 0 (-4)))) (jpF E h r ds rx ry sz pf ff fb U Y) 0 0 := by
  refine jMd_of (by decide) (Nat.le_of_ble_eq_true rfl) (by simp [Value.category]) rfl (fun x hx F T hm => ?_)
  have loop : ∀ (m i : Nat) (gp : Int32), i + m = sz → jog rx m i gp = jog rx sz 0 (-4) → jG E x 0 0 5 [.ref (E.1 + r), .int gp, .int (nI i)] [] (jpF E h r ds rx ry sz pf ff fb U Y) := by
    intro m
    induction m with
    | zero =>
      intro i gp hi hE
      have hi : i = sz := by omega
      subst hi
      refine jG_iload_n F dX3_onlyGap_5 rfl ?_
      refine jG_aload_n F dX3_onlyGap_6 rfl ?_
      refine jg_X3_21 F dX3_onlyGap_7 (jpF_o hr) rfl ?_
      refine jG_icmp_ge F 46 dX3_onlyGap_10 (by decide) (fun _ => ?_) (fun q => absurd (nI_le (Nat.le_refl i) (by omega)) q)
      refine jG_iload_n F dX3_onlyGap_46 rfl ?_
      exact jG_iret F T (hE) rfl (by first | rfl | exact jnarb _ | (split <;> rfl)) dX3_onlyGap_47
    | succ m ih =>
      intro i gp hi hE
      refine jG_iload_n F dX3_onlyGap_5 rfl ?_
      refine jG_aload_n F dX3_onlyGap_6 rfl ?_
      refine jg_X3_21 F dX3_onlyGap_7 (jpF_o hr) rfl ?_
      refine jG_icmp_ge F 46 dX3_onlyGap_10 (by decide) (fun q => absurd q (nI_ge (show i < sz by omega) (by omega))) (fun _ => ?_)
      refine jG_iload_n F dX3_onlyGap_13 rfl ?_
      refine jG_bipush F (v := nI 24) dX3_onlyGap_14 (by decide) ?_
      refine jG_icmp_ge F 46 dX3_onlyGap_16 (by decide) (fun q => absurd q (nI_ge (show i < 24 by omega) (by decide))) (fun _ => ?_)
      refine jG_aload_n F dX3_onlyGap_19 rfl ?_
      refine jg_X3_15 F dX3_onlyGap_20 (jpF_o hr) rfl ?_
      refine jG_iload_n F dX3_onlyGap_23 rfl ?_
      refine jG_iald F dX3_onlyGap_24 (jpF_2 hr) rfl (by omega) (by decide) ?_
      refine jG_iconst F (v := (-1 : Int32)) dX3_onlyGap_25 (by decide) ?_
      refine jG_icmp_ne F 40 dX3_onlyGap_26 (by decide) (fun q => ?_) (fun q => ?_)
      · refine jG_iinc_2 F (w := nI (i + 1)) dX3_onlyGap_40 (jinc i) (by decide) ?_
        refine jG_goto F 5 dX3_onlyGap_43 (by decide) ?_
        exact ih (i + 1) gp (by omega) (by rw [← hE]; exact (if_neg q).symm)
      · refine jG_iload_n F dX3_onlyGap_29 rfl ?_
        refine jG_bipush F (v := (-4 : Int32)) dX3_onlyGap_30 (by decide) ?_
        refine jG_icmp_eq F 38 dX3_onlyGap_32 (by decide) (fun q2 => ?_) (fun q2 => ?_)
        · refine jG_iload_n F dX3_onlyGap_38 rfl ?_
          refine jG_istore_n_1e F dX3_onlyGap_39 (by decide) ?_
          refine jG_iinc_2 F (w := nI (i + 1)) dX3_onlyGap_40 (jinc i) (by decide) ?_
          refine jG_goto F 5 dX3_onlyGap_43 (by decide) ?_
          exact ih (i + 1) _ (by omega) (by rw [← hE]; exact ((if_pos q).trans (if_pos q2)).symm)
        · refine jG_bipush F (v := (-4 : Int32)) dX3_onlyGap_35 (by decide) ?_
          exact jG_iret F T (((if_pos q).trans (if_neg q2)).symm.trans hE) rfl (by first | rfl | exact jnarb _ | (split <;> rfl)) dX3_onlyGap_37
  refine jG_bipush F (v := (-4 : Int32)) dX3_onlyGap_0 (by decide) ?_
  refine jG_istore_n_1n F dX3_onlyGap_2 (by decide) ?_
  refine jG_iconst F (v := nI 0) dX3_onlyGap_3 (by decide) ?_
  refine jG_istore_n_2n F dX3_onlyGap_4 (by decide) ?_
  exact loop sz 0 (-4) (by omega) rfl
def jnr (rx ry : Nat → Int32) (a b : Int32) : Nat → Nat → Bool
  | 0, _ => false
  | n + 1, i => if jway a b (rx i) (ry i) < 4 then true else jnr rx ry a b n (i + 1)
theorem c_X3_isNearWritten {a b : Int32} (hr : r + 13 < h.length) (hs : sz ≤ 24) : jMd l E yX3_isNearWritten cX3_isNearWritten 4 (some .boolean) 2 [.ref (E.1 + r), .int a, .int b] (jpF E h r ds rx ry sz pf ff fb U Y) (some (.int (jB01 (jnr rx ry a b sz 0 = true)))) (jpF E h r ds rx ry sz pf ff fb U Y) 0 0 := by
  refine jMd_of (by decide) (Nat.le_of_ble_eq_true rfl) (by simp [Value.category]) rfl (fun x hx F T hm => ?_)
  have loop : ∀ (m i : Nat), i + m = sz → jnr rx ry a b m i = jnr rx ry a b sz 0 → jG E x 0 0 2 [.ref (E.1 + r), .int a, .int b, .int (nI i)] [] (jpF E h r ds rx ry sz pf ff fb U Y) := by
    intro m
    induction m with
    | zero =>
      intro i hi hE
      have hi : i = sz := by omega
      subst hi
      refine jG_iload_n F dX3_isNearWritten_2 rfl ?_
      refine jG_aload_n F dX3_isNearWritten_3 rfl ?_
      refine jg_X3_21 F dX3_isNearWritten_4 (jpF_o hr) rfl ?_
      refine jG_icmp_ge F 45 dX3_isNearWritten_7 (by decide) (fun _ => ?_) (fun q => absurd (nI_le (Nat.le_refl i) (by omega)) q)
      refine jG_iconst F (v := (0 : Int32)) dX3_isNearWritten_45 (by decide) ?_
      exact jG_iret F T (by rw [← hE]; rfl) rfl (by first | rfl | exact jnarb _ | (split <;> rfl)) dX3_isNearWritten_46
    | succ m ih =>
      intro i hi hE
      refine jG_iload_n F dX3_isNearWritten_2 rfl ?_
      refine jG_aload_n F dX3_isNearWritten_3 rfl ?_
      refine jg_X3_21 F dX3_isNearWritten_4 (jpF_o hr) rfl ?_
      refine jG_icmp_ge F 45 dX3_isNearWritten_7 (by decide) (fun q => absurd q (nI_ge (show i < sz by omega) (by omega))) (fun _ => ?_)
      refine jG_iload_n F dX3_isNearWritten_10 rfl ?_
      refine jG_bipush F (v := nI 24) dX3_isNearWritten_11 (by decide) ?_
      refine jG_icmp_ge F 45 dX3_isNearWritten_13 (by decide) (fun q => absurd q (nI_ge (show i < 24 by omega) (by decide))) (fun _ => ?_)
      refine jG_iload_n F dX3_isNearWritten_16 rfl ?_
      refine jG_iload_n F dX3_isNearWritten_17 rfl ?_
      refine jG_aload_n F dX3_isNearWritten_18 rfl ?_
      refine jg_X3_15 F dX3_isNearWritten_19 (jpF_o hr) rfl ?_
      refine jG_iload_n F dX3_isNearWritten_22 rfl ?_
      refine jG_iald F dX3_isNearWritten_23 (jpF_2 hr) rfl (by omega) (by decide) ?_
      refine jG_aload_n F dX3_isNearWritten_24 rfl ?_
      refine jg_X3_18 F dX3_isNearWritten_25 (jpF_o hr) rfl ?_
      refine jG_iload_n F dX3_isNearWritten_28 rfl ?_
      refine jG_iald F dX3_isNearWritten_29 (jpF_3 hr) rfl (by omega) (by decide) ?_
      refine jc_X3_64 F dX3_isNearWritten_30 (c_X5_wayBetween) (by decide) (Nat.le_refl 0) (Nat.le_refl 0) (Nat.le_of_ble_eq_true rfl) ?_
      refine jG_iconst F (v := (4 : Int32)) dX3_isNearWritten_33 (by decide) ?_
      refine jG_icmp_ge F 39 dX3_isNearWritten_34 (by decide) (fun q => ?_) (fun q => ?_)
      · refine jG_iinc_3 F (w := nI (i + 1)) dX3_isNearWritten_39 (jinc i) (by decide) ?_
        refine jG_goto F 2 dX3_isNearWritten_42 (by decide) ?_
        exact ih (i + 1) (by omega) (by rw [← hE]; exact (if_neg (Int32.not_lt.mpr q)).symm)
      · refine jG_iconst F (v := (1 : Int32)) dX3_isNearWritten_37 (by decide) ?_
        exact jG_iret F T (by rw [← hE, show jnr rx ry a b (m + 1) i = true from if_pos (Int32.not_le.mp q)]; rfl) rfl (by first | rfl | exact jnarb _ | (split <;> rfl)) dX3_isNearWritten_38
  refine jG_iconst F (v := nI 0) dX3_isNearWritten_0 (by decide) ?_
  refine jG_istore_n_3n F dX3_isNearWritten_1 (by decide) ?_
  exact loop sz 0 (by omega) rfl
end RW
