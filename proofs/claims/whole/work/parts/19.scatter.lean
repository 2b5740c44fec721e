/-! ===== Scatter ===== -/
abbrev jso (E : jE) (s : Nat) : va_E := .inr (4, [.ref (E.1 + (s + 1)), .ref (E.1 + (s + 2)), .ref (E.1 + (s + 3))])
def jpS (E : jE) (h : List va_E) (s : Nat) (hm os op : Nat → Int32) : List va_E := ((h.set (s + 1) (jar E 20 hm)).set (s + 2) (jar E 20 os)).set (s + 3) (jar E 4 op)
section SC0
variable {E : jE} {h : List va_E} {s : Nat} {hm os op f : Nat → Int32}
theorem jpS_len : (jpS E h s hm os op).length = h.length := by simp [jpS]
theorem jpS_o (hs : s + 3 < h.length) (ho : h[s]? = some (jso E s)) : (jpS E h s hm os op)[s]? = some (jso E s) := by
  simp only [jpS, List.getElem?_set, List.length_set]
  simp [ho]
theorem jpS_1 (hs : s + 3 < h.length) : (jpS E h s hm os op)[s + 1]? = some (jar E 20 hm) := by
  simp [jpS, List.getElem?_set, show s + 1 < h.length by omega]
theorem jpS_2 (hs : s + 3 < h.length) : (jpS E h s hm os op)[s + 2]? = some (jar E 20 os) := by
  simp [jpS, List.getElem?_set, show s + 2 < h.length by omega]
theorem jpS_3 (hs : s + 3 < h.length) : (jpS E h s hm os op)[s + 3]? = some (jar E 4 op) := by
  simp [jpS, List.getElem?_set, hs]
theorem jpS_st1 : (jpS E h s hm os op).set (s + 1) (jar E 20 f) = jpS E h s f os op := by
  apply jset_ext; intro j
  simp only [jpS, List.getElem?_set, List.length_set]
  by_cases e : s + 1 = j
  · subst e; simp
  · simp [e]
theorem jpS_st2 : (jpS E h s hm os op).set (s + 2) (jar E 20 f) = jpS E h s hm f op := by
  apply jset_ext; intro j
  simp only [jpS, List.getElem?_set, List.length_set]
  by_cases e : s + 2 = j
  · subst e; simp
  · simp [e]
theorem jpS_st3 : (jpS E h s hm os op).set (s + 3) (jar E 4 f) = jpS E h s hm os f := by
  apply jset_ext; intro j
  simp only [jpS, List.getElem?_set, List.length_set]
  by_cases e : s + 3 = j
  · subst e; simp
  · simp [e]
end SC0
/-- Euclid: at most n steps -/
def jgcd : Nat → Int32 → Int32 → Int32
  | 0, a, _ => a
  | n + 1, a, b => if b = 0 then a else jgcd n b (a - a / b * b)
section SC
variable {l : Launch} {E : jE} {h : List va_E} {s p k : Nat} {hm os op : Nat → Int32}
theorem c_X4_commonDivisor {a b : Int32} : jMd l E yX4_commonDivisor cX4_commonDivisor 6 (some .int) 0 [.int a, .int b] h (some (.int (jgcd 100 a b))) h 0 0 := by
  refine jMd_of (by decide) (Nat.le_of_ble_eq_true rfl) (by simp [Value.category]) (by first | rfl | simp [jpB_len]) (fun x hx F T hm => ?_)
  have loop : ∀ n, n ≤ 100 → ∀ (u v : Int32) (r : List Value), jgcd n u v = jgcd 100 a b → jG E x 0 0 7 (.int a :: .int b :: .int u :: .int v :: .int (nI (100 - n)) :: r) [] h := by
    intro n
    induction n with
    | zero =>
      intro _ u v r h1
      refine jG_iload F dX4_commonDivisor_7 rfl ?_
      refine jG_bipush F (v := nI 100) dX4_commonDivisor_9 (by decide) ?_
      refine jG_icmp_ge F 34 dX4_commonDivisor_11 (by decide) (fun _ => ?_) (fun q => absurd (nI_le (Nat.le_refl 100) (by decide)) q)
      refine jG_iload_n F dX4_commonDivisor_34 rfl ?_
      exact jG_iret F T (h1) rfl (by first | rfl | exact jnarb _ | (split <;> rfl)) dX4_commonDivisor_35
    | succ n ih =>
      intro hn u v r h1
      refine jG_take 5 ?_
      refine jG_iload F dX4_commonDivisor_7 rfl ?_
      refine jG_bipush F (v := nI 100) dX4_commonDivisor_9 (by decide) ?_
      refine jG_icmp_ge F 34 dX4_commonDivisor_11 (by decide) (fun q => absurd q (nI_ge (show 100 - (n + 1) < 100 by omega) (by decide))) (fun _ => ?_)
      refine jG_iload_n F dX4_commonDivisor_14 rfl ?_
      refine jG_if_eq F 34 dX4_commonDivisor_15 (by decide) (fun q => ?_) (fun q => ?_)
      · refine jG_iload_n F dX4_commonDivisor_34 rfl ?_
        exact jG_iret F T ((if_pos q).symm.trans h1) rfl (by first | rfl | exact jnarb _ | (split <;> rfl)) dX4_commonDivisor_35
      · refine jG_iload_n F dX4_commonDivisor_18 rfl ?_
        refine jG_iload_n F dX4_commonDivisor_19 rfl ?_
        refine jG_irem F dX4_commonDivisor_20 q ?_
        refine jG_istore_5n F dX4_commonDivisor_21 (by decide) ?_
        refine jG_iload_n F dX4_commonDivisor_23 rfl ?_
        refine jG_istore_n_2e F dX4_commonDivisor_24 (by decide) ?_
        refine jG_iload F dX4_commonDivisor_25 rfl ?_
        refine jG_istore_n_3e F dX4_commonDivisor_27 (by decide) ?_
        refine jG_iinc_4 F (w := nI (100 - n)) dX4_commonDivisor_28 ((jinc (100 - (n + 1))).trans (by rw [show 100 - (n + 1) + 1 = 100 - n by omega])) (by decide) ?_
        refine jG_goto F 7 dX4_commonDivisor_31 (by decide) ?_
        exact ih (by omega) _ _ _ (by rw [← h1]; exact (if_neg q).symm)
  refine jG_iload_n F dX4_commonDivisor_0 rfl ?_
  refine jG_istore_n_2n F dX4_commonDivisor_1 (by decide) ?_
  refine jG_iload_n F dX4_commonDivisor_2 rfl ?_
  refine jG_istore_n_3n F dX4_commonDivisor_3 (by decide) ?_
  refine jG_iconst F (v := nI 0) dX4_commonDivisor_4 (by decide) ?_
  refine jG_istore_4n F dX4_commonDivisor_5 (by decide) ?_
  exact loop 100 (by omega) a b [] rfl
theorem c_X4_add {w of : Int32} (hs : s + 3 < h.length) (ho : h[s]? = some (jso E s)) (hp : p < 4) (hk : k < 5) (hkk : (if w / 8 < 4 then w / 8 else 4) = nI k) : jMd l E yX4_add cX4_add 5 (some .int) 1 [.ref (E.1 + s), .int (nI p), .int w, .int of] (jpS E h s hm os op) (some (.int (if op p < 1000 then op p + 1 else -3))) (if op p < 1000 then jpS E h s (upd hm (p * 5 + k) (hm (p * 5 + k) + 1)) (upd os (p * 5 + k) (os (p * 5 + k) + of)) (upd op p (op p + 1)) else jpS E h s hm os op) 0 0 := by
  refine jMd_of (by decide) (Nat.le_of_ble_eq_true rfl) (by simp [Value.category]) (by (repeat' split) <;> simp [jpS_len]) (fun x hx F T hmm => ?_)
  have e : nI p * 5 + nI k = nI (p * 5 + k) := by rw [← nI_add, ← pk_mul]; rfl
  refine jG_aload_n F dX4_add_0 rfl ?_
  refine jg_X4_18 F dX4_add_1 (jpS_o hs ho) rfl ?_
  refine jG_iload_n F dX4_add_4 rfl ?_
  refine jG_iald F dX4_add_5 (jpS_3 hs) rfl (by omega) (by decide) ?_
  refine jG_sipush F (v := (1000 : Int32)) dX4_add_6 (by decide) ?_
  refine jG_icmp_lt F 15 dX4_add_9 (by decide) (fun q => ?_) (fun q => ?_)
  · rw [if_pos q, if_pos q] at T
    refine jG_iconst F (v := (4 : Int32)) dX4_add_15 (by decide) ?_
    refine jG_iload_n F dX4_add_16 rfl ?_
    refine jG_bipush F (v := (8 : Int32)) dX4_add_17 (by decide) ?_
    refine jG_idiv F dX4_add_19 (by decide) ?_
    refine jc_X4_21 F dX4_add_20 (by decide) (Nat.le_of_ble_eq_true rfl) ?_
    refine jG_istore_4n F dX4_add_23 (by decide) ?_
    refine jG_eq (lv2 := [.ref (E.1 + s), .int (nI p), .int w, .int of, .int (nI k)]) (by rw [← hkk]) rfl rfl ?_
    refine jG_aload_n F dX4_add_25 rfl ?_
    refine jg_X4_9 F dX4_add_26 (jpS_o hs ho) rfl ?_
    refine jG_iload_n F dX4_add_29 rfl ?_
    refine jG_iconst F (v := (5 : Int32)) dX4_add_30 (by decide) ?_
    refine jG_imul F dX4_add_31 ?_
    refine jG_iload F dX4_add_32 rfl ?_
    refine jG_iadd F dX4_add_34 ?_
    refine jG_dup2 F dX4_add_35 rfl rfl ?_
    refine jG_iald F dX4_add_36 (jpS_1 hs) e (by omega) (by decide) ?_
    refine jG_iconst F (v := (1 : Int32)) dX4_add_37 (by decide) ?_
    refine jG_iadd F dX4_add_38 ?_
    refine jG_iast F dX4_add_39 (jpS_1 hs) e (by omega) (by decide) ?_
    refine jG_eq rfl rfl jpS_st1 ?_
    refine jG_aload_n F dX4_add_40 rfl ?_
    refine jg_X4_15 F dX4_add_41 (jpS_o hs ho) rfl ?_
    refine jG_iload_n F dX4_add_44 rfl ?_
    refine jG_iconst F (v := (5 : Int32)) dX4_add_45 (by decide) ?_
    refine jG_imul F dX4_add_46 ?_
    refine jG_iload F dX4_add_47 rfl ?_
    refine jG_iadd F dX4_add_49 ?_
    refine jG_dup2 F dX4_add_50 rfl rfl ?_
    refine jG_iald F dX4_add_51 (jpS_2 hs) e (by omega) (by decide) ?_
    refine jG_iload_n F dX4_add_52 rfl ?_
    refine jG_iadd F dX4_add_53 ?_
    refine jG_iast F dX4_add_54 (jpS_2 hs) e (by omega) (by decide) ?_
    refine jG_eq rfl rfl jpS_st2 ?_
    refine jG_aload_n F dX4_add_55 rfl ?_
    refine jg_X4_18 F dX4_add_56 (jpS_o hs ho) rfl ?_
    refine jG_iload_n F dX4_add_59 rfl ?_
    refine jG_dup2 F dX4_add_60 rfl rfl ?_
    refine jG_iald F dX4_add_61 (jpS_3 hs) rfl (by omega) (by decide) ?_
    refine jG_iconst F (v := (1 : Int32)) dX4_add_62 (by decide) ?_
    refine jG_iadd F dX4_add_63 ?_
    refine jG_iast F dX4_add_64 (jpS_3 hs) rfl (by omega) (by decide) ?_
    refine jG_eq rfl rfl jpS_st3 ?_
    refine jG_aload_n F dX4_add_65 rfl ?_
    refine jg_X4_18 F dX4_add_66 (jpS_o hs ho) rfl ?_
    refine jG_iload_n F dX4_add_69 rfl ?_
    refine jG_iald F dX4_add_70 (jpS_3 hs) rfl (by omega) (by decide) ?_
    exact jG_iret F T (by simp [upd]) rfl (by first | rfl | exact jnarb _ | (split <;> rfl)) dX4_add_71
  · rw [if_neg q, if_neg q] at T
    refine jG_bipush F (v := (-3 : Int32)) dX4_add_12 (by decide) ?_
    exact jG_iret F T (rfl) rfl (by first | rfl | exact jnarb _ | (split <;> rfl)) dX4_add_14
theorem c_X4_tell {wh : Int32} (hs : s + 3 < h.length) (ho : h[s]? = some (jso E s)) (hp : p < 4) (hk : k < 5) : jMd l E yX4_tell cX4_tell 7 (some .int) 1 [.ref (E.1 + s), .int (nI p), .int (nI k), .int wh] (jpS E h s hm os op) (some (.int (if wh = 2 then hm (p * 5 + k) else if hm (p * 5 + k) = 0 ∨ jgcd 100 (os (p * 5 + k)) (hm (p * 5 + k)) = 0 then -2 else if wh = 0 then os (p * 5 + k) / jgcd 100 (os (p * 5 + k)) (hm (p * 5 + k)) else hm (p * 5 + k) / jgcd 100 (os (p * 5 + k)) (hm (p * 5 + k))))) (jpS E h s hm os op) 0 0 := by
  refine jMd_of (by decide) (Nat.le_of_ble_eq_true rfl) (by simp [Value.category]) rfl (fun x hx F T hmm => ?_)
  have e : nI p * 5 + nI k = nI (p * 5 + k) := by rw [← nI_add, ← pk_mul]; rfl
  refine jG_aload_n F dX4_tell_0 rfl ?_
  refine jg_X4_9 F dX4_tell_1 (jpS_o hs ho) rfl ?_
  refine jG_iload_n F dX4_tell_4 rfl ?_
  refine jG_iconst F (v := (5 : Int32)) dX4_tell_5 (by decide) ?_
  refine jG_imul F dX4_tell_6 ?_
  refine jG_iload_n F dX4_tell_7 rfl ?_
  refine jG_iadd F dX4_tell_8 ?_
  refine jG_iald F dX4_tell_9 (jpS_1 hs) e (by omega) (by decide) ?_
  refine jG_istore_4n F dX4_tell_10 (by decide) ?_
  refine jG_aload_n F dX4_tell_12 rfl ?_
  refine jg_X4_15 F dX4_tell_13 (jpS_o hs ho) rfl ?_
  refine jG_iload_n F dX4_tell_16 rfl ?_
  refine jG_iconst F (v := (5 : Int32)) dX4_tell_17 (by decide) ?_
  refine jG_imul F dX4_tell_18 ?_
  refine jG_iload_n F dX4_tell_19 rfl ?_
  refine jG_iadd F dX4_tell_20 ?_
  refine jG_iald F dX4_tell_21 (jpS_2 hs) e (by omega) (by decide) ?_
  refine jG_istore_5n F dX4_tell_22 (by decide) ?_
  refine jG_iload_n F dX4_tell_24 rfl ?_
  refine jG_iconst F (v := (2 : Int32)) dX4_tell_25 (by decide) ?_
  refine jG_icmp_ne F 32 dX4_tell_26 (by decide) (fun q => ?_) (fun q => ?_)
  · rw [if_neg q] at T
    refine jG_iload F dX4_tell_32 rfl ?_
    refine jG_iload F dX4_tell_34 rfl ?_
    refine jc_X4_27 F dX4_tell_36 (c_X4_commonDivisor) (by decide) (Nat.le_refl 0) (Nat.le_refl 0) (Nat.le_of_ble_eq_true rfl) ?_
    refine jG_istore_6n F dX4_tell_39 (by decide) ?_
    refine jG_iload F dX4_tell_41 rfl ?_
    refine jG_if_eq F 51 dX4_tell_43 (by decide) (fun q2 => ?_) (fun q2 => ?_)
    · rw [if_pos (Or.inl q2)] at T
      refine jG_bipush F (v := (-2 : Int32)) dX4_tell_51 (by decide) ?_
      exact jG_iret F T (rfl) rfl (by first | rfl | exact jnarb _ | (split <;> rfl)) dX4_tell_53
    · refine jG_iload F dX4_tell_46 rfl ?_
      refine jG_if_ne F 54 dX4_tell_48 (by decide) (fun q3 => ?_) (fun q3 => ?_)
      · rw [if_neg (fun z => z.elim q2 q3)] at T
        refine jG_iload_n F dX4_tell_54 rfl ?_
        refine jG_if_ne F 63 dX4_tell_55 (by decide) (fun q4 => ?_) (fun q4 => ?_)
        · rw [if_neg q4] at T
          refine jG_iload F dX4_tell_63 rfl ?_
          refine jG_iload F dX4_tell_65 rfl ?_
          refine jG_idiv F dX4_tell_67 q3 ?_
          exact jG_iret F T (rfl) rfl (by first | rfl | exact jnarb _ | (split <;> rfl)) dX4_tell_68
        · rw [if_pos q4] at T
          refine jG_iload F dX4_tell_58 rfl ?_
          refine jG_goto F 65 dX4_tell_60 (by decide) ?_
          refine jG_iload F dX4_tell_65 rfl ?_
          refine jG_idiv F dX4_tell_67 q3 ?_
          exact jG_iret F T (rfl) rfl (by first | rfl | exact jnarb _ | (split <;> rfl)) dX4_tell_68
      · rw [if_pos (Or.inr q3)] at T
        refine jG_bipush F (v := (-2 : Int32)) dX4_tell_51 (by decide) ?_
        exact jG_iret F T (rfl) rfl (by first | rfl | exact jnarb _ | (split <;> rfl)) dX4_tell_53
  · rw [if_pos q] at T
    refine jG_iload F dX4_tell_29 rfl ?_
    exact jG_iret F T (rfl) rfl (by first | rfl | exact jnarb _ | (split <;> rfl)) dX4_tell_31
end SC
