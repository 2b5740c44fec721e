/-! ===== the game that is played, beside the model's board ===== -/
abbrev jwT : Int32 → Int32 → Prop := fun _ _ => True
abbrev jgF : Nat → Int32 → Int32 → Prop := fun _ _ _ => False
theorem jGWT : jGW jwT jgF := ⟨fun e x y a b h _ => h.elim, fun e f x y a b h _ _ => h.elim⟩
/-- where the DISCS are told to be -/
def jpos (B : jBT) (A : Nat → Int32) : Prop := ∀ e, e < 16 → B.1 e = mX A e ∧ B.2.1 e = mY A e
section PO
variable {B : jBT} {A A' : Nat → Int32} {d : Nat} {a b : Int32}
theorem mX_sm {i : Nat} (h : jsm A A' i) : mX A' i = mX A i ∧ mY A' i = mY A i := by
  unfold mX mY
  rw [h.1, h.2.1, h.2.2.1]
  exact ⟨rfl, rfl⟩
theorem jpos.same (h : jpos B A) (hs : ∀ i, i < 16 → jsm A A' i) : jpos B A' := fun e he => by
  rw [(mX_sm (hs e he)).1, (mX_sm (hs e he)).2]; exact h e he
theorem jlift_xy : (jliftF B d).1 = B.1 ∧ (jliftF B d).2.1 = B.2.1 := by
  unfold jliftF
  split <;> exact ⟨rfl, rfl⟩
theorem jbring_b {b : Int32} : (jbringF B d (-1) b).1 = upd B.1 d (jtabX (d % 4)) ∧ (jbringF B d (-1) b).2.1 = upd B.2.1 d (jtabY (d % 4)) := by
  rw [show jbringF B d (-1) b = jputF (jliftF B d) d (jtabX (d % 4)) (jtabY (d % 4)) from if_pos rfl]
  exact ⟨congrArg (fun f => upd f d (jtabX (d % 4))) jlift_xy.1, congrArg (fun f => upd f d (jtabY (d % 4))) jlift_xy.2⟩
theorem jbring_p (h : ¬ a = -1) : (jbringF B d a b).1 = upd B.1 d a ∧ (jbringF B d a b).2.1 = upd B.2.1 d b := by
  unfold jbringF
  rw [if_neg h]
  have e := jlift_xy (B := B) (d := d)
  split
  · exact ⟨congrArg (fun f => upd f d a) e.1, congrArg (fun f => upd f d b) e.2⟩
  · exact ⟨congrArg (fun f => upd f d a) e.1, congrArg (fun f => upd f d b) e.2⟩
theorem jpos.base (h : jpos B A) (hd : d < 16) {b : Int32} : jpos (jbringF B d (-1) b) (upd A d 0) := by
  intro e he
  rw [jbring_b.1, jbring_b.2]
  by_cases q : e = d
  · subst q
    rw [upd_eq, upd_eq]
    have t : upd A e 0 e = 0 := upd_eq
    exact ⟨(show mX (upd A e 0) e = _ from if_pos t).symm, (show mY (upd A e 0) e = _ from if_pos t).symm⟩
  · rw [upd_ne q, upd_ne q, (mX_sm (jsm_upd hd he q)).1, (mX_sm (jsm_upd hd he q)).2]
    exact h e he
theorem jpos.cup (h : jpos B A) (hd : d < 16) : jpos (jbringF B d 41 41) (upd A d 2) := by
  intro e he
  rw [(jbring_p (by decide)).1, (jbring_p (by decide)).2]
  by_cases q : e = d
  · subst q
    rw [upd_eq, upd_eq]
    have t : upd A e 2 e = 2 := upd_eq
    have n : ¬ upd A e 2 e = 0 := by rw [t]; decide
    exact ⟨(show mX (upd A e 2) e = _ from (if_neg n).trans (if_pos t)).symm, (show mY (upd A e 2) e = _ from (if_neg n).trans (if_pos t)).symm⟩
  · rw [upd_ne q, upd_ne q, (mX_sm (jsm_upd hd he q)).1, (mX_sm (jsm_upd hd he q)).2]
    exact h e he
theorem jpos.spot (h : jpos B A) (hd : d < 16) (hs : jspot a b) : jpos (jbringF B d a b) (mplc A d a b) := by
  intro e he
  rw [(jbring_p (jspot_ne hs).1).1, (jbring_p (jspot_ne hs).1).2]
  by_cases q : e = d
  · subst q
    rw [upd_eq, upd_eq]
    have t : mplc A e a b e = 1 := mplc_d hd
    have n : ¬ mplc A e a b e = 0 := by rw [t]; decide
    have n2 : ¬ mplc A e a b e = 2 := by rw [t]; decide
    exact ⟨(show mX (mplc A e a b) e = _ from (if_neg n).trans ((if_neg n2).trans (mplc_16 hd))).symm, (show mY (mplc A e a b) e = _ from (if_neg n).trans ((if_neg n2).trans (mplc_32 hd))).symm⟩
  · rw [upd_ne q, upd_ne q, (mX_sm (mplc_sm hd he q)).1, (mX_sm (mplc_sm hd he q)).2]
    exact h e he
theorem jpos.all (h : jpos B A) : ∀ k, k ≤ 16 → jpos (jallF B k) (jfil (fun _ => 0) A k)
  | 0, _ => by rw [jfil_0]; exact h
  | k + 1, hk => by
    have e : jfil (fun _ => 0) A (k + 1) = upd (jfil (fun _ => 0) A k) k 0 := (jfil_s _ _ k rfl).symm
    rw [e]
    exact (jpos.all h k (by omega)).base (by omega)
theorem jplace (h : jRB jwT jgF B A) (hp : jpos B A) (hd : d < 16) (h2 : ¬ A d = 2) : ∃ u v, u ≤ 40 ∧ v ≤ 40 ∧ B.1 d = nI u ∧ B.2.1 d = nI v := by
  rcases h.val d hd with q | q | q
  · have k := hp d hd
    rw [show mX A d = jtabX (d % 4) from if_pos q, show mY A d = jtabY (d % 4) from if_pos q] at k
    rw [k.1, k.2]
    have tx : ∀ j, ∃ u, u ≤ 40 ∧ jtabX j = nI u := fun j => by
      unfold jtabX
      split
      · exact ⟨40, by decide, rfl⟩
      · exact ⟨0, by decide, rfl⟩
    have ty : ∀ j, ∃ u, u ≤ 40 ∧ jtabY j = nI u := fun j => by
      unfold jtabY
      split
      · exact ⟨40, by decide, rfl⟩
      · exact ⟨0, by decide, rfl⟩
    obtain ⟨u, u1, u2⟩ := tx (d % 4)
    obtain ⟨v, v1, v2⟩ := ty (d % 4)
    exact ⟨u, v, u1, v1, u2, v2⟩
  · exact jspot_n (h.pos d hd ⟨q, id⟩).2.2.1
  · exact absurd q h2
end PO
/-! numbers -/
theorem jab_eq (v : Int32) : (if v < 0 then -v else v) = (if 0 ≤ v then v else 0 - v) := by
  by_cases q : v < 0
  · rw [if_pos q, if_neg (Int32.not_le.mpr q), jneg_0]
  · rw [if_neg q, if_pos (Int32.not_lt.mp q)]
theorem jmaxc (X Y : Int32) : (if Y < X then X else Y) = (if X < Y then Y else X) := by
  by_cases q : Y < X
  · rw [if_pos q, if_neg (fun z => Int32.lt_irrefl (Int32.lt_trans q z))]
  · by_cases r : X < Y
    · rw [if_neg q, if_pos r]
    · rw [if_neg q, if_neg r]
      exact Int32.le_antisymm (Int32.not_lt.mp r) (Int32.not_lt.mp q)
theorem mway_eq (a b c e : Int32) : mway a b c e = jway a b c e := by
  unfold mway jway
  rw [jab_eq (e - b), jab_eq (c - a)]
  exact jmaxc _ _
theorem jmat_eq (v : Int32) : jmat v = monm v := by
  unfold jmat monm
  by_cases c1 : v < 40
  · rw [if_pos c1]
    by_cases c2 : v < 0
    · rw [if_pos c2, if_neg (fun z => Int32.lt_irrefl (Int32.lt_trans c2 z))]
    · rw [if_neg c2, if_neg (fun z => Int32.lt_irrefl (Int32.lt_trans c1 z))]
      by_cases c3 : 0 < v
      · rw [if_pos c3]
      · rw [if_neg c3]
        exact Int32.le_antisymm (Int32.not_lt.mp c2) (Int32.not_lt.mp c3)
  · rw [if_neg c1, if_pos (by decide), if_neg (fun z => c1 (Int32.lt_trans z (by decide)))]
    by_cases c4 : 40 < v
    · rw [if_pos c4]
    · rw [if_neg c4]
      exact Int32.le_antisymm (Int32.not_lt.mp c1) (Int32.not_lt.mp c4)
theorem jmat_in (v : Int32) : 0 ≤ jmat v ∧ jmat v ≤ 40 := by
  rw [jmat_eq]
  unfold monm
  by_cases c2 : v < 0
  · rw [if_pos c2]; exact ⟨by decide, by decide⟩
  · rw [if_neg c2]
    by_cases c4 : 40 < v
    · rw [if_pos c4]; exact ⟨by decide, by decide⟩
    · rw [if_neg c4]; exact ⟨Int32.not_lt.mp c2, Int32.not_lt.mp c4⟩
theorem jmat_spot (v w : Int32) : jspot (jmat v) (jmat w) := ⟨jmat_in v, jmat_in w⟩
abbrev jnx (s : Nat) : Nat := s * 48271 % 2147483647
theorem jnx_lt (s : Nat) : jnx s < 2147483647 := Nat.mod_lt _ (by decide)
theorem jseed_n {s : Nat} (hs : s < 2147483647) : jseed (lN s) = lN (jnx s) := by
  unfold jseed
  rw [show (48271 : Int64) = lN 48271 from rfl, show (2147483647 : Int64) = lN 2147483647 from rfl, lN_mul, pk_lRem (by omega) (by decide) (by decide)]
theorem mdr_n {s : Nat} (hs : s < 2147483647) : mdr (nI s) = nI (jnx s) := by
  unfold mdr
  rw [nI_l (by omega), show (48271 : Int64) = lN 48271 from rfl, show (2147483647 : Int64) = lN 2147483647 from rfl, lN_mul, pk_lRem (by omega) (by decide) (by decide), lN_i]
theorem jodd_n (k : Nat) : 2 * nI k + 1 = nI (2 * k + 1) := by
  rw [show (2 : Int32) = nI 2 from rfl, pk_mul, nI_1]
theorem jdraw_n {s k : Nat} (hs : s < 2147483647) (hk : k ≤ 11) : jdraw (lN s) (nI k) = nI (jnx s % (2 * k + 1)) - nI k := by
  have h1 := jnx_lt s
  unfold jdraw
  rw [jseed_n hs, jodd_n, nI_l (by omega), pk_lRem (by omega) (by omega) (by omega), lN_i]
theorem mdraw_n {s k : Nat} (hs : s < 2147483647) (hk : k ≤ 11) : mdr (nI s) - mdr (nI s) / (2 * nI k + 1) * (2 * nI k + 1) = nI (jnx s % (2 * k + 1)) := by
  have h1 := jnx_lt s
  rw [mdr_n hs, jodd_n, pk_rem (by omega) (by omega) (by omega)]
theorem jasub (a r m : Int32) : a + (r - m) = a + r - m := by
  rw [Int32.sub_eq_add_neg, Int32.sub_eq_add_neg, Int32.add_assoc]
theorem jspr_n {xs ys : Nat → Int32} {d u v r : Nat} {a b ro : Int32} (hu : u ≤ 40) (hv : v ≤ 40) (ex : xs d = nI u) (ey : ys d = nI v) (hs : jspot a b) (hr : r ≤ 5) (er : ro = nI r) : ∃ k, k ≤ 11 ∧ jspr xs ys d a b ro = nI k := by
  obtain ⟨p, q, hp, hq, rfl, rfl⟩ := jspot_n hs
  obtain ⟨s, es, s1, s2⟩ := jsz_n d
  have k1 : jad p u ≤ 40 := by unfold jad; split <;> omega
  have k2 : jad q v ≤ 40 := by unfold jad; split <;> omega
  unfold jspr
  rw [ex, ey, jway_n (by omega) (by omega) (by omega) (by omega), es, er]
  have k3 : (if jad p u < jad q v then jad q v else jad p u) ≤ 40 := by split <;> omega
  generalize (if jad p u < jad q v then jad q v else jad p u) = w at k3
  refine ⟨w / 8 + s - 1 + r, by omega, ?_⟩
  rw [show (8 : Int32) = nI 8 from rfl, pk_div (by omega) (by decide) (by decide), nI_add, show (1 : Int32) = nI 1 from rfl, nI_sub (by omega), nI_add]
