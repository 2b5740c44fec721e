/-! ===== who is free, when it is over, the turn ===== -/
theorem mcvr_0 {A : Nat → Int32} {d : Nat} : mcvr A d = 0 ↔ ∀ k, k < 16 → ¬ mcov A k d := by
  unfold mcvr
  rw [jt_eq0]
  constructor
  · intro h k hk z
    have := h k (by omega)
    rw [jt_mk, decide_eq_true hk, Bool.true_and, decide_eq_true z] at this
    cases this
  · intro h i hi
    rw [jt_mk]
    by_cases q : i < 16
    · rw [decide_eq_true q, Bool.true_and]; exact decide_eq_false (h i q)
    · rw [decide_eq_false q, Bool.false_and]
theorem jt_mfo {A : Nat → Int32} {p : Nat} (hp : p < 4) : ∀ n, n ≤ 4 → ∀ i, (jt (mfo A p n) i = true ↔ ∃ j, j < n ∧ i = p + 4 * j ∧ mfree A i)
  | 0, _, i => by
    show jt 0 i = true ↔ _
    rw [jt_0]
    constructor
    · intro z; cases z
    · rintro ⟨j, hj, _⟩; exact absurd hj (Nat.not_lt_zero j)
  | n + 1, hn, i => by
    have ih := jt_mfo (A := A) hp n (by omega) i
    unfold mfo
    by_cases q : mfree A (p + 4 * n)
    · rw [if_pos q, jt_or, jt_bit (by omega), Bool.or_eq_true, decide_eq_true_iff, ih]
      constructor
      · rintro (⟨j, h1, h2, h3⟩ | h)
        · exact ⟨j, by omega, h2, h3⟩
        · exact ⟨n, by omega, h, by rw [h]; exact q⟩
      · rintro ⟨j, h1, h2, h3⟩
        by_cases e : j = n
        · subst e; exact Or.inr h2
        · exact Or.inl ⟨j, by omega, h2, h3⟩
    · rw [if_neg q, ih]
      constructor
      · rintro ⟨j, h1, h2, h3⟩; exact ⟨j, by omega, h2, h3⟩
      · rintro ⟨j, h1, h2, h3⟩
        by_cases e : j = n
        · subst e; rw [h2] at h3; exact absurd h3 q
        · exact ⟨j, by omega, h2, h3⟩
section TU
variable {wr : Int32 → Int32 → Prop} {gh : Nat → Int32 → Int32 → Prop} {B : jBT} {A : Nat → Int32} {d : Nat}
theorem jRB.free (h : jRB wr gh B A) (hd : d < 16) : (B.2.2.2.2.1 ||| B.2.2.2.2.2) &&& jbit d = 0 ↔ mfree A d := by
  have e : (B.2.2.2.2.1 ||| B.2.2.2.2.2) &&& jbit d = 0 ↔ ¬ jt (B.2.2.2.2.1 ||| B.2.2.2.2.2) d = true := by
    rw [← jts_iff (by omega)]
    constructor
    · intro z y; exact y z
    · intro z; exact Classical.byContradiction z
  rw [e, jt_or, Bool.or_eq_true, h.cu d (by omega), h.cd d (by omega)]
  constructor
  · intro z
    rcases h.val d hd with q | q | q
    · exact Or.inl q
    · exact Or.inr ⟨q, mcvr_0.mpr (fun k hk y => z (Or.inr ⟨hd, k, hk, y⟩))⟩
    · exact absurd (Or.inl ⟨hd, q⟩) z
  · rintro (q | ⟨q, q2⟩) z
    · rcases z with ⟨_, z⟩ | ⟨_, k, hk, z⟩
      · rw [q] at z; exact absurd z (by decide)
      · exact mcov_no2 (by rw [q]; decide) z
    · rcases z with ⟨_, z⟩ | ⟨_, k, hk, z⟩
      · rw [q] at z; exact absurd z (by decide)
      · exact mcvr_0.mp q2 k hk z
theorem jRB.freeOf (h : jRB wr gh B A) {p : Nat} (hp : p < 4) : jfree B.2.2.2.2.1 B.2.2.2.2.2 p = mfo A p 4 := by
  apply jt_ext
  intro i hi
  unfold jfree
  rw [Bool.eq_iff_iff, jt_and, jt_own hp, jt_not hi, Bool.and_eq_true, decide_eq_true_iff, jt_mfo hp 4 (by decide)]
  constructor
  · rintro ⟨⟨h1, h2⟩, h3⟩
    refine ⟨i / 4, by omega, by omega, (h.free h1).mp ?_⟩
    have : ¬ jt (B.2.2.2.2.1 ||| B.2.2.2.2.2) i = true := by rw [Bool.not_eq_true']  at h3; rw [h3]; decide
    exact Classical.byContradiction (fun z => this ((jts_iff (by omega)).mp z))
  · rintro ⟨j, h1, h2, h3⟩
    have h16 : i < 16 := by omega
    refine ⟨⟨h16, by omega⟩, ?_⟩
    have := (h.free h16).mpr h3
    rw [Bool.not_eq_true']
    cases e : jt (B.2.2.2.2.1 ||| B.2.2.2.2.2) i
    · rfl
    · exact absurd this ((jts_iff (by omega)).mpr e)
theorem mmax {A : Nat → Int32} : ∀ n, (∃ d, d < n ∧ A d = 1) → ∃ d, d < n ∧ A d = 1 ∧ ∀ e, e < n → A e = 1 → A (48 + e) ≤ A (48 + d)
  | 0, h => by obtain ⟨d, h1, _⟩ := h; exact absurd h1 (Nat.not_lt_zero d)
  | n + 1, h => by
    by_cases q : ∃ d, d < n ∧ A d = 1
    · obtain ⟨d, h1, h2, h3⟩ := mmax n q
      by_cases q2 : A n = 1 ∧ A (48 + d) < A (48 + n)
      · refine ⟨n, by omega, q2.1, fun e he h4 => ?_⟩
        by_cases e1 : e = n
        · subst e1; exact Int32.le_refl _
        · exact Int32.le_trans (h3 e (by omega) h4) (Int32.le_of_lt q2.2)
      · refine ⟨d, by omega, h2, fun e he h4 => ?_⟩
        by_cases e1 : e = n
        · subst e1; exact Int32.not_lt.mp (fun z => q2 ⟨h4, z⟩)
        · exact h3 e (by omega) h4
    · obtain ⟨d, h1, h2⟩ := h
      have e : d = n := by
        by_cases e : d = n
        · exact e
        · exact absurd ⟨d, by omega, h2⟩ q
      subst e
      refine ⟨d, by omega, h2, fun e he h4 => ?_⟩
      by_cases e1 : e = d
      · subst e1; exact Int32.le_refl _
      · exact absurd ⟨e, by omega, h4⟩ q
/-- one that is not in THE CUP: then one is FREE -/
theorem jRB.some (h : jRB wr gh B A) (hd : d < 16) (hn : ¬ A d = 2) : ∃ e, e < 16 ∧ mfree A e := by
  by_cases q : ∃ e, e < 16 ∧ A e = 0
  · obtain ⟨e, h1, h2⟩ := q; exact ⟨e, h1, Or.inl h2⟩
  · have h1 : A d = 1 := by
      rcases h.val d hd with z | z | z
      · exact absurd ⟨d, hd, z⟩ q
      · exact z
      · exact absurd z hn
    obtain ⟨e, h2, h3, h4⟩ := mmax 16 ⟨d, hd, h1⟩
    refine ⟨e, h2, Or.inr ⟨h3, mcvr_0.mpr (fun k hk z => ?_)⟩⟩
    have z := mcov_x.mp z
    have h5 := h4 k hk z.1
    exact h.dist k e hk h2 z.1 h3 z.2.2.1 (Int32.le_antisymm h5 (Int32.not_lt.mp z.2.2.2.1))
theorem jRB.some4 (h : jRB wr gh B A) (hd : d < 16) (hn : ¬ A d = 2) : ∃ p, p < 4 ∧ ¬ mfo A p 4 = 0 := by
  obtain ⟨e, h1, h2⟩ := h.some hd hn
  refine ⟨e % 4, by omega, jt_ne0.mpr ⟨e, by omega, (jt_mfo (by omega) 4 (by decide) e).mpr ⟨e / 4, by omega, by omega, h2⟩⟩⟩
theorem jRB.anyin (h : jRB wr gh B A) : janyin B.2.2.2.2.1 ↔ ∃ p, p < 4 ∧ mall A p := by
  unfold janyin
  rw [jt_ne0]
  constructor
  · rintro ⟨i, hi, z⟩
    rw [jt_and, jt_and, jt_and, Bool.and_eq_true, Bool.and_eq_true, Bool.and_eq_true] at z
    obtain ⟨⟨⟨z1, z2⟩, z3⟩, z4⟩ := z
    have c1 := (h.cu i hi).mp z1
    have e2 : jt (B.2.2.2.2.1 >>> ((4 : Int32) &&& 31)) i = jt B.2.2.2.2.1 (i + 4) := jt_sar (k := 4) (by decide) (by omega)
    have e3 : jt (B.2.2.2.2.1 >>> ((8 : Int32) &&& 31)) i = jt B.2.2.2.2.1 (i + 8) := jt_sar (k := 8) (by decide) (by omega)
    have e4 : jt (B.2.2.2.2.1 >>> ((12 : Int32) &&& 31)) i = jt B.2.2.2.2.1 (i + 12) := jt_sar (k := 12) (by decide) (by omega)
    rw [e2] at z2; rw [e3] at z3; rw [e4] at z4
    have c2 := (h.cu _ (by omega)).mp z2
    have c3 := (h.cu _ (by omega)).mp z3
    have c4 := (h.cu _ (by omega)).mp z4
    exact ⟨i, by omega, c1.2, c2.2, c3.2, c4.2⟩
  · rintro ⟨p, hp, m1, m2, m3, m4⟩
    refine ⟨p, by omega, ?_⟩
    have e2 : jt (B.2.2.2.2.1 >>> ((4 : Int32) &&& 31)) p = jt B.2.2.2.2.1 (p + 4) := jt_sar (k := 4) (by decide) (by omega)
    have e3 : jt (B.2.2.2.2.1 >>> ((8 : Int32) &&& 31)) p = jt B.2.2.2.2.1 (p + 8) := jt_sar (k := 8) (by decide) (by omega)
    have e4 : jt (B.2.2.2.2.1 >>> ((12 : Int32) &&& 31)) p = jt B.2.2.2.2.1 (p + 12) := jt_sar (k := 12) (by decide) (by omega)
    rw [jt_and, jt_and, jt_and, e2, e3, e4, (h.cu p (by omega)).mpr ⟨by omega, m1⟩, (h.cu (p + 4) (by omega)).mpr ⟨by omega, m2⟩, (h.cu (p + 8) (by omega)).mpr ⟨by omega, m3⟩, (h.cu (p + 12) (by omega)).mpr ⟨by omega, m4⟩]
    rfl
theorem mis_iff {A : Nat → Int32} : ∀ n, (mis A n = true ↔ (mcome A ∧ ¬ A 67 < 6) ∨ ∃ k, k < n ∧ mall A k)
  | 0 => by
    unfold mis
    rw [decide_eq_true_iff]
    exact ⟨Or.inl, fun z => z.elim id (fun ⟨k, h, _⟩ => absurd h (Nat.not_lt_zero k))⟩
  | n + 1 => by
    unfold mis
    rw [Bool.or_eq_true, mis_iff n, decide_eq_true_iff]
    constructor
    · rintro ((z | ⟨k, h1, h2⟩) | z)
      · exact Or.inl z
      · exact Or.inr ⟨k, by omega, h2⟩
      · exact Or.inr ⟨n, by omega, z⟩
    · rintro (z | ⟨k, h1, h2⟩)
      · exact Or.inl (Or.inl z)
      · by_cases e : k = n
        · subst e; exact Or.inr h2
        · exact Or.inl (Or.inr ⟨k, by omega, h2⟩)
theorem msom_iff {A : Nat → Int32} : ∀ n, (msom A n = true ↔ ∃ k, k < n ∧ ¬ mfo A k 4 = 0)
  | 0 => by
    unfold msom
    exact ⟨fun z => (by cases z), fun ⟨k, h, _⟩ => absurd h (Nat.not_lt_zero k)⟩
  | n + 1 => by
    unfold msom
    rw [Bool.or_eq_true, msom_iff n, decide_eq_true_iff]
    constructor
    · rintro (⟨k, h1, h2⟩ | z)
      · exact ⟨k, by omega, h2⟩
      · exact ⟨n, by omega, z⟩
    · rintro ⟨k, h1, h2⟩
      by_cases e : k = n
      · subst e; exact Or.inr h2
      · exact Or.inl ⟨k, by omega, h2⟩
theorem jRB.over (h : jRB wr gh B A) (h67 : mcome A ∨ A 67 = 0) : jovr B.2.2.2.2.1 (A 67) ↔ mover A := by
  unfold jovr mover
  rw [h.anyin, mis_iff 4]
  have e5 : 5 < A 67 ↔ (mcome A ∧ ¬ A 67 < 6) := by
    have e6 : 5 < A 67 ↔ ¬ A 67 < 6 := by
      rw [Int32.lt_iff_toInt_lt, Int32.lt_iff_toInt_lt]
      have a : (5 : Int32).toInt = 5 := by decide
      have b : (6 : Int32).toInt = 6 := by decide
      omega
    rw [e6]
    constructor
    · intro z
      refine ⟨?_, z⟩
      rcases h67 with q | q
      · exact q
      · rw [q] at z; exact absurd (by decide) z
    · exact fun z => z.2
  rw [e5]
  constructor
  · intro z; exact Or.inl z
  · rintro (z | z)
    · exact z
    · by_cases q : ∃ d, d < 16 ∧ ¬ A d = 2
      · obtain ⟨d, h1, h2⟩ := q
        obtain ⟨p, h3, h4⟩ := h.some4 h1 h2
        have := (msom_iff (A := A) 4).mpr ⟨p, h3, h4⟩
        rw [this] at z; cases z
      · have all : ∀ d, d < 16 → A d = 2 := fun d hd => Classical.byContradiction (fun y => q ⟨d, hd, y⟩)
        exact Or.inr ⟨0, by decide, all 0 (by decide), all 4 (by decide), all 8 (by decide), all 12 (by decide)⟩
/-- while it isn't over, someone is FREE -/
theorem jRB.go (h : jRB wr gh B A) (ho : ¬ mover A) : ∃ p, p < 4 ∧ ¬ mfo A p 4 = 0 := by
  have : ¬ msom A 4 = false := fun z => ho (Or.inr z)
  exact (msom_iff 4).mp (by cases e : msom A 4 <;> simp_all)
end TU
/-! the turn -/
theorem upd_id {A : Nat → Int32} {k : Nat} {v : Int32} (h : v = A k) : upd A k v = A := by
  funext j
  by_cases e : j = k
  · subst e; rw [upd_eq]; exact h
  · exact upd_ne e
theorem upd_upd {A : Nat → Int32} {k : Nat} {v w : Int32} : upd (upd A k v) k w = upd A k w := by
  funext j
  by_cases e : j = k
  · subst e; rw [upd_eq, upd_eq]
  · rw [upd_ne e, upd_ne e, upd_ne e]
theorem upd_comm {A : Nat → Int32} {k l : Nat} {v w : Int32} (h : ¬ k = l) : upd (upd A k v) l w = upd (upd A l w) k v := by
  funext j
  by_cases e : j = k
  · subst e; rw [upd_ne h, upd_eq, upd_eq]
  · by_cases e2 : j = l
    · subst e2; rw [upd_eq, upd_ne e, upd_eq]
    · rw [upd_ne e2, upd_ne e, upd_ne e, upd_ne e2]
theorem mcvr_o {A A' : Nat → Int32} {d : Nat} (hd : d < 16) (hs : ∀ i, i < 16 → jsm A A' i) : mcvr A' d = mcvr A d := by
  unfold mcvr
  apply jt_ext
  intro i hi
  rw [jt_mk, jt_mk]
  by_cases q : i < 16
  · rw [decide_eq_true q, Bool.true_and, Bool.true_and, decide_eq_decide]
    exact mcov_sm (hs i q) (hs d hd)
  · rw [decide_eq_false q, Bool.false_and, Bool.false_and]
theorem mfree_o {A A' : Nat → Int32} {d : Nat} (hd : d < 16) (hs : ∀ i, i < 16 → jsm A A' i) : mfree A' d ↔ mfree A d := by
  rw [mfree, mcvr_o hd hs, (hs d hd).1]
theorem mfo_o {A A' : Nat → Int32} {p : Nat} (hp : p < 4) (hs : ∀ i, i < 16 → jsm A A' i) : mfo A' p 4 = mfo A p 4 := by
  apply jt_ext
  intro i hi
  rw [Bool.eq_iff_iff, jt_mfo hp 4 (by decide), jt_mfo hp 4 (by decide)]
  constructor
  · rintro ⟨j, h1, h2, h3⟩; exact ⟨j, h1, h2, (mfree_o (by omega) hs).mp h3⟩
  · rintro ⟨j, h1, h2, h3⟩; exact ⟨j, h1, h2, (mfree_o (by omega) hs).mpr h3⟩
theorem jsm_hi {A : Nat → Int32} {k : Nat} {v : Int32} (hk : 64 ≤ k) : ∀ i, i < 16 → jsm A (upd A k v) i := fun i hi => ⟨upd_ne (by omega), upd_ne (by omega), upd_ne (by omega), upd_ne (by omega)⟩
theorem jsm_tr {A A' A'' : Nat → Int32} (h1 : ∀ i, i < 16 → jsm A A' i) (h2 : ∀ i, i < 16 → jsm A' A'' i) : ∀ i, i < 16 → jsm A A'' i :=
  fun i hi => ⟨(h2 i hi).1.trans (h1 i hi).1, (h2 i hi).2.1.trans (h1 i hi).2.1, (h2 i hi).2.2.1.trans (h1 i hi).2.2.1, (h2 i hi).2.2.2.trans (h1 i hi).2.2.2⟩
theorem jadd0 (v : Int32) : v + 0 = v := by
  apply Int32.toBitVec_inj.mp
  simp
theorem mnxt_step {A : Nat → Int32} {ti go r : Int32} {t : Nat} (ht : t < 4) (hc : mcome A ↔ ti ≤ go) {c : Prop} [Decidable c] (cT : c) : mnxt c (upd A 67 r, t) = (upd A 67 (jstep ti go (t, r)).2, (jstep ti go (t, r)).1) := by
  have hm : mcome (upd A 67 r) ↔ mcome A := by rw [mcome, upd_ne (by decide)]
  unfold mnxt jstep
  by_cases q : t < 3
  · rw [if_pos (show (upd A 67 r, t).2 < 3 from q)]
    have e : ¬ (t + 1) % 4 = 0 := by omega
    have e2 : (t + 1) % 4 = t + 1 := by omega
    show (upd A 67 r, t + 1) = _
    rw [if_neg (fun z => e z.1), e2]
  · have : t = 3 := by omega
    subst this
    rw [if_neg q]
    show (upd (upd A 67 r) 67 (upd A 67 r 67 + if c ∧ mcome (upd A 67 r) then 1 else 0), 0) = (upd A 67 (if (3 + 1) % 4 = 0 ∧ ti ≤ go then r + 1 else r), (3 + 1) % 4)
    rw [upd_upd, upd_eq]
    by_cases z : ti ≤ go
    · rw [if_pos ⟨cT, hm.mpr (hc.mpr z)⟩, if_pos ⟨rfl, z⟩]
    · rw [if_neg (fun y => z (hc.mp (hm.mp y.2))), if_neg (fun y => z y.2), jadd0]
theorem mpas_skip {A : Nat → Int32} {ti go : Int32} (hc : mcome A ↔ ti ≤ go) {c : Prop} [Decidable c] (cT : c) {fr : Nat → Int32} (hf : ∀ p, p < 4 → fr p = mfo A p 4) : ∀ (n t : Nat) (r : Int32), t < 4 → mpas c n (upd A 67 r, t) = (upd A 67 (jskip ti go fr n (t, r)).2, (jskip ti go fr n (t, r)).1)
  | 0, t, r, ht => rfl
  | n + 1, t, r, ht => by
    have e : mfo (upd A 67 r) t 4 = fr t := (mfo_o ht (jsm_hi (by decide))).trans (hf t ht).symm
    unfold mpas jskip
    by_cases q : fr t = 0
    · rw [if_pos (show mfo (upd A 67 r, t).1 (upd A 67 r, t).2 4 = 0 from e.trans q), if_pos q, mnxt_step ht hc cT]
      exact mpas_skip hc cT hf n _ _ (jstep_lt ti go (t, r))
    · rw [if_neg (show ¬ mfo (upd A 67 r, t).1 (upd A 67 r, t).2 4 = 0 from fun z => q (e.symm.trans z)), if_neg q]
theorem jskip_34 {ti go : Int32} {fr : Nat → Int32} {q : Nat × Int32} (h4 : q.1 < 4) (hs : ∃ p, p < 4 ∧ ¬ fr p = 0) : jskip ti go fr 4 q = jskip ti go fr 3 q := by
  obtain ⟨t, r⟩ := q
  have e1 : ∀ t r, (jstep ti go (t, r)).1 = (t + 1) % 4 := fun _ _ => rfl
  by_cases a : fr t = 0
  · by_cases b : fr ((t + 1) % 4) = 0
    · by_cases c : fr (((t + 1) % 4 + 1) % 4) = 0
      · by_cases d : fr ((((t + 1) % 4 + 1) % 4 + 1) % 4) = 0
        · exfalso
          obtain ⟨p, hp, hn⟩ := hs
          have h4 : t < 4 := h4
          have : p = t ∨ p = (t + 1) % 4 ∨ p = ((t + 1) % 4 + 1) % 4 ∨ p = (((t + 1) % 4 + 1) % 4 + 1) % 4 := by omega
          rcases this with rfl | rfl | rfl | rfl <;> contradiction
        · have c' : fr (jstep ti go (jstep ti go (t, r))).1 = 0 := c
          have d' : ¬ fr (jstep ti go (jstep ti go (jstep ti go (t, r)))).1 = 0 := d
          have b' : fr (jstep ti go (t, r)).1 = 0 := b
          simp only [jskip, if_pos a, if_pos b', if_pos c', if_neg d']
      · have c' : ¬ fr (jstep ti go (jstep ti go (t, r))).1 = 0 := c
        have b' : fr (jstep ti go (t, r)).1 = 0 := b
        simp only [jskip, if_pos a, if_pos b', if_neg c']
    · have b' : ¬ fr (jstep ti go (t, r)).1 = 0 := b
      simp only [jskip, if_pos a, if_neg b']
  · simp only [jskip, if_neg a]
theorem jskipT_34 {fr : Nat → Int32} {t : Nat} (h4 : t < 4) (hs : ∃ p, p < 4 ∧ ¬ fr p = 0) : jskipT fr 4 t = jskipT fr 3 t := by
  by_cases a : fr t = 0
  · by_cases b : fr ((t + 1) % 4) = 0
    · by_cases c : fr (((t + 1) % 4 + 1) % 4) = 0
      · by_cases d : fr ((((t + 1) % 4 + 1) % 4 + 1) % 4) = 0
        · exfalso
          obtain ⟨p, hp, hn⟩ := hs
          have : p = t ∨ p = (t + 1) % 4 ∨ p = ((t + 1) % 4 + 1) % 4 ∨ p = (((t + 1) % 4 + 1) % 4 + 1) % 4 := by omega
          rcases this with rfl | rfl | rfl | rfl <;> contradiction
        · simp only [jskipT, if_pos a, if_pos b, if_pos c, if_neg d]
      · simp only [jskipT, if_pos a, if_pos b, if_neg c]
    · simp only [jskipT, if_pos a, if_neg b]
  · simp only [jskipT, if_neg a]
/-- behind the skip a free one -/
theorem jskipT_fr {fr : Nat → Int32} {t : Nat} (h4 : t < 4) (hs : ∃ p, p < 4 ∧ ¬ fr p = 0) : ¬ fr (jskipT fr 4 t) = 0 := by
  by_cases a : fr t = 0
  · by_cases b : fr ((t + 1) % 4) = 0
    · by_cases c : fr (((t + 1) % 4 + 1) % 4) = 0
      · by_cases d : fr ((((t + 1) % 4 + 1) % 4 + 1) % 4) = 0
        · exfalso
          obtain ⟨p, hp, hn⟩ := hs
          have : p = t ∨ p = (t + 1) % 4 ∨ p = ((t + 1) % 4 + 1) % 4 ∨ p = (((t + 1) % 4 + 1) % 4 + 1) % 4 := by omega
          rcases this with rfl | rfl | rfl | rfl <;> contradiction
        · simp only [jskipT, if_pos a, if_pos b, if_pos c, if_neg d]; exact d
      · simp only [jskipT, if_pos a, if_pos b, if_neg c]; exact c
    · simp only [jskipT, if_pos a, if_neg b]; exact b
  · simp only [jskipT, if_neg a]; exact a
theorem jskip_T {ti go : Int32} {fr : Nat → Int32} : ∀ (n : Nat) (q : Nat × Int32), (jskip ti go fr n q).1 = jskipT fr n q.1
  | 0, q => rfl
  | n + 1, q => by
    unfold jskip jskipT
    split
    · exact jskip_T n _
    · rfl
theorem jskip_r {ti go : Int32} {fr : Nat → Int32} (h : ¬ ti ≤ go) : ∀ (n : Nat) (q : Nat × Int32), (jskip ti go fr n q).2 = q.2
  | 0, q => rfl
  | n + 1, q => by
    unfold jskip
    split
    · rw [jskip_r h n]
      exact if_neg (fun z => h z.2)
    · rfl
theorem mpas_skipT {A : Nat → Int32} {c : Prop} [Decidable c] (cF : ¬ c) {fr : Nat → Int32} (hf : ∀ p, p < 4 → fr p = mfo A p 4) : ∀ (n t : Nat), t < 4 → mpas c n (A, t) = (A, jskipT fr n t)
  | 0, t, ht => rfl
  | n + 1, t, ht => by
    unfold mpas jskipT
    by_cases q : fr t = 0
    · rw [if_pos (show mfo (A, t).1 (A, t).2 4 = 0 from (hf t ht).symm.trans q), if_pos q]
      have e : mnxt c (A, t) = (A, (t + 1) % 4) := by
        unfold mnxt
        by_cases z : t < 3
        · rw [if_pos (show (A, t).2 < 3 from z), show (t + 1) % 4 = t + 1 by omega]
        · rw [if_neg (show ¬ (A, t).2 < 3 from z)]
          have : t = 3 := by omega
          subst this
          show (upd A 67 (A 67 + if c ∧ mcome A then 1 else 0), 0) = (A, 0)
          rw [if_neg (fun y => cF y.1), jadd0, upd_id rfl]
      rw [e]
      exact mpas_skipT cF hf n _ (by omega)
    · rw [if_neg (show ¬ mfo (A, t).1 (A, t).2 4 = 0 from fun z => q ((hf t ht).trans z)), if_neg q]
