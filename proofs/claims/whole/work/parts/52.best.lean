/-! ===== chances, THE BEST SHOT, scatter, by both ===== -/
section BE
variable {B : jBT} {A : Nat → Int32} {d o : Nat} {a b : Int32}
theorem jmx1_eq (v : Int32) : jmx1 v = mlt1 v := by
  unfold jmx1 mlt1
  exact (jmaxc v 1).trans rfl
theorem jchP_eq (hp : jpos B A) (hd : d < 16) : jchP B.1 B.2.1 d = mchP A d := by
  unfold jchP mchP jcup2
  rw [jmx1_eq, mway_eq, (hp d hd).1, (hp d hd).2]
theorem jchD_eq (hp : jpos B A) (hd : d < 16) (ho : o < 16) : jchD B.1 B.2.1 d o = mchD A d o := by
  unfold jchD mchD
  rw [jmx1_eq, mway_eq, (hp d hd).1, (hp d hd).2, (hp o ho).1, (hp o ho).2]
  by_cases q : nI d < 8
  · rw [if_pos q, if_pos (show jsz (nI d) = 1 from if_pos q)]
  · rw [if_neg q, if_neg (show ¬ jsz (nI d) = 1 by rw [show jsz (nI d) = 2 from if_neg q]; decide)]
theorem jgaP_eq (h : jRB jwT jgF B A) (hd : d < 16) : jgaP B.2.2.2.1 B.2.2.2.2.1 d = mgaP A d := by
  unfold jgaP mgaP
  by_cases q : A d = 0
  · have n1 : ¬ jts B.2.2.2.1 d := fun z => absurd (q.symm.trans ((jlyT h hd).mp z)) (by decide)
    have n2 : ¬ jts B.2.2.2.2.1 d := fun z => absurd (q.symm.trans ((jcuT h hd).mp z)) (by decide)
    rw [if_pos ⟨n1, n2⟩, if_pos q]
  · rw [if_neg q]
    refine if_neg (fun z => ?_)
    rcases h.val d hd with y | y | y
    · exact q y
    · exact z.1 ((jlyT h hd).mpr y)
    · exact z.2 ((jcuT h hd).mpr y)
theorem mgaF_n : ∀ n, mgaF A d o n = (if 6 < mway (mX A o) (mY A o) 20 20 then 1 else 2) + nI (jcn (fun k => decide (mcov A o k ∧ k % 2 = d % 2)) n)
  | 0 => (jadd0 _).symm
  | n + 1 => by
    unfold mgaF
    rw [mgaF_n n]
    by_cases q : mcov A o n ∧ n % 2 = d % 2
    · rw [if_pos q, jcn_t (decide_eq_true q), Int32.add_assoc, nI_1]
    · rw [if_neg q, jcn_f (fun z => q (of_decide_eq_true z)), jadd0]
theorem jgaD_eq (h : jRB jwT jgF B A) (hp : jpos B A) (ho : o < 16) : jgaD B.1 B.2.1 B.2.2.1 d o = mgaD A d o := by
  have e1 : jorI 0 (fun k => decide (jts (B.2.2.1 k) o)) 16 &&& ((21845 : Int32) <<< (nI (d % 2) &&& 31)) = jmk (fun k => decide (mcov A o k ∧ k % 2 = d % 2)) := by
    rw [jtell4 h ho]
    apply jt_ext
    intro i hi
    rw [Bool.eq_iff_iff, jt_and, jt_side (by omega), jt_mk, Bool.and_eq_true, Bool.and_eq_true, jt_cvd, decide_eq_true_iff, decide_eq_true_iff, decide_eq_true_iff]
    exact ⟨fun z => ⟨z.1.1, z.1.2, z.2.2⟩, fun z => ⟨⟨z.1, z.2.1⟩, z.1, z.2.2⟩⟩
  unfold jgaD mgaD jcup2
  rw [e1, jbc_mk, mgaF_n, mway_eq, (hp o ho).1, (hp o ho).2]
  by_cases q : 6 < jway (mX A o) (mY A o) 20 20
  · rw [if_pos q, if_pos q]; rfl
  · rw [if_neg q, if_neg q]; rfl
theorem jodd_kd : ∀ k, k < 16 → ∀ d, d < 16 → (jodd (nI k - nI d) ↔ ¬ k % 2 = d % 2) := by decide +kernel
/-- what both hold of THE BEST SHOT -/
def jRb (q q' : Int32 × Int32 × Int32) : Prop := q.2.2 = q'.2.2 ∧ 0 ≤ q.2.2 ∧ ((q = q' ∧ ¬ q.2.2 = 0 ∧ ¬ q'.1 = -4) ∨ (q.2.2 = 0 ∧ q'.1 = -4))
theorem jRb.wei {q q' : Int32 × Int32 × Int32} {e am pr : Int32} (h : jRb q q') (hd : ¬ e = -4) : jRb (jwei e am pr q) (jwei e am pr q') := by
  unfold jwei
  rw [← h.1]
  by_cases z : q.2.2 < pr
  · rw [if_pos z, if_pos z]
    exact ⟨rfl, Int32.le_of_lt (Int32.lt_of_le_of_lt h.2.1 z), Or.inl ⟨rfl, fun y => Int32.lt_irrefl (by
      have y : pr = 0 := y
      rw [y] at z
      exact Int32.lt_of_lt_of_le z h.2.1), hd⟩⟩
  · rw [if_neg z, if_neg z]; exact h
theorem jRb.aims (h : jRB jwT jgF B A) (hp : jpos B A) (hd : d < 16) {q q' : Int32 × Int32 × Int32} (hq : jRb q q') : ∀ k, k ≤ 16 → jRb (jwA B.1 B.2.1 B.2.2.1 B.2.2.2.1 B.2.2.2.2.1 B.2.2.2.2.2 d q k) (mbA A d q' k)
  | 0, _ => by
    unfold jwA mbA
    rw [jchP_eq hp hd, jgaP_eq h hd]
    exact hq.wei (jneg4 (by omega))
  | k + 1, hk => by
    have ih := jRb.aims h hp hd hq k (by omega)
    have hk16 : k < 16 := by omega
    unfold jwA mbA
    have c : (jodd (nI k - nI d) ∧ jts B.2.2.2.1 k ∧ (B.2.2.2.2.1 ||| B.2.2.2.2.2) &&& jbit k = 0) ↔ (¬ k % 2 = d % 2 ∧ A k = 1 ∧ mfree A k) := by
      rw [jodd_kd k hk16 d hd, jlyT h hk16, h.free hk16]
    by_cases z : ¬ k % 2 = d % 2 ∧ A k = 1 ∧ mfree A k
    · rw [if_pos (c.mpr z), if_pos z, jchD_eq hp hd hk16, jgaD_eq h hp hk16]
      exact ih.wei (jneg4 (by omega))
    · rw [if_neg (fun y => z (c.mp y)), if_neg z]; exact ih
theorem jRb.best (h : jRB jwT jgF B A) (hp : jpos B A) {p : Nat} (hp4 : p < 4) {q : Int32 × Int32 × Int32} {ba : Int32} : ∀ k, k ≤ 4 → jRb (jwB B.1 B.2.1 B.2.2.1 B.2.2.2.1 B.2.2.2.2.1 B.2.2.2.2.2 p q k) (mbB A p ba k)
  | 0, _ => ⟨rfl, (show (0 : Int32) ≤ 0 by decide), Or.inr ⟨rfl, rfl⟩⟩
  | k + 1, hk => by
    have ih := jRb.best h hp hp4 (q := q) (ba := ba) k (by omega)
    have hd : p + 4 * k < 16 := by omega
    unfold jwB mbB
    by_cases z : mfree A (p + 4 * k)
    · rw [if_pos ((h.free hd).mpr z), if_pos z]
      exact jRb.aims h hp hd ih 16 (Nat.le_refl _)
    · rw [if_neg (fun y => z ((h.free hd).mp y)), if_neg z]; exact ih
theorem jRb.tell {q q' : Int32 × Int32 × Int32} (h : jRb q q') (b : Int32) : (if q.2.2 = 0 then -102 else if b = 0 then q.1 else if b = 1 then q.2.1 else q.2.2) = (if q'.1 = -4 then -102 else if b = 0 then q'.1 else if b = 1 then q'.2.1 else q'.2.2) := by
  rcases h.2.2 with ⟨rfl, z1, z2⟩ | ⟨z1, z2⟩
  · rw [if_neg z1, if_neg z2]
  · rw [if_pos z1, if_pos z2]
end BE
/-! scatter -/
def jRS (N : Nat) (s : (Nat → Int32) × (Nat → Int32) × (Nat → Int32)) (pr qs : Nat → Int32) : Prop :=
  s.1 = pr ∧ s.2.1 = qs ∧ (∀ p, p < 4 → ∃ n, s.2.2 p = nI n ∧ n ≤ N ∧ mps pr p 5 = nI n) ∧ (∀ i, i < 20 → ∃ u w, pr i = nI u ∧ u ≤ N ∧ qs i = nI w ∧ w ≤ 100 * N)
section SC
variable {N : Nat} {s : (Nat → Int32) × (Nat → Int32) × (Nat → Int32)} {pr qs : Nat → Int32}
theorem jRS.mono {N' : Nat} (h : jRS N s pr qs) (hN : N ≤ N') : jRS N' s pr qs := by
  refine ⟨h.1, h.2.1, fun p hp => ?_, fun i hi => ?_⟩
  · obtain ⟨n, h1, h2, h3⟩ := h.2.2.1 p hp
    exact ⟨n, h1, by omega, h3⟩
  · obtain ⟨u, w, h1, h2, h3, h4⟩ := h.2.2.2 i hi
    exact ⟨u, w, h1, by omega, h3, by omega⟩
theorem mps_ne {p i : Nat} {v : Int32} : ∀ n, (∀ k, k < n → ¬ 5 * p + k = i) → mps (upd pr i v) p n = mps pr p n
  | 0, _ => rfl
  | n + 1, h => by
    unfold mps
    rw [mps_ne n (fun k hk => h k (by omega)), upd_ne (h n (by omega))]
theorem mps_up {p k : Nat} : ∀ n, k < n → mps (upd pr (5 * p + k) (pr (5 * p + k) + 1)) p n = mps pr p n + 1
  | 0, h => absurd h (Nat.not_lt_zero k)
  | n + 1, h => by
    unfold mps
    by_cases e : k = n
    · subst e
      rw [mps_ne k (fun j hj => by omega), upd_eq, Int32.add_assoc]
    · rw [mps_up n (by omega), upd_ne (by omega), Int32.add_assoc, Int32.add_comm 1, ← Int32.add_assoc]
theorem jad40 {u v : Nat} (hu : u ≤ 40) (hv : v ≤ 40) : jad u v ≤ 40 := by unfold jad; split <;> omega
theorem jsiz_n {u v : Nat} (hu : u ≤ 40) (hv : v ≤ 40) : msiz (nI u - nI v) = nI (jad u v) := by
  unfold msiz
  rw [jab_eq, jab_n (by omega) (by omega)]
theorem jkind {b c e f : Int32} (h1 : jspot b c) (h2 : jspot e f) : ∃ kd, kd < 5 ∧ (if jway b c e f / 8 < 4 then jway b c e f / 8 else 4) = nI kd ∧ (if 4 < mway b c e f / 8 then 4 else mway b c e f / 8) = nI kd := by
  obtain ⟨p, q, hp, hq, rfl, rfl⟩ := jspot_n h1
  obtain ⟨u, v, hu, hv, rfl, rfl⟩ := jspot_n h2
  have k1 := jad40 hu hp
  have k2 := jad40 hv hq
  rw [mway_eq, jway_n (by omega) (by omega) (by omega) (by omega)]
  have k3 : (if jad u p < jad v q then jad v q else jad u p) ≤ 40 := by split <;> omega
  generalize (if jad u p < jad v q then jad v q else jad u p) = w at k3
  rw [show (8 : Int32) = nI 8 from rfl, pk_div (by omega) (by decide) (by decide), show (4 : Int32) = nI 4 from rfl]
  have l1 : nI (w / 8) < nI 4 ↔ w / 8 < 4 := nI_lti (by omega) (by decide)
  have l2 : nI 4 < nI (w / 8) ↔ 4 < w / 8 := nI_lti (by decide) (by omega)
  by_cases q : w / 8 < 4
  · rw [if_pos (l1.mpr q), if_neg (fun z => absurd (l2.mp z) (by omega))]
    exact ⟨w / 8, by omega, rfl, rfl⟩
  · rw [if_neg (fun z => q (l1.mp z))]
    refine ⟨4, by decide, rfl, ?_⟩
    by_cases q2 : 4 < w / 8
    · rw [if_pos (l2.mpr q2)]
    · rw [if_neg (fun z => q2 (l2.mp z))]
      exact congrArg nI (by omega)
theorem jofs_n {e f g i : Int32} (h1 : jspot e f) (h2 : jspot g i) : ∃ n, n ≤ 100 ∧ jofs e f g i = nI n ∧ msiz (g - e) + msiz (i - f) = nI n := by
  obtain ⟨p, q, hp, hq, rfl, rfl⟩ := jspot_n h1
  obtain ⟨u, v, hu, hv, rfl, rfl⟩ := jspot_n h2
  have k1 := jad40 hu hp
  have k2 := jad40 hv hq
  refine ⟨jad u p + jad v q, by omega, ?_, ?_⟩
  · unfold jofs
    rw [jab_n (by omega) (by omega), jab_n (by omega) (by omega), nI_add]
  · rw [jsiz_n hu hp, jsiz_n hv hq, nI_add]
theorem jRS.full (h : jRS N s pr qs) (hN : N ≤ 900) {p : Nat} (hp : p < 4) : s.2.2 p < 1000 ∧ ¬ mps pr p 5 = 1000 := by
  obtain ⟨n, h1, h2, h3⟩ := h.2.2.1 p hp
  rw [h1, h3]
  refine ⟨(nI_lti (b := 1000) (by omega) (by decide)).mpr (by omega), fun z => ?_⟩
  have := (nI_eq (b := 1000) (by omega) (by decide)).mp z
  omega
theorem jRS.seen (h : jRS N s pr qs) (hN : N ≤ 900) {p kd n : Nat} (hp : p < 4) (hk : kd < 5) (hn : n ≤ 100) : s.2.2 p + 1 = mps (upd pr (5 * p + kd) (pr (5 * p + kd) + 1)) p 5 ∧ jRS (N + 1) (jsad s p kd (nI n)) (upd pr (5 * p + kd) (pr (5 * p + kd) + 1)) (upd qs (5 * p + kd) (qs (5 * p + kd) + nI n)) := by
  have f := h.full hN hp
  have m : p * 5 + kd = 5 * p + kd := by omega
  obtain ⟨h1, h2, h3, h4⟩ := h
  have up := mps_up (pr := pr) (p := p) (k := kd) 5 hk
  refine ⟨?_, ?_⟩
  · rw [up]
    obtain ⟨n0, q1, q2, q3⟩ := h3 p hp
    rw [q1, q3]
  · unfold jsad
    rw [if_pos f.1, m, h1, h2]
    refine ⟨rfl, rfl, fun p' hp' => ?_, fun i hi => ?_⟩
    · show ∃ n0, upd s.2.2 p (s.2.2 p + 1) p' = _ ∧ _
      by_cases e : p' = p
      · subst e
        obtain ⟨n0, q1, q2, q3⟩ := h3 p' hp
        refine ⟨n0 + 1, ?_, by omega, ?_⟩
        · rw [upd_eq, q1]; exact nI_1 n0
        · rw [up, q3]; exact nI_1 n0
      · obtain ⟨n0, q1, q2, q3⟩ := h3 p' hp'
        refine ⟨n0, by rw [upd_ne e]; exact q1, by omega, ?_⟩
        rw [mps_ne 5 (fun k hk => by omega)]; exact q3
    · obtain ⟨u, w, q1, q2, q3, q4⟩ := h4 i hi
      by_cases e : i = 5 * p + kd
      · subst e
        refine ⟨u + 1, w + n, ?_, by omega, ?_, by omega⟩
        · rw [upd_eq, q1]; exact nI_1 u
        · rw [upd_eq, q3, nI_add]
      · exact ⟨u, w, by rw [upd_ne e]; exact q1, by omega, by rw [upd_ne e]; exact q3, by omega⟩
end SC
