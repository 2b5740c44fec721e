/-! ===== what is told of a board, by both ===== -/
section TE
variable {B : jBT} {A : Nat → Int32} {d : Nat} {a b : Int32}
theorem jlyT (h : jRB jwT jgF B A) (hd : d < 16) : jts B.2.2.2.1 d ↔ A d = 1 := by
  rw [jts_iff (by omega), h.ly d (by omega)]
  exact ⟨fun z => z.2.1, fun z => ⟨hd, z, id⟩⟩
theorem jcuT (h : jRB jwT jgF B A) (hd : d < 16) : jts B.2.2.2.2.1 d ↔ A d = 2 := by
  rw [jts_iff (by omega), h.cu d (by omega)]
  exact ⟨fun z => z.2, fun z => ⟨hd, z⟩⟩
theorem jtell0 (h : jRB jwT jgF B A) (hd : d < 16) : (if jts B.2.2.2.2.1 d then (2 : Int32) else if jts B.2.2.2.1 d then 1 else 0) = A d := by
  by_cases q : A d = 2
  · rw [if_pos ((jcuT h hd).mpr q), q]
  · rw [if_neg (fun z => q ((jcuT h hd).mp z))]
    by_cases q1 : A d = 1
    · rw [if_pos ((jlyT h hd).mpr q1), q1]
    · rw [if_neg (fun z => q1 ((jlyT h hd).mp z))]
      rcases h.val d hd with z | z | z
      · exact z.symm
      · exact absurd z q1
      · exact absurd z q
theorem jtell3 (h : jRB jwT jgF B A) (hd : d < 16) : (if (B.2.2.2.2.1 ||| B.2.2.2.2.2) &&& jbit d = 0 then (1 : Int32) else 0) = jB01 (mfree A d) := by
  by_cases q : mfree A d
  · rw [if_pos ((h.free hd).mpr q), jB01_pos q]
  · rw [if_neg (fun z => q ((h.free hd).mp z)), jB01_neg q]
theorem jtell4 (h : jRB jwT jgF B A) (hd : d < 16) : jorI 0 (fun o => decide (jts (B.2.2.1 o) d)) 16 = mcvd A d := by
  apply jt_ext
  intro i hi
  rw [Bool.eq_iff_iff, jt_cvd]
  show jt (jmk (fun o => decide (jts (B.2.2.1 o) d))) i = true ↔ _
  rw [jt_mk, Bool.and_eq_true, decide_eq_true_iff, decide_eq_true_iff]
  constructor
  · rintro ⟨q1, q2⟩
    exact ⟨q1, ((h.cvb i q1 d).mp ((jts_iff (by omega)).mp q2)).2⟩
  · rintro ⟨q1, q2⟩
    exact ⟨q1, (jts_iff (by omega)).mpr ((h.cvb i q1 d).mpr ⟨hd, q2⟩)⟩
theorem jtell5 (h : jRB jwT jgF B A) (hd : d < 16) : B.2.2.1 d = mcvr A d := by
  apply jt_ext
  intro i hi
  rw [Bool.eq_iff_iff, jt_cvr, h.cvb d hd i]
theorem jbit_ne (hd : d < 16) : ¬ jbit d = 0 := by
  intro z
  have : jt (jbit d) d = true := by rw [jt_bit (by omega)]; simp
  rw [z, jt_0] at this
  cases this
theorem jtell6 (h : jRB jwT jgF B A) (hd : d < 16) : jpile B.2.2.1 B.2.2.2.1 d = mpile A d := by
  unfold jpile mpile
  by_cases q : A d = 1
  · rw [if_neg ((jlyT h hd).mpr q), if_pos q, jpile_eq h hd]
  · rw [if_neg q, if_pos (Classical.byContradiction fun z => q ((jlyT h hd).mp z))]
theorem mpile_16 (hd : d < 16) : j16 (mpile A d) := by
  unfold mpile
  split
  · exact (mitr_16 (A := A) (j16_bit hd) 16).1
  · exact j16_0
theorem jmk_t {v : Int32} (h : j16 v) : jmk (jt v) = v := by
  refine j16_ext (j16_mk _) h (fun i hi => ?_)
  rw [jt_mk, decide_eq_true hi, Bool.true_and]
theorem jtwo_bits {v : Int32} (h : j16 v) : jbc v < 2 ↔ v &&& (v - 1) = 0 := by
  have k := jbc_two (jt v)
  have e := jbc_mk (jt v)
  rw [jmk_t h] at k e
  have l := jcn_le (jt v) 16
  rw [k, e]
  exact nI_lti (by omega) (by decide)
/-! counts -/
theorem jly_mk (h : jRB jwT jgF B A) : B.2.2.2.1 = jmk (fun i => decide (A i = 1)) := by
  apply jt_ext
  intro i hi
  rw [Bool.eq_iff_iff, jt_mk, Bool.and_eq_true, decide_eq_true_iff, decide_eq_true_iff, h.ly i hi]
  exact ⟨fun z => ⟨z.1, z.2.1⟩, fun z => ⟨z.1, z.2, id⟩⟩
theorem jcu_mk (h : jRB jwT jgF B A) : B.2.2.2.2.1 = jmk (fun i => decide (A i = 2)) := by
  apply jt_ext
  intro i hi
  rw [Bool.eq_iff_iff, jt_mk, Bool.and_eq_true, decide_eq_true_iff, decide_eq_true_iff, h.cu i hi]
theorem jcd_mk (h : jRB jwT jgF B A) : B.2.2.2.2.2 = jmk (fun i => decide (A i = 1 ∧ ¬ mfree A i)) := by
  apply jt_ext
  intro i hi
  rw [Bool.eq_iff_iff, jt_mk, Bool.and_eq_true, decide_eq_true_iff, decide_eq_true_iff, h.cd i hi]
  constructor
  · rintro ⟨q1, k, q2, q3⟩
    refine ⟨q1, q3.2.1, ?_⟩
    rintro (z | ⟨_, z⟩)
    · rw [q3.2.1] at z; exact absurd z (by decide)
    · exact mcvr_0.mp z k q2 q3
  · rintro ⟨q1, q2, q3⟩
    refine ⟨q1, Classical.byContradiction fun z => q3 (Or.inr ⟨q2, mcvr_0.mpr (fun k hk y => z ⟨k, hk, y⟩)⟩)⟩
theorem mcn_n {w : Int32} : ∀ n, mcn A w n = nI (jcn (fun i => decide (A i = w)) n)
  | 0 => rfl
  | n + 1 => by
    unfold mcn
    rw [mcn_n n]
    by_cases q : A n = w
    · rw [if_pos q, jcn_t (decide_eq_true q)]; exact nI_1 _
    · rw [if_neg q, jcn_f (fun z => q (of_decide_eq_true z)), jadd0]
theorem mcn5_n : ∀ n, mcn5 A n = nI (jcn (fun i => decide (A i = 1 ∧ ¬ mfree A i)) n)
  | 0 => rfl
  | n + 1 => by
    unfold mcn5
    rw [mcn5_n n]
    by_cases q : A n = 1 ∧ ¬ mfree A n
    · rw [if_pos q, jcn_t (decide_eq_true q)]; exact nI_1 _
    · rw [if_neg q, jcn_f (fun z => q (of_decide_eq_true z)), jadd0]
theorem jcn_012 : ∀ n, (∀ e, e < n → A e = 0 ∨ A e = 1 ∨ A e = 2) → jcn (fun i => decide (A i = 0)) n + jcn (fun i => decide (A i = 1)) n + jcn (fun i => decide (A i = 2)) n = n
  | 0, _ => rfl
  | n + 1, h => by
    have ih := jcn_012 n (fun e he => h e (by omega))
    have c01 : ¬ (0 : Int32) = 1 := by decide
    have c02 : ¬ (0 : Int32) = 2 := by decide
    have c10 : ¬ (1 : Int32) = 0 := by decide
    have c12 : ¬ (1 : Int32) = 2 := by decide
    have c20 : ¬ (2 : Int32) = 0 := by decide
    have c21 : ¬ (2 : Int32) = 1 := by decide
    rcases h n (by omega) with z | z | z
    · rw [jcn_t (p := fun i => decide (A i = 0)) (decide_eq_true z), jcn_f (p := fun i => decide (A i = 1)) (fun y => c01 (z.symm.trans (of_decide_eq_true y))), jcn_f (p := fun i => decide (A i = 2)) (fun y => c02 (z.symm.trans (of_decide_eq_true y)))]
      omega
    · rw [jcn_f (p := fun i => decide (A i = 0)) (fun y => c10 (z.symm.trans (of_decide_eq_true y))), jcn_t (p := fun i => decide (A i = 1)) (decide_eq_true z), jcn_f (p := fun i => decide (A i = 2)) (fun y => c12 (z.symm.trans (of_decide_eq_true y)))]
      omega
    · rw [jcn_f (p := fun i => decide (A i = 0)) (fun y => c20 (z.symm.trans (of_decide_eq_true y))), jcn_f (p := fun i => decide (A i = 1)) (fun y => c21 (z.symm.trans (of_decide_eq_true y))), jcn_t (p := fun i => decide (A i = 2)) (decide_eq_true z)]
      omega
theorem jcount0 (h : jRB jwT jgF B A) : 16 - jbc B.2.2.2.1 - jbc B.2.2.2.2.1 = mcn A 0 16 := by
  rw [jly_mk h, jcu_mk h, jbc_mk, jbc_mk, mcn_n]
  have k := jcn_012 (A := A) 16 h.val
  rw [show (16 : Int32) = nI 16 from rfl, nI_sub (by omega), nI_sub (by omega)]
  exact congrArg nI (by omega)
theorem jcount1 (h : jRB jwT jgF B A) : jbc B.2.2.2.1 = mcn A 1 16 := by rw [jly_mk h, jbc_mk, mcn_n]
theorem jcount2 (h : jRB jwT jgF B A) : jbc B.2.2.2.2.1 = mcn A 2 16 := by rw [jcu_mk h, jbc_mk, mcn_n]
theorem jcount5 (h : jRB jwT jgF B A) : jbc B.2.2.2.2.2 = mcn5 A 16 := by rw [jcd_mk h, jbc_mk, mcn5_n]
/-! SCORE -/
theorem jcn_4 {f : Nat → Bool} {p : Nat} (hp : p < 4) (k : Nat) : jcn (fun i => decide (i % 4 = p) && f i) (4 * (k + 1)) = jcn (fun i => decide (i % 4 = p) && f i) (4 * k) + (if f (p + 4 * k) = true then 1 else 0) := by
  have no : ∀ j, ¬ j % 4 = p → ¬ (fun i => decide (i % 4 = p) && f i) j = true := fun j z y => by
    rw [Bool.and_eq_true, decide_eq_true_iff] at y; exact z y.1
  have ye : jcn (fun i => decide (i % 4 = p) && f i) (p + 4 * k + 1) = jcn (fun i => decide (i % 4 = p) && f i) (p + 4 * k) + (if f (p + 4 * k) = true then 1 else 0) := by
    have m : (p + 4 * k) % 4 = p := by omega
    by_cases q : f (p + 4 * k) = true
    · rw [if_pos q]
      exact jcn_t (by show (decide ((p + 4 * k) % 4 = p) && f (p + 4 * k)) = true; rw [decide_eq_true m, q]; rfl)
    · rw [if_neg q]
      exact jcn_f (fun z => q (by have z : (decide ((p + 4 * k) % 4 = p) && f (p + 4 * k)) = true := z; rw [Bool.and_eq_true] at z; exact z.2))
  have up : ∀ n, ∀ j, (∀ i, j ≤ i → i < j + n → ¬ i % 4 = p) → jcn (fun i => decide (i % 4 = p) && f i) (j + n) = jcn (fun i => decide (i % 4 = p) && f i) j := by
    intro n
    induction n with
    | zero => intro j _; rfl
    | succ n ih =>
      intro j h
      rw [show j + (n + 1) = (j + n) + 1 by omega, jcn_f (no _ (h _ (by omega) (by omega))), ih j (fun i h1 h2 => h i h1 (by omega))]
  have u1 := up p (4 * k) (fun i h1 h2 => by omega)
  have u2 := up (3 - p) (p + 4 * k + 1) (fun i h1 h2 => by omega)
  rw [show p + 4 * k + 1 + (3 - p) = 4 * (k + 1) by omega] at u2
  rw [show 4 * k + p = p + 4 * k by omega] at u1
  rw [u2, ye, u1]
/-- how many of a player's are in, how many lie FREE -/
abbrev min_ (A : Nat → Int32) (p n : Nat) : Nat := jcn (fun i => decide (i % 4 = p) && decide (A i = 2)) (4 * n)
abbrev mly_ (A : Nat → Int32) (p n : Nat) : Nat := jcn (fun i => decide (i % 4 = p) && decide (A i = 1 ∧ mfree A i)) (4 * n)
theorem msc_n {p : Nat} (hp : p < 4) : ∀ n, msc A p n = nI (3 * min_ A p n + mly_ A p n) ∧ min_ A p n + mly_ A p n ≤ n ∧ (min_ A p n = n ↔ ∀ k, k < n → A (p + 4 * k) = 2)
  | 0 => ⟨rfl, Nat.le_refl 0, ⟨fun _ k hk => absurd hk (Nat.not_lt_zero k), fun _ => rfl⟩⟩
  | n + 1 => by
    obtain ⟨i1, i2, i3⟩ := msc_n hp n
    have c1 : min_ A p (n + 1) = min_ A p n + (if decide (A (p + 4 * n) = 2) = true then 1 else 0) := jcn_4 (f := fun i => decide (A i = 2)) hp n
    have c2 : mly_ A p (n + 1) = mly_ A p n + (if decide (A (p + 4 * n) = 1 ∧ mfree A (p + 4 * n)) = true then 1 else 0) := jcn_4 (f := fun i => decide (A i = 1 ∧ mfree A i)) hp n
    unfold msc
    rw [i1, c1, c2]
    generalize min_ A p n = X at i2 i3
    generalize mly_ A p n = Y at i2
    have s3 : (3 : Int32) = nI 3 := rfl
    by_cases q : A (p + 4 * n) = 2
    · have q1 : ¬ (A (p + 4 * n) = 1 ∧ mfree A (p + 4 * n)) := fun z => absurd (q.symm.trans z.1) (by decide)
      rw [if_pos q, if_pos (decide_eq_true q), if_neg (fun z => q1 (of_decide_eq_true z))]
      refine ⟨?_, by omega, ?_⟩
      · rw [s3, nI_add]; exact congrArg nI (by omega)
      · constructor
        · intro z k hk
          by_cases e : k = n
          · subst e; exact q
          · exact i3.mp (by omega) k (by omega)
        · intro z
          have := i3.mpr (fun k hk => z k (by omega))
          omega
    · rw [if_neg q, if_neg (fun z => q (of_decide_eq_true z))]
      have no : ¬ ∀ k, k < n + 1 → A (p + 4 * k) = 2 := fun z => q (z n (by omega))
      by_cases q1 : A (p + 4 * n) = 1 ∧ mfree A (p + 4 * n)
      · rw [if_pos q1, if_pos (decide_eq_true q1)]
        refine ⟨nI_1 _, by omega, ⟨fun z => ?_, fun z => absurd z no⟩⟩
        have := i2; omega
      · rw [if_neg q1, if_neg (fun z => q1 (of_decide_eq_true z)), jadd0]
        refine ⟨rfl, by omega, ⟨fun z => ?_, fun z => absurd z no⟩⟩
        have := i2; omega
theorem mall_k {p : Nat} : mall A p ↔ ∀ k, k < 4 → A (p + 4 * k) = 2 := by
  constructor
  · rintro ⟨h0, h1, h2, h3⟩ k hk
    have : k = 0 ∨ k = 1 ∨ k = 2 ∨ k = 3 := by omega
    rcases this with rfl | rfl | rfl | rfl
    · exact h0
    · exact h1
    · exact h2
    · exact h3
  · intro h
    exact ⟨h 0 (by decide), h 1 (by decide), h 2 (by decide), h 3 (by decide)⟩
theorem jscore_eq (h : jRB jwT jgF B A) {p : Nat} (hp : p < 4) : jscore B.2.2.2.1 B.2.2.2.2.1 B.2.2.2.2.2 p = msc A p 4 := by
  have e1 : B.2.2.2.2.1 &&& ((4369 : Int32) <<< (nI p &&& 31)) = jmk (fun i => decide (i % 4 = p) && decide (A i = 2)) := by
    apply jt_ext
    intro i hi
    rw [Bool.eq_iff_iff, jt_and, jt_own hp, jt_mk, Bool.and_eq_true, Bool.and_eq_true, Bool.and_eq_true, h.cu i hi, decide_eq_true_iff, decide_eq_true_iff, decide_eq_true_iff, decide_eq_true_iff]
    exact ⟨fun z => ⟨z.1.1, z.2.2, z.1.2⟩, fun z => ⟨⟨z.1, z.2.2⟩, z.1, z.2.1⟩⟩
  have e2 : jfree B.2.2.2.2.1 B.2.2.2.2.2 p &&& B.2.2.2.1 = jmk (fun i => decide (i % 4 = p) && decide (A i = 1 ∧ mfree A i)) := by
    apply jt_ext
    intro i hi
    rw [h.freeOf hp, Bool.eq_iff_iff, jt_and, jt_mk, Bool.and_eq_true, Bool.and_eq_true, Bool.and_eq_true, h.ly i hi, jt_mfo hp 4 (by decide), decide_eq_true_iff, decide_eq_true_iff, decide_eq_true_iff]
    constructor
    · rintro ⟨⟨j, h1, h2, h3⟩, h4, h5, _⟩
      exact ⟨h4, by omega, h5, h3⟩
    · rintro ⟨h1, h2, h3, h4⟩
      exact ⟨⟨i / 4, by omega, by omega, h4⟩, h1, h3, id⟩
  unfold jscore
  rw [e1, e2, jbc_mk, jbc_mk, (msc_n hp 4).1, show (3 : Int32) = nI 3 from rfl, pk_mul, nI_add]
theorem jin_eq (h : jRB jwT jgF B A) {p : Nat} (hp : p < 4) : B.2.2.2.2.1 &&& ((4369 : Int32) <<< (nI p &&& 31)) = (4369 : Int32) <<< (nI p &&& 31) ↔ mall A p := by
  rw [mall_k]
  constructor
  · intro z k hk
    have t : jt ((4369 : Int32) <<< (nI p &&& 31)) (p + 4 * k) = true := by rw [jt_own hp, decide_eq_true_iff]; omega
    rw [← z, jt_and, Bool.and_eq_true] at t
    exact ((h.cu _ (by omega)).mp t.1).2
  · intro z
    apply jt_ext
    intro i hi
    rw [Bool.eq_iff_iff, jt_and, Bool.and_eq_true]
    constructor
    · exact fun y => y.2
    · intro y
      refine ⟨?_, y⟩
      rw [jt_own hp, decide_eq_true_iff] at y
      have := z (i / 4) (by omega)
      rw [show p + 4 * (i / 4) = i by omega] at this
      exact (h.cu i hi).mpr ⟨y.1, this⟩
/-! PLACES -/
theorem mrk_n {p : Nat} (hp : p < 4) : ∃ n : Nat, n ≤ 12 ∧ msc A p 4 = nI n ∧ mrk A p = nI (if n = 12 then n + 1000 else n) := by
  obtain ⟨i1, i2, i3⟩ := msc_n (A := A) hp 4
  refine ⟨3 * min_ A p 4 + mly_ A p 4, by omega, i1, ?_⟩
  unfold mrk
  rw [i1]
  have e : mall A p ↔ 3 * min_ A p 4 + mly_ A p 4 = 12 := by
    rw [mall_k, ← i3]
    omega
  by_cases q : mall A p
  · rw [if_pos q, if_pos (e.mp q), show (1000 : Int32) = nI 1000 from rfl, nI_add]
  · rw [if_neg q, if_neg (fun z => q (e.mpr z)), jadd0]
theorem jbet_congr {sc rk : Nat → Int32} {p : Nat} : ∀ n, (∀ k, k < n → (sc p < sc k ↔ rk p < rk k)) → jbet sc p n = jbet rk p n
  | 0, _ => rfl
  | n + 1, h => by
    unfold jbet
    rw [jbet_congr n (fun k hk => h k (by omega))]
    by_cases q : sc p < sc n
    · rw [if_pos q, if_pos ((h n (by omega)).mp q)]
    · rw [if_neg q, if_neg (fun z => q ((h n (by omega)).mpr z))]
theorem jali_congr {sc rk : Nat → Int32} {p : Nat} : ∀ n, (∀ k, k < n → (sc k = sc p ↔ rk k = rk p)) → jali sc p n = jali rk p n
  | 0, _ => rfl
  | n + 1, h => by
    unfold jali
    rw [jali_congr n (fun k hk => h k (by omega))]
    by_cases q : sc n = sc p
    · rw [if_pos q, if_pos ((h n (by omega)).mp q)]
    · rw [if_neg q, if_neg (fun z => q ((h n (by omega)).mpr z))]
theorem jba_le {sc : Nat → Int32} {p : Nat} : ∀ n, jbet sc p n + jali sc p n ≤ n
  | 0 => Nat.le_refl 0
  | n + 1 => by
    have ih := jba_le (sc := sc) (p := p) n
    unfold jbet jali
    by_cases q : sc p < sc n
    · have q2 : ¬ sc n = sc p := fun z => by rw [z] at q; exact Int32.lt_irrefl q
      rw [if_pos q, if_neg q2]; omega
    · rw [if_neg q]
      split <;> omega
theorem jshr_eq : ∀ (n i : Nat) (s : Int32), i + n ≤ 4 → jshr n i s = mshr n i s
  | 0, _, _, _ => rfl
  | n + 1, i, s, h => by
    unfold jshr mshr
    rw [if_pos (by omega)]
    exact jshr_eq n (i + 1) _ (by omega)
theorem jtwo_eq (h : jRB jwT jgF B A) {p : Nat} (hp : p < 4) : jtwo (fun q => jscore B.2.2.2.1 B.2.2.2.2.1 B.2.2.2.2.2 q) p = mtwo (mrk A) p := by
  have key : ∀ k, k < 4 → (jscore B.2.2.2.1 B.2.2.2.2.1 B.2.2.2.2.2 p < jscore B.2.2.2.1 B.2.2.2.2.1 B.2.2.2.2.2 k ↔ mrk A p < mrk A k) ∧ (jscore B.2.2.2.1 B.2.2.2.2.1 B.2.2.2.2.2 k = jscore B.2.2.2.1 B.2.2.2.2.1 B.2.2.2.2.2 p ↔ mrk A k = mrk A p) := by
    intro k hk
    obtain ⟨u, u1, u2, u3⟩ := mrk_n (A := A) hp
    obtain ⟨v, v1, v2, v3⟩ := mrk_n (A := A) hk
    rw [jscore_eq h hp, jscore_eq h hk, u2, v2, u3, v3]
    have b1 : (if u = 12 then u + 1000 else u) < 2 ^ 31 := by split <;> omega
    have b2 : (if v = 12 then v + 1000 else v) < 2 ^ 31 := by split <;> omega
    rw [nI_lti (by omega) (by omega), nI_lti b1 b2, nI_eq (by omega) (by omega), nI_eq b2 b1]
    by_cases q : u = 12
    · rw [if_pos q]
      by_cases r : v = 12
      · rw [if_pos r]; omega
      · rw [if_neg r]; omega
    · rw [if_neg q]
      by_cases r : v = 12
      · rw [if_pos r]; omega
      · rw [if_neg r]; omega
  have e1 : jbet (fun q => jscore B.2.2.2.1 B.2.2.2.2.1 B.2.2.2.2.2 q) p 4 = jbet (mrk A) p 4 := jbet_congr 4 (fun k hk => (key k hk).1)
  have e2 : jali (fun q => jscore B.2.2.2.1 B.2.2.2.2.1 B.2.2.2.2.2 q) p 4 = jali (mrk A) p 4 := jali_congr 4 (fun k hk => (key k hk).2)
  have p0 := jali_pos (sc := mrk A) (p := p) 4 hp
  unfold jtwo mtwo
  rw [e1, e2, if_neg (by omega), jshr_eq _ _ _ (jba_le 4)]
theorem jadc (a b c : Int32) : a + (b + c) = b + (a + c) := by rw [← Int32.add_assoc, Int32.add_comm a b, Int32.add_assoc]
theorem jpts_eq (h : jRB jwT jgF B A) {s : Nat} (hs : s < 2) {al : Nat → Prop} [DecidablePred al] (hal : ∀ p, p < 4 → (al p ↔ mall A p)) : jpts (jtwo (fun q => jscore B.2.2.2.1 B.2.2.2.2.1 B.2.2.2.2.2 q)) al s 4 = mptF A s 4 := by
  have t := fun p hp => jtwo_eq h (p := p) hp
  have w : ∀ p, p < 4 → (if al p then (if p % 2 = s then (12 : Int32) else -12) else 0) = (if ¬ mall A p then 0 else if p % 2 = s then 12 else -12) := by
    intro p hp
    by_cases q : mall A p
    · rw [if_pos ((hal p hp).mpr q)]; exact (if_neg (fun z => z q)).symm
    · rw [if_neg (fun z => q ((hal p hp).mp z))]; exact (if_pos q).symm
  have w0 := w 0 (by decide)
  have w1 := w 1 (by decide)
  have w2 := w 2 (by decide)
  have w3 := w 3 (by decide)
  have hs' : s = 0 ∨ s = 1 := by omega
  unfold jpts jpts jpts jpts jpts mptF mptF mptF mptF mptF
  rw [w0, w1, w2, w3, t 0 (by decide), t 1 (by decide), t 2 (by decide), t 3 (by decide)]
  generalize (if ¬ mall A 0 then (0 : Int32) else if 0 % 2 = s then 12 else -12) = x0
  generalize (if ¬ mall A 1 then (0 : Int32) else if 1 % 2 = s then 12 else -12) = x1
  generalize (if ¬ mall A 2 then (0 : Int32) else if 2 % 2 = s then 12 else -12) = x2
  generalize (if ¬ mall A 3 then (0 : Int32) else if 3 % 2 = s then 12 else -12) = x3
  have z0 : ∀ v : Int32, 0 + v = v := fun v => by rw [Int32.add_comm]; exact jadd0 v
  rcases hs' with rfl | rfl
  · rw [if_pos (show 0 % 2 = 0 from rfl), if_neg (show ¬ 1 % 2 = 0 by decide), if_pos (show 2 % 2 = 0 from rfl), if_neg (show ¬ 3 % 2 = 0 by decide), z0]
    show mtwo (mrk A) 0 + x0 + x1 + mtwo (mrk A) 2 + x2 + x3 = mtwo (mrk A) 0 + mtwo (mrk A) 2 + x0 + x1 + x2 + x3
    generalize mtwo (mrk A) 0 = t0
    generalize mtwo (mrk A) 2 = t2
    simp only [Int32.add_assoc, Int32.add_comm, jadc]
  · rw [if_neg (show ¬ 0 % 2 = 1 by decide), if_pos (show 1 % 2 = 1 from rfl), if_neg (show ¬ 2 % 2 = 1 by decide), if_pos (show 3 % 2 = 1 from rfl), z0]
    show x0 + mtwo (mrk A) 1 + x1 + x2 + mtwo (mrk A) 3 + x3 = mtwo (mrk A) 1 + mtwo (mrk A) 3 + x0 + x1 + x2 + x3
    generalize mtwo (mrk A) 1 = t0
    generalize mtwo (mrk A) 3 = t2
    simp only [Int32.add_assoc, Int32.add_comm, jadc]
end TE
