/-! ===== bits of an Int32 ===== -/
def jt (v : Int32) (i : Nat) : Bool := v.toBitVec.getLsbD i
theorem jt_ext {v w : Int32} (h : ∀ i, i < 32 → jt v i = jt w i) : v = w := Int32.toBitVec_inj.mp (BitVec.eq_of_getLsbD_eq (fun i hi => h i hi))
theorem jt_and (v w : Int32) (i : Nat) : jt (v &&& w) i = (jt v i && jt w i) := by simp [jt]
theorem jt_or (v w : Int32) (i : Nat) : jt (v ||| w) i = (jt v i || jt w i) := by simp [jt]
theorem jt_xor (v w : Int32) (i : Nat) : jt (v ^^^ w) i = (jt v i != jt w i) := by simp [jt]
theorem jt_0 (i : Nat) : jt 0 i = false := by simp [jt]
theorem jt_m1 {i : Nat} (h : i < 32) : jt (-1) i = true := by
  have : ∀ i, i < 32 → jt (-1) i = true := by decide
  exact this i h
theorem jt_not {v : Int32} {i : Nat} (h : i < 32) : jt (v ^^^ (-1)) i = !jt v i := by
  rw [jt_xor, jt_m1 h]; simp
theorem jt_big {v : Int32} {i : Nat} (h : 32 ≤ i) : jt v i = false := BitVec.getLsbD_of_ge _ _ h
theorem jt_bit {d : Nat} (hd : d < 32) (i : Nat) : jt (jbit d) i = decide (i = d) := by
  by_cases hi : i < 32
  · have : ∀ d, d < 32 → ∀ i, i < 32 → jt (jbit d) i = decide (i = d) := by decide +kernel
    exact this d hd i hi
  · rw [jt_big (by omega)]
    symm; rw [decide_eq_false_iff_not]; omega
theorem jt_eq0 {v : Int32} : v = 0 ↔ ∀ i, i < 32 → jt v i = false := by
  constructor
  · intro h i _; rw [h, jt_0]
  · intro h; exact jt_ext (fun i hi => by rw [h i hi, jt_0])
theorem jt_ne0 {v : Int32} : ¬ v = 0 ↔ ∃ i, i < 32 ∧ jt v i = true := by
  constructor
  · intro h
    refine Classical.byContradiction fun q => h (jt_eq0.mpr fun i hi => ?_)
    cases e : jt v i
    · rfl
    · exact absurd ⟨i, hi, e⟩ q
  · rintro ⟨i, hi, e⟩ h
    rw [h, jt_0] at e
    cases e
theorem jts_iff {v : Int32} {d : Nat} (hd : d < 32) : jts v d ↔ jt v d = true := by
  unfold jts
  rw [jt_ne0]
  constructor
  · rintro ⟨i, hi, e⟩
    rw [jt_and, jt_bit hd] at e
    simp at e
    rw [← e.2]; exact e.1
  · intro e
    exact ⟨d, hd, by rw [jt_and, jt_bit hd, e]; simp⟩
theorem jt_orI {c : Int32} {p : Nat → Bool} : ∀ (n : Nat), n ≤ 32 → ∀ i, jt (jorI c p n) i = (jt c i || (decide (i < n) && p i))
  | 0, _, i => by simp [jorI]
  | n + 1, hn, i => by
    have ih := jt_orI (c := c) (p := p) n (by omega) i
    unfold jorI
    by_cases hp : p n = true
    · rw [if_pos hp, jt_or, ih, jt_bit (by omega)]
      by_cases e : i = n
      · subst e; simp [hp]
      · by_cases e2 : i < n
        · simp [e, e2, Nat.lt_succ_of_lt e2]
        · simp [e, e2, show ¬ i < n + 1 by omega]
    · rw [if_neg hp, ih]
      by_cases e : i = n
      · subst e; simp [hp]
      · by_cases e2 : i < n
        · simp [e2, Nat.lt_succ_of_lt e2]
        · simp [e2, show ¬ i < n + 1 by omega]
/-- the mask of a row of sixteen -/
abbrev jmk (p : Nat → Bool) : Int32 := jorI 0 p 16
theorem jt_mk (p : Nat → Bool) (i : Nat) : jt (jmk p) i = (decide (i < 16) && p i) := by rw [jt_orI 16 (by decide), jt_0]; simp
theorem jt_own {p : Nat} (hp : p < 4) (i : Nat) : jt ((4369 : Int32) <<< (nI p &&& 31)) i = decide (i < 16 ∧ i % 4 = p) := by
  by_cases hi : i < 32
  · have : ∀ p, p < 4 → ∀ i, i < 32 → jt ((4369 : Int32) <<< (nI p &&& 31)) i = decide (i < 16 ∧ i % 4 = p) := by decide +kernel
    exact this p hp i hi
  · rw [jt_big (by omega)]
    symm; rw [decide_eq_false_iff_not]; omega
theorem jt_side {p : Nat} (hp : p < 2) (i : Nat) : jt ((21845 : Int32) <<< (nI p &&& 31)) i = decide (i < 16 ∧ i % 2 = p) := by
  by_cases hi : i < 32
  · have : ∀ p, p < 2 → ∀ i, i < 32 → jt ((21845 : Int32) <<< (nI p &&& 31)) i = decide (i < 16 ∧ i % 2 = p) := by decide +kernel
    exact this p hp i hi
  · rw [jt_big (by omega)]
    symm; rw [decide_eq_false_iff_not]; omega
theorem jt_oth {d i : Nat} (hd : d < 32) (hi : i < 32) : jt (joth d) i = !decide (i = d) := by
  unfold joth; rw [jt_not hi, jt_bit hd]
theorem jt_sar {v : Int32} {i k : Nat} (hk : k < 32) (hi : i + k < 32) : jt (v >>> (nI k &&& 31)) i = jt v (i + k) := by
  have e : ∀ k, k < 32 → (nI k &&& 31).toBitVec.smod 32 = BitVec.ofNat 32 k := by decide +kernel
  unfold jt
  rw [Int32.toBitVec_shiftRight, e k hk, BitVec.sshiftRight_eq']
  rw [BitVec.getLsbD_sshiftRight]
  simp [show ¬ 32 ≤ i by omega, show k % 4294967296 = k by omega, show k + i < 32 by omega, Nat.add_comm]
  intro z; omega
