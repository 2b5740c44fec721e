/-! ===== bits counted ===== -/
def jcn (p : Nat → Bool) : Nat → Nat
  | 0 => 0
  | n + 1 => if p n = true then jcn p n + 1 else jcn p n
def jnb1 (v : Nat) : Nat := Nat.sub v (Nat.land (Nat.shiftRight v 1) 1431655765)
def jnb2 (v : Nat) : Nat := Nat.add (Nat.land v 858993459) (Nat.land (Nat.shiftRight v 2) 858993459)
def jnb3 (v : Nat) : Nat := Nat.land (Nat.add v (Nat.shiftRight v 4)) 252645135
def jnb4 (v : Nat) : Nat := Nat.add v (Nat.shiftRight v 8)
def jnb5 (v : Nat) : Nat := Nat.add v (Nat.shiftRight v 16)
def jnb (v : Nat) : Nat := Nat.land (jnb5 (jnb4 (jnb3 (jnb2 (jnb1 v))))) 63
def jchk : Nat → Nat → Nat → Nat → Bool
  | 0, v, c, _ => Nat.beq (jnb v) c && (Nat.beq (Nat.land v (Nat.sub v 1)) 0 == Nat.blt c 2)
  | n + 1, v, c, k => jchk n v c (k * 2) && jchk n (Nat.add v k) (c + 1) (k * 2)
theorem jchk_16 : jchk 16 0 0 1 = true := by decide +kernel
theorem nI_bv (a : Nat) : (nI a).toBitVec = BitVec.ofNat 32 a := rfl
theorem nI_and (a b : Nat) : nI a &&& nI b = nI (a &&& b) := by
  apply Int32.toBitVec_inj.mp
  rw [Int32.toBitVec_and, nI_bv, nI_bv, nI_bv]
  apply BitVec.eq_of_toNat_eq
  simp [Nat.and_mod_two_pow (n := 32)]
theorem nI_or (a b : Nat) : nI a ||| nI b = nI (a ||| b) := by
  apply Int32.toBitVec_inj.mp
  rw [Int32.toBitVec_or, nI_bv, nI_bv, nI_bv]
  apply BitVec.eq_of_toNat_eq
  simp [Nat.or_mod_two_pow (n := 32)]
theorem nI_sub {a b : Nat} (h : b ≤ a) : nI a - nI b = nI (a - b) := by
  apply Int32.toBitVec_inj.mp
  rw [Int32.toBitVec_sub, nI_bv, nI_bv, nI_bv]
  apply BitVec.eq_of_toNat_eq
  simp
  omega
theorem nI_shr {v : Nat} (hv : v < 2 ^ 31) {k : Nat} {c : Int32} (hk : k < 32) (hc : c = nI k) : ((nI v).toUInt32 >>> (c.toUInt32 &&& Int32.toUInt32 31)).toInt32 = nI (v >>> k) := by
  subst hc
  apply Int32.toBitVec_inj.mp
  have e : ∀ k, k < 32 → ((nI k).toUInt32 &&& Int32.toUInt32 31).toBitVec % 32#32 = BitVec.ofNat 32 k := by decide +kernel
  have e2 : ((nI v).toUInt32 >>> ((nI k).toUInt32 &&& Int32.toUInt32 31)).toInt32.toBitVec = (BitVec.ofNat 32 v) >>> (((nI k).toUInt32 &&& Int32.toUInt32 31).toBitVec % 32#32) := rfl
  rw [e2, e k hk, nI_bv]
  apply BitVec.eq_of_toNat_eq
  have h1 : v % 4294967296 = v := Nat.mod_eq_of_lt (by omega)
  have h2 : k % 4294967296 = k := Nat.mod_eq_of_lt (by omega)
  have h3 : v >>> k ≤ v := by rw [Nat.shiftRight_eq_div_pow]; exact Nat.div_le_self _ _
  have h4 : (v >>> k) % 4294967296 = v >>> k := Nat.mod_eq_of_lt (by omega)
  simp [h1, h2, h4]
theorem jland_le (a b : Nat) : a &&& b ≤ b := Nat.and_le_right
theorem jbc_nat {v : Nat} (hv : v < 65536) : jbc (nI v) = nI (jnb v) := by
  have s1 : v >>> 1 &&& 1431655765 ≤ v := Nat.le_trans Nat.and_le_left (by rw [Nat.shiftRight_eq_div_pow]; exact Nat.div_le_self _ _)
  have e1 : jbc1 (nI v) = nI (jnb1 v) := by
    unfold jbc1
    rw [nI_shr (by omega) (by decide) (show (1 : Int32) = nI 1 from rfl), show (1431655765 : Int32) = nI 1431655765 from rfl, nI_and, nI_sub s1]
    rfl
  have b1 : jnb1 v ≤ v := Nat.sub_le _ _
  have e2 : jbc2 (nI (jnb1 v)) = nI (jnb2 (jnb1 v)) := by
    unfold jbc2
    rw [nI_shr (by omega) (by decide) (show (2 : Int32) = nI 2 from rfl), show (858993459 : Int32) = nI 858993459 from rfl, nI_and, nI_and, nI_add]
    rfl
  have b2 : jnb2 (jnb1 v) ≤ 858993459 + 858993459 := Nat.add_le_add Nat.and_le_right Nat.and_le_right
  have e3 : jbc3 (nI (jnb2 (jnb1 v))) = nI (jnb3 (jnb2 (jnb1 v))) := by
    unfold jbc3
    rw [nI_shr (by omega) (by decide) (show (4 : Int32) = nI 4 from rfl), show (252645135 : Int32) = nI 252645135 from rfl, nI_add, nI_and]
    rfl
  have b3 : jnb3 (jnb2 (jnb1 v)) ≤ 252645135 := Nat.and_le_right
  have e4 : jbc4 (nI (jnb3 (jnb2 (jnb1 v)))) = nI (jnb4 (jnb3 (jnb2 (jnb1 v)))) := by
    unfold jbc4
    rw [nI_shr (by omega) (by decide) (show (8 : Int32) = nI 8 from rfl), nI_add]
    rfl
  have b4 : jnb4 (jnb3 (jnb2 (jnb1 v))) ≤ 252645135 + 252645135 := by
    refine Nat.le_trans (Nat.add_le_add (Nat.le_refl _) ?_) (Nat.add_le_add b3 b3)
    show jnb3 (jnb2 (jnb1 v)) >>> 8 ≤ _
    rw [Nat.shiftRight_eq_div_pow]; exact Nat.div_le_self _ _
  have e5 : jbc5 (nI (jnb4 (jnb3 (jnb2 (jnb1 v))))) = nI (jnb5 (jnb4 (jnb3 (jnb2 (jnb1 v))))) := by
    unfold jbc5
    rw [nI_shr (by omega) (by decide) (show (16 : Int32) = nI 16 from rfl), nI_add]
    rfl
  unfold jbc
  rw [e1, e2, e3, e4, e5, show (63 : Int32) = nI 63 from rfl, nI_and]
  rfl
def jvl (p : Nat → Bool) : Nat → Nat
  | 0 => 0
  | n + 1 => if p n = true then jvl p n + 2 ^ n else jvl p n
theorem jvl_lt (p : Nat → Bool) : ∀ n, jvl p n < 2 ^ n
  | 0 => by show 0 < 1; decide
  | n + 1 => by
    have := jvl_lt p n
    unfold jvl
    split <;> omega
theorem jorI_vl (p : Nat → Bool) : ∀ n, n ≤ 16 → jorI 0 p n = nI (jvl p n)
  | 0, _ => rfl
  | n + 1, h => by
    have ih := jorI_vl p n (by omega)
    have hl := jvl_lt p n
    unfold jorI jvl
    by_cases hp : p n = true
    · rw [if_pos hp, if_pos hp, ih]
      have e : ∀ n, n < 16 → jbit n = nI (2 ^ n) := by decide +kernel
      rw [e n (by omega), nI_or]
      have := Nat.two_pow_add_eq_or_of_lt hl 1
      rw [Nat.mul_one, Nat.or_comm] at this
      rw [← this, Nat.add_comm]
    · rw [if_neg hp, if_neg hp, ih]
theorem jchk_use (p : Nat → Bool) : ∀ (n k : Nat), k + n = 16 → jchk n (jvl p k) (jcn p k) (2 ^ k) = true → (Nat.beq (jnb (jvl p 16)) (jcn p 16) && (Nat.beq (Nat.land (jvl p 16) (Nat.sub (jvl p 16) 1)) 0 == Nat.blt (jcn p 16) 2)) = true
  | 0, k, hk, h => by
    have : k = 16 := by omega
    subst this
    exact h
  | n + 1, k, hk, h => by
    have h' : (jchk n (jvl p k) (jcn p k) (2 ^ k * 2) && jchk n (jvl p k + 2 ^ k) (jcn p k + 1) (2 ^ k * 2)) = true := h
    rw [Bool.and_eq_true] at h'
    refine jchk_use p n (k + 1) (by omega) ?_
    rw [Nat.pow_succ]
    unfold jvl jcn
    by_cases hp : p k = true
    · rw [if_pos hp, if_pos hp]; exact h'.2
    · rw [if_neg hp, if_neg hp]; exact h'.1
theorem jbc_mk (p : Nat → Bool) : jbc (jmk p) = nI (jcn p 16) := by
  have h := jchk_use p 16 0 rfl jchk_16
  rw [Bool.and_eq_true] at h
  show jbc (jorI 0 p 16) = _
  rw [jorI_vl p 16 (by decide), jbc_nat (jvl_lt p 16), Nat.eq_of_beq_eq_true h.1]
theorem jcn_le (p : Nat → Bool) : ∀ n, jcn p n ≤ n
  | 0 => Nat.le_refl 0
  | n + 1 => by
    have := jcn_le p n
    unfold jcn
    split <;> omega
/-- a mask of fewer than two bits -/
theorem jbc_two (p : Nat → Bool) : jmk p &&& (jmk p - 1) = 0 ↔ jcn p 16 < 2 := by
  have h := jchk_use p 16 0 rfl jchk_16
  rw [Bool.and_eq_true] at h
  have hv := jvl_lt p 16
  show jorI 0 p 16 &&& (jorI 0 p 16 - 1) = 0 ↔ _
  rw [jorI_vl p 16 (by decide)]
  by_cases h0 : jvl p 16 = 0
  · rw [h0]
    have e1 : Nat.beq (Nat.land (jvl p 16) (Nat.sub (jvl p 16) 1)) 0 = true := by rw [h0]; rfl
    have e2 := h.2
    rw [e1] at e2
    have e3 : Nat.blt (jcn p 16) 2 = true := by simpa using e2
    constructor
    · intro _; exact Nat.lt_of_succ_le (Nat.le_of_ble_eq_true e3)
    · intro _; rfl
  · rw [show (1 : Int32) = nI 1 from rfl, nI_sub (by omega), nI_and]
    have hl : jvl p 16 &&& (jvl p 16 - 1) < 2 ^ 31 := Nat.lt_of_le_of_lt Nat.and_le_left (by omega)
    have e0 : nI (jvl p 16 &&& (jvl p 16 - 1)) = 0 ↔ jvl p 16 &&& (jvl p 16 - 1) = 0 := by
      rw [← nI_0]; exact nI_eq (by omega) (by decide)
    rw [e0]
    have e2 : (Nat.beq (jvl p 16 &&& (jvl p 16 - 1)) 0 == Nat.blt (jcn p 16) 2) = true := h.2
    constructor
    · intro z
      rw [z] at e2
      have e3 : Nat.blt (jcn p 16) 2 = true := by simpa using e2
      exact Nat.lt_of_succ_le (Nat.le_of_ble_eq_true e3)
    · intro z
      have e3 : Nat.blt (jcn p 16) 2 = true := Nat.ble_eq_true_of_le z
      rw [e3] at e2
      exact Nat.eq_of_beq_eq_true (by simpa using e2)
