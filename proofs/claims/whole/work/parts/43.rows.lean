/-! ===== all at BASE; a ROW from the start ===== -/
section ZE
variable {wr : Int32 → Int32 → Prop} {gh : Nat → Int32 → Int32 → Prop} {B : jBT} {A A' : Nat → Int32}
theorem jRB.all (h : jRB wr gh B A) : ∀ k, k ≤ 16 → jRB wr gh (jallF B k) (jfil (fun _ => 0) A k)
  | 0, _ => by rw [jfil_0]; exact h
  | k + 1, hk => by
    have e : jfil (fun _ => 0) A (k + 1) = upd (jfil (fun _ => 0) A k) k 0 := (jfil_s _ _ k rfl).symm
    rw [e]
    exact (jRB.all h k (by omega)).base (by omega)
theorem jRB.zero (h : jRB wr gh B A) (h0 : ∀ d, d < 16 → A d = 0) (wr' : Int32 → Int32 → Prop) (gh' : Nat → Int32 → Int32 → Prop) (h1 : ∀ d, d < 16 → A' d = 0) : jRB wr' gh' B A' := by
  have n0 : ∀ d, d < 16 → ¬ A d = 1 := fun d hd => by rw [h0 d hd]; decide
  have n1 : ∀ d, d < 16 → ¬ A' d = 1 := fun d hd => by rw [h1 d hd]; decide
  refine ⟨fun i hi => ?_, fun i hi => ?_, fun e he i hi => ?_, fun i hi => ?_, fun e he q => absurd q.1 (n1 e he), fun e he => Or.inl (h1 e he), fun e he q => absurd q (n1 e he), fun a b ha hb q => absurd q (n1 a ha), fun e i he hi q => absurd q (n1 e he)⟩
  · rw [h.ly i hi]
    exact ⟨fun z => absurd z.2.1 (n0 i z.1), fun z => absurd z.2.1 (n1 i z.1)⟩
  · rw [h.cu i hi]
    constructor
    · rintro ⟨q1, q2⟩; rw [h0 i q1] at q2; exact absurd q2 (by decide)
    · rintro ⟨q1, q2⟩; rw [h1 i q1] at q2; exact absurd q2 (by decide)
  · rw [h.cv e he i hi]
    exact ⟨fun z => absurd z.2 (mcov_no1 (n0 i z.1)), fun z => absurd z.2 (mcov_no1 (n1 i z.1))⟩
  · rw [h.cd i hi]
    constructor
    · rintro ⟨_, k, q1, q2⟩; exact absurd q2 (mcov_no1 (n0 k q1))
    · rintro ⟨_, k, q1, q2⟩; exact absurd q2 (mcov_no1 (n1 k q1))
/-- a board that stands beside some board -/
def jhas (B : jBT) : Prop := ∃ wr gh A, jRB wr gh B A
theorem jhas.all (h : jhas B) (wr' : Int32 → Int32 → Prop) (gh' : Nat → Int32 → Int32 → Prop) (h1 : ∀ d, d < 16 → A' d = 0) : jRB wr' gh' (jallF B 16) A' := by
  obtain ⟨wr, gh, A, h⟩ := h
  exact (h.all 16 (Nat.le_refl _)).zero (fun d hd => if_pos hd) wr' gh' h1
theorem mclr_d {P : Nat → Int32} {d : Nat} (hd : d < 16) : mclr P d = 0 := by
  unfold mclr
  rw [upd_ne (by omega), upd_ne (by omega), upd_ne (by omega), upd_ne (by omega), upd_ne (by omega)]
  exact if_pos hd
theorem mclr_k {P : Nat → Int32} {k : Nat} (h1 : 64 ≤ k) (h2 : k ≤ 68) : mclr P k = 0 := by
  have : k = 64 ∨ k = 65 ∨ k = 66 ∨ k = 67 ∨ k = 68 := by omega
  rcases this with rfl | rfl | rfl | rfl | rfl <;> rfl
theorem mclr_o {P : Nat → Int32} {k : Nat} (h1 : 68 < k) : mclr P k = P k := by
  unfold mclr
  rw [upd_ne (by omega), upd_ne (by omega), upd_ne (by omega), upd_ne (by omega), upd_ne (by omega)]
  exact if_neg (by omega)
theorem jsta_rel {G : jGT} {P : Nat → Int32} {ti : Int32} (h : jhas G.1) (wr' : Int32 → Int32 → Prop) (gh' : Nat → Int32 → Int32 → Prop) (ht : 10 ≤ ti) : jRG wr' gh' 0 ti (jsta G ti) (mclr P) := by
  have n : ¬ mcome (mclr P) := by rw [mcome, mclr_k (by decide) (by decide)]; decide
  refine ⟨h.all wr' gh' (fun d hd => mclr_d hd), rfl, ⟨by show 0 < 4; decide, mclr_k (by decide) (by decide)⟩, ⟨(mclr_k (P := P) (k := 65) (by decide) (by decide)).symm, 0, mclr_k (by decide) (by decide), Nat.le_refl 0⟩, ?_, ⟨(mclr_k (P := P) (k := 67) (by decide) (by decide)).symm, Or.inr (mclr_k (by decide) (by decide))⟩, ⟨0, mclr_k (by decide) (by decide), Nat.le_refl 0⟩, ht⟩
  rw [mclr_k (k := 65) (by decide) (by decide)]
  exact ⟨fun z => absurd z n, fun z => absurd (Int32.le_trans ht z) (by decide)⟩
end ZE
/-- what is written in a ROW -/
def jrw (rm : Nat) (rd rx ry : Nat → Int32) : Prop := rm ≤ 24 ∧ ∀ i, i < rm → (jdn rd i < 16 ∧ rd i = nI (jdn rd i)) ∧ mmark (rx i) (ry i)
theorem jwrong {G : jGT} {P rd rx ry : Nat → Int32} {ti : Int32} {rm : Nat} (h : jhas G.1) (hr : jrw rm rd rx ry) (ht : 10 ≤ ti) : (jfw (jdn rd) rx ry rm 0 (jsta G ti)).1 = (mww (jdn rd) rx ry (-1) (-1) ti rm 0 (mclr P)).1 ∧ jhas (jfw (jdn rd) rx ry rm 0 (jsta G ti)).2.1 := by
  have hw : jGW (fun _ _ => True) (fun _ x _ => x < 0) := ⟨fun e x y a b h _ => Or.inl h, fun e f x y a b h _ _ => Or.inl h⟩
  obtain ⟨r1, N', r2, r3⟩ := jRG.row (dn := jdn rd) (rx := rx) (ry := ry) (cx := rx) (cy := ry) (gx := -1) (gy := -1) hw rm 0 0 _ _ (jsta_rel (P := P) h (fun _ _ => True) (fun _ x _ => x < 0) ht) (by have := hr.1; omega) (fun j _ hj => by
    have q := hr.2 j (by omega)
    refine ⟨q.1.1, ?_⟩
    rcases q.2 with s | ⟨s1, s2⟩ | ⟨s1, s2⟩
    · have n := jspot_ne s
      refine Or.inl ⟨s, trivial, Int32.not_lt.mpr s.1.1, if_neg (fun z => n.1 z.1), if_neg (fun z => n.1 z.1)⟩
    · have n : ¬ (rx j = -1 ∧ ry j = -1) := fun z => absurd (s1.symm.trans z.1) (by decide)
      exact Or.inr (Or.inl ⟨s1, (if_neg n).trans s1, (if_neg n).trans s2⟩)
    · have y : rx j = -1 ∧ ry j = -1 := ⟨s1, s2⟩
      refine Or.inr (Or.inr ⟨s1, ?_, ?_⟩)
      · show mgx rx ry (-1) rx j < 0
        rw [show mgx rx ry (-1) rx j = -1 from if_pos y]; decide
      · rw [show mgx rx ry (-1) rx j = -1 from if_pos y]
        exact fun z => absurd z.1 (by decide))
  exact ⟨r1, _, _, _, r3.1⟩
/-! ways and squares, of small numbers -/
def jad (u v : Nat) : Nat := if u ≤ v then v - u else u - v
theorem jneg_sub (a b : Int32) : 0 - (a - b) = b - a := by
  apply Int32.toBitVec_inj.mp
  simp only [Int32.toBitVec_sub]
  apply BitVec.eq_of_toNat_eq
  simp
  have h1 := a.toBitVec.isLt
  have h2 := b.toBitVec.isLt
  omega
theorem jneg_0 (a : Int32) : -a = 0 - a := by
  apply Int32.toBitVec_inj.mp
  simp
theorem jsq_neg (a : Int32) : (0 - a) * (0 - a) = a * a := by
  rw [← jneg_0]
  exact Int32.neg_mul_neg a a
theorem jsq_n (u v : Nat) : (nI u - nI v) * (nI u - nI v) = nI (jad u v * jad u v) := by
  unfold jad
  by_cases h : u ≤ v
  · rw [if_pos h, ← jneg_sub, jsq_neg, nI_sub h, pk_mul]
  · rw [if_neg h, nI_sub (by omega), pk_mul]
theorem jab_n {u v : Nat} (hu : u < 2 ^ 30) (hv : v < 2 ^ 30) : (if 0 ≤ nI u - nI v then nI u - nI v else 0 - (nI u - nI v)) = nI (jad u v) := by
  unfold jad
  by_cases h : u ≤ v
  · rw [if_pos h]
    by_cases e : u = v
    · subst e; rw [nI_sub (Nat.le_refl _), Nat.sub_self, if_pos (by decide)]
    · have e2 : nI u - nI v = 0 - nI (v - u) := by rw [← nI_sub h, jneg_sub]
      have n : ¬ 0 ≤ nI u - nI v := by
        rw [e2, Int32.le_iff_toInt_le]
        have h1 : (nI (v - u)).toInt = (v - u : Nat) := nI_toInt (by omega)
        have h2 : (0 - nI (v - u)).toInt = - ((v - u : Nat) : Int) := by
          rw [Int32.toInt_sub, h1]
          show (0 - ((v - u : Nat) : Int)).bmod _ = _
          rw [Int.bmod_eq_of_le] <;> omega
        rw [h2]
        show ¬ (0 : Int) ≤ _
        omega
      rw [if_neg n, jneg_sub, nI_sub h]
  · rw [if_neg h, nI_sub (by omega), if_pos (jnn (by omega))]
theorem nI_lti {a b : Nat} (ha : a < 2 ^ 31) (hb : b < 2 ^ 31) : nI a < nI b ↔ a < b := by
  constructor
  · intro z
    refine Classical.byContradiction fun q => ?_
    exact absurd z (Int32.not_lt.mpr (nI_le (by omega) ha))
  · intro z; exact Int32.not_le.mp (nI_ge z hb)
theorem jway_n {a b c e : Nat} (ha : a < 2 ^ 30) (hb : b < 2 ^ 30) (hc : c < 2 ^ 30) (he : e < 2 ^ 30) : jway (nI a) (nI b) (nI c) (nI e) = nI (if jad c a < jad e b then jad e b else jad c a) := by
  unfold jway
  rw [jab_n hc ha, jab_n he hb]
  have h1 : jad c a < 2 ^ 31 := by unfold jad; split <;> omega
  have h2 : jad e b < 2 ^ 31 := by unfold jad; split <;> omega
  by_cases q : jad c a < jad e b
  · rw [if_pos ((nI_lti h1 h2).mpr q), if_pos q]
  · rw [if_neg (fun z => q ((nI_lti h1 h2).mp z)), if_neg q]
theorem jad_comm (u v : Nat) : jad u v = jad v u := by
  unfold jad
  split <;> split <;> omega
theorem jsz_n (d : Nat) : ∃ s, jsz (nI d) = nI s ∧ 1 ≤ s ∧ s ≤ 2 := by
  unfold jsz
  split
  · exact ⟨1, rfl, by decide, by decide⟩
  · exact ⟨2, rfl, by decide, by decide⟩
theorem jsq_far {k : Nat} (h : 4 ≤ k) : 16 ≤ k * k := Nat.mul_le_mul h h
theorem jsq_le {k : Nat} (h : k ≤ 41) : k * k ≤ 1681 := Nat.mul_le_mul h h
theorem mnr_far {a b c e : Nat} (ha : a ≤ 41) (hb : b ≤ 41) (hc : c ≤ 41) (he : e ≤ 41) (h : ¬ jway (nI a) (nI b) (nI c) (nI e) < 4) (d f : Nat) : ¬ mnr (nI a) (nI b) (nI c) (nI e) d f ∧ ¬ mnr (nI c) (nI e) (nI a) (nI b) d f := by
  rw [jway_n (by omega) (by omega) (by omega) (by omega)] at h
  have k1 : jad c a ≤ 41 := by unfold jad; split <;> omega
  have k2 : jad e b ≤ 41 := by unfold jad; split <;> omega
  obtain ⟨s, hs, s1, s2⟩ := jsz_n d
  obtain ⟨r, hr, r1, r2⟩ := jsz_n f
  have h4 : 4 ≤ jad c a ∨ 4 ≤ jad e b := by
    by_cases q : jad c a < jad e b
    · rw [if_pos q] at h
      right
      exact Nat.le_of_not_lt (fun z => h ((nI_lti (b := 4) (by omega) (by decide)).mpr z))
    · rw [if_neg q] at h
      left
      exact Nat.le_of_not_lt (fun z => h ((nI_lti (b := 4) (by omega) (by decide)).mpr z))
  have q1 := jsq_le k1
  have q2 := jsq_le k2
  have q3 : 16 ≤ jad c a * jad c a + jad e b * jad e b := by
    rcases h4 with z | z
    · have := jsq_far z; omega
    · have := jsq_far z; omega
  have q4 : (s + r) * (s + r) ≤ 16 := Nat.mul_le_mul (show s + r ≤ 4 by omega) (show s + r ≤ 4 by omega)
  constructor
  · unfold mnr
    rw [jsq_n, jsq_n, nI_add, hs, hr, nI_add, pk_mul, jad_comm a c, jad_comm b e]
    exact fun z => absurd ((nI_lti (by omega) (by omega)).mp z) (by omega)
  · unfold mnr
    rw [jsq_n, jsq_n, nI_add, hs, hr, nI_add, pk_mul]
    exact fun z => absurd ((nI_lti (by omega) (by omega)).mp z) (by omega)
theorem jspot_n {a b : Int32} (h : jspot a b) : ∃ u v, u ≤ 40 ∧ v ≤ 40 ∧ a = nI u ∧ b = nI v := by
  have key : ∀ z : Int32, 0 ≤ z → z ≤ 40 → ∃ u, u ≤ 40 ∧ z = nI u := by
    intro z h1 h2
    refine ⟨z.toNatClampNeg, ?_, ?_⟩
    · have e := Int32.le_iff_toInt_le.mp h2
      have e40 : (40 : Int32).toInt = 40 := by decide
      show z.toInt.toNat ≤ 40
      omega
    · have e := Int32.le_iff_toInt_le.mp h1
      have e0 : (0 : Int32).toInt = 0 := by decide
      apply Int32.toInt_inj.mp
      have h3 : z.toNatClampNeg = z.toInt.toNat := rfl
      have e2 := Int32.le_iff_toInt_le.mp h2
      have e40 : (40 : Int32).toInt = 40 := by decide
      rw [nI_toInt (by rw [h3]; omega), h3]
      omega
  obtain ⟨u, h1, h2⟩ := key a h.1.1 h.1.2
  obtain ⟨v, h3, h4⟩ := key b h.2.1 h.2.2
  exact ⟨u, v, h1, h3, h2, h4⟩
theorem jspot_of {u v : Nat} (h1 : u ≤ 40) (h2 : v ≤ 40) : jspot (nI u) (nI v) :=
  ⟨⟨jnn (by omega), nI_le (b := 40) h1 (by decide)⟩, ⟨jnn (by omega), nI_le (b := 40) h2 (by decide)⟩⟩
