/-! ===== a DISC that comes to lie ===== -/
section LY
variable {wr : Int32 → Int32 → Prop} {gh : Nat → Int32 → Int32 → Prop} {B : jBT} {A : Nat → Int32} {d c : Nat} {a b : Int32}
theorem mplc_d (hd : d < 16) : mplc A d a b d = 1 := by
  simp [mplc, mpl3, upd, show ¬ d = 68 by omega, show ¬ d = 48 + d by omega, show ¬ d = 32 + d by omega, show ¬ d = 16 + d by omega]
theorem mplc_16 (hd : d < 16) : mplc A d a b (16 + d) = a := by
  simp [mplc, mpl3, upd, show ¬ 16 + d = 68 by omega]
theorem mplc_32 (hd : d < 16) : mplc A d a b (32 + d) = b := by
  simp [mplc, mpl3, upd, show ¬ 32 + d = 68 by omega]
theorem mplc_48 (hd : d < 16) : mplc A d a b (48 + d) = A 68 := by
  simp [mplc, mpl3, upd, show ¬ 48 + d = 68 by omega, show ¬ 68 = 32 + d by omega, show ¬ 68 = 16 + d by omega, show ¬ 68 = d by omega]
theorem mplc_68 (hd : d < 16) : mplc A d a b 68 = A 68 + 1 := by
  simp [mplc, mpl3, upd, show ¬ 68 = 48 + d by omega, show ¬ 68 = 32 + d by omega, show ¬ 68 = 16 + d by omega, show ¬ 68 = d by omega]
theorem mplc_sm {i : Nat} (hd : d < 16) (hi : i < 16) (hn : ¬ i = d) : jsm A (mplc A d a b) i := by
  refine ⟨?_, ?_, ?_, ?_⟩
  · simp [mplc, mpl3, upd, hn, show ¬ i = 68 by omega, show ¬ i = 48 + d by omega, show ¬ i = 32 + d by omega, show ¬ i = 16 + d by omega]
  · simp [mplc, mpl3, upd, hn, show ¬ 16 + i = 68 by omega, show ¬ 16 + i = 48 + d by omega, show ¬ 16 + i = 32 + d by omega, show ¬ 16 + i = d by omega]
  · simp [mplc, mpl3, upd, hn, show ¬ 32 + i = 68 by omega, show ¬ 32 + i = 48 + d by omega, show ¬ 32 + i = 16 + d by omega, show ¬ 32 + i = d by omega]
  · simp [mplc, mpl3, upd, hn, show ¬ 48 + i = 68 by omega, show ¬ 48 + i = 32 + d by omega, show ¬ 48 + i = 16 + d by omega, show ¬ 48 + i = d by omega]
theorem mplc_up (hd : d < 16) {v : Int32} : mplc (upd A d v) d a b = mplc A d a b := by
  funext j
  by_cases h68 : j = 68
  · subst h68; rw [mplc_68 hd, mplc_68 hd, upd_ne (by omega)]
  · by_cases h48 : j = 48 + d
    · subst h48; rw [mplc_48 hd, mplc_48 hd, upd_ne (by omega)]
    · by_cases h32 : j = 32 + d
      · subst h32; rw [mplc_32 hd, mplc_32 hd]
      · by_cases h16 : j = 16 + d
        · subst h16; rw [mplc_16 hd, mplc_16 hd]
        · by_cases h0 : j = d
          · subst h0; rw [mplc_d hd, mplc_d hd]
          · simp [mplc, mpl3, upd, h68, h48, h32, h16, h0]
theorem mcov_in {i e : Nat} (hd : d < 16) (hi : i < 16) (he : e < 16) (h1 : ¬ i = d) (h2 : ¬ e = d) : mcov (mplc A d a b) i e ↔ mcov A i e := mcov_sm (mplc_sm hd hi h1) (mplc_sm hd he h2)
theorem mcov_to {i : Nat} (hd : d < 16) (hi : i < 16) (h : ∀ e, e < 16 → A e = 1 → A (48 + e) < A 68) : ¬ mcov (mplc A d a b) i d := by
  intro z
  have z := mcov_x.mp z
  by_cases e : i = d
  · exact z.2.2.1 e
  · have s := mplc_sm (A := A) (a := a) (b := b) hd hi e
    have z1 := z.1
    have z4 := z.2.2.2.1
    rw [s.1] at z1
    rw [s.2.2.2, mplc_48 hd] at z4
    exact z4 (h i hi z1)
theorem mcov_on {e : Nat} (hd : d < 16) (he : e < 16) (hn : ¬ e = d) (h : ∀ e, e < 16 → A e = 1 → A (48 + e) < A 68) : mcov (mplc A d a b) d e ↔ A e = 1 ∧ 0 ≤ a ∧ 0 ≤ A (16 + e) ∧ mnr a b (A (16 + e)) (A (32 + e)) d e := by
  have s := mplc_sm (A := A) (a := a) (b := b) hd he hn
  rw [mcov_x, mplc_d hd, mplc_16 hd, mplc_32 hd, mplc_48 hd, s.1, s.2.1, s.2.2.1, s.2.2.2]
  constructor
  · rintro ⟨_, q1, _, _, q2, q3, q4⟩; exact ⟨q1, q2, q3, q4⟩
  · rintro ⟨q1, q2, q3, q4⟩
    exact ⟨rfl, q1, fun z => hn z.symm, fun z => Int32.lt_irrefl (Int32.lt_trans z (h e he q1)), q2, q3, q4⟩
theorem nI_lt1 {c : Nat} (hc : c + 1 < 2 ^ 31) : nI c < nI c + 1 := by
  rw [show nI c + 1 = nI (c + 1) from nI_add c 1]
  exact Int32.not_le.mp (fun z => nI_ge (Nat.lt_succ_self c) hc z)
/-- what holds of the orders behind a placing -/
theorem mord_plc (hd : d < 16) (h68 : A 68 = nI c) (hc : c + 1 < 2 ^ 31) (h : ∀ e, e < 16 → A e = 1 → A (48 + e) < A 68) : ∀ e, e < 16 → mplc A d a b e = 1 → mplc A d a b (48 + e) < mplc A d a b 68 := by
  intro e he h1
  have hl : A 68 < A 68 + 1 := by rw [h68]; exact nI_lt1 hc
  rw [mplc_68 hd]
  by_cases q : e = d
  · subst q; rw [mplc_48 hd]; exact hl
  · have s := mplc_sm (A := A) (a := a) (b := b) hd he q
    rw [s.1] at h1; rw [s.2.2.2]
    exact Int32.lt_trans (h e he h1) hl
theorem mdist_plc (hd : d < 16) (h : ∀ e, e < 16 → A e = 1 → A (48 + e) < A 68) (h2 : ∀ a b, a < 16 → b < 16 → A a = 1 → A b = 1 → ¬ a = b → ¬ A (48 + a) = A (48 + b)) : ∀ e f, e < 16 → f < 16 → mplc A d a b e = 1 → mplc A d a b f = 1 → ¬ e = f → ¬ mplc A d a b (48 + e) = mplc A d a b (48 + f) := by
  intro e f he hf q1 q2 hn
  by_cases h1 : e = d
  · subst h1
    have s := mplc_sm (A := A) (a := a) (b := b) hd hf (fun z => hn z.symm)
    rw [s.1] at q2
    rw [mplc_48 hd, s.2.2.2]
    intro z
    have := h f hf q2
    rw [← z] at this
    exact Int32.lt_irrefl this
  · have s := mplc_sm (A := A) (a := a) (b := b) hd he h1
    rw [s.1] at q1
    by_cases h3 : f = d
    · subst h3
      rw [mplc_48 hd, s.2.2.2]
      intro z
      have := h e he q1
      rw [z] at this
      exact Int32.lt_irrefl this
    · have s3 := mplc_sm (A := A) (a := a) (b := b) hd hf h3
      rw [s3.1] at q2
      rw [s.2.2.2, s3.2.2.2]
      exact h2 e f he hf q1 q2 hn
theorem mval_plc (hd : d < 16) (h : ∀ e, e < 16 → A e = 0 ∨ A e = 1 ∨ A e = 2) : ∀ e, e < 16 → mplc A d a b e = 0 ∨ mplc A d a b e = 1 ∨ mplc A d a b e = 2 := by
  intro e he
  by_cases q : e = d
  · subst q; exact Or.inr (Or.inl (mplc_d hd))
  · rw [(mplc_sm (A := A) (a := a) (b := b) hd he q).1]; exact h e he
theorem jRB.lay0 (h : jRB wr gh B A) (hw : jGW wr gh) (hd : d < 16) (h0 : A d = 0) (hx : B.1 d = a) (hy : B.2.1 d = b) (hs : jspot a b) (hr : wr a b) (hg : ¬ gh d a b) (h68 : A 68 = nI c) (hc : c + 1 < 2 ^ 31) : jRB wr gh (jlayF B d) (mplc A d a b) := by
  have hn1 : ¬ A d = 1 := by rw [h0]; decide
  have hit : ∀ e, e < 16 → (jhit B.1 B.2.1 B.2.2.2.1 d e = true ↔ ¬ e = d ∧ mcov (mplc A d a b) d e) := by
    intro e he
    unfold jhit jovb
    rw [Bool.and_eq_true, decide_eq_true_iff, decide_eq_true_iff, jts_iff (show e < 32 by omega), h.ly e (by omega), hx, hy]
    constructor
    · rintro ⟨⟨_, q1⟩, q2⟩
      have hn : ¬ e = d := fun z => hn1 (by rw [← z]; exact q1.1)
      obtain ⟨p1, p2, p3, p4⟩ := h.pos e he q1
      refine ⟨hn, (mcov_on hd he hn h.ord).mpr ⟨q1.1, hs.1.1, by rw [← p1]; exact p3.1.1, ?_⟩⟩
      rw [← p1, ← p2]; exact q2
    · rintro ⟨hn, q⟩
      obtain ⟨q1, q2, q3, q4⟩ := (mcov_on hd he hn h.ord).mp q
      have q5 : ¬ gh e (A (16 + e)) (A (32 + e)) := by
        intro z
        rcases hw.1 e _ _ a b z hr with y | y
        · exact Int32.not_lt.mpr q3 y
        · exact (y d).2 q4
      obtain ⟨p1, p2, p3, p4⟩ := h.pos e he ⟨q1, q5⟩
      refine ⟨⟨he, q1, q5⟩, ?_⟩
      rw [p1, p2]; exact q4
  refine ⟨fun i hi => ?_, fun i hi => ?_, fun e he i hi => ?_, fun i hi => ?_, fun e he q => ?_, mval_plc hd h.val, mord_plc hd h68 hc h.ord, mdist_plc hd h.ord h.dist, fun e i he hi q1 q2 => ?_⟩
  · show jt (B.2.2.2.1 ||| jbit d) i = true ↔ _
    rw [jt_or, jt_bit (by omega), Bool.or_eq_true, decide_eq_true_iff, h.ly i hi]
    by_cases q : i = d
    · subst q
      constructor
      · intro _; exact ⟨hd, mplc_d hd, by rw [mplc_16 hd, mplc_32 hd]; exact hg⟩
      · intro _; exact Or.inr rfl
    · constructor
      · rintro (⟨q1, q2, q3⟩ | z)
        · have s := mplc_sm (A := A) (a := a) (b := b) hd q1 q
          exact ⟨q1, by rw [s.1]; exact q2, by rw [s.2.1, s.2.2.1]; exact q3⟩
        · exact absurd z q
      · rintro ⟨q1, q2, q3⟩
        have s := mplc_sm (A := A) (a := a) (b := b) hd q1 q
        rw [s.1] at q2; rw [s.2.1, s.2.2.1] at q3
        exact Or.inl ⟨q1, q2, q3⟩
  · show jt B.2.2.2.2.1 i = true ↔ _
    rw [h.cu i hi]
    by_cases q : i = d
    · subst q
      rw [mplc_d hd, h0]
      constructor
      · rintro ⟨_, z⟩; exact absurd z (by decide)
      · rintro ⟨_, z⟩; exact absurd z (by decide)
    · constructor
      · rintro ⟨q1, q2⟩; exact ⟨q1, by rw [(mplc_sm (A := A) (a := a) (b := b) hd q1 q).1]; exact q2⟩
      · rintro ⟨q1, q2⟩; rw [(mplc_sm (A := A) (a := a) (b := b) hd q1 q).1] at q2; exact ⟨q1, q2⟩
  · show jt (jfil (fun o => if jhit B.1 B.2.1 B.2.2.2.1 d o then B.2.2.1 o ||| jbit d else B.2.2.1 o) B.2.2.1 16 e) i = true ↔ _
    rw [show jfil (fun o => if jhit B.1 B.2.1 B.2.2.2.1 d o then B.2.2.1 o ||| jbit d else B.2.2.1 o) B.2.2.1 16 e = (if jhit B.1 B.2.1 B.2.2.2.1 d e then B.2.2.1 e ||| jbit d else B.2.2.1 e) from if_pos he]
    have old : i < 16 → ¬ i = d → (jt (B.2.2.1 e) i = true ↔ i < 16 ∧ mcov (mplc A d a b) i e) := by
      intro h16 q
      rw [h.cv e he i hi]
      by_cases q2 : e = d
      · subst q2
        constructor
        · rintro ⟨_, z⟩; exact absurd z (mcov_no2 hn1)
        · rintro ⟨_, z⟩; exact absurd z (mcov_to hd h16 h.ord)
      · rw [mcov_in hd h16 he q q2]
    by_cases ht : jhit B.1 B.2.1 B.2.2.2.1 d e = true
    · rw [if_pos ht, jt_or, jt_bit (by omega), Bool.or_eq_true, decide_eq_true_iff]
      have := (hit e he).mp ht
      by_cases q : i = d
      · subst q; exact ⟨fun _ => ⟨hd, this.2⟩, fun _ => Or.inr rfl⟩
      · by_cases h16 : i < 16
        · rw [old h16 q]
          exact ⟨fun z => z.elim id (fun y => absurd y q), Or.inl⟩
        · rw [h.cv e he i hi]
          exact ⟨fun z => z.elim (fun y => absurd y.1 h16) (fun y => absurd y q), fun z => absurd z.1 h16⟩
    · rw [if_neg ht]
      by_cases q : i = d
      · subst q
        rw [h.cv e he i hi]
        constructor
        · rintro ⟨_, z⟩; exact absurd z (mcov_no1 hn1)
        · rintro ⟨_, z⟩
          exact absurd ((hit e he).mpr ⟨fun y => (mcov_x.mp z).2.2.1 y.symm, z⟩) ht
      · by_cases h16 : i < 16
        · exact old h16 q
        · rw [h.cv e he i hi]
          exact ⟨fun y => absurd y.1 h16, fun z => absurd z.1 h16⟩
  · show jt (jorI B.2.2.2.2.2 (jhit B.1 B.2.1 B.2.2.2.1 d) 16) i = true ↔ _
    rw [jt_orI 16 (by decide), Bool.or_eq_true, Bool.and_eq_true, decide_eq_true_iff, h.cd i hi]
    constructor
    · rintro (⟨q1, k, q2, q3⟩ | ⟨q1, q2⟩)
      · have n1 : ¬ k = d := fun z => mcov_no1 hn1 (by rw [← z]; exact q3)
        have n2 : ¬ i = d := fun z => mcov_no2 hn1 (by rw [← z]; exact q3)
        exact ⟨q1, k, q2, (mcov_in hd q2 q1 n1 n2).mpr q3⟩
      · exact ⟨q1, d, hd, ((hit i q1).mp q2).2⟩
    · rintro ⟨q1, k, q2, q3⟩
      by_cases n1 : k = d
      · subst n1
        exact Or.inr ⟨q1, (hit i q1).mpr ⟨fun y => (mcov_x.mp q3).2.2.1 y.symm, q3⟩⟩
      · by_cases n2 : i = d
        · subst n2; exact absurd q3 (mcov_to hd q2 h.ord)
        · exact Or.inl ⟨q1, k, q2, (mcov_in hd q2 q1 n1 n2).mp q3⟩
  · show B.1 e = _ ∧ B.2.1 e = _ ∧ jspot (B.1 e) (B.2.1 e) ∧ wr (B.1 e) (B.2.1 e)
    by_cases n : e = d
    · subst n
      rw [mplc_16 hd, mplc_32 hd, hx, hy]; exact ⟨rfl, rfl, hs, hr⟩
    · have s := mplc_sm (A := A) (a := a) (b := b) hd he n
      rw [jrl, s.1, s.2.1, s.2.2.1] at q
      rw [s.2.1, s.2.2.1]
      exact h.pos e he q
  · by_cases n : e = d
    · subst n
      rw [mplc_16 hd, mplc_32 hd] at q2
      exact absurd q2 hg
    · have s := mplc_sm (A := A) (a := a) (b := b) hd he n
      rw [s.1] at q1; rw [s.2.1, s.2.2.1] at q2
      by_cases n2 : i = d
      · subst n2
        refine ⟨mcov_to hd he h.ord, fun z => ?_⟩
        obtain ⟨_, _, z3, z4⟩ := (mcov_on hd he n h.ord).mp z
        rcases hw.1 e _ _ a b q2 hr with y | y
        · exact Int32.not_lt.mpr z3 y
        · exact (y i).2 z4
      · rw [mcov_in hd he hi n n2, mcov_in hd hi he n2 n]
        exact h.ghc e i he hi q1 q2
/-- a DISC that is a ghost from now on -/
theorem jRB.gho (h : jRB wr gh B A) (hw : jGW wr gh) (hd : d < 16) (h0 : A d = 0) (hg : gh d a b) (h68 : A 68 = nI c) (hc : c + 1 < 2 ^ 31) : jRB wr gh B (mplc A d a b) := by
  have hn1 : ¬ A d = 1 := by rw [h0]; decide
  have non : ∀ e, e < 16 → ¬ e = d → ¬ mcov (mplc A d a b) d e := by
    intro e he hn z
    obtain ⟨z1, z2, z3, z4⟩ := (mcov_on hd he hn h.ord).mp z
    by_cases q : gh e (A (16 + e)) (A (32 + e))
    · rcases hw.2 d e a b _ _ hg q (fun y => hn y.symm) with y | y
      · exact Int32.not_lt.mpr z2 y
      · exact Int32.not_lt.mpr z3 y
    · obtain ⟨p1, p2, p3, p4⟩ := h.pos e he ⟨z1, q⟩
      rw [p1, p2] at p4
      rcases hw.1 d a b _ _ hg p4 with y | y
      · exact Int32.not_lt.mpr z2 y
      · exact (y e).1 z4
  refine ⟨fun i hi => ?_, fun i hi => ?_, fun e he i hi => ?_, fun i hi => ?_, fun e he q => ?_, mval_plc hd h.val, mord_plc hd h68 hc h.ord, mdist_plc hd h.ord h.dist, fun e i he hi q1 q2 => ?_⟩
  · rw [h.ly i hi]
    by_cases q : i = d
    · subst q
      constructor
      · rintro ⟨_, z, _⟩; exact absurd z hn1
      · rintro ⟨_, _, z⟩; rw [mplc_16 hd, mplc_32 hd] at z; exact absurd hg z
    · constructor
      · rintro ⟨q1, q2, q3⟩
        have s := mplc_sm (A := A) (a := a) (b := b) hd q1 q
        exact ⟨q1, by rw [s.1]; exact q2, by rw [s.2.1, s.2.2.1]; exact q3⟩
      · rintro ⟨q1, q2, q3⟩
        have s := mplc_sm (A := A) (a := a) (b := b) hd q1 q
        rw [s.1] at q2; rw [s.2.1, s.2.2.1] at q3
        exact ⟨q1, q2, q3⟩
  · rw [h.cu i hi]
    by_cases q : i = d
    · subst q
      rw [mplc_d hd, h0]
      constructor
      · rintro ⟨_, z⟩; exact absurd z (by decide)
      · rintro ⟨_, z⟩; exact absurd z (by decide)
    · constructor
      · rintro ⟨q1, q2⟩; exact ⟨q1, by rw [(mplc_sm (A := A) (a := a) (b := b) hd q1 q).1]; exact q2⟩
      · rintro ⟨q1, q2⟩; rw [(mplc_sm (A := A) (a := a) (b := b) hd q1 q).1] at q2; exact ⟨q1, q2⟩
  · rw [h.cv e he i hi]
    constructor
    · rintro ⟨q1, q2⟩
      have n1 : ¬ i = d := fun z => mcov_no1 hn1 (by rw [← z]; exact q2)
      have n2 : ¬ e = d := fun z => mcov_no2 hn1 (by rw [← z]; exact q2)
      exact ⟨q1, (mcov_in hd q1 he n1 n2).mpr q2⟩
    · rintro ⟨q1, q2⟩
      have n2 : ¬ e = d := by intro z; subst z; exact mcov_to hd q1 h.ord q2
      have n1 : ¬ i = d := by intro z; subst z; exact non e he n2 q2
      exact ⟨q1, (mcov_in hd q1 he n1 n2).mp q2⟩
  · rw [h.cd i hi]
    constructor
    · rintro ⟨q1, k, q2, q3⟩
      have n1 : ¬ k = d := fun z => mcov_no1 hn1 (by rw [← z]; exact q3)
      have n2 : ¬ i = d := fun z => mcov_no2 hn1 (by rw [← z]; exact q3)
      exact ⟨q1, k, q2, (mcov_in hd q2 q1 n1 n2).mpr q3⟩
    · rintro ⟨q1, k, q2, q3⟩
      have n2 : ¬ i = d := by intro z; subst z; exact mcov_to hd q2 h.ord q3
      have n1 : ¬ k = d := by intro z; subst z; exact non i q1 n2 q3
      exact ⟨q1, k, q2, (mcov_in hd q2 q1 n1 n2).mp q3⟩
  · by_cases n : e = d
    · subst n
      have := q.2
      rw [mplc_16 hd, mplc_32 hd] at this
      exact absurd hg this
    · have s := mplc_sm (A := A) (a := a) (b := b) hd he n
      rw [jrl, s.1, s.2.1, s.2.2.1] at q
      rw [s.2.1, s.2.2.1]
      exact h.pos e he q
  · by_cases n : e = d
    · subst n
      refine ⟨?_, mcov_to hd hi h.ord⟩
      by_cases n2 : i = e
      · subst n2; exact fun z => (mcov_x.mp z).2.2.1 rfl
      · exact non i hi n2
    · have s := mplc_sm (A := A) (a := a) (b := b) hd he n
      rw [s.1] at q1; rw [s.2.1, s.2.2.1] at q2
      by_cases n2 : i = d
      · subst n2
        exact ⟨mcov_to hd he h.ord, non e he n⟩
      · rw [mcov_in hd he hi n n2, mcov_in hd hi he n2 n]
        exact h.ghc e i he hi q1 q2
/-- xs, ys of a DISC that doesn't lie count for nothing -/
theorem jRB.moved (h : jRB wr gh B A) (h1 : ¬ A d = 1) : jRB wr gh (jputF B d a b) A := by
  refine ⟨h.ly, h.cu, h.cv, h.cd, fun e he q => ?_, h.val, h.ord, h.dist, h.ghc⟩
  have n : ¬ e = d := fun z => h1 (by rw [← z]; exact q.1)
  show upd B.1 d a e = _ ∧ upd B.2.1 d b e = _ ∧ jspot (upd B.1 d a e) (upd B.2.1 d b e) ∧ wr (upd B.1 d a e) (upd B.2.1 d b e)
  rw [upd_ne n, upd_ne n]
  exact h.pos e he q
theorem jRB.lift (h : jRB wr gh B A) (hd : d < 16) : jRB wr gh (jliftF B d) (upd A d 0) := by
  obtain ⟨k1, k2, k3, k4, k5⟩ := jlift_bits h hd
  refine h.off hd (Or.inl rfl) k1 (fun i hi => ?_) k3 k4 (fun e he hn => k5 e)
  rw [k2 i hi]
  constructor
  · exact Or.inl
  · rintro (q | ⟨_, q⟩)
    · exact q
    · exact absurd q (by decide)
theorem jspot_ne {a b : Int32} (h : jspot a b) : ¬ a = -1 ∧ ¬ a = 41 :=
  ⟨fun z => absurd h.1.1 (by rw [z]; decide), fun z => absurd h.1.2 (by rw [z]; decide)⟩
theorem jRB.spot (h : jRB wr gh B A) (hw : jGW wr gh) (hd : d < 16) (hs : jspot a b) (hr : wr a b) (hg : ¬ gh d a b) (h68 : A 68 = nI c) (hc : c + 1 < 2 ^ 31) : jRB wr gh (jbringF B d a b) (mplc A d a b) := by
  have hne := jspot_ne hs
  rw [show jbringF B d a b = jlayF (jputF (jliftF B d) d a b) d from (if_neg hne.1).trans (if_neg hne.2), ← mplc_up hd (v := 0)]
  have h1 : upd A d 0 d = 0 := upd_eq
  exact ((h.lift hd).moved (by rw [h1]; decide)).lay0 hw hd h1 upd_eq upd_eq hs hr hg (by rw [upd_ne (by omega)]; exact h68) hc
theorem jRB.ghost (h : jRB wr gh B A) (hw : jGW wr gh) (hd : d < 16) (hg : gh d a b) (h68 : A 68 = nI c) (hc : c + 1 < 2 ^ 31) {b' : Int32} : jRB wr gh (jbringF B d (-1) b') (mplc A d a b) := by
  rw [← mplc_up hd (v := 0)]
  exact (h.base hd).gho hw hd upd_eq hg (by rw [upd_ne (by omega)]; exact h68) hc
end LY
