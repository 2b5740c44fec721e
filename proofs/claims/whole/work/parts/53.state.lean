/-! ===== both whole states, side by side ===== -/
/-- the model's state: kept; the best disc, aim, worth; how many written; board, other, kept, row, pairs, offs -/
abbrev jMT : Type := Nat × (Int32 × Int32 × Int32) × Nat × (Nat → Int32) × (Nat → Int32) × (Nat → Int32) × (Nat → Int32) × (Nat → Int32) × (Nat → Int32) × (Nat → Int32) × (Nat → Int32)
abbrev jmW (E : jE) (B : List va_E) (km : Nat) (bd ba bw : Int32) (rm : Nat) (A P K rd rx ry pr qs : Nat → Int32) : List va_E := jw9 E B 41 km false bd ba bw rm A P K rd rx ry pr qs
abbrev jmd (E : jE) (B : List va_E) (Q : jMT) : List va_E := jmW E B Q.1 Q.2.1.1 Q.2.1.2.1 Q.2.1.2.2 Q.2.2.1 Q.2.2.2.1 Q.2.2.2.2.1 Q.2.2.2.2.2.1 Q.2.2.2.2.2.2.1 Q.2.2.2.2.2.2.2.1 Q.2.2.2.2.2.2.2.2.1 Q.2.2.2.2.2.2.2.2.2.1 Q.2.2.2.2.2.2.2.2.2.2
/-- the ROW -/
def jRR (R : jRT) (rm : Nat) (rd rx ry : Nat → Int32) : Prop :=
  (R.1 = rd ∧ R.2.1 = rx ∧ R.2.2.1 = ry ∧ R.2.2.2.1 = rm) ∧ jrw rm rd rx ry ∧ jhas R.2.2.2.2.2.2.2.1.1 ∧ jhas R.2.2.2.2.2.2.2.2.1 ∧
  (10 ≤ R.2.2.2.2.2.2.1 → ∀ gp, jgap rm rx ry gp → ∀ P : Nat → Int32, (mcbx (jdn rd) rx ry R.2.2.2.2.2.2.1 rm (0, -4, P) 42).1 = R.2.2.2.2.1 ∧ (mcbx (jdn rd) rx ry R.2.2.2.2.2.2.1 rm (0, -4, P) 42).2.1 = R.2.2.2.2.2.1)
/-- what is KEPT -/
def jRK (N : Nat) (K3 : jGT × jGT × jGT) (km : Nat) (K : Nat → Int32) : Prop := km ≤ 3 ∧ ∀ n, n < km → jRM N (jkget K3 n) (fun j => K (128 * n + j))
def jREL (N : Nat) (C : jCT) (Q : jMT) : Prop :=
  jRM N C.1 Q.2.2.2.1 ∧ jRR C.2.2.1 Q.2.2.1 Q.2.2.2.2.2.2.1 Q.2.2.2.2.2.2.2.1 Q.2.2.2.2.2.2.2.2.1 ∧ jRS N C.2.2.2.1 Q.2.2.2.2.2.2.2.2.2.1 Q.2.2.2.2.2.2.2.2.2.2 ∧ C.2.2.2.2.2 = Q.1 ∧ jRK N C.2.2.2.2.1 Q.1 Q.2.2.2.2.2.1
section ST
variable {N N' : Nat} {C : jCT} {Q : jMT} {G : jGT} {R : jRT} {K3 : jGT × jGT × jGT} {km rm : Nat} {A P K rd rx ry pr qs : Nat → Int32}
theorem jRK.mono (h : jRK N K3 km K) (hN : N ≤ N') : jRK N' K3 km K := ⟨h.1, fun n hn => (h.2 n hn).mono hN⟩
theorem jREL.mono (h : jREL N C Q) (hN : N ≤ N') : jREL N' C Q := ⟨h.1.mono hN, h.2.1, h.2.2.1.mono hN, h.2.2.2.1, h.2.2.2.2.mono hN⟩
/-- the game alone is another -/
theorem jREL.game (h : jREL N C Q) (hN : N ≤ N') {G' : jGT} {A' : Nat → Int32} (hG : jRM N' G' A') : jREL N' (G', C.2) (Q.1, Q.2.1, Q.2.2.1, A', Q.2.2.2.2) := ⟨hG, h.2.1, h.2.2.1.mono hN, h.2.2.2.1, h.2.2.2.2.mono hN⟩
theorem jRR.rok (h : jRR R rm rd rx ry) : jrok R := by
  refine ⟨by rw [h.1.2.2.2]; exact h.2.1.1, fun i hi => ?_⟩
  rw [h.1.2.2.2] at hi
  rw [h.1.1]
  exact (h.2.1.2 i hi).1
theorem jmark_iff {a b : Int32} : jmark a b ↔ mmark a b := by
  constructor
  · rintro (z | ⟨z1, z2 | z2⟩)
    · exact Or.inl z
    · exact Or.inr (Or.inr ⟨z2, z1.symm.trans z2⟩)
    · exact Or.inr (Or.inl ⟨z2, z1.symm.trans z2⟩)
  · rintro (z | ⟨z1, z2⟩ | ⟨z1, z2⟩)
    · exact Or.inl z
    · exact Or.inr ⟨z1.trans z2.symm, Or.inr z1⟩
    · exact Or.inr ⟨z1.trans z2.symm, Or.inl z1⟩
theorem jRR.write (h : jRR R rm rd rx ry) (hr : rm < 24) {a b c : Int32} (ha : 0 ≤ a ∧ a ≤ 15) (hm : mmark b c) : jRR (jradd R a b c) (rm + 1) (upd rd rm a) (upd rx rm b) (upd ry rm c) := by
  obtain ⟨⟨h1, h2, h3, h4⟩, h5, h6, h7, h8⟩ := h
  obtain ⟨k, k1, k2⟩ := nI_of2 (M := 15) (n := 15) (by decide) (Int32.not_lt.mpr ha.1) ha.2
  unfold jradd
  rw [if_pos (by rw [h4]; exact hr), h1, h2, h3, h4]
  refine ⟨⟨rfl, rfl, rfl, rfl⟩, ⟨by omega, fun i hi => ?_⟩, h6, h7, fun z => absurd z (show ¬ (10 : Int32) ≤ -4 by decide)⟩
  by_cases e : i = rm
  · subst e
    have ed : jdn (upd rd i a) i = k := by
      show (upd rd i a i).toNatClampNeg = k
      rw [upd_eq, k2]; exact nI_clamp (by omega)
    rw [ed, upd_eq, upd_eq, upd_eq]
    exact ⟨⟨by omega, k2⟩, hm⟩
  · have q := h5.2 i (by omega)
    have ed : jdn (upd rd rm a) i = jdn rd i := by
      show (upd rd rm a i).toNatClampNeg = (rd i).toNatClampNeg
      rw [upd_ne e]
    rw [ed, upd_ne e, upd_ne e, upd_ne e]
    exact q
theorem jRR.wipe (h : jRR R rm rd rx ry) : jRR (R.1, R.2.1, R.2.2.1, 0, R.2.2.2.2.1, R.2.2.2.2.2.1, -4, R.2.2.2.2.2.2.2) 0 rd rx ry := by
  obtain ⟨⟨h1, h2, h3, h4⟩, h5, h6, h7, h8⟩ := h
  exact ⟨⟨h1, h2, h3, rfl⟩, ⟨by omega, fun i hi => absurd hi (Nat.not_lt_zero i)⟩, h6, h7, fun z => absurd z (show ¬ (10 : Int32) ≤ -4 by decide)⟩
theorem jRR.wrong (h : jRR R rm rd rx ry) {t : Int32} (ht : 10 ≤ t) {f : Int32 × jGT} (hf : jfwA R t = f) {S : Int32 × (Nat → Int32)} (hS : mww (jdn rd) rx ry (-1) (-1) t rm 0 (mclr P) = S) : f.1 = S.1 ∧ jRR (R.1, R.2.1, R.2.2.1, R.2.2.2.1, R.2.2.2.2.1, R.2.2.2.2.2.1, R.2.2.2.2.2.2.1, R.2.2.2.2.2.2.2.1, f.2) rm rd rx ry := by
  obtain ⟨⟨h1, h2, h3, h4⟩, h5, h6, h7, h8⟩ := h
  have k := jwrong (P := P) h7 h5 ht
  unfold jfwA at hf
  rw [h1, h2, h3, h4] at hf
  rw [hf, hS] at k
  exact ⟨k.1, ⟨h1, h2, h3, h4⟩, h5, h6, k.2, h8⟩
theorem jgap_one {gp gq : Nat} (h1 : jgap rm rx ry gp) (h2 : jgap rm rx ry gq) : gq = gp := Classical.byContradiction fun z => h1.2.2.2 gq h2.1 z h2.2.1
theorem jRR.can (h : jRR R rm rd rx ry) {t : Int32} (ht : 10 ≤ t) {gp : Nat} (hg : jgap rm rx ry gp) {R' : jRT} (hR : jrfp R gp t = R') {S : mS} (hS : mcbx (jdn rd) rx ry t rm (0, -4, P) 42 = S) : R'.2.2.2.2.1 = S.1 ∧ R'.2.2.2.2.2.1 = S.2.1 ∧ jRR R' rm rd rx ry := by
  obtain ⟨⟨h1, h2, h3, h4⟩, h5, h6, h7, h8⟩ := h
  unfold jrfp at hR
  by_cases c1 : R.2.2.2.2.2.2.1 = t
  · rw [if_pos c1] at hR
    subst hR
    have k := h8 (by rw [c1]; exact ht) gp hg P
    rw [c1, hS] at k
    exact ⟨k.1.symm, k.2.symm, ⟨h1, h2, h3, h4⟩, h5, h6, h7, h8⟩
  · rw [if_neg c1, h1, h2, h3, h4] at hR
    by_cases c2 : (jUp (jdn rd) rx ry gp R.2.2.2.2.2.2.2.1 t).1 = -4
    · rw [if_pos c2] at hR
      have k := fun P => jcb_all (P := P) h6 h5 hg ht c2 R.2.2.2.2.2.2.2.2
      have u := jUp_has h6 h5 hg ht
      generalize (jUp (jdn rd) rx ry gp R.2.2.2.2.2.2.2.1 t).2 = V at hR k u
      generalize jfpS (jdn rd) rx ry rm gp V R.2.2.2.2.2.2.2.2 = W at hR k
      subst hR
      have k1 := k P
      rw [hS] at k1
      refine ⟨k1.1.1.symm, k1.1.2.symm, ⟨rfl, rfl, rfl, rfl⟩, h5, u, k1.2, fun _ gq hq P' => ?_⟩
      have k2 := k P'
      exact ⟨k2.1.1, k2.1.2⟩
    · rw [if_neg c2] at hR
      have k := fun P => jcb_non (P := P) h6 h5 hg ht c2
      have u := jUp_has h6 h5 hg ht
      generalize (jUp (jdn rd) rx ry gp R.2.2.2.2.2.2.2.1 t).2 = V at hR u
      subst hR
      have k1 := k P
      rw [hS] at k1
      exact ⟨k1.1.symm, k1.2.symm, ⟨rfl, rfl, rfl, rfl⟩, h5, u, h7, fun _ gq hq P' => k P'⟩
theorem jkget_set {n m : Nat} (hn : n < 3) (hm : m < 3) : jkget (jkset K3 n G) m = if m = n then G else jkget K3 m := by
  have e1 : n = 0 ∨ n = 1 ∨ n = 2 := by omega
  have e2 : m = 0 ∨ m = 1 ∨ m = 2 := by omega
  rcases e1 with rfl | rfl | rfl <;> rcases e2 with rfl | rfl | rfl <;> rfl
theorem jRK.keep (h : jRK N K3 km K) (hk : km < 3) (hG : jRM N G A) : jRK N (jkset K3 km G) (km + 1) (mkp K A (128 * km) 128) := by
  refine ⟨by omega, fun n hn => ?_⟩
  rw [jkget_set hk (by omega)]
  by_cases e : n = km
  · subst e
    rw [if_pos rfl]
    refine hG.look (fun j hj => ?_)
    show (if 128 * n ≤ 128 * n + j ∧ 128 * n + j < 128 * n + 128 then A (128 * n + j - 128 * n) else _) = A j
    rw [if_pos (by omega), Nat.add_sub_cancel_left]
  · rw [if_neg e]
    refine (h.2 n (by omega)).look (fun j hj => ?_)
    show (if 128 * km ≤ 128 * n + j ∧ 128 * n + j < 128 * km + 128 then _ else K (128 * n + j)) = _
    rw [if_neg (by omega)]
theorem jRK.back {n : Nat} (h : jRK N K3 (n + 1) K) : jRM N (jkget K3 n) (jfil (fun j => K (128 * n + j)) A 128) ∧ jRK N K3 n K :=
  ⟨(h.2 n (Nat.lt_succ_self n)).look (fun j hj => if_pos hj), by have := h.1; omega, fun m hm => h.2 m (by omega)⟩
end ST
/-! the start -/
theorem jstart {b0 : jBT} (hb : jB0 = b0) {A0 : Nat → Int32} (hA : mclr mA00 = A0) : jREL 0 (jC0 b0) (0, (0, 0, 0), 0, A0, (fun _ => 0), (fun _ => 0), (fun _ => 0), (fun _ => 0), (fun _ => 0), (fun _ => 0), (fun _ => 0)) := by
  have z0 : jRB jwT jgF jB00 (fun _ => 0) := by
    have n : ¬ (0 : Int32) = 1 := by decide
    have n2 : ¬ (0 : Int32) = 2 := by decide
    refine ⟨fun i hi => ?_, fun i hi => ?_, fun e he i hi => ?_, fun i hi => ?_, fun e he q => absurd q.1 n, fun e he => Or.inl rfl, fun e he q => absurd q n, fun a b ha hb q => absurd q n, fun e i he hi q => absurd q n⟩
    · show jt 0 i = true ↔ _
      rw [jt_0]; exact ⟨fun z => (by cases z), fun z => absurd z.2.1 n⟩
    · show jt 0 i = true ↔ _
      rw [jt_0]; exact ⟨fun z => (by cases z), fun z => absurd z.2 n2⟩
    · show jt 0 i = true ↔ _
      rw [jt_0]; exact ⟨fun z => (by cases z), fun z => absurd z.2 (mcov_no1 n)⟩
    · show jt 0 i = true ↔ _
      rw [jt_0]; exact ⟨fun z => (by cases z), fun ⟨_, k, _, y⟩ => absurd y (mcov_no1 n)⟩
  have hh : jhas jB00 := ⟨_, _, _, z0⟩
  have z1 : ∀ d, d < 16 → A0 d = 0 := fun d hd => by rw [← hA]; exact mclr_d hd
  have e71 : A0 71 = 100 := by rw [← hA]; exact mclr_o (by decide)
  have e69 : A0 69 = 0 := by rw [← hA]; exact mclr_o (by decide)
  have e70 : A0 70 = 0 := by rw [← hA]; exact mclr_o (by decide)
  have e72 : A0 72 = 1 := by rw [← hA]; exact mclr_o (by decide)
  have k64 : ∀ k, 64 ≤ k → k ≤ 68 → A0 k = 0 := fun k h1 h2 => by rw [← hA]; exact mclr_k h1 h2
  have bb : jRB jwT jgF b0 A0 := by rw [← hb]; exact hh.all jwT jgF z1
  have nc : ¬ mcome A0 := by rw [mcome, k64 66 (by decide) (by decide)]; decide
  have pp : jpos b0 A0 := by
    have k : ∀ n, n ≤ 16 → ∀ e, e < n → (jallF jB00 n).1 e = jtabX (e % 4) ∧ (jallF jB00 n).2.1 e = jtabY (e % 4) := by
      intro n
      induction n with
      | zero => intro _ e he; exact absurd he (Nat.not_lt_zero e)
      | succ n ih =>
        intro hn e he
        show (jbringF (jallF jB00 n) n (-1) (-1)).1 e = _ ∧ (jbringF (jallF jB00 n) n (-1) (-1)).2.1 e = _
        rw [jbring_b.1, jbring_b.2]
        by_cases q : e = n
        · subst q; rw [upd_eq, upd_eq]; exact ⟨rfl, rfl⟩
        · rw [upd_ne q, upd_ne q]; exact ih (by omega) e (by omega)
    intro e he
    have k16 := k 16 (Nat.le_refl _) e he
    rw [show mX A0 e = jtabX (e % 4) from if_pos (z1 e he), show mY A0 e = jtabY (e % 4) from if_pos (z1 e he), ← hb]
    exact k16
  have hg : jRM 0 (jG0 b0) A0 := by
    refine ⟨⟨bb, e71.symm, ⟨by show 0 < 4; decide, k64 64 (by decide) (by decide)⟩, ⟨(k64 65 (by decide) (by decide)).symm, 0, k64 65 (by decide) (by decide), Nat.le_refl 0⟩, ?_, ⟨(k64 67 (by decide) (by decide)).symm, Or.inr (k64 67 (by decide) (by decide))⟩, ⟨0, k64 68 (by decide) (by decide), Nat.le_refl 0⟩, by rw [e71]; decide⟩, pp, ⟨e69.symm, 0, by decide, e69⟩, e70.symm, ⟨1, by decide, e72, rfl⟩, fun _ => ?_⟩
    · rw [e71, k64 65 (by decide) (by decide)]
      exact ⟨fun z => absurd z nc, fun z => absurd z (by decide)⟩
    · show ¬ mfo A0 0 4 = 0
      exact jt_ne0.mpr ⟨0, by decide, (jt_mfo (by decide) 4 (by decide) 0).mpr ⟨0, by decide, rfl, Or.inl (z1 0 (by decide))⟩⟩
  have hb0 : jhas b0 := ⟨_, _, _, bb⟩
  refine ⟨hg, ⟨⟨rfl, rfl, rfl, rfl⟩, ⟨Nat.zero_le 24, fun i hi => absurd hi (Nat.not_lt_zero i)⟩, hb0, hb0, fun z => absurd z (show ¬ (10 : Int32) ≤ -4 by decide)⟩, ⟨rfl, rfl, fun p hp => ⟨0, rfl, Nat.le_refl 0, rfl⟩, fun i hi => ⟨0, 0, rfl, Nat.le_refl 0, rfl, Nat.le_refl 0⟩⟩, rfl, Nat.zero_le 3, fun n hn => absurd hn (Nat.not_lt_zero n)⟩
