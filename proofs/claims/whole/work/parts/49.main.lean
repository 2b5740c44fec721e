/-! ===== the game that is played: its relation to the model's board, the calls that change it ===== -/
section MA
variable {wr : Int32 → Int32 → Prop} {gh : Nat → Int32 → Int32 → Prop} {N N' : Nat} {ti : Int32} {G G' : jGT} {B : jBT} {A A' A1 : Nat → Int32} {d : Nat} {a b v : Int32}
theorem jRG.to (h : jRG wr gh N ti G A) (hN : N ≤ N') (e1 : G'.1 = G.1) (e2 : G'.2.2.2.1 = G.2.2.2.1) (e3 : G'.2.2.2.2.2 = G.2.2.2.2.2) (hs : ∀ i, i < 16 → jsm A A' i) (hk : ∀ k, 64 ≤ k → k ≤ 68 → A' k = A k) : jRG wr gh N' ti G' A' := by
  obtain ⟨h1, h2, ⟨h3, h3'⟩, ⟨h4, g, h5, h6⟩, h7, ⟨h8, h9⟩, ⟨c, h10, h10'⟩, h11⟩ := h
  have k64 := hk 64 (by decide) (by decide)
  have k65 := hk 65 (by decide) (by decide)
  have k66 := hk 66 (by decide) (by decide)
  have k67 := hk 67 (by decide) (by decide)
  have k68 := hk 68 (by decide) (by decide)
  refine ⟨by rw [e1]; exact h1.same hs k68, by rw [e2]; exact h2, ⟨by rw [e3]; exact h3, by rw [k64, e3]; exact h3'⟩, ⟨by rw [k65, e3]; exact h4, g, by rw [k65]; exact h5, by omega⟩, by rw [mcome, k66, k65]; exact h7, ⟨by rw [k67, e3]; exact h8, by rw [mcome, k66, k67]; exact h9⟩, ⟨c, by rw [k68]; exact h10, by omega⟩, h11⟩
theorem jRG.ov (h : jRG wr gh N ti G A) : jovr G.1.2.2.2.2.1 G.2.2.2.2.2.2.2 ↔ mover A := by
  rw [h.2.2.2.2.2.1.1]
  exact h.1.over h.2.2.2.2.2.1.2
/-- the game that is played -/
def jRM (N : Nat) (G : jGT) (A : Nat → Int32) : Prop :=
  jRG jwT jgF N (A 71) G A ∧ jpos G.1 A ∧ (G.2.1 = A 69 ∧ ∃ r, r ≤ 5 ∧ A 69 = nI r) ∧ G.2.2.1 = A 70 ∧ (∃ s, s < 2147483647 ∧ A 72 = nI s ∧ G.2.2.2.2.1 = lN s) ∧ (¬ mover A → ¬ mfo A G.2.2.2.2.2.1 4 = 0)
theorem jRM.to (h : jRM N G A) (hN : N ≤ N') (e1 : G'.1 = G.1) (e2 : G'.2.2.2.1 = G.2.2.2.1) (e3 : G'.2.2.2.2.2 = G.2.2.2.2.2) (hs : ∀ i, i < 16 → jsm A A' i) (hk : ∀ k, 64 ≤ k → k ≤ 68 → A' k = A k) (h71 : A' 71 = A 71) (hr : G'.2.1 = A' 69 ∧ ∃ r, r ≤ 5 ∧ A' 69 = nI r) (hu : G'.2.2.1 = A' 70) (hse : ∃ s, s < 2147483647 ∧ A' 72 = nI s ∧ G'.2.2.2.2.1 = lN s) : jRM N' G' A' := by
  obtain ⟨h1, h2, h3, h4, h5, h6⟩ := h
  have k1 := h1.to (G' := G') (A' := A') hN e1 e2 e3 hs hk
  refine ⟨by rw [h71]; exact k1, by rw [e1]; exact h2.same hs, hr, hu, hse, fun z => ?_⟩
  have o1 := h1.ov
  have o2 := k1.ov
  rw [e1, e3] at o2
  have z' : ¬ mover A := fun y => z (o2.mp (o1.mpr y))
  rw [e3, mfo_o h1.2.2.1.1 hs]
  exact h6 z'
theorem jRM.mono (h : jRM N G A) (hN : N ≤ N') : jRM N' G A :=
  h.to hN rfl rfl rfl (fun i _ => ⟨rfl, rfl, rfl, rfl⟩) (fun k _ _ => rfl) rfl h.2.2.1 h.2.2.2.1 h.2.2.2.2.1
/-- the relation looks at the first 128 alone -/
theorem jRM.look (h : jRM N G A) (hk : ∀ k, k < 128 → A' k = A k) : jRM N G A' := by
  refine h.to (Nat.le_refl N) rfl rfl rfl (fun i hi => ⟨hk _ (by omega), hk _ (by omega), hk _ (by omega), hk _ (by omega)⟩) (fun k _ h2 => hk _ (by omega)) (hk _ (by decide)) ?_ ?_ ?_
  · rw [hk 69 (by decide)]; exact h.2.2.1
  · rw [hk 70 (by decide)]; exact h.2.2.2.1
  · rw [hk 72 (by decide)]; exact h.2.2.2.2.1
theorem jRM.anew (h : jRM N G A) : jRM N (jsta G G.2.2.2.1) (mclr A) := by
  obtain ⟨h1, h2, h3, h4, h5, h6⟩ := h
  have e71 : mclr A 71 = A 71 := mclr_o (by decide)
  have et : G.2.2.2.1 = A 71 := h1.2.1
  have k1 : jRG jwT jgF 0 (A 71) (jsta G (A 71)) (mclr A) := jsta_rel (G := G) (P := A) ⟨_, _, _, h1.1⟩ jwT jgF h1.2.2.2.2.2.2.2
  have k2 : jRG jwT jgF N (A 71) (jsta G (A 71)) (mclr A) := k1.to (Nat.zero_le N) rfl rfl rfl (fun i _ => ⟨rfl, rfl, rfl, rfl⟩) (fun k _ _ => rfl)
  rw [et]
  refine ⟨by rw [e71]; exact k2, ?_, ?_, ?_, ?_, fun _ => ?_⟩
  · refine (h2.all 16 (Nat.le_refl _)).same (fun i hi => ⟨?_, ?_, ?_, ?_⟩)
    · rw [mclr_d hi]; exact (if_pos hi).symm
    · unfold mclr; rw [upd_ne (by omega), upd_ne (by omega), upd_ne (by omega), upd_ne (by omega), upd_ne (by omega)]
    · unfold mclr; rw [upd_ne (by omega), upd_ne (by omega), upd_ne (by omega), upd_ne (by omega), upd_ne (by omega)]
    · unfold mclr; rw [upd_ne (by omega), upd_ne (by omega), upd_ne (by omega), upd_ne (by omega), upd_ne (by omega)]
  · rw [mclr_o (by decide)]; exact h3
  · rw [mclr_o (by decide)]; exact h4
  · rw [mclr_o (by decide)]; exact h5
  · show ¬ mfo (mclr A) 0 4 = 0
    exact jt_ne0.mpr ⟨0, by decide, (jt_mfo (by decide) 4 (by decide) 0).mpr ⟨0, by decide, rfl, Or.inl (mclr_d (by decide))⟩⟩
theorem jRM.rough (h : jRM N G A) (hv : 0 ≤ v ∧ v ≤ 5) : jRM N (G.1, v, G.2.2) (upd A 69 v) := by
  obtain ⟨r, r1, r2⟩ := nI_of2 (M := 5) (n := 5) (by decide) (Int32.not_lt.mpr hv.1) hv.2
  refine h.to (Nat.le_refl N) rfl rfl rfl (jsm_hi (by decide)) (fun k _ _ => upd_ne (by omega)) (upd_ne (by decide)) ?_ ?_ ?_
  · rw [upd_eq]; exact ⟨rfl, r, r1, r2⟩
  · rw [upd_ne (by decide)]; exact h.2.2.2.1
  · rw [upd_ne (by decide)]; exact h.2.2.2.2.1
theorem jRM.run (h : jRM N G A) : jRM N (G.1, G.2.1, v, G.2.2.2) (upd A 70 v) := by
  refine h.to (Nat.le_refl N) rfl rfl rfl (jsm_hi (by decide)) (fun k _ _ => upd_ne (by omega)) (upd_ne (by decide)) ?_ ?_ ?_
  · rw [upd_ne (by decide)]; exact h.2.2.1
  · rw [upd_eq]
  · rw [upd_ne (by decide)]; exact h.2.2.2.2.1
theorem jRM.seed (h : jRM N G A) {s : Nat} (hs : s < 2147483647) (hv : v = nI s) : jRM N (G.1, G.2.1, G.2.2.1, G.2.2.2.1, v.toInt64, G.2.2.2.2.2) (upd A 72 v) := by
  refine h.to (Nat.le_refl N) rfl rfl rfl (jsm_hi (by decide)) (fun k _ _ => upd_ne (by omega)) (upd_ne (by decide)) ?_ ?_ ?_
  · rw [upd_ne (by decide)]; exact h.2.2.1
  · rw [upd_ne (by decide)]; exact h.2.2.2.1
  · rw [upd_eq]
    exact ⟨s, hs, hv, by rw [hv]; exact nI_l (by omega)⟩
/-- players without a FREE DISC passed over, which ends no round -/
theorem jRGpov {t g c : Nat} {ro ru : Int32} {se : Int64} {t' : Nat} (hB : jRB wr gh B A1) (ht : t < 4) (h64 : A1 64 = nI t) (h65 : A1 65 = nI g) (hg : g ≤ N) (hc : mcome A1 ↔ ti ≤ A1 65) (h67 : mcome A1 ∨ A1 67 = 0) (h68 : A1 68 = nI c) (hcN : c ≤ 16 * N) (hti : 10 ≤ ti) (et : (if jovr B.2.2.2.2.1 (A1 67) then t else jskipT (jfree B.2.2.2.2.1 B.2.2.2.2.2) 4 t) = t') :
    mpov A1 t = upd A1 64 (nI t') ∧ jRG wr gh N ti (B, ro, ru, ti, se, t', A1 65, A1 67) (upd A1 64 (nI t')) ∧ (¬ mover (upd A1 64 (nI t')) → ¬ mfo (upd A1 64 (nI t')) t' 4 = 0) := by
  have ho := hB.over h67
  have hf : ∀ p, p < 4 → jfree B.2.2.2.2.1 B.2.2.2.2.2 p = mfo A1 p 4 := fun p hp => hB.freeOf hp
  have hs : ¬ mover A1 → ∃ p, p < 4 ∧ ¬ jfree B.2.2.2.2.1 B.2.2.2.2.2 p = 0 := fun q => by
    obtain ⟨p, q1, q2⟩ := hB.go q
    exact ⟨p, q1, fun z => q2 ((hf p q1).symm.trans z)⟩
  have hlt : t' < 4 := by
    rw [← et]
    split
    · exact ht
    · exact jskipT_lt _ _ ht
  have hfr : ¬ mover A1 → ¬ mfo A1 t' 4 = 0 := fun q => by
    rw [← hf t' hlt, ← et, if_neg (fun z => q (ho.mp z))]
    exact jskipT_fr ht (hs q)
  have key : mpov A1 t = upd A1 64 (nI t') := by
    unfold mpov
    by_cases q : mover A1
    · rw [if_pos q, ← et, if_pos (ho.mpr q)]; exact (upd_id h64.symm).symm
    · rw [if_neg q, ← et, if_neg (fun z => q (ho.mp z))]
      unfold mpsO
      rw [mpas_skipT (fun z => z rfl) hf 3 t ht, jskipT_34 ht (hs q)]
  have sm := jsm_hi (A := A1) (k := 64) (v := nI t') (by decide)
  have b2 := hB.same sm (upd_ne (by decide))
  have c2 : mcome (upd A1 64 (nI t')) ↔ mcome A1 := by rw [mcome, upd_ne (by decide)]
  refine ⟨key, ⟨b2, rfl, ⟨hlt, upd_eq⟩, ⟨(upd_ne (by decide)).symm, g, (upd_ne (by decide)).trans h65, hg⟩, ?_, ⟨(upd_ne (by decide)).symm, ?_⟩, ⟨c, (upd_ne (by decide)).trans h68, hcN⟩, hti⟩, fun z => ?_⟩
  · rw [c2, upd_ne (by decide)]; exact hc
  · rw [c2, upd_ne (by decide)]; exact h67
  · have o2 := b2.over (by rw [c2, upd_ne (by decide)]; exact h67)
    rw [upd_ne (by decide)] at o2
    rw [mfo_o hlt sm]
    exact hfr (fun y => z (o2.mp (ho.mpr y)))
/-- a DISC brought, by hand -/
theorem jbrg {c : Nat} (h : jRB jwT jgF B A) (hp : jpos B A) (hd : d < 16) (hm : mmark a b) (h68 : A 68 = nI c) (hc : c + 1 < 2 ^ 31) : jRB jwT jgF (jbringF B d a b) (mput A d a b) ∧ jpos (jbringF B d a b) (mput A d a b) ∧ (∃ c', mput A d a b 68 = nI c' ∧ c' ≤ c + 1) ∧ (∀ k, 64 ≤ k → ¬ k = 68 → mput A d a b k = A k) := by
  unfold mput
  by_cases s : jspot a b
  · rw [if_pos s]
    exact ⟨h.spot jGWT hd s trivial id h68 hc, hp.spot hd s, ⟨c + 1, by rw [mplc_68 hd, h68]; exact nI_1 c, Nat.le_refl _⟩, fun k h1 h2 => mplc_o h1 h2 hd⟩
  · rw [if_neg s]
    by_cases s2 : a = 41 ∧ b = 41
    · rw [if_pos s2, s2.1, s2.2]
      exact ⟨h.cup hd, hp.cup hd, ⟨c, by rw [upd_ne (by omega)]; exact h68, by omega⟩, fun k h1 h2 => upd_ne (by omega)⟩
    · rw [if_neg s2]
      have s3 : a = -1 ∧ b = -1 := by
        rcases hm with z | z | z
        · exact absurd z s
        · exact absurd z s2
        · exact z
      rw [s3.1]
      exact ⟨h.base hd, hp.base hd, ⟨c, by rw [upd_ne (by omega)]; exact h68, by omega⟩, fun k h1 h2 => upd_ne (by omega)⟩
theorem jRM.put (h : jRM N G A) (hN : N ≤ 1000) (hd : d < 16) (hm : mmark a b) : jRM (N + 1) (jpuG G (jbringF G.1 d a b)) (mpov (mput A d a b) G.2.2.2.2.2.1) := by
  obtain ⟨⟨h1, h2, ⟨h3, h3'⟩, ⟨h4, g, h5, h6⟩, h7, ⟨h8, h9⟩, ⟨c, h10, h10'⟩, h11⟩, p2, p3, p4, p5, p6⟩ := h
  obtain ⟨b1, b2, ⟨c', b3, b3'⟩, b4⟩ := jbrg h1 p2 hd hm h10 (by omega)
  generalize mput A d a b = A1 at b1 b2 b3 b4
  generalize jbringF G.1 d a b = B' at b1 b2
  have k64 := b4 64 (by decide) (by decide)
  have k65 := b4 65 (by decide) (by decide)
  have k66 := b4 66 (by decide) (by decide)
  have k67 := b4 67 (by decide) (by decide)
  have k71 := b4 71 (by decide) (by decide)
  obtain ⟨t', et⟩ : ∃ t', (if jovr B'.2.2.2.2.1 (A1 67) then G.2.2.2.2.2.1 else jskipT (jfree B'.2.2.2.2.1 B'.2.2.2.2.2) 4 G.2.2.2.2.2.1) = t' := ⟨_, rfl⟩
  obtain ⟨q1, q2, q3⟩ := jRGpov (N := N + 1) (ti := A 71) (ro := G.2.1) (ru := G.2.2.1) (se := G.2.2.2.2.1) b1 h3 (k64.trans h3') (k65.trans h5) (by omega) (by rw [mcome, k66, k65]; exact h7) (by rw [mcome, k66, k67]; exact h9) b3 (by omega) h11 et
  have e : jpuG G B' = (B', G.2.1, G.2.2.1, A 71, G.2.2.2.2.1, t', A1 65, A1 67) := by
    show (B', G.2.1, G.2.2.1, G.2.2.2.1, G.2.2.2.2.1, (if jovr B'.2.2.2.2.1 G.2.2.2.2.2.2.2 then G.2.2.2.2.2.1 else jskipT (jfree B'.2.2.2.2.1 B'.2.2.2.2.2) 4 G.2.2.2.2.2.1), G.2.2.2.2.2.2.1, G.2.2.2.2.2.2.2) = _
    rw [h2, h4, h8, ← k65, ← k67, et]
  rw [q1, e]
  refine ⟨by rw [upd_ne (by decide), k71]; exact q2, b2.same (jsm_hi (by decide)), ?_, ?_, ?_, q3⟩
  · rw [upd_ne (by decide), b4 69 (by decide) (by decide)]; exact p3
  · rw [upd_ne (by decide), b4 70 (by decide) (by decide)]; exact p4
  · rw [upd_ne (by decide), b4 72 (by decide) (by decide)]; exact p5
/-- TIME changed -/
theorem jRM.time (h : jRM N G A) (hv : 10 ≤ v) (hg : ¬ v < A 65) : jRM N (jctm G v) (mpov (mtmA A v) G.2.2.2.2.2.1) := by
  obtain ⟨⟨h1, h2, ⟨h3, h3'⟩, ⟨h4, g, h5, h6⟩, h7, ⟨h8, h9⟩, ⟨c, h10, h10'⟩, h11⟩, p2, p3, p4, p5, p6⟩ := h
  have go : ¬ v < G.2.2.2.2.2.2.1 := by rw [h4]; exact hg
  unfold jctm mtmA
  rw [if_neg go, h4]
  by_cases q : v ≤ A 65
  · rw [if_pos q, if_pos q]
    have e67 : (if mcome A then A 67 else 0) = A 67 := by
      by_cases z : mcome A
      · rw [if_pos z]
      · rw [if_neg z]; exact (h9.resolve_left z).symm
    rw [e67]
    have a67 : upd (upd (upd A 71 v) 67 (A 67)) 66 1 = upd (upd A 71 v) 66 1 := by rw [upd_id (k := 67) (show A 67 = upd A 71 v 67 from (upd_ne (by decide)).symm)]
    rw [a67]
    generalize hA1 : upd (upd A 71 v) 66 1 = A1
    have oth : ∀ k, ¬ k = 71 → ¬ k = 66 → A1 k = A k := fun k z1 z2 => by rw [← hA1, upd_ne z2, upd_ne z1]
    have v71 : A1 71 = v := by rw [← hA1, upd_ne (by decide), upd_eq]
    have v66 : mcome A1 := by rw [← hA1]; exact upd_eq
    have sm : ∀ i, i < 16 → jsm A A1 i := fun i hi => ⟨oth _ (by omega) (by omega), oth _ (by omega) (by omega), oth _ (by omega) (by omega), oth _ (by omega) (by omega)⟩
    have b1 := h1.same sm (oth 68 (by decide) (by decide))
    have k65 := oth 65 (by decide) (by decide)
    have k67 := oth 67 (by decide) (by decide)
    obtain ⟨t', et⟩ : ∃ t', (if jovr G.1.2.2.2.2.1 (A1 67) then G.2.2.2.2.2.1 else jskipT (jfree G.1.2.2.2.2.1 G.1.2.2.2.2.2) 4 G.2.2.2.2.2.1) = t' := ⟨_, rfl⟩
    obtain ⟨q1, q2, q3⟩ := jRGpov (N := N) (ti := v) (ro := G.2.1) (ru := G.2.2.1) (se := G.2.2.2.2.1) b1 h3 ((oth 64 (by decide) (by decide)).trans h3') (k65.trans h5) h6 (by rw [k65]; exact ⟨fun _ => q, fun _ => v66⟩) (Or.inl v66) ((oth 68 (by decide) (by decide)).trans h10) h10' hv et
    have tt : t' = G.2.2.2.2.2.1 := by
      rw [← et]
      by_cases z : jovr G.1.2.2.2.2.1 (A1 67)
      · rw [if_pos z]
      · rw [if_neg z]
        rw [k67] at z
        have f := p6 (fun y => z ((h1.over h9).mpr y))
        rw [← h1.freeOf h3] at f
        show (if jfree G.1.2.2.2.2.1 G.1.2.2.2.2.2 G.2.2.2.2.2.1 = 0 then _ else _) = _
        rw [if_neg f]
    subst tt
    rw [q1]
    have e : (G.1, G.2.1, G.2.2.1, v, G.2.2.2.2) = ((G.1, G.2.1, G.2.2.1, v, G.2.2.2.2.1, G.2.2.2.2.2.1, A1 65, A1 67) : jGT) := by
      rw [k65, k67, ← h4, ← h8]
    rw [e]
    refine ⟨by rw [upd_ne (by decide), v71]; exact q2, (p2.same sm).same (jsm_hi (by decide)), ?_, ?_, ?_, q3⟩
    · rw [upd_ne (by decide), oth 69 (by decide) (by decide)]; exact p3
    · rw [upd_ne (by decide), oth 70 (by decide) (by decide)]; exact p4
    · rw [upd_ne (by decide), oth 72 (by decide) (by decide)]; exact p5
  · rw [if_neg q, if_neg q]
    generalize hA1 : upd (upd (upd A 71 v) 67 0) 66 0 = A1
    have oth : ∀ k, ¬ k = 71 → ¬ k = 66 → ¬ k = 67 → A1 k = A k := fun k z1 z2 z3 => by rw [← hA1, upd_ne z2, upd_ne z3, upd_ne z1]
    have v71 : A1 71 = v := by rw [← hA1, upd_ne (by decide), upd_ne (by decide), upd_eq]
    have v67 : A1 67 = 0 := by rw [← hA1, upd_ne (by decide), upd_eq]
    have v66 : ¬ mcome A1 := by rw [← hA1, mcome, upd_eq]; decide
    have sm : ∀ i, i < 16 → jsm A A1 i := fun i hi => ⟨oth _ (by omega) (by omega) (by omega), oth _ (by omega) (by omega) (by omega), oth _ (by omega) (by omega) (by omega), oth _ (by omega) (by omega) (by omega)⟩
    have b1 := h1.same sm (oth 68 (by decide) (by decide) (by decide))
    have k65 := oth 65 (by decide) (by decide) (by decide)
    obtain ⟨t', et⟩ : ∃ t', (if jovr G.1.2.2.2.2.1 (A1 67) then G.2.2.2.2.2.1 else jskipT (jfree G.1.2.2.2.2.1 G.1.2.2.2.2.2) 4 G.2.2.2.2.2.1) = t' := ⟨_, rfl⟩
    obtain ⟨q1, q2, q3⟩ := jRGpov (N := N) (ti := v) (ro := G.2.1) (ru := G.2.2.1) (se := G.2.2.2.2.1) b1 h3 ((oth 64 (by decide) (by decide) (by decide)).trans h3') (k65.trans h5) h6 (by rw [k65]; exact ⟨fun z => absurd z v66, fun z => absurd z q⟩) (Or.inr v67) ((oth 68 (by decide) (by decide) (by decide)).trans h10) h10' hv et
    rw [v67] at et q2
    rw [k65] at q2
    rw [q1, et]
    refine ⟨by rw [upd_ne (by decide), v71]; exact q2, (p2.same sm).same (jsm_hi (by decide)), ?_, ?_, ?_, q3⟩
    · rw [upd_ne (by decide), oth 69 (by decide) (by decide) (by decide)]; exact p3
    · rw [upd_ne (by decide), oth 70 (by decide) (by decide) (by decide)]; exact p4
    · rw [upd_ne (by decide), oth 72 (by decide) (by decide) (by decide)]; exact p5
end MA
