/-! ===== shots and blows, by both ===== -/
section SH
variable {N : Nat} {ti : Int32} {G : jGT} {A A1 A2 A3 A4 : Nat → Int32} {d : Nat} {a b : Int32}
/-- behind a turn the player that has it is FREE to play -/
theorem jend_fr {ti go : Int32} {fr : Nat → Int32} {b : Prop} [Decidable b] {q : Nat × Int32} (h4 : q.1 < 4) (hs : ∃ p, p < 4 ∧ ¬ fr p = 0) : ¬ fr (jend ti go fr b q).1 = 0 := by
  unfold jend
  rw [jskip_T]
  by_cases z : b
  · rw [if_pos z]; exact jskipT_fr h4 hs
  · rw [if_neg z]; exact jskipT_fr (jstep_lt ti go q) hs
theorem jRM.gon {B' : jBT} {b b' : Prop} [Decidable b] [Decidable b'] {se : Int64} {c s : Nat} (h : jRM N G A) (hN : N ≤ 1000) (hB : jRB jwT jgF B' A1) (hp : jpos B' A1) (hk : ∀ k, 64 ≤ k → k ≤ 71 → ¬ k = 68 → A1 k = A k) (h68 : A1 68 = nI c) (hc : c ≤ 16 * (N + 1)) (hd : d < 16) (hn : ¬ A1 d = 2) (hb : b ↔ b') (hs : s < 2147483647) (h72 : A1 72 = nI s) (hse : se = lN s) :
    jRM (N + 1) (B', G.2.1, G.2.2.1, G.2.2.2.1, se, (jendB B' G.2.2.2.1 (G.2.2.2.2.2.2.1 + 1) b (G.2.2.2.2.2.1, G.2.2.2.2.2.2.2)).1, G.2.2.2.2.2.2.1 + 1, (jendB B' G.2.2.2.1 (G.2.2.2.2.2.2.1 + 1) b (G.2.2.2.2.2.1, G.2.2.2.2.2.2.2)).2) (mgo A1 (A1 71) G.2.2.2.2.2.1 b') := by
  have k71 := hk 71 (by decide) (by decide) (by decide)
  have k := h.1.gon (b := b) (b' := b') (by omega) hB (fun k z1 z2 => hk k z1 (by omega) (by omega)) h68 hc hd hn hb
  rw [k71]
  have sm : ∀ k, k = 69 ∨ k = 70 ∨ k = 71 ∨ k = 72 → mgo A1 (A 71) G.2.2.2.2.2.1 b' k = A1 k := by
    intro k hk'
    have o1 : ∀ {c : Prop} [Decidable c] (n : Nat) (q : (Nat → Int32) × Nat), (mpas c n q).1 k = q.1 k := by
      intro c _ n
      induction n with
      | zero => intro q; rfl
      | succ n ih =>
        intro q
        unfold mpas
        split
        · rw [ih]
          unfold mnxt
          split
          · rfl
          · exact upd_ne (by omega)
        · rfl
    have o2 : ∀ {c : Prop} [Decidable c] (Q : Nat → Int32) (t : Nat), mpsO c Q t k = Q k := by
      intro c _ Q t
      unfold mpsO
      rw [upd_ne (by omega), o1]
    have o3 : mgo1 A1 (A 71) k = A1 k := mgo1_o (by omega) (by omega)
    unfold mgo
    split
    · rw [o2, o3]
    · rw [o2]
      unfold mnxt
      split
      · exact o3
      · exact (upd_ne (by omega)).trans o3
  have same : ∀ i, i < 16 → jsm A1 (mgo A1 (A 71) G.2.2.2.2.2.1 b') i := by
    intro i hi
    have o0 : ∀ k, k < 64 → mgo A1 (A 71) G.2.2.2.2.2.1 b' k = A1 k := by
      intro k hk'
      have o1 : ∀ {c : Prop} [Decidable c] (n : Nat) (q : (Nat → Int32) × Nat), (mpas c n q).1 k = q.1 k := by
        intro c _ n
        induction n with
        | zero => intro q; rfl
        | succ n ih =>
          intro q
          unfold mpas
          split
          · rw [ih]
            unfold mnxt
            split
            · rfl
            · exact upd_ne (by omega)
          · rfl
      have o2 : ∀ {c : Prop} [Decidable c] (Q : Nat → Int32) (t : Nat), mpsO c Q t k = Q k := by
        intro c _ Q t
        unfold mpsO
        rw [upd_ne (by omega), o1]
      have o3 : mgo1 A1 (A 71) k = A1 k := mgo1_o (by omega) (by omega)
      unfold mgo
      split
      · rw [o2, o3]
      · rw [o2]
        unfold mnxt
        split
        · exact o3
        · exact (upd_ne (by omega)).trans o3
    exact ⟨o0 _ (by omega), o0 _ (by omega), o0 _ (by omega), o0 _ (by omega)⟩
  refine ⟨by rw [sm 71 (by omega), k71]; exact k, hp.same same, ?_, ?_, ?_, fun _ => ?_⟩
  · rw [sm 69 (by omega), hk 69 (by decide) (by decide) (by decide)]; exact h.2.2.1
  · rw [sm 70 (by omega), hk 70 (by decide) (by decide) (by decide)]; exact h.2.2.2.1
  · rw [sm 72 (by omega)]; exact ⟨s, hs, h72, hse⟩
  · have fr : ∃ p, p < 4 ∧ ¬ jfree B'.2.2.2.2.1 B'.2.2.2.2.2 p = 0 := by
      obtain ⟨p, q1, q2⟩ := hB.some4 hd hn
      exact ⟨p, q1, fun z => q2 ((hB.freeOf q1).symm.trans z)⟩
    have lt := jend_lt (ti := G.2.2.2.1) (go := G.2.2.2.2.2.2.1 + 1) (fr := jfree B'.2.2.2.2.1 B'.2.2.2.2.2) (b := b) (q := (G.2.2.2.2.2.1, G.2.2.2.2.2.2.2)) h.1.2.2.1.1
    have f := jend_fr (ti := G.2.2.2.1) (go := G.2.2.2.2.2.2.1 + 1) (fr := jfree B'.2.2.2.2.1 B'.2.2.2.2.2) (b := b) (q := (G.2.2.2.2.2.1, G.2.2.2.2.2.2.2)) h.1.2.2.1.1 fr
    show ¬ mfo (mgo A1 (A 71) G.2.2.2.2.2.1 b') (jend G.2.2.2.1 (G.2.2.2.2.2.2.1 + 1) (jfree B'.2.2.2.2.1 B'.2.2.2.2.2) b (G.2.2.2.2.2.1, G.2.2.2.2.2.2.2)).1 4 = 0
    generalize (jend G.2.2.2.1 (G.2.2.2.2.2.2.1 + 1) (jfree B'.2.2.2.2.1 B'.2.2.2.2.2) b (G.2.2.2.2.2.1, G.2.2.2.2.2.2.2)).1 = t' at lt f
    rw [mfo_o lt same, ← hB.freeOf lt]
    exact f
/-- what a SHOT is, in numbers -/
theorem jshot_n (h : jRM N G A) (hd : d < 16) (hs : jspot a b) (hm : mmay A d G.2.2.2.2.2.1) : ∃ k s, k ≤ 11 ∧ s < 2147483647 ∧ A 72 = nI s ∧ G.2.2.2.2.1 = lN s ∧ jspr G.1.1 G.1.2.1 d a b G.2.1 = nI k ∧ mway (mX A d) (mY A d) a b / 8 + jsz (nI d) - 1 + A 69 = nI k := by
  obtain ⟨s, s1, s2, s3⟩ := h.2.2.2.2.1
  obtain ⟨er, r, r1, r2⟩ := h.2.2.1
  have n2 : ¬ A d = 2 := by
    rcases hm.2.2 with z | z
    · rw [z]; decide
    · rw [z.1]; decide
  obtain ⟨u, v, u1, v1, eu, ev⟩ := jplace h.1.1 h.2.1 hd n2
  obtain ⟨k, k1, k2⟩ := jspr_n (ro := G.2.1) u1 v1 eu ev hs r1 (er.trans r2)
  refine ⟨k, s, k1, s1, s2, s3, k2, ?_⟩
  rw [← k2, ← er, ← (h.2.1 d hd).1, ← (h.2.1 d hd).2, mway_eq]
  rfl
theorem jupd72 (A : Nat → Int32) (v : Int32) : ∀ i, i < 16 → jsm A (upd A 72 v) i := jsm_hi (by decide)
theorem jRM.shot {k s : Nat} {cp : Prop} [Decidable cp] (h : jRM N G A) (hN : N ≤ 1000) (hd : d < 16) (hs : jspot a b) (hm : mmay A d G.2.2.2.2.2.1) (k1 : k ≤ 11) (s1 : s < 2147483647) (s2 : A 72 = nI s) (s3 : G.2.2.2.2.1 = lN s) (k2 : jspr G.1.1 G.1.2.1 d a b G.2.1 = nI k)
    (hA2 : upd (upd A 72 (mdr (A 72))) 72 (mdr (upd A 72 (mdr (A 72)) 72)) = A2) {dx dy : Int32} (hdx : a + (mdr (A 72) - mdr (A 72) / (2 * nI k + 1) * (2 * nI k + 1)) - nI k = dx) (hdy : b + (mdr (upd A 72 (mdr (A 72)) 72) - mdr (upd A 72 (mdr (A 72)) 72) / (2 * nI k + 1) * (2 * nI k + 1)) - nI k = dy) (hcp : cp ↔ jcup dx dy)
    (h3 : (if cp then upd A2 d 2 else mplc A2 d (monm (dx + A2 70 * jsgn (a - mX A d))) (monm (dy + A2 70 * jsgn (b - mY A d)))) = A3) (h4 : (if cp then mgo A3 (A3 71) G.2.2.2.2.2.1 (¬ (1 : Int32) = 0) else mgo A3 (A3 71) G.2.2.2.2.2.1 (¬ (0 : Int32) = 0)) = A4) :
    A3 64 = nI G.2.2.2.2.2.1 ∧ jRM (N + 1) (jshG G d a b) A4 ∧ (jcup (jdx G.1.1 G.1.2.1 d a b G.2.1 G.2.2.2.2.1) (jdy G.1.1 G.1.2.1 d a b G.2.1 G.2.2.2.2.1) ↔ cp) := by
  have l1 := jnx_lt s
  have e1 : mdr (A 72) = nI (jnx s) := by rw [s2, mdr_n s1]
  have e2 : upd A 72 (mdr (A 72)) 72 = nI (jnx s) := by rw [upd_eq, e1]
  have v72 : A2 72 = nI (jnx (jnx s)) := by rw [← hA2, upd_eq, e2, mdr_n l1]
  have oth : ∀ j, ¬ j = 72 → A2 j = A j := fun j z => by rw [← hA2, upd_ne z, upd_ne z]
  have sm : ∀ i, i < 16 → jsm A A2 i := fun i hi => ⟨oth _ (by omega), oth _ (by omega), oth _ (by omega), oth _ (by omega)⟩
  have fx : jdx G.1.1 G.1.2.1 d a b G.2.1 G.2.2.2.2.1 = dx := by
    unfold jdx
    rw [k2, s3, jdraw_n s1 k1, jasub, ← hdx, s2, mdraw_n s1 k1]
  have fy : jdy G.1.1 G.1.2.1 d a b G.2.1 G.2.2.2.2.1 = dy := by
    unfold jdy
    rw [k2, s3, jseed_n s1, jdraw_n l1 k1, jasub, ← hdy, e2, mdraw_n l1 k1]
  have n2 : ¬ A d = 2 := by
    rcases hm.2.2 with z | z
    · rw [z]; decide
    · rw [z.1]; decide
  obtain ⟨c, h68, hc⟩ := h.1.2.2.2.2.2.2.1
  have b2 := h.1.1.same sm (oth 68 (by decide))
  have p2 := h.2.1.same sm
  have c68 : A2 68 = nI c := (oth 68 (by decide)).trans h68
  have seed2 : jseed (jseed G.2.2.2.2.1) = lN (jnx (jnx s)) := by rw [s3, jseed_n s1, jseed_n l1]
  have l2 := jnx_lt (jnx s)
  obtain ⟨e, he, hne, he2⟩ := mnot2 (mover_all hm.1) hd
  have e70 : A2 70 = G.2.2.1 := (oth 70 (by decide)).trans h.2.2.2.1.symm
  have cpi : jcup (jdx G.1.1 G.1.2.1 d a b G.2.1 G.2.2.2.2.1) (jdy G.1.1 G.1.2.1 d a b G.2.1 G.2.2.2.2.1) ↔ cp := by rw [fx, fy]; exact hcp.symm
  have hk3 : ∀ j, 64 ≤ j → j ≤ 72 → ¬ j = 68 → A3 j = A2 j := by
    intro j z1 z2 z3
    rw [← h3]
    split
    · exact upd_ne (by omega)
    · exact mplc_o z1 z3 hd
  have h64 : A3 64 = nI G.2.2.2.2.2.1 := by rw [hk3 64 (by decide) (by decide) (by decide), oth 64 (by decide)]; exact h.1.2.2.1.2
  have hk : ∀ j, 64 ≤ j → j ≤ 71 → ¬ j = 68 → A3 j = A j := fun j z1 z2 z3 => (hk3 j z1 (by omega) z3).trans (oth j (by omega))
  have a72 : A3 72 = nI (jnx (jnx s)) := (hk3 72 (by decide) (by decide) (by decide)).trans v72
  refine ⟨h64, ?_, cpi⟩
  unfold jshG jshq
  rw [seed2]
  by_cases q : cp
  · rw [if_pos q] at h3 h4
    have eb : jshot (G.1.1, G.1.2.1, G.1.2.2.1, G.1.2.2.2.1, G.1.2.2.2.2.1, G.1.2.2.2.2.2) d a b G.2.1 G.2.2.1 G.2.2.2.2.1 = jbringF G.1 d 41 41 := if_pos (cpi.mpr q)
    rw [eb, ← h4]
    refine h.gon hN (A1 := A3) (d := e) (c := c) (s := jnx (jnx s)) (by rw [← h3]; exact b2.cup hd) (by rw [← h3]; exact p2.cup hd) hk (by rw [← h3, upd_ne (by omega)]; exact c68) (by omega) he (by rw [← h3, upd_ne hne, (sm e he).1]; exact he2) ?_ l2 a72 rfl
    exact ⟨fun _ => by decide, fun _ => cpi.mpr q⟩
  · rw [if_neg q] at h3 h4
    have eb : jshot (G.1.1, G.1.2.1, G.1.2.2.1, G.1.2.2.2.1, G.1.2.2.2.2.1, G.1.2.2.2.2.2) d a b G.2.1 G.2.2.1 G.2.2.2.2.1 = jbringF G.1 d (jmat (jdx G.1.1 G.1.2.1 d a b G.2.1 G.2.2.2.2.1 + G.2.2.1 * jsgn (a - G.1.1 d))) (jmat (jdy G.1.1 G.1.2.1 d a b G.2.1 G.2.2.2.2.1 + G.2.2.1 * jsgn (b - G.1.2.1 d))) := if_neg (fun z => q (cpi.mp z))
    rw [fx, fy, (h.2.1 d hd).1, (h.2.1 d hd).2] at eb
    rw [← jmat_eq, ← jmat_eq, e70] at h3
    rw [eb, ← h4]
    have sp := jmat_spot (dx + G.2.2.1 * jsgn (a - mX A d)) (dy + G.2.2.1 * jsgn (b - mY A d))
    refine h.gon hN (A1 := A3) (d := e) (c := c + 1) (s := jnx (jnx s)) (by rw [← h3]; exact b2.spot jGWT hd sp trivial id c68 (by omega)) (by rw [← h3]; exact p2.spot hd sp) hk (by rw [← h3, mplc_68 hd, c68]; exact nI_1 c) (by omega) he (by rw [← h3, (mplc_sm hd he hne).1, (sm e he).1]; exact he2) ?_ l2 a72 rfl
    exact ⟨fun z => absurd (cpi.mp z) q, fun z => absurd rfl z⟩
/-! blows -/
theorem jblow_n {pl : Int32} {c s : Nat} (h1 : jRB jwT jgF G.1 A) (h2 : jpos G.1 A) (s1 : s < 2147483647) (s2 : A 72 = nI s) (s3 : G.2.2.2.2.1 = lN s) (h68 : A 68 = nI c) (hc : c ≤ 100000) : ∀ k, k ≤ 16 →
    jRB jwT jgF (jblow pl G.1 G.2.2.2.2.1 k).1 (mbl A pl k) ∧ jpos (jblow pl G.1 G.2.2.2.2.1 k).1 (mbl A pl k) ∧ (∃ s', s' < 2147483647 ∧ mbl A pl k 72 = nI s' ∧ (jblow pl G.1 G.2.2.2.2.1 k).2 = lN s') ∧ (∃ c', mbl A pl k 68 = nI c' ∧ c' ≤ c + k) ∧ (∀ j, 64 ≤ j → j ≤ 71 → ¬ j = 68 → mbl A pl k j = A j) ∧ (∀ e, e < 16 → mbl A pl k e = 2 → A e = 2)
  | 0, _ => ⟨h1, h2, ⟨s, s1, s2, s3⟩, ⟨c, h68, by omega⟩, fun j _ _ _ => rfl, fun e _ z => z⟩
  | k + 1, hk => by
    obtain ⟨i1, i2, ⟨s', t1, t2, t3⟩, ⟨c', c1, c2⟩, i5, i6⟩ := jblow_n (pl := pl) h1 h2 s1 s2 s3 h68 hc k (by omega)
    unfold jblow mbl
    generalize jblow pl G.1 G.2.2.2.2.1 k = S at i1 i2 t3
    generalize mbl A pl k = Q at i1 i2 t2 c1 i5 i6
    by_cases q : pl &&& jbit k = 0
    · have nq : ¬ (pl >>> (nI k &&& 31)) &&& 1 = 1 := fun z => absurd q ((jts_iff (by omega)).mpr ((jsr1 (by omega)).mp z))
      rw [if_pos q, if_neg nq]
      exact ⟨i1, i2, ⟨s', t1, t2, t3⟩, ⟨c', c1, by omega⟩, i5, i6⟩
    · have pq : (pl >>> (nI k &&& 31)) &&& 1 = 1 := (jsr1 (by omega)).mpr ((jts_iff (by omega)).mp q)
      rw [if_neg q, if_pos pq]
      have hk16 : k < 16 := by omega
      have l1 := jnx_lt s'
      have e1 : mdr (Q 72) = nI (jnx s') := by rw [t2, mdr_n t1]
      have e2 : upd Q 72 (mdr (Q 72)) 72 = nI (jnx s') := by rw [upd_eq, e1]
      have n3 : (3 : Int32) = nI 3 := rfl
      have n7 : (7 : Int32) = 2 * nI 3 + 1 := by decide
      have f1 : mdr7 (Q 72) = nI (jnx s' % (2 * 3 + 1)) := by unfold mdr7; rw [n7, t2, mdraw_n t1 (by decide)]
      have f2 : mdr7 (upd Q 72 (mdr (Q 72)) 72) = nI (jnx (jnx s') % (2 * 3 + 1)) := by unfold mdr7; rw [n7, e2, mdraw_n l1 (by decide)]
      have g1 : S.1.1 k + jdraw S.2 3 = mX Q k + mdr7 (Q 72) - 3 := by
        rw [t3, n3, jdraw_n t1 (by decide), jasub, f1, (i2 k hk16).1]
      have sm1 := jupd72 Q (mdr (Q 72))
      have g2 : S.1.2.1 k + jdraw (jseed S.2) 3 = mY (upd Q 72 (mdr (Q 72))) k + mdr7 (upd Q 72 (mdr (Q 72)) 72) - 3 := by
        rw [t3, n3, jseed_n t1, jdraw_n l1 (by decide), jasub, f2, (i2 k hk16).2, (mX_sm (sm1 k hk16)).2]
      unfold mbl1
      rw [← jmat_eq, ← jmat_eq, ← g1, ← g2]
      generalize hA2 : upd (upd Q 72 (mdr (Q 72))) 72 (mdr (upd Q 72 (mdr (Q 72)) 72)) = A2
      have v72 : A2 72 = nI (jnx (jnx s')) := by rw [← hA2, upd_eq, e2, mdr_n l1]
      have oth : ∀ j, ¬ j = 72 → A2 j = Q j := fun j z => by rw [← hA2, upd_ne z, upd_ne z]
      have sm : ∀ i, i < 16 → jsm Q A2 i := fun i hi => ⟨oth _ (by omega), oth _ (by omega), oth _ (by omega), oth _ (by omega)⟩
      have sp := jmat_spot (S.1.1 k + jdraw S.2 3) (S.1.2.1 k + jdraw (jseed S.2) 3)
      generalize jmat (S.1.1 k + jdraw S.2 3) = x at sp
      generalize jmat (S.1.2.1 k + jdraw (jseed S.2) 3) = y at sp
      have c68 : A2 68 = nI c' := (oth 68 (by decide)).trans c1
      refine ⟨(i1.same sm (oth 68 (by decide))).spot jGWT hk16 sp trivial id c68 (by omega), (i2.same sm).spot hk16 sp, ⟨jnx (jnx s'), jnx_lt _, ?_, ?_⟩, ⟨c' + 1, by rw [mplc_68 hk16, c68]; exact nI_1 c', by omega⟩, fun j z1 z2 z3 => ?_, fun e he z => ?_⟩
      · rw [mplc_o (by decide) (by decide) hk16]; exact v72
      · show jseed (jseed S.2) = _
        rw [t3, jseed_n t1, jseed_n l1]
      · rw [mplc_o z1 z3 hk16, oth j (by omega)]; exact i5 j z1 z2 z3
      · by_cases w : e = k
        · subst w; rw [mplc_d hk16] at z; exact absurd z (by decide)
        · rw [(mplc_sm hk16 he w).1, (sm e he).1] at z; exact i6 e he z
theorem jRM.blow {pl : Int32} (h : jRM N G A) (hN : N ≤ 1000) (hd : d < 16) (hm : mmay A d G.2.2.2.2.2.1) (h2 : mbl A pl 16 = A2) : jRM (N + 1) (jblG G pl) (mgo A2 (A2 71) G.2.2.2.2.2.1 (¬ (0 : Int32) = 0)) := by
  obtain ⟨s, s1, s2, s3⟩ := h.2.2.2.2.1
  obtain ⟨c, h68, hc⟩ := h.1.2.2.2.2.2.2.1
  obtain ⟨i1, i2, ⟨s', t1, t2, t3⟩, ⟨c', c1, c2⟩, i5, i6⟩ := jblow_n (pl := pl) h.1.1 h.2.1 s1 s2 s3 h68 (by omega) 16 (Nat.le_refl _)
  rw [h2] at i1 i2 t2 c1 i5 i6
  have n2 : ¬ A d = 2 := by
    rcases hm.2.2 with z | z
    · rw [z]; decide
    · rw [z.1]; decide
  unfold jblG jgon
  generalize jblow pl G.1 G.2.2.2.2.1 16 = S at i1 i2 t3
  exact h.gon hN i1 i2 i5 c1 (by omega) hd (fun z => n2 (i6 d hd z)) ⟨fun z => z.elim, fun z => absurd rfl z⟩ t1 t2 t3
end SH
