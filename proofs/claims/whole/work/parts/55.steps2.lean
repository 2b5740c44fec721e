/-! ===== a call by both, the rest ===== -/
section SQ
variable {l : Launch} {N : Nat} {C : jCT} {Q : jMT}
theorem s_best (h : jREL N C Q) {a b : Int32} : jStp l N C Q yX5_best cX5_best 4 7 yX6_best cX6_best 3 7 [.int a, .int b] := by
  by_cases ha : 0 ≤ a ∧ a ≤ 3
  · by_cases hb : 0 ≤ b ∧ b ≤ 2
    · obtain ⟨p, hp, rfl⟩ := jplayer ha
      have k := jRb.best h.1.1.1 h.1.2.1 hp (q := C.2.1) (ba := Q.2.1.2.1) 4 (Nat.le_refl 4)
      obtain ⟨q, hq⟩ : ∃ q, jbst C p = q := ⟨_, rfl⟩
      obtain ⟨q', hq'⟩ : ∃ q', mbB Q.2.2.2.1 p Q.2.1.2.1 4 = q' := ⟨_, rfl⟩
      rw [hq'] at k
      have k : jRb (jbst C p) q' := k
      rw [hq] at k
      exact jStp.mk (C.1, q, C.2.2) (Q.1, q', Q.2.2) (k.tell b) h.same (fun E M => c_X5_best hq hp hb) (fun E B hB => c_X6_best hB hq' hp hb)
    · exact jStp.mk C Q rfl h.same (fun E M => c_X5_bestB (Or.inr hb)) (fun E B hB => c_X6_bestB hB (Or.inr hb))
  · exact jStp.mk C Q rfl h.same (fun E M => c_X5_bestB (Or.inl ha)) (fun E B hB => c_X6_bestB hB (Or.inl ha))
theorem jskipT_congr {fr fr' : Nat → Int32} (hf : ∀ p, p < 4 → fr p = fr' p) : ∀ (n t : Nat), t < 4 → jskipT fr n t = jskipT fr' n t
  | 0, _, _ => rfl
  | n + 1, t, ht => by
    unfold jskipT
    rw [hf t ht, jskipT_congr hf n _ (Nat.mod_lt _ (by decide))]
theorem s_ahead (h : jREL N C Q) : jStp l N C Q yX5_ahead cX5_ahead 2 7 yX6_ahead cX6_ahead 3 8 [] := by
  have ho := h.1.1.ov
  by_cases z : mover Q.2.2.2.1
  · exact jStp.mk C Q rfl h.same (fun E M => c_X5_aheadN (ho.mpr z)) (fun E B hB => c_X6_aheadN hB z)
  · have hf : ∀ p, p < 4 → jfree C.1.1.2.2.2.2.1 C.1.1.2.2.2.2.2 p = mfo Q.2.2.2.1 p 4 := fun p hp => h.1.1.1.freeOf hp
    have m4 : (C.1.2.2.2.2.2.1 + 1) % 4 < 4 := Nat.mod_lt _ (by decide)
    obtain ⟨p, ep⟩ : ∃ p, jskipT (jfree C.1.1.2.2.2.2.1 C.1.1.2.2.2.2.2) 4 ((C.1.2.2.2.2.2.1 + 1) % 4) = p := ⟨_, rfl⟩
    have hp4 : p < 4 := by rw [← ep]; exact jskipT_lt _ _ m4
    have ep' : jskipT (fun p => mfo Q.2.2.2.1 p 4) 4 ((C.1.2.2.2.2.2.1 + 1) % 4) = p := by rw [← ep]; exact (jskipT_congr hf 4 _ m4).symm
    have hs : ¬ mfo Q.2.2.2.1 p 4 = 0 := by
      rw [← hf p hp4, ← ep]
      obtain ⟨p0, q1, q2⟩ := h.1.1.1.go z
      exact jskipT_fr m4 ⟨p0, q1, fun y => q2 ((hf p0 q1).symm.trans y)⟩
    have k := jRb.best h.1.1.1 h.1.2.1 h.t4 (q := C.2.1) (ba := Q.2.1.2.1) 4 (Nat.le_refl 4)
    obtain ⟨q, hq⟩ : ∃ q, jbst C C.1.2.2.2.2.2.1 = q := ⟨_, rfl⟩
    obtain ⟨q', hq'⟩ : ∃ q', mbB Q.2.2.2.1 C.1.2.2.2.2.2.1 Q.2.1.2.1 4 = q' := ⟨_, rfl⟩
    rw [hq'] at k
    have k : jRb (jbst C C.1.2.2.2.2.2.1) q' := k
    rw [hq] at k
    have k2 := jRb.best h.1.1.1 h.1.2.1 hp4 (q := q) (ba := q'.2.1) 4 (Nat.le_refl 4)
    obtain ⟨q2, hq2⟩ : ∃ q2, jbst (C.1, q, C.2.2) p = q2 := ⟨_, rfl⟩
    obtain ⟨q2', hq2'⟩ : ∃ q2', mbB Q.2.2.2.1 p q'.2.1 4 = q2' := ⟨_, rfl⟩
    rw [hq2'] at k2
    have k2 : jRb (jbst (C.1, q, C.2.2) p) q2' := k2
    rw [hq2] at k2
    exact jStp.mk (C.1, q2, C.2.2) (Q.1, q2', Q.2.2) (by rw [k.1, k2.1]) h.same (fun E M => c_X5_ahead hq ep hq2 h.t4 hp4 (fun y => z (ho.mp y))) (fun E B hB => c_X6_ahead hB hq' ep' hq2' h.t4 h.t64 hs z)
theorem jREL.row (h : jREL N C Q) {R' : jRT} {rm : Nat} {P rd rx ry : Nat → Int32} (hR : jRR R' rm rd rx ry) : jREL (N + 1) (C.1, C.2.1, R', C.2.2.2) (Q.1, Q.2.1, rm, Q.2.2.2.1, P, Q.2.2.2.2.2.1, rd, rx, ry, Q.2.2.2.2.2.2.2.2.2) :=
  ⟨h.1.mono (Nat.le_succ N), hR, h.2.2.1.mono (Nat.le_succ N), h.2.2.2.1, h.2.2.2.2.mono (Nat.le_succ N)⟩
theorem s_write (h : jREL N C Q) {a b c : Int32} : jStp l N C Q yX5_write cX5_write 4 3 yX6_write cX6_write 4 2 [.int a, .int b, .int c] := by
  have hR := h.2.1
  by_cases ha : 0 ≤ a ∧ a ≤ 15
  · by_cases hm : mmark b c
    · have e4 : C.2.2.1.2.2.2.1 = Q.2.2.1 := hR.1.2.2.2
      have l24 := hR.2.1.1
      obtain ⟨R', eR⟩ : ∃ R', jradd C.2.2.1 a b c = R' := ⟨_, rfl⟩
      have m1 : ∀ (E : jE) (M : List va_E), jMd l E yX5_write cX5_write 4 (some .int) 3 [.ref (E.1 + 0), .int a, .int b, .int c] (jtop E C M) (some (.int (if C.2.2.1.2.2.2.1 < 24 then nI (C.2.2.1.2.2.2.1 + 1) else -3))) (jtop E (C.1, C.2.1, R', C.2.2.2) M) 0 0 := fun E M => by
        rw [← eR]; exact c_X5_write ha (jmark_iff.mpr hm) hR.rok
      by_cases r : Q.2.2.1 < 24
      · have k := hR.write r ha hm
        rw [eR] at k
        refine jStp.mk (C.1, C.2.1, R', C.2.2.2) (Q.1, Q.2.1, Q.2.2.1 + 1, Q.2.2.2.1, Q.2.2.2.2.1, Q.2.2.2.2.2.1, upd Q.2.2.2.2.2.2.1 Q.2.2.1 a, upd Q.2.2.2.2.2.2.2.1 Q.2.2.1 b, upd Q.2.2.2.2.2.2.2.2.1 Q.2.2.1 c, Q.2.2.2.2.2.2.2.2.2) ?_ (h.row k) m1 (fun E B hB => c_X6_write hB ha hm r)
        rw [e4, if_pos r]
      · have e : R' = C.2.2.1 := by rw [← eR]; exact if_neg (by rw [e4]; exact r)
        rw [e] at m1
        refine jStp.mk (C.1, C.2.1, C.2.2.1, C.2.2.2) Q ?_ h.same m1 (fun E B hB => c_X6_writeF hB ha hm (by omega))
        rw [e4, if_neg r]
    · exact jStp.mk C Q rfl h.same (fun E M => c_X5_writeB (Or.inr (fun z => hm (jmark_iff.mp z)))) (fun E B hB => c_X6_writeB hB (Or.inr hm))
  · exact jStp.mk C Q rfl h.same (fun E M => c_X5_writeB (Or.inl ha)) (fun E B hB => c_X6_writeB hB (Or.inl ha))
theorem s_wipe (h : jREL N C Q) : jStp l N C Q yX5_wipe cX5_wipe 1 1 yX6_wipe cX6_wipe 2 0 [] := by
  have k := h.2.1.wipe
  exact jStp.mk (C.1, C.2.1, (C.2.2.1.1, C.2.2.1.2.1, C.2.2.1.2.2.1, 0, C.2.2.1.2.2.2.2.1, C.2.2.1.2.2.2.2.2.1, -4, C.2.2.1.2.2.2.2.2.2.2), C.2.2.2) (Q.1, Q.2.1, 0, Q.2.2.2.1, Q.2.2.2.2.1, Q.2.2.2.2.2.1, Q.2.2.2.2.2.2.1, Q.2.2.2.2.2.2.2.1, Q.2.2.2.2.2.2.2.2.1, Q.2.2.2.2.2.2.2.2.2) (by rw [h.2.1.1.2.2.2]) (h.row k) (fun E M => c_X5_wipe) (fun E B hB => c_X6_wipe hB)
theorem s_wrong (h : jREL N C Q) : jStp l N C Q yX5_wrong cX5_wrong 1 7 yX6_wrong cX6_wrong 1 10 [] := by
  have hR := h.2.1
  have et : C.1.2.2.2.1 = Q.2.2.2.1 71 := h.1.1.2.1
  obtain ⟨f, hf⟩ : ∃ f, jfwA C.2.2.1 C.1.2.2.2.1 = f := ⟨_, rfl⟩
  obtain ⟨S, hS⟩ : ∃ S, mww (jdn Q.2.2.2.2.2.2.1) Q.2.2.2.2.2.2.2.1 Q.2.2.2.2.2.2.2.2.1 (-1) (-1) (Q.2.2.2.1 71) Q.2.2.1 0 (mclr Q.2.2.2.2.1) = S := ⟨_, rfl⟩
  have k := hR.wrong (f := f) h.1.1.2.2.2.2.2.2.2 (by rw [← et]; exact hf) hS
  exact jStp.mk (C.1, C.2.1, (C.2.2.1.1, C.2.2.1.2.1, C.2.2.1.2.2.1, C.2.2.1.2.2.2.1, C.2.2.1.2.2.2.2.1, C.2.2.1.2.2.2.2.2.1, C.2.2.1.2.2.2.2.2.2.1, C.2.2.1.2.2.2.2.2.2.2.1, f.2), C.2.2.2) (Q.1, Q.2.1, Q.2.2.1, Q.2.2.2.1, S.2, Q.2.2.2.2.2.1, Q.2.2.2.2.2.2.1, Q.2.2.2.2.2.2.2.1, Q.2.2.2.2.2.2.2.2.1, Q.2.2.2.2.2.2.2.2.2) k.1 (h.row k.2) (fun E M => c_X5_wrong hf hR.rok) (fun E B hB => c_X6_wrong hB hR.2.1.1 (fun i hi => (hR.2.1.2 i hi).1) hS)
theorem s_canBe (h : jREL N C Q) {a : Int32} : jStp l N C Q yX5_canBe cX5_canBe 3 7 yX6_canBe cX6_canBe 7 10 [.int a] := by
  have hR := h.2.1
  have et : C.1.2.2.2.1 = Q.2.2.2.1 71 := h.1.1.2.1
  by_cases ha : 0 ≤ a ∧ a ≤ 1
  · have h01 : a = 0 ∨ a = 1 := by
      obtain ⟨p, hp, rfl⟩ := nI_of2 (M := 1) (n := 1) (by decide) (Int32.not_lt.mpr ha.1) ha.2
      have : p = 0 ∨ p = 1 := by omega
      rcases this with rfl | rfl
      · exact Or.inl rfl
      · exact Or.inr rfl
    rcases jgap_or hR.2.1 with ⟨g1, g2⟩ | ⟨gp, g1, g2, g3⟩
    · exact jStp.mk C Q rfl h.same (fun E M => c_X5_canBeN h01 hR.rok (by rw [hR.1.2.1, hR.1.2.2.2]; exact g1)) (fun E B hB => c_X6_canBeN hB hR.2.1.1 ha g2)
    · obtain ⟨R', hR'⟩ : ∃ R', jrfp C.2.2.1 gp C.1.2.2.2.1 = R' := ⟨_, rfl⟩
      obtain ⟨S, hS⟩ : ∃ S, mcbx (jdn Q.2.2.2.2.2.2.1) Q.2.2.2.2.2.2.2.1 Q.2.2.2.2.2.2.2.2.1 (Q.2.2.2.1 71) Q.2.2.1 (0, -4, Q.2.2.2.2.1) 42 = S := ⟨_, rfl⟩
      have k := hR.can (R' := R') h.1.1.2.2.2.2.2.2.2 g2 (by rw [← et]; exact hR') hS
      exact jStp.mk (C.1, C.2.1, R', C.2.2.2) (Q.1, Q.2.1, Q.2.2.1, Q.2.2.2.1, S.2.2, Q.2.2.2.2.2.1, Q.2.2.2.2.2.2.1, Q.2.2.2.2.2.2.2.1, Q.2.2.2.2.2.2.2.2.1, Q.2.2.2.2.2.2.2.2.2) (by rw [k.1, k.2.1]) (h.row k.2.2) (fun E M => c_X5_canBe h01 hR.rok (by rw [hR.1.2.1, hR.1.2.2.2]; exact g1) (by rw [hR.1.2.2.2]; exact g2.1) hR') (fun E B hB => c_X6_canBe hB hR.2.1.1 (fun i hi => (hR.2.1.2 i hi).1) ha g3 hS)
  · exact jStp.mk C Q rfl h.same (fun E M => c_X5_canBeB (fun z => ha (by rw [z]; decide)) (fun z => ha (by rw [z]; decide))) (fun E B hB => c_X6_canBeB hB ha)
theorem s_seen (h : jREL N C Q) (hN : N ≤ 900) {a b c e f g i : Int32} : jStp l N C Q yX5_seen cX5_seen 9 2 yX6_seen cX6_seen 9 2 [.int a, .int b, .int c, .int e, .int f, .int g, .int i] := by
  by_cases ha : (0 ≤ a ∧ a ≤ 3) ∧ jspot b c ∧ jspot e f ∧ jspot g i
  · obtain ⟨a1, a2, a3, a4⟩ := ha
    obtain ⟨p, hp, rfl⟩ := jplayer a1
    obtain ⟨kd, k1, k2, k3⟩ := jkind a2 a3
    obtain ⟨n, n1, n2, n3⟩ := jofs_n a3 a4
    have hs := h.2.2.1
    have fu := hs.full hN hp
    have q := hs.seen hN hp k1 n1
    refine jStp.mk (C.1, C.2.1, C.2.2.1, jsad C.2.2.2.1 p kd (jofs e f g i), C.2.2.2.2) (Q.1, Q.2.1, Q.2.2.1, Q.2.2.2.1, Q.2.2.2.2.1, Q.2.2.2.2.2.1, Q.2.2.2.2.2.2.1, Q.2.2.2.2.2.2.2.1, Q.2.2.2.2.2.2.2.2.1, upd Q.2.2.2.2.2.2.2.2.2.1 (5 * p + kd) (Q.2.2.2.2.2.2.2.2.2.1 (5 * p + kd) + 1), upd Q.2.2.2.2.2.2.2.2.2.2 (5 * p + kd) (Q.2.2.2.2.2.2.2.2.2.2 (5 * p + kd) + (msiz (g - e) + msiz (i - f)))) ?_ ?_ (fun E M => c_X5_seen hp a2 a3 a4 k1 k2) (fun E B hB => c_X6_seen hB hp a2 a3 a4 fu.2 k1 k3)
    · rw [if_pos fu.1]; exact q.1
    · rw [n2, n3]
      exact ⟨h.1.mono (Nat.le_succ N), h.2.1, q.2, h.2.2.2.1, h.2.2.2.2.mono (Nat.le_succ N)⟩
  · exact jStp.mk C Q rfl h.same (fun E M => c_X5_seenB (j := 0) ha) (fun E B hB => c_X6_seenB hB ha)
theorem s_scatter (h : jREL N C Q) (hN : N ≤ 900) {a b c : Int32} : jStp l N C Q yX5_scatter cX5_scatter 4 2 yX6_scatter cX6_scatter 9 2 [.int a, .int b, .int c] := by
  by_cases ha : (0 ≤ a ∧ a ≤ 3) ∧ (0 ≤ b ∧ b ≤ 4) ∧ (0 ≤ c ∧ c ≤ 2)
  · obtain ⟨a1, a2, a3⟩ := ha
    obtain ⟨p, hp, rfl⟩ := jplayer a1
    obtain ⟨k, hk, rfl⟩ := nI_of2 (M := 4) (n := 4) (by decide) (Int32.not_lt.mpr a2.1) a2.2
    have hk5 : k < 5 := by omega
    have hs := h.2.2.1
    obtain ⟨u, w, u1, u2, w1, w2⟩ := hs.2.2.2 (5 * p + k) (by omega)
    have m : p * 5 + k = 5 * p + k := by omega
    have e1 : C.2.2.2.1.1 (p * 5 + k) = nI u := by rw [m, hs.1]; exact u1
    have e2 : C.2.2.2.1.2.1 (p * 5 + k) = nI w := by rw [m, hs.2.1]; exact w1
    by_cases z : u = 0
    · subst z
      refine jStp.mk C Q ?_ h.same (fun E M => c_X5_scatter hp hk5 a3) (fun E B hB => c_X6_scatterZ hB hp hk5 a3 u1)
      unfold jtel
      rw [e1, e2]
      by_cases y : c = 2
      · rw [if_pos y, if_pos y]; rfl
      · rw [if_neg y, if_neg y]; exact if_pos (Or.inl rfl)
    · obtain ⟨gg, hg⟩ : ∃ gg, jgcd 100 (nI w) (nI u) = gg := ⟨_, rfl⟩
      have g0 : ¬ gg = 0 := by rw [← hg]; exact jgcd_ne2 (n := 99) (by omega) (by omega) (by omega)
      have gz : mgb 100 (nI w) (nI u) = 0 := mgb_n 50 w u (by omega) (by omega) (by omega)
      have u0 : ¬ nI u = 0 := nI_ne0 (by omega) (by omega)
      refine jStp.mk C Q ?_ h.same (fun E M => c_X5_scatter hp hk5 a3) (fun E B hB => c_X6_scatter hB hp hk5 a3 u1 w1 hg gz g0)
      unfold jtel
      rw [e1, e2, hg, if_neg u0]
      by_cases y : c = 2
      · rw [if_pos y, if_pos y]
      · rw [if_neg y, if_neg y]
        exact if_neg (fun x => x.elim u0 g0)
  · exact jStp.mk C Q rfl h.same (fun E M => c_X5_scatterB ha) (fun E B hB => c_X6_scatterB hB ha)
theorem s_keep (h : jREL N C Q) : jStp l N C Q yX5_keep cX5_keep 1 3 yX6_keep cX6_keep 2 0 [] := by
  have ek := h.2.2.2.1
  have hK := h.2.2.2.2
  by_cases z : Q.1 < 3
  · obtain ⟨K', hK'⟩ : ∃ K', jkset C.2.2.2.2.1 C.2.2.2.2.2 C.1 = K' := ⟨_, rfl⟩
    have q := hK.keep z h.1
    rw [← ek, hK', ek] at q
    refine jStp.mk (C.1, C.2.1, C.2.2.1, C.2.2.2.1, K', C.2.2.2.2.2 + 1) (Q.1 + 1, Q.2.1, Q.2.2.1, Q.2.2.2.1, Q.2.2.2.2.1, mkp Q.2.2.2.2.2.1 Q.2.2.2.1 (128 * Q.1) 128, Q.2.2.2.2.2.2) (by rw [ek]) ?_ (fun E M => c_X5_keep1 hK' (by rw [ek]; exact z)) (fun E B hB => c_X6_keep hB z)
    exact ⟨h.1.mono (Nat.le_succ N), h.2.1, h.2.2.1.mono (Nat.le_succ N), congrArg (· + 1) ek, q.mono (Nat.le_succ N)⟩
  · have e3 : Q.1 = 3 := by have := hK.1; omega
    exact jStp.mk C Q rfl h.same (fun E M => c_X5_keepF1 (by rw [ek]; exact z) (by rw [ek]; exact hK.1)) (fun E B hB => c_X6_keepF hB e3)
theorem s_back (h : jREL N C Q) : jStp l N C Q yX5_back cX5_back 1 3 yX6_back cX6_back 2 0 [] := by
  have ek := h.2.2.2.1
  have hK := h.2.2.2.2
  by_cases z : Q.1 = 0
  · exact jStp.mk C Q rfl h.same (fun E M => c_X5_backN (by rw [ek]; exact z)) (fun E B hB => c_X6_backN hB z)
  · obtain ⟨n, hn⟩ : ∃ n, Q.1 = n + 1 := ⟨Q.1 - 1, by omega⟩
    have l3 := hK.1
    rw [hn] at hK
    obtain ⟨G', hG'⟩ : ∃ G', jkget C.2.2.2.2.1 n = G' := ⟨_, rfl⟩
    have q := hK.back (A := Q.2.2.2.1)
    rw [hG'] at q
    refine jStp.mk (G', C.2.1, C.2.2.1, C.2.2.2.1, C.2.2.2.2.1, n) (n, Q.2.1, Q.2.2.1, jfil (fun j => Q.2.2.2.2.2.1 (128 * n + j)) Q.2.2.2.1 128, Q.2.2.2.2) rfl ?_ (fun E M => c_X5_back (ek.trans hn) (by omega) hG') (fun E B hB => c_X6_back hB hn (by omega))
    exact ⟨q.1.mono (Nat.le_succ N), h.2.1, h.2.2.1.mono (Nat.le_succ N), rfl, q.2.mono (Nat.le_succ N)⟩
theorem s_count (h : jREL N C Q) {w : Int32} : jStp l N C Q yX5_count cX5_count 3 1 yX6_count cX6_count 4 6 [.int w] := by
  have hb := h.1.1.1
  by_cases w0 : w = 0
  · subst w0; exact jStp.mk C Q (jcount0 hb) h.same (fun E M => c_X5_count0) (fun E B hB => c_X6_countW hB (by decide))
  by_cases w1 : w = 1
  · subst w1; exact jStp.mk C Q (jcount1 hb) h.same (fun E M => c_X5_count1) (fun E B hB => c_X6_countW hB (by decide))
  by_cases w2 : w = 2
  · subst w2; exact jStp.mk C Q (jcount2 hb) h.same (fun E M => c_X5_count2) (fun E B hB => c_X6_countW hB (by decide))
  by_cases w3 : w = 3
  · subst w3; exact jStp.mk C Q (by rw [h.2.1.1.2.2.2]) h.same (fun E M => c_X5_count3) (fun E B hB => c_X6_count3 hB)
  by_cases w4 : w = 4
  · subst w4; exact jStp.mk C Q (by rw [h.2.2.2.1]) h.same (fun E M => c_X5_count4) (fun E B hB => c_X6_count4 hB)
  by_cases w5 : w = 5
  · subst w5; exact jStp.mk C Q (jcount5 hb) h.same (fun E M => c_X5_count5) (fun E B hB => c_X6_count5 hB)
  refine jStp.mk C Q rfl h.same (fun E M => c_X5_countD w0 w1 w2 w3 w4 w5) (fun E B hB => c_X6_countB hB ?_)
  intro z
  obtain ⟨k, hk, rfl⟩ := nI_of2 (M := 5) (n := 5) (by decide) (Int32.not_lt.mpr z.1) z.2
  have : k = 0 ∨ k = 1 ∨ k = 2 ∨ k = 3 ∨ k = 4 ∨ k = 5 := by omega
  rcases this with rfl | rfl | rfl | rfl | rfl | rfl
  · exact w0 rfl
  · exact w1 rfl
  · exact w2 rfl
  · exact w3 rfl
  · exact w4 rfl
  · exact w5 rfl
end SQ
