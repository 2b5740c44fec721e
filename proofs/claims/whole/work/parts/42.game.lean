/-! ===== a game of the one beside the other's board ===== -/
def jRG (wr : Int32 → Int32 → Prop) (gh : Nat → Int32 → Int32 → Prop) (N : Nat) (ti : Int32) (G : jGT) (A : Nat → Int32) : Prop :=
  jRB wr gh G.1 A ∧ G.2.2.2.1 = ti ∧ (G.2.2.2.2.2.1 < 4 ∧ A 64 = nI G.2.2.2.2.2.1) ∧ (G.2.2.2.2.2.2.1 = A 65 ∧ ∃ g, A 65 = nI g ∧ g ≤ N) ∧ (mcome A ↔ ti ≤ A 65) ∧ (G.2.2.2.2.2.2.2 = A 67 ∧ (mcome A ∨ A 67 = 0)) ∧ (∃ c, A 68 = nI c ∧ c ≤ 16 * N) ∧ 10 ≤ ti
theorem mgo_eq {A : Nat → Int32} {ti : Int32} {t : Nat} {b : Prop} [Decidable b] {fr : Nat → Int32} (ht : t < 4) (hc : mcome (mgo1 A ti) ↔ ti ≤ A 65 + 1) (hf : ∀ p, p < 4 → fr p = mfo (mgo1 A ti) p 4) (h67 : mgo1 A ti 67 = A 67) (hs : ∃ p, p < 4 ∧ ¬ fr p = 0) : mgo A ti t b = upd (upd (mgo1 A ti) 67 (jend ti (A 65 + 1) fr b (t, A 67)).2) 64 (nI (jend ti (A 65 + 1) fr b (t, A 67)).1) := by
  have e0 : upd (mgo1 A ti) 67 (A 67) = mgo1 A ti := upd_id h67.symm
  have c1 : ¬ (1 : Int32) = 0 := by decide
  unfold mgo jend
  by_cases q : b
  · rw [if_pos q, if_pos q, jskip_34 ht hs]
    unfold mpsO
    have k := mpas_skip hc c1 hf 3 t (A 67) ht
    rw [e0] at k
    rw [k]
  · rw [if_neg q, if_neg q, jskip_34 (jstep_lt ti (A 65 + 1) (t, A 67)) hs]
    unfold mpsO
    have k := mnxt_step (r := A 67) ht hc c1
    rw [e0] at k
    rw [k]
    show upd (mpas (¬ (1 : Int32) = 0) 3 (upd (mgo1 A ti) 67 (jstep ti (A 65 + 1) (t, A 67)).2, (jstep ti (A 65 + 1) (t, A 67)).1)).1 64 (nI (mpas (¬ (1 : Int32) = 0) 3 (upd (mgo1 A ti) 67 (jstep ti (A 65 + 1) (t, A 67)).2, (jstep ti (A 65 + 1) (t, A 67)).1)).2) = _
    rw [mpas_skip hc c1 hf 3 _ _ (jstep_lt ti (A 65 + 1) (t, A 67))]
theorem mgo1_o {A : Nat → Int32} {ti : Int32} {k : Nat} (h5 : ¬ k = 65) (h6 : ¬ k = 66) : mgo1 A ti k = A k := by
  unfold mgo1
  split
  · exact upd_ne h5
  · rw [upd_ne h6, upd_ne h5]
theorem mgo1_65 {A : Nat → Int32} {ti : Int32} : mgo1 A ti 65 = A 65 + 1 := by
  unfold mgo1
  split
  · exact upd_eq
  · rw [upd_ne (by decide), upd_eq]
theorem mgo1_come {A : Nat → Int32} {ti : Int32} {g : Nat} (hg : A 65 = nI g) (hb : g + 1 < 2 ^ 31) (hc : mcome A ↔ ti ≤ A 65) : mcome (mgo1 A ti) ↔ ti ≤ A 65 + 1 := by
  have hl : A 65 < A 65 + 1 := by rw [hg]; exact nI_lt1 hb
  unfold mgo1
  by_cases q : A 65 + 1 < ti
  · rw [if_pos q, mcome, upd_ne (by decide)]
    constructor
    · intro z; exact absurd (Int32.lt_trans hl q) (Int32.not_lt.mpr (hc.mp z))
    · intro z; exact absurd q (Int32.not_lt.mpr z)
  · rw [if_neg q, mcome, upd_eq]
    exact ⟨fun _ => Int32.not_lt.mp q, fun _ => rfl⟩
section GR
variable {wr : Int32 → Int32 → Prop} {gh : Nat → Int32 → Int32 → Prop} {N : Nat} {ti : Int32} {G : jGT} {A A1 : Nat → Int32} {d : Nat}
theorem jRG.may (h : jRG wr gh N ti G A) (hd : d < 16) : jmay G d ↔ mmay A d G.2.2.2.2.2.1 := by
  have ho := h.1.over h.2.2.2.2.2.1.2
  rw [← h.2.2.2.2.2.1.1] at ho
  unfold jmay mmay
  rw [h.1.free hd, ho]
  constructor
  · rintro ⟨q1, q2, q3⟩; exact ⟨q3, q1, q2⟩
  · rintro ⟨q1, q2, q3⟩; exact ⟨q2, q3, q1⟩
/-- none but the shooter can be all in -/
theorem mnot2 (h : ∀ p, p < 4 → ¬ mall A p) (hd : d < 16) : ∃ e, e < 16 ∧ ¬ e = d ∧ ¬ A e = 2 := by
  have hp : (d + 1) % 4 < 4 := by omega
  refine Classical.byContradiction fun q => h _ hp ?_
  have all : ∀ e, e < 16 → ¬ e = d → A e = 2 := fun e h1 h2 => Classical.byContradiction (fun y => q ⟨e, h1, h2, y⟩)
  exact ⟨all _ (by omega) (by omega), all _ (by omega) (by omega), all _ (by omega) (by omega), all _ (by omega) (by omega)⟩
theorem mover_all (h : ¬ mover A) : ∀ p, p < 4 → ¬ mall A p := fun p hp z => h (Or.inl ((mis_iff 4).mpr (Or.inr ⟨p, hp, z⟩)))
theorem jRG.gon {B' : jBT} {b b' : Prop} [Decidable b] [Decidable b'] (h : jRG wr gh N ti G A) (hN : N ≤ 100000) (hB : jRB wr gh B' A1) (hk : ∀ k, 64 ≤ k → k ≤ 67 → A1 k = A k) {c : Nat} (h68 : A1 68 = nI c) (hc : c ≤ 16 * (N + 1)) (hd : d < 16) (hn : ¬ A1 d = 2) (hb : b ↔ b') : jRG wr gh (N + 1) ti (jgon G B' b) (mgo A1 ti G.2.2.2.2.2.1 b') := by
  obtain ⟨h1, h2, ⟨h3, h3'⟩, ⟨h4, g, h5, h6⟩, h7, ⟨h8, h9⟩, h10, h11⟩ := h
  have k64 := hk 64 (by decide) (by decide)
  have k65 := hk 65 (by decide) (by decide)
  have k66 := hk 66 (by decide) (by decide)
  have k67 := hk 67 (by decide) (by decide)
  have hc1 : mcome A1 ↔ ti ≤ A1 65 := by rw [mcome, k66, k65]; exact h7
  have hcm : mcome (mgo1 A1 ti) ↔ ti ≤ A1 65 + 1 := mgo1_come (g := g) (k65.trans h5) (by omega) hc1
  have sm : ∀ i, i < 16 → jsm A1 (mgo1 A1 ti) i := fun i hi => ⟨mgo1_o (by omega) (by omega), mgo1_o (by omega) (by omega), mgo1_o (by omega) (by omega), mgo1_o (by omega) (by omega)⟩
  have hf : ∀ p, p < 4 → jfree B'.2.2.2.2.1 B'.2.2.2.2.2 p = mfo (mgo1 A1 ti) p 4 := fun p hp => (hB.freeOf hp).trans (mfo_o hp sm).symm
  have hs : ∃ p, p < 4 ∧ ¬ jfree B'.2.2.2.2.1 B'.2.2.2.2.2 p = 0 := by
    obtain ⟨p, q1, q2⟩ := hB.some4 hd hn
    exact ⟨p, q1, fun z => q2 ((hB.freeOf q1).symm.trans z)⟩
  have e1 : mgo A1 ti G.2.2.2.2.2.1 b' = _ := mgo_eq (b := b') h3 hcm hf (mgo1_o (by decide) (by decide)) hs
  have hgo : jgon G B' b = (B', G.2.1, G.2.2.1, ti, G.2.2.2.2.1, (jend ti (A1 65 + 1) (jfree B'.2.2.2.2.1 B'.2.2.2.2.2) b' (G.2.2.2.2.2.1, A1 67)).1, A1 65 + 1, (jend ti (A1 65 + 1) (jfree B'.2.2.2.2.1 B'.2.2.2.2.2) b' (G.2.2.2.2.2.1, A1 67)).2) := by
    unfold jgon jendB
    rw [h2, h4, h8, ← k65, ← k67, jend_congr hb]
  have hlt : (jend ti (A1 65 + 1) (jfree B'.2.2.2.2.1 B'.2.2.2.2.2) b' (G.2.2.2.2.2.1, A1 67)).1 < 4 := jend_lt h3
  have hr : ¬ ti ≤ A1 65 + 1 → (jend ti (A1 65 + 1) (jfree B'.2.2.2.2.1 B'.2.2.2.2.2) b' (G.2.2.2.2.2.1, A1 67)).2 = A1 67 := by
    intro z
    unfold jend
    rw [jskip_r z]
    split
    · rfl
    · exact if_neg (fun y => z y.2)
  rw [e1, hgo]
  generalize jend ti (A1 65 + 1) (jfree B'.2.2.2.2.1 B'.2.2.2.2.2) b' (G.2.2.2.2.2.1, A1 67) = q at hlt hr ⊢
  have v64 : upd (upd (mgo1 A1 ti) 67 q.2) 64 (nI q.1) 64 = nI q.1 := upd_eq
  have v65 : upd (upd (mgo1 A1 ti) 67 q.2) 64 (nI q.1) 65 = A1 65 + 1 := by rw [upd_ne (by decide), upd_ne (by decide), mgo1_65]
  have v66 : upd (upd (mgo1 A1 ti) 67 q.2) 64 (nI q.1) 66 = mgo1 A1 ti 66 := by rw [upd_ne (by decide), upd_ne (by decide)]
  have v67 : upd (upd (mgo1 A1 ti) 67 q.2) 64 (nI q.1) 67 = q.2 := by rw [upd_ne (by decide), upd_eq]
  have v68 : upd (upd (mgo1 A1 ti) 67 q.2) 64 (nI q.1) 68 = A1 68 := by rw [upd_ne (by decide), upd_ne (by decide), mgo1_o (by decide) (by decide)]
  have sm2 := jsm_tr (jsm_tr sm (jsm_hi (k := 67) (v := q.2) (by decide))) (jsm_hi (k := 64) (v := nI q.1) (by decide))
  refine ⟨hB.same sm2 v68, rfl, ⟨hlt, v64⟩, ⟨v65.symm, g + 1, ?_, by omega⟩, ?_, ⟨v67.symm, ?_⟩, ⟨c, v68.trans h68, hc⟩, h11⟩
  · rw [v65, k65, h5]; exact nI_add g 1
  · rw [mcome, v66, v65]; exact hcm
  · by_cases z : ti ≤ A1 65 + 1
    · exact Or.inl (by rw [mcome, v66]; exact hcm.mpr z)
    · right
      rw [v67, hr z, k67]
      rcases h9 with y | y
      · exfalso
        have hl : A 65 < A 65 + 1 := by rw [h5]; exact nI_lt1 (by omega)
        rw [k65] at z
        exact z (Int32.le_trans (h7.mp y) (Int32.le_of_lt hl))
      · exact y
/-- the one's move, the other's -/
def jMv (wr : Int32 → Int32 → Prop) (gh : Nat → Int32 → Int32 → Prop) (d : Nat) (a b a' b' : Int32) : Prop :=
  (jspot a b ∧ wr a b ∧ ¬ gh d a b ∧ a' = a ∧ b' = b) ∨ (a = 41 ∧ a' = 41 ∧ b' = 41) ∨ (a = -1 ∧ gh d a' b' ∧ ¬ (a' = 41 ∧ b' = 41))
theorem jRG.fol {a b a' b' : Int32} (h : jRG wr gh N ti G A) (hw : jGW wr gh) (hN : N ≤ 100000) (hd : d < 16) (hv : jMv wr gh d a b a' b') (hm : jmay G d) : jRG wr gh (N + 1) ti (jfol G d a b) (mfol A ti d a' b') := by
  have htu : mtu A = G.2.2.2.2.2.1 := by
    show (A 64).toNatClampNeg = _
    rw [h.2.2.1.2]; exact nI_clamp (by have := h.2.2.1.1; omega)
  obtain ⟨e, he, hne, he2⟩ := mnot2 (mover_all ((h.may hd).mp hm).1) hd
  obtain ⟨c, h68, hc⟩ := h.2.2.2.2.2.2.1
  unfold jfol mfol
  rw [htu]
  rcases hv with ⟨hs, hr, hg, rfl, rfl⟩ | ⟨rfl, rfl, rfl⟩ | ⟨rfl, hg, hnc⟩
  · have hn := jspot_ne hs
    have hnc : ¬ (a' = 41 ∧ b' = 41) := fun z => hn.2 z.1
    rw [show mfl1 A d a' b' = mplc A d a' b' from if_neg hnc]
    refine h.gon hN (h.1.spot hw hd hs hr hg h68 (by omega)) (fun k h1 h2 => mplc_o h1 (by omega) hd) (c := c + 1) (by rw [mplc_68 hd, h68]; exact nI_add c 1) (by omega) he (by rw [(mplc_sm hd he hne).1]; exact he2) ?_
    rw [jB01_neg hnc]
    exact ⟨fun z => absurd z hn.2, fun z => absurd rfl z⟩
  · rw [show mfl1 A d 41 41 = upd A d 2 from if_pos ⟨rfl, rfl⟩]
    refine h.gon hN (h.1.cup hd) (fun k h1 h2 => upd_ne (by omega)) (c := c) (by rw [upd_ne (by omega)]; exact h68) (by omega) he (by rw [upd_ne hne]; exact he2) ?_
    rw [jB01_pos ⟨rfl, rfl⟩]
    exact ⟨fun _ => by decide, fun _ => rfl⟩
  · rw [show mfl1 A d a' b' = mplc A d a' b' from if_neg hnc]
    refine h.gon hN (h.1.ghost hw hd hg h68 (by omega)) (fun k h1 h2 => mplc_o h1 (by omega) hd) (c := c + 1) (by rw [mplc_68 hd, h68]; exact nI_add c 1) (by omega) he (by rw [(mplc_sm hd he hne).1]; exact he2) ?_
    rw [jB01_neg hnc]
    exact ⟨fun z => absurd z (by decide), fun z => absurd rfl z⟩
theorem jRG.tu (h : jRG wr gh N ti G A) : mtu A = G.2.2.2.2.2.1 := by
  show (A 64).toNatClampNeg = _
  rw [h.2.2.1.2]; exact nI_clamp (by have := h.2.2.1.1; omega)
/-- a ROW followed by both -/
theorem jRG.row {dn : Nat → Nat} {rx ry cx cy : Nat → Int32} {gx gy : Int32} (hw : jGW wr gh) : ∀ (n i N : Nat) (G : jGT) (A : Nat → Int32), jRG wr gh N ti G A → N + n ≤ 100000 → (∀ j, i ≤ j → j < i + n → dn j < 16 ∧ jMv wr gh (dn j) (cx j) (cy j) (mgx rx ry gx rx j) (mgx rx ry gy ry j)) → (jfw dn cx cy n i G).1 = (mww dn rx ry gx gy ti n i A).1 ∧ ∃ N', N' ≤ N + n ∧ jRG wr gh N' ti (jfw dn cx cy n i G).2 (mww dn rx ry gx gy ti n i A).2
  | 0, i, N, G, A, h, _, _ => ⟨rfl, N, Nat.le_refl _, h⟩
  | n + 1, i, N, G, A, h, hN, hv => by
    have hi := hv i (Nat.le_refl i) (by omega)
    have hm := h.may hi.1
    unfold jfw mww
    rw [h.tu]
    by_cases q : jmay G (dn i)
    · rw [if_pos q, if_pos (hm.mp q)]
      obtain ⟨r1, N', r2, r3⟩ := jRG.row hw n (i + 1) (N + 1) _ _ (h.fol hw (by omega) hi.1 hi.2 q) (by omega) (fun j h1 h2 => hv j (by omega) (by omega))
      exact ⟨r1, N', by omega, r3⟩
    · rw [if_neg q, if_neg (fun z => q (hm.mpr z))]
      exact ⟨rfl, N, by omega, h⟩
end GR
