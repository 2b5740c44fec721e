/-! ===== the places that a shot with a GAP can have had ===== -/
section FW
variable {dn : Nat → Nat} {cx cy rx ry : Nat → Int32}
theorem jfw_congr : ∀ (n i : Nat) (G : jGT), (∀ j, i ≤ j → j < i + n → cx j = rx j ∧ cy j = ry j) → jfw dn cx cy n i G = jfw dn rx ry n i G
  | 0, _, _, _ => rfl
  | n + 1, i, G, h => by
    unfold jfw
    have hi := h i (Nat.le_refl i) (by omega)
    rw [hi.1, hi.2]
    split
    · exact jfw_congr n (i + 1) _ (fun j h1 h2 => h j (by omega) (by omega))
    · rfl
theorem jfw_ok : ∀ (n1 n2 i : Nat) (G : jGT), i + n1 < 100 → (jfw dn cx cy n1 i G).1 = -4 → jfw dn cx cy (n1 + n2) i G = jfw dn cx cy n2 (i + n1) (jfw dn cx cy n1 i G).2
  | 0, n2, i, G, _, _ => by rw [Nat.zero_add]; rfl
  | n1 + 1, n2, i, G, hi, h => by
    rw [show n1 + 1 + n2 = (n1 + n2) + 1 by omega]
    by_cases q : jmay G (dn i)
    · have e1 : jfw dn cx cy (n1 + 1) i G = jfw dn cx cy n1 (i + 1) (jfol G (dn i) (cx i) (cy i)) := if_pos q
      have e2 : jfw dn cx cy (n1 + n2 + 1) i G = jfw dn cx cy (n1 + n2) (i + 1) (jfol G (dn i) (cx i) (cy i)) := if_pos q
      rw [e1] at h
      rw [e2, e1, jfw_ok n1 n2 (i + 1) _ (by omega) h, show i + 1 + n1 = i + (n1 + 1) by omega]
    · have e1 : jfw dn cx cy (n1 + 1) i G = (nI i, G) := if_neg q
      rw [e1] at h
      exact absurd h (jneg4 (by omega))
theorem jfw_no : ∀ (n1 n2 i : Nat) (G : jGT), ¬ (jfw dn cx cy n1 i G).1 = -4 → jfw dn cx cy (n1 + n2) i G = jfw dn cx cy n1 i G
  | 0, n2, i, G, h => absurd rfl h
  | n1 + 1, n2, i, G, h => by
    rw [show n1 + 1 + n2 = (n1 + n2) + 1 by omega]
    by_cases q : jmay G (dn i)
    · have e1 : jfw dn cx cy (n1 + 1) i G = jfw dn cx cy n1 (i + 1) (jfol G (dn i) (cx i) (cy i)) := if_pos q
      have e2 : jfw dn cx cy (n1 + n2 + 1) i G = jfw dn cx cy (n1 + n2) (i + 1) (jfol G (dn i) (cx i) (cy i)) := if_pos q
      rw [e1] at h
      rw [e2, e1, jfw_no n1 n2 (i + 1) _ h]
    · exact (show jfw dn cx cy (n1 + n2 + 1) i G = (nI i, G) from if_neg q).trans (show jfw dn cx cy (n1 + 1) i G = (nI i, G) from if_neg q).symm
/-- a ROW with its gap filled: the shots ahead, the gap's, those behind -/
theorem jfw_gap {rm gp : Nat} {G : jGT} {a b : Int32} (hr : rm ≤ 24) (hg : gp < rm) (hc : ∀ j, j < rm → ¬ j = gp → cx j = rx j ∧ cy j = ry j) (ha : cx gp = a) (hb : cy gp = b) :
    ((jfw dn cx cy rm 0 G).1 = -4 ↔ (jfw dn rx ry gp 0 G).1 = -4 ∧ jcc dn rx ry rm gp (jfw dn rx ry gp 0 G).2 a b) ∧ ((jfw dn rx ry gp 0 G).1 = -4 → (jfw dn cx cy rm 0 G).2 = jcT dn rx ry rm gp (jfw dn rx ry gp 0 G).2 a b) := by
  have e0 : jfw dn cx cy gp 0 G = jfw dn rx ry gp 0 G := jfw_congr gp 0 G (fun j _ h2 => hc j (by omega) (by omega))
  by_cases q : (jfw dn rx ry gp 0 G).1 = -4
  · have e1 : jfw dn cx cy rm 0 G = jfw dn cx cy ((rm - (gp + 1)) + 1) gp (jfw dn rx ry gp 0 G).2 := by
      have k := jfw_ok (dn := dn) (cx := cx) (cy := cy) gp ((rm - (gp + 1)) + 1) 0 G (by omega) (by rw [e0]; exact q)
      rw [show gp + ((rm - (gp + 1)) + 1) = rm by omega, e0, Nat.zero_add] at k
      exact k
    generalize (jfw dn rx ry gp 0 G).2 = U at e1
    by_cases m : jmay U (dn gp)
    · have e2 : jfw dn cx cy rm 0 G = jfw dn rx ry (rm - (gp + 1)) (gp + 1) (jfol U (dn gp) a b) := by
        rw [e1, show jfw dn cx cy (rm - (gp + 1) + 1) gp U = jfw dn cx cy (rm - (gp + 1)) (gp + 1) (jfol U (dn gp) (cx gp) (cy gp)) from if_pos m, ha, hb]
        exact jfw_congr _ _ _ (fun j h1 h2 => hc j (by omega) (by omega))
      rw [e2]
      exact ⟨⟨fun z => ⟨q, m, z⟩, fun z => z.2.2⟩, fun _ => (show jcT dn rx ry rm gp U a b = _ from if_pos m).symm⟩
    · have e2 : jfw dn cx cy rm 0 G = (nI gp, U) := e1.trans (if_neg m)
      rw [e2]
      exact ⟨⟨fun z => absurd z (jneg4 (by omega)), fun z => absurd z.2.1 m⟩, fun _ => (show jcT dn rx ry rm gp U a b = U from if_neg m).symm⟩
  · have e1 : jfw dn cx cy rm 0 G = jfw dn cx cy gp 0 G := by
      have k := jfw_no (dn := dn) (cx := cx) (cy := cy) gp (rm - gp) 0 G (by rw [e0]; exact q)
      rw [show gp + (rm - gp) = rm by omega] at k
      exact k
    rw [e1, e0]
    exact ⟨⟨fun z => absurd z q, fun z => absurd z.1 q⟩, fun z => absurd z q⟩
end FW
/-- one GAP, at gp -/
def jgap (rm : Nat) (rx ry : Nat → Int32) (gp : Nat) : Prop := gp < rm ∧ rx gp = -1 ∧ ry gp = -1 ∧ ∀ j, j < rm → ¬ j = gp → ¬ rx j = -1
section CB
variable {U : jGT} {P rd rx ry : Nat → Int32} {ti : Int32} {rm gp : Nat}
theorem jgap_mv {wr : Int32 → Int32 → Prop} {gh : Nat → Int32 → Int32 → Prop} {x y : Int32} (hr : jrw rm rd rx ry) (hg : jgap rm rx ry gp) {j : Nat} (hj : j < rm) (hn : ¬ j = gp) (hs : jspot (rx j) (ry j) → wr (rx j) (ry j) ∧ ¬ gh (jdn rd j) (rx j) (ry j)) : jMv wr gh (jdn rd j) (rx j) (ry j) (mgx rx ry x rx j) (mgx rx ry y ry j) := by
  have n : ¬ (rx j = -1 ∧ ry j = -1) := fun z => hg.2.2.2 j hj hn z.1
  rw [show mgx rx ry x rx j = rx j from if_neg n, show mgx rx ry y ry j = ry j from if_neg n]
  rcases (hr.2 j hj).2 with s | s | s
  · exact Or.inl ⟨s, (hs s).1, (hs s).2, rfl, rfl⟩
  · exact Or.inr (Or.inl ⟨s.1, s.1, s.2⟩)
  · exact absurd s n
theorem jgap_at {x y : Int32} (hg : jgap rm rx ry gp) : mgx rx ry x rx gp = x ∧ mgx rx ry y ry gp = y := ⟨if_pos ⟨hg.2.1, hg.2.2.1⟩, if_pos ⟨hg.2.1, hg.2.2.1⟩⟩
theorem jcb_near {x y : Int32} (h : jhas U.1) (hr : jrw rm rd rx ry) (hg : jgap rm rx ry gp) (ht : 10 ≤ ti) (hxy : jspot x y ∨ (x = 41 ∧ y = 41)) :
    ((mww (jdn rd) rx ry x y ti rm 0 (mclr P)).1 = -4 ↔ (jUp (jdn rd) rx ry gp U ti).1 = -4 ∧ jcc (jdn rd) rx ry rm gp (jUp (jdn rd) rx ry gp U ti).2 x y) ∧ ((jUp (jdn rd) rx ry gp U ti).1 = -4 → jhas (jcT (jdn rd) rx ry rm gp (jUp (jdn rd) rx ry gp U ti).2 x y).1) := by
  have hw : jGW (fun _ _ => True) (fun _ _ _ => False) := ⟨fun e x y a b h _ => h.elim, fun e f x y a b h _ _ => h.elim⟩
  obtain ⟨r1, N', r2, r3⟩ := jRG.row (dn := jdn rd) (rx := rx) (ry := ry) (cx := fun j => if j = gp then x else rx j) (cy := fun j => if j = gp then y else ry j) (gx := x) (gy := y) hw rm 0 0 _ _ (jsta_rel (G := U) (P := P) h (fun _ _ => True) (fun _ _ _ => False) ht) (by have := hr.1; omega) (fun j _ hj => by
    refine ⟨(hr.2 j (by omega)).1.1, ?_⟩
    by_cases e : j = gp
    · subst e
      show jMv _ _ _ (if j = j then x else rx j) (if j = j then y else ry j) _ _
      rw [if_pos rfl, if_pos rfl, (jgap_at (x := x) (y := y) hg).1, (jgap_at (x := x) (y := y) hg).2]
      rcases hxy with s | s
      · exact Or.inl ⟨s, trivial, id, rfl, rfl⟩
      · exact Or.inr (Or.inl ⟨s.1, s.1, s.2⟩)
    · show jMv _ _ _ (if j = gp then x else rx j) (if j = gp then y else ry j) _ _
      rw [if_neg e, if_neg e]
      exact jgap_mv hr hg (by omega) e (fun _ => ⟨trivial, id⟩))
  have k := jfw_gap (dn := jdn rd) (cx := fun j => if j = gp then x else rx j) (cy := fun j => if j = gp then y else ry j) (rx := rx) (ry := ry) (rm := rm) (gp := gp) (G := jsta U ti) (a := x) (b := y) hr.1 hg.1 (fun j _ hn => ⟨if_neg hn, if_neg hn⟩) (if_pos rfl) (if_pos rfl)
  refine ⟨by rw [← r1]; exact k.1, fun z => ?_⟩
  rw [← k.2 z]
  exact ⟨_, _, _, r3.1⟩
theorem jUp_has (h : jhas U.1) (hr : jrw rm rd rx ry) (hg : jgap rm rx ry gp) (ht : 10 ≤ ti) : jhas (jUp (jdn rd) rx ry gp U ti).2.1 := by
  have hw : jGW (fun _ _ => True) (fun _ _ _ => False) := ⟨fun e x y a b h _ => h.elim, fun e f x y a b h _ _ => h.elim⟩
  obtain ⟨r1, N', r2, r3⟩ := jRG.row (dn := jdn rd) (rx := rx) (ry := ry) (cx := rx) (cy := ry) (gx := -1) (gy := -1) hw gp 0 0 _ _ (jsta_rel (G := U) (P := fun _ => 0) h (fun _ _ => True) (fun _ _ _ => False) ht) (by have := hr.1; have := hg.1; omega) (fun j _ hj => ⟨(hr.2 j (by have := hg.1; omega)).1.1, jgap_mv hr hg (by have := hg.1; omega) (by omega) (fun _ => ⟨trivial, id⟩)⟩)
  exact ⟨_, _, _, r3.1⟩
theorem jnr_no {a b : Int32} : ∀ (n i : Nat), jnr rx ry a b n i = false → ∀ j, i ≤ j → j < i + n → ¬ jway a b (rx j) (ry j) < 4
  | 0, i, _, j, h1, h2 => by omega
  | n + 1, i, h, j, h1, h2 => by
    unfold jnr at h
    by_cases q : jway a b (rx i) (ry i) < 4
    · rw [if_pos q] at h; cases h
    · rw [if_neg q] at h
      by_cases e : j = i
      · subst e; exact q
      · exact jnr_no n (i + 1) h j (by omega) (by omega)
theorem jcb_far {u v : Nat} (h : jhas U.1) (hr : jrw rm rd rx ry) (hg : jgap rm rx ry gp) (ht : 10 ≤ ti) (hu : u ≤ 40) (hv : v ≤ 40) (hf : jnr rx ry (nI u) (nI v) rm 0 = false) :
    (mww (jdn rd) rx ry (nI u) (nI v) ti rm 0 (mclr P)).1 = -4 ↔ (jUp (jdn rd) rx ry gp U ti).1 = -4 ∧ jcc (jdn rd) rx ry rm gp (jUp (jdn rd) rx ry gp U ti).2 (-1) (-1) := by
  have far := jnr_no rm 0 hf
  have sp := jspot_of hu hv
  have hw : jGW (fun a b => ∃ j, j < rm ∧ rx j = a ∧ ry j = b ∧ jspot a b) (fun e a b => a < 0 ∨ (e = jdn rd gp ∧ a = nI u ∧ b = nI v)) := by
    constructor
    · rintro e x y a b (q | ⟨_, rfl, rfl⟩) ⟨j, hj, rfl, rfl, hs⟩
      · exact Or.inl q
      · right
        intro d
        obtain ⟨p, q, hp, hq, e1, e2⟩ := jspot_n hs
        have f1 := far j (by omega) (by omega)
        rw [e1, e2] at f1 ⊢
        exact ⟨(mnr_far (by omega) (by omega) (by omega) (by omega) f1 e d).1, (mnr_far (by omega) (by omega) (by omega) (by omega) f1 d e).2⟩
    · rintro e f x y a b (q | ⟨q1, _, _⟩) (r | ⟨r1, _, _⟩) hn
      · exact Or.inl q
      · exact Or.inl q
      · exact Or.inr r
      · exact absurd (q1.trans r1.symm) hn
  obtain ⟨r1, N', r2, r3⟩ := jRG.row (dn := jdn rd) (rx := rx) (ry := ry) (cx := rx) (cy := ry) (gx := nI u) (gy := nI v) hw rm 0 0 _ _ (jsta_rel (G := U) (P := P) h (fun a b => ∃ j, j < rm ∧ rx j = a ∧ ry j = b ∧ jspot a b) (fun e a b => a < 0 ∨ (e = jdn rd gp ∧ a = nI u ∧ b = nI v)) ht) (by have := hr.1; omega) (fun j _ hj => by
    refine ⟨(hr.2 j (by omega)).1.1, ?_⟩
    by_cases e : j = gp
    · subst e
      rw [(jgap_at (x := nI u) (y := nI v) hg).1, (jgap_at (x := nI u) (y := nI v) hg).2]
      exact Or.inr (Or.inr ⟨hg.2.1, Or.inr ⟨rfl, rfl, rfl⟩, fun z => (jspot_ne sp).2 z.1⟩)
    · refine jgap_mv hr hg (by omega) e (fun s => ⟨⟨j, by omega, rfl, rfl, s⟩, ?_⟩)
      rintro (q | ⟨_, q1, q2⟩)
      · exact absurd q (Int32.not_lt.mpr s.1.1)
      · have f1 := far j (by omega) (by omega)
        rw [q1, q2, jway_n (by omega) (by omega) (by omega) (by omega)] at f1
        apply f1
        have z : ∀ n, jad n n = 0 := fun n => by unfold jad; simp
        rw [z, z]
        decide)
  have k := jfw_gap (dn := jdn rd) (cx := rx) (cy := ry) (rx := rx) (ry := ry) (rm := rm) (gp := gp) (G := jsta U ti) (a := -1) (b := -1) hr.1 hg.1 (fun j _ hn => ⟨rfl, rfl⟩) hg.2.1 hg.2.2.1
  rw [← r1]; exact k.1
/-! the places counted -/
abbrev jeq2 (S : mS) (Y : jFS) : Prop := S.1 = Y.1 ∧ S.2.1 = Y.2.1
theorem mcb1_no {dn : Nat → Nat} {n a b : Nat} {S : mS} (h : ¬ (jspot (nI a) (nI b) ∨ (nI a = 41 ∧ nI b = 41))) : mcb1 dn rx ry ti n a b S = S := if_neg h
theorem jspot_41 {a b : Nat} (h : a = 41 ∨ b = 41) : ¬ jspot (nI a) (nI b) := by
  intro z
  rcases h with rfl | rfl
  · exact absurd z.1.2 (by decide)
  · exact absurd z.2.2 (by decide)
theorem nI_41 {a : Nat} (h : a ≤ 40) : ¬ nI a = 41 := fun z => absurd ((nI_eq (by omega) (by decide)).mp (show nI a = nI 41 from z)) (by omega)
theorem jcb_step {a b : Nat} {S : mS} {Y : jFS} (h : jhas U.1) (hr : jrw rm rd rx ry) (hg : jgap rm rx ry gp) (ht : 10 ≤ ti) (hup : (jUp (jdn rd) rx ry gp U ti).1 = -4) (ha : a ≤ 40) (hb : b ≤ 40) (he : jeq2 S Y) : jeq2 (mcb1 (jdn rd) rx ry ti rm a b S) (jfp1 (jdn rd) rx ry rm gp (jUp (jdn rd) rx ry gp U ti).2 (jcc (jdn rd) rx ry rm gp (jUp (jdn rd) rx ry gp U ti).2 (-1) (-1)) a b Y) := by
  have sp := jspot_of ha hb
  have cond : (mww (jdn rd) rx ry (nI a) (nI b) ti rm 0 (mclr S.2.2)).1 = -4 ↔ (if jnr rx ry (nI a) (nI b) rm 0 = true then jcc (jdn rd) rx ry rm gp (jUp (jdn rd) rx ry gp U ti).2 (nI a) (nI b) else jcc (jdn rd) rx ry rm gp (jUp (jdn rd) rx ry gp U ti).2 (-1) (-1)) := by
    by_cases q : jnr rx ry (nI a) (nI b) rm 0 = true
    · rw [if_pos q, (jcb_near (P := S.2.2) h hr hg ht (Or.inl sp)).1]
      exact ⟨fun z => z.2, fun z => ⟨hup, z⟩⟩
    · rw [if_neg q, jcb_far (P := S.2.2) h hr hg ht ha hb (by cases e : jnr rx ry (nI a) (nI b) rm 0 <;> simp_all)]
      exact ⟨fun z => z.2, fun z => ⟨hup, z⟩⟩
  unfold mcb1 jfp1
  rw [if_pos (Or.inl sp)]
  generalize mww (jdn rd) rx ry (nI a) (nI b) ti rm 0 (mclr S.2.2) = W at cond ⊢
  generalize (jUp (jdn rd) rx ry gp U ti).2 = V at cond ⊢
  by_cases q : jnr rx ry (nI a) (nI b) rm 0 = true
  · rw [if_pos q] at cond ⊢
    by_cases z : jcc (jdn rd) rx ry rm gp V (nI a) (nI b)
    · rw [if_pos z, if_pos (cond.mpr z)]
      exact ⟨congrArg (· + 1) he.1, by show (if S.1 = 0 then _ else _) = (if Y.1 = 0 then _ else _); rw [he.1, he.2]⟩
    · rw [if_neg z, if_neg (fun y => z (cond.mp y))]
      exact he
  · rw [if_neg q] at cond ⊢
    by_cases z : jcc (jdn rd) rx ry rm gp V (-1) (-1)
    · rw [if_pos z, if_pos (cond.mpr z)]
      exact ⟨congrArg (· + 1) he.1, by show (if S.1 = 0 then _ else _) = (if Y.1 = 0 then _ else _); rw [he.1, he.2]⟩
    · rw [if_neg z, if_neg (fun y => z (cond.mp y))]
      exact he
theorem jcb_y {a : Nat} {S : mS} {Y : jFS} (h : jhas U.1) (hr : jrw rm rd rx ry) (hg : jgap rm rx ry gp) (ht : 10 ≤ ti) (hup : (jUp (jdn rd) rx ry gp U ti).1 = -4) (ha : a ≤ 40) (he : jeq2 S Y) : ∀ n, n ≤ 41 → jeq2 (mcby (jdn rd) rx ry ti rm a S n) (jfpy (jdn rd) rx ry rm gp (jUp (jdn rd) rx ry gp U ti).2 (jcc (jdn rd) rx ry rm gp (jUp (jdn rd) rx ry gp U ti).2 (-1) (-1)) a Y n)
  | 0, _ => he
  | n + 1, hn => jcb_step h hr hg ht hup ha (by omega) (jcb_y h hr hg ht hup ha he n (by omega))
theorem jcb_x {S : mS} {Y : jFS} (h : jhas U.1) (hr : jrw rm rd rx ry) (hg : jgap rm rx ry gp) (ht : 10 ≤ ti) (hup : (jUp (jdn rd) rx ry gp U ti).1 = -4) (he : jeq2 S Y) : ∀ n, n ≤ 41 → jeq2 (mcbx (jdn rd) rx ry ti rm S n) (jfpx (jdn rd) rx ry rm gp (jUp (jdn rd) rx ry gp U ti).2 (jcc (jdn rd) rx ry rm gp (jUp (jdn rd) rx ry gp U ti).2 (-1) (-1)) Y n)
  | 0, _ => he
  | n + 1, hn => by
    have k := jcb_y (a := n) h hr hg ht hup (by omega) (jcb_x h hr hg ht hup he n (by omega)) 41 (Nat.le_refl _)
    have e : mcbx (jdn rd) rx ry ti rm S (n + 1) = mcby (jdn rd) rx ry ti rm n (mcbx (jdn rd) rx ry ti rm S n) 41 := mcb1_no (fun z => z.elim (jspot_41 (Or.inr rfl)) (fun y => nI_41 (by omega) y.1))
    rw [e]
    exact k
theorem mcby_41 {dn : Nat → Nat} {n : Nat} {S : mS} : ∀ b, b ≤ 41 → mcby dn rx ry ti n 41 S b = S
  | 0, _ => rfl
  | b + 1, hb => by
    show mcb1 dn rx ry ti n 41 b (mcby dn rx ry ti n 41 S b) = S
    rw [mcb1_no (fun z => z.elim (jspot_41 (Or.inl rfl)) (fun y => nI_41 (by omega) y.2)), mcby_41 b (by omega)]
theorem jcb_all (h : jhas U.1) (hr : jrw rm rd rx ry) (hg : jgap rm rx ry gp) (ht : 10 ≤ ti) (hup : (jUp (jdn rd) rx ry gp U ti).1 = -4) (Y : jGT) : jeq2 (mcbx (jdn rd) rx ry ti rm (0, -4, P) 42) (jfpS (jdn rd) rx ry rm gp (jUp (jdn rd) rx ry gp U ti).2 Y) ∧ jhas (jfpS (jdn rd) rx ry rm gp (jUp (jdn rd) rx ry gp U ti).2 Y).2.2.1 := by
  have k := jcb_x (S := ((0 : Int32), (-4 : Int32), P)) (Y := ((0 : Int32), (-4 : Int32), jcT (jdn rd) rx ry rm gp (jUp (jdn rd) rx ry gp U ti).2 (-1) (-1))) h hr hg ht hup ⟨rfl, rfl⟩ 41 (Nat.le_refl _)
  have e : mcbx (jdn rd) rx ry ti rm (0, -4, P) 42 = mcb1 (jdn rd) rx ry ti rm 41 41 (mcbx (jdn rd) rx ry ti rm (0, -4, P) 41) := by
    show mcb1 (jdn rd) rx ry ti rm 41 41 (mcby (jdn rd) rx ry ti rm 41 (mcbx (jdn rd) rx ry ti rm (0, -4, P) 41) 41) = _
    rw [mcby_41 41 (Nat.le_refl _)]
  rw [e]
  unfold jfpS
  generalize mcbx (jdn rd) rx ry ti rm (0, -4, P) 41 = S at k ⊢
  generalize jfpx (jdn rd) rx ry rm gp (jUp (jdn rd) rx ry gp U ti).2 (jcc (jdn rd) rx ry rm gp (jUp (jdn rd) rx ry gp U ti).2 (-1) (-1)) (0, -4, jcT (jdn rd) rx ry rm gp (jUp (jdn rd) rx ry gp U ti).2 (-1) (-1)) 41 = Z at k ⊢
  have c := jcb_near (x := 41) (y := 41) (P := S.2.2) h hr hg ht (Or.inr ⟨rfl, rfl⟩)
  unfold mcb1 jfpc
  have e41 : nI 41 = (41 : Int32) := rfl
  rw [if_pos (Or.inr ⟨e41, e41⟩), e41]
  have c2 := c.2 hup
  have c1 : (mww (jdn rd) rx ry 41 41 ti rm 0 (mclr S.2.2)).1 = -4 ↔ jcc (jdn rd) rx ry rm gp (jUp (jdn rd) rx ry gp U ti).2 41 41 := by rw [c.1]; exact ⟨fun z => z.2, fun z => ⟨hup, z⟩⟩
  generalize mww (jdn rd) rx ry 41 41 ti rm 0 (mclr S.2.2) = W at c1 ⊢
  generalize (jUp (jdn rd) rx ry gp U ti).2 = V at c1 c2 ⊢
  by_cases z : jcc (jdn rd) rx ry rm gp V 41 41
  · rw [if_pos z, if_pos (c1.mpr z)]
    exact ⟨⟨congrArg (· + 1) k.1, by show (if S.1 = 0 then _ else _) = (if Z.1 = 0 then _ else _); rw [k.1, k.2]⟩, c2⟩
  · rw [if_neg z, if_neg (fun y => z (c1.mp y))]
    exact ⟨k, c2⟩
theorem jcb_non (h : jhas U.1) (hr : jrw rm rd rx ry) (hg : jgap rm rx ry gp) (ht : 10 ≤ ti) (hup : ¬ (jUp (jdn rd) rx ry gp U ti).1 = -4) : (mcbx (jdn rd) rx ry ti rm (0, -4, P) 42).1 = 0 ∧ (mcbx (jdn rd) rx ry ti rm (0, -4, P) 42).2.1 = -4 := by
  have one : ∀ (a b : Nat) (S : mS), a ≤ 41 → b ≤ 41 → S.1 = 0 ∧ S.2.1 = -4 → (mcb1 (jdn rd) rx ry ti rm a b S).1 = 0 ∧ (mcb1 (jdn rd) rx ry ti rm a b S).2.1 = -4 := by
    intro a b S ha hb hS
    unfold mcb1
    by_cases q : jspot (nI a) (nI b) ∨ (nI a = 41 ∧ nI b = 41)
    · rw [if_pos q]
      have c := (jcb_near (P := S.2.2) h hr hg ht q).1
      rw [if_neg (fun z => hup (c.mp z).1)]
      exact hS
    · rw [if_neg q]; exact hS
  have y : ∀ (a : Nat) (S : mS), a ≤ 41 → S.1 = 0 ∧ S.2.1 = -4 → ∀ n, n ≤ 42 → (mcby (jdn rd) rx ry ti rm a S n).1 = 0 ∧ (mcby (jdn rd) rx ry ti rm a S n).2.1 = -4 := by
    intro a S ha hS n
    induction n with
    | zero => intro _; exact hS
    | succ n ih => intro hn; exact one a n _ ha (by omega) (ih (by omega))
  have x : ∀ n, n ≤ 42 → (mcbx (jdn rd) rx ry ti rm (0, -4, P) n).1 = 0 ∧ (mcbx (jdn rd) rx ry ti rm (0, -4, P) n).2.1 = -4 := by
    intro n
    induction n with
    | zero => intro _; exact ⟨rfl, rfl⟩
    | succ n ih => intro hn; exact y n _ (by omega) (ih (by omega)) 42 (Nat.le_refl _)
  exact x 42 (Nat.le_refl _)
end CB
