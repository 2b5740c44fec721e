/-! ===== PILES ===== -/
theorem jcn_sub {p q : Nat → Bool} : ∀ n, (∀ k, k < n → p k = true → q k = true) → jcn p n ≤ jcn q n
  | 0, _ => Nat.le_refl 0
  | n + 1, h => by
    have ih := jcn_sub n (fun k hk => h k (by omega))
    by_cases e : p n = true
    · rw [jcn_t e, jcn_t (h n (by omega) e)]; omega
    · rw [jcn_f e]
      show _ ≤ (if q n = true then jcn q n + 1 else jcn q n)
      split <;> omega
theorem jcn_str {p q : Nat → Bool} {a : Nat} : ∀ n, (∀ k, k < n → p k = true → q k = true) → a < n → ¬ p a = true → q a = true → jcn p n < jcn q n
  | 0, _, ha, _, _ => absurd ha (Nat.not_lt_zero a)
  | n + 1, h, ha, h1, h2 => by
    by_cases e : a = n
    · subst e
      rw [jcn_f h1, jcn_t h2]
      have := jcn_sub a (fun k hk => h k (by omega))
      omega
    · have ih := jcn_str n (fun k hk => h k (by omega)) (show a < n by omega) h1 h2
      by_cases e2 : p n = true
      · rw [jcn_t e2, jcn_t (h n (by omega) e2)]; omega
      · rw [jcn_f e2]
        show _ < (if q n = true then jcn q n + 1 else jcn q n)
        split <;> omega
/-- sixteen bits, no more -/
abbrev j16 (v : Int32) : Prop := ∀ i, 16 ≤ i → jt v i = false
abbrev jsub (v w : Int32) : Prop := ∀ i, jt v i = true → jt w i = true
theorem j16_ext {v w : Int32} (hv : j16 v) (hw : j16 w) (h : ∀ i, i < 16 → (jt v i = true ↔ jt w i = true)) : v = w := by
  apply jt_ext
  intro i _
  by_cases q : i < 16
  · exact Bool.eq_iff_iff.mpr (h i q)
  · rw [hv i (by omega), hw i (by omega)]
/-- a row that only grows stands still within sixteen steps -/
theorem jfix {F : Int32 → Int32} {f : Nat → Int32} (hf : ∀ n, f (n + 1) = F (f n)) (h0 : j16 (f 0)) (hF : ∀ v, j16 v → j16 (F v) ∧ jsub v (F v)) : F (f 16) = f 16 := by
  have all16 : ∀ n, j16 (f n) := by
    intro n
    induction n with
    | zero => exact h0
    | succ n ih => rw [hf]; exact (hF _ ih).1
  have stay : ∀ n, F (f n) = f n → ∀ k, f (n + k) = f n := by
    intro n h k
    induction k with
    | zero => rfl
    | succ k ih => rw [show n + (k + 1) = (n + k) + 1 by omega, hf, ih, h]
  refine Classical.byContradiction fun q => ?_
  have mov : ∀ n, n ≤ 16 → ¬ F (f n) = f n := by
    intro n hn z
    have s := stay n z (16 - n)
    rw [show n + (16 - n) = 16 by omega] at s
    exact q (by rw [s]; exact z)
  have cnt : ∀ n, n ≤ 17 → n ≤ jcn (jt (f n)) 16 := by
    intro n
    induction n with
    | zero => intro _; exact Nat.zero_le _
    | succ n ih =>
      intro hn
      have h1 := ih (by omega)
      have h2 := mov n (by omega)
      have h3 := (hF _ (all16 n)).2
      have h4 : ∃ a, a < 16 ∧ ¬ jt (f n) a = true ∧ jt (F (f n)) a = true := by
        refine Classical.byContradiction fun y => h2 (j16_ext (hF _ (all16 n)).1 (all16 n) (fun i hi => ⟨fun z => ?_, h3 i⟩))
        exact Classical.byContradiction fun w => y ⟨i, hi, w, z⟩
      obtain ⟨a, a1, a2, a3⟩ := h4
      have := jcn_str (p := jt (f n)) (q := jt (F (f n))) 16 (fun k _ => h3 k) a1 a2 a3
      rw [hf]
      omega
  have h1 := cnt 17 (Nat.le_refl _)
  have h2 := jcn_le (jt (f 17)) 16
  omega
theorem j16_bit {d : Nat} (hd : d < 16) : j16 (jbit d) := fun i hi => by rw [jt_bit (by omega)]; exact decide_eq_false (by omega)
theorem j16_or {v w : Int32} (hv : j16 v) (hw : j16 w) : j16 (v ||| w) := fun i hi => by rw [jt_or, hv i hi, hw i hi]; rfl
theorem j16_0 : j16 0 := fun i _ => jt_0 i
theorem j16_mk (p : Nat → Bool) : j16 (jmk p) := fun i hi => by rw [jt_mk, decide_eq_false (by omega), Bool.false_and]
theorem jt_cvr {A : Nat → Int32} {d i : Nat} : jt (mcvr A d) i = true ↔ i < 16 ∧ mcov A i d := by
  unfold mcvr
  rw [jt_mk, Bool.and_eq_true, decide_eq_true_iff, decide_eq_true_iff]
theorem jt_cvd {A : Nat → Int32} {d i : Nat} : jt (mcvd A d) i = true ↔ i < 16 ∧ mcov A d i := by
  unfold mcvd
  rw [jt_mk, Bool.and_eq_true, decide_eq_true_iff, decide_eq_true_iff]
theorem jsr1 {b : Int32} {k : Nat} (hk : k < 16) : (b >>> (nI k &&& 31)) &&& 1 = 1 ↔ jt b k = true := by
  have e : jt (b >>> (nI k &&& 31)) 0 = jt b k := by rw [jt_sar (by omega) (by omega), Nat.zero_add]
  have o : ∀ i, i < 32 → jt 1 i = decide (i = 0) := by decide
  rw [← e]
  constructor
  · intro z
    have : jt ((b >>> (nI k &&& 31)) &&& 1) 0 = true := by rw [z]; decide
    rw [jt_and, Bool.and_eq_true] at this
    exact this.1
  · intro z
    apply jt_ext
    intro i hi
    rw [jt_and, o i hi]
    by_cases q : i = 0
    · subst q; rw [z]; rfl
    · rw [decide_eq_false q, Bool.and_false]
abbrev madj (A : Nat → Int32) (i j : Nat) : Prop := mcov A i j ∨ mcov A j i
section PI
variable {A : Nat → Int32}
theorem mstp_16 {b : Int32} (hb : j16 b) : ∀ k, k ≤ 16 → j16 (mstp A b k) ∧ jsub b (mstp A b k)
  | 0, _ => ⟨hb, fun i h => h⟩
  | k + 1, hk => by
    have ih := mstp_16 hb k (by omega)
    unfold mstp
    refine ⟨j16_or ih.1 ?_, fun i h => by rw [jt_or, ih.2 i h]; rfl⟩
    split
    · exact j16_or (j16_mk _) (j16_mk _)
    · exact j16_0
theorem mstp_in {b : Int32} {i j : Nat} (hi : jt b i = true) : ∀ k, k ≤ 16 → i < k → j < 16 → madj A i j → jt (mstp A b k) j = true
  | 0, _, h, _, _ => absurd h (Nat.not_lt_zero i)
  | k + 1, hk, h, hj, ha => by
    unfold mstp
    rw [jt_or, Bool.or_eq_true]
    by_cases e : i = k
    · subst e
      right
      rw [if_pos ((jsr1 (by omega)).mpr hi), jt_or, Bool.or_eq_true, jt_cvr, jt_cvd]
      rcases ha with z | z
      · exact Or.inr ⟨hj, z⟩
      · exact Or.inl ⟨hj, z⟩
    · exact Or.inl (mstp_in hi k (by omega) (by omega) hj ha)
theorem mstp_sound {b : Int32} {Z : Nat → Prop} (hc : ∀ i j, i < 16 → j < 16 → Z i → madj A i j → Z j) (hb : ∀ i, i < 16 → jt b i = true → Z i) : ∀ k, k ≤ 16 → ∀ i, i < 16 → jt (mstp A b k) i = true → Z i
  | 0, _, i, hi, h => hb i hi h
  | k + 1, hk, i, hi, h => by
    unfold mstp at h
    rw [jt_or, Bool.or_eq_true] at h
    rcases h with h | h
    · exact mstp_sound hc hb k (by omega) i hi h
    · by_cases q : (b >>> (nI k &&& 31)) &&& 1 = 1
      · rw [if_pos q, jt_or, Bool.or_eq_true, jt_cvr, jt_cvd] at h
        have zk := hb k (by omega) ((jsr1 (by omega)).mp q)
        rcases h with h | h
        · exact hc k i (by omega) hi zk (Or.inr h.2)
        · exact hc k i (by omega) hi zk (Or.inl h.2)
      · rw [if_neg q, jt_0] at h; cases h
/-- the model's pile stands still -/
theorem mfix {d : Nat} (hd : d < 16) : mstp A (mitr A (jbit d) 16) 16 = mitr A (jbit d) 16 :=
  jfix (F := fun v => mstp A v 16) (f := mitr A (jbit d)) (fun n => rfl) (j16_bit hd) (fun v hv => mstp_16 hv 16 (Nat.le_refl _))
theorem mitr_16 {b : Int32} (hb : j16 b) : ∀ n, j16 (mitr A b n) ∧ jsub b (mitr A b n)
  | 0 => ⟨hb, fun i h => h⟩
  | n + 1 => by
    have ih := mitr_16 hb n
    have k := mstp_16 (A := A) ih.1 16 (Nat.le_refl _)
    exact ⟨k.1, fun i h => k.2 i (ih.2 i h)⟩
theorem mitr_sound {b : Int32} {Z : Nat → Prop} (hc : ∀ i j, i < 16 → j < 16 → Z i → madj A i j → Z j) (hb : ∀ i, i < 16 → jt b i = true → Z i) : ∀ n i, i < 16 → jt (mitr A b n) i = true → Z i
  | 0, i, hi, h => hb i hi h
  | n + 1, i, hi, h => mstp_sound hc (mitr_sound hc hb n) 16 (Nat.le_refl _) i hi h
theorem jwn_16 {cv : Nat → Int32} {g : Int32} (hcv : ∀ k, k < 16 → j16 (cv k)) (hg : j16 g) : ∀ k, k ≤ 16 → j16 (jwnF cv g k) ∧ jsub g (jwnF cv g k)
  | 0, _ => ⟨hg, fun i h => h⟩
  | k + 1, hk => by
    have ih := jwn_16 hcv hg k (by omega)
    unfold jwnF
    split
    · exact ⟨j16_or ih.1 (hcv k (by omega)), fun i h => by rw [jt_or, ih.2 i h]; rfl⟩
    · split
      · exact ⟨j16_or ih.1 (j16_bit (by omega)), fun i h => by rw [jt_or, ih.2 i h]; rfl⟩
      · exact ih
theorem jwn_mono {cv : Nat → Int32} {g : Int32} (k : Nat) : jsub (jwnF cv g k) (jwnF cv g (k + 1)) := by
  intro i h
  show jt (if ¬ jwnF cv g k &&& jbit k = 0 then jwnF cv g k ||| cv k else if ¬ jwnF cv g k &&& cv k = 0 then jwnF cv g k ||| jbit k else jwnF cv g k) i = true
  split
  · rw [jt_or, h]; rfl
  · split
    · rw [jt_or, h]; rfl
    · exact h
theorem jwn_le {cv : Nat → Int32} {g : Int32} {k : Nat} : ∀ n, k ≤ n → jsub (jwnF cv g k) (jwnF cv g n)
  | 0, h => by
    have : k = 0 := by omega
    subst this; exact fun i h => h
  | n + 1, h => by
    by_cases e : k = n + 1
    · subst e; exact fun i h => h
    · exact fun i z => jwn_mono n i (jwn_le n (by omega) i z)
theorem jwn_sound {cv : Nat → Int32} {g : Int32} {Z : Nat → Prop} (hcv : ∀ k, k < 16 → ∀ i, jt (cv k) i = true → i < 16 ∧ mcov A i k) (hc : ∀ i j, i < 16 → j < 16 → Z i → madj A i j → Z j) (hb : ∀ i, i < 16 → jt g i = true → Z i) : ∀ k, k ≤ 16 → ∀ i, i < 16 → jt (jwnF cv g k) i = true → Z i
  | 0, _, i, hi, h => hb i hi h
  | k + 1, hk, i, hi, h => by
    have ih := jwn_sound hcv hc hb k (by omega)
    unfold jwnF at h
    by_cases q : ¬ jwnF cv g k &&& jbit k = 0
    · rw [if_pos q, jt_or, Bool.or_eq_true] at h
      rcases h with h | h
      · exact ih i hi h
      · exact hc k i (by omega) hi (ih k (by omega) ((jts_iff (by omega)).mp q)) (Or.inr (hcv k (by omega) i h).2)
    · rw [if_neg q] at h
      by_cases q2 : ¬ jwnF cv g k &&& cv k = 0
      · rw [if_pos q2, jt_or, Bool.or_eq_true, jt_bit (by omega), decide_eq_true_iff] at h
        rcases h with h | h
        · exact ih i hi h
        · subst h
          obtain ⟨j, j1, j2⟩ := jt_ne0.mp q2
          rw [jt_and, Bool.and_eq_true] at j2
          have c := hcv i (by omega) j j2.2
          exact hc j i c.1 hi (ih j c.1 j2.1) (Or.inl c.2)
      · rw [if_neg q2] at h; exact ih i hi h
theorem jwn_closed {cv : Nat → Int32} {g : Int32} (hcv : ∀ k, k < 16 → ∀ i, (jt (cv k) i = true ↔ i < 16 ∧ mcov A i k)) (hg : jwnF cv g 16 = g) : ∀ i j, i < 16 → j < 16 → jt g i = true → madj A i j → jt g j = true := by
  have mid : ∀ k, k ≤ 16 → jsub (jwnF cv g k) g := fun k hk i z => by
    have := jwn_le (cv := cv) (g := g) 16 hk i z
    rw [hg] at this
    exact this
  have up : ∀ k, jsub g (jwnF cv g k) := fun k => jwn_le (k := 0) k (Nat.zero_le k)
  intro i j hi hj h ha
  rcases ha with z | z
  · refine Classical.byContradiction fun nj => ?_
    have q : ¬ ¬ jwnF cv g j &&& jbit j = 0 := fun y => nj (mid j (by omega) j ((jts_iff (by omega)).mp y))
    have q2 : ¬ jwnF cv g j &&& cv j = 0 := jt_ne0.mpr ⟨i, by omega, by rw [jt_and, up j i h, (hcv j hj i).mpr ⟨hi, z⟩]; rfl⟩
    have e : jwnF cv g (j + 1) = jwnF cv g j ||| jbit j := (show jwnF cv g (j + 1) = _ from if_neg q).trans (if_pos q2)
    apply nj
    apply mid (j + 1) (by omega)
    rw [e, jt_or, jt_bit (by omega)]; simp
  · have q : ¬ jwnF cv g i &&& jbit i = 0 := (jts_iff (by omega)).mpr (up i i h)
    have e : jwnF cv g (i + 1) = jwnF cv g i ||| cv i := if_pos q
    apply mid (i + 1) (by omega)
    rw [e, jt_or, (hcv i hi j).mpr ⟨hj, z⟩]; simp
end PI
theorem jpil_16 {cv : Nat → Int32} {g : Int32} (hcv : ∀ k, k < 16 → j16 (cv k)) (hg : j16 g) : ∀ n, j16 (jpilF cv g n) ∧ jsub g (jpilF cv g n)
  | 0 => ⟨hg, fun i h => h⟩
  | n + 1 => by
    have ih := jpil_16 hcv hg n
    have k := jwn_16 hcv ih.1 16 (Nat.le_refl _)
    exact ⟨k.1, fun i h => k.2 i (ih.2 i h)⟩
theorem jpil_sound {A : Nat → Int32} {cv : Nat → Int32} {g : Int32} {Z : Nat → Prop} (hcv : ∀ k, k < 16 → ∀ i, jt (cv k) i = true → i < 16 ∧ mcov A i k) (hc : ∀ i j, i < 16 → j < 16 → Z i → madj A i j → Z j) (hb : ∀ i, i < 16 → jt g i = true → Z i) : ∀ n i, i < 16 → jt (jpilF cv g n) i = true → Z i
  | 0, i, hi, h => hb i hi h
  | n + 1, i, hi, h => jwn_sound hcv hc (jpil_sound hcv hc hb n) 16 (Nat.le_refl _) i hi h
theorem jRB.cvb {wr : Int32 → Int32 → Prop} {gh : Nat → Int32 → Int32 → Prop} {B : jBT} {A : Nat → Int32} (h : jRB wr gh B A) : ∀ k, k < 16 → ∀ i, (jt (B.2.2.1 k) i = true ↔ i < 16 ∧ mcov A i k) := by
  intro k hk i
  by_cases q : i < 32
  · exact h.cv k hk i q
  · rw [jt_big (by omega)]
    exact ⟨fun z => (by cases z), fun z => by have := z.1; omega⟩
theorem jpile_eq {wr : Int32 → Int32 → Prop} {gh : Nat → Int32 → Int32 → Prop} {B : jBT} {A : Nat → Int32} (h : jRB wr gh B A) {d : Nat} (hd : d < 16) : jpilF B.2.2.1 (jbit d) 16 = mitr A (jbit d) 16 := by
  have hcv := h.cvb
  have c16 : ∀ k, k < 16 → j16 (B.2.2.1 k) := fun k hk i hi => by
    cases e : jt (B.2.2.1 k) i
    · rfl
    · have := ((hcv k hk i).mp e).1; omega
  have b16 := j16_bit hd
  have bs : ∀ (Z : Nat → Prop), Z d → ∀ i, i < 16 → jt (jbit d) i = true → Z i := by
    intro Z hZ i _ z
    rw [jt_bit (by omega), decide_eq_true_iff] at z
    rw [z]; exact hZ
  have bd : jt (jbit d) d = true := by rw [jt_bit (by omega)]; simp
  have f1 : jwnF B.2.2.1 (jpilF B.2.2.1 (jbit d) 16) 16 = jpilF B.2.2.1 (jbit d) 16 := jfix (F := fun v => jwnF B.2.2.1 v 16) (f := jpilF B.2.2.1 (jbit d)) (fun n => rfl) b16 (fun v hv => jwn_16 c16 hv 16 (Nat.le_refl _))
  have f2 := mfix (A := A) hd
  have k1 := jpil_16 c16 b16 16
  have k2 := mitr_16 (A := A) b16 16
  have cl1 := jwn_closed hcv f1
  have cl2 : ∀ i j, i < 16 → j < 16 → jt (mitr A (jbit d) 16) i = true → madj A i j → jt (mitr A (jbit d) 16) j = true := by
    intro i j hi hj z ha
    have := mstp_in z 16 (Nat.le_refl _) hi hj ha
    rw [f2] at this
    exact this
  refine j16_ext k1.1 k2.1 (fun i hi => ⟨fun z => ?_, fun z => ?_⟩)
  · exact jpil_sound (Z := fun i => jt (mitr A (jbit d) 16) i = true) (fun k hk i => (hcv k hk i).mp) cl2 (bs _ (k2.2 d bd)) 16 i hi z
  · exact mitr_sound (Z := fun i => jt (jpilF B.2.2.1 (jbit d) 16) i = true) cl1 (bs _ (k1.2 d bd)) 16 i hi z
