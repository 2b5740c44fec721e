/-! ===== the one GAP; Euclid ===== -/
theorem jcn_mono (p : Nat → Bool) {m : Nat} : ∀ n, m ≤ n → jcn p m ≤ jcn p n
  | 0, h => by have : m = 0 := by omega
               subst this; exact Nat.le_refl _
  | n + 1, h => by
    by_cases e : m = n + 1
    · subst e; exact Nat.le_refl _
    · have := jcn_mono p n (show m ≤ n by omega)
      have e2 : jcn p n ≤ jcn p (n + 1) := by
        show _ ≤ (if p n = true then jcn p n + 1 else jcn p n)
        split <;> omega
      omega
theorem jcn_t {p : Nat → Bool} {n : Nat} (h : p n = true) : jcn p (n + 1) = jcn p n + 1 := if_pos h
theorem jcn_f {p : Nat → Bool} {n : Nat} (h : ¬ p n = true) : jcn p (n + 1) = jcn p n := if_neg h
theorem jcn_no {p : Nat → Bool} : ∀ n, (∀ k, k < n → ¬ p k = true) → jcn p n = 0
  | 0, _ => rfl
  | n + 1, h => by rw [jcn_f (h n (by omega)), jcn_no n (fun k hk => h k (by omega))]
theorem jcn_one {p : Nat → Bool} {g : Nat} (hg : p g = true) : ∀ n, g < n → (∀ k, k < n → ¬ k = g → ¬ p k = true) → jcn p n = 1
  | 0, h, _ => absurd h (Nat.not_lt_zero g)
  | n + 1, h, h2 => by
    by_cases e : g = n
    · subst e; rw [jcn_t hg, jcn_no g (fun k hk => h2 k (by omega) (by omega))]
    · rw [jcn_f (h2 n (by omega) (fun z => e z.symm)), jcn_one hg n (by omega) (fun k hk => h2 k (by omega))]
theorem jcn_two {p : Nat → Bool} {a b n : Nat} (ha : p a = true) (hb : p b = true) (hab : a < b) (hbn : b < n) : 2 ≤ jcn p n := by
  have h1 := jcn_mono p b (show a + 1 ≤ b by omega)
  have h2 := jcn_mono p n (show b + 1 ≤ n by omega)
  rw [jcn_t ha] at h1
  rw [jcn_t hb] at h2
  omega
theorem jcn_congr {p q : Nat → Bool} : ∀ n, (∀ k, k < n → p k = q k) → jcn p n = jcn q n
  | 0, _ => rfl
  | n + 1, h => by
    unfold jcn
    rw [h n (by omega), jcn_congr n (fun k hk => h k (by omega))]
section JO
variable {rx ry rd : Nat → Int32} {rm : Nat}
theorem jog_no {g : Int32} : ∀ (n i : Nat), (∀ j, i ≤ j → j < i + n → ¬ rx j = -1) → jog rx n i g = g
  | 0, _, _ => rfl
  | n + 1, i, h => by
    unfold jog
    rw [if_neg (h i (by omega) (by omega))]
    exact jog_no n (i + 1) (fun j h1 h2 => h j (by omega) (by omega))
theorem jog_two {g : Int32} (hg : ¬ g = -4) : ∀ (n i j : Nat), i ≤ j → j < i + n → rx j = -1 → jog rx n i g = -4
  | 0, i, j, h1, h2, _ => by omega
  | n + 1, i, j, h1, h2, h3 => by
    unfold jog
    by_cases q : rx i = -1
    · rw [if_pos q, if_neg hg]
    · rw [if_neg q]
      have : ¬ j = i := fun z => q (by rw [← z]; exact h3)
      exact jog_two hg n (i + 1) j (by omega) (by omega) h3
theorem jog_first : ∀ (n i gp : Nat), i ≤ gp → gp < i + n → rx gp = -1 → (∀ j, i ≤ j → j < gp → ¬ rx j = -1) → jog rx n i (-4) = jog rx (i + n - (gp + 1)) (gp + 1) (nI gp)
  | 0, i, gp, h1, h2, _, _ => by omega
  | n + 1, i, gp, h1, h2, h3, h4 => by
    by_cases e : gp = i
    · subst e
      rw [show gp + (n + 1) - (gp + 1) = n by omega]
      show (if rx gp = -1 then (if (-4 : Int32) = -4 then jog rx n (gp + 1) (nI gp) else -4) else jog rx n (gp + 1) (-4)) = _
      rw [if_pos h3, if_pos rfl]
    · show (if rx i = -1 then (if (-4 : Int32) = -4 then jog rx n (i + 1) (nI i) else -4) else jog rx n (i + 1) (-4)) = _
      rw [if_neg (h4 i (Nat.le_refl i) (by omega)), jog_first n (i + 1) gp (by omega) (by omega) h3 (fun j q1 q2 => h4 j (by omega) q2), show i + 1 + n - (gp + 1) = i + (n + 1) - (gp + 1) by omega]
theorem mgpF_n : ∀ n, mgpF rx ry n = nI (jcn (fun k => decide (rx k = -1 ∧ ry k = -1)) n)
  | 0 => rfl
  | n + 1 => by
    unfold mgpF
    rw [mgpF_n n]
    by_cases q : rx n = -1 ∧ ry n = -1
    · rw [if_pos q, jcn_t (decide_eq_true q)]; exact nI_add _ 1
    · rw [if_neg q, jcn_f (fun z => q (of_decide_eq_true z)), jadd0]
theorem jfirst {p : Nat → Prop} : ∀ n, (∃ j, j < n ∧ p j) → ∃ j, j < n ∧ p j ∧ ∀ k, k < j → ¬ p k
  | 0, h => by obtain ⟨j, h1, _⟩ := h; omega
  | n + 1, h => by
    by_cases q : ∃ j, j < n ∧ p j
    · obtain ⟨j, h1, h2, h3⟩ := jfirst n q
      exact ⟨j, by omega, h2, h3⟩
    · obtain ⟨j, h1, h2⟩ := h
      have : j = n := by
        by_cases e : j = n
        · exact e
        · exact absurd ⟨j, by omega, h2⟩ q
      subst this
      exact ⟨j, h1, h2, fun k hk hp => q ⟨k, hk, hp⟩⟩
theorem jgap_or (hr : jrw rm rd rx ry) : (jog rx rm 0 (-4) = -4 ∧ ¬ mgpF rx ry rm = 1) ∨ ∃ gp, jog rx rm 0 (-4) = nI gp ∧ jgap rm rx ry gp ∧ mgpF rx ry rm = 1 := by
  have both : ∀ j, j < rm → rx j = -1 → ry j = -1 := by
    intro j hj h1
    rcases (hr.2 j hj).2 with s | s | s
    · exact absurd h1 (jspot_ne s).1
    · exact absurd (s.1.symm.trans h1) (by decide)
    · exact s.2
  by_cases q : ∃ j, j < rm ∧ rx j = -1
  · obtain ⟨gp, h1, h2, h3⟩ := jfirst rm q
    have e := jog_first (rx := rx) rm 0 gp (Nat.zero_le _) (by omega) h2 (fun j _ hj => h3 j hj)
    rw [Nat.zero_add] at e
    have hp : (fun k => decide (rx k = -1 ∧ ry k = -1)) gp = true := decide_eq_true ⟨h2, both gp h1 h2⟩
    by_cases q2 : ∃ j, gp < j ∧ j < rm ∧ rx j = -1
    · obtain ⟨j, k1, k2, k3⟩ := q2
      left
      refine ⟨e.trans (jog_two (jneg4 (by have := hr.1; omega)) _ _ j (by omega) (by omega) k3), ?_⟩
      rw [mgpF_n]
      have k := jcn_two (p := fun k => decide (rx k = -1 ∧ ry k = -1)) (n := rm) hp (show (fun k => decide (rx k = -1 ∧ ry k = -1)) j = true from decide_eq_true ⟨k3, both j k2 k3⟩) k1 k2
      have l := jcn_le (fun k => decide (rx k = -1 ∧ ry k = -1)) rm
      intro z
      have := (nI_eq (by have := hr.1; omega) (by decide)).mp (show nI _ = nI 1 from z)
      omega
    · right
      have n2 : ∀ j, j < rm → ¬ j = gp → ¬ rx j = -1 := by
        intro j k1 k2 k3
        by_cases l : j < gp
        · exact h3 j l k3
        · exact q2 ⟨j, by omega, k1, k3⟩
      refine ⟨gp, e.trans (jog_no _ _ (fun j k1 k2 => n2 j (by omega) (by omega))), ⟨h1, h2, both gp h1 h2, n2⟩, ?_⟩
      rw [mgpF_n, jcn_one hp rm h1 (fun k k1 k2 z => n2 k k1 k2 (of_decide_eq_true z).1)]
      rfl
  · left
    refine ⟨jog_no _ _ (fun j _ h2 z => q ⟨j, by omega, z⟩), ?_⟩
    rw [mgpF_n, jcn_no rm (fun k hk z => q ⟨k, hk, (of_decide_eq_true z).1⟩)]
    decide
end JO
/-! Euclid -/
theorem jrem_n {a b : Nat} (ha : a < 2 ^ 31) (hb : b < 2 ^ 31) (h0 : 0 < b) : nI a - nI a / nI b * nI b = nI (a % b) := pk_rem ha h0 hb
theorem mgb_0 {a : Int32} : ∀ n, mgb n a 0 = 0
  | 0 => rfl
  | n + 1 => if_pos rfl
theorem mgb_n : ∀ (n a b : Nat), a < 2 ^ 31 → b < 2 ^ 31 → b < 2 ^ n → mgb (2 * n) (nI a) (nI b) = 0
  | 0, a, b, _, _, h => by have : b = 0 := by omega
                           subst this; exact mgb_0 _
  | n + 1, a, b, ha, hb, h => by
    by_cases q : b = 0
    · subst q; exact mgb_0 _
    · have q0 : ¬ nI b = 0 := nI_ne0 (by omega) (by omega)
      have e1 : mgb (2 * (n + 1)) (nI a) (nI b) = mgb (2 * n + 1) (nI b) (nI (a % b)) := by
        show mgb (2 * n + 1 + 1) (nI a) (nI b) = _
        rw [show mgb (2 * n + 1 + 1) (nI a) (nI b) = mgb (2 * n + 1) (nI b) (nI a - nI a / nI b * nI b) from if_neg q0, jrem_n ha hb (by omega)]
      have l1 : a % b < b := Nat.mod_lt _ (by omega)
      rw [e1]
      by_cases r : a % b = 0
      · rw [r]; exact mgb_0 _
      · have r0 : ¬ nI (a % b) = 0 := nI_ne0 (by omega) (by omega)
        rw [show mgb (2 * n + 1) (nI b) (nI (a % b)) = mgb (2 * n) (nI (a % b)) (nI b - nI b / nI (a % b) * nI (a % b)) from if_neg r0, jrem_n hb (by omega) (by omega)]
        have l2 : b % (a % b) < a % b := Nat.mod_lt _ (by omega)
        have l3 : b % (a % b) ≤ b - a % b := by
          have := Nat.mod_add_div b (a % b)
          have l4 : 1 ≤ b / (a % b) := Nat.div_pos (by omega) (by omega)
          have l5 : a % b * 1 ≤ a % b * (b / (a % b)) := Nat.mul_le_mul_left _ l4
          omega
        refine mgb_n n _ _ (by omega) (by omega) ?_
        have : 2 ^ (n + 1) = 2 * 2 ^ n := by rw [Nat.pow_succ]; omega
        omega
theorem jgcd_ne : ∀ (n a b : Nat), a < 2 ^ 31 → b < 2 ^ 31 → 0 < a → ¬ jgcd n (nI a) (nI b) = 0
  | 0, a, b, ha, _, h => nI_ne0 (by omega) (by omega)
  | n + 1, a, b, ha, hb, h => by
    unfold jgcd
    by_cases q : nI b = 0
    · rw [if_pos q]; exact nI_ne0 (by omega) (by omega)
    · have hb0 : 0 < b := Nat.pos_of_ne_zero (fun z => q (by rw [z]; rfl))
      rw [if_neg q, jrem_n ha hb hb0]
      exact jgcd_ne n b (a % b) hb (by have := Nat.mod_lt a hb0; omega) hb0
theorem jgcd_ne2 {n a b : Nat} (ha : a < 2 ^ 31) (hb : b < 2 ^ 31) (h : 0 < b) : ¬ jgcd (n + 1) (nI a) (nI b) = 0 := by
  unfold jgcd
  rw [if_neg (nI_ne0 (by omega) (by omega)), jrem_n ha hb h]
  exact jgcd_ne n b (a % b) hb (by have := Nat.mod_lt a h; omega) h
