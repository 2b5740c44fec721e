/-! ===== copies of rows, new cells, rows of references ===== -/
theorem jcell_ext (cA : ClassId) (n : Nat) {f g : Nat → Int32} (h : ∀ k, k < n → f k = g k) : vp_cell cA (n, .inl f) = vp_cell cA (n, .inl g) := by
  rw [vp_cell_i, vp_cell_i]
  unfold arrV
  congr 1
  apply congrArg
  funext j
  show Value.int (f j.val) = Value.int (g j.val)
  rw [h j.val j.isLt]
theorem jV_arr {E : jE} {h : List va_E} {i n : Nat} {f g : Nat → Int32} {H : Heap} (hfg : ∀ k, k < n → f k = g k) (hV : jV E (h.set i (jar E n f)) H) : jV E (h.set i (jar E n g)) H := by
  intro k q hq
  rw [jw_at, List.getElem?_set] at hq
  by_cases e : i = k
  · subst e
    by_cases hl : i < h.length
    · have h1 : (h.set i (jar E n f))[i]? = some (jar E n f) := by simp [hl]
      have h2 := hV i _ (jw_get h1)
      simp [hl] at hq
      subst hq
      have h3 : H[E.1 + i]? = some (vp_cell E.2.2.1 (n, .inl f)) := h2
      show H[E.1 + i]? = some (vp_cell E.2.2.1 (n, .inl g))
      rw [h3, jcell_ext E.2.2.1 n hfg]
    · simp [hl] at hq
  · rw [if_neg e] at hq
    refine hV k q ?_
    rw [jw_at, List.getElem?_set, if_neg e]
    exact hq
section JAL
variable {E : jE} {x : jX} {own : String} {cc : ByteArray} {nL d cm sm cells slots pc : Nat} {lv st : List Value} {h : List va_E}
/-- System.arraycopy of a whole row over another of the same length -/
theorem jG_copy (F : jF E x own cc nL d cm sm) {index i j n : Nat} {f g : Nat → Int32} {nn z0 z1 : Int32} (hw : Cond.methodLink own index arraycopyName ∈ jTB) (h1 : Cond.native arraycopyName ∈ jTB) (h2 : Cond.static arraycopyName ∈ jTB) (h3 : Cond.initialized "java/lang/System" ∈ jTB) (hd : 1 ≤ d) (hz0 : z0 = 0) (hz1 : z1 = 0) (hnn : nn = nI n) (hn : n < 2 ^ 31) (ha : h[j]? = some (jar E n f)) (hb : h[i]? = some (jar E n g)) (hcat : (st.map fun v => v.category).sum ≤ 8) (dg : decode cc pc = .ok (.invokestatic index, 3)) (k : jG E x cells slots (pc + 3) lv st (h.set i (jar E n f))) : jG E x cells slots pc lv (.int nn :: .int z1 :: .ref (E.1 + i) :: .int z0 :: .ref (E.1 + j) :: st) h := by
  subst hz0; subst hz1; subst hnn
  intro H locs ls hl hH hS
  have hfr := F.2.2.2.2.2.2.1
  have hlo := F.2.2.2.2.2.2.2.1
  have ok := F.2.2.2.2.1
  have hc : (nI n).toNatClampNeg = n := nI_clamp hn
  have h0 : (0 : Int32).toNatClampNeg = 0 := by decide
  have hfw : nativeFrameWords "java/lang/System" "arraycopy" 5 + 11 ≤ 27 := by decide +kernel
  refine va_copyi (D := E.2.1) (sp := 0) (dp := 0) (n := nI n) F.1 F.2.1 hl.1.symm F.2.2.2.1 (ok _ hw) (ok _ h1) (ok _ h2) (ok _ h3) F.2.2.2.2.2.1.2.1 hH.2 (jw_D E h) hS j i 0 0 (jw_get ha) (jw_get hb) rfl rfl rfl (by decide) (by decide) (nI_pos hn) (by rw [hc, h0]; omega) (by rw [hc, h0]; omega) (fun _ _ => rfl) (by omega) (by omega) dg (fun H1 locs1 hP1 hD1 hS1 => ?_)
  have hH1 : jH E x cells (h.set i (jar E n (va_cpy f g (0 : Int32).toNatClampNeg (0 : Int32).toNatClampNeg (nI n).toNatClampNeg))) H1 := jH_set hH hP1
  refine k H1 locs1 ls hl ⟨by rw [List.length_set]; exact hH.1, jV_arr (fun q hq => ?_) hH1.2⟩ hS1
  rw [hc, h0]
  simp [va_cpy, hq]
theorem jnewq {h : List va_E} {q : Nat} {e : va_E} {A : Nat → Prop} (hD : va_D (jb E) (jw E.1 h ++ [(q, e)])) (hq : q < E.1 + h.length + 1) : q = E.1 + h.length := by
  have h1 : E.1 ≤ q := by
    have := hD.2 (jw E.1 h).length (q, e) (by simp)
    exact this
  have hl : (jw E.1 h).length = h.length := by simp [jw]
  rcases Nat.lt_or_ge q (E.1 + h.length) with h2 | h2
  · exfalso
    obtain ⟨i, rfl⟩ : ∃ i, q = E.1 + i := ⟨q - E.1, by omega⟩
    have hi : i < h.length := by omega
    have h3 : (jw E.1 h ++ [(E.1 + i, e)])[i]? = some (E.1 + i, h[i]) := by
      rw [List.getElem?_append_left (by rw [hl]; exact hi)]
      exact jw_get (List.getElem?_eq_getElem hi)
    have h4 : (jw E.1 h ++ [(E.1 + i, e)])[h.length]? = some (E.1 + i, e) := by
      rw [List.getElem?_append_right (by rw [hl]; exact Nat.le_refl _), hl]; simp
    have := hD.1 i h.length _ _ h3 h4 rfl
    omega
  · omega
theorem jG_new (F : jF E x own cc nL d cm sm) {C : String} {T : u_T} {N ci index : Nat} {fs : List Value} (ty : Nat → FieldType) (hty : ∀ k, k < N → parseFieldDescriptor (T k).2.2.1 = some (ty k)) (hc : vwCl[ci]? = some (C, T, N)) (hin : ∀ w ∈ u_ws C T N, w ∈ jTB) (hcl : Cond.classLink own index C ∈ jTB) (hinst : Cond.instantiable C N ∈ jTB) (hini : Cond.initialized C ∈ jTB) (hfs : ∀ j, j < N → defaultValue (ty j) = vp_V fs j) (hcm : cells + 1 ≤ cm) (hsm : slots + N ≤ sm) (dg : decode cc pc = .ok (.new index, 3))
    (k : jG E x (cells + 1) (slots + N) (pc + 3) lv (.ref (E.1 + h.length) :: st) (h ++ [.inr (ci, fs)])) : jG E x cells slots pc lv st h := by
  intro H locs ls hl hH hS
  have ok := F.2.2.2.2.1
  have hce := F.2.2.2.2.2.2.2.2.1
  have hsl := F.2.2.2.2.2.2.2.2.2
  refine va_new (D := E.2.1) F.1 F.2.1 ok hin ty hty F.2.2.2.1 (ok _ hcl) (ok _ hinst) (ok _ hini) F.2.2.2.2.2.1.2.1 hH.2 (jw_D E h) hS (fun q hq => Nat.le_trans F.2.2.2.2.2.1.1.1 hq) hc hfs (by omega) (by omega) dg (fun q H1 hP1 hD1 hS1 => ?_)
  intro T0 hT X
  have hz := X.heapSize
  rw [hT] at hz
  have h1 : q < H1.size := (hP1 (jw E.1 h).length (q, .inr (ci, fs)) (by simp)).lt
  have h2 := hH.1
  have e : q = E.1 + h.length := jnewq (A := jb E) hD1 (by omega)
  subst e
  refine k H1 locs ls hl ⟨by rw [List.length_append, List.length_singleton]; omega, ?_⟩ hS1 T0 hT X
  rw [jw_push] at hP1
  exact hP1
theorem jG_newarray (F : jF E x own cc nL d cm sm) {n : Int32} {N : Nat} (hw : Cond.arrayClass .int ∈ jTB) (hn : n = nI N) (hN : N < 1000000) (hcm : cells + 1 ≤ cm) (hsm : slots + N ≤ sm) (dg : decode cc pc = .ok (.newarray .int, 2))
    (k : jG E x (cells + 1) (slots + N) (pc + 2) lv (.ref (E.1 + h.length) :: st) (h ++ [jar E N (fun _ => 0)])) : jG E x cells slots pc lv (.int n :: st) h := by
  subst hn
  intro H locs ls hl hH hS
  have ok := F.2.2.2.2.1
  have hce := F.2.2.2.2.2.2.2.2.1
  have hsl := F.2.2.2.2.2.2.2.2.2
  refine va_newa (atype := .int) (D := E.2.1) (a0 := (N, .inl (fun _ => 0))) F.1 F.2.1 (ok _ hw) rfl F.2.2.2.2.2.1.2.1 hH.2 (jw_D E h) hS (fun q hq => Nat.le_trans F.2.2.2.2.2.1.1.1 hq) (fun cA => rfl) (nI_pos (by omega)) (nI_clamp (by omega)) (by show N * 4 ≤ _; omega) (by omega) (by omega) dg (fun q cA H1 hK1 hP1 hD1 hS1 => ?_)
  have hcA : cA = E.2.2.1 := by
    have a1 := (hK1.2 2 (cA, .int) rfl).2
    have a2 := (F.2.2.2.2.2.1.2.1.2 0 (E.2.2.1, .int) rfl).2
    have b1 : (jS x).vm.findClass ("[" ++ FieldType.int.toString) = some cA := a1
    have b2 : (jS x).vm.findClass ("[" ++ FieldType.int.toString) = some E.2.2.1 := a2
    exact Option.some.inj (b1.symm.trans b2)
  subst hcA
  intro T0 hT X
  have hz := X.heapSize
  rw [hT] at hz
  have h1 : q < H1.size := (hP1 (jw E.1 h).length (q, .inl (E.2.2.1, (N, .inl (fun _ => 0)))) (by simp)).lt
  have h2 := hH.1
  have e : q = E.1 + h.length := jnewq (A := jb E) hD1 (by omega)
  subst e
  refine k H1 locs ls hl ⟨by rw [List.length_append, List.length_singleton]; omega, ?_⟩ hS1 T0 hT X
  rw [jw_push] at hP1
  exact hP1
theorem jG_objInit (F : jF E x own cc nL d cm sm) {index b : Nat} (hl0 : Cond.methodLink own index Lib.objectInit ∈ jTB) (hi0 : Cond.instanceMethod Lib.objectInit ∈ jTB) (hc0 : Cond.code Lib.objectInit ⟨#[0xb1]⟩ 1 none ∈ jTB) (hd : 1 ≤ d) (hcat : (st.map fun v => v.category).sum ≤ 8) (dg : decode cc pc = .ok (.invokespecial index, 3)) (k : jG E x cells slots (pc + 3) lv st h) : jG E x cells slots pc lv (.ref b :: st) h := by
  intro H locs ls hl hH hS
  have ok := F.2.2.2.2.1
  have hfr := F.2.2.2.2.2.2.1
  have hlo := F.2.2.2.2.2.2.2.1
  exact W.objInit F.1 F.2.1 F.2.2.2.1 (ok _ hl0) (ok _ hi0) (ok _ hc0) rfl hl.1 rfl dg (by omega) (by show 2 * 0 + _ + 12 ≤ _; omega) (k H locs ls hl hH hS)
/-- rows of Games -/
abbrev jgr (E : jE) (n : Nat) (f : Nat → Option Nat) : va_E := .inl (E.2.2.2.1, n, .inr (.inr (.inr (.inr f))))
theorem jG_aaload (F : jF E x own cc nL d cm sm) {i n k0 b : Nat} {f : Nat → Option Nat} {j : Int32} (dg : decode cc pc = .ok (.aaload, 1)) (he : h[i]? = some (jgr E n f)) (hj : j = nI k0) (hk : k0 < n) (hn : n < 2 ^ 31) (hf : f k0 = some b) (k : jG E x cells slots (pc + 1) lv (.ref b :: st) h) : jG E x cells slots pc lv (.int j :: .ref (E.1 + i) :: st) h := by
  subst hj
  intro H locs ls hl hH hS
  refine va_aldq (D := E.2.1) F.1 F.2.1 F.2.2.2.2.2.1.2.1 hH.2 i 1 (jw_get he) rfl (vp_in_nI hk hn) dg ?_
  rw [nI_clamp (Nat.lt_trans hk hn), hf]
  exact k H locs ls hl hH hS
theorem jG_aastore (F : jF E x own cc nL d cm sm) {i n k0 g0 : Nat} {fs : List Value} {f : Nat → Option Nat} {j : Int32} (dg : decode cc pc = .ok (.aastore, 1)) (he : h[i]? = some (jgr E n f)) (hg : h[g0]? = some (.inr (2, fs))) (hj : j = nI k0) (hk : k0 < n) (hn : n < 2 ^ 31) (k : jG E x cells slots (pc + 1) lv st (h.set i (jgr E n (va_up f k0 (some (E.1 + g0)))))) : jG E x cells slots pc lv (.ref (E.1 + g0) :: .int j :: .ref (E.1 + i) :: st) h := by
  subst hj
  intro H locs ls hl hH hS
  refine va_astq (D := E.2.1) (r := (RX2, TX2, 8)) F.1 F.2.1 F.2.2.2.2.2.1.2.1 hH.2 (jw_D E h) hS i 1 g0 2 (jw_get he) rfl (jw_get hg) rfl (vp_in_nI hk hn) dg (fun H1 locs1 hP1 hD1 hS1 => ?_)
  have hH1 := jH_set hH hP1
  rw [nI_clamp (Nat.lt_trans hk hn)] at hH1
  exact k H1 locs1 ls hl hH1 hS1
theorem jG_newq (F : jF E x own cc nL d cm sm) {index N : Nat} {n : Int32} (hcl : Cond.classLink own index "JumpDiscs$Game" ∈ jTB) (hn : n = nI N) (hN : N < 1000000) (hcm : cells + 1 ≤ cm) (hsm : slots + N ≤ sm) (dg : decode cc pc = .ok (.anewarray index, 3))
    (k : jG E x (cells + 1) (slots + N) (pc + 3) lv (.ref (E.1 + h.length) :: st) (h ++ [jgr E N (fun _ => none)])) : jG E x cells slots pc lv (.int n :: st) h := by
  subst hn
  intro H locs ls hl hH hS
  have ok := F.2.2.2.2.1
  have hce := F.2.2.2.2.2.2.2.2.1
  have hsl := F.2.2.2.2.2.2.2.2.2
  refine va_newq (D := E.2.1) (C := "JumpDiscs$Game") F.1 F.2.1 F.2.2.2.1 (ok _ hcl) F.2.2.2.2.2.1.1.2 F.2.2.2.2.2.1.2.1 hH.2 (jw_D E h) hS (fun q hq => Nat.le_trans F.2.2.2.2.2.1.1.1 hq) (nI_pos (by omega)) (nI_clamp (by omega)) (by omega) (by omega) (by omega) dg (fun q cA H1 hK1 hP1 hD1 hS1 => ?_)
  have hcA : cA = E.2.2.2.1 := by
    obtain ⟨_, _, _, _, _, b1⟩ := (hK1.2 2 (cA, .object "JumpDiscs$Game") rfl).2
    obtain ⟨_, _, _, _, _, b2⟩ := (F.2.2.2.2.2.1.2.1.2 1 (E.2.2.2.1, .object "JumpDiscs$Game") rfl).2
    exact Option.some.inj (b1.symm.trans b2)
  subst hcA
  intro T0 hT X
  have hz := X.heapSize
  rw [hT] at hz
  have h1 : q < H1.size := (hP1 (jw E.1 h).length (q, .inl (E.2.2.2.1, (N, .inr (.inr (.inr (.inr (fun _ => none))))))) (by simp)).lt
  have h2 := hH.1
  have e : q = E.1 + h.length := jnewq (A := jb E) hD1 (by omega)
  subst e
  refine k H1 locs ls hl ⟨by rw [List.length_append, List.length_singleton]; omega, ?_⟩ hS1 T0 hT X
  rw [jw_push] at hP1
  exact hP1
end JAL
