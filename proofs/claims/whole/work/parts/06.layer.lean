/-! ===== the layer: one judgement jG for a frame of ours; the heap of ours is a list of cells from E.1 on ===== -/
abbrev jE : Type := Nat × va_G × ClassId × ClassId × Nat × Nat × Nat
abbrev jX : Type := Program × Launch × Env × Room × State × MethodId × Array Value × List Frame × Method × Code × (State → Prop)
abbrev jP (x : jX) : Program := x.1
abbrev jL (x : jX) : Launch := x.2.1
abbrev jEn (x : jX) : Env := x.2.2.1
abbrev jR (x : jX) : Room := x.2.2.2.1
abbrev jS (x : jX) : State := x.2.2.2.2.1
abbrev jM (x : jX) : MethodId := x.2.2.2.2.2.1
abbrev jA (x : jX) : Array Value := x.2.2.2.2.2.2.1
abbrev jB (x : jX) : List Frame := x.2.2.2.2.2.2.2.1
abbrev jMe (x : jX) : Method := x.2.2.2.2.2.2.2.2.1
abbrev jC (x : jX) : Code := x.2.2.2.2.2.2.2.2.2.1
abbrev jQ (x : jX) : State → Prop := x.2.2.2.2.2.2.2.2.2.2
/-- the tables' words that last -/
def jTB : List Cond := lw_tbl.filter goodWord
def jnest (w : Cond) : Bool := match w with
  | .fieldLinkNest _ _ _ _ _ _ => true
  | .methodLinkNest _ _ _ _ => true
  | _ => false
/-- the words on nest mates -/
def jNW : List Cond := lw_tbl.filter jnest
theorem jTB_good : ∀ w ∈ jTB, (w.onTables && w.keeps) = true ∨ ∃ ty, w = .arrayClass ty := fun w h => good_of_word (List.mem_filter.mp h).2
theorem jNW_warm {s U : State} (hW : s.WarmedH U.vm) (h : ∀ w ∈ jNW, va_Nw w s) : ∀ w ∈ jNW, va_Nw w U := by
  intro w hw
  have h1 := h w hw
  have h2 := (List.mem_filter.mp hw).2
  cases w with
  | fieldLinkNest a i b n d hh => exact va_Nw.warmF hW h1
  | methodLinkNest a i y hh => exact va_Nw.warmM hW h1
  | _ => simp [jnest] at h2
theorem jNW_same {u U : State} (hu : u.vm = U.vm) (h : ∀ w ∈ jNW, va_Nw w u) : ∀ w ∈ jNW, va_Nw w U := by
  intro w hw
  have h1 := h w hw
  have h2 := (List.mem_filter.mp hw).2
  cases w with
  | fieldLinkNest a i b n d hh => exact va_Nw.same rfl hu h1
  | methodLinkNest a i y hh => exact va_Nw.same rfl hu h1
  | _ => simp [jnest] at h2
theorem jNW_of {A : Array Value} {U : State} (h : ∀ w ∈ lw_tbl, w.before A U = true) : ∀ w ∈ jNW, va_Nw w U := by
  intro w hw
  have h1 := h w (List.mem_filter.mp hw).1
  have h2 := (List.mem_filter.mp hw).2
  cases w with
  | fieldLinkNest a i b n d hh => exact va_Nw.of rfl h1
  | methodLinkNest a i y hh => exact va_Nw.of rfl h1
  | _ => simp [jnest] at h2
/-- the cells of ours, at their addresses -/
def jw (b : Nat) (h : List va_E) : va_W := h.mapIdx (fun i e => (b + i, e))
theorem jw_at (b : Nat) (h : List va_E) (i : Nat) : (jw b h)[i]? = (h[i]?).map (fun e => (b + i, e)) := by
  simp [jw]
theorem jw_get {b : Nat} {h : List va_E} {i : Nat} {e : va_E} (he : h[i]? = some e) : (jw b h)[i]? = some (b + i, e) := by
  rw [jw_at, he]; rfl
theorem jw_set (b : Nat) (h : List va_E) (i : Nat) (e : va_E) : (jw b h).set i (b + i, e) = jw b (h.set i e) := by
  apply List.ext_getElem?
  intro j
  rw [jw_at, List.getElem?_set, List.getElem?_set]
  by_cases hj : i = j
  · subst hj
    simp only [if_true]
    by_cases hl : i < h.length
    · simp [jw, hl]
    · simp [jw, hl]
  · simp only [hj, if_false]
    rw [jw_at]
theorem jw_push (b : Nat) (h : List va_E) (e : va_E) : jw b h ++ [(b + h.length, e)] = jw b (h ++ [e]) := by
  simp [jw, List.mapIdx_append]
def jb (E : jE) : Nat → Prop := fun q => E.1 ≤ q
theorem jw_D (E : jE) (h : List va_E) : va_D (jb E) (jw E.1 h) := by
  have key : ∀ (k : Nat) (q : Nat × va_E), (jw E.1 h)[k]? = some q → q.1 = E.1 + k := by
    intro k q hq
    rw [jw_at] at hq
    cases hk : h[k]? with
    | none => rw [hk] at hq; cases hq
    | some e => rw [hk] at hq; cases hq; rfl
  refine ⟨fun i j p q hp hq e => ?_, fun k q hq => ?_⟩
  · have h1 := key i p hp
    have h2 := key j q hq
    omega
  · have h1 := key k q hq
    show E.1 ≤ q.1
    omega
def jtys (E : jE) : List (ClassId × FieldType) := [(E.2.2.1, .int), (E.2.2.2.1, .object "JumpDiscs$Game")]
def jtabX (j : Nat) : Int32 := if j = 1 ∨ j = 2 then 40 else 0
def jtabY (j : Nat) : Int32 := if j = 2 ∨ j = 3 then 40 else 0
def jtabP (j : Nat) : Int32 := if j = 0 then 48 else if j = 1 then 24 else if j = 2 then 12 else 0
def jSt (E : jE) (U : State) (H : Heap) : Prop :=
  (va_Z "JumpDiscs" "BASE_X" "[I" (.ref E.2.2.2.2.1) (jb E) U H ∧ va_T .int E.2.2.2.2.1 4 (fun j => .int (jtabX j)) (jb E) U H) ∧
  (va_Z "JumpDiscs" "BASE_Y" "[I" (.ref E.2.2.2.2.2.1) (jb E) U H ∧ va_T .int E.2.2.2.2.2.1 4 (fun j => .int (jtabY j)) (jb E) U H) ∧
  (va_Z "JumpDiscs" "PLACE_TWELFTHS" "[I" (.ref E.2.2.2.2.2.2) (jb E) U H ∧ va_T .int E.2.2.2.2.2.2 4 (fun j => .int (jtabP j)) (jb E) U H)
def jWs (E : jE) (U : State) : Prop := (E.1 ≤ U.heap.size ∧ va_AO "JumpDiscs$Game" U) ∧ va_K E.2.1 vwCl (jtys E) U ∧ (∀ w ∈ jNW, va_Nw w U) ∧ jSt E U U.heap
def jV (E : jE) (h : List va_E) (H : Heap) : Prop := va_P E.2.1 vwCl (jw E.1 h) H
/-- what a frame of ours knows of the heap: how many cells are ours, and what they hold -/
def jH (E : jE) (x : jX) (cells : Nat) (h : List va_E) (H : Heap) : Prop := E.1 + h.length = (jS x).heap.size + cells ∧ jV E h H
def jWd (E : jE) (h : List va_E) (U : State) : Prop := jWs E U ∧ jV E h U.heap ∧ U.heap.size = E.1 + h.length
theorem jV_ge {E : jE} {h : List va_E} {H : Heap} (hV : jV E h H) (hb : E.1 ≤ H.size) : E.1 + h.length ≤ H.size := by
  cases hn : h.length with
  | zero => omega
  | succ n =>
    have h1 : h[n]? = some h[n] := List.getElem?_eq_getElem (by omega)
    have h2 := (hV n _ (jw_get h1)).lt
    have h3 : E.1 + n < H.size := h2
    omega
theorem jSt.moved {E : jE} {u U : State} {H : Heap} (hvm : u.vm.Alike U.vm) (h : jSt E u H) : jSt E U H :=
  ⟨⟨h.1.1.moved hvm, h.1.2.moved hvm⟩, ⟨h.2.1.1.moved hvm, h.2.1.2.moved hvm⟩, ⟨h.2.2.1.moved hvm, h.2.2.2.moved hvm⟩⟩
theorem jSt.kept {E : jE} {U : State} {H H1 : Heap} (h : jSt E U H) (hq : ∀ a : Nat, a < H.size → ¬ jb E a → H1[a]? = H[a]?) : jSt E U H1 :=
  ⟨⟨h.1.1.kept hq, h.1.2.kept hq⟩, ⟨h.2.1.1.kept hq, h.2.1.2.kept hq⟩, ⟨h.2.2.1.kept hq, h.2.2.2.kept hq⟩⟩
theorem jWs.call {E : jE} {s U : State} {H : Heap} {locs : List Loc} (h : jWs E s) (hS : va_S (jb E) s.heap H locs) (hU : U.heap = H) (hW : s.WarmedH U.vm) : jWs E U := by
  refine ⟨⟨by rw [hU]; exact Nat.le_trans h.1.1 hS.1, va_AO.moved hW.alike h.1.2⟩, va_K.moved hW.alike h.2.1, jNW_warm hW h.2.2.1, ?_⟩
  rw [hU]
  exact (h.2.2.2.kept (fun a h1 h2 => hS.2.1 a h1 h2)).moved hW.alike
theorem jWd_blind (E : jE) (h : List va_E) (av : List Value) : FrameBlind (va_Pc av (jWd E h)) := by
  intro a U g mk q
  obtain ⟨q1, ⟨q2, q3, q4, q5⟩, q6⟩ := q
  exact ⟨q1, ⟨⟨q2.1, va_AO.moved (u := U) (U := U.calling g mk a) (Vm.Alike.refl U.vm) q2.2⟩, va_K.moved (u := U) (U := U.calling g mk a) (Vm.Alike.refl U.vm) q3, jNW_same (u := U) (U := U.calling g mk a) rfl q4, jSt.moved (u := U) (U := U.calling g mk a) (Vm.Alike.refl U.vm) q5⟩, q6⟩
/-- the locals, by their places -/
def jlv (lv : List Value) : List (Nat × Value) := (lv.mapIdx (fun i v => (i, v))).filter (fun q => q.2.category == 1)
theorem jlv_mem (lv : List Value) (q : Nat × Value) : q ∈ jlv lv ↔ lv[q.1]? = some q.2 ∧ q.2.category = 1 := by
  simp only [jlv, List.mem_filter, List.mem_mapIdx, beq_iff_eq]
  constructor
  · rintro ⟨⟨i, hi, rfl⟩, h2⟩
    exact ⟨by simp, h2⟩
  · rintro ⟨h1, h2⟩
    obtain ⟨h3, h4⟩ := List.getElem?_eq_some_iff.mp h1
    exact ⟨⟨q.1, h3, by rw [h4]⟩, h2⟩
theorem jlv_at {ls : Array Slot} {nL : Nat} {lv : List Value} (h : lv_has ls nL (jlv lv)) {i : Nat} {v : Value} (hv : lv[i]? = some v) (hc : v.category = 1) : ls[i]? = some (.val v) :=
  h.2.2 (i, v) ((jlv_mem lv (i, v)).mpr ⟨hv, hc⟩)
theorem jlv_less {ls : Array Slot} {nL : Nat} {lv lv2 : List Value} (h : lv_has ls nL (jlv lv)) (hs : ∀ (i : Nat) (v : Value), lv2[i]? = some v → lv[i]? = some v) : lv_has ls nL (jlv lv2) :=
  ⟨h.1, h.2.1, fun q hq => h.2.2 q ((jlv_mem lv q).mpr ⟨hs _ _ ((jlv_mem lv2 q).mp hq).1, ((jlv_mem lv2 q).mp hq).2⟩)⟩
def jset (lv : List Value) (i : Nat) (v : Value) : List Value := if i < lv.length then lv.set i v else lv ++ [v]
theorem jset_at {lv : List Value} {i : Nat} {v : Value} (hi : i ≤ lv.length) (j : Nat) (w : Value) (h : (jset lv i v)[j]? = some w) : (j = i ∧ w = v) ∨ (j ≠ i ∧ lv[j]? = some w) := by
  unfold jset at h
  by_cases hl : i < lv.length
  · rw [if_pos hl, List.getElem?_set] at h
    by_cases hj : i = j
    · subst hj
      simp [hl] at h
      exact Or.inl ⟨rfl, h.symm⟩
    · rw [if_neg hj] at h
      exact Or.inr ⟨Ne.symm hj, h⟩
  · rw [if_neg hl] at h
    have hi' : i = lv.length := by omega
    by_cases hj : j < lv.length
    · rw [List.getElem?_append_left hj] at h
      exact Or.inr ⟨by omega, h⟩
    · have h1 : j = lv.length := by
        have := (List.getElem?_eq_some_iff.mp h).1
        simp at this
        omega
      subst h1
      simp at h
      exact Or.inl ⟨hi'.symm, h.symm⟩
theorem jlv_store {ls : Array Slot} {nL i : Nat} {lv : List Value} {v : Value} (hi : i ≤ lv.length) (h : lv_has ls nL ((i, v) :: (jlv lv).filter (fun q => !(q.1 == i) && !(q.1 + 1 == i && q.2.category == 2)))) : lv_has ls nL (jlv (jset lv i v)) := by
  refine ⟨h.1, h.2.1, fun q hq => h.2.2 q ?_⟩
  obtain ⟨h1, h2⟩ := (jlv_mem _ q).mp hq
  rcases jset_at hi q.1 q.2 h1 with ⟨a, b⟩ | ⟨a, b⟩
  · have e : q = (i, v) := by rw [← a, ← b]
    rw [e]; exact List.mem_cons_self
  · refine List.mem_cons_of_mem _ (List.mem_filter.mpr ⟨(jlv_mem lv q).mpr ⟨b, h2⟩, ?_⟩)
    simp [a, h2]
/-- the machine at a frame of ours comes to its end -/
def jG (E : jE) (x : jX) (cells slots pc : Nat) (lv st : List Value) (h : List va_E) : Prop :=
  ∀ (H : Heap) (locs : List Loc) (ls : Array Slot), lv_has ls (jC x).maxLocals (jlv lv) → jH E x cells h H → va_S (jb E) (jS x).heap H locs → W (jP x) (jL x) (jEn x) (jR x) (jS x) (jM x) (jA x) (jB x) (jMe x) (jC x) H locs cells slots (jQ x) (F0 (jM x) pc ls st)
/-- what holds of a frame of ours: its code, its class, the words, the world at its start, its room -/
def jF (E : jE) (x : jX) (own : String) (cc : ByteArray) (nL d cm sm : Nat) : Prop :=
  (jP x).tables.exec = Jvm.exec ∧ (jC x).code = cc ∧ (jC x).maxLocals = nL ∧ (jS x).vm.findClass own = some (jM x).cls ∧ (∀ w ∈ jTB, w.before (jA x) (jS x) = true) ∧ jWs E (jS x) ∧ d ≤ (jR x).frames ∧ 35 * d ≤ (jR x).locals ∧ cm ≤ (jR x).cells ∧ sm ≤ (jR x).slots
def jQc (E : jE) (r : Option Value) (h' : List va_E) : Array Value → State → Outcome → State → Prop := fun _ st oc t => oc = .returned r ∧ jV E h' t.heap ∧ va_F (jb E) st t
/-- what its end must be -/
def jT (E : jE) (x : jX) (ret : Option FieldType) (r : Option Value) (h' : List va_E) (mc ms : Nat) : Prop :=
  (jMe x).sig.returnType = ret ∧ (jMe x).locks = false ∧ jQ x = MQ (jB x) (jQc E r h') (jA x) (jS x) mc ms (jb E)
/-- a method's contract: from the heap h it returns r with the heap h' -/
def jMd (l : Launch) (E : jE) (y : MethodName) (cc : ByteArray) (nL : Nat) (ret : Option FieldType) (d : Nat) (av : List Value) (h : List va_E) (r : Option Value) (h' : List va_E) (mc ms : Nat) : Prop :=
  h'.length = h.length + mc ∧ Met l y (.code y cc nL ret :: jTB) ({ frames := d, cells := mc, slots := ms, locals := 35 * d }) (va_Pc av (jWd E h)) (jQc E r h') mc ms (jb E)
theorem jlv_args (av : List Value) (hc : ∀ v ∈ av, v.category = 1) : ∀ k i v, av[i]? = some v → (k + i, v) ∈ lv_args k av := by
  induction av with
  | nil => intro k i v h; simp at h
  | cons a l ih =>
    intro k i v h
    have h1 : a.category = 1 := hc a List.mem_cons_self
    have h2 : ¬ a.category = 2 := by omega
    simp only [lv_args, if_neg h2]
    cases i with
    | zero => simp at h; subst h; exact List.mem_cons_self
    | succ i =>
      have h3 := ih (fun w hw => hc w (List.mem_cons_of_mem _ hw)) (k + 1) i v (by simpa using h)
      exact List.mem_cons_of_mem _ (by rw [show k + (i + 1) = k + 1 + i by omega]; exact h3)
theorem jMd_of {l : Launch} {E : jE} {y : MethodName} {cc : ByteArray} {nL : Nat} {ret : Option FieldType} {d : Nat} {av : List Value} {h : List va_E} {r : Option Value} {h' : List va_E} {mc ms : Nat} (hy : plainName y.cls = true) (hn : (lg_sl av).length ≤ nL) (hc : ∀ v ∈ av, v.category = 1) (hlen : h'.length = h.length + mc)
    (body : ∀ x : jX, jL x = l → jF E x y.cls cc nL d mc ms → jT E x ret r h' mc ms → ((jMe x).name = y.name) → jG E x 0 0 0 av [] h) : jMd l E y cc nL ret d av h r h' mc ms := by
  refine ⟨hlen, Met.ofW (cc := cc) (maxL := nL) (ret := ret) hy rfl ?_⟩
  intro p e s m args below meth c s₁ B hml hv
  obtain ⟨rfl, hWs, hH, hz⟩ := hv
  have hts := atoms_spec (ws := .code y cc nL ret :: jTB) B.pre
  have hl := lv_entry av (n := nL) hn
  have key := body (p, l, e, { frames := d, cells := mc, slots := ms, locals := 35 * d }, s, m, av.toArray, below, meth, c, MQ below (jQc E r h') av.toArray s mc ms (jb E)) rfl
    ⟨B.exec, B.bytes, hml, findClass_of_methodNamed B.named, fun w hw => hts w (List.mem_cons_of_mem _ hw), hWs, Nat.le_refl _, Nat.le_refl _, Nat.le_refl _, Nat.le_refl _⟩ ⟨B.returns, B.notSynchronized, rfl⟩ (name_of_methodNamed B.named B.method).1
  rw [lg_entry_eq]
  refine key s.heap [] _ ?_ ⟨hz.symm, hH⟩ va_S.rf
  rw [show (jC (p, l, e, ({ frames := d, cells := mc, slots := ms, locals := 35 * d } : Room), s, m, av.toArray, below, meth, c, MQ below (jQc E r h') av.toArray s mc ms (jb E))).maxLocals = nL from hml]
  refine ⟨hl.1, hl.2.1, fun q hq => hl.2.2 q ?_⟩
  have h3 := (jlv_mem av q).mp hq
  have h4 := jlv_args av hc 0 q.1 q.2 h3.1
  simpa using h4
