/-! ===== stores, statics, calls ===== -/
section JK
variable {E : jE} {x : jX} {own : String} {cc : ByteArray} {nL d cm sm cells slots pc : Nat} {lv st : List Value} {h : List va_E}
theorem jH_set {i : Nat} {e : va_E} {H H1 : Heap} (hH : jH E x cells h H) (hP : va_P E.2.1 vwCl ((jw E.1 h).set i (E.1 + i, e)) H1) : jH E x cells (h.set i e) H1 :=
  ⟨by rw [List.length_set]; exact hH.1, by rw [jw_set] at hP; exact hP⟩
theorem jG_put (F : jF E x own cc nL d cm sm) {C : String} {T : u_T} {N ci index i : Nat} (k0 : Nat) {fs : List Value} {v : Value} (ty0 : Nat → FieldType) (hty : ∀ k, k < N → parseFieldDescriptor (T k).2.2.1 = some (ty0 k)) (hnm : ∀ a, a < N → ∀ b, b < N → a ≠ b → (T a).2.1 ≠ (T b).2.1) (hc : vwCl[ci]? = some (C, T, N)) (hin : ∀ w ∈ u_ws C T N, w ∈ jTB) (hk : k0 < N) (hw : Cond.fieldLink own index (T k0).1 (T k0).2.1 (T k0).2.2.1 ∈ jTB) (hfin : (T k0).2.2.2 = false) (dg : decode cc pc = .ok (.putfield index, 3)) (he : h[i]? = some (.inr (ci, fs))) (hn : narrow (ty0 k0) v = v) (hfit : fits (ty0 k0) v = true) (hl0 : k0 < fs.length) (k : jG E x cells slots (pc + 3) lv st (h.set i (.inr (ci, fs.set k0 v)))) : jG E x cells slots pc lv (v :: .ref (E.1 + i) :: st) h :=
  fun H locs ls hl hH hS => va_put (D := E.2.1) F.1 F.2.1 F.2.2.2.2.1 hin ty0 hty hnm F.2.2.2.1 F.2.2.2.2.2.1.2.1 hH.2 (jw_D E h) hS i (jw_get he) hc k0 hk (F.2.2.2.2.1 _ hw) (fun _ q => q) hfin (hty k0 hk) hn hfit hl0 dg (fun H1 locs1 hP1 hD1 hS1 => k H1 locs1 ls hl (jH_set hH hP1) hS1)
theorem jG_putN (F : jF E x own cc nL d cm sm) {C host : String} {T : u_T} {N ci index i : Nat} (k0 : Nat) {fs : List Value} {v : Value} (ty0 : Nat → FieldType) (hty : ∀ k, k < N → parseFieldDescriptor (T k).2.2.1 = some (ty0 k)) (hnm : ∀ a, a < N → ∀ b, b < N → a ≠ b → (T a).2.1 ≠ (T b).2.1) (hc : vwCl[ci]? = some (C, T, N)) (hin : ∀ w ∈ u_ws C T N, w ∈ jTB) (hk : k0 < N) (hw : Cond.fieldLinkNest own index (T k0).1 (T k0).2.1 (T k0).2.2.1 host ∈ jNW) (hfin : (T k0).2.2.2 = false) (dg : decode cc pc = .ok (.putfield index, 3)) (he : h[i]? = some (.inr (ci, fs))) (hn : narrow (ty0 k0) v = v) (hfit : fits (ty0 k0) v = true) (hl0 : k0 < fs.length) (k : jG E x cells slots (pc + 3) lv st (h.set i (.inr (ci, fs.set k0 v)))) : jG E x cells slots pc lv (v :: .ref (E.1 + i) :: st) h :=
  fun H locs ls hl hH hS => va_putN (D := E.2.1) F.1 F.2.1 F.2.2.2.2.1 hin ty0 hty hnm F.2.2.2.1 F.2.2.2.2.2.1.2.1 hH.2 (jw_D E h) hS i (jw_get he) hc k0 hk (va_Nw.use rfl (F.2.2.2.2.2.1.2.2.1 _ hw)) (fun _ q => q) hfin (hty k0 hk) hn hfit hl0 dg (fun H1 locs1 hP1 hD1 hS1 => k H1 locs1 ls hl (jH_set hH hP1) hS1)
theorem jG_putF (F : jF E x own cc nL d cm sm) {T : u_T} {N ci index i : Nat} (k0 : Nat) {fs : List Value} {v : Value} (ty0 : Nat → FieldType) (hty : ∀ k, k < N → parseFieldDescriptor (T k).2.2.1 = some (ty0 k)) (hnm : ∀ a, a < N → ∀ b, b < N → a ≠ b → (T a).2.1 ≠ (T b).2.1) (hc : vwCl[ci]? = some (own, T, N)) (hin : ∀ w ∈ u_ws own T N, w ∈ jTB) (hk : k0 < N) (hw : Cond.fieldLink own index (T k0).1 (T k0).2.1 (T k0).2.2.1 ∈ jTB) (hfin : (T k0).2.2.2 = true) (hdecl : (T k0).1 = own) (hm : (jMe x).name = "<init>") (dg : decode cc pc = .ok (.putfield index, 3)) (he : h[i]? = some (.inr (ci, fs))) (hn : narrow (ty0 k0) v = v) (hfit : fits (ty0 k0) v = true) (hl0 : k0 < fs.length) (k : jG E x cells slots (pc + 3) lv st (h.set i (.inr (ci, fs.set k0 v)))) : jG E x cells slots pc lv (v :: .ref (E.1 + i) :: st) h :=
  fun H locs ls hl hH hS => va_putF (D := E.2.1) F.1 F.2.1 F.2.2.2.2.1 hin ty0 hty hnm F.2.2.2.1 F.2.2.2.2.2.1.2.1 hH.2 (jw_D E h) hS i (jw_get he) hc k0 hk (F.2.2.2.2.1 _ hw) (fun _ q => q) hfin hm hdecl (hty k0 hk) hn hfit hl0 dg (fun H1 locs1 hP1 hD1 hS1 => k H1 locs1 ls hl (jH_set hH hP1) hS1)
theorem jG_iastore (F : jF E x own cc nL d cm sm) {i n : Nat} {f : Nat → Int32} {j v : Int32} (dg : decode cc pc = .ok (.iastore, 1)) (he : h[i]? = some (.inl (E.2.2.1, n, .inl f))) (hin : vp_in j n) (k : jG E x cells slots (pc + 1) lv st (h.set i (.inl (E.2.2.1, n, .inl (upd f j.toNatClampNeg v))))) : jG E x cells slots pc lv (.int v :: .int j :: .ref (E.1 + i) :: st) h :=
  fun H locs ls hl hH hS => va_iast (D := E.2.1) F.1 F.2.1 F.2.2.2.2.2.1.2.1 hH.2 (jw_D E h) hS i 0 (jw_get he) rfl hin dg (fun H1 locs1 hP1 hD1 hS1 => k H1 locs1 ls hl (jH_set hH hP1) hS1)
theorem jG_baseX (F : jF E x own cc nL d cm sm) {index : Nat} (hw : Cond.fieldLink own index "JumpDiscs" "BASE_X" "[I" ∈ jTB) (dg : decode cc pc = .ok (.getstatic index, 3)) (k : jG E x cells slots (pc + 3) lv (.ref E.2.2.2.2.1 :: st) h) : jG E x cells slots pc lv st h :=
  fun H locs ls hl hH hS => va_gets F.1 F.2.1 F.2.2.2.2.2.1.2.2.2.1.1 hS F.2.2.2.1 (F.2.2.2.2.1 _ hw) (fun _ q => q) dg (k H locs ls hl hH hS)
theorem jG_tab {t : Nat} {f : Nat → Int32} (F : jF E x own cc nL d cm sm) (hT : va_T .int t 4 (fun j => .int (f j)) (jb E) (jS x) (jS x).heap) {j : Int32} (dg : decode cc pc = .ok (.iaload, 1)) (hin : vp_in j 4) (k : jG E x cells slots (pc + 1) lv (.int (f j.toNatClampNeg) :: st) h) : jG E x cells slots pc lv (.int j :: .ref t :: st) h :=
  fun H locs ls hl hH hS => va_ti F.1 F.2.1 hT hS hin rfl dg (k H locs ls hl hH hS)
theorem jS_call {H H1 S0 : Heap} {locs L : List Loc} {st0 t : State} (hS : va_S (jb E) S0 H locs) (h0 : st0.heap = H) (h1 : H1 = t.heap) (hF : va_F (jb E) st0 t) (hL : ∀ q ∈ L, jb E q.base) : va_S (jb E) S0 H1 (locs ++ L) := by
  subst h0; subst h1
  refine ⟨Nat.le_trans hS.1 hF.1, fun q h1 h2 => by rw [hF.2 q (Nat.lt_of_lt_of_le h1 hS.1) h2]; exact hS.2.1 q h1 h2, fun q hq => ?_⟩
  rcases List.mem_append.mp hq with h | h
  · exact hS.2.2 q h
  · exact hL q h
/-- the callee's start, out of the caller's frame -/
theorem jPre {T : State} {H : Heap} {locs : List Loc} {As : List Value} (hWs : jWs E (jS x)) (hH : jH E x cells h H) (hS : va_S (jb E) (jS x).heap H locs) (hz : H.size ≤ (jS x).heap.size + cells) (U : State) (hU : U.heap = H) (hW : (jS x).WarmedH U.vm) : va_Pc As (jWd E h) As.toArray U := by
  refine ⟨rfl, hWs.call hS hU hW, by rw [hU]; exact hH.2, ?_⟩
  have h1 := jV_ge hH.2 (Nat.le_trans hWs.1.1 hS.1)
  have h2 := hH.1
  rw [hU]
  omega
theorem jGood {y : MethodName} {bytes : ByteArray} {maxL : Nat} {ret : Option FieldType} (hc : Cond.code y bytes maxL ret ∈ jTB) : GoodIn jTB (.code y bytes maxL ret :: jTB) := by
  intro w hw
  rcases List.mem_cons.mp hw with rfl | hw
  · exact ⟨hc, jTB_good _ hc⟩
  · exact ⟨hw, jTB_good _ hw⟩
/-- behind any call of ours -/
theorem jG_run {y : MethodName} {r : Option Value} {h' : List va_E} {mc ms : Nat} {av : Array Value} {rest : List Value} (hlen : h'.length = h.length + mc)
    (run : ∀ (H : Heap) (locs : List Loc) (ls : Array Slot), lv_has ls (jC x).maxLocals (jlv lv) → jH E x cells h H → va_S (jb E) (jS x).heap H locs → H.size ≤ (jS x).heap.size + cells → va_Run (jP x) (jL x) (jEn x) (jR x) (jS x) (jM x) (jA x) (jB x) (jMe x) (jC x) H locs cells slots mc ms (F0 (jM x) pc ls st) rest (jQc E r h' av) (jb E))
    (k : jG E x (cells + mc) (slots + ms) (pc + 3) lv (r.toList ++ rest) h') : jG E x cells slots pc lv st h := by
  intro H locs ls hl hH hS T hT X
  obtain ⟨v, st₀, t, T', L, h0, X', hL, e1, e2, ⟨hv, hV, hF⟩, stp⟩ := run H locs ls hl hH hS (by rw [← hT]; exact X.heapSize) T hT X
  cases hv
  obtain ⟨t2, a1, b1⟩ := k T'.heap (locs ++ L) ls hl ⟨by rw [hlen, ← Nat.add_assoc, hH.1, Nat.add_assoc], by rw [e1]; exact hV⟩ (jS_call hS h0 e1 hF hL) T' rfl X'
  exact ⟨t2, stp t2 a1, b1⟩
theorem jG_callV (F : jF E x own cc nL d cm sm) {y : MethodName} {bytes : ByteArray} {maxL : Nat} {ret : Option FieldType} {d' i n index ci N mc ms : Nat} {T : u_T} {As rest fs : List Value} {r : Option Value} {h' : List va_E}
    (hw : Cond.code y bytes maxL ret ∈ jTB ∧ Cond.methodLink own index y ∈ jTB ∧ Cond.instanceMethod y ∈ jTB ∧ Cond.selects y.cls y y ∈ jTB ∧ Cond.initialized y.cls ∈ jTB)
    (hd : y.cls ≠ "java/lang/invoke/MethodHandle" ∧ y.cls ≠ "java/lang/invoke/VarHandle" ∧ (parseMethodDescriptor y.desc).map (fun q => q.parameters.length) = some n) (hm : maxL ≤ 16) (hc : vwCl[ci]? = some (y.cls, T, N))
    (hM : jMd (jL x) E y bytes maxL ret d' (.ref (E.1 + i) :: As) h r h' mc ms) (hR : d' + 1 ≤ d) (he : h[i]? = some (.inr (ci, fs))) (hn : As.length = n) (hst : st = As.reverse ++ .ref (E.1 + i) :: rest) (hcat : (rest.map fun v => v.category).sum ≤ 8) (dg : decode cc pc = .ok (.invokevirtual index, 3)) (hcm : cells + mc ≤ cm) (hsm : slots + ms ≤ sm)
    (k : jG E x (cells + mc) (slots + ms) (pc + 3) lv (r.toList ++ rest) h') : jG E x cells slots pc lv st h := by
  refine jG_run (av := (Value.ref (E.1 + i) :: As).toArray) (y := y) hM.1 (fun H locs ls hl hH hS hz => ?_) k
  have ok := F.2.2.2.2.1
  have hfr := F.2.2.2.2.2.2.1
  have hlo := F.2.2.2.2.2.2.2.1
  have hce := F.2.2.2.2.2.2.2.2.1
  have hsl := F.2.2.2.2.2.2.2.2.2
  refine va_runV (n := n) ⟨F.1, F.2.1, rfl, F.2.2.2.1, ok⟩ hM.2 ⟨callB_of n ok (jGood hw.1) rfl rfl rfl (ok _ hw.2.2.2.2) (ok _ hw.2.1) hd ⟨by show d' + 1 ≤ _; omega, by show 8 + (maxL + 11) + 35 * d' ≤ _; omega⟩, ok _ hw.2.2.1, ok _ hw.2.2.2.1⟩ ⟨jWd_blind E h _, ?_, jPre (T := jS x) F.2.2.2.2.2.1 hH hS hz⟩ rfl hn hl.1 hst (lv_room hcat) dg ⟨by omega, by omega⟩
  exact va_recv F.2.2.2.2.2.1.2.1 hH.2 hc (jw_get he)
theorem jG_callS (F : jF E x own cc nL d cm sm) {y : MethodName} {bytes : ByteArray} {maxL : Nat} {ret : Option FieldType} {d' n index mc ms : Nat} {As rest : List Value} {r : Option Value} {h' : List va_E}
    (hw : Cond.code y bytes maxL ret ∈ jTB ∧ Cond.methodLink own index y ∈ jTB ∧ Cond.static y ∈ jTB ∧ Cond.initialized y.cls ∈ jTB)
    (hd : y.cls ≠ "java/lang/invoke/MethodHandle" ∧ y.cls ≠ "java/lang/invoke/VarHandle" ∧ (parseMethodDescriptor y.desc).map (fun q => q.parameters.length) = some n) (hm : maxL ≤ 16)
    (hM : jMd (jL x) E y bytes maxL ret d' As h r h' mc ms) (hR : d' + 1 ≤ d) (hn : As.length = n) (hst : st = As.reverse ++ rest) (hcat : (rest.map fun v => v.category).sum ≤ 8) (dg : decode cc pc = .ok (.invokestatic index, 3)) (hcm : cells + mc ≤ cm) (hsm : slots + ms ≤ sm)
    (k : jG E x (cells + mc) (slots + ms) (pc + 3) lv (r.toList ++ rest) h') : jG E x cells slots pc lv st h := by
  refine jG_run (av := As.toArray) (y := y) hM.1 (fun H locs ls hl hH hS hz => ?_) k
  have ok := F.2.2.2.2.1
  have hfr := F.2.2.2.2.2.2.1
  have hlo := F.2.2.2.2.2.2.2.1
  have hce := F.2.2.2.2.2.2.2.2.1
  have hsl := F.2.2.2.2.2.2.2.2.2
  exact va_runS (n := n) ⟨F.1, F.2.1, rfl, F.2.2.2.1, ok⟩ hM.2 ⟨callB_of n ok (jGood hw.1) rfl rfl rfl (ok _ hw.2.2.2) (ok _ hw.2.1) hd ⟨by show d' + 1 ≤ _; omega, by show 8 + (maxL + 11) + 35 * d' ≤ _; omega⟩, ok _ hw.2.2.1⟩ ⟨jWd_blind E h _, jPre (T := jS x) F.2.2.2.2.2.1 hH hS hz⟩ rfl hn hl.1 hst (lv_room hcat) dg ⟨by omega, by omega⟩
theorem jG_callI (F : jF E x own cc nL d cm sm) {y : MethodName} {bytes : ByteArray} {maxL : Nat} {d' n index mc ms b : Nat} {As rest : List Value} {r : Option Value} {h' : List va_E}
    (hw : Cond.code y bytes maxL none ∈ jTB ∧ Cond.methodLink own index y ∈ jTB ∧ Cond.instanceMethod y ∈ jTB ∧ Cond.initialized y.cls ∈ jTB) (hi : y.name = "<init>")
    (hd : y.cls ≠ "java/lang/invoke/MethodHandle" ∧ y.cls ≠ "java/lang/invoke/VarHandle" ∧ (parseMethodDescriptor y.desc).map (fun q => q.parameters.length) = some n) (hm : maxL ≤ 16)
    (hM : jMd (jL x) E y bytes maxL none d' (.ref b :: As) h r h' mc ms) (hR : d' + 1 ≤ d) (hn : As.length = n) (hst : st = As.reverse ++ .ref b :: rest) (hcat : (rest.map fun v => v.category).sum ≤ 8) (dg : decode cc pc = .ok (.invokespecial index, 3)) (hcm : cells + mc ≤ cm) (hsm : slots + ms ≤ sm)
    (k : jG E x (cells + mc) (slots + ms) (pc + 3) lv (r.toList ++ rest) h') : jG E x cells slots pc lv st h := by
  refine jG_run (av := (Value.ref b :: As).toArray) (y := y) hM.1 (fun H locs ls hl hH hS hz => ?_) k
  have ok := F.2.2.2.2.1
  have hfr := F.2.2.2.2.2.2.1
  have hlo := F.2.2.2.2.2.2.2.1
  have hce := F.2.2.2.2.2.2.2.2.1
  have hsl := F.2.2.2.2.2.2.2.2.2
  exact va_runI (n := n) ⟨F.1, F.2.1, rfl, F.2.2.2.1, ok⟩ hM.2 ⟨callB_of n ok (jGood hw.1) rfl rfl rfl (ok _ hw.2.2.2) (ok _ hw.2.1) hd ⟨by show d' + 1 ≤ _; omega, by show 8 + (maxL + 11) + 35 * d' ≤ _; omega⟩, hi, ok _ hw.2.2.1⟩ ⟨jWd_blind E h _, jPre (T := jS x) F.2.2.2.2.2.1 hH hS hz⟩ rfl hn hl.1 hst (lv_room hcat) dg ⟨by omega, by omega⟩
theorem jG_callSN (F : jF E x own cc nL d cm sm) {y : MethodName} {host : String} {bytes : ByteArray} {maxL : Nat} {ret : Option FieldType} {d' n index mc ms : Nat} {As rest : List Value} {r : Option Value} {h' : List va_E}
    (hw : Cond.code y bytes maxL ret ∈ jTB ∧ Cond.methodLinkNest own index y host ∈ jNW ∧ Cond.static y ∈ jTB ∧ Cond.initialized y.cls ∈ jTB)
    (hd : y.cls ≠ "java/lang/invoke/MethodHandle" ∧ y.cls ≠ "java/lang/invoke/VarHandle" ∧ (parseMethodDescriptor y.desc).map (fun q => q.parameters.length) = some n) (hm : maxL ≤ 16)
    (hM : jMd (jL x) E y bytes maxL ret d' As h r h' mc ms) (hR : d' + 1 ≤ d) (hn : As.length = n) (hst : st = As.reverse ++ rest) (hcat : (rest.map fun v => v.category).sum ≤ 8) (dg : decode cc pc = .ok (.invokestatic index, 3)) (hcm : cells + mc ≤ cm) (hsm : slots + ms ≤ sm)
    (k : jG E x (cells + mc) (slots + ms) (pc + 3) lv (r.toList ++ rest) h') : jG E x cells slots pc lv st h := by
  refine jG_run (av := As.toArray) (y := y) hM.1 (fun H locs ls hl hH hS hz => ?_) k
  have ok := F.2.2.2.2.1
  have hfr := F.2.2.2.2.2.2.1
  have hlo := F.2.2.2.2.2.2.2.1
  have hce := F.2.2.2.2.2.2.2.2.1
  have hsl := F.2.2.2.2.2.2.2.2.2
  exact va_runSN (n := n) (host := host) ⟨F.1, F.2.1, rfl, F.2.2.2.1, ok⟩ hM.2 ⟨va_cnB n ok (jGood hw.1) rfl rfl rfl (F.2.2.2.2.2.1.2.2.1 _ hw.2.1) (ok _ hw.2.2.2) hd ⟨by show d' + 1 ≤ _; omega, by show 8 + (maxL + 11) + 35 * d' ≤ _; omega⟩, ok _ hw.2.2.1, trivial⟩ ⟨jWd_blind E h _, jPre (T := jS x) F.2.2.2.2.2.1 hH hS hz⟩ rfl hn hl.1 hst (lv_room hcat) dg ⟨by omega, by omega⟩
theorem jG_callIN (F : jF E x own cc nL d cm sm) {y : MethodName} {host : String} {bytes : ByteArray} {maxL : Nat} {d' n index mc ms b : Nat} {As rest : List Value} {r : Option Value} {h' : List va_E}
    (hw : Cond.code y bytes maxL none ∈ jTB ∧ Cond.methodLinkNest own index y host ∈ jNW ∧ Cond.instanceMethod y ∈ jTB ∧ Cond.initialized y.cls ∈ jTB) (hi : y.name = "<init>")
    (hd : y.cls ≠ "java/lang/invoke/MethodHandle" ∧ y.cls ≠ "java/lang/invoke/VarHandle" ∧ (parseMethodDescriptor y.desc).map (fun q => q.parameters.length) = some n) (hm : maxL ≤ 16)
    (hM : jMd (jL x) E y bytes maxL none d' (.ref b :: As) h r h' mc ms) (hR : d' + 1 ≤ d) (hn : As.length = n) (hst : st = As.reverse ++ .ref b :: rest) (hcat : (rest.map fun v => v.category).sum ≤ 8) (dg : decode cc pc = .ok (.invokespecial index, 3)) (hcm : cells + mc ≤ cm) (hsm : slots + ms ≤ sm)
    (k : jG E x (cells + mc) (slots + ms) (pc + 3) lv (r.toList ++ rest) h') : jG E x cells slots pc lv st h := by
  refine jG_run (av := (Value.ref b :: As).toArray) (y := y) hM.1 (fun H locs ls hl hH hS hz => ?_) k
  have ok := F.2.2.2.2.1
  have hfr := F.2.2.2.2.2.2.1
  have hlo := F.2.2.2.2.2.2.2.1
  have hce := F.2.2.2.2.2.2.2.2.1
  have hsl := F.2.2.2.2.2.2.2.2.2
  exact va_runIN (n := n) (host := host) ⟨F.1, F.2.1, rfl, F.2.2.2.1, ok⟩ hM.2 ⟨va_cnB n ok (jGood hw.1) rfl rfl rfl (F.2.2.2.2.2.1.2.2.1 _ hw.2.1) (ok _ hw.2.2.2) hd ⟨by show d' + 1 ≤ _; omega, by show 8 + (maxL + 11) + 35 * d' ≤ _; omega⟩, hi, ok _ hw.2.2.1⟩ ⟨jWd_blind E h _, jPre (T := jS x) F.2.2.2.2.2.1 hH hS hz⟩ rfl hn hl.1 hst (lv_room hcat) dg ⟨by omega, by omega⟩
theorem jG_max (F : jF E x own cc nL d 0 0) {index : Nat} {a b : Int32} (hw : Cond.methodLink own index Lib.Math.max.name ∈ jTB) (h1 : Cond.static Lib.Math.max.name ∈ jTB) (h2 : Cond.initialized "java/lang/Math" ∈ jTB) (h3 : Cond.code Lib.Math.max.name Lib.Math.max.code 2 (some .int) ∈ jTB) (hd : 1 ≤ d) (hcat : (st.map fun v => v.category).sum ≤ 8) (dg : decode cc pc = .ok (.invokestatic index, 3)) (k : jG E x 0 0 (pc + 3) lv (.int (if a < b then b else a) :: st) h) : jG E x 0 0 pc lv (.int b :: .int a :: st) h := by
  intro H locs ls hl hH hS
  have hfr := F.2.2.2.2.2.2.1
  have hlo := F.2.2.2.2.2.2.2.1
  have ok := F.2.2.2.2.1
  exact va_mmax F.1 F.2.1 hl.1.symm F.2.2.2.1 (ok _ hw) (ok _ h1) (ok _ h2) (ok _ h3) (by omega) (by omega) (Nat.zero_le _) (Nat.zero_le _) dg (k H locs ls hl hH hS)
theorem jG_min (F : jF E x own cc nL d 0 0) {index : Nat} {a b : Int32} (hw : Cond.methodLink own index Lib.Math.min.name ∈ jTB) (h1 : Cond.static Lib.Math.min.name ∈ jTB) (h2 : Cond.initialized "java/lang/Math" ∈ jTB) (h3 : Cond.code Lib.Math.min.name Lib.Math.min.code 2 (some .int) ∈ jTB) (hd : 1 ≤ d) (hcat : (st.map fun v => v.category).sum ≤ 8) (dg : decode cc pc = .ok (.invokestatic index, 3)) (k : jG E x 0 0 (pc + 3) lv (.int (if b < a then b else a) :: st) h) : jG E x 0 0 pc lv (.int b :: .int a :: st) h := by
  intro H locs ls hl hH hS
  have hfr := F.2.2.2.2.2.2.1
  have hlo := F.2.2.2.2.2.2.2.1
  have ok := F.2.2.2.2.1
  exact va_mmin F.1 F.2.1 hl.1.symm F.2.2.2.1 (ok _ hw) (ok _ h1) (ok _ h2) (ok _ h3) (by omega) (by omega) (Nat.zero_le _) (Nat.zero_le _) dg (k H locs ls hl hH hS)
theorem jG_abs (F : jF E x own cc nL d 0 0) {index : Nat} {a : Int32} (hw : Cond.methodLink own index Lib.Math.abs.name ∈ jTB) (h1 : Cond.static Lib.Math.abs.name ∈ jTB) (h2 : Cond.initialized "java/lang/Math" ∈ jTB) (h3 : Cond.code Lib.Math.abs.name Lib.Math.abs.code 1 (some .int) ∈ jTB) (hd : 1 ≤ d) (hcat : (st.map fun v => v.category).sum ≤ 8) (dg : decode cc pc = .ok (.invokestatic index, 3)) (k : jG E x 0 0 (pc + 3) lv (.int (if 0 ≤ a then a else 0 - a) :: st) h) : jG E x 0 0 pc lv (.int a :: st) h := by
  intro H locs ls hl hH hS
  have hfr := F.2.2.2.2.2.2.1
  have hlo := F.2.2.2.2.2.2.2.1
  have ok := F.2.2.2.2.1
  exact va_mabs F.1 F.2.1 hl.1.symm F.2.2.2.1 (ok _ hw) (ok _ h1) (ok _ h2) (ok _ h3) (by omega) (by omega) (Nat.zero_le _) (Nat.zero_le _) dg (k H locs ls hl hH hS)
end JK
