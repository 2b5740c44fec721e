/-! ===== the instructions over jG ===== -/
section JI
variable {E : jE} {x : jX} {own : String} {cc : ByteArray} {nL d cm sm cells slots pc : Nat} {lv st : List Value} {h : List va_E}
theorem jG_iconst (F : jF E x own cc nL d cm sm) {n : Int} {v : Int32} (dg : decode cc pc = .ok (.iconst n, 1)) (hv : Int32.ofInt n = v) (k : jG E x cells slots (pc + 1) lv (.int v :: st) h) : jG E x cells slots pc lv (st) h :=
  fun H locs ls hl hH hS => lv_iconst F.1 F.2.1 dg hv (k H locs ls hl hH hS)
theorem jG_bipush (F : jF E x own cc nL d cm sm) {n : Int} {v : Int32} (dg : decode cc pc = .ok (.bipush n, 2)) (hv : (Int8.ofInt n).toInt32 = v) (k : jG E x cells slots (pc + 2) lv (.int v :: st) h) : jG E x cells slots pc lv (st) h :=
  fun H locs ls hl hH hS => lv_bipush F.1 F.2.1 dg hv (k H locs ls hl hH hS)
theorem jG_sipush (F : jF E x own cc nL d cm sm) {n : Int} {v : Int32} (dg : decode cc pc = .ok (.sipush n, 3)) (hv : (Int16.ofInt n).toInt32 = v) (k : jG E x cells slots (pc + 3) lv (.int v :: st) h) : jG E x cells slots pc lv (st) h :=
  fun H locs ls hl hH hS => lv_sipush F.1 F.2.1 dg hv (k H locs ls hl hH hS)
theorem jG_lconst (F : jF E x own cc nL d cm sm) {n : Fin 2} {v : Int64} (dg : decode cc pc = .ok (.lconst n, 1)) (hv : Int64.ofNat (n : Nat) = v) (k : jG E x cells slots (pc + 1) lv (.long v :: st) h) : jG E x cells slots pc lv (st) h :=
  fun H locs ls hl hH hS => lv_lconst F.1 F.2.1 dg hv (k H locs ls hl hH hS)
theorem jG_iadd (F : jF E x own cc nL d cm sm) {a b : Int32} (dg : decode cc pc = .ok (.iadd, 1))  (k : jG E x cells slots (pc + 1) lv (.int (a + b) :: st) h) : jG E x cells slots pc lv (.int b :: .int a :: st) h :=
  fun H locs ls hl hH hS => lv_iadd F.1 F.2.1 dg  (k H locs ls hl hH hS)
theorem jG_isub (F : jF E x own cc nL d cm sm) {a b : Int32} (dg : decode cc pc = .ok (.isub, 1))  (k : jG E x cells slots (pc + 1) lv (.int (a - b) :: st) h) : jG E x cells slots pc lv (.int b :: .int a :: st) h :=
  fun H locs ls hl hH hS => lv_isub F.1 F.2.1 dg  (k H locs ls hl hH hS)
theorem jG_imul (F : jF E x own cc nL d cm sm) {a b : Int32} (dg : decode cc pc = .ok (.imul, 1))  (k : jG E x cells slots (pc + 1) lv (.int (a * b) :: st) h) : jG E x cells slots pc lv (.int b :: .int a :: st) h :=
  fun H locs ls hl hH hS => lv_imul F.1 F.2.1 dg  (k H locs ls hl hH hS)
theorem jG_iand (F : jF E x own cc nL d cm sm) {a b : Int32} (dg : decode cc pc = .ok (.iand, 1))  (k : jG E x cells slots (pc + 1) lv (.int (a &&& b) :: st) h) : jG E x cells slots pc lv (.int b :: .int a :: st) h :=
  fun H locs ls hl hH hS => lv_iand F.1 F.2.1 dg  (k H locs ls hl hH hS)
theorem jG_ior (F : jF E x own cc nL d cm sm) {a b : Int32} (dg : decode cc pc = .ok (.ior, 1))  (k : jG E x cells slots (pc + 1) lv (.int (a ||| b) :: st) h) : jG E x cells slots pc lv (.int b :: .int a :: st) h :=
  fun H locs ls hl hH hS => lv_ior F.1 F.2.1 dg  (k H locs ls hl hH hS)
theorem jG_ixor (F : jF E x own cc nL d cm sm) {a b : Int32} (dg : decode cc pc = .ok (.ixor, 1))  (k : jG E x cells slots (pc + 1) lv (.int (a ^^^ b) :: st) h) : jG E x cells slots pc lv (.int b :: .int a :: st) h :=
  fun H locs ls hl hH hS => lv_ixor F.1 F.2.1 dg  (k H locs ls hl hH hS)
theorem jG_ishl (F : jF E x own cc nL d cm sm) {a b : Int32} (dg : decode cc pc = .ok (.ishl, 1))  (k : jG E x cells slots (pc + 1) lv (.int (a <<< (b &&& 31)) :: st) h) : jG E x cells slots pc lv (.int b :: .int a :: st) h :=
  fun H locs ls hl hH hS => lv_ishl F.1 F.2.1 dg  (k H locs ls hl hH hS)
theorem jG_ishr (F : jF E x own cc nL d cm sm) {a b : Int32} (dg : decode cc pc = .ok (.ishr, 1))  (k : jG E x cells slots (pc + 1) lv (.int (a >>> (b &&& 31)) :: st) h) : jG E x cells slots pc lv (.int b :: .int a :: st) h :=
  fun H locs ls hl hH hS => lv_ishr F.1 F.2.1 dg  (k H locs ls hl hH hS)
theorem jG_iushr (F : jF E x own cc nL d cm sm) {a b v : Int32} (dg : decode cc pc = .ok (.iushr, 1)) (hv : (a.toUInt32 >>> (b.toUInt32 &&& Int32.toUInt32 31)).toInt32 = v) (k : jG E x cells slots (pc + 1) lv (.int v :: st) h) : jG E x cells slots pc lv (.int b :: .int a :: st) h :=
  fun H locs ls hl hH hS => lv_iushr F.1 F.2.1 dg hv (k H locs ls hl hH hS)
theorem jG_idiv (F : jF E x own cc nL d cm sm) {a b : Int32} (dg : decode cc pc = .ok (.idiv, 1)) (hne : ¬ b = 0) (k : jG E x cells slots (pc + 1) lv (.int (a / b) :: st) h) : jG E x cells slots pc lv (.int b :: .int a :: st) h :=
  fun H locs ls hl hH hS => lv_idiv F.1 F.2.1 dg hne (k H locs ls hl hH hS)
theorem jG_irem (F : jF E x own cc nL d cm sm) {a b : Int32} (dg : decode cc pc = .ok (.irem, 1)) (hne : ¬ b = 0) (k : jG E x cells slots (pc + 1) lv (.int (a - a / b * b) :: st) h) : jG E x cells slots pc lv (.int b :: .int a :: st) h :=
  fun H locs ls hl hH hS => lv_irem F.1 F.2.1 dg hne (k H locs ls hl hH hS)
theorem jG_ineg (F : jF E x own cc nL d cm sm) {a : Int32} (dg : decode cc pc = .ok (.ineg, 1))  (k : jG E x cells slots (pc + 1) lv (.int (-a) :: st) h) : jG E x cells slots pc lv (.int a :: st) h :=
  fun H locs ls hl hH hS => lv_ineg F.1 F.2.1 dg  (k H locs ls hl hH hS)
theorem jG_lmul (F : jF E x own cc nL d cm sm) {a b : Int64} (dg : decode cc pc = .ok (.lmul, 1))  (k : jG E x cells slots (pc + 1) lv (.long (a * b) :: st) h) : jG E x cells slots pc lv (.long b :: .long a :: st) h :=
  fun H locs ls hl hH hS => lv_lmul F.1 F.2.1 dg  (k H locs ls hl hH hS)
theorem jG_lrem (F : jF E x own cc nL d cm sm) {a b : Int64} (dg : decode cc pc = .ok (.lrem, 1)) (hne : ¬ b = 0) (k : jG E x cells slots (pc + 1) lv (.long (a - a / b * b) :: st) h) : jG E x cells slots pc lv (.long b :: .long a :: st) h :=
  fun H locs ls hl hH hS => lv_lrem F.1 F.2.1 dg hne (k H locs ls hl hH hS)
theorem jG_i2l (F : jF E x own cc nL d cm sm) {a : Int32} (dg : decode cc pc = .ok (.i2l, 1))  (k : jG E x cells slots (pc + 1) lv (.long a.toInt64 :: st) h) : jG E x cells slots pc lv (.int a :: st) h :=
  fun H locs ls hl hH hS => lv_i2l F.1 F.2.1 dg rfl (k H locs ls hl hH hS)
theorem jG_l2i (F : jF E x own cc nL d cm sm) {a : Int64} (dg : decode cc pc = .ok (.l2i, 1))  (k : jG E x cells slots (pc + 1) lv (.int a.toInt32 :: st) h) : jG E x cells slots pc lv (.long a :: st) h :=
  fun H locs ls hl hH hS => lv_l2i F.1 F.2.1 dg rfl (k H locs ls hl hH hS)
theorem jG_lcmp (F : jF E x own cc nL d cm sm) {a b : Int64} (dg : decode cc pc = .ok (.lcmp, 1))  (k : jG E x cells slots (pc + 1) lv (.int (lg_cmp a b) :: st) h) : jG E x cells slots pc lv (.long b :: .long a :: st) h :=
  fun H locs ls hl hH hS => W.lcmp F.1 F.2.1 dg  (k H locs ls hl hH hS)
theorem jG_dup (F : jF E x own cc nL d cm sm) {v : Value} (dg : decode cc pc = .ok (.dup, 1)) (hv : v.category = 1) (k : jG E x cells slots (pc + 1) lv (v :: v :: st) h) : jG E x cells slots pc lv (v :: st) h :=
  fun H locs ls hl hH hS => lv_dup F.1 F.2.1 dg hv (k H locs ls hl hH hS)
theorem jG_dup2 (F : jF E x own cc nL d cm sm) {u v : Value} (dg : decode cc pc = .ok (.dup2, 1)) (hu : u.category = 1) (hv : v.category = 1) (k : jG E x cells slots (pc + 1) lv (v :: u :: v :: u :: st) h) : jG E x cells slots pc lv (v :: u :: st) h :=
  fun H locs ls hl hH hS => lv_dup2_11 F.1 F.2.1 dg hv hu (k H locs ls hl hH hS)
theorem jG_ldc (F : jF E x own cc nL d cm sm) {n : Nat} {v : Int32} (dg : decode cc pc = .ok (.ldc n, 2)) (hw : Cond.constant own n v ∈ jTB) (k : jG E x cells slots (pc + 2) lv (.int v :: st) h) : jG E x cells slots pc lv (st) h :=
  fun H locs ls hl hH hS => lv_ldc F.1 F.2.1 F.2.2.2.1 (F.2.2.2.2.1 _ hw) dg (k H locs ls hl hH hS)
theorem jG_ldcw (F : jF E x own cc nL d cm sm) {n : Nat} {v : Int32} (dg : decode cc pc = .ok (.ldc_w n, 3)) (hw : Cond.constant own n v ∈ jTB) (k : jG E x cells slots (pc + 3) lv (.int v :: st) h) : jG E x cells slots pc lv (st) h :=
  fun H locs ls hl hH hS => lv_ldcw F.1 F.2.1 F.2.2.2.1 (F.2.2.2.2.1 _ hw) dg (k H locs ls hl hH hS)
theorem jG_ldc2 (F : jF E x own cc nL d cm sm) {n : Nat} {v : Int64} (dg : decode cc pc = .ok (.ldc2_w n, 3)) (hw : Cond.constantLong own n v ∈ jTB) (k : jG E x cells slots (pc + 3) lv (.long v :: st) h) : jG E x cells slots pc lv (st) h :=
  fun H locs ls hl hH hS => lv_ldc2 F.1 F.2.1 F.2.2.2.1 (F.2.2.2.2.1 _ hw) dg (k H locs ls hl hH hS)
theorem jG_iload_n (F : jF E x own cc nL d cm sm) {i : Fin 4} {v : Int32} (dg : decode cc pc = .ok (.iload_n i, 1)) (hv : lv[(i : Nat)]? = some (.int v)) (k : jG E x cells slots (pc + 1) lv (.int v :: st) h) : jG E x cells slots pc lv st h :=
  fun H locs ls hl hH hS => lv_iload_n F.1 F.2.1 dg rfl (jlv_at hl hv rfl) (k H locs ls hl hH hS)
theorem jG_iload (F : jF E x own cc nL d cm sm) {i : Nat} {v : Int32} (dg : decode cc pc = .ok (.iload i, 2)) (hv : lv[i]? = some (.int v)) (k : jG E x cells slots (pc + 2) lv (.int v :: st) h) : jG E x cells slots pc lv st h :=
  fun H locs ls hl hH hS => lv_iload F.1 F.2.1 dg (jlv_at hl hv rfl) (k H locs ls hl hH hS)
theorem jG_istore_n (F : jF E x own cc nL d cm sm) {i : Fin 4} {v : Int32} (dg : decode cc pc = .ok (.istore_n i, 1)) (hi : (i : Nat) ≤ lv.length) (hn : (i : Nat) < nL) (k : jG E x cells slots (pc + 1) (jset lv i (.int v)) st h) : jG E x cells slots pc lv (.int v :: st) h :=
  fun H locs ls hl hH hS => lv_istore_n F.1 F.2.1 dg rfl hl (by rw [F.2.2.1]; exact hn) rfl (fun ls' hl' => k H locs ls' (jlv_store hi hl') hH hS)
theorem jG_istore (F : jF E x own cc nL d cm sm) {i : Nat} {v : Int32} (dg : decode cc pc = .ok (.istore i, 2)) (hi : i ≤ lv.length) (hn : i < nL) (k : jG E x cells slots (pc + 2) (jset lv i (.int v)) st h) : jG E x cells slots pc lv (.int v :: st) h :=
  fun H locs ls hl hH hS => lv_istore F.1 F.2.1 dg hl (by rw [F.2.2.1]; exact hn) rfl (fun ls' hl' => k H locs ls' (jlv_store hi hl') hH hS)
theorem jG_aload_n (F : jF E x own cc nL d cm sm) {i : Fin 4} {v : Nat} (dg : decode cc pc = .ok (.aload_n i, 1)) (hv : lv[(i : Nat)]? = some (.ref v)) (k : jG E x cells slots (pc + 1) lv (.ref v :: st) h) : jG E x cells slots pc lv st h :=
  fun H locs ls hl hH hS => lv_aload_n F.1 F.2.1 dg rfl (jlv_at hl hv rfl) (k H locs ls hl hH hS)
theorem jG_aload (F : jF E x own cc nL d cm sm) {i : Nat} {v : Nat} (dg : decode cc pc = .ok (.aload i, 2)) (hv : lv[i]? = some (.ref v)) (k : jG E x cells slots (pc + 2) lv (.ref v :: st) h) : jG E x cells slots pc lv st h :=
  fun H locs ls hl hH hS => lv_aload F.1 F.2.1 dg (jlv_at hl hv rfl) (k H locs ls hl hH hS)
theorem jG_astore_n (F : jF E x own cc nL d cm sm) {i : Fin 4} {v : Nat} (dg : decode cc pc = .ok (.astore_n i, 1)) (hi : (i : Nat) ≤ lv.length) (hn : (i : Nat) < nL) (k : jG E x cells slots (pc + 1) (jset lv i (.ref v)) st h) : jG E x cells slots pc lv (.ref v :: st) h :=
  fun H locs ls hl hH hS => lv_astore_n F.1 F.2.1 dg rfl hl (by rw [F.2.2.1]; exact hn) rfl (fun ls' hl' => k H locs ls' (jlv_store hi hl') hH hS)
theorem jG_astore (F : jF E x own cc nL d cm sm) {i : Nat} {v : Nat} (dg : decode cc pc = .ok (.astore i, 2)) (hi : i ≤ lv.length) (hn : i < nL) (k : jG E x cells slots (pc + 2) (jset lv i (.ref v)) st h) : jG E x cells slots pc lv (.ref v :: st) h :=
  fun H locs ls hl hH hS => lv_astore F.1 F.2.1 dg hl (by rw [F.2.2.1]; exact hn) rfl (fun ls' hl' => k H locs ls' (jlv_store hi hl') hH hS)
theorem jG_iinc (F : jF E x own cc nL d cm sm) {i : Nat} {n : Int} {v w : Int32} (dg : decode cc pc = .ok (.iinc i n, 3)) (hv : lv[i]? = some (.int v)) (hw : v + Int32.ofInt n = w) (hn : i < nL) (k : jG E x cells slots (pc + 3) (jset lv i (.int w)) st h) : jG E x cells slots pc lv st h := by
  intro H locs ls hl hH hS
  obtain ⟨q, hq⟩ := List.getElem?_of_mem ((jlv_mem lv (i, .int v)).mpr ⟨hv, rfl⟩)
  exact lv_iinc F.1 F.2.1 dg hl hq hw (by rw [F.2.2.1]; exact hn) rfl (fun ls' hl' => k H locs ls' (jlv_store (Nat.le_of_lt (List.getElem?_eq_some_iff.mp hv).1) hl') hH hS)
theorem jG_if_eq (F : jF E x own cc nL d cm sm) {a : Int32} {off : Int} (tgt : Nat) (dg : decode cc pc = .ok (.ifCond .eq off, 3)) (ht : (pc : Int) + off = (tgt : Int)) (kt : a = 0 → jG E x cells slots tgt lv st h) (kf : ¬ a = 0 → jG E x cells slots (pc + 3) lv st h) : jG E x cells slots pc lv (.int a :: st) h :=
  fun H locs ls hl hH hS => lv_if_eq F.1 F.2.1 dg ht (fun q => kt q H locs ls hl hH hS) (fun q => kf q H locs ls hl hH hS)
theorem jG_icmp_eq (F : jF E x own cc nL d cm sm) {a b : Int32} {off : Int} (tgt : Nat) (dg : decode cc pc = .ok (.if_icmp .eq off, 3)) (ht : (pc : Int) + off = (tgt : Int)) (kt : a = b → jG E x cells slots tgt lv st h) (kf : ¬ a = b → jG E x cells slots (pc + 3) lv st h) : jG E x cells slots pc lv (.int b :: .int a :: st) h :=
  fun H locs ls hl hH hS => lv_icmp_eq F.1 F.2.1 dg ht (fun q => kt q H locs ls hl hH hS) (fun q => kf q H locs ls hl hH hS)
theorem jG_if_ne (F : jF E x own cc nL d cm sm) {a : Int32} {off : Int} (tgt : Nat) (dg : decode cc pc = .ok (.ifCond .ne off, 3)) (ht : (pc : Int) + off = (tgt : Int)) (kt : ¬ a = 0 → jG E x cells slots tgt lv st h) (kf : a = 0 → jG E x cells slots (pc + 3) lv st h) : jG E x cells slots pc lv (.int a :: st) h :=
  fun H locs ls hl hH hS => lv_if_ne F.1 F.2.1 dg ht (fun q => kt q H locs ls hl hH hS) (fun q => kf q H locs ls hl hH hS)
theorem jG_icmp_ne (F : jF E x own cc nL d cm sm) {a b : Int32} {off : Int} (tgt : Nat) (dg : decode cc pc = .ok (.if_icmp .ne off, 3)) (ht : (pc : Int) + off = (tgt : Int)) (kt : ¬ a = b → jG E x cells slots tgt lv st h) (kf : a = b → jG E x cells slots (pc + 3) lv st h) : jG E x cells slots pc lv (.int b :: .int a :: st) h :=
  fun H locs ls hl hH hS => lv_icmp_ne F.1 F.2.1 dg ht (fun q => kt q H locs ls hl hH hS) (fun q => kf q H locs ls hl hH hS)
theorem jG_if_lt (F : jF E x own cc nL d cm sm) {a : Int32} {off : Int} (tgt : Nat) (dg : decode cc pc = .ok (.ifCond .lt off, 3)) (ht : (pc : Int) + off = (tgt : Int)) (kt : a < 0 → jG E x cells slots tgt lv st h) (kf : ¬ a < 0 → jG E x cells slots (pc + 3) lv st h) : jG E x cells slots pc lv (.int a :: st) h :=
  fun H locs ls hl hH hS => lv_if_lt F.1 F.2.1 dg ht (fun q => kt q H locs ls hl hH hS) (fun q => kf q H locs ls hl hH hS)
theorem jG_icmp_lt (F : jF E x own cc nL d cm sm) {a b : Int32} {off : Int} (tgt : Nat) (dg : decode cc pc = .ok (.if_icmp .lt off, 3)) (ht : (pc : Int) + off = (tgt : Int)) (kt : a < b → jG E x cells slots tgt lv st h) (kf : ¬ a < b → jG E x cells slots (pc + 3) lv st h) : jG E x cells slots pc lv (.int b :: .int a :: st) h :=
  fun H locs ls hl hH hS => lv_icmp_lt F.1 F.2.1 dg ht (fun q => kt q H locs ls hl hH hS) (fun q => kf q H locs ls hl hH hS)
theorem jG_if_ge (F : jF E x own cc nL d cm sm) {a : Int32} {off : Int} (tgt : Nat) (dg : decode cc pc = .ok (.ifCond .ge off, 3)) (ht : (pc : Int) + off = (tgt : Int)) (kt : 0 ≤ a → jG E x cells slots tgt lv st h) (kf : ¬ 0 ≤ a → jG E x cells slots (pc + 3) lv st h) : jG E x cells slots pc lv (.int a :: st) h :=
  fun H locs ls hl hH hS => lv_if_ge F.1 F.2.1 dg ht (fun q => kt q H locs ls hl hH hS) (fun q => kf q H locs ls hl hH hS)
theorem jG_icmp_ge (F : jF E x own cc nL d cm sm) {a b : Int32} {off : Int} (tgt : Nat) (dg : decode cc pc = .ok (.if_icmp .ge off, 3)) (ht : (pc : Int) + off = (tgt : Int)) (kt : b ≤ a → jG E x cells slots tgt lv st h) (kf : ¬ b ≤ a → jG E x cells slots (pc + 3) lv st h) : jG E x cells slots pc lv (.int b :: .int a :: st) h :=
  fun H locs ls hl hH hS => lv_icmp_ge F.1 F.2.1 dg ht (fun q => kt q H locs ls hl hH hS) (fun q => kf q H locs ls hl hH hS)
theorem jG_if_gt (F : jF E x own cc nL d cm sm) {a : Int32} {off : Int} (tgt : Nat) (dg : decode cc pc = .ok (.ifCond .gt off, 3)) (ht : (pc : Int) + off = (tgt : Int)) (kt : 0 < a → jG E x cells slots tgt lv st h) (kf : ¬ 0 < a → jG E x cells slots (pc + 3) lv st h) : jG E x cells slots pc lv (.int a :: st) h :=
  fun H locs ls hl hH hS => lv_if_gt F.1 F.2.1 dg ht (fun q => kt q H locs ls hl hH hS) (fun q => kf q H locs ls hl hH hS)
theorem jG_icmp_gt (F : jF E x own cc nL d cm sm) {a b : Int32} {off : Int} (tgt : Nat) (dg : decode cc pc = .ok (.if_icmp .gt off, 3)) (ht : (pc : Int) + off = (tgt : Int)) (kt : b < a → jG E x cells slots tgt lv st h) (kf : ¬ b < a → jG E x cells slots (pc + 3) lv st h) : jG E x cells slots pc lv (.int b :: .int a :: st) h :=
  fun H locs ls hl hH hS => lv_icmp_gt F.1 F.2.1 dg ht (fun q => kt q H locs ls hl hH hS) (fun q => kf q H locs ls hl hH hS)
theorem jG_if_le (F : jF E x own cc nL d cm sm) {a : Int32} {off : Int} (tgt : Nat) (dg : decode cc pc = .ok (.ifCond .le off, 3)) (ht : (pc : Int) + off = (tgt : Int)) (kt : a ≤ 0 → jG E x cells slots tgt lv st h) (kf : ¬ a ≤ 0 → jG E x cells slots (pc + 3) lv st h) : jG E x cells slots pc lv (.int a :: st) h :=
  fun H locs ls hl hH hS => lv_if_le F.1 F.2.1 dg ht (fun q => kt q H locs ls hl hH hS) (fun q => kf q H locs ls hl hH hS)
theorem jG_icmp_le (F : jF E x own cc nL d cm sm) {a b : Int32} {off : Int} (tgt : Nat) (dg : decode cc pc = .ok (.if_icmp .le off, 3)) (ht : (pc : Int) + off = (tgt : Int)) (kt : a ≤ b → jG E x cells slots tgt lv st h) (kf : ¬ a ≤ b → jG E x cells slots (pc + 3) lv st h) : jG E x cells slots pc lv (.int b :: .int a :: st) h :=
  fun H locs ls hl hH hS => lv_icmp_le F.1 F.2.1 dg ht (fun q => kt q H locs ls hl hH hS) (fun q => kf q H locs ls hl hH hS)
theorem jG_goto (F : jF E x own cc nL d cm sm) {off : Int} (tgt : Nat) (dg : decode cc pc = .ok (.goto off, 3)) (ht : (pc : Int) + off = (tgt : Int)) (k : jG E x cells slots tgt lv st h) : jG E x cells slots pc lv st h :=
  fun H locs ls hl hH hS => lv_goto F.1 F.2.1 dg ht (k H locs ls hl hH hS)
theorem jG_tableOut (F : jF E x own cc nL d cm sm) {dflt lo hi : Int} {offs : Array Int} {len : Nat} {a : Int32} (tgt : Nat) (dg : decode cc pc = .ok (.tableswitch dflt lo hi offs, len)) (hh : a.toInt < lo ∨ hi < a.toInt) (ht : (pc : Int) + dflt = (tgt : Int)) (k : jG E x cells slots tgt lv st h) : jG E x cells slots pc lv (.int a :: st) h :=
  fun H locs ls hl hH hS => lv_tableOut F.1 F.2.1 dg hh ht (k H locs ls hl hH hS)
theorem jG_tableIn (F : jF E x own cc nL d cm sm) {dflt lo hi : Int} {offs : Array Int} {len : Nat} {a : Int32} {off : Int} (tgt : Nat) (dg : decode cc pc = .ok (.tableswitch dflt lo hi offs, len)) (h1 : ¬ a.toInt < lo) (h2 : ¬ hi < a.toInt) (ho : offs[(a.toInt - lo).toNat]? = some off) (ht : (pc : Int) + off = (tgt : Int)) (k : jG E x cells slots tgt lv st h) : jG E x cells slots pc lv (.int a :: st) h :=
  fun H locs ls hl hH hS => lv_tableIn F.1 F.2.1 dg h1 h2 ho ht (k H locs ls hl hH hS)
theorem jG_less {lv2 : List Value} (hs : ∀ (i : Nat) (v : Value), lv2[i]? = some v → lv[i]? = some v) (k : jG E x cells slots pc lv2 st h) : jG E x cells slots pc lv st h := fun H locs ls hl hH hS => k H locs ls (jlv_less hl hs) hH hS
theorem jG_take (n : Nat) (k : jG E x cells slots pc (lv.take n) st h) : jG E x cells slots pc lv st h := jG_less (fun i v q => by
  rw [List.getElem?_take] at q
  split at q
  · exact q
  · cases q) k
theorem jG_eq {st2 lv2 : List Value} {h2 : List va_E} (e1 : lv = lv2) (e2 : st = st2) (e3 : h = h2) (k : jG E x cells slots pc lv2 st2 h2) : jG E x cells slots pc lv st h := by subst e1; subst e2; subst e3; exact k
theorem jG_ireturn (F : jF E x own cc nL d cm sm) {v : Int32} {ty : FieldType} (T : jT E x (some ty) (some (.int v)) h cells slots) (hn : narrow ty (.int v) = .int v) (dg : decode cc pc = .ok (.ireturn, 1)) : jG E x cells slots pc lv [.int v] h := by
  intro H locs ls hl hH hS
  rw [T.2.2]
  exact W.zret F.1 F.2.1 T.1 hn (fun t ht hW => ⟨rfl, by rw [ht]; exact hH.2, hS.F ht⟩) hS.2.2 dg T.2.1
theorem jG_return (F : jF E x own cc nL d cm sm) (T : jT E x none none h cells slots) (dg : decode cc pc = .ok (.return_, 1)) : jG E x cells slots pc lv [] h := by
  intro H locs ls hl hH hS
  rw [T.2.2]
  exact W.vret F.1 F.2.1 T.1 (fun t ht hW => ⟨rfl, by rw [ht]; exact hH.2, hS.F ht⟩) hS.2.2 dg T.2.1
end JI
/-! ===== fields, arrays, statics ===== -/
section JH
variable {E : jE} {x : jX} {own : String} {cc : ByteArray} {nL d cm sm cells slots pc : Nat} {lv st : List Value} {h : List va_E}
theorem jG_get (F : jF E x own cc nL d cm sm) {C : String} {T : u_T} {N ci index i : Nat} (k0 : Nat) {fs : List Value} {v : Value} (hc : vwCl[ci]? = some (C, T, N)) (hin : ∀ w ∈ u_ws C T N, w ∈ jTB) (hk : k0 < N) (hw : Cond.fieldLink own index (T k0).1 (T k0).2.1 (T k0).2.2.1 ∈ jTB) (dg : decode cc pc = .ok (.getfield index, 3)) (he : h[i]? = some (.inr (ci, fs))) (hv : fs[k0]? = some v) (k : jG E x cells slots (pc + 3) lv (v :: st) h) : jG E x cells slots pc lv (.ref (E.1 + i) :: st) h :=
  fun H locs ls hl hH hS => va_get (D := E.2.1) F.1 F.2.1 F.2.2.2.2.1 hin F.2.2.2.1 F.2.2.2.2.2.1.2.1 hH.2 i (jw_get he) hc k0 hk (F.2.2.2.2.1 _ hw) (fun _ q => q) hv dg (k H locs ls hl hH hS)
theorem jG_getN (F : jF E x own cc nL d cm sm) {C host : String} {T : u_T} {N ci index i : Nat} (k0 : Nat) {fs : List Value} {v : Value} (hc : vwCl[ci]? = some (C, T, N)) (hin : ∀ w ∈ u_ws C T N, w ∈ jTB) (hk : k0 < N) (hw : Cond.fieldLinkNest own index (T k0).1 (T k0).2.1 (T k0).2.2.1 host ∈ jNW) (dg : decode cc pc = .ok (.getfield index, 3)) (he : h[i]? = some (.inr (ci, fs))) (hv : fs[k0]? = some v) (k : jG E x cells slots (pc + 3) lv (v :: st) h) : jG E x cells slots pc lv (.ref (E.1 + i) :: st) h :=
  fun H locs ls hl hH hS => va_getN (D := E.2.1) F.1 F.2.1 F.2.2.2.2.1 hin F.2.2.2.1 F.2.2.2.2.2.1.2.1 hH.2 i (jw_get he) hc k0 hk (va_Nw.use rfl (F.2.2.2.2.2.1.2.2.1 _ hw)) (fun _ q => q) hv dg (k H locs ls hl hH hS)
theorem jG_iaload (F : jF E x own cc nL d cm sm) {i n : Nat} {f : Nat → Int32} {j : Int32} (dg : decode cc pc = .ok (.iaload, 1)) (he : h[i]? = some (.inl (E.2.2.1, n, .inl f))) (hin : vp_in j n) (k : jG E x cells slots (pc + 1) lv (.int (f j.toNatClampNeg) :: st) h) : jG E x cells slots pc lv (.int j :: .ref (E.1 + i) :: st) h :=
  fun H locs ls hl hH hS => va_iald (D := E.2.1) F.1 F.2.1 F.2.2.2.2.2.1.2.1 hH.2 i 0 (jw_get he) rfl hin dg (k H locs ls hl hH hS)
end JH
