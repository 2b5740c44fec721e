/-! ===== stores and counts by the shape of the locals; arrays by natural places; returns ===== -/
section JN
variable {E : jE} {x : jX} {own : String} {cc : ByteArray} {nL d cm sm cells slots pc : Nat} {st : List Value} {h h' : List va_E}
theorem jG_istore_n_0e (F : jF E x own cc nL d cm sm)  {w : Value} {r : List Value} {v : Int32} (dg : decode cc pc = .ok (.istore_n 0, 1)) (hn : 0 < nL) (k : jG E x cells slots (pc + 1) (.int v :: r) st h) : jG E x cells slots pc (w :: r) (.int v :: st) h := jG_istore_n F dg (by simp) hn (by simpa [jset] using k)
theorem jG_istore_n_0n (F : jF E x own cc nL d cm sm)  {v : Int32} (dg : decode cc pc = .ok (.istore_n 0, 1)) (hn : 0 < nL) (k : jG E x cells slots (pc + 1) [.int v] st h) : jG E x cells slots pc [] (.int v :: st) h := jG_istore_n F dg (by simp) hn (by simpa [jset] using k)
theorem jG_astore_n_0e (F : jF E x own cc nL d cm sm)  {w : Value} {r : List Value} {v : Nat} (dg : decode cc pc = .ok (.astore_n 0, 1)) (hn : 0 < nL) (k : jG E x cells slots (pc + 1) (.ref v :: r) st h) : jG E x cells slots pc (w :: r) (.ref v :: st) h := jG_astore_n F dg (by simp) hn (by simpa [jset] using k)
theorem jG_astore_n_0n (F : jF E x own cc nL d cm sm)  {v : Nat} (dg : decode cc pc = .ok (.astore_n 0, 1)) (hn : 0 < nL) (k : jG E x cells slots (pc + 1) [.ref v] st h) : jG E x cells slots pc [] (.ref v :: st) h := jG_astore_n F dg (by simp) hn (by simpa [jset] using k)
theorem jG_iinc_0 (F : jF E x own cc nL d cm sm)  {r : List Value} {n : Int} {v w : Int32} (dg : decode cc pc = .ok (.iinc 0 n, 3)) (hw : v + Int32.ofInt n = w) (hn : 0 < nL) (k : jG E x cells slots (pc + 3) (.int w :: r) st h) : jG E x cells slots pc (.int v :: r) st h := jG_iinc F dg (by simp) hw hn (by simpa [jset] using k)
theorem jG_istore_n_1e (F : jF E x own cc nL d cm sm) {b0 : Value} {w : Value} {r : List Value} {v : Int32} (dg : decode cc pc = .ok (.istore_n 1, 1)) (hn : 1 < nL) (k : jG E x cells slots (pc + 1) (b0 :: .int v :: r) st h) : jG E x cells slots pc (b0 :: w :: r) (.int v :: st) h := jG_istore_n F dg (by simp) hn (by simpa [jset] using k)
theorem jG_istore_n_1n (F : jF E x own cc nL d cm sm) {b0 : Value} {v : Int32} (dg : decode cc pc = .ok (.istore_n 1, 1)) (hn : 1 < nL) (k : jG E x cells slots (pc + 1) [b0, .int v] st h) : jG E x cells slots pc [b0] (.int v :: st) h := jG_istore_n F dg (by simp) hn (by simpa [jset] using k)
theorem jG_astore_n_1e (F : jF E x own cc nL d cm sm) {b0 : Value} {w : Value} {r : List Value} {v : Nat} (dg : decode cc pc = .ok (.astore_n 1, 1)) (hn : 1 < nL) (k : jG E x cells slots (pc + 1) (b0 :: .ref v :: r) st h) : jG E x cells slots pc (b0 :: w :: r) (.ref v :: st) h := jG_astore_n F dg (by simp) hn (by simpa [jset] using k)
theorem jG_astore_n_1n (F : jF E x own cc nL d cm sm) {b0 : Value} {v : Nat} (dg : decode cc pc = .ok (.astore_n 1, 1)) (hn : 1 < nL) (k : jG E x cells slots (pc + 1) [b0, .ref v] st h) : jG E x cells slots pc [b0] (.ref v :: st) h := jG_astore_n F dg (by simp) hn (by simpa [jset] using k)
theorem jG_iinc_1 (F : jF E x own cc nL d cm sm) {b0 : Value} {r : List Value} {n : Int} {v w : Int32} (dg : decode cc pc = .ok (.iinc 1 n, 3)) (hw : v + Int32.ofInt n = w) (hn : 1 < nL) (k : jG E x cells slots (pc + 3) (b0 :: .int w :: r) st h) : jG E x cells slots pc (b0 :: .int v :: r) st h := jG_iinc F dg (by simp) hw hn (by simpa [jset] using k)
theorem jG_istore_n_2e (F : jF E x own cc nL d cm sm) {b0 b1 : Value} {w : Value} {r : List Value} {v : Int32} (dg : decode cc pc = .ok (.istore_n 2, 1)) (hn : 2 < nL) (k : jG E x cells slots (pc + 1) (b0 :: b1 :: .int v :: r) st h) : jG E x cells slots pc (b0 :: b1 :: w :: r) (.int v :: st) h := jG_istore_n F dg (by simp) hn (by simpa [jset] using k)
theorem jG_istore_n_2n (F : jF E x own cc nL d cm sm) {b0 b1 : Value} {v : Int32} (dg : decode cc pc = .ok (.istore_n 2, 1)) (hn : 2 < nL) (k : jG E x cells slots (pc + 1) [b0, b1, .int v] st h) : jG E x cells slots pc [b0, b1] (.int v :: st) h := jG_istore_n F dg (by simp) hn (by simpa [jset] using k)
theorem jG_astore_n_2e (F : jF E x own cc nL d cm sm) {b0 b1 : Value} {w : Value} {r : List Value} {v : Nat} (dg : decode cc pc = .ok (.astore_n 2, 1)) (hn : 2 < nL) (k : jG E x cells slots (pc + 1) (b0 :: b1 :: .ref v :: r) st h) : jG E x cells slots pc (b0 :: b1 :: w :: r) (.ref v :: st) h := jG_astore_n F dg (by simp) hn (by simpa [jset] using k)
theorem jG_astore_n_2n (F : jF E x own cc nL d cm sm) {b0 b1 : Value} {v : Nat} (dg : decode cc pc = .ok (.astore_n 2, 1)) (hn : 2 < nL) (k : jG E x cells slots (pc + 1) [b0, b1, .ref v] st h) : jG E x cells slots pc [b0, b1] (.ref v :: st) h := jG_astore_n F dg (by simp) hn (by simpa [jset] using k)
theorem jG_iinc_2 (F : jF E x own cc nL d cm sm) {b0 b1 : Value} {r : List Value} {n : Int} {v w : Int32} (dg : decode cc pc = .ok (.iinc 2 n, 3)) (hw : v + Int32.ofInt n = w) (hn : 2 < nL) (k : jG E x cells slots (pc + 3) (b0 :: b1 :: .int w :: r) st h) : jG E x cells slots pc (b0 :: b1 :: .int v :: r) st h := jG_iinc F dg (by simp) hw hn (by simpa [jset] using k)
theorem jG_istore_n_3e (F : jF E x own cc nL d cm sm) {b0 b1 b2 : Value} {w : Value} {r : List Value} {v : Int32} (dg : decode cc pc = .ok (.istore_n 3, 1)) (hn : 3 < nL) (k : jG E x cells slots (pc + 1) (b0 :: b1 :: b2 :: .int v :: r) st h) : jG E x cells slots pc (b0 :: b1 :: b2 :: w :: r) (.int v :: st) h := jG_istore_n F dg (by simp [show ((3 : Fin 4) : Nat) = 3 from rfl]) hn (by simpa [jset, show ((3 : Fin 4) : Nat) = 3 from rfl] using k)
theorem jG_istore_n_3n (F : jF E x own cc nL d cm sm) {b0 b1 b2 : Value} {v : Int32} (dg : decode cc pc = .ok (.istore_n 3, 1)) (hn : 3 < nL) (k : jG E x cells slots (pc + 1) [b0, b1, b2, .int v] st h) : jG E x cells slots pc [b0, b1, b2] (.int v :: st) h := jG_istore_n F dg (by simp [show ((3 : Fin 4) : Nat) = 3 from rfl]) hn (by simpa [jset, show ((3 : Fin 4) : Nat) = 3 from rfl] using k)
theorem jG_astore_n_3e (F : jF E x own cc nL d cm sm) {b0 b1 b2 : Value} {w : Value} {r : List Value} {v : Nat} (dg : decode cc pc = .ok (.astore_n 3, 1)) (hn : 3 < nL) (k : jG E x cells slots (pc + 1) (b0 :: b1 :: b2 :: .ref v :: r) st h) : jG E x cells slots pc (b0 :: b1 :: b2 :: w :: r) (.ref v :: st) h := jG_astore_n F dg (by simp [show ((3 : Fin 4) : Nat) = 3 from rfl]) hn (by simpa [jset, show ((3 : Fin 4) : Nat) = 3 from rfl] using k)
theorem jG_astore_n_3n (F : jF E x own cc nL d cm sm) {b0 b1 b2 : Value} {v : Nat} (dg : decode cc pc = .ok (.astore_n 3, 1)) (hn : 3 < nL) (k : jG E x cells slots (pc + 1) [b0, b1, b2, .ref v] st h) : jG E x cells slots pc [b0, b1, b2] (.ref v :: st) h := jG_astore_n F dg (by simp [show ((3 : Fin 4) : Nat) = 3 from rfl]) hn (by simpa [jset, show ((3 : Fin 4) : Nat) = 3 from rfl] using k)
theorem jG_iinc_3 (F : jF E x own cc nL d cm sm) {b0 b1 b2 : Value} {r : List Value} {n : Int} {v w : Int32} (dg : decode cc pc = .ok (.iinc 3 n, 3)) (hw : v + Int32.ofInt n = w) (hn : 3 < nL) (k : jG E x cells slots (pc + 3) (b0 :: b1 :: b2 :: .int w :: r) st h) : jG E x cells slots pc (b0 :: b1 :: b2 :: .int v :: r) st h := jG_iinc F dg (by simp) hw hn (by simpa [jset] using k)
theorem jG_istore_4e (F : jF E x own cc nL d cm sm) {b0 b1 b2 b3 : Value} {w : Value} {r : List Value} {v : Int32} (dg : decode cc pc = .ok (.istore 4, 2)) (hn : 4 < nL) (k : jG E x cells slots (pc + 2) (b0 :: b1 :: b2 :: b3 :: .int v :: r) st h) : jG E x cells slots pc (b0 :: b1 :: b2 :: b3 :: w :: r) (.int v :: st) h := jG_istore F dg (by simp) hn (by simpa [jset] using k)
theorem jG_istore_4n (F : jF E x own cc nL d cm sm) {b0 b1 b2 b3 : Value} {v : Int32} (dg : decode cc pc = .ok (.istore 4, 2)) (hn : 4 < nL) (k : jG E x cells slots (pc + 2) [b0, b1, b2, b3, .int v] st h) : jG E x cells slots pc [b0, b1, b2, b3] (.int v :: st) h := jG_istore F dg (by simp) hn (by simpa [jset] using k)
theorem jG_astore_4e (F : jF E x own cc nL d cm sm) {b0 b1 b2 b3 : Value} {w : Value} {r : List Value} {v : Nat} (dg : decode cc pc = .ok (.astore 4, 2)) (hn : 4 < nL) (k : jG E x cells slots (pc + 2) (b0 :: b1 :: b2 :: b3 :: .ref v :: r) st h) : jG E x cells slots pc (b0 :: b1 :: b2 :: b3 :: w :: r) (.ref v :: st) h := jG_astore F dg (by simp) hn (by simpa [jset] using k)
theorem jG_astore_4n (F : jF E x own cc nL d cm sm) {b0 b1 b2 b3 : Value} {v : Nat} (dg : decode cc pc = .ok (.astore 4, 2)) (hn : 4 < nL) (k : jG E x cells slots (pc + 2) [b0, b1, b2, b3, .ref v] st h) : jG E x cells slots pc [b0, b1, b2, b3] (.ref v :: st) h := jG_astore F dg (by simp) hn (by simpa [jset] using k)
theorem jG_iinc_4 (F : jF E x own cc nL d cm sm) {b0 b1 b2 b3 : Value} {r : List Value} {n : Int} {v w : Int32} (dg : decode cc pc = .ok (.iinc 4 n, 3)) (hw : v + Int32.ofInt n = w) (hn : 4 < nL) (k : jG E x cells slots (pc + 3) (b0 :: b1 :: b2 :: b3 :: .int w :: r) st h) : jG E x cells slots pc (b0 :: b1 :: b2 :: b3 :: .int v :: r) st h := jG_iinc F dg (by simp) hw hn (by simpa [jset] using k)
theorem jG_istore_5e (F : jF E x own cc nL d cm sm) {b0 b1 b2 b3 b4 : Value} {w : Value} {r : List Value} {v : Int32} (dg : decode cc pc = .ok (.istore 5, 2)) (hn : 5 < nL) (k : jG E x cells slots (pc + 2) (b0 :: b1 :: b2 :: b3 :: b4 :: .int v :: r) st h) : jG E x cells slots pc (b0 :: b1 :: b2 :: b3 :: b4 :: w :: r) (.int v :: st) h := jG_istore F dg (by simp) hn (by simpa [jset] using k)
theorem jG_istore_5n (F : jF E x own cc nL d cm sm) {b0 b1 b2 b3 b4 : Value} {v : Int32} (dg : decode cc pc = .ok (.istore 5, 2)) (hn : 5 < nL) (k : jG E x cells slots (pc + 2) [b0, b1, b2, b3, b4, .int v] st h) : jG E x cells slots pc [b0, b1, b2, b3, b4] (.int v :: st) h := jG_istore F dg (by simp) hn (by simpa [jset] using k)
theorem jG_astore_5e (F : jF E x own cc nL d cm sm) {b0 b1 b2 b3 b4 : Value} {w : Value} {r : List Value} {v : Nat} (dg : decode cc pc = .ok (.astore 5, 2)) (hn : 5 < nL) (k : jG E x cells slots (pc + 2) (b0 :: b1 :: b2 :: b3 :: b4 :: .ref v :: r) st h) : jG E x cells slots pc (b0 :: b1 :: b2 :: b3 :: b4 :: w :: r) (.ref v :: st) h := jG_astore F dg (by simp) hn (by simpa [jset] using k)
theorem jG_astore_5n (F : jF E x own cc nL d cm sm) {b0 b1 b2 b3 b4 : Value} {v : Nat} (dg : decode cc pc = .ok (.astore 5, 2)) (hn : 5 < nL) (k : jG E x cells slots (pc + 2) [b0, b1, b2, b3, b4, .ref v] st h) : jG E x cells slots pc [b0, b1, b2, b3, b4] (.ref v :: st) h := jG_astore F dg (by simp) hn (by simpa [jset] using k)
theorem jG_iinc_5 (F : jF E x own cc nL d cm sm) {b0 b1 b2 b3 b4 : Value} {r : List Value} {n : Int} {v w : Int32} (dg : decode cc pc = .ok (.iinc 5 n, 3)) (hw : v + Int32.ofInt n = w) (hn : 5 < nL) (k : jG E x cells slots (pc + 3) (b0 :: b1 :: b2 :: b3 :: b4 :: .int w :: r) st h) : jG E x cells slots pc (b0 :: b1 :: b2 :: b3 :: b4 :: .int v :: r) st h := jG_iinc F dg (by simp) hw hn (by simpa [jset] using k)
theorem jG_istore_6e (F : jF E x own cc nL d cm sm) {b0 b1 b2 b3 b4 b5 : Value} {w : Value} {r : List Value} {v : Int32} (dg : decode cc pc = .ok (.istore 6, 2)) (hn : 6 < nL) (k : jG E x cells slots (pc + 2) (b0 :: b1 :: b2 :: b3 :: b4 :: b5 :: .int v :: r) st h) : jG E x cells slots pc (b0 :: b1 :: b2 :: b3 :: b4 :: b5 :: w :: r) (.int v :: st) h := jG_istore F dg (by simp) hn (by simpa [jset] using k)
theorem jG_istore_6n (F : jF E x own cc nL d cm sm) {b0 b1 b2 b3 b4 b5 : Value} {v : Int32} (dg : decode cc pc = .ok (.istore 6, 2)) (hn : 6 < nL) (k : jG E x cells slots (pc + 2) [b0, b1, b2, b3, b4, b5, .int v] st h) : jG E x cells slots pc [b0, b1, b2, b3, b4, b5] (.int v :: st) h := jG_istore F dg (by simp) hn (by simpa [jset] using k)
theorem jG_astore_6e (F : jF E x own cc nL d cm sm) {b0 b1 b2 b3 b4 b5 : Value} {w : Value} {r : List Value} {v : Nat} (dg : decode cc pc = .ok (.astore 6, 2)) (hn : 6 < nL) (k : jG E x cells slots (pc + 2) (b0 :: b1 :: b2 :: b3 :: b4 :: b5 :: .ref v :: r) st h) : jG E x cells slots pc (b0 :: b1 :: b2 :: b3 :: b4 :: b5 :: w :: r) (.ref v :: st) h := jG_astore F dg (by simp) hn (by simpa [jset] using k)
theorem jG_astore_6n (F : jF E x own cc nL d cm sm) {b0 b1 b2 b3 b4 b5 : Value} {v : Nat} (dg : decode cc pc = .ok (.astore 6, 2)) (hn : 6 < nL) (k : jG E x cells slots (pc + 2) [b0, b1, b2, b3, b4, b5, .ref v] st h) : jG E x cells slots pc [b0, b1, b2, b3, b4, b5] (.ref v :: st) h := jG_astore F dg (by simp) hn (by simpa [jset] using k)
theorem jG_iinc_6 (F : jF E x own cc nL d cm sm) {b0 b1 b2 b3 b4 b5 : Value} {r : List Value} {n : Int} {v w : Int32} (dg : decode cc pc = .ok (.iinc 6 n, 3)) (hw : v + Int32.ofInt n = w) (hn : 6 < nL) (k : jG E x cells slots (pc + 3) (b0 :: b1 :: b2 :: b3 :: b4 :: b5 :: .int w :: r) st h) : jG E x cells slots pc (b0 :: b1 :: b2 :: b3 :: b4 :: b5 :: .int v :: r) st h := jG_iinc F dg (by simp) hw hn (by simpa [jset] using k)
theorem jG_istore_7e (F : jF E x own cc nL d cm sm) {b0 b1 b2 b3 b4 b5 b6 : Value} {w : Value} {r : List Value} {v : Int32} (dg : decode cc pc = .ok (.istore 7, 2)) (hn : 7 < nL) (k : jG E x cells slots (pc + 2) (b0 :: b1 :: b2 :: b3 :: b4 :: b5 :: b6 :: .int v :: r) st h) : jG E x cells slots pc (b0 :: b1 :: b2 :: b3 :: b4 :: b5 :: b6 :: w :: r) (.int v :: st) h := jG_istore F dg (by simp) hn (by simpa [jset] using k)
theorem jG_istore_7n (F : jF E x own cc nL d cm sm) {b0 b1 b2 b3 b4 b5 b6 : Value} {v : Int32} (dg : decode cc pc = .ok (.istore 7, 2)) (hn : 7 < nL) (k : jG E x cells slots (pc + 2) [b0, b1, b2, b3, b4, b5, b6, .int v] st h) : jG E x cells slots pc [b0, b1, b2, b3, b4, b5, b6] (.int v :: st) h := jG_istore F dg (by simp) hn (by simpa [jset] using k)
theorem jG_astore_7e (F : jF E x own cc nL d cm sm) {b0 b1 b2 b3 b4 b5 b6 : Value} {w : Value} {r : List Value} {v : Nat} (dg : decode cc pc = .ok (.astore 7, 2)) (hn : 7 < nL) (k : jG E x cells slots (pc + 2) (b0 :: b1 :: b2 :: b3 :: b4 :: b5 :: b6 :: .ref v :: r) st h) : jG E x cells slots pc (b0 :: b1 :: b2 :: b3 :: b4 :: b5 :: b6 :: w :: r) (.ref v :: st) h := jG_astore F dg (by simp) hn (by simpa [jset] using k)
theorem jG_astore_7n (F : jF E x own cc nL d cm sm) {b0 b1 b2 b3 b4 b5 b6 : Value} {v : Nat} (dg : decode cc pc = .ok (.astore 7, 2)) (hn : 7 < nL) (k : jG E x cells slots (pc + 2) [b0, b1, b2, b3, b4, b5, b6, .ref v] st h) : jG E x cells slots pc [b0, b1, b2, b3, b4, b5, b6] (.ref v :: st) h := jG_astore F dg (by simp) hn (by simpa [jset] using k)
theorem jG_iinc_7 (F : jF E x own cc nL d cm sm) {b0 b1 b2 b3 b4 b5 b6 : Value} {r : List Value} {n : Int} {v w : Int32} (dg : decode cc pc = .ok (.iinc 7 n, 3)) (hw : v + Int32.ofInt n = w) (hn : 7 < nL) (k : jG E x cells slots (pc + 3) (b0 :: b1 :: b2 :: b3 :: b4 :: b5 :: b6 :: .int w :: r) st h) : jG E x cells slots pc (b0 :: b1 :: b2 :: b3 :: b4 :: b5 :: b6 :: .int v :: r) st h := jG_iinc F dg (by simp) hw hn (by simpa [jset] using k)
theorem jG_istore_8e (F : jF E x own cc nL d cm sm) {b0 b1 b2 b3 b4 b5 b6 b7 : Value} {w : Value} {r : List Value} {v : Int32} (dg : decode cc pc = .ok (.istore 8, 2)) (hn : 8 < nL) (k : jG E x cells slots (pc + 2) (b0 :: b1 :: b2 :: b3 :: b4 :: b5 :: b6 :: b7 :: .int v :: r) st h) : jG E x cells slots pc (b0 :: b1 :: b2 :: b3 :: b4 :: b5 :: b6 :: b7 :: w :: r) (.int v :: st) h := jG_istore F dg (by simp) hn (by simpa [jset] using k)
theorem jG_istore_8n (F : jF E x own cc nL d cm sm) {b0 b1 b2 b3 b4 b5 b6 b7 : Value} {v : Int32} (dg : decode cc pc = .ok (.istore 8, 2)) (hn : 8 < nL) (k : jG E x cells slots (pc + 2) [b0, b1, b2, b3, b4, b5, b6, b7, .int v] st h) : jG E x cells slots pc [b0, b1, b2, b3, b4, b5, b6, b7] (.int v :: st) h := jG_istore F dg (by simp) hn (by simpa [jset] using k)
theorem jG_astore_8e (F : jF E x own cc nL d cm sm) {b0 b1 b2 b3 b4 b5 b6 b7 : Value} {w : Value} {r : List Value} {v : Nat} (dg : decode cc pc = .ok (.astore 8, 2)) (hn : 8 < nL) (k : jG E x cells slots (pc + 2) (b0 :: b1 :: b2 :: b3 :: b4 :: b5 :: b6 :: b7 :: .ref v :: r) st h) : jG E x cells slots pc (b0 :: b1 :: b2 :: b3 :: b4 :: b5 :: b6 :: b7 :: w :: r) (.ref v :: st) h := jG_astore F dg (by simp) hn (by simpa [jset] using k)
theorem jG_astore_8n (F : jF E x own cc nL d cm sm) {b0 b1 b2 b3 b4 b5 b6 b7 : Value} {v : Nat} (dg : decode cc pc = .ok (.astore 8, 2)) (hn : 8 < nL) (k : jG E x cells slots (pc + 2) [b0, b1, b2, b3, b4, b5, b6, b7, .ref v] st h) : jG E x cells slots pc [b0, b1, b2, b3, b4, b5, b6, b7] (.ref v :: st) h := jG_astore F dg (by simp) hn (by simpa [jset] using k)
theorem jG_iinc_8 (F : jF E x own cc nL d cm sm) {b0 b1 b2 b3 b4 b5 b6 b7 : Value} {r : List Value} {n : Int} {v w : Int32} (dg : decode cc pc = .ok (.iinc 8 n, 3)) (hw : v + Int32.ofInt n = w) (hn : 8 < nL) (k : jG E x cells slots (pc + 3) (b0 :: b1 :: b2 :: b3 :: b4 :: b5 :: b6 :: b7 :: .int w :: r) st h) : jG E x cells slots pc (b0 :: b1 :: b2 :: b3 :: b4 :: b5 :: b6 :: b7 :: .int v :: r) st h := jG_iinc F dg (by simp) hw hn (by simpa [jset] using k)
theorem jG_istore_9e (F : jF E x own cc nL d cm sm) {b0 b1 b2 b3 b4 b5 b6 b7 b8 : Value} {w : Value} {r : List Value} {v : Int32} (dg : decode cc pc = .ok (.istore 9, 2)) (hn : 9 < nL) (k : jG E x cells slots (pc + 2) (b0 :: b1 :: b2 :: b3 :: b4 :: b5 :: b6 :: b7 :: b8 :: .int v :: r) st h) : jG E x cells slots pc (b0 :: b1 :: b2 :: b3 :: b4 :: b5 :: b6 :: b7 :: b8 :: w :: r) (.int v :: st) h := jG_istore F dg (by simp) hn (by simpa [jset] using k)
theorem jG_istore_9n (F : jF E x own cc nL d cm sm) {b0 b1 b2 b3 b4 b5 b6 b7 b8 : Value} {v : Int32} (dg : decode cc pc = .ok (.istore 9, 2)) (hn : 9 < nL) (k : jG E x cells slots (pc + 2) [b0, b1, b2, b3, b4, b5, b6, b7, b8, .int v] st h) : jG E x cells slots pc [b0, b1, b2, b3, b4, b5, b6, b7, b8] (.int v :: st) h := jG_istore F dg (by simp) hn (by simpa [jset] using k)
theorem jG_astore_9e (F : jF E x own cc nL d cm sm) {b0 b1 b2 b3 b4 b5 b6 b7 b8 : Value} {w : Value} {r : List Value} {v : Nat} (dg : decode cc pc = .ok (.astore 9, 2)) (hn : 9 < nL) (k : jG E x cells slots (pc + 2) (b0 :: b1 :: b2 :: b3 :: b4 :: b5 :: b6 :: b7 :: b8 :: .ref v :: r) st h) : jG E x cells slots pc (b0 :: b1 :: b2 :: b3 :: b4 :: b5 :: b6 :: b7 :: b8 :: w :: r) (.ref v :: st) h := jG_astore F dg (by simp) hn (by simpa [jset] using k)
theorem jG_astore_9n (F : jF E x own cc nL d cm sm) {b0 b1 b2 b3 b4 b5 b6 b7 b8 : Value} {v : Nat} (dg : decode cc pc = .ok (.astore 9, 2)) (hn : 9 < nL) (k : jG E x cells slots (pc + 2) [b0, b1, b2, b3, b4, b5, b6, b7, b8, .ref v] st h) : jG E x cells slots pc [b0, b1, b2, b3, b4, b5, b6, b7, b8] (.ref v :: st) h := jG_astore F dg (by simp) hn (by simpa [jset] using k)
theorem jG_iinc_9 (F : jF E x own cc nL d cm sm) {b0 b1 b2 b3 b4 b5 b6 b7 b8 : Value} {r : List Value} {n : Int} {v w : Int32} (dg : decode cc pc = .ok (.iinc 9 n, 3)) (hw : v + Int32.ofInt n = w) (hn : 9 < nL) (k : jG E x cells slots (pc + 3) (b0 :: b1 :: b2 :: b3 :: b4 :: b5 :: b6 :: b7 :: b8 :: .int w :: r) st h) : jG E x cells slots pc (b0 :: b1 :: b2 :: b3 :: b4 :: b5 :: b6 :: b7 :: b8 :: .int v :: r) st h := jG_iinc F dg (by simp) hw hn (by simpa [jset] using k)
theorem jG_istore_10e (F : jF E x own cc nL d cm sm) {b0 b1 b2 b3 b4 b5 b6 b7 b8 b9 : Value} {w : Value} {r : List Value} {v : Int32} (dg : decode cc pc = .ok (.istore 10, 2)) (hn : 10 < nL) (k : jG E x cells slots (pc + 2) (b0 :: b1 :: b2 :: b3 :: b4 :: b5 :: b6 :: b7 :: b8 :: b9 :: .int v :: r) st h) : jG E x cells slots pc (b0 :: b1 :: b2 :: b3 :: b4 :: b5 :: b6 :: b7 :: b8 :: b9 :: w :: r) (.int v :: st) h := jG_istore F dg (by simp) hn (by simpa [jset] using k)
theorem jG_istore_10n (F : jF E x own cc nL d cm sm) {b0 b1 b2 b3 b4 b5 b6 b7 b8 b9 : Value} {v : Int32} (dg : decode cc pc = .ok (.istore 10, 2)) (hn : 10 < nL) (k : jG E x cells slots (pc + 2) [b0, b1, b2, b3, b4, b5, b6, b7, b8, b9, .int v] st h) : jG E x cells slots pc [b0, b1, b2, b3, b4, b5, b6, b7, b8, b9] (.int v :: st) h := jG_istore F dg (by simp) hn (by simpa [jset] using k)
theorem jG_astore_10e (F : jF E x own cc nL d cm sm) {b0 b1 b2 b3 b4 b5 b6 b7 b8 b9 : Value} {w : Value} {r : List Value} {v : Nat} (dg : decode cc pc = .ok (.astore 10, 2)) (hn : 10 < nL) (k : jG E x cells slots (pc + 2) (b0 :: b1 :: b2 :: b3 :: b4 :: b5 :: b6 :: b7 :: b8 :: b9 :: .ref v :: r) st h) : jG E x cells slots pc (b0 :: b1 :: b2 :: b3 :: b4 :: b5 :: b6 :: b7 :: b8 :: b9 :: w :: r) (.ref v :: st) h := jG_astore F dg (by simp) hn (by simpa [jset] using k)
theorem jG_astore_10n (F : jF E x own cc nL d cm sm) {b0 b1 b2 b3 b4 b5 b6 b7 b8 b9 : Value} {v : Nat} (dg : decode cc pc = .ok (.astore 10, 2)) (hn : 10 < nL) (k : jG E x cells slots (pc + 2) [b0, b1, b2, b3, b4, b5, b6, b7, b8, b9, .ref v] st h) : jG E x cells slots pc [b0, b1, b2, b3, b4, b5, b6, b7, b8, b9] (.ref v :: st) h := jG_astore F dg (by simp) hn (by simpa [jset] using k)
theorem jG_iinc_10 (F : jF E x own cc nL d cm sm) {b0 b1 b2 b3 b4 b5 b6 b7 b8 b9 : Value} {r : List Value} {n : Int} {v w : Int32} (dg : decode cc pc = .ok (.iinc 10 n, 3)) (hw : v + Int32.ofInt n = w) (hn : 10 < nL) (k : jG E x cells slots (pc + 3) (b0 :: b1 :: b2 :: b3 :: b4 :: b5 :: b6 :: b7 :: b8 :: b9 :: .int w :: r) st h) : jG E x cells slots pc (b0 :: b1 :: b2 :: b3 :: b4 :: b5 :: b6 :: b7 :: b8 :: b9 :: .int v :: r) st h := jG_iinc F dg (by simp) hw hn (by simpa [jset] using k)
theorem jG_istore_11e (F : jF E x own cc nL d cm sm) {b0 b1 b2 b3 b4 b5 b6 b7 b8 b9 b10 : Value} {w : Value} {r : List Value} {v : Int32} (dg : decode cc pc = .ok (.istore 11, 2)) (hn : 11 < nL) (k : jG E x cells slots (pc + 2) (b0 :: b1 :: b2 :: b3 :: b4 :: b5 :: b6 :: b7 :: b8 :: b9 :: b10 :: .int v :: r) st h) : jG E x cells slots pc (b0 :: b1 :: b2 :: b3 :: b4 :: b5 :: b6 :: b7 :: b8 :: b9 :: b10 :: w :: r) (.int v :: st) h := jG_istore F dg (by simp) hn (by simpa [jset] using k)
theorem jG_istore_11n (F : jF E x own cc nL d cm sm) {b0 b1 b2 b3 b4 b5 b6 b7 b8 b9 b10 : Value} {v : Int32} (dg : decode cc pc = .ok (.istore 11, 2)) (hn : 11 < nL) (k : jG E x cells slots (pc + 2) [b0, b1, b2, b3, b4, b5, b6, b7, b8, b9, b10, .int v] st h) : jG E x cells slots pc [b0, b1, b2, b3, b4, b5, b6, b7, b8, b9, b10] (.int v :: st) h := jG_istore F dg (by simp) hn (by simpa [jset] using k)
theorem jG_astore_11e (F : jF E x own cc nL d cm sm) {b0 b1 b2 b3 b4 b5 b6 b7 b8 b9 b10 : Value} {w : Value} {r : List Value} {v : Nat} (dg : decode cc pc = .ok (.astore 11, 2)) (hn : 11 < nL) (k : jG E x cells slots (pc + 2) (b0 :: b1 :: b2 :: b3 :: b4 :: b5 :: b6 :: b7 :: b8 :: b9 :: b10 :: .ref v :: r) st h) : jG E x cells slots pc (b0 :: b1 :: b2 :: b3 :: b4 :: b5 :: b6 :: b7 :: b8 :: b9 :: b10 :: w :: r) (.ref v :: st) h := jG_astore F dg (by simp) hn (by simpa [jset] using k)
theorem jG_astore_11n (F : jF E x own cc nL d cm sm) {b0 b1 b2 b3 b4 b5 b6 b7 b8 b9 b10 : Value} {v : Nat} (dg : decode cc pc = .ok (.astore 11, 2)) (hn : 11 < nL) (k : jG E x cells slots (pc + 2) [b0, b1, b2, b3, b4, b5, b6, b7, b8, b9, b10, .ref v] st h) : jG E x cells slots pc [b0, b1, b2, b3, b4, b5, b6, b7, b8, b9, b10] (.ref v :: st) h := jG_astore F dg (by simp) hn (by simpa [jset] using k)
theorem jG_iinc_11 (F : jF E x own cc nL d cm sm) {b0 b1 b2 b3 b4 b5 b6 b7 b8 b9 b10 : Value} {r : List Value} {n : Int} {v w : Int32} (dg : decode cc pc = .ok (.iinc 11 n, 3)) (hw : v + Int32.ofInt n = w) (hn : 11 < nL) (k : jG E x cells slots (pc + 3) (b0 :: b1 :: b2 :: b3 :: b4 :: b5 :: b6 :: b7 :: b8 :: b9 :: b10 :: .int w :: r) st h) : jG E x cells slots pc (b0 :: b1 :: b2 :: b3 :: b4 :: b5 :: b6 :: b7 :: b8 :: b9 :: b10 :: .int v :: r) st h := jG_iinc F dg (by simp) hw hn (by simpa [jset] using k)
theorem jG_istore_12e (F : jF E x own cc nL d cm sm) {b0 b1 b2 b3 b4 b5 b6 b7 b8 b9 b10 b11 : Value} {w : Value} {r : List Value} {v : Int32} (dg : decode cc pc = .ok (.istore 12, 2)) (hn : 12 < nL) (k : jG E x cells slots (pc + 2) (b0 :: b1 :: b2 :: b3 :: b4 :: b5 :: b6 :: b7 :: b8 :: b9 :: b10 :: b11 :: .int v :: r) st h) : jG E x cells slots pc (b0 :: b1 :: b2 :: b3 :: b4 :: b5 :: b6 :: b7 :: b8 :: b9 :: b10 :: b11 :: w :: r) (.int v :: st) h := jG_istore F dg (by simp) hn (by simpa [jset] using k)
theorem jG_istore_12n (F : jF E x own cc nL d cm sm) {b0 b1 b2 b3 b4 b5 b6 b7 b8 b9 b10 b11 : Value} {v : Int32} (dg : decode cc pc = .ok (.istore 12, 2)) (hn : 12 < nL) (k : jG E x cells slots (pc + 2) [b0, b1, b2, b3, b4, b5, b6, b7, b8, b9, b10, b11, .int v] st h) : jG E x cells slots pc [b0, b1, b2, b3, b4, b5, b6, b7, b8, b9, b10, b11] (.int v :: st) h := jG_istore F dg (by simp) hn (by simpa [jset] using k)
theorem jG_astore_12e (F : jF E x own cc nL d cm sm) {b0 b1 b2 b3 b4 b5 b6 b7 b8 b9 b10 b11 : Value} {w : Value} {r : List Value} {v : Nat} (dg : decode cc pc = .ok (.astore 12, 2)) (hn : 12 < nL) (k : jG E x cells slots (pc + 2) (b0 :: b1 :: b2 :: b3 :: b4 :: b5 :: b6 :: b7 :: b8 :: b9 :: b10 :: b11 :: .ref v :: r) st h) : jG E x cells slots pc (b0 :: b1 :: b2 :: b3 :: b4 :: b5 :: b6 :: b7 :: b8 :: b9 :: b10 :: b11 :: w :: r) (.ref v :: st) h := jG_astore F dg (by simp) hn (by simpa [jset] using k)
theorem jG_astore_12n (F : jF E x own cc nL d cm sm) {b0 b1 b2 b3 b4 b5 b6 b7 b8 b9 b10 b11 : Value} {v : Nat} (dg : decode cc pc = .ok (.astore 12, 2)) (hn : 12 < nL) (k : jG E x cells slots (pc + 2) [b0, b1, b2, b3, b4, b5, b6, b7, b8, b9, b10, b11, .ref v] st h) : jG E x cells slots pc [b0, b1, b2, b3, b4, b5, b6, b7, b8, b9, b10, b11] (.ref v :: st) h := jG_astore F dg (by simp) hn (by simpa [jset] using k)
theorem jG_iinc_12 (F : jF E x own cc nL d cm sm) {b0 b1 b2 b3 b4 b5 b6 b7 b8 b9 b10 b11 : Value} {r : List Value} {n : Int} {v w : Int32} (dg : decode cc pc = .ok (.iinc 12 n, 3)) (hw : v + Int32.ofInt n = w) (hn : 12 < nL) (k : jG E x cells slots (pc + 3) (b0 :: b1 :: b2 :: b3 :: b4 :: b5 :: b6 :: b7 :: b8 :: b9 :: b10 :: b11 :: .int w :: r) st h) : jG E x cells slots pc (b0 :: b1 :: b2 :: b3 :: b4 :: b5 :: b6 :: b7 :: b8 :: b9 :: b10 :: b11 :: .int v :: r) st h := jG_iinc F dg (by simp) hw hn (by simpa [jset] using k)
theorem jG_istore_13e (F : jF E x own cc nL d cm sm) {b0 b1 b2 b3 b4 b5 b6 b7 b8 b9 b10 b11 b12 : Value} {w : Value} {r : List Value} {v : Int32} (dg : decode cc pc = .ok (.istore 13, 2)) (hn : 13 < nL) (k : jG E x cells slots (pc + 2) (b0 :: b1 :: b2 :: b3 :: b4 :: b5 :: b6 :: b7 :: b8 :: b9 :: b10 :: b11 :: b12 :: .int v :: r) st h) : jG E x cells slots pc (b0 :: b1 :: b2 :: b3 :: b4 :: b5 :: b6 :: b7 :: b8 :: b9 :: b10 :: b11 :: b12 :: w :: r) (.int v :: st) h := jG_istore F dg (by simp) hn (by simpa [jset] using k)
theorem jG_istore_13n (F : jF E x own cc nL d cm sm) {b0 b1 b2 b3 b4 b5 b6 b7 b8 b9 b10 b11 b12 : Value} {v : Int32} (dg : decode cc pc = .ok (.istore 13, 2)) (hn : 13 < nL) (k : jG E x cells slots (pc + 2) [b0, b1, b2, b3, b4, b5, b6, b7, b8, b9, b10, b11, b12, .int v] st h) : jG E x cells slots pc [b0, b1, b2, b3, b4, b5, b6, b7, b8, b9, b10, b11, b12] (.int v :: st) h := jG_istore F dg (by simp) hn (by simpa [jset] using k)
theorem jG_astore_13e (F : jF E x own cc nL d cm sm) {b0 b1 b2 b3 b4 b5 b6 b7 b8 b9 b10 b11 b12 : Value} {w : Value} {r : List Value} {v : Nat} (dg : decode cc pc = .ok (.astore 13, 2)) (hn : 13 < nL) (k : jG E x cells slots (pc + 2) (b0 :: b1 :: b2 :: b3 :: b4 :: b5 :: b6 :: b7 :: b8 :: b9 :: b10 :: b11 :: b12 :: .ref v :: r) st h) : jG E x cells slots pc (b0 :: b1 :: b2 :: b3 :: b4 :: b5 :: b6 :: b7 :: b8 :: b9 :: b10 :: b11 :: b12 :: w :: r) (.ref v :: st) h := jG_astore F dg (by simp) hn (by simpa [jset] using k)
theorem jG_astore_13n (F : jF E x own cc nL d cm sm) {b0 b1 b2 b3 b4 b5 b6 b7 b8 b9 b10 b11 b12 : Value} {v : Nat} (dg : decode cc pc = .ok (.astore 13, 2)) (hn : 13 < nL) (k : jG E x cells slots (pc + 2) [b0, b1, b2, b3, b4, b5, b6, b7, b8, b9, b10, b11, b12, .ref v] st h) : jG E x cells slots pc [b0, b1, b2, b3, b4, b5, b6, b7, b8, b9, b10, b11, b12] (.ref v :: st) h := jG_astore F dg (by simp) hn (by simpa [jset] using k)
theorem jG_iinc_13 (F : jF E x own cc nL d cm sm) {b0 b1 b2 b3 b4 b5 b6 b7 b8 b9 b10 b11 b12 : Value} {r : List Value} {n : Int} {v w : Int32} (dg : decode cc pc = .ok (.iinc 13 n, 3)) (hw : v + Int32.ofInt n = w) (hn : 13 < nL) (k : jG E x cells slots (pc + 3) (b0 :: b1 :: b2 :: b3 :: b4 :: b5 :: b6 :: b7 :: b8 :: b9 :: b10 :: b11 :: b12 :: .int w :: r) st h) : jG E x cells slots pc (b0 :: b1 :: b2 :: b3 :: b4 :: b5 :: b6 :: b7 :: b8 :: b9 :: b10 :: b11 :: b12 :: .int v :: r) st h := jG_iinc F dg (by simp) hw hn (by simpa [jset] using k)
theorem jG_iald (F : jF E x own cc nL d cm sm) {lv : List Value} {i n k : Nat} {f : Nat → Int32} {j : Int32} (dg : decode cc pc = .ok (.iaload, 1)) (he : h[i]? = some (.inl (E.2.2.1, n, .inl f))) (hj : j = nI k) (hk : k < n) (hn : n < 2 ^ 31) (kk : jG E x cells slots (pc + 1) lv (.int (f k) :: st) h) : jG E x cells slots pc lv (.int j :: .ref (E.1 + i) :: st) h := by
  subst hj
  refine jG_iaload F dg he (vp_in_nI hk hn) ?_
  rw [nI_clamp (Nat.lt_trans hk hn)]
  exact kk
theorem jG_iast (F : jF E x own cc nL d cm sm) {lv : List Value} {i n k : Nat} {f : Nat → Int32} {j v : Int32} (dg : decode cc pc = .ok (.iastore, 1)) (he : h[i]? = some (.inl (E.2.2.1, n, .inl f))) (hj : j = nI k) (hk : k < n) (hn : n < 2 ^ 31) (kk : jG E x cells slots (pc + 1) lv st (h.set i (.inl (E.2.2.1, n, .inl (upd f k v))))) : jG E x cells slots pc lv (.int v :: .int j :: .ref (E.1 + i) :: st) h := by
  subst hj
  refine jG_iastore F dg he (vp_in_nI hk hn) ?_
  rw [nI_clamp (Nat.lt_trans hk hn)]
  exact kk
theorem jG_tabN (F : jF E x own cc nL d cm sm) {lv : List Value} {t k : Nat} {f : Nat → Int32} {j : Int32} (hT : va_T .int t 4 (fun j => .int (f j)) (jb E) (jS x) (jS x).heap) (dg : decode cc pc = .ok (.iaload, 1)) (hj : j = nI k) (hk : k < 4) (kk : jG E x cells slots (pc + 1) lv (.int (f k) :: st) h) : jG E x cells slots pc lv (.int j :: .ref t :: st) h := by
  subst hj
  refine jG_tab F hT dg (vp_in_nI hk (by decide)) ?_
  rw [nI_clamp (Nat.lt_trans hk (by decide))]
  exact kk
theorem jG_iret (F : jF E x own cc nL d cm sm) {lv : List Value} {v r : Int32} {ty : FieldType} (T : jT E x (some ty) (some (.int r)) h' cells slots) (e1 : v = r) (e2 : h = h') (hn : narrow ty (.int v) = .int v) (dg : decode cc pc = .ok (.ireturn, 1)) : jG E x cells slots pc lv [.int v] h := by
  subst e1; subst e2
  exact jG_ireturn F T hn dg
theorem jG_ret (F : jF E x own cc nL d cm sm) {lv : List Value} (T : jT E x none none h' cells slots) (e2 : h = h') (dg : decode cc pc = .ok (.return_, 1)) : jG E x cells slots pc lv [] h := by
  subst e2
  exact jG_return F T dg
theorem jG_baseXN (F : jF E x own cc nL d cm sm) {lv : List Value} {index : Nat} (hw : Cond.fieldLinkNest own index "JumpDiscs" "BASE_X" "[I" "JumpDiscs" ∈ jNW) (dg : decode cc pc = .ok (.getstatic index, 3)) (k : jG E x cells slots (pc + 3) lv (.ref E.2.2.2.2.1 :: st) h) : jG E x cells slots pc lv st h :=
  fun H locs ls hl hH hS => va_getsN F.1 F.2.1 F.2.2.2.2.2.1.2.2.2.1.1 hS F.2.2.2.1 (va_Nw.use rfl (F.2.2.2.2.2.1.2.2.1 _ hw)) (fun _ q => q) dg (k H locs ls hl hH hS)
theorem jG_baseYN (F : jF E x own cc nL d cm sm) {lv : List Value} {index : Nat} (hw : Cond.fieldLinkNest own index "JumpDiscs" "BASE_Y" "[I" "JumpDiscs" ∈ jNW) (dg : decode cc pc = .ok (.getstatic index, 3)) (k : jG E x cells slots (pc + 3) lv (.ref E.2.2.2.2.2.1 :: st) h) : jG E x cells slots pc lv st h :=
  fun H locs ls hl hH hS => va_getsN F.1 F.2.1 F.2.2.2.2.2.1.2.2.2.2.1.1 hS F.2.2.2.1 (va_Nw.use rfl (F.2.2.2.2.2.1.2.2.1 _ hw)) (fun _ q => q) dg (k H locs ls hl hH hS)
theorem jG_placeT (F : jF E x own cc nL d cm sm) {lv : List Value} {index : Nat} (hw : Cond.fieldLink own index "JumpDiscs" "PLACE_TWELFTHS" "[I" ∈ jTB) (dg : decode cc pc = .ok (.getstatic index, 3)) (k : jG E x cells slots (pc + 3) lv (.ref E.2.2.2.2.2.2 :: st) h) : jG E x cells slots pc lv st h :=
  fun H locs ls hl hH hS => va_gets F.1 F.2.1 F.2.2.2.2.2.1.2.2.2.2.2.1 hS F.2.2.2.1 (F.2.2.2.2.1 _ hw) (fun _ q => q) dg (k H locs ls hl hH hS)
end JN
theorem jup (N : Nat) (P : Nat → Prop) (h0 : P N) (hs : ∀ k, k < N → P (k + 1) → P k) : ∀ k, k ≤ N → P k := by
  intro k hk
  obtain ⟨n, hn⟩ : ∃ n, N = k + n := ⟨N - k, by omega⟩
  induction n generalizing k with
  | zero => have : k = N := by omega
            rw [this]; exact h0
  | succ n ih => exact hs k (by omega) (ih (k + 1) (by omega) (by omega))
/-! ===== a Board's cells: the object at i, its three rows behind it ===== -/
abbrev jBT : Type := (Nat → Int32) × (Nat → Int32) × (Nat → Int32) × Int32 × Int32 × Int32
abbrev jbo (E : jE) (i : Nat) (ly cu cd : Int32) : va_E := .inr (1, [.ref (E.1 + (i + 1)), .ref (E.1 + (i + 2)), .ref (E.1 + (i + 3)), .int ly, .int cu, .int cd])
abbrev jar (E : jE) (n : Nat) (f : Nat → Int32) : va_E := .inl (E.2.2.1, n, .inl f)
def jp6 (E : jE) (h : List va_E) (i : Nat) (xs ys cv : Nat → Int32) (ly cu cd : Int32) : List va_E := (((h.set i (jbo E i ly cu cd)).set (i + 1) (jar E 16 xs)).set (i + 2) (jar E 16 ys)).set (i + 3) (jar E 16 cv)
abbrev jpB (E : jE) (h : List va_E) (i : Nat) (B : jBT) : List va_E := jp6 E h i B.1 B.2.1 B.2.2.1 B.2.2.2.1 B.2.2.2.2.1 B.2.2.2.2.2
section JB
variable {E : jE} {h : List va_E} {i : Nat} {xs ys cv f : Nat → Int32} {ly cu cd v : Int32}
theorem jset_ext {a b : List va_E} (h : ∀ j : Nat, a[j]? = b[j]?) : a = b := List.ext_getElem? h
theorem jpB_len : (jp6 E h i xs ys cv ly cu cd).length = h.length := by simp [jp6]
theorem jpB_o (hi : i + 3 < h.length) : (jp6 E h i xs ys cv ly cu cd)[i]? = some (jbo E i ly cu cd) := by
  simp [jp6, List.getElem?_set, show i < h.length by omega]
theorem jpB_x (hi : i + 3 < h.length) : (jp6 E h i xs ys cv ly cu cd)[i + 1]? = some (jar E 16 xs) := by
  simp [jp6, List.getElem?_set, show i + 1 < h.length by omega]
theorem jpB_y (hi : i + 3 < h.length) : (jp6 E h i xs ys cv ly cu cd)[i + 2]? = some (jar E 16 ys) := by
  simp [jp6, List.getElem?_set, show i + 2 < h.length by omega]
theorem jpB_c (hi : i + 3 < h.length) : (jp6 E h i xs ys cv ly cu cd)[i + 3]? = some (jar E 16 cv) := by
  simp [jp6, List.getElem?_set, hi]
theorem jpB_ne {j : Nat} (h0 : j ≠ i) (h1 : j ≠ i + 1) (h2 : j ≠ i + 2) (h3 : j ≠ i + 3) : (jp6 E h i xs ys cv ly cu cd)[j]? = h[j]? := by
  simp [jp6, List.getElem?_set, h0.symm, h1.symm, h2.symm, h3.symm]
theorem jpB_put_lying : (jp6 E h i xs ys cv ly cu cd).set i (.inr (1, [.ref (E.1 + (i + 1)), .ref (E.1 + (i + 2)), .ref (E.1 + (i + 3)), .int ly, .int cu, .int cd].set 3 (.int v))) = jp6 E h i xs ys cv v cu cd := by
  apply jset_ext; intro j
  simp only [jp6, List.getElem?_set, List.length_set]
  by_cases e : i = j
  · subst e; simp
  · simp [e]
theorem jpB_put_inCup : (jp6 E h i xs ys cv ly cu cd).set i (.inr (1, [.ref (E.1 + (i + 1)), .ref (E.1 + (i + 2)), .ref (E.1 + (i + 3)), .int ly, .int cu, .int cd].set 4 (.int v))) = jp6 E h i xs ys cv ly v cd := by
  apply jset_ext; intro j
  simp only [jp6, List.getElem?_set, List.length_set]
  by_cases e : i = j
  · subst e; simp
  · simp [e]
theorem jpB_put_covered : (jp6 E h i xs ys cv ly cu cd).set i (.inr (1, [.ref (E.1 + (i + 1)), .ref (E.1 + (i + 2)), .ref (E.1 + (i + 3)), .int ly, .int cu, .int cd].set 5 (.int v))) = jp6 E h i xs ys cv ly cu v := by
  apply jset_ext; intro j
  simp only [jp6, List.getElem?_set, List.length_set]
  by_cases e : i = j
  · subst e; simp
  · simp [e]
theorem jpB_st_x : (jp6 E h i xs ys cv ly cu cd).set (i + 1) (jar E 16 f) = jp6 E h i f ys cv ly cu cd := by
  apply jset_ext; intro j
  simp only [jp6, List.getElem?_set, List.length_set]
  by_cases e : i + 1 = j
  · subst e; simp
  · simp [e]
theorem jpB_st_y : (jp6 E h i xs ys cv ly cu cd).set (i + 2) (jar E 16 f) = jp6 E h i xs f cv ly cu cd := by
  apply jset_ext; intro j
  simp only [jp6, List.getElem?_set, List.length_set]
  by_cases e : i + 2 = j
  · subst e; simp
  · simp [e]
theorem jpB_st_c : (jp6 E h i xs ys cv ly cu cd).set (i + 3) (jar E 16 f) = jp6 E h i xs ys f ly cu cd := by
  apply jset_ext; intro j
  simp only [jp6, List.getElem?_set, List.length_set]
  by_cases e : i + 3 = j
  · subst e; simp
  · simp [e]
theorem jpB_same (hi : i + 3 < h.length) (ho : h[i]? = some (jbo E i ly cu cd)) (hx : h[i + 1]? = some (jar E 16 xs)) (hy : h[i + 2]? = some (jar E 16 ys)) (hc : h[i + 3]? = some (jar E 16 cv)) : jp6 E h i xs ys cv ly cu cd = h := by
  apply jset_ext; intro j
  by_cases e3 : i + 3 = j
  · subst e3; rw [jpB_c hi, hc]
  · by_cases e2 : i + 2 = j
    · subst e2; rw [jpB_y hi, hy]
    · by_cases e1 : i + 1 = j
      · subst e1; rw [jpB_x hi, hx]
      · by_cases e0 : i = j
        · subst e0; rw [jpB_o hi, ho]
        · rw [jpB_ne (Ne.symm e0) (Ne.symm e1) (Ne.symm e2) (Ne.symm e3)]
theorem jpB_twice {xs2 ys2 cv2 : Nat → Int32} {ly2 cu2 cd2 : Int32} : jp6 E (jp6 E h i xs ys cv ly cu cd) i xs2 ys2 cv2 ly2 cu2 cd2 = jp6 E h i xs2 ys2 cv2 ly2 cu2 cd2 := by
  apply jset_ext; intro j
  by_cases e3 : i + 3 = j
  · subst e3; simp [jp6, List.getElem?_set]
  · by_cases e2 : i + 2 = j
    · subst e2; simp [jp6, List.getElem?_set]
    · by_cases e1 : i + 1 = j
      · subst e1; simp [jp6, List.getElem?_set]
      · by_cases e0 : i = j
        · subst e0; simp [jp6, List.getElem?_set]
        · rw [jpB_ne (Ne.symm e0) (Ne.symm e1) (Ne.symm e2) (Ne.symm e3), jpB_ne (Ne.symm e0) (Ne.symm e1) (Ne.symm e2) (Ne.symm e3), jpB_ne (Ne.symm e0) (Ne.symm e1) (Ne.symm e2) (Ne.symm e3)]
end JB
