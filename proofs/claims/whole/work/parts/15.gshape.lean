/-! ===== a Game's cells: the object at g, its Board behind it ===== -/
abbrev jgo (E : jE) (g : Nat) (ro ru ti : Int32) (se : Int64) (tu : Nat) (go rd : Int32) : va_E := .inr (2, [.ref (E.1 + (g + 1)), .int ro, .int ru, .int ti, .long se, .int (nI tu), .int go, .int rd])
abbrev jp13 (E : jE) (h : List va_E) (g : Nat) (xs ys cv : Nat → Int32) (ly cu cd ro ru ti : Int32) (se : Int64) (tu : Nat) (go rd : Int32) : List va_E := jp6 E (h.set g (jgo E g ro ru ti se tu go rd)) (g + 1) xs ys cv ly cu cd
section JGS
variable {E : jE} {h : List va_E} {g i : Nat} {xs ys cv : Nat → Int32} {ly cu cd ro ru ti v go rd : Int32} {se w : Int64} {tu t : Nat}
theorem jp6_set_ne {j : Nat} {e : va_E} (h0 : j ≠ i) (h1 : j ≠ i + 1) (h2 : j ≠ i + 2) (h3 : j ≠ i + 3) : (jp6 E h i xs ys cv ly cu cd).set j e = jp6 E (h.set j e) i xs ys cv ly cu cd := by
  unfold jp6
  rw [List.set_comm _ _ (Ne.symm h3), List.set_comm _ _ (Ne.symm h2), List.set_comm _ _ (Ne.symm h1), List.set_comm _ _ (Ne.symm h0)]
theorem jhg {e : va_E} (hg : g + 4 < h.length) : g + 1 + 3 < (h.set g e).length := by rw [List.length_set]; omega
theorem jpG_o (hg : g + 4 < h.length) : (jp13 E h g xs ys cv ly cu cd ro ru ti se tu go rd)[g]? = some (jgo E g ro ru ti se tu go rd) := by
  rw [jpB_ne (by omega) (by omega) (by omega) (by omega)]
  simp [show g < h.length by omega]
theorem jpG_len : (jp13 E h g xs ys cv ly cu cd ro ru ti se tu go rd).length = h.length := by rw [jpB_len, List.length_set]
theorem jpG_put {e : va_E} : (jp13 E h g xs ys cv ly cu cd ro ru ti se tu go rd).set g e = jp6 E (h.set g e) (g + 1) xs ys cv ly cu cd := by
  rw [jp6_set_ne (by omega) (by omega) (by omega) (by omega), List.set_set]
theorem jpG_put_rough : (jp13 E h g xs ys cv ly cu cd ro ru ti se tu go rd).set g (.inr (2, [.ref (E.1 + (g + 1)), .int ro, .int ru, .int ti, .long se, .int (nI tu), .int go, .int rd].set 1 (.int v))) = jp13 E h g xs ys cv ly cu cd v ru ti se tu go rd := jpG_put
theorem jpG_put_run : (jp13 E h g xs ys cv ly cu cd ro ru ti se tu go rd).set g (.inr (2, [.ref (E.1 + (g + 1)), .int ro, .int ru, .int ti, .long se, .int (nI tu), .int go, .int rd].set 2 (.int v))) = jp13 E h g xs ys cv ly cu cd ro v ti se tu go rd := jpG_put
theorem jpG_put_time : (jp13 E h g xs ys cv ly cu cd ro ru ti se tu go rd).set g (.inr (2, [.ref (E.1 + (g + 1)), .int ro, .int ru, .int ti, .long se, .int (nI tu), .int go, .int rd].set 3 (.int v))) = jp13 E h g xs ys cv ly cu cd ro ru v se tu go rd := jpG_put
theorem jpG_put_seed : (jp13 E h g xs ys cv ly cu cd ro ru ti se tu go rd).set g (.inr (2, [.ref (E.1 + (g + 1)), .int ro, .int ru, .int ti, .long se, .int (nI tu), .int go, .int rd].set 4 (.long w))) = jp13 E h g xs ys cv ly cu cd ro ru ti w tu go rd := jpG_put
theorem jpG_put_turn : (jp13 E h g xs ys cv ly cu cd ro ru ti se tu go rd).set g (.inr (2, [.ref (E.1 + (g + 1)), .int ro, .int ru, .int ti, .long se, .int (nI tu), .int go, .int rd].set 5 (.int (nI t)))) = jp13 E h g xs ys cv ly cu cd ro ru ti se t go rd := jpG_put
theorem jpG_put_gone : (jp13 E h g xs ys cv ly cu cd ro ru ti se tu go rd).set g (.inr (2, [.ref (E.1 + (g + 1)), .int ro, .int ru, .int ti, .long se, .int (nI tu), .int go, .int rd].set 6 (.int v))) = jp13 E h g xs ys cv ly cu cd ro ru ti se tu v rd := jpG_put
theorem jpG_put_rounds : (jp13 E h g xs ys cv ly cu cd ro ru ti se tu go rd).set g (.inr (2, [.ref (E.1 + (g + 1)), .int ro, .int ru, .int ti, .long se, .int (nI tu), .int go, .int rd].set 7 (.int v))) = jp13 E h g xs ys cv ly cu cd ro ru ti se tu go v := jpG_put
end JGS
