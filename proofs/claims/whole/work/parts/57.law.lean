/-! ===== the law: its script, a row a case ===== -/
section LW
variable {E : jE} {x : jX} {own : String} {cc : ByteArray} {nL d cm sm cells slots pc : Nat} {lv st : List Value} {h : List va_E} {b L N i : Nat} {xs : Nat → Int32} {C : jCT} {Q : jMT}
/-- the script of L ints, a cell that isn't ours -/
def jScr (E : jE) (x : jX) (b L : Nat) (xs : Nat → Int32) : Prop := va_X b L xs (jS x) (jS x).heap ∧ b < (jS x).heap.size ∧ ¬ jb E b
theorem jG_slen (F : jF E x own cc nL d cm sm) (S : jScr E x b L xs) (dg : decode cc pc = .ok (.arraylength, 1)) (k : jG E x cells slots (pc + 1) lv (.int (nI L) :: st) h) : jG E x cells slots pc lv (.ref b :: st) h :=
  fun H locs ls hl hH hS => va_slen F.1 F.2.1 S.1 S.2.1 S.2.2 hS dg (k H locs ls hl hH hS)
theorem jG_sld (F : jF E x own cc nL d cm sm) (S : jScr E x b L xs) {j : Int32} {k0 : Nat} (hj : j = nI k0) (hk : k0 < L) (hL : L ≤ 4096) (dg : decode cc pc = .ok (.iaload, 1)) (k : jG E x cells slots (pc + 1) lv (.int (xs k0) :: st) h) : jG E x cells slots pc lv (.int j :: .ref b :: st) h := by
  subst hj
  intro H locs ls hl hH hS
  refine va_sld F.1 F.2.1 S.1 S.2.1 S.2.2 hS (vp_in_nI hk (by omega)) dg ?_
  rw [nI_clamp (by omega)]
  exact k H locs ls hl hH hS
/-- the model's cells -/
abbrev jmc (E : jE) (Q : jMT) : List va_E := jmd E [] Q
theorem jtm : jmd E (jtop E C []) Q = jtop E C (jmc E Q) := rfl
abbrev jlw (E : jE) (b i : Nat) : List Value := [.ref b, .ref (E.1 + 0), .ref (E.1 + 41), .int (nI i)]
/-- the law's frame, between two calls -/
abbrev jLG (E : jE) (x : jX) (pc b i : Nat) (C : jCT) (Q : jMT) : Prop := jG E x 50 1278 pc (jlw E b i) [] (jmd E (jtop E C []) Q)
theorem law_anew (F : jF E x RL cL_law 4 13 600000 7302250) (S : jScr E x b L xs) (hi : i + 8 ≤ L) (hL : L ≤ 4096) (h : jREL N C Q) (hN : N ≤ 900) (kk : ∀ C' Q', jREL (N + 1) C' Q' → jLG E x 793 b i C' Q') : jLG E x 140 b i C Q := by
  obtain ⟨r, C', Q', hr, m1, m2⟩ := s_anew (l := jL x) h 
  refine jG_eq rfl rfl jtm ?_
  refine jG_aload_n F dL_law_140 rfl ?_
  refine jc_L_13 F dL_law_141 (m1 E _) rfl (by decide) (by decide) (by decide) (Nat.le_of_ble_eq_true rfl) ?_
  refine jG_eq rfl rfl jtm.symm ?_
  refine jG_aload_n F dL_law_144 rfl ?_
  refine jc_L_17 F dL_law_145 (m2 E (jtop E C' []) jtop_len) (jw9_o jtop_len) (by decide) (by decide) (by decide) (Nat.le_of_ble_eq_true rfl) ?_
  exact jG_icmp_eq F 793 dL_law_148 (by decide) (fun _ => kk C' Q' hr) (fun q => absurd rfl q)
theorem law_rule (F : jF E x RL cL_law 4 13 600000 7302250) (S : jScr E x b L xs) (hi : i + 8 ≤ L) (hL : L ≤ 4096) (h : jREL N C Q) (hN : N ≤ 900) (kk : ∀ C' Q', jREL (N + 1) C' Q' → jLG E x 793 b i C' Q') : jLG E x 153 b i C Q := by
  obtain ⟨r, C', Q', hr, m1, m2⟩ := s_rule (l := jL x) h (w := xs (i + 1)) (v := xs (i + 2))
  refine jG_eq rfl rfl jtm ?_
  refine jG_aload_n F dL_law_153 rfl ?_
  refine jG_aload_n F dL_law_154 rfl ?_
  refine jG_iload_n F dL_law_155 rfl ?_
  refine jG_iconst F (v := nI 1) dL_law_156 (by decide) ?_
  refine jG_iadd F dL_law_157 ?_
  refine jG_sld F S (k0 := i + 1) (nI_add i 1) (by omega) hL dL_law_158 ?_
  refine jG_aload_n F dL_law_159 rfl ?_
  refine jG_iload_n F dL_law_160 rfl ?_
  refine jG_iconst F (v := nI 2) dL_law_161 (by decide) ?_
  refine jG_iadd F dL_law_162 ?_
  refine jG_sld F S (k0 := i + 2) (nI_add i 2) (by omega) hL dL_law_163 ?_
  refine jc_L_18 F dL_law_164 (m1 E _) rfl (by decide) (by decide) (by decide) (Nat.le_of_ble_eq_true rfl) ?_
  refine jG_eq rfl rfl jtm.symm ?_
  refine jG_aload_n F dL_law_167 rfl ?_
  refine jG_aload_n F dL_law_168 rfl ?_
  refine jG_iload_n F dL_law_169 rfl ?_
  refine jG_iconst F (v := nI 1) dL_law_170 (by decide) ?_
  refine jG_iadd F dL_law_171 ?_
  refine jG_sld F S (k0 := i + 1) (nI_add i 1) (by omega) hL dL_law_172 ?_
  refine jG_aload_n F dL_law_173 rfl ?_
  refine jG_iload_n F dL_law_174 rfl ?_
  refine jG_iconst F (v := nI 2) dL_law_175 (by decide) ?_
  refine jG_iadd F dL_law_176 ?_
  refine jG_sld F S (k0 := i + 2) (nI_add i 2) (by omega) hL dL_law_177 ?_
  refine jc_L_22 F dL_law_178 (m2 E (jtop E C' []) jtop_len) (jw9_o jtop_len) (by decide) (by decide) (by decide) (Nat.le_of_ble_eq_true rfl) ?_
  exact jG_icmp_eq F 793 dL_law_181 (by decide) (fun _ => kk C' Q' hr) (fun q => absurd rfl q)
theorem law_seed (F : jF E x RL cL_law 4 13 600000 7302250) (S : jScr E x b L xs) (hi : i + 8 ≤ L) (hL : L ≤ 4096) (h : jREL N C Q) (hN : N ≤ 900) (kk : ∀ C' Q', jREL (N + 1) C' Q' → jLG E x 793 b i C' Q') : jLG E x 186 b i C Q := by
  obtain ⟨r, C', Q', hr, m1, m2⟩ := s_seed (l := jL x) h (v := xs (i + 1))
  refine jG_eq rfl rfl jtm ?_
  refine jG_aload_n F dL_law_186 rfl ?_
  refine jG_aload_n F dL_law_187 rfl ?_
  refine jG_iload_n F dL_law_188 rfl ?_
  refine jG_iconst F (v := nI 1) dL_law_189 (by decide) ?_
  refine jG_iadd F dL_law_190 ?_
  refine jG_sld F S (k0 := i + 1) (nI_add i 1) (by omega) hL dL_law_191 ?_
  refine jc_L_23 F dL_law_192 (m1 E _) rfl (by decide) (by decide) (by decide) (Nat.le_of_ble_eq_true rfl) ?_
  refine jG_eq rfl rfl jtm.symm ?_
  refine jG_aload_n F dL_law_195 rfl ?_
  refine jG_aload_n F dL_law_196 rfl ?_
  refine jG_iload_n F dL_law_197 rfl ?_
  refine jG_iconst F (v := nI 1) dL_law_198 (by decide) ?_
  refine jG_iadd F dL_law_199 ?_
  refine jG_sld F S (k0 := i + 1) (nI_add i 1) (by omega) hL dL_law_200 ?_
  refine jc_L_27 F dL_law_201 (m2 E (jtop E C' []) jtop_len) (jw9_o jtop_len) (by decide) (by decide) (by decide) (Nat.le_of_ble_eq_true rfl) ?_
  exact jG_icmp_eq F 793 dL_law_204 (by decide) (fun _ => kk C' Q' hr) (fun q => absurd rfl q)
theorem law_put (F : jF E x RL cL_law 4 13 600000 7302250) (S : jScr E x b L xs) (hi : i + 8 ≤ L) (hL : L ≤ 4096) (h : jREL N C Q) (hN : N ≤ 900) (kk : ∀ C' Q', jREL (N + 1) C' Q' → jLG E x 793 b i C' Q') : jLG E x 209 b i C Q := by
  obtain ⟨r, C', Q', hr, m1, m2⟩ := s_put (l := jL x) h hN (a := xs (i + 1)) (b := xs (i + 2)) (c := xs (i + 3))
  refine jG_eq rfl rfl jtm ?_
  refine jG_aload_n F dL_law_209 rfl ?_
  refine jG_aload_n F dL_law_210 rfl ?_
  refine jG_iload_n F dL_law_211 rfl ?_
  refine jG_iconst F (v := nI 1) dL_law_212 (by decide) ?_
  refine jG_iadd F dL_law_213 ?_
  refine jG_sld F S (k0 := i + 1) (nI_add i 1) (by omega) hL dL_law_214 ?_
  refine jG_aload_n F dL_law_215 rfl ?_
  refine jG_iload_n F dL_law_216 rfl ?_
  refine jG_iconst F (v := nI 2) dL_law_217 (by decide) ?_
  refine jG_iadd F dL_law_218 ?_
  refine jG_sld F S (k0 := i + 2) (nI_add i 2) (by omega) hL dL_law_219 ?_
  refine jG_aload_n F dL_law_220 rfl ?_
  refine jG_iload_n F dL_law_221 rfl ?_
  refine jG_iconst F (v := nI 3) dL_law_222 (by decide) ?_
  refine jG_iadd F dL_law_223 ?_
  refine jG_sld F S (k0 := i + 3) (nI_add i 3) (by omega) hL dL_law_224 ?_
  refine jc_L_28 F dL_law_225 (m1 E _) rfl (by decide) (by decide) (by decide) (Nat.le_of_ble_eq_true rfl) ?_
  refine jG_eq rfl rfl jtm.symm ?_
  refine jG_aload_n F dL_law_228 rfl ?_
  refine jG_aload_n F dL_law_229 rfl ?_
  refine jG_iload_n F dL_law_230 rfl ?_
  refine jG_iconst F (v := nI 1) dL_law_231 (by decide) ?_
  refine jG_iadd F dL_law_232 ?_
  refine jG_sld F S (k0 := i + 1) (nI_add i 1) (by omega) hL dL_law_233 ?_
  refine jG_aload_n F dL_law_234 rfl ?_
  refine jG_iload_n F dL_law_235 rfl ?_
  refine jG_iconst F (v := nI 2) dL_law_236 (by decide) ?_
  refine jG_iadd F dL_law_237 ?_
  refine jG_sld F S (k0 := i + 2) (nI_add i 2) (by omega) hL dL_law_238 ?_
  refine jG_aload_n F dL_law_239 rfl ?_
  refine jG_iload_n F dL_law_240 rfl ?_
  refine jG_iconst F (v := nI 3) dL_law_241 (by decide) ?_
  refine jG_iadd F dL_law_242 ?_
  refine jG_sld F S (k0 := i + 3) (nI_add i 3) (by omega) hL dL_law_243 ?_
  refine jc_L_32 F dL_law_244 (m2 E (jtop E C' []) jtop_len) (jw9_o jtop_len) (by decide) (by decide) (by decide) (Nat.le_of_ble_eq_true rfl) ?_
  exact jG_icmp_eq F 793 dL_law_247 (by decide) (fun _ => kk C' Q' hr) (fun q => absurd rfl q)
theorem law_about (F : jF E x RL cL_law 4 13 600000 7302250) (S : jScr E x b L xs) (hi : i + 8 ≤ L) (hL : L ≤ 4096) (h : jREL N C Q) (hN : N ≤ 900) (kk : ∀ C' Q', jREL (N + 1) C' Q' → jLG E x 793 b i C' Q') : jLG E x 252 b i C Q := by
  obtain ⟨r, C', Q', hr, m1, m2⟩ := s_about (l := jL x) h (a := xs (i + 1)) (w := xs (i + 2))
  refine jG_eq rfl rfl jtm ?_
  refine jG_aload_n F dL_law_252 rfl ?_
  refine jG_aload_n F dL_law_253 rfl ?_
  refine jG_iload_n F dL_law_254 rfl ?_
  refine jG_iconst F (v := nI 1) dL_law_255 (by decide) ?_
  refine jG_iadd F dL_law_256 ?_
  refine jG_sld F S (k0 := i + 1) (nI_add i 1) (by omega) hL dL_law_257 ?_
  refine jG_aload_n F dL_law_258 rfl ?_
  refine jG_iload_n F dL_law_259 rfl ?_
  refine jG_iconst F (v := nI 2) dL_law_260 (by decide) ?_
  refine jG_iadd F dL_law_261 ?_
  refine jG_sld F S (k0 := i + 2) (nI_add i 2) (by omega) hL dL_law_262 ?_
  refine jc_L_33 F dL_law_263 (m1 E _) rfl (by decide) (by decide) (by decide) (Nat.le_of_ble_eq_true rfl) ?_
  refine jG_eq rfl rfl jtm.symm ?_
  refine jG_aload_n F dL_law_266 rfl ?_
  refine jG_aload_n F dL_law_267 rfl ?_
  refine jG_iload_n F dL_law_268 rfl ?_
  refine jG_iconst F (v := nI 1) dL_law_269 (by decide) ?_
  refine jG_iadd F dL_law_270 ?_
  refine jG_sld F S (k0 := i + 1) (nI_add i 1) (by omega) hL dL_law_271 ?_
  refine jG_aload_n F dL_law_272 rfl ?_
  refine jG_iload_n F dL_law_273 rfl ?_
  refine jG_iconst F (v := nI 2) dL_law_274 (by decide) ?_
  refine jG_iadd F dL_law_275 ?_
  refine jG_sld F S (k0 := i + 2) (nI_add i 2) (by omega) hL dL_law_276 ?_
  refine jc_L_36 F dL_law_277 (m2 E (jtop E C' []) jtop_len) (jw9_o jtop_len) (by decide) (by decide) (by decide) (Nat.le_of_ble_eq_true rfl) ?_
  exact jG_icmp_eq F 793 dL_law_280 (by decide) (fun _ => kk C' Q' hr) (fun q => absurd rfl q)
theorem law_shoot (F : jF E x RL cL_law 4 13 600000 7302250) (S : jScr E x b L xs) (hi : i + 8 ≤ L) (hL : L ≤ 4096) (h : jREL N C Q) (hN : N ≤ 900) (kk : ∀ C' Q', jREL (N + 1) C' Q' → jLG E x 793 b i C' Q') : jLG E x 285 b i C Q := by
  obtain ⟨r, C', Q', hr, m1, m2⟩ := s_shoot (l := jL x) h hN (a := xs (i + 1)) (b := xs (i + 2)) (c := xs (i + 3))
  refine jG_eq rfl rfl jtm ?_
  refine jG_aload_n F dL_law_285 rfl ?_
  refine jG_aload_n F dL_law_286 rfl ?_
  refine jG_iload_n F dL_law_287 rfl ?_
  refine jG_iconst F (v := nI 1) dL_law_288 (by decide) ?_
  refine jG_iadd F dL_law_289 ?_
  refine jG_sld F S (k0 := i + 1) (nI_add i 1) (by omega) hL dL_law_290 ?_
  refine jG_aload_n F dL_law_291 rfl ?_
  refine jG_iload_n F dL_law_292 rfl ?_
  refine jG_iconst F (v := nI 2) dL_law_293 (by decide) ?_
  refine jG_iadd F dL_law_294 ?_
  refine jG_sld F S (k0 := i + 2) (nI_add i 2) (by omega) hL dL_law_295 ?_
  refine jG_aload_n F dL_law_296 rfl ?_
  refine jG_iload_n F dL_law_297 rfl ?_
  refine jG_iconst F (v := nI 3) dL_law_298 (by decide) ?_
  refine jG_iadd F dL_law_299 ?_
  refine jG_sld F S (k0 := i + 3) (nI_add i 3) (by omega) hL dL_law_300 ?_
  refine jc_L_37 F dL_law_301 (m1 E _) rfl (by decide) (by decide) (by decide) (Nat.le_of_ble_eq_true rfl) ?_
  refine jG_eq rfl rfl jtm.symm ?_
  refine jG_aload_n F dL_law_304 rfl ?_
  refine jG_aload_n F dL_law_305 rfl ?_
  refine jG_iload_n F dL_law_306 rfl ?_
  refine jG_iconst F (v := nI 1) dL_law_307 (by decide) ?_
  refine jG_iadd F dL_law_308 ?_
  refine jG_sld F S (k0 := i + 1) (nI_add i 1) (by omega) hL dL_law_309 ?_
  refine jG_aload_n F dL_law_310 rfl ?_
  refine jG_iload_n F dL_law_311 rfl ?_
  refine jG_iconst F (v := nI 2) dL_law_312 (by decide) ?_
  refine jG_iadd F dL_law_313 ?_
  refine jG_sld F S (k0 := i + 2) (nI_add i 2) (by omega) hL dL_law_314 ?_
  refine jG_aload_n F dL_law_315 rfl ?_
  refine jG_iload_n F dL_law_316 rfl ?_
  refine jG_iconst F (v := nI 3) dL_law_317 (by decide) ?_
  refine jG_iadd F dL_law_318 ?_
  refine jG_sld F S (k0 := i + 3) (nI_add i 3) (by omega) hL dL_law_319 ?_
  refine jc_L_40 F dL_law_320 (m2 E (jtop E C' []) jtop_len) (jw9_o jtop_len) (by decide) (by decide) (by decide) (Nat.le_of_ble_eq_true rfl) ?_
  exact jG_icmp_eq F 793 dL_law_323 (by decide) (fun _ => kk C' Q' hr) (fun q => absurd rfl q)
theorem law_blow (F : jF E x RL cL_law 4 13 600000 7302250) (S : jScr E x b L xs) (hi : i + 8 ≤ L) (hL : L ≤ 4096) (h : jREL N C Q) (hN : N ≤ 900) (kk : ∀ C' Q', jREL (N + 1) C' Q' → jLG E x 793 b i C' Q') : jLG E x 328 b i C Q := by
  obtain ⟨r, C', Q', hr, m1, m2⟩ := s_blow (l := jL x) h hN (a := xs (i + 1))
  refine jG_eq rfl rfl jtm ?_
  refine jG_aload_n F dL_law_328 rfl ?_
  refine jG_aload_n F dL_law_329 rfl ?_
  refine jG_iload_n F dL_law_330 rfl ?_
  refine jG_iconst F (v := nI 1) dL_law_331 (by decide) ?_
  refine jG_iadd F dL_law_332 ?_
  refine jG_sld F S (k0 := i + 1) (nI_add i 1) (by omega) hL dL_law_333 ?_
  refine jc_L_41 F dL_law_334 (m1 E _) rfl (by decide) (by decide) (by decide) (Nat.le_of_ble_eq_true rfl) ?_
  refine jG_eq rfl rfl jtm.symm ?_
  refine jG_aload_n F dL_law_337 rfl ?_
  refine jG_aload_n F dL_law_338 rfl ?_
  refine jG_iload_n F dL_law_339 rfl ?_
  refine jG_iconst F (v := nI 1) dL_law_340 (by decide) ?_
  refine jG_iadd F dL_law_341 ?_
  refine jG_sld F S (k0 := i + 1) (nI_add i 1) (by omega) hL dL_law_342 ?_
  refine jc_L_44 F dL_law_343 (m2 E (jtop E C' []) jtop_len) (jw9_o jtop_len) (by decide) (by decide) (by decide) (Nat.le_of_ble_eq_true rfl) ?_
  exact jG_icmp_eq F 793 dL_law_346 (by decide) (fun _ => kk C' Q' hr) (fun q => absurd rfl q)
theorem law_game (F : jF E x RL cL_law 4 13 600000 7302250) (S : jScr E x b L xs) (hi : i + 8 ≤ L) (hL : L ≤ 4096) (h : jREL N C Q) (hN : N ≤ 900) (kk : ∀ C' Q', jREL (N + 1) C' Q' → jLG E x 793 b i C' Q') : jLG E x 351 b i C Q := by
  obtain ⟨r, C', Q', hr, m1, m2⟩ := s_game (l := jL x) h (w := xs (i + 1))
  refine jG_eq rfl rfl jtm ?_
  refine jG_aload_n F dL_law_351 rfl ?_
  refine jG_aload_n F dL_law_352 rfl ?_
  refine jG_iload_n F dL_law_353 rfl ?_
  refine jG_iconst F (v := nI 1) dL_law_354 (by decide) ?_
  refine jG_iadd F dL_law_355 ?_
  refine jG_sld F S (k0 := i + 1) (nI_add i 1) (by omega) hL dL_law_356 ?_
  refine jc_L_45 F dL_law_357 (m1 E _) rfl (by decide) (by decide) (by decide) (Nat.le_of_ble_eq_true rfl) ?_
  refine jG_eq rfl rfl jtm.symm ?_
  refine jG_aload_n F dL_law_360 rfl ?_
  refine jG_aload_n F dL_law_361 rfl ?_
  refine jG_iload_n F dL_law_362 rfl ?_
  refine jG_iconst F (v := nI 1) dL_law_363 (by decide) ?_
  refine jG_iadd F dL_law_364 ?_
  refine jG_sld F S (k0 := i + 1) (nI_add i 1) (by omega) hL dL_law_365 ?_
  refine jc_L_48 F dL_law_366 (m2 E (jtop E C' []) jtop_len) (jw9_o jtop_len) (by decide) (by decide) (by decide) (Nat.le_of_ble_eq_true rfl) ?_
  exact jG_icmp_eq F 793 dL_law_369 (by decide) (fun _ => kk C' Q' hr) (fun q => absurd rfl q)
theorem law_score (F : jF E x RL cL_law 4 13 600000 7302250) (S : jScr E x b L xs) (hi : i + 8 ≤ L) (hL : L ≤ 4096) (h : jREL N C Q) (hN : N ≤ 900) (kk : ∀ C' Q', jREL (N + 1) C' Q' → jLG E x 793 b i C' Q') : jLG E x 374 b i C Q := by
  obtain ⟨r, C', Q', hr, m1, m2⟩ := s_score (l := jL x) h (a := xs (i + 1))
  refine jG_eq rfl rfl jtm ?_
  refine jG_aload_n F dL_law_374 rfl ?_
  refine jG_aload_n F dL_law_375 rfl ?_
  refine jG_iload_n F dL_law_376 rfl ?_
  refine jG_iconst F (v := nI 1) dL_law_377 (by decide) ?_
  refine jG_iadd F dL_law_378 ?_
  refine jG_sld F S (k0 := i + 1) (nI_add i 1) (by omega) hL dL_law_379 ?_
  refine jc_L_49 F dL_law_380 (m1 E _) rfl (by decide) (by decide) (by decide) (Nat.le_of_ble_eq_true rfl) ?_
  refine jG_eq rfl rfl jtm.symm ?_
  refine jG_aload_n F dL_law_383 rfl ?_
  refine jG_aload_n F dL_law_384 rfl ?_
  refine jG_iload_n F dL_law_385 rfl ?_
  refine jG_iconst F (v := nI 1) dL_law_386 (by decide) ?_
  refine jG_iadd F dL_law_387 ?_
  refine jG_sld F S (k0 := i + 1) (nI_add i 1) (by omega) hL dL_law_388 ?_
  refine jc_L_52 F dL_law_389 (m2 E (jtop E C' []) jtop_len) (jw9_o jtop_len) (by decide) (by decide) (by decide) (Nat.le_of_ble_eq_true rfl) ?_
  exact jG_icmp_eq F 793 dL_law_392 (by decide) (fun _ => kk C' Q' hr) (fun q => absurd rfl q)
theorem law_twelfths (F : jF E x RL cL_law 4 13 600000 7302250) (S : jScr E x b L xs) (hi : i + 8 ≤ L) (hL : L ≤ 4096) (h : jREL N C Q) (hN : N ≤ 900) (kk : ∀ C' Q', jREL (N + 1) C' Q' → jLG E x 793 b i C' Q') : jLG E x 397 b i C Q := by
  obtain ⟨r, C', Q', hr, m1, m2⟩ := s_twelfths (l := jL x) h (a := xs (i + 1))
  refine jG_eq rfl rfl jtm ?_
  refine jG_aload_n F dL_law_397 rfl ?_
  refine jG_aload_n F dL_law_398 rfl ?_
  refine jG_iload_n F dL_law_399 rfl ?_
  refine jG_iconst F (v := nI 1) dL_law_400 (by decide) ?_
  refine jG_iadd F dL_law_401 ?_
  refine jG_sld F S (k0 := i + 1) (nI_add i 1) (by omega) hL dL_law_402 ?_
  refine jc_L_53 F dL_law_403 (m1 E _) rfl (by decide) (by decide) (by decide) (Nat.le_of_ble_eq_true rfl) ?_
  refine jG_eq rfl rfl jtm.symm ?_
  refine jG_aload_n F dL_law_406 rfl ?_
  refine jG_aload_n F dL_law_407 rfl ?_
  refine jG_iload_n F dL_law_408 rfl ?_
  refine jG_iconst F (v := nI 1) dL_law_409 (by decide) ?_
  refine jG_iadd F dL_law_410 ?_
  refine jG_sld F S (k0 := i + 1) (nI_add i 1) (by omega) hL dL_law_411 ?_
  refine jc_L_56 F dL_law_412 (m2 E (jtop E C' []) jtop_len) (jw9_o jtop_len) (by decide) (by decide) (by decide) (Nat.le_of_ble_eq_true rfl) ?_
  exact jG_icmp_eq F 793 dL_law_415 (by decide) (fun _ => kk C' Q' hr) (fun q => absurd rfl q)
theorem law_points (F : jF E x RL cL_law 4 13 600000 7302250) (S : jScr E x b L xs) (hi : i + 8 ≤ L) (hL : L ≤ 4096) (h : jREL N C Q) (hN : N ≤ 900) (kk : ∀ C' Q', jREL (N + 1) C' Q' → jLG E x 793 b i C' Q') : jLG E x 420 b i C Q := by
  obtain ⟨r, C', Q', hr, m1, m2⟩ := s_points (l := jL x) h (a := xs (i + 1))
  refine jG_eq rfl rfl jtm ?_
  refine jG_aload_n F dL_law_420 rfl ?_
  refine jG_aload_n F dL_law_421 rfl ?_
  refine jG_iload_n F dL_law_422 rfl ?_
  refine jG_iconst F (v := nI 1) dL_law_423 (by decide) ?_
  refine jG_iadd F dL_law_424 ?_
  refine jG_sld F S (k0 := i + 1) (nI_add i 1) (by omega) hL dL_law_425 ?_
  refine jc_L_57 F dL_law_426 (m1 E _) rfl (by decide) (by decide) (by decide) (Nat.le_of_ble_eq_true rfl) ?_
  refine jG_eq rfl rfl jtm.symm ?_
  refine jG_aload_n F dL_law_429 rfl ?_
  refine jG_aload_n F dL_law_430 rfl ?_
  refine jG_iload_n F dL_law_431 rfl ?_
  refine jG_iconst F (v := nI 1) dL_law_432 (by decide) ?_
  refine jG_iadd F dL_law_433 ?_
  refine jG_sld F S (k0 := i + 1) (nI_add i 1) (by omega) hL dL_law_434 ?_
  refine jc_L_60 F dL_law_435 (m2 E (jtop E C' []) jtop_len) (jw9_o jtop_len) (by decide) (by decide) (by decide) (Nat.le_of_ble_eq_true rfl) ?_
  exact jG_icmp_eq F 793 dL_law_438 (by decide) (fun _ => kk C' Q' hr) (fun q => absurd rfl q)
theorem law_chance (F : jF E x RL cL_law 4 13 600000 7302250) (S : jScr E x b L xs) (hi : i + 8 ≤ L) (hL : L ≤ 4096) (h : jREL N C Q) (hN : N ≤ 900) (kk : ∀ C' Q', jREL (N + 1) C' Q' → jLG E x 793 b i C' Q') : jLG E x 443 b i C Q := by
  obtain ⟨r, C', Q', hr, m1, m2⟩ := s_chance (l := jL x) h (a := xs (i + 1)) (b := xs (i + 2))
  refine jG_eq rfl rfl jtm ?_
  refine jG_aload_n F dL_law_443 rfl ?_
  refine jG_aload_n F dL_law_444 rfl ?_
  refine jG_iload_n F dL_law_445 rfl ?_
  refine jG_iconst F (v := nI 1) dL_law_446 (by decide) ?_
  refine jG_iadd F dL_law_447 ?_
  refine jG_sld F S (k0 := i + 1) (nI_add i 1) (by omega) hL dL_law_448 ?_
  refine jG_aload_n F dL_law_449 rfl ?_
  refine jG_iload_n F dL_law_450 rfl ?_
  refine jG_iconst F (v := nI 2) dL_law_451 (by decide) ?_
  refine jG_iadd F dL_law_452 ?_
  refine jG_sld F S (k0 := i + 2) (nI_add i 2) (by omega) hL dL_law_453 ?_
  refine jc_L_61 F dL_law_454 (m1 E _) rfl (by decide) (by decide) (by decide) (Nat.le_of_ble_eq_true rfl) ?_
  refine jG_eq rfl rfl jtm.symm ?_
  refine jG_aload_n F dL_law_457 rfl ?_
  refine jG_aload_n F dL_law_458 rfl ?_
  refine jG_iload_n F dL_law_459 rfl ?_
  refine jG_iconst F (v := nI 1) dL_law_460 (by decide) ?_
  refine jG_iadd F dL_law_461 ?_
  refine jG_sld F S (k0 := i + 1) (nI_add i 1) (by omega) hL dL_law_462 ?_
  refine jG_aload_n F dL_law_463 rfl ?_
  refine jG_iload_n F dL_law_464 rfl ?_
  refine jG_iconst F (v := nI 2) dL_law_465 (by decide) ?_
  refine jG_iadd F dL_law_466 ?_
  refine jG_sld F S (k0 := i + 2) (nI_add i 2) (by omega) hL dL_law_467 ?_
  refine jc_L_64 F dL_law_468 (m2 E (jtop E C' []) jtop_len) (jw9_o jtop_len) (by decide) (by decide) (by decide) (Nat.le_of_ble_eq_true rfl) ?_
  exact jG_icmp_eq F 793 dL_law_471 (by decide) (fun _ => kk C' Q' hr) (fun q => absurd rfl q)
theorem law_best (F : jF E x RL cL_law 4 13 600000 7302250) (S : jScr E x b L xs) (hi : i + 8 ≤ L) (hL : L ≤ 4096) (h : jREL N C Q) (hN : N ≤ 900) (kk : ∀ C' Q', jREL (N + 1) C' Q' → jLG E x 793 b i C' Q') : jLG E x 476 b i C Q := by
  obtain ⟨r, C', Q', hr, m1, m2⟩ := s_best (l := jL x) h (a := xs (i + 1)) (b := xs (i + 2))
  refine jG_eq rfl rfl jtm ?_
  refine jG_aload_n F dL_law_476 rfl ?_
  refine jG_aload_n F dL_law_477 rfl ?_
  refine jG_iload_n F dL_law_478 rfl ?_
  refine jG_iconst F (v := nI 1) dL_law_479 (by decide) ?_
  refine jG_iadd F dL_law_480 ?_
  refine jG_sld F S (k0 := i + 1) (nI_add i 1) (by omega) hL dL_law_481 ?_
  refine jG_aload_n F dL_law_482 rfl ?_
  refine jG_iload_n F dL_law_483 rfl ?_
  refine jG_iconst F (v := nI 2) dL_law_484 (by decide) ?_
  refine jG_iadd F dL_law_485 ?_
  refine jG_sld F S (k0 := i + 2) (nI_add i 2) (by omega) hL dL_law_486 ?_
  refine jc_L_65 F dL_law_487 (m1 E _) rfl (by decide) (by decide) (by decide) (Nat.le_of_ble_eq_true rfl) ?_
  refine jG_eq rfl rfl jtm.symm ?_
  refine jG_aload_n F dL_law_490 rfl ?_
  refine jG_aload_n F dL_law_491 rfl ?_
  refine jG_iload_n F dL_law_492 rfl ?_
  refine jG_iconst F (v := nI 1) dL_law_493 (by decide) ?_
  refine jG_iadd F dL_law_494 ?_
  refine jG_sld F S (k0 := i + 1) (nI_add i 1) (by omega) hL dL_law_495 ?_
  refine jG_aload_n F dL_law_496 rfl ?_
  refine jG_iload_n F dL_law_497 rfl ?_
  refine jG_iconst F (v := nI 2) dL_law_498 (by decide) ?_
  refine jG_iadd F dL_law_499 ?_
  refine jG_sld F S (k0 := i + 2) (nI_add i 2) (by omega) hL dL_law_500 ?_
  refine jc_L_68 F dL_law_501 (m2 E (jtop E C' []) jtop_len) (jw9_o jtop_len) (by decide) (by decide) (by decide) (Nat.le_of_ble_eq_true rfl) ?_
  exact jG_icmp_eq F 793 dL_law_504 (by decide) (fun _ => kk C' Q' hr) (fun q => absurd rfl q)
theorem law_ahead (F : jF E x RL cL_law 4 13 600000 7302250) (S : jScr E x b L xs) (hi : i + 8 ≤ L) (hL : L ≤ 4096) (h : jREL N C Q) (hN : N ≤ 900) (kk : ∀ C' Q', jREL (N + 1) C' Q' → jLG E x 793 b i C' Q') : jLG E x 509 b i C Q := by
  obtain ⟨r, C', Q', hr, m1, m2⟩ := s_ahead (l := jL x) h 
  refine jG_eq rfl rfl jtm ?_
  refine jG_aload_n F dL_law_509 rfl ?_
  refine jc_L_69 F dL_law_510 (m1 E _) rfl (by decide) (by decide) (by decide) (Nat.le_of_ble_eq_true rfl) ?_
  refine jG_eq rfl rfl jtm.symm ?_
  refine jG_aload_n F dL_law_513 rfl ?_
  refine jc_L_72 F dL_law_514 (m2 E (jtop E C' []) jtop_len) (jw9_o jtop_len) (by decide) (by decide) (by decide) (Nat.le_of_ble_eq_true rfl) ?_
  exact jG_icmp_eq F 793 dL_law_517 (by decide) (fun _ => kk C' Q' hr) (fun q => absurd rfl q)
theorem law_write (F : jF E x RL cL_law 4 13 600000 7302250) (S : jScr E x b L xs) (hi : i + 8 ≤ L) (hL : L ≤ 4096) (h : jREL N C Q) (hN : N ≤ 900) (kk : ∀ C' Q', jREL (N + 1) C' Q' → jLG E x 793 b i C' Q') : jLG E x 522 b i C Q := by
  obtain ⟨r, C', Q', hr, m1, m2⟩ := s_write (l := jL x) h (a := xs (i + 1)) (b := xs (i + 2)) (c := xs (i + 3))
  refine jG_eq rfl rfl jtm ?_
  refine jG_aload_n F dL_law_522 rfl ?_
  refine jG_aload_n F dL_law_523 rfl ?_
  refine jG_iload_n F dL_law_524 rfl ?_
  refine jG_iconst F (v := nI 1) dL_law_525 (by decide) ?_
  refine jG_iadd F dL_law_526 ?_
  refine jG_sld F S (k0 := i + 1) (nI_add i 1) (by omega) hL dL_law_527 ?_
  refine jG_aload_n F dL_law_528 rfl ?_
  refine jG_iload_n F dL_law_529 rfl ?_
  refine jG_iconst F (v := nI 2) dL_law_530 (by decide) ?_
  refine jG_iadd F dL_law_531 ?_
  refine jG_sld F S (k0 := i + 2) (nI_add i 2) (by omega) hL dL_law_532 ?_
  refine jG_aload_n F dL_law_533 rfl ?_
  refine jG_iload_n F dL_law_534 rfl ?_
  refine jG_iconst F (v := nI 3) dL_law_535 (by decide) ?_
  refine jG_iadd F dL_law_536 ?_
  refine jG_sld F S (k0 := i + 3) (nI_add i 3) (by omega) hL dL_law_537 ?_
  refine jc_L_73 F dL_law_538 (m1 E _) rfl (by decide) (by decide) (by decide) (Nat.le_of_ble_eq_true rfl) ?_
  refine jG_eq rfl rfl jtm.symm ?_
  refine jG_aload_n F dL_law_541 rfl ?_
  refine jG_aload_n F dL_law_542 rfl ?_
  refine jG_iload_n F dL_law_543 rfl ?_
  refine jG_iconst F (v := nI 1) dL_law_544 (by decide) ?_
  refine jG_iadd F dL_law_545 ?_
  refine jG_sld F S (k0 := i + 1) (nI_add i 1) (by omega) hL dL_law_546 ?_
  refine jG_aload_n F dL_law_547 rfl ?_
  refine jG_iload_n F dL_law_548 rfl ?_
  refine jG_iconst F (v := nI 2) dL_law_549 (by decide) ?_
  refine jG_iadd F dL_law_550 ?_
  refine jG_sld F S (k0 := i + 2) (nI_add i 2) (by omega) hL dL_law_551 ?_
  refine jG_aload_n F dL_law_552 rfl ?_
  refine jG_iload_n F dL_law_553 rfl ?_
  refine jG_iconst F (v := nI 3) dL_law_554 (by decide) ?_
  refine jG_iadd F dL_law_555 ?_
  refine jG_sld F S (k0 := i + 3) (nI_add i 3) (by omega) hL dL_law_556 ?_
  refine jc_L_76 F dL_law_557 (m2 E (jtop E C' []) jtop_len) (jw9_o jtop_len) (by decide) (by decide) (by decide) (Nat.le_of_ble_eq_true rfl) ?_
  exact jG_icmp_eq F 793 dL_law_560 (by decide) (fun _ => kk C' Q' hr) (fun q => absurd rfl q)
theorem law_wipe (F : jF E x RL cL_law 4 13 600000 7302250) (S : jScr E x b L xs) (hi : i + 8 ≤ L) (hL : L ≤ 4096) (h : jREL N C Q) (hN : N ≤ 900) (kk : ∀ C' Q', jREL (N + 1) C' Q' → jLG E x 793 b i C' Q') : jLG E x 565 b i C Q := by
  obtain ⟨r, C', Q', hr, m1, m2⟩ := s_wipe (l := jL x) h 
  refine jG_eq rfl rfl jtm ?_
  refine jG_aload_n F dL_law_565 rfl ?_
  refine jc_L_77 F dL_law_566 (m1 E _) rfl (by decide) (by decide) (by decide) (Nat.le_of_ble_eq_true rfl) ?_
  refine jG_eq rfl rfl jtm.symm ?_
  refine jG_aload_n F dL_law_569 rfl ?_
  refine jc_L_80 F dL_law_570 (m2 E (jtop E C' []) jtop_len) (jw9_o jtop_len) (by decide) (by decide) (by decide) (Nat.le_of_ble_eq_true rfl) ?_
  exact jG_icmp_eq F 793 dL_law_573 (by decide) (fun _ => kk C' Q' hr) (fun q => absurd rfl q)
theorem law_wrong (F : jF E x RL cL_law 4 13 600000 7302250) (S : jScr E x b L xs) (hi : i + 8 ≤ L) (hL : L ≤ 4096) (h : jREL N C Q) (hN : N ≤ 900) (kk : ∀ C' Q', jREL (N + 1) C' Q' → jLG E x 793 b i C' Q') : jLG E x 578 b i C Q := by
  obtain ⟨r, C', Q', hr, m1, m2⟩ := s_wrong (l := jL x) h 
  refine jG_eq rfl rfl jtm ?_
  refine jG_aload_n F dL_law_578 rfl ?_
  refine jc_L_81 F dL_law_579 (m1 E _) rfl (by decide) (by decide) (by decide) (Nat.le_of_ble_eq_true rfl) ?_
  refine jG_eq rfl rfl jtm.symm ?_
  refine jG_aload_n F dL_law_582 rfl ?_
  refine jc_L_84 F dL_law_583 (m2 E (jtop E C' []) jtop_len) (jw9_o jtop_len) (by decide) (by decide) (by decide) (Nat.le_of_ble_eq_true rfl) ?_
  exact jG_icmp_eq F 793 dL_law_586 (by decide) (fun _ => kk C' Q' hr) (fun q => absurd rfl q)
theorem law_canBe (F : jF E x RL cL_law 4 13 600000 7302250) (S : jScr E x b L xs) (hi : i + 8 ≤ L) (hL : L ≤ 4096) (h : jREL N C Q) (hN : N ≤ 900) (kk : ∀ C' Q', jREL (N + 1) C' Q' → jLG E x 793 b i C' Q') : jLG E x 591 b i C Q := by
  obtain ⟨r, C', Q', hr, m1, m2⟩ := s_canBe (l := jL x) h (a := xs (i + 1))
  refine jG_eq rfl rfl jtm ?_
  refine jG_aload_n F dL_law_591 rfl ?_
  refine jG_aload_n F dL_law_592 rfl ?_
  refine jG_iload_n F dL_law_593 rfl ?_
  refine jG_iconst F (v := nI 1) dL_law_594 (by decide) ?_
  refine jG_iadd F dL_law_595 ?_
  refine jG_sld F S (k0 := i + 1) (nI_add i 1) (by omega) hL dL_law_596 ?_
  refine jc_L_85 F dL_law_597 (m1 E _) rfl (by decide) (by decide) (by decide) (Nat.le_of_ble_eq_true rfl) ?_
  refine jG_eq rfl rfl jtm.symm ?_
  refine jG_aload_n F dL_law_600 rfl ?_
  refine jG_aload_n F dL_law_601 rfl ?_
  refine jG_iload_n F dL_law_602 rfl ?_
  refine jG_iconst F (v := nI 1) dL_law_603 (by decide) ?_
  refine jG_iadd F dL_law_604 ?_
  refine jG_sld F S (k0 := i + 1) (nI_add i 1) (by omega) hL dL_law_605 ?_
  refine jc_L_88 F dL_law_606 (m2 E (jtop E C' []) jtop_len) (jw9_o jtop_len) (by decide) (by decide) (by decide) (Nat.le_of_ble_eq_true rfl) ?_
  exact jG_icmp_eq F 793 dL_law_609 (by decide) (fun _ => kk C' Q' hr) (fun q => absurd rfl q)
theorem law_seen (F : jF E x RL cL_law 4 13 600000 7302250) (S : jScr E x b L xs) (hi : i + 8 ≤ L) (hL : L ≤ 4096) (h : jREL N C Q) (hN : N ≤ 900) (kk : ∀ C' Q', jREL (N + 1) C' Q' → jLG E x 793 b i C' Q') : jLG E x 614 b i C Q := by
  obtain ⟨r, C', Q', hr, m1, m2⟩ := s_seen (l := jL x) h hN (a := xs (i + 1)) (b := xs (i + 2)) (c := xs (i + 3)) (e := xs (i + 4)) (f := xs (i + 5)) (g := xs (i + 6)) (i := xs (i + 7))
  refine jG_eq rfl rfl jtm ?_
  refine jG_aload_n F dL_law_614 rfl ?_
  refine jG_aload_n F dL_law_615 rfl ?_
  refine jG_iload_n F dL_law_616 rfl ?_
  refine jG_iconst F (v := nI 1) dL_law_617 (by decide) ?_
  refine jG_iadd F dL_law_618 ?_
  refine jG_sld F S (k0 := i + 1) (nI_add i 1) (by omega) hL dL_law_619 ?_
  refine jG_aload_n F dL_law_620 rfl ?_
  refine jG_iload_n F dL_law_621 rfl ?_
  refine jG_iconst F (v := nI 2) dL_law_622 (by decide) ?_
  refine jG_iadd F dL_law_623 ?_
  refine jG_sld F S (k0 := i + 2) (nI_add i 2) (by omega) hL dL_law_624 ?_
  refine jG_aload_n F dL_law_625 rfl ?_
  refine jG_iload_n F dL_law_626 rfl ?_
  refine jG_iconst F (v := nI 3) dL_law_627 (by decide) ?_
  refine jG_iadd F dL_law_628 ?_
  refine jG_sld F S (k0 := i + 3) (nI_add i 3) (by omega) hL dL_law_629 ?_
  refine jG_aload_n F dL_law_630 rfl ?_
  refine jG_iload_n F dL_law_631 rfl ?_
  refine jG_iconst F (v := nI 4) dL_law_632 (by decide) ?_
  refine jG_iadd F dL_law_633 ?_
  refine jG_sld F S (k0 := i + 4) (nI_add i 4) (by omega) hL dL_law_634 ?_
  refine jG_aload_n F dL_law_635 rfl ?_
  refine jG_iload_n F dL_law_636 rfl ?_
  refine jG_iconst F (v := nI 5) dL_law_637 (by decide) ?_
  refine jG_iadd F dL_law_638 ?_
  refine jG_sld F S (k0 := i + 5) (nI_add i 5) (by omega) hL dL_law_639 ?_
  refine jG_aload_n F dL_law_640 rfl ?_
  refine jG_iload_n F dL_law_641 rfl ?_
  refine jG_bipush F (v := nI 6) dL_law_642 (by decide) ?_
  refine jG_iadd F dL_law_644 ?_
  refine jG_sld F S (k0 := i + 6) (nI_add i 6) (by omega) hL dL_law_645 ?_
  refine jG_aload_n F dL_law_646 rfl ?_
  refine jG_iload_n F dL_law_647 rfl ?_
  refine jG_bipush F (v := nI 7) dL_law_648 (by decide) ?_
  refine jG_iadd F dL_law_650 ?_
  refine jG_sld F S (k0 := i + 7) (nI_add i 7) (by omega) hL dL_law_651 ?_
  refine jc_L_89 F dL_law_652 (m1 E _) rfl (by decide) (by decide) (by decide) (Nat.le_of_ble_eq_true rfl) ?_
  refine jG_eq rfl rfl jtm.symm ?_
  refine jG_aload_n F dL_law_655 rfl ?_
  refine jG_aload_n F dL_law_656 rfl ?_
  refine jG_iload_n F dL_law_657 rfl ?_
  refine jG_iconst F (v := nI 1) dL_law_658 (by decide) ?_
  refine jG_iadd F dL_law_659 ?_
  refine jG_sld F S (k0 := i + 1) (nI_add i 1) (by omega) hL dL_law_660 ?_
  refine jG_aload_n F dL_law_661 rfl ?_
  refine jG_iload_n F dL_law_662 rfl ?_
  refine jG_iconst F (v := nI 2) dL_law_663 (by decide) ?_
  refine jG_iadd F dL_law_664 ?_
  refine jG_sld F S (k0 := i + 2) (nI_add i 2) (by omega) hL dL_law_665 ?_
  refine jG_aload_n F dL_law_666 rfl ?_
  refine jG_iload_n F dL_law_667 rfl ?_
  refine jG_iconst F (v := nI 3) dL_law_668 (by decide) ?_
  refine jG_iadd F dL_law_669 ?_
  refine jG_sld F S (k0 := i + 3) (nI_add i 3) (by omega) hL dL_law_670 ?_
  refine jG_aload_n F dL_law_671 rfl ?_
  refine jG_iload_n F dL_law_672 rfl ?_
  refine jG_iconst F (v := nI 4) dL_law_673 (by decide) ?_
  refine jG_iadd F dL_law_674 ?_
  refine jG_sld F S (k0 := i + 4) (nI_add i 4) (by omega) hL dL_law_675 ?_
  refine jG_aload_n F dL_law_676 rfl ?_
  refine jG_iload_n F dL_law_677 rfl ?_
  refine jG_iconst F (v := nI 5) dL_law_678 (by decide) ?_
  refine jG_iadd F dL_law_679 ?_
  refine jG_sld F S (k0 := i + 5) (nI_add i 5) (by omega) hL dL_law_680 ?_
  refine jG_aload_n F dL_law_681 rfl ?_
  refine jG_iload_n F dL_law_682 rfl ?_
  refine jG_bipush F (v := nI 6) dL_law_683 (by decide) ?_
  refine jG_iadd F dL_law_685 ?_
  refine jG_sld F S (k0 := i + 6) (nI_add i 6) (by omega) hL dL_law_686 ?_
  refine jG_aload_n F dL_law_687 rfl ?_
  refine jG_iload_n F dL_law_688 rfl ?_
  refine jG_bipush F (v := nI 7) dL_law_689 (by decide) ?_
  refine jG_iadd F dL_law_691 ?_
  refine jG_sld F S (k0 := i + 7) (nI_add i 7) (by omega) hL dL_law_692 ?_
  refine jc_L_93 F dL_law_693 (m2 E (jtop E C' []) jtop_len) (jw9_o jtop_len) (by decide) (by decide) (by decide) (Nat.le_of_ble_eq_true rfl) ?_
  exact jG_icmp_eq F 793 dL_law_696 (by decide) (fun _ => kk C' Q' hr) (fun q => absurd rfl q)
theorem law_scatter (F : jF E x RL cL_law 4 13 600000 7302250) (S : jScr E x b L xs) (hi : i + 8 ≤ L) (hL : L ≤ 4096) (h : jREL N C Q) (hN : N ≤ 900) (kk : ∀ C' Q', jREL (N + 1) C' Q' → jLG E x 793 b i C' Q') : jLG E x 701 b i C Q := by
  obtain ⟨r, C', Q', hr, m1, m2⟩ := s_scatter (l := jL x) h hN (a := xs (i + 1)) (b := xs (i + 2)) (c := xs (i + 3))
  refine jG_eq rfl rfl jtm ?_
  refine jG_aload_n F dL_law_701 rfl ?_
  refine jG_aload_n F dL_law_702 rfl ?_
  refine jG_iload_n F dL_law_703 rfl ?_
  refine jG_iconst F (v := nI 1) dL_law_704 (by decide) ?_
  refine jG_iadd F dL_law_705 ?_
  refine jG_sld F S (k0 := i + 1) (nI_add i 1) (by omega) hL dL_law_706 ?_
  refine jG_aload_n F dL_law_707 rfl ?_
  refine jG_iload_n F dL_law_708 rfl ?_
  refine jG_iconst F (v := nI 2) dL_law_709 (by decide) ?_
  refine jG_iadd F dL_law_710 ?_
  refine jG_sld F S (k0 := i + 2) (nI_add i 2) (by omega) hL dL_law_711 ?_
  refine jG_aload_n F dL_law_712 rfl ?_
  refine jG_iload_n F dL_law_713 rfl ?_
  refine jG_iconst F (v := nI 3) dL_law_714 (by decide) ?_
  refine jG_iadd F dL_law_715 ?_
  refine jG_sld F S (k0 := i + 3) (nI_add i 3) (by omega) hL dL_law_716 ?_
  refine jc_L_94 F dL_law_717 (m1 E _) rfl (by decide) (by decide) (by decide) (Nat.le_of_ble_eq_true rfl) ?_
  refine jG_eq rfl rfl jtm.symm ?_
  refine jG_aload_n F dL_law_720 rfl ?_
  refine jG_aload_n F dL_law_721 rfl ?_
  refine jG_iload_n F dL_law_722 rfl ?_
  refine jG_iconst F (v := nI 1) dL_law_723 (by decide) ?_
  refine jG_iadd F dL_law_724 ?_
  refine jG_sld F S (k0 := i + 1) (nI_add i 1) (by omega) hL dL_law_725 ?_
  refine jG_aload_n F dL_law_726 rfl ?_
  refine jG_iload_n F dL_law_727 rfl ?_
  refine jG_iconst F (v := nI 2) dL_law_728 (by decide) ?_
  refine jG_iadd F dL_law_729 ?_
  refine jG_sld F S (k0 := i + 2) (nI_add i 2) (by omega) hL dL_law_730 ?_
  refine jG_aload_n F dL_law_731 rfl ?_
  refine jG_iload_n F dL_law_732 rfl ?_
  refine jG_iconst F (v := nI 3) dL_law_733 (by decide) ?_
  refine jG_iadd F dL_law_734 ?_
  refine jG_sld F S (k0 := i + 3) (nI_add i 3) (by omega) hL dL_law_735 ?_
  refine jc_L_97 F dL_law_736 (m2 E (jtop E C' []) jtop_len) (jw9_o jtop_len) (by decide) (by decide) (by decide) (Nat.le_of_ble_eq_true rfl) ?_
  exact jG_icmp_eq F 793 dL_law_739 (by decide) (fun _ => kk C' Q' hr) (fun q => absurd rfl q)
theorem law_keep (F : jF E x RL cL_law 4 13 600000 7302250) (S : jScr E x b L xs) (hi : i + 8 ≤ L) (hL : L ≤ 4096) (h : jREL N C Q) (hN : N ≤ 900) (kk : ∀ C' Q', jREL (N + 1) C' Q' → jLG E x 793 b i C' Q') : jLG E x 744 b i C Q := by
  obtain ⟨r, C', Q', hr, m1, m2⟩ := s_keep (l := jL x) h 
  refine jG_eq rfl rfl jtm ?_
  refine jG_aload_n F dL_law_744 rfl ?_
  refine jc_L_98 F dL_law_745 (m1 E _) rfl (by decide) (by decide) (by decide) (Nat.le_of_ble_eq_true rfl) ?_
  refine jG_eq rfl rfl jtm.symm ?_
  refine jG_aload_n F dL_law_748 rfl ?_
  refine jc_L_101 F dL_law_749 (m2 E (jtop E C' []) jtop_len) (jw9_o jtop_len) (by decide) (by decide) (by decide) (Nat.le_of_ble_eq_true rfl) ?_
  exact jG_icmp_eq F 793 dL_law_752 (by decide) (fun _ => kk C' Q' hr) (fun q => absurd rfl q)
theorem law_back (F : jF E x RL cL_law 4 13 600000 7302250) (S : jScr E x b L xs) (hi : i + 8 ≤ L) (hL : L ≤ 4096) (h : jREL N C Q) (hN : N ≤ 900) (kk : ∀ C' Q', jREL (N + 1) C' Q' → jLG E x 793 b i C' Q') : jLG E x 757 b i C Q := by
  obtain ⟨r, C', Q', hr, m1, m2⟩ := s_back (l := jL x) h 
  refine jG_eq rfl rfl jtm ?_
  refine jG_aload_n F dL_law_757 rfl ?_
  refine jc_L_102 F dL_law_758 (m1 E _) rfl (by decide) (by decide) (by decide) (Nat.le_of_ble_eq_true rfl) ?_
  refine jG_eq rfl rfl jtm.symm ?_
  refine jG_aload_n F dL_law_761 rfl ?_
  refine jc_L_105 F dL_law_762 (m2 E (jtop E C' []) jtop_len) (jw9_o jtop_len) (by decide) (by decide) (by decide) (Nat.le_of_ble_eq_true rfl) ?_
  exact jG_icmp_eq F 793 dL_law_765 (by decide) (fun _ => kk C' Q' hr) (fun q => absurd rfl q)
theorem law_count (F : jF E x RL cL_law 4 13 600000 7302250) (S : jScr E x b L xs) (hi : i + 8 ≤ L) (hL : L ≤ 4096) (h : jREL N C Q) (hN : N ≤ 900) (kk : ∀ C' Q', jREL (N + 1) C' Q' → jLG E x 793 b i C' Q') : jLG E x 770 b i C Q := by
  obtain ⟨r, C', Q', hr, m1, m2⟩ := s_count (l := jL x) h (w := xs (i + 1))
  refine jG_eq rfl rfl jtm ?_
  refine jG_aload_n F dL_law_770 rfl ?_
  refine jG_aload_n F dL_law_771 rfl ?_
  refine jG_iload_n F dL_law_772 rfl ?_
  refine jG_iconst F (v := nI 1) dL_law_773 (by decide) ?_
  refine jG_iadd F dL_law_774 ?_
  refine jG_sld F S (k0 := i + 1) (nI_add i 1) (by omega) hL dL_law_775 ?_
  refine jc_L_106 F dL_law_776 (m1 E _) rfl (by decide) (by decide) (by decide) (Nat.le_of_ble_eq_true rfl) ?_
  refine jG_eq rfl rfl jtm.symm ?_
  refine jG_aload_n F dL_law_779 rfl ?_
  refine jG_aload_n F dL_law_780 rfl ?_
  refine jG_iload_n F dL_law_781 rfl ?_
  refine jG_iconst F (v := nI 1) dL_law_782 (by decide) ?_
  refine jG_iadd F dL_law_783 ?_
  refine jG_sld F S (k0 := i + 1) (nI_add i 1) (by omega) hL dL_law_784 ?_
  refine jc_L_109 F dL_law_785 (m2 E (jtop E C' []) jtop_len) (jw9_o jtop_len) (by decide) (by decide) (by decide) (Nat.le_of_ble_eq_true rfl) ?_
  exact jG_icmp_eq F 793 dL_law_788 (by decide) (fun _ => kk C' Q' hr) (fun q => absurd rfl q)
theorem law_gt {m L : Nat} (h : L < m + 8) (hm : m ≤ L) (hL : L ≤ 4096) : nI L - nI 8 < nI m := by
  rw [Int32.lt_iff_toInt_lt, pk_sub_toInt (by omega) (by decide), nI_toInt (by omega)]
  omega
/-- one turn of the law's loop, from its switch on -/
theorem law_case (F : jF E x RL cL_law 4 13 600000 7302250) (S : jScr E x b L xs) (hi : i + 8 ≤ L) (hL : L ≤ 4096) (h : jREL N C Q) (hN : N ≤ 900) (kk : ∀ C' Q', jREL (N + 1) C' Q' → jLG E x 793 b i C' Q') {j : Nat} (hj : j < 32) : jG E x 50 1278 33 (jlw E b i) [.int (nI j)] (jmd E (jtop E C []) Q) := by
  by_cases j0 : j = 0
  · subst j0
    exact jG_tableIn F 140 dL_law_33 (by decide) (by decide) rfl (by decide) (law_anew F S hi hL h hN kk)
  by_cases j1 : j = 1
  · subst j1
    exact jG_tableIn F 153 dL_law_33 (by decide) (by decide) rfl (by decide) (law_rule F S hi hL h hN kk)
  by_cases j2 : j = 2
  · subst j2
    exact jG_tableIn F 186 dL_law_33 (by decide) (by decide) rfl (by decide) (law_seed F S hi hL h hN kk)
  by_cases j3 : j = 3
  · subst j3
    exact jG_tableIn F 209 dL_law_33 (by decide) (by decide) rfl (by decide) (law_put F S hi hL h hN kk)
  by_cases j4 : j = 4
  · subst j4
    exact jG_tableIn F 252 dL_law_33 (by decide) (by decide) rfl (by decide) (law_about F S hi hL h hN kk)
  by_cases j5 : j = 5
  · subst j5
    exact jG_tableIn F 285 dL_law_33 (by decide) (by decide) rfl (by decide) (law_shoot F S hi hL h hN kk)
  by_cases j6 : j = 6
  · subst j6
    exact jG_tableIn F 328 dL_law_33 (by decide) (by decide) rfl (by decide) (law_blow F S hi hL h hN kk)
  by_cases j7 : j = 7
  · subst j7
    exact jG_tableIn F 351 dL_law_33 (by decide) (by decide) rfl (by decide) (law_game F S hi hL h hN kk)
  by_cases j8 : j = 8
  · subst j8
    exact jG_tableIn F 374 dL_law_33 (by decide) (by decide) rfl (by decide) (law_score F S hi hL h hN kk)
  by_cases j9 : j = 9
  · subst j9
    exact jG_tableIn F 397 dL_law_33 (by decide) (by decide) rfl (by decide) (law_twelfths F S hi hL h hN kk)
  by_cases j10 : j = 10
  · subst j10
    exact jG_tableIn F 420 dL_law_33 (by decide) (by decide) rfl (by decide) (law_points F S hi hL h hN kk)
  by_cases j11 : j = 11
  · subst j11
    exact jG_tableIn F 443 dL_law_33 (by decide) (by decide) rfl (by decide) (law_chance F S hi hL h hN kk)
  by_cases j12 : j = 12
  · subst j12
    exact jG_tableIn F 476 dL_law_33 (by decide) (by decide) rfl (by decide) (law_best F S hi hL h hN kk)
  by_cases j13 : j = 13
  · subst j13
    exact jG_tableIn F 509 dL_law_33 (by decide) (by decide) rfl (by decide) (law_ahead F S hi hL h hN kk)
  by_cases j14 : j = 14
  · subst j14
    exact jG_tableIn F 522 dL_law_33 (by decide) (by decide) rfl (by decide) (law_write F S hi hL h hN kk)
  by_cases j15 : j = 15
  · subst j15
    exact jG_tableIn F 565 dL_law_33 (by decide) (by decide) rfl (by decide) (law_wipe F S hi hL h hN kk)
  by_cases j16 : j = 16
  · subst j16
    exact jG_tableIn F 578 dL_law_33 (by decide) (by decide) rfl (by decide) (law_wrong F S hi hL h hN kk)
  by_cases j17 : j = 17
  · subst j17
    exact jG_tableIn F 591 dL_law_33 (by decide) (by decide) rfl (by decide) (law_canBe F S hi hL h hN kk)
  by_cases j18 : j = 18
  · subst j18
    exact jG_tableIn F 614 dL_law_33 (by decide) (by decide) rfl (by decide) (law_seen F S hi hL h hN kk)
  by_cases j19 : j = 19
  · subst j19
    exact jG_tableIn F 701 dL_law_33 (by decide) (by decide) rfl (by decide) (law_scatter F S hi hL h hN kk)
  by_cases j20 : j = 20
  · subst j20
    exact jG_tableIn F 744 dL_law_33 (by decide) (by decide) rfl (by decide) (law_keep F S hi hL h hN kk)
  by_cases j21 : j = 21
  · subst j21
    exact jG_tableIn F 757 dL_law_33 (by decide) (by decide) rfl (by decide) (law_back F S hi hL h hN kk)
  by_cases j22 : j = 22
  · subst j22
    exact jG_tableIn F 770 dL_law_33 (by decide) (by decide) rfl (by decide) (law_count F S hi hL h hN kk)
  have t : (nI j).toInt = (j : Int) := nI_toInt (by omega)
  exact jG_tableOut F 793 dL_law_33 (Or.inr (by rw [t]; omega)) (by decide) (kk C Q h.same)
/-- the law's loop -/
theorem law_loop (F : jF E x RL cL_law 4 13 600000 7302250) (S : jScr E x b L xs) (hL : L ≤ 4096) (he : ∀ i C Q, jLG E x 799 b i C Q) : ∀ (n N : Nat) (C : jCT) (Q : jMT), L ≤ 8 * N + 8 * n → 8 * N ≤ L → jREL N C Q → jLG E x 18 b (8 * N) C Q := by
  intro n
  induction n with
  | zero =>
    intro N C Q hn hm h
    refine jG_iload_n F dL_law_18 rfl ?_
    refine jG_aload_n F dL_law_19 rfl ?_
    refine jG_slen F S dL_law_20 ?_
    refine jG_bipush F (v := nI 8) dL_law_21 (by decide) ?_
    refine jG_isub F dL_law_23 ?_
    refine jG_icmp_gt F 799 dL_law_24 (by decide) (fun _ => he _ _ _) (fun q => absurd (law_gt (by omega) hm hL) q)
  | succ n ih =>
    intro N C Q hn hm h
    refine jG_iload_n F dL_law_18 rfl ?_
    refine jG_aload_n F dL_law_19 rfl ?_
    refine jG_slen F S dL_law_20 ?_
    refine jG_bipush F (v := nI 8) dL_law_21 (by decide) ?_
    refine jG_isub F dL_law_23 ?_
    refine jG_icmp_gt F 799 dL_law_24 (by decide) (fun _ => he _ _ _) (fun q => ?_)
    have hi : 8 * N + 8 ≤ L := Nat.le_of_not_lt (fun z => q (law_gt z hm hL))
    refine jG_aload_n F dL_law_27 rfl ?_
    refine jG_iload_n F dL_law_28 rfl ?_
    refine jG_sld F S (k0 := 8 * N) rfl (by omega) hL dL_law_29 ?_
    refine jG_bipush F (v := (31 : Int32)) dL_law_30 (by decide) ?_
    refine jG_iand F dL_law_32 ?_
    obtain ⟨j, hj, ej⟩ := pk_andE (xs (8 * N)) (m := 31) 5 (by decide)
    refine jG_eq rfl (by rw [ej]) rfl ?_
    refine law_case F S hi hL h (by omega) (fun C' Q' h' => ?_) hj
    refine jG_iinc_3 F (w := nI (8 * (N + 1))) dL_law_793 (nI_add (8 * N) 8) (by decide) ?_
    refine jG_goto F 18 dL_law_796 (by decide) ?_
    exact ih (N + 1) C' Q' (by omega) (by omega) h'
end LW
