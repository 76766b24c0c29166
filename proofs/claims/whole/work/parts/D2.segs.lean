/-! the law, call by call -/
def Gd (y b : Int32) (w : zV) (t : zU) : Prop := (∃ k : Int, y = zI k ∧ (0 ≤ k ∧ k ≤ 2) ∧ w 79 2 = zI k ∧ (k = 0 → t 118 0 = b.toInt64)) ∧ INV w t
section
variable {sc : Nat × (Nat → Int32)} {d : Nat} {v : zV} {u : zU} {mi pc kc ks : Nat} {ls st : List Value} {Q : zPost}
theorem e_sal {j : Int} (o : zop mi pc = some (.iaload, 1)) (h0 : 0 ≤ j) (h1 : j < (sc.1 : Int)) (hn : sc.1 ≤ 60000) (k : zEv sc mi d (pc + 1) ls (.int (sc.2 j.toNat) :: st) (zmk v u) kc ks Q) : zEv sc mi d pc ls (.int (zI j) :: .ref 3000 :: st) (zmk v u) kc ks Q :=
  e_nx o (fun q => by
    have hz : zin (zI j) sc.1 = true ∧ (zI j).toNatClampNeg = j.toNat := ⟨zI_in h0 h1 (by omega), zI_nat (by omega)⟩
    have e : zald sc .int (zmk v u) 3000 (zI j) = some (.int (sc.2 j.toNat)) := by
      unfold zald zext
      rw [if_neg (by omega), if_pos rfl]
      simp only [hz.1, hz.2, and_self, if_true]
    simp only [znx, e]) k
theorem e_sln (o : zop mi pc = some (.arraylength, 1)) (k : zEv sc mi d (pc + 1) ls (.int (zI (sc.1 : Int)) :: st) (zmk v u) kc ks Q) : zEv sc mi d pc ls (.ref 3000 :: st) (zmk v u) kc ks Q :=
  e_nx o (fun q => by
    have e : zlen sc (zmk v u) 3000 = some (.int (zI (sc.1 : Int))) := by
      unfold zlen zext
      rw [if_neg (by omega), if_pos rfl]
      rfl
    simp only [znx, e]) k
theorem lg_same (x : Int64) : lg_cmp x x = zI 0 := by
  unfold lg_cmp
  simp
  rfl

theorem seg0 {i : Int} {x5 x6 : Value} {R1 : Int32 → zV → zU → Prop} (hd : 2 ≤ d) (i0 : 0 ≤ i) (i1 : i + 6 ≤ (sc.1 : Int)) (hn : sc.1 ≤ 60000) (hk : kc + 100 ≤ 601024) (hs : ks + 600 ≤ 7293034) (hC : zEv sc 98 (d - 1) 0 (zloc zm98 [.ref 0, .int (sc.2 (i + 1).toNat), .int (sc.2 (i + 2).toNat), .int (sc.2 (i + 3).toNat), .int (sc.2 (i + 4).toNat), .int (sc.2 (i + 5).toNat)]) [] (zmk v u) 0 0 (zPi R1)) (hM : ∀ y w t, R1 y w t → zEv sc 131 (d - 1) 0 (zloc zm131 [.ref 79, .int (sc.2 (i + 1).toNat), .int (sc.2 (i + 2).toNat), .int (sc.2 (i + 3).toNat), .int (sc.2 (i + 4).toNat), .int (sc.2 (i + 5).toNat)]) [] (zmk w t) 0 0 (zPi fun b w' t' => y = b ∧ INV w' t')) (k : ∀ w t y5 y6, INV w t → zEv sc 234 d 1479 [.ref 3000, .ref 0, .ref 79, .ref 118, .int (zI i), y5, y6] [] (zmk w t) (kc + 0) (ks + 0) Q) : zEv sc 234 d 152 [.ref 3000, .ref 0, .ref 79, .ref 118, .int (zI i), x5, x6] [] (zmk v u) kc ks Q := by
  refine e_al1 o234_152 (e_al0 o234_153 (e_il4 o234_154 (e_ico o234_156 (e_add o234_157 (e_sal o234_158 (by omega) (by omega) (by omega) (e_al0 o234_159 (e_il4 o234_160 (e_ico o234_162 (e_add o234_163 (e_sal o234_164 (by omega) (by omega) (by omega) (e_al0 o234_165 (e_il4 o234_166 (e_ico o234_168 (e_add o234_169 (e_sal o234_170 (by omega) (by omega) (by omega) (e_al0 o234_171 (e_il4 o234_172 (e_ico o234_174 (e_add o234_175 (e_sal o234_176 (by omega) (by omega) (by omega) (e_al0 o234_177 (e_il4 o234_178 (e_ico o234_180 (e_add o234_181 (e_sal o234_182 (by omega) (by omega) (by omega) ?_)))))))))))))))))))))))))
  refine e_V (as := [.int (sc.2 (i + 1).toNat), .int (sc.2 (i + 2).toNat), .int (sc.2 (i + 3).toNat), .int (sc.2 (i + 4).toNat), .int (sc.2 (i + 5).toNat)]) o234_183 K234 K98 (decide_eq_true ⟨by decide, rfl, rfl, Nat.le_of_ble_eq_true rfl, rfl, Nat.le_of_ble_eq_true rfl, by show kc + 0 ≤ 601024; omega, by show ks + 0 ≤ 7293034; omega⟩) (zrcv_I L0 rfl) (by omega) rfl rfl hC (zaf_I rfl rfl ?_)
  intro y w t h1
  refine e_al2 o234_186 (e_al0 o234_187 (e_il4 o234_188 (e_ico o234_190 (e_add o234_191 (e_sal o234_192 (by omega) (by omega) (by omega) (e_al0 o234_193 (e_il4 o234_194 (e_ico o234_196 (e_add o234_197 (e_sal o234_198 (by omega) (by omega) (by omega) (e_al0 o234_199 (e_il4 o234_200 (e_ico o234_202 (e_add o234_203 (e_sal o234_204 (by omega) (by omega) (by omega) (e_al0 o234_205 (e_il4 o234_206 (e_ico o234_208 (e_add o234_209 (e_sal o234_210 (by omega) (by omega) (by omega) (e_al0 o234_211 (e_il4 o234_212 (e_ico o234_214 (e_add o234_215 (e_sal o234_216 (by omega) (by omega) (by omega) ?_)))))))))))))))))))))))))
  refine e_V (as := [.int (sc.2 (i + 1).toNat), .int (sc.2 (i + 2).toNat), .int (sc.2 (i + 3).toNat), .int (sc.2 (i + 4).toNat), .int (sc.2 (i + 5).toNat)]) o234_217 K234 K131 (decide_eq_true ⟨by decide, rfl, rfl, Nat.le_of_ble_eq_true rfl, rfl, Nat.le_of_ble_eq_true rfl, by show kc + 0 + 0 ≤ 601024; omega, by show ks + 0 + 0 ≤ 7293034; omega⟩) (zrcv_I L79 rfl) (by omega) rfl rfl (hM y w t h1) (zaf_I rfl rfl ?_)
  rintro b w' t' ⟨rfl, hI⟩
  exact e_ir_eq o234_220 1479 rfl (fun _ => k w' t' _ _ hI) (fun z => absurd rfl z)

theorem seg1 {i : Int} {x5 x6 : Value} {R1 : Int32 → zV → zU → Prop} (hd : 2 ≤ d) (i0 : 0 ≤ i) (i1 : i + 6 ≤ (sc.1 : Int)) (hn : sc.1 ≤ 60000) (hk : kc + 100 ≤ 601024) (hs : ks + 600 ≤ 7293034) (hC : zEv sc 209 (d - 1) 0 ([.ref 0, .int (sc.2 (i + 1).toNat), .ref 118, zJ]) [] (zmk v u) 0 0 (zPi R1)) (hM : ∀ y w t, R1 y w t → zEv sc 132 (d - 1) 0 (zloc zm132 [.ref 79, .int (sc.2 (i + 1).toNat)]) [] (zmk w t) 0 0 (zPi fun b w' t' => Gd y b w' t')) (k : ∀ w t y5 y6, INV w t → zEv sc 234 d 1479 [.ref 3000, .ref 0, .ref 79, .ref 118, .int (zI i), y5, y6] [] (zmk w t) (kc + 1) (ks + 6) Q) : zEv sc 234 d 225 [.ref 3000, .ref 0, .ref 79, .ref 118, .int (zI i), x5, x6] [] (zmk v u) kc ks Q := by
  refine e_al1 o234_225 (e_al0 o234_226 (e_il4 o234_227 (e_ico o234_229 (e_add o234_230 (e_sal o234_231 (by omega) (by omega) (by omega) (e_al3 o234_232 ?_))))))
  refine e_S (as := [.ref 0, .int (sc.2 (i + 1).toNat), .ref 118]) o234_233 K234 K209 (decide_eq_true ⟨by decide, rfl, Nat.le_of_ble_eq_true rfl, rfl, Nat.le_of_ble_eq_true rfl, by show kc + 1 ≤ 601024; omega, by show ks + 6 ≤ 7293034; omega⟩) (by omega) rfl rfl hC (zaf_I rfl rfl ?_)
  intro y w t h1
  refine e_is5 o234_236 (e_al2 o234_238 (e_al0 o234_239 (e_il4 o234_240 (e_ico o234_242 (e_add o234_243 (e_sal o234_244 (by omega) (by omega) (by omega) ?_))))))
  refine e_V (as := [.int (sc.2 (i + 1).toNat)]) o234_245 K234 K132 (decide_eq_true ⟨by decide, rfl, rfl, Nat.le_of_ble_eq_true rfl, rfl, Nat.le_of_ble_eq_true rfl, by show kc + 1 + 0 ≤ 601024; omega, by show ks + 6 + 0 ≤ 7293034; omega⟩) (zrcv_I L79 rfl) (by omega) rfl rfl (hM y w t h1) (zaf_I rfl rfl ?_)
  rintro b w' t' ⟨⟨kk, rfl, kr, h2, h3⟩, hI⟩
  refine e_is6 o234_248 (e_al2 o234_250 ?_)
  refine e_V (as := []) o234_251 K234 K130 (decide_eq_true ⟨by decide, rfl, rfl, Nat.le_of_ble_eq_true rfl, rfl, Nat.le_of_ble_eq_true rfl, by show kc + 1 + 0 + 0 ≤ 601024; omega, by show ks + 6 + 0 + 0 ≤ 7293034; omega⟩) (zrcv_I L79 rfl) (by omega) rfl rfl m130 (zaf_I rfl rfl ?_)
  rintro _ _ _ ⟨rfl, rfl, rfl⟩
  rw [zI_g, h2]
  refine e_il5 o234_254 ?_
  refine e_ic_eq o234_256 261 rfl (by omega) (by omega) (fun _ => ?_) (fun z => absurd rfl z)
  refine e_il5 o234_261 ?_
  by_cases hk0 : kk = 0
  · subst hk0
    refine e_if_ne o234_263 278 rfl (by omega) (fun z => absurd rfl z) (fun _ => ?_)
    refine e_al3 o234_266 (e_ico o234_267 (e_lal o234_268 L118 (by omega) (by omega) (e_il6 o234_269 (e_i2l o234_271 (e_lcmp o234_272 ?_)))))
    rw [h3 rfl, lg_same]
    exact e_if_eq o234_273 278 rfl (by omega) (fun _ => e_goto o234_278 1479 rfl (k w' t' _ _ hI)) (fun z => absurd rfl z)
  · exact e_if_ne o234_263 278 rfl (by omega) (fun _ => e_goto o234_278 1479 rfl (k w' t' _ _ hI)) (fun z => absurd z hk0)

theorem seg2 {i : Int} {x5 x6 : Value} {R1 : Int32 → zV → zU → Prop} (hd : 2 ≤ d) (i0 : 0 ≤ i) (i1 : i + 6 ≤ (sc.1 : Int)) (hn : sc.1 ≤ 60000) (hk : kc + 100 ≤ 601024) (hs : ks + 600 ≤ 7293034) (hC : zEv sc 99 (d - 1) 0 (zloc zm99 [.ref 0]) [] (zmk v u) 0 0 (zPi R1)) (hM : ∀ y w t, R1 y w t → zEv sc 161 (d - 1) 0 (zloc zm161 [.ref 79]) [] (zmk w t) 0 0 (zPi fun b w' t' => y = b ∧ INV w' t')) (k : ∀ w t y5 y6, INV w t → zEv sc 234 d 1479 [.ref 3000, .ref 0, .ref 79, .ref 118, .int (zI i), y5, y6] [] (zmk w t) (kc + 0) (ks + 0) Q) : zEv sc 234 d 281 [.ref 3000, .ref 0, .ref 79, .ref 118, .int (zI i), x5, x6] [] (zmk v u) kc ks Q := by
  refine e_al1 o234_281 ?_
  refine e_V (as := []) o234_282 K234 K99 (decide_eq_true ⟨by decide, rfl, rfl, Nat.le_of_ble_eq_true rfl, rfl, Nat.le_of_ble_eq_true rfl, by show kc + 0 ≤ 601024; omega, by show ks + 0 ≤ 7293034; omega⟩) (zrcv_I L0 rfl) (by omega) rfl rfl hC (zaf_I rfl rfl ?_)
  intro y w t h1
  refine e_al2 o234_285 ?_
  refine e_V (as := []) o234_286 K234 K161 (decide_eq_true ⟨by decide, rfl, rfl, Nat.le_of_ble_eq_true rfl, rfl, Nat.le_of_ble_eq_true rfl, by show kc + 0 + 0 ≤ 601024; omega, by show ks + 0 + 0 ≤ 7293034; omega⟩) (zrcv_I L79 rfl) (by omega) rfl rfl (hM y w t h1) (zaf_I rfl rfl ?_)
  rintro b w' t' ⟨rfl, hI⟩
  exact e_ir_eq o234_289 1479 rfl (fun _ => k w' t' _ _ hI) (fun z => absurd rfl z)

theorem seg3 {i : Int} {x5 x6 : Value} {R1 : Int32 → zV → zU → Prop} (hd : 2 ≤ d) (i0 : 0 ≤ i) (i1 : i + 6 ≤ (sc.1 : Int)) (hn : sc.1 ≤ 60000) (hk : kc + 100 ≤ 601024) (hs : ks + 600 ≤ 7293034) (hC : zEv sc 210 (d - 1) 0 ([.ref 0, .int (sc.2 (i + 1).toNat), .ref 118, zJ]) [] (zmk v u) 0 0 (zPi R1)) (hM : ∀ y w t, R1 y w t → zEv sc 162 (d - 1) 0 (zloc zm162 [.ref 79, .int (sc.2 (i + 1).toNat)]) [] (zmk w t) 0 0 (zPi fun b w' t' => Gd y b w' t')) (k : ∀ w t y5 y6, INV w t → zEv sc 234 d 1479 [.ref 3000, .ref 0, .ref 79, .ref 118, .int (zI i), y5, y6] [] (zmk w t) (kc + 1) (ks + 6) Q) : zEv sc 234 d 294 [.ref 3000, .ref 0, .ref 79, .ref 118, .int (zI i), x5, x6] [] (zmk v u) kc ks Q := by
  refine e_al1 o234_294 (e_al0 o234_295 (e_il4 o234_296 (e_ico o234_298 (e_add o234_299 (e_sal o234_300 (by omega) (by omega) (by omega) (e_al3 o234_301 ?_))))))
  refine e_S (as := [.ref 0, .int (sc.2 (i + 1).toNat), .ref 118]) o234_302 K234 K210 (decide_eq_true ⟨by decide, rfl, Nat.le_of_ble_eq_true rfl, rfl, Nat.le_of_ble_eq_true rfl, by show kc + 1 ≤ 601024; omega, by show ks + 6 ≤ 7293034; omega⟩) (by omega) rfl rfl hC (zaf_I rfl rfl ?_)
  intro y w t h1
  refine e_is5 o234_305 (e_al2 o234_307 (e_al0 o234_308 (e_il4 o234_309 (e_ico o234_311 (e_add o234_312 (e_sal o234_313 (by omega) (by omega) (by omega) ?_))))))
  refine e_V (as := [.int (sc.2 (i + 1).toNat)]) o234_314 K234 K162 (decide_eq_true ⟨by decide, rfl, rfl, Nat.le_of_ble_eq_true rfl, rfl, Nat.le_of_ble_eq_true rfl, by show kc + 1 + 0 ≤ 601024; omega, by show ks + 6 + 0 ≤ 7293034; omega⟩) (zrcv_I L79 rfl) (by omega) rfl rfl (hM y w t h1) (zaf_I rfl rfl ?_)
  rintro b w' t' ⟨⟨kk, rfl, kr, h2, h3⟩, hI⟩
  refine e_is6 o234_317 (e_al2 o234_319 ?_)
  refine e_V (as := []) o234_320 K234 K130 (decide_eq_true ⟨by decide, rfl, rfl, Nat.le_of_ble_eq_true rfl, rfl, Nat.le_of_ble_eq_true rfl, by show kc + 1 + 0 + 0 ≤ 601024; omega, by show ks + 6 + 0 + 0 ≤ 7293034; omega⟩) (zrcv_I L79 rfl) (by omega) rfl rfl m130 (zaf_I rfl rfl ?_)
  rintro _ _ _ ⟨rfl, rfl, rfl⟩
  rw [zI_g, h2]
  refine e_il5 o234_323 ?_
  refine e_ic_eq o234_325 330 rfl (by omega) (by omega) (fun _ => ?_) (fun z => absurd rfl z)
  refine e_il5 o234_330 ?_
  by_cases hk0 : kk = 0
  · subst hk0
    refine e_if_ne o234_332 347 rfl (by omega) (fun z => absurd rfl z) (fun _ => ?_)
    refine e_al3 o234_335 (e_ico o234_336 (e_lal o234_337 L118 (by omega) (by omega) (e_il6 o234_338 (e_i2l o234_340 (e_lcmp o234_341 ?_)))))
    rw [h3 rfl, lg_same]
    exact e_if_eq o234_342 347 rfl (by omega) (fun _ => e_goto o234_347 1479 rfl (k w' t' _ _ hI)) (fun z => absurd rfl z)
  · exact e_if_ne o234_332 347 rfl (by omega) (fun _ => e_goto o234_347 1479 rfl (k w' t' _ _ hI)) (fun z => absurd z hk0)

theorem seg4 {i : Int} {x5 x6 : Value} {R1 : Int32 → zV → zU → Prop} (hd : 2 ≤ d) (i0 : 0 ≤ i) (i1 : i + 6 ≤ (sc.1 : Int)) (hn : sc.1 ≤ 60000) (hk : kc + 100 ≤ 601024) (hs : ks + 600 ≤ 7293034) (hC : zEv sc 211 (d - 1) 0 ([.ref 0, .int (sc.2 (i + 1).toNat), .int (sc.2 (i + 2).toNat), .ref 118, zJ]) [] (zmk v u) 0 0 (zPi R1)) (hM : ∀ y w t, R1 y w t → zEv sc 167 (d - 1) 0 (zloc zm167 [.ref 79, .int (sc.2 (i + 1).toNat), .int (sc.2 (i + 2).toNat)]) [] (zmk w t) 0 0 (zPi fun b w' t' => Gd y b w' t')) (k : ∀ w t y5 y6, INV w t → zEv sc 234 d 1479 [.ref 3000, .ref 0, .ref 79, .ref 118, .int (zI i), y5, y6] [] (zmk w t) (kc + 2) (ks + 12) Q) : zEv sc 234 d 350 [.ref 3000, .ref 0, .ref 79, .ref 118, .int (zI i), x5, x6] [] (zmk v u) kc ks Q := by
  refine e_al1 o234_350 (e_al0 o234_351 (e_il4 o234_352 (e_ico o234_354 (e_add o234_355 (e_sal o234_356 (by omega) (by omega) (by omega) (e_al0 o234_357 (e_il4 o234_358 (e_ico o234_360 (e_add o234_361 (e_sal o234_362 (by omega) (by omega) (by omega) (e_al3 o234_363 ?_)))))))))))
  refine e_S (as := [.ref 0, .int (sc.2 (i + 1).toNat), .int (sc.2 (i + 2).toNat), .ref 118]) o234_364 K234 K211 (decide_eq_true ⟨by decide, rfl, Nat.le_of_ble_eq_true rfl, rfl, Nat.le_of_ble_eq_true rfl, by show kc + 2 ≤ 601024; omega, by show ks + 12 ≤ 7293034; omega⟩) (by omega) rfl rfl hC (zaf_I rfl rfl ?_)
  intro y w t h1
  refine e_is5 o234_367 (e_al2 o234_369 (e_al0 o234_370 (e_il4 o234_371 (e_ico o234_373 (e_add o234_374 (e_sal o234_375 (by omega) (by omega) (by omega) (e_al0 o234_376 (e_il4 o234_377 (e_ico o234_379 (e_add o234_380 (e_sal o234_381 (by omega) (by omega) (by omega) ?_)))))))))))
  refine e_V (as := [.int (sc.2 (i + 1).toNat), .int (sc.2 (i + 2).toNat)]) o234_382 K234 K167 (decide_eq_true ⟨by decide, rfl, rfl, Nat.le_of_ble_eq_true rfl, rfl, Nat.le_of_ble_eq_true rfl, by show kc + 2 + 0 ≤ 601024; omega, by show ks + 12 + 0 ≤ 7293034; omega⟩) (zrcv_I L79 rfl) (by omega) rfl rfl (hM y w t h1) (zaf_I rfl rfl ?_)
  rintro b w' t' ⟨⟨kk, rfl, kr, h2, h3⟩, hI⟩
  refine e_is6 o234_385 (e_al2 o234_387 ?_)
  refine e_V (as := []) o234_388 K234 K130 (decide_eq_true ⟨by decide, rfl, rfl, Nat.le_of_ble_eq_true rfl, rfl, Nat.le_of_ble_eq_true rfl, by show kc + 2 + 0 + 0 ≤ 601024; omega, by show ks + 12 + 0 + 0 ≤ 7293034; omega⟩) (zrcv_I L79 rfl) (by omega) rfl rfl m130 (zaf_I rfl rfl ?_)
  rintro _ _ _ ⟨rfl, rfl, rfl⟩
  rw [zI_g, h2]
  refine e_il5 o234_391 ?_
  refine e_ic_eq o234_393 398 rfl (by omega) (by omega) (fun _ => ?_) (fun z => absurd rfl z)
  refine e_il5 o234_398 ?_
  by_cases hk0 : kk = 0
  · subst hk0
    refine e_if_ne o234_400 415 rfl (by omega) (fun z => absurd rfl z) (fun _ => ?_)
    refine e_al3 o234_403 (e_ico o234_404 (e_lal o234_405 L118 (by omega) (by omega) (e_il6 o234_406 (e_i2l o234_408 (e_lcmp o234_409 ?_)))))
    rw [h3 rfl, lg_same]
    exact e_if_eq o234_410 415 rfl (by omega) (fun _ => e_goto o234_415 1479 rfl (k w' t' _ _ hI)) (fun z => absurd rfl z)
  · exact e_if_ne o234_400 415 rfl (by omega) (fun _ => e_goto o234_415 1479 rfl (k w' t' _ _ hI)) (fun z => absurd z hk0)

theorem seg5 {i : Int} {x5 x6 : Value} {R1 : Int32 → zV → zU → Prop} (hd : 2 ≤ d) (i0 : 0 ≤ i) (i1 : i + 6 ≤ (sc.1 : Int)) (hn : sc.1 ≤ 60000) (hk : kc + 100 ≤ 601024) (hs : ks + 600 ≤ 7293034) (hC : zEv sc 212 (d - 1) 0 ([.ref 0, .int (sc.2 (i + 1).toNat), .int (sc.2 (i + 2).toNat), .ref 118, zJ]) [] (zmk v u) 0 0 (zPi R1)) (hM : ∀ y w t, R1 y w t → zEv sc 171 (d - 1) 0 (zloc zm171 [.ref 79, .int (sc.2 (i + 1).toNat), .int (sc.2 (i + 2).toNat)]) [] (zmk w t) 0 0 (zPi fun b w' t' => Gd y b w' t')) (k : ∀ w t y5 y6, INV w t → zEv sc 234 d 1479 [.ref 3000, .ref 0, .ref 79, .ref 118, .int (zI i), y5, y6] [] (zmk w t) (kc + 2) (ks + 12) Q) : zEv sc 234 d 418 [.ref 3000, .ref 0, .ref 79, .ref 118, .int (zI i), x5, x6] [] (zmk v u) kc ks Q := by
  refine e_al1 o234_418 (e_al0 o234_419 (e_il4 o234_420 (e_ico o234_422 (e_add o234_423 (e_sal o234_424 (by omega) (by omega) (by omega) (e_al0 o234_425 (e_il4 o234_426 (e_ico o234_428 (e_add o234_429 (e_sal o234_430 (by omega) (by omega) (by omega) (e_al3 o234_431 ?_)))))))))))
  refine e_S (as := [.ref 0, .int (sc.2 (i + 1).toNat), .int (sc.2 (i + 2).toNat), .ref 118]) o234_432 K234 K212 (decide_eq_true ⟨by decide, rfl, Nat.le_of_ble_eq_true rfl, rfl, Nat.le_of_ble_eq_true rfl, by show kc + 2 ≤ 601024; omega, by show ks + 12 ≤ 7293034; omega⟩) (by omega) rfl rfl hC (zaf_I rfl rfl ?_)
  intro y w t h1
  refine e_is5 o234_435 (e_al2 o234_437 (e_al0 o234_438 (e_il4 o234_439 (e_ico o234_441 (e_add o234_442 (e_sal o234_443 (by omega) (by omega) (by omega) (e_al0 o234_444 (e_il4 o234_445 (e_ico o234_447 (e_add o234_448 (e_sal o234_449 (by omega) (by omega) (by omega) ?_)))))))))))
  refine e_V (as := [.int (sc.2 (i + 1).toNat), .int (sc.2 (i + 2).toNat)]) o234_450 K234 K171 (decide_eq_true ⟨by decide, rfl, rfl, Nat.le_of_ble_eq_true rfl, rfl, Nat.le_of_ble_eq_true rfl, by show kc + 2 + 0 ≤ 601024; omega, by show ks + 12 + 0 ≤ 7293034; omega⟩) (zrcv_I L79 rfl) (by omega) rfl rfl (hM y w t h1) (zaf_I rfl rfl ?_)
  rintro b w' t' ⟨⟨kk, rfl, kr, h2, h3⟩, hI⟩
  refine e_is6 o234_453 (e_al2 o234_455 ?_)
  refine e_V (as := []) o234_456 K234 K130 (decide_eq_true ⟨by decide, rfl, rfl, Nat.le_of_ble_eq_true rfl, rfl, Nat.le_of_ble_eq_true rfl, by show kc + 2 + 0 + 0 ≤ 601024; omega, by show ks + 12 + 0 + 0 ≤ 7293034; omega⟩) (zrcv_I L79 rfl) (by omega) rfl rfl m130 (zaf_I rfl rfl ?_)
  rintro _ _ _ ⟨rfl, rfl, rfl⟩
  rw [zI_g, h2]
  refine e_il5 o234_459 ?_
  refine e_ic_eq o234_461 466 rfl (by omega) (by omega) (fun _ => ?_) (fun z => absurd rfl z)
  refine e_il5 o234_466 ?_
  by_cases hk0 : kk = 0
  · subst hk0
    refine e_if_ne o234_468 483 rfl (by omega) (fun z => absurd rfl z) (fun _ => ?_)
    refine e_al3 o234_471 (e_ico o234_472 (e_lal o234_473 L118 (by omega) (by omega) (e_il6 o234_474 (e_i2l o234_476 (e_lcmp o234_477 ?_)))))
    rw [h3 rfl, lg_same]
    exact e_if_eq o234_478 483 rfl (by omega) (fun _ => e_goto o234_483 1479 rfl (k w' t' _ _ hI)) (fun z => absurd rfl z)
  · exact e_if_ne o234_468 483 rfl (by omega) (fun _ => e_goto o234_483 1479 rfl (k w' t' _ _ hI)) (fun z => absurd z hk0)

theorem seg6 {i : Int} {x5 x6 : Value} {R1 : Int32 → zV → zU → Prop} (hd : 2 ≤ d) (i0 : 0 ≤ i) (i1 : i + 6 ≤ (sc.1 : Int)) (hn : sc.1 ≤ 60000) (hk : kc + 100 ≤ 601024) (hs : ks + 600 ≤ 7293034) (hC : zEv sc 213 (d - 1) 0 ([.ref 0, .int (sc.2 (i + 1).toNat), .int (sc.2 (i + 2).toNat), .ref 118, zJ]) [] (zmk v u) 0 0 (zPi R1)) (hM : ∀ y w t, R1 y w t → zEv sc 173 (d - 1) 0 (zloc zm173 [.ref 79, .int (sc.2 (i + 1).toNat), .int (sc.2 (i + 2).toNat)]) [] (zmk w t) 0 0 (zPi fun b w' t' => Gd y b w' t')) (k : ∀ w t y5 y6, INV w t → zEv sc 234 d 1479 [.ref 3000, .ref 0, .ref 79, .ref 118, .int (zI i), y5, y6] [] (zmk w t) (kc + 2) (ks + 12) Q) : zEv sc 234 d 486 [.ref 3000, .ref 0, .ref 79, .ref 118, .int (zI i), x5, x6] [] (zmk v u) kc ks Q := by
  refine e_al1 o234_486 (e_al0 o234_487 (e_il4 o234_488 (e_ico o234_490 (e_add o234_491 (e_sal o234_492 (by omega) (by omega) (by omega) (e_al0 o234_493 (e_il4 o234_494 (e_ico o234_496 (e_add o234_497 (e_sal o234_498 (by omega) (by omega) (by omega) (e_al3 o234_499 ?_)))))))))))
  refine e_S (as := [.ref 0, .int (sc.2 (i + 1).toNat), .int (sc.2 (i + 2).toNat), .ref 118]) o234_500 K234 K213 (decide_eq_true ⟨by decide, rfl, Nat.le_of_ble_eq_true rfl, rfl, Nat.le_of_ble_eq_true rfl, by show kc + 2 ≤ 601024; omega, by show ks + 12 ≤ 7293034; omega⟩) (by omega) rfl rfl hC (zaf_I rfl rfl ?_)
  intro y w t h1
  refine e_is5 o234_503 (e_al2 o234_505 (e_al0 o234_506 (e_il4 o234_507 (e_ico o234_509 (e_add o234_510 (e_sal o234_511 (by omega) (by omega) (by omega) (e_al0 o234_512 (e_il4 o234_513 (e_ico o234_515 (e_add o234_516 (e_sal o234_517 (by omega) (by omega) (by omega) ?_)))))))))))
  refine e_V (as := [.int (sc.2 (i + 1).toNat), .int (sc.2 (i + 2).toNat)]) o234_518 K234 K173 (decide_eq_true ⟨by decide, rfl, rfl, Nat.le_of_ble_eq_true rfl, rfl, Nat.le_of_ble_eq_true rfl, by show kc + 2 + 0 ≤ 601024; omega, by show ks + 12 + 0 ≤ 7293034; omega⟩) (zrcv_I L79 rfl) (by omega) rfl rfl (hM y w t h1) (zaf_I rfl rfl ?_)
  rintro b w' t' ⟨⟨kk, rfl, kr, h2, h3⟩, hI⟩
  refine e_is6 o234_521 (e_al2 o234_523 ?_)
  refine e_V (as := []) o234_524 K234 K130 (decide_eq_true ⟨by decide, rfl, rfl, Nat.le_of_ble_eq_true rfl, rfl, Nat.le_of_ble_eq_true rfl, by show kc + 2 + 0 + 0 ≤ 601024; omega, by show ks + 12 + 0 + 0 ≤ 7293034; omega⟩) (zrcv_I L79 rfl) (by omega) rfl rfl m130 (zaf_I rfl rfl ?_)
  rintro _ _ _ ⟨rfl, rfl, rfl⟩
  rw [zI_g, h2]
  refine e_il5 o234_527 ?_
  refine e_ic_eq o234_529 534 rfl (by omega) (by omega) (fun _ => ?_) (fun z => absurd rfl z)
  refine e_il5 o234_534 ?_
  by_cases hk0 : kk = 0
  · subst hk0
    refine e_if_ne o234_536 551 rfl (by omega) (fun z => absurd rfl z) (fun _ => ?_)
    refine e_al3 o234_539 (e_ico o234_540 (e_lal o234_541 L118 (by omega) (by omega) (e_il6 o234_542 (e_i2l o234_544 (e_lcmp o234_545 ?_)))))
    rw [h3 rfl, lg_same]
    exact e_if_eq o234_546 551 rfl (by omega) (fun _ => e_goto o234_551 1479 rfl (k w' t' _ _ hI)) (fun z => absurd rfl z)
  · exact e_if_ne o234_536 551 rfl (by omega) (fun _ => e_goto o234_551 1479 rfl (k w' t' _ _ hI)) (fun z => absurd z hk0)

theorem seg7 {i : Int} {x5 x6 : Value} {R1 : Int32 → zV → zU → Prop} (hd : 2 ≤ d) (i0 : 0 ≤ i) (i1 : i + 6 ≤ (sc.1 : Int)) (hn : sc.1 ≤ 60000) (hk : kc + 100 ≤ 601024) (hs : ks + 600 ≤ 7293034) (hC : zEv sc 214 (d - 1) 0 ([.ref 0, .int (sc.2 (i + 1).toNat), .int (sc.2 (i + 2).toNat), .ref 118, zJ]) [] (zmk v u) 0 0 (zPi R1)) (hM : ∀ y w t, R1 y w t → zEv sc 175 (d - 1) 0 (zloc zm175 [.ref 79, .int (sc.2 (i + 1).toNat), .int (sc.2 (i + 2).toNat)]) [] (zmk w t) 0 0 (zPi fun b w' t' => Gd y b w' t')) (k : ∀ w t y5 y6, INV w t → zEv sc 234 d 1479 [.ref 3000, .ref 0, .ref 79, .ref 118, .int (zI i), y5, y6] [] (zmk w t) (kc + 2) (ks + 12) Q) : zEv sc 234 d 554 [.ref 3000, .ref 0, .ref 79, .ref 118, .int (zI i), x5, x6] [] (zmk v u) kc ks Q := by
  refine e_al1 o234_554 (e_al0 o234_555 (e_il4 o234_556 (e_ico o234_558 (e_add o234_559 (e_sal o234_560 (by omega) (by omega) (by omega) (e_al0 o234_561 (e_il4 o234_562 (e_ico o234_564 (e_add o234_565 (e_sal o234_566 (by omega) (by omega) (by omega) (e_al3 o234_567 ?_)))))))))))
  refine e_S (as := [.ref 0, .int (sc.2 (i + 1).toNat), .int (sc.2 (i + 2).toNat), .ref 118]) o234_568 K234 K214 (decide_eq_true ⟨by decide, rfl, Nat.le_of_ble_eq_true rfl, rfl, Nat.le_of_ble_eq_true rfl, by show kc + 2 ≤ 601024; omega, by show ks + 12 ≤ 7293034; omega⟩) (by omega) rfl rfl hC (zaf_I rfl rfl ?_)
  intro y w t h1
  refine e_is5 o234_571 (e_al2 o234_573 (e_al0 o234_574 (e_il4 o234_575 (e_ico o234_577 (e_add o234_578 (e_sal o234_579 (by omega) (by omega) (by omega) (e_al0 o234_580 (e_il4 o234_581 (e_ico o234_583 (e_add o234_584 (e_sal o234_585 (by omega) (by omega) (by omega) ?_)))))))))))
  refine e_V (as := [.int (sc.2 (i + 1).toNat), .int (sc.2 (i + 2).toNat)]) o234_586 K234 K175 (decide_eq_true ⟨by decide, rfl, rfl, Nat.le_of_ble_eq_true rfl, rfl, Nat.le_of_ble_eq_true rfl, by show kc + 2 + 0 ≤ 601024; omega, by show ks + 12 + 0 ≤ 7293034; omega⟩) (zrcv_I L79 rfl) (by omega) rfl rfl (hM y w t h1) (zaf_I rfl rfl ?_)
  rintro b w' t' ⟨⟨kk, rfl, kr, h2, h3⟩, hI⟩
  refine e_is6 o234_589 (e_al2 o234_591 ?_)
  refine e_V (as := []) o234_592 K234 K130 (decide_eq_true ⟨by decide, rfl, rfl, Nat.le_of_ble_eq_true rfl, rfl, Nat.le_of_ble_eq_true rfl, by show kc + 2 + 0 + 0 ≤ 601024; omega, by show ks + 12 + 0 + 0 ≤ 7293034; omega⟩) (zrcv_I L79 rfl) (by omega) rfl rfl m130 (zaf_I rfl rfl ?_)
  rintro _ _ _ ⟨rfl, rfl, rfl⟩
  rw [zI_g, h2]
  refine e_il5 o234_595 ?_
  refine e_ic_eq o234_597 602 rfl (by omega) (by omega) (fun _ => ?_) (fun z => absurd rfl z)
  refine e_il5 o234_602 ?_
  by_cases hk0 : kk = 0
  · subst hk0
    refine e_if_ne o234_604 619 rfl (by omega) (fun z => absurd rfl z) (fun _ => ?_)
    refine e_al3 o234_607 (e_ico o234_608 (e_lal o234_609 L118 (by omega) (by omega) (e_il6 o234_610 (e_i2l o234_612 (e_lcmp o234_613 ?_)))))
    rw [h3 rfl, lg_same]
    exact e_if_eq o234_614 619 rfl (by omega) (fun _ => e_goto o234_619 1479 rfl (k w' t' _ _ hI)) (fun z => absurd rfl z)
  · exact e_if_ne o234_604 619 rfl (by omega) (fun _ => e_goto o234_619 1479 rfl (k w' t' _ _ hI)) (fun z => absurd z hk0)

theorem seg8 {i : Int} {x5 x6 : Value} {R1 : Int32 → zV → zU → Prop} (hd : 2 ≤ d) (i0 : 0 ≤ i) (i1 : i + 6 ≤ (sc.1 : Int)) (hn : sc.1 ≤ 60000) (hk : kc + 100 ≤ 601024) (hs : ks + 600 ≤ 7293034) (hC : zEv sc 215 (d - 1) 0 ([.ref 0, .int (sc.2 (i + 1).toNat), .int (sc.2 (i + 2).toNat), .int (sc.2 (i + 3).toNat), .ref 118, zJ]) [] (zmk v u) 0 0 (zPi R1)) (hM : ∀ y w t, R1 y w t → zEv sc 177 (d - 1) 0 (zloc zm177 [.ref 79, .int (sc.2 (i + 1).toNat), .int (sc.2 (i + 2).toNat), .int (sc.2 (i + 3).toNat)]) [] (zmk w t) 0 0 (zPi fun b w' t' => Gd y b w' t')) (k : ∀ w t y5 y6, INV w t → zEv sc 234 d 1479 [.ref 3000, .ref 0, .ref 79, .ref 118, .int (zI i), y5, y6] [] (zmk w t) (kc + 2) (ks + 12) Q) : zEv sc 234 d 622 [.ref 3000, .ref 0, .ref 79, .ref 118, .int (zI i), x5, x6] [] (zmk v u) kc ks Q := by
  refine e_al1 o234_622 (e_al0 o234_623 (e_il4 o234_624 (e_ico o234_626 (e_add o234_627 (e_sal o234_628 (by omega) (by omega) (by omega) (e_al0 o234_629 (e_il4 o234_630 (e_ico o234_632 (e_add o234_633 (e_sal o234_634 (by omega) (by omega) (by omega) (e_al0 o234_635 (e_il4 o234_636 (e_ico o234_638 (e_add o234_639 (e_sal o234_640 (by omega) (by omega) (by omega) (e_al3 o234_641 ?_))))))))))))))))
  refine e_S (as := [.ref 0, .int (sc.2 (i + 1).toNat), .int (sc.2 (i + 2).toNat), .int (sc.2 (i + 3).toNat), .ref 118]) o234_642 K234 K215 (decide_eq_true ⟨by decide, rfl, Nat.le_of_ble_eq_true rfl, rfl, Nat.le_of_ble_eq_true rfl, by show kc + 2 ≤ 601024; omega, by show ks + 12 ≤ 7293034; omega⟩) (by omega) rfl rfl hC (zaf_I rfl rfl ?_)
  intro y w t h1
  refine e_is5 o234_645 (e_al2 o234_647 (e_al0 o234_648 (e_il4 o234_649 (e_ico o234_651 (e_add o234_652 (e_sal o234_653 (by omega) (by omega) (by omega) (e_al0 o234_654 (e_il4 o234_655 (e_ico o234_657 (e_add o234_658 (e_sal o234_659 (by omega) (by omega) (by omega) (e_al0 o234_660 (e_il4 o234_661 (e_ico o234_663 (e_add o234_664 (e_sal o234_665 (by omega) (by omega) (by omega) ?_))))))))))))))))
  refine e_V (as := [.int (sc.2 (i + 1).toNat), .int (sc.2 (i + 2).toNat), .int (sc.2 (i + 3).toNat)]) o234_666 K234 K177 (decide_eq_true ⟨by decide, rfl, rfl, Nat.le_of_ble_eq_true rfl, rfl, Nat.le_of_ble_eq_true rfl, by show kc + 2 + 0 ≤ 601024; omega, by show ks + 12 + 0 ≤ 7293034; omega⟩) (zrcv_I L79 rfl) (by omega) rfl rfl (hM y w t h1) (zaf_I rfl rfl ?_)
  rintro b w' t' ⟨⟨kk, rfl, kr, h2, h3⟩, hI⟩
  refine e_is6 o234_669 (e_al2 o234_671 ?_)
  refine e_V (as := []) o234_672 K234 K130 (decide_eq_true ⟨by decide, rfl, rfl, Nat.le_of_ble_eq_true rfl, rfl, Nat.le_of_ble_eq_true rfl, by show kc + 2 + 0 + 0 ≤ 601024; omega, by show ks + 12 + 0 + 0 ≤ 7293034; omega⟩) (zrcv_I L79 rfl) (by omega) rfl rfl m130 (zaf_I rfl rfl ?_)
  rintro _ _ _ ⟨rfl, rfl, rfl⟩
  rw [zI_g, h2]
  refine e_il5 o234_675 ?_
  refine e_ic_eq o234_677 682 rfl (by omega) (by omega) (fun _ => ?_) (fun z => absurd rfl z)
  refine e_il5 o234_682 ?_
  by_cases hk0 : kk = 0
  · subst hk0
    refine e_if_ne o234_684 699 rfl (by omega) (fun z => absurd rfl z) (fun _ => ?_)
    refine e_al3 o234_687 (e_ico o234_688 (e_lal o234_689 L118 (by omega) (by omega) (e_il6 o234_690 (e_i2l o234_692 (e_lcmp o234_693 ?_)))))
    rw [h3 rfl, lg_same]
    exact e_if_eq o234_694 699 rfl (by omega) (fun _ => e_goto o234_699 1479 rfl (k w' t' _ _ hI)) (fun z => absurd rfl z)
  · exact e_if_ne o234_684 699 rfl (by omega) (fun _ => e_goto o234_699 1479 rfl (k w' t' _ _ hI)) (fun z => absurd z hk0)

theorem seg9 {i : Int} {x5 x6 : Value} {R1 : Int32 → zV → zU → Prop} (hd : 2 ≤ d) (i0 : 0 ≤ i) (i1 : i + 6 ≤ (sc.1 : Int)) (hn : sc.1 ≤ 60000) (hk : kc + 100 ≤ 601024) (hs : ks + 600 ≤ 7293034) (hC : zEv sc 100 (d - 1) 0 (zloc zm100 [.ref 0]) [] (zmk v u) 0 0 (zPi R1)) (hM : ∀ y w t, R1 y w t → zEv sc 185 (d - 1) 0 (zloc zm185 [.ref 79]) [] (zmk w t) 0 0 (zPi fun b w' t' => y = b ∧ INV w' t')) (k : ∀ w t y5 y6, INV w t → zEv sc 234 d 1479 [.ref 3000, .ref 0, .ref 79, .ref 118, .int (zI i), y5, y6] [] (zmk w t) (kc + 0) (ks + 0) Q) : zEv sc 234 d 702 [.ref 3000, .ref 0, .ref 79, .ref 118, .int (zI i), x5, x6] [] (zmk v u) kc ks Q := by
  refine e_al1 o234_702 ?_
  refine e_V (as := []) o234_703 K234 K100 (decide_eq_true ⟨by decide, rfl, rfl, Nat.le_of_ble_eq_true rfl, rfl, Nat.le_of_ble_eq_true rfl, by show kc + 0 ≤ 601024; omega, by show ks + 0 ≤ 7293034; omega⟩) (zrcv_I L0 rfl) (by omega) rfl rfl hC (zaf_I rfl rfl ?_)
  intro y w t h1
  refine e_al2 o234_706 ?_
  refine e_V (as := []) o234_707 K234 K185 (decide_eq_true ⟨by decide, rfl, rfl, Nat.le_of_ble_eq_true rfl, rfl, Nat.le_of_ble_eq_true rfl, by show kc + 0 + 0 ≤ 601024; omega, by show ks + 0 + 0 ≤ 7293034; omega⟩) (zrcv_I L79 rfl) (by omega) rfl rfl (hM y w t h1) (zaf_I rfl rfl ?_)
  rintro b w' t' ⟨rfl, hI⟩
  exact e_ir_eq o234_710 1479 rfl (fun _ => k w' t' _ _ hI) (fun z => absurd rfl z)

theorem seg10 {i : Int} {x5 x6 : Value} {R1 : Int32 → zV → zU → Prop} (hd : 2 ≤ d) (i0 : 0 ≤ i) (i1 : i + 6 ≤ (sc.1 : Int)) (hn : sc.1 ≤ 60000) (hk : kc + 100 ≤ 601024) (hs : ks + 600 ≤ 7293034) (hC : zEv sc 216 (d - 1) 0 ([.ref 0, .int (sc.2 (i + 1).toNat), .int (sc.2 (i + 2).toNat), .ref 118, zJ]) [] (zmk v u) 0 0 (zPi R1)) (hM : ∀ y w t, R1 y w t → zEv sc 186 (d - 1) 0 (zloc zm186 [.ref 79, .int (sc.2 (i + 1).toNat), .int (sc.2 (i + 2).toNat)]) [] (zmk w t) 0 0 (zPi fun b w' t' => Gd y b w' t')) (k : ∀ w t y5 y6, INV w t → zEv sc 234 d 1479 [.ref 3000, .ref 0, .ref 79, .ref 118, .int (zI i), y5, y6] [] (zmk w t) (kc + 2) (ks + 12) Q) : zEv sc 234 d 715 [.ref 3000, .ref 0, .ref 79, .ref 118, .int (zI i), x5, x6] [] (zmk v u) kc ks Q := by
  refine e_al1 o234_715 (e_al0 o234_716 (e_il4 o234_717 (e_ico o234_719 (e_add o234_720 (e_sal o234_721 (by omega) (by omega) (by omega) (e_al0 o234_722 (e_il4 o234_723 (e_ico o234_725 (e_add o234_726 (e_sal o234_727 (by omega) (by omega) (by omega) (e_al3 o234_728 ?_)))))))))))
  refine e_S (as := [.ref 0, .int (sc.2 (i + 1).toNat), .int (sc.2 (i + 2).toNat), .ref 118]) o234_729 K234 K216 (decide_eq_true ⟨by decide, rfl, Nat.le_of_ble_eq_true rfl, rfl, Nat.le_of_ble_eq_true rfl, by show kc + 2 ≤ 601024; omega, by show ks + 12 ≤ 7293034; omega⟩) (by omega) rfl rfl hC (zaf_I rfl rfl ?_)
  intro y w t h1
  refine e_is5 o234_732 (e_al2 o234_734 (e_al0 o234_735 (e_il4 o234_736 (e_ico o234_738 (e_add o234_739 (e_sal o234_740 (by omega) (by omega) (by omega) (e_al0 o234_741 (e_il4 o234_742 (e_ico o234_744 (e_add o234_745 (e_sal o234_746 (by omega) (by omega) (by omega) ?_)))))))))))
  refine e_V (as := [.int (sc.2 (i + 1).toNat), .int (sc.2 (i + 2).toNat)]) o234_747 K234 K186 (decide_eq_true ⟨by decide, rfl, rfl, Nat.le_of_ble_eq_true rfl, rfl, Nat.le_of_ble_eq_true rfl, by show kc + 2 + 0 ≤ 601024; omega, by show ks + 12 + 0 ≤ 7293034; omega⟩) (zrcv_I L79 rfl) (by omega) rfl rfl (hM y w t h1) (zaf_I rfl rfl ?_)
  rintro b w' t' ⟨⟨kk, rfl, kr, h2, h3⟩, hI⟩
  refine e_is6 o234_750 (e_al2 o234_752 ?_)
  refine e_V (as := []) o234_753 K234 K130 (decide_eq_true ⟨by decide, rfl, rfl, Nat.le_of_ble_eq_true rfl, rfl, Nat.le_of_ble_eq_true rfl, by show kc + 2 + 0 + 0 ≤ 601024; omega, by show ks + 12 + 0 + 0 ≤ 7293034; omega⟩) (zrcv_I L79 rfl) (by omega) rfl rfl m130 (zaf_I rfl rfl ?_)
  rintro _ _ _ ⟨rfl, rfl, rfl⟩
  rw [zI_g, h2]
  refine e_il5 o234_756 ?_
  refine e_ic_eq o234_758 763 rfl (by omega) (by omega) (fun _ => ?_) (fun z => absurd rfl z)
  refine e_il5 o234_763 ?_
  by_cases hk0 : kk = 0
  · subst hk0
    refine e_if_ne o234_765 780 rfl (by omega) (fun z => absurd rfl z) (fun _ => ?_)
    refine e_al3 o234_768 (e_ico o234_769 (e_lal o234_770 L118 (by omega) (by omega) (e_il6 o234_771 (e_i2l o234_773 (e_lcmp o234_774 ?_)))))
    rw [h3 rfl, lg_same]
    exact e_if_eq o234_775 780 rfl (by omega) (fun _ => e_goto o234_780 1479 rfl (k w' t' _ _ hI)) (fun z => absurd rfl z)
  · exact e_if_ne o234_765 780 rfl (by omega) (fun _ => e_goto o234_780 1479 rfl (k w' t' _ _ hI)) (fun z => absurd z hk0)

theorem seg11 {i : Int} {x5 x6 : Value} {R1 : Int32 → zV → zU → Prop} (hd : 2 ≤ d) (i0 : 0 ≤ i) (i1 : i + 6 ≤ (sc.1 : Int)) (hn : sc.1 ≤ 60000) (hk : kc + 100 ≤ 601024) (hs : ks + 600 ≤ 7293034) (hC : zEv sc 217 (d - 1) 0 ([.ref 0, .int (sc.2 (i + 1).toNat), .int (sc.2 (i + 2).toNat), .ref 118, zJ]) [] (zmk v u) 0 0 (zPi R1)) (hM : ∀ y w t, R1 y w t → zEv sc 187 (d - 1) 0 (zloc zm187 [.ref 79, .int (sc.2 (i + 1).toNat), .int (sc.2 (i + 2).toNat)]) [] (zmk w t) 0 0 (zPi fun b w' t' => Gd y b w' t')) (k : ∀ w t y5 y6, INV w t → zEv sc 234 d 1479 [.ref 3000, .ref 0, .ref 79, .ref 118, .int (zI i), y5, y6] [] (zmk w t) (kc + 2) (ks + 12) Q) : zEv sc 234 d 783 [.ref 3000, .ref 0, .ref 79, .ref 118, .int (zI i), x5, x6] [] (zmk v u) kc ks Q := by
  refine e_al1 o234_783 (e_al0 o234_784 (e_il4 o234_785 (e_ico o234_787 (e_add o234_788 (e_sal o234_789 (by omega) (by omega) (by omega) (e_al0 o234_790 (e_il4 o234_791 (e_ico o234_793 (e_add o234_794 (e_sal o234_795 (by omega) (by omega) (by omega) (e_al3 o234_796 ?_)))))))))))
  refine e_S (as := [.ref 0, .int (sc.2 (i + 1).toNat), .int (sc.2 (i + 2).toNat), .ref 118]) o234_797 K234 K217 (decide_eq_true ⟨by decide, rfl, Nat.le_of_ble_eq_true rfl, rfl, Nat.le_of_ble_eq_true rfl, by show kc + 2 ≤ 601024; omega, by show ks + 12 ≤ 7293034; omega⟩) (by omega) rfl rfl hC (zaf_I rfl rfl ?_)
  intro y w t h1
  refine e_is5 o234_800 (e_al2 o234_802 (e_al0 o234_803 (e_il4 o234_804 (e_ico o234_806 (e_add o234_807 (e_sal o234_808 (by omega) (by omega) (by omega) (e_al0 o234_809 (e_il4 o234_810 (e_ico o234_812 (e_add o234_813 (e_sal o234_814 (by omega) (by omega) (by omega) ?_)))))))))))
  refine e_V (as := [.int (sc.2 (i + 1).toNat), .int (sc.2 (i + 2).toNat)]) o234_815 K234 K187 (decide_eq_true ⟨by decide, rfl, rfl, Nat.le_of_ble_eq_true rfl, rfl, Nat.le_of_ble_eq_true rfl, by show kc + 2 + 0 ≤ 601024; omega, by show ks + 12 + 0 ≤ 7293034; omega⟩) (zrcv_I L79 rfl) (by omega) rfl rfl (hM y w t h1) (zaf_I rfl rfl ?_)
  rintro b w' t' ⟨⟨kk, rfl, kr, h2, h3⟩, hI⟩
  refine e_is6 o234_818 (e_al2 o234_820 ?_)
  refine e_V (as := []) o234_821 K234 K130 (decide_eq_true ⟨by decide, rfl, rfl, Nat.le_of_ble_eq_true rfl, rfl, Nat.le_of_ble_eq_true rfl, by show kc + 2 + 0 + 0 ≤ 601024; omega, by show ks + 12 + 0 + 0 ≤ 7293034; omega⟩) (zrcv_I L79 rfl) (by omega) rfl rfl m130 (zaf_I rfl rfl ?_)
  rintro _ _ _ ⟨rfl, rfl, rfl⟩
  rw [zI_g, h2]
  refine e_il5 o234_824 ?_
  refine e_ic_eq o234_826 831 rfl (by omega) (by omega) (fun _ => ?_) (fun z => absurd rfl z)
  refine e_il5 o234_831 ?_
  by_cases hk0 : kk = 0
  · subst hk0
    refine e_if_ne o234_833 848 rfl (by omega) (fun z => absurd rfl z) (fun _ => ?_)
    refine e_al3 o234_836 (e_ico o234_837 (e_lal o234_838 L118 (by omega) (by omega) (e_il6 o234_839 (e_i2l o234_841 (e_lcmp o234_842 ?_)))))
    rw [h3 rfl, lg_same]
    exact e_if_eq o234_843 848 rfl (by omega) (fun _ => e_goto o234_848 1479 rfl (k w' t' _ _ hI)) (fun z => absurd rfl z)
  · exact e_if_ne o234_833 848 rfl (by omega) (fun _ => e_goto o234_848 1479 rfl (k w' t' _ _ hI)) (fun z => absurd z hk0)

theorem seg12 {i : Int} {x5 x6 : Value} {R1 : Int32 → zV → zU → Prop} (hd : 2 ≤ d) (i0 : 0 ≤ i) (i1 : i + 6 ≤ (sc.1 : Int)) (hn : sc.1 ≤ 60000) (hk : kc + 100 ≤ 601024) (hs : ks + 600 ≤ 7293034) (hC : zEv sc 218 (d - 1) 0 ([.ref 0, .int (sc.2 (i + 1).toNat), .int (sc.2 (i + 2).toNat), .ref 118, zJ]) [] (zmk v u) 0 0 (zPi R1)) (hM : ∀ y w t, R1 y w t → zEv sc 188 (d - 1) 0 (zloc zm188 [.ref 79, .int (sc.2 (i + 1).toNat), .int (sc.2 (i + 2).toNat)]) [] (zmk w t) 0 0 (zPi fun b w' t' => Gd y b w' t')) (k : ∀ w t y5 y6, INV w t → zEv sc 234 d 1479 [.ref 3000, .ref 0, .ref 79, .ref 118, .int (zI i), y5, y6] [] (zmk w t) (kc + 2) (ks + 12) Q) : zEv sc 234 d 851 [.ref 3000, .ref 0, .ref 79, .ref 118, .int (zI i), x5, x6] [] (zmk v u) kc ks Q := by
  refine e_al1 o234_851 (e_al0 o234_852 (e_il4 o234_853 (e_ico o234_855 (e_add o234_856 (e_sal o234_857 (by omega) (by omega) (by omega) (e_al0 o234_858 (e_il4 o234_859 (e_ico o234_861 (e_add o234_862 (e_sal o234_863 (by omega) (by omega) (by omega) (e_al3 o234_864 ?_)))))))))))
  refine e_S (as := [.ref 0, .int (sc.2 (i + 1).toNat), .int (sc.2 (i + 2).toNat), .ref 118]) o234_865 K234 K218 (decide_eq_true ⟨by decide, rfl, Nat.le_of_ble_eq_true rfl, rfl, Nat.le_of_ble_eq_true rfl, by show kc + 2 ≤ 601024; omega, by show ks + 12 ≤ 7293034; omega⟩) (by omega) rfl rfl hC (zaf_I rfl rfl ?_)
  intro y w t h1
  refine e_is5 o234_868 (e_al2 o234_870 (e_al0 o234_871 (e_il4 o234_872 (e_ico o234_874 (e_add o234_875 (e_sal o234_876 (by omega) (by omega) (by omega) (e_al0 o234_877 (e_il4 o234_878 (e_ico o234_880 (e_add o234_881 (e_sal o234_882 (by omega) (by omega) (by omega) ?_)))))))))))
  refine e_V (as := [.int (sc.2 (i + 1).toNat), .int (sc.2 (i + 2).toNat)]) o234_883 K234 K188 (decide_eq_true ⟨by decide, rfl, rfl, Nat.le_of_ble_eq_true rfl, rfl, Nat.le_of_ble_eq_true rfl, by show kc + 2 + 0 ≤ 601024; omega, by show ks + 12 + 0 ≤ 7293034; omega⟩) (zrcv_I L79 rfl) (by omega) rfl rfl (hM y w t h1) (zaf_I rfl rfl ?_)
  rintro b w' t' ⟨⟨kk, rfl, kr, h2, h3⟩, hI⟩
  refine e_is6 o234_886 (e_al2 o234_888 ?_)
  refine e_V (as := []) o234_889 K234 K130 (decide_eq_true ⟨by decide, rfl, rfl, Nat.le_of_ble_eq_true rfl, rfl, Nat.le_of_ble_eq_true rfl, by show kc + 2 + 0 + 0 ≤ 601024; omega, by show ks + 12 + 0 + 0 ≤ 7293034; omega⟩) (zrcv_I L79 rfl) (by omega) rfl rfl m130 (zaf_I rfl rfl ?_)
  rintro _ _ _ ⟨rfl, rfl, rfl⟩
  rw [zI_g, h2]
  refine e_il5 o234_892 ?_
  refine e_ic_eq o234_894 899 rfl (by omega) (by omega) (fun _ => ?_) (fun z => absurd rfl z)
  refine e_il5 o234_899 ?_
  by_cases hk0 : kk = 0
  · subst hk0
    refine e_if_ne o234_901 916 rfl (by omega) (fun z => absurd rfl z) (fun _ => ?_)
    refine e_al3 o234_904 (e_ico o234_905 (e_lal o234_906 L118 (by omega) (by omega) (e_il6 o234_907 (e_i2l o234_909 (e_lcmp o234_910 ?_)))))
    rw [h3 rfl, lg_same]
    exact e_if_eq o234_911 916 rfl (by omega) (fun _ => e_goto o234_916 1479 rfl (k w' t' _ _ hI)) (fun z => absurd rfl z)
  · exact e_if_ne o234_901 916 rfl (by omega) (fun _ => e_goto o234_916 1479 rfl (k w' t' _ _ hI)) (fun z => absurd z hk0)

theorem seg13 {i : Int} {x5 x6 : Value} {R1 : Int32 → zV → zU → Prop} (hd : 2 ≤ d) (i0 : 0 ≤ i) (i1 : i + 6 ≤ (sc.1 : Int)) (hn : sc.1 ≤ 60000) (hk : kc + 100 ≤ 601024) (hs : ks + 600 ≤ 7293034) (hC : zEv sc 219 (d - 1) 0 ([.ref 0, .int (sc.2 (i + 1).toNat), .int (sc.2 (i + 2).toNat), .ref 118, zJ]) [] (zmk v u) 0 0 (zPi R1)) (hM : ∀ y w t, R1 y w t → zEv sc 189 (d - 1) 0 (zloc zm189 [.ref 79, .int (sc.2 (i + 1).toNat), .int (sc.2 (i + 2).toNat)]) [] (zmk w t) 0 0 (zPi fun b w' t' => Gd y b w' t')) (k : ∀ w t y5 y6, INV w t → zEv sc 234 d 1479 [.ref 3000, .ref 0, .ref 79, .ref 118, .int (zI i), y5, y6] [] (zmk w t) (kc + 2) (ks + 12) Q) : zEv sc 234 d 919 [.ref 3000, .ref 0, .ref 79, .ref 118, .int (zI i), x5, x6] [] (zmk v u) kc ks Q := by
  refine e_al1 o234_919 (e_al0 o234_920 (e_il4 o234_921 (e_ico o234_923 (e_add o234_924 (e_sal o234_925 (by omega) (by omega) (by omega) (e_al0 o234_926 (e_il4 o234_927 (e_ico o234_929 (e_add o234_930 (e_sal o234_931 (by omega) (by omega) (by omega) (e_al3 o234_932 ?_)))))))))))
  refine e_S (as := [.ref 0, .int (sc.2 (i + 1).toNat), .int (sc.2 (i + 2).toNat), .ref 118]) o234_933 K234 K219 (decide_eq_true ⟨by decide, rfl, Nat.le_of_ble_eq_true rfl, rfl, Nat.le_of_ble_eq_true rfl, by show kc + 2 ≤ 601024; omega, by show ks + 12 ≤ 7293034; omega⟩) (by omega) rfl rfl hC (zaf_I rfl rfl ?_)
  intro y w t h1
  refine e_is5 o234_936 (e_al2 o234_938 (e_al0 o234_939 (e_il4 o234_940 (e_ico o234_942 (e_add o234_943 (e_sal o234_944 (by omega) (by omega) (by omega) (e_al0 o234_945 (e_il4 o234_946 (e_ico o234_948 (e_add o234_949 (e_sal o234_950 (by omega) (by omega) (by omega) ?_)))))))))))
  refine e_V (as := [.int (sc.2 (i + 1).toNat), .int (sc.2 (i + 2).toNat)]) o234_951 K234 K189 (decide_eq_true ⟨by decide, rfl, rfl, Nat.le_of_ble_eq_true rfl, rfl, Nat.le_of_ble_eq_true rfl, by show kc + 2 + 0 ≤ 601024; omega, by show ks + 12 + 0 ≤ 7293034; omega⟩) (zrcv_I L79 rfl) (by omega) rfl rfl (hM y w t h1) (zaf_I rfl rfl ?_)
  rintro b w' t' ⟨⟨kk, rfl, kr, h2, h3⟩, hI⟩
  refine e_is6 o234_954 (e_al2 o234_956 ?_)
  refine e_V (as := []) o234_957 K234 K130 (decide_eq_true ⟨by decide, rfl, rfl, Nat.le_of_ble_eq_true rfl, rfl, Nat.le_of_ble_eq_true rfl, by show kc + 2 + 0 + 0 ≤ 601024; omega, by show ks + 12 + 0 + 0 ≤ 7293034; omega⟩) (zrcv_I L79 rfl) (by omega) rfl rfl m130 (zaf_I rfl rfl ?_)
  rintro _ _ _ ⟨rfl, rfl, rfl⟩
  rw [zI_g, h2]
  refine e_il5 o234_960 ?_
  refine e_ic_eq o234_962 967 rfl (by omega) (by omega) (fun _ => ?_) (fun z => absurd rfl z)
  refine e_il5 o234_967 ?_
  by_cases hk0 : kk = 0
  · subst hk0
    refine e_if_ne o234_969 984 rfl (by omega) (fun z => absurd rfl z) (fun _ => ?_)
    refine e_al3 o234_972 (e_ico o234_973 (e_lal o234_974 L118 (by omega) (by omega) (e_il6 o234_975 (e_i2l o234_977 (e_lcmp o234_978 ?_)))))
    rw [h3 rfl, lg_same]
    exact e_if_eq o234_979 984 rfl (by omega) (fun _ => e_goto o234_984 1479 rfl (k w' t' _ _ hI)) (fun z => absurd rfl z)
  · exact e_if_ne o234_969 984 rfl (by omega) (fun _ => e_goto o234_984 1479 rfl (k w' t' _ _ hI)) (fun z => absurd z hk0)

theorem seg14 {i : Int} {x5 x6 : Value} {R1 : Int32 → zV → zU → Prop} (hd : 2 ≤ d) (i0 : 0 ≤ i) (i1 : i + 6 ≤ (sc.1 : Int)) (hn : sc.1 ≤ 60000) (hk : kc + 100 ≤ 601024) (hs : ks + 600 ≤ 7293034) (hC : zEv sc 220 (d - 1) 0 ([.ref 0, .int (sc.2 (i + 1).toNat), .int (sc.2 (i + 2).toNat), .ref 118, zJ]) [] (zmk v u) 0 0 (zPi R1)) (hM : ∀ y w t, R1 y w t → zEv sc 190 (d - 1) 0 (zloc zm190 [.ref 79, .int (sc.2 (i + 1).toNat), .int (sc.2 (i + 2).toNat)]) [] (zmk w t) 0 0 (zPi fun b w' t' => Gd y b w' t')) (k : ∀ w t y5 y6, INV w t → zEv sc 234 d 1479 [.ref 3000, .ref 0, .ref 79, .ref 118, .int (zI i), y5, y6] [] (zmk w t) (kc + 2) (ks + 12) Q) : zEv sc 234 d 987 [.ref 3000, .ref 0, .ref 79, .ref 118, .int (zI i), x5, x6] [] (zmk v u) kc ks Q := by
  refine e_al1 o234_987 (e_al0 o234_988 (e_il4 o234_989 (e_ico o234_991 (e_add o234_992 (e_sal o234_993 (by omega) (by omega) (by omega) (e_al0 o234_994 (e_il4 o234_995 (e_ico o234_997 (e_add o234_998 (e_sal o234_999 (by omega) (by omega) (by omega) (e_al3 o234_1000 ?_)))))))))))
  refine e_S (as := [.ref 0, .int (sc.2 (i + 1).toNat), .int (sc.2 (i + 2).toNat), .ref 118]) o234_1001 K234 K220 (decide_eq_true ⟨by decide, rfl, Nat.le_of_ble_eq_true rfl, rfl, Nat.le_of_ble_eq_true rfl, by show kc + 2 ≤ 601024; omega, by show ks + 12 ≤ 7293034; omega⟩) (by omega) rfl rfl hC (zaf_I rfl rfl ?_)
  intro y w t h1
  refine e_is5 o234_1004 (e_al2 o234_1006 (e_al0 o234_1007 (e_il4 o234_1008 (e_ico o234_1010 (e_add o234_1011 (e_sal o234_1012 (by omega) (by omega) (by omega) (e_al0 o234_1013 (e_il4 o234_1014 (e_ico o234_1016 (e_add o234_1017 (e_sal o234_1018 (by omega) (by omega) (by omega) ?_)))))))))))
  refine e_V (as := [.int (sc.2 (i + 1).toNat), .int (sc.2 (i + 2).toNat)]) o234_1019 K234 K190 (decide_eq_true ⟨by decide, rfl, rfl, Nat.le_of_ble_eq_true rfl, rfl, Nat.le_of_ble_eq_true rfl, by show kc + 2 + 0 ≤ 601024; omega, by show ks + 12 + 0 ≤ 7293034; omega⟩) (zrcv_I L79 rfl) (by omega) rfl rfl (hM y w t h1) (zaf_I rfl rfl ?_)
  rintro b w' t' ⟨⟨kk, rfl, kr, h2, h3⟩, hI⟩
  refine e_is6 o234_1022 (e_al2 o234_1024 ?_)
  refine e_V (as := []) o234_1025 K234 K130 (decide_eq_true ⟨by decide, rfl, rfl, Nat.le_of_ble_eq_true rfl, rfl, Nat.le_of_ble_eq_true rfl, by show kc + 2 + 0 + 0 ≤ 601024; omega, by show ks + 12 + 0 + 0 ≤ 7293034; omega⟩) (zrcv_I L79 rfl) (by omega) rfl rfl m130 (zaf_I rfl rfl ?_)
  rintro _ _ _ ⟨rfl, rfl, rfl⟩
  rw [zI_g, h2]
  refine e_il5 o234_1028 ?_
  refine e_ic_eq o234_1030 1035 rfl (by omega) (by omega) (fun _ => ?_) (fun z => absurd rfl z)
  refine e_il5 o234_1035 ?_
  by_cases hk0 : kk = 0
  · subst hk0
    refine e_if_ne o234_1037 1052 rfl (by omega) (fun z => absurd rfl z) (fun _ => ?_)
    refine e_al3 o234_1040 (e_ico o234_1041 (e_lal o234_1042 L118 (by omega) (by omega) (e_il6 o234_1043 (e_i2l o234_1045 (e_lcmp o234_1046 ?_)))))
    rw [h3 rfl, lg_same]
    exact e_if_eq o234_1047 1052 rfl (by omega) (fun _ => e_goto o234_1052 1479 rfl (k w' t' _ _ hI)) (fun z => absurd rfl z)
  · exact e_if_ne o234_1037 1052 rfl (by omega) (fun _ => e_goto o234_1052 1479 rfl (k w' t' _ _ hI)) (fun z => absurd z hk0)

theorem seg15 {i : Int} {x5 x6 : Value} {R1 : zV → zU → Prop} (hd : 2 ≤ d) (i0 : 0 ≤ i) (i1 : i + 6 ≤ (sc.1 : Int)) (hn : sc.1 ≤ 60000) (hk : kc + 100 ≤ 601024) (hs : ks + 600 ≤ 7293034) (hC : zEv sc 101 (d - 1) 0 (zloc zm101 [.ref 0]) [] (zmk v u) 0 0 (zPv R1)) (hM : ∀ w t, R1 w t → zEv sc 191 (d - 1) 0 (zloc zm191 [.ref 79]) [] (zmk w t) 0 0 (zPv fun w' t' => INV w' t')) (k : ∀ w t y5 y6, INV w t → zEv sc 234 d 1479 [.ref 3000, .ref 0, .ref 79, .ref 118, .int (zI i), y5, y6] [] (zmk w t) (kc + 0) (ks + 0) Q) : zEv sc 234 d 1055 [.ref 3000, .ref 0, .ref 79, .ref 118, .int (zI i), x5, x6] [] (zmk v u) kc ks Q := by
  refine e_al1 o234_1055 ?_
  refine e_V (as := []) o234_1056 K234 K101 (decide_eq_true ⟨by decide, rfl, rfl, Nat.le_of_ble_eq_true rfl, rfl, Nat.le_of_ble_eq_true rfl, by show kc + 0 ≤ 601024; omega, by show ks + 0 ≤ 7293034; omega⟩) (zrcv_I L0 rfl) (by omega) rfl rfl hC (zaf_V rfl rfl ?_)
  intro w t h1
  refine e_al2 o234_1059 ?_
  refine e_V (as := []) o234_1060 K234 K191 (decide_eq_true ⟨by decide, rfl, rfl, Nat.le_of_ble_eq_true rfl, rfl, Nat.le_of_ble_eq_true rfl, by show kc + 0 + 0 ≤ 601024; omega, by show ks + 0 + 0 ≤ 7293034; omega⟩) (zrcv_I L79 rfl) (by omega) rfl rfl (hM w t h1) (zaf_V rfl rfl ?_)
  intro w' t' hI
  exact e_goto o234_1063 1479 rfl (k w' t' _ _ hI)

theorem seg16 {i : Int} {x5 x6 : Value} {R1 : Int32 → zV → zU → Prop} (hd : 2 ≤ d) (i0 : 0 ≤ i) (i1 : i + 6 ≤ (sc.1 : Int)) (hn : sc.1 ≤ 60000) (hk : kc + 100 ≤ 601024) (hs : ks + 600 ≤ 7293034) (hC : zEv sc 221 (d - 1) 0 ([.ref 0, .int (sc.2 (i + 1).toNat), .ref 118, zJ]) [] (zmk v u) 0 0 (zPi R1)) (hM : ∀ y w t, R1 y w t → zEv sc 192 (d - 1) 0 (zloc zm192 [.ref 79, .int (sc.2 (i + 1).toNat)]) [] (zmk w t) 0 0 (zPi fun b w' t' => Gd y b w' t')) (k : ∀ w t y5 y6, INV w t → zEv sc 234 d 1479 [.ref 3000, .ref 0, .ref 79, .ref 118, .int (zI i), y5, y6] [] (zmk w t) (kc + 1) (ks + 6) Q) : zEv sc 234 d 1066 [.ref 3000, .ref 0, .ref 79, .ref 118, .int (zI i), x5, x6] [] (zmk v u) kc ks Q := by
  refine e_al1 o234_1066 (e_al0 o234_1067 (e_il4 o234_1068 (e_ico o234_1070 (e_add o234_1071 (e_sal o234_1072 (by omega) (by omega) (by omega) (e_al3 o234_1073 ?_))))))
  refine e_S (as := [.ref 0, .int (sc.2 (i + 1).toNat), .ref 118]) o234_1074 K234 K221 (decide_eq_true ⟨by decide, rfl, Nat.le_of_ble_eq_true rfl, rfl, Nat.le_of_ble_eq_true rfl, by show kc + 1 ≤ 601024; omega, by show ks + 6 ≤ 7293034; omega⟩) (by omega) rfl rfl hC (zaf_I rfl rfl ?_)
  intro y w t h1
  refine e_is5 o234_1077 (e_al2 o234_1079 (e_al0 o234_1080 (e_il4 o234_1081 (e_ico o234_1083 (e_add o234_1084 (e_sal o234_1085 (by omega) (by omega) (by omega) ?_))))))
  refine e_V (as := [.int (sc.2 (i + 1).toNat)]) o234_1086 K234 K192 (decide_eq_true ⟨by decide, rfl, rfl, Nat.le_of_ble_eq_true rfl, rfl, Nat.le_of_ble_eq_true rfl, by show kc + 1 + 0 ≤ 601024; omega, by show ks + 6 + 0 ≤ 7293034; omega⟩) (zrcv_I L79 rfl) (by omega) rfl rfl (hM y w t h1) (zaf_I rfl rfl ?_)
  rintro b w' t' ⟨⟨kk, rfl, kr, h2, h3⟩, hI⟩
  refine e_is6 o234_1089 (e_al2 o234_1091 ?_)
  refine e_V (as := []) o234_1092 K234 K130 (decide_eq_true ⟨by decide, rfl, rfl, Nat.le_of_ble_eq_true rfl, rfl, Nat.le_of_ble_eq_true rfl, by show kc + 1 + 0 + 0 ≤ 601024; omega, by show ks + 6 + 0 + 0 ≤ 7293034; omega⟩) (zrcv_I L79 rfl) (by omega) rfl rfl m130 (zaf_I rfl rfl ?_)
  rintro _ _ _ ⟨rfl, rfl, rfl⟩
  rw [zI_g, h2]
  refine e_il5 o234_1095 ?_
  refine e_ic_eq o234_1097 1102 rfl (by omega) (by omega) (fun _ => ?_) (fun z => absurd rfl z)
  refine e_il5 o234_1102 ?_
  by_cases hk0 : kk = 0
  · subst hk0
    refine e_if_ne o234_1104 1119 rfl (by omega) (fun z => absurd rfl z) (fun _ => ?_)
    refine e_al3 o234_1107 (e_ico o234_1108 (e_lal o234_1109 L118 (by omega) (by omega) (e_il6 o234_1110 (e_i2l o234_1112 (e_lcmp o234_1113 ?_)))))
    rw [h3 rfl, lg_same]
    exact e_if_eq o234_1114 1119 rfl (by omega) (fun _ => e_goto o234_1119 1479 rfl (k w' t' _ _ hI)) (fun z => absurd rfl z)
  · exact e_if_ne o234_1104 1119 rfl (by omega) (fun _ => e_goto o234_1119 1479 rfl (k w' t' _ _ hI)) (fun z => absurd z hk0)

theorem seg17 {i : Int} {x5 x6 : Value} {R1 : Int32 → zV → zU → Prop} (hd : 2 ≤ d) (i0 : 0 ≤ i) (i1 : i + 6 ≤ (sc.1 : Int)) (hn : sc.1 ≤ 60000) (hk : kc + 100 ≤ 601024) (hs : ks + 600 ≤ 7293034) (hC : zEv sc 222 (d - 1) 0 ([.ref 0, .int (sc.2 (i + 1).toNat), .int (sc.2 (i + 2).toNat), .int (sc.2 (i + 3).toNat), .ref 118, zJ]) [] (zmk v u) 0 0 (zPi R1)) (hM : ∀ y w t, R1 y w t → zEv sc 200 (d - 1) 0 (zloc zm200 [.ref 79, .int (sc.2 (i + 1).toNat), .int (sc.2 (i + 2).toNat), .int (sc.2 (i + 3).toNat)]) [] (zmk w t) 0 0 (zPi fun b w' t' => Gd y b w' t')) (k : ∀ w t y5 y6, INV w t → zEv sc 234 d 1479 [.ref 3000, .ref 0, .ref 79, .ref 118, .int (zI i), y5, y6] [] (zmk w t) (kc + 2) (ks + 12) Q) : zEv sc 234 d 1122 [.ref 3000, .ref 0, .ref 79, .ref 118, .int (zI i), x5, x6] [] (zmk v u) kc ks Q := by
  refine e_al1 o234_1122 (e_al0 o234_1123 (e_il4 o234_1124 (e_ico o234_1126 (e_add o234_1127 (e_sal o234_1128 (by omega) (by omega) (by omega) (e_al0 o234_1129 (e_il4 o234_1130 (e_ico o234_1132 (e_add o234_1133 (e_sal o234_1134 (by omega) (by omega) (by omega) (e_al0 o234_1135 (e_il4 o234_1136 (e_ico o234_1138 (e_add o234_1139 (e_sal o234_1140 (by omega) (by omega) (by omega) (e_al3 o234_1141 ?_))))))))))))))))
  refine e_S (as := [.ref 0, .int (sc.2 (i + 1).toNat), .int (sc.2 (i + 2).toNat), .int (sc.2 (i + 3).toNat), .ref 118]) o234_1142 K234 K222 (decide_eq_true ⟨by decide, rfl, Nat.le_of_ble_eq_true rfl, rfl, Nat.le_of_ble_eq_true rfl, by show kc + 2 ≤ 601024; omega, by show ks + 12 ≤ 7293034; omega⟩) (by omega) rfl rfl hC (zaf_I rfl rfl ?_)
  intro y w t h1
  refine e_is5 o234_1145 (e_al2 o234_1147 (e_al0 o234_1148 (e_il4 o234_1149 (e_ico o234_1151 (e_add o234_1152 (e_sal o234_1153 (by omega) (by omega) (by omega) (e_al0 o234_1154 (e_il4 o234_1155 (e_ico o234_1157 (e_add o234_1158 (e_sal o234_1159 (by omega) (by omega) (by omega) (e_al0 o234_1160 (e_il4 o234_1161 (e_ico o234_1163 (e_add o234_1164 (e_sal o234_1165 (by omega) (by omega) (by omega) ?_))))))))))))))))
  refine e_V (as := [.int (sc.2 (i + 1).toNat), .int (sc.2 (i + 2).toNat), .int (sc.2 (i + 3).toNat)]) o234_1166 K234 K200 (decide_eq_true ⟨by decide, rfl, rfl, Nat.le_of_ble_eq_true rfl, rfl, Nat.le_of_ble_eq_true rfl, by show kc + 2 + 0 ≤ 601024; omega, by show ks + 12 + 0 ≤ 7293034; omega⟩) (zrcv_I L79 rfl) (by omega) rfl rfl (hM y w t h1) (zaf_I rfl rfl ?_)
  rintro b w' t' ⟨⟨kk, rfl, kr, h2, h3⟩, hI⟩
  refine e_is6 o234_1169 (e_al2 o234_1171 ?_)
  refine e_V (as := []) o234_1172 K234 K130 (decide_eq_true ⟨by decide, rfl, rfl, Nat.le_of_ble_eq_true rfl, rfl, Nat.le_of_ble_eq_true rfl, by show kc + 2 + 0 + 0 ≤ 601024; omega, by show ks + 12 + 0 + 0 ≤ 7293034; omega⟩) (zrcv_I L79 rfl) (by omega) rfl rfl m130 (zaf_I rfl rfl ?_)
  rintro _ _ _ ⟨rfl, rfl, rfl⟩
  rw [zI_g, h2]
  refine e_il5 o234_1175 ?_
  refine e_ic_eq o234_1177 1182 rfl (by omega) (by omega) (fun _ => ?_) (fun z => absurd rfl z)
  refine e_il5 o234_1182 ?_
  by_cases hk0 : kk = 0
  · subst hk0
    refine e_if_ne o234_1184 1199 rfl (by omega) (fun z => absurd rfl z) (fun _ => ?_)
    refine e_al3 o234_1187 (e_ico o234_1188 (e_lal o234_1189 L118 (by omega) (by omega) (e_il6 o234_1190 (e_i2l o234_1192 (e_lcmp o234_1193 ?_)))))
    rw [h3 rfl, lg_same]
    exact e_if_eq o234_1194 1199 rfl (by omega) (fun _ => e_goto o234_1199 1479 rfl (k w' t' _ _ hI)) (fun z => absurd rfl z)
  · exact e_if_ne o234_1184 1199 rfl (by omega) (fun _ => e_goto o234_1199 1479 rfl (k w' t' _ _ hI)) (fun z => absurd z hk0)

theorem seg18 {i : Int} {x5 x6 : Value} {R1 : Int32 → zV → zU → Prop} (hd : 2 ≤ d) (i0 : 0 ≤ i) (i1 : i + 6 ≤ (sc.1 : Int)) (hn : sc.1 ≤ 60000) (hk : kc + 100 ≤ 601024) (hs : ks + 600 ≤ 7293034) (hC : zEv sc 102 (d - 1) 0 (zloc zm102 [.ref 0]) [] (zmk v u) 0 0 (zPi R1)) (hM : ∀ y w t, R1 y w t → zEv sc 201 (d - 1) 0 (zloc zm201 [.ref 79]) [] (zmk w t) 0 0 (zPi fun b w' t' => y = b ∧ INV w' t')) (k : ∀ w t y5 y6, INV w t → zEv sc 234 d 1479 [.ref 3000, .ref 0, .ref 79, .ref 118, .int (zI i), y5, y6] [] (zmk w t) (kc + 0) (ks + 0) Q) : zEv sc 234 d 1202 [.ref 3000, .ref 0, .ref 79, .ref 118, .int (zI i), x5, x6] [] (zmk v u) kc ks Q := by
  refine e_al1 o234_1202 ?_
  refine e_V (as := []) o234_1203 K234 K102 (decide_eq_true ⟨by decide, rfl, rfl, Nat.le_of_ble_eq_true rfl, rfl, Nat.le_of_ble_eq_true rfl, by show kc + 0 ≤ 601024; omega, by show ks + 0 ≤ 7293034; omega⟩) (zrcv_I L0 rfl) (by omega) rfl rfl hC (zaf_I rfl rfl ?_)
  intro y w t h1
  refine e_al2 o234_1206 ?_
  refine e_V (as := []) o234_1207 K234 K201 (decide_eq_true ⟨by decide, rfl, rfl, Nat.le_of_ble_eq_true rfl, rfl, Nat.le_of_ble_eq_true rfl, by show kc + 0 + 0 ≤ 601024; omega, by show ks + 0 + 0 ≤ 7293034; omega⟩) (zrcv_I L79 rfl) (by omega) rfl rfl (hM y w t h1) (zaf_I rfl rfl ?_)
  rintro b w' t' ⟨rfl, hI⟩
  exact e_ir_eq o234_1210 1479 rfl (fun _ => k w' t' _ _ hI) (fun z => absurd rfl z)

theorem seg19 {i : Int} {x5 x6 : Value} {R1 : Int32 → zV → zU → Prop} (hd : 2 ≤ d) (i0 : 0 ≤ i) (i1 : i + 6 ≤ (sc.1 : Int)) (hn : sc.1 ≤ 60000) (hk : kc + 100 ≤ 601024) (hs : ks + 600 ≤ 7293034) (hC : zEv sc 223 (d - 1) 0 ([.ref 0, .int (sc.2 (i + 1).toNat), .ref 118, zJ]) [] (zmk v u) 0 0 (zPi R1)) (hM : ∀ y w t, R1 y w t → zEv sc 202 (d - 1) 0 (zloc zm202 [.ref 79, .int (sc.2 (i + 1).toNat)]) [] (zmk w t) 0 0 (zPi fun b w' t' => Gd y b w' t')) (k : ∀ w t y5 y6, INV w t → zEv sc 234 d 1479 [.ref 3000, .ref 0, .ref 79, .ref 118, .int (zI i), y5, y6] [] (zmk w t) (kc + 1) (ks + 6) Q) : zEv sc 234 d 1215 [.ref 3000, .ref 0, .ref 79, .ref 118, .int (zI i), x5, x6] [] (zmk v u) kc ks Q := by
  refine e_al1 o234_1215 (e_al0 o234_1216 (e_il4 o234_1217 (e_ico o234_1219 (e_add o234_1220 (e_sal o234_1221 (by omega) (by omega) (by omega) (e_al3 o234_1222 ?_))))))
  refine e_S (as := [.ref 0, .int (sc.2 (i + 1).toNat), .ref 118]) o234_1223 K234 K223 (decide_eq_true ⟨by decide, rfl, Nat.le_of_ble_eq_true rfl, rfl, Nat.le_of_ble_eq_true rfl, by show kc + 1 ≤ 601024; omega, by show ks + 6 ≤ 7293034; omega⟩) (by omega) rfl rfl hC (zaf_I rfl rfl ?_)
  intro y w t h1
  refine e_is5 o234_1226 (e_al2 o234_1228 (e_al0 o234_1229 (e_il4 o234_1230 (e_ico o234_1232 (e_add o234_1233 (e_sal o234_1234 (by omega) (by omega) (by omega) ?_))))))
  refine e_V (as := [.int (sc.2 (i + 1).toNat)]) o234_1235 K234 K202 (decide_eq_true ⟨by decide, rfl, rfl, Nat.le_of_ble_eq_true rfl, rfl, Nat.le_of_ble_eq_true rfl, by show kc + 1 + 0 ≤ 601024; omega, by show ks + 6 + 0 ≤ 7293034; omega⟩) (zrcv_I L79 rfl) (by omega) rfl rfl (hM y w t h1) (zaf_I rfl rfl ?_)
  rintro b w' t' ⟨⟨kk, rfl, kr, h2, h3⟩, hI⟩
  refine e_is6 o234_1238 (e_al2 o234_1240 ?_)
  refine e_V (as := []) o234_1241 K234 K130 (decide_eq_true ⟨by decide, rfl, rfl, Nat.le_of_ble_eq_true rfl, rfl, Nat.le_of_ble_eq_true rfl, by show kc + 1 + 0 + 0 ≤ 601024; omega, by show ks + 6 + 0 + 0 ≤ 7293034; omega⟩) (zrcv_I L79 rfl) (by omega) rfl rfl m130 (zaf_I rfl rfl ?_)
  rintro _ _ _ ⟨rfl, rfl, rfl⟩
  rw [zI_g, h2]
  refine e_il5 o234_1244 ?_
  refine e_ic_eq o234_1246 1251 rfl (by omega) (by omega) (fun _ => ?_) (fun z => absurd rfl z)
  refine e_il5 o234_1251 ?_
  by_cases hk0 : kk = 0
  · subst hk0
    refine e_if_ne o234_1253 1268 rfl (by omega) (fun z => absurd rfl z) (fun _ => ?_)
    refine e_al3 o234_1256 (e_ico o234_1257 (e_lal o234_1258 L118 (by omega) (by omega) (e_il6 o234_1259 (e_i2l o234_1261 (e_lcmp o234_1262 ?_)))))
    rw [h3 rfl, lg_same]
    exact e_if_eq o234_1263 1268 rfl (by omega) (fun _ => e_goto o234_1268 1479 rfl (k w' t' _ _ hI)) (fun z => absurd rfl z)
  · exact e_if_ne o234_1253 1268 rfl (by omega) (fun _ => e_goto o234_1268 1479 rfl (k w' t' _ _ hI)) (fun z => absurd z hk0)

theorem seg20 {i : Int} {x5 x6 : Value} {R1 : Int32 → zV → zU → Prop} (hd : 2 ≤ d) (i0 : 0 ≤ i) (i1 : i + 6 ≤ (sc.1 : Int)) (hn : sc.1 ≤ 60000) (hk : kc + 100 ≤ 601024) (hs : ks + 600 ≤ 7293034) (hC : zEv sc 224 (d - 1) 0 ([.ref 0, .int (sc.2 (i + 1).toNat), .int (sc.2 (i + 2).toNat), .int (sc.2 (i + 3).toNat), .int (sc.2 (i + 4).toNat), .int (sc.2 (i + 5).toNat), .ref 118, zJ]) [] (zmk v u) 0 0 (zPi R1)) (hM : ∀ y w t, R1 y w t → zEv sc 203 (d - 1) 0 (zloc zm203 [.ref 79, .int (sc.2 (i + 1).toNat), .int (sc.2 (i + 2).toNat), .int (sc.2 (i + 3).toNat), .int (sc.2 (i + 4).toNat), .int (sc.2 (i + 5).toNat)]) [] (zmk w t) 0 0 (zPi fun b w' t' => Gd y b w' t')) (k : ∀ w t y5 y6, INV w t → zEv sc 234 d 1479 [.ref 3000, .ref 0, .ref 79, .ref 118, .int (zI i), y5, y6] [] (zmk w t) (kc + 4) (ks + 24) Q) : zEv sc 234 d 1271 [.ref 3000, .ref 0, .ref 79, .ref 118, .int (zI i), x5, x6] [] (zmk v u) kc ks Q := by
  refine e_al1 o234_1271 (e_al0 o234_1272 (e_il4 o234_1273 (e_ico o234_1275 (e_add o234_1276 (e_sal o234_1277 (by omega) (by omega) (by omega) (e_al0 o234_1278 (e_il4 o234_1279 (e_ico o234_1281 (e_add o234_1282 (e_sal o234_1283 (by omega) (by omega) (by omega) (e_al0 o234_1284 (e_il4 o234_1285 (e_ico o234_1287 (e_add o234_1288 (e_sal o234_1289 (by omega) (by omega) (by omega) (e_al0 o234_1290 (e_il4 o234_1291 (e_ico o234_1293 (e_add o234_1294 (e_sal o234_1295 (by omega) (by omega) (by omega) (e_al0 o234_1296 (e_il4 o234_1297 (e_ico o234_1299 (e_add o234_1300 (e_sal o234_1301 (by omega) (by omega) (by omega) (e_al3 o234_1302 ?_))))))))))))))))))))))))))
  refine e_S (as := [.ref 0, .int (sc.2 (i + 1).toNat), .int (sc.2 (i + 2).toNat), .int (sc.2 (i + 3).toNat), .int (sc.2 (i + 4).toNat), .int (sc.2 (i + 5).toNat), .ref 118]) o234_1303 K234 K224 (decide_eq_true ⟨by decide, rfl, Nat.le_of_ble_eq_true rfl, rfl, Nat.le_of_ble_eq_true rfl, by show kc + 4 ≤ 601024; omega, by show ks + 24 ≤ 7293034; omega⟩) (by omega) rfl rfl hC (zaf_I rfl rfl ?_)
  intro y w t h1
  refine e_is5 o234_1306 (e_al2 o234_1308 (e_al0 o234_1309 (e_il4 o234_1310 (e_ico o234_1312 (e_add o234_1313 (e_sal o234_1314 (by omega) (by omega) (by omega) (e_al0 o234_1315 (e_il4 o234_1316 (e_ico o234_1318 (e_add o234_1319 (e_sal o234_1320 (by omega) (by omega) (by omega) (e_al0 o234_1321 (e_il4 o234_1322 (e_ico o234_1324 (e_add o234_1325 (e_sal o234_1326 (by omega) (by omega) (by omega) (e_al0 o234_1327 (e_il4 o234_1328 (e_ico o234_1330 (e_add o234_1331 (e_sal o234_1332 (by omega) (by omega) (by omega) (e_al0 o234_1333 (e_il4 o234_1334 (e_ico o234_1336 (e_add o234_1337 (e_sal o234_1338 (by omega) (by omega) (by omega) ?_))))))))))))))))))))))))))
  refine e_V (as := [.int (sc.2 (i + 1).toNat), .int (sc.2 (i + 2).toNat), .int (sc.2 (i + 3).toNat), .int (sc.2 (i + 4).toNat), .int (sc.2 (i + 5).toNat)]) o234_1339 K234 K203 (decide_eq_true ⟨by decide, rfl, rfl, Nat.le_of_ble_eq_true rfl, rfl, Nat.le_of_ble_eq_true rfl, by show kc + 4 + 0 ≤ 601024; omega, by show ks + 24 + 0 ≤ 7293034; omega⟩) (zrcv_I L79 rfl) (by omega) rfl rfl (hM y w t h1) (zaf_I rfl rfl ?_)
  rintro b w' t' ⟨⟨kk, rfl, kr, h2, h3⟩, hI⟩
  refine e_is6 o234_1342 (e_al2 o234_1344 ?_)
  refine e_V (as := []) o234_1345 K234 K130 (decide_eq_true ⟨by decide, rfl, rfl, Nat.le_of_ble_eq_true rfl, rfl, Nat.le_of_ble_eq_true rfl, by show kc + 4 + 0 + 0 ≤ 601024; omega, by show ks + 24 + 0 + 0 ≤ 7293034; omega⟩) (zrcv_I L79 rfl) (by omega) rfl rfl m130 (zaf_I rfl rfl ?_)
  rintro _ _ _ ⟨rfl, rfl, rfl⟩
  rw [zI_g, h2]
  refine e_il5 o234_1348 ?_
  refine e_ic_eq o234_1350 1355 rfl (by omega) (by omega) (fun _ => ?_) (fun z => absurd rfl z)
  refine e_il5 o234_1355 ?_
  by_cases hk0 : kk = 0
  · subst hk0
    refine e_if_ne o234_1357 1372 rfl (by omega) (fun z => absurd rfl z) (fun _ => ?_)
    refine e_al3 o234_1360 (e_ico o234_1361 (e_lal o234_1362 L118 (by omega) (by omega) (e_il6 o234_1363 (e_i2l o234_1365 (e_lcmp o234_1366 ?_)))))
    rw [h3 rfl, lg_same]
    exact e_if_eq o234_1367 1372 rfl (by omega) (fun _ => e_goto o234_1372 1479 rfl (k w' t' _ _ hI)) (fun z => absurd rfl z)
  · exact e_if_ne o234_1357 1372 rfl (by omega) (fun _ => e_goto o234_1372 1479 rfl (k w' t' _ _ hI)) (fun z => absurd z hk0)

theorem seg21 {i : Int} {x5 x6 : Value} {R1 : Int32 → zV → zU → Prop} (hd : 2 ≤ d) (i0 : 0 ≤ i) (i1 : i + 6 ≤ (sc.1 : Int)) (hn : sc.1 ≤ 60000) (hk : kc + 100 ≤ 601024) (hs : ks + 600 ≤ 7293034) (hC : zEv sc 225 (d - 1) 0 ([.ref 0, .int (sc.2 (i + 1).toNat), .int (sc.2 (i + 2).toNat), .int (sc.2 (i + 3).toNat), .ref 118, zJ]) [] (zmk v u) 0 0 (zPi R1)) (hM : ∀ y w t, R1 y w t → zEv sc 205 (d - 1) 0 (zloc zm205 [.ref 79, .int (sc.2 (i + 1).toNat), .int (sc.2 (i + 2).toNat), .int (sc.2 (i + 3).toNat)]) [] (zmk w t) 0 0 (zPi fun b w' t' => Gd y b w' t')) (k : ∀ w t y5 y6, INV w t → zEv sc 234 d 1479 [.ref 3000, .ref 0, .ref 79, .ref 118, .int (zI i), y5, y6] [] (zmk w t) (kc + 2) (ks + 12) Q) : zEv sc 234 d 1375 [.ref 3000, .ref 0, .ref 79, .ref 118, .int (zI i), x5, x6] [] (zmk v u) kc ks Q := by
  refine e_al1 o234_1375 (e_al0 o234_1376 (e_il4 o234_1377 (e_ico o234_1379 (e_add o234_1380 (e_sal o234_1381 (by omega) (by omega) (by omega) (e_al0 o234_1382 (e_il4 o234_1383 (e_ico o234_1385 (e_add o234_1386 (e_sal o234_1387 (by omega) (by omega) (by omega) (e_al0 o234_1388 (e_il4 o234_1389 (e_ico o234_1391 (e_add o234_1392 (e_sal o234_1393 (by omega) (by omega) (by omega) (e_al3 o234_1394 ?_))))))))))))))))
  refine e_S (as := [.ref 0, .int (sc.2 (i + 1).toNat), .int (sc.2 (i + 2).toNat), .int (sc.2 (i + 3).toNat), .ref 118]) o234_1395 K234 K225 (decide_eq_true ⟨by decide, rfl, Nat.le_of_ble_eq_true rfl, rfl, Nat.le_of_ble_eq_true rfl, by show kc + 2 ≤ 601024; omega, by show ks + 12 ≤ 7293034; omega⟩) (by omega) rfl rfl hC (zaf_I rfl rfl ?_)
  intro y w t h1
  refine e_is5 o234_1398 (e_al2 o234_1400 (e_al0 o234_1401 (e_il4 o234_1402 (e_ico o234_1404 (e_add o234_1405 (e_sal o234_1406 (by omega) (by omega) (by omega) (e_al0 o234_1407 (e_il4 o234_1408 (e_ico o234_1410 (e_add o234_1411 (e_sal o234_1412 (by omega) (by omega) (by omega) (e_al0 o234_1413 (e_il4 o234_1414 (e_ico o234_1416 (e_add o234_1417 (e_sal o234_1418 (by omega) (by omega) (by omega) ?_))))))))))))))))
  refine e_V (as := [.int (sc.2 (i + 1).toNat), .int (sc.2 (i + 2).toNat), .int (sc.2 (i + 3).toNat)]) o234_1419 K234 K205 (decide_eq_true ⟨by decide, rfl, rfl, Nat.le_of_ble_eq_true rfl, rfl, Nat.le_of_ble_eq_true rfl, by show kc + 2 + 0 ≤ 601024; omega, by show ks + 12 + 0 ≤ 7293034; omega⟩) (zrcv_I L79 rfl) (by omega) rfl rfl (hM y w t h1) (zaf_I rfl rfl ?_)
  rintro b w' t' ⟨⟨kk, rfl, kr, h2, h3⟩, hI⟩
  refine e_is6 o234_1422 (e_al2 o234_1424 ?_)
  refine e_V (as := []) o234_1425 K234 K130 (decide_eq_true ⟨by decide, rfl, rfl, Nat.le_of_ble_eq_true rfl, rfl, Nat.le_of_ble_eq_true rfl, by show kc + 2 + 0 + 0 ≤ 601024; omega, by show ks + 12 + 0 + 0 ≤ 7293034; omega⟩) (zrcv_I L79 rfl) (by omega) rfl rfl m130 (zaf_I rfl rfl ?_)
  rintro _ _ _ ⟨rfl, rfl, rfl⟩
  rw [zI_g, h2]
  refine e_il5 o234_1428 ?_
  refine e_ic_eq o234_1430 1435 rfl (by omega) (by omega) (fun _ => ?_) (fun z => absurd rfl z)
  refine e_il5 o234_1435 ?_
  by_cases hk0 : kk = 0
  · subst hk0
    refine e_if_ne o234_1437 1452 rfl (by omega) (fun z => absurd rfl z) (fun _ => ?_)
    refine e_al3 o234_1440 (e_ico o234_1441 (e_lal o234_1442 L118 (by omega) (by omega) (e_il6 o234_1443 (e_i2l o234_1445 (e_lcmp o234_1446 ?_)))))
    rw [h3 rfl, lg_same]
    exact e_if_eq o234_1447 1452 rfl (by omega) (fun _ => e_goto o234_1452 1479 rfl (k w' t' _ _ hI)) (fun z => absurd rfl z)
  · exact e_if_ne o234_1437 1452 rfl (by omega) (fun _ => e_goto o234_1452 1479 rfl (k w' t' _ _ hI)) (fun z => absurd z hk0)

theorem seg22 {i : Int} {x5 x6 : Value} {R1 : zV → zU → Prop} (hd : 2 ≤ d) (i0 : 0 ≤ i) (i1 : i + 6 ≤ (sc.1 : Int)) (hn : sc.1 ≤ 60000) (hk : kc + 100 ≤ 601024) (hs : ks + 600 ≤ 7293034) (hC : zEv sc 104 (d - 1) 0 (zloc zm104 [.ref 0]) [] (zmk v u) 0 0 (zPv R1)) (hM : ∀ w t, R1 w t → zEv sc 207 (d - 1) 0 (zloc zm207 [.ref 79]) [] (zmk w t) 0 0 (zPv fun w' t' => INV w' t')) (k : ∀ w t y5 y6, INV w t → zEv sc 234 d 1479 [.ref 3000, .ref 0, .ref 79, .ref 118, .int (zI i), y5, y6] [] (zmk w t) (kc + 0) (ks + 0) Q) : zEv sc 234 d 1455 [.ref 3000, .ref 0, .ref 79, .ref 118, .int (zI i), x5, x6] [] (zmk v u) kc ks Q := by
  refine e_al1 o234_1455 ?_
  refine e_V (as := []) o234_1456 K234 K104 (decide_eq_true ⟨by decide, rfl, rfl, Nat.le_of_ble_eq_true rfl, rfl, Nat.le_of_ble_eq_true rfl, by show kc + 0 ≤ 601024; omega, by show ks + 0 ≤ 7293034; omega⟩) (zrcv_I L0 rfl) (by omega) rfl rfl hC (zaf_V rfl rfl ?_)
  intro w t h1
  refine e_al2 o234_1459 ?_
  refine e_V (as := []) o234_1460 K234 K207 (decide_eq_true ⟨by decide, rfl, rfl, Nat.le_of_ble_eq_true rfl, rfl, Nat.le_of_ble_eq_true rfl, by show kc + 0 + 0 ≤ 601024; omega, by show ks + 0 + 0 ≤ 7293034; omega⟩) (zrcv_I L79 rfl) (by omega) rfl rfl (hM w t h1) (zaf_V rfl rfl ?_)
  intro w' t' hI
  exact e_goto o234_1463 1479 rfl (k w' t' _ _ hI)

theorem seg23 {i : Int} {x5 x6 : Value} {R1 : Int32 → zV → zU → Prop} (hd : 2 ≤ d) (i0 : 0 ≤ i) (i1 : i + 6 ≤ (sc.1 : Int)) (hn : sc.1 ≤ 60000) (hk : kc + 100 ≤ 601024) (hs : ks + 600 ≤ 7293034) (hC : zEv sc 105 (d - 1) 0 (zloc zm105 [.ref 0]) [] (zmk v u) 0 0 (zPi R1)) (hM : ∀ y w t, R1 y w t → zEv sc 208 (d - 1) 0 (zloc zm208 [.ref 79]) [] (zmk w t) 0 0 (zPi fun b w' t' => y = b ∧ INV w' t')) (k : ∀ w t y5 y6, INV w t → zEv sc 234 d 1479 [.ref 3000, .ref 0, .ref 79, .ref 118, .int (zI i), y5, y6] [] (zmk w t) (kc + 0) (ks + 0) Q) : zEv sc 234 d 1466 [.ref 3000, .ref 0, .ref 79, .ref 118, .int (zI i), x5, x6] [] (zmk v u) kc ks Q := by
  refine e_al1 o234_1466 ?_
  refine e_V (as := []) o234_1467 K234 K105 (decide_eq_true ⟨by decide, rfl, rfl, Nat.le_of_ble_eq_true rfl, rfl, Nat.le_of_ble_eq_true rfl, by show kc + 0 ≤ 601024; omega, by show ks + 0 ≤ 7293034; omega⟩) (zrcv_I L0 rfl) (by omega) rfl rfl hC (zaf_I rfl rfl ?_)
  intro y w t h1
  refine e_al2 o234_1470 ?_
  refine e_V (as := []) o234_1471 K234 K208 (decide_eq_true ⟨by decide, rfl, rfl, Nat.le_of_ble_eq_true rfl, rfl, Nat.le_of_ble_eq_true rfl, by show kc + 0 + 0 ≤ 601024; omega, by show ks + 0 + 0 ≤ 7293034; omega⟩) (zrcv_I L79 rfl) (by omega) rfl rfl (hM y w t h1) (zaf_I rfl rfl ?_)
  rintro b w' t' ⟨rfl, hI⟩
  exact e_ir_eq o234_1474 1479 rfl (fun _ => k w' t' _ _ hI) (fun z => absurd rfl z)

end
