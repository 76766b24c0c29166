/-! world: the reference -/
def zhf (v : zV) (a : Nat) (m : Int) : zV := fun c k => if c = a ∧ 0 ≤ k ∧ k < m then v a (m + k) else v c k
def MW0 (v : zV) : zV := zhf (zhf (zhf (zhf (zhf (zhf (zhf (zhf (zhf v 82 4) 83 6) 84 6) 85 40) 86 40) 87 5) 88 5) 89 5) 90 600
section
variable {sc : Nat × (Nat → Int32)} {d : Nat} {v w : zV} {u : zU} {D : Dr}
theorem m160 {a n : Nat} (ha : zLay[a]? = some (0, n, [])) (m : Nat) (hm : n = 2 * m) : zEv sc 160 d 0 [.ref a, zJ] [] (zmk v u) 0 0 (zdo (zhf v a m) u) := by
  have hz : n ≤ 60000 := zLay_n ha (by simp)
  have hdv : ((n : Nat) : Int) / 2 = m := by omega
  have loop : ∀ k, 0 ≤ k → k ≤ (m : Int) → zEv sc 160 d 2 [.ref a, .int (zI k)] [] (zmk (fun c q => if c = a ∧ 0 ≤ q ∧ q < k then v a (m + q) else v c q) u) 0 0 (zdo (zhf v a m) u) := by
    refine zloop ?_
    intro k k0 k1 ih
    have e : zg (fun c q => if c = a ∧ 0 ≤ q ∧ q < k then v a (m + q) else v c q) a (m + k) = zg v a (m + k) := by
      simp only [zg]; rw [if_neg (by omega)]
    refine e_il1 o160_2 (e_al0 o160_3 (e_len o160_4 ha (e_ico o160_5 (e_div o160_6 (by omega) (by omega) ?_))))
    rw [hdv]
    refine e_ic_ge o160_7 27 rfl (by first | exact zg_rg _ _ _ | exact zt_rg _ | omega) (by first | exact zg_rg _ _ _ | exact zt_rg _ | omega) (fun hb7 => ?_) (fun hb7 => ?_)
    · refine e_rV o160_27 K160 rfl rfl ?_
      have e : k = m := by omega
      subst e
      exact ⟨rfl, rfl⟩
    · refine e_al0 o160_10 (e_il1 o160_11 (e_al0 o160_12 (e_al0 o160_13 (e_len o160_14 ha (e_ico o160_15 (e_div o160_16 (by omega) (by omega) (e_il1 o160_17 ?_)))))))
      rw [hdv]
      refine e_add o160_18 (e_ial o160_19 ha (by omega) (by omega) ?_)
      rw [e]
      refine e_iast o160_20 ha (by omega) (by omega) (e_inc1 o160_21 (e_goto o160_24 2 rfl ?_))
      refine zEv_w (ih (by omega)) ?_
      funext c q
      simp only [zu]
      by_cases e : c = a ∧ q = k
      · rw [if_pos ⟨e.1, by omega, by omega⟩, if_pos e, zI_g, e.2]
      · by_cases e2 : c = a ∧ 0 ≤ q ∧ q < k
        · rw [if_pos ⟨e2.1, by omega, by omega⟩, if_neg e, if_pos e2]
        · rw [if_neg (fun z => e2 ⟨z.1, z.2.1, by have : ¬ q = k := fun y => e ⟨z.1, y⟩; omega⟩), if_neg e, if_neg e2]
  refine e_ico o160_0 (e_is1 o160_1 ?_)
  refine zEv_w (loop 0 (by omega) (by omega)) ?_
  funext c q
  rw [if_neg (by omega)]
/-- the reference's told world is D -/
def MT (D : Dr) (w : zV) : Prop := (zg w 82 0 = D.np ∧ zg w 82 1 = D.ns ∧ zg w 82 2 = D.nk ∧ zg w 82 3 = D.L.length) ∧ (∀ i, 0 ≤ i → i < D.np → zg w 83 i = D.need i ∧ zg w 84 i = D.weight i) ∧ (∀ i, 0 ≤ i → i < D.ns → zg w 85 i = D.origin i ∧ zg w 86 i = D.square i) ∧ (∀ i, 0 ≤ i → i < D.nk → zg w 87 i = D.kind i ∧ zg w 88 i = D.hold i ∧ zg w 89 i = D.home i) ∧ ∀ i : Nat, i < D.L.length → zg w 90 i = enc (D.L.getD i 0)
theorem MW0_fr : ∀ a q, ¬ (82 ≤ a ∧ a ≤ 90) → MW0 v a q = v a q := fun a q h => by simp only [MW0, zhf]; rw [if_neg (by omega), if_neg (by omega), if_neg (by omega), if_neg (by omega), if_neg (by omega), if_neg (by omega), if_neg (by omega), if_neg (by omega), if_neg (by omega)]
theorem MT_of (hB : DB D) (hD : MD D v) : MT D (MW0 v) := by
  obtain ⟨a1, a2, a3, a4, a5, a6, a7⟩ := hB
  have g82 : ∀ i, 0 ≤ i → i < 4 → MW0 v 82 i = v 82 (4 + i) := fun i h0 h1 => by simp [MW0, zhf, h0, h1]
  have g83 : ∀ i, 0 ≤ i → i < 6 → MW0 v 83 i = v 83 (6 + i) ∧ MW0 v 84 i = v 84 (6 + i) := fun i h0 h1 => by constructor <;> simp [MW0, zhf, h0, h1]
  have g85 : ∀ i, 0 ≤ i → i < 40 → MW0 v 85 i = v 85 (40 + i) ∧ MW0 v 86 i = v 86 (40 + i) := fun i h0 h1 => by constructor <;> simp [MW0, zhf, h0, h1]
  have g87 : ∀ i, 0 ≤ i → i < 5 → MW0 v 87 i = v 87 (5 + i) ∧ MW0 v 88 i = v 88 (5 + i) ∧ MW0 v 89 i = v 89 (5 + i) := fun i h0 h1 => by refine ⟨?_, ?_, ?_⟩ <;> simp [MW0, zhf, h0, h1]
  have g90 : ∀ i, 0 ≤ i → i < 600 → MW0 v 90 i = v 90 (600 + i) := fun i h0 h1 => by simp [MW0, zhf, h0, h1]
  refine ⟨⟨?_, ?_, ?_, ?_⟩, fun i i0 i1 => ?_, fun i i0 i1 => ?_, fun i i0 i1 => ?_, fun i hi => ?_⟩
  · simp only [zg]; rw [g82 0 (by omega) (by omega)]; exact hD.1.1
  · simp only [zg]; rw [g82 1 (by omega) (by omega)]; exact hD.1.2.1
  · simp only [zg]; rw [g82 2 (by omega) (by omega)]; exact hD.1.2.2
  · simp only [zg]; rw [g82 3 (by omega) (by omega)]; exact hD.2.2.2.2.1
  · simp only [zg]; rw [(g83 i i0 (by omega)).1, (g83 i i0 (by omega)).2]; exact hD.2.1 i i0 i1
  · simp only [zg]; rw [(g85 i i0 (by omega)).1, (g85 i i0 (by omega)).2]; exact hD.2.2.1 i i0 i1
  · simp only [zg]; rw [(g87 i i0 (by omega)).1, (g87 i i0 (by omega)).2.1, (g87 i i0 (by omega)).2.2]; exact hD.2.2.2.1 i i0 i1
  · simp only [zg]; rw [g90 i (by omega) (by omega)]; exact hD.2.2.2.2.2 i hi
/-- the rows of the reference behind a new world -/
def MN (D : Dr) (v w : zV) : Prop := (∀ a q, ¬ (82 ≤ a ∧ a ≤ 90) → ¬ a = 93 → ¬ (a = 79 ∧ ((30 ≤ q ∧ q ≤ 33) ∨ q = 44 ∨ q = 49)) → w a q = v a q) ∧ MT D w ∧ (zg w 79 30 = 0 ∧ zg w 79 31 = 0 ∧ zg w 79 32 = 0 ∧ zg w 79 33 = 0 ∧ zg w 79 44 = -1 ∧ zg w 79 49 = 0) ∧ (∀ s, 0 ≤ s → s < D.ns → zg w 93 s = D.origin s ∧ zg w 93 (80 + s) = -1 ∧ w 93 (120 + s) = 1 <<< (zI (D.origin s) &&& 31) ∧ zg w 93 (40 + s) = cnt D.origin (D.origin s) s) ∧ (∀ p, 0 ≤ p → p < 6 → zg w 93 (160 + p) = 10) ∧ ∀ i, 0 ≤ i → i < D.nk → zg w 93 (166 + i) = D.home i
theorem m159 (hd : 2 ≤ d) (hB : DB D) (hD : MD D v) : zEv sc 159 d 0 [.ref 79, zJ, zJ] [] (zmk v u) 0 0 (zPv fun w t => MN D v w ∧ u = t) := by
  obtain ⟨a1, a2, a3, a4, a5, a6, a7⟩ := id hB
  have hMT := MT_of hB hD
  obtain ⟨v1, hv1⟩ : ∃ v1, v1 = zu (zu (zu (zu (zu (zu (MW0 v) 79 30 (zI 0)) 79 31 (zI 0)) 79 32 (zI 0)) 79 33 (zI 0)) 79 44 (zI (-1))) 79 49 (zI 0) := ⟨_, rfl⟩
  have f1 : ∀ a q, ¬ (82 ≤ a ∧ a ≤ 90) → ¬ (a = 79 ∧ ((30 ≤ q ∧ q ≤ 33) ∨ q = 44 ∨ q = 49)) → v1 a q = v a q := fun a q h1 h2 => by
    rw [hv1, zu_ne (by omega), zu_ne (by omega), zu_ne (by omega), zu_ne (by omega), zu_ne (by omega), zu_ne (by omega), MW0_fr a q h1]
  have t1 : ∀ a q, ¬ a = 79 → v1 a q = MW0 v a q := fun a q h => by
    rw [hv1, zu_ne (by omega), zu_ne (by omega), zu_ne (by omega), zu_ne (by omega), zu_ne (by omega), zu_ne (by omega)]
  have c79 : zg v1 79 30 = 0 ∧ zg v1 79 31 = 0 ∧ zg v1 79 32 = 0 ∧ zg v1 79 33 = 0 ∧ zg v1 79 44 = -1 ∧ zg v1 79 49 = 0 := by
    rw [hv1]
    refine ⟨?_, ?_, ?_, ?_, ?_, ?_⟩
    · rw [zg_ne (by omega), zg_ne (by omega), zg_ne (by omega), zg_ne (by omega), zg_ne (by omega), zg_same (by omega)]
    · rw [zg_ne (by omega), zg_ne (by omega), zg_ne (by omega), zg_ne (by omega), zg_same (by omega)]
    · rw [zg_ne (by omega), zg_ne (by omega), zg_ne (by omega), zg_same (by omega)]
    · rw [zg_ne (by omega), zg_ne (by omega), zg_same (by omega)]
    · rw [zg_ne (by omega), zg_same (by omega)]
    · rw [zg_same (by omega)]
  have tg : ∀ a, ¬ a = 79 → zg v1 a = zg (MW0 v) a := fun a h => zg_fn fun q => t1 a q h
  have hMT1 : MT D v1 := by
    unfold MT at hMT ⊢
    rw [tg 82 (by decide), tg 83 (by decide), tg 84 (by decide), tg 85 (by decide), tg 86 (by decide), tg 87 (by decide), tg 88 (by decide), tg 89 (by decide), tg 90 (by decide)]
    exact hMT
  -- what is done to the row
  have fr : ∀ w, (∀ a q, ¬ a = 93 → w a q = v1 a q) → ∀ a, ¬ a = 93 → zg w a = zg v1 a := fun w h a ha => zg_fn fun q => h a q ha
  have ships : ∀ k, 0 ≤ k → k ≤ D.nk → ∀ w x2, (∀ a q, ¬ a = 93 → w a q = v1 a q) → (∀ s, 0 ≤ s → s < D.ns → zg w 93 s = D.origin s ∧ zg w 93 (80 + s) = -1 ∧ w 93 (120 + s) = 1 <<< (zI (D.origin s) &&& 31) ∧ zg w 93 (40 + s) = cnt D.origin (D.origin s) s) → (∀ p, 0 ≤ p → p < 6 → zg w 93 (160 + p) = 10) → (∀ i, 0 ≤ i → i < k → zg w 93 (166 + i) = D.home i) → zEv sc 159 d 233 [.ref 79, .int (zI k), x2] [] (zmk w u) 0 0 (zPv fun w t => MN D v w ∧ u = t) := by
    refine zloop ?_
    intro k k0 k1 ih w x2 hf hs hp hi
    have z82 : zg w 82 2 = D.nk := by rw [fr w hf 82 (by decide)]; exact hMT1.1.2.2.1
    have z89 : k < D.nk → zg w 89 k = D.home k := fun h => by rw [fr w hf 89 (by decide)]; exact (hMT1.2.2.2.1 k k0 h).2.2
    refine e_il1 o159_233 (e_al0 o159_234 (e_gR o159_235 L79 rfl rfl (e_ico o159_238 (e_ial o159_239 L82 (by omega) (by omega) ?_))))
    rw [z82]
    refine e_ic_ge o159_240 265 rfl (by first | exact zg_rg _ _ _ | exact zt_rg _ | omega) (by first | exact zg_rg _ _ _ | exact zt_rg _ | omega) (fun hb240 => ?_) (fun hb240 => ?_)
    · refine e_rV o159_265 K159 rfl rfl ?_
      have ek : k = D.nk := by omega
      refine ⟨⟨fun a q h1 h2 h3 => by rw [hf a q h2, f1 a q h1 h3], ?_, ?_, hs, hp, by rw [← ek]; exact hi⟩, rfl⟩
      · unfold MT at hMT1 ⊢
        rw [fr w hf 82 (by decide), fr w hf 83 (by decide), fr w hf 84 (by decide), fr w hf 85 (by decide), fr w hf 86 (by decide), fr w hf 87 (by decide), fr w hf 88 (by decide), fr w hf 89 (by decide), fr w hf 90 (by decide)]
        exact hMT1
      · rw [fr w hf 79 (by decide)]; exact c79
    · refine e_al0 o159_243 (e_gR o159_244 L79 rfl rfl (e_sip o159_247 rfl (e_il1 o159_250 (e_add o159_251 (e_al0 o159_252 (e_gR o159_253 L79 rfl rfl (e_il1 o159_256 (e_ial o159_257 L89 (by omega) (by omega) ?_))))))))
      rw [z89 (by omega)]
      refine e_iast o159_258 L93 (by omega) (by omega) (e_inc1 o159_259 (e_goto o159_262 233 rfl ?_))
      refine ih (by omega) _ _ (fun a q h => by rw [zu_ne (by omega), hf a q h]) (fun s s0 s1 => ?_) (fun p p0 p1 => by rw [zg_ne (by omega)]; exact hp p p0 p1) (fun i i0 i1 => ?_)
      · rw [zg_ne (by omega), zg_ne (by omega), zu_ne (by omega), zg_ne (by omega)]; exact hs s s0 s1
      · by_cases e : i = k
        · have hm := a6 k k0 (by omega)
          rw [e, zg_same (by omega)]
        · rw [zg_ne (by omega)]; exact hi i i0 (by omega)
  have prices : ∀ k, 0 ≤ k → k ≤ (6 : Int) → ∀ w x2, (∀ a q, ¬ a = 93 → w a q = v1 a q) → (∀ s, 0 ≤ s → s < D.ns → zg w 93 s = D.origin s ∧ zg w 93 (80 + s) = -1 ∧ w 93 (120 + s) = 1 <<< (zI (D.origin s) &&& 31) ∧ zg w 93 (40 + s) = cnt D.origin (D.origin s) s) → (∀ p, 0 ≤ p → p < k → zg w 93 (160 + p) = 10) → zEv sc 159 d 207 [.ref 79, .int (zI k), x2] [] (zmk w u) 0 0 (zPv fun w t => MN D v w ∧ u = t) := by
    refine zloop ?_
    intro k k0 k1 ih w x2 hf hs hp
    refine e_il1 o159_207 (e_bip o159_208 rfl (e_ic_ge o159_210 231 rfl (by first | exact zg_rg _ _ _ | exact zt_rg _ | omega) (by first | exact zg_rg _ _ _ | exact zt_rg _ | omega) (fun hb210 => ?_) (fun hb210 => ?_)))
    · refine e_ico o159_231 (e_is1 o159_232 ?_)
      exact ships 0 (by omega) a3.1 w _ hf hs (fun p p0 p1 => hp p p0 (by omega)) (fun i i0 i1 => by omega)
    · refine e_al0 o159_213 (e_gR o159_214 L79 rfl rfl (e_sip o159_217 rfl (e_il1 o159_220 (e_add o159_221 (e_bip o159_222 rfl (e_iast o159_224 L93 (by omega) (by omega) (e_inc1 o159_225 (e_goto o159_228 207 rfl ?_))))))))
      refine ih (by omega) _ _ (fun a q h => by rw [zu_ne (by omega), hf a q h]) (fun s s0 s1 => ?_) (fun p p0 p1 => ?_)
      · rw [zg_ne (by omega), zg_ne (by omega), zu_ne (by omega), zg_ne (by omega)]; exact hs s s0 s1
      · by_cases e : p = k
        · rw [e, zg_same (by omega)]
        · rw [zg_ne (by omega)]; exact hp p p0 (by omega)
  have stones : ∀ k, 0 ≤ k → k ≤ D.ns → ∀ w x2, (∀ a q, ¬ a = 93 → w a q = v1 a q) → (∀ s, 0 ≤ s → s < k → zg w 93 s = D.origin s ∧ zg w 93 (80 + s) = -1 ∧ w 93 (120 + s) = 1 <<< (zI (D.origin s) &&& 31) ∧ zg w 93 (40 + s) = cnt D.origin (D.origin s) s) → zEv sc 159 d 95 [.ref 79, .int (zI k), x2] [] (zmk w u) 0 0 (zPv fun w t => MN D v w ∧ u = t) := by
    refine zloop ?_
    intro k k0 k1 ih w x2 hf hs
    have z82 : zg w 82 1 = D.ns := by rw [fr w hf 82 (by decide)]; exact hMT1.1.2.1
    by_cases hk : k < D.ns
    · have z85 : ∀ i, 0 ≤ i → i < D.ns → zg w 85 i = D.origin i := fun i h0 h1 => by rw [fr w hf 85 (by decide)]; exact (hMT1.2.2.1 i h0 h1).1
      have hm := a5 k k0 hk
      have inner : ∀ j, 0 ≤ j → j ≤ k → ∀ x, (∀ a q, ¬ (a = 93 ∧ (q = k ∨ q = 80 + k ∨ q = 120 + k ∨ q = 40 + k)) → x a q = w a q) → zg x 93 k = D.origin k → zg x 93 (80 + k) = -1 → x 93 (120 + k) = 1 <<< (zI (D.origin k) &&& 31) → zg x 93 (40 + k) = cnt D.origin (D.origin k) j → zEv sc 159 d 156 [.ref 79, .int (zI k), .int (zI j)] [] (zmk x u) 0 0 (zPv fun w t => MN D v w ∧ u = t) := by
        refine zloop ?_
        intro j j0 j1 ihj x hx y1 y2 y3 y4
        have x85 : ∀ i, 0 ≤ i → i < D.ns → zg x 85 i = D.origin i := fun i h0 h1 => by rw [← z85 i h0 h1]; simp only [zg]; rw [hx 85 i (by omega)]
        have cr := cnt_rg (P := D.origin) (p := D.origin k) (n := j) j0
        have nx : cnt D.origin (D.origin k) (j + 1) = cnt D.origin (D.origin k) j + (if D.origin j = D.origin k then 1 else 0) := by unfold cnt; rw [zsg_succ j0]
        have go : ∀ z, j < k → z = (if D.origin j = D.origin k then 1 else 0) → zEv sc 159 d 191 [.ref 79, .int (zI k), .int (zI j)] [.int (zI z), .int (zI (zg x 93 (40 + k))), .int (zI (40 + k)), .ref 93] (zmk x u) 0 0 (zPv fun w t => MN D v w ∧ u = t) := by
          intro z hj hz
          have zr : z = 0 ∨ z = 1 := by rw [hz]; split <;> omega
          refine e_add o159_191 (e_iast o159_192 L93 (by omega) (by omega) (e_inc2 o159_193 (e_goto o159_196 156 rfl ?_)))
          refine ihj hj _ (fun a q h => by rw [zu_ne (by omega), hx a q h]) (by rw [zg_ne (by omega), y1]) (by rw [zg_ne (by omega), y2]) (by rw [zu_ne (by omega), y3]) ?_
          rw [zg_same (by omega), y4, nx, hz]
        refine e_il2 o159_156 (e_il1 o159_157 (e_ic_ge o159_158 199 rfl (by first | exact zg_rg _ _ _ | exact zt_rg _ | omega) (by first | exact zg_rg _ _ _ | exact zt_rg _ | omega) (fun hb158 => ?_) (fun hb158 => ?_)))
        · refine e_inc1 o159_199 (e_goto o159_202 95 rfl ?_)
          have ej : j = k := by omega
          subst ej
          refine ih hk _ _ (fun a q h => by rw [hx a q (by omega), hf a q h]) (fun s s0 s1 => ?_)
          by_cases e : s = j
          · subst e; exact ⟨y1, y2, y3, y4⟩
          · simp only [zg]
            rw [hx _ _ (by omega), hx _ _ (by omega), hx _ _ (by omega), hx _ _ (by omega)]
            exact hs s s0 (by omega)
        · refine e_al0 o159_161 (e_gR o159_162 L79 rfl rfl (e_bip o159_165 rfl (e_il1 o159_167 (e_add o159_168 (e_dup2 o159_169 (e_ial o159_170 L93 (by omega) (by omega) (e_al0 o159_171 (e_gR o159_172 L79 rfl rfl (e_il2 o159_175 ?_)))))))))
          skip
          refine e_ial o159_176 L85 (by omega) (by omega) (e_al0 o159_177 (e_gR o159_178 L79 rfl rfl (e_il1 o159_181 (e_ial o159_182 L85 (by omega) (by omega) (e_ic_ne o159_183 190 rfl (by first | exact zg_rg _ _ _ | exact zt_rg _ | omega) (by first | exact zg_rg _ _ _ | exact zt_rg _ | omega) (fun hb183 => ?_) (fun hb183 => ?_))))))
          · refine e_ico o159_190 ?_
            first
            | (refine go 1 (by omega) ?_
               rw [x85 j j0 (by omega), x85 k k0 hk] at hb183
               rw [if_pos hb183])
            | (refine go 0 (by omega) ?_
               rw [x85 j j0 (by omega), x85 k k0 hk] at hb183
               rw [if_neg hb183])
          · refine e_ico o159_186 (e_goto o159_187 191 rfl ?_)
            first
            | (refine go 1 (by omega) ?_
               rw [x85 j j0 (by omega), x85 k k0 hk] at hb183
               rw [if_pos hb183])
            | (refine go 0 (by omega) ?_
               rw [x85 j j0 (by omega), x85 k k0 hk] at hb183
               rw [if_neg hb183])
      refine e_il1 o159_95 (e_al0 o159_96 (e_gR o159_97 L79 rfl rfl (e_ico o159_100 (e_ial o159_101 L82 (by omega) (by omega) ?_))))
      rw [z82]
      refine e_ic_ge o159_102 205 rfl (by first | exact zg_rg _ _ _ | exact zt_rg _ | omega) (by first | exact zg_rg _ _ _ | exact zt_rg _ | omega) (fun hb102 => ?_) (fun hb102 => ?_)
      · omega
      · refine e_al0 o159_105 (e_gR o159_106 L79 rfl rfl (e_il1 o159_109 (e_al0 o159_110 (e_gR o159_111 L79 rfl rfl (e_il1 o159_114 (e_ial o159_115 L85 (by omega) (by omega) ?_))))))
        rw [z85 k k0 hk]
        refine e_iast o159_116 L93 (by omega) (by omega) (e_al0 o159_117 (e_gR o159_118 L79 rfl rfl (e_bip o159_121 rfl (e_il1 o159_123 (e_add o159_124 (e_ico o159_125 (e_iast o159_126 L93 (by omega) (by omega) (e_al0 o159_127 (e_gR o159_128 L79 rfl rfl (e_bip o159_131 rfl (e_il1 o159_133 (e_add o159_134 (e_ico o159_135 (e_al0 o159_136 (e_gR o159_137 L79 rfl rfl (e_il1 o159_140 (e_ial o159_141 L85 (by omega) (by omega) ?_)))))))))))))))))
        rw [zg_na (by decide), zg_na (by decide), z85 k k0 hk]
        refine e_shlR o159_142 (e_iast o159_143 L93 (by omega) (by omega) (e_al0 o159_144 (e_gR o159_145 L79 rfl rfl (e_bip o159_148 rfl (e_il1 o159_150 (e_add o159_151 (e_ico o159_152 (e_iast o159_153 L93 (by omega) (by omega) (e_ico o159_154 (e_is2 o159_155 ?_))))))))))
        refine inner 0 (by omega) k0 _ (fun a q h => by rw [zu_ne (by omega), zu_ne (by omega), zu_ne (by omega), zu_ne (by omega)]) ?_ ?_ ?_ ?_
        · rw [zg_ne (by omega), zg_ne (by omega), zg_ne (by omega), zg_same (by omega)]
        · rw [zg_ne (by omega), zg_ne (by omega), zg_same (by omega)]
        · rw [zu_ne (by omega), zu_same]; rfl
        · rw [zg_same (by omega)]; rfl
    · have ek : k = D.ns := by omega
      refine e_il1 o159_95 (e_al0 o159_96 (e_gR o159_97 L79 rfl rfl (e_ico o159_100 (e_ial o159_101 L82 (by omega) (by omega) ?_))))
      rw [z82]
      refine e_ic_ge o159_102 205 rfl (by first | exact zg_rg _ _ _ | exact zt_rg _ | omega) (by first | exact zg_rg _ _ _ | exact zt_rg _ | omega) (fun hb102 => ?_) (fun hb102 => ?_)
      · refine e_ico o159_205 (e_is1 o159_206 ?_)
        exact prices 0 (by omega) (by omega) w _ hf (by rw [← ek]; exact hs) (fun p p0 p1 => by omega)
      · omega
  refine e_al0 o159_0 (e_gR o159_1 L79 rfl rfl (e_Sv1 o159_4 K159 K160 rfl ⟨rfl, rfl⟩ (by omega) rfl (m160 L82 4 rfl) ?_))
  rintro _ _ ⟨rfl, rfl⟩
  refine e_al0 o159_7 (e_gR o159_8 L79 rfl rfl (e_Sv1 o159_11 K159 K160 rfl ⟨rfl, rfl⟩ (by omega) rfl (m160 L83 6 rfl) ?_))
  rintro _ _ ⟨rfl, rfl⟩
  refine e_al0 o159_14 (e_gR o159_15 L79 rfl rfl (e_Sv1 o159_18 K159 K160 rfl ⟨rfl, rfl⟩ (by omega) rfl (m160 L84 6 rfl) ?_))
  rintro _ _ ⟨rfl, rfl⟩
  refine e_al0 o159_21 (e_gR o159_22 L79 rfl rfl (e_Sv1 o159_25 K159 K160 rfl ⟨rfl, rfl⟩ (by omega) rfl (m160 L85 40 rfl) ?_))
  rintro _ _ ⟨rfl, rfl⟩
  refine e_al0 o159_28 (e_gR o159_29 L79 rfl rfl (e_Sv1 o159_32 K159 K160 rfl ⟨rfl, rfl⟩ (by omega) rfl (m160 L86 40 rfl) ?_))
  rintro _ _ ⟨rfl, rfl⟩
  refine e_al0 o159_35 (e_gR o159_36 L79 rfl rfl (e_Sv1 o159_39 K159 K160 rfl ⟨rfl, rfl⟩ (by omega) rfl (m160 L87 5 rfl) ?_))
  rintro _ _ ⟨rfl, rfl⟩
  refine e_al0 o159_42 (e_gR o159_43 L79 rfl rfl (e_Sv1 o159_46 K159 K160 rfl ⟨rfl, rfl⟩ (by omega) rfl (m160 L88 5 rfl) ?_))
  rintro _ _ ⟨rfl, rfl⟩
  refine e_al0 o159_49 (e_gR o159_50 L79 rfl rfl (e_Sv1 o159_53 K159 K160 rfl ⟨rfl, rfl⟩ (by omega) rfl (m160 L89 5 rfl) ?_))
  rintro _ _ ⟨rfl, rfl⟩
  refine e_al0 o159_56 (e_gR o159_57 L79 rfl rfl (e_Sv1 o159_60 K159 K160 rfl ⟨rfl, rfl⟩ (by omega) rfl (m160 L90 600 rfl) ?_))
  rintro _ _ ⟨rfl, rfl⟩
  refine e_al0 o159_63 (e_ico o159_64 (e_pI o159_65 L79 rfl rfl rfl rfl 30 rfl (e_al0 o159_68 (e_ico o159_69 (e_pI o159_70 L79 rfl rfl rfl rfl 31 rfl (e_al0 o159_73 (e_ico o159_74 (e_pI o159_75 L79 rfl rfl rfl rfl 32 rfl (e_al0 o159_78 (e_ico o159_79 (e_pI o159_80 L79 rfl rfl rfl rfl 33 rfl (e_al0 o159_83 (e_ico o159_84 (e_pI o159_85 L79 rfl rfl rfl rfl 44 rfl (e_al0 o159_88 (e_ico o159_89 (e_pI o159_90 L79 rfl rfl rfl rfl 49 rfl (e_ico o159_93 (e_is1 o159_94 ?_)))))))))))))))))))
  have e := stones 0 (by omega) a2.1 v1 zJ (fun _ _ _ => rfl) (fun s s0 s1 => by omega)
  rw [hv1] at e
  exact e
def BM4 (v w : zV) (p : Int) : Prop := (∀ a q, ¬ (a = 79 ∧ (q = 2 ∨ (14 ≤ q ∧ q ≤ 23))) → ¬ (a = 82 ∧ 4 ≤ q) → ¬ ((a = 83 ∨ a = 84) ∧ 6 ≤ q) → ¬ ((a = 85 ∨ a = 86) ∧ 40 ≤ q) → ¬ ((87 ≤ a ∧ a ≤ 89) ∧ 5 ≤ q) → ¬ (a = 90 ∧ 600 ≤ q) → ¬ (a = 91 ∧ q = 0) → w a q = v a q) ∧ w 79 2 = zI 0 ∧ zg w 79 14 = 0 ∧ zg w 79 23 = p ∧ w 91 0 = zI (zg v 91 0 + 1)
def GM4 (D : Dr) (v w : zV) : Prop := (∀ a q, ¬ (a = 79 ∧ (q = 2 ∨ (14 ≤ q ∧ q ≤ 23) ∨ (30 ≤ q ∧ q ≤ 33) ∨ q = 44 ∨ q = 49)) → ¬ (82 ≤ a ∧ a ≤ 90) → ¬ a = 93 → w a q = v a q) ∧ w 79 2 = zI 0 ∧ zg w 79 14 = 0 ∧ zg w 79 23 = -1 ∧ MT D w ∧ (zg w 79 30 = 0 ∧ zg w 79 31 = 0 ∧ zg w 79 32 = 0 ∧ zg w 79 33 = 0 ∧ zg w 79 44 = -1 ∧ zg w 79 49 = 0) ∧ (∀ s, 0 ≤ s → s < D.ns → zg w 93 s = D.origin s ∧ zg w 93 (80 + s) = -1 ∧ w 93 (120 + s) = 1 <<< (zI (D.origin s) &&& 31) ∧ zg w 93 (40 + s) = cnt D.origin (D.origin s) s) ∧ (∀ p, 0 ≤ p → p < 6 → zg w 93 (160 + p) = 10) ∧ ∀ i, 0 ≤ i → i < D.nk → zg w 93 (166 + i) = D.home i
def wdM (o : LO) (v w : zV) (y : Int32) : Prop := match o with
  | .inl (_, D) => zI 0 = y ∧ GM4 D v w
  | .inr (c, p) => zI c = y ∧ BM4 v w p
theorem m132_no {n : Int} (hd : 1 ≤ d) (nr : -2147483648 ≤ n ∧ n < 2147483648) (h : ¬ (0 ≤ n ∧ n ≤ zg v 79 14)) : zEv sc 132 d 0 [.ref 79, .int (zI n), zJ] [] (zmk v u) 0 0 (zis (zI 0) (zu (zu v 79 2 (zI 0)) 79 2 (zI 1)) u) := by
  refine e_al0 o132_0 (e_ico o132_1 (e_pI o132_2 L79 rfl rfl rfl rfl 2 rfl (e_il1 o132_5 (e_if_lt o132_6 17 rfl (by first | exact zg_rg _ _ _ | exact zt_rg _ | omega) (fun hb6 => ?_) (fun hb6 => ?_)))))
  · refine e_al0 o132_17 (e_ico o132_18 (e_Vi1 o132_19 K132 K133 rfl ⟨rfl, rfl⟩ (zrcv_I L79 rfl) (by omega) rfl m133 ?_))
    rintro _ _ _ ⟨rfl, rfl, rfl⟩
    refine e_rI o132_22 K132 rfl rfl ?_
    exact ⟨rfl, rfl, rfl⟩
  · refine e_il1 o132_9 (e_al0 o132_10 (e_gI o132_11 L79 rfl 14 rfl ?_))
    rw [zg_ne (by omega)]
    refine e_ic_le o132_14 23 rfl (by first | exact zg_rg _ _ _ | exact zt_rg _ | omega) (by first | exact zg_rg _ _ _ | exact zt_rg _ | omega) (fun hb14 => ?_) (fun hb14 => ?_)
    · omega
    · refine e_al0 o132_17 (e_ico o132_18 (e_Vi1 o132_19 K132 K133 rfl ⟨rfl, rfl⟩ (zrcv_I L79 rfl) (by omega) rfl m133 ?_))
      rintro _ _ _ ⟨rfl, rfl, rfl⟩
      refine e_rI o132_22 K132 rfl rfl ?_
      exact ⟨rfl, rfl, rfl⟩
theorem m132 {n : Int} {o : LO} {B : Int → Int} (hd : 110 ≤ d) (h0 : 0 ≤ n) (h1 : n ≤ zg v 79 14) (h6 : n ≤ 600) (g : gPs n o) (hB : ∀ i, 0 ≤ i → i < n → zg v 92 i = B i % 256 ∧ -128 ≤ B i ∧ B i < 128) (hP : ∀ v u Q x1 x2, TXm B n v → zg v 79 15 = 0 → zg v 79 21 = 0 → MD Dr0 v → (∀ w x2, pM o v w → zEv sc 132 d 99 [.ref 79, x1, x2] [] (zmk w u) 0 0 Q) → zEv sc 132 d 70 [.ref 79, x1, x2] [] (zmk v u) 0 0 Q) : zEv sc 132 d 0 [.ref 79, .int (zI n), zJ] [] (zmk v u) 0 0 (zPi fun y w t => wdM o v w y ∧ u = t) := by
  obtain ⟨v1, hv1⟩ : ∃ v1, v1 = zu (zu (zu (zu (zu (zu v 79 2 (zI 0)) 79 14 (zI 0)) 79 16 (zI n)) 79 15 (zI 0)) 79 21 (zI 0)) 79 23 (zI (-1)) := ⟨_, rfl⟩
  have f1 : ∀ a q, ¬ (a = 79 ∧ (q = 2 ∨ q = 14 ∨ q = 15 ∨ q = 16 ∨ q = 21 ∨ q = 23)) → v1 a q = v a q := fun a q h => by rw [hv1, zu_ne (by omega), zu_ne (by omega), zu_ne (by omega), zu_ne (by omega), zu_ne (by omega), zu_ne (by omega)]
  have g2 : v1 79 2 = zI 0 := by rw [hv1, zu_ne (by omega), zu_ne (by omega), zu_ne (by omega), zu_ne (by omega), zu_ne (by omega), zu_same]
  have g14 : v1 79 14 = zI 0 := by rw [hv1, zu_ne (by omega), zu_ne (by omega), zu_ne (by omega), zu_ne (by omega), zu_same]
  have g16 : v1 79 16 = zI n := by rw [hv1, zu_ne (by omega), zu_ne (by omega), zu_ne (by omega), zu_same]
  have g15 : v1 79 15 = zI 0 := by rw [hv1, zu_ne (by omega), zu_ne (by omega), zu_same]
  have g21 : v1 79 21 = zI 0 := by rw [hv1, zu_ne (by omega), zu_same]
  have g23 : v1 79 23 = zI (-1) := by rw [hv1, zu_same]
  have fin : ∀ x w x1 x2, (∀ a q, ¬ (a = 82 ∧ 4 ≤ q) → x a q = v1 a q) → pM o x w → zEv sc 132 d 99 [.ref 79, x1, x2] [] (zmk w u) 0 0 (zPi fun y w t => wdM o v w y ∧ u = t) := by
    intro x w x1 x2 hx hO
    cases o using LO_c with
    | bad c p =>
      obtain ⟨r1, r2, r3⟩ := hO
      obtain ⟨c1, c2, c3, c4⟩ := g
      refine e_al0 o132_99 (e_gI o132_100 L79 rfl 21 rfl ?_)
      rw [r2]
      refine e_if_eq o132_103 129 rfl (by first | exact zg_rg _ _ _ | exact zt_rg _ | omega) (fun hb103 => ?_) (fun hb103 => ?_)
      · omega
      · refine e_al0 o132_106 (e_al0 o132_107 (e_gI o132_108 L79 rfl 22 rfl ?_))
        rw [r3]
        refine e_pI o132_111 L79 rfl rfl rfl rfl 23 rfl (e_al0 o132_114 (e_gR o132_115 L79 rfl rfl (e_ico o132_118 (e_dup2 o132_119 (e_ial o132_120 L91 (by omega) (by omega) (e_ico o132_121 ?_))))))
        rw [zg_na (by decide)]
        refine e_add o132_122 (e_iast o132_123 L91 (by omega) (by omega) (e_al0 o132_124 (e_gI o132_125 L79 rfl 21 rfl ?_)))
        rw [zg_na (by decide), zg_ne (by omega), r2]
        refine e_rI o132_128 K132 rfl rfl ?_
        refine ⟨⟨rfl, ?_, ?_, ?_, ?_, ?_⟩, rfl⟩
        · intro a q k1 k2 k3 k4 k5 k6 k7
          rw [zu_ne (by omega), zu_ne (by omega), r1 a q (by omega) k2 k3 k4 k5 k6, hx a q k2, f1 a q (by omega)]
        · rw [zu_ne (by omega), zu_ne (by omega), r1 79 2 (by omega) (by omega) (by omega) (by omega) (by omega) (by omega), hx 79 2 (by omega), g2]
        · simp only [zg]; rw [zu_ne (by omega), zu_ne (by omega), r1 79 14 (by omega) (by omega) (by omega) (by omega) (by omega) (by omega), hx 79 14 (by omega), g14]; rfl
        · rw [zg_na (by decide), zg_same (by omega)]
        · rw [zu_same]; simp only [zg]; rw [r1 91 0 (by omega) (by omega) (by omega) (by omega) (by omega) (by omega), hx 91 0 (by omega), f1 91 0 (by omega)]
    | ok e' D =>
      obtain ⟨r1, r2, r3⟩ := hO
      have hBD : DB D := g
      refine e_al0 o132_99 (e_gI o132_100 L79 rfl 21 rfl ?_)
      rw [r2]
      refine e_if_eq o132_103 129 rfl (by first | exact zg_rg _ _ _ | exact zt_rg _ | omega) (fun hb103 => ?_) (fun hb103 => ?_)
      · refine e_al0 o132_129 (e_Vv0 o132_130 K132 K159 rfl ⟨rfl, rfl⟩ (zrcv_I L79 rfl) (by omega) rfl (m159 (by omega) hBD r3) ?_)
        rintro w2 u' ⟨⟨b1, b2, b3, b4, b5, b6⟩, rfl⟩
        refine e_ico o132_133 ?_
        refine e_rI o132_134 K132 rfl rfl ?_
        have e79 : ∀ q, ¬ (((30 ≤ q ∧ q ≤ 33) ∨ q = 44 ∨ q = 49) ∨ q = 15 ∨ (17 ≤ q ∧ q ≤ 22)) → w2 79 q = v1 79 q := fun q h => by rw [b1 79 q (by omega) (by omega) (by omega), r1 79 q (by omega) (by omega) (by omega) (by omega) (by omega) (by omega), hx 79 q (by omega)]
        refine ⟨⟨rfl, ?_, ?_, ?_, ?_, b2, b3, b4, b5, b6⟩, rfl⟩
        · intro a q k1 k2 k3
          rw [b1 a q k2 k3 (by omega), r1 a q (by omega) (by omega) (by omega) (by omega) (by omega) (by omega), hx a q (by omega), f1 a q (by omega)]
        · rw [e79 2 (by omega), g2]
        · simp only [zg]; rw [e79 14 (by omega), g14]; rfl
        · simp only [zg]; rw [e79 23 (by omega), g23]; rfl
      · omega
  have loop : ∀ k, 0 ≤ k → k ≤ (4 : Int) → ∀ x, (∀ a q, ¬ (a = 82 ∧ 4 ≤ q) → x a q = v1 a q) → (∀ q, 4 ≤ q → q < 4 + k → zg x 82 q = 0) → zEv sc 132 d 50 [.ref 79, .int (zI n), .int (zI k)] [] (zmk x u) 0 0 (zPi fun y w t => wdM o v w y ∧ u = t) := by
    refine zloop ?_
    intro k k0 k1 ih x hx h8
    refine e_il2 o132_50 (e_ico o132_51 (e_ic_ge o132_52 70 rfl (by first | exact zg_rg _ _ _ | exact zt_rg _ | omega) (by first | exact zg_rg _ _ _ | exact zt_rg _ | omega) (fun hb52 => ?_) (fun hb52 => ?_)))
    · have z92 : zg x 92 = zg v 92 := zg_fn fun q => by rw [hx 92 q (by omega), f1 92 q (by omega)]
      refine hP x u _ _ _ ⟨⟨h0, h6⟩, ?_, by rw [z92]; exact hB⟩ ?_ ?_ ⟨⟨h8 4 (by omega) (by omega), h8 5 (by omega) (by omega), h8 6 (by omega) (by omega)⟩, fun i i0 i1 => absurd i1 (by show ¬ i < 0; omega), fun i i0 i1 => absurd i1 (by show ¬ i < 0; omega), fun i i0 i1 => absurd i1 (by show ¬ i < 0; omega), h8 7 (by omega) (by omega), fun i hi => absurd hi (by show ¬ i < 0; omega)⟩ (fun w x2 hO => fin x w _ _ hx hO)
      · simp only [zg]; rw [hx 79 16 (by omega), g16, zI_to (by omega)]
      · simp only [zg]; rw [hx 79 15 (by omega), g15]; rfl
      · simp only [zg]; rw [hx 79 21 (by omega), g21]; rfl
    · refine e_al0 o132_55 (e_gR o132_56 L79 rfl rfl (e_ico o132_59 (e_il2 o132_60 (e_add o132_61 (e_ico o132_62 (e_iast o132_63 L82 (by omega) (by omega) (e_inc2 o132_64 (e_goto o132_67 50 rfl ?_))))))))
      refine ih (by omega) _ (fun a q h => by rw [zu_ne (by omega), hx a q h]) (fun q q0 q1 => ?_)
      by_cases e : q = 4 + k
      · rw [e, zg_same (by omega)]
      · rw [zg_ne (by omega)]; exact h8 q q0 (by omega)
  refine e_al0 o132_0 (e_ico o132_1 (e_pI o132_2 L79 rfl rfl rfl rfl 2 rfl (e_il1 o132_5 (e_if_lt o132_6 17 rfl (by first | exact zg_rg _ _ _ | exact zt_rg _ | omega) (fun hb6 => ?_) (fun hb6 => ?_)))))
  · omega
  · refine e_il1 o132_9 (e_al0 o132_10 (e_gI o132_11 L79 rfl 14 rfl ?_))
    rw [zg_ne (by omega)]
    refine e_ic_le o132_14 23 rfl (by first | exact zg_rg _ _ _ | exact zt_rg _ | omega) (by first | exact zg_rg _ _ _ | exact zt_rg _ | omega) (fun hb14 => ?_) (fun hb14 => ?_)
    · refine e_al0 o132_23 (e_ico o132_24 (e_pI o132_25 L79 rfl rfl rfl rfl 14 rfl (e_al0 o132_28 (e_il1 o132_29 (e_pI o132_30 L79 rfl rfl rfl rfl 16 rfl (e_al0 o132_33 (e_ico o132_34 (e_pI o132_35 L79 rfl rfl rfl rfl 15 rfl (e_al0 o132_38 (e_ico o132_39 (e_pI o132_40 L79 rfl rfl rfl rfl 21 rfl (e_al0 o132_43 (e_ico o132_44 (e_pI o132_45 L79 rfl rfl rfl rfl 23 rfl (e_ico o132_48 (e_is2 o132_49 ?_))))))))))))))))
      have e := loop 0 (by omega) (by omega) v1 (fun _ _ _ => rfl) (fun q q0 q1 => by omega)
      rw [hv1] at e
      exact e
    · omega
end
