section
variable {sc : Nat × (Nat → Int32)} {d : Nat} {v v0 : zV} {u : zU} {w : Nat} {k f t c y : Int} {x : zPL}
theorem m178 {M : Int} (hd : 2 ≤ d) (hw : zLay[w]? = some (0, 171, [])) (hw3 : 93 ≤ w) (hw6 : ¬ w = 96) (hE : EW v0) (hB : WB v0) (hV : VS v0 x) (hx : ∀ s, 0 ≤ s → s < zg v0 16 9 → zg v0 w s = x.1 s ∧ zg v0 w (40 + s) = x.2 s ∧ 0 ≤ x.2 s ∧ x.2 s < 40) (k0 : 0 ≤ k) (k1 : k < zg v0 16 10) (t0 : 0 ≤ t) (t1 : t < 6) (hf : zg v0 w (166 + k) = f) (f0 : 0 ≤ f) (f1 : f < 6) (ft : ¬ f = t) (c0 : 0 ≤ c) (c1 : c ≤ zg v0 22 k) (hpr : ∀ p, 0 ≤ p → p < zg v0 16 8 → 0 ≤ zg v0 w (160 + p) ∧ zg v0 w (160 + p) ≤ 99) (hM : M = min (wantC v0 k c) (cnt x.1 f (zg v0 16 9))) : zEv sc 178 d 0 [.ref 79, .ref w, .int (zI k), .int (zI t), .int (zI c), .int (zI y), zJ, zJ, zJ, zJ, zJ] [] (zmk v0 u) 0 0 (zPi fun r v' u' => zI M = r ∧ G3 v0 w k f t y x M v' ∧ u = u') := by
  have n0 := hB.2.1
  have p0 := hB.1
  have s0 := hB.2.2.1
  have ek := hE.2.2.2.2.2 k k0 k1
  have bk := hB.2.2.2.2.2 k k0 k1
  have cr := cnt_rg (P := x.1) (p := f) hB.2.1.1
  have crt := cnt_rg (P := x.1) (p := t) hB.2.1.1
  have hw0 : 0 ≤ wantC v0 k c ∧ wantC v0 k c ≤ 8 := by
    unfold wantC
    split <;> omega
  have M0 : 0 ≤ M ∧ M ≤ 8 ∧ M ≤ cnt x.1 f (zg v0 16 9) := by omega
  obtain ⟨z1, z2, z3, z4⟩ := stN_all (k := k) hV hB.wf f0 f1 t0 t1 ft M (by omega) (by omega)
  -- prices
  have loop3 : ∀ p, 0 ≤ p → p ≤ zg v0 16 8 → ∀ v a6 a8 a10, (∀ a q, ¬ a = 96 → ¬ a = w → v a q = v0 a q) →
      (∀ s, 0 ≤ s → s < zg v0 16 9 → zg v w s = (stN v0 k f t x M).1 s ∧ zg v w (40 + s) = (stN v0 k f t x M).2 s ∧ ((stN v0 k f t x M).1 s = x.1 s → v w (80 + s) = v0 w (80 + s) ∧ v w (120 + s) = v0 w (120 + s)) ∧ (¬ (stN v0 k f t x M).1 s = x.1 s → v w (80 + s) = zI y ∧ v w (120 + s) = v0 w (120 + s) ||| (1 <<< (zI t &&& 31)))) →
      (∀ q, 0 ≤ q → q < zg v0 16 8 → zg v w (160 + q) = if q < p then prF (zg v0 17 q) (cnt (stN v0 k f t x M).1 q (zg v0 16 9)) (zg v0 w (160 + q)) else zg v0 w (160 + q)) →
      (∀ i, 0 ≤ i → i < 5 → zg v w (166 + i) = if i = k then t else zg v0 w (166 + i)) →
      (∀ i, 0 ≤ i → i < M → zg v 96 i = tkS v0 k f (stN v0 k f t x i)) →
      zEv sc 178 d 170 [.ref 79, .ref w, .int (zI k), .int (zI t), .int (zI c), .int (zI y), a6, .int (zI M), a8, .int (zI p), a10] [] (zmk v u) 0 0 (zPi fun r v' u' => zI M = r ∧ G3 v0 w k f t y x M v' ∧ u = u') := by
    refine zloop ?_
    intro p q0 q1 ih v a6 a8 a10 h1 h2 h3 h4 h5
    have hwv : ∀ c k, 16 ≤ c → c ≤ 25 → v c k = v0 c k := fun c k a b => h1 c k (by omega) (by omega)
    have hEv : EW v := EW_w (fun a q h => h1 a q (by omega) (by omega)) hE
    have hBv : WB v := WB_w hwv hB
    have e16 : zg v 16 = zg v0 16 := zg_fn fun k => hwv 16 k (by omega) (by omega)
    have e17 : zg v 17 = zg v0 17 := zg_fn fun k => hwv 17 k (by omega) (by omega)
    have e82 : zg v 82 0 = zg v0 16 8 := by rw [hEv.1, e16]
    have e83 : p < zg v0 16 8 → zg v 83 p = zg v0 17 p := fun h => by rw [(hEv.2.2.2.1 p q0 (by rw [e16]; exact h)).1, e17]
    have ec : cnt (zg v w) p (zg v 16 9) = cnt (stN v0 k f t x M).1 p (zg v0 16 9) := by
      rw [e16]
      apply cnt_ext
      intro s s0 s1
      rw [(h2 s s0 s1).1]
    have cl := cnt_rg (P := (stN v0 k f t x M).1) (p := p) hB.2.1.1
    have fin : ∀ z, p < zg v0 16 8 → -2147483648 ≤ z ∧ z < 2147483648 → z = prF (zg v0 17 p) (cnt (stN v0 k f t x M).1 p (zg v0 16 9)) (zg v0 w (160 + p)) → ∀ a10, zEv sc 178 d 170 [.ref 79, .ref w, .int (zI k), .int (zI t), .int (zI c), .int (zI y), a6, .int (zI M), a8, .int (zI (p + 1)), a10] [] (zmk (zu v w (160 + p) (zI z)) u) 0 0 (zPi fun r v' u' => zI M = r ∧ G3 v0 w k f t y x M v' ∧ u = u') := by
      intro z hp hz hz2 a10
      have r0 : ∀ {b : Int}, ¬ b = 160 + p → zu v w (160 + p) (zI z) w b = v w b := fun h => zu_ne (fun z => h z.2)
      have r1 : ∀ {b : Int}, ¬ b = 160 + p → zg (zu v w (160 + p) (zI z)) w b = zg v w b := fun h => zg_ne (fun z => h z.2)
      refine ih hp _ _ _ _ ?_ ?_ ?_ ?_ ?_
      · intro a q g1 g2
        rw [zu_ne (fun e => g2 e.1)]
        exact h1 a q g1 g2
      · intro s s0 s1
        rw [r0 (by omega), r0 (by omega), r1 (by omega), r1 (by omega)]
        exact h2 s s0 s1
      · intro q g0 g1
        by_cases e : q = p
        · subst e
          rw [zg_same hz, if_pos (by omega)]
          exact hz2
        · rw [r1 (by omega), h3 q g0 g1]
          by_cases l : q < p
          · rw [if_pos l, if_pos (by omega)]
          · rw [if_neg l, if_neg (by omega)]
      · intro i i0 i1
        rw [r1 (by omega)]
        exact h4 i i0 i1
      · intro i i0 i1
        rw [zg_na (fun e => hw6 e.symm)]
        exact h5 i i0 i1
    refine e_il9 o178_170 (e_al0 o178_172 (e_gR o178_173 L79 rfl rfl (e_ico o178_176 (e_ial o178_177 L82 (by omega) (by omega) ?_))))
    rw [e82]
    refine e_ic_ge o178_178 268 rfl (by first | exact zg_rg _ _ _ | exact zt_rg _ | omega) (by first | exact zg_rg _ _ _ | exact zt_rg _ | omega) (fun hb178 => ?_) (fun hb178 => ?_)
    · refine e_il7 o178_268 ?_
      refine e_rI o178_270 K178 rfl rfl ?_
      have e : p = zg v0 16 8 := by omega
      subst e
      refine ⟨rfl, ⟨h1, h2, ?_, h4, h5⟩, rfl⟩
      intro q g0 g1
      rw [h3 q g0 g1, if_pos g1]
    · have hpb := hpr p q0 hb178
      have hnb := (hB.2.2.2.1 p q0 hb178).1
      have h3p : zg v w (160 + p) = zg v0 w (160 + p) := by rw [h3 p q0 hb178, if_neg (by omega)]
      refine e_al0 o178_181 (e_al1 o178_182 (e_il9 o178_183 (e_Vi2 o178_185 K178 K165 rfl ⟨rfl, rfl⟩ (zrcv_I L79 rfl) (by omega) rfl (m165 hw hEv hBv (by omega)) ?_)))
      rintro _ _ _ ⟨rfl, rfl, rfl⟩
      rw [ec]
      refine e_is10 o178_188 (e_il10 o178_190 (e_al0 o178_192 (e_gR o178_193 L79 rfl rfl (e_il9 o178_196 (e_ial o178_198 L83 (by omega) (by omega) ?_)))))
      rw [e83 hb178]
      refine e_ic_ge o178_199 228 rfl (by first | exact zg_rg _ _ _ | exact zt_rg _ | omega) (by first | exact zg_rg _ _ _ | exact zt_rg _ | omega) (fun hb199 => ?_) (fun hb199 => ?_)
      · refine e_il10 o178_228 (e_al0 o178_230 (e_gR o178_231 L79 rfl rfl (e_il9 o178_234 (e_ial o178_236 L83 (by omega) (by omega) ?_))))
        rw [e83 hb178]
        refine e_ic_le o178_237 262 rfl (by first | exact zg_rg _ _ _ | exact zt_rg _ | omega) (by first | exact zg_rg _ _ _ | exact zt_rg _ | omega) (fun hb237 => ?_) (fun hb237 => ?_)
        · refine e_inc9 o178_262 (e_goto o178_265 170 rfl ?_)
          first | exact fin _ hb178 (by omega) (by rw [prF, if_pos (by omega)]) _ | exact fin _ hb178 (by omega) (by rw [prF, if_neg (by omega), if_pos (by omega)]) _ | exact cast (by rw [← h3p, zI_g, show zu v w (160 + p) (v w (160 + p)) = v from by funext a q; simp only [zu]; split; (next e => rw [e.1, e.2]); rfl]) (fin (zg v0 w (160 + p)) hb178 (by omega) (by rw [prF, if_neg (by omega), if_neg (by omega)]) (.int (zI (cnt (stN v0 k f t x M).1 p (zg v0 16 9)))))
        · refine e_al1 o178_240 (e_sip o178_241 rfl (e_il9 o178_244 (e_add o178_246 (e_ico o178_247 (e_al1 o178_248 (e_sip o178_249 rfl (e_il9 o178_252 (e_add o178_254 (e_ial o178_255 hw (by omega) (by omega) ?_)))))))))
          rw [h3p]
          refine e_ico o178_256 (e_sub o178_257 (e_max o178_258 (by omega) rfl (by first | exact zg_rg _ _ _ | exact zt_rg _ | omega) (by first | exact zg_rg _ _ _ | exact zt_rg _ | omega) (e_iast o178_261 hw (by omega) (by omega) (e_inc9 o178_262 (e_goto o178_265 170 rfl ?_)))))
          first | exact fin _ hb178 (by omega) (by rw [prF, if_pos (by omega)]) _ | exact fin _ hb178 (by omega) (by rw [prF, if_neg (by omega), if_pos (by omega)]) _ | exact cast (by rw [← h3p, zI_g, show zu v w (160 + p) (v w (160 + p)) = v from by funext a q; simp only [zu]; split; (next e => rw [e.1, e.2]); rfl]) (fin (zg v0 w (160 + p)) hb178 (by omega) (by rw [prF, if_neg (by omega), if_neg (by omega)]) (.int (zI (cnt (stN v0 k f t x M).1 p (zg v0 16 9)))))
      · refine e_al1 o178_202 (e_sip o178_203 rfl (e_il9 o178_206 (e_add o178_208 (e_bip o178_209 rfl (e_al1 o178_211 (e_sip o178_212 rfl (e_il9 o178_215 (e_add o178_217 (e_ial o178_218 hw (by omega) (by omega) ?_)))))))))
        rw [h3p]
        refine e_ico o178_219 (e_add o178_220 (e_min o178_221 (by omega) rfl (by first | exact zg_rg _ _ _ | exact zt_rg _ | omega) (by first | exact zg_rg _ _ _ | exact zt_rg _ | omega) (e_iast o178_224 hw (by omega) (by omega) (e_goto o178_225 262 rfl (e_inc9 o178_262 (e_goto o178_265 170 rfl ?_))))))
        first | exact fin _ hb178 (by omega) (by rw [prF, if_pos (by omega)]) _ | exact fin _ hb178 (by omega) (by rw [prF, if_neg (by omega), if_pos (by omega)]) _ | exact cast (by rw [← h3p, zI_g, show zu v w (160 + p) (v w (160 + p)) = v from by funext a q; simp only [zu]; split; (next e => rw [e.1, e.2]); rfl]) (fin (zg v0 w (160 + p)) hb178 (by omega) (by rw [prF, if_neg (by omega), if_neg (by omega)]) (.int (zI (cnt (stN v0 k f t x M).1 p (zg v0 16 9)))))
  -- laying
  have loop2 : ∀ v1, G1 v0 w k f t x M v1 → ∀ j, 0 ≤ j → j ≤ M → ∀ v a6 a10, G2 v0 v1 w k f t y x M j v → zEv sc 178 d 98 [.ref 79, .ref w, .int (zI k), .int (zI t), .int (zI c), .int (zI y), a6, .int (zI M), .int (zI (cnt x.1 t (zg v0 16 9))), .int (zI j), a10] [] (zmk v u) 0 0 (zPi fun r v' u' => zI M = r ∧ G3 v0 w k f t y x M v' ∧ u = u') := by
    intro v1 hG1
    refine zloop ?_
    intro j j0 jM ih v a6 a10 hG
    obtain ⟨g1, g2, g3⟩ := hG1
    have e96 : ∀ i, 0 ≤ i → i < M → zg v 96 i = tkS v0 k f (stN v0 k f t x i) := by
      intro i i0 i1
      rw [← g3 i i0 i1]
      simp only [zg]
      rw [hG.1 96 i (by omega)]
    refine e_il9 o178_98 (e_il7 o178_100 (e_ic_ge o178_102 159 rfl (by first | exact zg_rg _ _ _ | exact zt_rg _ | omega) (by first | exact zg_rg _ _ _ | exact zt_rg _ | omega) (fun hb102 => ?_) (fun hb102 => ?_)))
    · have ej : j = M := by omega
      subst ej
      obtain ⟨h1, h2⟩ := hG
      refine e_al1 o178_159 (e_sip o178_160 rfl (e_il2 o178_163 (e_add o178_164 (e_il3 o178_165 (e_iast o178_166 hw (by omega) (by omega) (e_ico o178_167 (e_is9 o178_168 ?_)))))))
      refine loop3 0 (by omega) (by omega) _ _ _ _ ?_ ?_ ?_ ?_ ?_
      · intro a q q1 q2
        rw [zu_ne (by omega), h1 a q (by omega), g1 a q q1 (by omega)]
      · intro s s0 s1
        have r0 : ∀ {b : Int}, ¬ b = 166 + k → zu v w (166 + k) (zI t) w b = v w b := fun h => zu_ne (fun z => h z.2)
        have r1 : ∀ {b : Int}, ¬ b = 166 + k → zg (zu v w (166 + k) (zI t)) w b = zg v w b := fun h => zg_ne (fun z => h z.2)
        rw [r0 (by omega), r0 (by omega), r1 (by omega), r1 (by omega)]
        obtain ⟨b1, b2⟩ := h2 s s0 s1
        obtain ⟨d1, d2, d3⟩ := g2 s s0 s1
        by_cases e : (stN v0 k f t x j).1 s = x.1 s
        · obtain ⟨b3, b4, b5, b6⟩ := b1 e
          rw [if_pos e] at d1
          refine ⟨?_, ?_, fun _ => ⟨?_, ?_⟩, fun z => absurd e z⟩
          · rw [e, ← d1]; simp only [zg]; rw [b3]
          · rw [← d2 e]; simp only [zg]; rw [b4]
          · rw [b5]; exact g1 w _ hw6 (by omega)
          · rw [b6]; exact g1 w _ hw6 (by omega)
        · obtain ⟨b3, b4, b5, b6⟩ := b2 e
          refine ⟨?_, b4, fun z => absurd z e, fun _ => ⟨b5, ?_⟩⟩
          · simp only [zg]
            rw [b3, zI_to (by omega)]
            rcases z1 s with z | z
            · exact absurd z e
            · exact z.2.symm
          · rw [b6, g1 w _ hw6 (by omega)]
      · intro q q0 q1
        rw [if_neg (by omega), zg_ne (by omega)]
        simp only [zg]
        rw [h1 w _ (by omega), g1 w _ hw6 (by omega)]
      · intro i i0 i1
        by_cases e : i = k
        · subst e; rw [zg_same (by omega), if_pos rfl]
        · rw [zg_ne (by omega), if_neg e]
          simp only [zg]
          rw [h1 w _ (by omega), g1 w _ hw6 (by omega)]
      · intro i i0 i1
        rw [zg_na (fun e => hw6 e.symm)]
        exact e96 i i0 i1
    · obtain ⟨q0, q1, q2⟩ := G2_step hw3 hw6 hB hV f0 f1 t0 t1 ft j0 hb102 M0.2.2 hG
      refine e_al0 o178_105 (e_gR o178_106 L79 rfl rfl (e_il9 o178_109 (e_ial o178_111 L96 (by omega) (by omega) ?_)))
      rw [e96 j j0 hb102]
      revert q0 q1 q2
      generalize tkS v0 k f (stN v0 k f t x j) = s
      intro q0 q1 q2
      refine e_is10 o178_112 (e_al1 o178_114 (e_il10 o178_115 (e_il3 o178_117 (e_iast o178_118 hw (by omega) (by omega) (e_al1 o178_119 (e_bip o178_120 rfl (e_il10 o178_122 (e_add o178_124 (e_il8 o178_125 (e_il9 o178_127 (e_add o178_129 (e_iast o178_130 hw (by omega) (by omega) (e_al1 o178_131 (e_bip o178_132 rfl (e_il10 o178_134 (e_add o178_136 (e_il5 o178_137 (e_iast o178_139 hw (by omega) (by omega) (e_al1 o178_140 (e_bip o178_141 rfl (e_il10 o178_143 (e_add o178_145 (e_dup2 o178_146 (e_ial o178_147 hw (by omega) (by omega) ?_))))))))))))))))))))))))
      rw [zg_ne (by omega), zg_ne (by omega), zg_ne (by omega), zI_g]
      refine e_ico o178_148 (e_il3 o178_149 (e_shlR o178_150 (e_orR o178_151 (e_iast o178_152 hw (by omega) (by omega) (e_inc9 o178_153 (e_goto o178_156 98 rfl ?_))))))
      exact ih hb102 _ _ _ q2
  -- lifting
  have loop1 : ∀ j, 0 ≤ j → j ≤ M → ∀ v a6 a9 a10, G1 v0 w k f t x j v → zEv sc 178 d 49 [.ref 79, .ref w, .int (zI k), .int (zI t), .int (zI c), .int (zI y), a6, .int (zI M), .int (zI j), a9, a10] [] (zmk v u) 0 0 (zPi fun r v' u' => zI M = r ∧ G3 v0 w k f t y x M v' ∧ u = u') := by
    refine zloop ?_
    intro j j0 jM ih v a6 a9 a10 hG
    obtain ⟨h1, h2, h3⟩ := id hG
    have hwv : ∀ c k, 16 ≤ c → c ≤ 25 → v c k = v0 c k := fun c k a b => h1 c k (by omega) (by omega)
    have hEv : EW v := EW_w (fun a q h => h1 a q (by omega) (by omega)) hE
    have hBv : WB v := WB_w hwv hB
    have e16 : zg v 16 = zg v0 16 := zg_fn fun k => hwv 16 k (by omega) (by omega)
    have ef : zg v w (166 + k) = f := by
      rw [← hf]
      simp only [zg]
      rw [h1 w _ hw6 (by omega)]
    refine e_il8 o178_49 (e_il7 o178_51 (e_ic_ge o178_53 87 rfl (by first | exact zg_rg _ _ _ | exact zt_rg _ | omega) (by first | exact zg_rg _ _ _ | exact zt_rg _ | omega) (fun hb53 => ?_) (fun hb53 => ?_)))
    · have ej : j = M := by omega
      subst ej
      refine e_al0 o178_87 (e_al1 o178_88 (e_il3 o178_89 (e_Vi2 o178_90 K178 K165 rfl ⟨rfl, rfl⟩ (zrcv_I L79 rfl) (by omega) rfl (m165 hw hEv hBv (by omega)) ?_)))
      rintro _ _ _ ⟨rfl, rfl, rfl⟩
      have ec : cnt (zg v w) t (zg v 16 9) = cnt x.1 t (zg v0 16 9) := by
        rw [e16]
        apply cnt_ext
        intro s s0 s1
        rw [(h2 s s0 s1).1]
        rcases z1 s with z | z
        · rw [if_pos z]
        · rw [if_neg (by omega)]; omega
      rw [ec]
      refine e_is8 o178_93 (e_ico o178_95 (e_is9 o178_96 ?_))
      refine loop2 v hG 0 (by omega) (by omega) v _ _ ⟨fun _ _ _ => rfl, fun s s0 s1 => ⟨fun _ => ⟨rfl, rfl, rfl, rfl⟩, fun z => absurd rfl z⟩⟩
    · obtain ⟨q1, q2, q3, q4⟩ := G1_step hw3 hw6 hB hV f0 f1 t0 t1 ft j0 (by omega) (by omega) hG (M := M) (s := 0)
      refine e_al0 o178_56 (e_gR o178_57 L79 rfl rfl (e_il8 o178_60 (e_al0 o178_62 (e_al1 o178_63 (e_il2 o178_64 (e_Vi2 o178_65 K178 K179 rfl ⟨rfl, rfl⟩ (zrcv_I L79 rfl) (by omega) rfl (m179 (by omega) hw hEv hBv k0 (by rw [e16]; exact k1) (fun s s0 s1 => by rw [e16] at s1; have := h2 s s0 s1; omega)) ?_))))))
      rintro _ _ _ ⟨rfl, rfl, rfl⟩
      rw [ef, q1]
      rw [q1] at q2 q3
      refine e_iast o178_68 L96 (by omega) (by omega) (e_al0 o178_69 (e_al1 o178_70 (e_al0 o178_71 (e_gR o178_72 L79 rfl rfl (e_il8 o178_75 (e_ial o178_77 L96 (by omega) (by omega) ?_))))))
      rw [zg_same (by omega)]
      refine e_Vv2 o178_78 K178 K181 rfl ⟨rfl, rfl⟩ (zrcv_I L79 rfl) (by omega) rfl (m181 hw hw3 (EW_w (fun a q h => zu_ne (by omega)) hEv) (WB_w (fun a q h h' => zu_ne (by omega)) hBv) q2 (by rw [zg_na (by decide), e16]; exact q3)) ?_
      rintro _ _ ⟨rfl, rfl⟩
      refine e_inc8 o178_81 (e_goto o178_84 49 rfl ?_)
      exact ih hb53 _ _ _ _ q4
  have e88 : zg v0 88 k = zg v0 22 k := ek.2.1
  have e87 : zg v0 87 k = zg v0 21 k := ek.1
  have mid : zEv sc 178 d 27 [.ref 79, .ref w, .int (zI k), .int (zI t), .int (zI c), .int (zI y), .int (zI (wantC v0 k c)), zJ, zJ, zJ, zJ] [] (zmk v0 u) 0 0 (zPi fun r v' u' => zI M = r ∧ G3 v0 w k f t y x M v' ∧ u = u') := by
    refine e_il6 o178_27 (e_al0 o178_29 (e_al1 o178_30 (e_al1 o178_31 (e_sip o178_32 rfl (e_il2 o178_35 (e_add o178_36 (e_ial o178_37 hw (by omega) (by omega) ?_)))))))
    rw [hf]
    refine e_Vi2 o178_38 K178 K165 rfl ⟨rfl, rfl⟩ (zrcv_I L79 rfl) (by omega) rfl (m165 hw hE hB (by omega)) ?_
    rintro _ _ _ ⟨rfl, rfl, rfl⟩
    rw [cnt_ext (P := zg v0 w) (R := x.1) (p := f) (n := zg v0 16 9) (fun s s0 s1 => by rw [(hx s s0 s1).1])]
    refine e_min o178_41 (by omega) rfl (by first | exact zg_rg _ _ _ | exact zt_rg _ | omega) (by first | exact zg_rg _ _ _ | exact zt_rg _ | omega) ?_
    rw [← hM]
    refine e_is7 o178_44 (e_ico o178_46 (e_is8 o178_47 ?_))
    refine loop1 0 (by omega) (by omega) v0 _ _ _ ⟨fun _ _ _ _ => rfl, fun s s0 s1 => ?_, fun i i0 i1 => by omega⟩
    have q := hx s s0 s1
    refine ⟨?_, fun _ => q.2.1, by omega, by omega⟩
    show zg v0 w s = if x.1 s = x.1 s then x.1 s else -1
    rw [if_pos rfl]
    exact q.1
  refine e_al0 o178_0 (e_gR o178_1 L79 rfl rfl (e_il2 o178_4 (e_ial o178_5 L88 (by omega) (by omega) ?_)))
  rw [e88]
  refine e_il4 o178_6 (e_sub o178_8 (e_is6 o178_9 (e_al0 o178_11 (e_gR o178_12 L79 rfl rfl (e_il2 o178_15 (e_ial o178_16 L87 (by omega) (by omega) ?_))))))
  rw [e87]
  refine e_ico o178_17 (e_ic_ne o178_18 27 rfl (by first | exact zg_rg _ _ _ | exact zt_rg _ | omega) (by first | exact zg_rg _ _ _ | exact zt_rg _ | omega) (fun hb18 => ?_) (fun hb18 => ?_))
  · first | exact cast (by rw [wantC, if_pos (by omega)]) mid | exact cast (by rw [wantC, if_neg (by omega)]) mid
  · refine e_il6 o178_21 (e_ico o178_23 (e_div o178_24 (by omega) (by omega) (e_is6 o178_25 ?_)))
    first | exact cast (by rw [wantC, if_pos (by omega)]) mid | exact cast (by rw [wantC, if_neg (by omega)]) mid
end
