section
variable {sc : Nat × (Nat → Int32)} {d : Nat} {v v0 : zV} {u : zU}
def countA (v : zV) (w : Int) : Int := if w = 0 then zg v 16 8 else if w = 1 then zg v 16 9 else if w = 2 then zg v 16 10 else if w = 3 then zg v 33 0 else if w = 4 then zg v 28 9 else if w = 5 then zg v 28 10 else if w = 6 then zsg (mudC v) (zg v 16 8) else if w = 7 then zsg (fun k => zg v 34 (k * 6 + 5)) (zg v 33 0) else if w = 8 then zg v 2 1 else zg v 44 (w - 9)
theorem c107 {w : Int} (hd : 6 ≤ d) (hw : -2147483648 ≤ w ∧ w < 2147483648) (hB : WB v) (hl : ∀ p, 0 ≤ p → p < 6 → 0 ≤ zg v 30 p ∧ zg v 30 p ≤ 40) (hc : 0 ≤ zg v 33 0 ∧ zg v 33 0 ≤ 30) : zEv sc 107 d 0 [.ref 0, .int (zI w)] [] (zmk v u) 0 0 (zqu (0 ≤ w ∧ w ≤ 11) (zI (countA v w)) v u) := by
  have b0 := hB.1
  refine e_il1 o107_0 ?_
  by_cases hsw1 : 0 ≤ w ∧ w ≤ 11
  · rcases (show w = 0 ∨ w = 1 ∨ w = 2 ∨ w = 3 ∨ w = 4 ∨ w = 5 ∨ w = 6 ∨ w = 7 ∨ w = 8 ∨ w = 9 ∨ w = 10 ∨ w = 11 by omega) with esw | esw | esw | esw | esw | esw | esw | esw | esw | esw | esw | esw
    · subst esw
      refine e_sw 63 o107_1 64 rfl rfl ?_
      refine e_al0 o107_64 (e_gR o107_65 L0 rfl rfl (e_gI o107_68 L16 rfl 8 rfl ?_))
      refine e_rT o107_71 K107 rfl rfl ?_
      exact ⟨⟨by omega, by omega⟩, rfl, rfl, rfl⟩
    · subst esw
      refine e_sw 71 o107_1 72 rfl rfl ?_
      refine e_al0 o107_72 (e_gR o107_73 L0 rfl rfl (e_gI o107_76 L16 rfl 9 rfl ?_))
      refine e_rT o107_79 K107 rfl rfl ?_
      exact ⟨⟨by omega, by omega⟩, rfl, rfl, rfl⟩
    · subst esw
      refine e_sw 79 o107_1 80 rfl rfl ?_
      refine e_al0 o107_80 (e_gR o107_81 L0 rfl rfl (e_gI o107_84 L16 rfl 10 rfl ?_))
      refine e_rT o107_87 K107 rfl rfl ?_
      exact ⟨⟨by omega, by omega⟩, rfl, rfl, rfl⟩
    · subst esw
      refine e_sw 87 o107_1 88 rfl rfl ?_
      refine e_al0 o107_88 (e_gR o107_89 L0 rfl rfl (e_gR o107_92 L28 rfl rfl (e_gI o107_95 L33 rfl 0 rfl ?_)))
      refine e_rT o107_98 K107 rfl rfl ?_
      exact ⟨⟨by omega, by omega⟩, rfl, rfl, rfl⟩
    · subst esw
      refine e_sw 98 o107_1 99 rfl rfl ?_
      refine e_al0 o107_99 (e_gR o107_100 L0 rfl rfl (e_gI o107_103 L28 rfl 9 rfl ?_))
      refine e_rT o107_106 K107 rfl rfl ?_
      exact ⟨⟨by omega, by omega⟩, rfl, rfl, rfl⟩
    · subst esw
      refine e_sw 106 o107_1 107 rfl rfl ?_
      refine e_al0 o107_107 (e_gR o107_108 L0 rfl rfl (e_gI o107_111 L28 rfl 10 rfl ?_))
      refine e_rT o107_114 K107 rfl rfl ?_
      exact ⟨⟨by omega, by omega⟩, rfl, rfl, rfl⟩
    · subst esw
      refine e_sw 114 o107_1 115 rfl rfl ?_
      refine e_al0 o107_115 (e_gR o107_116 L0 rfl rfl (e_gR o107_119 L28 rfl rfl (e_al0 o107_122 (e_gR o107_123 L0 rfl rfl (e_Vi1 o107_126 K107 K20 rfl ⟨rfl, rfl⟩ (zrcv_I L29 rfl) (by omega) rfl (c20 (by omega) b0.1 b0.2 (fun p p0 p1 => by have e1 := (hB.2.2.2.1 p p0 p1).1; have e2 := hl p p0 (by omega); omega)) ?_)))))
      rintro _ _ _ ⟨rfl, rfl, rfl⟩
      refine e_rT o107_129 K107 rfl rfl ?_
      exact ⟨⟨by omega, by omega⟩, rfl, rfl, rfl⟩
    · subst esw
      refine e_sw 129 o107_1 130 rfl rfl ?_
      refine e_al0 o107_130 (e_gR o107_131 L0 rfl rfl (e_gR o107_134 L28 rfl rfl (e_Vi0 o107_137 K107 K58 rfl ⟨rfl, rfl⟩ (zrcv_I L33 rfl) (by omega) rfl (c58 (by omega) hc.1 hc.2) ?_)))
      rintro _ _ _ ⟨rfl, rfl, rfl⟩
      refine e_rT o107_140 K107 rfl rfl ?_
      exact ⟨⟨by omega, by omega⟩, rfl, rfl, rfl⟩
    · subst esw
      refine e_sw 140 o107_1 141 rfl rfl ?_
      refine e_al0 o107_141 (e_gR o107_142 L0 rfl rfl (e_gR o107_145 L1 rfl rfl (e_gI o107_148 L2 rfl 1 rfl ?_)))
      refine e_rT o107_151 K107 rfl rfl ?_
      exact ⟨⟨by omega, by omega⟩, rfl, rfl, rfl⟩
    · subst esw
      refine e_sw 151 o107_1 152 rfl rfl ?_
      refine e_al0 o107_152 (e_gR o107_153 L0 rfl rfl (e_gR o107_156 L28 rfl rfl (e_ico o107_159 (e_ial o107_160 L44 (by omega) (by omega) ?_))))
      refine e_rT o107_161 K107 rfl rfl ?_
      exact ⟨⟨by omega, by omega⟩, rfl, rfl, rfl⟩
    · subst esw
      refine e_sw 161 o107_1 162 rfl rfl ?_
      refine e_al0 o107_162 (e_gR o107_163 L0 rfl rfl (e_gR o107_166 L28 rfl rfl (e_ico o107_169 (e_ial o107_170 L44 (by omega) (by omega) ?_))))
      refine e_rT o107_171 K107 rfl rfl ?_
      exact ⟨⟨by omega, by omega⟩, rfl, rfl, rfl⟩
    · subst esw
      refine e_sw 171 o107_1 172 rfl rfl ?_
      refine e_al0 o107_172 (e_gR o107_173 L0 rfl rfl (e_gR o107_176 L28 rfl rfl (e_ico o107_179 (e_ial o107_180 L44 (by omega) (by omega) ?_))))
      refine e_rT o107_181 K107 rfl rfl ?_
      exact ⟨⟨by omega, by omega⟩, rfl, rfl, rfl⟩
  · refine e_swD o107_1 182 (by first | exact zg_rg _ _ _ | exact zt_rg _ | omega) (by omega) rfl ?_
    refine e_throw 0 o107_182 K107 (s := 18) rfl rfl (by omega) o107_185 (Or.inl ⟨o107_186, o107_188, o107_191⟩) ?_
    exact zPt_thr (by decide) ⟨by omega, rfl, rfl, rfl⟩
def countM (v : zV) (w : Int) : Int := if w = 0 then zg v 82 0 else if w = 1 then zg v 82 1 else if w = 2 then zg v 82 2 else if w = 3 then zg v 79 30 else if w = 4 then zg v 79 32 else if w = 5 then zg v 79 33 else if w = 6 then zsg (fun p => max 0 (zg v 17 p - cnt (zg v 93) p (zg v 16 9))) (zg v 16 8) else if w = 7 then zsg (fun k => zg v 99 (6 * k + 5)) (zg v 79 30) else if w = 8 then zg v 79 14 else zg v 91 (w - 9)
theorem m162 {w : Int} (hd : 4 ≤ d) (hE : EW v) (hB : WB v) (hw : -2147483648 ≤ w ∧ w < 2147483648) (hc : 0 ≤ zg v 79 30 ∧ zg v 79 30 ≤ 30) : zEv sc 162 d 0 [.ref 79, .int (zI w)] [] (zmk v u) 0 0 (mqu (0 ≤ w ∧ w ≤ 11) (zI (countM v w)) v u) := by
  have zz : ∀ a, ¬ a = 79 → zg (zu v 79 2 (zI 0)) a = zg v a := fun a h => funext fun k => zg_na h
  have z7 : ∀ k, ¬ k = 2 → zg (zu v 79 2 (zI 0)) 79 k = zg v 79 k := fun k h => zg_ne (by omega)
  refine e_al0 o162_0 (e_ico o162_1 (e_pI o162_2 L79 rfl rfl rfl rfl 2 rfl (e_il1 o162_5 ?_)))
  by_cases hsw6 : 0 ≤ w ∧ w ≤ 11
  · rcases (show w = 0 ∨ w = 1 ∨ w = 2 ∨ w = 3 ∨ w = 4 ∨ w = 5 ∨ w = 6 ∨ w = 7 ∨ w = 8 ∨ w = 9 ∨ w = 10 ∨ w = 11 by omega) with esw | esw | esw | esw | esw | esw | esw | esw | esw | esw | esw | esw
    · subst esw
      refine e_sw 62 o162_6 68 rfl rfl ?_
      refine e_al0 o162_68 (e_gR o162_69 L79 rfl rfl (e_il1 o162_72 (e_ial o162_73 L82 (by omega) (by omega) ?_)))
      rw [zz 82 (by decide)]
      refine e_rI o162_74 K162 rfl rfl ?_
      exact Or.inl ⟨by omega, rfl, rfl, rfl⟩
    · subst esw
      refine e_sw 62 o162_6 68 rfl rfl ?_
      refine e_al0 o162_68 (e_gR o162_69 L79 rfl rfl (e_il1 o162_72 (e_ial o162_73 L82 (by omega) (by omega) ?_)))
      rw [zz 82 (by decide)]
      refine e_rI o162_74 K162 rfl rfl ?_
      exact Or.inl ⟨by omega, rfl, rfl, rfl⟩
    · subst esw
      refine e_sw 62 o162_6 68 rfl rfl ?_
      refine e_al0 o162_68 (e_gR o162_69 L79 rfl rfl (e_il1 o162_72 (e_ial o162_73 L82 (by omega) (by omega) ?_)))
      rw [zz 82 (by decide)]
      refine e_rI o162_74 K162 rfl rfl ?_
      exact Or.inl ⟨by omega, rfl, rfl, rfl⟩
    · subst esw
      refine e_sw 69 o162_6 75 rfl rfl ?_
      refine e_al0 o162_75 (e_gI o162_76 L79 rfl 30 rfl ?_)
      rw [z7 _ (by omega)]
      refine e_rI o162_79 K162 rfl rfl ?_
      exact Or.inl ⟨by omega, rfl, rfl, rfl⟩
    · subst esw
      refine e_sw 74 o162_6 80 rfl rfl ?_
      refine e_al0 o162_80 (e_gI o162_81 L79 rfl 32 rfl ?_)
      rw [z7 _ (by omega)]
      refine e_rI o162_84 K162 rfl rfl ?_
      exact Or.inl ⟨by omega, rfl, rfl, rfl⟩
    · subst esw
      refine e_sw 79 o162_6 85 rfl rfl ?_
      refine e_al0 o162_85 (e_gI o162_86 L79 rfl 33 rfl ?_)
      rw [z7 _ (by omega)]
      refine e_rI o162_89 K162 rfl rfl ?_
      exact Or.inl ⟨by omega, rfl, rfl, rfl⟩
    · subst esw
      refine e_sw 84 o162_6 90 rfl rfl ?_
      refine e_al0 o162_90 (e_al0 o162_91 (e_gR o162_92 L79 rfl rfl (e_Vi1 o162_95 K162 K163 rfl ⟨rfl, rfl⟩ (zrcv_I L79 rfl) (by omega) rfl (m163 (by omega) rfl (EW_z hE) (WB_z hB)) ?_)))
      rintro _ _ _ ⟨rfl, rfl, rfl⟩
      rw [zz 93 (by decide), zz 16 (by decide), zz 17 (by decide)]
      refine e_rI o162_98 K162 rfl rfl ?_
      exact Or.inl ⟨by omega, rfl, rfl, rfl⟩
    · subst esw
      refine e_sw 93 o162_6 99 rfl rfl ?_
      refine e_al0 o162_99 (e_Vi0 o162_100 K162 K166 rfl ⟨rfl, rfl⟩ (zrcv_I L79 rfl) (by omega) rfl (m166 (by rw [z7 _ (by omega)]; exact hc)) ?_)
      rintro _ _ _ ⟨rfl, rfl, rfl⟩
      rw [zz 99 (by decide), z7 _ (by omega)]
      refine e_rI o162_103 K162 rfl rfl ?_
      exact Or.inl ⟨by omega, rfl, rfl, rfl⟩
    · subst esw
      refine e_sw 98 o162_6 104 rfl rfl ?_
      refine e_al0 o162_104 (e_gI o162_105 L79 rfl 14 rfl ?_)
      rw [z7 _ (by omega)]
      refine e_rI o162_108 K162 rfl rfl ?_
      exact Or.inl ⟨by omega, rfl, rfl, rfl⟩
    · subst esw
      refine e_sw 103 o162_6 109 rfl rfl ?_
      refine e_al0 o162_109 (e_gR o162_110 L79 rfl rfl (e_il1 o162_113 (e_bip o162_114 rfl (e_sub o162_116 (e_ial o162_117 L91 (by omega) (by omega) ?_)))))
      rw [zz 91 (by decide)]
      refine e_rI o162_118 K162 rfl rfl ?_
      exact Or.inl ⟨by omega, rfl, rfl, rfl⟩
    · subst esw
      refine e_sw 103 o162_6 109 rfl rfl ?_
      refine e_al0 o162_109 (e_gR o162_110 L79 rfl rfl (e_il1 o162_113 (e_bip o162_114 rfl (e_sub o162_116 (e_ial o162_117 L91 (by omega) (by omega) ?_)))))
      rw [zz 91 (by decide)]
      refine e_rI o162_118 K162 rfl rfl ?_
      exact Or.inl ⟨by omega, rfl, rfl, rfl⟩
    · subst esw
      refine e_sw 103 o162_6 109 rfl rfl ?_
      refine e_al0 o162_109 (e_gR o162_110 L79 rfl rfl (e_il1 o162_113 (e_bip o162_114 rfl (e_sub o162_116 (e_ial o162_117 L91 (by omega) (by omega) ?_)))))
      rw [zz 91 (by decide)]
      refine e_rI o162_118 K162 rfl rfl ?_
      exact Or.inl ⟨by omega, rfl, rfl, rfl⟩
  · refine e_swD o162_6 119 (by first | exact zg_rg _ _ _ | exact zt_rg _ | omega) (by omega) rfl ?_
    refine e_al0 o162_119 (e_ico o162_120 (e_Vi1 o162_121 K162 K133 rfl ⟨rfl, rfl⟩ (zrcv_I L79 rfl) (by omega) rfl m133 ?_))
    rintro _ _ _ ⟨rfl, rfl, rfl⟩
    refine e_rI o162_124 K162 rfl rfl ?_
    exact Or.inr ⟨by omega, rfl, rfl, rfl⟩
end
