def imH (v : zV) : zV := zu (zu (zu (zu (zu (zu (v) 79 2 (zI 0)) 79 49 (zI 1)) 79 50 (zI (zg (zu (zu (v) 79 2 (zI 0)) 79 49 (zI 1)) 79 30))) 79 51 (zI (zg (zu (zu (zu (v) 79 2 (zI 0)) 79 49 (zI 1)) 79 50 (zI (zg (zu (zu (v) 79 2 (zI 0)) 79 49 (zI 1)) 79 30))) 79 31))) 79 52 (zI (zg (zu (zu (zu (zu (v) 79 2 (zI 0)) 79 49 (zI 1)) 79 50 (zI (zg (zu (zu (v) 79 2 (zI 0)) 79 49 (zI 1)) 79 30))) 79 51 (zI (zg (zu (zu (zu (v) 79 2 (zI 0)) 79 49 (zI 1)) 79 50 (zI (zg (zu (zu (v) 79 2 (zI 0)) 79 49 (zI 1)) 79 30))) 79 31))) 79 32))) 79 53 (zI (zg (zu (zu (zu (zu (zu (v) 79 2 (zI 0)) 79 49 (zI 1)) 79 50 (zI (zg (zu (zu (v) 79 2 (zI 0)) 79 49 (zI 1)) 79 30))) 79 51 (zI (zg (zu (zu (zu (v) 79 2 (zI 0)) 79 49 (zI 1)) 79 50 (zI (zg (zu (zu (v) 79 2 (zI 0)) 79 49 (zI 1)) 79 30))) 79 31))) 79 52 (zI (zg (zu (zu (zu (zu (v) 79 2 (zI 0)) 79 49 (zI 1)) 79 50 (zI (zg (zu (zu (v) 79 2 (zI 0)) 79 49 (zI 1)) 79 30))) 79 51 (zI (zg (zu (zu (zu (v) 79 2 (zI 0)) 79 49 (zI 1)) 79 50 (zI (zg (zu (zu (v) 79 2 (zI 0)) 79 49 (zI 1)) 79 30))) 79 31))) 79 32))) 79 33))
def imB (v : zV) : zV := zcp (zcp (zcp (zcp (zcp (zcp (zcp (zcp (zcp (v) 93 109 0 0 171) 95 110 0 0 5130) 99 111 0 0 180) 100 112 0 0 4) 101 113 0 0 4) 105 114 0 0 10) 106 115 0 0 10) 107 116 0 0 10) 91 117 0 0 3
def reH (v : zV) : zV := zu (zu (zu (zu (zu (v) 79 2 (zI 0)) 79 30 (zI (zg (zu (v) 79 2 (zI 0)) 79 50))) 79 31 (zI (zg (zu (zu (v) 79 2 (zI 0)) 79 30 (zI (zg (zu (v) 79 2 (zI 0)) 79 50))) 79 51))) 79 32 (zI (zg (zu (zu (zu (v) 79 2 (zI 0)) 79 30 (zI (zg (zu (v) 79 2 (zI 0)) 79 50))) 79 31 (zI (zg (zu (zu (v) 79 2 (zI 0)) 79 30 (zI (zg (zu (v) 79 2 (zI 0)) 79 50))) 79 51))) 79 52))) 79 33 (zI (zg (zu (zu (zu (zu (v) 79 2 (zI 0)) 79 30 (zI (zg (zu (v) 79 2 (zI 0)) 79 50))) 79 31 (zI (zg (zu (zu (v) 79 2 (zI 0)) 79 30 (zI (zg (zu (v) 79 2 (zI 0)) 79 50))) 79 51))) 79 32 (zI (zg (zu (zu (zu (v) 79 2 (zI 0)) 79 30 (zI (zg (zu (v) 79 2 (zI 0)) 79 50))) 79 31 (zI (zg (zu (zu (v) 79 2 (zI 0)) 79 30 (zI (zg (zu (v) 79 2 (zI 0)) 79 50))) 79 51))) 79 52))) 79 53))
def reB (v : zV) : zV := zcp (zcp (zcp (zcp (zcp (zcp (zcp (zcp (zcp (v) 109 93 0 0 171) 110 95 0 0 5130) 111 99 0 0 180) 112 100 0 0 4) 113 101 0 0 4) 114 105 0 0 10) 115 106 0 0 10) 116 107 0 0 10) 117 91 0 0 3
section
variable {sc : Nat × (Nat → Int32)} {d : Nat} {v : zV} {u : zU}
theorem m207 (hd : 1 ≤ d) : zEv sc 207 d 0 [.ref 79] [] (zmk v u) 0 0 (zdo (imB (imH v)) u) := by
  refine e_al0 o207_0 (e_ico o207_1 (e_pI o207_2 L79 rfl rfl rfl rfl 2 rfl (e_al0 o207_5 (e_ico o207_6 (e_pI o207_7 L79 rfl rfl rfl rfl 49 rfl (e_al0 o207_10 (e_al0 o207_11 (e_gI o207_12 L79 rfl 30 rfl (e_pI o207_15 L79 rfl rfl rfl rfl 50 rfl (e_al0 o207_18 (e_al0 o207_19 (e_gI o207_20 L79 rfl 31 rfl (e_pI o207_23 L79 rfl rfl rfl rfl 51 rfl (e_al0 o207_26 (e_al0 o207_27 (e_gI o207_28 L79 rfl 32 rfl (e_pI o207_31 L79 rfl rfl rfl rfl 52 rfl (e_al0 o207_34 (e_al0 o207_35 (e_gI o207_36 L79 rfl 33 rfl (e_pI o207_39 L79 rfl rfl rfl rfl 53 rfl (e_al0 o207_42 (e_gR o207_43 L79 rfl rfl (e_al0 o207_46 (e_gR o207_47 L79 rfl rfl (e_Sv2 o207_50 K207 K195 rfl ⟨rfl, rfl⟩ (by omega) rfl (m195 (n := 171) (m := 171) L109 L93 (by decide) (by decide)) ?_))))))))))))))))))))))))))
  rintro _ _ ⟨rfl, rfl⟩
  refine e_al0 o207_53 (e_gR o207_54 L79 rfl rfl (e_al0 o207_57 (e_gR o207_58 L79 rfl rfl (e_Sv2 o207_61 K207 K195 rfl ⟨rfl, rfl⟩ (by omega) rfl (m195 (n := 5130) (m := 5130) L110 L95 (by decide) (by decide)) ?_))))
  rintro _ _ ⟨rfl, rfl⟩
  refine e_al0 o207_64 (e_gR o207_65 L79 rfl rfl (e_al0 o207_68 (e_gR o207_69 L79 rfl rfl (e_Sv2 o207_72 K207 K195 rfl ⟨rfl, rfl⟩ (by omega) rfl (m195 (n := 180) (m := 180) L111 L99 (by decide) (by decide)) ?_))))
  rintro _ _ ⟨rfl, rfl⟩
  refine e_al0 o207_75 (e_gR o207_76 L79 rfl rfl (e_al0 o207_79 (e_gR o207_80 L79 rfl rfl (e_Sv2 o207_83 K207 K195 rfl ⟨rfl, rfl⟩ (by omega) rfl (m195 (n := 4) (m := 4) L112 L100 (by decide) (by decide)) ?_))))
  rintro _ _ ⟨rfl, rfl⟩
  refine e_al0 o207_86 (e_gR o207_87 L79 rfl rfl (e_al0 o207_90 (e_gR o207_91 L79 rfl rfl (e_Sv2 o207_94 K207 K195 rfl ⟨rfl, rfl⟩ (by omega) rfl (m195 (n := 4) (m := 4) L113 L101 (by decide) (by decide)) ?_))))
  rintro _ _ ⟨rfl, rfl⟩
  refine e_al0 o207_97 (e_gR o207_98 L79 rfl rfl (e_al0 o207_101 (e_gR o207_102 L79 rfl rfl (e_Sv2 o207_105 K207 K195 rfl ⟨rfl, rfl⟩ (by omega) rfl (m195 (n := 10) (m := 10) L114 L105 (by decide) (by decide)) ?_))))
  rintro _ _ ⟨rfl, rfl⟩
  refine e_al0 o207_108 (e_gR o207_109 L79 rfl rfl (e_al0 o207_112 (e_gR o207_113 L79 rfl rfl (e_Sv2 o207_116 K207 K195 rfl ⟨rfl, rfl⟩ (by omega) rfl (m195 (n := 10) (m := 10) L115 L106 (by decide) (by decide)) ?_))))
  rintro _ _ ⟨rfl, rfl⟩
  refine e_al0 o207_119 (e_gR o207_120 L79 rfl rfl (e_al0 o207_123 (e_gR o207_124 L79 rfl rfl (e_Sv2 o207_127 K207 K195 rfl ⟨rfl, rfl⟩ (by omega) rfl (m195 (n := 10) (m := 10) L116 L107 (by decide) (by decide)) ?_))))
  rintro _ _ ⟨rfl, rfl⟩
  refine e_al0 o207_130 (e_gR o207_131 L79 rfl rfl (e_al0 o207_134 (e_gR o207_135 L79 rfl rfl (e_Sv2 o207_138 K207 K195 rfl ⟨rfl, rfl⟩ (by omega) rfl (m195 (n := 3) (m := 3) L117 L91 (by decide) (by decide)) ?_))))
  rintro _ _ ⟨rfl, rfl⟩
  refine e_rV o207_141 K207 rfl rfl ?_
  exact ⟨rfl, rfl⟩
theorem m208 (hd : 1 ≤ d) (h : zg v 79 49 = 0 ∨ zg v 79 49 = 1) : zEv sc 208 d 0 [.ref 79] [] (zmk v u) 0 0 (zPi fun r w t => (zg v 79 49 = 0 ∧ zI 0 = r ∧ zu v 79 2 (zI 0) = w ∧ u = t) ∨ (zg v 79 49 = 1 ∧ zI 1 = r ∧ reB (reH v) = w ∧ u = t)) := by
  refine e_al0 o208_0 (e_ico o208_1 (e_pI o208_2 L79 rfl rfl rfl rfl 2 rfl (e_al0 o208_5 (e_gI o208_6 L79 rfl 49 rfl ?_))))
  rw [zg_ne (by omega)]
  refine e_if_ne o208_9 14 rfl (by first | exact zg_rg _ _ _ | exact zt_rg _ | omega) (fun hb9 => ?_) (fun hb9 => ?_)
  · refine e_al0 o208_14 (e_al0 o208_15 (e_gI o208_16 L79 rfl 50 rfl (e_pI o208_19 L79 rfl rfl rfl rfl 30 rfl (e_al0 o208_22 (e_al0 o208_23 (e_gI o208_24 L79 rfl 51 rfl (e_pI o208_27 L79 rfl rfl rfl rfl 31 rfl (e_al0 o208_30 (e_al0 o208_31 (e_gI o208_32 L79 rfl 52 rfl (e_pI o208_35 L79 rfl rfl rfl rfl 32 rfl (e_al0 o208_38 (e_al0 o208_39 (e_gI o208_40 L79 rfl 53 rfl (e_pI o208_43 L79 rfl rfl rfl rfl 33 rfl (e_al0 o208_46 (e_gR o208_47 L79 rfl rfl (e_al0 o208_50 (e_gR o208_51 L79 rfl rfl (e_Sv2 o208_54 K208 K195 rfl ⟨rfl, rfl⟩ (by omega) rfl (m195 (n := 171) (m := 171) L93 L109 (by decide) (by decide)) ?_))))))))))))))))))))
    rintro _ _ ⟨rfl, rfl⟩
    refine e_al0 o208_57 (e_gR o208_58 L79 rfl rfl (e_al0 o208_61 (e_gR o208_62 L79 rfl rfl (e_Sv2 o208_65 K208 K195 rfl ⟨rfl, rfl⟩ (by omega) rfl (m195 (n := 5130) (m := 5130) L95 L110 (by decide) (by decide)) ?_))))
    rintro _ _ ⟨rfl, rfl⟩
    refine e_al0 o208_68 (e_gR o208_69 L79 rfl rfl (e_al0 o208_72 (e_gR o208_73 L79 rfl rfl (e_Sv2 o208_76 K208 K195 rfl ⟨rfl, rfl⟩ (by omega) rfl (m195 (n := 180) (m := 180) L99 L111 (by decide) (by decide)) ?_))))
    rintro _ _ ⟨rfl, rfl⟩
    refine e_al0 o208_79 (e_gR o208_80 L79 rfl rfl (e_al0 o208_83 (e_gR o208_84 L79 rfl rfl (e_Sv2 o208_87 K208 K195 rfl ⟨rfl, rfl⟩ (by omega) rfl (m195 (n := 4) (m := 4) L100 L112 (by decide) (by decide)) ?_))))
    rintro _ _ ⟨rfl, rfl⟩
    refine e_al0 o208_90 (e_gR o208_91 L79 rfl rfl (e_al0 o208_94 (e_gR o208_95 L79 rfl rfl (e_Sv2 o208_98 K208 K195 rfl ⟨rfl, rfl⟩ (by omega) rfl (m195 (n := 4) (m := 4) L101 L113 (by decide) (by decide)) ?_))))
    rintro _ _ ⟨rfl, rfl⟩
    refine e_al0 o208_101 (e_gR o208_102 L79 rfl rfl (e_al0 o208_105 (e_gR o208_106 L79 rfl rfl (e_Sv2 o208_109 K208 K195 rfl ⟨rfl, rfl⟩ (by omega) rfl (m195 (n := 10) (m := 10) L105 L114 (by decide) (by decide)) ?_))))
    rintro _ _ ⟨rfl, rfl⟩
    refine e_al0 o208_112 (e_gR o208_113 L79 rfl rfl (e_al0 o208_116 (e_gR o208_117 L79 rfl rfl (e_Sv2 o208_120 K208 K195 rfl ⟨rfl, rfl⟩ (by omega) rfl (m195 (n := 10) (m := 10) L106 L115 (by decide) (by decide)) ?_))))
    rintro _ _ ⟨rfl, rfl⟩
    refine e_al0 o208_123 (e_gR o208_124 L79 rfl rfl (e_al0 o208_127 (e_gR o208_128 L79 rfl rfl (e_Sv2 o208_131 K208 K195 rfl ⟨rfl, rfl⟩ (by omega) rfl (m195 (n := 10) (m := 10) L107 L116 (by decide) (by decide)) ?_))))
    rintro _ _ ⟨rfl, rfl⟩
    refine e_al0 o208_134 (e_gR o208_135 L79 rfl rfl (e_al0 o208_138 (e_gR o208_139 L79 rfl rfl (e_Sv2 o208_142 K208 K195 rfl ⟨rfl, rfl⟩ (by omega) rfl (m195 (n := 3) (m := 3) L91 L117 (by decide) (by decide)) ?_))))
    rintro _ _ ⟨rfl, rfl⟩
    refine e_ico o208_145 ?_
    refine e_rI o208_146 K208 (by decide) rfl ?_
    exact Or.inr ⟨by omega, rfl, rfl, rfl⟩
  · refine e_ico o208_12 ?_
    refine e_rI o208_13 K208 (by decide) rfl ?_
    exact Or.inl ⟨hb9, rfl, rfl, rfl⟩
end
