section
variable {sc : Nat × (Nat → Int32)} {d : Nat} {v v0 : zV} {u : zU}
def stoneA (v : zV) (u : zU) (L : Int → Int) (s w : Int) : Int32 := if w = 0 then v 19 s else if w = 1 then v 20 s else if w = 2 then zI (ptC v u s (zg v 33 0)) else if w = 3 then zI (L s) else if w = 4 then zI (lst (bitC u s) (zg v 33 0)) else btsC v u s (zg v 33 0)
theorem c110 {s w : Int} {P L : Int → Int} (hd : 9 ≤ d) (hs : -2147483648 ≤ s ∧ s < 2147483648) (hw : -2147483648 ≤ w ∧ w < 2147483648) (hB : WB v) (hC : CS v P L) (hP : ∀ s, 0 ≤ s → s < zg v 16 9 → ¬ P s = -1) (hc : 0 ≤ zg v 33 0 ∧ zg v 33 0 ≤ 30) : zEv sc 110 d 0 [.ref 0, .int (zI s), .int (zI w)] [] (zmk v u) 0 0 (zqu ((0 ≤ s ∧ s < zg v 16 9) ∧ 0 ≤ w ∧ w ≤ 5) (stoneA v u L s w) v u) := by
  have b0 := hB.2.1
  refine e_al0 o110_0 (e_il1 o110_1 ?_)
  refine e_V (as := [_]) o110_2 K110 K111 rfl (zrcv_I L0 rfl) (by omega) rfl rfl (c111 (by omega) hs) (zaf_S (kc' := 1) (ks' := 6) rfl rfl rfl ?_ (fun e w t he ht => by obtain ⟨h1, rfl, rfl, rfl⟩ := ht; exact zPt_thr (by decide) ⟨by omega, rfl, rfl, rfl⟩))
  rintro _ _ ⟨h2, rfl, rfl⟩
  refine e_il2 o110_5 ?_
  by_cases hsw6 : 0 ≤ w ∧ w ≤ 5
  · rcases (show w = 0 ∨ w = 1 ∨ w = 2 ∨ w = 3 ∨ w = 4 ∨ w = 5 by omega) with esw | esw | esw | esw | esw | esw
    · subst esw
      refine e_sw 38 o110_6 44 rfl rfl ?_
      refine e_al0 o110_44 (e_gR o110_45 L0 rfl rfl (e_gR o110_48 L16 rfl rfl (e_il1 o110_51 (e_ial o110_52 L19 (by omega) (by omega) ?_))))
      refine e_rT o110_53 K110 rfl rfl ?_
      exact ⟨⟨h2, by omega, by omega⟩, by rw [zI_g]; rfl, rfl, rfl⟩
    · subst esw
      refine e_sw 48 o110_6 54 rfl rfl ?_
      refine e_al0 o110_54 (e_gR o110_55 L0 rfl rfl (e_gR o110_58 L16 rfl rfl (e_il1 o110_61 (e_ial o110_62 L20 (by omega) (by omega) ?_))))
      refine e_rT o110_63 K110 rfl rfl ?_
      exact ⟨⟨h2, by omega, by omega⟩, by rw [zI_g]; rfl, rfl, rfl⟩
    · subst esw
      refine e_sw 58 o110_6 64 rfl rfl ?_
      refine e_al0 o110_64 (e_gR o110_65 L0 rfl rfl (e_gR o110_68 L28 rfl rfl (e_al0 o110_71 (e_gR o110_72 L0 rfl rfl (e_il1 o110_75 (e_al0 o110_76 (e_gR o110_77 L0 rfl rfl (e_gR o110_80 L28 rfl rfl (e_gI o110_83 L33 rfl 0 rfl (e_Vi3 o110_86 K110 K60 rfl ⟨rfl, rfl⟩ (zrcv_I L33 rfl) (by omega) rfl (c60 (by omega) hc.1 hc.2 h2.1 (by omega)) ?_))))))))))
      rintro _ _ _ ⟨rfl, rfl, rfl⟩
      refine e_rT o110_89 K110 rfl rfl ?_
      exact ⟨⟨h2, by omega, by omega⟩, rfl, rfl, rfl⟩
    · subst esw
      refine e_sw 84 o110_6 90 rfl rfl ?_
      refine e_al0 o110_90 (e_gR o110_91 L0 rfl rfl (e_gR o110_94 L28 rfl rfl (e_il1 o110_97 (e_Vi1 o110_98 K110 K28 rfl ⟨rfl, rfl⟩ (zrcv_I L29 rfl) (by omega) rfl (c28 (by omega) hC hB.wf h2.1 h2.2 (hP s h2.1 h2.2)) ?_))))
      rintro _ _ _ ⟨rfl, rfl, rfl⟩
      refine e_rT o110_101 K110 rfl rfl ?_
      exact ⟨⟨h2, by omega, by omega⟩, rfl, rfl, rfl⟩
    · subst esw
      refine e_sw 96 o110_6 102 rfl rfl ?_
      refine e_al0 o110_102 (e_gR o110_103 L0 rfl rfl (e_gR o110_106 L28 rfl rfl (e_il1 o110_109 (e_al0 o110_110 (e_gR o110_111 L0 rfl rfl (e_gR o110_114 L28 rfl rfl (e_gI o110_117 L33 rfl 0 rfl (e_Vi2 o110_120 K110 K61 rfl ⟨rfl, rfl⟩ (zrcv_I L33 rfl) (by omega) rfl (c61 (by omega) hc.1 hc.2) ?_))))))))
      rintro _ _ _ ⟨rfl, rfl, rfl⟩
      refine e_rT o110_123 K110 rfl rfl ?_
      exact ⟨⟨h2, by omega, by omega⟩, rfl, rfl, rfl⟩
    · subst esw
      refine e_sw 118 o110_6 124 rfl rfl ?_
      refine e_al0 o110_124 (e_gR o110_125 L0 rfl rfl (e_gR o110_128 L28 rfl rfl (e_al0 o110_131 (e_gR o110_132 L0 rfl rfl (e_il1 o110_135 (e_Vi2 o110_136 K110 K63 rfl ⟨rfl, rfl⟩ (zrcv_I L33 rfl) (by omega) rfl (c63 (by omega) hc.1 hc.2 h2.1 (by omega)) ?_))))))
      rintro _ _ _ ⟨rfl, rfl, rfl⟩
      refine e_rT o110_139 K110 rfl rfl ?_
      exact ⟨⟨h2, by omega, by omega⟩, rfl, rfl, rfl⟩
  · refine e_swD o110_6 140 (by first | exact zg_rg _ _ _ | exact zt_rg _ | omega) (by omega) rfl ?_
    refine e_throw 0 o110_140 K110 (s := 22) rfl rfl (by omega) o110_143 (Or.inl ⟨o110_144, o110_146, o110_149⟩) ?_
    exact zPt_thr (by decide) ⟨by omega, rfl, rfl, rfl⟩
theorem c14 {s t : Int32} (h0 : 0 ≤ zg v 28 9) (h1 : zg v 28 9 < 4) : zEv sc 14 d 0 [.ref 28, .int s, .int t] [] (zmk v u) 0 0 (zdo (zu (zu (zu v 39 (zg v 28 9) s) 40 (zg v 28 9) t) 28 9 (zI (zg v 28 9 + 1))) u) := by
  refine e_al0 o14_0 (e_gI o14_1 L28 rfl 9 rfl (e_ico o14_4 (e_ic_ge o14_5 38 rfl (by first | exact zg_rg _ _ _ | exact zt_rg _ | omega) (by first | exact zg_rg _ _ _ | exact zt_rg _ | omega) (fun hb5 => ?_) (fun hb5 => ?_))))
  · omega
  · refine e_al0 o14_8 (e_gR o14_9 L28 rfl rfl (e_al0 o14_12 (e_gI o14_13 L28 rfl 9 rfl (e_il1 o14_16 (e_iast o14_17 L39 (by omega) (by omega) (e_al0 o14_18 (e_gR o14_19 L28 rfl rfl (e_al0 o14_22 (e_gI o14_23 L28 rfl 9 rfl ?_)))))))))
    rw [zg_na (by decide)]
    refine e_il2 o14_26 (e_iast o14_27 L40 (by omega) (by omega) (e_al0 o14_28 (e_dupR o14_29 (e_gI o14_30 L28 rfl 9 rfl ?_))))
    rw [zg_na (by decide), zg_na (by decide)]
    refine e_ico o14_33 (e_add o14_34 (e_pI o14_35 L28 rfl rfl rfl rfl 9 rfl ?_))
    refine e_rV o14_38 K14 rfl rfl ?_
    exact ⟨rfl, rfl⟩
theorem c15 {s t y : Int32} (h0 : 0 ≤ zg v 28 10) (h1 : zg v 28 10 < 10) : zEv sc 15 d 0 [.ref 28, .int s, .int t, .int y] [] (zmk v u) 0 0 (zdo (zu (zu (zu (zu v 41 (zg v 28 10) s) 42 (zg v 28 10) t) 43 (zg v 28 10) y) 28 10 (zI (zg v 28 10 + 1))) u) := by
  refine e_al0 o15_0 (e_gI o15_1 L28 rfl 10 rfl (e_bip o15_4 rfl (e_ic_ge o15_6 49 rfl (by first | exact zg_rg _ _ _ | exact zt_rg _ | omega) (by first | exact zg_rg _ _ _ | exact zt_rg _ | omega) (fun hb6 => ?_) (fun hb6 => ?_))))
  · omega
  · refine e_al0 o15_9 (e_gR o15_10 L28 rfl rfl (e_al0 o15_13 (e_gI o15_14 L28 rfl 10 rfl (e_il1 o15_17 (e_iast o15_18 L41 (by omega) (by omega) (e_al0 o15_19 (e_gR o15_20 L28 rfl rfl (e_al0 o15_23 (e_gI o15_24 L28 rfl 10 rfl ?_)))))))))
    rw [zg_na (by decide)]
    refine e_il2 o15_27 (e_iast o15_28 L42 (by omega) (by omega) (e_al0 o15_29 (e_gR o15_30 L28 rfl rfl (e_al0 o15_33 (e_gI o15_34 L28 rfl 10 rfl ?_)))))
    rw [zg_na (by decide), zg_na (by decide)]
    refine e_il3 o15_37 (e_iast o15_38 L43 (by omega) (by omega) (e_al0 o15_39 (e_dupR o15_40 (e_gI o15_41 L28 rfl 10 rfl ?_))))
    rw [zg_na (by decide), zg_na (by decide), zg_na (by decide)]
    refine e_ico o15_44 (e_add o15_45 (e_pI o15_46 L28 rfl rfl rfl rfl 10 rfl ?_))
    refine e_rV o15_49 K15 rfl rfl ?_
    exact ⟨rfl, rfl⟩
theorem c121 {k t : Int} (hd : 9 ≤ d) (hk : -2147483648 ≤ k ∧ k < 2147483648) (ht : -2147483648 ≤ t ∧ t < 2147483648) (hl : 0 ≤ zg v 28 9 ∧ zg v 28 9 ≤ 4) : zEv sc 121 d 0 [.ref 0, .int (zI k), .int (zI t)] [] (zmk v u) 0 0 (zPt (fun y w e => ((0 ≤ k ∧ k < zg v 16 10) ∧ 0 ≤ t ∧ t < zg v 16 8) ∧ ((zg v 28 9 = 4 ∧ zI (-1) = y ∧ zu v 44 2 (zI (zg v 44 2 + 1)) = w) ∨ (zg v 28 9 < 4 ∧ zI (zg v 28 9 + 1) = y ∧ zu (zu (zu v 39 (zg v 28 9) (zI k)) 40 (zg v 28 9) (zI t)) 28 9 (zI (zg v 28 9 + 1)) = w)) ∧ u = e) (fun e w t' => ¬ ((0 ≤ k ∧ k < zg v 16 10) ∧ 0 ≤ t ∧ t < zg v 16 8) ∧ e = 0 ∧ v = w ∧ u = t')) := by
  refine e_al0 o121_0 (e_il1 o121_1 ?_)
  refine e_V (as := [_]) o121_2 K121 K114 rfl (zrcv_I L0 rfl) (by omega) rfl rfl (c114 (by omega) hk) (zaf_S (kc' := 1) (ks' := 6) rfl rfl rfl ?_ (fun e w t he ht => by obtain ⟨h1, rfl, rfl, rfl⟩ := ht; exact zPt_thr (by decide) ⟨by omega, rfl, rfl, rfl⟩))
  rintro _ _ ⟨h2, rfl, rfl⟩
  refine e_al0 o121_5 (e_il2 o121_6 ?_)
  refine e_V (as := [_]) o121_7 K121 K109 rfl (zrcv_I L0 rfl) (by omega) rfl rfl (c109 (by omega) ht) (zaf_S (kc' := 2) (ks' := 12) rfl rfl rfl ?_ (fun e w t he ht => by obtain ⟨h1, rfl, rfl, rfl⟩ := ht; exact zPt_thr (by decide) ⟨by omega, rfl, rfl, rfl⟩))
  rintro _ _ ⟨h7, rfl, rfl⟩
  refine e_al0 o121_10 (e_gR o121_11 L0 rfl rfl (e_gI o121_14 L28 rfl 9 rfl (e_ico o121_17 (e_ic_lt o121_18 36 rfl (by first | exact zg_rg _ _ _ | exact zt_rg _ | omega) (by first | exact zg_rg _ _ _ | exact zt_rg _ | omega) (fun hb18 => ?_) (fun hb18 => ?_)))))
  · refine e_al0 o121_36 (e_gR o121_37 L0 rfl rfl (e_il1 o121_40 (e_il2 o121_41 (e_Vv2 o121_42 K121 K14 rfl ⟨rfl, rfl⟩ (zrcv_I L28 rfl) (by omega) rfl (c14 hl.1 hb18) ?_))))
    rintro _ _ ⟨rfl, rfl⟩
    refine e_al0 o121_45 (e_gR o121_46 L0 rfl rfl (e_gI o121_49 L28 rfl 9 rfl ?_))
    rw [zg_same (by omega)]
    refine e_rT o121_52 K121 rfl rfl ?_
    exact ⟨⟨h2, h7⟩, Or.inr ⟨hb18, rfl, rfl⟩, rfl⟩
  · refine e_al0 o121_21 (e_gR o121_22 L0 rfl rfl (e_gR o121_25 L28 rfl rfl (e_ico o121_28 (e_dup2 o121_29 (e_ial o121_30 L44 (by omega) (by omega) (e_ico o121_31 (e_add o121_32 (e_iast o121_33 L44 (by omega) (by omega) (e_ico o121_34 ?_)))))))))
    refine e_rT o121_35 K121 rfl rfl ?_
    exact ⟨⟨h2, h7⟩, Or.inl ⟨by omega, rfl, rfl⟩, rfl⟩
theorem c123 {p o y : Int} (hd : 9 ≤ d) (hp : -2147483648 ≤ p ∧ p < 2147483648) (ho : -2147483648 ≤ o ∧ o < 2147483648) (hy : -2147483648 ≤ y ∧ y < 2147483648) (hl : 0 ≤ zg v 28 10 ∧ zg v 28 10 ≤ 10) : zEv sc 123 d 0 [.ref 0, .int (zI p), .int (zI o), .int (zI y)] [] (zmk v u) 0 0 (zPt (fun r w e => ((0 ≤ p ∧ p < zg v 16 8) ∧ 0 ≤ o ∧ o < zg v 16 8) ∧ (((zg v 28 10 = 10 ∨ ¬ (0 ≤ y ∧ y ≤ 40)) ∧ zI (-1) = r ∧ zu v 44 2 (zI (zg v 44 2 + 1)) = w) ∨ ((zg v 28 10 < 10 ∧ 0 ≤ y ∧ y ≤ 40) ∧ zI (zg v 28 10 + 1) = r ∧ zu (zu (zu (zu v 41 (zg v 28 10) (zI p)) 42 (zg v 28 10) (zI o)) 43 (zg v 28 10) (zI y)) 28 10 (zI (zg v 28 10 + 1)) = w)) ∧ u = e) (fun e w t' => ¬ ((0 ≤ p ∧ p < zg v 16 8) ∧ 0 ≤ o ∧ o < zg v 16 8) ∧ e = 0 ∧ v = w ∧ u = t')) := by
  refine e_al0 o123_0 (e_il1 o123_1 ?_)
  refine e_V (as := [_]) o123_2 K123 K109 rfl (zrcv_I L0 rfl) (by omega) rfl rfl (c109 (by omega) hp) (zaf_S (kc' := 1) (ks' := 6) rfl rfl rfl ?_ (fun e w t he ht => by obtain ⟨h1, rfl, rfl, rfl⟩ := ht; exact zPt_thr (by decide) ⟨by omega, rfl, rfl, rfl⟩))
  rintro _ _ ⟨h2, rfl, rfl⟩
  refine e_al0 o123_5 (e_il2 o123_6 ?_)
  refine e_V (as := [_]) o123_7 K123 K109 rfl (zrcv_I L0 rfl) (by omega) rfl rfl (c109 (by omega) ho) (zaf_S (kc' := 2) (ks' := 12) rfl rfl rfl ?_ (fun e w t he ht => by obtain ⟨h1, rfl, rfl, rfl⟩ := ht; exact zPt_thr (by decide) ⟨by omega, rfl, rfl, rfl⟩))
  rintro _ _ ⟨h7, rfl, rfl⟩
  refine e_al0 o123_10 (e_gR o123_11 L0 rfl rfl (e_gI o123_14 L28 rfl 10 rfl (e_bip o123_17 rfl (e_ic_ge o123_19 32 rfl (by first | exact zg_rg _ _ _ | exact zt_rg _ | omega) (by first | exact zg_rg _ _ _ | exact zt_rg _ | omega) (fun hb19 => ?_) (fun hb19 => ?_)))))
  · refine e_al0 o123_32 (e_gR o123_33 L0 rfl rfl (e_gR o123_36 L28 rfl rfl (e_ico o123_39 (e_dup2 o123_40 (e_ial o123_41 L44 (by omega) (by omega) (e_ico o123_42 (e_add o123_43 (e_iast o123_44 L44 (by omega) (by omega) (e_ico o123_45 ?_)))))))))
    refine e_rT o123_46 K123 rfl rfl ?_
    exact ⟨⟨h2, h7⟩, Or.inl ⟨by omega, rfl, rfl⟩, rfl⟩
  · refine e_il3 o123_22 (e_if_lt o123_23 32 rfl (by first | exact zg_rg _ _ _ | exact zt_rg _ | omega) (fun hb23 => ?_) (fun hb23 => ?_))
    · refine e_al0 o123_32 (e_gR o123_33 L0 rfl rfl (e_gR o123_36 L28 rfl rfl (e_ico o123_39 (e_dup2 o123_40 (e_ial o123_41 L44 (by omega) (by omega) (e_ico o123_42 (e_add o123_43 (e_iast o123_44 L44 (by omega) (by omega) (e_ico o123_45 ?_)))))))))
      refine e_rT o123_46 K123 rfl rfl ?_
      exact ⟨⟨h2, h7⟩, Or.inl ⟨by omega, rfl, rfl⟩, rfl⟩
    · refine e_il3 o123_26 (e_bip o123_27 rfl (e_ic_le o123_29 47 rfl (by first | exact zg_rg _ _ _ | exact zt_rg _ | omega) (by first | exact zg_rg _ _ _ | exact zt_rg _ | omega) (fun hb29 => ?_) (fun hb29 => ?_)))
      · refine e_al0 o123_47 (e_gR o123_48 L0 rfl rfl (e_il1 o123_51 (e_il2 o123_52 (e_il3 o123_53 (e_Vv3 o123_54 K123 K15 rfl ⟨rfl, rfl⟩ (zrcv_I L28 rfl) (by omega) rfl (c15 hl.1 hb19) ?_)))))
        rintro _ _ ⟨rfl, rfl⟩
        refine e_al0 o123_57 (e_gR o123_58 L0 rfl rfl (e_gI o123_61 L28 rfl 10 rfl ?_))
        rw [zg_same (by omega)]
        refine e_rT o123_64 K123 rfl rfl ?_
        exact ⟨⟨h2, h7⟩, Or.inr ⟨⟨hb19, by omega, by omega⟩, rfl, rfl⟩, rfl⟩
      · refine e_al0 o123_32 (e_gR o123_33 L0 rfl rfl (e_gR o123_36 L28 rfl rfl (e_ico o123_39 (e_dup2 o123_40 (e_ial o123_41 L44 (by omega) (by omega) (e_ico o123_42 (e_add o123_43 (e_iast o123_44 L44 (by omega) (by omega) (e_ico o123_45 ?_)))))))))
        refine e_rT o123_46 K123 rfl rfl ?_
        exact ⟨⟨h2, h7⟩, Or.inl ⟨by omega, rfl, rfl⟩, rfl⟩
theorem c100_no (h : zg v 33 0 ≤ zg v 33 1) : zEv sc 100 d 0 [.ref 0] [] (zmk v u) 0 0 (zis (zI (-1)) v u) := by
  refine e_al0 o100_0 (e_gR o100_1 L0 rfl rfl (e_gR o100_4 L28 rfl rfl (e_gI o100_7 L33 rfl 0 rfl (e_al0 o100_10 (e_gR o100_11 L0 rfl rfl (e_gR o100_14 L28 rfl rfl (e_gI o100_17 L33 rfl 1 rfl (e_ic_gt o100_20 25 rfl (by first | exact zg_rg _ _ _ | exact zt_rg _ | omega) (by first | exact zg_rg _ _ _ | exact zt_rg _ | omega) (fun hb20 => ?_) (fun hb20 => ?_)))))))))
  · omega
  · refine e_ico o100_23 ?_
    refine e_rI o100_24 K100 rfl rfl ?_
    exact ⟨rfl, rfl, rfl⟩
theorem c100_ok {R : zV → zU → Prop} {c : Int} (hd : 1 ≤ d) (h : zg v 33 1 < zg v 33 0) (h9 : zEv sc 9 (d - 1) 0 [.ref 28, .ref 16] [] (zmk v u) 0 0 (zPv fun w t => R w t ∧ zg w 33 0 = c)) : zEv sc 100 d 0 [.ref 0] [] (zmk v u) 0 0 (zPi fun r w t => zI c = r ∧ R w t) := by
  refine e_al0 o100_0 (e_gR o100_1 L0 rfl rfl (e_gR o100_4 L28 rfl rfl (e_gI o100_7 L33 rfl 0 rfl (e_al0 o100_10 (e_gR o100_11 L0 rfl rfl (e_gR o100_14 L28 rfl rfl (e_gI o100_17 L33 rfl 1 rfl (e_ic_gt o100_20 25 rfl (by first | exact zg_rg _ _ _ | exact zt_rg _ | omega) (by first | exact zg_rg _ _ _ | exact zt_rg _ | omega) (fun hb20 => ?_) (fun hb20 => ?_)))))))))
  · refine e_al0 o100_25 (e_gR o100_26 L0 rfl rfl (e_al0 o100_29 (e_gR o100_30 L0 rfl rfl (e_Vv1 o100_33 K100 K9 rfl ⟨rfl, rfl⟩ (zrcv_I L28 rfl) (by omega) rfl h9 ?_))))
    rintro w t ⟨r1, r2⟩
    refine e_al0 o100_36 (e_gR o100_37 L0 rfl rfl (e_gR o100_40 L28 rfl rfl (e_gI o100_43 L33 rfl 0 rfl ?_)))
    rw [r2]
    refine e_rI o100_46 K100 rfl rfl ?_
    exact ⟨rfl, r1⟩
  · omega
theorem c115 {k t y c : Int} {R : Int32 → zV → zU → Prop} (hd : 9 ≤ d) (hk : -2147483648 ≤ k ∧ k < 2147483648) (ht : -2147483648 ≤ t ∧ t < 2147483648) (hy : -2147483648 ≤ y ∧ y < 2147483648) (hB : WB v) (hc : zg v 33 0 = c) (c0 : 0 ≤ c ∧ c ≤ 30) (h13 : 0 ≤ k → k < zg v 16 10 → 0 ≤ t → t < zg v 16 8 → c < 30 → ¬ zg v 38 k = t → 0 ≤ y → y ≤ zg v 22 k → zEv sc 13 (d - 1) 0 [.ref 28, .ref 16, .int (zI k), .int (zI t), .int (zI y)] [] (zmk v u) 0 0 (zPi R)) : zEv sc 115 d 0 [.ref 0, .int (zI k), .int (zI t), .int (zI y), zJ] [] (zmk v u) 0 0 (zPt (fun r w e => ((0 ≤ k ∧ k < zg v 16 10) ∧ 0 ≤ t ∧ t < zg v 16 8) ∧ (((c = 30 ∨ zg v 38 k = t ∨ ¬ (0 ≤ y ∧ y ≤ zg v 22 k)) ∧ zI (-1) = r ∧ zu v 44 1 (zI (zg v 44 1 + 1)) = w ∧ u = e) ∨ ((c < 30 ∧ ¬ zg v 38 k = t ∧ 0 ≤ y ∧ y ≤ zg v 22 k) ∧ R r w e))) (fun e w t' => ¬ ((0 ≤ k ∧ k < zg v 16 10) ∧ 0 ≤ t ∧ t < zg v 16 8) ∧ e = 0 ∧ v = w ∧ u = t')) := by
  have b0 := hB.2.2.1
  have mid : (0 ≤ k ∧ k < zg v 16 10) → (0 ≤ t ∧ t < zg v 16 8) → zEv sc 115 d 32 [.ref 0, .int (zI k), .int (zI t), .int (zI y), zJ] [.int (zI (zb (0 ≤ y ∧ y ≤ zg v 22 k)))] (zmk v u) 2 12 (zPt (fun r w e => ((0 ≤ k ∧ k < zg v 16 10) ∧ 0 ≤ t ∧ t < zg v 16 8) ∧ (((c = 30 ∨ zg v 38 k = t ∨ ¬ (0 ≤ y ∧ y ≤ zg v 22 k)) ∧ zI (-1) = r ∧ zu v 44 1 (zI (zg v 44 1 + 1)) = w ∧ u = e) ∨ ((c < 30 ∧ ¬ zg v 38 k = t ∧ 0 ≤ y ∧ y ≤ zg v 22 k) ∧ R r w e))) (fun e w t' => ¬ ((0 ≤ k ∧ k < zg v 16 10) ∧ 0 ≤ t ∧ t < zg v 16 8) ∧ e = 0 ∧ v = w ∧ u = t')) := by
    intro q1 q2
    refine e_is4 o115_32 (e_al0 o115_34 (e_gR o115_35 L0 rfl rfl (e_gR o115_38 L28 rfl rfl (e_gI o115_41 L33 rfl 0 rfl (e_bip o115_44 rfl (e_ic_ge o115_46 67 rfl (by first | exact zg_rg _ _ _ | exact zt_rg _ | omega) (by first | exact zg_rg _ _ _ | exact zt_rg _ | omega) (fun hb46 => ?_) (fun hb46 => ?_)))))))
    · refine e_al0 o115_67 (e_gR o115_68 L0 rfl rfl (e_gR o115_71 L28 rfl rfl (e_ico o115_74 (e_dup2 o115_75 (e_ial o115_76 L44 (by omega) (by omega) (e_ico o115_77 (e_add o115_78 (e_iast o115_79 L44 (by omega) (by omega) (e_ico o115_80 ?_)))))))))
      refine e_rT o115_81 K115 rfl rfl ?_
      refine ⟨⟨q1, q2⟩, Or.inl ⟨?_, rfl, rfl, rfl⟩⟩
      first | exact Or.inl (by omega) | exact Or.inr (Or.inl hb59) | exact Or.inr (Or.inr hb64)
    · refine e_al0 o115_49 (e_gR o115_50 L0 rfl rfl (e_gR o115_53 L28 rfl rfl (e_il1 o115_56 (e_ial o115_57 L38 (by omega) (by omega) (e_il2 o115_58 (e_ic_eq o115_59 67 rfl (by first | exact zg_rg _ _ _ | exact zt_rg _ | omega) (by first | exact zg_rg _ _ _ | exact zt_rg _ | omega) (fun hb59 => ?_) (fun hb59 => ?_)))))))
      · refine e_al0 o115_67 (e_gR o115_68 L0 rfl rfl (e_gR o115_71 L28 rfl rfl (e_ico o115_74 (e_dup2 o115_75 (e_ial o115_76 L44 (by omega) (by omega) (e_ico o115_77 (e_add o115_78 (e_iast o115_79 L44 (by omega) (by omega) (e_ico o115_80 ?_)))))))))
        refine e_rT o115_81 K115 rfl rfl ?_
        refine ⟨⟨q1, q2⟩, Or.inl ⟨?_, rfl, rfl, rfl⟩⟩
        first | exact Or.inl (by omega) | exact Or.inr (Or.inl hb59) | exact Or.inr (Or.inr hb64)
      · refine e_il4 o115_62 (e_bz_ne o115_64 82 rfl (fun hb64 => ?_) (fun hb64 => ?_))
        · refine e_al0 o115_82 (e_gR o115_83 L0 rfl rfl (e_al0 o115_86 (e_gR o115_87 L0 rfl rfl (e_il1 o115_90 (e_il2 o115_91 (e_il3 o115_92 (e_Vi4 o115_93 K115 K13 rfl ⟨rfl, rfl⟩ (zrcv_I L28 rfl) (by omega) rfl (h13 q1.1 q1.2 q2.1 q2.2 (by omega) hb59 hb64.1 hb64.2) ?_)))))))
          rintro r w t' hR
          refine e_rT o115_96 K115 rfl rfl ?_
          exact ⟨⟨q1, q2⟩, Or.inr ⟨⟨by omega, hb59, hb64.1, hb64.2⟩, hR⟩⟩
        · refine e_al0 o115_67 (e_gR o115_68 L0 rfl rfl (e_gR o115_71 L28 rfl rfl (e_ico o115_74 (e_dup2 o115_75 (e_ial o115_76 L44 (by omega) (by omega) (e_ico o115_77 (e_add o115_78 (e_iast o115_79 L44 (by omega) (by omega) (e_ico o115_80 ?_)))))))))
          refine e_rT o115_81 K115 rfl rfl ?_
          refine ⟨⟨q1, q2⟩, Or.inl ⟨?_, rfl, rfl, rfl⟩⟩
          first | exact Or.inl (by omega) | exact Or.inr (Or.inl hb59) | exact Or.inr (Or.inr hb64)
  refine e_al0 o115_0 (e_il1 o115_1 ?_)
  refine e_V (as := [_]) o115_2 K115 K114 rfl (zrcv_I L0 rfl) (by omega) rfl rfl (c114 (by omega) hk) (zaf_S (kc' := 1) (ks' := 6) rfl rfl rfl ?_ (fun e w t he ht => by obtain ⟨h1, rfl, rfl, rfl⟩ := ht; exact zPt_thr (by decide) ⟨by omega, rfl, rfl, rfl⟩))
  rintro _ _ ⟨h2, rfl, rfl⟩
  refine e_al0 o115_5 (e_il2 o115_6 ?_)
  refine e_V (as := [_]) o115_7 K115 K109 rfl (zrcv_I L0 rfl) (by omega) rfl rfl (c109 (by omega) ht) (zaf_S (kc' := 2) (ks' := 12) rfl rfl rfl ?_ (fun e w t he ht => by obtain ⟨h1, rfl, rfl, rfl⟩ := ht; exact zPt_thr (by decide) ⟨by omega, rfl, rfl, rfl⟩))
  rintro _ _ ⟨h7, rfl, rfl⟩
  refine e_il3 o115_10 (e_if_lt o115_11 31 rfl (by first | exact zg_rg _ _ _ | exact zt_rg _ | omega) (fun hb11 => ?_) (fun hb11 => ?_))
  · refine e_ico o115_31 ?_
    have e := mid h2 h7
    rw [zb_f (by omega)] at e
    exact e
  · refine e_il3 o115_14 (e_al0 o115_15 (e_gR o115_16 L0 rfl rfl (e_gR o115_19 L16 rfl rfl (e_il1 o115_22 (e_ial o115_23 L22 (by omega) (by omega) (e_ic_gt o115_24 31 rfl (by first | exact zg_rg _ _ _ | exact zt_rg _ | omega) (by first | exact zg_rg _ _ _ | exact zt_rg _ | omega) (fun hb24 => ?_) (fun hb24 => ?_)))))))
    · refine e_ico o115_31 ?_
      have e := mid h2 h7
      rw [zb_f (by omega)] at e
      exact e
    · refine e_ico o115_27 (e_goto o115_28 32 rfl ?_)
      have e := mid h2 h7
      rw [zb_t ⟨hb11, hb24⟩] at e
      exact e
end
