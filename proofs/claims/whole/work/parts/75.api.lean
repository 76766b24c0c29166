/-! the class's questions -/
/-- a question: an answer x where ok holds, else NoSuchElement -/
abbrev zqu (ok : Prop) (x : Int32) (v : zV) (u : zU) : zPost := zPt (fun y w t => ok ∧ x = y ∧ v = w ∧ u = t) (fun e w t => ¬ ok ∧ e = 0 ∧ v = w ∧ u = t)
section
variable {sc : Nat × (Nat → Int32)} {d : Nat} {v v0 : zV} {u : zU}
theorem c109 {p : Int} (hd : 6 ≤ d) (hp : -2147483648 ≤ p ∧ p < 2147483648) : zEv sc 109 d 0 [.ref 0, .int (zI p)] [] (zmk v u) 0 0 (zPs (fun w t => (0 ≤ p ∧ p < zg v 16 8) ∧ v = w ∧ u = t) (fun e w t => ¬ (0 ≤ p ∧ p < zg v 16 8) ∧ e = 0 ∧ v = w ∧ u = t)) := by
  refine e_il1 o109_0 (e_if_lt o109_1 15 rfl (by first | exact zg_rg _ _ _ | exact zt_rg _ | omega) (fun hb1 => ?_) (fun hb1 => ?_))
  · refine e_throw 0 o109_15 K109 (s := 19) rfl rfl (by omega) o109_18 (Or.inr ⟨o109_19, o109_22, o109_25⟩) ?_
    exact zPs_thr (by decide) ⟨by omega, rfl, rfl, rfl⟩
  · refine e_il1 o109_4 (e_al0 o109_5 (e_gR o109_6 L0 rfl rfl (e_gI o109_9 L16 rfl 8 rfl (e_ic_lt o109_12 26 rfl (by first | exact zg_rg _ _ _ | exact zt_rg _ | omega) (by first | exact zg_rg _ _ _ | exact zt_rg _ | omega) (fun hb12 => ?_) (fun hb12 => ?_)))))
    · refine e_rS o109_26 K109 rfl rfl ?_
      exact ⟨by omega, rfl, rfl⟩
    · refine e_throw 0 o109_15 K109 (s := 19) rfl rfl (by omega) o109_18 (Or.inr ⟨o109_19, o109_22, o109_25⟩) ?_
      exact zPs_thr (by decide) ⟨by omega, rfl, rfl, rfl⟩
theorem c111 {p : Int} (hd : 6 ≤ d) (hp : -2147483648 ≤ p ∧ p < 2147483648) : zEv sc 111 d 0 [.ref 0, .int (zI p)] [] (zmk v u) 0 0 (zPs (fun w t => (0 ≤ p ∧ p < zg v 16 9) ∧ v = w ∧ u = t) (fun e w t => ¬ (0 ≤ p ∧ p < zg v 16 9) ∧ e = 0 ∧ v = w ∧ u = t)) := by
  refine e_il1 o111_0 (e_if_lt o111_1 15 rfl (by first | exact zg_rg _ _ _ | exact zt_rg _ | omega) (fun hb1 => ?_) (fun hb1 => ?_))
  · refine e_throw 0 o111_15 K111 (s := 21) rfl rfl (by omega) o111_18 (Or.inr ⟨o111_19, o111_22, o111_25⟩) ?_
    exact zPs_thr (by decide) ⟨by omega, rfl, rfl, rfl⟩
  · refine e_il1 o111_4 (e_al0 o111_5 (e_gR o111_6 L0 rfl rfl (e_gI o111_9 L16 rfl 9 rfl (e_ic_lt o111_12 26 rfl (by first | exact zg_rg _ _ _ | exact zt_rg _ | omega) (by first | exact zg_rg _ _ _ | exact zt_rg _ | omega) (fun hb12 => ?_) (fun hb12 => ?_)))))
    · refine e_rS o111_26 K111 rfl rfl ?_
      exact ⟨by omega, rfl, rfl⟩
    · refine e_throw 0 o111_15 K111 (s := 21) rfl rfl (by omega) o111_18 (Or.inr ⟨o111_19, o111_22, o111_25⟩) ?_
      exact zPs_thr (by decide) ⟨by omega, rfl, rfl, rfl⟩
theorem c114 {p : Int} (hd : 6 ≤ d) (hp : -2147483648 ≤ p ∧ p < 2147483648) : zEv sc 114 d 0 [.ref 0, .int (zI p)] [] (zmk v u) 0 0 (zPs (fun w t => (0 ≤ p ∧ p < zg v 16 10) ∧ v = w ∧ u = t) (fun e w t => ¬ (0 ≤ p ∧ p < zg v 16 10) ∧ e = 0 ∧ v = w ∧ u = t)) := by
  refine e_il1 o114_0 (e_if_lt o114_1 15 rfl (by first | exact zg_rg _ _ _ | exact zt_rg _ | omega) (fun hb1 => ?_) (fun hb1 => ?_))
  · refine e_throw 0 o114_15 K114 (s := 24) rfl rfl (by omega) o114_18 (Or.inr ⟨o114_19, o114_22, o114_25⟩) ?_
    exact zPs_thr (by decide) ⟨by omega, rfl, rfl, rfl⟩
  · refine e_il1 o114_4 (e_al0 o114_5 (e_gR o114_6 L0 rfl rfl (e_gI o114_9 L16 rfl 10 rfl (e_ic_lt o114_12 26 rfl (by first | exact zg_rg _ _ _ | exact zt_rg _ | omega) (by first | exact zg_rg _ _ _ | exact zt_rg _ | omega) (fun hb12 => ?_) (fun hb12 => ?_)))))
    · refine e_rS o114_26 K114 rfl rfl ?_
      exact ⟨by omega, rfl, rfl⟩
    · refine e_throw 0 o114_15 K114 (s := 24) rfl rfl (by omega) o114_18 (Or.inr ⟨o114_19, o114_22, o114_25⟩) ?_
      exact zPs_thr (by decide) ⟨by omega, rfl, rfl, rfl⟩
theorem c117 {p b : Int} (hd : 6 ≤ d) (hp : -2147483648 ≤ p ∧ p < 2147483648) (hb : -2147483648 ≤ b ∧ b < 2147483648) : zEv sc 117 d 0 [.int (zI p), .int (zI b)] [] (zmk v u) 0 0 (zPs (fun w t => (0 ≤ p ∧ p < b) ∧ v = w ∧ u = t) (fun e w t => ¬ (0 ≤ p ∧ p < b) ∧ e = 0 ∧ v = w ∧ u = t)) := by
  refine e_il0 o117_0 (e_if_lt o117_1 9 rfl (by first | exact zg_rg _ _ _ | exact zt_rg _ | omega) (fun hb1 => ?_) (fun hb1 => ?_))
  · refine e_throw 0 o117_9 K117 (s := 27) rfl rfl (by omega) o117_12 (Or.inr ⟨o117_13, o117_16, o117_19⟩) ?_
    exact zPs_thr (by decide) ⟨by omega, rfl, rfl, rfl⟩
  · refine e_il0 o117_4 (e_il1 o117_5 (e_ic_lt o117_6 20 rfl (by first | exact zg_rg _ _ _ | exact zt_rg _ | omega) (by first | exact zg_rg _ _ _ | exact zt_rg _ | omega) (fun hb6 => ?_) (fun hb6 => ?_)))
    · refine e_rS o117_20 K117 rfl rfl ?_
      exact ⟨by omega, rfl, rfl⟩
    · refine e_throw 0 o117_9 K117 (s := 27) rfl rfl (by omega) o117_12 (Or.inr ⟨o117_13, o117_16, o117_19⟩) ?_
      exact zPs_thr (by decide) ⟨by omega, rfl, rfl, rfl⟩
def portA (v : zV) (p w : Int) : Int := if w = 0 then zg v 17 p else if w = 1 then zg v 18 p else if w = 2 then zg v 30 p else if w = 3 then mudC v p else if w = 4 then zg v 37 (zg v 33 0 * 6 + p) else zg v 32 (p * 6 + p)
theorem c108 {p w : Int} (hd : 9 ≤ d) (hp : -2147483648 ≤ p ∧ p < 2147483648) (hw : -2147483648 ≤ w ∧ w < 2147483648) (hB : WB v) (hl : ∀ p, 0 ≤ p → p < 6 → 0 ≤ zg v 30 p ∧ zg v 30 p ≤ 40) (hc : 0 ≤ zg v 33 0 ∧ zg v 33 0 ≤ 30) : zEv sc 108 d 0 [.ref 0, .int (zI p), .int (zI w)] [] (zmk v u) 0 0 (zqu ((0 ≤ p ∧ p < zg v 16 8) ∧ 0 ≤ w ∧ w ≤ 5) (zI (portA v p w)) v u) := by
  have b0 := hB.1
  refine e_al0 o108_0 (e_il1 o108_1 ?_)
  refine e_V (as := [_]) o108_2 K108 K109 rfl (zrcv_I L0 rfl) (by omega) rfl rfl (c109 (by omega) hp) (zaf_S (kc' := 1) (ks' := 6) rfl rfl rfl ?_ (fun e w t he ht => by obtain ⟨h1, rfl, rfl, rfl⟩ := ht; exact zPt_thr (by decide) ⟨by omega, rfl, rfl, rfl⟩))
  rintro _ _ ⟨h2, rfl, rfl⟩
  refine e_il2 o108_5 ?_
  by_cases hsw6 : 0 ≤ w ∧ w ≤ 5
  · rcases (show w = 0 ∨ w = 1 ∨ w = 2 ∨ w = 3 ∨ w = 4 ∨ w = 5 by omega) with esw | esw | esw | esw | esw | esw
    · subst esw
      refine e_sw 38 o108_6 44 rfl rfl ?_
      refine e_al0 o108_44 (e_gR o108_45 L0 rfl rfl (e_gR o108_48 L16 rfl rfl (e_il1 o108_51 (e_ial o108_52 L17 (by omega) (by omega) ?_))))
      refine e_rT o108_53 K108 rfl rfl ?_
      exact ⟨⟨h2, by omega, by omega⟩, rfl, rfl, rfl⟩
    · subst esw
      refine e_sw 48 o108_6 54 rfl rfl ?_
      refine e_al0 o108_54 (e_gR o108_55 L0 rfl rfl (e_gR o108_58 L16 rfl rfl (e_il1 o108_61 (e_ial o108_62 L18 (by omega) (by omega) ?_))))
      refine e_rT o108_63 K108 rfl rfl ?_
      exact ⟨⟨h2, by omega, by omega⟩, rfl, rfl, rfl⟩
    · subst esw
      refine e_sw 58 o108_6 64 rfl rfl ?_
      refine e_al0 o108_64 (e_gR o108_65 L0 rfl rfl (e_gR o108_68 L28 rfl rfl (e_gR o108_71 L29 rfl rfl (e_il1 o108_74 (e_ial o108_75 L30 (by omega) (by omega) ?_)))))
      refine e_rT o108_76 K108 rfl rfl ?_
      exact ⟨⟨h2, by omega, by omega⟩, rfl, rfl, rfl⟩
    · subst esw
      refine e_sw 71 o108_6 77 rfl rfl ?_
      refine e_al0 o108_77 (e_gR o108_78 L0 rfl rfl (e_gR o108_81 L28 rfl rfl (e_al0 o108_84 (e_gR o108_85 L0 rfl rfl (e_il1 o108_88 (e_Vi2 o108_89 K108 K19 rfl ⟨rfl, rfl⟩ (zrcv_I L29 rfl) (by omega) rfl (c19 (by omega) (by omega) (by omega) (by have := (hB.2.2.2.1 p h2.1 h2.2).1; have := hl p h2.1 (by omega); omega)) ?_))))))
      rintro _ _ _ ⟨rfl, rfl, rfl⟩
      refine e_rT o108_92 K108 rfl rfl ?_
      exact ⟨⟨h2, by omega, by omega⟩, rfl, rfl, rfl⟩
    · subst esw
      refine e_sw 87 o108_6 93 rfl rfl ?_
      refine e_al0 o108_93 (e_gR o108_94 L0 rfl rfl (e_gR o108_97 L28 rfl rfl (e_il1 o108_100 (e_Vi1 o108_101 K108 K59 rfl ⟨rfl, rfl⟩ (zrcv_I L33 rfl) (by omega) rfl (c59 (by omega) (by omega) hc.1 hc.2) ?_))))
      rintro _ _ _ ⟨rfl, rfl, rfl⟩
      refine e_rT o108_104 K108 rfl rfl ?_
      exact ⟨⟨h2, by omega, by omega⟩, rfl, rfl, rfl⟩
    · subst esw
      refine e_sw 99 o108_6 105 rfl rfl ?_
      refine e_al0 o108_105 (e_gR o108_106 L0 rfl rfl (e_gR o108_109 L28 rfl rfl (e_il1 o108_112 (e_il1 o108_113 (e_Vi2 o108_114 K108 K21 rfl ⟨rfl, rfl⟩ (zrcv_I L29 rfl) (by omega) rfl (c21 (by omega) (by omega) (by omega) (by omega)) ?_)))))
      rintro _ _ _ ⟨rfl, rfl, rfl⟩
      refine e_rT o108_117 K108 rfl rfl ?_
      exact ⟨⟨h2, by omega, by omega⟩, rfl, rfl, rfl⟩
  · refine e_swD o108_6 118 (by first | exact zg_rg _ _ _ | exact zt_rg _ | omega) (by omega) rfl ?_
    refine e_throw 0 o108_118 K108 (s := 20) rfl rfl (by omega) o108_121 (Or.inl ⟨o108_122, o108_124, o108_127⟩) ?_
    exact zPt_thr (by decide) ⟨by omega, rfl, rfl, rfl⟩
theorem c112 {p i : Int} (hd : 9 ≤ d) (hp : -2147483648 ≤ p ∧ p < 2147483648) (hi : -2147483648 ≤ i ∧ i < 2147483648) (hB : WB v) (hl : ∀ p, 0 ≤ p → p < 6 → 0 ≤ zg v 30 p ∧ zg v 30 p ≤ 40) : zEv sc 112 d 0 [.ref 0, .int (zI p), .int (zI i)] [] (zmk v u) 0 0 (zqu ((0 ≤ p ∧ p < zg v 16 8) ∧ 0 ≤ i ∧ i < zg v 30 p) (zI (zg v 31 (p * 40 + i))) v u) := by
  have b0 := hB.1
  refine e_al0 o112_0 (e_il1 o112_1 ?_)
  refine e_V (as := [_]) o112_2 K112 K109 rfl (zrcv_I L0 rfl) (by omega) rfl rfl (c109 (by omega) hp) (zaf_S (kc' := 1) (ks' := 6) rfl rfl rfl ?_ (fun e w t he ht => by obtain ⟨h1, rfl, rfl, rfl⟩ := ht; exact zPt_thr (by decide) ⟨by omega, rfl, rfl, rfl⟩))
  rintro _ _ ⟨h2, rfl, rfl⟩
  refine e_il2 o112_5 (e_if_lt o112_6 25 rfl (by first | exact zg_rg _ _ _ | exact zt_rg _ | omega) (fun hb6 => ?_) (fun hb6 => ?_))
  · refine e_throw 0 o112_25 K112 (s := 23) rfl rfl (by omega) o112_28 (Or.inl ⟨o112_29, o112_31, o112_34⟩) ?_
    exact zPt_thr (by decide) ⟨by omega, rfl, rfl, rfl⟩
  · refine e_il2 o112_9 (e_al0 o112_10 (e_gR o112_11 L0 rfl rfl (e_gR o112_14 L28 rfl rfl (e_gR o112_17 L29 rfl rfl (e_il1 o112_20 (e_ial o112_21 L30 (by omega) (by omega) (e_ic_lt o112_22 35 rfl (by first | exact zg_rg _ _ _ | exact zt_rg _ | omega) (by first | exact zg_rg _ _ _ | exact zt_rg _ | omega) (fun hb22 => ?_) (fun hb22 => ?_))))))))
    · refine e_al0 o112_35 (e_gR o112_36 L0 rfl rfl (e_gR o112_39 L28 rfl rfl (e_il1 o112_42 (e_il2 o112_43 (e_Vi2 o112_44 K112 K24 rfl ⟨rfl, rfl⟩ (zrcv_I L29 rfl) (by omega) rfl (c24 (by omega) (by omega) (by omega) (by have := hl p h2.1 (by omega); omega)) ?_)))))
      rintro _ _ _ ⟨rfl, rfl, rfl⟩
      refine e_rT o112_47 K112 rfl rfl ?_
      exact ⟨⟨h2, by omega, by omega⟩, rfl, rfl, rfl⟩
    · refine e_throw 0 o112_25 K112 (s := 23) rfl rfl (by omega) o112_28 (Or.inl ⟨o112_29, o112_31, o112_34⟩) ?_
      exact zPt_thr (by decide) ⟨by omega, rfl, rfl, rfl⟩
def shipA (v : zV) (k w : Int) : Int := if w = 0 then zg v 21 k else if w = 1 then zg v 22 k else if w = 2 then zg v 23 k else zg v 38 k
theorem c113 {k w : Int} (hd : 9 ≤ d) (hk : -2147483648 ≤ k ∧ k < 2147483648) (hw : -2147483648 ≤ w ∧ w < 2147483648) (hB : WB v) : zEv sc 113 d 0 [.ref 0, .int (zI k), .int (zI w)] [] (zmk v u) 0 0 (zqu ((0 ≤ k ∧ k < zg v 16 10) ∧ 0 ≤ w ∧ w ≤ 3) (zI (shipA v k w)) v u) := by
  have b0 := hB.2.2.1
  refine e_al0 o113_0 (e_il1 o113_1 ?_)
  refine e_V (as := [_]) o113_2 K113 K114 rfl (zrcv_I L0 rfl) (by omega) rfl rfl (c114 (by omega) hk) (zaf_S (kc' := 1) (ks' := 6) rfl rfl rfl ?_ (fun e w t he ht => by obtain ⟨h1, rfl, rfl, rfl⟩ := ht; exact zPt_thr (by decide) ⟨by omega, rfl, rfl, rfl⟩))
  rintro _ _ ⟨h2, rfl, rfl⟩
  refine e_il2 o113_5 ?_
  by_cases hsw6 : 0 ≤ w ∧ w ≤ 3
  · rcases (show w = 0 ∨ w = 1 ∨ w = 2 ∨ w = 3 by omega) with esw | esw | esw | esw
    · subst esw
      refine e_sw 30 o113_6 36 rfl rfl ?_
      refine e_al0 o113_36 (e_gR o113_37 L0 rfl rfl (e_gR o113_40 L16 rfl rfl (e_il1 o113_43 (e_ial o113_44 L21 (by omega) (by omega) ?_))))
      refine e_rT o113_45 K113 rfl rfl ?_
      exact ⟨⟨h2, by omega, by omega⟩, rfl, rfl, rfl⟩
    · subst esw
      refine e_sw 40 o113_6 46 rfl rfl ?_
      refine e_al0 o113_46 (e_gR o113_47 L0 rfl rfl (e_gR o113_50 L16 rfl rfl (e_il1 o113_53 (e_ial o113_54 L22 (by omega) (by omega) ?_))))
      refine e_rT o113_55 K113 rfl rfl ?_
      exact ⟨⟨h2, by omega, by omega⟩, rfl, rfl, rfl⟩
    · subst esw
      refine e_sw 50 o113_6 56 rfl rfl ?_
      refine e_al0 o113_56 (e_gR o113_57 L0 rfl rfl (e_gR o113_60 L16 rfl rfl (e_il1 o113_63 (e_ial o113_64 L23 (by omega) (by omega) ?_))))
      refine e_rT o113_65 K113 rfl rfl ?_
      exact ⟨⟨h2, by omega, by omega⟩, rfl, rfl, rfl⟩
    · subst esw
      refine e_sw 60 o113_6 66 rfl rfl ?_
      refine e_al0 o113_66 (e_gR o113_67 L0 rfl rfl (e_gR o113_70 L28 rfl rfl (e_il1 o113_73 (e_ial o113_74 L38 (by omega) (by omega) ?_))))
      refine e_rT o113_75 K113 rfl rfl ?_
      exact ⟨⟨h2, by omega, by omega⟩, rfl, rfl, rfl⟩
  · refine e_swD o113_6 76 (by first | exact zg_rg _ _ _ | exact zt_rg _ | omega) (by omega) rfl ?_
    refine e_throw 0 o113_76 K113 (s := 25) rfl rfl (by omega) o113_79 (Or.inl ⟨o113_80, o113_82, o113_85⟩) ?_
    exact zPt_thr (by decide) ⟨by omega, rfl, rfl, rfl⟩
theorem c116 {k w : Int} (hd : 9 ≤ d) (hk : -2147483648 ≤ k ∧ k < 2147483648) (hw : -2147483648 ≤ w ∧ w < 2147483648) (hc : 0 ≤ zg v 33 0 ∧ zg v 33 0 ≤ 30) : zEv sc 116 d 0 [.ref 0, .int (zI k), .int (zI w)] [] (zmk v u) 0 0 (zqu ((0 ≤ k ∧ k < zg v 33 0) ∧ 0 ≤ w ∧ w < 6) (zI (zg v 34 (k * 6 + w))) v u) := by
  refine e_il1 o116_0 (e_if_lt o116_1 18 rfl (by first | exact zg_rg _ _ _ | exact zt_rg _ | omega) (fun hb1 => ?_) (fun hb1 => ?_))
  · refine e_throw 0 o116_18 K116 (s := 26) rfl rfl (by omega) o116_21 (Or.inl ⟨o116_22, o116_24, o116_27⟩) ?_
    exact zPt_thr (by decide) ⟨by omega, rfl, rfl, rfl⟩
  · refine e_il1 o116_4 (e_al0 o116_5 (e_gR o116_6 L0 rfl rfl (e_gR o116_9 L28 rfl rfl (e_gI o116_12 L33 rfl 0 rfl (e_ic_lt o116_15 28 rfl (by first | exact zg_rg _ _ _ | exact zt_rg _ | omega) (by first | exact zg_rg _ _ _ | exact zt_rg _ | omega) (fun hb15 => ?_) (fun hb15 => ?_))))))
    · refine e_il2 o116_28 (e_bip o116_29 rfl ?_)
      refine e_S (as := [_, _]) o116_31 K116 K117 rfl (by omega) rfl rfl (c117 (by omega) hw (by omega)) (zaf_S (kc' := 1) (ks' := 6) rfl rfl rfl ?_ (fun e w t he ht => by obtain ⟨h1, rfl, rfl, rfl⟩ := ht; exact zPt_thr (by decide) ⟨by omega, rfl, rfl, rfl⟩))
      rintro _ _ ⟨h31, rfl, rfl⟩
      refine e_al0 o116_34 (e_gR o116_35 L0 rfl rfl (e_gR o116_38 L28 rfl rfl (e_il1 o116_41 (e_il2 o116_42 (e_Vi2 o116_43 K116 K55 rfl ⟨rfl, rfl⟩ (zrcv_I L33 rfl) (by omega) rfl (c55 (by omega) (by omega) (by omega) (by omega)) ?_)))))
      rintro _ _ _ ⟨rfl, rfl, rfl⟩
      refine e_rT o116_46 K116 rfl rfl ?_
      exact ⟨⟨by omega, by omega, by omega⟩, rfl, rfl, rfl⟩
    · refine e_throw 0 o116_18 K116 (s := 26) rfl rfl (by omega) o116_21 (Or.inl ⟨o116_22, o116_24, o116_27⟩) ?_
      exact zPt_thr (by decide) ⟨by omega, rfl, rfl, rfl⟩
end
