/-! the reference's questions -/
/-- a question: the answer x where ok holds (code 0), else code 1 -/
abbrev mqu (ok : Prop) (x : Int32) (v : zV) (u : zU) : zPost := zPi fun y w t => (ok ∧ x = y ∧ zu v 79 2 (zI 0) = w ∧ u = t) ∨ (¬ ok ∧ zI 0 = y ∧ zu (zu v 79 2 (zI 0)) 79 2 (zI 1) = w ∧ u = t)
section
variable {sc : Nat × (Nat → Int32)} {d : Nat} {v v0 : zV} {u : zU}
theorem EW_z (h : EW v) : EW (zu v 79 2 (zI 0)) := by
  have y : ∀ a, ¬ a = 79 → zg (zu v 79 2 (zI 0)) a = zg v a := fun a h => funext fun k => zg_na h
  unfold EW at h ⊢
  rw [y 16 (by decide), y 17 (by decide), y 18 (by decide), y 19 (by decide), y 20 (by decide), y 21 (by decide), y 22 (by decide), y 23 (by decide), y 82 (by decide), y 83 (by decide), y 84 (by decide), y 85 (by decide), y 86 (by decide), y 87 (by decide), y 88 (by decide), y 89 (by decide)]
  exact h
theorem WB_z (h : WB v) : WB (zu v 79 2 (zI 0)) := WB_w3 (fun a k h1 h2 => zu_ne (by omega)) h
def portM (v : zV) (p w : Int) : Int := if w = 0 then zg v 17 p else if w = 1 then zg v 18 p else if w = 2 then cnt (zg v 93) p (zg v 16 9) else if w = 3 then max 0 (zg v 17 p - cnt (zg v 93) p (zg v 16 9)) else if w = 4 then zg v 93 (160 + p) else cnt2 (zg v 93) (zg v 19) p p (zg v 16 9)
theorem m167 {p w : Int} (hd : 3 ≤ d) (hE : EW v) (hB : WB v) (hp : -2147483648 ≤ p ∧ p < 2147483648) (hw : -2147483648 ≤ w ∧ w < 2147483648) : zEv sc 167 d 0 [.ref 79, .int (zI p), .int (zI w)] [] (zmk v u) 0 0 (mqu ((0 ≤ p ∧ p < zg v 16 8) ∧ 0 ≤ w ∧ w ≤ 5) (zI (portM v p w)) v u) := by
  have e0 := hE.1
  have b0 := hB.1
  have zz : ∀ a, ¬ a = 79 → zg (zu v 79 2 (zI 0)) a = zg v a := fun a h => funext fun k => zg_na h
  refine e_al0 o167_0 (e_ico o167_1 (e_pI o167_2 L79 rfl rfl rfl rfl 2 rfl (e_al0 o167_5 (e_il1 o167_6 (e_Vi1 o167_7 K167 K168 rfl ⟨rfl, rfl⟩ (zrcv_I L79 rfl) (by omega) rfl (m168 (by omega) hp (by rw [zz 82 (by decide)]; omega)) ?_)))))
  rintro _ _ _ ⟨rfl, rfl, rfl⟩
  rw [zz 82 (by decide), e0]
  refine e_bz_ne o167_10 19 rfl (fun hb10 => ?_) (fun hb10 => ?_)
  · refine e_il2 o167_19 ?_
    by_cases hsw20 : 0 ≤ w ∧ w ≤ 5
    · rcases (show w = 0 ∨ w = 1 ∨ w = 2 ∨ w = 3 ∨ w = 4 ∨ w = 5 by omega) with esw | esw | esw | esw | esw | esw
      · subst esw
        refine e_sw 40 o167_20 60 rfl rfl ?_
        refine e_al0 o167_60 (e_gR o167_61 L79 rfl rfl (e_il1 o167_64 (e_ial o167_65 L83 (by omega) (by omega) ?_)))
        rw [zz 83 (by decide), (hE.2.2.2.1 p (by omega) (by omega)).1]
        refine e_rI o167_66 K167 rfl rfl ?_
        exact Or.inl ⟨by omega, rfl, rfl, rfl⟩
      · subst esw
        refine e_sw 47 o167_20 67 rfl rfl ?_
        refine e_al0 o167_67 (e_gR o167_68 L79 rfl rfl (e_il1 o167_71 (e_ial o167_72 L84 (by omega) (by omega) ?_)))
        rw [zz 84 (by decide), (hE.2.2.2.1 p (by omega) (by omega)).2]
        refine e_rI o167_73 K167 rfl rfl ?_
        exact Or.inl ⟨by omega, rfl, rfl, rfl⟩
      · subst esw
        refine e_sw 54 o167_20 74 rfl rfl ?_
        refine e_al0 o167_74 (e_al0 o167_75 (e_gR o167_76 L79 rfl rfl (e_il1 o167_79 (e_Vi2 o167_80 K167 K165 rfl ⟨rfl, rfl⟩ (zrcv_I L79 rfl) (by omega) rfl (m165 rfl (EW_z hE) (WB_z hB) (by omega)) ?_))))
        rintro _ _ _ ⟨rfl, rfl, rfl⟩
        rw [zz 93 (by decide), zz 16 (by decide)]
        refine e_rI o167_83 K167 rfl rfl ?_
        exact Or.inl ⟨by omega, rfl, rfl, rfl⟩
      · subst esw
        refine e_sw 64 o167_20 84 rfl rfl ?_
        refine e_al0 o167_84 (e_al0 o167_85 (e_gR o167_86 L79 rfl rfl (e_il1 o167_89 (e_Vi2 o167_90 K167 K164 rfl ⟨rfl, rfl⟩ (zrcv_I L79 rfl) (by omega) rfl (m164 (by omega) rfl (EW_z hE) (WB_z hB) (by omega) (by rw [zz 16 (by decide)]; omega)) ?_))))
        rintro _ _ _ ⟨rfl, rfl, rfl⟩
        rw [zz 93 (by decide), zz 16 (by decide), zz 17 (by decide)]
        refine e_rI o167_93 K167 rfl rfl ?_
        exact Or.inl ⟨by omega, rfl, rfl, rfl⟩
      · subst esw
        refine e_sw 74 o167_20 94 rfl rfl ?_
        refine e_al0 o167_94 (e_gR o167_95 L79 rfl rfl (e_sip o167_98 rfl (e_il1 o167_101 (e_add o167_102 (e_ial o167_103 L93 (by omega) (by omega) ?_)))))
        rw [zz 93 (by decide)]
        refine e_rI o167_104 K167 rfl rfl ?_
        exact Or.inl ⟨by omega, rfl, rfl, rfl⟩
      · subst esw
        refine e_sw 85 o167_20 105 rfl rfl ?_
        refine e_al0 o167_105 (e_al0 o167_106 (e_gR o167_107 L79 rfl rfl (e_il1 o167_110 (e_il1 o167_111 (e_Vi3 o167_112 K167 K170 rfl ⟨rfl, rfl⟩ (zrcv_I L79 rfl) (by omega) rfl (m170 rfl (EW_z hE) (WB_z hB) (by omega) (by omega)) ?_)))))
        rintro _ _ _ ⟨rfl, rfl, rfl⟩
        rw [zz 93 (by decide), zz 16 (by decide), zz 19 (by decide)]
        refine e_rI o167_115 K167 rfl rfl ?_
        exact Or.inl ⟨by omega, rfl, rfl, rfl⟩
    · refine e_swD o167_20 116 (by first | exact zg_rg _ _ _ | exact zt_rg _ | omega) (by omega) rfl ?_
      refine e_al0 o167_116 (e_ico o167_117 (e_Vi1 o167_118 K167 K133 rfl ⟨rfl, rfl⟩ (zrcv_I L79 rfl) (by omega) rfl m133 ?_))
      rintro _ _ _ ⟨rfl, rfl, rfl⟩
      refine e_rI o167_121 K167 rfl rfl ?_
      exact Or.inr ⟨by omega, rfl, rfl, rfl⟩
  · refine e_al0 o167_13 (e_ico o167_14 (e_Vi1 o167_15 K167 K133 rfl ⟨rfl, rfl⟩ (zrcv_I L79 rfl) (by omega) rfl m133 ?_))
    rintro _ _ _ ⟨rfl, rfl, rfl⟩
    refine e_rI o167_18 K167 rfl rfl ?_
    exact Or.inr ⟨by omega, rfl, rfl, rfl⟩
def stoneM (v : zV) (s w : Int) : Int32 := if w = 0 then v 19 s else if w = 1 then v 20 s else v 93 (40 * (w - 2) + s)
theorem m171 {s w : Int} (hd : 3 ≤ d) (hE : EW v) (hB : WB v) (hs : -2147483648 ≤ s ∧ s < 2147483648) (hw : -2147483648 ≤ w ∧ w < 2147483648) : zEv sc 171 d 0 [.ref 79, .int (zI s), .int (zI w)] [] (zmk v u) 0 0 (mqu ((0 ≤ s ∧ s < zg v 16 9) ∧ 0 ≤ w ∧ w ≤ 5) (stoneM v s w) v u) := by
  have e0 := hE.2.1
  have b0 := hB.2.1
  have zz : ∀ a, ¬ a = 79 → zg (zu v 79 2 (zI 0)) a = zg v a := fun a h => funext fun k => zg_na h
  refine e_al0 o171_0 (e_ico o171_1 (e_pI o171_2 L79 rfl rfl rfl rfl 2 rfl (e_al0 o171_5 (e_il1 o171_6 (e_Vi1 o171_7 K171 K172 rfl ⟨rfl, rfl⟩ (zrcv_I L79 rfl) (by omega) rfl (m172 (by omega) hs (by rw [zz 82 (by decide)]; omega)) ?_)))))
  rintro _ _ _ ⟨rfl, rfl, rfl⟩
  rw [zz 82 (by decide), e0]
  refine e_bz_eq o171_10 22 rfl (fun hb10 => ?_) (fun hb10 => ?_)
  · refine e_al0 o171_22 (e_ico o171_23 (e_Vi1 o171_24 K171 K133 rfl ⟨rfl, rfl⟩ (zrcv_I L79 rfl) (by omega) rfl m133 ?_))
    rintro _ _ _ ⟨rfl, rfl, rfl⟩
    refine e_rI o171_27 K171 rfl rfl ?_
    exact Or.inr ⟨by omega, rfl, rfl, rfl⟩
  · refine e_il2 o171_13 (e_ico o171_14 (e_ico o171_15 (e_Si3 o171_16 K171 K169 rfl ⟨rfl, rfl⟩ (by omega) rfl (m169 hw (by omega) (by omega)) ?_)))
    rintro _ _ _ ⟨rfl, rfl, rfl⟩
    refine e_bz_ne o171_19 28 rfl (fun hb19 => ?_) (fun hb19 => ?_)
    · refine e_il2 o171_28 (e_if_ne o171_29 41 rfl (by first | exact zg_rg _ _ _ | exact zt_rg _ | omega) (fun hb29 => ?_) (fun hb29 => ?_))
      · refine e_il2 o171_41 (e_ico o171_42 (e_ic_ne o171_43 55 rfl (by first | exact zg_rg _ _ _ | exact zt_rg _ | omega) (by first | exact zg_rg _ _ _ | exact zt_rg _ | omega) (fun hb43 => ?_) (fun hb43 => ?_)))
        · refine e_al0 o171_55 (e_gR o171_56 L79 rfl rfl (e_bip o171_59 rfl (e_il2 o171_61 (e_ico o171_62 (e_sub o171_63 (e_mul o171_64 (e_il1 o171_65 (e_add o171_66 (e_ial o171_67 L93 (by omega) (by omega) ?_)))))))))
          first | rw [zz 93 (by decide), zI_g] | skip
          refine e_rI o171_68 K171 rfl rfl ?_
          refine Or.inl ⟨by omega, ?_, rfl, rfl⟩
          first | exact if_pos hb29 | exact (if_neg hb29).trans (if_pos hb43) | exact (if_neg hb29).trans (if_neg hb43)
        · refine e_al0 o171_46 (e_gR o171_47 L79 rfl rfl (e_il1 o171_50 (e_ial o171_51 L86 (by omega) (by omega) ?_)))
          rw [zz 86 (by decide), (hE.2.2.2.2.1 s (by omega) (by omega)).2, zI_g]
          refine e_goto o171_52 68 rfl ?_
          first | rw [zz 93 (by decide), zI_g] | skip
          refine e_rI o171_68 K171 rfl rfl ?_
          refine Or.inl ⟨by omega, ?_, rfl, rfl⟩
          first | exact if_pos hb29 | exact (if_neg hb29).trans (if_pos hb43) | exact (if_neg hb29).trans (if_neg hb43)
      · refine e_al0 o171_32 (e_gR o171_33 L79 rfl rfl (e_il1 o171_36 (e_ial o171_37 L85 (by omega) (by omega) ?_)))
        rw [zz 85 (by decide), (hE.2.2.2.2.1 s (by omega) (by omega)).1, zI_g]
        refine e_goto o171_38 68 rfl ?_
        first | rw [zz 93 (by decide), zI_g] | skip
        refine e_rI o171_68 K171 rfl rfl ?_
        refine Or.inl ⟨by omega, ?_, rfl, rfl⟩
        first | exact if_pos hb29 | exact (if_neg hb29).trans (if_pos hb43) | exact (if_neg hb29).trans (if_neg hb43)
    · refine e_al0 o171_22 (e_ico o171_23 (e_Vi1 o171_24 K171 K133 rfl ⟨rfl, rfl⟩ (zrcv_I L79 rfl) (by omega) rfl m133 ?_))
      rintro _ _ _ ⟨rfl, rfl, rfl⟩
      refine e_rI o171_27 K171 rfl rfl ?_
      exact Or.inr ⟨by omega, rfl, rfl, rfl⟩
theorem m174 {p i : Int} (hE : EW v) (hB : WB v) (hp : -2147483648 ≤ p ∧ p < 2147483648) (hi : -2147483648 ≤ i ∧ i < 2147483648) : zEv sc 174 d 0 [.ref 79, .int (zI p), .int (zI i), zJ] [] (zmk v u) 0 0 (zPi fun y w t => (∃ r, zI r = y ∧ ((r = -1 ∧ ∀ s, 0 ≤ s → s < zg v 16 9 → ¬ (zg v 93 s = p ∧ zg v 93 (40 + s) = i)) ∨ (0 ≤ r ∧ r < zg v 16 9 ∧ zg v 93 r = p ∧ zg v 93 (40 + r) = i))) ∧ v = w ∧ u = t) := by
  have e0 := hE.2.1
  have b0 := hB.2.1
  have loop : ∀ s, 0 ≤ s → s ≤ zg v 16 9 → (∀ q, 0 ≤ q → q < s → ¬ (zg v 93 q = p ∧ zg v 93 (40 + q) = i)) → zEv sc 174 d 2 [.ref 79, .int (zI p), .int (zI i), .int (zI s)] [] (zmk v u) 0 0 (zPi fun y w t => (∃ r, zI r = y ∧ ((r = -1 ∧ ∀ s, 0 ≤ s → s < zg v 16 9 → ¬ (zg v 93 s = p ∧ zg v 93 (40 + s) = i)) ∨ (0 ≤ r ∧ r < zg v 16 9 ∧ zg v 93 r = p ∧ zg v 93 (40 + r) = i))) ∧ v = w ∧ u = t) := by
    refine zloop ?_
    intro s s0 s1 ih hq
    refine e_il3 o174_2 (e_al0 o174_3 (e_gR o174_4 L79 rfl rfl (e_ico o174_7 (e_ial o174_8 L82 (by omega) (by omega) (e_ic_ge o174_9 43 rfl (by first | exact zg_rg _ _ _ | exact zt_rg _ | omega) (by first | exact zg_rg _ _ _ | exact zt_rg _ | omega) (fun hb9 => ?_) (fun hb9 => ?_))))))
    · refine e_ico o174_43 ?_
      refine e_rI o174_44 K174 rfl rfl ?_
      exact ⟨⟨-1, rfl, Or.inl ⟨rfl, fun q q0 q1 => hq q q0 (by omega)⟩⟩, rfl, rfl⟩
    · refine e_al0 o174_12 (e_gR o174_13 L79 rfl rfl (e_il3 o174_16 (e_ial o174_17 L93 (by omega) (by omega) (e_il1 o174_18 (e_ic_ne o174_19 37 rfl (by first | exact zg_rg _ _ _ | exact zt_rg _ | omega) (by first | exact zg_rg _ _ _ | exact zt_rg _ | omega) (fun hb19 => ?_) (fun hb19 => ?_))))))
      · refine e_inc3 o174_37 (e_goto o174_40 2 rfl ?_)
        refine ih (by omega) (fun q q0 q1 => ?_)
        rcases (show q < s ∨ q = s by omega) with e | e
        · exact hq q q0 e
        · subst e; first | exact fun z => hb32 z.2 | exact fun z => hb19 z.1
      · refine e_al0 o174_22 (e_gR o174_23 L79 rfl rfl (e_bip o174_26 rfl (e_il3 o174_28 (e_add o174_29 (e_ial o174_30 L93 (by omega) (by omega) (e_il2 o174_31 (e_ic_ne o174_32 37 rfl (by first | exact zg_rg _ _ _ | exact zt_rg _ | omega) (by first | exact zg_rg _ _ _ | exact zt_rg _ | omega) (fun hb32 => ?_) (fun hb32 => ?_))))))))
        · refine e_inc3 o174_37 (e_goto o174_40 2 rfl ?_)
          refine ih (by omega) (fun q q0 q1 => ?_)
          rcases (show q < s ∨ q = s by omega) with e | e
          · exact hq q q0 e
          · subst e; first | exact fun z => hb32 z.2 | exact fun z => hb19 z.1
        · refine e_il3 o174_35 ?_
          refine e_rI o174_36 K174 rfl rfl ?_
          exact ⟨⟨s, rfl, Or.inr ⟨s0, by omega, hb19, hb32⟩⟩, rfl, rfl⟩
  refine e_ico o174_0 (e_is3 o174_1 ?_)
  exact loop 0 (by omega) (by omega) (fun q a b => by omega)
theorem m175 {k w : Int} (hd : 3 ≤ d) (hE : EW v) (hB : WB v) (hk : -2147483648 ≤ k ∧ k < 2147483648) (hw : -2147483648 ≤ w ∧ w < 2147483648) (hs : ∀ i, 0 ≤ i → i < zg v 16 10 → zg v 93 (166 + i) = zg v 38 i) : zEv sc 175 d 0 [.ref 79, .int (zI k), .int (zI w)] [] (zmk v u) 0 0 (mqu ((0 ≤ k ∧ k < zg v 16 10) ∧ 0 ≤ w ∧ w ≤ 3) (zI (shipA v k w)) v u) := by
  have e0 := hE.2.2.1
  have b0 := hB.2.2.1
  have zz : ∀ a, ¬ a = 79 → zg (zu v 79 2 (zI 0)) a = zg v a := fun a h => funext fun k => zg_na h
  refine e_al0 o175_0 (e_ico o175_1 (e_pI o175_2 L79 rfl rfl rfl rfl 2 rfl (e_al0 o175_5 (e_il1 o175_6 (e_Vi1 o175_7 K175 K176 rfl ⟨rfl, rfl⟩ (zrcv_I L79 rfl) (by omega) rfl (m176 (by omega) hk (by rw [zz 82 (by decide)]; omega)) ?_)))))
  rintro _ _ _ ⟨rfl, rfl, rfl⟩
  rw [zz 82 (by decide), e0]
  refine e_bz_ne o175_10 19 rfl (fun hb10 => ?_) (fun hb10 => ?_)
  · refine e_il2 o175_19 (e_if_ne o175_20 32 rfl (by first | exact zg_rg _ _ _ | exact zt_rg _ | omega) (fun hb20 => ?_) (fun hb20 => ?_))
    · refine e_il2 o175_32 (e_ico o175_33 (e_ic_ne o175_34 46 rfl (by first | exact zg_rg _ _ _ | exact zt_rg _ | omega) (by first | exact zg_rg _ _ _ | exact zt_rg _ | omega) (fun hb34 => ?_) (fun hb34 => ?_)))
      · refine e_il2 o175_46 (e_ico o175_47 (e_ic_ne o175_48 60 rfl (by first | exact zg_rg _ _ _ | exact zt_rg _ | omega) (by first | exact zg_rg _ _ _ | exact zt_rg _ | omega) (fun hb48 => ?_) (fun hb48 => ?_)))
        · refine e_il2 o175_60 (e_ico o175_61 (e_ic_ne o175_62 78 rfl (by first | exact zg_rg _ _ _ | exact zt_rg _ | omega) (by first | exact zg_rg _ _ _ | exact zt_rg _ | omega) (fun hb62 => ?_) (fun hb62 => ?_)))
          · refine e_al0 o175_78 (e_ico o175_79 (e_Vi1 o175_80 K175 K133 rfl ⟨rfl, rfl⟩ (zrcv_I L79 rfl) (by omega) rfl m133 ?_))
            rintro _ _ _ ⟨rfl, rfl, rfl⟩
            refine e_rI o175_83 K175 rfl rfl ?_
            first | exact Or.inl ⟨by omega, by rw [shipA, if_pos (by omega)], rfl, rfl⟩ | exact Or.inl ⟨by omega, by rw [shipA, if_neg (by omega), if_pos (by omega)], rfl, rfl⟩ | exact Or.inl ⟨by omega, by rw [shipA, if_neg (by omega), if_neg (by omega), if_pos (by omega)], rfl, rfl⟩ | exact Or.inl ⟨by omega, by rw [shipA, if_neg (by omega), if_neg (by omega), if_neg (by omega)], rfl, rfl⟩ | exact Or.inr ⟨by omega, rfl, rfl, rfl⟩
          · refine e_al0 o175_65 (e_gR o175_66 L79 rfl rfl (e_sip o175_69 rfl (e_il1 o175_72 (e_add o175_73 (e_ial o175_74 L93 (by omega) (by omega) ?_)))))
            rw [zz 93 (by decide), hs k (by omega) (by omega)]
            refine e_goto o175_75 83 rfl ?_
            refine e_rI o175_83 K175 rfl rfl ?_
            first | exact Or.inl ⟨by omega, by rw [shipA, if_pos (by omega)], rfl, rfl⟩ | exact Or.inl ⟨by omega, by rw [shipA, if_neg (by omega), if_pos (by omega)], rfl, rfl⟩ | exact Or.inl ⟨by omega, by rw [shipA, if_neg (by omega), if_neg (by omega), if_pos (by omega)], rfl, rfl⟩ | exact Or.inl ⟨by omega, by rw [shipA, if_neg (by omega), if_neg (by omega), if_neg (by omega)], rfl, rfl⟩ | exact Or.inr ⟨by omega, rfl, rfl, rfl⟩
        · refine e_al0 o175_51 (e_gR o175_52 L79 rfl rfl (e_il1 o175_55 (e_ial o175_56 L89 (by omega) (by omega) ?_)))
          rw [zz 89 (by decide), (hE.2.2.2.2.2 k (by omega) (by omega)).2.2]
          refine e_goto o175_57 83 rfl ?_
          refine e_rI o175_83 K175 rfl rfl ?_
          first | exact Or.inl ⟨by omega, by rw [shipA, if_pos (by omega)], rfl, rfl⟩ | exact Or.inl ⟨by omega, by rw [shipA, if_neg (by omega), if_pos (by omega)], rfl, rfl⟩ | exact Or.inl ⟨by omega, by rw [shipA, if_neg (by omega), if_neg (by omega), if_pos (by omega)], rfl, rfl⟩ | exact Or.inl ⟨by omega, by rw [shipA, if_neg (by omega), if_neg (by omega), if_neg (by omega)], rfl, rfl⟩ | exact Or.inr ⟨by omega, rfl, rfl, rfl⟩
      · refine e_al0 o175_37 (e_gR o175_38 L79 rfl rfl (e_il1 o175_41 (e_ial o175_42 L88 (by omega) (by omega) ?_)))
        rw [zz 88 (by decide), (hE.2.2.2.2.2 k (by omega) (by omega)).2.1]
        refine e_goto o175_43 83 rfl ?_
        refine e_rI o175_83 K175 rfl rfl ?_
        first | exact Or.inl ⟨by omega, by rw [shipA, if_pos (by omega)], rfl, rfl⟩ | exact Or.inl ⟨by omega, by rw [shipA, if_neg (by omega), if_pos (by omega)], rfl, rfl⟩ | exact Or.inl ⟨by omega, by rw [shipA, if_neg (by omega), if_neg (by omega), if_pos (by omega)], rfl, rfl⟩ | exact Or.inl ⟨by omega, by rw [shipA, if_neg (by omega), if_neg (by omega), if_neg (by omega)], rfl, rfl⟩ | exact Or.inr ⟨by omega, rfl, rfl, rfl⟩
    · refine e_al0 o175_23 (e_gR o175_24 L79 rfl rfl (e_il1 o175_27 (e_ial o175_28 L87 (by omega) (by omega) ?_)))
      rw [zz 87 (by decide), (hE.2.2.2.2.2 k (by omega) (by omega)).1]
      refine e_goto o175_29 83 rfl ?_
      refine e_rI o175_83 K175 rfl rfl ?_
      first | exact Or.inl ⟨by omega, by rw [shipA, if_pos (by omega)], rfl, rfl⟩ | exact Or.inl ⟨by omega, by rw [shipA, if_neg (by omega), if_pos (by omega)], rfl, rfl⟩ | exact Or.inl ⟨by omega, by rw [shipA, if_neg (by omega), if_neg (by omega), if_pos (by omega)], rfl, rfl⟩ | exact Or.inl ⟨by omega, by rw [shipA, if_neg (by omega), if_neg (by omega), if_neg (by omega)], rfl, rfl⟩ | exact Or.inr ⟨by omega, rfl, rfl, rfl⟩
  · refine e_al0 o175_13 (e_ico o175_14 (e_Vi1 o175_15 K175 K133 rfl ⟨rfl, rfl⟩ (zrcv_I L79 rfl) (by omega) rfl m133 ?_))
    rintro _ _ _ ⟨rfl, rfl, rfl⟩
    refine e_rI o175_18 K175 rfl rfl ?_
    exact Or.inr ⟨by omega, rfl, rfl, rfl⟩
theorem m186 {k w : Int} (hd : 3 ≤ d) (hk : -2147483648 ≤ k ∧ k < 2147483648) (hw : -2147483648 ≤ w ∧ w < 2147483648) (hc : 0 ≤ zg v 79 30 ∧ zg v 79 30 ≤ 30) : zEv sc 186 d 0 [.ref 79, .int (zI k), .int (zI w)] [] (zmk v u) 0 0 (mqu ((0 ≤ k ∧ k < zg v 79 30) ∧ 0 ≤ w ∧ w < 6) (v 99 (6 * k + w)) v u) := by
  have zz : ∀ a, ¬ a = 79 → zg (zu v 79 2 (zI 0)) a = zg v a := fun a h => funext fun k => zg_na h
  refine e_al0 o186_0 (e_ico o186_1 (e_pI o186_2 L79 rfl rfl rfl rfl 2 rfl (e_il1 o186_5 (e_ico o186_6 (e_al0 o186_7 (e_gI o186_8 L79 rfl 30 rfl ?_))))))
  rw [zg_ne (by omega)]
  refine e_ico o186_11 (e_sub o186_12 (e_Si3 o186_13 K186 K169 rfl ⟨rfl, rfl⟩ (by omega) rfl (m169 hk (by omega) (by omega)) ?_))
  rintro _ _ _ ⟨rfl, rfl, rfl⟩
  refine e_bz_eq o186_16 42 rfl (fun hb16 => ?_) (fun hb16 => ?_)
  · refine e_al0 o186_42 (e_ico o186_43 (e_Vi1 o186_44 K186 K133 rfl ⟨rfl, rfl⟩ (zrcv_I L79 rfl) (by omega) rfl m133 ?_))
    rintro _ _ _ ⟨rfl, rfl, rfl⟩
    refine e_rI o186_47 K186 rfl rfl ?_
    first | exact Or.inl ⟨by omega, by rw [zz 99 (by decide), zI_g], rfl, rfl⟩ | exact Or.inr ⟨by omega, rfl, rfl, rfl⟩
  · refine e_il2 o186_19 (e_ico o186_20 (e_ico o186_21 (e_Si3 o186_22 K186 K169 rfl ⟨rfl, rfl⟩ (by omega) rfl (m169 hw (by omega) (by omega)) ?_)))
    rintro _ _ _ ⟨rfl, rfl, rfl⟩
    refine e_bz_eq o186_25 42 rfl (fun hb25 => ?_) (fun hb25 => ?_)
    · refine e_al0 o186_42 (e_ico o186_43 (e_Vi1 o186_44 K186 K133 rfl ⟨rfl, rfl⟩ (zrcv_I L79 rfl) (by omega) rfl m133 ?_))
      rintro _ _ _ ⟨rfl, rfl, rfl⟩
      refine e_rI o186_47 K186 rfl rfl ?_
      first | exact Or.inl ⟨by omega, by rw [zz 99 (by decide), zI_g], rfl, rfl⟩ | exact Or.inr ⟨by omega, rfl, rfl, rfl⟩
    · refine e_al0 o186_28 (e_gR o186_29 L79 rfl rfl (e_bip o186_32 rfl (e_il1 o186_34 (e_mul o186_35 (e_il2 o186_36 (e_add o186_37 (e_ial o186_38 L99 (by omega) (by omega) (e_goto o186_39 47 rfl ?_))))))))
      refine e_rI o186_47 K186 rfl rfl ?_
      first | exact Or.inl ⟨by omega, by rw [zz 99 (by decide), zI_g], rfl, rfl⟩ | exact Or.inr ⟨by omega, rfl, rfl, rfl⟩
theorem m161 : zEv sc 161 d 0 [.ref 79] [] (zmk v u) 0 0 (zis (zI (zg v 79 23)) (zu v 79 2 (zI 0)) u) := by
  refine e_al0 o161_0 (e_ico o161_1 (e_pI o161_2 L79 rfl rfl rfl rfl 2 rfl (e_al0 o161_5 (e_gI o161_6 L79 rfl 23 rfl ?_))))
  refine e_rI o161_9 K161 rfl rfl ?_
  exact ⟨by rw [zg_ne (by omega)], rfl, rfl⟩
theorem m130 : zEv sc 130 d 0 [.ref 79] [] (zmk v u) 0 0 (zis (zI (zg v 79 2)) v u) := by
  refine e_al0 o130_0 (e_gI o130_1 L79 rfl 2 rfl ?_)
  refine e_rI o130_4 K130 rfl rfl ?_
  exact ⟨rfl, rfl, rfl⟩
theorem m191 : zEv sc 191 d 0 [.ref 79] [] (zmk v u) 0 0 (zdo (zu (zu (zu v 79 2 (zI 0)) 79 32 (zI 0)) 79 33 (zI 0)) u) := by
  refine e_al0 o191_0 (e_ico o191_1 (e_pI o191_2 L79 rfl rfl rfl rfl 2 rfl (e_al0 o191_5 (e_ico o191_6 (e_pI o191_7 L79 rfl rfl rfl rfl 32 rfl (e_al0 o191_10 (e_ico o191_11 (e_pI o191_12 L79 rfl rfl rfl rfl 33 rfl ?_))))))))
  refine e_rV o191_15 K191 rfl rfl ?_
  exact ⟨rfl, rfl⟩
theorem m202 {i : Int} (hd : 3 ≤ d) (hi : -2147483648 ≤ i ∧ i < 2147483648) (hl : -1 ≤ zg v 79 44 ∧ zg v 79 44 ≤ 4) : zEv sc 202 d 0 [.ref 79, .int (zI i)] [] (zmk v u) 0 0 (mqu (0 ≤ i ∧ i < zg v 79 44) (v 104 i) v u) := by
  have zz : ∀ a, ¬ a = 79 → zg (zu v 79 2 (zI 0)) a = zg v a := fun a h => funext fun k => zg_na h
  refine e_al0 o202_0 (e_ico o202_1 (e_pI o202_2 L79 rfl rfl rfl rfl 2 rfl (e_al0 o202_5 (e_gI o202_6 L79 rfl 44 rfl (e_ico o202_9 ?_)))))
  rw [zg_ne (by omega)]
  refine e_ic_eq o202_10 36 rfl (by first | exact zg_rg _ _ _ | exact zt_rg _ | omega) (by first | exact zg_rg _ _ _ | exact zt_rg _ | omega) (fun hb10 => ?_) (fun hb10 => ?_)
  · refine e_al0 o202_36 (e_ico o202_37 (e_Vi1 o202_38 K202 K133 rfl ⟨rfl, rfl⟩ (zrcv_I L79 rfl) (by omega) rfl m133 ?_))
    rintro _ _ _ ⟨rfl, rfl, rfl⟩
    refine e_rI o202_41 K202 rfl rfl ?_
    first | exact Or.inl ⟨by omega, by rw [zz 104 (by decide), zI_g], rfl, rfl⟩ | exact Or.inr ⟨by omega, rfl, rfl, rfl⟩
  · refine e_il1 o202_13 (e_ico o202_14 (e_al0 o202_15 (e_gI o202_16 L79 rfl 44 rfl ?_)))
    rw [zg_ne (by omega)]
    refine e_ico o202_19 (e_sub o202_20 (e_Si3 o202_21 K202 K169 rfl ⟨rfl, rfl⟩ (by omega) rfl (m169 hi (by omega) (by omega)) ?_))
    rintro _ _ _ ⟨rfl, rfl, rfl⟩
    refine e_bz_eq o202_24 36 rfl (fun hb24 => ?_) (fun hb24 => ?_)
    · refine e_al0 o202_36 (e_ico o202_37 (e_Vi1 o202_38 K202 K133 rfl ⟨rfl, rfl⟩ (zrcv_I L79 rfl) (by omega) rfl m133 ?_))
      rintro _ _ _ ⟨rfl, rfl, rfl⟩
      refine e_rI o202_41 K202 rfl rfl ?_
      first | exact Or.inl ⟨by omega, by rw [zz 104 (by decide), zI_g], rfl, rfl⟩ | exact Or.inr ⟨by omega, rfl, rfl, rfl⟩
    · refine e_al0 o202_27 (e_gR o202_28 L79 rfl rfl (e_il1 o202_31 (e_ial o202_32 L104 (by omega) (by omega) (e_goto o202_33 41 rfl ?_))))
      refine e_rI o202_41 K202 rfl rfl ?_
      first | exact Or.inl ⟨by omega, by rw [zz 104 (by decide), zI_g], rfl, rfl⟩ | exact Or.inr ⟨by omega, rfl, rfl, rfl⟩
end
