/-! the class's tape -/
def TXc (B : Int → Int) (N : Int) (v : zV) : Prop := (0 ≤ N ∧ N ≤ 600) ∧ zg v 2 6 = N ∧ ∀ i, 0 ≤ i → i < N → zg v 3 i = B i ∧ -128 ≤ B i ∧ B i < 128
def CT (B : Int → Int) (N : Int) (v : zV) (e : Int) : Prop := zg v 2 2 = tk B N e ∧ zg v 2 3 = ts B N e ∧ zg v 2 5 = te B N e ∧ (tk B N e = 2 → zg v 2 4 = tn B N e)
def FC (v w : zV) : Prop := ∀ a q, ¬ (a = 2 ∧ (q = 2 ∨ q = 3 ∨ q = 4 ∨ q = 5)) → w a q = v a q
section
variable {sc : Nat × (Nat → Int32)} {d : Nat} {v v0 w : zV} {u : zU} {B : Int → Int} {N : Int}
theorem c35 {x : Int} (hx : -2147483648 ≤ x ∧ x < 2147483648) : zEv sc 35 d 0 [.int (zI x)] [] (zmk v u) 0 0 (zis (zI (zb (x = 32 ∨ x = 10))) v u) := by
  refine e_il0 o35_0 (e_bip o35_1 rfl (e_ic_eq o35_3 12 rfl (by first | exact zg_rg _ _ _ | exact zt_rg _ | omega) (by first | exact zg_rg _ _ _ | exact zt_rg _ | omega) (fun hb3 => ?_) (fun hb3 => ?_)))
  · refine e_ico o35_12 (e_goto o35_13 17 rfl ?_)
    refine e_rI o35_17 K35 (by decide) rfl ?_
    exact ⟨congrArg zI (by unfold zb; split <;> first | rfl | omega), rfl, rfl⟩
  · refine e_il0 o35_6 (e_bip o35_7 rfl (e_ic_ne o35_9 16 rfl (by first | exact zg_rg _ _ _ | exact zt_rg _ | omega) (by first | exact zg_rg _ _ _ | exact zt_rg _ | omega) (fun hb9 => ?_) (fun hb9 => ?_)))
    · refine e_ico o35_16 ?_
      refine e_rI o35_17 K35 (by decide) rfl ?_
      exact ⟨congrArg zI (by unfold zb; split <;> first | rfl | omega), rfl, rfl⟩
    · refine e_ico o35_12 (e_goto o35_13 17 rfl ?_)
      refine e_rI o35_17 K35 (by decide) rfl ?_
      exact ⟨congrArg zI (by unfold zb; split <;> first | rfl | omega), rfl, rfl⟩
theorem c36 {x : Int} (hx : -2147483648 ≤ x ∧ x < 2147483648) : zEv sc 36 d 0 [.int (zI x)] [] (zmk v u) 0 0 (zis (zI (zb (97 ≤ x ∧ x ≤ 122))) v u) := by
  refine e_il0 o36_0 (e_bip o36_1 rfl (e_ic_lt o36_3 16 rfl (by first | exact zg_rg _ _ _ | exact zt_rg _ | omega) (by first | exact zg_rg _ _ _ | exact zt_rg _ | omega) (fun hb3 => ?_) (fun hb3 => ?_)))
  · refine e_ico o36_16 ?_
    refine e_rI o36_17 K36 (by decide) rfl ?_
    exact ⟨congrArg zI (by unfold zb; split <;> first | rfl | omega), rfl, rfl⟩
  · refine e_il0 o36_6 (e_bip o36_7 rfl (e_ic_gt o36_9 16 rfl (by first | exact zg_rg _ _ _ | exact zt_rg _ | omega) (by first | exact zg_rg _ _ _ | exact zt_rg _ | omega) (fun hb9 => ?_) (fun hb9 => ?_)))
    · refine e_ico o36_16 ?_
      refine e_rI o36_17 K36 (by decide) rfl ?_
      exact ⟨congrArg zI (by unfold zb; split <;> first | rfl | omega), rfl, rfl⟩
    · refine e_ico o36_12 (e_goto o36_13 17 rfl ?_)
      refine e_rI o36_17 K36 (by decide) rfl ?_
      exact ⟨congrArg zI (by unfold zb; split <;> first | rfl | omega), rfl, rfl⟩
theorem c37 {x : Int} (hx : -2147483648 ≤ x ∧ x < 2147483648) : zEv sc 37 d 0 [.int (zI x)] [] (zmk v u) 0 0 (zis (zI (zb (48 ≤ x ∧ x ≤ 57))) v u) := by
  refine e_il0 o37_0 (e_bip o37_1 rfl (e_ic_lt o37_3 16 rfl (by first | exact zg_rg _ _ _ | exact zt_rg _ | omega) (by first | exact zg_rg _ _ _ | exact zt_rg _ | omega) (fun hb3 => ?_) (fun hb3 => ?_)))
  · refine e_ico o37_16 ?_
    refine e_rI o37_17 K37 (by decide) rfl ?_
    exact ⟨congrArg zI (by unfold zb; split <;> first | rfl | omega), rfl, rfl⟩
  · refine e_il0 o37_6 (e_bip o37_7 rfl (e_ic_gt o37_9 16 rfl (by first | exact zg_rg _ _ _ | exact zt_rg _ | omega) (by first | exact zg_rg _ _ _ | exact zt_rg _ | omega) (fun hb9 => ?_) (fun hb9 => ?_)))
    · refine e_ico o37_16 ?_
      refine e_rI o37_17 K37 (by decide) rfl ?_
      exact ⟨congrArg zI (by unfold zb; split <;> first | rfl | omega), rfl, rfl⟩
    · refine e_ico o37_12 (e_goto o37_13 17 rfl ?_)
      refine e_rI o37_17 K37 (by decide) rfl ?_
      exact ⟨congrArg zI (by unfold zb; split <;> first | rfl | omega), rfl, rfl⟩
theorem TXc_w (h : TXc B N v) (hw : ∀ q, w 3 q = v 3 q) (h6 : w 2 6 = v 2 6) : TXc B N w := by
  unfold TXc at h ⊢
  rw [show zg w 3 = zg v 3 from zg_fn hw, show zg w 2 6 = zg v 2 6 by simp only [zg]; rw [h6]]
  exact h
theorem c34 {e : Int} (hd : 1 ≤ d) (hT : TXc B N v) (he : zg v 2 5 = e) (e0 : 0 ≤ e) (e1 : e ≤ N) : zEv sc 34 d 0 [.ref 2] [] (zmk v u) 0 0 (zPv fun w t => (FC v w ∧ CT B N w e) ∧ u = t) := by
  obtain ⟨⟨n0, n6⟩, hN, hB⟩ := id hT
  have hsi := ts_in (B := B) e1
  obtain ⟨s, hs⟩ : ∃ s, s = ts B N e := ⟨_, rfl⟩
  rw [← hs] at hsi
  have tx : ∀ w, FC v w → TXc B N w := fun w h => TXc_w hT (fun q => h 3 q (by omega)) (h 2 6 (by omega))
  -- letters
  have lw : ∀ q, 0 ≤ q → q ≤ N → s ≤ q → s < N → lt (B s) = true → rn (fun q => lt (B q)) N q = rn (fun q => lt (B q)) N s → ∀ w, FC v w → zg w 2 2 = 1 → zg w 2 3 = s → zg w 2 5 = q → zEv sc 34 d 86 [.ref 2] [] (zmk w u) 0 0 (zPv fun w t => (FC v w ∧ CT B N w e) ∧ u = t) := by
    refine zloop ?_
    intro q q0 q1 ih sq sN hl hr w hF h2 h3 h5
    obtain ⟨_, wN, wB⟩ := tx w hF
    have ek : tk B N e = 1 := by unfold tk; rw [← hs, if_neg (by omega), if_pos hl]
    have ee : te B N e = rn (fun q => lt (B q)) N s := by unfold te; rw [← hs, if_neg (by omega), if_pos hl]
    have done : ¬ (q < N ∧ lt (B q) = true) → CT B N w e := by
      intro h
      refine ⟨by rw [ek]; exact h2, by rw [← hs]; exact h3, ?_, fun z => by omega⟩
      rw [ee, ← hr, rn_no (P := fun q => lt (B q)) h]
      exact h5
    refine e_al0 o34_86 (e_gI o34_87 L2 rfl 5 rfl (e_al0 o34_90 (e_gI o34_91 L2 rfl 6 rfl ?_)))
    rw [h5, wN]
    refine e_ic_ge o34_94 245 rfl (by first | exact zg_rg _ _ _ | exact zt_rg _ | omega) (by first | exact zg_rg _ _ _ | exact zt_rg _ | omega) (fun hb94 => ?_) (fun hb94 => ?_)
    · refine e_rV o34_245 K34 rfl rfl ?_
      refine ⟨⟨hF, done ?_⟩, rfl⟩
      first | exact fun z => absurd z.1 (by omega) | exact fun z => hb109 (of_decide_eq_true z.2)
    · refine e_al0 o34_97 (e_gR o34_98 L2 rfl rfl (e_al0 o34_101 (e_gI o34_102 L2 rfl 5 rfl ?_)))
      rw [h5]
      refine e_bal o34_105 L3 (by omega) (by omega) ?_
      rw [(wB q q0 (by omega)).1]
      have hbq := (wB q q0 (by omega)).2
      refine e_Si1 o34_106 K34 K36 rfl ⟨rfl, rfl⟩ (by omega) rfl (c36 (by omega)) ?_
      rintro _ _ _ ⟨rfl, rfl, rfl⟩
      refine e_bz_eq o34_109 245 rfl (fun hb109 => ?_) (fun hb109 => ?_)
      · refine e_rV o34_245 K34 rfl rfl ?_
        refine ⟨⟨hF, done ?_⟩, rfl⟩
        first | exact fun z => absurd z.1 (by omega) | exact fun z => hb109 (of_decide_eq_true z.2)
      · refine e_al0 o34_112 (e_dupR o34_113 (e_gI o34_114 L2 rfl 5 rfl (e_ico o34_117 ?_)))
        rw [h5]
        refine e_add o34_118 (e_pI o34_119 L2 rfl rfl rfl rfl 5 rfl (e_goto o34_122 86 rfl ?_))
        have hl2 : lt (B q) = true := decide_eq_true hb109
        exact ih (by omega) (by omega) sN hl (by rw [← hr, rn_st (P := fun q => lt (B q)) (by omega) hl2]) _ (fun a k h => by rw [zu_ne (by omega), hF a k h]) (by rw [zg_ne (by omega), h2]) (by rw [zg_ne (by omega), h3]) (by rw [zg_same (by omega)])
  -- digits
  have dw : ∀ q, 0 ≤ q → q ≤ N → s ≤ q → s < N → ¬ lt (B s) = true → dg (B s) = true → rn (fun q => dg (B q)) N q = rn (fun q => dg (B q)) N s → (∀ i, s ≤ i → i < q → dg (B i) = true) → ∀ w, FC v w → zg w 2 2 = 2 → zg w 2 3 = s → zg w 2 4 = (if q - s ≤ 4 then dv B s (q - s) else -1) → zg w 2 5 = q → zEv sc 34 d 150 [.ref 2] [] (zmk w u) 0 0 (zPv fun w t => (FC v w ∧ CT B N w e) ∧ u = t) := by
    refine zloop ?_
    intro q q0 q1 ih sq sN hnl hdg hr hdi w hF h2 h3 h4 h5
    obtain ⟨_, wN, wB⟩ := tx w hF
    have ek : tk B N e = 2 := by unfold tk; rw [← hs, if_neg (by omega), if_neg hnl, if_pos hdg]
    have ee : te B N e = rn (fun q => dg (B q)) N s := by unfold te; rw [← hs, if_neg (by omega), if_neg hnl, if_pos hdg]
    have done : ¬ (q < N ∧ dg (B q) = true) → CT B N w e := by
      intro h
      have e5 : te B N e = q := by rw [ee, ← hr, rn_no (P := fun q => dg (B q)) h]
      refine ⟨by rw [ek]; exact h2, by rw [← hs]; exact h3, by rw [e5]; exact h5, fun z => ?_⟩
      unfold tn
      rw [e5, ← hs]
      exact h4
    have next : q < N → dg (B q) = true → ∀ z, z = (if q + 1 - s ≤ 4 then dv B s (q + 1 - s) else -1) → -2147483648 ≤ z ∧ z < 2147483648 → zEv sc 34 d 214 [.ref 2] [.int (zI z), .ref 2] (zmk w u) 0 0 (zPv fun w t => (FC v w ∧ CT B N w e) ∧ u = t) := by
      intro hq hq2 z hz zr
      refine e_pI o34_214 L2 rfl rfl rfl rfl 4 rfl (e_al0 o34_217 (e_dupR o34_218 (e_gI o34_219 L2 rfl 5 rfl (e_ico o34_222 ?_))))
      rw [zg_ne (by omega), h5]
      refine e_add o34_223 (e_pI o34_224 L2 rfl rfl rfl rfl 5 rfl (e_goto o34_227 150 rfl ?_))
      exact ih (by omega) (by omega) sN hnl hdg (by rw [← hr, rn_st (P := fun q => dg (B q)) hq hq2]) (fun i i0 i1 => by rcases (show i < q ∨ i = q by omega) with z | z; exact hdi i i0 z; rw [z]; exact hq2) _ (fun a k h => by rw [zu_ne (by omega), zu_ne (by omega), hF a k h]) (by rw [zg_ne (by omega), zg_ne (by omega), h2]) (by rw [zg_ne (by omega), zg_ne (by omega), h3]) (by rw [zg_ne (by omega), zg_same zr, hz]) (by rw [zg_same (by omega)])
    refine e_al0 o34_150 (e_gI o34_151 L2 rfl 5 rfl (e_al0 o34_154 (e_gI o34_155 L2 rfl 6 rfl ?_)))
    rw [h5, wN]
    refine e_ic_ge o34_158 245 rfl (by first | exact zg_rg _ _ _ | exact zt_rg _ | omega) (by first | exact zg_rg _ _ _ | exact zt_rg _ | omega) (fun hb158 => ?_) (fun hb158 => ?_)
    · refine e_rV o34_245 K34 rfl rfl ?_
      refine ⟨⟨hF, done ?_⟩, rfl⟩
      first | exact fun z => absurd z.1 (by omega) | exact fun z => hb173 (of_decide_eq_true z.2)
    · refine e_al0 o34_161 (e_gR o34_162 L2 rfl rfl (e_al0 o34_165 (e_gI o34_166 L2 rfl 5 rfl ?_)))
      rw [h5]
      refine e_bal o34_169 L3 (by omega) (by omega) ?_
      rw [(wB q q0 (by omega)).1]
      have hbq := (wB q q0 (by omega)).2
      refine e_Si1 o34_170 K34 K37 rfl ⟨rfl, rfl⟩ (by omega) rfl (c37 (by omega)) ?_
      rintro _ _ _ ⟨rfl, rfl, rfl⟩
      refine e_bz_eq o34_173 245 rfl (fun hb173 => ?_) (fun hb173 => ?_)
      · refine e_rV o34_245 K34 rfl rfl ?_
        refine ⟨⟨hF, done ?_⟩, rfl⟩
        first | exact fun z => absurd z.1 (by omega) | exact fun z => hb173 (of_decide_eq_true z.2)
      · have hdq : dg (B q) = true := decide_eq_true hb173
        refine e_al0 o34_176 (e_al0 o34_177 (e_gI o34_178 L2 rfl 5 rfl (e_al0 o34_181 (e_gI o34_182 L2 rfl 3 rfl ?_))))
        rw [h5, h3]
        refine e_sub o34_185 (e_ico o34_186 (e_ic_ge o34_187 213 rfl (by first | exact zg_rg _ _ _ | exact zt_rg _ | omega) (by first | exact zg_rg _ _ _ | exact zt_rg _ | omega) (fun hb187 => ?_) (fun hb187 => ?_)))
        · refine e_ico o34_213 ?_
          first
          | (have e9 : dv B s (q + 1 - s) = dv B s (q - s) * 10 + (B q - 48) := by
               rw [show q + 1 - s = (q - s) + 1 by omega, dv_succ (by omega), show s + (q - s) = q by omega]
             refine next (by omega) hdq _ ?_ (by omega)
             rw [if_pos (by omega), e9])
          | (refine next (by omega) hdq _ ?_ (by omega)
             rw [if_neg (by omega)])
        · rw [if_pos (show q - s ≤ 4 by omega)] at h4
          have hdv := dv_bd (B := B) (s := s) (q - s) (by omega) (by omega) (fun i i0 i1 => hdi (s + i) (by omega) (by omega))
          refine e_al0 o34_190 (e_gI o34_191 L2 rfl 4 rfl ?_)
          rw [h4]
          refine e_bip o34_194 rfl (e_mul o34_196 (e_al0 o34_197 (e_gR o34_198 L2 rfl rfl (e_al0 o34_201 (e_gI o34_202 L2 rfl 5 rfl ?_)))))
          rw [h5]
          refine e_bal o34_205 L3 (by omega) (by omega) ?_
          rw [(wB q q0 (by omega)).1]
          refine e_bip o34_206 rfl (e_sub o34_208 (e_add o34_209 (e_goto o34_210 214 rfl ?_)))
          first
          | (have e9 : dv B s (q + 1 - s) = dv B s (q - s) * 10 + (B q - 48) := by
               rw [show q + 1 - s = (q - s) + 1 by omega, dv_succ (by omega), show s + (q - s) = q by omega]
             refine next (by omega) hdq _ ?_ (by omega)
             rw [if_pos (by omega), e9])
          | (refine next (by omega) hdq _ ?_ (by omega)
             rw [if_neg (by omega)])
  -- behind the blanks
  have mid : ∀ w, FC v w → zg w 2 5 = s → zEv sc 34 d 39 [.ref 2] [] (zmk w u) 0 0 (zPv fun w t => (FC v w ∧ CT B N w e) ∧ u = t) := by
    intro w hF h5
    obtain ⟨_, wN, wB⟩ := tx w hF
    have z3 : ∀ x, zg (zu w 2 3 x) 3 = zg w 3 := fun x => funext fun k => zg_na (by decide)
    have F1 : ∀ k x, (k = 2 ∨ k = 3 ∨ k = 4 ∨ k = 5) → ∀ w, FC v w → FC v (zu w 2 k x) := fun k x hk w h a q hq => by rw [zu_ne (by omega), h a q hq]
    refine e_al0 o34_39 (e_al0 o34_40 (e_gI o34_41 L2 rfl 5 rfl ?_))
    rw [h5]
    refine e_pI o34_44 L2 rfl rfl rfl rfl 3 rfl (e_al0 o34_47 (e_gI o34_48 L2 rfl 3 rfl (e_al0 o34_51 (e_gI o34_52 L2 rfl 6 rfl ?_))))
    rw [zg_same (by omega), zg_ne (by omega), wN]
    refine e_ic_lt o34_55 66 rfl (by first | exact zg_rg _ _ _ | exact zt_rg _ | omega) (by first | exact zg_rg _ _ _ | exact zt_rg _ | omega) (fun hb55 => ?_) (fun hb55 => ?_)
    · refine e_al0 o34_66 (e_gR o34_67 L2 rfl rfl (e_al0 o34_70 (e_gI o34_71 L2 rfl 3 rfl ?_)))
      rw [zg_same (by omega)]
      refine e_bal o34_74 L3 (by omega) (by omega) ?_
      rw [zg_na (by decide), (wB s (by omega) (by omega)).1]
      have hbs := (wB s (by omega) (by omega)).2
      refine e_Si1 o34_75 K34 K36 rfl ⟨rfl, rfl⟩ (by omega) rfl (c36 (by omega)) ?_
      rintro _ _ _ ⟨rfl, rfl, rfl⟩
      refine e_bz_eq o34_78 125 rfl (fun hb78 => ?_) (fun hb78 => ?_)
      · refine e_al0 o34_125 (e_gR o34_126 L2 rfl rfl (e_al0 o34_129 (e_gI o34_130 L2 rfl 3 rfl ?_)))
        rw [zg_same (by omega)]
        refine e_bal o34_133 L3 (by omega) (by omega) ?_
        rw [zg_na (by decide), (wB s (by omega) (by omega)).1]
        refine e_Si1 o34_134 K34 K37 rfl ⟨rfl, rfl⟩ (by omega) rfl (c37 (by omega)) ?_
        rintro _ _ _ ⟨rfl, rfl, rfl⟩
        refine e_bz_eq o34_137 230 rfl (fun hb137 => ?_) (fun hb137 => ?_)
        · refine e_al0 o34_230 (e_ico o34_231 (e_pI o34_232 L2 rfl rfl rfl rfl 2 rfl (e_al0 o34_235 (e_dupR o34_236 (e_gI o34_237 L2 rfl 5 rfl ?_)))))
          rw [zg_ne (by omega), zg_ne (by omega), h5]
          refine e_ico o34_240 (e_add o34_241 (e_pI o34_242 L2 rfl rfl rfl rfl 5 rfl ?_))
          refine e_rV o34_245 K34 rfl rfl ?_
          first
          | (refine ⟨⟨F1 _ _ (by omega) _ (F1 _ _ (by omega) _ hF), ?_, ?_, ?_, ?_⟩, rfl⟩
             · rw [zg_same (by omega)]; unfold tk; rw [← hs, if_pos (by omega)]
             · rw [zg_ne (by omega), zg_same (by omega), hs]
             · rw [zg_ne (by omega), zg_ne (by omega), h5]; unfold te; rw [← hs, if_pos (by omega)]
             · intro z; unfold tk at z; rw [← hs, if_pos (by omega)] at z; omega)
          | (have n1 : ¬ lt (B s) = true := fun z => hb78 (of_decide_eq_true z)
             have n2 : ¬ dg (B s) = true := fun z => hb137 (of_decide_eq_true z)
             refine ⟨⟨F1 _ _ (by omega) _ (F1 _ _ (by omega) _ (F1 _ _ (by omega) _ hF)), ?_, ?_, ?_, ?_⟩, rfl⟩
             · rw [zg_ne (by omega), zg_same (by omega)]; unfold tk; rw [← hs, if_neg (by omega), if_neg n1, if_neg n2]
             · rw [zg_ne (by omega), zg_ne (by omega), zg_same (by omega), hs]
             · rw [zg_same (by omega)]; unfold te; rw [← hs, if_neg (by omega), if_neg n1, if_neg n2]
             · intro z; unfold tk at z; rw [← hs, if_neg (by omega), if_neg n1, if_neg n2] at z; omega)
        · refine e_al0 o34_140 (e_ico o34_141 (e_pI o34_142 L2 rfl rfl rfl rfl 2 rfl (e_al0 o34_145 (e_ico o34_146 (e_pI o34_147 L2 rfl rfl rfl rfl 4 rfl ?_)))))
          refine dw s (by omega) hsi.2 (by omega) (by omega) (fun z => hb78 (of_decide_eq_true z)) (decide_eq_true hb137) rfl (fun i i0 i1 => by omega) _ (F1 _ _ (by omega) _ (F1 _ _ (by omega) _ (F1 _ _ (by omega) _ hF))) (by rw [zg_ne (by omega), zg_same (by omega)]) (by rw [zg_ne (by omega), zg_ne (by omega), zg_same (by omega)]) ?_ (by rw [zg_ne (by omega), zg_ne (by omega), zg_ne (by omega), h5])
          rw [zg_same (by omega), Int.sub_self, if_pos (by omega)]
          rfl
      · refine e_al0 o34_81 (e_ico o34_82 (e_pI o34_83 L2 rfl rfl rfl rfl 2 rfl ?_))
        exact lw s (by omega) hsi.2 (by omega) (by omega) (decide_eq_true hb78) rfl _ (F1 _ _ (by omega) _ (F1 _ _ (by omega) _ hF)) (by rw [zg_same (by omega)]) (by rw [zg_ne (by omega), zg_same (by omega)]) (by rw [zg_ne (by omega), zg_ne (by omega), h5])
    · refine e_al0 o34_58 (e_ico o34_59 (e_pI o34_60 L2 rfl rfl rfl rfl 2 rfl (e_goto o34_63 245 rfl ?_)))
      refine e_rV o34_245 K34 rfl rfl ?_
      first
      | (refine ⟨⟨F1 _ _ (by omega) _ (F1 _ _ (by omega) _ hF), ?_, ?_, ?_, ?_⟩, rfl⟩
         · rw [zg_same (by omega)]; unfold tk; rw [← hs, if_pos (by omega)]
         · rw [zg_ne (by omega), zg_same (by omega), hs]
         · rw [zg_ne (by omega), zg_ne (by omega), h5]; unfold te; rw [← hs, if_pos (by omega)]
         · intro z; unfold tk at z; rw [← hs, if_pos (by omega)] at z; omega)
      | (have n1 : ¬ lt (B s) = true := fun z => hb78 (of_decide_eq_true z)
         have n2 : ¬ dg (B s) = true := fun z => hb137 (of_decide_eq_true z)
         refine ⟨⟨F1 _ _ (by omega) _ (F1 _ _ (by omega) _ (F1 _ _ (by omega) _ hF)), ?_, ?_, ?_, ?_⟩, rfl⟩
         · rw [zg_ne (by omega), zg_same (by omega)]; unfold tk; rw [← hs, if_neg (by omega), if_neg n1, if_neg n2]
         · rw [zg_ne (by omega), zg_ne (by omega), zg_same (by omega), hs]
         · rw [zg_same (by omega)]; unfold te; rw [← hs, if_neg (by omega), if_neg n1, if_neg n2]
         · intro z; unfold tk at z; rw [← hs, if_neg (by omega), if_neg n1, if_neg n2] at z; omega)
  have blk : ∀ q, 0 ≤ q → q ≤ N → e ≤ q → rn (fun q => bl (B q)) N q = s → ∀ w, FC v w → zg w 2 5 = q → zEv sc 34 d 0 [.ref 2] [] (zmk w u) 0 0 (zPv fun w t => (FC v w ∧ CT B N w e) ∧ u = t) := by
    refine zloop ?_
    intro q q0 q1 ih eq hr w hF h5
    obtain ⟨_, wN, wB⟩ := tx w hF
    refine e_al0 o34_0 (e_gI o34_1 L2 rfl 5 rfl (e_al0 o34_4 (e_gI o34_5 L2 rfl 6 rfl ?_)))
    rw [h5, wN]
    refine e_ic_ge o34_8 39 rfl (by first | exact zg_rg _ _ _ | exact zt_rg _ | omega) (by first | exact zg_rg _ _ _ | exact zt_rg _ | omega) (fun hb8 => ?_) (fun hb8 => ?_)
    · refine mid w hF ?_
      rw [h5, ← hr]
      symm
      apply rn_no
      first | exact fun z => absurd z.1 (by omega) | exact fun z => hb23 (of_decide_eq_true z.2)
    · refine e_al0 o34_11 (e_gR o34_12 L2 rfl rfl (e_al0 o34_15 (e_gI o34_16 L2 rfl 5 rfl ?_)))
      rw [h5]
      refine e_bal o34_19 L3 (by omega) (by omega) ?_
      rw [(wB q q0 (by omega)).1]
      have hbq := (wB q q0 (by omega)).2
      refine e_Si1 o34_20 K34 K35 rfl ⟨rfl, rfl⟩ (by omega) rfl (c35 (by omega)) ?_
      rintro _ _ _ ⟨rfl, rfl, rfl⟩
      refine e_bz_eq o34_23 39 rfl (fun hb23 => ?_) (fun hb23 => ?_)
      · refine mid w hF ?_
        rw [h5, ← hr]
        symm
        apply rn_no
        first | exact fun z => absurd z.1 (by omega) | exact fun z => hb23 (of_decide_eq_true z.2)
      · refine e_al0 o34_26 (e_dupR o34_27 (e_gI o34_28 L2 rfl 5 rfl (e_ico o34_31 ?_)))
        rw [h5]
        refine e_add o34_32 (e_pI o34_33 L2 rfl rfl rfl rfl 5 rfl (e_goto o34_36 0 rfl ?_))
        have hl2 : bl (B q) = true := decide_eq_true hb23
        exact ih (by omega) (by omega) (by rw [← hr, rn_st (P := fun q => bl (B q)) (by omega) hl2]) _ (fun a k h => by rw [zu_ne (by omega), hF a k h]) (by rw [zg_same (by omega)])
  exact blk e e0 e1 (by omega) (by rw [hs]; rfl) v (fun _ _ _ => rfl) he
theorem c33 {n : Int} (hd : 2 ≤ d) (h0 : 0 ≤ n) (h1 : n ≤ 600) (hB : ∀ i, 0 ≤ i → i < n → zg v 3 i = B i ∧ -128 ≤ B i ∧ B i < 128) : zEv sc 33 d 0 [.ref 2, .int (zI n)] [] (zmk v u) 0 0 (zPv fun w t => ((∀ a q, ¬ (a = 2 ∧ 2 ≤ q ∧ q ≤ 6) → w a q = v a q) ∧ TXc B n w ∧ CT B n w 0) ∧ u = t) := by
  have hT : TXc B n (zu (zu v 2 6 (zI n)) 2 5 (zI 0)) := ⟨⟨h0, h1⟩, by rw [zg_ne (by omega), zg_same (by omega)], fun i i0 i1 => by rw [zg_na (by decide), zg_na (by decide)]; exact hB i i0 i1⟩
  refine e_al0 o33_0 (e_il1 o33_1 (e_sip o33_2 rfl (e_min o33_5 (by omega) rfl (by first | exact zg_rg _ _ _ | exact zt_rg _ | omega) (by first | exact zg_rg _ _ _ | exact zt_rg _ | omega) ?_)))
  rw [show min n 600 = n by omega]
  refine e_pI o33_8 L2 rfl rfl rfl rfl 6 rfl (e_al0 o33_11 (e_ico o33_12 (e_pI o33_13 L2 rfl rfl rfl rfl 5 rfl (e_al0 o33_16 (e_Vv0 o33_17 K33 K34 rfl ⟨rfl, rfl⟩ (zrcv_I L2 rfl) (by omega) rfl (c34 (e := 0) (by omega) hT (by rw [zg_same (by omega)]) (by omega) h0) ?_)))))
  rintro w u' ⟨⟨q1, q2⟩, rfl⟩
  refine e_rV o33_20 K33 rfl rfl ?_
  exact ⟨⟨fun a q h => by rw [q1 a q (by omega), zu_ne (by omega), zu_ne (by omega)], TXc_w hT (fun q => q1 3 q (by omega)) (q1 2 6 (by omega)), q2⟩, rfl⟩
/-- the token behind e is this word -/
def wdX (B : Int → Int) (s : Int) (r : Nat) (n : Int) : Bool := zfo (fun i b => b && decide (B (s + i) = sC r i)) true n
def isW (B : Int → Int) (N e : Int) (r : Nat) : Bool := decide (tk B N e = 1 ∧ te B N e - ts B N e = sN r) && wdX B (ts B N e) r (sN r)
def isS (B : Int → Int) (N e : Int) (x : Int) : Bool := decide (tk B N e = 3 ∧ B (ts B N e) = x)
theorem tk_rg {e : Int} : 0 ≤ tk B N e ∧ tk B N e ≤ 3 := by
  unfold tk; split; omega; split; omega; split <;> omega
theorem wdX_succ {s i : Int} {r : Nat} (h : 0 ≤ i) : wdX B s r (i + 1) = (wdX B s r i && decide (B (s + i) = sC r i)) := zfo_succ h
theorem wdX_no {s i : Int} {r : Nat} (i0 : 0 ≤ i) (h : ¬ B (s + i) = sC r i) : ∀ k, 0 ≤ k → i < k → wdX B s r k = false := by
  refine zup ?_ ?_
  · intro z; omega
  · intro k k0 ih z
    rw [wdX_succ k0]
    rcases (show i < k ∨ i = k by omega) with e | e
    · rw [ih e]; rfl
    · subst e; rw [decide_eq_false h, Bool.and_false]
theorem c39 {e x : Int} (hT : TXc B N v) (hC : CT B N v e) (e0 : 0 ≤ e) (e1 : e ≤ N) (hx : -2147483648 ≤ x ∧ x < 2147483648) : zEv sc 39 d 0 [.ref 2, .int (zI x)] [] (zmk v u) 0 0 (zis (zI (zb (isS B N e x = true))) v u) := by
  obtain ⟨⟨n0, n6⟩, hN, hB⟩ := id hT
  obtain ⟨k1, k2, k3, k4⟩ := hC
  have h1 := ts_in (B := B) e1
  have h2 := te_in (B := B) e1
  have kr := tk_rg (B := B) (N := N) (e := e)
  have no : ¬ (tk B N e = 3 ∧ B (ts B N e) = x) → zI 0 = zI (zb (isS B N e x = true)) := fun h => by rw [show isS B N e x = false from decide_eq_false h]; rfl
  have yes : (tk B N e = 3 ∧ B (ts B N e) = x) → zI 1 = zI (zb (isS B N e x = true)) := fun h => by rw [show isS B N e x = true from decide_eq_true h]; rfl
  refine e_al0 o39_0 (e_gI o39_1 L2 rfl 2 rfl (e_ico o39_4 ?_))
  rw [k1]
  refine e_ic_ne o39_5 36 rfl (by first | exact zg_rg _ _ _ | exact zt_rg _ | omega) (by first | exact zg_rg _ _ _ | exact zt_rg _ | omega) (fun hb5 => ?_) (fun hb5 => ?_)
  · refine e_ico o39_36 ?_
    refine e_rI o39_37 K39 (by decide) rfl ?_
    first | exact ⟨(yes (by omega)).symm, rfl, rfl⟩ | exact ⟨(no (by omega)).symm, rfl, rfl⟩
  · refine e_al0 o39_8 (e_gI o39_9 L2 rfl 3 rfl (e_al0 o39_12 (e_gI o39_13 L2 rfl 6 rfl ?_)))
    rw [k2, hN]
    refine e_ic_ge o39_16 36 rfl (by first | exact zg_rg _ _ _ | exact zt_rg _ | omega) (by first | exact zg_rg _ _ _ | exact zt_rg _ | omega) (fun hb16 => ?_) (fun hb16 => ?_)
    · refine e_ico o39_36 ?_
      refine e_rI o39_37 K39 (by decide) rfl ?_
      first | exact ⟨(yes (by omega)).symm, rfl, rfl⟩ | exact ⟨(no (by omega)).symm, rfl, rfl⟩
    · refine e_al0 o39_19 (e_gR o39_20 L2 rfl rfl (e_al0 o39_23 (e_gI o39_24 L2 rfl 3 rfl ?_)))
      rw [k2]
      refine e_bal o39_27 L3 (by omega) (by omega) ?_
      rw [(hB _ (by omega) (by omega)).1]
      have hbs := (hB _ (show 0 ≤ ts B N e by omega) (by omega)).2
      refine e_il1 o39_28 (e_ic_ne o39_29 36 rfl (by first | exact zg_rg _ _ _ | exact zt_rg _ | omega) (by first | exact zg_rg _ _ _ | exact zt_rg _ | omega) (fun hb29 => ?_) (fun hb29 => ?_))
      · refine e_ico o39_36 ?_
        refine e_rI o39_37 K39 (by decide) rfl ?_
        first | exact ⟨(yes (by omega)).symm, rfl, rfl⟩ | exact ⟨(no (by omega)).symm, rfl, rfl⟩
      · refine e_ico o39_32 (e_goto o39_33 37 rfl ?_)
        refine e_rI o39_37 K39 (by decide) rfl ?_
        first | exact ⟨(yes (by omega)).symm, rfl, rfl⟩ | exact ⟨(no (by omega)).symm, rfl, rfl⟩
theorem c38 {e : Int} {r : Nat} (hd : 4 ≤ d) (hr : r < 48) (hT : TXc B N v) (hC : CT B N v e) (e0 : 0 ≤ e) (e1 : e ≤ N) : zEv sc 38 d 0 [.ref 2, .ref (1000 + r), zJ] [] (zmk v u) 0 0 (zis (zI (zb (isW B N e r = true))) v u) := by
  obtain ⟨⟨n0, n6⟩, hN, hB⟩ := id hT
  obtain ⟨k1, k2, k3, k4⟩ := hC
  have h1 := ts_in (B := B) e1
  have h2 := te_in (B := B) e1
  have kr := tk_rg (B := B) (N := N) (e := e)
  have sr := sN_ok hr
  have rc : zrcv (zmk v u) (1000 + r) 12 = true := by unfold zrcv; rw [if_neg (by omega)]; exact decide_eq_true ⟨by omega, rfl⟩
  have no : ¬ (tk B N e = 1 ∧ te B N e - ts B N e = sN r) → zI 0 = zI (zb (isW B N e r = true)) := fun h => by rw [show isW B N e r = false by unfold isW; rw [decide_eq_false h]; rfl]; rfl
  have eq : (tk B N e = 1 ∧ te B N e - ts B N e = sN r) → isW B N e r = wdX B (ts B N e) r (sN r) := fun h => by unfold isW; rw [decide_eq_true h]; rfl
  have loop : (tk B N e = 1 ∧ te B N e - ts B N e = sN r) → ∀ i, 0 ≤ i → i ≤ sN r → wdX B (ts B N e) r i = true → zEv sc 38 d 28 [.ref 2, .ref (1000 + r), .int (zI i)] [] (zmk v u) 0 0 (zis (zI (zb (isW B N e r = true))) v u) := by
    intro hk
    refine zloop ?_
    intro i i0 i1 ih hw
    refine e_il2 o38_28 (e_al1 o38_29 (e_Vi0 o38_30 K38 K226 rfl ⟨rfl, rfl⟩ rc (by omega) rfl (s226 (by omega) hr) ?_))
    rintro _ _ _ ⟨rfl, rfl, rfl⟩
    by_cases hi : i < sN r
    · have hc := sC_ok hr i0 hi
      have hb := hB (ts B N e + i) (by omega) (by omega)
      refine e_ic_ge o38_33 63 rfl (by omega) (by omega) (fun h => absurd h (by omega)) (fun _ => ?_)
      refine e_al0 o38_36 (e_gR o38_37 L2 rfl rfl (e_al0 o38_40 (e_gI o38_41 L2 rfl 3 rfl ?_)))
      rw [k2]
      refine e_il2 o38_44 (e_add o38_45 (e_bal o38_46 L3 (by omega) (by omega) ?_))
      rw [hb.1]
      refine e_al1 o38_47 (e_il2 o38_48 (e_Vi1 o38_49 K38 K228 rfl ⟨rfl, rfl⟩ rc (by omega) rfl (s228 (by omega) hr i0 hi) ?_))
      rintro _ _ _ ⟨rfl, rfl, rfl⟩
      refine e_ic_eq o38_52 57 rfl (by omega) (by omega) (fun h => ?_) (fun h => ?_)
      · refine e_inc2 o38_57 (e_goto o38_60 28 rfl ?_)
        exact ih hi (by rw [wdX_succ i0, hw, decide_eq_true h]; rfl)
      · refine e_ico o38_55 (e_rI o38_56 K38 rfl rfl ⟨?_, rfl, rfl⟩)
        rw [eq hk, wdX_no i0 h _ (by omega) hi]
        rfl
    · have ei : i = sN r := by omega
      refine e_ic_ge o38_33 63 rfl (by omega) (by omega) (fun h => ?_) (fun h => absurd h (by omega))
      refine e_ico o38_63 (e_rI o38_64 K38 rfl rfl ⟨?_, rfl, rfl⟩)
      rw [eq hk, ← ei, hw]
      rfl
  refine e_al0 o38_0 (e_gI o38_1 L2 rfl 2 rfl ?_)
  rw [k1]
  refine e_ico o38_4 (e_ic_ne o38_5 24 rfl (by omega) (by omega) (fun h => ?_) (fun h => ?_))
  · exact e_ico o38_24 (e_rI o38_25 K38 rfl rfl ⟨(no (by omega)).symm, rfl, rfl⟩)
  · refine e_al0 o38_8 (e_gI o38_9 L2 rfl 5 rfl (e_al0 o38_12 (e_gI o38_13 L2 rfl 3 rfl ?_)))
    rw [k3, k2]
    refine e_sub o38_16 (e_al1 o38_17 (e_Vi0 o38_18 K38 K226 rfl ⟨rfl, rfl⟩ rc (by omega) rfl (s226 (by omega) hr) ?_))
    rintro _ _ _ ⟨rfl, rfl, rfl⟩
    refine e_ic_eq o38_21 26 rfl (by omega) (by omega) (fun h' => ?_) (fun h' => ?_)
    · exact e_ico o38_26 (e_is2 o38_27 (loop ⟨h, h'⟩ 0 (by omega) sr.1 rfl))
    · exact e_ico o38_24 (e_rI o38_25 K38 rfl rfl ⟨(no (by omega)).symm, rfl, rfl⟩)
end
