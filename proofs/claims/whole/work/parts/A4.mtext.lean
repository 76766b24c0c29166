/-! the reference's tape -/
def TXm (B : Int → Int) (N : Int) (v : zV) : Prop := (0 ≤ N ∧ N ≤ 600) ∧ zg v 79 16 = N ∧ ∀ i, 0 ≤ i → i < N → zg v 92 i = B i % 256 ∧ -128 ≤ B i ∧ B i < 128
def RT (B : Int → Int) (N : Int) (v : zV) (e : Int) : Prop := zg v 79 17 = (if tk B N e = 3 ∧ mrk (B (ts B N e)) = false then 4 else tk B N e) ∧ zg v 79 19 = ts B N e ∧ zg v 79 20 = te B N e ∧ zg v 79 15 = te B N e ∧ (tk B N e = 2 → te B N e - ts B N e ≤ 4 → zg v 79 18 = tn B N e)
def FRm (v w : zV) : Prop := ∀ a q, ¬ (a = 79 ∧ (q = 15 ∨ (17 ≤ q ∧ q ≤ 20))) → w a q = v a q
section
variable {sc : Nat × (Nat → Int32)} {d : Nat} {v v0 w : zV} {u : zU} {B : Int → Int} {N : Int}
theorem m135 {x : Int} (h0 : 0 ≤ x) (h1 : x < 2147483648) (hN : zg v 79 16 ≤ 600) : zEv sc 135 d 0 [.ref 79, .int (zI x)] [] (zmk v u) 0 0 (zis (zI (if x < zg v 79 16 then zg v 92 x else -1)) v u) := by
  refine e_il1 o135_0 (e_al0 o135_1 (e_gI o135_2 L79 rfl 16 rfl (e_ic_ge o135_5 17 rfl (by first | exact zg_rg _ _ _ | exact zt_rg _ | omega) (by first | exact zg_rg _ _ _ | exact zt_rg _ | omega) (fun hb5 => ?_) (fun hb5 => ?_))))
  · refine e_ico o135_17 ?_
    refine e_rI o135_18 K135 rfl rfl ?_
    first | exact ⟨by rw [if_pos (by omega)], rfl, rfl⟩ | exact ⟨by rw [if_neg (by omega)], rfl, rfl⟩
  · refine e_al0 o135_8 (e_gR o135_9 L79 rfl rfl (e_il1 o135_12 (e_ial o135_13 L92 (by omega) (by omega) (e_goto o135_14 18 rfl ?_))))
    refine e_rI o135_18 K135 rfl rfl ?_
    first | exact ⟨by rw [if_pos (by omega)], rfl, rfl⟩ | exact ⟨by rw [if_neg (by omega)], rfl, rfl⟩
theorem m136 {x : Int} (hx : -2147483648 ≤ x ∧ x < 2147483648) : zEv sc 136 d 0 [.int (zI x)] [] (zmk v u) 0 0 (zis (zI (zb (97 ≤ x ∧ x ≤ 122))) v u) := by
  refine e_il0 o136_0 (e_bip o136_1 rfl (e_ic_lt o136_3 16 rfl (by first | exact zg_rg _ _ _ | exact zt_rg _ | omega) (by first | exact zg_rg _ _ _ | exact zt_rg _ | omega) (fun hb3 => ?_) (fun hb3 => ?_)))
  · refine e_ico o136_16 ?_
    refine e_rI o136_17 K136 (by decide) rfl ?_
    exact ⟨congrArg zI (by unfold zb; split <;> first | rfl | omega), rfl, rfl⟩
  · refine e_il0 o136_6 (e_bip o136_7 rfl (e_ic_gt o136_9 16 rfl (by first | exact zg_rg _ _ _ | exact zt_rg _ | omega) (by first | exact zg_rg _ _ _ | exact zt_rg _ | omega) (fun hb9 => ?_) (fun hb9 => ?_)))
    · refine e_ico o136_16 ?_
      refine e_rI o136_17 K136 (by decide) rfl ?_
      exact ⟨congrArg zI (by unfold zb; split <;> first | rfl | omega), rfl, rfl⟩
    · refine e_ico o136_12 (e_goto o136_13 17 rfl ?_)
      refine e_rI o136_17 K136 (by decide) rfl ?_
      exact ⟨congrArg zI (by unfold zb; split <;> first | rfl | omega), rfl, rfl⟩
theorem m137 {x : Int} (hx : -2147483648 ≤ x ∧ x < 2147483648) : zEv sc 137 d 0 [.int (zI x)] [] (zmk v u) 0 0 (zis (zI (zb (48 ≤ x ∧ x ≤ 57))) v u) := by
  refine e_il0 o137_0 (e_bip o137_1 rfl (e_ic_lt o137_3 16 rfl (by first | exact zg_rg _ _ _ | exact zt_rg _ | omega) (by first | exact zg_rg _ _ _ | exact zt_rg _ | omega) (fun hb3 => ?_) (fun hb3 => ?_)))
  · refine e_ico o137_16 ?_
    refine e_rI o137_17 K137 (by decide) rfl ?_
    exact ⟨congrArg zI (by unfold zb; split <;> first | rfl | omega), rfl, rfl⟩
  · refine e_il0 o137_6 (e_bip o137_7 rfl (e_ic_gt o137_9 16 rfl (by first | exact zg_rg _ _ _ | exact zt_rg _ | omega) (by first | exact zg_rg _ _ _ | exact zt_rg _ | omega) (fun hb9 => ?_) (fun hb9 => ?_)))
    · refine e_ico o137_16 ?_
      refine e_rI o137_17 K137 (by decide) rfl ?_
      exact ⟨congrArg zI (by unfold zb; split <;> first | rfl | omega), rfl, rfl⟩
    · refine e_ico o137_12 (e_goto o137_13 17 rfl ?_)
      refine e_rI o137_17 K137 (by decide) rfl ?_
      exact ⟨congrArg zI (by unfold zb; split <;> first | rfl | omega), rfl, rfl⟩
theorem m138 {x : Int} (hx : -2147483648 ≤ x ∧ x < 2147483648) : zEv sc 138 d 0 [.int (zI x)] [] (zmk v u) 0 0 (zis (zI (zb (x = 59 ∨ x = 40 ∨ x = 41 ∨ x = 43 ∨ x = 45 ∨ x = 42 ∨ x = 47 ∨ x = 60 ∨ x = 61))) v u) := by
  refine e_il0 o138_0 (e_bip o138_1 rfl (e_ic_eq o138_3 54 rfl (by first | exact zg_rg _ _ _ | exact zt_rg _ | omega) (by first | exact zg_rg _ _ _ | exact zt_rg _ | omega) (fun hb3 => ?_) (fun hb3 => ?_)))
  · refine e_ico o138_54 (e_goto o138_55 59 rfl ?_)
    refine e_rI o138_59 K138 (by decide) rfl ?_
    exact ⟨congrArg zI (by unfold zb; split <;> first | rfl | omega), rfl, rfl⟩
  · refine e_il0 o138_6 (e_bip o138_7 rfl (e_ic_eq o138_9 54 rfl (by first | exact zg_rg _ _ _ | exact zt_rg _ | omega) (by first | exact zg_rg _ _ _ | exact zt_rg _ | omega) (fun hb9 => ?_) (fun hb9 => ?_)))
    · refine e_ico o138_54 (e_goto o138_55 59 rfl ?_)
      refine e_rI o138_59 K138 (by decide) rfl ?_
      exact ⟨congrArg zI (by unfold zb; split <;> first | rfl | omega), rfl, rfl⟩
    · refine e_il0 o138_12 (e_bip o138_13 rfl (e_ic_eq o138_15 54 rfl (by first | exact zg_rg _ _ _ | exact zt_rg _ | omega) (by first | exact zg_rg _ _ _ | exact zt_rg _ | omega) (fun hb15 => ?_) (fun hb15 => ?_)))
      · refine e_ico o138_54 (e_goto o138_55 59 rfl ?_)
        refine e_rI o138_59 K138 (by decide) rfl ?_
        exact ⟨congrArg zI (by unfold zb; split <;> first | rfl | omega), rfl, rfl⟩
      · refine e_il0 o138_18 (e_bip o138_19 rfl (e_ic_eq o138_21 54 rfl (by first | exact zg_rg _ _ _ | exact zt_rg _ | omega) (by first | exact zg_rg _ _ _ | exact zt_rg _ | omega) (fun hb21 => ?_) (fun hb21 => ?_)))
        · refine e_ico o138_54 (e_goto o138_55 59 rfl ?_)
          refine e_rI o138_59 K138 (by decide) rfl ?_
          exact ⟨congrArg zI (by unfold zb; split <;> first | rfl | omega), rfl, rfl⟩
        · refine e_il0 o138_24 (e_bip o138_25 rfl (e_ic_eq o138_27 54 rfl (by first | exact zg_rg _ _ _ | exact zt_rg _ | omega) (by first | exact zg_rg _ _ _ | exact zt_rg _ | omega) (fun hb27 => ?_) (fun hb27 => ?_)))
          · refine e_ico o138_54 (e_goto o138_55 59 rfl ?_)
            refine e_rI o138_59 K138 (by decide) rfl ?_
            exact ⟨congrArg zI (by unfold zb; split <;> first | rfl | omega), rfl, rfl⟩
          · refine e_il0 o138_30 (e_bip o138_31 rfl (e_ic_eq o138_33 54 rfl (by first | exact zg_rg _ _ _ | exact zt_rg _ | omega) (by first | exact zg_rg _ _ _ | exact zt_rg _ | omega) (fun hb33 => ?_) (fun hb33 => ?_)))
            · refine e_ico o138_54 (e_goto o138_55 59 rfl ?_)
              refine e_rI o138_59 K138 (by decide) rfl ?_
              exact ⟨congrArg zI (by unfold zb; split <;> first | rfl | omega), rfl, rfl⟩
            · refine e_il0 o138_36 (e_bip o138_37 rfl (e_ic_eq o138_39 54 rfl (by first | exact zg_rg _ _ _ | exact zt_rg _ | omega) (by first | exact zg_rg _ _ _ | exact zt_rg _ | omega) (fun hb39 => ?_) (fun hb39 => ?_)))
              · refine e_ico o138_54 (e_goto o138_55 59 rfl ?_)
                refine e_rI o138_59 K138 (by decide) rfl ?_
                exact ⟨congrArg zI (by unfold zb; split <;> first | rfl | omega), rfl, rfl⟩
              · refine e_il0 o138_42 (e_bip o138_43 rfl (e_ic_eq o138_45 54 rfl (by first | exact zg_rg _ _ _ | exact zt_rg _ | omega) (by first | exact zg_rg _ _ _ | exact zt_rg _ | omega) (fun hb45 => ?_) (fun hb45 => ?_)))
                · refine e_ico o138_54 (e_goto o138_55 59 rfl ?_)
                  refine e_rI o138_59 K138 (by decide) rfl ?_
                  exact ⟨congrArg zI (by unfold zb; split <;> first | rfl | omega), rfl, rfl⟩
                · refine e_il0 o138_48 (e_bip o138_49 rfl (e_ic_ne o138_51 58 rfl (by first | exact zg_rg _ _ _ | exact zt_rg _ | omega) (by first | exact zg_rg _ _ _ | exact zt_rg _ | omega) (fun hb51 => ?_) (fun hb51 => ?_)))
                  · refine e_ico o138_58 ?_
                    refine e_rI o138_59 K138 (by decide) rfl ?_
                    exact ⟨congrArg zI (by unfold zb; split <;> first | rfl | omega), rfl, rfl⟩
                  · refine e_ico o138_54 (e_goto o138_55 59 rfl ?_)
                    refine e_rI o138_59 K138 (by decide) rfl ?_
                    exact ⟨congrArg zI (by unfold zb; split <;> first | rfl | omega), rfl, rfl⟩
theorem TXm_w (h : TXm B N v) (hw : ∀ q, w 92 q = v 92 q) (h6 : w 79 16 = v 79 16) : TXm B N w := by
  unfold TXm at h ⊢
  rw [show zg w 92 = zg v 92 from zg_fn hw, show zg w 79 16 = zg v 79 16 by simp only [zg]; rw [h6]]
  exact h
theorem m134 {e : Int} (hd : 1 ≤ d) (hT : TXm B N v) (he : zg v 79 15 = e) (e0 : 0 ≤ e) (e1 : e ≤ N) : zEv sc 134 d 0 [.ref 79, zJ] [] (zmk v u) 0 0 (zPv fun w t => (FRm v w ∧ RT B N w e) ∧ u = t) := by
  obtain ⟨⟨n0, n6⟩, hN, hB⟩ := id hT
  have hsi := ts_in (B := B) e1
  have hte := te_in (B := B) e1
  obtain ⟨s, hs⟩ : ∃ s, s = ts B N e := ⟨_, rfl⟩
  rw [← hs] at hsi hte
  have tx : ∀ w, FRm v w → TXm B N w := fun w h => TXm_w hT (fun q => h 92 q (by omega)) (h 79 16 (by omega))
  have F1 : ∀ k x, (k = 15 ∨ (17 ≤ k ∧ k ≤ 20)) → ∀ w, FRm v w → FRm v (zu w 79 k x) := fun k x hk w h a q hq => by rw [zu_ne (by omega), h a q hq]
  have by135 : ∀ w q, FRm v w → 0 ≤ q → q ≤ N → zEv sc 135 (d - 1) 0 [.ref 79, .int (zI q)] [] (zmk w u) 0 0 (zis (zI (if q < N then B q % 256 else -1)) w u) := by
    intro w q hF q0 q1
    obtain ⟨_, wN, wB⟩ := tx w hF
    have e := m135 (sc := sc) (d := d - 1) (v := w) (u := u) (x := q) q0 (by omega) (by omega)
    rw [wN] at e
    by_cases h : q < N
    · rw [if_pos h] at e ⊢
      rw [(wB q q0 h).1] at e
      exact e
    · rw [if_neg h] at e ⊢
      exact e
  have fin : ∀ w a1, FRm v w → zg w 79 17 = (if tk B N e = 3 ∧ mrk (B (ts B N e)) = false then 4 else tk B N e) → zg w 79 19 = s → zg w 79 15 = te B N e → (tk B N e = 2 → te B N e - ts B N e ≤ 4 → zg w 79 18 = tn B N e) → zEv sc 134 d 212 [.ref 79, a1] [] (zmk w u) 0 0 (zPv fun w t => (FRm v w ∧ RT B N w e) ∧ u = t) := by
    intro w a1 hF g1 g2 g3 g4
    refine e_al0 o134_212 (e_al0 o134_213 (e_gI o134_214 L79 rfl 15 rfl (e_pI o134_217 L79 rfl rfl rfl rfl 20 rfl ?_)))
    refine e_rV o134_220 K134 rfl rfl ?_
    refine ⟨⟨F1 _ _ (by omega) _ hF, ?_, ?_, ?_, ?_, fun z1 z2 => ?_⟩, rfl⟩
    · rw [zg_ne (by omega), g1]
    · rw [zg_ne (by omega), g2, hs]
    · rw [zg_same (zg_rg _ _ _), g3]
    · rw [zg_ne (by omega), g3]
    · rw [zg_ne (by omega)]; exact g4 z1 z2
  have lw : ∀ q, 0 ≤ q → q ≤ N → s ≤ q → s < N → lt (B s) = true → rn (fun q => lt (B q)) N q = rn (fun q => lt (B q)) N s → ∀ w a1, FRm v w → zg w 79 19 = s → zg w 79 15 = q → zEv sc 134 d 76 [.ref 79, a1] [] (zmk w u) 0 0 (zPv fun w t => (FRm v w ∧ RT B N w e) ∧ u = t) := by
    refine zloop ?_
    intro q q0 q1 ih sq sN hl hr w a1 hF h3 h5
    have ek : tk B N e = 1 := by unfold tk; rw [← hs, if_neg (by omega), if_pos hl]
    have ee : te B N e = rn (fun q => lt (B q)) N s := by unfold te; rw [← hs, if_neg (by omega), if_pos hl]
    have hB2 : q < N → -128 ≤ B q ∧ B q < 128 := fun h => (hB q q0 h).2
    refine e_al0 o134_76 (e_al0 o134_77 (e_gI o134_78 L79 rfl 15 rfl ?_))
    rw [h5]
    refine e_Vi1 o134_81 K134 K135 rfl ⟨rfl, rfl⟩ (zrcv_I L79 rfl) (by omega) rfl (by135 w q hF q0 q1) ?_
    rintro _ _ _ ⟨rfl, rfl, rfl⟩
    refine e_Si1 o134_84 K134 K136 rfl ⟨rfl, rfl⟩ (by omega) rfl (m136 (by split <;> omega)) ?_
    rintro _ _ _ ⟨rfl, rfl, rfl⟩
    refine e_bz_eq o134_87 103 rfl (fun hb87 => ?_) (fun hb87 => ?_)
    · refine e_al0 o134_103 (e_ico o134_104 (e_pI o134_105 L79 rfl rfl rfl rfl 17 rfl (e_goto o134_108 212 rfl ?_)))
      refine fin _ _ (F1 _ _ (by omega) _ hF) (by rw [zg_same (by omega), ek, if_neg (by omega)]) (by rw [zg_ne (by omega), h3]) ?_ (fun z => by omega)
      rw [zg_ne (by omega), h5, ee, ← hr]
      symm
      apply rn_no
      intro z
      rw [if_pos z.1] at hb87
      have := of_decide_eq_true z.2
      omega
    · refine e_al0 o134_90 (e_dupR o134_91 (e_gI o134_92 L79 rfl 15 rfl (e_ico o134_95 ?_)))
      rw [h5]
      refine e_add o134_96 (e_pI o134_97 L79 rfl rfl rfl rfl 15 rfl (e_goto o134_100 76 rfl ?_))
      have hq : q < N := by apply Classical.byContradiction; intro z; rw [if_neg z] at hb87; omega
      rw [if_pos hq] at hb87
      have := hB2 hq
      have hl2 : lt (B q) = true := decide_eq_true (by omega)
      exact ih hq (by omega) sN hl (by rw [← hr, rn_st (P := fun q => lt (B q)) (by omega) hl2]) _ _ (F1 _ _ (by omega) _ hF) (by rw [zg_ne (by omega), h3]) (by rw [zg_same (by omega)])
  have dw : ∀ q, 0 ≤ q → q ≤ N → s ≤ q → s < N → ¬ lt (B s) = true → dg (B s) = true → rn (fun q => dg (B q)) N q = rn (fun q => dg (B q)) N s → (∀ i, s ≤ i → i < q → dg (B i) = true) → ∀ w a1, FRm v w → zg w 79 19 = s → (0 ≤ zg w 79 18 ∧ zg w 79 18 ≤ 100000) → (q - s ≤ 4 → zg w 79 18 = dv B s (q - s)) → zg w 79 15 = q → zEv sc 134 d 123 [.ref 79, a1] [] (zmk w u) 0 0 (zPv fun w t => (FRm v w ∧ RT B N w e) ∧ u = t) := by
    refine zloop ?_
    intro q q0 q1 ih sq sN hnl hdg hr hdi w a1 hF h3 h4 h4' h5
    have ek : tk B N e = 2 := by unfold tk; rw [← hs, if_neg (by omega), if_neg hnl, if_pos hdg]
    have ee : te B N e = rn (fun q => dg (B q)) N s := by unfold te; rw [← hs, if_neg (by omega), if_neg hnl, if_pos hdg]
    have hB2 : q < N → -128 ≤ B q ∧ B q < 128 := fun h => (hB q q0 h).2
    have hdv : q - s ≤ 4 → 0 ≤ dv B s (q - s) ∧ dv B s (q - s) ≤ 9999 ∧ (q - s ≤ 3 → dv B s (q - s) ≤ 999) := fun h => by
      have := dv_bd (B := B) (s := s) (q - s) (by omega) (by omega) (fun i i0 i1 => hdi (s + i) (by omega) (by omega))
      omega
    refine e_al0 o134_123 (e_al0 o134_124 (e_gI o134_125 L79 rfl 15 rfl ?_))
    rw [h5]
    refine e_Vi1 o134_128 K134 K135 rfl ⟨rfl, rfl⟩ (zrcv_I L79 rfl) (by omega) rfl (by135 w q hF q0 q1) ?_
    rintro _ _ _ ⟨rfl, rfl, rfl⟩
    refine e_Si1 o134_131 K134 K137 rfl ⟨rfl, rfl⟩ (by omega) rfl (m137 (by split <;> omega)) ?_
    rintro _ _ _ ⟨rfl, rfl, rfl⟩
    refine e_bz_eq o134_134 178 rfl (fun hb134 => ?_) (fun hb134 => ?_)
    · refine e_al0 o134_178 (e_ico o134_179 (e_pI o134_180 L79 rfl rfl rfl rfl 17 rfl (e_goto o134_183 212 rfl ?_)))
      have e5 : te B N e = q := by
        rw [ee, ← hr]
        apply rn_no
        intro z
        rw [if_pos z.1] at hb134
        have := of_decide_eq_true z.2
        omega
      refine fin _ _ (F1 _ _ (by omega) _ hF) (by rw [zg_same (by omega), ek, if_neg (by omega)]) (by rw [zg_ne (by omega), h3]) (by rw [zg_ne (by omega), h5, e5]) (fun _ z => ?_)
      rw [zg_ne (by omega)]
      rw [e5, ← hs] at z
      rw [h4' z]
      unfold tn
      rw [e5, ← hs, if_pos z]
    · have hq : q < N := by apply Classical.byContradiction; intro z; rw [if_neg z] at hb134; omega
      rw [if_pos hq] at hb134
      have hb2 := hB2 hq
      have hl2 : dg (B q) = true := decide_eq_true (by omega)
      refine e_al0 o134_137 (e_ldcI (z := 100000) o134_138 rfl rfl (e_bip o134_140 rfl (e_al0 o134_142 (e_gI o134_143 L79 rfl 18 rfl (e_mul o134_146 (e_al0 o134_147 (e_al0 o134_148 (e_gI o134_149 L79 rfl 15 rfl ?_))))))))
      rw [h5]
      refine e_Vi1 o134_152 K134 K135 rfl ⟨rfl, rfl⟩ (zrcv_I L79 rfl) (by omega) rfl (by135 w q hF q0 q1) ?_
      rintro _ _ _ ⟨rfl, rfl, rfl⟩
      rw [if_pos hq, show B q % 256 = B q by omega]
      refine e_add o134_155 (e_bip o134_156 rfl (e_sub o134_158 (e_min o134_159 (by omega) rfl (by first | exact zg_rg _ _ _ | exact zt_rg _ | omega) (by first | exact zg_rg _ _ _ | exact zt_rg _ | omega) (e_pI o134_162 L79 rfl rfl rfl rfl 18 rfl (e_al0 o134_165 (e_dupR o134_166 (e_gI o134_167 L79 rfl 15 rfl (e_ico o134_170 ?_))))))))
      rw [zg_ne (by omega), h5]
      refine e_add o134_171 (e_pI o134_172 L79 rfl rfl rfl rfl 15 rfl (e_goto o134_175 123 rfl ?_))
      refine ih hq (by omega) sN hnl hdg (by rw [← hr, rn_st (P := fun q => dg (B q)) (by omega) hl2]) (fun i i0 i1 => by rcases (show i < q ∨ i = q by omega) with z | z; exact hdi i i0 z; rw [z]; exact hl2) _ _ (F1 _ _ (by omega) _ (F1 _ _ (by omega) _ hF)) (by rw [zg_ne (by omega), zg_ne (by omega), h3]) ?_ ?_ (by rw [zg_same (by omega)])
      · rw [zg_ne (by omega), zg_same (by omega)]; omega
      · intro z
        rw [zg_ne (by omega), zg_same (by omega), show q + 1 - s = (q - s) + 1 by omega, dv_succ (by omega), show s + (q - s) = q by omega]
        have := h4' (by omega)
        have := hdv (by omega)
        omega
  have mid : ∀ w, FRm v w → zg w 79 15 = s → zEv sc 134 d 39 [.ref 79, zJ] [] (zmk w u) 0 0 (zPv fun w t => (FRm v w ∧ RT B N w e) ∧ u = t) := by
    intro w hF h5
    have hB2 : s < N → -128 ≤ B s ∧ B s < 128 := fun h => (hB s (by omega) h).2
    by_cases hsN : s < N
    · have hb := hB2 hsN
      refine e_al0 o134_39 (e_al0 o134_40 (e_gI o134_41 L79 rfl 15 rfl ?_))
      rw [h5]
      refine e_pI o134_44 L79 rfl rfl rfl rfl 19 rfl (e_al0 o134_47 (e_al0 o134_48 (e_gI o134_49 L79 rfl 15 rfl ?_)))
      rw [zg_ne (by omega), h5]
      refine e_Vi1 o134_52 K134 K135 rfl ⟨rfl, rfl⟩ (zrcv_I L79 rfl) (by omega) rfl (by135 _ s (F1 _ _ (by omega) _ hF) (by omega) (by omega)) ?_
      rintro _ _ _ ⟨rfl, rfl, rfl⟩
      rw [if_pos hsN]
      refine e_is1 o134_55 (e_il1 o134_56 (e_ico o134_57 (e_ic_ne o134_58 69 rfl (by first | exact zg_rg _ _ _ | exact zt_rg _ | omega) (by first | exact zg_rg _ _ _ | exact zt_rg _ | omega) (fun hb58 => ?_) (fun hb58 => ?_))))
      · refine e_il1 o134_69 (e_Si1 o134_70 K134 K136 rfl ⟨rfl, rfl⟩ (by omega) rfl (m136 (by omega)) ?_)
        rintro _ _ _ ⟨rfl, rfl, rfl⟩
        refine e_bz_eq o134_73 111 rfl (fun hb73 => ?_) (fun hb73 => ?_)
        · refine e_il1 o134_111 (e_Si1 o134_112 K134 K137 rfl ⟨rfl, rfl⟩ (by omega) rfl (m137 (by omega)) ?_)
          rintro _ _ _ ⟨rfl, rfl, rfl⟩
          refine e_bz_eq o134_115 186 rfl (fun hb115 => ?_) (fun hb115 => ?_)
          · refine e_al0 o134_186 (e_dupR o134_187 (e_gI o134_188 L79 rfl 15 rfl (e_ico o134_191 ?_)))
            rw [zg_ne (by omega), h5]
            refine e_add o134_192 (e_pI o134_193 L79 rfl rfl rfl rfl 15 rfl (e_al0 o134_196 (e_il1 o134_197 (e_Si1 o134_198 K134 K138 rfl ⟨rfl, rfl⟩ (by omega) rfl (m138 (by omega)) ?_))))
            rintro _ _ _ ⟨rfl, rfl, rfl⟩
            refine e_bz_eq o134_201 208 rfl (fun hb201 => ?_) (fun hb201 => ?_)
            · refine e_ico o134_208 (e_pI o134_209 L79 rfl rfl rfl rfl 17 rfl ?_)
              have n1 : ¬ lt (B s) = true := fun z => hb73 (by have := of_decide_eq_true z; omega)
              have n2 : ¬ dg (B s) = true := fun z => hb115 (by have := of_decide_eq_true z; omega)
              have ek : tk B N e = 3 := by unfold tk; rw [← hs, if_neg (by omega), if_neg n1, if_neg n2]
              have ee : te B N e = s + 1 := by unfold te; rw [← hs, if_neg (by omega), if_neg n1, if_neg n2]
              refine fin _ _ (F1 _ _ (by omega) _ (F1 _ _ (by omega) _ (F1 _ _ (by omega) _ hF))) ?_ (by rw [zg_ne (by omega), zg_ne (by omega), zg_same (by omega)]) (by rw [zg_ne (by omega), zg_same (by omega), ee]) (fun z => by omega)
              rw [zg_same (by omega), ek, ← hs]
              first
              | (rw [if_neg (fun z => absurd z.2 (by rw [show mrk (B s) = true from decide_eq_true (by omega)]; decide))])
              | (rw [if_pos ⟨rfl, decide_eq_false (by omega)⟩])
            · refine e_ico o134_204 (e_goto o134_205 209 rfl (e_pI o134_209 L79 rfl rfl rfl rfl 17 rfl ?_))
              have n1 : ¬ lt (B s) = true := fun z => hb73 (by have := of_decide_eq_true z; omega)
              have n2 : ¬ dg (B s) = true := fun z => hb115 (by have := of_decide_eq_true z; omega)
              have ek : tk B N e = 3 := by unfold tk; rw [← hs, if_neg (by omega), if_neg n1, if_neg n2]
              have ee : te B N e = s + 1 := by unfold te; rw [← hs, if_neg (by omega), if_neg n1, if_neg n2]
              refine fin _ _ (F1 _ _ (by omega) _ (F1 _ _ (by omega) _ (F1 _ _ (by omega) _ hF))) ?_ (by rw [zg_ne (by omega), zg_ne (by omega), zg_same (by omega)]) (by rw [zg_ne (by omega), zg_same (by omega), ee]) (fun z => by omega)
              rw [zg_same (by omega), ek, ← hs]
              first
              | (rw [if_neg (fun z => absurd z.2 (by rw [show mrk (B s) = true from decide_eq_true (by omega)]; decide))])
              | (rw [if_pos ⟨rfl, decide_eq_false (by omega)⟩])
          · refine e_al0 o134_118 (e_ico o134_119 (e_pI o134_120 L79 rfl rfl rfl rfl 18 rfl ?_))
            refine dw s (by omega) (by omega) (by omega) hsN (fun z => hb73 (by have := of_decide_eq_true z; omega)) (decide_eq_true (by omega)) rfl (fun i i0 i1 => by omega) _ _ (F1 _ _ (by omega) _ (F1 _ _ (by omega) _ hF)) (by rw [zg_ne (by omega), zg_same (by omega)]) (by rw [zg_same (by omega)]; omega) (fun _ => ?_) (by rw [zg_ne (by omega), zg_ne (by omega), h5])
            rw [zg_same (by omega), Int.sub_self]
            rfl
        · exact lw s (by omega) (by omega) (by omega) hsN (decide_eq_true (by omega)) rfl _ _ (F1 _ _ (by omega) _ hF) (by rw [zg_same (by omega)]) (by rw [zg_ne (by omega), h5])
      · omega
    · have ek : tk B N e = 0 := by unfold tk; rw [← hs, if_pos (by omega)]
      have ee : te B N e = s := by unfold te; rw [← hs, if_pos (by omega)]
      refine e_al0 o134_39 (e_al0 o134_40 (e_gI o134_41 L79 rfl 15 rfl ?_))
      rw [h5]
      refine e_pI o134_44 L79 rfl rfl rfl rfl 19 rfl (e_al0 o134_47 (e_al0 o134_48 (e_gI o134_49 L79 rfl 15 rfl ?_)))
      rw [zg_ne (by omega), h5]
      refine e_Vi1 o134_52 K134 K135 rfl ⟨rfl, rfl⟩ (zrcv_I L79 rfl) (by omega) rfl (by135 _ s (F1 _ _ (by omega) _ hF) (by omega) (by omega)) ?_
      rintro _ _ _ ⟨rfl, rfl, rfl⟩
      rw [if_neg hsN]
      refine e_is1 o134_55 (e_il1 o134_56 (e_ico o134_57 (e_ic_ne o134_58 69 rfl (by first | exact zg_rg _ _ _ | exact zt_rg _ | omega) (by first | exact zg_rg _ _ _ | exact zt_rg _ | omega) (fun hb58 => ?_) (fun hb58 => ?_))))
      · omega
      · refine e_al0 o134_61 (e_ico o134_62 (e_pI o134_63 L79 rfl rfl rfl rfl 17 rfl (e_goto o134_66 212 rfl ?_)))
        exact fin _ _ (F1 _ _ (by omega) _ (F1 _ _ (by omega) _ hF)) (by rw [zg_same (by omega), ek, if_neg (by omega)]) (by rw [zg_ne (by omega), zg_same (by omega)]) (by rw [zg_ne (by omega), zg_ne (by omega), h5, ee]) (fun z => by omega)
  have blk : ∀ q, 0 ≤ q → q ≤ N → e ≤ q → rn (fun q => bl (B q)) N q = s → ∀ w, FRm v w → zg w 79 15 = q → zEv sc 134 d 0 [.ref 79, zJ] [] (zmk w u) 0 0 (zPv fun w t => (FRm v w ∧ RT B N w e) ∧ u = t) := by
    refine zloop ?_
    intro q q0 q1 ih eq hr w hF h5
    have hB2 : q < N → -128 ≤ B q ∧ B q < 128 := fun h => (hB q q0 h).2
    obtain ⟨y, hy⟩ : ∃ y, y = (if q < N then B q % 256 else -1) := ⟨_, rfl⟩
    have yr : -1 ≤ y ∧ y < 256 := by rw [hy]; split <;> omega
    have h135 := by135 w q hF q0 q1
    rw [← hy] at h135
    refine e_al0 o134_0 (e_al0 o134_1 (e_gI o134_2 L79 rfl 15 rfl ?_))
    rw [h5]
    refine e_Vi1 o134_5 K134 K135 rfl ⟨rfl, rfl⟩ (zrcv_I L79 rfl) (by omega) rfl h135 ?_
    rintro _ _ _ ⟨rfl, rfl, rfl⟩
    refine e_bip o134_8 rfl (e_ic_eq o134_10 26 rfl (by first | exact zg_rg _ _ _ | exact zt_rg _ | omega) (by first | exact zg_rg _ _ _ | exact zt_rg _ | omega) (fun hb10 => ?_) (fun hb10 => ?_))
    · refine e_al0 o134_26 (e_dupR o134_27 (e_gI o134_28 L79 rfl 15 rfl (e_ico o134_31 ?_)))
      rw [h5]
      refine e_add o134_32 (e_pI o134_33 L79 rfl rfl rfl rfl 15 rfl (e_goto o134_36 0 rfl ?_))
      have hq : q < N := by apply Classical.byContradiction; intro z; rw [if_neg z] at hy; omega
      rw [if_pos hq] at hy
      have hb2 := hB2 hq
      have hl2 : bl (B q) = true := decide_eq_true (by omega)
      exact ih hq (by omega) (by rw [← hr, rn_st (P := fun q => bl (B q)) (by omega) hl2]) _ (F1 _ _ (by omega) _ hF) (by rw [zg_same (by omega)])
    · refine e_al0 o134_13 (e_al0 o134_14 (e_gI o134_15 L79 rfl 15 rfl ?_))
      rw [h5]
      refine e_Vi1 o134_18 K134 K135 rfl ⟨rfl, rfl⟩ (zrcv_I L79 rfl) (by omega) rfl h135 ?_
      rintro _ _ _ ⟨rfl, rfl, rfl⟩
      refine e_bip o134_21 rfl (e_ic_ne o134_23 39 rfl (by first | exact zg_rg _ _ _ | exact zt_rg _ | omega) (by first | exact zg_rg _ _ _ | exact zt_rg _ | omega) (fun hb23 => ?_) (fun hb23 => ?_))
      · refine mid w hF ?_
        rw [h5, ← hr]
        symm
        apply rn_no
        intro z
        rw [if_pos z.1] at hy
        have := of_decide_eq_true z.2
        omega
      · refine e_al0 o134_26 (e_dupR o134_27 (e_gI o134_28 L79 rfl 15 rfl (e_ico o134_31 ?_)))
        rw [h5]
        refine e_add o134_32 (e_pI o134_33 L79 rfl rfl rfl rfl 15 rfl (e_goto o134_36 0 rfl ?_))
        have hq : q < N := by apply Classical.byContradiction; intro z; rw [if_neg z] at hy; omega
        rw [if_pos hq] at hy
        have hb2 := hB2 hq
        have hl2 : bl (B q) = true := decide_eq_true (by omega)
        exact ih hq (by omega) (by rw [← hr, rn_st (P := fun q => bl (B q)) (by omega) hl2]) _ (F1 _ _ (by omega) _ hF) (by rw [zg_same (by omega)])
  exact blk e e0 e1 (by omega) (by rw [hs]; rfl) v (fun _ _ _ => rfl) he
end
