/-! the reference's rows -/
/-- both were told the same -/
def EW (v : zV) : Prop := zg v 82 0 = zg v 16 8 ∧ zg v 82 1 = zg v 16 9 ∧ zg v 82 2 = zg v 16 10 ∧
  (∀ p, 0 ≤ p → p < zg v 16 8 → zg v 83 p = zg v 17 p ∧ zg v 84 p = zg v 18 p) ∧
  (∀ s, 0 ≤ s → s < zg v 16 9 → zg v 85 s = zg v 19 s ∧ zg v 86 s = zg v 20 s) ∧
  ∀ k, 0 ≤ k → k < zg v 16 10 → zg v 87 k = zg v 21 k ∧ zg v 88 k = zg v 22 k ∧ zg v 89 k = zg v 23 k
/-- the world that was told keeps its bounds -/
def WB (v : zV) : Prop := (0 ≤ zg v 16 8 ∧ zg v 16 8 ≤ 6) ∧ (0 ≤ zg v 16 9 ∧ zg v 16 9 ≤ 40) ∧ (0 ≤ zg v 16 10 ∧ zg v 16 10 ≤ 5) ∧
  (∀ p, 0 ≤ p → p < zg v 16 8 → (0 ≤ zg v 17 p ∧ zg v 17 p ≤ 40) ∧ 0 ≤ zg v 18 p ∧ zg v 18 p ≤ 99) ∧
  (∀ s, 0 ≤ s → s < zg v 16 9 → (0 ≤ zg v 19 s ∧ zg v 19 s < zg v 16 8) ∧ 0 ≤ zg v 20 s ∧ zg v 20 s ≤ 9) ∧
  ∀ k, 0 ≤ k → k < zg v 16 10 → (0 ≤ zg v 21 k ∧ zg v 21 k ≤ 3) ∧ (1 ≤ zg v 22 k ∧ zg v 22 k ≤ 8) ∧ 0 ≤ zg v 23 k ∧ zg v 23 k < zg v 16 8
theorem WB.wf {v : zV} (h : WB v) : WF v := ⟨h.2.1.1, h.2.1.2, fun s a b => by have := h.2.2.2.2.1 s a b; have := h.1; omega⟩
theorem WB.wk {v : zV} (h : WB v) : WK v := fun s a b => (h.2.2.2.2.1 s a b).2.1
/-- a row of the reference: where each stone lies -/
def xw (v : zV) (w : Nat) : zPL := (zg v w, fun s => zg v w (40 + s))
section
variable {sc : Nat × (Nat → Int32)} {d : Nat} {v : zV} {u : zU} {w : Nat}
theorem m165 {p : Int} (hw : zLay[w]? = some (0, 171, [])) (hE : EW v) (hB : WB v) (hp : -2147483648 ≤ p ∧ p < 2147483648) : zEv sc 165 d 0 [.ref 79, .ref w, .int (zI p), zJ, zJ] [] (zmk v u) 0 0 (zis (zI (cnt (zg v w) p (zg v 16 9))) v u) := by
  have e1 := hE.2.1
  have n0 := hB.2.1
  have loop : ∀ k, 0 ≤ k → k ≤ zg v 16 9 → zEv sc 165 d 5 [.ref 79, .ref w, .int (zI p), .int (zI (cnt (zg v w) p k)), .int (zI k)] [] (zmk v u) 0 0 (zis (zI (cnt (zg v w) p (zg v 16 9))) v u) := by
    refine zloop ?_
    intro k k0 k1 ih
    rw [cnt, zsg_succ k0] at ih
    refine e_il4 o165_5 (e_al0 o165_7 (e_gR o165_8 L79 rfl rfl (e_ico o165_11 (e_ial o165_12 L82 (by omega) (by omega) (e_ic_ge o165_13 38 rfl (by first | exact zg_rg _ _ _ | exact zt_rg _ | omega) (by first | exact zg_rg _ _ _ | exact zt_rg _ | omega) (fun hb13 => ?_) (fun hb13 => ?_))))))
    · have e : k = zg v 16 9 := by omega
      subst e
      refine e_il3 o165_38 ?_
      refine e_rI o165_39 K165 rfl rfl ?_
      exact ⟨rfl, rfl, rfl⟩
    · refine e_il3 o165_16 (e_al1 o165_17 (e_il4 o165_18 (e_ial o165_20 hw (by omega) (by omega) (e_il2 o165_21 (e_ic_ne o165_22 29 rfl (by first | exact zg_rg _ _ _ | exact zt_rg _ | omega) (by first | exact zg_rg _ _ _ | exact zt_rg _ | omega) (fun hb22 => ?_) (fun hb22 => ?_))))))
      · refine e_ico o165_29 (e_add o165_30 (e_is3 o165_31 (e_inc4 o165_32 (e_goto o165_35 5 rfl ?_))))
        first | (rw [if_pos hb22] at ih; exact ih (by omega)) | (rw [if_neg hb22] at ih; exact ih (by omega))
      · refine e_ico o165_25 (e_goto o165_26 30 rfl (e_add o165_30 (e_is3 o165_31 (e_inc4 o165_32 (e_goto o165_35 5 rfl ?_)))))
        first | (rw [if_pos hb22] at ih; exact ih (by omega)) | (rw [if_neg hb22] at ih; exact ih (by omega))
  refine e_ico o165_0 (e_is3 o165_1 (e_ico o165_2 (e_is4 o165_3 ?_)))
  exact loop 0 (by omega) (by omega)
theorem m164 {p : Int} (hd : 1 ≤ d) (hw : zLay[w]? = some (0, 171, [])) (hE : EW v) (hB : WB v) (h0 : 0 ≤ p) (h1 : p < zg v 16 8) : zEv sc 164 d 0 [.ref 79, .ref w, .int (zI p)] [] (zmk v u) 0 0 (zis (zI (max 0 (zg v 17 p - cnt (zg v w) p (zg v 16 9)))) v u) := by
  have e1 := (hE.2.2.2.1 p h0 h1).1
  have e2 := (hB.2.2.2.1 p h0 h1).1
  have e3 := hB.1
  have e5 := hB.2.1
  have e4 := cnt_rg (P := zg v w) (p := p) hB.2.1.1
  refine e_ico o164_0 (e_al0 o164_1 (e_gR o164_2 L79 rfl rfl (e_il2 o164_5 (e_ial o164_6 L83 (by omega) (by omega) ?_))))
  rw [e1]
  refine e_al0 o164_7 (e_al1 o164_8 (e_il2 o164_9 (e_Vi2 o164_10 K164 K165 rfl ⟨rfl, rfl⟩ (zrcv_I L79 rfl) (by omega) rfl (m165 hw hE hB (by omega)) ?_)))
  rintro _ _ _ ⟨rfl, rfl, rfl⟩
  refine e_sub o164_13 (e_max o164_14 (by omega) rfl (by first | exact zg_rg _ _ _ | exact zt_rg _ | omega) (by first | exact zg_rg _ _ _ | exact zt_rg _ | omega) ?_)
  refine e_rI o164_17 K164 rfl rfl ?_
  exact ⟨rfl, rfl, rfl⟩
theorem m163 (hd : 2 ≤ d) (hw : zLay[w]? = some (0, 171, [])) (hE : EW v) (hB : WB v) : zEv sc 163 d 0 [.ref 79, .ref w, zJ, zJ] [] (zmk v u) 0 0 (zis (zI (zsg (fun p => max 0 (zg v 17 p - cnt (zg v w) p (zg v 16 9))) (zg v 16 8))) v u) := by
  have e1 := hE.1
  have n0 := hB.1
  have loop : ∀ k, 0 ≤ k → k ≤ zg v 16 8 → zEv sc 163 d 4 [.ref 79, .ref w, .int (zI (zsg (fun p => max 0 (zg v 17 p - cnt (zg v w) p (zg v 16 9))) k)), .int (zI k)] [] (zmk v u) 0 0 (zis (zI (zsg (fun p => max 0 (zg v 17 p - cnt (zg v w) p (zg v 16 9))) (zg v 16 8))) v u) := by
    refine zloop ?_
    intro k k0 k1 ih
    rw [zsg_succ k0] at ih
    refine e_il3 o163_4 (e_al0 o163_5 (e_gR o163_6 L79 rfl rfl (e_ico o163_9 (e_ial o163_10 L82 (by omega) (by omega) (e_ic_ge o163_11 29 rfl (by first | exact zg_rg _ _ _ | exact zt_rg _ | omega) (by first | exact zg_rg _ _ _ | exact zt_rg _ | omega) (fun hb11 => ?_) (fun hb11 => ?_))))))
    · have e : k = zg v 16 8 := by omega
      subst e
      refine e_il2 o163_29 ?_
      refine e_rI o163_30 K163 rfl rfl ?_
      exact ⟨rfl, rfl, rfl⟩
    · refine e_il2 o163_14 (e_al0 o163_15 (e_al1 o163_16 (e_il3 o163_17 (e_Vi2 o163_18 K163 K164 rfl ⟨rfl, rfl⟩ (zrcv_I L79 rfl) (by omega) rfl (m164 (by omega) hw hE hB k0 (by omega)) ?_))))
      rintro _ _ _ ⟨rfl, rfl, rfl⟩
      refine e_add o163_21 (e_is2 o163_22 (e_inc3 o163_23 (e_goto o163_26 4 rfl ?_)))
      exact ih (by omega)
  refine e_ico o163_0 (e_is2 o163_1 (e_ico o163_2 (e_is3 o163_3 ?_)))
  exact loop 0 (by omega) (by omega)
theorem m170 {p o : Int} (hw : zLay[w]? = some (0, 171, [])) (hE : EW v) (hB : WB v) (hp : -2147483648 ≤ p ∧ p < 2147483648) (ho : -2147483648 ≤ o ∧ o < 2147483648) : zEv sc 170 d 0 [.ref 79, .ref w, .int (zI p), .int (zI o), zJ, zJ] [] (zmk v u) 0 0 (zis (zI (cnt2 (zg v w) (zg v 19) p o (zg v 16 9))) v u) := by
  have e1 := hE.2.1
  have n0 := hB.2.1
  have loop : ∀ k, 0 ≤ k → k ≤ zg v 16 9 → zEv sc 170 d 6 [.ref 79, .ref w, .int (zI p), .int (zI o), .int (zI (cnt2 (zg v w) (zg v 19) p o k)), .int (zI k)] [] (zmk v u) 0 0 (zis (zI (cnt2 (zg v w) (zg v 19) p o (zg v 16 9))) v u) := by
    refine zloop ?_
    intro k k0 k1 ih
    rw [cnt2, zsg_succ k0] at ih
    refine e_il5 o170_6 (e_al0 o170_8 (e_gR o170_9 L79 rfl rfl (e_ico o170_12 (e_ial o170_13 L82 (by omega) (by omega) (e_ic_ge o170_14 52 rfl (by first | exact zg_rg _ _ _ | exact zt_rg _ | omega) (by first | exact zg_rg _ _ _ | exact zt_rg _ | omega) (fun hb14 => ?_) (fun hb14 => ?_))))))
    · have e : k = zg v 16 9 := by omega
      subst e
      refine e_il4 o170_52 ?_
      refine e_rI o170_54 K170 rfl rfl ?_
      exact ⟨rfl, rfl, rfl⟩
    · refine e_il4 o170_17 (e_al1 o170_19 (e_il5 o170_20 (e_ial o170_22 hw (by omega) (by omega) (e_il2 o170_23 (e_ic_ne o170_24 42 rfl (by first | exact zg_rg _ _ _ | exact zt_rg _ | omega) (by first | exact zg_rg _ _ _ | exact zt_rg _ | omega) (fun hb24 => ?_) (fun hb24 => ?_))))))
      · refine e_ico o170_42 (e_add o170_43 (e_is4 o170_44 (e_inc5 o170_46 (e_goto o170_49 6 rfl ?_))))
        first | (rw [if_pos ⟨hb24, hb35⟩] at ih; exact ih (by omega)) | (rw [if_neg (fun e => hb24 e.1)] at ih; exact ih (by omega)) | (rw [if_neg (fun e => hb35 e.2)] at ih; exact ih (by omega))
      · refine e_al0 o170_27 (e_gR o170_28 L79 rfl rfl (e_il5 o170_31 (e_ial o170_33 L85 (by omega) (by omega) ?_)))
        rw [(hE.2.2.2.2.1 k k0 (by omega)).1]
        refine e_il3 o170_34 (e_ic_ne o170_35 42 rfl (by first | exact zg_rg _ _ _ | exact zt_rg _ | omega) (by first | exact zg_rg _ _ _ | exact zt_rg _ | omega) (fun hb35 => ?_) (fun hb35 => ?_))
        · refine e_ico o170_42 (e_add o170_43 (e_is4 o170_44 (e_inc5 o170_46 (e_goto o170_49 6 rfl ?_))))
          first | (rw [if_pos ⟨hb24, hb35⟩] at ih; exact ih (by omega)) | (rw [if_neg (fun e => hb24 e.1)] at ih; exact ih (by omega)) | (rw [if_neg (fun e => hb35 e.2)] at ih; exact ih (by omega))
        · refine e_ico o170_38 (e_goto o170_39 43 rfl (e_add o170_43 (e_is4 o170_44 (e_inc5 o170_46 (e_goto o170_49 6 rfl ?_)))))
          first | (rw [if_pos ⟨hb24, hb35⟩] at ih; exact ih (by omega)) | (rw [if_neg (fun e => hb24 e.1)] at ih; exact ih (by omega)) | (rw [if_neg (fun e => hb35 e.2)] at ih; exact ih (by omega))
  refine e_ico o170_0 (e_is4 o170_1 (e_ico o170_3 (e_is5 o170_4 ?_)))
  exact loop 0 (by omega) (by omega)
theorem m180 {k s i : Int} (hE : EW v) (hB : WB v) (k0 : 0 ≤ k) (k1 : k < zg v 16 10) (s0 : 0 ≤ s) (s1 : s < zg v 16 9) : zEv sc 180 d 0 [.ref 79, .int (zI k), .int (zI s), .int (zI i), zJ] [] (zmk v u) 0 0 (zis (zI (wsh v k s i)) v u) := by
  have a1 := hE.2.2.2.2.1 s s0 s1
  have a2 := hE.2.2.2.2.2 k k0 k1
  have n0 := hB.2.1
  have n1 := hB.2.2.1
  refine e_al0 o180_0 (e_gR o180_1 L79 rfl rfl (e_il1 o180_4 (e_ial o180_5 L87 (by omega) (by omega) ?_)))
  rw [a2.1]
  refine e_ico o180_6 (e_ic_ne o180_7 19 rfl (by first | exact zg_rg _ _ _ | exact zt_rg _ | omega) (by first | exact zg_rg _ _ _ | exact zt_rg _ | omega) (fun hb7 => ?_) (fun hb7 => ?_))
  · refine e_al0 o180_19 (e_gR o180_20 L79 rfl rfl (e_il1 o180_23 (e_ial o180_24 L87 (by omega) (by omega) ?_)))
    rw [a2.1]
    refine e_ico o180_25 (e_ic_ne o180_26 48 rfl (by first | exact zg_rg _ _ _ | exact zt_rg _ | omega) (by first | exact zg_rg _ _ _ | exact zt_rg _ | omega) (fun hb26 => ?_) (fun hb26 => ?_))
    · refine e_ico o180_48 (e_is4 o180_49 (e_bip o180_51 rfl (e_il4 o180_53 (e_mul o180_55 (e_il3 o180_56 (e_add o180_57 ?_))))))
      refine e_rI o180_58 K180 rfl rfl ?_
      first | exact ⟨by rw [wsh_1 hb7], rfl, rfl⟩ | exact ⟨by rw [wsh_3 hb7 hb26]; congr 1; omega, rfl, rfl⟩ | exact ⟨by rw [wsh_2 hb26, if_pos hb41], rfl, rfl⟩ | exact ⟨by rw [wsh_2 hb26, if_neg hb41], rfl, rfl⟩
    · refine e_al0 o180_29 (e_gR o180_30 L79 rfl rfl (e_il2 o180_33 (e_ial o180_34 L85 (by omega) (by omega) ?_)))
      rw [a1.1]
      refine e_al0 o180_35 (e_gR o180_36 L79 rfl rfl (e_il1 o180_39 (e_ial o180_40 L89 (by omega) (by omega) ?_)))
      rw [a2.2.2]
      refine e_ic_ne o180_41 48 rfl (by first | exact zg_rg _ _ _ | exact zt_rg _ | omega) (by first | exact zg_rg _ _ _ | exact zt_rg _ | omega) (fun hb41 => ?_) (fun hb41 => ?_)
      · refine e_ico o180_48 (e_is4 o180_49 (e_bip o180_51 rfl (e_il4 o180_53 (e_mul o180_55 (e_il3 o180_56 (e_add o180_57 ?_))))))
        refine e_rI o180_58 K180 rfl rfl ?_
        first | exact ⟨by rw [wsh_1 hb7], rfl, rfl⟩ | exact ⟨by rw [wsh_3 hb7 hb26]; congr 1; omega, rfl, rfl⟩ | exact ⟨by rw [wsh_2 hb26, if_pos hb41], rfl, rfl⟩ | exact ⟨by rw [wsh_2 hb26, if_neg hb41], rfl, rfl⟩
      · refine e_ico o180_44 (e_goto o180_45 49 rfl (e_is4 o180_49 (e_bip o180_51 rfl (e_il4 o180_53 (e_mul o180_55 (e_il3 o180_56 (e_add o180_57 ?_)))))))
        refine e_rI o180_58 K180 rfl rfl ?_
        first | exact ⟨by rw [wsh_1 hb7], rfl, rfl⟩ | exact ⟨by rw [wsh_3 hb7 hb26]; congr 1; omega, rfl, rfl⟩ | exact ⟨by rw [wsh_2 hb26, if_pos hb41], rfl, rfl⟩ | exact ⟨by rw [wsh_2 hb26, if_neg hb41], rfl, rfl⟩
  · refine e_al0 o180_10 (e_gR o180_11 L79 rfl rfl (e_il2 o180_14 (e_ial o180_15 L86 (by omega) (by omega) ?_)))
    rw [a1.2]
    refine e_goto o180_16 49 rfl (e_is4 o180_49 (e_bip o180_51 rfl (e_il4 o180_53 (e_mul o180_55 (e_il3 o180_56 (e_add o180_57 ?_))))))
    refine e_rI o180_58 K180 rfl rfl ?_
    first | exact ⟨by rw [wsh_1 hb7], rfl, rfl⟩ | exact ⟨by rw [wsh_3 hb7 hb26]; congr 1; omega, rfl, rfl⟩ | exact ⟨by rw [wsh_2 hb26, if_pos hb41], rfl, rfl⟩ | exact ⟨by rw [wsh_2 hb26, if_neg hb41], rfl, rfl⟩
theorem m179 {k : Int} (hd : 1 ≤ d) (hw : zLay[w]? = some (0, 171, [])) (hE : EW v) (hB : WB v) (k0 : 0 ≤ k) (k1 : k < zg v 16 10) (hL : ∀ s, 0 ≤ s → s < zg v 16 9 → -1000 ≤ zg v w (40 + s) ∧ zg v w (40 + s) ≤ 1000) : zEv sc 179 d 0 [.ref 79, .ref w, .int (zI k), zJ, zJ, zJ] [] (zmk v u) 0 0 (zis (zI (tkS v k (zg v w (166 + k)) (xw v w))) v u) := by
  have e1 := hE.2.1
  have n0 := hB.2.1
  have n1 := hB.2.2.1
  have wr : ∀ s, 0 ≤ s → s < zg v 16 9 → -2147483648 ≤ wsh v k s (zg v w (40 + s)) ∧ wsh v k s (zg v w (40 + s)) < 2147483648 := by
    intro s s0 s1
    have a1 := hL s s0 s1
    have a2 := hB.2.2.2.2.1 s s0 s1
    unfold wsh
    split
    · omega
    · split <;> omega
  have rg : ∀ m, 0 ≤ m → -1 ≤ zfo (fun s b => if zg v w s = zg v w (166 + k) ∧ (b = -1 ∨ wsh v k b (zg v w (40 + b)) < wsh v k s (zg v w (40 + s))) then s else b) (-1) m ∧ zfo (fun s b => if zg v w s = zg v w (166 + k) ∧ (b = -1 ∨ wsh v k b (zg v w (40 + b)) < wsh v k s (zg v w (40 + s))) then s else b) (-1) m < m := by
    refine zup ?_ ?_
    · rw [zfo_zero]; omega
    · intro m m0 ih
      rw [zfo_succ m0]
      split <;> omega
  have loop : ∀ m, 0 ≤ m → m ≤ zg v 16 9 → zEv sc 179 d 14 [.ref 79, .ref w, .int (zI k), .int (zI (zg v w (166 + k))), .int (zI (zfo (fun s b => if zg v w s = zg v w (166 + k) ∧ (b = -1 ∨ wsh v k b (zg v w (40 + b)) < wsh v k s (zg v w (40 + s))) then s else b) (-1) m)), .int (zI m)] [] (zmk v u) 0 0 (zis (zI (tkS v k (zg v w (166 + k)) (xw v w))) v u) := by
    refine zloop ?_
    intro m m0 m1 ih
    have hr := rg m m0
    rw [zfo_succ m0] at ih
    have fin : m = zg v 16 9 → zfo (fun s b => if zg v w s = zg v w (166 + k) ∧ (b = -1 ∨ wsh v k b (zg v w (40 + b)) < wsh v k s (zg v w (40 + s))) then s else b) (-1) m = tkS v k (zg v w (166 + k)) (xw v w) := by
      intro e; rw [e]; rfl
    revert ih hr fin
    generalize zfo (fun s b => if zg v w s = zg v w (166 + k) ∧ (b = -1 ∨ wsh v k b (zg v w (40 + b)) < wsh v k s (zg v w (40 + s))) then s else b) (-1) m = b
    intro ih hr fin
    refine e_il5 o179_14 (e_al0 o179_16 (e_gR o179_17 L79 rfl rfl (e_ico o179_20 (e_ial o179_21 L82 (by omega) (by omega) (e_ic_ge o179_22 80 rfl (by first | exact zg_rg _ _ _ | exact zt_rg _ | omega) (by first | exact zg_rg _ _ _ | exact zt_rg _ | omega) (fun hb22 => ?_) (fun hb22 => ?_))))))
    · refine e_il4 o179_80 ?_
      refine e_rI o179_82 K179 rfl rfl ?_
      exact ⟨by rw [fin (by omega)], rfl, rfl⟩
    · refine e_al1 o179_25 (e_il5 o179_26 (e_ial o179_28 hw (by omega) (by omega) (e_il3 o179_29 (e_ic_ne o179_30 74 rfl (by first | exact zg_rg _ _ _ | exact zt_rg _ | omega) (by first | exact zg_rg _ _ _ | exact zt_rg _ | omega) (fun hb30 => ?_) (fun hb30 => ?_)))))
      · refine e_inc5 o179_74 (e_goto o179_77 14 rfl ?_)
        first | (rw [if_pos (by first | exact ⟨hb30, Or.inl hb36⟩ | exact ⟨hb30, Or.inr hb67⟩)] at ih; exact ih (by omega)) | (rw [if_neg (by first | exact fun e => hb30 e.1 | (rintro ⟨_, a | a⟩ <;> omega))] at ih; exact ih (by omega))
      · refine e_il4 o179_33 (e_ico o179_35 (e_ic_eq o179_36 70 rfl (by first | exact zg_rg _ _ _ | exact zt_rg _ | omega) (by first | exact zg_rg _ _ _ | exact zt_rg _ | omega) (fun hb36 => ?_) (fun hb36 => ?_)))
        · refine e_il5 o179_70 (e_is4 o179_72 (e_inc5 o179_74 (e_goto o179_77 14 rfl ?_)))
          first | (rw [if_pos (by first | exact ⟨hb30, Or.inl hb36⟩ | exact ⟨hb30, Or.inr hb67⟩)] at ih; exact ih (by omega)) | (rw [if_neg (by first | exact fun e => hb30 e.1 | (rintro ⟨_, a | a⟩ <;> omega))] at ih; exact ih (by omega))
        · refine e_al0 o179_39 (e_il2 o179_40 (e_il5 o179_41 (e_al1 o179_43 (e_bip o179_44 rfl (e_il5 o179_46 (e_add o179_48 (e_ial o179_49 hw (by omega) (by omega) (e_Vi3 o179_50 K179 K180 rfl ⟨rfl, rfl⟩ (zrcv_I L79 rfl) (by omega) rfl (m180 hE hB k0 k1 m0 (by omega)) ?_))))))))
          rintro _ _ _ ⟨rfl, rfl, rfl⟩
          refine e_al0 o179_53 (e_il2 o179_54 (e_il4 o179_55 (e_al1 o179_57 (e_bip o179_58 rfl (e_il4 o179_60 (e_add o179_62 (e_ial o179_63 hw (by omega) (by omega) (e_Vi3 o179_64 K179 K180 rfl ⟨rfl, rfl⟩ (zrcv_I L79 rfl) (by omega) rfl (m180 hE hB k0 k1 (by omega) (by omega)) ?_))))))))
          rintro _ _ _ ⟨rfl, rfl, rfl⟩
          refine e_ic_le o179_67 74 rfl (wr _ (by omega) (by omega)) (wr _ (by omega) (by omega)) (fun hb67 => ?_) (fun hb67 => ?_)
          · refine e_inc5 o179_74 (e_goto o179_77 14 rfl ?_)
            first | (rw [if_pos (by first | exact ⟨hb30, Or.inl hb36⟩ | exact ⟨hb30, Or.inr hb67⟩)] at ih; exact ih (by omega)) | (rw [if_neg (by first | exact fun e => hb30 e.1 | (rintro ⟨_, a | a⟩ <;> omega))] at ih; exact ih (by omega))
          · refine e_il5 o179_70 (e_is4 o179_72 (e_inc5 o179_74 (e_goto o179_77 14 rfl ?_)))
            first | (rw [if_pos (by first | exact ⟨hb30, Or.inl hb36⟩ | exact ⟨hb30, Or.inr hb67⟩)] at ih; exact ih (by omega)) | (rw [if_neg (by first | exact fun e => hb30 e.1 | (rintro ⟨_, a | a⟩ <;> omega))] at ih; exact ih (by omega))
  refine e_al1 o179_0 (e_sip o179_1 rfl (e_il2 o179_4 (e_add o179_5 (e_ial o179_6 hw (by omega) (by omega) (e_is3 o179_7 (e_ico o179_8 (e_is4 o179_9 (e_ico o179_11 (e_is5 o179_12 ?_)))))))))
  exact loop 0 (by omega) (by omega)
/-- a stone lifted in a row of the reference, as far as the first j -/
def lfP (v : zV) (w : Nat) (s j : Int) : zV := fun a k => if a = w ∧ 40 ≤ k ∧ k < 40 + j ∧ zg v w (k - 40) = zg v w s ∧ zg v w (40 + s) < zg v w k then zI (zg v w k - 1) else v a k
theorem lfP_step {s j : Int} (j0 : 0 ≤ j) : lfP v w s (j + 1) = if zg v w j = zg v w s ∧ zg v w (40 + s) < zg v w (40 + j) then zu (lfP v w s j) w (40 + j) (zI (zg v w (40 + j) - 1)) else lfP v w s j := by
  funext a k
  by_cases c : zg v w j = zg v w s ∧ zg v w (40 + s) < zg v w (40 + j)
  · rw [if_pos c]
    simp only [lfP, zu]
    by_cases e : a = w ∧ k = 40 + j
    · rw [if_pos e, e.2, if_pos ⟨e.1, by omega, by omega, by rw [show 40 + j - 40 = j by omega]; exact c.1, c.2⟩]
    · rw [if_neg e]
      congr 1
      apply propext
      constructor
      · rintro ⟨a1, a2, a3, a4⟩; exact ⟨a1, a2, by omega, a4⟩
      · rintro ⟨a1, a2, a3, a4⟩; exact ⟨a1, a2, by omega, a4⟩
  · rw [if_neg c]
    simp only [lfP]
    congr 1
    apply propext
    constructor
    · rintro ⟨a1, a2, a3, a4, a5⟩
      refine ⟨a1, a2, ?_, a4, a5⟩
      rcases (show k < 40 + j ∨ k = 40 + j by omega) with e | e
      · exact e
      · exfalso
        rw [e, show 40 + j - 40 = j by omega] at a4
        rw [e] at a5
        exact c ⟨a4, a5⟩
    · rintro ⟨a1, a2, a3, a4⟩; exact ⟨a1, a2, by omega, a4⟩
theorem lfP_lo {s j k : Int} (h : k < 40 ∨ 40 + j ≤ k) : zg (lfP v w s j) w k = zg v w k := by
  have e : lfP v w s j w k = v w k := by
    simp only [lfP]
    rw [if_neg (by omega)]
  simp only [zg, e]
theorem lfP_s {s j : Int} : zg (lfP v w s j) w (40 + s) = zg v w (40 + s) := by
  have e : lfP v w s j w (40 + s) = v w (40 + s) := by
    simp only [lfP]
    rw [if_neg (by omega)]
  simp only [zg, e]
theorem lfP_na {s j k : Int} {a : Nat} (h : ¬ a = w) : zg (lfP v w s j) a k = zg v a k := by
  have e : lfP v w s j a k = v a k := by
    simp only [lfP]
    rw [if_neg (fun e => h e.1)]
  simp only [zg, e]
def lftV (v : zV) (w : Nat) (s : Int) : zV := zu (lfP v w s (zg v 16 9)) w s (zI (-1))
theorem m181 {s : Int} (hw : zLay[w]? = some (0, 171, [])) (hw1 : 93 ≤ w) (hE : EW v) (hB : WB v) (s0 : 0 ≤ s) (s1 : s < zg v 16 9) : zEv sc 181 d 0 [.ref 79, .ref w, .int (zI s), zJ] [] (zmk v u) 0 0 (zdo (lftV v w s) u) := by
  have e1 := hE.2.1
  have n0 := hB.2.1
  have loop : ∀ j, 0 ≤ j → j ≤ zg v 16 9 → zEv sc 181 d 2 [.ref 79, .ref w, .int (zI s), .int (zI j)] [] (zmk (lfP v w s j) u) 0 0 (zdo (lftV v w s) u) := by
    refine zloop ?_
    intro j j0 j1 ih
    rw [lfP_step j0] at ih
    refine e_il3 o181_2 (e_al0 o181_3 (e_gR o181_4 L79 rfl rfl (e_ico o181_7 (e_ial o181_8 L82 (by omega) (by omega) ?_))))
    rw [lfP_na (by omega), e1]
    refine e_ic_ge o181_9 52 rfl (by first | exact zg_rg _ _ _ | exact zt_rg _ | omega) (by first | exact zg_rg _ _ _ | exact zt_rg _ | omega) (fun hb9 => ?_) (fun hb9 => ?_)
    · refine e_al1 o181_52 (e_il2 o181_53 (e_ico o181_54 (e_iast o181_55 hw (by omega) (by omega) ?_)))
      refine e_rV o181_56 K181 rfl rfl ?_
      have e : j = zg v 16 9 := by omega
      subst e
      exact ⟨rfl, rfl⟩
    · refine e_al1 o181_12 (e_il3 o181_13 (e_ial o181_14 hw (by omega) (by omega) (e_al1 o181_15 (e_il2 o181_16 (e_ial o181_17 hw (by omega) (by omega) ?_)))))
      rw [lfP_lo (by omega), lfP_lo (by omega)]
      refine e_ic_ne o181_18 46 rfl (by first | exact zg_rg _ _ _ | exact zt_rg _ | omega) (by first | exact zg_rg _ _ _ | exact zt_rg _ | omega) (fun hb18 => ?_) (fun hb18 => ?_)
      · refine e_inc3 o181_46 (e_goto o181_49 2 rfl ?_)
        first | (rw [if_pos ⟨hb18, hb33⟩] at ih; exact ih (by omega)) | (rw [if_neg (fun e => hb18 e.1)] at ih; exact ih (by omega)) | (rw [if_neg (fun e => by omega)] at ih; exact ih (by omega))
      · refine e_al1 o181_21 (e_bip o181_22 rfl (e_il3 o181_24 (e_add o181_25 (e_ial o181_26 hw (by omega) (by omega) (e_al1 o181_27 (e_bip o181_28 rfl (e_il2 o181_30 (e_add o181_31 (e_ial o181_32 hw (by omega) (by omega) ?_)))))))))
        rw [lfP_s, lfP_lo (k := 40 + j) (by omega)]
        refine e_ic_le o181_33 46 rfl (by first | exact zg_rg _ _ _ | exact zt_rg _ | omega) (by first | exact zg_rg _ _ _ | exact zt_rg _ | omega) (fun hb33 => ?_) (fun hb33 => ?_)
        · refine e_inc3 o181_46 (e_goto o181_49 2 rfl ?_)
          first | (rw [if_pos ⟨hb18, hb33⟩] at ih; exact ih (by omega)) | (rw [if_neg (fun e => hb18 e.1)] at ih; exact ih (by omega)) | (rw [if_neg (fun e => by omega)] at ih; exact ih (by omega))
        · refine e_al1 o181_36 (e_bip o181_37 rfl (e_il3 o181_39 (e_add o181_40 (e_dup2 o181_41 (e_ial o181_42 hw (by omega) (by omega) ?_)))))
          rw [lfP_lo (by omega)]
          refine e_ico o181_43 (e_sub o181_44 (e_iast o181_45 hw (by omega) (by omega) (e_inc3 o181_46 (e_goto o181_49 2 rfl ?_))))
          first | (rw [if_pos ⟨hb18, hb33⟩] at ih; exact ih (by omega)) | (rw [if_neg (fun e => hb18 e.1)] at ih; exact ih (by omega)) | (rw [if_neg (fun e => by omega)] at ih; exact ih (by omega))
  refine e_ico o181_0 (e_is3 o181_1 ?_)
  have e := loop 0 (by omega) (by omega)
  rw [show lfP v w s 0 = v from by funext a k; simp only [lfP]; rw [if_neg (by omega)]] at e
  exact e
end
