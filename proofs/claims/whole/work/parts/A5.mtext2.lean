/-! words and marks of the reference -/
section
variable {sc : Nat × (Nat → Int32)} {d : Nat} {v v0 w : zV} {u : zU} {B : Int → Int} {N : Int}
theorem isW_eq {e : Int} {r r' : Nat} (h : zByt.getD r [] = zByt.getD r' []) : isW B N e r = isW B N e r' := by
  unfold isW wdX sN sC
  rw [h]
theorem m151_d {c : Int32} (h : ¬ zg v 79 21 = 0) : zEv sc 151 d 0 [.ref 79, .int c] [] (zmk v u) 0 0 (zis (zI 0) v u) := by
  refine e_al0 o151_0 (e_gI o151_1 L79 rfl 21 rfl (e_if_ne o151_4 32 rfl (by first | exact zg_rg _ _ _ | exact zt_rg _ | omega) (fun hb4 => ?_) (fun hb4 => ?_)))
  · refine e_ico o151_32 ?_
    refine e_rI o151_33 K151 (by decide) rfl ?_
    exact ⟨rfl, rfl, rfl⟩
  · omega
theorem m151 {e c : Int} (h : zg v 79 21 = 0) (hT : TXm B N v) (hR : RT B N v e) (e0 : 0 ≤ e) (e1 : e ≤ N) (hc : mrk c = true) : zEv sc 151 d 0 [.ref 79, .int (zI c)] [] (zmk v u) 0 0 (zis (zI (zb (isS B N e c = true))) v u) := by
  obtain ⟨⟨n0, n6⟩, hN, hB⟩ := id hT
  obtain ⟨k1, k2, k3, k4, k5⟩ := hR
  have h1 := ts_in (B := B) e1
  have h2 := te_in (B := B) e1
  have kr := tk_rg (B := B) (N := N) (e := e)
  have hc' := of_decide_eq_true hc
  have no : ¬ (tk B N e = 3 ∧ B (ts B N e) = c) → zI 0 = zI (zb (isS B N e c = true)) := fun h => by rw [show isS B N e c = false from decide_eq_false h]; rfl
  have yes : (tk B N e = 3 ∧ B (ts B N e) = c) → zI 1 = zI (zb (isS B N e c = true)) := fun h => by rw [show isS B N e c = true from decide_eq_true h]; rfl
  by_cases h3 : tk B N e = 3
  · have h4 := h2.2.2.1 (by omega)
    have hb := hB (ts B N e) (by omega) (by omega)
    by_cases hm : mrk (B (ts B N e)) = true
    · rw [if_neg (fun z => absurd z.2 (by rw [hm]; decide)), h3] at k1
      refine e_al0 o151_0 (e_gI o151_1 L79 rfl 21 rfl ?_)
      rw [h]
      refine e_if_ne o151_4 32 rfl (by first | exact zg_rg _ _ _ | exact zt_rg _ | omega) (fun hb4 => ?_) (fun hb4 => ?_)
      · omega
      · refine e_al0 o151_7 (e_gI o151_8 L79 rfl 17 rfl (e_ico o151_11 ?_))
        rw [k1]
        refine e_ic_ne o151_12 32 rfl (by first | exact zg_rg _ _ _ | exact zt_rg _ | omega) (by first | exact zg_rg _ _ _ | exact zt_rg _ | omega) (fun hb12 => ?_) (fun hb12 => ?_)
        · omega
        · refine e_al0 o151_15 (e_gR o151_16 L79 rfl rfl (e_al0 o151_19 (e_gI o151_20 L79 rfl 19 rfl ?_)))
          rw [k2]
          refine e_ial o151_23 L92 (by omega) (by omega) (e_il1 o151_24 ?_)
          rw [hb.1]
          refine e_ic_ne o151_25 32 rfl (by first | exact zg_rg _ _ _ | exact zt_rg _ | omega) (by first | exact zg_rg _ _ _ | exact zt_rg _ | omega) (fun hb25 => ?_) (fun hb25 => ?_)
          · refine e_ico o151_32 ?_
            refine e_rI o151_33 K151 (by decide) rfl ?_
            first | exact ⟨(yes (by omega)).symm, rfl, rfl⟩ | exact ⟨(no (by omega)).symm, rfl, rfl⟩
          · refine e_ico o151_28 (e_goto o151_29 33 rfl ?_)
            refine e_rI o151_33 K151 (by decide) rfl ?_
            first | exact ⟨(yes (by omega)).symm, rfl, rfl⟩ | exact ⟨(no (by omega)).symm, rfl, rfl⟩
    · have nm : ¬ B (ts B N e) = c := fun z => hm (by rw [z]; exact hc)
      rw [if_pos ⟨h3, by simpa using hm⟩] at k1
      refine e_al0 o151_0 (e_gI o151_1 L79 rfl 21 rfl ?_)
      rw [h]
      refine e_if_ne o151_4 32 rfl (by first | exact zg_rg _ _ _ | exact zt_rg _ | omega) (fun hb4 => ?_) (fun hb4 => ?_)
      · omega
      · refine e_al0 o151_7 (e_gI o151_8 L79 rfl 17 rfl (e_ico o151_11 ?_))
        rw [k1]
        refine e_ic_ne o151_12 32 rfl (by first | exact zg_rg _ _ _ | exact zt_rg _ | omega) (by first | exact zg_rg _ _ _ | exact zt_rg _ | omega) (fun hb12 => ?_) (fun hb12 => ?_)
        · refine e_ico o151_32 ?_
          refine e_rI o151_33 K151 (by decide) rfl ?_
          exact ⟨(no (by omega)).symm, rfl, rfl⟩
        · omega
  · rw [if_neg (fun z => h3 z.1)] at k1
    refine e_al0 o151_0 (e_gI o151_1 L79 rfl 21 rfl ?_)
    rw [h]
    refine e_if_ne o151_4 32 rfl (by first | exact zg_rg _ _ _ | exact zt_rg _ | omega) (fun hb4 => ?_) (fun hb4 => ?_)
    · omega
    · refine e_al0 o151_7 (e_gI o151_8 L79 rfl 17 rfl (e_ico o151_11 ?_))
      rw [k1]
      refine e_ic_ne o151_12 32 rfl (by first | exact zg_rg _ _ _ | exact zt_rg _ | omega) (by first | exact zg_rg _ _ _ | exact zt_rg _ | omega) (fun hb12 => ?_) (fun hb12 => ?_)
      · refine e_ico o151_32 ?_
        refine e_rI o151_33 K151 (by decide) rfl ?_
        exact ⟨(no (by omega)).symm, rfl, rfl⟩
      · omega
theorem m142_d {c : Int32} (h : ¬ zg v 79 21 = 0) : zEv sc 142 d 0 [.ref 79, .int c] [] (zmk v u) 0 0 (zdo v u) := by
  refine e_al0 o142_0 (e_gI o142_1 L79 rfl 21 rfl (e_if_eq o142_4 8 rfl (by first | exact zg_rg _ _ _ | exact zt_rg _ | omega) (fun hb4 => ?_) (fun hb4 => ?_)))
  · omega
  · refine e_rV o142_7 K142 rfl rfl ?_
    exact ⟨rfl, rfl⟩
theorem m142 {c : Int32} (h : zg v 79 21 = 0) : zEv sc 142 d 0 [.ref 79, .int c] [] (zmk v u) 0 0 (zdo (zu (zu v 79 21 c) 79 22 (zI (zg v 79 19))) u) := by
  refine e_al0 o142_0 (e_gI o142_1 L79 rfl 21 rfl (e_if_eq o142_4 8 rfl (by first | exact zg_rg _ _ _ | exact zt_rg _ | omega) (fun hb4 => ?_) (fun hb4 => ?_)))
  · refine e_al0 o142_8 (e_il1 o142_9 (e_pI o142_10 L79 rfl rfl rfl rfl 21 rfl (e_al0 o142_13 (e_al0 o142_14 (e_gI o142_15 L79 rfl 19 rfl ?_)))))
    rw [zg_ne (by omega)]
    refine e_pI o142_18 L79 rfl rfl rfl rfl 22 rfl ?_
    refine e_rV o142_21 K142 rfl rfl ?_
    exact ⟨rfl, rfl⟩
  · omega
theorem m157_d {c : Int32} (h : ¬ zg v 79 21 = 0) : zEv sc 157 d 0 [.ref 79, .int c] [] (zmk v u) 0 0 (zdo v u) := by
  refine e_al0 o157_0 (e_gI o157_1 L79 rfl 21 rfl (e_if_eq o157_4 8 rfl (by first | exact zg_rg _ _ _ | exact zt_rg _ | omega) (fun hb4 => ?_) (fun hb4 => ?_)))
  · omega
  · refine e_rV o157_7 K157 rfl rfl ?_
    exact ⟨rfl, rfl⟩
theorem m157 {c : Int32} {l : Int} (h : zg v 79 21 = 0) (hl : zg v 82 7 = l) (l0 : 0 ≤ l) (l1 : l < 600) : zEv sc 157 d 0 [.ref 79, .int c] [] (zmk v u) 0 0 (zdo (zu (zu v 90 (600 + l) c) 82 7 (zI (l + 1))) u) := by
  refine e_al0 o157_0 (e_gI o157_1 L79 rfl 21 rfl (e_if_eq o157_4 8 rfl (by first | exact zg_rg _ _ _ | exact zt_rg _ | omega) (fun hb4 => ?_) (fun hb4 => ?_)))
  · refine e_al0 o157_8 (e_gR o157_9 L79 rfl rfl (e_sip o157_12 rfl (e_al0 o157_15 (e_gR o157_16 L79 rfl rfl (e_bip o157_19 rfl (e_ial o157_21 L82 (by omega) (by omega) ?_))))))
    rw [hl]
    refine e_add o157_22 (e_il1 o157_23 (e_iast o157_24 L90 (by omega) (by omega) (e_al0 o157_25 (e_gR o157_26 L79 rfl rfl (e_bip o157_29 rfl (e_dup2 o157_31 (e_ial o157_32 L82 (by omega) (by omega) (e_ico o157_33 ?_))))))))
    rw [zg_na (by decide), hl]
    refine e_add o157_34 (e_iast o157_35 L82 (by omega) (by omega) ?_)
    refine e_rV o157_36 K157 rfl rfl ?_
    exact ⟨rfl, rfl⟩
  · omega
theorem m158_d {c : Int32} (hd : 1 ≤ d) (h : ¬ zg v 79 21 = 0) : zEv sc 158 d 0 [.ref 79, .int c] [] (zmk v u) 0 0 (zdo v u) := by
  refine e_al0 o158_0 (e_gI o158_1 L79 rfl 21 rfl (e_if_ne o158_4 20 rfl (by first | exact zg_rg _ _ _ | exact zt_rg _ | omega) (fun hb4 => ?_) (fun hb4 => ?_)))
  · refine e_al0 o158_20 (e_gI o158_21 L79 rfl 21 rfl (e_if_ne o158_24 31 rfl (by first | exact zg_rg _ _ _ | exact zt_rg _ | omega) (fun hb24 => ?_) (fun hb24 => ?_)))
    · refine e_rV o158_31 K158 rfl rfl ?_
      exact ⟨rfl, rfl⟩
    · omega
  · omega
theorem m158 {e c : Int} (hd : 2 ≤ d) (h : zg v 79 21 = 0) (hT : TXm B N v) (hR : RT B N v e) (e0 : 0 ≤ e) (e1 : e ≤ N) (hc : mrk c = true) : zEv sc 158 d 0 [.ref 79, .int (zI c)] [] (zmk v u) 0 0 (zPv fun w t => ((isS B N e c = true ∧ FRm v w ∧ RT B N w (te B N e)) ∨ (¬ isS B N e c = true ∧ zu (zu v 79 21 (zI 1)) 79 22 (zI (ts B N e)) = w)) ∧ u = t) := by
  have h2 := te_in (B := B) e1
  have h1 := ts_in (B := B) e1
  have k2 := hR.2.1
  have k4 := hR.2.2.2.1
  by_cases hS : isS B N e c = true
  · skip
    refine e_al0 o158_0 (e_gI o158_1 L79 rfl 21 rfl ?_)
    rw [h]
    refine e_if_ne o158_4 20 rfl (by first | exact zg_rg _ _ _ | exact zt_rg _ | omega) (fun hb4 => ?_) (fun hb4 => ?_)
    · omega
    · refine e_al0 o158_7 (e_il1 o158_8 (e_Vi1 o158_9 K158 K151 rfl ⟨rfl, rfl⟩ (zrcv_I L79 rfl) (by omega) rfl (m151 h hT hR e0 e1 hc) ?_))
      rintro _ _ _ ⟨rfl, rfl, rfl⟩
      refine e_bz_ne o158_12 20 rfl (fun hb12 => ?_) (fun hb12 => ?_)
      · refine e_al0 o158_20 (e_gI o158_21 L79 rfl 21 rfl ?_)
        rw [h]
        refine e_if_ne o158_24 31 rfl (by first | exact zg_rg _ _ _ | exact zt_rg _ | omega) (fun hb24 => ?_) (fun hb24 => ?_)
        · omega
        · refine e_al0 o158_27 (e_Vv0 o158_28 K158 K134 rfl ⟨rfl, rfl⟩ (zrcv_I L79 rfl) (by omega) rfl (m134 (e := te B N e) (by omega) hT k4 (by omega) (by omega)) ?_)
          rintro w u' ⟨⟨q1, q2⟩, rfl⟩
          refine e_rV o158_31 K158 rfl rfl ?_
          exact ⟨Or.inl ⟨hS, q1, q2⟩, rfl⟩
      · exact absurd hS hb12
  · skip
    refine e_al0 o158_0 (e_gI o158_1 L79 rfl 21 rfl ?_)
    rw [h]
    refine e_if_ne o158_4 20 rfl (by first | exact zg_rg _ _ _ | exact zt_rg _ | omega) (fun hb4 => ?_) (fun hb4 => ?_)
    · omega
    · refine e_al0 o158_7 (e_il1 o158_8 (e_Vi1 o158_9 K158 K151 rfl ⟨rfl, rfl⟩ (zrcv_I L79 rfl) (by omega) rfl (m151 h hT hR e0 e1 hc) ?_))
      rintro _ _ _ ⟨rfl, rfl, rfl⟩
      refine e_bz_ne o158_12 20 rfl (fun hb12 => ?_) (fun hb12 => ?_)
      · exact absurd hb12 hS
      · refine e_al0 o158_15 (e_ico o158_16 (e_Vv1 o158_17 K158 K142 rfl ⟨rfl, rfl⟩ (zrcv_I L79 rfl) (by omega) rfl (m142 h) ?_))
        rintro _ _ ⟨rfl, rfl⟩
        rw [k2]
        refine e_al0 o158_20 (e_gI o158_21 L79 rfl 21 rfl ?_)
        rw [zg_ne (by omega), zg_same (by omega)]
        refine e_if_ne o158_24 31 rfl (by first | exact zg_rg _ _ _ | exact zt_rg _ | omega) (fun hb24 => ?_) (fun hb24 => ?_)
        · refine e_rV o158_31 K158 rfl rfl ?_
          exact ⟨Or.inr ⟨hS, rfl⟩, rfl⟩
        · omega
/-- a number may stand here: its fault -/
def nF (B : Int → Int) (N e least top : Int) : Int := if tk B N e = 2 then (if tn B N e = -1 ∨ tn B N e < least ∨ top < tn B N e then 2 else 0) else 1
theorem m145_d {a b : Int32} (h : ¬ zg v 79 21 = 0) : zEv sc 145 d 0 [.ref 79, .int a, .int b] [] (zmk v u) 0 0 (zis (zI 0) v u) := by
  refine e_al0 o145_0 (e_gI o145_1 L79 rfl 21 rfl (e_if_eq o145_4 9 rfl (by first | exact zg_rg _ _ _ | exact zt_rg _ | omega) (fun hb4 => ?_) (fun hb4 => ?_)))
  · omega
  · refine e_ico o145_7 ?_
    refine e_rI o145_8 K145 rfl rfl ?_
    exact ⟨rfl, rfl, rfl⟩
theorem tk_K {e : Int} (hR : RT B N v e) : (zg v 79 17 = 2 ↔ tk B N e = 2) ∧ (zg v 79 17 = 1 ↔ tk B N e = 1) ∧ (zg v 79 17 = 0 ↔ tk B N e = 0) ∧ 0 ≤ zg v 79 17 ∧ zg v 79 17 ≤ 4 := by
  have kr := tk_rg (B := B) (N := N) (e := e)
  rw [hR.1]
  by_cases h : tk B N e = 3 ∧ mrk (B (ts B N e)) = false
  · rw [if_pos h]; omega
  · rw [if_neg h]; omega
theorem m145 {e least top : Int} (hd : 1 ≤ d) (h : zg v 79 21 = 0) (hT : TXm B N v) (hR : RT B N v e) (e0 : 0 ≤ e) (e1 : e ≤ N) (hl : 0 ≤ least ∧ least ≤ 10000) (ht : 0 ≤ top ∧ top ≤ 10000) : zEv sc 145 d 0 [.ref 79, .int (zI least), .int (zI top)] [] (zmk v u) 0 0 (zPi fun y w t => ((nF B N e least top = 0 ∧ zI (tn B N e) = y ∧ v = w) ∨ (¬ nF B N e least top = 0 ∧ zI 0 = y ∧ zu (zu v 79 21 (zI (nF B N e least top))) 79 22 (zI (ts B N e)) = w)) ∧ u = t) := by
  have h2 := te_in (B := B) e1
  have h1 := ts_in (B := B) e1
  obtain ⟨k1, k2, k3, k4, k5⟩ := id hR
  have n6 := hT.1
  have kk := tk_K hR
  have w1 : zg (zu (zu v 79 21 (zI 1)) 79 22 (zI (ts B N e))) 79 21 = 1 := by rw [zg_ne (by omega), zg_same (by omega)]
  have w2 : zg (zu (zu v 79 21 (zI 2)) 79 22 (zI (ts B N e))) 79 21 = 2 := by rw [zg_ne (by omega), zg_same (by omega)]
  by_cases h3 : tk B N e = 2
  · have hb := tn_bd e1 h3
    have k5 := k5 h3
    by_cases hg : te B N e - ts B N e ≤ 4 ∧ least ≤ tn B N e ∧ tn B N e ≤ top
    · have e0 : nF B N e least top = 0 := by unfold nF; rw [if_pos h3, if_neg (by omega)]
      have k5 := k5 hg.1
      refine e_al0 o145_0 (e_gI o145_1 L79 rfl 21 rfl ?_)
      rw [h]
      refine e_if_eq o145_4 9 rfl (by first | exact zg_rg _ _ _ | exact zt_rg _ | omega) (fun hb4 => ?_) (fun hb4 => ?_)
      · refine e_al0 o145_9 (e_gI o145_10 L79 rfl 17 rfl (e_ico o145_13 (e_ic_eq o145_14 25 rfl (by first | exact zg_rg _ _ _ | exact zt_rg _ | omega) (by first | exact zg_rg _ _ _ | exact zt_rg _ | omega) (fun hb14 => ?_) (fun hb14 => ?_))))
        · refine e_al0 o145_25 (e_gI o145_26 L79 rfl 20 rfl (e_al0 o145_29 (e_gI o145_30 L79 rfl 19 rfl ?_)))
          rw [k3, k2]
          refine e_sub o145_33 (e_ico o145_34 (e_ic_gt o145_35 54 rfl (by first | exact zg_rg _ _ _ | exact zt_rg _ | omega) (by first | exact zg_rg _ _ _ | exact zt_rg _ | omega) (fun hb35 => ?_) (fun hb35 => ?_)))
          · omega
          · refine e_al0 o145_38 (e_gI o145_39 L79 rfl 18 rfl (e_il1 o145_42 ?_))
            rw [k5]
            refine e_ic_lt o145_43 54 rfl (by first | exact zg_rg _ _ _ | exact zt_rg _ | omega) (by first | exact zg_rg _ _ _ | exact zt_rg _ | omega) (fun hb43 => ?_) (fun hb43 => ?_)
            · omega
            · refine e_al0 o145_46 (e_gI o145_47 L79 rfl 18 rfl (e_il2 o145_50 ?_))
              rw [k5]
              refine e_ic_le o145_51 59 rfl (by first | exact zg_rg _ _ _ | exact zt_rg _ | omega) (by first | exact zg_rg _ _ _ | exact zt_rg _ | omega) (fun hb51 => ?_) (fun hb51 => ?_)
              · refine e_al0 o145_59 (e_gI o145_60 L79 rfl 21 rfl ?_)
                rw [h]
                refine e_if_ne o145_63 73 rfl (by first | exact zg_rg _ _ _ | exact zt_rg _ | omega) (fun hb63 => ?_) (fun hb63 => ?_)
                · omega
                · refine e_al0 o145_66 (e_gI o145_67 L79 rfl 18 rfl (e_goto o145_70 74 rfl ?_))
                  refine e_rI o145_74 K145 rfl rfl ?_
                  exact ⟨Or.inl ⟨e0, by rw [k5], rfl⟩, rfl⟩
              · omega
        · omega
      · omega
    · have e0 : nF B N e least top = 2 := by
        unfold nF
        rw [if_pos h3, if_pos]
        by_cases g4 : te B N e - ts B N e ≤ 4
        · omega
        · left; unfold tn; rw [if_neg g4]
      have bad : zEv sc 145 d 54 [.ref 79, .int (zI least), .int (zI top)] [] (zmk v u) 0 0 (zPi fun y w t => ((nF B N e least top = 0 ∧ zI (tn B N e) = y ∧ v = w) ∨ (¬ nF B N e least top = 0 ∧ zI 0 = y ∧ zu (zu v 79 21 (zI (nF B N e least top))) 79 22 (zI (ts B N e)) = w)) ∧ u = t) := by
        refine e_al0 o145_54 (e_ico o145_55 (e_Vv1 o145_56 K145 K142 rfl ⟨rfl, rfl⟩ (zrcv_I L79 rfl) (by omega) rfl (m142 h) ?_))
        rintro _ _ ⟨rfl, rfl⟩
        rw [k2]
        refine e_al0 o145_59 (e_gI o145_60 L79 rfl 21 rfl ?_)
        rw [w2]
        refine e_if_ne o145_63 73 rfl (by first | exact zg_rg _ _ _ | exact zt_rg _ | omega) (fun hb63 => ?_) (fun hb63 => ?_)
        · refine e_ico o145_73 ?_
          refine e_rI o145_74 K145 rfl rfl ?_
          exact ⟨Or.inr ⟨by omega, rfl, by rw [e0]⟩, rfl⟩
        · omega
      refine e_al0 o145_0 (e_gI o145_1 L79 rfl 21 rfl ?_)
      rw [h]
      refine e_if_eq o145_4 9 rfl (by first | exact zg_rg _ _ _ | exact zt_rg _ | omega) (fun hb4 => ?_) (fun hb4 => ?_)
      · refine e_al0 o145_9 (e_gI o145_10 L79 rfl 17 rfl (e_ico o145_13 (e_ic_eq o145_14 25 rfl (by first | exact zg_rg _ _ _ | exact zt_rg _ | omega) (by first | exact zg_rg _ _ _ | exact zt_rg _ | omega) (fun hb14 => ?_) (fun hb14 => ?_))))
        · refine e_al0 o145_25 (e_gI o145_26 L79 rfl 20 rfl (e_al0 o145_29 (e_gI o145_30 L79 rfl 19 rfl ?_)))
          rw [k3, k2]
          refine e_sub o145_33 (e_ico o145_34 (e_ic_gt o145_35 54 rfl (by first | exact zg_rg _ _ _ | exact zt_rg _ | omega) (by first | exact zg_rg _ _ _ | exact zt_rg _ | omega) (fun hb35 => ?_) (fun hb35 => ?_)))
          · exact bad
          · have k5 := k5 (by omega)
            refine e_al0 o145_38 (e_gI o145_39 L79 rfl 18 rfl (e_il1 o145_42 ?_))
            rw [k5]
            refine e_ic_lt o145_43 54 rfl (by first | exact zg_rg _ _ _ | exact zt_rg _ | omega) (by first | exact zg_rg _ _ _ | exact zt_rg _ | omega) (fun hb43 => ?_) (fun hb43 => ?_)
            · exact bad
            · refine e_al0 o145_46 (e_gI o145_47 L79 rfl 18 rfl (e_il2 o145_50 ?_))
              rw [k5]
              refine e_ic_le o145_51 59 rfl (by first | exact zg_rg _ _ _ | exact zt_rg _ | omega) (by first | exact zg_rg _ _ _ | exact zt_rg _ | omega) (fun hb51 => ?_) (fun hb51 => ?_)
              · exfalso; omega
              · exact bad
        · omega
      · omega
  · have e0 : nF B N e least top = 1 := by unfold nF; rw [if_neg h3]
    refine e_al0 o145_0 (e_gI o145_1 L79 rfl 21 rfl ?_)
    rw [h]
    refine e_if_eq o145_4 9 rfl (by first | exact zg_rg _ _ _ | exact zt_rg _ | omega) (fun hb4 => ?_) (fun hb4 => ?_)
    · refine e_al0 o145_9 (e_gI o145_10 L79 rfl 17 rfl (e_ico o145_13 (e_ic_eq o145_14 25 rfl (by first | exact zg_rg _ _ _ | exact zt_rg _ | omega) (by first | exact zg_rg _ _ _ | exact zt_rg _ | omega) (fun hb14 => ?_) (fun hb14 => ?_))))
      · omega
      · refine e_al0 o145_17 (e_ico o145_18 (e_Vv1 o145_19 K145 K142 rfl ⟨rfl, rfl⟩ (zrcv_I L79 rfl) (by omega) rfl (m142 h) ?_))
        rintro _ _ ⟨rfl, rfl⟩
        rw [k2]
        refine e_goto o145_22 59 rfl (e_al0 o145_59 (e_gI o145_60 L79 rfl 21 rfl ?_))
        rw [w1]
        refine e_if_ne o145_63 73 rfl (by first | exact zg_rg _ _ _ | exact zt_rg _ | omega) (fun hb63 => ?_) (fun hb63 => ?_)
        · refine e_ico o145_73 ?_
          refine e_rI o145_74 K145 rfl rfl ?_
          exact ⟨Or.inr ⟨by omega, rfl, by rw [e0]⟩, rfl⟩
        · omega
    · omega
theorem m144_d {a b : Int32} (hd : 1 ≤ d) (h : ¬ zg v 79 21 = 0) : zEv sc 144 d 0 [.ref 79, .int a, .int b, zJ] [] (zmk v u) 0 0 (zis (zI 0) v u) := by
  refine e_al0 o144_0 (e_il1 o144_1 (e_il2 o144_2 (e_Vi2 o144_3 K144 K145 rfl ⟨rfl, rfl⟩ (zrcv_I L79 rfl) (by omega) rfl (m145_d h) ?_)))
  rintro _ _ _ ⟨rfl, rfl, rfl⟩
  refine e_is3 o144_6 (e_al0 o144_7 (e_gI o144_8 L79 rfl 21 rfl (e_if_ne o144_11 18 rfl (by first | exact zg_rg _ _ _ | exact zt_rg _ | omega) (fun hb11 => ?_) (fun hb11 => ?_))))
  · refine e_il3 o144_18 ?_
    refine e_rI o144_19 K144 rfl rfl ?_
    exact ⟨rfl, rfl, rfl⟩
  · omega
theorem m144 {e least top : Int} (hd : 2 ≤ d) (h : zg v 79 21 = 0) (hT : TXm B N v) (hR : RT B N v e) (e0 : 0 ≤ e) (e1 : e ≤ N) (hl : 0 ≤ least ∧ least ≤ 10000) (ht : 0 ≤ top ∧ top ≤ 10000) : zEv sc 144 d 0 [.ref 79, .int (zI least), .int (zI top), zJ] [] (zmk v u) 0 0 (zPi fun y w t => ((nF B N e least top = 0 ∧ zI (tn B N e) = y ∧ FRm v w ∧ RT B N w (te B N e)) ∨ (¬ nF B N e least top = 0 ∧ zI 0 = y ∧ zu (zu v 79 21 (zI (nF B N e least top))) 79 22 (zI (ts B N e)) = w)) ∧ u = t) := by
  have h2 := te_in (B := B) e1
  have h1 := ts_in (B := B) e1
  have k4 := hR.2.2.2.1
  have nr : 0 ≤ nF B N e least top ∧ nF B N e least top ≤ 2 := by unfold nF; split; split <;> omega; omega
  by_cases hn : nF B N e least top = 0
  · skip
    refine e_al0 o144_0 (e_il1 o144_1 (e_il2 o144_2 (e_Vi2 o144_3 K144 K145 rfl ⟨rfl, rfl⟩ (zrcv_I L79 rfl) (by omega) rfl (m145 (by omega) h hT hR e0 e1 hl ht) ?_)))
    rintro _ _ _ ⟨⟨_, rfl, rfl⟩ | ⟨h0, _⟩, rfl⟩
    skip
    rotate_left
    exact absurd hn h0
    refine e_is3 o144_6 (e_al0 o144_7 (e_gI o144_8 L79 rfl 21 rfl ?_))
    rw [h]
    refine e_if_ne o144_11 18 rfl (by first | exact zg_rg _ _ _ | exact zt_rg _ | omega) (fun hb11 => ?_) (fun hb11 => ?_)
    · omega
    · refine e_al0 o144_14 (e_Vv0 o144_15 K144 K134 rfl ⟨rfl, rfl⟩ (zrcv_I L79 rfl) (by omega) rfl (m134 (e := te B N e) (by omega) hT k4 (by omega) (by omega)) ?_)
      rintro w u' ⟨⟨q1, q2⟩, rfl⟩
      refine e_il3 o144_18 ?_
      refine e_rI o144_19 K144 rfl rfl ?_
      exact ⟨Or.inl ⟨hn, rfl, q1, q2⟩, rfl⟩
  · skip
    refine e_al0 o144_0 (e_il1 o144_1 (e_il2 o144_2 (e_Vi2 o144_3 K144 K145 rfl ⟨rfl, rfl⟩ (zrcv_I L79 rfl) (by omega) rfl (m145 (by omega) h hT hR e0 e1 hl ht) ?_)))
    rintro _ _ _ ⟨⟨h0, _⟩ | ⟨_, rfl, rfl⟩, rfl⟩
    exact absurd h0 hn
    refine e_is3 o144_6 (e_al0 o144_7 (e_gI o144_8 L79 rfl 21 rfl ?_))
    rw [zg_ne (by omega), zg_same (by omega)]
    refine e_if_ne o144_11 18 rfl (by first | exact zg_rg _ _ _ | exact zt_rg _ | omega) (fun hb11 => ?_) (fun hb11 => ?_)
    · refine e_il3 o144_18 ?_
      refine e_rI o144_19 K144 rfl rfl ?_
      exact ⟨Or.inr ⟨hn, rfl, rfl⟩, rfl⟩
    · omega
end
