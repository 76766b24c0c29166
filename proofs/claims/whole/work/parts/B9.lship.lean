/-! the line of a ship -/
def DrK (D : Dr) (k h p : Int) : Dr := (D.np, D.ns, D.nk + 1, D.need, D.weight, D.origin, D.square, fu D.kind D.nk k, fu D.hold D.nk h, fu D.home D.nk p, D.L)
theorem DrK_B {D : Dr} {k h p : Int} (hB : DB D) (h5 : D.nk < 5) (k0 : 0 ≤ k) (k3 : k ≤ 3) (h1 : 1 ≤ h) (h8 : h ≤ 8) (p0 : 0 ≤ p) (p1 : p < D.np) : DB (DrK D k h p) := by
  obtain ⟨a1, a2, a3, a4, a5, a6, a7⟩ := hB
  refine ⟨a1, a2, ⟨by show 0 ≤ D.nk + 1; omega, by show D.nk + 1 ≤ 5; omega⟩, a4, a5, fun i i0 i1 => ?_, a7⟩
  have i1 : i < D.nk + 1 := i1
  show (0 ≤ fu D.kind D.nk k i ∧ fu D.kind D.nk k i ≤ 3) ∧ (1 ≤ fu D.hold D.nk h i ∧ fu D.hold D.nk h i ≤ 8) ∧ 0 ≤ fu D.home D.nk p i ∧ fu D.home D.nk p i < D.np
  by_cases e : i = D.nk
  · subst e; rw [fu_same, fu_same, fu_same]; omega
  · rw [fu_ne e, fu_ne e, fu_ne e]; exact a6 i i0 (by omega)
section
variable {sc : Nat × (Nat → Int32)} {B : Int → Int} {N : Int} {D : Dr}
theorem CD_ship {v : zV} {k h p : Int} (h5 : D.nk < 5) (n0 : 0 ≤ D.nk) (hD : CD D v) (kr : -2147483648 ≤ k ∧ k < 2147483648) (hr : -2147483648 ≤ h ∧ h < 2147483648) (pr : -2147483648 ≤ p ∧ p < 2147483648) : CD (DrK D k h p) (zu (zu (zu (zu v 9 D.nk (zI k)) 10 D.nk (zI h)) 11 D.nk (zI p)) 4 10 (zI (D.nk + 1))) := by
  refine ⟨⟨?_, ?_, ?_⟩, fun i i0 i1 => ?_, fun i i0 i1 => ?_, fun i i0 i1 => ?_, ?_, fun i hi => ?_⟩
  · rw [zg_ne (by omega), zg_na (by decide), zg_na (by decide), zg_na (by decide)]; exact hD.1.1
  · rw [zg_ne (by omega), zg_na (by decide), zg_na (by decide), zg_na (by decide)]; exact hD.1.2.1
  · rw [zg_same (by omega)]; rfl
  · have z := hD.2.1 i i0 i1
    exact ⟨by rw [zg_na (by decide), zg_na (by decide), zg_na (by decide), zg_na (by decide)]; exact z.1, by rw [zg_na (by decide), zg_na (by decide), zg_na (by decide), zg_na (by decide)]; exact z.2⟩
  · have z := hD.2.2.1 i i0 i1
    exact ⟨by rw [zg_na (by decide), zg_na (by decide), zg_na (by decide), zg_na (by decide)]; exact z.1, by rw [zg_na (by decide), zg_na (by decide), zg_na (by decide), zg_na (by decide)]; exact z.2⟩
  · have i1 : i < D.nk + 1 := i1
    show zg _ 9 i = fu D.kind D.nk k i ∧ zg _ 10 i = fu D.hold D.nk h i ∧ zg _ 11 i = fu D.home D.nk p i
    by_cases e : i = D.nk
    · rw [e, fu_same, fu_same, fu_same]
      exact ⟨by rw [zg_na (by decide), zg_na (by decide), zg_na (by decide), zg_same kr], by rw [zg_na (by decide), zg_na (by decide), zg_same hr], by rw [zg_na (by decide), zg_same pr]⟩
    · rw [fu_ne e, fu_ne e, fu_ne e]
      have z := hD.2.2.2.1 i i0 (by omega)
      exact ⟨by rw [zg_na (by decide), zg_na (by decide), zg_na (by decide), zg_ne (by omega)]; exact z.1, by rw [zg_na (by decide), zg_na (by decide), zg_ne (by omega), zg_na (by decide)]; exact z.2.1, by rw [zg_na (by decide), zg_ne (by omega), zg_na (by decide), zg_na (by decide)]; exact z.2.2⟩
  · rw [zg_na (by decide), zg_na (by decide), zg_na (by decide), zg_na (by decide)]; exact hD.2.2.2.2.1
  · rw [zg_na (by decide), zg_na (by decide), zg_na (by decide), zg_na (by decide)]; exact hD.2.2.2.2.2 i hi
theorem MD_ship {v x : zV} {k h p : Int} (h5 : D.nk < 5) (n0 : 0 ≤ D.nk) (hD : MD D v) (kr : -2147483648 ≤ k ∧ k < 2147483648) (hr : -2147483648 ≤ h ∧ h < 2147483648) (pr : -2147483648 ≤ p ∧ p < 2147483648) (hx : ∀ a q, 82 ≤ a → a ≤ 90 → x a q = zu (zu (zu (zu v 87 (5 + D.nk) (zI k)) 88 (5 + D.nk) (zI h)) 89 (5 + D.nk) (zI p)) 82 6 (zI (D.nk + 1)) a q) : MD (DrK D k h p) x := by
  refine MD_w (v := zu (zu (zu (zu v 87 (5 + D.nk) (zI k)) 88 (5 + D.nk) (zI h)) 89 (5 + D.nk) (zI p)) 82 6 (zI (D.nk + 1))) hx ?_
  refine ⟨⟨?_, ?_, ?_⟩, fun i i0 i1 => ?_, fun i i0 i1 => ?_, fun i i0 i1 => ?_, ?_, fun i hi => ?_⟩
  · rw [zg_ne (by omega), zg_na (by decide), zg_na (by decide), zg_na (by decide)]; exact hD.1.1
  · rw [zg_ne (by omega), zg_na (by decide), zg_na (by decide), zg_na (by decide)]; exact hD.1.2.1
  · rw [zg_same (by omega)]; rfl
  · have z := hD.2.1 i i0 i1
    exact ⟨by rw [zg_na (by decide), zg_na (by decide), zg_na (by decide), zg_na (by decide)]; exact z.1, by rw [zg_na (by decide), zg_na (by decide), zg_na (by decide), zg_na (by decide)]; exact z.2⟩
  · have z := hD.2.2.1 i i0 i1
    exact ⟨by rw [zg_na (by decide), zg_na (by decide), zg_na (by decide), zg_na (by decide)]; exact z.1, by rw [zg_na (by decide), zg_na (by decide), zg_na (by decide), zg_na (by decide)]; exact z.2⟩
  · have i1 : i < D.nk + 1 := i1
    show zg _ 87 (5 + i) = fu D.kind D.nk k i ∧ zg _ 88 (5 + i) = fu D.hold D.nk h i ∧ zg _ 89 (5 + i) = fu D.home D.nk p i
    by_cases e : i = D.nk
    · rw [e, fu_same, fu_same, fu_same]
      exact ⟨by rw [zg_na (by decide), zg_na (by decide), zg_na (by decide), zg_same kr], by rw [zg_na (by decide), zg_na (by decide), zg_same hr], by rw [zg_na (by decide), zg_same pr]⟩
    · rw [fu_ne e, fu_ne e, fu_ne e]
      have z := hD.2.2.2.1 i i0 (by omega)
      exact ⟨by rw [zg_na (by decide), zg_na (by decide), zg_na (by decide), zg_ne (by omega)]; exact z.1, by rw [zg_na (by decide), zg_na (by decide), zg_ne (by omega), zg_na (by decide)]; exact z.2.1, by rw [zg_na (by decide), zg_ne (by omega), zg_na (by decide), zg_na (by decide)]; exact z.2.2⟩
  · rw [zg_ne (by omega), zg_na (by decide), zg_na (by decide), zg_na (by decide)]; exact hD.2.2.2.2.1
  · rw [zg_na (by decide), zg_na (by decide), zg_na (by decide), zg_na (by decide)]; exact hD.2.2.2.2.2 i hi
theorem c75 {d : Nat} {v : zV} {u : zU} {k h p : Int} (h5 : D.nk < 5) (n0 : 0 ≤ D.nk) (hD : CD D v) (kr : -2147483648 ≤ k ∧ k < 2147483648) (hr : -2147483648 ≤ h ∧ h < 2147483648) (pr : -2147483648 ≤ p ∧ p < 2147483648) : zEv sc 75 d 0 [.ref 4, .int (zI k), .int (zI h), .int (zI p)] [] (zmk v u) 0 0 (zPv fun x t => (CD (DrK D k h p) x ∧ ∀ a q, ¬ (4 ≤ a ∧ a ≤ 13) → x a q = v a q) ∧ u = t) := by
  have hn := hD.1.2.2
  refine e_al0 o75_0 (e_gI o75_1 L4 rfl 10 rfl (e_ico o75_4 ?_))
  rw [hn]
  refine e_ic_ge o75_5 48 rfl (by first | exact zg_rg _ _ _ | exact zt_rg _ | omega) (by first | exact zg_rg _ _ _ | exact zt_rg _ | omega) (fun hb5 => ?_) (fun hb5 => ?_)
  · omega
  · refine e_al0 o75_8 (e_gR o75_9 L4 rfl rfl (e_al0 o75_12 (e_gI o75_13 L4 rfl 10 rfl ?_)))
    rw [hn]
    refine e_il1 o75_16 (e_iast o75_17 L9 (by omega) (by omega) (e_al0 o75_18 (e_gR o75_19 L4 rfl rfl (e_al0 o75_22 (e_gI o75_23 L4 rfl 10 rfl ?_)))))
    rw [zg_na (by decide), hn]
    refine e_il2 o75_26 (e_iast o75_27 L10 (by omega) (by omega) (e_al0 o75_28 (e_gR o75_29 L4 rfl rfl (e_al0 o75_32 (e_gI o75_33 L4 rfl 10 rfl ?_)))))
    rw [zg_na (by decide), zg_na (by decide), hn]
    refine e_il3 o75_36 (e_iast o75_37 L11 (by omega) (by omega) (e_al0 o75_38 (e_dupR o75_39 (e_gI o75_40 L4 rfl 10 rfl (e_ico o75_43 ?_)))))
    rw [zg_na (by decide), zg_na (by decide), zg_na (by decide), hn]
    refine e_add o75_44 (e_pI o75_45 L4 rfl rfl rfl rfl 10 rfl ?_)
    refine e_rV o75_48 K75 rfl rfl ?_
    exact ⟨⟨CD_ship h5 n0 hD kr hr pr, fun a q g => by rw [zu_ne (by omega), zu_ne (by omega), zu_ne (by omega), zu_ne (by omega)]⟩, rfl⟩
theorem LNship {e k : Int} (hB : DB D) (n6 : N ≤ 600) (e0 : 0 ≤ e) (e1 : e ≤ N) (hk : ¬ tk B N e = 0) (hl : (D.L.length : Int) ≤ e) (k0 : 0 ≤ k) (k3 : k ≤ 3) : ∃ o, gLn N e (fun L => L = D.L) o ∧ (∀ (d : Nat) v u, 20 ≤ d → CL B N D v e → zEv sc 96 d 0 [.ref 1, .int (zI k), zJ] [] (zmk v u) 0 0 (zPi fun y w t => kOut B N o v w y ∧ u = t)) ∧ (∀ (d : Nat) v u, 20 ≤ d → ML B N D v e → zEv sc 143 d 0 [.ref 79, .int (zI k), zJ] [] (zmk v u) 0 0 (zPv fun w t => rOut B N o v w ∧ u = t)) := by
  have h1 := ts_in (B := B) e1
  have h2 := te_in (B := B) e1
  have h3 := h2.2.2.1 hk
  have b0 := hB.1
  have b2 := hB.2.2.1
  have f21 : ∀ {v w1 : zV}, FRm v w1 → zg v 79 21 = 0 → zg w1 79 21 = 0 := fun h h' => by simp only [zg]; rw [h 79 21 (by omega)]; exact h'
  have f82 : ∀ {v w1 : zV} q, FRm v w1 → zg w1 82 q = zg v 82 q := fun q h => by simp only [zg]; rw [h 82 q (by omega)]
  by_cases h5 : D.nk = 5
  · refine ⟨.bad 2 (ts B N e), ⟨by omega, by omega, by omega, by omega⟩, ?_, ?_⟩
    · intro d v u hd hP
      obtain ⟨hT, hC, hD⟩ := hP
      have hn := hD.1.2.2
      refine e_il1 o96_0 (e_ico o96_1 (e_ic_ne o96_2 11 rfl (by first | exact zg_rg _ _ _ | exact zt_rg _ | omega) (by first | exact zg_rg _ _ _ | exact zt_rg _ | omega) (fun hb2 => ?_) (fun hb2 => ?_)))
      · refine e_al0 o96_11 (e_gR o96_12 L1 rfl rfl (e_gI o96_15 L4 rfl 10 rfl (e_ico o96_18 ?_)))
        rw [hn]
        refine e_ic_lt o96_19 28 rfl (by first | exact zg_rg _ _ _ | exact zt_rg _ | omega) (by first | exact zg_rg _ _ _ | exact zt_rg _ | omega) (fun hb19 => ?_) (fun hb19 => ?_)
        · omega
        · refine e_al0 o96_22 (e_ico o96_23 (e_Vi1 o96_24 K96 K81 rfl ⟨rfl, rfl⟩ (zrcv_I L1 rfl) (by omega) rfl (c81 (c := 2) hC e1 (by omega)) ?_))
          rintro _ _ _ ⟨rfl, rfl, rfl⟩
          refine e_rI o96_27 K96 rfl rfl ?_
          exact ⟨bad_c (o := 0) FD4_r (by omega) (by omega), rfl⟩
      · omega
    · intro d v u hd hP
      obtain ⟨hT, hR, hb, hD⟩ := hP
      have hn := hD.1.2.2
      have w1 : ¬ zg (zu (zu v 79 21 (zI 2)) 79 22 (zI (ts B N e))) 79 21 = 0 := by rw [zg_ne (by omega), zg_same (by omega)]; omega
      refine e_al0 o143_0 (e_gR o143_1 L79 rfl rfl (e_bip o143_4 rfl (e_ial o143_6 L82 (by omega) (by omega) (e_ico o143_7 ?_))))
      rw [hn]
      refine e_ic_ne o143_8 16 rfl (by first | exact zg_rg _ _ _ | exact zt_rg _ | omega) (by first | exact zg_rg _ _ _ | exact zt_rg _ | omega) (fun hb8 => ?_) (fun hb8 => ?_)
      · omega
      · refine e_al0 o143_11 (e_ico o143_12 (e_Vv1 o143_13 K143 K142 rfl ⟨rfl, rfl⟩ (zrcv_I L79 rfl) (by omega) rfl (m142 hb) ?_))
        rintro _ _ ⟨rfl, rfl⟩
        rw [hR.2.1]
        refine e_al0 o143_16 (e_gI o143_17 L79 rfl 21 rfl (e_if_eq o143_20 24 rfl (by first | exact zg_rg _ _ _ | exact zt_rg _ | omega) (fun hb20 => ?_) (fun hb20 => ?_)))
        · exact absurd hb20 w1
        · refine e_rV o143_23 K143 rfl rfl ?_
          exact ⟨bad_m FQ4_r (by omega) (by omega), rfl⟩
  · have h6 : D.nk < 5 := by omega
    obtain ⟨E1, hE1⟩ : ∃ x, x = te B N e := ⟨_, rfl⟩
    rw [← hE1] at h2 h3
    have e1' : E1 ≤ N := by omega
    have k1 := ts_in (B := B) e1'
    have k2 := te_in (B := B) e1'
    have nr := nF_rg (B := B) (N := N) (e := E1) (a := 1) (b := 8)
    have cgo : ∀ (d : Nat) v u Q, 20 ≤ d → CL B N D v e → (∀ w, FC v w → CT B N w E1 → zEv sc 96 d 35 [.ref 1, .int (zI k), zJ] [] (zmk w u) 0 0 Q) → zEv sc 96 d 0 [.ref 1, .int (zI k), zJ] [] (zmk v u) 0 0 Q := by
      intro d v u Q hd hP k
      obtain ⟨hT, hC, hD⟩ := hP
      have hn := hD.1.2.2
      refine e_il1 o96_0 (e_ico o96_1 (e_ic_ne o96_2 11 rfl (by first | exact zg_rg _ _ _ | exact zt_rg _ | omega) (by first | exact zg_rg _ _ _ | exact zt_rg _ | omega) (fun hb2 => ?_) (fun hb2 => ?_)))
      · refine e_al0 o96_11 (e_gR o96_12 L1 rfl rfl (e_gI o96_15 L4 rfl 10 rfl (e_ico o96_18 ?_)))
        rw [hn]
        refine e_ic_lt o96_19 28 rfl (by first | exact zg_rg _ _ _ | exact zt_rg _ | omega) (by first | exact zg_rg _ _ _ | exact zt_rg _ | omega) (fun hb19 => ?_) (fun hb19 => ?_)
        · refine e_al0 o96_28 (e_gR o96_29 L1 rfl rfl (e_Vv0 o96_32 K96 K34 rfl ⟨rfl, rfl⟩ (zrcv_I L2 rfl) (by omega) rfl (c34 (e := E1) (by omega) hT (by rw [hE1]; exact hC.2.2.1) (by omega) (by omega)) ?_))
          rintro w1 u' ⟨⟨r1, r2⟩, rfl⟩
          exact k w1 r1 r2
        · omega
      · omega
    have mgo : ∀ (d : Nat) v u Q, 20 ≤ d → ML B N D v e → (∀ w, FRm v w → RT B N w E1 → zEv sc 143 d 45 [.ref 79, .int (zI k), .int (zI (5 + D.nk))] [] (zmk (zu w 87 (5 + D.nk) (zI k)) u) 0 0 Q) → zEv sc 143 d 0 [.ref 79, .int (zI k), zJ] [] (zmk v u) 0 0 Q := by
      intro d v u Q hd hP kk
      obtain ⟨hT, hR, hb, hD⟩ := hP
      have hn := hD.1.2.2
      refine e_al0 o143_0 (e_gR o143_1 L79 rfl rfl (e_bip o143_4 rfl (e_ial o143_6 L82 (by omega) (by omega) (e_ico o143_7 ?_))))
      rw [hn]
      refine e_ic_ne o143_8 16 rfl (by first | exact zg_rg _ _ _ | exact zt_rg _ | omega) (by first | exact zg_rg _ _ _ | exact zt_rg _ | omega) (fun hb8 => ?_) (fun hb8 => ?_)
      · refine e_al0 o143_16 (e_gI o143_17 L79 rfl 21 rfl ?_)
        rw [hb]
        refine e_if_eq o143_20 24 rfl (by first | exact zg_rg _ _ _ | exact zt_rg _ | omega) (fun hb20 => ?_) (fun hb20 => ?_)
        · refine e_al0 o143_24 (e_Vv0 o143_25 K143 K134 rfl ⟨rfl, rfl⟩ (zrcv_I L79 rfl) (by omega) rfl (m134 (e := E1) (by omega) hT (by rw [hE1]; exact hR.2.2.2.1) (by omega) (by omega)) ?_)
          rintro w1 u' ⟨⟨r1, r2⟩, rfl⟩
          refine e_ico o143_28 (e_al0 o143_29 (e_gR o143_30 L79 rfl rfl (e_bip o143_33 rfl (e_ial o143_35 L82 (by omega) (by omega) ?_))))
          rw [f82 6 r1, hn]
          refine e_add o143_36 (e_is2 o143_37 (e_al0 o143_38 (e_gR o143_39 L79 rfl rfl (e_il2 o143_42 (e_il1 o143_43 (e_iast o143_44 L87 (by omega) (by omega) ?_))))))
          exact kk w1 r1 r2
        · omega
      · omega
    have RT87 : ∀ {w : zV} {e a : Int} {c : Nat} {z : Int32}, ¬ c = 79 → RT B N w e → RT B N (zu w c a z) e := by
      intro w e a c z hc h
      unfold RT at h ⊢
      have z79 : ∀ q, zg (zu w c a z) 79 q = zg w 79 q := fun q => zg_na (by omega)
      rw [z79, z79, z79, z79, z79]
      exact h
    by_cases hf : nF B N E1 1 8 = 0
    · obtain ⟨x1, x2, x3, x4⟩ := nF_0 hf
      have k4 := k2.2.2.1 (by omega)
      obtain ⟨E2, hE2⟩ : ∃ x, x = te B N E1 := ⟨_, rfl⟩
      rw [← hE2] at k2 k4
      have e2' : E2 ≤ N := by omega
      have j1 := ts_in (B := B) e2'
      have j2 := te_in (B := B) e2'
      have pr := pF_rg (B := B) (N := N) (e := E2) (np := D.np)
      have cgo2 : ∀ (d : Nat) v u Q, 20 ≤ d → CL B N D v e → (∀ w, CS4 v w → CT B N w E2 → zEv sc 96 d 52 [.ref 1, .int (zI k), .int (zI (tn B N E1))] [] (zmk w u) 0 0 Q) → zEv sc 96 d 0 [.ref 1, .int (zI k), zJ] [] (zmk v u) 0 0 Q := by
        intro d v u Q hd hP kk
        refine cgo d v u Q hd hP (fun w hF hC => ?_)
        refine e_al0 o96_35 (e_ico o96_36 (e_bip o96_37 rfl (e_Vi2 o96_39 K96 K82 rfl ⟨rfl, rfl⟩ (zrcv_I L1 rfl) (by omega) rfl (c82 (least := 1) (top := 8) (by omega) (TXc_4 hP.1 (FC_4 hF)) hC (by omega) e1' (by omega) (by omega)) ?_)))
        rintro _ w2 u' ⟨⟨_, rfl, o3, o4, o5⟩ | ⟨o1, _⟩, rfl⟩
        rotate_left
        exact absurd hf o1
        refine e_if_ne o96_42 47 rfl (by first | exact zg_rg _ _ _ | exact zt_rg _ | omega) (fun hb42 => ?_) (fun hb42 => ?_)
        · refine e_al0 o96_47 (e_gI o96_48 L1 rfl 4 rfl ?_)
          rw [o5]
          refine e_is2 o96_51 ?_
          exact kk w2 (CS4_t (FC_CS4 hF) o3) (by rw [hE2]; exact o4)
        · omega
      have mgo2 : ∀ (d : Nat) v u Q, 20 ≤ d → ML B N D v e → (∀ w, FQ4 v w → (∀ a q, 82 ≤ a → a ≤ 90 → w a q = zu (zu v 87 (5 + D.nk) (zI k)) 88 (5 + D.nk) (zI (tn B N E1)) a q) → zg w 79 21 = 0 → RT B N w E2 → zEv sc 143 d 58 [.ref 79, .int (zI k), .int (zI (5 + D.nk))] [] (zmk w u) 0 0 Q) → zEv sc 143 d 0 [.ref 79, .int (zI k), zJ] [] (zmk v u) 0 0 Q := by
        intro d v u Q hd hP kk
        refine mgo d v u Q hd hP (fun w f1 hR => ?_)
        obtain ⟨hT, hR0, hb, hD⟩ := hP
        have hb' : zg (zu w 87 (5 + D.nk) (zI k)) 79 21 = 0 := by rw [zg_na (by decide)]; exact f21 f1 hb
        have hT' : TXm B N (zu w 87 (5 + D.nk) (zI k)) := TXm_w (TXm_4 hT (FRm_4 f1)) (fun q => zu_ne (by omega)) (zu_ne (by omega))
        refine e_al0 o143_45 (e_gR o143_46 L79 rfl rfl (e_il2 o143_49 (e_al0 o143_50 (e_ico o143_51 (e_bip o143_52 rfl (e_Vi2 o143_54 K143 K144 rfl ⟨rfl, rfl⟩ (zrcv_I L79 rfl) (by omega) rfl (m144 (least := 1) (top := 8) (by omega) hb' hT' (RT87 (by decide) hR) (by omega) e1' (by omega) (by omega)) ?_))))))
        rintro _ w2 u' ⟨⟨_, rfl, o3, o4⟩ | ⟨o1, _⟩, rfl⟩
        rotate_left
        exact absurd hf o1
        refine e_iast o143_57 L88 (by omega) (by omega) ?_
        refine kk _ (fun a q g1 g2 g3 g4 g5 g6 => by rw [zu_ne (by omega), o3 a q (by omega), zu_ne (by omega), f1 a q (by omega)]) (fun a q g1 g2 => ?_) (by rw [zg_na (by decide)]; exact f21 o3 hb') (RT87 (by decide) (by rw [hE2]; exact o4))
        by_cases z : a = 88 ∧ q = 5 + D.nk
        · obtain ⟨rfl, rfl⟩ := z; rw [zu_same, zu_same]
        · rw [zu_ne z, zu_ne z, o3 a q (by omega)]
          by_cases z2 : a = 87 ∧ q = 5 + D.nk
          · obtain ⟨rfl, rfl⟩ := z2; rw [zu_same, zu_same]
          · rw [zu_ne z2, zu_ne z2, f1 a q (by omega)]
      have n82 : ∀ {v w : zV} q, (∀ a q, 82 ≤ a → a ≤ 90 → w a q = zu (zu v 87 (5 + D.nk) (zI k)) 88 (5 + D.nk) (zI (tn B N E1)) a q) → zg w 82 q = zg v 82 q := fun q h => by simp only [zg]; rw [h 82 q (by omega) (by omega), zu_ne (by omega), zu_ne (by omega)]
      by_cases hp : pF B N E2 D.np = 0
      · obtain ⟨q1, q2, q3⟩ := pF_0 e2' hp
        have j3 := j2.2.2.1 (by omega)
        have hb1 := tn_bd e2' q1
        refine ⟨.ok (te B N E2) (DrK D k (tn B N E1) (tn B N E2)), ⟨by omega, by omega, DrK_B hB h6 k0 k3 (by omega) (by omega) q2 q3, by show (D.L.length : Int) ≤ _; omega, rfl⟩, ?_, ?_⟩
        · intro d v u hd hP
          refine cgo2 d v u _ hd hP (fun w hS hC => ?_)
          have hD' : CD D w := CD_w (fun a q g1 g2 => hS a q (by omega) (by omega)) hP.2.2
          refine e_al0 o96_52 (e_Vi0 o96_53 K96 K84 rfl ⟨rfl, rfl⟩ (zrcv_I L1 rfl) (by omega) rfl (c84 (D := D) (by omega) (TXc_4 hP.1 (CS4_4 hS)) hC (by omega) e2' hD'.1.1 b0) ?_)
          rintro _ w2 u' ⟨⟨_, rfl, o3, o4, o5⟩ | ⟨o1, _⟩, rfl⟩
          rotate_left
          exact absurd hp o1
          refine e_if_ne o96_56 61 rfl (by first | exact zg_rg _ _ _ | exact zt_rg _ | omega) (fun hb56 => ?_) (fun hb56 => ?_)
          · refine e_al0 o96_61 (e_gR o96_62 L1 rfl rfl (e_il1 o96_65 (e_il2 o96_66 (e_al0 o96_67 (e_gI o96_68 L1 rfl 4 rfl ?_)))))
            rw [o5]
            refine e_Vv3 o96_71 K96 K75 rfl ⟨rfl, rfl⟩ (zrcv_I L4 rfl) (by omega) rfl (c75 h6 b2.1 (CD_w (fun a q g1 g2 => o3 a q (by omega) (by omega)) hD') (by omega) (by omega) (by omega)) ?_
            rintro w3 u' ⟨⟨r1, r2⟩, rfl⟩
            refine e_ico o96_74 ?_
            refine e_rI o96_75 K96 rfl rfl ?_
            refine ⟨⟨rfl, FD4_t (CS4_4 (CS4_t hS o3)) (fun a q g1 g2 g3 => r2 a q g3), ?_, r1⟩, rfl⟩
            unfold CT at o4 ⊢
            rw [show zg w3 2 = zg w2 2 from zg_fn fun q => r2 2 q (by omega)]
            exact o4
          · omega
        · intro d v u hd hP
          refine mgo2 d v u _ hd hP (fun w f1 f2 hb' hR => ?_)
          obtain ⟨hT, hR0, hb, hD⟩ := hP
          have hT' := TXm_4 hT f1
          refine e_al0 o143_58 (e_gR o143_59 L79 rfl rfl (e_il2 o143_62 (e_al0 o143_63 (e_Vi0 o143_64 K143 K146 rfl ⟨rfl, rfl⟩ (zrcv_I L79 rfl) (by omega) rfl (m146 (D := D) (by omega) hb' hT' hR (by omega) e2' (by rw [n82 4 f2]; exact hD.1.1) b0) ?_))))
          rintro _ w2 u' ⟨⟨_, rfl, o3, o4⟩ | ⟨o1, _⟩, rfl⟩
          rotate_left
          exact absurd hp o1
          refine e_iast o143_67 L89 (by omega) (by omega) (e_al0 o143_68 (e_gR o143_69 L79 rfl rfl (e_bip o143_72 rfl (e_dup2 o143_74 (e_ial o143_75 L82 (by omega) (by omega) ?_)))))
          rw [zg_na (by decide), f82 6 o3, n82 6 f2, hD.1.2.2]
          refine e_ico o143_76 (e_add o143_77 (e_iast o143_78 L82 (by omega) (by omega) ?_))
          refine e_rV o143_79 K143 rfl rfl ?_
          refine ⟨⟨FQ4_t f1 (fun a q g1 g2 g3 g4 g5 g6 => by rw [zu_ne (by omega), zu_ne (by omega), o3 a q (by omega)]), ?_, RT87 (by decide) (RT87 (by decide) o4), ?_⟩, rfl⟩
          · rw [zg_na (by decide), zg_na (by decide)]; exact f21 o3 hb'
          · refine MD_ship h6 b2.1 hD (by omega) (by omega) (by omega) (fun a q g1 g2 => ?_)
            by_cases z : a = 82 ∧ q = 6
            · obtain ⟨rfl, rfl⟩ := z; rw [zu_same, zu_same]
            · rw [zu_ne z, zu_ne z]
              by_cases z2 : a = 89 ∧ q = 5 + D.nk
              · obtain ⟨rfl, rfl⟩ := z2; rw [zu_same, zu_same]
              · rw [zu_ne z2, zu_ne z2, o3 a q (by omega), f2 a q g1 g2]
      · refine ⟨.bad (pF B N E2 D.np) (ts B N E2), ⟨by omega, by omega, by omega, by omega⟩, ?_, ?_⟩
        · intro d v u hd hP
          refine cgo2 d v u _ hd hP (fun w hS hC => ?_)
          have hD' : CD D w := CD_w (fun a q g1 g2 => hS a q (by omega) (by omega)) hP.2.2
          refine e_al0 o96_52 (e_Vi0 o96_53 K96 K84 rfl ⟨rfl, rfl⟩ (zrcv_I L1 rfl) (by omega) rfl (c84 (D := D) (by omega) (TXc_4 hP.1 (CS4_4 hS)) hC (by omega) e2' hD'.1.1 b0) ?_)
          rintro _ w2 u' ⟨⟨o1, _⟩ | ⟨_, rfl, rfl⟩, rfl⟩
          exact absurd o1 hp
          refine e_if_ne o96_56 61 rfl (by first | exact zg_rg _ _ _ | exact zt_rg _ | omega) (fun hb56 => ?_) (fun hb56 => ?_)
          · omega
          · refine e_ico o96_59 ?_
            refine e_rI o96_60 K96 rfl rfl ?_
            exact ⟨bad_c (o := 0) (CS4_4 hS) (by omega) (by omega), rfl⟩
        · intro d v u hd hP
          refine mgo2 d v u _ hd hP (fun w f1 f2 hb' hR => ?_)
          obtain ⟨hT, hR0, hb, hD⟩ := hP
          have hT' := TXm_4 hT f1
          refine e_al0 o143_58 (e_gR o143_59 L79 rfl rfl (e_il2 o143_62 (e_al0 o143_63 (e_Vi0 o143_64 K143 K146 rfl ⟨rfl, rfl⟩ (zrcv_I L79 rfl) (by omega) rfl (m146 (D := D) (by omega) hb' hT' hR (by omega) e2' (by rw [n82 4 f2]; exact hD.1.1) b0) ?_))))
          rintro _ w2 u' ⟨⟨o1, _⟩ | ⟨_, rfl, rfl⟩, rfl⟩
          exact absurd o1 hp
          refine e_iast o143_67 L89 (by omega) (by omega) (e_al0 o143_68 (e_gR o143_69 L79 rfl rfl (e_bip o143_72 rfl (e_dup2 o143_74 (e_ial o143_75 L82 (by omega) (by omega) ?_)))))
          rw [zg_na (by decide), zg_na (by decide), zg_na (by decide), n82 6 f2, hD.1.2.2]
          refine e_ico o143_76 (e_add o143_77 (e_iast o143_78 L82 (by omega) (by omega) ?_))
          refine e_rV o143_79 K143 rfl rfl ?_
          refine ⟨rOut_t (bad_m f1 (by omega) (by omega)) (fun a q g1 g2 g3 g4 g5 g6 => by rw [zu_ne (by omega), zu_ne (by omega)]) (by rw [zu_ne (by omega), zu_ne (by omega)]) (by rw [zu_ne (by omega), zu_ne (by omega)]), rfl⟩
    · refine ⟨.bad (nF B N E1 1 8) (ts B N E1), ⟨by omega, by omega, by omega, by omega⟩, ?_, ?_⟩
      · intro d v u hd hP
        refine cgo d v u _ hd hP (fun w hF hC => ?_)
        refine e_al0 o96_35 (e_ico o96_36 (e_bip o96_37 rfl (e_Vi2 o96_39 K96 K82 rfl ⟨rfl, rfl⟩ (zrcv_I L1 rfl) (by omega) rfl (c82 (least := 1) (top := 8) (by omega) (TXc_4 hP.1 (FC_4 hF)) hC (by omega) e1' (by omega) (by omega)) ?_)))
        rintro _ w2 u' ⟨⟨o1, _⟩ | ⟨_, rfl, rfl⟩, rfl⟩
        exact absurd o1 hf
        refine e_if_ne o96_42 47 rfl (by first | exact zg_rg _ _ _ | exact zt_rg _ | omega) (fun hb42 => ?_) (fun hb42 => ?_)
        · omega
        · refine e_ico o96_45 ?_
          refine e_rI o96_46 K96 rfl rfl ?_
          exact ⟨bad_c (o := 0) (FC_4 hF) (by omega) (by omega), rfl⟩
      · intro d v u hd hP
        refine mgo d v u _ hd hP (fun w f1 hR => ?_)
        obtain ⟨hT, hR0, hb, hD⟩ := hP
        have hb' : zg (zu w 87 (5 + D.nk) (zI k)) 79 21 = 0 := by rw [zg_na (by decide)]; exact f21 f1 hb
        have hT' : TXm B N (zu w 87 (5 + D.nk) (zI k)) := TXm_w (TXm_4 hT (FRm_4 f1)) (fun q => zu_ne (by omega)) (zu_ne (by omega))
        refine e_al0 o143_45 (e_gR o143_46 L79 rfl rfl (e_il2 o143_49 (e_al0 o143_50 (e_ico o143_51 (e_bip o143_52 rfl (e_Vi2 o143_54 K143 K144 rfl ⟨rfl, rfl⟩ (zrcv_I L79 rfl) (by omega) rfl (m144 (least := 1) (top := 8) (by omega) hb' hT' (RT87 (by decide) hR) (by omega) e1' (by omega) (by omega)) ?_))))))
        rintro _ w2 u' ⟨⟨o1, _⟩ | ⟨_, rfl, rfl⟩, rfl⟩
        exact absurd o1 hf
        refine e_iast o143_57 L88 (by omega) (by omega) (e_al0 o143_58 (e_gR o143_59 L79 rfl rfl (e_il2 o143_62 (e_al0 o143_63 (e_Vi0 o143_64 K143 K146 rfl ⟨rfl, rfl⟩ (zrcv_I L79 rfl) (by omega) rfl (m146_d (by omega) (by rw [zg_na (by decide), zg_ne (by omega), zg_same (by omega)]; omega)) ?_)))))
        rintro _ _ _ ⟨rfl, rfl, rfl⟩
        refine e_iast o143_67 L89 (by omega) (by omega) (e_al0 o143_68 (e_gR o143_69 L79 rfl rfl (e_bip o143_72 rfl (e_dup2 o143_74 (e_ial o143_75 L82 (by omega) (by omega) ?_)))))
        rw [zg_na (by decide), zg_na (by decide), zg_na (by decide), zg_na (by decide), zg_na (by decide), f82 6 f1, hD.1.2.2]
        refine e_ico o143_76 (e_add o143_77 (e_iast o143_78 L82 (by omega) (by omega) ?_))
        refine e_rV o143_79 K143 rfl rfl ?_
        refine ⟨rOut_t (bad_m (w := zu w 87 (5 + D.nk) (zI k)) (FQ4_t (FRm_4 f1) (fun a q g1 g2 g3 g4 g5 g6 => zu_ne (by omega))) (by omega) (by omega)) (fun a q g1 g2 g3 g4 g5 g6 => by rw [zu_ne (by omega), zu_ne (by omega), zu_ne (by omega)]) (by rw [zu_ne (by omega), zu_ne (by omega), zu_ne (by omega)]) (by rw [zu_ne (by omega), zu_ne (by omega), zu_ne (by omega)]), rfl⟩
end
