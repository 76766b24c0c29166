/-! tests and nots -/
section
variable {sc : Nat × (Nat → Int32)} {B : Int → Int} {N : Int}
theorem m156_d {d : Nat} {v : zV} {u : zU} {p : Int} (h : ¬ zg v 79 21 = 0) : zEv sc 156 d 0 [.ref 79, .int (zI p), zJ] [] (zmk v u) 0 0 (zdo v u) := by
  refine e_al0 o156_0 (e_gI o156_1 L79 rfl 21 rfl (e_if_eq o156_4 8 rfl (by first | exact zg_rg _ _ _ | exact zt_rg _ | omega) (fun hb4 => ?_) (fun hb4 => ?_)))
  · exact absurd hb4 h
  · refine e_rV o156_7 K156 rfl rfl ?_
    exact ⟨rfl, rfl⟩
theorem m155_d {d : Nat} {v : zV} {u : zU} {p : Int} (hd : 2 ≤ d) (h : ¬ zg v 79 21 = 0) : zEv sc 155 d 0 [.ref 79, .int (zI p), zJ] [] (zmk v u) 0 0 (zdo v u) := by
  refine e_al0 o155_0 (e_il1 o155_1 (e_Vv1 o155_2 K155 K156 rfl ⟨rfl, rfl⟩ (zrcv_I L79 rfl) (by omega) rfl (m156_d h) ?_))
  rintro _ _ ⟨rfl, rfl⟩
  refine e_al0 o155_5 (e_bip o155_6 rfl (e_Vi1 o155_8 K155 K151 rfl ⟨rfl, rfl⟩ (zrcv_I L79 rfl) (by omega) rfl (m151_d h) ?_))
  rintro _ _ _ ⟨rfl, rfl, rfl⟩
  refine e_if_ne o155_11 23 rfl (by first | exact zg_rg _ _ _ | exact zt_rg _ | omega) (fun hb11 => ?_) (fun hb11 => ?_)
  · omega
  · refine e_al0 o155_14 (e_bip o155_15 rfl (e_Vi1 o155_17 K155 K151 rfl ⟨rfl, rfl⟩ (zrcv_I L79 rfl) (by omega) rfl (m151_d h) ?_))
    rintro _ _ _ ⟨rfl, rfl, rfl⟩
    refine e_if_eq o155_20 57 rfl (by first | exact zg_rg _ _ _ | exact zt_rg _ | omega) (fun hb20 => ?_) (fun hb20 => ?_)
    · refine e_rV o155_57 K155 rfl rfl ?_
      exact ⟨rfl, rfl⟩
    · omega
theorem m154_d {d : Nat} {v : zV} {u : zU} {p : Int} (hd : 3 ≤ d) (h : ¬ zg v 79 21 = 0) : zEv sc 154 d 0 [.ref 79, .int (zI p), zJ] [] (zmk v u) 0 0 (zdo v u) := by
  refine e_al0 o154_0 (e_il1 o154_1 (e_Vv1 o154_2 K154 K155 rfl ⟨rfl, rfl⟩ (zrcv_I L79 rfl) (by omega) rfl (m155_d (by omega) h) ?_))
  rintro _ _ ⟨rfl, rfl⟩
  refine e_al0 o154_5 (e_bip o154_6 rfl (e_Vi1 o154_8 K154 K151 rfl ⟨rfl, rfl⟩ (zrcv_I L79 rfl) (by omega) rfl (m151_d h) ?_))
  rintro _ _ _ ⟨rfl, rfl, rfl⟩
  refine e_if_ne o154_11 23 rfl (by first | exact zg_rg _ _ _ | exact zt_rg _ | omega) (fun hb11 => ?_) (fun hb11 => ?_)
  · omega
  · refine e_al0 o154_14 (e_bip o154_15 rfl (e_Vi1 o154_17 K154 K151 rfl ⟨rfl, rfl⟩ (zrcv_I L79 rfl) (by omega) rfl (m151_d h) ?_))
    rintro _ _ _ ⟨rfl, rfl, rfl⟩
    refine e_if_eq o154_20 57 rfl (by first | exact zg_rg _ _ _ | exact zt_rg _ | omega) (fun hb20 => ?_) (fun hb20 => ?_)
    · refine e_rV o154_57 K154 rfl rfl ?_
      exact ⟨rfl, rfl⟩
    · omega
/-- a test: in the reference a stretch of its nots -/
theorem LVtest {p e : Int} (n6 : N ≤ 600) (p0 : 0 ≤ p) (p5 : p ≤ 5) (e0 : 0 ≤ e) (e1 : e ≤ N) (HP : ∀ e', e ≤ e' → 0 ≤ e' → e' ≤ N → LV sc B N 90 154 [zJ, zJ, zJ] [zJ] (8 * (6 - p) + 14) 2 p e') : ∃ o, gOut B N e p 3 o ∧ (∀ (d : Nat) v u, 8 * (6 - p) + 15 ≤ (d : Int) → CPre B N v e → zEv sc 89 d 0 [.ref 1, .int (zI p), zJ, zJ] [] (zmk v u) 0 0 (zPi fun y w t => cOut B N o v w y ∧ u = t)) ∧ (∀ (d : Nat) v u n x3 Q, 8 * (6 - p) + 15 ≤ (d : Int) → MPre B N v e → (∀ w x3', mOut B N o v w → zEv sc 153 d 93 [.ref 79, .int (zI p), .int (zI n), x3'] [] (zmk w u) 0 0 Q) → zEv sc 153 d 39 [.ref 79, .int (zI p), .int (zI n), x3] [] (zmk v u) 0 0 Q) := by
  obtain ⟨o1, g1, hc, hm⟩ := HP e (by omega) e0 e1
  cases o1 using PO_c with
  | bad c q =>
    refine ⟨.bad c q, g1, ?_, ?_⟩
    · intro d v u hd hP
      refine e_al0 o89_0 (e_il1 o89_1 (e_Vi1 o89_2 K89 K90 rfl ⟨rfl, rfl⟩ (zrcv_I L1 rfl) (by omega) rfl (hc (d - 1) v u (by omega) hP) ?_))
      rintro y w u' ⟨⟨rfl, a2, a3⟩, rfl⟩
      refine e_if_ne o89_5 10 rfl (by first | exact zg_rg _ _ _ | exact zt_rg _ | omega) (fun hb5 => ?_) (fun hb5 => ?_)
      · omega
      · refine e_ico o89_8 ?_
        refine e_rI o89_9 K89 rfl rfl ?_
        exact ⟨⟨rfl, a2, a3⟩, rfl⟩
    · intro d v u n x3 Q hd hP k
      have g1' := g1.1.1
      refine e_al0 o153_39 (e_il1 o153_40 (e_Vv1 o153_41 K153 K154 rfl ⟨rfl, rfl⟩ (zrcv_I L79 rfl) (by omega) rfl (hm (d - 1) v u (by omega) hP) ?_))
      rintro w u' ⟨⟨a1, a2, a3⟩, rfl⟩
      have nb : ¬ zg w 79 21 = 0 := by omega
      refine e_al0 o153_44 (e_bip o153_45 rfl (e_Vi1 o153_47 K153 K151 rfl ⟨rfl, rfl⟩ (zrcv_I L79 rfl) (by omega) rfl (m151_d nb) ?_))
      rintro _ _ _ ⟨rfl, rfl, rfl⟩
      refine e_if_ne o153_50 62 rfl (by first | exact zg_rg _ _ _ | exact zt_rg _ | omega) (fun hb50 => ?_) (fun hb50 => ?_)
      · omega
      · refine e_al0 o153_53 (e_bip o153_54 rfl (e_Vi1 o153_56 K153 K151 rfl ⟨rfl, rfl⟩ (zrcv_I L79 rfl) (by omega) rfl (m151_d nb) ?_))
        rintro _ _ _ ⟨rfl, rfl, rfl⟩
        refine e_if_eq o153_59 93 rfl (by first | exact zg_rg _ _ _ | exact zt_rg _ | omega) (fun hb59 => ?_) (fun hb59 => ?_)
        · exact k w _ ⟨a1, a2, a3⟩
        · omega
  | ok e2 L =>
    obtain ⟨⟨k1, k2, k3, k4, k5⟩, k6⟩ := g1
    have h1 := ts_in (B := B) k2
    have h2 := te_in (B := B) k2
    have cP : ∀ (v w : zV), CPre B N v e → FP v w → CT B N w e2 → lay13 v w L → CPre B N w e2 := by
      intro v w hP a2 a3 a4
      have l1 := a4.1
      have l2 := hP.2.2
      exact ⟨TXc_P hP.1 a2, a3, by omega, by omega⟩
    have mP : ∀ (v w : zV), MPre B N v e → FQ v w → zg w 79 21 = 0 → RT B N w e2 → lay90 v w L → MPre B N w e2 := by
      intro v w hP a1 a2 a3 a4
      have l1 := a4.1
      have l2 := hP.2.2.2
      exact ⟨TXm_Q hP.1 a1, a3, a2, by omega, by omega⟩
    by_cases hs : isS B N e2 60 = true ∨ isS B N e2 61 = true
    · have hk : tk B N e2 = 3 := by rcases hs with h | h <;> exact (isS_tk h).1
      have h3 := h2.2.2.1 (by omega)
      obtain ⟨z, hz⟩ : ∃ z : Int, (isS B N e2 60 = true ∧ z = -11) ∨ (¬ isS B N e2 60 = true ∧ isS B N e2 61 = true ∧ z = -12) := by
        by_cases h : isS B N e2 60 = true
        · exact ⟨-11, Or.inl ⟨h, rfl⟩⟩
        · exact ⟨-12, Or.inr ⟨h, by rcases hs with k | k; exact absurd k h; exact k, rfl⟩⟩
      have zr : -15 ≤ z ∧ z < -6 ∧ ¬ z = -13 := by omega
      obtain ⟨o2, g2, hc2, hm2⟩ := HP (te B N e2) (by omega) (by omega) (by omega)
      have cgo : ∀ (d : Nat) v u, 8 * (6 - p) + 15 ≤ (d : Int) → CPre B N v e → ∀ Q, (∀ w w1 w2 w' y, FP v w → lay13 v w L → CPre B N w e2 → FC w w1 → cOut B N o2 w1 w2 y → FP w2 w' → (∀ q, w' 1 q = w2 1 q) → (∀ q, w' 2 q = w2 2 q) → (0 ≤ zg w' 12 3 ∧ zg w' 12 3 ≤ 600) → (zg w2 12 3 < 600 → lay13 w2 w' [z]) → zEv sc 89 d 80 [.ref 1, .int (zI p), .int (zI z), .int y] [] (zmk w' u) 0 0 Q) → zEv sc 89 d 0 [.ref 1, .int (zI p), zJ, zJ] [] (zmk v u) 0 0 Q := by
        intro d v u hd hP Q k
        have mid : ∀ w, FP v w → CT B N w e2 → lay13 v w L → zEv sc 89 d 55 [.ref 1, .int (zI p), zJ, zJ] [.int (zI z)] (zmk w u) 0 0 Q := by
          intro w a2 a3 a4
          have hPw := cP v w hP a2 a3 a4
          refine e_is2 o89_55 (e_al0 o89_56 (e_gR o89_57 L1 rfl rfl (e_Vv0 o89_60 K89 K34 rfl ⟨rfl, rfl⟩ (zrcv_I L2 rfl) (by omega) rfl (c34 (e := te B N e2) (by omega) hPw.1 a3.2.2.1 (by omega) (by omega)) ?_)))
          rintro w1 u' ⟨⟨q1, q2⟩, rfl⟩
          refine e_al0 o89_63 (e_il1 o89_64 (e_Vi1 o89_65 K89 K90 rfl ⟨rfl, rfl⟩ (zrcv_I L1 rfl) (by omega) rfl (hc2 (d - 1) w1 u (by omega) (CPre_FC hPw q1 q2 (by omega))) ?_))
          rintro y w2 u' ⟨hO, rfl⟩
          have hl : 0 ≤ zg w2 12 3 ∧ zg w2 12 3 ≤ 600 := by have e12 := (CPre_FC hPw q1 q2 (show e2 ≤ te B N e2 by omega)).2.2; cases o2 using PO_c with | ok e' L => (have := g2.1; have := hO.2.2.2.1; omega) | bad c q => exact hO.2.2.2.2
          refine e_is3 o89_68 (e_al0 o89_69 (e_gR o89_70 L1 rfl rfl (e_gR o89_73 L4 rfl rfl (e_il2 o89_76 (e_Vv1 o89_77 K89 K41 rfl ⟨rfl, rfl⟩ (zrcv_I L12 rfl) (by omega) rfl (c41 hl (by omega)) ?_)))))
          rintro w' u' ⟨⟨r1, r2, r3, r4, r5⟩, rfl⟩
          exact k w w1 w2 w' y a2 a4 hPw q1 hO r1 r2 r3 r4 r5
        refine e_al0 o89_0 (e_il1 o89_1 (e_Vi1 o89_2 K89 K90 rfl ⟨rfl, rfl⟩ (zrcv_I L1 rfl) (by omega) rfl (hc (d - 1) v u (by omega) hP) ?_))
        rintro y w u' ⟨⟨rfl, a2, a3, a4⟩, rfl⟩
        have hTw := TXc_P hP.1 a2
        refine e_if_ne o89_5 10 rfl (by first | exact zg_rg _ _ _ | exact zt_rg _ | omega) (fun hb5 => ?_) (fun hb5 => ?_)
        · refine e_al0 o89_10 (e_gR o89_11 L1 rfl rfl (e_bip o89_14 rfl (e_Vi1 o89_16 K89 K39 rfl ⟨rfl, rfl⟩ (zrcv_I L2 rfl) (by omega) rfl (c39 (x := 60) hTw a3 (by omega) k2 (by omega)) ?_)))
          rintro _ _ _ ⟨rfl, rfl, rfl⟩
          refine e_bz_ne o89_19 36 rfl (fun hb19 => ?_) (fun hb19 => ?_)
          · refine e_al0 o89_36 (e_gR o89_37 L1 rfl rfl (e_bip o89_40 rfl (e_Vi1 o89_42 K89 K39 rfl ⟨rfl, rfl⟩ (zrcv_I L2 rfl) (by omega) rfl (c39 (x := 60) hTw a3 (by omega) k2 (by omega)) ?_)))
            rintro _ _ _ ⟨rfl, rfl, rfl⟩
            refine e_bz_eq o89_45 53 rfl (fun hb45 => ?_) (fun hb45 => ?_)
            · refine e_bip o89_53 rfl ?_
              rcases hz with ⟨y1, y2⟩ | ⟨y1, y2, y3⟩
              · have mid := mid w a2 a3 a4
                first | exact absurd y1 hb45 | (rw [y2] at mid; exact mid)
              · have mid := mid w a2 a3 a4
                first | exact absurd hb45 y1 | (rw [y3] at mid; exact mid)
            · refine e_bip o89_48 rfl (e_goto o89_50 55 rfl ?_)
              rcases hz with ⟨y1, y2⟩ | ⟨y1, y2, y3⟩
              · have mid := mid w a2 a3 a4
                first | exact absurd y1 hb45 | (rw [y2] at mid; exact mid)
              · have mid := mid w a2 a3 a4
                first | exact absurd hb45 y1 | (rw [y3] at mid; exact mid)
          · refine e_al0 o89_22 (e_gR o89_23 L1 rfl rfl (e_bip o89_26 rfl (e_Vi1 o89_28 K89 K39 rfl ⟨rfl, rfl⟩ (zrcv_I L2 rfl) (by omega) rfl (c39 (x := 61) hTw a3 (by omega) k2 (by omega)) ?_)))
            rintro _ _ _ ⟨rfl, rfl, rfl⟩
            refine e_bz_ne o89_31 36 rfl (fun hb31 => ?_) (fun hb31 => ?_)
            · refine e_al0 o89_36 (e_gR o89_37 L1 rfl rfl (e_bip o89_40 rfl (e_Vi1 o89_42 K89 K39 rfl ⟨rfl, rfl⟩ (zrcv_I L2 rfl) (by omega) rfl (c39 (x := 60) hTw a3 (by omega) k2 (by omega)) ?_)))
              rintro _ _ _ ⟨rfl, rfl, rfl⟩
              refine e_bz_eq o89_45 53 rfl (fun hb45 => ?_) (fun hb45 => ?_)
              · refine e_bip o89_53 rfl ?_
                rcases hz with ⟨y1, y2⟩ | ⟨y1, y2, y3⟩
                · have mid := mid w a2 a3 a4
                  first | exact absurd y1 hb45 | (rw [y2] at mid; exact mid)
                · have mid := mid w a2 a3 a4
                  first | exact absurd hb45 y1 | (rw [y3] at mid; exact mid)
              · refine e_bip o89_48 rfl (e_goto o89_50 55 rfl ?_)
                rcases hz with ⟨y1, y2⟩ | ⟨y1, y2, y3⟩
                · have mid := mid w a2 a3 a4
                  first | exact absurd y1 hb45 | (rw [y2] at mid; exact mid)
                · have mid := mid w a2 a3 a4
                  first | exact absurd hb45 y1 | (rw [y3] at mid; exact mid)
            · rcases hs with h | h; exact absurd h hb19; exact absurd h hb31
        · omega
      have mgo : ∀ (d : Nat) v u n x3 Q, 8 * (6 - p) + 15 ≤ (d : Int) → MPre B N v e → (∀ w w1 w2, FQ v w → lay90 v w L → MPre B N w e2 → FRm w w1 → mOut B N o2 w1 w2 → zEv sc 153 d 88 [.ref 79, .int (zI p), .int (zI n), .int (zI (enc z))] [] (zmk w2 u) 0 0 Q) → zEv sc 153 d 39 [.ref 79, .int (zI p), .int (zI n), x3] [] (zmk v u) 0 0 Q := by
        intro d v u n x3 Q hd hP k
        have mid : ∀ w, FQ v w → zg w 79 21 = 0 → RT B N w e2 → lay90 v w L → zEv sc 153 d 78 [.ref 79, .int (zI p), .int (zI n), x3] [.int (zI (enc z))] (zmk w u) 0 0 Q := by
          intro w a1 a2 a3 a4
          have hPw := mP v w hP a1 a2 a3 a4
          refine e_is3 o153_78 (e_al0 o153_79 (e_Vv0 o153_80 K153 K134 rfl ⟨rfl, rfl⟩ (zrcv_I L79 rfl) (by omega) rfl (m134 (e := te B N e2) (by omega) hPw.1 a3.2.2.2.1 (by omega) (by omega)) ?_))
          rintro w1 u' ⟨⟨q1, q2⟩, rfl⟩
          refine e_al0 o153_83 (e_il1 o153_84 (e_Vv1 o153_85 K153 K154 rfl ⟨rfl, rfl⟩ (zrcv_I L79 rfl) (by omega) rfl (hm2 (d - 1) w1 u (by omega) (MPre_FR hPw q1 q2 (by omega))) ?_))
          rintro w2 u' ⟨hO, rfl⟩
          exact k w w1 w2 a1 a4 hPw q1 hO
        refine e_al0 o153_39 (e_il1 o153_40 (e_Vv1 o153_41 K153 K154 rfl ⟨rfl, rfl⟩ (zrcv_I L79 rfl) (by omega) rfl (hm (d - 1) v u (by omega) hP) ?_))
        rintro w u' ⟨⟨a1, a2, a3, a4⟩, rfl⟩
        have hTw := TXm_Q hP.1 a1
        refine e_al0 o153_44 (e_bip o153_45 rfl (e_Vi1 o153_47 K153 K151 rfl ⟨rfl, rfl⟩ (zrcv_I L79 rfl) (by omega) rfl (m151 (c := 60) a2 hTw a3 (by omega) k2 rfl) ?_))
        rintro _ _ _ ⟨rfl, rfl, rfl⟩
        refine e_bz_ne o153_50 62 rfl (fun hb50 => ?_) (fun hb50 => ?_)
        · refine e_al0 o153_62 (e_bip o153_63 rfl (e_Vi1 o153_65 K153 K151 rfl ⟨rfl, rfl⟩ (zrcv_I L79 rfl) (by omega) rfl (m151 (c := 60) a2 hTw a3 (by omega) k2 rfl) ?_))
          rintro _ _ _ ⟨rfl, rfl, rfl⟩
          refine e_bz_eq o153_68 76 rfl (fun hb68 => ?_) (fun hb68 => ?_)
          · refine e_bip o153_76 rfl ?_
            rcases hz with ⟨y1, y2⟩ | ⟨y1, y2, y3⟩
            · have mid := mid w a1 a2 a3 a4
              first | exact absurd y1 hb68 | (rw [y2] at mid; exact mid)
            · have mid := mid w a1 a2 a3 a4
              first | exact absurd hb68 y1 | (rw [y3] at mid; exact mid)
          · refine e_bip o153_71 rfl (e_goto o153_73 78 rfl ?_)
            rcases hz with ⟨y1, y2⟩ | ⟨y1, y2, y3⟩
            · have mid := mid w a1 a2 a3 a4
              first | exact absurd y1 hb68 | (rw [y2] at mid; exact mid)
            · have mid := mid w a1 a2 a3 a4
              first | exact absurd hb68 y1 | (rw [y3] at mid; exact mid)
        · refine e_al0 o153_53 (e_bip o153_54 rfl (e_Vi1 o153_56 K153 K151 rfl ⟨rfl, rfl⟩ (zrcv_I L79 rfl) (by omega) rfl (m151 (c := 61) a2 hTw a3 (by omega) k2 rfl) ?_))
          rintro _ _ _ ⟨rfl, rfl, rfl⟩
          refine e_bz_eq o153_59 93 rfl (fun hb59 => ?_) (fun hb59 => ?_)
          · rcases hs with h | h; exact absurd h hb50; exact absurd h hb59
          · refine e_al0 o153_62 (e_bip o153_63 rfl (e_Vi1 o153_65 K153 K151 rfl ⟨rfl, rfl⟩ (zrcv_I L79 rfl) (by omega) rfl (m151 (c := 60) a2 hTw a3 (by omega) k2 rfl) ?_))
            rintro _ _ _ ⟨rfl, rfl, rfl⟩
            refine e_bz_eq o153_68 76 rfl (fun hb68 => ?_) (fun hb68 => ?_)
            · refine e_bip o153_76 rfl ?_
              rcases hz with ⟨y1, y2⟩ | ⟨y1, y2, y3⟩
              · have mid := mid w a1 a2 a3 a4
                first | exact absurd y1 hb68 | (rw [y2] at mid; exact mid)
              · have mid := mid w a1 a2 a3 a4
                first | exact absurd hb68 y1 | (rw [y3] at mid; exact mid)
            · refine e_bip o153_71 rfl (e_goto o153_73 78 rfl ?_)
              rcases hz with ⟨y1, y2⟩ | ⟨y1, y2, y3⟩
              · have mid := mid w a1 a2 a3 a4
                first | exact absurd y1 hb68 | (rw [y2] at mid; exact mid)
              · have mid := mid w a1 a2 a3 a4
                first | exact absurd hb68 y1 | (rw [y3] at mid; exact mid)
      cases o2 using PO_c with
      | bad c q =>
        refine ⟨.bad c q, ⟨g2.1, fun z => (PO_ne (k6 z)).elim⟩, ?_, ?_⟩
        · intro d v u hd hP
          refine cgo d v u hd hP _ ?_
          rintro w w1 w2 w' y f1 f2 f3 f4 ⟨rfl, a2, a3, a4, a5⟩ r1 r2 r3 r4 r5
          refine e_il3 o89_80 ?_
          refine e_rI o89_81 K89 rfl rfl ?_
          refine ⟨⟨rfl, FP_t (FP_t (FP_t f1 (FC_FP f4)) a2) r1, ?_, ?_, r4⟩, rfl⟩
          · simp only [zg]; rw [r2]; exact a3
          · simp only [zg]; rw [r2]; exact a4
        · intro d v u n x3 Q hd hP k
          refine mgo d v u n x3 Q hd hP ?_
          rintro w w1 w2 f1 f2 f3 f4 ⟨a1, a2, a3⟩
          have nb : ¬ zg w2 79 21 = 0 := by have := g2.1.1; omega
          refine e_al0 o153_88 (e_il3 o153_89 (e_Vv1 o153_90 K153 K157 rfl ⟨rfl, rfl⟩ (zrcv_I L79 rfl) (by omega) rfl (m157_d nb) ?_))
          rintro _ _ ⟨rfl, rfl⟩
          exact k w2 _ ⟨FQ_t (FQ_t f1 (FRm_FQ f4)) a1, a2, a3⟩
      | ok e3 L3 =>
        obtain ⟨⟨j1, j2, j3, j4, j5⟩, _⟩ := g2
        refine ⟨.ok e3 ((L ++ L3) ++ [z]), ⟨⟨by omega, j2, by simp; omega, by simp; omega, fun c c0 => ?_⟩, fun z => (PO_ne (k6 z)).elim⟩, ?_, ?_⟩
        · refine okL_app (m := c + 2) (okL_app (m := c + 1) (okL_mono (by omega) (k5 c c0)) (okL_mono (M := c + 1 + 27 - 5 * p + 2) (by omega) ?_)) ?_
          · have e := j5 (c + 1) (by omega)
            rw [show c + 1 + 1 = c + 2 by omega] at e
            exact e
          · refine ⟨by omega, ?_⟩
            show dnx z (c + 2) = c + 1
            unfold dnx
            rw [if_neg (by omega), if_neg (by omega)]
            omega
        · intro d v u hd hP
          refine cgo d v u hd hP _ ?_
          rintro w w1 w2 w' y f1 f2 f3 f4 ⟨rfl, a2, a3, a4⟩ r1 r2 r3 r4 r5
          have l1 := f2.1
          have l2 := hP.2.2
          have e12 : zg w1 12 3 = zg w 12 3 := by simp only [zg]; rw [f4 12 3 (by omega)]
          have l3 := a4.1
          refine e_il3 o89_80 ?_
          refine e_rI o89_81 K89 rfl rfl ?_
          refine ⟨⟨rfl, FP_t (FP_t (FP_t f1 (FC_FP f4)) a2) r1, ?_, ?_⟩, rfl⟩
          · unfold CT at a3 ⊢
            rw [show zg w' 2 = zg w2 2 from zg_fn r3]
            exact a3
          · have e := lay13_t (lay13_t f2 (lay13_t (lay13_r (fun q => f4 13 q (by omega)) (f4 12 3 (by omega))) a4)) (r5 (by omega))
            exact e
        · intro d v u n x3 Q hd hP k
          refine mgo d v u n x3 Q hd hP ?_
          rintro w w1 w2 f1 f2 f3 f4 ⟨a1, a2, a3, a4⟩
          have l1 := f2.1
          have l2 := hP.2.2.2
          have e82 : zg w1 82 7 = zg w 82 7 := by simp only [zg]; rw [f4 82 7 (by omega)]
          have l3 := a4.1
          have hl : 0 ≤ zg w2 82 7 ∧ zg w2 82 7 < 600 := by omega
          refine e_al0 o153_88 (e_il3 o153_89 (e_Vv1 o153_90 K153 K157 rfl ⟨rfl, rfl⟩ (zrcv_I L79 rfl) (by omega) rfl (m157 a2 rfl hl.1 hl.2) ?_))
          rintro _ _ ⟨rfl, rfl⟩
          refine k _ _ ⟨FQ_t (FQ_t (FQ_t f1 (FRm_FQ f4)) a1) (fun a q k1 k2 k3 => by rw [zu_ne (by omega), zu_ne (by omega)]), ?_, ?_, ?_⟩
          · rw [zg_na (by decide), zg_na (by decide)]; exact a2
          · unfold RT at a3 ⊢
            have z79 : ∀ q, zg (zu (zu w2 90 (600 + zg w2 82 7) (zI (enc z))) 82 7 (zI (zg w2 82 7 + 1))) 79 q = zg w2 79 q := fun q => by rw [zg_na (by decide), zg_na (by decide)]
            rw [z79, z79, z79, z79, z79]
            exact a3
          · have e := lay90_t (lay90_t f2 (lay90_t (lay90_r (fun q => f4 90 q (by omega)) (f4 82 7 (by omega))) a4)) (lay90_1 (v := w2) (z := z) hl.1 hl.2 (by omega) (by omega))
            exact e
    · have ns1 : ¬ isS B N e2 60 = true := fun h => hs (Or.inl h)
      have ns2 : ¬ isS B N e2 61 = true := fun h => hs (Or.inr h)
      refine ⟨.ok e2 L, ⟨⟨k1, k2, k3, k4, fun c c0 => okL_mono (by omega) (k5 c c0)⟩, k6⟩, ?_, ?_⟩
      · intro d v u hd hP
        refine e_al0 o89_0 (e_il1 o89_1 (e_Vi1 o89_2 K89 K90 rfl ⟨rfl, rfl⟩ (zrcv_I L1 rfl) (by omega) rfl (hc (d - 1) v u (by omega) hP) ?_))
        rintro y w u' ⟨⟨rfl, a2, a3, a4⟩, rfl⟩
        have hTw := TXc_P hP.1 a2
        refine e_if_ne o89_5 10 rfl (by first | exact zg_rg _ _ _ | exact zt_rg _ | omega) (fun hb5 => ?_) (fun hb5 => ?_)
        · refine e_al0 o89_10 (e_gR o89_11 L1 rfl rfl (e_bip o89_14 rfl (e_Vi1 o89_16 K89 K39 rfl ⟨rfl, rfl⟩ (zrcv_I L2 rfl) (by omega) rfl (c39 (x := 60) hTw a3 (by omega) k2 (by omega)) ?_)))
          rintro _ _ _ ⟨rfl, rfl, rfl⟩
          refine e_bz_ne o89_19 36 rfl (fun hb19 => ?_) (fun hb19 => ?_)
          · exact absurd hb19 ns1
          · refine e_al0 o89_22 (e_gR o89_23 L1 rfl rfl (e_bip o89_26 rfl (e_Vi1 o89_28 K89 K39 rfl ⟨rfl, rfl⟩ (zrcv_I L2 rfl) (by omega) rfl (c39 (x := 61) hTw a3 (by omega) k2 (by omega)) ?_)))
            rintro _ _ _ ⟨rfl, rfl, rfl⟩
            refine e_bz_ne o89_31 36 rfl (fun hb31 => ?_) (fun hb31 => ?_)
            · exact absurd hb31 ns2
            · refine e_ico o89_34 ?_
              refine e_rI o89_35 K89 rfl rfl ?_
              exact ⟨⟨rfl, a2, a3, a4⟩, rfl⟩
        · omega
      · intro d v u n x3 Q hd hP k
        refine e_al0 o153_39 (e_il1 o153_40 (e_Vv1 o153_41 K153 K154 rfl ⟨rfl, rfl⟩ (zrcv_I L79 rfl) (by omega) rfl (hm (d - 1) v u (by omega) hP) ?_))
        rintro w u' ⟨⟨a1, a2, a3, a4⟩, rfl⟩
        have hTw := TXm_Q hP.1 a1
        refine e_al0 o153_44 (e_bip o153_45 rfl (e_Vi1 o153_47 K153 K151 rfl ⟨rfl, rfl⟩ (zrcv_I L79 rfl) (by omega) rfl (m151 (c := 60) a2 hTw a3 (by omega) k2 rfl) ?_))
        rintro _ _ _ ⟨rfl, rfl, rfl⟩
        refine e_bz_ne o153_50 62 rfl (fun hb50 => ?_) (fun hb50 => ?_)
        · exact absurd hb50 ns1
        · refine e_al0 o153_53 (e_bip o153_54 rfl (e_Vi1 o153_56 K153 K151 rfl ⟨rfl, rfl⟩ (zrcv_I L79 rfl) (by omega) rfl (m151 (c := 61) a2 hTw a3 (by omega) k2 rfl) ?_))
          rintro _ _ _ ⟨rfl, rfl, rfl⟩
          refine e_bz_eq o153_59 93 rfl (fun hb59 => ?_) (fun hb59 => ?_)
          · exact k w _ ⟨a1, a2, a3, a4⟩
          · exact absurd hb59 ns2
theorem okL_nots {M c : Int} : ∀ n : Nat, 1 ≤ c → c < M → okL (List.replicate n (-13)) c M c := by
  intro n h1 h2
  induction n with
  | zero => rfl
  | succ n ih =>
    rw [List.replicate_succ]
    refine ⟨by omega, ?_⟩
    show okL (List.replicate n (-13)) (dnx (-13) c) M c
    rw [show dnx (-13) c = c from rfl]
    exact ih
theorem LVnot {p : Int} (n6 : N ≤ 600) (p0 : 0 ≤ p) (p5 : p ≤ 5) {E0 : Int} (HP : ∀ e, E0 ≤ e → 0 ≤ e → e ≤ N → LV sc B N 90 154 [zJ, zJ, zJ] [zJ] (8 * (6 - p) + 14) 2 p e) : ∀ (f : Nat) (n : Nat) e, f + n = 6 → E0 ≤ e → 0 ≤ e → e ≤ N → ∃ o, (match o with
    | .inl (e', L) => e < e' ∧ e' ≤ N ∧ 1 ≤ L.length ∧ (L.length : Int) ≤ e' - e + n ∧ ∀ c, 0 ≤ c → okL L c (c + 27 - 5 * p + 3) (c + 1)
    | .inr (c, q) => 1 ≤ c ∧ c ≤ 3 ∧ 0 ≤ q ∧ q ≤ N) ∧ (¬ may B N e → o = .bad 1 (ts B N e)) ∧ (∀ (d : Nat) v u x3, 8 * (6 - p) + 16 ≤ (d : Int) → CPre B N v e → zg v 12 3 + n ≤ e → zEv sc 88 d 2 [.ref 1, .int (zI p), .int (zI n), x3] [] (zmk v u) 0 0 (zPi fun y w t => cOut B N o v w y ∧ u = t)) ∧ (∀ (d : Nat) v u x3, 8 * (6 - p) + 16 ≤ (d : Int) → MPre B N v e → zg v 82 7 + n ≤ e → zEv sc 153 d 2 [.ref 79, .int (zI p), .int (zI n), x3] [] (zmk v u) 0 0 (zPv fun w t => mOut B N o v w ∧ u = t)) := by
  -- the nots are laid
  have cns : ∀ (n : Nat) (d : Nat) v u (o : PO), n ≤ 6 → 2 ≤ d → (∀ e' L, o = .ok e' L → 0 ≤ zg v 12 3 ∧ zg v 12 3 + n ≤ 600) → ∀ k, 0 ≤ k → k ≤ (n : Int) → ∀ w, FP v w → (∀ q, w 2 q = v 2 q) → lay13 v w (List.replicate k.toNat (-13)) → (0 ≤ zg v 12 3 ∧ zg v 12 3 + n ≤ 600) → zEv sc 88 d 69 [.ref 1, .int (zI p), .int (zI n), .int (zI k)] [] (zmk w u) 0 0 (zPi fun y w t => zI 1 = y ∧ FP v w ∧ (∀ q, w 2 q = v 2 q) ∧ lay13 v w (List.replicate n (-13)) ∧ u = t) := by
    intro n d v u o n6' hd _
    refine zloop ?_
    intro k k0 k1 ih w hF h2 hL hl
    have l1 := hL.1
    rw [List.length_replicate] at l1
    refine e_il3 o88_69 (e_il2 o88_70 (e_ic_ge o88_71 92 rfl (by first | exact zg_rg _ _ _ | exact zt_rg _ | omega) (by first | exact zg_rg _ _ _ | exact zt_rg _ | omega) (fun hb71 => ?_) (fun hb71 => ?_)))
    · refine e_ico o88_92 ?_
      refine e_rI o88_93 K88 rfl rfl ?_
      have ek : n = k.toNat := by omega
      exact ⟨rfl, hF, h2, by rw [ek]; exact hL, rfl⟩
    · refine e_al0 o88_74 (e_gR o88_75 L1 rfl rfl (e_gR o88_78 L4 rfl rfl (e_bip o88_81 rfl (e_Vv1 o88_83 K88 K41 rfl ⟨rfl, rfl⟩ (zrcv_I L12 rfl) (by omega) rfl (c41 (by omega) (by omega)) ?_))))
      rintro w' u' ⟨⟨r1, r2, r3, r4, r5⟩, rfl⟩
      refine e_inc3 o88_86 (e_goto o88_89 69 rfl ?_)
      refine ih (by omega) w' (FP_t hF r1) (fun q => by rw [r3, h2]) ?_ hl
      have e := lay13_t hL (r5 (by omega))
      rw [show (k + 1).toNat = k.toNat + 1 by omega, List.replicate_succ']
      exact e
  have mns : ∀ (n : Nat) (d : Nat) v u, n ≤ 6 → 2 ≤ d → zg v 79 21 = 0 → (0 ≤ zg v 82 7 ∧ zg v 82 7 + n ≤ 600) → ∀ k, 0 ≤ k → k ≤ (n : Int) → ∀ w, FQ v w → (∀ q, w 79 q = v 79 q) → lay90 v w (List.replicate k.toNat (-13)) → zEv sc 153 d 95 [.ref 79, .int (zI p), .int (zI n), .int (zI k)] [] (zmk w u) 0 0 (zPv fun w t => (FQ v w ∧ (∀ q, w 79 q = v 79 q) ∧ lay90 v w (List.replicate n (-13))) ∧ u = t) := by
    intro n d v u n6' hd hb hl
    refine zloop ?_
    intro k k0 k1 ih w hF h2 hL
    have l1 := hL.1
    rw [List.length_replicate] at l1
    have hb' : zg w 79 21 = 0 := by simp only [zg]; rw [h2]; exact hb
    refine e_il3 o153_95 (e_il2 o153_96 (e_ic_ge o153_97 112 rfl (by first | exact zg_rg _ _ _ | exact zt_rg _ | omega) (by first | exact zg_rg _ _ _ | exact zt_rg _ | omega) (fun hb97 => ?_) (fun hb97 => ?_)))
    · refine e_rV o153_112 K153 rfl rfl ?_
      have ek : n = k.toNat := by omega
      exact ⟨⟨hF, h2, by rw [ek]; exact hL⟩, rfl⟩
    · refine e_al0 o153_100 (e_bip o153_101 rfl (e_Vv1 o153_103 K153 K157 rfl ⟨rfl, rfl⟩ (zrcv_I L79 rfl) (by omega) rfl (m157 hb' rfl (by omega) (by omega)) ?_))
      rintro _ _ ⟨rfl, rfl⟩
      refine e_inc3 o153_106 (e_goto o153_109 95 rfl ?_)
      refine ih (by omega) _ (FQ_t hF (fun a q k1 k2 k3 => by rw [zu_ne (by omega), zu_ne (by omega)])) (fun q => by rw [zu_ne (by omega), zu_ne (by omega), h2]) ?_
      have e := lay90_t hL (lay90_1 (v := w) (z := -13) (by omega) (by omega) (by omega) (by omega))
      rw [show (k + 1).toNat = k.toNat + 1 by omega, List.replicate_succ']
      exact e
  have mdn : ∀ (n : Int) (d : Nat) v u, 0 ≤ n → n ≤ 10 → 2 ≤ d → ¬ zg v 79 21 = 0 → ∀ k, 0 ≤ k → k ≤ n → zEv sc 153 d 95 [.ref 79, .int (zI p), .int (zI n), .int (zI k)] [] (zmk v u) 0 0 (zdo v u) := by
    intro n d v u n0 n1 hd hb
    refine zloop ?_
    intro k k0 k1 ih
    refine e_il3 o153_95 (e_il2 o153_96 (e_ic_ge o153_97 112 rfl (by first | exact zg_rg _ _ _ | exact zt_rg _ | omega) (by first | exact zg_rg _ _ _ | exact zt_rg _ | omega) (fun hb97 => ?_) (fun hb97 => ?_)))
    · refine e_rV o153_112 K153 rfl rfl ?_
      exact ⟨rfl, rfl⟩
    · refine e_al0 o153_100 (e_bip o153_101 rfl (e_Vv1 o153_103 K153 K157 rfl ⟨rfl, rfl⟩ (zrcv_I L79 rfl) (by omega) rfl (m157_d hb) ?_))
      rintro _ _ ⟨rfl, rfl⟩
      refine e_inc3 o153_106 (e_goto o153_109 95 rfl ?_)
      exact ih (by omega)
  -- no not stands here
  have tail : ∀ (n : Nat) e, n ≤ 6 → E0 ≤ e → 0 ≤ e → e ≤ N → ¬ isW B N e 5 = true → ∃ o, (match o with
    | .inl (e', L) => e < e' ∧ e' ≤ N ∧ 1 ≤ L.length ∧ (L.length : Int) ≤ e' - e + n ∧ ∀ c, 0 ≤ c → okL L c (c + 27 - 5 * p + 3) (c + 1)
    | .inr (c, q) => 1 ≤ c ∧ c ≤ 3 ∧ 0 ≤ q ∧ q ≤ N) ∧ (¬ may B N e → o = .bad 1 (ts B N e)) ∧ (∀ (d : Nat) v u x3, 8 * (6 - p) + 16 ≤ (d : Int) → CPre B N v e → zg v 12 3 + n ≤ e → zEv sc 88 d 2 [.ref 1, .int (zI p), .int (zI n), x3] [] (zmk v u) 0 0 (zPi fun y w t => cOut B N o v w y ∧ u = t)) ∧ (∀ (d : Nat) v u x3, 8 * (6 - p) + 16 ≤ (d : Int) → MPre B N v e → zg v 82 7 + n ≤ e → zEv sc 153 d 2 [.ref 79, .int (zI p), .int (zI n), x3] [] (zmk v u) 0 0 (zPv fun w t => mOut B N o v w ∧ u = t)) := by
    intro n e nn hE e0 e1 hw
    have hw' : ¬ isW B N e 45 = true := by rw [isW_eq (r := 45) (r' := 5) rfl]; exact hw
    obtain ⟨o, g, hc, hm⟩ := LVtest (sc := sc) n6 p0 p5 e0 e1 (fun e' h0 h1 h2 => HP e' (by omega) h1 h2)
    have cgo : ∀ (d : Nat) v u x3 Q, 8 * (6 - p) + 16 ≤ (d : Int) → CPre B N v e → (∀ w y, cOut B N o v w y → zEv sc 88 d 62 [.ref 1, .int (zI p), .int (zI n), x3] [.int y] (zmk w u) 0 0 Q) → zEv sc 88 d 2 [.ref 1, .int (zI p), .int (zI n), x3] [] (zmk v u) 0 0 Q := by
      intro d v u x3 Q hd hP k
      obtain ⟨hT, hC, l0, l1⟩ := id hP
      refine e_il2 o88_2 (e_bip o88_3 rfl (e_ic_ge o88_5 33 rfl (by first | exact zg_rg _ _ _ | exact zt_rg _ | omega) (by first | exact zg_rg _ _ _ | exact zt_rg _ | omega) (fun hb5 => ?_) (fun hb5 => ?_)))
      · refine e_al0 o88_33 (e_gR o88_34 L1 rfl rfl (e_ldcS o88_37 rfl (e_Vi1 o88_39 K88 K38 rfl ⟨rfl, rfl⟩ (zrcv_I L2 rfl) (by omega) rfl (c38 (r := 5) (by omega) (by omega) hT hC e0 e1) ?_)))
        rintro _ _ _ ⟨rfl, rfl, rfl⟩
        refine e_bz_eq o88_42 57 rfl (fun hb42 => ?_) (fun hb42 => ?_)
        · refine e_al0 o88_57 (e_il1 o88_58 (e_Vi1 o88_59 K88 K89 rfl ⟨rfl, rfl⟩ (zrcv_I L1 rfl) (by omega) rfl (hc (d - 1) v u (by omega) hP) ?_))
          rintro y w u' ⟨hO, rfl⟩
          exact k w y hO
        · exact absurd hb42 hw
      · refine e_al0 o88_8 (e_gR o88_9 L1 rfl rfl (e_ldcS o88_12 rfl (e_Vi1 o88_14 K88 K38 rfl ⟨rfl, rfl⟩ (zrcv_I L2 rfl) (by omega) rfl (c38 (r := 5) (by omega) (by omega) hT hC e0 e1) ?_)))
        rintro _ _ _ ⟨rfl, rfl, rfl⟩
        refine e_bz_eq o88_17 33 rfl (fun hb17 => ?_) (fun hb17 => ?_)
        · refine e_al0 o88_33 (e_gR o88_34 L1 rfl rfl (e_ldcS o88_37 rfl (e_Vi1 o88_39 K88 K38 rfl ⟨rfl, rfl⟩ (zrcv_I L2 rfl) (by omega) rfl (c38 (r := 5) (by omega) (by omega) hT hC e0 e1) ?_)))
          rintro _ _ _ ⟨rfl, rfl, rfl⟩
          refine e_bz_eq o88_42 57 rfl (fun hb42 => ?_) (fun hb42 => ?_)
          · refine e_al0 o88_57 (e_il1 o88_58 (e_Vi1 o88_59 K88 K89 rfl ⟨rfl, rfl⟩ (zrcv_I L1 rfl) (by omega) rfl (hc (d - 1) v u (by omega) hP) ?_))
            rintro y w u' ⟨hO, rfl⟩
            exact k w y hO
          · exact absurd hb42 hw
        · exact absurd hb17 hw
    have mgo : ∀ (d : Nat) v u x3 Q, 8 * (6 - p) + 16 ≤ (d : Int) → MPre B N v e → (∀ w, mOut B N o v w → zEv sc 153 d 95 [.ref 79, .int (zI p), .int (zI n), .int (zI 0)] [] (zmk w u) 0 0 Q) → zEv sc 153 d 2 [.ref 79, .int (zI p), .int (zI n), x3] [] (zmk v u) 0 0 Q := by
      intro d v u x3 Q hd hP k
      obtain ⟨hT, hR, hb, l0, l1⟩ := id hP
      refine e_al0 o153_2 (e_ldcS o153_3 rfl (e_Vi1 o153_5 K153 K141 rfl ⟨rfl, rfl⟩ (zrcv_I L79 rfl) (by omega) rfl (m141 (r := 45) (by omega) (by omega) hb hT hR e0 e1) ?_))
      rintro _ _ _ ⟨rfl, rfl, rfl⟩
      refine e_bz_eq o153_8 39 rfl (fun hb8 => ?_) (fun hb8 => ?_)
      · refine hm d v u n _ Q (by omega) hP (fun w x3' hO => ?_)
        exact e_ico o153_93 (e_is3 o153_94 (k w hO))
      · exact absurd hb8 hw'
    cases o using PO_c with
    | bad c q =>
      refine ⟨.bad c q, g.1, g.2, ?_, ?_⟩
      · intro d v u x3 hd hP hl
        refine cgo d v u x3 _ hd hP ?_
        rintro w y ⟨rfl, a2, a3⟩
        refine e_if_ne o88_62 67 rfl (by first | exact zg_rg _ _ _ | exact zt_rg _ | omega) (fun hb62 => ?_) (fun hb62 => ?_)
        · omega
        · refine e_ico o88_65 ?_
          refine e_rI o88_66 K88 rfl rfl ?_
          exact ⟨⟨rfl, a2, a3⟩, rfl⟩
      · intro d v u x3 hd hP hl
        refine mgo d v u x3 _ hd hP ?_
        rintro w ⟨a1, a2, a3⟩
        refine zEv_mono (mdn n d w u (by omega) (by omega) (by omega) (by have := g.1.1; omega) 0 (by omega) (by omega)) ?_
        rintro _ _ ⟨x, t, rfl, rfl, rfl, rfl⟩
        exact ⟨_, _, rfl, rfl, ⟨a1, a2, a3⟩, rfl⟩
    | ok e' L =>
      obtain ⟨⟨k1, k2, k3, k4, k5⟩, k6⟩ := g
      refine ⟨.ok e' (L ++ List.replicate n (-13)), ⟨k1, k2, by simp; omega, by simp; omega, fun c c0 => okL_app (m := c + 1) (k5 c c0) (okL_nots n (by omega) (by omega))⟩, fun z => (PO_ne (k6 z)).elim, ?_, ?_⟩
      · intro d v u x3 hd hP hl
        refine cgo d v u x3 _ hd hP ?_
        rintro w y ⟨rfl, a2, a3, a4⟩
        have l1 := a4.1
        have l2 := hP.2.2
        refine e_if_ne o88_62 67 rfl (by first | exact zg_rg _ _ _ | exact zt_rg _ | omega) (fun hb62 => ?_) (fun hb62 => ?_)
        · refine e_ico o88_67 (e_is3 o88_68 ?_)
          refine zEv_mono (cns n d w u (.bad 0 0) nn (by omega) (fun _ _ h => (PO_ne h.symm).elim) 0 (by omega) (by omega) w FP_r (fun _ => rfl) (lay13_r (fun _ => rfl) rfl) (by omega)) ?_
          rintro _ _ ⟨y, x, t, rfl, rfl, b1, b2, b3, b4, rfl⟩
          refine ⟨y, x, _, rfl, rfl, ⟨b1, FP_t a2 b2, ?_, lay13_t a4 b4⟩, rfl⟩
          unfold CT at a3 ⊢
          rw [show zg x 2 = zg w 2 from zg_fn b3]
          exact a3
        · omega
      · intro d v u x3 hd hP hl
        refine mgo d v u x3 _ hd hP ?_
        rintro w ⟨a1, a2, a3, a4⟩
        have l1 := a4.1
        have l2 := hP.2.2.2
        refine zEv_mono (mns n d w u nn (by omega) a2 (by omega) 0 (by omega) (by omega) w FQ_r (fun _ => rfl) (lay90_r (fun _ => rfl) rfl)) ?_
        rintro _ _ ⟨x, t, rfl, rfl, ⟨b1, b2, b3⟩, rfl⟩
        refine ⟨x, _, rfl, rfl, ⟨FQ_t a1 b1, ?_, ?_, lay90_t a4 b3⟩, rfl⟩
        · simp only [zg]; rw [b2]; exact a2
        · unfold RT at a3 ⊢
          rw [show zg x 79 = zg w 79 from zg_fn b2]
          exact a3
  intro f
  induction f with
  | zero =>
    intro n e hn hE e0 e1
    have hn6 : n = 6 := by omega
    subst hn6
    have h1 := ts_in (B := B) e1
    by_cases hw : isW B N e 5 = true
    · have hw' : isW B N e 45 = true := by rw [isW_eq (r := 45) (r' := 5) rfl]; exact hw
      refine ⟨.bad 2 (ts B N e), ⟨by omega, by omega, by omega, by omega⟩, fun z => absurd (Or.inr (Or.inl (isW_tk hw))) z, ?_, ?_⟩
      · intro d v u x3 hd hP hl
        obtain ⟨hT, hC, l0, l1⟩ := id hP
        refine e_il2 o88_2 (e_bip o88_3 rfl (e_ic_ge o88_5 33 rfl (by first | exact zg_rg _ _ _ | exact zt_rg _ | omega) (by first | exact zg_rg _ _ _ | exact zt_rg _ | omega) (fun hb5 => ?_) (fun hb5 => ?_)))
        · refine e_al0 o88_33 (e_gR o88_34 L1 rfl rfl (e_ldcS o88_37 rfl (e_Vi1 o88_39 K88 K38 rfl ⟨rfl, rfl⟩ (zrcv_I L2 rfl) (by omega) rfl (c38 (r := 5) (by omega) (by omega) hT hC e0 e1) ?_)))
          rintro _ _ _ ⟨rfl, rfl, rfl⟩
          refine e_bz_eq o88_42 57 rfl (fun hb42 => ?_) (fun hb42 => ?_)
          · exact absurd hw hb42
          · refine e_il2 o88_45 (e_bip o88_46 rfl (e_ic_lt o88_48 57 rfl (by first | exact zg_rg _ _ _ | exact zt_rg _ | omega) (by first | exact zg_rg _ _ _ | exact zt_rg _ | omega) (fun hb48 => ?_) (fun hb48 => ?_)))
            · omega
            · refine e_al0 o88_51 (e_ico o88_52 (e_Vi1 o88_53 K88 K81 rfl ⟨rfl, rfl⟩ (zrcv_I L1 rfl) (by omega) rfl (c81 (c := 2) hC e1 (by omega)) ?_))
              rintro _ _ _ ⟨rfl, rfl, rfl⟩
              refine e_rI o88_56 K88 rfl rfl ?_
              refine ⟨⟨rfl, fun a q g1 g2 g3 g4 => by rw [zu_ne (by omega), zu_ne (by omega)], ?_, ?_, ?_⟩, rfl⟩
              · rw [zg_ne (by omega), zg_same (by omega)]
              · rw [zg_same (by omega)]
              · rw [zg_na (by decide), zg_na (by decide)]; omega
        · omega
      · intro d v u x3 hd hP hl
        obtain ⟨hT, hR, hb, l0, l1⟩ := id hP
        have w1 : ¬ zg (zu (zu v 79 21 (zI 2)) 79 22 (zI (ts B N e))) 79 21 = 0 := by rw [zg_ne (by omega), zg_same (by omega)]; omega
        have dead : zEv sc 153 d 2 [.ref 79, .int (zI p), .int (zI ((6 : Nat) + 1)), x3] [] (zmk (zu (zu v 79 21 (zI 2)) 79 22 (zI (ts B N e))) u) 0 0 (zPv fun w t => mOut B N (.bad 2 (ts B N e)) v w ∧ u = t) := by
          refine e_al0 o153_2 (e_ldcS o153_3 rfl (e_Vi1 o153_5 K153 K141 rfl ⟨rfl, rfl⟩ (zrcv_I L79 rfl) (by omega) rfl (m141_d (r := 45) (by omega) (by omega) w1) ?_))
          rintro _ _ _ ⟨rfl, rfl, rfl⟩
          refine e_if_eq o153_8 39 rfl (by first | exact zg_rg _ _ _ | exact zt_rg _ | omega) (fun hb8 => ?_) (fun hb8 => ?_)
          · refine e_al0 o153_39 (e_il1 o153_40 (e_Vv1 o153_41 K153 K154 rfl ⟨rfl, rfl⟩ (zrcv_I L79 rfl) (by omega) rfl (m154_d (by omega) w1) ?_))
            rintro _ _ ⟨rfl, rfl⟩
            refine e_al0 o153_44 (e_bip o153_45 rfl (e_Vi1 o153_47 K153 K151 rfl ⟨rfl, rfl⟩ (zrcv_I L79 rfl) (by omega) rfl (m151_d w1) ?_))
            rintro _ _ _ ⟨rfl, rfl, rfl⟩
            refine e_if_ne o153_50 62 rfl (by first | exact zg_rg _ _ _ | exact zt_rg _ | omega) (fun hb50 => ?_) (fun hb50 => ?_)
            · omega
            · refine e_al0 o153_53 (e_bip o153_54 rfl (e_Vi1 o153_56 K153 K151 rfl ⟨rfl, rfl⟩ (zrcv_I L79 rfl) (by omega) rfl (m151_d w1) ?_))
              rintro _ _ _ ⟨rfl, rfl, rfl⟩
              refine e_if_eq o153_59 93 rfl (by first | exact zg_rg _ _ _ | exact zt_rg _ | omega) (fun hb59 => ?_) (fun hb59 => ?_)
              · refine e_ico o153_93 (e_is3 o153_94 ?_)
                refine zEv_mono (mdn _ d _ u (by omega) (by omega) (by omega) w1 0 (by omega) (by omega)) ?_
                rintro _ _ ⟨x, t, rfl, rfl, rfl, rfl⟩
                refine ⟨_, _, rfl, rfl, ⟨fun a q k1 k2 k3 => by rw [zu_ne (by omega), zu_ne (by omega)], ?_, ?_⟩, rfl⟩
                · rw [zg_ne (by omega), zg_same (by omega)]
                · rw [zg_same (by omega)]
              · omega
          · omega
        refine e_al0 o153_2 (e_ldcS o153_3 rfl (e_Vi1 o153_5 K153 K141 rfl ⟨rfl, rfl⟩ (zrcv_I L79 rfl) (by omega) rfl (m141 (r := 45) (by omega) (by omega) hb hT hR e0 e1) ?_))
        rintro _ _ _ ⟨rfl, rfl, rfl⟩
        refine e_bz_eq o153_8 39 rfl (fun hb8 => ?_) (fun hb8 => ?_)
        · exact absurd hw' hb8
        · refine e_il2 o153_11 (e_bip o153_12 rfl (e_ic_ne o153_14 22 rfl (by first | exact zg_rg _ _ _ | exact zt_rg _ | omega) (by first | exact zg_rg _ _ _ | exact zt_rg _ | omega) (fun hb14 => ?_) (fun hb14 => ?_)))
          · omega
          · refine e_al0 o153_17 (e_ico o153_18 (e_Vv1 o153_19 K153 K142 rfl ⟨rfl, rfl⟩ (zrcv_I L79 rfl) (by omega) rfl (m142 hb) ?_))
            rintro _ _ ⟨rfl, rfl⟩
            rw [hR.2.1]
            refine e_inc2 o153_22 (e_al0 o153_25 (e_gI o153_26 L79 rfl 21 rfl (e_if_ne o153_29 2 rfl (by first | exact zg_rg _ _ _ | exact zt_rg _ | omega) (fun hb29 => ?_) (fun hb29 => ?_))))
            · exact dead
            · exact absurd hb29 w1
    · exact tail 6 e (by omega) hE e0 e1 hw
  | succ f ih =>
    intro n e hn hE e0 e1
    have h1 := ts_in (B := B) e1
    have h2 := te_in (B := B) e1
    by_cases hw : isW B N e 5 = true
    · have hw' : isW B N e 45 = true := by rw [isW_eq (r := 45) (r' := 5) rfl]; exact hw
      have hk := isW_tk hw
      have h3 := h2.2.2.1 (by omega)
      obtain ⟨o, g1, g2, hc, hm⟩ := ih (n + 1) (te B N e) (by omega) (by omega) (by omega) (by omega)
      refine ⟨o, ?_, fun z => absurd (Or.inr (Or.inl hk)) z, ?_, ?_⟩
      · cases o using PO_c with
        | bad c q => exact g1
        | ok e' L => exact ⟨by omega, g1.2.1, g1.2.2.1, by have := g1.2.2.2.1; omega, g1.2.2.2.2⟩
      · intro d v u x3 hd hP hl
        obtain ⟨hT, hC, l0, l1⟩ := id hP
        refine e_il2 o88_2 (e_bip o88_3 rfl (e_ic_ge o88_5 33 rfl (by first | exact zg_rg _ _ _ | exact zt_rg _ | omega) (by first | exact zg_rg _ _ _ | exact zt_rg _ | omega) (fun hb5 => ?_) (fun hb5 => ?_)))
        · omega
        · refine e_al0 o88_8 (e_gR o88_9 L1 rfl rfl (e_ldcS o88_12 rfl (e_Vi1 o88_14 K88 K38 rfl ⟨rfl, rfl⟩ (zrcv_I L2 rfl) (by omega) rfl (c38 (r := 5) (by omega) (by omega) hT hC e0 e1) ?_)))
          rintro _ _ _ ⟨rfl, rfl, rfl⟩
          refine e_bz_eq o88_17 33 rfl (fun hb17 => ?_) (fun hb17 => ?_)
          · exact absurd hw hb17
          · refine e_al0 o88_20 (e_gR o88_21 L1 rfl rfl (e_Vv0 o88_24 K88 K34 rfl ⟨rfl, rfl⟩ (zrcv_I L2 rfl) (by omega) rfl (c34 (e := te B N e) (by omega) hT hC.2.2.1 (by omega) (by omega)) ?_))
            rintro w1 u' ⟨⟨q1, q2⟩, rfl⟩
            refine e_inc2 o88_27 (e_goto o88_30 2 rfl ?_)
            have e12 : zg w1 12 3 = zg v 12 3 := by simp only [zg]; rw [q1 12 3 (by omega)]
            have e := hc d w1 u x3 hd (CPre_FC hP q1 q2 (by omega)) (by omega)
            rw [show ((n + 1 : Nat) : Int) = (n : Int) + 1 by omega] at e
            refine zEv_mono e ?_
            rintro _ _ ⟨y, x, t, rfl, rfl, hO, rfl⟩
            refine ⟨y, x, _, rfl, rfl, ?_, rfl⟩
            cases o using PO_c with
            | bad c q => exact ⟨hO.1, FP_t (FC_FP q1) hO.2.1, hO.2.2⟩
            | ok e' L => exact ⟨hO.1, FP_t (FC_FP q1) hO.2.1, hO.2.2.1, lay13_t (lay13_r (fun q => q1 13 q (by omega)) (q1 12 3 (by omega))) hO.2.2.2⟩
      · intro d v u x3 hd hP hl
        obtain ⟨hT, hR, hb, l0, l1⟩ := id hP
        refine e_al0 o153_2 (e_ldcS o153_3 rfl (e_Vi1 o153_5 K153 K141 rfl ⟨rfl, rfl⟩ (zrcv_I L79 rfl) (by omega) rfl (m141 (r := 45) (by omega) (by omega) hb hT hR e0 e1) ?_))
        rintro _ _ _ ⟨rfl, rfl, rfl⟩
        refine e_bz_eq o153_8 39 rfl (fun hb8 => ?_) (fun hb8 => ?_)
        · exact absurd hw' hb8
        · refine e_il2 o153_11 (e_bip o153_12 rfl (e_ic_ne o153_14 22 rfl (by first | exact zg_rg _ _ _ | exact zt_rg _ | omega) (by first | exact zg_rg _ _ _ | exact zt_rg _ | omega) (fun hb14 => ?_) (fun hb14 => ?_)))
          · refine e_inc2 o153_22 (e_al0 o153_25 (e_gI o153_26 L79 rfl 21 rfl ?_))
            rw [hb]
            refine e_if_ne o153_29 2 rfl (by first | exact zg_rg _ _ _ | exact zt_rg _ | omega) (fun hb29 => ?_) (fun hb29 => ?_)
            · omega
            · refine e_al0 o153_32 (e_Vv0 o153_33 K153 K134 rfl ⟨rfl, rfl⟩ (zrcv_I L79 rfl) (by omega) rfl (m134 (e := te B N e) (by omega) hT hR.2.2.2.1 (by omega) (by omega)) ?_)
              rintro w1 u' ⟨⟨q1, q2⟩, rfl⟩
              refine e_goto o153_36 2 rfl ?_
              have e82 : zg w1 82 7 = zg v 82 7 := by simp only [zg]; rw [q1 82 7 (by omega)]
              have e := hm d w1 u x3 hd (MPre_FR hP q1 q2 (by omega)) (by omega)
              rw [show ((n + 1 : Nat) : Int) = (n : Int) + 1 by omega] at e
              refine zEv_mono e ?_
              rintro _ _ ⟨x, t, rfl, rfl, hO, rfl⟩
              refine ⟨x, _, rfl, rfl, ?_, rfl⟩
              cases o using PO_c with
              | bad c q => exact ⟨FQ_t (FRm_FQ q1) hO.1, hO.2⟩
              | ok e' L => exact ⟨FQ_t (FRm_FQ q1) hO.1, hO.2.1, hO.2.2.1, lay90_t (lay90_r (fun q => q1 90 q (by omega)) (q1 82 7 (by omega))) hO.2.2.2⟩
          · omega
    · exact tail n e (by omega) hE e0 e1 hw
end
