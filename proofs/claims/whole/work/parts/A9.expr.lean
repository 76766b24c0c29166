/-! expressions: both parsers have one outcome -/
def okL : List Int → Int → Int → Int → Prop
  | [], c, _, r => c = r
  | z :: L, c, M, r => (-15 ≤ z ∧ z ≤ 9999 ∧ 0 ≤ c ∧ c < M ∧ (z < -6 → 1 ≤ c) ∧ (z < -6 → ¬ z = -13 → 2 ≤ c)) ∧ okL L (dnx z c) M r
theorem okL_app {M r m : Int} : ∀ {L L' : List Int} {c : Int}, okL L c M m → okL L' m M r → okL (L ++ L') c M r := by
  intro L
  induction L with
  | nil => intro L' c h h'; have h : c = m := h; subst h; exact h'
  | cons z L ih => intro L' c h h'; exact ⟨h.1, ih h.2 h'⟩
theorem okL_mono {M M' r : Int} (hM : M ≤ M') : ∀ {L : List Int} {c : Int}, okL L c M r → okL L c M' r := by
  intro L
  induction L with
  | nil => intro c h; exact h
  | cons z L ih => intro c h; exact ⟨by have := h.1; omega, ih h.2⟩
def may (B : Int → Int) (N e : Int) : Prop := tk B N e = 2 ∨ tk B N e = 1 ∨ isS B N e 40 = true
def cOut (B : Int → Int) (N : Int) (o : PO) (v w : zV) (y : Int32) : Prop := match o with
  | .inl (e', L) => zI 1 = y ∧ FP v w ∧ CT B N w e' ∧ lay13 v w L
  | .inr (c, p) => zI 0 = y ∧ FP v w ∧ zg w 1 2 = c ∧ zg w 1 3 = p ∧ 0 ≤ zg w 12 3 ∧ zg w 12 3 ≤ 600
def mOut (B : Int → Int) (N : Int) (o : PO) (v w : zV) : Prop := match o with
  | .inl (e', L) => FQ v w ∧ zg w 79 21 = 0 ∧ RT B N w e' ∧ lay90 v w L
  | .inr (c, p) => FQ v w ∧ zg w 79 21 = c ∧ zg w 79 22 = p
def gOut (B : Int → Int) (N e p j : Int) (o : PO) : Prop := (match o with
  | .inl (e', L) => e < e' ∧ e' ≤ N ∧ 1 ≤ L.length ∧ (L.length : Int) ≤ e' - e ∧ ∀ c, 0 ≤ c → okL L c (c + 27 - 5 * p + j) (c + 1)
  | .inr (c, q) => 1 ≤ c ∧ c ≤ 3 ∧ 0 ≤ q ∧ q ≤ N) ∧ (¬ may B N e → o = .bad 1 (ts B N e))
/-- what follows a first part in a row of parts -/
def gLp (N e p j : Int) (o : PO) : Prop := match o with
  | .inl (e', L) => e ≤ e' ∧ e' ≤ N ∧ (L.length : Int) ≤ e' - e ∧ ∀ c, 0 ≤ c → okL L (c + 1) (c + 27 - 5 * p + j) (c + 1)
  | .inr (c, q) => 1 ≤ c ∧ c ≤ 3 ∧ 0 ≤ q ∧ q ≤ N
def CPre (B : Int → Int) (N : Int) (v : zV) (e : Int) : Prop := TXc B N v ∧ CT B N v e ∧ 0 ≤ zg v 12 3 ∧ zg v 12 3 ≤ e
def MPre (B : Int → Int) (N : Int) (v : zV) (e : Int) : Prop := TXm B N v ∧ RT B N v e ∧ zg v 79 21 = 0 ∧ 0 ≤ zg v 82 7 ∧ zg v 82 7 ≤ e
def LV (sc : Nat × (Nat → Int32)) (B : Int → Int) (N : Int) (mc mm : Nat) (lc lm : List Value) (D : Int) (j p e : Int) : Prop := ∃ o, gOut B N e p j o ∧ (∀ (d : Nat) v u, D ≤ d → CPre B N v e → zEv sc mc d 0 (.ref 1 :: .int (zI p) :: lc) [] (zmk v u) 0 0 (zPi fun y w t => cOut B N o v w y ∧ u = t)) ∧ (∀ (d : Nat) v u, D ≤ d → MPre B N v e → zEv sc mm d 0 (.ref 79 :: .int (zI p) :: lm) [] (zmk v u) 0 0 (zPv fun w t => mOut B N o v w ∧ u = t))
section
variable {sc : Nat × (Nat → Int32)} {B : Int → Int} {N : Int}
/-- the dead reference -/
theorem lay90_1 {v : zV} {z : Int} (l0 : 0 ≤ zg v 82 7) (l1 : zg v 82 7 < 600) (z0 : -15 ≤ z) (z1 : z ≤ 9999) : lay90 v (zu (zu v 90 (600 + zg v 82 7) (zI (enc z))) 82 7 (zI (zg v 82 7 + 1))) [z] := by
  have er : -2147483648 ≤ enc z ∧ enc z < 2147483648 := by unfold enc; repeat' split
                                                           all_goals omega
  refine ⟨by rw [zg_same (by omega)]; rfl, fun i hi => ?_, fun q hq => by rw [zu_ne (by omega), zu_ne (by omega)]⟩
  have : i = 0 := by simp at hi; exact hi
  subst this
  rw [zg_na (by decide), show 600 + zg v 82 7 + ((0 : Nat) : Int) = 600 + zg v 82 7 by omega, zg_same er]
  rfl
theorem isS_tk {e c : Int} (h : isS B N e c = true) : tk B N e = 3 ∧ B (ts B N e) = c := of_decide_eq_true h
theorem isS_2 {e c c' : Int} (h : isS B N e c = true) (hn : ¬ c = c') : ¬ isS B N e c' = true := fun h' => hn (by rw [← (isS_tk h).2, (isS_tk h').2])
theorem CPre_FC {v w : zV} {e e' : Int} (h : CPre B N v e) (hF : FC v w) (hC : CT B N w e') (he : e ≤ e') : CPre B N w e' := by
  obtain ⟨h1, h2, h3, h4⟩ := h
  have e12 : zg w 12 3 = zg v 12 3 := by simp only [zg]; rw [hF 12 3 (by omega)]
  exact ⟨TXc_P h1 (FC_FP hF), hC, by omega, by omega⟩
theorem MPre_FR {v w : zV} {e e' : Int} (h : MPre B N v e) (hF : FRm v w) (hC : RT B N w e') (he : e ≤ e') : MPre B N w e' := by
  obtain ⟨h1, h2, h3, h4, h5⟩ := h
  have e82 : zg w 82 7 = zg v 82 7 := by simp only [zg]; rw [hF 82 7 (by omega)]
  have e79 : zg w 79 21 = zg v 79 21 := by simp only [zg]; rw [hF 79 21 (by omega)]
  exact ⟨TXm_Q h1 (FRm_FQ hF), hC, by omega, by omega, by omega⟩
/-- a part -/
theorem LVpart {e p : Int} (e0 : 0 ≤ e) (e1 : e ≤ N) (n6 : N ≤ 600) (p0 : 0 ≤ p) (p5 : p ≤ 5) (H : isS B N e 40 = true → LV sc B N 86 150 [zJ, zJ] [zJ] (8 * (5 - p) + 18) 5 (p + 1) (te B N e)) : LV sc B N 92 156 [zJ] [zJ] (8 * (6 - p) + 12) 0 p e := by
  have h1 := ts_in (B := B) e1
  have h2 := te_in (B := B) e1
  have kr := tk_rg (B := B) (N := N) (e := e)
  by_cases hS : isS B N e 40 = true
  · have hk := (isS_tk hS).1
    obtain ⟨o, g, hc, hm⟩ := H hS
    have mark : mrk 40 = true ∧ mrk 41 = true := ⟨rfl, rfl⟩
    -- the class up to the expression
    have cgo : ∀ (d : Nat) v u, 8 * (6 - p) + 12 ≤ (d : Int) → CPre B N v e → ∀ Q, (∀ w y, FP v w → (∃ w1, FP v w1 ∧ w1 12 3 = v 12 3 ∧ (∀ q, w1 13 q = v 13 q) ∧ CPre B N w1 (te B N e) ∧ cOut B N o w1 w y) → zEv sc 92 d 26 [.ref 1, .int (zI p), zJ] [.int y] (zmk w u) 0 0 Q) → zEv sc 92 d 0 [.ref 1, .int (zI p), zJ] [] (zmk v u) 0 0 Q := by
      intro d v u hd hP Q k
      obtain ⟨hT, hC, l0, l1⟩ := id hP
      refine e_al0 o92_0 (e_gR o92_1 L1 rfl rfl (e_bip o92_4 rfl (e_Vi1 o92_6 K92 K39 rfl ⟨rfl, rfl⟩ (zrcv_I L2 rfl) (by omega) rfl (c39 hT hC e0 e1 (by omega)) ?_)))
      rintro _ _ _ ⟨rfl, rfl, rfl⟩
      refine e_bz_eq o92_9 44 rfl (fun hb9 => ?_) (fun hb9 => ?_)
      · exact absurd hS hb9
      · refine e_al0 o92_12 (e_gR o92_13 L1 rfl rfl (e_Vv0 o92_16 K92 K34 rfl ⟨rfl, rfl⟩ (zrcv_I L2 rfl) (by omega) rfl (c34 (e := te B N e) (by omega) hT hC.2.2.1 (by omega) (by omega)) ?_))
        rintro w1 u' ⟨⟨q1, q2⟩, rfl⟩
        refine e_al0 o92_19 (e_il1 o92_20 (e_ico o92_21 (e_add o92_22 (e_Vi1 o92_23 K92 K86 rfl ⟨rfl, rfl⟩ (zrcv_I L1 rfl) (by omega) rfl (hc (d - 1) w1 u (by omega) (CPre_FC hP q1 q2 (by omega))) ?_))))
        rintro y w u' ⟨hO, rfl⟩
        refine k w y (FP_t (FC_FP q1) ?_) ⟨w1, FC_FP q1, q1 12 3 (by omega), fun q => q1 13 q (by omega), CPre_FC hP q1 q2 (by omega), hO⟩
        cases o using PO_c with
        | ok e' L => exact hO.2.1
        | bad c q => exact hO.2.1
    cases o using PO_c with
    | bad c q =>
      refine ⟨.bad c q, ⟨g.1, fun z => absurd (Or.inr (Or.inr hS)) z⟩, ?_, ?_⟩
      · intro d v u hd hP
        refine cgo d v u hd hP _ ?_
        rintro w y hF ⟨w1, hF1, _, _, _, rfl, a2, a3, a4, a5⟩
        refine e_if_eq o92_26 42 rfl (by first | exact zg_rg _ _ _ | exact zt_rg _ | omega) (fun hb26 => ?_) (fun hb26 => ?_)
        · refine e_ico o92_42 ?_
          refine e_rI o92_43 K92 rfl rfl ?_
          exact ⟨⟨rfl, hF, a3, a4, a5⟩, rfl⟩
        · omega
      · intro d v u hd hP
        obtain ⟨hT, hR, hb, l0, l1⟩ := id hP
        have kk := tk_K hR
        have gc := g.1.1
        refine e_al0 o156_0 (e_gI o156_1 L79 rfl 21 rfl ?_)
        rw [hb]
        refine e_if_eq o156_4 8 rfl (by first | exact zg_rg _ _ _ | exact zt_rg _ | omega) (fun hb4 => ?_) (fun hb4 => ?_)
        · refine e_al0 o156_8 (e_gI o156_9 L79 rfl 17 rfl (e_ico o156_12 (e_ic_ne o156_13 29 rfl (by first | exact zg_rg _ _ _ | exact zt_rg _ | omega) (by first | exact zg_rg _ _ _ | exact zt_rg _ | omega) (fun hb13 => ?_) (fun hb13 => ?_))))
          · refine e_al0 o156_29 (e_gI o156_30 L79 rfl 17 rfl (e_ico o156_33 (e_ic_ne o156_34 75 rfl (by first | exact zg_rg _ _ _ | exact zt_rg _ | omega) (by first | exact zg_rg _ _ _ | exact zt_rg _ | omega) (fun hb34 => ?_) (fun hb34 => ?_))))
            · refine e_al0 o156_75 (e_bip o156_76 rfl (e_Vv1 o156_78 K156 K158 rfl ⟨rfl, rfl⟩ (zrcv_I L79 rfl) (by omega) rfl (m158 (c := 40) (by omega) hb hT hR e0 e1 mark.1) ?_))
              rintro w1 u' ⟨⟨_, q1, q2⟩ | ⟨q0, _⟩, rfl⟩
              rotate_left
              exact absurd hS q0
              refine e_al0 o156_81 (e_il1 o156_82 (e_ico o156_83 (e_add o156_84 (e_Vv1 o156_85 K156 K150 rfl ⟨rfl, rfl⟩ (zrcv_I L79 rfl) (by omega) rfl (hm (d - 1) w1 u (by omega) (MPre_FR hP q1 q2 (by omega))) ?_))))
              rintro w u' ⟨⟨b1, b2, b3⟩, rfl⟩
              refine e_al0 o156_88 (e_bip o156_89 rfl (e_Vv1 o156_91 K156 K158 rfl ⟨rfl, rfl⟩ (zrcv_I L79 rfl) (by omega) rfl (m158_d (by omega) (by omega)) ?_))
              rintro _ _ ⟨rfl, rfl⟩
              refine e_rV o156_94 K156 rfl rfl ?_
              exact ⟨⟨FQ_t (FRm_FQ q1) b1, b2, b3⟩, rfl⟩
            · omega
          · omega
        · omega
    | ok e2 L =>
      obtain ⟨⟨g1, g2, g3, g4, g5⟩, g6⟩ := g
      have h3 := ts_in (B := B) g2
      have h4 := te_in (B := B) g2
      by_cases hS2 : isS B N e2 41 = true
      · have hk2 := (isS_tk hS2).1
        refine ⟨.ok (te B N e2) L, ⟨⟨by omega, by omega, g3, by omega, fun c c0 => okL_mono (by omega) (g5 c c0)⟩, fun z => absurd (Or.inr (Or.inr hS)) z⟩, ?_, ?_⟩
        · intro d v u hd hP
          refine cgo d v u hd hP _ ?_
          rintro w y hF ⟨w1, hF1, x1, x2, hP1, rfl, a2, a3, a4⟩
          refine e_if_eq o92_26 42 rfl (by first | exact zg_rg _ _ _ | exact zt_rg _ | omega) (fun hb26 => ?_) (fun hb26 => ?_)
          · omega
          · refine e_al0 o92_29 (e_bip o92_30 rfl (e_Vi1 o92_32 K92 K93 rfl ⟨rfl, rfl⟩ (zrcv_I L1 rfl) (by omega) rfl (c93 (c := 41) (by omega) (TXc_P hP.1 hF) a3 (by omega) g2 (by omega)) ?_))
            rintro _ w2 u' ⟨⟨_, rfl, r1, r2⟩ | ⟨q0, _⟩, rfl⟩
            rotate_left
            exact absurd hS2 q0
            refine e_if_eq o92_35 42 rfl (by first | exact zg_rg _ _ _ | exact zt_rg _ | omega) (fun hb35 => ?_) (fun hb35 => ?_)
            · omega
            · refine e_ico o92_38 (e_goto o92_39 43 rfl ?_)
              refine e_rI o92_43 K92 rfl rfl ?_
              refine ⟨⟨rfl, FP_t hF (FC_FP r1), r2, ?_⟩, rfl⟩
              have e := lay13_t (lay13_t (lay13_r x2 x1) a4) (lay13_r (fun q => r1 13 q (by omega)) (r1 12 3 (by omega)))
              rw [List.nil_append, List.append_nil] at e
              exact e
        · intro d v u hd hP
          obtain ⟨hT, hR, hb, l0, l1⟩ := id hP
          have kk := tk_K hR
          refine e_al0 o156_0 (e_gI o156_1 L79 rfl 21 rfl ?_)
          rw [hb]
          refine e_if_eq o156_4 8 rfl (by first | exact zg_rg _ _ _ | exact zt_rg _ | omega) (fun hb4 => ?_) (fun hb4 => ?_)
          · refine e_al0 o156_8 (e_gI o156_9 L79 rfl 17 rfl (e_ico o156_12 (e_ic_ne o156_13 29 rfl (by first | exact zg_rg _ _ _ | exact zt_rg _ | omega) (by first | exact zg_rg _ _ _ | exact zt_rg _ | omega) (fun hb13 => ?_) (fun hb13 => ?_))))
            · refine e_al0 o156_29 (e_gI o156_30 L79 rfl 17 rfl (e_ico o156_33 (e_ic_ne o156_34 75 rfl (by first | exact zg_rg _ _ _ | exact zt_rg _ | omega) (by first | exact zg_rg _ _ _ | exact zt_rg _ | omega) (fun hb34 => ?_) (fun hb34 => ?_))))
              · refine e_al0 o156_75 (e_bip o156_76 rfl (e_Vv1 o156_78 K156 K158 rfl ⟨rfl, rfl⟩ (zrcv_I L79 rfl) (by omega) rfl (m158 (c := 40) (by omega) hb hT hR e0 e1 mark.1) ?_))
                rintro w1 u' ⟨⟨_, q1, q2⟩ | ⟨q0, _⟩, rfl⟩
                rotate_left
                exact absurd hS q0
                refine e_al0 o156_81 (e_il1 o156_82 (e_ico o156_83 (e_add o156_84 (e_Vv1 o156_85 K156 K150 rfl ⟨rfl, rfl⟩ (zrcv_I L79 rfl) (by omega) rfl (hm (d - 1) w1 u (by omega) (MPre_FR hP q1 q2 (by omega))) ?_))))
                rintro w u' ⟨⟨b1, b2, b3, b4⟩, rfl⟩
                refine e_al0 o156_88 (e_bip o156_89 rfl (e_Vv1 o156_91 K156 K158 rfl ⟨rfl, rfl⟩ (zrcv_I L79 rfl) (by omega) rfl (m158 (c := 41) (by omega) b2 (TXm_Q (TXm_Q hT (FRm_FQ q1)) b1) b3 (by omega) g2 mark.2) ?_))
                rintro w2 u' ⟨⟨_, r1, r2⟩ | ⟨q0, _⟩, rfl⟩
                rotate_left
                exact absurd hS2 q0
                refine e_rV o156_94 K156 rfl rfl ?_
                refine ⟨⟨FQ_t (FQ_t (FRm_FQ q1) b1) (FRm_FQ r1), ?_, r2, ?_⟩, rfl⟩
                · simp only [zg]; rw [r1 79 21 (by omega)]; exact b2
                · have e := lay90_t (lay90_t (lay90_r (fun q => q1 90 q (by omega)) (q1 82 7 (by omega))) b4) (lay90_r (fun q => r1 90 q (by omega)) (r1 82 7 (by omega)))
                  rw [List.nil_append, List.append_nil] at e
                  exact e
              · omega
            · omega
          · omega
      · refine ⟨.bad 1 (ts B N e2), ⟨⟨by omega, by omega, by omega, by omega⟩, fun z => absurd (Or.inr (Or.inr hS)) z⟩, ?_, ?_⟩
        · intro d v u hd hP
          refine cgo d v u hd hP _ ?_
          rintro w y hF ⟨w1, hF1, x1, x2, hP1, rfl, a2, a3, a4⟩
          have lw := a4.1
          have l1' := hP1.2.2
          refine e_if_eq o92_26 42 rfl (by first | exact zg_rg _ _ _ | exact zt_rg _ | omega) (fun hb26 => ?_) (fun hb26 => ?_)
          · omega
          · refine e_al0 o92_29 (e_bip o92_30 rfl (e_Vi1 o92_32 K92 K93 rfl ⟨rfl, rfl⟩ (zrcv_I L1 rfl) (by omega) rfl (c93 (c := 41) (by omega) (TXc_P hP.1 hF) a3 (by omega) g2 (by omega)) ?_))
            rintro _ w2 u' ⟨⟨q0, _⟩ | ⟨_, rfl, rfl⟩, rfl⟩
            exact absurd q0 hS2
            refine e_if_eq o92_35 42 rfl (by first | exact zg_rg _ _ _ | exact zt_rg _ | omega) (fun hb35 => ?_) (fun hb35 => ?_)
            · refine e_ico o92_42 ?_
              refine e_rI o92_43 K92 rfl rfl ?_
              refine ⟨⟨rfl, FP_t hF (fun a q k1 k2 k3 k4 => by rw [zu_ne (by omega), zu_ne (by omega)]), ?_, ?_, ?_⟩, rfl⟩
              · rw [zg_ne (by omega), zg_same (by omega)]
              · rw [zg_same (by omega)]
              · rw [zg_na (by decide), zg_na (by decide)]; omega
            · omega
        · intro d v u hd hP
          obtain ⟨hT, hR, hb, l0, l1⟩ := id hP
          have kk := tk_K hR
          refine e_al0 o156_0 (e_gI o156_1 L79 rfl 21 rfl ?_)
          rw [hb]
          refine e_if_eq o156_4 8 rfl (by first | exact zg_rg _ _ _ | exact zt_rg _ | omega) (fun hb4 => ?_) (fun hb4 => ?_)
          · refine e_al0 o156_8 (e_gI o156_9 L79 rfl 17 rfl (e_ico o156_12 (e_ic_ne o156_13 29 rfl (by first | exact zg_rg _ _ _ | exact zt_rg _ | omega) (by first | exact zg_rg _ _ _ | exact zt_rg _ | omega) (fun hb13 => ?_) (fun hb13 => ?_))))
            · refine e_al0 o156_29 (e_gI o156_30 L79 rfl 17 rfl (e_ico o156_33 (e_ic_ne o156_34 75 rfl (by first | exact zg_rg _ _ _ | exact zt_rg _ | omega) (by first | exact zg_rg _ _ _ | exact zt_rg _ | omega) (fun hb34 => ?_) (fun hb34 => ?_))))
              · refine e_al0 o156_75 (e_bip o156_76 rfl (e_Vv1 o156_78 K156 K158 rfl ⟨rfl, rfl⟩ (zrcv_I L79 rfl) (by omega) rfl (m158 (c := 40) (by omega) hb hT hR e0 e1 mark.1) ?_))
                rintro w1 u' ⟨⟨_, q1, q2⟩ | ⟨q0, _⟩, rfl⟩
                rotate_left
                exact absurd hS q0
                refine e_al0 o156_81 (e_il1 o156_82 (e_ico o156_83 (e_add o156_84 (e_Vv1 o156_85 K156 K150 rfl ⟨rfl, rfl⟩ (zrcv_I L79 rfl) (by omega) rfl (hm (d - 1) w1 u (by omega) (MPre_FR hP q1 q2 (by omega))) ?_))))
                rintro w u' ⟨⟨b1, b2, b3, b4⟩, rfl⟩
                refine e_al0 o156_88 (e_bip o156_89 rfl (e_Vv1 o156_91 K156 K158 rfl ⟨rfl, rfl⟩ (zrcv_I L79 rfl) (by omega) rfl (m158 (c := 41) (by omega) b2 (TXm_Q (TXm_Q hT (FRm_FQ q1)) b1) b3 (by omega) g2 mark.2) ?_))
                rintro w2 u' ⟨⟨q0, _⟩ | ⟨_, rfl⟩, rfl⟩
                exact absurd q0 hS2
                refine e_rV o156_94 K156 rfl rfl ?_
                refine ⟨⟨FQ_t (FQ_t (FRm_FQ q1) b1) (fun a q k1 k2 k3 => by rw [zu_ne (by omega), zu_ne (by omega)]), ?_, ?_⟩, rfl⟩
                · rw [zg_ne (by omega), zg_same (by omega)]
                · rw [zg_same (by omega)]
              · omega
            · omega
          · omega
  · by_cases hk : tk B N e = 1
    · have hv := kV_rg (B := B) (N := N) (e := e)
      by_cases hz : kV B N e = -1
      · refine ⟨.bad 3 (ts B N e), ⟨⟨by omega, by omega, by omega, by omega⟩, fun z => absurd (Or.inr (Or.inl hk)) z⟩, ?_, ?_⟩
        · intro d v u hd hP
          obtain ⟨hT, hC, l0, l1⟩ := hP
          refine e_al0 o92_0 (e_gR o92_1 L1 rfl rfl (e_bip o92_4 rfl (e_Vi1 o92_6 K92 K39 rfl ⟨rfl, rfl⟩ (zrcv_I L2 rfl) (by omega) rfl (c39 hT hC e0 e1 (by omega)) ?_)))
          rintro _ _ _ ⟨rfl, rfl, rfl⟩
          refine e_bz_eq o92_9 44 rfl (fun hb9 => ?_) (fun hb9 => ?_)
          · refine e_al0 o92_44 (e_gR o92_45 L1 rfl rfl (e_gI o92_48 L2 rfl 2 rfl (e_ico o92_51 ?_)))
            rw [hC.1, hk]
            refine e_ic_eq o92_52 80 rfl (by first | exact zg_rg _ _ _ | exact zt_rg _ | omega) (by first | exact zg_rg _ _ _ | exact zt_rg _ | omega) (fun hb52 => ?_) (fun hb52 => ?_)
            · refine e_al0 o92_80 (e_Vi0 o92_81 K92 K94 rfl ⟨rfl, rfl⟩ (zrcv_I L1 rfl) (by omega) rfl (c94 (by omega) hT hC e0 e1) ?_)
              rintro _ _ _ ⟨rfl, rfl, rfl⟩
              rw [if_pos hz]
              refine e_is2 o92_84 (e_il2 o92_85 (e_if_ne o92_86 95 rfl (by first | exact zg_rg _ _ _ | exact zt_rg _ | omega) (fun hb86 => ?_) (fun hb86 => ?_)))
              · omega
              · refine e_al0 o92_89 (e_ico o92_90 (e_Vi1 o92_91 K92 K81 rfl ⟨rfl, rfl⟩ (zrcv_I L1 rfl) (by omega) rfl (c81 (c := 3) hC e1 (by omega)) ?_))
                rintro _ _ _ ⟨rfl, rfl, rfl⟩
                refine e_rI o92_94 K92 rfl rfl ?_
                refine ⟨⟨rfl, fun a q g1 g2 g3 g4 => by rw [zu_ne (by omega), zu_ne (by omega)], ?_, ?_, ?_⟩, rfl⟩
                · rw [zg_ne (by omega), zg_same (by omega)]
                · rw [zg_same (by omega)]
                · rw [zg_na (by decide), zg_na (by decide)]; omega
            · omega
          · exact absurd hb9 hS
        · intro d v u hd hP
          obtain ⟨hT, hR, hb, l0, l1⟩ := hP
          have kk := tk_K hR
          have w1 : ¬ zg (zu (zu v 79 21 (zI 3)) 79 22 (zI (ts B N e))) 79 21 = 0 := by rw [zg_ne (by omega), zg_same (by omega)]; omega
          refine e_al0 o156_0 (e_gI o156_1 L79 rfl 21 rfl ?_)
          rw [hb]
          refine e_if_eq o156_4 8 rfl (by first | exact zg_rg _ _ _ | exact zt_rg _ | omega) (fun hb4 => ?_) (fun hb4 => ?_)
          · refine e_al0 o156_8 (e_gI o156_9 L79 rfl 17 rfl (e_ico o156_12 (e_ic_ne o156_13 29 rfl (by first | exact zg_rg _ _ _ | exact zt_rg _ | omega) (by first | exact zg_rg _ _ _ | exact zt_rg _ | omega) (fun hb13 => ?_) (fun hb13 => ?_))))
            · refine e_al0 o156_29 (e_gI o156_30 L79 rfl 17 rfl (e_ico o156_33 (e_ic_ne o156_34 75 rfl (by first | exact zg_rg _ _ _ | exact zt_rg _ | omega) (by first | exact zg_rg _ _ _ | exact zt_rg _ | omega) (fun hb34 => ?_) (fun hb34 => ?_))))
              · omega
              · refine e_al0 o156_37 (e_al0 o156_38 (e_gR o156_39 L79 rfl rfl (e_Vi1 o156_42 K156 K140 rfl ⟨rfl, rfl⟩ (zrcv_I L79 rfl) (by omega) rfl (m140_V (by omega) hb hT hR e0 e1) ?_)))
                rintro _ _ _ ⟨rfl, rfl, rfl⟩
                rw [hz]
                refine e_is2 o156_45 (e_il2 o156_46 (e_ico o156_47 (e_ic_ne o156_48 56 rfl (by first | exact zg_rg _ _ _ | exact zt_rg _ | omega) (by first | exact zg_rg _ _ _ | exact zt_rg _ | omega) (fun hb48 => ?_) (fun hb48 => ?_))))
                · omega
                · refine e_al0 o156_51 (e_ico o156_52 (e_Vv1 o156_53 K156 K142 rfl ⟨rfl, rfl⟩ (zrcv_I L79 rfl) (by omega) rfl (m142 hb) ?_))
                  rintro _ _ ⟨rfl, rfl⟩
                  rw [hR.2.1]
                  refine e_al0 o156_56 (e_ico o156_57 (e_il2 o156_58 (e_sub o156_59 (e_Vv1 o156_60 K156 K157 rfl ⟨rfl, rfl⟩ (zrcv_I L79 rfl) (by omega) rfl (m157_d w1) ?_))))
                  rintro _ _ ⟨rfl, rfl⟩
                  refine e_al0 o156_63 (e_gI o156_64 L79 rfl 21 rfl (e_if_ne o156_67 74 rfl (by first | exact zg_rg _ _ _ | exact zt_rg _ | omega) (fun hb67 => ?_) (fun hb67 => ?_)))
                  · refine e_rV o156_74 K156 rfl rfl ?_
                    refine ⟨⟨fun a q g1 g2 g3 => by rw [zu_ne (by omega), zu_ne (by omega)], ?_, ?_⟩, rfl⟩
                    · rw [zg_ne (by omega), zg_same (by omega)]
                    · rw [zg_same (by omega)]
                  · exact absurd hb67 w1
            · omega
          · omega
      · refine ⟨.ok (te B N e) [-1 - kV B N e], ⟨⟨by omega, by omega, by simp, by simp; omega, fun c c0 => ⟨by omega, ?_⟩⟩, fun z => absurd (Or.inr (Or.inl hk)) z⟩, ?_, ?_⟩
        · show dnx _ c = c + 1
          unfold dnx
          rw [if_pos (by omega)]
        · intro d v u hd hP
          obtain ⟨hT, hC, l0, l1⟩ := hP
          refine e_al0 o92_0 (e_gR o92_1 L1 rfl rfl (e_bip o92_4 rfl (e_Vi1 o92_6 K92 K39 rfl ⟨rfl, rfl⟩ (zrcv_I L2 rfl) (by omega) rfl (c39 hT hC e0 e1 (by omega)) ?_)))
          rintro _ _ _ ⟨rfl, rfl, rfl⟩
          refine e_bz_eq o92_9 44 rfl (fun hb9 => ?_) (fun hb9 => ?_)
          · refine e_al0 o92_44 (e_gR o92_45 L1 rfl rfl (e_gI o92_48 L2 rfl 2 rfl (e_ico o92_51 ?_)))
            rw [hC.1, hk]
            refine e_ic_eq o92_52 80 rfl (by first | exact zg_rg _ _ _ | exact zt_rg _ | omega) (by first | exact zg_rg _ _ _ | exact zt_rg _ | omega) (fun hb52 => ?_) (fun hb52 => ?_)
            · refine e_al0 o92_80 (e_Vi0 o92_81 K92 K94 rfl ⟨rfl, rfl⟩ (zrcv_I L1 rfl) (by omega) rfl (c94 (by omega) hT hC e0 e1) ?_)
              rintro _ _ _ ⟨rfl, rfl, rfl⟩
              rw [if_neg hz]
              refine e_is2 o92_84 (e_il2 o92_85 (e_if_ne o92_86 95 rfl (by first | exact zg_rg _ _ _ | exact zt_rg _ | omega) (fun hb86 => ?_) (fun hb86 => ?_)))
              · refine e_al0 o92_95 (e_gR o92_96 L1 rfl rfl (e_gR o92_99 L4 rfl rfl (e_il2 o92_102 (e_Vv1 o92_103 K92 K41 rfl ⟨rfl, rfl⟩ (zrcv_I L12 rfl) (by omega) rfl (c41 (by omega) (by omega)) ?_))))
                rintro w u' ⟨⟨q1, q2, q3, q4, q5⟩, rfl⟩
                refine e_al0 o92_106 (e_gR o92_107 L1 rfl rfl (e_Vv0 o92_110 K92 K34 rfl ⟨rfl, rfl⟩ (zrcv_I L2 rfl) (by omega) rfl (c34 (e := te B N e) (by omega) (TXc_P hT q1) (by simp only [zg]; rw [q3]; exact hC.2.2.1) (by omega) (by omega)) ?_))
                rintro w' u' ⟨⟨r1, r2⟩, rfl⟩
                refine e_ico o92_113 ?_
                refine e_rI o92_114 K92 (by decide) rfl ?_
                refine ⟨⟨rfl, FP_t q1 (FC_FP r1), r2, ?_⟩, rfl⟩
                have e := lay13_t (q5 (by omega)) (lay13_r (fun q => r1 13 q (by omega)) (r1 12 3 (by omega)))
                exact e
              · omega
            · omega
          · exact absurd hb9 hS
        · intro d v u hd hP
          obtain ⟨hT, hR, hb, l0, l1⟩ := hP
          have kk := tk_K hR
          have k4 := hR.2.2.2.1
          refine e_al0 o156_0 (e_gI o156_1 L79 rfl 21 rfl ?_)
          rw [hb]
          refine e_if_eq o156_4 8 rfl (by first | exact zg_rg _ _ _ | exact zt_rg _ | omega) (fun hb4 => ?_) (fun hb4 => ?_)
          · refine e_al0 o156_8 (e_gI o156_9 L79 rfl 17 rfl (e_ico o156_12 (e_ic_ne o156_13 29 rfl (by first | exact zg_rg _ _ _ | exact zt_rg _ | omega) (by first | exact zg_rg _ _ _ | exact zt_rg _ | omega) (fun hb13 => ?_) (fun hb13 => ?_))))
            · refine e_al0 o156_29 (e_gI o156_30 L79 rfl 17 rfl (e_ico o156_33 (e_ic_ne o156_34 75 rfl (by first | exact zg_rg _ _ _ | exact zt_rg _ | omega) (by first | exact zg_rg _ _ _ | exact zt_rg _ | omega) (fun hb34 => ?_) (fun hb34 => ?_))))
              · omega
              · refine e_al0 o156_37 (e_al0 o156_38 (e_gR o156_39 L79 rfl rfl (e_Vi1 o156_42 K156 K140 rfl ⟨rfl, rfl⟩ (zrcv_I L79 rfl) (by omega) rfl (m140_V (by omega) hb hT hR e0 e1) ?_)))
                rintro _ _ _ ⟨rfl, rfl, rfl⟩
                refine e_is2 o156_45 (e_il2 o156_46 (e_ico o156_47 (e_ic_ne o156_48 56 rfl (by first | exact zg_rg _ _ _ | exact zt_rg _ | omega) (by first | exact zg_rg _ _ _ | exact zt_rg _ | omega) (fun hb48 => ?_) (fun hb48 => ?_))))
                · refine e_al0 o156_56 (e_ico o156_57 (e_il2 o156_58 (e_sub o156_59 (e_Vv1 o156_60 K156 K157 rfl ⟨rfl, rfl⟩ (zrcv_I L79 rfl) (by omega) rfl (m157 hb rfl l0 (by omega)) ?_))))
                  rintro _ _ ⟨rfl, rfl⟩
                  refine e_al0 o156_63 (e_gI o156_64 L79 rfl 21 rfl ?_)
                  rw [zg_na (by decide), zg_na (by decide), hb]
                  refine e_if_ne o156_67 74 rfl (by first | exact zg_rg _ _ _ | exact zt_rg _ | omega) (fun hb67 => ?_) (fun hb67 => ?_)
                  · omega
                  · refine e_al0 o156_70 (e_Vv0 o156_71 K156 K134 rfl ⟨rfl, rfl⟩ (zrcv_I L79 rfl) (by omega) rfl (m134 (e := te B N e) (by omega) (TXm_w hT (fun q => by rw [zu_ne (by omega), zu_ne (by omega)]) (by rw [zu_ne (by omega), zu_ne (by omega)])) (by rw [zg_na (by decide), zg_na (by decide)]; exact k4) (by omega) (by omega)) ?_)
                    rintro w u' ⟨⟨q1, q2⟩, rfl⟩
                    refine e_rV o156_74 K156 rfl rfl ?_
                    refine ⟨⟨fun a q g1 g2 g3 => by rw [q1 a q (by omega), zu_ne (by omega), zu_ne (by omega)], ?_, q2, ?_⟩, rfl⟩
                    · simp only [zg]; rw [q1 79 21 (by omega), zu_ne (by omega), zu_ne (by omega)]; exact hb
                    have e9 := lay90_1 (z := -1 - kV B N e) l0 (by omega) (by omega) (by omega)
                    rw [show enc (-1 - kV B N e) = -1 - kV B N e by unfold enc; rw [if_pos (by omega)]] at e9
                    exact lay90_t e9 (lay90_r (fun q => q1 90 q (by omega)) (q1 82 7 (by omega)))
                · omega
            · omega
          · omega
    · have hc : ∀ (d : Nat) v u, 8 * (6 - p) + 12 ≤ (d : Int) → CPre B N v e → ∀ Q, (∀ w y w1, FP v w → w1 12 3 = v 12 3 → (∀ q, w1 13 q = v 13 q) → ((nF B N e 0 9999 = 0 ∧ zI 1 = y ∧ CT B N w1 (te B N e) ∧ lay13 w1 w [tn B N e]) ∨ (¬ nF B N e 0 9999 = 0 ∧ zI 0 = y ∧ zg w 1 2 = nF B N e 0 9999 ∧ zg w 1 3 = ts B N e)) → (∀ q, w 2 q = w1 2 q) → (0 ≤ zg w 12 3 ∧ zg w 12 3 ≤ 600) → zEv sc 92 d 79 [.ref 1, .int (zI p), .int y] [.int y] (zmk w u) 0 0 Q) → zEv sc 92 d 0 [.ref 1, .int (zI p), zJ] [] (zmk v u) 0 0 Q := by
        intro d v u hd hP Q k
        obtain ⟨hT, hC, l0, l1⟩ := id hP
        refine e_al0 o92_0 (e_gR o92_1 L1 rfl rfl (e_bip o92_4 rfl (e_Vi1 o92_6 K92 K39 rfl ⟨rfl, rfl⟩ (zrcv_I L2 rfl) (by omega) rfl (c39 hT hC e0 e1 (by omega)) ?_)))
        rintro _ _ _ ⟨rfl, rfl, rfl⟩
        refine e_bz_eq o92_9 44 rfl (fun hb9 => ?_) (fun hb9 => ?_)
        · refine e_al0 o92_44 (e_gR o92_45 L1 rfl rfl (e_gI o92_48 L2 rfl 2 rfl (e_ico o92_51 ?_)))
          rw [hC.1]
          refine e_ic_eq o92_52 80 rfl (by first | exact zg_rg _ _ _ | exact zt_rg _ | omega) (by first | exact zg_rg _ _ _ | exact zt_rg _ | omega) (fun hb52 => ?_) (fun hb52 => ?_)
          · omega
          · refine e_al0 o92_55 (e_ico o92_56 (e_sip o92_57 rfl (e_Vi2 o92_60 K92 K82 rfl ⟨rfl, rfl⟩ (zrcv_I L1 rfl) (by omega) rfl (c82 (e := e) (least := 0) (top := 9999) (by omega) hT hC e0 e1 (by omega) (by omega)) ?_)))
            rintro y w1 u' ⟨hO, rfl⟩
            have hk1 : w1 12 3 = v 12 3 ∧ (∀ q, w1 13 q = v 13 q) ∧ FP v w1 := by rcases hO with ⟨_, _, q1, _, _⟩ | ⟨_, _, rfl⟩; exact ⟨q1 12 3 (by omega) (by omega), fun q => q1 13 q (by omega) (by omega), fun a q k1 k2 k3 k4 => q1 a q (by omega) (by omega)⟩; exact ⟨by rw [zu_ne (by omega), zu_ne (by omega)], fun q => by rw [zu_ne (by omega), zu_ne (by omega)], fun a q k1 k2 k3 k4 => by rw [zu_ne (by omega), zu_ne (by omega)]⟩
            refine e_is2 o92_63 ?_
            have e12 : zg w1 12 3 = zg v 12 3 := by simp only [zg]; rw [hk1.1]
            refine e_al0 o92_64 (e_gR o92_65 L1 rfl rfl (e_gR o92_68 L4 rfl rfl (e_al0 o92_71 (e_gI o92_72 L1 rfl 4 rfl (e_Vv1 o92_75 K92 K41 rfl ⟨rfl, rfl⟩ (zrcv_I L12 rfl) (by omega) rfl (c41 (by omega) (zg_rg _ _ _)) ?_)))))
            rintro w u' ⟨⟨q1, q2, q3, q4, q5⟩, rfl⟩
            refine e_il2 o92_78 ?_
            refine k w y w1 (FP_t hk1.2.2 q1) hk1.1 hk1.2.1 ?_ q3 q4
            rcases hO with ⟨o1, o2, o3, o4, o5⟩ | ⟨o1, o2, rfl⟩
            · left
              rw [o5] at q5
              have htk : ¬ tk B N e = 0 := by intro z; unfold nF at o1; rw [if_neg (by omega)] at o1; omega
              exact ⟨o1, o2, o4, q5 (by omega)⟩
            · right
              refine ⟨o1, o2, ?_, ?_⟩
              · simp only [zg]; rw [q2, zu_ne (by omega), zu_same, zI_to (by have := nF_rg (B := B) (N := N) (e := e) (a := 0) (b := 9999); omega)]
              · simp only [zg]; rw [q2, zu_same, zI_to (by omega)]
        · exact absurd hb9 hS
      have nr := nF_rg (B := B) (N := N) (e := e) (a := 0) (b := 9999)
      by_cases hn : nF B N e 0 9999 = 0
      · have hk2 : tk B N e = 2 := by apply Classical.byContradiction; intro z; unfold nF at hn; rw [if_neg z] at hn; omega
        have hb2 := tn_bd e1 hk2
        have hb3 : 0 ≤ tn B N e := by unfold nF at hn; rw [if_pos hk2] at hn; split at hn <;> omega
        refine ⟨.ok (te B N e) [tn B N e], ⟨⟨by omega, by omega, by simp, by simp; omega, fun c c0 => ⟨by omega, ?_⟩⟩, fun z => absurd (Or.inl hk2) z⟩, ?_, ?_⟩
        · show dnx _ c = c + 1
          unfold dnx
          rw [if_pos (by omega)]
        · intro d v u hd hP
          refine hc d v u hd hP _ ?_
          intro w y w1 hF x1 x2 hO x3 x4
          rcases hO with ⟨_, rfl, o3, o4⟩ | ⟨o1, _⟩
          · skip
            refine e_rI o92_79 K92 rfl rfl ?_
            refine ⟨⟨rfl, hF, ?_, ?_⟩, rfl⟩
            · unfold CT at o3 ⊢
              rw [show zg w 2 = zg w1 2 from zg_fn x3]
              exact o3
            · have e := lay13_t (lay13_r x2 x1) o4
              exact e
          · exact absurd hn o1
        · intro d v u hd hP
          obtain ⟨hT, hR, hb, l0, l1⟩ := id hP
          have kk := tk_K hR
          refine e_al0 o156_0 (e_gI o156_1 L79 rfl 21 rfl ?_)
          rw [hb]
          refine e_if_eq o156_4 8 rfl (by first | exact zg_rg _ _ _ | exact zt_rg _ | omega) (fun hb4 => ?_) (fun hb4 => ?_)
          · refine e_al0 o156_8 (e_gI o156_9 L79 rfl 17 rfl (e_ico o156_12 (e_ic_ne o156_13 29 rfl (by first | exact zg_rg _ _ _ | exact zt_rg _ | omega) (by first | exact zg_rg _ _ _ | exact zt_rg _ | omega) (fun hb13 => ?_) (fun hb13 => ?_))))
            · omega
            · refine e_al0 o156_16 (e_al0 o156_17 (e_ico o156_18 (e_sip o156_19 rfl (e_Vi2 o156_22 K156 K144 rfl ⟨rfl, rfl⟩ (zrcv_I L79 rfl) (by omega) rfl (m144 (least := 0) (top := 9999) (by omega) hb hT hR e0 e1 (by omega) (by omega)) ?_))))
              rintro _ w1 u' ⟨⟨_, rfl, q1, q2⟩ | ⟨q0, _⟩, rfl⟩
              rotate_left
              exact absurd hn q0
              have e82 : zg w1 82 7 = zg v 82 7 := by simp only [zg]; rw [q1 82 7 (by omega)]
              refine e_Vv1 o156_25 K156 K157 rfl ⟨rfl, rfl⟩ (zrcv_I L79 rfl) (by omega) rfl (m157 (by simp only [zg]; rw [q1 79 21 (by omega)]; exact hb) rfl (by omega) (by omega)) ?_
              rintro _ _ ⟨rfl, rfl⟩
              refine e_rV o156_28 K156 rfl rfl ?_
              refine ⟨⟨FQ_t (FRm_FQ q1) (fun a q k1 k2 k3 => by rw [zu_ne (by omega), zu_ne (by omega)]), ?_, ?_, ?_⟩, rfl⟩
              · rw [zg_na (by decide), zg_na (by decide)]; simp only [zg]; rw [q1 79 21 (by omega)]; exact hb
              · unfold RT at q2 ⊢
                have z79 : ∀ q, zg (zu (zu w1 90 (600 + zg w1 82 7) (zI (tn B N e))) 82 7 (zI (zg w1 82 7 + 1))) 79 q = zg w1 79 q := fun q => by rw [zg_na (by decide), zg_na (by decide)]
                rw [z79, z79, z79, z79, z79]
                exact q2
              · have e9 := lay90_1 (v := w1) (z := tn B N e) (by omega) (by omega) (by omega) (by omega)
                rw [show enc (tn B N e) = tn B N e by unfold enc; rw [if_pos (by omega)]] at e9
                have e := lay90_t (lay90_r (fun q => q1 90 q (by omega)) (q1 82 7 (by omega))) e9
                exact e
          · omega
      · refine ⟨.bad (nF B N e 0 9999) (ts B N e), ⟨⟨by omega, by omega, by omega, by omega⟩, fun z => ?_⟩, ?_, ?_⟩
        · have : ¬ tk B N e = 2 := fun h => z (Or.inl h)
          rw [show nF B N e 0 9999 = 1 by unfold nF; rw [if_neg this]]
        · intro d v u hd hP
          refine hc d v u hd hP _ ?_
          intro w y w1 hF x1 x2 hO x3 x4
          rcases hO with ⟨o1, _⟩ | ⟨_, rfl, o2, o3⟩
          · exact absurd o1 hn
          · skip
            refine e_rI o92_79 K92 rfl rfl ?_
            exact ⟨⟨rfl, hF, o2, o3, x4⟩, rfl⟩
        · intro d v u hd hP
          obtain ⟨hT, hR, hb, l0, l1⟩ := id hP
          have kk := tk_K hR
          by_cases hk2 : tk B N e = 2
          · skip
            refine e_al0 o156_0 (e_gI o156_1 L79 rfl 21 rfl ?_)
            rw [hb]
            refine e_if_eq o156_4 8 rfl (by first | exact zg_rg _ _ _ | exact zt_rg _ | omega) (fun hb4 => ?_) (fun hb4 => ?_)
            · refine e_al0 o156_8 (e_gI o156_9 L79 rfl 17 rfl (e_ico o156_12 (e_ic_ne o156_13 29 rfl (by first | exact zg_rg _ _ _ | exact zt_rg _ | omega) (by first | exact zg_rg _ _ _ | exact zt_rg _ | omega) (fun hb13 => ?_) (fun hb13 => ?_))))
              · omega
              · refine e_al0 o156_16 (e_al0 o156_17 (e_ico o156_18 (e_sip o156_19 rfl (e_Vi2 o156_22 K156 K144 rfl ⟨rfl, rfl⟩ (zrcv_I L79 rfl) (by omega) rfl (m144 (least := 0) (top := 9999) (by omega) hb hT hR e0 e1 (by omega) (by omega)) ?_))))
                rintro _ w1 u' ⟨⟨q0, _⟩ | ⟨_, rfl, rfl⟩, rfl⟩
                exact absurd q0 hn
                refine e_Vv1 o156_25 K156 K157 rfl ⟨rfl, rfl⟩ (zrcv_I L79 rfl) (by omega) rfl (m157_d (by rw [zg_ne (by omega), zg_same (by omega)]; omega)) ?_
                rintro _ _ ⟨rfl, rfl⟩
                refine e_rV o156_28 K156 rfl rfl ?_
                refine ⟨⟨fun a q k1 k2 k3 => by rw [zu_ne (by omega), zu_ne (by omega)], ?_, ?_⟩, rfl⟩
                · rw [zg_ne (by omega), zg_same (by omega)]
                · rw [zg_same (by omega)]
            · omega
          · have e1' : nF B N e 0 9999 = 1 := by unfold nF; rw [if_neg hk2]
            rw [e1']
            have w1 : ¬ zg (zu (zu v 79 21 (zI 1)) 79 22 (zI (ts B N e))) 79 21 = 0 := by rw [zg_ne (by omega), zg_same (by omega)]; omega
            have d150 : ∀ x, zEv sc 150 (d - 1) 0 [.ref 79, .int (zI x), zJ] [] (zmk (zu (zu v 79 21 (zI 1)) 79 22 (zI (ts B N e))) u) 0 0 (zdo (zu (zu v 79 21 (zI 1)) 79 22 (zI (ts B N e))) u) := by
              intro x
              refine e_al0 o150_0 (e_gI o150_1 L79 rfl 21 rfl (e_if_eq o150_4 8 rfl (by first | exact zg_rg _ _ _ | exact zt_rg _ | omega) (fun hb4 => ?_) (fun hb4 => ?_)))
              · exact absurd hb4 w1
              · refine e_rV o150_7 K150 rfl rfl ?_
                exact ⟨rfl, rfl⟩
            refine e_al0 o156_0 (e_gI o156_1 L79 rfl 21 rfl ?_)
            rw [hb]
            refine e_if_eq o156_4 8 rfl (by first | exact zg_rg _ _ _ | exact zt_rg _ | omega) (fun hb4 => ?_) (fun hb4 => ?_)
            · refine e_al0 o156_8 (e_gI o156_9 L79 rfl 17 rfl (e_ico o156_12 (e_ic_ne o156_13 29 rfl (by first | exact zg_rg _ _ _ | exact zt_rg _ | omega) (by first | exact zg_rg _ _ _ | exact zt_rg _ | omega) (fun hb13 => ?_) (fun hb13 => ?_))))
              · refine e_al0 o156_29 (e_gI o156_30 L79 rfl 17 rfl (e_ico o156_33 (e_ic_ne o156_34 75 rfl (by first | exact zg_rg _ _ _ | exact zt_rg _ | omega) (by first | exact zg_rg _ _ _ | exact zt_rg _ | omega) (fun hb34 => ?_) (fun hb34 => ?_))))
                · refine e_al0 o156_75 (e_bip o156_76 rfl (e_Vv1 o156_78 K156 K158 rfl ⟨rfl, rfl⟩ (zrcv_I L79 rfl) (by omega) rfl (m158 (c := 40) (by omega) hb hT hR e0 e1 rfl) ?_))
                  rintro w' u' ⟨⟨q0, _⟩ | ⟨_, rfl⟩, rfl⟩
                  exact absurd q0 hS
                  refine e_al0 o156_81 (e_il1 o156_82 (e_ico o156_83 (e_add o156_84 (e_Vv1 o156_85 K156 K150 rfl ⟨rfl, rfl⟩ (zrcv_I L79 rfl) (by omega) rfl (d150 _) ?_))))
                  rintro _ _ ⟨rfl, rfl⟩
                  refine e_al0 o156_88 (e_bip o156_89 rfl (e_Vv1 o156_91 K156 K158 rfl ⟨rfl, rfl⟩ (zrcv_I L79 rfl) (by omega) rfl (m158_d (by omega) w1) ?_))
                  rintro _ _ ⟨rfl, rfl⟩
                  refine e_rV o156_94 K156 rfl rfl ?_
                  refine ⟨⟨fun a q k1 k2 k3 => by rw [zu_ne (by omega), zu_ne (by omega)], ?_, ?_⟩, rfl⟩
                  · rw [zg_ne (by omega), zg_same (by omega)]
                  · rw [zg_same (by omega)]
                · omega
              · omega
            · omega
end
