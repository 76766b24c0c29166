
/-! and -/
section
variable {sc : Nat × (Nat → Int32)} {B : Int → Int} {N : Int}
theorem LLand {E0 p : Int} (n6 : N ≤ 600) (p0 : 0 ≤ p) (p5 : p ≤ 5) (HP : ∀ e, E0 ≤ e → 0 ≤ e → e ≤ N → LV sc B N 88 153 [zJ, zJ] [zJ, zJ] (8 * (6 - p) + 16) 3 p e) : ∀ (m : Nat) e, (N - e).toNat ≤ m → E0 ≤ e → 0 ≤ e → e ≤ N → ∃ o, gLp N e p 4 o ∧ (∀ (d : Nat) v u i, 8 * (6 - p) + 17 ≤ (d : Int) → CPre B N v e → 0 ≤ i → i ≤ e → zEv sc 87 d 8 [.ref 1, .int (zI p), .int (zI 1), .int (zI i)] [] (zmk v u) 0 0 (zPi fun y w t => cOut B N o v w y ∧ u = t)) ∧ (∀ (d : Nat) v u, 8 * (6 - p) + 17 ≤ (d : Int) → MPre B N v e → zEv sc 152 d 5 [.ref 79, .int (zI p)] [] (zmk v u) 0 0 (zPv fun w t => mOut B N o v w ∧ u = t)) := by
  intro m
  induction m with
  | zero =>
    intro e hm h0 e0 e1
    have h1 := ts_in (B := B) e1
    have h2 := te_in (B := B) e1
    have ns : ¬ isW B N e 12 = true := fun h => by have := isW_tk h; have := h2.2.2.1 (by omega); omega
    have ns' : ¬ isW B N e 46 = true := by rw [isW_eq (r := 46) (r' := 12) rfl]; exact ns
    refine ⟨.ok e [], ⟨by omega, by omega, by simp, fun c c0 => rfl⟩, ?_, ?_⟩
    · intro d v u i hd hP i0 i1
      obtain ⟨hT, hC, l0, l1⟩ := id hP
      refine e_il3 o87_8 (e_sip o87_9 rfl (e_ic_ge o87_12 62 rfl (by first | exact zg_rg _ _ _ | exact zt_rg _ | omega) (by first | exact zg_rg _ _ _ | exact zt_rg _ | omega) (fun hb12 => ?_) (fun hb12 => ?_)))
      · refine e_il2 o87_62 ?_
        refine e_rI o87_63 K87 rfl rfl ?_
        exact ⟨⟨rfl, FP_r, hC, lay13_r (fun _ => rfl) rfl⟩, rfl⟩
      · refine e_il2 o87_15 (e_if_eq o87_16 62 rfl (by first | exact zg_rg _ _ _ | exact zt_rg _ | omega) (fun hb16 => ?_) (fun hb16 => ?_))
        · omega
        · refine e_al0 o87_19 (e_gR o87_20 L1 rfl rfl (e_ldcS o87_23 rfl (e_Vi1 o87_25 K87 K38 rfl ⟨rfl, rfl⟩ (zrcv_I L2 rfl) (by omega) rfl (c38 (r := 12) (by omega) (by omega) hT hC e0 e1) ?_)))
          rintro _ _ _ ⟨rfl, rfl, rfl⟩
          refine e_bz_eq o87_28 62 rfl (fun hb28 => ?_) (fun hb28 => ?_)
          · refine e_il2 o87_62 ?_
            refine e_rI o87_63 K87 rfl rfl ?_
            exact ⟨⟨rfl, FP_r, hC, lay13_r (fun _ => rfl) rfl⟩, rfl⟩
          · exact absurd hb28 ns
    · intro d v u hd hP
      obtain ⟨hT, hR, hb, l0, l1⟩ := id hP
      refine e_al0 o152_5 (e_ldc_wS o152_6 rfl (e_Vi1 o152_9 K152 K141 rfl ⟨rfl, rfl⟩ (zrcv_I L79 rfl) (by omega) rfl (m141 (r := 46) (by omega) (by omega) hb hT hR e0 e1) ?_))
      rintro _ _ _ ⟨rfl, rfl, rfl⟩
      refine e_bz_eq o152_12 33 rfl (fun hb12 => ?_) (fun hb12 => ?_)
      · refine e_rV o152_33 K152 rfl rfl ?_
        exact ⟨⟨FQ_r, hb, hR, lay90_r (fun _ => rfl) rfl⟩, rfl⟩
      · exact absurd hb12 ns'
  | succ m ih =>
    intro e hm h0 e0 e1
    have h1 := ts_in (B := B) e1
    have h2 := te_in (B := B) e1
    by_cases hs : isW B N e 12 = true
    · have hs' : isW B N e 46 = true := by rw [isW_eq (r := 46) (r' := 12) rfl]; exact hs
      have hk : tk B N e = 1 := isW_tk hs
      have h3 := h2.2.2.1 (by omega)
      obtain ⟨z, hz⟩ : ∃ z : Int, z = (-14) := ⟨_, rfl⟩
      have zr : -15 ≤ z ∧ z < -6 ∧ ¬ z = -13 := by omega
      have ez : enc z = (-26) := by rw [hz]; rfl
      obtain ⟨o1, g1, hc, hm1⟩ := HP (te B N e) (by omega) (by omega) (by omega)
      have cgo : ∀ (d : Nat) v u i, 8 * (6 - p) + 17 ≤ (d : Int) → CPre B N v e → 0 ≤ i → i ≤ e → ∀ Q, (∀ w1 w w' y, FC v w1 → CPre B N w1 (te B N e) → cOut B N o1 w1 w y → FP w w' → (∀ q, w' 1 q = w 1 q) → (∀ q, w' 2 q = w 2 q) → (0 ≤ zg w' 12 3 ∧ zg w' 12 3 ≤ 600) → (zg w 12 3 < 600 → lay13 w w' [z]) → zEv sc 87 d 8 [.ref 1, .int (zI p), .int y, .int (zI (i + 1))] [] (zmk w' u) 0 0 Q) → zEv sc 87 d 8 [.ref 1, .int (zI p), .int (zI 1), .int (zI i)] [] (zmk v u) 0 0 Q := by
        intro d v u i hd hP i0 i1 Q k
        obtain ⟨hT, hC, l0, l1⟩ := id hP
        refine e_il3 o87_8 (e_sip o87_9 rfl (e_ic_ge o87_12 62 rfl (by first | exact zg_rg _ _ _ | exact zt_rg _ | omega) (by first | exact zg_rg _ _ _ | exact zt_rg _ | omega) (fun hb12 => ?_) (fun hb12 => ?_)))
        · omega
        · refine e_il2 o87_15 (e_if_eq o87_16 62 rfl (by first | exact zg_rg _ _ _ | exact zt_rg _ | omega) (fun hb16 => ?_) (fun hb16 => ?_))
          · omega
          · refine e_al0 o87_19 (e_gR o87_20 L1 rfl rfl (e_ldcS o87_23 rfl (e_Vi1 o87_25 K87 K38 rfl ⟨rfl, rfl⟩ (zrcv_I L2 rfl) (by omega) rfl (c38 (r := 12) (by omega) (by omega) hT hC e0 e1) ?_)))
            rintro _ _ _ ⟨rfl, rfl, rfl⟩
            refine e_bz_eq o87_28 62 rfl (fun hb28 => ?_) (fun hb28 => ?_)
            · exact absurd hs hb28
            · refine e_al0 o87_31 (e_gR o87_32 L1 rfl rfl (e_Vv0 o87_35 K87 K34 rfl ⟨rfl, rfl⟩ (zrcv_I L2 rfl) (by omega) rfl (c34 (e := te B N e) (by omega) hT hC.2.2.1 (by omega) (by omega)) ?_))
              rintro w1 u' ⟨⟨q1, q2⟩, rfl⟩
              refine e_al0 o87_38 (e_il1 o87_39 (e_Vi1 o87_40 K87 K88 rfl ⟨rfl, rfl⟩ (zrcv_I L1 rfl) (by omega) rfl (hc (d - 1) w1 u (by omega) (CPre_FC hP q1 q2 (by omega))) ?_))
              rintro y w u' ⟨hO, rfl⟩
              have hl : 0 ≤ zg w 12 3 ∧ zg w 12 3 ≤ 600 := by have e12 := (CPre_FC hP q1 q2 (show e ≤ te B N e by omega)).2.2; cases o1 using PO_c with | ok e' L => (have := g1.1; have := hO.2.2.2.1; omega) | bad c q => exact hO.2.2.2.2
              refine e_is2 o87_43 (e_al0 o87_44 (e_gR o87_45 L1 rfl rfl (e_gR o87_48 L4 rfl rfl (e_bip o87_51 rfl (e_Vv1 o87_53 K87 K41 rfl ⟨rfl, rfl⟩ (zrcv_I L12 rfl) (by omega) rfl (c41 hl (by omega)) ?_)))))
              rintro w' u' ⟨⟨r1, r2, r3, r4, r5⟩, rfl⟩
              refine e_inc3 o87_56 (e_goto o87_59 8 rfl ?_)
              exact k w1 w w' y q1 (CPre_FC hP q1 q2 (by omega)) hO r1 r2 r3 r4 (by rw [hz]; exact r5)
      have cdead : ∀ (d : Nat) w u i Q, (zEv sc 87 d 62 [.ref 1, .int (zI p), .int (zI 0), .int (zI i)] [] (zmk w u) 0 0 Q) → (0 ≤ i ∧ i ≤ 1000) → zEv sc 87 d 8 [.ref 1, .int (zI p), .int (zI 0), .int (zI i)] [] (zmk w u) 0 0 Q := by
        intro d w u i Q k ir
        refine e_il3 o87_8 (e_sip o87_9 rfl (e_ic_ge o87_12 62 rfl (by first | exact zg_rg _ _ _ | exact zt_rg _ | omega) (by first | exact zg_rg _ _ _ | exact zt_rg _ | omega) (fun hb12 => ?_) (fun hb12 => ?_)))
        · exact k
        · refine e_il2 o87_15 (e_if_eq o87_16 62 rfl (by first | exact zg_rg _ _ _ | exact zt_rg _ | omega) (fun hb16 => ?_) (fun hb16 => ?_))
          · exact k
          · omega
      have mgo : ∀ (d : Nat) v u, 8 * (6 - p) + 17 ≤ (d : Int) → MPre B N v e → ∀ Q, (∀ w1 w, FRm v w1 → MPre B N w1 (te B N e) → mOut B N o1 w1 w → zEv sc 152 d 24 [.ref 79, .int (zI p)] [] (zmk w u) 0 0 Q) → zEv sc 152 d 5 [.ref 79, .int (zI p)] [] (zmk v u) 0 0 Q := by
        intro d v u hd hP Q k
        obtain ⟨hT, hR, hb, l0, l1⟩ := id hP
        refine e_al0 o152_5 (e_ldc_wS o152_6 rfl (e_Vi1 o152_9 K152 K141 rfl ⟨rfl, rfl⟩ (zrcv_I L79 rfl) (by omega) rfl (m141 (r := 46) (by omega) (by omega) hb hT hR e0 e1) ?_))
        rintro _ _ _ ⟨rfl, rfl, rfl⟩
        refine e_bz_eq o152_12 33 rfl (fun hb12 => ?_) (fun hb12 => ?_)
        · exact absurd hs' hb12
        · refine e_al0 o152_15 (e_Vv0 o152_16 K152 K134 rfl ⟨rfl, rfl⟩ (zrcv_I L79 rfl) (by omega) rfl (m134 (e := te B N e) (by omega) hT hR.2.2.2.1 (by omega) (by omega)) ?_)
          rintro w1 u' ⟨⟨q1, q2⟩, rfl⟩
          refine e_al0 o152_19 (e_il1 o152_20 (e_Vv1 o152_21 K152 K153 rfl ⟨rfl, rfl⟩ (zrcv_I L79 rfl) (by omega) rfl (hm1 (d - 1) w1 u (by omega) (MPre_FR hP q1 q2 (by omega))) ?_))
          rintro w u' ⟨hO, rfl⟩
          exact k w1 w q1 (MPre_FR hP q1 q2 (by omega)) hO
      cases o1 using PO_c with
      | bad c q =>
        refine ⟨.bad c q, g1.1, ?_, ?_⟩
        · intro d v u i hd hP i0 i1
          refine cgo d v u i hd hP i0 i1 _ ?_
          rintro w1 w w' y q1 hP1 ⟨rfl, a2, a3, a4, a5⟩ r1 r2 r3 r4 r5
          refine cdead _ _ _ _ _ ?_ (by omega)
          refine e_il2 o87_62 ?_
          refine e_rI o87_63 K87 rfl rfl ?_
          refine ⟨⟨rfl, FP_t (FP_t (FC_FP q1) a2) r1, ?_, ?_, r4⟩, rfl⟩
          · simp only [zg]; rw [r2]; exact a3
          · simp only [zg]; rw [r2]; exact a4
        · intro d v u hd hP
          refine mgo d v u hd hP _ ?_
          rintro w1 w q1 hP1 ⟨a1, a2, a3⟩
          have nb : ¬ zg w 79 21 = 0 := by have := g1.1.1; omega
          refine e_al0 o152_24 (e_bip o152_25 rfl (e_Vv1 o152_27 K152 K157 rfl ⟨rfl, rfl⟩ (zrcv_I L79 rfl) (by omega) rfl (m157_d nb) ?_))
          rintro _ _ ⟨rfl, rfl⟩
          refine e_goto o152_30 5 rfl (e_al0 o152_5 (e_ldc_wS o152_6 rfl (e_Vi1 o152_9 K152 K141 rfl ⟨rfl, rfl⟩ (zrcv_I L79 rfl) (by omega) rfl (m141_d (r := 46) (by omega) (by omega) nb) ?_)))
          rintro _ _ _ ⟨rfl, rfl, rfl⟩
          refine e_if_eq o152_12 33 rfl (by first | exact zg_rg _ _ _ | exact zt_rg _ | omega) (fun hb12 => ?_) (fun hb12 => ?_)
          · refine e_rV o152_33 K152 rfl rfl ?_
            exact ⟨⟨FQ_t (FRm_FQ q1) a1, a2, a3⟩, rfl⟩
          · omega
      | ok e2 L2 =>
        obtain ⟨⟨k1, k2, k3, k4, k5⟩, _⟩ := g1
        obtain ⟨o2, g2, hc2, hm2⟩ := ih e2 (by omega) (by omega) (by omega) k2
        -- the class behind one more
        have cnx : ∀ (v w1 w w' : zV), CPre B N v e → FC v w1 → CPre B N w1 (te B N e) → CT B N w e2 → FP w1 w → lay13 w1 w L2 → FP w w' → (∀ q, w' 1 q = w 1 q) → (∀ q, w' 2 q = w 2 q) → (zg w 12 3 < 600 → lay13 w w' [z]) → CPre B N w' e2 ∧ FP v w' ∧ lay13 v w' (L2 ++ [z]) := by
          intro v w1 w w' hP q1 hP1 a2 a3 a4 r1 r2 r3 r5
          have l1 := a4.1
          have l2 := hP1.2.2
          have e12 : zg w1 12 3 = zg v 12 3 := by simp only [zg]; rw [q1 12 3 (by omega)]
          have l5 := hP.2.2
          have l3 := r5 (by omega)
          have l4 := l3.1
          have hF : FP v w' := FP_t (FP_t (FC_FP q1) a3) r1
          have e := lay13_t (lay13_t (lay13_r (fun q => q1 13 q (by omega)) (q1 12 3 (by omega))) a4) l3
          refine ⟨⟨TXc_P hP.1 hF, ?_, ?_, ?_⟩, hF, e⟩
          · unfold CT at a2 ⊢
            rw [show zg w' 2 = zg w 2 from zg_fn r3]
            exact a2
          · rw [l4]; simp; omega
          · rw [l4]; simp; omega
        have mnx : ∀ (v w1 w : zV), MPre B N v e → FRm v w1 → MPre B N w1 (te B N e) → FQ w1 w → zg w 79 21 = 0 → RT B N w e2 → lay90 w1 w L2 → (0 ≤ zg w 82 7 ∧ zg w 82 7 < 600) ∧ MPre B N (zu (zu w 90 (600 + zg w 82 7) (zI (enc z))) 82 7 (zI (zg w 82 7 + 1))) e2 ∧ FQ v (zu (zu w 90 (600 + zg w 82 7) (zI (enc z))) 82 7 (zI (zg w 82 7 + 1))) ∧ lay90 v (zu (zu w 90 (600 + zg w 82 7) (zI (enc z))) 82 7 (zI (zg w 82 7 + 1))) (L2 ++ [z]) := by
          intro v w1 w hP q1 hP1 a1 a2 a3 a4
          have l1 := a4.1
          have l2 := hP1.2.2.2
          have e82 : zg w1 82 7 = zg v 82 7 := by simp only [zg]; rw [q1 82 7 (by omega)]
          have l5 := hP.2.2.2
          have hl : 0 ≤ zg w 82 7 ∧ zg w 82 7 < 600 := by omega
          have e9 := lay90_1 (v := w) (z := z) hl.1 hl.2 (by omega) (by omega)
          have e := lay90_t (lay90_t (lay90_r (fun q => q1 90 q (by omega)) (q1 82 7 (by omega))) a4) e9
          have hF : FQ v (zu (zu w 90 (600 + zg w 82 7) (zI (enc z))) 82 7 (zI (zg w 82 7 + 1))) := FQ_t (FQ_t (FRm_FQ q1) a1) (fun a q k1 k2 k3 => by rw [zu_ne (by omega), zu_ne (by omega)])
          refine ⟨hl, ⟨TXm_Q hP.1 hF, ?_, ?_, ?_, ?_⟩, hF, e⟩
          · unfold RT at a3 ⊢
            have z79 : ∀ q, zg (zu (zu w 90 (600 + zg w 82 7) (zI (enc z))) 82 7 (zI (zg w 82 7 + 1))) 79 q = zg w 79 q := fun q => by rw [zg_na (by decide), zg_na (by decide)]
            rw [z79, z79, z79, z79, z79]
            exact a3
          · rw [zg_na (by decide), zg_na (by decide)]; exact a2
          · rw [zg_same (by omega)]; omega
          · rw [zg_same (by omega)]; omega
        cases o2 using PO_c with
        | bad c q =>
          refine ⟨.bad c q, g2, ?_, ?_⟩
          · intro d v u i hd hP i0 i1
            refine cgo d v u i hd hP i0 i1 _ ?_
            rintro w1 w w' y q1 hP1 ⟨rfl, a2, a3, a4⟩ r1 r2 r3 r4 r5
            obtain ⟨c1, c2, c3⟩ := cnx v w1 w w' hP q1 hP1 a3 a2 a4 r1 r2 r3 r5
            refine zEv_mono (hc2 d w' u (i + 1) hd c1 (by omega) (by omega)) ?_
            rintro _ _ ⟨y, x, t, rfl, rfl, ⟨b1, b2, b3⟩, rfl⟩
            exact ⟨y, x, _, rfl, rfl, ⟨b1, FP_t c2 b2, b3⟩, rfl⟩
          · intro d v u hd hP
            refine mgo d v u hd hP _ ?_
            rintro w1 w q1 hP1 ⟨a1, a2, a3, a4⟩
            obtain ⟨hl, c1, c2, c3⟩ := mnx v w1 w hP q1 hP1 a1 a2 a3 a4
            refine e_al0 o152_24 (e_bip o152_25 rfl (e_Vv1 o152_27 K152 K157 rfl ⟨rfl, rfl⟩ (zrcv_I L79 rfl) (by omega) rfl (m157 a2 rfl hl.1 hl.2) ?_))
            rintro _ _ ⟨rfl, rfl⟩
            rw [← ez]
            refine e_goto o152_30 5 rfl ?_
            refine zEv_mono (hm2 d _ u hd c1) ?_
            rintro _ _ ⟨x, t, rfl, rfl, ⟨b1, b2, b3⟩, rfl⟩
            exact ⟨x, _, rfl, rfl, ⟨FQ_t c2 b1, b2, b3⟩, rfl⟩
        | ok e3 L3 =>
          obtain ⟨j1, j2, j3, j4⟩ := g2
          refine ⟨.ok e3 ((L2 ++ [z]) ++ L3), ⟨by omega, j2, by simp; omega, fun c c0 => ?_⟩, ?_, ?_⟩
          · refine okL_app (m := c + 1) (okL_app (m := c + 2) (okL_mono (M := c + 1 + 27 - 5 * p + 3) (by omega) ?_) ?_) (j4 c c0)
            · have e := k5 (c + 1) (by omega)
              rw [show c + 1 + 1 = c + 2 by omega] at e
              exact e
            · refine ⟨by omega, ?_⟩
              show dnx z (c + 2) = c + 1
              unfold dnx
              rw [if_neg (by omega), if_neg (by omega)]
              omega
          · intro d v u i hd hP i0 i1
            refine cgo d v u i hd hP i0 i1 _ ?_
            rintro w1 w w' y q1 hP1 ⟨rfl, a2, a3, a4⟩ r1 r2 r3 r4 r5
            obtain ⟨c1, c2, c3⟩ := cnx v w1 w w' hP q1 hP1 a3 a2 a4 r1 r2 r3 r5
            refine zEv_mono (hc2 d w' u (i + 1) hd c1 (by omega) (by omega)) ?_
            rintro _ _ ⟨y, x, t, rfl, rfl, ⟨b1, b2, b3, b4⟩, rfl⟩
            exact ⟨y, x, _, rfl, rfl, ⟨b1, FP_t c2 b2, b3, lay13_t c3 b4⟩, rfl⟩
          · intro d v u hd hP
            refine mgo d v u hd hP _ ?_
            rintro w1 w q1 hP1 ⟨a1, a2, a3, a4⟩
            obtain ⟨hl, c1, c2, c3⟩ := mnx v w1 w hP q1 hP1 a1 a2 a3 a4
            refine e_al0 o152_24 (e_bip o152_25 rfl (e_Vv1 o152_27 K152 K157 rfl ⟨rfl, rfl⟩ (zrcv_I L79 rfl) (by omega) rfl (m157 a2 rfl hl.1 hl.2) ?_))
            rintro _ _ ⟨rfl, rfl⟩
            rw [← ez]
            refine e_goto o152_30 5 rfl ?_
            refine zEv_mono (hm2 d _ u hd c1) ?_
            rintro _ _ ⟨x, t, rfl, rfl, ⟨b1, b2, b3, b4⟩, rfl⟩
            exact ⟨x, _, rfl, rfl, ⟨FQ_t c2 b1, b2, b3, lay90_t c3 b4⟩, rfl⟩
    · have hs' : ¬ isW B N e 46 = true := by rw [isW_eq (r := 46) (r' := 12) rfl]; exact hs
      refine ⟨.ok e [], ⟨by omega, by omega, by simp, fun c c0 => rfl⟩, ?_, ?_⟩
      · intro d v u i hd hP i0 i1
        obtain ⟨hT, hC, l0, l1⟩ := id hP
        refine e_il3 o87_8 (e_sip o87_9 rfl (e_ic_ge o87_12 62 rfl (by first | exact zg_rg _ _ _ | exact zt_rg _ | omega) (by first | exact zg_rg _ _ _ | exact zt_rg _ | omega) (fun hb12 => ?_) (fun hb12 => ?_)))
        · refine e_il2 o87_62 ?_
          refine e_rI o87_63 K87 rfl rfl ?_
          exact ⟨⟨rfl, FP_r, hC, lay13_r (fun _ => rfl) rfl⟩, rfl⟩
        · refine e_il2 o87_15 (e_if_eq o87_16 62 rfl (by first | exact zg_rg _ _ _ | exact zt_rg _ | omega) (fun hb16 => ?_) (fun hb16 => ?_))
          · omega
          · refine e_al0 o87_19 (e_gR o87_20 L1 rfl rfl (e_ldcS o87_23 rfl (e_Vi1 o87_25 K87 K38 rfl ⟨rfl, rfl⟩ (zrcv_I L2 rfl) (by omega) rfl (c38 (r := 12) (by omega) (by omega) hT hC e0 e1) ?_)))
            rintro _ _ _ ⟨rfl, rfl, rfl⟩
            refine e_bz_eq o87_28 62 rfl (fun hb28 => ?_) (fun hb28 => ?_)
            · refine e_il2 o87_62 ?_
              refine e_rI o87_63 K87 rfl rfl ?_
              exact ⟨⟨rfl, FP_r, hC, lay13_r (fun _ => rfl) rfl⟩, rfl⟩
            · exact absurd hb28 hs
      · intro d v u hd hP
        obtain ⟨hT, hR, hb, l0, l1⟩ := id hP
        refine e_al0 o152_5 (e_ldc_wS o152_6 rfl (e_Vi1 o152_9 K152 K141 rfl ⟨rfl, rfl⟩ (zrcv_I L79 rfl) (by omega) rfl (m141 (r := 46) (by omega) (by omega) hb hT hR e0 e1) ?_))
        rintro _ _ _ ⟨rfl, rfl, rfl⟩
        refine e_bz_eq o152_12 33 rfl (fun hb12 => ?_) (fun hb12 => ?_)
        · refine e_rV o152_33 K152 rfl rfl ?_
          exact ⟨⟨FQ_r, hb, hR, lay90_r (fun _ => rfl) rfl⟩, rfl⟩
        · exact absurd hb12 hs'
theorem LVand {E0 p : Int} (n6 : N ≤ 600) (p0 : 0 ≤ p) (p5 : p ≤ 5) (HP : ∀ e, E0 ≤ e → 0 ≤ e → e ≤ N → LV sc B N 88 153 [zJ, zJ] [zJ, zJ] (8 * (6 - p) + 16) 3 p e) : ∀ e, E0 ≤ e → 0 ≤ e → e ≤ N → LV sc B N 87 152 [zJ, zJ] [] (8 * (6 - p) + 17) 4 p e := by
  intro e h0 e0 e1
  obtain ⟨o1, g1, hc, hm⟩ := HP e h0 e0 e1
  cases o1 using PO_c with
  | bad c q =>
    refine ⟨.bad c q, g1, ?_, ?_⟩
    · intro d v u hd hP
      refine e_al0 o87_0 (e_il1 o87_1 (e_Vi1 o87_2 K87 K88 rfl ⟨rfl, rfl⟩ (zrcv_I L1 rfl) (by omega) rfl (hc (d - 1) v u (by omega) hP) ?_))
      rintro y w u' ⟨⟨rfl, a2, a3⟩, rfl⟩
      refine e_is2 o87_5 (e_ico o87_6 (e_is3 o87_7 (e_il3 o87_8 (e_sip o87_9 rfl (e_ic_ge o87_12 62 rfl (by first | exact zg_rg _ _ _ | exact zt_rg _ | omega) (by first | exact zg_rg _ _ _ | exact zt_rg _ | omega) (fun hb12 => ?_) (fun hb12 => ?_))))))
      · refine e_il2 o87_62 ?_
        refine e_rI o87_63 K87 rfl rfl ?_
        exact ⟨⟨rfl, a2, a3⟩, rfl⟩
      · refine e_il2 o87_15 (e_if_eq o87_16 62 rfl (by first | exact zg_rg _ _ _ | exact zt_rg _ | omega) (fun hb16 => ?_) (fun hb16 => ?_))
        · refine e_il2 o87_62 ?_
          refine e_rI o87_63 K87 rfl rfl ?_
          exact ⟨⟨rfl, a2, a3⟩, rfl⟩
        · omega
    · intro d v u hd hP
      refine e_al0 o152_0 (e_il1 o152_1 (e_Vv1 o152_2 K152 K153 rfl ⟨rfl, rfl⟩ (zrcv_I L79 rfl) (by omega) rfl (hm (d - 1) v u (by omega) hP) ?_))
      rintro w u' ⟨⟨a1, a2, a3⟩, rfl⟩
      have nb : ¬ zg w 79 21 = 0 := by have := g1.1.1; omega
      refine e_al0 o152_5 (e_ldc_wS o152_6 rfl (e_Vi1 o152_9 K152 K141 rfl ⟨rfl, rfl⟩ (zrcv_I L79 rfl) (by omega) rfl (m141_d (r := 46) (by omega) (by omega) nb) ?_))
      rintro _ _ _ ⟨rfl, rfl, rfl⟩
      refine e_if_eq o152_12 33 rfl (by first | exact zg_rg _ _ _ | exact zt_rg _ | omega) (fun hb12 => ?_) (fun hb12 => ?_)
      · refine e_rV o152_33 K152 rfl rfl ?_
        exact ⟨⟨a1, a2, a3⟩, rfl⟩
      · omega
  | ok e1' L =>
    obtain ⟨⟨k1, k2, k3, k4, k5⟩, k6⟩ := g1
    obtain ⟨o2, g2, hc2, hm2⟩ := LLand (E0 := E0) n6 p0 p5 HP (N - e1').toNat e1' (Nat.le_refl _) (by omega) (by omega) k2
    have cP : ∀ (v w : zV), CPre B N v e → FP v w → CT B N w e1' → lay13 v w L → CPre B N w e1' := by
      intro v w hP a2 a3 a4
      have l1 := a4.1
      have l2 := hP.2.2
      exact ⟨TXc_P hP.1 a2, a3, by omega, by omega⟩
    have mP : ∀ (v w : zV), MPre B N v e → FQ v w → zg w 79 21 = 0 → RT B N w e1' → lay90 v w L → MPre B N w e1' := by
      intro v w hP a1 a2 a3 a4
      have l1 := a4.1
      have l2 := hP.2.2.2
      exact ⟨TXm_Q hP.1 a1, a3, a2, by omega, by omega⟩
    cases o2 using PO_c with
    | bad c q =>
      refine ⟨.bad c q, ⟨g2, fun z => (PO_ne (k6 z)).elim⟩, ?_, ?_⟩
      · intro d v u hd hP
        refine e_al0 o87_0 (e_il1 o87_1 (e_Vi1 o87_2 K87 K88 rfl ⟨rfl, rfl⟩ (zrcv_I L1 rfl) (by omega) rfl (hc (d - 1) v u (by omega) hP) ?_))
        rintro y w u' ⟨⟨rfl, a2, a3, a4⟩, rfl⟩
        refine e_is2 o87_5 (e_ico o87_6 (e_is3 o87_7 ?_))
        refine zEv_mono (hc2 d w u 0 hd (cP v w hP a2 a3 a4) (by omega) (by omega)) ?_
        rintro _ _ ⟨y, x, t, rfl, rfl, ⟨b1, b2, b3⟩, rfl⟩
        exact ⟨y, x, _, rfl, rfl, ⟨b1, FP_t a2 b2, b3⟩, rfl⟩
      · intro d v u hd hP
        refine e_al0 o152_0 (e_il1 o152_1 (e_Vv1 o152_2 K152 K153 rfl ⟨rfl, rfl⟩ (zrcv_I L79 rfl) (by omega) rfl (hm (d - 1) v u (by omega) hP) ?_))
        rintro w u' ⟨⟨a1, a2, a3, a4⟩, rfl⟩
        refine zEv_mono (hm2 d w u hd (mP v w hP a1 a2 a3 a4)) ?_
        rintro _ _ ⟨x, t, rfl, rfl, ⟨b1, b2, b3⟩, rfl⟩
        exact ⟨x, _, rfl, rfl, ⟨FQ_t a1 b1, b2, b3⟩, rfl⟩
    | ok e3 L3 =>
      obtain ⟨j1, j2, j3, j4⟩ := g2
      refine ⟨.ok e3 (L ++ L3), ⟨⟨by omega, j2, by simp; omega, by simp; omega, fun c c0 => okL_app (m := c + 1) (okL_mono (by omega) (k5 c c0)) (j4 c c0)⟩, fun z => (PO_ne (k6 z)).elim⟩, ?_, ?_⟩
      · intro d v u hd hP
        refine e_al0 o87_0 (e_il1 o87_1 (e_Vi1 o87_2 K87 K88 rfl ⟨rfl, rfl⟩ (zrcv_I L1 rfl) (by omega) rfl (hc (d - 1) v u (by omega) hP) ?_))
        rintro y w u' ⟨⟨rfl, a2, a3, a4⟩, rfl⟩
        refine e_is2 o87_5 (e_ico o87_6 (e_is3 o87_7 ?_))
        refine zEv_mono (hc2 d w u 0 hd (cP v w hP a2 a3 a4) (by omega) (by omega)) ?_
        rintro _ _ ⟨y, x, t, rfl, rfl, ⟨b1, b2, b3, b4⟩, rfl⟩
        exact ⟨y, x, _, rfl, rfl, ⟨b1, FP_t a2 b2, b3, lay13_t a4 b4⟩, rfl⟩
      · intro d v u hd hP
        refine e_al0 o152_0 (e_il1 o152_1 (e_Vv1 o152_2 K152 K153 rfl ⟨rfl, rfl⟩ (zrcv_I L79 rfl) (by omega) rfl (hm (d - 1) v u (by omega) hP) ?_))
        rintro w u' ⟨⟨a1, a2, a3, a4⟩, rfl⟩
        refine zEv_mono (hm2 d w u hd (mP v w hP a1 a2 a3 a4)) ?_
        rintro _ _ ⟨x, t, rfl, rfl, ⟨b1, b2, b3, b4⟩, rfl⟩
        exact ⟨x, _, rfl, rfl, ⟨FQ_t a1 b1, b2, b3, lay90_t a4 b4⟩, rfl⟩
end
