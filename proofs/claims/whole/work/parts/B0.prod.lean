
/-! prod -/
section
variable {sc : Nat × (Nat → Int32)} {B : Int → Int} {N : Int}
theorem LLprod {E0 p : Int} (n6 : N ≤ 600) (p0 : 0 ≤ p) (p5 : p ≤ 5) (HP : ∀ e, E0 ≤ e → 0 ≤ e → e ≤ N → LV sc B N 92 156 [zJ] [zJ] (8 * (6 - p) + 12) 0 p e) : ∀ (m : Nat) e, (N - e).toNat ≤ m → E0 ≤ e → 0 ≤ e → e ≤ N → ∃ o, gLp N e p 1 o ∧ (∀ (d : Nat) v u i x4, 8 * (6 - p) + 13 ≤ (d : Int) → CPre B N v e → 0 ≤ i → i ≤ e → zEv sc 91 d 8 [.ref 1, .int (zI p), .int (zI 1), .int (zI i), x4] [] (zmk v u) 0 0 (zPi fun y w t => cOut B N o v w y ∧ u = t)) ∧ (∀ (d : Nat) v u x2, 8 * (6 - p) + 13 ≤ (d : Int) → MPre B N v e → zEv sc 155 d 5 [.ref 79, .int (zI p), x2] [] (zmk v u) 0 0 (zPv fun w t => mOut B N o v w ∧ u = t)) := by
  intro m
  induction m with
  | zero =>
    intro e hm h0 e0 e1
    have h1 := ts_in (B := B) e1
    have h2 := te_in (B := B) e1
    have ns : ∀ c, ¬ isS B N e c = true := fun c h => by have := (isS_tk h).1; have := h2.2.2.1 (by omega); omega
    refine ⟨.ok e [], ⟨by omega, by omega, by simp, fun c c0 => rfl⟩, ?_, ?_⟩
    · intro d v u i x4 hd hP i0 i1
      obtain ⟨hT, hC, l0, l1⟩ := id hP
      refine e_il3 o91_8 (e_sip o91_9 rfl (e_ic_ge o91_12 95 rfl (by first | exact zg_rg _ _ _ | exact zt_rg _ | omega) (by first | exact zg_rg _ _ _ | exact zt_rg _ | omega) (fun hb12 => ?_) (fun hb12 => ?_)))
      · refine e_il2 o91_95 ?_
        refine e_rI o91_96 K91 rfl rfl ?_
        exact ⟨⟨rfl, FP_r, hC, lay13_r (fun _ => rfl) rfl⟩, rfl⟩
      · refine e_il2 o91_15 (e_if_eq o91_16 95 rfl (by first | exact zg_rg _ _ _ | exact zt_rg _ | omega) (fun hb16 => ?_) (fun hb16 => ?_))
        · omega
        · refine e_al0 o91_19 (e_gR o91_20 L1 rfl rfl (e_bip o91_23 rfl (e_Vi1 o91_25 K91 K39 rfl ⟨rfl, rfl⟩ (zrcv_I L2 rfl) (by omega) rfl (c39 (x := 42) hT hC e0 e1 (by omega)) ?_)))
          rintro _ _ _ ⟨rfl, rfl, rfl⟩
          refine e_bz_ne o91_28 43 rfl (fun hb28 => ?_) (fun hb28 => ?_)
          · exact absurd hb28 (ns 42)
          · refine e_al0 o91_31 (e_gR o91_32 L1 rfl rfl (e_bip o91_35 rfl (e_Vi1 o91_37 K91 K39 rfl ⟨rfl, rfl⟩ (zrcv_I L2 rfl) (by omega) rfl (c39 (x := 47) hT hC e0 e1 (by omega)) ?_)))
            rintro _ _ _ ⟨rfl, rfl, rfl⟩
            refine e_bz_eq o91_40 95 rfl (fun hb40 => ?_) (fun hb40 => ?_)
            · refine e_il2 o91_95 ?_
              refine e_rI o91_96 K91 rfl rfl ?_
              exact ⟨⟨rfl, FP_r, hC, lay13_r (fun _ => rfl) rfl⟩, rfl⟩
            · exact absurd hb40 (ns 47)
    · intro d v u x2 hd hP
      obtain ⟨hT, hR, hb, l0, l1⟩ := id hP
      refine e_al0 o155_5 (e_bip o155_6 rfl (e_Vi1 o155_8 K155 K151 rfl ⟨rfl, rfl⟩ (zrcv_I L79 rfl) (by omega) rfl (m151 (c := 42) hb hT hR e0 e1 rfl) ?_))
      rintro _ _ _ ⟨rfl, rfl, rfl⟩
      refine e_bz_ne o155_11 23 rfl (fun hb11 => ?_) (fun hb11 => ?_)
      · exact absurd hb11 (ns 42)
      · refine e_al0 o155_14 (e_bip o155_15 rfl (e_Vi1 o155_17 K155 K151 rfl ⟨rfl, rfl⟩ (zrcv_I L79 rfl) (by omega) rfl (m151 (c := 47) hb hT hR e0 e1 rfl) ?_))
        rintro _ _ _ ⟨rfl, rfl, rfl⟩
        refine e_bz_eq o155_20 57 rfl (fun hb20 => ?_) (fun hb20 => ?_)
        · refine e_rV o155_57 K155 rfl rfl ?_
          exact ⟨⟨FQ_r, hb, hR, lay90_r (fun _ => rfl) rfl⟩, rfl⟩
        · exact absurd hb20 (ns 47)
  | succ m ih =>
    intro e hm h0 e0 e1
    have h1 := ts_in (B := B) e1
    have h2 := te_in (B := B) e1
    by_cases hs : isS B N e 42 = true ∨ isS B N e 47 = true
    · have hk : tk B N e = 3 := by rcases hs with h | h <;> exact (isS_tk h).1
      have h3 := h2.2.2.1 (by omega)
      obtain ⟨z, hz⟩ : ∃ z : Int, (isS B N e 42 = true ∧ z = (-9)) ∨ (¬ isS B N e 42 = true ∧ isS B N e 47 = true ∧ z = (-10)) := by
        by_cases h : isS B N e 42 = true
        · exact ⟨(-9), Or.inl ⟨h, rfl⟩⟩
        · exact ⟨(-10), Or.inr ⟨h, by rcases hs with k | k; exact absurd k h; exact k, rfl⟩⟩
      have zr : -15 ≤ z ∧ z < -6 ∧ ¬ z = -13 := by omega
      obtain ⟨o1, g1, hc, hm1⟩ := HP (te B N e) (by omega) (by omega) (by omega)
      have cgo : ∀ (d : Nat) v u i x4, 8 * (6 - p) + 13 ≤ (d : Int) → CPre B N v e → 0 ≤ i → i ≤ e → ∀ Q, (∀ w1 w w' y, FC v w1 → CPre B N w1 (te B N e) → cOut B N o1 w1 w y → FP w w' → (∀ q, w' 1 q = w 1 q) → (∀ q, w' 2 q = w 2 q) → (0 ≤ zg w' 12 3 ∧ zg w' 12 3 ≤ 600) → (zg w 12 3 < 600 → lay13 w w' [z]) → zEv sc 91 d 8 [.ref 1, .int (zI p), .int y, .int (zI (i + 1)), .int (zI z)] [] (zmk w' u) 0 0 Q) → zEv sc 91 d 8 [.ref 1, .int (zI p), .int (zI 1), .int (zI i), x4] [] (zmk v u) 0 0 Q := by
        intro d v u i x4 hd hP i0 i1 Q k
        obtain ⟨hT, hC, l0, l1⟩ := id hP
        have mid : zEv sc 91 d 62 [.ref 1, .int (zI p), .int (zI 1), .int (zI i), x4] [.int (zI z)] (zmk v u) 0 0 Q := by
          refine e_is4 o91_62 (e_al0 o91_64 (e_gR o91_65 L1 rfl rfl (e_Vv0 o91_68 K91 K34 rfl ⟨rfl, rfl⟩ (zrcv_I L2 rfl) (by omega) rfl (c34 (e := te B N e) (by omega) hT hC.2.2.1 (by omega) (by omega)) ?_)))
          rintro w1 u' ⟨⟨q1, q2⟩, rfl⟩
          refine e_al0 o91_71 (e_il1 o91_72 (e_Vi1 o91_73 K91 K92 rfl ⟨rfl, rfl⟩ (zrcv_I L1 rfl) (by omega) rfl (hc (d - 1) w1 u (by omega) (CPre_FC hP q1 q2 (by omega))) ?_))
          rintro y w u' ⟨hO, rfl⟩
          have hl : 0 ≤ zg w 12 3 ∧ zg w 12 3 ≤ 600 := by have e12 := (CPre_FC hP q1 q2 (show e ≤ te B N e by omega)).2.2; cases o1 using PO_c with | ok e' L => (have := g1.1; have := hO.2.2.2.1; omega) | bad c q => exact hO.2.2.2.2
          refine e_is2 o91_76 (e_al0 o91_77 (e_gR o91_78 L1 rfl rfl (e_gR o91_81 L4 rfl rfl (e_il4 o91_84 (e_Vv1 o91_86 K91 K41 rfl ⟨rfl, rfl⟩ (zrcv_I L12 rfl) (by omega) rfl (c41 hl (by omega)) ?_)))))
          rintro w' u' ⟨⟨r1, r2, r3, r4, r5⟩, rfl⟩
          refine e_inc3 o91_89 (e_goto o91_92 8 rfl ?_)
          exact k w1 w w' y q1 (CPre_FC hP q1 q2 (by omega)) hO r1 r2 r3 r4 r5
        refine e_il3 o91_8 (e_sip o91_9 rfl (e_ic_ge o91_12 95 rfl (by first | exact zg_rg _ _ _ | exact zt_rg _ | omega) (by first | exact zg_rg _ _ _ | exact zt_rg _ | omega) (fun hb12 => ?_) (fun hb12 => ?_)))
        · omega
        · refine e_il2 o91_15 (e_if_eq o91_16 95 rfl (by first | exact zg_rg _ _ _ | exact zt_rg _ | omega) (fun hb16 => ?_) (fun hb16 => ?_))
          · omega
          · refine e_al0 o91_19 (e_gR o91_20 L1 rfl rfl (e_bip o91_23 rfl (e_Vi1 o91_25 K91 K39 rfl ⟨rfl, rfl⟩ (zrcv_I L2 rfl) (by omega) rfl (c39 (x := 42) hT hC e0 e1 (by omega)) ?_)))
            rintro _ _ _ ⟨rfl, rfl, rfl⟩
            refine e_bz_ne o91_28 43 rfl (fun hb28 => ?_) (fun hb28 => ?_)
            · refine e_al0 o91_43 (e_gR o91_44 L1 rfl rfl (e_bip o91_47 rfl (e_Vi1 o91_49 K91 K39 rfl ⟨rfl, rfl⟩ (zrcv_I L2 rfl) (by omega) rfl (c39 (x := 42) hT hC e0 e1 (by omega)) ?_)))
              rintro _ _ _ ⟨rfl, rfl, rfl⟩
              refine e_bz_eq o91_52 60 rfl (fun hb52 => ?_) (fun hb52 => ?_)
              · refine e_bip o91_60 rfl ?_
                rcases hz with ⟨y1, y2⟩ | ⟨y1, y2, y3⟩
                · first | exact absurd y1 hb52 | (rw [y2] at mid; exact mid)
                · first | exact absurd hb52 y1 | (rw [y3] at mid; exact mid)
              · refine e_bip o91_55 rfl (e_goto o91_57 62 rfl ?_)
                rcases hz with ⟨y1, y2⟩ | ⟨y1, y2, y3⟩
                · first | exact absurd y1 hb52 | (rw [y2] at mid; exact mid)
                · first | exact absurd hb52 y1 | (rw [y3] at mid; exact mid)
            · refine e_al0 o91_31 (e_gR o91_32 L1 rfl rfl (e_bip o91_35 rfl (e_Vi1 o91_37 K91 K39 rfl ⟨rfl, rfl⟩ (zrcv_I L2 rfl) (by omega) rfl (c39 (x := 47) hT hC e0 e1 (by omega)) ?_)))
              rintro _ _ _ ⟨rfl, rfl, rfl⟩
              refine e_bz_eq o91_40 95 rfl (fun hb40 => ?_) (fun hb40 => ?_)
              · rcases hs with h | h; exact absurd h hb28; exact absurd h hb40
              · refine e_al0 o91_43 (e_gR o91_44 L1 rfl rfl (e_bip o91_47 rfl (e_Vi1 o91_49 K91 K39 rfl ⟨rfl, rfl⟩ (zrcv_I L2 rfl) (by omega) rfl (c39 (x := 42) hT hC e0 e1 (by omega)) ?_)))
                rintro _ _ _ ⟨rfl, rfl, rfl⟩
                refine e_bz_eq o91_52 60 rfl (fun hb52 => ?_) (fun hb52 => ?_)
                · refine e_bip o91_60 rfl ?_
                  rcases hz with ⟨y1, y2⟩ | ⟨y1, y2, y3⟩
                  · first | exact absurd y1 hb52 | (rw [y2] at mid; exact mid)
                  · first | exact absurd hb52 y1 | (rw [y3] at mid; exact mid)
                · refine e_bip o91_55 rfl (e_goto o91_57 62 rfl ?_)
                  rcases hz with ⟨y1, y2⟩ | ⟨y1, y2, y3⟩
                  · first | exact absurd y1 hb52 | (rw [y2] at mid; exact mid)
                  · first | exact absurd hb52 y1 | (rw [y3] at mid; exact mid)
      have cdead : ∀ (d : Nat) w u i x4 Q, (zEv sc 91 d 95 [.ref 1, .int (zI p), .int (zI 0), .int (zI i), x4] [] (zmk w u) 0 0 Q) → (0 ≤ i ∧ i ≤ 1000) → zEv sc 91 d 8 [.ref 1, .int (zI p), .int (zI 0), .int (zI i), x4] [] (zmk w u) 0 0 Q := by
        intro d w u i x4 Q k ir
        refine e_il3 o91_8 (e_sip o91_9 rfl (e_ic_ge o91_12 95 rfl (by first | exact zg_rg _ _ _ | exact zt_rg _ | omega) (by first | exact zg_rg _ _ _ | exact zt_rg _ | omega) (fun hb12 => ?_) (fun hb12 => ?_)))
        · exact k
        · refine e_il2 o91_15 (e_if_eq o91_16 95 rfl (by first | exact zg_rg _ _ _ | exact zt_rg _ | omega) (fun hb16 => ?_) (fun hb16 => ?_))
          · exact k
          · omega
      have mgo : ∀ (d : Nat) v u x2, 8 * (6 - p) + 13 ≤ (d : Int) → MPre B N v e → ∀ Q, (∀ w1 w, FRm v w1 → MPre B N w1 (te B N e) → mOut B N o1 w1 w → zEv sc 155 d 49 [.ref 79, .int (zI p), .int (zI (enc z))] [] (zmk w u) 0 0 Q) → zEv sc 155 d 5 [.ref 79, .int (zI p), x2] [] (zmk v u) 0 0 Q := by
        intro d v u x2 hd hP Q k
        obtain ⟨hT, hR, hb, l0, l1⟩ := id hP
        have mid : zEv sc 155 d 39 [.ref 79, .int (zI p), x2] [.int (zI (enc z))] (zmk v u) 0 0 Q := by
          refine e_is2 o155_39 (e_al0 o155_40 (e_Vv0 o155_41 K155 K134 rfl ⟨rfl, rfl⟩ (zrcv_I L79 rfl) (by omega) rfl (m134 (e := te B N e) (by omega) hT hR.2.2.2.1 (by omega) (by omega)) ?_))
          rintro w1 u' ⟨⟨q1, q2⟩, rfl⟩
          refine e_al0 o155_44 (e_il1 o155_45 (e_Vv1 o155_46 K155 K156 rfl ⟨rfl, rfl⟩ (zrcv_I L79 rfl) (by omega) rfl (hm1 (d - 1) w1 u (by omega) (MPre_FR hP q1 q2 (by omega))) ?_))
          rintro w u' ⟨hO, rfl⟩
          exact k w1 w q1 (MPre_FR hP q1 q2 (by omega)) hO
        refine e_al0 o155_5 (e_bip o155_6 rfl (e_Vi1 o155_8 K155 K151 rfl ⟨rfl, rfl⟩ (zrcv_I L79 rfl) (by omega) rfl (m151 (c := 42) hb hT hR e0 e1 rfl) ?_))
        rintro _ _ _ ⟨rfl, rfl, rfl⟩
        refine e_bz_ne o155_11 23 rfl (fun hb11 => ?_) (fun hb11 => ?_)
        · refine e_al0 o155_23 (e_bip o155_24 rfl (e_Vi1 o155_26 K155 K151 rfl ⟨rfl, rfl⟩ (zrcv_I L79 rfl) (by omega) rfl (m151 (c := 42) hb hT hR e0 e1 rfl) ?_))
          rintro _ _ _ ⟨rfl, rfl, rfl⟩
          refine e_bz_eq o155_29 37 rfl (fun hb29 => ?_) (fun hb29 => ?_)
          · refine e_bip o155_37 rfl ?_
            rcases hz with ⟨y1, y2⟩ | ⟨y1, y2, y3⟩
            · first | exact absurd y1 hb29 | (rw [y2] at mid; exact mid)
            · first | exact absurd hb29 y1 | (rw [y3] at mid; exact mid)
          · refine e_bip o155_32 rfl (e_goto o155_34 39 rfl ?_)
            rcases hz with ⟨y1, y2⟩ | ⟨y1, y2, y3⟩
            · first | exact absurd y1 hb29 | (rw [y2] at mid; exact mid)
            · first | exact absurd hb29 y1 | (rw [y3] at mid; exact mid)
        · refine e_al0 o155_14 (e_bip o155_15 rfl (e_Vi1 o155_17 K155 K151 rfl ⟨rfl, rfl⟩ (zrcv_I L79 rfl) (by omega) rfl (m151 (c := 47) hb hT hR e0 e1 rfl) ?_))
          rintro _ _ _ ⟨rfl, rfl, rfl⟩
          refine e_bz_eq o155_20 57 rfl (fun hb20 => ?_) (fun hb20 => ?_)
          · rcases hs with h | h; exact absurd h hb11; exact absurd h hb20
          · refine e_al0 o155_23 (e_bip o155_24 rfl (e_Vi1 o155_26 K155 K151 rfl ⟨rfl, rfl⟩ (zrcv_I L79 rfl) (by omega) rfl (m151 (c := 42) hb hT hR e0 e1 rfl) ?_))
            rintro _ _ _ ⟨rfl, rfl, rfl⟩
            refine e_bz_eq o155_29 37 rfl (fun hb29 => ?_) (fun hb29 => ?_)
            · refine e_bip o155_37 rfl ?_
              rcases hz with ⟨y1, y2⟩ | ⟨y1, y2, y3⟩
              · first | exact absurd y1 hb29 | (rw [y2] at mid; exact mid)
              · first | exact absurd hb29 y1 | (rw [y3] at mid; exact mid)
            · refine e_bip o155_32 rfl (e_goto o155_34 39 rfl ?_)
              rcases hz with ⟨y1, y2⟩ | ⟨y1, y2, y3⟩
              · first | exact absurd y1 hb29 | (rw [y2] at mid; exact mid)
              · first | exact absurd hb29 y1 | (rw [y3] at mid; exact mid)
      cases o1 using PO_c with
      | bad c q =>
        refine ⟨.bad c q, g1.1, ?_, ?_⟩
        · intro d v u i x4 hd hP i0 i1
          refine cgo d v u i x4 hd hP i0 i1 _ ?_
          rintro w1 w w' y q1 hP1 ⟨rfl, a2, a3, a4, a5⟩ r1 r2 r3 r4 r5
          refine cdead _ _ _ _ _ _ ?_ (by omega)
          refine e_il2 o91_95 ?_
          refine e_rI o91_96 K91 rfl rfl ?_
          refine ⟨⟨rfl, FP_t (FP_t (FC_FP q1) a2) r1, ?_, ?_, r4⟩, rfl⟩
          · simp only [zg]; rw [r2]; exact a3
          · simp only [zg]; rw [r2]; exact a4
        · intro d v u x2 hd hP
          refine mgo d v u x2 hd hP _ ?_
          rintro w1 w q1 hP1 ⟨a1, a2, a3⟩
          have nb : ¬ zg w 79 21 = 0 := by have := g1.1.1; omega
          refine e_al0 o155_49 (e_il2 o155_50 (e_Vv1 o155_51 K155 K157 rfl ⟨rfl, rfl⟩ (zrcv_I L79 rfl) (by omega) rfl (m157_d nb) ?_))
          rintro _ _ ⟨rfl, rfl⟩
          refine e_goto o155_54 5 rfl (e_al0 o155_5 (e_bip o155_6 rfl (e_Vi1 o155_8 K155 K151 rfl ⟨rfl, rfl⟩ (zrcv_I L79 rfl) (by omega) rfl (m151_d nb) ?_)))
          rintro _ _ _ ⟨rfl, rfl, rfl⟩
          refine e_if_ne o155_11 23 rfl (by first | exact zg_rg _ _ _ | exact zt_rg _ | omega) (fun hb11 => ?_) (fun hb11 => ?_)
          · omega
          · refine e_al0 o155_14 (e_bip o155_15 rfl (e_Vi1 o155_17 K155 K151 rfl ⟨rfl, rfl⟩ (zrcv_I L79 rfl) (by omega) rfl (m151_d nb) ?_))
            rintro _ _ _ ⟨rfl, rfl, rfl⟩
            refine e_if_eq o155_20 57 rfl (by first | exact zg_rg _ _ _ | exact zt_rg _ | omega) (fun hb20 => ?_) (fun hb20 => ?_)
            · refine e_rV o155_57 K155 rfl rfl ?_
              exact ⟨⟨FQ_t (FRm_FQ q1) a1, a2, a3⟩, rfl⟩
            · omega
      | ok e2 L2 =>
        obtain ⟨⟨k1, k2, k3, k4, k5⟩, _⟩ := g1
        obtain ⟨o2, g2, hc2, hm2⟩ := ih e2 (by omega) (by omega) (by omega) k2
        -- the class behind one more
        have cnx : ∀ (v w1 w w' : zV), CPre B N v e → FC v w1 → CPre B N w1 (te B N e) → CT B N w e2 → FP w1 w → lay13 w1 w L2 → FP w w' → (∀ q, w' 1 q = w 1 q) → (∀ q, w' 2 q = w 2 q) → (zg w 12 3 < 600 → lay13 w w' [z]) → CPre B N w' e2 ∧ FP v w' ∧ lay13 v w' (L2 ++ [z]) := by
          intro v w1 w w' hP q1 hP1 a2 a3 a4 r1 r2 r3 r5
          have l1 := a4.1
          have l2 := hP1.2.2
          have e12 : zg w1 12 3 = zg v 12 3 := by simp only [zg]; rw [q1 12 3 (by omega)]
          have l5 := hP.2.2
          have l3 := r5 (by omega)
          have l4 := l3.1
          have hF : FP v w' := FP_t (FP_t (FC_FP q1) a3) r1
          have e := lay13_t (lay13_t (lay13_r (fun q => q1 13 q (by omega)) (q1 12 3 (by omega))) a4) l3
          refine ⟨⟨TXc_P hP.1 hF, ?_, ?_, ?_⟩, hF, e⟩
          · unfold CT at a2 ⊢
            rw [show zg w' 2 = zg w 2 from zg_fn r3]
            exact a2
          · rw [l4]; simp; omega
          · rw [l4]; simp; omega
        have mnx : ∀ (v w1 w : zV), MPre B N v e → FRm v w1 → MPre B N w1 (te B N e) → FQ w1 w → zg w 79 21 = 0 → RT B N w e2 → lay90 w1 w L2 → (0 ≤ zg w 82 7 ∧ zg w 82 7 < 600) ∧ MPre B N (zu (zu w 90 (600 + zg w 82 7) (zI (enc z))) 82 7 (zI (zg w 82 7 + 1))) e2 ∧ FQ v (zu (zu w 90 (600 + zg w 82 7) (zI (enc z))) 82 7 (zI (zg w 82 7 + 1))) ∧ lay90 v (zu (zu w 90 (600 + zg w 82 7) (zI (enc z))) 82 7 (zI (zg w 82 7 + 1))) (L2 ++ [z]) := by
          intro v w1 w hP q1 hP1 a1 a2 a3 a4
          have l1 := a4.1
          have l2 := hP1.2.2.2
          have e82 : zg w1 82 7 = zg v 82 7 := by simp only [zg]; rw [q1 82 7 (by omega)]
          have l5 := hP.2.2.2
          have hl : 0 ≤ zg w 82 7 ∧ zg w 82 7 < 600 := by omega
          have e9 := lay90_1 (v := w) (z := z) hl.1 hl.2 (by omega) (by omega)
          have e := lay90_t (lay90_t (lay90_r (fun q => q1 90 q (by omega)) (q1 82 7 (by omega))) a4) e9
          have hF : FQ v (zu (zu w 90 (600 + zg w 82 7) (zI (enc z))) 82 7 (zI (zg w 82 7 + 1))) := FQ_t (FQ_t (FRm_FQ q1) a1) (fun a q k1 k2 k3 => by rw [zu_ne (by omega), zu_ne (by omega)])
          refine ⟨hl, ⟨TXm_Q hP.1 hF, ?_, ?_, ?_, ?_⟩, hF, e⟩
          · unfold RT at a3 ⊢
            have z79 : ∀ q, zg (zu (zu w 90 (600 + zg w 82 7) (zI (enc z))) 82 7 (zI (zg w 82 7 + 1))) 79 q = zg w 79 q := fun q => by rw [zg_na (by decide), zg_na (by decide)]
            rw [z79, z79, z79, z79, z79]
            exact a3
          · rw [zg_na (by decide), zg_na (by decide)]; exact a2
          · rw [zg_same (by omega)]; omega
          · rw [zg_same (by omega)]; omega
        cases o2 using PO_c with
        | bad c q =>
          refine ⟨.bad c q, g2, ?_, ?_⟩
          · intro d v u i x4 hd hP i0 i1
            refine cgo d v u i x4 hd hP i0 i1 _ ?_
            rintro w1 w w' y q1 hP1 ⟨rfl, a2, a3, a4⟩ r1 r2 r3 r4 r5
            obtain ⟨c1, c2, c3⟩ := cnx v w1 w w' hP q1 hP1 a3 a2 a4 r1 r2 r3 r5
            refine zEv_mono (hc2 d w' u (i + 1) _ hd c1 (by omega) (by omega)) ?_
            rintro _ _ ⟨y, x, t, rfl, rfl, ⟨b1, b2, b3⟩, rfl⟩
            exact ⟨y, x, _, rfl, rfl, ⟨b1, FP_t c2 b2, b3⟩, rfl⟩
          · intro d v u x2 hd hP
            refine mgo d v u x2 hd hP _ ?_
            rintro w1 w q1 hP1 ⟨a1, a2, a3, a4⟩
            obtain ⟨hl, c1, c2, c3⟩ := mnx v w1 w hP q1 hP1 a1 a2 a3 a4
            refine e_al0 o155_49 (e_il2 o155_50 (e_Vv1 o155_51 K155 K157 rfl ⟨rfl, rfl⟩ (zrcv_I L79 rfl) (by omega) rfl (m157 a2 rfl hl.1 hl.2) ?_))
            rintro _ _ ⟨rfl, rfl⟩
            refine e_goto o155_54 5 rfl ?_
            refine zEv_mono (hm2 d _ u _ hd c1) ?_
            rintro _ _ ⟨x, t, rfl, rfl, ⟨b1, b2, b3⟩, rfl⟩
            exact ⟨x, _, rfl, rfl, ⟨FQ_t c2 b1, b2, b3⟩, rfl⟩
        | ok e3 L3 =>
          obtain ⟨j1, j2, j3, j4⟩ := g2
          refine ⟨.ok e3 ((L2 ++ [z]) ++ L3), ⟨by omega, j2, by simp; omega, fun c c0 => ?_⟩, ?_, ?_⟩
          · refine okL_app (m := c + 1) (okL_app (m := c + 2) (okL_mono (M := c + 1 + 27 - 5 * p + 0) (by omega) ?_) ?_) (j4 c c0)
            · have e := k5 (c + 1) (by omega)
              rw [show c + 1 + 1 = c + 2 by omega] at e
              exact e
            · refine ⟨by omega, ?_⟩
              show dnx z (c + 2) = c + 1
              unfold dnx
              rw [if_neg (by omega), if_neg (by omega)]
              omega
          · intro d v u i x4 hd hP i0 i1
            refine cgo d v u i x4 hd hP i0 i1 _ ?_
            rintro w1 w w' y q1 hP1 ⟨rfl, a2, a3, a4⟩ r1 r2 r3 r4 r5
            obtain ⟨c1, c2, c3⟩ := cnx v w1 w w' hP q1 hP1 a3 a2 a4 r1 r2 r3 r5
            refine zEv_mono (hc2 d w' u (i + 1) _ hd c1 (by omega) (by omega)) ?_
            rintro _ _ ⟨y, x, t, rfl, rfl, ⟨b1, b2, b3, b4⟩, rfl⟩
            exact ⟨y, x, _, rfl, rfl, ⟨b1, FP_t c2 b2, b3, lay13_t c3 b4⟩, rfl⟩
          · intro d v u x2 hd hP
            refine mgo d v u x2 hd hP _ ?_
            rintro w1 w q1 hP1 ⟨a1, a2, a3, a4⟩
            obtain ⟨hl, c1, c2, c3⟩ := mnx v w1 w hP q1 hP1 a1 a2 a3 a4
            refine e_al0 o155_49 (e_il2 o155_50 (e_Vv1 o155_51 K155 K157 rfl ⟨rfl, rfl⟩ (zrcv_I L79 rfl) (by omega) rfl (m157 a2 rfl hl.1 hl.2) ?_))
            rintro _ _ ⟨rfl, rfl⟩
            refine e_goto o155_54 5 rfl ?_
            refine zEv_mono (hm2 d _ u _ hd c1) ?_
            rintro _ _ ⟨x, t, rfl, rfl, ⟨b1, b2, b3, b4⟩, rfl⟩
            exact ⟨x, _, rfl, rfl, ⟨FQ_t c2 b1, b2, b3, lay90_t c3 b4⟩, rfl⟩
    · have ns1 : ¬ isS B N e 42 = true := fun h => hs (Or.inl h)
      have ns2 : ¬ isS B N e 47 = true := fun h => hs (Or.inr h)
      refine ⟨.ok e [], ⟨by omega, by omega, by simp, fun c c0 => rfl⟩, ?_, ?_⟩
      · intro d v u i x4 hd hP i0 i1
        obtain ⟨hT, hC, l0, l1⟩ := id hP
        refine e_il3 o91_8 (e_sip o91_9 rfl (e_ic_ge o91_12 95 rfl (by first | exact zg_rg _ _ _ | exact zt_rg _ | omega) (by first | exact zg_rg _ _ _ | exact zt_rg _ | omega) (fun hb12 => ?_) (fun hb12 => ?_)))
        · refine e_il2 o91_95 ?_
          refine e_rI o91_96 K91 rfl rfl ?_
          exact ⟨⟨rfl, FP_r, hC, lay13_r (fun _ => rfl) rfl⟩, rfl⟩
        · refine e_il2 o91_15 (e_if_eq o91_16 95 rfl (by first | exact zg_rg _ _ _ | exact zt_rg _ | omega) (fun hb16 => ?_) (fun hb16 => ?_))
          · omega
          · refine e_al0 o91_19 (e_gR o91_20 L1 rfl rfl (e_bip o91_23 rfl (e_Vi1 o91_25 K91 K39 rfl ⟨rfl, rfl⟩ (zrcv_I L2 rfl) (by omega) rfl (c39 (x := 42) hT hC e0 e1 (by omega)) ?_)))
            rintro _ _ _ ⟨rfl, rfl, rfl⟩
            refine e_bz_ne o91_28 43 rfl (fun hb28 => ?_) (fun hb28 => ?_)
            · exact absurd hb28 ns1
            · refine e_al0 o91_31 (e_gR o91_32 L1 rfl rfl (e_bip o91_35 rfl (e_Vi1 o91_37 K91 K39 rfl ⟨rfl, rfl⟩ (zrcv_I L2 rfl) (by omega) rfl (c39 (x := 47) hT hC e0 e1 (by omega)) ?_)))
              rintro _ _ _ ⟨rfl, rfl, rfl⟩
              refine e_bz_eq o91_40 95 rfl (fun hb40 => ?_) (fun hb40 => ?_)
              · refine e_il2 o91_95 ?_
                refine e_rI o91_96 K91 rfl rfl ?_
                exact ⟨⟨rfl, FP_r, hC, lay13_r (fun _ => rfl) rfl⟩, rfl⟩
              · exact absurd hb40 ns2
      · intro d v u x2 hd hP
        obtain ⟨hT, hR, hb, l0, l1⟩ := id hP
        refine e_al0 o155_5 (e_bip o155_6 rfl (e_Vi1 o155_8 K155 K151 rfl ⟨rfl, rfl⟩ (zrcv_I L79 rfl) (by omega) rfl (m151 (c := 42) hb hT hR e0 e1 rfl) ?_))
        rintro _ _ _ ⟨rfl, rfl, rfl⟩
        refine e_bz_ne o155_11 23 rfl (fun hb11 => ?_) (fun hb11 => ?_)
        · exact absurd hb11 ns1
        · refine e_al0 o155_14 (e_bip o155_15 rfl (e_Vi1 o155_17 K155 K151 rfl ⟨rfl, rfl⟩ (zrcv_I L79 rfl) (by omega) rfl (m151 (c := 47) hb hT hR e0 e1 rfl) ?_))
          rintro _ _ _ ⟨rfl, rfl, rfl⟩
          refine e_bz_eq o155_20 57 rfl (fun hb20 => ?_) (fun hb20 => ?_)
          · refine e_rV o155_57 K155 rfl rfl ?_
            exact ⟨⟨FQ_r, hb, hR, lay90_r (fun _ => rfl) rfl⟩, rfl⟩
          · exact absurd hb20 ns2
theorem LVprod {E0 p : Int} (n6 : N ≤ 600) (p0 : 0 ≤ p) (p5 : p ≤ 5) (HP : ∀ e, E0 ≤ e → 0 ≤ e → e ≤ N → LV sc B N 92 156 [zJ] [zJ] (8 * (6 - p) + 12) 0 p e) : ∀ e, E0 ≤ e → 0 ≤ e → e ≤ N → LV sc B N 91 155 [zJ, zJ, zJ] [zJ] (8 * (6 - p) + 13) 1 p e := by
  intro e h0 e0 e1
  obtain ⟨o1, g1, hc, hm⟩ := HP e h0 e0 e1
  cases o1 using PO_c with
  | bad c q =>
    refine ⟨.bad c q, g1, ?_, ?_⟩
    · intro d v u hd hP
      refine e_al0 o91_0 (e_il1 o91_1 (e_Vi1 o91_2 K91 K92 rfl ⟨rfl, rfl⟩ (zrcv_I L1 rfl) (by omega) rfl (hc (d - 1) v u (by omega) hP) ?_))
      rintro y w u' ⟨⟨rfl, a2, a3⟩, rfl⟩
      refine e_is2 o91_5 (e_ico o91_6 (e_is3 o91_7 (e_il3 o91_8 (e_sip o91_9 rfl (e_ic_ge o91_12 95 rfl (by first | exact zg_rg _ _ _ | exact zt_rg _ | omega) (by first | exact zg_rg _ _ _ | exact zt_rg _ | omega) (fun hb12 => ?_) (fun hb12 => ?_))))))
      · refine e_il2 o91_95 ?_
        refine e_rI o91_96 K91 rfl rfl ?_
        exact ⟨⟨rfl, a2, a3⟩, rfl⟩
      · refine e_il2 o91_15 (e_if_eq o91_16 95 rfl (by first | exact zg_rg _ _ _ | exact zt_rg _ | omega) (fun hb16 => ?_) (fun hb16 => ?_))
        · refine e_il2 o91_95 ?_
          refine e_rI o91_96 K91 rfl rfl ?_
          exact ⟨⟨rfl, a2, a3⟩, rfl⟩
        · omega
    · intro d v u hd hP
      refine e_al0 o155_0 (e_il1 o155_1 (e_Vv1 o155_2 K155 K156 rfl ⟨rfl, rfl⟩ (zrcv_I L79 rfl) (by omega) rfl (hm (d - 1) v u (by omega) hP) ?_))
      rintro w u' ⟨⟨a1, a2, a3⟩, rfl⟩
      have nb : ¬ zg w 79 21 = 0 := by have := g1.1.1; omega
      refine e_al0 o155_5 (e_bip o155_6 rfl (e_Vi1 o155_8 K155 K151 rfl ⟨rfl, rfl⟩ (zrcv_I L79 rfl) (by omega) rfl (m151_d nb) ?_))
      rintro _ _ _ ⟨rfl, rfl, rfl⟩
      refine e_if_ne o155_11 23 rfl (by first | exact zg_rg _ _ _ | exact zt_rg _ | omega) (fun hb11 => ?_) (fun hb11 => ?_)
      · omega
      · refine e_al0 o155_14 (e_bip o155_15 rfl (e_Vi1 o155_17 K155 K151 rfl ⟨rfl, rfl⟩ (zrcv_I L79 rfl) (by omega) rfl (m151_d nb) ?_))
        rintro _ _ _ ⟨rfl, rfl, rfl⟩
        refine e_if_eq o155_20 57 rfl (by first | exact zg_rg _ _ _ | exact zt_rg _ | omega) (fun hb20 => ?_) (fun hb20 => ?_)
        · refine e_rV o155_57 K155 rfl rfl ?_
          exact ⟨⟨a1, a2, a3⟩, rfl⟩
        · omega
  | ok e1' L =>
    obtain ⟨⟨k1, k2, k3, k4, k5⟩, k6⟩ := g1
    obtain ⟨o2, g2, hc2, hm2⟩ := LLprod (E0 := E0) n6 p0 p5 HP (N - e1').toNat e1' (Nat.le_refl _) (by omega) (by omega) k2
    have cP : ∀ (v w : zV), CPre B N v e → FP v w → CT B N w e1' → lay13 v w L → CPre B N w e1' := by
      intro v w hP a2 a3 a4
      have l1 := a4.1
      have l2 := hP.2.2
      exact ⟨TXc_P hP.1 a2, a3, by omega, by omega⟩
    have mP : ∀ (v w : zV), MPre B N v e → FQ v w → zg w 79 21 = 0 → RT B N w e1' → lay90 v w L → MPre B N w e1' := by
      intro v w hP a1 a2 a3 a4
      have l1 := a4.1
      have l2 := hP.2.2.2
      exact ⟨TXm_Q hP.1 a1, a3, a2, by omega, by omega⟩
    cases o2 using PO_c with
    | bad c q =>
      refine ⟨.bad c q, ⟨g2, fun z => (PO_ne (k6 z)).elim⟩, ?_, ?_⟩
      · intro d v u hd hP
        refine e_al0 o91_0 (e_il1 o91_1 (e_Vi1 o91_2 K91 K92 rfl ⟨rfl, rfl⟩ (zrcv_I L1 rfl) (by omega) rfl (hc (d - 1) v u (by omega) hP) ?_))
        rintro y w u' ⟨⟨rfl, a2, a3, a4⟩, rfl⟩
        refine e_is2 o91_5 (e_ico o91_6 (e_is3 o91_7 ?_))
        refine zEv_mono (hc2 d w u 0 _ hd (cP v w hP a2 a3 a4) (by omega) (by omega)) ?_
        rintro _ _ ⟨y, x, t, rfl, rfl, ⟨b1, b2, b3⟩, rfl⟩
        exact ⟨y, x, _, rfl, rfl, ⟨b1, FP_t a2 b2, b3⟩, rfl⟩
      · intro d v u hd hP
        refine e_al0 o155_0 (e_il1 o155_1 (e_Vv1 o155_2 K155 K156 rfl ⟨rfl, rfl⟩ (zrcv_I L79 rfl) (by omega) rfl (hm (d - 1) v u (by omega) hP) ?_))
        rintro w u' ⟨⟨a1, a2, a3, a4⟩, rfl⟩
        refine zEv_mono (hm2 d w u _ hd (mP v w hP a1 a2 a3 a4)) ?_
        rintro _ _ ⟨x, t, rfl, rfl, ⟨b1, b2, b3⟩, rfl⟩
        exact ⟨x, _, rfl, rfl, ⟨FQ_t a1 b1, b2, b3⟩, rfl⟩
    | ok e3 L3 =>
      obtain ⟨j1, j2, j3, j4⟩ := g2
      refine ⟨.ok e3 (L ++ L3), ⟨⟨by omega, j2, by simp; omega, by simp; omega, fun c c0 => okL_app (m := c + 1) (okL_mono (by omega) (k5 c c0)) (j4 c c0)⟩, fun z => (PO_ne (k6 z)).elim⟩, ?_, ?_⟩
      · intro d v u hd hP
        refine e_al0 o91_0 (e_il1 o91_1 (e_Vi1 o91_2 K91 K92 rfl ⟨rfl, rfl⟩ (zrcv_I L1 rfl) (by omega) rfl (hc (d - 1) v u (by omega) hP) ?_))
        rintro y w u' ⟨⟨rfl, a2, a3, a4⟩, rfl⟩
        refine e_is2 o91_5 (e_ico o91_6 (e_is3 o91_7 ?_))
        refine zEv_mono (hc2 d w u 0 _ hd (cP v w hP a2 a3 a4) (by omega) (by omega)) ?_
        rintro _ _ ⟨y, x, t, rfl, rfl, ⟨b1, b2, b3, b4⟩, rfl⟩
        exact ⟨y, x, _, rfl, rfl, ⟨b1, FP_t a2 b2, b3, lay13_t a4 b4⟩, rfl⟩
      · intro d v u hd hP
        refine e_al0 o155_0 (e_il1 o155_1 (e_Vv1 o155_2 K155 K156 rfl ⟨rfl, rfl⟩ (zrcv_I L79 rfl) (by omega) rfl (hm (d - 1) v u (by omega) hP) ?_))
        rintro w u' ⟨⟨a1, a2, a3, a4⟩, rfl⟩
        refine zEv_mono (hm2 d w u _ hd (mP v w hP a1 a2 a3 a4)) ?_
        rintro _ _ ⟨x, t, rfl, rfl, ⟨b1, b2, b3, b4⟩, rfl⟩
        exact ⟨x, _, rfl, rfl, ⟨FQ_t a1 b1, b2, b3, lay90_t a4 b4⟩, rfl⟩
end
