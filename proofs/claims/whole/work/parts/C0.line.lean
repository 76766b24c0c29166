/-! a line -/
section
variable {sc : Nat × (Nat → Int32)} {B : Int → Int} {N : Int} {D : Dr}
theorem wdX_all {s : Int} {r : Nat} : ∀ n, 0 ≤ n → wdX B s r n = true → ∀ i, 0 ≤ i → i < n → B (s + i) = sC r i := by
  refine zup ?_ ?_
  · intro _ i i0 i1; omega
  · intro n n0 ih h i i0 i1
    rw [wdX_succ n0, Bool.and_eq_true] at h
    rcases (show i < n ∨ i = n by omega) with z | z
    · exact ih h.1 i i0 z
    · rw [z]; exact of_decide_eq_true h.2
theorem isW_x {e : Int} {r r' : Nat} (h : isW B N e r = true) (hr : r < 48) (hne : ¬ sN r = sN r' ∨ (0 < sN r ∧ ¬ sC r 0 = sC r' 0)) : ¬ isW B N e r' = true := by
  intro h'
  unfold isW at h h'
  rw [Bool.and_eq_true] at h h'
  have a := of_decide_eq_true h.1
  have b := of_decide_eq_true h'.1
  rcases hne with z | ⟨z0, z⟩
  · omega
  · have := sN_ok hr
    have x := wdX_all _ (by omega) h.2 0 (by omega) z0
    have y := wdX_all _ (by omega) h'.2 0 (by omega) (by omega)
    omega
def DrT (D : Dr) (L : List Int) : Dr := (D.np, D.ns, D.nk, D.need, D.weight, D.origin, D.square, D.kind, D.hold, D.home, L)
theorem EXPR0 (n6 : N ≤ 600) {e : Int} (e0 : 0 ≤ e) (e1 : e ≤ N) : LV sc B N 86 150 [zJ, zJ] [zJ] (8 * (6 - 0) + 18) 5 0 e := EXPR n6 (N - e).toNat e (Nat.le_refl _) e0 e1 0 (by omega) (by omega)
theorem CD_T {v w : zV} {L : List Int} (hD : CD D v) (hL : D.L = []) (hw : FP v w) (hy : lay13 v w L) : CD (DrT D L) w := by
  have g : ∀ a, 4 ≤ a → a ≤ 11 → zg w a = zg v a := fun a h1 h2 => zg_fn fun q => hw a q (by omega) (by omega) (by omega) (by omega)
  obtain ⟨a1, a2, a3, a4, a5, a6⟩ := hD
  obtain ⟨b1, b2, b3⟩ := hy
  rw [hL] at a5
  have a5 : zg v 12 3 = 0 := a5
  refine ⟨?_, ?_, ?_, ?_, ?_, fun i hi => ?_⟩
  · rw [g 4 (by omega) (by omega)]; exact a1
  · rw [g 5 (by omega) (by omega), g 6 (by omega) (by omega)]; exact a2
  · rw [g 7 (by omega) (by omega), g 8 (by omega) (by omega)]; exact a3
  · rw [g 9 (by omega) (by omega), g 10 (by omega) (by omega), g 11 (by omega) (by omega)]; exact a4
  · rw [b1, a5, Int.zero_add]; rfl
  · have e := b2 i hi
    rw [a5, Int.zero_add] at e
    exact e
theorem MD_T {v w : zV} {L : List Int} (hD : MD D v) (hL : D.L = []) (hw : FQ v w) (hy : lay90 v w L) : MD (DrT D L) w := by
  have g : ∀ a, 83 ≤ a → a ≤ 89 → zg w a = zg v a := fun a h1 h2 => zg_fn fun q => hw a q (by omega) (by omega) (by omega)
  have g2 : ∀ q, ¬ q = 7 → zg w 82 q = zg v 82 q := fun q h => by simp only [zg]; rw [hw 82 q (by omega) (by omega) (by omega)]
  obtain ⟨a1, a2, a3, a4, a5, a6⟩ := hD
  obtain ⟨b1, b2, b3⟩ := hy
  rw [hL] at a5
  have a5 : zg v 82 7 = 0 := a5
  refine ⟨?_, ?_, ?_, ?_, ?_, fun i hi => ?_⟩
  · rw [g2 4 (by omega), g2 5 (by omega), g2 6 (by omega)]; exact a1
  · rw [g 83 (by omega) (by omega), g 84 (by omega) (by omega)]; exact a2
  · rw [g 85 (by omega) (by omega), g 86 (by omega) (by omega)]; exact a3
  · rw [g 87 (by omega) (by omega), g 88 (by omega) (by omega), g 89 (by omega) (by omega)]; exact a4
  · rw [b1, a5, Int.zero_add]; rfl
  · have e := b2 i hi
    rw [a5, Int.add_zero] at e
    exact e
/-- what a line gives, ahead of its mark -/
theorem LNbody {e : Int} (hB : DB D) (n6 : N ≤ 600) (e0 : 0 ≤ e) (e1 : e ≤ N) (hk : ¬ tk B N e = 0) (hl : (D.L.length : Int) ≤ e) : ∃ o, gLn N e (fun _ => True) o ∧ (∀ (d : Nat) v u Q, 100 ≤ d → CL B N D v e → (∀ w y, kOut B N o v w y → zEv sc 79 d 69 [.ref 1, .int y] [] (zmk w u) 0 0 Q) → zEv sc 79 d 0 [.ref 1, zJ] [] (zmk v u) 0 0 Q) ∧ (∀ (d : Nat) v u Q h, 100 ≤ d → ML B N D v e → h = (if 0 < D.L.length then 1 else 0) → (∀ w x2 y3, (y3 = 0 ∨ y3 = 1) → rOut B N o v w → (∀ e' D', o = .ok e' D' → (if 0 < D'.L.length then (1 : Int) else 0) = (if h = 0 then y3 else 1)) → zEv sc 139 d 102 [.ref 79, .int (zI h), x2, .int (zI y3)] [] (zmk w u) 0 0 Q) → zEv sc 139 d 0 [.ref 79, .int (zI h), zJ, zJ] [] (zmk v u) 0 0 Q) := by
  have h1 := ts_in (B := B) e1
  have h2 := te_in (B := B) e1
  have h3 := h2.2.2.1 hk
  have q1 : isW B N e 42 = isW B N e 1 := isW_eq rfl
  have q3 : isW B N e 44 = isW B N e 3 := isW_eq rfl
  have q4 : isW B N e 41 = isW B N e 4 := isW_eq rfl
  have RTx : ∀ {w : zV}, FRm w w := fun _ _ _ => rfl
  have gT : ∀ {o : LO} {M : List Int → Prop}, gLn N e M o → gLn N e (fun _ => True) o := by
    intro o M g
    cases o using LO_c with
    | bad c q => exact g
    | ok e' D' => exact ⟨g.1, g.2.1, g.2.2.1, g.2.2.2.1, trivial⟩
  have hh0 : ∀ {h : Int} {D' : Dr}, h = (if 0 < D.L.length then 1 else 0) → D'.L = D.L → (if 0 < D'.L.length then (1 : Int) else 0) = (if h = 0 then 0 else 1) := by
    intro h D' hh hL
    rw [hL, hh]
    split <;> rfl
  -- the reference, dead behind its word
  have mdead : ∀ (d : Nat) v u Q (h x2 : Int) y3, 100 ≤ d → (y3 = 0 ∨ y3 = 1) → ¬ zg v 79 21 = 0 → zEv sc 139 d 102 [.ref 79, .int (zI h), .int (zI x2), .int (zI y3)] [] (zmk v u) 0 0 Q → x2 = -1 → zEv sc 139 d 30 [.ref 79, .int (zI h), .int (zI x2), .int (zI y3)] [] (zmk v u) 0 0 Q := by
    intro d v u Q h x2 y3 hd hy hb k hx
    have d150 : ∀ x, zEv sc 150 (d - 1) 0 [.ref 79, .int (zI x), zJ] [] (zmk v u) 0 0 (zdo v u) := by
      intro x
      refine e_al0 o150_0 (e_gI o150_1 L79 rfl 21 rfl (e_if_eq o150_4 8 rfl (by first | exact zg_rg _ _ _ | exact zt_rg _ | omega) (fun hb4 => ?_) (fun hb4 => ?_)))
      · exact absurd hb4 hb
      · refine e_rV o150_7 K150 rfl rfl ?_
        exact ⟨rfl, rfl⟩
    refine e_il2 o139_30 (e_ico o139_31 (e_ic_eq o139_32 43 rfl (by first | exact zg_rg _ _ _ | exact zt_rg _ | omega) (by first | exact zg_rg _ _ _ | exact zt_rg _ | omega) (fun hb32 => ?_) (fun hb32 => ?_)))
    · refine e_al0 o139_43 (e_ldc_wS o139_44 rfl (e_Vi1 o139_47 K139 K141 rfl ⟨rfl, rfl⟩ (zrcv_I L79 rfl) (by omega) rfl (m141_d (r := 42) (by omega) (by omega) hb) ?_))
      rintro _ _ _ ⟨rfl, rfl, rfl⟩
      refine e_if_eq o139_50 60 rfl (by first | exact zg_rg _ _ _ | exact zt_rg _ | omega) (fun hb50 => ?_) (fun hb50 => ?_)
      · refine e_al0 o139_60 (e_ldc_wS o139_61 rfl (e_Vi1 o139_64 K139 K148 rfl ⟨rfl, rfl⟩ (zrcv_I L79 rfl) (by omega) rfl (m148_d (r := 44) (by omega) (by omega) hb) ?_))
        rintro _ _ _ ⟨rfl, rfl, rfl⟩
        refine e_if_eq o139_67 77 rfl (by first | exact zg_rg _ _ _ | exact zt_rg _ | omega) (fun hb67 => ?_) (fun hb67 => ?_)
        · refine e_il3 o139_77 (e_if_ne o139_78 86 rfl (by first | exact zg_rg _ _ _ | exact zt_rg _ | omega) (fun hb78 => ?_) (fun hb78 => ?_))
          · refine e_al0 o139_86 (e_gI o139_87 L79 rfl 21 rfl (e_if_ne o139_90 97 rfl (by first | exact zg_rg _ _ _ | exact zt_rg _ | omega) (fun hb90 => ?_) (fun hb90 => ?_)))
            · refine e_al0 o139_97 (e_ico o139_98 (e_Vv1 o139_99 K139 K150 rfl ⟨rfl, rfl⟩ (zrcv_I L79 rfl) (by omega) rfl (d150 _) ?_))
              rintro _ _ ⟨rfl, rfl⟩
              exact k
            · exact absurd hb90 hb
          · refine e_al0 o139_81 (e_ico o139_82 (e_Vv1 o139_83 K139 K142 rfl ⟨rfl, rfl⟩ (zrcv_I L79 rfl) (by omega) rfl (m142_d hb) ?_))
            rintro _ _ ⟨rfl, rfl⟩
            refine e_al0 o139_86 (e_gI o139_87 L79 rfl 21 rfl (e_if_ne o139_90 97 rfl (by first | exact zg_rg _ _ _ | exact zt_rg _ | omega) (fun hb90 => ?_) (fun hb90 => ?_)))
            · refine e_al0 o139_97 (e_ico o139_98 (e_Vv1 o139_99 K139 K150 rfl ⟨rfl, rfl⟩ (zrcv_I L79 rfl) (by omega) rfl (d150 _) ?_))
              rintro _ _ ⟨rfl, rfl⟩
              exact k
            · exact absurd hb90 hb
        · omega
      · omega
    · omega
  by_cases w1 : isW B N e 1 = true
  · have n4 : ¬ isW B N e 4 = true := isW_x w1 (by decide) (Or.inl (by decide))
    have nK : kK B N e = -1 := by
      unfold kK
      rw [if_neg (isW_x w1 (by decide) (Or.inl (by decide))), if_neg (isW_x w1 (by decide) (Or.inl (by decide))), if_neg (isW_x w1 (by decide) (Or.inl (by decide))), if_neg (isW_x w1 (by decide) (Or.inl (by decide)))]
    obtain ⟨o, g, hc, hm⟩ := LNport (sc := sc) (D := D) hB n6 e0 e1 hk hl
    refine ⟨o, gT g, ?_, ?_⟩
    · intro d v u Q hd hP k
      refine e_al0 o79_0 (e_gR o79_1 L1 rfl rfl (e_ldcS o79_4 rfl (e_Vi1 o79_6 K79 K38 rfl ⟨rfl, rfl⟩ (zrcv_I L2 rfl) (by omega) rfl (c38 (r := 1) (by omega) (by omega) hP.1 hP.2.1 e0 e1) ?_)))
      rintro _ _ _ ⟨rfl, rfl, rfl⟩
      refine e_bz_eq o79_9 20 rfl (fun hb9 => ?_) (fun hb9 => ?_)
      · exact absurd w1 hb9
      · refine e_al0 o79_12 (e_Vi0 o79_13 K79 K80 rfl ⟨rfl, rfl⟩ (zrcv_I L1 rfl) (by omega) rfl (hc (d - 1) v u (by omega) hP) ?_)
        rintro y w u' ⟨hO, rfl⟩
        refine e_is1 o79_16 (e_goto o79_17 69 rfl ?_)
        exact k w y hO
    · intro d v u Q h hd hP hh k
      obtain ⟨hT, hR, hb, hD⟩ := id hP
      have hr : h = 0 ∨ h = 1 := by rw [hh]; split <;> omega
      refine e_al0 o139_0 (e_al0 o139_1 (e_gR o139_2 L79 rfl rfl (e_Vi1 o139_5 K139 K140 rfl ⟨rfl, rfl⟩ (zrcv_I L79 rfl) (by omega) rfl (m140_K (by omega) hb hT hR e0 e1) ?_)))
      rintro _ _ _ ⟨rfl, rfl, rfl⟩
      rw [nK]
      refine e_is2 o139_8 (e_al0 o139_9 (e_ldc_wS o139_10 rfl (e_Vi1 o139_13 K139 K141 rfl ⟨rfl, rfl⟩ (zrcv_I L79 rfl) (by omega) rfl (m141 (r := 41) (by omega) (by omega) hb hT hR e0 e1) ?_)))
      rintro _ _ _ ⟨rfl, rfl, rfl⟩
      rw [show zb (isW B N e 41 = true) = 0 from if_neg (by rw [q4]; exact n4)]
      refine e_is3 o139_16 (e_il3 o139_17 (e_if_eq o139_18 30 rfl (by first | exact zg_rg _ _ _ | exact zt_rg _ | omega) (fun hb18 => ?_) (fun hb18 => ?_)))
      · refine e_il2 o139_30 (e_ico o139_31 (e_ic_eq o139_32 43 rfl (by first | exact zg_rg _ _ _ | exact zt_rg _ | omega) (by first | exact zg_rg _ _ _ | exact zt_rg _ | omega) (fun hb32 => ?_) (fun hb32 => ?_)))
        · refine e_al0 o139_43 (e_ldc_wS o139_44 rfl (e_Vi1 o139_47 K139 K141 rfl ⟨rfl, rfl⟩ (zrcv_I L79 rfl) (by omega) rfl (m141 (r := 42) (by omega) (by omega) hb hT hR e0 e1) ?_))
          rintro _ _ _ ⟨rfl, rfl, rfl⟩
          refine e_bz_eq o139_50 60 rfl (fun hb50 => ?_) (fun hb50 => ?_)
          · exact absurd (by rw [q1]; exact w1) hb50
          · refine e_al0 o139_53 (e_Vv0 o139_54 K139 K147 rfl ⟨rfl, rfl⟩ (zrcv_I L79 rfl) (by omega) rfl (hm (d - 1) v u (by omega) hP) ?_)
            rintro w u' ⟨hO, rfl⟩
            refine e_goto o139_57 102 rfl ?_
            refine k w _ 0 (Or.inl rfl) hO (fun e' D' ho => ?_)
            subst ho
            exact hh0 hh g.2.2.2.2
        · omega
      · omega
  · by_cases w3 : isW B N e 3 = true
    · have n4 : ¬ isW B N e 4 = true := isW_x w3 (by decide) (Or.inr (by decide))
      have nK : kK B N e = -1 := by
        unfold kK
        rw [if_neg (isW_x w3 (by decide) (Or.inl (by decide))), if_neg (isW_x w3 (by decide) (Or.inl (by decide))), if_neg (isW_x w3 (by decide) (Or.inl (by decide))), if_neg (isW_x w3 (by decide) (Or.inl (by decide)))]
      obtain ⟨o, g, hc, hm⟩ := LNstones (sc := sc) (D := D) hB n6 e0 e1 hk hl
      refine ⟨o, gT g, ?_, ?_⟩
      · intro d v u Q hd hP k
        refine e_al0 o79_0 (e_gR o79_1 L1 rfl rfl (e_ldcS o79_4 rfl (e_Vi1 o79_6 K79 K38 rfl ⟨rfl, rfl⟩ (zrcv_I L2 rfl) (by omega) rfl (c38 (r := 1) (by omega) (by omega) hP.1 hP.2.1 e0 e1) ?_)))
        rintro _ _ _ ⟨rfl, rfl, rfl⟩
        refine e_bz_eq o79_9 20 rfl (fun hb9 => ?_) (fun hb9 => ?_)
        · refine e_al0 o79_20 (e_gR o79_21 L1 rfl rfl (e_ldcS o79_24 rfl (e_Vi1 o79_26 K79 K38 rfl ⟨rfl, rfl⟩ (zrcv_I L2 rfl) (by omega) rfl (c38 (r := 3) (by omega) (by omega) hP.1 hP.2.1 e0 e1) ?_)))
          rintro _ _ _ ⟨rfl, rfl, rfl⟩
          refine e_bz_eq o79_29 40 rfl (fun hb29 => ?_) (fun hb29 => ?_)
          · exact absurd w3 hb29
          · refine e_al0 o79_32 (e_Vi0 o79_33 K79 K83 rfl ⟨rfl, rfl⟩ (zrcv_I L1 rfl) (by omega) rfl (hc (d - 1) v u (by omega) hP) ?_)
            rintro y w u' ⟨hO, rfl⟩
            refine e_is1 o79_36 (e_goto o79_37 69 rfl ?_)
            exact k w y hO
        · exact absurd hb9 w1
      · intro d v u Q h hd hP hh k
        obtain ⟨hT, hR, hb, hD⟩ := id hP
        have hr : h = 0 ∨ h = 1 := by rw [hh]; split <;> omega
        refine e_al0 o139_0 (e_al0 o139_1 (e_gR o139_2 L79 rfl rfl (e_Vi1 o139_5 K139 K140 rfl ⟨rfl, rfl⟩ (zrcv_I L79 rfl) (by omega) rfl (m140_K (by omega) hb hT hR e0 e1) ?_)))
        rintro _ _ _ ⟨rfl, rfl, rfl⟩
        rw [nK]
        refine e_is2 o139_8 (e_al0 o139_9 (e_ldc_wS o139_10 rfl (e_Vi1 o139_13 K139 K141 rfl ⟨rfl, rfl⟩ (zrcv_I L79 rfl) (by omega) rfl (m141 (r := 41) (by omega) (by omega) hb hT hR e0 e1) ?_)))
        rintro _ _ _ ⟨rfl, rfl, rfl⟩
        rw [show zb (isW B N e 41 = true) = 0 from if_neg (by rw [q4]; exact n4)]
        refine e_is3 o139_16 (e_il3 o139_17 (e_if_eq o139_18 30 rfl (by first | exact zg_rg _ _ _ | exact zt_rg _ | omega) (fun hb18 => ?_) (fun hb18 => ?_)))
        · refine e_il2 o139_30 (e_ico o139_31 (e_ic_eq o139_32 43 rfl (by first | exact zg_rg _ _ _ | exact zt_rg _ | omega) (by first | exact zg_rg _ _ _ | exact zt_rg _ | omega) (fun hb32 => ?_) (fun hb32 => ?_)))
          · refine e_al0 o139_43 (e_ldc_wS o139_44 rfl (e_Vi1 o139_47 K139 K141 rfl ⟨rfl, rfl⟩ (zrcv_I L79 rfl) (by omega) rfl (m141 (r := 42) (by omega) (by omega) hb hT hR e0 e1) ?_))
            rintro _ _ _ ⟨rfl, rfl, rfl⟩
            refine e_bz_eq o139_50 60 rfl (fun hb50 => ?_) (fun hb50 => ?_)
            · refine e_al0 o139_60 (e_ldc_wS o139_61 rfl (e_Vi1 o139_64 K139 K148 rfl ⟨rfl, rfl⟩ (zrcv_I L79 rfl) (by omega) rfl (m148 (r := 44) (by omega) (by omega) hb hT hR e0 e1) ?_))
              rintro _ wa u' ⟨⟨_, rfl, r2, r3⟩ | ⟨z, _⟩, rfl⟩
              rotate_left
              exact absurd (by rw [q3]; exact w3) z
              refine e_if_eq o139_67 77 rfl (by first | exact zg_rg _ _ _ | exact zt_rg _ | omega) (fun hb67 => ?_) (fun hb67 => ?_)
              · omega
              · refine e_al0 o139_70 (e_Vv0 o139_71 K139 K149 rfl ⟨rfl, rfl⟩ (zrcv_I L79 rfl) (by omega) rfl (hm (d - 1) wa u (by omega) ⟨TXm_4 hT (FRm_4 r2), r3, by simp only [zg]; rw [r2 79 21 (by omega)]; exact hb, MD_w (fun a q g1 g2 => r2 a q (by omega)) hD⟩) ?_)
                rintro w u' ⟨hO, rfl⟩
                refine e_goto o139_74 102 rfl ?_
                refine k w _ 0 (Or.inl rfl) ?_ (fun e' D' ho => ?_)
                · cases o using LO_c with
                  | bad c q => exact ⟨FQ4_t (FRm_4 r2) hO.1, hO.2⟩
                  | ok e' D' => exact ⟨FQ4_t (FRm_4 r2) hO.1, hO.2⟩
                · subst ho
                  exact hh0 hh g.2.2.2.2
            · exact absurd (show isW B N e 1 = true by rw [← q1]; exact hb50) w1
          · omega
        · omega
    · by_cases w4 : isW B N e 4 = true
      · have nK : kK B N e = -1 := by
          unfold kK
          rw [if_neg (isW_x w4 (by decide) (Or.inl (by decide))), if_neg (isW_x w4 (by decide) (Or.inl (by decide))), if_neg (isW_x w4 (by decide) (Or.inl (by decide))), if_neg (isW_x w4 (by decide) (Or.inl (by decide)))]
        -- the reference up to the test of a second tariff
        have mgo : ∀ (d : Nat) v u Q (h : Int), 100 ≤ d → ML B N D v e → zEv sc 139 d 17 [.ref 79, .int (zI h), .int (zI (-1)), .int (zI 1)] [] (zmk v u) 0 0 Q → zEv sc 139 d 0 [.ref 79, .int (zI h), zJ, zJ] [] (zmk v u) 0 0 Q := by
          intro d v u Q h hd hP k
          obtain ⟨hT, hR, hb, hD⟩ := id hP
          refine e_al0 o139_0 (e_al0 o139_1 (e_gR o139_2 L79 rfl rfl (e_Vi1 o139_5 K139 K140 rfl ⟨rfl, rfl⟩ (zrcv_I L79 rfl) (by omega) rfl (m140_K (by omega) hb hT hR e0 e1) ?_)))
          rintro _ _ _ ⟨rfl, rfl, rfl⟩
          rw [nK]
          refine e_is2 o139_8 (e_al0 o139_9 (e_ldc_wS o139_10 rfl (e_Vi1 o139_13 K139 K141 rfl ⟨rfl, rfl⟩ (zrcv_I L79 rfl) (by omega) rfl (m141 (r := 41) (by omega) (by omega) hb hT hR e0 e1) ?_)))
          rintro _ _ _ ⟨rfl, rfl, rfl⟩
          rw [show zb (isW B N e 41 = true) = 1 from if_pos (by rw [q4]; exact w4)]
          refine e_is3 o139_16 ?_
          exact k
        by_cases hL : 0 < D.L.length
        · refine ⟨.bad 4 (ts B N e), ⟨by omega, by omega, by omega, by omega⟩, ?_, ?_⟩
          · intro d v u Q hd hP k
            obtain ⟨hT, hC, hD⟩ := id hP
            have hn := hD.2.2.2.2.1
            have h85 : zEv sc 85 (d - 1) 0 [.ref 1] [] (zmk v u) 0 0 (zis (zI 0) (zu (zu v 1 2 (zI 4)) 1 3 (zI (ts B N e))) u) := by
              refine e_al0 o85_0 (e_gR o85_1 L1 rfl rfl (e_gR o85_4 L4 rfl rfl (e_gI o85_7 L12 rfl 3 rfl ?_)))
              rw [hn]
              refine e_if_le o85_10 19 rfl (by first | exact zg_rg _ _ _ | exact zt_rg _ | omega) (fun hb10 => ?_) (fun hb10 => ?_)
              · omega
              · refine e_al0 o85_13 (e_ico o85_14 (e_Vi1 o85_15 K85 K81 rfl ⟨rfl, rfl⟩ (zrcv_I L1 rfl) (by omega) rfl (c81 (c := 4) hC e1 (by omega)) ?_))
                rintro _ _ _ ⟨rfl, rfl, rfl⟩
                refine e_rI o85_18 K85 rfl rfl ?_
                exact ⟨rfl, rfl, rfl⟩
            refine e_al0 o79_0 (e_gR o79_1 L1 rfl rfl (e_ldcS o79_4 rfl (e_Vi1 o79_6 K79 K38 rfl ⟨rfl, rfl⟩ (zrcv_I L2 rfl) (by omega) rfl (c38 (r := 1) (by omega) (by omega) hP.1 hP.2.1 e0 e1) ?_)))
            rintro _ _ _ ⟨rfl, rfl, rfl⟩
            refine e_bz_eq o79_9 20 rfl (fun hb9 => ?_) (fun hb9 => ?_)
            · refine e_al0 o79_20 (e_gR o79_21 L1 rfl rfl (e_ldcS o79_24 rfl (e_Vi1 o79_26 K79 K38 rfl ⟨rfl, rfl⟩ (zrcv_I L2 rfl) (by omega) rfl (c38 (r := 3) (by omega) (by omega) hP.1 hP.2.1 e0 e1) ?_)))
              rintro _ _ _ ⟨rfl, rfl, rfl⟩
              refine e_bz_eq o79_29 40 rfl (fun hb29 => ?_) (fun hb29 => ?_)
              · refine e_al0 o79_40 (e_gR o79_41 L1 rfl rfl (e_ldcS o79_44 rfl (e_Vi1 o79_46 K79 K38 rfl ⟨rfl, rfl⟩ (zrcv_I L2 rfl) (by omega) rfl (c38 (r := 4) (by omega) (by omega) hP.1 hP.2.1 e0 e1) ?_)))
                rintro _ _ _ ⟨rfl, rfl, rfl⟩
                refine e_bz_eq o79_49 60 rfl (fun hb49 => ?_) (fun hb49 => ?_)
                · exact absurd w4 hb49
                · refine e_al0 o79_52 (e_Vi0 o79_53 K79 K85 rfl ⟨rfl, rfl⟩ (zrcv_I L1 rfl) (by omega) rfl h85 ?_)
                  rintro _ _ _ ⟨rfl, rfl, rfl⟩
                  refine e_is1 o79_56 (e_goto o79_57 69 rfl ?_)
                  exact k _ _ (bad_c (o := 0) FD4_r (by omega) (by omega))
              · exact absurd hb29 w3
            · exact absurd hb9 w1
          · intro d v u Q h hd hP hh k
            rw [if_pos hL] at hh
            refine mgo d v u Q h hd hP ?_
            obtain ⟨hT, hR, hb, hD⟩ := id hP
            have wb : ¬ zg (zu (zu v 79 21 (zI 4)) 79 22 (zI (ts B N e))) 79 21 = 0 := by rw [zg_ne (by omega), zg_same (by omega)]; omega
            refine e_il3 o139_17 (e_if_eq o139_18 30 rfl (by first | exact zg_rg _ _ _ | exact zt_rg _ | omega) (fun hb18 => ?_) (fun hb18 => ?_))
            · omega
            · refine e_il1 o139_21 (e_if_eq o139_22 30 rfl (by first | exact zg_rg _ _ _ | exact zt_rg _ | omega) (fun hb22 => ?_) (fun hb22 => ?_))
              · omega
              · refine e_al0 o139_25 (e_ico o139_26 (e_Vv1 o139_27 K139 K142 rfl ⟨rfl, rfl⟩ (zrcv_I L79 rfl) (by omega) rfl (m142 hb) ?_))
                rintro _ _ ⟨rfl, rfl⟩
                rw [hR.2.1]
                exact mdead d _ u Q h (-1) 1 hd (Or.inr rfl) wb (k _ _ 1 (Or.inr rfl) (bad_m FQ4_r (by omega) (by omega)) (fun e' D' ho => (LO_ne ho.symm).elim)) rfl
        · have hL0 : D.L = [] := by
            cases hx : D.L with
            | nil => rfl
            | cons a b => rw [hx] at hL; simp at hL
          obtain ⟨E1, hE1⟩ : ∃ x, x = te B N e := ⟨_, rfl⟩
          rw [← hE1] at h2 h3
          have e1' : E1 ≤ N := by omega
          obtain ⟨o, g, hc, hm⟩ := EXPR0 (sc := sc) (B := B) n6 (show 0 ≤ E1 by omega) e1'
          have cgo : ∀ (d : Nat) v u Q, 100 ≤ d → CL B N D v e → (∀ wa w y, FC v wa → cOut B N o wa w y → zEv sc 79 d 69 [.ref 1, .int y] [] (zmk w u) 0 0 Q) → zEv sc 79 d 0 [.ref 1, zJ] [] (zmk v u) 0 0 Q := by
            intro d v u Q hd hP k
            obtain ⟨hT, hC, hD⟩ := id hP
            have hn := hD.2.2.2.2.1
            rw [hL0] at hn
            have hn : zg v 12 3 = 0 := hn
            have h85 : zEv sc 85 (d - 1) 0 [.ref 1] [] (zmk v u) 0 0 (zPi fun y w t => (∃ wa, FC v wa ∧ cOut B N o wa w y) ∧ u = t) := by
              refine e_al0 o85_0 (e_gR o85_1 L1 rfl rfl (e_gR o85_4 L4 rfl rfl (e_gI o85_7 L12 rfl 3 rfl ?_)))
              rw [hn]
              refine e_if_le o85_10 19 rfl (by first | exact zg_rg _ _ _ | exact zt_rg _ | omega) (fun hb10 => ?_) (fun hb10 => ?_)
              · refine e_al0 o85_19 (e_gR o85_20 L1 rfl rfl (e_Vv0 o85_23 K85 K34 rfl ⟨rfl, rfl⟩ (zrcv_I L2 rfl) (by omega) rfl (c34 (e := E1) (by omega) hT (by rw [hE1]; exact hC.2.2.1) (by omega) (by omega)) ?_))
                rintro wa u' ⟨⟨r1, r2⟩, rfl⟩
                refine e_al0 o85_26 (e_ico o85_27 (e_Vi1 o85_28 K85 K86 rfl ⟨rfl, rfl⟩ (zrcv_I L1 rfl) (by omega) rfl (hc (d - 1 - 1) wa u (by omega) ⟨TXc_4 hT (FC_4 r1), r2, by simp only [zg]; rw [r1 12 3 (by omega)]; simp only [zg] at hn; omega, by simp only [zg]; rw [r1 12 3 (by omega)]; simp only [zg] at hn; omega⟩) ?_))
                rintro y w u' ⟨hO, rfl⟩
                refine e_rI o85_31 K85 (by cases o using PO_c with | ok e' L => (obtain ⟨rfl, _⟩ := hO; rfl) | bad c q => (obtain ⟨rfl, _⟩ := hO; rfl)) rfl ?_
                exact ⟨⟨wa, r1, hO⟩, rfl⟩
              · omega
            refine e_al0 o79_0 (e_gR o79_1 L1 rfl rfl (e_ldcS o79_4 rfl (e_Vi1 o79_6 K79 K38 rfl ⟨rfl, rfl⟩ (zrcv_I L2 rfl) (by omega) rfl (c38 (r := 1) (by omega) (by omega) hP.1 hP.2.1 e0 e1) ?_)))
            rintro _ _ _ ⟨rfl, rfl, rfl⟩
            refine e_bz_eq o79_9 20 rfl (fun hb9 => ?_) (fun hb9 => ?_)
            · refine e_al0 o79_20 (e_gR o79_21 L1 rfl rfl (e_ldcS o79_24 rfl (e_Vi1 o79_26 K79 K38 rfl ⟨rfl, rfl⟩ (zrcv_I L2 rfl) (by omega) rfl (c38 (r := 3) (by omega) (by omega) hP.1 hP.2.1 e0 e1) ?_)))
              rintro _ _ _ ⟨rfl, rfl, rfl⟩
              refine e_bz_eq o79_29 40 rfl (fun hb29 => ?_) (fun hb29 => ?_)
              · refine e_al0 o79_40 (e_gR o79_41 L1 rfl rfl (e_ldcS o79_44 rfl (e_Vi1 o79_46 K79 K38 rfl ⟨rfl, rfl⟩ (zrcv_I L2 rfl) (by omega) rfl (c38 (r := 4) (by omega) (by omega) hP.1 hP.2.1 e0 e1) ?_)))
                rintro _ _ _ ⟨rfl, rfl, rfl⟩
                refine e_bz_eq o79_49 60 rfl (fun hb49 => ?_) (fun hb49 => ?_)
                · exact absurd w4 hb49
                · refine e_al0 o79_52 (e_Vi0 o79_53 K79 K85 rfl ⟨rfl, rfl⟩ (zrcv_I L1 rfl) (by omega) rfl h85 ?_)
                  rintro y w u' ⟨⟨wa, r1, hO⟩, rfl⟩
                  refine e_is1 o79_56 (e_goto o79_57 69 rfl ?_)
                  exact k wa w y r1 hO
              · exact absurd hb29 w3
            · exact absurd hb9 w1
          have mgo2 : ∀ (d : Nat) v u Q (h : Int), 100 ≤ d → ML B N D v e → h = 0 → (∀ wa w, FRm v wa → mOut B N o wa w → zEv sc 139 d 102 [.ref 79, .int (zI h), .int (zI (-1)), .int (zI 1)] [] (zmk w u) 0 0 Q) → zEv sc 139 d 0 [.ref 79, .int (zI h), zJ, zJ] [] (zmk v u) 0 0 Q := by
            intro d v u Q h hd hP hh k
            refine mgo d v u Q h hd hP ?_
            obtain ⟨hT, hR, hb, hD⟩ := id hP
            have hn := hD.2.2.2.2.1
            rw [hL0] at hn
            have hn : zg v 82 7 = 0 := hn
            refine e_il3 o139_17 (e_if_eq o139_18 30 rfl (by first | exact zg_rg _ _ _ | exact zt_rg _ | omega) (fun hb18 => ?_) (fun hb18 => ?_))
            · omega
            · refine e_il1 o139_21 (e_if_eq o139_22 30 rfl (by first | exact zg_rg _ _ _ | exact zt_rg _ | omega) (fun hb22 => ?_) (fun hb22 => ?_))
              · refine e_il2 o139_30 (e_ico o139_31 (e_ic_eq o139_32 43 rfl (by first | exact zg_rg _ _ _ | exact zt_rg _ | omega) (by first | exact zg_rg _ _ _ | exact zt_rg _ | omega) (fun hb32 => ?_) (fun hb32 => ?_)))
                · refine e_al0 o139_43 (e_ldc_wS o139_44 rfl (e_Vi1 o139_47 K139 K141 rfl ⟨rfl, rfl⟩ (zrcv_I L79 rfl) (by omega) rfl (m141 (r := 42) (by omega) (by omega) hb hT hR e0 e1) ?_))
                  rintro _ _ _ ⟨rfl, rfl, rfl⟩
                  refine e_bz_eq o139_50 60 rfl (fun hb50 => ?_) (fun hb50 => ?_)
                  · refine e_al0 o139_60 (e_ldc_wS o139_61 rfl (e_Vi1 o139_64 K139 K148 rfl ⟨rfl, rfl⟩ (zrcv_I L79 rfl) (by omega) rfl (m148 (r := 44) (by omega) (by omega) hb hT hR e0 e1) ?_))
                    rintro _ wb u' ⟨⟨z, _⟩ | ⟨_, rfl, rfl⟩, rfl⟩
                    exact absurd (show isW B N e 3 = true by rw [← q3]; exact z) w3
                    refine e_if_eq o139_67 77 rfl (by first | exact zg_rg _ _ _ | exact zt_rg _ | omega) (fun hb67 => ?_) (fun hb67 => ?_)
                    · refine e_il3 o139_77 (e_if_ne o139_78 86 rfl (by first | exact zg_rg _ _ _ | exact zt_rg _ | omega) (fun hb78 => ?_) (fun hb78 => ?_))
                      · refine e_al0 o139_86 (e_gI o139_87 L79 rfl 21 rfl ?_)
                        rw [hb]
                        refine e_if_ne o139_90 97 rfl (by first | exact zg_rg _ _ _ | exact zt_rg _ | omega) (fun hb90 => ?_) (fun hb90 => ?_)
                        · omega
                        · refine e_al0 o139_93 (e_Vv0 o139_94 K139 K134 rfl ⟨rfl, rfl⟩ (zrcv_I L79 rfl) (by omega) rfl (m134 (e := E1) (by omega) hT (by rw [hE1]; exact hR.2.2.2.1) (by omega) (by omega)) ?_)
                          rintro wa u' ⟨⟨r1, r2⟩, rfl⟩
                          refine e_al0 o139_97 (e_ico o139_98 (e_Vv1 o139_99 K139 K150 rfl ⟨rfl, rfl⟩ (zrcv_I L79 rfl) (by omega) rfl (hm (d - 1) wa u (by omega) ⟨TXm_4 hT (FRm_4 r1), r2, by simp only [zg]; rw [r1 79 21 (by omega)]; exact hb, by simp only [zg]; rw [r1 82 7 (by omega)]; simp only [zg] at hn; omega, by simp only [zg]; rw [r1 82 7 (by omega)]; simp only [zg] at hn; omega⟩) ?_))
                          rintro w u' ⟨hO, rfl⟩
                          exact k wa w r1 hO
                      · omega
                    · omega
                  · exact absurd (show isW B N e 1 = true by rw [← q1]; exact hb50) w1
                · omega
              · omega
          cases o using PO_c with
          | bad c q =>
            have g1 := g.1
            refine ⟨.bad c q, ⟨g1.1, by have := g1.2.1; omega, g1.2.2⟩, ?_, ?_⟩
            · intro d v u Q hd hP k
              refine cgo d v u Q hd hP ?_
              rintro wa w y r1 ⟨a1, a2, a3, a4, _⟩
              exact k w y ⟨a1, FD4_t (FC_4 r1) (FP_4 a2), a3, a4⟩
            · intro d v u Q h hd hP hh k
              rw [if_neg hL] at hh
              refine mgo2 d v u Q h hd hP hh ?_
              rintro wa w r1 ⟨a1, a2, a3⟩
              exact k w _ 1 (Or.inr rfl) ⟨FQ4_t (FRm_4 r1) (FQ_4 a1), a2, a3⟩ (fun e' D' ho => (LO_ne ho.symm).elim)
          | ok e2 L =>
            obtain ⟨⟨g1, g2, g3, g4, g5⟩, _⟩ := g
            have hB' : DB (DrT D L) := by
              obtain ⟨c1, c2, c3, c4, c5, c6, c7⟩ := hB
              refine ⟨c1, c2, c3, c4, c5, c6, by show L.length ≤ 600; omega, Or.inr ?_⟩
              have e := g5 0 (by omega)
              exact e
            refine ⟨.ok e2 (DrT D L), ⟨by omega, g2, hB', by show (L.length : Int) ≤ _; omega, trivial⟩, ?_, ?_⟩
            · intro d v u Q hd hP k
              refine cgo d v u Q hd hP ?_
              rintro wa w y r1 ⟨a1, a2, a3, a4⟩
              refine k w y ⟨a1, FD4_t (FC_4 r1) (FP_4 a2), a3, ?_⟩
              exact CD_T (CD_w (fun a q z1 z2 => r1 a q (by omega)) hP.2.2) hL0 a2 a4
            · intro d v u Q h hd hP hh k
              rw [if_neg hL] at hh
              refine mgo2 d v u Q h hd hP hh ?_
              rintro wa w r1 ⟨a1, a2, a3, a4⟩
              refine k w _ 1 (Or.inr rfl) ⟨FQ4_t (FRm_4 r1) (FQ_4 a1), a2, a3, MD_T (MD_w (fun a q z1 z2 => r1 a q (by omega)) hP.2.2.2) hL0 a1 a4⟩ (fun e' D' ho => ?_)
              obtain ⟨ho1, ho2⟩ := LO_in ho
              subst ho2
              rw [hh, if_pos rfl]
              show (if 0 < L.length then (1 : Int) else 0) = 1
              rw [if_pos (by omega)]
      · have cgo : ∀ (d : Nat) v u Q, 100 ≤ d → CL B N D v e → zEv sc 79 d 65 [.ref 1, zJ] [.int (zI (kK B N e)), .ref 1] (zmk v u) 0 0 Q → zEv sc 79 d 0 [.ref 1, zJ] [] (zmk v u) 0 0 Q := by
          intro d v u Q hd hP k
          refine e_al0 o79_0 (e_gR o79_1 L1 rfl rfl (e_ldcS o79_4 rfl (e_Vi1 o79_6 K79 K38 rfl ⟨rfl, rfl⟩ (zrcv_I L2 rfl) (by omega) rfl (c38 (r := 1) (by omega) (by omega) hP.1 hP.2.1 e0 e1) ?_)))
          rintro _ _ _ ⟨rfl, rfl, rfl⟩
          refine e_bz_eq o79_9 20 rfl (fun hb9 => ?_) (fun hb9 => ?_)
          · refine e_al0 o79_20 (e_gR o79_21 L1 rfl rfl (e_ldcS o79_24 rfl (e_Vi1 o79_26 K79 K38 rfl ⟨rfl, rfl⟩ (zrcv_I L2 rfl) (by omega) rfl (c38 (r := 3) (by omega) (by omega) hP.1 hP.2.1 e0 e1) ?_)))
            rintro _ _ _ ⟨rfl, rfl, rfl⟩
            refine e_bz_eq o79_29 40 rfl (fun hb29 => ?_) (fun hb29 => ?_)
            · refine e_al0 o79_40 (e_gR o79_41 L1 rfl rfl (e_ldcS o79_44 rfl (e_Vi1 o79_46 K79 K38 rfl ⟨rfl, rfl⟩ (zrcv_I L2 rfl) (by omega) rfl (c38 (r := 4) (by omega) (by omega) hP.1 hP.2.1 e0 e1) ?_)))
              rintro _ _ _ ⟨rfl, rfl, rfl⟩
              refine e_bz_eq o79_49 60 rfl (fun hb49 => ?_) (fun hb49 => ?_)
              · refine e_al0 o79_60 (e_al0 o79_61 (e_Vi0 o79_62 K79 K95 rfl ⟨rfl, rfl⟩ (zrcv_I L1 rfl) (by omega) rfl (c95 (by omega) hP.1 hP.2.1 e0 e1) ?_))
                rintro _ _ _ ⟨rfl, rfl, rfl⟩
                exact k
              · exact absurd hb49 w4
            · exact absurd hb29 w3
          · exact absurd hb9 w1
        have mgo : ∀ (d : Nat) v u Q (h : Int), 100 ≤ d → ML B N D v e → zEv sc 139 d 30 [.ref 79, .int (zI h), .int (zI (kK B N e)), .int (zI 0)] [] (zmk v u) 0 0 Q → zEv sc 139 d 0 [.ref 79, .int (zI h), zJ, zJ] [] (zmk v u) 0 0 Q := by
          intro d v u Q h hd hP k
          obtain ⟨hT, hR, hb, hD⟩ := id hP
          refine e_al0 o139_0 (e_al0 o139_1 (e_gR o139_2 L79 rfl rfl (e_Vi1 o139_5 K139 K140 rfl ⟨rfl, rfl⟩ (zrcv_I L79 rfl) (by omega) rfl (m140_K (by omega) hb hT hR e0 e1) ?_)))
          rintro _ _ _ ⟨rfl, rfl, rfl⟩
          refine e_is2 o139_8 (e_al0 o139_9 (e_ldc_wS o139_10 rfl (e_Vi1 o139_13 K139 K141 rfl ⟨rfl, rfl⟩ (zrcv_I L79 rfl) (by omega) rfl (m141 (r := 41) (by omega) (by omega) hb hT hR e0 e1) ?_)))
          rintro _ _ _ ⟨rfl, rfl, rfl⟩
          rw [show zb (isW B N e 41 = true) = 0 from if_neg (by rw [q4]; exact w4)]
          refine e_is3 o139_16 (e_il3 o139_17 (e_if_eq o139_18 30 rfl (by first | exact zg_rg _ _ _ | exact zt_rg _ | omega) (fun hb18 => ?_) (fun hb18 => ?_)))
          · exact k
          · omega
        have kr := kK_rg (B := B) (N := N) (e := e)
        by_cases nK : kK B N e = -1
        · refine ⟨.bad 1 (ts B N e), ⟨by omega, by omega, by omega, by omega⟩, ?_, ?_⟩
          · intro d v u Q hd hP k
            refine cgo d v u Q hd hP ?_
            rw [nK]
            have h96 : zEv sc 96 (d - 1) 0 [.ref 1, .int (zI (-1)), zJ] [] (zmk v u) 0 0 (zis (zI 0) (zu (zu v 1 2 (zI 1)) 1 3 (zI (ts B N e))) u) := by
              refine e_il1 o96_0 (e_ico o96_1 (e_ic_ne o96_2 11 rfl (by first | exact zg_rg _ _ _ | exact zt_rg _ | omega) (by first | exact zg_rg _ _ _ | exact zt_rg _ | omega) (fun hb2 => ?_) (fun hb2 => ?_)))
              · omega
              · refine e_al0 o96_5 (e_ico o96_6 (e_Vi1 o96_7 K96 K81 rfl ⟨rfl, rfl⟩ (zrcv_I L1 rfl) (by omega) rfl (c81 (c := 1) hP.2.1 e1 (by omega)) ?_))
                rintro _ _ _ ⟨rfl, rfl, rfl⟩
                refine e_rI o96_10 K96 rfl rfl ?_
                exact ⟨rfl, rfl, rfl⟩
            refine e_Vi1 o79_65 K79 K96 rfl ⟨rfl, rfl⟩ (zrcv_I L1 rfl) (by omega) rfl h96 ?_
            rintro _ _ _ ⟨rfl, rfl, rfl⟩
            refine e_is1 o79_68 ?_
            exact k _ _ (bad_c (o := 0) FD4_r (by omega) (by omega))
          · intro d v u Q h hd hP hh k
            refine mgo d v u Q h hd hP ?_
            rw [nK]
            obtain ⟨hT, hR, hb, hD⟩ := id hP
            have wb : ¬ zg (zu (zu v 79 21 (zI 1)) 79 22 (zI (ts B N e))) 79 21 = 0 := by rw [zg_ne (by omega), zg_same (by omega)]; omega
            have d150 : ∀ x, zEv sc 150 (d - 1) 0 [.ref 79, .int (zI x), zJ] [] (zmk (zu (zu v 79 21 (zI 1)) 79 22 (zI (ts B N e))) u) 0 0 (zdo (zu (zu v 79 21 (zI 1)) 79 22 (zI (ts B N e))) u) := by
              intro x
              refine e_al0 o150_0 (e_gI o150_1 L79 rfl 21 rfl (e_if_eq o150_4 8 rfl (by first | exact zg_rg _ _ _ | exact zt_rg _ | omega) (fun hb4 => ?_) (fun hb4 => ?_)))
              · exact absurd hb4 wb
              · refine e_rV o150_7 K150 rfl rfl ?_
                exact ⟨rfl, rfl⟩
            refine e_il2 o139_30 (e_ico o139_31 (e_ic_eq o139_32 43 rfl (by first | exact zg_rg _ _ _ | exact zt_rg _ | omega) (by first | exact zg_rg _ _ _ | exact zt_rg _ | omega) (fun hb32 => ?_) (fun hb32 => ?_)))
            · refine e_al0 o139_43 (e_ldc_wS o139_44 rfl (e_Vi1 o139_47 K139 K141 rfl ⟨rfl, rfl⟩ (zrcv_I L79 rfl) (by omega) rfl (m141 (r := 42) (by omega) (by omega) hb hT hR e0 e1) ?_))
              rintro _ _ _ ⟨rfl, rfl, rfl⟩
              refine e_bz_eq o139_50 60 rfl (fun hb50 => ?_) (fun hb50 => ?_)
              · refine e_al0 o139_60 (e_ldc_wS o139_61 rfl (e_Vi1 o139_64 K139 K148 rfl ⟨rfl, rfl⟩ (zrcv_I L79 rfl) (by omega) rfl (m148 (r := 44) (by omega) (by omega) hb hT hR e0 e1) ?_))
                rintro _ wx u' ⟨⟨z, _⟩ | ⟨_, rfl, rfl⟩, rfl⟩
                exact absurd (show isW B N e 3 = true by rw [← q3]; exact z) w3
                refine e_if_eq o139_67 77 rfl (by first | exact zg_rg _ _ _ | exact zt_rg _ | omega) (fun hb67 => ?_) (fun hb67 => ?_)
                · refine e_il3 o139_77 (e_if_ne o139_78 86 rfl (by first | exact zg_rg _ _ _ | exact zt_rg _ | omega) (fun hb78 => ?_) (fun hb78 => ?_))
                  · omega
                  · refine e_al0 o139_81 (e_ico o139_82 (e_Vv1 o139_83 K139 K142 rfl ⟨rfl, rfl⟩ (zrcv_I L79 rfl) (by omega) rfl (m142 hb) ?_))
                    rintro _ _ ⟨rfl, rfl⟩
                    rw [hR.2.1]
                    refine e_al0 o139_86 (e_gI o139_87 L79 rfl 21 rfl (e_if_ne o139_90 97 rfl (by first | exact zg_rg _ _ _ | exact zt_rg _ | omega) (fun hb90 => ?_) (fun hb90 => ?_)))
                    · refine e_al0 o139_97 (e_ico o139_98 (e_Vv1 o139_99 K139 K150 rfl ⟨rfl, rfl⟩ (zrcv_I L79 rfl) (by omega) rfl (d150 _) ?_))
                      rintro _ _ ⟨rfl, rfl⟩
                      exact k _ _ 0 (Or.inl rfl) (bad_m FQ4_r (by omega) (by omega)) (fun e' D' ho => (LO_ne ho.symm).elim)
                    · exact absurd hb90 wb
                · omega
              · exact absurd (show isW B N e 1 = true by rw [← q1]; exact hb50) w1
            · omega
        · obtain ⟨o, g, hc, hm⟩ := LNship (sc := sc) (D := D) (k := kK B N e) hB n6 e0 e1 hk hl (by omega) (by omega)
          refine ⟨o, gT g, ?_, ?_⟩
          · intro d v u Q hd hP k
            refine cgo d v u Q hd hP ?_
            refine e_Vi1 o79_65 K79 K96 rfl ⟨rfl, rfl⟩ (zrcv_I L1 rfl) (by omega) rfl (hc (d - 1) v u (by omega) hP) ?_
            rintro y w u' ⟨hO, rfl⟩
            refine e_is1 o79_68 ?_
            exact k w y hO
          · intro d v u Q h hd hP hh k
            refine mgo d v u Q h hd hP ?_
            refine e_il2 o139_30 (e_ico o139_31 (e_ic_eq o139_32 43 rfl (by first | exact zg_rg _ _ _ | exact zt_rg _ | omega) (by first | exact zg_rg _ _ _ | exact zt_rg _ | omega) (fun hb32 => ?_) (fun hb32 => ?_)))
            · omega
            · refine e_al0 o139_35 (e_il2 o139_36 (e_Vv1 o139_37 K139 K143 rfl ⟨rfl, rfl⟩ (zrcv_I L79 rfl) (by omega) rfl (hm (d - 1) v u (by omega) hP) ?_))
              rintro w u' ⟨hO, rfl⟩
              refine e_goto o139_40 102 rfl ?_
              refine k w _ 0 (Or.inl rfl) hO (fun e' D' ho => ?_)
              subst ho
              exact hh0 hh g.2.2.2.2
/-- a line -/
theorem LINE {e : Int} (hB : DB D) (n6 : N ≤ 600) (e0 : 0 ≤ e) (e1 : e ≤ N) (hk : ¬ tk B N e = 0) (hl : (D.L.length : Int) ≤ e) : ∃ o, gLn N e (fun _ => True) o ∧ (∀ (d : Nat) v u, 100 ≤ d → CL B N D v e → zEv sc 79 d 0 [.ref 1, zJ] [] (zmk v u) 0 0 (zPi fun y w t => kOut B N o v w y ∧ u = t)) ∧ (∀ (d : Nat) v u h, 100 ≤ d → ML B N D v e → h = (if 0 < D.L.length then 1 else 0) → zEv sc 139 d 0 [.ref 79, .int (zI h), zJ, zJ] [] (zmk v u) 0 0 (zPi fun y w t => rOut B N o v w ∧ (y = zI 0 ∨ y = zI 1) ∧ (∀ e' D', o = .ok e' D' → y = zI (if 0 < D'.L.length then 1 else 0)) ∧ u = t)) := by
  obtain ⟨o1, g, hc, hm⟩ := LNbody (sc := sc) hB n6 e0 e1 hk hl
  have h1 := ts_in (B := B) e1
  -- the reference's end
  have mend : ∀ (d : Nat) w u (h : Int) x2 y3, (h = 0 ∨ h = 1) → (y3 = 0 ∨ y3 = 1) → zEv sc 139 d 108 [.ref 79, .int (zI h), x2, .int (zI y3)] [] (zmk w u) 0 0 (zis (zI (if h = 0 then y3 else 1)) w u) := by
    intro d w u h x2 y3 hh hy
    refine e_il1 o139_108 (e_if_ne o139_109 116 rfl (by first | exact zg_rg _ _ _ | exact zt_rg _ | omega) (fun hb109 => ?_) (fun hb109 => ?_))
    · refine e_ico o139_116 (e_goto o139_117 121 rfl ?_)
      refine e_rI o139_121 K139 rfl rfl ?_
      first | exact ⟨by rw [if_neg hb109], rfl, rfl⟩ | exact ⟨by rw [if_pos hb109, show y3 = 1 by omega], rfl, rfl⟩ | exact ⟨by rw [if_pos hb109, show y3 = 0 by omega], rfl, rfl⟩
    · refine e_il3 o139_112 (e_if_eq o139_113 120 rfl (by first | exact zg_rg _ _ _ | exact zt_rg _ | omega) (fun hb113 => ?_) (fun hb113 => ?_))
      · refine e_ico o139_120 ?_
        refine e_rI o139_121 K139 rfl rfl ?_
        first | exact ⟨by rw [if_neg hb109], rfl, rfl⟩ | exact ⟨by rw [if_pos hb109, show y3 = 1 by omega], rfl, rfl⟩ | exact ⟨by rw [if_pos hb109, show y3 = 0 by omega], rfl, rfl⟩
      · refine e_ico o139_116 (e_goto o139_117 121 rfl ?_)
        refine e_rI o139_121 K139 rfl rfl ?_
        first | exact ⟨by rw [if_neg hb109], rfl, rfl⟩ | exact ⟨by rw [if_pos hb109, show y3 = 1 by omega], rfl, rfl⟩ | exact ⟨by rw [if_pos hb109, show y3 = 0 by omega], rfl, rfl⟩
  have hh01 : ∀ {h : Int}, h = (if 0 < D.L.length then 1 else 0) → h = 0 ∨ h = 1 := fun hh => by rw [hh]; split <;> omega
  cases o1 using LO_c with
  | bad c q =>
    refine ⟨.bad c q, g, ?_, ?_⟩
    · intro d v u hd hP
      refine hc d v u _ hd hP ?_
      rintro w y ⟨rfl, a2, a3⟩
      refine e_il1 o79_69 (e_if_eq o79_70 86 rfl (by first | exact zg_rg _ _ _ | exact zt_rg _ | omega) (fun hb70 => ?_) (fun hb70 => ?_))
      · refine e_ico o79_86 ?_
        refine e_rI o79_87 K79 rfl rfl ?_
        exact ⟨⟨rfl, a2, a3⟩, rfl⟩
      · omega
    · intro d v u h hd hP hh
      refine hm d v u _ h hd hP hh ?_
      rintro w x2 y3 hy ⟨a1, a2, a3⟩ _
      have nb : ¬ zg w 79 21 = 0 := by have := g.1; omega
      refine e_al0 o139_102 (e_bip o139_103 rfl (e_Vv1 o139_105 K139 K158 rfl ⟨rfl, rfl⟩ (zrcv_I L79 rfl) (by omega) rfl (m158_d (by omega) nb) ?_))
      rintro _ _ ⟨rfl, rfl⟩
      refine zEv_mono (mend d w u h x2 y3 (hh01 hh) hy) ?_
      rintro _ _ ⟨y, x, t, rfl, rfl, rfl, rfl, rfl⟩
      refine ⟨_, _, _, rfl, rfl, ⟨a1, a2, a3⟩, ?_, fun e' D' ho => (LO_ne ho.symm).elim, rfl⟩
      rcases hh01 hh with z | z <;> rcases hy with z2 | z2 <;> rw [z, z2] <;> simp
  | ok e2 D2 =>
    obtain ⟨g1, g2, g3, g4, _⟩ := g
    have k1 := ts_in (B := B) g2
    have k2 := te_in (B := B) g2
    by_cases hS : isS B N e2 59 = true
    · have hk2 := (isS_tk hS).1
      have k3 := k2.2.2.1 (by omega)
      refine ⟨.ok (te B N e2) D2, ⟨by omega, by omega, g3, by omega, trivial⟩, ?_, ?_⟩
      · intro d v u hd hP
        refine hc d v u _ hd hP ?_
        rintro w y ⟨rfl, a2, a3, a4⟩
        refine e_il1 o79_69 (e_if_eq o79_70 86 rfl (by first | exact zg_rg _ _ _ | exact zt_rg _ | omega) (fun hb70 => ?_) (fun hb70 => ?_))
        · omega
        · refine e_al0 o79_73 (e_bip o79_74 rfl (e_Vi1 o79_76 K79 K93 rfl ⟨rfl, rfl⟩ (zrcv_I L1 rfl) (by omega) rfl (c93 (c := 59) (by omega) (TXc_4 hP.1 a2) a3 (by omega) g2 (by omega)) ?_))
          rintro _ w2 u' ⟨⟨_, rfl, r1, r2⟩ | ⟨z, _⟩, rfl⟩
          rotate_left
          exact absurd hS z
          refine e_if_eq o79_79 86 rfl (by first | exact zg_rg _ _ _ | exact zt_rg _ | omega) (fun hb79 => ?_) (fun hb79 => ?_)
          · omega
          · refine e_ico o79_82 (e_goto o79_83 87 rfl ?_)
            refine e_rI o79_87 K79 rfl rfl ?_
            exact ⟨⟨rfl, FD4_t a2 (FC_4 r1), r2, CD_w (fun a q z1 z2 => r1 a q (by omega)) a4⟩, rfl⟩
      · intro d v u h hd hP hh
        refine hm d v u _ h hd hP hh ?_
        rintro w x2 y3 hy ⟨a1, a2, a3, a4⟩ hz
        have hz := hz e2 D2 rfl
        refine e_al0 o139_102 (e_bip o139_103 rfl (e_Vv1 o139_105 K139 K158 rfl ⟨rfl, rfl⟩ (zrcv_I L79 rfl) (by omega) rfl (m158 (c := 59) (by omega) a2 (TXm_4 hP.1 a1) a3 (by omega) g2 rfl) ?_))
        rintro w2 u' ⟨⟨_, r1, r2⟩ | ⟨z, _⟩, rfl⟩
        rotate_left
        exact absurd hS z
        refine zEv_mono (mend d w2 u h x2 y3 (hh01 hh) hy) ?_
        rintro _ _ ⟨y, x, t, rfl, rfl, rfl, rfl, rfl⟩
        refine ⟨_, _, _, rfl, rfl, ⟨FQ4_t a1 (FRm_4 r1), by simp only [zg]; rw [r1 79 21 (by omega)]; exact a2, r2, MD_w (fun a q z1 z2 => r1 a q (by omega)) a4⟩, ?_, fun e' D' ho => ?_, rfl⟩
        · rcases hh01 hh with z | z <;> rcases hy with z2 | z2 <;> rw [z, z2] <;> simp
        · obtain ⟨ho1, ho2⟩ := LO_in ho
          subst ho2
          rw [hz]
    · refine ⟨.bad 1 (ts B N e2), ⟨by omega, by omega, by omega, by omega⟩, ?_, ?_⟩
      · intro d v u hd hP
        refine hc d v u _ hd hP ?_
        rintro w y ⟨rfl, a2, a3, a4⟩
        refine e_il1 o79_69 (e_if_eq o79_70 86 rfl (by first | exact zg_rg _ _ _ | exact zt_rg _ | omega) (fun hb70 => ?_) (fun hb70 => ?_))
        · omega
        · refine e_al0 o79_73 (e_bip o79_74 rfl (e_Vi1 o79_76 K79 K93 rfl ⟨rfl, rfl⟩ (zrcv_I L1 rfl) (by omega) rfl (c93 (c := 59) (by omega) (TXc_4 hP.1 a2) a3 (by omega) g2 (by omega)) ?_))
          rintro _ w2 u' ⟨⟨z, _⟩ | ⟨_, rfl, rfl⟩, rfl⟩
          exact absurd z hS
          refine e_if_eq o79_79 86 rfl (by first | exact zg_rg _ _ _ | exact zt_rg _ | omega) (fun hb79 => ?_) (fun hb79 => ?_)
          · refine e_ico o79_86 ?_
            refine e_rI o79_87 K79 rfl rfl ?_
            exact ⟨bad_c (o := 0) a2 (by omega) (by omega), rfl⟩
          · omega
      · intro d v u h hd hP hh
        refine hm d v u _ h hd hP hh ?_
        rintro w x2 y3 hy ⟨a1, a2, a3, a4⟩ hz
        refine e_al0 o139_102 (e_bip o139_103 rfl (e_Vv1 o139_105 K139 K158 rfl ⟨rfl, rfl⟩ (zrcv_I L79 rfl) (by omega) rfl (m158 (c := 59) (by omega) a2 (TXm_4 hP.1 a1) a3 (by omega) g2 rfl) ?_))
        rintro w2 u' ⟨⟨z, _⟩ | ⟨_, rfl⟩, rfl⟩
        exact absurd z hS
        refine zEv_mono (mend d _ u h x2 y3 (hh01 hh) hy) ?_
        rintro _ _ ⟨y, x, t, rfl, rfl, rfl, rfl, rfl⟩
        refine ⟨_, _, _, rfl, rfl, bad_m a1 (by omega) (by omega), ?_, fun e' D' ho => (LO_ne ho.symm).elim, rfl⟩
        rcases hh01 hh with z | z <;> rcases hy with z2 | z2 <;> rw [z, z2] <;> simp
end
