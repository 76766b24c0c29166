/-! expressions -/
section
variable {sc : Nat × (Nat → Int32)} {B : Int → Int} {N : Int}
theorem m153_d {d : Nat} {v : zV} {u : zU} {p : Int} (hd : 5 ≤ d) (h : ¬ zg v 79 21 = 0) : zEv sc 153 d 0 [.ref 79, .int (zI p), zJ, zJ] [] (zmk v u) 0 0 (zdo v u) := by
  refine e_ico o153_0 (e_is2 o153_1 (e_al0 o153_2 (e_ldcS o153_3 rfl (e_Vi1 o153_5 K153 K141 rfl ⟨rfl, rfl⟩ (zrcv_I L79 rfl) (by omega) rfl (m141_d (r := 45) (by omega) (by omega) h) ?_))))
  rintro _ _ _ ⟨rfl, rfl, rfl⟩
  refine e_if_eq o153_8 39 rfl (by first | exact zg_rg _ _ _ | exact zt_rg _ | omega) (fun hb8 => ?_) (fun hb8 => ?_)
  · refine e_al0 o153_39 (e_il1 o153_40 (e_Vv1 o153_41 K153 K154 rfl ⟨rfl, rfl⟩ (zrcv_I L79 rfl) (by omega) rfl (m154_d (by omega) h) ?_))
    rintro _ _ ⟨rfl, rfl⟩
    refine e_al0 o153_44 (e_bip o153_45 rfl (e_Vi1 o153_47 K153 K151 rfl ⟨rfl, rfl⟩ (zrcv_I L79 rfl) (by omega) rfl (m151_d h) ?_))
    rintro _ _ _ ⟨rfl, rfl, rfl⟩
    refine e_if_ne o153_50 62 rfl (by first | exact zg_rg _ _ _ | exact zt_rg _ | omega) (fun hb50 => ?_) (fun hb50 => ?_)
    · omega
    · refine e_al0 o153_53 (e_bip o153_54 rfl (e_Vi1 o153_56 K153 K151 rfl ⟨rfl, rfl⟩ (zrcv_I L79 rfl) (by omega) rfl (m151_d h) ?_))
      rintro _ _ _ ⟨rfl, rfl, rfl⟩
      refine e_if_eq o153_59 93 rfl (by first | exact zg_rg _ _ _ | exact zt_rg _ | omega) (fun hb59 => ?_) (fun hb59 => ?_)
      · refine e_ico o153_93 (e_is3 o153_94 (e_il3 o153_95 (e_il2 o153_96 (e_ic_ge o153_97 112 rfl (by first | exact zg_rg _ _ _ | exact zt_rg _ | omega) (by first | exact zg_rg _ _ _ | exact zt_rg _ | omega) (fun hb97 => ?_) (fun hb97 => ?_)))))
        · refine e_rV o153_112 K153 rfl rfl ?_
          exact ⟨rfl, rfl⟩
        · omega
      · omega
  · omega
theorem m152_d {d : Nat} {v : zV} {u : zU} {p : Int} (hd : 6 ≤ d) (h : ¬ zg v 79 21 = 0) : zEv sc 152 d 0 [.ref 79, .int (zI p)] [] (zmk v u) 0 0 (zdo v u) := by
  refine e_al0 o152_0 (e_il1 o152_1 (e_Vv1 o152_2 K152 K153 rfl ⟨rfl, rfl⟩ (zrcv_I L79 rfl) (by omega) rfl (m153_d (by omega) h) ?_))
  rintro _ _ ⟨rfl, rfl⟩
  refine e_al0 o152_5 (e_ldc_wS o152_6 rfl (e_Vi1 o152_9 K152 K141 rfl ⟨rfl, rfl⟩ (zrcv_I L79 rfl) (by omega) rfl (m141_d (r := 46) (by omega) (by omega) h) ?_))
  rintro _ _ _ ⟨rfl, rfl, rfl⟩
  refine e_if_eq o152_12 33 rfl (by first | exact zg_rg _ _ _ | exact zt_rg _ | omega) (fun hb12 => ?_) (fun hb12 => ?_)
  · refine e_rV o152_33 K152 rfl rfl ?_
    exact ⟨rfl, rfl⟩
  · omega
theorem LVnot0 {p : Int} (n6 : N ≤ 600) (p0 : 0 ≤ p) (p5 : p ≤ 5) {E0 : Int} (HP : ∀ e, E0 ≤ e → 0 ≤ e → e ≤ N → LV sc B N 90 154 [zJ, zJ, zJ] [zJ] (8 * (6 - p) + 14) 2 p e) : ∀ e, E0 ≤ e → 0 ≤ e → e ≤ N → LV sc B N 88 153 [zJ, zJ] [zJ, zJ] (8 * (6 - p) + 16) 3 p e := by
  intro e hE e0 e1
  obtain ⟨o, g1, g2, hc, hm⟩ := LVnot n6 p0 p5 HP 6 0 e (by omega) hE e0 e1
  refine ⟨o, ⟨?_, g2⟩, ?_, ?_⟩
  · cases o using PO_c with
    | bad c q => exact g1
    | ok e' L => exact ⟨g1.1, g1.2.1, g1.2.2.1, by have := g1.2.2.2.1; omega, g1.2.2.2.2⟩
  · intro d v u hd hP
    exact e_ico o88_0 (e_is2 o88_1 (hc d v u _ hd hP (by have := hP.2.2; omega)))
  · intro d v u hd hP
    exact e_ico o153_0 (e_is2 o153_1 (hm d v u _ hd hP (by have := hP.2.2.2; omega)))
/-- the reference's first look at an expression -/
theorem m150_may {d : Nat} {v : zV} {u : zU} {p e : Int} {Q : zPost} (hd : 2 ≤ d) (p0 : 0 ≤ p) (p6 : p ≤ 6) (e0 : 0 ≤ e) (e1 : e ≤ N) (hP : MPre B N v e) (k1 : may B N e → zEv sc 150 d 51 [.ref 79, .int (zI p), .int (zI 1)] [] (zmk v u) 0 0 Q) (k2 : ¬ may B N e → zEv sc 150 d 62 [.ref 79, .int (zI p), .int (zI 0)] [] (zmk (zu (zu v 79 21 (zI 1)) 79 22 (zI (ts B N e))) u) 0 0 Q) : zEv sc 150 d 0 [.ref 79, .int (zI p), zJ] [] (zmk v u) 0 0 Q := by
  obtain ⟨hT, hR, hb, l0, l1⟩ := id hP
  have kk := tk_K hR
  refine e_al0 o150_0 (e_gI o150_1 L79 rfl 21 rfl ?_)
  rw [hb]
  refine e_if_eq o150_4 8 rfl (by first | exact zg_rg _ _ _ | exact zt_rg _ | omega) (fun hb4 => ?_) (fun hb4 => ?_)
  · refine e_al0 o150_8 (e_gI o150_9 L79 rfl 17 rfl (e_ico o150_12 (e_ic_eq o150_13 33 rfl (by first | exact zg_rg _ _ _ | exact zt_rg _ | omega) (by first | exact zg_rg _ _ _ | exact zt_rg _ | omega) (fun hb13 => ?_) (fun hb13 => ?_))))
    · refine e_ico o150_33 (e_goto o150_34 38 rfl (e_is2 o150_38 (e_il2 o150_39 (e_if_ne o150_40 51 rfl (by first | exact zg_rg _ _ _ | exact zt_rg _ | omega) (fun hb40 => ?_) (fun hb40 => ?_)))))
      · first | (exfalso; omega) | (exact k1 (by first | exact Or.inl (by omega) | exact Or.inr (Or.inl (by omega)) | exact Or.inr (Or.inr hb30)))
      · refine e_al0 o150_43 (e_ico o150_44 (e_Vv1 o150_45 K150 K142 rfl ⟨rfl, rfl⟩ (zrcv_I L79 rfl) (by omega) rfl (m142 hb) ?_))
        rintro _ _ ⟨rfl, rfl⟩
        rw [hR.2.1]
        refine e_goto o150_48 62 rfl ?_
        first | (exfalso; omega) | (refine k2 (fun z => ?_); rcases z with z | z | z; omega; omega; exact hb30 z)
    · refine e_al0 o150_16 (e_gI o150_17 L79 rfl 17 rfl (e_ico o150_20 (e_ic_eq o150_21 33 rfl (by first | exact zg_rg _ _ _ | exact zt_rg _ | omega) (by first | exact zg_rg _ _ _ | exact zt_rg _ | omega) (fun hb21 => ?_) (fun hb21 => ?_))))
      · refine e_ico o150_33 (e_goto o150_34 38 rfl (e_is2 o150_38 (e_il2 o150_39 (e_if_ne o150_40 51 rfl (by first | exact zg_rg _ _ _ | exact zt_rg _ | omega) (fun hb40 => ?_) (fun hb40 => ?_)))))
        · first | (exfalso; omega) | (exact k1 (by first | exact Or.inl (by omega) | exact Or.inr (Or.inl (by omega)) | exact Or.inr (Or.inr hb30)))
        · refine e_al0 o150_43 (e_ico o150_44 (e_Vv1 o150_45 K150 K142 rfl ⟨rfl, rfl⟩ (zrcv_I L79 rfl) (by omega) rfl (m142 hb) ?_))
          rintro _ _ ⟨rfl, rfl⟩
          rw [hR.2.1]
          refine e_goto o150_48 62 rfl ?_
          first | (exfalso; omega) | (refine k2 (fun z => ?_); rcases z with z | z | z; omega; omega; exact hb30 z)
      · refine e_al0 o150_24 (e_bip o150_25 rfl (e_Vi1 o150_27 K150 K151 rfl ⟨rfl, rfl⟩ (zrcv_I L79 rfl) (by omega) rfl (m151 (c := 40) hb hT hR e0 e1 rfl) ?_))
        rintro _ _ _ ⟨rfl, rfl, rfl⟩
        refine e_bz_eq o150_30 37 rfl (fun hb30 => ?_) (fun hb30 => ?_)
        · refine e_ico o150_37 (e_is2 o150_38 (e_il2 o150_39 (e_if_ne o150_40 51 rfl (by first | exact zg_rg _ _ _ | exact zt_rg _ | omega) (fun hb40 => ?_) (fun hb40 => ?_))))
          · first | (exfalso; omega) | (exact k1 (by first | exact Or.inl (by omega) | exact Or.inr (Or.inl (by omega)) | exact Or.inr (Or.inr hb30)))
          · refine e_al0 o150_43 (e_ico o150_44 (e_Vv1 o150_45 K150 K142 rfl ⟨rfl, rfl⟩ (zrcv_I L79 rfl) (by omega) rfl (m142 hb) ?_))
            rintro _ _ ⟨rfl, rfl⟩
            rw [hR.2.1]
            refine e_goto o150_48 62 rfl ?_
            first | (exfalso; omega) | (refine k2 (fun z => ?_); rcases z with z | z | z; omega; omega; exact hb30 z)
        · refine e_ico o150_33 (e_goto o150_34 38 rfl (e_is2 o150_38 (e_il2 o150_39 (e_if_ne o150_40 51 rfl (by first | exact zg_rg _ _ _ | exact zt_rg _ | omega) (fun hb40 => ?_) (fun hb40 => ?_)))))
          · first | (exfalso; omega) | (exact k1 (by first | exact Or.inl (by omega) | exact Or.inr (Or.inl (by omega)) | exact Or.inr (Or.inr hb30)))
          · refine e_al0 o150_43 (e_ico o150_44 (e_Vv1 o150_45 K150 K142 rfl ⟨rfl, rfl⟩ (zrcv_I L79 rfl) (by omega) rfl (m142 hb) ?_))
            rintro _ _ ⟨rfl, rfl⟩
            rw [hR.2.1]
            refine e_goto o150_48 62 rfl ?_
            first | (exfalso; omega) | (refine k2 (fun z => ?_); rcases z with z | z | z; omega; omega; exact hb30 z)
  · omega
theorem LVexpr {p e : Int} (n6 : N ≤ 600) (p0 : 0 ≤ p) (p6 : p ≤ 6) (e0 : 0 ≤ e) (e1 : e ≤ N) (HP : p ≤ 5 → ∀ e', e ≤ e' → 0 ≤ e' → e' ≤ N → LV sc B N 87 152 [zJ, zJ] [] (8 * (6 - p) + 17) 4 p e') : LV sc B N 86 150 [zJ, zJ] [zJ] (8 * (6 - p) + 18) 5 p e := by
  have h1 := ts_in (B := B) e1
  have h2 := te_in (B := B) e1
  have kr := tk_rg (B := B) (N := N) (e := e)
  -- the reference is dead behind its first look
  have mdead : ∀ (c : Int) (d : Nat) v u x2, ¬ c = 0 → -100 ≤ c ∧ c ≤ 100 → 8 * (6 - p) + 18 ≤ (d : Int) → zEv sc 150 d 62 [.ref 79, .int (zI p), x2] [] (zmk (zu (zu v 79 21 (zI c)) 79 22 (zI (ts B N e))) u) 0 0 (zPv fun w t => mOut B N (.bad c (ts B N e)) v w ∧ u = t) := by
    intro c d v u x2 hc cr hd
    have w1 : zg (zu (zu v 79 21 (zI c)) 79 22 (zI (ts B N e))) 79 21 = c := by rw [zg_ne (by omega), zg_same (by omega)]
    have w2 : ¬ zg (zu (zu v 79 21 (zI c)) 79 22 (zI (ts B N e))) 79 21 = 0 := by omega
    refine e_al0 o150_62 (e_il1 o150_63 (e_Vv1 o150_64 K150 K152 rfl ⟨rfl, rfl⟩ (zrcv_I L79 rfl) (by omega) rfl (m152_d (by omega) w2) ?_))
    rintro _ _ ⟨rfl, rfl⟩
    refine e_al0 o150_67 (e_ldc_wS o150_68 rfl (e_Vi1 o150_71 K150 K141 rfl ⟨rfl, rfl⟩ (zrcv_I L79 rfl) (by omega) rfl (m141_d (r := 47) (by omega) (by omega) w2) ?_))
    rintro _ _ _ ⟨rfl, rfl, rfl⟩
    refine e_if_eq o150_74 95 rfl (by first | exact zg_rg _ _ _ | exact zt_rg _ | omega) (fun hb74 => ?_) (fun hb74 => ?_)
    · refine e_rV o150_95 K150 rfl rfl ?_
      exact ⟨⟨fun a q k1 k2 k3 => by rw [zu_ne (by omega), zu_ne (by omega)], w1, by rw [zg_same (by omega)]⟩, rfl⟩
    · omega
  by_cases h6 : p = 6
  · subst h6
    have cgo : ∀ (d : Nat) v u, 8 * (6 - (6 : Int)) + 18 ≤ (d : Int) → CPre B N v e → ∀ c : Int, ((may B N e ∧ c = 2) ∨ (¬ may B N e ∧ c = 1)) → zEv sc 86 d 0 [.ref 1, .int (zI 6), zJ, zJ] [] (zmk v u) 0 0 (zPi fun y w t => cOut B N (.bad c (ts B N e)) v w y ∧ u = t) := by
      intro d v u hd hP c hc
      obtain ⟨hT, hC, l0, l1⟩ := id hP
      have fin : ∀ x2, zEv sc 86 d 56 [.ref 1, .int (zI 6), x2, zJ] [.int (zI c), .ref 1] (zmk v u) 0 0 (zPi fun y w t => cOut B N (.bad c (ts B N e)) v w y ∧ u = t) := by
        intro x2
        refine e_Vi1 o86_56 K86 K81 rfl ⟨rfl, rfl⟩ (zrcv_I L1 rfl) (by omega) rfl (c81 (c := c) hC e1 (by omega)) ?_
        rintro _ _ _ ⟨rfl, rfl, rfl⟩
        refine e_rI o86_59 K86 rfl rfl ?_
        refine ⟨⟨rfl, fun a q g1 g2 g3 g4 => by rw [zu_ne (by omega), zu_ne (by omega)], ?_, ?_, ?_⟩, rfl⟩
        · rw [zg_ne (by omega), zg_same (by omega)]
        · rw [zg_same (by omega)]
        · rw [zg_na (by decide), zg_na (by decide)]; omega
      refine e_il1 o86_0 (e_bip o86_1 rfl (e_ic_lt o86_3 60 rfl (by first | exact zg_rg _ _ _ | exact zt_rg _ | omega) (by first | exact zg_rg _ _ _ | exact zt_rg _ | omega) (fun hb3 => ?_) (fun hb3 => ?_)))
      · omega
      · refine e_al0 o86_6 (e_gR o86_7 L1 rfl rfl (e_gI o86_10 L2 rfl 2 rfl (e_ico o86_13 ?_)))
        rw [hC.1]
        refine e_ic_eq o86_14 40 rfl (by first | exact zg_rg _ _ _ | exact zt_rg _ | omega) (by first | exact zg_rg _ _ _ | exact zt_rg _ | omega) (fun hb14 => ?_) (fun hb14 => ?_)
        · refine e_ico o86_40 (e_goto o86_41 45 rfl (e_is2 o86_45 (e_al0 o86_46 (e_il2 o86_47 (e_if_eq o86_48 55 rfl (by first | exact zg_rg _ _ _ | exact zt_rg _ | omega) (fun hb48 => ?_) (fun hb48 => ?_))))))
          · refine e_ico o86_55 ?_
            rcases hc with ⟨z1, z2⟩ | ⟨z1, z2⟩
            · rw [z2] at fin
              rw [z2]
              first | exact fin _ | (exfalso; rcases z1 with z | z | z; omega; omega; exact hb37 z) | (exfalso; omega)
            · rw [z2] at fin
              rw [z2]
              first | exact fin _ | (exfalso; omega) | (exfalso; exact z1 (Or.inl hb14)) | (exfalso; exact z1 (Or.inr (Or.inl hb25))) | (exfalso; exact z1 (Or.inr (Or.inr hb37)))
          · refine e_ico o86_51 (e_goto o86_52 56 rfl ?_)
            rcases hc with ⟨z1, z2⟩ | ⟨z1, z2⟩
            · rw [z2] at fin
              rw [z2]
              first | exact fin _ | (exfalso; rcases z1 with z | z | z; omega; omega; exact hb37 z) | (exfalso; omega)
            · rw [z2] at fin
              rw [z2]
              first | exact fin _ | (exfalso; omega) | (exfalso; exact z1 (Or.inl hb14)) | (exfalso; exact z1 (Or.inr (Or.inl hb25))) | (exfalso; exact z1 (Or.inr (Or.inr hb37)))
        · refine e_al0 o86_17 (e_gR o86_18 L1 rfl rfl (e_gI o86_21 L2 rfl 2 rfl (e_ico o86_24 ?_)))
          rw [hC.1]
          refine e_ic_eq o86_25 40 rfl (by first | exact zg_rg _ _ _ | exact zt_rg _ | omega) (by first | exact zg_rg _ _ _ | exact zt_rg _ | omega) (fun hb25 => ?_) (fun hb25 => ?_)
          · refine e_ico o86_40 (e_goto o86_41 45 rfl (e_is2 o86_45 (e_al0 o86_46 (e_il2 o86_47 (e_if_eq o86_48 55 rfl (by first | exact zg_rg _ _ _ | exact zt_rg _ | omega) (fun hb48 => ?_) (fun hb48 => ?_))))))
            · refine e_ico o86_55 ?_
              rcases hc with ⟨z1, z2⟩ | ⟨z1, z2⟩
              · rw [z2] at fin
                rw [z2]
                first | exact fin _ | (exfalso; rcases z1 with z | z | z; omega; omega; exact hb37 z) | (exfalso; omega)
              · rw [z2] at fin
                rw [z2]
                first | exact fin _ | (exfalso; omega) | (exfalso; exact z1 (Or.inl hb14)) | (exfalso; exact z1 (Or.inr (Or.inl hb25))) | (exfalso; exact z1 (Or.inr (Or.inr hb37)))
            · refine e_ico o86_51 (e_goto o86_52 56 rfl ?_)
              rcases hc with ⟨z1, z2⟩ | ⟨z1, z2⟩
              · rw [z2] at fin
                rw [z2]
                first | exact fin _ | (exfalso; rcases z1 with z | z | z; omega; omega; exact hb37 z) | (exfalso; omega)
              · rw [z2] at fin
                rw [z2]
                first | exact fin _ | (exfalso; omega) | (exfalso; exact z1 (Or.inl hb14)) | (exfalso; exact z1 (Or.inr (Or.inl hb25))) | (exfalso; exact z1 (Or.inr (Or.inr hb37)))
          · refine e_al0 o86_28 (e_gR o86_29 L1 rfl rfl (e_bip o86_32 rfl (e_Vi1 o86_34 K86 K39 rfl ⟨rfl, rfl⟩ (zrcv_I L2 rfl) (by omega) rfl (c39 (x := 40) hT hC e0 e1 (by omega)) ?_)))
            rintro _ _ _ ⟨rfl, rfl, rfl⟩
            refine e_bz_eq o86_37 44 rfl (fun hb37 => ?_) (fun hb37 => ?_)
            · refine e_ico o86_44 (e_is2 o86_45 (e_al0 o86_46 (e_il2 o86_47 (e_if_eq o86_48 55 rfl (by first | exact zg_rg _ _ _ | exact zt_rg _ | omega) (fun hb48 => ?_) (fun hb48 => ?_)))))
              · refine e_ico o86_55 ?_
                rcases hc with ⟨z1, z2⟩ | ⟨z1, z2⟩
                · rw [z2] at fin
                  rw [z2]
                  first | exact fin _ | (exfalso; rcases z1 with z | z | z; omega; omega; exact hb37 z) | (exfalso; omega)
                · rw [z2] at fin
                  rw [z2]
                  first | exact fin _ | (exfalso; omega) | (exfalso; exact z1 (Or.inl hb14)) | (exfalso; exact z1 (Or.inr (Or.inl hb25))) | (exfalso; exact z1 (Or.inr (Or.inr hb37)))
              · refine e_ico o86_51 (e_goto o86_52 56 rfl ?_)
                rcases hc with ⟨z1, z2⟩ | ⟨z1, z2⟩
                · rw [z2] at fin
                  rw [z2]
                  first | exact fin _ | (exfalso; rcases z1 with z | z | z; omega; omega; exact hb37 z) | (exfalso; omega)
                · rw [z2] at fin
                  rw [z2]
                  first | exact fin _ | (exfalso; omega) | (exfalso; exact z1 (Or.inl hb14)) | (exfalso; exact z1 (Or.inr (Or.inl hb25))) | (exfalso; exact z1 (Or.inr (Or.inr hb37)))
            · refine e_ico o86_40 (e_goto o86_41 45 rfl (e_is2 o86_45 (e_al0 o86_46 (e_il2 o86_47 (e_if_eq o86_48 55 rfl (by first | exact zg_rg _ _ _ | exact zt_rg _ | omega) (fun hb48 => ?_) (fun hb48 => ?_))))))
              · refine e_ico o86_55 ?_
                rcases hc with ⟨z1, z2⟩ | ⟨z1, z2⟩
                · rw [z2] at fin
                  rw [z2]
                  first | exact fin _ | (exfalso; rcases z1 with z | z | z; omega; omega; exact hb37 z) | (exfalso; omega)
                · rw [z2] at fin
                  rw [z2]
                  first | exact fin _ | (exfalso; omega) | (exfalso; exact z1 (Or.inl hb14)) | (exfalso; exact z1 (Or.inr (Or.inl hb25))) | (exfalso; exact z1 (Or.inr (Or.inr hb37)))
              · refine e_ico o86_51 (e_goto o86_52 56 rfl ?_)
                rcases hc with ⟨z1, z2⟩ | ⟨z1, z2⟩
                · rw [z2] at fin
                  rw [z2]
                  first | exact fin _ | (exfalso; rcases z1 with z | z | z; omega; omega; exact hb37 z) | (exfalso; omega)
                · rw [z2] at fin
                  rw [z2]
                  first | exact fin _ | (exfalso; omega) | (exfalso; exact z1 (Or.inl hb14)) | (exfalso; exact z1 (Or.inr (Or.inl hb25))) | (exfalso; exact z1 (Or.inr (Or.inr hb37)))
    by_cases hm : may B N e
    · refine ⟨.bad 2 (ts B N e), ⟨⟨by omega, by omega, by omega, by omega⟩, fun z => absurd hm z⟩, fun d v u hd hP => cgo d v u hd hP 2 (Or.inl ⟨hm, rfl⟩), ?_⟩
      intro d v u hd hP
      refine m150_may (by omega) (by omega) (by omega) e0 e1 hP (fun _ => ?_) (fun z => absurd hm z)
      refine e_il1 o150_51 (e_bip o150_52 rfl (e_ic_ne o150_54 62 rfl (by first | exact zg_rg _ _ _ | exact zt_rg _ | omega) (by first | exact zg_rg _ _ _ | exact zt_rg _ | omega) (fun hb54 => ?_) (fun hb54 => ?_)))
      · omega
      · refine e_al0 o150_57 (e_ico o150_58 (e_Vv1 o150_59 K150 K142 rfl ⟨rfl, rfl⟩ (zrcv_I L79 rfl) (by omega) rfl (m142 hP.2.2.1) ?_))
        rintro _ _ ⟨rfl, rfl⟩
        rw [hP.2.1.2.1]
        exact mdead 2 d v u _ (by omega) (by omega) hd
    · refine ⟨.bad 1 (ts B N e), ⟨⟨by omega, by omega, by omega, by omega⟩, fun _ => rfl⟩, fun d v u hd hP => cgo d v u hd hP 1 (Or.inr ⟨hm, rfl⟩), ?_⟩
      intro d v u hd hP
      exact m150_may (by omega) (by omega) (by omega) e0 e1 hP (fun z => absurd z hm) (fun _ => mdead 1 d v u _ (by omega) (by omega) hd)
  · have HP := HP (by omega)
    obtain ⟨o1, g1, hc, hm⟩ := HP e (by omega) e0 e1
    by_cases hmay : may B N e
    · -- alive
      have mgo : ∀ (d : Nat) v u Q, 8 * (6 - p) + 18 ≤ (d : Int) → MPre B N v e → (∀ w, mOut B N o1 v w → zEv sc 150 d 67 [.ref 79, .int (zI p), .int (zI 1)] [] (zmk w u) 0 0 Q) → zEv sc 150 d 0 [.ref 79, .int (zI p), zJ] [] (zmk v u) 0 0 Q := by
        intro d v u Q hd hP k
        refine m150_may (by omega) (by omega) (by omega) e0 e1 hP (fun _ => ?_) (fun z => absurd hmay z)
        refine e_il1 o150_51 (e_bip o150_52 rfl (e_ic_ne o150_54 62 rfl (by first | exact zg_rg _ _ _ | exact zt_rg _ | omega) (by first | exact zg_rg _ _ _ | exact zt_rg _ | omega) (fun hb54 => ?_) (fun hb54 => ?_)))
        · refine e_al0 o150_62 (e_il1 o150_63 (e_Vv1 o150_64 K150 K152 rfl ⟨rfl, rfl⟩ (zrcv_I L79 rfl) (by omega) rfl (hm (d - 1) v u (by omega) hP) ?_))
          rintro w u' ⟨hO, rfl⟩
          exact k w hO
        · omega
      cases o1 using PO_c with
      | bad c q =>
        refine ⟨.bad c q, ⟨g1.1, g1.2⟩, ?_, ?_⟩
        · intro d v u hd hP
          refine e_il1 o86_0 (e_bip o86_1 rfl (e_ic_lt o86_3 60 rfl (by first | exact zg_rg _ _ _ | exact zt_rg _ | omega) (by first | exact zg_rg _ _ _ | exact zt_rg _ | omega) (fun hb3 => ?_) (fun hb3 => ?_)))
          · refine e_al0 o86_60 (e_il1 o86_61 (e_Vi1 o86_62 K86 K87 rfl ⟨rfl, rfl⟩ (zrcv_I L1 rfl) (by omega) rfl (hc (d - 1) v u (by omega) hP) ?_))
            rintro y w u' ⟨⟨rfl, a2, a3⟩, rfl⟩
            refine e_is2 o86_65 (e_ico o86_66 (e_is3 o86_67 (e_il3 o86_68 (e_sip o86_69 rfl (e_ic_ge o86_72 122 rfl (by first | exact zg_rg _ _ _ | exact zt_rg _ | omega) (by first | exact zg_rg _ _ _ | exact zt_rg _ | omega) (fun hb72 => ?_) (fun hb72 => ?_))))))
            · refine e_il2 o86_122 ?_
              refine e_rI o86_123 K86 rfl rfl ?_
              exact ⟨⟨rfl, a2, a3⟩, rfl⟩
            · refine e_il2 o86_75 (e_if_eq o86_76 122 rfl (by first | exact zg_rg _ _ _ | exact zt_rg _ | omega) (fun hb76 => ?_) (fun hb76 => ?_))
              · refine e_il2 o86_122 ?_
                refine e_rI o86_123 K86 rfl rfl ?_
                exact ⟨⟨rfl, a2, a3⟩, rfl⟩
              · omega
          · omega
        · intro d v u hd hP
          refine mgo d v u _ hd hP ?_
          rintro w ⟨a1, a2, a3⟩
          have nb : ¬ zg w 79 21 = 0 := by have := g1.1.1; omega
          refine e_al0 o150_67 (e_ldc_wS o150_68 rfl (e_Vi1 o150_71 K150 K141 rfl ⟨rfl, rfl⟩ (zrcv_I L79 rfl) (by omega) rfl (m141_d (r := 47) (by omega) (by omega) nb) ?_))
          rintro _ _ _ ⟨rfl, rfl, rfl⟩
          refine e_if_eq o150_74 95 rfl (by first | exact zg_rg _ _ _ | exact zt_rg _ | omega) (fun hb74 => ?_) (fun hb74 => ?_)
          · refine e_rV o150_95 K150 rfl rfl ?_
            exact ⟨⟨a1, a2, a3⟩, rfl⟩
          · omega
      | ok e1' L =>
        obtain ⟨⟨k1, k2, k3, k4, k5⟩, k6⟩ := g1
        obtain ⟨o2, g2, hc2, hm2⟩ := LLor (E0 := e) n6 p0 (by omega) HP (N - e1').toNat e1' (Nat.le_refl _) (by omega) (by omega) k2
        have cP : ∀ (v w : zV), CPre B N v e → FP v w → CT B N w e1' → lay13 v w L → CPre B N w e1' := by
          intro v w hP a2 a3 a4
          have l1 := a4.1
          have l2 := hP.2.2
          exact ⟨TXc_P hP.1 a2, a3, by omega, by omega⟩
        have mP : ∀ (v w : zV), MPre B N v e → FQ v w → zg w 79 21 = 0 → RT B N w e1' → lay90 v w L → MPre B N w e1' := by
          intro v w hP a1 a2 a3 a4
          have l1 := a4.1
          have l2 := hP.2.2.2
          exact ⟨TXm_Q hP.1 a1, a3, a2, by omega, by omega⟩
        cases o2 using PO_c with
        | bad c q =>
          refine ⟨.bad c q, ⟨g2, fun z => (PO_ne (k6 z)).elim⟩, ?_, ?_⟩
          · intro d v u hd hP
            refine e_il1 o86_0 (e_bip o86_1 rfl (e_ic_lt o86_3 60 rfl (by first | exact zg_rg _ _ _ | exact zt_rg _ | omega) (by first | exact zg_rg _ _ _ | exact zt_rg _ | omega) (fun hb3 => ?_) (fun hb3 => ?_)))
            · refine e_al0 o86_60 (e_il1 o86_61 (e_Vi1 o86_62 K86 K87 rfl ⟨rfl, rfl⟩ (zrcv_I L1 rfl) (by omega) rfl (hc (d - 1) v u (by omega) hP) ?_))
              rintro y w u' ⟨⟨rfl, a2, a3, a4⟩, rfl⟩
              refine e_is2 o86_65 (e_ico o86_66 (e_is3 o86_67 ?_))
              refine zEv_mono (hc2 d w u 0 hd (cP v w hP a2 a3 a4) (by omega) (by omega)) ?_
              rintro _ _ ⟨y, x, t, rfl, rfl, ⟨b1, b2, b3⟩, rfl⟩
              exact ⟨y, x, _, rfl, rfl, ⟨b1, FP_t a2 b2, b3⟩, rfl⟩
            · omega
          · intro d v u hd hP
            refine mgo d v u _ hd hP ?_
            rintro w ⟨a1, a2, a3, a4⟩
            refine zEv_mono (hm2 d w u _ hd (mP v w hP a1 a2 a3 a4)) ?_
            rintro _ _ ⟨x, t, rfl, rfl, ⟨b1, b2, b3⟩, rfl⟩
            exact ⟨x, _, rfl, rfl, ⟨FQ_t a1 b1, b2, b3⟩, rfl⟩
        | ok e3 L3 =>
          obtain ⟨j1, j2, j3, j4⟩ := g2
          refine ⟨.ok e3 (L ++ L3), ⟨⟨by omega, j2, by simp; omega, by simp; omega, fun c c0 => okL_app (m := c + 1) (okL_mono (by omega) (k5 c c0)) (j4 c c0)⟩, fun z => (PO_ne (k6 z)).elim⟩, ?_, ?_⟩
          · intro d v u hd hP
            refine e_il1 o86_0 (e_bip o86_1 rfl (e_ic_lt o86_3 60 rfl (by first | exact zg_rg _ _ _ | exact zt_rg _ | omega) (by first | exact zg_rg _ _ _ | exact zt_rg _ | omega) (fun hb3 => ?_) (fun hb3 => ?_)))
            · refine e_al0 o86_60 (e_il1 o86_61 (e_Vi1 o86_62 K86 K87 rfl ⟨rfl, rfl⟩ (zrcv_I L1 rfl) (by omega) rfl (hc (d - 1) v u (by omega) hP) ?_))
              rintro y w u' ⟨⟨rfl, a2, a3, a4⟩, rfl⟩
              refine e_is2 o86_65 (e_ico o86_66 (e_is3 o86_67 ?_))
              refine zEv_mono (hc2 d w u 0 hd (cP v w hP a2 a3 a4) (by omega) (by omega)) ?_
              rintro _ _ ⟨y, x, t, rfl, rfl, ⟨b1, b2, b3, b4⟩, rfl⟩
              exact ⟨y, x, _, rfl, rfl, ⟨b1, FP_t a2 b2, b3, lay13_t a4 b4⟩, rfl⟩
            · omega
          · intro d v u hd hP
            refine mgo d v u _ hd hP ?_
            rintro w ⟨a1, a2, a3, a4⟩
            refine zEv_mono (hm2 d w u _ hd (mP v w hP a1 a2 a3 a4)) ?_
            rintro _ _ ⟨x, t, rfl, rfl, ⟨b1, b2, b3, b4⟩, rfl⟩
            exact ⟨x, _, rfl, rfl, ⟨FQ_t a1 b1, b2, b3, lay90_t a4 b4⟩, rfl⟩
    · have ho := g1.2 hmay
      subst ho
      refine ⟨.bad 1 (ts B N e), ⟨g1.1, fun _ => rfl⟩, ?_, ?_⟩
      · intro d v u hd hP
        refine e_il1 o86_0 (e_bip o86_1 rfl (e_ic_lt o86_3 60 rfl (by first | exact zg_rg _ _ _ | exact zt_rg _ | omega) (by first | exact zg_rg _ _ _ | exact zt_rg _ | omega) (fun hb3 => ?_) (fun hb3 => ?_)))
        · refine e_al0 o86_60 (e_il1 o86_61 (e_Vi1 o86_62 K86 K87 rfl ⟨rfl, rfl⟩ (zrcv_I L1 rfl) (by omega) rfl (hc (d - 1) v u (by omega) hP) ?_))
          rintro y w u' ⟨⟨rfl, a2, a3⟩, rfl⟩
          refine e_is2 o86_65 (e_ico o86_66 (e_is3 o86_67 (e_il3 o86_68 (e_sip o86_69 rfl (e_ic_ge o86_72 122 rfl (by first | exact zg_rg _ _ _ | exact zt_rg _ | omega) (by first | exact zg_rg _ _ _ | exact zt_rg _ | omega) (fun hb72 => ?_) (fun hb72 => ?_))))))
          · refine e_il2 o86_122 ?_
            refine e_rI o86_123 K86 rfl rfl ?_
            exact ⟨⟨rfl, a2, a3⟩, rfl⟩
          · refine e_il2 o86_75 (e_if_eq o86_76 122 rfl (by first | exact zg_rg _ _ _ | exact zt_rg _ | omega) (fun hb76 => ?_) (fun hb76 => ?_))
            · refine e_il2 o86_122 ?_
              refine e_rI o86_123 K86 rfl rfl ?_
              exact ⟨⟨rfl, a2, a3⟩, rfl⟩
            · omega
        · omega
      · intro d v u hd hP
        exact m150_may (by omega) (by omega) (by omega) e0 e1 hP (fun z => absurd z hmay) (fun _ => mdead 1 d v u _ (by omega) (by omega) hd)
theorem EXPR (n6 : N ≤ 600) : ∀ (m : Nat) e, (N - e).toNat ≤ m → 0 ≤ e → e ≤ N → ∀ p, 0 ≤ p → p ≤ 6 → LV sc B N 86 150 [zJ, zJ] [zJ] (8 * (6 - p) + 18) 5 p e := by
  intro m
  induction m with
  | zero =>
    intro e hm e0 e1 p p0 p6
    refine LVexpr n6 p0 p6 e0 e1 (fun p5 => LVand n6 p0 p5 (LVnot0 n6 p0 p5 (LVsum n6 p0 p5 (LVprod n6 p0 p5 (fun e' h0 h1 h2 => LVpart h1 h2 n6 p0 p5 (fun hS => ?_))))))
    exfalso
    have k := (isS_tk hS).1
    have := (te_in (B := B) h2).2.2.1 (by omega)
    have := ts_in (B := B) h2
    omega
  | succ m ih =>
    intro e hm e0 e1 p p0 p6
    refine LVexpr n6 p0 p6 e0 e1 (fun p5 => LVand n6 p0 p5 (LVnot0 n6 p0 p5 (LVsum n6 p0 p5 (LVprod n6 p0 p5 (fun e' h0 h1 h2 => LVpart h1 h2 n6 p0 p5 (fun hS => ?_))))))
    have k := (isS_tk hS).1
    have k1 := te_in (B := B) h2
    have k2 := k1.2.2.1 (by omega)
    have k3 := ts_in (B := B) h2
    have r := ih (te B N e') (by omega) (by omega) (by omega) (p + 1) (by omega) (by omega)
    rw [show 8 * (6 - (p + 1)) + 18 = 8 * (5 - p) + 18 by omega] at r
    exact r
end
