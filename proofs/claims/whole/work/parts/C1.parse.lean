/-! a text -/
def Dr0 : Dr := (0, 0, 0, fun _ => 0, fun _ => 0, fun _ => 0, fun _ => 0, fun _ => 0, fun _ => 0, fun _ => 0, [])
theorem Dr0_B : DB Dr0 := ⟨⟨by decide, by decide⟩, ⟨by decide, by decide⟩, ⟨by decide, by decide⟩, fun i i0 i1 => absurd i1 (by show ¬ i < 0; omega), fun i i0 i1 => absurd i1 (by show ¬ i < 0; omega), fun i i0 i1 => absurd i1 (by show ¬ i < 0; omega), by decide, Or.inl rfl⟩
def gPs (N : Int) (o : LO) : Prop := match o with
  | .inl (_, D) => DB D
  | .inr (c, q) => 1 ≤ c ∧ c ≤ 4 ∧ 0 ≤ q ∧ q ≤ N
def F78 (v w : zV) : Prop := ∀ a q, ¬ (a = 1 ∧ 2 ≤ q ∧ q ≤ 4) → ¬ (a = 2 ∧ 2 ≤ q ∧ q ≤ 6) → ¬ (4 ≤ a ∧ a ≤ 13) → w a q = v a q
def pC (o : LO) (v w : zV) (y : Int32) : Prop := match o with
  | .inl (_, D) => zI 1 = y ∧ F78 v w ∧ CD D w
  | .inr (c, p) => zI 0 = y ∧ F78 v w ∧ zg w 1 2 = c ∧ zg w 1 3 = p
def pM (o : LO) (v w : zV) : Prop := match o with
  | .inl (_, D) => FQ4 v w ∧ zg w 79 21 = 0 ∧ MD D w
  | .inr (c, p) => FQ4 v w ∧ zg w 79 21 = c ∧ zg w 79 22 = p
theorem FD4_78 {v w : zV} (h : FD4 v w) : F78 v w := fun a q h1 h2 h3 => h a q h1 (by omega) h3
theorem F78_t {v w x : zV} (h : F78 v w) (h' : F78 w x) : F78 v x := fun a q h1 h2 h3 => by rw [h' a q h1 h2 h3, h a q h1 h2 h3]
section
variable {sc : Nat × (Nat → Int32)} {B : Int → Int} {N : Int}
theorem LINES (n6 : N ≤ 600) : ∀ (m : Nat) (e : Int) (D : Dr), (N - e).toNat ≤ m → 0 ≤ e → e ≤ N → DB D → (D.L.length : Int) ≤ e → ∃ o, gPs N o ∧ (∀ (d : Nat) v u i, 101 ≤ d → CL B N D v e → 0 ≤ i → i ≤ e → ∀ x1, zEv sc 78 d 27 [.ref 1, x1, .int (zI i)] [] (zmk v u) 0 0 (zPi fun y w t => pC o v w y ∧ u = t)) ∧ (∀ (d : Nat) v u Q h x1, 101 ≤ d → ML B N D v e → h = (if 0 < D.L.length then 1 else 0) → (∀ w x2, pM o v w → zEv sc 132 d 99 [.ref 79, x1, x2] [] (zmk w u) 0 0 Q) → zEv sc 132 d 76 [.ref 79, x1, .int (zI h)] [] (zmk v u) 0 0 Q) := by
  intro m
  induction m with
  | zero =>
    intro e D hm e0 e1 hB hl
    have h1 := ts_in (B := B) e1
    have h2 := te_in (B := B) e1
    have hk : tk B N e = 0 := by
      apply Classical.byContradiction
      intro z
      have := h2.2.2.1 z
      omega
    refine ⟨.ok e D, hB, ?_, ?_⟩
    · intro d v u i hd hP i0 i1 x1
      refine e_il2 o78_27 (e_sip o78_28 rfl (e_ic_ge o78_31 59 rfl (by first | exact zg_rg _ _ _ | exact zt_rg _ | omega) (by first | exact zg_rg _ _ _ | exact zt_rg _ | omega) (fun hb31 => ?_) (fun hb31 => ?_)))
      · refine e_ico o78_59 ?_
        refine e_rI o78_60 K78 rfl rfl ?_
        exact ⟨⟨rfl, fun _ _ _ _ _ => rfl, hP.2.2⟩, rfl⟩
      · refine e_al0 o78_34 (e_gR o78_35 L1 rfl rfl (e_gI o78_38 L2 rfl 2 rfl ?_))
        rw [hP.2.1.1, hk]
        refine e_if_eq o78_41 59 rfl (by first | exact zg_rg _ _ _ | exact zt_rg _ | omega) (fun hb41 => ?_) (fun hb41 => ?_)
        · refine e_ico o78_59 ?_
          refine e_rI o78_60 K78 rfl rfl ?_
          exact ⟨⟨rfl, fun _ _ _ _ _ => rfl, hP.2.2⟩, rfl⟩
        · omega
    · intro d v u Q h x1 hd hP hh k
      obtain ⟨hT, hR, hb, hD⟩ := id hP
      have kk := tk_K hR
      refine e_al0 o132_76 (e_gI o132_77 L79 rfl 21 rfl ?_)
      rw [hb]
      refine e_if_ne o132_80 99 rfl (by first | exact zg_rg _ _ _ | exact zt_rg _ | omega) (fun hb80 => ?_) (fun hb80 => ?_)
      · omega
      · refine e_al0 o132_83 (e_gI o132_84 L79 rfl 17 rfl (e_if_eq o132_87 99 rfl (by first | exact zg_rg _ _ _ | exact zt_rg _ | omega) (fun hb87 => ?_) (fun hb87 => ?_)))
        · exact k v _ ⟨FQ4_r, hb, hD⟩
        · omega
  | succ m ih =>
    intro e D hm e0 e1 hB hl
    have h1 := ts_in (B := B) e1
    have h2 := te_in (B := B) e1
    have kr := tk_rg (B := B) (N := N) (e := e)
    by_cases hk : tk B N e = 0
    · refine ⟨.ok e D, hB, ?_, ?_⟩
      · intro d v u i hd hP i0 i1 x1
        refine e_il2 o78_27 (e_sip o78_28 rfl (e_ic_ge o78_31 59 rfl (by first | exact zg_rg _ _ _ | exact zt_rg _ | omega) (by first | exact zg_rg _ _ _ | exact zt_rg _ | omega) (fun hb31 => ?_) (fun hb31 => ?_)))
        · refine e_ico o78_59 ?_
          refine e_rI o78_60 K78 rfl rfl ?_
          exact ⟨⟨rfl, fun _ _ _ _ _ => rfl, hP.2.2⟩, rfl⟩
        · refine e_al0 o78_34 (e_gR o78_35 L1 rfl rfl (e_gI o78_38 L2 rfl 2 rfl ?_))
          rw [hP.2.1.1, hk]
          refine e_if_eq o78_41 59 rfl (by first | exact zg_rg _ _ _ | exact zt_rg _ | omega) (fun hb41 => ?_) (fun hb41 => ?_)
          · refine e_ico o78_59 ?_
            refine e_rI o78_60 K78 rfl rfl ?_
            exact ⟨⟨rfl, fun _ _ _ _ _ => rfl, hP.2.2⟩, rfl⟩
          · omega
      · intro d v u Q h x1 hd hP hh k
        obtain ⟨hT, hR, hb, hD⟩ := id hP
        have kk := tk_K hR
        refine e_al0 o132_76 (e_gI o132_77 L79 rfl 21 rfl ?_)
        rw [hb]
        refine e_if_ne o132_80 99 rfl (by first | exact zg_rg _ _ _ | exact zt_rg _ | omega) (fun hb80 => ?_) (fun hb80 => ?_)
        · omega
        · refine e_al0 o132_83 (e_gI o132_84 L79 rfl 17 rfl (e_if_eq o132_87 99 rfl (by first | exact zg_rg _ _ _ | exact zt_rg _ | omega) (fun hb87 => ?_) (fun hb87 => ?_)))
          · exact k v _ ⟨FQ4_r, hb, hD⟩
          · omega
    · have h3 := h2.2.2.1 hk
      obtain ⟨o1, g, hc, hm1⟩ := LINE (sc := sc) hB n6 e0 e1 hk hl
      cases o1 using LO_c with
      | bad c q =>
        refine ⟨.bad c q, g, ?_, ?_⟩
        · intro d v u i hd hP i0 i1 x1
          refine e_il2 o78_27 (e_sip o78_28 rfl (e_ic_ge o78_31 59 rfl (by first | exact zg_rg _ _ _ | exact zt_rg _ | omega) (by first | exact zg_rg _ _ _ | exact zt_rg _ | omega) (fun hb31 => ?_) (fun hb31 => ?_)))
          · omega
          · refine e_al0 o78_34 (e_gR o78_35 L1 rfl rfl (e_gI o78_38 L2 rfl 2 rfl ?_))
            rw [hP.2.1.1]
            refine e_if_eq o78_41 59 rfl (by first | exact zg_rg _ _ _ | exact zt_rg _ | omega) (fun hb41 => ?_) (fun hb41 => ?_)
            · omega
            · refine e_al0 o78_44 (e_Vi0 o78_45 K78 K79 rfl ⟨rfl, rfl⟩ (zrcv_I L1 rfl) (by omega) rfl (hc (d - 1) v u (by omega) hP) ?_)
              rintro y w u' ⟨⟨rfl, a2, a3, a4⟩, rfl⟩
              refine e_if_ne o78_48 53 rfl (by first | exact zg_rg _ _ _ | exact zt_rg _ | omega) (fun hb48 => ?_) (fun hb48 => ?_)
              · omega
              · refine e_ico o78_51 ?_
                refine e_rI o78_52 K78 rfl rfl ?_
                exact ⟨⟨rfl, FD4_78 a2, a3, a4⟩, rfl⟩
        · intro d v u Q h x1 hd hP hh k
          obtain ⟨hT, hR, hb, hD⟩ := id hP
          have kk := tk_K hR
          have gc := g.1
          refine e_al0 o132_76 (e_gI o132_77 L79 rfl 21 rfl ?_)
          rw [hb]
          refine e_if_ne o132_80 99 rfl (by first | exact zg_rg _ _ _ | exact zt_rg _ | omega) (fun hb80 => ?_) (fun hb80 => ?_)
          · omega
          · refine e_al0 o132_83 (e_gI o132_84 L79 rfl 17 rfl (e_if_eq o132_87 99 rfl (by first | exact zg_rg _ _ _ | exact zt_rg _ | omega) (fun hb87 => ?_) (fun hb87 => ?_)))
            · omega
            · refine e_al0 o132_90 (e_il2 o132_91 (e_Vi1 o132_92 K132 K139 rfl ⟨rfl, rfl⟩ (zrcv_I L79 rfl) (by omega) rfl (hm1 (d - 1) v u h (by omega) hP hh) ?_))
              rintro y w u' ⟨⟨a1, a2, a3⟩, _, _, rfl⟩
              refine e_is2 o132_95 (e_goto o132_96 76 rfl ?_)
              skip
              refine e_al0 o132_76 (e_gI o132_77 L79 rfl 21 rfl (e_if_ne o132_80 99 rfl (zg_rg _ _ _) (fun _ => k w _ ⟨a1, a2, a3⟩) (fun z => absurd z (by omega))))
      | ok e2 D2 =>
        obtain ⟨g1, g2, g3, g4, _⟩ := g
        obtain ⟨o2, gg, hc2, hm2⟩ := ih e2 D2 (by omega) (by omega) g2 g3 g4
        refine ⟨o2, gg, ?_, ?_⟩
        · intro d v u i hd hP i0 i1 x1
          refine e_il2 o78_27 (e_sip o78_28 rfl (e_ic_ge o78_31 59 rfl (by first | exact zg_rg _ _ _ | exact zt_rg _ | omega) (by first | exact zg_rg _ _ _ | exact zt_rg _ | omega) (fun hb31 => ?_) (fun hb31 => ?_)))
          · omega
          · refine e_al0 o78_34 (e_gR o78_35 L1 rfl rfl (e_gI o78_38 L2 rfl 2 rfl ?_))
            rw [hP.2.1.1]
            refine e_if_eq o78_41 59 rfl (by first | exact zg_rg _ _ _ | exact zt_rg _ | omega) (fun hb41 => ?_) (fun hb41 => ?_)
            · omega
            · refine e_al0 o78_44 (e_Vi0 o78_45 K78 K79 rfl ⟨rfl, rfl⟩ (zrcv_I L1 rfl) (by omega) rfl (hc (d - 1) v u (by omega) hP) ?_)
              rintro y w u' ⟨⟨rfl, a2, a3, a4⟩, rfl⟩
              refine e_if_ne o78_48 53 rfl (by first | exact zg_rg _ _ _ | exact zt_rg _ | omega) (fun hb48 => ?_) (fun hb48 => ?_)
              · refine e_inc2 o78_53 (e_goto o78_56 27 rfl ?_)
                refine zEv_mono (hc2 d w u (i + 1) hd ⟨TXc_4 hP.1 a2, a3, a4⟩ (by omega) (by omega) _) ?_
                rintro _ _ ⟨y, x, t, rfl, rfl, hO, rfl⟩
                refine ⟨y, x, _, rfl, rfl, ?_, rfl⟩
                cases o2 using LO_c with
                | ok e' D' => exact ⟨hO.1, F78_t (FD4_78 a2) hO.2.1, hO.2.2⟩
                | bad c q => exact ⟨hO.1, F78_t (FD4_78 a2) hO.2.1, hO.2.2⟩
              · omega
        · intro d v u Q h x1 hd hP hh k
          obtain ⟨hT, hR, hb, hD⟩ := id hP
          have kk := tk_K hR
          refine e_al0 o132_76 (e_gI o132_77 L79 rfl 21 rfl ?_)
          rw [hb]
          refine e_if_ne o132_80 99 rfl (by first | exact zg_rg _ _ _ | exact zt_rg _ | omega) (fun hb80 => ?_) (fun hb80 => ?_)
          · omega
          · refine e_al0 o132_83 (e_gI o132_84 L79 rfl 17 rfl (e_if_eq o132_87 99 rfl (by first | exact zg_rg _ _ _ | exact zt_rg _ | omega) (fun hb87 => ?_) (fun hb87 => ?_)))
            · omega
            · refine e_al0 o132_90 (e_il2 o132_91 (e_Vi1 o132_92 K132 K139 rfl ⟨rfl, rfl⟩ (zrcv_I L79 rfl) (by omega) rfl (hm1 (d - 1) v u h (by omega) hP hh) ?_))
              rintro y w u' ⟨⟨a1, a2, a3, a4⟩, _, hy, rfl⟩
              refine e_is2 o132_95 (e_goto o132_96 76 rfl ?_)
              have hy := hy e2 D2 rfl
              subst hy
              refine hm2 d w u Q _ _ hd ⟨TXm_4 hT a1, a3, a2, a4⟩ rfl (fun x x2 hO => k x x2 ?_)
              cases o2 using LO_c with
              | ok e' D' => exact ⟨FQ4_t a1 hO.1, hO.2⟩
              | bad c q => exact ⟨FQ4_t a1 hO.1, hO.2⟩
theorem c72 {d : Nat} {v : zV} {u : zU} : zEv sc 72 d 0 [.ref 4] [] (zmk v u) 0 0 (zdo (zu (zu (zu (zu v 4 8 (zI 0)) 4 9 (zI 0)) 4 10 (zI 0)) 12 3 (zI 0)) u) := by
  refine e_al0 o72_0 (e_ico o72_1 (e_pI o72_2 L4 rfl rfl rfl rfl 8 rfl (e_al0 o72_5 (e_ico o72_6 (e_pI o72_7 L4 rfl rfl rfl rfl 9 rfl (e_al0 o72_10 (e_ico o72_11 (e_pI o72_12 L4 rfl rfl rfl rfl 10 rfl (e_al0 o72_15 (e_gR o72_16 L4 rfl rfl (e_ico o72_19 (e_pI o72_20 L12 rfl rfl rfl rfl 3 rfl ?_))))))))))))
  refine e_rV o72_23 K72 rfl rfl ?_
  exact ⟨rfl, rfl⟩
/-- both parsers give one outcome -/
theorem PARSE (n0 : 0 ≤ N) (n6 : N ≤ 600) : ∃ o, gPs N o ∧ (∀ (d : Nat) v u, 102 ≤ d → (∀ i, 0 ≤ i → i < N → zg v 3 i = B i ∧ -128 ≤ B i ∧ B i < 128) → zEv sc 78 d 0 [.ref 1, .int (zI N), zJ] [] (zmk v u) 0 0 (zPi fun y w t => pC o v w y ∧ u = t)) ∧ (∀ (d : Nat) v u Q x1 x2, 102 ≤ d → TXm B N v → zg v 79 15 = 0 → zg v 79 21 = 0 → MD Dr0 v → (∀ w x2, pM o v w → zEv sc 132 d 99 [.ref 79, x1, x2] [] (zmk w u) 0 0 Q) → zEv sc 132 d 70 [.ref 79, x1, x2] [] (zmk v u) 0 0 Q) := by
  obtain ⟨o, g, hc, hm⟩ := LINES (sc := sc) (B := B) n6 (N - 0).toNat 0 Dr0 (Nat.le_refl _) (by omega) n0 Dr0_B (by decide)
  refine ⟨o, g, ?_, ?_⟩
  · intro d v u hd hB
    have z3 : ∀ {x : zV} {a : Nat} {k : Int} {z : Int32}, ¬ a = 3 → (∀ i, 0 ≤ i → i < N → zg x 3 i = B i ∧ -128 ≤ B i ∧ B i < 128) → ∀ i, 0 ≤ i → i < N → zg (zu x a k z) 3 i = B i ∧ -128 ≤ B i ∧ B i < 128 := fun ha h i i0 i1 => by rw [zg_na (fun z => ha z.symm)]; exact h i i0 i1
    refine e_al0 o78_0 (e_ico o78_1 (e_pI o78_2 L1 rfl rfl rfl rfl 2 rfl (e_al0 o78_5 (e_ico o78_6 (e_pI o78_7 L1 rfl rfl rfl rfl 3 rfl (e_al0 o78_10 (e_gR o78_11 L1 rfl rfl (e_Vv0 o78_14 K78 K72 rfl ⟨rfl, rfl⟩ (zrcv_I L4 rfl) (by omega) rfl c72 ?_))))))))
    rintro _ _ ⟨rfl, rfl⟩
    refine e_al0 o78_17 (e_gR o78_18 L1 rfl rfl (e_il1 o78_21 (e_Vv1 o78_22 K78 K33 rfl ⟨rfl, rfl⟩ (zrcv_I L2 rfl) (by omega) rfl (c33 (B := B) (by omega) n0 n6 (z3 (by decide) (z3 (by decide) (z3 (by decide) (z3 (by decide) (z3 (by decide) (z3 (by decide) hB))))))) ?_)))
    rintro w u' ⟨⟨q1, q2, q3⟩, rfl⟩
    refine e_ico o78_25 (e_is2 o78_26 ?_)
    refine zEv_mono (hc d w u 0 (by omega) ⟨q2, q3, ⟨⟨?_, ?_, ?_⟩, fun i i0 i1 => absurd i1 (by show ¬ i < 0; omega), fun i i0 i1 => absurd i1 (by show ¬ i < 0; omega), fun i i0 i1 => absurd i1 (by show ¬ i < 0; omega), ?_, fun i hi => absurd hi (by show ¬ i < 0; omega)⟩⟩ (by omega) (by omega) _) ?_
    · simp only [zg]; rw [q1 4 8 (by omega), zu_ne (by omega), zu_ne (by omega), zu_ne (by omega), zu_same]; rfl
    · simp only [zg]; rw [q1 4 9 (by omega), zu_ne (by omega), zu_ne (by omega), zu_same]; rfl
    · simp only [zg]; rw [q1 4 10 (by omega), zu_ne (by omega), zu_same]; rfl
    · simp only [zg]; rw [q1 12 3 (by omega), zu_same]; rfl
    · rintro _ _ ⟨y, x, t, rfl, rfl, hO, rfl⟩
      have hF : F78 v w := fun a q h1 h2 h3 => by rw [q1 a q (by omega), zu_ne (by omega), zu_ne (by omega), zu_ne (by omega), zu_ne (by omega), zu_ne (by omega), zu_ne (by omega)]
      refine ⟨y, x, _, rfl, rfl, ?_, rfl⟩
      cases o using LO_c with
      | ok e' D' => exact ⟨hO.1, F78_t hF hO.2.1, hO.2.2⟩
      | bad c q => exact ⟨hO.1, F78_t hF hO.2.1, hO.2.2⟩
  · intro d v u Q x1 x2 hd hT h15 h21 hD k
    refine e_al0 o132_70 (e_Vv0 o132_71 K132 K134 rfl ⟨rfl, rfl⟩ (zrcv_I L79 rfl) (by omega) rfl (m134 (e := 0) (by omega) hT h15 (by omega) n0) ?_)
    rintro w u' ⟨⟨q1, q2⟩, rfl⟩
    refine e_ico o132_74 (e_is2 o132_75 ?_)
    refine hm d w u Q 0 x1 (by omega) ⟨TXm_4 hT (FRm_4 q1), q2, by simp only [zg]; rw [q1 79 21 (by omega)]; exact h21, MD_w (fun a q z1 z2 => q1 a q (by omega)) hD⟩ rfl (fun x x2 hO => k x x2 ?_)
    cases o using LO_c with
    | ok e' D' => exact ⟨FQ4_t (FRm_4 q1) hO.1, hO.2⟩
    | bad c q => exact ⟨FQ4_t (FRm_4 q1) hO.1, hO.2⟩
end
