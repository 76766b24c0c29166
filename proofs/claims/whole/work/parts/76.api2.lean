section
variable {sc : Nat × (Nat → Int32)} {d : Nat} {v v0 : zV} {u : zU}
theorem c28 {s : Int} {P L : Int → Int} (hd : 1 ≤ d) (h : CS v P L) (w : WF v) (s0 : 0 ≤ s) (s1 : s < zg v 16 9) (hs : ¬ P s = -1) : zEv sc 28 d 0 [.ref 29, .int (zI s), zJ, zJ] [] (zmk v u) 0 0 (zis (zI (L s)) v u) := by
  obtain ⟨q1, q2, q3, q4, q5, q6⟩ := h.lt w s0 s1 hs
  have w40 := w.2.1
  have outer : ∀ p, 0 ≤ p → p ≤ 6 → p ≤ P s → ∀ y, zEv sc 28 d 2 [.ref 29, .int (zI s), .int (zI p), y] [] (zmk v u) 0 0 (zis (zI (L s)) v u) := by
    refine zloop ?_
    intro p p0 p1 ih hp y
    have hl := h.len w p0 (by omega)
    have inner : ∀ i, 0 ≤ i → i ≤ zg v 30 p → (p = P s → i ≤ L s) → zEv sc 28 d 10 [.ref 29, .int (zI s), .int (zI p), .int (zI i)] [] (zmk v u) 0 0 (zis (zI (L s)) v u) := by
      refine zloop ?_
      intro i i0 i1 ih2 hi
      refine e_il3 o28_10 (e_al0 o28_11 (e_gR o28_12 L29 rfl rfl (e_il2 o28_15 (e_ial o28_16 L30 (by omega) (by omega) (e_ic_ge o28_17 38 rfl (by first | exact zg_rg _ _ _ | exact zt_rg _ | omega) (by first | exact zg_rg _ _ _ | exact zt_rg _ | omega) (fun hb17 => ?_) (fun hb17 => ?_))))))
      · refine e_inc2 o28_38 (e_goto o28_41 2 rfl ?_)
        refine ih (by omega) ?_ _
        by_cases e : p = P s
        · have := hi e
          rw [← e] at q5
          omega
        · omega
      · obtain ⟨g1, g2, g3, g4⟩ := h.2.2.1 p p0 (by omega) i i0 hb17
        refine e_al0 o28_20 (e_il2 o28_21 (e_il3 o28_22 (e_Vi2 o28_23 K28 K24 rfl ⟨rfl, rfl⟩ (zrcv_I L29 rfl) (by omega) rfl (c24 p0 (by omega) i0 (by omega)) ?_)))
        rintro _ _ _ ⟨rfl, rfl, rfl⟩
        refine e_il1 o28_26 (e_ic_ne o28_27 32 rfl (by first | exact zg_rg _ _ _ | exact zt_rg _ | omega) (by first | exact zg_rg _ _ _ | exact zt_rg _ | omega) (fun hb27 => ?_) (fun hb27 => ?_))
        · refine e_inc3 o28_32 (e_goto o28_35 10 rfl ?_)
          refine ih2 hb17 (fun e => ?_)
          have := hi e
          by_cases e2 : i = L s
          · exfalso
            rw [← e, ← e2] at q6
            exact hb27 q6
          · omega
        · refine e_il3 o28_30 ?_
          refine e_rI o28_31 K28 rfl rfl ?_
          rw [hb27] at g4
          exact ⟨by rw [g4], rfl, rfl⟩
    refine e_il2 o28_2 (e_bip o28_3 rfl (e_ic_ge o28_5 44 rfl (by first | exact zg_rg _ _ _ | exact zt_rg _ | omega) (by first | exact zg_rg _ _ _ | exact zt_rg _ | omega) (fun hb5 => ?_) (fun hb5 => ?_)))
    · omega
    · refine e_ico o28_8 (e_is3 o28_9 ?_)
      exact inner 0 (by omega) hl.1 (fun _ => q3)
  refine e_ico o28_0 (e_is2 o28_1 ?_)
  exact outer 0 (by omega) (by omega) q1 _
/-- how a stone is trodden -/
def trd (v : zV) (h s : Int) : Int := 10 - zg v 20 s + (if zg v 19 s = h then 0 else 5)
def lwF (f : Int → Int) (i : Int) : Int × Int := zfo (fun i ab => (ab.2, min ab.1 ab.2 + f i)) (0, 0) i
theorem lwF_succ {f : Int → Int} {i : Int} (h : 0 ≤ i) : lwF f (i + 1) = ((lwF f i).2, min (lwF f i).1 (lwF f i).2 + f i) := zfo_succ h
theorem lwF_rg {f : Int → Int} {n : Int} (hf : ∀ i, 0 ≤ i → i < n → 0 ≤ f i ∧ f i ≤ 15) : ∀ i, 0 ≤ i → i ≤ n → (0 ≤ (lwF f i).1 ∧ (lwF f i).1 ≤ 15 * i) ∧ 0 ≤ (lwF f i).2 ∧ (lwF f i).2 ≤ 15 * i := by
  refine zup ?_ ?_
  · intro _; unfold lwF; rw [zfo_zero]; exact ⟨⟨by decide, by decide⟩, by decide, by decide⟩
  · intro i i0 ih i1
    have := ih (by omega)
    have := hf i i0 (by omega)
    rw [lwF_succ i0]
    refine ⟨⟨?_, ?_⟩, ?_, ?_⟩ <;> dsimp only <;> omega
theorem c29 {p h : Int} (hd : 1 ≤ d) (p0 : 0 ≤ p) (p1 : p < 6) (hh : -2147483648 ≤ h ∧ h < 2147483648) (hl : 0 ≤ zg v 30 p ∧ zg v 30 p ≤ 40) (hs : ∀ i, 0 ≤ i → i < zg v 30 p → 0 ≤ zg v 31 (p * 40 + i) ∧ zg v 31 (p * 40 + i) < 40 ∧ 0 ≤ zg v 20 (zg v 31 (p * 40 + i)) ∧ zg v 20 (zg v 31 (p * 40 + i)) ≤ 9) : zEv sc 29 d 0 [.ref 29, .ref 16, .int (zI p), .int (zI h), zJ, zJ, zJ, zJ, zJ, zJ] [] (zmk v u) 0 0 (zis (zI (min (lwF (fun i => trd v h (zg v 31 (p * 40 + i))) (zg v 30 p)).1 (lwF (fun i => trd v h (zg v 31 (p * 40 + i))) (zg v 30 p)).2)) v u) := by
  have hf : ∀ i, 0 ≤ i → i < zg v 30 p → 0 ≤ (fun i => trd v h (zg v 31 (p * 40 + i))) i ∧ (fun i => trd v h (zg v 31 (p * 40 + i))) i ≤ 15 := by
    intro i i0 i1
    have := hs i i0 i1
    show 0 ≤ trd v h _ ∧ trd v h _ ≤ 15
    unfold trd
    split <;> omega
  have loop : ∀ i, 0 ≤ i → i ≤ zg v 30 p → ∀ a7 a8 a9, zEv sc 29 d 9 [.ref 29, .ref 16, .int (zI p), .int (zI h), .int (zI (lwF (fun i => trd v h (zg v 31 (p * 40 + i))) i).1), .int (zI (lwF (fun i => trd v h (zg v 31 (p * 40 + i))) i).2), .int (zI i), a7, a8, a9] [] (zmk v u) 0 0 (zis (zI (min (lwF (fun i => trd v h (zg v 31 (p * 40 + i))) (zg v 30 p)).1 (lwF (fun i => trd v h (zg v 31 (p * 40 + i))) (zg v 30 p)).2)) v u) := by
    refine zloop ?_
    intro i i0 i1 ih a7 a8 a9
    have hr := lwF_rg hf i i0 i1
    rw [lwF_succ i0] at ih
    refine e_il6 o29_9 (e_al0 o29_11 (e_gR o29_12 L29 rfl rfl (e_il2 o29_15 (e_ial o29_16 L30 (by omega) (by omega) (e_ic_ge o29_17 84 rfl (by first | exact zg_rg _ _ _ | exact zt_rg _ | omega) (by first | exact zg_rg _ _ _ | exact zt_rg _ | omega) (fun hb17 => ?_) (fun hb17 => ?_))))))
    · have e : i = zg v 30 p := by omega
      subst e
      refine e_il4 o29_84 (e_il5 o29_86 (e_min o29_88 (by omega) rfl (by first | exact zg_rg _ _ _ | exact zt_rg _ | omega) (by first | exact zg_rg _ _ _ | exact zt_rg _ | omega) ?_))
      refine e_rI o29_91 K29 rfl rfl ?_
      exact ⟨rfl, rfl, rfl⟩
    · obtain ⟨g1, g2, g3, g4⟩ := hs i i0 hb17
      refine e_al0 o29_20 (e_il2 o29_21 (e_il6 o29_22 (e_Vi2 o29_24 K29 K24 rfl ⟨rfl, rfl⟩ (zrcv_I L29 rfl) (by omega) rfl (c24 p0 p1 i0 (by omega)) ?_)))
      rintro _ _ _ ⟨rfl, rfl, rfl⟩
      refine e_is7 o29_27 (e_bip o29_29 rfl (e_al1 o29_31 (e_gR o29_32 L16 rfl rfl (e_il7 o29_35 (e_ial o29_37 L20 (by omega) (by omega) (e_sub o29_38 (e_al1 o29_39 (e_gR o29_40 L16 rfl rfl (e_il7 o29_43 (e_ial o29_45 L19 (by omega) (by omega) (e_il3 o29_46 (e_ic_ne o29_47 54 rfl (by first | exact zg_rg _ _ _ | exact zt_rg _ | omega) (by first | exact zg_rg _ _ _ | exact zt_rg _ | omega) (fun hb47 => ?_) (fun hb47 => ?_)))))))))))))
      · refine e_ico o29_54 (e_add o29_55 (e_is8 o29_56 (e_il4 o29_58 (e_il5 o29_60 (e_min o29_62 (by omega) rfl (by first | exact zg_rg _ _ _ | exact zt_rg _ | omega) (by first | exact zg_rg _ _ _ | exact zt_rg _ | omega) (e_il8 o29_65 (e_add o29_67 (e_is9 o29_68 (e_il5 o29_70 (e_is4 o29_72 (e_il9 o29_74 (e_is5 o29_76 (e_inc6 o29_78 (e_goto o29_81 9 rfl ?_))))))))))))))
        have e := ih hb17 (.int (zI (zg v 31 (p * 40 + i)))) (.int (zI (10 - zg v 20 (zg v 31 (p * 40 + i)) + 5))) (.int (zI (min (lwF (fun i => trd v h (zg v 31 (p * 40 + i))) i).1 (lwF (fun i => trd v h (zg v 31 (p * 40 + i))) i).2 + (10 - zg v 20 (zg v 31 (p * 40 + i)) + 5))))
        rw [show trd v h (zg v 31 (p * 40 + i)) = 10 - zg v 20 (zg v 31 (p * 40 + i)) + 5 by rw [trd, if_neg hb47]] at e
        exact e
      · refine e_ico o29_50 (e_goto o29_51 55 rfl (e_add o29_55 (e_is8 o29_56 (e_il4 o29_58 (e_il5 o29_60 (e_min o29_62 (by omega) rfl (by first | exact zg_rg _ _ _ | exact zt_rg _ | omega) (by first | exact zg_rg _ _ _ | exact zt_rg _ | omega) (e_il8 o29_65 (e_add o29_67 (e_is9 o29_68 (e_il5 o29_70 (e_is4 o29_72 (e_il9 o29_74 (e_is5 o29_76 (e_inc6 o29_78 (e_goto o29_81 9 rfl ?_)))))))))))))))
        have e := ih hb17 (.int (zI (zg v 31 (p * 40 + i)))) (.int (zI (10 - zg v 20 (zg v 31 (p * 40 + i)) + 0))) (.int (zI (min (lwF (fun i => trd v h (zg v 31 (p * 40 + i))) i).1 (lwF (fun i => trd v h (zg v 31 (p * 40 + i))) i).2 + (10 - zg v 20 (zg v 31 (p * 40 + i)) + 0))))
        rw [show trd v h (zg v 31 (p * 40 + i)) = 10 - zg v 20 (zg v 31 (p * 40 + i)) + 0 by rw [trd, if_pos hb47]] at e
        exact e
  refine e_ico o29_0 (e_is4 o29_1 (e_ico o29_3 (e_is5 o29_4 (e_ico o29_6 (e_is6 o29_7 ?_)))))
  exact loop 0 (by omega) hl.1 _ _ _
theorem c99 : zEv sc 99 d 0 [.ref 0] [] (zmk v u) 0 0 (zis (zI (zg v 0 7)) v u) := by
  refine e_al0 o99_0 (e_gI o99_1 L0 rfl 7 rfl ?_)
  refine e_rI o99_4 K99 rfl rfl ?_
  exact ⟨rfl, rfl, rfl⟩
theorem c101 : zEv sc 101 d 0 [.ref 0] [] (zmk v u) 0 0 (zdo (zu (zu v 28 9 (zI 0)) 28 10 (zI 0)) u) := by
  refine e_al0 o101_0 (e_gR o101_1 L0 rfl rfl (e_ico o101_4 (e_pI o101_5 L28 rfl rfl rfl rfl 9 rfl (e_al0 o101_8 (e_gR o101_9 L0 rfl rfl (e_ico o101_12 (e_pI o101_13 L28 rfl rfl rfl rfl 10 rfl ?_)))))))
  refine e_rV o101_16 K101 rfl rfl ?_
  exact ⟨rfl, rfl⟩
theorem c118 {a b : Int} (hd : 9 ≤ d) (ha : -2147483648 ≤ a ∧ a < 2147483648) (hb : -2147483648 ≤ b ∧ b < 2147483648) (hc : 0 ≤ zg v 33 0 ∧ zg v 33 0 ≤ 30) : zEv sc 118 d 0 [.ref 0, .int (zI a), .int (zI b)] [] (zmk v u) 0 0 (zqu ((0 ≤ a ∧ a < zg v 16 8) ∧ 0 ≤ b ∧ b < zg v 16 8) (zI (zsg (laidBw v a b) (zg v 33 0) - zsg (laidBw v b a) (zg v 33 0))) v u) := by
  refine e_al0 o118_0 (e_il1 o118_1 ?_)
  refine e_V (as := [_]) o118_2 K118 K109 rfl (zrcv_I L0 rfl) (by omega) rfl rfl (c109 (by omega) ha) (zaf_S (kc' := 1) (ks' := 6) rfl rfl rfl ?_ (fun e w t he ht => by obtain ⟨h1, rfl, rfl, rfl⟩ := ht; exact zPt_thr (by decide) ⟨by omega, rfl, rfl, rfl⟩))
  rintro _ _ ⟨h2, rfl, rfl⟩
  refine e_al0 o118_5 (e_il2 o118_6 ?_)
  refine e_V (as := [_]) o118_7 K118 K109 rfl (zrcv_I L0 rfl) (by omega) rfl rfl (c109 (by omega) hb) (zaf_S (kc' := 2) (ks' := 12) rfl rfl rfl ?_ (fun e w t he ht => by obtain ⟨h1, rfl, rfl, rfl⟩ := ht; exact zPt_thr (by decide) ⟨by omega, rfl, rfl, rfl⟩))
  rintro _ _ ⟨h7, rfl, rfl⟩
  refine e_al0 o118_10 (e_gR o118_11 L0 rfl rfl (e_gR o118_14 L28 rfl rfl (e_il1 o118_17 (e_il2 o118_18 (e_Vi2 o118_19 K118 K67 rfl ⟨rfl, rfl⟩ (zrcv_I L33 rfl) (by omega) rfl (c67 (by omega) ha hb hc.1 hc.2) ?_)))))
  rintro _ _ _ ⟨rfl, rfl, rfl⟩
  refine e_al0 o118_22 (e_gR o118_23 L0 rfl rfl (e_gR o118_26 L28 rfl rfl (e_il2 o118_29 (e_il1 o118_30 (e_Vi2 o118_31 K118 K67 rfl ⟨rfl, rfl⟩ (zrcv_I L33 rfl) (by omega) rfl (c67 (by omega) hb ha hc.1 hc.2) ?_)))))
  rintro _ _ _ ⟨rfl, rfl, rfl⟩
  refine e_sub o118_34 ?_
  refine e_rT o118_35 K118 rfl rfl ?_
  exact ⟨⟨h2, h7⟩, rfl, rfl, rfl⟩
theorem c119 {a b : Int} (hd : 9 ≤ d) (ha : -2147483648 ≤ a ∧ a < 2147483648) (hb : -2147483648 ≤ b ∧ b < 2147483648) (w : WF v) (hc : 0 ≤ zg v 33 0 ∧ zg v 33 0 ≤ 30) : zEv sc 119 d 0 [.ref 0, .int (zI a), .int (zI b)] [] (zmk v u) 0 0 (zPt (fun y w t => ((0 ≤ a ∧ a < zg v 16 9) ∧ 0 ≤ b ∧ b < zg v 16 9) ∧ (∃ r, zI r = y ∧ ((a = b ∧ r = -1) ∨ (¬ a = b ∧ frst (fun k => ptC v u a k = ptC v u b k) (zg v 33 0) r))) ∧ v = w ∧ u = t) (fun e w t => ¬ ((0 ≤ a ∧ a < zg v 16 9) ∧ 0 ≤ b ∧ b < zg v 16 9) ∧ e = 0 ∧ v = w ∧ u = t)) := by
  have w40 := w.2.1
  refine e_al0 o119_0 (e_il1 o119_1 ?_)
  refine e_V (as := [_]) o119_2 K119 K111 rfl (zrcv_I L0 rfl) (by omega) rfl rfl (c111 (by omega) ha) (zaf_S (kc' := 1) (ks' := 6) rfl rfl rfl ?_ (fun e w t he ht => by obtain ⟨h1, rfl, rfl, rfl⟩ := ht; exact zPt_thr (by decide) ⟨by omega, rfl, rfl, rfl⟩))
  rintro _ _ ⟨h2, rfl, rfl⟩
  refine e_al0 o119_5 (e_il2 o119_6 ?_)
  refine e_V (as := [_]) o119_7 K119 K111 rfl (zrcv_I L0 rfl) (by omega) rfl rfl (c111 (by omega) hb) (zaf_S (kc' := 2) (ks' := 12) rfl rfl rfl ?_ (fun e w t he ht => by obtain ⟨h1, rfl, rfl, rfl⟩ := ht; exact zPt_thr (by decide) ⟨by omega, rfl, rfl, rfl⟩))
  rintro _ _ ⟨h7, rfl, rfl⟩
  refine e_il1 o119_10 (e_il2 o119_11 (e_ic_ne o119_12 19 rfl (by first | exact zg_rg _ _ _ | exact zt_rg _ | omega) (by first | exact zg_rg _ _ _ | exact zt_rg _ | omega) (fun hb12 => ?_) (fun hb12 => ?_)))
  · refine e_al0 o119_19 (e_gR o119_20 L0 rfl rfl (e_gR o119_23 L28 rfl rfl (e_al0 o119_26 (e_gR o119_27 L0 rfl rfl (e_il1 o119_30 (e_il2 o119_31 (e_Vi3 o119_32 K119 K68 rfl ⟨rfl, rfl⟩ (zrcv_I L33 rfl) (by omega) rfl (c68 (by omega) hc.1 hc.2 h2.1 (by omega) h7.1 (by omega) (ptC_rg v u)) ?_)))))))
    rintro _ _ _ ⟨⟨r, hr, rfl⟩, rfl, rfl⟩
    refine e_rT o119_35 K119 rfl rfl ?_
    first | exact ⟨⟨h2, h7⟩, ⟨r, rfl, Or.inr ⟨hb12, hr⟩⟩, rfl, rfl⟩ | exact ⟨⟨h2, h7⟩, ⟨-1, rfl, Or.inl ⟨hb12, rfl⟩⟩, rfl, rfl⟩
  · refine e_ico o119_15 (e_goto o119_16 35 rfl ?_)
    refine e_rT o119_35 K119 rfl rfl ?_
    first | exact ⟨⟨h2, h7⟩, ⟨r, rfl, Or.inr ⟨hb12, hr⟩⟩, rfl, rfl⟩ | exact ⟨⟨h2, h7⟩, ⟨-1, rfl, Or.inl ⟨hb12, rfl⟩⟩, rfl, rfl⟩
theorem c120 {p h : Int} (hd : 9 ≤ d) (hp : -2147483648 ≤ p ∧ p < 2147483648) (hh : -2147483648 ≤ h ∧ h < 2147483648) (hB : WB v) {P L : Int → Int} (hC : CS v P L) : zEv sc 120 d 0 [.ref 0, .int (zI p), .int (zI h)] [] (zmk v u) 0 0 (zqu ((0 ≤ p ∧ p < zg v 16 8) ∧ 0 ≤ h ∧ h < zg v 16 8) (zI (min (lwF (fun i => trd v h (zg v 31 (p * 40 + i))) (zg v 30 p)).1 (lwF (fun i => trd v h (zg v 31 (p * 40 + i))) (zg v 30 p)).2)) v u) := by
  have b0 := hB.1
  refine e_al0 o120_0 (e_il1 o120_1 ?_)
  refine e_V (as := [_]) o120_2 K120 K109 rfl (zrcv_I L0 rfl) (by omega) rfl rfl (c109 (by omega) hp) (zaf_S (kc' := 1) (ks' := 6) rfl rfl rfl ?_ (fun e w t he ht => by obtain ⟨h1, rfl, rfl, rfl⟩ := ht; exact zPt_thr (by decide) ⟨by omega, rfl, rfl, rfl⟩))
  rintro _ _ ⟨h2, rfl, rfl⟩
  refine e_al0 o120_5 (e_il2 o120_6 ?_)
  refine e_V (as := [_]) o120_7 K120 K109 rfl (zrcv_I L0 rfl) (by omega) rfl rfl (c109 (by omega) hh) (zaf_S (kc' := 2) (ks' := 12) rfl rfl rfl ?_ (fun e w t he ht => by obtain ⟨h1, rfl, rfl, rfl⟩ := ht; exact zPt_thr (by decide) ⟨by omega, rfl, rfl, rfl⟩))
  rintro _ _ ⟨h7, rfl, rfl⟩
  refine e_al0 o120_10 (e_gR o120_11 L0 rfl rfl (e_gR o120_14 L28 rfl rfl (e_al0 o120_17 (e_gR o120_18 L0 rfl rfl (e_il1 o120_21 (e_il2 o120_22 (e_Vi3 o120_23 K120 K29 rfl ⟨rfl, rfl⟩ (zrcv_I L29 rfl) (by omega) rfl (c29 (by omega) h2.1 (by omega) hh (hC.len hB.wf h2.1 (by omega)) (fun i i0 i1 => by have e := hC.2.2.1 p h2.1 (by omega) i i0 i1; have e2 := hB.2.2.2.2.1 _ e.1 e.2.1; have e3 := hB.2.1; exact ⟨e.1, by omega, e2.2.1, e2.2.2⟩)) ?_)))))))
  rintro _ _ _ ⟨rfl, rfl, rfl⟩
  refine e_rT o120_26 K120 rfl rfl ?_
  exact ⟨⟨h2, h7⟩, rfl, rfl, rfl⟩
theorem c124 {i : Int} (hd : 9 ≤ d) (hi : -2147483648 ≤ i ∧ i < 2147483648) : zEv sc 124 d 0 [.ref 0, .int (zI i)] [] (zmk v u) 0 0 (zqu (0 ≤ i ∧ i < zg v 0 8 ∧ i < 4) (v 78 i) v u) := by
  refine e_il1 o124_0 (e_if_lt o124_1 17 rfl (by first | exact zg_rg _ _ _ | exact zt_rg _ | omega) (fun hb1 => ?_) (fun hb1 => ?_))
  · refine e_throw 0 o124_17 K124 (s := 28) rfl rfl (by omega) o124_20 (Or.inr ⟨o124_21, o124_24, o124_27⟩) ?_
    exact zPt_thr (by decide) ⟨by omega, rfl, rfl, rfl⟩
  · refine e_il1 o124_4 (e_al0 o124_5 (e_gI o124_6 L0 rfl 8 rfl (e_ic_ge o124_9 17 rfl (by first | exact zg_rg _ _ _ | exact zt_rg _ | omega) (by first | exact zg_rg _ _ _ | exact zt_rg _ | omega) (fun hb9 => ?_) (fun hb9 => ?_))))
    · refine e_throw 0 o124_17 K124 (s := 28) rfl rfl (by omega) o124_20 (Or.inr ⟨o124_21, o124_24, o124_27⟩) ?_
      exact zPt_thr (by decide) ⟨by omega, rfl, rfl, rfl⟩
    · refine e_il1 o124_12 (e_ico o124_13 (e_ic_lt o124_14 28 rfl (by first | exact zg_rg _ _ _ | exact zt_rg _ | omega) (by first | exact zg_rg _ _ _ | exact zt_rg _ | omega) (fun hb14 => ?_) (fun hb14 => ?_)))
      · refine e_al0 o124_28 (e_gR o124_29 L0 rfl rfl (e_il1 o124_32 (e_ial o124_33 L78 (by omega) (by omega) ?_)))
        refine e_rT o124_34 K124 rfl rfl ?_
        exact ⟨⟨by omega, by omega, by omega⟩, by rw [zI_g], rfl, rfl⟩
      · refine e_throw 0 o124_17 K124 (s := 28) rfl rfl (by omega) o124_20 (Or.inr ⟨o124_21, o124_24, o124_27⟩) ?_
        exact zPt_thr (by decide) ⟨by omega, rfl, rfl, rfl⟩
end
