/-! trips of the class -/
theorem wsh_w {v v0 : zV} (h : ∀ c k, 16 ≤ c → c ≤ 25 → v c k = v0 c k) : wsh v = wsh v0 := by
  funext k s i
  have e19 : zg v 19 = zg v0 19 := funext fun k => by simp only [zg, h 19 _ (by omega) (by omega)]
  have e20 : zg v 20 = zg v0 20 := funext fun k => by simp only [zg, h 20 _ (by omega) (by omega)]
  have e21 : zg v 21 = zg v0 21 := funext fun k => by simp only [zg, h 21 _ (by omega) (by omega)]
  have e23 : zg v 23 = zg v0 23 := funext fun k => by simp only [zg, h 23 _ (by omega) (by omega)]
  unfold wsh
  rw [e19, e20, e21, e23]
theorem tkS_w {v v0 : zV} (h : ∀ c k, 16 ≤ c → c ≤ 25 → v c k = v0 c k) : tkS v = tkS v0 := by
  funext k f x
  simp only [tkS, wsh_w h, zg, h 16 _ (by omega) (by omega)]
theorem stp_w {v v0 : zV} (h : ∀ c k, 16 ≤ c → c ≤ 25 → v c k = v0 c k) : stp v = stp v0 := by
  funext k f t x
  simp only [stp, tkS_w h, zg, h 16 _ (by omega) (by omega)]
theorem WF_w {v v0 : zV} (h : ∀ c k, 16 ≤ c → c ≤ 25 → v c k = v0 c k) (w : WF v0) : WF v := by
  simp only [WF, zg, h 16 _ (by omega) (by omega), h 19 _ (by omega) (by omega)]
  exact w
theorem WK_w {v v0 : zV} (h : ∀ c k, 16 ≤ c → c ≤ 25 → v c k = v0 c k) (w : WK v0) : WK v := by
  simp only [WK, zg, h 16 _ (by omega) (by omega), h 20 _ (by omega) (by omega)]
  exact w
theorem CS_w {v v0 : zV} {P L : Int → Int} (h : ∀ c k, 16 ≤ c → c ≤ 25 → v c k = v0 c k) (h' : ∀ c k, 30 ≤ c → c ≤ 32 → v c k = v0 c k) (w : CS v0 P L) : CS v P L := by
  have e19 : zg v 19 = zg v0 19 := funext fun k => by simp only [zg, h 19 _ (by omega) (by omega)]
  unfold CS at w ⊢
  rw [e19]
  simp only [zg, h 16 _ (by omega) (by omega), h' 30 _ (by omega) (by omega), h' 31 _ (by omega) (by omega), h' 32 _ (by omega) (by omega)] at w ⊢
  exact w
/-- a trip has carried m stones; all else is as in v0 -/
def TR (v0 : zV) (a b : Nat) (x : zPL) (m : Int) (v : zV) : Prop :=
  (∀ c k, ¬ c = 30 → ¬ c = 31 → ¬ c = 32 → ¬ c = b → ¬ (c = a ∧ k = 3) → v c k = v0 c k) ∧ zg v a 3 = m ∧
  CS v (stN v0 (zg v0 a 0) (zg v0 a 1) (zg v0 a 2) x m).1 (stN v0 (zg v0 a 0) (zg v0 a 1) (zg v0 a 2) x m).2 ∧
  cnt (stN v0 (zg v0 a 0) (zg v0 a 1) (zg v0 a 2) x m).1 (zg v0 a 1) (zg v0 16 9) = cnt x.1 (zg v0 a 1) (zg v0 16 9) - m ∧
  ∀ j, 0 ≤ j → j < m → zg v b j = (stN v0 (zg v0 a 0) (zg v0 a 1) (zg v0 a 2) x j).2 (tkS v0 (zg v0 a 0) (zg v0 a 1) (stN v0 (zg v0 a 0) (zg v0 a 1) (zg v0 a 2) x j))
/-- the trip's cells, its ship and its ports -/
def TA (v0 : zV) (a b : Nat) : Prop := zLay[a]? = some (4, 5, [9999, 9999, 9999, 9999, b]) ∧ zLay[b]? = some (0, 8, []) ∧ (b == 9999) = false ∧ 33 ≤ a ∧ 33 ≤ b ∧ ¬ a = b ∧ WF v0 ∧ WK v0 ∧ 0 ≤ zg v0 a 0 ∧ zg v0 a 0 < 5 ∧ 0 ≤ zg v0 a 1 ∧ zg v0 a 1 < 6 ∧ 0 ≤ zg v0 a 2 ∧ zg v0 a 2 < 6 ∧ ¬ zg v0 a 1 = zg v0 a 2
section
variable {sc : Nat × (Nat → Int32)} {d : Nat} {v v0 : zV} {u : zU}
theorem CS.rows {P L : Int → Int} (h : CS v P L) (w : WF v) (wk : WK v) {p : Int} (h0 : 0 ≤ p) (h1 : p < 6) : ∀ i, 0 ≤ i → i < zg v 30 p → 0 ≤ zg v 31 (p * 40 + i) ∧ zg v 31 (p * 40 + i) < 40 ∧ 0 ≤ zg v 20 (zg v 31 (p * 40 + i)) := by
  intro i i0 i1
  obtain ⟨a, b, c, e⟩ := h.2.2.1 p h0 h1 i i0 i1
  have := w.2.1
  exact ⟨a, by omega, wk _ a b⟩
theorem c52 {a b : Nat} {x : zPL} {m w : Int} (hd : 3 ≤ d) (hA : TA v0 a b) (hR : TR v0 a b x m v) (m0 : 0 ≤ m) (m8 : m ≤ 8) (mc : m ≤ cnt x.1 (zg v0 a 1) (zg v0 16 9)) (w0 : 0 ≤ w) (w8 : w ≤ 8) : zEv sc 52 d 0 [.ref a, .ref 16, .ref 29, .int (zI w), zJ, zJ, zJ] [] (zmk v u) 0 0 (zPv fun v' u' => TR v0 a b x (max m (min w (cnt x.1 (zg v0 a 1) (zg v0 16 9)))) v' ∧ u = u') := by
  obtain ⟨hT, hB, hBn, ha, hb, hab, hF, hK, k0, k1, f0, f1, t0, t1, ft⟩ := hA
  have loop : ∀ i, 0 ≤ i → i ≤ 9 → m ≤ i → i ≤ max m (min w (cnt x.1 (zg v0 a 1) (zg v0 16 9))) → ∀ v y z, TR v0 a b x i v → zEv sc 52 d 6 [.ref a, .ref 16, .ref 29, .int (zI w), .int (zI i), y, z] [] (zmk v u) 0 0 (zPv fun v' u' => TR v0 a b x (max m (min w (cnt x.1 (zg v0 a 1) (zg v0 16 9)))) v' ∧ u = u') := by
    refine zloop ?_
    intro i i0 i9 ih mi iw v y z hR
    obtain ⟨hR1, hR2, hR3, hR4, hR5⟩ := hR
    have hwv : ∀ c k, 16 ≤ c → c ≤ 25 → v c k = v0 c k := fun c k h1 h2 => hR1 c k (by omega) (by omega) (by omega) (by omega) (by omega)
    have wF : WF v := WF_w hwv hF
    have wK : WK v := WK_w hwv hK
    have e0 : zg v a 0 = zg v0 a 0 := by simp only [zg]; rw [hR1 a 0 (by omega) (by omega) (by omega) hab (by omega)]
    have e1 : zg v a 1 = zg v0 a 1 := by simp only [zg]; rw [hR1 a 1 (by omega) (by omega) (by omega) hab (by omega)]
    have e2 : zg v a 2 = zg v0 a 2 := by simp only [zg]; rw [hR1 a 2 (by omega) (by omega) (by omega) hab (by omega)]
    have e16 : zg v 16 9 = zg v0 16 9 := by simp only [zg]; rw [hwv 16 9 (by omega) (by omega)]
    have e30 := hR3.2.1 (zg v0 a 1) f0 f1
    rw [e16, hR4] at e30
    refine e_il4 o52_6 (e_il3 o52_8 (e_ic_ge o52_9 99 rfl (by first | exact zg_rg _ _ _ | exact zt_rg _ | omega) (by first | exact zg_rg _ _ _ | exact zt_rg _ | omega) (fun hb9 => ?_) (fun hb9 => ?_)))
    · refine e_rV o52_99 K52 rfl rfl ?_
      refine ⟨?_, rfl⟩
      rw [show max m (min w (cnt x.1 (zg v0 a 1) (zg v0 16 9))) = i by omega]
      exact ⟨hR1, hR2, hR3, hR4, hR5⟩
    · refine e_il4 o52_12 (e_bip o52_14 rfl (e_ic_ge o52_16 99 rfl (by first | exact zg_rg _ _ _ | exact zt_rg _ | omega) (by first | exact zg_rg _ _ _ | exact zt_rg _ | omega) (fun hb16 => ?_) (fun hb16 => ?_)))
      · refine e_rV o52_99 K52 rfl rfl ?_
        refine ⟨?_, rfl⟩
        rw [show max m (min w (cnt x.1 (zg v0 a 1) (zg v0 16 9))) = i by omega]
        exact ⟨hR1, hR2, hR3, hR4, hR5⟩
      · refine e_al2 o52_19 (e_al1 o52_20 (e_al0 o52_21 (e_gI o52_22 hT rfl 0 rfl (e_al0 o52_25 (e_gI o52_26 hT rfl 1 rfl (e_Vi3 o52_29 K52 K22 rfl ⟨rfl, rfl⟩ (zrcv_I L29 rfl) (by omega) rfl (c22 (by omega) (by omega) (by omega) (by omega) (by omega) (hR3.len wF (by omega) (by omega)) (hR3.rows wF wK (by omega) (by omega))) ?_))))))
        rintro _ _ _ ⟨⟨r, hr, rfl⟩, rfl, rfl⟩
        rw [e0, e1] at hr
        have hrr : -1 ≤ r ∧ r < 100 := by have := hR3.len wF f0 f1; rcases hr with a | a <;> omega
        refine e_is5 o52_32 (e_il5 o52_34 (e_ico o52_36 (e_ic_ne o52_37 41 rfl (by first | exact zg_rg _ _ _ | exact zt_rg _ | omega) (by first | exact zg_rg _ _ _ | exact zt_rg _ | omega) (fun hb37 => ?_) (fun hb37 => ?_))))
        · have hr0 : 0 ≤ r ∧ r < zg v 30 (zg v0 a 1) := by rcases hr with a | a <;> omega
          obtain ⟨g0, g1, g2, g3⟩ := hR3.2.2.1 (zg v0 a 1) f0 f1 r hr0.1 hr0.2
          have gl := hR3.len wF f0 f1
          have go := wF.2.2 _ g0 g1
          have g40 := wF.2.1
          obtain ⟨s1, s2, s3, s4, s5⟩ := CS_stp (t := zg v0 a 2) hR3 wF f0 f1 t0 t1 ft hr hb37
          have sl := s3.2.1
          have lna : ∀ c k, ¬ c = 30 → ¬ c = 31 → ¬ c = 32 → zg (lifV v (zg v0 a 1) r) c k = zg v c k := fun c k h1 h2 h3 => lifV_na h1 h2 h3
          refine e_al2 o52_41 (e_al1 o52_42 (e_al0 o52_43 (e_gI o52_44 hT rfl 1 rfl ?_)))
          rw [e1]
          refine e_il5 o52_47 (e_Vi3 o52_49 K52 K17 rfl ⟨rfl, rfl⟩ (zrcv_I L29 rfl) (by omega) rfl (c17 f0 f1 hr0.1 hr0.2 gl.2 g0 (by omega) go.1 go.2) ?_)
          rintro _ _ _ ⟨rfl, rfl, rfl⟩
          refine e_is6 o52_52 (e_al2 o52_54 (e_al1 o52_55 (e_al0 o52_56 (e_gI o52_57 hT rfl 2 rfl ?_))))
          rw [lna a 2 (by omega) (by omega) (by omega), e2]
          refine e_al2 o52_60 (e_gR o52_61 L29 rfl rfl (e_al0 o52_64 (e_gI o52_65 hT rfl 2 rfl ?_)))
          rw [lna a 2 (by omega) (by omega) (by omega), e2]
          refine e_ial o52_68 L30 (by omega) (by omega) (e_il6 o52_69 (e_Vv4 o52_71 K52 K18 rfl ⟨rfl, rfl⟩ (zrcv_I L29 rfl) (by omega) rfl (c18 t0 t1 (CS.len (CS_lift hR3 wF f0 f1 hr0.1 hr0.2) s5 t0 t1).1 (Int.le_refl _) s4 g0 (by omega) (by rw [lna 19 _ (by omega) (by omega) (by omega)]; exact go.1) (by rw [lna 19 _ (by omega) (by omega) (by omega)]; exact go.2)) ?_))
          rintro _ _ ⟨rfl, rfl⟩
          obtain ⟨v2, hv2⟩ : ∃ v2, v2 = insV (lifV v (zg v0 a 1) r) (zg v0 a 2) (zg (lifV v (zg v0 a 1) r) 30 (zg v0 a 2)) (zg v 31 (zg v0 a 1 * 40 + r)) := ⟨_, rfl⟩
          rw [← hv2] at s3 ⊢
          have fr2 : ∀ c k, ¬ c = 30 → ¬ c = 31 → ¬ c = 32 → v2 c k = v c k := by
            intro c k h1 h2 h3
            have e := insV_na (v := lifV v (zg v0 a 1) r) (p := zg v0 a 2) (i := zg (lifV v (zg v0 a 1) r) 30 (zg v0 a 2)) (s := zg v 31 (zg v0 a 1 * 40 + r)) (k := k) h1 h2 h3
            rw [lna c k h1 h2 h3, ← hv2] at e
            rw [← zI_g v2, e, zI_g]
          have e3 : zg (zu v2 b i (zI r)) a 3 = i := by
            rw [zg_na hab]
            simp only [zg]
            rw [fr2 a 3 (by omega) (by omega) (by omega)]
            exact hR2
          refine e_al0 o52_74 (e_gR o52_75 hT rfl hBn (e_il4 o52_78 (e_il5 o52_80 (e_iast o52_82 hB (by omega) (by omega) (e_al0 o52_83 (e_dupR o52_84 (e_gI o52_85 hT rfl 3 rfl ?_)))))))
          rw [e3]
          refine e_ico o52_88 (e_add o52_89 (e_pI o52_90 hT rfl rfl rfl rfl 3 rfl (e_inc4 o52_93 (e_goto o52_96 6 rfl ?_))))
          have sN : stp v (zg v0 a 0) (zg v0 a 1) (zg v0 a 2) (stN v0 (zg v0 a 0) (zg v0 a 1) (zg v0 a 2) x i) = stN v0 (zg v0 a 0) (zg v0 a 1) (zg v0 a 2) x (i + 1) := by
            rw [stN_succ i0, stp_w hwv]
          refine ih (by omega) (by omega) (by omega) _ _ _ ⟨?_, ?_, ?_, ?_, ?_⟩
          · intro c k h1 h2 h3 h4 h5
            rw [zu_ne h5, zu_ne (fun e => h4 e.1), fr2 c k h1 h2 h3]
            exact hR1 c k h1 h2 h3 h4 h5
          · exact zg_same (by omega)
          · rw [sN] at s3
            refine CS_w (v0 := v2) ?_ ?_ s3
            · intro c k h1 h2
              rw [zu_ne (by omega), zu_ne (by omega)]
            · intro c k h1 h2
              rw [zu_ne (by omega), zu_ne (by omega)]
          · rw [← sN]
            show cnt (fu _ _ _) _ _ = _
            rw [s1, cnt_fu g0 (by rw [← e16]; exact g1), hR4, g2, if_pos rfl, if_neg (fun e => ft e.symm)]
            omega
          · intro j j0 j1
            rw [zg_ne (by omega)]
            rcases (show j < i ∨ j = i by omega) with e | e
            · rw [zg_ne (by omega)]
              simp only [zg]
              rw [fr2 b j (by omega) (by omega) (by omega)]
              exact hR5 j j0 e
            · subst e
              rw [zg_same (by omega), ← tkS_w hwv]
              exact s2.symm
        · refine e_rV o52_40 K52 rfl rfl ?_
          refine ⟨?_, rfl⟩
          have hz : zg v 30 (zg v0 a 1) = 0 := by rcases hr with a | a <;> omega
          rw [show max m (min w (cnt x.1 (zg v0 a 1) (zg v0 16 9))) = i by omega]
          exact ⟨hR1, hR2, hR3, hR4, hR5⟩
  refine e_al0 o52_0 (e_gI o52_1 hT rfl 3 rfl ?_)
  rw [hR.2.1]
  refine e_is4 o52_4 ?_
  exact loop m m0 (by omega) (by omega) (by omega) v _ _ hR
end
