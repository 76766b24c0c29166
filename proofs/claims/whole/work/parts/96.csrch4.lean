/-! best and fits of the class -/
def bR (v : zV) (y : zPL) (n p : Int) : zBA × Int := fC v y p n.toNat 0 (fun _ => 0) (none, 0)
/-- the search has ended: the streets are as they were -/
def JX (v : zV) (y : zPL) (n p : Int) (w : zV) : Prop := (∀ a q, ¬ (30 ≤ a ∧ a ≤ 32) → ¬ (66 ≤ a ∧ a ≤ 68) → ¬ (70 ≤ a ∧ a ≤ 77) → w a q = v a q) ∧ CS w y.1 y.2 ∧ JC n p (bR v y n p) w
/-- the loads are kept -/
def BX (v : zV) (y : zPL) (n p : Int) (w : zV) : Prop := (∀ a q, ¬ (30 ≤ a ∧ a ≤ 32) → ¬ (66 ≤ a ∧ a ≤ 68) → ¬ (70 ≤ a ∧ a ≤ 78) → ¬ (a = 0 ∧ q = 8) → w a q = v a q) ∧ CS w y.1 y.2 ∧ (((bR v y n p).1 = none ∧ (∀ q, w 78 q = v 78 q) ∧ w 0 8 = v 0 8) ∨ ∃ r, (bR v y n p).1 = some r ∧ zg w 0 8 = n ∧ ∀ i, 0 ≤ i → i < n → zg w 78 i = r.2.2 i)
section
variable {sc : Nat × (Nat → Int32)} {d : Nat} {v v0 w : zV} {u : zU} {y : zPL} {n p : Int}
theorem SX_VS (hV : SV v n p) (hy : VS v y) : ∀ c i, 0 ≤ i → i ≤ n → VS v (SX v y c i) := by
  intro c
  refine zup ?_ ?_
  · intro _; exact hy
  · intro i i0 ih hi
    have e := ih (by omega)
    rw [SX_succ i0]
    split
    · exact e
    · rename_i ft
      have b0 := hV.1.1
      have s1 := hV.2.2.1 i i0 (by omega)
      have s2 := hV.fr i i0 (by omega)
      have cn := cnt_rg (P := (SX v y c i).1) (p := lgF v i) (n := zg v 16 9) hV.1.2.1.1
      by_cases h0 : 0 ≤ min (wantC v (zg v 39 i) (c i)) (cnt (SX v y c i).1 (lgF v i) (zg v 16 9))
      · exact (VS_stN e hV.1.wf (by omega) (by omega) (by omega) (by omega) ft _ h0 (by omega)).1
      · rw [show stN v (zg v 39 i) (lgF v i) (zg v 40 i) (SX v y c i) (min (wantC v (zg v 39 i) (c i)) (cnt (SX v y c i).1 (lgF v i) (zg v 16 9))) = SX v y c i by
          unfold stN zfo
          rw [show (min (wantC v (zg v 39 i) (c i)) (cnt (SX v y c i).1 (lgF v i) (zg v 16 9))).toNat = 0 by omega]
          rfl]
        exact e
theorem SV_w {w : zV} (hV : SV v n p) (h : SW v w) : SV w n p := by
  unfold SV at hV ⊢
  have hB : WB w := WB_w (fun a q g1 g2 => h a q (by omega)) hV.1
  rw [h.g (a := 28) (by omega), h.g (a := 39) (by omega), h.g (a := 40) (by omega), h.g (a := 38) (by omega), h.g (a := 16) (by omega), h.g (a := 41) (by omega), h.g (a := 42) (by omega)]
  exact ⟨hB, hV.2⟩
theorem SI_0 {w1 w : zV} (hw1 : ∀ a q, ¬ a = 66 → w1 a q = v a q) (hC : CS v y.1 y.2) (hT : TP w1 n w) (hJ : JC n p (none, 0) w1) : SI v y n p 0 (fun _ => 0) (none, 0) w := by
  have hW : SW v w1 := fun a q h => hw1 a q (by omega)
  obtain ⟨t1, t2⟩ := hT
  rw [lgF_w hW, hW.g (a := 39) (by omega), hW.g (a := 40) (by omega)] at t2
  refine ⟨fun a q g1 g2 g3 => by rw [t1 a q g3, hw1 a q (by omega)], CS_w (fun a q g1 g2 => by rw [t1 a q (by omega), hw1 a q (by omega)]) (fun a q g1 g2 => by rw [t1 a q (by omega), hw1 a q (by omega)]) hC, fun j j0 j1 => ?_, fun j j0 j1 => by omega, JC_w (fun q => t1 66 q (by omega)) (fun q => t1 67 q (by omega)) hJ⟩
  have e := t2 j j0 j1
  exact ⟨e.1, e.2.1, e.2.2.1, fun _ => e.2.2.2⟩
theorem p9 {n : Int} (h0 : 0 ≤ n) (h1 : n ≤ 4) : (9 : Int) ^ n.toNat ≤ 6561 := by
  rcases (show n = 0 ∨ n = 1 ∨ n = 2 ∨ n = 3 ∨ n = 4 by omega) with e | e | e | e | e <;> subst e <;> decide
theorem c7 (hd : 10 ≤ d) (hV : SV v n p) (hC : CS v y.1 y.2) (hp : ¬ p = -1) : zEv sc 7 d 0 [.ref 66, .ref 16, .ref 28, .int (zI p)] [] (zmk v u) 0 0 (zPi fun r w t => JX v y n p w ∧ zI (zg w 66 4) = r ∧ u = t) := by
  have b0 := hV.1.1
  have b2 := hV.1.2.2.1
  obtain ⟨hn, n0, n4⟩ := hV.2.1
  have hpr : 0 ≤ p ∧ p < zg v 16 8 := by have := hV.2.2.2.2.2.2; omega
  have hw1 : ∀ a q, ¬ a = 66 → (zu (zu v 66 3 (zI p)) 66 4 (zI (-1))) a q = v a q := fun a q h => by rw [zu_ne (by omega), zu_ne (by omega)]
  have hJ : JC n p (none, 0) (zu (zu v 66 3 (zI p)) 66 4 (zI (-1))) := ⟨by rw [zg_ne (by omega), zg_same (by omega)], fun _ => Or.inl ⟨rfl, by rw [zg_same (by omega)]⟩, fun e => absurd e hp⟩
  have hl : ∀ i, 0 ≤ i → i < n → 0 ≤ zg (zu (zu v 66 3 (zI p)) 66 4 (zI (-1))) 39 i ∧ zg (zu (zu v 66 3 (zI p)) 66 4 (zI (-1))) 39 i < 5 := fun i i0 i1 => by
    rw [zg_na (by decide), zg_na (by decide)]
    have := hV.2.2.1 i i0 i1
    omega
  have h9 := p9 n0 n4
  refine e_al0 o7_0 (e_il3 o7_1 (e_pI o7_2 L66 rfl rfl rfl rfl 3 rfl (e_al0 o7_5 (e_ico o7_6 (e_pI o7_7 L66 rfl rfl rfl rfl 4 rfl (e_al0 o7_10 (e_al2 o7_11 (e_Vv1 o7_12 K7 K2 rfl ⟨rfl, rfl⟩ (zrcv_I L66 rfl) (by omega) rfl (c2 (n := n) (by omega) (by rw [zg_na (by decide), zg_na (by decide)]; exact hn) n0 n4 hl) ?_))))))))
  rintro w1 u' ⟨hT, rfl⟩
  refine e_al0 o7_15 (e_al1 o7_16 (e_al2 o7_17 (e_ico o7_18 (e_Vv3 o7_19 K7 K3 rfl ⟨rfl, rfl⟩ (zrcv_I L66 rfl) (by omega) rfl (c3 hV (SX_VS hV ⟨v, fun _ _ _ _ _ => rfl, hC⟩) n.toNat (d - 1) (by omega) 0 (fun _ => 0) (none, 0) w1 u (by omega) (by omega) ⟨by omega, by dsimp only; omega⟩ (SI_0 hw1 hC hT hJ)) ?_))))
  rintro w2 u' ⟨⟨q1, q2, q3, q4, q5⟩, _, rfl⟩
  refine e_al0 o7_22 (e_gI o7_23 L66 rfl 4 rfl ?_)
  refine e_rI o7_26 K7 rfl rfl ?_
  exact ⟨⟨q1, q2, q5⟩, rfl, rfl⟩
theorem c1 (hd : 10 ≤ d) (hV : SV v n (-1)) (hC : CS v y.1 y.2) : zEv sc 1 d 0 [.ref 66, .ref 16, .ref 28] [] (zmk v u) 0 0 (zPi fun r w t => JX v y n (-1) w ∧ zI (zg w 66 6) = r ∧ u = t) := by
  have b0 := hV.1.1
  have b2 := hV.1.2.2.1
  obtain ⟨hn, n0, n4⟩ := hV.2.1
  have hw1 : ∀ a q, ¬ a = 66 → (zu (zu v 66 3 (zI (-1))) 66 6 (zI 0)) a q = v a q := fun a q h => by rw [zu_ne (by omega), zu_ne (by omega)]
  have hJ : JC n (-1) (none, 0) (zu (zu v 66 3 (zI (-1))) 66 6 (zI 0)) := ⟨by rw [zg_ne (by omega), zg_same (by omega)], fun e => absurd rfl e, fun _ => ⟨by rw [zg_same (by omega)], Or.inl ⟨rfl, rfl⟩⟩⟩
  have hl : ∀ i, 0 ≤ i → i < n → 0 ≤ zg (zu (zu v 66 3 (zI (-1))) 66 6 (zI 0)) 39 i ∧ zg (zu (zu v 66 3 (zI (-1))) 66 6 (zI 0)) 39 i < 5 := fun i i0 i1 => by
    rw [zg_na (by decide), zg_na (by decide)]
    have := hV.2.2.1 i i0 i1
    omega
  have h9 := p9 n0 n4
  refine e_al0 o1_0 (e_ico o1_1 (e_pI o1_2 L66 rfl rfl rfl rfl 3 rfl (e_al0 o1_5 (e_ico o1_6 (e_pI o1_7 L66 rfl rfl rfl rfl 6 rfl (e_al0 o1_10 (e_al2 o1_11 (e_Vv1 o1_12 K1 K2 rfl ⟨rfl, rfl⟩ (zrcv_I L66 rfl) (by omega) rfl (c2 (n := n) (by omega) (by rw [zg_na (by decide), zg_na (by decide)]; exact hn) n0 n4 hl) ?_))))))))
  rintro w1 u' ⟨hT, rfl⟩
  refine e_al0 o1_15 (e_al1 o1_16 (e_al2 o1_17 (e_ico o1_18 (e_Vv3 o1_19 K1 K3 rfl ⟨rfl, rfl⟩ (zrcv_I L66 rfl) (by omega) rfl (c3 hV (SX_VS hV ⟨v, fun _ _ _ _ _ => rfl, hC⟩) n.toNat (d - 1) (by omega) 0 (fun _ => 0) (none, 0) w1 u (by omega) (by omega) ⟨by omega, by dsimp only; omega⟩ (SI_0 hw1 hC hT hJ)) ?_))))
  rintro w2 u' ⟨⟨q1, q2, q3, q4, q5⟩, _, rfl⟩
  refine e_al0 o1_22 (e_gI o1_23 L66 rfl 6 rfl ?_)
  refine e_rI o1_26 K1 rfl rfl ?_
  exact ⟨⟨q1, q2, q5⟩, rfl, rfl⟩
theorem c103 (hd : 1 ≤ d) : zEv sc 103 d 0 [.ref 0] [] (zmk v u) 0 0 (zdo (zu (zcp v 67 78 0 0 4) 0 8 (zI (zg (zcp v 67 78 0 0 4) 28 9))) u) := by
  refine e_al0 o103_0 (e_gR o103_1 L0 rfl rfl (e_gR o103_4 L66 rfl rfl (e_ico o103_7 (e_al0 o103_8 (e_gR o103_9 L0 rfl rfl (e_ico o103_12 (e_ico o103_13 (e_cpy o103_14 (by omega) rfl L67 L78 (by omega) (by omega) (by omega) (by omega) (by omega) (e_al0 o103_17 (e_al0 o103_18 (e_gR o103_19 L0 rfl rfl (e_gI o103_22 L28 rfl 9 rfl (e_pI o103_25 L0 rfl rfl rfl rfl 8 rfl ?_)))))))))))))
  refine e_rV o103_28 K103 rfl rfl ?_
  exact ⟨rfl, rfl⟩
theorem BX_no (h : JX v y n p w) (hb : (bR v y n p).1 = none) : BX v y n p w :=
  ⟨fun a q g1 g2 g3 _ => h.1 a q g1 g2 (by omega), h.2.1, Or.inl ⟨hb, fun q => h.1 78 q (by omega) (by omega) (by omega), h.1 0 8 (by omega) (by omega) (by omega)⟩⟩
theorem BX_yes {r : Int × Int × (Int → Int)} (h : JX v y n p w) (hn : zg v 28 9 = n) (n0 : 0 ≤ n) (n4 : n ≤ 4) (hb : (bR v y n p).1 = some r) (hr : ∀ i, 0 ≤ i → i < n → zg w 67 i = r.2.2 i) : BX v y n p (zu (zcp w 67 78 0 0 4) 0 8 (zI (zg (zcp w 67 78 0 0 4) 28 9))) := by
  have e28 : zg (zcp w 67 78 0 0 4) 28 9 = n := by
    rw [zcp_n (by decide), ← hn]
    simp only [zg]
    rw [h.1 28 9 (by omega) (by omega) (by omega)]
  have k : ∀ a q, ¬ a = 78 → ¬ (a = 0 ∧ q = 8) → zu (zcp w 67 78 0 0 4) 0 8 (zI (zg (zcp w 67 78 0 0 4) 28 9)) a q = w a q := fun a q h1 h2 => by
    rw [zu_ne h2]
    simp only [zcp]
    rw [if_neg (fun e => h1 e.1)]
  refine ⟨fun a q g1 g2 g3 g4 => ?_, CS_w (fun a q g1 g2 => k a q (by omega) (by omega)) (fun a q g1 g2 => k a q (by omega) (by omega)) h.2.1, Or.inr ⟨r, hb, ?_, fun i i0 i1 => ?_⟩⟩
  · rw [k a q (by omega) g4, h.1 a q g1 g2 (by omega)]
  · rw [zg_same (by rw [e28]; omega), e28]
  · rw [zg_na (by decide), zcp_y (by omega) (by omega), show 0 + (i - 0) = i by omega]
    exact hr i i0 i1
theorem c102 (hd : 11 ≤ d) (hV : SV v n (-1)) (hC : CS v y.1 y.2) : zEv sc 102 d 0 [.ref 0, zJ] [] (zmk v u) 0 0 (zPi fun r w t => BX v y n (-1) w ∧ zI (bR v y n (-1)).2 = r ∧ u = t) := by
  obtain ⟨hn, n0, n4⟩ := hV.2.1
  refine e_al0 o102_0 (e_gR o102_1 L0 rfl rfl (e_al0 o102_4 (e_gR o102_5 L0 rfl rfl (e_al0 o102_8 (e_gR o102_9 L0 rfl rfl (e_Vi2 o102_12 K102 K1 rfl ⟨rfl, rfl⟩ (zrcv_I L66 rfl) (by omega) rfl (c1 (by omega) hV hC) ?_))))))
  rintro _ w1 u' ⟨hJ, rfl, rfl⟩
  obtain ⟨j1, j2⟩ := hJ.2.2.2.2 rfl
  refine e_is1 o102_15 (e_il1 o102_16 (e_if_le o102_17 24 rfl (by first | exact zg_rg _ _ _ | exact zt_rg _ | omega) (fun hb17 => ?_) (fun hb17 => ?_)))
  · refine e_il1 o102_24 ?_
    refine e_rI o102_25 K102 rfl rfl ?_
    rcases j2 with ⟨y1, y2⟩ | ⟨r, y1, y2, y3⟩
    · first | (exfalso; omega) | exact ⟨BX_no hJ y1, by rw [j1], rfl⟩
    · first | (exfalso; omega) | exact ⟨BX_yes hJ hn n0 n4 y1 y3, by rw [j1], rfl⟩
  · refine e_al0 o102_20 (e_Vv0 o102_21 K102 K103 rfl ⟨rfl, rfl⟩ (zrcv_I L0 rfl) (by omega) rfl (c103 (by omega)) ?_)
    rintro _ _ ⟨rfl, rfl⟩
    refine e_il1 o102_24 ?_
    refine e_rI o102_25 K102 rfl rfl ?_
    rcases j2 with ⟨y1, y2⟩ | ⟨r, y1, y2, y3⟩
    · first | (exfalso; omega) | exact ⟨BX_no hJ y1, by rw [j1], rfl⟩
    · first | (exfalso; omega) | exact ⟨BX_yes hJ hn n0 n4 y1 y3, by rw [j1], rfl⟩
theorem c122 {p : Int} (hd : 11 ≤ d) (hp : -2147483648 ≤ p ∧ p < 2147483648) (hV : (0 ≤ p ∧ p < zg v 16 8) → SV v n p) (hB : WB v) (hC : CS v y.1 y.2) : zEv sc 122 d 0 [.ref 0, .int (zI p), zJ] [] (zmk v u) 0 0 (zPt (fun r w t => (0 ≤ p ∧ p < zg v 16 8) ∧ BX v y n p w ∧ zI ((bR v y n p).1.elim (-1) (fun r => r.1)) = r ∧ u = t) (fun e w t => (¬ (0 ≤ p ∧ p < zg v 16 8) ∧ e = 0) ∧ v = w ∧ u = t)) := by
  have b0 := hB.1
  refine e_al0 o122_0 (e_il1 o122_1 ?_)
  refine e_V (as := [_]) o122_2 K122 K109 rfl (zrcv_I L0 rfl) (by omega) rfl rfl (c109 (by omega) hp) (zaf_S (kc' := 1) (ks' := 6) rfl rfl rfl ?_ (fun e w' t he ht => by obtain ⟨h1, rfl, rfl, rfl⟩ := ht; exact zPt_thr (by decide) ⟨⟨by omega, rfl⟩, rfl, rfl⟩))
  rintro _ _ ⟨h2, rfl, rfl⟩
  refine e_al0 o122_5 (e_gR o122_6 L0 rfl rfl (e_al0 o122_9 (e_gR o122_10 L0 rfl rfl (e_al0 o122_13 (e_gR o122_14 L0 rfl rfl (e_il1 o122_17 (e_Vi3 o122_18 K122 K7 rfl ⟨rfl, rfl⟩ (zrcv_I L66 rfl) (by omega) rfl (c7 (n := n) (y := y) (by omega) (hV h2) hC (by omega)) ?_)))))))
  rintro _ w1 u' ⟨hJ, rfl, rfl⟩
  have j2 := hJ.2.2.2.1 (by omega)
  refine e_is2 o122_21 (e_il2 o122_22 (e_ico o122_23 (e_ic_eq o122_24 31 rfl (by first | exact zg_rg _ _ _ | exact zt_rg _ | omega) (by first | exact zg_rg _ _ _ | exact zt_rg _ | omega) (fun hb24 => ?_) (fun hb24 => ?_))))
  · refine e_il2 o122_31 ?_
    refine e_rT o122_32 K122 rfl rfl ?_
    obtain ⟨hn, n0, n4⟩ := (hV h2).2.1
    rcases j2 with ⟨y1, y2⟩ | ⟨r, y1, y0, y2, y3, y4⟩
    · first | (exfalso; omega) | exact ⟨h2, BX_no hJ y1, by rw [y1, y2]; rfl, rfl⟩
    · first | (exfalso; omega) | exact ⟨h2, BX_yes hJ hn n0 n4 y1 y4, by rw [y1, y2]; rfl, rfl⟩
  · refine e_al0 o122_27 (e_Vv0 o122_28 K122 K103 rfl ⟨rfl, rfl⟩ (zrcv_I L0 rfl) (by omega) rfl (c103 (by omega)) ?_)
    rintro _ _ ⟨rfl, rfl⟩
    refine e_il2 o122_31 ?_
    refine e_rT o122_32 K122 rfl rfl ?_
    obtain ⟨hn, n0, n4⟩ := (hV h2).2.1
    rcases j2 with ⟨y1, y2⟩ | ⟨r, y1, y0, y2, y3, y4⟩
    · first | (exfalso; omega) | exact ⟨h2, BX_no hJ y1, by rw [y1, y2]; rfl, rfl⟩
    · first | (exfalso; omega) | exact ⟨h2, BX_yes hJ hn n0 n4 y1 y4, by rw [y1, y2]; rfl, rfl⟩
end
