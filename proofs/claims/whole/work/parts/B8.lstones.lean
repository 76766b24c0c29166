/-! the line of stones -/
def DrS (D : Dr) (p m s : Int) : Dr := (D.np, D.ns + m, D.nk, D.need, D.weight, fun i => if D.ns ≤ i ∧ i < D.ns + m then p else D.origin i, fun i => if D.ns ≤ i ∧ i < D.ns + m then s else D.square i, D.kind, D.hold, D.home, D.L)
theorem DrS_B {D : Dr} {p m s : Int} (h : DB D) (m0 : 0 ≤ m) (m1 : D.ns + m ≤ 40) (p0 : 0 ≤ p) (p1 : p < D.np) (s0 : 0 ≤ s) (s1 : s ≤ 9) : DB (DrS D p m s) := by
  obtain ⟨a1, a2, a3, a4, a5, a6, a7⟩ := h
  refine ⟨a1, ⟨by show 0 ≤ D.ns + m; omega, m1⟩, a3, a4, fun i i0 i1 => ?_, a6, a7⟩
  show (0 ≤ (if D.ns ≤ i ∧ i < D.ns + m then p else D.origin i) ∧ (if D.ns ≤ i ∧ i < D.ns + m then p else D.origin i) < D.np) ∧ 0 ≤ (if D.ns ≤ i ∧ i < D.ns + m then s else D.square i) ∧ (if D.ns ≤ i ∧ i < D.ns + m then s else D.square i) ≤ 9
  have i1 : i < D.ns + m := i1
  by_cases e : D.ns ≤ i ∧ i < D.ns + m
  · rw [if_pos e, if_pos e]; omega
  · rw [if_neg e, if_neg e]; exact a5 i i0 (by omega)
section
variable {sc : Nat × (Nat → Int32)} {B : Int → Int} {N : Int} {D : Dr}
theorem CD_stone {v : zV} {p k s : Int} (k0 : 0 ≤ k) (n0 : 0 ≤ D.ns) (k1 : D.ns + k < 40) (hD : CD (DrS D p k s) v) (pr : -2147483648 ≤ p ∧ p < 2147483648) (sr : -2147483648 ≤ s ∧ s < 2147483648) : CD (DrS D p (k + 1) s) (zu (zu (zu v 7 (D.ns + k) (zI p)) 8 (D.ns + k) (zI s)) 4 9 (zI (D.ns + k + 1))) := by
  refine ⟨⟨?_, ?_, ?_⟩, fun i i0 i1 => ?_, fun i i0 i1 => ?_, fun i i0 i1 => ?_, ?_, fun i hi => ?_⟩
  · rw [zg_ne (by omega), zg_na (by decide), zg_na (by decide)]; exact hD.1.1
  · rw [zg_same (by omega)]; show D.ns + k + 1 = D.ns + (k + 1); omega
  · rw [zg_ne (by omega), zg_na (by decide), zg_na (by decide)]; exact hD.1.2.2
  · have z := hD.2.1 i i0 i1
    exact ⟨by rw [zg_na (by decide), zg_na (by decide), zg_na (by decide)]; exact z.1, by rw [zg_na (by decide), zg_na (by decide), zg_na (by decide)]; exact z.2⟩
  · have i1 : i < D.ns + (k + 1) := i1
    show zg _ 7 i = (if D.ns ≤ i ∧ i < D.ns + (k + 1) then p else D.origin i) ∧ zg _ 8 i = (if D.ns ≤ i ∧ i < D.ns + (k + 1) then s else D.square i)
    by_cases e : i = D.ns + k
    · rw [if_pos (by omega), if_pos (by omega), e]
      exact ⟨by rw [zg_na (by decide), zg_na (by decide), zg_same pr], by rw [zg_na (by decide), zg_same sr]⟩
    · have z := hD.2.2.1 i i0 (by show i < D.ns + k; omega)
      have z1 : zg v 7 i = (if D.ns ≤ i ∧ i < D.ns + k then p else D.origin i) := z.1
      have z2 : zg v 8 i = (if D.ns ≤ i ∧ i < D.ns + k then s else D.square i) := z.2
      by_cases e2 : D.ns ≤ i ∧ i < D.ns + k
      · rw [if_pos e2] at z1 z2
        rw [if_pos (by omega), if_pos (by omega)]
        exact ⟨by rw [zg_na (by decide), zg_na (by decide), zg_ne (by omega)]; exact z1, by rw [zg_na (by decide), zg_ne (by omega), zg_na (by decide)]; exact z2⟩
      · rw [if_neg e2] at z1 z2
        rw [if_neg (by omega), if_neg (by omega)]
        exact ⟨by rw [zg_na (by decide), zg_na (by decide), zg_ne (by omega)]; exact z1, by rw [zg_na (by decide), zg_ne (by omega), zg_na (by decide)]; exact z2⟩
  · have z := hD.2.2.2.1 i i0 i1
    exact ⟨by rw [zg_na (by decide), zg_na (by decide), zg_na (by decide)]; exact z.1, by rw [zg_na (by decide), zg_na (by decide), zg_na (by decide)]; exact z.2.1, by rw [zg_na (by decide), zg_na (by decide), zg_na (by decide)]; exact z.2.2⟩
  · rw [zg_na (by decide), zg_na (by decide), zg_na (by decide)]; exact hD.2.2.2.2.1
  · rw [zg_na (by decide), zg_na (by decide), zg_na (by decide)]; exact hD.2.2.2.2.2 i hi
theorem MD_stone {v : zV} {p k s : Int} (k0 : 0 ≤ k) (n0 : 0 ≤ D.ns) (k1 : D.ns + k < 40) (hD : MD (DrS D p k s) v) (pr : -2147483648 ≤ p ∧ p < 2147483648) (sr : -2147483648 ≤ s ∧ s < 2147483648) : MD (DrS D p (k + 1) s) (zu (zu (zu v 85 (40 + (D.ns + k)) (zI p)) 86 (40 + (D.ns + k)) (zI s)) 82 5 (zI (D.ns + k + 1))) := by
  refine ⟨⟨?_, ?_, ?_⟩, fun i i0 i1 => ?_, fun i i0 i1 => ?_, fun i i0 i1 => ?_, ?_, fun i hi => ?_⟩
  · rw [zg_ne (by omega), zg_na (by decide), zg_na (by decide)]; exact hD.1.1
  · rw [zg_same (by omega)]; show D.ns + k + 1 = D.ns + (k + 1); omega
  · rw [zg_ne (by omega), zg_na (by decide), zg_na (by decide)]; exact hD.1.2.2
  · have z := hD.2.1 i i0 i1
    exact ⟨by rw [zg_na (by decide), zg_na (by decide), zg_na (by decide)]; exact z.1, by rw [zg_na (by decide), zg_na (by decide), zg_na (by decide)]; exact z.2⟩
  · have i1 : i < D.ns + (k + 1) := i1
    show zg _ 85 (40 + i) = (if D.ns ≤ i ∧ i < D.ns + (k + 1) then p else D.origin i) ∧ zg _ 86 (40 + i) = (if D.ns ≤ i ∧ i < D.ns + (k + 1) then s else D.square i)
    by_cases e : i = D.ns + k
    · rw [if_pos (by omega), if_pos (by omega), e]
      exact ⟨by rw [zg_na (by decide), zg_na (by decide), zg_same pr], by rw [zg_na (by decide), zg_same sr]⟩
    · have z := hD.2.2.1 i i0 (by show i < D.ns + k; omega)
      have z1 : zg v 85 (40 + i) = (if D.ns ≤ i ∧ i < D.ns + k then p else D.origin i) := z.1
      have z2 : zg v 86 (40 + i) = (if D.ns ≤ i ∧ i < D.ns + k then s else D.square i) := z.2
      by_cases e2 : D.ns ≤ i ∧ i < D.ns + k
      · rw [if_pos e2] at z1 z2
        rw [if_pos (by omega), if_pos (by omega)]
        exact ⟨by rw [zg_na (by decide), zg_na (by decide), zg_ne (by omega)]; exact z1, by rw [zg_na (by decide), zg_ne (by omega), zg_na (by decide)]; exact z2⟩
      · rw [if_neg e2] at z1 z2
        rw [if_neg (by omega), if_neg (by omega)]
        exact ⟨by rw [zg_na (by decide), zg_na (by decide), zg_ne (by omega)]; exact z1, by rw [zg_na (by decide), zg_ne (by omega), zg_na (by decide)]; exact z2⟩
  · have z := hD.2.2.2.1 i i0 i1
    exact ⟨by rw [zg_na (by decide), zg_na (by decide), zg_na (by decide)]; exact z.1, by rw [zg_na (by decide), zg_na (by decide), zg_na (by decide)]; exact z.2.1, by rw [zg_na (by decide), zg_na (by decide), zg_na (by decide)]; exact z.2.2⟩
  · rw [zg_ne (by omega), zg_na (by decide), zg_na (by decide)]; exact hD.2.2.2.2.1
  · rw [zg_na (by decide), zg_na (by decide), zg_na (by decide)]; exact hD.2.2.2.2.2 i hi
theorem c74 {d : Nat} {v : zV} {u : zU} {p m s : Int} (hB : DB D) (m0 : 0 ≤ m) (m1 : D.ns + m ≤ 40) (hD : CD (DrS D p 0 s) v) (pr : -2147483648 ≤ p ∧ p < 2147483648) (sr : -2147483648 ≤ s ∧ s < 2147483648) : zEv sc 74 d 0 [.ref 4, .int (zI p), .int (zI m), .int (zI s), zJ] [] (zmk v u) 0 0 (zPv fun x t => (CD (DrS D p m s) x ∧ ∀ a q, ¬ (4 ≤ a ∧ a ≤ 13) → x a q = v a q) ∧ u = t) := by
  have b0 := hB.2.1
  have loop : ∀ k, 0 ≤ k → k ≤ m → ∀ w, CD (DrS D p k s) w → (∀ a q, ¬ (4 ≤ a ∧ a ≤ 13) → w a q = v a q) → zEv sc 74 d 3 [.ref 4, .int (zI p), .int (zI m), .int (zI s), .int (zI k)] [] (zmk w u) 0 0 (zPv fun x t => (CD (DrS D p m s) x ∧ ∀ a q, ¬ (4 ≤ a ∧ a ≤ 13) → x a q = v a q) ∧ u = t) := by
    refine zloop ?_
    intro k k0 k1 ih w hw hF
    have hn : zg w 4 9 = D.ns + k := hw.1.2.1
    by_cases hk : k < m
    · skip
      refine e_il4 o74_3 (e_il2 o74_5 (e_ic_ge o74_6 54 rfl (by first | exact zg_rg _ _ _ | exact zt_rg _ | omega) (by first | exact zg_rg _ _ _ | exact zt_rg _ | omega) (fun hb6 => ?_) (fun hb6 => ?_)))
      · omega
      · refine e_al0 o74_9 (e_gI o74_10 L4 rfl 9 rfl (e_bip o74_13 rfl ?_))
        rw [hn]
        refine e_ic_ge o74_15 54 rfl (by first | exact zg_rg _ _ _ | exact zt_rg _ | omega) (by first | exact zg_rg _ _ _ | exact zt_rg _ | omega) (fun hb15 => ?_) (fun hb15 => ?_)
        · omega
        · refine e_al0 o74_18 (e_gR o74_19 L4 rfl rfl (e_al0 o74_22 (e_gI o74_23 L4 rfl 9 rfl ?_)))
          rw [hn]
          refine e_il1 o74_26 (e_iast o74_27 L7 (by omega) (by omega) (e_al0 o74_28 (e_gR o74_29 L4 rfl rfl (e_al0 o74_32 (e_gI o74_33 L4 rfl 9 rfl ?_)))))
          rw [zg_na (by decide), hn]
          refine e_il3 o74_36 (e_iast o74_37 L8 (by omega) (by omega) (e_al0 o74_38 (e_dupR o74_39 (e_gI o74_40 L4 rfl 9 rfl (e_ico o74_43 ?_)))))
          rw [zg_na (by decide), zg_na (by decide), hn]
          refine e_add o74_44 (e_pI o74_45 L4 rfl rfl rfl rfl 9 rfl (e_inc4 o74_48 (e_goto o74_51 3 rfl ?_)))
          exact ih hk _ (CD_stone k0 b0.1 (by omega) hw pr sr) (fun a q h => by rw [zu_ne (by omega), zu_ne (by omega), zu_ne (by omega), hF a q h])
    · have ek : k = m := by omega
      subst ek
      refine e_il4 o74_3 (e_il2 o74_5 (e_ic_ge o74_6 54 rfl (by first | exact zg_rg _ _ _ | exact zt_rg _ | omega) (by first | exact zg_rg _ _ _ | exact zt_rg _ | omega) (fun hb6 => ?_) (fun hb6 => ?_)))
      · refine e_rV o74_54 K74 rfl rfl ?_
        exact ⟨⟨hw, hF⟩, rfl⟩
      · omega
  refine e_ico o74_0 (e_is4 o74_1 ?_)
  exact loop 0 (by omega) m0 v hD (fun _ _ _ => rfl)
theorem CD_S0 {v : zV} {p s : Int} (hD : CD D v) : CD (DrS D p 0 s) v := by
  refine ⟨⟨hD.1.1, by show _ = D.ns + 0; rw [Int.add_zero]; exact hD.1.2.1, hD.1.2.2⟩, hD.2.1, fun i i0 i1 => ?_, hD.2.2.2⟩
  have i1 : i < D.ns + 0 := i1
  have z := hD.2.2.1 i i0 (by omega)
  show zg v 7 i = (if D.ns ≤ i ∧ i < D.ns + 0 then p else D.origin i) ∧ zg v 8 i = (if D.ns ≤ i ∧ i < D.ns + 0 then s else D.square i)
  rw [if_neg (by omega), if_neg (by omega)]
  exact z
theorem MD_S0 {v : zV} {p s : Int} (hD : MD D v) : MD (DrS D p 0 s) v := by
  refine ⟨⟨hD.1.1, by show _ = D.ns + 0; rw [Int.add_zero]; exact hD.1.2.1, hD.1.2.2⟩, hD.2.1, fun i i0 i1 => ?_, hD.2.2.2⟩
  have i1 : i < D.ns + 0 := i1
  have z := hD.2.2.1 i i0 (by omega)
  show zg v 85 (40 + i) = (if D.ns ≤ i ∧ i < D.ns + 0 then p else D.origin i) ∧ zg v 86 (40 + i) = (if D.ns ≤ i ∧ i < D.ns + 0 then s else D.square i)
  rw [if_neg (by omega), if_neg (by omega)]
  exact z
theorem pF_0 {e : Int} (e1 : e ≤ N) (h : pF B N e D.np = 0) : tk B N e = 2 ∧ 0 ≤ tn B N e ∧ tn B N e < D.np := by
  unfold pF at h
  by_cases h3 : tk B N e = 2
  · have := tn_bd e1 h3
    rw [if_pos h3] at h
    by_cases h4 : tn B N e = -1
    · rw [if_pos h4] at h; omega
    · rw [if_neg h4] at h
      by_cases h5 : D.np ≤ tn B N e
      · rw [if_pos h5] at h; omega
      · omega
  · rw [if_neg h3] at h; omega
theorem nF_0 {e a b : Int} (h : nF B N e a b = 0) : tk B N e = 2 ∧ ¬ tn B N e = -1 ∧ a ≤ tn B N e ∧ tn B N e ≤ b := by
  unfold nF at h
  by_cases h3 : tk B N e = 2
  · rw [if_pos h3] at h
    split at h
    · omega
    · omega
  · rw [if_neg h3] at h; omega
theorem LNstones {e : Int} (hB : DB D) (n6 : N ≤ 600) (e0 : 0 ≤ e) (e1 : e ≤ N) (hk : ¬ tk B N e = 0) (hl : (D.L.length : Int) ≤ e) : ∃ o, gLn N e (fun L => L = D.L) o ∧ (∀ (d : Nat) v u, 20 ≤ d → CL B N D v e → zEv sc 83 d 0 [.ref 1, zJ, zJ] [] (zmk v u) 0 0 (zPi fun y w t => kOut B N o v w y ∧ u = t)) ∧ (∀ (d : Nat) v u, 20 ≤ d → ML B N D v (te B N e) → zEv sc 149 d 0 [.ref 79, zJ, zJ, zJ, zJ] [] (zmk v u) 0 0 (zPv fun w t => rOut B N o v w ∧ u = t)) := by
  have h1 := ts_in (B := B) e1
  have h2 := te_in (B := B) e1
  have h3 := h2.2.2.1 hk
  have b0 := hB.1
  have b1 := hB.2.1
  obtain ⟨E1, hE1⟩ : ∃ x, x = te B N e := ⟨_, rfl⟩
  rw [← hE1] at h2 h3
  have e1' : E1 ≤ N := by omega
  have k1 := ts_in (B := B) e1'
  have k2 := te_in (B := B) e1'
  have pr := pF_rg (B := B) (N := N) (e := E1) (np := D.np)
  have f21 : ∀ {v w1 : zV}, FRm v w1 → zg v 79 21 = 0 → zg w1 79 21 = 0 := fun h h' => by simp only [zg]; rw [h 79 21 (by omega)]; exact h'
  have f82 : ∀ {v w1 : zV} q, FRm v w1 → zg w1 82 q = zg v 82 q := fun q h => by simp only [zg]; rw [h 82 q (by omega)]
  rw [← hE1]
  -- the reference, dead
  have mdead : ∀ (d : Nat) v u x1 x3 x4, 20 ≤ d → ¬ zg v 79 21 = 0 → zEv sc 149 d 38 [.ref 79, x1, .int (zI 0), x3, x4] [] (zmk v u) 0 0 (zdo v u) := by
    intro d v u x1 x3 x4 hd hb
    refine e_al0 o149_38 (e_gI o149_39 L79 rfl 21 rfl (e_if_ne o149_42 49 rfl (by first | exact zg_rg _ _ _ | exact zt_rg _ | omega) (fun hb42 => ?_) (fun hb42 => ?_)))
    · refine e_al0 o149_49 (e_ico o149_50 (e_bip o149_51 rfl (e_Vi2 o149_53 K149 K144 rfl ⟨rfl, rfl⟩ (zrcv_I L79 rfl) (by omega) rfl (m144_d (by omega) hb) ?_)))
      rintro _ _ _ ⟨rfl, rfl, rfl⟩
      refine e_is3 o149_56 (e_ico o149_57 (e_is4 o149_58 (e_il4 o149_60 (e_il2 o149_62 (e_ic_ge o149_63 119 rfl (by first | exact zg_rg _ _ _ | exact zt_rg _ | omega) (by first | exact zg_rg _ _ _ | exact zt_rg _ | omega) (fun hb63 => ?_) (fun hb63 => ?_))))))
      · refine e_rV o149_119 K149 rfl rfl ?_
        exact ⟨rfl, rfl⟩
      · omega
    · exact absurd hb42 hb
  have mdead0 : ∀ (d : Nat) v u x1, 20 ≤ d → ¬ zg v 79 21 = 0 → zEv sc 149 d 4 [.ref 79, zJ, zJ, zJ, zJ] [.int (zI x1)] (zmk v u) 0 0 (zdo v u) := by
    intro d v u x1 hd hb
    refine e_is1 o149_4 (e_al0 o149_5 (e_ico o149_6 (e_bip o149_7 rfl (e_Vi2 o149_9 K149 K145 rfl ⟨rfl, rfl⟩ (zrcv_I L79 rfl) (by omega) rfl (m145_d hb) ?_))))
    rintro _ _ _ ⟨rfl, rfl, rfl⟩
    refine e_is2 o149_12 (e_al0 o149_13 (e_gI o149_14 L79 rfl 21 rfl (e_if_ne o149_17 38 rfl (by first | exact zg_rg _ _ _ | exact zt_rg _ | omega) (fun hb17 => ?_) (fun hb17 => ?_))))
    · exact mdead d v u _ _ _ hd hb
    · exact absurd hb17 hb
  by_cases hp : pF B N E1 D.np = 0
  · obtain ⟨q1, q2, q3⟩ := pF_0 e1' hp
    have k3 := k2.2.2.1 (by omega)
    have hb1 := tn_bd e1' q1
    obtain ⟨E2, hE2⟩ : ∃ x, x = te B N E1 := ⟨_, rfl⟩
    rw [← hE2] at k2 k3
    have e2' : E2 ≤ N := by omega
    have j1 := ts_in (B := B) e2'
    have j2 := te_in (B := B) e2'
    have nr := nF_rg (B := B) (N := N) (e := E2) (a := 1) (b := min 20 (40 - D.ns))
    -- the class up to its second number
    have cgo : ∀ (d : Nat) v u Q, 20 ≤ d → CL B N D v e → (∀ w, CS4 v w → CT B N w E2 → zEv sc 83 d 21 [.ref 1, .int (zI (tn B N E1)), zJ] [] (zmk w u) 0 0 Q) → zEv sc 83 d 0 [.ref 1, zJ, zJ] [] (zmk v u) 0 0 Q := by
      intro d v u Q hd hP k
      obtain ⟨hT, hC, hD⟩ := hP
      refine e_al0 o83_0 (e_gR o83_1 L1 rfl rfl (e_Vv0 o83_4 K83 K34 rfl ⟨rfl, rfl⟩ (zrcv_I L2 rfl) (by omega) rfl (c34 (e := E1) (by omega) hT (by rw [hE1]; exact hC.2.2.1) (by omega) (by omega)) ?_))
      rintro w1 u' ⟨⟨r1, r2⟩, rfl⟩
      refine e_al0 o83_7 (e_Vi0 o83_8 K83 K84 rfl ⟨rfl, rfl⟩ (zrcv_I L1 rfl) (by omega) rfl (c84 (D := D) (by omega) (TXc_4 hT (FC_4 r1)) r2 (by omega) (by omega) (by simp only [zg]; rw [r1 4 8 (by omega)]; exact hD.1.1) b0) ?_)
      rintro _ w u' ⟨⟨_, rfl, o3, o4, o5⟩ | ⟨o1, _⟩, rfl⟩
      rotate_left
      exact absurd hp o1
      refine e_if_ne o83_11 16 rfl (by first | exact zg_rg _ _ _ | exact zt_rg _ | omega) (fun hb11 => ?_) (fun hb11 => ?_)
      · refine e_al0 o83_16 (e_gI o83_17 L1 rfl 4 rfl ?_)
        rw [o5]
        refine e_is1 o83_20 ?_
        exact k w (CS4_t (FC_CS4 r1) o3) (by rw [hE2]; exact o4)
      · omega
    have mgo : ∀ (d : Nat) v u Q, 20 ≤ d → ML B N D v E1 → (∀ w, FRm v w → RT B N w E2 → zEv sc 149 d 5 [.ref 79, .int (zI (tn B N E1)), zJ, zJ, zJ] [] (zmk w u) 0 0 Q) → zEv sc 149 d 0 [.ref 79, zJ, zJ, zJ, zJ] [] (zmk v u) 0 0 Q := by
      intro d v u Q hd hP k
      obtain ⟨hT, hR, hb, hD⟩ := hP
      refine e_al0 o149_0 (e_Vi0 o149_1 K149 K146 rfl ⟨rfl, rfl⟩ (zrcv_I L79 rfl) (by omega) rfl (m146 (D := D) (by omega) hb hT hR (by omega) (by omega) hD.1.1 b0) ?_)
      rintro _ w u' ⟨⟨_, rfl, o3, o4⟩ | ⟨o1, _⟩, rfl⟩
      rotate_left
      exact absurd hp o1
      refine e_is1 o149_4 ?_
      exact k w o3 (by rw [hE2]; exact o4)
    have hf145 : ∀ (d : Nat) v u, 4 ≤ d → zg v 79 21 = 0 → TXm B N v → RT B N v E2 → zEv sc 145 d 0 [.ref 79, .int (zI 1), .int (zI 20)] [] (zmk v u) 0 0 (zPi fun y w t => ((nF B N E2 1 20 = 0 ∧ zI (tn B N E2) = y ∧ v = w) ∨ (¬ nF B N E2 1 20 = 0 ∧ zI 0 = y ∧ zu (zu v 79 21 (zI (nF B N E2 1 20))) 79 22 (zI (ts B N E2)) = w)) ∧ u = t) := fun d v u hd hb hT hR => m145 (by omega) hb hT hR (by omega) e2' (by omega) (by omega)
    have c82b : ∀ (d : Nat) v u, 4 ≤ d → TXc B N v → CT B N v E2 → zEv sc 82 d 0 [.ref 1, .int (zI 1), .int (zI (min 20 (40 - D.ns)))] [] (zmk v u) 0 0 (zPi fun y w t => ((nF B N E2 1 (min 20 (40 - D.ns)) = 0 ∧ zI 1 = y ∧ (∀ a q, ¬ (a = 1 ∧ q = 4) → ¬ (a = 2 ∧ 2 ≤ q ∧ q ≤ 5) → w a q = v a q) ∧ CT B N w (te B N E2) ∧ zg w 1 4 = tn B N E2) ∨ (¬ nF B N E2 1 (min 20 (40 - D.ns)) = 0 ∧ zI 0 = y ∧ zu (zu v 1 2 (zI (nF B N E2 1 (min 20 (40 - D.ns))))) 1 3 (zI (ts B N E2)) = w)) ∧ u = t) := fun d v u hd hT hC => c82 (by omega) hT hC (by omega) e2' (by omega) (by omega)
    by_cases hf : nF B N E2 1 (min 20 (40 - D.ns)) = 0
    · obtain ⟨x1, x2, x3, x4⟩ := nF_0 hf
      have j3 := j2.2.2.1 (by omega)
      have hf20 : nF B N E2 1 20 = 0 := by unfold nF; rw [if_pos x1, if_neg (by omega)]
      obtain ⟨E3, hE3⟩ : ∃ x, x = te B N E2 := ⟨_, rfl⟩
      rw [← hE3] at j2 j3
      have e3' : E3 ≤ N := by omega
      have i1 := ts_in (B := B) e3'
      have i2 := te_in (B := B) e3'
      have nr2 := nF_rg (B := B) (N := N) (e := E3) (a := 0) (b := 9)
      have cgo2 : ∀ (d : Nat) v u Q, 20 ≤ d → CL B N D v e → (∀ w, CS4 v w → CT B N w E3 → zEv sc 83 d 51 [.ref 1, .int (zI (tn B N E1)), .int (zI (tn B N E2))] [] (zmk w u) 0 0 Q) → zEv sc 83 d 0 [.ref 1, zJ, zJ] [] (zmk v u) 0 0 Q := by
        intro d v u Q hd hP k
        refine cgo d v u Q hd hP (fun w hS hC => ?_)
        have hn : zg w 4 9 = D.ns := by simp only [zg]; rw [hS 4 9 (by omega) (by omega)]; exact hP.2.2.1.2.1
        refine e_al0 o83_21 (e_ico o83_22 (e_bip o83_23 rfl (e_bip o83_25 rfl (e_al0 o83_27 (e_gR o83_28 L1 rfl rfl (e_gI o83_31 L4 rfl 9 rfl ?_))))))
        rw [hn]
        refine e_sub o83_34 (e_min o83_35 (by omega) rfl (by first | exact zg_rg _ _ _ | exact zt_rg _ | omega) (by first | exact zg_rg _ _ _ | exact zt_rg _ | omega) (e_Vi2 o83_38 K83 K82 rfl ⟨rfl, rfl⟩ (zrcv_I L1 rfl) (by omega) rfl (c82b (d - 1) w u (by omega) (TXc_4 hP.1 (CS4_4 hS)) hC) ?_))
        rintro _ w2 u' ⟨⟨_, rfl, o3, o4, o5⟩ | ⟨o1, _⟩, rfl⟩
        rotate_left
        exact absurd hf o1
        refine e_if_ne o83_41 46 rfl (by first | exact zg_rg _ _ _ | exact zt_rg _ | omega) (fun hb41 => ?_) (fun hb41 => ?_)
        · refine e_al0 o83_46 (e_gI o83_47 L1 rfl 4 rfl ?_)
          rw [o5]
          refine e_is2 o83_50 ?_
          exact k w2 (CS4_t hS o3) (by rw [hE3]; exact o4)
        · omega
      have mgo2 : ∀ (d : Nat) v u Q, 20 ≤ d → ML B N D v E1 → (∀ w, FRm v w → RT B N w E3 → zEv sc 149 d 49 [.ref 79, .int (zI (tn B N E1)), .int (zI (tn B N E2)), zJ, zJ] [] (zmk w u) 0 0 Q) → zEv sc 149 d 0 [.ref 79, zJ, zJ, zJ, zJ] [] (zmk v u) 0 0 Q := by
        intro d v u Q hd hP k
        refine mgo d v u Q hd hP (fun w f1 hR => ?_)
        obtain ⟨hT, hR0, hb, hD⟩ := hP
        have hb' := f21 f1 hb
        have hT' := TXm_4 hT (FRm_4 f1)
        refine e_al0 o149_5 (e_ico o149_6 (e_bip o149_7 rfl (e_Vi2 o149_9 K149 K145 rfl ⟨rfl, rfl⟩ (zrcv_I L79 rfl) (by omega) rfl (hf145 (d - 1) w u (by omega) hb' hT' hR) ?_)))
        rintro _ _ _ ⟨⟨_, rfl, rfl⟩ | ⟨o1, _⟩, rfl⟩
        rotate_left
        exact absurd hf20 o1
        refine e_is2 o149_12 (e_al0 o149_13 (e_gI o149_14 L79 rfl 21 rfl ?_))
        rw [hb']
        refine e_if_ne o149_17 38 rfl (by first | exact zg_rg _ _ _ | exact zt_rg _ | omega) (fun hb17 => ?_) (fun hb17 => ?_)
        · omega
        · refine e_al0 o149_20 (e_gR o149_21 L79 rfl rfl (e_ico o149_24 (e_ial o149_25 L82 (by omega) (by omega) (e_il2 o149_26 ?_))))
          rw [f82 5 f1, hD.1.2.1]
          refine e_add o149_27 (e_bip o149_28 rfl (e_ic_le o149_30 38 rfl (by first | exact zg_rg _ _ _ | exact zt_rg _ | omega) (by first | exact zg_rg _ _ _ | exact zt_rg _ | omega) (fun hb30 => ?_) (fun hb30 => ?_)))
          · refine e_al0 o149_38 (e_gI o149_39 L79 rfl 21 rfl ?_)
            rw [hb']
            refine e_if_ne o149_42 49 rfl (by first | exact zg_rg _ _ _ | exact zt_rg _ | omega) (fun hb42 => ?_) (fun hb42 => ?_)
            · omega
            · refine e_al0 o149_45 (e_Vv0 o149_46 K149 K134 rfl ⟨rfl, rfl⟩ (zrcv_I L79 rfl) (by omega) rfl (m134 (e := E3) (by omega) hT' (by rw [hE3]; exact hR.2.2.2.1) (by omega) (by omega)) ?_)
              rintro w2 u' ⟨⟨r1, r2⟩, rfl⟩
              exact k w2 (fun a q h => by rw [r1 a q h, f1 a q h]) r2
          · omega
      by_cases hf2 : nF B N E3 0 9 = 0
      · obtain ⟨y1, y2, y3, y4⟩ := nF_0 hf2
        have i3 := i2.2.2.1 (by omega)
        refine ⟨.ok (te B N E3) (DrS D (tn B N E1) (tn B N E2) (tn B N E3)), ⟨by omega, by omega, DrS_B hB (by omega) (by omega) q2 q3 (by omega) (by omega), by show (D.L.length : Int) ≤ _; omega, rfl⟩, ?_, ?_⟩
        · intro d v u hd hP
          refine cgo2 d v u _ hd hP (fun w hS hC => ?_)
          have hD' : CD D w := CD_w (fun a q g1 g2 => hS a q (by omega) (by omega)) hP.2.2
          refine e_al0 o83_51 (e_ico o83_52 (e_bip o83_53 rfl (e_Vi2 o83_55 K83 K82 rfl ⟨rfl, rfl⟩ (zrcv_I L1 rfl) (by omega) rfl (c82 (least := 0) (top := 9) (by omega) (TXc_4 hP.1 (CS4_4 hS)) hC (by omega) e3' (by omega) (by omega)) ?_)))
          rintro _ w2 u' ⟨⟨_, rfl, o3, o4, o5⟩ | ⟨o1, _⟩, rfl⟩
          rotate_left
          exact absurd hf2 o1
          refine e_if_ne o83_58 63 rfl (by first | exact zg_rg _ _ _ | exact zt_rg _ | omega) (fun hb58 => ?_) (fun hb58 => ?_)
          · refine e_al0 o83_63 (e_gR o83_64 L1 rfl rfl (e_il1 o83_67 (e_il2 o83_68 (e_al0 o83_69 (e_gI o83_70 L1 rfl 4 rfl ?_)))))
            rw [o5]
            refine e_Vv3 o83_73 K83 K74 rfl ⟨rfl, rfl⟩ (zrcv_I L4 rfl) (by omega) rfl (c74 (p := tn B N E1) (m := tn B N E2) (s := tn B N E3) hB (by omega) (by omega) (CD_S0 (CD_w (fun a q g1 g2 => o3 a q (by omega) (by omega)) hD')) (by omega) (by omega)) ?_
            rintro w3 u' ⟨⟨r1, r2⟩, rfl⟩
            refine e_ico o83_76 ?_
            refine e_rI o83_77 K83 rfl rfl ?_
            refine ⟨⟨rfl, FD4_t (CS4_4 (CS4_t hS o3)) (fun a q g1 g2 g3 => r2 a q g3), ?_, r1⟩, rfl⟩
            unfold CT at o4 ⊢
            rw [show zg w3 2 = zg w2 2 from zg_fn fun q => r2 2 q (by omega)]
            exact o4
          · omega
        · intro d v u hd hP
          refine mgo2 d v u _ hd hP (fun w f1 hR => ?_)
          obtain ⟨hT, hR0, hb, hD⟩ := hP
          have hb' := f21 f1 hb
          have hT' := TXm_4 hT (FRm_4 f1)
          have loop : ∀ k, 0 ≤ k → k ≤ tn B N E2 → ∀ x, FQ4 v x → zg x 79 21 = 0 → RT B N x (te B N E3) → MD (DrS D (tn B N E1) k (tn B N E3)) x → zEv sc 149 d 60 [.ref 79, .int (zI (tn B N E1)), .int (zI (tn B N E2)), .int (zI (tn B N E3)), .int (zI k)] [] (zmk x u) 0 0 (zPv fun w t => rOut B N (.ok (te B N E3) (DrS D (tn B N E1) (tn B N E2) (tn B N E3))) v w ∧ u = t) := by
            refine zloop ?_
            intro k k0 k1 ih x g1 g2 g3 g4
            have hn : zg x 82 5 = D.ns + k := g4.1.2.1
            by_cases hk : k < tn B N E2
            · skip
              refine e_il4 o149_60 (e_il2 o149_62 (e_ic_ge o149_63 119 rfl (by first | exact zg_rg _ _ _ | exact zt_rg _ | omega) (by first | exact zg_rg _ _ _ | exact zt_rg _ | omega) (fun hb63 => ?_) (fun hb63 => ?_)))
              · omega
              · refine e_al0 o149_66 (e_gI o149_67 L79 rfl 21 rfl ?_)
                rw [g2]
                refine e_if_ne o149_70 119 rfl (by first | exact zg_rg _ _ _ | exact zt_rg _ | omega) (fun hb70 => ?_) (fun hb70 => ?_)
                · omega
                · refine e_al0 o149_73 (e_gR o149_74 L79 rfl rfl (e_bip o149_77 rfl (e_al0 o149_79 (e_gR o149_80 L79 rfl rfl (e_ico o149_83 (e_ial o149_84 L82 (by omega) (by omega) ?_))))))
                  rw [hn]
                  refine e_add o149_85 (e_il1 o149_86 (e_iast o149_87 L85 (by omega) (by omega) (e_al0 o149_88 (e_gR o149_89 L79 rfl rfl (e_bip o149_92 rfl (e_al0 o149_94 (e_gR o149_95 L79 rfl rfl (e_ico o149_98 (e_ial o149_99 L82 (by omega) (by omega) ?_)))))))))
                  rw [zg_na (by decide), hn]
                  refine e_add o149_100 (e_il3 o149_101 (e_iast o149_102 L86 (by omega) (by omega) (e_al0 o149_103 (e_gR o149_104 L79 rfl rfl (e_ico o149_107 (e_dup2 o149_108 (e_ial o149_109 L82 (by omega) (by omega) (e_ico o149_110 ?_))))))))
                  rw [zg_na (by decide), zg_na (by decide), hn]
                  refine e_add o149_111 (e_iast o149_112 L82 (by omega) (by omega) (e_inc4 o149_113 (e_goto o149_116 60 rfl ?_)))
                  refine ih hk _ (FQ4_t g1 (fun a q z1 z2 z3 z4 z5 z6 => by rw [zu_ne (by omega), zu_ne (by omega), zu_ne (by omega)])) ?_ ?_ (MD_stone k0 b1.1 (by omega) g4 (by omega) (by omega))
                  · rw [zg_na (by decide), zg_na (by decide), zg_na (by decide)]; exact g2
                  · unfold RT at g3 ⊢
                    have z79 : ∀ q, zg (zu (zu (zu x 85 (40 + (D.ns + k)) (zI (tn B N E1))) 86 (40 + (D.ns + k)) (zI (tn B N E3))) 82 5 (zI (D.ns + k + 1))) 79 q = zg x 79 q := fun q => by rw [zg_na (by decide), zg_na (by decide), zg_na (by decide)]
                    rw [z79, z79, z79, z79, z79]
                    exact g3
            · have ek : k = tn B N E2 := by omega
              refine e_il4 o149_60 (e_il2 o149_62 (e_ic_ge o149_63 119 rfl (by first | exact zg_rg _ _ _ | exact zt_rg _ | omega) (by first | exact zg_rg _ _ _ | exact zt_rg _ | omega) (fun hb63 => ?_) (fun hb63 => ?_)))
              · refine e_rV o149_119 K149 rfl rfl ?_
                exact ⟨⟨g1, g2, g3, by rw [← ek]; exact g4⟩, rfl⟩
              · omega
          refine e_al0 o149_49 (e_ico o149_50 (e_bip o149_51 rfl (e_Vi2 o149_53 K149 K144 rfl ⟨rfl, rfl⟩ (zrcv_I L79 rfl) (by omega) rfl (m144 (least := 0) (top := 9) (by omega) hb' hT' hR (by omega) e3' (by omega) (by omega)) ?_)))
          rintro _ w2 u' ⟨⟨_, rfl, o3, o4⟩ | ⟨o1, _⟩, rfl⟩
          rotate_left
          exact absurd hf2 o1
          refine e_is3 o149_56 (e_ico o149_57 (e_is4 o149_58 ?_))
          refine loop 0 (by omega) (by omega) w2 (FQ4_t (FRm_4 f1) (FRm_4 o3)) (f21 o3 hb') o4 (MD_S0 (MD_w (fun a q g1 g2 => by rw [o3 a q (by omega), f1 a q (by omega)]) hD))
      · refine ⟨.bad (nF B N E3 0 9) (ts B N E3), ⟨by omega, by omega, by omega, by omega⟩, ?_, ?_⟩
        · intro d v u hd hP
          refine cgo2 d v u _ hd hP (fun w hS hC => ?_)
          refine e_al0 o83_51 (e_ico o83_52 (e_bip o83_53 rfl (e_Vi2 o83_55 K83 K82 rfl ⟨rfl, rfl⟩ (zrcv_I L1 rfl) (by omega) rfl (c82 (least := 0) (top := 9) (by omega) (TXc_4 hP.1 (CS4_4 hS)) hC (by omega) e3' (by omega) (by omega)) ?_)))
          rintro _ w2 u' ⟨⟨o1, _⟩ | ⟨_, rfl, rfl⟩, rfl⟩
          exact absurd o1 hf2
          refine e_if_ne o83_58 63 rfl (by first | exact zg_rg _ _ _ | exact zt_rg _ | omega) (fun hb58 => ?_) (fun hb58 => ?_)
          · omega
          · refine e_ico o83_61 ?_
            refine e_rI o83_62 K83 rfl rfl ?_
            exact ⟨bad_c (o := 0) (CS4_4 hS) (by omega) (by omega), rfl⟩
        · intro d v u hd hP
          refine mgo2 d v u _ hd hP (fun w f1 hR => ?_)
          obtain ⟨hT, hR0, hb, hD⟩ := hP
          have hb' := f21 f1 hb
          have hT' := TXm_4 hT (FRm_4 f1)
          have w1 : ¬ zg (zu (zu w 79 21 (zI (nF B N E3 0 9))) 79 22 (zI (ts B N E3))) 79 21 = 0 := by rw [zg_ne (by omega), zg_same (by omega)]; omega
          refine e_al0 o149_49 (e_ico o149_50 (e_bip o149_51 rfl (e_Vi2 o149_53 K149 K144 rfl ⟨rfl, rfl⟩ (zrcv_I L79 rfl) (by omega) rfl (m144 (least := 0) (top := 9) (by omega) hb' hT' hR (by omega) e3' (by omega) (by omega)) ?_)))
          rintro _ w2 u' ⟨⟨o1, _⟩ | ⟨_, rfl, rfl⟩, rfl⟩
          exact absurd o1 hf2
          refine e_is3 o149_56 (e_ico o149_57 (e_is4 o149_58 (e_il4 o149_60 (e_il2 o149_62 (e_ic_ge o149_63 119 rfl (by first | exact zg_rg _ _ _ | exact zt_rg _ | omega) (by first | exact zg_rg _ _ _ | exact zt_rg _ | omega) (fun hb63 => ?_) (fun hb63 => ?_))))))
          · omega
          · refine e_al0 o149_66 (e_gI o149_67 L79 rfl 21 rfl (e_if_ne o149_70 119 rfl (by first | exact zg_rg _ _ _ | exact zt_rg _ | omega) (fun hb70 => ?_) (fun hb70 => ?_)))
            · refine e_rV o149_119 K149 rfl rfl ?_
              exact ⟨bad_m (FRm_4 f1) (by omega) (by omega), rfl⟩
            · exact absurd hb70 w1
    · refine ⟨.bad (nF B N E2 1 (min 20 (40 - D.ns))) (ts B N E2), ⟨by omega, by omega, by omega, by omega⟩, ?_, ?_⟩
      · intro d v u hd hP
        refine cgo d v u _ hd hP (fun w hS hC => ?_)
        have hn : zg w 4 9 = D.ns := by simp only [zg]; rw [hS 4 9 (by omega) (by omega)]; exact hP.2.2.1.2.1
        refine e_al0 o83_21 (e_ico o83_22 (e_bip o83_23 rfl (e_bip o83_25 rfl (e_al0 o83_27 (e_gR o83_28 L1 rfl rfl (e_gI o83_31 L4 rfl 9 rfl ?_))))))
        rw [hn]
        refine e_sub o83_34 (e_min o83_35 (by omega) rfl (by first | exact zg_rg _ _ _ | exact zt_rg _ | omega) (by first | exact zg_rg _ _ _ | exact zt_rg _ | omega) (e_Vi2 o83_38 K83 K82 rfl ⟨rfl, rfl⟩ (zrcv_I L1 rfl) (by omega) rfl (c82b (d - 1) w u (by omega) (TXc_4 hP.1 (CS4_4 hS)) hC) ?_))
        rintro _ w2 u' ⟨⟨o1, _⟩ | ⟨_, rfl, rfl⟩, rfl⟩
        exact absurd o1 hf
        refine e_if_ne o83_41 46 rfl (by first | exact zg_rg _ _ _ | exact zt_rg _ | omega) (fun hb41 => ?_) (fun hb41 => ?_)
        · omega
        · refine e_ico o83_44 ?_
          refine e_rI o83_45 K83 rfl rfl ?_
          exact ⟨bad_c (o := 0) (CS4_4 hS) (by omega) (by omega), rfl⟩
      · intro d v u hd hP
        refine mgo d v u _ hd hP (fun w f1 hR => ?_)
        obtain ⟨hT, hR0, hb, hD⟩ := hP
        have hb' := f21 f1 hb
        have hT' := TXm_4 hT (FRm_4 f1)
        have nr20 := nF_rg (B := B) (N := N) (e := E2) (a := 1) (b := 20)
        have w1 : ¬ zg (zu (zu w 79 21 (zI (nF B N E2 1 (min 20 (40 - D.ns))))) 79 22 (zI (ts B N E2))) 79 21 = 0 := by rw [zg_ne (by omega), zg_same (by omega)]; omega
        by_cases hf20 : nF B N E2 1 20 = 0
        · obtain ⟨y1, y2, y3, y4⟩ := nF_0 hf20
          have eF : nF B N E2 1 (min 20 (40 - D.ns)) = 2 := by unfold nF at hf ⊢; rw [if_pos y1] at hf ⊢; split; rfl; rw [if_neg (by omega)] at hf; exact absurd rfl hf
          have gt : 40 < D.ns + tn B N E2 := by unfold nF at hf; rw [if_pos y1] at hf; split at hf; omega; exact absurd rfl hf
          rw [eF] at w1 ⊢
          have fin : ∀ k, zEv sc 149 d 49 [.ref 79, .int (zI (tn B N E1)), .int (zI k), zJ, zJ] [] (zmk (zu (zu w 79 21 (zI 2)) 79 22 (zI (ts B N E2))) u) 0 0 (zPv fun w t => rOut B N (.bad 2 (ts B N E2)) v w ∧ u = t) ∨ True := fun _ => Or.inr trivial
          refine e_al0 o149_5 (e_ico o149_6 (e_bip o149_7 rfl (e_Vi2 o149_9 K149 K145 rfl ⟨rfl, rfl⟩ (zrcv_I L79 rfl) (by omega) rfl (hf145 (d - 1) w u (by omega) hb' hT' hR) ?_)))
          rintro _ _ _ ⟨⟨_, rfl, rfl⟩ | ⟨o1, _⟩, rfl⟩
          rotate_left
          exact absurd hf20 o1
          refine e_is2 o149_12 (e_al0 o149_13 (e_gI o149_14 L79 rfl 21 rfl ?_))
          rw [hb']
          refine e_if_ne o149_17 38 rfl (by first | exact zg_rg _ _ _ | exact zt_rg _ | omega) (fun hb17 => ?_) (fun hb17 => ?_)
          · omega
          · refine e_al0 o149_20 (e_gR o149_21 L79 rfl rfl (e_ico o149_24 (e_ial o149_25 L82 (by omega) (by omega) (e_il2 o149_26 ?_))))
            rw [f82 5 f1, hD.1.2.1]
            refine e_add o149_27 (e_bip o149_28 rfl (e_ic_le o149_30 38 rfl (by first | exact zg_rg _ _ _ | exact zt_rg _ | omega) (by first | exact zg_rg _ _ _ | exact zt_rg _ | omega) (fun hb30 => ?_) (fun hb30 => ?_)))
            · omega
            · refine e_al0 o149_33 (e_ico o149_34 (e_Vv1 o149_35 K149 K142 rfl ⟨rfl, rfl⟩ (zrcv_I L79 rfl) (by omega) rfl (m142 hb') ?_))
              rintro _ _ ⟨rfl, rfl⟩
              rw [hR.2.1]
              refine e_al0 o149_38 (e_gI o149_39 L79 rfl 21 rfl (e_if_ne o149_42 49 rfl (by first | exact zg_rg _ _ _ | exact zt_rg _ | omega) (fun hb42 => ?_) (fun hb42 => ?_)))
              · refine e_al0 o149_49 (e_ico o149_50 (e_bip o149_51 rfl (e_Vi2 o149_53 K149 K144 rfl ⟨rfl, rfl⟩ (zrcv_I L79 rfl) (by omega) rfl (m144_d (by omega) w1) ?_)))
                rintro _ _ _ ⟨rfl, rfl, rfl⟩
                refine e_is3 o149_56 (e_ico o149_57 (e_is4 o149_58 (e_il4 o149_60 (e_il2 o149_62 (e_ic_ge o149_63 119 rfl (by first | exact zg_rg _ _ _ | exact zt_rg _ | omega) (by first | exact zg_rg _ _ _ | exact zt_rg _ | omega) (fun hb63 => ?_) (fun hb63 => ?_))))))
                · omega
                · refine e_al0 o149_66 (e_gI o149_67 L79 rfl 21 rfl (e_if_ne o149_70 119 rfl (by first | exact zg_rg _ _ _ | exact zt_rg _ | omega) (fun hb70 => ?_) (fun hb70 => ?_)))
                  · refine e_rV o149_119 K149 rfl rfl ?_
                    exact ⟨bad_m (FRm_4 f1) (by omega) (by omega), rfl⟩
                  · exact absurd hb70 w1
              · exact absurd hb42 w1
        · have eF : nF B N E2 1 20 = nF B N E2 1 (min 20 (40 - D.ns)) := by
            unfold nF at hf20 ⊢
            by_cases h3 : tk B N E2 = 2
            · rw [if_pos h3] at hf20 ⊢
              rw [if_pos h3]
              by_cases hq : tn B N E2 = -1 ∨ tn B N E2 < 1 ∨ 20 < tn B N E2
              · rw [if_pos hq, if_pos (by omega)]
              · rw [if_neg hq] at hf20; exact absurd rfl hf20
            · rw [if_neg h3, if_neg h3]
          refine e_al0 o149_5 (e_ico o149_6 (e_bip o149_7 rfl (e_Vi2 o149_9 K149 K145 rfl ⟨rfl, rfl⟩ (zrcv_I L79 rfl) (by omega) rfl (hf145 (d - 1) w u (by omega) hb' hT' hR) ?_)))
          rintro _ _ _ ⟨⟨o1, _⟩ | ⟨_, rfl, rfl⟩, rfl⟩
          exact absurd o1 hf20
          rw [eF]
          refine e_is2 o149_12 (e_al0 o149_13 (e_gI o149_14 L79 rfl 21 rfl (e_if_ne o149_17 38 rfl (by first | exact zg_rg _ _ _ | exact zt_rg _ | omega) (fun hb17 => ?_) (fun hb17 => ?_))))
          · refine zEv_mono (mdead d _ u _ _ _ hd w1) ?_
            rintro _ _ ⟨x, t, rfl, rfl, rfl, rfl⟩
            exact ⟨_, _, rfl, rfl, bad_m (FRm_4 f1) (by omega) (by omega), rfl⟩
          · exact absurd hb17 w1
  · refine ⟨.bad (pF B N E1 D.np) (ts B N E1), ⟨by omega, by omega, by omega, by omega⟩, ?_, ?_⟩
    · intro d v u hd hP
      obtain ⟨hT, hC, hD⟩ := hP
      refine e_al0 o83_0 (e_gR o83_1 L1 rfl rfl (e_Vv0 o83_4 K83 K34 rfl ⟨rfl, rfl⟩ (zrcv_I L2 rfl) (by omega) rfl (c34 (e := E1) (by omega) hT (by rw [hE1]; exact hC.2.2.1) (by omega) (by omega)) ?_))
      rintro w1 u' ⟨⟨r1, r2⟩, rfl⟩
      refine e_al0 o83_7 (e_Vi0 o83_8 K83 K84 rfl ⟨rfl, rfl⟩ (zrcv_I L1 rfl) (by omega) rfl (c84 (D := D) (by omega) (TXc_4 hT (FC_4 r1)) r2 (by omega) (by omega) (by simp only [zg]; rw [r1 4 8 (by omega)]; exact hD.1.1) b0) ?_)
      rintro _ w u' ⟨⟨o1, _⟩ | ⟨_, rfl, rfl⟩, rfl⟩
      exact absurd o1 hp
      refine e_if_ne o83_11 16 rfl (by first | exact zg_rg _ _ _ | exact zt_rg _ | omega) (fun hb11 => ?_) (fun hb11 => ?_)
      · omega
      · refine e_ico o83_14 ?_
        refine e_rI o83_15 K83 rfl rfl ?_
        exact ⟨bad_c (o := 0) (FC_4 r1) (by omega) (by omega), rfl⟩
    · intro d v u hd hP
      obtain ⟨hT, hR, hb, hD⟩ := hP
      have w1 : ¬ zg (zu (zu v 79 21 (zI (pF B N E1 D.np))) 79 22 (zI (ts B N E1))) 79 21 = 0 := by rw [zg_ne (by omega), zg_same (by omega)]; omega
      refine e_al0 o149_0 (e_Vi0 o149_1 K149 K146 rfl ⟨rfl, rfl⟩ (zrcv_I L79 rfl) (by omega) rfl (m146 (D := D) (by omega) hb hT hR (by omega) (by omega) hD.1.1 b0) ?_)
      rintro _ w u' ⟨⟨o1, _⟩ | ⟨_, rfl, rfl⟩, rfl⟩
      exact absurd o1 hp
      refine zEv_mono (mdead0 d _ u 0 hd w1) ?_
      rintro _ _ ⟨x, t, rfl, rfl, rfl, rfl⟩
      exact ⟨_, _, rfl, rfl, bad_m FQ4_r (by omega) (by omega), rfl⟩
end
