/-! the line of a port -/
def DrP (D : Dr) (n w : Int) : Dr := (D.np + 1, D.ns, D.nk, fu D.need D.np n, fu D.weight D.np w, D.origin, D.square, D.kind, D.hold, D.home, D.L)
theorem DrP_B {D : Dr} {n w : Int} (h : DB D) (h6 : D.np < 6) (n0 : 0 ≤ n) (n1 : n ≤ 40) (w0 : 0 ≤ w) (w1 : w ≤ 99) : DB (DrP D n w) := by
  obtain ⟨a1, a2, a3, a4, a5, a6, a7⟩ := h
  refine ⟨⟨by show 0 ≤ D.np + 1; omega, by show D.np + 1 ≤ 6; omega⟩, a2, a3, fun i i0 i1 => ?_, fun i i0 i1 => ?_, fun i i0 i1 => ?_, a7⟩
  · show (0 ≤ fu D.need D.np n i ∧ fu D.need D.np n i ≤ 40) ∧ 0 ≤ fu D.weight D.np w i ∧ fu D.weight D.np w i ≤ 99
    by_cases e : i = D.np
    · subst e; rw [fu_same, fu_same]; omega
    · rw [fu_ne e, fu_ne e]
      have i1 : i < D.np + 1 := i1
      exact a4 i i0 (by omega)
  · have e := a5 i i0 i1
    exact ⟨⟨e.1.1, by show D.origin i < D.np + 1; omega⟩, e.2⟩
  · have e := a6 i i0 i1
    exact ⟨e.1, e.2.1, e.2.2.1, by show D.home i < D.np + 1; omega⟩
section
variable {sc : Nat × (Nat → Int32)} {B : Int → Int} {N : Int} {D : Dr}
theorem c73 {d : Nat} {v : zV} {u : zU} {n w : Int} (h6 : D.np < 6) (hB : DB D) (hD : CD D v) (nr : -2147483648 ≤ n ∧ n < 2147483648) (wr : -2147483648 ≤ w ∧ w < 2147483648) : zEv sc 73 d 0 [.ref 4, .int (zI n), .int (zI w)] [] (zmk v u) 0 0 (zPv fun x t => (CD (DrP D n w) x ∧ ∀ a q, ¬ (4 ≤ a ∧ a ≤ 13) → x a q = v a q) ∧ u = t) := by
  have b0 := hB.1
  have hn := hD.1.1
  refine e_al0 o73_0 (e_gI o73_1 L4 rfl 8 rfl (e_bip o73_4 rfl ?_))
  rw [hn]
  refine e_ic_ge o73_6 39 rfl (by first | exact zg_rg _ _ _ | exact zt_rg _ | omega) (by first | exact zg_rg _ _ _ | exact zt_rg _ | omega) (fun hb6 => ?_) (fun hb6 => ?_)
  · omega
  · refine e_al0 o73_9 (e_gR o73_10 L4 rfl rfl (e_al0 o73_13 (e_gI o73_14 L4 rfl 8 rfl ?_)))
    rw [hn]
    refine e_il1 o73_17 (e_iast o73_18 L5 (by omega) (by omega) (e_al0 o73_19 (e_gR o73_20 L4 rfl rfl (e_al0 o73_23 (e_gI o73_24 L4 rfl 8 rfl ?_)))))
    rw [zg_na (by decide), hn]
    refine e_il2 o73_27 (e_iast o73_28 L6 (by omega) (by omega) (e_al0 o73_29 (e_dupR o73_30 (e_gI o73_31 L4 rfl 8 rfl (e_ico o73_34 ?_)))))
    rw [zg_na (by decide), zg_na (by decide), hn]
    refine e_add o73_35 (e_pI o73_36 L4 rfl rfl rfl rfl 8 rfl ?_)
    refine e_rV o73_39 K73 rfl rfl ?_
    refine ⟨⟨⟨⟨?_, ?_, ?_⟩, fun i i0 i1 => ?_, fun i i0 i1 => ?_, fun i i0 i1 => ?_, ?_, fun i hi => ?_⟩, fun a q h => by rw [zu_ne (by omega), zu_ne (by omega), zu_ne (by omega)]⟩, rfl⟩
    · rw [zg_same (by omega)]; rfl
    · rw [zg_ne (by omega), zg_na (by decide), zg_na (by decide)]; exact hD.1.2.1
    · rw [zg_ne (by omega), zg_na (by decide), zg_na (by decide)]; exact hD.1.2.2
    · have i1 : i < D.np + 1 := i1
      show zg _ 5 i = fu D.need D.np n i ∧ zg _ 6 i = fu D.weight D.np w i
      by_cases e : i = D.np
      · rw [e, fu_same, fu_same]
        exact ⟨by rw [zg_na (by decide), zg_na (by decide), zg_same nr], by rw [zg_na (by decide), zg_same wr]⟩
      · rw [fu_ne e, fu_ne e]
        have z := hD.2.1 i i0 (by omega)
        exact ⟨by rw [zg_na (by decide), zg_na (by decide), zg_ne (by omega)]; exact z.1, by rw [zg_na (by decide), zg_ne (by omega), zg_na (by decide)]; exact z.2⟩
    · rw [zg_na (by decide), zg_na (by decide), zg_na (by decide), zg_na (by decide), zg_na (by decide), zg_na (by decide)]; exact hD.2.2.1 i i0 i1
    · rw [zg_na (by decide), zg_na (by decide), zg_na (by decide), zg_na (by decide), zg_na (by decide), zg_na (by decide), zg_na (by decide), zg_na (by decide), zg_na (by decide)]; exact hD.2.2.2.1 i i0 i1
    · rw [zg_na (by decide), zg_na (by decide), zg_na (by decide)]; exact hD.2.2.2.2.1
    · rw [zg_na (by decide), zg_na (by decide), zg_na (by decide)]; exact hD.2.2.2.2.2 i hi
theorem bad_c {v w : zV} {o c p : Int} (hF : FD4 v w) (cr : -100 ≤ c ∧ c ≤ 100) (pr : 0 ≤ p ∧ p ≤ 600) : kOut B N (.bad c p) v (zu (zu w 1 2 (zI c)) 1 3 (zI p)) (zI 0) := by
  refine ⟨rfl, FD4_t hF (fun a q g1 g2 g3 => by rw [zu_ne (by omega), zu_ne (by omega)]), ?_, ?_⟩
  · rw [zg_ne (by omega), zg_same (by omega)]
  · rw [zg_same (by omega)]
theorem bad_m {v w : zV} {c p : Int} (hF : FQ4 v w) (cr : -100 ≤ c ∧ c ≤ 100) (pr : 0 ≤ p ∧ p ≤ 600) : rOut B N (.bad c p) v (zu (zu w 79 21 (zI c)) 79 22 (zI p)) := by
  refine ⟨FQ4_t hF (fun a q g1 g2 g3 g4 g5 g6 => by rw [zu_ne (by omega), zu_ne (by omega)]), ?_, ?_⟩
  · rw [zg_ne (by omega), zg_same (by omega)]
  · rw [zg_same (by omega)]
theorem rOut_t {v w x : zV} {c p : Int} (h : rOut B N (.bad c p) v w) (h' : FQ4 w x) (h21 : x 79 21 = w 79 21) (h22 : x 79 22 = w 79 22) : rOut B N (.bad c p) v x := by
  obtain ⟨a1, a2, a3⟩ := h
  refine ⟨FQ4_t a1 h', ?_, ?_⟩
  · simp only [zg]; rw [h21]; exact a2
  · simp only [zg]; rw [h22]; exact a3
/-- the reference's end of a port's line -/
theorem MD_port {v : zV} {x y : Int} (h6 : D.np < 6) (hB : DB D) (hD : MD D v) (xr : -2147483648 ≤ x ∧ x < 2147483648) (yr : -2147483648 ≤ y ∧ y < 2147483648) {w1 w2 : zV} (f1 : FRm (v) w1) (f2 : FRm (zu w1 83 (6 + D.np) (zI x)) w2) : MD (DrP D x y) (zu (zu w2 84 (6 + D.np) (zI y)) 82 4 (zI (D.np + 1))) ∧ FQ4 v (zu (zu w2 84 (6 + D.np) (zI y)) 82 4 (zI (D.np + 1))) := by
  have b0 := hB.1
  have k : ∀ a q, 82 ≤ a → a ≤ 90 → w2 a q = zu v 83 (6 + D.np) (zI x) a q := by
    intro a q h1 h2
    rw [f2 a q (by omega)]
    by_cases e : a = 83 ∧ q = 6 + D.np
    · obtain ⟨rfl, rfl⟩ := e; rw [zu_same, zu_same]
    · rw [zu_ne e, zu_ne e, f1 a q (by omega)]
  refine ⟨⟨⟨?_, ?_, ?_⟩, fun i i0 i1 => ?_, fun i i0 i1 => ?_, fun i i0 i1 => ?_, ?_, fun i hi => ?_⟩, fun a q g1 g2 g3 g4 g5 g6 => ?_⟩
  · rw [zg_same (by omega)]; rfl
  · rw [zg_ne (by omega), zg_na (by decide)]; simp only [zg]; rw [k _ _ (by omega) (by omega), zu_ne (by omega)]; exact hD.1.2.1
  · rw [zg_ne (by omega), zg_na (by decide)]; simp only [zg]; rw [k _ _ (by omega) (by omega), zu_ne (by omega)]; exact hD.1.2.2
  · have i1 : i < D.np + 1 := i1
    show zg _ 83 (6 + i) = fu D.need D.np x i ∧ zg _ 84 (6 + i) = fu D.weight D.np y i
    rw [zg_na (by decide), zg_na (by decide), zg_na (by decide)]
    by_cases e : i = D.np
    · rw [e, fu_same, fu_same, zg_same yr]
      refine ⟨?_, rfl⟩
      simp only [zg]
      rw [k _ _ (by omega) (by omega), zu_same, zI_to xr]
    · rw [fu_ne e, fu_ne e, zg_ne (by omega)]
      simp only [zg]
      rw [k _ _ (by omega) (by omega), k _ _ (by omega) (by omega), zu_ne (by omega), zu_ne (by omega)]
      exact hD.2.1 i i0 (by omega)
  · rw [zg_na (by decide), zg_na (by decide), zg_na (by decide), zg_na (by decide)]
    simp only [zg]
    rw [k _ _ (by omega) (by omega), k _ _ (by omega) (by omega), zu_ne (by omega), zu_ne (by omega)]
    exact hD.2.2.1 i i0 i1
  · rw [zg_na (by decide), zg_na (by decide), zg_na (by decide), zg_na (by decide), zg_na (by decide), zg_na (by decide)]
    simp only [zg]
    rw [k _ _ (by omega) (by omega), k _ _ (by omega) (by omega), k _ _ (by omega) (by omega), zu_ne (by omega), zu_ne (by omega), zu_ne (by omega)]
    exact hD.2.2.2.1 i i0 i1
  · rw [zg_ne (by omega), zg_na (by decide)]; simp only [zg]; rw [k _ _ (by omega) (by omega), zu_ne (by omega)]; exact hD.2.2.2.2.1
  · rw [zg_na (by decide), zg_na (by decide)]; simp only [zg]; rw [k _ _ (by omega) (by omega), zu_ne (by omega)]; exact hD.2.2.2.2.2 i hi
  · rw [zu_ne (by omega), zu_ne (by omega), f2 a q (by omega), zu_ne (by omega), f1 a q (by omega)]
theorem LNport {e : Int} (hB : DB D) (n6 : N ≤ 600) (e0 : 0 ≤ e) (e1 : e ≤ N) (hk : ¬ tk B N e = 0) (hl : (D.L.length : Int) ≤ e) : ∃ o, gLn N e (fun L => L = D.L) o ∧ (∀ (d : Nat) v u, 20 ≤ d → CL B N D v e → zEv sc 80 d 0 [.ref 1, zJ, zJ] [] (zmk v u) 0 0 (zPi fun y w t => kOut B N o v w y ∧ u = t)) ∧ (∀ (d : Nat) v u, 20 ≤ d → ML B N D v e → zEv sc 147 d 0 [.ref 79, zJ] [] (zmk v u) 0 0 (zPv fun w t => rOut B N o v w ∧ u = t)) := by
  have h1 := ts_in (B := B) e1
  have h2 := te_in (B := B) e1
  have h3 := h2.2.2.1 hk
  have b0 := hB.1
  by_cases h6 : D.np = 6
  · refine ⟨.bad 2 (ts B N e), ⟨by omega, by omega, by omega, by omega⟩, ?_, ?_⟩
    · intro d v u hd hP
      obtain ⟨hT, hC, hD⟩ := hP
      have hn := hD.1.1
      refine e_al0 o80_0 (e_gR o80_1 L1 rfl rfl (e_gI o80_4 L4 rfl 8 rfl (e_bip o80_7 rfl ?_)))
      rw [hn]
      refine e_ic_lt o80_9 18 rfl (by first | exact zg_rg _ _ _ | exact zt_rg _ | omega) (by first | exact zg_rg _ _ _ | exact zt_rg _ | omega) (fun hb9 => ?_) (fun hb9 => ?_)
      · omega
      · refine e_al0 o80_12 (e_ico o80_13 (e_Vi1 o80_14 K80 K81 rfl ⟨rfl, rfl⟩ (zrcv_I L1 rfl) (by omega) rfl (c81 (c := 2) hC e1 (by omega)) ?_))
        rintro _ _ _ ⟨rfl, rfl, rfl⟩
        refine e_rI o80_17 K80 rfl rfl ?_
        exact ⟨bad_c (o := 0) FD4_r (by omega) (by omega), rfl⟩
    · intro d v u hd hP
      obtain ⟨hT, hR, hb, hD⟩ := hP
      have hn := hD.1.1
      have w1 : ¬ zg (zu (zu v 79 21 (zI 2)) 79 22 (zI (ts B N e))) 79 21 = 0 := by rw [zg_ne (by omega), zg_same (by omega)]; omega
      refine e_al0 o147_0 (e_gR o147_1 L79 rfl rfl (e_ico o147_4 (e_ial o147_5 L82 (by omega) (by omega) (e_bip o147_6 rfl ?_))))
      rw [hn]
      refine e_ic_ne o147_8 16 rfl (by first | exact zg_rg _ _ _ | exact zt_rg _ | omega) (by first | exact zg_rg _ _ _ | exact zt_rg _ | omega) (fun hb8 => ?_) (fun hb8 => ?_)
      · omega
      · refine e_al0 o147_11 (e_ico o147_12 (e_Vv1 o147_13 K147 K142 rfl ⟨rfl, rfl⟩ (zrcv_I L79 rfl) (by omega) rfl (m142 hb) ?_))
        rintro _ _ ⟨rfl, rfl⟩
        rw [hR.2.1]
        refine e_al0 o147_16 (e_gI o147_17 L79 rfl 21 rfl (e_if_eq o147_20 24 rfl (by first | exact zg_rg _ _ _ | exact zt_rg _ | omega) (fun hb20 => ?_) (fun hb20 => ?_)))
        · exact absurd hb20 w1
        · refine e_rV o147_23 K147 rfl rfl ?_
          exact ⟨bad_m FQ4_r (by omega) (by omega), rfl⟩
  · have h7 : D.np < 6 := by omega
    have e1' : te B N e ≤ N := by omega
    have k1 := ts_in (B := B) e1'
    have k2 := te_in (B := B) e1'
    have nr := nF_rg (B := B) (N := N) (e := te B N e) (a := 0) (b := 40)
    -- the class up to its first number
    have cgo : ∀ (d : Nat) v u Q, 20 ≤ d → CL B N D v e → (∀ w y, CS4 v w → ((nF B N (te B N e) 0 40 = 0 ∧ zI 1 = y ∧ CT B N w (te B N (te B N e)) ∧ zg w 1 4 = tn B N (te B N e)) → zEv sc 80 d 32 [.ref 1, zJ, zJ] [.int y] (zmk w u) 0 0 Q)) → (∀ w, CS4 v w → ¬ nF B N (te B N e) 0 40 = 0 → zEv sc 80 d 32 [.ref 1, zJ, zJ] [.int (zI 0)] (zmk (zu (zu w 1 2 (zI (nF B N (te B N e) 0 40))) 1 3 (zI (ts B N (te B N e)))) u) 0 0 Q) → zEv sc 80 d 0 [.ref 1, zJ, zJ] [] (zmk v u) 0 0 Q := by
      intro d v u Q hd hP ka kb
      obtain ⟨hT, hC, hD⟩ := hP
      have hn := hD.1.1
      refine e_al0 o80_0 (e_gR o80_1 L1 rfl rfl (e_gI o80_4 L4 rfl 8 rfl (e_bip o80_7 rfl ?_)))
      rw [hn]
      refine e_ic_lt o80_9 18 rfl (by first | exact zg_rg _ _ _ | exact zt_rg _ | omega) (by first | exact zg_rg _ _ _ | exact zt_rg _ | omega) (fun hb9 => ?_) (fun hb9 => ?_)
      · refine e_al0 o80_18 (e_gR o80_19 L1 rfl rfl (e_Vv0 o80_22 K80 K34 rfl ⟨rfl, rfl⟩ (zrcv_I L2 rfl) (by omega) rfl (c34 (e := te B N e) (by omega) hT hC.2.2.1 (by omega) (by omega)) ?_))
        rintro w1 u' ⟨⟨q1, q2⟩, rfl⟩
        refine e_al0 o80_25 (e_ico o80_26 (e_bip o80_27 rfl (e_Vi2 o80_29 K80 K82 rfl ⟨rfl, rfl⟩ (zrcv_I L1 rfl) (by omega) rfl (c82 (least := 0) (top := 40) (by omega) (TXc_4 hT (FC_4 q1)) q2 (by omega) (by omega) (by omega) (by omega)) ?_)))
        rintro y w u' ⟨hO, rfl⟩
        rcases hO with ⟨o1, o2, o3, o4, o5⟩ | ⟨o1, rfl, rfl⟩
        · exact ka w y (CS4_t (FC_CS4 q1) o3) ⟨o1, o2, o4, o5⟩
        · exact kb w1 (FC_CS4 q1) o1
      · omega
    have mgo : ∀ (d : Nat) v u Q, 20 ≤ d → ML B N D v e → (∀ w1, FRm v w1 → RT B N w1 (te B N e) → zEv sc 147 d 28 [.ref 79, zJ] [] (zmk w1 u) 0 0 Q) → zEv sc 147 d 0 [.ref 79, zJ] [] (zmk v u) 0 0 Q := by
      intro d v u Q hd hP k
      obtain ⟨hT, hR, hb, hD⟩ := hP
      have hn := hD.1.1
      refine e_al0 o147_0 (e_gR o147_1 L79 rfl rfl (e_ico o147_4 (e_ial o147_5 L82 (by omega) (by omega) (e_bip o147_6 rfl ?_))))
      rw [hn]
      refine e_ic_ne o147_8 16 rfl (by first | exact zg_rg _ _ _ | exact zt_rg _ | omega) (by first | exact zg_rg _ _ _ | exact zt_rg _ | omega) (fun hb8 => ?_) (fun hb8 => ?_)
      · refine e_al0 o147_16 (e_gI o147_17 L79 rfl 21 rfl ?_)
        rw [hb]
        refine e_if_eq o147_20 24 rfl (by first | exact zg_rg _ _ _ | exact zt_rg _ | omega) (fun hb20 => ?_) (fun hb20 => ?_)
        · refine e_al0 o147_24 (e_Vv0 o147_25 K147 K134 rfl ⟨rfl, rfl⟩ (zrcv_I L79 rfl) (by omega) rfl (m134 (e := te B N e) (by omega) hT hR.2.2.2.1 (by omega) (by omega)) ?_)
          rintro w1 u' ⟨⟨q1, q2⟩, rfl⟩
          exact k w1 q1 q2
        · omega
      · omega
    -- the reference with a fault ahead of its weight
    have f21 : ∀ {v w1 : zV}, FRm v w1 → zg v 79 21 = 0 → zg w1 79 21 = 0 := fun h h' => by simp only [zg]; rw [h 79 21 (by omega)]; exact h'
    have f82 : ∀ {v w1 : zV}, FRm v w1 → zg w1 82 4 = zg v 82 4 := fun h => by simp only [zg]; rw [h 82 4 (by omega)]
    by_cases hf : nF B N (te B N e) 0 40 = 0
    · have hk1 : tk B N (te B N e) = 2 := by apply Classical.byContradiction; intro z; unfold nF at hf; rw [if_neg z] at hf; omega
      have hb1 := tn_bd e1' hk1
      have hb2 : 0 ≤ tn B N (te B N e) ∧ tn B N (te B N e) ≤ 40 := by unfold nF at hf; rw [if_pos hk1] at hf; split at hf <;> omega
      have k3 := k2.2.2.1 (by omega)
      have e2' : te B N (te B N e) ≤ N := by omega
      have j1 := ts_in (B := B) e2'
      have j2 := te_in (B := B) e2'
      have m144a : ∀ (d : Nat) v u, 4 ≤ d → zg v 79 21 = 0 → TXm B N v → RT B N v (te B N e) → zEv sc 144 d 0 [.ref 79, .int (zI 0), .int (zI 40), zJ] [] (zmk v u) 0 0 (zPi fun y w t => (zI (tn B N (te B N e)) = y ∧ FRm v w ∧ RT B N w (te B N (te B N e))) ∧ u = t) := by
        intro d v u hd hb hT hR
        refine zEv_mono (m144 (least := 0) (top := 40) (by omega) hb hT hR (by omega) e1' (by omega) (by omega)) ?_
        rintro _ _ ⟨y, w, t, rfl, rfl, ⟨_, a1, a2, a3⟩ | ⟨a0, _⟩, rfl⟩
        · exact ⟨y, w, _, rfl, rfl, ⟨a1, a2, a3⟩, rfl⟩
        · exact absurd hf a0
      -- the reference up to its weight
      have mgo2 : ∀ (d : Nat) v u Q, 20 ≤ d → ML B N D v e → (∀ w1 w2, FRm v w1 → FRm (zu w1 83 (6 + D.np) (zI (tn B N (te B N e)))) w2 → RT B N w2 (te B N (te B N e)) → TXm B N w2 → zg w2 79 21 = 0 → zg w2 82 4 = D.np → zEv sc 147 d 51 [.ref 79, .int (zI (6 + D.np))] [] (zmk w2 u) 0 0 Q) → zEv sc 147 d 0 [.ref 79, zJ] [] (zmk v u) 0 0 Q := by
        intro d v u Q hd hP k
        refine mgo d v u Q hd hP (fun w1 q1 q2 => ?_)
        obtain ⟨hT, hR, hb, hD⟩ := hP
        have hn := hD.1.1
        refine e_bip o147_28 rfl (e_al0 o147_30 (e_gR o147_31 L79 rfl rfl (e_ico o147_34 (e_ial o147_35 L82 (by omega) (by omega) ?_))))
        rw [f82 q1, hn]
        refine e_add o147_36 (e_is1 o147_37 (e_al0 o147_38 (e_gR o147_39 L79 rfl rfl (e_il1 o147_42 (e_al0 o147_43 (e_ico o147_44 (e_bip o147_45 rfl (e_Vi2 o147_47 K147 K144 rfl ⟨rfl, rfl⟩ (zrcv_I L79 rfl) (by omega) rfl (m144a (d - 1) w1 u (by omega) (f21 q1 hb) (TXm_4 hT (FRm_4 q1)) q2) ?_))))))))
        rintro _ w2 u' ⟨⟨rfl, r2, r3⟩, rfl⟩
        refine e_iast o147_50 L83 (by omega) (by omega) ?_
        have hF : FRm (zu w1 83 (6 + D.np) (zI (tn B N (te B N e)))) (zu w2 83 (6 + D.np) (zI (tn B N (te B N e)))) := fun a q h => by by_cases z : a = 83 ∧ q = 6 + D.np; (obtain ⟨rfl, rfl⟩ := z; rw [zu_same, zu_same]); (rw [zu_ne z, zu_ne z, r2 a q h])
        refine k w1 _ q1 hF ?_ ?_ ?_ ?_
        · unfold RT at r3 ⊢
          have z79 : ∀ q, zg (zu w2 83 (6 + D.np) (zI (tn B N (te B N e)))) 79 q = zg w2 79 q := fun q => zg_na (by decide)
          rw [z79, z79, z79, z79, z79]
          exact r3
        · exact TXm_w (TXm_4 hT (FQ4_t (FRm_4 q1) (FRm_4 r2))) (fun q => zu_ne (by omega)) (zu_ne (by omega))
        · rw [zg_na (by decide)]; exact f21 r2 (f21 q1 hb)
        · rw [zg_na (by decide), f82 r2, f82 q1, hn]
      by_cases hw : isW B N (te B N (te B N e)) 2 = true
      · have hw' : isW B N (te B N (te B N e)) 43 = true := by rw [isW_eq (r := 43) (r' := 2) rfl]; exact hw
        have hk2 := isW_tk hw
        have j3 := j2.2.2.1 (by omega)
        have e3' : te B N (te B N (te B N e)) ≤ N := by omega
        have i1 := ts_in (B := B) e3'
        have i2 := te_in (B := B) e3'
        have nr2 := nF_rg (B := B) (N := N) (e := te B N (te B N (te B N e))) (a := 0) (b := 99)
        by_cases hf2 : nF B N (te B N (te B N (te B N e))) 0 99 = 0
        · have hk3 : tk B N (te B N (te B N (te B N e))) = 2 := by apply Classical.byContradiction; intro z; unfold nF at hf2; rw [if_neg z] at hf2; omega
          have hb3 := tn_bd e3' hk3
          have hb4 : 0 ≤ tn B N (te B N (te B N (te B N e))) ∧ tn B N (te B N (te B N (te B N e))) ≤ 99 := by unfold nF at hf2; rw [if_pos hk3] at hf2; split at hf2 <;> omega
          have i3 := i2.2.2.1 (by omega)
          refine ⟨.ok (te B N (te B N (te B N (te B N e)))) (DrP D (tn B N (te B N e)) (tn B N (te B N (te B N (te B N e))))), ⟨by omega, by omega, DrP_B hB h7 hb2.1 hb2.2 hb4.1 hb4.2, by show (D.L.length : Int) ≤ _; omega, rfl⟩, ?_, ?_⟩
          · intro d v u hd hP
            refine cgo d v u _ hd hP ?_ (fun w _ z => absurd hf z)
            rintro w y hS ⟨_, rfl, a2, a3⟩
            have hT' := TXc_4 hP.1 (CS4_4 hS)
            have hD' : CD D w := CD_w (fun a q g1 g2 => hS a q (by omega) (by omega)) hP.2.2
            refine e_if_ne o80_32 37 rfl (by first | exact zg_rg _ _ _ | exact zt_rg _ | omega) (fun hb32 => ?_) (fun hb32 => ?_)
            · refine e_al0 o80_37 (e_gI o80_38 L1 rfl 4 rfl ?_)
              rw [a3]
              refine e_is1 o80_41 (e_ico o80_42 (e_is2 o80_43 (e_al0 o80_44 (e_gR o80_45 L1 rfl rfl (e_ldcS o80_48 rfl (e_Vi1 o80_50 K80 K38 rfl ⟨rfl, rfl⟩ (zrcv_I L2 rfl) (by omega) rfl (c38 (r := 2) (by omega) (by omega) hT' a2 (by omega) (by omega)) ?_))))))
              rintro _ _ _ ⟨rfl, rfl, rfl⟩
              refine e_bz_eq o80_53 80 rfl (fun hb53 => ?_) (fun hb53 => ?_)
              · exact absurd hw hb53
              · refine e_al0 o80_56 (e_gR o80_57 L1 rfl rfl (e_Vv0 o80_60 K80 K34 rfl ⟨rfl, rfl⟩ (zrcv_I L2 rfl) (by omega) rfl (c34 (e := te B N (te B N (te B N e))) (by omega) hT' a2.2.2.1 (by omega) (by omega)) ?_))
                rintro w2 u' ⟨⟨q1, q2⟩, rfl⟩
                refine e_al0 o80_63 (e_ico o80_64 (e_bip o80_65 rfl (e_Vi2 o80_67 K80 K82 rfl ⟨rfl, rfl⟩ (zrcv_I L1 rfl) (by omega) rfl (c82 (least := 0) (top := 99) (by omega) (TXc_4 hT' (FC_4 q1)) q2 (by omega) (by omega) (by omega) (by omega)) ?_)))
                rintro _ w3 u' ⟨⟨_, rfl, o3, o4, o5⟩ | ⟨o1, _⟩, rfl⟩
                rotate_left
                exact absurd hf2 o1
                refine e_if_ne o80_70 75 rfl (by first | exact zg_rg _ _ _ | exact zt_rg _ | omega) (fun hb70 => ?_) (fun hb70 => ?_)
                · refine e_al0 o80_75 (e_gI o80_76 L1 rfl 4 rfl ?_)
                  rw [o5]
                  refine e_is2 o80_79 ?_
                  have hS3 : CS4 w w3 := CS4_t (FC_CS4 q1) o3
                  refine e_al0 o80_80 (e_gR o80_81 L1 rfl rfl (e_il1 o80_84 (e_il2 o80_85 (e_Vv2 o80_86 K80 K73 rfl ⟨rfl, rfl⟩ (zrcv_I L4 rfl) (by omega) rfl (c73 h7 hB (CD_w (fun a q g1 g2 => hS3 a q (by omega) (by omega)) hD') (by omega) (by omega)) ?_))))
                  rintro w4 u' ⟨⟨r1, r2⟩, rfl⟩
                  refine e_ico o80_89 ?_
                  refine e_rI o80_90 K80 rfl rfl ?_
                  refine ⟨⟨rfl, FD4_t (CS4_4 (CS4_t hS hS3)) (fun a q g1 g2 g3 => r2 a q g3), ?_, r1⟩, rfl⟩
                  unfold CT at o4 ⊢
                  rw [show zg w4 2 = zg w3 2 from zg_fn fun q => r2 2 q (by omega)]
                  exact o4
                · omega
            · omega
          · intro d v u hd hP
            refine mgo2 d v u _ hd hP (fun w1 w2 q1 q2 q3 hT2 hb2' h82 => ?_)
            refine e_al0 o147_51 (e_gR o147_52 L79 rfl rfl (e_il1 o147_55 (e_al0 o147_56 (e_ldc_wS o147_57 rfl (e_Vi1 o147_60 K147 K148 rfl ⟨rfl, rfl⟩ (zrcv_I L79 rfl) (by omega) rfl (m148 (r := 43) (by omega) (by omega) hb2' hT2 q3 (by omega) (by omega)) ?_)))))
            rintro _ w3 u' ⟨⟨_, rfl, r2, r3⟩ | ⟨z, _⟩, rfl⟩
            rotate_left
            exact absurd hw' z
            refine e_if_eq o147_63 76 rfl (by first | exact zg_rg _ _ _ | exact zt_rg _ | omega) (fun hb63 => ?_) (fun hb63 => ?_)
            · omega
            · refine e_al0 o147_66 (e_ico o147_67 (e_bip o147_68 rfl (e_Vi2 o147_70 K147 K144 rfl ⟨rfl, rfl⟩ (zrcv_I L79 rfl) (by omega) rfl (m144 (least := 0) (top := 99) (by omega) (f21 r2 hb2') (TXm_4 hT2 (FRm_4 r2)) r3 (by omega) (by omega) (by omega) (by omega)) ?_)))
              rintro _ w4 u' ⟨⟨_, rfl, s2, s3⟩ | ⟨z, _⟩, rfl⟩
              rotate_left
              exact absurd hf2 z
              refine e_goto o147_73 77 rfl (e_iast o147_77 L84 (by omega) (by omega) (e_al0 o147_78 (e_gR o147_79 L79 rfl rfl (e_ico o147_82 (e_dup2 o147_83 (e_ial o147_84 L82 (by omega) (by omega) ?_))))))
              rw [zg_na (by decide), f82 s2, f82 r2, h82]
              refine e_ico o147_85 (e_add o147_86 (e_iast o147_87 L82 (by omega) (by omega) ?_))
              refine e_rV o147_88 K147 rfl rfl ?_
              have hq : FRm (zu w1 83 (6 + D.np) (zI (tn B N (te B N e)))) w4 := fun a q h => by rw [s2 a q h, r2 a q h, q2 a q h]
              obtain ⟨x1, x2⟩ := MD_port (y := tn B N (te B N (te B N (te B N e)))) h7 hB hP.2.2.2 (by omega) (by omega) q1 hq
              refine ⟨⟨x2, ?_, ?_, x1⟩, rfl⟩
              · rw [zg_na (by decide), zg_na (by decide)]; exact f21 s2 (f21 r2 hb2')
              · unfold RT at s3 ⊢
                have z79 : ∀ q, zg (zu (zu w4 84 (6 + D.np) (zI (tn B N (te B N (te B N (te B N e)))))) 82 4 (zI (D.np + 1))) 79 q = zg w4 79 q := fun q => by rw [zg_na (by decide), zg_na (by decide)]
                rw [z79, z79, z79, z79, z79]
                exact s3
        · refine ⟨.bad (nF B N (te B N (te B N (te B N e))) 0 99) (ts B N (te B N (te B N (te B N e)))), ⟨by omega, by omega, by omega, by omega⟩, ?_, ?_⟩
          · intro d v u hd hP
            refine cgo d v u _ hd hP ?_ (fun w _ z => absurd hf z)
            rintro w y hS ⟨_, rfl, a2, a3⟩
            have hT' := TXc_4 hP.1 (CS4_4 hS)
            refine e_if_ne o80_32 37 rfl (by first | exact zg_rg _ _ _ | exact zt_rg _ | omega) (fun hb32 => ?_) (fun hb32 => ?_)
            · refine e_al0 o80_37 (e_gI o80_38 L1 rfl 4 rfl ?_)
              rw [a3]
              refine e_is1 o80_41 (e_ico o80_42 (e_is2 o80_43 (e_al0 o80_44 (e_gR o80_45 L1 rfl rfl (e_ldcS o80_48 rfl (e_Vi1 o80_50 K80 K38 rfl ⟨rfl, rfl⟩ (zrcv_I L2 rfl) (by omega) rfl (c38 (r := 2) (by omega) (by omega) hT' a2 (by omega) (by omega)) ?_))))))
              rintro _ _ _ ⟨rfl, rfl, rfl⟩
              refine e_bz_eq o80_53 80 rfl (fun hb53 => ?_) (fun hb53 => ?_)
              · exact absurd hw hb53
              · refine e_al0 o80_56 (e_gR o80_57 L1 rfl rfl (e_Vv0 o80_60 K80 K34 rfl ⟨rfl, rfl⟩ (zrcv_I L2 rfl) (by omega) rfl (c34 (e := te B N (te B N (te B N e))) (by omega) hT' a2.2.2.1 (by omega) (by omega)) ?_))
                rintro w2 u' ⟨⟨q1, q2⟩, rfl⟩
                refine e_al0 o80_63 (e_ico o80_64 (e_bip o80_65 rfl (e_Vi2 o80_67 K80 K82 rfl ⟨rfl, rfl⟩ (zrcv_I L1 rfl) (by omega) rfl (c82 (least := 0) (top := 99) (by omega) (TXc_4 hT' (FC_4 q1)) q2 (by omega) (by omega) (by omega) (by omega)) ?_)))
                rintro _ w3 u' ⟨⟨o1, _⟩ | ⟨_, rfl, rfl⟩, rfl⟩
                exact absurd o1 hf2
                refine e_if_ne o80_70 75 rfl (by first | exact zg_rg _ _ _ | exact zt_rg _ | omega) (fun hb70 => ?_) (fun hb70 => ?_)
                · omega
                · refine e_ico o80_73 ?_
                  refine e_rI o80_74 K80 rfl rfl ?_
                  exact ⟨bad_c (o := 0) (FD4_t (CS4_4 hS) (FC_4 q1)) (by omega) (by omega), rfl⟩
            · omega
          · intro d v u hd hP
            refine mgo2 d v u _ hd hP (fun w1 w2 q1 q2 q3 hT2 hb2' h82 => ?_)
            have z1 : FQ4 v w2 := FQ4_t (FRm_4 q1) (FQ4_t (fun a q g1 g2 g3 g4 g5 g6 => zu_ne (by omega)) (FRm_4 q2))
            refine e_al0 o147_51 (e_gR o147_52 L79 rfl rfl (e_il1 o147_55 (e_al0 o147_56 (e_ldc_wS o147_57 rfl (e_Vi1 o147_60 K147 K148 rfl ⟨rfl, rfl⟩ (zrcv_I L79 rfl) (by omega) rfl (m148 (r := 43) (by omega) (by omega) hb2' hT2 q3 (by omega) (by omega)) ?_)))))
            rintro _ w3 u' ⟨⟨_, rfl, r2, r3⟩ | ⟨z, _⟩, rfl⟩
            rotate_left
            exact absurd hw' z
            refine e_if_eq o147_63 76 rfl (by first | exact zg_rg _ _ _ | exact zt_rg _ | omega) (fun hb63 => ?_) (fun hb63 => ?_)
            · omega
            · refine e_al0 o147_66 (e_ico o147_67 (e_bip o147_68 rfl (e_Vi2 o147_70 K147 K144 rfl ⟨rfl, rfl⟩ (zrcv_I L79 rfl) (by omega) rfl (m144 (least := 0) (top := 99) (by omega) (f21 r2 hb2') (TXm_4 hT2 (FRm_4 r2)) r3 (by omega) (by omega) (by omega) (by omega)) ?_)))
              rintro _ w4 u' ⟨⟨z, _⟩ | ⟨_, rfl, rfl⟩, rfl⟩
              exact absurd z hf2
              refine e_goto o147_73 77 rfl (e_iast o147_77 L84 (by omega) (by omega) (e_al0 o147_78 (e_gR o147_79 L79 rfl rfl (e_ico o147_82 (e_dup2 o147_83 (e_ial o147_84 L82 (by omega) (by omega) ?_))))))
              rw [zg_na (by decide), zg_na (by decide), zg_na (by decide), f82 r2, h82]
              refine e_ico o147_85 (e_add o147_86 (e_iast o147_87 L82 (by omega) (by omega) ?_))
              refine e_rV o147_88 K147 rfl rfl ?_
              refine ⟨rOut_t (bad_m (FQ4_t z1 (FRm_4 r2)) (by omega) (by omega)) (fun a q g1 g2 g3 g4 g5 g6 => by rw [zu_ne (by omega), zu_ne (by omega)]) (by rw [zu_ne (by omega), zu_ne (by omega)]) (by rw [zu_ne (by omega), zu_ne (by omega)]), rfl⟩
      · have hw' : ¬ isW B N (te B N (te B N e)) 43 = true := by rw [isW_eq (r := 43) (r' := 2) rfl]; exact hw
        refine ⟨.ok (te B N (te B N e)) (DrP D (tn B N (te B N e)) 1), ⟨by omega, by omega, DrP_B hB h7 hb2.1 hb2.2 (by omega) (by omega), by show (D.L.length : Int) ≤ _; omega, rfl⟩, ?_, ?_⟩
        · intro d v u hd hP
          refine cgo d v u _ hd hP ?_ (fun w _ z => absurd hf z)
          rintro w y hS ⟨_, rfl, a2, a3⟩
          have hT' := TXc_4 hP.1 (CS4_4 hS)
          have hD' : CD D w := CD_w (fun a q g1 g2 => hS a q (by omega) (by omega)) hP.2.2
          refine e_if_ne o80_32 37 rfl (by first | exact zg_rg _ _ _ | exact zt_rg _ | omega) (fun hb32 => ?_) (fun hb32 => ?_)
          · refine e_al0 o80_37 (e_gI o80_38 L1 rfl 4 rfl ?_)
            rw [a3]
            refine e_is1 o80_41 (e_ico o80_42 (e_is2 o80_43 (e_al0 o80_44 (e_gR o80_45 L1 rfl rfl (e_ldcS o80_48 rfl (e_Vi1 o80_50 K80 K38 rfl ⟨rfl, rfl⟩ (zrcv_I L2 rfl) (by omega) rfl (c38 (r := 2) (by omega) (by omega) hT' a2 (by omega) (by omega)) ?_))))))
            rintro _ _ _ ⟨rfl, rfl, rfl⟩
            refine e_bz_eq o80_53 80 rfl (fun hb53 => ?_) (fun hb53 => ?_)
            · refine e_al0 o80_80 (e_gR o80_81 L1 rfl rfl (e_il1 o80_84 (e_il2 o80_85 (e_Vv2 o80_86 K80 K73 rfl ⟨rfl, rfl⟩ (zrcv_I L4 rfl) (by omega) rfl (c73 h7 hB hD' (by omega) (by omega)) ?_))))
              rintro w4 u' ⟨⟨r1, r2⟩, rfl⟩
              refine e_ico o80_89 ?_
              refine e_rI o80_90 K80 rfl rfl ?_
              refine ⟨⟨rfl, FD4_t (CS4_4 hS) (fun a q g1 g2 g3 => r2 a q g3), ?_, r1⟩, rfl⟩
              unfold CT at a2 ⊢
              rw [show zg w4 2 = zg w 2 from zg_fn fun q => r2 2 q (by omega)]
              exact a2
            · exact absurd hb53 hw
          · omega
        · intro d v u hd hP
          refine mgo2 d v u _ hd hP (fun w1 w2 q1 q2 q3 hT2 hb2' h82 => ?_)
          refine e_al0 o147_51 (e_gR o147_52 L79 rfl rfl (e_il1 o147_55 (e_al0 o147_56 (e_ldc_wS o147_57 rfl (e_Vi1 o147_60 K147 K148 rfl ⟨rfl, rfl⟩ (zrcv_I L79 rfl) (by omega) rfl (m148 (r := 43) (by omega) (by omega) hb2' hT2 q3 (by omega) (by omega)) ?_)))))
          rintro _ w3 u' ⟨⟨z, _⟩ | ⟨_, rfl, rfl⟩, rfl⟩
          exact absurd z hw'
          refine e_if_eq o147_63 76 rfl (by first | exact zg_rg _ _ _ | exact zt_rg _ | omega) (fun hb63 => ?_) (fun hb63 => ?_)
          · refine e_ico o147_76 (e_iast o147_77 L84 (by omega) (by omega) (e_al0 o147_78 (e_gR o147_79 L79 rfl rfl (e_ico o147_82 (e_dup2 o147_83 (e_ial o147_84 L82 (by omega) (by omega) ?_))))))
            rw [zg_na (by decide), h82]
            refine e_ico o147_85 (e_add o147_86 (e_iast o147_87 L82 (by omega) (by omega) ?_))
            refine e_rV o147_88 K147 rfl rfl ?_
            obtain ⟨x1, x2⟩ := MD_port (y := 1) h7 hB hP.2.2.2 (by omega) (by omega) q1 q2
            refine ⟨⟨x2, ?_, ?_, x1⟩, rfl⟩
            · rw [zg_na (by decide), zg_na (by decide)]; exact hb2'
            · unfold RT at q3 ⊢
              have z79 : ∀ q, zg (zu (zu w2 84 (6 + D.np) (zI 1)) 82 4 (zI (D.np + 1))) 79 q = zg w2 79 q := fun q => by rw [zg_na (by decide), zg_na (by decide)]
              rw [z79, z79, z79, z79, z79]
              exact q3
          · omega
    · refine ⟨.bad (nF B N (te B N e) 0 40) (ts B N (te B N e)), ⟨by omega, by omega, by omega, by omega⟩, ?_, ?_⟩
      · intro d v u hd hP
        refine cgo d v u _ hd hP (fun w y _ z => absurd z.1 hf) (fun w hS _ => ?_)
        refine e_if_ne o80_32 37 rfl (by first | exact zg_rg _ _ _ | exact zt_rg _ | omega) (fun hb32 => ?_) (fun hb32 => ?_)
        · omega
        · refine e_ico o80_35 ?_
          refine e_rI o80_36 K80 rfl rfl ?_
          exact ⟨bad_c (o := 0) (CS4_4 hS) (by omega) (by omega), rfl⟩
      · intro d v u hd hP
        refine mgo d v u _ hd hP (fun w1 q1 q2 => ?_)
        obtain ⟨hT, hR, hb, hD⟩ := hP
        have hn := hD.1.1
        refine e_bip o147_28 rfl (e_al0 o147_30 (e_gR o147_31 L79 rfl rfl (e_ico o147_34 (e_ial o147_35 L82 (by omega) (by omega) ?_))))
        rw [f82 q1, hn]
        refine e_add o147_36 (e_is1 o147_37 (e_al0 o147_38 (e_gR o147_39 L79 rfl rfl (e_il1 o147_42 (e_al0 o147_43 (e_ico o147_44 (e_bip o147_45 rfl (e_Vi2 o147_47 K147 K144 rfl ⟨rfl, rfl⟩ (zrcv_I L79 rfl) (by omega) rfl (m144 (least := 0) (top := 40) (by omega) (f21 q1 hb) (TXm_4 hT (FRm_4 q1)) q2 (by omega) (by omega) (by omega) (by omega)) ?_))))))))
        rintro _ w2 u' ⟨⟨z, _⟩ | ⟨_, rfl, rfl⟩, rfl⟩
        exact absurd z hf
        refine e_iast o147_50 L83 (by omega) (by omega) (e_al0 o147_51 (e_gR o147_52 L79 rfl rfl (e_il1 o147_55 (e_al0 o147_56 (e_ldc_wS o147_57 rfl (e_Vi1 o147_60 K147 K148 rfl ⟨rfl, rfl⟩ (zrcv_I L79 rfl) (by omega) rfl (m148_d (r := 43) (by omega) (by omega) (by rw [zg_na (by decide), zg_ne (by omega), zg_same (by omega)]; omega)) ?_))))))
        rintro _ _ _ ⟨rfl, rfl, rfl⟩
        refine e_if_eq o147_63 76 rfl (by first | exact zg_rg _ _ _ | exact zt_rg _ | omega) (fun hb63 => ?_) (fun hb63 => ?_)
        · refine e_ico o147_76 (e_iast o147_77 L84 (by omega) (by omega) (e_al0 o147_78 (e_gR o147_79 L79 rfl rfl (e_ico o147_82 (e_dup2 o147_83 (e_ial o147_84 L82 (by omega) (by omega) ?_))))))
          rw [zg_na (by decide), zg_na (by decide), zg_na (by decide), zg_na (by decide), f82 q1, hn]
          refine e_ico o147_85 (e_add o147_86 (e_iast o147_87 L82 (by omega) (by omega) ?_))
          refine e_rV o147_88 K147 rfl rfl ?_
          refine ⟨rOut_t (bad_m (FRm_4 q1) (by omega) (by omega)) (fun a q g1 g2 g3 g4 g5 g6 => by rw [zu_ne (by omega), zu_ne (by omega), zu_ne (by omega)]) (by rw [zu_ne (by omega), zu_ne (by omega), zu_ne (by omega)]) (by rw [zu_ne (by omega), zu_ne (by omega), zu_ne (by omega)]), rfl⟩
        · omega
end
