section
variable {sc : Nat × (Nat → Int32)} {d : Nat} {v v0 : zV} {u : zU}
theorem m185_no (h : zg v 79 30 = zg v 79 31) : zEv sc 185 d 0 [.ref 79, zJ] [] (zmk v u) 0 0 (zis (zI (-1)) (zu v 79 2 (zI 0)) u) := by
  refine e_al0 o185_0 (e_ico o185_1 (e_pI o185_2 L79 rfl rfl rfl rfl 2 rfl (e_al0 o185_5 (e_gI o185_6 L79 rfl 30 rfl (e_al0 o185_9 (e_gI o185_10 L79 rfl 31 rfl ?_))))))
  rw [zg_ne (by omega), zg_ne (by omega)]
  refine e_ic_ne o185_13 18 rfl (by first | exact zg_rg _ _ _ | exact zt_rg _ | omega) (by first | exact zg_rg _ _ _ | exact zt_rg _ | omega) (fun hb13 => ?_) (fun hb13 => ?_)
  · exact absurd h hb13
  · refine e_ico o185_16 ?_
    refine e_rI o185_17 K185 rfl rfl ?_
    exact ⟨rfl, rfl, rfl⟩
theorem m185_ok {c : Int} (hc : zg v 79 30 = c) (c0 : 1 ≤ c) (c1 : c ≤ 30) (h : ¬ zg v 79 30 = zg v 79 31) : zEv sc 185 d 0 [.ref 79, zJ] [] (zmk v u) 0 0 (zis (zI (c - 1)) (zcp (zu (zu v 79 2 (zI 0)) 79 30 (zI (c - 1))) 95 93 (171 * (c - 1)) 0 171) u) := by
  have loop : ∀ q, 0 ≤ q → q ≤ 171 → zEv sc 185 d 30 [.ref 79, .int (zI q)] [] (zmk (zcp (zu (zu v 79 2 (zI 0)) 79 30 (zI (c - 1))) 95 93 (171 * (c - 1)) 0 q) u) 0 0 (zis (zI (c - 1)) (zcp (zu (zu v 79 2 (zI 0)) 79 30 (zI (c - 1))) 95 93 (171 * (c - 1)) 0 171) u) := by
    refine zloop ?_
    intro q q0 q1 ih
    have ez : zg (zcp (zu (zu v 79 2 (zI 0)) 79 30 (zI (c - 1))) 95 93 (171 * (c - 1)) 0 q) 79 30 = c - 1 := by
      simp only [zg, zcp]
      rw [if_neg (by omega), zu_same, zI_to (by omega)]
    refine e_il1 o185_30 (e_sip o185_31 rfl (e_ic_ge o185_34 64 rfl (by first | exact zg_rg _ _ _ | exact zt_rg _ | omega) (by first | exact zg_rg _ _ _ | exact zt_rg _ | omega) (fun hb34 => ?_) (fun hb34 => ?_)))
    · have e : q = 171 := by omega
      subst e
      refine e_al0 o185_64 (e_gI o185_65 L79 rfl 30 rfl ?_)
      rw [ez]
      refine e_rI o185_68 K185 rfl rfl ?_
      exact ⟨rfl, rfl, rfl⟩
    · refine e_al0 o185_37 (e_gR o185_38 L79 rfl rfl (e_il1 o185_41 (e_al0 o185_42 (e_gR o185_43 L79 rfl rfl (e_sip o185_46 rfl (e_al0 o185_49 (e_gI o185_50 L79 rfl 30 rfl ?_)))))))
      rw [ez]
      refine e_mul o185_53 (e_il1 o185_54 (e_add o185_55 (e_ial o185_56 L95 (by omega) (by omega) (e_iast o185_57 L93 (by omega) (by omega) (e_inc1 o185_58 (e_goto o185_61 30 rfl ?_))))))
      refine zEv_w (ih (by omega)) ?_
      rw [zI_g, zcp_step q0, Int.zero_add]
      congr 1
  refine e_al0 o185_0 (e_ico o185_1 (e_pI o185_2 L79 rfl rfl rfl rfl 2 rfl (e_al0 o185_5 (e_gI o185_6 L79 rfl 30 rfl (e_al0 o185_9 (e_gI o185_10 L79 rfl 31 rfl ?_))))))
  rw [zg_ne (by omega), zg_ne (by omega)]
  refine e_ic_ne o185_13 18 rfl (by first | exact zg_rg _ _ _ | exact zt_rg _ | omega) (by first | exact zg_rg _ _ _ | exact zt_rg _ | omega) (fun hb13 => ?_) (fun hb13 => ?_)
  · refine e_al0 o185_18 (e_dupR o185_19 (e_gI o185_20 L79 rfl 30 rfl ?_))
    rw [zg_ne (by omega), hc]
    refine e_ico o185_23 (e_sub o185_24 (e_pI o185_25 L79 rfl rfl rfl rfl 30 rfl (e_ico o185_28 (e_is1 o185_29 ?_))))
    have e := loop 0 (by omega) (by omega)
    rw [show zcp (zu (zu v 79 2 (zI 0)) 79 30 (zI (c - 1))) 95 93 (171 * (c - 1)) 0 0 = zu (zu v 79 2 (zI 0)) 79 30 (zI (c - 1)) from by funext a j; simp only [zcp]; rw [if_neg (by omega)]] at e
    exact e
  · exact absurd hb13 h
/-- the last voyage undone on both sides -/
theorem RS_undo {v1 v2 : zV} {X : Int → zPL} {c k f : Int} (hB : WB v) (h : RSx v u X) (hc : zg v 33 0 = c) (hb : zg v 33 1 < c) (hk : lg v (c - 1) 0 = k) (hf : lg v (c - 1) 1 = f) (g1 : ∀ a q, ¬ (30 ≤ a ∧ a ≤ 32) → ¬ a = 45 → ¬ a = 46 → ¬ (a = 33 ∧ q = 0) → ¬ (a = 38 ∧ q = k) → v1 a q = v a q) (g2 : zg v1 33 0 = c - 1) (g3 : zg v1 38 k = f) (g4 : CS v1 (X (c - 1)).1 (X (c - 1)).2) (g5 : v2 = zcp (zu (zu v1 79 2 (zI 0)) 79 30 (zI (c - 1))) 95 93 (171 * (c - 1)) 0 171) : RSx v2 u X := by
  obtain ⟨a1, a2, a3, a4, a5, a6, a7, a8, a9, a10⟩ := h
  rw [hc] at a1 a2 a3 a4 a5 a6
  have fr : ∀ a q, ¬ (a = 93 ∧ 0 ≤ q ∧ q < 171) → ¬ (a = 79 ∧ q = 2) → ¬ (a = 79 ∧ q = 30) → v2 a q = v1 a q := by
    intro a q h1 h2 h3
    rw [g5, zcp, if_neg (by omega), zu_ne h3, zu_ne h2]
  have lo : ∀ a q, a < 79 → v2 a q = v1 a q := fun a q h => fr a q (by omega) (by omega) (by omega)
  have w2 : ∀ a q, 16 ≤ a → a ≤ 23 → v2 a q = v a q := fun a q h1 h2 => by rw [lo a q (by omega), g1 a q (by omega) (by omega) (by omega) (by omega) (by omega)]
  have all : ∀ a q, ¬ (30 ≤ a ∧ a ≤ 32) → ¬ a = 45 → ¬ a = 46 → ¬ (a = 33 ∧ q = 0) → ¬ (a = 38 ∧ q = k) → ¬ (a = 93 ∧ 0 ≤ q ∧ q < 171) → ¬ (a = 79 ∧ q = 2) → ¬ (a = 79 ∧ q = 30) → v2 a q = v a q := fun a q h1 h2 h3 h4 h5 h6 h7 h8 => by rw [fr a q h6 h7 h8, g1 a q h1 h2 h3 h4 h5]
  have eN2 : stN v2 = stN v := stN_w3 w2
  have eK2 : tkS v2 = tkS v := tkS_w3 w2
  have z16 : zg v2 16 = zg v 16 := zg_fn fun q => w2 16 q (by omega) (by omega)
  have z19 : zg v2 19 = zg v 19 := zg_fn fun q => w2 19 q (by omega) (by omega)
  have zlo : ∀ a, a < 79 → zg v2 a = zg v1 a := fun a h => zg_fn fun q => lo a q h
  have zal : ∀ a, ¬ (30 ≤ a ∧ a ≤ 33) → ¬ a = 45 → ¬ a = 46 → ¬ a = 38 → ¬ a = 93 → ¬ a = 79 → zg v2 a = zg v a := fun a h1 h2 h3 h4 h5 h6 => zg_fn fun q => all a q (by omega) h2 h3 (by omega) (by omega) (by omega) (by omega) (by omega)
  have z33 : zg v2 33 0 = c - 1 := by rw [zlo 33 (by omega)]; exact g2
  have z331 : zg v2 33 1 = zg v 33 1 := by
    simp only [zg]
    rw [all 33 1 (by omega) (by omega) (by omega) (by omega) (by omega) (by omega) (by omega) (by omega)]
  have z34 : zg v2 34 = zg v 34 := zal 34 (by omega) (by omega) (by omega) (by omega) (by omega) (by omega)
  have l34 : lg v2 = lg v := by funext i w; simp only [lg]; rw [z34]
  have hr : ∀ i q, 0 ≤ i → i < c → 0 ≤ q → q < 171 → hrow v2 i q = hrow v i q := by
    intro i q i0 i1 q0 q1
    unfold hrow
    rw [z33, hc, if_neg (show ¬ i = c by omega)]
    by_cases e : i = c - 1
    · rw [if_pos e, g5, zcp, if_pos ⟨rfl, q0, by omega⟩, zu_ne (by omega), zu_ne (by omega), g1 95 _ (by omega) (by omega) (by omega) (by omega) (by omega), e, show 171 * (c - 1) + (q - 0) = 171 * (c - 1) + q by omega]
    · rw [if_neg e, all 95 _ (by omega) (by omega) (by omega) (by omega) (by omega) (by omega) (by omega) (by omega)]
  have n0 := hB.2.1
  have b0 := hB.1
  have b3 := hB.2.2.1
  have pold : ∀ s i, 0 ≤ i → ptC v2 u s i = ptC v u s i ∧ lst (bitC u s) i = lst (bitC u s) i ∧ btsC v2 u s i = btsC v u s i := fun s i i0 => ptC_ext (by rw [z19]) i i0 (fun j j0 j1 => ⟨rfl, by rw [z34]⟩)
  refine ⟨?_, ?_, ?_, ?_, ?_, ?_, ?_, ?_, ?_, ?_⟩
  · rw [z33, z331]
    refine ⟨by omega, by omega, ?_, by omega, by omega, ?_⟩
    · rw [g5]
      simp only [zg, zcp]
      rw [if_neg (by omega), zu_same, zI_to (by omega)]
    · simp only [zg]
      rw [all 79 31 (by omega) (by omega) (by omega) (by omega) (by omega) (by omega) (by omega) (by omega)]
      exact a1.2.2.2.2.2
  · rw [z33]
    exact CS_w3 (v0 := v1) (fun a q h1 h2 => lo a q (by omega)) (fun a q h1 h2 => lo a q (by omega)) g4
  · rw [z331, z33, z16]
    intro i i0 i1
    obtain ⟨p1, p2⟩ := a3 i i0 (by omega)
    refine ⟨VS_w3 w2 p1, fun s s0 s1 => ?_⟩
    rw [hr i _ (by omega) (by omega) (by omega) (by omega), hr i _ (by omega) (by omega) (by omega) (by omega)]
    exact p2 s s0 s1
  · rw [z331, z33, z16, eN2, eK2, l34, zal 36 (by omega) (by omega) (by omega) (by omega) (by omega) (by omega)]
    intro i i0 i1
    obtain ⟨p1, p2, p3, p4⟩ := a4 i i0 (by omega)
    refine ⟨p1, p2, p3, fun j j0 j1 => ?_⟩
    rw [hr i _ (by omega) (by omega) (by omega) (by omega), hr (i + 1) _ (by omega) (by omega) (by omega) (by omega)]
    exact p4 j j0 j1
  · rw [z33, z16, l34]
    intro i i0 i1
    obtain ⟨p1, p2, p3, p4, p5, p6⟩ := a5 i i0 (by omega)
    refine ⟨p1, p2, p3, p4, p5, fun w w0 w1 => ?_⟩
    rw [all 99 _ (by omega) (by omega) (by omega) (by omega) (by omega) (by omega) (by omega) (by omega), all 34 _ (by omega) (by omega) (by omega) (by omega) (by omega) (by omega) (by omega) (by omega)]
    exact p6 w w0 w1
  · rw [z33, z16, zal 37 (by omega) (by omega) (by omega) (by omega) (by omega) (by omega)]
    intro i i0 i1
    obtain ⟨p1, p2⟩ := a6 i i0 (by omega)
    refine ⟨fun s s0 s1 => ?_, fun p p0 p1' => ?_⟩
    · rw [hr i _ (by omega) (by omega) (by omega) (by omega), hr i _ (by omega) (by omega) (by omega) (by omega), hr i _ (by omega) (by omega) (by omega) (by omega), (pold s i (by omega)).1, (pold s i (by omega)).2.2]
      exact p1 s s0 s1
    · rw [hr i _ (by omega) (by omega) (by omega) (by omega)]
      exact p2 p p0 p1'
  · rw [z16]
    intro i i0 i1
    have e1 : zg v2 93 (166 + i) = (hrow v (c - 1) (166 + i)).toInt := by
      rw [← hr (c - 1) _ (by omega) (by omega) (by omega) (by omega)]
      unfold hrow
      rw [z33, if_pos rfl]
      rfl
    have e2 := (a4 (c - 1) (by omega) (by omega)).2.2.2 i i0 i1
    have e3 : (hrow v (c - 1 + 1) (166 + i)).toInt = zg v 93 (166 + i) := by
      unfold hrow
      rw [hc, if_pos (by omega)]
      rfl
    rw [hk, hf, e3] at e2
    rw [e1, e2, zlo 38 (by omega)]
    by_cases e : i = k
    · subst e
      rw [if_pos rfl, g3]
      refine ⟨rfl, ?_⟩
      rw [← hf]
      exact (a5 (c - 1) (by omega) (by omega)).2.1
    · rw [if_neg e]
      have e4 : zg v1 38 i = zg v 38 i := by
        simp only [zg]
        rw [g1 38 i (by omega) (by omega) (by omega) (by omega) (by omega)]
      rw [e4]
      exact a7 i i0 i1
  · have y79 : zg v2 79 32 = zg v 79 32 := by
      simp only [zg]
      rw [all 79 32 (by omega) (by omega) (by omega) (by omega) (by omega) (by omega) (by omega) (by omega)]
    rw [zal 28 (by omega) (by omega) (by omega) (by omega) (by omega) (by omega), zal 39 (by omega) (by omega) (by omega) (by omega) (by omega) (by omega), zal 40 (by omega) (by omega) (by omega) (by omega) (by omega) (by omega), zal 100 (by omega) (by omega) (by omega) (by omega) (by omega) (by omega), zal 101 (by omega) (by omega) (by omega) (by omega) (by omega) (by omega), z16, y79]
    exact a8
  · have y79 : zg v2 79 33 = zg v 79 33 := by
      simp only [zg]
      rw [all 79 33 (by omega) (by omega) (by omega) (by omega) (by omega) (by omega) (by omega) (by omega)]
    rw [zal 28 (by omega) (by omega) (by omega) (by omega) (by omega) (by omega), zal 41 (by omega) (by omega) (by omega) (by omega) (by omega) (by omega), zal 42 (by omega) (by omega) (by omega) (by omega) (by omega) (by omega), zal 43 (by omega) (by omega) (by omega) (by omega) (by omega) (by omega), zal 105 (by omega) (by omega) (by omega) (by omega) (by omega) (by omega), zal 106 (by omega) (by omega) (by omega) (by omega) (by omega) (by omega), zal 107 (by omega) (by omega) (by omega) (by omega) (by omega) (by omega), z16, y79]
    exact a9
  · intro i i0 i1
    rw [all 91 _ (by omega) (by omega) (by omega) (by omega) (by omega) (by omega) (by omega) (by omega), all 44 _ (by omega) (by omega) (by omega) (by omega) (by omega) (by omega) (by omega) (by omega)]
    exact a10 i i0 i1
end
