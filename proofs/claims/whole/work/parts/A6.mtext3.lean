/-! words of the reference -/
section
variable {sc : Nat × (Nat → Int32)} {d : Nat} {v v0 w : zV} {u : zU} {B : Int → Int} {N : Int}
theorem srcv {r : Nat} (hr : r < 48) {ws : List zC} : zrcv ws (1000 + r) 12 = true := by
  unfold zrcv
  rw [if_neg (by omega)]
  exact decide_eq_true ⟨by omega, rfl⟩
theorem m141_d {r : Nat} (hd : 4 ≤ d) (hr : r < 48) (h : ¬ zg v 79 21 = 0) : zEv sc 141 d 0 [.ref 79, .ref (1000 + r), zJ, zJ] [] (zmk v u) 0 0 (zis (zI 0) v u) := by
  refine e_al0 o141_0 (e_gI o141_1 L79 rfl 21 rfl (e_if_ne o141_4 35 rfl (zg_rg _ _ _) (fun _ => ?_) (fun z => absurd z h)))
  refine e_ico o141_35 (e_is2 o141_36 (e_ico o141_37 (e_is3 o141_38 (e_il2 o141_39 (e_if_eq o141_40 82 rfl (by omega) (fun _ => ?_) (fun z => absurd rfl z))))))
  exact e_il2 o141_82 (e_rI o141_83 K141 rfl rfl ⟨rfl, rfl, rfl⟩)
theorem m141 {e : Int} {r : Nat} (hd : 4 ≤ d) (hr : r < 48) (h : zg v 79 21 = 0) (hT : TXm B N v) (hR : RT B N v e) (e0 : 0 ≤ e) (e1 : e ≤ N) : zEv sc 141 d 0 [.ref 79, .ref (1000 + r), zJ, zJ] [] (zmk v u) 0 0 (zis (zI (zb (isW B N e r = true))) v u) := by
  obtain ⟨⟨n0, n6⟩, hN, hB⟩ := id hT
  obtain ⟨k1, k2, k3, k4, k5⟩ := id hR
  have h1 := ts_in (B := B) e1
  have h2 := te_in (B := B) e1
  have kk := tk_K hR
  have sr := sN_ok hr
  have no : ¬ (tk B N e = 1 ∧ te B N e - ts B N e = sN r) → isW B N e r = false := fun h => by unfold isW; rw [decide_eq_false h]; rfl
  have eq : (tk B N e = 1 ∧ te B N e - ts B N e = sN r) → isW B N e r = wdX B (ts B N e) r (sN r) := fun h => by unfold isW; rw [decide_eq_true h]; rfl
  -- the loop is over
  have dead : ∀ x, isW B N e r = false → zEv sc 141 d 39 [.ref 79, .ref (1000 + r), .int (zI 0), x] [] (zmk v u) 0 0 (zis (zI (zb (isW B N e r = true))) v u) := by
    intro x hw
    refine e_il2 o141_39 (e_if_eq o141_40 82 rfl (by omega) (fun _ => ?_) (fun z => absurd rfl z))
    refine e_il2 o141_82 (e_rI o141_83 K141 rfl rfl ⟨?_, rfl, rfl⟩)
    rw [hw]; rfl
  have loop : (tk B N e = 1 ∧ te B N e - ts B N e = sN r) → ∀ i, 0 ≤ i → i ≤ sN r → wdX B (ts B N e) r i = true → zEv sc 141 d 39 [.ref 79, .ref (1000 + r), .int (zI 1), .int (zI i)] [] (zmk v u) 0 0 (zis (zI (zb (isW B N e r = true))) v u) := by
    intro hk
    refine zloop ?_
    intro i i0 i1 ih hw
    refine e_il2 o141_39 (e_if_eq o141_40 82 rfl (by omega) (fun z => absurd z (by omega)) (fun _ => ?_))
    refine e_il3 o141_43 (e_al1 o141_44 (e_Vi0 o141_45 K141 K226 rfl ⟨rfl, rfl⟩ (srcv hr) (by omega) rfl (s226 (by omega) hr) ?_))
    rintro _ _ _ ⟨rfl, rfl, rfl⟩
    by_cases hi : i < sN r
    · have hc := sC_ok hr i0 hi
      have hb := hB (ts B N e + i) (by omega) (by omega)
      refine e_ic_ge o141_48 82 rfl (by omega) (by omega) (fun z => absurd z (by omega)) (fun _ => ?_)
      refine e_al1 o141_51 (e_il3 o141_52 (e_Vi1 o141_53 K141 K228 rfl ⟨rfl, rfl⟩ (srcv hr) (by omega) rfl (s228 (by omega) hr i0 hi) ?_))
      rintro _ _ _ ⟨rfl, rfl, rfl⟩
      refine e_al0 o141_56 (e_gR o141_57 L79 rfl rfl (e_al0 o141_60 (e_gI o141_61 L79 rfl 19 rfl ?_)))
      rw [k2]
      refine e_il3 o141_64 (e_add o141_65 (e_ial o141_66 L92 (by omega) (by omega) ?_))
      rw [hb.1]
      refine e_ic_ne o141_67 74 rfl (by omega) (by omega) (fun z => ?_) (fun z => ?_)
      · refine e_ico o141_74 (e_is2 o141_75 (e_inc3 o141_76 (e_goto o141_79 39 rfl ?_)))
        exact dead _ (by rw [eq hk, wdX_no i0 (by omega) _ (by omega) hi])
      · refine e_ico o141_70 (e_goto o141_71 75 rfl (e_is2 o141_75 (e_inc3 o141_76 (e_goto o141_79 39 rfl ?_))))
        exact ih hi (by rw [wdX_succ i0, hw, decide_eq_true (by omega)]; rfl)
    · have ei : i = sN r := by omega
      refine e_ic_ge o141_48 82 rfl (by omega) (by omega) (fun _ => ?_) (fun z => absurd z (by omega))
      refine e_il2 o141_82 (e_rI o141_83 K141 rfl rfl ⟨?_, rfl, rfl⟩)
      rw [eq hk, ← ei, hw]; rfl
  refine e_al0 o141_0 (e_gI o141_1 L79 rfl 21 rfl ?_)
  rw [h]
  refine e_if_ne o141_4 35 rfl (by omega) (fun z => absurd rfl z) (fun _ => ?_)
  refine e_al0 o141_7 (e_gI o141_8 L79 rfl 17 rfl (e_ico o141_11 (e_ic_ne o141_12 35 rfl (by omega) (by omega) (fun z => ?_) (fun z => ?_))))
  · refine e_ico o141_35 (e_is2 o141_36 (e_ico o141_37 (e_is3 o141_38 ?_)))
    exact dead _ (no (by omega))
  · refine e_al1 o141_15 (e_Vi0 o141_16 K141 K226 rfl ⟨rfl, rfl⟩ (srcv hr) (by omega) rfl (s226 (by omega) hr) ?_)
    rintro _ _ _ ⟨rfl, rfl, rfl⟩
    refine e_al0 o141_19 (e_gI o141_20 L79 rfl 20 rfl (e_al0 o141_23 (e_gI o141_24 L79 rfl 19 rfl ?_)))
    rw [k3, k2]
    refine e_sub o141_27 (e_ic_ne o141_28 35 rfl (by omega) (by omega) (fun z' => ?_) (fun z' => ?_))
    · refine e_ico o141_35 (e_is2 o141_36 (e_ico o141_37 (e_is3 o141_38 ?_)))
      exact dead _ (no (by omega))
    · refine e_ico o141_31 (e_goto o141_32 36 rfl (e_is2 o141_36 (e_ico o141_37 (e_is3 o141_38 ?_))))
      exact loop ⟨by omega, by omega⟩ 0 (by omega) sr.1 rfl
theorem m148_d {r : Nat} (hd : 5 ≤ d) (hr : r < 48) (h : ¬ zg v 79 21 = 0) : zEv sc 148 d 0 [.ref 79, .ref (1000 + r), zJ] [] (zmk v u) 0 0 (zis (zI 0) v u) := by
  refine e_al0 o148_0 (e_al1 o148_1 (e_Vi1 o148_2 K148 K141 rfl ⟨rfl, rfl⟩ (zrcv_I L79 rfl) (by omega) rfl (m141_d (by omega) hr h) ?_))
  rintro _ _ _ ⟨rfl, rfl, rfl⟩
  refine e_is2 o148_5 (e_il2 o148_6 (e_if_eq o148_7 14 rfl (by omega) (fun _ => ?_) (fun z => absurd rfl z)))
  exact e_il2 o148_14 (e_rI o148_15 K148 rfl rfl ⟨rfl, rfl, rfl⟩)
theorem m148 {e : Int} {r : Nat} (hd : 5 ≤ d) (hr : r < 48) (h : zg v 79 21 = 0) (hT : TXm B N v) (hR : RT B N v e) (e0 : 0 ≤ e) (e1 : e ≤ N) : zEv sc 148 d 0 [.ref 79, .ref (1000 + r), zJ] [] (zmk v u) 0 0 (zPi fun y w t => ((isW B N e r = true ∧ zI 1 = y ∧ FRm v w ∧ RT B N w (te B N e)) ∨ (¬ isW B N e r = true ∧ zI 0 = y ∧ v = w)) ∧ u = t) := by
  have h2 := te_in (B := B) e1
  have h1 := ts_in (B := B) e1
  refine e_al0 o148_0 (e_al1 o148_1 (e_Vi1 o148_2 K148 K141 rfl ⟨rfl, rfl⟩ (zrcv_I L79 rfl) (by omega) rfl (m141 (by omega) hr h hT hR e0 e1) ?_))
  rintro _ _ _ ⟨rfl, rfl, rfl⟩
  refine e_is2 o148_5 (e_il2 o148_6 ?_)
  by_cases hw : isW B N e r = true
  · rw [show zb (isW B N e r = true) = 1 from if_pos hw]
    refine e_if_eq o148_7 14 rfl (by omega) (fun z => absurd z (by omega)) (fun _ => ?_)
    refine e_al0 o148_10 (e_Vv0 o148_11 K148 K134 rfl ⟨rfl, rfl⟩ (zrcv_I L79 rfl) (by omega) rfl (m134 (e := te B N e) (by omega) hT hR.2.2.2.1 (by omega) (by omega)) ?_)
    rintro w u' ⟨⟨q1, q2⟩, rfl⟩
    exact e_il2 o148_14 (e_rI o148_15 K148 rfl rfl ⟨Or.inl ⟨hw, rfl, q1, q2⟩, rfl⟩)
  · rw [show zb (isW B N e r = true) = 0 from if_neg hw]
    refine e_if_eq o148_7 14 rfl (by omega) (fun _ => ?_) (fun z => absurd rfl z)
    exact e_il2 o148_14 (e_rI o148_15 K148 rfl rfl ⟨Or.inr ⟨hw, rfl, rfl⟩, rfl⟩)
/-- the first of n words (from the r-th) that stands behind e -/
def whF (B : Int → Int) (N e : Int) (r : Nat) (n : Int) (k : Int) : Prop := (k = -1 ∧ ∀ j, 0 ≤ j → j < n → ¬ isW B N e (r + j.toNat) = true) ∨ (0 ≤ k ∧ k < n ∧ isW B N e (r + k.toNat) = true ∧ ∀ j, 0 ≤ j → j < k → ¬ isW B N e (r + j.toNat) = true)
theorem m140_g {a : Nat} {rs : List Nat} {e : Int} {r0 : Nat} {P : Int → Bool} (hd : 5 ≤ d) (ha : zLay[a]? = some (3, 12, rs)) (hl : rs.length ≤ 20) (hrs : ∀ j : Int, 0 ≤ j → j < rs.length → rs[j.toNat]? = some (1000 + (r0 + j.toNat)) ∧ r0 + j.toNat < 48) (his : ∀ r, r < 48 → zEv sc 141 (d - 1) 0 [.ref 79, .ref (1000 + r), zJ, zJ] [] (zmk v u) 0 0 (zis (zI (zb (P r = true))) v u)) : zEv sc 140 d 0 [.ref 79, .ref a, zJ] [] (zmk v u) 0 0 (zPi fun y w t => (∃ k, zI k = y ∧ ((k = -1 ∧ ∀ j, 0 ≤ j → j < (rs.length : Int) → ¬ P ((r0 + j.toNat : Nat)) = true) ∨ (0 ≤ k ∧ k < (rs.length : Int) ∧ P ((r0 + k.toNat : Nat)) = true ∧ ∀ j, 0 ≤ j → j < k → ¬ P ((r0 + j.toNat : Nat)) = true))) ∧ v = w ∧ u = t) := by
  have loop : ∀ i, 0 ≤ i → i ≤ (rs.length : Int) → (∀ j, 0 ≤ j → j < i → ¬ P ((r0 + j.toNat : Nat)) = true) → zEv sc 140 d 2 [.ref 79, .ref a, .int (zI i)] [] (zmk v u) 0 0 (zPi fun y w t => (∃ k, zI k = y ∧ ((k = -1 ∧ ∀ j, 0 ≤ j → j < (rs.length : Int) → ¬ P ((r0 + j.toNat : Nat)) = true) ∨ (0 ≤ k ∧ k < (rs.length : Int) ∧ P ((r0 + k.toNat : Nat)) = true ∧ ∀ j, 0 ≤ j → j < k → ¬ P ((r0 + j.toNat : Nat)) = true))) ∧ v = w ∧ u = t) := by
    refine zloop ?_
    intro i i0 i1 ih hn
    refine e_il2 o140_2 (e_al1 o140_3 (e_lenR o140_4 ha ?_))
    by_cases hi : i < (rs.length : Int)
    · obtain ⟨g1, g2⟩ := hrs i i0 hi
      refine e_ic_ge o140_5 26 rfl (by omega) (by omega) (fun z => absurd z (by omega)) (fun _ => ?_)
      refine e_al0 o140_8 (e_al1 o140_9 (e_il2 o140_10 (e_aal o140_11 ha i0 hi (decide_eq_true (by omega)) g1 ?_)))
      refine e_Vi1 o140_12 K140 K141 rfl ⟨rfl, rfl⟩ (zrcv_I L79 rfl) (by omega) rfl (his _ g2) ?_
      rintro _ _ _ ⟨rfl, rfl, rfl⟩
      by_cases hp : P ((r0 + i.toNat : Nat)) = true
      · rw [show zb (P ((r0 + i.toNat : Nat)) = true) = 1 from if_pos hp]
        refine e_if_eq o140_15 20 rfl (by omega) (fun z => absurd z (by omega)) (fun _ => ?_)
        exact e_il2 o140_18 (e_rI o140_19 K140 rfl rfl ⟨⟨i, rfl, Or.inr ⟨i0, hi, hp, hn⟩⟩, rfl, rfl⟩)
      · rw [show zb (P ((r0 + i.toNat : Nat)) = true) = 0 from if_neg hp]
        refine e_if_eq o140_15 20 rfl (by omega) (fun _ => ?_) (fun z => absurd rfl z)
        refine e_inc2 o140_20 (e_goto o140_23 2 rfl ?_)
        refine ih hi (fun j j0 j1 => ?_)
        rcases (show j < i ∨ j = i by omega) with z | z
        · exact hn j j0 z
        · rw [z]; exact hp
    · refine e_ic_ge o140_5 26 rfl (by omega) (by omega) (fun _ => ?_) (fun z => absurd z (by omega))
      exact e_ico o140_26 (e_rI o140_27 K140 rfl rfl ⟨⟨-1, rfl, Or.inl ⟨rfl, fun j j0 j1 => hn j j0 (by omega)⟩⟩, rfl, rfl⟩)
  exact e_ico o140_0 (e_is2 o140_1 (loop 0 (by omega) (by omega) (fun j j0 j1 => by omega)))
end
