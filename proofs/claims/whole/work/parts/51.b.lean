section
variable {sc : Nat × (Nat → Int32)} {d : Nat} {v : zV} {u : zU}
def zbt (x : Int64) (s : Int) : Bool := decide (¬ lg_cmp ((x.toUInt64 >>> ((zI s).toInt64.toUInt64 &&& Int64.toUInt64 63)).toInt64 &&& Int64.ofNat 1) (Int64.ofNat 0) = 0)
def bitC (u : zU) (s k : Int) : Bool := zbt (u 35 k) s
theorem c62 {k s : Int} (h0 : 0 ≤ k) (h1 : k < 30) : zEv sc 62 d 0 [.ref 33, .int (zI k), .int (zI s)] [] (zmk v u) 0 0 (zis (zI (zb (bitC u s k = true))) v u) := by
  refine e_al0 o62_0 (e_gR o62_1 L33 rfl rfl (e_il1 o62_4 (e_lal o62_5 L35 (by omega) (by omega) (e_il2 o62_6 (e_lushr o62_7 (e_lco o62_8 (e_land o62_9 (e_lco o62_10 (e_lcmp o62_11 (e_iz_eq o62_12 19 rfl (fun hb12 => ?_) (fun hb12 => ?_)))))))))))
  · refine e_ico o62_19 ?_
    refine e_rI o62_20 K62 (by decide) rfl ?_
    exact ⟨congrArg zI (by unfold zb bitC zbt; first | rw [if_neg (by simpa using hb12)] | rw [if_pos (by simpa using hb12)]), rfl, rfl⟩
  · refine e_ico o62_15 (e_goto o62_16 20 rfl ?_)
    refine e_rI o62_20 K62 (by decide) rfl ?_
    exact ⟨congrArg zI (by unfold zb bitC zbt; first | rw [if_neg (by simpa using hb12)] | rw [if_pos (by simpa using hb12)]), rfl, rfl⟩
/-- the last place below k that is marked -/
def lst (f : Int → Bool) (k : Int) : Int := zfo (fun j x => if f j then j else x) (-1) k
theorem lst_succ {f : Int → Bool} {k : Int} (h : 0 ≤ k) : lst f (k + 1) = if f k then k else lst f k := zfo_succ h
theorem lst_rg {f : Int → Bool} : ∀ k, 0 ≤ k → -1 ≤ lst f k ∧ lst f k < k := by
  refine zup ?_ ?_
  · exact ⟨by rw [lst, zfo_zero]; decide, by rw [lst, zfo_zero]; decide⟩
  · intro k h0 ih
    rw [lst_succ h0]
    split <;> omega
theorem c61 {s k : Int} (hd : 1 ≤ d) (h0 : 0 ≤ k) (h1 : k ≤ 30) : zEv sc 61 d 0 [.ref 33, .int (zI s), .int (zI k), zJ] [] (zmk v u) 0 0 (zis (zI (lst (bitC u s) k)) v u) := by
  have loop : ∀ j, -1 ≤ j → j < 30 → zEv sc 61 d 4 [.ref 33, .int (zI s), .int (zI k), .int (zI j)] [] (zmk v u) 0 0 (zis (zI (lst (bitC u s) (j + 1))) v u) := by
    refine zloopD ?_
    intro j j0 ih j1
    refine e_il3 o61_4 (e_if_lt o61_5 25 rfl (by first | exact zg_rg _ _ _ | exact zt_rg _ | omega) (fun hb5 => ?_) (fun hb5 => ?_))
    · refine e_ico o61_25 ?_
      refine e_rI o61_26 K61 rfl rfl ?_
      exact ⟨by rw [show j + 1 = 0 by omega]; rfl, rfl, rfl⟩
    · refine e_al0 o61_8 (e_il3 o61_9 (e_il1 o61_10 (e_Vi2 o61_11 K61 K62 rfl ⟨rfl, rfl⟩ (zrcv_I L33 rfl) (by omega) rfl (c62 (by omega) (by omega)) ?_)))
      rintro _ _ _ ⟨rfl, rfl, rfl⟩
      refine e_bz_eq o61_14 19 rfl (fun hb14 => ?_) (fun hb14 => ?_)
      · refine e_inc3 o61_19 (e_goto o61_22 4 rfl ?_)
        have e := ih (by omega) (by omega)
        rw [show j + -1 + 1 = j by omega] at e
        rw [lst_succ hb5, if_neg hb14]
        exact e
      · refine e_il3 o61_17 ?_
        refine e_rI o61_18 K61 rfl rfl ?_
        exact ⟨by rw [lst_succ hb5, if_pos hb14], rfl, rfl⟩
  refine e_il2 o61_0 (e_ico o61_1 (e_sub o61_2 (e_is3 o61_3 ?_)))
  have e := loop (k - 1) (by omega) (by omega)
  rw [show k - 1 + 1 = k by omega] at e
  exact e
/-- the port of a stone behind k voyages, by the class's list -/
def ptC (v : zV) (u : zU) (s k : Int) : Int := if lst (bitC u s) k = -1 then zg v 19 s else zg v 34 (lst (bitC u s) k * 6 + 2)
theorem c60 {s k : Int} (hd : 2 ≤ d) (h0 : 0 ≤ k) (h1 : k ≤ 30) (hs : 0 ≤ s) (hs1 : s < 40) : zEv sc 60 d 0 [.ref 33, .ref 16, .int (zI s), .int (zI k), zJ] [] (zmk v u) 0 0 (zis (zI (ptC v u s k)) v u) := by
  have hl := lst_rg (f := bitC u s) k h0
  refine e_al0 o60_0 (e_il2 o60_1 (e_il3 o60_2 (e_Vi2 o60_3 K60 K61 rfl ⟨rfl, rfl⟩ (zrcv_I L33 rfl) (by omega) rfl (c61 (by omega) h0 h1) ?_)))
  rintro _ _ _ ⟨rfl, rfl, rfl⟩
  refine e_is4 o60_6 (e_il4 o60_8 (e_ico o60_10 (e_ic_ne o60_11 23 rfl (by first | exact zg_rg _ _ _ | exact zt_rg _ | omega) (by first | exact zg_rg _ _ _ | exact zt_rg _ | omega) (fun hb11 => ?_) (fun hb11 => ?_))))
  · refine e_al0 o60_23 (e_il4 o60_24 (e_ico o60_26 (e_Vi2 o60_27 K60 K55 rfl ⟨rfl, rfl⟩ (zrcv_I L33 rfl) (by omega) rfl (c55 (by omega) (by omega) (by omega) (by omega)) ?_)))
    rintro _ _ _ ⟨rfl, rfl, rfl⟩
    refine e_rI o60_30 K60 rfl rfl ?_
    first | exact ⟨by rw [ptC, if_pos hb11], rfl, rfl⟩ | exact ⟨by rw [ptC, if_neg hb11], rfl, rfl⟩
  · refine e_al1 o60_14 (e_gR o60_15 L16 rfl rfl (e_il2 o60_18 (e_ial o60_19 L19 (by omega) (by omega) (e_goto o60_20 30 rfl ?_))))
    refine e_rI o60_30 K60 rfl rfl ?_
    first | exact ⟨by rw [ptC, if_pos hb11], rfl, rfl⟩ | exact ⟨by rw [ptC, if_neg hb11], rfl, rfl⟩
def btsC (v : zV) (u : zU) (s k : Int) : Int32 := zfo (fun j x => if bitC u s j then x ||| (1 <<< (zI (zg v 34 (j * 6 + 2)) &&& 31)) else x) (1 <<< (zI (zg v 19 s) &&& 31)) k
theorem c63 {s : Int} (hd : 2 ≤ d) (h2 : 0 ≤ zg v 33 0) (h3 : zg v 33 0 ≤ 30) (hs : 0 ≤ s) (hs1 : s < 40) : zEv sc 63 d 0 [.ref 33, .ref 16, .int (zI s), zJ, zJ] [] (zmk v u) 0 0 (zis (btsC v u s (zg v 33 0)) v u) := by
  have loop : ∀ k, 0 ≤ k → k ≤ zg v 33 0 → zEv sc 63 d 12 [.ref 33, .ref 16, .int (zI s), .int (btsC v u s k), .int (zI k)] [] (zmk v u) 0 0 (zis (btsC v u s (zg v 33 0)) v u) := by
    refine zloop ?_
    intro k k0 k1 ih
    rw [btsC, zfo_succ k0] at ih
    refine e_il4 o63_12 (e_al0 o63_14 (e_gI o63_15 L33 rfl 0 rfl (e_ic_ge o63_18 49 rfl (by first | exact zg_rg _ _ _ | exact zt_rg _ | omega) (by first | exact zg_rg _ _ _ | exact zt_rg _ | omega) (fun hb18 => ?_) (fun hb18 => ?_))))
    · have e : k = zg v 33 0 := by omega
      subst e
      refine e_il3 o63_49 ?_
      refine e_rI o63_50 K63 rfl rfl ?_
      exact ⟨rfl, rfl, rfl⟩
    · refine e_al0 o63_21 (e_il4 o63_22 (e_il2 o63_24 (e_Vi2 o63_25 K63 K62 rfl ⟨rfl, rfl⟩ (zrcv_I L33 rfl) (by omega) rfl (c62 k0 (by omega)) ?_)))
      rintro _ _ _ ⟨rfl, rfl, rfl⟩
      refine e_bz_eq o63_28 43 rfl (fun hb28 => ?_) (fun hb28 => ?_)
      · refine e_inc4 o63_43 (e_goto o63_46 12 rfl ?_)
        first | (rw [if_pos (show bitC u s k = true from hb28)] at ih; exact ih (by omega)) | (rw [if_neg (show ¬ bitC u s k = true from hb28)] at ih; exact ih (by omega))
      · refine e_il3 o63_31 (e_ico o63_32 (e_al0 o63_33 (e_il4 o63_34 (e_ico o63_36 (e_Vi2 o63_37 K63 K55 rfl ⟨rfl, rfl⟩ (zrcv_I L33 rfl) (by omega) rfl (c55 k0 (by omega) (by omega) (by omega)) ?_)))))
        rintro _ _ _ ⟨rfl, rfl, rfl⟩
        refine e_shlR o63_40 (e_orR o63_41 (e_is3 o63_42 (e_inc4 o63_43 (e_goto o63_46 12 rfl ?_))))
        first | (rw [if_pos (show bitC u s k = true from hb28)] at ih; exact ih (by omega)) | (rw [if_neg (show ¬ bitC u s k = true from hb28)] at ih; exact ih (by omega))
  refine e_ico o63_0 (e_al1 o63_1 (e_gR o63_2 L16 rfl rfl (e_il2 o63_5 (e_ial o63_6 L19 (by omega) (by omega) (e_shlR o63_7 (e_is3 o63_8 (e_ico o63_9 (e_is4 o63_10 ?_))))))))
  exact loop 0 (by omega) h2
/-- r is the first of 0 .. n where f holds, -1 if there is none -/
def frst (f : Int → Prop) (n r : Int) : Prop := (r = -1 ∧ ∀ k, 0 ≤ k → k ≤ n → ¬ f k) ∨ (0 ≤ r ∧ r ≤ n ∧ f r ∧ ∀ k, 0 ≤ k → k < r → ¬ f k)
theorem frst_u {f : Int → Prop} {n r r' : Int} (h : frst f n r) (h' : frst f n r') : r = r' := by
  rcases h with ⟨h1, h2⟩ | ⟨h1, h2, h3, h4⟩ <;> rcases h' with ⟨g1, g2⟩ | ⟨g1, g2, g3, g4⟩
  · omega
  · exact absurd g3 (h2 _ g1 g2)
  · exact absurd h3 (g2 _ h1 h2)
  · rcases Int.lt_trichotomy r r' with h | h | h
    · exact absurd h3 (g4 _ h1 h)
    · exact h
    · exact absurd g3 (h4 _ g1 h)
theorem c68 {s o : Int} (hd : 3 ≤ d) (h2 : 0 ≤ zg v 33 0) (h3 : zg v 33 0 ≤ 30) (hs : 0 ≤ s) (hs1 : s < 40) (ho : 0 ≤ o) (ho1 : o < 40) (hr : ∀ s k, -2147483648 ≤ ptC v u s k ∧ ptC v u s k < 2147483648) : zEv sc 68 d 0 [.ref 33, .ref 16, .int (zI s), .int (zI o), zJ] [] (zmk v u) 0 0 (zPi fun x w t => (∃ r, frst (fun k => ptC v u s k = ptC v u o k) (zg v 33 0) r ∧ zI r = x) ∧ v = w ∧ u = t) := by
  have loop : ∀ k, 0 ≤ k → k ≤ zg v 33 0 + 1 → (∀ j, 0 ≤ j → j < k → ¬ ptC v u s j = ptC v u o j) → zEv sc 68 d 3 [.ref 33, .ref 16, .int (zI s), .int (zI o), .int (zI k)] [] (zmk v u) 0 0 (zPi fun x w t => (∃ r, frst (fun k => ptC v u s k = ptC v u o k) (zg v 33 0) r ∧ zI r = x) ∧ v = w ∧ u = t) := by
    refine zloop ?_
    intro k k0 k1 ih hk
    refine e_il4 o68_3 (e_al0 o68_5 (e_gI o68_6 L33 rfl 0 rfl (e_ic_gt o68_9 40 rfl (by first | exact zg_rg _ _ _ | exact zt_rg _ | omega) (by first | exact zg_rg _ _ _ | exact zt_rg _ | omega) (fun hb9 => ?_) (fun hb9 => ?_))))
    · refine e_ico o68_40 ?_
      refine e_rI o68_41 K68 rfl rfl ?_
      exact ⟨⟨-1, Or.inl ⟨rfl, fun j j0 j1 => hk j j0 (by omega)⟩, rfl⟩, rfl, rfl⟩
    · refine e_al0 o68_12 (e_al1 o68_13 (e_il2 o68_14 (e_il4 o68_15 (e_Vi3 o68_17 K68 K60 rfl ⟨rfl, rfl⟩ (zrcv_I L33 rfl) (by omega) rfl (c60 (by omega) k0 (by omega) (by omega) (by omega)) ?_))))
      rintro _ _ _ ⟨rfl, rfl, rfl⟩
      refine e_al0 o68_20 (e_al1 o68_21 (e_il3 o68_22 (e_il4 o68_23 (e_Vi3 o68_25 K68 K60 rfl ⟨rfl, rfl⟩ (zrcv_I L33 rfl) (by omega) rfl (c60 (by omega) k0 (by omega) (by omega) (by omega)) ?_))))
      rintro _ _ _ ⟨rfl, rfl, rfl⟩
      refine e_ic_ne o68_28 34 rfl (hr _ _) (hr _ _) (fun hb28 => ?_) (fun hb28 => ?_)
      · refine e_inc4 o68_34 (e_goto o68_37 3 rfl ?_)
        refine ih (by omega) ?_
        intro j j0 j1
        rcases (show j < k ∨ j = k by omega) with h | h
        · exact hk j j0 h
        · subst h; exact hb28
      · refine e_il4 o68_31 ?_
        refine e_rI o68_33 K68 rfl rfl ?_
        exact ⟨⟨k, Or.inr ⟨k0, by omega, hb28, hk⟩, rfl⟩, rfl, rfl⟩
  refine e_ico o68_0 (e_is4 o68_1 ?_)
  exact loop 0 (by omega) (by omega) (fun j a b => by omega)
theorem ptC_rg (v : zV) (u : zU) (s k : Int) : -2147483648 ≤ ptC v u s k ∧ ptC v u s k < 2147483648 := by
  unfold ptC
  split <;> exact zg_rg _ _ _
/-- how many stones a ship would take -/
def wantC (v : zV) (s c : Int) : Int := if zg v 21 s = 3 then (zg v 22 s - c) / 2 else zg v 22 s - c
theorem c71 {s c : Int} (h0 : 0 ≤ s) (h1 : s < 5) (h2 : 0 ≤ c) (h3 : c ≤ zg v 22 s) (h4 : zg v 22 s ≤ 8) : zEv sc 71 d 0 [.ref 16, .int (zI s), .int (zI c), zJ] [] (zmk v u) 0 0 (zis (zI (wantC v s c)) v u) := by
  refine e_al0 o71_0 (e_gR o71_1 L16 rfl rfl (e_il1 o71_4 (e_ial o71_5 L22 (by omega) (by omega) (e_il2 o71_6 (e_sub o71_7 (e_is3 o71_8 (e_al0 o71_9 (e_gR o71_10 L16 rfl rfl (e_il1 o71_13 (e_ial o71_14 L21 (by omega) (by omega) (e_ico o71_15 (e_ic_ne o71_16 25 rfl (by first | exact zg_rg _ _ _ | exact zt_rg _ | omega) (by first | exact zg_rg _ _ _ | exact zt_rg _ | omega) (fun hb16 => ?_) (fun hb16 => ?_)))))))))))))
  · refine e_il3 o71_25 ?_
    refine e_rI o71_26 K71 rfl rfl ?_
    first | exact ⟨by rw [wantC, if_pos hb16], rfl, rfl⟩ | exact ⟨by rw [wantC, if_neg hb16], rfl, rfl⟩
  · refine e_il3 o71_19 (e_ico o71_20 (e_div o71_21 (by omega) (by omega) (e_goto o71_22 26 rfl ?_)))
    refine e_rI o71_26 K71 rfl rfl ?_
    first | exact ⟨by rw [wantC, if_pos hb16], rfl, rfl⟩ | exact ⟨by rw [wantC, if_neg hb16], rfl, rfl⟩
theorem c43 {k : Int} {x : Int32} (h0 : -6 ≤ k) (h1 : k ≤ -1) : zEv sc 43 d 0 [.ref 24, .int (zI k), .int x, zJ] [] (zmk v u) 0 0 (zdo (zu v 26 (-1 - k) x) u) := by
  refine e_ico o43_0 (e_il1 o43_1 (e_sub o43_2 (e_is3 o43_3 (e_il3 o43_4 (e_if_lt o43_5 21 rfl (by first | exact zg_rg _ _ _ | exact zt_rg _ | omega) (fun hb5 => ?_) (fun hb5 => ?_))))))
  · omega
  · refine e_il3 o43_8 (e_bip o43_9 rfl (e_ic_ge o43_11 21 rfl (by first | exact zg_rg _ _ _ | exact zt_rg _ | omega) (by first | exact zg_rg _ _ _ | exact zt_rg _ | omega) (fun hb11 => ?_) (fun hb11 => ?_)))
    · omega
    · refine e_al0 o43_14 (e_gR o43_15 L24 rfl rfl (e_il3 o43_18 (e_il2 o43_19 (e_iast o43_20 L26 (by omega) (by omega) ?_))))
      refine e_rV o43_21 K43 rfl rfl ?_
      exact ⟨rfl, rfl⟩
end
