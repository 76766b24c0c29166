/-! which stone is taken next -/
section
variable {sc : Nat × (Nat → Int32)} {d : Nat} {v : zV} {u : zU}
/-- r is the last of the greatest -/
def bestP (f : Int → Int) (n r : Int) : Prop := (n = 0 ∧ r = -1) ∨ (0 ≤ r ∧ r < n ∧ ∀ i, 0 ≤ i → i < n → f i < f r ∨ (f i = f r ∧ i ≤ r))
theorem c23 {p : Int} (hd : 1 ≤ d) (h0 : 0 ≤ p) (h1 : p < 6) (hl : 0 ≤ zg v 30 p ∧ zg v 30 p ≤ 40) (hs : ∀ i, 0 ≤ i → i < zg v 30 p → 0 ≤ zg v 31 (p * 40 + i) ∧ zg v 31 (p * 40 + i) < 40 ∧ 0 ≤ zg v 20 (zg v 31 (p * 40 + i))) : zEv sc 23 d 0 [.ref 29, .ref 16, .int (zI p), zJ, zJ, zJ, zJ] [] (zmk v u) 0 0 (zPi fun x w t => (∃ r, bestP (fun i => zg v 20 (zg v 31 (p * 40 + i))) (zg v 30 p) r ∧ zI r = x) ∧ v = w ∧ u = t) := by
  have loop : ∀ k, 0 ≤ k → k ≤ zg v 30 p → ∀ b r y, bestP (fun i => zg v 20 (zg v 31 (p * 40 + i))) k r → (r = -1 → b = -1) → (0 ≤ r → b = zg v 20 (zg v 31 (p * 40 + r))) → (-2147483648 ≤ b ∧ b < 2147483648) → zEv sc 23 d 8 [.ref 29, .ref 16, .int (zI p), .int (zI b), .int (zI r), .int (zI k), y] [] (zmk v u) 0 0 (zPi fun x w t => (∃ r, bestP (fun i => zg v 20 (zg v 31 (p * 40 + i))) (zg v 30 p) r ∧ zI r = x) ∧ v = w ∧ u = t) := by
    refine zloop ?_
    intro k k0 k1 ih b r y hb hr1 hr2 hbr
    refine e_il5 o23_8 (e_al0 o23_10 (e_gR o23_11 L29 rfl rfl (e_il2 o23_14 (e_ial o23_15 L30 (by omega) (by omega) (e_ic_ge o23_16 52 rfl (by first | exact zg_rg _ _ _ | exact zt_rg _ | omega) (by first | exact zg_rg _ _ _ | exact zt_rg _ | omega) (fun hb16 => ?_) (fun hb16 => ?_))))))
    · refine e_il4 o23_52 ?_
      refine e_rI o23_54 K23 rfl rfl ?_
      have e : k = zg v 30 p := by omega
      subst e
      exact ⟨⟨r, hb, rfl⟩, rfl, rfl⟩
    · obtain ⟨g0, g1, g2⟩ := hs k k0 hb16
      refine e_al1 o23_19 (e_gR o23_20 L16 rfl rfl (e_al0 o23_23 (e_il2 o23_24 (e_il5 o23_25 (e_Vi2 o23_27 K23 K24 rfl ⟨rfl, rfl⟩ (zrcv_I L29 rfl) (by omega) rfl (c24 h0 h1 k0 (by omega)) ?_)))))
      rintro _ _ _ ⟨rfl, rfl, rfl⟩
      refine e_ial o23_30 L20 (by omega) (by omega) (e_is6 o23_31 (e_il6 o23_33 (e_il3 o23_35 (e_ic_lt o23_36 46 rfl (by first | exact zg_rg _ _ _ | exact zt_rg _ | omega) (by first | exact zg_rg _ _ _ | exact zt_rg _ | omega) (fun hb36 => ?_) (fun hb36 => ?_)))))
      · refine e_inc5 o23_46 (e_goto o23_49 8 rfl (ih (by omega) b r _ ?_ hr1 hr2 hbr))
        rcases hb with ⟨e1, e2⟩ | ⟨e1, e2, e3⟩
        · have := hr1 e2
          omega
        · have e5 := hr2 e1
          refine Or.inr ⟨e1, by omega, fun i i0 i1 => ?_⟩
          rcases (show i < k ∨ i = k by omega) with e | e
          · exact e3 i i0 e
          · subst e
            left
            show zg v 20 (zg v 31 (p * 40 + i)) < zg v 20 (zg v 31 (p * 40 + r))
            omega
      · refine e_il6 o23_39 (e_is3 o23_41 (e_il5 o23_42 (e_is4 o23_44 (e_inc5 o23_46 (e_goto o23_49 8 rfl (ih (by omega) (zg v 20 (zg v 31 (p * 40 + k))) k _ ?_ (fun e => by omega) (fun _ => rfl) (zg_rg _ _ _)))))))
        refine Or.inr ⟨k0, by omega, fun i i0 i1 => ?_⟩
        rcases (show i < k ∨ i = k by omega) with e | e
        · rcases hb with ⟨e1, e2⟩ | ⟨e1, e2, e3⟩
          · omega
          · have e5 := hr2 e1
            have e4 := e3 i i0 e
            show zg v 20 (zg v 31 (p * 40 + i)) < zg v 20 (zg v 31 (p * 40 + k)) ∨ (zg v 20 (zg v 31 (p * 40 + i)) = zg v 20 (zg v 31 (p * 40 + k)) ∧ i ≤ k)
            have e4' : zg v 20 (zg v 31 (p * 40 + i)) < zg v 20 (zg v 31 (p * 40 + r)) ∨ (zg v 20 (zg v 31 (p * 40 + i)) = zg v 20 (zg v 31 (p * 40 + r)) ∧ i ≤ r) := e4
            omega
        · subst e
          exact Or.inr ⟨rfl, Int.le_refl _⟩
  refine e_ico o23_0 (e_is3 o23_1 (e_ico o23_2 (e_is4 o23_3 (e_ico o23_5 (e_is5 o23_6 ?_)))))
  exact loop 0 (by omega) hl.1 (-1) (-1) _ (Or.inl ⟨rfl, rfl⟩) (fun _ => rfl) (fun e => by omega) (by omega)
def lastP (f : Int → Prop) (n r : Int) : Prop := (r = -1 ∧ ∀ i, 0 ≤ i → i < n → ¬ f i) ∨ (0 ≤ r ∧ r < n ∧ f r ∧ ∀ i, r < i → i < n → ¬ f i)
theorem c25 {p o : Int} (hd : 1 ≤ d) (h0 : 0 ≤ p) (h1 : p < 6) (hl : 0 ≤ zg v 30 p ∧ zg v 30 p ≤ 40) (ho : -2147483648 ≤ o ∧ o < 2147483648) (hs : ∀ i, 0 ≤ i → i < zg v 30 p → 0 ≤ zg v 31 (p * 40 + i) ∧ zg v 31 (p * 40 + i) < 40) : zEv sc 25 d 0 [.ref 29, .ref 16, .int (zI p), .int (zI o), zJ] [] (zmk v u) 0 0 (zPi fun x w t => (∃ r, lastP (fun i => zg v 19 (zg v 31 (p * 40 + i)) = o) (zg v 30 p) r ∧ zI r = x) ∧ v = w ∧ u = t) := by
  have loop : ∀ k, -1 ≤ k → k < zg v 30 p → (∀ i, k < i → i < zg v 30 p → ¬ zg v 19 (zg v 31 (p * 40 + i)) = o) → zEv sc 25 d 10 [.ref 29, .ref 16, .int (zI p), .int (zI o), .int (zI k)] [] (zmk v u) 0 0 (zPi fun x w t => (∃ r, lastP (fun i => zg v 19 (zg v 31 (p * 40 + i)) = o) (zg v 30 p) r ∧ zI r = x) ∧ v = w ∧ u = t) := by
    refine zloopD ?_
    intro k k0 ih k1 hk
    refine e_il4 o25_10 (e_if_lt o25_12 40 rfl (by first | exact zg_rg _ _ _ | exact zt_rg _ | omega) (fun hb12 => ?_) (fun hb12 => ?_))
    · refine e_ico o25_40 ?_
      refine e_rI o25_41 K25 rfl rfl ?_
      exact ⟨⟨-1, Or.inl ⟨rfl, fun i i0 i1 => hk i (by omega) i1⟩, rfl⟩, rfl, rfl⟩
    · obtain ⟨g0, g1⟩ := hs k hb12 k1
      refine e_al1 o25_15 (e_gR o25_16 L16 rfl rfl (e_al0 o25_19 (e_il2 o25_20 (e_il4 o25_21 (e_Vi2 o25_23 K25 K24 rfl ⟨rfl, rfl⟩ (zrcv_I L29 rfl) (by omega) rfl (c24 h0 h1 hb12 (by omega)) ?_)))))
      rintro _ _ _ ⟨rfl, rfl, rfl⟩
      refine e_ial o25_26 L19 (by omega) (by omega) (e_il3 o25_27 (e_ic_ne o25_28 34 rfl (by first | exact zg_rg _ _ _ | exact zt_rg _ | omega) (by first | exact zg_rg _ _ _ | exact zt_rg _ | omega) (fun hb28 => ?_) (fun hb28 => ?_)))
      · refine e_inc4 o25_34 (e_goto o25_37 10 rfl ?_)
        refine ih hb12 (by omega) (fun i i0 i1 => ?_)
        rcases (show k < i ∨ i = k by omega) with e | e
        · exact hk i e i1
        · subst e; exact hb28
      · refine e_il4 o25_31 ?_
        refine e_rI o25_33 K25 rfl rfl ?_
        exact ⟨⟨k, Or.inr ⟨hb12, k1, hb28, hk⟩, rfl⟩, rfl, rfl⟩
  refine e_al0 o25_0 (e_gR o25_1 L29 rfl rfl (e_il2 o25_4 (e_ial o25_5 L30 (by omega) (by omega) (e_ico o25_6 (e_sub o25_7 (e_is4 o25_8 ?_))))))
  exact loop (zg v 30 p - 1) (by omega) (by omega) (fun i a b => by omega)
/-- how much a ship would have a stone that lies at a place -/
def wsh (v : zV) (k s i : Int) : Int := 40 * (if zg v 21 k = 1 then zg v 20 s else if zg v 21 k = 2 ∧ zg v 19 s = zg v 23 k then 1 else 0) + i
/-- the place from which a ship takes next -/
def TK (v : zV) (p k r : Int) : Prop := (zg v 30 p = 0 ∧ r = -1) ∨ (0 ≤ r ∧ r < zg v 30 p ∧ ∀ i, 0 ≤ i → i < zg v 30 p → wsh v k (zg v 31 (p * 40 + i)) i ≤ wsh v k (zg v 31 (p * 40 + r)) r)
theorem wsh_1 {k s i : Int} (h : zg v 21 k = 1) : wsh v k s i = 40 * zg v 20 s + i := by rw [wsh, if_pos h]
theorem wsh_2 {k s i : Int} (h : zg v 21 k = 2) : wsh v k s i = 40 * (if zg v 19 s = zg v 23 k then 1 else 0) + i := by
  rw [wsh, if_neg (by omega)]
  simp only [h, true_and]
theorem wsh_3 {k s i : Int} (h : ¬ zg v 21 k = 1) (h2 : ¬ zg v 21 k = 2) : wsh v k s i = i := by
  rw [wsh, if_neg h, if_neg (fun e => h2 e.1)]
  omega
theorem tk1 {p k r : Int} (hl : 0 ≤ zg v 30 p ∧ zg v 30 p ≤ 40) (h : zg v 21 k = 1) (hr : bestP (fun i => zg v 20 (zg v 31 (p * 40 + i))) (zg v 30 p) r) (h1 : ¬ r = -1) : TK v p k r := by
  rcases hr with ⟨e1, e2⟩ | ⟨e1, e2, e3⟩
  · exact absurd e2 h1
  · refine Or.inr ⟨e1, e2, fun i i0 i1 => ?_⟩
    rw [wsh_1 h, wsh_1 h]
    have e4 : zg v 20 (zg v 31 (p * 40 + i)) < zg v 20 (zg v 31 (p * 40 + r)) ∨ (zg v 20 (zg v 31 (p * 40 + i)) = zg v 20 (zg v 31 (p * 40 + r)) ∧ i ≤ r) := e3 i i0 i1
    omega
theorem tk1' {p k r : Int} (hr : bestP (fun i => zg v 20 (zg v 31 (p * 40 + i))) (zg v 30 p) r) (h1 : r = -1) : TK v p k (zg v 30 p - 1) := by
  rcases hr with ⟨e1, e2⟩ | ⟨e1, e2, e3⟩
  · exact Or.inl ⟨e1, by omega⟩
  · omega
theorem tk2 {p k r : Int} (hl : 0 ≤ zg v 30 p ∧ zg v 30 p ≤ 40) (h : zg v 21 k = 2) (hr : lastP (fun i => zg v 19 (zg v 31 (p * 40 + i)) = zg v 23 k) (zg v 30 p) r) (h1 : ¬ r = -1) : TK v p k r := by
  rcases hr with ⟨e1, e2⟩ | ⟨e1, e2, e3, e4⟩
  · exact absurd e1 h1
  · refine Or.inr ⟨e1, e2, fun i i0 i1 => ?_⟩
    rw [wsh_2 h, wsh_2 h, if_pos e3]
    by_cases hi : r < i
    · rw [if_neg (e4 i hi i1)]; omega
    · split <;> omega
theorem tk2' {p k r : Int} (hl : 0 ≤ zg v 30 p ∧ zg v 30 p ≤ 40) (h : zg v 21 k = 2) (hr : lastP (fun i => zg v 19 (zg v 31 (p * 40 + i)) = zg v 23 k) (zg v 30 p) r) (h1 : r = -1) : TK v p k (zg v 30 p - 1) := by
  rcases hr with ⟨e1, e2⟩ | ⟨e1, e2, e3, e4⟩
  · by_cases h0 : zg v 30 p = 0
    · exact Or.inl ⟨h0, by omega⟩
    · refine Or.inr ⟨by omega, by omega, fun i i0 i1 => ?_⟩
      rw [wsh_2 h, wsh_2 h, if_neg (e2 i i0 i1), if_neg (e2 (zg v 30 p - 1) (by omega) (by omega))]
      omega
  · omega
theorem tk3 {p k : Int} (hl : 0 ≤ zg v 30 p ∧ zg v 30 p ≤ 40) (h : ¬ zg v 21 k = 1) (h2 : ¬ zg v 21 k = 2) : TK v p k (zg v 30 p - 1) := by
  by_cases h0 : zg v 30 p = 0
  · exact Or.inl ⟨h0, by omega⟩
  · refine Or.inr ⟨by omega, by omega, fun i i0 i1 => ?_⟩
    rw [wsh_3 h h2, wsh_3 h h2]
    omega
theorem c22 {p k : Int} (hd : 2 ≤ d) (h0 : 0 ≤ p) (h1 : p < 6) (hk : 0 ≤ k) (hk1 : k < 5) (hl : 0 ≤ zg v 30 p ∧ zg v 30 p ≤ 40) (hs : ∀ i, 0 ≤ i → i < zg v 30 p → 0 ≤ zg v 31 (p * 40 + i) ∧ zg v 31 (p * 40 + i) < 40 ∧ 0 ≤ zg v 20 (zg v 31 (p * 40 + i))) : zEv sc 22 d 0 [.ref 29, .ref 16, .int (zI k), .int (zI p), zJ] [] (zmk v u) 0 0 (zPi fun x w t => (∃ r, TK v p k r ∧ zI r = x) ∧ v = w ∧ u = t) := by
  refine e_ico o22_0 (e_is4 o22_1 (e_al1 o22_3 (e_gR o22_4 L16 rfl rfl (e_il2 o22_7 (e_ial o22_8 L21 (by omega) (by omega) (e_ico o22_9 (e_ic_ne o22_10 24 rfl (by first | exact zg_rg _ _ _ | exact zt_rg _ | omega) (by first | exact zg_rg _ _ _ | exact zt_rg _ | omega) (fun hb10 => ?_) (fun hb10 => ?_))))))))
  · refine e_al1 o22_24 (e_gR o22_25 L16 rfl rfl (e_il2 o22_28 (e_ial o22_29 L21 (by omega) (by omega) (e_ico o22_30 (e_ic_ne o22_31 48 rfl (by first | exact zg_rg _ _ _ | exact zt_rg _ | omega) (by first | exact zg_rg _ _ _ | exact zt_rg _ | omega) (fun hb31 => ?_) (fun hb31 => ?_))))))
    · refine e_il4 o22_48 (e_ico o22_50 (e_ic_ne o22_51 65 rfl (by first | exact zg_rg _ _ _ | exact zt_rg _ | omega) (by first | exact zg_rg _ _ _ | exact zt_rg _ | omega) (fun hb51 => ?_) (fun hb51 => ?_)))
      · refine e_il4 o22_65 ?_
        refine e_rI o22_67 K22 rfl rfl ?_
        first | exact ⟨⟨_, tk1 hl hb10 hr hb51, rfl⟩, rfl, rfl⟩ | exact ⟨⟨_, tk1' hr hb51, rfl⟩, rfl, rfl⟩ | exact ⟨⟨_, tk2 hl hb31 hr hb51, rfl⟩, rfl, rfl⟩ | exact ⟨⟨_, tk2' hl hb31 hr hb51, rfl⟩, rfl, rfl⟩ | exact ⟨⟨_, tk3 hl hb10 hb31, rfl⟩, rfl, rfl⟩ | omega
      · refine e_al0 o22_54 (e_gR o22_55 L29 rfl rfl (e_il3 o22_58 (e_ial o22_59 L30 (by omega) (by omega) (e_ico o22_60 (e_sub o22_61 (e_goto o22_62 67 rfl ?_))))))
        refine e_rI o22_67 K22 rfl rfl ?_
        first | exact ⟨⟨_, tk1 hl hb10 hr hb51, rfl⟩, rfl, rfl⟩ | exact ⟨⟨_, tk1' hr hb51, rfl⟩, rfl, rfl⟩ | exact ⟨⟨_, tk2 hl hb31 hr hb51, rfl⟩, rfl, rfl⟩ | exact ⟨⟨_, tk2' hl hb31 hr hb51, rfl⟩, rfl, rfl⟩ | exact ⟨⟨_, tk3 hl hb10 hb31, rfl⟩, rfl, rfl⟩ | omega
    · refine e_al0 o22_34 (e_al1 o22_35 (e_il3 o22_36 (e_al1 o22_37 (e_gR o22_38 L16 rfl rfl (e_il2 o22_41 (e_ial o22_42 L23 (by omega) (by omega) (e_Vi3 o22_43 K22 K25 rfl ⟨rfl, rfl⟩ (zrcv_I L29 rfl) (by omega) rfl (c25 (by omega) h0 h1 hl (zg_rg _ _ _) (fun i a b => ⟨(hs i a b).1, (hs i a b).2.1⟩)) ?_)))))))
      rintro _ _ _ ⟨⟨r, hr, rfl⟩, rfl, rfl⟩
      have hrr : -1 ≤ r ∧ r < 100 := by rcases hr with a | a <;> omega
      refine e_is4 o22_46 (e_il4 o22_48 (e_ico o22_50 (e_ic_ne o22_51 65 rfl (by first | exact zg_rg _ _ _ | exact zt_rg _ | omega) (by first | exact zg_rg _ _ _ | exact zt_rg _ | omega) (fun hb51 => ?_) (fun hb51 => ?_))))
      · refine e_il4 o22_65 ?_
        refine e_rI o22_67 K22 rfl rfl ?_
        first | exact ⟨⟨_, tk1 hl hb10 hr hb51, rfl⟩, rfl, rfl⟩ | exact ⟨⟨_, tk1' hr hb51, rfl⟩, rfl, rfl⟩ | exact ⟨⟨_, tk2 hl hb31 hr hb51, rfl⟩, rfl, rfl⟩ | exact ⟨⟨_, tk2' hl hb31 hr hb51, rfl⟩, rfl, rfl⟩ | exact ⟨⟨_, tk3 hl hb10 hb31, rfl⟩, rfl, rfl⟩ | omega
      · refine e_al0 o22_54 (e_gR o22_55 L29 rfl rfl (e_il3 o22_58 (e_ial o22_59 L30 (by omega) (by omega) (e_ico o22_60 (e_sub o22_61 (e_goto o22_62 67 rfl ?_))))))
        refine e_rI o22_67 K22 rfl rfl ?_
        first | exact ⟨⟨_, tk1 hl hb10 hr hb51, rfl⟩, rfl, rfl⟩ | exact ⟨⟨_, tk1' hr hb51, rfl⟩, rfl, rfl⟩ | exact ⟨⟨_, tk2 hl hb31 hr hb51, rfl⟩, rfl, rfl⟩ | exact ⟨⟨_, tk2' hl hb31 hr hb51, rfl⟩, rfl, rfl⟩ | exact ⟨⟨_, tk3 hl hb10 hb31, rfl⟩, rfl, rfl⟩ | omega
  · refine e_al0 o22_13 (e_al1 o22_14 (e_il3 o22_15 (e_Vi2 o22_16 K22 K23 rfl ⟨rfl, rfl⟩ (zrcv_I L29 rfl) (by omega) rfl (c23 (by omega) h0 h1 hl hs) ?_)))
    rintro _ _ _ ⟨⟨r, hr, rfl⟩, rfl, rfl⟩
    have hrr : -1 ≤ r ∧ r < 100 := by rcases hr with a | a <;> omega
    refine e_is4 o22_19 (e_goto o22_21 48 rfl (e_il4 o22_48 (e_ico o22_50 (e_ic_ne o22_51 65 rfl (by first | exact zg_rg _ _ _ | exact zt_rg _ | omega) (by first | exact zg_rg _ _ _ | exact zt_rg _ | omega) (fun hb51 => ?_) (fun hb51 => ?_)))))
    · refine e_il4 o22_65 ?_
      refine e_rI o22_67 K22 rfl rfl ?_
      first | exact ⟨⟨_, tk1 hl hb10 hr hb51, rfl⟩, rfl, rfl⟩ | exact ⟨⟨_, tk1' hr hb51, rfl⟩, rfl, rfl⟩ | exact ⟨⟨_, tk2 hl hb31 hr hb51, rfl⟩, rfl, rfl⟩ | exact ⟨⟨_, tk2' hl hb31 hr hb51, rfl⟩, rfl, rfl⟩ | exact ⟨⟨_, tk3 hl hb10 hb31, rfl⟩, rfl, rfl⟩ | omega
    · refine e_al0 o22_54 (e_gR o22_55 L29 rfl rfl (e_il3 o22_58 (e_ial o22_59 L30 (by omega) (by omega) (e_ico o22_60 (e_sub o22_61 (e_goto o22_62 67 rfl ?_))))))
      refine e_rI o22_67 K22 rfl rfl ?_
      first | exact ⟨⟨_, tk1 hl hb10 hr hb51, rfl⟩, rfl, rfl⟩ | exact ⟨⟨_, tk1' hr hb51, rfl⟩, rfl, rfl⟩ | exact ⟨⟨_, tk2 hl hb31 hr hb51, rfl⟩, rfl, rfl⟩ | exact ⟨⟨_, tk2' hl hb31 hr hb51, rfl⟩, rfl, rfl⟩ | exact ⟨⟨_, tk3 hl hb10 hb31, rfl⟩, rfl, rfl⟩ | omega
end
