/-! the class's small methods -/
def zbit (x : Int64) (s : Int) : Prop := ¬ lg_cmp ((x.toUInt64 >>> ((zI s).toInt64.toUInt64 &&& Int64.toUInt64 63)).toInt64 &&& Int64.ofNat 1) (Int64.ofNat 0) = 0
def zbit' (x : Int64) (s : Int) : Decidable (zbit x s) := inferInstanceAs (Decidable (¬ _))
section
variable {sc : Nat × (Nat → Int32)} {d : Nat} {v : zV} {u : zU}
def mudC (v : zV) (p : Int) : Int := max 0 (zg v 17 p - zg v 30 p)
theorem c19 {p : Int} (hd : 1 ≤ d) (h0 : 0 ≤ p) (h1 : p < 6) (r1 : -2147483648 ≤ zg v 17 p - zg v 30 p ∧ zg v 17 p - zg v 30 p < 2147483648) : zEv sc 19 d 0 [.ref 29, .ref 16, .int (zI p)] [] (zmk v u) 0 0 (zis (zI (mudC v p)) v u) := by
  refine e_ico o19_0 (e_al1 o19_1 (e_gR o19_2 L16 rfl rfl (e_il2 o19_5 (e_ial o19_6 L17 (by omega) (by omega) (e_al0 o19_7 (e_gR o19_8 L29 rfl rfl (e_il2 o19_11 (e_ial o19_12 L30 (by omega) (by omega) (e_sub o19_13 (e_max o19_14 (by omega) rfl (by first | exact zg_rg _ _ _ | exact zt_rg _ | omega) (by first | exact zg_rg _ _ _ | exact zt_rg _ | omega) ?_))))))))))
  refine e_rI o19_17 K19 rfl rfl ?_
  exact ⟨rfl, rfl, rfl⟩
theorem c20 (hd : 2 ≤ d) (h0 : 0 ≤ zg v 16 8) (h1 : zg v 16 8 ≤ 6) (hr : ∀ p, 0 ≤ p → p < zg v 16 8 → 0 ≤ zg v 17 p ∧ zg v 17 p ≤ 40 ∧ 0 ≤ zg v 30 p ∧ zg v 30 p ≤ 40) : zEv sc 20 d 0 [.ref 29, .ref 16, zJ, zJ] [] (zmk v u) 0 0 (zis (zI (zsg (mudC v) (zg v 16 8))) v u) := by
  have loop : ∀ k, 0 ≤ k → k ≤ zg v 16 8 → zEv sc 20 d 4 [.ref 29, .ref 16, .int (zI (zsg (mudC v) k)), .int (zI k)] [] (zmk v u) 0 0 (zis (zI (zsg (mudC v) (zg v 16 8))) v u) := by
    refine zloop ?_
    intro k k0 k1 ih
    refine e_il3 o20_4 (e_al1 o20_5 (e_gI o20_6 L16 rfl 8 rfl (e_ic_ge o20_9 27 rfl (by first | exact zg_rg _ _ _ | exact zt_rg _ | omega) (by first | exact zg_rg _ _ _ | exact zt_rg _ | omega) (fun hb9 => ?_) (fun hb9 => ?_))))
    · have e : k = zg v 16 8 := by omega
      subst e
      refine e_il2 o20_27 ?_
      refine e_rI o20_28 K20 rfl rfl ?_
      exact ⟨rfl, rfl, rfl⟩
    · refine e_il2 o20_12 (e_al0 o20_13 (e_al1 o20_14 (e_il3 o20_15 (e_Vi2 o20_16 K20 K19 rfl ⟨rfl, rfl⟩ (zrcv_I L29 rfl) (by omega) rfl (c19 (by omega) k0 (by omega) (by have := hr k k0 (by omega); omega)) ?_))))
      rintro _ _ _ ⟨rfl, rfl, rfl⟩
      refine e_add o20_19 (e_is2 o20_20 (e_inc3 o20_21 (e_goto o20_24 4 rfl ?_)))
      rw [← zsg_succ k0 (f := mudC v)]
      exact ih (by omega)
  refine e_ico o20_0 (e_is2 o20_1 (e_ico o20_2 (e_is3 o20_3 ?_)))
  exact loop 0 (by omega) h0
theorem c21 {p o : Int} (h0 : 0 ≤ p) (h1 : p < 6) (h2 : 0 ≤ o) (h3 : o < 6) : zEv sc 21 d 0 [.ref 29, .int (zI p), .int (zI o)] [] (zmk v u) 0 0 (zis (zI (zg v 32 (p * 6 + o))) v u) := by
  refine e_al0 o21_0 (e_gR o21_1 L29 rfl rfl (e_il1 o21_4 (e_bip o21_5 rfl (e_mul o21_7 (e_il2 o21_8 (e_add o21_9 (e_ial o21_10 L32 (by omega) (by omega) ?_)))))))
  refine e_rI o21_11 K21 rfl rfl ?_
  exact ⟨rfl, rfl, rfl⟩
theorem c24 {p o : Int} (h0 : 0 ≤ p) (h1 : p < 6) (h2 : 0 ≤ o) (h3 : o < 40) : zEv sc 24 d 0 [.ref 29, .int (zI p), .int (zI o)] [] (zmk v u) 0 0 (zis (zI (zg v 31 (p * 40 + o))) v u) := by
  refine e_al0 o24_0 (e_gR o24_1 L29 rfl rfl (e_il1 o24_4 (e_bip o24_5 rfl (e_mul o24_7 (e_il2 o24_8 (e_add o24_9 (e_ial o24_10 L31 (by omega) (by omega) ?_)))))))
  refine e_rI o24_11 K24 rfl rfl ?_
  exact ⟨rfl, rfl, rfl⟩
theorem c55 {k w : Int} (h0 : 0 ≤ k) (h1 : k < 30) (h2 : 0 ≤ w) (h3 : w < 6) : zEv sc 55 d 0 [.ref 33, .int (zI k), .int (zI w)] [] (zmk v u) 0 0 (zis (zI (zg v 34 (k * 6 + w))) v u) := by
  refine e_al0 o55_0 (e_gR o55_1 L33 rfl rfl (e_il1 o55_4 (e_bip o55_5 rfl (e_mul o55_7 (e_il2 o55_8 (e_add o55_9 (e_ial o55_10 L34 (by omega) (by omega) ?_)))))))
  refine e_rI o55_11 K55 rfl rfl ?_
  exact ⟨rfl, rfl, rfl⟩
theorem c59 {p : Int} (h0 : 0 ≤ p) (h1 : p < 6) (h2 : 0 ≤ zg v 33 0) (h3 : zg v 33 0 ≤ 30) : zEv sc 59 d 0 [.ref 33, .int (zI p)] [] (zmk v u) 0 0 (zis (zI (zg v 37 (zg v 33 0 * 6 + p))) v u) := by
  refine e_al0 o59_0 (e_gR o59_1 L33 rfl rfl (e_al0 o59_4 (e_gI o59_5 L33 rfl 0 rfl (e_bip o59_8 rfl (e_mul o59_10 (e_il1 o59_11 (e_add o59_12 (e_ial o59_13 L37 (by omega) (by omega) ?_))))))))
  refine e_rI o59_14 K59 rfl rfl ?_
  exact ⟨rfl, rfl, rfl⟩
theorem c58 (hd : 1 ≤ d) (h2 : 0 ≤ zg v 33 0) (h3 : zg v 33 0 ≤ 30) : zEv sc 58 d 0 [.ref 33, zJ, zJ] [] (zmk v u) 0 0 (zis (zI (zsg (fun k => zg v 34 (k * 6 + 5)) (zg v 33 0))) v u) := by
  have loop : ∀ k, 0 ≤ k → k ≤ zg v 33 0 → zEv sc 58 d 4 [.ref 33, .int (zI (zsg (fun k => zg v 34 (k * 6 + 5)) k)), .int (zI k)] [] (zmk v u) 0 0 (zis (zI (zsg (fun k => zg v 34 (k * 6 + 5)) (zg v 33 0))) v u) := by
    refine zloop ?_
    intro k k0 k1 ih
    refine e_il2 o58_4 (e_al0 o58_5 (e_gI o58_6 L33 rfl 0 rfl (e_ic_ge o58_9 27 rfl (by first | exact zg_rg _ _ _ | exact zt_rg _ | omega) (by first | exact zg_rg _ _ _ | exact zt_rg _ | omega) (fun hb9 => ?_) (fun hb9 => ?_))))
    · have e : k = zg v 33 0 := by omega
      subst e
      refine e_il1 o58_27 ?_
      refine e_rI o58_28 K58 rfl rfl ?_
      exact ⟨rfl, rfl, rfl⟩
    · refine e_il1 o58_12 (e_al0 o58_13 (e_il2 o58_14 (e_ico o58_15 (e_Vi2 o58_16 K58 K55 rfl ⟨rfl, rfl⟩ (zrcv_I L33 rfl) (by omega) rfl (c55 k0 (by omega) (by omega) (by omega)) ?_))))
      rintro _ _ _ ⟨rfl, rfl, rfl⟩
      refine e_add o58_19 (e_is1 o58_20 (e_inc2 o58_21 (e_goto o58_24 4 rfl ?_)))
      rw [zsg_succ k0] at ih
      exact ih (by omega)
  refine e_ico o58_0 (e_is1 o58_1 (e_ico o58_2 (e_is2 o58_3 ?_)))
  exact loop 0 (by omega) h2
def laidBw (v : zV) (a b k : Int) : Int := if zg v 34 (k * 6 + 1) = a ∧ zg v 34 (k * 6 + 2) = b then zg v 34 (k * 6 + 4) else 0
theorem c67 {a b : Int} (hd : 1 ≤ d) (ha : -2147483648 ≤ a ∧ a < 2147483648) (hb : -2147483648 ≤ b ∧ b < 2147483648) (h2 : 0 ≤ zg v 33 0) (h3 : zg v 33 0 ≤ 30) : zEv sc 67 d 0 [.ref 33, .int (zI a), .int (zI b), zJ, zJ] [] (zmk v u) 0 0 (zis (zI (zsg (laidBw v a b) (zg v 33 0))) v u) := by
  have loop : ∀ k, 0 ≤ k → k ≤ zg v 33 0 → zEv sc 67 d 5 [.ref 33, .int (zI a), .int (zI b), .int (zI (zsg (laidBw v a b) k)), .int (zI k)] [] (zmk v u) 0 0 (zis (zI (zsg (laidBw v a b) (zg v 33 0))) v u) := by
    refine zloop ?_
    intro k k0 k1 ih
    rw [zsg_succ k0] at ih
    refine e_il4 o67_5 (e_al0 o67_7 (e_gI o67_8 L33 rfl 0 rfl (e_ic_ge o67_11 52 rfl (by first | exact zg_rg _ _ _ | exact zt_rg _ | omega) (by first | exact zg_rg _ _ _ | exact zt_rg _ | omega) (fun hb11 => ?_) (fun hb11 => ?_))))
    · have e : k = zg v 33 0 := by omega
      subst e
      refine e_il3 o67_52 ?_
      refine e_rI o67_53 K67 rfl rfl ?_
      exact ⟨rfl, rfl, rfl⟩
    · refine e_al0 o67_14 (e_il4 o67_15 (e_ico o67_17 (e_Vi2 o67_18 K67 K55 rfl ⟨rfl, rfl⟩ (zrcv_I L33 rfl) (by omega) rfl (c55 k0 (by omega) (by omega) (by omega)) ?_)))
      rintro _ _ _ ⟨rfl, rfl, rfl⟩
      refine e_il1 o67_21 (e_ic_ne o67_22 46 rfl (by first | exact zg_rg _ _ _ | exact zt_rg _ | omega) (by first | exact zg_rg _ _ _ | exact zt_rg _ | omega) (fun hb22 => ?_) (fun hb22 => ?_))
      · refine e_inc4 o67_46 (e_goto o67_49 5 rfl ?_)
        first | (rw [show laidBw v a b k = zg v 34 (k * 6 + 4) from if_pos ⟨by omega, by omega⟩] at ih; exact ih (by omega)) | (rw [show laidBw v a b k = 0 from if_neg (by omega), Int.add_zero] at ih; exact ih (by omega))
      · refine e_al0 o67_25 (e_il4 o67_26 (e_ico o67_28 (e_Vi2 o67_29 K67 K55 rfl ⟨rfl, rfl⟩ (zrcv_I L33 rfl) (by omega) rfl (c55 k0 (by omega) (by omega) (by omega)) ?_)))
        rintro _ _ _ ⟨rfl, rfl, rfl⟩
        refine e_il2 o67_32 (e_ic_ne o67_33 46 rfl (by first | exact zg_rg _ _ _ | exact zt_rg _ | omega) (by first | exact zg_rg _ _ _ | exact zt_rg _ | omega) (fun hb33 => ?_) (fun hb33 => ?_))
        · refine e_inc4 o67_46 (e_goto o67_49 5 rfl ?_)
          first | (rw [show laidBw v a b k = zg v 34 (k * 6 + 4) from if_pos ⟨by omega, by omega⟩] at ih; exact ih (by omega)) | (rw [show laidBw v a b k = 0 from if_neg (by omega), Int.add_zero] at ih; exact ih (by omega))
        · refine e_il3 o67_36 (e_al0 o67_37 (e_il4 o67_38 (e_ico o67_40 (e_Vi2 o67_41 K67 K55 rfl ⟨rfl, rfl⟩ (zrcv_I L33 rfl) (by omega) rfl (c55 k0 (by omega) (by omega) (by omega)) ?_))))
          rintro _ _ _ ⟨rfl, rfl, rfl⟩
          refine e_add o67_44 (e_is3 o67_45 (e_inc4 o67_46 (e_goto o67_49 5 rfl ?_)))
          first | (rw [show laidBw v a b k = zg v 34 (k * 6 + 4) from if_pos ⟨by omega, by omega⟩] at ih; exact ih (by omega)) | (rw [show laidBw v a b k = 0 from if_neg (by omega), Int.add_zero] at ih; exact ih (by omega))
  refine e_ico o67_0 (e_is3 o67_1 (e_ico o67_2 (e_is4 o67_3 ?_)))
  exact loop 0 (by omega) h2
theorem c69 {k p : Int} (hd : 1 ≤ d) (h0 : 0 ≤ k) (h1 : k < 30) (hp : -2147483648 ≤ p ∧ p < 2147483648) : zEv sc 69 d 0 [.ref 33, .int (zI k), .int (zI p)] [] (zmk v u) 0 0 (zis (zI (zb (zg v 34 (k * 6 + 1) = p ∧ 0 < zg v 34 (k * 6 + 4)))) v u) := by
  refine e_al0 o69_0 (e_il1 o69_1 (e_ico o69_2 (e_Vi2 o69_3 K69 K55 rfl ⟨rfl, rfl⟩ (zrcv_I L33 rfl) (by omega) rfl (c55 h0 h1 (by omega) (by omega)) ?_)))
  rintro _ _ _ ⟨rfl, rfl, rfl⟩
  refine e_il2 o69_6 (e_ic_ne o69_7 23 rfl (by first | exact zg_rg _ _ _ | exact zt_rg _ | omega) (by first | exact zg_rg _ _ _ | exact zt_rg _ | omega) (fun hb7 => ?_) (fun hb7 => ?_))
  · refine e_ico o69_23 ?_
    refine e_rI o69_24 K69 (by decide) rfl ?_
    exact ⟨congrArg zI (by unfold zb; split <;> first | rfl | omega), rfl, rfl⟩
  · refine e_al0 o69_10 (e_il1 o69_11 (e_ico o69_12 (e_Vi2 o69_13 K69 K55 rfl ⟨rfl, rfl⟩ (zrcv_I L33 rfl) (by omega) rfl (c55 h0 h1 (by omega) (by omega)) ?_)))
    rintro _ _ _ ⟨rfl, rfl, rfl⟩
    refine e_if_le o69_16 23 rfl (by first | exact zg_rg _ _ _ | exact zt_rg _ | omega) (fun hb16 => ?_) (fun hb16 => ?_)
    · refine e_ico o69_23 ?_
      refine e_rI o69_24 K69 (by decide) rfl ?_
      exact ⟨congrArg zI (by unfold zb; split <;> first | rfl | omega), rfl, rfl⟩
    · refine e_ico o69_19 (e_goto o69_20 24 rfl ?_)
      refine e_rI o69_24 K69 (by decide) rfl ?_
      exact ⟨congrArg zI (by unfold zb; split <;> first | rfl | omega), rfl, rfl⟩
end
