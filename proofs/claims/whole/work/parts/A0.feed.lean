/-! bytes that are fed -/
theorem by_eq (z : Int32) : vp_nar .byte (z.toInt8.toInt32) = z.toInt8.toInt32 := by
  show z.toInt8.toInt32.toInt8.toInt32 = _
  rw [Int8.toInt8_toInt32]
theorem by_rg (z : Int32) : -128 ≤ (z.toInt8.toInt32).toInt ∧ (z.toInt8.toInt32).toInt < 128 ∧ (z &&& zI 255).toInt = (z.toInt8.toInt32).toInt % 256 := by
  rw [Int8.toInt_toInt32, Int32.toInt_toInt8]
  have hb : (z.toInt).bmod (2 ^ 8) = (z.toInt).bmod 256 := rfl
  have e : (z &&& zI 255).toInt = z.toInt % 256 := by
    have e1 : (z &&& zI 255).toInt = (z.toBitVec &&& 255#32).toInt := by
      rw [← Int32.toInt_toBitVec, Int32.toBitVec_and]
      rfl
    rw [e1]
    have h : (z.toBitVec &&& 255#32).toNat = z.toBitVec.toNat % 256 := by
      rw [BitVec.toNat_and]
      exact Nat.and_two_pow_sub_one_eq_mod _ 8
    rw [BitVec.toInt_eq_toNat_of_lt (by omega), h, ← Int32.toInt_toBitVec, BitVec.toInt_eq_toNat_cond]
    split <;> omega
  rw [e]
  have := Int.emod_bmod (z.toInt) 256
  have h1 := Int.le_bmod (x := z.toInt) (m := 256) (by omega)
  have h2 := Int.bmod_lt (x := z.toInt) (m := 256) (by omega)
  have h3 := Int.bmod_emod (x := z.toInt) (m := 256)
  omega
/-- the word of a byte that is fed -/
def fdW (a b c e f : Int32) (t : Int) : Int32 := if t < 4 then a else if t < 8 then b else if t < 12 then c else if t < 16 then e else f
def fdS (x : Int32) (j : Int) : Int32 := x >>> (zI (24 - 8 * j) &&& 31)
def PB (v : zV) (l j : Int) (x : Int32) (w : zV) : Prop := (∀ a q, ¬ a = 3 → ¬ (a = 2 ∧ q = 1) → w a q = v a q) ∧ zg w 2 1 = l + j ∧ ∀ q, w 3 q = if l ≤ q ∧ q < l + j then (fdS x (q - l)).toInt8.toInt32 else v 3 q
section
variable {sc : Nat × (Nat → Int32)} {d : Nat} {v v0 w : zV} {u : zU}
theorem c32 {l : Int} {x : Int32} (hl : zg v 2 1 = l) (l0 : 0 ≤ l) (l1 : l ≤ 596) : zEv sc 32 d 0 [.ref 2, .int x, zJ] [] (zmk v u) 0 0 (zPv fun w t => PB v l 4 x w ∧ u = t) := by
  have loop : ∀ j, 0 ≤ j → j ≤ 4 → ∀ w, PB v l j x w → zEv sc 32 d 3 [.ref 2, .int x, .int (zI (24 - 8 * j))] [] (zmk w u) 0 0 (zPv fun w t => PB v l 4 x w ∧ u = t) := by
    refine zloop ?_
    intro j j0 j1 ih w hP
    have hP' := hP
    obtain ⟨p1, p2, p3⟩ := hP'
    by_cases hj : j < 4
    · skip
      refine e_il2 o32_3 (e_if_lt o32_4 46 rfl (by first | exact zg_rg _ _ _ | exact zt_rg _ | omega) (fun hb4 => ?_) (fun hb4 => ?_))
      · omega
      · refine e_al0 o32_7 (e_gI o32_8 L2 rfl 1 rfl (e_sip o32_11 rfl ?_))
        rw [p2]
        refine e_ic_ge o32_14 46 rfl (by first | exact zg_rg _ _ _ | exact zt_rg _ | omega) (by first | exact zg_rg _ _ _ | exact zt_rg _ | omega) (fun hb14 => ?_) (fun hb14 => ?_)
        · omega
        · refine e_al0 o32_17 (e_gR o32_18 L2 rfl rfl (e_al0 o32_21 (e_gI o32_22 L2 rfl 1 rfl ?_)))
          rw [p2]
          refine e_il1 o32_25 (e_il2 o32_26 (e_shrR o32_27 (e_i2b o32_28 ?_)))
          rw [show x >>> (zI (24 - 8 * j) &&& 31) = fdS x j from rfl]
          refine e_bast o32_29 L3 (by omega) (by omega) ?_
          rw [by_eq]
          refine e_al0 o32_30 (e_dupR o32_31 (e_gI o32_32 L2 rfl 1 rfl (e_ico o32_35 ?_)))
          rw [zg_na (by decide), p2]
          refine e_add o32_36 (e_pI o32_37 L2 rfl rfl rfl rfl 1 rfl (e_inc2 o32_40 (e_goto o32_43 3 rfl ?_)))
          rw [show 24 - 8 * j + -8 = 24 - 8 * (j + 1) by omega]
          refine ih hj _ ⟨fun a q g1 g2 => by rw [zu_ne (by omega), zu_ne (by omega), p1 a q g1 g2], by rw [zg_same (by omega)]; omega, fun q => ?_⟩
          rw [zu_ne (by omega)]
          by_cases e : q = l + j
          · rw [e, zu_same, if_pos (by omega), show l + j - l = j by omega]
          · rw [zu_ne (by omega), p3 q]
            by_cases e2 : l ≤ q ∧ q < l + j
            · rw [if_pos e2, if_pos (by omega)]
            · rw [if_neg e2, if_neg (by omega)]
    · have ej : j = 4 := by omega
      subst ej
      refine e_il2 o32_3 (e_if_lt o32_4 46 rfl (by first | exact zg_rg _ _ _ | exact zt_rg _ | omega) (fun hb4 => ?_) (fun hb4 => ?_))
      · refine e_rV o32_46 K32 rfl rfl ?_
        exact ⟨hP, rfl⟩
      · omega
  refine e_bip o32_0 rfl (e_is2 o32_2 ?_)
  exact loop 0 (by omega) (by omega) v ⟨fun _ _ _ _ => rfl, by omega, fun q => by rw [if_neg (by omega)]⟩
def FD (v : zV) (l m : Int) (f : Int → Int32) (w : zV) : Prop := (∀ a q, ¬ a = 3 → ¬ (a = 2 ∧ q = 1) → w a q = v a q) ∧ zg w 2 1 = l + m ∧ ∀ q, w 3 q = if l ≤ q ∧ q < l + m then (f (q - l)).toInt8.toInt32 else v 3 q
theorem FD_step {l m : Int} {f : Int → Int32} {x : Int32} {w w' : zV} (h : FD v l m f w) (h' : PB w (l + m) 4 x w') (m0 : 0 ≤ m) (hf : ∀ t, m ≤ t → t < m + 4 → f t = fdS x (t - m)) : FD v l (m + 4) f w' := by
  obtain ⟨a1, a2, a3⟩ := h
  obtain ⟨b1, b2, b3⟩ := h'
  refine ⟨fun a q g1 g2 => by rw [b1 a q g1 g2, a1 a q g1 g2], by omega, fun q => ?_⟩
  rw [b3 q, a3 q]
  by_cases e : l + m ≤ q ∧ q < l + m + 4
  · rw [if_pos e, if_pos (by omega), hf (q - l) (by omega) (by omega), show q - (l + m) = q - l - m by omega]
  · rw [if_neg e]
    by_cases e2 : l ≤ q ∧ q < l + m
    · rw [if_pos e2, if_pos (by omega)]
    · rw [if_neg e2, if_neg (by omega)]
def fdF (a b c e f : Int32) (t : Int) : Int32 := fdS (fdW a b c e f t) (t % 4)
theorem c98 {l : Int} {a b c e f : Int32} (hd : 2 ≤ d) (hl : zg v 2 1 = l) (l0 : 0 ≤ l) (l1 : l ≤ 600) : zEv sc 98 d 0 [.ref 0, .int a, .int b, .int c, .int e, .int f, zJ] [] (zmk v u) 0 0 (zPi fun y w t => ((580 < l ∧ zI (-1) = y ∧ v = w) ∨ (l ≤ 580 ∧ zI (l + 20) = y ∧ FD v l 20 (fdF a b c e f) w)) ∧ u = t) := by
  refine e_al0 o98_0 (e_gR o98_1 L0 rfl rfl (e_gR o98_4 L1 rfl rfl (e_as6 o98_7 (e_al6 o98_9 (e_gI o98_11 L2 rfl 1 rfl (e_sip o98_14 rfl ?_))))))
  rw [hl]
  refine e_ic_le o98_17 22 rfl (by first | exact zg_rg _ _ _ | exact zt_rg _ | omega) (by first | exact zg_rg _ _ _ | exact zt_rg _ | omega) (fun hb17 => ?_) (fun hb17 => ?_)
  · refine e_al6 o98_22 (e_il1 o98_24 (e_Vv1 o98_25 K98 K32 rfl ⟨rfl, rfl⟩ (zrcv_I L2 rfl) (by omega) rfl (c32 hl l0 (by omega)) ?_))
    rintro w1 u' ⟨h1, rfl⟩
    have f1 : FD v l 4 (fdF a b c e f) w1 := FD_step (m := 0) ⟨fun _ _ _ _ => rfl, by omega, fun q => by rw [if_neg (by omega)]⟩ (by rw [Int.add_zero]; exact h1) (by omega) (fun t t0 t1 => by unfold fdF fdW; rw [if_pos (by omega), show t % 4 = t - 0 by omega])
    refine e_al6 o98_28 (e_il2 o98_30 (e_Vv1 o98_31 K98 K32 rfl ⟨rfl, rfl⟩ (zrcv_I L2 rfl) (by omega) rfl (c32 f1.2.1 (by omega) (by omega)) ?_))
    rintro w2 u' ⟨h2, rfl⟩
    have f2 : FD v l 8 (fdF a b c e f) w2 := FD_step f1 h2 (by omega) (fun t t0 t1 => by unfold fdF fdW; rw [if_neg (by omega), if_pos (by omega), show t % 4 = t - 4 by omega])
    refine e_al6 o98_34 (e_il3 o98_36 (e_Vv1 o98_37 K98 K32 rfl ⟨rfl, rfl⟩ (zrcv_I L2 rfl) (by omega) rfl (c32 f2.2.1 (by omega) (by omega)) ?_))
    rintro w3 u' ⟨h3, rfl⟩
    have f3 : FD v l 12 (fdF a b c e f) w3 := FD_step f2 h3 (by omega) (fun t t0 t1 => by unfold fdF fdW; rw [if_neg (by omega), if_neg (by omega), if_pos (by omega), show t % 4 = t - 8 by omega])
    refine e_al6 o98_40 (e_il4 o98_42 (e_Vv1 o98_44 K98 K32 rfl ⟨rfl, rfl⟩ (zrcv_I L2 rfl) (by omega) rfl (c32 f3.2.1 (by omega) (by omega)) ?_))
    rintro w4 u' ⟨h4, rfl⟩
    have f4 : FD v l 16 (fdF a b c e f) w4 := FD_step f3 h4 (by omega) (fun t t0 t1 => by unfold fdF fdW; rw [if_neg (by omega), if_neg (by omega), if_neg (by omega), if_pos (by omega), show t % 4 = t - 12 by omega])
    refine e_al6 o98_47 (e_il5 o98_49 (e_Vv1 o98_51 K98 K32 rfl ⟨rfl, rfl⟩ (zrcv_I L2 rfl) (by omega) rfl (c32 f4.2.1 (by omega) (by omega)) ?_))
    rintro w5 u' ⟨h5, rfl⟩
    have f5 : FD v l 20 (fdF a b c e f) w5 := FD_step f4 h5 (by omega) (fun t t0 t1 => by unfold fdF fdW; rw [if_neg (by omega), if_neg (by omega), if_neg (by omega), if_neg (by omega), show t % 4 = t - 16 by omega])
    refine e_al6 o98_54 (e_gI o98_56 L2 rfl 1 rfl ?_)
    refine e_rI o98_59 K98 rfl rfl ?_
    exact ⟨Or.inr ⟨by omega, by rw [f5.2.1], f5⟩, rfl⟩
  · refine e_ico o98_20 ?_
    refine e_rI o98_21 K98 rfl rfl ?_
    exact ⟨Or.inl ⟨by omega, rfl, rfl⟩, rfl⟩
def FM (v : zV) (l m : Int) (f : Int → Int32) (w : zV) : Prop := (∀ a q, ¬ a = 92 → ¬ (a = 79 ∧ (q = 2 ∨ q = 14)) → w a q = v a q) ∧ w 79 2 = zI 0 ∧ zg w 79 14 = l + m ∧ ∀ q, w 92 q = if l ≤ q ∧ q < l + m then f (q - l) &&& zI 255 else v 92 q
theorem m131 {l : Int} {a b c e f : Int32} (hl : zg v 79 14 = l) (l0 : 0 ≤ l) (l1 : l ≤ 600) : zEv sc 131 d 0 [.ref 79, .int a, .int b, .int c, .int e, .int f, zJ, zJ] [] (zmk v u) 0 0 (zPi fun y w t => ((580 < l ∧ zI (-1) = y ∧ zu v 79 2 (zI 0) = w) ∨ (l ≤ 580 ∧ zI (l + 20) = y ∧ FM v l 20 (fdF a b c e f) w)) ∧ u = t) := by
  have loop : l ≤ 580 → ∀ k, 0 ≤ k → k ≤ 20 → ∀ a7 w, FM v l k (fdF a b c e f) w → zEv sc 131 d 23 [.ref 79, .int a, .int b, .int c, .int e, .int f, .int (zI k), a7] [] (zmk w u) 0 0 (zPi fun y w t => ((580 < l ∧ zI (-1) = y ∧ zu v 79 2 (zI 0) = w) ∨ (l ≤ 580 ∧ zI (l + 20) = y ∧ FM v l 20 (fdF a b c e f) w)) ∧ u = t) := by
    intro hl5
    refine zloop ?_
    intro k k0 k1 ih a7 w hF
    have hF' := hF
    obtain ⟨p1, p2, p3, p4⟩ := hF'
    have go : k < 20 → ∀ z, z = fdW a b c e f k → zEv sc 131 d 76 [.ref 79, .int a, .int b, .int c, .int e, .int f, .int (zI k), a7] [.int z] (zmk w u) 0 0 (zPi fun y w t => ((580 < l ∧ zI (-1) = y ∧ zu v 79 2 (zI 0) = w) ∨ (l ≤ 580 ∧ zI (l + 20) = y ∧ FM v l 20 (fdF a b c e f) w)) ∧ u = t) := by
      intro hk z hz
      have km : k.tmod 4 = k % 4 := Int.tmod_eq_emod_of_nonneg k0
      refine e_is7 o131_76 (e_al0 o131_78 (e_gR o131_79 L79 rfl rfl (e_al0 o131_82 ?_)))
      skip
      refine e_gI o131_83 L79 rfl 14 rfl (e_il7 o131_86 (e_bip o131_88 rfl (e_bip o131_90 rfl (e_il6 o131_92 (e_ico o131_94 (e_rem o131_95 (by omega) (by omega) (e_mul o131_96 (e_sub o131_97 (e_shrR o131_98 (e_sip o131_99 rfl (e_andR o131_102 (e_iast o131_103 L92 (by omega) (by omega) (e_al0 o131_104 (e_dupR o131_105 (e_gI o131_106 L79 rfl 14 rfl (e_ico o131_109 (e_add o131_110 (e_pI o131_111 L79 rfl rfl rfl rfl 14 rfl (e_inc6 o131_114 (e_goto o131_117 23 rfl ?_))))))))))))))))))))
      rw [zg_na (by decide), p3, hz, show fdW a b c e f k >>> (zI (24 - 8 * (k % 4)) &&& 31) = fdF a b c e f k from rfl]
      refine ih hk _ _ ⟨fun a q g1 g2 => by rw [zu_ne (by omega), zu_ne (by omega), p1 a q g1 g2], by rw [zu_ne (by omega), zu_ne (by omega), p2], by rw [zg_same (by omega)]; omega, fun q => ?_⟩
      rw [zu_ne (by omega)]
      by_cases e : q = l + k
      · rw [e, zu_same, if_pos (by omega), show l + k - l = k by omega]
      · rw [zu_ne (by omega), p4 q]
        by_cases e2 : l ≤ q ∧ q < l + k
        · rw [if_pos e2, if_pos (by omega)]
        · rw [if_neg e2, if_neg (by omega)]
    refine e_il6 o131_23 (e_bip o131_25 rfl (e_ic_ge o131_27 120 rfl (by first | exact zg_rg _ _ _ | exact zt_rg _ | omega) (by first | exact zg_rg _ _ _ | exact zt_rg _ | omega) (fun hb27 => ?_) (fun hb27 => ?_)))
    · refine e_al0 o131_120 (e_gI o131_121 L79 rfl 14 rfl ?_)
      refine e_rI o131_124 K131 rfl rfl ?_
      have ek : k = 20 := by omega
      subst ek
      exact ⟨Or.inr ⟨hl5, by rw [p3], hF⟩, rfl⟩
    · refine e_il6 o131_30 (e_ico o131_32 (e_ic_ge o131_33 40 rfl (by first | exact zg_rg _ _ _ | exact zt_rg _ | omega) (by first | exact zg_rg _ _ _ | exact zt_rg _ | omega) (fun hb33 => ?_) (fun hb33 => ?_)))
      · refine e_il6 o131_40 (e_bip o131_42 rfl (e_ic_ge o131_44 51 rfl (by first | exact zg_rg _ _ _ | exact zt_rg _ | omega) (by first | exact zg_rg _ _ _ | exact zt_rg _ | omega) (fun hb44 => ?_) (fun hb44 => ?_)))
        · refine e_il6 o131_51 (e_bip o131_53 rfl (e_ic_ge o131_55 62 rfl (by first | exact zg_rg _ _ _ | exact zt_rg _ | omega) (by first | exact zg_rg _ _ _ | exact zt_rg _ | omega) (fun hb55 => ?_) (fun hb55 => ?_)))
          · refine e_il6 o131_62 (e_bip o131_64 rfl (e_ic_ge o131_66 74 rfl (by first | exact zg_rg _ _ _ | exact zt_rg _ | omega) (by first | exact zg_rg _ _ _ | exact zt_rg _ | omega) (fun hb66 => ?_) (fun hb66 => ?_)))
            · refine e_il5 o131_74 ?_
              refine go (by omega) _ ?_
              unfold fdW
              first | rw [if_pos (by omega)] | rw [if_neg (by omega), if_pos (by omega)] | rw [if_neg (by omega), if_neg (by omega), if_pos (by omega)] | rw [if_neg (by omega), if_neg (by omega), if_neg (by omega), if_pos (by omega)] | rw [if_neg (by omega), if_neg (by omega), if_neg (by omega), if_neg (by omega)]
            · refine e_il4 o131_69 (e_goto o131_71 76 rfl ?_)
              refine go (by omega) _ ?_
              unfold fdW
              first | rw [if_pos (by omega)] | rw [if_neg (by omega), if_pos (by omega)] | rw [if_neg (by omega), if_neg (by omega), if_pos (by omega)] | rw [if_neg (by omega), if_neg (by omega), if_neg (by omega), if_pos (by omega)] | rw [if_neg (by omega), if_neg (by omega), if_neg (by omega), if_neg (by omega)]
          · refine e_il3 o131_58 (e_goto o131_59 76 rfl ?_)
            refine go (by omega) _ ?_
            unfold fdW
            first | rw [if_pos (by omega)] | rw [if_neg (by omega), if_pos (by omega)] | rw [if_neg (by omega), if_neg (by omega), if_pos (by omega)] | rw [if_neg (by omega), if_neg (by omega), if_neg (by omega), if_pos (by omega)] | rw [if_neg (by omega), if_neg (by omega), if_neg (by omega), if_neg (by omega)]
        · refine e_il2 o131_47 (e_goto o131_48 76 rfl ?_)
          refine go (by omega) _ ?_
          unfold fdW
          first | rw [if_pos (by omega)] | rw [if_neg (by omega), if_pos (by omega)] | rw [if_neg (by omega), if_neg (by omega), if_pos (by omega)] | rw [if_neg (by omega), if_neg (by omega), if_neg (by omega), if_pos (by omega)] | rw [if_neg (by omega), if_neg (by omega), if_neg (by omega), if_neg (by omega)]
      · refine e_il1 o131_36 (e_goto o131_37 76 rfl ?_)
        refine go (by omega) _ ?_
        unfold fdW
        first | rw [if_pos (by omega)] | rw [if_neg (by omega), if_pos (by omega)] | rw [if_neg (by omega), if_neg (by omega), if_pos (by omega)] | rw [if_neg (by omega), if_neg (by omega), if_neg (by omega), if_pos (by omega)] | rw [if_neg (by omega), if_neg (by omega), if_neg (by omega), if_neg (by omega)]
  refine e_al0 o131_0 (e_ico o131_1 (e_pI o131_2 L79 rfl rfl rfl rfl 2 rfl (e_al0 o131_5 (e_gI o131_6 L79 rfl 14 rfl (e_bip o131_9 rfl ?_)))))
  rw [zg_ne (by omega), hl]
  refine e_add o131_11 (e_sip o131_12 rfl (e_ic_le o131_15 20 rfl (by first | exact zg_rg _ _ _ | exact zt_rg _ | omega) (by first | exact zg_rg _ _ _ | exact zt_rg _ | omega) (fun hb15 => ?_) (fun hb15 => ?_)))
  · refine e_ico o131_20 (e_is6 o131_21 ?_)
    refine loop (by omega) 0 (by omega) (by omega) _ _ ⟨fun a q g1 g2 => zu_ne (by omega), by rw [zu_same], by rw [zg_ne (by omega)]; omega, fun q => by rw [if_neg (by omega), zu_ne (by omega)]⟩
  · refine e_ico o131_18 ?_
    refine e_rI o131_19 K131 rfl rfl ?_
    exact ⟨Or.inl ⟨by omega, rfl, rfl⟩, rfl⟩
end
