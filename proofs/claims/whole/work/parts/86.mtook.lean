section
variable {sc : Nat × (Nat → Int32)} {d : Nat} {v v0 : zV} {u : zU}
theorem tkA_0 {w : Int} (hw : w = 0 ∨ w = 1) : tkA 0 0 w = w := by rw [tkA, if_pos (by omega)]
theorem eg_zero {x : Int} : eg 64 x 0 = x := if_pos (by omega)
theorem tk_a {O A w : Int} (h0 : 0 ≤ O) (h1 : O ≤ A) (h2 : 0 < A) (hw : w = 0) : tkA O A w = O / eg 64 A O := by
  subst hw
  have g := (eg_pos 64 A O h2).1
  unfold tkA
  by_cases e : O ≤ 0
  · rw [if_pos e, show O = 0 by omega, eg_zero, Int.zero_ediv]
  · rw [if_neg e, if_pos rfl, Int.max_eq_right (by omega)]
theorem tk_b {O A w : Int} (h0 : 0 ≤ O) (h1 : O ≤ A) (h2 : 0 < A) (hw : w = 1) : tkA O A w = A / eg 64 A O := by
  subst hw
  have g := (eg_pos 64 A O h2).1
  unfold tkA
  by_cases e : O ≤ 0
  · rw [if_pos e, show O = 0 by omega, eg_zero, Int.ediv_self (by omega)]
  · rw [if_neg e, if_neg (by omega), Int.max_eq_right (by omega)]
theorem m203 {p s a b w : Int} (hd : 4 ≤ d) (hE : EW v) (hB : WB v) (hp : -2147483648 ≤ p ∧ p < 2147483648) (hs : -2147483648 ≤ s ∧ s < 2147483648) (ha : -2147483648 ≤ a ∧ a < 2147483648) (hb : -2147483648 ≤ b ∧ b < 2147483648) (hw : -2147483648 ≤ w ∧ w < 2147483648) (hc : 0 ≤ zg v 33 0 ∧ zg v 33 0 ≤ 30) (hv : zg v 79 30 = zg v 33 0) (hl : ∀ k, 0 ≤ k → k < zg v 33 0 → (0 ≤ zg v 34 (k * 6 + 2) ∧ zg v 34 (k * 6 + 2) < zg v 16 8) ∧ 0 ≤ zg v 34 (k * 6 + 4) ∧ ∀ q, 0 ≤ q → q < 6 → zg v 99 (6 * k + q) = zg v 34 (k * 6 + q)) : zEv sc 203 d 0 [.ref 79, .int (zI p), .int (zI s), .int (zI a), .int (zI b), .int (zI w), zJ, zJ, zJ] [] (zmk v u) 0 0 (zPi fun y w' t => (((((0 ≤ p ∧ p < zg v 16 8) ∧ (0 ≤ s ∧ s < zg v 16 10) ∧ 0 ≤ w ∧ w < 2) ∧ 0 ≤ a ∧ a < b ∧ b ≤ zg v 33 0) ∧ zI (tkA (zsg (fun j => woC v p s (a + j)) (b - a)) (zsg (fun j => wtC v p (a + j)) (b - a)) w) = y ∧ zu v 79 2 (zI 0) = w') ∨ (¬ ((0 ≤ p ∧ p < zg v 16 8) ∧ (0 ≤ s ∧ s < zg v 16 10) ∧ 0 ≤ w ∧ w < 2) ∧ zI 0 = y ∧ zu (zu v 79 2 (zI 0)) 79 2 (zI 1) = w') ∨ (((0 ≤ p ∧ p < zg v 16 8) ∧ (0 ≤ s ∧ s < zg v 16 10) ∧ 0 ≤ w ∧ w < 2) ∧ ¬ (0 ≤ a ∧ a < b ∧ b ≤ zg v 33 0) ∧ zI 0 = y ∧ zu (zu v 79 2 (zI 0)) 79 2 (zI 2) = w')) ∧ u = t) := by
  have e0 := hE.1
  have e2 := hE.2.2.1
  have b0 := hB.1
  have b2 := hB.2.2.1
  have zz : ∀ a, ¬ a = 79 → zg (zu v 79 2 (zI 0)) a = zg v a := fun a h => funext fun k => zg_na h
  have wr : ∀ k, 0 ≤ k → k < zg v 33 0 → 0 ≤ wtC v p k ∧ wtC v p k ≤ 99 ∧ 0 ≤ woC v p s k ∧ woC v p s k ≤ wtC v p k := by
    intro k k0 k1
    have e := (hl k k0 k1).1
    have e2 := (hB.2.2.2.1 _ e.1 e.2).2
    have q : 0 ≤ wtC v p k ∧ wtC v p k ≤ 99 := by unfold wtC; split <;> omega
    refine ⟨q.1, q.2, ?_⟩
    unfold woC
    split <;> omega
  have loop : ((0 ≤ p ∧ p < zg v 16 8) ∧ (0 ≤ s ∧ s < zg v 16 10) ∧ 0 ≤ w ∧ w < 2) → (0 ≤ a ∧ a < b ∧ b ≤ zg v 33 0) → ∀ k, 0 ≤ k → k ≤ b - a → zEv sc 203 d 72 [.ref 79, .int (zI p), .int (zI s), .int (zI a), .int (zI b), .int (zI w), .int (zI (zsg (fun j => woC v p s (a + j)) k)), .int (zI (zsg (fun j => wtC v p (a + j)) k)), .int (zI (a + k))] [] (zmk (zu v 79 2 (zI 0)) u) 0 0 (zPi fun y w' t => (((((0 ≤ p ∧ p < zg v 16 8) ∧ (0 ≤ s ∧ s < zg v 16 10) ∧ 0 ≤ w ∧ w < 2) ∧ 0 ≤ a ∧ a < b ∧ b ≤ zg v 33 0) ∧ zI (tkA (zsg (fun j => woC v p s (a + j)) (b - a)) (zsg (fun j => wtC v p (a + j)) (b - a)) w) = y ∧ zu v 79 2 (zI 0) = w') ∨ (¬ ((0 ≤ p ∧ p < zg v 16 8) ∧ (0 ≤ s ∧ s < zg v 16 10) ∧ 0 ≤ w ∧ w < 2) ∧ zI 0 = y ∧ zu (zu v 79 2 (zI 0)) 79 2 (zI 1) = w') ∨ (((0 ≤ p ∧ p < zg v 16 8) ∧ (0 ≤ s ∧ s < zg v 16 10) ∧ 0 ≤ w ∧ w < 2) ∧ ¬ (0 ≤ a ∧ a < b ∧ b ≤ zg v 33 0) ∧ zI 0 = y ∧ zu (zu v 79 2 (zI 0)) 79 2 (zI 2) = w')) ∧ u = t) := by
    intro o1 o2
    refine zloop ?_
    intro k k0 k1 ih
    rw [zsg_succ k0, zsg_succ k0, ← Int.add_assoc] at ih
    refine e_il8 o203_72 (e_il4 o203_74 (e_ic_ge o203_76 181 rfl (by first | exact zg_rg _ _ _ | exact zt_rg _ | omega) (by first | exact zg_rg _ _ _ | exact zt_rg _ | omega) (fun hb76 => ?_) (fun hb76 => ?_)))
    · have ek : k = b - a := by omega
      subst ek
      have q1 := zsg_le (f := fun j => wtC v p (a + j)) (c := 99) (b - a) (by omega) (fun j j0 j1 => by have := wr (a + j) (by omega) (by omega); exact ⟨this.1, this.2.1⟩)
      have q2 := zsg_le (f := fun j => woC v p s (a + j)) (c := 99) (b - a) (by omega) (fun j j0 j1 => by have := wr (a + j) (by omega) (by omega); omega)
      have q3 := zsg_le (f := fun j => wtC v p (a + j) - woC v p s (a + j)) (c := 99) (b - a) (by omega) (fun j j0 j1 => by have := wr (a + j) (by omega) (by omega); omega)
      rw [zsg_sub (b - a) (by omega)] at q3
      clear ih
      revert q1 q2 q3
      generalize zsg (fun j => wtC v p (a + j)) (b - a) = A
      generalize zsg (fun j => woC v p s (a + j)) (b - a) = O
      intro q1 q2 q3
      refine e_il7 o203_181 (e_if_ne o203_183 190 rfl (by first | exact zg_rg _ _ _ | exact zt_rg _ | omega) (fun hb183 => ?_) (fun hb183 => ?_))
      · refine e_il7 o203_190 (e_il6 o203_192 (e_Si2 o203_194 K203 K204 rfl ⟨rfl, rfl⟩ (by omega) rfl (m204 (by omega) (by omega) (by omega) (by have e : A * O ≤ 10000 * 10000 := Int.mul_le_mul (by omega) (by omega) (by omega) (by omega); have : (2 : Int) ^ 63 = 9223372036854775808 := rfl; omega)) ?_))
        rintro _ _ _ ⟨rfl, rfl, rfl⟩
        have g0 := eg_pos 64 A O (by omega)
        have g1 := g0.2 (by omega) (by omega)
        refine e_is8 o203_197 (e_il5 o203_199 (e_if_ne o203_201 212 rfl (by first | exact zg_rg _ _ _ | exact zt_rg _ | omega) (fun hb201 => ?_) (fun hb201 => ?_)))
        · refine e_il7 o203_212 (e_if_ne o203_214 221 rfl (by first | exact zg_rg _ _ _ | exact zt_rg _ | omega) (fun hb214 => ?_) (fun hb214 => ?_))
          · refine e_il7 o203_221 (e_il8 o203_223 (e_div o203_225 (by omega) (by omega) ?_))
            refine e_rI o203_226 K203 rfl rfl ?_
            refine ⟨Or.inl ⟨⟨o1, o2⟩, ?_, rfl⟩, rfl⟩
            first | (exfalso; omega) | rw [tk_a (by omega) (by omega) (by omega) (by omega)] | rw [tk_b (by omega) (by omega) (by omega) (by omega)] | rw [show A = 0 by omega, show O = 0 by omega, tkA_0 (by omega)]; (try rw [show w = 0 by omega]; rfl); (try rw [show w = 1 by omega])
          · refine e_ico o203_217 (e_goto o203_218 226 rfl ?_)
            refine e_rI o203_226 K203 rfl rfl ?_
            refine ⟨Or.inl ⟨⟨o1, o2⟩, ?_, rfl⟩, rfl⟩
            first | (exfalso; omega) | rw [tk_a (by omega) (by omega) (by omega) (by omega)] | rw [tk_b (by omega) (by omega) (by omega) (by omega)] | rw [show A = 0 by omega, show O = 0 by omega, tkA_0 (by omega)]; (try rw [show w = 0 by omega]; rfl); (try rw [show w = 1 by omega])
        · refine e_il6 o203_204 (e_il8 o203_206 (e_div o203_208 (by omega) (by omega) (e_goto o203_209 226 rfl ?_)))
          refine e_rI o203_226 K203 rfl rfl ?_
          refine ⟨Or.inl ⟨⟨o1, o2⟩, ?_, rfl⟩, rfl⟩
          first | (exfalso; omega) | rw [tk_a (by omega) (by omega) (by omega) (by omega)] | rw [tk_b (by omega) (by omega) (by omega) (by omega)] | rw [show A = 0 by omega, show O = 0 by omega, tkA_0 (by omega)]; (try rw [show w = 0 by omega]; rfl); (try rw [show w = 1 by omega])
      · refine e_ico o203_186 (e_goto o203_187 197 rfl (e_is8 o203_197 (e_il5 o203_199 (e_if_ne o203_201 212 rfl (by first | exact zg_rg _ _ _ | exact zt_rg _ | omega) (fun hb201 => ?_) (fun hb201 => ?_)))))
        · refine e_il7 o203_212 (e_if_ne o203_214 221 rfl (by first | exact zg_rg _ _ _ | exact zt_rg _ | omega) (fun hb214 => ?_) (fun hb214 => ?_))
          · refine e_il7 o203_221 (e_il8 o203_223 (e_div o203_225 (by omega) (by omega) ?_))
            refine e_rI o203_226 K203 rfl rfl ?_
            refine ⟨Or.inl ⟨⟨o1, o2⟩, ?_, rfl⟩, rfl⟩
            first | (exfalso; omega) | rw [tk_a (by omega) (by omega) (by omega) (by omega)] | rw [tk_b (by omega) (by omega) (by omega) (by omega)] | rw [show A = 0 by omega, show O = 0 by omega, tkA_0 (by omega)]; (try rw [show w = 0 by omega]; rfl); (try rw [show w = 1 by omega])
          · refine e_ico o203_217 (e_goto o203_218 226 rfl ?_)
            refine e_rI o203_226 K203 rfl rfl ?_
            refine ⟨Or.inl ⟨⟨o1, o2⟩, ?_, rfl⟩, rfl⟩
            first | (exfalso; omega) | rw [tk_a (by omega) (by omega) (by omega) (by omega)] | rw [tk_b (by omega) (by omega) (by omega) (by omega)] | rw [show A = 0 by omega, show O = 0 by omega, tkA_0 (by omega)]; (try rw [show w = 0 by omega]; rfl); (try rw [show w = 1 by omega])
        · refine e_il6 o203_204 (e_il8 o203_206 (e_div o203_208 (by omega) (by omega) (e_goto o203_209 226 rfl ?_)))
          refine e_rI o203_226 K203 rfl rfl ?_
          refine ⟨Or.inl ⟨⟨o1, o2⟩, ?_, rfl⟩, rfl⟩
          first | (exfalso; omega) | rw [tk_a (by omega) (by omega) (by omega) (by omega)] | rw [tk_b (by omega) (by omega) (by omega) (by omega)] | rw [show A = 0 by omega, show O = 0 by omega, tkA_0 (by omega)]; (try rw [show w = 0 by omega]; rfl); (try rw [show w = 1 by omega])
    · obtain ⟨l1, l2, l3⟩ := hl (a + k) (by omega) (by omega)
      have l0 : zg v 99 (6 * (a + k)) = zg v 34 ((a + k) * 6 + 0) := by rw [← l3 0 (by omega) (by omega), Int.add_zero]
      have ew := (hE.2.2.2.1 _ l1.1 l1.2).2
      refine e_al0 o203_79 (e_gR o203_80 L79 rfl rfl (e_bip o203_83 rfl (e_il8 o203_85 (e_mul o203_87 (e_ico o203_88 (e_add o203_89 (e_ial o203_90 L99 (by omega) (by omega) ?_)))))))
      rw [zz 99 (by decide), l3 1 (by omega) (by omega)]
      refine e_il1 o203_91 (e_ic_ne o203_92 175 rfl (by first | exact zg_rg _ _ _ | exact zt_rg _ | omega) (by first | exact zg_rg _ _ _ | exact zt_rg _ | omega) (fun hb92 => ?_) (fun hb92 => ?_))
      · refine e_inc8 o203_175 (e_goto o203_178 72 rfl ?_)
        have ew0 : wtC v p (a + k) = 0 := if_neg (fun e => hb92 e.1)
        rw [show woC v p s (a + k) = 0 by unfold woC; rw [ew0]; split <;> rfl, ew0, Int.add_zero, Int.add_zero] at ih
        exact ih (by omega)
      · refine e_al0 o203_95 (e_gR o203_96 L79 rfl rfl (e_bip o203_99 rfl (e_il8 o203_101 (e_mul o203_103 (e_ico o203_104 (e_add o203_105 (e_ial o203_106 L99 (by omega) (by omega) ?_)))))))
        rw [zz 99 (by decide), l3 4 (by omega) (by omega)]
        refine e_if_ne o203_107 113 rfl (by first | exact zg_rg _ _ _ | exact zt_rg _ | omega) (fun hb107 => ?_) (fun hb107 => ?_)
        · refine e_il7 o203_113 (e_al0 o203_115 (e_gR o203_116 L79 rfl rfl (e_al0 o203_119 (e_gR o203_120 L79 rfl rfl (e_bip o203_123 rfl (e_il8 o203_125 (e_mul o203_127 (e_ico o203_128 (e_add o203_129 (e_ial o203_130 L99 (by omega) (by omega) ?_))))))))))
          rw [zz 99 (by decide), l3 2 (by omega) (by omega)]
          refine e_ial o203_131 L84 (by omega) (by omega) ?_
          rw [zz 84 (by decide), ew]
          refine e_add o203_132 (e_is7 o203_133 (e_il6 o203_135 (e_al0 o203_137 (e_gR o203_138 L79 rfl rfl (e_bip o203_141 rfl (e_il8 o203_143 (e_mul o203_145 (e_ial o203_146 L99 (by omega) (by omega) ?_))))))))
          rw [zz 99 (by decide), l0]
          refine e_il2 o203_147 (e_ic_ne o203_148 171 rfl (by first | exact zg_rg _ _ _ | exact zt_rg _ | omega) (by first | exact zg_rg _ _ _ | exact zt_rg _ | omega) (fun hb148 => ?_) (fun hb148 => ?_))
          · refine e_ico o203_171 (e_add o203_172 (e_is6 o203_173 (e_inc8 o203_175 (e_goto o203_178 72 rfl ?_))))
            have ew2 : wtC v p (a + k) = zg v 18 (zg v 34 ((a + k) * 6 + 2)) := if_pos ⟨hb92, by omega⟩
            rw [show woC v p s (a + k) = 0 from if_neg hb148, ew2] at ih
            exact ih (by omega)
          · refine e_al0 o203_151 (e_gR o203_152 L79 rfl rfl (e_al0 o203_155 (e_gR o203_156 L79 rfl rfl (e_bip o203_159 rfl (e_il8 o203_161 (e_mul o203_163 (e_ico o203_164 (e_add o203_165 (e_ial o203_166 L99 (by omega) (by omega) ?_)))))))))
            rw [zz 99 (by decide), l3 2 (by omega) (by omega)]
            refine e_ial o203_167 L84 (by omega) (by omega) ?_
            rw [zz 84 (by decide), ew]
            refine e_goto o203_168 172 rfl (e_add o203_172 (e_is6 o203_173 (e_inc8 o203_175 (e_goto o203_178 72 rfl ?_))))
            have ew2 : wtC v p (a + k) = zg v 18 (zg v 34 ((a + k) * 6 + 2)) := if_pos ⟨hb92, by omega⟩
            rw [show woC v p s (a + k) = wtC v p (a + k) from if_pos hb148, ew2] at ih
            exact ih (by omega)
        · refine e_goto o203_110 175 rfl (e_inc8 o203_175 (e_goto o203_178 72 rfl ?_))
          have ew0 : wtC v p (a + k) = 0 := if_neg (fun e => by have := e.2; omega)
          rw [show woC v p s (a + k) = 0 by unfold woC; rw [ew0]; split <;> rfl, ew0, Int.add_zero, Int.add_zero] at ih
          exact ih (by omega)
  refine e_al0 o203_0 (e_ico o203_1 (e_pI o203_2 L79 rfl rfl rfl rfl 2 rfl (e_al0 o203_5 (e_il1 o203_6 (e_Vi1 o203_7 K203 K168 rfl ⟨rfl, rfl⟩ (zrcv_I L79 rfl) (by omega) rfl (m168 (by omega) hp (by rw [zz 82 (by decide)]; omega)) ?_)))))
  rintro _ _ _ ⟨rfl, rfl, rfl⟩
  rw [zz 82 (by decide), e0]
  refine e_bz_eq o203_10 32 rfl (fun hb10 => ?_) (fun hb10 => ?_)
  · refine e_al0 o203_32 (e_ico o203_33 (e_Vi1 o203_34 K203 K133 rfl ⟨rfl, rfl⟩ (zrcv_I L79 rfl) (by omega) rfl m133 ?_))
    rintro _ _ _ ⟨rfl, rfl, rfl⟩
    refine e_rI o203_37 K203 rfl rfl ?_
    exact ⟨Or.inr (Or.inl ⟨by omega, rfl, rfl⟩), rfl⟩
  · refine e_al0 o203_13 (e_il2 o203_14 (e_Vi1 o203_15 K203 K176 rfl ⟨rfl, rfl⟩ (zrcv_I L79 rfl) (by omega) rfl (m176 (by omega) hs (by rw [zz 82 (by decide)]; omega)) ?_))
    rintro _ _ _ ⟨rfl, rfl, rfl⟩
    rw [zz 82 (by decide), e2]
    refine e_bz_eq o203_18 32 rfl (fun hb18 => ?_) (fun hb18 => ?_)
    · refine e_al0 o203_32 (e_ico o203_33 (e_Vi1 o203_34 K203 K133 rfl ⟨rfl, rfl⟩ (zrcv_I L79 rfl) (by omega) rfl m133 ?_))
      rintro _ _ _ ⟨rfl, rfl, rfl⟩
      refine e_rI o203_37 K203 rfl rfl ?_
      exact ⟨Or.inr (Or.inl ⟨by omega, rfl, rfl⟩), rfl⟩
    · refine e_il5 o203_21 (e_if_lt o203_23 32 rfl (by first | exact zg_rg _ _ _ | exact zt_rg _ | omega) (fun hb23 => ?_) (fun hb23 => ?_))
      · refine e_al0 o203_32 (e_ico o203_33 (e_Vi1 o203_34 K203 K133 rfl ⟨rfl, rfl⟩ (zrcv_I L79 rfl) (by omega) rfl m133 ?_))
        rintro _ _ _ ⟨rfl, rfl, rfl⟩
        refine e_rI o203_37 K203 rfl rfl ?_
        exact ⟨Or.inr (Or.inl ⟨by omega, rfl, rfl⟩), rfl⟩
      · refine e_il5 o203_26 (e_ico o203_28 (e_ic_le o203_29 38 rfl (by first | exact zg_rg _ _ _ | exact zt_rg _ | omega) (by first | exact zg_rg _ _ _ | exact zt_rg _ | omega) (fun hb29 => ?_) (fun hb29 => ?_)))
        · refine e_il3 o203_38 (e_if_lt o203_39 57 rfl (by first | exact zg_rg _ _ _ | exact zt_rg _ | omega) (fun hb39 => ?_) (fun hb39 => ?_))
          · refine e_al0 o203_57 (e_ico o203_58 (e_Vi1 o203_59 K203 K133 rfl ⟨rfl, rfl⟩ (zrcv_I L79 rfl) (by omega) rfl m133 ?_))
            rintro _ _ _ ⟨rfl, rfl, rfl⟩
            refine e_rI o203_62 K203 rfl rfl ?_
            exact ⟨Or.inr (Or.inr ⟨by omega, by omega, rfl, rfl⟩), rfl⟩
          · refine e_il4 o203_42 (e_il3 o203_44 (e_ic_le o203_45 57 rfl (by first | exact zg_rg _ _ _ | exact zt_rg _ | omega) (by first | exact zg_rg _ _ _ | exact zt_rg _ | omega) (fun hb45 => ?_) (fun hb45 => ?_)))
            · refine e_al0 o203_57 (e_ico o203_58 (e_Vi1 o203_59 K203 K133 rfl ⟨rfl, rfl⟩ (zrcv_I L79 rfl) (by omega) rfl m133 ?_))
              rintro _ _ _ ⟨rfl, rfl, rfl⟩
              refine e_rI o203_62 K203 rfl rfl ?_
              exact ⟨Or.inr (Or.inr ⟨by omega, by omega, rfl, rfl⟩), rfl⟩
            · refine e_il4 o203_48 (e_al0 o203_50 (e_gI o203_51 L79 rfl 30 rfl ?_))
              rw [zg_ne (by omega), hv]
              refine e_ic_le o203_54 63 rfl (by first | exact zg_rg _ _ _ | exact zt_rg _ | omega) (by first | exact zg_rg _ _ _ | exact zt_rg _ | omega) (fun hb54 => ?_) (fun hb54 => ?_)
              · refine e_ico o203_63 (e_is6 o203_64 (e_ico o203_66 (e_is7 o203_67 (e_il3 o203_69 (e_is8 o203_70 ?_)))))
                have e := loop (by omega) (by omega) 0 (by omega) (by omega)
                rw [Int.add_zero] at e
                exact e
              · refine e_al0 o203_57 (e_ico o203_58 (e_Vi1 o203_59 K203 K133 rfl ⟨rfl, rfl⟩ (zrcv_I L79 rfl) (by omega) rfl m133 ?_))
                rintro _ _ _ ⟨rfl, rfl, rfl⟩
                refine e_rI o203_62 K203 rfl rfl ?_
                exact ⟨Or.inr (Or.inr ⟨by omega, by omega, rfl, rfl⟩), rfl⟩
        · refine e_al0 o203_32 (e_ico o203_33 (e_Vi1 o203_34 K203 K133 rfl ⟨rfl, rfl⟩ (zrcv_I L79 rfl) (by omega) rfl m133 ?_))
          rintro _ _ _ ⟨rfl, rfl, rfl⟩
          refine e_rI o203_37 K203 rfl rfl ?_
          exact ⟨Or.inr (Or.inl ⟨by omega, rfl, rfl⟩), rfl⟩
end
