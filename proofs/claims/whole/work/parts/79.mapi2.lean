section
variable {sc : Nat × (Nat → Int32)} {d : Nat} {v v0 : zV} {u : zU}
theorem m190 {k t : Int} (hd : 3 ≤ d) (hE : EW v) (hB : WB v) (hk : -2147483648 ≤ k ∧ k < 2147483648) (ht : -2147483648 ≤ t ∧ t < 2147483648) (hl : 0 ≤ zg v 79 32 ∧ zg v 79 32 ≤ 4) : zEv sc 190 d 0 [.ref 79, .int (zI k), .int (zI t)] [] (zmk v u) 0 0 (zPi fun y w e => (((0 ≤ k ∧ k < zg v 16 10) ∧ 0 ≤ t ∧ t < zg v 16 8) ∧ ((zg v 79 32 = 4 ∧ zI (-1) = y ∧ zu (zu v 79 2 (zI 0)) 91 2 (zI (zg v 91 2 + 1)) = w) ∨ (zg v 79 32 < 4 ∧ zI (zg v 79 32 + 1) = y ∧ zu (zu (zu (zu v 79 2 (zI 0)) 100 (zg v 79 32) (zI k)) 101 (zg v 79 32) (zI t)) 79 32 (zI (zg v 79 32 + 1)) = w)) ∧ u = e) ∨ (¬ ((0 ≤ k ∧ k < zg v 16 10) ∧ 0 ≤ t ∧ t < zg v 16 8) ∧ zI 0 = y ∧ zu (zu v 79 2 (zI 0)) 79 2 (zI 1) = w ∧ u = e)) := by
  have e0 := hE.1
  have e2 := hE.2.2.1
  have b0 := hB.1
  have b2 := hB.2.2.1
  have zz : ∀ a, ¬ a = 79 → zg (zu v 79 2 (zI 0)) a = zg v a := fun a h => funext fun k => zg_na h
  refine e_al0 o190_0 (e_ico o190_1 (e_pI o190_2 L79 rfl rfl rfl rfl 2 rfl (e_al0 o190_5 (e_il1 o190_6 (e_Vi1 o190_7 K190 K176 rfl ⟨rfl, rfl⟩ (zrcv_I L79 rfl) (by omega) rfl (m176 (by omega) hk (by rw [zz 82 (by decide)]; omega)) ?_)))))
  rintro _ _ _ ⟨rfl, rfl, rfl⟩
  rw [zz 82 (by decide), e2]
  refine e_bz_eq o190_10 21 rfl (fun hb10 => ?_) (fun hb10 => ?_)
  · refine e_al0 o190_21 (e_ico o190_22 (e_Vi1 o190_23 K190 K133 rfl ⟨rfl, rfl⟩ (zrcv_I L79 rfl) (by omega) rfl m133 ?_))
    rintro _ _ _ ⟨rfl, rfl, rfl⟩
    refine e_rI o190_26 K190 rfl rfl ?_
    exact Or.inr ⟨by omega, rfl, rfl, rfl⟩
  · refine e_al0 o190_13 (e_il2 o190_14 (e_Vi1 o190_15 K190 K168 rfl ⟨rfl, rfl⟩ (zrcv_I L79 rfl) (by omega) rfl (m168 (by omega) ht (by rw [zz 82 (by decide)]; omega)) ?_))
    rintro _ _ _ ⟨rfl, rfl, rfl⟩
    rw [zz 82 (by decide), e0]
    refine e_bz_ne o190_18 27 rfl (fun hb18 => ?_) (fun hb18 => ?_)
    · refine e_al0 o190_27 (e_gI o190_28 L79 rfl 32 rfl (e_ico o190_31 ?_))
      rw [zg_ne (by omega)]
      refine e_ic_ne o190_32 47 rfl (by first | exact zg_rg _ _ _ | exact zt_rg _ | omega) (by first | exact zg_rg _ _ _ | exact zt_rg _ | omega) (fun hb32 => ?_) (fun hb32 => ?_)
      · refine e_al0 o190_47 (e_gR o190_48 L79 rfl rfl (e_al0 o190_51 (e_gI o190_52 L79 rfl 32 rfl ?_)))
        rw [zg_ne (by omega)]
        refine e_il1 o190_55 (e_iast o190_56 L100 (by omega) (by omega) (e_al0 o190_57 (e_gR o190_58 L79 rfl rfl (e_al0 o190_61 (e_gI o190_62 L79 rfl 32 rfl ?_)))))
        rw [zg_na (by decide), zg_ne (by omega)]
        refine e_il2 o190_65 (e_iast o190_66 L101 (by omega) (by omega) (e_al0 o190_67 (e_dupR o190_68 (e_gI o190_69 L79 rfl 32 rfl ?_))))
        rw [zg_na (by decide), zg_na (by decide), zg_ne (by omega)]
        refine e_ico o190_72 (e_add o190_73 (e_pI o190_74 L79 rfl rfl rfl rfl 32 rfl (e_al0 o190_77 (e_gI o190_78 L79 rfl 32 rfl ?_))))
        rw [zg_same (by omega)]
        refine e_rI o190_81 K190 rfl rfl ?_
        exact Or.inl ⟨by omega, Or.inr ⟨by omega, rfl, rfl⟩, rfl⟩
      · refine e_al0 o190_35 (e_gR o190_36 L79 rfl rfl (e_ico o190_39 (e_dup2 o190_40 (e_ial o190_41 L91 (by omega) (by omega) ?_))))
        rw [zz 91 (by decide)]
        refine e_ico o190_42 (e_add o190_43 (e_iast o190_44 L91 (by omega) (by omega) (e_ico o190_45 ?_)))
        refine e_rI o190_46 K190 rfl rfl ?_
        exact Or.inl ⟨by omega, Or.inl ⟨hb32, rfl, rfl⟩, rfl⟩
    · refine e_al0 o190_21 (e_ico o190_22 (e_Vi1 o190_23 K190 K133 rfl ⟨rfl, rfl⟩ (zrcv_I L79 rfl) (by omega) rfl m133 ?_))
      rintro _ _ _ ⟨rfl, rfl, rfl⟩
      refine e_rI o190_26 K190 rfl rfl ?_
      exact Or.inr ⟨by omega, rfl, rfl, rfl⟩
theorem m200 {p o y : Int} (hd : 3 ≤ d) (hE : EW v) (hB : WB v) (hp : -2147483648 ≤ p ∧ p < 2147483648) (ho : -2147483648 ≤ o ∧ o < 2147483648) (hy : -2147483648 ≤ y ∧ y < 2147483648) (hl : 0 ≤ zg v 79 33 ∧ zg v 79 33 ≤ 10) : zEv sc 200 d 0 [.ref 79, .int (zI p), .int (zI o), .int (zI y)] [] (zmk v u) 0 0 (zPi fun r w e => (((0 ≤ p ∧ p < zg v 16 8) ∧ 0 ≤ o ∧ o < zg v 16 8) ∧ (((zg v 79 33 = 10 ∨ ¬ (0 ≤ y ∧ y ≤ 40)) ∧ zI (-1) = r ∧ zu (zu v 79 2 (zI 0)) 91 2 (zI (zg v 91 2 + 1)) = w) ∨ ((zg v 79 33 < 10 ∧ 0 ≤ y ∧ y ≤ 40) ∧ zI (zg v 79 33 + 1) = r ∧ zu (zu (zu (zu (zu v 79 2 (zI 0)) 105 (zg v 79 33) (zI p)) 106 (zg v 79 33) (zI o)) 107 (zg v 79 33) (zI y)) 79 33 (zI (zg v 79 33 + 1)) = w)) ∧ u = e) ∨ (¬ ((0 ≤ p ∧ p < zg v 16 8) ∧ 0 ≤ o ∧ o < zg v 16 8) ∧ zI 0 = r ∧ zu (zu v 79 2 (zI 0)) 79 2 (zI 1) = w ∧ u = e)) := by
  have e0 := hE.1
  have b0 := hB.1
  have zz : ∀ a, ¬ a = 79 → zg (zu v 79 2 (zI 0)) a = zg v a := fun a h => funext fun k => zg_na h
  refine e_al0 o200_0 (e_ico o200_1 (e_pI o200_2 L79 rfl rfl rfl rfl 2 rfl (e_al0 o200_5 (e_il1 o200_6 (e_Vi1 o200_7 K200 K168 rfl ⟨rfl, rfl⟩ (zrcv_I L79 rfl) (by omega) rfl (m168 (by omega) hp (by rw [zz 82 (by decide)]; omega)) ?_)))))
  rintro _ _ _ ⟨rfl, rfl, rfl⟩
  rw [zz 82 (by decide), e0]
  refine e_bz_eq o200_10 21 rfl (fun hb10 => ?_) (fun hb10 => ?_)
  · refine e_al0 o200_21 (e_ico o200_22 (e_Vi1 o200_23 K200 K133 rfl ⟨rfl, rfl⟩ (zrcv_I L79 rfl) (by omega) rfl m133 ?_))
    rintro _ _ _ ⟨rfl, rfl, rfl⟩
    refine e_rI o200_26 K200 rfl rfl ?_
    exact Or.inr ⟨by omega, rfl, rfl, rfl⟩
  · refine e_al0 o200_13 (e_il2 o200_14 (e_Vi1 o200_15 K200 K168 rfl ⟨rfl, rfl⟩ (zrcv_I L79 rfl) (by omega) rfl (m168 (by omega) ho (by rw [zz 82 (by decide)]; omega)) ?_))
    rintro _ _ _ ⟨rfl, rfl, rfl⟩
    rw [zz 82 (by decide), e0]
    refine e_bz_ne o200_18 27 rfl (fun hb18 => ?_) (fun hb18 => ?_)
    · refine e_al0 o200_27 (e_gI o200_28 L79 rfl 33 rfl (e_bip o200_31 rfl ?_))
      rw [zg_ne (by omega)]
      refine e_ic_eq o200_33 46 rfl (by first | exact zg_rg _ _ _ | exact zt_rg _ | omega) (by first | exact zg_rg _ _ _ | exact zt_rg _ | omega) (fun hb33 => ?_) (fun hb33 => ?_)
      · refine e_al0 o200_46 (e_gR o200_47 L79 rfl rfl (e_ico o200_50 (e_dup2 o200_51 (e_ial o200_52 L91 (by omega) (by omega) ?_))))
        rw [zz 91 (by decide)]
        refine e_ico o200_53 (e_add o200_54 (e_iast o200_55 L91 (by omega) (by omega) (e_ico o200_56 ?_)))
        refine e_rI o200_57 K200 rfl rfl ?_
        exact Or.inl ⟨by omega, Or.inl ⟨by omega, rfl, rfl⟩, rfl⟩
      · refine e_il3 o200_36 (e_ico o200_37 (e_bip o200_38 rfl (e_Si3 o200_40 K200 K169 rfl ⟨rfl, rfl⟩ (by omega) rfl (m169 hy (by omega) (by omega)) ?_)))
        rintro _ _ _ ⟨rfl, rfl, rfl⟩
        refine e_bz_ne o200_43 58 rfl (fun hb43 => ?_) (fun hb43 => ?_)
        · refine e_al0 o200_58 (e_gR o200_59 L79 rfl rfl (e_al0 o200_62 (e_gI o200_63 L79 rfl 33 rfl ?_)))
          rw [zg_ne (by omega)]
          refine e_il1 o200_66 (e_iast o200_67 L105 (by omega) (by omega) (e_al0 o200_68 (e_gR o200_69 L79 rfl rfl (e_al0 o200_72 (e_gI o200_73 L79 rfl 33 rfl ?_)))))
          rw [zg_na (by decide), zg_ne (by omega)]
          refine e_il2 o200_76 (e_iast o200_77 L106 (by omega) (by omega) (e_al0 o200_78 (e_gR o200_79 L79 rfl rfl (e_al0 o200_82 (e_gI o200_83 L79 rfl 33 rfl ?_)))))
          rw [zg_na (by decide), zg_na (by decide), zg_ne (by omega)]
          refine e_il3 o200_86 (e_iast o200_87 L107 (by omega) (by omega) (e_al0 o200_88 (e_dupR o200_89 (e_gI o200_90 L79 rfl 33 rfl ?_))))
          rw [zg_na (by decide), zg_na (by decide), zg_na (by decide), zg_ne (by omega)]
          refine e_ico o200_93 (e_add o200_94 (e_pI o200_95 L79 rfl rfl rfl rfl 33 rfl (e_al0 o200_98 (e_gI o200_99 L79 rfl 33 rfl ?_))))
          rw [zg_same (by omega)]
          refine e_rI o200_102 K200 rfl rfl ?_
          exact Or.inl ⟨by omega, Or.inr ⟨by omega, rfl, rfl⟩, rfl⟩
        · refine e_al0 o200_46 (e_gR o200_47 L79 rfl rfl (e_ico o200_50 (e_dup2 o200_51 (e_ial o200_52 L91 (by omega) (by omega) ?_))))
          rw [zz 91 (by decide)]
          refine e_ico o200_53 (e_add o200_54 (e_iast o200_55 L91 (by omega) (by omega) (e_ico o200_56 ?_)))
          refine e_rI o200_57 K200 rfl rfl ?_
          exact Or.inl ⟨by omega, Or.inl ⟨by omega, rfl, rfl⟩, rfl⟩
    · refine e_al0 o200_21 (e_ico o200_22 (e_Vi1 o200_23 K200 K133 rfl ⟨rfl, rfl⟩ (zrcv_I L79 rfl) (by omega) rfl m133 ?_))
      rintro _ _ _ ⟨rfl, rfl, rfl⟩
      refine e_rI o200_26 K200 rfl rfl ?_
      exact Or.inr ⟨by omega, rfl, rfl, rfl⟩
theorem m166 (hc : 0 ≤ zg v 79 30 ∧ zg v 79 30 ≤ 30) : zEv sc 166 d 0 [.ref 79, zJ, zJ] [] (zmk v u) 0 0 (zis (zI (zsg (fun k => zg v 99 (6 * k + 5)) (zg v 79 30))) v u) := by
  have loop : ∀ k, 0 ≤ k → k ≤ zg v 79 30 → zEv sc 166 d 4 [.ref 79, .int (zI (zsg (fun k => zg v 99 (6 * k + 5)) k)), .int (zI k)] [] (zmk v u) 0 0 (zis (zI (zsg (fun k => zg v 99 (6 * k + 5)) (zg v 79 30))) v u) := by
    refine zloop ?_
    intro k k0 k1 ih
    rw [zsg_succ k0] at ih
    refine e_il2 o166_4 (e_al0 o166_5 (e_gI o166_6 L79 rfl 30 rfl (e_ic_ge o166_9 32 rfl (by first | exact zg_rg _ _ _ | exact zt_rg _ | omega) (by first | exact zg_rg _ _ _ | exact zt_rg _ | omega) (fun hb9 => ?_) (fun hb9 => ?_))))
    · have e : k = zg v 79 30 := by omega
      subst e
      refine e_il1 o166_32 ?_
      refine e_rI o166_33 K166 rfl rfl ?_
      exact ⟨rfl, rfl, rfl⟩
    · refine e_il1 o166_12 (e_al0 o166_13 (e_gR o166_14 L79 rfl rfl (e_bip o166_17 rfl (e_il2 o166_19 (e_mul o166_20 (e_ico o166_21 (e_add o166_22 (e_ial o166_23 L99 (by omega) (by omega) (e_add o166_24 (e_is1 o166_25 (e_inc2 o166_26 (e_goto o166_29 4 rfl ?_))))))))))))
      exact ih (by omega)
  refine e_ico o166_0 (e_is1 o166_1 (e_ico o166_2 (e_is2 o166_3 ?_)))
  exact loop 0 (by omega) hc.1
def laidM (v : zV) (a b k : Int) : Int := if zg v 99 (6 * k + 1) = a ∧ zg v 99 (6 * k + 2) = b then zg v 99 (6 * k + 4) else 0
theorem m187 {a b : Int} (hd : 3 ≤ d) (hE : EW v) (hB : WB v) (ha : -2147483648 ≤ a ∧ a < 2147483648) (hb : -2147483648 ≤ b ∧ b < 2147483648) (hc : 0 ≤ zg v 79 30 ∧ zg v 79 30 ≤ 30) : zEv sc 187 d 0 [.ref 79, .int (zI a), .int (zI b), zJ, zJ] [] (zmk v u) 0 0 (mqu ((0 ≤ a ∧ a < zg v 16 8) ∧ 0 ≤ b ∧ b < zg v 16 8) (zI (zsg (fun k => laidM v a b k - laidM v b a k) (zg v 79 30))) v u) := by
  have e0 := hE.1
  have b0 := hB.1
  have zz : ∀ a, ¬ a = 79 → zg (zu v 79 2 (zI 0)) a = zg v a := fun a h => funext fun k => zg_na h
  have loop : (0 ≤ a ∧ a < zg v 16 8) → (0 ≤ b ∧ b < zg v 16 8) → ∀ k, 0 ≤ k → k ≤ zg v 79 30 → zEv sc 187 d 32 [.ref 79, .int (zI a), .int (zI b), .int (zI (zsg (fun k => laidM v a b k - laidM v b a k) k)), .int (zI k)] [] (zmk (zu v 79 2 (zI 0)) u) 0 0 (mqu ((0 ≤ a ∧ a < zg v 16 8) ∧ 0 ≤ b ∧ b < zg v 16 8) (zI (zsg (fun k => laidM v a b k - laidM v b a k) (zg v 79 30))) v u) := by
    intro oa ob
    refine zloop ?_
    intro k k0 k1 ih
    have mid : k < zg v 79 30 → zEv sc 187 d 92 [.ref 79, .int (zI a), .int (zI b), .int (zI (zsg (fun k => laidM v a b k - laidM v b a k) k + laidM v a b k)), .int (zI k)] [] (zmk (zu v 79 2 (zI 0)) u) 0 0 (mqu ((0 ≤ a ∧ a < zg v 16 8) ∧ 0 ≤ b ∧ b < zg v 16 8) (zI (zsg (fun k => laidM v a b k - laidM v b a k) (zg v 79 30))) v u) := by
      intro hk
      have ih := ih hk
      rw [zsg_succ k0] at ih
      refine e_il3 o187_92 (e_al0 o187_93 (e_gR o187_94 L79 rfl rfl (e_bip o187_97 rfl (e_il4 o187_99 (e_mul o187_101 (e_ico o187_102 (e_add o187_103 (e_ial o187_104 L99 (by omega) (by omega) (e_il2 o187_105 ?_)))))))))
      rw [zz 99 (by decide)]
      refine e_ic_ne o187_106 140 rfl (by first | exact zg_rg _ _ _ | exact zt_rg _ | omega) (by first | exact zg_rg _ _ _ | exact zt_rg _ | omega) (fun hb106 => ?_) (fun hb106 => ?_)
      · refine e_ico o187_140 (e_sub o187_141 (e_is3 o187_142 (e_inc4 o187_143 (e_goto o187_146 32 rfl ?_))))
        rw [show zsg (fun k => laidM v a b k - laidM v b a k) k + laidM v a b k - 0 = zsg (fun k => laidM v a b k - laidM v b a k) k + (laidM v a b k - laidM v b a k) by rw [show laidM v b a k = 0 from if_neg (fun e => hb106 e.1)]; omega]
        exact ih
      · refine e_al0 o187_109 (e_gR o187_110 L79 rfl rfl (e_bip o187_113 rfl (e_il4 o187_115 (e_mul o187_117 (e_ico o187_118 (e_add o187_119 (e_ial o187_120 L99 (by omega) (by omega) (e_il1 o187_121 ?_))))))))
        rw [zz 99 (by decide)]
        refine e_ic_ne o187_122 140 rfl (by first | exact zg_rg _ _ _ | exact zt_rg _ | omega) (by first | exact zg_rg _ _ _ | exact zt_rg _ | omega) (fun hb122 => ?_) (fun hb122 => ?_)
        · refine e_ico o187_140 (e_sub o187_141 (e_is3 o187_142 (e_inc4 o187_143 (e_goto o187_146 32 rfl ?_))))
          rw [show zsg (fun k => laidM v a b k - laidM v b a k) k + laidM v a b k - 0 = zsg (fun k => laidM v a b k - laidM v b a k) k + (laidM v a b k - laidM v b a k) by rw [show laidM v b a k = 0 from if_neg (fun e => hb122 e.2)]; omega]
          exact ih
        · refine e_al0 o187_125 (e_gR o187_126 L79 rfl rfl (e_bip o187_129 rfl (e_il4 o187_131 (e_mul o187_133 (e_ico o187_134 (e_add o187_135 (e_ial o187_136 L99 (by omega) (by omega) ?_)))))))
          rw [zz 99 (by decide)]
          refine e_goto o187_137 141 rfl (e_sub o187_141 (e_is3 o187_142 (e_inc4 o187_143 (e_goto o187_146 32 rfl ?_))))
          rw [show zsg (fun k => laidM v a b k - laidM v b a k) k + laidM v a b k - zg v 99 (6 * k + 4) = zsg (fun k => laidM v a b k - laidM v b a k) k + (laidM v a b k - laidM v b a k) by rw [show laidM v b a k = zg v 99 (6 * k + 4) from if_pos ⟨hb106, hb122⟩]; omega]
          exact ih
    refine e_il4 o187_32 (e_al0 o187_34 (e_gI o187_35 L79 rfl 30 rfl ?_))
    rw [zg_ne (by omega)]
    refine e_ic_ge o187_38 149 rfl (by first | exact zg_rg _ _ _ | exact zt_rg _ | omega) (by first | exact zg_rg _ _ _ | exact zt_rg _ | omega) (fun hb38 => ?_) (fun hb38 => ?_)
    · refine e_il3 o187_149 ?_
      refine e_rI o187_150 K187 rfl rfl ?_
      have e : k = zg v 79 30 := by omega
      subst e
      exact Or.inl ⟨⟨oa, ob⟩, rfl, rfl, rfl⟩
    · refine e_il3 o187_41 (e_al0 o187_42 (e_gR o187_43 L79 rfl rfl (e_bip o187_46 rfl (e_il4 o187_48 (e_mul o187_50 (e_ico o187_51 (e_add o187_52 (e_ial o187_53 L99 (by omega) (by omega) (e_il1 o187_54 ?_)))))))))
      rw [zz 99 (by decide)]
      refine e_ic_ne o187_55 89 rfl (by first | exact zg_rg _ _ _ | exact zt_rg _ | omega) (by first | exact zg_rg _ _ _ | exact zt_rg _ | omega) (fun hb55 => ?_) (fun hb55 => ?_)
      · refine e_ico o187_89 (e_add o187_90 (e_is3 o187_91 ?_))
        have e := mid hb38
        rw [show laidM v a b k = 0 from if_neg (fun e => hb55 e.1)] at e
        exact e
      · refine e_al0 o187_58 (e_gR o187_59 L79 rfl rfl (e_bip o187_62 rfl (e_il4 o187_64 (e_mul o187_66 (e_ico o187_67 (e_add o187_68 (e_ial o187_69 L99 (by omega) (by omega) (e_il2 o187_70 ?_))))))))
        rw [zz 99 (by decide)]
        refine e_ic_ne o187_71 89 rfl (by first | exact zg_rg _ _ _ | exact zt_rg _ | omega) (by first | exact zg_rg _ _ _ | exact zt_rg _ | omega) (fun hb71 => ?_) (fun hb71 => ?_)
        · refine e_ico o187_89 (e_add o187_90 (e_is3 o187_91 ?_))
          have e := mid hb38
          rw [show laidM v a b k = 0 from if_neg (fun e => hb71 e.2)] at e
          exact e
        · refine e_al0 o187_74 (e_gR o187_75 L79 rfl rfl (e_bip o187_78 rfl (e_il4 o187_80 (e_mul o187_82 (e_ico o187_83 (e_add o187_84 (e_ial o187_85 L99 (by omega) (by omega) ?_)))))))
          rw [zz 99 (by decide)]
          refine e_goto o187_86 90 rfl (e_add o187_90 (e_is3 o187_91 ?_))
          have e := mid hb38
          rw [show laidM v a b k = zg v 99 (6 * k + 4) from if_pos ⟨hb55, hb71⟩] at e
          exact e
  refine e_al0 o187_0 (e_ico o187_1 (e_pI o187_2 L79 rfl rfl rfl rfl 2 rfl (e_al0 o187_5 (e_il1 o187_6 (e_Vi1 o187_7 K187 K168 rfl ⟨rfl, rfl⟩ (zrcv_I L79 rfl) (by omega) rfl (m168 (by omega) ha (by rw [zz 82 (by decide)]; omega)) ?_)))))
  rintro _ _ _ ⟨rfl, rfl, rfl⟩
  rw [zz 82 (by decide), e0]
  refine e_bz_eq o187_10 21 rfl (fun hb10 => ?_) (fun hb10 => ?_)
  · refine e_al0 o187_21 (e_ico o187_22 (e_Vi1 o187_23 K187 K133 rfl ⟨rfl, rfl⟩ (zrcv_I L79 rfl) (by omega) rfl m133 ?_))
    rintro _ _ _ ⟨rfl, rfl, rfl⟩
    refine e_rI o187_26 K187 rfl rfl ?_
    exact Or.inr ⟨by omega, rfl, rfl, rfl⟩
  · refine e_al0 o187_13 (e_il2 o187_14 (e_Vi1 o187_15 K187 K168 rfl ⟨rfl, rfl⟩ (zrcv_I L79 rfl) (by omega) rfl (m168 (by omega) hb (by rw [zz 82 (by decide)]; omega)) ?_))
    rintro _ _ _ ⟨rfl, rfl, rfl⟩
    rw [zz 82 (by decide), e0]
    refine e_bz_ne o187_18 27 rfl (fun hb18 => ?_) (fun hb18 => ?_)
    · refine e_ico o187_27 (e_is3 o187_28 (e_ico o187_29 (e_is4 o187_30 ?_)))
      exact loop (by omega) (by omega) 0 (by omega) hc.1
    · refine e_al0 o187_21 (e_ico o187_22 (e_Vi1 o187_23 K187 K133 rfl ⟨rfl, rfl⟩ (zrcv_I L79 rfl) (by omega) rfl m133 ?_))
      rintro _ _ _ ⟨rfl, rfl, rfl⟩
      refine e_rI o187_26 K187 rfl rfl ?_
      exact Or.inr ⟨by omega, rfl, rfl, rfl⟩
theorem m188 {a b c : Int} (hd : 3 ≤ d) (hE : EW v) (hB : WB v) (ha : -2147483648 ≤ a ∧ a < 2147483648) (hb : -2147483648 ≤ b ∧ b < 2147483648) (hc : zg v 79 30 = c) (hc1 : zg v 33 0 = c) (c0 : 0 ≤ c ∧ c ≤ 30) : zEv sc 188 d 0 [.ref 79, .int (zI a), .int (zI b), zJ] [] (zmk v u) 0 0 (zPi fun y w e => (((0 ≤ a ∧ a < zg v 16 9) ∧ 0 ≤ b ∧ b < zg v 16 9) ∧ (∃ r, zI r = y ∧ ((a = b ∧ r = -1) ∨ (¬ a = b ∧ frst (fun k => (hrow v k a).toInt = (hrow v k b).toInt) c r))) ∧ zu v 79 2 (zI 0) = w ∧ u = e) ∨ (¬ ((0 ≤ a ∧ a < zg v 16 9) ∧ 0 ≤ b ∧ b < zg v 16 9) ∧ zI 0 = y ∧ zu (zu v 79 2 (zI 0)) 79 2 (zI 1) = w ∧ u = e)) := by
  have e0 := hE.2.1
  have b0 := hB.2.1
  have zz : ∀ a, ¬ a = 79 → zg (zu v 79 2 (zI 0)) a = zg v a := fun a h => funext fun k => zg_na h
  have hp : ∀ k q, ¬ k = c → (hrow v k q).toInt = zg v 95 (171 * k + q) := fun k q h => by unfold hrow; rw [hc1, if_neg h]; rfl
  have hq : ∀ q, (hrow v c q).toInt = zg v 93 q := fun q => by unfold hrow; rw [hc1, if_pos rfl]; rfl
  have loop : (0 ≤ a ∧ a < zg v 16 9) → (0 ≤ b ∧ b < zg v 16 9) → ∀ k, 0 ≤ k → k ≤ c → (∀ j, 0 ≤ j → j < k → ¬ (hrow v j a).toInt = (hrow v j b).toInt) → zEv sc 188 d 29 [.ref 79, .int (zI a), .int (zI b), .int (zI k)] [] (zmk (zu v 79 2 (zI 0)) u) 0 0 (zPi fun y w e => (((0 ≤ a ∧ a < zg v 16 9) ∧ 0 ≤ b ∧ b < zg v 16 9) ∧ (∃ r, zI r = y ∧ ((a = b ∧ r = -1) ∨ (¬ a = b ∧ frst (fun k => (hrow v k a).toInt = (hrow v k b).toInt) c r))) ∧ zu v 79 2 (zI 0) = w ∧ u = e) ∨ (¬ ((0 ≤ a ∧ a < zg v 16 9) ∧ 0 ≤ b ∧ b < zg v 16 9) ∧ zI 0 = y ∧ zu (zu v 79 2 (zI 0)) 79 2 (zI 1) = w ∧ u = e)) := by
    intro oa ob
    refine zloop ?_
    intro k k0 k1 ih hk
    refine e_il3 o188_29 (e_al0 o188_30 (e_gI o188_31 L79 rfl 30 rfl ?_))
    rw [zg_ne (by omega), hc]
    refine e_ic_ge o188_34 77 rfl (by first | exact zg_rg _ _ _ | exact zt_rg _ | omega) (by first | exact zg_rg _ _ _ | exact zt_rg _ | omega) (fun hb34 => ?_) (fun hb34 => ?_)
    · refine e_il1 o188_77 (e_il2 o188_78 (e_ic_eq o188_79 104 rfl (by first | exact zg_rg _ _ _ | exact zt_rg _ | omega) (by first | exact zg_rg _ _ _ | exact zt_rg _ | omega) (fun hb79 => ?_) (fun hb79 => ?_)))
      · refine e_ico o188_104 ?_
        refine e_rI o188_105 K188 rfl rfl ?_
        refine Or.inl ⟨⟨oa, ob⟩, ?_, rfl, rfl⟩
        by_cases e : a = b
        · refine ⟨-1, ?_, Or.inl ⟨e, rfl⟩⟩
          first | rfl | exact absurd e hb79
        · have ek : k = c := by first | omega | exact absurd hb39 e
          subst ek
          first | exact ⟨k, rfl, Or.inr ⟨e, Or.inr ⟨k0, k1, hb94, hk⟩⟩⟩ | exact ⟨-1, rfl, Or.inr ⟨e, Or.inl ⟨rfl, fun j j0 j1 => by rcases (show j < k ∨ j = k by omega) with z | z; exact hk j j0 z; subst z; exact hb94⟩⟩⟩ | exact absurd hb79 e
      · refine e_al0 o188_82 (e_gR o188_83 L79 rfl rfl (e_il1 o188_86 (e_ial o188_87 L93 (by omega) (by omega) (e_al0 o188_88 (e_gR o188_89 L79 rfl rfl (e_il2 o188_92 (e_ial o188_93 L93 (by omega) (by omega) ?_)))))))
        rw [zz 93 (by decide), ← hq a, ← hq b]
        refine e_ic_ne o188_94 104 rfl (zt_rg _) (zt_rg _) (fun hb94 => ?_) (fun hb94 => ?_)
        · refine e_ico o188_104 ?_
          refine e_rI o188_105 K188 rfl rfl ?_
          refine Or.inl ⟨⟨oa, ob⟩, ?_, rfl, rfl⟩
          by_cases e : a = b
          · refine ⟨-1, ?_, Or.inl ⟨e, rfl⟩⟩
            first | rfl | exact absurd e hb79
          · have ek : k = c := by first | omega | exact absurd hb39 e
            subst ek
            first | exact ⟨k, rfl, Or.inr ⟨e, Or.inr ⟨k0, k1, hb94, hk⟩⟩⟩ | exact ⟨-1, rfl, Or.inr ⟨e, Or.inl ⟨rfl, fun j j0 j1 => by rcases (show j < k ∨ j = k by omega) with z | z; exact hk j j0 z; subst z; exact hb94⟩⟩⟩ | exact absurd hb79 e
        · refine e_al0 o188_97 (e_gI o188_98 L79 rfl 30 rfl ?_)
          rw [zg_ne (by omega), hc]
          refine e_goto o188_101 105 rfl ?_
          refine e_rI o188_105 K188 rfl rfl ?_
          refine Or.inl ⟨⟨oa, ob⟩, ?_, rfl, rfl⟩
          by_cases e : a = b
          · refine ⟨-1, ?_, Or.inl ⟨e, rfl⟩⟩
            first | rfl | exact absurd e hb79
          · have ek : k = c := by first | omega | exact absurd hb39 e
            subst ek
            first | exact ⟨k, rfl, Or.inr ⟨e, Or.inr ⟨k0, k1, hb94, hk⟩⟩⟩ | exact ⟨-1, rfl, Or.inr ⟨e, Or.inl ⟨rfl, fun j j0 j1 => by rcases (show j < k ∨ j = k by omega) with z | z; exact hk j j0 z; subst z; exact hb94⟩⟩⟩ | exact absurd hb79 e
    · refine e_il1 o188_37 (e_il2 o188_38 (e_ic_eq o188_39 77 rfl (by first | exact zg_rg _ _ _ | exact zt_rg _ | omega) (by first | exact zg_rg _ _ _ | exact zt_rg _ | omega) (fun hb39 => ?_) (fun hb39 => ?_)))
      · refine e_il1 o188_77 (e_il2 o188_78 (e_ic_eq o188_79 104 rfl (by first | exact zg_rg _ _ _ | exact zt_rg _ | omega) (by first | exact zg_rg _ _ _ | exact zt_rg _ | omega) (fun hb79 => ?_) (fun hb79 => ?_)))
        · refine e_ico o188_104 ?_
          refine e_rI o188_105 K188 rfl rfl ?_
          refine Or.inl ⟨⟨oa, ob⟩, ?_, rfl, rfl⟩
          by_cases e : a = b
          · refine ⟨-1, ?_, Or.inl ⟨e, rfl⟩⟩
            first | rfl | exact absurd e hb79
          · have ek : k = c := by first | omega | exact absurd hb39 e
            subst ek
            first | exact ⟨k, rfl, Or.inr ⟨e, Or.inr ⟨k0, k1, hb94, hk⟩⟩⟩ | exact ⟨-1, rfl, Or.inr ⟨e, Or.inl ⟨rfl, fun j j0 j1 => by rcases (show j < k ∨ j = k by omega) with z | z; exact hk j j0 z; subst z; exact hb94⟩⟩⟩ | exact absurd hb79 e
        · refine e_al0 o188_82 (e_gR o188_83 L79 rfl rfl (e_il1 o188_86 (e_ial o188_87 L93 (by omega) (by omega) (e_al0 o188_88 (e_gR o188_89 L79 rfl rfl (e_il2 o188_92 (e_ial o188_93 L93 (by omega) (by omega) ?_)))))))
          rw [zz 93 (by decide), ← hq a, ← hq b]
          refine e_ic_ne o188_94 104 rfl (zt_rg _) (zt_rg _) (fun hb94 => ?_) (fun hb94 => ?_)
          · refine e_ico o188_104 ?_
            refine e_rI o188_105 K188 rfl rfl ?_
            refine Or.inl ⟨⟨oa, ob⟩, ?_, rfl, rfl⟩
            by_cases e : a = b
            · refine ⟨-1, ?_, Or.inl ⟨e, rfl⟩⟩
              first | rfl | exact absurd e hb79
            · have ek : k = c := by first | omega | exact absurd hb39 e
              subst ek
              first | exact ⟨k, rfl, Or.inr ⟨e, Or.inr ⟨k0, k1, hb94, hk⟩⟩⟩ | exact ⟨-1, rfl, Or.inr ⟨e, Or.inl ⟨rfl, fun j j0 j1 => by rcases (show j < k ∨ j = k by omega) with z | z; exact hk j j0 z; subst z; exact hb94⟩⟩⟩ | exact absurd hb79 e
          · refine e_al0 o188_97 (e_gI o188_98 L79 rfl 30 rfl ?_)
            rw [zg_ne (by omega), hc]
            refine e_goto o188_101 105 rfl ?_
            refine e_rI o188_105 K188 rfl rfl ?_
            refine Or.inl ⟨⟨oa, ob⟩, ?_, rfl, rfl⟩
            by_cases e : a = b
            · refine ⟨-1, ?_, Or.inl ⟨e, rfl⟩⟩
              first | rfl | exact absurd e hb79
            · have ek : k = c := by first | omega | exact absurd hb39 e
              subst ek
              first | exact ⟨k, rfl, Or.inr ⟨e, Or.inr ⟨k0, k1, hb94, hk⟩⟩⟩ | exact ⟨-1, rfl, Or.inr ⟨e, Or.inl ⟨rfl, fun j j0 j1 => by rcases (show j < k ∨ j = k by omega) with z | z; exact hk j j0 z; subst z; exact hb94⟩⟩⟩ | exact absurd hb79 e
      · refine e_al0 o188_42 (e_gR o188_43 L79 rfl rfl (e_sip o188_46 rfl (e_il3 o188_49 (e_mul o188_50 (e_il1 o188_51 (e_add o188_52 (e_ial o188_53 L95 (by omega) (by omega) (e_al0 o188_54 (e_gR o188_55 L79 rfl rfl (e_sip o188_58 rfl (e_il3 o188_61 (e_mul o188_62 (e_il2 o188_63 (e_add o188_64 (e_ial o188_65 L95 (by omega) (by omega) ?_)))))))))))))))
        rw [zz 95 (by decide), ← hp k a (by omega), ← hp k b (by omega)]
        refine e_ic_ne o188_66 71 rfl (zt_rg _) (zt_rg _) (fun hb66 => ?_) (fun hb66 => ?_)
        · refine e_inc3 o188_71 (e_goto o188_74 29 rfl ?_)
          refine ih hb34 (fun j j0 j1 => ?_)
          rcases (show j < k ∨ j = k by omega) with e | e
          · exact hk j j0 e
          · subst e; exact hb66
        · refine e_il3 o188_69 ?_
          refine e_rI o188_70 K188 rfl rfl ?_
          exact Or.inl ⟨⟨oa, ob⟩, ⟨k, rfl, Or.inr ⟨hb39, Or.inr ⟨k0, k1, hb66, hk⟩⟩⟩, rfl, rfl⟩
  refine e_al0 o188_0 (e_ico o188_1 (e_pI o188_2 L79 rfl rfl rfl rfl 2 rfl (e_al0 o188_5 (e_il1 o188_6 (e_Vi1 o188_7 K188 K172 rfl ⟨rfl, rfl⟩ (zrcv_I L79 rfl) (by omega) rfl (m172 (by omega) ha (by rw [zz 82 (by decide)]; omega)) ?_)))))
  rintro _ _ _ ⟨rfl, rfl, rfl⟩
  rw [zz 82 (by decide), e0]
  refine e_bz_eq o188_10 21 rfl (fun hb10 => ?_) (fun hb10 => ?_)
  · refine e_al0 o188_21 (e_ico o188_22 (e_Vi1 o188_23 K188 K133 rfl ⟨rfl, rfl⟩ (zrcv_I L79 rfl) (by omega) rfl m133 ?_))
    rintro _ _ _ ⟨rfl, rfl, rfl⟩
    refine e_rI o188_26 K188 rfl rfl ?_
    exact Or.inr ⟨by omega, rfl, rfl, rfl⟩
  · refine e_al0 o188_13 (e_il2 o188_14 (e_Vi1 o188_15 K188 K172 rfl ⟨rfl, rfl⟩ (zrcv_I L79 rfl) (by omega) rfl (m172 (by omega) hb (by rw [zz 82 (by decide)]; omega)) ?_))
    rintro _ _ _ ⟨rfl, rfl, rfl⟩
    rw [zz 82 (by decide), e0]
    refine e_bz_ne o188_18 27 rfl (fun hb18 => ?_) (fun hb18 => ?_)
    · refine e_ico o188_27 (e_is3 o188_28 ?_)
      exact loop (by omega) (by omega) 0 (by omega) c0.1 (fun j a b => by omega)
    · refine e_al0 o188_21 (e_ico o188_22 (e_Vi1 o188_23 K188 K133 rfl ⟨rfl, rfl⟩ (zrcv_I L79 rfl) (by omega) rfl m133 ?_))
      rintro _ _ _ ⟨rfl, rfl, rfl⟩
      refine e_rI o188_26 K188 rfl rfl ?_
      exact Or.inr ⟨by omega, rfl, rfl, rfl⟩
end
