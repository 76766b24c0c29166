/-! tolls, prices -/
theorem tev_ext {sv : Int → Int} {f g : Int → Int32} {n : Int} (hs : ∀ i, 0 ≤ i → i < n → -15 ≤ sv i) (h : ∀ i, 0 ≤ i → i < 6 → f i = g i) : ∀ i, 0 ≤ i → i ≤ n → tev sv f i = tev sv g i := by
  refine zup (fun _ => rfl) ?_
  intro i i0 ih i1
  unfold tev at ih ⊢
  rw [zfo_succ i0, zfo_succ i0, ih (by omega)]
  unfold tnx
  split
  · congr 1
    funext j
    split
    · split
      · rfl
      · exact h _ (by omega) (by omega)
    · rfl
  · rfl
theorem tres_ext {sv : Int → Int} {f g : Int → Int32} {n : Int} (hW : WT sv n) (h : ∀ i, 0 ≤ i → i < 6 → f i = g i) : tres sv f n = tres sv g n := by
  unfold tres
  rw [tev_ext (fun i a b => (hW.2.2.1 i a b).1) h n hW.1 (Int.le_refl _)]
/-- what a tariff asks -/
def tval (q o f t M y : Int32) : Int → Int32 := fun i => if i = 0 then q else if i = 1 then o else if i = 2 then f else if i = 3 then t else if i = 4 then M else y
/-- the toll of the first j of the stones sj -/
def toll (sv : Int → Int) (n : Int) (q o : Int → Int) (f t M y : Int) (sj : Int → Int) (j : Int) : Int32 := zfo (fun i z => z + tres sv (tval (zI (q (sj i))) (zI (o (sj i))) (zI f) (zI t) (zI M) (zI y)) n) 0 j
def lbit (sj : Int → Int) (j : Int) : Int64 := zfo (fun i b => b ||| (Int64.ofNat 1 <<< ((zI (sj i)).toInt64 &&& 63))) (Int64.ofNat 0) j
theorem lbit_succ {sj : Int → Int} {j : Int} (h : 0 ≤ j) : lbit sj (j + 1) = lbit sj j ||| (Int64.ofNat 1 <<< ((zI (sj j)).toInt64 &&& 63)) := zfo_succ h
section
variable {sc : Nat × (Nat → Int32)} {d : Nat} {v v0 : zV} {u : zU}
theorem c65 {f t M y : Int} {sj : Int → Int} (hd : 3 ≤ d) (hW : WT (zg v 25) (zg v 24 3)) (hf : zg v 45 1 = f) (ht : zg v 45 2 = t) (hM : zg v 45 3 = M) (hy : zg v 33 0 = y) (y0 : 0 ≤ y) (y1 : y < 30) (t0 : 0 ≤ t) (t1 : t < 6) (M0 : 0 ≤ M) (M1 : M ≤ zg v 30 t) (l1 : zg v 30 t ≤ 40) (hs : ∀ j, 0 ≤ j → j < M → zg v 31 (t * 40 + (zg v 30 t - M + j)) = sj j ∧ 0 ≤ sj j ∧ sj j < 40) : zEv sc 65 d 0 [.ref 33, .ref 16, .ref 29, .ref 45, zJ, zJ, zJ, zJ, zJ] [] (zmk v u) 0 0 (zPi fun r v' u' => toll (zg v 25) (zg v 24 3) (zg v 20) (zg v 19) f t M y sj M = r ∧ (∀ a k, ¬ a = 26 → ¬ a = 27 → ¬ (a = 24 ∧ k = 4) → v' a k = v a k) ∧ (∀ k, u' 35 k = if k = y then lbit sj M else u 35 k) ∧ ∀ a k, ¬ a = 35 → u' a k = u a k) := by
  have loop : ∀ j, 0 ≤ j → j ≤ M → ∀ w u2 z, (∀ a k, ¬ a = 26 → ¬ a = 27 → ¬ (a = 24 ∧ k = 4) → w a k = v a k) → w 26 2 = zI f → w 26 3 = zI t → w 26 4 = zI M → w 26 5 = zI y → (∀ k, u2 35 k = if k = y then lbit sj j else u 35 k) → (∀ a k, ¬ a = 35 → u2 a k = u a k) → zEv sc 65 d 87 [.ref 33, .ref 16, .ref 29, .ref 45, .ref 24, .int (toll (zg v 25) (zg v 24 3) (zg v 20) (zg v 19) f t M y sj j), .int (zI (zg v 30 t)), .int (zI (zg v 30 t - M + j)), z] [] (zmk w u2) 0 0 (zPi fun r v' u' => toll (zg v 25) (zg v 24 3) (zg v 20) (zg v 19) f t M y sj M = r ∧ (∀ a k, ¬ a = 26 → ¬ a = 27 → ¬ (a = 24 ∧ k = 4) → v' a k = v a k) ∧ (∀ k, u' 35 k = if k = y then lbit sj M else u 35 k) ∧ ∀ a k, ¬ a = 35 → u' a k = u a k) := by
    refine zloop ?_
    intro j j0 j1 ih w u2 z hfr h2 h3 h4 h5 hu hu2
    have ea : ∀ a k, ¬ a = 26 → ¬ a = 27 → ¬ (a = 24 ∧ k = 4) → zg w a k = zg v a k := fun a k a1 a2 a3 => by simp only [zg]; rw [hfr a k a1 a2 a3]
    refine e_il7 o65_87 (e_il6 o65_89 (e_ic_ge o65_91 165 rfl (by first | exact zg_rg _ _ _ | exact zt_rg _ | omega) (by first | exact zg_rg _ _ _ | exact zt_rg _ | omega) (fun hb91 => ?_) (fun hb91 => ?_)))
    · have ej : j = M := by omega
      subst ej
      refine e_il5 o65_165 ?_
      refine e_rI o65_167 K65 rfl rfl ?_
      exact ⟨rfl, hfr, hu, hu2⟩
    · obtain ⟨s1, s2, s3⟩ := hs j j0 (by omega)
      refine e_al2 o65_94 (e_al3 o65_95 (e_gI o65_96 L45 rfl 2 rfl (e_il7 o65_99 ?_)))
      rw [ea 45 2 (by omega) (by omega) (by omega), ht]
      refine e_Vi2 o65_101 K65 K24 rfl ⟨rfl, rfl⟩ (zrcv_I L29 rfl) (by omega) rfl (c24 t0 t1 (by omega) (by omega)) ?_
      rintro _ _ _ ⟨rfl, rfl, rfl⟩
      rw [ea 31 _ (by omega) (by omega) (by omega), s1]
      refine e_is8 o65_104 (e_al0 o65_106 (e_gR o65_107 L33 rfl rfl (e_al0 o65_110 (e_gI o65_111 L33 rfl 0 rfl ?_))))
      rw [ea 33 0 (by omega) (by omega) (by omega), hy]
      refine e_dup2 o65_114 (e_lal o65_115 L35 (by omega) (by omega) ?_)
      rw [hu y, if_pos rfl]
      refine e_lco o65_116 (e_il8 o65_117 (e_lshl o65_119 (e_lor o65_120 (e_last o65_121 L35 (by omega) (by omega) (e_al4 o65_122 (e_ico o65_124 (e_al1 o65_125 (e_gR o65_126 L16 rfl rfl (e_il8 o65_129 (e_ial o65_131 L20 (by omega) (by omega) ?_))))))))))
      rw [ea 20 _ (by omega) (by omega) (by omega)]
      refine e_Vv2 o65_132 K65 K43 rfl ⟨rfl, rfl⟩ (zrcv_I L24 rfl) (by omega) rfl (c43 (by omega) (by omega)) ?_
      rintro _ _ ⟨rfl, rfl⟩
      refine e_al4 o65_135 (e_bip o65_137 rfl (e_al1 o65_139 (e_gR o65_140 L16 rfl rfl (e_il8 o65_143 (e_ial o65_145 L19 (by omega) (by omega) ?_)))))
      rw [zg_na (by decide), ea 19 _ (by omega) (by omega) (by omega)]
      refine e_Vv2 o65_146 K65 K43 rfl ⟨rfl, rfl⟩ (zrcv_I L24 rfl) (by omega) rfl (c43 (by omega) (by omega)) ?_
      rintro _ _ ⟨rfl, rfl⟩
      obtain ⟨w2, hw2⟩ : ∃ w2, w2 = zu (zu w 26 (-1 - -1) (zI (zg v 20 (sj j)))) 26 (-1 - -2) (zI (zg v 19 (sj j))) := ⟨_, rfl⟩
      rw [← hw2]
      have f2 : ∀ a k, ¬ a = 26 → w2 a k = w a k := fun a k h => by rw [hw2, zu_ne (fun e => h e.1), zu_ne (fun e => h e.1)]
      have e25 : zg w2 25 = zg v 25 := zg_fn fun k => by rw [f2 25 k (by omega), hfr 25 k (by omega) (by omega) (by omega)]
      have e24 : zg w2 24 3 = zg v 24 3 := by simp only [zg]; rw [f2 24 3 (by omega), hfr 24 3 (by omega) (by omega) (by omega)]
      have v26 : ∀ i, 0 ≤ i → i < 6 → w2 26 i = tval (zI (zg v 20 (sj j))) (zI (zg v 19 (sj j))) (zI f) (zI t) (zI M) (zI y) i := by
        intro i i0 i1
        rw [hw2]
        rcases (show i = 0 ∨ i = 1 ∨ i = 2 ∨ i = 3 ∨ i = 4 ∨ i = 5 by omega) with e | e | e | e | e | e <;> subst e
        · rw [zu_ne (by omega), show (-1 - -1 : Int) = 0 by rfl, zu_same]; rfl
        · rw [show (-1 - -2 : Int) = 1 by rfl, zu_same]; rfl
        · rw [zu_ne (by omega), zu_ne (by omega), h2]; rfl
        · rw [zu_ne (by omega), zu_ne (by omega), h3]; rfl
        · rw [zu_ne (by omega), zu_ne (by omega), h4]; rfl
        · rw [zu_ne (by omega), zu_ne (by omega), h5]; rfl
      refine e_il5 o65_149 (e_al4 o65_151 (e_Vi0 o65_153 K65 K44 rfl ⟨rfl, rfl⟩ (zrcv_I L24 rfl) (by omega) rfl (c44 (by omega) (by rw [e25, e24]; exact hW)) ?_))
      rintro _ w3 _ ⟨rfl, g2, rfl⟩
      rw [e25, e24, tres_ext hW v26]
      refine e_addR o65_156 (e_is5 o65_157 (e_inc7 o65_159 (e_goto o65_162 87 rfl ?_)))
      have e := ih (by omega) w3 (zul u2 35 y (lbit sj j ||| (Int64.ofNat 1 <<< ((zI (sj j)).toInt64 &&& 63)))) (.int (zI (sj j))) ?_ ?_ ?_ ?_ ?_ ?_ ?_
      · rw [show zg v 30 t - M + (j + 1) = zg v 30 t - M + j + 1 by omega, toll, zfo_succ j0] at e
        exact e
      · intro a k a1 a2 a3
        rw [g2 a k a2 a3, f2 a k a1]
        exact hfr a k a1 a2 a3
      · rw [g2 26 2 (by omega) (by omega), v26 2 (by omega) (by omega)]; rfl
      · rw [g2 26 3 (by omega) (by omega), v26 3 (by omega) (by omega)]; rfl
      · rw [g2 26 4 (by omega) (by omega), v26 4 (by omega) (by omega)]; rfl
      · rw [g2 26 5 (by omega) (by omega), v26 5 (by omega) (by omega)]; rfl
      · intro k
        by_cases e : k = y
        · rw [e, if_pos rfl, lbit_succ j0]
          simp only [zul, and_self, if_true]
        · rw [if_neg e]
          have := hu k
          rw [if_neg e] at this
          simp only [zul, e, and_false, if_false]
          exact this
      · intro a k h
        simp only [zul, h, false_and, if_false]
        exact hu2 a k h
  refine e_al1 o65_0 (e_gR o65_1 L16 rfl rfl (e_as4 o65_4 (e_al4 o65_6 (e_bip o65_8 rfl (e_al3 o65_10 (e_gI o65_11 L45 rfl 1 rfl ?_))))))
  rw [hf]
  refine e_Vv2 o65_14 K65 K43 rfl ⟨rfl, rfl⟩ (zrcv_I L24 rfl) (by omega) rfl (c43 (by omega) (by omega)) ?_
  rintro _ _ ⟨rfl, rfl⟩
  refine e_al4 o65_17 (e_bip o65_19 rfl (e_al3 o65_21 (e_gI o65_22 L45 rfl 2 rfl ?_)))
  rw [zg_na (by decide), ht]
  refine e_Vv2 o65_25 K65 K43 rfl ⟨rfl, rfl⟩ (zrcv_I L24 rfl) (by omega) rfl (c43 (by omega) (by omega)) ?_
  rintro _ _ ⟨rfl, rfl⟩
  refine e_al4 o65_28 (e_bip o65_30 rfl (e_al3 o65_32 (e_gI o65_33 L45 rfl 3 rfl ?_)))
  rw [zg_na (by decide), zg_na (by decide), hM]
  refine e_Vv2 o65_36 K65 K43 rfl ⟨rfl, rfl⟩ (zrcv_I L24 rfl) (by omega) rfl (c43 (by omega) (by omega)) ?_
  rintro _ _ ⟨rfl, rfl⟩
  refine e_al4 o65_39 (e_bip o65_41 rfl (e_al0 o65_43 (e_gI o65_44 L33 rfl 0 rfl ?_)))
  rw [zg_na (by decide), zg_na (by decide), zg_na (by decide), hy]
  refine e_Vv2 o65_47 K65 K43 rfl ⟨rfl, rfl⟩ (zrcv_I L24 rfl) (by omega) rfl (c43 (by omega) (by omega)) ?_
  rintro _ _ ⟨rfl, rfl⟩
  refine e_ico o65_50 (e_is5 o65_51 (e_al0 o65_53 (e_gR o65_54 L33 rfl rfl (e_al0 o65_57 (e_gI o65_58 L33 rfl 0 rfl ?_)))))
  rw [zg_na (by decide), zg_na (by decide), zg_na (by decide), zg_na (by decide), hy]
  refine e_lco o65_61 (e_last o65_62 L35 (by omega) (by omega) (e_al2 o65_63 (e_gR o65_64 L29 rfl rfl (e_al3 o65_67 (e_gI o65_68 L45 rfl 2 rfl ?_)))))
  rw [zg_na (by decide), zg_na (by decide), zg_na (by decide), zg_na (by decide), ht]
  refine e_ial o65_71 L30 (by omega) (by omega) (e_is6 o65_72 ?_)
  rw [zg_na (by decide), zg_na (by decide), zg_na (by decide), zg_na (by decide)]
  refine e_ico o65_74 (e_il6 o65_75 (e_al3 o65_77 (e_gI o65_78 L45 rfl 3 rfl ?_)))
  rw [zg_na (by decide), zg_na (by decide), zg_na (by decide), zg_na (by decide), hM]
  refine e_sub o65_81 (e_max o65_82 (by omega) rfl (by first | exact zg_rg _ _ _ | exact zt_rg _ | omega) (by first | exact zg_rg _ _ _ | exact zt_rg _ | omega) (e_is7 o65_85 ?_))
  rw [show max 0 (zg v 30 t - M) = zg v 30 t - M + 0 by omega]
  exact loop 0 (by omega) (by omega) _ (zul u 35 y (Int64.ofNat 0)) zJ (fun a k a1 a2 a3 => by rw [zu_ne (fun e => a1 e.1), zu_ne (fun e => a1 e.1), zu_ne (fun e => a1 e.1), zu_ne (fun e => a1 e.1)]) (by rw [zu_ne (by omega), zu_ne (by omega), zu_ne (by omega)]; exact zu_same _ _ _ _) (by rw [zu_ne (by omega), zu_ne (by omega)]; exact zu_same _ _ _ _) (by rw [zu_ne (by omega)]; exact zu_same _ _ _ _) (zu_same _ _ _ _) (fun k => by by_cases e : k = y <;> simp only [zul, e, and_self, and_false, if_true, if_false] <;> rfl) (fun a k h => by simp only [zul, h, false_and, if_false])
theorem c66 {c : Int} (hd : 1 ≤ d) (hc : zg v 33 0 = c) (c0 : 1 ≤ c) (c1 : c ≤ 30) (hB : WB v) (hl : ∀ p, 0 ≤ p → p < 6 → 0 ≤ zg v 30 p ∧ zg v 30 p ≤ 40) (hp : ∀ p, 0 ≤ p → p < zg v 16 8 → 0 ≤ zg v 37 (c * 6 - 6 + p) ∧ zg v 37 (c * 6 - 6 + p) ≤ 99) : zEv sc 66 d 0 [.ref 33, .ref 16, .ref 29, zJ, zJ, zJ] [] (zmk v u) 0 0 (zPv fun v' u' => (∀ a k, ¬ (a = 37 ∧ c * 6 ≤ k ∧ k < c * 6 + 6) → v' a k = v a k) ∧ (∀ p, 0 ≤ p → p < zg v 16 8 → zg v' 37 (c * 6 + p) = prF (zg v 17 p) (zg v 30 p) (zg v 37 (c * 6 - 6 + p))) ∧ u = u') := by
  have p6 := hB.1
  have loop : ∀ p, 0 ≤ p → p ≤ zg v 16 8 → ∀ w y, (∀ a k, ¬ (a = 37 ∧ c * 6 ≤ k ∧ k < c * 6 + 6) → w a k = v a k) → (∀ q, 0 ≤ q → q < p → zg w 37 (c * 6 + q) = prF (zg v 17 q) (zg v 30 q) (zg v 37 (c * 6 - 6 + q))) → zEv sc 66 d 11 [.ref 33, .ref 16, .ref 29, .int (zI (c * 6)), .int (zI p), y] [] (zmk w u) 0 0 (zPv fun v' u' => (∀ a k, ¬ (a = 37 ∧ c * 6 ≤ k ∧ k < c * 6 + 6) → v' a k = v a k) ∧ (∀ p, 0 ≤ p → p < zg v 16 8 → zg v' 37 (c * 6 + p) = prF (zg v 17 p) (zg v 30 p) (zg v 37 (c * 6 - 6 + p))) ∧ u = u') := by
    refine zloop ?_
    intro p p0 p1 ih w y hf hq
    have ea : ∀ a k, ¬ (a = 37 ∧ c * 6 ≤ k ∧ k < c * 6 + 6) → zg w a k = zg v a k := fun a k h => by simp only [zg]; rw [hf a k h]
    have nx : p < zg v 16 8 → ∀ z, (-2147483648 ≤ z ∧ z < 2147483648) → z = prF (zg v 17 p) (zg v 30 p) (zg v 37 (c * 6 - 6 + p)) → ∀ y, zEv sc 66 d 11 [.ref 33, .ref 16, .ref 29, .int (zI (c * 6)), .int (zI (p + 1)), y] [] (zmk (zu w 37 (c * 6 + p) (zI z)) u) 0 0 (zPv fun v' u' => (∀ a k, ¬ (a = 37 ∧ c * 6 ≤ k ∧ k < c * 6 + 6) → v' a k = v a k) ∧ (∀ p, 0 ≤ p → p < zg v 16 8 → zg v' 37 (c * 6 + p) = prF (zg v 17 p) (zg v 30 p) (zg v 37 (c * 6 - 6 + p))) ∧ u = u') := by
      intro h z hz hz2 y
      refine ih h _ _ (fun a k g => by rw [zu_ne (by omega)]; exact hf a k g) ?_
      intro q q0 q1
      by_cases e : q = p
      · subst e; rw [zg_same hz]; exact hz2
      · rw [zg_ne (by omega)]; exact hq q q0 (by omega)
    refine e_il4 o66_11 (e_al1 o66_13 (e_gI o66_14 L16 rfl 8 rfl ?_))
    rw [ea 16 8 (by omega)]
    refine e_ic_ge o66_17 109 rfl (by first | exact zg_rg _ _ _ | exact zt_rg _ | omega) (by first | exact zg_rg _ _ _ | exact zt_rg _ | omega) (fun hb17 => ?_) (fun hb17 => ?_)
    · refine e_rV o66_109 K66 rfl rfl ?_
      have e : p = zg v 16 8 := by omega
      subst e
      exact ⟨hf, hq, rfl⟩
    · have hpp := hp p p0 hb17
      have hll := hl p p0 (by omega)
      have hnn := (hB.2.2.2.1 p p0 hb17).1
      refine e_al0 o66_20 (e_gR o66_21 L33 rfl rfl (e_il3 o66_24 (e_bip o66_25 rfl (e_sub o66_27 (e_il4 o66_28 (e_add o66_30 (e_ial o66_31 L37 (by omega) (by omega) ?_)))))))
      rw [ea 37 _ (by omega)]
      refine e_is5 o66_32 (e_al2 o66_34 (e_gR o66_35 L29 rfl rfl (e_il4 o66_38 (e_ial o66_40 L30 (by omega) (by omega) (e_al1 o66_41 (e_gR o66_42 L16 rfl rfl (e_il4 o66_45 (e_ial o66_47 L17 (by omega) (by omega) ?_))))))))
      rw [ea 17 _ (by omega), ea 30 _ (by omega)]
      refine e_ic_ge o66_48 65 rfl (by first | exact zg_rg _ _ _ | exact zt_rg _ | omega) (by first | exact zg_rg _ _ _ | exact zt_rg _ | omega) (fun hb48 => ?_) (fun hb48 => ?_)
      · refine e_al2 o66_65 (e_gR o66_66 L29 rfl rfl (e_il4 o66_69 (e_ial o66_71 L30 (by omega) (by omega) (e_al1 o66_72 (e_gR o66_73 L16 rfl rfl (e_il4 o66_76 (e_ial o66_78 L17 (by omega) (by omega) ?_)))))))
        rw [ea 17 _ (by omega), ea 30 _ (by omega)]
        refine e_ic_le o66_79 92 rfl (by first | exact zg_rg _ _ _ | exact zt_rg _ | omega) (by first | exact zg_rg _ _ _ | exact zt_rg _ | omega) (fun hb79 => ?_) (fun hb79 => ?_)
        · refine e_al0 o66_92 (e_gR o66_93 L33 rfl rfl (e_il3 o66_96 (e_il4 o66_97 (e_add o66_99 (e_il5 o66_100 (e_iast o66_102 L37 (by omega) (by omega) (e_inc4 o66_103 (e_goto o66_106 11 rfl ?_))))))))
          exact nx hb17 _ (by omega) (by rw [prF, if_neg (by omega), if_neg (by omega)]) _
        · refine e_ico o66_82 (e_il5 o66_83 (e_ico o66_85 (e_sub o66_86 (e_max o66_87 (by omega) rfl (by first | exact zg_rg _ _ _ | exact zt_rg _ | omega) (by first | exact zg_rg _ _ _ | exact zt_rg _ | omega) (e_is5 o66_90 (e_al0 o66_92 (e_gR o66_93 L33 rfl rfl (e_il3 o66_96 (e_il4 o66_97 (e_add o66_99 (e_il5 o66_100 (e_iast o66_102 L37 (by omega) (by omega) (e_inc4 o66_103 (e_goto o66_106 11 rfl ?_))))))))))))))
          exact nx hb17 _ (by omega) (by rw [prF, if_neg (by omega), if_pos (by omega)]) _
      · refine e_bip o66_51 rfl (e_il5 o66_53 (e_ico o66_55 (e_add o66_56 (e_min o66_57 (by omega) rfl (by first | exact zg_rg _ _ _ | exact zt_rg _ | omega) (by first | exact zg_rg _ _ _ | exact zt_rg _ | omega) (e_is5 o66_60 (e_goto o66_62 92 rfl (e_al0 o66_92 (e_gR o66_93 L33 rfl rfl (e_il3 o66_96 (e_il4 o66_97 (e_add o66_99 (e_il5 o66_100 (e_iast o66_102 L37 (by omega) (by omega) (e_inc4 o66_103 (e_goto o66_106 11 rfl ?_)))))))))))))))
        exact nx hb17 _ (by omega) (by rw [prF, if_pos (by omega)]) _
  refine e_al0 o66_0 (e_gI o66_1 L33 rfl 0 rfl ?_)
  rw [hc]
  refine e_bip o66_4 rfl (e_mul o66_6 (e_is3 o66_7 (e_ico o66_8 (e_is4 o66_9 ?_))))
  exact loop 0 (by omega) (by omega) v _ (fun _ _ _ => rfl) (fun q a b => by omega)
end
