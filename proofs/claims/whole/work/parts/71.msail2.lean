theorem zcp_step {V : zV} {a b : Nat} {s t n : Int} (h : 0 ≤ n) : zcp V a b s t (n + 1) = zu (zcp V a b s t n) b (t + n) (V a (s + n)) := by
  funext c k
  simp only [zcp, zu]
  by_cases h1 : c = b ∧ k = t + n
  · rw [if_pos h1, if_pos ⟨h1.1, by omega, by omega⟩, h1.2, show s + (t + n - t) = s + n by omega]
  · rw [if_neg h1]
    by_cases h2 : c = b ∧ t ≤ k ∧ k < t + n
    · rw [if_pos h2, if_pos ⟨h2.1, h2.2.1, by omega⟩]
    · rw [if_neg h2, if_neg (by omega)]
section
variable {sc : Nat × (Nat → Int32)} {d : Nat} {v v0 : zV} {u : zU}
theorem m177_bad {k t y : Int} (hd : 2 ≤ d) (hE : EW v) (hB : WB v) (hk : -2147483648 ≤ k ∧ k < 2147483648) (ht : -2147483648 ≤ t ∧ t < 2147483648) (h : ¬ ((0 ≤ k ∧ k < zg v 16 10) ∧ 0 ≤ t ∧ t < zg v 16 8)) : zEv sc 177 d 0 [.ref 79, .int (zI k), .int (zI t), .int (zI y), zJ, zJ, zJ] [] (zmk v u) 0 0 (zis (zI 0) (zu (zu v 79 2 (zI 0)) 79 2 (zI 1)) u) := by
  have e0 := hE.1
  have e2 := hE.2.2.1
  have b0 := hB.1
  have b2 := hB.2.2.1
  refine e_al0 o177_0 (e_ico o177_1 (e_pI o177_2 L79 rfl rfl rfl rfl 2 rfl (e_al0 o177_5 (e_il1 o177_6 (e_Vi1 o177_7 K177 K176 rfl ⟨rfl, rfl⟩ (zrcv_I L79 rfl) (by omega) rfl (m176 (by omega) hk (by rw [zg_na (by decide)]; omega)) ?_)))))
  rintro _ _ _ ⟨rfl, rfl, rfl⟩
  rw [zg_na (by decide), e2]
  refine e_bz_eq o177_10 21 rfl (fun hb10 => ?_) (fun hb10 => ?_)
  · refine e_al0 o177_21 (e_ico o177_22 (e_Vi1 o177_23 K177 K133 rfl ⟨rfl, rfl⟩ (zrcv_I L79 rfl) (by omega) rfl m133 ?_))
    rintro _ _ _ ⟨rfl, rfl, rfl⟩
    refine e_rI o177_26 K177 rfl rfl ?_
    exact ⟨rfl, rfl, rfl⟩
  · refine e_al0 o177_13 (e_il2 o177_14 (e_Vi1 o177_15 K177 K168 rfl ⟨rfl, rfl⟩ (zrcv_I L79 rfl) (by omega) rfl (m168 (by omega) ht (by rw [zg_na (by decide)]; omega)) ?_))
    rintro _ _ _ ⟨rfl, rfl, rfl⟩
    rw [zg_na (by decide), e0]
    refine e_bz_ne o177_18 27 rfl (fun hb18 => ?_) (fun hb18 => ?_)
    · omega
    · refine e_al0 o177_21 (e_ico o177_22 (e_Vi1 o177_23 K177 K133 rfl ⟨rfl, rfl⟩ (zrcv_I L79 rfl) (by omega) rfl m133 ?_))
      rintro _ _ _ ⟨rfl, rfl, rfl⟩
      refine e_rI o177_26 K177 rfl rfl ?_
      exact ⟨rfl, rfl, rfl⟩
theorem m177_ref {k t y : Int} (hd : 2 ≤ d) (hE : EW v) (hB : WB v) (k0 : 0 ≤ k) (k1 : k < zg v 16 10) (t0 : 0 ≤ t) (t1 : t < zg v 16 8) (hy : -2147483648 ≤ y ∧ y < 2147483648) (h : zg v 79 30 = 30 ∨ zg v 93 (166 + k) = t ∨ ¬ (0 ≤ y ∧ y ≤ zg v 22 k)) : zEv sc 177 d 0 [.ref 79, .int (zI k), .int (zI t), .int (zI y), zJ, zJ, zJ] [] (zmk v u) 0 0 (zis (zI (-1)) (zu (zu v 79 2 (zI 0)) 91 1 (zI (zg v 91 1 + 1))) u) := by
  have e0 := hE.1
  have e2 := hE.2.2.1
  have b0 := hB.1
  have b2 := hB.2.2.1
  have ek := (hE.2.2.2.2.2 k k0 k1).2.1
  have fin : ∀ a4, zEv sc 177 d 68 [.ref 79, .int (zI k), .int (zI t), .int (zI y), a4, zJ, zJ] [] (zmk (zu v 79 2 (zI 0)) u) 0 0 (zis (zI (-1)) (zu (zu v 79 2 (zI 0)) 91 1 (zI (zg v 91 1 + 1))) u) := by
    intro a4
    refine e_al0 o177_68 (e_gR o177_69 L79 rfl rfl (e_ico o177_72 (e_dup2 o177_73 (e_ial o177_74 L91 (by omega) (by omega) ?_))))
    rw [zg_na (by decide)]
    refine e_ico o177_75 (e_add o177_76 (e_iast o177_77 L91 (by omega) (by omega) (e_ico o177_78 ?_)))
    refine e_rI o177_79 K177 rfl rfl ?_
    exact ⟨rfl, rfl, rfl⟩
  refine e_al0 o177_0 (e_ico o177_1 (e_pI o177_2 L79 rfl rfl rfl rfl 2 rfl (e_al0 o177_5 (e_il1 o177_6 (e_Vi1 o177_7 K177 K176 rfl ⟨rfl, rfl⟩ (zrcv_I L79 rfl) (by omega) rfl (m176 (by omega) (by omega) (by rw [zg_na (by decide)]; omega)) ?_)))))
  rintro _ _ _ ⟨rfl, rfl, rfl⟩
  rw [zg_na (by decide), e2]
  refine e_bz_eq o177_10 21 rfl (fun hb10 => ?_) (fun hb10 => ?_)
  · omega
  · refine e_al0 o177_13 (e_il2 o177_14 (e_Vi1 o177_15 K177 K168 rfl ⟨rfl, rfl⟩ (zrcv_I L79 rfl) (by omega) rfl (m168 (by omega) (by omega) (by rw [zg_na (by decide)]; omega)) ?_))
    rintro _ _ _ ⟨rfl, rfl, rfl⟩
    rw [zg_na (by decide), e0]
    refine e_bz_ne o177_18 27 rfl (fun hb18 => ?_) (fun hb18 => ?_)
    · refine e_al0 o177_27 (e_gR o177_28 L79 rfl rfl (e_sip o177_31 rfl (e_il1 o177_34 (e_add o177_35 (e_ial o177_36 L93 (by omega) (by omega) ?_)))))
      rw [zg_na (by decide)]
      refine e_is4 o177_37 (e_al0 o177_39 (e_gI o177_40 L79 rfl 30 rfl (e_bip o177_43 rfl ?_)))
      rw [zg_ne (by omega)]
      refine e_ic_eq o177_45 68 rfl (by first | exact zg_rg _ _ _ | exact zt_rg _ | omega) (by first | exact zg_rg _ _ _ | exact zt_rg _ | omega) (fun hb45 => ?_) (fun hb45 => ?_)
      · exact fin _
      · refine e_il4 o177_48 (e_il2 o177_50 (e_ic_eq o177_51 68 rfl (by first | exact zg_rg _ _ _ | exact zt_rg _ | omega) (by first | exact zg_rg _ _ _ | exact zt_rg _ | omega) (fun hb51 => ?_) (fun hb51 => ?_)))
        · exact fin _
        · refine e_il3 o177_54 (e_ico o177_55 (e_al0 o177_56 (e_gR o177_57 L79 rfl rfl (e_il1 o177_60 (e_ial o177_61 L88 (by omega) (by omega) (e_Si3 o177_62 K177 K169 rfl ⟨rfl, rfl⟩ (by omega) rfl (m169 hy (by omega) (zg_rg _ _ _)) ?_))))))
          rintro _ _ _ ⟨rfl, rfl, rfl⟩
          rw [zg_na (by decide), ek]
          refine e_bz_ne o177_65 80 rfl (fun hb65 => ?_) (fun hb65 => ?_)
          · omega
          · exact fin _
    · omega
/-- the reference's cells behind a voyage -/
def MM (v : zV) (k f t y : Int) (x : zPL) (M c : Int) (tl : Int32) (v' : zV) : Prop :=
  (∀ a q, ¬ a = 93 → ¬ (a = 95 ∧ 171 * c ≤ q ∧ q < 171 * c + 171) → ¬ a = 96 → ¬ a = 97 → ¬ a = 98 → ¬ (a = 99 ∧ 6 * c ≤ q ∧ q < 6 * c + 6) → ¬ (a = 79 ∧ q = 2) → ¬ (a = 79 ∧ q = 30) → v' a q = v a q) ∧
  v' 79 2 = zI 0 ∧ zg v' 79 30 = c + 1 ∧ (∀ q, 0 ≤ q → q < 171 → v' 95 (171 * c + q) = v 93 q) ∧
  (∀ s, 0 ≤ s → s < zg v 16 9 → zg v' 93 s = (stN v k f t x M).1 s ∧ zg v' 93 (40 + s) = (stN v k f t x M).2 s ∧ ((stN v k f t x M).1 s = x.1 s → v' 93 (80 + s) = v 93 (80 + s) ∧ v' 93 (120 + s) = v 93 (120 + s)) ∧ (¬ (stN v k f t x M).1 s = x.1 s → v' 93 (80 + s) = zI c ∧ v' 93 (120 + s) = v 93 (120 + s) ||| (1 <<< (zI t &&& 31)))) ∧
  (∀ p, 0 ≤ p → p < zg v 16 8 → zg v' 93 (160 + p) = prF (zg v 17 p) (cnt (stN v k f t x M).1 p (zg v 16 9)) (zg v 93 (160 + p))) ∧
  (∀ i, 0 ≤ i → i < 5 → zg v' 93 (166 + i) = if i = k then t else zg v 93 (166 + i)) ∧
  v' 99 (6 * c) = zI k ∧ v' 99 (6 * c + 1) = zI f ∧ v' 99 (6 * c + 2) = zI t ∧ v' 99 (6 * c + 3) = zI y ∧ v' 99 (6 * c + 4) = zI M ∧ v' 99 (6 * c + 5) = tl
theorem m177_ok {k f t y c M : Int} {x : zPL} {sv : Int → Int} {n : Int} (hd : 3 ≤ d) (hE : EW v) (hB : WB v) (hW : WT sv n) (hn : zg v 82 3 = n) (hs : ∀ i, 0 ≤ i → i < n → zg v 90 i = enc (sv i)) (k0 : 0 ≤ k) (k1 : k < zg v 16 10) (t0 : 0 ≤ t) (t1 : t < zg v 16 8) (hc : zg v 79 30 = c) (c0 : 0 ≤ c) (c1 : c < 30) (hf : zg v 93 (166 + k) = f) (f0 : 0 ≤ f) (f1 : f < 6) (ft : ¬ f = t) (y0 : 0 ≤ y) (y1 : y ≤ zg v 22 k) (hV : VS v x) (hx : ∀ s, 0 ≤ s → s < zg v 16 9 → zg v 93 s = x.1 s ∧ zg v 93 (40 + s) = x.2 s ∧ 0 ≤ x.2 s ∧ x.2 s < 40) (hpr : ∀ p, 0 ≤ p → p < zg v 16 8 → 0 ≤ zg v 93 (160 + p) ∧ zg v 93 (160 + p) ≤ 99) (hM : M = min (wantC v k y) (cnt x.1 f (zg v 16 9))) : zEv sc 177 d 0 [.ref 79, .int (zI k), .int (zI t), .int (zI y), zJ, zJ, zJ] [] (zmk v u) 0 0 (zPi fun r v' u' => zI M = r ∧ MM v k f t y x M c (toll sv n (zg v 20) (zg v 19) f t M c (fun j => tkS v k f (stN v k f t x j)) M) v' ∧ u = u') := by
  have e0 := hE.1
  have e2 := hE.2.2.1
  have b0 := hB.1
  have b1 := hB.2.1
  have b2 := hB.2.2.1
  have ek := (hE.2.2.2.2.2 k k0 k1).2.1
  have bk := hB.2.2.2.2.2 k k0 k1
  have cr := cnt_rg (P := x.1) (p := f) hB.2.1.1
  have hw0 : 0 ≤ wantC v k y ∧ wantC v k y ≤ 8 := by
    unfold wantC
    split <;> omega
  have loop : ∀ q, 0 ≤ q → q ≤ 171 → zEv sc 177 d 83 [.ref 79, .int (zI k), .int (zI t), .int (zI y), .int (zI f), .int (zI q), zJ] [] (zmk (zcp (zu v 79 2 (zI 0)) 93 95 0 (171 * c) q) u) 0 0 (zPi fun r v' u' => zI M = r ∧ MM v k f t y x M c (toll sv n (zg v 20) (zg v 19) f t M c (fun j => tkS v k f (stN v k f t x j)) M) v' ∧ u = u') := by
    refine zloop ?_
    intro q q0 q1 ih
    have ez : ∀ a j, ¬ a = 95 → ¬ (a = 79 ∧ j = 2) → zg (zcp (zu v 79 2 (zI 0)) 93 95 0 (171 * c) q) a j = zg v a j := by
      intro a j h h'
      simp only [zg, zcp]
      rw [if_neg (fun e => h e.1), zu_ne h']
    refine e_il5 o177_83 (e_sip o177_85 rfl (e_ic_ge o177_88 120 rfl (by first | exact zg_rg _ _ _ | exact zt_rg _ | omega) (by first | exact zg_rg _ _ _ | exact zt_rg _ | omega) (fun hb88 => ?_) (fun hb88 => ?_)))
    · have eq : q = 171 := by omega
      subst eq
      obtain ⟨v1, hv1⟩ : ∃ v1, v1 = zcp (zu v 79 2 (zI 0)) 93 95 0 (171 * c) 171 := ⟨_, rfl⟩
      rw [← hv1] at ez ⊢
      have f1' : ∀ a j, ¬ (a = 95 ∧ 171 * c ≤ j ∧ j < 171 * c + 171) → ¬ (a = 79 ∧ j = 2) → v1 a j = v a j := by
        intro a j h h'
        rw [hv1, zcp, if_neg h, zu_ne h']
      have w1 : ∀ a q, 16 ≤ a → a ≤ 23 → v1 a q = v a q := fun a q h1 h2 => f1' a q (by omega) (by omega)
      have eN : stN v1 = stN v := stN_w3 w1
      have eK : tkS v1 = tkS v := tkS_w3 w1
      have g16 : ∀ a, a < 79 → zg v1 a = zg v a := fun a h => zg_fn fun j => f1' a j (by omega) (by omega)
      have g93 : zg v1 93 = zg v 93 := zg_fn fun j => f1' 93 j (by omega) (by omega)
      have hE1 : EW v1 := by
        have hh := hE
        unfold EW at hh ⊢
        rw [g16 16 (by omega), g16 17 (by omega), g16 18 (by omega), g16 19 (by omega), g16 20 (by omega), g16 21 (by omega), g16 22 (by omega), g16 23 (by omega), zg_fn fun j => f1' 82 j (by omega) (by omega), zg_fn fun j => f1' 83 j (by omega) (by omega), zg_fn fun j => f1' 84 j (by omega) (by omega), zg_fn fun j => f1' 85 j (by omega) (by omega), zg_fn fun j => f1' 86 j (by omega) (by omega), zg_fn fun j => f1' 87 j (by omega) (by omega), zg_fn fun j => f1' 88 j (by omega) (by omega), zg_fn fun j => f1' 89 j (by omega) (by omega)]
        exact hh
      have hB1 : WB v1 := WB_w3 w1 hB
      have eW : wantC v1 k y = wantC v k y := by unfold wantC; rw [g16 21 (by omega), g16 22 (by omega)]
      have hV1 : VS v1 x := by
        obtain ⟨z, z1, z2⟩ := hV
        refine ⟨fun a q => if 30 ≤ a ∧ a ≤ 32 then z a q else v1 a q, fun a q g1 g2 g3 => if_neg (by omega), CS_w3 (v0 := z) (fun a q g1 g2 => ?_) (fun a q g1 g2 => if_pos ⟨g1, g2⟩) z2⟩
        show (if _ then _ else _) = _
        rw [if_neg (by omega), w1 a q g1 g2, z1 a q (by omega) (by omega) (by omega)]
      refine e_al0 o177_120 (e_al0 o177_121 (e_gR o177_122 L79 rfl rfl (e_il1 o177_125 (e_il2 o177_126 (e_il3 o177_127 (e_al0 o177_128 (e_gI o177_129 L79 rfl 30 rfl ?_)))))))
      rw [ez 79 30 (by omega) (by omega), hc]
      refine e_Vi5 o177_132 K177 K178 rfl ⟨rfl, rfl⟩ (zrcv_I L79 rfl) (by omega) rfl (m178 (x := x) (f := f) (M := M) (by omega) rfl (by decide) (by decide) hE1 hB1 hV1 (by rw [g16 16 (by omega), g93]; exact hx) k0 (by rw [g16 16 (by omega)]; exact k1) t0 (by omega) (by rw [g93]; exact hf) f0 f1 ft y0 (by rw [g16 22 (by omega)]; exact y1) (by rw [g16 16 (by omega), g93]; exact hpr) (by rw [eW, g16 16 (by omega)]; exact hM)) ?_
      rintro _ v2 _ ⟨rfl, ⟨a1, a2, a3, a4, a5⟩, rfl⟩
      rw [g16 16 (by omega), eN] at a2 a3
      rw [g16 17 (by omega), g93] at a3
      rw [g93] at a4
      rw [eN, eK] at a5
      have z79 : zg v2 79 30 = c := by simp only [zg]; rw [a1 79 30 (by omega) (by omega)]; exact (ez 79 30 (by omega) (by omega)).trans hc
      refine e_is5 o177_135 (e_bip o177_137 rfl (e_al0 o177_139 (e_gI o177_140 L79 rfl 30 rfl ?_)))
      rw [z79]
      refine e_mul o177_143 (e_is6 o177_144 (e_al0 o177_146 (e_gR o177_147 L79 rfl rfl (e_il6 o177_150 (e_il1 o177_152 (e_iast o177_153 L99 (by omega) (by omega) (e_al0 o177_154 (e_gR o177_155 L79 rfl rfl (e_il6 o177_158 (e_ico o177_160 (e_add o177_161 (e_il4 o177_162 (e_iast o177_164 L99 (by omega) (by omega) (e_al0 o177_165 (e_gR o177_166 L79 rfl rfl (e_il6 o177_169 (e_ico o177_171 (e_add o177_172 (e_il2 o177_173 (e_iast o177_174 L99 (by omega) (by omega) (e_al0 o177_175 (e_gR o177_176 L79 rfl rfl (e_il6 o177_179 (e_ico o177_181 (e_add o177_182 (e_il3 o177_183 (e_iast o177_184 L99 (by omega) (by omega) (e_al0 o177_185 (e_gR o177_186 L79 rfl rfl (e_il6 o177_189 (e_ico o177_191 (e_add o177_192 (e_il5 o177_193 (e_iast o177_195 L99 (by omega) (by omega) (e_al0 o177_196 (e_gR o177_197 L79 rfl rfl (e_il6 o177_200 (e_ico o177_202 (e_add o177_203 ?_)))))))))))))))))))))))))))))))))))))))
      obtain ⟨v3, hv3⟩ : ∃ v3, v3 = zu (zu (zu (zu (zu v2 99 (6 * c) (zI k)) 99 (6 * c + 1) (zI f)) 99 (6 * c + 2) (zI t)) 99 (6 * c + 3) (zI y)) 99 (6 * c + 4) (zI M) := ⟨_, rfl⟩
      rw [← hv3]
      have f3 : ∀ a j, ¬ a = 99 → v3 a j = v2 a j := fun a j h => by rw [hv3, zu_ne (fun e => h e.1), zu_ne (fun e => h e.1), zu_ne (fun e => h e.1), zu_ne (fun e => h e.1), zu_ne (fun e => h e.1)]
      have f31 : ∀ a j, ¬ a = 99 → ¬ a = 96 → ¬ a = 93 → v3 a j = v1 a j := fun a j h1 h2 h3 => by rw [f3 a j h1, a1 a j h2 h3]
      have hj : ∀ j, 0 ≤ j → j < M → zg v3 96 j = tkS v k f (stN v k f t x j) ∧ 0 ≤ tkS v k f (stN v k f t x j) ∧ tkS v k f (stN v k f t x j) < zg v3 16 9 := by
        intro j j0 j1
        obtain ⟨q1, q2, q3, q4⟩ := stN_all (k := k) hV hB.wf f0 f1 t0 (show t < 6 by omega) ft M (by omega) (by omega)
        have q5 := (q3 j j0 j1).1
        refine ⟨?_, q5.1, ?_⟩
        · simp only [zg]; rw [f3 96 j (by omega)]; exact a5 j j0 j1
        · rw [show zg v3 16 9 = zg v 16 9 by simp only [zg]; rw [f31 16 9 (by omega) (by omega) (by omega), w1 16 9 (by omega) (by omega)]]; exact q5.2.1
      refine e_al0 o177_204 (e_il4 o177_205 (e_il2 o177_207 (e_il5 o177_208 (e_al0 o177_210 (e_gI o177_211 L79 rfl 30 rfl ?_)))))
      rw [show zg v3 79 30 = c by simp only [zg]; rw [f3 79 30 (by omega)]; exact z79]
      refine e_Vi4 o177_214 K177 K182 rfl ⟨rfl, rfl⟩ (zrcv_I L79 rfl) (by omega) rfl (m182 (sv := sv) (n := n) (sj := fun j => tkS v k f (stN v k f t x j)) (by omega) (EW_w (fun a j h => f31 a j (by omega) (by omega) (by omega)) hE1) (WB_w3 (fun a j h h' => f31 a j (by omega) (by omega) (by omega)) hB1) hW (by rw [← hn]; simp only [zg]; rw [f31 82 3 (by omega) (by omega) (by omega), f1' 82 3 (by omega) (by omega)]) (fun i i0 i1 => by rw [← hs i i0 i1]; simp only [zg]; rw [f31 90 i (by omega) (by omega) (by omega), f1' 90 i (by omega) (by omega)]) (by omega) (by omega) hj) ?_
      rintro _ v4 _ ⟨rfl, g4, rfl⟩
      rw [show zg v3 20 = zg v 20 from zg_fn fun j => by rw [f31 20 j (by omega) (by omega) (by omega), w1 20 j (by omega) (by omega)], show zg v3 19 = zg v 19 from zg_fn fun j => by rw [f31 19 j (by omega) (by omega) (by omega), w1 19 j (by omega) (by omega)]]
      refine e_iast o177_217 L99 (by omega) (by omega) (e_al0 o177_218 (e_dupR o177_219 (e_gI o177_220 L79 rfl 30 rfl ?_)))
      rw [zg_na (by decide), show zg v4 79 30 = c by simp only [zg]; rw [g4 79 30 (by omega) (by omega), f3 79 30 (by omega)]; exact z79]
      refine e_ico o177_223 (e_add o177_224 (e_pI o177_225 L79 rfl rfl rfl rfl 30 rfl (e_il5 o177_228 ?_)))
      refine e_rI o177_230 K177 rfl rfl ?_
      generalize toll sv n (zg v 20) (zg v 19) f t M c (fun j => tkS v k f (stN v k f t x j)) M = tl
      have h4 : ∀ a j, ¬ a = 97 → ¬ a = 98 → ¬ (a = 79 ∧ j = 30) → ¬ (a = 99 ∧ j = 6 * c + 5) → zu (zu v4 99 (6 * c + 5) tl) 79 30 (zI (c + 1)) a j = v3 a j := fun a j h1 h2 h3 h5 => by rw [zu_ne h3, zu_ne h5, g4 a j h1 h2]
      have h5 : ∀ a j, ¬ a = 97 → ¬ a = 98 → ¬ (a = 79 ∧ j = 30) → ¬ a = 99 → zu (zu v4 99 (6 * c + 5) tl) 79 30 (zI (c + 1)) a j = v2 a j := fun a j h1 h2 h3 h5 => by rw [h4 a j h1 h2 h3 (fun e => h5 e.1), f3 a j h5]
      have h9 : ∀ j, zu (zu v4 99 (6 * c + 5) tl) 79 30 (zI (c + 1)) 93 j = v2 93 j := fun j => h5 93 j (by omega) (by omega) (by omega) (by omega)
      have h9z : ∀ j, zg (zu (zu v4 99 (6 * c + 5) tl) 79 30 (zI (c + 1))) 93 j = zg v2 93 j := fun j => by simp only [zg]; rw [h9 j]
      refine ⟨rfl, ⟨?_, ?_, ?_, ?_, ?_, ?_, ?_, ?_, ?_, ?_, ?_, ?_, ?_⟩, rfl⟩
      · intro a j n1 n2 n3 n4 n5 n6 n7 n8
        by_cases h99 : a = 99
        · subst h99
          rw [h4 99 j n4 n5 n8 (by omega), hv3, zu_ne (by omega), zu_ne (by omega), zu_ne (by omega), zu_ne (by omega), zu_ne (by omega), a1 99 j n3 n1, f1' 99 j (by omega) (by omega)]
        · rw [h5 a j n4 n5 n8 h99, a1 a j n3 n1, f1' a j n2 n7]
      · rw [h5 79 2 (by omega) (by omega) (by omega) (by omega), a1 79 2 (by omega) (by omega), hv1, zcp, if_neg (by omega), zu_same]
      · exact zg_same (by omega)
      · intro j j0 j1
        rw [h5 95 _ (by omega) (by omega) (by omega) (by omega), a1 95 _ (by omega) (by omega), hv1, zcp, if_pos ⟨rfl, by omega, by omega⟩, zu_ne (by omega)]
        congr 1
        omega
      · intro s s0 s1
        obtain ⟨p1, p2, p3, p4⟩ := a2 s s0 s1
        rw [h9z, h9z, h9, h9]
        refine ⟨p1, p2, fun z => ?_, fun z => ?_⟩
        · rw [(p3 z).1, (p3 z).2, f1' 93 _ (by omega) (by omega), f1' 93 _ (by omega) (by omega)]; exact ⟨rfl, rfl⟩
        · rw [(p4 z).1, (p4 z).2, f1' 93 _ (by omega) (by omega)]; exact ⟨rfl, rfl⟩
      · intro p p0 p1
        rw [h9z]; exact a3 p p0 p1
      · intro i i0 i1
        rw [h9z]; exact a4 i i0 i1
      · rw [h4 99 _ (by omega) (by omega) (by omega) (by omega), hv3, zu_ne (by omega), zu_ne (by omega), zu_ne (by omega), zu_ne (by omega), zu_same]
      · rw [h4 99 _ (by omega) (by omega) (by omega) (by omega), hv3, zu_ne (by omega), zu_ne (by omega), zu_ne (by omega), zu_same]
      · rw [h4 99 _ (by omega) (by omega) (by omega) (by omega), hv3, zu_ne (by omega), zu_ne (by omega), zu_same]
      · rw [h4 99 _ (by omega) (by omega) (by omega) (by omega), hv3, zu_ne (by omega), zu_same]
      · rw [h4 99 _ (by omega) (by omega) (by omega) (by omega), hv3, zu_same]
      · rw [zu_ne (by omega), zu_same]
    · refine e_al0 o177_91 (e_gR o177_92 L79 rfl rfl (e_sip o177_95 rfl (e_al0 o177_98 (e_gI o177_99 L79 rfl 30 rfl ?_))))
      rw [ez 79 30 (by omega) (by omega), hc]
      refine e_mul o177_102 (e_il5 o177_103 (e_add o177_105 (e_al0 o177_106 (e_gR o177_107 L79 rfl rfl (e_il5 o177_110 (e_ial o177_112 L93 (by omega) (by omega) ?_))))))
      rw [ez 93 _ (by omega) (by omega)]
      refine e_iast o177_113 L95 (by omega) (by omega) (e_inc5 o177_114 (e_goto o177_117 83 rfl ?_))
      refine zEv_w (ih (by omega)) ?_
      rw [zI_g, zcp_step q0, zu_ne (v := v) (by omega), Int.zero_add]
  refine e_al0 o177_0 (e_ico o177_1 (e_pI o177_2 L79 rfl rfl rfl rfl 2 rfl (e_al0 o177_5 (e_il1 o177_6 (e_Vi1 o177_7 K177 K176 rfl ⟨rfl, rfl⟩ (zrcv_I L79 rfl) (by omega) rfl (m176 (by omega) (by omega) (by rw [zg_na (by decide)]; omega)) ?_)))))
  rintro _ _ _ ⟨rfl, rfl, rfl⟩
  rw [zg_na (by decide), e2]
  refine e_bz_eq o177_10 21 rfl (fun hb10 => ?_) (fun hb10 => ?_)
  · omega
  · refine e_al0 o177_13 (e_il2 o177_14 (e_Vi1 o177_15 K177 K168 rfl ⟨rfl, rfl⟩ (zrcv_I L79 rfl) (by omega) rfl (m168 (by omega) (by omega) (by rw [zg_na (by decide)]; omega)) ?_))
    rintro _ _ _ ⟨rfl, rfl, rfl⟩
    rw [zg_na (by decide), e0]
    refine e_bz_ne o177_18 27 rfl (fun hb18 => ?_) (fun hb18 => ?_)
    · refine e_al0 o177_27 (e_gR o177_28 L79 rfl rfl (e_sip o177_31 rfl (e_il1 o177_34 (e_add o177_35 (e_ial o177_36 L93 (by omega) (by omega) ?_)))))
      rw [zg_na (by decide), hf]
      refine e_is4 o177_37 (e_al0 o177_39 (e_gI o177_40 L79 rfl 30 rfl (e_bip o177_43 rfl ?_)))
      rw [zg_ne (by omega), hc]
      refine e_ic_eq o177_45 68 rfl (by first | exact zg_rg _ _ _ | exact zt_rg _ | omega) (by first | exact zg_rg _ _ _ | exact zt_rg _ | omega) (fun hb45 => ?_) (fun hb45 => ?_)
      · omega
      · refine e_il4 o177_48 (e_il2 o177_50 (e_ic_eq o177_51 68 rfl (by first | exact zg_rg _ _ _ | exact zt_rg _ | omega) (by first | exact zg_rg _ _ _ | exact zt_rg _ | omega) (fun hb51 => ?_) (fun hb51 => ?_)))
        · omega
        · refine e_il3 o177_54 (e_ico o177_55 (e_al0 o177_56 (e_gR o177_57 L79 rfl rfl (e_il1 o177_60 (e_ial o177_61 L88 (by omega) (by omega) (e_Si3 o177_62 K177 K169 rfl ⟨rfl, rfl⟩ (by omega) rfl (m169 (by omega) (by omega) (zg_rg _ _ _)) ?_))))))
          rintro _ _ _ ⟨rfl, rfl, rfl⟩
          rw [zg_na (by decide), ek]
          refine e_bz_ne o177_65 80 rfl (fun hb65 => ?_) (fun hb65 => ?_)
          · refine e_ico o177_80 (e_is5 o177_81 ?_)
            have e := loop 0 (by omega) (by omega)
            rw [show zcp (zu v 79 2 (zI 0)) 93 95 0 (171 * c) 0 = zu v 79 2 (zI 0) from by funext a j; simp only [zcp]; rw [if_neg (by omega)]] at e
            exact e
          · omega
    · omega
end
