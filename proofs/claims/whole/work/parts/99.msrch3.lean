/-! the reference's search: the legs; best and fits -/
def mR (v : zV) (y : zPL) (n p : Int) : zBA × Int := fR v y p n.toNat 0 (fun _ => 0) (none, 0)
section
variable {sc : Nat × (Nat → Int32)} {v v0 w w0 : zV} {u : zU} {y x : zPL} {n p i wh pa : Int} {c : Int → Int} {A : zBA × Int}
theorem m194 (hV : SV v n p) (hR : SR v y n) (hp : (wh = 0 ∧ pa = p ∧ 0 ≤ p) ∨ (wh = 1 ∧ p = -1)) : ∀ (m d : Nat), 4 + m ≤ d → ∀ i c A w u, 0 ≤ i → i + m = n → (0 ≤ A.2 ∧ A.2 + (9 : Int) ^ m ≤ 6561) → SM v n p i c A w → zEv sc 194 d 0 [.ref 79, .int (zI i), .int (zI wh), .int (zI pa), zJ, zJ, zJ] [] (zmk w u) 0 0 (zPv fun w' u' => SM v n p i c (fR v y p m i c A) w' ∧ u = u') := by
  intro m
  induction m with
  | zero =>
    intro d hd i c A w u i0 i1 hA hI
    have ei : i = n := by omega
    subst ei
    exact m194_leaf (by omega) hV hR hp (by omega) hI
  | succ m ihm =>
    intro d hd i c A w0 u i0 i1 hA hI
    obtain ⟨hB, ⟨hn, n0, n4⟩, hl, hs, hr, hq, hpp⟩ := id hV
    obtain ⟨hE, hy, hya, r1, r2, r3, r4, r5, r6, r7, r8⟩ := id hR
    obtain ⟨h1, h2, h3, h4⟩ := hI
    have b0 := hB.1
    have b1 := hB.2.1
    have b2 := hB.2.2.1
    have hi : i < n := by omega
    have li := hl i i0 hi
    have fi := hV.fr i i0 hi
    have ri := r4 i i0 hi
    have hms := hV.ms i i0 hi
    have h9 : 0 ≤ (9 : Int) ^ m := Int.le_of_lt (Int.pow_pos (by omega))
    have h9s : (9 : Int) ^ (m + 1) = 9 * (9 : Int) ^ m := by rw [Int.pow_succ]; omega
    rw [h9s] at hA
    obtain ⟨F, hF⟩ : ∃ F : Int → zBA × Int, F = fun k => zfo (fun j a => fR v y p m (i + 1) (fu c i j) a) A k := ⟨_, rfl⟩
    have F0 : F 0 = A := by rw [hF]; rfl
    have Fs : ∀ k, 0 ≤ k → F (k + 1) = fR v y p m (i + 1) (fu c i k) (F k) := fun k k0 => by rw [hF]; exact zfo_succ k0
    have Fe : fR v y p (m + 1) i c A = F (mst v i + 1) := by rw [hF]; rfl
    have Fb : ∀ k, 0 ≤ k → A.2 ≤ (F k).2 ∧ (F k).2 ≤ A.2 + k * (9 : Int) ^ m := fun k k0 => by rw [hF]; exact fR_bd hV.ms i0 (by omega) k k0
    have loop : ∀ z, 0 ≤ z → z ≤ mst v i + 1 → ∀ w, (∀ a q, ¬ (a = 79 ∧ (q = 45 ∨ q = 46 ∨ q = 47)) → ¬ a = 94 → ¬ a = 96 → ¬ a = 102 → ¬ a = 103 → ¬ a = 108 → w a q = v a q) → (∀ j, 0 ≤ j → j < i → zg w 102 j = c j ∧ 0 ≤ c j ∧ c j ≤ mst v j) → (∀ s, 0 ≤ s → s < zg v 16 10 → zg w 108 s = spC v (i + 1) s) → JM n p (F z) w → zEv sc 194 d 185 [.ref 79, .int (zI i), .int (zI wh), .int (zI pa), .int (zI (lgF v i)), .int (zI (mst v i)), .int (zI z)] [] (zmk w u) 0 0 (zPv fun w' u' => SM v n p i c (fR v y p (m + 1) i c A) w' ∧ u = u') := by
      refine zloop ?_
      intro z z0 z1 ih w k1 k2 k3 k4
      have z100 : zg w 100 i = zg v 39 i := by rw [← ri.1]; simp only [zg]; rw [k1 100 i (by omega) (by omega) (by omega) (by omega) (by omega) (by omega)]
      by_cases hz : z < mst v i + 1
      · have fb := Fb z z0
        have fb2 : z * (9 : Int) ^ m ≤ 8 * (9 : Int) ^ m := Int.mul_le_mul_of_nonneg_right (by omega) h9
        have hS : SM v n p (i + 1) (fu c i z) (F z) (zu w 102 i (zI z)) := by
          refine ⟨fun a q g1 g2 g3 g4 g5 g6 => by rw [zu_ne (by omega), k1 a q g1 g2 g3 g4 g5 g6], fun j j0 j1 => ?_, fun s s0 s1 => by rw [zg_na (by decide)]; exact k3 s s0 s1, JM_w (fun q _ => zu_ne (by omega)) (fun q => zu_ne (by omega)) k4⟩
          by_cases e : j = i
          · subst e
            rw [zg_same (by omega), fu_same]
            omega
          · rw [zg_ne (by omega), fu_ne e]
            exact k2 j j0 (by omega)
        have ih := ih hz
        rw [Fs z z0] at ih
        refine e_il6 o194_185 (e_il5 o194_187 (e_ic_gt o194_189 215 rfl (by first | exact zg_rg _ _ _ | exact zt_rg _ | omega) (by first | exact zg_rg _ _ _ | exact zt_rg _ | omega) (fun hb189 => ?_) (fun hb189 => ?_)))
        · omega
        · refine e_al0 o194_192 (e_gR o194_193 L79 rfl rfl (e_il1 o194_196 (e_il6 o194_197 (e_iast o194_199 L102 (by omega) (by omega) (e_al0 o194_200 (e_il1 o194_201 (e_ico o194_202 (e_add o194_203 (e_il2 o194_204 (e_il3 o194_205 (e_Vv3 o194_206 K194 K194 rfl ⟨rfl, rfl⟩ (zrcv_I L79 rfl) (by omega) rfl (ihm (d - 1) (by omega) (i + 1) (fu c i z) (F z) _ u (by omega) (by omega) (by omega) hS) ?_)))))))))))
          rintro w' u' ⟨⟨q1, q2, q3, q4⟩, rfl⟩
          refine e_inc6 o194_209 (e_goto o194_212 185 rfl ?_)
          refine ih w' q1 (fun j j0 j1 => ?_) q3 q4
          have e := q2 j j0 (by omega)
          rw [fu_ne (by omega)] at e
          exact e
      · have ez : z = mst v i + 1 := by omega
        subst ez
        rw [← Fe] at k4
        have lr := spC_rg (v := v) (s := zg v 39 i) i i0
        refine e_il6 o194_185 (e_il5 o194_187 (e_ic_gt o194_189 215 rfl (by first | exact zg_rg _ _ _ | exact zt_rg _ | omega) (by first | exact zg_rg _ _ _ | exact zt_rg _ | omega) (fun hb189 => ?_) (fun hb189 => ?_)))
        · refine e_al0 o194_215 (e_gR o194_216 L79 rfl rfl (e_al0 o194_219 (e_gR o194_220 L79 rfl rfl (e_il1 o194_223 (e_ial o194_224 L100 (by omega) (by omega) (e_il4 o194_225 ?_))))))
          rw [z100]
          refine e_iast o194_227 L108 (by omega) (by omega) ?_
          refine e_rV o194_228 K194 rfl rfl ?_
          refine ⟨⟨fun a q g1 g2 g3 g4 g5 g6 => by rw [zu_ne (by omega), k1 a q g1 g2 g3 g4 g5 g6], fun j j0 j1 => by rw [zg_na (by decide)]; exact k2 j j0 j1, fun s s0 s1 => ?_, JM_w (fun q _ => zu_ne (by omega)) (fun q => zu_ne (by omega)) k4⟩, rfl⟩
          by_cases e : s = zg v 39 i
          · rw [e, zg_same (show -2147483648 ≤ lgF v i ∧ lgF v i < 2147483648 from lr)]; rfl
          · rw [zg_ne (by omega), k3 s s0 s1, spC_succ i0, if_neg (fun z => e z.symm)]
        · omega
    have z32 : zg w0 79 32 = n := by simp only [zg]; rw [h1 79 32 (by omega) (by omega) (by omega) (by omega) (by omega) (by omega)]; exact r1
    have z100 : zg w0 100 i = zg v 39 i := by rw [← ri.1]; simp only [zg]; rw [h1 100 i (by omega) (by omega) (by omega) (by omega) (by omega) (by omega)]
    have z101 : zg w0 101 i = zg v 40 i := by rw [← ri.2]; simp only [zg]; rw [h1 101 i (by omega) (by omega) (by omega) (by omega) (by omega) (by omega)]
    have z108 : zg w0 108 (zg v 39 i) = lgF v i := h3 _ li.1.1 li.1.2
    have z88 : zg (zu w0 108 (zg v 39 i) (zI (zg v 40 i))) 88 (zg v 39 i) = zg v 22 (zg v 39 i) := by
      rw [zg_na (by decide), ← (hE.2.2.2.2.2 _ li.1.1 li.1.2).2.1]
      simp only [zg]
      rw [h1 88 _ (by omega) (by omega) (by omega) (by omega) (by omega) (by omega)]
    have go := loop 0 (by omega) (by omega) (zu w0 108 (zg v 39 i) (zI (zg v 40 i))) (fun a q g1 g2 g3 g4 g5 g6 => by rw [zu_ne (by omega), h1 a q g1 g2 g3 g4 g5 g6]) (fun j j0 j1 => by rw [zg_na (by decide)]; exact h2 j j0 j1) (fun s s0 s1 => by
      rw [spC_succ i0]
      by_cases e : s = zg v 39 i
      · rw [e, zg_same (zg_rg _ _ _), if_pos rfl]
      · rw [zg_ne (by omega), if_neg (fun z => e z.symm)]
        exact h3 s s0 s1) (by rw [F0]; exact JM_w (fun q _ => zu_ne (by omega)) (fun q => zu_ne (by omega)) h4)
    have y100 : zg (zu w0 108 (zg v 39 i) (zI (zg v 40 i))) 100 i = zg v 39 i := by rw [zg_na (by decide), z100]
    have y101 : zg (zu w0 108 (zg v 39 i) (zI (zg v 40 i))) 101 i = zg v 40 i := by rw [zg_na (by decide), z101]
    refine e_il1 o194_0 (e_al0 o194_1 (e_gI o194_2 L79 rfl 32 rfl ?_))
    rw [z32]
    refine e_ic_ne o194_5 124 rfl (by first | exact zg_rg _ _ _ | exact zt_rg _ | omega) (by first | exact zg_rg _ _ _ | exact zt_rg _ | omega) (fun hb5 => ?_) (fun hb5 => ?_)
    · refine e_al0 o194_124 (e_gR o194_125 L79 rfl rfl (e_al0 o194_128 (e_gR o194_129 L79 rfl rfl (e_il1 o194_132 (e_ial o194_133 L100 (by omega) (by omega) ?_)))))
      rw [z100]
      refine e_ial o194_134 L108 (by omega) (by omega) ?_
      rw [z108]
      refine e_is4 o194_135 (e_al0 o194_137 (e_gR o194_138 L79 rfl rfl (e_al0 o194_141 (e_gR o194_142 L79 rfl rfl (e_il1 o194_145 (e_ial o194_146 L100 (by omega) (by omega) (e_al0 o194_147 (e_gR o194_148 L79 rfl rfl (e_il1 o194_151 (e_ial o194_152 L101 (by omega) (by omega) ?_))))))))))
      rw [z100, z101]
      refine e_iast o194_153 L108 (by omega) (by omega) (e_il4 o194_154 (e_al0 o194_156 (e_gR o194_157 L79 rfl rfl (e_il1 o194_160 (e_ial o194_161 L101 (by omega) (by omega) ?_)))))
      rw [y101]
      refine e_ic_ne o194_162 169 rfl (by first | exact zg_rg _ _ _ | exact zt_rg _ | omega) (by first | exact zg_rg _ _ _ | exact zt_rg _ | omega) (fun hb162 => ?_) (fun hb162 => ?_)
      · refine e_al0 o194_169 (e_gR o194_170 L79 rfl rfl (e_al0 o194_173 (e_gR o194_174 L79 rfl rfl (e_il1 o194_177 (e_ial o194_178 L100 (by omega) (by omega) ?_)))))
        rw [y100]
        refine e_ial o194_179 L88 (by omega) (by omega) ?_
        first | rw [z88] | skip
        refine e_is5 o194_180 (e_ico o194_182 (e_is6 o194_183 ?_))
        first
        | (have em : mst v i = zg v 22 (zg v 39 i) := by unfold mst; rw [if_neg hb162]
           rw [← em]
           exact go)
        | (have em : mst v i = 0 := by unfold mst; rw [if_pos hb162]
           rw [← em]
           rw [em] at go ⊢
           exact go)
      · refine e_ico o194_165 (e_goto o194_166 180 rfl ?_)
        first | rw [z88] | skip
        refine e_is5 o194_180 (e_ico o194_182 (e_is6 o194_183 ?_))
        first
        | (have em : mst v i = zg v 22 (zg v 39 i) := by unfold mst; rw [if_neg hb162]
           rw [← em]
           exact go)
        | (have em : mst v i = 0 := by unfold mst; rw [if_pos hb162]
           rw [← em]
           rw [em] at go ⊢
           exact go)
    · omega
theorem m193 {d : Nat} (hd : 9 ≤ d) (hV : SV v n p) (hR : SR v y n) (hp : (wh = 0 ∧ pa = p ∧ 0 ≤ p) ∨ (wh = 1 ∧ p = -1)) : zEv sc 193 d 0 [.ref 79, .int (zI wh), .int (zI pa), zJ] [] (zmk v u) 0 0 (zPv fun w' u' => SM v n p 0 (fun _ => 0) (mR v y n p) w' ∧ u = u') := by
  obtain ⟨hB, ⟨hn, n0, n4⟩, hl, hs, hr, hq, hpp⟩ := id hV
  obtain ⟨hE, hy, hya, r1, r2, r3, r4, r5, r6, r7, r8⟩ := id hR
  have b2 := hB.2.2.1
  have h9 := p9 n0 n4
  have loop : ∀ k, 0 ≤ k → k ≤ zg v 16 10 → ∀ w, (∀ a q, ¬ a = 108 → w a q = v a q) → (∀ s, 0 ≤ s → s < k → zg w 108 s = zg v 38 s) → zEv sc 193 d 2 [.ref 79, .int (zI wh), .int (zI pa), .int (zI k)] [] (zmk w u) 0 0 (zPv fun w' u' => SM v n p 0 (fun _ => 0) (mR v y n p) w' ∧ u = u') := by
    refine zloop ?_
    intro k k0 k1 ih w k2 k3
    have z82 : zg w 82 2 = zg v 16 10 := by rw [← hE.2.2.1]; simp only [zg]; rw [k2 82 2 (by omega)]
    have z93 : k < zg v 16 10 → zg w 93 (166 + k) = zg v 38 k := fun h => by rw [← r7 k k0 h]; simp only [zg]; rw [k2 93 _ (by omega)]
    refine e_il3 o193_2 (e_al0 o193_3 (e_gR o193_4 L79 rfl rfl (e_ico o193_7 (e_ial o193_8 L82 (by omega) (by omega) ?_))))
    rw [z82]
    refine e_ic_ge o193_9 34 rfl (by first | exact zg_rg _ _ _ | exact zt_rg _ | omega) (by first | exact zg_rg _ _ _ | exact zt_rg _ | omega) (fun hb9 => ?_) (fun hb9 => ?_)
    · refine e_al0 o193_34 (e_ico o193_35 (e_pI o193_36 L79 rfl rfl rfl rfl 45 rfl (e_al0 o193_39 (e_ico o193_40 (e_il1 o193_41 (e_il2 o193_42 (e_Vv3 o193_43 K193 K194 rfl ⟨rfl, rfl⟩ (zrcv_I L79 rfl) (by omega) rfl (m194 hV hR hp n.toNat (d - 1) (by omega) 0 (fun _ => 0) (none, 0) (zu w 79 45 (zI 0)) u (by omega) (by omega) ⟨by omega, by dsimp only; omega⟩ ⟨fun a q g1 g2 g3 g4 g5 g6 => by rw [zu_ne (by omega), k2 a q g6], fun j j0 j1 => by omega, fun s s0 s1 => by rw [zg_na (by decide), k3 s s0 (by omega)]; rfl, fun _ => Or.inl ⟨rfl, by rw [zg_same (by omega)]⟩, fun _ => ⟨by rw [zg_same (by omega)], Or.inl ⟨rfl, rfl⟩⟩⟩) ?_)))))))
      rintro w' u' ⟨q1, rfl⟩
      refine e_rV o193_46 K193 rfl rfl ?_
      exact ⟨q1, rfl⟩
    · refine e_al0 o193_12 (e_gR o193_13 L79 rfl rfl (e_il3 o193_16 (e_al0 o193_17 (e_gR o193_18 L79 rfl rfl (e_sip o193_21 rfl (e_il3 o193_24 (e_add o193_25 (e_ial o193_26 L93 (by omega) (by omega) ?_))))))))
      rw [z93 (by omega)]
      refine e_iast o193_27 L108 (by omega) (by omega) (e_inc3 o193_28 (e_goto o193_31 2 rfl ?_))
      refine ih (by omega) _ (fun a q h => by rw [zu_ne (by omega), k2 a q h]) (fun s s0 s1 => ?_)
      by_cases e : s = k
      · rw [e, zg_same (zg_rg _ _ _)]
      · rw [zg_ne (by omega)]; exact k3 s s0 (by omega)
  refine e_ico o193_0 (e_is3 o193_1 ?_)
  exact loop 0 (by omega) b2.1 v (fun _ _ _ => rfl) (fun s s0 s1 => by omega)
/-- the loads are kept (reference) -/
def BM (v : zV) (y : zPL) (n p : Int) (w : zV) : Prop := (∀ a q, ¬ (a = 79 ∧ (q = 2 ∨ q = 44 ∨ q = 45 ∨ q = 46 ∨ q = 47)) → ¬ a = 94 → ¬ a = 96 → ¬ a = 102 → ¬ a = 103 → ¬ a = 104 → ¬ a = 108 → w a q = v a q) ∧ w 79 2 = zI 0 ∧ (((mR v y n p).1 = none ∧ (∀ q, w 104 q = v 104 q) ∧ w 79 44 = v 79 44) ∨ ∃ r, (mR v y n p).1 = some r ∧ zg w 79 44 = n ∧ ∀ i, 0 ≤ i → i < n → zg w 104 i = r.2.2 i)
theorem m199 {d : Nat} (hd : 1 ≤ d) (n4 : n ≤ 4) (hn : zg w 79 32 = n) (hr : zg w 79 45 = 0 ∨ 0 < zg w 79 45) : zEv sc 199 d 0 [.ref 79] [] (zmk w u) 0 0 (zPv fun w' u' => ((zg w 79 45 = 0 ∧ w' = w) ∨ (0 < zg w 79 45 ∧ w' = zcp (zu w 79 44 (zI n)) 103 104 0 0 4)) ∧ u = u') := by
  refine e_al0 o199_0 (e_gI o199_1 L79 rfl 45 rfl (e_if_ne o199_4 8 rfl (by first | exact zg_rg _ _ _ | exact zt_rg _ | omega) (fun hb4 => ?_) (fun hb4 => ?_)))
  · refine e_al0 o199_8 (e_al0 o199_9 (e_gI o199_10 L79 rfl 32 rfl ?_))
    rw [hn]
    refine e_pI o199_13 L79 rfl rfl rfl rfl 44 rfl (e_al0 o199_16 (e_gR o199_17 L79 rfl rfl (e_al0 o199_20 (e_gR o199_21 L79 rfl rfl (e_Sv2 o199_24 K199 K195 rfl ⟨rfl, rfl⟩ (by omega) rfl (m195 (n := 4) (m := 4) L104 L103 (by omega) (by decide)) ?_)))))
    rintro _ _ ⟨rfl, rfl⟩
    refine e_rV o199_27 K199 rfl rfl ?_
    first | exact ⟨Or.inl ⟨hb4, rfl⟩, rfl⟩ | exact ⟨Or.inr ⟨by omega, rfl⟩, rfl⟩
  · refine e_rV o199_7 K199 rfl rfl ?_
    first | exact ⟨Or.inl ⟨hb4, rfl⟩, rfl⟩ | exact ⟨Or.inr ⟨by omega, rfl⟩, rfl⟩
theorem SR_z {z : Int32} (h : SR v y n) : SR (zu v 79 2 z) y n := by
  have g : ∀ a, ¬ a = 79 → zg (zu v 79 2 z) a = zg v a := fun a ha => funext fun q => zg_na ha
  unfold SR at h ⊢
  rw [g 16 (by decide), g 28 (by decide), g 100 (by decide), g 39 (by decide), g 101 (by decide), g 40 (by decide), g 105 (by decide), g 106 (by decide), g 107 (by decide), g 41 (by decide), g 42 (by decide), g 43 (by decide), g 93 (by decide), g 38 (by decide), zg_ne (by omega), zg_ne (by omega), zg_ne (by omega)]
  exact ⟨EW_79 h.1, VS_w3 (fun a q h1 h2 => zu_ne (by omega)) h.2.1, h.2.2⟩
theorem mst_w (h : SW v w) : mst w = mst v := by
  funext i
  unfold mst
  rw [lgF_w h, h.g (a := 40) (by omega), h.g (a := 22) (by omega), h.g (a := 39) (by omega)]
theorem fR_w (h : SW v w) : ∀ m i c a, fR w y p m i c a = fR v y p m i c a := by
  intro m
  induction m with
  | zero => intro i c a; show bad2 a (vl2 w y p c) = _; rw [vl2_w h]; rfl
  | succ m ih =>
    intro i c a
    show zfo (fun j a => fR w y p m (i + 1) (fu c i j) a) a (mst w i + 1) = zfo (fun j a => fR v y p m (i + 1) (fu c i j) a) a (mst v i + 1)
    rw [mst_w h, show (fun j a => fR w y p m (i + 1) (fu c i j) a) = (fun j a => fR v y p m (i + 1) (fu c i j) a) from funext fun j => funext fun a => ih _ _ _]
theorem mR_w (h : SW v w) : mR w y n p = mR v y n p := fR_w h _ _ _ _
theorem bR_mR (hV : SV v n p) : bR v y n p = mR v y n p := fC_fR hV.ms n.toNat (by have := hV.2.1; omega) _
theorem m201 {d : Nat} (hd : 10 ≤ d) (hV : SV v n (-1)) (hR : SR v y n) : zEv sc 201 d 0 [.ref 79] [] (zmk v u) 0 0 (zPi fun r w t => BM v y n (-1) w ∧ zI (mR v y n (-1)).2 = r ∧ u = t) := by
  have hW : SW v (zu v 79 2 (zI 0)) := fun a q h => zu_ne (by omega)
  obtain ⟨hn, n0, n4⟩ := hV.2.1
  have z32 := hR.2.2.2.1
  refine e_al0 o201_0 (e_ico o201_1 (e_pI o201_2 L79 rfl rfl rfl rfl 2 rfl (e_al0 o201_5 (e_ico o201_6 (e_ico o201_7 (e_Vv2 o201_8 K201 K193 rfl ⟨rfl, rfl⟩ (zrcv_I L79 rfl) (by omega) rfl (m193 (p := -1) (by omega) (SV_w hV hW) (SR_z hR) (Or.inr ⟨rfl, rfl⟩)) ?_))))))
  rintro w1 u' ⟨⟨q1, q2, q3, q4⟩, rfl⟩
  rw [mR_w hW] at q4
  obtain ⟨j1, j2⟩ := q4.2 rfl
  have y32 : zg w1 79 32 = n := by simp only [zg]; rw [q1 79 32 (by omega) (by omega) (by omega) (by omega) (by omega) (by omega), zu_ne (by omega)]; exact z32
  refine e_al0 o201_11 (e_Vv0 o201_12 K201 K199 rfl ⟨rfl, rfl⟩ (zrcv_I L79 rfl) (by omega) rfl (m199 (by omega) n4 y32 (by rw [j1]; rcases j2 with ⟨y1, y2⟩ | ⟨r, y1, y2, y3⟩ <;> omega)) ?_)
  rintro w2 u' ⟨h2, rfl⟩
  refine e_al0 o201_15 (e_gI o201_16 L79 rfl 45 rfl ?_)
  refine e_rI o201_19 K201 rfl rfl ?_
  have fr : ∀ a q, ¬ (a = 79 ∧ (q = 2 ∨ q = 44 ∨ q = 45 ∨ q = 46 ∨ q = 47)) → ¬ a = 94 → ¬ a = 96 → ¬ a = 102 → ¬ a = 103 → ¬ a = 104 → ¬ a = 108 → w1 a q = v a q := fun a q g1 g2 g3 g4 g5 g6 g7 => by rw [q1 a q (by omega) g2 g3 g4 g5 g7, zu_ne (by omega)]
  have f2 : w1 79 2 = zI 0 := by rw [q1 79 2 (by omega) (by omega) (by omega) (by omega) (by omega) (by omega), zu_same]
  rcases h2 with ⟨h3, rfl⟩ | ⟨h3, rfl⟩
  · rcases j2 with ⟨y1, y2⟩ | ⟨r, y1, y2, y3⟩
    · exact ⟨⟨fr, f2, Or.inl ⟨y1, fun q => by rw [q1 104 q (by omega) (by omega) (by omega) (by omega) (by omega) (by omega), zu_ne (by omega)], by rw [q1 79 44 (by omega) (by omega) (by omega) (by omega) (by omega) (by omega), zu_ne (by omega)]⟩⟩, by rw [j1], rfl⟩
    · exfalso; omega
  · rcases j2 with ⟨y1, y2⟩ | ⟨r, y1, y2, y3⟩
    · exfalso; omega
    · refine ⟨⟨fun a q g1 g2 g3 g4 g5 g6 g7 => ?_, ?_, Or.inr ⟨r, y1, ?_, fun i i0 i1 => ?_⟩⟩, ?_, rfl⟩
      · simp only [zcp]
        rw [if_neg (fun e => g6 e.1), zu_ne (by omega), fr a q g1 g2 g3 g4 g5 g6 g7]
      · simp only [zcp]
        rw [if_neg (by omega), zu_ne (by omega), f2]
      · rw [zcp_n (by decide), zg_same (by omega)]
      · rw [zcp_y (by omega) (by omega), show 0 + (i - 0) = i by omega, zg_na (by decide)]
        exact y3 i i0 i1
      · rw [zcp_n (by decide), zg_ne (by omega), j1]
theorem m192 {d : Nat} {p : Int} (hd : 10 ≤ d) (hp : -2147483648 ≤ p ∧ p < 2147483648) (hB : WB v) (hE : EW v) (hV : (0 ≤ p ∧ p < zg v 16 8) → SV v n p) (hR : SR v y n) : zEv sc 192 d 0 [.ref 79, .int (zI p)] [] (zmk v u) 0 0 (zPi fun r w t => ((0 ≤ p ∧ p < zg v 16 8) ∧ BM v y n p w ∧ zI ((mR v y n p).1.elim (-1) (fun r => r.1)) = r ∧ u = t) ∨ (¬ (0 ≤ p ∧ p < zg v 16 8) ∧ zI 0 = r ∧ zu (zu v 79 2 (zI 0)) 79 2 (zI 1) = w ∧ u = t)) := by
  have hW : SW v (zu v 79 2 (zI 0)) := fun a q h => zu_ne (by omega)
  have e0 := hE.1
  have b0 := hB.1
  have z32 := hR.2.2.2.1
  have zz : ∀ a, ¬ a = 79 → zg (zu v 79 2 (zI 0)) a = zg v a := fun a h => funext fun k => zg_na h
  by_cases ok : 0 ≤ p ∧ p < zg v 16 8
  · have hV := hV ok
    obtain ⟨hn, n0, n4⟩ := hV.2.1
    refine e_al0 o192_0 (e_ico o192_1 (e_pI o192_2 L79 rfl rfl rfl rfl 2 rfl (e_al0 o192_5 (e_il1 o192_6 (e_Vi1 o192_7 K192 K168 rfl ⟨rfl, rfl⟩ (zrcv_I L79 rfl) (by omega) rfl (m168 (by omega) hp (by rw [zz 82 (by decide)]; omega)) ?_)))))
    rintro _ _ _ ⟨rfl, rfl, rfl⟩
    rw [zz 82 (by decide), e0]
    refine e_bz_ne o192_10 19 rfl (fun hb10 => ?_) (fun hb10 => ?_)
    · refine e_al0 o192_19 (e_ico o192_20 (e_il1 o192_21 (e_Vv2 o192_22 K192 K193 rfl ⟨rfl, rfl⟩ (zrcv_I L79 rfl) (by omega) rfl (m193 (p := p) (by omega) (SV_w hV hW) (SR_z hR) (Or.inl ⟨rfl, rfl, by omega⟩)) ?_)))
      rintro w1 u' ⟨⟨q1, q2, q3, q4⟩, rfl⟩
      rw [mR_w hW] at q4
      have j2 := q4.1 (by omega)
      have y32 : zg w1 79 32 = n := by simp only [zg]; rw [q1 79 32 (by omega) (by omega) (by omega) (by omega) (by omega) (by omega), zu_ne (by omega)]; exact z32
      refine e_al0 o192_25 (e_Vv0 o192_26 K192 K199 rfl ⟨rfl, rfl⟩ (zrcv_I L79 rfl) (by omega) rfl (m199 (by omega) n4 y32 (by rcases j2 with ⟨y1, y2⟩ | ⟨r, y1, y2, y3⟩ <;> omega)) ?_)
      rintro w2 u' ⟨h2, rfl⟩
      refine e_al0 o192_29 (e_gI o192_30 L79 rfl 45 rfl ?_)
      have h45 : zg w2 79 45 = zg w1 79 45 := by rcases h2 with ⟨h3, rfl⟩ | ⟨h3, rfl⟩; rfl; rw [zcp_n (by decide), zg_ne (by omega)]
      have h46 : zg w2 79 46 = zg w1 79 46 := by rcases h2 with ⟨h3, rfl⟩ | ⟨h3, rfl⟩; rfl; rw [zcp_n (by decide), zg_ne (by omega)]
      rw [h45]
      refine e_if_ne o192_33 40 rfl (by first | exact zg_rg _ _ _ | exact zt_rg _ | omega) (fun hb33 => ?_) (fun hb33 => ?_)
      · refine e_al0 o192_40 (e_gI o192_41 L79 rfl 46 rfl ?_)
        refine e_rI o192_44 K192 rfl rfl ?_
        left
        have fr : ∀ a q, ¬ (a = 79 ∧ (q = 2 ∨ q = 44 ∨ q = 45 ∨ q = 46 ∨ q = 47)) → ¬ a = 94 → ¬ a = 96 → ¬ a = 102 → ¬ a = 103 → ¬ a = 104 → ¬ a = 108 → w1 a q = v a q := fun a q g1 g2 g3 g4 g5 g6 g7 => by rw [q1 a q (by omega) g2 g3 g4 g5 g7, zu_ne (by omega)]
        have f2 : w1 79 2 = zI 0 := by rw [q1 79 2 (by omega) (by omega) (by omega) (by omega) (by omega) (by omega), zu_same]
        rcases h2 with ⟨h3, rfl⟩ | ⟨h3, rfl⟩
        · rcases j2 with ⟨y1, y2⟩ | ⟨r, y1, y2, y3, y4, y5⟩
          · first | (exfalso; omega) | exact ⟨ok, ⟨fr, f2, Or.inl ⟨y1, fun q => by rw [q1 104 q (by omega) (by omega) (by omega) (by omega) (by omega) (by omega), zu_ne (by omega)], by rw [q1 79 44 (by omega) (by omega) (by omega) (by omega) (by omega) (by omega), zu_ne (by omega)]⟩⟩, by rw [y1]; rfl, rfl⟩
          · exfalso; omega
        · rcases j2 with ⟨y1, y2⟩ | ⟨r, y1, y2, y3, y4, y5⟩
          · exfalso; omega
          · first
            | (exfalso; omega)
            | (refine ⟨ok, ⟨fun a q g1 g2 g3 g4 g5 g6 g7 => ?_, ?_, Or.inr ⟨r, y1, ?_, fun i i0 i1 => ?_⟩⟩, ?_, rfl⟩
               · simp only [zcp]
                 rw [if_neg (fun e => g6 e.1), zu_ne (by omega), fr a q g1 g2 g3 g4 g5 g6 g7]
               · simp only [zcp]
                 rw [if_neg (by omega), zu_ne (by omega), f2]
               · rw [zcp_n (by decide), zg_same (by omega)]
               · rw [zcp_y (by omega) (by omega), show 0 + (i - 0) = i by omega, zg_na (by decide)]
                 exact y5 i i0 i1
               · rw [h46, y3, y1]; rfl)
      · refine e_ico o192_36 (e_goto o192_37 44 rfl ?_)
        refine e_rI o192_44 K192 rfl rfl ?_
        left
        have fr : ∀ a q, ¬ (a = 79 ∧ (q = 2 ∨ q = 44 ∨ q = 45 ∨ q = 46 ∨ q = 47)) → ¬ a = 94 → ¬ a = 96 → ¬ a = 102 → ¬ a = 103 → ¬ a = 104 → ¬ a = 108 → w1 a q = v a q := fun a q g1 g2 g3 g4 g5 g6 g7 => by rw [q1 a q (by omega) g2 g3 g4 g5 g7, zu_ne (by omega)]
        have f2 : w1 79 2 = zI 0 := by rw [q1 79 2 (by omega) (by omega) (by omega) (by omega) (by omega) (by omega), zu_same]
        rcases h2 with ⟨h3, rfl⟩ | ⟨h3, rfl⟩
        · rcases j2 with ⟨y1, y2⟩ | ⟨r, y1, y2, y3, y4, y5⟩
          · first | (exfalso; omega) | exact ⟨ok, ⟨fr, f2, Or.inl ⟨y1, fun q => by rw [q1 104 q (by omega) (by omega) (by omega) (by omega) (by omega) (by omega), zu_ne (by omega)], by rw [q1 79 44 (by omega) (by omega) (by omega) (by omega) (by omega) (by omega), zu_ne (by omega)]⟩⟩, by rw [y1]; rfl, rfl⟩
          · exfalso; omega
        · rcases j2 with ⟨y1, y2⟩ | ⟨r, y1, y2, y3, y4, y5⟩
          · exfalso; omega
          · first
            | (exfalso; omega)
            | (refine ⟨ok, ⟨fun a q g1 g2 g3 g4 g5 g6 g7 => ?_, ?_, Or.inr ⟨r, y1, ?_, fun i i0 i1 => ?_⟩⟩, ?_, rfl⟩
               · simp only [zcp]
                 rw [if_neg (fun e => g6 e.1), zu_ne (by omega), fr a q g1 g2 g3 g4 g5 g6 g7]
               · simp only [zcp]
                 rw [if_neg (by omega), zu_ne (by omega), f2]
               · rw [zcp_n (by decide), zg_same (by omega)]
               · rw [zcp_y (by omega) (by omega), show 0 + (i - 0) = i by omega, zg_na (by decide)]
                 exact y5 i i0 i1
               · rw [h46, y3, y1]; rfl)
    · omega
  · skip
    refine e_al0 o192_0 (e_ico o192_1 (e_pI o192_2 L79 rfl rfl rfl rfl 2 rfl (e_al0 o192_5 (e_il1 o192_6 (e_Vi1 o192_7 K192 K168 rfl ⟨rfl, rfl⟩ (zrcv_I L79 rfl) (by omega) rfl (m168 (by omega) hp (by rw [zz 82 (by decide)]; omega)) ?_)))))
    rintro _ _ _ ⟨rfl, rfl, rfl⟩
    rw [zz 82 (by decide), e0]
    refine e_bz_ne o192_10 19 rfl (fun hb10 => ?_) (fun hb10 => ?_)
    · omega
    · refine e_al0 o192_13 (e_ico o192_14 (e_Vi1 o192_15 K192 K133 rfl ⟨rfl, rfl⟩ (zrcv_I L79 rfl) (by omega) rfl m133 ?_))
      rintro _ _ _ ⟨rfl, rfl, rfl⟩
      refine e_rI o192_18 K192 rfl rfl ?_
      exact Or.inr ⟨ok, rfl, rfl, rfl⟩
end
