/-! the class tries all loads: the legs -/
def SI (v : zV) (y : zPL) (n p i : Int) (c : Int → Int) (A : zBA × Int) (w : zV) : Prop :=
  (∀ a q, ¬ (30 ≤ a ∧ a ≤ 32) → ¬ (66 ≤ a ∧ a ≤ 68) → ¬ (70 ≤ a ∧ a ≤ 77) → w a q = v a q) ∧
  CS w (SX v y c i).1 (SX v y c i).2 ∧
  (∀ j, 0 ≤ j → j < n → zg w (tA j) 0 = zg v 39 j ∧ zg w (tA j) 1 = lgF v j ∧ zg w (tA j) 2 = zg v 40 j ∧ (i ≤ j → zg w (tA j) 3 = 0)) ∧
  (∀ j, 0 ≤ j → j < i → zg w 68 j = c j ∧ 0 ≤ c j ∧ c j ≤ 8) ∧ JC n p A w
/-- the route, the ships, what was read -/
def SV (v : zV) (n p : Int) : Prop := WB v ∧ (zg v 28 9 = n ∧ 0 ≤ n ∧ n ≤ 4) ∧ (∀ i, 0 ≤ i → i < n → (0 ≤ zg v 39 i ∧ zg v 39 i < zg v 16 10) ∧ 0 ≤ zg v 40 i ∧ zg v 40 i < zg v 16 8) ∧ (∀ i, 0 ≤ i → i < zg v 16 10 → 0 ≤ zg v 38 i ∧ zg v 38 i < zg v 16 8) ∧ (0 ≤ zg v 28 10 ∧ zg v 28 10 ≤ 10) ∧ (∀ i, 0 ≤ i → i < zg v 28 10 → (0 ≤ zg v 41 i ∧ zg v 41 i < zg v 16 8) ∧ (0 ≤ zg v 42 i ∧ zg v 42 i < zg v 16 8)) ∧ (p = -1 ∨ (0 ≤ p ∧ p < zg v 16 8))
theorem SV.fr {v : zV} {n p : Int} (h : SV v n p) : ∀ i, 0 ≤ i → i < n → 0 ≤ lgF v i ∧ lgF v i < zg v 16 8 := by
  intro i i0 i1
  obtain ⟨h1, h2, h3, h4, h5⟩ := h
  exact spC_in (n := n) (h4 _ (h3 i i0 i1).1.1 (h3 i i0 i1).1.2) (fun j j0 j1 => (h3 j j0 j1).2) i i0 (by omega)
theorem SV.ms {v : zV} {n p : Int} (h : SV v n p) : ∀ i, 0 ≤ i → i < n → 0 ≤ mst v i ∧ mst v i ≤ 8 := by
  intro i i0 i1
  unfold mst
  split
  · omega
  · have := (h.1.2.2.2.2.2 _ (h.2.2.1 i i0 i1).1.1 (h.2.2.1 i i0 i1).1.2).2.1
    omega
theorem JC_w {n p : Int} {A : zBA × Int} {w w' : zV} (h : ∀ q, w' 66 q = w 66 q) (h' : ∀ q, w' 67 q = w 67 q) (hJ : JC n p A w) : JC n p A w' := by
  have e1 : zg w' 66 = zg w 66 := zg_fn h
  have e2 : zg w' 67 = zg w 67 := zg_fn h'
  unfold JC at hJ ⊢
  rw [e1, e2]
  exact hJ
theorem want_m {v : zV} {k a b : Int} (h : a ≤ b) : wantC v k b ≤ wantC v k a := by
  unfold wantC
  split <;> omega
theorem want_in {v : zV} {k a : Int} (hB : WB v) (k0 : 0 ≤ k) (k1 : k < zg v 16 10) (a0 : 0 ≤ a) (a1 : a ≤ zg v 22 k) : 0 ≤ wantC v k a ∧ wantC v k a ≤ 8 := by
  have := (hB.2.2.2.2.2 k k0 k1).2.1
  unfold wantC
  split <;> omega
/-- within a leg: the trip has carried M stones -/
def SL (v : zV) (y : zPL) (n p i : Int) (c : Int → Int) (w0 : zV) (M : Int) (A : zBA × Int) (w : zV) : Prop :=
  (∀ a q, ¬ (30 ≤ a ∧ a ≤ 32) → ¬ (66 ≤ a ∧ a ≤ 68) → ¬ (70 ≤ a ∧ a ≤ 77) → w a q = v a q) ∧
  CS w (stN v (zg v 39 i) (lgF v i) (zg v 40 i) (SX v y c i) M).1 (stN v (zg v 39 i) (lgF v i) (zg v 40 i) (SX v y c i) M).2 ∧
  (∀ j, 0 ≤ j → j < n → zg w (tA j) 0 = zg v 39 j ∧ zg w (tA j) 1 = lgF v j ∧ zg w (tA j) 2 = zg v 40 j ∧ (i + 1 ≤ j → zg w (tA j) 3 = 0)) ∧
  zg w (tA i) 3 = M ∧
  (∀ j, 0 ≤ j → j < M → zg w (tB i) j = (stN v (zg v 39 i) (lgF v i) (zg v 40 i) (SX v y c i) j).2 (tkS v (zg v 39 i) (lgF v i) (stN v (zg v 39 i) (lgF v i) (zg v 40 i) (SX v y c i) j))) ∧
  (∀ j, 0 ≤ j → j < i → zg w 68 j = c j ∧ 0 ≤ c j ∧ c j ≤ 8) ∧ JC n p A w ∧
  ∀ (a : Nat) (q : Int), 70 ≤ a → (a : Int) < 70 + 2 * i → w a q = w0 a q
section
variable {sc : Nat × (Nat → Int32)} {d : Nat} {v v0 w w0 : zV} {u : zU} {y : zPL} {n p i M : Int} {c : Int → Int} {A : zBA × Int}
theorem SL_SW (h : ∀ a q, ¬ (30 ≤ a ∧ a ≤ 32) → ¬ (66 ≤ a ∧ a ≤ 68) → ¬ (70 ≤ a ∧ a ≤ 77) → w a q = v a q) : SW v w := fun a q ha => h a q (by omega) (by omega) (by omega)
theorem SL_TA (hV : SV v n p) (i0 : 0 ≤ i) (i1 : i < n) (ft : ¬ lgF v i = zg v 40 i) (h : SL v y n p i c w0 M A w) : TA w (tA i) (tB i) := by
  obtain ⟨h1, h2, h3, h4, h5⟩ := h
  obtain ⟨t1, t2, t3, t4⟩ := tA_L i0 (show i < 4 by have := hV.2.1; omega)
  obtain ⟨ta, tb⟩ := tA_v i0
  obtain ⟨f1, f2, f3, f4⟩ := h3 i i0 i1
  have hB := hV.1
  have wB : WB w := WB_w3 (fun a q g1 g2 => h1 a q (by omega) (by omega) (by omega)) hB
  have s1 := hV.2.2.1 i i0 i1
  have s2 := hV.fr i i0 i1
  have b0 := hB.1
  have b1 := hB.2.2.1
  refine ⟨t1, t2, t3, by omega, by omega, by omega, wB.wf, wB.wk, ?_⟩
  rw [f1, f2, f3]
  exact ⟨by omega, by omega, by omega, by omega, by omega, by omega, ft⟩
theorem SL_TR (hV : SV v n p) (hy : VS v (SX v y c i)) (i0 : 0 ≤ i) (i1 : i < n) (ft : ¬ lgF v i = zg v 40 i) (h : SL v y n p i c w0 M A w) (M0 : 0 ≤ M) (mc : M ≤ cnt (SX v y c i).1 (lgF v i) (zg v 16 9)) : TR w (tA i) (tB i) (SX v y c i) M w := by
  obtain ⟨h1, h2, h3, h4, h5, h6⟩ := h
  obtain ⟨f1, f2, f3, f4⟩ := h3 i i0 i1
  have b0 := hV.1.1
  have s1 := hV.2.2.1 i i0 i1
  have s2 := hV.fr i i0 i1
  have eW := SL_SW h1
  have eN : stN w = stN v := by funext k f t x m; unfold stN; rw [stp_w fun a q h1 h2 => eW a q (by omega)]
  have eK : tkS w = tkS v := tkS_w fun a q h1 h2 => eW a q (by omega)
  have e16 : zg w 16 = zg v 16 := eW.g (by omega)
  refine ⟨fun _ _ _ _ _ _ _ => rfl, h4, ?_, ?_, ?_⟩
  · rw [f1, f2, f3, eN]; exact h2
  · rw [f1, f2, f3, eN, e16]
    exact (VS_stN hy hV.1.wf (by omega) (by omega) (by omega) (by omega) ft M M0 mc).2
  · rw [f1, f2, f3, eN, eK]; exact h5
theorem SL_step {z : Int} {w1 : zV} (hV : SV v n p) (i0 : 0 ≤ i) (i1 : i < n) (ft : ¬ lgF v i = zg v 40 i) (h : SL v y n p i c w0 M A w) (z0 : 0 ≤ z) (z1 : z ≤ 8) (hR : TR w (tA i) (tB i) (SX v y c i) (min (wantC v (zg v 39 i) z) (cnt (SX v y c i).1 (lgF v i) (zg v 16 9))) w1) : SI v y n p (i + 1) (fu c i z) A (zu w1 68 i (zI z)) ∧ ∀ {A' w2}, SI v y n p (i + 1) (fu c i z) A' w2 → (∀ (a : Nat) (q : Int), 70 ≤ a → (a : Int) < 70 + 2 * (i + 1) → w2 a q = zu w1 68 i (zI z) a q) → SL v y n p i c w0 (min (wantC v (zg v 39 i) z) (cnt (SX v y c i).1 (lgF v i) (zg v 16 9))) A' w2 := by
  obtain ⟨h1, h2, h3, h4, h5, h6, h7, h8⟩ := h
  have n4 := hV.2.1
  obtain ⟨f1, f2, f3, f4⟩ := h3 i i0 i1
  obtain ⟨ta, tb⟩ := tA_v i0
  have eW := SL_SW h1
  have eN : stN w = stN v := by funext k f t x m; unfold stN; rw [stp_w fun a q h1 h2 => eW a q (by omega)]
  have eK : tkS w = tkS v := tkS_w fun a q h1 h2 => eW a q (by omega)
  obtain ⟨r1, r2, r3, r4, r5⟩ := hR
  rw [f1, f2, f3, eN] at r3
  rw [f1, f2, f3, eN, eK] at r5
  have eS : SX v y (fu c i z) (i + 1) = stN v (zg v 39 i) (lgF v i) (zg v 40 i) (SX v y c i) (min (wantC v (zg v 39 i) z) (cnt (SX v y c i).1 (lgF v i) (zg v 16 9))) := by
    rw [SX_succ i0, if_neg ft, fu_same, SX_ext (c := fu c i z) (c' := c) i i0 (fun j j0 j1 => fu_ne (by omega))]
  refine ⟨⟨fun a q g1 g2 g3 => ?_, ?_, fun j j0 j1 => ?_, fun j j0 j1 => ?_, JC_w (fun q => ?_) (fun q => ?_) h7⟩, fun {A' w2} hI hf => ?_⟩
  · rw [zu_ne (by omega), r1 a q (by omega) (by omega) (by omega) (by omega) (by omega), h1 a q g1 g2 g3]
  · rw [eS]
    exact CS_w (fun a q g1 g2 => zu_ne (by omega)) (fun a q g1 g2 => zu_ne (by omega)) r3
  · have tj := (tA_v j0).1
    have e := h3 j j0 j1
    have k : ∀ q, ¬ (tA j = tA i ∧ q = 3) → zg (zu w1 68 i (zI z)) (tA j) q = zg w (tA j) q := fun q hq => by
      rw [zg_na (by omega)]
      simp only [zg]
      rw [r1 _ q (by omega) (by omega) (by omega) (by omega) hq]
    rw [k 0 (by omega), k 1 (by omega), k 2 (by omega)]
    refine ⟨e.1, e.2.1, e.2.2.1, fun zz => ?_⟩
    rw [k 3 (by omega)]
    exact e.2.2.2 zz
  · by_cases e : j = i
    · subst e
      rw [zg_same (by omega), fu_same]
      omega
    · rw [zg_ne (by omega), fu_ne e]
      simp only [zg]
      rw [r1 68 j (by omega) (by omega) (by omega) (by omega) (by omega)]
      exact h6 j j0 (by omega)
  · rw [zu_ne (by omega), r1 66 q (by omega) (by omega) (by omega) (by omega) (by omega)]
  · rw [zu_ne (by omega), r1 67 q (by omega) (by omega) (by omega) (by omega) (by omega)]
  · obtain ⟨q1, q2, q3, q4, q5⟩ := hI
    rw [eS] at q2
    refine ⟨q1, q2, fun j j0 j1 => q3 j j0 j1, ?_, fun j j0 j1 => ?_, fun j j0 j1 => ?_, q5, fun a q g1 g2 => ?_⟩
    · rw [← r2]
      simp only [zg]
      rw [hf _ _ (by omega) (by omega), zu_ne (by omega)]
    · rw [← r5 j j0 j1]
      simp only [zg]
      rw [hf _ _ (by omega) (by omega), zu_ne (by omega)]
    · have e := q4 j j0 (by omega)
      rw [fu_ne (by omega)] at e
      exact e
    · rw [hf a q g1 (by omega), zu_ne (by omega), r1 a q (by omega) (by omega) (by omega) (by omega) (by omega), h8 a q g1 g2]
theorem c3 (hV : SV v n p) (hy : ∀ c i, 0 ≤ i → i ≤ n → VS v (SX v y c i)) : ∀ (m d : Nat), 5 + m ≤ d → ∀ i c A w u, 0 ≤ i → i + m = n → (0 ≤ A.2 ∧ A.2 + (9 : Int) ^ m ≤ 6561) → SI v y n p i c A w → zEv sc 3 d 0 [.ref 66, .ref 16, .ref 28, .int (zI i), zJ, zJ, zJ] [] (zmk w u) 0 0 (zPv fun w' u' => SI v y n p i c (fC v y p m i c A) w' ∧ (∀ (a : Nat) (q : Int), 70 ≤ a → (a : Int) < 70 + 2 * i → w' a q = w a q) ∧ u = u') := by
  intro m
  obtain ⟨hB, ⟨hn, n0, n4⟩, hl, hs, hr, hq, hp⟩ := id hV
  have b0 := hB.1
  have b1 := hB.2.2.1
  induction m with
  | zero =>
    intro d hd i c A w u i0 i1 hA hI
    obtain ⟨h1, h2, h3, h4, h5⟩ := hI
    have ei : i = n := by omega
    subst ei
    have eW := SL_SW h1
    have g28 : zg w 28 = zg v 28 := eW.g (by omega)
    have h4' := c4 (sc := sc) (d := d - 1) (u := u) (y := y) (c := c) (w := w) (p := p) (A := A) (by omega) (WB_w3 (fun a q g1 g2 => eW a q (by omega)) hB) h2 (by rw [eW.g (a := 16) (by omega)]; exact hp) h5 (by omega) (by rw [g28]; exact hn) n0 n4 h4 (by rw [g28]; exact hr) (by rw [g28, eW.g (a := 41) (by omega), eW.g (a := 42) (by omega), eW.g (a := 16) (by omega)]; exact hq) (by rw [SX_w eW])
    rw [vl2_w eW] at h4'
    refine e_il3 o3_0 (e_al2 o3_1 (e_gI o3_2 L28 rfl 9 rfl ?_))
    rw [g28, hn]
    refine e_ic_ge o3_5 13 rfl (by first | exact zg_rg _ _ _ | exact zt_rg _ | omega) (by first | exact zg_rg _ _ _ | exact zt_rg _ | omega) (fun hb5 => ?_) (fun hb5 => ?_)
    · refine e_al0 o3_13 (e_al1 o3_14 (e_al2 o3_15 (e_Vv2 o3_16 K3 K4 rfl ⟨rfl, rfl⟩ (zrcv_I L66 rfl) (by omega) rfl h4' ?_)))
      rintro w' u' ⟨q1, q2, rfl⟩
      refine e_rV o3_19 K3 rfl rfl ?_
      refine ⟨⟨fun a q g1 g2 g3 => ?_, CS_w (fun a q g1 g2 => q2 a q (by omega) (by omega)) (fun a q g1 g2 => q2 a q (by omega) (by omega)) h2, fun j j0 j1 => ?_, fun j j0 j1 => ?_, q1⟩, fun a q g1 g2 => q2 a q (by omega) (by omega), rfl⟩
      · rw [q2 a q (by omega) (by omega), h1 a q g1 g2 g3]
      · have ta := (tA_v j0).1
        rw [show zg w' (tA j) = zg w (tA j) from zg_fn fun q => q2 _ q (by omega) (by omega)]
        exact h3 j j0 j1
      · rw [show zg w' 68 = zg w 68 from zg_fn fun q => q2 _ q (by omega) (by omega)]
        exact h4 j j0 j1
    · omega
  | succ m ihm =>
    intro d hd i c A w0 u i0 i1 hA hI
    obtain ⟨h1, h2, h3, h4, h5⟩ := id hI
    have hi : i < n := by omega
    obtain ⟨t1, t2, t3, t4⟩ := tA_L i0 (show i < 4 by omega)
    obtain ⟨ta, tb⟩ := tA_v i0
    have hli := hl i i0 hi
    have hfi := hV.fr i i0 hi
    have hms := hV.ms i i0 hi
    have h9 : 0 ≤ (9 : Int) ^ m := Int.le_of_lt (Int.pow_pos (by omega))
    have h9s : (9 : Int) ^ (m + 1) = 9 * (9 : Int) ^ m := by rw [Int.pow_succ]; omega
    rw [h9s] at hA
    have eW := SL_SW h1
    have g28 : zg w0 28 = zg v 28 := eW.g (by omega)
    obtain ⟨f1, f2, f3, f4⟩ := h3 i i0 hi
    have f4 := f4 (by omega)
    obtain ⟨T, eT⟩ : ∃ T, T = tA i := ⟨_, rfl⟩
    obtain ⟨B, eB⟩ : ∃ B, B = tB i := ⟨_, rfl⟩
    have hT : zLay[T]? = some (4, 5, [9999, 9999, 9999, 9999, B]) := by rw [eT, eB]; exact t1
    have t4' : [70, 72, 74, 76][i.toNat]? = some T := by rw [eT]; exact t4
    by_cases ft : lgF v i = zg v 40 i
    · -- left out
      have em : mst v i = 0 := by unfold mst; rw [if_pos ft]
      have eC : fC v y p (m + 1) i c A = fC v y p m (i + 1) (fu c i 0) A := by
        show zfo (fun j a => fC v y p m (i + 1) (fu c i (mst v i + 1 - 1 - j)) a) A (mst v i + 1) = _
        rw [em, show (0 : Int) + 1 = 0 + 1 from rfl, zfo_succ (by omega), zfo_zero]
        rfl
      have eS : SX v y (fu c i 0) (i + 1) = SX v y c i := by
        rw [SX_succ i0, if_pos ft]
        exact SX_ext i i0 (fun j j0 j1 => fu_ne (by omega))
      have hI2 : SI v y n p (i + 1) (fu c i 0) A (zu w0 68 i (zI 0)) := by
        refine ⟨fun a q g1 g2 g3 => ?_, ?_, fun j j0 j1 => ?_, fun j j0 j1 => ?_, JC_w (fun q => zu_ne (by omega)) (fun q => zu_ne (by omega)) h5⟩
        · rw [zu_ne (by omega), h1 a q g1 g2 g3]
        · rw [eS]
          exact CS_w (fun a q g1 g2 => zu_ne (by omega)) (fun a q g1 g2 => zu_ne (by omega)) h2
        · have tj := (tA_v j0).1
          rw [zg_na (by omega), zg_na (by omega), zg_na (by omega), zg_na (by omega)]
          have e := h3 j j0 j1
          exact ⟨e.1, e.2.1, e.2.2.1, fun z => e.2.2.2 (by omega)⟩
        · by_cases e : j = i
          · subst e
            rw [zg_same (by omega), fu_same]
            omega
          · rw [zg_ne (by omega), fu_ne e]
            exact h4 j j0 (by omega)
      have hrec := ihm (d - 1) (by omega) (i + 1) (fu c i 0) A (zu w0 68 i (zI 0)) u (by omega) (by omega) (by omega) hI2
      have fin : ∀ w', SI v y n p (i + 1) (fu c i 0) (fC v y p m (i + 1) (fu c i 0) A) w' → (∀ (a : Nat) (q : Int), 70 ≤ a → (a : Int) < 70 + 2 * (i + 1) → w' a q = zu w0 68 i (zI 0) a q) → SI v y n p i c (fC v y p (m + 1) i c A) (zu w' T 3 (zI 0)) ∧ (∀ (a : Nat) (q : Int), 70 ≤ a → (a : Int) < 70 + 2 * i → zu w' T 3 (zI 0) a q = w0 a q) := by
        intro w' hw hf
        obtain ⟨q1, q2, q3, q4, q5⟩ := hw
        rw [eC]
        rw [eS] at q2
        refine ⟨⟨fun a q g1 g2 g3 => ?_, CS_w (fun a q g1 g2 => zu_ne (by omega)) (fun a q g1 g2 => zu_ne (by omega)) q2, fun j j0 j1 => ?_, fun j j0 j1 => ?_, JC_w (fun q => zu_ne (by omega)) (fun q => zu_ne (by omega)) q5⟩, fun a q g1 g2 => ?_⟩
        · rw [zu_ne (by omega), q1 a q g1 g2 g3]
        · have tj := (tA_v j0).1
          have e := q3 j j0 j1
          rw [zg_ne (by omega), zg_ne (by omega), zg_ne (by omega)]
          refine ⟨e.1, e.2.1, e.2.2.1, fun z => ?_⟩
          by_cases ej : j = i
          · subst ej; rw [← eT, zg_same (by omega)]
          · rw [zg_ne (by omega)]; exact e.2.2.2 (by omega)
        · rw [zg_na (by omega)]
          have e := q4 j j0 (by omega)
          rw [fu_ne (by omega)] at e
          exact e
        · rw [zu_ne (by omega), hf a q g1 (by omega), zu_ne (by omega)]
      have tail : ∀ w', SI v y n p (i + 1) (fu c i 0) (fC v y p m (i + 1) (fu c i 0) A) w' → (∀ (a : Nat) (q : Int), 70 ≤ a → (a : Int) < 70 + 2 * (i + 1) → w' a q = zu w0 68 i (zI 0) a q) → zEv sc 3 d 69 [.ref 66, .ref 16, .ref 28, .int (zI i), .ref T, .int (zI 1), .int (zI (0 + -1))] [] (zmk w' u) 0 0 (zPv fun w' u' => SI v y n p i c (fC v y p (m + 1) i c A) w' ∧ (∀ (a : Nat) (q : Int), 70 ≤ a → (a : Int) < 70 + 2 * i → w' a q = w0 a q) ∧ u = u') := by
        intro w' q1 q2
        refine e_il6 o3_69 (e_if_lt o3_71 123 rfl (by first | exact zg_rg _ _ _ | exact zt_rg _ | omega) (fun hb71 => ?_) (fun hb71 => ?_))
        · refine e_al4 o3_123 (e_al1 o3_125 (e_al2 o3_126 (e_gR o3_127 L28 rfl rfl (e_Vv2 o3_130 K3 K51 rfl ⟨rfl, rfl⟩ (zrcv_I hT rfl) (by omega) rfl (c51_0 hT (by rw [eT]; simp only [zg]; rw [q2 _ _ (by omega) (by omega), zu_ne (by omega)]; exact f4)) ?_))))
          rintro _ _ ⟨rfl, rfl⟩
          refine e_rV o3_133 K3 rfl rfl ?_
          exact ⟨(fin _ q1 q2).1, (fin _ q1 q2).2, rfl⟩
        · omega
      have body : zEv sc 3 d 69 [.ref 66, .ref 16, .ref 28, .int (zI i), .ref T, .int (zI 1), .int (zI 0)] [] (zmk w0 u) 0 0 (zPv fun w' u' => SI v y n p i c (fC v y p (m + 1) i c A) w' ∧ (∀ (a : Nat) (q : Int), 70 ≤ a → (a : Int) < 70 + 2 * i → w' a q = w0 a q) ∧ u = u') := by
        refine e_il6 o3_69 (e_if_lt o3_71 123 rfl (by first | exact zg_rg _ _ _ | exact zt_rg _ | omega) (fun hb71 => ?_) (fun hb71 => ?_))
        · omega
        · refine e_il5 o3_74 (e_if_ne o3_76 100 rfl (by first | exact zg_rg _ _ _ | exact zt_rg _ | omega) (fun hb76 => ?_) (fun hb76 => ?_))
          · refine e_al0 o3_100 (e_gR o3_101 L66 rfl rfl (e_il3 o3_104 (e_il6 o3_105 (e_iast o3_107 L68 (by omega) (by omega) (e_al0 o3_108 (e_al1 o3_109 (e_al2 o3_110 (e_il3 o3_111 (e_ico o3_112 (e_add o3_113 (e_Vv3 o3_114 K3 K3 rfl ⟨rfl, rfl⟩ (zrcv_I L66 rfl) (by omega) rfl hrec ?_)))))))))))
            rintro w' u' ⟨q1, q2, rfl⟩
            refine e_inc6 o3_117 (e_goto o3_120 69 rfl ?_)
            exact tail _ q1 q2
          · omega
      refine e_il3 o3_0 (e_al2 o3_1 (e_gI o3_2 L28 rfl 9 rfl ?_))
      rw [g28, hn]
      refine e_ic_ge o3_5 13 rfl (by first | exact zg_rg _ _ _ | exact zt_rg _ | omega) (by first | exact zg_rg _ _ _ | exact zt_rg _ | omega) (fun hb5 => ?_) (fun hb5 => ?_)
      · omega
      · refine e_il3 o3_8 (e_ico o3_9 (e_ic_lt o3_10 20 rfl (by first | exact zg_rg _ _ _ | exact zt_rg _ | omega) (by first | exact zg_rg _ _ _ | exact zt_rg _ | omega) (fun hb10 => ?_) (fun hb10 => ?_)))
        · refine e_al0 o3_20 (e_gR o3_21 L66 rfl rfl (e_il3 o3_24 (e_aal o3_25 L69 (by omega) (by show i < 4; omega) rfl t4' (e_as4 o3_26 (e_al4 o3_28 (e_gI o3_30 hT rfl 1 rfl (e_al4 o3_33 (e_gI o3_35 hT rfl 2 rfl ?_))))))))
          rw [eT, f2, f3, ← eT]
          refine e_ic_ne o3_38 45 rfl (by first | exact zg_rg _ _ _ | exact zt_rg _ | omega) (by first | exact zg_rg _ _ _ | exact zt_rg _ | omega) (fun hb38 => ?_) (fun hb38 => ?_)
          · exact absurd ft hb38
          · refine e_ico o3_41 (e_goto o3_42 46 rfl (e_is5 o3_46 (e_il5 o3_48 (e_if_eq o3_50 57 rfl (by first | exact zg_rg _ _ _ | exact zt_rg _ | omega) (fun hb50 => ?_) (fun hb50 => ?_)))))
            · omega
            · refine e_ico o3_53 (e_goto o3_54 67 rfl (e_is6 o3_67 ?_))
              exact body
        · omega
    · have em : mst v i = zg v 22 (zg v 39 i) := by unfold mst; rw [if_neg ft]
      obtain ⟨F, hF⟩ : ∃ F : Int → zBA × Int, F = fun k => zfo (fun j a => fC v y p m (i + 1) (fu c i (mst v i + 1 - 1 - j)) a) A k := ⟨_, rfl⟩
      have F0 : F 0 = A := by rw [hF]; rfl
      have Fs : ∀ k, 0 ≤ k → F (k + 1) = fC v y p m (i + 1) (fu c i (mst v i + 1 - 1 - k)) (F k) := fun k k0 => by rw [hF]; exact zfo_succ k0
      have Fe : fC v y p (m + 1) i c A = F (mst v i + 1) := by rw [hF]; rfl
      have Fb : ∀ k, 0 ≤ k → A.2 ≤ (F k).2 ∧ (F k).2 ≤ A.2 + k * (9 : Int) ^ m := fun k k0 => by rw [hF]; exact fC_bd hV.ms i0 (by omega) _ k k0
      have hx := hy c i i0 (by omega)
      have cn := cnt_rg (P := (SX v y c i).1) (p := lgF v i) (n := zg v 16 9) hB.2.1.1
      have loop : ∀ z, -1 ≤ z → z ≤ mst v i → ∀ w M, SL v y n p i c w0 M (F (mst v i - z)) w → 0 ≤ M → M ≤ 8 → M ≤ cnt (SX v y c i).1 (lgF v i) (zg v 16 9) → (0 ≤ z → M ≤ wantC v (zg v 39 i) z) → zEv sc 3 d 69 [.ref 66, .ref 16, .ref 28, .int (zI i), .ref T, .int (zI 0), .int (zI z)] [] (zmk w u) 0 0 (zPv fun w' u' => SI v y n p i c (fC v y p (m + 1) i c A) w' ∧ (∀ (a : Nat) (q : Int), 70 ≤ a → (a : Int) < 70 + 2 * i → w' a q = w0 a q) ∧ u = u') := by
        refine zloopD ?_
        intro z z0 ih z1 w M hS M0 M8 MC MW
        have hTA := SL_TA hV i0 hi ft hS
        have hTR := SL_TR hV hx i0 hi ft hS M0 MC
        obtain ⟨s1, s2, s3, s4, s5, s6, s7, s8⟩ := id hS
        obtain ⟨g1, g2, g3, g4⟩ := s3 i i0 hi
        have eW := SL_SW s1
        have e22 : zg w 22 = zg v 22 := eW.g (by omega)
        have e16 : zg w 16 = zg v 16 := eW.g (by omega)
        have eWa : wantC w = wantC v := by funext k y; unfold wantC; rw [e22, eW.g (a := 21) (by omega)]
        by_cases hz : 0 ≤ z
        · have wi := want_in (a := z) hB hli.1.1 hli.1.2 hz (by omega)
          have h52 := c52 (sc := sc) (d := d - 1) (u := u) (w := wantC v (zg v 39 i) z) (by omega) hTA hTR M0 M8 (by rw [g2, e16]; exact MC) wi.1 wi.2
          rw [g2, e16, show max M (min (wantC v (zg v 39 i) z) (cnt (SX v y c i).1 (lgF v i) (zg v 16 9))) = min (wantC v (zg v 39 i) z) (cnt (SX v y c i).1 (lgF v i) (zg v 16 9)) by have := MW hz; omega, ← eT, ← eB] at h52
          have fb := Fb (mst v i - z) (by omega)
          have fb2 : (mst v i - z) * (9 : Int) ^ m ≤ 8 * (9 : Int) ^ m := Int.mul_le_mul_of_nonneg_right (by omega) h9
          have fs := Fs (mst v i - z) (by omega)
          rw [show mst v i + 1 - 1 - (mst v i - z) = z by omega, show mst v i - z + 1 = mst v i - (z + -1) by omega] at fs
          have ih := ih hz (by omega)
          rw [fs] at ih
          refine e_il6 o3_69 (e_if_lt o3_71 123 rfl (by first | exact zg_rg _ _ _ | exact zt_rg _ | omega) (fun hb71 => ?_) (fun hb71 => ?_))
          · omega
          · refine e_il5 o3_74 (e_if_ne o3_76 100 rfl (by first | exact zg_rg _ _ _ | exact zt_rg _ | omega) (fun hb76 => ?_) (fun hb76 => ?_))
            · omega
            · refine e_al4 o3_79 (e_al1 o3_81 (e_al2 o3_82 (e_gR o3_83 L28 rfl rfl (e_al1 o3_86 (e_al4 o3_87 (e_gI o3_89 hT rfl 0 rfl ?_))))))
              rw [eT, g1, ← eT]
              refine e_il6 o3_92 (e_Vi2 o3_94 K3 K71 rfl ⟨rfl, rfl⟩ (zrcv_I L16 rfl) (by omega) rfl (c71 (by omega) (by omega) hz (by rw [e22]; omega) (by rw [e22]; omega)) ?_)
              rintro _ _ _ ⟨rfl, rfl, rfl⟩
              rw [eWa]
              refine e_Vv3 o3_97 K3 K52 rfl ⟨rfl, rfl⟩ (zrcv_I hT rfl) (by omega) rfl h52 ?_
              rintro w1 u' ⟨hR1, rfl⟩
              rw [eT, eB] at hR1
              have hst := SL_step hV i0 hi ft hS hz (by omega) hR1
              refine e_al0 o3_100 (e_gR o3_101 L66 rfl rfl (e_il3 o3_104 (e_il6 o3_105 (e_iast o3_107 L68 (by omega) (by omega) (e_al0 o3_108 (e_al1 o3_109 (e_al2 o3_110 (e_il3 o3_111 (e_ico o3_112 (e_add o3_113 (e_Vv3 o3_114 K3 K3 rfl ⟨rfl, rfl⟩ (zrcv_I L66 rfl) (by omega) rfl (ihm (d - 1) (by omega) (i + 1) (fu c i z) (F (mst v i - z)) _ u (by omega) (by omega) (by omega) hst.1) ?_)))))))))))
              rintro w2 u' ⟨q1, q2, rfl⟩
              refine e_inc6 o3_117 (e_goto o3_120 69 rfl ?_)
              refine ih w2 _ (hst.2 q1 q2) (by omega) (by omega) (by omega) (fun hz' => ?_)
              have wm := want_m (v := v) (k := zg v 39 i) (show z + -1 ≤ z by omega)
              omega
        · have ez : z = -1 := by omega
          subst ez
          rw [show mst v i - -1 = mst v i + 1 by omega, ← Fe] at s7
          have h51 := c51 (sc := sc) (d := d - 1) (u := u) (by omega) hTA (VS_w3 (fun a q k1 k2 => eW a q (by omega)) hx) hTR M0 M8 (by rw [g2, e16]; exact MC)
          rw [← eT, ← eB] at h51
          refine e_il6 o3_69 (e_if_lt o3_71 123 rfl (by first | exact zg_rg _ _ _ | exact zt_rg _ | omega) (fun hb71 => ?_) (fun hb71 => ?_))
          · refine e_al4 o3_123 (e_al1 o3_125 (e_al2 o3_126 (e_gR o3_127 L28 rfl rfl (e_Vv2 o3_130 K3 K51 rfl ⟨rfl, rfl⟩ (zrcv_I hT rfl) (by omega) rfl h51 ?_))))
            rintro w1 u' ⟨⟨r1, r2, r3, r4, r5⟩, q2, rfl⟩
            refine e_rV o3_133 K3 rfl rfl ?_
            rw [eT] at r2 r3 q2
            rw [g1, g2, g3] at r3
            refine ⟨⟨fun a q k1 k2 k3 => ?_, r3, fun j j0 j1 => ?_, fun j j0 j1 => ?_, JC_w (fun q => q2 66 q (by omega) (by omega) (by omega) (by omega)) (fun q => q2 67 q (by omega) (by omega) (by omega) (by omega)) s7⟩, fun a q k1 k2 => ?_, rfl⟩
            · rw [q2 a q (by omega) (by omega) (by omega) (by omega), s1 a q k1 k2 k3]
            · have tj := (tA_v j0).1
              have e := s3 j j0 j1
              have k : ∀ q, ¬ (tA j = tA i ∧ q = 3) → zg w1 (tA j) q = zg w (tA j) q := fun q hq => by
                simp only [zg]
                rw [q2 _ q (by omega) (by omega) (by omega) hq]
              rw [k 0 (by omega), k 1 (by omega), k 2 (by omega)]
              refine ⟨e.1, e.2.1, e.2.2.1, fun zz => ?_⟩
              by_cases ej : j = i
              · subst ej; exact r2
              · rw [k 3 (by omega)]; exact e.2.2.2 (by omega)
            · rw [show zg w1 68 = zg w 68 from zg_fn fun q => q2 68 q (by omega) (by omega) (by omega) (by omega)]
              exact s6 j j0 j1
            · rw [q2 a q (by omega) (by omega) (by omega) (by omega), s8 a q k1 k2]
          · omega
      refine e_il3 o3_0 (e_al2 o3_1 (e_gI o3_2 L28 rfl 9 rfl ?_))
      rw [g28, hn]
      refine e_ic_ge o3_5 13 rfl (by first | exact zg_rg _ _ _ | exact zt_rg _ | omega) (by first | exact zg_rg _ _ _ | exact zt_rg _ | omega) (fun hb5 => ?_) (fun hb5 => ?_)
      · omega
      · refine e_il3 o3_8 (e_ico o3_9 (e_ic_lt o3_10 20 rfl (by first | exact zg_rg _ _ _ | exact zt_rg _ | omega) (by first | exact zg_rg _ _ _ | exact zt_rg _ | omega) (fun hb10 => ?_) (fun hb10 => ?_)))
        · refine e_al0 o3_20 (e_gR o3_21 L66 rfl rfl (e_il3 o3_24 (e_aal o3_25 L69 (by omega) (by show i < 4; omega) rfl t4' (e_as4 o3_26 (e_al4 o3_28 (e_gI o3_30 hT rfl 1 rfl (e_al4 o3_33 (e_gI o3_35 hT rfl 2 rfl ?_))))))))
          rw [eT, f2, f3, ← eT]
          refine e_ic_ne o3_38 45 rfl (by first | exact zg_rg _ _ _ | exact zt_rg _ | omega) (by first | exact zg_rg _ _ _ | exact zt_rg _ | omega) (fun hb38 => ?_) (fun hb38 => ?_)
          · refine e_ico o3_45 (e_is5 o3_46 (e_il5 o3_48 (e_if_eq o3_50 57 rfl (by first | exact zg_rg _ _ _ | exact zt_rg _ | omega) (fun hb50 => ?_) (fun hb50 => ?_))))
            · refine e_al1 o3_57 (e_gR o3_58 L16 rfl rfl (e_al4 o3_61 (e_gI o3_63 hT rfl 0 rfl ?_)))
              rw [eT, f1, ← eT]
              refine e_ial o3_66 L22 (by omega) (by omega) ?_
              rw [eW.g (a := 22) (by omega), ← em]
              refine e_is6 o3_67 ?_
              refine loop (mst v i) (by omega) (by omega) w0 0 ⟨h1, h2, fun j j0 j1 => ?_, f4, fun j j0 j1 => by omega, h4, ?_, fun _ _ _ _ => rfl⟩ (by omega) (by omega) (by omega) (fun _ => ?_)
              · have e := h3 j j0 j1
                exact ⟨e.1, e.2.1, e.2.2.1, fun zz => e.2.2.2 (by omega)⟩
              · rw [Int.sub_self, F0]; exact h5
              · unfold wantC; rw [em]; split <;> omega
            · omega
          · exact absurd hb38 ft
        · omega
end
