/-! stones carried back -/
theorem insV_fr {v : zV} {p i k s : Int} {a : Nat} (h : ¬ a = 30) (h' : ¬ a = 31) (h'' : ¬ a = 32) : insV v p i s a k = v a k := by
  rw [← zI_g (insV v p i s) a k, insV_na h h' h'', zI_g]
theorem lifV_fr {v : zV} {p i k : Int} {a : Nat} (h : ¬ a = 30) (h' : ¬ a = 31) (h'' : ¬ a = 32) : lifV v p i a k = v a k := by
  rw [← zI_g (lifV v p i) a k, lifV_na h h' h'', zI_g]
def VS (v : zV) (x : zPL) : Prop := ∃ w : zV, (∀ c k, ¬ c = 30 → ¬ c = 31 → ¬ c = 32 → w c k = v c k) ∧ CS w x.1 x.2
theorem TK_of_BS {v : zV} {k f s : Int} {x : zPL} (h : CS v x.1 x.2) (w : WF v) (f0 : 0 ≤ f) (f1 : f < 6) (hb : BS v k f x s) : TK v f k (x.2 s) ∧ ¬ x.2 s = -1 := by
  obtain ⟨b0, b1, b2, b3⟩ := hb
  obtain ⟨g1, g2, g3, g4, g5, g6⟩ := h.lt w b0 b1 (by omega)
  rw [b2] at g5 g6
  refine ⟨Or.inr ⟨g3, g5, fun i i0 i1 => ?_⟩, by omega⟩
  obtain ⟨e0, e1, e2, e3⟩ := h.2.2.1 f f0 f1 i i0 i1
  have := b3 _ e0 e1 e2
  rw [e3] at this
  rw [g6]
  exact this
theorem cnt_ex {P : Int → Int} {p : Int} : ∀ n, 0 ≤ n → 0 < cnt P p n → ∃ s, 0 ≤ s ∧ s < n ∧ P s = p := by
  refine zup ?_ ?_
  · intro h; rw [cnt, zsg_zero] at h; omega
  · intro k k0 ih h
    unfold cnt at h ih
    rw [zsg_succ k0] at h
    by_cases e : P k = p
    · exact ⟨k, k0, by omega, e⟩
    · rw [if_neg e] at h
      obtain ⟨s, a, b, c⟩ := ih (by omega)
      exact ⟨s, a, by omega, c⟩
theorem VS_stp {v : zV} {k f t : Int} {x : zPL} (h : VS v x) (w : WF v) (f0 : 0 ≤ f) (f1 : f < 6) (t0 : 0 ≤ t) (t1 : t < 6) (ft : ¬ f = t) (hc : 0 < cnt x.1 f (zg v 16 9)) : BS v k f x (tkS v k f x) ∧ VS v (stp v k f t x) ∧ cnt (stp v k f t x).1 f (zg v 16 9) = cnt x.1 f (zg v 16 9) - 1 := by
  obtain ⟨y, hy, hC⟩ := h
  have hw : ∀ c k, 16 ≤ c → c ≤ 25 → y c k = v c k := fun c k h1 h2 => hy c k (by omega) (by omega) (by omega)
  have wy : WF y := WF_w hw w
  have e16 : zg y 16 9 = zg v 16 9 := by simp only [zg]; rw [hw 16 9 (by omega) (by omega)]
  have hB : BS v k f x (tkS v k f x) := by
    rcases tkS_spec (v := v) (k := k) (f := f) (x := x) w.1 with ⟨a, b⟩ | a
    · obtain ⟨s, s0, s1, s2⟩ := cnt_ex _ w.1 hc
      exact absurd s2 (b s s0 s1)
    · exact a
  have hB' : BS y k f x (tkS v k f x) := by
    unfold BS at hB ⊢
    rw [wsh_w hw, e16]
    exact hB
  obtain ⟨hT, hT1⟩ := TK_of_BS hC wy f0 f1 hB'
  obtain ⟨s1, s2, s3, s4, s5⟩ := CS_stp (t := t) hC wy f0 f1 t0 t1 ft hT hT1
  refine ⟨hB, ⟨_, ?_, by rw [stp_w hw] at s3; exact s3⟩, ?_⟩
  · intro c k h1 h2 h3
    rw [← hy c k h1 h2 h3, insV_fr h1 h2 h3, lifV_fr h1 h2 h3]
  · show cnt (fu _ _ _) _ _ = _
    rw [cnt_fu hB.1 hB.2.1, hB.2.2.1, if_pos rfl, if_neg (fun e => ft e.symm)]
    omega
theorem VS_stN {v : zV} {k f t : Int} {x : zPL} (h : VS v x) (w : WF v) (f0 : 0 ≤ f) (f1 : f < 6) (t0 : 0 ≤ t) (t1 : t < 6) (ft : ¬ f = t) : ∀ m, 0 ≤ m → m ≤ cnt x.1 f (zg v 16 9) → VS v (stN v k f t x m) ∧ cnt (stN v k f t x m).1 f (zg v 16 9) = cnt x.1 f (zg v 16 9) - m := by
  refine zup ?_ ?_
  · intro hm
    exact ⟨h, by show cnt x.1 _ _ = _; omega⟩
  · intro m m0 ih hm
    obtain ⟨a, b⟩ := ih (by omega)
    obtain ⟨c1, c2, c3⟩ := VS_stp (k := k) (t := t) a w f0 f1 t0 t1 ft (by omega)
    rw [stN_succ m0]
    exact ⟨c2, by omega⟩
theorem CS_back {v v0 : zV} {k f t : Int} {y : zPL} (hV : VS v0 y) (w : WF v0) (hw : ∀ c k, 16 ≤ c → c ≤ 25 → v c k = v0 c k) (f0 : 0 ≤ f) (f1 : f < 6) (t0 : 0 ≤ t) (t1 : t < 6) (ft : ¬ f = t) (hc : 0 < cnt y.1 f (zg v0 16 9)) (h : CS v (stp v0 k f t y).1 (stp v0 k f t y).2) : 0 < zg v 30 t ∧ zg v 30 t ≤ 40 ∧ zg v 31 (t * 40 + (zg v 30 t - 1)) = tkS v0 k f y ∧ 0 ≤ tkS v0 k f y ∧ tkS v0 k f y < zg v0 16 9 ∧ 0 ≤ y.2 (tkS v0 k f y) ∧ y.2 (tkS v0 k f y) ≤ zg (lifV v t (zg v 30 t - 1)) 30 f ∧ zg (lifV v t (zg v 30 t - 1)) 30 f < 40 ∧ CS (insV (lifV v t (zg v 30 t - 1)) f (y.2 (tkS v0 k f y)) (tkS v0 k f y)) y.1 y.2 := by
  obtain ⟨hB, _, _⟩ := VS_stp (k := k) (t := t) hV w f0 f1 t0 t1 ft hc
  obtain ⟨z, hz, hC⟩ := hV
  have hwz : ∀ c k, 16 ≤ c → c ≤ 25 → z c k = v0 c k := fun c k h1 h2 => hz c k (by omega) (by omega) (by omega)
  have wz : WF z := WF_w hwz w
  have wv : WF v := WF_w hw w
  have z16 : zg z 16 9 = zg v0 16 9 := by simp only [zg]; rw [hwz 16 9 (by omega) (by omega)]
  have v16 : zg v 16 9 = zg v0 16 9 := by simp only [zg]; rw [hw 16 9 (by omega) (by omega)]
  obtain ⟨s, hs⟩ : ∃ s, s = tkS v0 k f y := ⟨_, rfl⟩
  have eS : stp v0 k f t y = (fu y.1 s t, mvL y.1 y.2 f s (cnt y.1 t (zg v0 16 9))) := by rw [hs]; rfl
  rw [eS] at h
  have h : CS v (fu y.1 s t) (mvL y.1 y.2 f s (cnt y.1 t (zg v0 16 9))) := h
  rw [← hs] at hB ⊢
  obtain ⟨s0, s1, s2, s3⟩ := hB
  obtain ⟨p1, p2, p3, p4, p5, p6⟩ := hC.lt wz s0 (by rw [z16]; exact s1) (by omega)
  rw [s2, hC.2.1 f f0 f1, z16] at p5
  have hlen := h.2.1 t t0 t1
  rw [v16, cnt_fu s0 s1, s2, if_neg ft, if_pos rfl] at hlen
  have hl := h.len wv t0 t1
  have hpos : 0 < zg v 30 t := by
    have := cnt_rg (P := y.1) (p := t) w.1
    omega
  have hP : fu y.1 s t s = t := fu_same _ _ _
  have hL : mvL y.1 y.2 f s (cnt y.1 t (zg v0 16 9)) s = zg v 30 t - 1 := by
    unfold mvL
    rw [if_pos rfl]
    omega
  obtain ⟨q1, q2, q3, q4, q5, q6⟩ := h.lt wv s0 (by rw [v16]; exact s1) (by rw [hP]; omega)
  rw [hP, hL] at q6
  have hl2 := CS_lift h wv t0 t1 (show 0 ≤ zg v 30 t - 1 by omega) (by omega)
  rw [q6] at hl2
  have hn : zg (lifV v t (zg v 30 t - 1)) 16 9 = zg v 16 9 := lifV_na (by decide) (by decide) (by decide)
  have wl : WF (lifV v t (zg v 30 t - 1)) := by
    refine ⟨by rw [hn]; exact wv.1, by rw [hn]; exact wv.2.1, fun s s0 s1 => ?_⟩
    rw [hn] at s1
    rw [lifV_na (by decide) (by decide) (by decide)]
    exact wv.2.2 s s0 s1
  have hf := hl2.2.1 f f0 f1
  rw [hn, v16, cnt_fu s0 s1, hP, if_neg (fun e => ft e.symm), if_neg (by omega), cnt_fu s0 s1, s2, if_pos rfl, if_neg (fun e => ft e.symm)] at hf
  have hin := CS_ins (i := y.2 s) (s := s) hl2 wl f0 f1 p3 (by omega) s0 (by rw [hn, v16]; exact s1) (fu_same _ _ _)
  refine ⟨hpos, hl.2, q6, s0, s1, p3, by omega, hin.2, ?_⟩
  have h3 := hin.1
  have eP : fu (fu (fu y.1 s t) s (-1)) s f = y.1 := by
    funext x
    by_cases e : x = s
    · subst e; rw [fu_same]; exact s2.symm
    · rw [fu_ne e, fu_ne e, fu_ne e]
  have eL : Lin (fu (fu y.1 s t) s (-1)) (Lup (fu y.1 s t) (mvL y.1 y.2 f s (cnt y.1 t (zg v0 16 9))) t (zg v 30 t - 1)) f (y.2 s) s = y.2 := by
    funext x
    unfold Lin
    by_cases e : x = s
    · rw [if_pos e, e]
    · rw [if_neg e, fu_ne e, fu_ne e]
      have hX : Lup (fu y.1 s t) (mvL y.1 y.2 f s (cnt y.1 t (zg v0 16 9))) t (zg v 30 t - 1) x = if y.1 x = f ∧ y.2 s < y.2 x then y.2 x - 1 else y.2 x := by
        unfold Lup mvL
        rw [fu_ne e, if_neg e]
        apply if_neg
        rintro ⟨c1, c2⟩
        rw [if_neg (by omega)] at c2
        by_cases hx : 0 ≤ x ∧ x < zg v0 16 9
        · obtain ⟨r1, r2, r3, r4, r5, r6⟩ := hC.lt wz hx.1 (by rw [z16]; exact hx.2) (by omega)
          rw [c1, hC.2.1 t t0 t1, z16] at r5
          omega
        · have := (hC.2.2.2.2 x (by rw [z16]; omega)).1
          omega
      rw [hX]
      by_cases c : y.1 x = f
      · have hx : 0 ≤ x ∧ x < zg v0 16 9 := by
          apply Classical.byContradiction
          intro hx
          have := (hC.2.2.2.2 x (by rw [z16]; omega)).1
          omega
        obtain ⟨r1, r2, r3, r4, r5, r6⟩ := hC.lt wz hx.1 (by rw [z16]; exact hx.2) (by omega)
        have hne : ¬ y.2 x = y.2 s := by
          intro e2
          rw [c, e2] at r6
          rw [s2] at p6
          rw [p6] at r6
          exact e r6.symm
        by_cases c2 : y.2 s < y.2 x
        · rw [show (if y.1 x = f ∧ y.2 s < y.2 x then y.2 x - 1 else y.2 x) = y.2 x - 1 from if_pos ⟨c, c2⟩, if_pos ⟨c, by omega⟩]; omega
        · rw [show (if y.1 x = f ∧ y.2 s < y.2 x then y.2 x - 1 else y.2 x) = y.2 x from if_neg (by omega), if_neg (by omega)]
      · rw [if_neg (fun e => c e.1), if_neg (fun e => c e.1)]
  rw [eP, eL] at h3
  exact h3
section
variable {sc : Nat × (Nat → Int32)} {d : Nat} {v v0 : zV} {u : zU}
theorem c51 {a b : Nat} {x : zPL} {m : Int} (hd : 1 ≤ d) (hA : TA v0 a b) (hV : VS v0 x) (hR : TR v0 a b x m v) (m0 : 0 ≤ m) (m8 : m ≤ 8) (mc : m ≤ cnt x.1 (zg v0 a 1) (zg v0 16 9)) : zEv sc 51 d 0 [.ref a, .ref 16, .ref 29, zJ, zJ] [] (zmk v u) 0 0 (zPv fun v' u' => TR v0 a b x 0 v' ∧ (∀ c k, ¬ c = 30 → ¬ c = 31 → ¬ c = 32 → ¬ (c = a ∧ k = 3) → v' c k = v c k) ∧ u = u') := by
  obtain ⟨hT, hB, hBn, ha, hb, hab, hF, hK, k0, k1, f0, f1, t0, t1, ft⟩ := hA
  obtain ⟨hR1, hR2, hR3, hR4, hR5⟩ := hR
  have loop : ∀ i, -1 ≤ i → i < m → ∀ v1 y, (∀ c k, ¬ c = 30 → ¬ c = 31 → ¬ c = 32 → v1 c k = v c k) → CS v1 (stN v0 (zg v0 a 0) (zg v0 a 1) (zg v0 a 2) x (i + 1)).1 (stN v0 (zg v0 a 0) (zg v0 a 1) (zg v0 a 2) x (i + 1)).2 → zEv sc 51 d 7 [.ref a, .ref 16, .ref 29, .int (zI i), y] [] (zmk v1 u) 0 0 (zPv fun v' u' => TR v0 a b x 0 v' ∧ (∀ c k, ¬ c = 30 → ¬ c = 31 → ¬ c = 32 → ¬ (c = a ∧ k = 3) → v' c k = v c k) ∧ u = u') := by
    refine zloopD ?_
    intro i i0 ih i1 v1 y hv hC
    have hwv : ∀ c k, 16 ≤ c → c ≤ 25 → v1 c k = v0 c k := fun c k h1 h2 => by rw [hv c k (by omega) (by omega) (by omega)]; exact hR1 c k (by omega) (by omega) (by omega) (by omega) (by omega)
    have e1 : zg v1 a 1 = zg v0 a 1 := by simp only [zg]; rw [hv a 1 (by omega) (by omega) (by omega), hR1 a 1 (by omega) (by omega) (by omega) hab (by omega)]
    have e2 : zg v1 a 2 = zg v0 a 2 := by simp only [zg]; rw [hv a 2 (by omega) (by omega) (by omega), hR1 a 2 (by omega) (by omega) (by omega) hab (by omega)]
    refine e_il3 o51_7 (e_if_lt o51_8 68 rfl (by first | exact zg_rg _ _ _ | exact zt_rg _ | omega) (fun hb8 => ?_) (fun hb8 => ?_))
    · have ei : i = -1 := by omega
      subst ei
      refine e_al0 o51_68 (e_ico o51_69 (e_pI o51_70 hT rfl rfl rfl rfl 3 rfl ?_))
      refine e_rV o51_73 K51 rfl rfl ?_
      refine ⟨⟨?_, zg_same (by omega), ?_, ?_, fun j j0 j1 => by omega⟩, ?_, rfl⟩
      · intro c k h1 h2 h3 h4 h5
        rw [zu_ne h5, hv c k h1 h2 h3]
        exact hR1 c k h1 h2 h3 h4 h5
      · exact CS_w (v0 := v1) (fun c k h1 h2 => zu_ne (by omega)) (fun c k h1 h2 => zu_ne (by omega)) hC
      · show cnt x.1 _ _ = _
        omega
      · intro c k h1 h2 h3 h5
        rw [zu_ne h5]
        exact hv c k h1 h2 h3
    · obtain ⟨w1, w2⟩ := VS_stN (k := zg v0 a 0) hV hF f0 f1 t0 t1 ft i hb8 (by omega)
      rw [stN_succ hb8] at hC
      obtain ⟨b1, b2, b3, b4, b5, b6, b7, b8, b9⟩ := CS_back w1 hF hwv f0 f1 t0 t1 ft (by omega) hC
      have go := hF.2.2 _ b4 b5
      have g40 := hF.2.1
      have e19 : ∀ k, zg v1 19 k = zg v0 19 k := fun k => by simp only [zg]; rw [hwv 19 k (by omega) (by omega)]
      have lna : ∀ c k, ¬ c = 30 → ¬ c = 31 → ¬ c = 32 → zg (lifV v1 (zg v0 a 2) (zg v1 30 (zg v0 a 2) - 1)) c k = zg v1 c k := fun c k h1 h2 h3 => lifV_na h1 h2 h3
      refine e_al2 o51_11 (e_gR o51_12 L29 rfl rfl (e_al0 o51_15 (e_gI o51_16 hT rfl 2 rfl ?_)))
      rw [e2]
      refine e_ial o51_19 L30 (by omega) (by omega) (e_if_le o51_20 68 rfl (by first | exact zg_rg _ _ _ | exact zt_rg _ | omega) (fun hb20 => ?_) (fun hb20 => ?_))
      · omega
      · refine e_al2 o51_23 (e_al1 o51_24 (e_al0 o51_25 (e_gI o51_26 hT rfl 2 rfl ?_)))
        rw [e2]
        refine e_al2 o51_29 (e_gR o51_30 L29 rfl rfl (e_al0 o51_33 (e_gI o51_34 hT rfl 2 rfl ?_)))
        rw [e2]
        refine e_ial o51_37 L30 (by omega) (by omega) (e_ico o51_38 (e_sub o51_39 (e_Vi3 o51_40 K51 K17 rfl ⟨rfl, rfl⟩ (zrcv_I L29 rfl) (by omega) rfl (c17 t0 t1 (by omega) (by omega) b2 (by rw [b3]; exact b4) (by rw [b3]; omega) (by rw [b3, e19]; exact go.1) (by rw [b3, e19]; exact go.2)) ?_)))
        rintro _ _ _ ⟨rfl, rfl, rfl⟩
        refine e_is4 o51_43 (e_al2 o51_45 (e_al1 o51_46 (e_al0 o51_47 (e_gI o51_48 hT rfl 1 rfl ?_))))
        rw [lna a 1 (by omega) (by omega) (by omega), e1]
        refine e_al0 o51_51 (e_gR o51_52 hT rfl hBn (e_il3 o51_55 (e_ial o51_56 hB (by omega) (by omega) ?_)))
        rw [lna b i (by omega) (by omega) (by omega), show zg v1 b i = zg v b i by simp only [zg]; rw [hv b i (by omega) (by omega) (by omega)], hR5 i hb8 i1, b3]
        refine e_il4 o51_57 (e_Vv4 o51_59 K51 K18 rfl ⟨rfl, rfl⟩ (zrcv_I L29 rfl) (by omega) rfl (c18 f0 f1 b6 b7 b8 b4 (by omega) (by rw [lna 19 _ (by omega) (by omega) (by omega), e19]; exact go.1) (by rw [lna 19 _ (by omega) (by omega) (by omega), e19]; exact go.2)) ?_)
        rintro _ _ ⟨rfl, rfl⟩
        refine e_inc3 o51_62 (e_goto o51_65 7 rfl ?_)
        refine ih hb8 (by omega) _ _ ?_ ?_
        · intro c k h1 h2 h3
          rw [← hv c k h1 h2 h3, insV_fr h1 h2 h3, lifV_fr h1 h2 h3]
        · rw [show i + -1 + 1 = i by omega]
          exact b9
  refine e_al0 o51_0 (e_gI o51_1 hT rfl 3 rfl (e_ico o51_4 ?_))
  rw [hR2]
  refine e_sub o51_5 (e_is3 o51_6 ?_)
  exact loop (m - 1) (by omega) (by omega) v _ (fun _ _ _ _ _ => rfl) (by rw [show m - 1 + 1 = m by omega]; exact hR3)
end
