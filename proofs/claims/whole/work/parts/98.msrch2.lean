/-! the reference tries all loads -/
/-- the reference's route, ships, readings and row are those of the class -/
def SR (v : zV) (y : zPL) (n : Int) : Prop :=
  EW v ∧ VS v y ∧ (∀ s, 0 ≤ s → s < zg v 16 9 → ¬ y.1 s = -1) ∧ zg v 79 32 = n ∧ zg v 79 33 = zg v 28 10 ∧ (0 ≤ zg v 79 30 ∧ zg v 79 30 ≤ 30) ∧
  (∀ i, 0 ≤ i → i < n → zg v 100 i = zg v 39 i ∧ zg v 101 i = zg v 40 i) ∧
  (∀ i, 0 ≤ i → i < zg v 28 10 → zg v 105 i = zg v 41 i ∧ zg v 106 i = zg v 42 i ∧ zg v 107 i = zg v 43 i) ∧
  (∀ s, 0 ≤ s → s < zg v 16 9 → zg v 93 s = y.1 s ∧ zg v 93 (40 + s) = y.2 s) ∧
  (∀ s, 0 ≤ s → s < zg v 16 10 → zg v 93 (166 + s) = zg v 38 s) ∧
  ∀ p, 0 ≤ p → p < zg v 16 8 → 0 ≤ zg v 93 (160 + p) ∧ zg v 93 (160 + p) ≤ 99
def SM (v : zV) (n p i : Int) (c : Int → Int) (A : zBA × Int) (w : zV) : Prop :=
  (∀ a q, ¬ (a = 79 ∧ (q = 45 ∨ q = 46 ∨ q = 47)) → ¬ a = 94 → ¬ a = 96 → ¬ a = 102 → ¬ a = 103 → ¬ a = 108 → w a q = v a q) ∧
  (∀ j, 0 ≤ j → j < i → zg w 102 j = c j ∧ 0 ≤ c j ∧ c j ≤ mst v j) ∧
  (∀ s, 0 ≤ s → s < zg v 16 10 → zg w 108 s = spC v i s) ∧ JM n p A w
theorem JM_w {n p : Int} {A : zBA × Int} {w w' : zV} (h : ∀ q, (q = 45 ∨ q = 46 ∨ q = 47) → w' 79 q = w 79 q) (h' : ∀ q, w' 103 q = w 103 q) (hJ : JM n p A w) : JM n p A w' := by
  have e0 : ∀ q, (q = 45 ∨ q = 46 ∨ q = 47) → zg w' 79 q = zg w 79 q := fun q hq => by simp only [zg]; rw [h q hq]
  have e2 : zg w' 103 = zg w 103 := zg_fn h'
  unfold JM at hJ ⊢
  rw [e2, e0 45 (by omega), e0 46 (by omega), e0 47 (by omega)]
  exact hJ
theorem EW_wr {v v' : zV} (h : ∀ a q, 16 ≤ a → a ≤ 89 → ¬ a = 79 → v' a q = v a q) (e : EW v) : EW v' := by
  have g : ∀ a, 16 ≤ a → a ≤ 89 → ¬ a = 79 → zg v' a = zg v a := fun a h1 h2 h3 => zg_fn fun q => h a q h1 h2 h3
  unfold EW at e ⊢
  rw [g 82 (by decide) (by decide) (by decide), g 16 (by decide) (by decide) (by decide), g 83 (by decide) (by decide) (by decide), g 17 (by decide) (by decide) (by decide), g 84 (by decide) (by decide) (by decide), g 18 (by decide) (by decide) (by decide), g 85 (by decide) (by decide) (by decide), g 19 (by decide) (by decide) (by decide), g 86 (by decide) (by decide) (by decide), g 20 (by decide) (by decide) (by decide), g 87 (by decide) (by decide) (by decide), g 21 (by decide) (by decide) (by decide), g 88 (by decide) (by decide) (by decide), g 22 (by decide) (by decide) (by decide), g 89 (by decide) (by decide) (by decide), g 23 (by decide) (by decide) (by decide)]
  exact e
theorem VS_pl {v : zV} {x : zPL} (h : VS v x) (w : WF v) : ∀ s, 0 ≤ s → s < zg v 16 9 → ¬ x.1 s = -1 → 0 ≤ x.2 s ∧ x.2 s < 40 := by
  intro s s0 s1 s2
  obtain ⟨z, z1, z2⟩ := h
  have e16 : zg z 16 = zg v 16 := zg_fn fun q => z1 16 q (by omega) (by omega) (by omega)
  have := z2.lt (WF_w (fun c k h1 h2 => z1 c k (by omega) (by omega) (by omega)) w) s0 (by rw [e16]; exact s1) s2
  omega
theorem SX_al {v : zV} {y : zPL} {n p : Int} (hV : SV v n p) (hy : VS v y) (ha : ∀ s, 0 ≤ s → s < zg v 16 9 → ¬ y.1 s = -1) (c : Int → Int) : ∀ i, 0 ≤ i → i ≤ n → ∀ s, 0 ≤ s → s < zg v 16 9 → ¬ (SX v y c i).1 s = -1 := by
  refine zup ?_ ?_
  · intro _; exact ha
  · intro i i0 ih hi s s0 s1
    have e := ih (by omega) s s0 s1
    rw [SX_succ i0]
    split
    · exact e
    · rename_i ft
      have b0 := hV.1.1
      have g1 := hV.2.2.1 i i0 (by omega)
      have g2 := hV.fr i i0 (by omega)
      have cn := cnt_rg (P := (SX v y c i).1) (p := lgF v i) (n := zg v 16 9) hV.1.2.1.1
      by_cases h0 : 0 ≤ min (wantC v (zg v 39 i) (c i)) (cnt (SX v y c i).1 (lgF v i) (zg v 16 9))
      · rcases (stN_all (k := zg v 39 i) (SX_VS hV hy c i i0 (by omega)) hV.1.wf (f := lgF v i) (t := zg v 40 i) (by omega) (by omega) (by omega) (by omega) ft _ h0 (by omega)).1 s with z | z
        · rw [z]; exact e
        · rw [z.2]; omega
      · rw [show stN v (zg v 39 i) (lgF v i) (zg v 40 i) (SX v y c i) (min (wantC v (zg v 39 i) (c i)) (cnt (SX v y c i).1 (lgF v i) (zg v 16 9))) = SX v y c i by
          unfold stN zfo
          rw [show (min (wantC v (zg v 39 i) (c i)) (cnt (SX v y c i).1 (lgF v i) (zg v 16 9))).toNat = 0 by omega]
          rfl]
        exact e
/-- the trial row behind k legs -/
def LM (v : zV) (y : zPL) (c : Int → Int) (w0 : zV) (k : Int) (w : zV) : Prop :=
  (∀ a q, ¬ a = 94 → ¬ a = 96 → w a q = w0 a q) ∧ (∀ s, 0 ≤ s → s < zg v 16 9 → zg w 94 s = (SX v y c k).1 s ∧ zg w 94 (40 + s) = (SX v y c k).2 s) ∧
  (∀ s, 0 ≤ s → s < zg v 16 10 → zg w 94 (166 + s) = spC v k s) ∧ ∀ p, 0 ≤ p → p < zg v 16 8 → 0 ≤ zg w 94 (160 + p) ∧ zg w 94 (160 + p) ≤ 99
section
variable {sc : Nat × (Nat → Int32)} {d : Nat} {v v0 w w0 : zV} {u : zU} {y x : zPL} {n p i wh pa : Int} {c : Int → Int} {A : zBA × Int}
theorem m194_leaf (hd : 4 ≤ d) (hV : SV v n p) (hR : SR v y n) (hp : (wh = 0 ∧ pa = p ∧ 0 ≤ p) ∨ (wh = 1 ∧ p = -1)) (hA : 0 ≤ A.2 ∧ A.2 ≤ 100000) (hI : SM v n p n c A w0) : zEv sc 194 d 0 [.ref 79, .int (zI n), .int (zI wh), .int (zI pa), zJ, zJ, zJ] [] (zmk w0 u) 0 0 (zPv fun w' u' => SM v n p n c (bad2 A (vl2 v y p c)) w' ∧ u = u') := by
  obtain ⟨hB, ⟨hn, n0, n4⟩, hl, hs, hr, hq, hpp⟩ := id hV
  obtain ⟨hE, hy, hya, r1, r2, r3, r4, r5, r6, r7, r8⟩ := id hR
  obtain ⟨h1, h2, h3, h4⟩ := hI
  have b0 := hB.1
  have b1 := hB.2.1
  have b2 := hB.2.2.1
  have g : ∀ w, LM v y c w0 n w → ∀ a q, ¬ (a = 79 ∧ (q = 45 ∨ q = 46 ∨ q = 47)) → ¬ a = 94 → ¬ a = 96 → ¬ a = 102 → ¬ a = 103 → ¬ a = 108 → w a q = v a q := fun w h a q k1 k2 k3 k4 k5 k6 => by rw [h.1 a q k2 k3, h1 a q k1 k2 k3 k4 k5 k6]
  -- behind the legs
  have fin : ∀ w a4 a5 a6, LM v y c w0 n w → zEv sc 194 d 100 [.ref 79, .int (zI n), .int (zI wh), .int (zI pa), a4, a5, a6] [] (zmk w u) 0 0 (zPv fun w' u' => SM v n p n c (bad2 A (vl2 v y p c)) w' ∧ u = u') := by
    intro w a4 a5 a6 hL
    have gw := g w hL
    obtain ⟨l1, l2, l3, l4⟩ := hL
    have eW : SW v w := fun a q h => gw a q (by omega) (by omega) (by omega) (by omega) (by omega) (by omega)
    have wB : WB w := WB_w (fun a q h1 h2 => eW a q (by omega)) hB
    have wE : EW w := EW_wr (fun a q h1 h2 h3 => gw a q (by omega) (by omega) (by omega) (by omega) (by omega) (by omega)) hE
    have e16 : zg w 16 = zg v 16 := eW.g (by omega)
    have e28 : zg w 28 = zg v 28 := eW.g (by omega)
    have hJ : JM n p A w := JM_w (fun q hq => l1 79 q (by omega) (by omega)) (fun q => l1 103 q (by omega) (by omega)) h4
    have e102 : ∀ j, 0 ≤ j → j < n → zg w 102 j = c j ∧ 0 ≤ c j ∧ c j ≤ mst v j := fun j j0 j1 => by
      rw [show zg w 102 = zg w0 102 from zg_fn fun q => l1 102 q (by omega) (by omega)]
      exact h2 j j0 j1
    have done : ∀ w', (∀ a q, ¬ (a = 79 ∧ (q = 45 ∨ q = 46 ∨ q = 47)) → ¬ a = 103 → w' a q = w a q) → JM n p (bad2 A (vl2 v y p c)) w' → SM v n p n c (bad2 A (vl2 v y p c)) w' := by
      intro w' q1 q2
      refine ⟨fun a q k1 k2 k3 k4 k5 k6 => by rw [q1 a q k1 k5, gw a q k1 k2 k3 k4 k5 k6], fun j j0 j1 => ?_, fun s s0 s1 => ?_, q2⟩
      · rw [show zg w' 102 = zg w 102 from zg_fn fun q => q1 102 q (by omega) (by omega)]
        exact e102 j j0 j1
      · rw [show zg w' 108 = zg w0 108 from zg_fn fun q => by rw [q1 108 q (by omega) (by omega), l1 108 q (by omega) (by omega)]]
        exact h3 s s0 s1
    rcases hp with ⟨e1, e2, e3⟩ | ⟨e1, e2⟩
    · subst e1 e2
      have ev : vl2 v y pa c = (if 0 < mdX w (SX v y c n) pa then none else some (zsg (mdX w (SX v y c n)) (zg w 16 8), zsg c n, c), if (if 0 < mdX w (SX v y c n) pa then none else some (zsg (mdX w (SX v y c n)) (zg w 16 8), zsg c n, c) : zBA) = none then 0 else 1) := by
        rw [mdX_w eW, e16]
        unfold vl2 vlX
        rw [if_neg (by omega), hn]
      have h196 := m196 (sc := sc) (d := d - 1) (u := u) (c := c) (w := w) (x := SX v y c n) (p := pa) (n := n) (A := A) (by omega) wE wB (fun s s0 s1 => (l2 s s0 (by rw [← e16]; exact s1)).1) e3 (by rw [e16]; omega) hJ (by simp only [zg]; rw [gw 79 32 (by omega) (by omega) (by omega) (by omega) (by omega) (by omega)]; exact r1) n0 n4 (fun j j0 j1 => by have := e102 j j0 j1; have := hV.ms j j0 j1; omega)
      rw [← ev] at h196
      refine e_il2 o194_100 (e_if_ne o194_101 112 rfl (by first | exact zg_rg _ _ _ | exact zt_rg _ | omega) (fun hb101 => ?_) (fun hb101 => ?_))
      · omega
      · refine e_al0 o194_104 (e_il3 o194_105 (e_Vv1 o194_106 K194 K196 rfl ⟨rfl, rfl⟩ (zrcv_I L79 rfl) (by omega) rfl h196 ?_))
        rintro w' u' ⟨q1, q2, rfl⟩
        refine e_goto o194_109 123 rfl ?_
        refine e_rV o194_123 K194 rfl rfl ?_
        exact ⟨done w' q2 q1, rfl⟩
    · subst e1 e2
      have ev : vlX v y (-1) c = if fitX w (SX v y c n) (zg w 28 10) = true then some (0, 0, c) else none := by
        unfold vlX; rw [if_pos rfl, hn, fitX_w eW, e28]
      have y79 : zg w 79 33 = zg w 28 10 := by
        rw [e28, ← r2]
        simp only [zg]
        rw [gw 79 33 (by omega) (by omega) (by omega) (by omega) (by omega) (by omega)]
      have g0 : ∀ a, (a = 105 ∨ a = 106 ∨ a = 107) → zg w a = zg v a := fun a ha => zg_fn fun q => gw a q (by omega) (by omega) (by omega) (by omega) (by omega) (by omega)
      have h197 := m197 (sc := sc) (d := d - 1) (u := u) (w := w) (x := SX v y c n) (by omega) wE wB (fun s s0 s1 => (l2 s s0 (by rw [← e16]; exact s1)).1) y79 (by rw [e28]; exact hr) (by rw [e28, g0 105 (by omega), g0 106 (by omega), g0 107 (by omega), eW.g (a := 41) (by omega), eW.g (a := 42) (by omega), eW.g (a := 43) (by omega)]; exact r5)
      have okF : fitX w (SX v y c n) (zg w 28 10) = true → bad2 A (vl2 v y (-1) c) = bad2 A (some (0, 0, c), 1) := by
        intro e
        unfold vl2
        rw [ev, if_pos e]
        rfl
      have noF : ¬ fitX w (SX v y c n) (zg w 28 10) = true → bad2 A (vl2 v y (-1) c) = A := by
        intro e
        unfold vl2
        rw [ev, if_neg e]
        exact bad2_r A
      refine e_il2 o194_100 (e_if_ne o194_101 112 rfl (by first | exact zg_rg _ _ _ | exact zt_rg _ | omega) (fun hb101 => ?_) (fun hb101 => ?_))
      · refine e_al0 o194_112 (e_Vi0 o194_113 K194 K197 rfl ⟨rfl, rfl⟩ (zrcv_I L79 rfl) (by omega) rfl h197 ?_)
        rintro _ _ _ ⟨rfl, rfl, rfl⟩
        refine e_bz_eq o194_116 123 rfl (fun hb116 => ?_) (fun hb116 => ?_)
        · refine e_rV o194_123 K194 rfl rfl ?_
          first | exact ⟨done w' q2 (by rw [okF hb116]; exact q1), rfl⟩ | exact ⟨done w (fun _ _ _ _ => rfl) (by rw [noF hb116]; exact hJ), rfl⟩
        · refine e_al0 o194_119 (e_Vv0 o194_120 K194 K198 rfl ⟨rfl, rfl⟩ (zrcv_I L79 rfl) (by omega) rfl (m198 (c := c) (by omega) hJ hA n4 (fun j j0 j1 => (e102 j j0 j1).1)) ?_)
          rintro w' u' ⟨q1, q2, rfl⟩
          refine e_rV o194_123 K194 rfl rfl ?_
          first | exact ⟨done w' q2 (by rw [okF hb116]; exact q1), rfl⟩ | exact ⟨done w (fun _ _ _ _ => rfl) (by rw [noF hb116]; exact hJ), rfl⟩
      · omega
  have e132 : ∀ w k, LM v y c w0 k w → ∀ a q, ¬ (a = 79 ∧ (q = 45 ∨ q = 46 ∨ q = 47)) → ¬ a = 94 → ¬ a = 96 → ¬ a = 102 → ¬ a = 103 → ¬ a = 108 → w a q = v a q := fun w k h a q k1 k2 k3 k4 k5 k6 => by rw [h.1 a q k2 k3, h1 a q k1 k2 k3 k4 k5 k6]
  have loop : ∀ k, 0 ≤ k → k ≤ n → ∀ w a5 a6, LM v y c w0 k w → zEv sc 194 d 22 [.ref 79, .int (zI n), .int (zI wh), .int (zI pa), .int (zI k), a5, a6] [] (zmk w u) 0 0 (zPv fun w' u' => SM v n p n c (bad2 A (vl2 v y p c)) w' ∧ u = u') := by
    refine zloop ?_
    intro k k0 k1 ih w a5 a6 hL
    have gw := e132 w k hL
    have hL' := hL
    obtain ⟨l1, l2, l3, l4⟩ := hL'
    have eW : SW v w := fun a q h => gw a q (by omega) (by omega) (by omega) (by omega) (by omega) (by omega)
    have wB : WB w := WB_w (fun a q h1 h2 => eW a q (by omega)) hB
    have wE : EW w := EW_wr (fun a q h1 h2 h3 => gw a q (by omega) (by omega) (by omega) (by omega) (by omega) (by omega)) hE
    have e16 : zg w 16 = zg v 16 := eW.g (by omega)
    have e22 : zg w 22 = zg v 22 := eW.g (by omega)
    have g0 : ∀ a, (a = 100 ∨ a = 101) → zg w a = zg v a := fun a ha => zg_fn fun q => gw a q (by omega) (by omega) (by omega) (by omega) (by omega) (by omega)
    have z32 : zg w 79 32 = n := by simp only [zg]; rw [gw 79 32 (by omega) (by omega) (by omega) (by omega) (by omega) (by omega)]; exact r1
    have z30 : zg w 79 30 = zg v 79 30 := by simp only [zg]; rw [gw 79 30 (by omega) (by omega) (by omega) (by omega) (by omega) (by omega)]
    have e102 : zg w 102 = zg w0 102 := zg_fn fun q => l1 102 q (by omega) (by omega)
    by_cases hk : k < n
    · have lk := hl k k0 hk
      have fk := hV.fr k k0 hk
      have rk := r4 k k0 hk
      have z100 : zg w 100 k = zg v 39 k := by rw [g0 100 (by omega)]; exact rk.1
      have z101 : zg w 101 k = zg v 40 k := by rw [g0 101 (by omega)]; exact rk.2
      have z166 : zg w 94 (166 + zg v 39 k) = lgF v k := l3 _ lk.1.1 lk.1.2
      have c102 := h2 k k0 hk
      rw [← e102] at c102
      have hx := SX_VS hV hy c k k0 (by omega)
      have hal := SX_al hV hy hya c k k0 (by omega)
      have skip : lgF v k = zg v 40 k → LM v y c w0 (k + 1) w := by
        intro ft
        refine ⟨l1, ?_, fun s s0 s1 => ?_, l4⟩
        · rw [SX_succ k0, if_pos ft]; exact l2
        · rw [spC_succ k0]
          by_cases e : zg v 39 k = s
          · rw [if_pos e, ← ft, l3 s s0 s1, ← e]; rfl
          · rw [if_neg e]; exact l3 s s0 s1
      have hgo : ¬ lgF v k = zg v 40 k → zEv sc 178 (d - 1) 0 [.ref 79, .ref 94, .int (zI (zg v 39 k)), .int (zI (zg v 40 k)), .int (zI (c k)), .int (zI (zg v 79 30 + k)), zJ, zJ, zJ, zJ, zJ] [] (zmk w u) 0 0 (zPi fun r v' u' => LM v y c w0 (k + 1) v' ∧ u = u') := by
        intro ft
        have em : mst v k = zg v 22 (zg v 39 k) := by unfold mst; rw [if_neg ft]
        have eN : stN w = stN v := by funext k f t x m; unfold stN; rw [stp_w fun a q h1 h2 => eW a q (by omega)]
        have eWa : wantC w = wantC v := by funext k y; unfold wantC; rw [e22, eW.g (a := 21) (by omega)]
        have m := m178 (sc := sc) (d := d - 1) (u := u) (v0 := w) (w := 94) (k := zg v 39 k) (t := zg v 40 k) (c := c k) (y := zg v 79 30 + k) (f := lgF v k) (x := SX v y c k) (by omega) L94 (by omega) (by omega) wE wB (VS_w3 (fun a q h1 h2 => eW a q (by omega)) hx) (by rw [e16]; exact fun s s0 s1 => ⟨(l2 s s0 s1).1, (l2 s s0 s1).2, VS_pl hx hB.wf s s0 s1 (hal s s0 s1)⟩) (by omega) (by rw [e16]; omega) (by omega) (by omega) z166 (by omega) (by omega) ft c102.2.1 (by rw [e22]; omega) (by rw [e16]; exact l4) rfl
        refine zEv_mono m ?_
        rintro _ _ ⟨r, v', u', rfl, rfl, _, hG, rfl⟩
        refine ⟨r, v', u, rfl, rfl, ?_, rfl⟩
        obtain ⟨k1, k2, k3, k4, k5⟩ := hG
        rw [eN, e16, eWa] at k2
        rw [eN, e16] at k3
        refine ⟨fun a q g1 g2 => by rw [k1 a q g2 g1, l1 a q g1 g2], ?_, fun s s0 s1 => ?_, fun q q0 q1 => ?_⟩
        · rw [SX_succ k0, if_neg ft]
          exact fun s s0 s1 => ⟨(k2 s s0 s1).1, (k2 s s0 s1).2.1⟩
        · rw [k4 s s0 (by omega), spC_succ k0]
          by_cases e : s = zg v 39 k
          · rw [if_pos e, if_pos e.symm]
          · rw [if_neg e, if_neg (fun z => e z.symm)]; exact l3 s s0 s1
        · rw [k3 q q0 q1]
          have o := l4 q q0 q1
          unfold prF
          split
          · omega
          · split <;> omega
      refine e_il4 o194_22 (e_al0 o194_24 (e_gI o194_25 L79 rfl 32 rfl ?_))
      rw [z32]
      refine e_ic_ge o194_28 100 rfl (by first | exact zg_rg _ _ _ | exact zt_rg _ | omega) (by first | exact zg_rg _ _ _ | exact zt_rg _ | omega) (fun hb28 => ?_) (fun hb28 => ?_)
      · omega
      · refine e_al0 o194_31 (e_gR o194_32 L79 rfl rfl (e_sip o194_35 rfl (e_al0 o194_38 (e_gR o194_39 L79 rfl rfl (e_il4 o194_42 (e_ial o194_44 L100 (by omega) (by omega) ?_))))))
        rw [z100]
        refine e_add o194_45 (e_ial o194_46 L94 (by omega) (by omega) (e_al0 o194_47 (e_gR o194_48 L79 rfl rfl (e_il4 o194_51 (e_ial o194_53 L101 (by omega) (by omega) ?_)))))
        rw [z101, z166]
        refine e_ic_eq o194_54 94 rfl (by first | exact zg_rg _ _ _ | exact zt_rg _ | omega) (by first | exact zg_rg _ _ _ | exact zt_rg _ | omega) (fun hb54 => ?_) (fun hb54 => ?_)
        · refine e_inc4 o194_94 (e_goto o194_97 22 rfl ?_)
          first | exact ih hk _ _ _ hL2 | exact ih hk _ _ _ (skip hb54)
        · refine e_al0 o194_57 (e_al0 o194_58 (e_gR o194_59 L79 rfl rfl (e_al0 o194_62 (e_gR o194_63 L79 rfl rfl (e_il4 o194_66 (e_ial o194_68 L100 (by omega) (by omega) (e_al0 o194_69 (e_gR o194_70 L79 rfl rfl (e_il4 o194_73 (e_ial o194_75 L101 (by omega) (by omega) (e_al0 o194_76 (e_gR o194_77 L79 rfl rfl (e_il4 o194_80 (e_ial o194_82 L102 (by omega) (by omega) (e_al0 o194_83 (e_gI o194_84 L79 rfl 30 rfl (e_il4 o194_87 (e_add o194_89 ?_))))))))))))))))))
          rw [z100, z101, z30, c102.1]
          refine e_Vi5 o194_90 K194 K178 rfl ⟨rfl, rfl⟩ (zrcv_I L79 rfl) (by omega) rfl (hgo hb54) ?_
          rintro _ w' u' ⟨hL2, rfl⟩
          refine e_pop o194_93 (e_inc4 o194_94 (e_goto o194_97 22 rfl ?_))
          first | exact ih hk _ _ _ hL2 | exact ih hk _ _ _ (skip hb54)
    · have ek : k = n := by omega
      subst ek
      refine e_il4 o194_22 (e_al0 o194_24 (e_gI o194_25 L79 rfl 32 rfl ?_))
      rw [z32]
      refine e_ic_ge o194_28 100 rfl (by first | exact zg_rg _ _ _ | exact zt_rg _ | omega) (by first | exact zg_rg _ _ _ | exact zt_rg _ | omega) (fun hb28 => ?_) (fun hb28 => ?_)
      · exact fin w _ _ _ hL
      · omega
  have z32 : zg w0 79 32 = n := by simp only [zg]; rw [h1 79 32 (by omega) (by omega) (by omega) (by omega) (by omega) (by omega)]; exact r1
  have e93 : zg w0 93 = zg v 93 := zg_fn fun q => h1 93 q (by omega) (by omega) (by omega) (by omega) (by omega) (by omega)
  have start : LM v y c w0 0 (zcp w0 93 94 0 0 171) := by
    have k : ∀ q, 0 ≤ q → q < 171 → zg (zcp w0 93 94 0 0 171) 94 q = zg v 93 q := fun q q0 q1 => by rw [zcp_y (by omega) (by omega), show 0 + (q - 0) = q by omega, e93]
    refine ⟨fun a q g1 g2 => by simp only [zcp]; rw [if_neg (fun e => g1 e.1)], fun s s0 s1 => ?_, fun s s0 s1 => ?_, fun q q0 q1 => ?_⟩
    · rw [k _ (by omega) (by omega), k _ (by omega) (by omega)]; exact r6 s s0 s1
    · rw [k _ (by omega) (by omega)]; exact r7 s s0 s1
    · rw [k _ (by omega) (by omega)]; exact r8 q q0 q1
  refine e_il1 o194_0 (e_al0 o194_1 (e_gI o194_2 L79 rfl 32 rfl ?_))
  rw [z32]
  refine e_ic_ne o194_5 124 rfl (by first | exact zg_rg _ _ _ | exact zt_rg _ | omega) (by first | exact zg_rg _ _ _ | exact zt_rg _ | omega) (fun hb5 => ?_) (fun hb5 => ?_)
  · omega
  · refine e_al0 o194_8 (e_gR o194_9 L79 rfl rfl (e_al0 o194_12 (e_gR o194_13 L79 rfl rfl (e_Sv2 o194_16 K194 K195 rfl ⟨rfl, rfl⟩ (by omega) rfl (m195 (n := 171) (m := 171) L94 L93 (by omega) (by decide)) ?_))))
    rintro _ _ ⟨rfl, rfl⟩
    refine e_ico o194_19 (e_is4 o194_20 ?_)
    exact loop 0 (by omega) n0 _ _ _ start
end
