/-! floods and worlds in the law -/
section
variable {sc : Nat × (Nat → Int32)} {d : Nat} {v : zV} {u : zU} {kc ks : Nat} {Q : zPost} {i : Int} {x5 x6 : Value}
theorem m205_0 {p f : Int} {s : Int32} {Q : zPost} (hd : 3 ≤ d) (hE : EW v) (hB : WB v) (hp : -2147483648 ≤ p ∧ p < 2147483648) (hf : -2147483648 ≤ f ∧ f < 2147483648) (k1 : ¬ (0 ≤ p ∧ p < zg v 16 8) → ∀ x, x = zI 0 → Q (.inl (some (.int x))) (zmk (zu (zu v 79 2 (zI 0)) 79 2 (zI 1)) u)) (k2 : (0 ≤ p ∧ p < zg v 16 8) → ¬ (0 ≤ f ∧ f ≤ 60) → ∀ x, x = zI 0 → Q (.inl (some (.int x))) (zmk (zu (zu v 79 2 (zI 0)) 79 2 (zI 2)) u)) (k3 : (0 ≤ p ∧ p < zg v 16 8) → (0 ≤ f ∧ f ≤ 60) → zEv sc 205 d 35 [.ref 79, .int (zI p), .int s, .int (zI f), zJ, zJ, zJ, zJ, zJ] [] (zmk (zu v 79 2 (zI 0)) u) 0 0 Q) : zEv sc 205 d 0 [.ref 79, .int (zI p), .int s, .int (zI f), zJ, zJ, zJ, zJ, zJ] [] (zmk v u) 0 0 Q := by
  have e0 := hE.1
  have b0 := hB.1
  have zz : ∀ a, ¬ a = 79 → zg (zu v 79 2 (zI 0)) a = zg v a := fun a h => funext fun k => zg_na h
  by_cases ok : 0 ≤ p ∧ p < zg v 16 8
  · by_cases ok2 : 0 ≤ f ∧ f ≤ 60
    · skip
      refine e_al0 o205_0 (e_ico o205_1 (e_pI o205_2 L79 rfl rfl rfl rfl 2 rfl (e_al0 o205_5 (e_il1 o205_6 (e_Vi1 o205_7 K205 K168 rfl ⟨rfl, rfl⟩ (zrcv_I L79 rfl) (by omega) rfl (m168 (by omega) hp (by rw [zz 82 (by decide)]; omega)) ?_)))))
      rintro _ _ _ ⟨rfl, rfl, rfl⟩
      rw [zz 82 (by decide), e0]
      refine e_bz_ne o205_10 19 rfl (fun hb10 => ?_) (fun hb10 => ?_)
      · refine e_il3 o205_19 (e_ico o205_20 (e_bip o205_21 rfl (e_Si3 o205_23 K205 K169 rfl ⟨rfl, rfl⟩ (by omega) rfl (m169 hf (by omega) (by omega)) ?_)))
        rintro _ _ _ ⟨rfl, rfl, rfl⟩
        refine e_bz_ne o205_26 35 rfl (fun hb26 => ?_) (fun hb26 => ?_)
        · exact k3 ok ok2
        · omega
      · omega
    · refine zEv_mono (Q := zPi fun y w t => zI 0 = y ∧ zu (zu v 79 2 (zI 0)) 79 2 (zI 2) = w ∧ u = t) ?_ ?_
      · skip
        refine e_al0 o205_0 (e_ico o205_1 (e_pI o205_2 L79 rfl rfl rfl rfl 2 rfl (e_al0 o205_5 (e_il1 o205_6 (e_Vi1 o205_7 K205 K168 rfl ⟨rfl, rfl⟩ (zrcv_I L79 rfl) (by omega) rfl (m168 (by omega) hp (by rw [zz 82 (by decide)]; omega)) ?_)))))
        rintro _ _ _ ⟨rfl, rfl, rfl⟩
        rw [zz 82 (by decide), e0]
        refine e_bz_ne o205_10 19 rfl (fun hb10 => ?_) (fun hb10 => ?_)
        · refine e_il3 o205_19 (e_ico o205_20 (e_bip o205_21 rfl (e_Si3 o205_23 K205 K169 rfl ⟨rfl, rfl⟩ (by omega) rfl (m169 hf (by omega) (by omega)) ?_)))
          rintro _ _ _ ⟨rfl, rfl, rfl⟩
          refine e_bz_ne o205_26 35 rfl (fun hb26 => ?_) (fun hb26 => ?_)
          · omega
          · refine e_al0 o205_29 (e_ico o205_30 (e_Vi1 o205_31 K205 K133 rfl ⟨rfl, rfl⟩ (zrcv_I L79 rfl) (by omega) rfl m133 ?_))
            rintro _ _ _ ⟨rfl, rfl, rfl⟩
            refine e_rI o205_34 K205 rfl rfl ?_
            exact ⟨rfl, rfl, rfl⟩
        · omega
      · rintro _ _ ⟨b, w', t', rfl, rfl, rfl, rfl, rfl⟩
        exact k2 ok ok2 _ rfl
  · refine zEv_mono (Q := zPi fun y w t => zI 0 = y ∧ zu (zu v 79 2 (zI 0)) 79 2 (zI 1) = w ∧ u = t) ?_ ?_
    · skip
      refine e_al0 o205_0 (e_ico o205_1 (e_pI o205_2 L79 rfl rfl rfl rfl 2 rfl (e_al0 o205_5 (e_il1 o205_6 (e_Vi1 o205_7 K205 K168 rfl ⟨rfl, rfl⟩ (zrcv_I L79 rfl) (by omega) rfl (m168 (by omega) hp (by rw [zz 82 (by decide)]; omega)) ?_)))))
      rintro _ _ _ ⟨rfl, rfl, rfl⟩
      rw [zz 82 (by decide), e0]
      refine e_bz_ne o205_10 19 rfl (fun hb10 => ?_) (fun hb10 => ?_)
      · omega
      · refine e_al0 o205_13 (e_ico o205_14 (e_Vi1 o205_15 K205 K133 rfl ⟨rfl, rfl⟩ (zrcv_I L79 rfl) (by omega) rfl m133 ?_))
        rintro _ _ _ ⟨rfl, rfl, rfl⟩
        refine e_rI o205_18 K205 rfl rfl ?_
        exact ⟨rfl, rfl, rfl⟩
    · rintro _ _ ⟨b, w', t', rfl, rfl, rfl, rfl, rfl⟩
      exact k1 ok _ rfl
/-- floods keep what binds the two sides -/
theorem RS_flood {w W : zV} {u' : zU} {X : Int → zPL} {L' : Int → Int} (hB : WB v) (hX : RSx v u X) (hw : ∀ a q, ¬ (a = 31) → ¬ (a = 33 ∧ q = 1) → ¬ (a = 79 ∧ (q = 2 ∨ q = 31 ∨ q = 48)) → ¬ (a = 93 ∧ 40 ≤ q ∧ q < 80) → W a q = v a q) (hf : zg W 33 1 = zg v 33 0) (hm : zg W 79 31 = zg v 33 0) (hC : CS W (X (zg v 33 0)).1 L') (hL : ∀ s, 0 ≤ s → s < zg v 16 9 → zg W 93 (40 + s) = L' s) (hu : ∀ k, 0 ≤ k → k < 30 → u' 35 k = u 35 k) : RSx W u' (fun _ => ((X (zg v 33 0)).1, L')) := by
  have hN := NOW_of hB hX
  obtain ⟨a1, a2, a3, a4, a5, a6, a7, a8, a9, a10⟩ := hX
  have b0 := hB.1
  have b1 := hB.2.1
  have b2 := hB.2.2.1
  have z : ∀ a, ((16 ≤ a ∧ a ≤ 23) ∨ a = 28 ∨ (34 ≤ a ∧ a ≤ 44) ∨ a = 91 ∨ a = 95 ∨ a = 99 ∨ a = 100 ∨ a = 101 ∨ (105 ≤ a ∧ a ≤ 107)) → zg W a = zg v a := fun a ha => zg_fn fun q => hw a q (by omega) (by omega) (by omega) (by omega)
  have z0 : zg W 33 0 = zg v 33 0 := by simp only [zg]; rw [hw 33 0 (by omega) (by omega) (by omega) (by omega)]
  have z93 : ∀ q, ¬ (40 ≤ q ∧ q < 80) → W 93 q = v 93 q := fun q hq => hw 93 q (by omega) (by omega) (by omega) (by omega)
  have m : ∀ q, (q = 30 ∨ q = 32 ∨ q = 33) → zg W 79 q = zg v 79 q := fun q hq => by simp only [zg]; rw [hw 79 q (by omega) (by omega) (by omega) (by omega)]
  have hr : ∀ k q, 0 ≤ k → k ≤ zg v 33 0 → 0 ≤ q → q < 171 → ¬ (40 ≤ q ∧ q < 80) → hrow W k q = hrow v k q := by
    intro k q k0 k1 q0 q1 q2
    unfold hrow
    rw [z0]
    by_cases e : k = zg v 33 0
    · rw [if_pos e, if_pos e, z93 q q2]
    · rw [if_neg e, if_neg e, hw 95 _ (by omega) (by omega) (by omega) (by omega)]
  have bt : ∀ s j, 0 ≤ j → j < zg v 33 0 → bitC u' s j = bitC u s j := by
    intro s j j0 j1
    unfold bitC
    rw [hu j j0 (by omega)]
  have pt : ∀ s k, 0 ≤ k → k ≤ zg v 33 0 → ptC W u' s k = ptC v u s k ∧ lst (bitC u' s) k = lst (bitC u s) k ∧ btsC W u' s k = btsC v u s k := by
    intro s k k0 k1
    refine ptC_ext (by rw [z 19 (by omega)]) k k0 (fun j j0 j1 => ⟨bt s j j0 (by omega), by rw [z 34 (by omega)]⟩)
  refine ⟨?_, ?_, ?_, ?_, ?_, ?_, ?_, ?_, ?_, ?_⟩
  · rw [z0, hf, hm, m 30 (by omega)]
    exact ⟨a1.1, a1.2.1, a1.2.2.1, a1.1, Int.le_refl _, rfl⟩
  · exact hC
  · rw [z0, hf, z 16 (by omega)]
    intro k k0 k1
    have ek : k = zg v 33 0 := by omega
    subst ek
    refine ⟨⟨W, fun _ _ _ _ _ => rfl, hC⟩, fun s s0 s1 => ?_⟩
    have h1 : hrow W (zg v 33 0) s = W 93 s := by unfold hrow; rw [z0, if_pos rfl]
    have h2 : hrow W (zg v 33 0) (40 + s) = W 93 (40 + s) := by unfold hrow; rw [z0, if_pos rfl]
    rw [h1, h2, z93 s (by omega)]
    exact ⟨(hN.rows s s0 s1).1, hL s s0 s1⟩
  · rw [z0, hf]
    intro k k0 k1
    omega
  · rw [z0, z 16 (by omega)]
    intro k k0 k1
    have el : ∀ i, lg W k i = lg v k i := fun i => by unfold lg; rw [z 34 (by omega)]
    rw [el, el, el, el]
    obtain ⟨p1, p2, p3, p4, p5, p6⟩ := a5 k k0 k1
    refine ⟨p1, p2, p3, p4, p5, fun i i0 i1 => ?_⟩
    rw [hw 99 _ (by omega) (by omega) (by omega) (by omega), hw 34 _ (by omega) (by omega) (by omega) (by omega)]
    exact p6 i i0 i1
  · rw [z0, z 16 (by omega)]
    intro k k0 k1
    obtain ⟨p1, p2⟩ := a6 k k0 k1
    refine ⟨fun s s0 s1 => ?_, fun p p0 p1' => ?_⟩
    · obtain ⟨e1, e2, e3⟩ := pt s k k0 k1
      rw [e1, e2, e3, hr k _ k0 k1 (by omega) (by omega) (by omega), hr k _ k0 k1 (by omega) (by omega) (by omega), hr k _ k0 k1 (by omega) (by omega) (by omega)]
      exact p1 s s0 s1
    · rw [hr k _ k0 k1 (by omega) (by omega) (by omega), z 37 (by omega)]
      exact p2 p p0 p1'
  · rw [z 16 (by omega), z 38 (by omega)]
    intro i i0 i1
    rw [show zg W 93 (166 + i) = zg v 93 (166 + i) by simp only [zg]; rw [z93 _ (by omega)]]
    exact a7 i i0 i1
  · rw [z 28 (by omega), m 32 (by omega), z 16 (by omega), z 39 (by omega), z 40 (by omega), z 100 (by omega), z 101 (by omega)]; exact a8
  · rw [z 28 (by omega), m 33 (by omega), z 16 (by omega), z 41 (by omega), z 42 (by omega), z 43 (by omega), z 105 (by omega), z 106 (by omega), z 107 (by omega)]; exact a9
  · intro i i0 i1
    rw [hw 91 i (by omega) (by omega) (by omega) (by omega), hw 44 i (by omega) (by omega) (by omega) (by omega)]
    exact a10 i i0 i1
theorem CS_L {P L L' : Int → Int} (hB : WB v) (h : CS v P L) (h' : CS v P L') (hp : ∀ s, 0 ≤ s → s < zg v 16 9 → ¬ P s = -1) : ∀ s, 0 ≤ s → s < zg v 16 9 → L' s = L s := by
  intro s s0 s1
  have r := h'.lt hB.wf s0 s1 (hp s s0 s1)
  have e := (h.2.2.1 (P s) r.1 r.2.1 (L' s) r.2.2.1 r.2.2.2.2.1).2.2.2
  rw [r.2.2.2.2.2] at e
  exact e.symm
theorem case21 (hd : 200 ≤ d) (i0 : 0 ≤ i) (i1 : i + 6 ≤ (sc.1 : Int)) (hn : sc.1 ≤ 60000) (hk : kc + 100 ≤ 601024) (hs : ks + 600 ≤ 7293034) (hI : INV v u) (k : ∀ w t y5 y6 a b, INV w t → a ≤ 100 → b ≤ 600 → zEv sc 234 d 1479 [.ref 3000, .ref 0, .ref 79, .ref 118, .int (zI i), y5, y6] [] (zmk w t) (kc + a) (ks + b) Q) : zEv sc 234 d 1375 [.ref 3000, .ref 0, .ref 79, .ref 118, .int (zI i), x5, x6] [] (zmk v u) kc ks Q := by
  obtain ⟨X, hX⟩ := hI.rs
  have hN := NOW_of hI.wb hX
  obtain ⟨p, hp, ep⟩ := sInt (sc.2 (i + 1).toNat)
  obtain ⟨f, hf, ef⟩ := sInt (sc.2 (i + 3).toNat)
  obtain ⟨s, es⟩ : ∃ s, s = sc.2 (i + 2).toNat := ⟨_, rfl⟩
  have b0 := hI.wb.1
  have c0 := hN.c0
  have hl := fun p (p0 : 0 ≤ p) (p1 : p < 6) => hN.cs.len hI.wb.wf p0 p1
  refine seg21 (by omega) i0 i1 hn hk hs (R1 := fun y w t => (∃ x t0, (((0 ≤ p ∧ p < zg v 16 8) ∧ 0 ≤ f ∧ f ≤ 60) ∧ zI (if 0 < zg v 30 p then zg (flV v p f s) 31 (p * 40 + 0) else -1) = x ∧ flV v p f s = w ∧ u = t0) ∧ zul t0 118 0 x.toInt64 = t ∧ zI 0 = y) ∨ (∃ e : Nat, e < 2 ∧ (((¬ (0 ≤ p ∧ p < zg v 16 8) ∧ e = 0) ∨ ((0 ≤ p ∧ p < zg v 16 8) ∧ ¬ (0 ≤ f ∧ f ≤ 60) ∧ e = 1)) ∧ v = w ∧ u = t) ∧ zI (if e = 0 then 1 else 2) = y)) ?_ ?_ (fun w t y5 y6 hw => k w t y5 y6 _ _ hw (by omega) (by omega))
  · rw [ep, ef, ← es]
    exact w225 (by omega) (c128 (by omega) hp hf hI.wb hl)
  · rw [ep, ef, ← es]
    intro y w t hR
    rcases hR with ⟨x, t0, ⟨ok, rfl, hw, rfl⟩, rfl, rfl⟩ | ⟨e, he, ⟨h1, rfl, rfl⟩, rfl⟩
    · obtain ⟨v1, hv1⟩ : ∃ v1, v1 = (if 0 < f then zu v 33 1 (zI (zg v 33 0)) else v) := ⟨_, rfl⟩
      have g1 : ∀ a q, ¬ (a = 33 ∧ q = 1) → v1 a q = v a q := fun a q h => by rw [hv1]; split; exact zu_ne h; rfl
      have e30 : zg v1 30 = zg v 30 := zg_fn fun q => g1 30 q (by omega)
      have hfl : flV v p f s = (if zg v1 30 p < 2 then v1 else (zfo (fun _ x => shs p (zg v1 30 p) x) (v1, s) f).1) := by unfold flV; rw [← hv1, e30]
      have fw : ∀ a q, ¬ a = 31 → ¬ (a = 33 ∧ q = 1) → w a q = v a q := fun a q h1 h2 => by
        rw [← hw, hfl]
        split
        · exact g1 a q h2
        · have e := shs_na (p := p) (n := zg v1 30 p) (v := v1) (s := s) h1 f ok.2.1 q
          have e2 : (zfo (fun _ x => shs p (zg v1 30 p) x) (v1, s) f).1 a q = v1 a q := by have h := congrArg zI e; rw [zI_g, zI_g] at h; exact h
          rw [e2, g1 a q h2]
      have gw : ∀ a, ¬ a = 31 → ¬ a = 33 → zg w a = zg v a := fun a h1 h2 => zg_fn fun q => fw a q h1 (by omega)
      have hEw : EW w := EW_c (fun a q hh => fw a q (by omega) (by omega)) hI.ew
      have hBw : WB w := WB_w3 (fun a q h1 h2 => fw a q (by omega) (by omega)) hI.wb
      refine m205_0 (by omega) hEw hBw hp hf (fun z => absurd (by rw [gw 16 (by decide) (by decide)]; exact ok.1) z) (fun _ z => absurd ok.2 z) (fun _ _ => ?_)
      have hz : ∀ a, ¬ a = 79 → zg (zu w 79 2 (zI 0)) a = zg w a := fun a h => funext fun q => zg_na h
      refine zEv_mono (m205_ok (z := v1) (P := (X (zg v 33 0)).1) (L := (X (zg v 33 0)).2) (s := s) (by omega) (EW_79 hEw) (WB_w3 (fun a q h1 h2 => zu_ne (by omega)) hBw) (fun a q h1 h2 => by rw [zu_ne (by omega), fw a q (by omega) (by omega), g1 a q (by omega)]) (CS_w3 (fun a q h1 h2 => g1 a q (by omega)) (fun a q h1 h2 => g1 a q (by omega)) hX.2.1) (by rw [hz 16 (by decide), hz 93 (by decide), gw 16 (by decide) (by decide), gw 93 (by decide) (by decide)]; exact hN.rows) ok.1.1 (by rw [hz 16 (by decide), gw 16 (by decide) (by decide)]; exact ok.1.2) ok.2.1 ok.2.2 (by rw [zg_ne (by omega), gw 79 (by decide) (by decide), hN.c1]; exact c0)) ?_
      rintro _ _ ⟨b, W, t', rfl, rfl, ⟨s', hF⟩, rfl, rfl⟩
      rw [← hfl, hw] at hF
      obtain ⟨F1, F2, F3, F4, L', F5, F6⟩ := hF
      have base : ∀ a q, ¬ (a = 79 ∧ (q = 2 ∨ q = 31)) → (if 0 < f then zu (zu w 79 2 (zI 0)) 79 31 ((zu w 79 2 (zI 0)) 79 30) else zu w 79 2 (zI 0)) a q = w a q := fun a q h => by split; rw [zu_ne (by omega), zu_ne (by omega)]; exact zu_ne (by omega)
      have b2' : (if 0 < f then zu (zu w 79 2 (zI 0)) 79 31 ((zu w 79 2 (zI 0)) 79 30) else zu w 79 2 (zI 0)) 79 2 = zI 0 := by split; rw [zu_ne (by omega), zu_same]; exact zu_same _ _ _ _
      have n16 : zg (if 0 < f then zu (zu w 79 2 (zI 0)) 79 31 ((zu w 79 2 (zI 0)) 79 30) else zu w 79 2 (zI 0)) 16 9 = zg v 16 9 := by simp only [zg]; rw [base 16 9 (by omega), fw 16 9 (by omega) (by omega)]
      have n40 := hI.wb.2.1
      rw [n16] at F2 F6
      have fW : ∀ a q, ¬ a = 31 → ¬ (a = 33 ∧ q = 1) → ¬ (a = 79 ∧ (q = 2 ∨ q = 31 ∨ q = 48)) → ¬ (a = 93 ∧ 40 ≤ q ∧ q < 80) → W a q = v a q := fun a q h1 h2 h3 h4 => by
        by_cases e : a = 79
        · subst e; rw [F3 q (by omega), base 79 q (by omega), fw 79 q (by omega) (by omega)]
        · by_cases e2 : a = 93
          · subst e2; rw [F2 q (by omega), base 93 q (by omega), fw 93 q (by omega) (by omega)]
          · rw [F1 a q e e2, base a q (by omega), fw a q h1 h2]
      have W2 : W 79 2 = zI 0 := by rw [F3 2 (by omega), b2']
      have lW : ∀ a q, 30 ≤ a → a ≤ 32 → W a q = w a q := fun a q h1 h2 => by rw [F1 a q (by omega) (by omega), base a q (by omega)]
      have hCW : CS W (X (zg v 33 0)).1 L' := CS_w3 (v0 := w) (fun a q h1 h2 => by rw [F1 a q (by omega) (by omega), base a q (by omega)]) lW F5
      have hLW : ∀ s, 0 ≤ s → s < zg v 16 9 → zg W 93 (40 + s) = L' s := F6
      have hu : ∀ a k, ¬ a = 118 → zul u 118 0 (zI (if 0 < zg v 30 p then zg (flV v p f s) 31 (p * 40 + 0) else -1)).toInt64 a k = u a k := fun a k h => by simp only [zul]; rw [if_neg (fun z => h z.1)]
      refine ⟨_, _, _, rfl, rfl, ⟨0, rfl, by omega, W2, fun _ => by rw [← hfl, e30]; simp [zul]⟩, INV_s (fun a q hh => fW a q (by omega) (by omega) (by omega) (by omega)) (fun k => hu 54 k (by omega)) hI ?_⟩
      by_cases h0 : 0 < f
      · refine ⟨_, RS_flood (w := w) hI.wb hX fW ?_ ?_ hCW hLW (fun k _ _ => hu 35 k (by omega))⟩
        · have e : W 33 1 = w 33 1 := by rw [F1 33 1 (by omega) (by omega), base 33 1 (by omega)]
          have e2 : zg w 33 1 = zg v1 33 1 := by
            rw [← hw, hfl]
            split
            · rfl
            · exact shs_na (by decide) f ok.2.1 1
          have e3 : zg W 33 1 = zg w 33 1 := by simp only [zg]; rw [e]
          rw [e3, e2, hv1, if_pos h0, zg_same (zg_rg _ _ _)]
        · have e : W 79 31 = w 79 30 := by rw [F3 31 (by omega), if_pos h0, zu_same, zu_ne (by omega)]
          rw [← hN.c1]
          simp only [zg]
          rw [e, fw 79 30 (by omega) (by omega)]
      · have f00 : f = 0 := by omega
        have ew : w = v := by
          rw [← hw, hfl, hv1, if_neg h0, f00]
          split
          · rfl
          · rfl
        rw [ew] at F5 lW
        have eL := CS_L hI.wb hX.2.1 F5 hN.pn
        refine ⟨X, RSx_w hI.wb ?_ (fun k _ _ => hu 35 k (by omega)) (CS_w3 (v0 := v) (fun a q h1 h2 => fW a q (by omega) (by omega) (by omega) (by omega)) lW hX.2.1) hX⟩
        have W33 : W 33 1 = v 33 1 := by rw [F1 33 1 (by omega) (by omega), base 33 1 (by omega), ew]
        have W31 : W 79 31 = v 79 31 := by rw [F3 31 (by omega), if_neg h0, zu_ne (by omega), ew]
        have gg : ∀ a q, ¬ a = 31 → ¬ (a = 79 ∧ (q = 2 ∨ q = 48)) → ¬ (a = 93 ∧ 40 ≤ q ∧ q < 80) → W a q = v a q := fun a q h1 h2 h3 => by
          by_cases e : a = 33 ∧ q = 1
          · rw [e.1, e.2]; exact W33
          · by_cases e2 : a = 79 ∧ q = 31
            · rw [e2.1, e2.2]; exact W31
            · exact fW a q h1 e (by omega) h3
        -- the row itself: rows past the stones stand as they were
        have r93 : ∀ q, 0 ≤ q → q < 171 → W 93 q = v 93 q := by
          intro q q0 q1
          by_cases e : 40 ≤ q ∧ q < 80
          · have hv0 : (if 0 < f then zu (zu w 79 2 (zI 0)) 79 31 ((zu w 79 2 (zI 0)) 79 30) else zu w 79 2 (zI 0)) = zu w 79 2 (zI 0) := if_neg h0
            by_cases e3 : q - 40 < zg v 16 9
            · have a1 := hLW (q - 40) (by omega) e3
              have a2 := (hN.rows (q - 40) (by omega) e3).2
              rw [eL (q - 40) (by omega) e3, show 40 + (q - 40) = q by omega] at a1
              rw [show 40 + (q - 40) = q by omega] at a2
              rw [← zI_g W 93 q, a1, ← a2, zI_g]
            · rw [F2 q (by omega), base 93 q (by omega), ew]
          · exact gg 93 q (by omega) (by omega) (by omega)
        exact ⟨fun a q g1 g2 => gg a q (by omega) (by omega) (by omega), gg _ _ (by omega) (by omega) (by omega), gg _ _ (by omega) (by omega) (by omega), gg _ _ (by omega) (by omega) (by omega), gg _ _ (by omega) (by omega) (by omega), fun q _ _ => gg _ _ (by omega) (by omega) (by omega), fun q _ _ => gg _ _ (by omega) (by omega) (by omega), fun q _ _ => gg _ _ (by omega) (by omega) (by omega), fun q _ _ => gg _ _ (by omega) (by omega) (by omega), fun q _ _ => gg _ _ (by omega) (by omega) (by omega), fun q _ _ => gg _ _ (by omega) (by omega) (by omega), fun q _ _ => gg _ _ (by omega) (by omega) (by omega), fun q _ _ => gg _ _ (by omega) (by omega) (by omega), fun q _ _ => gg _ _ (by omega) (by omega) (by omega), fun q _ _ => gg _ _ (by omega) (by omega) (by omega), r93, fun q _ _ => gg _ _ (by omega) (by omega) (by omega), fun q _ _ => gg _ _ (by omega) (by omega) (by omega), fun q _ _ => gg _ _ (by omega) (by omega) (by omega), fun q _ _ => gg _ _ (by omega) (by omega) (by omega), fun q _ _ => gg _ _ (by omega) (by omega) (by omega), fun q _ _ => gg _ _ (by omega) (by omega) (by omega), fun q _ _ => gg _ _ (by omega) (by omega) (by omega), fun q _ _ => gg _ _ (by omega) (by omega) (by omega), gg _ _ (by omega) (by omega) (by omega), gg _ _ (by omega) (by omega) (by omega), gg _ _ (by omega) (by omega) (by omega), gg _ _ (by omega) (by omega) (by omega)⟩
    · refine m205_0 (by omega) hI.ew hI.wb hp hf (fun z x hx => ?_) (fun z1 z2 x hx => ?_) (fun z1 z2 => ?_)
      · rcases h1 with ⟨_, rfl⟩ | ⟨g1, _⟩
        · exact ⟨_, _, _, by rw [hx], rfl, ⟨1, rfl, by omega, by rw [zu_same], fun z => absurd z (by omega)⟩, INV_q (fun a q h => by rw [zu_ne h, zu_ne h]) (fun a k h => rfl) hI⟩
        · exact absurd g1 z
      · rcases h1 with ⟨g1, _⟩ | ⟨_, _, rfl⟩
        · exact absurd z1 g1
        · exact ⟨_, _, _, by rw [hx], rfl, ⟨2, rfl, by omega, by rw [zu_same], fun z => absurd z (by omega)⟩, INV_q (fun a q h => by rw [zu_ne h, zu_ne h]) (fun a k h => rfl) hI⟩
      · rcases h1 with ⟨g1, _⟩ | ⟨_, g1, _⟩
        · exact absurd z1 g1
        · exact absurd z2 g1
end
