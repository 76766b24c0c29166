/-! searches, voyages, undoing -/
section
variable {sc : Nat × (Nat → Int32)} {d : Nat} {v : zV} {u : zU} {kc ks : Nat} {Q : zPost} {i : Int} {x5 x6 : Value}
theorem SV_of {X : Int → zPL} {p : Int} (hB : WB v) (h : RSx v u X) (hp : p = -1 ∨ (0 ≤ p ∧ p < zg v 16 8)) : SV v (zg v 28 9) p := by
  obtain ⟨a1, a2, a3, a4, a5, a6, a7, a8, a9, a10⟩ := h
  exact ⟨hB, ⟨rfl, a8.1.1, a8.1.2⟩, fun i i0 i1 => ⟨(a8.2.2 i i0 i1).1.2, (a8.2.2 i i0 i1).2.2⟩, fun i i0 i1 => (a7 i i0 i1).2, a9.1, fun i i0 i1 => ⟨(a9.2.2 i i0 i1).1.2, (a9.2.2 i i0 i1).2.1.2⟩, hp⟩
theorem SR_of {X : Int → zPL} (hB : WB v) (hE : EW v) (h : RSx v u X) : SR v (X (zg v 33 0)) (zg v 28 9) := by
  have hN := NOW_of hB h
  obtain ⟨a1, a2, a3, a4, a5, a6, a7, a8, a9, a10⟩ := h
  exact ⟨hE, ⟨v, fun _ _ _ _ _ => rfl, hN.cs⟩, hN.pn, a8.2.1, a9.2.1, by rw [hN.c1]; exact hN.c0, fun i i0 i1 => ⟨(a8.2.2 i i0 i1).1.1, (a8.2.2 i i0 i1).2.1⟩, fun i i0 i1 => ⟨(a9.2.2 i i0 i1).1.1, (a9.2.2 i i0 i1).2.1.1, (a9.2.2 i i0 i1).2.2.1⟩, hN.rows, fun s s0 s1 => (hN.sh s s0 s1).1, fun p p0 p1 => by have := hN.pr p p0 p1; omega⟩
/-- behind a search of both -/
theorem INV_b {w w2 : zV} {u' : zU} {X : Int → zPL} {p n : Int} {y : zPL} (hI : INV v u) (hX : RSx v u X) (hy : y = X (zg v 33 0)) (hn : n = zg v 28 9) (h1 : BX v y n p w) (h2 : BM w y n p w2) (hm : mR w y n p = bR v y n p) (hu : ∀ a k, ¬ a = 118 → u' a k = u a k) : INV w2 u' := by
  obtain ⟨a1, a2, a3⟩ := h1
  obtain ⟨b1, b2, b3⟩ := h2
  have n4 := hX.2.2.2.2.2.2.2.1.1
  have fr : ∀ a q, ¬ (30 ≤ a ∧ a ≤ 32) → ¬ (66 ≤ a ∧ a ≤ 68) → ¬ (70 ≤ a ∧ a ≤ 78) → ¬ (a = 0 ∧ q = 8) → ¬ (a = 79 ∧ (q = 2 ∨ (44 ≤ q ∧ q ≤ 47))) → ¬ a = 94 → ¬ a = 96 → ¬ (102 ≤ a ∧ a ≤ 104) → ¬ a = 108 → w2 a q = v a q := fun a q g1 g2 g3 g4 g5 g6 g7 g8 g9 => by rw [b1 a q (by omega) g6 g7 (by omega) (by omega) (by omega) g9, a1 a q g1 g2 g3 g4]
  have fs : ∀ a q, (a ≤ 29 ∨ (33 ≤ a ∧ a ≤ 63) ∨ (80 ≤ a ∧ a ≤ 93) ∨ a = 95 ∨ (97 ≤ a ∧ a ≤ 101) ∨ (105 ≤ a ∧ a ≤ 107) ∨ (109 ≤ a ∧ a ≤ 117) ∨ (a = 79 ∧ ¬ (q = 2 ∨ (44 ≤ q ∧ q ≤ 47)))) → ¬ (a = 0 ∧ q = 8) → w2 a q = v a q := fun a q g h0 => fr a q (by omega) (by omega) (by omega) h0 (by omega) (by omega) (by omega) (by omega) (by omega)
  refine ⟨WB_w3 (fun a q g1 g2 => fs a q (by omega) (by omega)) hI.wb, EW_c (fun a q hh => fs a q (by omega) (by omega)) hI.ew, pTF_w (fs _ _ (by omega) (by omega)) (fun q => fs _ _ (by omega) (by omega)) (fs _ _ (by omega) (by omega)) (fun q => fs _ _ (by omega) (by omega)) hI.tf, pTP_w (fs _ _ (by omega) (by omega)) (fun q => fs _ _ (by omega) (by omega)) (fs _ _ (by omega) (by omega)) (fun q => fs _ _ (by omega) (by omega)) hI.tp, pFL_w (fs _ _ (by omega) (by omega)) (fs _ _ (by omega) (by omega)) hI.fl, ⟨X, RSx_w hI.wb (RCw_of fun a q hh => fs a q (by omega) (by omega)) (fun k _ _ => hu 35 k (by omega)) ?_ hX⟩, ?_, pIM_w hI.wb (fs _ _ (by omega) (by omega)) (fs _ _ (by omega) (by omega)) (fun a q hh => fs a q (by omega) (by omega)) (fun q g1 g2 => fs 79 q (by omega) (by omega)) (fun k => hu 54 k (by omega)) hI.im⟩
  · rw [← hy]
    refine CS_w3 (v0 := w) (fun a q g1 g2 => b1 a q (by omega) (by omega) (by omega) (by omega) (by omega) (by omega) (by omega)) (fun a q g1 g2 => b1 a q (by omega) (by omega) (by omega) (by omega) (by omega) (by omega) (by omega)) a2
  · rw [hm] at b3
    have e08 : w2 0 8 = w 0 8 := b1 0 8 (by omega) (by omega) (by omega) (by omega) (by omega) (by omega) (by omega)
    have e78 : ∀ q, w2 78 q = w 78 q := fun q => b1 78 q (by omega) (by omega) (by omega) (by omega) (by omega) (by omega) (by omega)
    rcases a3 with ⟨r1, r2, r3⟩ | ⟨r, r1, r2, r3⟩ <;> rcases b3 with ⟨s1, s2, s3⟩ | ⟨s, s1, s2, s3⟩
    · refine pLD_w (by rw [e08, r3]) (fun q => by rw [e78, r2]) ?_ (fun q => ?_) hI.ld
      · rw [s3, a1 79 44 (by omega) (by omega) (by omega) (by omega)]
      · rw [s2, a1 104 q (by omega) (by omega) (by omega) (by omega)]
    · rw [r1] at s1; exact absurd s1 (by simp)
    · rw [r1] at s1; exact absurd s1 (by simp)
    · rw [r1] at s1
      injection s1 with s1
      subst s1
      have z8 : zg w2 0 8 = n := by rw [← r2]; simp only [zg]; rw [e08]
      refine Or.inr ⟨by omega, by rw [z8]; exact s2, fun j j0 j1 => ?_⟩
      rw [z8] at j1
      rw [s3 j j0 j1, ← r3 j j0 j1]
      simp only [zg]
      rw [e78]
theorem case18 (hd : 200 ≤ d) (i0 : 0 ≤ i) (i1 : i + 6 ≤ (sc.1 : Int)) (hn : sc.1 ≤ 60000) (hk : kc + 100 ≤ 601024) (hs : ks + 600 ≤ 7293034) (hI : INV v u) (k : ∀ w t y5 y6 a b, INV w t → a ≤ 100 → b ≤ 600 → zEv sc 234 d 1479 [.ref 3000, .ref 0, .ref 79, .ref 118, .int (zI i), y5, y6] [] (zmk w t) (kc + a) (ks + b) Q) : zEv sc 234 d 1202 [.ref 3000, .ref 0, .ref 79, .ref 118, .int (zI i), x5, x6] [] (zmk v u) kc ks Q := by
  obtain ⟨X, hX⟩ := hI.rs
  have hV := SV_of (p := -1) hI.wb hX (Or.inl rfl)
  refine seg18 (by omega) i0 i1 hn hk hs (R1 := fun y w t => BX v (X (zg v 33 0)) (zg v 28 9) (-1) w ∧ zI (bR v (X (zg v 33 0)) (zg v 28 9) (-1)).2 = y ∧ u = t) (c102 (by omega) hV hX.2.1) ?_ (fun w t y5 y6 hw => k w t y5 y6 _ _ hw (by omega) (by omega))
  rintro y w t ⟨h1, rfl, rfl⟩
  have a1 := h1.1
  have hW : SW v w := fun a q hh => a1 a q (by omega) (by omega) (by omega) (by omega)
  have hXw : RSx w u X := RSx_w hI.wb (RCw_of fun a q hh => a1 a q (by omega) (by omega) (by omega) (by omega)) (fun _ _ _ => rfl) h1.2.1 hX
  have hBw : WB w := WB_w3 (fun a q g1 g2 => a1 a q (by omega) (by omega) (by omega) (by omega)) hI.wb
  have hEw : EW w := EW_c (fun a q hh => a1 a q (by omega) (by omega) (by omega) (by omega)) hI.ew
  have e33 : zg w 33 0 = zg v 33 0 := by simp only [zg]; rw [a1 33 0 (by omega) (by omega) (by omega) (by omega)]
  have e28 : zg w 28 9 = zg v 28 9 := by simp only [zg]; rw [a1 28 9 (by omega) (by omega) (by omega) (by omega)]
  have hRw := SR_of hBw hEw hXw
  rw [e33, e28] at hRw
  have hm : mR w (X (zg v 33 0)) (zg v 28 9) (-1) = bR v (X (zg v 33 0)) (zg v 28 9) (-1) := by rw [mR_w hW, bR_mR hV]
  refine zEv_mono (m201 (by omega) (SV_w hV hW) hRw) ?_
  rintro _ _ ⟨b, w', t', rfl, rfl, h2, rfl, rfl⟩
  exact ⟨_, _, _, rfl, rfl, by rw [hm], INV_b hI hX rfl rfl h1 h2 hm (fun _ _ _ => rfl)⟩
theorem case16 (hd : 200 ≤ d) (i0 : 0 ≤ i) (i1 : i + 6 ≤ (sc.1 : Int)) (hn : sc.1 ≤ 60000) (hk : kc + 100 ≤ 601024) (hs : ks + 600 ≤ 7293034) (hI : INV v u) (k : ∀ w t y5 y6 a b, INV w t → a ≤ 100 → b ≤ 600 → zEv sc 234 d 1479 [.ref 3000, .ref 0, .ref 79, .ref 118, .int (zI i), y5, y6] [] (zmk w t) (kc + a) (ks + b) Q) : zEv sc 234 d 1066 [.ref 3000, .ref 0, .ref 79, .ref 118, .int (zI i), x5, x6] [] (zmk v u) kc ks Q := by
  obtain ⟨X, hX⟩ := hI.rs
  obtain ⟨p, hp, ep⟩ := sInt (sc.2 (i + 1).toNat)
  refine seg16 (by omega) i0 i1 hn hk hs (R1 := fun y w t => (∃ x t0, ((0 ≤ p ∧ p < zg v 16 8) ∧ BX v (X (zg v 33 0)) (zg v 28 9) p w ∧ zI ((bR v (X (zg v 33 0)) (zg v 28 9) p).1.elim (-1) (fun r => r.1)) = x ∧ u = t0) ∧ zul t0 118 0 x.toInt64 = t ∧ zI 0 = y) ∨ (∃ e : Nat, e < 2 ∧ ((¬ (0 ≤ p ∧ p < zg v 16 8) ∧ e = 0) ∧ v = w ∧ u = t) ∧ zI 1 = y)) ?_ ?_ (fun w t y5 y6 hw => k w t y5 y6 _ _ hw (by omega) (by omega))
  · rw [ep]
    exact w221 (by omega) (c122 (by omega) hp (fun ok => SV_of hI.wb hX (Or.inr ok)) hI.wb hX.2.1) (fun e w t h => h.1.2)
  · rw [ep]
    intro y w t hR
    rcases hR with ⟨x, t0, ⟨ok, h1, rfl, rfl⟩, rfl, rfl⟩ | ⟨e, he, ⟨⟨h1, rfl⟩, rfl, rfl⟩, rfl⟩
    · have hV := SV_of (p := p) hI.wb hX (Or.inr ok)
      have a1 := h1.1
      have hW : SW v w := fun a q hh => a1 a q (by omega) (by omega) (by omega) (by omega)
      have hXw : RSx w u X := RSx_w hI.wb (RCw_of fun a q hh => a1 a q (by omega) (by omega) (by omega) (by omega)) (fun _ _ _ => rfl) h1.2.1 hX
      have hBw : WB w := WB_w3 (fun a q g1 g2 => a1 a q (by omega) (by omega) (by omega) (by omega)) hI.wb
      have hEw : EW w := EW_c (fun a q hh => a1 a q (by omega) (by omega) (by omega) (by omega)) hI.ew
      have e33 : zg w 33 0 = zg v 33 0 := by simp only [zg]; rw [a1 33 0 (by omega) (by omega) (by omega) (by omega)]
      have e28 : zg w 28 9 = zg v 28 9 := by simp only [zg]; rw [a1 28 9 (by omega) (by omega) (by omega) (by omega)]
      have e16 : zg w 16 = zg v 16 := zg_fn fun q => a1 16 q (by omega) (by omega) (by omega) (by omega)
      have hRw := SR_of hBw hEw hXw
      rw [e33, e28] at hRw
      have hm : mR w (X (zg v 33 0)) (zg v 28 9) p = bR v (X (zg v 33 0)) (zg v 28 9) p := by rw [mR_w hW, bR_mR hV]
      refine zEv_mono (m192 (by omega) hp hBw hEw (fun _ => SV_w hV hW) hRw) ?_
      rintro _ _ ⟨b, w', t', rfl, rfl, ⟨_, h2, rfl, rfl⟩ | ⟨h2, _⟩⟩
      · exact ⟨_, _, _, rfl, rfl, ⟨0, rfl, by omega, h2.2.1, fun _ => by rw [hm]; simp [zul]⟩, INV_b hI hX rfl rfl h1 h2 hm (fun a k h => by simp only [zul]; rw [if_neg (fun z => h z.1)])⟩
      · exact absurd (by rw [e16]; exact ok) h2
    · have hRv := SR_of hI.wb hI.ew hX
      refine zEv_mono (m192 (n := zg v 28 9) (by omega) hp hI.wb hI.ew (fun ok => absurd ok h1) hRv) ?_
      rintro _ _ ⟨b, w', t', rfl, rfl, ⟨h2, _⟩ | ⟨_, rfl, rfl, rfl⟩⟩
      · exact absurd h2 h1
      · exact ⟨_, _, _, rfl, rfl, ⟨1, rfl, by omega, by rw [zu_same], fun z => absurd z (by omega)⟩, INV_q (fun a q h => by rw [zu_ne h, zu_ne h]) (fun a k h => rfl) hI⟩
theorem case8 (hd : 200 ≤ d) (i0 : 0 ≤ i) (i1 : i + 6 ≤ (sc.1 : Int)) (hn : sc.1 ≤ 60000) (hk : kc + 100 ≤ 601024) (hs : ks + 600 ≤ 7293034) (hI : INV v u) (k : ∀ w t y5 y6 a b, INV w t → a ≤ 100 → b ≤ 600 → zEv sc 234 d 1479 [.ref 3000, .ref 0, .ref 79, .ref 118, .int (zI i), y5, y6] [] (zmk w t) (kc + a) (ks + b) Q) : zEv sc 234 d 622 [.ref 3000, .ref 0, .ref 79, .ref 118, .int (zI i), x5, x6] [] (zmk v u) kc ks Q := by
  obtain ⟨X, hX⟩ := hI.rs
  have hN := NOW_of hI.wb hX
  obtain ⟨h8, h9, h10⟩ := hI.rs.l8
  obtain ⟨p, hp, ep⟩ := sInt (sc.2 (i + 1).toNat)
  obtain ⟨q, hq, eq⟩ := sInt (sc.2 (i + 2).toNat)
  obtain ⟨r, hr, er⟩ := sInt (sc.2 (i + 3).toNat)
  have b0 := hI.wb.1
  have b2 := hI.wb.2.2.1
  have c0 := hN.c0
  have c1 := hN.c1
  obtain ⟨M, hM⟩ : ∃ M, M = min (wantC v p r) (cnt (X (zg v 33 0)).1 (zg v 38 p) (zg v 16 9)) := ⟨_, rfl⟩
  have h115 := c115 (sc := sc) (d := d - 1 - 1) (v := v) (u := u) (k := p) (t := q) (y := r) (c := zg v 33 0) (R := fun x w t => zI M = x ∧ MV v u p (zg v 38 p) q r (X (zg v 33 0)) M (zg v 33 0) w t) (by omega) hp hq hr hI.wb rfl c0 (fun k0 k1 t0 t1 c3 ft y0 y1 => by
    have s := hN.sh p k0 k1
    exact c13 (by omega) hX.2.1 hI.wb hI.tf.1 k0 k1 rfl s.2.1 (by omega) t0 (by omega) ft y0 y1 rfl c0.1 c3 (fun z z0 z1 => (hN.pr z z0 z1).2) hM)
  refine seg8 (by omega) i0 i1 hn hk hs (R1 := fun y w t => (∃ x t0, (((0 ≤ p ∧ p < zg v 16 10) ∧ 0 ≤ q ∧ q < zg v 16 8) ∧ (((zg v 33 0 = 30 ∨ zg v 38 p = q ∨ ¬ (0 ≤ r ∧ r ≤ zg v 22 p)) ∧ zI (-1) = x ∧ zu v 44 1 (zI (zg v 44 1 + 1)) = w ∧ u = t0) ∨ ((zg v 33 0 < 30 ∧ ¬ zg v 38 p = q ∧ 0 ≤ r ∧ r ≤ zg v 22 p) ∧ zI M = x ∧ MV v u p (zg v 38 p) q r (X (zg v 33 0)) M (zg v 33 0) w t0))) ∧ zul t0 118 0 x.toInt64 = t ∧ zI 0 = y) ∨ (∃ e : Nat, e < 2 ∧ (¬ ((0 ≤ p ∧ p < zg v 16 10) ∧ 0 ≤ q ∧ q < zg v 16 8) ∧ e = 0 ∧ v = w ∧ u = t) ∧ zI 1 = y)) ?_ ?_ (fun w t y5 y6 hw => k w t y5 y6 _ _ hw (by omega) (by omega))
  · rw [ep, eq, er]
    exact w215 (by omega) h115 (fun e w t h => h.2.1)
  · rw [ep, eq, er]
    intro y w t hR
    rcases hR with ⟨x, t0, ⟨h1, ⟨h2, rfl, hw, rfl⟩ | ⟨h2, rfl, hV⟩⟩, rfl, rfl⟩ | ⟨e, he, ⟨h1, rfl, rfl, rfl⟩, rfl⟩
    · have low : ∀ a q, ¬ a = 44 → w a q = v a q := fun a q ha => by rw [← hw]; exact zu_ne (by omega)
      have g : ∀ a, ¬ a = 44 → zg w a = zg v a := fun a ha => zg_fn fun q => low a q ha
      have s := hN.sh p h1.1.1 h1.1.2
      refine zEv_mono (m177_ref (by omega) (EW_c (fun a q hh => low a q (by omega)) hI.ew) (WB_w3 (fun a q g1 g2 => low a q (by omega)) hI.wb) h1.1.1 (by rw [g 16 (by omega)]; exact h1.1.2) h1.2.1 (by rw [g 16 (by omega)]; exact h1.2.2) hr (by rw [g 79 (by omega), g 93 (by omega), g 22 (by omega), c1, s.1]; exact h2)) ?_
      rintro _ _ ⟨b, w', t', rfl, rfl, rfl, hw', rfl⟩
      have fr : ∀ a q, ¬ ((a = 44 ∨ a = 91) ∧ q = 1) → ¬ (a = 79 ∧ q = 2) → w' a q = v a q := fun a q g1 g2 => by rw [← hw', zu_ne (by omega), zu_ne (by omega), ← hw, zu_ne (by omega)]
      refine ⟨_, _, _, rfl, rfl, ⟨0, rfl, by omega, by rw [← hw', zu_ne (by omega), zu_same], fun _ => by simp [zul]⟩, INV_s (fun a q hh => fr a q (by omega) (by omega)) (fun k => by simp [zul]) hI (RS_g hI.wb (RCg_of fun a q hh => fr a q (by omega) (by omega)) (Lg8_w (fun a q hh => fr a q (by omega) (by omega)) h8) (Rd9_w (fun a q hh => fr a q (by omega) (by omega)) h9) (St10_i (j := 1) (by omega) (by omega) (fun a q hh g => fr a q (by omega) (by omega)) ?_ ?_ h10) (fun a q g1 g2 => fr a q (by omega) (by omega)) (fun k _ _ => by simp [zul]) hI.rs)⟩
      · rw [← hw', zu_ne (by omega), zu_ne (by omega), ← hw, zu_same]
      · rw [← hw', zu_same]; simp only [zg]; rw [low 91 1 (by omega)]
    · have s := hN.sh p h1.1.1 h1.1.2
      have hV' := hV
      obtain ⟨v1, v2, v3, v4, v5, v6, v7, v8, v9, v10, v11, v12, v13, v14⟩ := hV'
      have lo : ∀ a q, ((16 ≤ a ∧ a ≤ 23) ∨ a = 25 ∨ (a = 24 ∧ q = 3) ∨ 47 ≤ a ∨ a ≤ 15) → w a q = v a q := fun a q hh => v1 a q (by unfold ADf; omega) (by omega) (by omega) (by omega) (by omega)
      have g : ∀ a, ((16 ≤ a ∧ a ≤ 23) ∨ a = 25 ∨ 47 ≤ a) → zg w a = zg v a := fun a hh => zg_fn fun q => lo a q (by omega)
      have w3 : ∀ a q, 16 ≤ a → a ≤ 23 → w a q = v a q := fun a q g1 g2 => lo a q (by omega)
      have e24 : zg w 24 3 = zg v 24 3 := by simp only [zg]; rw [lo 24 3 (by omega)]
      have hVS : VS v (X (zg v 33 0)) := ⟨v, fun _ _ _ _ _ => rfl, hX.2.1⟩
      have eWa : wantC w = wantC v := by funext k y; unfold wantC; rw [g 22 (by omega), g 21 (by omega)]
      have pl := VS_pl hVS hI.wb.wf
      have wi := want_in (a := r) hI.wb h1.1.1 h1.1.2 h2.2.2.1 h2.2.2.2
      have cn := cnt_rg (P := (X (zg v 33 0)).1) (p := zg v 38 p) (n := zg v 16 9) hI.wb.2.1.1
      have mm := m177_ok (sc := sc) (d := d - 1) (v := w) (u := zul t0 118 0 (zI M).toInt64) (k := p) (f := zg v 38 p) (t := q) (y := r) (c := zg v 33 0) (M := M) (x := X (zg v 33 0)) (sv := zg v 25) (n := zg v 24 3) (by omega) (EW_c (fun a q hh => lo a q (by omega)) hI.ew) (WB_w3 w3 hI.wb) hI.tf.1 (by rw [g 82 (by omega)]; exact hI.tf.2.1) (by rw [g 90 (by omega)]; exact hI.tf.2.2) h1.1.1 (by rw [g 16 (by omega)]; exact h1.1.2) h1.2.1 (by rw [g 16 (by omega)]; exact h1.2.2) (by rw [g 79 (by omega)]; exact c1) c0.1 h2.1 (by rw [g 93 (by omega)]; exact s.1) s.2.1 (by omega) h2.2.1 h2.2.2.1 (by rw [g 22 (by omega)]; exact h2.2.2.2) (VS_w3 w3 hVS) (by rw [g 16 (by omega), g 93 (by omega)]; exact fun s s0 s1 => ⟨(hN.rows s s0 s1).1, (hN.rows s s0 s1).2, pl s s0 s1 (hN.pn s s0 s1)⟩) (by rw [g 16 (by omega), g 93 (by omega)]; exact fun z z0 z1 => by have := hN.pr z z0 z1; omega) (by rw [eWa, g 16 (by omega)]; exact hM)
      refine zEv_mono mm ?_
      rintro _ _ ⟨b, w', t', rfl, rfl, rfl, hMM, rfl⟩
      have hRS := RS_sail (k := p) (f := zg v 38 p) (t := q) (y := r) (M := M) (c := zg v 33 0) (v1 := w) (v2 := w') (u1 := t0) hI.wb hX rfl h2.1 h1.1.1 h1.1.2 rfl h1.2.1 h1.2.2 h2.2.1 h2.2.2.1 hM (by omega) (by omega) rfl hV (by
        have e := hMM
        rw [g 20 (by omega), g 19 (by omega), tkS_w3 w3, stN_w3 w3] at e
        exact e)
      have m1 := hMM.1
      have fin : ∀ a q, (a = 0 ∨ (a = 2 ∧ q = 1) ∨ a = 3 ∨ (16 ≤ a ∧ a ≤ 25 ∧ ¬ a = 24) ∨ (a = 24 ∧ q = 3) ∨ (47 ≤ a ∧ a ≤ 63) ∨ a = 78 ∨ (82 ≤ a ∧ a ≤ 90) ∨ a = 92 ∨ a = 104 ∨ (109 ≤ a ∧ a ≤ 117) ∨ (a = 79 ∧ ¬ q = 2 ∧ ¬ q = 30)) → w' a q = v a q := fun a q hh => by rw [m1 a q (by omega) (by omega) (by omega) (by omega) (by omega) (by omega) (by omega) (by omega), lo a q (by omega)]
      refine ⟨_, _, _, rfl, rfl, ⟨0, rfl, by omega, hMM.2.1, fun _ => by simp [zul]⟩, ⟨WB_w3 (fun a q g1 g2 => fin a q (by omega)) hI.wb, EW_c (fun a q hh => fin a q (by omega)) hI.ew, pTF_w (fin _ _ (by omega)) (fun q => fin _ _ (by omega)) (fin _ _ (by omega)) (fun q => fin _ _ (by omega)) hI.tf, pTP_w (fin _ _ (by omega)) (fun q => fin _ _ (by omega)) (fin _ _ (by omega)) (fun q => fin _ _ (by omega)) hI.tp, pFL_w (fin _ _ (by omega)) (fin _ _ (by omega)) hI.fl, ?_, pLD_w (fin _ _ (by omega)) (fun q => fin _ _ (by omega)) (fin _ _ (by omega)) (fun q => fin _ _ (by omega)) hI.ld, pIM_w hI.wb (fin _ _ (by omega)) (fin _ _ (by omega)) (fun a q hh => fin a q (by omega)) (fun q g1 g2 => fin 79 q (by omega)) (fun k => by simp only [zul]; rw [if_neg (by omega), v14 54 k (by omega)]) hI.im⟩⟩
      exact RS_k (WB_w3 (fun a q g1 g2 => fin a q (by omega)) hI.wb) (RCw_of fun _ _ _ => rfl) (fun _ _ _ _ => rfl) (fun k _ _ => by simp [zul]) ⟨_, hRS⟩
    · refine zEv_mono (m177_bad (by omega) hI.ew hI.wb hp hq h1) ?_
      rintro _ _ ⟨b, w', t', rfl, rfl, rfl, rfl, rfl⟩
      exact ⟨_, _, _, rfl, rfl, ⟨1, rfl, by omega, by rw [zu_same], fun z => absurd z (by omega)⟩, INV_q (fun a q h => by rw [zu_ne h, zu_ne h]) (fun a k h => rfl) hI⟩
end
