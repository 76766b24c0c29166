/-! worlds in the law -/
section
variable {sc : Nat × (Nat → Int32)} {d : Nat} {v : zV} {u : zU} {kc ks : Nat} {Q : zPost} {i : Int} {x5 x6 : Value}
theorem INV_bw {w W : zV} {u' : zU} {p : Int} (hI : INV v u) (h1 : BW v w p) (h2 : BM4 w W p) (hu : ∀ a k, ¬ a = 118 → u' a k = u a k) : INV W u' := by
  obtain ⟨a1, a2, a3, a4⟩ := h1
  obtain ⟨b1, b2, b3, b4, b5⟩ := h2
  obtain ⟨h8, h9, h10⟩ := hI.rs.l8
  have fr : ∀ a q, ((16 ≤ a ∧ a ≤ 43) ∨ (a = 44 ∧ ¬ q = 0) ∨ (45 ≤ a ∧ a ≤ 78) ∨ (a = 79 ∧ ¬ (q = 2 ∨ (14 ≤ q ∧ q ≤ 23))) ∨ (a = 82 ∧ q < 4) ∨ ((a = 83 ∨ a = 84) ∧ q < 6) ∨ ((a = 85 ∨ a = 86) ∧ q < 40) ∨ ((87 ≤ a ∧ a ≤ 89) ∧ q < 5) ∨ (a = 90 ∧ q < 600) ∨ (a = 91 ∧ ¬ q = 0) ∨ 93 ≤ a ∨ (a = 0 ∧ ¬ q = 7)) → W a q = v a q := fun a q hh => by rw [b1 a q (by omega) (by omega) (by omega) (by omega) (by omega) (by omega) (by omega), a1 a q (by omega) (by omega) (by omega) (by omega) (by omega)]
  have g : ∀ a q, ((16 ≤ a ∧ a ≤ 43) ∨ (a = 82 ∧ q < 4) ∨ ((a = 83 ∨ a = 84) ∧ q < 6) ∨ ((a = 85 ∨ a = 86) ∧ q < 40) ∨ ((87 ≤ a ∧ a ≤ 89) ∧ q < 5) ∨ (a = 90 ∧ q < 600)) → zg W a q = zg v a q := fun a q hh => by simp only [zg]; rw [fr a q (by omega)]
  have gf : ∀ a, (16 ≤ a ∧ a ≤ 43) → zg W a = zg v a := fun a hh => zg_fn fun q => fr a q (by omega)
  have hB := hI.wb
  obtain ⟨t1, t2, t3⟩ := hI.tf
  refine ⟨WB_w3 (fun a q g1 g2 => fr a q (by omega)) hB, ?_, ⟨?_, ?_, ?_⟩, ⟨?_, ?_, ?_⟩, ?_, RS_g hB (RCg_of fun a q hh => fr a q (by omega)) (Lg8_w (fun a q hh => fr a q (by omega)) h8) (Rd9_w (fun a q hh => fr a q (by omega)) h9) (St10_i (j := 0) (by omega) (by omega) (fun a q hh gq => fr a q (by omega)) ?_ ?_ h10) (fun a q g1 g2 => fr a q (by omega)) (fun k _ _ => hu 35 k (by omega)) hI.rs, pLD_w (fr _ _ (by omega)) (fun q => fr _ _ (by omega)) (fr _ _ (by omega)) (fun q => fr _ _ (by omega)) hI.ld, pIM_w hB (fr _ _ (by omega)) (fr _ _ (by omega)) (fun a q hh => fr a q (by omega)) (fun q g1 g2 => fr 79 q (by omega)) (fun k => hu 54 k (by omega)) hI.im⟩
  · obtain ⟨e1, e2, e3, e4, e5, e6⟩ := hI.ew
    have bb := hB.1
    have bc := hB.2.1
    have bd := hB.2.2.1
    refine ⟨by rw [g 82 0 (by omega), gf 16 (by omega)]; exact e1, by rw [g 82 1 (by omega), gf 16 (by omega)]; exact e2, by rw [g 82 2 (by omega), gf 16 (by omega)]; exact e3, fun p p0 p1 => ?_, fun s s0 s1 => ?_, fun k k0 k1 => ?_⟩
    · rw [gf 16 (by omega)] at p1
      rw [g 83 p (by omega), g 84 p (by omega), gf 17 (by omega), gf 18 (by omega)]; exact e4 p p0 p1
    · rw [gf 16 (by omega)] at s1
      rw [g 85 s (by omega), g 86 s (by omega), gf 19 (by omega), gf 20 (by omega)]; exact e5 s s0 s1
    · rw [gf 16 (by omega)] at k1
      rw [g 87 k (by omega), g 88 k (by omega), g 89 k (by omega), gf 21 (by omega), gf 22 (by omega), gf 23 (by omega)]; exact e6 k k0 k1
  · rw [gf 25 (by omega), gf 24 (by omega)]; exact t1
  · rw [g 82 3 (by omega), gf 24 (by omega)]; exact t2
  · rw [gf 24 (by omega), gf 25 (by omega)]
    intro j j0 j1
    have := t1.2.1
    rw [g 90 j (by omega)]
    exact t3 j j0 j1
  · have e : zg W 2 1 = 0 := by rw [← a2]; simp only [zg]; rw [b1 2 1 (by omega) (by omega) (by omega) (by omega) (by omega) (by omega) (by omega)]
    omega
  · have e : zg W 2 1 = 0 := by rw [← a2]; simp only [zg]; rw [b1 2 1 (by omega) (by omega) (by omega) (by omega) (by omega) (by omega) (by omega)]
    omega
  · have e : zg W 2 1 = 0 := by rw [← a2]; simp only [zg]; rw [b1 2 1 (by omega) (by omega) (by omega) (by omega) (by omega) (by omega) (by omega)]
    intro j j0 j1
    omega
  · rw [b4, ← a3]
    simp only [zg]
    rw [b1 0 7 (by omega) (by omega) (by omega) (by omega) (by omega) (by omega) (by omega)]
  · rw [b1 44 0 (by omega) (by omega) (by omega) (by omega) (by omega) (by omega) (by omega), a4]
  · rw [b5]
    simp only [zg]
    rw [a1 91 0 (by omega) (by omega) (by omega) (by omega) (by omega)]
theorem INV_gw {w W : zV} {u' : zU} {D : Dr} (hBD : DB D) (hI : INV v u) (h1 : GW D v w) (h2 : GM4 D w W) : INV W u' := by
  obtain ⟨a1, a2, ⟨L, a3, a4⟩, a5, a6, a7, a8, a9, a10, a11, a12⟩ := h1
  obtain ⟨b1, b2, b3, b4, b5, b6, b7, b8, b9⟩ := h2
  obtain ⟨d1, d2, d3, d4, d5, d6, d7⟩ := id hBD
  have lo : ∀ a q, ¬ (a = 79 ∧ (q = 2 ∨ (14 ≤ q ∧ q ≤ 23) ∨ (30 ≤ q ∧ q ≤ 33) ∨ q = 44 ∨ q = 49)) → ¬ (82 ≤ a ∧ a ≤ 90) → ¬ a = 93 → W a q = w a q := b1
  have gl : ∀ a, (a ≤ 78 ∨ a = 91) → zg W a = zg w a := fun a ha => zg_fn fun q => lo a q (by omega) (by omega) (by omega)
  have hT : TD D W := TD_w (fun a q g1 g2 => lo a q (by omega) (by omega) (by omega)) a2
  have hBW := TD_B hBD hT
  obtain ⟨⟨t1, t2, t3⟩, t4, t5, t6, t7, t8⟩ := id hT
  obtain ⟨⟨m1, m2, m3, m4⟩, m5, m6, m7, m8⟩ := b5
  rw [← gl 16 (by omega), ← gl 19 (by omega)] at a3 a4
  have hC : CS W (fun t => if 0 ≤ t ∧ t < zg W 16 9 then zg W 19 t else -1) L := CS_w (v0 := w) (fun a q g1 g2 => lo a q (by omega) (by omega) (by omega)) (fun a q g1 g2 => lo a q (by omega) (by omega) (by omega)) a3
  have z33 : zg W 33 0 = 0 := by rw [gl 33 (by omega)]; exact a5.1
  have z331 : zg W 33 1 = 0 := by rw [gl 33 (by omega)]; exact a5.2
  have ho : ∀ s, 0 ≤ s → s < D.ns → zg W 19 s = D.origin s := fun s s0 s1 => (t5 s s0 s1).1
  have hrs : RS W u' := by
    refine ⟨fun _ => (fun t => if 0 ≤ t ∧ t < zg W 16 9 then zg W 19 t else -1, L), ?_, hC, ?_, ?_, ?_, ?_, ?_, ?_, ?_, ?_⟩
    · rw [z33, z331]
      exact ⟨by omega, by omega, b6.1, by omega, by omega, b6.2.1⟩
    · rw [z33, z331]
      intro k k0 k1
      have ek : k = 0 := by omega
      subst ek
      refine ⟨⟨W, fun _ _ _ _ _ => rfl, hC⟩, fun s s0 s1 => ?_⟩
      have e1 : ∀ q, hrow W 0 q = W 93 q := fun q => by unfold hrow; rw [z33, if_pos rfl]
      rw [e1, e1]
      rw [t2] at s1
      refine ⟨?_, ?_⟩
      · show zg W 93 s = if 0 ≤ s ∧ s < zg W 16 9 then zg W 19 s else -1
        rw [if_pos ⟨s0, by omega⟩, ho s s0 s1]
        exact (b7 s s0 s1).1
      · show zg W 93 (40 + s) = L s
        rw [a4 s s0 (by omega), (b7 s s0 s1).2.2.2, ho s s0 s1]
        exact cnt_ext (fun j j0 j1 => by rw [ho j j0 (by omega)])
    · rw [z33, z331]
      intro k k0 k1
      omega
    · rw [z33]
      intro k k0 k1
      omega
    · rw [z33]
      intro k k0 k1
      have ek : k = 0 := by omega
      subst ek
      have e1 : ∀ q, hrow W 0 q = W 93 q := fun q => by unfold hrow; rw [z33, if_pos rfl]
      refine ⟨fun s s0 s1 => ?_, fun p p0 p1 => ?_⟩
      · rw [t2] at s1
        rw [e1, e1, e1, ptC_zero, ho s s0 s1]
        refine ⟨(b7 s s0 s1).1, (b7 s s0 s1).2.1, ?_⟩
        rw [(b7 s s0 s1).2.2.1]
        unfold btsC
        rw [zfo_zero, ho s s0 s1]
      · rw [t1] at p1
        rw [e1, gl 37 (by omega), show 0 * 6 + p = p by omega, a6 p p0 (by omega)]
        exact ⟨b8 p p0 (by omega), by omega, by omega⟩
    · intro i i0 i1
      rw [t3] at i1
      rw [gl 38 (by omega), a7 i i0 (by omega), ← gl 23 (by omega), (t6 i i0 i1).2.2, b9 i i0 i1, t1]
      exact ⟨rfl, (d6 i i0 i1).2.2⟩
    · rw [gl 28 (by omega), a8.1]
      exact ⟨by omega, b6.2.2.1, fun i i0 i1 => by omega⟩
    · rw [gl 28 (by omega), a8.2]
      exact ⟨by omega, b6.2.2.2.1, fun i i0 i1 => by omega⟩
    · intro i i0 i1
      rw [lo 91 i (by omega) (by omega) (by omega), lo 44 i (by omega) (by omega) (by omega), a1 91 i (by omega) (by omega) (by omega) (by omega) (by omega) (by omega) (by omega) (by omega) (by omega) (by omega), a1 44 i (by omega) (by omega) (by omega) (by omega) (by omega) (by omega) (by omega) (by omega) (by omega) (by omega)]
      exact hI.rs.l8.2.2 i i0 i1
  refine ⟨hBW, ?_, ⟨TD_WT hBD hT, by rw [m4, t7], fun j j0 j1 => ?_⟩, ⟨?_, ?_, fun j j0 j1 => ?_⟩, ?_, hrs, Or.inl ⟨b6.2.2.2.2.1, ?_⟩, ⟨Or.inl ?_, ?_, fun z => ?_⟩⟩
  · refine ⟨by rw [m1, t1], by rw [m2, t2], by rw [m3, t3], fun p p0 p1 => ?_, fun s s0 s1 => ?_, fun k k0 k1 => ?_⟩
    · rw [t1] at p1
      rw [(m5 p p0 p1).1, (m5 p p0 p1).2, (t4 p p0 p1).1, (t4 p p0 p1).2]; exact ⟨rfl, rfl⟩
    · rw [t2] at s1
      rw [(m6 s s0 s1).1, (m6 s s0 s1).2, (t5 s s0 s1).1, (t5 s s0 s1).2]; exact ⟨rfl, rfl⟩
    · rw [t3] at k1
      rw [(m7 k k0 k1).1, (m7 k k0 k1).2.1, (m7 k k0 k1).2.2, (t6 k k0 k1).1, (t6 k k0 k1).2.1, (t6 k k0 k1).2.2]; exact ⟨rfl, rfl, rfl⟩
  · rw [t7] at j1
    have x := m8 j.toNat (by omega)
    have y := t8 j.toNat (by omega)
    rw [Int.toNat_of_nonneg j0] at x y
    rw [x, y]
  · rw [gl 2 (by omega), a9]; omega
  · rw [gl 2 (by omega), a9]; exact b3
  · rw [gl 2 (by omega), a9] at j1; omega
  · rw [gl 0 (by omega), a11, b4]
  · rw [gl 0 (by omega)]; exact a12
  · rw [gl 0 (by omega)]; exact a10
  · rw [gl 0 (by omega), a10]; exact b6.2.2.2.2.2
  · rw [gl 0 (by omega), a10] at z; omega
theorem case1 (hd : 200 ≤ d) (i0 : 0 ≤ i) (i1 : i + 6 ≤ (sc.1 : Int)) (hn : sc.1 ≤ 60000) (hk : kc + 100 ≤ 601024) (hs : ks + 600 ≤ 7293034) (hI : INV v u) (k : ∀ w t y5 y6 a b, INV w t → a ≤ 100 → b ≤ 600 → zEv sc 234 d 1479 [.ref 3000, .ref 0, .ref 79, .ref 118, .int (zI i), y5, y6] [] (zmk w t) (kc + a) (ks + b) Q) : zEv sc 234 d 225 [.ref 3000, .ref 0, .ref 79, .ref 118, .int (zI i), x5, x6] [] (zmk v u) kc ks Q := by
  obtain ⟨n, hn', en⟩ := sInt (sc.2 (i + 1).toNat)
  obtain ⟨t1, t2, t3⟩ := hI.tp
  by_cases ok : 0 ≤ n ∧ n ≤ zg v 2 1
  · obtain ⟨o, g, hc, hm⟩ := PARSE (sc := sc) (B := zg v 3) (N := n) ok.1 (by omega)
    have h106 := c106 (sc := sc) (d := d - 1 - 1) (v := v) (u := u) (n := n) (o := o) (by omega) ok.1 ok.2 (by omega) g (hc (d - 1 - 1 - 1) v u (by omega) (fun j j0 j1 => ⟨rfl, (t3 j j0 (by omega)).1.1, (t3 j j0 (by omega)).1.2⟩))
    refine seg1 (by omega) i0 i1 hn hk hs (R1 := fun y w t => (∃ x t0, (wdC o v w x ∧ u = t0) ∧ zul t0 118 0 x.toInt64 = t ∧ zI 0 = y) ∨ (∃ e : Nat, e < 2 ∧ False ∧ zI 1 = y)) ?_ ?_ (fun w t y5 y6 hw => k w t y5 y6 _ _ hw (by omega) (by omega))
    · rw [en]
      exact w209 (by omega) h106 (fun e w t h => absurd h (by simp))
    · rw [en]
      intro y w t hR
      rcases hR with ⟨x, t0, ⟨h1, rfl⟩, rfl, rfl⟩ | ⟨e, he, h1, _⟩
      · have f79 : ∀ q, w 79 q = v 79 q := by
          intro q
          cases o using LO_c with
          | ok e' D => exact h1.2.1 79 q (by omega) (by omega) (by omega) (by omega) (by omega) (by omega) (by omega) (by omega) (by omega) (by omega)
          | bad c p => exact h1.2.1 79 q (by omega) (by omega) (by omega) (by omega) (by omega)
        have f92 : ∀ q, w 92 q = v 92 q := by
          intro q
          cases o using LO_c with
          | ok e' D => exact h1.2.1 92 q (by omega) (by omega) (by omega) (by omega) (by omega) (by omega) (by omega) (by omega) (by omega) (by omega)
          | bad c p => exact h1.2.1 92 q (by omega) (by omega) (by omega) (by omega) (by omega)
        have g79 : zg w 79 = zg v 79 := zg_fn f79
        have g92 : zg w 92 = zg v 92 := zg_fn f92
        refine zEv_mono (m132 (o := o) (B := zg v 3) (by omega) ok.1 (by rw [g79, t2]; exact ok.2) (by omega) g (by rw [g92]; exact fun j j0 j1 => ⟨(t3 j j0 (by omega)).2, (t3 j j0 (by omega)).1.1, (t3 j j0 (by omega)).1.2⟩) (fun v u Q x1 x2 q1 q2 q3 q4 q5 => hm (d - 1) v u Q x1 x2 (by omega) q1 q2 q3 q4 q5)) ?_
        rintro _ _ ⟨b, W, t', rfl, rfl, h2, rfl⟩
        have hu : ∀ a k, ¬ a = 118 → zul u 118 0 x.toInt64 a k = u a k := fun a k h => by simp only [zul]; rw [if_neg (fun z => h z.1)]
        cases o using LO_c with
        | ok e' D =>
          obtain ⟨rfl, h1⟩ := h1
          obtain ⟨rfl, h2⟩ := h2
          exact ⟨_, _, _, rfl, rfl, ⟨0, rfl, by omega, h2.2.1, fun _ => by simp [zul]⟩, INV_gw g hI h1 h2⟩
        | bad c p =>
          obtain ⟨rfl, h1⟩ := h1
          obtain ⟨rfl, h2⟩ := h2
          exact ⟨_, _, _, rfl, rfl, ⟨0, rfl, by omega, h2.2.1, fun _ => by simp [zul]⟩, INV_bw hI h1 h2 hu⟩
      · exact absurd h1 (by simp)
  · refine seg1 (by omega) i0 i1 hn hk hs (R1 := fun y w t => (∃ (x : Int32) (t0 : zU), False ∧ zul t0 118 0 x.toInt64 = t ∧ zI 0 = y) ∨ (∃ e : Nat, e < 2 ∧ (e = 1 ∧ v = w ∧ u = t) ∧ zI 1 = y)) ?_ ?_ (fun w t y5 y6 hw => k w t y5 y6 _ _ hw (by omega) (by omega))
    · rw [en]
      refine zEv_mono (w209 (by omega) (c106_no (by omega) hn' ok) (fun e w t h => h.1)) ?_
      rintro _ _ ⟨y, w, t, rfl, rfl, ⟨x, t0, h1, _⟩ | h⟩
      · exact absurd h1 (by simp)
      · exact ⟨_, _, _, rfl, rfl, Or.inr h⟩
    · rw [en]
      intro y w t hR
      rcases hR with ⟨x, t0, h1, _⟩ | ⟨e, he, ⟨_, rfl, rfl⟩, rfl⟩
      · exact absurd h1 (by simp)
      · refine zEv_mono (m132_no (by omega) hn' (by rw [t2]; exact ok)) ?_
        rintro _ _ ⟨b, w', t', rfl, rfl, rfl, rfl, rfl⟩
        exact ⟨_, _, _, rfl, rfl, ⟨1, rfl, by omega, by rw [zu_same], fun z => absurd z (by omega)⟩, INV_q (fun a q h => by rw [zu_ne h, zu_ne h]) (fun a k h => rfl) hI⟩
end
