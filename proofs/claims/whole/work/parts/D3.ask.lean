/-! the questions of the law -/
theorem sInt (x : Int32) : ∃ p : Int, (-2147483648 ≤ p ∧ p < 2147483648) ∧ x = zI p := ⟨x.toInt, zt_rg x, (zI_t x).symm⟩
/-- what stands now -/
def NOW (v : zV) (u : zU) (P L : Int → Int) : Prop := (CS v P L) ∧ (∀ s, 0 ≤ s → s < zg v 16 9 → zg v 93 s = P s ∧ zg v 93 (40 + s) = L s) ∧ (∀ s, 0 ≤ s → s < zg v 16 9 → ¬ P s = -1) ∧ (∀ s, 0 ≤ s → s < zg v 16 9 → zg v 93 s = ptC v u s (zg v 33 0) ∧ zg v 93 (80 + s) = lst (bitC u s) (zg v 33 0) ∧ v 93 (120 + s) = btsC v u s (zg v 33 0)) ∧ (∀ p, 0 ≤ p → p < zg v 16 8 → zg v 93 (160 + p) = zg v 37 (zg v 33 0 * 6 + p) ∧ 0 ≤ zg v 37 (zg v 33 0 * 6 + p) ∧ zg v 37 (zg v 33 0 * 6 + p) ≤ 99) ∧ (∀ i, 0 ≤ i → i < zg v 16 10 → zg v 93 (166 + i) = zg v 38 i ∧ 0 ≤ zg v 38 i ∧ zg v 38 i < zg v 16 8) ∧ (0 ≤ zg v 33 0 ∧ zg v 33 0 ≤ 30) ∧ (zg v 79 30 = zg v 33 0) ∧ (0 ≤ zg v 33 1 ∧ zg v 33 1 ≤ zg v 33 0) ∧ (zg v 79 31 = zg v 33 1) ∧ (∀ k, 0 ≤ k → k < zg v 33 0 → (0 ≤ lg v k 0 ∧ lg v k 0 < zg v 16 10) ∧ (0 ≤ lg v k 1 ∧ lg v k 1 < zg v 16 8) ∧ (0 ≤ lg v k 2 ∧ lg v k 2 < zg v 16 8) ∧ ¬ lg v k 1 = lg v k 2 ∧ (0 ≤ lg v k 4 ∧ lg v k 4 ≤ 8) ∧ ∀ w, 0 ≤ w → w < 6 → v 99 (6 * k + w) = v 34 (k * 6 + w)) ∧ (∀ k, 0 ≤ k → k ≤ zg v 33 0 → ∀ s, 0 ≤ s → s < zg v 16 9 → (hrow v k s).toInt = ptC v u s k)
theorem NOW.cs {v : zV} {u : zU} {P L : Int → Int} (h : NOW v u P L) : CS v P L := h.1
theorem NOW.rows {v : zV} {u : zU} {P L : Int → Int} (h : NOW v u P L) : ∀ s, 0 ≤ s → s < zg v 16 9 → zg v 93 s = P s ∧ zg v 93 (40 + s) = L s := h.2.1
theorem NOW.pn {v : zV} {u : zU} {P L : Int → Int} (h : NOW v u P L) : ∀ s, 0 ≤ s → s < zg v 16 9 → ¬ P s = -1 := h.2.2.1
theorem NOW.pt {v : zV} {u : zU} {P L : Int → Int} (h : NOW v u P L) : ∀ s, 0 ≤ s → s < zg v 16 9 → zg v 93 s = ptC v u s (zg v 33 0) ∧ zg v 93 (80 + s) = lst (bitC u s) (zg v 33 0) ∧ v 93 (120 + s) = btsC v u s (zg v 33 0) := h.2.2.2.1
theorem NOW.pr {v : zV} {u : zU} {P L : Int → Int} (h : NOW v u P L) : ∀ p, 0 ≤ p → p < zg v 16 8 → zg v 93 (160 + p) = zg v 37 (zg v 33 0 * 6 + p) ∧ 0 ≤ zg v 37 (zg v 33 0 * 6 + p) ∧ zg v 37 (zg v 33 0 * 6 + p) ≤ 99 := h.2.2.2.2.1
theorem NOW.sh {v : zV} {u : zU} {P L : Int → Int} (h : NOW v u P L) : ∀ i, 0 ≤ i → i < zg v 16 10 → zg v 93 (166 + i) = zg v 38 i ∧ 0 ≤ zg v 38 i ∧ zg v 38 i < zg v 16 8 := h.2.2.2.2.2.1
theorem NOW.c0 {v : zV} {u : zU} {P L : Int → Int} (h : NOW v u P L) : 0 ≤ zg v 33 0 ∧ zg v 33 0 ≤ 30 := h.2.2.2.2.2.2.1
theorem NOW.c1 {v : zV} {u : zU} {P L : Int → Int} (h : NOW v u P L) : zg v 79 30 = zg v 33 0 := h.2.2.2.2.2.2.2.1
theorem NOW.f0 {v : zV} {u : zU} {P L : Int → Int} (h : NOW v u P L) : 0 ≤ zg v 33 1 ∧ zg v 33 1 ≤ zg v 33 0 := h.2.2.2.2.2.2.2.2.1
theorem NOW.f1 {v : zV} {u : zU} {P L : Int → Int} (h : NOW v u P L) : zg v 79 31 = zg v 33 1 := h.2.2.2.2.2.2.2.2.2.1
theorem NOW.lgs {v : zV} {u : zU} {P L : Int → Int} (h : NOW v u P L) : ∀ k, 0 ≤ k → k < zg v 33 0 → (0 ≤ lg v k 0 ∧ lg v k 0 < zg v 16 10) ∧ (0 ≤ lg v k 1 ∧ lg v k 1 < zg v 16 8) ∧ (0 ≤ lg v k 2 ∧ lg v k 2 < zg v 16 8) ∧ ¬ lg v k 1 = lg v k 2 ∧ (0 ≤ lg v k 4 ∧ lg v k 4 ≤ 8) ∧ ∀ w, 0 ≤ w → w < 6 → v 99 (6 * k + w) = v 34 (k * 6 + w) := h.2.2.2.2.2.2.2.2.2.2.1
theorem NOW.hp {v : zV} {u : zU} {P L : Int → Int} (h : NOW v u P L) : ∀ k, 0 ≤ k → k ≤ zg v 33 0 → ∀ s, 0 ≤ s → s < zg v 16 9 → (hrow v k s).toInt = ptC v u s k := h.2.2.2.2.2.2.2.2.2.2.2
theorem NOW_of {v : zV} {u : zU} {X : Int → zPL} (hB : WB v) (h : RSx v u X) : NOW v u (X (zg v 33 0)).1 (X (zg v 33 0)).2 := by
  obtain ⟨a1, a2, a3, a4, a5, a6, a7, a8, a9, a10⟩ := h
  have hh : ∀ q, hrow v (zg v 33 0) q = v 93 q := fun q => by unfold hrow; rw [if_pos rfl]
  have r3 := (a3 (zg v 33 0) (by omega) (by omega)).2
  have r6 := a6 (zg v 33 0) (by omega) (by omega)
  have rows : ∀ s, 0 ≤ s → s < zg v 16 9 → zg v 93 s = (X (zg v 33 0)).1 s ∧ zg v 93 (40 + s) = (X (zg v 33 0)).2 s := fun s s0 s1 => by have e := r3 s s0 s1; rw [hh, hh] at e; exact e
  have pt : ∀ s, 0 ≤ s → s < zg v 16 9 → zg v 93 s = ptC v u s (zg v 33 0) ∧ zg v 93 (80 + s) = lst (bitC u s) (zg v 33 0) ∧ v 93 (120 + s) = btsC v u s (zg v 33 0) := fun s s0 s1 => by have e := r6.1 s s0 s1; rw [hh, hh, hh] at e; exact e
  refine ⟨a2, rows, fun s s0 s1 => ?_, pt, fun p p0 p1 => ?_, a7, by omega, a1.2.2.1, by omega, a1.2.2.2.2.2, a5, fun k k0 k1 s s0 s1 => ((a6 k k0 k1).1 s s0 s1).1⟩
  · have e1 := (rows s s0 s1).1
    have e2 := (pt s s0 s1).1
    have e3 := ptC_in (u := u) hB s0 s1 (zg v 33 0) (by omega) (fun j j0 j1 => (a5 j j0 j1).2.2.1)
    omega
  · have e := r6.2 p p0 p1; rw [hh] at e; exact e
theorem INV.now {v : zV} {u : zU} (h : INV v u) : ∃ P L, NOW v u P L := by
  obtain ⟨X, hX⟩ := h.rs
  exact ⟨_, _, NOW_of h.wb hX⟩
section
variable {sc : Nat × (Nat → Int32)} {d : Nat} {v : zV} {u : zU} {kc ks : Nat} {Q : zPost}
abbrev R1q (ok : Prop) (X : Int32) (v : zV) (u : zU) : Int32 → zV → zU → Prop := fun y w t => (∃ x t0, (ok ∧ X = x ∧ v = w ∧ u = t0) ∧ zul t0 118 0 x.toInt64 = t ∧ zI 0 = y) ∨ (∃ e : Nat, e < 2 ∧ (¬ ok ∧ e = 0 ∧ v = w ∧ u = t) ∧ zI 1 = y)
theorem Gq {ok : Prop} {X : Int32} {M : Nat} {lm : List Value} (hI : INV v u) (hm : ∀ t, zEv sc M d 0 lm [] (zmk v t) 0 0 (mqu ok X v t)) : ∀ y w t, R1q ok X v u y w t → zEv sc M d 0 lm [] (zmk w t) 0 0 (zPi fun b w' t' => Gd y b w' t') := by
  intro y w t hR
  rcases hR with ⟨x, t0, ⟨h1, rfl, rfl, rfl⟩, rfl, rfl⟩ | ⟨e, he, ⟨h1, rfl, rfl, rfl⟩, rfl⟩
  · refine zEv_mono (hm _) ?_
    rintro _ _ ⟨b, w', t', rfl, rfl, ⟨_, rfl, rfl, rfl⟩ | ⟨h2, _⟩⟩
    · refine ⟨_, _, _, rfl, rfl, ⟨0, rfl, by omega, by rw [zu_same], fun _ => by simp [zul]⟩, INV_q (fun a q h => zu_ne h) (fun a k h => by simp only [zul]; rw [if_neg (fun z => h z.1)]) hI⟩
    · exact absurd h1 h2
  · refine zEv_mono (hm _) ?_
    rintro _ _ ⟨b, w', t', rfl, rfl, ⟨h2, _⟩ | ⟨_, rfl, rfl, rfl⟩⟩
    · exact absurd h2 h1
    · exact ⟨_, _, _, rfl, rfl, ⟨1, rfl, by omega, by rw [zu_same], fun z => absurd z (by omega)⟩, INV_q (fun a q h => by rw [zu_ne h, zu_ne h]) (fun a k h => rfl) hI⟩
theorem zsg_sb {f g : Int → Int} : ∀ k, 0 ≤ k → zsg (fun j => f j - g j) k = zsg f k - zsg g k := by
  refine zup ?_ ?_
  · rfl
  · intro k k0 ih
    rw [zsg_succ k0, zsg_succ k0, zsg_succ k0, ih]
    omega
variable {i : Int} {x5 x6 : Value}
theorem case3 (hd : 20 ≤ d) (i0 : 0 ≤ i) (i1 : i + 6 ≤ (sc.1 : Int)) (hn : sc.1 ≤ 60000) (hk : kc + 100 ≤ 601024) (hs : ks + 600 ≤ 7293034) (hI : INV v u) (k : ∀ w t y5 y6 a b, INV w t → a ≤ 100 → b ≤ 600 → zEv sc 234 d 1479 [.ref 3000, .ref 0, .ref 79, .ref 118, .int (zI i), y5, y6] [] (zmk w t) (kc + a) (ks + b) Q) : zEv sc 234 d 294 [.ref 3000, .ref 0, .ref 79, .ref 118, .int (zI i), x5, x6] [] (zmk v u) kc ks Q := by
  obtain ⟨P, L, hN⟩ := hI.now
  have hl := fun p (p0 : 0 ≤ p) (p1 : p < 6) => hN.cs.len hI.wb.wf p0 p1
  obtain ⟨p, hp, ep⟩ := sInt (sc.2 (i + 1).toNat)
  obtain ⟨X, hX⟩ := hI.rs
  have c0 := hN.c0
  have eA : 0 ≤ p → p ≤ 11 → countM v p = countA v p := by
    intro q0 q1
    unfold countM countA
    have e := hI.ew
    rw [e.1, e.2.1, e.2.2.1, hN.c1, hX.2.2.2.2.2.2.2.1.2.1, hX.2.2.2.2.2.2.2.2.1.2.1, hI.tp.2.1]
    rw [show zsg (fun p => max 0 (zg v 17 p - cnt (zg v 93) p (zg v 16 9))) (zg v 16 8) = zsg (mudC v) (zg v 16 8) from zsg_ext _ (fun j j0 j1 => by
      unfold mudC
      have := hI.wb.1
      rw [hN.cs.2.1 j j0 (by omega), show cnt (zg v 93) j (zg v 16 9) = cnt P j (zg v 16 9) from cnt_ext fun s s0 s1 => by rw [(hN.rows s s0 s1).1]])]
    rw [show zsg (fun k => zg v 99 (6 * k + 5)) (zg v 33 0) = zsg (fun k => zg v 34 (k * 6 + 5)) (zg v 33 0) from zsg_ext _ (fun j j0 j1 => by simp only [zg]; rw [(hN.lgs j j0 j1).2.2.2.2.2 5 (by omega) (by omega)])]
    by_cases h9 : 9 ≤ p
    · rw [show zg v 91 (p - 9) = zg v 44 (p - 9) by simp only [zg]; rw [hX.2.2.2.2.2.2.2.2.2 (p - 9) (by omega) (by omega)]]
    · by_cases q3 : p = 0
      · rw [if_pos q3, if_pos q3]
      · rw [if_neg q3, if_neg q3]
        repeat' split
        all_goals first | rfl | omega
  refine seg3 (by omega) i0 i1 hn hk hs (R1 := R1q (0 ≤ p ∧ p ≤ 11) (zI (countA v p)) v u) ?_ ?_ (fun w t y5 y6 hw => k w t y5 y6 _ _ hw (by omega) (by omega))
  · rw [ep]
    exact w210 (by omega) (c107 (by omega) hp hI.wb hl hN.c0) (fun e w t h => h.2.1)
  · rw [ep]
    refine Gq hI (fun t => ?_)
    have e := m162 (sc := sc) (d := d - 1) (v := v) (u := t) (w := p) (by omega) hI.ew hI.wb hp (by rw [hN.c1]; exact hN.c0)
    by_cases ok : 0 ≤ p ∧ p ≤ 11
    · rw [eA ok.1 ok.2] at e; exact e
    · refine zEv_mono e ?_
      rintro _ _ ⟨b, w', t', rfl, rfl, ⟨h2, _⟩ | hh⟩
      · exact absurd h2 ok
      · exact ⟨_, _, _, rfl, rfl, Or.inr hh⟩
theorem mqu_ok {M : Nat} {lm : List Value} {ok : Prop} {X Y : Int32} (h : zEv sc M d 0 lm [] (zmk v u) 0 0 (mqu ok Y v u)) (e : ok → Y = X) : zEv sc M d 0 lm [] (zmk v u) 0 0 (mqu ok X v u) := by
  refine zEv_mono h ?_
  rintro _ _ ⟨b, w', t', rfl, rfl, ⟨h2, h3, h4⟩ | hh⟩
  · exact ⟨_, _, _, rfl, rfl, Or.inl ⟨h2, by rw [← e h2]; exact h3, h4⟩⟩
  · exact ⟨_, _, _, rfl, rfl, Or.inr hh⟩
theorem case4 (hd : 20 ≤ d) (i0 : 0 ≤ i) (i1 : i + 6 ≤ (sc.1 : Int)) (hn : sc.1 ≤ 60000) (hk : kc + 100 ≤ 601024) (hs : ks + 600 ≤ 7293034) (hI : INV v u) (k : ∀ w t y5 y6 a b, INV w t → a ≤ 100 → b ≤ 600 → zEv sc 234 d 1479 [.ref 3000, .ref 0, .ref 79, .ref 118, .int (zI i), y5, y6] [] (zmk w t) (kc + a) (ks + b) Q) : zEv sc 234 d 350 [.ref 3000, .ref 0, .ref 79, .ref 118, .int (zI i), x5, x6] [] (zmk v u) kc ks Q := by
  obtain ⟨P, L, hN⟩ := hI.now
  have hl := fun p (p0 : 0 ≤ p) (p1 : p < 6) => hN.cs.len hI.wb.wf p0 p1
  obtain ⟨p, hp, ep⟩ := sInt (sc.2 (i + 1).toNat)
  obtain ⟨q, hq, eq⟩ := sInt (sc.2 (i + 2).toNat)
  have b0 := hI.wb.1
  refine seg4 (by omega) i0 i1 hn hk hs (R1 := R1q ((0 ≤ p ∧ p < zg v 16 8) ∧ 0 ≤ q ∧ q ≤ 5) (zI (portA v p q)) v u) ?_ ?_ (fun w t y5 y6 hw => k w t y5 y6 _ _ hw (by omega) (by omega))
  · rw [ep, eq]
    exact w211 (by omega) (c108 (by omega) hp hq hI.wb hl hN.c0) (fun e w t h => h.2.1)
  · rw [ep, eq]
    refine Gq hI (fun t => mqu_ok (m167 (sc := sc) (d := d - 1) (v := v) (u := t) (p := p) (w := q) (by omega) hI.ew hI.wb hp hq) (fun ok => ?_))
    congr 1
    have h30 := hN.cs.2.1 p ok.1.1 (by omega)
    have hcn : cnt (zg v 93) p (zg v 16 9) = cnt P p (zg v 16 9) := cnt_ext fun s s0 s1 => by rw [(hN.rows s s0 s1).1]
    unfold portM portA mudC
    rw [hcn, ← h30, (hN.pr p ok.1.1 ok.1.2).1, hN.cs.2.2.2.1 p p ok.1.1 (by omega) ok.1.1 (by omega), cnt2_ex (R := P) (fun s s0 s1 => (hN.rows s s0 s1).1)]
theorem case5 (hd : 20 ≤ d) (i0 : 0 ≤ i) (i1 : i + 6 ≤ (sc.1 : Int)) (hn : sc.1 ≤ 60000) (hk : kc + 100 ≤ 601024) (hs : ks + 600 ≤ 7293034) (hI : INV v u) (k : ∀ w t y5 y6 a b, INV w t → a ≤ 100 → b ≤ 600 → zEv sc 234 d 1479 [.ref 3000, .ref 0, .ref 79, .ref 118, .int (zI i), y5, y6] [] (zmk w t) (kc + a) (ks + b) Q) : zEv sc 234 d 418 [.ref 3000, .ref 0, .ref 79, .ref 118, .int (zI i), x5, x6] [] (zmk v u) kc ks Q := by
  obtain ⟨P, L, hN⟩ := hI.now
  obtain ⟨p, hp, ep⟩ := sInt (sc.2 (i + 1).toNat)
  obtain ⟨q, hq, eq⟩ := sInt (sc.2 (i + 2).toNat)
  refine seg5 (by omega) i0 i1 hn hk hs (R1 := R1q ((0 ≤ p ∧ p < zg v 16 9) ∧ 0 ≤ q ∧ q ≤ 5) (stoneA v u L p q) v u) ?_ ?_ (fun w t y5 y6 hw => k w t y5 y6 _ _ hw (by omega) (by omega))
  · rw [ep, eq]
    exact w212 (by omega) (c110 (by omega) hp hq hI.wb hN.cs hN.pn hN.c0) (fun e w t h => h.2.1)
  · rw [ep, eq]
    refine Gq hI (fun t => mqu_ok (m171 (sc := sc) (d := d - 1) (v := v) (u := t) (s := p) (w := q) (by omega) hI.ew hI.wb hp hq) (fun ok => ?_))
    obtain ⟨r1, r2⟩ := hN.rows p ok.1.1 ok.1.2
    obtain ⟨r3, r4, r5⟩ := hN.pt p ok.1.1 ok.1.2
    unfold stoneM stoneA
    by_cases q0 : q = 0
    · rw [if_pos q0, if_pos q0]
    · by_cases q1 : q = 1
      · rw [if_neg q0, if_neg q0, if_pos q1, if_pos q1]
      · rw [if_neg q0, if_neg q0, if_neg q1, if_neg q1]
        rcases (show q = 2 ∨ q = 3 ∨ q = 4 ∨ q = 5 by omega) with z | z | z | z <;> subst z
        · rw [if_pos rfl, ← r3, zI_g, show (40 : Int) * (2 - 2) + p = p by omega]
        · rw [if_neg (by omega), if_pos rfl, ← r2, zI_g, show (40 : Int) * (3 - 2) + p = 40 + p by omega]
        · rw [if_neg (by omega), if_neg (by omega), if_pos rfl, ← r4, zI_g, show (40 : Int) * (4 - 2) + p = 80 + p by omega]
        · rw [if_neg (by omega), if_neg (by omega), if_neg (by omega), ← r5, show (40 : Int) * (5 - 2) + p = 120 + p by omega]
theorem case6 (hd : 20 ≤ d) (i0 : 0 ≤ i) (i1 : i + 6 ≤ (sc.1 : Int)) (hn : sc.1 ≤ 60000) (hk : kc + 100 ≤ 601024) (hs : ks + 600 ≤ 7293034) (hI : INV v u) (k : ∀ w t y5 y6 a b, INV w t → a ≤ 100 → b ≤ 600 → zEv sc 234 d 1479 [.ref 3000, .ref 0, .ref 79, .ref 118, .int (zI i), y5, y6] [] (zmk w t) (kc + a) (ks + b) Q) : zEv sc 234 d 486 [.ref 3000, .ref 0, .ref 79, .ref 118, .int (zI i), x5, x6] [] (zmk v u) kc ks Q := by
  obtain ⟨P, L, hN⟩ := hI.now
  have hl := fun p (p0 : 0 ≤ p) (p1 : p < 6) => hN.cs.len hI.wb.wf p0 p1
  obtain ⟨p, hp, ep⟩ := sInt (sc.2 (i + 1).toNat)
  obtain ⟨q, hq, eq⟩ := sInt (sc.2 (i + 2).toNat)
  refine seg6 (by omega) i0 i1 hn hk hs (R1 := R1q ((0 ≤ p ∧ p < zg v 16 8) ∧ 0 ≤ q ∧ q < zg v 30 p) (zI (zg v 31 (p * 40 + q))) v u) ?_ ?_ (fun w t y5 y6 hw => k w t y5 y6 _ _ hw (by omega) (by omega))
  · rw [ep, eq]
    exact w213 (by omega) (c112 (by omega) hp hq hI.wb hl) (fun e w t h => h.2.1)
  · rw [ep, eq]
    exact Gq hI (fun t => m173 (sc := sc) (d := d - 1) (v := v) (u := t) (by omega) hI.ew hI.wb hN.cs hN.rows hp hq)
theorem case7 (hd : 20 ≤ d) (i0 : 0 ≤ i) (i1 : i + 6 ≤ (sc.1 : Int)) (hn : sc.1 ≤ 60000) (hk : kc + 100 ≤ 601024) (hs : ks + 600 ≤ 7293034) (hI : INV v u) (k : ∀ w t y5 y6 a b, INV w t → a ≤ 100 → b ≤ 600 → zEv sc 234 d 1479 [.ref 3000, .ref 0, .ref 79, .ref 118, .int (zI i), y5, y6] [] (zmk w t) (kc + a) (ks + b) Q) : zEv sc 234 d 554 [.ref 3000, .ref 0, .ref 79, .ref 118, .int (zI i), x5, x6] [] (zmk v u) kc ks Q := by
  obtain ⟨P, L, hN⟩ := hI.now
  obtain ⟨p, hp, ep⟩ := sInt (sc.2 (i + 1).toNat)
  obtain ⟨q, hq, eq⟩ := sInt (sc.2 (i + 2).toNat)
  refine seg7 (by omega) i0 i1 hn hk hs (R1 := R1q ((0 ≤ p ∧ p < zg v 16 10) ∧ 0 ≤ q ∧ q ≤ 3) (zI (shipA v p q)) v u) ?_ ?_ (fun w t y5 y6 hw => k w t y5 y6 _ _ hw (by omega) (by omega))
  · rw [ep, eq]
    exact w214 (by omega) (c113 (by omega) hp hq hI.wb) (fun e w t h => h.2.1)
  · rw [ep, eq]
    exact Gq hI (fun t => m175 (sc := sc) (d := d - 1) (v := v) (u := t) (by omega) hI.ew hI.wb hp hq (fun i i0 i1 => (hN.sh i i0 i1).1))
theorem case10 (hd : 20 ≤ d) (i0 : 0 ≤ i) (i1 : i + 6 ≤ (sc.1 : Int)) (hn : sc.1 ≤ 60000) (hk : kc + 100 ≤ 601024) (hs : ks + 600 ≤ 7293034) (hI : INV v u) (k : ∀ w t y5 y6 a b, INV w t → a ≤ 100 → b ≤ 600 → zEv sc 234 d 1479 [.ref 3000, .ref 0, .ref 79, .ref 118, .int (zI i), y5, y6] [] (zmk w t) (kc + a) (ks + b) Q) : zEv sc 234 d 715 [.ref 3000, .ref 0, .ref 79, .ref 118, .int (zI i), x5, x6] [] (zmk v u) kc ks Q := by
  obtain ⟨P, L, hN⟩ := hI.now
  obtain ⟨p, hp, ep⟩ := sInt (sc.2 (i + 1).toNat)
  obtain ⟨q, hq, eq⟩ := sInt (sc.2 (i + 2).toNat)
  refine seg10 (by omega) i0 i1 hn hk hs (R1 := R1q ((0 ≤ p ∧ p < zg v 33 0) ∧ 0 ≤ q ∧ q < 6) (zI (zg v 34 (p * 6 + q))) v u) ?_ ?_ (fun w t y5 y6 hw => k w t y5 y6 _ _ hw (by omega) (by omega))
  · rw [ep, eq]
    exact w216 (by omega) (c116 (by omega) hp hq hN.c0) (fun e w t h => h.2.1)
  · rw [ep, eq]
    refine Gq hI (fun t => ?_)
    have e := m186 (sc := sc) (d := d - 1) (v := v) (u := t) (k := p) (w := q) (by omega) hp hq (by rw [hN.c1]; exact hN.c0)
    rw [hN.c1] at e
    exact mqu_ok e (fun ok => by rw [zI_g]; exact (hN.lgs p ok.1.1 ok.1.2).2.2.2.2.2 q ok.2.1 ok.2.2)
theorem case11 (hd : 20 ≤ d) (i0 : 0 ≤ i) (i1 : i + 6 ≤ (sc.1 : Int)) (hn : sc.1 ≤ 60000) (hk : kc + 100 ≤ 601024) (hs : ks + 600 ≤ 7293034) (hI : INV v u) (k : ∀ w t y5 y6 a b, INV w t → a ≤ 100 → b ≤ 600 → zEv sc 234 d 1479 [.ref 3000, .ref 0, .ref 79, .ref 118, .int (zI i), y5, y6] [] (zmk w t) (kc + a) (ks + b) Q) : zEv sc 234 d 783 [.ref 3000, .ref 0, .ref 79, .ref 118, .int (zI i), x5, x6] [] (zmk v u) kc ks Q := by
  obtain ⟨P, L, hN⟩ := hI.now
  obtain ⟨p, hp, ep⟩ := sInt (sc.2 (i + 1).toNat)
  obtain ⟨q, hq, eq⟩ := sInt (sc.2 (i + 2).toNat)
  refine seg11 (by omega) i0 i1 hn hk hs (R1 := R1q ((0 ≤ p ∧ p < zg v 16 8) ∧ 0 ≤ q ∧ q < zg v 16 8) (zI (zsg (laidBw v p q) (zg v 33 0) - zsg (laidBw v q p) (zg v 33 0))) v u) ?_ ?_ (fun w t y5 y6 hw => k w t y5 y6 _ _ hw (by omega) (by omega))
  · rw [ep, eq]
    exact w217 (by omega) (c118 (by omega) hp hq hN.c0) (fun e w t h => h.2.1)
  · rw [ep, eq]
    refine Gq hI (fun t => mqu_ok (m187 (sc := sc) (d := d - 1) (v := v) (u := t) (by omega) hI.ew hI.wb hp hq (by rw [hN.c1]; exact hN.c0)) (fun ok => ?_))
    have key : ∀ a b k, 0 ≤ k → k < zg v 33 0 → laidM v a b k = laidBw v a b k := fun a b k k0 k1 => by
      have g : ∀ w, 0 ≤ w → w < 6 → zg v 99 (6 * k + w) = zg v 34 (k * 6 + w) := fun w w0 w1 => by simp only [zg]; rw [(hN.lgs k k0 k1).2.2.2.2.2 w w0 w1]
      unfold laidM laidBw
      rw [g 1 (by omega) (by omega), g 2 (by omega) (by omega), g 4 (by omega) (by omega)]
    rw [hN.c1, ← zsg_sb _ hN.c0.1]
    congr 1
    exact zsg_ext _ (fun j j0 j1 => by rw [key p q j j0 j1, key q p j j0 j1])
theorem case13 (hd : 20 ≤ d) (i0 : 0 ≤ i) (i1 : i + 6 ≤ (sc.1 : Int)) (hn : sc.1 ≤ 60000) (hk : kc + 100 ≤ 601024) (hs : ks + 600 ≤ 7293034) (hI : INV v u) (k : ∀ w t y5 y6 a b, INV w t → a ≤ 100 → b ≤ 600 → zEv sc 234 d 1479 [.ref 3000, .ref 0, .ref 79, .ref 118, .int (zI i), y5, y6] [] (zmk w t) (kc + a) (ks + b) Q) : zEv sc 234 d 919 [.ref 3000, .ref 0, .ref 79, .ref 118, .int (zI i), x5, x6] [] (zmk v u) kc ks Q := by
  obtain ⟨P, L, hN⟩ := hI.now
  obtain ⟨p, hp, ep⟩ := sInt (sc.2 (i + 1).toNat)
  obtain ⟨q, hq, eq⟩ := sInt (sc.2 (i + 2).toNat)
  refine seg13 (by omega) i0 i1 hn hk hs (R1 := R1q ((0 ≤ p ∧ p < zg v 16 8) ∧ 0 ≤ q ∧ q < zg v 16 8) (zI (min (lwF (fun i => trd v q (zg v 31 (p * 40 + i))) (zg v 30 p)).1 (lwF (fun i => trd v q (zg v 31 (p * 40 + i))) (zg v 30 p)).2)) v u) ?_ ?_ (fun w t y5 y6 hw => k w t y5 y6 _ _ hw (by omega) (by omega))
  · rw [ep, eq]
    exact w219 (by omega) (c120 (by omega) hp hq hI.wb hN.cs) (fun e w t h => h.2.1)
  · rw [ep, eq]
    exact Gq hI (fun t => m189 (sc := sc) (d := d - 1) (v := v) (u := t) (by omega) hI.ew hI.wb hN.cs hN.rows hp hq)
theorem case19 (hd : 20 ≤ d) (i0 : 0 ≤ i) (i1 : i + 6 ≤ (sc.1 : Int)) (hn : sc.1 ≤ 60000) (hk : kc + 100 ≤ 601024) (hs : ks + 600 ≤ 7293034) (hI : INV v u) (k : ∀ w t y5 y6 a b, INV w t → a ≤ 100 → b ≤ 600 → zEv sc 234 d 1479 [.ref 3000, .ref 0, .ref 79, .ref 118, .int (zI i), y5, y6] [] (zmk w t) (kc + a) (ks + b) Q) : zEv sc 234 d 1215 [.ref 3000, .ref 0, .ref 79, .ref 118, .int (zI i), x5, x6] [] (zmk v u) kc ks Q := by
  obtain ⟨p, hp, ep⟩ := sInt (sc.2 (i + 1).toNat)
  have hld := hI.ld
  refine seg19 (by omega) i0 i1 hn hk hs (R1 := R1q (0 ≤ p ∧ p < zg v 0 8 ∧ p < 4) (v 78 p) v u) ?_ ?_ (fun w t y5 y6 hw => k w t y5 y6 _ _ hw (by omega) (by omega))
  · rw [ep]
    exact w223 (by omega) (c124 (by omega) hp) (fun e w t h => h.2.1)
  · rw [ep]
    refine Gq hI (fun t => ?_)
    have e := m202 (sc := sc) (d := d - 1) (v := v) (u := t) (i := p) (by omega) hp (by rcases hld with z | z <;> omega)
    refine zEv_mono e ?_
    rintro _ _ ⟨b, w', t', rfl, rfl, ⟨h2, h3, h4⟩ | ⟨h2, h3⟩⟩
    · refine ⟨_, _, _, rfl, rfl, Or.inl ⟨?_, ?_, h4⟩⟩
      · rcases hld with z | z <;> omega
      · rcases hld with z | z
        · omega
        · rw [← h3, ← zI_g v 78 p, ← zI_g v 104 p, z.2.2 p (by omega) (by omega)]
    · refine ⟨_, _, _, rfl, rfl, Or.inr ⟨?_, h3⟩⟩
      rcases hld with z | z <;> omega
theorem case12 (hd : 20 ≤ d) (i0 : 0 ≤ i) (i1 : i + 6 ≤ (sc.1 : Int)) (hn : sc.1 ≤ 60000) (hk : kc + 100 ≤ 601024) (hs : ks + 600 ≤ 7293034) (hI : INV v u) (k : ∀ w t y5 y6 a b, INV w t → a ≤ 100 → b ≤ 600 → zEv sc 234 d 1479 [.ref 3000, .ref 0, .ref 79, .ref 118, .int (zI i), y5, y6] [] (zmk w t) (kc + a) (ks + b) Q) : zEv sc 234 d 851 [.ref 3000, .ref 0, .ref 79, .ref 118, .int (zI i), x5, x6] [] (zmk v u) kc ks Q := by
  obtain ⟨P, L, hN⟩ := hI.now
  obtain ⟨p, hp, ep⟩ := sInt (sc.2 (i + 1).toNat)
  obtain ⟨q, hq, eq⟩ := sInt (sc.2 (i + 2).toNat)
  have c0 := hN.c0
  refine seg12 (by omega) i0 i1 hn hk hs (R1 := fun y w t => (∃ x t0, (((0 ≤ p ∧ p < zg v 16 9) ∧ 0 ≤ q ∧ q < zg v 16 9) ∧ (∃ r, zI r = x ∧ ((p = q ∧ r = -1) ∨ (¬ p = q ∧ frst (fun k => ptC v u p k = ptC v u q k) (zg v 33 0) r))) ∧ v = w ∧ u = t0) ∧ zul t0 118 0 x.toInt64 = t ∧ zI 0 = y) ∨ (∃ e : Nat, e < 2 ∧ (¬ ((0 ≤ p ∧ p < zg v 16 9) ∧ 0 ≤ q ∧ q < zg v 16 9) ∧ e = 0 ∧ v = w ∧ u = t) ∧ zI 1 = y)) ?_ ?_ (fun w t y5 y6 hw => k w t y5 y6 _ _ hw (by omega) (by omega))
  · rw [ep, eq]
    exact w218 (by omega) (c119 (by omega) hp hq hI.wb.wf hN.c0) (fun e w t h => h.2.1)
  · rw [ep, eq]
    intro y w t hR
    rcases hR with ⟨x, t0, ⟨h1, ⟨r, rfl, hr⟩, rfl, rfl⟩, rfl, rfl⟩ | ⟨e, he, ⟨h1, rfl, rfl, rfl⟩, rfl⟩
    · refine zEv_mono (m188 (by omega) hI.ew hI.wb hp hq hN.c1 rfl hN.c0) ?_
      rintro _ _ ⟨b, w', t', rfl, rfl, ⟨_, ⟨r', rfl, hr'⟩, rfl, rfl⟩ | ⟨h2, _⟩⟩
      · have er : r = r' := by
          rcases hr with ⟨z1, z2⟩ | ⟨z1, z2⟩ <;> rcases hr' with ⟨y1, y2⟩ | ⟨y1, y2⟩
          · omega
          · exact absurd z1 y1
          · exact absurd y1 z1
          · refine frst_u z2 ?_
            have eqv : ∀ k, 0 ≤ k → k ≤ zg v 33 0 → ((hrow v k p).toInt = (hrow v k q).toInt ↔ ptC v u p k = ptC v u q k) := fun k k0 k1 => by rw [hN.hp k k0 k1 p h1.1.1 h1.1.2, hN.hp k k0 k1 q h1.2.1 h1.2.2]
            rcases y2 with ⟨x1, x2⟩ | ⟨x1, x2, x3, x4⟩
            · exact Or.inl ⟨x1, fun k k0 k1 z => x2 k k0 k1 ((eqv k k0 k1).2 z)⟩
            · exact Or.inr ⟨x1, x2, (eqv r' x1 x2).1 x3, fun k k0 k1 z => x4 k k0 k1 ((eqv k k0 (by omega)).2 z)⟩
        subst er
        exact ⟨_, _, _, rfl, rfl, ⟨0, rfl, by omega, by rw [zu_same], fun _ => by simp [zul]⟩, INV_q (fun a q h => zu_ne h) (fun a k h => by simp only [zul]; rw [if_neg (fun z => h z.1)]) hI⟩
      · exact absurd h1 h2
    · refine zEv_mono (m188 (by omega) hI.ew hI.wb hp hq hN.c1 rfl hN.c0) ?_
      rintro _ _ ⟨b, w', t', rfl, rfl, ⟨h2, _⟩ | ⟨_, rfl, rfl, rfl⟩⟩
      · exact absurd h2 h1
      · exact ⟨_, _, _, rfl, rfl, ⟨1, rfl, by omega, by rw [zu_same], fun z => absurd z (by omega)⟩, INV_q (fun a q h => by rw [zu_ne h, zu_ne h]) (fun a k h => rfl) hI⟩
end
