/-! the calls of the law that change something -/
section
variable {sc : Nat × (Nat → Int32)} {d : Nat} {v : zV} {u : zU} {kc ks : Nat} {Q : zPost} {i : Int} {x5 x6 : Value}
abbrev R1t (A B : Prop) (X : Int32) (v : zV) (u : zU) : Int32 → zV → zU → Prop := fun y w t => (∃ x t0, ((A ∧ B) ∧ X = x ∧ v = w ∧ u = t0) ∧ zul t0 118 0 x.toInt64 = t ∧ zI 0 = y) ∨ (∃ e : Nat, e < 2 ∧ (((¬ A ∧ e = 0) ∨ (A ∧ ¬ B ∧ e = 1)) ∧ v = w ∧ u = t) ∧ zI (if e = 0 then 1 else 2) = y)
theorem Gt {A B : Prop} {X : Int32} {M : Nat} {lm : List Value} (hI : INV v u) (hm : ∀ t, zEv sc M d 0 lm [] (zmk v t) 0 0 (zPi fun y w' t' => (((A ∧ B) ∧ X = y ∧ zu v 79 2 (zI 0) = w') ∨ (¬ A ∧ zI 0 = y ∧ zu (zu v 79 2 (zI 0)) 79 2 (zI 1) = w') ∨ (A ∧ ¬ B ∧ zI 0 = y ∧ zu (zu v 79 2 (zI 0)) 79 2 (zI 2) = w')) ∧ t = t')) : ∀ y w t, R1t A B X v u y w t → zEv sc M d 0 lm [] (zmk w t) 0 0 (zPi fun b w' t' => Gd y b w' t') := by
  intro y w t hR
  rcases hR with ⟨x, t0, ⟨h1, rfl, rfl, rfl⟩, rfl, rfl⟩ | ⟨e, he, ⟨h1, rfl, rfl⟩, rfl⟩
  · refine zEv_mono (hm _) ?_
    rintro _ _ ⟨b, w', t', rfl, rfl, ⟨_, rfl, rfl⟩ | ⟨h2, _⟩ | ⟨_, h2, _⟩, rfl⟩
    · exact ⟨_, _, _, rfl, rfl, ⟨0, rfl, by omega, by rw [zu_same], fun _ => by simp [zul]⟩, INV_q (fun a q h => zu_ne h) (fun a k h => by simp only [zul]; rw [if_neg (fun z => h z.1)]) hI⟩
    · exact absurd h1.1 h2
    · exact absurd h1.2 h2
  · refine zEv_mono (hm _) ?_
    rintro _ _ ⟨b, w', t', rfl, rfl, ⟨h2, _⟩ | ⟨h2, rfl, rfl⟩ | ⟨h2, h3, rfl, rfl⟩, rfl⟩
    · rcases h1 with ⟨z, _⟩ | ⟨_, z, _⟩
      · exact absurd h2.1 z
      · exact absurd h2.2 z
    · rcases h1 with ⟨z, rfl⟩ | ⟨z, _⟩
      · exact ⟨_, _, _, rfl, rfl, ⟨1, rfl, by omega, by rw [zu_same], fun z => absurd z (by omega)⟩, INV_q (fun a q h => by rw [zu_ne h, zu_ne h]) (fun a k h => rfl) hI⟩
      · exact absurd z h2
    · rcases h1 with ⟨z, _⟩ | ⟨z, _, rfl⟩
      · exact absurd h2 z
      · exact ⟨_, _, _, rfl, rfl, ⟨2, rfl, by omega, by rw [zu_same], fun z => absurd z (by omega)⟩, INV_q (fun a q h => by rw [zu_ne h, zu_ne h]) (fun a k h => rfl) hI⟩
theorem case0 (hd : 200 ≤ d) (i0 : 0 ≤ i) (i1 : i + 6 ≤ (sc.1 : Int)) (hn : sc.1 ≤ 60000) (hk : kc + 100 ≤ 601024) (hs : ks + 600 ≤ 7293034) (hI : INV v u) (k : ∀ w t y5 y6 a b, INV w t → a ≤ 100 → b ≤ 600 → zEv sc 234 d 1479 [.ref 3000, .ref 0, .ref 79, .ref 118, .int (zI i), y5, y6] [] (zmk w t) (kc + a) (ks + b) Q) : zEv sc 234 d 152 [.ref 3000, .ref 0, .ref 79, .ref 118, .int (zI i), x5, x6] [] (zmk v u) kc ks Q := by
  have hT := hI.tp
  have hT1 := hT.1
  refine seg0 (by omega) i0 i1 hn hk hs (R1 := fun y w t => ((580 < zg v 2 1 ∧ zI (-1) = y ∧ v = w) ∨ (zg v 2 1 ≤ 580 ∧ zI (zg v 2 1 + 20) = y ∧ FD v (zg v 2 1) 20 (fdF (sc.2 (i + 1).toNat) (sc.2 (i + 2).toNat) (sc.2 (i + 3).toNat) (sc.2 (i + 4).toNat) (sc.2 (i + 5).toNat)) w)) ∧ u = t) (c98 (by omega) rfl hT.1.1 hT.1.2) ?_ (fun w t y5 y6 hw => k w t y5 y6 _ _ hw (by omega) (by omega))
  rintro y w t ⟨h1, rfl⟩
  rcases h1 with ⟨h1, rfl, rfl⟩ | ⟨h1, rfl, h2, h3, h4⟩
  · refine zEv_mono (m131 rfl (by rw [hT.2.1]; exact hT.1.1) (by rw [hT.2.1]; exact hT.1.2)) ?_
    rintro _ _ ⟨b, w', t', rfl, rfl, ⟨z1, z2, z3⟩ | ⟨z1, z2, z3⟩, rfl⟩
    · refine ⟨_, _, _, rfl, rfl, z2, ?_⟩
      subst z3
      exact INV_q (fun a q h => zu_ne h) (fun _ _ _ => rfl) hI
    · rw [hT.2.1] at z1; omega
  · have e14 : zg w 79 14 = zg v 2 1 := by rw [← hT.2.1]; simp only [zg]; rw [h2 79 14 (by omega) (by omega)]
    refine zEv_mono (m131 (l := zg v 2 1) e14 (by omega) (by omega)) ?_
    rintro _ _ ⟨b, w', t', rfl, rfl, ⟨z1, z2, z3⟩ | ⟨z1, z2, ⟨f1, f2, f3, f4⟩⟩, rfl⟩
    · omega
    · refine ⟨_, _, _, rfl, rfl, z2, ?_⟩
      have fr : ∀ a q, ¬ a = 3 → ¬ (a = 2 ∧ q = 1) → ¬ a = 92 → ¬ (a = 79 ∧ (q = 2 ∨ q = 14)) → w' a q = v a q := fun a q g1 g2 g3 g4 => by rw [f1 a q g3 g4, h2 a q g1 g2]
      have e21 : zg w' 2 1 = zg v 2 1 + 20 := by rw [← h3]; simp only [zg]; rw [f1 2 1 (by omega) (by omega)]
      refine ⟨WB_w3 (fun a q g1 g2 => fr a q (by omega) (by omega) (by omega) (by omega)) hI.wb, EW_wr (fun a q g1 g2 g3 => fr a q (by omega) (by omega) (by omega) (by omega)) hI.ew, pTF_w (fr _ _ (by omega) (by omega) (by omega) (by omega)) (fun q => fr _ _ (by omega) (by omega) (by omega) (by omega)) (fr _ _ (by omega) (by omega) (by omega) (by omega)) (fun q => fr _ _ (by omega) (by omega) (by omega) (by omega)) hI.tf, ⟨by omega, by rw [e21]; exact f3, fun j j0 j1 => ?_⟩, pFL_w (fr _ _ (by omega) (by omega) (by omega) (by omega)) (fr _ _ (by omega) (by omega) (by omega) (by omega)) hI.fl, RS_k hI.wb (RCw_of fun a q hh => fr a q (by omega) (by omega) (by omega) (by omega)) (fun a q g1 g2 => fr a q (by omega) (by omega) (by omega) (by omega)) (fun _ _ _ => rfl) hI.rs, pLD_w (fr _ _ (by omega) (by omega) (by omega) (by omega)) (fun q => fr _ _ (by omega) (by omega) (by omega) (by omega)) (fr _ _ (by omega) (by omega) (by omega) (by omega)) (fun q => fr _ _ (by omega) (by omega) (by omega) (by omega)) hI.ld, pIM_w hI.wb (fr _ _ (by omega) (by omega) (by omega) (by omega)) (fr _ _ (by omega) (by omega) (by omega) (by omega)) (fun a q hh => fr a q (by omega) (by omega) (by omega) (by omega)) (fun q g1 g2 => fr 79 q (by omega) (by omega) (by omega) (by omega)) (fun _ => rfl) hI.im⟩
      rw [e21] at j1
      have e3 : w' 3 j = w 3 j := f1 3 j (by omega) (by omega)
      simp only [zg]
      rw [e3, h4 j, f4 j]
      by_cases e : zg v 2 1 ≤ j ∧ j < zg v 2 1 + 20
      · rw [if_pos e, if_pos e]
        have r := by_rg (fdF (sc.2 (i + 1).toNat) (sc.2 (i + 2).toNat) (sc.2 (i + 3).toNat) (sc.2 (i + 4).toNat) (sc.2 (i + 5).toNat) (j - zg v 2 1))
        exact ⟨⟨r.1, r.2.1⟩, r.2.2⟩
      · rw [if_neg e, if_neg e, h2 92 j (by omega) (by omega)]
        exact hT.2.2 j j0 (by omega)
theorem case2 (hd : 200 ≤ d) (i0 : 0 ≤ i) (i1 : i + 6 ≤ (sc.1 : Int)) (hn : sc.1 ≤ 60000) (hk : kc + 100 ≤ 601024) (hs : ks + 600 ≤ 7293034) (hI : INV v u) (k : ∀ w t y5 y6 a b, INV w t → a ≤ 100 → b ≤ 600 → zEv sc 234 d 1479 [.ref 3000, .ref 0, .ref 79, .ref 118, .int (zI i), y5, y6] [] (zmk w t) (kc + a) (ks + b) Q) : zEv sc 234 d 281 [.ref 3000, .ref 0, .ref 79, .ref 118, .int (zI i), x5, x6] [] (zmk v u) kc ks Q := by
  refine seg2 (by omega) i0 i1 hn hk hs (R1 := fun y w t => zI (zg v 0 7) = y ∧ v = w ∧ u = t) c99 ?_ (fun w t y5 y6 hw => k w t y5 y6 _ _ hw (by omega) (by omega))
  rintro y w t ⟨rfl, rfl, rfl⟩
  refine zEv_mono m161 ?_
  rintro _ _ ⟨b, w', t', rfl, rfl, rfl, rfl, rfl⟩
  exact ⟨_, _, _, rfl, rfl, by rw [hI.fl], INV_q (fun a q h => zu_ne h) (fun _ _ _ => rfl) hI⟩
theorem case15 (hd : 200 ≤ d) (i0 : 0 ≤ i) (i1 : i + 6 ≤ (sc.1 : Int)) (hn : sc.1 ≤ 60000) (hk : kc + 100 ≤ 601024) (hs : ks + 600 ≤ 7293034) (hI : INV v u) (k : ∀ w t y5 y6 a b, INV w t → a ≤ 100 → b ≤ 600 → zEv sc 234 d 1479 [.ref 3000, .ref 0, .ref 79, .ref 118, .int (zI i), y5, y6] [] (zmk w t) (kc + a) (ks + b) Q) : zEv sc 234 d 1055 [.ref 3000, .ref 0, .ref 79, .ref 118, .int (zI i), x5, x6] [] (zmk v u) kc ks Q := by
  refine seg15 (by omega) i0 i1 hn hk hs (R1 := fun w t => zu (zu v 28 9 (zI 0)) 28 10 (zI 0) = w ∧ u = t) c101 ?_ (fun w t y5 y6 hw => k w t y5 y6 _ _ hw (by omega) (by omega))
  rintro w t ⟨rfl, rfl⟩
  refine zEv_mono m191 ?_
  rintro _ _ ⟨w', t', rfl, rfl, rfl, rfl⟩
  refine ⟨_, _, rfl, rfl, ?_⟩
  have fr : ∀ a q, ¬ (a = 28 ∧ (q = 9 ∨ q = 10)) → ¬ (a = 79 ∧ (q = 2 ∨ q = 32 ∨ q = 33)) → (zu (zu (zu (zu (zu v 28 9 (zI 0)) 28 10 (zI 0)) 79 2 (zI 0)) 79 32 (zI 0)) 79 33 (zI 0)) a q = v a q := fun a q g1 g2 => by rw [zu_ne (by omega), zu_ne (by omega), zu_ne (by omega), zu_ne (by omega), zu_ne (by omega)]
  refine INV_s (fun a q hh => fr a q (by omega) (by omega)) (fun _ => rfl) hI (RS_g hI.wb (RCg_of fun a q hh => fr a q (by omega) (by omega)) ⟨?_, ?_, fun i i0 i1 => ?_⟩ ⟨?_, ?_, fun i i0 i1 => ?_⟩ (St10_w (fun a q hh => fr a q (by omega) (by omega)) hI.rs.l8.2.2) (fun a q g1 g2 => fr a q (by omega) (by omega)) (fun _ _ _ => rfl) hI.rs)
  all_goals first
    | (rw [zg_na (by decide), zg_na (by decide), zg_na (by decide), zg_ne (by omega), zg_same (by omega)]; omega)
    | (rw [zg_ne (by omega), zg_same (by omega), zg_na (by decide), zg_na (by decide), zg_na (by decide), zg_ne (by omega), zg_same (by omega)])
    | (exfalso; rw [zg_na (by decide), zg_na (by decide), zg_na (by decide), zg_ne (by omega), zg_same (by omega)] at i1; omega)
    | (rw [zg_na (by decide), zg_na (by decide), zg_na (by decide), zg_same (by omega)]; omega)
    | (rw [zg_same (by omega), zg_na (by decide), zg_na (by decide), zg_na (by decide), zg_same (by omega)])
    | (exfalso; rw [zg_na (by decide), zg_na (by decide), zg_na (by decide), zg_same (by omega)] at i1; omega)
theorem case14 (hd : 200 ≤ d) (i0 : 0 ≤ i) (i1 : i + 6 ≤ (sc.1 : Int)) (hn : sc.1 ≤ 60000) (hk : kc + 100 ≤ 601024) (hs : ks + 600 ≤ 7293034) (hI : INV v u) (k : ∀ w t y5 y6 a b, INV w t → a ≤ 100 → b ≤ 600 → zEv sc 234 d 1479 [.ref 3000, .ref 0, .ref 79, .ref 118, .int (zI i), y5, y6] [] (zmk w t) (kc + a) (ks + b) Q) : zEv sc 234 d 987 [.ref 3000, .ref 0, .ref 79, .ref 118, .int (zI i), x5, x6] [] (zmk v u) kc ks Q := by
  obtain ⟨P, L, hN⟩ := hI.now
  obtain ⟨h8, h9, h10⟩ := hI.rs.l8
  obtain ⟨p, hp, ep⟩ := sInt (sc.2 (i + 1).toNat)
  obtain ⟨q, hq, eq⟩ := sInt (sc.2 (i + 2).toNat)
  obtain ⟨l1, l2, l3⟩ := id h8
  have b0 := hI.wb.1
  have b2 := hI.wb.2.2.1
  refine seg14 (by omega) i0 i1 hn hk hs (R1 := fun y w t => (∃ x t0, (((0 ≤ p ∧ p < zg v 16 10) ∧ 0 ≤ q ∧ q < zg v 16 8) ∧ ((zg v 28 9 = 4 ∧ zI (-1) = x ∧ zu v 44 2 (zI (zg v 44 2 + 1)) = w) ∨ (zg v 28 9 < 4 ∧ zI (zg v 28 9 + 1) = x ∧ zu (zu (zu v 39 (zg v 28 9) (zI p)) 40 (zg v 28 9) (zI q)) 28 9 (zI (zg v 28 9 + 1)) = w)) ∧ u = t0) ∧ zul t0 118 0 x.toInt64 = t ∧ zI 0 = y) ∨ (∃ e : Nat, e < 2 ∧ (¬ ((0 ≤ p ∧ p < zg v 16 10) ∧ 0 ≤ q ∧ q < zg v 16 8) ∧ e = 0 ∧ v = w ∧ u = t) ∧ zI 1 = y)) ?_ ?_ (fun w t y5 y6 hw => k w t y5 y6 _ _ hw (by omega) (by omega))
  · rw [ep, eq]
    exact w220 (by omega) (c121 (by omega) hp hq l1) (fun e w t h => h.2.1)
  · rw [ep, eq]
    intro y w t hR
    rcases hR with ⟨x, t0, ⟨h1, h2, rfl⟩, rfl, rfl⟩ | ⟨e, he, ⟨h1, rfl, rfl, rfl⟩, rfl⟩
    · have low : ∀ a q, ¬ (a = 28 ∨ a = 39 ∨ a = 40 ∨ a = 44) → w a q = v a q := by
        intro a q ha
        rcases h2 with ⟨_, _, rfl⟩ | ⟨_, _, rfl⟩
        · exact zu_ne (by omega)
        · rw [zu_ne (by omega), zu_ne (by omega), zu_ne (by omega)]
      have z16 : zg w 16 = zg v 16 := zg_fn fun q => low 16 q (by omega)
      have z32 : zg w 79 32 = zg v 28 9 := by rw [← l2]; simp only [zg]; rw [low 79 32 (by omega)]
      refine zEv_mono (m190 (by omega) (EW_c (fun a q hh => low a q (by omega)) hI.ew) (WB_w3 (fun a q g1 g2 => low a q (by omega)) hI.wb) hp hq (by rw [z32]; exact l1)) ?_
      rintro _ _ ⟨b, w', t', rfl, rfl, ⟨_, g2, rfl⟩ | ⟨g1, _⟩⟩
      · rw [z32] at g2
        rcases h2 with ⟨a1, rfl, hw⟩ | ⟨a1, rfl, hw⟩ <;> rcases g2 with ⟨c1, rfl, hw'⟩ | ⟨c1, rfl, hw'⟩
        · have fr : ∀ a q, ¬ ((a = 44 ∨ a = 91) ∧ q = 2) → ¬ (a = 79 ∧ q = 2) → w' a q = v a q := fun a q g1 g2 => by rw [← hw', zu_ne (by omega), zu_ne (by omega), ← hw, zu_ne (by omega)]
          refine ⟨_, _, _, rfl, rfl, ⟨0, rfl, by omega, by rw [← hw', zu_ne (by omega), zu_same], fun _ => by simp [zul]⟩, INV_s (fun a q hh => fr a q (by omega) (by omega)) (fun k => by simp [zul]) hI (RS_g hI.wb (RCg_of fun a q hh => fr a q (by omega) (by omega)) (Lg8_w (fun a q hh => fr a q (by omega) (by omega)) h8) (Rd9_w (fun a q hh => fr a q (by omega) (by omega)) h9) (St10_i (j := 2) (by omega) (by omega) (fun a q hh g => fr a q (by omega) (by omega)) ?_ ?_ h10) (fun a q g1 g2 => fr a q (by omega) (by omega)) (fun k _ _ => by simp [zul]) hI.rs)⟩
          · rw [← hw', zu_ne (by omega), zu_ne (by omega), ← hw, zu_same]
          · rw [← hw', zu_same]; simp only [zg]; rw [low 91 2 (by omega)]
        · omega
        · omega
        · have fr : ∀ a q, ¬ ((a = 39 ∨ a = 40 ∨ a = 100 ∨ a = 101) ∧ q = zg v 28 9) → ¬ (a = 28 ∧ q = 9) → ¬ (a = 79 ∧ (q = 2 ∨ q = 32)) → w' a q = v a q := fun a q g1 g2 g3 => by rw [← hw', zu_ne (by omega), zu_ne (by omega), zu_ne (by omega), zu_ne (by omega), ← hw, zu_ne (by omega), zu_ne (by omega), zu_ne (by omega)]
          have e28 : zg w' 28 9 = zg v 28 9 + 1 := by rw [← hw', zg_na (by decide), zg_na (by decide), zg_na (by decide), zg_na (by decide), ← hw, zg_same (by omega)]
          have e32 : zg w' 79 32 = zg v 28 9 + 1 := by rw [← hw', zg_same (by omega)]
          have f16 : zg w' 16 = zg v 16 := zg_fn fun q => fr 16 q (by omega) (by omega) (by omega)
          refine ⟨_, _, _, rfl, rfl, ⟨0, rfl, by omega, by rw [← hw', zu_ne (by omega), zu_ne (by omega), zu_ne (by omega), zu_same], fun _ => by simp [zul]⟩, INV_s (fun a q hh => fr a q (by omega) (by omega) (by omega)) (fun k => by simp [zul]) hI (RS_g hI.wb (RCg_of fun a q hh => fr a q (by omega) (by omega) (by omega)) ⟨by omega, by omega, fun j j0 j1 => ?_⟩ (Rd9_w (fun a q hh => fr a q (by omega) (by omega) (by omega)) h9) (St10_w (fun a q hh => fr a q (by omega) (by omega) (by omega)) h10) (fun a q g1 g2 => fr a q (by omega) (by omega) (by omega)) (fun k _ _ => by simp [zul]) hI.rs)⟩
          rw [e28] at j1
          rw [f16]
          by_cases e : j = zg v 28 9
          · have y39 : zg w' 39 j = p := by rw [e, ← hw', zg_na (by decide), zg_na (by decide), zg_na (by decide), zg_na (by decide), ← hw, zg_na (by decide), zg_na (by decide), zg_same (by omega)]
            have y40 : zg w' 40 j = q := by rw [e, ← hw', zg_na (by decide), zg_na (by decide), zg_na (by decide), zg_na (by decide), ← hw, zg_na (by decide), zg_same (by omega)]
            have y100 : zg w' 100 j = p := by rw [e, ← hw', zg_na (by decide), zg_na (by decide), zg_same (by omega)]
            have y101 : zg w' 101 j = q := by rw [e, ← hw', zg_na (by decide), zg_same (by omega)]
            rw [y39, y40, y100, y101]
            exact ⟨⟨rfl, h1.1⟩, rfl, h1.2⟩
          · have g : ∀ a, (a = 39 ∨ a = 40 ∨ a = 100 ∨ a = 101) → zg w' a j = zg v a j := fun a ha => by simp only [zg]; rw [fr a j (by omega) (by omega) (by omega)]
            rw [g 39 (by omega), g 40 (by omega), g 100 (by omega), g 101 (by omega)]
            exact l3 j j0 (by omega)
      · exact absurd (by rw [z16]; exact h1) g1
    · refine zEv_mono (m190 (by omega) hI.ew hI.wb hp hq (by rw [l2]; exact l1)) ?_
      rintro _ _ ⟨b, w', t', rfl, rfl, ⟨g1, _⟩ | ⟨_, rfl, rfl, rfl⟩⟩
      · exact absurd g1 h1
      · exact ⟨_, _, _, rfl, rfl, ⟨1, rfl, by omega, by rw [zu_same], fun z => absurd z (by omega)⟩, INV_q (fun a q h => by rw [zu_ne h, zu_ne h]) (fun a k h => rfl) hI⟩
theorem case17 (hd : 200 ≤ d) (i0 : 0 ≤ i) (i1 : i + 6 ≤ (sc.1 : Int)) (hn : sc.1 ≤ 60000) (hk : kc + 100 ≤ 601024) (hs : ks + 600 ≤ 7293034) (hI : INV v u) (k : ∀ w t y5 y6 a b, INV w t → a ≤ 100 → b ≤ 600 → zEv sc 234 d 1479 [.ref 3000, .ref 0, .ref 79, .ref 118, .int (zI i), y5, y6] [] (zmk w t) (kc + a) (ks + b) Q) : zEv sc 234 d 1122 [.ref 3000, .ref 0, .ref 79, .ref 118, .int (zI i), x5, x6] [] (zmk v u) kc ks Q := by
  obtain ⟨P, L, hN⟩ := hI.now
  obtain ⟨h8, h9, h10⟩ := hI.rs.l8
  obtain ⟨p, hp, ep⟩ := sInt (sc.2 (i + 1).toNat)
  obtain ⟨q, hq, eq⟩ := sInt (sc.2 (i + 2).toNat)
  obtain ⟨r, hr, er⟩ := sInt (sc.2 (i + 3).toNat)
  obtain ⟨l1, l2, l3⟩ := id h9
  have b0 := hI.wb.1
  refine seg17 (by omega) i0 i1 hn hk hs (R1 := fun y w t => (∃ x t0, (((0 ≤ p ∧ p < zg v 16 8) ∧ 0 ≤ q ∧ q < zg v 16 8) ∧ (((zg v 28 10 = 10 ∨ ¬ (0 ≤ r ∧ r ≤ 40)) ∧ zI (-1) = x ∧ zu v 44 2 (zI (zg v 44 2 + 1)) = w) ∨ ((zg v 28 10 < 10 ∧ 0 ≤ r ∧ r ≤ 40) ∧ zI (zg v 28 10 + 1) = x ∧ zu (zu (zu (zu v 41 (zg v 28 10) (zI p)) 42 (zg v 28 10) (zI q)) 43 (zg v 28 10) (zI r)) 28 10 (zI (zg v 28 10 + 1)) = w)) ∧ u = t0) ∧ zul t0 118 0 x.toInt64 = t ∧ zI 0 = y) ∨ (∃ e : Nat, e < 2 ∧ (¬ ((0 ≤ p ∧ p < zg v 16 8) ∧ 0 ≤ q ∧ q < zg v 16 8) ∧ e = 0 ∧ v = w ∧ u = t) ∧ zI 1 = y)) ?_ ?_ (fun w t y5 y6 hw => k w t y5 y6 _ _ hw (by omega) (by omega))
  · rw [ep, eq, er]
    exact w222 (by omega) (c123 (by omega) hp hq hr l1) (fun e w t h => h.2.1)
  · rw [ep, eq, er]
    intro y w t hR
    rcases hR with ⟨x, t0, ⟨h1, h2, rfl⟩, rfl, rfl⟩ | ⟨e, he, ⟨h1, rfl, rfl, rfl⟩, rfl⟩
    · have low : ∀ a q, ¬ (a = 28 ∨ a = 41 ∨ a = 42 ∨ a = 43 ∨ a = 44) → w a q = v a q := by
        intro a q ha
        rcases h2 with ⟨_, _, rfl⟩ | ⟨_, _, rfl⟩
        · exact zu_ne (by omega)
        · rw [zu_ne (by omega), zu_ne (by omega), zu_ne (by omega), zu_ne (by omega)]
      have z16 : zg w 16 = zg v 16 := zg_fn fun q => low 16 q (by omega)
      have z33 : zg w 79 33 = zg v 28 10 := by rw [← l2]; simp only [zg]; rw [low 79 33 (by omega)]
      refine zEv_mono (m200 (by omega) (EW_c (fun a q hh => low a q (by omega)) hI.ew) (WB_w3 (fun a q g1 g2 => low a q (by omega)) hI.wb) hp hq hr (by rw [z33]; exact l1)) ?_
      rintro _ _ ⟨b, w', t', rfl, rfl, ⟨_, g2, rfl⟩ | ⟨g1, _⟩⟩
      · rw [z33] at g2
        rcases h2 with ⟨a1, rfl, hw⟩ | ⟨a1, rfl, hw⟩ <;> rcases g2 with ⟨c1, rfl, hw'⟩ | ⟨c1, rfl, hw'⟩
        · have fr : ∀ a q, ¬ ((a = 44 ∨ a = 91) ∧ q = 2) → ¬ (a = 79 ∧ q = 2) → w' a q = v a q := fun a q g1 g2 => by rw [← hw', zu_ne (by omega), zu_ne (by omega), ← hw, zu_ne (by omega)]
          refine ⟨_, _, _, rfl, rfl, ⟨0, rfl, by omega, by rw [← hw', zu_ne (by omega), zu_same], fun _ => by simp [zul]⟩, INV_s (fun a q hh => fr a q (by omega) (by omega)) (fun k => by simp [zul]) hI (RS_g hI.wb (RCg_of fun a q hh => fr a q (by omega) (by omega)) (Lg8_w (fun a q hh => fr a q (by omega) (by omega)) h8) (Rd9_w (fun a q hh => fr a q (by omega) (by omega)) h9) (St10_i (j := 2) (by omega) (by omega) (fun a q hh g => fr a q (by omega) (by omega)) ?_ ?_ h10) (fun a q g1 g2 => fr a q (by omega) (by omega)) (fun k _ _ => by simp [zul]) hI.rs)⟩
          · rw [← hw', zu_ne (by omega), zu_ne (by omega), ← hw, zu_same]
          · rw [← hw', zu_same]; simp only [zg]; rw [low 91 2 (by omega)]
        · omega
        · omega
        · have fr : ∀ a q, ¬ (((41 ≤ a ∧ a ≤ 43) ∨ (105 ≤ a ∧ a ≤ 107)) ∧ q = zg v 28 10) → ¬ (a = 28 ∧ q = 10) → ¬ (a = 79 ∧ (q = 2 ∨ q = 33)) → w' a q = v a q := fun a q g1 g2 g3 => by rw [← hw', zu_ne (by omega), zu_ne (by omega), zu_ne (by omega), zu_ne (by omega), zu_ne (by omega), ← hw, zu_ne (by omega), zu_ne (by omega), zu_ne (by omega), zu_ne (by omega)]
          have e28 : zg w' 28 10 = zg v 28 10 + 1 := by rw [← hw', zg_na (by decide), zg_na (by decide), zg_na (by decide), zg_na (by decide), zg_na (by decide), ← hw, zg_same (by omega)]
          have e33 : zg w' 79 33 = zg v 28 10 + 1 := by rw [← hw', zg_same (by omega)]
          have f16 : zg w' 16 = zg v 16 := zg_fn fun q => fr 16 q (by omega) (by omega) (by omega)
          refine ⟨_, _, _, rfl, rfl, ⟨0, rfl, by omega, by rw [← hw', zu_ne (by omega), zu_ne (by omega), zu_ne (by omega), zu_ne (by omega), zu_same], fun _ => by simp [zul]⟩, INV_s (fun a q hh => fr a q (by omega) (by omega) (by omega)) (fun k => by simp [zul]) hI (RS_g hI.wb (RCg_of fun a q hh => fr a q (by omega) (by omega) (by omega)) (Lg8_w (fun a q hh => fr a q (by omega) (by omega) (by omega)) h8) ⟨by omega, by omega, fun j j0 j1 => ?_⟩ (St10_w (fun a q hh => fr a q (by omega) (by omega) (by omega)) h10) (fun a q g1 g2 => fr a q (by omega) (by omega) (by omega)) (fun k _ _ => by simp [zul]) hI.rs)⟩
          rw [e28] at j1
          rw [f16]
          by_cases e : j = zg v 28 10
          · have y41 : zg w' 41 j = p := by rw [e, ← hw', zg_na (by decide), zg_na (by decide), zg_na (by decide), zg_na (by decide), zg_na (by decide), ← hw, zg_na (by decide), zg_na (by decide), zg_na (by decide), zg_same (by omega)]
            have y42 : zg w' 42 j = q := by rw [e, ← hw', zg_na (by decide), zg_na (by decide), zg_na (by decide), zg_na (by decide), zg_na (by decide), ← hw, zg_na (by decide), zg_na (by decide), zg_same (by omega)]
            have y43 : zg w' 43 j = r := by rw [e, ← hw', zg_na (by decide), zg_na (by decide), zg_na (by decide), zg_na (by decide), zg_na (by decide), ← hw, zg_na (by decide), zg_same (by omega)]
            have y105 : zg w' 105 j = p := by rw [e, ← hw', zg_na (by decide), zg_na (by decide), zg_na (by decide), zg_same (by omega)]
            have y106 : zg w' 106 j = q := by rw [e, ← hw', zg_na (by decide), zg_na (by decide), zg_same (by omega)]
            have y107 : zg w' 107 j = r := by rw [e, ← hw', zg_na (by decide), zg_same (by omega)]
            rw [y41, y42, y43, y105, y106, y107]
            exact ⟨⟨rfl, h1.1⟩, ⟨rfl, h1.2⟩, rfl, a1.2⟩
          · have g : ∀ a, ((41 ≤ a ∧ a ≤ 43) ∨ (105 ≤ a ∧ a ≤ 107)) → zg w' a j = zg v a j := fun a ha => by simp only [zg]; rw [fr a j (by omega) (by omega) (by omega)]
            rw [g 41 (by omega), g 42 (by omega), g 43 (by omega), g 105 (by omega), g 106 (by omega), g 107 (by omega)]
            exact l3 j j0 (by omega)
      · exact absurd (by rw [z16]; exact h1) g1
    · refine zEv_mono (m200 (by omega) hI.ew hI.wb hp hq hr (by rw [l2]; exact l1)) ?_
      rintro _ _ ⟨b, w', t', rfl, rfl, ⟨g1, _⟩ | ⟨_, rfl, rfl, rfl⟩⟩
      · exact absurd g1 h1
      · exact ⟨_, _, _, rfl, rfl, ⟨1, rfl, by omega, by rw [zu_same], fun z => absurd z (by omega)⟩, INV_q (fun a q h => by rw [zu_ne h, zu_ne h]) (fun a k h => rfl) hI⟩
theorem case20 (hd : 200 ≤ d) (i0 : 0 ≤ i) (i1 : i + 6 ≤ (sc.1 : Int)) (hn : sc.1 ≤ 60000) (hk : kc + 100 ≤ 601024) (hs : ks + 600 ≤ 7293034) (hI : INV v u) (k : ∀ w t y5 y6 a b, INV w t → a ≤ 100 → b ≤ 600 → zEv sc 234 d 1479 [.ref 3000, .ref 0, .ref 79, .ref 118, .int (zI i), y5, y6] [] (zmk w t) (kc + a) (ks + b) Q) : zEv sc 234 d 1271 [.ref 3000, .ref 0, .ref 79, .ref 118, .int (zI i), x5, x6] [] (zmk v u) kc ks Q := by
  obtain ⟨P, L, hN⟩ := hI.now
  obtain ⟨p, hp, ep⟩ := sInt (sc.2 (i + 1).toNat)
  obtain ⟨q, hq, eq⟩ := sInt (sc.2 (i + 2).toNat)
  obtain ⟨a, ha, ea⟩ := sInt (sc.2 (i + 3).toNat)
  obtain ⟨b, hb, eb⟩ := sInt (sc.2 (i + 4).toNat)
  obtain ⟨r, hr, er⟩ := sInt (sc.2 (i + 5).toNat)
  have h1 := c125 (sc := sc) (d := d - 1 - 1) (v := v) (u := u) (p := p) (s := q) (a := a) (b := b) (w := r) (by omega) hp hq ha hb hr hI.wb hN.c0 (fun k k0 k1 => (hN.lgs k k0 k1).2.2.1)
  have h2 := fun t => m203 (sc := sc) (d := d - 1) (v := v) (u := t) (p := p) (s := q) (a := a) (b := b) (w := r) (by omega) hI.ew hI.wb hp hq ha hb hr hN.c0 hN.c1 (fun k k0 k1 => ⟨(hN.lgs k k0 k1).2.2.1, (hN.lgs k k0 k1).2.2.2.2.1.1, fun x x0 x1 => by simp only [zg]; rw [(hN.lgs k k0 k1).2.2.2.2.2 x x0 x1]⟩)
  refine seg20 (by omega) i0 i1 hn hk hs (R1 := R1t ((0 ≤ p ∧ p < zg v 16 8) ∧ (0 ≤ q ∧ q < zg v 16 10) ∧ 0 ≤ r ∧ r < 2) (0 ≤ a ∧ a < b ∧ b ≤ zg v 33 0) (zI (tkA (zsg (fun j => woC v p q (a + j)) (b - a)) (zsg (fun j => wtC v p (a + j)) (b - a)) r)) v u) ?_ ?_ (fun w t y5 y6 hw => k w t y5 y6 _ _ hw (by omega) (by omega))
  · rw [ep, eq, ea, eb, er]
    exact w224 (by omega) h1
  · rw [ep, eq, ea, eb, er]
    exact Gt hI h2
end
