/-! images, undoing -/
section
variable {sc : Nat × (Nat → Int32)} {d : Nat} {v : zV} {u : zU} {kc ks : Nat} {Q : zPost} {i : Int} {x5 x6 : Value}

theorem kS_f (x : zV) (a : Nat) (q : Int) (h : ¬ (49 ≤ a ∧ a ≤ 51)) : cpSK x a q = x a q := by
  simp only [cpSK, zcp, zu]
  rw [if_neg (by omega), if_neg (by omega), if_neg (by omega)]

theorem kS49 (x : zV) (q : Int) (h0 : 0 ≤ q) (h1 : q < 6) : cpSK x 49 q = x 30 q := by
  simp [cpSK, zcp, zu, h0, h1]

theorem kS50 (x : zV) (q : Int) (h0 : 0 ≤ q) (h1 : q < 240) : cpSK x 50 q = x 31 q := by
  simp [cpSK, zcp, zu, h0, h1]

theorem kS51 (x : zV) (q : Int) (h0 : 0 ≤ q) (h1 : q < 36) : cpSK x 51 q = x 32 q := by
  simp [cpSK, zcp, zu, h0, h1]

theorem kV_f (x : zV) (a : Nat) (q : Int) (h : ¬ (a = 53 ∨ a = 55 ∨ a = 56) ∧ ¬ (a = 52 ∧ (q = 0 ∨ q = 1))) : cpVK x a q = x a q := by
  simp only [cpVK, zcp, zu]
  rw [if_neg (by omega), if_neg (by omega), if_neg (by omega), if_neg (by omega), if_neg (by omega)]

theorem kV53 (x : zV) (q : Int) (h0 : 0 ≤ q) (h1 : q < 180) : cpVK x 53 q = x 34 q := by
  simp [cpVK, zcp, zu, h0, h1]

theorem kV55 (x : zV) (q : Int) (h0 : 0 ≤ q) (h1 : q < 240) : cpVK x 55 q = x 36 q := by
  simp [cpVK, zcp, zu, h0, h1]

theorem kV56 (x : zV) (q : Int) (h0 : 0 ≤ q) (h1 : q < 186) : cpVK x 56 q = x 37 q := by
  simp [cpVK, zcp, zu, h0, h1]

theorem kT_f (x : zV) (a : Nat) (q : Int) (h : ¬ (57 ≤ a ∧ a ≤ 63) ∧ ¬ (a = 47 ∧ (q = 9 ∨ q = 10))) : cpTK x a q = x a q := by
  simp only [cpTK, zcp, zu]
  rw [if_neg (by omega), if_neg (by omega), if_neg (by omega), if_neg (by omega), if_neg (by omega), if_neg (by omega), if_neg (by omega), if_neg (by omega), if_neg (by omega)]

theorem kT57 (x : zV) (q : Int) (h0 : 0 ≤ q) (h1 : q < 5) : cpTK x 57 q = x 38 q := by
  simp [cpTK, zcp, zu, h0, h1]

theorem kT58 (x : zV) (q : Int) (h0 : 0 ≤ q) (h1 : q < 4) : cpTK x 58 q = x 39 q := by
  simp [cpTK, zcp, zu, h0, h1]

theorem kT59 (x : zV) (q : Int) (h0 : 0 ≤ q) (h1 : q < 4) : cpTK x 59 q = x 40 q := by
  simp [cpTK, zcp, zu, h0, h1]

theorem kT60 (x : zV) (q : Int) (h0 : 0 ≤ q) (h1 : q < 10) : cpTK x 60 q = x 41 q := by
  simp [cpTK, zcp, zu, h0, h1]

theorem kT61 (x : zV) (q : Int) (h0 : 0 ≤ q) (h1 : q < 10) : cpTK x 61 q = x 42 q := by
  simp [cpTK, zcp, zu, h0, h1]

theorem kT62 (x : zV) (q : Int) (h0 : 0 ≤ q) (h1 : q < 10) : cpTK x 62 q = x 43 q := by
  simp [cpTK, zcp, zu, h0, h1]

theorem kT63 (x : zV) (q : Int) (h0 : 0 ≤ q) (h1 : q < 3) : cpTK x 63 q = x 44 q := by
  simp [cpTK, zcp, zu, h0, h1]

theorem kV52 (x : zV) : cpVK x 52 0 = x 33 0 ∧ cpVK x 52 1 = x 33 1 := by
  constructor <;> simp [cpVK, zcp, zu, zg, zI_t]

theorem kT47 (x : zV) : cpTK x 47 9 = x 28 9 ∧ cpTK x 47 10 = x 28 10 := by
  constructor <;> simp [cpTK, zcp, zu, zg, zI_t]

theorem nS_f (x : zV) (a : Nat) (q : Int) (h : ¬ (30 ≤ a ∧ a ≤ 32)) : cpSN x a q = x a q := by
  simp only [cpSN, zcp, zu]
  rw [if_neg (by omega), if_neg (by omega), if_neg (by omega)]

theorem nS30 (x : zV) (q : Int) (h0 : 0 ≤ q) (h1 : q < 6) : cpSN x 30 q = x 49 q := by
  simp [cpSN, zcp, zu, h0, h1]

theorem nS31 (x : zV) (q : Int) (h0 : 0 ≤ q) (h1 : q < 240) : cpSN x 31 q = x 50 q := by
  simp [cpSN, zcp, zu, h0, h1]

theorem nS32 (x : zV) (q : Int) (h0 : 0 ≤ q) (h1 : q < 36) : cpSN x 32 q = x 51 q := by
  simp [cpSN, zcp, zu, h0, h1]

theorem nV_f (x : zV) (a : Nat) (q : Int) (h : ¬ (a = 34 ∨ a = 36 ∨ a = 37) ∧ ¬ (a = 33 ∧ (q = 0 ∨ q = 1))) : cpVN x a q = x a q := by
  simp only [cpVN, zcp, zu]
  rw [if_neg (by omega), if_neg (by omega), if_neg (by omega), if_neg (by omega), if_neg (by omega)]

theorem nV34 (x : zV) (q : Int) (h0 : 0 ≤ q) (h1 : q < 180) : cpVN x 34 q = x 53 q := by
  simp [cpVN, zcp, zu, h0, h1]

theorem nV36 (x : zV) (q : Int) (h0 : 0 ≤ q) (h1 : q < 240) : cpVN x 36 q = x 55 q := by
  simp [cpVN, zcp, zu, h0, h1]

theorem nV37 (x : zV) (q : Int) (h0 : 0 ≤ q) (h1 : q < 186) : cpVN x 37 q = x 56 q := by
  simp [cpVN, zcp, zu, h0, h1]

theorem nT_f (x : zV) (a : Nat) (q : Int) (h : ¬ (38 ≤ a ∧ a ≤ 44) ∧ ¬ (a = 28 ∧ (q = 9 ∨ q = 10))) : cpTN x a q = x a q := by
  simp only [cpTN, zcp, zu]
  rw [if_neg (by omega), if_neg (by omega), if_neg (by omega), if_neg (by omega), if_neg (by omega), if_neg (by omega), if_neg (by omega), if_neg (by omega), if_neg (by omega)]

theorem nT38 (x : zV) (q : Int) (h0 : 0 ≤ q) (h1 : q < 5) : cpTN x 38 q = x 57 q := by
  simp [cpTN, zcp, zu, h0, h1]

theorem nT39 (x : zV) (q : Int) (h0 : 0 ≤ q) (h1 : q < 4) : cpTN x 39 q = x 58 q := by
  simp [cpTN, zcp, zu, h0, h1]

theorem nT40 (x : zV) (q : Int) (h0 : 0 ≤ q) (h1 : q < 4) : cpTN x 40 q = x 59 q := by
  simp [cpTN, zcp, zu, h0, h1]

theorem nT41 (x : zV) (q : Int) (h0 : 0 ≤ q) (h1 : q < 10) : cpTN x 41 q = x 60 q := by
  simp [cpTN, zcp, zu, h0, h1]

theorem nT42 (x : zV) (q : Int) (h0 : 0 ≤ q) (h1 : q < 10) : cpTN x 42 q = x 61 q := by
  simp [cpTN, zcp, zu, h0, h1]

theorem nT43 (x : zV) (q : Int) (h0 : 0 ≤ q) (h1 : q < 10) : cpTN x 43 q = x 62 q := by
  simp [cpTN, zcp, zu, h0, h1]

theorem nT44 (x : zV) (q : Int) (h0 : 0 ≤ q) (h1 : q < 3) : cpTN x 44 q = x 63 q := by
  simp [cpTN, zcp, zu, h0, h1]

theorem nV33 (x : zV) : cpVN x 33 0 = x 52 0 ∧ cpVN x 33 1 = x 52 1 := by
  constructor <;> simp [cpVN, zcp, zu, zg, zI_t]

theorem nT28 (x : zV) : cpTN x 28 9 = x 47 9 ∧ cpTN x 28 10 = x 47 10 := by
  constructor <;> simp [cpTN, zcp, zu, zg, zI_t]

theorem iB_f (x : zV) (a : Nat) (q : Int) (h : ¬ (109 ≤ a ∧ a ≤ 117)) : imB x a q = x a q := by
  simp only [imB, zcp, zu]
  rw [if_neg (by omega), if_neg (by omega), if_neg (by omega), if_neg (by omega), if_neg (by omega), if_neg (by omega), if_neg (by omega), if_neg (by omega), if_neg (by omega)]

theorem iB109 (x : zV) (q : Int) (h0 : 0 ≤ q) (h1 : q < 171) : imB x 109 q = x 93 q := by
  simp [imB, zcp, zu, h0, h1]

theorem iB110 (x : zV) (q : Int) (h0 : 0 ≤ q) (h1 : q < 5130) : imB x 110 q = x 95 q := by
  simp [imB, zcp, zu, h0, h1]

theorem iB111 (x : zV) (q : Int) (h0 : 0 ≤ q) (h1 : q < 180) : imB x 111 q = x 99 q := by
  simp [imB, zcp, zu, h0, h1]

theorem iB112 (x : zV) (q : Int) (h0 : 0 ≤ q) (h1 : q < 4) : imB x 112 q = x 100 q := by
  simp [imB, zcp, zu, h0, h1]

theorem iB113 (x : zV) (q : Int) (h0 : 0 ≤ q) (h1 : q < 4) : imB x 113 q = x 101 q := by
  simp [imB, zcp, zu, h0, h1]

theorem iB114 (x : zV) (q : Int) (h0 : 0 ≤ q) (h1 : q < 10) : imB x 114 q = x 105 q := by
  simp [imB, zcp, zu, h0, h1]

theorem iB115 (x : zV) (q : Int) (h0 : 0 ≤ q) (h1 : q < 10) : imB x 115 q = x 106 q := by
  simp [imB, zcp, zu, h0, h1]

theorem iB116 (x : zV) (q : Int) (h0 : 0 ≤ q) (h1 : q < 10) : imB x 116 q = x 107 q := by
  simp [imB, zcp, zu, h0, h1]

theorem iB117 (x : zV) (q : Int) (h0 : 0 ≤ q) (h1 : q < 3) : imB x 117 q = x 91 q := by
  simp [imB, zcp, zu, h0, h1]

theorem iH_f (x : zV) (a : Nat) (q : Int) (h : ¬ (a = 79 ∧ (q = 2 ∨ (49 ≤ q ∧ q ≤ 53)))) : imH x a q = x a q := by
  simp only [imH, zcp, zu]
  rw [if_neg (by omega), if_neg (by omega), if_neg (by omega), if_neg (by omega), if_neg (by omega), if_neg (by omega)]

theorem iH79 (x : zV) : imH x 79 2 = zI 0 ∧ imH x 79 49 = zI 1 ∧ imH x 79 50 = x 79 30 ∧ imH x 79 51 = x 79 31 ∧ imH x 79 52 = x 79 32 ∧ imH x 79 53 = x 79 33 := by
  refine ⟨?_, ?_, ?_, ?_, ?_, ?_⟩ <;> simp [imH, zu, zg, zI_t]

theorem rB_f (x : zV) (a : Nat) (q : Int) (h : ¬ (a = 93 ∨ a = 95 ∨ a = 99 ∨ a = 100 ∨ a = 101 ∨ a = 105 ∨ a = 106 ∨ a = 107 ∨ a = 91)) : reB x a q = x a q := by
  simp only [reB, zcp, zu]
  rw [if_neg (by omega), if_neg (by omega), if_neg (by omega), if_neg (by omega), if_neg (by omega), if_neg (by omega), if_neg (by omega), if_neg (by omega), if_neg (by omega)]

theorem rB93 (x : zV) (q : Int) (h0 : 0 ≤ q) (h1 : q < 171) : reB x 93 q = x 109 q := by
  simp [reB, zcp, zu, h0, h1]

theorem rB95 (x : zV) (q : Int) (h0 : 0 ≤ q) (h1 : q < 5130) : reB x 95 q = x 110 q := by
  simp [reB, zcp, zu, h0, h1]

theorem rB99 (x : zV) (q : Int) (h0 : 0 ≤ q) (h1 : q < 180) : reB x 99 q = x 111 q := by
  simp [reB, zcp, zu, h0, h1]

theorem rB100 (x : zV) (q : Int) (h0 : 0 ≤ q) (h1 : q < 4) : reB x 100 q = x 112 q := by
  simp [reB, zcp, zu, h0, h1]

theorem rB101 (x : zV) (q : Int) (h0 : 0 ≤ q) (h1 : q < 4) : reB x 101 q = x 113 q := by
  simp [reB, zcp, zu, h0, h1]

theorem rB105 (x : zV) (q : Int) (h0 : 0 ≤ q) (h1 : q < 10) : reB x 105 q = x 114 q := by
  simp [reB, zcp, zu, h0, h1]

theorem rB106 (x : zV) (q : Int) (h0 : 0 ≤ q) (h1 : q < 10) : reB x 106 q = x 115 q := by
  simp [reB, zcp, zu, h0, h1]

theorem rB107 (x : zV) (q : Int) (h0 : 0 ≤ q) (h1 : q < 10) : reB x 107 q = x 116 q := by
  simp [reB, zcp, zu, h0, h1]

theorem rB91 (x : zV) (q : Int) (h0 : 0 ≤ q) (h1 : q < 3) : reB x 91 q = x 117 q := by
  simp [reB, zcp, zu, h0, h1]

theorem rH_f (x : zV) (a : Nat) (q : Int) (h : ¬ (a = 79 ∧ (q = 2 ∨ (30 ≤ q ∧ q ≤ 33)))) : reH x a q = x a q := by
  simp only [reH, zcp, zu]
  rw [if_neg (by omega), if_neg (by omega), if_neg (by omega), if_neg (by omega), if_neg (by omega)]

theorem rH79 (x : zV) : reH x 79 2 = zI 0 ∧ reH x 79 30 = x 79 50 ∧ reH x 79 31 = x 79 51 ∧ reH x 79 32 = x 79 52 ∧ reH x 79 33 = x 79 53 := by
  refine ⟨?_, ?_, ?_, ?_, ?_⟩ <;> simp [reH, zu, zg, zI_t]
theorem imm_low {v : zV} {a : Nat} {q : Int} (h : (16 ≤ a ∧ a ≤ 23)) : imm v a q = v a q := by
  unfold imm
  repeat (rw [if_neg (by omega)])
theorem case9 (hd : 200 ≤ d) (i0 : 0 ≤ i) (i1 : i + 6 ≤ (sc.1 : Int)) (hn : sc.1 ≤ 60000) (hk : kc + 100 ≤ 601024) (hs : ks + 600 ≤ 7293034) (hI : INV v u) (k : ∀ w t y5 y6 a b, INV w t → a ≤ 100 → b ≤ 600 → zEv sc 234 d 1479 [.ref 3000, .ref 0, .ref 79, .ref 118, .int (zI i), y5, y6] [] (zmk w t) (kc + a) (ks + b) Q) : zEv sc 234 d 702 [.ref 3000, .ref 0, .ref 79, .ref 118, .int (zI i), x5, x6] [] (zmk v u) kc ks Q := by
  obtain ⟨X, hX⟩ := hI.rs
  have hN := NOW_of hI.wb hX
  have c0 := hN.c0
  have c1 := hN.c1
  have f0 := hN.f0
  have f1 := hN.f1
  have b0 := hI.wb.1
  have b2 := hI.wb.2.2.1
  by_cases hc : zg v 33 1 < zg v 33 0
  · obtain ⟨g0, g1, g2, g3, g4, g5⟩ := hN.lgs (zg v 33 0 - 1) (by omega) (by omega)
    obtain ⟨a1, a2, a3, a4, a5, a6, a7, a8, a9, a10⟩ := id hX
    obtain ⟨p1, p2, p3, p4⟩ := a4 (zg v 33 0 - 1) (by omega) (by omega)
    rw [show zg v 33 0 - 1 + 1 = zg v 33 0 by omega] at p1
    have e0 : zg v 34 ((zg v 33 0 - 1) * 6) = lg v (zg v 33 0 - 1) 0 := by unfold lg; rw [Int.add_zero]
    have h9 := c9 (sc := sc) (d := d - 1 - 1) (v := v) (u := u) (k := lg v (zg v 33 0 - 1) 0) (f := lg v (zg v 33 0 - 1) 1) (t := lg v (zg v 33 0 - 1) 2) (c := zg v 33 0) (M := lg v (zg v 33 0 - 1) 4) (x := X (zg v 33 0 - 1)) (by omega) rfl (by omega) (by omega) hI.wb e0 rfl rfl rfl g0.1 (by omega) g1.1 (by omega) g2.1 (by omega) g3 g4.1 g4.2 p2 (a3 (zg v 33 0 - 1) (by omega) (by omega)).1 (by rw [← p1]; exact a2) p3
    refine seg9 (by omega) i0 i1 hn hk hs (R1 := fun y w t => zI (zg v 33 0 - 1) = y ∧ ((∀ a q, ¬ (30 ≤ a ∧ a ≤ 32) → ¬ a = 45 → ¬ a = 46 → ¬ (a = 33 ∧ q = 0) → ¬ (a = 38 ∧ q = lg v (zg v 33 0 - 1) 0) → w a q = v a q) ∧ zg w 33 0 = zg v 33 0 - 1 ∧ zg w 38 (lg v (zg v 33 0 - 1) 0) = lg v (zg v 33 0 - 1) 1 ∧ CS w (X (zg v 33 0 - 1)).1 (X (zg v 33 0 - 1)).2 ∧ u = t)) (c100_ok (by omega) hc (zEv_mono h9 (by
      rintro _ _ ⟨w, t, rfl, rfl, h⟩
      exact ⟨_, _, rfl, rfl, h, h.2.1⟩))) ?_ (fun w t y5 y6 hw => k w t y5 y6 _ _ hw (by omega) (by omega))
    rintro y w t ⟨rfl, h1, h2, h3, h4, rfl⟩
    have lo : ∀ a q, ((16 ≤ a ∧ a ≤ 23) ∨ a = 25 ∨ a = 24 ∨ 47 ≤ a ∨ a ≤ 15) → w a q = v a q := fun a q hh => h1 a q (by omega) (by omega) (by omega) (by omega) (by omega)
    have y30 : zg w 79 30 = zg v 33 0 := by rw [← c1]; simp only [zg]; rw [lo 79 30 (by omega)]
    have y31 : zg w 79 31 = zg v 33 1 := by rw [← f1]; simp only [zg]; rw [lo 79 31 (by omega)]
    refine zEv_mono (m185_ok y30 (by omega) (by omega) (by omega)) ?_
    rintro _ _ ⟨b, w', t', rfl, rfl, rfl, hw', rfl⟩
    have hRS := RS_undo (v1 := w) (v2 := w') hI.wb hX rfl hc rfl rfl h1 h2 h3 h4 hw'.symm
    have fin : ∀ a q, (a = 0 ∨ (a = 2 ∧ q = 1) ∨ a = 3 ∨ (16 ≤ a ∧ a ≤ 25) ∨ (47 ≤ a ∧ a ≤ 63) ∨ a = 78 ∨ (82 ≤ a ∧ a ≤ 90) ∨ a = 92 ∨ a = 104 ∨ (109 ≤ a ∧ a ≤ 117) ∨ (a = 79 ∧ (q = 14 ∨ q = 23 ∨ q = 44 ∨ (49 ≤ q ∧ q ≤ 53)))) → w' a q = v a q := fun a q hh => by
      rw [← hw']
      simp only [zcp]
      rw [if_neg (by omega), zu_ne (by omega), zu_ne (by omega), lo a q (by omega)]
    exact ⟨_, _, _, rfl, rfl, rfl, INV_s fin (fun _ => rfl) hI ⟨_, hRS⟩⟩
  · refine seg9 (by omega) i0 i1 hn hk hs (R1 := fun y w t => zI (-1) = y ∧ v = w ∧ u = t) (c100_no (by omega)) ?_ (fun w t y5 y6 hw => k w t y5 y6 _ _ hw (by omega) (by omega))
    rintro y w t ⟨rfl, rfl, rfl⟩
    refine zEv_mono (m185_no (by omega)) ?_
    rintro _ _ ⟨b, w', t', rfl, rfl, rfl, rfl, rfl⟩
    exact ⟨_, _, _, rfl, rfl, rfl, INV_q (fun a q h => zu_ne h) (fun _ _ _ => rfl) hI⟩
theorem case22 (hd : 200 ≤ d) (i0 : 0 ≤ i) (i1 : i + 6 ≤ (sc.1 : Int)) (hn : sc.1 ≤ 60000) (hk : kc + 100 ≤ 601024) (hs : ks + 600 ≤ 7293034) (hI : INV v u) (k : ∀ w t y5 y6 a b, INV w t → a ≤ 100 → b ≤ 600 → zEv sc 234 d 1479 [.ref 3000, .ref 0, .ref 79, .ref 118, .int (zI i), y5, y6] [] (zmk w t) (kc + a) (ks + b) Q) : zEv sc 234 d 1455 [.ref 3000, .ref 0, .ref 79, .ref 118, .int (zI i), x5, x6] [] (zmk v u) kc ks Q := by
  refine seg22 (by omega) i0 i1 hn hk hs (R1 := fun w t => zu (cpTK (cpVK (cpSK v))) 0 6 (zI 1) = w ∧ cpUK u = t) (c104 (by omega)) ?_ (fun w t y5 y6 hw => k w t y5 y6 _ _ hw (by omega) (by omega))
  rintro w t ⟨hw, rfl⟩
  refine zEv_mono (m207 (by omega)) ?_
  rintro _ _ ⟨w', t', rfl, rfl, hw', rfl⟩
  refine ⟨_, _, rfl, rfl, ?_⟩
  have fw : ∀ a q, ¬ (47 ≤ a ∧ a ≤ 63) → ¬ (a = 0 ∧ q = 6) → w a q = v a q := fun a q g1 g2 => by rw [← hw, zu_ne (by omega), kT_f _ _ _ (by omega), kV_f _ _ _ (by omega), kS_f _ _ _ (by omega)]
  have fm : ∀ a q, ¬ (109 ≤ a ∧ a ≤ 117) → ¬ (a = 79 ∧ (q = 2 ∨ (49 ≤ q ∧ q ≤ 53))) → w' a q = w a q := fun a q g1 g2 => by rw [← hw', iB_f _ _ _ g1, iH_f _ _ _ g2]
  have fr : ∀ a q, ¬ (47 ≤ a ∧ a ≤ 63) → ¬ (a = 0 ∧ q = 6) → ¬ (109 ≤ a ∧ a ≤ 117) → ¬ (a = 79 ∧ (q = 2 ∨ (49 ≤ q ∧ q ≤ 53))) → w' a q = v a q := fun a q g1 g2 g3 g4 => by rw [fm a q g3 g4, fw a q g1 g2]
  have u35 : ∀ k, cpUK u 35 k = u 35 k := fun k => by simp [cpUK, zcpL]
  have u54 : ∀ k, 0 ≤ k → k < 30 → cpUK u 54 k = u 35 k := fun k k0 k1 => by simp [cpUK, zcpL, k0, k1]
  have w79 : ∀ q, (49 ≤ q ∧ q ≤ 53) → w' 79 q = imH w 79 q := fun q hq => by rw [← hw', iB_f _ _ _ (by omega)]
  have e06 : zg w' 0 6 = 1 := by simp only [zg]; rw [fm 0 6 (by omega) (by omega), ← hw, zu_same]; rfl
  have e49 : zg w' 79 49 = 1 := by simp only [zg]; rw [w79 49 (by omega), (iH79 w).2.1]; rfl
  have mk : ∀ a b q n, imB (imH w) b q = imH w a q → ¬ a = 79 → ¬ (47 ≤ a ∧ a ≤ 63) → 0 < a → n ≤ q → w' b q = v a q := fun a b q n h1 h2 h3 h4 _ => by rw [← hw', h1, iH_f _ _ _ (by omega), fw a q h3 (by omega)]
  have ck : ∀ b q, (47 ≤ b ∧ b ≤ 63) → w' b q = cpTK (cpVK (cpSK v)) b q := fun b q hb => by rw [fm b q (by omega) (by omega), ← hw, zu_ne (by omega)]
  refine ⟨WB_w3 (fun a q g1 g2 => fr a q (by omega) (by omega) (by omega) (by omega)) hI.wb, EW_c (fun a q hh => fr a q (by omega) (by omega) (by omega) (by omega)) hI.ew, pTF_w (fr _ _ (by omega) (by omega) (by omega) (by omega)) (fun q => fr _ _ (by omega) (by omega) (by omega) (by omega)) (fr _ _ (by omega) (by omega) (by omega) (by omega)) (fun q => fr _ _ (by omega) (by omega) (by omega) (by omega)) hI.tf, pTP_w (fr _ _ (by omega) (by omega) (by omega) (by omega)) (fun q => fr _ _ (by omega) (by omega) (by omega) (by omega)) (fr _ _ (by omega) (by omega) (by omega) (by omega)) (fun q => fr _ _ (by omega) (by omega) (by omega) (by omega)) hI.tp, pFL_w (fr _ _ (by omega) (by omega) (by omega) (by omega)) (fr _ _ (by omega) (by omega) (by omega) (by omega)) hI.fl, RS_k hI.wb (RCw_of fun a q hh => fr a q (by omega) (by omega) (by omega) (by omega)) (fun a q g1 g2 => fr a q (by omega) (by omega) (by omega) (by omega)) (fun k _ _ => u35 k) hI.rs, pLD_w (fr _ _ (by omega) (by omega) (by omega) (by omega)) (fun q => fr _ _ (by omega) (by omega) (by omega) (by omega)) (fr _ _ (by omega) (by omega) (by omega) (by omega)) (fun q => fr _ _ (by omega) (by omega) (by omega) (by omega)) hI.ld, ⟨by omega, by omega, fun _ => ?_⟩⟩
  obtain ⟨X, hX⟩ := hI.rs
  refine ⟨X, RSx_w hI.wb ?_ (fun k k0 k1 => u54 k k0 k1) ?_ hX⟩
  · refine ⟨fun a q g1 g2 => by rw [imm_low ⟨g1, g2⟩, fr a q (by omega) (by omega) (by omega) (by omega)], ?_, ?_, ?_, ?_, fun q q0 q1 => by show w' 53 q = _; rw [ck 53 q (by omega), kT_f _ _ _ (by omega), kV53 _ _ q0 q1, kS_f _ _ _ (by omega)], fun q q0 q1 => by show w' 55 q = _; rw [ck 55 q (by omega), kT_f _ _ _ (by omega), kV55 _ _ q0 q1, kS_f _ _ _ (by omega)], fun q q0 q1 => by show w' 56 q = _; rw [ck 56 q (by omega), kT_f _ _ _ (by omega), kV56 _ _ q0 q1, kS_f _ _ _ (by omega)], fun q q0 q1 => by show w' 57 q = _; rw [ck 57 q (by omega), kT57 _ _ q0 q1, kV_f _ _ _ (by omega), kS_f _ _ _ (by omega)], fun q q0 q1 => by show w' 58 q = _; rw [ck 58 q (by omega), kT58 _ _ q0 q1, kV_f _ _ _ (by omega), kS_f _ _ _ (by omega)], fun q q0 q1 => by show w' 59 q = _; rw [ck 59 q (by omega), kT59 _ _ q0 q1, kV_f _ _ _ (by omega), kS_f _ _ _ (by omega)], fun q q0 q1 => by show w' 60 q = _; rw [ck 60 q (by omega), kT60 _ _ q0 q1, kV_f _ _ _ (by omega), kS_f _ _ _ (by omega)], fun q q0 q1 => by show w' 61 q = _; rw [ck 61 q (by omega), kT61 _ _ q0 q1, kV_f _ _ _ (by omega), kS_f _ _ _ (by omega)], fun q q0 q1 => by show w' 62 q = _; rw [ck 62 q (by omega), kT62 _ _ q0 q1, kV_f _ _ _ (by omega), kS_f _ _ _ (by omega)], fun q q0 q1 => by show w' 63 q = _; rw [ck 63 q (by omega), kT63 _ _ q0 q1, kV_f _ _ _ (by omega), kS_f _ _ _ (by omega)], fun q q0 q1 => by show w' 109 q = _; rw [← hw', iB109 _ _ q0 q1, iH_f _ _ _ (by omega), fw 93 q (by omega) (by omega)], fun q q0 q1 => by show w' 110 q = _; rw [← hw', iB110 _ _ q0 q1, iH_f _ _ _ (by omega), fw 95 q (by omega) (by omega)], fun q q0 q1 => by show w' 111 q = _; rw [← hw', iB111 _ _ q0 q1, iH_f _ _ _ (by omega), fw 99 q (by omega) (by omega)], fun q q0 q1 => by show w' 112 q = _; rw [← hw', iB112 _ _ q0 q1, iH_f _ _ _ (by omega), fw 100 q (by omega) (by omega)], fun q q0 q1 => by show w' 113 q = _; rw [← hw', iB113 _ _ q0 q1, iH_f _ _ _ (by omega), fw 101 q (by omega) (by omega)], fun q q0 q1 => by show w' 114 q = _; rw [← hw', iB114 _ _ q0 q1, iH_f _ _ _ (by omega), fw 105 q (by omega) (by omega)], fun q q0 q1 => by show w' 115 q = _; rw [← hw', iB115 _ _ q0 q1, iH_f _ _ _ (by omega), fw 106 q (by omega) (by omega)], fun q q0 q1 => by show w' 116 q = _; rw [← hw', iB116 _ _ q0 q1, iH_f _ _ _ (by omega), fw 107 q (by omega) (by omega)], fun q q0 q1 => by show w' 117 q = _; rw [← hw', iB117 _ _ q0 q1, iH_f _ _ _ (by omega), fw 91 q (by omega) (by omega)], ?_, ?_, ?_, ?_⟩
    · show w' 47 9 = _; rw [ck 47 9 (by omega), (kT47 _).1, kV_f _ _ _ (by omega), kS_f _ _ _ (by omega)]
    · show w' 47 10 = _; rw [ck 47 10 (by omega), (kT47 _).2, kV_f _ _ _ (by omega), kS_f _ _ _ (by omega)]
    · show w' 52 0 = _; rw [ck 52 0 (by omega), kT_f _ _ _ (by omega), (kV52 _).1, kS_f _ _ _ (by omega)]
    · show w' 52 1 = _; rw [ck 52 1 (by omega), kT_f _ _ _ (by omega), (kV52 _).2, kS_f _ _ _ (by omega)]
    · show w' 79 50 = _; rw [w79 50 (by omega), (iH79 w).2.2.1, fw 79 30 (by omega) (by omega)]
    · show w' 79 51 = _; rw [w79 51 (by omega), (iH79 w).2.2.2.1, fw 79 31 (by omega) (by omega)]
    · show w' 79 52 = _; rw [w79 52 (by omega), (iH79 w).2.2.2.2.1, fw 79 32 (by omega) (by omega)]
    · show w' 79 53 = _; rw [w79 53 (by omega), (iH79 w).2.2.2.2.2, fw 79 33 (by omega) (by omega)]
  · refine CS_rg hI.wb (fun a q g1 g2 => by rw [imm_low ⟨g1, g2⟩, fr a q (by omega) (by omega) (by omega) (by omega)]) (fun q q0 q1 => ?_) (fun q q0 q1 => ?_) (fun q q0 q1 => ?_) hX.2.1
    · show w' 49 q = _; rw [ck 49 q (by omega), kT_f _ _ _ (by omega), kV_f _ _ _ (by omega), kS49 _ _ q0 q1]
    · show w' 50 q = _; rw [ck 50 q (by omega), kT_f _ _ _ (by omega), kV_f _ _ _ (by omega), kS50 _ _ q0 q1]
    · show w' 51 q = _; rw [ck 51 q (by omega), kT_f _ _ _ (by omega), kV_f _ _ _ (by omega), kS51 _ _ q0 q1]
theorem case23 (hd : 200 ≤ d) (i0 : 0 ≤ i) (i1 : i + 6 ≤ (sc.1 : Int)) (hn : sc.1 ≤ 60000) (hk : kc + 100 ≤ 601024) (hs : ks + 600 ≤ 7293034) (hI : INV v u) (k : ∀ w t y5 y6 a b, INV w t → a ≤ 100 → b ≤ 600 → zEv sc 234 d 1479 [.ref 3000, .ref 0, .ref 79, .ref 118, .int (zI i), y5, y6] [] (zmk w t) (kc + a) (ks + b) Q) : zEv sc 234 d 1466 [.ref 3000, .ref 0, .ref 79, .ref 118, .int (zI i), x5, x6] [] (zmk v u) kc ks Q := by
  obtain ⟨i1', i2, i3⟩ := hI.im
  refine seg23 (by omega) i0 i1 hn hk hs (R1 := fun r w t => (zg v 0 6 = 0 ∧ zI 0 = r ∧ v = w ∧ u = t) ∨ (zg v 0 6 = 1 ∧ zI 1 = r ∧ cpTN (cpVN (cpSN v)) = w ∧ cpUN u = t)) (c105 (by omega) i1') ?_ (fun w t y5 y6 hw => k w t y5 y6 _ _ hw (by omega) (by omega))
  rintro y w t (⟨h1, rfl, rfl, rfl⟩ | ⟨h1, rfl, hw, rfl⟩)
  · refine zEv_mono (m208 (by omega) (by omega)) ?_
    rintro _ _ ⟨b, w', t', rfl, rfl, ⟨_, rfl, rfl, rfl⟩ | ⟨h2, _⟩⟩
    · exact ⟨_, _, _, rfl, rfl, rfl, INV_q (fun a q h => zu_ne h) (fun _ _ _ => rfl) hI⟩
    · omega
  · have fw : ∀ a q, ¬ (30 ≤ a ∧ a ≤ 44) → ¬ a = 28 → w a q = v a q := fun a q g1 g2 => by rw [← hw, nT_f _ _ _ (by omega), nV_f _ _ _ (by omega), nS_f _ _ _ (by omega)]
    have w49 : zg w 79 49 = 1 := by rw [← h1, ← i2]; simp only [zg]; rw [fw 79 49 (by omega) (by omega)]
    refine zEv_mono (m208 (by omega) (Or.inr w49)) ?_
    rintro _ _ ⟨b, w', t', rfl, rfl, ⟨h2, _⟩ | ⟨_, rfl, hw', rfl⟩⟩
    · omega
    refine ⟨_, _, _, rfl, rfl, rfl, ?_⟩
    have fm : ∀ a q, ¬ (a = 93 ∨ a = 95 ∨ a = 99 ∨ a = 100 ∨ a = 101 ∨ a = 105 ∨ a = 106 ∨ a = 107 ∨ a = 91) → ¬ (a = 79 ∧ (q = 2 ∨ (30 ≤ q ∧ q ≤ 33))) → w' a q = w a q := fun a q g1 g2 => by rw [← hw', rB_f _ _ _ g1, rH_f _ _ _ g2]
    have fr : ∀ a q, ¬ (30 ≤ a ∧ a ≤ 44) → ¬ a = 28 → ¬ (a = 93 ∨ a = 95 ∨ a = 99 ∨ a = 100 ∨ a = 101 ∨ a = 105 ∨ a = 106 ∨ a = 107 ∨ a = 91) → ¬ (a = 79 ∧ (q = 2 ∨ (30 ≤ q ∧ q ≤ 33))) → w' a q = v a q := fun a q g1 g2 g3 g4 => by rw [fm a q g3 g4, fw a q g1 g2]
    have u54 : ∀ k, cpUN u 54 k = u 54 k := fun k => by simp [cpUN, zcpL]
    have u35 : ∀ k, 0 ≤ k → k < 30 → cpUN u 35 k = u 54 k := fun k k0 k1 => by simp [cpUN, zcpL, k0, k1]
    have ck : ∀ b q, ((30 ≤ b ∧ b ≤ 44) ∨ b = 28) → w' b q = cpTN (cpVN (cpSN v)) b q := fun b q hb => by rw [fm b q (by omega) (by omega), hw]
    have w79 : ∀ q, (30 ≤ q ∧ q ≤ 33) → w' 79 q = reH w 79 q := fun q hq => by rw [← hw', rB_f _ _ _ (by omega)]
    obtain ⟨X, hX⟩ := i3 h1
    refine INV_s (fun a q hh => fr a q (by omega) (by omega) (by omega) (by omega)) u54 hI ⟨X, RSx_w (imm_B hI.wb) ?_ (fun k k0 k1 => u35 k k0 k1) ?_ hX⟩
    · refine ⟨fun a q g1 g2 => by rw [imm_low ⟨g1, g2⟩, fr a q (by omega) (by omega) (by omega) (by omega)], ?_, ?_, ?_, ?_, fun q q0 q1 => by show _ = v 53 q; rw [ck 34 q (by omega), nT_f _ _ _ (by omega), nV34 _ _ q0 q1, nS_f _ _ _ (by omega)], fun q q0 q1 => by show _ = v 55 q; rw [ck 36 q (by omega), nT_f _ _ _ (by omega), nV36 _ _ q0 q1, nS_f _ _ _ (by omega)], fun q q0 q1 => by show _ = v 56 q; rw [ck 37 q (by omega), nT_f _ _ _ (by omega), nV37 _ _ q0 q1, nS_f _ _ _ (by omega)], fun q q0 q1 => by show _ = v 57 q; rw [ck 38 q (by omega), nT38 _ _ q0 q1, nV_f _ _ _ (by omega), nS_f _ _ _ (by omega)], fun q q0 q1 => by show _ = v 58 q; rw [ck 39 q (by omega), nT39 _ _ q0 q1, nV_f _ _ _ (by omega), nS_f _ _ _ (by omega)], fun q q0 q1 => by show _ = v 59 q; rw [ck 40 q (by omega), nT40 _ _ q0 q1, nV_f _ _ _ (by omega), nS_f _ _ _ (by omega)], fun q q0 q1 => by show _ = v 60 q; rw [ck 41 q (by omega), nT41 _ _ q0 q1, nV_f _ _ _ (by omega), nS_f _ _ _ (by omega)], fun q q0 q1 => by show _ = v 61 q; rw [ck 42 q (by omega), nT42 _ _ q0 q1, nV_f _ _ _ (by omega), nS_f _ _ _ (by omega)], fun q q0 q1 => by show _ = v 62 q; rw [ck 43 q (by omega), nT43 _ _ q0 q1, nV_f _ _ _ (by omega), nS_f _ _ _ (by omega)], fun q q0 q1 => by show _ = v 63 q; rw [ck 44 q (by omega), nT44 _ _ q0 q1, nV_f _ _ _ (by omega), nS_f _ _ _ (by omega)], fun q q0 q1 => by show _ = v 109 q; rw [← hw', rB93 _ _ q0 q1, rH_f _ _ _ (by omega), fw 109 q (by omega) (by omega)], fun q q0 q1 => by show _ = v 110 q; rw [← hw', rB95 _ _ q0 q1, rH_f _ _ _ (by omega), fw 110 q (by omega) (by omega)], fun q q0 q1 => by show _ = v 111 q; rw [← hw', rB99 _ _ q0 q1, rH_f _ _ _ (by omega), fw 111 q (by omega) (by omega)], fun q q0 q1 => by show _ = v 112 q; rw [← hw', rB100 _ _ q0 q1, rH_f _ _ _ (by omega), fw 112 q (by omega) (by omega)], fun q q0 q1 => by show _ = v 113 q; rw [← hw', rB101 _ _ q0 q1, rH_f _ _ _ (by omega), fw 113 q (by omega) (by omega)], fun q q0 q1 => by show _ = v 114 q; rw [← hw', rB105 _ _ q0 q1, rH_f _ _ _ (by omega), fw 114 q (by omega) (by omega)], fun q q0 q1 => by show _ = v 115 q; rw [← hw', rB106 _ _ q0 q1, rH_f _ _ _ (by omega), fw 115 q (by omega) (by omega)], fun q q0 q1 => by show _ = v 116 q; rw [← hw', rB107 _ _ q0 q1, rH_f _ _ _ (by omega), fw 116 q (by omega) (by omega)], fun q q0 q1 => by show _ = v 117 q; rw [← hw', rB91 _ _ q0 q1, rH_f _ _ _ (by omega), fw 117 q (by omega) (by omega)], ?_, ?_, ?_, ?_⟩
      · show _ = v 47 9; rw [ck 28 9 (by omega), (nT28 _).1, nV_f _ _ _ (by omega), nS_f _ _ _ (by omega)]
      · show _ = v 47 10; rw [ck 28 10 (by omega), (nT28 _).2, nV_f _ _ _ (by omega), nS_f _ _ _ (by omega)]
      · show _ = v 52 0; rw [ck 33 0 (by omega), nT_f _ _ _ (by omega), (nV33 _).1, nS_f _ _ _ (by omega)]
      · show _ = v 52 1; rw [ck 33 1 (by omega), nT_f _ _ _ (by omega), (nV33 _).2, nS_f _ _ _ (by omega)]
      · show _ = v 79 50; rw [w79 30 (by omega), (rH79 w).2.1, fw 79 50 (by omega) (by omega)]
      · show _ = v 79 51; rw [w79 31 (by omega), (rH79 w).2.2.1, fw 79 51 (by omega) (by omega)]
      · show _ = v 79 52; rw [w79 32 (by omega), (rH79 w).2.2.2.1, fw 79 52 (by omega) (by omega)]
      · show _ = v 79 53; rw [w79 33 (by omega), (rH79 w).2.2.2.2, fw 79 53 (by omega) (by omega)]
    · refine CS_rg (imm_B hI.wb) (fun a q g1 g2 => by rw [imm_low ⟨g1, g2⟩, fr a q (by omega) (by omega) (by omega) (by omega)]) (fun q q0 q1 => ?_) (fun q q0 q1 => ?_) (fun q q0 q1 => ?_) hX.2.1
      · show _ = v 49 q; rw [ck 30 q (by omega), nT_f _ _ _ (by omega), nV_f _ _ _ (by omega), nS30 _ _ q0 q1]
      · show _ = v 50 q; rw [ck 31 q (by omega), nT_f _ _ _ (by omega), nV_f _ _ _ (by omega), nS31 _ _ q0 q1]
      · show _ = v 51 q; rw [ck 32 q (by omega), nT_f _ _ _ (by omega), nV_f _ _ _ (by omega), nS32 _ _ q0 q1]
end
