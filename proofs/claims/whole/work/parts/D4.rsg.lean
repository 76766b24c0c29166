/-! legs, readings, status apart -/
def Lg8 (v : zV) : Prop := (0 ≤ zg v 28 9 ∧ zg v 28 9 ≤ 4) ∧ zg v 79 32 = zg v 28 9 ∧ ∀ i, 0 ≤ i → i < zg v 28 9 → (zg v 100 i = zg v 39 i ∧ 0 ≤ zg v 39 i ∧ zg v 39 i < zg v 16 10) ∧ zg v 101 i = zg v 40 i ∧ 0 ≤ zg v 40 i ∧ zg v 40 i < zg v 16 8
def Rd9 (v : zV) : Prop := (0 ≤ zg v 28 10 ∧ zg v 28 10 ≤ 10) ∧ zg v 79 33 = zg v 28 10 ∧ ∀ i, 0 ≤ i → i < zg v 28 10 → (zg v 105 i = zg v 41 i ∧ 0 ≤ zg v 41 i ∧ zg v 41 i < zg v 16 8) ∧ (zg v 106 i = zg v 42 i ∧ 0 ≤ zg v 42 i ∧ zg v 42 i < zg v 16 8) ∧ zg v 107 i = zg v 43 i ∧ 0 ≤ zg v 43 i ∧ zg v 43 i ≤ 40
def St10 (v : zV) : Prop := ∀ i, 0 ≤ i → i < 3 → v 91 i = v 44 i
def RCg (v w : zV) : Prop := (∀ a q, 16 ≤ a → a ≤ 23 → w a q = v a q) ∧ (w 33 0 = v 33 0) ∧ (w 33 1 = v 33 1) ∧ (∀ q, 0 ≤ q → q < 180 → w 34 q = v 34 q) ∧ (∀ q, 0 ≤ q → q < 240 → w 36 q = v 36 q) ∧ (∀ q, 0 ≤ q → q < 186 → w 37 q = v 37 q) ∧ (∀ q, 0 ≤ q → q < 5 → w 38 q = v 38 q) ∧ (∀ q, 0 ≤ q → q < 171 → w 93 q = v 93 q) ∧ (∀ q, 0 ≤ q → q < 5130 → w 95 q = v 95 q) ∧ (∀ q, 0 ≤ q → q < 180 → w 99 q = v 99 q) ∧ (w 79 30 = v 79 30) ∧ (w 79 31 = v 79 31)
theorem RCg.w3 {v w : zV} (h : RCg v w) : ∀ a q, 16 ≤ a → a ≤ 23 → w a q = v a q := h.1
theorem RCg.c0 {v w : zV} (h : RCg v w) : w 33 0 = v 33 0 := h.2.1
theorem RCg.c1 {v w : zV} (h : RCg v w) : w 33 1 = v 33 1 := h.2.2.1
theorem RCg.r34 {v w : zV} (h : RCg v w) : ∀ q, 0 ≤ q → q < 180 → w 34 q = v 34 q := h.2.2.2.1
theorem RCg.r36 {v w : zV} (h : RCg v w) : ∀ q, 0 ≤ q → q < 240 → w 36 q = v 36 q := h.2.2.2.2.1
theorem RCg.r37 {v w : zV} (h : RCg v w) : ∀ q, 0 ≤ q → q < 186 → w 37 q = v 37 q := h.2.2.2.2.2.1
theorem RCg.r38 {v w : zV} (h : RCg v w) : ∀ q, 0 ≤ q → q < 5 → w 38 q = v 38 q := h.2.2.2.2.2.2.1
theorem RCg.r93 {v w : zV} (h : RCg v w) : ∀ q, 0 ≤ q → q < 171 → w 93 q = v 93 q := h.2.2.2.2.2.2.2.1
theorem RCg.r95 {v w : zV} (h : RCg v w) : ∀ q, 0 ≤ q → q < 5130 → w 95 q = v 95 q := h.2.2.2.2.2.2.2.2.1
theorem RCg.r99 {v w : zV} (h : RCg v w) : ∀ q, 0 ≤ q → q < 180 → w 99 q = v 99 q := h.2.2.2.2.2.2.2.2.2.1
theorem RCg.m30 {v w : zV} (h : RCg v w) : w 79 30 = v 79 30 := h.2.2.2.2.2.2.2.2.2.2.1
theorem RCg.m31 {v w : zV} (h : RCg v w) : w 79 31 = v 79 31 := h.2.2.2.2.2.2.2.2.2.2.2
theorem RSx_g {v w : zV} {u u' : zU} {X : Int → zPL} (hB : WB v) (h : RCg v w) (h8 : Lg8 w) (h9 : Rd9 w) (h10 : St10 w) (hu : ∀ k, 0 ≤ k → k < 30 → u' 35 k = u 35 k) (hC : CS w (X (zg v 33 0)).1 (X (zg v 33 0)).2) (hR : RSx v u X) : RSx w u' X := by
  obtain ⟨a1, a2, a3, a4, a5, a6, a7, a8, a9, a10⟩ := hR
  have b0 := hB.1
  have b1 := hB.2.1
  have b2 := hB.2.2.1
  have w3 := h.w3
  have z34 : ∀ q, 0 ≤ q → q < 180 → zg w 34 q = zg v 34 q := fun q q0 q1 => by simp only [zg]; rw [h.r34 q q0 q1]
  have z36 : ∀ q, 0 ≤ q → q < 240 → zg w 36 q = zg v 36 q := fun q q0 q1 => by simp only [zg]; rw [h.r36 q q0 q1]
  have z37 : ∀ q, 0 ≤ q → q < 186 → zg w 37 q = zg v 37 q := fun q q0 q1 => by simp only [zg]; rw [h.r37 q q0 q1]
  have z38 : ∀ q, 0 ≤ q → q < 5 → zg w 38 q = zg v 38 q := fun q q0 q1 => by simp only [zg]; rw [h.r38 q q0 q1]
  have z93 : ∀ q, 0 ≤ q → q < 171 → zg w 93 q = zg v 93 q := fun q q0 q1 => by simp only [zg]; rw [h.r93 q q0 q1]
  have z95 : ∀ q, 0 ≤ q → q < 5130 → zg w 95 q = zg v 95 q := fun q q0 q1 => by simp only [zg]; rw [h.r95 q q0 q1]
  have z99 : ∀ q, 0 ≤ q → q < 180 → zg w 99 q = zg v 99 q := fun q q0 q1 => by simp only [zg]; rw [h.r99 q q0 q1]
  have z16 : zg w 16 = zg v 16 := zg_fn fun q => w3 16 q (by omega) (by omega)
  have z19 : zg w 19 = zg v 19 := zg_fn fun q => w3 19 q (by omega) (by omega)
  have eN : stN w = stN v := stN_w3 w3
  have eK : tkS w = tkS v := tkS_w3 w3
  have z0 : zg w 33 0 = zg v 33 0 := by simp only [zg]; rw [h.c0]
  have z1 : zg w 33 1 = zg v 33 1 := by simp only [zg]; rw [h.c1]
  have hr : ∀ k q, 0 ≤ k → k ≤ zg v 33 0 → 0 ≤ q → q < 171 → hrow w k q = hrow v k q := by
    intro k q k0 k1 q0 q1
    unfold hrow
    rw [z0]
    by_cases e : k = zg v 33 0
    · rw [if_pos e, if_pos e, h.r93 _ (by omega) (by omega)]
    · rw [if_neg e, if_neg e, h.r95 _ (by omega) (by omega)]
  have hl : ∀ k i, 0 ≤ k → k < zg v 33 0 → 0 ≤ i → i < 6 → lg w k i = lg v k i := by
    intro k i k0 k1 i0 i1
    unfold lg
    exact z34 _ (by omega) (by omega)
  have bt : ∀ s j, 0 ≤ j → j < zg v 33 0 → bitC u' s j = bitC u s j := by
    intro s j j0 j1
    unfold bitC
    rw [hu j j0 (by omega)]
  have pt : ∀ s k, 0 ≤ k → k ≤ zg v 33 0 → ptC w u' s k = ptC v u s k ∧ lst (bitC u' s) k = lst (bitC u s) k ∧ btsC w u' s k = btsC v u s k := by
    intro s k k0 k1
    refine ptC_ext (by rw [z19]) k k0 (fun j j0 j1 => ⟨bt s j j0 (by omega), ?_⟩)
    exact z34 _ (by omega) (by omega)
  refine ⟨?_, ?_, ?_, ?_, ?_, ?_, ?_, ?_, ?_, ?_⟩
  · rw [z0, z1, show zg w 79 30 = zg v 79 30 by simp only [zg]; rw [h.m30], show zg w 79 31 = zg v 79 31 by simp only [zg]; rw [h.m31]]; exact a1
  · rw [z0]; exact hC
  · rw [z0, z1, z16]
    intro k k0 k1
    obtain ⟨p1, p2⟩ := a3 k k0 k1
    refine ⟨VS_w3 w3 p1, fun s s0 s1 => ?_⟩
    rw [hr k _ (by omega) k1 (by omega) (by omega), hr k _ (by omega) k1 (by omega) (by omega)]
    exact p2 s s0 s1
  · rw [z0, z1, z16, eN, eK]
    intro k k0 k1
    have p8 := (a5 k (by omega) k1).2.2.2.2.1
    rw [hl k 0 (by omega) k1 (by omega) (by omega), hl k 1 (by omega) k1 (by omega) (by omega), hl k 2 (by omega) k1 (by omega) (by omega), hl k 4 (by omega) k1 (by omega) (by omega)]
    obtain ⟨p1, p2, p3, p4⟩ := a4 k k0 k1
    refine ⟨p1, p2, fun j j0 j1 => ?_, fun i i0 i1 => ?_⟩
    · rw [z36 _ (by omega) (by omega)]; exact p3 j j0 j1
    · rw [hr k _ (by omega) (by omega) (by omega) (by omega), hr (k + 1) _ (by omega) (by omega) (by omega) (by omega)]; exact p4 i i0 i1
  · rw [z0, z16]
    intro k k0 k1
    rw [hl k 0 (by omega) k1 (by omega) (by omega), hl k 1 (by omega) k1 (by omega) (by omega), hl k 2 (by omega) k1 (by omega) (by omega), hl k 4 (by omega) k1 (by omega) (by omega)]
    obtain ⟨p1, p2, p3, p4, p5, p6⟩ := a5 k k0 k1
    refine ⟨p1, p2, p3, p4, p5, fun i i0 i1 => ?_⟩
    rw [h.r99 _ (by omega) (by omega), h.r34 _ (by omega) (by omega)]
    exact p6 i i0 i1
  · rw [z0, z16]
    intro k k0 k1
    obtain ⟨p1, p2⟩ := a6 k k0 k1
    refine ⟨fun s s0 s1 => ?_, fun p p0 p1' => ?_⟩
    · obtain ⟨e1, e2, e3⟩ := pt s k k0 k1
      rw [e1, e2, e3, hr k _ k0 k1 (by omega) (by omega), hr k _ k0 k1 (by omega) (by omega), hr k _ k0 k1 (by omega) (by omega)]
      exact p1 s s0 s1
    · rw [hr k _ k0 k1 (by omega) (by omega), z37 _ (by omega) (by omega)]
      exact p2 p p0 p1'
  · rw [z16]
    intro i i0 i1
    rw [z93 _ (by omega) (by omega), z38 _ (by omega) (by omega)]
    exact a7 i i0 i1
  · exact h8
  · exact h9
  · exact h10
theorem RCg_of {v w : zV} (h : ∀ a q, ((16 ≤ a ∧ a ≤ 23) ∨ (33 ≤ a ∧ a ≤ 38) ∨ a = 93 ∨ a = 95 ∨ a = 99 ∨ (a = 79 ∧ 30 ≤ q ∧ q ≤ 31)) → w a q = v a q) : RCg v w :=
  ⟨fun a q h1 h2 => h a q (by omega), h _ _ (by omega), h _ _ (by omega), fun q _ _ => h _ _ (by omega), fun q _ _ => h _ _ (by omega), fun q _ _ => h _ _ (by omega), fun q _ _ => h _ _ (by omega), fun q _ _ => h _ _ (by omega), fun q _ _ => h _ _ (by omega), fun q _ _ => h _ _ (by omega), h _ _ (by omega), h _ _ (by omega)⟩
theorem RS_g {v w : zV} {u u' : zU} (hB : WB v) (h : RCg v w) (h8 : Lg8 w) (h9 : Rd9 w) (h10 : St10 w) (h30 : ∀ a q, 30 ≤ a → a ≤ 32 → w a q = v a q) (hu : ∀ k, 0 ≤ k → k < 30 → u' 35 k = u 35 k) (hR : RS v u) : RS w u' := by
  obtain ⟨X, hX⟩ := hR
  exact ⟨X, RSx_g hB h h8 h9 h10 hu (CS_w3 h.w3 h30 hX.2.1) hX⟩
theorem RS.l8 {v : zV} {u : zU} (h : RS v u) : Lg8 v ∧ Rd9 v ∧ St10 v := by
  obtain ⟨X, a1, a2, a3, a4, a5, a6, a7, a8, a9, a10⟩ := h
  exact ⟨a8, a9, a10⟩
theorem Lg8_w {v w : zV} (h : ∀ a q, (a = 16 ∨ (a = 28 ∧ q = 9) ∨ a = 39 ∨ a = 40 ∨ a = 100 ∨ a = 101 ∨ (a = 79 ∧ q = 32)) → w a q = v a q) (h8 : Lg8 v) : Lg8 w := by
  unfold Lg8 at h8 ⊢
  rw [show zg w 28 9 = zg v 28 9 by simp only [zg]; rw [h 28 9 (by omega)], show zg w 79 32 = zg v 79 32 by simp only [zg]; rw [h 79 32 (by omega)], show zg w 16 = zg v 16 from zg_fn fun q => h 16 q (by omega), show zg w 39 = zg v 39 from zg_fn fun q => h 39 q (by omega), show zg w 40 = zg v 40 from zg_fn fun q => h 40 q (by omega), show zg w 100 = zg v 100 from zg_fn fun q => h 100 q (by omega), show zg w 101 = zg v 101 from zg_fn fun q => h 101 q (by omega)]
  exact h8
theorem Rd9_w {v w : zV} (h : ∀ a q, (a = 16 ∨ (a = 28 ∧ q = 10) ∨ (41 ≤ a ∧ a ≤ 43) ∨ (105 ≤ a ∧ a ≤ 107) ∨ (a = 79 ∧ q = 33)) → w a q = v a q) (h9 : Rd9 v) : Rd9 w := by
  unfold Rd9 at h9 ⊢
  rw [show zg w 28 10 = zg v 28 10 by simp only [zg]; rw [h 28 10 (by omega)], show zg w 79 33 = zg v 79 33 by simp only [zg]; rw [h 79 33 (by omega)], show zg w 16 = zg v 16 from zg_fn fun q => h 16 q (by omega), show zg w 41 = zg v 41 from zg_fn fun q => h 41 q (by omega), show zg w 42 = zg v 42 from zg_fn fun q => h 42 q (by omega), show zg w 43 = zg v 43 from zg_fn fun q => h 43 q (by omega), show zg w 105 = zg v 105 from zg_fn fun q => h 105 q (by omega), show zg w 106 = zg v 106 from zg_fn fun q => h 106 q (by omega), show zg w 107 = zg v 107 from zg_fn fun q => h 107 q (by omega)]
  exact h9
theorem St10_w {v w : zV} (h : ∀ a q, (a = 44 ∨ a = 91) → w a q = v a q) (hs : St10 v) : St10 w := fun i i0 i1 => by rw [h 91 i (by omega), h 44 i (by omega)]; exact hs i i0 i1
theorem St10_i {v w : zV} {j : Int} (j0 : 0 ≤ j) (j1 : j < 3) (h : ∀ a q, (a = 44 ∨ a = 91) → ¬ q = j → w a q = v a q) (h4 : w 44 j = zI (zg v 44 j + 1)) (h9 : w 91 j = zI (zg v 91 j + 1)) (hs : St10 v) : St10 w := fun i i0 i1 => by
  by_cases e : i = j
  · subst e
    rw [h4, h9]
    simp only [zg]
    rw [hs i i0 i1]
  · rw [h 91 i (by omega) e, h 44 i (by omega) e]; exact hs i i0 i1
theorem EW_c {v w : zV} (h : ∀ a q, ((16 ≤ a ∧ a ≤ 23) ∨ (82 ≤ a ∧ a ≤ 89)) → w a q = v a q) (e : EW v) : EW w := by
  have g : ∀ a, ((16 ≤ a ∧ a ≤ 23) ∨ (82 ≤ a ∧ a ≤ 89)) → zg w a = zg v a := fun a ha => zg_fn fun q => h a q ha
  unfold EW at e ⊢
  rw [g 82 (by omega), g 16 (by omega), g 83 (by omega), g 17 (by omega), g 84 (by omega), g 18 (by omega), g 85 (by omega), g 19 (by omega), g 86 (by omega), g 20 (by omega), g 87 (by omega), g 21 (by omega), g 88 (by omega), g 22 (by omega), g 89 (by omega), g 23 (by omega)]
  exact e
/-- a call that leaves told worlds, tape, fault, loads and image alone -/
theorem INV_s {v w : zV} {u u' : zU} (h : ∀ a q, (a = 0 ∨ (a = 2 ∧ q = 1) ∨ a = 3 ∨ (16 ≤ a ∧ a ≤ 25) ∨ (47 ≤ a ∧ a ≤ 63) ∨ a = 78 ∨ (82 ≤ a ∧ a ≤ 90) ∨ a = 92 ∨ a = 104 ∨ (109 ≤ a ∧ a ≤ 117) ∨ (a = 79 ∧ (q = 14 ∨ q = 23 ∨ q = 44 ∨ (49 ≤ q ∧ q ≤ 53)))) → w a q = v a q) (hu : ∀ k, u' 54 k = u 54 k) (hI : INV v u) (hR : RS w u') : INV w u' :=
  ⟨WB_w3 (fun a q h1 h2 => h a q (by omega)) hI.wb, by
    have g : ∀ a, ((16 ≤ a ∧ a ≤ 23) ∨ (82 ≤ a ∧ a ≤ 89)) → zg w a = zg v a := fun a ha => zg_fn fun q => h a q (by omega)
    have e := hI.ew
    unfold EW at e ⊢
    rw [g 82 (by omega), g 16 (by omega), g 83 (by omega), g 17 (by omega), g 84 (by omega), g 18 (by omega), g 85 (by omega), g 19 (by omega), g 86 (by omega), g 20 (by omega), g 87 (by omega), g 21 (by omega), g 88 (by omega), g 22 (by omega), g 89 (by omega), g 23 (by omega)]
    exact e, pTF_w (h _ _ (by omega)) (fun q => h _ _ (by omega)) (h _ _ (by omega)) (fun q => h _ _ (by omega)) hI.tf, pTP_w (h _ _ (by omega)) (fun q => h _ _ (by omega)) (h _ _ (by omega)) (fun q => h _ _ (by omega)) hI.tp, pFL_w (h _ _ (by omega)) (h _ _ (by omega)) hI.fl, hR, pLD_w (h _ _ (by omega)) (fun q => h _ _ (by omega)) (h _ _ (by omega)) (fun q => h _ _ (by omega)) hI.ld, pIM_w hI.wb (h _ _ (by omega)) (h _ _ (by omega)) (fun a q hh => h a q (by omega)) (fun q h1 h2 => h 79 q (by omega)) hu hI.im⟩
