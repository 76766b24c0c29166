/-! what binds the class and the reference: the cells that it reads -/
def RCw (v w : zV) : Prop := (∀ a q, 16 ≤ a → a ≤ 23 → w a q = v a q) ∧ (w 28 9 = v 28 9) ∧ (w 28 10 = v 28 10) ∧ (w 33 0 = v 33 0) ∧ (w 33 1 = v 33 1) ∧ (∀ q, 0 ≤ q → q < 180 → w 34 q = v 34 q) ∧ (∀ q, 0 ≤ q → q < 240 → w 36 q = v 36 q) ∧ (∀ q, 0 ≤ q → q < 186 → w 37 q = v 37 q) ∧ (∀ q, 0 ≤ q → q < 5 → w 38 q = v 38 q) ∧ (∀ q, 0 ≤ q → q < 4 → w 39 q = v 39 q) ∧ (∀ q, 0 ≤ q → q < 4 → w 40 q = v 40 q) ∧ (∀ q, 0 ≤ q → q < 10 → w 41 q = v 41 q) ∧ (∀ q, 0 ≤ q → q < 10 → w 42 q = v 42 q) ∧ (∀ q, 0 ≤ q → q < 10 → w 43 q = v 43 q) ∧ (∀ q, 0 ≤ q → q < 3 → w 44 q = v 44 q) ∧ (∀ q, 0 ≤ q → q < 171 → w 93 q = v 93 q) ∧ (∀ q, 0 ≤ q → q < 5130 → w 95 q = v 95 q) ∧ (∀ q, 0 ≤ q → q < 180 → w 99 q = v 99 q) ∧ (∀ q, 0 ≤ q → q < 4 → w 100 q = v 100 q) ∧ (∀ q, 0 ≤ q → q < 4 → w 101 q = v 101 q) ∧ (∀ q, 0 ≤ q → q < 10 → w 105 q = v 105 q) ∧ (∀ q, 0 ≤ q → q < 10 → w 106 q = v 106 q) ∧ (∀ q, 0 ≤ q → q < 10 → w 107 q = v 107 q) ∧ (∀ q, 0 ≤ q → q < 3 → w 91 q = v 91 q) ∧ (w 79 30 = v 79 30) ∧ (w 79 31 = v 79 31) ∧ (w 79 32 = v 79 32) ∧ (w 79 33 = v 79 33)
theorem RCw.w3 {v w : zV} (h : RCw v w) : ∀ a q, 16 ≤ a → a ≤ 23 → w a q = v a q := h.1
theorem RCw.l9 {v w : zV} (h : RCw v w) : w 28 9 = v 28 9 := h.2.1
theorem RCw.l10 {v w : zV} (h : RCw v w) : w 28 10 = v 28 10 := h.2.2.1
theorem RCw.c0 {v w : zV} (h : RCw v w) : w 33 0 = v 33 0 := h.2.2.2.1
theorem RCw.c1 {v w : zV} (h : RCw v w) : w 33 1 = v 33 1 := h.2.2.2.2.1
theorem RCw.r34 {v w : zV} (h : RCw v w) : ∀ q, 0 ≤ q → q < 180 → w 34 q = v 34 q := h.2.2.2.2.2.1
theorem RCw.r36 {v w : zV} (h : RCw v w) : ∀ q, 0 ≤ q → q < 240 → w 36 q = v 36 q := h.2.2.2.2.2.2.1
theorem RCw.r37 {v w : zV} (h : RCw v w) : ∀ q, 0 ≤ q → q < 186 → w 37 q = v 37 q := h.2.2.2.2.2.2.2.1
theorem RCw.r38 {v w : zV} (h : RCw v w) : ∀ q, 0 ≤ q → q < 5 → w 38 q = v 38 q := h.2.2.2.2.2.2.2.2.1
theorem RCw.r39 {v w : zV} (h : RCw v w) : ∀ q, 0 ≤ q → q < 4 → w 39 q = v 39 q := h.2.2.2.2.2.2.2.2.2.1
theorem RCw.r40 {v w : zV} (h : RCw v w) : ∀ q, 0 ≤ q → q < 4 → w 40 q = v 40 q := h.2.2.2.2.2.2.2.2.2.2.1
theorem RCw.r41 {v w : zV} (h : RCw v w) : ∀ q, 0 ≤ q → q < 10 → w 41 q = v 41 q := h.2.2.2.2.2.2.2.2.2.2.2.1
theorem RCw.r42 {v w : zV} (h : RCw v w) : ∀ q, 0 ≤ q → q < 10 → w 42 q = v 42 q := h.2.2.2.2.2.2.2.2.2.2.2.2.1
theorem RCw.r43 {v w : zV} (h : RCw v w) : ∀ q, 0 ≤ q → q < 10 → w 43 q = v 43 q := h.2.2.2.2.2.2.2.2.2.2.2.2.2.1
theorem RCw.r44 {v w : zV} (h : RCw v w) : ∀ q, 0 ≤ q → q < 3 → w 44 q = v 44 q := h.2.2.2.2.2.2.2.2.2.2.2.2.2.2.1
theorem RCw.r93 {v w : zV} (h : RCw v w) : ∀ q, 0 ≤ q → q < 171 → w 93 q = v 93 q := h.2.2.2.2.2.2.2.2.2.2.2.2.2.2.2.1
theorem RCw.r95 {v w : zV} (h : RCw v w) : ∀ q, 0 ≤ q → q < 5130 → w 95 q = v 95 q := h.2.2.2.2.2.2.2.2.2.2.2.2.2.2.2.2.1
theorem RCw.r99 {v w : zV} (h : RCw v w) : ∀ q, 0 ≤ q → q < 180 → w 99 q = v 99 q := h.2.2.2.2.2.2.2.2.2.2.2.2.2.2.2.2.2.1
theorem RCw.r100 {v w : zV} (h : RCw v w) : ∀ q, 0 ≤ q → q < 4 → w 100 q = v 100 q := h.2.2.2.2.2.2.2.2.2.2.2.2.2.2.2.2.2.2.1
theorem RCw.r101 {v w : zV} (h : RCw v w) : ∀ q, 0 ≤ q → q < 4 → w 101 q = v 101 q := h.2.2.2.2.2.2.2.2.2.2.2.2.2.2.2.2.2.2.2.1
theorem RCw.r105 {v w : zV} (h : RCw v w) : ∀ q, 0 ≤ q → q < 10 → w 105 q = v 105 q := h.2.2.2.2.2.2.2.2.2.2.2.2.2.2.2.2.2.2.2.2.1
theorem RCw.r106 {v w : zV} (h : RCw v w) : ∀ q, 0 ≤ q → q < 10 → w 106 q = v 106 q := h.2.2.2.2.2.2.2.2.2.2.2.2.2.2.2.2.2.2.2.2.2.1
theorem RCw.r107 {v w : zV} (h : RCw v w) : ∀ q, 0 ≤ q → q < 10 → w 107 q = v 107 q := h.2.2.2.2.2.2.2.2.2.2.2.2.2.2.2.2.2.2.2.2.2.2.1
theorem RCw.r91 {v w : zV} (h : RCw v w) : ∀ q, 0 ≤ q → q < 3 → w 91 q = v 91 q := h.2.2.2.2.2.2.2.2.2.2.2.2.2.2.2.2.2.2.2.2.2.2.2.1
theorem RCw.m30 {v w : zV} (h : RCw v w) : w 79 30 = v 79 30 := h.2.2.2.2.2.2.2.2.2.2.2.2.2.2.2.2.2.2.2.2.2.2.2.2.1
theorem RCw.m31 {v w : zV} (h : RCw v w) : w 79 31 = v 79 31 := h.2.2.2.2.2.2.2.2.2.2.2.2.2.2.2.2.2.2.2.2.2.2.2.2.2.1
theorem RCw.m32 {v w : zV} (h : RCw v w) : w 79 32 = v 79 32 := h.2.2.2.2.2.2.2.2.2.2.2.2.2.2.2.2.2.2.2.2.2.2.2.2.2.2.1
theorem RCw.m33 {v w : zV} (h : RCw v w) : w 79 33 = v 79 33 := h.2.2.2.2.2.2.2.2.2.2.2.2.2.2.2.2.2.2.2.2.2.2.2.2.2.2.2
theorem RSx_w {v w : zV} {u u' : zU} {X : Int → zPL} (hB : WB v) (h : RCw v w) (hu : ∀ k, 0 ≤ k → k < 30 → u' 35 k = u 35 k) (hC : CS w (X (zg v 33 0)).1 (X (zg v 33 0)).2) (hR : RSx v u X) : RSx w u' X := by
  obtain ⟨a1, a2, a3, a4, a5, a6, a7, a8, a9, a10⟩ := hR
  have b0 := hB.1
  have b1 := hB.2.1
  have b2 := hB.2.2.1
  have w3 := h.w3
  have z34 : ∀ q, 0 ≤ q → q < 180 → zg w 34 q = zg v 34 q := fun q q0 q1 => by simp only [zg]; rw [h.r34 q q0 q1]
  have z36 : ∀ q, 0 ≤ q → q < 240 → zg w 36 q = zg v 36 q := fun q q0 q1 => by simp only [zg]; rw [h.r36 q q0 q1]
  have z37 : ∀ q, 0 ≤ q → q < 186 → zg w 37 q = zg v 37 q := fun q q0 q1 => by simp only [zg]; rw [h.r37 q q0 q1]
  have z38 : ∀ q, 0 ≤ q → q < 5 → zg w 38 q = zg v 38 q := fun q q0 q1 => by simp only [zg]; rw [h.r38 q q0 q1]
  have z39 : ∀ q, 0 ≤ q → q < 4 → zg w 39 q = zg v 39 q := fun q q0 q1 => by simp only [zg]; rw [h.r39 q q0 q1]
  have z40 : ∀ q, 0 ≤ q → q < 4 → zg w 40 q = zg v 40 q := fun q q0 q1 => by simp only [zg]; rw [h.r40 q q0 q1]
  have z41 : ∀ q, 0 ≤ q → q < 10 → zg w 41 q = zg v 41 q := fun q q0 q1 => by simp only [zg]; rw [h.r41 q q0 q1]
  have z42 : ∀ q, 0 ≤ q → q < 10 → zg w 42 q = zg v 42 q := fun q q0 q1 => by simp only [zg]; rw [h.r42 q q0 q1]
  have z43 : ∀ q, 0 ≤ q → q < 10 → zg w 43 q = zg v 43 q := fun q q0 q1 => by simp only [zg]; rw [h.r43 q q0 q1]
  have z44 : ∀ q, 0 ≤ q → q < 3 → zg w 44 q = zg v 44 q := fun q q0 q1 => by simp only [zg]; rw [h.r44 q q0 q1]
  have z93 : ∀ q, 0 ≤ q → q < 171 → zg w 93 q = zg v 93 q := fun q q0 q1 => by simp only [zg]; rw [h.r93 q q0 q1]
  have z95 : ∀ q, 0 ≤ q → q < 5130 → zg w 95 q = zg v 95 q := fun q q0 q1 => by simp only [zg]; rw [h.r95 q q0 q1]
  have z99 : ∀ q, 0 ≤ q → q < 180 → zg w 99 q = zg v 99 q := fun q q0 q1 => by simp only [zg]; rw [h.r99 q q0 q1]
  have z100 : ∀ q, 0 ≤ q → q < 4 → zg w 100 q = zg v 100 q := fun q q0 q1 => by simp only [zg]; rw [h.r100 q q0 q1]
  have z101 : ∀ q, 0 ≤ q → q < 4 → zg w 101 q = zg v 101 q := fun q q0 q1 => by simp only [zg]; rw [h.r101 q q0 q1]
  have z105 : ∀ q, 0 ≤ q → q < 10 → zg w 105 q = zg v 105 q := fun q q0 q1 => by simp only [zg]; rw [h.r105 q q0 q1]
  have z106 : ∀ q, 0 ≤ q → q < 10 → zg w 106 q = zg v 106 q := fun q q0 q1 => by simp only [zg]; rw [h.r106 q q0 q1]
  have z107 : ∀ q, 0 ≤ q → q < 10 → zg w 107 q = zg v 107 q := fun q q0 q1 => by simp only [zg]; rw [h.r107 q q0 q1]
  have z91 : ∀ q, 0 ≤ q → q < 3 → zg w 91 q = zg v 91 q := fun q q0 q1 => by simp only [zg]; rw [h.r91 q q0 q1]
  have z16 : zg w 16 = zg v 16 := zg_fn fun q => w3 16 q (by omega) (by omega)
  have z19 : zg w 19 = zg v 19 := zg_fn fun q => w3 19 q (by omega) (by omega)
  have eN : stN w = stN v := stN_w3 w3
  have eK : tkS w = tkS v := tkS_w3 w3
  have z0 : zg w 33 0 = zg v 33 0 := by simp only [zg]; rw [h.c0]
  have z1 : zg w 33 1 = zg v 33 1 := by simp only [zg]; rw [h.c1]
  have hr : ∀ k q, 0 ≤ k → k ≤ zg v 33 0 → 0 ≤ q → q < 171 → hrow w k q = hrow v k q := by
    intro k q k0 k1 q0 q1
    unfold hrow
    rw [z0]
    by_cases e : k = zg v 33 0
    · rw [if_pos e, if_pos e, h.r93 _ (by omega) (by omega)]
    · rw [if_neg e, if_neg e, h.r95 _ (by omega) (by omega)]
  have hl : ∀ k i, 0 ≤ k → k < zg v 33 0 → 0 ≤ i → i < 6 → lg w k i = lg v k i := by
    intro k i k0 k1 i0 i1
    unfold lg
    exact z34 _ (by omega) (by omega)
  have bt : ∀ s j, 0 ≤ j → j < zg v 33 0 → bitC u' s j = bitC u s j := by
    intro s j j0 j1
    unfold bitC
    rw [hu j j0 (by omega)]
  have pt : ∀ s k, 0 ≤ k → k ≤ zg v 33 0 → ptC w u' s k = ptC v u s k ∧ lst (bitC u' s) k = lst (bitC u s) k ∧ btsC w u' s k = btsC v u s k := by
    intro s k k0 k1
    refine ptC_ext (by rw [z19]) k k0 (fun j j0 j1 => ⟨bt s j j0 (by omega), ?_⟩)
    exact z34 _ (by omega) (by omega)
  refine ⟨?_, ?_, ?_, ?_, ?_, ?_, ?_, ?_, ?_, ?_⟩
  · rw [z0, z1, show zg w 79 30 = zg v 79 30 by simp only [zg]; rw [h.m30], show zg w 79 31 = zg v 79 31 by simp only [zg]; rw [h.m31]]; exact a1
  · rw [z0]; exact hC
  · rw [z0, z1, z16]
    intro k k0 k1
    obtain ⟨p1, p2⟩ := a3 k k0 k1
    refine ⟨VS_w3 w3 p1, fun s s0 s1 => ?_⟩
    rw [hr k _ (by omega) k1 (by omega) (by omega), hr k _ (by omega) k1 (by omega) (by omega)]
    exact p2 s s0 s1
  · rw [z0, z1, z16, eN, eK]
    intro k k0 k1
    have p8 := (a5 k (by omega) k1).2.2.2.2.1
    rw [hl k 0 (by omega) k1 (by omega) (by omega), hl k 1 (by omega) k1 (by omega) (by omega), hl k 2 (by omega) k1 (by omega) (by omega), hl k 4 (by omega) k1 (by omega) (by omega)]
    obtain ⟨p1, p2, p3, p4⟩ := a4 k k0 k1
    refine ⟨p1, p2, fun j j0 j1 => ?_, fun i i0 i1 => ?_⟩
    · rw [z36 _ (by omega) (by omega)]; exact p3 j j0 j1
    · rw [hr k _ (by omega) (by omega) (by omega) (by omega), hr (k + 1) _ (by omega) (by omega) (by omega) (by omega)]; exact p4 i i0 i1
  · rw [z0, z16]
    intro k k0 k1
    rw [hl k 0 (by omega) k1 (by omega) (by omega), hl k 1 (by omega) k1 (by omega) (by omega), hl k 2 (by omega) k1 (by omega) (by omega), hl k 4 (by omega) k1 (by omega) (by omega)]
    obtain ⟨p1, p2, p3, p4, p5, p6⟩ := a5 k k0 k1
    refine ⟨p1, p2, p3, p4, p5, fun i i0 i1 => ?_⟩
    rw [h.r99 _ (by omega) (by omega), h.r34 _ (by omega) (by omega)]
    exact p6 i i0 i1
  · rw [z0, z16]
    intro k k0 k1
    obtain ⟨p1, p2⟩ := a6 k k0 k1
    refine ⟨fun s s0 s1 => ?_, fun p p0 p1' => ?_⟩
    · obtain ⟨e1, e2, e3⟩ := pt s k k0 k1
      rw [e1, e2, e3, hr k _ k0 k1 (by omega) (by omega), hr k _ k0 k1 (by omega) (by omega), hr k _ k0 k1 (by omega) (by omega)]
      exact p1 s s0 s1
    · rw [hr k _ k0 k1 (by omega) (by omega), z37 _ (by omega) (by omega)]
      exact p2 p p0 p1'
  · rw [z16]
    intro i i0 i1
    rw [z93 _ (by omega) (by omega), z38 _ (by omega) (by omega)]
    exact a7 i i0 i1
  · have e9 : zg w 28 9 = zg v 28 9 := by simp only [zg]; rw [h.l9]
    rw [e9, show zg w 79 32 = zg v 79 32 by simp only [zg]; rw [h.m32], z16]
    refine ⟨a8.1, a8.2.1, fun i i0 i1 => ?_⟩
    have := a8.1
    rw [z100 _ (by omega) (by omega), z39 _ (by omega) (by omega), z101 _ (by omega) (by omega), z40 _ (by omega) (by omega)]
    exact a8.2.2 i i0 i1
  · have e9 : zg w 28 10 = zg v 28 10 := by simp only [zg]; rw [h.l10]
    rw [e9, show zg w 79 33 = zg v 79 33 by simp only [zg]; rw [h.m33], z16]
    refine ⟨a9.1, a9.2.1, fun i i0 i1 => ?_⟩
    have := a9.1
    rw [z105 _ (by omega) (by omega), z41 _ (by omega) (by omega), z106 _ (by omega) (by omega), z42 _ (by omega) (by omega), z107 _ (by omega) (by omega), z43 _ (by omega) (by omega)]
    exact a9.2.2 i i0 i1
  · intro i i0 i1
    rw [h.r91 _ (by omega) (by omega), h.r44 _ (by omega) (by omega)]
    exact a10 i i0 i1
/-- the streets' cells, as far as they are read -/
theorem CS_rg {v w : zV} {P L : Int → Int} (hB : WB v) (h3 : ∀ a q, 16 ≤ a → a ≤ 23 → w a q = v a q) (h30 : ∀ q, 0 ≤ q → q < 6 → w 30 q = v 30 q) (h31 : ∀ q, 0 ≤ q → q < 240 → w 31 q = v 31 q) (h32 : ∀ q, 0 ≤ q → q < 36 → w 32 q = v 32 q) (hC : CS v P L) : CS w P L := by
  have z16 : zg w 16 = zg v 16 := zg_fn fun q => h3 16 q (by omega) (by omega)
  have z19 : zg w 19 = zg v 19 := zg_fn fun q => h3 19 q (by omega) (by omega)
  have y30 : ∀ q, 0 ≤ q → q < 6 → zg w 30 q = zg v 30 q := fun q a b => by simp only [zg]; rw [h30 q a b]
  have y31 : ∀ q, 0 ≤ q → q < 240 → zg w 31 q = zg v 31 q := fun q a b => by simp only [zg]; rw [h31 q a b]
  have y32 : ∀ q, 0 ≤ q → q < 36 → zg w 32 q = zg v 32 q := fun q a b => by simp only [zg]; rw [h32 q a b]
  have hl := fun p (p0 : 0 ≤ p) (p1 : p < 6) => hC.len hB.wf p0 p1
  obtain ⟨c1, c2, c3, c4, c5⟩ := hC
  refine ⟨fun s s0 s1 => ?_, fun p p0 p1 => ?_, fun p p0 p1 i i0 i1 => ?_, fun p o p0 p1 o0 o1 => ?_, ?_⟩
  · rw [z16] at s1
    rcases c1 s s0 s1 with e | ⟨e1, e2, e3, e4, e5⟩
    · exact Or.inl e
    · have := hl _ e1 e2
      exact Or.inr ⟨e1, e2, e3, by rw [y30 _ e1 e2]; exact e4, by rw [y31 _ (by omega) (by omega)]; exact e5⟩
  · rw [y30 p p0 p1, z16]; exact c2 p p0 p1
  · rw [y30 p p0 p1] at i1
    have := hl p p0 p1
    rw [y31 _ (by omega) (by omega), z16]
    exact c3 p p0 p1 i i0 i1
  · rw [y32 _ (by omega) (by omega), z16, z19]; exact c4 p o p0 p1 o0 o1
  · rw [z16]; exact c5
def imm (v : zV) (a : Nat) (q : Int) : Int32 := if a = 28 then v 47 q else if a = 30 then v 49 q else if a = 31 then v 50 q else if a = 32 then v 51 q else if a = 33 then v 52 q else if a = 34 then v 53 q else if a = 36 then v 55 q else if a = 37 then v 56 q else if 38 ≤ a ∧ a ≤ 44 then v (a + 19) q else if a = 93 then v 109 q else if a = 95 then v 110 q else if a = 99 then v 111 q else if a = 100 then v 112 q else if a = 101 then v 113 q else if a = 105 then v 114 q else if a = 106 then v 115 q else if a = 107 then v 116 q else if a = 91 then v 117 q else if a = 79 ∧ 30 ≤ q ∧ q ≤ 33 then v 79 (q + 20) else v a q
def imu (u : zU) : zU := fun a k => if a = 35 then u 54 k else u a k
def pTF (v : zV) : Prop := WT (zg v 25) (zg v 24 3) ∧ zg v 82 3 = zg v 24 3 ∧ ∀ i, 0 ≤ i → i < zg v 24 3 → zg v 90 i = enc (zg v 25 i)
def pTP (v : zV) : Prop := (0 ≤ zg v 2 1 ∧ zg v 2 1 ≤ 600) ∧ zg v 79 14 = zg v 2 1 ∧ ∀ i, 0 ≤ i → i < zg v 2 1 → (-128 ≤ zg v 3 i ∧ zg v 3 i < 128) ∧ zg v 92 i = zg v 3 i % 256
def pLD (v : zV) : Prop := (zg v 79 44 = -1 ∧ zg v 0 8 = 0) ∨ ((0 ≤ zg v 0 8 ∧ zg v 0 8 ≤ 4) ∧ zg v 79 44 = zg v 0 8 ∧ ∀ i, 0 ≤ i → i < zg v 0 8 → zg v 78 i = zg v 104 i)
def pIM (v : zV) (u : zU) : Prop := (zg v 0 6 = 0 ∨ zg v 0 6 = 1) ∧ zg v 79 49 = zg v 0 6 ∧ (zg v 0 6 = 1 → RS (imm v) (imu u))
/-- all that binds the two sides between two calls -/
def INV (v : zV) (u : zU) : Prop := (WB v) ∧ (EW v) ∧ (pTF v) ∧ (pTP v) ∧ (zg v 0 7 = zg v 79 23) ∧ (RS v u) ∧ (pLD v) ∧ (pIM v u)
theorem INV.wb {v : zV} {u : zU} (h : INV v u) : WB v := h.1
theorem INV.ew {v : zV} {u : zU} (h : INV v u) : EW v := h.2.1
theorem INV.tf {v : zV} {u : zU} (h : INV v u) : pTF v := h.2.2.1
theorem INV.tp {v : zV} {u : zU} (h : INV v u) : pTP v := h.2.2.2.1
theorem INV.fl {v : zV} {u : zU} (h : INV v u) : zg v 0 7 = zg v 79 23 := h.2.2.2.2.1
theorem INV.rs {v : zV} {u : zU} (h : INV v u) : RS v u := h.2.2.2.2.2.1
theorem INV.ld {v : zV} {u : zU} (h : INV v u) : pLD v := h.2.2.2.2.2.2.1
theorem INV.im {v : zV} {u : zU} (h : INV v u) : pIM v u := h.2.2.2.2.2.2.2
theorem RCw_of {v w : zV} (h : ∀ a q, ((16 ≤ a ∧ a ≤ 23) ∨ a = 28 ∨ (33 ≤ a ∧ a ≤ 44) ∨ a = 91 ∨ a = 93 ∨ a = 95 ∨ a = 99 ∨ a = 100 ∨ a = 101 ∨ (105 ≤ a ∧ a ≤ 107) ∨ (a = 79 ∧ 30 ≤ q ∧ q ≤ 33)) → w a q = v a q) : RCw v w :=
  ⟨fun a q h1 h2 => h a q (by omega), h _ _ (by omega), h _ _ (by omega), h _ _ (by omega), h _ _ (by omega), fun q _ _ => h _ _ (by omega), fun q _ _ => h _ _ (by omega), fun q _ _ => h _ _ (by omega), fun q _ _ => h _ _ (by omega), fun q _ _ => h _ _ (by omega), fun q _ _ => h _ _ (by omega), fun q _ _ => h _ _ (by omega), fun q _ _ => h _ _ (by omega), fun q _ _ => h _ _ (by omega), fun q _ _ => h _ _ (by omega), fun q _ _ => h _ _ (by omega), fun q _ _ => h _ _ (by omega), fun q _ _ => h _ _ (by omega), fun q _ _ => h _ _ (by omega), fun q _ _ => h _ _ (by omega), fun q _ _ => h _ _ (by omega), fun q _ _ => h _ _ (by omega), fun q _ _ => h _ _ (by omega), fun q _ _ => h _ _ (by omega), h _ _ (by omega), h _ _ (by omega), h _ _ (by omega), h _ _ (by omega)⟩
theorem RS_k {v w : zV} {u u' : zU} (hB : WB v) (h : RCw v w) (h30 : ∀ a q, 30 ≤ a → a ≤ 32 → w a q = v a q) (hu : ∀ k, 0 ≤ k → k < 30 → u' 35 k = u 35 k) (hR : RS v u) : RS w u' := by
  obtain ⟨X, hX⟩ := hR
  exact ⟨X, RSx_w hB h hu (CS_w3 h.w3 h30 hX.2.1) hX⟩
theorem imm_B {v : zV} (h : WB v) : WB (imm v) := WB_w3 (fun a q h1 h2 => by unfold imm; repeat (rw [if_neg (by omega)])) h
theorem pTF_w {v w : zV} (h1 : w 24 3 = v 24 3) (h2 : ∀ q, w 25 q = v 25 q) (h3 : w 82 3 = v 82 3) (h4 : ∀ q, w 90 q = v 90 q) (h : pTF v) : pTF w := by
  unfold pTF at h ⊢
  rw [show zg w 24 3 = zg v 24 3 by simp only [zg]; rw [h1], show zg w 25 = zg v 25 from zg_fn h2, show zg w 82 3 = zg v 82 3 by simp only [zg]; rw [h3], show zg w 90 = zg v 90 from zg_fn h4]
  exact h
theorem pTP_w {v w : zV} (h1 : w 2 1 = v 2 1) (h2 : ∀ q, w 3 q = v 3 q) (h3 : w 79 14 = v 79 14) (h4 : ∀ q, w 92 q = v 92 q) (h : pTP v) : pTP w := by
  unfold pTP at h ⊢
  rw [show zg w 2 1 = zg v 2 1 by simp only [zg]; rw [h1], show zg w 3 = zg v 3 from zg_fn h2, show zg w 79 14 = zg v 79 14 by simp only [zg]; rw [h3], show zg w 92 = zg v 92 from zg_fn h4]
  exact h
theorem pLD_w {v w : zV} (h1 : w 0 8 = v 0 8) (h2 : ∀ q, w 78 q = v 78 q) (h3 : w 79 44 = v 79 44) (h4 : ∀ q, w 104 q = v 104 q) (h : pLD v) : pLD w := by
  unfold pLD at h ⊢
  rw [show zg w 0 8 = zg v 0 8 by simp only [zg]; rw [h1], show zg w 78 = zg v 78 from zg_fn h2, show zg w 79 44 = zg v 79 44 by simp only [zg]; rw [h3], show zg w 104 = zg v 104 from zg_fn h4]
  exact h
theorem pFL_w {v w : zV} (h1 : w 0 7 = v 0 7) (h3 : w 79 23 = v 79 23) (h : zg v 0 7 = zg v 79 23) : zg w 0 7 = zg w 79 23 := by
  simp only [zg] at h ⊢
  rw [h1, h3]
  exact h
/-- the image is kept -/
theorem pIM_w {v w : zV} {u u' : zU} (hB : WB v) (h1 : w 0 6 = v 0 6) (h2 : w 79 49 = v 79 49) (h3 : ∀ a q, ((16 ≤ a ∧ a ≤ 23) ∨ (47 ≤ a ∧ a ≤ 63) ∨ (109 ≤ a ∧ a ≤ 117)) → w a q = v a q) (h4 : ∀ q, 50 ≤ q → q ≤ 53 → w 79 q = v 79 q) (h5 : ∀ k, u' 54 k = u 54 k) (h : pIM v u) : pIM w u' := by
  obtain ⟨a1, a2, a3⟩ := h
  have e1 : zg w 0 6 = zg v 0 6 := by simp only [zg]; rw [h1]
  have e2 : zg w 79 49 = zg v 79 49 := by simp only [zg]; rw [h2]
  refine ⟨by rw [e1]; exact a1, by rw [e1, e2]; exact a2, fun z => ?_⟩
  rw [e1] at z
  refine RS_k (imm_B hB) ?_ (fun a q g1 g2 => ?_) (fun k k0 k1 => ?_) (a3 z)
  · have low : ∀ a q, 16 ≤ a → a ≤ 23 → imm w a q = imm v a q := fun a q g1 g2 => by
      unfold imm
      rw [if_neg (by omega), if_neg (by omega), if_neg (by omega), if_neg (by omega), if_neg (by omega), if_neg (by omega), if_neg (by omega), if_neg (by omega), if_neg (by omega), if_neg (by omega), if_neg (by omega), if_neg (by omega), if_neg (by omega), if_neg (by omega), if_neg (by omega), if_neg (by omega), if_neg (by omega), if_neg (by omega), if_neg (by omega), if_neg (by omega), if_neg (by omega), if_neg (by omega), if_neg (by omega), if_neg (by omega), if_neg (by omega), if_neg (by omega), if_neg (by omega), if_neg (by omega), if_neg (by omega), if_neg (by omega), if_neg (by omega), if_neg (by omega), if_neg (by omega), if_neg (by omega), if_neg (by omega), if_neg (by omega), if_neg (by omega), if_neg (by omega), h3 a q (by omega)]
    refine ⟨low, h3 47 9 (by omega), h3 47 10 (by omega), h3 52 0 (by omega), h3 52 1 (by omega), fun q _ _ => h3 53 q (by omega), fun q _ _ => h3 55 q (by omega), fun q _ _ => h3 56 q (by omega), fun q _ _ => h3 57 q (by omega), fun q _ _ => h3 58 q (by omega), fun q _ _ => h3 59 q (by omega), fun q _ _ => h3 60 q (by omega), fun q _ _ => h3 61 q (by omega), fun q _ _ => h3 62 q (by omega), fun q _ _ => h3 63 q (by omega), fun q _ _ => h3 109 q (by omega), fun q _ _ => h3 110 q (by omega), fun q _ _ => h3 111 q (by omega), fun q _ _ => h3 112 q (by omega), fun q _ _ => h3 113 q (by omega), fun q _ _ => h3 114 q (by omega), fun q _ _ => h3 115 q (by omega), fun q _ _ => h3 116 q (by omega), fun q _ _ => h3 117 q (by omega), h4 50 (by omega) (by omega), h4 51 (by omega) (by omega), h4 52 (by omega) (by omega), h4 53 (by omega) (by omega)⟩
  · rcases (show a = 30 ∨ a = 31 ∨ a = 32 by omega) with e | e | e <;> subst e
    · exact h3 49 q (by omega)
    · exact h3 50 q (by omega)
    · exact h3 51 q (by omega)
  · exact h5 k
/-- a question changes nothing that binds -/
theorem INV_q {v w : zV} {u u' : zU} (h : ∀ a q, ¬ (a = 79 ∧ q = 2) → w a q = v a q) (hu : ∀ a k, ¬ a = 118 → u' a k = u a k) (hI : INV v u) : INV w u' :=
  ⟨WB_w3 (fun a q h1 h2 => h a q (by omega)) hI.wb, EW_wr (fun a q h1 h2 h3 => h a q (by omega)) hI.ew, pTF_w (h _ _ (by omega)) (fun q => h _ _ (by omega)) (h _ _ (by omega)) (fun q => h _ _ (by omega)) hI.tf, pTP_w (h _ _ (by omega)) (fun q => h _ _ (by omega)) (h _ _ (by omega)) (fun q => h _ _ (by omega)) hI.tp, pFL_w (h _ _ (by omega)) (h _ _ (by omega)) hI.fl, RS_k hI.wb (RCw_of fun a q hh => h a q (by omega)) (fun a q h1 h2 => h a q (by omega)) (fun k _ _ => hu 35 k (by omega)) hI.rs, pLD_w (h _ _ (by omega)) (fun q => h _ _ (by omega)) (h _ _ (by omega)) (fun q => h _ _ (by omega)) hI.ld, pIM_w hI.wb (h _ _ (by omega)) (h _ _ (by omega)) (fun a q hh => h a q (by omega)) (fun q h1 h2 => h 79 q (by omega)) (fun k => hu 54 k (by omega)) hI.im⟩
