/-! two stones of a street change places -/
def swV (v : zV) (x y : Int) : zV := zu (zu v 31 x (v 31 y)) 31 y (v 31 x)
def swL (L : Int → Int) (a b i j : Int) : Int → Int := fun t => if t = a then j else if t = b then i else L t
theorem swV_na {v : zV} {x y k : Int} {a : Nat} (h : ¬ a = 31) : zg (swV v x y) a k = zg v a k := by
  rw [swV, zg_na h, zg_na h]
theorem swV_31 {v : zV} {x y k : Int} : zg (swV v x y) 31 k = if k = y then zg v 31 x else if k = x then zg v 31 y else zg v 31 k := by
  simp only [zg, swV, zu]
  by_cases h1 : k = y
  · subst h1; simp
  · by_cases h2 : k = x
    · subst h2; simp [h1]
    · simp [h1, h2]
theorem CS_swap {v : zV} {P L : Int → Int} {p i j : Int} (h : CS v P L) (w : WF v) (p0 : 0 ≤ p) (p1 : p < 6) (i0 : 0 ≤ i) (i1 : i < zg v 30 p) (j0 : 0 ≤ j) (j1 : j < zg v 30 p) : CS (swV v (p * 40 + i) (p * 40 + j)) P (swL L (zg v 31 (p * 40 + i)) (zg v 31 (p * 40 + j)) i j) := by
  obtain ⟨a, ha⟩ : ∃ a, a = zg v 31 (p * 40 + i) := ⟨_, rfl⟩
  obtain ⟨b, hb⟩ : ∃ b, b = zg v 31 (p * 40 + j) := ⟨_, rfl⟩
  obtain ⟨a0, a1, a2, a3⟩ := h.2.2.1 p p0 p1 i i0 i1
  obtain ⟨b0, b1, b2, b3⟩ := h.2.2.1 p p0 p1 j j0 j1
  have hl := h.len w p0 p1
  have hn : zg (swV v (p * 40 + i) (p * 40 + j)) 16 9 = zg v 16 9 := swV_na (by decide)
  have h19 : zg (swV v (p * 40 + i) (p * 40 + j)) 19 = zg v 19 := funext fun k => swV_na (by decide)
  have h30 : ∀ k, zg (swV v (p * 40 + i) (p * 40 + j)) 30 k = zg v 30 k := fun k => swV_na (by decide)
  have h32 : ∀ k, zg (swV v (p * 40 + i) (p * 40 + j)) 32 k = zg v 32 k := fun k => swV_na (by decide)
  rw [← ha] at a0 a1 a2 a3
  rw [← hb] at b0 b1 b2 b3
  rw [← ha, ← hb]
  refine ⟨?_, ?_, ?_, ?_, ?_⟩
  · intro t t0 t1
    rw [hn] at t1
    rcases h.1 t t0 t1 with z | ⟨z1, z2, z3, z4, z5⟩
    · exact Or.inl z
    · right
      rw [h30, swV_31]
      unfold swL
      by_cases e1 : t = a
      · rw [if_pos e1, e1, a2]
        refine ⟨p0, p1, j0, j1, ?_⟩
        rw [if_pos rfl]
        exact ha.symm
      · rw [if_neg e1]
        by_cases e2 : t = b
        · rw [if_pos e2, e2, b2]
          refine ⟨p0, p1, i0, i1, ?_⟩
          by_cases e3 : i = j
          · exfalso; subst e3; rw [e2, hb, ← ha] at e1; exact e1 rfl
          · rw [if_neg (by omega), if_pos rfl]
            exact hb.symm
        · rw [if_neg e2]
          have := h.len w z1 z2
          refine ⟨z1, z2, z3, z4, ?_⟩
          rw [if_neg, if_neg]
          · exact z5
          · intro e
            have ep : P t = p := by omega
            rw [ep, show L t = i by omega, ← ha] at z5
            exact e1 z5.symm
          · intro e
            have ep : P t = p := by omega
            rw [ep, show L t = j by omega, ← hb] at z5
            exact e2 z5.symm
  · intro q q0 q1
    rw [h30, hn]
    exact h.2.1 q q0 q1
  · intro q q0 q1 m m0 m1
    rw [h30] at m1
    rw [hn, swV_31]
    have hq := h.len w q0 q1
    by_cases e1 : q * 40 + m = p * 40 + j
    · have eq : q = p := by omega
      subst eq
      have em : m = j := by omega
      subst em
      rw [if_pos rfl, ← ha]
      refine ⟨a0, a1, a2, ?_⟩
      unfold swL
      rw [if_pos rfl]
    · rw [if_neg e1]
      by_cases e2 : q * 40 + m = p * 40 + i
      · have eq : q = p := by omega
        subst eq
        have em : m = i := by omega
        subst em
        rw [if_pos rfl, ← hb]
        refine ⟨b0, b1, b2, ?_⟩
        unfold swL
        rw [if_neg, if_pos rfl]
        intro e
        rw [e, a3] at b3
        omega
      · rw [if_neg e2]
        obtain ⟨c0, c1, c2, c3⟩ := h.2.2.1 q q0 q1 m m0 m1
        refine ⟨c0, c1, c2, ?_⟩
        unfold swL
        rw [if_neg, if_neg]
        · exact c3
        · intro e
          rw [e] at c2 c3
          omega
        · intro e
          rw [e] at c2 c3
          omega
  · intro q o q0 q1 o0 o1
    rw [h32, hn, h19]
    exact h.2.2.2.1 q o q0 q1 o0 o1
  · intro t ht
    rw [hn] at ht
    have e := h.2.2.2.2 t ht
    refine ⟨e.1, ?_⟩
    unfold swL
    rw [if_neg (by omega), if_neg (by omega)]
    exact e.2
