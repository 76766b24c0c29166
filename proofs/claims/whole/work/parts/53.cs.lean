theorem lifV_na {v : zV} {p i k : Int} {a : Nat} (h : ¬ a = 30) (h' : ¬ a = 31) (h'' : ¬ a = 32) : zg (lifV v p i) a k = zg v a k := by
  rw [lifV, zg_na h'', shU_na h', zg_na h]
theorem lifV_30 {v : zV} {p i q : Int} (h : 0 ≤ zg v 30 p ∧ zg v 30 p ≤ 40) : zg (lifV v p i) 30 q = if q = p then zg v 30 p - 1 else zg v 30 q := by
  rw [lifV, zg_na (by decide), shU_na (by decide)]
  by_cases e : q = p
  · subst e; rw [zg_same (by omega), if_pos rfl]
  · rw [zg_ne (by omega), if_neg e]
theorem lifV_31 {v : zV} {p i k : Int} : zg (lifV v p i) 31 k = if p * 40 + i ≤ k ∧ k < p * 40 + (zg v 30 p - 1) then zg v 31 (k + 1) else zg v 31 k := by
  rw [lifV, zg_na (by decide)]
  simp only [zg, shU, zu]
  grind
theorem lifV_32 {v : zV} {p i k : Int} (h : -1000 ≤ zg v 32 k ∧ zg v 32 k ≤ 1000) : zg (lifV v p i) 32 k = if k = p * 6 + zg v 19 (zg v 31 (p * 40 + i)) then zg v 32 k - 1 else zg v 32 k := by
  rw [lifV]
  by_cases e : k = p * 6 + zg v 19 (zg v 31 (p * 40 + i))
  · subst e; rw [zg_same (by omega), if_pos rfl]
  · rw [zg_ne (by omega), if_neg e, shU_na (by decide), zg_na (by decide)]
theorem insV_na {v : zV} {p i k s : Int} {a : Nat} (h : ¬ a = 30) (h' : ¬ a = 31) (h'' : ¬ a = 32) : zg (insV v p i s) a k = zg v a k := by
  rw [insV, zg_na h'', zg_na h, zg_na h', shD_na h']
theorem insV_30 {v : zV} {p i q s : Int} (h : 0 ≤ zg v 30 p ∧ zg v 30 p ≤ 40) : zg (insV v p i s) 30 q = if q = p then zg v 30 p + 1 else zg v 30 q := by
  rw [insV, zg_na (by decide)]
  by_cases e : q = p
  · subst e; rw [zg_same (by omega), if_pos rfl]
  · rw [zg_ne (by omega), if_neg e, zg_na (by decide), shD_na (by decide)]
theorem insV_31 {v : zV} {p i k s : Int} (hs : 0 ≤ s ∧ s ≤ 40) : zg (insV v p i s) 31 k = if k = p * 40 + i then s else if p * 40 + i < k ∧ k ≤ p * 40 + zg v 30 p then zg v 31 (k - 1) else zg v 31 k := by
  rw [insV, zg_na (by decide), zg_na (by decide)]
  by_cases e : k = p * 40 + i
  · subst e; rw [zg_same (by omega), if_pos rfl]
  · rw [zg_ne (by omega), if_neg e]
    simp only [zg, shD]
    grind
theorem insV_32 {v : zV} {p i k s : Int} (h : -1000 ≤ zg v 32 k ∧ zg v 32 k ≤ 1000) : zg (insV v p i s) 32 k = if k = p * 6 + zg v 19 s then zg v 32 k + 1 else zg v 32 k := by
  rw [insV]
  by_cases e : k = p * 6 + zg v 19 s
  · subst e; rw [zg_same (by omega), if_pos rfl]
  · rw [zg_ne (by omega), if_neg e, zg_na (by decide), zg_na (by decide), shD_na (by decide)]
theorem CS.of {v : zV} {P L : Int → Int} (h : CS v P L) (w : WF v) {p o : Int} (h0 : 0 ≤ p) (h1 : p < 6) (h2 : 0 ≤ o) (h3 : o < 6) : -1000 ≤ zg v 32 (p * 6 + o) ∧ zg v 32 (p * 6 + o) ≤ 1000 := by
  rw [h.2.2.2.1 p o h0 h1 h2 h3]
  have := cnt2_rg (P := P) (O := zg v 19) (p := p) (o := o) w.1
  have := w.2.1
  omega
/-- the streets with a stone lifted -/
def Lup (P L : Int → Int) (p i : Int) : Int → Int := fun t => if P t = p ∧ i < L t then L t - 1 else L t
/-- the streets with a stone laid in between -/
def Lin (P L : Int → Int) (p i s : Int) : Int → Int := fun t => if t = s then i else if P t = p ∧ i ≤ L t then L t + 1 else L t
theorem CS_lift {v : zV} {P L : Int → Int} {p i : Int} (h : CS v P L) (w : WF v) (h0 : 0 ≤ p) (h1 : p < 6) (h2 : 0 ≤ i) (h3 : i < zg v 30 p) : CS (lifV v p i) (fu P (zg v 31 (p * 40 + i)) (-1)) (Lup P L p i) := by
  have hl := h.len w h0 h1
  obtain ⟨s, hs⟩ : ∃ s, s = zg v 31 (p * 40 + i) := ⟨_, rfl⟩
  obtain ⟨s0, s1, s2, s3⟩ := h.2.2.1 p h0 h1 i h2 h3
  rw [← hs] at s0 s1 s2 s3 ⊢
  have hn : zg (lifV v p i) 16 9 = zg v 16 9 := lifV_na (by decide) (by decide) (by decide)
  have ho : ∀ k, zg (lifV v p i) 19 k = zg v 19 k := fun k => lifV_na (by decide) (by decide) (by decide)
  have hO := w.2.2 s s0 s1
  refine ⟨?_, ?_, ?_, ?_, ?_⟩
  · intro t t0 t1
    rw [hn] at t1
    by_cases e : t = s
    · subst e; left; exact fu_same _ _ _
    · rw [fu_ne e]
      rcases h.1 t t0 t1 with a | ⟨a1, a2, a3, a4, a5⟩
      · left; exact a
      · right
        rw [lifV_30 hl, lifV_31]
        unfold Lup
        by_cases ep : P t = p
        · rw [ep] at a4 a5 ⊢
          have hne : ¬ L t = i := by
            intro e2
            rw [e2, ← hs] at a5
            exact e a5.symm
          by_cases el : i < L t
          · rw [if_pos rfl, if_pos ⟨rfl, el⟩]
            refine ⟨h0, h1, by omega, by omega, ?_⟩
            rw [if_pos ⟨by omega, by omega⟩]
            rw [show p * 40 + (L t - 1) + 1 = p * 40 + L t by omega]
            exact a5
          · rw [if_pos rfl, if_neg (by omega)]
            refine ⟨h0, h1, by omega, by omega, ?_⟩
            rw [if_neg (by omega)]
            exact a5
        · rw [if_neg ep, if_neg (by omega)]
          have := h.len w a1 a2
          refine ⟨a1, a2, a3, a4, ?_⟩
          rw [if_neg (by omega)]
          exact a5
  · intro q q0 q1
    rw [lifV_30 hl, hn, cnt_fu s0 s1, s2]
    by_cases e : q = p
    · subst e
      rw [if_pos rfl, if_pos rfl, if_neg (by omega), h.2.1 q q0 q1]; omega
    · rw [if_neg e, if_neg (by omega), if_neg (by omega), h.2.1 q q0 q1]; omega
  · intro q q0 q1 j j0 j1
    rw [lifV_30 hl] at j1
    rw [hn, lifV_31]
    by_cases e : q = p
    · subst e
      rw [if_pos rfl] at j1
      by_cases c : i ≤ j
      · rw [if_pos ⟨by omega, by omega⟩, show q * 40 + j + 1 = q * 40 + (j + 1) by omega]
        obtain ⟨b0, b1, b2, b3⟩ := h.2.2.1 q q0 q1 (j + 1) (by omega) (by omega)
        refine ⟨b0, b1, ?_, ?_⟩
        · rw [fu_ne]
          · exact b2
          · intro e2
            rw [e2, s3] at b3
            omega
        · unfold Lup
          rw [b2, b3, if_pos ⟨rfl, by omega⟩]
          omega
      · rw [if_neg (by omega)]
        obtain ⟨b0, b1, b2, b3⟩ := h.2.2.1 q q0 q1 j j0 (by omega)
        refine ⟨b0, b1, ?_, ?_⟩
        · rw [fu_ne]
          · exact b2
          · intro e2
            rw [e2, s3] at b3
            omega
        · unfold Lup
          rw [b2, b3, if_neg (by omega)]
    · rw [if_neg e] at j1
      have hq := h.len w q0 q1
      rw [if_neg (by omega)]
      obtain ⟨b0, b1, b2, b3⟩ := h.2.2.1 q q0 q1 j j0 (by omega)
      refine ⟨b0, b1, ?_, ?_⟩
      · rw [fu_ne]
        · exact b2
        · intro e2
          rw [e2, s2] at b2
          omega
      · unfold Lup
        rw [b2, if_neg (by omega)]
        exact b3
  · intro q o q0 q1 o0 o1
    have hf : zg (lifV v p i) 19 = zg v 19 := funext ho
    rw [lifV_32 (h.of w q0 q1 o0 o1), hn, hf, cnt2_fu s0 s1, s2, ← hs, h.2.2.2.1 q o q0 q1 o0 o1, if_neg (show ¬ (-1 = q ∧ zg v 19 s = o) by omega)]
    by_cases e : q = p ∧ zg v 19 s = o
    · rw [if_pos (by omega), if_pos (by omega)]; omega
    · rw [if_neg (by omega), if_neg (by omega)]; omega
  · intro t ht
    rw [hn] at ht
    have a := h.2.2.2.2 t ht
    have e : ¬ t = s := by omega
    rw [fu_ne e]
    unfold Lup
    rw [a.1, if_neg (by omega)]
    exact ⟨rfl, a.2⟩
theorem CS_ins {v : zV} {P L : Int → Int} {p i s : Int} (h : CS v P L) (w : WF v) (h0 : 0 ≤ p) (h1 : p < 6) (h2 : 0 ≤ i) (h3 : i ≤ zg v 30 p) (s0 : 0 ≤ s) (s1 : s < zg v 16 9) (s2 : P s = -1) : CS (insV v p i s) (fu P s p) (Lin P L p i s) ∧ zg v 30 p < 40 := by
  have hl := h.len w h0 h1
  have hn : zg (insV v p i s) 16 9 = zg v 16 9 := insV_na (by decide) (by decide) (by decide)
  have ho : ∀ k, zg (insV v p i s) 19 k = zg v 19 k := fun k => insV_na (by decide) (by decide) (by decide)
  have hO := w.2.2 s s0 s1
  have hw := w.2.1
  have hlt : zg v 30 p < 40 := by
    rw [h.2.1 p h0 h1]
    have := cnt_lt (P := P) (p := p) s0 s1 (by omega)
    omega
  refine ⟨⟨?_, ?_, ?_, ?_, ?_⟩, hlt⟩
  · intro t t0 t1
    rw [hn] at t1
    by_cases e : t = s
    · subst e
      right
      rw [fu_same, insV_30 hl, insV_31 (by omega)]
      unfold Lin
      rw [if_pos rfl, if_pos rfl, if_pos rfl]
      exact ⟨h0, h1, h2, by omega, rfl⟩
    · rw [fu_ne e]
      rcases h.1 t t0 t1 with a | ⟨a1, a2, a3, a4, a5⟩
      · left; exact a
      · right
        rw [insV_30 hl, insV_31 (by omega)]
        unfold Lin
        rw [if_neg e]
        by_cases ep : P t = p
        · rw [ep] at a4 a5 ⊢
          by_cases el : i ≤ L t
          · rw [if_pos rfl, if_pos ⟨rfl, el⟩]
            refine ⟨h0, h1, by omega, by omega, ?_⟩
            rw [if_neg (by omega), if_pos ⟨by omega, by omega⟩]
            rw [show p * 40 + (L t + 1) - 1 = p * 40 + L t by omega]
            exact a5
          · rw [if_pos rfl, if_neg (by omega)]
            refine ⟨h0, h1, by omega, by omega, ?_⟩
            rw [if_neg (by omega), if_neg (by omega)]
            exact a5
        · rw [if_neg ep, if_neg (by omega)]
          have := h.len w a1 a2
          refine ⟨a1, a2, a3, a4, ?_⟩
          rw [if_neg (by omega), if_neg (by omega)]
          exact a5
  · intro q q0 q1
    rw [insV_30 hl, hn, cnt_fu s0 s1, s2]
    by_cases e : q = p
    · subst e
      rw [if_pos rfl, if_neg (by omega), if_pos rfl, h.2.1 q q0 q1]; omega
    · rw [if_neg e, if_neg (by omega), if_neg (by omega), h.2.1 q q0 q1]; omega
  · intro q q0 q1 j j0 j1
    rw [insV_30 hl] at j1
    rw [hn, insV_31 (by omega)]
    have hne : ∀ t, ¬ P t = -1 → ¬ t = s := fun t ht e => ht (by rw [e]; exact s2)
    by_cases e : q = p
    · subst e
      rw [if_pos rfl] at j1
      by_cases c0 : j = i
      · subst c0
        rw [if_pos rfl, fu_same]
        unfold Lin
        rw [if_pos rfl]
        exact ⟨s0, s1, rfl, rfl⟩
      · rw [if_neg (by omega)]
        by_cases c : i < j
        · rw [if_pos ⟨by omega, by omega⟩, show q * 40 + j - 1 = q * 40 + (j - 1) by omega]
          obtain ⟨b0, b1, b2, b3⟩ := h.2.2.1 q q0 q1 (j - 1) (by omega) (by omega)
          have hx := hne _ (by rw [b2]; omega)
          refine ⟨b0, b1, by rw [fu_ne hx]; exact b2, ?_⟩
          unfold Lin
          rw [if_neg hx, b2, b3, if_pos ⟨rfl, by omega⟩]
          omega
        · rw [if_neg (by omega)]
          obtain ⟨b0, b1, b2, b3⟩ := h.2.2.1 q q0 q1 j j0 (by omega)
          have hx := hne _ (by rw [b2]; omega)
          refine ⟨b0, b1, by rw [fu_ne hx]; exact b2, ?_⟩
          unfold Lin
          rw [if_neg hx, b2, b3, if_neg (by omega)]
    · rw [if_neg e] at j1
      have hq := h.len w q0 q1
      rw [if_neg (by omega), if_neg (by omega)]
      obtain ⟨b0, b1, b2, b3⟩ := h.2.2.1 q q0 q1 j j0 (by omega)
      have hx := hne _ (by rw [b2]; omega)
      refine ⟨b0, b1, by rw [fu_ne hx]; exact b2, ?_⟩
      unfold Lin
      rw [if_neg hx, b2, if_neg (by omega)]
      exact b3
  · intro q o q0 q1 o0 o1
    have hf : zg (insV v p i s) 19 = zg v 19 := funext ho
    rw [insV_32 (h.of w q0 q1 o0 o1), hn, hf, cnt2_fu s0 s1, s2, h.2.2.2.1 q o q0 q1 o0 o1, if_neg (show ¬ (-1 = q ∧ zg v 19 s = o) by omega)]
    by_cases e : q = p ∧ zg v 19 s = o
    · rw [if_pos (by omega), if_pos (by omega)]; omega
    · rw [if_neg (by omega), if_neg (by omega)]; omega
  · intro t ht
    rw [hn] at ht
    have a := h.2.2.2.2 t ht
    have e : ¬ t = s := by omega
    rw [fu_ne e]
    unfold Lin
    rw [if_neg e, a.1, if_neg (by omega)]
    exact ⟨rfl, a.2⟩
