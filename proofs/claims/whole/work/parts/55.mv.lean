/-! a stone taken and laid -/
abbrev zPL : Type := (Int → Int) × (Int → Int)
def tkS (v : zV) (k f : Int) (x : zPL) : Int := zfo (fun s b => if x.1 s = f ∧ (b = -1 ∨ wsh v k b (x.2 b) < wsh v k s (x.2 s)) then s else b) (-1) (zg v 16 9)
/-- the stone that the ship k takes next in f -/
def BS (v : zV) (k f : Int) (x : zPL) (s : Int) : Prop := 0 ≤ s ∧ s < zg v 16 9 ∧ x.1 s = f ∧ ∀ t, 0 ≤ t → t < zg v 16 9 → x.1 t = f → wsh v k t (x.2 t) ≤ wsh v k s (x.2 s)
theorem tkS_spec {v : zV} {k f : Int} {x : zPL} (h : 0 ≤ zg v 16 9) : (tkS v k f x = -1 ∧ ∀ t, 0 ≤ t → t < zg v 16 9 → ¬ x.1 t = f) ∨ BS v k f x (tkS v k f x) := by
  have key : ∀ m, 0 ≤ m → ((zfo (fun s b => if x.1 s = f ∧ (b = -1 ∨ wsh v k b (x.2 b) < wsh v k s (x.2 s)) then s else b) (-1) m = -1 ∧ ∀ t, 0 ≤ t → t < m → ¬ x.1 t = f) ∨ (0 ≤ zfo (fun s b => if x.1 s = f ∧ (b = -1 ∨ wsh v k b (x.2 b) < wsh v k s (x.2 s)) then s else b) (-1) m ∧ zfo (fun s b => if x.1 s = f ∧ (b = -1 ∨ wsh v k b (x.2 b) < wsh v k s (x.2 s)) then s else b) (-1) m < m ∧ x.1 (zfo (fun s b => if x.1 s = f ∧ (b = -1 ∨ wsh v k b (x.2 b) < wsh v k s (x.2 s)) then s else b) (-1) m) = f ∧ ∀ t, 0 ≤ t → t < m → x.1 t = f → wsh v k t (x.2 t) ≤ wsh v k (zfo (fun s b => if x.1 s = f ∧ (b = -1 ∨ wsh v k b (x.2 b) < wsh v k s (x.2 s)) then s else b) (-1) m) (x.2 (zfo (fun s b => if x.1 s = f ∧ (b = -1 ∨ wsh v k b (x.2 b) < wsh v k s (x.2 s)) then s else b) (-1) m)))) := by
    refine zup ?_ ?_
    · left; exact ⟨rfl, fun t a b => by omega⟩
    · intro m m0 ih
      rw [zfo_succ m0]
      revert ih
      generalize zfo (fun s b => if x.1 s = f ∧ (b = -1 ∨ wsh v k b (x.2 b) < wsh v k s (x.2 s)) then s else b) (-1) m = b
      intro ih
      by_cases c : x.1 m = f ∧ (b = -1 ∨ wsh v k b (x.2 b) < wsh v k m (x.2 m))
      · rw [if_pos c]
        right
        refine ⟨m0, by omega, c.1, fun t t0 t1 t2 => ?_⟩
        rcases (show t < m ∨ t = m by omega) with e | e
        · rcases ih with ⟨i1, i2⟩ | ⟨i1, i2, i3, i4⟩
          · exact absurd t2 (i2 t t0 e)
          · have := i4 t t0 e t2
            omega
        · subst e; exact Int.le_refl _
      · rw [if_neg c]
        rcases ih with ⟨i1, i2⟩ | ⟨i1, i2, i3, i4⟩
        · left
          refine ⟨i1, fun t t0 t1 => ?_⟩
          rcases (show t < m ∨ t = m by omega) with e | e
          · exact i2 t t0 e
          · subst e; exact fun e2 => c ⟨e2, Or.inl i1⟩
        · right
          refine ⟨i1, by omega, i3, fun t t0 t1 t2 => ?_⟩
          rcases (show t < m ∨ t = m by omega) with e | e
          · exact i4 t t0 e t2
          · subst e
            have : ¬ wsh v k b (x.2 b) < wsh v k t (x.2 t) := fun e2 => c ⟨t2, Or.inr e2⟩
            omega
  rcases key (zg v 16 9) h with a | ⟨a, b, c, d⟩
  · exact Or.inl a
  · exact Or.inr ⟨a, b, c, d⟩
/-- what a text told of ships -/
def WK (v : zV) : Prop := ∀ s, 0 ≤ s → s < zg v 16 9 → 0 ≤ zg v 20 s
theorem CS.lt {v : zV} {P L : Int → Int} (h : CS v P L) (w : WF v) {s : Int} (s0 : 0 ≤ s) (s1 : s < zg v 16 9) (hp : ¬ P s = -1) : 0 ≤ P s ∧ P s < 6 ∧ 0 ≤ L s ∧ L s < 40 ∧ L s < zg v 30 (P s) ∧ zg v 31 (P s * 40 + L s) = s := by
  rcases h.1 s s0 s1 with a | ⟨a1, a2, a3, a4, a5⟩
  · exact absurd a hp
  · have := h.len w a1 a2
    exact ⟨a1, a2, a3, by omega, a4, a5⟩
theorem BS_u {v : zV} {k f s t : Int} {x : zPL} (h : CS v x.1 x.2) (w : WF v) (hf : 0 ≤ f) (a : BS v k f x s) (b : BS v k f x t) : s = t := by
  obtain ⟨a0, a1, a2, a3⟩ := a
  obtain ⟨b0, b1, b2, b3⟩ := b
  have e1 := a3 t b0 b1 b2
  have e2 := b3 s a0 a1 a2
  obtain ⟨c1, c2, c3, c4, c5, c6⟩ := h.lt w a0 a1 (by omega)
  obtain ⟨d1, d2, d3, d4, d5, d6⟩ := h.lt w b0 b1 (by omega)
  have e : x.2 s = x.2 t := by
    unfold wsh at e1 e2
    omega
  rw [a2, e] at c6
  rw [b2] at d6
  rw [← c6, d6]
theorem BS_of_TK {v : zV} {P L : Int → Int} {p k r : Int} (h : CS v P L) (w : WF v) (h0 : 0 ≤ p) (h1 : p < 6) (hr : TK v p k r) (h2 : ¬ r = -1) : BS v k p (P, L) (zg v 31 (p * 40 + r)) := by
  rcases hr with ⟨a, b⟩ | ⟨a, b, c⟩
  · exact absurd b h2
  · obtain ⟨e0, e1, e2, e3⟩ := h.2.2.1 p h0 h1 r a b
    refine ⟨e0, e1, e2, fun t t0 t1 t2 => ?_⟩
    have t2' : P t = p := t2
    obtain ⟨g1, g2, g3, g4, g5, g6⟩ := h.lt w t0 t1 (by omega)
    rw [t2'] at g5 g6
    have := c (L t) g3 g5
    rw [g6] at this
    show wsh v k t (L t) ≤ wsh v k (zg v 31 (p * 40 + r)) (L (zg v 31 (p * 40 + r)))
    rw [e3]
    exact this
/-- a stone goes from its place in f to the end e of another street -/
def mvL (P L : Int → Int) (f s e : Int) : Int → Int := fun t => if t = s then e else if P t = f ∧ L s < L t then L t - 1 else L t
theorem mvL_eq {v : zV} {P L : Int → Int} {f s t : Int} (h : CS v P L) (w : WF v) (t0 : 0 ≤ t) (t1 : t < 6) : Lin (fu P s (-1)) (Lup P L f (L s)) t (zg v 30 t) s = mvL P L f s (cnt P t (zg v 16 9)) := by
  funext x
  unfold Lin mvL
  by_cases e : x = s
  · rw [if_pos e, if_pos e, h.2.1 t t0 t1]
  · rw [if_neg e, if_neg e, fu_ne e]
    have hh : ¬ (P x = t ∧ zg v 30 t ≤ Lup P L f (L s) x) := by
      rintro ⟨a, b⟩
      by_cases hx : 0 ≤ x ∧ x < zg v 16 9
      · obtain ⟨g1, g2, g3, g4, g5, g6⟩ := h.lt w hx.1 hx.2 (by omega)
        rw [a] at g5
        unfold Lup at b
        split at b <;> omega
      · have := (h.2.2.2.2 x (by omega)).1
        omega
    rw [if_neg hh]
    rfl
def stp (v : zV) (k f t : Int) (x : zPL) : zPL := (fu x.1 (tkS v k f x) t, mvL x.1 x.2 f (tkS v k f x) (cnt x.1 t (zg v 16 9)))
def stN (v : zV) (k f t : Int) (x : zPL) (m : Int) : zPL := zfo (fun _ y => stp v k f t y) x m
theorem stN_succ {v : zV} {k f t m : Int} {x : zPL} (h : 0 ≤ m) : stN v k f t x (m + 1) = stp v k f t (stN v k f t x m) := zfo_succ h
/-- the streets stand in the class -/
theorem CS_stp {v : zV} {k f t r : Int} {x : zPL} (h : CS v x.1 x.2) (w : WF v) (f0 : 0 ≤ f) (f1 : f < 6) (t0 : 0 ≤ t) (t1 : t < 6) (ft : ¬ f = t) (hr : TK v f k r) (h2 : ¬ r = -1) : tkS v k f x = zg v 31 (f * 40 + r) ∧ x.2 (tkS v k f x) = r ∧ CS (insV (lifV v f r) t (zg (lifV v f r) 30 t) (zg v 31 (f * 40 + r))) (stp v k f t x).1 (stp v k f t x).2 ∧ zg (lifV v f r) 30 t < 40 ∧ WF (lifV v f r) := by
  have hb := BS_of_TK (P := x.1) (L := x.2) h w f0 f1 hr h2
  have e1 : tkS v k f x = zg v 31 (f * 40 + r) := by
    rcases tkS_spec (v := v) (k := k) (f := f) (x := x) w.1 with ⟨a, b⟩ | a
    · exact absurd hb.2.2.1 (b _ hb.1 hb.2.1)
    · exact BS_u h w f0 a hb
  have hr' : 0 ≤ r ∧ r < zg v 30 f := by
    rcases hr with ⟨a, b⟩ | ⟨a, b, c⟩
    · exact absurd b h2
    · exact ⟨a, b⟩
  obtain ⟨g0, g1, g2, g3⟩ := h.2.2.1 f f0 f1 r hr'.1 hr'.2
  have hlif := CS_lift h w f0 f1 hr'.1 hr'.2
  have hn : zg (lifV v f r) 16 9 = zg v 16 9 := lifV_na (by decide) (by decide) (by decide)
  have wl : WF (lifV v f r) := by
    refine ⟨by rw [hn]; exact w.1, by rw [hn]; exact w.2.1, fun s s0 s1 => ?_⟩
    rw [hn] at s1
    rw [lifV_na (by decide) (by decide) (by decide)]
    exact w.2.2 s s0 s1
  have hl := hlif.len wl t0 t1
  have hin := CS_ins hlif wl t0 t1 hl.1 (Int.le_refl _) g0 (by rw [hn]; exact g1) (fu_same _ _ _)
  refine ⟨e1, by rw [e1]; exact g3, ?_, hin.2, wl⟩
  have e30 : zg (lifV v f r) 30 t = zg v 30 t := by
    rw [lifV_30 (h.len w f0 f1), if_neg (fun e => ft e.symm)]
  have h3 := hin.1
  have eP : fu (fu x.1 (zg v 31 (f * 40 + r)) (-1)) (zg v 31 (f * 40 + r)) t = (stp v k f t x).1 := by
    funext y
    simp only [stp, e1, fu]
    split <;> rfl
  have eL : Lin (fu x.1 (zg v 31 (f * 40 + r)) (-1)) (Lup x.1 x.2 f r) t (zg (lifV v f r) 30 t) (zg v 31 (f * 40 + r)) = (stp v k f t x).2 := by
    have e := mvL_eq (f := f) (s := zg v 31 (f * 40 + r)) h w t0 t1
    rw [g3] at e
    rw [e30, e]
    simp only [stp, e1]
  rw [eP, eL] at h3
  exact h3
