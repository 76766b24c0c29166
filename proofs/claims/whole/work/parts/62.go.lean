/-! a voyage in a row of the reference -/
theorem zg_fn {v v' : zV} {a : Nat} (h : ∀ k, v' a k = v a k) : zg v' a = zg v a := funext fun k => by simp only [zg, h]
theorem EW_w {v v' : zV} (h : ∀ a k, a < 90 → v' a k = v a k) (e : EW v) : EW v' := by
  unfold EW at e ⊢
  rw [zg_fn fun k => h 16 k (by omega), zg_fn fun k => h 17 k (by omega), zg_fn fun k => h 18 k (by omega), zg_fn fun k => h 19 k (by omega), zg_fn fun k => h 20 k (by omega), zg_fn fun k => h 21 k (by omega), zg_fn fun k => h 22 k (by omega), zg_fn fun k => h 23 k (by omega), zg_fn fun k => h 82 k (by omega), zg_fn fun k => h 83 k (by omega), zg_fn fun k => h 84 k (by omega), zg_fn fun k => h 85 k (by omega), zg_fn fun k => h 86 k (by omega), zg_fn fun k => h 87 k (by omega), zg_fn fun k => h 88 k (by omega), zg_fn fun k => h 89 k (by omega)]
  exact e
theorem WB_w {v v' : zV} (h : ∀ a k, 16 ≤ a → a ≤ 25 → v' a k = v a k) (e : WB v) : WB v' := by
  unfold WB at e ⊢
  rw [zg_fn fun k => h 16 k (by omega) (by omega), zg_fn fun k => h 17 k (by omega) (by omega), zg_fn fun k => h 18 k (by omega) (by omega), zg_fn fun k => h 19 k (by omega) (by omega), zg_fn fun k => h 20 k (by omega) (by omega), zg_fn fun k => h 21 k (by omega) (by omega), zg_fn fun k => h 22 k (by omega) (by omega), zg_fn fun k => h 23 k (by omega) (by omega)]
  exact e
theorem lftV_w {v : zV} {w : Nat} {s q : Int} (hq : 0 ≤ q) (hq1 : q < 40) : zg (lftV v w s) w q = if q = s then -1 else zg v w q := by
  unfold lftV
  by_cases e : q = s
  · subst e; rw [zg_same (by omega), if_pos rfl]
  · rw [zg_ne (by omega), if_neg e, lfP_lo (by omega)]
theorem lftV_l {v : zV} {w : Nat} {s q : Int} (s0 : 0 ≤ s) (s1 : s < 40) (hq : 0 ≤ q) (hq1 : q < zg v 16 9) (hr : -1000 ≤ zg v w (40 + q) ∧ zg v w (40 + q) ≤ 1000) : zg (lftV v w s) w (40 + q) = if zg v w q = zg v w s ∧ zg v w (40 + s) < zg v w (40 + q) then zg v w (40 + q) - 1 else zg v w (40 + q) := by
  unfold lftV
  rw [zg_ne (by omega)]
  have e : lfP v w s (zg v 16 9) w (40 + q) = if zg v w q = zg v w s ∧ zg v w (40 + s) < zg v w (40 + q) then zI (zg v w (40 + q) - 1) else v w (40 + q) := by
    simp only [lfP, true_and]
    rw [show 40 + q - 40 = q by omega]
    by_cases c : zg v w q = zg v w s ∧ zg v w (40 + s) < zg v w (40 + q)
    · rw [if_pos c, if_pos ⟨by omega, by omega, c⟩]
    · rw [if_neg c, if_neg (fun e => c e.2.2)]
  show (lfP v w s (zg v 16 9) w (40 + q)).toInt = _
  rw [e]
  split
  · rw [zI_to (by omega)]
  · rfl
theorem lftV_fr {v : zV} {w a : Nat} {s q : Int} (s0 : 0 ≤ s) (s1 : s < 40) (hn : zg v 16 9 ≤ 40) (h : ¬ (a = w ∧ 0 ≤ q ∧ q < 80)) : lftV v w s a q = v a q := by
  unfold lftV
  rw [zu_ne (by omega)]
  simp only [lfP]
  rw [if_neg (by omega)]
def prF (need lie old : Int) : Int := if lie < need then min 99 (old + 1) else if need < lie then max 0 (old - 1) else old
/-- j stones are lifted, and noted -/
def G1 (v0 : zV) (w : Nat) (k f t : Int) (x : zPL) (j : Int) (v : zV) : Prop :=
  (∀ a q, ¬ a = 96 → ¬ (a = w ∧ 0 ≤ q ∧ q < 80) → v a q = v0 a q) ∧
  (∀ s, 0 ≤ s → s < zg v0 16 9 → zg v w s = (if (stN v0 k f t x j).1 s = x.1 s then x.1 s else -1) ∧ ((stN v0 k f t x j).1 s = x.1 s → zg v w (40 + s) = (stN v0 k f t x j).2 s) ∧ -j ≤ zg v w (40 + s) ∧ zg v w (40 + s) ≤ 40) ∧
  ∀ i, 0 ≤ i → i < j → zg v 96 i = tkS v0 k f (stN v0 k f t x i)
/-- j stones are laid -/
def G2 (v0 v1 : zV) (w : Nat) (k f t y : Int) (x : zPL) (M j : Int) (v : zV) : Prop :=
  (∀ a q, ¬ (a = w ∧ 0 ≤ q ∧ q < 160) → v a q = v1 a q) ∧
  ∀ s, 0 ≤ s → s < zg v0 16 9 → ((stN v0 k f t x j).1 s = x.1 s → v w s = v1 w s ∧ v w (40 + s) = v1 w (40 + s) ∧ v w (80 + s) = v1 w (80 + s) ∧ v w (120 + s) = v1 w (120 + s)) ∧
    (¬ (stN v0 k f t x j).1 s = x.1 s → v w s = zI t ∧ zg v w (40 + s) = (stN v0 k f t x M).2 s ∧ v w (80 + s) = zI y ∧ v w (120 + s) = v1 w (120 + s) ||| (1 <<< (zI t &&& 31)))
/-- the row behind a voyage of M stones -/
def G3 (v0 : zV) (w : Nat) (k f t y : Int) (x : zPL) (M : Int) (v : zV) : Prop :=
  (∀ a q, ¬ a = 96 → ¬ a = w → v a q = v0 a q) ∧
  (∀ s, 0 ≤ s → s < zg v0 16 9 → zg v w s = (stN v0 k f t x M).1 s ∧ zg v w (40 + s) = (stN v0 k f t x M).2 s ∧ ((stN v0 k f t x M).1 s = x.1 s → v w (80 + s) = v0 w (80 + s) ∧ v w (120 + s) = v0 w (120 + s)) ∧ (¬ (stN v0 k f t x M).1 s = x.1 s → v w (80 + s) = zI y ∧ v w (120 + s) = v0 w (120 + s) ||| (1 <<< (zI t &&& 31)))) ∧
  (∀ p, 0 ≤ p → p < zg v0 16 8 → zg v w (160 + p) = prF (zg v0 17 p) (cnt (stN v0 k f t x M).1 p (zg v0 16 9)) (zg v0 w (160 + p))) ∧
  (∀ i, 0 ≤ i → i < 5 → zg v w (166 + i) = if i = k then t else zg v0 w (166 + i)) ∧
  ∀ i, 0 ≤ i → i < M → zg v 96 i = tkS v0 k f (stN v0 k f t x i)
section
variable {sc : Nat × (Nat → Int32)} {d : Nat} {v v0 : zV} {u : zU} {w : Nat} {k f t c y : Int} {x : zPL}
theorem G1_step {M j s : Int} (hw : 93 ≤ w) (hw6 : ¬ w = 96) (hB : WB v0) (hV : VS v0 x) (f0 : 0 ≤ f) (f1 : f < 6) (t0 : 0 ≤ t) (t1 : t < 6) (ft : ¬ f = t) (j0 : 0 ≤ j) (j8 : j < 8) (jc : j < cnt x.1 f (zg v0 16 9)) (h : G1 v0 w k f t x j v) : tkS v k f (xw v w) = tkS v0 k f (stN v0 k f t x j) ∧ 0 ≤ tkS v k f (xw v w) ∧ tkS v k f (xw v w) < zg v0 16 9 ∧ G1 v0 w k f t x (j + 1) (lftV (zu v 96 j (zI (tkS v0 k f (stN v0 k f t x j)))) w (tkS v0 k f (stN v0 k f t x j))) := by
  obtain ⟨h1, h2, h3⟩ := h
  have hwv : ∀ c k, 16 ≤ c → c ≤ 25 → v c k = v0 c k := fun c k a b => h1 c k (by omega) (by omega)
  have n0 := hB.2.1
  obtain ⟨a1, a2, a3, a4⟩ := stN_all (k := k) hV hB.wf f0 f1 t0 t1 ft j j0 (by omega)
  obtain ⟨w1, w2⟩ := VS_stN (k := k) hV hB.wf f0 f1 t0 t1 ft j j0 (by omega)
  obtain ⟨b1, b2, b3⟩ := VS_stp (k := k) (t := t) w1 hB.wf f0 f1 t0 t1 ft (by omega)
  obtain ⟨c1, c2, c3, c4⟩ := b1
  have eT : tkS v k f (xw v w) = tkS v0 k f (stN v0 k f t x j) := by
    rw [tkS_w hwv]
    apply tkS_ext
    intro s s0 s1
    obtain ⟨g1, g2, g3⟩ := h2 s s0 s1
    show (zg v w s = f ↔ _) ∧ (zg v w s = f → zg v w (40 + s) = _)
    rw [g1]
    by_cases e : (stN v0 k f t x j).1 s = x.1 s
    · rw [if_pos e, e]
      exact ⟨Iff.rfl, fun _ => g2 e⟩
    · rw [if_neg e]
      rcases a1 s with q | q
      · exact absurd q e
      · rw [q.2]
        exact ⟨⟨fun z => by omega, fun z => by omega⟩, fun z => by omega⟩
  have hxf : x.1 (tkS v0 k f (stN v0 k f t x j)) = f := by
    rcases a1 (tkS v0 k f (stN v0 k f t x j)) with e | e
    · rw [← e]; exact c3
    · exact e.1
  have eS : stN v0 k f t x (j + 1) = (fu (stN v0 k f t x j).1 (tkS v0 k f (stN v0 k f t x j)) t, mvL (stN v0 k f t x j).1 (stN v0 k f t x j).2 f (tkS v0 k f (stN v0 k f t x j)) (cnt (stN v0 k f t x j).1 t (zg v0 16 9))) := stN_succ j0
  rw [eT]
  refine ⟨rfl, c1, c2, ?_⟩
  revert eS c1 c2 c3 c4 hxf
  generalize hs : tkS v0 k f (stN v0 k f t x j) = s at *
  intro c1 c2 c3 c4 hxf eS
  have e16 : zg (zu v 96 j (zI s)) 16 9 = zg v0 16 9 := by
    rw [zg_na (by decide)]
    simp only [zg]
    rw [hwv 16 9 (by omega) (by omega)]
  have ez : ∀ q, zg (zu v 96 j (zI s)) w q = zg v w q := fun q => zg_na hw6
  refine ⟨?_, ?_, ?_⟩
  · intro a q q1 q2
    rw [lftV_fr c1 (by omega) (by omega) q2, zu_ne (fun e => q1 e.1)]
    exact h1 a q q1 q2
  · intro q q0 q1
    obtain ⟨g1, g2, g3, g4⟩ := h2 q q0 q1
    obtain ⟨s1, s2, s3, s4⟩ := h2 s c1 c2
    have hsx : (stN v0 k f t x j).1 s = x.1 s := by rw [c3, hxf]
    rw [if_pos hsx, hxf] at s1
    rw [lftV_w q0 (by omega), lftV_l c1 (by omega) q0 (by omega) (by rw [ez]; omega), ez, ez, ez, ez, eS]
    by_cases e : q = s
    · subst e
      rw [if_pos rfl]
      simp only [fu_same]
      rw [if_neg (by omega), if_neg (by omega)]
      exact ⟨rfl, fun z => by omega, by omega, g4⟩
    · rw [if_neg e]
      simp only [fu_ne e]
      refine ⟨g1, fun z => ?_, by split <;> omega, by split <;> omega⟩
      have g2 := g2 z
      have s2 := s2 hsx
      rw [if_pos z, ← z] at g1
      unfold mvL
      rw [if_neg e, g1, s1, g2, s2]
  · intro i i0 i1
    have ef : lftV (zu v 96 j (zI s)) w s 96 i = zu v 96 j (zI s) 96 i := lftV_fr c1 (by omega) (by omega) (by omega)
    show (lftV (zu v 96 j (zI s)) w s 96 i).toInt = _
    rw [ef]
    rcases (show i < j ∨ i = j by omega) with e | e
    · rw [zu_ne (by omega)]
      exact h3 i i0 e
    · subst e
      rw [zu_same, zI_to (by omega)]
      exact hs.symm
theorem G2_step {v1 : zV} {M j : Int} (hw : 93 ≤ w) (hw6 : ¬ w = 96) (hB : WB v0) (hV : VS v0 x) (f0 : 0 ≤ f) (f1 : f < 6) (t0 : 0 ≤ t) (t1 : t < 6) (ft : ¬ f = t) (j0 : 0 ≤ j) (jM : j < M) (Mc : M ≤ cnt x.1 f (zg v0 16 9)) (h : G2 v0 v1 w k f t y x M j v) : 0 ≤ tkS v0 k f (stN v0 k f t x j) ∧ tkS v0 k f (stN v0 k f t x j) < zg v0 16 9 ∧ G2 v0 v1 w k f t y x M (j + 1) (zu (zu (zu (zu v w (tkS v0 k f (stN v0 k f t x j)) (zI t)) w (40 + tkS v0 k f (stN v0 k f t x j)) (zI (cnt x.1 t (zg v0 16 9) + j))) w (80 + tkS v0 k f (stN v0 k f t x j)) (zI y)) w (120 + tkS v0 k f (stN v0 k f t x j)) (v w (120 + tkS v0 k f (stN v0 k f t x j)) ||| (1 <<< (zI t &&& 31)))) := by
  obtain ⟨h1, h2⟩ := h
  have n0 := hB.2.1
  obtain ⟨a1, a2, a3, a4⟩ := stN_all (k := k) hV hB.wf f0 f1 t0 t1 ft j j0 (by omega)
  obtain ⟨b1, b2, b3, b4⟩ := stN_all (k := k) hV hB.wf f0 f1 t0 t1 ft M (by omega) Mc
  obtain ⟨⟨c1, c2, c3, c4⟩, d2, d3, d4⟩ := b3 j j0 jM
  have cr := cnt_rg (P := x.1) (p := t) hB.2.1.1
  have cr2 := cnt_rg (P := x.1) (p := f) hB.2.1.1
  have eS : stN v0 k f t x (j + 1) = (fu (stN v0 k f t x j).1 (tkS v0 k f (stN v0 k f t x j)) t, mvL (stN v0 k f t x j).1 (stN v0 k f t x j).2 f (tkS v0 k f (stN v0 k f t x j)) (cnt (stN v0 k f t x j).1 t (zg v0 16 9))) := stN_succ j0
  refine ⟨c1, c2, ?_⟩
  revert eS c1 c2 c3 c4 d2 d3 d4
  generalize hs : tkS v0 k f (stN v0 k f t x j) = s at *
  intro c1 c2 c3 c4 d2 d3 d4 eS
  refine ⟨?_, ?_⟩
  · intro a q q1
    rw [zu_ne (by omega), zu_ne (by omega), zu_ne (by omega), zu_ne (by omega)]
    exact h1 a q q1
  · intro q q0 q1
    obtain ⟨g1, g2⟩ := h2 q q0 q1
    rw [eS]
    by_cases e : q = s
    · subst e
      refine ⟨fun z => ?_, fun _ => ?_⟩
      · exfalso
        have z2 : fu (stN v0 k f t x j).1 q t q = x.1 q := z
        rw [fu_same, d4] at z2
        exact ft z2.symm
      · refine ⟨?_, ?_, ?_, ?_⟩
        · rw [zu_ne (by omega), zu_ne (by omega), zu_ne (by omega), zu_same]
        · rw [zg_ne (by omega), zg_ne (by omega), zg_same (by omega)]
          exact d3.symm
        · rw [zu_ne (by omega), zu_same]
        · rw [zu_same, (g1 (by rw [c3, d4])).2.2.2]
    · have e2 : (fu (stN v0 k f t x j).1 s t, mvL (stN v0 k f t x j).1 (stN v0 k f t x j).2 f s (cnt (stN v0 k f t x j).1 t (zg v0 16 9))).1 q = (stN v0 k f t x j).1 q := fu_ne e
      rw [e2]
      have r0 : ∀ {X : zV} {a b : Int} {z : Int32}, ¬ b = a → zu X w a z w b = X w b := fun h => zu_ne (fun z => h z.2)
      have r1 : ∀ {X : zV} {a b : Int} {z : Int32}, ¬ b = a → zg (zu X w a z) w b = zg X w b := fun h => zg_ne (fun z => h z.2)
      rw [r0 (by omega), r0 (by omega), r0 (by omega), r0 (by omega), r0 (by omega), r0 (by omega), r0 (by omega), r0 (by omega), r0 (by omega), r0 (by omega), r0 (by omega), r0 (by omega), r0 (by omega), r0 (by omega), r0 (by omega), r0 (by omega), r1 (by omega), r1 (by omega), r1 (by omega), r1 (by omega)]
      exact ⟨g1, g2⟩
end
