/-! steps seen from the start -/
theorem tkS_ext {v : zV} {k f : Int} {x y : zPL} (h : ∀ s, 0 ≤ s → s < zg v 16 9 → (x.1 s = f ↔ y.1 s = f) ∧ (x.1 s = f → x.2 s = y.2 s)) : tkS v k f x = tkS v k f y := by
  have key : ∀ m, 0 ≤ m → m ≤ zg v 16 9 → zfo (fun s b => if x.1 s = f ∧ (b = -1 ∨ wsh v k b (x.2 b) < wsh v k s (x.2 s)) then s else b) (-1) m = zfo (fun s b => if y.1 s = f ∧ (b = -1 ∨ wsh v k b (y.2 b) < wsh v k s (y.2 s)) then s else b) (-1) m ∧ (zfo (fun s b => if x.1 s = f ∧ (b = -1 ∨ wsh v k b (x.2 b) < wsh v k s (x.2 s)) then s else b) (-1) m = -1 ∨ (0 ≤ zfo (fun s b => if x.1 s = f ∧ (b = -1 ∨ wsh v k b (x.2 b) < wsh v k s (x.2 s)) then s else b) (-1) m ∧ zfo (fun s b => if x.1 s = f ∧ (b = -1 ∨ wsh v k b (x.2 b) < wsh v k s (x.2 s)) then s else b) (-1) m < m ∧ x.1 (zfo (fun s b => if x.1 s = f ∧ (b = -1 ∨ wsh v k b (x.2 b) < wsh v k s (x.2 s)) then s else b) (-1) m) = f)) := by
    refine zup ?_ ?_
    · intro _; exact ⟨rfl, Or.inl rfl⟩
    · intro m m0 ih hm
      rw [zfo_succ m0, zfo_succ m0]
      obtain ⟨i1, i2⟩ := ih (by omega)
      rw [← i1]
      revert i2
      generalize zfo (fun s b => if x.1 s = f ∧ (b = -1 ∨ wsh v k b (x.2 b) < wsh v k s (x.2 s)) then s else b) (-1) m = b
      intro i2
      obtain ⟨h1, h2⟩ := h m m0 (by omega)
      have hc : (x.1 m = f ∧ (b = -1 ∨ wsh v k b (x.2 b) < wsh v k m (x.2 m))) ↔ (y.1 m = f ∧ (b = -1 ∨ wsh v k b (y.2 b) < wsh v k m (y.2 m))) := by
        by_cases c : x.1 m = f
        · rw [h2 c]
          rcases i2 with i2 | ⟨i2, i3, i4⟩
          · simp only [i2, true_or, and_true, h1]
          · rw [(h b i2 (by omega)).2 i4, h1]
        · simp only [c, false_and, false_iff]
          intro e
          exact c (h1.2 e.1)
      refine ⟨?_, ?_⟩
      · by_cases c : x.1 m = f ∧ (b = -1 ∨ wsh v k b (x.2 b) < wsh v k m (x.2 m))
        · rw [if_pos c, if_pos (hc.1 c)]
        · rw [if_neg c, if_neg (fun e => c (hc.2 e))]
      · split
        · next c => right; exact ⟨m0, by omega, c.1⟩
        · rcases i2 with i2 | ⟨i2, i3, i4⟩
          · left; exact i2
          · right; exact ⟨i2, by omega, i4⟩
  by_cases hn : 0 ≤ zg v 16 9
  · exact (key _ hn (Int.le_refl _)).1
  · unfold tkS zfo
    rw [show (zg v 16 9).toNat = 0 by omega]
    rfl
theorem cnt_ext {P R : Int → Int} {p n : Int} (h : ∀ s, 0 ≤ s → s < n → (P s = p ↔ R s = p)) : cnt P p n = cnt R p n := by
  unfold cnt
  apply zsg_ext
  intro j j0 j1
  have := h j j0 j1
  by_cases c : P j = p
  · rw [if_pos c, if_pos (this.1 c)]
  · rw [if_neg c, if_neg (fun e => c (this.2 e))]
section
variable {v : zV} {k f t : Int} {x : zPL}
/-- what each step does, for as many as there are stones -/
theorem stN_all (hV : VS v x) (w : WF v) (f0 : 0 ≤ f) (f1 : f < 6) (t0 : 0 ≤ t) (t1 : t < 6) (ft : ¬ f = t) : ∀ m, 0 ≤ m → m ≤ cnt x.1 f (zg v 16 9) →
    (∀ s, (stN v k f t x m).1 s = x.1 s ∨ (x.1 s = f ∧ (stN v k f t x m).1 s = t)) ∧
    cnt (stN v k f t x m).1 t (zg v 16 9) = cnt x.1 t (zg v 16 9) + m ∧
    (∀ j, 0 ≤ j → j < m → BS v k f (stN v k f t x j) (tkS v k f (stN v k f t x j)) ∧ (stN v k f t x m).1 (tkS v k f (stN v k f t x j)) = t ∧ (stN v k f t x m).2 (tkS v k f (stN v k f t x j)) = cnt x.1 t (zg v 16 9) + j ∧ x.1 (tkS v k f (stN v k f t x j)) = f) ∧
    ∀ s, (stN v k f t x m).1 s = x.1 s ∨ ∃ j, 0 ≤ j ∧ j < m ∧ s = tkS v k f (stN v k f t x j) := by
  refine zup ?_ ?_
  · intro _
    exact ⟨fun s => Or.inl rfl, by show cnt x.1 _ _ = _; omega, fun j a b => by omega, fun s => Or.inl rfl⟩
  · intro m m0 ih hm
    obtain ⟨i1, i2, i3, i4⟩ := ih (by omega)
    obtain ⟨w1, w2⟩ := VS_stN (k := k) hV w f0 f1 t0 t1 ft m m0 (by omega)
    obtain ⟨b1, b2, b3⟩ := VS_stp (k := k) (t := t) w1 w f0 f1 t0 t1 ft (by omega)
    have eS : stN v k f t x (m + 1) = (fu (stN v k f t x m).1 (tkS v k f (stN v k f t x m)) t, mvL (stN v k f t x m).1 (stN v k f t x m).2 f (tkS v k f (stN v k f t x m)) (cnt (stN v k f t x m).1 t (zg v 16 9))) := stN_succ m0
    obtain ⟨c1, c2, c3, c4⟩ := b1
    have hxf : x.1 (tkS v k f (stN v k f t x m)) = f := by
      rcases i1 (tkS v k f (stN v k f t x m)) with e | e
      · rw [← e]; exact c3
      · exact e.1
    rw [eS]
    refine ⟨?_, ?_, ?_, ?_⟩
    · intro s
      by_cases e : s = tkS v k f (stN v k f t x m)
      · right
        rw [e]
        exact ⟨hxf, fu_same _ _ _⟩
      · show fu _ _ _ s = _ ∨ _ ∧ fu _ _ _ s = _
        rw [fu_ne e]
        exact i1 s
    · show cnt (fu _ _ _) _ _ = _
      rw [cnt_fu c1 c2, c3, if_neg ft, if_pos rfl, i2]
      omega
    · intro j j0 j1
      rcases (show j < m ∨ j = m by omega) with e | e
      · obtain ⟨g1, g2, g3, g4⟩ := i3 j j0 e
        have hne : ¬ tkS v k f (stN v k f t x j) = tkS v k f (stN v k f t x m) := by
          intro e2
          rw [e2, c3] at g2
          exact ft g2
        refine ⟨g1, ?_, ?_, g4⟩
        · show fu _ _ _ _ = _
          rw [fu_ne hne]
          exact g2
        · show mvL _ _ _ _ _ _ = _
          unfold mvL
          rw [if_neg hne, if_neg (by rw [g2]; omega)]
          exact g3
      · subst e
        refine ⟨⟨c1, c2, c3, c4⟩, fu_same _ _ _, ?_, hxf⟩
        show mvL _ _ _ _ _ _ = _
        unfold mvL
        rw [if_pos rfl, i2]
    · intro s
      by_cases e : s = tkS v k f (stN v k f t x m)
      · right; exact ⟨m, m0, by omega, e⟩
      · rcases i4 s with g | ⟨j, j0, j1, g⟩
        · left
          show fu _ _ _ s = _
          rw [fu_ne e]
          exact g
        · right; exact ⟨j, j0, by omega, g⟩
end
