/-! what binds the class and the reference -/
def hrow (v : zV) (k q : Int) : Int32 := if k = zg v 33 0 then v 93 q else v 95 (171 * k + q)
def lg (v : zV) (k w : Int) : Int := zg v 34 (k * 6 + w)
def RSx (v : zV) (u : zU) (X : Int → zPL) : Prop :=
  (0 ≤ zg v 33 0 ∧ zg v 33 0 ≤ 30 ∧ zg v 79 30 = zg v 33 0 ∧ 0 ≤ zg v 33 1 ∧ zg v 33 1 ≤ zg v 33 0 ∧ zg v 79 31 = zg v 33 1) ∧
  CS v (X (zg v 33 0)).1 (X (zg v 33 0)).2 ∧
  (∀ k, zg v 33 1 ≤ k → k ≤ zg v 33 0 → VS v (X k) ∧ ∀ s, 0 ≤ s → s < zg v 16 9 → (hrow v k s).toInt = (X k).1 s ∧ (hrow v k (40 + s)).toInt = (X k).2 s) ∧
  (∀ k, zg v 33 1 ≤ k → k < zg v 33 0 → X (k + 1) = stN v (lg v k 0) (lg v k 1) (lg v k 2) (X k) (lg v k 4) ∧ lg v k 4 ≤ cnt (X k).1 (lg v k 1) (zg v 16 9) ∧ (∀ j, 0 ≤ j → j < lg v k 4 → zg v 36 (k * 8 + j) = (stN v (lg v k 0) (lg v k 1) (lg v k 2) (X k) j).2 (tkS v (lg v k 0) (lg v k 1) (stN v (lg v k 0) (lg v k 1) (lg v k 2) (X k) j))) ∧ ∀ i, 0 ≤ i → i < zg v 16 10 → (hrow v k (166 + i)).toInt = if i = lg v k 0 then lg v k 1 else (hrow v (k + 1) (166 + i)).toInt) ∧
  (∀ k, 0 ≤ k → k < zg v 33 0 → (0 ≤ lg v k 0 ∧ lg v k 0 < zg v 16 10) ∧ (0 ≤ lg v k 1 ∧ lg v k 1 < zg v 16 8) ∧ (0 ≤ lg v k 2 ∧ lg v k 2 < zg v 16 8) ∧ ¬ lg v k 1 = lg v k 2 ∧ (0 ≤ lg v k 4 ∧ lg v k 4 ≤ 8) ∧ ∀ w, 0 ≤ w → w < 6 → v 99 (6 * k + w) = v 34 (k * 6 + w)) ∧
  (∀ k, 0 ≤ k → k ≤ zg v 33 0 → (∀ s, 0 ≤ s → s < zg v 16 9 → (hrow v k s).toInt = ptC v u s k ∧ (hrow v k (80 + s)).toInt = lst (bitC u s) k ∧ hrow v k (120 + s) = btsC v u s k) ∧ ∀ p, 0 ≤ p → p < zg v 16 8 → (hrow v k (160 + p)).toInt = zg v 37 (k * 6 + p) ∧ 0 ≤ zg v 37 (k * 6 + p) ∧ zg v 37 (k * 6 + p) ≤ 99) ∧
  (∀ i, 0 ≤ i → i < zg v 16 10 → zg v 93 (166 + i) = zg v 38 i ∧ 0 ≤ zg v 38 i ∧ zg v 38 i < zg v 16 8) ∧
  ((0 ≤ zg v 28 9 ∧ zg v 28 9 ≤ 4) ∧ zg v 79 32 = zg v 28 9 ∧ ∀ i, 0 ≤ i → i < zg v 28 9 → (zg v 100 i = zg v 39 i ∧ 0 ≤ zg v 39 i ∧ zg v 39 i < zg v 16 10) ∧ zg v 101 i = zg v 40 i ∧ 0 ≤ zg v 40 i ∧ zg v 40 i < zg v 16 8) ∧
  ((0 ≤ zg v 28 10 ∧ zg v 28 10 ≤ 10) ∧ zg v 79 33 = zg v 28 10 ∧ ∀ i, 0 ≤ i → i < zg v 28 10 → (zg v 105 i = zg v 41 i ∧ 0 ≤ zg v 41 i ∧ zg v 41 i < zg v 16 8) ∧ (zg v 106 i = zg v 42 i ∧ 0 ≤ zg v 42 i ∧ zg v 42 i < zg v 16 8) ∧ zg v 107 i = zg v 43 i ∧ 0 ≤ zg v 43 i ∧ zg v 43 i ≤ 40) ∧
  ∀ i, 0 ≤ i → i < 3 → v 91 i = v 44 i
def RS (v : zV) (u : zU) : Prop := ∃ X, RSx v u X
theorem ptC_succ {v : zV} {u : zU} {s k : Int} (h : 0 ≤ k) : ptC v u s (k + 1) = if bitC u s k = true then zg v 34 (k * 6 + 2) else ptC v u s k := by
  unfold ptC
  rw [lst_succ h]
  by_cases b : bitC u s k = true
  · rw [if_pos b, if_pos b, if_neg (by omega)]
  · rw [if_neg b, if_neg b]
theorem ptC_zero {v : zV} {u : zU} {s : Int} : ptC v u s 0 = zg v 19 s := by
  unfold ptC
  rw [show lst (bitC u s) 0 = -1 from zfo_zero _ _, if_pos rfl]
theorem ptC_ext {v v' : zV} {u u' : zU} {s : Int} (h0 : zg v' 19 s = zg v 19 s) : ∀ k, 0 ≤ k → (∀ j, 0 ≤ j → j < k → bitC u' s j = bitC u s j ∧ zg v' 34 (j * 6 + 2) = zg v 34 (j * 6 + 2)) → ptC v' u' s k = ptC v u s k ∧ lst (bitC u' s) k = lst (bitC u s) k ∧ btsC v' u' s k = btsC v u s k := by
  refine zup ?_ ?_
  · intro _
    exact ⟨by rw [ptC_zero, ptC_zero, h0], by rw [show lst (bitC u s) 0 = -1 from zfo_zero _ _, show lst (bitC u' s) 0 = -1 from zfo_zero _ _], by unfold btsC; rw [zfo_zero, zfo_zero, h0]⟩
  · intro k k0 ih h
    obtain ⟨a, b, c⟩ := ih (fun j j0 j1 => h j j0 (by omega))
    obtain ⟨q1, q2⟩ := h k k0 (by omega)
    refine ⟨by rw [ptC_succ k0, ptC_succ k0, q1, q2, a], by rw [lst_succ k0, lst_succ k0, q1, b], ?_⟩
    unfold btsC at c ⊢
    rw [zfo_succ k0, zfo_succ k0, c, q1, q2]
theorem btsC_succ {v : zV} {u : zU} {s k : Int} (h : 0 ≤ k) : btsC v u s (k + 1) = if bitC u s k = true then btsC v u s k ||| (1 <<< (zI (zg v 34 (k * 6 + 2)) &&& 31)) else btsC v u s k := zfo_succ h
/-- the port of a stone is a port -/
theorem ptC_in {v : zV} {u : zU} (hB : WB v) {s : Int} (s0 : 0 ≤ s) (s1 : s < zg v 16 9) : ∀ k, 0 ≤ k → (∀ j, 0 ≤ j → j < k → 0 ≤ zg v 34 (j * 6 + 2) ∧ zg v 34 (j * 6 + 2) < zg v 16 8) → 0 ≤ ptC v u s k ∧ ptC v u s k < zg v 16 8 := by
  refine zup ?_ ?_
  · intro _
    rw [ptC_zero]
    exact (hB.2.2.2.2.1 s s0 s1).1
  · intro k k0 ih h
    rw [ptC_succ k0]
    split
    · exact h k k0 (by omega)
    · exact ih fun j j0 j1 => h j j0 (by omega)
theorem VS_w3 {v v' : zV} {x : zPL} (h : ∀ a q, 16 ≤ a → a ≤ 23 → v' a q = v a q) (hV : VS v x) : VS v' x := by
  obtain ⟨z, z1, z2⟩ := hV
  refine ⟨fun a q => if 30 ≤ a ∧ a ≤ 32 then z a q else v' a q, fun a q g1 g2 g3 => if_neg (by omega), CS_w3 (v0 := z) (fun a q g1 g2 => ?_) (fun a q g1 g2 => if_pos ⟨g1, g2⟩) z2⟩
  show (if _ then _ else _) = _
  rw [if_neg (by omega), h a q g1 g2, z1 a q (by omega) (by omega) (by omega)]
/-- a voyage on both sides keeps what binds them -/
theorem RS_sail {v v1 v2 : zV} {u u1 : zU} {X : Int → zPL} {k f t y M c : Int} {tl : Int32} (hB : WB v) (h : RSx v u X) (hc : zg v 33 0 = c) (c1 : c < 30) (k0 : 0 ≤ k) (k1 : k < zg v 16 10) (hf : zg v 38 k = f) (t0 : 0 ≤ t) (t1 : t < zg v 16 8) (ft : ¬ f = t) (y0 : 0 ≤ y) (hM : M = min (wantC v k y) (cnt (X c).1 f (zg v 16 9))) (M0 : 0 ≤ M) (M8 : M ≤ 8) (htl : tl = toll (zg v 25) (zg v 24 3) (zg v 20) (zg v 19) f t M c (fun j => tkS v k f (stN v k f t (X c) j)) M) (hV : MV v u k f t y (X c) M c v1 u1) (hm : MM v1 k f t y (X c) M c tl v2) : RSx v2 u1 (fun i => if i = c + 1 then stN v k f t (X c) M else X i) := by
  obtain ⟨a1, a2, a3, a4, a5, a6, a7, a8, a9, a10⟩ := h
  rw [hc] at a1 a2 a3 a4 a5 a6
  obtain ⟨b1, b2, b3, b4, b5, b6, b7, b8, b9, b10, b11, b12, b13, b14⟩ := hV
  have w1 : ∀ a q, 16 ≤ a → a ≤ 23 → v1 a q = v a q := fun a q h1 h2 => b1 a q (by unfold ADf; omega) (by omega) (by omega) (by omega) (by omega)
  have hi1 : ∀ a q, 79 ≤ a → v1 a q = v a q := fun a q h1 => b1 a q (by unfold ADf; omega) (by omega) (by omega) (by omega) (by omega)
  have eN : stN v1 = stN v := stN_w3 w1
  have g16 : zg v1 16 = zg v 16 := zg_fn fun q => w1 16 q (by omega) (by omega)
  have g17 : zg v1 17 = zg v 17 := zg_fn fun q => w1 17 q (by omega) (by omega)
  have g93 : zg v1 93 = zg v 93 := zg_fn fun q => hi1 93 q (by omega)
  obtain ⟨m1, m2, m3, m4, m5, m6, m7, m8, m9, m10, m11, m12, m13⟩ := hm
  rw [eN, g16] at m5 m6
  rw [g17, g93] at m6
  rw [g93] at m7
  have lo : ∀ a q, a < 79 → v2 a q = v1 a q := fun a q h1 => m1 a q (by omega) (by omega) (by omega) (by omega) (by omega) (by omega) (by omega) (by omega)
  have w2 : ∀ a q, 16 ≤ a → a ≤ 23 → v2 a q = v a q := fun a q h1 h2 => by rw [lo a q (by omega), w1 a q h1 h2]
  have eN2 : stN v2 = stN v := stN_w3 w2
  have eK2 : tkS v2 = tkS v := tkS_w3 w2
  have z16 : zg v2 16 = zg v 16 := zg_fn fun q => w2 16 q (by omega) (by omega)
  have z19 : zg v2 19 = zg v 19 := zg_fn fun q => w2 19 q (by omega) (by omega)
  have zlo : ∀ a, a < 79 → zg v2 a = zg v1 a := fun a h => zg_fn fun q => lo a q h
  have z33 : zg v2 33 0 = c + 1 := by rw [zlo 33 (by omega)]; exact b11
  have z331 : zg v2 33 1 = zg v 33 1 := by
    rw [zlo 33 (by omega)]
    simp only [zg]
    rw [b1 33 1 (by unfold ADf; omega) (by omega) (by omega) (by omega) (by omega)]
  have r34 : ∀ q, q < c * 6 → v2 34 q = v 34 q := fun q h => by rw [lo 34 q (by omega), b1 34 q (by unfold ADf; omega) (by omega) (by omega) (by omega) (by omega)]
  have l34 : ∀ i w, i < c → w < 6 → lg v2 i w = lg v i w := fun i w h1 h2 => by simp only [lg, zg]; rw [r34 _ (by omega)]
  have l0 : lg v2 c 0 = k := by simp only [lg, zg]; rw [lo 34 _ (by omega), show c * 6 + 0 = c * 6 by omega, b4, zI_to (by have := hB.2.2.1; omega)]
  have s38 := a7 k k0 k1
  have l1 : lg v2 c 1 = f := by simp only [lg, zg]; rw [lo 34 _ (by omega), b5, zI_to (by have := hB.1; omega)]
  have l2 : lg v2 c 2 = t := by simp only [lg, zg]; rw [lo 34 _ (by omega), b6, zI_to (by have := hB.1; omega)]
  have l4 : lg v2 c 4 = M := by simp only [lg, zg]; rw [lo 34 _ (by omega), b8, zI_to (by omega)]
  have f0 : 0 ≤ f ∧ f < 6 := by have := hB.1; omega
  -- rows
  have hr : ∀ i q, 0 ≤ i → i ≤ c → 0 ≤ q → q < 171 → hrow v2 i q = hrow v i q := by
    intro i q i0 i1 q0 q1
    unfold hrow
    rw [z33, hc, if_neg (by omega)]
    by_cases e : i = c
    · subst e
      rw [if_pos rfl, m4 q q0 q1, hi1 93 q (by omega)]
    · rw [if_neg e, m1 95 _ (by omega) (by omega) (by omega) (by omega) (by omega) (by omega) (by omega) (by omega), hi1 95 _ (by omega)]
  have hr1 : ∀ q, hrow v2 (c + 1) q = v2 93 q := fun q => by unfold hrow; rw [z33, if_pos rfl]
  have hVX : VS v (X c) := (a3 c (by omega) (by omega)).1
  have n0 := hB.2.1
  obtain ⟨q1, q2, q3, q4⟩ := stN_all (k := k) hVX hB.wf f0.1 f0.2 t0 (by have := hB.1; omega) ft M M0 (by omega)
  have bits : ∀ s, 0 ≤ s → s < zg v 16 9 → (bitC u1 s c = true ↔ ¬ (stN v k f t (X c) M).1 s = (X c).1 s) := by
    intro s s0 s1
    unfold bitC
    rw [b13 c, if_pos rfl, lbit_get s0 (by omega) M M0 (fun i i0 i1 => by have := (q3 i i0 i1).1; have := this.1; have := (q3 i i0 i1).1.2.1; omega)]
    constructor
    · rintro ⟨i, i0, i1, rfl⟩
      rw [(q3 i i0 i1).2.1, (q3 i i0 i1).2.2.2]
      exact fun e => ft e.symm
    · intro hne
      rcases q4 s with e | e
      · exact absurd e hne
      · exact e
  have bold : ∀ s i, 0 ≤ i → i < c → bitC u1 s i = bitC u s i := by
    intro s i i0 i1
    unfold bitC
    rw [b13 i, if_neg (by omega)]
  have pold : ∀ s i, 0 ≤ i → i ≤ c → ptC v2 u1 s i = ptC v u s i ∧ lst (bitC u1 s) i = lst (bitC u s) i ∧ btsC v2 u1 s i = btsC v u s i := by
    intro s i i0 i1
    refine ptC_ext (by rw [z19]) i i0 (fun j j0 j1 => ⟨bold s j j0 (by omega), ?_⟩)
    simp only [zg]
    rw [r34 _ (by omega)]
  refine ⟨?_, ?_, ?_, ?_, ?_, ?_, ?_, ?_, ?_, ?_⟩
  · rw [z33, z331]
    refine ⟨by omega, by omega, m3, by omega, by omega, ?_⟩
    simp only [zg]
    rw [m1 79 31 (by omega) (by omega) (by omega) (by omega) (by omega) (by omega) (by omega) (by omega), hi1 79 31 (by omega)]
    exact a1.2.2.2.2.2
  · rw [z33]
    simp only [if_true]
    exact CS_w3 (v0 := v1) (fun a q h1 h2 => lo a q (by omega)) (fun a q h1 h2 => lo a q (by omega)) b2
  · rw [z331, z33]
    intro i i0 i1
    rw [z16]
    by_cases e : i = c + 1
    · subst e
      simp only [if_true]
      refine ⟨VS_w3 w2 (VS_stN (k := k) hVX hB.wf f0.1 f0.2 t0 (by have := hB.1; omega) ft M M0 (by omega)).1, fun s s0 s1 => ?_⟩
      rw [hr1, hr1]
      exact ⟨(m5 s s0 s1).1, (m5 s s0 s1).2.1⟩
    · simp only [e, if_false]
      obtain ⟨p1, p2⟩ := a3 i i0 (by omega)
      refine ⟨VS_w3 w2 p1, fun s s0 s1 => ?_⟩
      rw [hr i _ (by omega) (by omega) (by omega) (by omega), hr i _ (by omega) (by omega) (by omega) (by omega)]
      exact p2 s s0 s1
  · rw [z331, z33, z16, eN2, eK2]
    intro i i0 i1
    by_cases e : i = c
    · subst e
      rw [l0, l1, l2, l4]
      simp only [if_true, show ¬ i = i + 1 by omega, if_false]
      refine ⟨trivial, by omega, fun j j0 j1 => ?_, fun j j0 j1 => ?_⟩
      · rw [zlo 36 (by omega)]; exact b10 j j0 j1
      · have hB3 := hB.2.2.1
        rw [hr i _ (by omega) (by omega) (by omega) (by omega), hr1]
        have e1 : (hrow v i (166 + j)).toInt = zg v 93 (166 + j) := by unfold hrow; rw [hc, if_pos rfl]; rfl
        have e2 := m7 j j0 (by omega)
        rw [e1]
        by_cases ek : j = k
        · subst ek; rw [if_pos rfl, s38.1, hf]
        · rw [if_neg ek]
          rw [if_neg ek] at e2
          exact e2.symm
    · rw [l34 i 0 (by omega) (by omega), l34 i 1 (by omega) (by omega), l34 i 2 (by omega) (by omega), l34 i 4 (by omega) (by omega)]
      simp only [show ¬ i + 1 = c + 1 by omega, show ¬ i = c + 1 by omega, if_false]
      obtain ⟨p1, p2, p3, p4⟩ := a4 i i0 (by omega)
      refine ⟨p1, p2, fun j j0 j1 => ?_, fun j j0 j1 => ?_⟩
      · rw [← p3 j j0 j1, zlo 36 (by omega)]
        have p8 := (a5 i (by omega) (by omega)).2.2.2.2.1
        simp only [zg]
        rw [b1 36 _ (by unfold ADf; omega) (by omega) (by omega) (by omega) (by omega)]
      · have hB3 := hB.2.2.1
        rw [hr i _ (by omega) (by omega) (by omega) (by omega), hr (i + 1) _ (by omega) (by omega) (by omega) (by omega)]
        exact p4 j j0 j1
  · rw [z33, z16]
    intro i i0 i1
    by_cases e : i = c
    · subst e
      rw [l0, l1, l2, l4]
      refine ⟨⟨k0, k1⟩, ⟨by omega, by omega⟩, ⟨t0, t1⟩, ft, ⟨M0, M8⟩, ?_⟩
      intro w w0 w1
      rw [lo 34 _ (by omega)]
      rcases (show w = 0 ∨ w = 1 ∨ w = 2 ∨ w = 3 ∨ w = 4 ∨ w = 5 by omega) with e | e | e | e | e | e <;> subst e
      · rw [show 6 * i + 0 = 6 * i by omega, show i * 6 + 0 = i * 6 by omega, m8, b4]
      · rw [m9, b5]
      · rw [m10, b6]
      · rw [m11, b7]
      · rw [m12, b8]
      · rw [m13, b9, htl]
    · rw [l34 i 0 (by omega) (by omega), l34 i 1 (by omega) (by omega), l34 i 2 (by omega) (by omega), l34 i 4 (by omega) (by omega)]
      obtain ⟨p1, p2, p3, p4, p5, p6⟩ := a5 i i0 (by omega)
      refine ⟨p1, p2, p3, p4, p5, fun w w0 w1 => ?_⟩
      rw [m1 99 _ (by omega) (by omega) (by omega) (by omega) (by omega) (by omega) (by omega) (by omega), hi1 99 _ (by omega), r34 _ (by omega)]
      exact p6 w w0 w1
  · rw [z33, z16]
    intro i i0 i1
    have z37 : ∀ q, q < (c + 1) * 6 → zg v2 37 q = zg v 37 q := fun q h => by
      rw [zlo 37 (by omega)]
      simp only [zg]
      rw [b1 37 q (by unfold ADf; omega) (by omega) (by omega) (by omega) (by omega)]
    have b0 := hB.1
    by_cases e : i = c + 1
    · subst e
      obtain ⟨p1, p2⟩ := a6 c (by omega) (by omega)
      have hh : ∀ q, hrow v c q = v 93 q := fun q => by unfold hrow; rw [hc, if_pos rfl]
      refine ⟨fun s s0 s1 => ?_, fun p p0 p1' => ?_⟩
      · rw [hr1, hr1, hr1, ptC_succ (by omega), lst_succ (by omega), btsC_succ (by omega), (pold s c (by omega) (by omega)).1, (pold s c (by omega) (by omega)).2.1, (pold s c (by omega) (by omega)).2.2]
        obtain ⟨e1, e2, e3⟩ := p1 s s0 s1
        rw [hh] at e1 e2 e3
        obtain ⟨g1, g2, g3, g4⟩ := m5 s s0 s1
        obtain ⟨x1, x2⟩ := (a3 c (by omega) (by omega)).2 s s0 s1
        rw [hh] at x1
        by_cases hb : bitC u1 s c = true
        · have hne := (bits s s0 s1).1 hb
          rw [if_pos hb, if_pos hb, if_pos hb, show zg v2 34 (c * 6 + 2) = t from l2]
          have y1 : (v2 93 s).toInt = _ := g1
          refine ⟨?_, ?_, ?_⟩
          · rw [y1]
            rcases q1 s with z | z
            · exact absurd z hne
            · exact z.2
          · rw [(g4 hne).1, zI_to (by omega)]
          · rw [(g4 hne).2, hi1 93 _ (by omega), e3]
        · have heq : (stN v k f t (X c) M).1 s = (X c).1 s := by
            apply Classical.byContradiction
            intro hne
            exact hb ((bits s s0 s1).2 hne)
          rw [if_neg hb, if_neg hb, if_neg hb]
          have y1 : (v2 93 s).toInt = _ := g1
          refine ⟨?_, ?_, ?_⟩
          · rw [y1, heq, ← x1, e1]
          · rw [(g3 heq).1, hi1 93 _ (by omega), e2]
          · rw [(g3 heq).2, hi1 93 _ (by omega), e3]
      · rw [hr1]
        have e1 := m6 p p0 p1'
        have e2 := b12 p p0 p1'
        obtain ⟨e3, e4⟩ := p2 p p0 p1'
        rw [hh] at e3
        have e5 : zg v 93 (160 + p) = zg v 37 (c * 6 + p) := e3
        rw [e5] at e1
        rw [zlo 37 (by omega), e2]
        refine ⟨e1, ?_⟩
        have nb := (hB.2.2.2.1 p p0 p1').1
        unfold prF
        split
        · omega
        · split <;> omega
    · obtain ⟨p1, p2⟩ := a6 i i0 (by omega)
      refine ⟨fun s s0 s1 => ?_, fun p p0 p1' => ?_⟩
      · rw [hr i _ (by omega) (by omega) (by omega) (by omega), hr i _ (by omega) (by omega) (by omega) (by omega), hr i _ (by omega) (by omega) (by omega) (by omega), (pold s i (by omega) (by omega)).1, (pold s i (by omega) (by omega)).2.1, (pold s i (by omega) (by omega)).2.2]
        exact p1 s s0 s1
      · rw [hr i _ (by omega) (by omega) (by omega) (by omega), z37 _ (by omega)]
        exact p2 p p0 p1'
  · rw [z16]
    intro i i0 i1
    have hB3 := hB.2.2.1
    rw [m7 i i0 (by omega), zlo 38 (by omega)]
    by_cases e : i = k
    · subst e
      rw [if_pos rfl, b3]
      exact ⟨rfl, t0, t1⟩
    · rw [if_neg e]
      have e2 : zg v1 38 i = zg v 38 i := by
        simp only [zg]
        rw [b1 38 i (by unfold ADf; omega) (by omega) (by omega) (by omega) (by omega)]
      rw [e2]
      exact a7 i i0 i1
  · have y : ∀ a, (a = 28 ∨ a = 39 ∨ a = 40 ∨ a = 100 ∨ a = 101) → zg v2 a = zg v a := by
      intro a ha
      apply zg_fn
      intro q
      rw [m1 a q (by omega) (by omega) (by omega) (by omega) (by omega) (by omega) (by omega) (by omega), b1 a q (by unfold ADf; omega) (by omega) (by omega) (by omega) (by omega)]
    have y79 : zg v2 79 32 = zg v 79 32 := by
      simp only [zg]
      rw [m1 79 32 (by omega) (by omega) (by omega) (by omega) (by omega) (by omega) (by omega) (by omega), hi1 79 32 (by omega)]
    rw [y 28 (by omega), y 39 (by omega), y 40 (by omega), y 100 (by omega), y 101 (by omega), z16, y79]
    exact a8
  · have y : ∀ a, (a = 28 ∨ a = 41 ∨ a = 42 ∨ a = 43 ∨ a = 105 ∨ a = 106 ∨ a = 107) → zg v2 a = zg v a := by
      intro a ha
      apply zg_fn
      intro q
      rw [m1 a q (by omega) (by omega) (by omega) (by omega) (by omega) (by omega) (by omega) (by omega), b1 a q (by unfold ADf; omega) (by omega) (by omega) (by omega) (by omega)]
    have y79 : zg v2 79 33 = zg v 79 33 := by
      simp only [zg]
      rw [m1 79 33 (by omega) (by omega) (by omega) (by omega) (by omega) (by omega) (by omega) (by omega), hi1 79 33 (by omega)]
    rw [y 28 (by omega), y 41 (by omega), y 42 (by omega), y 43 (by omega), y 105 (by omega), y 106 (by omega), y 107 (by omega), z16, y79]
    exact a9
  · intro i i0 i1
    rw [m1 91 _ (by omega) (by omega) (by omega) (by omega) (by omega) (by omega) (by omega) (by omega), hi1 91 _ (by omega), lo 44 _ (by omega), b1 44 _ (by unfold ADf; omega) (by omega) (by omega) (by omega) (by omega)]
    exact a10 i i0 i1
