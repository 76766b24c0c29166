/-! a voyage made, and undone, by the class -/
theorem stN_w {v v0 : zV} (h : ∀ c k, 16 ≤ c → c ≤ 25 → v c k = v0 c k) : stN v = stN v0 := by
  funext k f t x m
  simp only [stN, stp_w h]
theorem tkS_w3 {v v0 : zV} (h : ∀ c k, 16 ≤ c → c ≤ 23 → v c k = v0 c k) : tkS v = tkS v0 := by
  have e19 : zg v 19 = zg v0 19 := zg_fn fun k => h 19 k (by omega) (by omega)
  have e20 : zg v 20 = zg v0 20 := zg_fn fun k => h 20 k (by omega) (by omega)
  have e21 : zg v 21 = zg v0 21 := zg_fn fun k => h 21 k (by omega) (by omega)
  have e23 : zg v 23 = zg v0 23 := zg_fn fun k => h 23 k (by omega) (by omega)
  have e16 : zg v 16 = zg v0 16 := zg_fn fun k => h 16 k (by omega) (by omega)
  have ew : wsh v = wsh v0 := by
    funext k s i
    unfold wsh
    rw [e19, e20, e21, e23]
  funext k f x
  unfold tkS
  rw [ew, e16]
theorem stN_w3 {v v0 : zV} (h : ∀ c k, 16 ≤ c → c ≤ 23 → v c k = v0 c k) : stN v = stN v0 := by
  have e16 : zg v 16 = zg v0 16 := zg_fn fun k => h 16 k (by omega) (by omega)
  have e : stp v = stp v0 := by
    funext k f t x
    unfold stp
    rw [tkS_w3 h, e16]
  funext k f t x m
  simp only [stN, e]
theorem CS_w3 {v v0 : zV} {P L : Int → Int} (h : ∀ c k, 16 ≤ c → c ≤ 23 → v c k = v0 c k) (h' : ∀ c k, 30 ≤ c → c ≤ 32 → v c k = v0 c k) (w : CS v0 P L) : CS v P L := by
  have e19 : zg v 19 = zg v0 19 := zg_fn fun k => h 19 k (by omega) (by omega)
  unfold CS at w ⊢
  rw [e19]
  simp only [zg, h 16 _ (by omega) (by omega), h' 30 _ (by omega) (by omega), h' 31 _ (by omega) (by omega), h' 32 _ (by omega) (by omega)] at w ⊢
  exact w
section
variable {sc : Nat × (Nat → Int32)} {d : Nat} {v v0 : zV} {u : zU}
/-- the class's state behind a voyage -/
def MV (v : zV) (u : zU) (k f t y : Int) (x : zPL) (M c : Int) (v' : zV) (u' : zU) : Prop :=
  (∀ a q, ¬ ADf c a q → ¬ (30 ≤ a ∧ a ≤ 32) → ¬ a = 45 → ¬ a = 46 → ¬ (a = 38 ∧ q = k) → v' a q = v a q) ∧
  CS v' (stN v k f t x M).1 (stN v k f t x M).2 ∧ zg v' 38 k = t ∧
  v' 34 (c * 6) = zI k ∧ v' 34 (c * 6 + 1) = zI f ∧ v' 34 (c * 6 + 2) = zI t ∧ v' 34 (c * 6 + 3) = zI y ∧ v' 34 (c * 6 + 4) = zI M ∧ v' 34 (c * 6 + 5) = toll (zg v 25) (zg v 24 3) (zg v 20) (zg v 19) f t M c (fun j => tkS v k f (stN v k f t x j)) M ∧
  (∀ j, 0 ≤ j → j < M → zg v' 36 (c * 8 + j) = (stN v k f t x j).2 (tkS v k f (stN v k f t x j))) ∧ zg v' 33 0 = c + 1 ∧
  (∀ p, 0 ≤ p → p < zg v 16 8 → zg v' 37 ((c + 1) * 6 + p) = prF (zg v 17 p) (cnt (stN v k f t x M).1 p (zg v 16 9)) (zg v 37 (c * 6 + p))) ∧
  (∀ q, u' 35 q = if q = c then lbit (fun j => tkS v k f (stN v k f t x j)) M else u 35 q) ∧ ∀ a q, ¬ a = 35 → u' a q = u a q
theorem c13 {k f t y c M : Int} {x : zPL} (hd : 5 ≤ d) (hC : CS v x.1 x.2) (hB : WB v) (hW : WT (zg v 25) (zg v 24 3)) (k0 : 0 ≤ k) (k1 : k < zg v 16 10) (hf : zg v 38 k = f) (f0 : 0 ≤ f) (f1 : f < 6) (t0 : 0 ≤ t) (t1 : t < 6) (ft : ¬ f = t) (y0 : 0 ≤ y) (y1 : y ≤ zg v 22 k) (hc : zg v 33 0 = c) (c0 : 0 ≤ c) (c1 : c < 30) (hp : ∀ p, 0 ≤ p → p < zg v 16 8 → 0 ≤ zg v 37 (c * 6 + p) ∧ zg v 37 (c * 6 + p) ≤ 99) (hM : M = min (wantC v k y) (cnt x.1 f (zg v 16 9))) : zEv sc 13 d 0 [.ref 28, .ref 16, .int (zI k), .int (zI t), .int (zI y)] [] (zmk v u) 0 0 (zPi fun r v' u' => zI M = r ∧ MV v u k f t y x M c v' u') := by
  have s5 := hB.2.2.1
  have bk := hB.2.2.2.2.2 k k0 k1
  have n0 := hB.2.1
  have cr := cnt_rg (P := x.1) (p := f) hB.2.1.1
  have hw0 : 0 ≤ wantC v k y ∧ wantC v k y ≤ 8 := by
    unfold wantC
    split <;> omega
  refine e_al0 o13_0 (e_gR o13_1 L28 rfl rfl (e_il2 o13_4 (e_al0 o13_5 (e_gR o13_6 L28 rfl rfl (e_il2 o13_9 (e_ial o13_10 L38 (by omega) (by omega) ?_))))))
  rw [hf]
  refine e_il3 o13_11 (e_Vv3 o13_12 K13 K50 rfl ⟨rfl, rfl⟩ (zrcv_I L45 rfl) (by omega) rfl (c50 L45) ?_)
  rintro _ _ ⟨rfl, rfl⟩
  obtain ⟨v1, hv1⟩ : ∃ v1, v1 = zu (zu (zu (zu v 45 0 (zI k)) 45 1 (zI f)) 45 2 (zI t)) 45 3 (zI 0) := ⟨_, rfl⟩
  rw [← hv1]
  have q0 : zg v1 45 0 = k := by rw [hv1, zg_ne (by omega), zg_ne (by omega), zg_ne (by omega), zg_same (by omega)]
  have q1 : zg v1 45 1 = f := by rw [hv1, zg_ne (by omega), zg_ne (by omega), zg_same (by omega)]
  have q2 : zg v1 45 2 = t := by rw [hv1, zg_ne (by omega), zg_same (by omega)]
  have q3 : zg v1 45 3 = 0 := by rw [hv1, zg_same (by omega)]
  have fv1 : ∀ a q, ¬ a = 45 → v1 a q = v a q := fun a q h => by rw [hv1, zu_ne (fun e => h e.1), zu_ne (fun e => h e.1), zu_ne (fun e => h e.1), zu_ne (fun e => h e.1)]
  have gv1 : ∀ a, ¬ a = 45 → zg v1 a = zg v a := fun a h => zg_fn fun q => fv1 a q h
  have eW : wantC v1 k y = wantC v k y := by unfold wantC; rw [gv1 21 (by decide), gv1 22 (by decide)]
  have eN : stN v1 = stN v := stN_w3 fun a q h1 h2 => fv1 a q (by omega)
  have eK : tkS v1 = tkS v := tkS_w3 fun a q h1 h2 => fv1 a q (by omega)
  have hC1 : CS v1 x.1 x.2 := CS_w3 (fun a q h1 h2 => fv1 a q (by omega)) (fun a q h1 h2 => fv1 a q (by omega)) hC
  have hB1 : WB v1 := WB_w3 (fun a q h1 h2 => fv1 a q (by omega)) hB
  have hTA : TA v1 45 46 := ⟨rfl, rfl, rfl, by decide, by decide, by decide, hB1.wf, hB1.wk, by omega, by omega, by omega, by omega, by omega, by omega, by omega⟩
  have hTR : TR v1 45 46 x 0 v1 := ⟨fun _ _ _ _ _ _ _ => rfl, q3, hC1, by show cnt x.1 _ _ = _; omega, fun j a b => by omega⟩
  refine e_al0 o13_15 (e_gR o13_16 L28 rfl rfl (e_al1 o13_19 (e_al0 o13_20 (e_gR o13_21 L28 rfl rfl (e_al1 o13_24 (e_il2 o13_25 (e_il4 o13_26 (e_Vi2 o13_28 K13 K71 rfl ⟨rfl, rfl⟩ (zrcv_I L16 rfl) (by omega) rfl (c71 k0 (by omega) y0 (by rw [gv1 22 (by decide)]; exact y1) (by rw [gv1 22 (by decide)]; omega)) ?_))))))))
  rintro _ _ _ ⟨rfl, rfl, rfl⟩
  rw [eW]
  refine e_Vv3 o13_31 K13 K52 rfl ⟨rfl, rfl⟩ (zrcv_I L45 rfl) (by omega) rfl (c52 (x := x) (m := 0) (by omega) hTA hTR (by omega) (by omega) (by rw [q1, gv1 16 (by decide)]; omega) hw0.1 hw0.2) ?_
  rintro v2 _ ⟨hT2, rfl⟩
  rw [q1, gv1 16 (by decide), show max 0 (min (wantC v k y) (cnt x.1 f (zg v 16 9))) = M by omega] at hT2
  obtain ⟨r1, r2, r3, r4, r5⟩ := hT2
  rw [q0, q1, q2, eN] at r3 r4 r5
  rw [eK] at r5
  have g2 : ∀ a q, ¬ (30 ≤ a ∧ a ≤ 32) → ¬ a = 46 → ¬ a = 45 → v2 a q = v a q := fun a q h1 h2 h3 => by rw [r1 a q (by omega) (by omega) (by omega) h2 (fun e => h3 e.1), fv1 a q h3]
  have z2 : ∀ a, ¬ (30 ≤ a ∧ a ≤ 32) → ¬ a = 46 → ¬ a = 45 → zg v2 a = zg v a := fun a h1 h2 h3 => zg_fn fun q => g2 a q h1 h2 h3
  have hB2 : WB v2 := WB_w3 (fun a q h1 h2 => g2 a q (by omega) (by omega) (by omega)) hB
  have hV : VS v x := ⟨v, fun _ _ _ _ _ => rfl, hC⟩
  obtain ⟨a1, a2, a3, a4⟩ := stN_all (k := k) hV hB.wf f0 f1 t0 t1 ft M (by omega) (by omega)
  have e30 := r3.2.1
  rw [z2 16 (by omega) (by omega) (by omega)] at e30
  have crt := cnt_rg (P := x.1) (p := t) hB.2.1.1
  have t45 : ∀ q, ¬ q = 3 → zg v2 45 q = zg v1 45 q := fun q h => by simp only [zg]; rw [r1 45 q (by omega) (by omega) (by omega) (by omega) (by omega)]
  have hsj : ∀ j, 0 ≤ j → j < M → zg v2 31 (t * 40 + (zg v2 30 t - M + j)) = tkS v k f (stN v k f t x j) ∧ 0 ≤ tkS v k f (stN v k f t x j) ∧ tkS v k f (stN v k f t x j) < 40 := by
    intro j j0 j1
    obtain ⟨b1, b2, b3, b4⟩ := a3 j j0 j1
    obtain ⟨p1, p2, p3, p4, p5, p6⟩ := r3.lt hB2.wf b1.1 (by rw [z2 16 (by omega) (by omega) (by omega)]; exact b1.2.1) (by rw [b2]; omega)
    rw [b2, b3] at p6
    refine ⟨?_, b1.1, by have := b1.2.1; omega⟩
    rw [e30 t t0 t1, a2, show cnt x.1 t (zg v 16 9) + M - M + j = cnt x.1 t (zg v 16 9) + j by omega]
    exact p6
  refine e_al0 o13_34 (e_gR o13_35 L28 rfl rfl (e_al1 o13_38 (e_al0 o13_39 (e_gR o13_40 L28 rfl rfl (e_al0 o13_43 (e_gR o13_44 L28 rfl rfl (e_il4 o13_47 (e_Vv4 o13_49 K13 K64 rfl ⟨rfl, rfl⟩ (zrcv_I L33 rfl) (by omega) rfl (c64 (c := c) (s := k) (f := f) (t := t) (M := M) (sj := fun j => tkS v k f (stN v k f t x j)) (by omega) (by rw [z2 25 (by omega) (by omega) (by omega), z2 24 (by omega) (by omega) (by omega)]; exact hW) hB2 (by rw [t45 0 (by omega)]; exact q0) (by rw [t45 1 (by omega)]; exact q1) (by rw [t45 2 (by omega)]; exact q2) r2 (by rw [z2 33 (by omega) (by omega) (by omega)]; exact hc) c0 c1 t0 t1 (by omega) (by rw [e30 t t0 t1, a2]; omega) (fun p p0 p1 => r3.len hB2.wf p0 p1) hsj (by rw [z2 16 (by omega) (by omega) (by omega), z2 37 (by omega) (by omega) (by omega)]; exact hp)) ?_))))))))
  rintro v3 u3 ⟨h1, h2, h3, h4, h5, h6, h7, h8, h9, h10, h11, h12⟩
  refine e_al0 o13_52 (e_gR o13_53 L28 rfl rfl (e_il2 o13_56 (e_il3 o13_57 (e_iast o13_58 L38 (by omega) (by omega) (e_al0 o13_59 (e_gR o13_60 L28 rfl rfl (e_gI o13_63 L45 rfl 3 rfl ?_)))))))
  refine e_rI o13_66 K13 rfl rfl ?_
  have e45 : zg (zu v3 38 k (zI t)) 45 3 = M := by
    rw [zg_na (by decide)]
    simp only [zg]
    rw [h1 45 3 (by unfold ADf; omega)]
    exact r2
  have ne : ∀ a q, ¬ a = 38 → zu v3 38 k (zI t) a q = v3 a q := fun a q h => zu_ne fun e => h e.1
  have nez : ∀ a q, ¬ a = 38 → zg (zu v3 38 k (zI t)) a q = zg v3 a q := fun a q h => zg_na h
  rw [e45]
  refine ⟨rfl, ?_, ?_, zg_same (by omega), ?_, ?_, ?_, ?_, ?_, ?_, ?_, ?_, ?_, h11, h12⟩
  · intro a q g1 g3 g4 g5 g6
    rw [zu_ne g6, h1 a q g1, g2 a q g3 g5 g4]
  · refine CS_w3 (v0 := v2) ?_ ?_ r3
    · intro a q g1 g3
      rw [ne a q (by omega), h1 a q (by unfold ADf; omega)]
    · intro a q g1 g3
      rw [ne a q (by omega), h1 a q (by unfold ADf; omega)]
  · rw [ne 34 _ (by omega)]; exact h2
  · rw [ne 34 _ (by omega)]; exact h3
  · rw [ne 34 _ (by omega)]; exact h4
  · rw [ne 34 _ (by omega)]; exact h5
  · rw [ne 34 _ (by omega)]; exact h6
  · rw [ne 34 _ (by omega), h7, z2 25 (by omega) (by omega) (by omega), z2 24 (by omega) (by omega) (by omega), z2 20 (by omega) (by omega) (by omega), z2 19 (by omega) (by omega) (by omega)]
  · intro j j0 j1
    rw [nez 36 _ (by omega), ← r5 j j0 j1]
    simp only [zg]
    rw [h8 j j0 (by omega)]
  · rw [nez 33 _ (by omega)]; exact h9
  · intro p p0 p1
    rw [nez 37 _ (by omega), h10 p p0 (by rw [z2 16 (by omega) (by omega) (by omega)]; exact p1), z2 17 (by omega) (by omega) (by omega), z2 37 (by omega) (by omega) (by omega), e30 p p0 (by have := hB.1; omega)]
end
