section
variable {sc : Nat × (Nat → Int32)} {d : Nat} {v v0 : zV} {u : zU}
theorem c54 {c : Int} (hd : 1 ≤ d) (hc : zg v 33 0 = c) (c0 : 1 ≤ c) (c1 : c ≤ 30) : zEv sc 54 d 0 [.ref 33, .ref 45] [] (zmk v u) 0 0 (zPv fun v' u' => (∀ a q, ¬ a = 45 → ¬ a = 46 → ¬ (a = 33 ∧ q = 0) → v' a q = v a q) ∧ zg v' 33 0 = c - 1 ∧ zg v' 45 0 = zg v 34 ((c - 1) * 6) ∧ zg v' 45 1 = zg v 34 ((c - 1) * 6 + 1) ∧ zg v' 45 2 = zg v 34 ((c - 1) * 6 + 2) ∧ zg v' 45 3 = zg v 34 ((c - 1) * 6 + 4) ∧ (∀ j, 0 ≤ j → j < 8 → zg v' 46 j = zg v 36 ((c - 1) * 8 + j)) ∧ u = u') := by
  have e33 : ∀ (x : Int32) (a : Nat) (j : Int), ¬ a = 33 → zg (zu v 33 0 x) a j = zg v a j := fun x a j h => zg_na h
  have r33 : zg (zu v 33 0 (zI (c - 1))) 33 0 = c - 1 := zg_same (by omega)
  refine e_al0 o54_0 (e_dupR o54_1 (e_gI o54_2 L33 rfl 0 rfl ?_))
  rw [hc]
  refine e_ico o54_5 (e_sub o54_6 (e_pI o54_7 L33 rfl rfl rfl rfl 0 rfl (e_al1 o54_10 (e_al0 o54_11 (e_al0 o54_12 (e_gI o54_13 L33 rfl 0 rfl ?_))))))
  rw [r33]
  refine e_ico o54_16 (e_Vi2 o54_17 K54 K55 rfl ⟨rfl, rfl⟩ (zrcv_I L33 rfl) (by omega) rfl (c55 (by omega) (by omega) (by omega) (by omega)) ?_)
  rintro _ _ _ ⟨rfl, rfl, rfl⟩
  rw [e33 _ 34 _ (by decide), show (c - 1) * 6 + 0 = (c - 1) * 6 by omega]
  refine e_al0 o54_20 (e_al0 o54_21 (e_gI o54_22 L33 rfl 0 rfl ?_))
  rw [r33]
  refine e_ico o54_25 (e_Vi2 o54_26 K54 K55 rfl ⟨rfl, rfl⟩ (zrcv_I L33 rfl) (by omega) rfl (c55 (by omega) (by omega) (by omega) (by omega)) ?_)
  rintro _ _ _ ⟨rfl, rfl, rfl⟩
  rw [e33 _ 34 _ (by decide)]
  refine e_al0 o54_29 (e_al0 o54_30 (e_gI o54_31 L33 rfl 0 rfl ?_))
  rw [r33]
  refine e_ico o54_34 (e_Vi2 o54_35 K54 K55 rfl ⟨rfl, rfl⟩ (zrcv_I L33 rfl) (by omega) rfl (c55 (by omega) (by omega) (by omega) (by omega)) ?_)
  rintro _ _ _ ⟨rfl, rfl, rfl⟩
  rw [e33 _ 34 _ (by decide)]
  refine e_Vv3 o54_38 K54 K50 rfl ⟨rfl, rfl⟩ (zrcv_I L45 rfl) (by omega) rfl (c50 L45) ?_
  rintro _ _ ⟨rfl, rfl⟩
  obtain ⟨v1, hv1⟩ : ∃ v1, v1 = zu (zu (zu (zu (zu v 33 0 (zI (c - 1))) 45 0 (zI (zg v 34 ((c - 1) * 6)))) 45 1 (zI (zg v 34 ((c - 1) * 6 + 1)))) 45 2 (zI (zg v 34 ((c - 1) * 6 + 2)))) 45 3 (zI 0) := ⟨_, rfl⟩
  rw [← hv1]
  have f1 : ∀ a q, ¬ a = 45 → ¬ (a = 33 ∧ q = 0) → v1 a q = v a q := fun a q h h' => by rw [hv1, zu_ne (fun e => h e.1), zu_ne (fun e => h e.1), zu_ne (fun e => h e.1), zu_ne (fun e => h e.1), zu_ne h']
  have g1 : zg v1 33 0 = c - 1 := by rw [hv1, zg_na (by decide), zg_na (by decide), zg_na (by decide), zg_na (by decide)]; exact r33
  have z1 : ∀ a, ¬ a = 45 → ¬ a = 33 → zg v1 a = zg v a := fun a h h' => zg_fn fun q => f1 a q h (fun e => h' e.1)
  refine e_al1 o54_41 (e_al0 o54_42 (e_al0 o54_43 (e_gI o54_44 L33 rfl 0 rfl ?_)))
  rw [g1]
  refine e_ico o54_47 (e_Vi2 o54_48 K54 K55 rfl ⟨rfl, rfl⟩ (zrcv_I L33 rfl) (by omega) rfl (c55 (by omega) (by omega) (by omega) (by omega)) ?_)
  rintro _ _ _ ⟨rfl, rfl, rfl⟩
  rw [z1 34 (by decide) (by decide)]
  refine e_pI o54_51 L45 rfl rfl rfl rfl 3 rfl (e_al0 o54_54 (e_gR o54_55 L33 rfl rfl (e_al0 o54_58 (e_gI o54_59 L33 rfl 0 rfl ?_))))
  rw [zg_na (by decide), g1]
  refine e_bip o54_62 rfl (e_mul o54_64 (e_al1 o54_65 (e_gR o54_66 L45 rfl rfl (e_ico o54_69 (e_bip o54_70 rfl (e_cpy o54_72 (by omega) rfl L36 L46 (by omega) (by omega) (by omega) (by omega) (by omega) ?_))))))
  refine e_rV o54_75 K54 rfl rfl ?_
  refine ⟨?_, ?_, ?_, ?_, ?_, ?_, ?_, rfl⟩
  · intro a q h1 h2 h3
    rw [zcp, if_neg (fun e => h2 e.1), zu_ne (fun e => h1 e.1)]
    exact f1 a q h1 h3
  · simp only [zg, zcp]
    rw [if_neg (by omega), zu_ne (by omega)]
    exact g1
  · simp only [zg, zcp]
    rw [if_neg (by omega), zu_ne (by omega), hv1, zu_ne (by omega), zu_ne (by omega), zu_ne (by omega), zu_same, zI_g]
  · simp only [zg, zcp]
    rw [if_neg (by omega), zu_ne (by omega), hv1, zu_ne (by omega), zu_ne (by omega), zu_same, zI_g]
  · simp only [zg, zcp]
    rw [if_neg (by omega), zu_ne (by omega), hv1, zu_ne (by omega), zu_same, zI_g]
  · simp only [zg, zcp]
    rw [if_neg (by omega), zu_same, zI_t]
  · intro j j0 j1
    simp only [zg, zcp]
    rw [if_pos ⟨trivial, by omega, by omega⟩, zu_ne (by omega), show (c - 1) * 8 + (j - 0) = (c - 1) * 8 + j by omega, f1 36 _ (by omega) (by omega)]
/-- the class's state with its last voyage undone -/
theorem c9 {k f t c M : Int} {x : zPL} (hd : 3 ≤ d) (hc : zg v 33 0 = c) (c0 : 1 ≤ c) (c1 : c ≤ 30) (hB : WB v) (hk : zg v 34 ((c - 1) * 6) = k) (hf : zg v 34 ((c - 1) * 6 + 1) = f) (ht : zg v 34 ((c - 1) * 6 + 2) = t) (hM : zg v 34 ((c - 1) * 6 + 4) = M) (k0 : 0 ≤ k) (k1 : k < 5) (f0 : 0 ≤ f) (f1 : f < 6) (t0 : 0 ≤ t) (t1 : t < 6) (ft : ¬ f = t) (M0 : 0 ≤ M) (M8 : M ≤ 8) (Mc : M ≤ cnt x.1 f (zg v 16 9)) (hV : VS v x) (hC : CS v (stN v k f t x M).1 (stN v k f t x M).2) (hp : ∀ j, 0 ≤ j → j < M → zg v 36 ((c - 1) * 8 + j) = (stN v k f t x j).2 (tkS v k f (stN v k f t x j))) : zEv sc 9 d 0 [.ref 28, .ref 16] [] (zmk v u) 0 0 (zPv fun v' u' => (∀ a q, ¬ (30 ≤ a ∧ a ≤ 32) → ¬ a = 45 → ¬ a = 46 → ¬ (a = 33 ∧ q = 0) → ¬ (a = 38 ∧ q = k) → v' a q = v a q) ∧ zg v' 33 0 = c - 1 ∧ zg v' 38 k = f ∧ CS v' x.1 x.2 ∧ u = u') := by
  refine e_al0 o9_0 (e_gR o9_1 L28 rfl rfl (e_al0 o9_4 (e_gR o9_5 L28 rfl rfl (e_Vv1 o9_8 K9 K54 rfl ⟨rfl, rfl⟩ (zrcv_I L33 rfl) (by omega) rfl (c54 (by omega) hc c0 c1) ?_))))
  rintro v1 _ ⟨h1, h2, h3, h4, h5, h6, h7, rfl⟩
  rw [hk] at h3
  rw [hf] at h4
  rw [ht] at h5
  rw [hM] at h6
  have w1 : ∀ a q, 16 ≤ a → a ≤ 23 → v1 a q = v a q := fun a q g1 g2 => h1 a q (by omega) (by omega) (by omega)
  have eN : stN v1 = stN v := stN_w3 w1
  have eK : tkS v1 = tkS v := tkS_w3 w1
  have e16 : zg v1 16 = zg v 16 := zg_fn fun q => w1 16 q (by omega) (by omega)
  have hB1 : WB v1 := WB_w3 w1 hB
  have hTA : TA v1 45 46 := ⟨rfl, rfl, rfl, by decide, by decide, by decide, hB1.wf, hB1.wk, by omega, by omega, by omega, by omega, by omega, by omega, by omega⟩
  have hV1 : VS v1 x := by
    obtain ⟨z, z1, z2⟩ := hV
    refine ⟨fun a q => if 30 ≤ a ∧ a ≤ 32 then z a q else v1 a q, fun a q g1 g2 g3 => if_neg (by omega), CS_w3 (v0 := z) (fun a q g1 g2 => ?_) (fun a q g1 g2 => if_pos ⟨g1, g2⟩) z2⟩
    show (if _ then _ else _) = _
    rw [if_neg (by omega), w1 a q g1 g2, z1 a q (by omega) (by omega) (by omega)]
  have hv := VS_stN (k := k) hV1 hB1.wf f0 f1 t0 t1 ft M M0 (by rw [e16]; exact Mc)
  have hTR : TR v1 45 46 x M v1 := by
    refine ⟨fun _ _ _ _ _ _ _ => rfl, h6, ?_, ?_, ?_⟩
    · rw [h3, h4, h5, eN]; exact CS_w3 w1 (fun a q g1 g2 => h1 a q (by omega) (by omega) (by omega)) hC
    · rw [h3, h4, h5]; exact hv.2
    · intro j j0 j1; rw [h3, h4, h5, eN, eK, h7 j j0 (by omega)]; exact hp j j0 j1
  refine e_al0 o9_11 (e_gR o9_12 L28 rfl rfl (e_al1 o9_15 (e_al0 o9_16 (e_gR o9_17 L28 rfl rfl (e_Vv2 o9_20 K9 K51 rfl ⟨rfl, rfl⟩ (zrcv_I L45 rfl) (by omega) rfl (c51 (x := x) (m := M) (by omega) hTA hV1 hTR M0 M8 (by rw [h4, e16]; exact Mc)) ?_)))))
  rintro v2 _ ⟨⟨r1, r2, r3, r4, r5⟩, r6, rfl⟩
  have e0 : zg v2 45 0 = k := by simp only [zg]; rw [r6 45 0 (by omega) (by omega) (by omega) (by omega)]; exact h3
  have e1 : zg v2 45 1 = f := by simp only [zg]; rw [r6 45 1 (by omega) (by omega) (by omega) (by omega)]; exact h4
  refine e_al0 o9_23 (e_gR o9_24 L28 rfl rfl (e_al0 o9_27 (e_gR o9_28 L28 rfl rfl (e_gI o9_31 L45 rfl 0 rfl ?_))))
  rw [e0]
  refine e_al0 o9_34 (e_gR o9_35 L28 rfl rfl (e_gI o9_38 L45 rfl 1 rfl ?_))
  rw [e1]
  refine e_iast o9_41 L38 (by omega) (by omega) ?_
  refine e_rV o9_42 K9 rfl rfl ?_
  refine ⟨?_, ?_, zg_same (by omega), ?_, rfl⟩
  · intro a q g1 g2 g3 g4 g5
    rw [zu_ne g5, r6 a q (by omega) (by omega) (by omega) (by omega), h1 a q g2 g3 g4]
  · rw [zg_na (by decide)]
    simp only [zg]
    rw [r6 33 0 (by omega) (by omega) (by omega) (by omega)]
    exact h2
  · exact CS_w3 (v0 := v2) (fun a q g1 g2 => zu_ne (by omega)) (fun a q g1 g2 => zu_ne (by omega)) r3
end
