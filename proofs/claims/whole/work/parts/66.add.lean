/-! a voyage noted by the class -/
theorem WB_w3 {v v' : zV} (h : ∀ a k, 16 ≤ a → a ≤ 23 → v' a k = v a k) (e : WB v) : WB v' := by
  unfold WB at e ⊢
  rw [zg_fn fun k => h 16 k (by omega) (by omega), zg_fn fun k => h 17 k (by omega) (by omega), zg_fn fun k => h 18 k (by omega) (by omega), zg_fn fun k => h 19 k (by omega) (by omega), zg_fn fun k => h 20 k (by omega) (by omega), zg_fn fun k => h 21 k (by omega) (by omega), zg_fn fun k => h 22 k (by omega) (by omega), zg_fn fun k => h 23 k (by omega) (by omega)]
  exact e
section
variable {sc : Nat × (Nat → Int32)} {d : Nat} {v v0 : zV} {u : zU}
theorem c50 {a b : Nat} {s f t : Int32} (hT : zLay[a]? = some (4, 5, [9999, 9999, 9999, 9999, b])) : zEv sc 50 d 0 [.ref a, .int s, .int f, .int t] [] (zmk v u) 0 0 (zdo (zu (zu (zu (zu v a 0 s) a 1 f) a 2 t) a 3 (zI 0)) u) := by
  refine e_al0 o50_0 (e_il1 o50_1 (e_pI o50_2 hT rfl rfl rfl rfl 0 rfl (e_al0 o50_5 (e_il2 o50_6 (e_pI o50_7 hT rfl rfl rfl rfl 1 rfl (e_al0 o50_10 (e_il3 o50_11 (e_pI o50_12 hT rfl rfl rfl rfl 2 rfl (e_al0 o50_15 (e_ico o50_16 (e_pI o50_17 hT rfl rfl rfl rfl 3 rfl ?_)))))))))))
  refine e_rV o50_20 K50 rfl rfl ?_
  exact ⟨rfl, rfl⟩
/-- what add changes -/
def ADf (c : Int) (a : Nat) (k : Int) : Prop := (a = 34 ∧ c * 6 ≤ k ∧ k < c * 6 + 6) ∨ a = 26 ∨ a = 27 ∨ (a = 24 ∧ k = 4) ∨ (a = 36 ∧ c * 8 ≤ k ∧ k < c * 8 + 8) ∨ (a = 33 ∧ k = 0) ∨ (a = 37 ∧ (c + 1) * 6 ≤ k ∧ k < (c + 1) * 6 + 6)
theorem c64 {c s f t M y : Int} {sj : Int → Int} (hd : 4 ≤ d) (hW : WT (zg v 25) (zg v 24 3)) (hB : WB v) (hs0 : zg v 45 0 = s) (hf : zg v 45 1 = f) (ht : zg v 45 2 = t) (hM : zg v 45 3 = M) (hc : zg v 33 0 = c) (c0 : 0 ≤ c) (c1 : c < 30) (t0 : 0 ≤ t) (t1 : t < 6) (M0 : 0 ≤ M) (M1 : M ≤ zg v 30 t) (l1 : ∀ p, 0 ≤ p → p < 6 → 0 ≤ zg v 30 p ∧ zg v 30 p ≤ 40) (hs : ∀ j, 0 ≤ j → j < M → zg v 31 (t * 40 + (zg v 30 t - M + j)) = sj j ∧ 0 ≤ sj j ∧ sj j < 40) (hp : ∀ p, 0 ≤ p → p < zg v 16 8 → 0 ≤ zg v 37 (c * 6 + p) ∧ zg v 37 (c * 6 + p) ≤ 99) : zEv sc 64 d 0 [.ref 33, .ref 16, .ref 29, .ref 45, .int (zI y), zJ] [] (zmk v u) 0 0 (zPv fun v' u' =>
    (∀ a k, ¬ ADf c a k → v' a k = v a k) ∧ v' 34 (c * 6) = zI s ∧ v' 34 (c * 6 + 1) = zI f ∧ v' 34 (c * 6 + 2) = zI t ∧ v' 34 (c * 6 + 3) = zI y ∧ v' 34 (c * 6 + 4) = zI M ∧ v' 34 (c * 6 + 5) = toll (zg v 25) (zg v 24 3) (zg v 20) (zg v 19) f t M c sj M ∧
    (∀ j, 0 ≤ j → j < 8 → v' 36 (c * 8 + j) = v 46 j) ∧ zg v' 33 0 = c + 1 ∧
    (∀ p, 0 ≤ p → p < zg v 16 8 → zg v' 37 ((c + 1) * 6 + p) = prF (zg v 17 p) (zg v 30 p) (zg v 37 (c * 6 + p))) ∧
    (∀ k, u' 35 k = if k = c then lbit sj M else u 35 k) ∧ ∀ a k, ¬ a = 35 → u' a k = u a k) := by
  have e34 : ∀ (w : zV) (k : Int) (x : Int32) (a : Nat) (j : Int), ¬ a = 34 → zg (zu w 34 k x) a j = zg w a j := fun w k x a j h => zg_na h
  have f34 : ∀ (w : zV) (k : Int) (x : Int32) (a : Nat), ¬ a = 34 → zg (zu w 34 k x) a = zg w a := fun w k x a h => funext fun j => zg_na h
  refine e_al0 o64_0 (e_gI o64_1 L33 rfl 0 rfl ?_)
  rw [hc]
  refine e_bip o64_4 rfl (e_mul o64_6 (e_is5 o64_7 (e_al0 o64_9 (e_gR o64_10 L33 rfl rfl (e_il5 o64_13 (e_ico o64_15 (e_add o64_16 (e_al3 o64_17 (e_gI o64_18 L45 rfl 0 rfl ?_)))))))))
  rw [hs0]
  refine e_iast o64_21 L34 (by omega) (by omega) (e_al0 o64_22 (e_gR o64_23 L33 rfl rfl (e_il5 o64_26 (e_ico o64_28 (e_add o64_29 (e_al3 o64_30 (e_gI o64_31 L45 rfl 1 rfl ?_)))))))
  rw [e34 _ _ _ 45 1 (by decide), hf]
  refine e_iast o64_34 L34 (by omega) (by omega) (e_al0 o64_35 (e_gR o64_36 L33 rfl rfl (e_il5 o64_39 (e_ico o64_41 (e_add o64_42 (e_al3 o64_43 (e_gI o64_44 L45 rfl 2 rfl ?_)))))))
  rw [e34 _ _ _ 45 2 (by decide), e34 _ _ _ 45 2 (by decide), ht]
  refine e_iast o64_47 L34 (by omega) (by omega) (e_al0 o64_48 (e_gR o64_49 L33 rfl rfl (e_il5 o64_52 (e_ico o64_54 (e_add o64_55 (e_il4 o64_56 (e_iast o64_58 L34 (by omega) (by omega) (e_al0 o64_59 (e_gR o64_60 L33 rfl rfl (e_il5 o64_63 (e_ico o64_65 (e_add o64_66 (e_al3 o64_67 (e_gI o64_68 L45 rfl 3 rfl ?_))))))))))))))
  rw [e34 _ _ _ 45 3 (by decide), e34 _ _ _ 45 3 (by decide), e34 _ _ _ 45 3 (by decide), e34 _ _ _ 45 3 (by decide), hM]
  refine e_iast o64_71 L34 (by omega) (by omega) ?_
  obtain ⟨w, hw⟩ : ∃ w, w = zu (zu (zu (zu (zu v 34 (c * 6 + 0) (zI s)) 34 (c * 6 + 1) (zI f)) 34 (c * 6 + 2) (zI t)) 34 (c * 6 + 3) (zI y)) 34 (c * 6 + 4) (zI M) := ⟨_, rfl⟩
  have fw : ∀ a k, ¬ a = 34 → w a k = v a k := fun a k h => by rw [hw, zu_ne (fun e => h e.1), zu_ne (fun e => h e.1), zu_ne (fun e => h e.1), zu_ne (fun e => h e.1), zu_ne (fun e => h e.1)]
  have gw : ∀ a, ¬ a = 34 → zg w a = zg v a := fun a h => zg_fn fun k => fw a k h
  rw [← hw]
  refine e_al0 o64_72 (e_gR o64_73 L33 rfl rfl (e_il5 o64_76 (e_ico o64_78 (e_add o64_79 (e_al0 o64_80 (e_al1 o64_81 (e_al2 o64_82 (e_al3 o64_83 (e_Vi3 o64_84 K64 K65 rfl ⟨rfl, rfl⟩ (zrcv_I L33 rfl) (by omega) rfl (c65 (sj := sj) (f := f) (t := t) (M := M) (y := c) (by omega) (by rw [gw 25 (by decide), gw 24 (by decide)]; exact hW) (by rw [gw 45 (by decide)]; exact hf) (by rw [gw 45 (by decide)]; exact ht) (by rw [gw 45 (by decide)]; exact hM) (by rw [gw 33 (by decide)]; exact hc) c0 c1 t0 t1 M0 (by rw [gw 30 (by decide)]; exact M1) (by rw [gw 30 (by decide)]; exact (l1 t t0 t1).2) (by rw [gw 31 (by decide), gw 30 (by decide)]; exact hs)) ?_)))))))))
  rintro _ w2 u2 ⟨rfl, g2, g3, g4⟩
  rw [gw 25 (by decide), gw 24 (by decide), gw 20 (by decide), gw 19 (by decide)]
  refine e_iast o64_87 L34 (by omega) (by omega) ?_
  obtain ⟨w3, hw3⟩ : ∃ w3, w3 = zu w2 34 (c * 6 + 5) (toll (zg v 25) (zg v 24 3) (zg v 20) (zg v 19) f t M c sj M) := ⟨_, rfl⟩
  rw [← hw3]
  have f3 : ∀ a k, ¬ a = 34 → ¬ a = 26 → ¬ a = 27 → ¬ (a = 24 ∧ k = 4) → w3 a k = v a k := fun a k h1 h2 h3 h4 => by rw [hw3, zu_ne (fun e => h1 e.1), g2 a k h2 h3 h4, fw a k h1]
  have z33 : zg w3 33 0 = c := by simp only [zg]; rw [f3 33 0 (by omega) (by omega) (by omega) (by omega)]; exact hc
  refine e_al3 o64_88 (e_gR o64_89 L45 rfl rfl (e_ico o64_92 (e_al0 o64_93 (e_gR o64_94 L33 rfl rfl (e_al0 o64_97 (e_gI o64_98 L33 rfl 0 rfl ?_))))))
  rw [z33]
  refine e_bip o64_101 rfl (e_mul o64_103 (e_bip o64_104 rfl (e_cpy o64_106 (by omega) rfl L46 L36 (by omega) (by omega) (by omega) (by omega) (by omega) (e_al0 o64_109 (e_dupR o64_110 (e_gI o64_111 L33 rfl 0 rfl ?_))))))
  rw [show zg (zcp w3 46 36 0 (c * 8) 8) 33 0 = c by simp only [zg, zcp]; rw [if_neg (by omega)]; exact z33]
  refine e_ico o64_114 (e_add o64_115 (e_pI o64_116 L33 rfl rfl rfl rfl 0 rfl ?_))
  obtain ⟨w4, hw4⟩ : ∃ w4, w4 = zu (zcp w3 46 36 0 (c * 8) 8) 33 0 (zI (c + 1)) := ⟨_, rfl⟩
  rw [← hw4]
  have f4 : ∀ a k, ¬ a = 34 → ¬ a = 26 → ¬ a = 27 → ¬ (a = 24 ∧ k = 4) → ¬ (a = 36 ∧ c * 8 ≤ k ∧ k < c * 8 + 8) → ¬ (a = 33 ∧ k = 0) → w4 a k = v a k := fun a k h1 h2 h3 h4 h5 h6 => by rw [hw4, zu_ne h6, zcp, if_neg h5]; exact f3 a k h1 h2 h3 h4
  have g4' : ∀ a k, ¬ a = 34 → ¬ a = 26 → ¬ a = 27 → ¬ (a = 24 ∧ k = 4) → ¬ (a = 36 ∧ c * 8 ≤ k ∧ k < c * 8 + 8) → ¬ (a = 33 ∧ k = 0) → zg w4 a k = zg v a k := fun a k h1 h2 h3 h4 h5 h6 => by simp only [zg]; rw [f4 a k h1 h2 h3 h4 h5 h6]
  refine e_al0 o64_119 (e_al1 o64_120 (e_al2 o64_121 (e_Vv2 o64_122 K64 K66 rfl ⟨rfl, rfl⟩ (zrcv_I L33 rfl) (by omega) rfl (c66 (c := c + 1) (by omega) (by rw [hw4]; exact zg_same (by omega)) (by omega) (by omega) (WB_w3 (fun a k h1 h2 => f4 a k (by omega) (by omega) (by omega) (by omega) (by omega) (by omega)) hB) (fun p p0 p1 => by rw [g4' 30 p (by omega) (by omega) (by omega) (by omega) (by omega) (by omega)]; exact l1 p p0 p1) (fun p p0 p1 => by rw [g4' 16 8 (by omega) (by omega) (by omega) (by omega) (by omega) (by omega)] at p1; rw [g4' 37 _ (by omega) (by omega) (by omega) (by omega) (by omega) (by omega), show (c + 1) * 6 - 6 + p = c * 6 + p by omega]; exact hp p p0 p1)) ?_)))
  rintro w5 _ ⟨g5, g6, rfl⟩
  refine e_rV o64_125 K64 rfl rfl ?_
  have w34 : ∀ k, w4 34 k = w3 34 k := fun k => by rw [hw4, zu_ne (by omega), zcp, if_neg (by omega)]
  have z34 : ∀ k, w5 34 k = w3 34 k := fun k => by rw [g5 34 k (by omega), w34]
  have y34 : ∀ k, ¬ k = c * 6 + 5 → w3 34 k = w 34 k := fun k h => by rw [hw3, zu_ne (by omega), g2 34 k (by omega) (by omega) (by omega)]
  refine ⟨?_, ?_, ?_, ?_, ?_, ?_, ?_, ?_, ?_, ?_, g3, g4⟩
  · intro a k h
    unfold ADf at h
    by_cases ha : a = 34
    · subst ha
      rw [z34, y34 k (by omega), hw, zu_ne (by omega), zu_ne (by omega), zu_ne (by omega), zu_ne (by omega), zu_ne (by omega)]
    · rw [g5 a k (by omega)]
      exact f4 a k ha (by omega) (by omega) (by omega) (by omega) (by omega)
  · rw [z34, y34 _ (by omega), hw, zu_ne (by omega), zu_ne (by omega), zu_ne (by omega), zu_ne (by omega), show c * 6 + 0 = c * 6 by omega, zu_same]
  · rw [z34, y34 _ (by omega), hw, zu_ne (by omega), zu_ne (by omega), zu_ne (by omega), zu_same]
  · rw [z34, y34 _ (by omega), hw, zu_ne (by omega), zu_ne (by omega), zu_same]
  · rw [z34, y34 _ (by omega), hw, zu_ne (by omega), zu_same]
  · rw [z34, y34 _ (by omega), hw, zu_same]
  · rw [z34, hw3, zu_same]
  · intro j j0 j1
    rw [g5 36 _ (by omega), hw4, zu_ne (by omega), zcp, if_pos ⟨rfl, by omega, by omega⟩, show (0 : Int) + (c * 8 + j - c * 8) = j by omega]
    exact f3 46 j (by omega) (by omega) (by omega) (by omega)
  · simp only [zg]
    rw [g5 33 0 (by omega), hw4, zu_same, zI_to (by omega)]
  · intro p p0 p1
    have p1' : p < zg w4 16 8 := by rw [g4' 16 8 (by omega) (by omega) (by omega) (by omega) (by omega) (by omega)]; exact p1
    rw [g6 p p0 p1', g4' 17 _ (by omega) (by omega) (by omega) (by omega) (by omega) (by omega), g4' 30 _ (by omega) (by omega) (by omega) (by omega) (by omega) (by omega), g4' 37 _ (by omega) (by omega) (by omega) (by omega) (by omega) (by omega), show (c + 1) * 6 - 6 + p = c * 6 + p by omega]
end
