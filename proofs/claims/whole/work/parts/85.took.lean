/-! took -/
theorem eg_pos : ∀ (n : Nat) (x y : Int), 0 < x → 0 < eg n x y ∧ (0 ≤ y → y ≤ x → eg n x y ≤ x)
  | 0, x, y, h => ⟨h, fun _ _ => Int.le_refl _⟩
  | n + 1, x, y, h => by
    by_cases hy : y ≤ 0
    · rw [show eg (n + 1) x y = x from if_pos hy]; exact ⟨h, fun _ _ => Int.le_refl _⟩
    · rw [show eg (n + 1) x y = eg n y (x % y) from if_neg hy]
      obtain ⟨a, b⟩ := eg_pos n y (x % y) (by omega)
      refine ⟨a, fun h0 h1 => ?_⟩
      have c := b (Int.emod_nonneg x (show y ≠ 0 by omega)) (by have := Int.emod_lt_of_pos x (show 0 < y by omega); omega)
      omega
def tkA (own all w : Int) : Int := if own ≤ 0 then w else (if w = 0 then own else all) / max 1 (eg 64 all own)
def wtC (v : zV) (p k : Int) : Int := if zg v 34 (k * 6 + 1) = p ∧ 0 < zg v 34 (k * 6 + 4) then zg v 18 (zg v 34 (k * 6 + 2)) else 0
def woC (v : zV) (p s k : Int) : Int := if zg v 34 (k * 6 + 0) = s then wtC v p k else 0
theorem zsg_sub {f g : Int → Int} : ∀ k, 0 ≤ k → zsg (fun j => f j - g j) k = zsg f k - zsg g k := by
  refine zup ?_ ?_
  · rw [zsg_zero, zsg_zero, zsg_zero]; rfl
  · intro k k0 ih
    rw [zsg_succ k0, zsg_succ k0, zsg_succ k0, ih]
    omega
section
variable {sc : Nat × (Nat → Int32)} {d : Nat} {v v0 : zV} {u : zU}
theorem c126 {o a w : Int} (hd : 1 ≤ d) (h0 : 0 ≤ o) (h1 : o ≤ a) (h2 : a < 1000000) (hw : w = 0 ∨ w = 1) : zEv sc 126 d 0 [.int (zI o), .int (zI a), .int (zI w), zJ] [] (zmk v u) 0 0 (zis (zI (tkA o a w)) v u) := by
  refine e_il0 o126_0 (e_if_gt o126_1 6 rfl (by first | exact zg_rg _ _ _ | exact zt_rg _ | omega) (fun hb1 => ?_) (fun hb1 => ?_))
  · refine e_il1 o126_6 (e_il0 o126_7 (e_Si2 o126_8 K126 K127 rfl ⟨rfl, rfl⟩ (by omega) rfl (c127 h0 h1 h2) ?_))
    rintro _ _ _ ⟨rfl, rfl, rfl⟩
    obtain ⟨g1, g2⟩ := eg_pos 64 a o (by omega)
    have g3 := g2 h0 h1
    refine e_is3 o126_11 (e_il2 o126_12 (e_if_ne o126_13 20 rfl (by first | exact zg_rg _ _ _ | exact zt_rg _ | omega) (fun hb13 => ?_) (fun hb13 => ?_)))
    · refine e_il1 o126_20 (e_ico o126_21 (e_il3 o126_22 (e_max o126_23 (by omega) rfl (by first | exact zg_rg _ _ _ | exact zt_rg _ | omega) (by first | exact zg_rg _ _ _ | exact zt_rg _ | omega) (e_div o126_26 (by omega) (by omega) ?_))))
      refine e_rI o126_27 K126 rfl rfl ?_
      first | exact ⟨by rw [tkA, if_neg (by omega), if_pos hb13], rfl, rfl⟩ | exact ⟨by rw [tkA, if_neg (by omega), if_neg hb13], rfl, rfl⟩
    · refine e_il0 o126_16 (e_goto o126_17 21 rfl (e_ico o126_21 (e_il3 o126_22 (e_max o126_23 (by omega) rfl (by first | exact zg_rg _ _ _ | exact zt_rg _ | omega) (by first | exact zg_rg _ _ _ | exact zt_rg _ | omega) (e_div o126_26 (by omega) (by omega) ?_)))))
      refine e_rI o126_27 K126 rfl rfl ?_
      first | exact ⟨by rw [tkA, if_neg (by omega), if_pos hb13], rfl, rfl⟩ | exact ⟨by rw [tkA, if_neg (by omega), if_neg hb13], rfl, rfl⟩
  · refine e_il2 o126_4 ?_
    refine e_rI o126_5 K126 rfl rfl ?_
    exact ⟨by rw [tkA, if_pos hb1], rfl, rfl⟩
theorem c125 {p s a b w : Int} (hd : 9 ≤ d) (hp : -2147483648 ≤ p ∧ p < 2147483648) (hs : -2147483648 ≤ s ∧ s < 2147483648) (ha : -2147483648 ≤ a ∧ a < 2147483648) (hb : -2147483648 ≤ b ∧ b < 2147483648) (hw : -2147483648 ≤ w ∧ w < 2147483648) (hB : WB v) (hc : 0 ≤ zg v 33 0 ∧ zg v 33 0 ≤ 30) (hl : ∀ k, 0 ≤ k → k < zg v 33 0 → 0 ≤ zg v 34 (k * 6 + 2) ∧ zg v 34 (k * 6 + 2) < zg v 16 8) : zEv sc 125 d 0 [.ref 0, .int (zI p), .int (zI s), .int (zI a), .int (zI b), .int (zI w), zJ, zJ, zJ, zJ] [] (zmk v u) 0 0 (zPt (fun y w' t => (((0 ≤ p ∧ p < zg v 16 8) ∧ (0 ≤ s ∧ s < zg v 16 10) ∧ 0 ≤ w ∧ w < 2) ∧ 0 ≤ a ∧ a < b ∧ b ≤ zg v 33 0) ∧ zI (tkA (zsg (fun j => woC v p s (a + j)) (b - a)) (zsg (fun j => wtC v p (a + j)) (b - a)) w) = y ∧ v = w' ∧ u = t) (fun e w' t => ((¬ ((0 ≤ p ∧ p < zg v 16 8) ∧ (0 ≤ s ∧ s < zg v 16 10) ∧ 0 ≤ w ∧ w < 2) ∧ e = 0) ∨ (((0 ≤ p ∧ p < zg v 16 8) ∧ (0 ≤ s ∧ s < zg v 16 10) ∧ 0 ≤ w ∧ w < 2) ∧ ¬ (0 ≤ a ∧ a < b ∧ b ≤ zg v 33 0) ∧ e = 1)) ∧ v = w' ∧ u = t)) := by
  have b0 := hB.1
  have b2 := hB.2.2.1
  have wr : ∀ k, 0 ≤ k → k < zg v 33 0 → 0 ≤ wtC v p k ∧ wtC v p k ≤ 99 ∧ 0 ≤ woC v p s k ∧ woC v p s k ≤ wtC v p k := by
    intro k k0 k1
    have e := hl k k0 k1
    have e2 := (hB.2.2.2.1 _ e.1 e.2).2
    have q : 0 ≤ wtC v p k ∧ wtC v p k ≤ 99 := by unfold wtC; split <;> omega
    refine ⟨q.1, q.2, ?_⟩
    unfold woC
    split <;> omega
  have loop : ((0 ≤ p ∧ p < zg v 16 8) ∧ (0 ≤ s ∧ s < zg v 16 10) ∧ 0 ≤ w ∧ w < 2) → (0 ≤ a ∧ a < b ∧ b ≤ zg v 33 0) → ∀ k, 0 ≤ k → k ≤ b - a → ∀ z, zEv sc 125 d 61 [.ref 0, .int (zI p), .int (zI s), .int (zI a), .int (zI b), .int (zI w), .int (zI (zsg (fun j => wtC v p (a + j)) k)), .int (zI (zsg (fun j => woC v p s (a + j)) k)), .int (zI (a + k)), z] [] (zmk v u) 3 18 (zPt (fun y w' t => (((0 ≤ p ∧ p < zg v 16 8) ∧ (0 ≤ s ∧ s < zg v 16 10) ∧ 0 ≤ w ∧ w < 2) ∧ 0 ≤ a ∧ a < b ∧ b ≤ zg v 33 0) ∧ zI (tkA (zsg (fun j => woC v p s (a + j)) (b - a)) (zsg (fun j => wtC v p (a + j)) (b - a)) w) = y ∧ v = w' ∧ u = t) (fun e w' t => ((¬ ((0 ≤ p ∧ p < zg v 16 8) ∧ (0 ≤ s ∧ s < zg v 16 10) ∧ 0 ≤ w ∧ w < 2) ∧ e = 0) ∨ (((0 ≤ p ∧ p < zg v 16 8) ∧ (0 ≤ s ∧ s < zg v 16 10) ∧ 0 ≤ w ∧ w < 2) ∧ ¬ (0 ≤ a ∧ a < b ∧ b ≤ zg v 33 0) ∧ e = 1)) ∧ v = w' ∧ u = t)) := by
    intro o1 o2
    refine zloop ?_
    intro k k0 k1 ih z
    rw [zsg_succ k0, zsg_succ k0] at ih
    have mid : k < b - a → zEv sc 125 d 109 [.ref 0, .int (zI p), .int (zI s), .int (zI a), .int (zI b), .int (zI w), .int (zI (zsg (fun j => wtC v p (a + j)) k)), .int (zI (zsg (fun j => woC v p s (a + j)) k)), .int (zI (a + k)), z] [.int (zI (wtC v p (a + k)))] (zmk v u) 3 18 (zPt (fun y w' t => (((0 ≤ p ∧ p < zg v 16 8) ∧ (0 ≤ s ∧ s < zg v 16 10) ∧ 0 ≤ w ∧ w < 2) ∧ 0 ≤ a ∧ a < b ∧ b ≤ zg v 33 0) ∧ zI (tkA (zsg (fun j => woC v p s (a + j)) (b - a)) (zsg (fun j => wtC v p (a + j)) (b - a)) w) = y ∧ v = w' ∧ u = t) (fun e w' t => ((¬ ((0 ≤ p ∧ p < zg v 16 8) ∧ (0 ≤ s ∧ s < zg v 16 10) ∧ 0 ≤ w ∧ w < 2) ∧ e = 0) ∨ (((0 ≤ p ∧ p < zg v 16 8) ∧ (0 ≤ s ∧ s < zg v 16 10) ∧ 0 ≤ w ∧ w < 2) ∧ ¬ (0 ≤ a ∧ a < b ∧ b ≤ zg v 33 0) ∧ e = 1)) ∧ v = w' ∧ u = t)) := by
      intro hk
      have ih := ih hk
      refine e_is9 o125_109 (e_il6 o125_111 (e_il9 o125_113 (e_add o125_115 (e_is6 o125_116 (e_il7 o125_118 (e_al0 o125_120 (e_gR o125_121 L0 rfl rfl (e_gR o125_124 L28 rfl rfl (e_il8 o125_127 (e_ico o125_129 (e_Vi2 o125_130 K125 K55 rfl ⟨rfl, rfl⟩ (zrcv_I L33 rfl) (by omega) rfl (c55 (by omega) (by omega) (by omega) (by omega)) ?_)))))))))))
      rintro _ _ _ ⟨rfl, rfl, rfl⟩
      refine e_il2 o125_133 (e_ic_ne o125_134 142 rfl (by first | exact zg_rg _ _ _ | exact zt_rg _ | omega) (by first | exact zg_rg _ _ _ | exact zt_rg _ | omega) (fun hb134 => ?_) (fun hb134 => ?_))
      · refine e_ico o125_142 (e_add o125_143 (e_is7 o125_144 (e_inc8 o125_146 (e_goto o125_149 61 rfl ?_))))
        have e := ih (.int (zI (wtC v p (a + k))))
        rw [show woC v p s (a + k) = 0 from if_neg hb134, ← Int.add_assoc] at e
        exact e
      · refine e_il9 o125_137 (e_goto o125_139 143 rfl (e_add o125_143 (e_is7 o125_144 (e_inc8 o125_146 (e_goto o125_149 61 rfl ?_)))))
        have e := ih (.int (zI (wtC v p (a + k))))
        rw [show woC v p s (a + k) = wtC v p (a + k) from if_pos hb134, ← Int.add_assoc] at e
        exact e
    refine e_il8 o125_61 (e_il4 o125_63 (e_ic_ge o125_65 152 rfl (by first | exact zg_rg _ _ _ | exact zt_rg _ | omega) (by first | exact zg_rg _ _ _ | exact zt_rg _ | omega) (fun hb65 => ?_) (fun hb65 => ?_)))
    · have ek : k = b - a := by omega
      subst ek
      have q1 := zsg_le (f := fun j => wtC v p (a + j)) (c := 99) (b - a) (by omega) (fun j j0 j1 => by have := wr (a + j) (by omega) (by omega); exact ⟨this.1, this.2.1⟩)
      have q2 := zsg_le (f := fun j => woC v p s (a + j)) (c := 99) (b - a) (by omega) (fun j j0 j1 => by have := wr (a + j) (by omega) (by omega); omega)
      have q3 := zsg_le (f := fun j => wtC v p (a + j) - woC v p s (a + j)) (c := 99) (b - a) (by omega) (fun j j0 j1 => by have := wr (a + j) (by omega) (by omega); omega)
      rw [zsg_sub (b - a) (by omega)] at q3
      refine e_il7 o125_152 (e_il6 o125_154 (e_il5 o125_156 (e_Si3 o125_158 K125 K126 rfl ⟨rfl, rfl⟩ (by omega) rfl (c126 (by omega) (by omega) (by omega) (by omega) (by omega)) ?_)))
      rintro _ _ _ ⟨rfl, rfl, rfl⟩
      refine e_rT o125_161 K125 rfl rfl ?_
      exact ⟨⟨o1, o2⟩, rfl, rfl, rfl⟩
    · refine e_al0 o125_68 (e_gR o125_69 L0 rfl rfl (e_gR o125_72 L28 rfl rfl (e_il8 o125_75 (e_il1 o125_77 (e_Vi2 o125_78 K125 K69 rfl ⟨rfl, rfl⟩ (zrcv_I L33 rfl) (by omega) rfl (c69 (by omega) (by omega) (by omega) hp) ?_)))))
      rintro _ _ _ ⟨rfl, rfl, rfl⟩
      refine e_bz_eq o125_81 108 rfl (fun hb81 => ?_) (fun hb81 => ?_)
      · refine e_ico o125_108 ?_
        have e := mid (by omega)
        rw [show wtC v p (a + k) = 0 from if_neg hb81] at e
        exact e
      · refine e_al0 o125_84 (e_gR o125_85 L0 rfl rfl (e_gR o125_88 L16 rfl rfl (e_al0 o125_91 (e_gR o125_92 L0 rfl rfl (e_gR o125_95 L28 rfl rfl (e_il8 o125_98 (e_ico o125_100 (e_Vi2 o125_101 K125 K55 rfl ⟨rfl, rfl⟩ (zrcv_I L33 rfl) (by omega) rfl (c55 (by omega) (by omega) (by omega) (by omega)) ?_))))))))
        rintro _ _ _ ⟨rfl, rfl, rfl⟩
        refine e_ial o125_104 L18 (by have e := hl (a + k) (by omega) (by omega); omega) (by have e := hl (a + k) (by omega) (by omega); omega) (e_goto o125_105 109 rfl ?_)
        have e := mid (by omega)
        rw [show wtC v p (a + k) = zg v 18 (zg v 34 ((a + k) * 6 + 2)) from if_pos hb81] at e
        exact e
  refine e_al0 o125_0 (e_il1 o125_1 ?_)
  refine e_V (as := [_]) o125_2 K125 K109 rfl (zrcv_I L0 rfl) (by omega) rfl rfl (c109 (by omega) hp) (zaf_S (kc' := 1) (ks' := 6) rfl rfl rfl ?_ (fun e w' t he ht => by obtain ⟨h1, rfl, rfl, rfl⟩ := ht; exact zPt_thr (by decide) ⟨Or.inl ⟨by omega, rfl⟩, rfl, rfl⟩))
  rintro _ _ ⟨h2, rfl, rfl⟩
  refine e_al0 o125_5 (e_il2 o125_6 ?_)
  refine e_V (as := [_]) o125_7 K125 K114 rfl (zrcv_I L0 rfl) (by omega) rfl rfl (c114 (by omega) hs) (zaf_S (kc' := 2) (ks' := 12) rfl rfl rfl ?_ (fun e w' t he ht => by obtain ⟨h1, rfl, rfl, rfl⟩ := ht; exact zPt_thr (by decide) ⟨Or.inl ⟨by omega, rfl⟩, rfl, rfl⟩))
  rintro _ _ ⟨h7, rfl, rfl⟩
  refine e_il5 o125_10 (e_ico o125_12 ?_)
  refine e_S (as := [_, _]) o125_13 K125 K117 rfl (by omega) rfl rfl (c117 (by omega) hw (by omega)) (zaf_S (kc' := 3) (ks' := 18) rfl rfl rfl ?_ (fun e w' t he ht => by obtain ⟨h1, rfl, rfl, rfl⟩ := ht; exact zPt_thr (by decide) ⟨Or.inl ⟨by omega, rfl⟩, rfl, rfl⟩))
  rintro _ _ ⟨h13, rfl, rfl⟩
  refine e_il3 o125_16 (e_if_lt o125_17 41 rfl (by first | exact zg_rg _ _ _ | exact zt_rg _ | omega) (fun hb17 => ?_) (fun hb17 => ?_))
  · refine e_throw 1 o125_41 K125 (s := 29) rfl rfl (by omega) o125_44 (Or.inr ⟨o125_45, o125_48, o125_51⟩) ?_
    exact zPt_thr (by decide) ⟨Or.inr ⟨⟨h2, h7, h13⟩, by omega, rfl⟩, rfl, rfl⟩
  · refine e_il4 o125_20 (e_al0 o125_22 (e_gR o125_23 L0 rfl rfl (e_gR o125_26 L28 rfl rfl (e_gI o125_29 L33 rfl 0 rfl (e_ic_gt o125_32 41 rfl (by first | exact zg_rg _ _ _ | exact zt_rg _ | omega) (by first | exact zg_rg _ _ _ | exact zt_rg _ | omega) (fun hb32 => ?_) (fun hb32 => ?_))))))
    · refine e_throw 1 o125_41 K125 (s := 29) rfl rfl (by omega) o125_44 (Or.inr ⟨o125_45, o125_48, o125_51⟩) ?_
      exact zPt_thr (by decide) ⟨Or.inr ⟨⟨h2, h7, h13⟩, by omega, rfl⟩, rfl, rfl⟩
    · refine e_il4 o125_35 (e_il3 o125_37 (e_ic_gt o125_38 52 rfl (by first | exact zg_rg _ _ _ | exact zt_rg _ | omega) (by first | exact zg_rg _ _ _ | exact zt_rg _ | omega) (fun hb38 => ?_) (fun hb38 => ?_)))
      · refine e_ico o125_52 (e_is6 o125_53 (e_ico o125_55 (e_is7 o125_56 (e_il3 o125_58 (e_is8 o125_59 ?_)))))
        have e := loop ⟨h2, h7, h13⟩ ⟨by omega, by omega, by omega⟩ 0 (by omega) (by omega) zJ
        rw [Int.add_zero] at e
        exact e
      · refine e_throw 1 o125_41 K125 (s := 29) rfl rfl (by omega) o125_44 (Or.inr ⟨o125_45, o125_48, o125_51⟩) ?_
        exact zPt_thr (by decide) ⟨Or.inr ⟨⟨h2, h7, h13⟩, by omega, rfl⟩, rfl, rfl⟩
end
