/-! streets of the class -/
def fu (f : Int → Int) (s x : Int) : Int → Int := fun t => if t = s then x else f t
theorem fu_same (f : Int → Int) (s x : Int) : fu f s x s = x := by simp [fu]
theorem fu_ne {f : Int → Int} {s x t : Int} (h : ¬ t = s) : fu f s x t = f t := by simp [fu, h]
theorem zsg_upd {f g : Int → Int} {s : Int} (hs : 0 ≤ s) (h : ∀ t, 0 ≤ t → ¬ t = s → f t = g t) : ∀ n, 0 ≤ n → zsg f n = zsg g n + (if s < n then f s - g s else 0) := by
  refine zup ?_ ?_
  · rw [zsg_zero, zsg_zero, if_neg (by omega)]; rfl
  · intro k h0 ih
    rw [zsg_succ h0, zsg_succ h0, ih]
    by_cases e : k = s
    · subst e
      rw [if_neg (by omega), if_pos (by omega)]
      omega
    · rw [h k h0 e]
      by_cases l : s < k
      · rw [if_pos l, if_pos (by omega)]; omega
      · rw [if_neg l, if_neg (by omega)]; omega
def cnt (P : Int → Int) (p n : Int) : Int := zsg (fun s => if P s = p then 1 else 0) n
def cnt2 (P O : Int → Int) (p o n : Int) : Int := zsg (fun s => if P s = p ∧ O s = o then 1 else 0) n
theorem cnt_fu {P : Int → Int} {s q p n : Int} (h0 : 0 ≤ s) (h1 : s < n) : cnt (fu P s q) p n = cnt P p n - (if P s = p then 1 else 0) + (if q = p then 1 else 0) := by
  unfold cnt
  rw [zsg_upd (g := fun s => if P s = p then 1 else 0) h0 (fun t t0 t1 => by simp only [fu_ne t1]) n (by omega), if_pos h1]
  simp only [fu_same]
  omega
theorem cnt2_fu {P O : Int → Int} {s q p o n : Int} (h0 : 0 ≤ s) (h1 : s < n) : cnt2 (fu P s q) O p o n = cnt2 P O p o n - (if P s = p ∧ O s = o then 1 else 0) + (if q = p ∧ O s = o then 1 else 0) := by
  unfold cnt2
  rw [zsg_upd (g := fun s => if P s = p ∧ O s = o then 1 else 0) h0 (fun t t0 t1 => by simp only [fu_ne t1]) n (by omega), if_pos h1]
  simp only [fu_same]
  omega
theorem cnt_rg {P : Int → Int} {p n : Int} (h : 0 ≤ n) : 0 ≤ cnt P p n ∧ cnt P p n ≤ n := by
  have := zsg_le (f := fun s => if P s = p then 1 else 0) (c := 1) n h (fun j _ _ => by split <;> omega)
  unfold cnt
  omega
theorem cnt2_rg {P O : Int → Int} {p o n : Int} (h : 0 ≤ n) : 0 ≤ cnt2 P O p o n ∧ cnt2 P O p o n ≤ n := by
  have := zsg_le (f := fun s => if P s = p ∧ O s = o then 1 else 0) (c := 1) n h (fun j _ _ => by split <;> omega)
  unfold cnt2
  omega
/-- one stone lies elsewhere: there is room -/
theorem cnt_lt {P : Int → Int} {s p n : Int} (h0 : 0 ≤ s) (h1 : s < n) (hp : ¬ P s = p) : cnt P p n < n := by
  have h := cnt_fu (P := P) (q := p) (p := p) h0 h1
  rw [if_neg hp, if_pos rfl] at h
  have h2 := cnt_rg (P := fu P s p) (p := p) (n := n) (by omega)
  omega
theorem cnt_pos {P : Int → Int} {s p n : Int} (h0 : 0 ≤ s) (h1 : s < n) (hp : P s = p) : 0 < cnt P p n := by
  have h := cnt_fu (P := P) (q := p + 1) (p := p) h0 h1
  rw [if_pos hp, if_neg (by omega)] at h
  have h2 := cnt_rg (P := fu P s (p + 1)) (p := p) (n := n) (by omega)
  omega
theorem cnt2_pos {P O : Int → Int} {s p o n : Int} (h0 : 0 ≤ s) (h1 : s < n) (hp : P s = p) (ho : O s = o) : 0 < cnt2 P O p o n := by
  have h := cnt2_fu (P := P) (O := O) (q := p + 1) (p := p) (o := o) h0 h1
  rw [if_pos ⟨hp, ho⟩, if_neg (by omega)] at h
  have h2 := cnt2_rg (P := fu P s (p + 1)) (O := O) (p := p) (o := o) (n := n) (by omega)
  omega
/-- what a text told, as far as streets need it -/
def WF (v : zV) : Prop := 0 ≤ zg v 16 9 ∧ zg v 16 9 ≤ 40 ∧ ∀ s, 0 ≤ s → s < zg v 16 9 → 0 ≤ zg v 19 s ∧ zg v 19 s < 6
/-- the class's streets hold each stone s in the port P s at the place L s (aside: -1) -/
def CS (v : zV) (P L : Int → Int) : Prop :=
  (∀ s, 0 ≤ s → s < zg v 16 9 → P s = -1 ∨ (0 ≤ P s ∧ P s < 6 ∧ 0 ≤ L s ∧ L s < zg v 30 (P s) ∧ zg v 31 (P s * 40 + L s) = s)) ∧
  (∀ p, 0 ≤ p → p < 6 → zg v 30 p = cnt P p (zg v 16 9)) ∧
  (∀ p, 0 ≤ p → p < 6 → ∀ i, 0 ≤ i → i < zg v 30 p → 0 ≤ zg v 31 (p * 40 + i) ∧ zg v 31 (p * 40 + i) < zg v 16 9 ∧ P (zg v 31 (p * 40 + i)) = p ∧ L (zg v 31 (p * 40 + i)) = i) ∧
  (∀ p o, 0 ≤ p → p < 6 → 0 ≤ o → o < 6 → zg v 32 (p * 6 + o) = cnt2 P (zg v 19) p o (zg v 16 9)) ∧
  ∀ s, (s < 0 ∨ zg v 16 9 ≤ s) → P s = -1 ∧ L s = 0
theorem CS.len {v : zV} {P L : Int → Int} (h : CS v P L) (w : WF v) {p : Int} (h0 : 0 ≤ p) (h1 : p < 6) : 0 ≤ zg v 30 p ∧ zg v 30 p ≤ 40 := by
  rw [h.2.1 p h0 h1]
  have := cnt_rg (P := P) (p := p) w.1
  have := w.2.1
  omega
def shU (v : zV) (lo hi : Int) : zV := fun a k => if a = 31 ∧ lo ≤ k ∧ k < hi then v 31 (k + 1) else v a k
def shD (v : zV) (lo hi : Int) : zV := fun a k => if a = 31 ∧ lo < k ∧ k ≤ hi then v 31 (k - 1) else v a k
theorem shU_na {v : zV} {lo hi k : Int} {a : Nat} (h : ¬ a = 31) : zg (shU v lo hi) a k = zg v a k := by simp [zg, shU, h]
theorem shD_na {v : zV} {lo hi k : Int} {a : Nat} (h : ¬ a = 31) : zg (shD v lo hi) a k = zg v a k := by simp [zg, shD, h]
theorem shU_step {V : zV} {lo m : Int} (h : lo ≤ m) : shU V lo (m + 1) = zu (shU V lo m) 31 m (shU V lo m 31 (m + 1)) := by
  funext a j
  simp only [shU, zu]
  grind
def lifV (v : zV) (p i : Int) : zV := zu (shU (zu v 30 p (zI (zg v 30 p - 1))) (p * 40 + i) (p * 40 + (zg v 30 p - 1))) 32 (p * 6 + zg v 19 (zg v 31 (p * 40 + i))) (zI (zg v 32 (p * 6 + zg v 19 (zg v 31 (p * 40 + i))) - 1))
def insV (v : zV) (p i s : Int) : zV := zu (zu (zu (shD v (p * 40 + i) (p * 40 + zg v 30 p)) 31 (p * 40 + i) (zI s)) 30 p (zI (zg v 30 p + 1))) 32 (p * 6 + zg v 19 s) (zI (zg v 32 (p * 6 + zg v 19 s) + 1))
section
variable {sc : Nat × (Nat → Int32)} {d : Nat} {v : zV} {u : zU}
theorem c17 {p i : Int} (h0 : 0 ≤ p) (h1 : p < 6) (h2 : 0 ≤ i) (h3 : i < zg v 30 p) (h4 : zg v 30 p ≤ 40) (hs : 0 ≤ zg v 31 (p * 40 + i)) (hs1 : zg v 31 (p * 40 + i) < 40) (ho : 0 ≤ zg v 19 (zg v 31 (p * 40 + i))) (ho1 : zg v 19 (zg v 31 (p * 40 + i)) < 6) : zEv sc 17 d 0 [.ref 29, .ref 16, .int (zI p), .int (zI i), zJ, zJ, zJ] [] (zmk v u) 0 0 (zis (zI (zg v 31 (p * 40 + i))) (lifV v p i) u) := by
  have loop : ∀ k, 0 ≤ k → k ≤ zg v 30 p - 1 → i ≤ k → zEv sc 17 d 30 [.ref 29, .ref 16, .int (zI p), .int (zI i), .int (zI (p * 40)), .int (zI (zg v 31 (p * 40 + i))), .int (zI k)] [] (zmk (shU (zu v 30 p (zI (zg v 30 p - 1))) (p * 40 + i) (p * 40 + k)) u) 0 0 (zis (zI (zg v 31 (p * 40 + i))) (lifV v p i) u) := by
    refine zloop ?_
    intro k k0 k1 ih ik
    have e30 : zg (shU (zu v 30 p (zI (zg v 30 p - 1))) (p * 40 + i) (p * 40 + k)) 30 p = zg v 30 p - 1 := by
      rw [shU_na (by decide), zg_same (by omega)]
    refine e_il6 o17_30 (e_al0 o17_32 (e_gR o17_33 L29 rfl rfl (e_il2 o17_36 (e_ial o17_37 L30 (by omega) (by omega) ?_))))
    rw [e30]
    refine e_ic_ge o17_38 69 rfl (by first | exact zg_rg _ _ _ | exact zt_rg _ | omega) (by first | exact zg_rg _ _ _ | exact zt_rg _ | omega) (fun hb38 => ?_) (fun hb38 => ?_)
    · refine e_al0 o17_69 (e_gR o17_70 L29 rfl rfl (e_il2 o17_73 (e_bip o17_74 rfl (e_mul o17_76 (e_al1 o17_77 (e_gR o17_78 L16 rfl rfl (e_il5 o17_81 (e_ial o17_83 L19 (by omega) (by omega) (e_add o17_84 (e_dup2 o17_85 (e_ial o17_86 L32 (by rw [shU_na (by decide), zg_na (by decide)]; omega) (by rw [shU_na (by decide), zg_na (by decide)]; omega) (e_ico o17_87 (e_sub o17_88 (e_iast o17_89 L32 (by rw [shU_na (by decide), zg_na (by decide)]; omega) (by rw [shU_na (by decide), zg_na (by decide)]; omega) (e_il5 o17_90 ?_)))))))))))))))
      refine e_rI o17_92 K17 rfl rfl ?_
      have e : k = zg v 30 p - 1 := by omega
      subst e
      refine ⟨rfl, ?_, rfl⟩
      rw [shU_na (by decide), shU_na (by decide), zg_na (by decide), zg_na (by decide)]
      rfl
    · refine e_al0 o17_41 (e_gR o17_42 L29 rfl rfl (e_il4 o17_45 (e_il6 o17_47 (e_add o17_49 (e_al0 o17_50 (e_gR o17_51 L29 rfl rfl (e_il4 o17_54 (e_il6 o17_56 (e_add o17_58 (e_ico o17_59 (e_add o17_60 (e_ial o17_61 L31 (by omega) (by omega) (e_iast o17_62 L31 (by omega) (by omega) (e_inc6 o17_63 (e_goto o17_66 30 rfl ?_)))))))))))))))
      have e := ih (by omega) (by omega)
      refine zEv_w e ?_
      rw [zI_g, ← Int.add_assoc, shU_step (by omega)]
  refine e_il2 o17_0 (e_bip o17_1 rfl (e_mul o17_3 (e_is4 o17_4 (e_al0 o17_6 (e_gR o17_7 L29 rfl rfl (e_il4 o17_10 (e_il3 o17_12 (e_add o17_13 (e_ial o17_14 L31 (by omega) (by omega) (e_is5 o17_15 (e_al0 o17_17 (e_gR o17_18 L29 rfl rfl (e_il2 o17_21 (e_dup2 o17_22 (e_ial o17_23 L30 (by omega) (by omega) (e_ico o17_24 (e_sub o17_25 (e_iast o17_26 L30 (by omega) (by omega) (e_il3 o17_27 (e_is6 o17_28 ?_))))))))))))))))))))
  have e := loop i h2 (by omega) (by omega)
  rw [show shU (zu v 30 p (zI (zg v 30 p - 1))) (p * 40 + i) (p * 40 + i) = zu v 30 p (zI (zg v 30 p - 1)) from by funext a j; simp only [shU]; rw [if_neg (by omega)]] at e
  exact e
theorem c18 {p i s : Int} (h0 : 0 ≤ p) (h1 : p < 6) (h2 : 0 ≤ i) (h3 : i ≤ zg v 30 p) (h4 : zg v 30 p < 40) (hs : 0 ≤ s) (hs1 : s < 40) (ho : 0 ≤ zg v 19 s) (ho1 : zg v 19 s < 6) : zEv sc 18 d 0 [.ref 29, .ref 16, .int (zI p), .int (zI i), .int (zI s), zJ, zJ] [] (zmk v u) 0 0 (zdo (insV v p i s) u) := by
  have loop : ∀ k, -1 ≤ k → i ≤ k → k ≤ zg v 30 p → zEv sc 18 d 40 [.ref 29, .ref 16, .int (zI p), .int (zI i), .int (zI s), .int (zI (p * 40)), .int (zI k)] [] (zmk (shD v (p * 40 + k) (p * 40 + zg v 30 p)) u) 0 0 (zdo (insV v p i s) u) := by
    refine zloopD ?_
    intro k k0 ih ik k1
    refine e_il6 o18_40 (e_il3 o18_42 (e_ic_le o18_43 74 rfl (by first | exact zg_rg _ _ _ | exact zt_rg _ | omega) (by first | exact zg_rg _ _ _ | exact zt_rg _ | omega) (fun hb43 => ?_) (fun hb43 => ?_)))
    · have e : k = i := by omega
      subst e
      refine e_al0 o18_74 (e_gR o18_75 L29 rfl rfl (e_il5 o18_78 (e_il3 o18_80 (e_add o18_81 (e_il4 o18_82 (e_iast o18_84 L31 (by omega) (by omega) (e_al0 o18_85 (e_gR o18_86 L29 rfl rfl (e_il2 o18_89 (e_dup2 o18_90 (e_ial o18_91 L30 (by omega) (by omega) (e_ico o18_92 (e_add o18_93 (e_iast o18_94 L30 (by omega) (by omega) (e_al0 o18_95 (e_gR o18_96 L29 rfl rfl (e_il2 o18_99 (e_bip o18_100 rfl (e_mul o18_102 (e_al1 o18_103 (e_gR o18_104 L16 rfl rfl (e_il4 o18_107 (e_ial o18_109 L19 (by omega) (by omega) ?_)))))))))))))))))))))))
      rw [zg_na (by decide), zg_na (by decide), shD_na (by decide)]
      refine e_add o18_110 (e_dup2 o18_111 (e_ial o18_112 L32 (by omega) (by omega) (e_ico o18_113 (e_add o18_114 (e_iast o18_115 L32 (by omega) (by omega) ?_)))))
      refine e_rV o18_116 K18 rfl rfl ?_
      refine ⟨?_, rfl⟩
      rw [zg_na (by decide), zg_na (by decide), zg_na (by decide), shD_na (by decide), shD_na (by decide)]
      rfl
    · refine e_al0 o18_46 (e_gR o18_47 L29 rfl rfl (e_il5 o18_50 (e_il6 o18_52 (e_add o18_54 (e_al0 o18_55 (e_gR o18_56 L29 rfl rfl (e_il5 o18_59 (e_il6 o18_61 (e_add o18_63 (e_ico o18_64 (e_sub o18_65 (e_ial o18_66 L31 (by omega) (by omega) (e_iast o18_67 L31 (by omega) (by omega) (e_inc6 o18_68 (e_goto o18_71 40 rfl ?_)))))))))))))))
      have e := ih (by omega) (by omega) (by omega)
      refine zEv_w e ?_
      rw [zI_g]
      funext a j
      simp only [shD, zu]
      by_cases ha : a = 31
      · subst ha
        by_cases hj : j = p * 40 + k
        · subst hj
          rw [if_pos ⟨rfl, by omega, by omega⟩, if_pos ⟨rfl, rfl⟩, if_neg (by omega)]
        · rw [if_neg (show ¬ (31 = 31 ∧ j = p * 40 + k) by omega)]
          by_cases hl : p * 40 + k < j ∧ j ≤ p * 40 + zg v 30 p
          · rw [if_pos (show 31 = 31 ∧ p * 40 + (k + -1) < j ∧ j ≤ p * 40 + zg v 30 p by omega), if_pos ⟨rfl, by omega, by omega⟩]
          · rw [if_neg (show ¬ (31 = 31 ∧ p * 40 + (k + -1) < j ∧ j ≤ p * 40 + zg v 30 p) by omega), if_neg (by omega)]
      · rw [if_neg (fun h => ha h.1), if_neg (fun h => ha h.1), if_neg (fun h => ha h.1)]
  refine e_al0 o18_0 (e_gR o18_1 L29 rfl rfl (e_il2 o18_4 (e_ial o18_5 L30 (by omega) (by omega) (e_bip o18_6 rfl (e_ic_ge o18_8 25 rfl (by first | exact zg_rg _ _ _ | exact zt_rg _ | omega) (by first | exact zg_rg _ _ _ | exact zt_rg _ | omega) (fun hb8 => ?_) (fun hb8 => ?_))))))
  · omega
  · refine e_il3 o18_11 (e_if_lt o18_12 25 rfl (by first | exact zg_rg _ _ _ | exact zt_rg _ | omega) (fun hb12 => ?_) (fun hb12 => ?_))
    · omega
    · refine e_il3 o18_15 (e_al0 o18_16 (e_gR o18_17 L29 rfl rfl (e_il2 o18_20 (e_ial o18_21 L30 (by omega) (by omega) (e_ic_le o18_22 26 rfl (by first | exact zg_rg _ _ _ | exact zt_rg _ | omega) (by first | exact zg_rg _ _ _ | exact zt_rg _ | omega) (fun hb22 => ?_) (fun hb22 => ?_))))))
      · refine e_il2 o18_26 (e_bip o18_27 rfl (e_mul o18_29 (e_is5 o18_30 (e_al0 o18_32 (e_gR o18_33 L29 rfl rfl (e_il2 o18_36 (e_ial o18_37 L30 (by omega) (by omega) (e_is6 o18_38 ?_))))))))
        have e := loop (zg v 30 p) (by omega) (by omega) (by omega)
        rw [show shD v (p * 40 + zg v 30 p) (p * 40 + zg v 30 p) = v from by funext a j; simp only [shD]; rw [if_neg (by omega)]] at e
        exact e
      · omega
end
