/-! the class's search -/
/-- what the search keeps: n legs, port p (or -1: what was read) -/
def JC (n p : Int) (A : zBA × Int) (w : zV) : Prop :=
  zg w 66 3 = p ∧ (¬ p = -1 → (A.1 = none ∧ zg w 66 4 = -1) ∨ ∃ r, A.1 = some r ∧ 0 ≤ r.1 ∧ zg w 66 4 = r.1 ∧ zg w 66 5 = r.2.1 ∧ ∀ i, 0 ≤ i → i < n → zg w 67 i = r.2.2 i) ∧
  (p = -1 → zg w 66 6 = A.2 ∧ ((A.1 = none ∧ A.2 = 0) ∨ ∃ r, A.1 = some r ∧ (r.1 = 0 ∧ r.2.1 = 0 ∧ 0 < A.2) ∧ ∀ i, 0 ≤ i → i < n → zg w 67 i = r.2.2 i))
section
variable {sc : Nat × (Nat → Int32)} {d : Nat} {v v0 w : zV} {u : zU}
theorem zcp_n {a b c : Nat} {s t n k : Int} (h : ¬ c = b) : zg (zcp v a b s t n) c k = zg v c k := by
  simp only [zg, zcp]; rw [if_neg (fun e => h e.1)]
theorem zcp_y {a b : Nat} {s t n k : Int} (h0 : t ≤ k) (h1 : k < t + n) : zg (zcp v a b s t n) b k = zg v a (s + (k - t)) := by
  simp only [zg, zcp]; rw [if_pos ⟨trivial, h0, h1⟩]
theorem c6 (hd : 1 ≤ d) : zEv sc 6 d 0 [.ref 66] [] (zmk v u) 0 0 (zdo (zcp v 68 67 0 0 4) u) := by
  refine e_al0 o6_0 (e_gR o6_1 L66 rfl rfl (e_ico o6_4 (e_al0 o6_5 (e_gR o6_6 L66 rfl rfl (e_ico o6_9 (e_ico o6_10 (e_cpy o6_11 (by omega) rfl L68 L67 (by omega) (by omega) (by omega) (by omega) (by omega) ?_)))))))
  refine e_rV o6_14 K6 rfl rfl ?_
  exact ⟨rfl, rfl⟩
theorem mudC_mdX {x : zPL} {p : Int} (hC : CS w x.1 x.2) (p0 : 0 ≤ p) (p1 : p < 6) : mudC w p = mdX w x p := by
  unfold mudC mdX
  rw [hC.2.1 p p0 p1]
theorem mdX_rg {x : zPL} {p : Int} (hB : WB w) (p0 : 0 ≤ p) (p1 : p < zg w 16 8) : 0 ≤ mdX w x p ∧ mdX w x p ≤ 40 := by
  unfold mdX
  have := hB.2.2.2.1 p p0 p1
  have := cnt_rg (P := x.1) (p := p) (n := zg w 16 9) hB.2.1.1
  omega
theorem c5 {p n : Int} {A : zBA × Int} {x : zPL} {c : Int → Int} (hd : 3 ≤ d) (hB : WB w) (hC : CS w x.1 x.2) (p0 : 0 ≤ p) (p1 : p < zg w 16 8) (hJ : JC n p A w) (hn : zg w 28 9 = n) (n0 : 0 ≤ n) (n4 : n ≤ 4) (hc : ∀ j, 0 ≤ j → j < n → zg w 68 j = c j ∧ 0 ≤ c j ∧ c j ≤ 8) : zEv sc 5 d 0 [.ref 66, .ref 16, .ref 28, zJ, zJ, zJ] [] (zmk w u) 0 0 (zPv fun w' u' => JC n p (bad2 (if 0 < mdX w x p then none else some (zsg (mdX w x) (zg w 16 8), zsg c n, c), if (if 0 < mdX w x p then none else some (zsg (mdX w x) (zg w 16 8), zsg c n, c) : zBA) = none then 0 else 1) A) w' ∧ (∀ a q, ¬ (a = 66 ∧ (q = 4 ∨ q = 5)) → ¬ a = 67 → w' a q = w a q) ∧ u = u') := by
  have b0 := hB.1
  have hl := fun q (h0 : 0 ≤ q) (h1 : q < 6) => hC.len hB.wf h0 h1
  have hnd : ∀ q, 0 ≤ q → q < zg w 16 8 → 0 ≤ zg w 17 q ∧ zg w 17 q ≤ 40 := fun q h0 h1 => (hB.2.2.2.1 q h0 h1).1
  obtain ⟨j1, j2, j3⟩ := hJ
  have j2 := j2 (by omega)
  have hM := zsg_le (f := mdX w x) (c := 40) (zg w 16 8) b0.1 (fun q q0 q1 => mdX_rg hB q0 q1)
  have hG := zsg_le (f := c) (c := 8) n n0 (fun q q0 q1 => (hc q q0 q1).2)
  have keep : ¬ 0 < mdX w x p → (A.1 = none ∨ ∃ r, A.1 = some r ∧ (zsg (mdX w x) (zg w 16 8) < r.1 ∨ (zsg (mdX w x) (zg w 16 8) = r.1 ∧ r.2.1 ≤ zsg c n))) → zEv sc 5 d 91 [.ref 66, .ref 16, .ref 28, .int (zI (zsg (mdX w x) (zg w 16 8))), .int (zI (zsg c n)), .int (zI n)] [] (zmk w u) 0 0 (zPv fun w' u' => JC n p (bad2 (if 0 < mdX w x p then none else some (zsg (mdX w x) (zg w 16 8), zsg c n, c), if (if 0 < mdX w x p then none else some (zsg (mdX w x) (zg w 16 8), zsg c n, c) : zBA) = none then 0 else 1) A) w' ∧ (∀ a q, ¬ (a = 66 ∧ (q = 4 ∨ q = 5)) → ¬ a = 67 → w' a q = w a q) ∧ u = u') := by
    intro hm ha
    have eA : (bad2 (if 0 < mdX w x p then none else some (zsg (mdX w x) (zg w 16 8), zsg c n, c), if (if 0 < mdX w x p then none else some (zsg (mdX w x) (zg w 16 8), zsg c n, c) : zBA) = none then 0 else 1) A).1 = some (zsg (mdX w x) (zg w 16 8), zsg c n, c) := by
      unfold bad2
      dsimp only
      rw [if_neg hm]
      rcases ha with e | ⟨r, e, h⟩
      · rw [e, bop_r]
      · rw [e]
        simp only [bop]
        rw [if_neg (by omega)]
    refine e_al0 o5_91 (e_il3 o5_92 (e_pI o5_93 L66 rfl rfl rfl rfl 4 rfl (e_al0 o5_96 (e_il4 o5_97 (e_pI o5_99 L66 rfl rfl rfl rfl 5 rfl (e_al0 o5_102 (e_Vv0 o5_103 K5 K6 rfl ⟨rfl, rfl⟩ (zrcv_I L66 rfl) (by omega) rfl (c6 (by omega)) ?_)))))))
    rintro _ _ ⟨rfl, rfl⟩
    refine e_rV o5_106 K5 rfl rfl ?_
    refine ⟨⟨?_, fun _ => Or.inr ⟨_, eA, ?_, ?_, ?_, ?_⟩, fun e => absurd e (by omega)⟩, ?_, rfl⟩
    · rw [zcp_n (by decide), zg_ne (by omega), zg_ne (by omega)]; exact j1
    · exact hM.1
    · rw [zcp_n (by decide), zg_ne (by omega), zg_same (by omega)]
    · rw [zcp_n (by decide), zg_same (by omega)]
    · intro i i0 i1
      rw [zcp_y (by omega) (by omega), show 0 + (i - 0) = i by omega, zg_ne (by omega), zg_ne (by omega)]
      exact (hc i i0 i1).1
    · intro a q h1 h2
      simp only [zcp, zu]
      rw [if_neg (by omega), if_neg (by omega), if_neg (by omega)]
  have drop : (0 < mdX w x p ∨ ∃ r, A.1 = some r ∧ ¬ (zsg (mdX w x) (zg w 16 8) < r.1 ∨ (zsg (mdX w x) (zg w 16 8) = r.1 ∧ r.2.1 ≤ zsg c n))) → JC n p (bad2 (if 0 < mdX w x p then none else some (zsg (mdX w x) (zg w 16 8), zsg c n, c), if (if 0 < mdX w x p then none else some (zsg (mdX w x) (zg w 16 8), zsg c n, c) : zBA) = none then 0 else 1) A) w := by
    intro h
    have eA : (bad2 (if 0 < mdX w x p then none else some (zsg (mdX w x) (zg w 16 8), zsg c n, c), if (if 0 < mdX w x p then none else some (zsg (mdX w x) (zg w 16 8), zsg c n, c) : zBA) = none then 0 else 1) A).1 = A.1 := by
      unfold bad2
      dsimp only
      by_cases hm : 0 < mdX w x p
      · rw [if_pos hm, bop_n]
      · rw [if_neg hm]
        rcases h with e | ⟨r, e, h⟩
        · exact absurd e hm
        · rw [e]
          simp only [bop]
          rw [if_pos (by omega)]
    refine ⟨j1, fun _ => ?_, fun e => absurd e (by omega)⟩
    rw [eA]
    exact j2
  have tail : ¬ 0 < mdX w x p → zEv sc 5 d 58 [.ref 66, .ref 16, .ref 28, .int (zI (zsg (mdX w x) (zg w 16 8))), .int (zI (zsg c n)), .int (zI n)] [] (zmk w u) 0 0 (zPv fun w' u' => JC n p (bad2 (if 0 < mdX w x p then none else some (zsg (mdX w x) (zg w 16 8), zsg c n, c), if (if 0 < mdX w x p then none else some (zsg (mdX w x) (zg w 16 8), zsg c n, c) : zBA) = none then 0 else 1) A) w' ∧ (∀ a q, ¬ (a = 66 ∧ (q = 4 ∨ q = 5)) → ¬ a = 67 → w' a q = w a q) ∧ u = u') := by
    intro hm
    refine e_al0 o5_58 (e_gI o5_59 L66 rfl 4 rfl (e_ico o5_62 (e_ic_eq o5_63 91 rfl (by first | exact zg_rg _ _ _ | exact zt_rg _ | omega) (by first | exact zg_rg _ _ _ | exact zt_rg _ | omega) (fun hb63 => ?_) (fun hb63 => ?_))))
    · refine keep hm ?_
      rcases j2 with ⟨y1, y2⟩ | ⟨r, y1, y2, y3, y4, y5⟩
      · exact Or.inl y1
      · exact Or.inr ⟨r, y1, by omega⟩
    · refine e_il3 o5_66 (e_al0 o5_67 (e_gI o5_68 L66 rfl 4 rfl (e_ic_lt o5_71 91 rfl (by first | exact zg_rg _ _ _ | exact zt_rg _ | omega) (by first | exact zg_rg _ _ _ | exact zt_rg _ | omega) (fun hb71 => ?_) (fun hb71 => ?_))))
      · refine keep hm ?_
        rcases j2 with ⟨y1, y2⟩ | ⟨r, y1, y2, y3, y4, y5⟩
        · exact Or.inl y1
        · exact Or.inr ⟨r, y1, by omega⟩
      · refine e_il3 o5_74 (e_al0 o5_75 (e_gI o5_76 L66 rfl 4 rfl (e_ic_ne o5_79 106 rfl (by first | exact zg_rg _ _ _ | exact zt_rg _ | omega) (by first | exact zg_rg _ _ _ | exact zt_rg _ | omega) (fun hb79 => ?_) (fun hb79 => ?_))))
        · refine e_rV o5_106 K5 rfl rfl ?_
          refine ⟨drop ?_, fun a q _ _ => rfl, rfl⟩
          rcases j2 with ⟨y1, y2⟩ | ⟨r, y1, y2, y3, y4, y5⟩
          · exfalso; omega
          · exact Or.inr ⟨r, y1, by omega⟩
        · refine e_il4 o5_82 (e_al0 o5_84 (e_gI o5_85 L66 rfl 5 rfl (e_ic_lt o5_88 106 rfl (by first | exact zg_rg _ _ _ | exact zt_rg _ | omega) (by first | exact zg_rg _ _ _ | exact zt_rg _ | omega) (fun hb88 => ?_) (fun hb88 => ?_))))
          · refine e_rV o5_106 K5 rfl rfl ?_
            refine ⟨drop ?_, fun a q _ _ => rfl, rfl⟩
            rcases j2 with ⟨y1, y2⟩ | ⟨r, y1, y2, y3, y4, y5⟩
            · exfalso; omega
            · exact Or.inr ⟨r, y1, by omega⟩
          · refine keep hm ?_
            rcases j2 with ⟨y1, y2⟩ | ⟨r, y1, y2, y3, y4, y5⟩
            · exact Or.inl y1
            · exact Or.inr ⟨r, y1, by omega⟩
  have loop : ¬ 0 < mdX w x p → ∀ k, 0 ≤ k → k ≤ n → zEv sc 5 d 31 [.ref 66, .ref 16, .ref 28, .int (zI (zsg (mdX w x) (zg w 16 8))), .int (zI (zsg c k)), .int (zI k)] [] (zmk w u) 0 0 (zPv fun w' u' => JC n p (bad2 (if 0 < mdX w x p then none else some (zsg (mdX w x) (zg w 16 8), zsg c n, c), if (if 0 < mdX w x p then none else some (zsg (mdX w x) (zg w 16 8), zsg c n, c) : zBA) = none then 0 else 1) A) w' ∧ (∀ a q, ¬ (a = 66 ∧ (q = 4 ∨ q = 5)) → ¬ a = 67 → w' a q = w a q) ∧ u = u') := by
    intro hm
    refine zloop ?_
    intro k k0 k1 ih
    have hk := zsg_le (f := c) (c := 8) k k0 (fun q q0 q1 => (hc q q0 (by omega)).2)
    rw [zsg_succ k0] at ih
    refine e_il5 o5_31 (e_al2 o5_33 (e_gI o5_34 L28 rfl 9 rfl ?_))
    rw [hn]
    refine e_ic_ge o5_37 58 rfl (by first | exact zg_rg _ _ _ | exact zt_rg _ | omega) (by first | exact zg_rg _ _ _ | exact zt_rg _ | omega) (fun hb37 => ?_) (fun hb37 => ?_)
    · have ek : k = n := by omega
      subst ek
      exact tail hm
    · refine e_il4 o5_40 (e_al0 o5_42 (e_gR o5_43 L66 rfl rfl (e_il5 o5_46 (e_ial o5_48 L68 (by omega) (by omega) ?_))))
      rw [(hc k k0 (by omega)).1]
      have hck := (hc k k0 (by omega)).2
      refine e_add o5_49 (e_is4 o5_50 (e_inc5 o5_52 (e_goto o5_55 31 rfl ?_)))
      exact ih (by omega)
  have eM : zsg (mudC w) (zg w 16 8) = zsg (mdX w x) (zg w 16 8) := zsg_ext _ (fun q q0 q1 => mudC_mdX hC q0 (by omega))
  have hp := hl p p0 (by omega)
  have np := hnd p p0 p1
  have mr := mdX_rg (x := x) hB p0 p1
  refine e_al2 o5_0 (e_gR o5_1 L28 rfl rfl (e_al1 o5_4 (e_al0 o5_5 (e_gI o5_6 L66 rfl 3 rfl ?_))))
  rw [j1]
  refine e_Vi2 o5_9 K5 K19 rfl ⟨rfl, rfl⟩ (zrcv_I L29 rfl) (by omega) rfl (c19 (by omega) p0 (by omega) (by omega)) ?_
  rintro _ _ _ ⟨rfl, rfl, rfl⟩
  rw [mudC_mdX hC p0 (by omega)]
  refine e_if_le o5_12 16 rfl (by first | exact zg_rg _ _ _ | exact zt_rg _ | omega) (fun hb12 => ?_) (fun hb12 => ?_)
  · refine e_al2 o5_16 (e_gR o5_17 L28 rfl rfl (e_al1 o5_20 (e_Vi1 o5_21 K5 K20 rfl ⟨rfl, rfl⟩ (zrcv_I L29 rfl) (by omega) rfl (c20 (by omega) (by omega) (by omega) (fun q q0 q1 => ⟨(hnd q q0 q1).1, (hnd q q0 q1).2, (hl q q0 (by omega)).1, (hl q q0 (by omega)).2⟩)) ?_)))
    rintro _ _ _ ⟨rfl, rfl, rfl⟩
    rw [eM]
    refine e_is3 o5_24 (e_ico o5_25 (e_is4 o5_26 (e_ico o5_28 (e_is5 o5_29 ?_))))
    have e := loop (by omega) 0 (by omega) n0
    rw [zsg_zero] at e
    exact e
  · refine e_rV o5_15 K5 rfl rfl ?_
    exact ⟨drop (Or.inl (by omega)), fun a q _ _ => rfl, rfl⟩
theorem c10 {x : zPL} (hd : 1 ≤ d) (hC : CS w x.1 x.2) (hB : WB w) (hr : 0 ≤ zg w 28 10 ∧ zg w 28 10 ≤ 10) (hq : ∀ i, 0 ≤ i → i < zg w 28 10 → (0 ≤ zg w 41 i ∧ zg w 41 i < zg w 16 8) ∧ (0 ≤ zg w 42 i ∧ zg w 42 i < zg w 16 8)) : zEv sc 10 d 0 [.ref 28, zJ] [] (zmk w u) 0 0 (zis (zI (zb (fitX w x (zg w 28 10) = true))) w u) := by
  have b0 := hB.1
  have loop : ∀ k, 0 ≤ k → k ≤ zg w 28 10 → fitX w x k = true → zEv sc 10 d 2 [.ref 28, .int (zI k)] [] (zmk w u) 0 0 (zis (zI (zb (fitX w x (zg w 28 10) = true))) w u) := by
    refine zloop ?_
    intro k k0 k1 ih hf
    refine e_il1 o10_2 (e_al0 o10_3 (e_gI o10_4 L28 rfl 10 rfl (e_ic_ge o10_7 46 rfl (by first | exact zg_rg _ _ _ | exact zt_rg _ | omega) (by first | exact zg_rg _ _ _ | exact zt_rg _ | omega) (fun hb7 => ?_) (fun hb7 => ?_))))
    · refine e_ico o10_46 ?_
      refine e_rI o10_47 K10 (by decide) rfl ?_
      refine ⟨?_, rfl, rfl⟩
      rw [show zg w 28 10 = k by omega, hf]
      rfl
    · refine e_al0 o10_10 (e_gR o10_11 L28 rfl rfl (e_al0 o10_14 (e_gR o10_15 L28 rfl rfl (e_il1 o10_18 (e_ial o10_19 L41 (by omega) (by omega) (e_al0 o10_20 (e_gR o10_21 L28 rfl rfl (e_il1 o10_24 (e_ial o10_25 L42 (by omega) (by omega) ?_)))))))))
      have hk := hq k k0 (by omega)
      refine e_Vi2 o10_26 K10 K21 rfl ⟨rfl, rfl⟩ (zrcv_I L29 rfl) (by omega) rfl (c21 (by omega) (by omega) (by omega) (by omega)) ?_
      rintro _ _ _ ⟨rfl, rfl, rfl⟩
      rw [hC.2.2.2.1 _ _ (by omega) (by omega) (by omega) (by omega)]
      have hcn := cnt2_rg (P := x.1) (O := zg w 19) (p := zg w 41 k) (o := zg w 42 k) (n := zg w 16 9) hB.2.1.1
      have h40 := hB.2.1.2
      refine e_al0 o10_29 (e_gR o10_30 L28 rfl rfl (e_il1 o10_33 (e_ial o10_34 L43 (by omega) (by omega) (e_ic_eq o10_35 40 rfl (by first | exact zg_rg _ _ _ | exact zt_rg _ | omega) (by first | exact zg_rg _ _ _ | exact zt_rg _ | omega) (fun hb35 => ?_) (fun hb35 => ?_)))))
      · refine e_inc1 o10_40 (e_goto o10_43 2 rfl ?_)
        exact ih (by omega) (by rw [fitX_succ k0, hf, decide_eq_true hb35]; rfl)
      · refine e_ico o10_38 ?_
        refine e_rI o10_39 K10 (by decide) rfl ?_
        refine ⟨?_, rfl, rfl⟩
        rw [show fitX w x (zg w 28 10) = false from fitX_no (n := 0) k0 hb35 _ (by omega) (by omega)]
        rfl
  refine e_ico o10_0 (e_is1 o10_1 ?_)
  exact loop 0 (by omega) hr.1 rfl
/-- a row has been loaded to its end -/
theorem c4 {p n : Int} {A : zBA × Int} {x y : zPL} {c : Int → Int} (hd : 4 ≤ d) (hB : WB w) (hC : CS w x.1 x.2) (hp : p = -1 ∨ (0 ≤ p ∧ p < zg w 16 8)) (hJ : JC n p A w) (hA : 0 ≤ A.2 ∧ A.2 ≤ 100000) (hn : zg w 28 9 = n) (n0 : 0 ≤ n) (n4 : n ≤ 4) (hc : ∀ j, 0 ≤ j → j < n → zg w 68 j = c j ∧ 0 ≤ c j ∧ c j ≤ 8) (hr : 0 ≤ zg w 28 10 ∧ zg w 28 10 ≤ 10) (hq : ∀ i, 0 ≤ i → i < zg w 28 10 → (0 ≤ zg w 41 i ∧ zg w 41 i < zg w 16 8) ∧ (0 ≤ zg w 42 i ∧ zg w 42 i < zg w 16 8)) (hx : SX w y c n = x) : zEv sc 4 d 0 [.ref 66, .ref 16, .ref 28] [] (zmk w u) 0 0 (zPv fun w' u' => JC n p (bad2 (vl2 w y p c) A) w' ∧ (∀ a q, ¬ (a = 66 ∧ (q = 4 ∨ q = 5 ∨ q = 6)) → ¬ a = 67 → w' a q = w a q) ∧ u = u') := by
  have j1 := hJ.1
  by_cases e : p = -1
  · subst e
    have j3 := hJ.2.2 rfl
    have ev : vlX w y (-1) c = if fitX w x (zg w 28 10) = true then some (0, 0, c) else none := by unfold vlX; rw [if_pos rfl, hn, hx]
    have okF : fitX w x (zg w 28 10) = true → JC n (-1) (bad2 (vl2 w y (-1) c) A) (zcp (zu w 66 6 (zI (A.2 + 1))) 68 67 0 0 4) ∧ (∀ a q, ¬ (a = 66 ∧ (q = 4 ∨ q = 5 ∨ q = 6)) → ¬ a = 67 → zcp (zu w 66 6 (zI (A.2 + 1))) 68 67 0 0 4 a q = w a q) ∧ u = u := by
      intro et
      have e1 : (bad2 (vl2 w y (-1) c) A).1 = some (0, 0, c) ∧ (bad2 (vl2 w y (-1) c) A).2 = A.2 + 1 := by
        unfold bad2 vl2
        rw [ev, if_pos et]
        refine ⟨?_, by dsimp only; rw [if_neg (by simp)]; omega⟩
        rcases j3.2 with ⟨y1, y2⟩ | ⟨r, y1, y2, y3⟩
        · rw [y1]; rfl
        · rw [y1]; simp only [bop]; rw [if_neg (by omega)]
      refine ⟨⟨?_, fun h => absurd rfl h, fun _ => ⟨?_, Or.inr ⟨_, e1.1, ⟨rfl, rfl, by omega⟩, ?_⟩⟩⟩, ?_, rfl⟩
      · rw [zcp_n (by decide), zg_ne (by omega)]; exact j1
      · rw [zcp_n (by decide), zg_same (by omega)]; omega
      · intro i i0 i1
        rw [zcp_y (by omega) (by omega), show 0 + (i - 0) = i by omega, zg_ne (by omega)]
        exact (hc i i0 i1).1
      · intro a q h1 h2
        simp only [zcp, zu]
        rw [if_neg (by omega), if_neg (by omega)]
    have noF : ¬ fitX w x (zg w 28 10) = true → JC n (-1) (bad2 (vl2 w y (-1) c) A) w ∧ (∀ a q, ¬ (a = 66 ∧ (q = 4 ∨ q = 5 ∨ q = 6)) → ¬ a = 67 → w a q = w a q) ∧ u = u := by
      intro et
      refine ⟨?_, fun a q _ _ => rfl, rfl⟩
      rw [show bad2 (vl2 w y (-1) c) A = A by unfold vl2; rw [ev, if_neg et]; exact bad2_n A]
      exact hJ
    refine e_al0 o4_0 (e_gI o4_1 L66 rfl 3 rfl (e_ico o4_4 ?_))
    rw [j1]
    refine e_ic_eq o4_5 17 rfl (by first | exact zg_rg _ _ _ | exact zt_rg _ | omega) (by first | exact zg_rg _ _ _ | exact zt_rg _ | omega) (fun hb5 => ?_) (fun hb5 => ?_)
    · refine e_al2 o4_17 (e_Vi0 o4_18 K4 K10 rfl ⟨rfl, rfl⟩ (zrcv_I L28 rfl) (by omega) rfl (c10 (by omega) hC hB hr hq) ?_)
      rintro _ _ _ ⟨rfl, rfl, rfl⟩
      refine e_bz_eq o4_21 38 rfl (fun hb21 => ?_) (fun hb21 => ?_)
      · refine e_rV o4_38 K4 rfl rfl ?_
        first | exact okF hb21 | exact noF hb21
      · refine e_al0 o4_24 (e_dupR o4_25 (e_gI o4_26 L66 rfl 6 rfl (e_ico o4_29 ?_)))
        rw [j3.1]
        refine e_add o4_30 (e_pI o4_31 L66 rfl rfl rfl rfl 6 rfl (e_al0 o4_34 (e_Vv0 o4_35 K4 K6 rfl ⟨rfl, rfl⟩ (zrcv_I L66 rfl) (by omega) rfl (c6 (by omega)) ?_)))
        rintro _ _ ⟨rfl, rfl⟩
        refine e_rV o4_38 K4 rfl rfl ?_
        first | exact okF hb21 | exact noF hb21
    · omega
  · have b0 := hB.1
    have hp' : 0 ≤ p ∧ p < zg w 16 8 := by omega
    have h5 := c5 (sc := sc) (d := d - 1) (u := u) (c := c) (by omega) hB hC hp'.1 hp'.2 hJ hn n0 n4 hc
    have ev : vl2 w y p c = (if 0 < mdX w x p then none else some (zsg (mdX w x) (zg w 16 8), zsg c n, c), if (if 0 < mdX w x p then none else some (zsg (mdX w x) (zg w 16 8), zsg c n, c) : zBA) = none then 0 else 1) := by
      unfold vl2 vlX
      rw [if_neg e, hn, hx]
    rw [← ev] at h5
    refine e_al0 o4_0 (e_gI o4_1 L66 rfl 3 rfl (e_ico o4_4 ?_))
    rw [j1]
    refine e_ic_eq o4_5 17 rfl (by first | exact zg_rg _ _ _ | exact zt_rg _ | omega) (by first | exact zg_rg _ _ _ | exact zt_rg _ | omega) (fun hb5 => ?_) (fun hb5 => ?_)
    · omega
    · refine e_al0 o4_8 (e_al1 o4_9 (e_al2 o4_10 (e_Vv2 o4_11 K4 K5 rfl ⟨rfl, rfl⟩ (zrcv_I L66 rfl) (by omega) rfl h5 ?_)))
      rintro w' u' ⟨q1, q2, rfl⟩
      refine e_goto o4_14 38 rfl ?_
      refine e_rV o4_38 K4 rfl rfl ?_
      exact ⟨q1, fun a q h1 h2 => q2 a q (by omega) h2, rfl⟩
end
