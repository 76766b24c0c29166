/-! the reference's search -/
def JM (n p : Int) (A : zBA × Int) (w : zV) : Prop :=
  (¬ p = -1 → (A.1 = none ∧ zg w 79 45 = 0) ∨ ∃ r, A.1 = some r ∧ zg w 79 45 = 1 ∧ zg w 79 46 = r.1 ∧ zg w 79 47 = r.2.1 ∧ ∀ i, 0 ≤ i → i < n → zg w 103 i = r.2.2 i) ∧
  (p = -1 → zg w 79 45 = A.2 ∧ ((A.1 = none ∧ A.2 = 0) ∨ ∃ r, A.1 = some r ∧ (r.1 = 0 ∧ r.2.1 = 0 ∧ 0 < A.2) ∧ ∀ i, 0 ≤ i → i < n → zg w 103 i = r.2.2 i))
theorem cnt2_ex {P R O : Int → Int} {p o n : Int} (h : ∀ s, 0 ≤ s → s < n → P s = R s) : cnt2 P O p o n = cnt2 R O p o n := by
  unfold cnt2
  exact zsg_ext n fun s s0 s1 => by rw [h s s0 s1]
section
variable {sc : Nat × (Nat → Int32)} {d : Nat} {v v0 w : zV} {u : zU} {y x : zPL} {n p : Int} {c : Int → Int} {A : zBA × Int}
theorem cnt_94 {q : Int} (hx : ∀ s, 0 ≤ s → s < zg w 16 9 → zg w 94 s = x.1 s) : cnt (zg w 94) q (zg w 16 9) = cnt x.1 q (zg w 16 9) := cnt_ext fun s s0 s1 => by rw [hx s s0 s1]
theorem m196 (hd : 3 ≤ d) (hE : EW w) (hB : WB w) (hx : ∀ s, 0 ≤ s → s < zg w 16 9 → zg w 94 s = x.1 s) (p0 : 0 ≤ p) (p1 : p < zg w 16 8) (hJ : JM n p A w) (hn : zg w 79 32 = n) (n0 : 0 ≤ n) (n4 : n ≤ 4) (hc : ∀ j, 0 ≤ j → j < n → zg w 102 j = c j ∧ 0 ≤ c j ∧ c j ≤ 8) : zEv sc 196 d 0 [.ref 79, .int (zI p), zJ, zJ, zJ] [] (zmk w u) 0 0 (zPv fun w' u' => JM n p (bad2 A (if 0 < mdX w x p then none else some (zsg (mdX w x) (zg w 16 8), zsg c n, c), if (if 0 < mdX w x p then none else some (zsg (mdX w x) (zg w 16 8), zsg c n, c) : zBA) = none then 0 else 1)) w' ∧ (∀ a q, ¬ (a = 79 ∧ (q = 45 ∨ q = 46 ∨ q = 47)) → ¬ a = 103 → w' a q = w a q) ∧ u = u') := by
  have b0 := hB.1
  obtain ⟨j2, j3⟩ := hJ
  have j2 := j2 (by omega)
  have hM := zsg_le (f := mdX w x) (c := 40) (zg w 16 8) b0.1 (fun q q0 q1 => mdX_rg hB q0 q1)
  have hG := zsg_le (f := c) (c := 8) n n0 (fun q q0 q1 => (hc q q0 q1).2)
  have keep : ¬ 0 < mdX w x p → (A.1 = none ∨ ∃ r, A.1 = some r ∧ (zsg (mdX w x) (zg w 16 8) < r.1 ∨ (zsg (mdX w x) (zg w 16 8) = r.1 ∧ r.2.1 < zsg c n))) → ∀ a4, zEv sc 196 d 84 [.ref 79, .int (zI p), .int (zI (zsg (mdX w x) (zg w 16 8))), .int (zI (zsg c n)), a4] [] (zmk w u) 0 0 (zPv fun w' u' => JM n p (bad2 A (if 0 < mdX w x p then none else some (zsg (mdX w x) (zg w 16 8), zsg c n, c), if (if 0 < mdX w x p then none else some (zsg (mdX w x) (zg w 16 8), zsg c n, c) : zBA) = none then 0 else 1)) w' ∧ (∀ a q, ¬ (a = 79 ∧ (q = 45 ∨ q = 46 ∨ q = 47)) → ¬ a = 103 → w' a q = w a q) ∧ u = u') := by
    intro hm ha a4
    have eA : (bad2 A (if 0 < mdX w x p then none else some (zsg (mdX w x) (zg w 16 8), zsg c n, c), if (if 0 < mdX w x p then none else some (zsg (mdX w x) (zg w 16 8), zsg c n, c) : zBA) = none then 0 else 1)).1 = some (zsg (mdX w x) (zg w 16 8), zsg c n, c) := by
      unfold bad2
      dsimp only
      rw [if_neg hm]
      rcases ha with e | ⟨r, e, h⟩
      · rw [e, bop_n]
      · rw [e]
        simp only [bop]
        rw [if_pos (by omega)]
    refine e_al0 o196_84 (e_ico o196_85 (e_pI o196_86 L79 rfl rfl rfl rfl 45 rfl (e_al0 o196_89 (e_il2 o196_90 (e_pI o196_91 L79 rfl rfl rfl rfl 46 rfl (e_al0 o196_94 (e_il3 o196_95 (e_pI o196_96 L79 rfl rfl rfl rfl 47 rfl (e_al0 o196_99 (e_gR o196_100 L79 rfl rfl (e_al0 o196_103 (e_gR o196_104 L79 rfl rfl (e_Sv2 o196_107 K196 K195 rfl ⟨rfl, rfl⟩ (by omega) rfl (m195 (n := 4) (m := 4) L103 L102 (by omega) (by decide)) ?_)))))))))))))
    rintro _ _ ⟨rfl, rfl⟩
    refine e_rV o196_110 K196 rfl rfl ?_
    refine ⟨⟨fun _ => Or.inr ⟨_, eA, ?_, ?_, ?_, ?_⟩, fun e => absurd e (by omega)⟩, ?_, rfl⟩
    · rw [zcp_n (by decide), zg_ne (by omega), zg_ne (by omega), zg_same (by omega)]
    · rw [zcp_n (by decide), zg_ne (by omega), zg_same (by omega)]
    · rw [zcp_n (by decide), zg_same (by omega)]
    · intro i i0 i1
      rw [zcp_y (by omega) (by omega), show 0 + (i - 0) = i by omega, zg_ne (by omega), zg_ne (by omega), zg_ne (by omega)]
      exact (hc i i0 i1).1
    · intro a q h1 h2
      simp only [zcp, zu]
      rw [if_neg (by omega), if_neg (by omega), if_neg (by omega), if_neg (by omega)]
  have drop : (0 < mdX w x p ∨ ∃ r, A.1 = some r ∧ ¬ (zsg (mdX w x) (zg w 16 8) < r.1 ∨ (zsg (mdX w x) (zg w 16 8) = r.1 ∧ r.2.1 < zsg c n))) → JM n p (bad2 A (if 0 < mdX w x p then none else some (zsg (mdX w x) (zg w 16 8), zsg c n, c), if (if 0 < mdX w x p then none else some (zsg (mdX w x) (zg w 16 8), zsg c n, c) : zBA) = none then 0 else 1)) w := by
    intro h
    have eA : (bad2 A (if 0 < mdX w x p then none else some (zsg (mdX w x) (zg w 16 8), zsg c n, c), if (if 0 < mdX w x p then none else some (zsg (mdX w x) (zg w 16 8), zsg c n, c) : zBA) = none then 0 else 1)).1 = A.1 := by
      unfold bad2
      dsimp only
      by_cases hm : 0 < mdX w x p
      · rw [if_pos hm, bop_r]
      · rw [if_neg hm]
        rcases h with e | ⟨r, e, h⟩
        · exact absurd e hm
        · rw [e]
          simp only [bop]
          rw [if_neg (by omega)]
    refine ⟨fun _ => ?_, fun e => absurd e (by omega)⟩
    rw [eA]
    exact j2
  have tail : ¬ 0 < mdX w x p → ∀ a4, zEv sc 196 d 52 [.ref 79, .int (zI p), .int (zI (zsg (mdX w x) (zg w 16 8))), .int (zI (zsg c n)), a4] [] (zmk w u) 0 0 (zPv fun w' u' => JM n p (bad2 A (if 0 < mdX w x p then none else some (zsg (mdX w x) (zg w 16 8), zsg c n, c), if (if 0 < mdX w x p then none else some (zsg (mdX w x) (zg w 16 8), zsg c n, c) : zBA) = none then 0 else 1)) w' ∧ (∀ a q, ¬ (a = 79 ∧ (q = 45 ∨ q = 46 ∨ q = 47)) → ¬ a = 103 → w' a q = w a q) ∧ u = u') := by
    intro hm a4
    refine e_al0 o196_52 (e_gI o196_53 L79 rfl 45 rfl (e_if_le o196_56 84 rfl (by first | exact zg_rg _ _ _ | exact zt_rg _ | omega) (fun hb56 => ?_) (fun hb56 => ?_)))
    · refine keep hm ?_ _
      rcases j2 with ⟨y1, y2⟩ | ⟨r, y1, y2, y3, y4, y5⟩
      · exact Or.inl y1
      · exact Or.inr ⟨r, y1, by omega⟩
    · refine e_il2 o196_59 (e_al0 o196_60 (e_gI o196_61 L79 rfl 46 rfl (e_ic_gt o196_64 83 rfl (by first | exact zg_rg _ _ _ | exact zt_rg _ | omega) (by first | exact zg_rg _ _ _ | exact zt_rg _ | omega) (fun hb64 => ?_) (fun hb64 => ?_))))
      · refine e_rV o196_83 K196 rfl rfl ?_
        refine ⟨drop ?_, fun a q _ _ => rfl, rfl⟩
        rcases j2 with ⟨y1, y2⟩ | ⟨r, y1, y2, y3, y4, y5⟩
        · exfalso; omega
        · exact Or.inr ⟨r, y1, by omega⟩
      · refine e_il2 o196_67 (e_al0 o196_68 (e_gI o196_69 L79 rfl 46 rfl (e_ic_ne o196_72 84 rfl (by first | exact zg_rg _ _ _ | exact zt_rg _ | omega) (by first | exact zg_rg _ _ _ | exact zt_rg _ | omega) (fun hb72 => ?_) (fun hb72 => ?_))))
        · refine keep hm ?_ _
          rcases j2 with ⟨y1, y2⟩ | ⟨r, y1, y2, y3, y4, y5⟩
          · exact Or.inl y1
          · exact Or.inr ⟨r, y1, by omega⟩
        · refine e_il3 o196_75 (e_al0 o196_76 (e_gI o196_77 L79 rfl 47 rfl (e_ic_gt o196_80 84 rfl (by first | exact zg_rg _ _ _ | exact zt_rg _ | omega) (by first | exact zg_rg _ _ _ | exact zt_rg _ | omega) (fun hb80 => ?_) (fun hb80 => ?_))))
          · refine keep hm ?_ _
            rcases j2 with ⟨y1, y2⟩ | ⟨r, y1, y2, y3, y4, y5⟩
            · exact Or.inl y1
            · exact Or.inr ⟨r, y1, by omega⟩
          · refine e_rV o196_83 K196 rfl rfl ?_
            refine ⟨drop ?_, fun a q _ _ => rfl, rfl⟩
            rcases j2 with ⟨y1, y2⟩ | ⟨r, y1, y2, y3, y4, y5⟩
            · exfalso; omega
            · exact Or.inr ⟨r, y1, by omega⟩
  have loop : ¬ 0 < mdX w x p → ∀ k, 0 ≤ k → k ≤ n → zEv sc 196 d 27 [.ref 79, .int (zI p), .int (zI (zsg (mdX w x) (zg w 16 8))), .int (zI (zsg c k)), .int (zI k)] [] (zmk w u) 0 0 (zPv fun w' u' => JM n p (bad2 A (if 0 < mdX w x p then none else some (zsg (mdX w x) (zg w 16 8), zsg c n, c), if (if 0 < mdX w x p then none else some (zsg (mdX w x) (zg w 16 8), zsg c n, c) : zBA) = none then 0 else 1)) w' ∧ (∀ a q, ¬ (a = 79 ∧ (q = 45 ∨ q = 46 ∨ q = 47)) → ¬ a = 103 → w' a q = w a q) ∧ u = u') := by
    intro hm
    refine zloop ?_
    intro k k0 k1 ih
    have hk := zsg_le (f := c) (c := 8) k k0 (fun q q0 q1 => (hc q q0 (by omega)).2)
    rw [zsg_succ k0] at ih
    refine e_il4 o196_27 (e_al0 o196_29 (e_gI o196_30 L79 rfl 32 rfl ?_))
    rw [hn]
    refine e_ic_ge o196_33 52 rfl (by first | exact zg_rg _ _ _ | exact zt_rg _ | omega) (by first | exact zg_rg _ _ _ | exact zt_rg _ | omega) (fun hb33 => ?_) (fun hb33 => ?_)
    · have ek : k = n := by omega
      subst ek
      exact tail hm _
    · refine e_il3 o196_36 (e_al0 o196_37 (e_gR o196_38 L79 rfl rfl (e_il4 o196_41 (e_ial o196_43 L102 (by omega) (by omega) ?_))))
      rw [(hc k k0 (by omega)).1]
      have hck := (hc k k0 (by omega)).2
      refine e_add o196_44 (e_is3 o196_45 (e_inc4 o196_46 (e_goto o196_49 27 rfl ?_)))
      exact ih (by omega)
  have eM : zsg (fun p => max 0 (zg w 17 p - cnt (zg w 94) p (zg w 16 9))) (zg w 16 8) = zsg (mdX w x) (zg w 16 8) := zsg_ext _ (fun q q0 q1 => by rw [cnt_94 hx]; rfl)
  have eP : max 0 (zg w 17 p - cnt (zg w 94) p (zg w 16 9)) = mdX w x p := by rw [cnt_94 hx]; rfl
  have mr := mdX_rg (x := x) hB p0 p1
  refine e_al0 o196_0 (e_al0 o196_1 (e_gR o196_2 L79 rfl rfl (e_il1 o196_5 (e_Vi2 o196_6 K196 K164 rfl ⟨rfl, rfl⟩ (zrcv_I L79 rfl) (by omega) rfl (m164 (by omega) L94 hE hB p0 p1) ?_))))
  rintro _ _ _ ⟨rfl, rfl, rfl⟩
  rw [eP]
  refine e_if_le o196_9 13 rfl (by first | exact zg_rg _ _ _ | exact zt_rg _ | omega) (fun hb9 => ?_) (fun hb9 => ?_)
  · refine e_al0 o196_13 (e_al0 o196_14 (e_gR o196_15 L79 rfl rfl (e_Vi1 o196_18 K196 K163 rfl ⟨rfl, rfl⟩ (zrcv_I L79 rfl) (by omega) rfl (m163 (by omega) L94 hE hB) ?_)))
    rintro _ _ _ ⟨rfl, rfl, rfl⟩
    rw [eM]
    refine e_is2 o196_21 (e_ico o196_22 (e_is3 o196_23 (e_ico o196_24 (e_is4 o196_25 ?_))))
    have e := loop (by omega) 0 (by omega) n0
    rw [zsg_zero] at e
    exact e
  · refine e_rV o196_12 K196 rfl rfl ?_
    exact ⟨drop (Or.inl (by omega)), fun a q _ _ => rfl, rfl⟩
theorem m197 (hd : 1 ≤ d) (hE : EW w) (hB : WB w) (hx : ∀ s, 0 ≤ s → s < zg w 16 9 → zg w 94 s = x.1 s) (hm : zg w 79 33 = zg w 28 10) (hr : 0 ≤ zg w 28 10 ∧ zg w 28 10 ≤ 10) (hq : ∀ i, 0 ≤ i → i < zg w 28 10 → zg w 105 i = zg w 41 i ∧ zg w 106 i = zg w 42 i ∧ zg w 107 i = zg w 43 i) : zEv sc 197 d 0 [.ref 79, zJ] [] (zmk w u) 0 0 (zis (zI (zb (fitX w x (zg w 28 10) = true))) w u) := by
  have loop : ∀ k, 0 ≤ k → k ≤ zg w 28 10 → fitX w x k = true → zEv sc 197 d 2 [.ref 79, .int (zI k)] [] (zmk w u) 0 0 (zis (zI (zb (fitX w x (zg w 28 10) = true))) w u) := by
    refine zloop ?_
    intro k k0 k1 ih hf
    refine e_il1 o197_2 (e_al0 o197_3 (e_gI o197_4 L79 rfl 33 rfl ?_))
    rw [hm]
    refine e_ic_ge o197_7 47 rfl (by first | exact zg_rg _ _ _ | exact zt_rg _ | omega) (by first | exact zg_rg _ _ _ | exact zt_rg _ | omega) (fun hb7 => ?_) (fun hb7 => ?_)
    · refine e_ico o197_47 ?_
      refine e_rI o197_48 K197 (by decide) rfl ?_
      refine ⟨?_, rfl, rfl⟩
      rw [show zg w 28 10 = k by omega, hf]
      rfl
    · have hk := hq k k0 (by omega)
      refine e_al0 o197_10 (e_al0 o197_11 (e_gR o197_12 L79 rfl rfl (e_al0 o197_15 (e_gR o197_16 L79 rfl rfl (e_il1 o197_19 (e_ial o197_20 L105 (by omega) (by omega) (e_al0 o197_21 (e_gR o197_22 L79 rfl rfl (e_il1 o197_25 (e_ial o197_26 L106 (by omega) (by omega) ?_))))))))))
      rw [hk.1, hk.2.1]
      refine e_Vi3 o197_27 K197 K170 rfl ⟨rfl, rfl⟩ (zrcv_I L79 rfl) (by omega) rfl (m170 L94 hE hB (zg_rg _ _ _) (zg_rg _ _ _)) ?_
      rintro _ _ _ ⟨rfl, rfl, rfl⟩
      rw [cnt2_ex hx]
      have hcn := cnt2_rg (P := x.1) (O := zg w 19) (p := zg w 41 k) (o := zg w 42 k) (n := zg w 16 9) hB.2.1.1
      have h40 := hB.2.1.2
      refine e_al0 o197_30 (e_gR o197_31 L79 rfl rfl (e_il1 o197_34 (e_ial o197_35 L107 (by omega) (by omega) ?_)))
      rw [hk.2.2]
      refine e_ic_eq o197_36 41 rfl (by first | exact zg_rg _ _ _ | exact zt_rg _ | omega) (by first | exact zg_rg _ _ _ | exact zt_rg _ | omega) (fun hb36 => ?_) (fun hb36 => ?_)
      · refine e_inc1 o197_41 (e_goto o197_44 2 rfl ?_)
        exact ih (by omega) (by rw [fitX_succ k0, hf, decide_eq_true hb36]; rfl)
      · refine e_ico o197_39 ?_
        refine e_rI o197_40 K197 (by decide) rfl ?_
        refine ⟨?_, rfl, rfl⟩
        rw [show fitX w x (zg w 28 10) = false from fitX_no (n := 0) k0 hb36 _ (by omega) (by omega)]
        rfl
  refine e_ico o197_0 (e_is1 o197_1 ?_)
  exact loop 0 (by omega) hr.1 rfl
theorem m198 {c : Int → Int} (hd : 1 ≤ d) (hJ : JM n (-1) A w) (hA : 0 ≤ A.2 ∧ A.2 ≤ 100000) (n4 : n ≤ 4) (hc : ∀ j, 0 ≤ j → j < n → zg w 102 j = c j) : zEv sc 198 d 0 [.ref 79] [] (zmk w u) 0 0 (zPv fun w' u' => JM n (-1) (bad2 A (some (0, 0, c), 1)) w' ∧ (∀ a q, ¬ (a = 79 ∧ (q = 45 ∨ q = 46 ∨ q = 47)) → ¬ a = 103 → w' a q = w a q) ∧ u = u') := by
  obtain ⟨j1, j2⟩ := hJ.2 rfl
  refine e_al0 o198_0 (e_gI o198_1 L79 rfl 45 rfl ?_)
  rw [j1]
  refine e_if_ne o198_4 18 rfl (by first | exact zg_rg _ _ _ | exact zt_rg _ | omega) (fun hb4 => ?_) (fun hb4 => ?_)
  · refine e_al0 o198_18 (e_dupR o198_19 (e_gI o198_20 L79 rfl 45 rfl (e_ico o198_23 ?_)))
    first | rw [zcp_n (by decide), j1] | rw [j1]
    refine e_add o198_24 (e_pI o198_25 L79 rfl rfl rfl rfl 45 rfl ?_)
    refine e_rV o198_28 K198 rfl rfl ?_
    rcases j2 with ⟨y1, y2⟩ | ⟨r, y1, y2, y3⟩
    · have e1 : (bad2 A (some (0, 0, c), 1)).1 = some (0, 0, c) := by unfold bad2; dsimp only; rw [y1, bop_n]
      have e2 : (bad2 A (some (0, 0, c), 1)).2 = A.2 + 1 := rfl
      first
      | (exfalso; omega)
      | (refine ⟨⟨fun h => absurd rfl h, fun _ => ⟨by rw [zg_same (by omega), e2], Or.inr ⟨_, e1, ⟨rfl, rfl, by omega⟩, fun i i0 i1 => ?_⟩⟩⟩, fun a q h1 h2 => ?_, rfl⟩
         · rw [zg_na (by decide), zcp_y (by omega) (by omega), show 0 + (i - 0) = i by omega]
           exact hc i i0 i1
         · rw [zu_ne (by omega)]
           simp only [zcp]
           rw [if_neg (by omega)])
    · have e1 : (bad2 A (some (0, 0, c), 1)).1 = some r := by unfold bad2; dsimp only; rw [y1]; simp only [bop]; rw [if_neg (by omega)]
      have e2 : (bad2 A (some (0, 0, c), 1)).2 = A.2 + 1 := rfl
      first
      | (exfalso; omega)
      | (refine ⟨⟨fun h => absurd rfl h, fun _ => ⟨by rw [zg_same (by omega), e2], Or.inr ⟨_, e1, ⟨y2.1, y2.2.1, by omega⟩, fun i i0 i1 => ?_⟩⟩⟩, fun a q h1 h2 => ?_, rfl⟩
         · rw [zg_na (by decide)]
           exact y3 i i0 i1
         · rw [zu_ne (by omega)])
  · refine e_al0 o198_7 (e_gR o198_8 L79 rfl rfl (e_al0 o198_11 (e_gR o198_12 L79 rfl rfl (e_Sv2 o198_15 K198 K195 rfl ⟨rfl, rfl⟩ (by omega) rfl (m195 (n := 4) (m := 4) L103 L102 (by omega) (by decide)) ?_))))
    rintro _ _ ⟨rfl, rfl⟩
    refine e_al0 o198_18 (e_dupR o198_19 (e_gI o198_20 L79 rfl 45 rfl (e_ico o198_23 ?_)))
    first | rw [zcp_n (by decide), j1] | rw [j1]
    refine e_add o198_24 (e_pI o198_25 L79 rfl rfl rfl rfl 45 rfl ?_)
    refine e_rV o198_28 K198 rfl rfl ?_
    rcases j2 with ⟨y1, y2⟩ | ⟨r, y1, y2, y3⟩
    · have e1 : (bad2 A (some (0, 0, c), 1)).1 = some (0, 0, c) := by unfold bad2; dsimp only; rw [y1, bop_n]
      have e2 : (bad2 A (some (0, 0, c), 1)).2 = A.2 + 1 := rfl
      first
      | (exfalso; omega)
      | (refine ⟨⟨fun h => absurd rfl h, fun _ => ⟨by rw [zg_same (by omega), e2], Or.inr ⟨_, e1, ⟨rfl, rfl, by omega⟩, fun i i0 i1 => ?_⟩⟩⟩, fun a q h1 h2 => ?_, rfl⟩
         · rw [zg_na (by decide), zcp_y (by omega) (by omega), show 0 + (i - 0) = i by omega]
           exact hc i i0 i1
         · rw [zu_ne (by omega)]
           simp only [zcp]
           rw [if_neg (by omega)])
    · have e1 : (bad2 A (some (0, 0, c), 1)).1 = some r := by unfold bad2; dsimp only; rw [y1]; simp only [bop]; rw [if_neg (by omega)]
      have e2 : (bad2 A (some (0, 0, c), 1)).2 = A.2 + 1 := rfl
      first
      | (exfalso; omega)
      | (refine ⟨⟨fun h => absurd rfl h, fun _ => ⟨by rw [zg_same (by omega), e2], Or.inr ⟨_, e1, ⟨y2.1, y2.2.1, by omega⟩, fun i i0 i1 => ?_⟩⟩⟩, fun a q h1 h2 => ?_, rfl⟩
         · rw [zg_na (by decide)]
           exact y3 i i0 i1
         · rw [zu_ne (by omega)])
end
