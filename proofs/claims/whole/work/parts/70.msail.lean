/-! the reference: asking, tolls, sailing, undoing -/
section
variable {sc : Nat × (Nat → Int32)} {d : Nat} {v v0 : zV} {u : zU}
theorem m133 {k : Int32} : zEv sc 133 d 0 [.ref 79, .int k] [] (zmk v u) 0 0 (zis (zI 0) (zu v 79 2 k) u) := by
  refine e_al0 o133_0 (e_il1 o133_1 (e_pI o133_2 L79 rfl rfl rfl rfl 2 rfl (e_ico o133_5 ?_)))
  refine e_rI o133_6 K133 rfl rfl ?_
  exact ⟨rfl, rfl, rfl⟩
theorem m169 {x a b : Int} (hx : -2147483648 ≤ x ∧ x < 2147483648) (ha : -2147483648 ≤ a ∧ a < 2147483648) (hb : -2147483648 ≤ b ∧ b < 2147483648) : zEv sc 169 d 0 [.int (zI x), .int (zI a), .int (zI b)] [] (zmk v u) 0 0 (zis (zI (zb (a ≤ x ∧ x ≤ b))) v u) := by
  refine e_il0 o169_0 (e_il1 o169_1 (e_ic_lt o169_2 14 rfl (by first | exact zg_rg _ _ _ | exact zt_rg _ | omega) (by first | exact zg_rg _ _ _ | exact zt_rg _ | omega) (fun hb2 => ?_) (fun hb2 => ?_)))
  · refine e_ico o169_14 ?_
    refine e_rI o169_15 K169 (by decide) rfl ?_
    exact ⟨congrArg zI (by unfold zb; split <;> first | rfl | omega), rfl, rfl⟩
  · refine e_il0 o169_5 (e_il2 o169_6 (e_ic_gt o169_7 14 rfl (by first | exact zg_rg _ _ _ | exact zt_rg _ | omega) (by first | exact zg_rg _ _ _ | exact zt_rg _ | omega) (fun hb7 => ?_) (fun hb7 => ?_)))
    · refine e_ico o169_14 ?_
      refine e_rI o169_15 K169 (by decide) rfl ?_
      exact ⟨congrArg zI (by unfold zb; split <;> first | rfl | omega), rfl, rfl⟩
    · refine e_ico o169_10 (e_goto o169_11 15 rfl ?_)
      refine e_rI o169_15 K169 (by decide) rfl ?_
      exact ⟨congrArg zI (by unfold zb; split <;> first | rfl | omega), rfl, rfl⟩
theorem m168 {x : Int} (hd : 1 ≤ d) (hx : -2147483648 ≤ x ∧ x < 2147483648) (h0 : 0 ≤ zg v 82 0) : zEv sc 168 d 0 [.ref 79, .int (zI x)] [] (zmk v u) 0 0 (zis (zI (zb (0 ≤ x ∧ x ≤ zg v 82 0 - 1))) v u) := by
  have hr := zg_rg v 82 0
  refine e_il1 o168_0 (e_ico o168_1 (e_al0 o168_2 (e_gR o168_3 L79 rfl rfl (e_ico o168_6 (e_ial o168_7 L82 (by omega) (by omega) (e_ico o168_8 (e_sub o168_9 (e_Si3 o168_10 K168 K169 rfl ⟨rfl, rfl⟩ (by omega) rfl (m169 hx (by omega) (by omega)) ?_))))))))
  rintro _ _ _ ⟨rfl, rfl, rfl⟩
  refine e_rI o168_13 K168 (zret_b _) rfl ?_
  exact ⟨rfl, rfl, rfl⟩
theorem m172 {x : Int} (hd : 1 ≤ d) (hx : -2147483648 ≤ x ∧ x < 2147483648) (h0 : 0 ≤ zg v 82 1) : zEv sc 172 d 0 [.ref 79, .int (zI x)] [] (zmk v u) 0 0 (zis (zI (zb (0 ≤ x ∧ x ≤ zg v 82 1 - 1))) v u) := by
  have hr := zg_rg v 82 1
  refine e_il1 o172_0 (e_ico o172_1 (e_al0 o172_2 (e_gR o172_3 L79 rfl rfl (e_ico o172_6 (e_ial o172_7 L82 (by omega) (by omega) (e_ico o172_8 (e_sub o172_9 (e_Si3 o172_10 K172 K169 rfl ⟨rfl, rfl⟩ (by omega) rfl (m169 hx (by omega) (by omega)) ?_))))))))
  rintro _ _ _ ⟨rfl, rfl, rfl⟩
  refine e_rI o172_13 K172 (zret_b _) rfl ?_
  exact ⟨rfl, rfl, rfl⟩
theorem m176 {x : Int} (hd : 1 ≤ d) (hx : -2147483648 ≤ x ∧ x < 2147483648) (h0 : 0 ≤ zg v 82 2) : zEv sc 176 d 0 [.ref 79, .int (zI x)] [] (zmk v u) 0 0 (zis (zI (zb (0 ≤ x ∧ x ≤ zg v 82 2 - 1))) v u) := by
  have hr := zg_rg v 82 2
  refine e_il1 o176_0 (e_ico o176_1 (e_al0 o176_2 (e_gR o176_3 L79 rfl rfl (e_ico o176_6 (e_ial o176_7 L82 (by omega) (by omega) (e_ico o176_8 (e_sub o176_9 (e_Si3 o176_10 K176 K169 rfl ⟨rfl, rfl⟩ (by omega) rfl (m169 hx (by omega) (by omega)) ?_))))))))
  rintro _ _ _ ⟨rfl, rfl, rfl⟩
  refine e_rI o176_13 K176 (zret_b _) rfl ?_
  exact ⟨rfl, rfl, rfl⟩
theorem m182 {f t M y : Int} {sj : Int → Int} {sv : Int → Int} {n : Int} (hd : 2 ≤ d) (hE : EW v) (hB : WB v) (hW : WT sv n) (hn : zg v 82 3 = n) (hs : ∀ i, 0 ≤ i → i < n → zg v 90 i = enc (sv i)) (M0 : 0 ≤ M) (M8 : M ≤ 8) (hj : ∀ j, 0 ≤ j → j < M → zg v 96 j = sj j ∧ 0 ≤ sj j ∧ sj j < zg v 16 9) : zEv sc 182 d 0 [.ref 79, .int (zI f), .int (zI t), .int (zI M), .int (zI y), zJ, zJ] [] (zmk v u) 0 0 (zPi fun r v' u' => toll sv n (zg v 20) (zg v 19) f t M y sj M = r ∧ (∀ a k, ¬ a = 97 → ¬ a = 98 → v' a k = v a k) ∧ u = u') := by
  have n0 := hB.2.1
  have loop : ∀ j, 0 ≤ j → j ≤ M → ∀ w, (∀ a k, ¬ a = 97 → ¬ a = 98 → w a k = v a k) → zEv sc 182 d 6 [.ref 79, .int (zI f), .int (zI t), .int (zI M), .int (zI y), .int (toll sv n (zg v 20) (zg v 19) f t M y sj j), .int (zI j)] [] (zmk w u) 0 0 (zPi fun r v' u' => toll sv n (zg v 20) (zg v 19) f t M y sj M = r ∧ (∀ a k, ¬ a = 97 → ¬ a = 98 → v' a k = v a k) ∧ u = u') := by
    refine zloop ?_
    intro j j0 j1 ih w hf
    have ea : ∀ a k, ¬ a = 97 → ¬ a = 98 → zg w a k = zg v a k := fun a k h1 h2 => by simp only [zg]; rw [hf a k h1 h2]
    refine e_il6 o182_6 (e_il3 o182_8 (e_ic_ge o182_9 92 rfl (by first | exact zg_rg _ _ _ | exact zt_rg _ | omega) (by first | exact zg_rg _ _ _ | exact zt_rg _ | omega) (fun hb9 => ?_) (fun hb9 => ?_)))
    · have e : j = M := by omega
      subst e
      refine e_il5 o182_92 ?_
      refine e_rI o182_94 K182 rfl rfl ?_
      exact ⟨rfl, hf, rfl⟩
    · obtain ⟨q1, q2, q3⟩ := hj j j0 hb9
      have es := hE.2.2.2.2.1 _ q2 q3
      refine e_al0 o182_12 (e_gR o182_13 L79 rfl rfl (e_ico o182_16 (e_al0 o182_17 (e_gR o182_18 L79 rfl rfl (e_al0 o182_21 (e_gR o182_22 L79 rfl rfl (e_il6 o182_25 (e_ial o182_27 L96 (by omega) (by omega) ?_))))))))
      rw [ea 96 _ (by omega) (by omega), q1]
      refine e_ial o182_28 L86 (by omega) (by omega) ?_
      rw [ea 86 _ (by omega) (by omega), es.2]
      refine e_iast o182_29 L97 (by omega) (by omega) (e_al0 o182_30 (e_gR o182_31 L79 rfl rfl (e_ico o182_34 (e_al0 o182_35 (e_gR o182_36 L79 rfl rfl (e_al0 o182_39 (e_gR o182_40 L79 rfl rfl (e_il6 o182_43 (e_ial o182_45 L96 (by omega) (by omega) ?_)))))))))
      rw [zg_na (by decide), ea 96 _ (by omega) (by omega), q1]
      refine e_ial o182_46 L85 (by omega) (by omega) ?_
      rw [zg_na (by decide), ea 85 _ (by omega) (by omega), es.1]
      refine e_iast o182_47 L97 (by omega) (by omega) (e_al0 o182_48 (e_gR o182_49 L79 rfl rfl (e_ico o182_52 (e_il1 o182_53 (e_iast o182_54 L97 (by omega) (by omega) (e_al0 o182_55 (e_gR o182_56 L79 rfl rfl (e_ico o182_59 (e_il2 o182_60 (e_iast o182_61 L97 (by omega) (by omega) (e_al0 o182_62 (e_gR o182_63 L79 rfl rfl (e_ico o182_66 (e_il3 o182_67 (e_iast o182_68 L97 (by omega) (by omega) (e_al0 o182_69 (e_gR o182_70 L79 rfl rfl (e_ico o182_73 (e_il4 o182_74 (e_iast o182_76 L97 (by omega) (by omega) ?_))))))))))))))))))))
      obtain ⟨w2, hw2⟩ : ∃ w2, w2 = zu (zu (zu (zu (zu (zu w 97 0 (zI (zg v 20 (sj j)))) 97 1 (zI (zg v 19 (sj j)))) 97 2 (zI f)) 97 3 (zI t)) 97 4 (zI M)) 97 5 (zI y) := ⟨_, rfl⟩
      rw [← hw2]
      have f2 : ∀ a k, ¬ a = 97 → w2 a k = w a k := fun a k h => by rw [hw2, zu_ne (fun e => h e.1), zu_ne (fun e => h e.1), zu_ne (fun e => h e.1), zu_ne (fun e => h e.1), zu_ne (fun e => h e.1), zu_ne (fun e => h e.1)]
      have v97 : ∀ i, 0 ≤ i → i < 6 → w2 97 i = tval (zI (zg v 20 (sj j))) (zI (zg v 19 (sj j))) (zI f) (zI t) (zI M) (zI y) i := by
        intro i i0 i1
        rw [hw2]
        rcases (show i = 0 ∨ i = 1 ∨ i = 2 ∨ i = 3 ∨ i = 4 ∨ i = 5 by omega) with e | e | e | e | e | e <;> subst e
        · rw [zu_ne (by omega), zu_ne (by omega), zu_ne (by omega), zu_ne (by omega), zu_ne (by omega), zu_same]; rfl
        · rw [zu_ne (by omega), zu_ne (by omega), zu_ne (by omega), zu_ne (by omega), zu_same]; rfl
        · rw [zu_ne (by omega), zu_ne (by omega), zu_ne (by omega), zu_same]; rfl
        · rw [zu_ne (by omega), zu_ne (by omega), zu_same]; rfl
        · rw [zu_ne (by omega), zu_same]; rfl
        · rw [zu_same]; rfl
      refine e_il5 o182_77 (e_al0 o182_79 (e_Vi0 o182_80 K182 K183 rfl ⟨rfl, rfl⟩ (zrcv_I L79 rfl) (by omega) rfl (m183 (by omega) hW (by rw [← hn]; simp only [zg]; rw [f2 82 3 (by omega), hf 82 3 (by omega) (by omega)]) (fun i i0 i1 => by rw [← hs i i0 i1]; simp only [zg]; rw [f2 90 i (by omega), hf 90 i (by omega) (by omega)])) ?_))
      rintro _ w3 _ ⟨rfl, g2, rfl⟩
      rw [tres_ext hW v97]
      refine e_addR o182_83 (e_is5 o182_84 (e_inc6 o182_86 (e_goto o182_89 6 rfl ?_)))
      have e := ih hb9 w3 (fun a k h1 h2 => by rw [g2 a k h2, f2 a k h1, hf a k h1 h2])
      rw [toll, zfo_succ j0] at e
      exact e
  refine e_ico o182_0 (e_is5 o182_1 (e_ico o182_3 (e_is6 o182_4 ?_)))
  exact loop 0 (by omega) (by omega) v (fun _ _ _ _ => rfl)
end
