section
variable {sc : Nat × (Nat → Int32)} {d : Nat} {v v0 : zV} {u : zU}
theorem m173 {p i : Int} {P L : Int → Int} (hd : 3 ≤ d) (hE : EW v) (hB : WB v) (hC : CS v P L) (hx : ∀ s, 0 ≤ s → s < zg v 16 9 → zg v 93 s = P s ∧ zg v 93 (40 + s) = L s) (hp : -2147483648 ≤ p ∧ p < 2147483648) (hi : -2147483648 ≤ i ∧ i < 2147483648) : zEv sc 173 d 0 [.ref 79, .int (zI p), .int (zI i), zJ] [] (zmk v u) 0 0 (mqu ((0 ≤ p ∧ p < zg v 16 8) ∧ 0 ≤ i ∧ i < zg v 30 p) (zI (zg v 31 (p * 40 + i))) v u) := by
  have e0 := hE.1
  have b0 := hB.1
  have b1 := hB.2.1
  have zz : ∀ a, ¬ a = 79 → zg (zu v 79 2 (zI 0)) a = zg v a := fun a h => funext fun k => zg_na h
  refine e_al0 o173_0 (e_ico o173_1 (e_pI o173_2 L79 rfl rfl rfl rfl 2 rfl (e_al0 o173_5 (e_il1 o173_6 (e_Vi1 o173_7 K173 K168 rfl ⟨rfl, rfl⟩ (zrcv_I L79 rfl) (by omega) rfl (m168 (by omega) hp (by rw [zz 82 (by decide)]; omega)) ?_)))))
  rintro _ _ _ ⟨rfl, rfl, rfl⟩
  rw [zz 82 (by decide), e0]
  refine e_bz_ne o173_10 19 rfl (fun hb10 => ?_) (fun hb10 => ?_)
  · refine e_al0 o173_19 (e_il1 o173_20 (e_il2 o173_21 (e_Vi2 o173_22 K173 K174 rfl ⟨rfl, rfl⟩ (zrcv_I L79 rfl) (by omega) rfl (m174 (EW_z hE) (WB_z hB) hp hi) ?_)))
    rintro _ _ _ ⟨⟨r, rfl, hr⟩, rfl, rfl⟩
    rw [zz 16 (by decide), zz 93 (by decide)] at hr
    have hrr : -1 ≤ r ∧ r < 100 := by rcases hr with ⟨a, b⟩ | ⟨a, b, c, d⟩ <;> omega
    refine e_is3 o173_25 (e_il3 o173_26 (e_ico o173_27 (e_ic_ne o173_28 39 rfl (by first | exact zg_rg _ _ _ | exact zt_rg _ | omega) (by first | exact zg_rg _ _ _ | exact zt_rg _ | omega) (fun hb28 => ?_) (fun hb28 => ?_))))
    · rcases hr with ⟨a, b⟩ | ⟨a, b, c, d⟩
      · exact absurd a hb28
      · have q1 := (hx r a b).1
        have q2 := (hx r a b).2
        obtain ⟨g1, g2, g3, g4, g5, g6⟩ := hC.lt hB.wf a b (by omega)
        refine e_il3 o173_39 (e_rI o173_40 K173 rfl rfl (Or.inl ⟨⟨by omega, by omega, ?_⟩, ?_, rfl, rfl⟩))
        · rw [← c, ← d, q1, q2]; exact g5
        · rw [← c, ← d, q1, q2, g6]
    · refine e_al0 o173_31 (e_ico o173_32 (e_Vi1 o173_33 K173 K133 rfl ⟨rfl, rfl⟩ (zrcv_I L79 rfl) (by omega) rfl m133 ?_))
      rintro _ _ _ ⟨rfl, rfl, rfl⟩
      refine e_goto o173_36 40 rfl ?_
      refine e_rI o173_40 K173 rfl rfl ?_
      refine Or.inr ⟨?_, rfl, rfl, rfl⟩
      rintro ⟨op, oi⟩
      rcases hr with ⟨a, b⟩ | ⟨a, b, c, d⟩
      · obtain ⟨q1, q2, q3, q4⟩ := hC.2.2.1 p op.1 (by omega) i oi.1 oi.2
        refine b _ q1 q2 ⟨?_, ?_⟩
        · rw [(hx _ q1 q2).1]; exact q3
        · rw [(hx _ q1 q2).2]; exact q4
      · omega
  · refine e_al0 o173_13 (e_ico o173_14 (e_Vi1 o173_15 K173 K133 rfl ⟨rfl, rfl⟩ (zrcv_I L79 rfl) (by omega) rfl m133 ?_))
    rintro _ _ _ ⟨rfl, rfl, rfl⟩
    refine e_rI o173_18 K173 rfl rfl ?_
    exact Or.inr ⟨by omega, rfl, rfl, rfl⟩
theorem m189 {p h : Int} {P L : Int → Int} (hd : 4 ≤ d) (hE : EW v) (hB : WB v) (hC : CS v P L) (hx : ∀ s, 0 ≤ s → s < zg v 16 9 → zg v 93 s = P s ∧ zg v 93 (40 + s) = L s) (hp : -2147483648 ≤ p ∧ p < 2147483648) (hh : -2147483648 ≤ h ∧ h < 2147483648) : zEv sc 189 d 0 [.ref 79, .int (zI p), .int (zI h), zJ, zJ, zJ, zJ, zJ, zJ, zJ] [] (zmk v u) 0 0 (mqu ((0 ≤ p ∧ p < zg v 16 8) ∧ 0 ≤ h ∧ h < zg v 16 8) (zI (min (lwF (fun i => trd v h (zg v 31 (p * 40 + i))) (zg v 30 p)).1 (lwF (fun i => trd v h (zg v 31 (p * 40 + i))) (zg v 30 p)).2)) v u) := by
  have e0 := hE.1
  have b0 := hB.1
  have b1 := hB.2.1
  have zz : ∀ a, ¬ a = 79 → zg (zu v 79 2 (zI 0)) a = zg v a := fun a h => funext fun k => zg_na h
  have loop : (0 ≤ p ∧ p < zg v 16 8) → (0 ≤ h ∧ h < zg v 16 8) → ∀ i, 0 ≤ i → i ≤ zg v 30 p → ∀ a7 a8 a9, zEv sc 189 d 46 [.ref 79, .int (zI p), .int (zI h), .int (zI (zg v 30 p)), .int (zI (lwF (fun i => trd v h (zg v 31 (p * 40 + i))) i).2), .int (zI (lwF (fun i => trd v h (zg v 31 (p * 40 + i))) i).1), .int (zI i), a7, a8, a9] [] (zmk (zu v 79 2 (zI 0)) u) 0 0 (mqu ((0 ≤ p ∧ p < zg v 16 8) ∧ 0 ≤ h ∧ h < zg v 16 8) (zI (min (lwF (fun i => trd v h (zg v 31 (p * 40 + i))) (zg v 30 p)).1 (lwF (fun i => trd v h (zg v 31 (p * 40 + i))) (zg v 30 p)).2)) v u) := by
    intro op oh
    have hl := hC.len hB.wf op.1 (show p < 6 by omega)
    have hf : ∀ i, 0 ≤ i → i < zg v 30 p → 0 ≤ (fun i => trd v h (zg v 31 (p * 40 + i))) i ∧ (fun i => trd v h (zg v 31 (p * 40 + i))) i ≤ 15 := by
      intro i i0 i1
      have e := hC.2.2.1 p op.1 (by omega) i i0 i1
      have e2 := hB.2.2.2.2.1 _ e.1 e.2.1
      show 0 ≤ trd v h _ ∧ trd v h _ ≤ 15
      unfold trd
      split <;> omega
    refine zloop ?_
    intro i i0 i1 ih a7 a8 a9
    have hr := lwF_rg hf i i0 i1
    have low : i < 2 → min (lwF (fun i => trd v h (zg v 31 (p * 40 + i))) i).1 (lwF (fun i => trd v h (zg v 31 (p * 40 + i))) i).2 = 0 := by
      intro h2
      rcases (show i = 0 ∨ i = 1 by omega) with e | e
      · subst e; rfl
      · subst e
        have e1 : (lwF (fun i => trd v h (zg v 31 (p * 40 + i))) 1).1 = 0 := by
          rw [show (1 : Int) = 0 + 1 by rfl, lwF_succ (by omega)]; rfl
        omega
    rw [lwF_succ i0] at ih
    have fst0 : i = 0 → min (lwF (fun i => trd v h (zg v 31 (p * 40 + i))) i).1 (lwF (fun i => trd v h (zg v 31 (p * 40 + i))) i).2 = 0 := fun e => low (by omega)
    have fin : i = zg v 30 p → lwF (fun i => trd v h (zg v 31 (p * 40 + i))) i = lwF (fun i => trd v h (zg v 31 (p * 40 + i))) (zg v 30 p) := fun e => by rw [e]
    have hx2 : i < zg v 30 p → ∀ r, ((r = -1 ∧ ∀ s, 0 ≤ s → s < zg v 16 9 → ¬ (zg v 93 s = p ∧ zg v 93 (40 + s) = i)) ∨ (0 ≤ r ∧ r < zg v 16 9 ∧ zg v 93 r = p ∧ zg v 93 (40 + r) = i)) → r = zg v 31 (p * 40 + i) := by
      intro hi r hr
      obtain ⟨q1, q2, q3, q4⟩ := hC.2.2.1 p op.1 (by omega) i i0 hi
      rcases hr with ⟨a, b⟩ | ⟨a, b, c, d⟩
      · exact absurd ⟨by rw [(hx _ q1 q2).1]; exact q3, by rw [(hx _ q1 q2).2]; exact q4⟩ (b _ q1 q2)
      · have y1 := (hx r a b).1
        have y2 := (hx r a b).2
        obtain ⟨g1, g2, g3, g4, g5, g6⟩ := hC.lt hB.wf a b (by omega)
        rw [← c, ← d, y1, y2, g6]
    have tr : ∀ s, trd v h s = 10 - zg v 20 s + (if zg v 19 s = h then 0 else 5) := fun s => rfl
    revert ih hr low fst0 fin
    generalize lwF (fun i => trd v h (zg v 31 (p * 40 + i))) i = ab
    intro ih hr low fst0 fin
    refine e_il6 o189_46 (e_il3 o189_48 (e_ic_ge o189_49 125 rfl (by first | exact zg_rg _ _ _ | exact zt_rg _ | omega) (by first | exact zg_rg _ _ _ | exact zt_rg _ | omega) (fun hb49 => ?_) (fun hb49 => ?_)))
    · have ei : i = zg v 30 p := by omega
      rw [← fin ei]
      refine e_il3 o189_125 (e_ico o189_126 (e_ic_ge o189_127 134 rfl (by first | exact zg_rg _ _ _ | exact zt_rg _ | omega) (by first | exact zg_rg _ _ _ | exact zt_rg _ | omega) (fun hb127 => ?_) (fun hb127 => ?_)))
      · refine e_il4 o189_134 (e_il5 o189_136 (e_min o189_138 (by omega) rfl (by first | exact zg_rg _ _ _ | exact zt_rg _ | omega) (by first | exact zg_rg _ _ _ | exact zt_rg _ | omega) ?_))
        refine e_rI o189_141 K189 rfl rfl ?_
        first | exact Or.inl ⟨⟨op, oh⟩, by rw [low (by omega)], rfl, rfl⟩ | exact Or.inl ⟨⟨op, oh⟩, by rw [Int.min_comm], rfl, rfl⟩
      · refine e_ico o189_130 (e_goto o189_131 141 rfl ?_)
        refine e_rI o189_141 K189 rfl rfl ?_
        first | exact Or.inl ⟨⟨op, oh⟩, by rw [low (by omega)], rfl, rfl⟩ | exact Or.inl ⟨⟨op, oh⟩, by rw [Int.min_comm], rfl, rfl⟩
    · refine e_al0 o189_52 (e_il1 o189_53 (e_il6 o189_54 (e_Vi2 o189_56 K189 K174 rfl ⟨rfl, rfl⟩ (zrcv_I L79 rfl) (by omega) rfl (m174 (EW_z hE) (WB_z hB) hp (by omega)) ?_)))
      rintro _ _ _ ⟨⟨r, rfl, hr2⟩, rfl, rfl⟩
      rw [zz 16 (by decide), zz 93 (by decide)] at hr2
      rw [hx2 hb49 r hr2]
      obtain ⟨q1, q2, q3, q4⟩ := hC.2.2.1 p op.1 (by omega) i i0 hb49
      have es := hE.2.2.2.2.1 _ q1 q2
      have bs := hB.2.2.2.2.1 _ q1 q2
      refine e_is7 o189_59 (e_bip o189_61 rfl (e_al0 o189_63 (e_gR o189_64 L79 rfl rfl (e_il7 o189_67 (e_ial o189_69 L86 (by omega) (by omega) ?_)))))
      rw [zz 86 (by decide), es.2]
      refine e_sub o189_70 (e_al0 o189_71 (e_gR o189_72 L79 rfl rfl (e_il7 o189_75 (e_ial o189_77 L85 (by omega) (by omega) ?_))))
      rw [zz 85 (by decide), es.1]
      refine e_il2 o189_78 (e_ic_ne o189_79 86 rfl (by first | exact zg_rg _ _ _ | exact zt_rg _ | omega) (by first | exact zg_rg _ _ _ | exact zt_rg _ | omega) (fun hb79 => ?_) (fun hb79 => ?_))
      · refine e_ico o189_86 (e_add o189_87 (e_is8 o189_88 (e_il8 o189_90 (e_il6 o189_92 (e_if_ne o189_94 101 rfl (by first | exact zg_rg _ _ _ | exact zt_rg _ | omega) (fun hb94 => ?_) (fun hb94 => ?_))))))
        · refine e_il4 o189_101 (e_il5 o189_103 (e_min o189_105 (by omega) rfl (by first | exact zg_rg _ _ _ | exact zt_rg _ | omega) (by first | exact zg_rg _ _ _ | exact zt_rg _ | omega) (e_add o189_108 (e_is9 o189_109 (e_il4 o189_111 (e_is5 o189_113 (e_il9 o189_115 (e_is4 o189_117 (e_inc6 o189_119 (e_goto o189_122 46 rfl ?_))))))))))
          have e := ih hb49 (.int (zI (zg v 31 (p * 40 + i)))) (.int (zI (10 - zg v 20 (zg v 31 (p * 40 + i)) + 5))) (.int (zI (10 - zg v 20 (zg v 31 (p * 40 + i)) + 5 + min ab.2 ab.1)))
          rw [tr, if_neg hb79, Int.min_comm ab.1 ab.2, Int.add_comm (min ab.2 ab.1)] at e
          exact e
        · refine e_ico o189_97 (e_goto o189_98 108 rfl (e_add o189_108 (e_is9 o189_109 (e_il4 o189_111 (e_is5 o189_113 (e_il9 o189_115 (e_is4 o189_117 (e_inc6 o189_119 (e_goto o189_122 46 rfl ?_)))))))))
          have e := ih hb49 (.int (zI (zg v 31 (p * 40 + i)))) (.int (zI (10 - zg v 20 (zg v 31 (p * 40 + i)) + 5))) (.int (zI (10 - zg v 20 (zg v 31 (p * 40 + i)) + 5 + 0)))
          rw [tr, if_neg hb79, fst0 hb94, Int.zero_add] at e
          rw [show 10 - zg v 20 (zg v 31 (p * 40 + i)) + 5 + 0 = 10 - zg v 20 (zg v 31 (p * 40 + i)) + 5 by omega] at e ⊢
          exact e
      · refine e_ico o189_82 (e_goto o189_83 87 rfl (e_add o189_87 (e_is8 o189_88 (e_il8 o189_90 (e_il6 o189_92 (e_if_ne o189_94 101 rfl (by first | exact zg_rg _ _ _ | exact zt_rg _ | omega) (fun hb94 => ?_) (fun hb94 => ?_)))))))
        · refine e_il4 o189_101 (e_il5 o189_103 (e_min o189_105 (by omega) rfl (by first | exact zg_rg _ _ _ | exact zt_rg _ | omega) (by first | exact zg_rg _ _ _ | exact zt_rg _ | omega) (e_add o189_108 (e_is9 o189_109 (e_il4 o189_111 (e_is5 o189_113 (e_il9 o189_115 (e_is4 o189_117 (e_inc6 o189_119 (e_goto o189_122 46 rfl ?_))))))))))
          have e := ih hb49 (.int (zI (zg v 31 (p * 40 + i)))) (.int (zI (10 - zg v 20 (zg v 31 (p * 40 + i)) + 0))) (.int (zI (10 - zg v 20 (zg v 31 (p * 40 + i)) + 0 + min ab.2 ab.1)))
          rw [tr, if_pos hb79, Int.min_comm ab.1 ab.2, Int.add_comm (min ab.2 ab.1)] at e
          exact e
        · refine e_ico o189_97 (e_goto o189_98 108 rfl (e_add o189_108 (e_is9 o189_109 (e_il4 o189_111 (e_is5 o189_113 (e_il9 o189_115 (e_is4 o189_117 (e_inc6 o189_119 (e_goto o189_122 46 rfl ?_)))))))))
          have e := ih hb49 (.int (zI (zg v 31 (p * 40 + i)))) (.int (zI (10 - zg v 20 (zg v 31 (p * 40 + i)) + 0))) (.int (zI (10 - zg v 20 (zg v 31 (p * 40 + i)) + 0 + 0)))
          rw [tr, if_pos hb79, fst0 hb94, Int.zero_add] at e
          rw [show 10 - zg v 20 (zg v 31 (p * 40 + i)) + 0 + 0 = 10 - zg v 20 (zg v 31 (p * 40 + i)) + 0 by omega] at e ⊢
          exact e
  refine e_al0 o189_0 (e_ico o189_1 (e_pI o189_2 L79 rfl rfl rfl rfl 2 rfl (e_al0 o189_5 (e_il1 o189_6 (e_Vi1 o189_7 K189 K168 rfl ⟨rfl, rfl⟩ (zrcv_I L79 rfl) (by omega) rfl (m168 (by omega) hp (by rw [zz 82 (by decide)]; omega)) ?_)))))
  rintro _ _ _ ⟨rfl, rfl, rfl⟩
  rw [zz 82 (by decide), e0]
  refine e_bz_eq o189_10 21 rfl (fun hb10 => ?_) (fun hb10 => ?_)
  · refine e_al0 o189_21 (e_ico o189_22 (e_Vi1 o189_23 K189 K133 rfl ⟨rfl, rfl⟩ (zrcv_I L79 rfl) (by omega) rfl m133 ?_))
    rintro _ _ _ ⟨rfl, rfl, rfl⟩
    refine e_rI o189_26 K189 rfl rfl ?_
    exact Or.inr ⟨by omega, rfl, rfl, rfl⟩
  · refine e_al0 o189_13 (e_il2 o189_14 (e_Vi1 o189_15 K189 K168 rfl ⟨rfl, rfl⟩ (zrcv_I L79 rfl) (by omega) rfl (m168 (by omega) hh (by rw [zz 82 (by decide)]; omega)) ?_))
    rintro _ _ _ ⟨rfl, rfl, rfl⟩
    rw [zz 82 (by decide), e0]
    refine e_bz_ne o189_18 27 rfl (fun hb18 => ?_) (fun hb18 => ?_)
    · refine e_al0 o189_27 (e_al0 o189_28 (e_gR o189_29 L79 rfl rfl (e_il1 o189_32 (e_Vi2 o189_33 K189 K165 rfl ⟨rfl, rfl⟩ (zrcv_I L79 rfl) (by omega) rfl (m165 rfl (EW_z hE) (WB_z hB) hp) ?_))))
      rintro _ _ _ ⟨rfl, rfl, rfl⟩
      rw [zz 93 (by decide), zz 16 (by decide), cnt_ext (P := zg v 93) (R := P) (p := p) (n := zg v 16 9) (fun s s0 s1 => by rw [(hx s s0 s1).1]), ← hC.2.1 p (by omega) (by omega)]
      refine e_is3 o189_36 (e_ico o189_37 (e_is4 o189_38 (e_ico o189_40 (e_is5 o189_41 (e_ico o189_43 (e_is6 o189_44 ?_))))))
      exact loop (by omega) (by omega) 0 (by omega) (hC.len hB.wf (by omega) (by omega)).1 _ _ _
    · refine e_al0 o189_21 (e_ico o189_22 (e_Vi1 o189_23 K189 K133 rfl ⟨rfl, rfl⟩ (zrcv_I L79 rfl) (by omega) rfl m133 ?_))
      rintro _ _ _ ⟨rfl, rfl, rfl⟩
      refine e_rI o189_26 K189 rfl rfl ?_
      exact Or.inr ⟨by omega, rfl, rfl, rfl⟩
end
