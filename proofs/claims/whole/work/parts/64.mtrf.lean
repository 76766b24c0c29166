/-! tariffs of the reference -/
def enc (z : Int) : Int := if -6 ≤ z then z else if z = -13 then -28 else if z = -14 then -26 else if z = -15 then -27 else z - 13
section
variable {sc : Nat × (Nat → Int32)} {d : Nat} {v v0 : zV} {u : zU}
theorem m184 {z : Int} {l r : Int32} (hz : -15 ≤ z) (hz1 : z ≤ -7) (hz2 : ¬ z = -13) : zEv sc 184 d 0 [.int (zI (enc z)), .int l, .int r] [] (zmk v u) 0 0 (zis (jn z l r) v u) := by
  rcases (show z = -7 ∨ z = -8 ∨ z = -9 ∨ z = -10 ∨ z = -11 ∨ z = -12 ∨ z = -14 ∨ z = -15 by omega) with e | e | e | e | e | e | e | e <;> subst e
  · refine e_il0 o184_0 (e_sw 43 o184_1 44 rfl rfl ?_)
    refine e_il1 o184_44 (e_il2 o184_45 (e_addR o184_46 ?_))
    refine e_rI o184_47 K184 rfl rfl ?_
    exact ⟨rfl, rfl, rfl⟩
  · refine e_il0 o184_0 (e_sw 47 o184_1 48 rfl rfl ?_)
    refine e_il1 o184_48 (e_il2 o184_49 (e_subR o184_50 ?_))
    refine e_rI o184_51 K184 rfl rfl ?_
    exact ⟨rfl, rfl, rfl⟩
  · refine e_il0 o184_0 (e_sw 51 o184_1 52 rfl rfl ?_)
    refine e_il1 o184_52 (e_il2 o184_53 (e_mulR o184_54 ?_))
    refine e_rI o184_55 K184 rfl rfl ?_
    exact ⟨rfl, rfl, rfl⟩
  · refine e_il0 o184_0 (e_sw 55 o184_1 56 rfl rfl ?_)
    refine e_il2 o184_56 (e_iz_ne o184_57 64 rfl (fun hb57 => ?_) (fun hb57 => ?_))
    · refine e_il1 o184_64 (e_il2 o184_65 (e_divR o184_66 hb57 ?_))
      refine e_rI o184_67 K184 rfl rfl ?_
      first | exact ⟨(if_neg hb57 : (if r = 0 then (0 : Int32) else l / r) = l / r), rfl, rfl⟩ | exact ⟨(if_pos hb57 : (if r = 0 then (0 : Int32) else l / r) = 0), rfl, rfl⟩
    · refine e_ico o184_60 (e_goto o184_61 67 rfl ?_)
      refine e_rI o184_67 K184 rfl rfl ?_
      first | exact ⟨(if_neg hb57 : (if r = 0 then (0 : Int32) else l / r) = l / r), rfl, rfl⟩ | exact ⟨(if_pos hb57 : (if r = 0 then (0 : Int32) else l / r) = 0), rfl, rfl⟩
  · refine e_il0 o184_0 (e_sw 67 o184_1 68 rfl rfl ?_)
    refine e_il1 o184_68 (e_il2 o184_69 (e_ir_ge o184_70 77 rfl (fun hb70 => ?_) (fun hb70 => ?_)))
    · refine e_ico o184_77 ?_
      refine e_rI o184_78 K184 rfl rfl ?_
      first | exact ⟨(if_pos (by have := hb70; rw [Int32.lt_iff_toInt_lt]; rw [Int32.le_iff_toInt_le] at this; omega) : (if l < r then (1 : Int32) else 0) = 1), rfl, rfl⟩ | exact ⟨(if_neg (by have := hb70; rw [Int32.lt_iff_toInt_lt]; rw [Int32.le_iff_toInt_le] at this; omega) : (if l < r then (1 : Int32) else 0) = 0), rfl, rfl⟩
    · refine e_ico o184_73 (e_goto o184_74 78 rfl ?_)
      refine e_rI o184_78 K184 rfl rfl ?_
      first | exact ⟨(if_pos (by have := hb70; rw [Int32.lt_iff_toInt_lt]; rw [Int32.le_iff_toInt_le] at this; omega) : (if l < r then (1 : Int32) else 0) = 1), rfl, rfl⟩ | exact ⟨(if_neg (by have := hb70; rw [Int32.lt_iff_toInt_lt]; rw [Int32.le_iff_toInt_le] at this; omega) : (if l < r then (1 : Int32) else 0) = 0), rfl, rfl⟩
  · refine e_il0 o184_0 (e_sw 78 o184_1 79 rfl rfl ?_)
    refine e_il1 o184_79 (e_il2 o184_80 (e_ir_ne o184_81 88 rfl (fun hb81 => ?_) (fun hb81 => ?_)))
    · refine e_ico o184_88 ?_
      refine e_rI o184_89 K184 rfl rfl ?_
      first | exact ⟨(if_pos hb81 : (if l = r then (1 : Int32) else 0) = 1), rfl, rfl⟩ | exact ⟨(if_neg hb81 : (if l = r then (1 : Int32) else 0) = 0), rfl, rfl⟩
    · refine e_ico o184_84 (e_goto o184_85 89 rfl ?_)
      refine e_rI o184_89 K184 rfl rfl ?_
      first | exact ⟨(if_pos hb81 : (if l = r then (1 : Int32) else 0) = 1), rfl, rfl⟩ | exact ⟨(if_neg hb81 : (if l = r then (1 : Int32) else 0) = 0), rfl, rfl⟩
  · refine e_il0 o184_0 (e_sw 89 o184_1 90 rfl rfl ?_)
    refine e_il1 o184_90 (e_iz_eq o184_91 102 rfl (fun hb91 => ?_) (fun hb91 => ?_))
    · refine e_ico o184_102 ?_
      refine e_rI o184_103 K184 rfl rfl ?_
      refine ⟨?_, rfl, rfl⟩
      show (if ¬ l = 0 ∧ ¬ r = 0 then (1 : Int32) else 0) = _
      first | (rw [if_pos (by exact ⟨hb91, hb95⟩)]; rfl) | (rw [if_neg (by first | exact fun e => e.1 hb91 | exact fun e => e.2 hb95)]; rfl)
    · refine e_il2 o184_94 (e_iz_eq o184_95 102 rfl (fun hb95 => ?_) (fun hb95 => ?_))
      · refine e_ico o184_102 ?_
        refine e_rI o184_103 K184 rfl rfl ?_
        refine ⟨?_, rfl, rfl⟩
        show (if ¬ l = 0 ∧ ¬ r = 0 then (1 : Int32) else 0) = _
        first | (rw [if_pos (by exact ⟨hb91, hb95⟩)]; rfl) | (rw [if_neg (by first | exact fun e => e.1 hb91 | exact fun e => e.2 hb95)]; rfl)
      · refine e_ico o184_98 (e_goto o184_99 103 rfl ?_)
        refine e_rI o184_103 K184 rfl rfl ?_
        refine ⟨?_, rfl, rfl⟩
        show (if ¬ l = 0 ∧ ¬ r = 0 then (1 : Int32) else 0) = _
        first | (rw [if_pos (by exact ⟨hb91, hb95⟩)]; rfl) | (rw [if_neg (by first | exact fun e => e.1 hb91 | exact fun e => e.2 hb95)]; rfl)
  · refine e_il0 o184_0 (e_sw 103 o184_1 104 rfl rfl ?_)
    refine e_il1 o184_104 (e_iz_ne o184_105 112 rfl (fun hb105 => ?_) (fun hb105 => ?_))
    · refine e_ico o184_112 (e_goto o184_113 117 rfl ?_)
      refine e_rI o184_117 K184 rfl rfl ?_
      refine ⟨?_, rfl, rfl⟩
      show (if ¬ l = 0 ∨ ¬ r = 0 then (1 : Int32) else 0) = _
      first | (rw [if_pos (by first | exact Or.inl hb105 | exact Or.inr hb109)]; rfl) | (rw [if_neg (by exact fun e => e.elim (fun h => h hb105) (fun h => h hb109))]; rfl)
    · refine e_il2 o184_108 (e_iz_eq o184_109 116 rfl (fun hb109 => ?_) (fun hb109 => ?_))
      · refine e_ico o184_116 ?_
        refine e_rI o184_117 K184 rfl rfl ?_
        refine ⟨?_, rfl, rfl⟩
        show (if ¬ l = 0 ∨ ¬ r = 0 then (1 : Int32) else 0) = _
        first | (rw [if_pos (by first | exact Or.inl hb105 | exact Or.inr hb109)]; rfl) | (rw [if_neg (by exact fun e => e.elim (fun h => h hb105) (fun h => h hb109))]; rfl)
      · refine e_ico o184_112 (e_goto o184_113 117 rfl ?_)
        refine e_rI o184_117 K184 rfl rfl ?_
        refine ⟨?_, rfl, rfl⟩
        show (if ¬ l = 0 ∨ ¬ r = 0 then (1 : Int32) else 0) = _
        first | (rw [if_pos (by first | exact Or.inl hb105 | exact Or.inr hb109)]; rfl) | (rw [if_neg (by exact fun e => e.elim (fun h => h hb105) (fun h => h hb109))]; rfl)
theorem m183 {sv : Int → Int} {n : Int} (hd : 1 ≤ d) (hW : WT sv n) (hn : zg v 82 3 = n) (hs : ∀ i, 0 ≤ i → i < n → zg v 90 i = enc (sv i)) : zEv sc 183 d 0 [.ref 79, zJ, zJ, zJ] [] (zmk v u) 0 0 (zPi fun x v' u' => tres sv (v 97) n = x ∧ (∀ a k, ¬ a = 98 → v' a k = v a k) ∧ u = u') := by
  obtain ⟨n0, n1, hi, hl⟩ := hW
  have loop : ∀ i, 0 ≤ i → i ≤ n → ∀ w y, (∀ a k, ¬ a = 98 → w a k = v a k) → (∀ j, 0 ≤ j → j < dpt sv i → w 98 j = (tev sv (v 97) i).1 j) → (i = 0 → w 98 0 = 0) → zEv sc 183 d 11 [.ref 79, .int (zI (dpt sv i)), .int (zI i), y] [] (zmk w u) 0 0 (zPi fun x v' u' => tres sv (v 97) n = x ∧ (∀ a k, ¬ a = 98 → v' a k = v a k) ∧ u = u') := by
    refine zloop ?_
    intro i i0 i1 ih w y hf hT h0
    have e82 : zg w 82 3 = n := by rw [← hn]; simp only [zg]; rw [hf 82 3 (by omega)]
    have e90 : zg w 90 i = zg v 90 i := by simp only [zg]; rw [hf 90 i (by omega)]
    have t2 := tev_2 sv (v 97) i i0
    have nx : i < n → ∀ (j : Int) (X : Int32), 0 ≤ j → j < 64 → (∀ q, 0 ≤ q → q < dpt sv (i + 1) → (if q = j then X else (tev sv (v 97) i).1 q) = (tev sv (v 97) (i + 1)).1 q) → (∀ q, 0 ≤ q → q < dpt sv (i + 1) → ¬ q = j → q < dpt sv i) → ∀ y, zEv sc 183 d 11 [.ref 79, .int (zI (dpt sv (i + 1))), .int (zI (i + 1)), y] [] (zmk (zu w 98 j X) u) 0 0 (zPi fun x v' u' => tres sv (v 97) n = x ∧ (∀ a k, ¬ a = 98 → v' a k = v a k) ∧ u = u') := by
      intro hin j X j0 j1 hX hq y
      refine ih hin _ _ (fun a k h => by rw [zu_ne (fun e => h e.1)]; exact hf a k h) ?_ (fun e => by omega)
      intro q q0 q1
      rw [← hX q q0 q1]
      by_cases e : q = j
      · rw [e, zu_same, if_pos rfl]
      · rw [zu_ne (fun z => e z.2), if_neg e]
        exact hT q q0 (hq q q0 q1 e)
    have d1 : dpt sv (i + 1) = dnx (sv i) (dpt sv i) := zfo_succ i0
    have v1 : tev sv (v 97) (i + 1) = tnx (sv i) (v 97) (tev sv (v 97) i) := zfo_succ i0
    rw [d1, v1] at nx
    refine e_il2 o183_11 (e_al0 o183_12 (e_gR o183_13 L79 rfl rfl (e_ico o183_16 (e_ial o183_17 L82 (by omega) (by omega) ?_))))
    rw [e82]
    refine e_ic_ge o183_18 130 rfl (by first | exact zg_rg _ _ _ | exact zt_rg _ | omega) (by first | exact zg_rg _ _ _ | exact zt_rg _ | omega) (fun hb18 => ?_) (fun hb18 => ?_)
    · have ei : i = n := by omega
      subst ei
      refine e_al0 o183_130 (e_gR o183_131 L79 rfl rfl (e_ico o183_134 (e_ial o183_135 L98 (by omega) (by omega) ?_)))
      refine e_rI o183_136 K183 rfl rfl ?_
      refine ⟨?_, hf, rfl⟩
      rw [zI_g, tres]
      by_cases c : i = 0
      · rw [if_pos c, h0 c]
      · rw [if_neg c]
        exact (hT 0 (by omega) (by rw [hl (by omega)]; decide)).symm
    · have hsi := hi i i0 hb18
      have es := hs i i0 hb18
      rw [← e90] at es
      have enr : -28 ≤ enc (sv i) ∧ enc (sv i) ≤ 9999 := by unfold enc; split <;> (try split) <;> (try split) <;> (try split) <;> omega
      refine e_al0 o183_21 (e_gR o183_22 L79 rfl rfl (e_il2 o183_25 (e_ial o183_26 L90 (by omega) (by omega) ?_)))
      rw [es]
      refine e_is3 o183_27 (e_il3 o183_28 (e_bip o183_29 rfl (e_ic_le o183_31 62 rfl (by first | exact zg_rg _ _ _ | exact zt_rg _ | omega) (by first | exact zg_rg _ _ _ | exact zt_rg _ | omega) (fun hb31 => ?_) (fun hb31 => ?_))))
      · have hz6 : ¬ -6 ≤ sv i := by
          intro hc
          rw [enc, if_pos hc] at hb31
          omega
        have hd1 := hsi.2.2.2.2.1 (by omega)
        refine e_il3 o183_62 (e_bip o183_63 rfl (e_ic_ne o183_65 95 rfl (by first | exact zg_rg _ _ _ | exact zt_rg _ | omega) (by first | exact zg_rg _ _ _ | exact zt_rg _ | omega) (fun hb65 => ?_) (fun hb65 => ?_)))
        · have hz13 : ¬ sv i = -13 := by
            intro hc
            rw [enc, if_neg hz6, if_pos hc] at hb65
            omega
          have hd2 := hsi.2.2.2.2.2 (by omega) hz13
          refine e_inc1 o183_95 (e_al0 o183_98 (e_gR o183_99 L79 rfl rfl (e_il1 o183_102 (e_ico o183_103 (e_sub o183_104 (e_il3 o183_105 (e_al0 o183_106 (e_gR o183_107 L79 rfl rfl (e_il1 o183_110 (e_ico o183_111 (e_sub o183_112 (e_ial o183_113 L98 (by omega) (by omega) (e_al0 o183_114 (e_gR o183_115 L79 rfl rfl (e_il1 o183_118 (e_ial o183_119 L98 (by omega) (by omega) ?_))))))))))))))))
          rw [show dpt sv i + -1 = dpt sv i - 1 by omega, show dpt sv i - 1 - 1 = dpt sv i - 2 by omega, show zg w 98 (dpt sv i - 1) = ((tev sv (v 97) i).1 (dpt sv i - 1)).toInt by simp only [zg]; rw [hT _ (by omega) (by omega)], show zg w 98 (dpt sv i - 2) = ((tev sv (v 97) i).1 (dpt sv i - 2)).toInt by simp only [zg]; rw [hT _ (by omega) (by omega)], zI_t, zI_t]
          refine e_Si3 o183_120 K183 K184 rfl ⟨rfl, rfl⟩ (by omega) rfl (m184 hsi.1 (by omega) hz13) ?_
          rintro _ _ _ ⟨rfl, rfl, rfl⟩
          refine e_iast o183_123 L98 (by omega) (by omega) (e_inc2 o183_124 (e_goto o183_127 11 rfl ?_))
          first | (have e := nx hb18 (dpt sv i) (zI (sv i)) (by omega) (by omega) (fun q q0 q1 => by rw [tnx, if_pos hz6]; show (if _ then _ else _) = if _ then _ else _; rw [t2, if_pos hb40]) (fun q q0 q1 h => by rw [dnx, if_pos hz6] at q1; omega) (.int (zI (sv i))); rw [dnx, if_pos hz6] at e; exact e) | (have e := nx hb18 (dpt sv i) (v 97 (-1 - sv i)) (by omega) (by omega) (fun q q0 q1 => by rw [tnx, if_pos hz6]; show (if _ then _ else _) = if _ then _ else _; rw [t2, if_neg (show ¬ 0 ≤ sv i by omega)]) (fun q q0 q1 h => by rw [dnx, if_pos hz6] at q1; omega) (.int (zI (sv i))); rw [dnx, if_pos hz6, ← zI_g v 97 (-1 - sv i)] at e; exact e) | (have e := nx hb18 (dpt sv i - 1) (if (tev sv (v 97) i).1 (dpt sv i - 1) = 0 then 1 else 0) (by omega) (by omega) (fun q q0 q1 => by rw [tnx, if_neg hz6, if_pos hz13]; show (if _ then _ else _) = if _ then _ else _; rw [t2]) (fun q q0 q1 h => by rw [dnx, if_neg hz6, if_pos hz13] at q1; omega) (.int (zI (enc (sv i)))); rw [dnx, if_neg hz6, if_pos hz13] at e; first | (rw [if_pos (by rw [← Int32.toInt_inj]; exact hb83)] at e; exact e) | (rw [if_neg (by rw [← Int32.toInt_inj]; exact hb83)] at e; exact e)) | (have e := nx hb18 (dpt sv i - 2) (jn (sv i) ((tev sv (v 97) i).1 (dpt sv i - 2)) ((tev sv (v 97) i).1 (dpt sv i - 1))) (by omega) (by omega) (fun q q0 q1 => by rw [tnx, if_neg hz6, if_neg hz13]; show (if _ then _ else _) = if _ then _ else _; rw [t2]) (fun q q0 q1 h => by rw [dnx, if_neg hz6, if_neg hz13] at q1; omega) (.int (zI (enc (sv i)))); rw [dnx, if_neg hz6, if_neg hz13] at e; exact e)
        · have hz13 : sv i = -13 := by
            unfold enc at hb65
            rw [if_neg hz6] at hb65
            apply Classical.byContradiction
            intro hc
            rw [if_neg hc] at hb65
            split at hb65 <;> (try split at hb65) <;> omega
          refine e_al0 o183_68 (e_gR o183_69 L79 rfl rfl (e_il1 o183_72 (e_ico o183_73 (e_sub o183_74 (e_al0 o183_75 (e_gR o183_76 L79 rfl rfl (e_il1 o183_79 (e_ico o183_80 (e_sub o183_81 (e_ial o183_82 L98 (by omega) (by omega) ?_))))))))))
          rw [show zg w 98 (dpt sv i - 1) = ((tev sv (v 97) i).1 (dpt sv i - 1)).toInt by simp only [zg]; rw [hT _ (by omega) (by omega)]]
          refine e_if_eq o183_83 90 rfl (by first | exact zg_rg _ _ _ | exact zt_rg _ | omega) (fun hb83 => ?_) (fun hb83 => ?_)
          · refine e_ico o183_90 (e_iast o183_91 L98 (by omega) (by omega) (e_goto o183_92 124 rfl (e_inc2 o183_124 (e_goto o183_127 11 rfl ?_))))
            first | (have e := nx hb18 (dpt sv i) (zI (sv i)) (by omega) (by omega) (fun q q0 q1 => by rw [tnx, if_pos hz6]; show (if _ then _ else _) = if _ then _ else _; rw [t2, if_pos hb40]) (fun q q0 q1 h => by rw [dnx, if_pos hz6] at q1; omega) (.int (zI (sv i))); rw [dnx, if_pos hz6] at e; exact e) | (have e := nx hb18 (dpt sv i) (v 97 (-1 - sv i)) (by omega) (by omega) (fun q q0 q1 => by rw [tnx, if_pos hz6]; show (if _ then _ else _) = if _ then _ else _; rw [t2, if_neg (show ¬ 0 ≤ sv i by omega)]) (fun q q0 q1 h => by rw [dnx, if_pos hz6] at q1; omega) (.int (zI (sv i))); rw [dnx, if_pos hz6, ← zI_g v 97 (-1 - sv i)] at e; exact e) | (have e := nx hb18 (dpt sv i - 1) (if (tev sv (v 97) i).1 (dpt sv i - 1) = 0 then 1 else 0) (by omega) (by omega) (fun q q0 q1 => by rw [tnx, if_neg hz6, if_pos hz13]; show (if _ then _ else _) = if _ then _ else _; rw [t2]) (fun q q0 q1 h => by rw [dnx, if_neg hz6, if_pos hz13] at q1; omega) (.int (zI (enc (sv i)))); rw [dnx, if_neg hz6, if_pos hz13] at e; first | (rw [if_pos (by rw [← Int32.toInt_inj]; exact hb83)] at e; exact e) | (rw [if_neg (by rw [← Int32.toInt_inj]; exact hb83)] at e; exact e)) | (have e := nx hb18 (dpt sv i - 2) (jn (sv i) ((tev sv (v 97) i).1 (dpt sv i - 2)) ((tev sv (v 97) i).1 (dpt sv i - 1))) (by omega) (by omega) (fun q q0 q1 => by rw [tnx, if_neg hz6, if_neg hz13]; show (if _ then _ else _) = if _ then _ else _; rw [t2]) (fun q q0 q1 h => by rw [dnx, if_neg hz6, if_neg hz13] at q1; omega) (.int (zI (enc (sv i)))); rw [dnx, if_neg hz6, if_neg hz13] at e; exact e)
          · refine e_ico o183_86 (e_goto o183_87 91 rfl (e_iast o183_91 L98 (by omega) (by omega) (e_goto o183_92 124 rfl (e_inc2 o183_124 (e_goto o183_127 11 rfl ?_)))))
            first | (have e := nx hb18 (dpt sv i) (zI (sv i)) (by omega) (by omega) (fun q q0 q1 => by rw [tnx, if_pos hz6]; show (if _ then _ else _) = if _ then _ else _; rw [t2, if_pos hb40]) (fun q q0 q1 h => by rw [dnx, if_pos hz6] at q1; omega) (.int (zI (sv i))); rw [dnx, if_pos hz6] at e; exact e) | (have e := nx hb18 (dpt sv i) (v 97 (-1 - sv i)) (by omega) (by omega) (fun q q0 q1 => by rw [tnx, if_pos hz6]; show (if _ then _ else _) = if _ then _ else _; rw [t2, if_neg (show ¬ 0 ≤ sv i by omega)]) (fun q q0 q1 h => by rw [dnx, if_pos hz6] at q1; omega) (.int (zI (sv i))); rw [dnx, if_pos hz6, ← zI_g v 97 (-1 - sv i)] at e; exact e) | (have e := nx hb18 (dpt sv i - 1) (if (tev sv (v 97) i).1 (dpt sv i - 1) = 0 then 1 else 0) (by omega) (by omega) (fun q q0 q1 => by rw [tnx, if_neg hz6, if_pos hz13]; show (if _ then _ else _) = if _ then _ else _; rw [t2]) (fun q q0 q1 h => by rw [dnx, if_neg hz6, if_pos hz13] at q1; omega) (.int (zI (enc (sv i)))); rw [dnx, if_neg hz6, if_pos hz13] at e; first | (rw [if_pos (by rw [← Int32.toInt_inj]; exact hb83)] at e; exact e) | (rw [if_neg (by rw [← Int32.toInt_inj]; exact hb83)] at e; exact e)) | (have e := nx hb18 (dpt sv i - 2) (jn (sv i) ((tev sv (v 97) i).1 (dpt sv i - 2)) ((tev sv (v 97) i).1 (dpt sv i - 1))) (by omega) (by omega) (fun q q0 q1 => by rw [tnx, if_neg hz6, if_neg hz13]; show (if _ then _ else _) = if _ then _ else _; rw [t2]) (fun q q0 q1 h => by rw [dnx, if_neg hz6, if_neg hz13] at q1; omega) (.int (zI (enc (sv i)))); rw [dnx, if_neg hz6, if_neg hz13] at e; exact e)
      · have hz6 : -6 ≤ sv i := by
          unfold enc at hb31
          apply Classical.byContradiction
          intro hc
          rw [if_neg hc] at hb31
          split at hb31 <;> (try split at hb31) <;> (try split at hb31) <;> omega
        have he : enc (sv i) = sv i := if_pos hz6
        rw [he]
        refine e_al0 o183_34 (e_gR o183_35 L79 rfl rfl (e_il1 o183_38 (e_il3 o183_39 (e_if_lt o183_40 47 rfl (by first | exact zg_rg _ _ _ | exact zt_rg _ | omega) (fun hb40 => ?_) (fun hb40 => ?_)))))
        · refine e_al0 o183_47 (e_gR o183_48 L79 rfl rfl (e_ico o183_51 (e_il3 o183_52 (e_sub o183_53 (e_ial o183_54 L97 (by omega) (by omega) ?_)))))
          first | rw [show zg w 97 (-1 - sv i) = zg v 97 (-1 - sv i) by simp only [zg]; rw [hf 97 _ (by omega)]] | skip
          refine e_iast o183_55 L98 (by omega) (by omega) (e_inc1 o183_56 (e_goto o183_59 124 rfl (e_inc2 o183_124 (e_goto o183_127 11 rfl ?_))))
          first | (have e := nx hb18 (dpt sv i) (zI (sv i)) (by omega) (by omega) (fun q q0 q1 => by rw [tnx, if_pos hz6]; show (if _ then _ else _) = if _ then _ else _; rw [t2, if_pos hb40]) (fun q q0 q1 h => by rw [dnx, if_pos hz6] at q1; omega) (.int (zI (sv i))); rw [dnx, if_pos hz6] at e; exact e) | (have e := nx hb18 (dpt sv i) (v 97 (-1 - sv i)) (by omega) (by omega) (fun q q0 q1 => by rw [tnx, if_pos hz6]; show (if _ then _ else _) = if _ then _ else _; rw [t2, if_neg (show ¬ 0 ≤ sv i by omega)]) (fun q q0 q1 h => by rw [dnx, if_pos hz6] at q1; omega) (.int (zI (sv i))); rw [dnx, if_pos hz6, ← zI_g v 97 (-1 - sv i)] at e; exact e) | (have e := nx hb18 (dpt sv i - 1) (if (tev sv (v 97) i).1 (dpt sv i - 1) = 0 then 1 else 0) (by omega) (by omega) (fun q q0 q1 => by rw [tnx, if_neg hz6, if_pos hz13]; show (if _ then _ else _) = if _ then _ else _; rw [t2]) (fun q q0 q1 h => by rw [dnx, if_neg hz6, if_pos hz13] at q1; omega) (.int (zI (enc (sv i)))); rw [dnx, if_neg hz6, if_pos hz13] at e; first | (rw [if_pos (by rw [← Int32.toInt_inj]; exact hb83)] at e; exact e) | (rw [if_neg (by rw [← Int32.toInt_inj]; exact hb83)] at e; exact e)) | (have e := nx hb18 (dpt sv i - 2) (jn (sv i) ((tev sv (v 97) i).1 (dpt sv i - 2)) ((tev sv (v 97) i).1 (dpt sv i - 1))) (by omega) (by omega) (fun q q0 q1 => by rw [tnx, if_neg hz6, if_neg hz13]; show (if _ then _ else _) = if _ then _ else _; rw [t2]) (fun q q0 q1 h => by rw [dnx, if_neg hz6, if_neg hz13] at q1; omega) (.int (zI (enc (sv i)))); rw [dnx, if_neg hz6, if_neg hz13] at e; exact e)
        · refine e_il3 o183_43 (e_goto o183_44 55 rfl ?_)
          first | rw [show zg w 97 (-1 - sv i) = zg v 97 (-1 - sv i) by simp only [zg]; rw [hf 97 _ (by omega)]] | skip
          refine e_iast o183_55 L98 (by omega) (by omega) (e_inc1 o183_56 (e_goto o183_59 124 rfl (e_inc2 o183_124 (e_goto o183_127 11 rfl ?_))))
          first | (have e := nx hb18 (dpt sv i) (zI (sv i)) (by omega) (by omega) (fun q q0 q1 => by rw [tnx, if_pos hz6]; show (if _ then _ else _) = if _ then _ else _; rw [t2, if_pos hb40]) (fun q q0 q1 h => by rw [dnx, if_pos hz6] at q1; omega) (.int (zI (sv i))); rw [dnx, if_pos hz6] at e; exact e) | (have e := nx hb18 (dpt sv i) (v 97 (-1 - sv i)) (by omega) (by omega) (fun q q0 q1 => by rw [tnx, if_pos hz6]; show (if _ then _ else _) = if _ then _ else _; rw [t2, if_neg (show ¬ 0 ≤ sv i by omega)]) (fun q q0 q1 h => by rw [dnx, if_pos hz6] at q1; omega) (.int (zI (sv i))); rw [dnx, if_pos hz6, ← zI_g v 97 (-1 - sv i)] at e; exact e) | (have e := nx hb18 (dpt sv i - 1) (if (tev sv (v 97) i).1 (dpt sv i - 1) = 0 then 1 else 0) (by omega) (by omega) (fun q q0 q1 => by rw [tnx, if_neg hz6, if_pos hz13]; show (if _ then _ else _) = if _ then _ else _; rw [t2]) (fun q q0 q1 h => by rw [dnx, if_neg hz6, if_pos hz13] at q1; omega) (.int (zI (enc (sv i)))); rw [dnx, if_neg hz6, if_pos hz13] at e; first | (rw [if_pos (by rw [← Int32.toInt_inj]; exact hb83)] at e; exact e) | (rw [if_neg (by rw [← Int32.toInt_inj]; exact hb83)] at e; exact e)) | (have e := nx hb18 (dpt sv i - 2) (jn (sv i) ((tev sv (v 97) i).1 (dpt sv i - 2)) ((tev sv (v 97) i).1 (dpt sv i - 1))) (by omega) (by omega) (fun q q0 q1 => by rw [tnx, if_neg hz6, if_neg hz13]; show (if _ then _ else _) = if _ then _ else _; rw [t2]) (fun q q0 q1 h => by rw [dnx, if_neg hz6, if_neg hz13] at q1; omega) (.int (zI (enc (sv i)))); rw [dnx, if_neg hz6, if_neg hz13] at e; exact e)
  refine e_ico o183_0 (e_is1 o183_1 (e_al0 o183_2 (e_gR o183_3 L79 rfl rfl (e_ico o183_6 (e_ico o183_7 (e_iast o183_8 L98 (by omega) (by omega) (e_ico o183_9 (e_is2 o183_10 ?_))))))))
  exact loop 0 (by omega) (by omega) _ _ (fun a k h => zu_ne (fun e => h e.1)) (fun j j0 j1 => by have : j < 0 := j1; omega) (fun _ => zu_same _ _ _ _)
end
