def cpSK (v : zV) : zV := zcp (zcp (zcp (v) 30 49 0 0 6) 31 50 0 0 240) 32 51 0 0 36
def cpVK (v : zV) : zV := zu (zu (zcp (zcp (zcp (v) 34 53 0 0 180) 36 55 0 0 240) 37 56 0 0 186) 52 0 (zI (zg (zcp (zcp (zcp (v) 34 53 0 0 180) 36 55 0 0 240) 37 56 0 0 186) 33 0))) 52 1 (zI (zg (zu (zcp (zcp (zcp (v) 34 53 0 0 180) 36 55 0 0 240) 37 56 0 0 186) 52 0 (zI (zg (zcp (zcp (zcp (v) 34 53 0 0 180) 36 55 0 0 240) 37 56 0 0 186) 33 0))) 33 1))
def cpTK (v : zV) : zV := zu (zu (zcp (zcp (zcp (zcp (zcp (zcp (zcp (v) 38 57 0 0 5) 39 58 0 0 4) 40 59 0 0 4) 41 60 0 0 10) 42 61 0 0 10) 43 62 0 0 10) 44 63 0 0 3) 47 9 (zI (zg (zcp (zcp (zcp (zcp (zcp (zcp (zcp (v) 38 57 0 0 5) 39 58 0 0 4) 40 59 0 0 4) 41 60 0 0 10) 42 61 0 0 10) 43 62 0 0 10) 44 63 0 0 3) 28 9))) 47 10 (zI (zg (zu (zcp (zcp (zcp (zcp (zcp (zcp (zcp (v) 38 57 0 0 5) 39 58 0 0 4) 40 59 0 0 4) 41 60 0 0 10) 42 61 0 0 10) 43 62 0 0 10) 44 63 0 0 3) 47 9 (zI (zg (zcp (zcp (zcp (zcp (zcp (zcp (zcp (v) 38 57 0 0 5) 39 58 0 0 4) 40 59 0 0 4) 41 60 0 0 10) 42 61 0 0 10) 43 62 0 0 10) 44 63 0 0 3) 28 9))) 28 10))
def cpUK (u : zU) : zU := zcpL u 35 54 0 0 30
section
variable {sc : Nat × (Nat → Int32)} {d : Nat} {v : zV} {u : zU}
theorem c26K (hd : 1 ≤ d) : zEv sc 26 d 0 [.ref 48, .ref 29] [] (zmk v u) 0 0 (zdo (cpSK v) u) := by
  refine e_al1 o26_0 (e_gR o26_1 L29 rfl rfl (e_ico o26_4 (e_al0 o26_5 (e_gR o26_6 L48 rfl rfl (e_ico o26_9 (e_bip o26_10 rfl (e_cpy o26_12 (by omega) rfl L30 L49 (by omega) (by omega) (by omega) (by omega) (by omega) (e_al1 o26_15 (e_gR o26_16 L29 rfl rfl (e_ico o26_19 (e_al0 o26_20 (e_gR o26_21 L48 rfl rfl (e_ico o26_24 (e_sip o26_25 rfl (e_cpy o26_28 (by omega) rfl L31 L50 (by omega) (by omega) (by omega) (by omega) (by omega) (e_al1 o26_31 (e_gR o26_32 L29 rfl rfl (e_ico o26_35 (e_al0 o26_36 (e_gR o26_37 L48 rfl rfl (e_ico o26_40 (e_bip o26_41 rfl (e_cpy o26_43 (by omega) rfl L32 L51 (by omega) (by omega) (by omega) (by omega) (by omega) ?_)))))))))))))))))))))))
  refine e_rV o26_46 K26 rfl rfl ?_
  exact ⟨rfl, rfl⟩
theorem c56K (hd : 1 ≤ d) : zEv sc 56 d 0 [.ref 52, .ref 33] [] (zmk v u) 0 0 (zdo (cpVK v) (cpUK u)) := by
  refine e_al1 o56_0 (e_gR o56_1 L33 rfl rfl (e_ico o56_4 (e_al0 o56_5 (e_gR o56_6 L52 rfl rfl (e_ico o56_9 (e_sip o56_10 rfl (e_cpy o56_13 (by omega) rfl L34 L53 (by omega) (by omega) (by omega) (by omega) (by omega) (e_al1 o56_16 (e_gR o56_17 L33 rfl rfl (e_ico o56_20 (e_al0 o56_21 (e_gR o56_22 L52 rfl rfl (e_ico o56_25 (e_bip o56_26 rfl (e_cpyL o56_28 (by omega) rfl L35 L54 (by omega) (by omega) (by omega) (by omega) (by omega) (e_al1 o56_31 (e_gR o56_32 L33 rfl rfl (e_ico o56_35 (e_al0 o56_36 (e_gR o56_37 L52 rfl rfl (e_ico o56_40 (e_sip o56_41 rfl (e_cpy o56_44 (by omega) rfl L36 L55 (by omega) (by omega) (by omega) (by omega) (by omega) (e_al1 o56_47 (e_gR o56_48 L33 rfl rfl (e_ico o56_51 (e_al0 o56_52 (e_gR o56_53 L52 rfl rfl (e_ico o56_56 (e_sip o56_57 rfl (e_cpy o56_60 (by omega) rfl L37 L56 (by omega) (by omega) (by omega) (by omega) (by omega) (e_al0 o56_63 (e_al1 o56_64 (e_gI o56_65 L33 rfl 0 rfl (e_pI o56_68 L52 rfl rfl rfl rfl 0 rfl (e_al0 o56_71 (e_al1 o56_72 (e_gI o56_73 L33 rfl 1 rfl (e_pI o56_76 L52 rfl rfl rfl rfl 1 rfl ?_)))))))))))))))))))))))))))))))))))))))
  refine e_rV o56_79 K56 rfl rfl ?_
  exact ⟨rfl, rfl⟩
theorem c11K (hd : 2 ≤ d) : zEv sc 11 d 0 [.ref 47, .ref 28] [] (zmk v u) 0 0 (zdo (cpTK (cpVK (cpSK v))) (cpUK u)) := by
  refine e_al0 o11_0 (e_gR o11_1 L47 rfl rfl (e_al1 o11_4 (e_gR o11_5 L28 rfl rfl (e_Vv1 o11_8 K11 K26 rfl ⟨rfl, rfl⟩ (zrcv_I L48 rfl) (by omega) rfl (c26K (by omega)) ?_))))
  rintro _ _ ⟨rfl, rfl⟩
  refine e_al0 o11_11 (e_gR o11_12 L47 rfl rfl (e_al1 o11_15 (e_gR o11_16 L28 rfl rfl (e_Vv1 o11_19 K11 K56 rfl ⟨rfl, rfl⟩ (zrcv_I L52 rfl) (by omega) rfl (c56K (by omega)) ?_))))
  rintro _ _ ⟨rfl, rfl⟩
  refine e_al1 o11_22 (e_gR o11_23 L28 rfl rfl (e_ico o11_26 (e_al0 o11_27 (e_gR o11_28 L47 rfl rfl (e_ico o11_31 (e_ico o11_32 (e_cpy o11_33 (by omega) rfl L38 L57 (by omega) (by omega) (by omega) (by omega) (by omega) (e_al1 o11_36 (e_gR o11_37 L28 rfl rfl (e_ico o11_40 (e_al0 o11_41 (e_gR o11_42 L47 rfl rfl (e_ico o11_45 (e_ico o11_46 (e_cpy o11_47 (by omega) rfl L39 L58 (by omega) (by omega) (by omega) (by omega) (by omega) (e_al1 o11_50 (e_gR o11_51 L28 rfl rfl (e_ico o11_54 (e_al0 o11_55 (e_gR o11_56 L47 rfl rfl (e_ico o11_59 (e_ico o11_60 (e_cpy o11_61 (by omega) rfl L40 L59 (by omega) (by omega) (by omega) (by omega) (by omega) (e_al1 o11_64 (e_gR o11_65 L28 rfl rfl (e_ico o11_68 (e_al0 o11_69 (e_gR o11_70 L47 rfl rfl (e_ico o11_73 (e_bip o11_74 rfl (e_cpy o11_76 (by omega) rfl L41 L60 (by omega) (by omega) (by omega) (by omega) (by omega) (e_al1 o11_79 (e_gR o11_80 L28 rfl rfl (e_ico o11_83 (e_al0 o11_84 (e_gR o11_85 L47 rfl rfl (e_ico o11_88 (e_bip o11_89 rfl (e_cpy o11_91 (by omega) rfl L42 L61 (by omega) (by omega) (by omega) (by omega) (by omega) (e_al1 o11_94 (e_gR o11_95 L28 rfl rfl (e_ico o11_98 (e_al0 o11_99 (e_gR o11_100 L47 rfl rfl (e_ico o11_103 (e_bip o11_104 rfl (e_cpy o11_106 (by omega) rfl L43 L62 (by omega) (by omega) (by omega) (by omega) (by omega) (e_al1 o11_109 (e_gR o11_110 L28 rfl rfl (e_ico o11_113 (e_al0 o11_114 (e_gR o11_115 L47 rfl rfl (e_ico o11_118 (e_ico o11_119 (e_cpy o11_120 (by omega) rfl L44 L63 (by omega) (by omega) (by omega) (by omega) (by omega) (e_al0 o11_123 (e_al1 o11_124 (e_gI o11_125 L28 rfl 9 rfl (e_pI o11_128 L47 rfl rfl rfl rfl 9 rfl (e_al0 o11_131 (e_al1 o11_132 (e_gI o11_133 L28 rfl 10 rfl (e_pI o11_136 L47 rfl rfl rfl rfl 10 rfl ?_)))))))))))))))))))))))))))))))))))))))))))))))))))))))))))))))
  refine e_rV o11_139 K11 rfl rfl ?_
  exact ⟨rfl, rfl⟩
end
def cpSN (v : zV) : zV := zcp (zcp (zcp (v) 49 30 0 0 6) 50 31 0 0 240) 51 32 0 0 36
def cpVN (v : zV) : zV := zu (zu (zcp (zcp (zcp (v) 53 34 0 0 180) 55 36 0 0 240) 56 37 0 0 186) 33 0 (zI (zg (zcp (zcp (zcp (v) 53 34 0 0 180) 55 36 0 0 240) 56 37 0 0 186) 52 0))) 33 1 (zI (zg (zu (zcp (zcp (zcp (v) 53 34 0 0 180) 55 36 0 0 240) 56 37 0 0 186) 33 0 (zI (zg (zcp (zcp (zcp (v) 53 34 0 0 180) 55 36 0 0 240) 56 37 0 0 186) 52 0))) 52 1))
def cpTN (v : zV) : zV := zu (zu (zcp (zcp (zcp (zcp (zcp (zcp (zcp (v) 57 38 0 0 5) 58 39 0 0 4) 59 40 0 0 4) 60 41 0 0 10) 61 42 0 0 10) 62 43 0 0 10) 63 44 0 0 3) 28 9 (zI (zg (zcp (zcp (zcp (zcp (zcp (zcp (zcp (v) 57 38 0 0 5) 58 39 0 0 4) 59 40 0 0 4) 60 41 0 0 10) 61 42 0 0 10) 62 43 0 0 10) 63 44 0 0 3) 47 9))) 28 10 (zI (zg (zu (zcp (zcp (zcp (zcp (zcp (zcp (zcp (v) 57 38 0 0 5) 58 39 0 0 4) 59 40 0 0 4) 60 41 0 0 10) 61 42 0 0 10) 62 43 0 0 10) 63 44 0 0 3) 28 9 (zI (zg (zcp (zcp (zcp (zcp (zcp (zcp (zcp (v) 57 38 0 0 5) 58 39 0 0 4) 59 40 0 0 4) 60 41 0 0 10) 61 42 0 0 10) 62 43 0 0 10) 63 44 0 0 3) 47 9))) 47 10))
def cpUN (u : zU) : zU := zcpL u 54 35 0 0 30
section
variable {sc : Nat × (Nat → Int32)} {d : Nat} {v : zV} {u : zU}
theorem c26N (hd : 1 ≤ d) : zEv sc 26 d 0 [.ref 29, .ref 48] [] (zmk v u) 0 0 (zdo (cpSN v) u) := by
  refine e_al1 o26_0 (e_gR o26_1 L48 rfl rfl (e_ico o26_4 (e_al0 o26_5 (e_gR o26_6 L29 rfl rfl (e_ico o26_9 (e_bip o26_10 rfl (e_cpy o26_12 (by omega) rfl L49 L30 (by omega) (by omega) (by omega) (by omega) (by omega) (e_al1 o26_15 (e_gR o26_16 L48 rfl rfl (e_ico o26_19 (e_al0 o26_20 (e_gR o26_21 L29 rfl rfl (e_ico o26_24 (e_sip o26_25 rfl (e_cpy o26_28 (by omega) rfl L50 L31 (by omega) (by omega) (by omega) (by omega) (by omega) (e_al1 o26_31 (e_gR o26_32 L48 rfl rfl (e_ico o26_35 (e_al0 o26_36 (e_gR o26_37 L29 rfl rfl (e_ico o26_40 (e_bip o26_41 rfl (e_cpy o26_43 (by omega) rfl L51 L32 (by omega) (by omega) (by omega) (by omega) (by omega) ?_)))))))))))))))))))))))
  refine e_rV o26_46 K26 rfl rfl ?_
  exact ⟨rfl, rfl⟩
theorem c56N (hd : 1 ≤ d) : zEv sc 56 d 0 [.ref 33, .ref 52] [] (zmk v u) 0 0 (zdo (cpVN v) (cpUN u)) := by
  refine e_al1 o56_0 (e_gR o56_1 L52 rfl rfl (e_ico o56_4 (e_al0 o56_5 (e_gR o56_6 L33 rfl rfl (e_ico o56_9 (e_sip o56_10 rfl (e_cpy o56_13 (by omega) rfl L53 L34 (by omega) (by omega) (by omega) (by omega) (by omega) (e_al1 o56_16 (e_gR o56_17 L52 rfl rfl (e_ico o56_20 (e_al0 o56_21 (e_gR o56_22 L33 rfl rfl (e_ico o56_25 (e_bip o56_26 rfl (e_cpyL o56_28 (by omega) rfl L54 L35 (by omega) (by omega) (by omega) (by omega) (by omega) (e_al1 o56_31 (e_gR o56_32 L52 rfl rfl (e_ico o56_35 (e_al0 o56_36 (e_gR o56_37 L33 rfl rfl (e_ico o56_40 (e_sip o56_41 rfl (e_cpy o56_44 (by omega) rfl L55 L36 (by omega) (by omega) (by omega) (by omega) (by omega) (e_al1 o56_47 (e_gR o56_48 L52 rfl rfl (e_ico o56_51 (e_al0 o56_52 (e_gR o56_53 L33 rfl rfl (e_ico o56_56 (e_sip o56_57 rfl (e_cpy o56_60 (by omega) rfl L56 L37 (by omega) (by omega) (by omega) (by omega) (by omega) (e_al0 o56_63 (e_al1 o56_64 (e_gI o56_65 L52 rfl 0 rfl (e_pI o56_68 L33 rfl rfl rfl rfl 0 rfl (e_al0 o56_71 (e_al1 o56_72 (e_gI o56_73 L52 rfl 1 rfl (e_pI o56_76 L33 rfl rfl rfl rfl 1 rfl ?_)))))))))))))))))))))))))))))))))))))))
  refine e_rV o56_79 K56 rfl rfl ?_
  exact ⟨rfl, rfl⟩
theorem c11N (hd : 2 ≤ d) : zEv sc 11 d 0 [.ref 28, .ref 47] [] (zmk v u) 0 0 (zdo (cpTN (cpVN (cpSN v))) (cpUN u)) := by
  refine e_al0 o11_0 (e_gR o11_1 L28 rfl rfl (e_al1 o11_4 (e_gR o11_5 L47 rfl rfl (e_Vv1 o11_8 K11 K26 rfl ⟨rfl, rfl⟩ (zrcv_I L29 rfl) (by omega) rfl (c26N (by omega)) ?_))))
  rintro _ _ ⟨rfl, rfl⟩
  refine e_al0 o11_11 (e_gR o11_12 L28 rfl rfl (e_al1 o11_15 (e_gR o11_16 L47 rfl rfl (e_Vv1 o11_19 K11 K56 rfl ⟨rfl, rfl⟩ (zrcv_I L33 rfl) (by omega) rfl (c56N (by omega)) ?_))))
  rintro _ _ ⟨rfl, rfl⟩
  refine e_al1 o11_22 (e_gR o11_23 L47 rfl rfl (e_ico o11_26 (e_al0 o11_27 (e_gR o11_28 L28 rfl rfl (e_ico o11_31 (e_ico o11_32 (e_cpy o11_33 (by omega) rfl L57 L38 (by omega) (by omega) (by omega) (by omega) (by omega) (e_al1 o11_36 (e_gR o11_37 L47 rfl rfl (e_ico o11_40 (e_al0 o11_41 (e_gR o11_42 L28 rfl rfl (e_ico o11_45 (e_ico o11_46 (e_cpy o11_47 (by omega) rfl L58 L39 (by omega) (by omega) (by omega) (by omega) (by omega) (e_al1 o11_50 (e_gR o11_51 L47 rfl rfl (e_ico o11_54 (e_al0 o11_55 (e_gR o11_56 L28 rfl rfl (e_ico o11_59 (e_ico o11_60 (e_cpy o11_61 (by omega) rfl L59 L40 (by omega) (by omega) (by omega) (by omega) (by omega) (e_al1 o11_64 (e_gR o11_65 L47 rfl rfl (e_ico o11_68 (e_al0 o11_69 (e_gR o11_70 L28 rfl rfl (e_ico o11_73 (e_bip o11_74 rfl (e_cpy o11_76 (by omega) rfl L60 L41 (by omega) (by omega) (by omega) (by omega) (by omega) (e_al1 o11_79 (e_gR o11_80 L47 rfl rfl (e_ico o11_83 (e_al0 o11_84 (e_gR o11_85 L28 rfl rfl (e_ico o11_88 (e_bip o11_89 rfl (e_cpy o11_91 (by omega) rfl L61 L42 (by omega) (by omega) (by omega) (by omega) (by omega) (e_al1 o11_94 (e_gR o11_95 L47 rfl rfl (e_ico o11_98 (e_al0 o11_99 (e_gR o11_100 L28 rfl rfl (e_ico o11_103 (e_bip o11_104 rfl (e_cpy o11_106 (by omega) rfl L62 L43 (by omega) (by omega) (by omega) (by omega) (by omega) (e_al1 o11_109 (e_gR o11_110 L47 rfl rfl (e_ico o11_113 (e_al0 o11_114 (e_gR o11_115 L28 rfl rfl (e_ico o11_118 (e_ico o11_119 (e_cpy o11_120 (by omega) rfl L63 L44 (by omega) (by omega) (by omega) (by omega) (by omega) (e_al0 o11_123 (e_al1 o11_124 (e_gI o11_125 L47 rfl 9 rfl (e_pI o11_128 L28 rfl rfl rfl rfl 9 rfl (e_al0 o11_131 (e_al1 o11_132 (e_gI o11_133 L47 rfl 10 rfl (e_pI o11_136 L28 rfl rfl rfl rfl 10 rfl ?_)))))))))))))))))))))))))))))))))))))))))))))))))))))))))))))))
  refine e_rV o11_139 K11 rfl rfl ?_
  exact ⟨rfl, rfl⟩
end
section
variable {sc : Nat × (Nat → Int32)} {d : Nat} {v : zV} {u : zU}
theorem c104 (hd : 3 ≤ d) : zEv sc 104 d 0 [.ref 0] [] (zmk v u) 0 0 (zdo (zu (cpTK (cpVK (cpSK v))) 0 6 (zI 1)) (cpUK u)) := by
  refine e_al0 o104_0 (e_gR o104_1 L0 rfl rfl (e_al0 o104_4 (e_gR o104_5 L0 rfl rfl (e_Vv1 o104_8 K104 K11 rfl ⟨rfl, rfl⟩ (zrcv_I L47 rfl) (by omega) rfl (c11K (by omega)) ?_))))
  rintro _ _ ⟨rfl, rfl⟩
  refine e_al0 o104_11 (e_ico o104_12 (e_pI o104_13 L0 rfl rfl rfl rfl 6 rfl ?_))
  refine e_rV o104_16 K104 rfl rfl ?_
  exact ⟨rfl, rfl⟩
theorem c105 (hd : 3 ≤ d) (h : zg v 0 6 = 0 ∨ zg v 0 6 = 1) : zEv sc 105 d 0 [.ref 0] [] (zmk v u) 0 0 (zPi fun r w t => (zg v 0 6 = 0 ∧ zI 0 = r ∧ v = w ∧ u = t) ∨ (zg v 0 6 = 1 ∧ zI 1 = r ∧ cpTN (cpVN (cpSN v)) = w ∧ cpUN u = t)) := by
  have e : zg (cpTN (cpVN (cpSN v))) 0 6 = zg v 0 6 := by simp [zg, cpTN, cpVN, cpSN, zcp, zu]
  refine e_al0 o105_0 (e_gI o105_1 L0 rfl 6 rfl (e_if_eq o105_4 18 rfl (by first | exact zg_rg _ _ _ | exact zt_rg _ | omega) (fun hb4 => ?_) (fun hb4 => ?_)))
  · refine e_al0 o105_18 (e_gI o105_19 L0 rfl 6 rfl ?_)
    first | rw [e, show zg v 0 6 = 1 by omega] | rw [hb4]
    refine e_rI o105_22 K105 (by decide) rfl ?_
    first | exact Or.inl ⟨by first | rfl | omega, rfl, rfl, rfl⟩ | exact Or.inr ⟨by first | rfl | omega, rfl, rfl, rfl⟩
  · refine e_al0 o105_7 (e_gR o105_8 L0 rfl rfl (e_al0 o105_11 (e_gR o105_12 L0 rfl rfl (e_Vv1 o105_15 K105 K11 rfl ⟨rfl, rfl⟩ (zrcv_I L28 rfl) (by omega) rfl (c11N (by omega)) ?_))))
    rintro _ _ ⟨rfl, rfl⟩
    refine e_al0 o105_18 (e_gI o105_19 L0 rfl 6 rfl ?_)
    first | rw [e, show zg v 0 6 = 1 by omega] | rw [hb4]
    refine e_rI o105_22 K105 (by decide) rfl ?_
    first | exact Or.inl ⟨by first | rfl | omega, rfl, rfl, rfl⟩ | exact Or.inr ⟨by first | rfl | omega, rfl, rfl, rfl⟩
theorem m195 {a b n m : Nat} (ha : zLay[a]? = some (0, n, [])) (hb : zLay[b]? = some (0, m, [])) (hn : n ≤ m) (hab : ¬ a = b) : zEv sc 195 d 0 [.ref a, .ref b, zJ] [] (zmk v u) 0 0 (zdo (zcp v b a 0 0 n) u) := by
  have hz : n ≤ 60000 := zLay_n ha (by simp)
  have loop : ∀ k, 0 ≤ k → k ≤ (n : Int) → zEv sc 195 d 2 [.ref a, .ref b, .int (zI k)] [] (zmk (zcp v b a 0 0 k) u) 0 0 (zdo (zcp v b a 0 0 n) u) := by
    refine zloop ?_
    intro k k0 k1 ih
    have e : zg (zcp v b a 0 0 k) b k = zg v b k := by simp only [zg, zcp]; rw [if_neg (fun z => hab z.1.symm)]
    refine e_il2 o195_2 (e_al0 o195_3 (e_len o195_4 ha (e_ic_ge o195_5 20 rfl (by first | exact zg_rg _ _ _ | exact zt_rg _ | omega) (by first | exact zg_rg _ _ _ | exact zt_rg _ | omega) (fun hb5 => ?_) (fun hb5 => ?_))))
    · refine e_rV o195_20 K195 rfl rfl ?_
      have e : k = n := by omega
      subst e
      exact ⟨rfl, rfl⟩
    · refine e_al0 o195_8 (e_il2 o195_9 (e_al1 o195_10 (e_il2 o195_11 (e_ial o195_12 hb (by omega) (by omega) ?_))))
      rw [e]
      refine e_iast o195_13 ha (by omega) (by omega) (e_inc2 o195_14 (e_goto o195_17 2 rfl ?_))
      refine zEv_w (ih (by omega)) ?_
      rw [zcp_step k0, zI_g, Int.zero_add]
  refine e_ico o195_0 (e_is2 o195_1 ?_)
  have e := loop 0 (by omega) (by omega)
  rw [show zcp v b a 0 0 0 = v from by funext c k; simp only [zcp]; rw [if_neg (by omega)]] at e
  exact e
end
