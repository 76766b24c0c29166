/-! tariffs -/
def jn (z : Int) (l r : Int32) : Int32 := if z = -7 then l + r else if z = -8 then l - r else if z = -9 then l * r else if z = -10 then (if r = 0 then 0 else l / r) else if z = -11 then (if l < r then 1 else 0) else if z = -12 then (if l = r then 1 else 0) else if z = -14 then (if ¬ l = 0 ∧ ¬ r = 0 then 1 else 0) else (if ¬ l = 0 ∨ ¬ r = 0 then 1 else 0)
def tnx (z : Int) (vals : Int → Int32) (s : (Int → Int32) × Int) : (Int → Int32) × Int :=
  if -6 ≤ z then (fun j => if j = s.2 then (if 0 ≤ z then zI z else vals (-1 - z)) else s.1 j, s.2 + 1)
  else if z = -13 then (fun j => if j = s.2 - 1 then (if s.1 (s.2 - 1) = 0 then 1 else 0) else s.1 j, s.2)
  else (fun j => if j = s.2 - 2 then jn z (s.1 (s.2 - 2)) (s.1 (s.2 - 1)) else s.1 j, s.2 - 1)
def dnx (z d : Int) : Int := if -6 ≤ z then d + 1 else if z = -13 then d else d - 1
def dpt (sv : Int → Int) (i : Int) : Int := zfo (fun i d => dnx (sv i) d) 0 i
def tev (sv : Int → Int) (vals : Int → Int32) (i : Int) : (Int → Int32) × Int := zfo (fun i s => tnx (sv i) vals s) (fun _ => 0, 0) i
theorem tnx_2 (z : Int) (vals : Int → Int32) (s : (Int → Int32) × Int) : (tnx z vals s).2 = dnx z s.2 := by
  unfold tnx dnx
  split
  · rfl
  · split <;> rfl
theorem tev_2 (sv : Int → Int) (vals : Int → Int32) : ∀ i, 0 ≤ i → (tev sv vals i).2 = dpt sv i := by
  refine zup rfl ?_
  intro i i0 ih
  unfold tev dpt at ih ⊢
  rw [zfo_succ i0, zfo_succ i0, tnx_2, ih]
/-- the steps can be done with room for 40 -/
def WT (sv : Int → Int) (n : Int) : Prop := 0 ≤ n ∧ n ≤ 600 ∧ (∀ i, 0 ≤ i → i < n → -15 ≤ sv i ∧ sv i ≤ 9999 ∧ 0 ≤ dpt sv i ∧ dpt sv i < 40 ∧ (sv i < -6 → 1 ≤ dpt sv i) ∧ (sv i < -6 → ¬ sv i = -13 → 2 ≤ dpt sv i)) ∧ (0 < n → dpt sv n = 1)
def tres (sv : Int → Int) (vals : Int → Int32) (n : Int) : Int32 := if n = 0 then 0 else (tev sv vals n).1 0
section
variable {sc : Nat × (Nat → Int32)} {d : Nat} {v v0 : zV} {u : zU}
theorem c48 {z : Int} {l r : Int32} (hz : -15 ≤ z) (hz1 : z ≤ -7) (hz2 : ¬ z = -13) : zEv sc 48 d 0 [.int (zI z), .int l, .int r] [] (zmk v u) 0 0 (zis (jn z l r) v u) := by
  rcases (show z = -7 ∨ z = -8 ∨ z = -9 ∨ z = -10 ∨ z = -11 ∨ z = -12 ∨ z = -14 ∨ z = -15 by omega) with e | e | e | e | e | e | e | e <;> subst e
  · refine e_il0 o48_0 (e_sw 47 o48_1 48 rfl rfl ?_)
    refine e_il1 o48_48 (e_il2 o48_49 (e_addR o48_50 ?_))
    refine e_rI o48_51 K48 rfl rfl ?_
    exact ⟨rfl, rfl, rfl⟩
  · refine e_il0 o48_0 (e_sw 51 o48_1 52 rfl rfl ?_)
    refine e_il1 o48_52 (e_il2 o48_53 (e_subR o48_54 ?_))
    refine e_rI o48_55 K48 rfl rfl ?_
    exact ⟨rfl, rfl, rfl⟩
  · refine e_il0 o48_0 (e_sw 55 o48_1 56 rfl rfl ?_)
    refine e_il1 o48_56 (e_il2 o48_57 (e_mulR o48_58 ?_))
    refine e_rI o48_59 K48 rfl rfl ?_
    exact ⟨rfl, rfl, rfl⟩
  · refine e_il0 o48_0 (e_sw 59 o48_1 60 rfl rfl ?_)
    refine e_il2 o48_60 (e_iz_ne o48_61 68 rfl (fun hb61 => ?_) (fun hb61 => ?_))
    · refine e_il1 o48_68 (e_il2 o48_69 (e_divR o48_70 hb61 ?_))
      refine e_rI o48_71 K48 rfl rfl ?_
      first | exact ⟨(if_neg hb61 : (if r = 0 then (0 : Int32) else l / r) = l / r), rfl, rfl⟩ | exact ⟨(if_pos hb61 : (if r = 0 then (0 : Int32) else l / r) = 0), rfl, rfl⟩
    · refine e_ico o48_64 (e_goto o48_65 71 rfl ?_)
      refine e_rI o48_71 K48 rfl rfl ?_
      first | exact ⟨(if_neg hb61 : (if r = 0 then (0 : Int32) else l / r) = l / r), rfl, rfl⟩ | exact ⟨(if_pos hb61 : (if r = 0 then (0 : Int32) else l / r) = 0), rfl, rfl⟩
  · refine e_il0 o48_0 (e_sw 71 o48_1 72 rfl rfl ?_)
    refine e_il1 o48_72 (e_il2 o48_73 (e_ir_ge o48_74 81 rfl (fun hb74 => ?_) (fun hb74 => ?_)))
    · refine e_ico o48_81 ?_
      refine e_rI o48_82 K48 rfl rfl ?_
      first | exact ⟨(if_pos (by have := hb74; rw [Int32.lt_iff_toInt_lt]; rw [Int32.le_iff_toInt_le] at this; omega) : (if l < r then (1 : Int32) else 0) = 1), rfl, rfl⟩ | exact ⟨(if_neg (by have := hb74; rw [Int32.lt_iff_toInt_lt]; rw [Int32.le_iff_toInt_le] at this; omega) : (if l < r then (1 : Int32) else 0) = 0), rfl, rfl⟩
    · refine e_ico o48_77 (e_goto o48_78 82 rfl ?_)
      refine e_rI o48_82 K48 rfl rfl ?_
      first | exact ⟨(if_pos (by have := hb74; rw [Int32.lt_iff_toInt_lt]; rw [Int32.le_iff_toInt_le] at this; omega) : (if l < r then (1 : Int32) else 0) = 1), rfl, rfl⟩ | exact ⟨(if_neg (by have := hb74; rw [Int32.lt_iff_toInt_lt]; rw [Int32.le_iff_toInt_le] at this; omega) : (if l < r then (1 : Int32) else 0) = 0), rfl, rfl⟩
  · refine e_il0 o48_0 (e_sw 82 o48_1 83 rfl rfl ?_)
    refine e_il1 o48_83 (e_il2 o48_84 (e_ir_ne o48_85 92 rfl (fun hb85 => ?_) (fun hb85 => ?_)))
    · refine e_ico o48_92 ?_
      refine e_rI o48_93 K48 rfl rfl ?_
      first | exact ⟨(if_pos hb85 : (if l = r then (1 : Int32) else 0) = 1), rfl, rfl⟩ | exact ⟨(if_neg hb85 : (if l = r then (1 : Int32) else 0) = 0), rfl, rfl⟩
    · refine e_ico o48_88 (e_goto o48_89 93 rfl ?_)
      refine e_rI o48_93 K48 rfl rfl ?_
      first | exact ⟨(if_pos hb85 : (if l = r then (1 : Int32) else 0) = 1), rfl, rfl⟩ | exact ⟨(if_neg hb85 : (if l = r then (1 : Int32) else 0) = 0), rfl, rfl⟩
  · refine e_il0 o48_0 (e_sw 93 o48_1 94 rfl rfl ?_)
    refine e_il1 o48_94 (e_iz_eq o48_95 106 rfl (fun hb95 => ?_) (fun hb95 => ?_))
    · refine e_ico o48_106 ?_
      refine e_rI o48_107 K48 rfl rfl ?_
      refine ⟨?_, rfl, rfl⟩
      show (if ¬ l = 0 ∧ ¬ r = 0 then (1 : Int32) else 0) = _
      first | (rw [if_pos (by exact ⟨hb95, hb99⟩)]; rfl) | (rw [if_neg (by first | exact fun e => e.1 hb95 | exact fun e => e.2 hb99)]; rfl)
    · refine e_il2 o48_98 (e_iz_eq o48_99 106 rfl (fun hb99 => ?_) (fun hb99 => ?_))
      · refine e_ico o48_106 ?_
        refine e_rI o48_107 K48 rfl rfl ?_
        refine ⟨?_, rfl, rfl⟩
        show (if ¬ l = 0 ∧ ¬ r = 0 then (1 : Int32) else 0) = _
        first | (rw [if_pos (by exact ⟨hb95, hb99⟩)]; rfl) | (rw [if_neg (by first | exact fun e => e.1 hb95 | exact fun e => e.2 hb99)]; rfl)
      · refine e_ico o48_102 (e_goto o48_103 107 rfl ?_)
        refine e_rI o48_107 K48 rfl rfl ?_
        refine ⟨?_, rfl, rfl⟩
        show (if ¬ l = 0 ∧ ¬ r = 0 then (1 : Int32) else 0) = _
        first | (rw [if_pos (by exact ⟨hb95, hb99⟩)]; rfl) | (rw [if_neg (by first | exact fun e => e.1 hb95 | exact fun e => e.2 hb99)]; rfl)
  · refine e_il0 o48_0 (e_sw 107 o48_1 108 rfl rfl ?_)
    refine e_il1 o48_108 (e_iz_ne o48_109 116 rfl (fun hb109 => ?_) (fun hb109 => ?_))
    · refine e_ico o48_116 (e_goto o48_117 121 rfl ?_)
      refine e_rI o48_121 K48 rfl rfl ?_
      refine ⟨?_, rfl, rfl⟩
      show (if ¬ l = 0 ∨ ¬ r = 0 then (1 : Int32) else 0) = _
      first | (rw [if_pos (by first | exact Or.inl hb109 | exact Or.inr hb113)]; rfl) | (rw [if_neg (by exact fun e => e.elim (fun h => h hb109) (fun h => h hb113))]; rfl)
    · refine e_il2 o48_112 (e_iz_eq o48_113 120 rfl (fun hb113 => ?_) (fun hb113 => ?_))
      · refine e_ico o48_120 ?_
        refine e_rI o48_121 K48 rfl rfl ?_
        refine ⟨?_, rfl, rfl⟩
        show (if ¬ l = 0 ∨ ¬ r = 0 then (1 : Int32) else 0) = _
        first | (rw [if_pos (by first | exact Or.inl hb109 | exact Or.inr hb113)]; rfl) | (rw [if_neg (by exact fun e => e.elim (fun h => h hb109) (fun h => h hb113))]; rfl)
      · refine e_ico o48_116 (e_goto o48_117 121 rfl ?_)
        refine e_rI o48_121 K48 rfl rfl ?_
        refine ⟨?_, rfl, rfl⟩
        show (if ¬ l = 0 ∨ ¬ r = 0 then (1 : Int32) else 0) = _
        first | (rw [if_pos (by first | exact Or.inl hb109 | exact Or.inr hb113)]; rfl) | (rw [if_neg (by exact fun e => e.elim (fun h => h hb109) (fun h => h hb113))]; rfl)
theorem c46 {x : Int32} (h0 : 0 ≤ zg v 24 4) (h1 : zg v 24 4 < 40) : zEv sc 46 d 0 [.ref 24, .int x] [] (zmk v u) 0 0 (zdo (zu (zu v 27 (zg v 24 4) x) 24 4 (zI (zg v 24 4 + 1))) u) := by
  refine e_al0 o46_0 (e_gI o46_1 L24 rfl 4 rfl (e_bip o46_4 rfl (e_ic_ge o46_6 29 rfl (by first | exact zg_rg _ _ _ | exact zt_rg _ | omega) (by first | exact zg_rg _ _ _ | exact zt_rg _ | omega) (fun hb6 => ?_) (fun hb6 => ?_))))
  · omega
  · refine e_al0 o46_9 (e_gR o46_10 L24 rfl rfl (e_al0 o46_13 (e_gI o46_14 L24 rfl 4 rfl (e_il1 o46_17 (e_iast o46_18 L27 (by omega) (by omega) (e_al0 o46_19 (e_dupR o46_20 (e_gI o46_21 L24 rfl 4 rfl ?_))))))))
    rw [zg_na (by decide)]
    refine e_ico o46_24 (e_add o46_25 (e_pI o46_26 L24 rfl rfl rfl rfl 4 rfl ?_))
    refine e_rV o46_29 K46 rfl rfl ?_
    exact ⟨rfl, rfl⟩
theorem c47 (h0 : 0 < zg v 24 4) (h1 : zg v 24 4 ≤ 40) : zEv sc 47 d 0 [.ref 24] [] (zmk v u) 0 0 (zis (v 27 (zg v 24 4 - 1)) (zu v 24 4 (zI (zg v 24 4 - 1))) u) := by
  refine e_al0 o47_0 (e_gI o47_1 L24 rfl 4 rfl (e_if_gt o47_4 9 rfl (by first | exact zg_rg _ _ _ | exact zt_rg _ | omega) (fun hb4 => ?_) (fun hb4 => ?_)))
  · refine e_al0 o47_9 (e_dupR o47_10 (e_gI o47_11 L24 rfl 4 rfl (e_ico o47_14 (e_sub o47_15 (e_pI o47_16 L24 rfl rfl rfl rfl 4 rfl (e_al0 o47_19 (e_gR o47_20 L24 rfl rfl (e_al0 o47_23 (e_gI o47_24 L24 rfl 4 rfl ?_)))))))))
    rw [zg_same (by omega)]
    refine e_ial o47_27 L27 (by omega) (by omega) ?_
    refine e_rI o47_28 K47 rfl rfl ?_
    exact ⟨by rw [zg_na (by decide), zI_g], rfl, rfl⟩
  · omega
/-- the class's stack -/
def TSk (v : zV) (s : (Int → Int32) × Int) : Prop := zg v 24 4 = s.2 ∧ ∀ j, 0 ≤ j → j < s.2 → v 27 j = s.1 j
theorem c45 {z : Int} {s : (Int → Int32) × Int} (hd : 1 ≤ d) (h : TSk v s) (hz : -15 ≤ z) (hz1 : z ≤ 9999) (h0 : 0 ≤ s.2) (h1 : s.2 < 40) (h2 : z < -6 → 1 ≤ s.2) (h3 : z < -6 → ¬ z = -13 → 2 ≤ s.2) : zEv sc 45 d 0 [.ref 24, .int (zI z), zJ, zJ] [] (zmk v u) 0 0 (zPv fun v' u' => TSk v' (tnx z (v 26) s) ∧ (∀ a k, ¬ a = 27 → ¬ (a = 24 ∧ k = 4) → v' a k = v a k) ∧ u = u') := by
  obtain ⟨e1, e2⟩ := h
  have push : ∀ (w : zV) (x : Int32) (m : Int), zg w 24 4 = m → 0 ≤ m → m < 40 → (∀ a k, ¬ a = 27 → ¬ (a = 24 ∧ k = 4) → w a k = v a k) → (∀ j, 0 ≤ j → j < m → w 27 j = (tnx z (v 26) s).1 j) → (tnx z (v 26) s).2 = m + 1 → (tnx z (v 26) s).1 m = x → TSk (zu (zu w 27 (zg w 24 4) x) 24 4 (zI (zg w 24 4 + 1))) (tnx z (v 26) s) ∧ (∀ a k, ¬ a = 27 → ¬ (a = 24 ∧ k = 4) → zu (zu w 27 (zg w 24 4) x) 24 4 (zI (zg w 24 4 + 1)) a k = v a k) := by
    intro w x m hm m0 m1 hf hj h2 h3
    rw [hm]
    refine ⟨⟨?_, ?_⟩, ?_⟩
    · rw [zg_same (by omega), h2]
    · intro j j0 j1
      rw [h2] at j1
      rw [zu_ne (by omega)]
      by_cases e : j = m
      · rw [e, zu_same, h3]
      · rw [zu_ne (by omega)]
        exact hj j j0 (by omega)
    · intro a k g1 g2
      rw [zu_ne g2, zu_ne (fun e => g1 e.1)]
      exact hf a k g1 g2
  refine e_il1 o45_0 (e_if_lt o45_1 12 rfl (by first | exact zg_rg _ _ _ | exact zt_rg _ | omega) (fun hb1 => ?_) (fun hb1 => ?_))
  · refine e_il1 o45_12 (e_bip o45_13 rfl (e_ic_lt o45_15 33 rfl (by first | exact zg_rg _ _ _ | exact zt_rg _ | omega) (by first | exact zg_rg _ _ _ | exact zt_rg _ | omega) (fun hb15 => ?_) (fun hb15 => ?_)))
    · refine e_il1 o45_33 (e_bip o45_34 rfl (e_ic_ne o45_36 58 rfl (by first | exact zg_rg _ _ _ | exact zt_rg _ | omega) (by first | exact zg_rg _ _ _ | exact zt_rg _ | omega) (fun hb36 => ?_) (fun hb36 => ?_)))
      · refine e_al0 o45_58 (e_Vi0 o45_59 K45 K47 rfl ⟨rfl, rfl⟩ (zrcv_I L24 rfl) (by omega) rfl (c47 (by have := h3 (by omega) hb36; omega) (by omega)) ?_)
        rintro _ _ _ ⟨rfl, rfl, rfl⟩
        have s2 := h3 (by omega) hb36
        refine e_is2 o45_62 (e_al0 o45_63 (e_Vi0 o45_64 K45 K47 rfl ⟨rfl, rfl⟩ (zrcv_I L24 rfl) (by omega) rfl (c47 (by rw [zg_same (by omega)]; omega) (by rw [zg_same (by omega)]; omega)) ?_))
        rintro _ _ _ ⟨rfl, rfl, rfl⟩
        rw [zg_same (by omega), zu_ne (by omega), e1, e2 _ (by omega) (by omega), e2 _ (by omega) (by omega)]
        refine e_is3 o45_67 (e_al0 o45_68 (e_il1 o45_69 (e_il3 o45_70 (e_il2 o45_71 (e_Si3 o45_72 K45 K48 rfl ⟨rfl, rfl⟩ (by omega) rfl (c48 hz (by omega) hb36) ?_)))))
        rintro _ _ _ ⟨rfl, rfl, rfl⟩
        refine e_Vv1 o45_75 K45 K46 rfl ⟨rfl, rfl⟩ (zrcv_I L24 rfl) (by omega) rfl (c46 (by rw [zg_same (by omega)]; omega) (by rw [zg_same (by omega)]; omega)) ?_
        rintro _ _ ⟨rfl, rfl⟩
        obtain ⟨q1, q2⟩ := push (zu (zu v 24 4 (zI (s.2 - 1))) 24 4 (zI (s.2 - 1 - 1))) (jn z (s.1 (s.2 - 1 - 1)) (s.1 (s.2 - 1))) (s.2 - 1 - 1) (zg_same (by omega)) (by omega) (by omega) (fun a k g1 g2 => by rw [zu_ne g2, zu_ne g2]) (fun j j0 j1 => by rw [tnx, if_neg (by omega), if_neg hb36]; show _ = if _ then _ else _; rw [if_neg (by omega), zu_ne (by omega), zu_ne (by omega)]; exact e2 j j0 (by omega)) (by rw [tnx, if_neg (by omega), if_neg hb36]; show s.2 - 1 = _; omega) (by rw [tnx, if_neg (by omega), if_neg hb36]; show (if _ then _ else _) = _; rw [if_pos (by omega), show s.2 - 2 = s.2 - 1 - 1 by omega])
        refine e_rV o45_78 K45 rfl rfl ?_
        exact ⟨q1, q2, rfl⟩
      · refine e_al0 o45_39 (e_al0 o45_40 (e_Vi0 o45_41 K45 K47 rfl ⟨rfl, rfl⟩ (zrcv_I L24 rfl) (by omega) rfl (c47 (by have := h2 (by omega); omega) (by omega)) ?_))
        rintro _ _ _ ⟨rfl, rfl, rfl⟩
        have s1 := h2 (by omega)
        refine e_iz_ne o45_44 51 rfl (fun hb44 => ?_) (fun hb44 => ?_)
        · refine e_ico o45_51 (e_Vv1 o45_52 K45 K46 rfl ⟨rfl, rfl⟩ (zrcv_I L24 rfl) (by omega) rfl (c46 (by rw [zg_same (by omega)]; omega) (by rw [zg_same (by omega)]; omega)) ?_)
          rintro _ _ ⟨rfl, rfl⟩
          rw [e1] at hb44 ⊢
          rw [e2 _ (by omega) (by omega)] at hb44
          obtain ⟨q1, q2⟩ := push (zu v 24 4 (zI (s.2 - 1))) (if s.1 (s.2 - 1) = 0 then 1 else 0) (s.2 - 1) (zg_same (by omega)) (by omega) (by omega) (fun a k g1 g2 => zu_ne g2) (fun j j0 j1 => by rw [tnx, if_neg (by omega), if_pos hb36]; show _ = if _ then _ else _; rw [if_neg (by omega), zu_ne (by omega)]; exact e2 j j0 (by omega)) (by rw [tnx, if_neg (by omega), if_pos hb36]; show s.2 = _; omega) (by rw [tnx, if_neg (by omega), if_pos hb36]; show (if _ then _ else _) = _; rw [if_pos rfl])
          first | rw [if_pos hb44] at q1 q2 | rw [if_neg hb44] at q1 q2
          refine e_goto o45_55 78 rfl ?_
          refine e_rV o45_78 K45 rfl rfl ?_
          exact ⟨q1, q2, rfl⟩
        · refine e_ico o45_47 (e_goto o45_48 52 rfl (e_Vv1 o45_52 K45 K46 rfl ⟨rfl, rfl⟩ (zrcv_I L24 rfl) (by omega) rfl (c46 (by rw [zg_same (by omega)]; omega) (by rw [zg_same (by omega)]; omega)) ?_))
          rintro _ _ ⟨rfl, rfl⟩
          rw [e1] at hb44 ⊢
          rw [e2 _ (by omega) (by omega)] at hb44
          obtain ⟨q1, q2⟩ := push (zu v 24 4 (zI (s.2 - 1))) (if s.1 (s.2 - 1) = 0 then 1 else 0) (s.2 - 1) (zg_same (by omega)) (by omega) (by omega) (fun a k g1 g2 => zu_ne g2) (fun j j0 j1 => by rw [tnx, if_neg (by omega), if_pos hb36]; show _ = if _ then _ else _; rw [if_neg (by omega), zu_ne (by omega)]; exact e2 j j0 (by omega)) (by rw [tnx, if_neg (by omega), if_pos hb36]; show s.2 = _; omega) (by rw [tnx, if_neg (by omega), if_pos hb36]; show (if _ then _ else _) = _; rw [if_pos rfl])
          first | rw [if_pos hb44] at q1 q2 | rw [if_neg hb44] at q1 q2
          refine e_goto o45_55 78 rfl ?_
          refine e_rV o45_78 K45 rfl rfl ?_
          exact ⟨q1, q2, rfl⟩
    · refine e_al0 o45_18 (e_al0 o45_19 (e_gR o45_20 L24 rfl rfl (e_ico o45_23 (e_il1 o45_24 (e_sub o45_25 (e_ial o45_26 L26 (by omega) (by omega) (e_Vv1 o45_27 K45 K46 rfl ⟨rfl, rfl⟩ (zrcv_I L24 rfl) (by omega) rfl (c46 (by omega) (by omega)) ?_)))))))
      rintro _ _ ⟨rfl, rfl⟩
      obtain ⟨q1, q2⟩ := push v (zI (zg v 26 (-1 - z))) s.2 e1 h0 h1 (fun _ _ _ _ => rfl) (fun j j0 j1 => by rw [tnx, if_pos (by omega)]; show _ = if _ then _ else _; rw [if_neg (by omega)]; exact e2 j j0 j1) (by rw [tnx, if_pos (by omega)]) (by rw [tnx, if_pos (by omega)]; show (if _ then _ else _) = _; rw [if_pos rfl, if_neg (by omega), zI_g])
      refine e_goto o45_30 78 rfl ?_
      refine e_rV o45_78 K45 rfl rfl ?_
      exact ⟨q1, q2, rfl⟩
  · refine e_al0 o45_4 (e_il1 o45_5 (e_Vv1 o45_6 K45 K46 rfl ⟨rfl, rfl⟩ (zrcv_I L24 rfl) (by omega) rfl (c46 (by omega) (by omega)) ?_))
    rintro _ _ ⟨rfl, rfl⟩
    obtain ⟨q1, q2⟩ := push v (zI z) s.2 e1 h0 h1 (fun _ _ _ _ => rfl) (fun j j0 j1 => by rw [tnx, if_pos (by omega)]; show _ = if _ then _ else _; rw [if_neg (by omega)]; exact e2 j j0 j1) (by rw [tnx, if_pos (by omega)]) (by rw [tnx, if_pos (by omega)]; show (if _ then _ else _) = _; rw [if_pos rfl, if_pos hb1])
    refine e_goto o45_9 78 rfl ?_
    refine e_rV o45_78 K45 rfl rfl ?_
    exact ⟨q1, q2, rfl⟩
theorem c44 (hd : 2 ≤ d) (hW : WT (zg v 25) (zg v 24 3)) : zEv sc 44 d 0 [.ref 24, zJ] [] (zmk v u) 0 0 (zPi fun x v' u' => tres (zg v 25) (v 26) (zg v 24 3) = x ∧ (∀ a k, ¬ a = 27 → ¬ (a = 24 ∧ k = 4) → v' a k = v a k) ∧ u = u') := by
  obtain ⟨n0, n1, hs, hn⟩ := hW
  have loop : ∀ i, 0 ≤ i → i ≤ zg v 24 3 → ∀ w, (∀ a k, ¬ a = 27 → ¬ (a = 24 ∧ k = 4) → w a k = v a k) → TSk w (tev (zg v 25) (v 26) i) → 0 < zg v 24 3 → zEv sc 44 d 16 [.ref 24, .int (zI i)] [] (zmk w u) 0 0 (zPi fun x v' u' => tres (zg v 25) (v 26) (zg v 24 3) = x ∧ (∀ a k, ¬ a = 27 → ¬ (a = 24 ∧ k = 4) → v' a k = v a k) ∧ u = u') := by
    refine zloop ?_
    intro i i0 i1 ih w hf hT hp
    have e243 : zg w 24 3 = zg v 24 3 := by simp only [zg]; rw [hf 24 3 (by omega) (by omega)]
    have e25 : zg w 25 i = zg v 25 i := by simp only [zg]; rw [hf 25 i (by omega) (by omega)]
    have e26 : w 26 = v 26 := funext fun k => hf 26 k (by omega) (by omega)
    have t2 := tev_2 (zg v 25) (v 26) i i0
    refine e_il1 o44_16 (e_al0 o44_17 (e_gI o44_18 L24 rfl 3 rfl ?_))
    rw [e243]
    refine e_ic_ge o44_21 47 rfl (by first | exact zg_rg _ _ _ | exact zt_rg _ | omega) (by first | exact zg_rg _ _ _ | exact zt_rg _ | omega) (fun hb21 => ?_) (fun hb21 => ?_)
    · have ei : i = zg v 24 3 := by omega
      subst ei
      have hq := hT.1
      rw [t2, hn hp] at hq
      refine e_al0 o44_47 (e_Vi0 o44_48 K44 K47 rfl ⟨rfl, rfl⟩ (zrcv_I L24 rfl) (by omega) rfl (c47 (by omega) (by omega)) ?_)
      rintro _ _ _ ⟨rfl, rfl, rfl⟩
      refine e_rI o44_51 K44 rfl rfl ?_
      refine ⟨?_, fun a k h1 h2 => by rw [zu_ne h2]; exact hf a k h1 h2, rfl⟩
      rw [tres, if_neg (by omega), hq]
      exact (hT.2 0 (by omega) (by rw [t2, hn hp]; decide)).symm
    · have hsi := hs i i0 hb21
      refine e_il1 o44_24 (e_sip o44_25 rfl (e_ic_ge o44_28 47 rfl (by first | exact zg_rg _ _ _ | exact zt_rg _ | omega) (by first | exact zg_rg _ _ _ | exact zt_rg _ | omega) (fun hb28 => ?_) (fun hb28 => ?_)))
      · omega
      · refine e_al0 o44_31 (e_al0 o44_32 (e_gR o44_33 L24 rfl rfl (e_il1 o44_36 (e_ial o44_37 L25 (by omega) (by omega) ?_))))
        rw [e25]
        refine e_Vv1 o44_38 K44 K45 rfl ⟨rfl, rfl⟩ (zrcv_I L24 rfl) (by omega) rfl (c45 (by omega) hT hsi.1 hsi.2.1 (by omega) (by omega) (fun h => by have := hsi.2.2.2.2.1 h; omega) (fun h h' => by have := hsi.2.2.2.2.2 h h'; omega)) ?_
        rintro w' _ ⟨g1, g2, rfl⟩
        rw [e26] at g1
        refine e_inc1 o44_41 (e_goto o44_44 16 rfl ?_)
        refine ih hb21 w' (fun a k h1 h2 => by rw [g2 a k h1 h2]; exact hf a k h1 h2) ?_ hp
        unfold tev
        rw [zfo_succ i0]
        exact g1
  refine e_al0 o44_0 (e_gI o44_1 L24 rfl 3 rfl (e_if_ne o44_4 9 rfl (by first | exact zg_rg _ _ _ | exact zt_rg _ | omega) (fun hb4 => ?_) (fun hb4 => ?_)))
  · refine e_al0 o44_9 (e_ico o44_10 (e_pI o44_11 L24 rfl rfl rfl rfl 4 rfl (e_ico o44_14 (e_is1 o44_15 ?_))))
    exact loop 0 (by omega) (by omega) _ (fun a k h1 h2 => zu_ne h2) ⟨zg_same (by omega), fun j j0 j1 => by have : j < 0 := j1; omega⟩ (by omega)
  · refine e_ico o44_7 ?_
    refine e_rI o44_8 K44 rfl rfl ?_
    exact ⟨by rw [tres, if_pos hb4]; rfl, fun _ _ _ _ => rfl, rfl⟩
end
