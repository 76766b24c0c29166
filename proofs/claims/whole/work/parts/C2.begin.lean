/-! a new world in the class -/
def cpW0 (v : zV) : zV := zcp (zcp (zcp (zcp (zcp (zcp (zcp v 5 17 0 0 6) 6 18 0 0 6) 7 19 0 0 40) 8 20 0 0 40) 9 21 0 0 5) 10 22 0 0 5) 11 23 0 0 5
def cpTf (v : zV) : zV := zu (zcp v 13 25 0 0 600) 24 3 (zI (zg (zcp v 13 25 0 0 600) 12 3))
def cpWa (v : zV) : zV := zu v 16 8 (zI (zg v 4 8))
def cpWb (v : zV) : zV := zu v 16 9 (zI (zg v 4 9))
def cpWc (v : zV) : zV := zu v 16 10 (zI (zg v 4 10))
/-- the world that is told is D -/
def TD (D : Dr) (w : zV) : Prop := (zg w 16 8 = D.np ∧ zg w 16 9 = D.ns ∧ zg w 16 10 = D.nk) ∧ (∀ i, 0 ≤ i → i < D.np → zg w 17 i = D.need i ∧ zg w 18 i = D.weight i) ∧ (∀ i, 0 ≤ i → i < D.ns → zg w 19 i = D.origin i ∧ zg w 20 i = D.square i) ∧ (∀ i, 0 ≤ i → i < D.nk → zg w 21 i = D.kind i ∧ zg w 22 i = D.hold i ∧ zg w 23 i = D.home i) ∧ zg w 24 3 = D.L.length ∧ ∀ i : Nat, i < D.L.length → zg w 25 i = D.L.getD i 0
def FT (v w : zV) : Prop := ∀ a q, ¬ (16 ≤ a ∧ a ≤ 25) → w a q = v a q
section
variable {sc : Nat × (Nat → Int32)} {d : Nat} {v w : zV} {u : zU} {D : Dr}
theorem c42 (hd : 1 ≤ d) : zEv sc 42 d 0 [.ref 24, .ref 12] [] (zmk v u) 0 0 (zdo (cpTf v) u) := by
  refine e_al1 o42_0 (e_gR o42_1 L12 rfl rfl (e_ico o42_4 (e_al0 o42_5 (e_gR o42_6 L24 rfl rfl (e_ico o42_9 (e_sip o42_10 rfl (e_cpy o42_13 (by omega) rfl L13 L25 (by omega) (by omega) (by omega) (by omega) (by omega) (e_al0 o42_16 (e_al1 o42_17 (e_gI o42_18 L12 rfl 3 rfl (e_pI o42_21 L24 rfl rfl rfl rfl 3 rfl ?_)))))))))))
  refine e_rV o42_24 K42 rfl rfl ?_
  exact ⟨rfl, rfl⟩
theorem c76 (hd : 2 ≤ d) : zEv sc 76 d 0 [.ref 16, .ref 4] [] (zmk v u) 0 0 (zdo (cpWc (cpWb (cpWa (cpTf (cpW0 v))))) u) := by
  refine e_al1 o76_0 (e_gR o76_1 L4 rfl rfl (e_ico o76_4 (e_al0 o76_5 (e_gR o76_6 L16 rfl rfl (e_ico o76_9 (e_bip o76_10 rfl (e_cpy o76_12 (by omega) rfl L5 L17 (by omega) (by omega) (by omega) (by omega) (by omega) (e_al1 o76_15 (e_gR o76_16 L4 rfl rfl (e_ico o76_19 (e_al0 o76_20 (e_gR o76_21 L16 rfl rfl (e_ico o76_24 (e_bip o76_25 rfl (e_cpy o76_27 (by omega) rfl L6 L18 (by omega) (by omega) (by omega) (by omega) (by omega) (e_al1 o76_30 (e_gR o76_31 L4 rfl rfl (e_ico o76_34 (e_al0 o76_35 (e_gR o76_36 L16 rfl rfl (e_ico o76_39 (e_bip o76_40 rfl (e_cpy o76_42 (by omega) rfl L7 L19 (by omega) (by omega) (by omega) (by omega) (by omega) (e_al1 o76_45 (e_gR o76_46 L4 rfl rfl (e_ico o76_49 (e_al0 o76_50 (e_gR o76_51 L16 rfl rfl (e_ico o76_54 (e_bip o76_55 rfl (e_cpy o76_57 (by omega) rfl L8 L20 (by omega) (by omega) (by omega) (by omega) (by omega) (e_al1 o76_60 (e_gR o76_61 L4 rfl rfl (e_ico o76_64 (e_al0 o76_65 (e_gR o76_66 L16 rfl rfl (e_ico o76_69 (e_ico o76_70 (e_cpy o76_71 (by omega) rfl L9 L21 (by omega) (by omega) (by omega) (by omega) (by omega) (e_al1 o76_74 (e_gR o76_75 L4 rfl rfl (e_ico o76_78 (e_al0 o76_79 (e_gR o76_80 L16 rfl rfl (e_ico o76_83 (e_ico o76_84 (e_cpy o76_85 (by omega) rfl L10 L22 (by omega) (by omega) (by omega) (by omega) (by omega) (e_al1 o76_88 (e_gR o76_89 L4 rfl rfl (e_ico o76_92 (e_al0 o76_93 (e_gR o76_94 L16 rfl rfl (e_ico o76_97 (e_ico o76_98 (e_cpy o76_99 (by omega) rfl L11 L23 (by omega) (by omega) (by omega) (by omega) (by omega) (e_al0 o76_102 (e_gR o76_103 L16 rfl rfl (e_al1 o76_106 (e_gR o76_107 L4 rfl rfl (e_Vv1 o76_110 K76 K42 rfl ⟨rfl, rfl⟩ (zrcv_I L24 rfl) (by omega) rfl (c42 (by omega)) ?_))))))))))))))))))))))))))))))))))))))))))))))))))))))))))))
  rintro _ _ ⟨rfl, rfl⟩
  refine e_al0 o76_113 (e_al1 o76_114 (e_gI o76_115 L4 rfl 8 rfl (e_pI o76_118 L16 rfl rfl rfl rfl 8 rfl (e_al0 o76_121 (e_al1 o76_122 (e_gI o76_123 L4 rfl 9 rfl (e_pI o76_126 L16 rfl rfl rfl rfl 9 rfl (e_al0 o76_129 (e_al1 o76_130 (e_gI o76_131 L4 rfl 10 rfl (e_pI o76_134 L16 rfl rfl rfl rfl 10 rfl ?_)))))))))))
  refine e_rV o76_137 K76 rfl rfl ?_
  exact ⟨rfl, rfl⟩
theorem TD_of (hB : DB D) (hD : CD D v) : TD D (cpWc (cpWb (cpWa (cpTf (cpW0 v))))) ∧ FT v (cpWc (cpWb (cpWa (cpTf (cpW0 v))))) := by
  obtain ⟨a1, a2, a3, a4, a5, a6, a7⟩ := hB
  have k1 : ∀ x a q, ¬ a = 16 → cpWc (cpWb (cpWa x)) a q = x a q := fun x a q h => by unfold cpWc cpWb cpWa; rw [zu_ne (by omega), zu_ne (by omega), zu_ne (by omega)]
  have k2 : ∀ x a q, ¬ a = 24 → ¬ a = 25 → cpTf x a q = x a q := fun x a q h h' => by unfold cpTf; rw [zu_ne (by omega)]; simp only [zcp]; rw [if_neg (by omega)]
  have k3 : ∀ x a q, ¬ (17 ≤ a ∧ a ≤ 23) → cpW0 x a q = x a q := fun x a q h => by unfold cpW0; simp only [zcp]; rw [if_neg (by omega), if_neg (by omega), if_neg (by omega), if_neg (by omega), if_neg (by omega), if_neg (by omega), if_neg (by omega)]
  have g17 : ∀ i, 0 ≤ i → i < 6 → cpW0 v 17 i = v 5 i ∧ cpW0 v 18 i = v 6 i := fun i h0 h1 => by constructor <;> simp [cpW0, zcp, h0, h1]
  have g19 : ∀ i, 0 ≤ i → i < 40 → cpW0 v 19 i = v 7 i ∧ cpW0 v 20 i = v 8 i := fun i h0 h1 => by constructor <;> simp [cpW0, zcp, h0, h1]
  have g21 : ∀ i, 0 ≤ i → i < 5 → cpW0 v 21 i = v 9 i ∧ cpW0 v 22 i = v 10 i ∧ cpW0 v 23 i = v 11 i := fun i h0 h1 => by refine ⟨?_, ?_, ?_⟩ <;> simp [cpW0, zcp, h0, h1]
  refine ⟨⟨⟨?_, ?_, ?_⟩, fun i i0 i1 => ?_, fun i i0 i1 => ?_, fun i i0 i1 => ?_, ?_, fun i hi => ?_⟩, fun a q h => ?_⟩
  · rw [← hD.1.1]
    unfold cpWc
    rw [zg_ne (by omega)]
    unfold cpWb
    rw [zg_ne (by omega)]
    unfold cpWa
    rw [zg_same (zg_rg _ _ _)]
    simp only [zg]
    rw [k2 _ _ _ (by omega) (by omega), k3 _ _ _ (by omega)]
  · rw [← hD.1.2.1]
    unfold cpWc
    rw [zg_ne (by omega)]
    unfold cpWb
    rw [zg_same (zg_rg _ _ _)]
    unfold cpWa
    rw [zg_na (by decide)]
    simp only [zg]
    rw [k2 _ _ _ (by omega) (by omega), k3 _ _ _ (by omega)]
  · rw [← hD.1.2.2]
    unfold cpWc
    rw [zg_same (zg_rg _ _ _)]
    unfold cpWb
    rw [zg_na (by decide)]
    unfold cpWa
    rw [zg_na (by decide)]
    simp only [zg]
    rw [k2 _ _ _ (by omega) (by omega), k3 _ _ _ (by omega)]
  · have e := hD.2.1 i i0 i1
    simp only [zg] at e ⊢
    rw [k1 _ _ _ (by omega), k1 _ _ _ (by omega), k2 _ _ _ (by omega) (by omega), k2 _ _ _ (by omega) (by omega), (g17 i i0 (by omega)).1, (g17 i i0 (by omega)).2]
    exact e
  · have e := hD.2.2.1 i i0 i1
    simp only [zg] at e ⊢
    rw [k1 _ _ _ (by omega), k1 _ _ _ (by omega), k2 _ _ _ (by omega) (by omega), k2 _ _ _ (by omega) (by omega), (g19 i i0 (by omega)).1, (g19 i i0 (by omega)).2]
    exact e
  · have e := hD.2.2.2.1 i i0 i1
    simp only [zg] at e ⊢
    rw [k1 _ _ _ (by omega), k1 _ _ _ (by omega), k1 _ _ _ (by omega), k2 _ _ _ (by omega) (by omega), k2 _ _ _ (by omega) (by omega), k2 _ _ _ (by omega) (by omega), (g21 i i0 (by omega)).1, (g21 i i0 (by omega)).2.1, (g21 i i0 (by omega)).2.2]
    exact e
  · rw [← hD.2.2.2.2.1]
    simp only [zg]
    rw [k1 _ _ _ (by omega)]
    unfold cpTf
    rw [zu_same, zI_g]
    simp only [zcp]
    rw [if_neg (by omega), k3 _ _ _ (by omega)]
  · rw [← hD.2.2.2.2.2 i hi]
    simp only [zg]
    rw [k1 _ _ _ (by omega)]
    unfold cpTf
    rw [zu_ne (by omega)]
    simp only [zcp]
    rw [if_pos ⟨trivial, by omega, by omega⟩, k3 _ _ _ (by omega), show (0 : Int) + ((i : Int) - 0) = i by omega]
  · rw [k1 _ _ _ (by omega), k2 _ _ _ (by omega) (by omega), k3 _ _ _ (by omega)]
theorem TD_B (hB : DB D) (h : TD D w) : WB w := by
  obtain ⟨a1, a2, a3, a4, a5, a6, a7⟩ := hB
  obtain ⟨⟨b1, b2, b3⟩, b4, b5, b6, b7⟩ := h
  refine ⟨by omega, by omega, by omega, fun p p0 p1 => ?_, fun s s0 s1 => ?_, fun k k0 k1 => ?_⟩
  · rw [(b4 p p0 (by omega)).1, (b4 p p0 (by omega)).2]; exact a4 p p0 (by omega)
  · rw [(b5 s s0 (by omega)).1, (b5 s s0 (by omega)).2, b1]; exact a5 s s0 (by omega)
  · rw [(b6 k k0 (by omega)).1, (b6 k k0 (by omega)).2.1, (b6 k k0 (by omega)).2.2, b1]; exact a6 k k0 (by omega)
theorem okL_dpt {L : List Int} {f : Int → Int} : ∀ (M : List Int) (k : Nat) (c : Int), (∀ i : Nat, i < M.length → f (k + i : Nat) = M.getD i 0) → dpt f k = c → okL M c 32 1 → (∀ i : Nat, i < M.length → -15 ≤ f (k + i : Nat) ∧ f (k + i : Nat) ≤ 9999 ∧ 0 ≤ dpt f (k + i : Nat) ∧ dpt f (k + i : Nat) < 40 ∧ (f (k + i : Nat) < -6 → 1 ≤ dpt f (k + i : Nat)) ∧ (f (k + i : Nat) < -6 → ¬ f (k + i : Nat) = -13 → 2 ≤ dpt f (k + i : Nat))) ∧ dpt f (k + M.length : Nat) = 1 := by
  intro M
  induction M with
  | nil =>
    intro k c _ hc ho
    exact ⟨fun i hi => absurd hi (by simp), by rw [show k + ([] : List Int).length = k from rfl, hc]; exact ho⟩
  | cons z M ih =>
    intro k c hf hc ho
    have f0 : f (k : Nat) = z := hf 0 (by simp)
    have hd : dpt f ((k + 1 : Nat) : Int) = dnx z c := by
      rw [show ((k + 1 : Nat) : Int) = (k : Int) + 1 by omega]
      unfold dpt
      rw [zfo_succ (by omega), f0]
      rw [← hc]
      rfl
    obtain ⟨r1, r2⟩ := ih (k + 1) (dnx z c) (fun i hi => by
      have e := hf (i + 1) (by simp; omega)
      rw [show k + 1 + i = k + (i + 1) by omega, e]
      rfl) hd ho.2
    refine ⟨fun i hi => ?_, by rw [show k + (z :: M).length = k + 1 + M.length by simp; omega]; exact r2⟩
    cases i with
    | zero =>
      rw [Nat.add_zero, f0, hc]
      have := ho.1
      omega
    | succ i =>
      have e := r1 i (by simp at hi; omega)
      rw [show k + (i + 1) = k + 1 + i by omega]
      exact e
theorem TD_WT (hB : DB D) (h : TD D w) : WT (zg w 25) (zg w 24 3) := by
  obtain ⟨a1, a2, a3, a4, a5, a6, a7, a8⟩ := hB
  obtain ⟨_, _, _, _, b7, b8⟩ := h
  rw [b7]
  refine ⟨by omega, by omega, ?_, ?_⟩
  · rcases a8 with e | e
    · intro i i0 i1
      rw [e] at i1
      have i1 : i < 0 := i1
      omega
    · obtain ⟨r1, r2⟩ := okL_dpt (L := []) (f := zg w 25) D.L 0 0 (fun i hi => by rw [Nat.zero_add]; exact b8 i hi) rfl e
      intro i i0 i1
      have x := r1 i.toNat (by omega)
      rw [Nat.zero_add, Int.toNat_of_nonneg i0] at x
      exact x
  · intro n0
    rcases a8 with e | e
    · rw [e] at n0
      have n0 : (0 : Int) < 0 := n0
      omega
    · obtain ⟨r1, r2⟩ := okL_dpt (L := []) (f := zg w 25) D.L 0 0 (fun i hi => by rw [Nat.zero_add]; exact b8 i hi) rfl e
      rw [Nat.zero_add] at r2
      exact r2
/-- a row is filled -/
def zfil (v : zV) (a : Nat) (n : Int) (x : Int32) : zV := fun c k => if c = a ∧ 0 ≤ k ∧ k < n then x else v c k
theorem c233 {a n : Nat} {x : Int32} (ha : zLay[a]? = some (0, n, [])) : zEv sc 233 d 0 [.ref a, .int x, zJ, zJ] [] (zmk v u) 0 0 (zdo (zfil v a n x) u) := by
  have hz : n ≤ 60000 := zLay_n ha (by simp)
  have loop : ∀ k, 0 ≤ k → k ≤ (n : Int) → zEv sc 233 d 5 [.ref a, .int x, .int (zI k), .int (zI n)] [] (zmk (zfil v a k x) u) 0 0 (zdo (zfil v a n x) u) := by
    refine zloop ?_
    intro k k0 k1 ih
    refine e_il2 o233_5 (e_il3 o233_6 (e_ic_ge o233_7 20 rfl (by first | exact zg_rg _ _ _ | exact zt_rg _ | omega) (by first | exact zg_rg _ _ _ | exact zt_rg _ | omega) (fun hb7 => ?_) (fun hb7 => ?_)))
    · refine e_rV o233_20 K233 rfl rfl ?_
      have e : k = n := by omega
      subst e
      exact ⟨rfl, rfl⟩
    · refine e_al0 o233_10 (e_il2 o233_11 (e_il1 o233_12 (e_iast o233_13 ha (by omega) (by omega) (e_inc2 o233_14 (e_goto o233_17 5 rfl ?_)))))
      refine zEv_w (ih (by omega)) ?_
      funext c q
      simp only [zfil, zu]
      by_cases e : c = a ∧ q = k
      · rw [if_pos ⟨e.1, by omega, by omega⟩, if_pos e]
      · by_cases e2 : c = a ∧ 0 ≤ q ∧ q < k
        · rw [if_pos ⟨e2.1, by omega, by omega⟩, if_neg e, if_pos e2]
        · rw [if_neg (fun z => e2 ⟨z.1, z.2.1, by have : ¬ q = k := fun y => e ⟨z.1, y⟩; omega⟩), if_neg e, if_neg e2]
  refine e_ico o233_0 (e_is2 o233_1 (e_al0 o233_2 (e_len o233_3 ha (e_is3 o233_4 ?_))))
  have e := loop 0 (by omega) (by omega)
  rw [show zfil v a 0 x = v from by funext c k; simp only [zfil]; rw [if_neg (by omega)]] at e
  exact e
/-- the first k stones lie in their ports -/
def BG (v : zV) (k : Int) (w : zV) : Prop := (∀ a q, ¬ (30 ≤ a ∧ a ≤ 32) → w a q = v a q) ∧ ∃ L, CS w (fun t => if 0 ≤ t ∧ t < k then zg v 19 t else -1) L ∧ ∀ t, 0 ≤ t → t < k → L t = cnt (zg v 19) (zg v 19 t) t
theorem BG_0 (hB : WB v) (hw : ∀ a q, ¬ (a = 30 ∨ a = 32) → w a q = v a q) (h30 : ∀ q, 0 ≤ q → q < 6 → zg w 30 q = 0) (h32 : ∀ q, 0 ≤ q → q < 36 → zg w 32 q = 0) : BG v 0 w := by
  have e16 : zg w 16 = zg v 16 := zg_fn fun q => hw 16 q (by omega)
  refine ⟨fun a q h => hw a q (by omega), fun _ => 0, ⟨fun s s0 s1 => Or.inl (if_neg (by omega)), fun p p0 p1 => ?_, fun p p0 p1 i i0 i1 => ?_, fun p o p0 p1 o0 o1 => ?_, fun s hs => ⟨if_neg (by omega), rfl⟩⟩, fun t t0 t1 => by omega⟩
  · rw [h30 p p0 p1]
    symm
    unfold cnt
    rw [zsg_ext (g := fun _ => 0) _ (fun j j0 j1 => if_neg (by dsimp only; rw [if_neg (by omega)]; omega))]
    have := zsg_le (f := fun _ => (0 : Int)) (c := 0) (zg w 16 9) (by rw [e16]; exact hB.2.1.1) (fun j _ _ => ⟨by omega, by omega⟩)
    omega
  · rw [h30 p p0 p1] at i1; omega
  · rw [h32 _ (by omega) (by omega)]
    symm
    unfold cnt2
    rw [zsg_ext (g := fun _ => 0) _ (fun j j0 j1 => if_neg (by dsimp only; rw [if_neg (by omega)]; omega))]
    have := zsg_le (f := fun _ => (0 : Int)) (c := 0) (zg w 16 9) (by rw [e16]; exact hB.2.1.1) (fun j _ _ => ⟨by omega, by omega⟩)
    omega
theorem BG_s {k : Int} (hB : WB v) (h : BG v k w) (k0 : 0 ≤ k) (k1 : k < zg v 16 9) : (0 ≤ zg w 30 (zg v 19 k) ∧ zg w 30 (zg v 19 k) < 40) ∧ BG v (k + 1) (insV w (zg v 19 k) (zg w 30 (zg v 19 k)) k) := by
  obtain ⟨f, L, hC, hL⟩ := h
  have e16 : zg w 16 = zg v 16 := zg_fn fun q => f 16 q (by omega)
  have e19 : zg w 19 = zg v 19 := zg_fn fun q => f 19 q (by omega)
  have hBw : WB w := WB_w3 (fun a q h1 h2 => f a q (by omega)) hB
  have o1 := (hB.2.2.2.2.1 k k0 k1).1
  have b0 := hB.1
  have hl := hC.len hBw.wf o1.1 (by omega)
  obtain ⟨c1, c2⟩ := CS_ins (s := k) hC hBw.wf o1.1 (by omega) hl.1 (Int.le_refl _) k0 (by rw [e16]; exact k1) (if_neg (by omega))
  refine ⟨⟨hl.1, c2⟩, fun a q h => by rw [insV_fr (by omega) (by omega) (by omega), f a q h], Lin (fun t => if 0 ≤ t ∧ t < k then zg v 19 t else -1) L (zg v 19 k) (zg w 30 (zg v 19 k)) k, ?_, fun t t0 t1 => ?_⟩
  · have eP : fu (fun t => if 0 ≤ t ∧ t < k then zg v 19 t else -1) k (zg v 19 k) = (fun t => if 0 ≤ t ∧ t < k + 1 then zg v 19 t else -1) := by
      funext t
      by_cases e : t = k
      · subst e; rw [fu_same, if_pos (by omega)]
      · rw [fu_ne e]
        by_cases e2 : 0 ≤ t ∧ t < k
        · rw [if_pos e2, if_pos (by omega)]
        · rw [if_neg e2, if_neg (by omega)]
    rw [eP] at c1
    exact c1
  · unfold Lin
    by_cases e : t = k
    · subst e
      rw [if_pos rfl, hC.2.1 _ o1.1 (by omega), e16]
      -- counts of the first k alone
      have key : ∀ n, 0 ≤ n → t ≤ n → cnt (fun s => if 0 ≤ s ∧ s < t then zg v 19 s else -1) (zg v 19 t) n = cnt (zg v 19) (zg v 19 t) t := by
        refine zup ?_ ?_
        · intro z; have : t = 0 := by omega
          subst this; rfl
        · intro n n0 ihn z
          by_cases en : t = n + 1
          · rw [← en]
            exact cnt_ext (fun j j0 j1 => by rw [if_pos (show 0 ≤ j ∧ j < t from ⟨j0, j1⟩)])
          · have i := ihn (by omega)
            unfold cnt at i ⊢
            rw [zsg_succ n0, i, if_neg (by dsimp only; rw [if_neg (by omega)]; omega), Int.add_zero]
      exact key _ (by omega) (by omega)
    · rw [if_neg e]
      have ht := hL t t0 (by omega)
      have r := hC.lt hBw.wf t0 (by rw [e16]; omega) (by rw [if_pos ⟨t0, by omega⟩]; have := (hB.2.2.2.2.1 t t0 (by omega)).1; omega)
      by_cases e2 : (if 0 ≤ t ∧ t < k then zg v 19 t else -1) = zg v 19 k ∧ zg w 30 (zg v 19 k) ≤ L t
      · exfalso
        rw [e2.1] at r
        omega
      · rw [if_neg e2]; exact ht
theorem c27 (hd : 2 ≤ d) (hB : WB v) : zEv sc 27 d 0 [.ref 29, .ref 16, zJ, zJ] [] (zmk v u) 0 0 (zPv fun w t => BG v (zg v 16 9) w ∧ u = t) := by
  have b0 := hB.1
  have b1 := hB.2.1
  have loop : ∀ k, 0 ≤ k → k ≤ zg v 16 9 → ∀ w x3, BG v k w → zEv sc 27 d 18 [.ref 29, .ref 16, .int (zI k), x3] [] (zmk w u) 0 0 (zPv fun w t => BG v (zg v 16 9) w ∧ u = t) := by
    refine zloop ?_
    intro k k0 k1 ih w x3 hG
    have f := hG.1
    have e16 : zg w 16 = zg v 16 := zg_fn fun q => f 16 q (by omega)
    have e19 : zg w 19 = zg v 19 := zg_fn fun q => f 19 q (by omega)
    by_cases hk : k < zg v 16 9
    · obtain ⟨g1, g2⟩ := BG_s hB hG k0 hk
      have o1 := (hB.2.2.2.2.1 k k0 hk).1
      refine e_il2 o27_18 (e_al1 o27_19 (e_gI o27_20 L16 rfl 9 rfl ?_))
      rw [e16]
      refine e_ic_ge o27_23 52 rfl (by first | exact zg_rg _ _ _ | exact zt_rg _ | omega) (by first | exact zg_rg _ _ _ | exact zt_rg _ | omega) (fun hb23 => ?_) (fun hb23 => ?_)
      · omega
      · refine e_al1 o27_26 (e_gR o27_27 L16 rfl rfl (e_il2 o27_30 (e_ial o27_31 L19 (by omega) (by omega) ?_)))
        rw [e19]
        refine e_is3 o27_32 (e_al0 o27_33 (e_al1 o27_34 (e_il3 o27_35 (e_al0 o27_36 (e_gR o27_37 L29 rfl rfl (e_il3 o27_40 (e_ial o27_41 L30 (by omega) (by omega) (e_il2 o27_42 (e_Vv4 o27_43 K27 K18 rfl ⟨rfl, rfl⟩ (zrcv_I L29 rfl) (by omega) rfl (c18 (by omega) (by omega) g1.1 (Int.le_refl _) g1.2 k0 (by omega) (by rw [e19]; omega) (by rw [e19]; omega)) ?_)))))))))
        rintro _ _ ⟨rfl, rfl⟩
        refine e_inc2 o27_46 (e_goto o27_49 18 rfl ?_)
        exact ih hk _ _ g2
    · have ek : k = zg v 16 9 := by omega
      refine e_il2 o27_18 (e_al1 o27_19 (e_gI o27_20 L16 rfl 9 rfl ?_))
      rw [e16]
      refine e_ic_ge o27_23 52 rfl (by first | exact zg_rg _ _ _ | exact zt_rg _ | omega) (by first | exact zg_rg _ _ _ | exact zt_rg _ | omega) (fun hb23 => ?_) (fun hb23 => ?_)
      · refine e_rV o27_52 K27 rfl rfl ?_
        exact ⟨by rw [← ek]; exact hG, rfl⟩
      · omega
  have z0 : BG v 0 (zfil (zfil v 30 (6 : Nat) (zI 0)) 32 (36 : Nat) (zI 0)) := by
    refine BG_0 hB (fun a q h => ?_) (fun q q0 q1 => ?_) (fun q q0 q1 => ?_)
    · simp only [zfil]; rw [if_neg (by omega), if_neg (by omega)]
    · simp only [zg, zfil]; rw [if_neg (by omega), if_pos ⟨trivial, by omega, by omega⟩]; rfl
    · simp only [zg, zfil]; rw [if_pos ⟨trivial, by omega, by omega⟩]; rfl
  refine e_al0 o27_0 (e_gR o27_1 L29 rfl rfl (e_ico o27_4 (e_Sv2 o27_5 K27 K233 rfl ⟨rfl, rfl⟩ (by omega) rfl (c233 L30) ?_)))
  rintro _ _ ⟨rfl, rfl⟩
  refine e_al0 o27_8 (e_gR o27_9 L29 rfl rfl (e_ico o27_12 (e_Sv2 o27_13 K27 K233 rfl ⟨rfl, rfl⟩ (by omega) rfl (c233 L32) ?_)))
  rintro _ _ ⟨rfl, rfl⟩
  refine e_ico o27_16 (e_is2 o27_17 ?_)
  exact loop 0 (by omega) b1.1 _ _ z0
theorem c57 : zEv sc 57 d 0 [.ref 33, zJ] [] (zmk v u) 0 0 (zdo (zfil (zu (zu v 33 0 (zI 0)) 33 1 (zI 0)) 37 6 (zI 10)) u) := by
  have loop : ∀ k, 0 ≤ k → k ≤ (6 : Int) → zEv sc 57 d 12 [.ref 33, .int (zI k)] [] (zmk (zfil (zu (zu v 33 0 (zI 0)) 33 1 (zI 0)) 37 k (zI 10)) u) 0 0 (zdo (zfil (zu (zu v 33 0 (zI 0)) 33 1 (zI 0)) 37 6 (zI 10)) u) := by
    refine zloop ?_
    intro k k0 k1 ih
    refine e_il1 o57_12 (e_bip o57_13 rfl (e_ic_ge o57_15 32 rfl (by first | exact zg_rg _ _ _ | exact zt_rg _ | omega) (by first | exact zg_rg _ _ _ | exact zt_rg _ | omega) (fun hb15 => ?_) (fun hb15 => ?_)))
    · refine e_rV o57_32 K57 rfl rfl ?_
      have e : k = 6 := by omega
      subst e
      exact ⟨rfl, rfl⟩
    · refine e_al0 o57_18 (e_gR o57_19 L33 rfl rfl (e_il1 o57_22 (e_bip o57_23 rfl (e_iast o57_25 L37 (by omega) (by omega) (e_inc1 o57_26 (e_goto o57_29 12 rfl ?_))))))
      refine zEv_w (ih (by omega)) ?_
      funext c q
      simp only [zfil, zu]
      by_cases e : c = 37 ∧ q = k
      · rw [if_pos ⟨e.1, by omega, by omega⟩, if_pos e]
      · by_cases e2 : c = 37 ∧ 0 ≤ q ∧ q < k
        · rw [if_pos ⟨e2.1, by omega, by omega⟩, if_neg e, if_pos e2]
        · rw [if_neg (fun z => e2 ⟨z.1, z.2.1, by have : ¬ q = k := fun y => e ⟨z.1, y⟩; omega⟩), if_neg e, if_neg e2]
  refine e_al0 o57_0 (e_ico o57_1 (e_pI o57_2 L33 rfl rfl rfl rfl 0 rfl (e_al0 o57_5 (e_ico o57_6 (e_pI o57_7 L33 rfl rfl rfl rfl 1 rfl (e_ico o57_10 (e_is1 o57_11 ?_)))))))
  have e := loop 0 (by omega) (by omega)
  rw [show zfil (zu (zu v 33 0 (zI 0)) 33 1 (zI 0)) 37 0 (zI 10) = zu (zu v 33 0 (zI 0)) 33 1 (zI 0) from by funext c k; simp only [zfil]; rw [if_neg (by omega)]] at e
  exact e
/-- the state of the class behind a new world -/
def NW (v w : zV) : Prop := (∀ a q, ¬ (30 ≤ a ∧ a ≤ 32) → ¬ (a = 33 ∧ (q = 0 ∨ q = 1)) → ¬ a = 37 → ¬ a = 38 → ¬ (a = 28 ∧ (q = 9 ∨ q = 10)) → w a q = v a q) ∧ (∃ L, CS w (fun t => if 0 ≤ t ∧ t < zg v 16 9 then zg v 19 t else -1) L ∧ ∀ t, 0 ≤ t → t < zg v 16 9 → L t = cnt (zg v 19) (zg v 19 t) t) ∧ zg w 33 0 = 0 ∧ zg w 33 1 = 0 ∧ (∀ p, 0 ≤ p → p < 6 → zg w 37 p = 10) ∧ (∀ i, 0 ≤ i → i < 5 → zg w 38 i = zg v 23 i) ∧ zg w 28 9 = 0 ∧ zg w 28 10 = 0
theorem c12 (hd : 3 ≤ d) (hB : WB v) : zEv sc 12 d 0 [.ref 28, .ref 16] [] (zmk v u) 0 0 (zPv fun w t => NW v w ∧ u = t) := by
  refine e_al0 o12_0 (e_gR o12_1 L28 rfl rfl (e_al1 o12_4 (e_Vv1 o12_5 K12 K27 rfl ⟨rfl, rfl⟩ (zrcv_I L29 rfl) (by omega) rfl (c27 (by omega) hB) ?_)))
  rintro w1 u' ⟨⟨f, L, hC, hL⟩, rfl⟩
  refine e_al0 o12_8 (e_gR o12_9 L28 rfl rfl (e_Vv0 o12_12 K12 K57 rfl ⟨rfl, rfl⟩ (zrcv_I L33 rfl) (by omega) rfl c57 ?_))
  rintro _ _ ⟨rfl, rfl⟩
  refine e_al1 o12_15 (e_gR o12_16 L16 rfl rfl (e_ico o12_19 (e_al0 o12_20 (e_gR o12_21 L28 rfl rfl (e_ico o12_24 (e_ico o12_25 (e_cpy o12_26 (by omega) rfl L23 L38 (by omega) (by omega) (by omega) (by omega) (by omega) (e_al0 o12_29 (e_ico o12_30 (e_pI o12_31 L28 rfl rfl rfl rfl 9 rfl (e_al0 o12_34 (e_ico o12_35 (e_pI o12_36 L28 rfl rfl rfl rfl 10 rfl ?_)))))))))))))
  refine e_rV o12_39 K12 rfl rfl ?_
  have k : ∀ a q, ¬ (a = 33 ∧ (q = 0 ∨ q = 1)) → ¬ a = 37 → ¬ a = 38 → ¬ (a = 28 ∧ (q = 9 ∨ q = 10)) → (zu (zu (zcp (zfil (zu (zu w1 33 0 (zI 0)) 33 1 (zI 0)) 37 6 (zI 10)) 23 38 0 0 5) 28 9 (zI 0)) 28 10 (zI 0)) a q = w1 a q := fun a q h1 h2 h3 h4 => by rw [zu_ne (by omega), zu_ne (by omega)]; simp only [zcp, zfil]; rw [if_neg (by omega), if_neg (by omega), zu_ne (by omega), zu_ne (by omega)]
  refine ⟨⟨fun a q h1 h2 h3 h4 h5 => by rw [k a q h2 h3 h4 h5, f a q h1], ⟨L, CS_w (v0 := w1) (fun a q h1 h2 => k a q (by omega) (by omega) (by omega) (by omega)) (fun a q h1 h2 => k a q (by omega) (by omega) (by omega) (by omega)) hC, hL⟩, ?_, ?_, fun p p0 p1 => ?_, fun i i0 i1 => ?_, ?_, ?_⟩, rfl⟩
  · rw [zg_na (by decide), zg_na (by decide), zcp_n (by decide)]; simp only [zg, zfil]; rw [if_neg (by omega), zu_ne (by omega), zu_same]; rfl
  · rw [zg_na (by decide), zg_na (by decide), zcp_n (by decide)]; simp only [zg, zfil]; rw [if_neg (by omega), zu_same]; rfl
  · rw [zg_na (by decide), zg_na (by decide), zcp_n (by decide)]; simp only [zg, zfil]; rw [if_pos ⟨trivial, p0, p1⟩]; rfl
  · rw [zg_na (by decide), zg_na (by decide), zcp_y (by omega) (by omega), show 0 + (i - 0) = i by omega]; simp only [zg, zfil]; rw [if_neg (by omega), zu_ne (by omega), zu_ne (by omega), f 23 i (by omega)]
  · rw [zg_ne (by omega), zg_same (by omega)]
  · rw [zg_same (by omega)]
end
