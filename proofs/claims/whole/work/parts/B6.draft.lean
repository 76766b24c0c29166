/-! drafts of a world -/
def Dr : Type := Int × Int × Int × (Int → Int) × (Int → Int) × (Int → Int) × (Int → Int) × (Int → Int) × (Int → Int) × (Int → Int) × List Int
def Dr.np (D : Dr) : Int := D.1
def Dr.ns (D : Dr) : Int := D.2.1
def Dr.nk (D : Dr) : Int := D.2.2.1
def Dr.need (D : Dr) : Int → Int := D.2.2.2.1
def Dr.weight (D : Dr) : Int → Int := D.2.2.2.2.1
def Dr.origin (D : Dr) : Int → Int := D.2.2.2.2.2.1
def Dr.square (D : Dr) : Int → Int := D.2.2.2.2.2.2.1
def Dr.kind (D : Dr) : Int → Int := D.2.2.2.2.2.2.2.1
def Dr.hold (D : Dr) : Int → Int := D.2.2.2.2.2.2.2.2.1
def Dr.home (D : Dr) : Int → Int := D.2.2.2.2.2.2.2.2.2.1
def Dr.L (D : Dr) : List Int := D.2.2.2.2.2.2.2.2.2.2
def CD (D : Dr) (v : zV) : Prop := (zg v 4 8 = D.np ∧ zg v 4 9 = D.ns ∧ zg v 4 10 = D.nk) ∧ (∀ i, 0 ≤ i → i < D.np → zg v 5 i = D.need i ∧ zg v 6 i = D.weight i) ∧ (∀ i, 0 ≤ i → i < D.ns → zg v 7 i = D.origin i ∧ zg v 8 i = D.square i) ∧ (∀ i, 0 ≤ i → i < D.nk → zg v 9 i = D.kind i ∧ zg v 10 i = D.hold i ∧ zg v 11 i = D.home i) ∧ zg v 12 3 = D.L.length ∧ ∀ i : Nat, i < D.L.length → zg v 13 i = D.L.getD i 0
def MD (D : Dr) (v : zV) : Prop := (zg v 82 4 = D.np ∧ zg v 82 5 = D.ns ∧ zg v 82 6 = D.nk) ∧ (∀ i, 0 ≤ i → i < D.np → zg v 83 (6 + i) = D.need i ∧ zg v 84 (6 + i) = D.weight i) ∧ (∀ i, 0 ≤ i → i < D.ns → zg v 85 (40 + i) = D.origin i ∧ zg v 86 (40 + i) = D.square i) ∧ (∀ i, 0 ≤ i → i < D.nk → zg v 87 (5 + i) = D.kind i ∧ zg v 88 (5 + i) = D.hold i ∧ zg v 89 (5 + i) = D.home i) ∧ zg v 82 7 = D.L.length ∧ ∀ i : Nat, i < D.L.length → zg v 90 (600 + i) = enc (D.L.getD i 0)
def DB (D : Dr) : Prop := (0 ≤ D.np ∧ D.np ≤ 6) ∧ (0 ≤ D.ns ∧ D.ns ≤ 40) ∧ (0 ≤ D.nk ∧ D.nk ≤ 5) ∧ (∀ i, 0 ≤ i → i < D.np → (0 ≤ D.need i ∧ D.need i ≤ 40) ∧ 0 ≤ D.weight i ∧ D.weight i ≤ 99) ∧ (∀ i, 0 ≤ i → i < D.ns → (0 ≤ D.origin i ∧ D.origin i < D.np) ∧ 0 ≤ D.square i ∧ D.square i ≤ 9) ∧ (∀ i, 0 ≤ i → i < D.nk → (0 ≤ D.kind i ∧ D.kind i ≤ 3) ∧ (1 ≤ D.hold i ∧ D.hold i ≤ 8) ∧ 0 ≤ D.home i ∧ D.home i < D.np) ∧ D.L.length ≤ 600 ∧ (D.L = [] ∨ okL D.L 0 32 1)
abbrev LO := (Int × Dr) ⊕ (Int × Int)
abbrev LO.ok (e : Int) (D : Dr) : LO := .inl (e, D)
abbrev LO.bad (c p : Int) : LO := .inr (c, p)
theorem LO_c {motive : LO → Prop} (ok : ∀ e D, motive (LO.ok e D)) (bad : ∀ c p, motive (LO.bad c p)) (o : LO) : motive o := match o with
  | .inl (e, D) => ok e D
  | .inr (c, p) => bad c p
theorem LO_ne {e : Int} {D : Dr} {c p : Int} (h : LO.ok e D = LO.bad c p) : False := by cases h
theorem LO_in {e e' : Int} {D D' : Dr} (h : LO.ok e D = LO.ok e' D') : e = e' ∧ D = D' := by
  injection h with h
  injection h with h1 h2
  exact ⟨h1, h2⟩
def FD4 (v w : zV) : Prop := ∀ a q, ¬ (a = 1 ∧ 2 ≤ q ∧ q ≤ 4) → ¬ (a = 2 ∧ 2 ≤ q ∧ q ≤ 5) → ¬ (4 ≤ a ∧ a ≤ 13) → w a q = v a q
def FQ4 (v w : zV) : Prop := ∀ a q, ¬ (a = 79 ∧ (q = 15 ∨ (17 ≤ q ∧ q ≤ 22))) → ¬ (a = 82 ∧ 4 ≤ q) → ¬ ((a = 83 ∨ a = 84) ∧ 6 ≤ q) → ¬ ((a = 85 ∨ a = 86) ∧ 40 ≤ q) → ¬ ((87 ≤ a ∧ a ≤ 89) ∧ 5 ≤ q) → ¬ (a = 90 ∧ 600 ≤ q) → w a q = v a q
theorem FD4_r {v : zV} : FD4 v v := fun _ _ _ _ _ => rfl
theorem FD4_t {v w x : zV} (h : FD4 v w) (h' : FD4 w x) : FD4 v x := fun a q h1 h2 h3 => by rw [h' a q h1 h2 h3, h a q h1 h2 h3]
theorem FQ4_r {v : zV} : FQ4 v v := fun _ _ _ _ _ _ _ _ => rfl
theorem FQ4_t {v w x : zV} (h : FQ4 v w) (h' : FQ4 w x) : FQ4 v x := fun a q h1 h2 h3 h4 h5 h6 => by rw [h' a q h1 h2 h3 h4 h5 h6, h a q h1 h2 h3 h4 h5 h6]
theorem FC_4 {v w : zV} (h : FC v w) : FD4 v w := fun a q h1 h2 h3 => h a q (by omega)
theorem FP_4 {v w : zV} (h : FP v w) : FD4 v w := fun a q h1 h2 h3 => h a q h1 h2 (by omega) (by omega)
theorem FRm_4 {v w : zV} (h : FRm v w) : FQ4 v w := fun a q h1 h2 h3 h4 h5 h6 => h a q (by omega)
theorem FQ_4 {v w : zV} (h : FQ v w) : FQ4 v w := fun a q h1 h2 h3 h4 h5 h6 => h a q h1 (by omega) h6
theorem CD_w {D : Dr} {v w : zV} (h : ∀ a q, 4 ≤ a → a ≤ 13 → w a q = v a q) (hD : CD D v) : CD D w := by
  have g : ∀ a, 4 ≤ a → a ≤ 13 → zg w a = zg v a := fun a h1 h2 => zg_fn fun q => h a q h1 h2
  unfold CD at hD ⊢
  rw [g 4 (by omega) (by omega), g 5 (by omega) (by omega), g 6 (by omega) (by omega), g 7 (by omega) (by omega), g 8 (by omega) (by omega), g 9 (by omega) (by omega), g 10 (by omega) (by omega), g 11 (by omega) (by omega), g 12 (by omega) (by omega), g 13 (by omega) (by omega)]
  exact hD
theorem MD_w {D : Dr} {v w : zV} (h : ∀ a q, 82 ≤ a → a ≤ 90 → w a q = v a q) (hD : MD D v) : MD D w := by
  have g : ∀ a, 82 ≤ a → a ≤ 90 → zg w a = zg v a := fun a h1 h2 => zg_fn fun q => h a q h1 h2
  unfold MD at hD ⊢
  rw [g 82 (by omega) (by omega), g 83 (by omega) (by omega), g 84 (by omega) (by omega), g 85 (by omega) (by omega), g 86 (by omega) (by omega), g 87 (by omega) (by omega), g 88 (by omega) (by omega), g 89 (by omega) (by omega), g 90 (by omega) (by omega)]
  exact hD
def kOut (B : Int → Int) (N : Int) (o : LO) (v w : zV) (y : Int32) : Prop := match o with
  | .inl (e', D) => zI 1 = y ∧ FD4 v w ∧ CT B N w e' ∧ CD D w
  | .inr (c, p) => zI 0 = y ∧ FD4 v w ∧ zg w 1 2 = c ∧ zg w 1 3 = p
def rOut (B : Int → Int) (N : Int) (o : LO) (v w : zV) : Prop := match o with
  | .inl (e', D) => FQ4 v w ∧ zg w 79 21 = 0 ∧ RT B N w e' ∧ MD D w
  | .inr (c, p) => FQ4 v w ∧ zg w 79 21 = c ∧ zg w 79 22 = p
def gLn (N e : Int) (M : List Int → Prop) (o : LO) : Prop := match o with
  | .inl (e', D) => e < e' ∧ e' ≤ N ∧ DB D ∧ (D.L.length : Int) ≤ e' ∧ M D.L
  | .inr (c, q) => 1 ≤ c ∧ c ≤ 4 ∧ 0 ≤ q ∧ q ≤ N
/-- the parser stands at a line -/
def CL (B : Int → Int) (N : Int) (D : Dr) (v : zV) (e : Int) : Prop := TXc B N v ∧ CT B N v e ∧ CD D v
def ML (B : Int → Int) (N : Int) (D : Dr) (v : zV) (e : Int) : Prop := TXm B N v ∧ RT B N v e ∧ zg v 79 21 = 0 ∧ MD D v
/-- a port that was told may stand here: its fault -/
def pF (B : Int → Int) (N e np : Int) : Int := if tk B N e = 2 then (if tn B N e = -1 then 2 else if np ≤ tn B N e then 3 else 0) else 1
section
variable {sc : Nat × (Nat → Int32)} {d : Nat} {v w : zV} {u : zU} {B : Int → Int} {N : Int} {D : Dr}
theorem TXc_4 (h : TXc B N v) (hw : FD4 v w) : TXc B N w := TXc_w h (fun q => hw 3 q (by omega) (by omega) (by omega)) (hw 2 6 (by omega) (by omega) (by omega))
theorem TXm_4 (h : TXm B N v) (hw : FQ4 v w) : TXm B N w := TXm_w h (fun q => hw 92 q (by omega) (by omega) (by omega) (by omega) (by omega) (by omega)) (hw 79 16 (by omega) (by omega) (by omega) (by omega) (by omega) (by omega))
theorem pF_rg {e np : Int} : 0 ≤ pF B N e np ∧ pF B N e np ≤ 3 := by
  unfold pF; repeat' split
  all_goals omega
/-- a class's step that leaves the draft alone -/
def CS4 (v w : zV) : Prop := ∀ a q, ¬ (a = 1 ∧ q = 4) → ¬ (a = 2 ∧ 2 ≤ q ∧ q ≤ 5) → w a q = v a q
theorem CS4_4 (h : CS4 v w) : FD4 v w := fun a q h1 h2 h3 => h a q (by omega) h2
theorem FC_CS4 (h : FC v w) : CS4 v w := fun a q h1 h2 => h a q (by omega)
theorem CS4_t {x : zV} (h : CS4 v w) (h' : CS4 w x) : CS4 v x := fun a q h1 h2 => by rw [h' a q h1 h2, h a q h1 h2]
theorem c84 {e : Int} (hd : 3 ≤ d) (hT : TXc B N v) (hC : CT B N v e) (e0 : 0 ≤ e) (e1 : e ≤ N) (hn : zg v 4 8 = D.np) (n0 : 0 ≤ D.np ∧ D.np ≤ 6) : zEv sc 84 d 0 [.ref 1] [] (zmk v u) 0 0 (zPi fun y w t => ((pF B N e D.np = 0 ∧ zI 1 = y ∧ CS4 v w ∧ CT B N w (te B N e) ∧ zg w 1 4 = tn B N e) ∨ (¬ pF B N e D.np = 0 ∧ zI 0 = y ∧ zu (zu v 1 2 (zI (pF B N e D.np))) 1 3 (zI (ts B N e)) = w)) ∧ u = t) := by
  obtain ⟨k1, k2, k3, k4⟩ := id hC
  have n6 := hT.1
  have kr := tk_rg (B := B) (N := N) (e := e)
  by_cases h3 : tk B N e = 2
  · have k4 := k4 h3
    have hb := tn_bd e1 h3
    by_cases hp : D.np ≤ tn B N e
    · have eF : pF B N e D.np = 3 := by unfold pF; rw [if_pos h3, if_neg (by omega), if_pos hp]
      refine e_al0 o84_0 (e_gR o84_1 L1 rfl rfl (e_gI o84_4 L2 rfl 2 rfl (e_ico o84_7 ?_)))
      rw [k1, h3]
      refine e_ic_ne o84_8 34 rfl (by first | exact zg_rg _ _ _ | exact zt_rg _ | omega) (by first | exact zg_rg _ _ _ | exact zt_rg _ | omega) (fun hb8 => ?_) (fun hb8 => ?_)
      · omega
      · refine e_al0 o84_11 (e_gR o84_12 L1 rfl rfl (e_gI o84_15 L2 rfl 4 rfl (e_al0 o84_18 (e_gR o84_19 L1 rfl rfl (e_gI o84_22 L4 rfl 8 rfl ?_)))))
        rw [k4, hn]
        refine e_ic_lt o84_25 34 rfl (by first | exact zg_rg _ _ _ | exact zt_rg _ | omega) (by first | exact zg_rg _ _ _ | exact zt_rg _ | omega) (fun hb25 => ?_) (fun hb25 => ?_)
        · omega
        · refine e_al0 o84_28 (e_ico o84_29 (e_Vi1 o84_30 K84 K81 rfl ⟨rfl, rfl⟩ (zrcv_I L1 rfl) (by omega) rfl (c81 (c := 3) hC e1 (by omega)) ?_))
          rintro _ _ _ ⟨rfl, rfl, rfl⟩
          refine e_rI o84_33 K84 rfl rfl ?_
          exact ⟨Or.inr ⟨by omega, rfl, by rw [eF]⟩, rfl⟩
    · have eF : pF B N e D.np = nF B N e 0 5 := by
        unfold pF nF
        rw [if_pos h3, if_pos h3]
        by_cases h1 : tn B N e = -1
        · rw [if_pos h1, if_pos (by omega)]
        · rw [if_neg h1, if_neg hp, if_neg (by omega)]
      rw [eF]
      refine e_al0 o84_0 (e_gR o84_1 L1 rfl rfl (e_gI o84_4 L2 rfl 2 rfl (e_ico o84_7 ?_)))
      rw [k1, h3]
      refine e_ic_ne o84_8 34 rfl (by first | exact zg_rg _ _ _ | exact zt_rg _ | omega) (by first | exact zg_rg _ _ _ | exact zt_rg _ | omega) (fun hb8 => ?_) (fun hb8 => ?_)
      · omega
      · refine e_al0 o84_11 (e_gR o84_12 L1 rfl rfl (e_gI o84_15 L2 rfl 4 rfl (e_al0 o84_18 (e_gR o84_19 L1 rfl rfl (e_gI o84_22 L4 rfl 8 rfl ?_)))))
        rw [k4, hn]
        refine e_ic_lt o84_25 34 rfl (by first | exact zg_rg _ _ _ | exact zt_rg _ | omega) (by first | exact zg_rg _ _ _ | exact zt_rg _ | omega) (fun hb25 => ?_) (fun hb25 => ?_)
        · refine e_al0 o84_34 (e_ico o84_35 (e_ico o84_36 (e_Vi2 o84_37 K84 K82 rfl ⟨rfl, rfl⟩ (zrcv_I L1 rfl) (by omega) rfl (c82 (least := 0) (top := 5) (by omega) hT hC e0 e1 (by omega) (by omega)) ?_)))
          rintro y w u' ⟨hO, rfl⟩
          refine e_rI o84_40 K84 (by rcases hO with ⟨_, rfl, _⟩ | ⟨_, rfl, _⟩ <;> rfl) rfl ?_
          exact ⟨hO, rfl⟩
        · omega
  · have eF : pF B N e D.np = nF B N e 0 5 := by
      unfold pF nF
      rw [if_neg h3, if_neg h3]
    rw [eF]
    refine e_al0 o84_0 (e_gR o84_1 L1 rfl rfl (e_gI o84_4 L2 rfl 2 rfl (e_ico o84_7 ?_)))
    rw [k1]
    refine e_ic_ne o84_8 34 rfl (by first | exact zg_rg _ _ _ | exact zt_rg _ | omega) (by first | exact zg_rg _ _ _ | exact zt_rg _ | omega) (fun hb8 => ?_) (fun hb8 => ?_)
    · refine e_al0 o84_34 (e_ico o84_35 (e_ico o84_36 (e_Vi2 o84_37 K84 K82 rfl ⟨rfl, rfl⟩ (zrcv_I L1 rfl) (by omega) rfl (c82 (least := 0) (top := 5) (by omega) hT hC e0 e1 (by omega) (by omega)) ?_)))
      rintro y w u' ⟨hO, rfl⟩
      refine e_rI o84_40 K84 (by rcases hO with ⟨_, rfl, _⟩ | ⟨_, rfl, _⟩ <;> rfl) rfl ?_
      exact ⟨hO, rfl⟩
    · omega
theorem m146_d (hd : 1 ≤ d) (h : ¬ zg v 79 21 = 0) : zEv sc 146 d 0 [.ref 79, zJ] [] (zmk v u) 0 0 (zis (zI 0) v u) := by
  refine e_al0 o146_0 (e_ico o146_1 (e_sip o146_2 rfl (e_Vi2 o146_5 K146 K145 rfl ⟨rfl, rfl⟩ (zrcv_I L79 rfl) (by omega) rfl (m145_d h) ?_)))
  rintro _ _ _ ⟨rfl, rfl, rfl⟩
  refine e_is1 o146_8 (e_al0 o146_9 (e_gI o146_10 L79 rfl 21 rfl (e_if_ne o146_13 31 rfl (by first | exact zg_rg _ _ _ | exact zt_rg _ | omega) (fun hb13 => ?_) (fun hb13 => ?_))))
  · refine e_al0 o146_31 (e_gI o146_32 L79 rfl 21 rfl (e_if_ne o146_35 42 rfl (by first | exact zg_rg _ _ _ | exact zt_rg _ | omega) (fun hb35 => ?_) (fun hb35 => ?_)))
    · refine e_al0 o146_42 (e_gI o146_43 L79 rfl 21 rfl (e_if_ne o146_46 53 rfl (by first | exact zg_rg _ _ _ | exact zt_rg _ | omega) (fun hb46 => ?_) (fun hb46 => ?_)))
      · refine e_ico o146_53 ?_
        refine e_rI o146_54 K146 rfl rfl ?_
        exact ⟨rfl, rfl, rfl⟩
      · omega
    · omega
  · omega
theorem m146 {e : Int} (hd : 2 ≤ d) (h : zg v 79 21 = 0) (hT : TXm B N v) (hR : RT B N v e) (e0 : 0 ≤ e) (e1 : e ≤ N) (hn : zg v 82 4 = D.np) (n0 : 0 ≤ D.np ∧ D.np ≤ 6) : zEv sc 146 d 0 [.ref 79, zJ] [] (zmk v u) 0 0 (zPi fun y w t => ((pF B N e D.np = 0 ∧ zI (tn B N e) = y ∧ FRm v w ∧ RT B N w (te B N e)) ∨ (¬ pF B N e D.np = 0 ∧ zI 0 = y ∧ zu (zu v 79 21 (zI (pF B N e D.np))) 79 22 (zI (ts B N e)) = w)) ∧ u = t) := by
  have h2 := te_in (B := B) e1
  have h1 := ts_in (B := B) e1
  have k4 := hR.2.2.2.1
  have k2 := hR.2.1
  have nr := nF_rg (B := B) (N := N) (e := e) (a := 0) (b := 9999)
  have h145 := m145 (sc := sc) (d := d - 1) (u := u) (least := 0) (top := 9999) (by omega) h hT hR e0 e1 (by omega) (by omega)
  by_cases hf : nF B N e 0 9999 = 0
  · have h3 : tk B N e = 2 := by apply Classical.byContradiction; intro z; unfold nF at hf; rw [if_neg z] at hf; omega
    have hb := tn_bd e1 h3
    have hb3 : 0 ≤ tn B N e := by unfold nF at hf; rw [if_pos h3] at hf; split at hf <;> omega
    by_cases hp : D.np ≤ tn B N e
    · have eF : pF B N e D.np = 3 := by unfold pF; rw [if_pos h3, if_neg (by omega), if_pos hp]
      have w1 : ¬ zg (zu (zu v 79 21 (zI 3)) 79 22 (zI (ts B N e))) 79 21 = 0 := by rw [zg_ne (by omega), zg_same (by omega)]; omega
      refine e_al0 o146_0 (e_ico o146_1 (e_sip o146_2 rfl (e_Vi2 o146_5 K146 K145 rfl ⟨rfl, rfl⟩ (zrcv_I L79 rfl) (by omega) rfl h145 ?_)))
      rintro _ _ _ ⟨⟨_, rfl, rfl⟩ | ⟨q0, _⟩, rfl⟩
      rotate_left
      exact absurd hf q0
      refine e_is1 o146_8 (e_al0 o146_9 (e_gI o146_10 L79 rfl 21 rfl ?_))
      rw [h]
      refine e_if_ne o146_13 31 rfl (by first | exact zg_rg _ _ _ | exact zt_rg _ | omega) (fun hb13 => ?_) (fun hb13 => ?_)
      · omega
      · refine e_il1 o146_16 (e_al0 o146_17 (e_gR o146_18 L79 rfl rfl (e_ico o146_21 (e_ial o146_22 L82 (by omega) (by omega) ?_))))
        rw [hn]
        refine e_ic_lt o146_23 31 rfl (by first | exact zg_rg _ _ _ | exact zt_rg _ | omega) (by first | exact zg_rg _ _ _ | exact zt_rg _ | omega) (fun hb23 => ?_) (fun hb23 => ?_)
        · omega
        · refine e_al0 o146_26 (e_ico o146_27 (e_Vv1 o146_28 K146 K142 rfl ⟨rfl, rfl⟩ (zrcv_I L79 rfl) (by omega) rfl (m142 h) ?_))
          rintro _ _ ⟨rfl, rfl⟩
          rw [k2]
          refine e_al0 o146_31 (e_gI o146_32 L79 rfl 21 rfl (e_if_ne o146_35 42 rfl (by first | exact zg_rg _ _ _ | exact zt_rg _ | omega) (fun hb35 => ?_) (fun hb35 => ?_)))
          · refine e_al0 o146_42 (e_gI o146_43 L79 rfl 21 rfl (e_if_ne o146_46 53 rfl (by first | exact zg_rg _ _ _ | exact zt_rg _ | omega) (fun hb46 => ?_) (fun hb46 => ?_)))
            · refine e_ico o146_53 ?_
              refine e_rI o146_54 K146 rfl rfl ?_
              exact ⟨Or.inr ⟨by omega, rfl, by rw [eF]⟩, rfl⟩
            · exact absurd hb46 w1
          · exact absurd hb35 w1
    · have eF : pF B N e D.np = 0 := by unfold pF; rw [if_pos h3, if_neg (by omega), if_neg hp]
      refine e_al0 o146_0 (e_ico o146_1 (e_sip o146_2 rfl (e_Vi2 o146_5 K146 K145 rfl ⟨rfl, rfl⟩ (zrcv_I L79 rfl) (by omega) rfl h145 ?_)))
      rintro _ _ _ ⟨⟨_, rfl, rfl⟩ | ⟨q0, _⟩, rfl⟩
      rotate_left
      exact absurd hf q0
      refine e_is1 o146_8 (e_al0 o146_9 (e_gI o146_10 L79 rfl 21 rfl ?_))
      rw [h]
      refine e_if_ne o146_13 31 rfl (by first | exact zg_rg _ _ _ | exact zt_rg _ | omega) (fun hb13 => ?_) (fun hb13 => ?_)
      · omega
      · refine e_il1 o146_16 (e_al0 o146_17 (e_gR o146_18 L79 rfl rfl (e_ico o146_21 (e_ial o146_22 L82 (by omega) (by omega) ?_))))
        rw [hn]
        refine e_ic_lt o146_23 31 rfl (by first | exact zg_rg _ _ _ | exact zt_rg _ | omega) (by first | exact zg_rg _ _ _ | exact zt_rg _ | omega) (fun hb23 => ?_) (fun hb23 => ?_)
        · refine e_al0 o146_31 (e_gI o146_32 L79 rfl 21 rfl ?_)
          rw [h]
          refine e_if_ne o146_35 42 rfl (by first | exact zg_rg _ _ _ | exact zt_rg _ | omega) (fun hb35 => ?_) (fun hb35 => ?_)
          · omega
          · refine e_al0 o146_38 (e_Vv0 o146_39 K146 K134 rfl ⟨rfl, rfl⟩ (zrcv_I L79 rfl) (by omega) rfl (m134 (e := te B N e) (by omega) hT k4 (by omega) (by omega)) ?_)
            rintro w u' ⟨⟨q1, q2⟩, rfl⟩
            refine e_al0 o146_42 (e_gI o146_43 L79 rfl 21 rfl ?_)
            rw [show zg w 79 21 = 0 by simp only [zg]; rw [q1 79 21 (by omega)]; exact h]
            refine e_if_ne o146_46 53 rfl (by first | exact zg_rg _ _ _ | exact zt_rg _ | omega) (fun hb46 => ?_) (fun hb46 => ?_)
            · omega
            · refine e_il1 o146_49 (e_goto o146_50 54 rfl ?_)
              refine e_rI o146_54 K146 rfl rfl ?_
              exact ⟨Or.inl ⟨eF, rfl, q1, q2⟩, rfl⟩
        · omega
  · have eF : pF B N e D.np = nF B N e 0 9999 := by
      unfold pF nF at *
      by_cases h3 : tk B N e = 2
      · have hb := tn_bd e1 h3
        rw [if_pos h3] at hf ⊢
        rw [if_pos h3]
        by_cases hq : tn B N e = -1
        · rw [if_pos hq, if_pos (by omega)]
        · rw [if_neg (by omega)] at hf; exact absurd rfl hf
      · rw [if_neg h3, if_neg h3]
    have w1 : ¬ zg (zu (zu v 79 21 (zI (nF B N e 0 9999))) 79 22 (zI (ts B N e))) 79 21 = 0 := by rw [zg_ne (by omega), zg_same (by omega)]; omega
    refine e_al0 o146_0 (e_ico o146_1 (e_sip o146_2 rfl (e_Vi2 o146_5 K146 K145 rfl ⟨rfl, rfl⟩ (zrcv_I L79 rfl) (by omega) rfl h145 ?_)))
    rintro _ _ _ ⟨⟨q0, _⟩ | ⟨_, rfl, rfl⟩, rfl⟩
    exact absurd q0 hf
    refine e_is1 o146_8 (e_al0 o146_9 (e_gI o146_10 L79 rfl 21 rfl (e_if_ne o146_13 31 rfl (by first | exact zg_rg _ _ _ | exact zt_rg _ | omega) (fun hb13 => ?_) (fun hb13 => ?_))))
    · refine e_al0 o146_31 (e_gI o146_32 L79 rfl 21 rfl (e_if_ne o146_35 42 rfl (by first | exact zg_rg _ _ _ | exact zt_rg _ | omega) (fun hb35 => ?_) (fun hb35 => ?_)))
      · refine e_al0 o146_42 (e_gI o146_43 L79 rfl 21 rfl (e_if_ne o146_46 53 rfl (by first | exact zg_rg _ _ _ | exact zt_rg _ | omega) (fun hb46 => ?_) (fun hb46 => ?_)))
        · refine e_ico o146_53 ?_
          refine e_rI o146_54 K146 rfl rfl ?_
          exact ⟨Or.inr ⟨by omega, rfl, by rw [eF]⟩, rfl⟩
        · exact absurd hb46 w1
      · exact absurd hb35 w1
    · exact absurd hb13 w1
end
