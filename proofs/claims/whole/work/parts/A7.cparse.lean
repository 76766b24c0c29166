/-! the class's parser: small pieces -/
abbrev PO := (Int × List Int) ⊕ (Int × Int)
abbrev PO.ok (e : Int) (L : List Int) : PO := .inl (e, L)
abbrev PO.bad (c p : Int) : PO := .inr (c, p)
theorem PO_c {motive : PO → Prop} (ok : ∀ e L, motive (PO.ok e L)) (bad : ∀ c p, motive (PO.bad c p)) (o : PO) : motive o := match o with
  | .inl (e, L) => ok e L
  | .inr (c, p) => bad c p
theorem PO_ne {e : Int} {L : List Int} {c p : Int} (h : PO.ok e L = PO.bad c p) : False := by cases h
def FP (v w : zV) : Prop := ∀ a q, ¬ (a = 1 ∧ 2 ≤ q ∧ q ≤ 4) → ¬ (a = 2 ∧ 2 ≤ q ∧ q ≤ 5) → ¬ (a = 12 ∧ q = 3) → ¬ a = 13 → w a q = v a q
def lay13 (v w : zV) (L : List Int) : Prop := zg w 12 3 = zg v 12 3 + L.length ∧ (∀ i : Nat, i < L.length → zg w 13 (zg v 12 3 + i) = L.getD i 0) ∧ ∀ q, q < zg v 12 3 → w 13 q = v 13 q
def lay90 (v w : zV) (L : List Int) : Prop := zg w 82 7 = zg v 82 7 + L.length ∧ (∀ i : Nat, i < L.length → zg w 90 (600 + zg v 82 7 + i) = enc (L.getD i 0)) ∧ ∀ q, q < 600 + zg v 82 7 → w 90 q = v 90 q
def FQ (v w : zV) : Prop := ∀ a q, ¬ (a = 79 ∧ (q = 15 ∨ (17 ≤ q ∧ q ≤ 22))) → ¬ (a = 82 ∧ q = 7) → ¬ (a = 90 ∧ 600 ≤ q) → w a q = v a q
theorem FP_r {v : zV} : FP v v := fun _ _ _ _ _ _ => rfl
theorem FP_t {v w x : zV} (h : FP v w) (h' : FP w x) : FP v x := fun a q h1 h2 h3 h4 => by rw [h' a q h1 h2 h3 h4, h a q h1 h2 h3 h4]
theorem FQ_r {v : zV} : FQ v v := fun _ _ _ _ _ => rfl
theorem FQ_t {v w x : zV} (h : FQ v w) (h' : FQ w x) : FQ v x := fun a q h1 h2 h3 => by rw [h' a q h1 h2 h3, h a q h1 h2 h3]
theorem FC_FP {v w : zV} (h : FC v w) : FP v w := fun a q h1 h2 h3 h4 => h a q (by omega)
theorem FRm_FQ {v w : zV} (h : FRm v w) : FQ v w := fun a q h1 h2 h3 => h a q (by omega)
theorem lay13_r {v w : zV} (h : ∀ q, w 13 q = v 13 q) (h' : w 12 3 = v 12 3) : lay13 v w [] := ⟨by simp only [zg]; rw [h']; simp, fun i hi => by simp at hi, fun q _ => h q⟩
theorem lay90_r {v w : zV} (h : ∀ q, w 90 q = v 90 q) (h' : w 82 7 = v 82 7) : lay90 v w [] := ⟨by simp only [zg]; rw [h']; simp, fun i hi => by simp at hi, fun q _ => h q⟩
theorem lay13_t {v w x : zV} {L M : List Int} (h : lay13 v w L) (h' : lay13 w x M) : lay13 v x (L ++ M) := by
  obtain ⟨a1, a2, a3⟩ := h
  obtain ⟨b1, b2, b3⟩ := h'
  refine ⟨by rw [b1, a1, List.length_append]; omega, fun i hi => ?_, fun q hq => by rw [b3 q (by omega), a3 q hq]⟩
  rw [List.length_append] at hi
  by_cases h1 : i < L.length
  · have e := a2 i h1
    rw [show zg x 13 (zg v 12 3 + i) = zg w 13 (zg v 12 3 + i) by simp only [zg]; rw [b3 _ (by simp only [zg] at a1 ⊢; omega)], e]
    simp [List.getD_eq_getElem?_getD, List.getElem?_append_left h1]
  · have e := b2 (i - L.length) (by omega)
    rw [a1, show zg v 12 3 + (L.length : Int) + ((i - L.length : Nat) : Int) = zg v 12 3 + i by omega] at e
    rw [e]
    simp [List.getD_eq_getElem?_getD, List.getElem?_append_right (show L.length ≤ i by omega)]
theorem lay90_t {v w x : zV} {L M : List Int} (h : lay90 v w L) (h' : lay90 w x M) : lay90 v x (L ++ M) := by
  obtain ⟨a1, a2, a3⟩ := h
  obtain ⟨b1, b2, b3⟩ := h'
  refine ⟨by rw [b1, a1, List.length_append]; omega, fun i hi => ?_, fun q hq => by rw [b3 q (by omega), a3 q hq]⟩
  rw [List.length_append] at hi
  by_cases h1 : i < L.length
  · have e := a2 i h1
    rw [show zg x 90 (600 + zg v 82 7 + i) = zg w 90 (600 + zg v 82 7 + i) by simp only [zg]; rw [b3 _ (by simp only [zg] at a1 ⊢; omega)], e]
    simp [List.getD_eq_getElem?_getD, List.getElem?_append_left h1]
  · have e := b2 (i - L.length) (by omega)
    rw [a1, show 600 + (zg v 82 7 + (L.length : Int)) + ((i - L.length : Nat) : Int) = 600 + zg v 82 7 + i by omega] at e
    rw [e]
    simp [List.getD_eq_getElem?_getD, List.getElem?_append_right (show L.length ≤ i by omega)]
section
variable {sc : Nat × (Nat → Int32)} {d : Nat} {v v0 w : zV} {u : zU} {B : Int → Int} {N : Int}
theorem TXc_P (h : TXc B N v) (hw : FP v w) : TXc B N w := TXc_w h (fun q => hw 3 q (by omega) (by omega) (by omega) (by omega)) (hw 2 6 (by omega) (by omega) (by omega) (by omega))
theorem TXm_Q (h : TXm B N v) (hw : FQ v w) : TXm B N w := TXm_w h (fun q => hw 92 q (by omega) (by omega) (by omega)) (hw 79 16 (by omega) (by omega) (by omega))
/-- a step is added, where there is room -/
theorem c41 {z : Int} (hl : 0 ≤ zg v 12 3 ∧ zg v 12 3 ≤ 600) (hz : -2147483648 ≤ z ∧ z < 2147483648) : zEv sc 41 d 0 [.ref 12, .int (zI z)] [] (zmk v u) 0 0 (zPv fun w t => (FP v w ∧ (∀ q, w 1 q = v 1 q) ∧ (∀ q, w 2 q = v 2 q) ∧ (0 ≤ zg w 12 3 ∧ zg w 12 3 ≤ 600) ∧ (zg v 12 3 < 600 → lay13 v w [z])) ∧ u = t) := by
  refine e_al0 o41_0 (e_gI o41_1 L12 rfl 3 rfl (e_sip o41_4 rfl (e_ic_ge o41_7 30 rfl (by first | exact zg_rg _ _ _ | exact zt_rg _ | omega) (by first | exact zg_rg _ _ _ | exact zt_rg _ | omega) (fun hb7 => ?_) (fun hb7 => ?_))))
  · refine e_rV o41_30 K41 rfl rfl ?_
    first
    | (refine ⟨⟨FP_r, fun _ => rfl, fun _ => rfl, hl, fun z => ?_⟩, rfl⟩
       exfalso; omega)
    | (refine ⟨⟨fun a q h1 h2 h3 h4 => by rw [zu_ne (by omega), zu_ne (by omega)], fun q => by rw [zu_ne (by omega), zu_ne (by omega)], fun q => by rw [zu_ne (by omega), zu_ne (by omega)], by rw [zg_same (by omega)]; omega, fun _ => ⟨by rw [zg_same (by omega)]; simp, fun i hi => ?_, fun q hq => by rw [zu_ne (by omega), zu_ne (by omega)]⟩⟩, rfl⟩
       have : i = 0 := by simp at hi; exact hi
       subst this
       rw [zg_na (by decide), show zg v 12 3 + ((0 : Nat) : Int) = zg v 12 3 by omega, zg_same hz]
       rfl)
  · refine e_al0 o41_10 (e_gR o41_11 L12 rfl rfl (e_al0 o41_14 (e_gI o41_15 L12 rfl 3 rfl (e_il1 o41_18 (e_iast o41_19 L13 (by omega) (by omega) (e_al0 o41_20 (e_dupR o41_21 (e_gI o41_22 L12 rfl 3 rfl (e_ico o41_25 ?_)))))))))
    rw [zg_na (by decide)]
    refine e_add o41_26 (e_pI o41_27 L12 rfl rfl rfl rfl 3 rfl ?_)
    refine e_rV o41_30 K41 rfl rfl ?_
    first
    | (refine ⟨⟨FP_r, fun _ => rfl, fun _ => rfl, hl, fun z => ?_⟩, rfl⟩
       exfalso; omega)
    | (refine ⟨⟨fun a q h1 h2 h3 h4 => by rw [zu_ne (by omega), zu_ne (by omega)], fun q => by rw [zu_ne (by omega), zu_ne (by omega)], fun q => by rw [zu_ne (by omega), zu_ne (by omega)], by rw [zg_same (by omega)]; omega, fun _ => ⟨by rw [zg_same (by omega)]; simp, fun i hi => ?_, fun q hq => by rw [zu_ne (by omega), zu_ne (by omega)]⟩⟩, rfl⟩
       have : i = 0 := by simp at hi; exact hi
       subst this
       rw [zg_na (by decide), show zg v 12 3 + ((0 : Nat) : Int) = zg v 12 3 by omega, zg_same hz]
       rfl)
theorem c81 {e c : Int} (hC : CT B N v e) (e1 : e ≤ N) (n6 : 0 ≤ e ∧ N ≤ 600) : zEv sc 81 d 0 [.ref 1, .int (zI c)] [] (zmk v u) 0 0 (zis (zI 0) (zu (zu v 1 2 (zI c)) 1 3 (zI (ts B N e))) u) := by
  have k2 := hC.2.1
  refine e_al0 o81_0 (e_il1 o81_1 (e_pI o81_2 L1 rfl rfl rfl rfl 2 rfl (e_al0 o81_5 (e_al0 o81_6 (e_gR o81_7 L1 rfl rfl (e_gI o81_10 L2 rfl 3 rfl ?_))))))
  rw [zg_na (by decide), k2]
  refine e_pI o81_13 L1 rfl rfl rfl rfl 3 rfl (e_ico o81_16 ?_)
  refine e_rI o81_17 K81 (by decide) rfl ?_
  exact ⟨rfl, rfl, rfl⟩
theorem nF_rg {e a b : Int} : 0 ≤ nF B N e a b ∧ nF B N e a b ≤ 2 := by unfold nF; split; split <;> omega; omega
/-- a number is taken -/
theorem c82 {e least top : Int} (hd : 2 ≤ d) (hT : TXc B N v) (hC : CT B N v e) (e0 : 0 ≤ e) (e1 : e ≤ N) (hl : 0 ≤ least ∧ least ≤ 10000) (ht : -10000 ≤ top ∧ top ≤ 10000) : zEv sc 82 d 0 [.ref 1, .int (zI least), .int (zI top)] [] (zmk v u) 0 0 (zPi fun y w t => ((nF B N e least top = 0 ∧ zI 1 = y ∧ (∀ a q, ¬ (a = 1 ∧ q = 4) → ¬ (a = 2 ∧ 2 ≤ q ∧ q ≤ 5) → w a q = v a q) ∧ CT B N w (te B N e) ∧ zg w 1 4 = tn B N e) ∨ (¬ nF B N e least top = 0 ∧ zI 0 = y ∧ zu (zu v 1 2 (zI (nF B N e least top))) 1 3 (zI (ts B N e)) = w)) ∧ u = t) := by
  obtain ⟨k1, k2, k3, k4⟩ := id hC
  have h1 := ts_in (B := B) e1
  have h2 := te_in (B := B) e1
  have n6 := hT.1
  have kr := tk_rg (B := B) (N := N) (e := e)
  by_cases h3 : tk B N e = 2
  · have k4 := k4 h3
    have hb := tn_bd e1 h3
    by_cases hg : tn B N e = -1 ∨ tn B N e < least ∨ top < tn B N e
    · have eF : nF B N e least top = 2 := by unfold nF; rw [if_pos h3, if_pos hg]
      refine e_al0 o82_0 (e_gR o82_1 L1 rfl rfl (e_gI o82_4 L2 rfl 2 rfl (e_ico o82_7 ?_)))
      rw [k1, h3]
      refine e_ic_eq o82_8 17 rfl (by first | exact zg_rg _ _ _ | exact zt_rg _ | omega) (by first | exact zg_rg _ _ _ | exact zt_rg _ | omega) (fun hb8 => ?_) (fun hb8 => ?_)
      · refine e_al0 o82_17 (e_gR o82_18 L1 rfl rfl (e_gI o82_21 L2 rfl 4 rfl (e_ico o82_24 ?_)))
        rw [k4]
        refine e_ic_eq o82_25 50 rfl (by first | exact zg_rg _ _ _ | exact zt_rg _ | omega) (by first | exact zg_rg _ _ _ | exact zt_rg _ | omega) (fun hb25 => ?_) (fun hb25 => ?_)
        · refine e_al0 o82_50 (e_ico o82_51 (e_Vi1 o82_52 K82 K81 rfl ⟨rfl, rfl⟩ (zrcv_I L1 rfl) (by omega) rfl (c81 hC e1 (by omega)) ?_))
          rintro _ _ _ ⟨rfl, rfl, rfl⟩
          refine e_rI o82_55 K82 rfl rfl ?_
          exact ⟨Or.inr ⟨by omega, rfl, by rw [eF]⟩, rfl⟩
        · refine e_al0 o82_28 (e_gR o82_29 L1 rfl rfl (e_gI o82_32 L2 rfl 4 rfl (e_il1 o82_35 ?_)))
          rw [k4]
          refine e_ic_lt o82_36 50 rfl (by first | exact zg_rg _ _ _ | exact zt_rg _ | omega) (by first | exact zg_rg _ _ _ | exact zt_rg _ | omega) (fun hb36 => ?_) (fun hb36 => ?_)
          · refine e_al0 o82_50 (e_ico o82_51 (e_Vi1 o82_52 K82 K81 rfl ⟨rfl, rfl⟩ (zrcv_I L1 rfl) (by omega) rfl (c81 hC e1 (by omega)) ?_))
            rintro _ _ _ ⟨rfl, rfl, rfl⟩
            refine e_rI o82_55 K82 rfl rfl ?_
            exact ⟨Or.inr ⟨by omega, rfl, by rw [eF]⟩, rfl⟩
          · refine e_al0 o82_39 (e_gR o82_40 L1 rfl rfl (e_gI o82_43 L2 rfl 4 rfl (e_il2 o82_46 ?_)))
            rw [k4]
            refine e_ic_le o82_47 56 rfl (by first | exact zg_rg _ _ _ | exact zt_rg _ | omega) (by first | exact zg_rg _ _ _ | exact zt_rg _ | omega) (fun hb47 => ?_) (fun hb47 => ?_)
            · omega
            · refine e_al0 o82_50 (e_ico o82_51 (e_Vi1 o82_52 K82 K81 rfl ⟨rfl, rfl⟩ (zrcv_I L1 rfl) (by omega) rfl (c81 hC e1 (by omega)) ?_))
              rintro _ _ _ ⟨rfl, rfl, rfl⟩
              refine e_rI o82_55 K82 rfl rfl ?_
              exact ⟨Or.inr ⟨by omega, rfl, by rw [eF]⟩, rfl⟩
      · omega
    · have eF : nF B N e least top = 0 := by unfold nF; rw [if_pos h3, if_neg hg]
      refine e_al0 o82_0 (e_gR o82_1 L1 rfl rfl (e_gI o82_4 L2 rfl 2 rfl (e_ico o82_7 ?_)))
      rw [k1, h3]
      refine e_ic_eq o82_8 17 rfl (by first | exact zg_rg _ _ _ | exact zt_rg _ | omega) (by first | exact zg_rg _ _ _ | exact zt_rg _ | omega) (fun hb8 => ?_) (fun hb8 => ?_)
      · refine e_al0 o82_17 (e_gR o82_18 L1 rfl rfl (e_gI o82_21 L2 rfl 4 rfl (e_ico o82_24 ?_)))
        rw [k4]
        refine e_ic_eq o82_25 50 rfl (by first | exact zg_rg _ _ _ | exact zt_rg _ | omega) (by first | exact zg_rg _ _ _ | exact zt_rg _ | omega) (fun hb25 => ?_) (fun hb25 => ?_)
        · omega
        · refine e_al0 o82_28 (e_gR o82_29 L1 rfl rfl (e_gI o82_32 L2 rfl 4 rfl (e_il1 o82_35 ?_)))
          rw [k4]
          refine e_ic_lt o82_36 50 rfl (by first | exact zg_rg _ _ _ | exact zt_rg _ | omega) (by first | exact zg_rg _ _ _ | exact zt_rg _ | omega) (fun hb36 => ?_) (fun hb36 => ?_)
          · omega
          · refine e_al0 o82_39 (e_gR o82_40 L1 rfl rfl (e_gI o82_43 L2 rfl 4 rfl (e_il2 o82_46 ?_)))
            rw [k4]
            refine e_ic_le o82_47 56 rfl (by first | exact zg_rg _ _ _ | exact zt_rg _ | omega) (by first | exact zg_rg _ _ _ | exact zt_rg _ | omega) (fun hb47 => ?_) (fun hb47 => ?_)
            · refine e_al0 o82_56 (e_al0 o82_57 (e_gR o82_58 L1 rfl rfl (e_gI o82_61 L2 rfl 4 rfl ?_)))
              rw [k4]
              refine e_pI o82_64 L1 rfl rfl rfl rfl 4 rfl (e_al0 o82_67 (e_gR o82_68 L1 rfl rfl (e_Vv0 o82_71 K82 K34 rfl ⟨rfl, rfl⟩ (zrcv_I L2 rfl) (by omega) rfl (c34 (e := te B N e) (by omega) (TXc_w hT (fun q => zu_ne (by omega)) (zu_ne (by omega))) (by rw [zg_na (by decide)]; exact k3) (by omega) (by omega)) ?_)))
              rintro w u' ⟨⟨q1, q2⟩, rfl⟩
              refine e_ico o82_74 ?_
              refine e_rI o82_75 K82 (by decide) rfl ?_
              refine ⟨Or.inl ⟨eF, rfl, fun a q g1 g2 => by rw [q1 a q (by omega), zu_ne (by omega)], q2, ?_⟩, rfl⟩
              simp only [zg]
              rw [q1 1 4 (by omega), zu_same, zI_to (by omega)]
            · omega
      · omega
  · have eF : nF B N e least top = 1 := by unfold nF; rw [if_neg h3]
    refine e_al0 o82_0 (e_gR o82_1 L1 rfl rfl (e_gI o82_4 L2 rfl 2 rfl (e_ico o82_7 ?_)))
    rw [k1]
    refine e_ic_eq o82_8 17 rfl (by first | exact zg_rg _ _ _ | exact zt_rg _ | omega) (by first | exact zg_rg _ _ _ | exact zt_rg _ | omega) (fun hb8 => ?_) (fun hb8 => ?_)
    · omega
    · refine e_al0 o82_11 (e_ico o82_12 (e_Vi1 o82_13 K82 K81 rfl ⟨rfl, rfl⟩ (zrcv_I L1 rfl) (by omega) rfl (c81 hC e1 (by omega)) ?_))
      rintro _ _ _ ⟨rfl, rfl, rfl⟩
      refine e_rI o82_16 K82 rfl rfl ?_
      exact ⟨Or.inr ⟨by omega, rfl, by rw [eF]⟩, rfl⟩
theorem c93 {e c : Int} (hd : 2 ≤ d) (hT : TXc B N v) (hC : CT B N v e) (e0 : 0 ≤ e) (e1 : e ≤ N) (hc : 0 ≤ c ∧ c ≤ 1000) : zEv sc 93 d 0 [.ref 1, .int (zI c)] [] (zmk v u) 0 0 (zPi fun y w t => ((isS B N e c = true ∧ zI 1 = y ∧ FC v w ∧ CT B N w (te B N e)) ∨ (¬ isS B N e c = true ∧ zI 0 = y ∧ zu (zu v 1 2 (zI 1)) 1 3 (zI (ts B N e)) = w)) ∧ u = t) := by
  have h1 := ts_in (B := B) e1
  have h2 := te_in (B := B) e1
  have n6 := hT.1
  have k3 := hC.2.2.1
  refine e_al0 o93_0 (e_gR o93_1 L1 rfl rfl (e_il1 o93_4 (e_Vi1 o93_5 K93 K39 rfl ⟨rfl, rfl⟩ (zrcv_I L2 rfl) (by omega) rfl (c39 hT hC e0 e1 (by omega)) ?_)))
  rintro _ _ _ ⟨rfl, rfl, rfl⟩
  refine e_bz_ne o93_8 17 rfl (fun hb8 => ?_) (fun hb8 => ?_)
  · refine e_al0 o93_17 (e_gR o93_18 L1 rfl rfl (e_Vv0 o93_21 K93 K34 rfl ⟨rfl, rfl⟩ (zrcv_I L2 rfl) (by omega) rfl (c34 (e := te B N e) (by omega) hT k3 (by omega) (by omega)) ?_))
    rintro w u' ⟨⟨q1, q2⟩, rfl⟩
    refine e_ico o93_24 ?_
    refine e_rI o93_25 K93 (by decide) rfl ?_
    first | exact ⟨Or.inl ⟨hb8, rfl, q1, q2⟩, rfl⟩ | exact ⟨Or.inr ⟨hb8, rfl, rfl⟩, rfl⟩
  · refine e_al0 o93_11 (e_ico o93_12 (e_Vi1 o93_13 K93 K81 rfl ⟨rfl, rfl⟩ (zrcv_I L1 rfl) (by omega) rfl (c81 hC e1 (by omega)) ?_))
    rintro _ _ _ ⟨rfl, rfl, rfl⟩
    refine e_rI o93_16 K93 rfl rfl ?_
    first | exact ⟨Or.inl ⟨hb8, rfl, q1, q2⟩, rfl⟩ | exact ⟨Or.inr ⟨hb8, rfl, rfl⟩, rfl⟩
end
