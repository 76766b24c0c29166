/-! the class tries all loads -/
def tA (j : Int) : Nat := (70 + 2 * j).toNat
def tB (j : Int) : Nat := (71 + 2 * j).toNat
theorem tA_L {j : Int} (h0 : 0 ≤ j) (h1 : j < 4) : zLay[tA j]? = some (4, 5, [9999, 9999, 9999, 9999, tB j]) ∧ zLay[tB j]? = some (0, 8, []) ∧ (tB j == 9999) = false ∧ [70, 72, 74, 76][j.toNat]? = some (tA j) := by
  rcases (show j = 0 ∨ j = 1 ∨ j = 2 ∨ j = 3 by omega) with e | e | e | e <;> subst e <;> exact ⟨rfl, rfl, rfl, rfl⟩
theorem tA_v {j : Int} (h0 : 0 ≤ j) : (tA j : Int) = 70 + 2 * j ∧ (tB j : Int) = 71 + 2 * j := by
  unfold tA tB; omega
def TP (v : zV) (n : Int) (w : zV) : Prop := (∀ a q, ¬ (70 ≤ a ∧ a ≤ 77) → w a q = v a q) ∧ ∀ j, 0 ≤ j → j < n → zg w (tA j) 0 = zg v 39 j ∧ zg w (tA j) 1 = lgF v j ∧ zg w (tA j) 2 = zg v 40 j ∧ zg w (tA j) 3 = 0
section
variable {sc : Nat × (Nat → Int32)} {d : Nat} {v v0 w : zV} {u : zU}
theorem c2 {n : Int} (hd : 1 ≤ d) (hn : zg v 28 9 = n) (n0 : 0 ≤ n) (n4 : n ≤ 4) (hl : ∀ i, 0 ≤ i → i < n → 0 ≤ zg v 39 i ∧ zg v 39 i < 5) : zEv sc 2 d 0 [.ref 66, .ref 28, zJ, zJ, zJ, zJ] [] (zmk v u) 0 0 (zPv fun w t => TP v n w ∧ u = t) := by
  have loop : ∀ i, 0 ≤ i → i ≤ n → ∀ w a3 a4 a5, TP v i w → zEv sc 2 d 2 [.ref 66, .ref 28, .int (zI i), a3, a4, a5] [] (zmk w u) 0 0 (zPv fun w t => TP v n w ∧ u = t) := by
    refine zloop ?_
    intro i i0 i1 ih w a3 a4 a5 hT
    obtain ⟨f1, f2⟩ := hT
    have g : ∀ a, ¬ (70 ≤ a ∧ a ≤ 77) → zg w a = zg v a := fun a ha => zg_fn fun q => f1 a q ha
    have e28 := g 28 (by omega)
    have e38 := g 38 (by omega)
    have e39 := g 39 (by omega)
    have e40 := g 40 (by omega)
    have next : i < n → zEv sc 2 d 60 [.ref 66, .ref 28, .int (zI i), .int (zI (zg v 39 i)), .int (zI (lgF v i)), .int (zI i)] [] (zmk w u) 0 0 (zPv fun w t => TP v n w ∧ u = t) := by
      intro hi
      obtain ⟨t1, t2, t3, t4⟩ := tA_L i0 (show i < 4 by omega)
      obtain ⟨ta, tb⟩ := tA_v i0
      have fr : ∀ j, 0 ≤ j → j < i → (tA j : Int) = 70 + 2 * j := fun j j0 j1 => (tA_v j0).1
      obtain ⟨T, eT⟩ : ∃ T, T = tA i := ⟨_, rfl⟩
      rw [← eT] at t1 t4 ta
      have hT := t1
      have lr := spC_rg (v := v) (s := zg v 39 i) i i0
      refine e_al0 o2_60 (e_gR o2_61 L66 rfl rfl (e_il2 o2_64 (e_aal o2_65 L69 (by omega) (by show i < 4; omega) rfl t4 (e_il3 o2_66 (e_il4 o2_67 (e_al1 o2_69 (e_gR o2_70 L28 rfl rfl (e_il2 o2_73 (e_ial o2_74 L40 (by omega) (by omega) (e_Vv3 o2_75 K2 K50 rfl ⟨rfl, rfl⟩ (zrcv_I hT rfl) (by omega) rfl (c50 hT) ?_))))))))))
      rintro _ _ ⟨rfl, rfl⟩
      refine e_inc2 o2_78 (e_goto o2_81 2 rfl ?_)
      refine ih hi _ _ _ _ ⟨?_, ?_⟩
      · intro a q ha
        rw [zu_ne (by omega), zu_ne (by omega), zu_ne (by omega), zu_ne (by omega), f1 a q ha]
      · intro j j0 j1
        by_cases e : j = i
        · subst e
          rw [← eT]
          refine ⟨?_, ?_, ?_, ?_⟩
          · rw [zg_ne (by omega), zg_ne (by omega), zg_ne (by omega), zg_same (zg_rg _ _ _)]
          · rw [zg_ne (by omega), zg_ne (by omega), zg_same (show -2147483648 ≤ lgF v j ∧ lgF v j < 2147483648 from lr)]
          · rw [zg_ne (by omega), zg_same (zg_rg _ _ _), e40]
          · rw [zg_same (by omega)]
        · have e2 := fr j j0 (by omega)
          rw [zg_ne (by omega), zg_ne (by omega), zg_ne (by omega), zg_ne (by omega), zg_ne (by omega), zg_ne (by omega), zg_ne (by omega), zg_ne (by omega), zg_ne (by omega), zg_ne (by omega), zg_ne (by omega), zg_ne (by omega), zg_ne (by omega), zg_ne (by omega), zg_ne (by omega), zg_ne (by omega)]
          exact f2 j j0 (by omega)
    have inner : i < n → ∀ e, 0 ≤ e → e ≤ i → zEv sc 2 d 28 [.ref 66, .ref 28, .int (zI i), .int (zI (zg v 39 i)), .int (zI (spC v e (zg v 39 i))), .int (zI e)] [] (zmk w u) 0 0 (zPv fun w t => TP v n w ∧ u = t) := by
      intro hi
      refine zloop ?_
      intro e e0 e1 ihe
      rw [spC_succ e0] at ihe
      refine e_il5 o2_28 (e_il2 o2_30 (e_ic_ge o2_31 60 rfl (by first | exact zg_rg _ _ _ | exact zt_rg _ | omega) (by first | exact zg_rg _ _ _ | exact zt_rg _ | omega) (fun hb31 => ?_) (fun hb31 => ?_)))
      · have ee : e = i := by omega
        subst ee
        exact next hi
      · refine e_al1 o2_34 (e_gR o2_35 L28 rfl rfl (e_il5 o2_38 (e_ial o2_40 L39 (by omega) (by omega) (e_il3 o2_41 ?_))))
        rw [e39]
        refine e_ic_ne o2_42 54 rfl (by first | exact zg_rg _ _ _ | exact zt_rg _ | omega) (by first | exact zg_rg _ _ _ | exact zt_rg _ | omega) (fun hb42 => ?_) (fun hb42 => ?_)
        · refine e_inc5 o2_54 (e_goto o2_57 28 rfl ?_)
          rw [if_neg hb42] at ihe
          exact ihe (by omega)
        · refine e_al1 o2_45 (e_gR o2_46 L28 rfl rfl (e_il5 o2_49 (e_ial o2_51 L40 (by omega) (by omega) (e_is4 o2_52 (e_inc5 o2_54 (e_goto o2_57 28 rfl ?_))))))
          rw [if_pos hb42] at ihe
          rw [e40]
          exact ihe (by omega)
    refine e_il2 o2_2 (e_al1 o2_3 (e_gI o2_4 L28 rfl 9 rfl ?_))
    rw [e28, hn]
    refine e_ic_ge o2_7 84 rfl (by first | exact zg_rg _ _ _ | exact zt_rg _ | omega) (by first | exact zg_rg _ _ _ | exact zt_rg _ | omega) (fun hb7 => ?_) (fun hb7 => ?_)
    · refine e_rV o2_84 K2 rfl rfl ?_
      have ei : i = n := by omega
      subst ei
      exact ⟨⟨f1, f2⟩, rfl⟩
    · have hi := hl i i0 (by omega)
      refine e_al1 o2_10 (e_gR o2_11 L28 rfl rfl (e_il2 o2_14 (e_ial o2_15 L39 (by omega) (by omega) ?_)))
      rw [e39]
      refine e_is3 o2_16 (e_al1 o2_17 (e_gR o2_18 L28 rfl rfl (e_il3 o2_21 ?_)))
      skip
      refine e_ial o2_22 L38 (by omega) (by omega) ?_
      rw [e38]
      refine e_is4 o2_23 (e_ico o2_25 (e_is5 o2_26 ?_))
      exact inner (by omega) 0 (by omega) i0
  refine e_ico o2_0 (e_is2 o2_1 ?_)
  exact loop 0 (by omega) n0 _ _ _ _ ⟨fun a q _ => rfl, fun j j0 j1 => by omega⟩
theorem c51_0 {a b : Nat} (hT : zLay[a]? = some (4, 5, [9999, 9999, 9999, 9999, b])) (h : zg v a 3 = 0) : zEv sc 51 d 0 [.ref a, .ref 16, .ref 29, zJ, zJ] [] (zmk v u) 0 0 (zdo (zu v a 3 (zI 0)) u) := by
  obtain ⟨T, eT⟩ : ∃ T, T = a := ⟨_, rfl⟩
  rw [← eT] at hT h ⊢
  refine e_al0 o51_0 (e_gI o51_1 hT rfl 3 rfl (e_ico o51_4 ?_))
  rw [h]
  refine e_sub o51_5 (e_is3 o51_6 (e_il3 o51_7 (e_if_lt o51_8 68 rfl (by first | exact zg_rg _ _ _ | exact zt_rg _ | omega) (fun hb8 => ?_) (fun hb8 => ?_))))
  · refine e_al0 o51_68 (e_ico o51_69 (e_pI o51_70 hT rfl rfl rfl rfl 3 rfl ?_))
    refine e_rV o51_73 K51 rfl rfl ?_
    exact ⟨rfl, rfl⟩
  · omega
end
