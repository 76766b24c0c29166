theorem shs_na {p n : Int} {v : zV} {s : Int32} {a : Nat} (h : ¬ a = 31) : ∀ i, 0 ≤ i → ∀ k, zg (zfo (fun _ x => shs p n x) (v, s) i).1 a k = zg v a k := by
  refine zup ?_ ?_
  · intro k; rfl
  · intro i i0 ih k
    rw [zfo_succ i0]
    show zg (swV _ _ _) a k = _
    rw [swV_na h]
    exact ih k
/-- the class's numbers behind floods -/
def flV (v : zV) (p f : Int) (s : Int32) : zV := if zg v 30 p < 2 then (if 0 < f then zu v 33 1 (zI (zg v 33 0)) else v) else (zfo (fun _ x => shs p (zg v 30 p) x) ((if 0 < f then zu v 33 1 (zI (zg v 33 0)) else v), s) f).1
section
variable {sc : Nat × (Nat → Int32)} {d : Nat} {v v0 : zV} {u : zU}
theorem c128 {p f : Int} {s : Int32} (hd : 9 ≤ d) (hp : -2147483648 ≤ p ∧ p < 2147483648) (hf : -2147483648 ≤ f ∧ f < 2147483648) (hB : WB v) (hl : ∀ p, 0 ≤ p → p < 6 → 0 ≤ zg v 30 p ∧ zg v 30 p ≤ 40) : zEv sc 128 d 0 [.ref 0, .int (zI p), .int s, .int (zI f)] [] (zmk v u) 0 0 (zPt (fun y w t => ((0 ≤ p ∧ p < zg v 16 8) ∧ 0 ≤ f ∧ f ≤ 60) ∧ zI (if 0 < zg v 30 p then zg (flV v p f s) 31 (p * 40 + 0) else -1) = y ∧ flV v p f s = w ∧ u = t) (fun e w t => ((¬ (0 ≤ p ∧ p < zg v 16 8) ∧ e = 0) ∨ ((0 ≤ p ∧ p < zg v 16 8) ∧ ¬ (0 ≤ f ∧ f ≤ 60) ∧ e = 1)) ∧ v = w ∧ u = t)) := by
  have b0 := hB.1
  have mid : (0 ≤ p ∧ p < zg v 16 8) → (0 ≤ f ∧ f ≤ 60) → ∀ v1, v1 = (if 0 < f then zu v 33 1 (zI (zg v 33 0)) else v) → zEv sc 128 d 50 [.ref 0, .int (zI p), .int s, .int (zI f)] [] (zmk v1 u) 1 6 (zPt (fun y w t => ((0 ≤ p ∧ p < zg v 16 8) ∧ 0 ≤ f ∧ f ≤ 60) ∧ zI (if 0 < zg v 30 p then zg (flV v p f s) 31 (p * 40 + 0) else -1) = y ∧ flV v p f s = w ∧ u = t) (fun e w t => ((¬ (0 ≤ p ∧ p < zg v 16 8) ∧ e = 0) ∨ ((0 ≤ p ∧ p < zg v 16 8) ∧ ¬ (0 ≤ f ∧ f ≤ 60) ∧ e = 1)) ∧ v = w ∧ u = t)) := by
    intro o1 o2 v1 hv1
    have hlp := hl p o1.1 (by omega)
    have e30 : ∀ k, zg v1 30 k = zg v 30 k := fun k => by rw [hv1]; split; exact zg_na (by decide); rfl
    have h30 : zEv sc 30 (d - 1) 0 [.ref 29, .int (zI p), .int s, .int (zI f), zJ, zJ, zJ, zJ, zJ, zJ, zJ] [] (zmk v1 u) 0 0 (zdo (flV v p f s) u) := by
      by_cases hn : zg v 30 p < 2
      · have e := c30_no (sc := sc) (d := d - 1) (v := v1) (u := u) (p := p) (f := f) (s := s) o1.1 (by omega) (by rw [e30]; exact hn)
        rw [show flV v p f s = v1 by rw [flV, if_pos hn, hv1]]
        exact e
      · have e := c30_ok (sc := sc) (d := d - 1) (v := v1) (u := u) (p := p) (f := f) (s := s) (n := zg v 30 p) o1.1 (by omega) (e30 p) (by omega) (by omega) o2.1 o2.2
        rw [show flV v p f s = (zfo (fun _ x => shs p (zg v 30 p) x) (v1, s) f).1 by rw [flV, if_neg hn, hv1]]
        exact e
    have f30 : zg (flV v p f s) 30 p = zg v 30 p := by
      unfold flV
      rw [← hv1]
      split
      · exact e30 p
      · rw [shs_na (by decide) f o2.1, e30]
    refine e_al0 o128_50 (e_gR o128_51 L0 rfl rfl (e_gR o128_54 L28 rfl rfl (e_il1 o128_57 (e_il2 o128_58 (e_il3 o128_59 (e_Vv3 o128_60 K128 K30 rfl ⟨rfl, rfl⟩ (zrcv_I L29 rfl) (by omega) rfl h30 ?_))))))
    rintro _ _ ⟨rfl, rfl⟩
    refine e_al0 o128_63 (e_gR o128_64 L0 rfl rfl (e_gR o128_67 L28 rfl rfl (e_gR o128_70 L29 rfl rfl (e_il1 o128_73 (e_ial o128_74 L30 (by omega) (by omega) ?_)))))
    rw [f30]
    refine e_if_le o128_75 93 rfl (by first | exact zg_rg _ _ _ | exact zt_rg _ | omega) (fun hb75 => ?_) (fun hb75 => ?_)
    · refine e_ico o128_93 ?_
      refine e_rT o128_94 K128 rfl rfl ?_
      first | exact ⟨⟨o1, o2⟩, by rw [if_pos (by omega)], rfl, rfl⟩ | exact ⟨⟨o1, o2⟩, by rw [if_neg (by omega)], rfl, rfl⟩
    · refine e_al0 o128_78 (e_gR o128_79 L0 rfl rfl (e_gR o128_82 L28 rfl rfl (e_il1 o128_85 (e_ico o128_86 (e_Vi2 o128_87 K128 K24 rfl ⟨rfl, rfl⟩ (zrcv_I L29 rfl) (by omega) rfl (c24 o1.1 (by omega) (by omega) (by omega)) ?_)))))
      rintro _ _ _ ⟨rfl, rfl, rfl⟩
      refine e_goto o128_90 94 rfl ?_
      refine e_rT o128_94 K128 rfl rfl ?_
      first | exact ⟨⟨o1, o2⟩, by rw [if_pos (by omega)], rfl, rfl⟩ | exact ⟨⟨o1, o2⟩, by rw [if_neg (by omega)], rfl, rfl⟩
  refine e_al0 o128_0 (e_il1 o128_1 ?_)
  refine e_V (as := [_]) o128_2 K128 K109 rfl (zrcv_I L0 rfl) (by omega) rfl rfl (c109 (by omega) hp) (zaf_S (kc' := 1) (ks' := 6) rfl rfl rfl ?_ (fun e w' t he ht => by obtain ⟨h1, rfl, rfl, rfl⟩ := ht; exact zPt_thr (by decide) ⟨Or.inl ⟨by omega, rfl⟩, rfl, rfl⟩))
  rintro _ _ ⟨h2, rfl, rfl⟩
  refine e_il3 o128_5 (e_if_lt o128_6 15 rfl (by first | exact zg_rg _ _ _ | exact zt_rg _ | omega) (fun hb6 => ?_) (fun hb6 => ?_))
  · refine e_throw 1 o128_15 K128 (s := 30) rfl rfl (by omega) o128_18 (Or.inr ⟨o128_19, o128_22, o128_25⟩) ?_
    exact zPt_thr (by decide) ⟨Or.inr ⟨h2, by omega, rfl⟩, rfl, rfl⟩
  · refine e_il3 o128_9 (e_bip o128_10 rfl (e_ic_le o128_12 26 rfl (by first | exact zg_rg _ _ _ | exact zt_rg _ | omega) (by first | exact zg_rg _ _ _ | exact zt_rg _ | omega) (fun hb12 => ?_) (fun hb12 => ?_)))
    · refine e_il3 o128_26 (e_if_le o128_27 50 rfl (by first | exact zg_rg _ _ _ | exact zt_rg _ | omega) (fun hb27 => ?_) (fun hb27 => ?_))
      · first | exact mid h2 (by omega) _ (by rw [if_pos (by omega)]) | exact mid h2 (by omega) _ (by rw [if_neg (by omega)])
      · refine e_al0 o128_30 (e_gR o128_31 L0 rfl rfl (e_gR o128_34 L28 rfl rfl (e_al0 o128_37 (e_gR o128_38 L0 rfl rfl (e_gR o128_41 L28 rfl rfl (e_gI o128_44 L33 rfl 0 rfl (e_pI o128_47 L33 rfl rfl rfl rfl 1 rfl ?_)))))))
        first | exact mid h2 (by omega) _ (by rw [if_pos (by omega)]) | exact mid h2 (by omega) _ (by rw [if_neg (by omega)])
    · refine e_throw 1 o128_15 K128 (s := 30) rfl rfl (by omega) o128_18 (Or.inr ⟨o128_19, o128_22, o128_25⟩) ?_
      exact zPt_thr (by decide) ⟨Or.inr ⟨h2, by omega, rfl⟩, rfl, rfl⟩
end
