/-! world: the class -/
def BW (v w : zV) (p : Int) : Prop := (∀ a q, ¬ (a = 1 ∧ 2 ≤ q ∧ q ≤ 4) → ¬ (a = 2 ∧ 1 ≤ q ∧ q ≤ 6) → ¬ (4 ≤ a ∧ a ≤ 13) → ¬ (a = 0 ∧ q = 7) → ¬ (a = 44 ∧ q = 0) → w a q = v a q) ∧ zg w 2 1 = 0 ∧ zg w 0 7 = p ∧ w 44 0 = zI (zg v 44 0 + 1)
def GW (D : Dr) (v w : zV) : Prop := (∀ a q, ¬ (a = 1 ∧ 2 ≤ q ∧ q ≤ 4) → ¬ (a = 2 ∧ 1 ≤ q ∧ q ≤ 6) → ¬ (4 ≤ a ∧ a ≤ 13) → ¬ (16 ≤ a ∧ a ≤ 25) → ¬ (a = 0 ∧ 6 ≤ q ∧ q ≤ 8) → ¬ (30 ≤ a ∧ a ≤ 32) → ¬ (a = 33 ∧ (q = 0 ∨ q = 1)) → ¬ a = 37 → ¬ a = 38 → ¬ (a = 28 ∧ (q = 9 ∨ q = 10)) → w a q = v a q) ∧ TD D w ∧ (∃ L, CS w (fun t => if 0 ≤ t ∧ t < zg w 16 9 then zg w 19 t else -1) L ∧ ∀ t, 0 ≤ t → t < zg w 16 9 → L t = cnt (zg w 19) (zg w 19 t) t) ∧ (zg w 33 0 = 0 ∧ zg w 33 1 = 0) ∧ (∀ p, 0 ≤ p → p < 6 → zg w 37 p = 10) ∧ (∀ i, 0 ≤ i → i < 5 → zg w 38 i = zg w 23 i) ∧ (zg w 28 9 = 0 ∧ zg w 28 10 = 0) ∧ zg w 2 1 = 0 ∧ zg w 0 6 = 0 ∧ zg w 0 7 = -1 ∧ zg w 0 8 = 0
def wdC (o : LO) (v w : zV) (y : Int32) : Prop := match o with
  | .inl (_, D) => zI 0 = y ∧ GW D v w
  | .inr (c, p) => zI c = y ∧ BW v w p
theorem TD_w {D : Dr} {v w : zV} (h : ∀ a q, 16 ≤ a → a ≤ 25 → w a q = v a q) (hD : TD D v) : TD D w := by
  have g : ∀ a, 16 ≤ a → a ≤ 25 → zg w a = zg v a := fun a h1 h2 => zg_fn fun q => h a q h1 h2
  unfold TD at hD ⊢
  rw [g 16 (by omega) (by omega), g 17 (by omega) (by omega), g 18 (by omega) (by omega), g 19 (by omega) (by omega), g 20 (by omega) (by omega), g 21 (by omega) (by omega), g 22 (by omega) (by omega), g 23 (by omega) (by omega), g 24 (by omega) (by omega), g 25 (by omega) (by omega)]
  exact hD
section
variable {sc : Nat × (Nat → Int32)} {d : Nat} {v : zV} {u : zU}
theorem c106_no {n : Int} (hd : 6 ≤ d) (nr : -2147483648 ≤ n ∧ n < 2147483648) (h : ¬ (0 ≤ n ∧ n ≤ zg v 2 1)) : zEv sc 106 d 0 [.ref 0, .int (zI n), zJ] [] (zmk v u) 0 0 (zPt (fun _ _ _ => False) (fun e w t => e = 1 ∧ v = w ∧ u = t)) := by
  refine e_il1 o106_0 (e_if_lt o106_1 18 rfl (by first | exact zg_rg _ _ _ | exact zt_rg _ | omega) (fun hb1 => ?_) (fun hb1 => ?_))
  · refine e_throw 1 o106_18 K106 (s := 0) rfl rfl (by omega) o106_21 (Or.inl ⟨o106_22, o106_24, o106_27⟩) ?_
    exact zPt_thr (by decide) ⟨rfl, rfl, rfl⟩
  · refine e_il1 o106_4 (e_al0 o106_5 (e_gR o106_6 L0 rfl rfl (e_gR o106_9 L1 rfl rfl (e_gI o106_12 L2 rfl 1 rfl (e_ic_le o106_15 28 rfl (by first | exact zg_rg _ _ _ | exact zt_rg _ | omega) (by first | exact zg_rg _ _ _ | exact zt_rg _ | omega) (fun hb15 => ?_) (fun hb15 => ?_))))))
    · omega
    · refine e_throw 1 o106_18 K106 (s := 0) rfl rfl (by omega) o106_21 (Or.inl ⟨o106_22, o106_24, o106_27⟩) ?_
      exact zPt_thr (by decide) ⟨rfl, rfl, rfl⟩
theorem c106 {n : Int} {o : LO} (hd : 110 ≤ d) (h0 : 0 ≤ n) (h1 : n ≤ zg v 2 1) (h6 : n ≤ 600) (g : gPs n o) (hP : zEv sc 78 (d - 1) 0 [.ref 1, .int (zI n), zJ] [] (zmk v u) 0 0 (zPi fun y w t => pC o v w y ∧ u = t)) : zEv sc 106 d 0 [.ref 0, .int (zI n), zJ] [] (zmk v u) 0 0 (zPt (fun y w t => wdC o v w y ∧ u = t) (fun _ _ _ => False)) := by
  cases o using LO_c with
  | bad c p =>
    obtain ⟨g1, g2, g3, g4⟩ := g
    refine e_il1 o106_0 (e_if_lt o106_1 18 rfl (by first | exact zg_rg _ _ _ | exact zt_rg _ | omega) (fun hb1 => ?_) (fun hb1 => ?_))
    · omega
    · refine e_il1 o106_4 (e_al0 o106_5 (e_gR o106_6 L0 rfl rfl (e_gR o106_9 L1 rfl rfl (e_gI o106_12 L2 rfl 1 rfl (e_ic_le o106_15 28 rfl (by first | exact zg_rg _ _ _ | exact zt_rg _ | omega) (by first | exact zg_rg _ _ _ | exact zt_rg _ | omega) (fun hb15 => ?_) (fun hb15 => ?_))))))
      · refine e_al0 o106_28 (e_gR o106_29 L0 rfl rfl (e_il1 o106_32 (e_Vi1 o106_33 K106 K78 rfl ⟨rfl, rfl⟩ (zrcv_I L1 rfl) (by omega) rfl hP ?_)))
        rintro y w u' ⟨⟨rfl, a2, a3, a4⟩, rfl⟩
        refine e_is2 o106_36 (e_al0 o106_37 (e_gR o106_38 L0 rfl rfl (e_gR o106_41 L1 rfl rfl (e_ico o106_44 (e_pI o106_45 L2 rfl rfl rfl rfl 1 rfl (e_il2 o106_48 (e_if_ne o106_49 84 rfl (by first | exact zg_rg _ _ _ | exact zt_rg _ | omega) (fun hb49 => ?_) (fun hb49 => ?_))))))))
        · omega
        · refine e_al0 o106_52 (e_al0 o106_53 (e_gR o106_54 L0 rfl rfl (e_gI o106_57 L1 rfl 3 rfl ?_)))
          rw [zg_na (by decide), a4]
          refine e_pI o106_60 L0 rfl rfl rfl rfl 7 rfl (e_al0 o106_63 (e_gR o106_64 L0 rfl rfl (e_gR o106_67 L28 rfl rfl (e_ico o106_70 (e_dup2 o106_71 (e_ial o106_72 L44 (by omega) (by omega) (e_ico o106_73 ?_)))))))
          rw [zg_na (by decide), zg_na (by decide)]
          refine e_add o106_74 (e_iast o106_75 L44 (by omega) (by omega) (e_al0 o106_76 (e_gR o106_77 L0 rfl rfl (e_gI o106_80 L1 rfl 2 rfl ?_))))
          rw [zg_na (by decide), zg_na (by decide), zg_na (by decide), a3]
          refine e_rT o106_83 K106 rfl rfl ?_
          refine ⟨⟨rfl, ?_, ?_, ?_, ?_⟩, rfl⟩
          · intro a q k1 k2 k3 k4 k5
            rw [zu_ne (by omega), zu_ne (by omega), zu_ne (by omega), a2 a q k1 (by omega) k3]
          · rw [zg_na (by decide), zg_na (by decide), zg_same (by omega)]
          · rw [zg_na (by decide), zg_same (by omega)]
          · rw [zu_same]; simp only [zg]; rw [a2 44 0 (by omega) (by omega) (by omega)]
      · omega
  | ok e' D =>
    have hBD : DB D := g
    have key : ∀ w, F78 v w → CD D w → WB (cpWc (cpWb (cpWa (cpTf (cpW0 (zu (zu w 2 1 (zI 0)) 0 7 (zI (-1)))))))) ∧ TD D (cpWc (cpWb (cpWa (cpTf (cpW0 (zu (zu w 2 1 (zI 0)) 0 7 (zI (-1)))))))) ∧ FT (zu (zu w 2 1 (zI 0)) 0 7 (zI (-1))) (cpWc (cpWb (cpWa (cpTf (cpW0 (zu (zu w 2 1 (zI 0)) 0 7 (zI (-1)))))))) := by
      intro w hF hD
      obtain ⟨t1, t2⟩ := TD_of hBD (CD_w (v := w) (w := zu (zu w 2 1 (zI 0)) 0 7 (zI (-1))) (fun a q z1 z2 => by rw [zu_ne (by omega), zu_ne (by omega)]) hD)
      exact ⟨TD_B hBD t1, t1, t2⟩
    refine e_il1 o106_0 (e_if_lt o106_1 18 rfl (by first | exact zg_rg _ _ _ | exact zt_rg _ | omega) (fun hb1 => ?_) (fun hb1 => ?_))
    · omega
    · refine e_il1 o106_4 (e_al0 o106_5 (e_gR o106_6 L0 rfl rfl (e_gR o106_9 L1 rfl rfl (e_gI o106_12 L2 rfl 1 rfl (e_ic_le o106_15 28 rfl (by first | exact zg_rg _ _ _ | exact zt_rg _ | omega) (by first | exact zg_rg _ _ _ | exact zt_rg _ | omega) (fun hb15 => ?_) (fun hb15 => ?_))))))
      · refine e_al0 o106_28 (e_gR o106_29 L0 rfl rfl (e_il1 o106_32 (e_Vi1 o106_33 K106 K78 rfl ⟨rfl, rfl⟩ (zrcv_I L1 rfl) (by omega) rfl hP ?_)))
        rintro y w u' ⟨⟨rfl, a2, a3⟩, rfl⟩
        obtain ⟨kB, kT, kF⟩ := key w a2 a3
        refine e_is2 o106_36 (e_al0 o106_37 (e_gR o106_38 L0 rfl rfl (e_gR o106_41 L1 rfl rfl (e_ico o106_44 (e_pI o106_45 L2 rfl rfl rfl rfl 1 rfl (e_il2 o106_48 (e_if_ne o106_49 84 rfl (by first | exact zg_rg _ _ _ | exact zt_rg _ | omega) (fun hb49 => ?_) (fun hb49 => ?_))))))))
        · refine e_al0 o106_84 (e_ico o106_85 (e_pI o106_86 L0 rfl rfl rfl rfl 7 rfl (e_al0 o106_89 (e_gR o106_90 L0 rfl rfl (e_al0 o106_93 (e_gR o106_94 L0 rfl rfl (e_gR o106_97 L1 rfl rfl (e_Vv1 o106_100 K106 K76 rfl ⟨rfl, rfl⟩ (zrcv_I L16 rfl) (by omega) rfl (c76 (by omega)) ?_))))))))
          rintro _ _ ⟨rfl, rfl⟩
          refine e_al0 o106_103 (e_gR o106_104 L0 rfl rfl (e_al0 o106_107 (e_gR o106_108 L0 rfl rfl (e_Vv1 o106_111 K106 K12 rfl ⟨rfl, rfl⟩ (zrcv_I L28 rfl) (by omega) rfl (c12 (by omega) kB) ?_))))
          rintro w2 u' ⟨⟨b1, ⟨L, b2, b3⟩, b4, b5, b6, b7, b8, b9⟩, rfl⟩
          refine e_al0 o106_114 (e_ico o106_115 (e_pI o106_116 L0 rfl rfl rfl rfl 6 rfl (e_al0 o106_119 (e_ico o106_120 (e_pI o106_121 L0 rfl rfl rfl rfl 8 rfl (e_ico o106_124 ?_))))))
          refine e_rT o106_125 K106 rfl rfl ?_
          have e : ∀ a q, ¬ (a = 0 ∧ (q = 6 ∨ q = 8)) → zu (zu w2 0 6 (zI 0)) 0 8 (zI 0) a q = w2 a q := fun a q h => by rw [zu_ne (by omega), zu_ne (by omega)]
          have g' : ∀ a, ¬ a = 0 → zg (zu (zu w2 0 6 (zI 0)) 0 8 (zI 0)) a = zg w2 a := fun a h => zg_fn fun q => e a q (by omega)
          have t16 : ∀ a, 16 ≤ a → a ≤ 25 → zg w2 a = zg (cpWc (cpWb (cpWa (cpTf (cpW0 (zu (zu w 2 1 (zI 0)) 0 7 (zI (-1)))))))) a := fun a z1 z2 => zg_fn fun q => b1 a q (by omega) (by omega) (by omega) (by omega) (by omega)
          refine ⟨⟨rfl, fun a q k1 k2 k3 k4 k5 k6 k7 k8 k9 k10 => ?_, ?_, ⟨L, ?_, ?_⟩, ?_, ?_, ?_, ?_, ?_, ?_, ?_, ?_⟩, rfl⟩
          · rw [e a q (by omega), b1 a q k6 k7 k8 k9 k10, kF a q k4, zu_ne (by omega), zu_ne (by omega), a2 a q k1 (by omega) k3]
          · exact TD_w (fun a q z1 z2 => by rw [e a q (by omega), b1 a q (by omega) (by omega) (by omega) (by omega) (by omega)]) kT
          · rw [g' 16 (by omega), g' 19 (by omega), t16 16 (by omega) (by omega), t16 19 (by omega) (by omega)]
            exact CS_w (fun a q z1 z2 => e a q (by omega)) (fun a q z1 z2 => e a q (by omega)) b2
          · rw [g' 16 (by omega), g' 19 (by omega), t16 16 (by omega) (by omega), t16 19 (by omega) (by omega)]; exact b3
          · rw [g' 33 (by omega)]; exact ⟨b4, b5⟩
          · rw [g' 37 (by omega)]; exact b6
          · rw [g' 38 (by omega), g' 23 (by omega), t16 23 (by omega) (by omega)]; exact b7
          · rw [g' 28 (by omega)]; exact ⟨b8, b9⟩
          · rw [g' 2 (by omega)]
            simp only [zg]
            rw [b1 2 1 (by omega) (by omega) (by omega) (by omega) (by omega), kF 2 1 (by omega), zu_ne (by omega), zu_same]
            rfl
          · rw [zg_ne (by omega), zg_same (by omega)]
          · rw [zg_ne (by omega), zg_ne (by omega)]
            simp only [zg]
            rw [b1 0 7 (by omega) (by omega) (by omega) (by omega) (by omega), kF 0 7 (by omega), zu_same]
            rfl
          · rw [zg_same (by omega)]
        · omega
      · omega
end
