/-! floods of the class -/
def shs (p n : Int) (x : zV × Int32) : zV × Int32 := (swV x.1 (p * 40 + dr (nxs x.2) % n) (p * 40 + dr (nxs (nxs x.2)) % n), nxs (nxs x.2))
theorem drz (x : Int32) : ((x.toUInt32 >>> ((zI 16).toUInt32 &&& Int32.toUInt32 31)).toInt32 &&& zI 32767) = zI (dr x) := by
  rw [drw]
  exact (zI_t _).symm
section
variable {sc : Nat × (Nat → Int32)} {d : Nat} {v v0 : zV} {u : zU}
theorem c30_no {p f : Int} {s : Int32} (p0 : 0 ≤ p) (p1 : p < 6) (h : zg v 30 p < 2) : zEv sc 30 d 0 [.ref 29, .int (zI p), .int s, .int (zI f), zJ, zJ, zJ, zJ, zJ, zJ, zJ] [] (zmk v u) 0 0 (zdo v u) := by
  refine e_al0 o30_0 (e_gR o30_1 L29 rfl rfl (e_il1 o30_4 (e_ial o30_5 L30 (by omega) (by omega) (e_is4 o30_6 (e_il4 o30_8 (e_ico o30_10 (e_ic_ge o30_11 15 rfl (by first | exact zg_rg _ _ _ | exact zt_rg _ | omega) (by first | exact zg_rg _ _ _ | exact zt_rg _ | omega) (fun hb11 => ?_) (fun hb11 => ?_))))))))
  · omega
  · refine e_rV o30_14 K30 rfl rfl ?_
    exact ⟨rfl, rfl⟩
theorem c30_ok {p f n : Int} {s : Int32} (p0 : 0 ≤ p) (p1 : p < 6) (hn : zg v 30 p = n) (n0 : 2 ≤ n) (n1 : n ≤ 40) (f0 : 0 ≤ f) (f1 : f ≤ 60) : zEv sc 30 d 0 [.ref 29, .int (zI p), .int s, .int (zI f), zJ, zJ, zJ, zJ, zJ, zJ, zJ] [] (zmk v u) 0 0 (zdo (zfo (fun _ x => shs p n x) (v, s) f).1 u) := by
  have loop : ∀ i, 0 ≤ i → i ≤ f → ∀ a8 a9 a10, zEv sc 30 d 27 [.ref 29, .int (zI p), .int s, .int (zI f), .int (zI n), .int (zI (p * 40)), .int (zfo (fun _ x => shs p n x) (v, s) i).2, .int (zI i), a8, a9, a10] [] (zmk (zfo (fun _ x => shs p n x) (v, s) i).1 u) 0 0 (zdo (zfo (fun _ x => shs p n x) (v, s) f).1 u) := by
    refine zloop ?_
    intro i i0 i1 ih a8 a9 a10
    rw [zfo_succ i0] at ih
    have fin : i = f → (zfo (fun _ x => shs p n x) (v, s) i) = (zfo (fun _ x => shs p n x) (v, s) f) := fun e => by rw [e]
    revert ih fin
    generalize zfo (fun _ x => shs p n x) (v, s) i = x
    intro ih fin
    obtain ⟨x1, x2⟩ := x
    dsimp only at ih fin ⊢
    have q1 := Int.emod_nonneg (dr (nxs x2)) (show n ≠ 0 by omega)
    have q2 := Int.emod_lt_of_pos (dr (nxs x2)) (show 0 < n by omega)
    have q3 := Int.emod_nonneg (dr (nxs (nxs x2))) (show n ≠ 0 by omega)
    have q4 := Int.emod_lt_of_pos (dr (nxs (nxs x2))) (show 0 < n by omega)
    have r1 := dr_rg (nxs x2)
    have r2 := dr_rg (nxs (nxs x2))
    refine e_il7 o30_27 (e_il3 o30_29 (e_ic_ge o30_30 127 rfl (by first | exact zg_rg _ _ _ | exact zt_rg _ | omega) (by first | exact zg_rg _ _ _ | exact zt_rg _ | omega) (fun hb30 => ?_) (fun hb30 => ?_)))
    · refine e_rV o30_127 K30 rfl rfl ?_
      have ef := fin (by omega)
      exact ⟨by rw [← ef], rfl⟩
    · refine e_il6 o30_33 (e_ldcI (z := 1103515245) o30_35 rfl rfl (e_mulR o30_37 (e_sip o30_38 rfl (e_addR o30_41 ?_))))
      rw [show x2 * zI 1103515245 + zI 12345 = nxs x2 from rfl]
      refine e_is6 o30_42 (e_il5 o30_44 (e_il6 o30_46 (e_bip o30_48 rfl (e_ushrR o30_50 (e_sip o30_51 rfl (e_andR o30_54 ?_))))))
      rw [drz]
      refine e_il4 o30_55 (e_rem o30_57 (by omega) (by omega) (e_add o30_58 (e_is8 o30_59 (e_il6 o30_61 (e_ldcI (z := 1103515245) o30_63 rfl rfl (e_mulR o30_65 (e_sip o30_66 rfl (e_addR o30_69 ?_))))))))
      rw [show nxs x2 * zI 1103515245 + zI 12345 = nxs (nxs x2) from rfl]
      refine e_is6 o30_70 (e_il5 o30_72 (e_il6 o30_74 (e_bip o30_76 rfl (e_ushrR o30_78 (e_sip o30_79 rfl (e_andR o30_82 ?_))))))
      rw [drz]
      refine e_il4 o30_83 (e_rem o30_85 (by omega) (by omega) (e_add o30_86 (e_is9 o30_87 (e_al0 o30_89 (e_gR o30_90 L29 rfl rfl (e_il8 o30_93 (e_ial o30_95 L31 (by omega) (by omega) (e_is10 o30_96 (e_al0 o30_98 (e_gR o30_99 L29 rfl rfl (e_il8 o30_102 (e_al0 o30_104 (e_gR o30_105 L29 rfl rfl (e_il9 o30_108 (e_ial o30_110 L31 (by omega) (by omega) (e_iast o30_111 L31 (by omega) (by omega) (e_al0 o30_112 (e_gR o30_113 L29 rfl rfl (e_il9 o30_116 (e_il10 o30_118 (e_iast o30_120 L31 (by omega) (by omega) (e_inc7 o30_121 (e_goto o30_124 27 rfl ?_)))))))))))))))))))))))
      have e := ih (by omega) (.int (zI (p * 40 + dr (nxs x2) % n))) (.int (zI (p * 40 + dr (nxs (nxs x2)) % n))) (.int (zI (zg x1 31 (p * 40 + dr (nxs x2) % n))))
      rw [zI_g, zI_g]
      rw [zI_g] at e
      exact e
  refine e_al0 o30_0 (e_gR o30_1 L29 rfl rfl (e_il1 o30_4 (e_ial o30_5 L30 (by omega) (by omega) ?_)))
  rw [hn]
  refine e_is4 o30_6 (e_il4 o30_8 (e_ico o30_10 (e_ic_ge o30_11 15 rfl (by first | exact zg_rg _ _ _ | exact zt_rg _ | omega) (by first | exact zg_rg _ _ _ | exact zt_rg _ | omega) (fun hb11 => ?_) (fun hb11 => ?_))))
  · refine e_il1 o30_15 (e_bip o30_16 rfl (e_mul o30_18 (e_is5 o30_19 (e_il2 o30_21 (e_is6 o30_22 (e_ico o30_24 (e_is7 o30_25 ?_)))))))
    exact loop 0 (by omega) f0 _ _ _
  · omega
end
