/-! floods of the reference -/
def FL (v z : zV) (P : Int → Int) (s : Int32) (w : zV) : Prop :=
  (∀ a q, ¬ a = 79 → ¬ a = 93 → w a q = v a q) ∧ (∀ q, (q < 40 ∨ 40 + zg v 16 9 ≤ q) → w 93 q = v 93 q) ∧ (∀ q, ¬ q = 48 → w 79 q = v 79 q) ∧ w 79 48 = s ∧ ∃ L, CS z P L ∧ ∀ t, 0 ≤ t → t < zg v 16 9 → zg w 93 (40 + t) = L t
theorem EW_79 {v : zV} {k : Int} {x : Int32} (h : EW v) : EW (zu v 79 k x) := by
  have e : ∀ a, ¬ a = 79 → zg (zu v 79 k x) a = zg v a := fun a ha => funext fun q => zg_na ha
  unfold EW at h ⊢
  rw [e 82 (by decide), e 16 (by decide), e 83 (by decide), e 17 (by decide), e 84 (by decide), e 18 (by decide), e 85 (by decide), e 19 (by decide), e 86 (by decide), e 20 (by decide), e 87 (by decide), e 21 (by decide), e 88 (by decide), e 22 (by decide), e 89 (by decide), e 23 (by decide)]
  exact h
theorem EW_7993 {v v' : zV} (h : ∀ a q, ¬ a = 79 → ¬ a = 93 → v' a q = v a q) (e : EW v) : EW v' := by
  have g : ∀ a, ¬ a = 79 → ¬ a = 93 → zg v' a = zg v a := fun a h1 h2 => zg_fn fun q => h a q h1 h2
  unfold EW at e ⊢
  rw [g 82 (by decide) (by decide), g 16 (by decide) (by decide), g 83 (by decide) (by decide), g 17 (by decide) (by decide), g 84 (by decide) (by decide), g 18 (by decide) (by decide), g 85 (by decide) (by decide), g 19 (by decide) (by decide), g 86 (by decide) (by decide), g 20 (by decide) (by decide), g 87 (by decide) (by decide), g 21 (by decide) (by decide), g 88 (by decide) (by decide), g 22 (by decide) (by decide), g 89 (by decide) (by decide), g 23 (by decide) (by decide)]
  exact e
/-- the stone of a place -/
theorem st_un {z : zV} {P L : Int → Int} {p i r n : Int} {A B : Int → Int} (h : CS z P L) (w : WF z) (hn : zg z 16 9 = n) (p0 : 0 ≤ p) (p1 : p < 6) (i0 : 0 ≤ i) (i1 : i < zg z 30 p) (hA : ∀ t, 0 ≤ t → t < n → A t = P t ∧ B t = L t) (hr : (r = -1 ∧ ∀ s, 0 ≤ s → s < n → ¬ (A s = p ∧ B s = i)) ∨ (0 ≤ r ∧ r < n ∧ A r = p ∧ B r = i)) : r = zg z 31 (p * 40 + i) ∧ 0 ≤ r ∧ r < n := by
  obtain ⟨a0, a1, a2, a3⟩ := h.2.2.1 p p0 p1 i i0 i1
  rw [hn] at a1
  rcases hr with ⟨e, f⟩ | ⟨r0, r1, r2, r3⟩
  · exfalso
    have g := hA _ a0 a1
    exact f _ a0 a1 ⟨by rw [g.1, a2], by rw [g.2, a3]⟩
  · have g := hA r r0 r1
    rw [r2] at g
    rw [r3] at g
    have q := h.lt w r0 (by omega) (by omega)
    rw [← g.1, ← g.2] at q
    exact ⟨q.2.2.2.2.2.symm, r0, r1⟩
theorem FL_step {v z w : zV} {P : Int → Int} {s s' : Int32} {p i j : Int} {w' : zV} (hFL : FL v z P s w) (hz : WF z) (hn : zg z 16 9 = zg v 16 9) (p0 : 0 ≤ p) (p1 : p < 6) (i0 : 0 ≤ i) (i1 : i < zg z 30 p) (j0 : 0 ≤ j) (j1 : j < zg z 30 p) (hw : ∀ a q, ¬ (a = 79 ∧ q = 48) → w' a q = w a q) (hs : w' 79 48 = s') : FL v (swV z (p * 40 + i) (p * 40 + j)) P s' (zu (zu w' 93 (40 + zg z 31 (p * 40 + i)) (w' 93 (40 + zg z 31 (p * 40 + j)))) 93 (40 + zg z 31 (p * 40 + j)) (w' 93 (40 + zg z 31 (p * 40 + i)))) := by
  obtain ⟨h1, h2, h3, h4, L, h5, h6⟩ := hFL
  obtain ⟨a0, a1, a2, a3⟩ := h5.2.2.1 p p0 p1 i i0 i1
  obtain ⟨b0, b1, b2, b3⟩ := h5.2.2.1 p p0 p1 j j0 j1
  have c40 := hz.2.1
  refine ⟨fun a q g1 g2 => ?_, fun q hq => ?_, fun q hq => ?_, ?_, _, CS_swap h5 hz p0 p1 i0 i1 j0 j1, fun t t0 t1 => ?_⟩
  · rw [zu_ne (by omega), zu_ne (by omega), hw a q (by omega), h1 a q g1 g2]
  · rw [zu_ne (by omega), zu_ne (by omega), hw 93 q (by omega), h2 q hq]
  · rw [zu_ne (by omega), zu_ne (by omega), hw 79 q (by omega), h3 q hq]
  · rw [zu_ne (by omega), zu_ne (by omega), hs]
  · have e : ∀ t, 0 ≤ t → t < zg v 16 9 → (w' 93 (40 + t)).toInt = L t := fun t t0 t1 => by rw [hw 93 _ (by omega)]; exact h6 t t0 t1
    revert a0 a1 a2 a3 b0 b1 b2 b3
    generalize zg z 31 (p * 40 + i) = a
    generalize zg z 31 (p * 40 + j) = b
    intro a0 a1 a2 a3 b0 b1 b2 b3
    have ea := e a a0 (by omega)
    have eb := e b b0 (by omega)
    have et := e t t0 t1
    unfold swL
    simp only [zg, zu]
    by_cases e1 : t = a
    · subst e1
      by_cases e2 : t = b
      · subst e2; simp; omega
      · simp [e2]; omega
    · by_cases e2 : t = b
      · subst e2; simp [e1]; omega
      · simp [e1, e2]; omega
section
variable {sc : Nat × (Nat → Int32)} {d : Nat} {v v0 : zV} {u : zU}
theorem m205_ok {z : zV} {P L : Int → Int} {p f : Int} {s : Int32} (hd : 2 ≤ d) (hE : EW v) (hB : WB v) (hz : ∀ a q, 16 ≤ a → a ≤ 23 → z a q = v a q) (hCS : CS z P L) (hP : ∀ t, 0 ≤ t → t < zg v 16 9 → zg v 93 t = P t ∧ zg v 93 (40 + t) = L t) (p0 : 0 ≤ p) (p1 : p < zg v 16 8) (f0 : 0 ≤ f) (f1 : f ≤ 60) (hc : 0 ≤ zg v 79 30 ∧ zg v 79 30 ≤ 30) : zEv sc 205 d 35 [.ref 79, .int (zI p), .int s, .int (zI f), zJ, zJ, zJ, zJ, zJ] [] (zmk v u) 0 0 (zPi fun y w t => (∃ s', FL (if 0 < f then zu v 79 31 (v 79 30) else v) (if zg z 30 p < 2 then z else (zfo (fun _ x => shs p (zg z 30 p) x) (z, s) f).1) P s' w) ∧ zI (if 0 < zg z 30 p then zg (if zg z 30 p < 2 then z else (zfo (fun _ x => shs p (zg z 30 p) x) (z, s) f).1) 31 (p * 40 + 0) else -1) = y ∧ u = t) := by
  have b0 := hB.1
  have wz : WB z := WB_w3 hz hB
  have n16 : zg z 16 9 = zg v 16 9 := by simp only [zg]; rw [hz 16 9 (by omega) (by omega)]
  have hl := hCS.len wz.wf p0 (by omega)
  obtain ⟨v1, hv1⟩ : ∃ v1, v1 = (if 0 < f then zu v 79 31 (v 79 30) else v) := ⟨_, rfl⟩
  have g1 : ∀ a q, ¬ (a = 79 ∧ q = 31) → v1 a q = v a q := fun a q h => by rw [hv1]; split; exact zu_ne h; rfl
  have g16 : zg v1 16 = zg v 16 := zg_fn fun q => g1 _ _ (by omega)
  have g93 : zg v1 93 = zg v 93 := zg_fn fun q => g1 _ _ (by omega)
  have hE1 : EW v1 := EW_7993 (fun a q h1 h2 => g1 a q (by omega)) hE
  have hB1 : WB v1 := WB_w3 (fun a q h1 h2 => g1 a q (by omega)) hB
  rw [← hv1]
  have hcnt : zg z 30 p = cnt (zg v 93) p (zg v 16 9) := by
    rw [hCS.2.1 p p0 (by omega), n16]
    exact cnt_ext (fun t t0 t1 => by rw [(hP t t0 t1).1])
  -- the end
  have fin : ∀ (zz : zV) (s' : Int32) (w : zV), FL v1 zz P s' w → WF zz → zg zz 16 9 = zg v 16 9 → (∀ k, zg zz 30 k = zg z 30 k) → zz = (if zg z 30 p < 2 then z else (zfo (fun _ x => shs p (zg z 30 p) x) (z, s) f).1) → ∀ a4 a5 a6 a7 a8, zEv sc 205 d 154 [.ref 79, .int (zI p), .int s, .int (zI f), a4, a5, a6, a7, a8] [] (zmk w u) 0 0 (zPi fun y w t => (∃ s', FL v1 (if zg z 30 p < 2 then z else (zfo (fun _ x => shs p (zg z 30 p) x) (z, s) f).1) P s' w) ∧ zI (if 0 < zg z 30 p then zg (if zg z 30 p < 2 then z else (zfo (fun _ x => shs p (zg z 30 p) x) (z, s) f).1) 31 (p * 40 + 0) else -1) = y ∧ u = t) := by
    intro zz s' w hF hW hN h30 hzz a4 a5 a6 a7 a8
    rw [← hzz]
    obtain ⟨q1, q2, q3, q4, L', q5, q6⟩ := hF
    have w16 : zg w 16 9 = zg v 16 9 := by rw [← g16]; simp only [zg]; rw [q1 16 9 (by omega) (by omega)]
    have hA : ∀ t, 0 ≤ t → t < zg v 16 9 → zg w 93 t = P t ∧ zg w 93 (40 + t) = L' t := fun t t0 t1 => ⟨by have := hB.2.1; rw [← (hP t t0 t1).1, ← g93]; simp only [zg]; rw [q2 t (by omega)], q6 t t0 (by rw [g16]; omega)⟩
    refine e_al0 o205_154 (e_il1 o205_155 (e_ico o205_156 (e_Vi2 o205_157 K205 K174 rfl ⟨rfl, rfl⟩ (zrcv_I L79 rfl) (by omega) rfl (m174 (EW_7993 q1 hE1) (WB_w3 (fun a k h1 h2 => q1 a k (by omega) (by omega)) hB1) (by omega) (by omega)) ?_)))
    rintro _ _ _ ⟨⟨r, rfl, hr⟩, rfl, rfl⟩
    refine e_rI o205_160 K205 rfl rfl ?_
    refine ⟨⟨s', q1, q2, q3, q4, L', q5, q6⟩, ?_, rfl⟩
    rw [w16] at hr
    by_cases e : 0 < zg z 30 p
    · rw [if_pos e, (st_un q5 hW hN p0 (by omega) (by omega) (by rw [h30]; omega) hA hr).1]
    · rw [if_neg e]
      rcases hr with ⟨e1, e2⟩ | ⟨r0, r1, r2, r3⟩
      · rw [e1]
      · exfalso
        have g := hA r r0 r1
        have q := q5.lt hW r0 (by omega) (by omega)
        rw [← g.1, r2, h30] at q
        omega
  have z79 : ∀ (w : zV) (k : Int) (x : Int32) (a : Nat), ¬ a = 79 → zg (zu w 79 k x) a = zg w a := fun w k x a h => funext fun q => zg_na h
  have loop : 2 ≤ zg z 30 p → ∀ i, 0 ≤ i → i ≤ f → ∀ a6 a7 a8 w, FL v1 (zfo (fun _ x => shs p (zg z 30 p) x) (z, s) i).1 P (zfo (fun _ x => shs p (zg z 30 p) x) (z, s) i).2 w → zEv sc 205 d 66 [.ref 79, .int (zI p), .int s, .int (zI f), .int (zI (zg z 30 p)), .int (zI i), a6, a7, a8] [] (zmk w u) 0 0 (zPi fun y w t => (∃ s', FL v1 (if zg z 30 p < 2 then z else (zfo (fun _ x => shs p (zg z 30 p) x) (z, s) f).1) P s' w) ∧ zI (if 0 < zg z 30 p then zg (if zg z 30 p < 2 then z else (zfo (fun _ x => shs p (zg z 30 p) x) (z, s) f).1) 31 (p * 40 + 0) else -1) = y ∧ u = t) := by
    intro h2
    refine zloop ?_
    intro i i0 i1 ih a6 a7 a8 w hF
    rw [zfo_succ i0] at ih
    have na : ∀ a, ¬ a = 31 → ∀ k, zg (zfo (fun _ x => shs p (zg z 30 p) x) (z, s) i).1 a k = zg z a k := fun a ha k => shs_na ha i i0 k
    have last : i = f → (zfo (fun _ x => shs p (zg z 30 p) x) (z, s) i).1 = (if zg z 30 p < 2 then z else (zfo (fun _ x => shs p (zg z 30 p) x) (z, s) f).1) := fun e => by rw [if_neg (by omega), e]
    revert ih hF na last
    generalize zfo (fun _ x => shs p (zg z 30 p) x) (z, s) i = x
    intro ih hF na last
    obtain ⟨x1, x2⟩ := x
    dsimp only at ih hF na last ⊢
    have wx : WF x1 := by
      have e := wz.wf
      refine ⟨by rw [na 16 (by decide)]; exact e.1, by rw [na 16 (by decide)]; exact e.2.1, fun t t0 t1 => ?_⟩
      rw [na 19 (by decide)]
      exact e.2.2 t t0 (by rw [na 16 (by decide)] at t1; exact t1)
    have q1 := Int.emod_nonneg (dr (nxs x2)) (show zg z 30 p ≠ 0 by omega)
    have q2 := Int.emod_lt_of_pos (dr (nxs x2)) (show 0 < zg z 30 p by omega)
    have q3 := Int.emod_nonneg (dr (nxs (nxs x2))) (show zg z 30 p ≠ 0 by omega)
    have q4 := Int.emod_lt_of_pos (dr (nxs (nxs x2))) (show 0 < zg z 30 p by omega)
    have r1 := dr_rg (nxs x2)
    have r2 := dr_rg (nxs (nxs x2))
    have r5 : -2147483648 ≤ dr (nxs x2) % zg z 30 p ∧ dr (nxs x2) % zg z 30 p < 2147483648 := ⟨Int.le_trans (by decide) q1, Int.lt_trans q2 (by omega)⟩
    have r6 : -2147483648 ≤ dr (nxs (nxs x2)) % zg z 30 p ∧ dr (nxs (nxs x2)) % zg z 30 p < 2147483648 := ⟨Int.le_trans (by decide) q3, Int.lt_trans q4 (by omega)⟩
    have hF' := hF
    obtain ⟨f1', f2', f3', f4', L', f5', f6'⟩ := hF'
    have hEw := EW_7993 f1' hE1
    have hBw : WB w := WB_w3 (fun a k h1 h2 => f1' a k (by omega) (by omega)) hB1
    have w16 : zg w 16 9 = zg v 16 9 := by rw [← g16]; simp only [zg]; rw [f1' 16 9 (by omega) (by omega)]
    have hA : ∀ t, 0 ≤ t → t < zg v 16 9 → zg w 93 t = P t ∧ zg w 93 (40 + t) = L' t := fun t t0 t1 => ⟨by have := hB.2.1; rw [← (hP t t0 t1).1, ← g93]; simp only [zg]; rw [f2' t (by omega)], f6' t t0 (by rw [g16]; omega)⟩
    have nx : zg x1 16 9 = zg v 16 9 := by rw [na 16 (by decide)]; exact n16
    have k30 : zg x1 30 p = zg z 30 p := na 30 (by decide) p
    have b40 := hB.2.1
    refine e_il5 o205_66 (e_il3 o205_68 (e_ic_ge o205_69 154 rfl (by first | exact zg_rg _ _ _ | exact zt_rg _ | omega) (by first | exact zg_rg _ _ _ | exact zt_rg _ | omega) (fun hb69 => ?_) (fun hb69 => ?_)))
    · exact fin x1 x2 w hF wx nx (na 30 (by decide)) (last (by omega)) _ _ _ _ _
    · refine e_il4 o205_72 (e_ico o205_74 (e_ic_le o205_75 154 rfl (by first | exact zg_rg _ _ _ | exact zt_rg _ | omega) (by first | exact zg_rg _ _ _ | exact zt_rg _ | omega) (fun hb75 => ?_) (fun hb75 => ?_)))
      · exact fin x1 x2 w hF wx nx (na 30 (by decide)) (last (by omega)) _ _ _ _ _
      · refine e_al0 o205_78 (e_il1 o205_79 (e_al0 o205_80 (e_il4 o205_81 (e_Vi1 o205_83 K205 K206 rfl ⟨rfl, rfl⟩ (zrcv_I L79 rfl) (by omega) rfl (m206 (by omega) (by omega)) ?_))))
        rintro _ _ _ ⟨rfl, rfl, rfl⟩
        rw [f4']
        refine e_Vi2 o205_86 K205 K174 rfl ⟨rfl, rfl⟩ (zrcv_I L79 rfl) (by omega) rfl (m174 (EW_79 hEw) (WB_w3 (fun a k h1 h2 => zu_ne (by omega)) hBw) (by omega) r5) ?_
        rintro _ _ _ ⟨⟨a, rfl, ha⟩, rfl, rfl⟩
        rw [z79 _ _ _ 16 (by decide), z79 _ _ _ 93 (by decide)] at ha
        rw [w16] at ha
        obtain ⟨ea, ea0, ea1⟩ := st_un f5' wx nx p0 (by omega) q1 (by rw [k30]; exact q2) hA ha
        refine e_is6 o205_89 (e_al0 o205_91 (e_il1 o205_92 (e_al0 o205_93 (e_il4 o205_94 (e_Vi1 o205_96 K205 K206 rfl ⟨rfl, rfl⟩ (zrcv_I L79 rfl) (by omega) rfl (m206 (by omega) (by omega)) ?_)))))
        rintro _ _ _ ⟨rfl, rfl, rfl⟩
        rw [zu_same]
        refine e_Vi2 o205_99 K205 K174 rfl ⟨rfl, rfl⟩ (zrcv_I L79 rfl) (by omega) rfl (m174 (EW_79 (EW_79 hEw)) (WB_w3 (fun a k h1 h2 => by rw [zu_ne (by omega), zu_ne (by omega)]) hBw) (by omega) r6) ?_
        rintro _ _ _ ⟨⟨b, rfl, hb⟩, rfl, rfl⟩
        rw [z79 _ _ _ 16 (by decide), z79 _ _ _ 93 (by decide), z79 _ _ _ 16 (by decide), z79 _ _ _ 93 (by decide)] at hb
        rw [w16] at hb
        obtain ⟨eb, eb0, eb1⟩ := st_un f5' wx nx p0 (by omega) q3 (by rw [k30]; exact q4) hA hb
        refine e_is7 o205_102 (e_al0 o205_104 (e_gR o205_105 L79 rfl rfl (e_bip o205_108 rfl (e_il6 o205_110 (e_add o205_112 (e_ial o205_113 L93 (by omega) (by omega) (e_is8 o205_114 (e_al0 o205_116 (e_gR o205_117 L79 rfl rfl (e_bip o205_120 rfl (e_il6 o205_122 (e_add o205_124 (e_al0 o205_125 (e_gR o205_126 L79 rfl rfl (e_bip o205_129 rfl (e_il7 o205_131 (e_add o205_133 (e_ial o205_134 L93 (by omega) (by omega) (e_iast o205_135 L93 (by omega) (by omega) (e_al0 o205_136 (e_gR o205_137 L79 rfl rfl (e_bip o205_140 rfl (e_il7 o205_142 (e_add o205_144 (e_il8 o205_145 (e_iast o205_147 L93 (by omega) (by omega) (e_inc5 o205_148 (e_goto o205_151 66 rfl ?_))))))))))))))))))))))))))))
        have e := FL_step (s' := nxs (nxs x2)) (w' := zu (zu w 79 48 (nxs x2)) 79 48 (nxs (nxs x2))) hF wx (by rw [nx, g16]) p0 (by omega) q1 (by rw [k30]; exact q2) q3 (by rw [k30]; exact q4) (fun a q h => by rw [zu_ne h, zu_ne h]) (by rw [zu_same])
        rw [← ea, ← eb] at e
        refine zEv_w (ih (by omega) _ _ _ _ e) ?_
        simp only [zI_g]
  have small : ¬ 2 ≤ zg z 30 p → ∀ w, FL v1 z P s w → ∀ a6 a7 a8, zEv sc 205 d 66 [.ref 79, .int (zI p), .int s, .int (zI f), .int (zI (zg z 30 p)), .int (zI 0), a6, a7, a8] [] (zmk w u) 0 0 (zPi fun y w t => (∃ s', FL v1 (if zg z 30 p < 2 then z else (zfo (fun _ x => shs p (zg z 30 p) x) (z, s) f).1) P s' w) ∧ zI (if 0 < zg z 30 p then zg (if zg z 30 p < 2 then z else (zfo (fun _ x => shs p (zg z 30 p) x) (z, s) f).1) 31 (p * 40 + 0) else -1) = y ∧ u = t) := by
    intro h2 w hF a6 a7 a8
    refine e_il5 o205_66 (e_il3 o205_68 (e_ic_ge o205_69 154 rfl (by first | exact zg_rg _ _ _ | exact zt_rg _ | omega) (by first | exact zg_rg _ _ _ | exact zt_rg _ | omega) (fun hb69 => ?_) (fun hb69 => ?_)))
    · exact fin z s w hF wz.wf n16 (fun k => rfl) (by rw [if_pos (by omega)]) _ _ _ _ _
    · refine e_il4 o205_72 (e_ico o205_74 (e_ic_le o205_75 154 rfl (by first | exact zg_rg _ _ _ | exact zt_rg _ | omega) (by first | exact zg_rg _ _ _ | exact zt_rg _ | omega) (fun hb75 => ?_) (fun hb75 => ?_)))
      · exact fin z s w hF wz.wf n16 (fun k => rfl) (by rw [if_pos (by omega)]) _ _ _ _ _
      · omega
  have start : ∀ w, w = v1 → zEv sc 205 d 47 [.ref 79, .int (zI p), .int s, .int (zI f), zJ, zJ, zJ, zJ, zJ] [] (zmk w u) 0 0 (zPi fun y w t => (∃ s', FL v1 (if zg z 30 p < 2 then z else (zfo (fun _ x => shs p (zg z 30 p) x) (z, s) f).1) P s' w) ∧ zI (if 0 < zg z 30 p then zg (if zg z 30 p < 2 then z else (zfo (fun _ x => shs p (zg z 30 p) x) (z, s) f).1) 31 (p * 40 + 0) else -1) = y ∧ u = t) := by
    intro w hw
    rw [hw]
    have hF : FL v1 z P s (zu v1 79 48 s) := ⟨fun a q h1 h2 => zu_ne (by omega), fun q hq => zu_ne (by omega), fun q hq => zu_ne (by omega), by rw [zu_same], L, hCS, fun t t0 t1 => by rw [zg_na (by decide), g93]; exact (hP t t0 (by rw [g16] at t1; exact t1)).2⟩
    have g930 : zg (zu v1 79 48 s) 93 = zg v 93 := by rw [← g93]; exact zg_fn fun q => zu_ne (by omega)
    have g160 : zg (zu v1 79 48 s) 16 9 = zg v 16 9 := by rw [← g16]; exact zg_na (by decide)
    refine e_al0 o205_47 (e_il2 o205_48 (e_pI o205_49 L79 rfl rfl rfl rfl 48 rfl (e_al0 o205_52 (e_al0 o205_53 (e_gR o205_54 L79 rfl rfl (e_il1 o205_57 (e_Vi2 o205_58 K205 K165 rfl ⟨rfl, rfl⟩ (zrcv_I L79 rfl) (by omega) rfl (m165 (by rfl) (EW_79 hE1) (WB_w3 (fun a k h1 h2 => zu_ne (by omega)) hB1) (by omega)) ?_)))))))
    rintro _ _ _ ⟨rfl, rfl, rfl⟩
    rw [g930, g160, ← hcnt]
    refine e_is4 o205_61 (e_ico o205_63 (e_is5 o205_64 ?_))
    by_cases h2 : 2 ≤ zg z 30 p
    · exact loop h2 0 (by omega) f0 _ _ _ _ (by rw [zfo_zero]; exact hF)
    · exact small h2 _ hF _ _ _
  refine e_il3 o205_35 (e_if_le o205_36 47 rfl (by first | exact zg_rg _ _ _ | exact zt_rg _ | omega) (fun hb36 => ?_) (fun hb36 => ?_))
  · first | exact start _ (by rw [hv1, if_pos (by omega), zI_g]) | exact start _ (by rw [hv1, if_neg (by omega)])
  · refine e_al0 o205_39 (e_al0 o205_40 (e_gI o205_41 L79 rfl 30 rfl (e_pI o205_44 L79 rfl rfl rfl rfl 31 rfl ?_)))
    first | exact start _ (by rw [hv1, if_pos (by omega), zI_g]) | exact start _ (by rw [hv1, if_neg (by omega)])
end
