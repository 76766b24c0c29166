/-! values and kinds by their words -/
def kV (B : Int → Int) (N e : Int) : Int := if isW B N e 6 = true then 0 else if isW B N e 7 = true then 1 else if isW B N e 8 = true then 2 else if isW B N e 9 = true then 3 else if isW B N e 10 = true then 4 else if isW B N e 11 = true then 5 else -1
def kK (B : Int → Int) (N e : Int) : Int := if isW B N e 14 = true then 0 else if isW B N e 15 = true then 1 else if isW B N e 16 = true then 2 else if isW B N e 17 = true then 3 else -1
section
variable {sc : Nat × (Nat → Int32)} {d : Nat} {v v0 w : zV} {u : zU} {B : Int → Int} {N : Int}
theorem isW_tk {e : Int} {r : Nat} (h : isW B N e r = true) : tk B N e = 1 := by
  unfold isW at h
  rw [Bool.and_eq_true] at h
  exact (of_decide_eq_true h.1).1
theorem kV_rg {e : Int} : -1 ≤ kV B N e ∧ kV B N e ≤ 5 := by
  unfold kV; repeat' split
  all_goals omega
theorem kK_rg {e : Int} : -1 ≤ kK B N e ∧ kK B N e ≤ 3 := by
  unfold kK; repeat' split
  all_goals omega
theorem c94 {e : Int} (hd : 5 ≤ d) (hT : TXc B N v) (hC : CT B N v e) (e0 : 0 ≤ e) (e1 : e ≤ N) : zEv sc 94 d 0 [.ref 1] [] (zmk v u) 0 0 (zis (zI (if kV B N e = -1 then 0 else -1 - kV B N e)) v u) := by
  unfold kV
  refine e_al0 o94_0 (e_gR o94_1 L1 rfl rfl (e_ldcS o94_4 rfl (e_Vi1 o94_6 K94 K38 rfl ⟨rfl, rfl⟩ (zrcv_I L2 rfl) (by omega) rfl (c38 (r := 6) (by omega) (by omega) hT hC e0 e1) ?_)))
  rintro _ _ _ ⟨rfl, rfl, rfl⟩
  refine e_bz_eq o94_9 14 rfl (fun hb9 => ?_) (fun hb9 => ?_)
  · refine e_al0 o94_14 (e_gR o94_15 L1 rfl rfl (e_ldcS o94_18 rfl (e_Vi1 o94_20 K94 K38 rfl ⟨rfl, rfl⟩ (zrcv_I L2 rfl) (by omega) rfl (c38 (r := 7) (by omega) (by omega) hT hC e0 e1) ?_)))
    rintro _ _ _ ⟨rfl, rfl, rfl⟩
    refine e_bz_eq o94_23 29 rfl (fun hb23 => ?_) (fun hb23 => ?_)
    · refine e_al0 o94_29 (e_gR o94_30 L1 rfl rfl (e_ldcS o94_33 rfl (e_Vi1 o94_35 K94 K38 rfl ⟨rfl, rfl⟩ (zrcv_I L2 rfl) (by omega) rfl (c38 (r := 8) (by omega) (by omega) hT hC e0 e1) ?_)))
      rintro _ _ _ ⟨rfl, rfl, rfl⟩
      refine e_bz_eq o94_38 44 rfl (fun hb38 => ?_) (fun hb38 => ?_)
      · refine e_al0 o94_44 (e_gR o94_45 L1 rfl rfl (e_ldcS o94_48 rfl (e_Vi1 o94_50 K94 K38 rfl ⟨rfl, rfl⟩ (zrcv_I L2 rfl) (by omega) rfl (c38 (r := 9) (by omega) (by omega) hT hC e0 e1) ?_)))
        rintro _ _ _ ⟨rfl, rfl, rfl⟩
        refine e_bz_eq o94_53 59 rfl (fun hb53 => ?_) (fun hb53 => ?_)
        · refine e_al0 o94_59 (e_gR o94_60 L1 rfl rfl (e_ldcS o94_63 rfl (e_Vi1 o94_65 K94 K38 rfl ⟨rfl, rfl⟩ (zrcv_I L2 rfl) (by omega) rfl (c38 (r := 10) (by omega) (by omega) hT hC e0 e1) ?_)))
          rintro _ _ _ ⟨rfl, rfl, rfl⟩
          refine e_bz_eq o94_68 74 rfl (fun hb68 => ?_) (fun hb68 => ?_)
          · refine e_al0 o94_74 (e_gR o94_75 L1 rfl rfl (e_ldcS o94_78 rfl (e_Vi1 o94_80 K94 K38 rfl ⟨rfl, rfl⟩ (zrcv_I L2 rfl) (by omega) rfl (c38 (r := 11) (by omega) (by omega) hT hC e0 e1) ?_)))
            rintro _ _ _ ⟨rfl, rfl, rfl⟩
            refine e_bz_eq o94_83 91 rfl (fun hb83 => ?_) (fun hb83 => ?_)
            · refine e_ico o94_91 ?_
              refine e_rI o94_92 K94 rfl rfl ?_
              exact ⟨by simp only [hb9, hb23, hb38, hb53, hb68, hb83, if_true, if_false]; rfl, rfl, rfl⟩
            · refine e_bip o94_86 rfl (e_goto o94_88 92 rfl ?_)
              refine e_rI o94_92 K94 rfl rfl ?_
              exact ⟨by simp only [hb9, hb23, hb38, hb53, hb68, hb83, if_true, if_false]; rfl, rfl, rfl⟩
          · refine e_bip o94_71 rfl ?_
            refine e_rI o94_73 K94 rfl rfl ?_
            exact ⟨by simp only [hb9, hb23, hb38, hb53, hb68, if_true, if_false]; rfl, rfl, rfl⟩
        · refine e_bip o94_56 rfl ?_
          refine e_rI o94_58 K94 rfl rfl ?_
          exact ⟨by simp only [hb9, hb23, hb38, hb53, if_true, if_false]; rfl, rfl, rfl⟩
      · refine e_bip o94_41 rfl ?_
        refine e_rI o94_43 K94 rfl rfl ?_
        exact ⟨by simp only [hb9, hb23, hb38, if_true, if_false]; rfl, rfl, rfl⟩
    · refine e_bip o94_26 rfl ?_
      refine e_rI o94_28 K94 rfl rfl ?_
      exact ⟨by simp only [hb9, hb23, if_true, if_false]; rfl, rfl, rfl⟩
  · refine e_ico o94_12 ?_
    refine e_rI o94_13 K94 rfl rfl ?_
    exact ⟨by simp only [hb9, if_true]; rfl, rfl, rfl⟩
theorem c95 {e : Int} (hd : 5 ≤ d) (hT : TXc B N v) (hC : CT B N v e) (e0 : 0 ≤ e) (e1 : e ≤ N) : zEv sc 95 d 0 [.ref 1] [] (zmk v u) 0 0 (zis (zI (kK B N e)) v u) := by
  unfold kK
  refine e_al0 o95_0 (e_gR o95_1 L1 rfl rfl (e_ldcS o95_4 rfl (e_Vi1 o95_6 K95 K38 rfl ⟨rfl, rfl⟩ (zrcv_I L2 rfl) (by omega) rfl (c38 (r := 14) (by omega) (by omega) hT hC e0 e1) ?_)))
  rintro _ _ _ ⟨rfl, rfl, rfl⟩
  refine e_bz_eq o95_9 14 rfl (fun hb9 => ?_) (fun hb9 => ?_)
  · refine e_al0 o95_14 (e_gR o95_15 L1 rfl rfl (e_ldcS o95_18 rfl (e_Vi1 o95_20 K95 K38 rfl ⟨rfl, rfl⟩ (zrcv_I L2 rfl) (by omega) rfl (c38 (r := 15) (by omega) (by omega) hT hC e0 e1) ?_)))
    rintro _ _ _ ⟨rfl, rfl, rfl⟩
    refine e_bz_eq o95_23 28 rfl (fun hb23 => ?_) (fun hb23 => ?_)
    · refine e_al0 o95_28 (e_gR o95_29 L1 rfl rfl (e_ldcS o95_32 rfl (e_Vi1 o95_34 K95 K38 rfl ⟨rfl, rfl⟩ (zrcv_I L2 rfl) (by omega) rfl (c38 (r := 16) (by omega) (by omega) hT hC e0 e1) ?_)))
      rintro _ _ _ ⟨rfl, rfl, rfl⟩
      refine e_bz_eq o95_37 42 rfl (fun hb37 => ?_) (fun hb37 => ?_)
      · refine e_al0 o95_42 (e_gR o95_43 L1 rfl rfl (e_ldcS o95_46 rfl (e_Vi1 o95_48 K95 K38 rfl ⟨rfl, rfl⟩ (zrcv_I L2 rfl) (by omega) rfl (c38 (r := 17) (by omega) (by omega) hT hC e0 e1) ?_)))
        rintro _ _ _ ⟨rfl, rfl, rfl⟩
        refine e_bz_eq o95_51 58 rfl (fun hb51 => ?_) (fun hb51 => ?_)
        · refine e_ico o95_58 ?_
          refine e_rI o95_59 K95 rfl rfl ?_
          exact ⟨by simp only [hb9, hb23, hb37, hb51, if_true, if_false]; rfl, rfl, rfl⟩
        · refine e_ico o95_54 (e_goto o95_55 59 rfl ?_)
          refine e_rI o95_59 K95 rfl rfl ?_
          exact ⟨by simp only [hb9, hb23, hb37, hb51, if_true, if_false]; rfl, rfl, rfl⟩
      · refine e_ico o95_40 ?_
        refine e_rI o95_41 K95 rfl rfl ?_
        exact ⟨by simp only [hb9, hb23, hb37, if_true, if_false]; rfl, rfl, rfl⟩
    · refine e_ico o95_26 ?_
      refine e_rI o95_27 K95 rfl rfl ?_
      exact ⟨by simp only [hb9, hb23, if_true, if_false]; rfl, rfl, rfl⟩
  · refine e_ico o95_12 ?_
    refine e_rI o95_13 K95 rfl rfl ?_
    exact ⟨by simp only [hb9, if_true], rfl, rfl⟩
theorem m140_K {e : Int} (hd : 5 ≤ d) (h : zg v 79 21 = 0) (hT : TXm B N v) (hR : RT B N v e) (e0 : 0 ≤ e) (e1 : e ≤ N) : zEv sc 140 d 0 [.ref 79, .ref 80, zJ] [] (zmk v u) 0 0 (zis (zI (kK B N e)) v u) := by
  refine zEv_mono (m140_g (a := 80) (rs := [1031, 1032, 1033, 1034]) (e := e) (r0 := 31) (P := fun r => isW B N e r.toNat) hd L80 (by decide) (fun j j0 j1 => ?_) (fun r hr => m141 (by omega) hr h hT hR e0 e1)) ?_
  · have j1 : j < 4 := j1
    rcases (show j = 0 ∨ j = 1 ∨ j = 2 ∨ j = 3 by omega) with z | z | z | z <;> subst z <;> exact ⟨rfl, by decide⟩
  · rintro _ _ ⟨y, w, t, rfl, rfl, ⟨k, rfl, hk⟩, rfl, rfl⟩
    refine ⟨_, _, _, rfl, rfl, ?_, rfl, rfl⟩
    have q0 : isW B N e 31 = isW B N e 14 := isW_eq rfl
    have q1 : isW B N e 32 = isW B N e 15 := isW_eq rfl
    have q2 : isW B N e 33 = isW B N e 16 := isW_eq rfl
    have q3 : isW B N e 34 = isW B N e 17 := isW_eq rfl
    unfold kK
    rcases hk with ⟨z, hn⟩ | ⟨z0, z1, z2, z3⟩
    · have a0 : ¬ isW B N e 31 = true := hn 0 (by decide) (by decide)
      have a1 : ¬ isW B N e 32 = true := hn 1 (by decide) (by decide)
      have a2 : ¬ isW B N e 33 = true := hn 2 (by decide) (by decide)
      have a3 : ¬ isW B N e 34 = true := hn 3 (by decide) (by decide)
      rw [q0] at a0; rw [q1] at a1; rw [q2] at a2; rw [q3] at a3
      rw [if_neg a0, if_neg a1, if_neg a2, if_neg a3, z]
    · have z1 : k < 4 := z1
      rcases (show k = 0 ∨ k = 1 ∨ k = 2 ∨ k = 3 by omega) with z | z | z | z <;> subst z
      · have a0 : isW B N e 31 = true := z2
        rw [q0] at a0
        rw [if_pos a0]
      · have a0 : ¬ isW B N e 31 = true := z3 0 (by decide) (by decide)
        have a1 : isW B N e 32 = true := z2
        rw [q0] at a0; rw [q1] at a1
        rw [if_neg a0, if_pos a1]
      · have a0 : ¬ isW B N e 31 = true := z3 0 (by decide) (by decide)
        have a1 : ¬ isW B N e 32 = true := z3 1 (by decide) (by decide)
        have a2 : isW B N e 33 = true := z2
        rw [q0] at a0; rw [q1] at a1; rw [q2] at a2
        rw [if_neg a0, if_neg a1, if_pos a2]
      · have a0 : ¬ isW B N e 31 = true := z3 0 (by decide) (by decide)
        have a1 : ¬ isW B N e 32 = true := z3 1 (by decide) (by decide)
        have a2 : ¬ isW B N e 33 = true := z3 2 (by decide) (by decide)
        have a3 : isW B N e 34 = true := z2
        rw [q0] at a0; rw [q1] at a1; rw [q2] at a2; rw [q3] at a3
        rw [if_neg a0, if_neg a1, if_neg a2, if_pos a3]
theorem m140_V {e : Int} (hd : 5 ≤ d) (h : zg v 79 21 = 0) (hT : TXm B N v) (hR : RT B N v e) (e0 : 0 ≤ e) (e1 : e ≤ N) : zEv sc 140 d 0 [.ref 79, .ref 81, zJ] [] (zmk v u) 0 0 (zis (zI (kV B N e)) v u) := by
  refine zEv_mono (m140_g (a := 81) (rs := [1035, 1036, 1037, 1038, 1039, 1040]) (e := e) (r0 := 35) (P := fun r => isW B N e r.toNat) hd L81 (by decide) (fun j j0 j1 => ?_) (fun r hr => m141 (by omega) hr h hT hR e0 e1)) ?_
  · have j1 : j < 6 := j1
    rcases (show j = 0 ∨ j = 1 ∨ j = 2 ∨ j = 3 ∨ j = 4 ∨ j = 5 by omega) with z | z | z | z | z | z <;> subst z <;> exact ⟨rfl, by decide⟩
  · rintro _ _ ⟨y, w, t, rfl, rfl, ⟨k, rfl, hk⟩, rfl, rfl⟩
    refine ⟨_, _, _, rfl, rfl, ?_, rfl, rfl⟩
    have q0 : isW B N e 35 = isW B N e 6 := isW_eq rfl
    have q1 : isW B N e 36 = isW B N e 7 := isW_eq rfl
    have q2 : isW B N e 37 = isW B N e 8 := isW_eq rfl
    have q3 : isW B N e 38 = isW B N e 9 := isW_eq rfl
    have q4 : isW B N e 39 = isW B N e 10 := isW_eq rfl
    have q5 : isW B N e 40 = isW B N e 11 := isW_eq rfl
    unfold kV
    rw [← q0, ← q1, ← q2, ← q3, ← q4, ← q5]
    rcases hk with ⟨z, hn⟩ | ⟨z0, z1, z2, z3⟩
    · rw [if_neg (show ¬ isW B N e 35 = true from hn 0 (by decide) (by decide)), if_neg (show ¬ isW B N e 36 = true from hn 1 (by decide) (by decide)), if_neg (show ¬ isW B N e 37 = true from hn 2 (by decide) (by decide)), if_neg (show ¬ isW B N e 38 = true from hn 3 (by decide) (by decide)), if_neg (show ¬ isW B N e 39 = true from hn 4 (by decide) (by decide)), if_neg (show ¬ isW B N e 40 = true from hn 5 (by decide) (by decide)), z]
    · have z1 : k < 6 := z1
      rcases (show k = 0 ∨ k = 1 ∨ k = 2 ∨ k = 3 ∨ k = 4 ∨ k = 5 by omega) with z | z | z | z | z | z <;> subst z
      · rw [if_pos (show isW B N e 35 = true from z2)]
      · rw [if_neg (show ¬ isW B N e 35 = true from z3 0 (by decide) (by decide)), if_pos (show isW B N e 36 = true from z2)]
      · rw [if_neg (show ¬ isW B N e 35 = true from z3 0 (by decide) (by decide)), if_neg (show ¬ isW B N e 36 = true from z3 1 (by decide) (by decide)), if_pos (show isW B N e 37 = true from z2)]
      · rw [if_neg (show ¬ isW B N e 35 = true from z3 0 (by decide) (by decide)), if_neg (show ¬ isW B N e 36 = true from z3 1 (by decide) (by decide)), if_neg (show ¬ isW B N e 37 = true from z3 2 (by decide) (by decide)), if_pos (show isW B N e 38 = true from z2)]
      · rw [if_neg (show ¬ isW B N e 35 = true from z3 0 (by decide) (by decide)), if_neg (show ¬ isW B N e 36 = true from z3 1 (by decide) (by decide)), if_neg (show ¬ isW B N e 37 = true from z3 2 (by decide) (by decide)), if_neg (show ¬ isW B N e 38 = true from z3 3 (by decide) (by decide)), if_pos (show isW B N e 39 = true from z2)]
      · rw [if_neg (show ¬ isW B N e 35 = true from z3 0 (by decide) (by decide)), if_neg (show ¬ isW B N e 36 = true from z3 1 (by decide) (by decide)), if_neg (show ¬ isW B N e 37 = true from z3 2 (by decide) (by decide)), if_neg (show ¬ isW B N e 38 = true from z3 3 (by decide) (by decide)), if_neg (show ¬ isW B N e 39 = true from z3 4 (by decide) (by decide)), if_pos (show isW B N e 40 = true from z2)]
end
