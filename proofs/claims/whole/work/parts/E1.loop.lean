/-! the law's loop -/
theorem z0 (a : Nat) (q : Int) (h : v0 a q = 0) : zg v0 a q = 0 := by simp only [zg]; rw [h]; rfl
theorem CS0 {w : zV} (h9 : zg w 16 9 = 0) (h30 : ∀ p, zg w 30 p = 0) (h32 : ∀ p, zg w 32 p = 0) : CS w (fun _ => -1) (fun _ => 0) := by
  refine ⟨fun s s0 s1 => ?_, fun p p0 p1 => ?_, fun p p0 p1 i i0 i1 => ?_, fun p o p0 p1 o0 o1 => ?_, fun s _ => ⟨rfl, rfl⟩⟩
  · omega
  · rw [h30, h9]
    have := cnt_rg (P := fun _ => -1) (p := p) (n := 0) (by omega)
    omega
  · rw [h30] at i1; omega
  · rw [h32, h9]
    have := cnt2_rg (P := fun _ => -1) (O := zg w 19) (p := p) (o := o) (n := 0) (by omega)
    omega
theorem RS0 : RS v0 u0 := by
  have a8 : zg v0 16 8 = 0 := z0 _ _ rfl
  have a9 : zg v0 16 9 = 0 := z0 _ _ rfl
  have a10 : zg v0 16 10 = 0 := z0 _ _ rfl
  have c0 : zg v0 33 0 = 0 := z0 _ _ rfl
  have c1 : zg v0 33 1 = 0 := z0 _ _ rfl
  have m0 : zg v0 79 30 = 0 := by decide
  have m1 : zg v0 79 31 = 0 := by decide
  have m2 : zg v0 79 32 = 0 := by decide
  have m3 : zg v0 79 33 = 0 := by decide
  have l9 : zg v0 28 9 = 0 := z0 _ _ rfl
  have l10 : zg v0 28 10 = 0 := z0 _ _ rfl
  have hC : CS v0 (fun _ => -1) (fun _ => 0) := CS0 a9 (fun p => z0 _ _ rfl) (fun p => z0 _ _ rfl)
  refine ⟨fun _ => (fun _ => -1, fun _ => 0), ⟨by omega, by omega, by omega, by omega, by omega, by omega⟩, hC, fun k k0 k1 => ⟨⟨v0, fun _ _ _ _ _ => rfl, hC⟩, fun s s0 s1 => ?_⟩, fun k k0 k1 => ?_, fun k k0 k1 => ?_, fun k k0 k1 => ⟨fun s s0 s1 => ?_, fun p p0 p1 => ?_⟩, fun i i0 i1 => ?_, ⟨by omega, by omega, fun i i0 i1 => ?_⟩, ⟨by omega, by omega, fun i i0 i1 => ?_⟩, fun i i0 i1 => rfl⟩
  all_goals (exfalso; omega)
theorem INV0 : INV v0 u0 := by
  have a8 : zg v0 16 8 = 0 := z0 _ _ rfl
  have a9 : zg v0 16 9 = 0 := z0 _ _ rfl
  have a10 : zg v0 16 10 = 0 := z0 _ _ rfl
  have t3 : zg v0 24 3 = 0 := z0 _ _ rfl
  have t4 : zg v0 82 3 = 0 := z0 _ _ rfl
  have w0 : zg v0 82 0 = 0 := z0 _ _ rfl
  have w1 : zg v0 82 1 = 0 := z0 _ _ rfl
  have w2 : zg v0 82 2 = 0 := z0 _ _ rfl
  have p1 : zg v0 2 1 = 0 := by decide
  have p2 : zg v0 79 14 = 0 := by decide
  have i0 : zg v0 0 6 = 0 := by decide
  have i1 : zg v0 79 49 = 0 := by decide
  refine ⟨⟨by omega, by omega, by omega, fun p p0 p1 => ?_, fun p p0 p1 => ?_, fun p p0 p1 => ?_⟩, ⟨by omega, by omega, by omega, fun p p0 p1 => ?_, fun p p0 p1 => ?_, fun p p0 p1 => ?_⟩, ⟨⟨by omega, by omega, fun p p0 p1 => ?_, fun h => ?_⟩, by omega, fun p p0 p1 => ?_⟩, ⟨by omega, by omega, fun p p0 p1 => ?_⟩, by decide, RS0, Or.inl ⟨by decide, by decide⟩, ⟨Or.inl i0, by omega, fun h => ?_⟩⟩
  all_goals (exfalso; omega)
theorem and31 (z : Int32) : ∃ j : Int, 0 ≤ j ∧ j < 32 ∧ z &&& zI 31 = zI j := by
  have e : (z &&& zI 31).toInt = z.toInt % 32 := by
    have e1 : (z &&& zI 31).toInt = (z.toBitVec &&& 31#32).toInt := by
      rw [← Int32.toInt_toBitVec, Int32.toBitVec_and]
      rfl
    rw [e1]
    have h : (z.toBitVec &&& 31#32).toNat = z.toBitVec.toNat % 32 := by
      rw [BitVec.toNat_and]
      exact Nat.and_two_pow_sub_one_eq_mod _ 5
    rw [BitVec.toInt_eq_toNat_of_lt (by omega), h, ← Int32.toInt_toBitVec, BitVec.toInt_eq_toNat_cond]
    split <;> omega
  exact ⟨z.toInt % 32, by omega, by omega, by rw [← e, zI_t]⟩
section
variable {sc : Nat × (Nat → Int32)} {d : Nat} {Q : zPost}
/-- one call, of any number -/
theorem law_call {v : zV} {u : zU} {kc ks : Nat} {i j : Int} {x5 x6 : Value} (hd : 200 ≤ d) (i0 : 0 ≤ i) (i1 : i + 6 ≤ (sc.1 : Int)) (hn : sc.1 ≤ 60000) (hk : kc + 100 ≤ 601024) (hs : ks + 600 ≤ 7293034) (hI : INV v u) (j0 : 0 ≤ j) (j1 : j < 32) (k : ∀ w t y5 y6 a b, INV w t → a ≤ 100 → b ≤ 600 → zEv sc 234 d 1479 [.ref 3000, .ref 0, .ref 79, .ref 118, .int (zI i), y5, y6] [] (zmk w t) (kc + a) (ks + b) Q) : zEv sc 234 d 40 [.ref 3000, .ref 0, .ref 79, .ref 118, .int (zI i), x5, x6] [.int (zI j)] (zmk v u) kc ks Q := by
  have hd2 : 20 ≤ d := by omega
  by_cases h : 24 ≤ j
  · exact e_swD o234_40 1479 (by omega) (Or.inr (by omega)) rfl (k v u x5 x6 0 0 hI (by omega) (by omega))
  · rcases (show j = 0 ∨ j = 1 ∨ j = 2 ∨ j = 3 ∨ j = 4 ∨ j = 5 ∨ j = 6 ∨ j = 7 ∨ j = 8 ∨ j = 9 ∨ j = 10 ∨ j = 11 ∨ j = 12 ∨ j = 13 ∨ j = 14 ∨ j = 15 ∨ j = 16 ∨ j = 17 ∨ j = 18 ∨ j = 19 ∨ j = 20 ∨ j = 21 ∨ j = 22 ∨ j = 23 by omega) with e | e | e | e | e | e | e | e | e | e | e | e | e | e | e | e | e | e | e | e | e | e | e | e <;> subst e
    · exact e_sw 112 o234_40 152 rfl rfl (case0 (by omega) i0 i1 hn hk hs hI k)
    · exact e_sw 185 o234_40 225 rfl rfl (case1 (by omega) i0 i1 hn hk hs hI k)
    · exact e_sw 241 o234_40 281 rfl rfl (case2 (by omega) i0 i1 hn hk hs hI k)
    · exact e_sw 254 o234_40 294 rfl rfl (case3 (by omega) i0 i1 hn hk hs hI k)
    · exact e_sw 310 o234_40 350 rfl rfl (case4 (by omega) i0 i1 hn hk hs hI k)
    · exact e_sw 378 o234_40 418 rfl rfl (case5 (by omega) i0 i1 hn hk hs hI k)
    · exact e_sw 446 o234_40 486 rfl rfl (case6 (by omega) i0 i1 hn hk hs hI k)
    · exact e_sw 514 o234_40 554 rfl rfl (case7 (by omega) i0 i1 hn hk hs hI k)
    · exact e_sw 582 o234_40 622 rfl rfl (case8 (by omega) i0 i1 hn hk hs hI k)
    · exact e_sw 662 o234_40 702 rfl rfl (case9 (by omega) i0 i1 hn hk hs hI k)
    · exact e_sw 675 o234_40 715 rfl rfl (case10 (by omega) i0 i1 hn hk hs hI k)
    · exact e_sw 743 o234_40 783 rfl rfl (case11 (by omega) i0 i1 hn hk hs hI k)
    · exact e_sw 811 o234_40 851 rfl rfl (case12 (by omega) i0 i1 hn hk hs hI k)
    · exact e_sw 879 o234_40 919 rfl rfl (case13 (by omega) i0 i1 hn hk hs hI k)
    · exact e_sw 947 o234_40 987 rfl rfl (case14 (by omega) i0 i1 hn hk hs hI k)
    · exact e_sw 1015 o234_40 1055 rfl rfl (case15 (by omega) i0 i1 hn hk hs hI k)
    · exact e_sw 1026 o234_40 1066 rfl rfl (case16 (by omega) i0 i1 hn hk hs hI k)
    · exact e_sw 1082 o234_40 1122 rfl rfl (case17 (by omega) i0 i1 hn hk hs hI k)
    · exact e_sw 1162 o234_40 1202 rfl rfl (case18 (by omega) i0 i1 hn hk hs hI k)
    · exact e_sw 1175 o234_40 1215 rfl rfl (case19 (by omega) i0 i1 hn hk hs hI k)
    · exact e_sw 1231 o234_40 1271 rfl rfl (case20 (by omega) i0 i1 hn hk hs hI k)
    · exact e_sw 1335 o234_40 1375 rfl rfl (case21 (by omega) i0 i1 hn hk hs hI k)
    · exact e_sw 1415 o234_40 1455 rfl rfl (case22 (by omega) i0 i1 hn hk hs hI k)
    · exact e_sw 1426 o234_40 1466 rfl rfl (case23 (by omega) i0 i1 hn hk hs hI k)
set_option maxRecDepth 16384 in
/-- the loop -/
theorem law_loop (hd : 200 ≤ d) (hn : sc.1 ≤ 60000) (hQ : ∀ w, Q (.inl (some (.int (zI 1)))) w) : ∀ (m : Nat) (i : Int) (v : zV) (u : zU) (x5 x6 : Value) (kc ks : Nat), (sc.1 : Int) - i < 6 * m + 6 → 0 ≤ i → i ≤ (sc.1 : Int) → INV v u → kc + 100 * m ≤ 601024 → ks + 600 * m ≤ 7293034 → zEv sc 234 d 23 [.ref 3000, .ref 0, .ref 79, .ref 118, .int (zI i), x5, x6] [] (zmk v u) kc ks Q := by
  intro m
  induction m with
  | zero =>
    intro i v u x5 x6 kc ks h i0 i1 hI hk hs
    refine e_il4 o234_23 (e_al0 o234_25 (e_sln o234_26 (e_bip o234_27 rfl (e_sub o234_29 (e_ic_gt o234_30 1485 rfl (by omega) (by omega) (fun hb => ?_) (fun hb => ?_))))))
    · exact e_ico o234_1485 (e_ret o234_1486 K234 rfl (decide_eq_true ⟨by show kc ≤ 601024; omega, by show ks ≤ 7293034; omega⟩) (hQ _))
    · omega
  | succ m ih =>
    intro i v u x5 x6 kc ks h i0 i1 hI hk hs
    refine e_il4 o234_23 (e_al0 o234_25 (e_sln o234_26 (e_bip o234_27 rfl (e_sub o234_29 (e_ic_gt o234_30 1485 rfl (by omega) (by omega) (fun hb => ?_) (fun hb => ?_))))))
    · exact e_ico o234_1485 (e_ret o234_1486 K234 rfl (decide_eq_true ⟨by show kc ≤ 601024; omega, by show ks ≤ 7293034; omega⟩) (hQ _))
    · refine e_al0 o234_33 (e_il4 o234_34 (e_sal o234_36 (by omega) (by omega) hn (e_bip o234_37 rfl (e_andR o234_39 ?_))))
      obtain ⟨j, j0, j1, hj⟩ := and31 (sc.2 i.toNat)
      rw [hj]
      have q1 : i + 6 ≤ (sc.1 : Int) := by omega
      have q2 : kc + 100 ≤ 601024 := by omega
      have q3 : ks + 600 ≤ 7293034 := by omega
      refine law_call (kc := kc) (ks := ks) (i := i) (j := j) hd i0 q1 hn q2 q3 hI j0 j1 ?_
      intro w t y5 y6 a b hw ha hb
      exact e_inc4 o234_1479 (e_goto o234_1482 23 rfl (ih (i + 6) w t y5 y6 (kc + a) (ks + b) (by omega) (by omega) (by omega) hw (by omega) (by omega)))
end
/-- on every script the law answers 1 -/
theorem zclaim (L : Nat) (xs : Nat → Int32) (hL : L ≤ 3072) : zEv (L, xs) 234 1000 0 (zloc zm234 [.ref 3000]) [] [] 0 0 (fun r _ => r = .inl (some (.int 1))) := by
  refine law_begin (by omega) ?_
  exact law_loop (sc := (L, xs)) (by omega) (by show L ≤ 60000; omega) (fun _ => rfl) 512 0 v0 u0 _ _ _ _ (by show (L : Int) - 0 < _; omega) (by omega) (by show (0 : Int) ≤ (L : Int); omega) INV0 (by omega) (by omega)
