/-! the greatest common divisor, as both reckon it -/
def eg : Nat → Int → Int → Int
  | 0, x, _ => x
  | n + 1, x, y => if y ≤ 0 then x else eg n y (x % y)
theorem eg_prod {x y : Int} (h0 : 0 < y) (h1 : y ≤ x) : 2 * (y * (x % y)) ≤ x * y ∧ 0 ≤ x % y ∧ x % y < y := by
  have a := Int.emod_nonneg x (show y ≠ 0 by omega)
  have b := Int.emod_lt_of_pos x h0
  refine ⟨?_, a, b⟩
  have c : 2 * (x % y) ≤ x := by
    have e := Int.emod_add_mul_ediv x y
    have q : 1 ≤ x / y := by
      rw [Int.le_ediv_iff_mul_le h0]
      omega
    have q2 : y * 1 ≤ y * (x / y) := Int.mul_le_mul_of_nonneg_left q (by omega)
    omega
  have d := Int.mul_le_mul_of_nonneg_left c (show 0 ≤ y by omega)
  rw [Int.mul_comm x y]
  rw [show 2 * (y * (x % y)) = y * (2 * (x % y)) by rw [← Int.mul_assoc, Int.mul_comm 2 y, Int.mul_assoc]]
  exact d
/-- enough steps are enough -/
theorem eg_more : ∀ (m n : Nat) (x y : Int), 0 ≤ y → y ≤ x → x * y < 2 ^ m → m ≤ n → eg n x y = eg m x y ∨ y ≤ 0 ∧ eg n x y = x ∧ eg m x y = x
  | 0, n, x, y, h0, h1, h2, _ => by
    right
    have : y = 0 := by
      apply Classical.byContradiction
      intro hy
      have e : 1 * 1 ≤ x * y := Int.mul_le_mul (by omega) (by omega) (by omega) (by omega)
      have : (2 : Int) ^ 0 = 1 := rfl
      omega
    subst this
    refine ⟨by omega, ?_, rfl⟩
    cases n with
    | zero => rfl
    | succ n => exact if_pos (by omega)
  | m + 1, 0, x, y, _, _, _, h => absurd h (by omega)
  | m + 1, n + 1, x, y, h0, h1, h2, h3 => by
    by_cases hy : y ≤ 0
    · right
      exact ⟨hy, if_pos hy, if_pos hy⟩
    · left
      obtain ⟨p1, p2, p3⟩ := eg_prod (show 0 < y by omega) h1
      have e1 : eg (n + 1) x y = eg n y (x % y) := if_neg hy
      have e2 : eg (m + 1) x y = eg m y (x % y) := if_neg hy
      rw [e1, e2]
      rcases eg_more m n y (x % y) p2 (by omega) (by rw [Int.pow_succ] at h2; omega) (by omega) with z | ⟨_, z1, z2⟩
      · exact z
      · rw [z1, z2]
section
variable {sc : Nat × (Nat → Int32)} {d : Nat} {v v0 : zV} {u : zU}
theorem c127 {a b : Int} (h0 : 0 ≤ b) (h1 : b ≤ a) (h2 : a < 1000000) : zEv sc 127 d 0 [.int (zI a), .int (zI b), zJ, zJ, zJ, zJ] [] (zmk v u) 0 0 (zis (zI (eg 64 a b)) v u) := by
  have loop : ∀ i, 0 ≤ i → i ≤ 64 → ∀ x y z, 0 ≤ y → y ≤ x → x < 1000000 → zEv sc 127 d 7 [.int (zI a), .int (zI b), .int (zI x), .int (zI y), .int (zI i), z] [] (zmk v u) 0 0 (zis (zI (eg (64 - i).toNat x y)) v u) := by
    refine zloop ?_
    intro i i0 i1 ih x y z y0 y1 x1
    refine e_il4 o127_7 (e_bip o127_9 rfl (e_ic_ge o127_11 34 rfl (by first | exact zg_rg _ _ _ | exact zt_rg _ | omega) (by first | exact zg_rg _ _ _ | exact zt_rg _ | omega) (fun hb11 => ?_) (fun hb11 => ?_)))
    · refine e_il2 o127_34 ?_
      refine e_rI o127_35 K127 rfl rfl ?_
      first | exact ⟨by rw [show (64 - i).toNat = 0 by omega]; rfl, rfl, rfl⟩ | exact ⟨by rw [show (64 - i).toNat = (63 - i).toNat + 1 by omega, show eg ((63 - i).toNat + 1) x y = x from if_pos hb15], rfl, rfl⟩
    · refine e_il3 o127_14 (e_if_le o127_15 34 rfl (by first | exact zg_rg _ _ _ | exact zt_rg _ | omega) (fun hb15 => ?_) (fun hb15 => ?_))
      · refine e_il2 o127_34 ?_
        refine e_rI o127_35 K127 rfl rfl ?_
        first | exact ⟨by rw [show (64 - i).toNat = 0 by omega]; rfl, rfl, rfl⟩ | exact ⟨by rw [show (64 - i).toNat = (63 - i).toNat + 1 by omega, show eg ((63 - i).toNat + 1) x y = x from if_pos hb15], rfl, rfl⟩
      · refine e_il2 o127_18 (e_il3 o127_19 (e_rem o127_20 (by omega) (by omega) (e_is5 o127_21 (e_il3 o127_23 (e_is2 o127_24 (e_il5 o127_25 (e_is3 o127_27 (e_inc4 o127_28 (e_goto o127_31 7 rfl ?_)))))))))
        have p := Int.emod_nonneg x (show y ≠ 0 by omega)
        have q := Int.emod_lt_of_pos x hb15
        have e := ih (by omega) y (x % y) (.int (zI (x % y))) p (by omega) (by omega)
        rw [show (64 - i).toNat = (64 - (i + 1)).toNat + 1 by omega, show eg ((64 - (i + 1)).toNat + 1) x y = eg (64 - (i + 1)).toNat y (x % y) from if_neg (by omega)]
        exact e
  refine e_il0 o127_0 (e_is2 o127_1 (e_il1 o127_2 (e_is3 o127_3 (e_ico o127_4 (e_is4 o127_5 ?_)))))
  exact loop 0 (by omega) (by omega) a b _ h0 h1 h2
theorem m204 {a b : Int} (h0 : 0 ≤ b) (h1 : b ≤ a) (h2 : a < 1000000) (h3 : a * b < 2 ^ 63) : zEv sc 204 d 0 [.int (zI a), .int (zI b), zJ, zJ, zJ] [] (zmk v u) 0 0 (zis (zI (eg 64 a b)) v u) := by
  have loop : ∀ (m : Nat) (x y : Int) (z : Value), 0 ≤ y → y ≤ x → x < 1000000 → x * y < 2 ^ m → zEv sc 204 d 4 [.int (zI a), .int (zI b), .int (zI x), .int (zI y), z] [] (zmk v u) 0 0 (zis (zI (eg (m + 1) x y)) v u) := by
    intro m
    induction m with
    | zero =>
      intro x y z y0 y1 x1 hp
      have y00 : y = 0 := by
        apply Classical.byContradiction
        intro hy
        have e : 1 * 1 ≤ x * y := Int.mul_le_mul (by omega) (by omega) (by omega) (by omega)
        have : (2 : Int) ^ 0 = 1 := rfl
        omega
      refine e_il3 o204_4 (e_if_eq o204_5 21 rfl (by first | exact zg_rg _ _ _ | exact zt_rg _ | omega) (fun hb5 => ?_) (fun hb5 => ?_))
      · refine e_il2 o204_21 ?_
        refine e_rI o204_22 K204 rfl rfl ?_
        exact ⟨by rw [show eg (0 + 1) x y = x from if_pos (by omega)], rfl, rfl⟩
      · exact absurd y00 hb5
    | succ m ih =>
      intro x y z y0 y1 x1 hp
      refine e_il3 o204_4 (e_if_eq o204_5 21 rfl (by first | exact zg_rg _ _ _ | exact zt_rg _ | omega) (fun hb5 => ?_) (fun hb5 => ?_))
      · refine e_il2 o204_21 ?_
        refine e_rI o204_22 K204 rfl rfl ?_
        exact ⟨by rw [show eg (m + 1 + 1) x y = x from if_pos (by omega)], rfl, rfl⟩
      · refine e_il2 o204_8 (e_il3 o204_9 (e_rem o204_10 (by omega) (by omega) (e_is4 o204_11 (e_il3 o204_13 (e_is2 o204_14 (e_il4 o204_15 (e_is3 o204_17 (e_goto o204_18 4 rfl ?_))))))))
        obtain ⟨p1, p2, p3⟩ := eg_prod (show 0 < y by omega) y1
        rw [show eg (m + 1 + 1) x y = eg (m + 1) y (x % y) from if_neg (by omega)]
        exact ih y (x % y) _ p2 (by omega) (by omega) (by rw [Int.pow_succ] at hp; omega)
  refine e_il0 o204_0 (e_is2 o204_1 (e_il1 o204_2 (e_is3 o204_3 ?_)))
  exact loop 63 a b _ h0 h1 h2 h3
end
