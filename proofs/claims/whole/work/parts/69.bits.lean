/-! bits of the stones laid -/
theorem zsh64 : ∀ m : Nat, m < 40 → ((zI (m : Int)).toInt64.toUInt64 &&& Int64.toUInt64 63) = UInt64.ofNat m := by decide +kernel
theorem zsl64 : ∀ m : Nat, m < 40 → ((zI (m : Int)).toInt64 &&& 63) = Int64.ofNat m := by decide +kernel
theorem zone (m t : Nat) (hm : m < 40) (ht : t < 40) : (Int64.ofNat 1 <<< Int64.ofNat t).toBitVec.getLsbD m = decide (m = t) := by
  have key : ∀ t, t < 40 → ∀ m, m < 40 → (Int64.ofNat 1 <<< Int64.ofNat t).toBitVec.getLsbD m = decide (m = t) := by decide +kernel
  exact key t ht m hm
theorem zsm64 : ∀ m : Nat, m < 40 → (UInt64.ofNat m).toBitVec % 64 = BitVec.ofNat 64 m := by decide +kernel
theorem zbt_get {x : Int64} {m : Nat} (h : m < 40) : zbt x m = x.toBitVec.getLsbD m := by
  unfold zbt
  rw [zsh64 m h]
  have e : (lg_cmp ((x.toUInt64 >>> UInt64.ofNat m).toInt64 &&& Int64.ofNat 1) (Int64.ofNat 0) = 0) ↔ ((x.toUInt64 >>> UInt64.ofNat m).toInt64 &&& Int64.ofNat 1) = Int64.ofNat 0 := by
    generalize (x.toUInt64 >>> UInt64.ofNat m).toInt64 &&& Int64.ofNat 1 = y
    unfold lg_cmp
    constructor
    · intro hh
      split at hh
      · exact absurd hh (by decide)
      · split at hh
        · assumption
        · exact absurd hh (by decide)
    · intro hh
      rw [hh]
      decide
  have e2 : (((x.toUInt64 >>> UInt64.ofNat m).toInt64 &&& Int64.ofNat 1) = Int64.ofNat 0) ↔ x.toBitVec.getLsbD m = false := by
    rw [← Int64.toBitVec_inj, Int64.toBitVec_and, UInt64.toBitVec_toInt64, UInt64.toBitVec_shiftRight, Int64.toBitVec_toUInt64, zsm64 m h]
    rw [show (Int64.ofNat 1).toBitVec = 1#64 from rfl, show (Int64.ofNat 0).toBitVec = 0#64 from rfl, BitVec.and_one_eq_setWidth_ofBool_getLsbD]
    have e3 : (x.toBitVec >>> BitVec.ofNat 64 m).getLsbD 0 = x.toBitVec.getLsbD m := by
      rw [BitVec.ushiftRight_eq', BitVec.getLsbD_ushiftRight]
      congr 1
      simp only [BitVec.toNat_ofNat]
      omega
    rw [e3]
    cases x.toBitVec.getLsbD m <;> decide
  cases hb : x.toBitVec.getLsbD m with
  | false => rw [decide_eq_false]; rw [Classical.not_not]; exact e.2 (e2.2 hb)
  | true =>
    rw [decide_eq_true]
    intro hc
    have := e2.1 (e.1 hc)
    rw [hb] at this
    cases this
theorem zbt_or {x : Int64} {s t : Int} (s0 : 0 ≤ s) (s1 : s < 40) (t0 : 0 ≤ t) (t1 : t < 40) : zbt (x ||| (Int64.ofNat 1 <<< ((zI t).toInt64 &&& 63))) s = (zbt x s || decide (s = t)) := by
  obtain ⟨m, rfl⟩ := Int.eq_ofNat_of_zero_le s0
  obtain ⟨q, rfl⟩ := Int.eq_ofNat_of_zero_le t0
  rw [zbt_get (by omega), zbt_get (by omega), zsl64 q (by omega), Int64.toBitVec_or, BitVec.getLsbD_or, zone m q (by omega) (by omega)]
  congr 1
  by_cases e : m = q
  · subst e; simp
  · rw [decide_eq_false e, decide_eq_false (by omega)]
theorem zbt_zero {s : Int} (s0 : 0 ≤ s) (s1 : s < 40) : zbt (Int64.ofNat 0) s = false := by
  obtain ⟨m, rfl⟩ := Int.eq_ofNat_of_zero_le s0
  rw [zbt_get (by omega)]
  show (0#64).getLsbD m = false
  exact BitVec.getLsbD_zero
theorem lbit_get {sj : Int → Int} {s : Int} (s0 : 0 ≤ s) (s1 : s < 40) : ∀ j, 0 ≤ j → (∀ i, 0 ≤ i → i < j → 0 ≤ sj i ∧ sj i < 40) → (zbt (lbit sj j) s = true ↔ ∃ i, 0 ≤ i ∧ i < j ∧ s = sj i) := by
  refine zup ?_ ?_
  · intro _
    show zbt (Int64.ofNat 0) s = true ↔ _
    rw [zbt_zero s0 s1]
    constructor
    · intro h; cases h
    · rintro ⟨i, a, b, _⟩; omega
  · intro j j0 ih hi
    have hj := hi j j0 (by omega)
    rw [lbit_succ j0, zbt_or s0 s1 hj.1 hj.2, Bool.or_eq_true, ih (fun i a b => hi i a (by omega)), decide_eq_true_eq]
    constructor
    · rintro (⟨i, a, b, c⟩ | h)
      · exact ⟨i, a, by omega, c⟩
      · exact ⟨j, j0, by omega, h⟩
    · rintro ⟨i, a, b, c⟩
      rcases (show i < j ∨ i = j by omega) with e | e
      · exact Or.inl ⟨i, a, e, c⟩
      · subst e; exact Or.inr c
