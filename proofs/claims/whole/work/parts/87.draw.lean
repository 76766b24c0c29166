/-! draws -/
theorem m15 : ∀ i : Nat, i < 32 → (32767#32).getLsbD i = decide (i < 15) := by decide +kernel
theorem drw_b (y : BitVec 32) : (y >>> (16 : Nat)) &&& 32767#32 = (y.sshiftRight 16) &&& 32767#32 := by
  apply BitVec.eq_of_getLsbD_eq
  intro i hi
  rw [BitVec.getLsbD_and, BitVec.getLsbD_and, m15 i hi]
  by_cases h : i < 15
  · rw [BitVec.getLsbD_ushiftRight, BitVec.getLsbD_sshiftRight]
    rw [decide_eq_true h, Bool.and_true, Bool.and_true]
    rw [show decide (32 ≤ i) = false by simp; omega, if_pos (show 16 + i < 32 by omega)]
    rfl
  · rw [decide_eq_false h, Bool.and_false, Bool.and_false]
theorem drw (x : Int32) : ((x.toUInt32 >>> ((zI 16).toUInt32 &&& Int32.toUInt32 31)).toInt32 &&& zI 32767) = ((x >>> (zI 16 &&& 31)) &&& zI 32767) := by
  apply Int32.toBitVec_inj.1
  rw [Int32.toBitVec_and, Int32.toBitVec_and]
  have e1 : (x.toUInt32 >>> ((zI 16).toUInt32 &&& Int32.toUInt32 31)).toInt32.toBitVec = x.toBitVec >>> (16 : Nat) := by
    rw [UInt32.toBitVec_toInt32, UInt32.toBitVec_shiftRight]
    rfl
  have e2 : (x >>> (zI 16 &&& 31)).toBitVec = x.toBitVec.sshiftRight 16 := by
    rw [Int32.toBitVec_shiftRight]
    rfl
  rw [e1, e2]
  exact drw_b x.toBitVec
def nxs (x : Int32) : Int32 := x * zI 1103515245 + zI 12345
def dr (x : Int32) : Int := ((x >>> (zI 16 &&& 31)) &&& zI 32767).toInt
theorem dr_rg (x : Int32) : 0 ≤ dr x ∧ dr x < 32768 := by
  unfold dr
  have e : ((x >>> (zI 16 &&& 31)) &&& zI 32767).toInt = ((x >>> (zI 16 &&& 31)).toBitVec &&& 32767#32).toInt := by
    rw [← Int32.toInt_toBitVec, Int32.toBitVec_and]
    rfl
  rw [e]
  have h : ((x >>> (zI 16 &&& 31)).toBitVec &&& 32767#32).toNat ≤ 32767 := by
    rw [BitVec.toNat_and]
    exact Nat.and_le_right
  rw [BitVec.toInt_eq_toNat_of_lt (by omega)]
  omega
section
variable {sc : Nat × (Nat → Int32)} {d : Nat} {v v0 : zV} {u : zU}
theorem m206 {n : Int} (n0 : 0 < n) (n1 : n ≤ 40) : zEv sc 206 d 0 [.ref 79, .int (zI n)] [] (zmk v u) 0 0 (zis (zI (dr (nxs (v 79 48)) % n)) (zu v 79 48 (nxs (v 79 48))) u) := by
  have hr := dr_rg (nxs (v 79 48))
  refine e_al0 o206_0 (e_al0 o206_1 (e_gI o206_2 L79 rfl 48 rfl ?_))
  rw [zI_g]
  refine e_ldc_wI (z := 1103515245) o206_5 rfl rfl (e_mulR o206_8 (e_sip o206_9 rfl (e_addR o206_12 (e_pI o206_13 L79 rfl rfl rfl rfl 48 rfl ?_))))
  rw [show v 79 48 * zI 1103515245 + zI 12345 = nxs (v 79 48) from rfl]
  refine e_al0 o206_16 (e_gI o206_17 L79 rfl 48 rfl ?_)
  rw [zI_g, zu_same]
  refine e_bip o206_20 rfl (e_shrR o206_22 (e_sip o206_23 rfl (e_andR o206_26 ?_)))
  rw [← zI_t ((nxs (v 79 48) >>> (zI 16 &&& 31)) &&& zI 32767), show ((nxs (v 79 48) >>> (zI 16 &&& 31)) &&& zI 32767).toInt = dr (nxs (v 79 48)) from rfl]
  refine e_il1 o206_27 (e_rem o206_28 (by omega) (by omega) ?_)
  refine e_rI o206_29 K206 rfl rfl ?_
  exact ⟨rfl, rfl, rfl⟩
end
