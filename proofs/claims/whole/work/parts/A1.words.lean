/-! words: what the text constants hold -/
def sN (r : Nat) : Int := ((zByt.getD r []).length : Nat)
def sC (r : Nat) (j : Int) : Int := ((zByt.getD r []).getD j.toNat 0).toInt
theorem zByt_ok : ∀ r : Nat, r < 48 → (zByt.getD r []).length ≤ 60 ∧ ∀ i : Nat, i < (zByt.getD r []).length → 0 ≤ ((zByt.getD r []).getD i 0).toInt ∧ ((zByt.getD r []).getD i 0).toInt < 128 := by decide +kernel
section
variable {sc : Nat × (Nat → Int32)} {d : Nat} {v v0 w : zV} {u : zU} {r : Nat}
theorem sN_ok (hr : r < 48) : 0 ≤ sN r ∧ sN r ≤ 60 := by
  have := (zByt_ok r hr).1
  unfold sN; omega
theorem sC_ok (hr : r < 48) {j : Int} (h0 : 0 ≤ j) (h1 : j < sN r) : 0 ≤ sC r j ∧ sC r j < 128 := (zByt_ok r hr).2 j.toNat (by unfold sN at h1; omega)
theorem zext_s (hr : r < 48) : zext sc (2000 + r) = some (.byte, (zByt.getD r []).length, fun j => (zByt.getD r []).getD j 0) := by
  unfold zext
  rw [if_neg (by omega), if_pos (by omega), show 2000 + r - 2000 = r by omega]
theorem zgets (hr : r < 48) {ws : List zC} : zget ws (1000 + r) 9900 = some (.ref (2000 + r)) ∧ zget ws (1000 + r) 9901 = some (.int (zI 0)) := by
  unfold zget
  rw [if_neg (by omega), if_pos (by omega), if_pos rfl, if_neg (by omega), if_pos (by omega), if_neg (by omega), if_pos rfl, show 1000 + r + 1000 = 2000 + r by omega]
  exact ⟨rfl, rfl⟩
theorem s227 (hr : r < 48) : zEv sc 227 d 0 [.ref (1000 + r)] [] (zmk v u) 0 0 (zis (zI 0) v u) := by
  refine e_nx o227_0 (fun q => rfl) ?_
  show zEv sc 227 d 3 [.ref (1000 + r)] [.int (zI 1)] (zmk v u) 0 0 _
  refine e_if_eq o227_3 13 rfl (by omega) (fun h => absurd h (by omega)) (fun _ => ?_)
  refine e_al0 o227_6 ?_
  refine e_nx (pc' := 10) (ls' := [.ref (1000 + r)]) (st' := [.int (zI 0)]) (ws' := zmk v u) (kc' := 0) (ks' := 0) o227_7 (fun q => by simp only [znx, (zgets hr).2]) ?_
  refine e_goto o227_10 14 rfl (e_rI o227_14 K227 rfl rfl ⟨rfl, rfl, rfl⟩)
theorem s229 (hr : r < 48) : zEv sc 229 d 0 [.ref (1000 + r)] [] (zmk v u) 0 0 (zis (zI 1) v u) := by
  refine e_nx o229_0 (fun q => rfl) ?_
  show zEv sc 229 d 3 [.ref (1000 + r)] [.int (zI 1)] (zmk v u) 0 0 _
  refine e_if_eq o229_3 17 rfl (by omega) (fun h => absurd h (by omega)) (fun _ => ?_)
  refine e_al0 o229_6 ?_
  refine e_nx (pc' := 10) (ls' := [.ref (1000 + r)]) (st' := [.int (zI 0)]) (ws' := zmk v u) (kc' := 0) (ks' := 0) o229_7 (fun q => by simp only [znx, (zgets hr).2]) ?_
  refine e_if_ne o229_10 17 rfl (by omega) (fun h => absurd rfl h) (fun _ => ?_)
  refine e_ico o229_13 (e_goto o229_14 18 rfl (e_rI o229_18 K229 rfl rfl ⟨rfl, rfl, rfl⟩))
theorem len_s (hr : r < 48) : zlen sc (zmk v u) (2000 + r) = some (.int (zI (sN r))) := by
  unfold zlen
  rw [if_neg (by omega), zext_s hr]
  rfl
theorem s226 (hd : 1 ≤ d) (hr : r < 48) : zEv sc 226 d 0 [.ref (1000 + r)] [] (zmk v u) 0 0 (zis (zI (sN r)) v u) := by
  refine e_al0 o226_0 ?_
  refine e_nx (pc' := 4) (ls' := [.ref (1000 + r)]) (st' := [.ref (2000 + r)]) (ws' := zmk v u) (kc' := 0) (ks' := 0) o226_1 (fun q => by simp only [znx, (zgets hr).1]) ?_
  refine e_nx (pc' := 5) (ls' := [.ref (1000 + r)]) (st' := [.int (zI (sN r))]) (ws' := zmk v u) (kc' := 0) (ks' := 0) o226_4 (fun q => by simp only [znx, len_s hr]) ?_
  refine e_al0 o226_5 ?_
  refine e_Vi0 o226_6 K226 K227 rfl ⟨rfl, rfl⟩ (by unfold zrcv; rw [if_neg (by omega)]; exact decide_eq_true ⟨by omega, rfl⟩) hd rfl (s227 hr) ?_
  rintro _ _ _ ⟨rfl, rfl, rfl⟩
  refine e_shrR o226_9 ?_
  rw [show zI (sN r) >>> (zI 0 &&& 31) = zI (sN r) from by
    apply Int32.toBitVec_inj.1
    rw [Int32.toBitVec_shiftRight]
    exact BitVec.sshiftRight_zero]
  exact e_rI o226_10 K226 rfl rfl ⟨rfl, rfl, rfl⟩
theorem s232 {i n : Int} {x : Value} (h0 : 0 ≤ i) (h1 : i < n) (h2 : n ≤ 60) : zEv sc 232 d 0 [.int (zI i), .int (zI n), x] [] (zmk v u) 0 0 (zis (zI i) v u) := by
  refine e_il0 o232_0 (e_if_lt o232_1 9 rfl (by omega) (fun h => absurd h (by omega)) (fun _ => ?_))
  refine e_il0 o232_4 (e_il1 o232_5 (e_ic_lt o232_6 16 rfl (by omega) (by omega) (fun _ => ?_) (fun h => absurd h (by omega))))
  exact e_il0 o232_16 (e_rI o232_17 K232 rfl rfl ⟨rfl, rfl, rfl⟩)
theorem s230 {i n : Int} (hd : 1 ≤ d) (h0 : 0 ≤ i) (h1 : i < n) (h2 : n ≤ 60) : zEv sc 230 d 0 [.int (zI i), .int (zI n)] [] (zmk v u) 0 0 (zdo v u) := by
  refine e_il0 o230_0 (e_il1 o230_1 ?_)
  refine e_nx o230_2 (fun q => rfl) ?_
  refine e_Si3 o230_5 K230 K232 rfl ⟨rfl, rfl⟩ hd rfl (s232 h0 h1 h2) ?_
  rintro _ _ _ ⟨rfl, rfl, rfl⟩
  exact e_pop o230_8 (e_rV o230_9 K230 rfl rfl ⟨rfl, rfl⟩)
theorem ch_eq (x : Int32) (h0 : 0 ≤ x.toInt) (h1 : x.toInt < 128) : ((x &&& zI 255).toUInt32 % 65536).toInt32 = zI x.toInt ∧ x &&& zI 255 = zI x.toInt := by
  have key : ∀ n : Nat, n < 128 → ((Int32.ofNat n &&& zI 255).toUInt32 % 65536).toInt32 = zI n ∧ Int32.ofNat n &&& zI 255 = zI n := by decide +kernel
  have e : x = Int32.ofNat x.toInt.toNat := by
    rw [← zI_t x]
    show _ = zI ((zI x.toInt).toInt.toNat : Nat)
    rw [zI_to (by omega), Int.toNat_of_nonneg h0]
  have k := key x.toInt.toNat (by omega)
  rw [← e, Int.toNat_of_nonneg h0] at k
  exact k
theorem s231 {i : Int} (hd : 2 ≤ d) (hr : r < 48) (h0 : 0 ≤ i) (h1 : i < sN r) : zEv sc 231 d 0 [.ref (2000 + r), .int (zI i)] [] (zmk v u) 0 0 (zis (zI (sC r i)) v u) := by
  have hn := sN_ok hr
  have hl60 := (zByt_ok r hr).1
  refine e_il1 o231_0 (e_al0 o231_1 ?_)
  refine e_nx (pc' := 3) (ls' := [.ref (2000 + r), .int (zI i)]) (st' := [.int (zI (sN r)), .int (zI i)]) (ws' := zmk v u) (kc' := 0) (ks' := 0) o231_2 (fun q => by simp only [znx, len_s hr]) ?_
  refine e_Sv2 o231_3 K231 K230 rfl ⟨rfl, rfl⟩ (by omega) rfl (s230 (by omega) h0 h1 hn.2) ?_
  rintro _ _ ⟨rfl, rfl⟩
  refine e_al0 o231_6 (e_il1 o231_7 ?_)
  have hz : zin (zI i) (zByt.getD r []).length = true ∧ (zI i).toNatClampNeg = i.toNat := by
    have hl : i < ((zByt.getD r []).length : Nat) := h1
    exact ⟨zI_in h0 hl (by omega), zI_nat (by omega)⟩
  refine e_nx (pc' := 9) (ls' := [.ref (2000 + r), .int (zI i)]) (st' := [.int ((zByt.getD r []).getD i.toNat 0)]) (ws' := zmk v u) (kc' := 0) (ks' := 0) o231_8 (fun q => by
    have e : zald sc .byte (zmk v u) (2000 + r) (zI i) = some (.int ((zByt.getD r []).getD i.toNat 0)) := by
      unfold zald
      rw [if_neg (by omega), zext_s hr]
      simp only [hz.1, hz.2, and_self, if_true]
    simp only [znx, e]) ?_
  refine e_sip o231_9 rfl (e_andR o231_12 (e_i2c o231_13 ?_))
  have hc := sC_ok hr h0 h1
  rw [(ch_eq _ hc.1 hc.2).1]
  exact e_rI o231_14 K231 (by
    show zret (some .char) (zI (sC r i)) = true
    have key : ∀ n : Nat, n < 128 → zret (some .char) (zI n) = true := by decide +kernel
    have k := key (sC r i).toNat (by omega)
    rw [Int.toNat_of_nonneg hc.1] at k
    exact k) rfl ⟨rfl, rfl, rfl⟩
theorem s228 {i : Int} (hd : 3 ≤ d) (hr : r < 48) (h0 : 0 ≤ i) (h1 : i < sN r) : zEv sc 228 d 0 [.ref (1000 + r), .int (zI i)] [] (zmk v u) 0 0 (zis (zI (sC r i)) v u) := by
  refine e_al0 o228_0 ?_
  refine e_Vi0 o228_1 K228 K229 rfl ⟨rfl, rfl⟩ (by unfold zrcv; rw [if_neg (by omega)]; exact decide_eq_true ⟨by omega, rfl⟩) (by omega) rfl (s229 hr) ?_
  rintro _ _ _ ⟨rfl, rfl, rfl⟩
  refine e_if_eq o228_4 16 rfl (by omega) (fun h => absurd h (by omega)) (fun _ => ?_)
  refine e_al0 o228_7 ?_
  refine e_nx (pc' := 11) (ls' := [.ref (1000 + r), .int (zI i)]) (st' := [.ref (2000 + r)]) (ws' := zmk v u) (kc' := 0) (ks' := 0) o228_8 (fun q => by simp only [znx, (zgets hr).1]) ?_
  refine e_il1 o228_11 ?_
  refine e_Si2 o228_12 K228 K231 rfl ⟨rfl, rfl⟩ (by omega) rfl (s231 (by omega) hr h0 h1) ?_
  rintro _ _ _ ⟨rfl, rfl, rfl⟩
  have hc := sC_ok hr h0 h1
  exact e_rI o228_15 K228 (by
    show zret (some .char) (zI (sC r i)) = true
    have key : ∀ n : Nat, n < 128 → zret (some .char) (zI n) = true := by decide +kernel
    have k := key (sC r i).toNat (by omega)
    rw [Int.toNat_of_nonneg hc.1] at k
    exact k) rfl ⟨rfl, rfl, rfl⟩
end
