/-! THE LAYOUT: behind the constructors the cells stay; what changes are the numbers in them. v: ints by cell and place; u: longs. -/
abbrev zV : Type := Nat → Int → Int32
abbrev zU : Type := Nat → Int → Int64
def zI (z : Int) : Int32 := Int32.ofInt z
def zg (v : zV) (a : Nat) (k : Int) : Int := (v a k).toInt
def zu (v : zV) (a : Nat) (k : Int) (x : Int32) : zV := fun b j => if b = a ∧ j = k then x else v b j
def zul (u : zU) (a : Nat) (k : Int) (x : Int64) : zU := fun b j => if b = a ∧ j = k then x else u b j
theorem zI_g (v : zV) (a : Nat) (k : Int) : zI (zg v a k) = v a k := Int32.ofInt_toInt _
theorem zI_t (x : Int32) : zI x.toInt = x := Int32.ofInt_toInt _
theorem zg_lo (v : zV) (a : Nat) (k : Int) : -2147483648 ≤ zg v a k := Int32.le_toInt _
theorem zg_hi (v : zV) (a : Nat) (k : Int) : zg v a k < 2147483648 := Int32.toInt_lt _
theorem zg_rg (v : zV) (a : Nat) (k : Int) : -2147483648 ≤ zg v a k ∧ zg v a k < 2147483648 := ⟨zg_lo v a k, zg_hi v a k⟩
theorem zt_rg (x : Int32) : -2147483648 ≤ x.toInt ∧ x.toInt < 2147483648 := ⟨Int32.le_toInt _, Int32.toInt_lt _⟩
theorem zI_to {x : Int} (h : -2147483648 ≤ x ∧ x < 2147483648) : (zI x).toInt = x := Int32.toInt_ofInt_of_le (by omega) (by omega)
theorem zI_add (a b : Int) : zI a + zI b = zI (a + b) := (Int32.ofInt_add a b).symm
theorem zI_sub (a b : Int) : zI a - zI b = zI (a - b) := (Int32.ofInt_sub a b).symm
theorem zI_mul (a b : Int) : zI a * zI b = zI (a * b) := (Int32.ofInt_mul a b).symm
theorem zI_lt {a b : Int} (ha : -2147483648 ≤ a ∧ a < 2147483648) (hb : -2147483648 ≤ b ∧ b < 2147483648) : zI a < zI b ↔ a < b := by
  rw [Int32.lt_iff_toInt_lt, zI_to ha, zI_to hb]
theorem zI_le {a b : Int} (ha : -2147483648 ≤ a ∧ a < 2147483648) (hb : -2147483648 ≤ b ∧ b < 2147483648) : zI a ≤ zI b ↔ a ≤ b := by
  rw [Int32.le_iff_toInt_le, zI_to ha, zI_to hb]
theorem zI_inj {a b : Int} (ha : -2147483648 ≤ a ∧ a < 2147483648) (hb : -2147483648 ≤ b ∧ b < 2147483648) : zI a = zI b ↔ a = b := by
  rw [← Int32.toInt_inj, zI_to ha, zI_to hb]
theorem zI_nat {a : Int} (ha : -2147483648 ≤ a ∧ a < 2147483648) : (zI a).toNatClampNeg = a.toNat := by
  rw [← Int32.toNat_toInt, zI_to ha]
theorem zI_in {a : Int} {n : Nat} (h0 : 0 ≤ a) (h1 : a < n) (hn : n ≤ 60000) : zin (zI a) n = true := by
  have r : -2147483648 ≤ a ∧ a < 2147483648 := by omega
  have r0 : -2147483648 ≤ (0 : Int) ∧ (0 : Int) < 2147483648 := by omega
  simp only [zin, decide_eq_true_eq]
  rw [show (0 : Int32) = zI 0 from rfl, zI_lt r r0, zI_nat r]
  omega
theorem zu_same (v : zV) (a : Nat) (k : Int) (x : Int32) : zu v a k x a k = x := by simp [zu]
theorem zg_same {v : zV} {a : Nat} {k : Int} {x : Int} (h : -2147483648 ≤ x ∧ x < 2147483648) : zg (zu v a k (zI x)) a k = x := by simp [zg, zu_same, zI_to h]
theorem zu_ne {v : zV} {a b : Nat} {k j : Int} {x : Int32} (h : ¬ (b = a ∧ j = k)) : zu v a k x b j = v b j := by simp [zu, h]
theorem zg_ne {v : zV} {a b : Nat} {k j : Int} {x : Int32} (h : ¬ (b = a ∧ j = k)) : zg (zu v a k x) b j = zg v b j := by simp [zg, zu_ne h]
theorem zg_na {v : zV} {a b : Nat} {k j : Int} {x : Int32} (h : ¬ b = a) : zg (zu v a k x) b j = zg v b j := zg_ne fun e => h e.1
def zfl (v : zV) (a : Nat) : Nat → List Nat → List Value
  | _, [] => []
  | i, r :: t => (if r = 9999 then .int (v a i) else .ref r) :: zfl v a (i + 1) t
def zcell (v : zV) (u : zU) (a : Nat) : Nat × Nat × List Nat → zC
  | (0, n, _) => .inl (.int, n, .inl (fun j => v a (j : Int)))
  | (1, n, _) => .inl (.byte, n, .inl (fun j => v a (j : Int)))
  | (2, n, _) => .inl (.long, n, .inr (.inl (fun j => u a (j : Int))))
  | (3, c, rs) => .inl (.object (zCN.getD c ""), rs.length, .inr (.inr (.inr (.inr (fun j => rs[j]?)))))
  | (_, c, rs) => .inr (c, zfl v a 0 rs)
def zmkF (v : zV) (u : zU) : Nat → List (Nat × Nat × List Nat) → List zC
  | _, [] => []
  | a, d :: t => zcell v u a d :: zmkF v u (a + 1) t
def zLay : List (Nat × Nat × List Nat) := [
  (4, 9, [1, 16, 28, 47, 66, 78, 9999, 9999, 9999]),
  (4, 8, [2, 4, 9999, 9999, 9999]),
  (4, 3, [3, 9999, 9999, 9999, 9999, 9999, 9999]),
  (1, 600, []),
  (4, 7, [5, 6, 7, 8, 9, 10, 11, 12, 9999, 9999, 9999]),
  (0, 6, []),
  (0, 6, []),
  (0, 40, []),
  (0, 40, []),
  (0, 5, []),
  (0, 5, []),
  (0, 5, []),
  (4, 4, [13, 14, 15, 9999, 9999]),
  (0, 600, []),
  (0, 6, []),
  (0, 40, []),
  (4, 7, [17, 18, 19, 20, 21, 22, 23, 24, 9999, 9999, 9999]),
  (0, 6, []),
  (0, 6, []),
  (0, 40, []),
  (0, 40, []),
  (0, 5, []),
  (0, 5, []),
  (0, 5, []),
  (4, 4, [25, 26, 27, 9999, 9999]),
  (0, 600, []),
  (0, 6, []),
  (0, 40, []),
  (4, 1, [29, 33, 38, 39, 40, 41, 42, 43, 44, 9999, 9999, 45]),
  (4, 2, [30, 31, 32]),
  (0, 6, []),
  (0, 240, []),
  (0, 36, []),
  (4, 6, [9999, 9999, 34, 35, 36, 37]),
  (0, 180, []),
  (2, 30, []),
  (0, 240, []),
  (0, 186, []),
  (0, 5, []),
  (0, 4, []),
  (0, 4, []),
  (0, 10, []),
  (0, 10, []),
  (0, 10, []),
  (0, 3, []),
  (4, 5, [9999, 9999, 9999, 9999, 46]),
  (0, 8, []),
  (4, 1, [48, 52, 57, 58, 59, 60, 61, 62, 63, 9999, 9999, 64]),
  (4, 2, [49, 50, 51]),
  (0, 6, []),
  (0, 240, []),
  (0, 36, []),
  (4, 6, [9999, 9999, 53, 54, 55, 56]),
  (0, 180, []),
  (2, 30, []),
  (0, 240, []),
  (0, 186, []),
  (0, 5, []),
  (0, 4, []),
  (0, 4, []),
  (0, 10, []),
  (0, 10, []),
  (0, 10, []),
  (0, 3, []),
  (4, 5, [9999, 9999, 9999, 9999, 65]),
  (0, 8, []),
  (4, 0, [67, 68, 69, 9999, 9999, 9999, 9999]),
  (0, 4, []),
  (0, 4, []),
  (3, 5, [70, 72, 74, 76]),
  (4, 5, [9999, 9999, 9999, 9999, 71]),
  (0, 8, []),
  (4, 5, [9999, 9999, 9999, 9999, 73]),
  (0, 8, []),
  (4, 5, [9999, 9999, 9999, 9999, 75]),
  (0, 8, []),
  (4, 5, [9999, 9999, 9999, 9999, 77]),
  (0, 8, []),
  (0, 4, []),
  (4, 10, [80, 81, 9999, 82, 83, 84, 85, 86, 87, 88, 89, 90, 91, 92, 9999, 9999, 9999, 9999, 9999, 9999, 9999, 9999, 9999, 9999, 93, 94, 95, 96, 97, 98, 9999, 9999, 9999, 9999, 99, 100, 101, 102, 103, 104, 105, 106, 107, 108, 9999, 9999, 9999, 9999, 9999, 9999, 9999, 9999, 9999, 9999, 109, 110, 111, 112, 113, 114, 115, 116, 117]),
  (3, 12, [1031, 1032, 1033, 1034]),
  (3, 12, [1035, 1036, 1037, 1038, 1039, 1040]),
  (0, 8, []),
  (0, 12, []),
  (0, 12, []),
  (0, 80, []),
  (0, 80, []),
  (0, 10, []),
  (0, 10, []),
  (0, 10, []),
  (0, 1200, []),
  (0, 3, []),
  (0, 600, []),
  (0, 171, []),
  (0, 171, []),
  (0, 5130, []),
  (0, 8, []),
  (0, 6, []),
  (0, 64, []),
  (0, 180, []),
  (0, 4, []),
  (0, 4, []),
  (0, 4, []),
  (0, 4, []),
  (0, 4, []),
  (0, 10, []),
  (0, 10, []),
  (0, 10, []),
  (0, 5, []),
  (0, 171, []),
  (0, 5130, []),
  (0, 180, []),
  (0, 4, []),
  (0, 4, []),
  (0, 10, []),
  (0, 10, []),
  (0, 10, []),
  (0, 3, []),
  (2, 1, [])]
theorem L0 : zLay[0]? = some (4, 9, [1, 16, 28, 47, 66, 78, 9999, 9999, 9999]) := rfl
theorem L1 : zLay[1]? = some (4, 8, [2, 4, 9999, 9999, 9999]) := rfl
theorem L2 : zLay[2]? = some (4, 3, [3, 9999, 9999, 9999, 9999, 9999, 9999]) := rfl
theorem L3 : zLay[3]? = some (1, 600, []) := rfl
theorem L4 : zLay[4]? = some (4, 7, [5, 6, 7, 8, 9, 10, 11, 12, 9999, 9999, 9999]) := rfl
theorem L5 : zLay[5]? = some (0, 6, []) := rfl
theorem L6 : zLay[6]? = some (0, 6, []) := rfl
theorem L7 : zLay[7]? = some (0, 40, []) := rfl
theorem L8 : zLay[8]? = some (0, 40, []) := rfl
theorem L9 : zLay[9]? = some (0, 5, []) := rfl
theorem L10 : zLay[10]? = some (0, 5, []) := rfl
theorem L11 : zLay[11]? = some (0, 5, []) := rfl
theorem L12 : zLay[12]? = some (4, 4, [13, 14, 15, 9999, 9999]) := rfl
theorem L13 : zLay[13]? = some (0, 600, []) := rfl
theorem L14 : zLay[14]? = some (0, 6, []) := rfl
theorem L15 : zLay[15]? = some (0, 40, []) := rfl
theorem L16 : zLay[16]? = some (4, 7, [17, 18, 19, 20, 21, 22, 23, 24, 9999, 9999, 9999]) := rfl
theorem L17 : zLay[17]? = some (0, 6, []) := rfl
theorem L18 : zLay[18]? = some (0, 6, []) := rfl
theorem L19 : zLay[19]? = some (0, 40, []) := rfl
theorem L20 : zLay[20]? = some (0, 40, []) := rfl
theorem L21 : zLay[21]? = some (0, 5, []) := rfl
theorem L22 : zLay[22]? = some (0, 5, []) := rfl
theorem L23 : zLay[23]? = some (0, 5, []) := rfl
theorem L24 : zLay[24]? = some (4, 4, [25, 26, 27, 9999, 9999]) := rfl
theorem L25 : zLay[25]? = some (0, 600, []) := rfl
theorem L26 : zLay[26]? = some (0, 6, []) := rfl
theorem L27 : zLay[27]? = some (0, 40, []) := rfl
theorem L28 : zLay[28]? = some (4, 1, [29, 33, 38, 39, 40, 41, 42, 43, 44, 9999, 9999, 45]) := rfl
theorem L29 : zLay[29]? = some (4, 2, [30, 31, 32]) := rfl
theorem L30 : zLay[30]? = some (0, 6, []) := rfl
theorem L31 : zLay[31]? = some (0, 240, []) := rfl
theorem L32 : zLay[32]? = some (0, 36, []) := rfl
theorem L33 : zLay[33]? = some (4, 6, [9999, 9999, 34, 35, 36, 37]) := rfl
theorem L34 : zLay[34]? = some (0, 180, []) := rfl
theorem L35 : zLay[35]? = some (2, 30, []) := rfl
theorem L36 : zLay[36]? = some (0, 240, []) := rfl
theorem L37 : zLay[37]? = some (0, 186, []) := rfl
theorem L38 : zLay[38]? = some (0, 5, []) := rfl
theorem L39 : zLay[39]? = some (0, 4, []) := rfl
theorem L40 : zLay[40]? = some (0, 4, []) := rfl
theorem L41 : zLay[41]? = some (0, 10, []) := rfl
theorem L42 : zLay[42]? = some (0, 10, []) := rfl
theorem L43 : zLay[43]? = some (0, 10, []) := rfl
theorem L44 : zLay[44]? = some (0, 3, []) := rfl
theorem L45 : zLay[45]? = some (4, 5, [9999, 9999, 9999, 9999, 46]) := rfl
theorem L46 : zLay[46]? = some (0, 8, []) := rfl
theorem L47 : zLay[47]? = some (4, 1, [48, 52, 57, 58, 59, 60, 61, 62, 63, 9999, 9999, 64]) := rfl
theorem L48 : zLay[48]? = some (4, 2, [49, 50, 51]) := rfl
theorem L49 : zLay[49]? = some (0, 6, []) := rfl
theorem L50 : zLay[50]? = some (0, 240, []) := rfl
theorem L51 : zLay[51]? = some (0, 36, []) := rfl
theorem L52 : zLay[52]? = some (4, 6, [9999, 9999, 53, 54, 55, 56]) := rfl
theorem L53 : zLay[53]? = some (0, 180, []) := rfl
theorem L54 : zLay[54]? = some (2, 30, []) := rfl
theorem L55 : zLay[55]? = some (0, 240, []) := rfl
theorem L56 : zLay[56]? = some (0, 186, []) := rfl
theorem L57 : zLay[57]? = some (0, 5, []) := rfl
theorem L58 : zLay[58]? = some (0, 4, []) := rfl
theorem L59 : zLay[59]? = some (0, 4, []) := rfl
theorem L60 : zLay[60]? = some (0, 10, []) := rfl
theorem L61 : zLay[61]? = some (0, 10, []) := rfl
theorem L62 : zLay[62]? = some (0, 10, []) := rfl
theorem L63 : zLay[63]? = some (0, 3, []) := rfl
theorem L64 : zLay[64]? = some (4, 5, [9999, 9999, 9999, 9999, 65]) := rfl
theorem L65 : zLay[65]? = some (0, 8, []) := rfl
theorem L66 : zLay[66]? = some (4, 0, [67, 68, 69, 9999, 9999, 9999, 9999]) := rfl
theorem L67 : zLay[67]? = some (0, 4, []) := rfl
theorem L68 : zLay[68]? = some (0, 4, []) := rfl
theorem L69 : zLay[69]? = some (3, 5, [70, 72, 74, 76]) := rfl
theorem L70 : zLay[70]? = some (4, 5, [9999, 9999, 9999, 9999, 71]) := rfl
theorem L71 : zLay[71]? = some (0, 8, []) := rfl
theorem L72 : zLay[72]? = some (4, 5, [9999, 9999, 9999, 9999, 73]) := rfl
theorem L73 : zLay[73]? = some (0, 8, []) := rfl
theorem L74 : zLay[74]? = some (4, 5, [9999, 9999, 9999, 9999, 75]) := rfl
theorem L75 : zLay[75]? = some (0, 8, []) := rfl
theorem L76 : zLay[76]? = some (4, 5, [9999, 9999, 9999, 9999, 77]) := rfl
theorem L77 : zLay[77]? = some (0, 8, []) := rfl
theorem L78 : zLay[78]? = some (0, 4, []) := rfl
theorem L79 : zLay[79]? = some (4, 10, [80, 81, 9999, 82, 83, 84, 85, 86, 87, 88, 89, 90, 91, 92, 9999, 9999, 9999, 9999, 9999, 9999, 9999, 9999, 9999, 9999, 93, 94, 95, 96, 97, 98, 9999, 9999, 9999, 9999, 99, 100, 101, 102, 103, 104, 105, 106, 107, 108, 9999, 9999, 9999, 9999, 9999, 9999, 9999, 9999, 9999, 9999, 109, 110, 111, 112, 113, 114, 115, 116, 117]) := rfl
theorem L80 : zLay[80]? = some (3, 12, [1031, 1032, 1033, 1034]) := rfl
theorem L81 : zLay[81]? = some (3, 12, [1035, 1036, 1037, 1038, 1039, 1040]) := rfl
theorem L82 : zLay[82]? = some (0, 8, []) := rfl
theorem L83 : zLay[83]? = some (0, 12, []) := rfl
theorem L84 : zLay[84]? = some (0, 12, []) := rfl
theorem L85 : zLay[85]? = some (0, 80, []) := rfl
theorem L86 : zLay[86]? = some (0, 80, []) := rfl
theorem L87 : zLay[87]? = some (0, 10, []) := rfl
theorem L88 : zLay[88]? = some (0, 10, []) := rfl
theorem L89 : zLay[89]? = some (0, 10, []) := rfl
theorem L90 : zLay[90]? = some (0, 1200, []) := rfl
theorem L91 : zLay[91]? = some (0, 3, []) := rfl
theorem L92 : zLay[92]? = some (0, 600, []) := rfl
theorem L93 : zLay[93]? = some (0, 171, []) := rfl
theorem L94 : zLay[94]? = some (0, 171, []) := rfl
theorem L95 : zLay[95]? = some (0, 5130, []) := rfl
theorem L96 : zLay[96]? = some (0, 8, []) := rfl
theorem L97 : zLay[97]? = some (0, 6, []) := rfl
theorem L98 : zLay[98]? = some (0, 64, []) := rfl
theorem L99 : zLay[99]? = some (0, 180, []) := rfl
theorem L100 : zLay[100]? = some (0, 4, []) := rfl
theorem L101 : zLay[101]? = some (0, 4, []) := rfl
theorem L102 : zLay[102]? = some (0, 4, []) := rfl
theorem L103 : zLay[103]? = some (0, 4, []) := rfl
theorem L104 : zLay[104]? = some (0, 4, []) := rfl
theorem L105 : zLay[105]? = some (0, 10, []) := rfl
theorem L106 : zLay[106]? = some (0, 10, []) := rfl
theorem L107 : zLay[107]? = some (0, 10, []) := rfl
theorem L108 : zLay[108]? = some (0, 5, []) := rfl
theorem L109 : zLay[109]? = some (0, 171, []) := rfl
theorem L110 : zLay[110]? = some (0, 5130, []) := rfl
theorem L111 : zLay[111]? = some (0, 180, []) := rfl
theorem L112 : zLay[112]? = some (0, 4, []) := rfl
theorem L113 : zLay[113]? = some (0, 4, []) := rfl
theorem L114 : zLay[114]? = some (0, 10, []) := rfl
theorem L115 : zLay[115]? = some (0, 10, []) := rfl
theorem L116 : zLay[116]? = some (0, 10, []) := rfl
theorem L117 : zLay[117]? = some (0, 3, []) := rfl
theorem L118 : zLay[118]? = some (2, 1, []) := rfl
def zmk (v : zV) (u : zU) : List zC := zmkF v u 0 zLay
theorem zmkF_len (v : zV) (u : zU) : ∀ (l : List (Nat × Nat × List Nat)) (a : Nat), (zmkF v u a l).length = l.length
  | [], a => rfl
  | d :: t, a => by simp only [zmkF, List.length_cons, zmkF_len v u t (a + 1)]
theorem zmkF_at (v : zV) (u : zU) : ∀ (l : List (Nat × Nat × List Nat)) (a k : Nat), (zmkF v u a l)[k]? = (l[k]?).map (zcell v u (a + k))
  | [], a, k => by simp [zmkF]
  | d :: t, a, 0 => by simp [zmkF]
  | d :: t, a, k + 1 => by
    simp only [zmkF, List.getElem?_cons_succ]
    rw [zmkF_at v u t (a + 1) k, show a + 1 + k = a + (k + 1) by omega]
theorem zmk_at {v : zV} {u : zU} {a : Nat} {d : Nat × Nat × List Nat} (h : zLay[a]? = some d) : (zmk v u)[a]? = some (zcell v u a d) := by
  simp only [zmk, zmkF_at, h, Option.map_some, Nat.zero_add]
theorem zLay_len : zLay.length = 119 := rfl
theorem zLay_lt {a : Nat} {d : Nat × Nat × List Nat} (h : zLay[a]? = some d) : a < 119 := by
  have h1 := (List.getElem?_eq_some_iff.1 h).1
  rw [zLay_len] at h1
  exact h1
theorem zLay_ok : zLay.all (fun d => decide (d.1 < 3 → d.2.1 ≤ 60000)) = true := by decide +kernel
theorem zLay_n {a : Nat} {d : Nat × Nat × List Nat} (h : zLay[a]? = some d) (h3 : d.1 < 3) : d.2.1 ≤ 60000 := by
  have h0 := List.all_eq_true.1 zLay_ok d (List.mem_of_getElem? h)
  exact of_decide_eq_true h0 h3
theorem zmk_set {v v' : zV} {u u' : zU} {a : Nat} {d : Nat × Nat × List Nat} {c : zC} (h : zLay[a]? = some d) (hc : c = zcell v' u' a d) (hn : ∀ b, b ≠ a → (∀ k, v' b k = v b k) ∧ ∀ k, u' b k = u b k) : (zmk v u).set a c = zmk v' u' := by
  apply List.ext_getElem?
  intro k
  by_cases hk : a = k
  · subst hk
    rw [List.getElem?_set_self (by rw [zmk, zmkF_len, zLay_len]; exact zLay_lt h), zmk_at h, hc]
  · rw [List.getElem?_set_ne hk]
    simp only [zmk, zmkF_at, Nat.zero_add]
    cases e : zLay[k]? with
    | none => rfl
    | some d' =>
      simp only [Option.map_some, Option.some.injEq]
      have hb := hn k (fun x => hk x.symm)
      have ff : ∀ (l : List Nat) (i : Nat), zfl v k i l = zfl v' k i l := by
        intro l
        induction l with
        | nil => intro i; rfl
        | cons r t ih => intro i; simp only [zfl, ih, hb.1]
      obtain ⟨t, n, rs⟩ := d'
      match t with
      | 0 => simp only [zcell, hb.1]
      | 1 => simp only [zcell, hb.1]
      | 2 => simp only [zcell, hb.2]
      | 3 => simp only [zcell]
      | t + 4 => simp only [zcell, ff]
theorem zfl_at (v : zV) (a : Nat) : ∀ (rs : List Nat) (i j : Nat), (zfl v a i rs)[j]? = (rs[j]?).map fun r => if r = 9999 then Value.int (v a ((i + j : Nat) : Int)) else .ref r
  | [], i, j => by simp [zfl]
  | r :: t, i, 0 => by simp [zfl]
  | r :: t, i, j + 1 => by
    simp only [zfl, List.getElem?_cons_succ]
    rw [zfl_at v a t (i + 1) j, show i + 1 + j = i + (j + 1) by omega]
theorem zfl_len (v : zV) (a : Nat) : ∀ (rs : List Nat) (i : Nat), (zfl v a i rs).length = rs.length
  | [], i => rfl
  | r :: t, i => by simp only [zfl, List.length_cons, zfl_len v a t (i + 1)]
theorem zfl_set {v : zV} {a : Nat} {rs : List Nat} {j : Nat} {x : Int32} (h : rs[j]? = some 9999) : (zfl v a 0 rs).set j (.int x) = zfl (zu v a j x) a 0 rs := by
  apply List.ext_getElem?
  intro k
  have hj := (List.getElem?_eq_some_iff.1 h).1
  by_cases hk : j = k
  · subst hk
    rw [List.getElem?_set_self (by rw [zfl_len]; exact hj), zfl_at, h]
    simp [zu]
  · rw [List.getElem?_set_ne hk, zfl_at, zfl_at]
    have hz : zu v a (j : Int) x a ((0 + k : Nat) : Int) = v a ((0 + k : Nat) : Int) := zu_ne (by omega)
    rw [hz]
/-- what stands in a field: 9999 a number, else a reference -/
def zfd (c : Nat) (rs : List Nat) (r : Nat) : Option Nat := if c = r / 100 then rs[r % 100]? else none
theorem zfd_spec {c r x : Nat} {rs : List Nat} (h : zfd c rs r = some x) : c = r / 100 ∧ rs[r % 100]? = some x := by
  simp only [zfd] at h
  split at h
  · next e => exact ⟨e, h⟩
  · cases h
theorem zget_I {v : zV} {u : zU} {a c r : Nat} {rs : List Nat} (hL : zLay[a]? = some (4, c, rs)) (hf : zfd c rs r = some 9999) : zget (zmk v u) a r = some (.int (v a ((r % 100 : Nat) : Int))) := by
  have h1 := zLay_lt hL
  obtain ⟨h2, h3⟩ := zfd_spec hf
  simp only [zget, show a < 1000 by omega, if_true, zmk_at hL, zcell, h2, zfl_at, h3, Option.map_some, Nat.zero_add]
theorem zget_R {v : zV} {u : zU} {a c r b : Nat} {rs : List Nat} (hL : zLay[a]? = some (4, c, rs)) (hf : zfd c rs r = some b) (hb : (b == 9999) = false) : zget (zmk v u) a r = some (.ref b) := by
  have h1 := zLay_lt hL
  obtain ⟨h2, h3⟩ := zfd_spec hf
  have hb' : ¬ b = 9999 := by simpa using hb
  simp only [zget, show a < 1000 by omega, if_true, zmk_at hL, zcell, h2, zfl_at, h3, Option.map_some, hb', if_false]
theorem zput_I {q : zMI} {v : zV} {u : zU} {a c r : Nat} {rs : List Nat} {x : Int32} (hL : zLay[a]? = some (4, c, rs)) (hf : zfd c rs r = some 9999) (hn : decide (r % 100 < zNF c) = true) (hz : zfit (zty c (r % 100)) (.int x) = true) (hT : (zT c (r % 100)).2.2.2 = false) : zput q (zmk v u) a r (.int x) = some (zmk (zu v a ((r % 100 : Nat) : Int) x) u) := by
  have h1 := zLay_lt hL
  obtain ⟨h2, h3⟩ := zfd_spec hf
  have hj := (List.getElem?_eq_some_iff.1 h3).1
  simp only [zput, show a < 1000 by omega, if_true, zmk_at hL, zcell]
  rw [if_pos ⟨h2, of_decide_eq_true hn, by rw [zfl_len]; exact hj, hz, fun e => by rw [hT] at e; cases e⟩]
  refine congrArg some (zmk_set hL ?_ ?_)
  · rw [zfl_set h3]; rfl
  · intro b hb
    exact ⟨fun k => zu_ne fun e => hb e.1, fun k => rfl⟩
theorem zald_I {sc : Nat × (Nat → Int32)} {v : zV} {u : zU} {a n : Nat} {rs : List Nat} {k : Int} (hL : zLay[a]? = some (0, n, rs)) (h0 : 0 ≤ k) (h1 : k < n) : zald sc .int (zmk v u) a (zI k) = some (.int (v a k)) := by
  have ha := zLay_lt hL
  have hn : n ≤ 60000 := zLay_n hL (by simp)
  simp only [zald, show a < 1000 by omega, if_true, zmk_at hL, zcell, zI_in h0 h1 hn, and_self]
  rw [zI_nat (by omega), Int.toNat_of_nonneg h0]
theorem zald_B {sc : Nat × (Nat → Int32)} {v : zV} {u : zU} {a n : Nat} {rs : List Nat} {k : Int} (hL : zLay[a]? = some (1, n, rs)) (h0 : 0 ≤ k) (h1 : k < n) : zald sc .byte (zmk v u) a (zI k) = some (.int (v a k)) := by
  have ha := zLay_lt hL
  have hn : n ≤ 60000 := zLay_n hL (by simp)
  simp only [zald, show a < 1000 by omega, if_true, zmk_at hL, zcell, zI_in h0 h1 hn, and_self]
  rw [zI_nat (by omega), Int.toNat_of_nonneg h0]
theorem zlal_I {v : zV} {u : zU} {a n : Nat} {rs : List Nat} {k : Int} (hL : zLay[a]? = some (2, n, rs)) (h0 : 0 ≤ k) (h1 : k < n) : zlal (zmk v u) a (zI k) = some (.long (u a k)) := by
  have ha := zLay_lt hL
  have hn : n ≤ 60000 := zLay_n hL (by simp)
  simp only [zlal, show a < 1000 by omega, if_true, zmk_at hL, zcell, zI_in h0 h1 hn]
  rw [zI_nat (by omega), Int.toNat_of_nonneg h0]
theorem zaal_I {v : zV} {u : zU} {a c b : Nat} {rs : List Nat} {k : Int} (hL : zLay[a]? = some (3, c, rs)) (h0 : 0 ≤ k) (h1 : k < rs.length) (hn : rs.length ≤ 60000) (hb : rs[k.toNat]? = some b) : zaal (zmk v u) a (zI k) = some (.ref b) := by
  have ha := zLay_lt hL
  simp only [zaal, show a < 1000 by omega, if_true, zmk_at hL, zcell, zI_in h0 h1 hn]
  rw [zI_nat (by omega), hb]
theorem zlen_I {sc : Nat × (Nat → Int32)} {v : zV} {u : zU} {a n : Nat} {rs : List Nat} (hL : zLay[a]? = some (0, n, rs)) : zlen sc (zmk v u) a = some (.int (zI n)) := by
  have ha := zLay_lt hL
  simp only [zlen, show a < 1000 by omega, if_true, zmk_at hL, zcell]
  rfl
theorem zlen_R {sc : Nat × (Nat → Int32)} {v : zV} {u : zU} {a c : Nat} {rs : List Nat} (hL : zLay[a]? = some (3, c, rs)) : zlen sc (zmk v u) a = some (.int (zI rs.length)) := by
  have ha := zLay_lt hL
  simp only [zlen, show a < 1000 by omega, if_true, zmk_at hL, zcell]
  rfl
theorem zast_I {v : zV} {u : zU} {a n : Nat} {rs : List Nat} {k : Int} {x : Int32} (hL : zLay[a]? = some (0, n, rs)) (h0 : 0 ≤ k) (h1 : k < n) : zast .int (zmk v u) a (zI k) x = some (zmk (zu v a k x) u) := by
  have ha := zLay_lt hL
  have hn : n ≤ 60000 := zLay_n hL (by simp)
  simp only [zast, show a < 1000 by omega, if_true, zmk_at hL, zcell, zI_in h0 h1 hn, and_self]
  refine congrArg some (zmk_set hL ?_ ?_)
  · simp only [zcell, zI_nat (show -2147483648 ≤ k ∧ k < 2147483648 by omega)]
    congr 4
    funext j
    simp only [upd, zu, true_and]
    split <;> split <;> first | rfl | omega
  · intro b hb
    exact ⟨fun k => zu_ne fun e => hb e.1, fun k => rfl⟩
theorem zast_B {v : zV} {u : zU} {a n : Nat} {rs : List Nat} {k : Int} {x : Int32} (hL : zLay[a]? = some (1, n, rs)) (h0 : 0 ≤ k) (h1 : k < n) : zast .byte (zmk v u) a (zI k) x = some (zmk (zu v a k x) u) := by
  have ha := zLay_lt hL
  have hn : n ≤ 60000 := zLay_n hL (by simp)
  simp only [zast, show a < 1000 by omega, if_true, zmk_at hL, zcell, zI_in h0 h1 hn, and_self]
  refine congrArg some (zmk_set hL ?_ ?_)
  · simp only [zcell, zI_nat (show -2147483648 ≤ k ∧ k < 2147483648 by omega)]
    congr 4
    funext j
    simp only [upd, zu, true_and]
    split <;> split <;> first | rfl | omega
  · intro b hb
    exact ⟨fun k => zu_ne fun e => hb e.1, fun k => rfl⟩
theorem zlas_I {v : zV} {u : zU} {a n : Nat} {rs : List Nat} {k : Int} {x : Int64} (hL : zLay[a]? = some (2, n, rs)) (h0 : 0 ≤ k) (h1 : k < n) : zlas (zmk v u) a (zI k) x = some (zmk v (zul u a k x)) := by
  have ha := zLay_lt hL
  have hn : n ≤ 60000 := zLay_n hL (by simp)
  simp only [zlas, show a < 1000 by omega, if_true, zmk_at hL, zcell, zI_in h0 h1 hn]
  refine congrArg some (zmk_set hL ?_ ?_)
  · simp only [zcell, zI_nat (show -2147483648 ≤ k ∧ k < 2147483648 by omega)]
    congr 5
    funext j
    simp only [vp_updL, zul, true_and]
    split <;> split <;> first | rfl | omega
  · intro b hb
    exact ⟨fun k => rfl, fun k => by simp [zul, hb]⟩
def zcp (v : zV) (a b : Nat) (s t n : Int) : zV := fun c k => if c = b ∧ t ≤ k ∧ k < t + n then v a (s + (k - t)) else v c k
def zcpL (u : zU) (a b : Nat) (s t n : Int) : zU := fun c k => if c = b ∧ t ≤ k ∧ k < t + n then u a (s + (k - t)) else u c k
theorem zcpy_I {v : zV} {u : zU} {a b n0 n1 : Nat} {rs0 rs1 : List Nat} {s t n : Int} (h0 : zLay[a]? = some (0, n0, rs0)) (h1 : zLay[b]? = some (0, n1, rs1)) (hs : 0 ≤ s) (ht : 0 ≤ t) (hn : 0 ≤ n) (hs1 : s + n ≤ n0) (ht1 : t + n ≤ n1) : zcpy (zmk v u) a (zI s) b (zI t) (zI n) = some (zmk (zcp v a b s t n) u) := by
  have ha := zLay_lt h0
  have hb := zLay_lt h1
  have m0 : n0 ≤ 60000 := zLay_n h0 (by simp)
  have m1 : n1 ≤ 60000 := zLay_n h1 (by simp)
  have r0 : -2147483648 ≤ (0 : Int) ∧ (0 : Int) < 2147483648 := by omega
  have rs : -2147483648 ≤ s ∧ s < 2147483648 := by omega
  have rt : -2147483648 ≤ t ∧ t < 2147483648 := by omega
  have rn : -2147483648 ≤ n ∧ n < 2147483648 := by omega
  have e0 : (0 : Int32) = zI 0 := rfl
  simp only [zcpy]
  rw [if_pos ⟨by omega, by omega, by rw [e0, zI_lt rs r0]; omega, by rw [e0, zI_lt rt r0]; omega, by rw [e0, zI_lt rn r0]; omega⟩]
  simp only [zmk_at h0, zmk_at h1, zcell, zI_nat rs, zI_nat rt, zI_nat rn]
  rw [if_pos ⟨by omega, by omega⟩]
  refine congrArg some (zmk_set h1 ?_ ?_)
  · simp only [zcell]
    congr 4
    funext j
    simp only [va_cpy, zcp, true_and]
    split <;> split <;> first | rfl | omega | (congr 1; omega)
  · intro c hc
    exact ⟨fun k => by simp [zcp, hc], fun k => rfl⟩
theorem zcpy_L {v : zV} {u : zU} {a b n0 n1 : Nat} {rs0 rs1 : List Nat} {s t n : Int} (h0 : zLay[a]? = some (2, n0, rs0)) (h1 : zLay[b]? = some (2, n1, rs1)) (hs : 0 ≤ s) (ht : 0 ≤ t) (hn : 0 ≤ n) (hs1 : s + n ≤ n0) (ht1 : t + n ≤ n1) : zcpy (zmk v u) a (zI s) b (zI t) (zI n) = some (zmk v (zcpL u a b s t n)) := by
  have ha := zLay_lt h0
  have hb := zLay_lt h1
  have m0 : n0 ≤ 60000 := zLay_n h0 (by simp)
  have m1 : n1 ≤ 60000 := zLay_n h1 (by simp)
  have r0 : -2147483648 ≤ (0 : Int) ∧ (0 : Int) < 2147483648 := by omega
  have rs : -2147483648 ≤ s ∧ s < 2147483648 := by omega
  have rt : -2147483648 ≤ t ∧ t < 2147483648 := by omega
  have rn : -2147483648 ≤ n ∧ n < 2147483648 := by omega
  have e0 : (0 : Int32) = zI 0 := rfl
  simp only [zcpy]
  rw [if_pos ⟨by omega, by omega, by rw [e0, zI_lt rs r0]; omega, by rw [e0, zI_lt rt r0]; omega, by rw [e0, zI_lt rn r0]; omega⟩]
  simp only [zmk_at h0, zmk_at h1, zcell, zI_nat rs, zI_nat rt, zI_nat rn]
  rw [if_pos ⟨by omega, by omega⟩]
  refine congrArg some (zmk_set h1 ?_ ?_)
  · simp only [zcell]
    congr 5
    funext j
    simp only [va_cpy, zcpL, true_and]
    split <;> split <;> first | rfl | omega | (congr 1; omega)
  · intro c hc
    exact ⟨fun k => rfl, fun k => by simp [zcpL, hc]⟩
