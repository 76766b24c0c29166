/-! the start: what the Statement gives, as the machine's surroundings ask for it -/
def znarr : List Cond := flatC (Jvm.Cond.and given_1 narrow_1)
def zSP : List Nat := [35, 69, 77, 87, 97, 107, 114, 124, 134, 142, 148, 156, 165, 172, 178, 187, 196, 208, 217, 244, 260, 295, 312, 348, 365, 381, 416, 434, 459, 483, 520, 542, 552, 562, 575, 585, 596, 607, 616, 623, 632, 642, 653, 662, 673, 684, 692, 700]
def zvt (i : Nat) : Term := .field (.string (zsn i).1 (zsn i).2.1) "java/lang/String" "value" "[B"
def zStrC (i : Nat) : List Cond := [.exactly (.string (zsn i).1 (zsn i).2.1) "java/lang/String", .eq (.field (.string (zsn i).1 (zsn i).2.1) "java/lang/String" "coder" "B") (.int 0), .arrayOf (zvt i) .byte, .eq (.length (zvt i)) (.int (Int32.ofNat (zByt.getD i []).length))] ++ (List.range (zByt.getD i []).length).map (fun j => .eq (.elem (zvt i) (.int (Int32.ofNat j))) (.int ((zByt.getD i []).getD j 0)))
theorem zStr_c : (List.range 48).all (fun i => decide ((znarr.drop (zSP.getD i 0)).take (zStrC i).length = zStrC i)) = true := by decide +kernel
theorem zStr_len : (List.range 48).all (fun i => decide ((zByt.getD i []).length < 100)) = true := by decide +kernel
theorem zStr_in {i : Nat} (hi : i < 48) : ∀ w ∈ zStrC i, w ∈ znarr := by
  intro w hw
  have h := zrange zStr_c hi
  simp only [decide_eq_true_eq] at h
  rw [← h] at hw
  exact List.mem_of_mem_drop (List.mem_of_mem_take hw)
theorem zNC1 : Cond.not (.castable zNSE zIAE) ∈ znarr := List.mem_of_getElem? (i := 22) (by decide +kernel)
theorem zNC2 : Cond.not (.castable zIAE zNSE) ∈ znarr := List.mem_of_getElem? (i := 34) (by decide +kernel)
theorem zUS : Cond.isRef (.static Bundle.tN "UNASSIGNED_STACK" Bundle.steD) ∈ znarr := List.mem_of_getElem? (i := 4) (by decide +kernel)
theorem zSS : Cond.isRef (.static Bundle.tN "SUPPRESSED_SENTINEL" Bundle.listD) ∈ znarr := List.mem_of_getElem? (i := 5) (by decide +kernel)
theorem zCS : Cond.eq (.static "java/lang/String" "COMPACT_STRINGS" "Z") (.int 1) ∈ znarr := List.mem_of_getElem? (i := 6) (by decide +kernel)
theorem zSI : Cond.isRef (.static "jdk/internal/util/Preconditions" "SIOOBE_FORMATTER" "Ljava/util/function/BiFunction;") ∈ znarr := List.mem_of_getElem? (i := 7) (by decide +kernel)
theorem zlsU : Cond.laysStatic Bundle.tN "UNASSIGNED_STACK" Bundle.steD ∈ lw_tbl := List.mem_of_getElem? (i := 650) (by decide +kernel)
theorem zlsN : Cond.laysStatic Bundle.tN "SUPPRESSED_SENTINEL" Bundle.listD ∈ lw_tbl := List.mem_of_getElem? (i := 652) (by decide +kernel)
theorem zlsC : Cond.laysStatic "java/lang/String" "COMPACT_STRINGS" "Z" ∈ lw_tbl := List.mem_of_getElem? (i := 735) (by decide +kernel)
theorem zlsI : Cond.laysStatic "jdk/internal/util/Preconditions" "SIOOBE_FORMATTER" "Ljava/util/function/BiFunction;" ∈ lw_tbl := List.mem_of_getElem? (i := 751) (by decide +kernel)
theorem ziT : Cond.initialized Bundle.tN ∈ lw_tbl := List.mem_of_getElem? (i := 94) (by decide +kernel)
theorem ziS : Cond.initialized "java/lang/String" ∈ lw_tbl := List.mem_of_getElem? (i := 99) (by decide +kernel)
theorem ziP : Cond.initialized "jdk/internal/util/Preconditions" ∈ lw_tbl := List.mem_of_getElem? (i := 101) (by decide +kernel)
theorem zaoT : Cond.arrayOver (.object "CobblePorts$Trip") ∈ lw_tbl := List.mem_of_getElem? (i := 409) (by decide +kernel)
theorem zaoS : Cond.arrayOver (.object "java/lang/String") ∈ lw_tbl := List.mem_of_getElem? (i := 1190) (by decide +kernel)
theorem zsn_ref {i : Nat} (hi : i < 48) : Cond.stringRef (zsn i).1 (zsn i).2.1 (zsn i).2.2 ∈ lw_tbl := by
  have h : (List.range 48).all (fun i => decide (lw_tbl[zSLp.getD i 0]? = some (Cond.stringRef (zsn i).1 (zsn i).2.1 (zsn i).2.2))) = true := by decide +kernel
  have := zrange h hi
  simp only [decide_eq_true_eq] at this
  exact List.mem_of_getElem? this
theorem zxw_tbl : ∀ w ∈ zxw, w ∈ lw_tbl := by
  intro w hw
  rcases List.mem_append.mp hw with h | h
  · obtain ⟨e, he, rfl⟩ := List.mem_map.mp h
    exact zNL_ok he
  · have := List.all_eq_true.mp zxw_in w h
    simpa using this
/-- the machine's surroundings at the law's entry -/
theorem zbegin {s : State} {b L : Nat} {xs : Nat → Int32} (hts : ∀ w ∈ lw_tbl, w.before #[Value.ref b] s = true) (hgv : (Jvm.Cond.and given_1 narrow_1).before #[Value.ref b] s = true) (hX : va_X b L xs s s.heap) (hbl : b < s.heap.size) (hL : L ≤ 3072) :
    ∃ (D : va_G) (tA : FieldType → ClassId) (adK adV : Nat → Nat), zKn D tA adK s ∧ zEx adK adV b (L, xs) s.heap.size s s.heap := by
  have hnar := flat_of_before _ hgv
  have hA : ∀ a : Nat, a < s.heap.size → ¬ zAr s.heap.size a := fun a h h2 => Nat.not_le.mpr h h2
  have hts' : ∀ w ∈ zws, w.before #[Value.ref b] s = true := fun w hw => hts w (zws_in hw)
  -- classes
  have hcls : ∀ ci, ∃ x : ClassId × (Nat → Nat), ci < 11 → u_Kn s (zCN.getD ci "") (zT ci) (zNF ci) x.1 x.2 := by
    intro ci
    by_cases h : ci < 11
    · have hI := zrange zI_c h
      simp only [decide_eq_true_eq] at hI
      obtain ⟨cC, iS, hk⟩ := u_known hts' (zlay h) (hts _ (List.mem_of_getElem? hI.1))
      exact ⟨(cC, iS), fun _ => hk⟩
    · exact ⟨(0, fun _ => 0), fun h' => absurd h' h⟩
  obtain ⟨fD, hfD⟩ := Classical.axiomOfChoice hcls
  -- rows' classes
  obtain ⟨cI, kI, mI, i1, i2, i3⟩ := Cond.arrayClass_spec (hts _ (zws_in zarr_i))
  obtain ⟨cB, kB, mB, b1, b2, b3⟩ := Cond.arrayClass_spec (hts _ (zws_in zarr_b))
  obtain ⟨cL, kL, mL, l1, l2, l3⟩ := Cond.arrayClass_spec (hts _ (zws_in zarr_l))
  obtain ⟨mT, cT, kT, t0, -, t1, t2, t3⟩ := Cond.arrayOver_spec (hts _ zaoT)
  obtain ⟨mS, cS, kS, s0, -, s1, s2, s3⟩ := Cond.arrayOver_spec (hts _ zaoS)
  obtain ⟨tA, hI, hB, hLo, hT, hS⟩ : ∃ tA : FieldType → ClassId, tA .int = cI ∧ tA .byte = cB ∧ tA .long = cL ∧ tA zTrip = cT ∧ tA zString = cS :=
    ⟨fun ty => match ty with
      | .int => cI
      | .byte => cB
      | .long => cL
      | .object n => if n = "CobblePorts$Trip" then cT else cS
      | _ => 0, rfl, rfl, rfl, by simp, by simp⟩
  have hK : va_K ((fun ci => (fD ci).1), fun ci => (fD ci).2) zcl (ztys tA) s := by
    refine ⟨fun ci q hq => ?_, fun k q hk => ?_⟩
    · have h := zcl_lt hq
      rw [zcl_at h] at hq
      cases hq
      exact hfD ci h
    · have hk5 : k < 5 := (List.getElem?_eq_some_iff.mp hk).1
      match k, hk5, hk with
      | 0, _, hk => cases hk; rw [hI]; exact ⟨fun n z => ⟨fun k h => (by cases h), kI, i2, mI, i3⟩, i1⟩
      | 1, _, hk => cases hk; rw [hB]; exact ⟨fun n z => ⟨fun k h => (by cases h), kB, b2, mB, b3⟩, b1⟩
      | 2, _, hk => cases hk; rw [hLo]; exact ⟨fun n z => ⟨fun k h => (by cases h), kL, l2, mL, l3⟩, l1⟩
      | 3, _, hk => cases hk; rw [hT]; exact ⟨fun n z => ⟨fun k h => (by cases h), kT, t1, mT, t2⟩, kT, mT, t1, t2, t0, t3⟩
      | 4, _, hk => cases hk; rw [hS]; exact ⟨fun n z => ⟨fun k h => (by cases h), kS, s1, mS, s2⟩, kS, mS, s1, s2, s0, s3⟩
  -- texts
  have hstr : ∀ i : Nat, ∃ x : Nat × Nat, i < 48 → (Term.string (zsn i).1 (zsn i).2.1).eval #[Value.ref b] s none [] s = some (.ref x.1) ∧ va_O "java/lang/String" x.1 (zAr s.heap.size) s s.heap ∧ va_OF "java/lang/String" "coder" "B" (.int 0) x.1 (zAr s.heap.size) s s.heap ∧ va_OF "java/lang/String" "value" "[B" (.ref x.2) x.1 (zAr s.heap.size) s s.heap ∧ va_T .byte x.2 (zByt.getD i []).length (fun j => .int ((zByt.getD i []).getD j 0)) (zAr s.heap.size) s s.heap := by
    intro i
    by_cases hi : i < 48
    · have hin := zStr_in hi
      have w : ∀ {c : Cond}, c ∈ zStrC i → c.before #[Value.ref b] s = true := fun hc => hnar _ (hin _ hc)
      have hlen := zrange zStr_len hi
      simp only [decide_eq_true_eq] at hlen
      obtain ⟨a, c, cA, kA, q1, q2, q3, q4, q5, q6, -⟩ := Cond.exactly_spec (args := #[Value.ref b]) (first := s) (o := none) (s := s) (idx := []) (t := .string (zsn i).1 (zsn i).2.1) (cls := "java/lang/String") (w (by simp [zStrC]))
      obtain ⟨t, ht, hT⟩ := va_Tof (f := fun j => .int ((zByt.getD i []).getD j 0)) (A := zAr s.heap.size) (show (zByt.getD i []).length < 2 ^ 31 by omega) (w (c := .arrayOf (zvt i) .byte) (by simp [zStrC])) (va_eqt (w (c := .eq (.length (zvt i)) (.int (Int32.ofNat (zByt.getD i []).length))) (by simp [zStrC])))
        (fun j hj => va_eqt (w (c := .eq (.elem (zvt i) (.int (Int32.ofNat j))) (.int ((zByt.getD i []).getD j 0))) (List.mem_append_right _ (List.mem_map.mpr ⟨j, List.mem_range.mpr hj, rfl⟩)))) hA
      exact ⟨(a, t), fun _ => ⟨q1, ⟨cA, q3, q5, by rw [q6]; exact q2, hA a (Array.getElem?_eq_some_iff.mp q3).1⟩, vk_OFof q1 (va_eqt (w (by simp [zStrC]))) hA, vk_OFof q1 ht hA, hT⟩⟩
    · exact ⟨(0, 0), fun h => absurd h hi⟩
  obtain ⟨ad, had⟩ := Classical.axiomOfChoice hstr
  refine ⟨_, tA, fun i => (ad i).1, fun i => (ad i).2, ⟨hK, fun i hi => vk_R.of (hts _ (zsn_ref hi)) (had i hi).1, fun w hw => va_Nw.of (zkk_on (List.all_eq_true.mp zxw_kk w hw)) (hts _ (zxw_tbl w hw)), ⟨va_Nc.of (hnar _ zNC1), va_Nc.of (hnar _ zNC2)⟩, va_AO.of (hts _ zaoT), va_AO.of (hts _ zaoS)⟩,
    fun i hi => (had i hi).2, ?_, va_Zof (hts _ zlsC) (hts _ ziS) (va_eqi (hnar _ zCS)) hA, va_Zqof (hts _ zlsI) (hts _ ziP) (hnar _ zSI) hA, vx_Zqof (hts _ zlsU) (hts _ ziT) (hnar _ zUS) hA, vx_Zqof (hts _ zlsN) (hts _ ziT) (hnar _ zSS) hA⟩
  obtain ⟨scr, x1, x2, x3, x4, x5⟩ := hX
  refine ⟨scr, x1, x2, x3, ?_, ?_, x5, hA b hbl⟩
  · show L ≤ _
    omega
  · show _ = Int32.ofNat L
    rw [x4]
