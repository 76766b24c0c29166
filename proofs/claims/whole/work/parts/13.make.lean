/-! making cells, constants, and what of the JDK's is known by laws of the kit -/
theorem zdef_ok : (List.range 11).all (fun ci => ((zTs.getD ci []).map defaultValue).all (fun v => decide (v = .int 0) || decide (v = .null))) = true := by decide +kernel
theorem zsr_def {ad : Nat → Nat} {ρ : List Nat} : ∀ {l : List Value}, (∀ v ∈ l, v = .int 0 ∨ v = .null) → zsr ad ρ l l
  | [], _ => trivial
  | v :: l, h => ⟨by rcases h v List.mem_cons_self with rfl | rfl <;> rfl, zsr_def (fun w hw => h w (List.mem_cons_of_mem _ hw))⟩
theorem zat1 {w : Cond} {i : Nat} (h : tables_1_1[i]? = some w) (g : goodWord w = true) : w ∈ zws := zws_of (zpt1 (List.mem_of_getElem? h)) g
theorem zat2 {w : Cond} {i : Nat} (h : tables_1_2[i]? = some w) (g : goodWord w = true) : w ∈ zws := zws_of (zpt2 (List.mem_of_getElem? h)) g
theorem zat3 {w : Cond} {i : Nat} (h : tables_1_3[i]? = some w) (g : goodWord w = true) : w ∈ zws := zws_of (zpt3 (List.mem_of_getElem? h)) g
theorem zarr_i : Cond.arrayClass .int ∈ zws := zat1 (i := 101) rfl rfl
theorem zarr_b : Cond.arrayClass .byte ∈ zws := zat1 (i := 70) rfl rfl
theorem zarr_l : Cond.arrayClass .long ∈ zws := zat1 (i := 238) rfl rfl
theorem zobj_i : Cond.instanceMethod Lib.objectInit ∈ zws := zat1 (i := 30) rfl rfl
theorem zobj_c : Cond.code Lib.objectInit ⟨#[0xb1]⟩ 1 none ∈ zws := zat1 (i := 31) rfl rfl
theorem zmin_s : Cond.static Lib.Math.min.name ∈ zws := zat3 (i := 140) rfl rfl
theorem zmin_c : Cond.code Lib.Math.min.name Lib.Math.min.code 2 (some .int) ∈ zws := zat3 (i := 141) rfl rfl
theorem zmax_s : Cond.static Lib.Math.max.name ∈ zws := zat2 (i := 221) rfl rfl
theorem zmax_c : Cond.code Lib.Math.max.name Lib.Math.max.code 2 (some .int) ∈ zws := zat2 (i := 222) rfl rfl
theorem zmath_i : Cond.initialized "java/lang/Math" ∈ zws := zat1 (i := 16) rfl rfl
theorem zcpy_n : Cond.native arraycopyName ∈ zws := zat2 (i := 174) rfl rfl
theorem zcpy_s : Cond.static arraycopyName ∈ zws := zat2 (i := 173) rfl rfl
theorem zsys_i : Cond.initialized "java/lang/System" ∈ zws := zat1 (i := 21) rfl rfl
section ZK
variable {l : Launch} {D : va_G} {tA : FieldType → ClassId} {adK adV : Nat → Nat} {b : Nat} {sc : Nat × (Nat → Int32)} {N0 : Nat} {q : zMI} {d : Nat} {p : Program} {e : Env} {R : Room} {s : State} {m : MethodId} {args : Array Value} {below : List Frame} {meth : Method} {c : Code} {ρ0 : List Nat} {Qm : State → Prop}
variable {pc pc1 n : Nat} {als als1 ast ast1 : List Value} {ws ws1 : List zC} {kc kc1 ks ks1 : Nat}
theorem zarr_same {ty : FieldType} {t : Nat} {cA : ClassId} (hK : va_K D zcl (ztys tA) s) (ht : (ztys tA)[t]? = some (tA ty, ty)) (hK1 : va_K D zcl (ztys tA ++ [(cA, ty)]) s) : cA = tA ty := by
  have h1 := (hK.2 t _ ht).2
  have h2 := (hK1.2 5 (cA, ty) rfl).2
  have key : ∀ {x : ClassId}, va_RA s x ty → s.vm.findClass ("[" ++ ty.toString) = some x := by
    intro x h
    cases ty with
    | object C => obtain ⟨_, _, _, _, _, h⟩ := h; exact h
    | _ => exact h
  exact Option.some.inj ((key h2).symm.trans (key h1))
/-- behind a cell that was made -/
theorem zpushed {a : Nat} {ρ : List Nat} {wr : va_W} {e1 : va_E} {cc1 : zC} {ls : Array Slot} {st : List Value} {H1 : Heap} {locs : List Loc} (K : zCo l D tA adK adV b N0 q p e R s m args below meth c ρ0 Qm pc1 als (.ref ws.length :: ast) (ws ++ [cc1]) kc1 ks1) (hc1 : kc1 ≤ q.mc) (hs1 : ks1 ≤ q.ms) (hρ : ∃ r, ρ = ρ0 ++ r) (hl : ws.length < 900) (y4 : zwr (zad adK adV b) tA ρ ws wr) (y5 : zlr (zad adK adV b) ρ als ls) (y6 : als.length = q.nL) (hst : zsr (zad adK adV b) ρ ast st)
    (hP : va_P D zcl (wr ++ [(a, e1)]) H1) (hD : va_D (zAr N0) (wr ++ [(a, e1)])) (hS : va_S (zAr N0) s.heap H1 locs) (hc : zcr (zad adK adV b) tA (ρ ++ [a]) cc1 e1) : W p l e R s m args below meth c H1 locs kc1 ks1 Qm (F0 m pc1 ls (.ref a :: st)) := by
  obtain ⟨r, rfl⟩ := hρ
  have hlen := zwr_len y4
  refine K hc1 hs1 H1 locs (ρ0 ++ r ++ [a]) _ ls _ ⟨r ++ [a], by simp⟩ ⟨hS, hP, hD, zwr_push y4 hc, zlr_mono _ y5, y6⟩ ⟨⟨a, rfl, ?_⟩, zsr_mono _ hst⟩
  have h9 : ws.length < 1000 := by omega
  rw [if_pos h9, ← hlen]
  simp
theorem zi_newarray (C : zCt l D tA adK adV b sc N0 q d p R s m args meth c) {t : ArrayType} (hdec : decode q.cc pc = .ok (.newarray t, 2)) (hn : znx sc q d (.newarray t) 2 pc als ast ws kc ks = some (pc1, als1, ast1, ws1, kc1, ks1)) (K : zCo l D tA adK adV b N0 q p e R s m args below meth c ρ0 Qm pc1 als1 ast1 ws1 kc1 ks1) : zCo l D tA adK adV b N0 q p e R s m args below meth c ρ0 Qm pc als ast ws kc ks := by
  obtain ⟨hx, hb, hml, hrt, hlk, hini, htab, hown, hts, hKn, hEx, hN0, hfr, hlo, hmc, hms, hnt, hqM⟩ := C
  simp only [znx] at hn
  split at hn
  · next k r =>
    split at hn
    · next cc1 hz =>
      split at hn
      · next hcc =>
        obtain ⟨h0, h6, hl, hc1, hc2⟩ := hcc
        simp only [Option.some.injEq, Prod.mk.injEq] at hn
        obtain ⟨rfl, rfl, rfl, rfl, rfl, rfl⟩ := hn
        intro hkc hks H locs ρ wr ls st hρ hdy hst
        obtain ⟨t1, rfl, h1⟩ := zsr_int hst
        obtain ⟨y1, y2, y3, y4, y5, y6⟩ := hdy
        cases t
        case int =>
          cases hz
          exact va_newa (atype := .int) (ty := .int) (a0 := (k.toNatClampNeg, .inl (fun _ => 0))) hx hb (hts _ zarr_i) rfl hKn.1 y2 y3 y1 (fun z hz => Nat.le_trans hN0 hz) (fun _ => rfl) h0 rfl (show k.toNatClampNeg * 4 ≤ 536870912 by omega) (by omega) (by omega) hdec
            (fun a cA H1 k1 k2 k3 k4 => by
              cases zarr_same (t := 0) hKn.1 rfl k1
              exact zpushed K hc1 hc2 hρ hl y4 y5 y6 h1 k2 k3 k4 ⟨rfl, 0, rfl⟩)
        case byte =>
          cases hz
          exact va_newa (atype := .byte) (ty := .byte) (a0 := (k.toNatClampNeg, .inl (fun _ => 0))) hx hb (hts _ zarr_b) rfl hKn.1 y2 y3 y1 (fun z hz => Nat.le_trans hN0 hz) (fun _ => rfl) h0 rfl (show k.toNatClampNeg * 1 ≤ 536870912 by omega) (by omega) (by omega) hdec
            (fun a cA H1 k1 k2 k3 k4 => by
              cases zarr_same (t := 1) hKn.1 rfl k1
              exact zpushed K hc1 hc2 hρ hl y4 y5 y6 h1 k2 k3 k4 ⟨rfl, 1, rfl⟩)
        case long =>
          cases hz
          exact va_newa (atype := .long) (ty := .long) (a0 := (k.toNatClampNeg, .inr (.inl (fun _ => 0)))) hx hb (hts _ zarr_l) rfl hKn.1 y2 y3 y1 (fun z hz => Nat.le_trans hN0 hz) (fun _ => rfl) h0 rfl (show k.toNatClampNeg * 8 ≤ 536870912 by omega) (by omega) (by omega) hdec
            (fun a cA H1 k1 k2 k3 k4 => by
              cases zarr_same (t := 2) hKn.1 rfl k1
              exact zpushed K hc1 hc2 hρ hl y4 y5 y6 h1 k2 k3 k4 ⟨rfl, 2, rfl⟩)
        all_goals cases hz
      · cases hn
    · cases hn
  · cases hn
theorem zi_anewarray (C : zCt l D tA adK adV b sc N0 q d p R s m args meth c) {k0 t : Nat} (hk : k0 < 10000) (hz : zlk (q.cn * 10000 + k0) zCL = some t) (hdec : decode q.cc pc = .ok (.anewarray k0, 3)) (hn : znx sc q d (.anewarray t) 3 pc als ast ws kc ks = some (pc1, als1, ast1, ws1, kc1, ks1)) (K : zCo l D tA adK adV b N0 q p e R s m args below meth c ρ0 Qm pc1 als1 ast1 ws1 kc1 ks1) : zCo l D tA adK adV b N0 q p e R s m args below meth c ρ0 Qm pc als ast ws kc ks := by
  obtain ⟨hx, hb, hml, hrt, hlk, hini, htab, hown, hts, hKn, hEx, hN0, hfr, hlo, hmc, hms, hnt, hqM⟩ := C
  have hlink := hts _ (zcl_in hk hz)
  simp only [znx] at hn
  split at hn
  · next k r =>
    split at hn
    · next hcc =>
      obtain ⟨ht, h0, h6, hl, hc1, hc2⟩ := hcc
      simp only [Option.some.injEq, Prod.mk.injEq] at hn
      obtain ⟨rfl, rfl, rfl, rfl, rfl, rfl⟩ := hn
      intro hkc hks H locs ρ wr ls st hρ hdy hst
      obtain ⟨t1, rfl, h1⟩ := zsr_int hst
      obtain ⟨y1, y2, y3, y4, y5, y6⟩ := hdy
      rcases ht with rfl | rfl
      · exact va_newq (C := "CobblePorts$Trip") hx hb hown hlink hKn.2.2.2.2.1 hKn.1 y2 y3 y1 (fun z hz => Nat.le_trans hN0 hz) h0 rfl (by omega) (by omega) (by omega) hdec
          (fun a cA H1 k1 k2 k3 k4 => by
            cases zarr_same (ty := zTrip) (t := 3) hKn.1 rfl k1
            exact zpushed K hc1 hc2 hρ hl y4 y5 y6 h1 k2 k3 k4 ⟨_, rfl, fun i => rfl, 3, rfl⟩)
      · exact va_newq (C := "java/lang/String") hx hb hown hlink hKn.2.2.2.2.2 hKn.1 y2 y3 y1 (fun z hz => Nat.le_trans hN0 hz) h0 rfl (by omega) (by omega) (by omega) hdec
          (fun a cA H1 k1 k2 k3 k4 => by
            cases zarr_same (ty := zString) (t := 4) hKn.1 rfl k1
            exact zpushed K hc1 hc2 hρ hl y4 y5 y6 h1 k2 k3 k4 ⟨_, rfl, fun i => rfl, 4, rfl⟩)
    · cases hn
  · cases hn
theorem zi_new (C : zCt l D tA adK adV b sc N0 q d p R s m args meth c) {k0 ci : Nat} (hk : k0 < 10000) (hz : zlk (q.cn * 10000 + k0) zCL = some ci) (hdec : decode q.cc pc = .ok (.new k0, 3)) (hn : znx sc q d (.new ci) 3 pc als ast ws kc ks = some (pc1, als1, ast1, ws1, kc1, ks1)) (K : zCo l D tA adK adV b N0 q p e R s m args below meth c ρ0 Qm pc1 als1 ast1 ws1 kc1 ks1) : zCo l D tA adK adV b N0 q p e R s m args below meth c ρ0 Qm pc als ast ws kc ks := by
  obtain ⟨hx, hb, hml, hrt, hlk, hini, htab, hown, hts, hKn, hEx, hN0, hfr, hlo, hmc, hms, hnt, hqM⟩ := C
  have hlink := hts _ (zcl_in hk hz)
  simp only [znx] at hn
  split at hn
  · next hcc =>
    obtain ⟨hlt, hl, hc1, hc2⟩ := hcc
    simp only [Option.some.injEq, Prod.mk.injEq] at hn
    obtain ⟨rfl, rfl, rfl, rfl, rfl, rfl⟩ := hn
    intro hkc hks H locs ρ wr ls st hρ hdy hst
    obtain ⟨y1, y2, y3, y4, y5, y6⟩ := hdy
    have hI := zrange zI_c hlt
    simp only [decide_eq_true_eq] at hI
    have hlen := ztl_ok hlt
    refine va_new (ci := ci) (fs := (zTs.getD ci []).map defaultValue) (C := zCN.getD ci "") (T := zT ci) (N := zNF ci) hx hb hts (zlay hlt) (zty ci) (zty_ok hlt) hown hlink (hts _ (zws_of (List.mem_of_getElem? hI.1) rfl)) (hts _ (zws_of (List.mem_of_getElem? hI.2) rfl)) hKn.1 y2 y3 y1 (fun z hz => Nat.le_trans hN0 hz) (zcl_at hlt) (fun j hj => ?_) (by omega) (by omega) hdec
      (fun a H1 k2 k3 k4 => zpushed K hc1 hc2 hρ hl y4 y5 y6 hst k2 k3 k4 ⟨_, rfl, zsr_def ?_⟩)
    · have hj' : j < (zTs.getD ci []).length := by omega
      simp only [vp_V, zty, List.getD_eq_getElem?_getD] at hj' ⊢
      simp [List.getElem?_map, List.getElem?_eq_getElem hj']
    · intro v hv
      have := List.all_eq_true.mp (zrange zdef_ok hlt) v hv
      simpa using this
  · cases hn
theorem zldcW (hexec : p.tables.exec = Jvm.exec) {cc : ByteArray} (hb : c.code = cc) {own tx : String} {index a : Nat} {ls : Array Slot} {rest : List Value} {H : Heap} {locs : List Loc} (hown : s.vm.findClass own = some m.cls) (hZ : vk_R own index tx a s) (hdg : decode cc pc = .ok (.ldc_w index, 3))
    (k : W p l e R s m args below meth c H locs kc ks Qm (F0 m (pc + 3) ls (.ref a :: rest))) : W p l e R s m args below meth c H locs kc ks Qm (F0 m pc ls rest) := by
  intro T hT X
  obtain ⟨t, a1, b1⟩ := k T hT X
  exact ⟨t, X.ldcStringW hexec hown (text := tx) (a := a) hZ.1 hZ.2 (g := F0 m pc ls rest) rfl (by rw [hb]; exact hdg) t a1, b1⟩
theorem zsl_in {cn k r : Nat} (hk : k < 10000) (h : zlk (cn * 10000 + k) zSL = some r) : r < 48 ∧ (zsn r).1 = zCN.getD cn "" ∧ (zsn r).2.1 = k := by
  have h1 := List.all_eq_true.mp zSL_r _ (zlk_mem h)
  simpa only [decide_eq_true_eq, (zdiv (a := cn) hk).1, (zdiv (a := cn) hk).2] using h1
theorem zil_in {cn k r : Nat} (hk : k < 10000) (h : zlk (cn * 10000 + k) zIL = some r) : Cond.constant (zCN.getD cn "") k (zIC.getD r 0) ∈ zws := by
  have h1 := zIL_ok (zlk_mem h)
  simpa only [zic, (zdiv (a := cn) hk).1, (zdiv (a := cn) hk).2] using h1
theorem zi_ldc (C : zCt l D tA adK adV b sc N0 q d p R s m args meth c) {k r : Nat} (hk : k < 10000) (hz : zlk (q.cn * 10000 + k) zSL = some r ∨ ∃ r0, r = 1000 + r0 ∧ zlk (q.cn * 10000 + k) zIL = some r0) (hdec : decode q.cc pc = .ok (.ldc k, 2)) (hn : znx sc q d (.ldc r) 2 pc als ast ws kc ks = some (pc1, als1, ast1, ws1, kc1, ks1)) (K : zCo l D tA adK adV b N0 q p e R s m args below meth c ρ0 Qm pc1 als1 ast1 ws1 kc1 ks1) : zCo l D tA adK adV b N0 q p e R s m args below meth c ρ0 Qm pc als ast ws kc ks := by
  obtain ⟨hx, hb, hml, hrt, hlk, hini, htab, hown, hts, hKn, hEx, hN0, hfr, hlo, hmc, hms, hnt, hqM⟩ := C
  simp only [znx] at hn
  rcases hz with hz | ⟨r0, rfl, hz⟩
  · obtain ⟨g1, g2, g3⟩ := zsl_in hk hz
    rw [if_pos g1] at hn
    simp only [Option.some.injEq, Prod.mk.injEq] at hn
    obtain ⟨rfl, rfl, rfl, rfl, rfl, rfl⟩ := hn
    intro hkc hks H locs ρ wr ls st hρ hdy hst
    have hv := hKn.2.1 r g1
    rw [g2, g3] at hv
    have e1 : ¬ 1000 + r < 1000 := by omega
    have e2 : 1000 + r - 1000 < 48 := by omega
    have e3 : 1000 + r - 1000 = r := by omega
    exact va_ldcS hx hb hown hv hdec (K hkc hks H locs ρ wr ls _ hρ hdy ⟨⟨adK r, rfl, by rw [if_neg e1, zad_K e1 e2, e3]⟩, hst⟩)
  · have hlink := hts _ (zil_in hk hz)
    rw [if_neg (by omega)] at hn
    split at hn
    · simp only [Option.some.injEq, Prod.mk.injEq] at hn
      obtain ⟨rfl, rfl, rfl, rfl, rfl, rfl⟩ := hn
      intro hkc hks H locs ρ wr ls st hρ hdy hst
      exact lv_ldc hx hb hown hlink hdec (K hkc hks H locs ρ wr ls _ hρ hdy ⟨by rw [show 1000 + r0 - 1000 = r0 by omega]; rfl, hst⟩)
    · cases hn
theorem zi_ldc_w (C : zCt l D tA adK adV b sc N0 q d p R s m args meth c) {k r : Nat} (hk : k < 10000) (hz : zlk (q.cn * 10000 + k) zSL = some r ∨ ∃ r0, r = 1000 + r0 ∧ zlk (q.cn * 10000 + k) zIL = some r0) (hdec : decode q.cc pc = .ok (.ldc_w k, 3)) (hn : znx sc q d (.ldc_w r) 3 pc als ast ws kc ks = some (pc1, als1, ast1, ws1, kc1, ks1)) (K : zCo l D tA adK adV b N0 q p e R s m args below meth c ρ0 Qm pc1 als1 ast1 ws1 kc1 ks1) : zCo l D tA adK adV b N0 q p e R s m args below meth c ρ0 Qm pc als ast ws kc ks := by
  obtain ⟨hx, hb, hml, hrt, hlk, hini, htab, hown, hts, hKn, hEx, hN0, hfr, hlo, hmc, hms, hnt, hqM⟩ := C
  simp only [znx] at hn
  rcases hz with hz | ⟨r0, rfl, hz⟩
  · obtain ⟨g1, g2, g3⟩ := zsl_in hk hz
    rw [if_pos g1] at hn
    simp only [Option.some.injEq, Prod.mk.injEq] at hn
    obtain ⟨rfl, rfl, rfl, rfl, rfl, rfl⟩ := hn
    intro hkc hks H locs ρ wr ls st hρ hdy hst
    have hv := hKn.2.1 r g1
    rw [g2, g3] at hv
    have e1 : ¬ 1000 + r < 1000 := by omega
    have e2 : 1000 + r - 1000 < 48 := by omega
    have e3 : 1000 + r - 1000 = r := by omega
    exact zldcW hx hb hown hv hdec (K hkc hks H locs ρ wr ls _ hρ hdy ⟨⟨adK r, rfl, by rw [if_neg e1, zad_K e1 e2, e3]⟩, hst⟩)
  · have hlink := hts _ (zil_in hk hz)
    rw [if_neg (by omega)] at hn
    split at hn
    · simp only [Option.some.injEq, Prod.mk.injEq] at hn
      obtain ⟨rfl, rfl, rfl, rfl, rfl, rfl⟩ := hn
      intro hkc hks H locs ρ wr ls st hρ hdy hst
      exact lv_ldcw hx hb hown hlink hdec (K hkc hks H locs ρ wr ls _ hρ hdy ⟨by rw [show 1000 + r0 - 1000 = r0 by omega]; rfl, hst⟩)
    · cases hn
theorem zlr_size {ρ : List Nat} {ls : Array Slot} (h : zlr (zad adK adV b) ρ als ls) : ls.size = als.length := by
  obtain ⟨l, h1, -⟩ := h
  exact h1.1
theorem zi_objInit (C : zCt l D tA adK adV b sc N0 q d p R s m args meth c) {k r : Nat} (hk : k < 10000) (hz : zlk (q.cn * 10000 + k) zML = some r) (hdec : decode q.cc pc = .ok (.invokespecial k, 3)) (hn : znx sc q d (.invokespecial r) 3 pc als ast ws kc ks = some (pc1, als1, ast1, ws1, kc1, ks1)) (K : zCo l D tA adK adV b N0 q p e R s m args below meth c ρ0 Qm pc1 als1 ast1 ws1 kc1 ks1) : zCo l D tA adK adV b N0 q p e R s m args below meth c ρ0 Qm pc als ast ws kc ks := by
  obtain ⟨hx, hb, hml, hrt, hlk, hini, htab, hown, hts, hKn, hEx, hN0, hfr, hlo, hmc, hms, hnt, hqM⟩ := C
  have hlink := hts _ (zml_in hk hz)
  simp only [znx] at hn
  split at hn
  · next hr =>
    obtain ⟨rfl, hd⟩ := hr
    split at hn
    · next a s' =>
      split at hn
      · next hwd =>
        simp only [Option.some.injEq, Prod.mk.injEq] at hn
        obtain ⟨rfl, rfl, rfl, rfl, rfl, rfl⟩ := hn
        intro hkc hks H locs ρ wr ls st hρ hdy hst
        obtain ⟨a', s1, rfl, ha, h1⟩ := zsr_ref hst
        have hw := zsr_wd h1
        have hsz := zlr_size hdy.2.2.2.2.1
        have hy6 := hdy.2.2.2.2.2
        exact W.objInit hx hb hown hlink (hts _ zobj_i) (hts _ zobj_c) rfl (by show ls.size = _; rw [hsz, hy6, hml]) rfl hdec (by omega) (by show 2 * 0 + _ + 12 ≤ _; omega) (K hkc hks H locs ρ wr ls _ hρ hdy h1)
      · cases hn
    · cases hn
  · cases hn
theorem zi_intr (C : zCt l D tA adK adV b sc N0 q d p R s m args meth c) {k r : Nat} (hk : k < 10000) (hz : zlk (q.cn * 10000 + k) zML = some r) (hdec : decode q.cc pc = .ok (.invokestatic k, 3)) (hn : znx sc q d (.invokestatic r) 3 pc als ast ws kc ks = some (pc1, als1, ast1, ws1, kc1, ks1)) (K : zCo l D tA adK adV b N0 q p e R s m args below meth c ρ0 Qm pc1 als1 ast1 ws1 kc1 ks1) : zCo l D tA adK adV b N0 q p e R s m args below meth c ρ0 Qm pc als ast ws kc ks := by
  obtain ⟨hx, hb, hml, hrt, hlk, hini, htab, hown, hts, hKn, hEx, hN0, hfr, hlo, hmc, hms, hnt, hqM⟩ := C
  have hlink := hts _ (zml_in hk hz)
  simp only [znx] at hn
  split at hn
  · next hr =>
    obtain ⟨rfl, hd⟩ := hr
    split at hn
    · next y x s' =>
      split at hn
      · next hwd =>
        simp only [Option.some.injEq, Prod.mk.injEq] at hn
        obtain ⟨rfl, rfl, rfl, rfl, rfl, rfl⟩ := hn
        intro hkc hks H locs ρ wr ls st hρ hdy hst
        obtain ⟨t1, rfl, h0⟩ := zsr_int hst
        obtain ⟨t2, rfl, h1⟩ := zsr_int h0
        have hw := zsr_wd h1
        have hsz := zlr_size hdy.2.2.2.2.1
        have hy6 := hdy.2.2.2.2.2
        exact va_mmin hx hb (by rw [hsz, hy6, hml]) hown hlink (hts _ zmin_s) (hts _ zmath_i) (hts _ zmin_c) (by omega) (by omega) (by omega) (by omega) hdec (K hkc hks H locs ρ wr ls _ hρ hdy ⟨rfl, h1⟩)
      · cases hn
    · cases hn
  · split at hn
    · next hr =>
      obtain ⟨rfl, hd⟩ := hr
      split at hn
      · next y x s' =>
        split at hn
        · next hwd =>
          simp only [Option.some.injEq, Prod.mk.injEq] at hn
          obtain ⟨rfl, rfl, rfl, rfl, rfl, rfl⟩ := hn
          intro hkc hks H locs ρ wr ls st hρ hdy hst
          obtain ⟨t1, rfl, h0⟩ := zsr_int hst
          obtain ⟨t2, rfl, h1⟩ := zsr_int h0
          have hw := zsr_wd h1
          have hsz := zlr_size hdy.2.2.2.2.1
          have hy6 := hdy.2.2.2.2.2
          exact va_mmax hx hb (by rw [hsz, hy6, hml]) hown hlink (hts _ zmax_s) (hts _ zmath_i) (hts _ zmax_c) (by omega) (by omega) (by omega) (by omega) hdec (K hkc hks H locs ρ wr ls _ hρ hdy ⟨rfl, h1⟩)
        · cases hn
      · cases hn
    · split at hn
      · next hr =>
        obtain ⟨rfl, hd⟩ := hr
        split at hn
        · next k1 dp a1 sp a0 s' =>
          split at hn
          · next hwd =>
            split at hn
            · next ws' hv =>
              simp only [Option.some.injEq, Prod.mk.injEq] at hn
              obtain ⟨rfl, rfl, rfl, rfl, rfl, rfl⟩ := hn
              intro hkc hks H locs ρ wr ls st hρ hdy hst
              obtain ⟨t1, rfl, g1⟩ := zsr_int hst
              obtain ⟨t2, rfl, g2⟩ := zsr_int g1
              obtain ⟨b1, t3, rfl, ha1, g3⟩ := zsr_ref g2
              obtain ⟨t4, rfl, g4⟩ := zsr_int g3
              obtain ⟨b0, t5, rfl, ha0, h1⟩ := zsr_ref g4
              have hw := zsr_wd h1
              have hsz := zlr_size hdy.2.2.2.2.1
              have hy6 := hdy.2.2.2.2.2
              obtain ⟨y1, y2, y3, y4, y5, -⟩ := hdy
              have hnf : nativeFrameWords "java/lang/System" "arraycopy" 5 + 11 ≤ 50 := by decide
              unfold zcpy at hv
              split at hv
              · next hc =>
                obtain ⟨c0, c1, c2, c3, c4⟩ := hc
                rw [if_pos c0] at ha0
                rw [if_pos c1] at ha1
                split at hv
                · next n0 f n1 g w0 w1 =>
                  split at hv
                  · next hcc =>
                    cases hv
                    obtain ⟨e0, q0, rfl, -⟩ := zwr_at y4 w0 ha0
                    obtain ⟨e1, q1, rfl, k5⟩ := zwr_at y4 w1 ha1
                    exact va_copyi (ty := .int) hx hb (by rw [hsz, hy6, hml]) hown hlink (hts _ zcpy_n) (hts _ zcpy_s) (hts _ zsys_i) hKn.1 y2 y3 y1 a0 a1 0 0 q0 q1 rfl rfl rfl c2 c3 c4 hcc.1 hcc.2 (fun i _ => rfl) (by omega) (by omega) hdec
                      (fun H1 locs1 p1 p2 p3 => K hkc hks H1 locs1 ρ _ ls _ hρ ⟨p3, p1, p2, zwr_set y4 q1 ⟨rfl, k5⟩, y5, hy6⟩ h1)
                  · cases hv
                · next n0 f n1 g w0 w1 =>
                  split at hv
                  · next hcc =>
                    cases hv
                    obtain ⟨e0, q0, rfl, -⟩ := zwr_at y4 w0 ha0
                    obtain ⟨e1, q1, rfl, k5⟩ := zwr_at y4 w1 ha1
                    exact va_copyl (ty := .long) hx hb (by rw [hsz, hy6, hml]) hown hlink (hts _ zcpy_n) (hts _ zcpy_s) (hts _ zsys_i) hKn.1 y2 y3 y1 a0 a1 2 2 q0 q1 rfl rfl rfl c2 c3 c4 hcc.1 hcc.2 (fun i _ => rfl) (by omega) (by omega) hdec
                      (fun H1 locs1 p1 p2 p3 => K hkc hks H1 locs1 ρ _ ls _ hρ ⟨p3, p1, p2, zwr_set y4 q1 ⟨rfl, k5⟩, y5, hy6⟩ h1)
                  · cases hv
                · cases hv
              · cases hv
            · cases hn
          · cases hn
        · cases hn
      · cases hn
end ZK
