/-! THE MACHINE IS SOUND -/
section ZU
variable {l : Launch} {D : va_G} {tA : FieldType → ClassId} {adK adV : Nat → Nat} {b : Nat} {sc : Nat × (Nat → Int32)} {N0 : Nat}
variable {q : zMI} {d : Nat} {p : Program} {e : Env} {R : Room} {s : State} {m : MethodId} {args : Array Value} {below : List Frame} {meth : Method} {c : Code} {ρ0 : List Nat}
/-- what a call hands over -/
theorem zpre (C : zCt l D tA adK adV b sc N0 q d p R s m args meth c) {als : List Value} {ws : List zC} {H : Heap} {locs : List Loc} {ρ : List Nat} {wr : va_W} {ls : Array Slot} (hdy : zDy D tA adK adV b N0 q.nL als ws s H locs ρ wr ls) (as' : List Value) : PreS s H (zPc D tA adK adV b sc N0 wr as') as' := by
  obtain ⟨hx, hb, hml, hrt, hlk, hini, htab, hown, hts, hKn, hEx, hN0, hfr, hlo, hmc, hms, hnt, hqM⟩ := C
  obtain ⟨y1, y2, y3, y4, y5, y6⟩ := hdy
  refine ⟨zPc_blind, fun U hU hW => ⟨rfl, hKn.warm hW, ?_, ?_, ?_, y3⟩⟩
  · rw [hU]; exact (hEx.kept y1.2.1).moved hW.alike
  · rw [hU]; exact Nat.le_trans hN0 y1.1
  · rw [hU]; exact y2
theorem zroomR (C : zCt l D tA adK adV b sc N0 q d p R s m args meth c) {q1 : zMI} (h : q1.nL ≤ 40) (hd : 1 ≤ d) : (zrm (d - 1) q1).frames + 1 ≤ R.frames ∧ 8 + (q1.nL + 11) + (zrm (d - 1) q1).locals ≤ R.locals := by
  obtain ⟨hx, hb, hml, hrt, hlk, hini, htab, hown, hts, hKn, hEx, hN0, hfr, hlo, hmc, hms, hnt, hqM⟩ := C
  simp only [zrm]
  omega
theorem zsV {b0 : Nat} {as' rest' : List Value} : (Value.ref b0 :: as').reverse ++ rest' = as'.reverse ++ Value.ref b0 :: rest' := by simp
/-- a call of an instance method -/
theorem zcall_V (C : zCt l D tA adK adV b sc N0 q d p R s m args meth c) {mi pc j : Nat} (hq : zM[mi]? = some q) (hop : zop mi pc = some (.invokevirtual j, 3)) {q1 : zMI} (hq1 : zM[j]? = some q1) (hj : j < 234) {als as rest : List Value} {b0 : Nat} {ws : List zC} {kc ks : Nat} {Q : zPost} (hnp : as.length = q1.np) (hrc : zrcv ws b0 q1.cn = true) (hh : q1.hh = []) (hc : zcall (zSd l D tA adK adV b sc N0) q mi d pc 3 als rest (.ref b0 :: as) ws kc ks Q j q1) :
    zCo l D tA adK adV b N0 q p e R s m args below meth c ρ0 (vx_MQ below (zQc D tA adK adV b N0 ρ0 Q) (zXC D tA adK adV b N0 ρ0 Q) args s q.mc q.ms (zAr N0)) pc als (as.reverse ++ .ref b0 :: rest) ws kc ks := by
  obtain ⟨hd, hwd, hcat, hlen, hkc1, hks1, Q1, hP, hA⟩ := hc
  obtain ⟨r, hdec, hlen9, -, hres⟩ := zop_spec hq hop
  obtain ⟨k, rfl, hz, hV⟩ := zres_iv hres
  simp only [zil, Bool.and_eq_true, beq_iff_eq, decide_eq_true_eq] at hlen9
  have hT := ztake hq1 hj
  obtain ⟨g1, g2, g3, g4, g5⟩ := zMg_spec hT
  obtain ⟨v1, v2⟩ := zis_V hq1 hj hV
  intro hkc hks H locs ρ wr ls st hρ hdy hst
  obtain ⟨x1, x2, rfl, h1, h2⟩ := zsr_app hst
  obtain ⟨a', rest', rfl, ha, h3⟩ := zsr_ref h2
  have hargs : zsr (zad adK adV b) ρ (.ref b0 :: as) (.ref a' :: x1.reverse) := ⟨⟨a', rfl, ha⟩, by simpa using zsr_rev h1⟩
  have hM := zbody hq1 hj hP (C.2.2.2.2.2.2.2.2.2.2.2.2.2.2.2.2.1) hargs hcat hlen hdy.2.2.2.1
  have hsz := zlr_size hdy.2.2.2.2.1
  have hw := zsr_wd h3
  have hlink : Cond.methodLink (zCN.getD q.cn "") k q1.y ∈ zws := by have := zml_in hlen9.2 hz; rwa [zcy_m hq1 hj] at this
  have hrecv : ∃ cellB : Cell, H[a']? = some cellB ∧ cellB.vm.isStatics = false ∧ s.vm.findClass q1.y.cls = some cellB.cls := by
    rw [g3]
    unfold zrcv at hrc
    split at hrc
    · next hb0 =>
      rw [if_pos hb0] at ha
      split at hrc
      · next ci fs hw2 =>
        simp only [decide_eq_true_eq] at hrc
        obtain ⟨rfl, hci⟩ := hrc
        obtain ⟨e2, k2, fs', rfl, -⟩ := zwr_at hdy.2.2.2.1 hw2 ha
        exact va_recv (C.2.2.2.2.2.2.2.2.2.1).1 hdy.2.1 (zcl_at hci) k2
      · cases hrc
    · next hb0 =>
      rw [if_neg hb0] at ha
      simp only [decide_eq_true_eq] at hrc
      obtain ⟨hi, hcn⟩ := hrc
      rw [zad_K hb0 hi] at ha
      subst ha
      obtain ⟨cell, c1, c2, c3, c4⟩ := (((C.2.2.2.2.2.2.2.2.2.2.1).1 _ hi).1).kept hdy.1.2.1
      rw [hcn]
      exact ⟨cell, c1, c2, c3⟩
  have hpre := zpre C hdy (.ref a' :: x1.reverse)
  have hrun := vx_runV (H := H) (locs := locs) (cells := kc) (slots := ks) (below := below) (e := e) (meth := meth) (As := x1.reverse) (rest := rest') (b := a') (g := F0 m pc ls (x1 ++ .ref a' :: rest')) (Ts := zws) (own := zCN.getD q.cn "") (index := k) (n := q1.np) (nL := q.nL) (cc := q.cc) (bytes := q1.cc) (maxL := q1.nL) (ret := q1.rt) (C := q1.y.cls)
    ⟨C.1, C.2.1, C.2.2.1, C.2.2.2.2.2.2.2.1, C.2.2.2.2.2.2.2.2.1⟩ hM
    (cwV q1.np C.2.2.2.2.2.2.2.2.1 (zgood_in (fun w hw => by
        simp only [wsV, List.mem_append, List.mem_cons, List.not_mem_nil, or_false] at hw
        rcases hw with (rfl | rfl | rfl | rfl) | (rfl | hw)
        · exact hlink
        · exact v1
        · exact v2
        · exact zinit_in hT
        · exact zkw_in hT
        · exact hw)) (by rw [zkw, if_pos hh]) rfl rfl ⟨rfl, g2⟩ (zroomR C g4 hd))
    ⟨hpre.1, hrecv, hpre.2⟩ rfl (by rw [List.length_reverse, ← hnp]; have := zsr_len h1; simpa using this) (by show ls.size = _; rw [hsz, hdy.2.2.2.2.2]) (by simp) (by show 2 * 0 + _ ≤ _; omega) hdec ⟨by have := C.2.2.2.2.2.2.2.2.2.2.2.2.2.2.1; omega, by have := C.2.2.2.2.2.2.2.2.2.2.2.2.2.2.2.1; omega⟩
  exact zbehind C hq hA hkc1 hks1 hρ hdy h3 hrun
/-- a call of a static method -/
theorem zcall_S (C : zCt l D tA adK adV b sc N0 q d p R s m args meth c) {mi pc j : Nat} (hq : zM[mi]? = some q) (hop : zop mi pc = some (.invokestatic j, 3)) {q1 : zMI} (hq1 : zM[j]? = some q1) (hj : j < 234) {als as rest : List Value} {ws : List zC} {kc ks : Nat} {Q : zPost} (hnp : as.length = q1.np) (hc : zcall (zSd l D tA adK adV b sc N0) q mi d pc 3 als rest as ws kc ks Q j q1) :
    zCo l D tA adK adV b N0 q p e R s m args below meth c ρ0 (vx_MQ below (zQc D tA adK adV b N0 ρ0 Q) (zXC D tA adK adV b N0 ρ0 Q) args s q.mc q.ms (zAr N0)) pc als (as.reverse ++ rest) ws kc ks := by
  obtain ⟨hd, hwd, hcat, hlen, hkc1, hks1, Q1, hP, hA⟩ := hc
  obtain ⟨r, hdec, hlen9, -, hres⟩ := zop_spec hq hop
  obtain ⟨k, rfl, hz, hV⟩ := zres_is hres
  simp only [zil, Bool.and_eq_true, beq_iff_eq, decide_eq_true_eq] at hlen9
  have hT := ztake hq1 hj
  obtain ⟨g1, g2, g3, g4, g5⟩ := zMg_spec hT
  have v1 := zis_S hq1 hj (hV.resolve_right (by omega))
  intro hkc hks H locs ρ wr ls st hρ hdy hst
  obtain ⟨x1, rest', rfl, h1, h3⟩ := zsr_app hst
  have hargs : zsr (zad adK adV b) ρ as x1.reverse := by simpa using zsr_rev h1
  have hM := zbody hq1 hj hP (C.2.2.2.2.2.2.2.2.2.2.2.2.2.2.2.2.1) hargs hcat hlen hdy.2.2.2.1
  have hsz := zlr_size hdy.2.2.2.2.1
  have hw := zsr_wd h3
  have hlink : Cond.methodLink (zCN.getD q.cn "") k q1.y ∈ zws := by have := zml_in hlen9.2 hz; rwa [zcy_m hq1 hj] at this
  have hgd : GoodIn zws (va_wsS (zCN.getD q.cn "") k q1.y (zkw q1 :: zws)) := zgood_in (fun w hw => by
        simp only [va_wsS, List.mem_append, List.mem_cons, List.not_mem_nil, or_false] at hw
        rcases hw with (rfl | rfl | rfl) | (rfl | hw)
        · exact hlink
        · exact v1
        · exact zinit_in hT
        · exact zkw_in hT
        · exact hw)
  have hlenA : x1.reverse.length = q1.np := by rw [List.length_reverse, ← hnp]; have := zsr_len h1; simpa using this
  have hfit : kc + q1.mc ≤ R.cells ∧ ks + q1.ms ≤ R.slots := ⟨by have := C.2.2.2.2.2.2.2.2.2.2.2.2.2.2.1; omega, by have := C.2.2.2.2.2.2.2.2.2.2.2.2.2.2.2.1; omega⟩
  by_cases hh : q1.hh = []
  · have hrun := vx_runS (H := H) (locs := locs) (cells := kc) (slots := ks) (below := below) (e := e) (meth := meth) (As := x1.reverse) (rest := rest') (g := F0 m pc ls (x1 ++ rest')) (Ts := zws) (own := zCN.getD q.cn "") (index := k) (n := q1.np) (nL := q.nL) (cc := q.cc) (bytes := q1.cc) (maxL := q1.nL) (ret := q1.rt)
      ⟨C.1, C.2.1, C.2.2.1, C.2.2.2.2.2.2.2.1, C.2.2.2.2.2.2.2.2.1⟩ hM (va_cwS q1.np C.2.2.2.2.2.2.2.2.1 hgd (by rw [zkw, if_pos hh]) rfl rfl g2 (zroomR C g4 hd)) (zpre C hdy x1.reverse) rfl hlenA (by show ls.size = _; rw [hsz, hdy.2.2.2.2.2]) (by simp) (by show 2 * 0 + _ ≤ _; omega) hdec hfit
    exact zbehind C hq hA hkc1 hks1 hρ hdy h3 hrun
  · have hrun := vx_runSX (H := H) (locs := locs) (cells := kc) (slots := ks) (below := below) (e := e) (meth := meth) (As := x1.reverse) (rest := rest') (g := F0 m pc ls (x1 ++ rest')) (Ts := zws) (own := zCN.getD q.cn "") (index := k) (n := q1.np) (nL := q.nL) (cc := q.cc) (bytes := q1.cc) (maxL := q1.nL) (ret := q1.rt) (hh := q1.hh)
      ⟨C.1, C.2.1, C.2.2.1, C.2.2.2.2.2.2.2.1, C.2.2.2.2.2.2.2.2.1⟩ hM (vx_cwSW q1.np C.2.2.2.2.2.2.2.2.1 hgd (by rw [zkw, if_neg hh]) rfl rfl g2 (zroomR C g4 hd)) (zpre C hdy x1.reverse) rfl hlenA (by show ls.size = _; rw [hsz, hdy.2.2.2.2.2]) (by simp) (by show 2 * 0 + _ ≤ _; omega) hdec hfit
    exact zbehind C hq hA hkc1 hks1 hρ hdy h3 hrun
theorem zmetOf {y : MethodName} {ws : List Cond} {rm : Room} {Pc : Array Value → State → Prop} {Qc : Array Value → State → Outcome → State → Prop} {XC : String → State → State → Prop} {mc ms : Nat} {free : Addr → Prop} (h : vx_Met l y ws rm Pc Qc XC mc ms free) (hX : ∀ E st t, ¬ XC E st t) : Met l y ws rm Pc Qc mc ms free := by
  intro p e ha hc hk s m args below hf happ hP hK
  obtain ⟨n, o, h1, h2, h3, h4⟩ := h p e ha hc hk s m args below hf happ hP hK
  refine ⟨n, o, h1, h2, h3, ?_⟩
  rcases h4 with h4 | ⟨q, -, E, ce, L, h5, -⟩
  · exact h4
  · exact (hX _ _ _ h5).elim
/-- a call of a constructor -/
theorem zcall_I (C : zCt l D tA adK adV b sc N0 q d p R s m args meth c) {mi pc j j0 : Nat} (hq : zM[mi]? = some q) (hop : zop mi pc = some (.invokespecial j0, 3)) (hj0 : j0 = j ∨ j0 = 2000 + j) {q1 : zMI} (hq1 : zM[j]? = some q1) (hj : j < 234) (hini : q1.ini = true) (hh : q1.hh = []) {als as rest : List Value} {b0 : Nat} {ws : List zC} {kc ks : Nat} {Q : zPost} (hnp : as.length = q1.np) (hd : 1 ≤ d) (hwd : zwd rest ≤ 8) (hcl : zwd as = as.length ∧ as.length + 1 ≤ q1.nL) (hkc1 : kc + q1.mc ≤ q.mc) (hks1 : ks + q1.ms ≤ q.ms) {Q1 : zPost}
    (hP : zSd l D tA adK adV b sc N0 j (d - 1) 0 (zloc q1 (.ref b0 :: as)) [] ws 0 0 Q1) (hA : ∀ v ws1, Q1 (.inl v) ws1 → zSd l D tA adK adV b sc N0 mi d (pc + 3) als (v.toList ++ rest) ws1 (kc + q1.mc) (ks + q1.ms) Q) (hX : ∀ x ws1, ¬ Q1 (.inr x) ws1) :
    zCo l D tA adK adV b N0 q p e R s m args below meth c ρ0 (vx_MQ below (zQc D tA adK adV b N0 ρ0 Q) (zXC D tA adK adV b N0 ρ0 Q) args s q.mc q.ms (zAr N0)) pc als (as.reverse ++ .ref b0 :: rest) ws kc ks := by
  obtain ⟨r, hdec, hlen9, -, hres⟩ := zop_spec hq hop
  obtain ⟨k, rfl, hz⟩ := zres_ip hres
  simp only [zil, Bool.and_eq_true, beq_iff_eq, decide_eq_true_eq] at hlen9
  have hT := ztake hq1 hj
  obtain ⟨g1, g2, g3, g4, g5⟩ := zMg_spec hT
  have hM9 : q1 ∈ zM := List.mem_of_getElem? hq1
  obtain ⟨hnm, hrt⟩ := (zMn_spec hM9).2.2.1 hini
  intro hkc hks H locs ρ wr ls st hρ hdy hst
  obtain ⟨x1, x2, rfl, h1, h2⟩ := zsr_app hst
  obtain ⟨a', rest', rfl, ha, h3⟩ := zsr_ref h2
  have hargs : zsr (zad adK adV b) ρ (.ref b0 :: as) (.ref a' :: x1.reverse) := ⟨⟨a', rfl, ha⟩, by simpa using zsr_rev h1⟩
  have hM0 := zbody hq1 hj hP (C.2.2.2.2.2.2.2.2.2.2.2.2.2.2.2.2.1) hargs (by have := hcl.1; simp only [zwd, List.map_cons, List.sum_cons, List.length_cons] at this ⊢; show 1 + _ = _; omega) (by simpa using hcl.2) hdy.2.2.2.1
  have hM := zmetOf hM0 (fun E st t hx => by obtain ⟨x, ws1, -, -, -, hx, -⟩ := hx; exact hX x ws1 hx)
  have hsz := zlr_size hdy.2.2.2.2.1
  have hw := zsr_wd h3
  have hlenA : x1.reverse.length = q1.np := by rw [List.length_reverse, ← hnp]; have := zsr_len h1; simpa using this
  have hfit : kc + q1.mc ≤ R.cells ∧ ks + q1.ms ≤ R.slots := ⟨by have := C.2.2.2.2.2.2.2.2.2.2.2.2.2.2.1; omega, by have := C.2.2.2.2.2.2.2.2.2.2.2.2.2.2.2.1; omega⟩
  have hts := C.2.2.2.2.2.2.2.2.1
  have hgd : GoodIn zws (zkw q1 :: zws) := zgood_in (fun w hw => by
        rcases List.mem_cons.mp hw with rfl | hw
        · exact zkw_in hT
        · exact hw)
  have hkw : (zkw q1 :: zws) = Cond.code q1.y q1.cc q1.nL none :: zws := by rw [zkw, if_pos hh, hrt]
  have fin : ∀ (hr : va_Run p l e R s m args below meth c H locs kc ks q1.mc q1.ms (F0 m pc ls (x1 ++ .ref a' :: rest')) rest' (zQc D tA adK adV b N0 ρ Q1 (Value.ref a' :: x1.reverse).toArray) (zAr N0)), W p l e R s m args below meth c H locs kc ks (vx_MQ below (zQc D tA adK adV b N0 ρ0 Q) (zXC D tA adK adV b N0 ρ0 Q) args s q.mc q.ms (zAr N0)) (F0 m pc ls (x1 ++ .ref a' :: rest')) := by
    intro hr
    have hr' : vx_Run p l e R s m args below meth c H locs kc ks q1.mc q1.ms (F0 m pc ls (x1 ++ .ref a' :: rest')) rest' (zQc D tA adK adV b N0 ρ Q1 (Value.ref a' :: x1.reverse).toArray) (zXC D tA adK adV b N0 ρ Q1) (zAr N0) := fun T hT X => Or.inl (hr T hT X)
    exact zbehind (q1 := q1) (Q1 := Q1) C hq ⟨hA, fun x ws1 hx => (hX x ws1 hx).elim⟩ hkc1 hks1 hρ hdy h3 hr'
  have hS : CallFix p m c q.cc q.nL s args zws (zCN.getD q.cn "") := ⟨C.1, C.2.1, C.2.2.1, C.2.2.2.2.2.2.2.1, hts⟩
  have hpre := zpre C hdy (.ref a' :: x1.reverse)
  rcases hz with ⟨hz, hI⟩ | ⟨j1, hj1, hz, hI⟩
  · have hjj : j0 = j := by
      have := List.all_eq_true.mp zML_r _ (zlk_mem hz)
      simp only [decide_eq_true_eq] at this
      omega
    subst hjj
    have v1 := zis_I hq1 hj (hI.resolve_right (by omega))
    have hlink : Cond.methodLink (zCN.getD q.cn "") k q1.y ∈ zws := by have := zml_in hlen9.2 hz; rwa [zcy_m hq1 hj] at this
    exact fin (va_runI hS hM (cwI q1.np hts hgd hkw rfl rfl (hts _ (zinit_in hT)) (hts _ hlink) (hts _ v1) hnm g2 (zroomR C g4 hd)) hpre rfl hlenA (by show ls.size = _; rw [hsz, hdy.2.2.2.2.2]) (by simp) (by show 2 * 0 + _ ≤ _; omega) hdec hfit)
  · have hjj : j1 = j := by
      have := List.all_eq_true.mp zNL_r _ (zlk_mem hz)
      simp only [decide_eq_true_eq] at this
      omega
    subst hjj
    have v1 := zis_I hq1 hj hI
    have hnw : va_Nw (.methodLinkNest (zCN.getD q.cn "") k q1.y "CobblePorts") s := by
      have h5 : znc (q.cn * 10000 + k, j1) ∈ zxw := List.mem_append_left _ (List.mem_map.mpr ⟨_, zlk_mem hz, rfl⟩)
      have h6 := (C.2.2.2.2.2.2.2.2.2.1).2.2.1 _ h5
      simpa only [znc, (zdiv (a := q.cn) hlen9.2).1, (zdiv (a := q.cn) hlen9.2).2, zcy_m hq1 hj] using h6
    exact fin (va_runIN hS hM ⟨va_cnB q1.np hts hgd hkw rfl rfl hnw (hts _ (zinit_in hT)) g2 (zroomR C g4 hd), hnm, hts _ v1⟩ hpre rfl hlenA (by show ls.size = _; rw [hsz, hdy.2.2.2.2.2]) (by simp) (by show 2 * 0 + _ ≤ _; omega) hdec hfit)
end ZU
