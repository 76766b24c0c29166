/-! rows: read, written, made -/
section ZA
variable {l : Launch} {D : va_G} {tA : FieldType → ClassId} {adK adV : Nat → Nat} {b : Nat} {sc : Nat × (Nat → Int32)} {N0 : Nat} {q : zMI} {d : Nat} {p : Program} {e : Env} {R : Room} {s : State} {m : MethodId} {args : Array Value} {below : List Frame} {meth : Method} {c : Code} {ρ0 : List Nat} {Qm : State → Prop}
variable {pc pc1 n : Nat} {als als1 ast ast1 : List Value} {ws ws1 : List zC} {kc kc1 ks ks1 : Nat}
/-- a row that is only read -/
theorem zext_T (hEx : zEx adK adV b sc N0 s s.heap) {H : Heap} {locs : List Loc} (hS : va_S (zAr N0) s.heap H locs) {a k : Nat} {ty : FieldType} {f : Nat → Int32} (h0 : ¬ a < 1000) (h : zext sc a = some (ty, k, f)) : va_T ty (zad adK adV b a) k (fun j => .int (f j)) (zAr N0) s H := by
  unfold zext at h
  split at h
  · next h3 =>
    cases h
    have := hEx.2.1.kept hS.2.1
    have h1 : ¬ (3000 : Nat) < 2000 := by decide
    have h2 : ¬ (3000 : Nat) < 3000 := by decide
    subst h3
    simpa only [zad, if_neg h1, if_neg h2] using this
  · split at h
    · next h3 =>
      simp only [Option.some.injEq, Prod.mk.injEq] at h
      obtain ⟨rfl, rfl, rfl⟩ := h
      have hi : (a - 1000) - 1000 < 48 := by omega
      have e1 : a - 1000 - 1000 = a - 2000 := by omega
      have e2 : a - 1000 + 1000 = a := by omega
      have e3 : ¬ a - 1000 < 1000 := by omega
      have h5 := zad_V (adK := adK) (adV := adV) (b := b) e3 hi
      rw [e1, e2] at h5
      rw [h5]
      exact ((hEx.1 (a - 2000) h3.2).2.2.2).kept hS.2.1
    · cases h
theorem zi_iaload (C : zCt l D tA adK adV b sc N0 q d p R s m args meth c) (hdec : decode q.cc pc = .ok (.iaload, 1)) (hn : znx sc q d .iaload 1 pc als ast ws kc ks = some (pc1, als1, ast1, ws1, kc1, ks1)) (K : zCo l D tA adK adV b N0 q p e R s m args below meth c ρ0 Qm pc1 als1 ast1 ws1 kc1 ks1) : zCo l D tA adK adV b N0 q p e R s m args below meth c ρ0 Qm pc als ast ws kc ks := by
  obtain ⟨hx, hb, hml, hrt, hlk, hini, htab, hown, hts, hKn, hEx, hN0, hfr, hlo, hmc, hms, hnt, hqM⟩ := C
  simp only [znx] at hn
  split at hn
  · next i a r =>
    split at hn
    · next v hv =>
      simp only [Option.some.injEq, Prod.mk.injEq] at hn
      obtain ⟨rfl, rfl, rfl, rfl, rfl, rfl⟩ := hn
      intro hkc hks H locs ρ wr ls st hρ hdy hst
      obtain ⟨t1, rfl, h0⟩ := zsr_int hst
      obtain ⟨a', s1, rfl, ha, h1⟩ := zsr_ref h0
      unfold zald at hv
      split at hv
      · next ha0 =>
        rw [if_pos ha0] at ha
        split at hv
        · next ty' k f hw =>
          split at hv
          · next hc =>
            obtain ⟨rfl, hin⟩ := hc
            cases hv
            obtain ⟨e1, h2, rfl, -⟩ := zwr_at hdy.2.2.2.1 hw ha
            exact va_iald hx hb hKn.1 hdy.2.1 a 0 h2 rfl (zin_in.mp hin) hdec (K hkc hks H locs ρ wr ls _ hρ hdy ⟨rfl, h1⟩)
          · cases hv
        · cases hv
      · next ha0 =>
        rw [if_neg ha0] at ha
        split at hv
        · next ty' k f hw =>
          split at hv
          · next hc =>
            obtain ⟨rfl, hin⟩ := hc
            cases hv
            subst ha
            obtain ⟨cell, c1, c2, c3, c4, c5, c6, c7⟩ := zext_T hEx hdy.1 ha0 hw
            have hin := zin_in.mp hin
            exact W.iald (v := .int (f i.toNatClampNeg)) hx hb c1 c2 c3 (fun h => hin (h.imp id (fun h => Nat.le_trans c4 h))) (c6 _ (Nat.not_le.mp fun h => hin (Or.inr h))) rfl rfl hdec (K hkc hks H locs ρ wr ls _ hρ hdy ⟨rfl, h1⟩)
          · cases hv
        · cases hv
    · cases hn
  · cases hn
theorem zi_baload (C : zCt l D tA adK adV b sc N0 q d p R s m args meth c) (hdec : decode q.cc pc = .ok (.baload, 1)) (hn : znx sc q d .baload 1 pc als ast ws kc ks = some (pc1, als1, ast1, ws1, kc1, ks1)) (K : zCo l D tA adK adV b N0 q p e R s m args below meth c ρ0 Qm pc1 als1 ast1 ws1 kc1 ks1) : zCo l D tA adK adV b N0 q p e R s m args below meth c ρ0 Qm pc als ast ws kc ks := by
  obtain ⟨hx, hb, hml, hrt, hlk, hini, htab, hown, hts, hKn, hEx, hN0, hfr, hlo, hmc, hms, hnt, hqM⟩ := C
  simp only [znx] at hn
  split at hn
  · next i a r =>
    split at hn
    · next v hv =>
      simp only [Option.some.injEq, Prod.mk.injEq] at hn
      obtain ⟨rfl, rfl, rfl, rfl, rfl, rfl⟩ := hn
      intro hkc hks H locs ρ wr ls st hρ hdy hst
      obtain ⟨t1, rfl, h0⟩ := zsr_int hst
      obtain ⟨a', s1, rfl, ha, h1⟩ := zsr_ref h0
      unfold zald at hv
      split at hv
      · next ha0 =>
        rw [if_pos ha0] at ha
        split at hv
        · next ty' k f hw =>
          split at hv
          · next hc =>
            obtain ⟨rfl, hin⟩ := hc
            cases hv
            obtain ⟨e1, h2, rfl, -⟩ := zwr_at hdy.2.2.2.1 hw ha
            exact va_bald hx hb hKn.1 hdy.2.1 a 1 h2 rfl (zin_in.mp hin) hdec (K hkc hks H locs ρ wr ls _ hρ hdy ⟨rfl, h1⟩)
          · cases hv
        · cases hv
      · next ha0 =>
        rw [if_neg ha0] at ha
        split at hv
        · next ty' k f hw =>
          split at hv
          · next hc =>
            obtain ⟨rfl, hin⟩ := hc
            cases hv
            subst ha
            obtain ⟨cell, c1, c2, c3, c4, c5, c6, c7⟩ := zext_T hEx hdy.1 ha0 hw
            have hin := zin_in.mp hin
            exact W.bald (v := .int (f i.toNatClampNeg)) hx hb c1 c2 c3 (fun h => hin (h.imp id (fun h => Nat.le_trans c4 h))) (c6 _ (Nat.not_le.mp fun h => hin (Or.inr h))) rfl rfl hdec (K hkc hks H locs ρ wr ls _ hρ hdy ⟨rfl, h1⟩)
          · cases hv
        · cases hv
    · cases hn
  · cases hn
theorem zi_laload (C : zCt l D tA adK adV b sc N0 q d p R s m args meth c) (hdec : decode q.cc pc = .ok (.laload, 1)) (hn : znx sc q d .laload 1 pc als ast ws kc ks = some (pc1, als1, ast1, ws1, kc1, ks1)) (K : zCo l D tA adK adV b N0 q p e R s m args below meth c ρ0 Qm pc1 als1 ast1 ws1 kc1 ks1) : zCo l D tA adK adV b N0 q p e R s m args below meth c ρ0 Qm pc als ast ws kc ks := by
  obtain ⟨hx, hb, hml, hrt, hlk, hini, htab, hown, hts, hKn, hEx, hN0, hfr, hlo, hmc, hms, hnt, hqM⟩ := C
  simp only [znx] at hn
  split at hn
  · next i a r =>
    split at hn
    · next v hv =>
      simp only [Option.some.injEq, Prod.mk.injEq] at hn
      obtain ⟨rfl, rfl, rfl, rfl, rfl, rfl⟩ := hn
      intro hkc hks H locs ρ wr ls st hρ hdy hst
      obtain ⟨t1, rfl, h0⟩ := zsr_int hst
      obtain ⟨a', s1, rfl, ha, h1⟩ := zsr_ref h0
      unfold zlal at hv
      split at hv
      · next ha0 =>
        rw [if_pos ha0] at ha
        split at hv
        · next k f hw =>
          split at hv
          · next hin =>
            cases hv
            obtain ⟨e1, h2, rfl, -⟩ := zwr_at hdy.2.2.2.1 hw ha
            exact va_lald hx hb hKn.1 hdy.2.1 a 2 h2 rfl (zin_in.mp hin) hdec (K hkc hks H locs ρ wr ls _ hρ hdy ⟨rfl, h1⟩)
          · cases hv
        · cases hv
      · cases hv
    · cases hn
  · cases hn
theorem zi_aaload (C : zCt l D tA adK adV b sc N0 q d p R s m args meth c) (hdec : decode q.cc pc = .ok (.aaload, 1)) (hn : znx sc q d .aaload 1 pc als ast ws kc ks = some (pc1, als1, ast1, ws1, kc1, ks1)) (K : zCo l D tA adK adV b N0 q p e R s m args below meth c ρ0 Qm pc1 als1 ast1 ws1 kc1 ks1) : zCo l D tA adK adV b N0 q p e R s m args below meth c ρ0 Qm pc als ast ws kc ks := by
  obtain ⟨hx, hb, hml, hrt, hlk, hini, htab, hown, hts, hKn, hEx, hN0, hfr, hlo, hmc, hms, hnt, hqM⟩ := C
  simp only [znx] at hn
  split at hn
  · next i a r =>
    split at hn
    · next v hv =>
      simp only [Option.some.injEq, Prod.mk.injEq] at hn
      obtain ⟨rfl, rfl, rfl, rfl, rfl, rfl⟩ := hn
      intro hkc hks H locs ρ wr ls st hρ hdy hst
      obtain ⟨t1, rfl, h0⟩ := zsr_int hst
      obtain ⟨a', s1, rfl, ha, h1⟩ := zsr_ref h0
      unfold zaal at hv
      split at hv
      · next ha0 =>
        rw [if_pos ha0] at ha
        split at hv
        · next nm k f hw =>
          split at hv
          · next hin =>
            split at hv
            · next j hj =>
              cases hv
              obtain ⟨e1, h2, f', rfl, h3, t, ht⟩ := zwr_at hdy.2.2.2.1 hw ha
              have h4 := h3 i.toNatClampNeg
              rw [hj] at h4
              exact va_aldq hx hb hKn.1 hdy.2.1 a t h2 ht (zin_in.mp hin) hdec (K hkc hks H locs ρ wr ls _ hρ hdy ⟨h4, h1⟩)
            · cases hv
          · cases hv
        · cases hv
      · cases hv
    · cases hn
  · cases hn
theorem zi_arraylength (C : zCt l D tA adK adV b sc N0 q d p R s m args meth c) (hdec : decode q.cc pc = .ok (.arraylength, 1)) (hn : znx sc q d .arraylength 1 pc als ast ws kc ks = some (pc1, als1, ast1, ws1, kc1, ks1)) (K : zCo l D tA adK adV b N0 q p e R s m args below meth c ρ0 Qm pc1 als1 ast1 ws1 kc1 ks1) : zCo l D tA adK adV b N0 q p e R s m args below meth c ρ0 Qm pc als ast ws kc ks := by
  obtain ⟨hx, hb, hml, hrt, hlk, hini, htab, hown, hts, hKn, hEx, hN0, hfr, hlo, hmc, hms, hnt, hqM⟩ := C
  simp only [znx] at hn
  split at hn
  · next a r =>
    split at hn
    · next v hv =>
      simp only [Option.some.injEq, Prod.mk.injEq] at hn
      obtain ⟨rfl, rfl, rfl, rfl, rfl, rfl⟩ := hn
      intro hkc hks H locs ρ wr ls st hρ hdy hst
      obtain ⟨a', s1, rfl, ha, h1⟩ := zsr_ref hst
      unfold zlen at hv
      split at hv
      · next ha0 =>
        rw [if_pos ha0] at ha
        split at hv
        · next ty x hw =>
          cases hv
          obtain ⟨e1, h2, h3⟩ := zwr_at hdy.2.2.2.1 hw ha
          obtain ⟨k, f | f | f | f | f⟩ := x
          · obtain ⟨rfl, t, ht⟩ := h3
            exact va_alen hx hb hKn.1 hdy.2.1 a t h2 ht rfl hdec (K hkc hks H locs ρ wr ls _ hρ hdy ⟨rfl, h1⟩)
          · obtain ⟨rfl, t, ht⟩ := h3
            exact va_alen hx hb hKn.1 hdy.2.1 a t h2 ht rfl hdec (K hkc hks H locs ρ wr ls _ hρ hdy ⟨rfl, h1⟩)
          · exact h3.elim
          · exact h3.elim
          · obtain ⟨f', rfl, -, t, ht⟩ := h3
            exact va_alen hx hb hKn.1 hdy.2.1 a t h2 ht rfl hdec (K hkc hks H locs ρ wr ls _ hρ hdy ⟨rfl, h1⟩)
        · cases hv
      · next ha0 =>
        rw [if_neg ha0] at ha
        split at hv
        · next ty' k f hw =>
          cases hv
          subst ha
          obtain ⟨cell, c1, c2, c3, c4, c5, c6, c7⟩ := zext_T hEx hdy.1 ha0 hw
          exact W.alen (n := Int32.ofNat k) hx hb c1 c2 c5 rfl rfl hdec (K hkc hks H locs ρ wr ls _ hρ hdy ⟨rfl, h1⟩)
        · cases hv
    · cases hn
  · cases hn
theorem zi_iastore (C : zCt l D tA adK adV b sc N0 q d p R s m args meth c) (hdec : decode q.cc pc = .ok (.iastore, 1)) (hn : znx sc q d .iastore 1 pc als ast ws kc ks = some (pc1, als1, ast1, ws1, kc1, ks1)) (K : zCo l D tA adK adV b N0 q p e R s m args below meth c ρ0 Qm pc1 als1 ast1 ws1 kc1 ks1) : zCo l D tA adK adV b N0 q p e R s m args below meth c ρ0 Qm pc als ast ws kc ks := by
  obtain ⟨hx, hb, hml, hrt, hlk, hini, htab, hown, hts, hKn, hEx, hN0, hfr, hlo, hmc, hms, hnt, hqM⟩ := C
  simp only [znx] at hn
  split at hn
  · next x i a r =>
    split at hn
    · next ws' hv =>
      simp only [Option.some.injEq, Prod.mk.injEq] at hn
      obtain ⟨rfl, rfl, rfl, rfl, rfl, rfl⟩ := hn
      intro hkc hks H locs ρ wr ls st hρ hdy hst
      obtain ⟨t0, rfl, h9⟩ := zsr_int hst
      obtain ⟨t1, rfl, h0⟩ := zsr_int h9
      obtain ⟨a', s1, rfl, ha, h1⟩ := zsr_ref h0
      obtain ⟨y1, y2, y3, y4, y5, y6⟩ := hdy
      unfold zast at hv
      split at hv
      · next ha0 =>
        rw [if_pos ha0] at ha
        split at hv
        · next ty' k f hw =>
          split at hv
          · next hc =>
            obtain ⟨rfl, hin⟩ := hc
            cases hv
            obtain ⟨e1, h2, rfl, h3⟩ := zwr_at y4 hw ha
            exact va_iast hx hb hKn.1 y2 y3 y1 a 0 h2 rfl (zin_in.mp hin) hdec (fun H1 locs1 p1 p2 p3 => K hkc hks H1 locs1 ρ _ ls _ hρ ⟨p3, p1, p2, zwr_set y4 h2 ⟨rfl, h3⟩, y5, y6⟩ h1)
          · cases hv
        · cases hv
      · cases hv
    · cases hn
  · cases hn
theorem zi_bastore (C : zCt l D tA adK adV b sc N0 q d p R s m args meth c) (hdec : decode q.cc pc = .ok (.bastore, 1)) (hn : znx sc q d .bastore 1 pc als ast ws kc ks = some (pc1, als1, ast1, ws1, kc1, ks1)) (K : zCo l D tA adK adV b N0 q p e R s m args below meth c ρ0 Qm pc1 als1 ast1 ws1 kc1 ks1) : zCo l D tA adK adV b N0 q p e R s m args below meth c ρ0 Qm pc als ast ws kc ks := by
  obtain ⟨hx, hb, hml, hrt, hlk, hini, htab, hown, hts, hKn, hEx, hN0, hfr, hlo, hmc, hms, hnt, hqM⟩ := C
  simp only [znx] at hn
  split at hn
  · next x i a r =>
    split at hn
    · next ws' hv =>
      simp only [Option.some.injEq, Prod.mk.injEq] at hn
      obtain ⟨rfl, rfl, rfl, rfl, rfl, rfl⟩ := hn
      intro hkc hks H locs ρ wr ls st hρ hdy hst
      obtain ⟨t0, rfl, h9⟩ := zsr_int hst
      obtain ⟨t1, rfl, h0⟩ := zsr_int h9
      obtain ⟨a', s1, rfl, ha, h1⟩ := zsr_ref h0
      obtain ⟨y1, y2, y3, y4, y5, y6⟩ := hdy
      unfold zast at hv
      split at hv
      · next ha0 =>
        rw [if_pos ha0] at ha
        split at hv
        · next ty' k f hw =>
          split at hv
          · next hc =>
            obtain ⟨rfl, hin⟩ := hc
            cases hv
            obtain ⟨e1, h2, rfl, h3⟩ := zwr_at y4 hw ha
            exact va_bast hx hb hKn.1 y2 y3 y1 a 1 h2 rfl (zin_in.mp hin) hdec (fun H1 locs1 p1 p2 p3 => K hkc hks H1 locs1 ρ _ ls _ hρ ⟨p3, p1, p2, zwr_set y4 h2 ⟨rfl, h3⟩, y5, y6⟩ h1)
          · cases hv
        · cases hv
      · cases hv
    · cases hn
  · cases hn
theorem zi_lastore (C : zCt l D tA adK adV b sc N0 q d p R s m args meth c) (hdec : decode q.cc pc = .ok (.lastore, 1)) (hn : znx sc q d .lastore 1 pc als ast ws kc ks = some (pc1, als1, ast1, ws1, kc1, ks1)) (K : zCo l D tA adK adV b N0 q p e R s m args below meth c ρ0 Qm pc1 als1 ast1 ws1 kc1 ks1) : zCo l D tA adK adV b N0 q p e R s m args below meth c ρ0 Qm pc als ast ws kc ks := by
  obtain ⟨hx, hb, hml, hrt, hlk, hini, htab, hown, hts, hKn, hEx, hN0, hfr, hlo, hmc, hms, hnt, hqM⟩ := C
  simp only [znx] at hn
  split at hn
  · next x i a r =>
    split at hn
    · next ws' hv =>
      simp only [Option.some.injEq, Prod.mk.injEq] at hn
      obtain ⟨rfl, rfl, rfl, rfl, rfl, rfl⟩ := hn
      intro hkc hks H locs ρ wr ls st hρ hdy hst
      obtain ⟨t0, rfl, h9⟩ := zsr_long hst
      obtain ⟨t1, rfl, h0⟩ := zsr_int h9
      obtain ⟨a', s1, rfl, ha, h1⟩ := zsr_ref h0
      obtain ⟨y1, y2, y3, y4, y5, y6⟩ := hdy
      unfold zlas at hv
      split at hv
      · next ha0 =>
        rw [if_pos ha0] at ha
        split at hv
        · next k f hw =>
          split at hv
          · next hin =>
            cases hv
            obtain ⟨e1, h2, rfl, h3⟩ := zwr_at y4 hw ha
            exact va_last hx hb hKn.1 y2 y3 y1 a 2 h2 rfl (zin_in.mp hin) hdec (fun H1 locs1 p1 p2 p3 => K hkc hks H1 locs1 ρ _ ls _ hρ ⟨p3, p1, p2, zwr_set y4 h2 ⟨rfl, h3⟩, y5, y6⟩ h1)
          · cases hv
        · cases hv
      · cases hv
    · cases hn
  · cases hn
theorem zi_aastore (C : zCt l D tA adK adV b sc N0 q d p R s m args meth c) (hdec : decode q.cc pc = .ok (.aastore, 1)) (hn : znx sc q d .aastore 1 pc als ast ws kc ks = some (pc1, als1, ast1, ws1, kc1, ks1)) (K : zCo l D tA adK adV b N0 q p e R s m args below meth c ρ0 Qm pc1 als1 ast1 ws1 kc1 ks1) : zCo l D tA adK adV b N0 q p e R s m args below meth c ρ0 Qm pc als ast ws kc ks := by
  obtain ⟨hx, hb, hml, hrt, hlk, hini, htab, hown, hts, hKn, hEx, hN0, hfr, hlo, hmc, hms, hnt, hqM⟩ := C
  simp only [znx] at hn
  split at hn
  · next k i a r =>
    split at hn
    · next ws' hv =>
      simp only [Option.some.injEq, Prod.mk.injEq] at hn
      obtain ⟨rfl, rfl, rfl, rfl, rfl, rfl⟩ := hn
      intro hkc hks H locs ρ wr ls st hρ hdy hst
      obtain ⟨k', t0, rfl, hk, h9⟩ := zsr_ref hst
      obtain ⟨t1, rfl, h0⟩ := zsr_int h9
      obtain ⟨a', s1, rfl, ha, h1⟩ := zsr_ref h0
      obtain ⟨y1, y2, y3, y4, y5, y6⟩ := hdy
      unfold zaas at hv
      split at hv
      · next ha0 =>
        rw [if_pos ha0] at ha
        split at hv
        · next nm j f hw =>
          split at hv
          · next hc =>
            obtain ⟨hin, hmay⟩ := hc
            cases hv
            obtain ⟨e1, h2, f', rfl, h3, t, ht⟩ := zwr_at y4 hw ha
            have hany : va_Any nm s H k' := by
              unfold zmay at hmay
              split at hmay
              · next hk0 =>
                rw [if_pos hk0] at hk
                split at hmay
                · next ci fs hw2 =>
                  simp only [decide_eq_true_eq] at hmay
                  obtain ⟨hci, rfl⟩ := hmay
                  obtain ⟨e2, g2, fs', rfl, -⟩ := zwr_at y4 hw2 hk
                  exact va_rAny hKn.1 y2 g2 (zcl_at hci) (fun comp c0 q1 q2 => by cases q1.symm.trans q2; exact va_asg _ _)
                · cases hmay
              · next hk0 =>
                rw [if_neg hk0] at hk
                simp only [decide_eq_true_eq] at hmay
                obtain ⟨hi, rfl⟩ := hmay
                rw [zad_K hk0 hi] at hk
                subst hk
                obtain ⟨cell, c1, c2, c3, c4⟩ := ((hEx.1 _ hi).1).kept y1.2.1
                obtain ⟨kC, hkC, -⟩ := Vm.findClass_spec c3
                exact ⟨cell, c1, c2, ⟨kC, hkC⟩, fun comp h => by cases h.symm.trans c3; exact va_asg _ _⟩
            exact va_astqM hx hb hKn.1 y2 y3 y1 a t h2 ht hany (zin_in.mp hin) hdec (fun H1 locs1 p1 p2 p3 => K hkc hks H1 locs1 ρ _ ls _ hρ ⟨p3, p1, p2, zwr_set y4 h2 ⟨_, rfl, fun z => by
              by_cases hz : z = i.toNatClampNeg
              · subst hz
                simp only [va_up, if_pos rfl]
                exact ⟨k', rfl, hk⟩
              · simp only [va_up, if_neg hz]
                exact h3 z, t, ht⟩, y5, y6⟩ h1)
          · cases hv
        · cases hv
      · cases hv
    · cases hn
  · cases hn
end ZA
