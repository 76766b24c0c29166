/-! one law an instruction: where the machine here goes on, the JVM goes on -/
section ZI
variable {l : Launch} {D : va_G} {tA : FieldType → ClassId} {adK adV : Nat → Nat} {b : Nat} {sc : Nat × (Nat → Int32)} {N0 : Nat} {q : zMI} {d : Nat} {p : Program} {e : Env} {R : Room} {s : State} {m : MethodId} {args : Array Value} {below : List Frame} {meth : Method} {c : Code} {ρ0 : List Nat} {Qm : State → Prop}
variable {pc pc1 n : Nat} {als als1 ast ast1 : List Value} {ws ws1 : List zC} {kc kc1 ks ks1 : Nat}
theorem zi_iconst (C : zCt l D tA adK adV b sc N0 q d p R s m args meth c) {k : Int} (hdec : decode q.cc pc = .ok (.iconst k, 1)) (hn : znx sc q d (.iconst k) 1 pc als ast ws kc ks = some (pc1, als1, ast1, ws1, kc1, ks1)) (K : zCo l D tA adK adV b N0 q p e R s m args below meth c ρ0 Qm pc1 als1 ast1 ws1 kc1 ks1) : zCo l D tA adK adV b N0 q p e R s m args below meth c ρ0 Qm pc als ast ws kc ks := by
  simp only [znx] at hn
  simp only [Option.some.injEq, Prod.mk.injEq] at hn
  obtain ⟨rfl, rfl, rfl, rfl, rfl, rfl⟩ := hn
  intro hkc hks H locs ρ wr ls st hρ hdy hst
  exact lv_iconst C.1 C.2.1 hdec rfl (K hkc hks H locs ρ wr ls _ hρ hdy ⟨rfl, hst⟩)
theorem zi_bipush (C : zCt l D tA adK adV b sc N0 q d p R s m args meth c) {k : Int} (hdec : decode q.cc pc = .ok (.bipush k, 2)) (hn : znx sc q d (.bipush k) 2 pc als ast ws kc ks = some (pc1, als1, ast1, ws1, kc1, ks1)) (K : zCo l D tA adK adV b N0 q p e R s m args below meth c ρ0 Qm pc1 als1 ast1 ws1 kc1 ks1) : zCo l D tA adK adV b N0 q p e R s m args below meth c ρ0 Qm pc als ast ws kc ks := by
  simp only [znx] at hn
  simp only [Option.some.injEq, Prod.mk.injEq] at hn
  obtain ⟨rfl, rfl, rfl, rfl, rfl, rfl⟩ := hn
  intro hkc hks H locs ρ wr ls st hρ hdy hst
  exact lv_bipush C.1 C.2.1 hdec rfl (K hkc hks H locs ρ wr ls _ hρ hdy ⟨rfl, hst⟩)
theorem zi_sipush (C : zCt l D tA adK adV b sc N0 q d p R s m args meth c) {k : Int} (hdec : decode q.cc pc = .ok (.sipush k, 3)) (hn : znx sc q d (.sipush k) 3 pc als ast ws kc ks = some (pc1, als1, ast1, ws1, kc1, ks1)) (K : zCo l D tA adK adV b N0 q p e R s m args below meth c ρ0 Qm pc1 als1 ast1 ws1 kc1 ks1) : zCo l D tA adK adV b N0 q p e R s m args below meth c ρ0 Qm pc als ast ws kc ks := by
  simp only [znx] at hn
  simp only [Option.some.injEq, Prod.mk.injEq] at hn
  obtain ⟨rfl, rfl, rfl, rfl, rfl, rfl⟩ := hn
  intro hkc hks H locs ρ wr ls st hρ hdy hst
  exact lv_sipush C.1 C.2.1 hdec rfl (K hkc hks H locs ρ wr ls _ hρ hdy ⟨rfl, hst⟩)
theorem zi_lconst (C : zCt l D tA adK adV b sc N0 q d p R s m args meth c) {k : Fin 2} (hdec : decode q.cc pc = .ok (.lconst k, 1)) (hn : znx sc q d (.lconst k) 1 pc als ast ws kc ks = some (pc1, als1, ast1, ws1, kc1, ks1)) (K : zCo l D tA adK adV b N0 q p e R s m args below meth c ρ0 Qm pc1 als1 ast1 ws1 kc1 ks1) : zCo l D tA adK adV b N0 q p e R s m args below meth c ρ0 Qm pc als ast ws kc ks := by
  simp only [znx] at hn
  simp only [Option.some.injEq, Prod.mk.injEq] at hn
  obtain ⟨rfl, rfl, rfl, rfl, rfl, rfl⟩ := hn
  intro hkc hks H locs ρ wr ls st hρ hdy hst
  exact lv_lconst C.1 C.2.1 hdec rfl (K hkc hks H locs ρ wr ls _ hρ hdy ⟨rfl, hst⟩)
theorem zi_iload (C : zCt l D tA adK adV b sc N0 q d p R s m args meth c) {k : Nat} (hdec : decode q.cc pc = .ok (.iload k, 2)) (hn : znx sc q d (.iload k) 2 pc als ast ws kc ks = some (pc1, als1, ast1, ws1, kc1, ks1)) (K : zCo l D tA adK adV b N0 q p e R s m args below meth c ρ0 Qm pc1 als1 ast1 ws1 kc1 ks1) : zCo l D tA adK adV b N0 q p e R s m args below meth c ρ0 Qm pc als ast ws kc ks := by
  simp only [znx] at hn
  split at hn
  · next x hx =>
    simp only [Option.some.injEq, Prod.mk.injEq] at hn
    obtain ⟨rfl, rfl, rfl, rfl, rfl, rfl⟩ := hn
    intro hkc hks H locs ρ wr ls st hρ hdy hst
    obtain ⟨v1, h1, h2⟩ := zlr_at hdy.2.2.2.2.1 hx (by intro k h; cases h)
    cases (show v1 = .int x from h2)
    exact lv_iload C.1 C.2.1 hdec h1 (K hkc hks H locs ρ wr ls _ hρ hdy ⟨rfl, hst⟩)
  · cases hn
theorem zi_iload_n (C : zCt l D tA adK adV b sc N0 q d p R s m args meth c) {k : Fin 4} (hdec : decode q.cc pc = .ok (.iload_n k, 1)) (hn : znx sc q d (.iload_n k) 1 pc als ast ws kc ks = some (pc1, als1, ast1, ws1, kc1, ks1)) (K : zCo l D tA adK adV b N0 q p e R s m args below meth c ρ0 Qm pc1 als1 ast1 ws1 kc1 ks1) : zCo l D tA adK adV b N0 q p e R s m args below meth c ρ0 Qm pc als ast ws kc ks := by
  simp only [znx] at hn
  split at hn
  · next x hx =>
    simp only [Option.some.injEq, Prod.mk.injEq] at hn
    obtain ⟨rfl, rfl, rfl, rfl, rfl, rfl⟩ := hn
    intro hkc hks H locs ρ wr ls st hρ hdy hst
    obtain ⟨v1, h1, h2⟩ := zlr_at hdy.2.2.2.2.1 hx (by intro k h; cases h)
    cases (show v1 = .int x from h2)
    exact lv_iload_n C.1 C.2.1 hdec rfl h1 (K hkc hks H locs ρ wr ls _ hρ hdy ⟨rfl, hst⟩)
  · cases hn
theorem zi_aload (C : zCt l D tA adK adV b sc N0 q d p R s m args meth c) {k : Nat} (hdec : decode q.cc pc = .ok (.aload k, 2)) (hn : znx sc q d (.aload k) 2 pc als ast ws kc ks = some (pc1, als1, ast1, ws1, kc1, ks1)) (K : zCo l D tA adK adV b N0 q p e R s m args below meth c ρ0 Qm pc1 als1 ast1 ws1 kc1 ks1) : zCo l D tA adK adV b N0 q p e R s m args below meth c ρ0 Qm pc als ast ws kc ks := by
  simp only [znx] at hn
  split at hn
  · next x hx =>
    simp only [Option.some.injEq, Prod.mk.injEq] at hn
    obtain ⟨rfl, rfl, rfl, rfl, rfl, rfl⟩ := hn
    intro hkc hks H locs ρ wr ls st hρ hdy hst
    obtain ⟨v1, h1, a, rfl, h3⟩ := zlr_at hdy.2.2.2.2.1 hx (by intro k h; cases h)
    exact lv_aload C.1 C.2.1 hdec h1 (K hkc hks H locs ρ wr ls _ hρ hdy ⟨⟨a, rfl, h3⟩, hst⟩)
  · cases hn
theorem zi_aload_n (C : zCt l D tA adK adV b sc N0 q d p R s m args meth c) {k : Fin 4} (hdec : decode q.cc pc = .ok (.aload_n k, 1)) (hn : znx sc q d (.aload_n k) 1 pc als ast ws kc ks = some (pc1, als1, ast1, ws1, kc1, ks1)) (K : zCo l D tA adK adV b N0 q p e R s m args below meth c ρ0 Qm pc1 als1 ast1 ws1 kc1 ks1) : zCo l D tA adK adV b N0 q p e R s m args below meth c ρ0 Qm pc als ast ws kc ks := by
  simp only [znx] at hn
  split at hn
  · next x hx =>
    simp only [Option.some.injEq, Prod.mk.injEq] at hn
    obtain ⟨rfl, rfl, rfl, rfl, rfl, rfl⟩ := hn
    intro hkc hks H locs ρ wr ls st hρ hdy hst
    obtain ⟨v1, h1, a, rfl, h3⟩ := zlr_at hdy.2.2.2.2.1 hx (by intro k h; cases h)
    exact lv_aload_n C.1 C.2.1 hdec rfl h1 (K hkc hks H locs ρ wr ls _ hρ hdy ⟨⟨a, rfl, h3⟩, hst⟩)
  · cases hn
theorem zi_istore (C : zCt l D tA adK adV b sc N0 q d p R s m args meth c) {k : Nat} (hdec : decode q.cc pc = .ok (.istore k, 2)) (hn : znx sc q d (.istore k) 2 pc als ast ws kc ks = some (pc1, als1, ast1, ws1, kc1, ks1)) (K : zCo l D tA adK adV b N0 q p e R s m args below meth c ρ0 Qm pc1 als1 ast1 ws1 kc1 ks1) : zCo l D tA adK adV b N0 q p e R s m args below meth c ρ0 Qm pc als ast ws kc ks := by
  simp only [znx] at hn
  split at hn
  · next x r =>
    split at hn
    · next hk =>
      simp only [Option.some.injEq, Prod.mk.injEq] at hn
      obtain ⟨rfl, rfl, rfl, rfl, rfl, rfl⟩ := hn
      intro hkc hks H locs ρ wr ls st hρ hdy hst
      obtain ⟨s1, rfl, h5⟩ := zsr_int hst
      obtain ⟨y1, y2, y3, y4, ⟨lo, h1, h2, h3⟩, y6⟩ := hdy
      exact lv_istore C.1 C.2.1 hdec h1 hk rfl (fun ls1 hl => K hkc hks H locs ρ wr ls1 _ hρ ⟨y1, y2, y3, y4, zlr_set h2 h3 (v := .int x) (v' := .int x) rfl rfl hl, by rw [List.length_set]; exact y6⟩ h5)
    · cases hn
  · cases hn
theorem zi_istore_n (C : zCt l D tA adK adV b sc N0 q d p R s m args meth c) {k : Fin 4} (hdec : decode q.cc pc = .ok (.istore_n k, 1)) (hn : znx sc q d (.istore_n k) 1 pc als ast ws kc ks = some (pc1, als1, ast1, ws1, kc1, ks1)) (K : zCo l D tA adK adV b N0 q p e R s m args below meth c ρ0 Qm pc1 als1 ast1 ws1 kc1 ks1) : zCo l D tA adK adV b N0 q p e R s m args below meth c ρ0 Qm pc als ast ws kc ks := by
  simp only [znx] at hn
  split at hn
  · next x r =>
    split at hn
    · next hk =>
      simp only [Option.some.injEq, Prod.mk.injEq] at hn
      obtain ⟨rfl, rfl, rfl, rfl, rfl, rfl⟩ := hn
      intro hkc hks H locs ρ wr ls st hρ hdy hst
      obtain ⟨s1, rfl, h5⟩ := zsr_int hst
      obtain ⟨y1, y2, y3, y4, ⟨lo, h1, h2, h3⟩, y6⟩ := hdy
      exact lv_istore_n C.1 C.2.1 hdec rfl h1 hk rfl (fun ls1 hl => K hkc hks H locs ρ wr ls1 _ hρ ⟨y1, y2, y3, y4, zlr_set h2 h3 (v := .int x) (v' := .int x) rfl rfl hl, by rw [List.length_set]; exact y6⟩ h5)
    · cases hn
  · cases hn
theorem zstoreA {k nL : Nat} {v : Value} {lv : List (Nat × Value)} {ls : Array Slot} {rest : List Value} {H : Heap} {locs : List Loc} {i : Instr} {n : Nat} (hexec : p.tables.exec = Jvm.exec) (hb : c.code = q.cc) (hi : (i = .astore k ∧ n = 2) ∨ (∃ k4 : Fin 4, i = .astore_n k4 ∧ (k4 : Nat) = k ∧ n = 1)) (hdg : decode q.cc pc = .ok (i, n)) (h : lv_has ls nL lv) (hn : k < nL) (hv : ∃ a, v = .ref a)
    (kk : ∀ ls1 : Array Slot, lv_has ls1 nL ((k, v) :: lv.filter (fun q => !(q.1 == k) && !(q.1 + 1 == k && q.2.category == 2))) → W p l e R s m args below meth c H locs kc ks Qm (F0 m (pc + n) ls1 rest)) : W p l e R s m args below meth c H locs kc ks Qm (F0 m pc ls (v :: rest)) := by
  obtain ⟨a, rfl⟩ := hv
  rcases hi with ⟨rfl, rfl⟩ | ⟨k4, rfl, rfl, rfl⟩
  · exact lv_astore hexec hb hdg h hn rfl kk
  · exact lv_astore_n hexec hb hdg rfl h hn rfl kk
theorem zi_astore (C : zCt l D tA adK adV b sc N0 q d p R s m args meth c) {k : Nat} (hdec : decode q.cc pc = .ok (.astore k, 2)) (hn : znx sc q d (.astore k) 2 pc als ast ws kc ks = some (pc1, als1, ast1, ws1, kc1, ks1)) (K : zCo l D tA adK adV b N0 q p e R s m args below meth c ρ0 Qm pc1 als1 ast1 ws1 kc1 ks1) : zCo l D tA adK adV b N0 q p e R s m args below meth c ρ0 Qm pc als ast ws kc ks := by
  simp only [znx] at hn
  split at hn
  · next x r =>
    split at hn
    · next hk =>
      simp only [Option.some.injEq, Prod.mk.injEq] at hn
      obtain ⟨rfl, rfl, rfl, rfl, rfl, rfl⟩ := hn
      intro hkc hks H locs ρ wr ls st hρ hdy hst
      obtain ⟨a, s1, rfl, h4, h5⟩ := zsr_ref hst
      obtain ⟨y1, y2, y3, y4, ⟨lo, h1, h2, h3⟩, y6⟩ := hdy
      exact zstoreA C.1 C.2.1 (Or.inl ⟨rfl, rfl⟩) hdec h1 hk ⟨a, rfl⟩ (fun ls1 hl => K hkc hks H locs ρ wr ls1 _ hρ ⟨y1, y2, y3, y4, zlr_set h2 h3 (v := .ref x) (v' := .ref a) ⟨a, rfl, h4⟩ rfl hl, by rw [List.length_set]; exact y6⟩ h5)
    · cases hn
  · next j r =>
    split at hn
    · next hk =>
      obtain ⟨rfl, hk⟩ := hk
      simp only [Option.some.injEq, Prod.mk.injEq] at hn
      obtain ⟨rfl, rfl, rfl, rfl, rfl, rfl⟩ := hn
      intro hkc hks H locs ρ wr ls st hρ hdy hst
      obtain ⟨v1, s1, rfl, h4, h5⟩ := zsr_cons hst
      obtain ⟨y1, y2, y3, y4, ⟨lo, h1, h2, h3⟩, y6⟩ := hdy
      rcases h4 with ⟨a, rfl⟩ | ⟨h4, -⟩
      · exact zstoreA C.1 C.2.1 (Or.inl ⟨rfl, rfl⟩) hdec h1 hk ⟨a, rfl⟩ (fun ls1 hl => K hkc hks H locs ρ wr ls1 _ hρ ⟨y1, y2, y3, y4, zlr_set h2 h3 (v := zJ) (v' := .ref a) (Or.inl ⟨a, rfl⟩) rfl hl, by rw [List.length_set]; exact y6⟩ h5)
      · exact absurd rfl h4
    · cases hn
  · cases hn
theorem zi_astore_n (C : zCt l D tA adK adV b sc N0 q d p R s m args meth c) {k : Fin 4} (hdec : decode q.cc pc = .ok (.astore_n k, 1)) (hn : znx sc q d (.astore_n k) 1 pc als ast ws kc ks = some (pc1, als1, ast1, ws1, kc1, ks1)) (K : zCo l D tA adK adV b N0 q p e R s m args below meth c ρ0 Qm pc1 als1 ast1 ws1 kc1 ks1) : zCo l D tA adK adV b N0 q p e R s m args below meth c ρ0 Qm pc als ast ws kc ks := by
  simp only [znx] at hn
  split at hn
  · next x r =>
    split at hn
    · next hk =>
      simp only [Option.some.injEq, Prod.mk.injEq] at hn
      obtain ⟨rfl, rfl, rfl, rfl, rfl, rfl⟩ := hn
      intro hkc hks H locs ρ wr ls st hρ hdy hst
      obtain ⟨a, s1, rfl, h4, h5⟩ := zsr_ref hst
      obtain ⟨y1, y2, y3, y4, ⟨lo, h1, h2, h3⟩, y6⟩ := hdy
      exact zstoreA C.1 C.2.1 (Or.inr ⟨k, rfl, rfl, rfl⟩) hdec h1 hk ⟨a, rfl⟩ (fun ls1 hl => K hkc hks H locs ρ wr ls1 _ hρ ⟨y1, y2, y3, y4, zlr_set h2 h3 (v := .ref x) (v' := .ref a) ⟨a, rfl, h4⟩ rfl hl, by rw [List.length_set]; exact y6⟩ h5)
    · cases hn
  · next j r =>
    split at hn
    · next hk =>
      obtain ⟨rfl, hk⟩ := hk
      simp only [Option.some.injEq, Prod.mk.injEq] at hn
      obtain ⟨rfl, rfl, rfl, rfl, rfl, rfl⟩ := hn
      intro hkc hks H locs ρ wr ls st hρ hdy hst
      obtain ⟨v1, s1, rfl, h4, h5⟩ := zsr_cons hst
      obtain ⟨y1, y2, y3, y4, ⟨lo, h1, h2, h3⟩, y6⟩ := hdy
      rcases h4 with ⟨a, rfl⟩ | ⟨h4, -⟩
      · exact zstoreA C.1 C.2.1 (Or.inr ⟨k, rfl, rfl, rfl⟩) hdec h1 hk ⟨a, rfl⟩ (fun ls1 hl => K hkc hks H locs ρ wr ls1 _ hρ ⟨y1, y2, y3, y4, zlr_set h2 h3 (v := zJ) (v' := .ref a) (Or.inl ⟨a, rfl⟩) rfl hl, by rw [List.length_set]; exact y6⟩ h5)
      · exact absurd rfl h4
    · cases hn
  · cases hn
theorem zi_iinc (C : zCt l D tA adK adV b sc N0 q d p R s m args meth c) {k : Nat} {z : Int} (hdec : decode q.cc pc = .ok (.iinc k z, 3)) (hn : znx sc q d (.iinc k z) 3 pc als ast ws kc ks = some (pc1, als1, ast1, ws1, kc1, ks1)) (K : zCo l D tA adK adV b N0 q p e R s m args below meth c ρ0 Qm pc1 als1 ast1 ws1 kc1 ks1) : zCo l D tA adK adV b N0 q p e R s m args below meth c ρ0 Qm pc als ast ws kc ks := by
  simp only [znx] at hn
  split at hn
  · next x hx =>
    simp only [Option.some.injEq, Prod.mk.injEq] at hn
    obtain ⟨rfl, rfl, rfl, rfl, rfl, rfl⟩ := hn
    intro hkc hks H locs ρ wr ls st hρ hdy hst
    obtain ⟨y1, y2, y3, y4, ⟨lo, h1, h2, h3⟩, y6⟩ := hdy
    have hk : k < als.length := (List.getElem?_eq_some_iff.mp hx).1
    rcases h3 k _ hx with ⟨j, h⟩ | ⟨v1, h4, h5⟩
    · cases h
    · cases (show v1 = .int x from h5)
      obtain ⟨j, hj⟩ := List.getElem?_of_mem h4
      exact lv_iinc C.1 C.2.1 hdec h1 hj rfl hk rfl (fun ls1 hl => K hkc hks H locs ρ wr ls1 _ hρ ⟨y1, y2, y3, y4, zlr_set h2 h3 (v := .int (x + Int32.ofInt z)) (v' := .int (x + Int32.ofInt z)) rfl rfl hl, by rw [List.length_set]; exact y6⟩ hst)
  · cases hn
theorem zi_iadd (C : zCt l D tA adK adV b sc N0 q d p R s m args meth c)  (hdec : decode q.cc pc = .ok (.iadd, 1)) (hn : znx sc q d (.iadd) 1 pc als ast ws kc ks = some (pc1, als1, ast1, ws1, kc1, ks1)) (K : zCo l D tA adK adV b N0 q p e R s m args below meth c ρ0 Qm pc1 als1 ast1 ws1 kc1 ks1) : zCo l D tA adK adV b N0 q p e R s m args below meth c ρ0 Qm pc als ast ws kc ks := by
  simp only [znx] at hn
  split at hn
  · next y x r =>
    simp only [Option.some.injEq, Prod.mk.injEq] at hn
    obtain ⟨rfl, rfl, rfl, rfl, rfl, rfl⟩ := hn
    intro hkc hks H locs ρ wr ls st hρ hdy hst
    obtain ⟨s1, rfl, h1⟩ := zsr_int hst
    obtain ⟨s2, rfl, h2⟩ := zsr_int h1
    exact lv_iadd C.1 C.2.1 hdec (K hkc hks H locs ρ wr ls _ hρ hdy ⟨rfl, h2⟩)
  · cases hn
theorem zi_isub (C : zCt l D tA adK adV b sc N0 q d p R s m args meth c)  (hdec : decode q.cc pc = .ok (.isub, 1)) (hn : znx sc q d (.isub) 1 pc als ast ws kc ks = some (pc1, als1, ast1, ws1, kc1, ks1)) (K : zCo l D tA adK adV b N0 q p e R s m args below meth c ρ0 Qm pc1 als1 ast1 ws1 kc1 ks1) : zCo l D tA adK adV b N0 q p e R s m args below meth c ρ0 Qm pc als ast ws kc ks := by
  simp only [znx] at hn
  split at hn
  · next y x r =>
    simp only [Option.some.injEq, Prod.mk.injEq] at hn
    obtain ⟨rfl, rfl, rfl, rfl, rfl, rfl⟩ := hn
    intro hkc hks H locs ρ wr ls st hρ hdy hst
    obtain ⟨s1, rfl, h1⟩ := zsr_int hst
    obtain ⟨s2, rfl, h2⟩ := zsr_int h1
    exact lv_isub C.1 C.2.1 hdec (K hkc hks H locs ρ wr ls _ hρ hdy ⟨rfl, h2⟩)
  · cases hn
theorem zi_imul (C : zCt l D tA adK adV b sc N0 q d p R s m args meth c)  (hdec : decode q.cc pc = .ok (.imul, 1)) (hn : znx sc q d (.imul) 1 pc als ast ws kc ks = some (pc1, als1, ast1, ws1, kc1, ks1)) (K : zCo l D tA adK adV b N0 q p e R s m args below meth c ρ0 Qm pc1 als1 ast1 ws1 kc1 ks1) : zCo l D tA adK adV b N0 q p e R s m args below meth c ρ0 Qm pc als ast ws kc ks := by
  simp only [znx] at hn
  split at hn
  · next y x r =>
    simp only [Option.some.injEq, Prod.mk.injEq] at hn
    obtain ⟨rfl, rfl, rfl, rfl, rfl, rfl⟩ := hn
    intro hkc hks H locs ρ wr ls st hρ hdy hst
    obtain ⟨s1, rfl, h1⟩ := zsr_int hst
    obtain ⟨s2, rfl, h2⟩ := zsr_int h1
    exact lv_imul C.1 C.2.1 hdec (K hkc hks H locs ρ wr ls _ hρ hdy ⟨rfl, h2⟩)
  · cases hn
theorem zi_iand (C : zCt l D tA adK adV b sc N0 q d p R s m args meth c)  (hdec : decode q.cc pc = .ok (.iand, 1)) (hn : znx sc q d (.iand) 1 pc als ast ws kc ks = some (pc1, als1, ast1, ws1, kc1, ks1)) (K : zCo l D tA adK adV b N0 q p e R s m args below meth c ρ0 Qm pc1 als1 ast1 ws1 kc1 ks1) : zCo l D tA adK adV b N0 q p e R s m args below meth c ρ0 Qm pc als ast ws kc ks := by
  simp only [znx] at hn
  split at hn
  · next y x r =>
    simp only [Option.some.injEq, Prod.mk.injEq] at hn
    obtain ⟨rfl, rfl, rfl, rfl, rfl, rfl⟩ := hn
    intro hkc hks H locs ρ wr ls st hρ hdy hst
    obtain ⟨s1, rfl, h1⟩ := zsr_int hst
    obtain ⟨s2, rfl, h2⟩ := zsr_int h1
    exact lv_iand C.1 C.2.1 hdec (K hkc hks H locs ρ wr ls _ hρ hdy ⟨rfl, h2⟩)
  · cases hn
theorem zi_ior (C : zCt l D tA adK adV b sc N0 q d p R s m args meth c)  (hdec : decode q.cc pc = .ok (.ior, 1)) (hn : znx sc q d (.ior) 1 pc als ast ws kc ks = some (pc1, als1, ast1, ws1, kc1, ks1)) (K : zCo l D tA adK adV b N0 q p e R s m args below meth c ρ0 Qm pc1 als1 ast1 ws1 kc1 ks1) : zCo l D tA adK adV b N0 q p e R s m args below meth c ρ0 Qm pc als ast ws kc ks := by
  simp only [znx] at hn
  split at hn
  · next y x r =>
    simp only [Option.some.injEq, Prod.mk.injEq] at hn
    obtain ⟨rfl, rfl, rfl, rfl, rfl, rfl⟩ := hn
    intro hkc hks H locs ρ wr ls st hρ hdy hst
    obtain ⟨s1, rfl, h1⟩ := zsr_int hst
    obtain ⟨s2, rfl, h2⟩ := zsr_int h1
    exact lv_ior C.1 C.2.1 hdec (K hkc hks H locs ρ wr ls _ hρ hdy ⟨rfl, h2⟩)
  · cases hn
theorem zi_ishl (C : zCt l D tA adK adV b sc N0 q d p R s m args meth c)  (hdec : decode q.cc pc = .ok (.ishl, 1)) (hn : znx sc q d (.ishl) 1 pc als ast ws kc ks = some (pc1, als1, ast1, ws1, kc1, ks1)) (K : zCo l D tA adK adV b N0 q p e R s m args below meth c ρ0 Qm pc1 als1 ast1 ws1 kc1 ks1) : zCo l D tA adK adV b N0 q p e R s m args below meth c ρ0 Qm pc als ast ws kc ks := by
  simp only [znx] at hn
  split at hn
  · next y x r =>
    simp only [Option.some.injEq, Prod.mk.injEq] at hn
    obtain ⟨rfl, rfl, rfl, rfl, rfl, rfl⟩ := hn
    intro hkc hks H locs ρ wr ls st hρ hdy hst
    obtain ⟨s1, rfl, h1⟩ := zsr_int hst
    obtain ⟨s2, rfl, h2⟩ := zsr_int h1
    exact lv_ishl C.1 C.2.1 hdec (K hkc hks H locs ρ wr ls _ hρ hdy ⟨rfl, h2⟩)
  · cases hn
theorem zi_ishr (C : zCt l D tA adK adV b sc N0 q d p R s m args meth c)  (hdec : decode q.cc pc = .ok (.ishr, 1)) (hn : znx sc q d (.ishr) 1 pc als ast ws kc ks = some (pc1, als1, ast1, ws1, kc1, ks1)) (K : zCo l D tA adK adV b N0 q p e R s m args below meth c ρ0 Qm pc1 als1 ast1 ws1 kc1 ks1) : zCo l D tA adK adV b N0 q p e R s m args below meth c ρ0 Qm pc als ast ws kc ks := by
  simp only [znx] at hn
  split at hn
  · next y x r =>
    simp only [Option.some.injEq, Prod.mk.injEq] at hn
    obtain ⟨rfl, rfl, rfl, rfl, rfl, rfl⟩ := hn
    intro hkc hks H locs ρ wr ls st hρ hdy hst
    obtain ⟨s1, rfl, h1⟩ := zsr_int hst
    obtain ⟨s2, rfl, h2⟩ := zsr_int h1
    exact lv_ishr C.1 C.2.1 hdec (K hkc hks H locs ρ wr ls _ hρ hdy ⟨rfl, h2⟩)
  · cases hn
theorem zi_iushr (C : zCt l D tA adK adV b sc N0 q d p R s m args meth c)  (hdec : decode q.cc pc = .ok (.iushr, 1)) (hn : znx sc q d (.iushr) 1 pc als ast ws kc ks = some (pc1, als1, ast1, ws1, kc1, ks1)) (K : zCo l D tA adK adV b N0 q p e R s m args below meth c ρ0 Qm pc1 als1 ast1 ws1 kc1 ks1) : zCo l D tA adK adV b N0 q p e R s m args below meth c ρ0 Qm pc als ast ws kc ks := by
  simp only [znx] at hn
  split at hn
  · next y x r =>
    simp only [Option.some.injEq, Prod.mk.injEq] at hn
    obtain ⟨rfl, rfl, rfl, rfl, rfl, rfl⟩ := hn
    intro hkc hks H locs ρ wr ls st hρ hdy hst
    obtain ⟨s1, rfl, h1⟩ := zsr_int hst
    obtain ⟨s2, rfl, h2⟩ := zsr_int h1
    exact lv_iushr C.1 C.2.1 hdec rfl (K hkc hks H locs ρ wr ls _ hρ hdy ⟨rfl, h2⟩)
  · cases hn
theorem zi_idiv (C : zCt l D tA adK adV b sc N0 q d p R s m args meth c)  (hdec : decode q.cc pc = .ok (.idiv, 1)) (hn : znx sc q d (.idiv) 1 pc als ast ws kc ks = some (pc1, als1, ast1, ws1, kc1, ks1)) (K : zCo l D tA adK adV b N0 q p e R s m args below meth c ρ0 Qm pc1 als1 ast1 ws1 kc1 ks1) : zCo l D tA adK adV b N0 q p e R s m args below meth c ρ0 Qm pc als ast ws kc ks := by
  simp only [znx] at hn
  split at hn
  · next y x r =>
    split at hn
    · cases hn
    · next hy =>
      simp only [Option.some.injEq, Prod.mk.injEq] at hn
      obtain ⟨rfl, rfl, rfl, rfl, rfl, rfl⟩ := hn
      intro hkc hks H locs ρ wr ls st hρ hdy hst
      obtain ⟨s1, rfl, h1⟩ := zsr_int hst
      obtain ⟨s2, rfl, h2⟩ := zsr_int h1
      exact lv_idiv C.1 C.2.1 hdec hy (K hkc hks H locs ρ wr ls _ hρ hdy ⟨rfl, h2⟩)
  · cases hn
theorem zi_irem (C : zCt l D tA adK adV b sc N0 q d p R s m args meth c)  (hdec : decode q.cc pc = .ok (.irem, 1)) (hn : znx sc q d (.irem) 1 pc als ast ws kc ks = some (pc1, als1, ast1, ws1, kc1, ks1)) (K : zCo l D tA adK adV b N0 q p e R s m args below meth c ρ0 Qm pc1 als1 ast1 ws1 kc1 ks1) : zCo l D tA adK adV b N0 q p e R s m args below meth c ρ0 Qm pc als ast ws kc ks := by
  simp only [znx] at hn
  split at hn
  · next y x r =>
    split at hn
    · cases hn
    · next hy =>
      simp only [Option.some.injEq, Prod.mk.injEq] at hn
      obtain ⟨rfl, rfl, rfl, rfl, rfl, rfl⟩ := hn
      intro hkc hks H locs ρ wr ls st hρ hdy hst
      obtain ⟨s1, rfl, h1⟩ := zsr_int hst
      obtain ⟨s2, rfl, h2⟩ := zsr_int h1
      exact lv_irem C.1 C.2.1 hdec hy (K hkc hks H locs ρ wr ls _ hρ hdy ⟨rfl, h2⟩)
  · cases hn
theorem zi_i2l (C : zCt l D tA adK adV b sc N0 q d p R s m args meth c)  (hdec : decode q.cc pc = .ok (.i2l, 1)) (hn : znx sc q d (.i2l) 1 pc als ast ws kc ks = some (pc1, als1, ast1, ws1, kc1, ks1)) (K : zCo l D tA adK adV b N0 q p e R s m args below meth c ρ0 Qm pc1 als1 ast1 ws1 kc1 ks1) : zCo l D tA adK adV b N0 q p e R s m args below meth c ρ0 Qm pc als ast ws kc ks := by
  simp only [znx] at hn
  split at hn
  · next x r =>
    simp only [Option.some.injEq, Prod.mk.injEq] at hn
    obtain ⟨rfl, rfl, rfl, rfl, rfl, rfl⟩ := hn
    intro hkc hks H locs ρ wr ls st hρ hdy hst
    obtain ⟨s1, rfl, h1⟩ := zsr_int hst
    exact lv_i2l C.1 C.2.1 hdec rfl (K hkc hks H locs ρ wr ls _ hρ hdy ⟨rfl, h1⟩)
  · cases hn
theorem zi_i2b (C : zCt l D tA adK adV b sc N0 q d p R s m args meth c)  (hdec : decode q.cc pc = .ok (.i2b, 1)) (hn : znx sc q d (.i2b) 1 pc als ast ws kc ks = some (pc1, als1, ast1, ws1, kc1, ks1)) (K : zCo l D tA adK adV b N0 q p e R s m args below meth c ρ0 Qm pc1 als1 ast1 ws1 kc1 ks1) : zCo l D tA adK adV b N0 q p e R s m args below meth c ρ0 Qm pc als ast ws kc ks := by
  simp only [znx] at hn
  split at hn
  · next x r =>
    simp only [Option.some.injEq, Prod.mk.injEq] at hn
    obtain ⟨rfl, rfl, rfl, rfl, rfl, rfl⟩ := hn
    intro hkc hks H locs ρ wr ls st hρ hdy hst
    obtain ⟨s1, rfl, h1⟩ := zsr_int hst
    exact lv_i2b C.1 C.2.1 hdec rfl (K hkc hks H locs ρ wr ls _ hρ hdy ⟨rfl, h1⟩)
  · cases hn
theorem zi_i2c (C : zCt l D tA adK adV b sc N0 q d p R s m args meth c)  (hdec : decode q.cc pc = .ok (.i2c, 1)) (hn : znx sc q d (.i2c) 1 pc als ast ws kc ks = some (pc1, als1, ast1, ws1, kc1, ks1)) (K : zCo l D tA adK adV b N0 q p e R s m args below meth c ρ0 Qm pc1 als1 ast1 ws1 kc1 ks1) : zCo l D tA adK adV b N0 q p e R s m args below meth c ρ0 Qm pc als ast ws kc ks := by
  simp only [znx] at hn
  split at hn
  · next x r =>
    simp only [Option.some.injEq, Prod.mk.injEq] at hn
    obtain ⟨rfl, rfl, rfl, rfl, rfl, rfl⟩ := hn
    intro hkc hks H locs ρ wr ls st hρ hdy hst
    obtain ⟨s1, rfl, h1⟩ := zsr_int hst
    exact lv_i2c C.1 C.2.1 hdec rfl (K hkc hks H locs ρ wr ls _ hρ hdy ⟨rfl, h1⟩)
  · cases hn
theorem zi_lshl (C : zCt l D tA adK adV b sc N0 q d p R s m args meth c)  (hdec : decode q.cc pc = .ok (.lshl, 1)) (hn : znx sc q d (.lshl) 1 pc als ast ws kc ks = some (pc1, als1, ast1, ws1, kc1, ks1)) (K : zCo l D tA adK adV b N0 q p e R s m args below meth c ρ0 Qm pc1 als1 ast1 ws1 kc1 ks1) : zCo l D tA adK adV b N0 q p e R s m args below meth c ρ0 Qm pc als ast ws kc ks := by
  simp only [znx] at hn
  split at hn
  · next y x r =>
    simp only [Option.some.injEq, Prod.mk.injEq] at hn
    obtain ⟨rfl, rfl, rfl, rfl, rfl, rfl⟩ := hn
    intro hkc hks H locs ρ wr ls st hρ hdy hst
    obtain ⟨s1, rfl, h1⟩ := zsr_int hst
    obtain ⟨s2, rfl, h2⟩ := zsr_long h1
    exact lv_lshl C.1 C.2.1 hdec rfl (K hkc hks H locs ρ wr ls _ hρ hdy ⟨rfl, h2⟩)
  · cases hn
theorem zi_lushr (C : zCt l D tA adK adV b sc N0 q d p R s m args meth c)  (hdec : decode q.cc pc = .ok (.lushr, 1)) (hn : znx sc q d (.lushr) 1 pc als ast ws kc ks = some (pc1, als1, ast1, ws1, kc1, ks1)) (K : zCo l D tA adK adV b N0 q p e R s m args below meth c ρ0 Qm pc1 als1 ast1 ws1 kc1 ks1) : zCo l D tA adK adV b N0 q p e R s m args below meth c ρ0 Qm pc als ast ws kc ks := by
  simp only [znx] at hn
  split at hn
  · next y x r =>
    simp only [Option.some.injEq, Prod.mk.injEq] at hn
    obtain ⟨rfl, rfl, rfl, rfl, rfl, rfl⟩ := hn
    intro hkc hks H locs ρ wr ls st hρ hdy hst
    obtain ⟨s1, rfl, h1⟩ := zsr_int hst
    obtain ⟨s2, rfl, h2⟩ := zsr_long h1
    exact lv_lushr C.1 C.2.1 hdec rfl (K hkc hks H locs ρ wr ls _ hρ hdy ⟨rfl, h2⟩)
  · cases hn
theorem zi_land (C : zCt l D tA adK adV b sc N0 q d p R s m args meth c)  (hdec : decode q.cc pc = .ok (.land, 1)) (hn : znx sc q d (.land) 1 pc als ast ws kc ks = some (pc1, als1, ast1, ws1, kc1, ks1)) (K : zCo l D tA adK adV b N0 q p e R s m args below meth c ρ0 Qm pc1 als1 ast1 ws1 kc1 ks1) : zCo l D tA adK adV b N0 q p e R s m args below meth c ρ0 Qm pc als ast ws kc ks := by
  simp only [znx] at hn
  split at hn
  · next y x r =>
    simp only [Option.some.injEq, Prod.mk.injEq] at hn
    obtain ⟨rfl, rfl, rfl, rfl, rfl, rfl⟩ := hn
    intro hkc hks H locs ρ wr ls st hρ hdy hst
    obtain ⟨s1, rfl, h1⟩ := zsr_long hst
    obtain ⟨s2, rfl, h2⟩ := zsr_long h1
    exact lv_land C.1 C.2.1 hdec (K hkc hks H locs ρ wr ls _ hρ hdy ⟨rfl, h2⟩)
  · cases hn
theorem zi_lor (C : zCt l D tA adK adV b sc N0 q d p R s m args meth c)  (hdec : decode q.cc pc = .ok (.lor, 1)) (hn : znx sc q d (.lor) 1 pc als ast ws kc ks = some (pc1, als1, ast1, ws1, kc1, ks1)) (K : zCo l D tA adK adV b N0 q p e R s m args below meth c ρ0 Qm pc1 als1 ast1 ws1 kc1 ks1) : zCo l D tA adK adV b N0 q p e R s m args below meth c ρ0 Qm pc als ast ws kc ks := by
  simp only [znx] at hn
  split at hn
  · next y x r =>
    simp only [Option.some.injEq, Prod.mk.injEq] at hn
    obtain ⟨rfl, rfl, rfl, rfl, rfl, rfl⟩ := hn
    intro hkc hks H locs ρ wr ls st hρ hdy hst
    obtain ⟨s1, rfl, h1⟩ := zsr_long hst
    obtain ⟨s2, rfl, h2⟩ := zsr_long h1
    exact lv_lor C.1 C.2.1 hdec (K hkc hks H locs ρ wr ls _ hρ hdy ⟨rfl, h2⟩)
  · cases hn
theorem zi_lcmp (C : zCt l D tA adK adV b sc N0 q d p R s m args meth c)  (hdec : decode q.cc pc = .ok (.lcmp, 1)) (hn : znx sc q d (.lcmp) 1 pc als ast ws kc ks = some (pc1, als1, ast1, ws1, kc1, ks1)) (K : zCo l D tA adK adV b N0 q p e R s m args below meth c ρ0 Qm pc1 als1 ast1 ws1 kc1 ks1) : zCo l D tA adK adV b N0 q p e R s m args below meth c ρ0 Qm pc als ast ws kc ks := by
  simp only [znx] at hn
  split at hn
  · next y x r =>
    simp only [Option.some.injEq, Prod.mk.injEq] at hn
    obtain ⟨rfl, rfl, rfl, rfl, rfl, rfl⟩ := hn
    intro hkc hks H locs ρ wr ls st hρ hdy hst
    obtain ⟨s1, rfl, h1⟩ := zsr_long hst
    obtain ⟨s2, rfl, h2⟩ := zsr_long h1
    exact W.lcmp C.1 C.2.1 hdec (K hkc hks H locs ρ wr ls _ hρ hdy ⟨rfl, h2⟩)
  · cases hn
theorem zi_dup (C : zCt l D tA adK adV b sc N0 q d p R s m args meth c)  (hdec : decode q.cc pc = .ok (.dup, 1)) (hn : znx sc q d (.dup) 1 pc als ast ws kc ks = some (pc1, als1, ast1, ws1, kc1, ks1)) (K : zCo l D tA adK adV b N0 q p e R s m args below meth c ρ0 Qm pc1 als1 ast1 ws1 kc1 ks1) : zCo l D tA adK adV b N0 q p e R s m args below meth c ρ0 Qm pc als ast ws kc ks := by
  simp only [znx] at hn
  split at hn
  · next x r =>
    simp only [Option.some.injEq, Prod.mk.injEq] at hn
    obtain ⟨rfl, rfl, rfl, rfl, rfl, rfl⟩ := hn
    intro hkc hks H locs ρ wr ls st hρ hdy hst
    obtain ⟨s1, rfl, h1⟩ := zsr_int hst
    exact lv_dup C.1 C.2.1 hdec rfl (K hkc hks H locs ρ wr ls _ hρ hdy ⟨rfl, rfl, h1⟩)
  · next x r =>
    simp only [Option.some.injEq, Prod.mk.injEq] at hn
    obtain ⟨rfl, rfl, rfl, rfl, rfl, rfl⟩ := hn
    intro hkc hks H locs ρ wr ls st hρ hdy hst
    obtain ⟨a, s1, rfl, h0, h1⟩ := zsr_ref hst
    exact lv_dup C.1 C.2.1 hdec rfl (K hkc hks H locs ρ wr ls _ hρ hdy ⟨⟨a, rfl, h0⟩, ⟨a, rfl, h0⟩, h1⟩)
  · cases hn
theorem zi_dup2 (C : zCt l D tA adK adV b sc N0 q d p R s m args meth c)  (hdec : decode q.cc pc = .ok (.dup2, 1)) (hn : znx sc q d (.dup2) 1 pc als ast ws kc ks = some (pc1, als1, ast1, ws1, kc1, ks1)) (K : zCo l D tA adK adV b N0 q p e R s m args below meth c ρ0 Qm pc1 als1 ast1 ws1 kc1 ks1) : zCo l D tA adK adV b N0 q p e R s m args below meth c ρ0 Qm pc als ast ws kc ks := by
  simp only [znx] at hn
  split at hn
  · next x y r =>
    simp only [Option.some.injEq, Prod.mk.injEq] at hn
    obtain ⟨rfl, rfl, rfl, rfl, rfl, rfl⟩ := hn
    intro hkc hks H locs ρ wr ls st hρ hdy hst
    obtain ⟨s1, rfl, h1⟩ := zsr_int hst
    obtain ⟨a, s2, rfl, h0, h2⟩ := zsr_ref h1
    exact lv_dup2_11 C.1 C.2.1 hdec rfl rfl (K hkc hks H locs ρ wr ls _ hρ hdy ⟨rfl, ⟨a, rfl, h0⟩, rfl, ⟨a, rfl, h0⟩, h2⟩)
  · cases hn
theorem zi_pop (C : zCt l D tA adK adV b sc N0 q d p R s m args meth c)  (hdec : decode q.cc pc = .ok (.pop, 1)) (hn : znx sc q d (.pop) 1 pc als ast ws kc ks = some (pc1, als1, ast1, ws1, kc1, ks1)) (K : zCo l D tA adK adV b N0 q p e R s m args below meth c ρ0 Qm pc1 als1 ast1 ws1 kc1 ks1) : zCo l D tA adK adV b N0 q p e R s m args below meth c ρ0 Qm pc als ast ws kc ks := by
  simp only [znx] at hn
  split at hn
  · next x r =>
    simp only [Option.some.injEq, Prod.mk.injEq] at hn
    obtain ⟨rfl, rfl, rfl, rfl, rfl, rfl⟩ := hn
    intro hkc hks H locs ρ wr ls st hρ hdy hst
    obtain ⟨s1, rfl, h1⟩ := zsr_int hst
    exact lv_pop C.1 C.2.1 hdec rfl (K hkc hks H locs ρ wr ls _ hρ hdy h1)
  · cases hn
theorem zgo_spec {pc t : Nat} {off : Int} (h : zgo pc off = some t) : (pc : Int) + off = (t : Int) := by
  unfold zgo at h
  split at h
  · next h0 => cases h; omega
  · cases h
theorem zi_goto (C : zCt l D tA adK adV b sc N0 q d p R s m args meth c) {off : Int} (hdec : decode q.cc pc = .ok (.goto off, 3)) (hn : znx sc q d (.goto off) 3 pc als ast ws kc ks = some (pc1, als1, ast1, ws1, kc1, ks1)) (K : zCo l D tA adK adV b N0 q p e R s m args below meth c ρ0 Qm pc1 als1 ast1 ws1 kc1 ks1) : zCo l D tA adK adV b N0 q p e R s m args below meth c ρ0 Qm pc als ast ws kc ks := by
  simp only [znx] at hn
  split at hn
  · next t ht =>
    simp only [Option.some.injEq, Prod.mk.injEq] at hn
    obtain ⟨rfl, rfl, rfl, rfl, rfl, rfl⟩ := hn
    intro hkc hks H locs ρ wr ls st hρ hdy hst
    exact lv_goto C.1 C.2.1 hdec (zgo_spec ht) (K hkc hks H locs ρ wr ls _ hρ hdy hst)
  · cases hn
theorem zbr_spec {bb : Bool} {pc n t : Nat} {off : Int} (h : zbr bb pc n off = some t) : (bb = true ∧ (pc : Int) + off = (t : Int)) ∨ (bb = false ∧ t = pc + n) := by
  unfold zbr at h
  split at h
  · next h0 => exact Or.inl ⟨h0, zgo_spec h⟩
  · next h0 => cases h; exact Or.inr ⟨by simpa using h0, rfl⟩
theorem zoff {n pc : Nat} {off : Int} (h : n = n) : ∃ t : Nat, (pc : Int) + off = (t : Int) ∨ (pc : Int) + off < 0 := ⟨((pc : Int) + off).toNat, by omega⟩
theorem zi_icmp_eq (C : zCt l D tA adK adV b sc N0 q d p R s m args meth c) {off : Int} (hdec : decode q.cc pc = .ok (.if_icmp .eq off, 3)) (hj : 0 ≤ (pc : Int) + off) (hn : znx sc q d (.if_icmp .eq off) 3 pc als ast ws kc ks = some (pc1, als1, ast1, ws1, kc1, ks1)) (K : zCo l D tA adK adV b N0 q p e R s m args below meth c ρ0 Qm pc1 als1 ast1 ws1 kc1 ks1) : zCo l D tA adK adV b N0 q p e R s m args below meth c ρ0 Qm pc als ast ws kc ks := by
  simp only [znx] at hn
  split at hn
  · next y x r =>
    split at hn
    · next t ht =>
      simp only [Option.some.injEq, Prod.mk.injEq] at hn
      obtain ⟨rfl, rfl, rfl, rfl, rfl, rfl⟩ := hn
      intro hkc hks H locs ρ wr ls st hρ hdy hst
      obtain ⟨s1, rfl, h1⟩ := zsr_int hst
      obtain ⟨s2, rfl, h2⟩ := zsr_int h1
      refine lv_icmp_eq (tgt := ((pc : Int) + off).toNat) C.1 C.2.1 hdec (by omega) (fun hc => ?_) (fun hc => ?_)
      · rcases zbr_spec ht with ⟨h3, h4⟩ | ⟨h3, -⟩
        · rw [show ((pc : Int) + off).toNat = t by omega]
          exact K hkc hks H locs ρ wr ls _ hρ hdy h2
        · simp only [zcmp, decide_eq_false_iff_not] at h3; exact absurd hc h3
      · rcases zbr_spec ht with ⟨h3, -⟩ | ⟨-, rfl⟩
        · simp only [zcmp, decide_eq_true_eq] at h3; exact absurd h3 hc
        · exact K hkc hks H locs ρ wr ls _ hρ hdy h2
    · cases hn
  · cases hn
theorem zi_if_eq (C : zCt l D tA adK adV b sc N0 q d p R s m args meth c) {off : Int} (hdec : decode q.cc pc = .ok (.ifCond .eq off, 3)) (hj : 0 ≤ (pc : Int) + off) (hn : znx sc q d (.ifCond .eq off) 3 pc als ast ws kc ks = some (pc1, als1, ast1, ws1, kc1, ks1)) (K : zCo l D tA adK adV b N0 q p e R s m args below meth c ρ0 Qm pc1 als1 ast1 ws1 kc1 ks1) : zCo l D tA adK adV b N0 q p e R s m args below meth c ρ0 Qm pc als ast ws kc ks := by
  simp only [znx] at hn
  split at hn
  · next x r =>
    split at hn
    · next t ht =>
      simp only [Option.some.injEq, Prod.mk.injEq] at hn
      obtain ⟨rfl, rfl, rfl, rfl, rfl, rfl⟩ := hn
      intro hkc hks H locs ρ wr ls st hρ hdy hst
      obtain ⟨s1, rfl, h1⟩ := zsr_int hst
      refine lv_if_eq (tgt := ((pc : Int) + off).toNat) C.1 C.2.1 hdec (by omega) (fun hc => ?_) (fun hc => ?_)
      · rcases zbr_spec ht with ⟨h3, h4⟩ | ⟨h3, -⟩
        · rw [show ((pc : Int) + off).toNat = t by omega]
          exact K hkc hks H locs ρ wr ls _ hρ hdy h1
        · simp only [zcmp, decide_eq_false_iff_not] at h3; exact absurd hc h3
      · rcases zbr_spec ht with ⟨h3, -⟩ | ⟨-, rfl⟩
        · simp only [zcmp, decide_eq_true_eq] at h3; exact absurd h3 hc
        · exact K hkc hks H locs ρ wr ls _ hρ hdy h1
    · cases hn
  · cases hn
theorem zi_icmp_ne (C : zCt l D tA adK adV b sc N0 q d p R s m args meth c) {off : Int} (hdec : decode q.cc pc = .ok (.if_icmp .ne off, 3)) (hj : 0 ≤ (pc : Int) + off) (hn : znx sc q d (.if_icmp .ne off) 3 pc als ast ws kc ks = some (pc1, als1, ast1, ws1, kc1, ks1)) (K : zCo l D tA adK adV b N0 q p e R s m args below meth c ρ0 Qm pc1 als1 ast1 ws1 kc1 ks1) : zCo l D tA adK adV b N0 q p e R s m args below meth c ρ0 Qm pc als ast ws kc ks := by
  simp only [znx] at hn
  split at hn
  · next y x r =>
    split at hn
    · next t ht =>
      simp only [Option.some.injEq, Prod.mk.injEq] at hn
      obtain ⟨rfl, rfl, rfl, rfl, rfl, rfl⟩ := hn
      intro hkc hks H locs ρ wr ls st hρ hdy hst
      obtain ⟨s1, rfl, h1⟩ := zsr_int hst
      obtain ⟨s2, rfl, h2⟩ := zsr_int h1
      refine lv_icmp_ne (tgt := ((pc : Int) + off).toNat) C.1 C.2.1 hdec (by omega) (fun hc => ?_) (fun hc => ?_)
      · rcases zbr_spec ht with ⟨h3, h4⟩ | ⟨h3, -⟩
        · rw [show ((pc : Int) + off).toNat = t by omega]
          exact K hkc hks H locs ρ wr ls _ hρ hdy h2
        · simp only [zcmp, decide_eq_false_iff_not] at h3; exact absurd hc h3
      · rcases zbr_spec ht with ⟨h3, -⟩ | ⟨-, rfl⟩
        · simp only [zcmp, decide_eq_true_eq] at h3; exact absurd hc h3
        · exact K hkc hks H locs ρ wr ls _ hρ hdy h2
    · cases hn
  · cases hn
theorem zi_if_ne (C : zCt l D tA adK adV b sc N0 q d p R s m args meth c) {off : Int} (hdec : decode q.cc pc = .ok (.ifCond .ne off, 3)) (hj : 0 ≤ (pc : Int) + off) (hn : znx sc q d (.ifCond .ne off) 3 pc als ast ws kc ks = some (pc1, als1, ast1, ws1, kc1, ks1)) (K : zCo l D tA adK adV b N0 q p e R s m args below meth c ρ0 Qm pc1 als1 ast1 ws1 kc1 ks1) : zCo l D tA adK adV b N0 q p e R s m args below meth c ρ0 Qm pc als ast ws kc ks := by
  simp only [znx] at hn
  split at hn
  · next x r =>
    split at hn
    · next t ht =>
      simp only [Option.some.injEq, Prod.mk.injEq] at hn
      obtain ⟨rfl, rfl, rfl, rfl, rfl, rfl⟩ := hn
      intro hkc hks H locs ρ wr ls st hρ hdy hst
      obtain ⟨s1, rfl, h1⟩ := zsr_int hst
      refine lv_if_ne (tgt := ((pc : Int) + off).toNat) C.1 C.2.1 hdec (by omega) (fun hc => ?_) (fun hc => ?_)
      · rcases zbr_spec ht with ⟨h3, h4⟩ | ⟨h3, -⟩
        · rw [show ((pc : Int) + off).toNat = t by omega]
          exact K hkc hks H locs ρ wr ls _ hρ hdy h1
        · simp only [zcmp, decide_eq_false_iff_not] at h3; exact absurd hc h3
      · rcases zbr_spec ht with ⟨h3, -⟩ | ⟨-, rfl⟩
        · simp only [zcmp, decide_eq_true_eq] at h3; exact absurd hc h3
        · exact K hkc hks H locs ρ wr ls _ hρ hdy h1
    · cases hn
  · cases hn
theorem zi_icmp_lt (C : zCt l D tA adK adV b sc N0 q d p R s m args meth c) {off : Int} (hdec : decode q.cc pc = .ok (.if_icmp .lt off, 3)) (hj : 0 ≤ (pc : Int) + off) (hn : znx sc q d (.if_icmp .lt off) 3 pc als ast ws kc ks = some (pc1, als1, ast1, ws1, kc1, ks1)) (K : zCo l D tA adK adV b N0 q p e R s m args below meth c ρ0 Qm pc1 als1 ast1 ws1 kc1 ks1) : zCo l D tA adK adV b N0 q p e R s m args below meth c ρ0 Qm pc als ast ws kc ks := by
  simp only [znx] at hn
  split at hn
  · next y x r =>
    split at hn
    · next t ht =>
      simp only [Option.some.injEq, Prod.mk.injEq] at hn
      obtain ⟨rfl, rfl, rfl, rfl, rfl, rfl⟩ := hn
      intro hkc hks H locs ρ wr ls st hρ hdy hst
      obtain ⟨s1, rfl, h1⟩ := zsr_int hst
      obtain ⟨s2, rfl, h2⟩ := zsr_int h1
      refine lv_icmp_lt (tgt := ((pc : Int) + off).toNat) C.1 C.2.1 hdec (by omega) (fun hc => ?_) (fun hc => ?_)
      · rcases zbr_spec ht with ⟨h3, h4⟩ | ⟨h3, -⟩
        · rw [show ((pc : Int) + off).toNat = t by omega]
          exact K hkc hks H locs ρ wr ls _ hρ hdy h2
        · simp only [zcmp, decide_eq_false_iff_not] at h3; exact absurd hc h3
      · rcases zbr_spec ht with ⟨h3, -⟩ | ⟨-, rfl⟩
        · simp only [zcmp, decide_eq_true_eq] at h3; exact absurd h3 hc
        · exact K hkc hks H locs ρ wr ls _ hρ hdy h2
    · cases hn
  · cases hn
theorem zi_if_lt (C : zCt l D tA adK adV b sc N0 q d p R s m args meth c) {off : Int} (hdec : decode q.cc pc = .ok (.ifCond .lt off, 3)) (hj : 0 ≤ (pc : Int) + off) (hn : znx sc q d (.ifCond .lt off) 3 pc als ast ws kc ks = some (pc1, als1, ast1, ws1, kc1, ks1)) (K : zCo l D tA adK adV b N0 q p e R s m args below meth c ρ0 Qm pc1 als1 ast1 ws1 kc1 ks1) : zCo l D tA adK adV b N0 q p e R s m args below meth c ρ0 Qm pc als ast ws kc ks := by
  simp only [znx] at hn
  split at hn
  · next x r =>
    split at hn
    · next t ht =>
      simp only [Option.some.injEq, Prod.mk.injEq] at hn
      obtain ⟨rfl, rfl, rfl, rfl, rfl, rfl⟩ := hn
      intro hkc hks H locs ρ wr ls st hρ hdy hst
      obtain ⟨s1, rfl, h1⟩ := zsr_int hst
      refine lv_if_lt (tgt := ((pc : Int) + off).toNat) C.1 C.2.1 hdec (by omega) (fun hc => ?_) (fun hc => ?_)
      · rcases zbr_spec ht with ⟨h3, h4⟩ | ⟨h3, -⟩
        · rw [show ((pc : Int) + off).toNat = t by omega]
          exact K hkc hks H locs ρ wr ls _ hρ hdy h1
        · simp only [zcmp, decide_eq_false_iff_not] at h3; exact absurd hc h3
      · rcases zbr_spec ht with ⟨h3, -⟩ | ⟨-, rfl⟩
        · simp only [zcmp, decide_eq_true_eq] at h3; exact absurd h3 hc
        · exact K hkc hks H locs ρ wr ls _ hρ hdy h1
    · cases hn
  · cases hn
theorem zi_icmp_ge (C : zCt l D tA adK adV b sc N0 q d p R s m args meth c) {off : Int} (hdec : decode q.cc pc = .ok (.if_icmp .ge off, 3)) (hj : 0 ≤ (pc : Int) + off) (hn : znx sc q d (.if_icmp .ge off) 3 pc als ast ws kc ks = some (pc1, als1, ast1, ws1, kc1, ks1)) (K : zCo l D tA adK adV b N0 q p e R s m args below meth c ρ0 Qm pc1 als1 ast1 ws1 kc1 ks1) : zCo l D tA adK adV b N0 q p e R s m args below meth c ρ0 Qm pc als ast ws kc ks := by
  simp only [znx] at hn
  split at hn
  · next y x r =>
    split at hn
    · next t ht =>
      simp only [Option.some.injEq, Prod.mk.injEq] at hn
      obtain ⟨rfl, rfl, rfl, rfl, rfl, rfl⟩ := hn
      intro hkc hks H locs ρ wr ls st hρ hdy hst
      obtain ⟨s1, rfl, h1⟩ := zsr_int hst
      obtain ⟨s2, rfl, h2⟩ := zsr_int h1
      refine lv_icmp_ge (tgt := ((pc : Int) + off).toNat) C.1 C.2.1 hdec (by omega) (fun hc => ?_) (fun hc => ?_)
      · rcases zbr_spec ht with ⟨h3, h4⟩ | ⟨h3, -⟩
        · rw [show ((pc : Int) + off).toNat = t by omega]
          exact K hkc hks H locs ρ wr ls _ hρ hdy h2
        · simp only [zcmp, decide_eq_false_iff_not] at h3; exact absurd hc h3
      · rcases zbr_spec ht with ⟨h3, -⟩ | ⟨-, rfl⟩
        · simp only [zcmp, decide_eq_true_eq] at h3; exact absurd h3 hc
        · exact K hkc hks H locs ρ wr ls _ hρ hdy h2
    · cases hn
  · cases hn
theorem zi_if_ge (C : zCt l D tA adK adV b sc N0 q d p R s m args meth c) {off : Int} (hdec : decode q.cc pc = .ok (.ifCond .ge off, 3)) (hj : 0 ≤ (pc : Int) + off) (hn : znx sc q d (.ifCond .ge off) 3 pc als ast ws kc ks = some (pc1, als1, ast1, ws1, kc1, ks1)) (K : zCo l D tA adK adV b N0 q p e R s m args below meth c ρ0 Qm pc1 als1 ast1 ws1 kc1 ks1) : zCo l D tA adK adV b N0 q p e R s m args below meth c ρ0 Qm pc als ast ws kc ks := by
  simp only [znx] at hn
  split at hn
  · next x r =>
    split at hn
    · next t ht =>
      simp only [Option.some.injEq, Prod.mk.injEq] at hn
      obtain ⟨rfl, rfl, rfl, rfl, rfl, rfl⟩ := hn
      intro hkc hks H locs ρ wr ls st hρ hdy hst
      obtain ⟨s1, rfl, h1⟩ := zsr_int hst
      refine lv_if_ge (tgt := ((pc : Int) + off).toNat) C.1 C.2.1 hdec (by omega) (fun hc => ?_) (fun hc => ?_)
      · rcases zbr_spec ht with ⟨h3, h4⟩ | ⟨h3, -⟩
        · rw [show ((pc : Int) + off).toNat = t by omega]
          exact K hkc hks H locs ρ wr ls _ hρ hdy h1
        · simp only [zcmp, decide_eq_false_iff_not] at h3; exact absurd hc h3
      · rcases zbr_spec ht with ⟨h3, -⟩ | ⟨-, rfl⟩
        · simp only [zcmp, decide_eq_true_eq] at h3; exact absurd h3 hc
        · exact K hkc hks H locs ρ wr ls _ hρ hdy h1
    · cases hn
  · cases hn
theorem zi_icmp_gt (C : zCt l D tA adK adV b sc N0 q d p R s m args meth c) {off : Int} (hdec : decode q.cc pc = .ok (.if_icmp .gt off, 3)) (hj : 0 ≤ (pc : Int) + off) (hn : znx sc q d (.if_icmp .gt off) 3 pc als ast ws kc ks = some (pc1, als1, ast1, ws1, kc1, ks1)) (K : zCo l D tA adK adV b N0 q p e R s m args below meth c ρ0 Qm pc1 als1 ast1 ws1 kc1 ks1) : zCo l D tA adK adV b N0 q p e R s m args below meth c ρ0 Qm pc als ast ws kc ks := by
  simp only [znx] at hn
  split at hn
  · next y x r =>
    split at hn
    · next t ht =>
      simp only [Option.some.injEq, Prod.mk.injEq] at hn
      obtain ⟨rfl, rfl, rfl, rfl, rfl, rfl⟩ := hn
      intro hkc hks H locs ρ wr ls st hρ hdy hst
      obtain ⟨s1, rfl, h1⟩ := zsr_int hst
      obtain ⟨s2, rfl, h2⟩ := zsr_int h1
      refine lv_icmp_gt (tgt := ((pc : Int) + off).toNat) C.1 C.2.1 hdec (by omega) (fun hc => ?_) (fun hc => ?_)
      · rcases zbr_spec ht with ⟨h3, h4⟩ | ⟨h3, -⟩
        · rw [show ((pc : Int) + off).toNat = t by omega]
          exact K hkc hks H locs ρ wr ls _ hρ hdy h2
        · simp only [zcmp, decide_eq_false_iff_not] at h3; exact absurd hc h3
      · rcases zbr_spec ht with ⟨h3, -⟩ | ⟨-, rfl⟩
        · simp only [zcmp, decide_eq_true_eq] at h3; exact absurd h3 hc
        · exact K hkc hks H locs ρ wr ls _ hρ hdy h2
    · cases hn
  · cases hn
theorem zi_if_gt (C : zCt l D tA adK adV b sc N0 q d p R s m args meth c) {off : Int} (hdec : decode q.cc pc = .ok (.ifCond .gt off, 3)) (hj : 0 ≤ (pc : Int) + off) (hn : znx sc q d (.ifCond .gt off) 3 pc als ast ws kc ks = some (pc1, als1, ast1, ws1, kc1, ks1)) (K : zCo l D tA adK adV b N0 q p e R s m args below meth c ρ0 Qm pc1 als1 ast1 ws1 kc1 ks1) : zCo l D tA adK adV b N0 q p e R s m args below meth c ρ0 Qm pc als ast ws kc ks := by
  simp only [znx] at hn
  split at hn
  · next x r =>
    split at hn
    · next t ht =>
      simp only [Option.some.injEq, Prod.mk.injEq] at hn
      obtain ⟨rfl, rfl, rfl, rfl, rfl, rfl⟩ := hn
      intro hkc hks H locs ρ wr ls st hρ hdy hst
      obtain ⟨s1, rfl, h1⟩ := zsr_int hst
      refine lv_if_gt (tgt := ((pc : Int) + off).toNat) C.1 C.2.1 hdec (by omega) (fun hc => ?_) (fun hc => ?_)
      · rcases zbr_spec ht with ⟨h3, h4⟩ | ⟨h3, -⟩
        · rw [show ((pc : Int) + off).toNat = t by omega]
          exact K hkc hks H locs ρ wr ls _ hρ hdy h1
        · simp only [zcmp, decide_eq_false_iff_not] at h3; exact absurd hc h3
      · rcases zbr_spec ht with ⟨h3, -⟩ | ⟨-, rfl⟩
        · simp only [zcmp, decide_eq_true_eq] at h3; exact absurd h3 hc
        · exact K hkc hks H locs ρ wr ls _ hρ hdy h1
    · cases hn
  · cases hn
theorem zi_icmp_le (C : zCt l D tA adK adV b sc N0 q d p R s m args meth c) {off : Int} (hdec : decode q.cc pc = .ok (.if_icmp .le off, 3)) (hj : 0 ≤ (pc : Int) + off) (hn : znx sc q d (.if_icmp .le off) 3 pc als ast ws kc ks = some (pc1, als1, ast1, ws1, kc1, ks1)) (K : zCo l D tA adK adV b N0 q p e R s m args below meth c ρ0 Qm pc1 als1 ast1 ws1 kc1 ks1) : zCo l D tA adK adV b N0 q p e R s m args below meth c ρ0 Qm pc als ast ws kc ks := by
  simp only [znx] at hn
  split at hn
  · next y x r =>
    split at hn
    · next t ht =>
      simp only [Option.some.injEq, Prod.mk.injEq] at hn
      obtain ⟨rfl, rfl, rfl, rfl, rfl, rfl⟩ := hn
      intro hkc hks H locs ρ wr ls st hρ hdy hst
      obtain ⟨s1, rfl, h1⟩ := zsr_int hst
      obtain ⟨s2, rfl, h2⟩ := zsr_int h1
      refine lv_icmp_le (tgt := ((pc : Int) + off).toNat) C.1 C.2.1 hdec (by omega) (fun hc => ?_) (fun hc => ?_)
      · rcases zbr_spec ht with ⟨h3, h4⟩ | ⟨h3, -⟩
        · rw [show ((pc : Int) + off).toNat = t by omega]
          exact K hkc hks H locs ρ wr ls _ hρ hdy h2
        · simp only [zcmp, decide_eq_false_iff_not] at h3; exact absurd hc h3
      · rcases zbr_spec ht with ⟨h3, -⟩ | ⟨-, rfl⟩
        · simp only [zcmp, decide_eq_true_eq] at h3; exact absurd h3 hc
        · exact K hkc hks H locs ρ wr ls _ hρ hdy h2
    · cases hn
  · cases hn
theorem zi_if_le (C : zCt l D tA adK adV b sc N0 q d p R s m args meth c) {off : Int} (hdec : decode q.cc pc = .ok (.ifCond .le off, 3)) (hj : 0 ≤ (pc : Int) + off) (hn : znx sc q d (.ifCond .le off) 3 pc als ast ws kc ks = some (pc1, als1, ast1, ws1, kc1, ks1)) (K : zCo l D tA adK adV b N0 q p e R s m args below meth c ρ0 Qm pc1 als1 ast1 ws1 kc1 ks1) : zCo l D tA adK adV b N0 q p e R s m args below meth c ρ0 Qm pc als ast ws kc ks := by
  simp only [znx] at hn
  split at hn
  · next x r =>
    split at hn
    · next t ht =>
      simp only [Option.some.injEq, Prod.mk.injEq] at hn
      obtain ⟨rfl, rfl, rfl, rfl, rfl, rfl⟩ := hn
      intro hkc hks H locs ρ wr ls st hρ hdy hst
      obtain ⟨s1, rfl, h1⟩ := zsr_int hst
      refine lv_if_le (tgt := ((pc : Int) + off).toNat) C.1 C.2.1 hdec (by omega) (fun hc => ?_) (fun hc => ?_)
      · rcases zbr_spec ht with ⟨h3, h4⟩ | ⟨h3, -⟩
        · rw [show ((pc : Int) + off).toNat = t by omega]
          exact K hkc hks H locs ρ wr ls _ hρ hdy h1
        · simp only [zcmp, decide_eq_false_iff_not] at h3; exact absurd hc h3
      · rcases zbr_spec ht with ⟨h3, -⟩ | ⟨-, rfl⟩
        · simp only [zcmp, decide_eq_true_eq] at h3; exact absurd h3 hc
        · exact K hkc hks H locs ρ wr ls _ hρ hdy h1
    · cases hn
  · cases hn
theorem zi_tsw (C : zCt l D tA adK adV b sc N0 q d p R s m args meth c) {dflt lo hi : Int} {offs : Array Int} (hdec : decode q.cc pc = .ok (.tableswitch dflt lo hi offs, n)) (hn : znx sc q d (.tableswitch dflt lo hi offs) n pc als ast ws kc ks = some (pc1, als1, ast1, ws1, kc1, ks1)) (K : zCo l D tA adK adV b N0 q p e R s m args below meth c ρ0 Qm pc1 als1 ast1 ws1 kc1 ks1) : zCo l D tA adK adV b N0 q p e R s m args below meth c ρ0 Qm pc als ast ws kc ks := by
  simp only [znx] at hn
  split at hn
  · next x r =>
    split at hn
    · next off hoff =>
      split at hn
      · next t ht =>
        simp only [Option.some.injEq, Prod.mk.injEq] at hn
        obtain ⟨rfl, rfl, rfl, rfl, rfl, rfl⟩ := hn
        intro hkc hks H locs ρ wr ls st hρ hdy hst
        obtain ⟨s1, rfl, h1⟩ := zsr_int hst
        unfold zsw at hoff
        split at hoff
        · next hr => cases hoff; exact lv_tableOut C.1 C.2.1 hdec hr (zgo_spec ht) (K hkc hks H locs ρ wr ls _ hρ hdy h1)
        · next hr => exact lv_tableIn C.1 C.2.1 hdec (fun h => hr (Or.inl h)) (fun h => hr (Or.inr h)) hoff (zgo_spec ht) (K hkc hks H locs ρ wr ls _ hρ hdy h1)
      · cases hn
    · cases hn
  · cases hn
end ZI
