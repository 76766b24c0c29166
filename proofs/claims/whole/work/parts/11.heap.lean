/-! laws of the instructions that read, write and make cells -/
theorem zcl_at {ci : Nat} (h : ci < 11) : zcl[ci]? = some (zCN.getD ci "", zT ci, zNF ci) := by
  simp [zcl, h]
theorem zcl_lt {ci : Nat} {r : vw_C} (h : zcl[ci]? = some r) : ci < 11 := by
  have := (List.getElem?_eq_some_iff.mp h).1
  simpa [zcl] using this
theorem zrange {P : Nat → Bool} {n : Nat} (h : (List.range n).all P = true) {i : Nat} (hi : i < n) : P i = true := List.all_eq_true.mp h i (List.mem_range.mpr hi)
theorem zlay {ci : Nat} (h : ci < 11) : ∀ w ∈ u_ws (zCN.getD ci "") (zT ci) (zNF ci), w ∈ zws := fun w hw => zws_of (zchk_spec (c := id) (zrange zL_c h) hw) (List.all_eq_true.mp (zrange zL_g h) w hw)
theorem zty_ok {ci : Nat} (h : ci < 11) : ∀ k, k < zNF ci → parseFieldDescriptor (zT ci k).2.2.1 = some (zty ci k) := fun k hk => by
  have := zrange (zrange zT_ty h) hk
  simpa using this
theorem znm_ok {ci : Nat} (h : ci < 11) : ∀ a, a < zNF ci → ∀ b, b < zNF ci → a ≠ b → (zT ci a).2.1 ≠ (zT ci b).2.1 := fun a ha b hb hne => by
  have := zrange (zrange (zrange zT_nm h) ha) hb
  simp only [Bool.or_eq_true, decide_eq_true_eq] at this
  rcases this with h | h
  · exact absurd h hne
  · exact h
theorem zown_ok {ci : Nat} (h : ci < 11) {k : Nat} (hk : k < zNF ci) : (zT ci k).1 = zCN.getD ci "" := by
  have := zrange zT_own h
  simp only [Bool.and_eq_true] at this
  simpa using zrange this.1 hk
theorem ztl_ok {ci : Nat} (h : ci < 11) : (zTs.getD ci []).length = zNF ci := by
  have := zrange zT_own h
  simp only [Bool.and_eq_true, decide_eq_true_eq] at this
  exact this.2
theorem zdiv {a k : Nat} (h : k < 10000) : (a * 10000 + k) / 10000 = a ∧ (a * 10000 + k) % 10000 = k := by omega
theorem zfl_in {cn k r : Nat} (hk : k < 10000) (h : zlk (cn * 10000 + k) zFL = some r) : Cond.fieldLink (zCN.getD cn "") k (zft r).1 (zft r).2.1 (zft r).2.2 ∈ zws := by
  have h1 := zFL_ok (zlk_mem h)
  simpa only [zfc, (zdiv (a := cn) hk).1, (zdiv (a := cn) hk).2] using h1
theorem zfl_r {cn k r : Nat} (h : zlk (cn * 10000 + k) zFL = some r) : zfr r = true := List.all_eq_true.mp zFL_r _ (zlk_mem h)
theorem zml_in {cn k r : Nat} (hk : k < 10000) (h : zlk (cn * 10000 + k) zML = some r) : Cond.methodLink (zCN.getD cn "") k (zcy r) ∈ zws := by
  have h1 := zML_ok (zlk_mem h)
  simpa only [zmc, (zdiv (a := cn) hk).1, (zdiv (a := cn) hk).2] using h1
theorem zcl_in {cn k r : Nat} (hk : k < 10000) (h : zlk (cn * 10000 + k) zCL = some r) : Cond.classLink (zCN.getD cn "") k (zCN.getD r "") ∈ zws := by
  have h1 := zCL_ok (zlk_mem h)
  simpa only [zcc, (zdiv (a := cn) hk).1, (zdiv (a := cn) hk).2] using h1
theorem zel_in {cn k r : Nat} (hk : k < 10000) (h : zlk (cn * 10000 + k) zEL = some r) : Cond.classLink (zCN.getD cn "") k (zEN r) ∈ zws := by
  have h1 := zEL_ok (zlk_mem h)
  simpa only [zec, (zdiv (a := cn) hk).1, (zdiv (a := cn) hk).2] using h1
theorem zft_own {r : Nat} (h : zfr r = true) (h2 : r / 100 < 11) : zft r = ((zT (r / 100) (r % 100)).1, (zT (r / 100) (r % 100)).2.1, (zT (r / 100) (r % 100)).2.2.1) ∧ r % 100 < zNF (r / 100) := by
  simp only [zfr, decide_eq_true_eq] at h
  rcases h with rfl | rfl | h
  · omega
  · omega
  · refine ⟨?_, h.2⟩
    unfold zft
    rw [if_neg (by omega), if_neg (by omega)]
theorem zfit_ok {ty : FieldType} {v v' : Value} {ad : Nat → Nat} {ρ : List Nat} (h : zfit ty v = true) (hv : zvr ad ρ v v') : narrow ty v' = v' ∧ fits ty v' = true := by
  cases ty <;> cases v <;> simp only [zfit, Bool.false_eq_true, decide_eq_true_eq] at h
  case boolean.int x =>
    cases hv
    rcases h with rfl | rfl <;> decide
  case int.int x =>
    cases hv
    exact ⟨rfl, rfl⟩
  case object.ref n k =>
    obtain ⟨a, rfl, -⟩ := hv
    exact ⟨rfl, rfl⟩
  case array.ref t k =>
    obtain ⟨a, rfl, -⟩ := hv
    exact ⟨rfl, rfl⟩
theorem zad_K {adK adV : Nat → Nat} {b a : Nat} (h : ¬ a < 1000) (hi : a - 1000 < 48) : zad adK adV b a = adK (a - 1000) := by
  have h1 : a < 2000 := by omega
  simp [zad, h1]
theorem zad_V {adK adV : Nat → Nat} {b a : Nat} (h : ¬ a < 1000) (hi : a - 1000 < 48) : zad adK adV b (a + 1000) = adV (a - 1000) := by
  have h1 : ¬ a + 1000 < 2000 := by omega
  have h2 : a + 1000 < 3000 := by omega
  have h3 : a + 1000 - 2000 = a - 1000 := by omega
  simp only [zad, if_neg h1, if_pos h2, h3]
theorem znl (a : Nat) : ¬ a + 1000 < 1000 := by omega
section ZH
variable {l : Launch} {D : va_G} {tA : FieldType → ClassId} {adK adV : Nat → Nat} {b : Nat} {sc : Nat × (Nat → Int32)} {N0 : Nat} {q : zMI} {d : Nat} {p : Program} {e : Env} {R : Room} {s : State} {m : MethodId} {args : Array Value} {below : List Frame} {meth : Method} {c : Code} {ρ0 : List Nat} {Qm : State → Prop}
variable {pc pc1 n : Nat} {als als1 ast ast1 : List Value} {ws ws1 : List zC} {kc kc1 ks ks1 : Nat}
theorem zi_getfield (C : zCt l D tA adK adV b sc N0 q d p R s m args meth c) {k r : Nat} (hk : k < 10000) (hz : zlk (q.cn * 10000 + k) zFL = some r) (hdec : decode q.cc pc = .ok (.getfield k, 3)) (hn : znx sc q d (.getfield r) 3 pc als ast ws kc ks = some (pc1, als1, ast1, ws1, kc1, ks1)) (K : zCo l D tA adK adV b N0 q p e R s m args below meth c ρ0 Qm pc1 als1 ast1 ws1 kc1 ks1) : zCo l D tA adK adV b N0 q p e R s m args below meth c ρ0 Qm pc als ast ws kc ks := by
  obtain ⟨hx, hb, hml, hrt, hlk, hini, htab, hown, hts, hKn, hEx, hN0, hfr, hlo, hmc, hms, hnt, hqM⟩ := C
  have hlink := hts _ (zfl_in hk hz)
  have hr := zfl_r hz
  simp only [znx] at hn
  split at hn
  · next a s' =>
    split at hn
    · next v hv =>
      simp only [Option.some.injEq, Prod.mk.injEq] at hn
      obtain ⟨rfl, rfl, rfl, rfl, rfl, rfl⟩ := hn
      intro hkc hks H locs ρ wr ls st hρ hdy hst
      have hdy' := hdy
      obtain ⟨y1, y2, y3, y4, y5, y6⟩ := hdy
      obtain ⟨a', s1, rfl, ha, h1⟩ := zsr_ref hst
      unfold zget at hv
      split at hv
      · next ha0 =>
        rw [if_pos ha0] at ha
        split at hv
        · next ci fs hw =>
          split at hv
          · next hci =>
            obtain ⟨e1, h2, fs', rfl, h3⟩ := zwr_at y4 hw ha
            obtain ⟨v', h4, h5⟩ := zsr_at h3 hv
            have hlt : ci < 11 := by
              obtain ⟨r1, hr1, -⟩ := y2 a _ h2
              exact zcl_lt hr1
            subst hci
            obtain ⟨f1, f2⟩ := zft_own hr hlt
            rw [f1] at hlink
            exact va_get hx hb hts (zlay hlt) hown hKn.1 y2 a h2 (zcl_at hlt) (r % 100) f2 hlink (fun x h => h) h4 hdec (K hkc hks H locs ρ wr ls _ hρ hdy' ⟨h5, h1⟩)
          · cases hv
        · cases hv
      · next ha0 =>
        rw [if_neg ha0] at ha
        split at hv
        · next hi =>
          subst ha
          rw [zad_K ha0 hi]
          have ha1 : ¬ a + 1000 < 1000 := znl a
          split at hv
          · next h9 =>
            subst h9
            cases hv
            exact vk_getf hx hb (hEx.1 _ hi).2.2.1 y1 hown hlink (fun x h => h) hdec (K hkc hks H locs ρ wr ls _ hρ hdy' ⟨⟨adV (a - 1000), rfl, by rw [if_neg ha1, zad_V ha0 hi]⟩, h1⟩)
          · split at hv
            · next h9 =>
              subst h9
              cases hv
              exact vk_getf hx hb (hEx.1 _ hi).2.1 y1 hown hlink (fun x h => h) hdec (K hkc hks H locs ρ wr ls _ hρ hdy' ⟨rfl, h1⟩)
            · cases hv
        · cases hv
    · cases hn
  · cases hn
theorem zi_putfield (C : zCt l D tA adK adV b sc N0 q d p R s m args meth c) {k r : Nat} (hk : k < 10000) (hz : zlk (q.cn * 10000 + k) zFL = some r) (hdec : decode q.cc pc = .ok (.putfield k, 3)) (hn : znx sc q d (.putfield r) 3 pc als ast ws kc ks = some (pc1, als1, ast1, ws1, kc1, ks1)) (K : zCo l D tA adK adV b N0 q p e R s m args below meth c ρ0 Qm pc1 als1 ast1 ws1 kc1 ks1) : zCo l D tA adK adV b N0 q p e R s m args below meth c ρ0 Qm pc als ast ws kc ks := by
  obtain ⟨hx, hb, hml, hrt, hlk, hini, htab, hown, hts, hKn, hEx, hN0, hfr, hlo, hmc, hms, hnt, hqM⟩ := C
  have hlink := hts _ (zfl_in hk hz)
  have hr := zfl_r hz
  simp only [znx] at hn
  split at hn
  · next v a s' =>
    split at hn
    · next ws' hv =>
      simp only [Option.some.injEq, Prod.mk.injEq] at hn
      obtain ⟨rfl, rfl, rfl, rfl, rfl, rfl⟩ := hn
      intro hkc hks H locs ρ wr ls st hρ hdy hst
      obtain ⟨y1, y2, y3, y4, y5, y6⟩ := hdy
      obtain ⟨v', t1, rfl, hvr, h0⟩ := zsr_cons hst
      obtain ⟨a', s1, rfl, ha, h1⟩ := zsr_ref h0
      unfold zput at hv
      split at hv
      · next ha0 =>
        rw [if_pos ha0] at ha
        split at hv
        · next ci fs hw =>
          split at hv
          · next hcc =>
            obtain ⟨hci, hkN, hkl, hft, hfin⟩ := hcc
            cases hv
            obtain ⟨e1, h2, fs', rfl, h3⟩ := zwr_at y4 hw ha
            have hlt : ci < 11 := by
              obtain ⟨r1, hr1, -⟩ := y2 a _ h2
              exact zcl_lt hr1
            subst hci
            obtain ⟨f1, f2⟩ := zft_own hr hlt
            rw [f1] at hlink
            obtain ⟨g1, g2⟩ := zfit_ok hft hvr
            have hl' : r % 100 < fs'.length := by rw [zsr_len h3]; exact hkl
            cases hF : (zT (r / 100) (r % 100)).2.2.2 with
            | false =>
              exact va_put hx hb hts (zlay hlt) (zty (r / 100)) (zty_ok hlt) (znm_ok hlt) hown hKn.1 y2 y3 y1 a h2 (zcl_at hlt) (r % 100) f2 hlink (fun x h => h) hF (zty_ok hlt _ f2) g1 g2 hl' hdec
                (fun H1 locs1 p1 p2 p3 => K hkc hks H1 locs1 ρ _ ls _ hρ ⟨p3, p1, p2, zwr_set y4 h2 ⟨_, rfl, zsr_set _ h3 hvr⟩, y5, y6⟩ h1)
            | true =>
              obtain ⟨q1, q2⟩ := hfin hF
              exact va_putF hx hb hts (zlay hlt) (zty (r / 100)) (zty_ok hlt) (znm_ok hlt) hown hKn.1 y2 y3 y1 a h2 (zcl_at hlt) (r % 100) f2 hlink (fun x h => h) hF (hini q1) (by rw [zown_ok hlt f2, q2]) (zty_ok hlt _ f2) g1 g2 hl' hdec
                (fun H1 locs1 p1 p2 p3 => K hkc hks H1 locs1 ρ _ ls _ hρ ⟨p3, p1, p2, zwr_set y4 h2 ⟨_, rfl, zsr_set _ h3 hvr⟩, y5, y6⟩ h1)
          · cases hv
        · cases hv
      · cases hv
    · cases hn
  · cases hn
theorem zi_getstatic (C : zCt l D tA adK adV b sc N0 q d p R s m args meth c) {k r : Nat} (hk : k < 10000) (hz : zlk (q.cn * 10000 + k) zGL = some r) (hdec : decode q.cc pc = .ok (.getstatic k, 3)) (hn : znx sc q d (.getstatic r) 3 pc als ast ws kc ks = some (pc1, als1, ast1, ws1, kc1, ks1)) (K : zCo l D tA adK adV b N0 q p e R s m args below meth c ρ0 Qm pc1 als1 ast1 ws1 kc1 ks1) : zCo l D tA adK adV b N0 q p e R s m args below meth c ρ0 Qm pc als ast ws kc ks := by
  obtain ⟨hx, hb, hml, hrt, hlk, hini, htab, hown, hts, hKn, hEx, hN0, hfr, hlo, hmc, hms, hnt, hqM⟩ := C
  have hlink := hts _ (zGL_ok (zlk_mem hz))
  simp only [zgc, (zdiv (a := q.cn) hk).1, (zdiv (a := q.cn) hk).2] at hlink
  simp only [znx] at hn
  split at hn
  · next h0 =>
    rw [if_pos h0] at hlink
    simp only [Option.some.injEq, Prod.mk.injEq] at hn
    obtain ⟨rfl, rfl, rfl, rfl, rfl, rfl⟩ := hn
    intro hkc hks H locs ρ wr ls st hρ hdy hst
    exact va_gets hx hb hEx.2.2.1 hdy.1 hown hlink (fun x h => h) hdec (K hkc hks H locs ρ wr ls _ hρ hdy ⟨rfl, hst⟩)
  · next h0 =>
    rw [if_neg h0] at hlink
    split at hn
    · simp only [Option.some.injEq, Prod.mk.injEq] at hn
      obtain ⟨rfl, rfl, rfl, rfl, rfl, rfl⟩ := hn
      intro hkc hks H locs ρ wr ls st hρ hdy hst
      rcases hEx.2.2.2.1 with hZ | ⟨t, hZ⟩
      · exact va_gets hx hb hZ hdy.1 hown hlink (fun x h => h) hdec (K hkc hks H locs ρ wr ls _ hρ hdy ⟨Or.inr ⟨by decide, rfl⟩, hst⟩)
      · exact va_gets hx hb hZ hdy.1 hown hlink (fun x h => h) hdec (K hkc hks H locs ρ wr ls _ hρ hdy ⟨Or.inl ⟨t, rfl⟩, hst⟩)
    · cases hn
end ZH
