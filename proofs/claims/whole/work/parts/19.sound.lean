/-! THE MACHINE IS SOUND: all its steps -/
theorem zNSE_i : Cond.initialized zNSE ∈ zws := zat1 (i := 23) rfl rfl
theorem zIAE_i : Cond.initialized zIAE ∈ zws := zat1 (i := 15) rfl rfl
theorem zrx_0 : decode (zrx0 0) 0 = .ok (.aload_n 0, 1) ∧ decode (zrx0 0) 1 = .ok (.aload_n 1, 1) ∧ decode (zrx0 0) 2 = .ok (.invokespecial 13, 3) ∧ decode (zrx0 0) 5 = .ok (.return_, 1) := by decide +kernel
theorem zrx_1 : decode (zrx0 1) 0 = .ok (.aload_n 0, 1) ∧ decode (zrx0 1) 1 = .ok (.aload_n 1, 1) ∧ decode (zrx0 1) 2 = .ok (.invokespecial 7, 3) ∧ decode (zrx0 1) 5 = .ok (.return_, 1) := by decide +kernel
theorem zfit_n : Bundle.fit zNSE = true ∧ Bundle.fit zIAE = true ∧ ∀ n ∈ zRE, Bundle.fit n = true := by decide +kernel
section ZV
variable {l : Launch} {D : va_G} {tA : FieldType → ClassId} {adK adV : Nat → Nat} {b : Nat} {sc : Nat × (Nat → Int32)} {N0 : Nat}
variable {q : zMI} {d : Nat} {p : Program} {e : Env} {R : Room} {s : State} {m : MethodId} {args : Array Value} {below : List Frame} {meth : Method} {c : Code} {ρ0 : List Nat}
theorem zaw_ok (C : zCt l D tA adK adV b sc N0 q d p R s m args meth c) {x : Nat} (hx : x < 2) : ∀ w ∈ zaw x, w.before args s = true := by
  obtain ⟨hx0, hb, hml, hrt, hlk, hini, htab, hown, hts, hKn, hEx, hN0, hfr, hlo, hmc, hms, hnt, hqM⟩ := C
  intro w hw
  have hm : w ∈ zaw 0 ++ zaw 1 := by
    rcases zEN_lt hx with rfl | rfl
    · exact List.mem_append_left _ hw
    · exact List.mem_append_right _ hw
  cases hg : goodWord w with
  | true =>
    have h1 := List.all_eq_true.mp zaw_good w (List.mem_filter.mpr ⟨hm, hg⟩)
    exact hts w (zws_of (by simpa using h1) hg)
  | false =>
    have h1 : w ∈ zxw := List.mem_append_right _ (List.mem_filter.mpr ⟨hm, by rw [hg]; rfl⟩)
    exact va_Nw.use (zkk_on (List.all_eq_true.mp zxw_kk w h1)) (hKn.2.2.1 w h1)
theorem zthrow (C : zCt l D tA adK adV b sc N0 q d p R s m args meth c) {mi pc x z : Nat} (hq : zM[mi]? = some q) (hx : x < 2) (hz : z < 48) (hcn : q.cn = 9) (hh : q.hh = []) (hd : 6 ≤ d) {als ast : List Value} {ws : List zC} {kc ks : Nat} {Q : zPost} (hwd : zwd ast ≤ 8) (hkc1 : kc + 1 ≤ q.mc) (hks1 : ks + 6 ≤ q.ms) (h0 : zop mi pc = some (.new (100 + x), 3)) (h3 : zop mi (pc + 3) = some (.dup, 1))
    (h4 : (zop mi (pc + 4) = some (.ldc z, 2) ∧ zop mi (pc + 6) = some (.invokespecial (1010 + x), 3) ∧ zop mi (pc + 9) = some (.athrow, 1)) ∨ (zop mi (pc + 4) = some (.ldc_w z, 3) ∧ zop mi (pc + 7) = some (.invokespecial (1010 + x), 3) ∧ zop mi (pc + 10) = some (.athrow, 1))) (hQ : Q (.inr x) ws) :
    zCo l D tA adK adV b N0 q p e R s m args below meth c ρ0 (vx_MQ below (zQc D tA adK adV b N0 ρ0 Q) (zXC D tA adK adV b N0 ρ0 Q) args s q.mc q.ms (zAr N0)) pc als ast ws kc ks := by
  have C' := C
  obtain ⟨hx0, hb, hml, hrt, hlk, hini, htab, hown, hts, hKn, hEx, hN0, hfr, hlo, hmc, hms, hnt, hqM⟩ := C
  have hown9 : zCN.getD q.cn "" = "CobblePorts" := by rw [hcn]; rfl
  rw [hown9] at hown
  obtain ⟨r0, d0, l0, -, e0⟩ := zop_spec hq h0
  obtain ⟨ik, rfl, hel⟩ := zres_ne e0
  simp only [zil, Bool.and_eq_true, beq_iff_eq, decide_eq_true_eq] at l0
  have hk := hts _ (zel_in l0.2 hel)
  rw [hown9] at hk
  obtain ⟨r3, d3, -, -, e3⟩ := zop_spec hq h3
  cases zres_dup e3
  -- the text, the constructor, the throw
  have hic : ∀ {pc' k : Nat}, zlk (q.cn * 10000 + k) zML = some (1010 + x) → k < 10000 → k = zic0 x := by
    intro pc' k h hk9
    have h1 := List.all_eq_true.mp zML_x _ (zlk_mem h)
    simp only [decide_eq_true_eq, (zdiv (a := q.cn) hk9).2] at h1
    rcases zEN_lt hx with rfl | rfl
    · exact h1.1 rfl
    · exact h1.2 rfl
  have hctor : ∀ {pc' : Nat}, zop mi pc' = some (.invokespecial (1010 + x), 3) → decode q.cc pc' = .ok (.invokespecial (zic0 x), 3) := by
    intro pc' h
    obtain ⟨r, hd9, hl9, -, he9⟩ := zop_spec hq h
    obtain ⟨k, rfl, hz9⟩ := zres_ip he9
    simp only [zil, Bool.and_eq_true, beq_iff_eq, decide_eq_true_eq] at hl9
    rcases hz9 with ⟨hz9, -⟩ | ⟨j1, hj1, hz9, -⟩
    · rw [← hic (pc' := pc') hz9 hl9.2]; exact hd9
    · have h8 := List.all_eq_true.mp zNL_r _ (zlk_mem hz9)
      simp only [decide_eq_true_eq] at h8
      omega
  have hath : ∀ {pc' : Nat}, zop mi pc' = some (.athrow, 1) → decode q.cc pc' = .ok (.athrow, 1) := by
    intro pc' h
    obtain ⟨r, hd9, -, -, he9⟩ := zop_spec hq h
    cases zres_at he9
    exact hd9
  have key : ∃ (n4 is : Nat) (i4 : Instr), decode q.cc (pc + 4) = .ok (i4, n4) ∧ ((i4 = .ldc is ∧ n4 = 2) ∨ (i4 = .ldc_w is ∧ n4 = 3)) ∧ decode q.cc (pc + 4 + n4) = .ok (.invokespecial (zic0 x), 3) ∧ decode q.cc (pc + 4 + n4 + 3) = .ok (.athrow, 1) ∧ vk_R "CobblePorts" is (zsn z).2.2 (adK z) s := by
    have hv := hKn.2.1 z hz
    rcases h4 with ⟨h5, h6, h7⟩ | ⟨h5, h6, h7⟩
    · obtain ⟨r, hd9, hl9, -, he9⟩ := zop_spec hq h5
      obtain ⟨k, rfl, hs⟩ := zres_lc hz he9
      simp only [zil, Bool.and_eq_true, beq_iff_eq, decide_eq_true_eq] at hl9
      obtain ⟨-, g2, g3⟩ := zsl_in hl9.2 hs
      rw [g2, g3, hown9] at hv
      exact ⟨2, k, _, hd9, Or.inl ⟨rfl, rfl⟩, hctor h6, hath h7, hv⟩
    · obtain ⟨r, hd9, hl9, -, he9⟩ := zop_spec hq h5
      obtain ⟨k, rfl, hs⟩ := zres_lw hz he9
      simp only [zil, Bool.and_eq_true, beq_iff_eq, decide_eq_true_eq] at hl9
      obtain ⟨-, g2, g3⟩ := zsl_in hl9.2 hs
      rw [g2, g3, hown9] at hv
      exact ⟨3, k, _, hd9, Or.inr ⟨rfl, rfl⟩, hctor h6, hath h7, hv⟩
  obtain ⟨n4, is, i4, d4, hi4, d6, d9, hv⟩ := key
  have hrx : decode (zrx0 x) 0 = .ok (.aload_n 0, 1) ∧ decode (zrx0 x) 1 = .ok (.aload_n 1, 1) ∧ decode (zrx0 x) 2 = .ok (.invokespecial (zix0 x), 3) ∧ decode (zrx0 x) 5 = .ok (.return_, 1) := by
    rcases zEN_lt hx with rfl | rfl
    · exact zrx_0
    · exact zrx_1
  have hinit : Cond.initialized (zEN x) ∈ zws := by
    rcases zEN_lt hx with rfl | rfl
    · exact zNSE_i
    · exact zIAE_i
  have hfitn : Bundle.fit (zEN x) = true := by
    rcases zEN_lt hx with rfl | rfl
    · exact zfit_n.1
    · exact zfit_n.2.1
  intro hkc hks H locs ρ wr ls st hρ hdy hst
  have hsz := zlr_size hdy.2.2.2.2.1
  have hw := zsr_wd hst
  obtain ⟨y1, y2, y3, y4, y5, y6⟩ := hdy
  refine zthrowW (names := zRE) (A := zAr N0) hx0 hb hnt hrx.1 hrx.2.1 hrx.2.2.1 hrx.2.2.2 hown hfitn zfit_n.2.2 hk (hts _ hinit) hv (zaw_ok C' hx) (fun w hw9 => ?_) hEx.2.2.2.2.1 hEx.2.2.2.2.2 y1 (by rw [hsz, y6, hml]) d0 d3 d4 hi4 d6 d9 (fun z9 hz9 => by rw [htab, hh] at hz9; cases hz9) (by show 2 + 3 < _; omega) (by show _ + (13 * (2 + 1) + 43) ≤ _; omega) (by omega) (by omega) hlk (fun t hal hsz9 hkeep => ?_) y1.2.2 hkc1 hks1
  · rcases List.mem_cons.mp hw9 with rfl | hw9
    · rfl
    · rcases List.mem_cons.mp hw9 with rfl | hw9
      · rfl
      · have hm : w ∈ zaw 0 ++ zaw 1 := by
          rcases zEN_lt hx with rfl | rfl
          · exact List.mem_append_left _ hw9
          · exact List.mem_append_right _ hw9
        exact List.all_eq_true.mp zaw_ot w hm
  · exact ⟨x, ws, ρ, wr, rfl, hQ, hρ, y2.kept (fun k q hk9 => hkeep q.1 (y2 k q hk9).lt), y3, y4, Nat.le_trans y1.1 hsz9, fun q h1 h2 => (hkeep q (Nat.lt_of_lt_of_le h1 y1.1)).trans (y1.2.1 q h1 h2)⟩
theorem zclose : ∀ (mi d pc : Nat) (als ast : List Value) (ws : List zC) (kc ks : Nat) (Q : zPost), zstep sc (zSd l D tA adK adV b sc N0) mi d pc als ast ws kc ks Q → zSd l D tA adK adV b sc N0 mi d pc als ast ws kc ks Q := by
  intro mi d pc als ast ws kc ks Q ⟨q, i, n, hq, hop, hst⟩ q' hq' p e R s m args below meth c ρ0 C
  cases hq.symm.trans hq'
  rcases hst with ⟨pc', ls', st', ws', kc', ks', a1, a2⟩ | ⟨v, rfl, rfl, hr, hkc, hks, hQ⟩ | ⟨rfl, rfl, hr, hkc, hks, hQ⟩ | ⟨j, q1, as, b0, rest, rfl, b2, b3, rfl, b5, b6, b7, b8⟩ | ⟨j, q1, as, rest, rfl, b2, b3, rfl, b5, b6⟩ | ⟨j, j0, q1, as, b0, rest, rfl, b2, b3, b4, b5, b6, rfl, b8, b9, c1, c1a, c2, c3, Q1, c4, c5, c6⟩ | ⟨x, z, rfl, hx, hz, hcn, hh, hd, hwd, hkc, hks, h3, h4, hQ⟩
  · obtain ⟨r, hdec, hlen, hjk, hres⟩ := zop_spec hq hop
    subst hres
    exact zinst C hdec hlen hjk a1 (a2 q hq p e R s m args below meth c ρ0 C)
  · obtain ⟨r, hdec, hlen, hjk, hres⟩ := zop_spec hq hop
    cases zres_re hres
    simp only [zil, beq_iff_eq] at hlen
    subst hlen
    intro hkc' hks' H locs ρ wr ls st hρ hdy hst
    obtain ⟨hx0, hb, hml, hrt, hlk, hini, htab, hown, hts, hKn, hEx, hN0, hfr, hlo, hmc, hms, hnt, hqM⟩ := C
    obtain ⟨t1, rfl, h1⟩ := zsr_int hst
    cases zsr_nil h1
    obtain ⟨y1, y2, y3, y4, y5, y6⟩ := hdy
    refine W.widen hkc hks (vx_ret ?_)
    have hty : ∃ ty, q.rt = some ty ∧ narrow ty (.int v) = .int v := by
      cases hrt9 : q.rt with
      | none => rw [hrt9] at hr; cases hr
      | some ty =>
        rw [hrt9] at hr
        refine ⟨ty, rfl, ?_⟩
        cases ty <;> simp only [zret, Bool.false_eq_true, decide_eq_true_eq] at hr
        case int => rfl
        case boolean => rcases hr with rfl | rfl <;> decide
        case byte => subst hr; decide
        case char =>
          have := pk_nc v
          rw [hr] at this
          exact this
    obtain ⟨ty, hty1, hty2⟩ := hty
    exact W.zret hx0 hb (hrt.trans hty1) hty2 (fun t ht hW => ⟨some (.int v), some (.int v), ws, ρ, wr, rfl, hQ, rfl, hρ, by rw [ht]; exact y2, y3, y4, y1.F ht⟩) y1.2.2 hdec hlk
  · obtain ⟨r, hdec, hlen, hjk, hres⟩ := zop_spec hq hop
    cases zres_rv hres
    simp only [zil, beq_iff_eq] at hlen
    subst hlen
    intro hkc' hks' H locs ρ wr ls st hρ hdy hst
    obtain ⟨hx0, hb, hml, hrt, hlk, hini, htab, hown, hts, hKn, hEx, hN0, hfr, hlo, hmc, hms, hnt, hqM⟩ := C
    cases zsr_nil hst
    obtain ⟨y1, y2, y3, y4, y5, y6⟩ := hdy
    refine W.widen hkc hks (vx_ret ?_)
    exact W.vret hx0 hb (hrt.trans hr) (fun t ht hW => ⟨none, none, ws, ρ, wr, rfl, hQ, trivial, hρ, by rw [ht]; exact y2, y3, y4, y1.F ht⟩) y1.2.2 hdec hlk
  · have hn3 : n = 3 := by
      obtain ⟨r, -, hlen, -, hres⟩ := zop_spec hq hop
      obtain ⟨k, rfl, -, -⟩ := zres_iv hres
      simp only [zil, Bool.and_eq_true, beq_iff_eq] at hlen
      exact hlen.1
    subst hn3
    exact zcall_V C hq hop b2 b3 b5 b6 b7 b8
  · have hn3 : n = 3 := by
      obtain ⟨r, -, hlen, -, hres⟩ := zop_spec hq hop
      obtain ⟨k, rfl, -, -⟩ := zres_is hres
      simp only [zil, Bool.and_eq_true, beq_iff_eq] at hlen
      exact hlen.1
    subst hn3
    exact zcall_S C hq hop b2 b3 b5 b6
  · have hn3 : n = 3 := by
      obtain ⟨r, -, hlen, -, hres⟩ := zop_spec hq hop
      obtain ⟨k, rfl, -⟩ := zres_ip hres
      simp only [zil, Bool.and_eq_true, beq_iff_eq] at hlen
      exact hlen.1
    subst hn3
    exact zcall_I C hq hop b2 b3 b4 b5 b6 b8 b9 c1 c1a c2 c3 c4 c5 c6
  · have hn3 : n = 3 := by
      obtain ⟨r, -, hlen, -, hres⟩ := zop_spec hq hop
      obtain ⟨k, rfl, -⟩ := zres_ne hres
      simp only [zil, Bool.and_eq_true, beq_iff_eq] at hlen
      exact hlen.1
    subst hn3
    exact zthrow C hq hx hz hcn hh hd hwd hkc hks hop h3 h4 hQ
/-- THE MACHINE IS SOUND -/
theorem z_sound {mi pc : Nat} {als ast : List Value} {ws : List zC} {kc ks : Nat} {Q : zPost} (h : zEv sc mi d pc als ast ws kc ks Q) : zSd l D tA adK adV b sc N0 mi d pc als ast ws kc ks Q := h _ zclose
end ZV
