/-! THE MACHINE IS SOUND: where it comes to an end, the JVM does -/
section ZO
variable {l : Launch} {D : va_G} {tA : FieldType → ClassId} {adK adV : Nat → Nat} {b : Nat} {sc : Nat × (Nat → Int32)} {N0 : Nat}
variable {q : zMI} {d : Nat} {p : Program} {e : Env} {R : Room} {s : State} {m : MethodId} {args : Array Value} {below : List Frame} {meth : Method} {c : Code} {ρ0 : List Nat}
/-- an exception at pc: caught here, or out -/
theorem zexcp (C : zCt l D tA adK adV b sc N0 q d p R s m args meth c) {pc x kc ks : Nat} (hx : x < 2) {als : List Value} {ws1 : List zC} {Q : zPost} {H : Heap} {locs : List Loc} {ρ1 : List Nat} {wr : va_W} {ls : Array Slot} {rest : List Value} {q9 : Addr} {ce : Cell}
    (hA : match zhd q pc x q.hh with
      | some h => zSd l D tA adK adV b sc N0 = zSd l D tA adK adV b sc N0 ∧ zCo l D tA adK adV b N0 q p e R s m args below meth c ρ0 (vx_MQ below (zQc D tA adK adV b N0 ρ0 Q) (zXC D tA adK adV b N0 ρ0 Q) args s q.mc q.ms (zAr N0)) h als [zJ] ws1 kc ks
      | none => Q (.inr x) ws1) (hkc : kc ≤ q.mc) (hks : ks ≤ q.ms) (hρ : ∃ r, ρ1 = ρ0 ++ r) (hdy : zDy D tA adK adV b N0 q.nL als ws1 s H locs ρ1 wr ls) (hce : H[q9]? = some ce) (hcv : ce.vm = .none) (hcl : s.vm.findClass (zEN x) = some ce.cls) :
    vx_W p l e R s m args below meth c H locs kc ks (vx_MQ below (zQc D tA adK adV b N0 ρ0 Q) (zXC D tA adK adV b N0 ρ0 Q) args s q.mc q.ms (zAr N0)) (F0 m pc ls rest) q9 := by
  have C' := C
  obtain ⟨hx0, hb, hml, hrt, hlk, hini, htab, hown, hts, hKn, hEx, hN0, hfr, hlo, hmc, hms, hnt, hqM⟩ := C
  cases hz : zhd q pc x q.hh with
  | none =>
    rw [hz] at hA
    have hn := zhd_none hz
    refine vx_outP hown hlk (fun z hz => ?_) hce hcv hcl (fun t ht hal => ⟨x, ws1, ρ1, wr, rfl, hA, hρ, by rw [ht]; exact hdy.2.1, hdy.2.2.1, hdy.2.2.2.1, hdy.1.F ht⟩) hdy.1.2.2 hkc hks
    rw [htab] at hz
    obtain ⟨r, hr, rfl⟩ := List.mem_map.mp hz
    exact zpass C' hx hr (hn r hr)
  | some h =>
    rw [hz] at hA
    obtain ⟨pre, r, suf, e1, e2, e3, e4⟩ := zhd_some hz
    have hr : r ∈ q.hh := by rw [e1]; simp
    obtain ⟨g1, g2, -⟩ := zhok hqM hr
    have g3 : (Cond.classLink (zCN.getD q.cn "") (zent r).catchType (zEN x)).before args s = true := hts _ (zel_in g2 e3.2.2)
    refine vx_catch (own := zCN.getD q.cn "") (name := zEN x) hown (pre.map zent) (zent r) (suf.map zent) (by rw [htab, e1]; simp [tableOf, zent]; rfl) (fun z hz => ?_) ?_ g1 g3 (zcast hKn hx) hce hcv hcl ?_
    · obtain ⟨r1, hr1, rfl⟩ := List.mem_map.mp hz
      exact zpass C' hx (by rw [e1]; simp [hr1]) (e2 r1 hr1)
    · show (decide (r.1 ≤ pc) && decide (pc < r.2.1)) = true
      simp [e3.1, e3.2.1]
    · rw [show (zent r).handlerPc = h from e4]
      exact hA.2 hkc hks H locs ρ1 wr ls _ hρ hdy ⟨Or.inl ⟨q9, rfl⟩, trivial⟩
/-- behind a call -/
theorem zbehind (C : zCt l D tA adK adV b sc N0 q d p R s m args meth c) {mi pc kc ks : Nat} (hq : zM[mi]? = some q) {als rest : List Value} {q1 : zMI} {Q Q1 : zPost} (hA : zafter (zSd l D tA adK adV b sc N0) q q1 mi d pc 3 als rest kc ks Q Q1) (hkc : kc + q1.mc ≤ q.mc) (hks : ks + q1.ms ≤ q.ms)
    {ws : List zC} {H : Heap} {locs : List Loc} {ρ : List Nat} {wr : va_W} {ls : Array Slot} {rest' st0 : List Value} (hρ : ∃ r, ρ = ρ0 ++ r) (hdy : zDy D tA adK adV b N0 q.nL als ws s H locs ρ wr ls) (hst : zsr (zad adK adV b) ρ rest rest')
    {a : Array Value} (hr : vx_Run p l e R s m args below meth c H locs kc ks q1.mc q1.ms (F0 m pc ls st0) rest' (zQc D tA adK adV b N0 ρ Q1 a) (zXC D tA adK adV b N0 ρ Q1) (zAr N0)) :
    W p l e R s m args below meth c H locs kc ks (vx_MQ below (zQc D tA adK adV b N0 ρ0 Q) (zXC D tA adK adV b N0 ρ0 Q) args s q.mc q.ms (zAr N0)) (F0 m pc ls st0) := by
  obtain ⟨y1, y2, y3, y4, y5, y6⟩ := hdy
  obtain ⟨r0, rfl⟩ := hρ
  intro T hT X
  rcases hr T hT X with ⟨v', st₀, t, T', L, h0, X', hL, e1, e2, ⟨v, v'', ws1, ρ1, wr1, hv, k1, k2, ⟨r1, rfl⟩, k4, k5, k6, k7⟩, st⟩ | ⟨q9, st₀, t, T', L, E, ce, h0, X', hL, e1, e2, ⟨x, ws1, ρ1, wr1, rfl, k1, ⟨r1, rfl⟩, k4, k5, k6, k7⟩, hce, hcv, hcl, st⟩
  · cases hv
    obtain ⟨j1, j2, j3⟩ := vx_keep h0 e1 y1 (fun q _ h => h) (fun q h => h) hL k7
    have hW := hA.1 v ws1 k1 q hq p e R s m args below meth c ρ0 C hkc hks T'.heap (locs ++ L) _ wr1 ls (v'.toList ++ rest') ⟨r0 ++ r1, by simp⟩ ⟨j3, by rw [e1]; exact k4, k5, k6, zlr_mono _ y5, y6⟩ (zsr_cat (by
      cases v with
      | none => cases v' with
        | none => trivial
        | some z => exact k2.elim
      | some w => cases v' with
        | none => exact k2.elim
        | some z => exact ⟨k2, trivial⟩) (zsr_mono _ hst))
    obtain ⟨t2, a1, b1⟩ := hW T' rfl X'
    exact ⟨t2, st t2 a1, b1⟩
  · obtain ⟨j1, j2, j3⟩ := vx_keep h0 e1 y1 (fun q _ h => h) (fun q h => h) hL k7
    obtain ⟨hx2, hA2⟩ := hA.2 x ws1 k1
    have hW := zexcp (e := e) (below := below) (ρ0 := ρ0) (Q := Q) (pc := pc) (kc := kc + q1.mc) (ks := ks + q1.ms) (als := als) (ws1 := ws1) (H := T'.heap) (locs := locs ++ L) (ρ1 := ρ0 ++ r0 ++ r1) (wr := wr1) (ls := ls) (rest := rest') (q9 := q9) (ce := ce) C hx2 (by
      cases hz : zhd q pc x q.hh with
      | none => rw [hz] at hA2; exact hA2
      | some h => rw [hz] at hA2; exact ⟨rfl, hA2 q hq p e R s m args below meth c ρ0 C⟩) hkc hks ⟨r0 ++ r1, by simp⟩ ⟨j3, by rw [e1]; exact k4, k5, k6, zlr_mono _ y5, y6⟩ (by rw [e1]; exact hce) hcv hcl
    obtain ⟨t2, a1, b1⟩ := hW T' rfl X'
    exact ⟨t2, st.trans a1, b1⟩
end ZO
