/-! calls, ends and throws -/
def zov (ad : Nat → Nat) (ρ : List Nat) (v v' : Option Value) : Prop := match v, v' with
  | none, none => True
  | some x, some y => zvr ad ρ x y
  | _, _ => False
section ZS
variable (l : Launch) (D : va_G) (tA : FieldType → ClassId) (adK adV : Nat → Nat) (b : Nat) (sc : Nat × (Nat → Int32)) (N0 : Nat)
def zQc (ρ0 : List Nat) (Q : zPost) : Array Value → State → Outcome → State → Prop := fun _ st o t =>
  ∃ (v v' : Option Value) (ws1 : List zC) (ρ1 : List Nat) (wr : va_W), o = .returned v' ∧ Q (.inl v) ws1 ∧ zov (zad adK adV b) ρ1 v v' ∧ (∃ r, ρ1 = ρ0 ++ r) ∧ va_P D zcl wr t.heap ∧ va_D (zAr N0) wr ∧ zwr (zad adK adV b) tA ρ1 ws1 wr ∧ va_F (zAr N0) st t
def zXC (ρ0 : List Nat) (Q : zPost) : String → State → State → Prop := fun E st t =>
  ∃ (x : Nat) (ws1 : List zC) (ρ1 : List Nat) (wr : va_W), E = zEN x ∧ Q (.inr x) ws1 ∧ (∃ r, ρ1 = ρ0 ++ r) ∧ va_P D zcl wr t.heap ∧ va_D (zAr N0) wr ∧ zwr (zad adK adV b) tA ρ1 ws1 wr ∧ va_F (zAr N0) st t
def zSd : zPred := fun mi d pc als ast ws kc ks Q => ∀ q, zM[mi]? = some q → ∀ (p : Program) (e : Env) (R : Room) (s : State) (m : MethodId) (args : Array Value) (below : List Frame) (meth : Method) (c : Code) (ρ0 : List Nat), zCt l D tA adK adV b sc N0 q d p R s m args meth c →
  zCo l D tA adK adV b N0 q p e R s m args below meth c ρ0 (vx_MQ below (zQc D tA adK adV b N0 ρ0 Q) (zXC D tA adK adV b N0 ρ0 Q) args s q.mc q.ms (zAr N0)) pc als ast ws kc ks
/-- what a callee may count on -/
def zPc (wr : va_W) (as' : List Value) : Array Value → State → Prop := va_Pc as' (fun U => zKn D tA adK U ∧ zEx adK adV b sc N0 U U.heap ∧ N0 ≤ U.heap.size ∧ va_P D zcl wr U.heap ∧ va_D (zAr N0) wr)
end ZS
def zrm (d : Nat) (q : zMI) : Room := { frames := d, cells := q.mc, slots := q.ms, locals := 64 * d }
theorem zcat1 : ∀ {as : List Value}, zwd as = as.length → ∀ v ∈ as, v.category = 1
  | [], _, v, h => by simp at h
  | w :: as, h, v, hv => by
    have key : ∀ l : List Value, l.length ≤ zwd l := by
      intro l
      induction l with
      | nil => simp [zwd]
      | cons x t ih =>
        simp only [zwd, List.map_cons, List.sum_cons, List.length_cons] at ih ⊢
        rcases lv_cat x with h | h <;> omega
    have h1 := key as
    simp only [zwd, List.map_cons, List.sum_cons, List.length_cons] at h h1
    have hw : w.category = 1 := by rcases lv_cat w with h2 | h2 <;> omega
    rcases List.mem_cons.mp hv with rfl | hv
    · exact hw
    · exact zcat1 (by simp only [zwd]; omega) v hv
theorem ztake {j : Nat} {q1 : zMI} (h : zM[j]? = some q1) (hj : j < 234) : q1 ∈ zM.take 234 := List.mem_of_getElem? (i := j) (by rw [List.getElem?_take_of_lt hj]; exact h)
theorem zMg_spec {q1 : zMI} (h : q1 ∈ zM.take 234) : plainName q1.y.cls = true ∧ (q1.y.cls ≠ "java/lang/invoke/MethodHandle" ∧ q1.y.cls ≠ "java/lang/invoke/VarHandle" ∧ (parseMethodDescriptor q1.y.desc).map (fun d => d.parameters.length) = some q1.np) ∧ q1.y.cls = zCN.getD q1.cn "" ∧ q1.nL ≤ 40 ∧ q1.cn < 16 := by
  have := List.all_eq_true.mp zM_g q1 h
  simp only [zMg, Bool.and_eq_true, decide_eq_true_eq] at this
  exact ⟨this.1.1.1.1.1.1, ⟨this.1.1.1.1.1.2, this.1.1.1.1.2, this.1.1.1.2⟩, this.1.1.2, this.1.2, this.2⟩
theorem zMn_spec {q1 : zMI} (h : q1 ∈ zM) : q1.cn < 16 ∧ q1.y.cls = zCN.getD q1.cn "" ∧ (q1.ini = true → q1.y.name = "<init>" ∧ q1.rt = none) ∧ q1.mc ≤ 601024 ∧ q1.ms ≤ 7293034 := by
  have := List.all_eq_true.mp zM_n q1 h
  simpa only [decide_eq_true_eq] using this
theorem zinit_in {q1 : zMI} (h : q1 ∈ zM.take 234) : Cond.initialized q1.y.cls ∈ zws := zws_of (zchk_spec zM_i h) rfl
theorem zkw_in {q1 : zMI} (h : q1 ∈ zM.take 234) : zkw q1 ∈ zws := zws_of (zM_k h) (by unfold zkw; split <;> rfl)
section ZB
variable {l : Launch} {D : va_G} {tA : FieldType → ClassId} {adK adV : Nat → Nat} {b : Nat} {sc : Nat × (Nat → Int32)} {N0 : Nat}
theorem zPc_blind {wr : va_W} {as' : List Value} : FrameBlind (zPc D tA adK adV b sc N0 wr as') := by
  intro a U g mk h
  obtain ⟨h0, h1, h2, h3, h4, h5⟩ := h
  exact ⟨h0, zKn.same (s := U) (U := U.calling g mk a) rfl h1, zEx.moved (u := U) (U := U.calling g mk a) (Vm.Alike.refl U.vm) h2, h3, h4, h5⟩
/-- a callee's contract out of the machine's own run -/
theorem zbody {j d : Nat} {q1 : zMI} (hq1 : zM[j]? = some q1) (hj : j < 234) {as : List Value} {ws : List zC} {Q1 : zPost} (IH : zSd l D tA adK adV b sc N0 j d 0 (zloc q1 as) [] ws 0 0 Q1) (hnt : l.stackTraces = false) {as' : List Value} {ρ : List Nat} {wr : va_W}
    (hrel : zsr (zad adK adV b) ρ as as') (hcat : zwd as = as.length) (hlen : as.length ≤ q1.nL) (hwr : zwr (zad adK adV b) tA ρ ws wr) :
    vx_Met l q1.y (zkw q1 :: zws) (zrm d q1) (zPc D tA adK adV b sc N0 wr as') (zQc D tA adK adV b N0 ρ Q1) (zXC D tA adK adV b N0 ρ Q1) q1.mc q1.ms (zAr N0) := by
  have hT := ztake hq1 hj
  obtain ⟨g1, -, g3, g4, g5⟩ := zMg_spec hT
  have hM : q1 ∈ zM := List.mem_of_getElem? hq1
  have hini := (zMn_spec hM).2.2.1
  have go : ∀ (p : Program) (e : Env) (s : State) (m : MethodId) (args : Array Value) (below : List Frame) (meth : Method) (c : Code) (s₁ : State), BodyLoose p l q1.y (headSpec (zkw q1 :: zws) (zrm d q1)) q1.cc q1.nL q1.rt e s m args below meth c s₁ → c.maxLocals = q1.nL → c.exceptionTable.toList = tableOf q1.hh → zPc D tA adK adV b sc N0 wr as' args s →
      W p l e (headSpec (zkw q1 :: zws) (zrm d q1)).room s m args below meth c s.heap [] 0 0 (vx_MQ below (zQc D tA adK adV b N0 ρ Q1) (zXC D tA adK adV b N0 ρ Q1) args s q1.mc q1.ms (zAr N0)) (entryFrame m args q1.nL) := by
    intro p e s m args below meth c s₁ B hml htab hv
    obtain ⟨rfl, k1, k2, k3, k4, k5⟩ := hv
    rw [lg_entry_eq]
    have hts := atoms_spec (ws := zkw q1 :: zws) B.pre
    refine IH q1 hq1 p e _ s m _ below meth c ρ ⟨B.exec, B.bytes, hml, B.returns, B.notSynchronized, fun h => ?_, htab, ?_, fun w hw => hts w (List.mem_cons_of_mem _ hw), k1, k2, k3, Nat.le_refl _, Nat.le_refl _, Nat.le_refl _, Nat.le_refl _, hnt, hM⟩ (Nat.zero_le _) (Nat.zero_le _) s.heap [] ρ wr _ [] ⟨[], by simp⟩ ⟨va_S.rf, k4, k5, hwr, zlr_entry hrel (zcat1 hcat) hlen, ?_⟩ trivial
    · rw [← (hini h).1]; exact (name_of_methodNamed B.named B.method).1
    · rw [← g3]; exact findClass_of_methodNamed B.named
    · simp [zloc]; omega
  by_cases hh : q1.hh = []
  · refine vx_ofW (cc := q1.cc) (maxL := q1.nL) (ret := q1.rt) (ws' := zws) g1 (by rw [zkw, if_pos hh]) ?_
    intro p e s m args below meth c s₁ B hml ht hP
    refine go p e s m args below meth c s₁ B hml ?_ hP
    rw [hh]
    cases h : c.exceptionTable.toList with
    | nil => rfl
    | cons x t => exact (ht x (by rw [h]; exact List.mem_cons_self)).elim
  · refine vx_ofWH (cc := q1.cc) (maxL := q1.nL) (ret := q1.rt) (hh := q1.hh) (ws' := zws) g1 (by rw [zkw, if_neg hh]) ?_
    intro p e s m args below meth c s₁ B hml hP
    refine go p e s m args below meth c s₁ B hml (vx_table (x := q1.y) B (bytes := q1.cc) (maxL' := q1.nL) (ret' := q1.rt) ?_) hP
    have h1 := atoms_spec (ws := zkw q1 :: zws) B.pre _ List.mem_cons_self
    rw [zkw, if_neg hh] at h1
    exact h1
theorem zEN_lt {x : Nat} (h : x < 2) : x = 0 ∨ x = 1 := by omega
theorem zcast {U : State} {adK : Nat → Nat} (h : zKn D tA adK U) {x : Nat} (hx : x < 2) {A : Array Value} : (Cond.castable (zEN x) (zEN x)).before A U = true := by
  have h0 : Cond.castable (zEN x) (zEN x) ∈ zxw := by
    rcases zEN_lt hx with rfl | rfl
    · decide +kernel
    · decide +kernel
  exact va_Nw.use rfl (h.2.2.1 _ h0)
def zmt (q : zMI) (pc x : Nat) (r : Nat × Nat × Nat × Nat) : Prop := r.1 ≤ pc ∧ pc < r.2.1 ∧ zlk (q.cn * 10000 + r.2.2.2) zEL = some x
theorem zhd_some {q : zMI} {pc x h : Nat} : ∀ {hh : List (Nat × Nat × Nat × Nat)}, zhd q pc x hh = some h → ∃ pre r suf, hh = pre ++ r :: suf ∧ (∀ z ∈ pre, ¬ zmt q pc x z) ∧ zmt q pc x r ∧ r.2.2.1 = h
  | [], e => by simp [zhd] at e
  | (a, f, g, t) :: rest, e => by
    simp only [zhd] at e
    split at e
    · next hc => cases e; exact ⟨[], _, rest, rfl, fun z hz => by simp at hz, hc, rfl⟩
    · next hc =>
      obtain ⟨pre, r, suf, e1, e2, e3, e4⟩ := zhd_some e
      refine ⟨(a, f, g, t) :: pre, r, suf, by rw [e1]; rfl, fun z hz => ?_, e3, e4⟩
      rcases List.mem_cons.mp hz with rfl | hz
      · exact hc
      · exact e2 z hz
theorem zhd_none {q : zMI} {pc x : Nat} : ∀ {hh : List (Nat × Nat × Nat × Nat)}, zhd q pc x hh = none → ∀ z ∈ hh, ¬ zmt q pc x z
  | [], _, z, hz => by simp at hz
  | (a, f, g, t) :: rest, e, z, hz => by
    simp only [zhd] at e
    split at e
    · cases e
    · next hc =>
      rcases List.mem_cons.mp hz with rfl | hz
      · exact hc
      · exact zhd_none e z hz
def zent (r : Nat × Nat × Nat × Nat) : ExceptionTableEntry := ⟨r.1, r.2.1, r.2.2.1, r.2.2.2⟩
theorem zhok {q : zMI} (hq : q ∈ zM) {r : Nat × Nat × Nat × Nat} (hr : r ∈ q.hh) : r.2.2.2 ≠ 0 ∧ r.2.2.2 < 10000 ∧ ∃ x, zlk (q.cn * 10000 + r.2.2.2) zEL = some x := by
  have h1 := List.all_eq_true.mp (List.all_eq_true.mp zM_h q hq) r hr
  simp only [decide_eq_true_eq] at h1
  exact ⟨h1.1, h1.2.1, Option.isSome_iff_exists.mp h1.2.2⟩
theorem zel_lt {k x : Nat} (h : zlk k zEL = some x) : x < 2 := by
  have := List.all_eq_true.mp zEL_r _ (zlk_mem h)
  simpa using this
theorem zpass {q : zMI} {d : Nat} {p : Program} {R : Room} {s : State} {m : MethodId} {args : Array Value} {meth : Method} {c : Code} (C : zCt l D tA adK adV b sc N0 q d p R s m args meth c) {pc x : Nat} (hx : x < 2) {r : Nat × Nat × Nat × Nat} (hr : r ∈ q.hh) (hm : ¬ zmt q pc x r) :
    covers (zent r) pc = false ∨ ((zent r).catchType ≠ 0 ∧ ∃ nm : String, (Cond.classLink (zCN.getD q.cn "") (zent r).catchType nm).before args s = true ∧ va_Nc (zEN x) nm s) := by
  obtain ⟨hx0, hb, hml, hrt, hlk, hini, htab, hown, hts, hKn, hEx, hN0, hfr, hlo, hmc, hms, hnt, hqM⟩ := C
  obtain ⟨h1, h2, x1, h3⟩ := zhok hqM hr
  by_cases hc : r.1 ≤ pc ∧ pc < r.2.1
  · refine Or.inr ⟨h1, zEN x1, hts _ (zel_in h2 h3), ?_⟩
    have hne : x1 ≠ x := fun h => hm ⟨hc.1, hc.2, by rw [h3, h]⟩
    have h4 := zel_lt h3
    rcases zEN_lt hx with rfl | rfl
    · rcases zEN_lt h4 with rfl | rfl
      · exact absurd rfl hne
      · exact hKn.2.2.2.1.1
    · rcases zEN_lt h4 with rfl | rfl
      · exact hKn.2.2.2.1.2
      · exact absurd rfl hne
  · refine Or.inl ?_
    show (decide (r.1 ≤ pc) && decide (pc < r.2.1)) = false
    by_cases h5 : r.1 ≤ pc
    · have h6 : ¬ pc < r.2.1 := fun h => hc ⟨h5, h⟩
      simp [h6]
    · simp [h5]
end ZB
