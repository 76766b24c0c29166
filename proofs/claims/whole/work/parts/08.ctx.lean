/-! what a frame of the machine stands on -/
def zAr (N0 : Nat) : Nat → Prop := fun q => N0 ≤ q
abbrev zNSE : String := "java/util/NoSuchElementException"
abbrev zIAE : String := "java/lang/IllegalArgumentException"
abbrev zRE : List String := ["java/lang/RuntimeException", "java/lang/Exception"]
/-- the constructors of the two exceptions: by which entry they are called, and call; their bytes -/
def zic0 (e : Nat) : Nat := if e = 0 then 138 else 72
def zix0 (e : Nat) : Nat := if e = 0 then 13 else 7
def zrx0 (e : Nat) : ByteArray := if e = 0 then prog_28_method_4_code else prog_17_method_2_code
/-- the words of the two throws -/
def zaw (e : Nat) : List Cond := (Bundle.ownAtomsX "CobblePorts" (zic0 e) (zEN e) (zix0 e) (zrx0 e) zRE).filter vx_no
theorem zaw_good : ((zaw 0 ++ zaw 1).filter goodWord).all (fun w => decide (w ∈ lw_tbl)) = true := by decide +kernel
/-- words that a warmer table keeps by laws of their own -/
def zkk (w : Cond) : Bool := match w with
  | .methodLinkNest .. => true
  | .declares _ => true
  | .castable .. => true
  | _ => false
def zxw : List Cond := zNL.map znc ++ (zaw 0 ++ zaw 1).filter (fun w => !goodWord w)
theorem zxw_in : ((zaw 0 ++ zaw 1).filter (fun w => !goodWord w)).all (fun w => decide (w ∈ lw_tbl)) = true := by decide +kernel
theorem zxw_kk : zxw.all zkk = true := by decide +kernel
theorem zaw_ot : (zaw 0 ++ zaw 1).all vx_ot = true := by decide +kernel
theorem zkk_warm {w : Cond} (h : zkk w = true) {s U : State} (hW : s.WarmedH U.vm) (hZ : va_Nw w s) : va_Nw w U := by
  cases w with
  | methodLinkNest a i x b => exact va_Nw.warmM hW hZ
  | declares x => exact va_Nw.warmD hW hZ
  | castable a b => exact va_Nw.warmC hW hZ
  | _ => cases h
theorem zkk_on {w : Cond} (h : zkk w = true) : w.onTables = true := by
  cases w with
  | methodLinkNest a i x b => rfl
  | declares x => rfl
  | castable a b => rfl
  | _ => cases h
/-- what the tables say at a state -/
def zKn (D : va_G) (tA : FieldType → ClassId) (adK : Nat → Nat) (U : State) : Prop :=
  va_K D zcl (ztys tA) U ∧ (∀ i, i < 48 → vk_R (zsn i).1 (zsn i).2.1 (zsn i).2.2 (adK i) U) ∧ (∀ w ∈ zxw, va_Nw w U) ∧ (va_Nc zNSE zIAE U ∧ va_Nc zIAE zNSE U) ∧ va_AO "CobblePorts$Trip" U ∧ va_AO "java/lang/String" U
theorem zKn.warm {D : va_G} {tA : FieldType → ClassId} {adK : Nat → Nat} {s U : State} (hW : s.WarmedH U.vm) (h : zKn D tA adK s) : zKn D tA adK U := by
  obtain ⟨h1, h2, h3, ⟨h4, h5⟩, h6, h7⟩ := h
  exact ⟨h1.moved hW.alike, fun i hi => (h2 i hi).warm hW, fun w hw => zkk_warm (List.all_eq_true.mp zxw_kk w hw) hW (h3 w hw), ⟨h4.moved hW.alike, h5.moved hW.alike⟩, h6.moved hW.alike, h7.moved hW.alike⟩
theorem zKn.same {D : va_G} {tA : FieldType → ClassId} {adK : Nat → Nat} {s U : State} (hv : U.vm = s.vm) (h : zKn D tA adK s) : zKn D tA adK U := by
  have ha : s.vm.Alike U.vm := by rw [hv]; exact Vm.Alike.refl _
  obtain ⟨h1, h2, h3, ⟨h4, h5⟩, h6, h7⟩ := h
  exact ⟨h1.moved ha, fun i hi => (h2 i hi).same hv, fun w hw => va_Nw.same (zkk_on (List.all_eq_true.mp zxw_kk w hw)) hv.symm (h3 w hw), ⟨h4.moved ha, h5.moved ha⟩, h6.moved ha, h7.moved ha⟩
/-- what lies in the heap from before: texts, the script, statics -/
def zEx (adK adV : Nat → Nat) (b : Nat) (sc : Nat × (Nat → Int32)) (N0 : Nat) (U : State) (H : Heap) : Prop :=
  (∀ i, i < 48 → va_O "java/lang/String" (adK i) (zAr N0) U H ∧ va_OF "java/lang/String" "coder" "B" (.int 0) (adK i) (zAr N0) U H ∧ va_OF "java/lang/String" "value" "[B" (.ref (adV i)) (adK i) (zAr N0) U H ∧ va_T .byte (adV i) (zByt.getD i []).length (fun j => .int ((zByt.getD i []).getD j 0)) (zAr N0) U H) ∧
  va_T .int b sc.1 (fun j => .int (sc.2 j)) (zAr N0) U H ∧
  va_Z "java/lang/String" "COMPACT_STRINGS" "Z" (.int 1) (zAr N0) U H ∧ va_Zq "jdk/internal/util/Preconditions" "SIOOBE_FORMATTER" "Ljava/util/function/BiFunction;" (zAr N0) U H ∧
  vx_Zq Bundle.tN "UNASSIGNED_STACK" Bundle.steD (zAr N0) U H ∧ vx_Zq Bundle.tN "SUPPRESSED_SENTINEL" Bundle.listD (zAr N0) U H
theorem zEx.moved {adK adV : Nat → Nat} {b : Nat} {sc : Nat × (Nat → Int32)} {N0 : Nat} {u U : State} {H : Heap} (hvm : u.vm.Alike U.vm) (h : zEx adK adV b sc N0 u H) : zEx adK adV b sc N0 U H := by
  obtain ⟨h1, h2, h3, h4, h5, h6⟩ := h
  exact ⟨fun i hi => ⟨va_O.moved hvm (h1 i hi).1, va_OF.moved hvm (h1 i hi).2.1, va_OF.moved hvm (h1 i hi).2.2.1, va_T.moved hvm (h1 i hi).2.2.2⟩, h2.moved hvm, h3.moved hvm, va_Zq.moved hvm h4, vx_Zq.moved hvm h5, vx_Zq.moved hvm h6⟩
theorem zEx.kept {adK adV : Nat → Nat} {b : Nat} {sc : Nat × (Nat → Int32)} {N0 : Nat} {U : State} {H H1 : Heap} (h : zEx adK adV b sc N0 U H) (hq : ∀ a : Nat, a < H.size → ¬ zAr N0 a → H1[a]? = H[a]?) : zEx adK adV b sc N0 U H1 := by
  obtain ⟨h1, h2, h3, h4, h5, h6⟩ := h
  exact ⟨fun i hi => ⟨(h1 i hi).1.kept hq, (h1 i hi).2.1.kept hq, (h1 i hi).2.2.1.kept hq, (h1 i hi).2.2.2.kept hq⟩, h2.kept hq, h3.kept hq, va_Zq.kept h4 hq, h5.kept hq, h6.kept hq⟩
def zad (adK adV : Nat → Nat) (b : Nat) : Nat → Nat := fun k => if k < 2000 then adK (k - 1000) else if k < 3000 then adV (k - 2000) else b
/-- a frame's fixed surroundings -/
def zCt (l : Launch) (D : va_G) (tA : FieldType → ClassId) (adK adV : Nat → Nat) (b : Nat) (sc : Nat × (Nat → Int32)) (N0 : Nat) (q : zMI) (d : Nat) (p : Program) (R : Room) (s : State) (m : MethodId) (args : Array Value) (meth : Method) (c : Code) : Prop :=
  p.tables.exec = Jvm.exec ∧ c.code = q.cc ∧ c.maxLocals = q.nL ∧ meth.sig.returnType = q.rt ∧ meth.locks = false ∧ (q.ini = true → meth.name = "<init>") ∧ c.exceptionTable.toList = tableOf q.hh ∧ s.vm.findClass (zCN.getD q.cn "") = some m.cls ∧
  (∀ w ∈ zws, w.before args s = true) ∧ zKn D tA adK s ∧ zEx adK adV b sc N0 s s.heap ∧ N0 ≤ s.heap.size ∧ d ≤ R.frames ∧ 64 * d ≤ R.locals ∧ q.mc ≤ R.cells ∧ q.ms ≤ R.slots ∧ l.stackTraces = false ∧ q ∈ zM
/-- a frame's moving parts -/
def zDy (D : va_G) (tA : FieldType → ClassId) (adK adV : Nat → Nat) (b N0 : Nat) (nL : Nat) (als : List Value) (ws : List zC) (s : State) (H : Heap) (locs : List Loc) (ρ : List Nat) (wr : va_W) (ls : Array Slot) : Prop :=
  va_S (zAr N0) s.heap H locs ∧ va_P D zcl wr H ∧ va_D (zAr N0) wr ∧ zwr (zad adK adV b) tA ρ ws wr ∧ zlr (zad adK adV b) ρ als ls ∧ als.length = nL
/-- from here the frame comes to its end Qm -/
def zCo (l : Launch) (D : va_G) (tA : FieldType → ClassId) (adK adV : Nat → Nat) (b N0 : Nat) (q : zMI) (p : Program) (e : Env) (R : Room) (s : State) (m : MethodId) (args : Array Value) (below : List Frame) (meth : Method) (c : Code) (ρ0 : List Nat) (Qm : State → Prop) (pc : Nat) (als ast : List Value) (ws : List zC) (kc ks : Nat) : Prop :=
  kc ≤ q.mc → ks ≤ q.ms → ∀ (H : Heap) (locs : List Loc) (ρ : List Nat) (wr : va_W) (ls : Array Slot) (st : List Value), (∃ r, ρ = ρ0 ++ r) → zDy D tA adK adV b N0 q.nL als ws s H locs ρ wr ls → zsr (zad adK adV b) ρ ast st → W p l e R s m args below meth c H locs kc ks Qm (F0 m pc ls st)
