/-! the tables' words, looked up by their places -/
def zws : List Cond := lw_tbl.filter goodWord
theorem zws_in {w : Cond} (h : w ∈ zws) : w ∈ lw_tbl := (List.mem_filter.mp h).1
theorem zws_good {w : Cond} (h : w ∈ zws) : goodWord w = true := (List.mem_filter.mp h).2
theorem zws_of {w : Cond} (h : w ∈ lw_tbl) (g : goodWord w = true) : w ∈ zws := List.mem_filter.mpr ⟨h, g⟩
theorem zgood : GoodIn zws zws := fun w h => ⟨h, good_of_word (zws_good h)⟩
def zchk {α : Type} (c : α → Cond) (l : List α) (ps : List Nat) : Bool := decide (l.length = ps.length) && (l.zip ps).all (fun x => decide (lw_tbl[x.2]? = some (c x.1)))
theorem zchk_spec {α : Type} {c : α → Cond} {l : List α} {ps : List Nat} (h : zchk c l ps = true) {a : α} (ha : a ∈ l) : c a ∈ lw_tbl := by
  simp only [zchk, Bool.and_eq_true, decide_eq_true_eq, List.all_eq_true] at h
  obtain ⟨i, hi, rfl⟩ := List.getElem_of_mem ha
  have hp : i < ps.length := by rw [← h.1]; exact hi
  have h2 := h.2 (l[i], ps[i]) (by
    have : (l.zip ps)[i]? = some (l[i], ps[i]) := by simp [List.getElem?_zip_eq_some, hi, hp]
    exact List.mem_of_getElem? this)
  exact List.mem_of_getElem? h2
/-- a field's declarer, name and type -/
def zft (r : Nat) : String × String × String :=
  if r = 9900 then ("java/lang/String", "value", "[B") else if r = 9901 then ("java/lang/String", "coder", "B") else ((zT (r / 100) (r % 100)).1, (zT (r / 100) (r % 100)).2.1, (zT (r / 100) (r % 100)).2.2.1)
def zfc (e : Nat × Nat) : Cond := .fieldLink (zCN.getD (e.1 / 10000) "") (e.1 % 10000) (zft e.2).1 (zft e.2).2.1 (zft e.2).2.2
theorem zFL_c : zchk zfc zFL zFLp = true := by decide +kernel
theorem zFL_ok {e : Nat × Nat} (h : e ∈ zFL) : zfc e ∈ zws := zws_of (zchk_spec zFL_c h) rfl
/-- fields that are linked are fields of their class, or a text's two -/
def zfr (r : Nat) : Bool := decide (r = 9900 ∨ r = 9901 ∨ (r / 100 < 11 ∧ r % 100 < zNF (r / 100)))
theorem zFL_r : zFL.all (fun e => zfr e.2) = true := by decide +kernel
def zgc (e : Nat × Nat) : Cond := if e.2 = 0 then .fieldLink (zCN.getD (e.1 / 10000) "") (e.1 % 10000) "java/lang/String" "COMPACT_STRINGS" "Z" else .fieldLink (zCN.getD (e.1 / 10000) "") (e.1 % 10000) "jdk/internal/util/Preconditions" "SIOOBE_FORMATTER" "Ljava/util/function/BiFunction;"
theorem zGL_c : zchk zgc zGL zGLp = true := by decide +kernel
theorem zGL_ok {e : Nat × Nat} (h : e ∈ zGL) : zgc e ∈ zws := zws_of (zchk_spec zGL_c h) (by unfold zgc; split <;> rfl)
/-- the name of what a number calls -/
def zcy (r : Nat) : MethodName :=
  if r = 1000 then Lib.objectInit else if r = 1001 then Lib.Math.min.name else if r = 1002 then Lib.Math.max.name else if r = 1003 then arraycopyName
  else if r = 1010 then ⟨"java/util/NoSuchElementException", "<init>", "(Ljava/lang/String;)V"⟩ else if r = 1011 then ⟨"java/lang/IllegalArgumentException", "<init>", "(Ljava/lang/String;)V"⟩
  else (zM.getD r zm0).1
def zmc (e : Nat × Nat) : Cond := .methodLink (zCN.getD (e.1 / 10000) "") (e.1 % 10000) (zcy e.2)
theorem zML_c : zchk zmc zML zMLp = true := by decide +kernel
theorem zML_ok {e : Nat × Nat} (h : e ∈ zML) : zmc e ∈ zws := zws_of (zchk_spec zML_c h) rfl
theorem zML_r : zML.all (fun e => decide (e.2 < 234 ∨ (1000 ≤ e.2 ∧ e.2 < 1012))) = true := by decide +kernel
def znc (e : Nat × Nat) : Cond := .methodLinkNest (zCN.getD (e.1 / 10000) "") (e.1 % 10000) (zcy e.2) "CobblePorts"
theorem zNL_c : zchk znc zNL zNLp = true := by decide +kernel
theorem zNL_ok {e : Nat × Nat} (h : e ∈ zNL) : znc e ∈ lw_tbl := zchk_spec zNL_c h
theorem zNL_r : zNL.all (fun e => decide (e.2 < 234)) = true := by decide +kernel
def zcc (e : Nat × Nat) : Cond := .classLink (zCN.getD (e.1 / 10000) "") (e.1 % 10000) (zCN.getD e.2 "")
theorem zCL_c : zchk zcc zCL zCLp = true := by decide +kernel
theorem zCL_ok {e : Nat × Nat} (h : e ∈ zCL) : zcc e ∈ zws := zws_of (zchk_spec zCL_c h) rfl
def zEN (e : Nat) : String := if e = 0 then "java/util/NoSuchElementException" else "java/lang/IllegalArgumentException"
def zec (e : Nat × Nat) : Cond := .classLink (zCN.getD (e.1 / 10000) "") (e.1 % 10000) (zEN e.2)
theorem zEL_c : zchk zec zEL zELp = true := by decide +kernel
theorem zEL_ok {e : Nat × Nat} (h : e ∈ zEL) : zec e ∈ zws := zws_of (zchk_spec zEL_c h) rfl
theorem zEL_r : zEL.all (fun e => decide (e.2 < 2)) = true := by decide +kernel
def zsn (r : Nat) : String × Nat × String := zStr.getD r ("", 0, "")
def zsc (e : Nat × Nat) : Cond := .stringRef (zCN.getD (e.1 / 10000) "") (e.1 % 10000) (zsn e.2).2.2
theorem zSL_c : zchk zsc zSL zSLp = true := by decide +kernel
theorem zSL_r : zSL.all (fun e => decide (e.2 < 48 ∧ (zsn e.2).1 = zCN.getD (e.1 / 10000) "" ∧ (zsn e.2).2.1 = e.1 % 10000)) = true := by decide +kernel
def zic (e : Nat × Nat) : Cond := .constant (zCN.getD (e.1 / 10000) "") (e.1 % 10000) (zIC.getD e.2 0)
theorem zIL_c : zchk zic zIL zILp = true := by decide +kernel
theorem zIL_ok {e : Nat × Nat} (h : e ∈ zIL) : zic e ∈ zws := zws_of (zchk_spec zIL_c h) rfl
/-- a method's code word -/
def zkw (q : zMI) : Cond := if q.hh = [] then .code q.y q.cc q.nL q.rt else .codeWith q.y q.cc q.nL q.rt q.hh
theorem zM_i : zchk (fun q : zMI => Cond.initialized q.y.cls) (zM.take 234) zMi = true := by decide +kernel
def zMg (q : zMI) : Bool := plainName q.y.cls && decide (q.y.cls ≠ "java/lang/invoke/MethodHandle") && decide (q.y.cls ≠ "java/lang/invoke/VarHandle") && decide ((parseMethodDescriptor q.y.desc).map (fun d => d.parameters.length) = some q.np) && decide (q.y.cls = zCN.getD q.cn "") && decide (q.nL ≤ 40) && decide (q.cn < 16)
theorem zM_g : (zM.take 234).all zMg = true := by decide +kernel
theorem zM_n : zM.all (fun q => decide (q.cn < 16 ∧ q.y.cls = zCN.getD q.cn "" ∧ (q.ini = true → q.y.name = "<init>" ∧ q.rt = none) ∧ q.mc ≤ 601024 ∧ q.ms ≤ 7293034)) = true := by decide +kernel
theorem zM_v : ((zM.take 234).zip zMv).all (fun x => (decide (x.2.1 = 9999) || decide (lw_tbl[x.2.1]? = some (.instanceMethod x.1.y))) && (decide (x.2.2 = 9999) || decide (lw_tbl[x.2.2]? = some (.selects x.1.y.cls x.1.y x.1.y)))) = true := by decide +kernel
theorem zM_s : ((zM.take 234).zip zMs).all (fun x => decide (x.2 = 9999) || decide (lw_tbl[x.2]? = some (.static x.1.y))) = true := by decide +kernel
theorem zM_len : zM.length = 235 ∧ zMv.length = 234 ∧ zMs.length = 234 := by decide +kernel
/-- classes: what their fields lay, that they can be made -/
theorem zL_c : (List.range 11).all (fun ci => zchk id (u_ws (zCN.getD ci "") (zT ci) (zNF ci)) (zLp.getD ci [])) = true := by decide +kernel
theorem zL_g : (List.range 11).all (fun ci => (u_ws (zCN.getD ci "") (zT ci) (zNF ci)).all goodWord) = true := by decide +kernel
theorem zI_c : (List.range 11).all (fun ci => decide (lw_tbl[zIp.getD ci 0]? = some (.instantiable (zCN.getD ci "") (zNF ci)) ∧ lw_tbl[zCi.getD ci 0]? = some (.initialized (zCN.getD ci "")))) = true := by decide +kernel
theorem zT_ty : (List.range 11).all (fun ci => (List.range (zNF ci)).all (fun k => decide (parseFieldDescriptor (zT ci k).2.2.1 = some (zty ci k)))) = true := by decide +kernel
theorem zT_nm : (List.range 11).all (fun ci => (List.range (zNF ci)).all (fun a => (List.range (zNF ci)).all (fun b => decide (a = b) || decide ((zT ci a).2.1 ≠ (zT ci b).2.1)))) = true := by decide +kernel
theorem zT_own : (List.range 11).all (fun ci => (List.range (zNF ci)).all (fun k => decide ((zT ci k).1 = zCN.getD ci "")) && decide ((zTs.getD ci []).length = zNF ci)) = true := by decide +kernel
theorem zCN_ne : (List.range 11).all (fun i => (List.range 11).all (fun j => decide (i = j) || decide (zCN.getD i "" ≠ zCN.getD j ""))) = true := by decide +kernel
theorem zM_h : zM.all (fun q => q.hh.all (fun r => decide (r.2.2.2 ≠ 0 ∧ r.2.2.2 < 10000 ∧ (zlk (q.cn * 10000 + r.2.2.2) zEL).isSome = true))) = true := by decide +kernel
