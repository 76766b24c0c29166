/-! A MACHINE OF ITS OWN: what the bytecode does, over cells that are numbered in the order in which they were made. Addresses below 1000: cells made here; 1000 + i: the i-th text constant; 2000 + i: its row of bytes; 3000: the script. -/
def zlk (k : Nat) : List (Nat × Nat) → Option Nat
  | [] => none
  | (j, a) :: t => if j = k then some a else zlk k t
theorem zlk_mem {k a : Nat} : ∀ {t : List (Nat × Nat)}, zlk k t = some a → (k, a) ∈ t
  | [], h => by simp [zlk] at h
  | (j, b) :: t, h => by
    simp only [zlk] at h
    split at h
    · next e => cases h; rw [e]; exact List.mem_cons_self
    · exact List.mem_cons_of_mem _ (zlk_mem h)
def zisV (r : Nat) : Bool := decide ((zMv.getD r (9999, 9999)).1 ≠ 9999 ∧ (zMv.getD r (9999, 9999)).2 ≠ 9999)
def zisI (r : Nat) : Bool := decide ((zMv.getD r (9999, 9999)).1 ≠ 9999)
def zisS (r : Nat) : Bool := decide (zMs.getD r 9999 ≠ 9999)
/-- an instruction, its links by their numbers -/
def zres (cn : Nat) (i : Instr) : Instr := match i with
  | .getfield k => match zlk (cn * 10000 + k) zFL with
    | some r => .getfield r
    | none => .nop
  | .putfield k => match zlk (cn * 10000 + k) zFL with
    | some r => .putfield r
    | none => .nop
  | .getstatic k => match zlk (cn * 10000 + k) zGL with
    | some r => .getstatic r
    | none => .nop
  | .new k => match zlk (cn * 10000 + k) zCL with
    | some r => .new r
    | none => match zlk (cn * 10000 + k) zEL with
      | some r => .new (100 + r)
      | none => .nop
  | .anewarray k => match zlk (cn * 10000 + k) zCL with
    | some r => .anewarray r
    | none => .nop
  | .invokevirtual k => match zlk (cn * 10000 + k) zML with
    | some r => if zisV r = true then .invokevirtual r else .nop
    | none => .nop
  | .invokestatic k => match zlk (cn * 10000 + k) zML with
    | some r => if zisS r = true ∨ 1000 ≤ r then .invokestatic r else .nop
    | none => .nop
  | .invokespecial k => match zlk (cn * 10000 + k) zML with
    | some r => if zisI r = true ∨ 1000 ≤ r then .invokespecial r else .nop
    | none => match zlk (cn * 10000 + k) zNL with
      | some r => if zisI r = true then .invokespecial (2000 + r) else .nop
      | none => .nop
  | .ldc k => match zlk (cn * 10000 + k) zSL with
    | some r => .ldc r
    | none => match zlk (cn * 10000 + k) zIL with
      | some r => .ldc (1000 + r)
      | none => .nop
  | .ldc_w k => match zlk (cn * 10000 + k) zSL with
    | some r => .ldc_w r
    | none => match zlk (cn * 10000 + k) zIL with
      | some r => .ldc_w (1000 + r)
      | none => .nop
  | .nop => .jsr 0
  | i => i
/-- the lengths that instructions have here -/
def zil (i : Instr) (n : Nat) : Bool := match i with
  | .bipush _ => n == 2
  | .ldc k => n == 2 && decide (k < 10000)
  | .newarray _ => n == 2
  | .iload _ => n == 2
  | .aload _ => n == 2
  | .istore _ => n == 2
  | .astore _ => n == 2
  | .sipush _ => n == 3
  | .getfield k => n == 3 && decide (k < 10000)
  | .putfield k => n == 3 && decide (k < 10000)
  | .getstatic k => n == 3 && decide (k < 10000)
  | .new k => n == 3 && decide (k < 10000)
  | .anewarray k => n == 3 && decide (k < 10000)
  | .invokevirtual k => n == 3 && decide (k < 10000)
  | .invokestatic k => n == 3 && decide (k < 10000)
  | .invokespecial k => n == 3 && decide (k < 10000)
  | .ldc_w k => n == 3 && decide (k < 10000)
  | .goto _ => n == 3
  | .if_icmp _ _ => n == 3
  | .ifCond _ _ => n == 3
  | .iinc _ _ => n == 3
  | .tableswitch _ _ _ _ => true
  | _ => n == 1
/-- jumps stay within the method -/
def zjk (i : Instr) (pc : Nat) : Bool := match i with
  | .if_icmp _ off => decide (0 ≤ (pc : Int) + off)
  | .ifCond _ off => decide (0 ≤ (pc : Int) + off)
  | _ => true
def zop (mi pc : Nat) : Option (Instr × Nat) := match zM[mi]? with
  | none => none
  | some q => match decode q.cc pc with
    | .ok (i, n) => if zil i n = true ∧ zjk i pc = true then some (zres q.cn i, n) else none
    | _ => none
theorem zop_spec {mi pc n : Nat} {i : Instr} {q : zMI} (hq : zM[mi]? = some q) (h : zop mi pc = some (i, n)) : ∃ r, decode q.cc pc = .ok (r, n) ∧ zil r n = true ∧ zjk r pc = true ∧ zres q.cn r = i := by
  simp only [zop, hq] at h
  split at h
  · next r k e =>
    split at h
    · next hl => cases h; exact ⟨r, e, hl.1, hl.2, rfl⟩
    · cases h
  · cases h
/-- cells: a row of a type, or an object of a class -/
abbrev zC : Type := (FieldType × vp_A) ⊕ (Nat × List Value)
/-- how a method ends: with an answer, with none, or with an exception (0 NoSuchElement, 1 IllegalArgument) -/
abbrev zRes : Type := Option Value ⊕ Nat
abbrev zS : Type := Nat × List Value × List Value × List zC × Nat × Nat
/-- a reference of which nothing is known (retAddr 1: or null) -/
abbrev zJ : Value := .retAddr 0
abbrev zPost : Type := zRes → List zC → Prop
def zin (i : Int32) (n : Nat) : Bool := decide (¬ (i < 0 ∨ n ≤ i.toNatClampNeg))
theorem zin_in {i : Int32} {n : Nat} : zin i n = true ↔ vp_in i n := by simp [zin, vp_in]
def zcmp (c : Jvm.ClassFile.Cond) (x y : Int32) : Bool := match c with
  | .eq => decide (x = y)
  | .ne => decide (¬ x = y)
  | .lt => decide (x < y)
  | .ge => decide (y ≤ x)
  | .gt => decide (y < x)
  | .le => decide (x ≤ y)
def zgo (pc : Nat) (off : Int) : Option Nat := if 0 ≤ (pc : Int) + off then some ((pc : Int) + off).toNat else none
def zbr (b : Bool) (pc n : Nat) (off : Int) : Option Nat := if b = true then zgo pc off else some (pc + n)
def zsw (dflt lo hi : Int) (offs : Array Int) (x : Int32) : Option Int :=
  if x.toInt < lo ∨ hi < x.toInt then some dflt else offs[(x.toInt - lo).toNat]?
/-- may a field of this type hold this value? -/
def zfit (ty : FieldType) (v : Value) : Bool := match ty, v with
  | .int, .int _ => true
  | .boolean, .int x => decide (x = 0 ∨ x = 1)
  | .object _, .ref _ => true
  | .array _, .ref _ => true
  | _, _ => false
def zdef (ty : FieldType) : Value := defaultValue ty
def zsplitR (a : Nat) : Nat := a / 100
/-- a field's value -/
def zget (ws : List zC) (a r : Nat) : Option Value :=
  if a < 1000 then match ws[a]? with
    | some (.inr (ci, fs)) => if ci = r / 100 then fs[r % 100]? else none
    | _ => none
  else if a - 1000 < 48 then (if r = 9900 then some (.ref (a + 1000)) else if r = 9901 then some (.int 0) else none) else none
def zput (q : zMI) (ws : List zC) (a r : Nat) (v : Value) : Option (List zC) :=
  if a < 1000 then match ws[a]? with
    | some (.inr (ci, fs)) => if ci = r / 100 ∧ r % 100 < zNF ci ∧ r % 100 < fs.length ∧ zfit (zty ci (r % 100)) v = true ∧ ((zT ci (r % 100)).2.2.2 = true → q.ini = true ∧ q.cn = ci) then some (ws.set a (.inr (ci, fs.set (r % 100) v))) else none
    | _ => none
  else none
/-- a row that is read only -/
def zext (sc : Nat × (Nat → Int32)) (a : Nat) : Option (FieldType × Nat × (Nat → Int32)) :=
  if a = 3000 then some (.int, sc.1, sc.2)
  else if 2000 ≤ a ∧ a - 2000 < 48 then some (.byte, (zByt.getD (a - 2000) []).length, fun j => (zByt.getD (a - 2000) []).getD j 0) else none
def zald (sc : Nat × (Nat → Int32)) (ty : FieldType) (ws : List zC) (a : Nat) (i : Int32) : Option Value :=
  if a < 1000 then match ws[a]? with
    | some (.inl (ty', n, .inl f)) => if ty' = ty ∧ zin i n = true then some (.int (f i.toNatClampNeg)) else none
    | _ => none
  else match zext sc a with
    | some (ty', n, f) => if ty' = ty ∧ zin i n = true then some (.int (f i.toNatClampNeg)) else none
    | none => none
def zlal (ws : List zC) (a : Nat) (i : Int32) : Option Value :=
  if a < 1000 then match ws[a]? with
    | some (.inl (.long, n, .inr (.inl f))) => if zin i n = true then some (.long (f i.toNatClampNeg)) else none
    | _ => none
  else none
def zaal (ws : List zC) (a : Nat) (i : Int32) : Option Value :=
  if a < 1000 then match ws[a]? with
    | some (.inl (.object _, n, .inr (.inr (.inr (.inr f))))) => if zin i n = true then (match f i.toNatClampNeg with
      | some k => some (.ref k)
      | none => none) else none
    | _ => none
  else none
def zlen (sc : Nat × (Nat → Int32)) (ws : List zC) (a : Nat) : Option Value :=
  if a < 1000 then match ws[a]? with
    | some (.inl (_, x)) => some (.int (Int32.ofNat x.1))
    | _ => none
  else match zext sc a with
    | some (_, n, _) => some (.int (Int32.ofNat n))
    | none => none
def zast (ty : FieldType) (ws : List zC) (a : Nat) (i x : Int32) : Option (List zC) :=
  if a < 1000 then match ws[a]? with
    | some (.inl (ty', n, .inl f)) => if ty' = ty ∧ zin i n = true then some (ws.set a (.inl (ty', n, .inl (upd f i.toNatClampNeg x)))) else none
    | _ => none
  else none
def zlas (ws : List zC) (a : Nat) (i : Int32) (x : Int64) : Option (List zC) :=
  if a < 1000 then match ws[a]? with
    | some (.inl (.long, n, .inr (.inl f))) => if zin i n = true then some (ws.set a (.inl (.long, n, .inr (.inl (vp_updL f i.toNatClampNeg x))))) else none
    | _ => none
  else none
/-- may this reference lie in a row of that class? -/
def zmay (ws : List zC) (k : Nat) (C : String) : Bool :=
  if k < 1000 then match ws[k]? with
    | some (.inr (ci, _)) => decide (ci < 11 ∧ zCN.getD ci "" = C)
    | _ => false
  else decide (k - 1000 < 48 ∧ C = "java/lang/String")
def zaas (ws : List zC) (a : Nat) (i : Int32) (k : Nat) : Option (List zC) :=
  if a < 1000 then match ws[a]? with
    | some (.inl (.object C, n, .inr (.inr (.inr (.inr f))))) => if zin i n = true ∧ zmay ws k C = true then some (ws.set a (.inl (.object C, n, .inr (.inr (.inr (.inr (va_up f i.toNatClampNeg (some k)))))))) else none
    | _ => none
  else none
/-- System.arraycopy, between two rows of ints or of longs -/
def zcpy (ws : List zC) (a0 : Nat) (sp : Int32) (a1 : Nat) (dp n : Int32) : Option (List zC) :=
  if a0 < 1000 ∧ a1 < 1000 ∧ ¬ sp < 0 ∧ ¬ dp < 0 ∧ ¬ n < 0 then match ws[a0]?, ws[a1]? with
    | some (.inl (.int, n0, .inl f)), some (.inl (.int, n1, .inl g)) => if sp.toNatClampNeg + n.toNatClampNeg ≤ n0 ∧ dp.toNatClampNeg + n.toNatClampNeg ≤ n1 then some (ws.set a1 (.inl (.int, n1, .inl (va_cpy f g sp.toNatClampNeg dp.toNatClampNeg n.toNatClampNeg)))) else none
    | some (.inl (.long, n0, .inr (.inl f))), some (.inl (.long, n1, .inr (.inl g))) => if sp.toNatClampNeg + n.toNatClampNeg ≤ n0 ∧ dp.toNatClampNeg + n.toNatClampNeg ≤ n1 then some (ws.set a1 (.inl (.long, n1, .inr (.inl (va_cpy f g sp.toNatClampNeg dp.toNatClampNeg n.toNatClampNeg))))) else none
    | _, _ => none
  else none
def znew (ty : FieldType) (n : Nat) : Option zC := match ty with
  | .int => some (.inl (.int, n, .inl (fun _ => 0)))
  | .byte => some (.inl (.byte, n, .inl (fun _ => 0)))
  | .long => some (.inl (.long, n, .inr (.inl (fun _ => 0))))
  | _ => none
/-- words that the values below a call's arguments take -/
def zwd (st : List Value) : Nat := (st.map fun v => v.category).sum
/-- one step that is neither a call, nor an end, nor a throw -/
def znx (sc : Nat × (Nat → Int32)) (q : zMI) (d : Nat) (i : Instr) (n pc : Nat) (ls st : List Value) (ws : List zC) (kc ks : Nat) : Option zS :=
  match i with
  | .iconst k => some (pc + n, ls, .int (Int32.ofInt k) :: st, ws, kc, ks)
  | .bipush k => some (pc + n, ls, .int (Int8.ofInt k).toInt32 :: st, ws, kc, ks)
  | .sipush k => some (pc + n, ls, .int (Int16.ofInt k).toInt32 :: st, ws, kc, ks)
  | .lconst k => some (pc + n, ls, .long (Int64.ofNat (k : Nat)) :: st, ws, kc, ks)
  | .iload k => match ls[k]? with
    | some (.int x) => some (pc + n, ls, .int x :: st, ws, kc, ks)
    | _ => none
  | .iload_n k => match ls[(k : Nat)]? with
    | some (.int x) => some (pc + n, ls, .int x :: st, ws, kc, ks)
    | _ => none
  | .aload k => match ls[k]? with
    | some (.ref x) => some (pc + n, ls, .ref x :: st, ws, kc, ks)
    | _ => none
  | .aload_n k => match ls[(k : Nat)]? with
    | some (.ref x) => some (pc + n, ls, .ref x :: st, ws, kc, ks)
    | _ => none
  | .istore k => match st with
    | .int x :: r => if k < ls.length then some (pc + n, ls.set k (.int x), r, ws, kc, ks) else none
    | _ => none
  | .istore_n k => match st with
    | .int x :: r => if (k : Nat) < ls.length then some (pc + n, ls.set (k : Nat) (.int x), r, ws, kc, ks) else none
    | _ => none
  | .astore k => match st with
    | .ref x :: r => if k < ls.length then some (pc + n, ls.set k (.ref x), r, ws, kc, ks) else none
    | .retAddr j :: r => if j = 0 ∧ k < ls.length then some (pc + n, ls.set k zJ, r, ws, kc, ks) else none
    | _ => none
  | .astore_n k => match st with
    | .ref x :: r => if (k : Nat) < ls.length then some (pc + n, ls.set (k : Nat) (.ref x), r, ws, kc, ks) else none
    | .retAddr j :: r => if j = 0 ∧ (k : Nat) < ls.length then some (pc + n, ls.set (k : Nat) zJ, r, ws, kc, ks) else none
    | _ => none
  | .iinc k c => match ls[k]? with
    | some (.int x) => some (pc + n, ls.set k (.int (x + Int32.ofInt c)), st, ws, kc, ks)
    | _ => none
  | .iadd => match st with
    | .int y :: .int x :: r => some (pc + n, ls, .int (x + y) :: r, ws, kc, ks)
    | _ => none
  | .isub => match st with
    | .int y :: .int x :: r => some (pc + n, ls, .int (x - y) :: r, ws, kc, ks)
    | _ => none
  | .imul => match st with
    | .int y :: .int x :: r => some (pc + n, ls, .int (x * y) :: r, ws, kc, ks)
    | _ => none
  | .idiv => match st with
    | .int y :: .int x :: r => if y = 0 then none else some (pc + n, ls, .int (x / y) :: r, ws, kc, ks)
    | _ => none
  | .irem => match st with
    | .int y :: .int x :: r => if y = 0 then none else some (pc + n, ls, .int (x - x / y * y) :: r, ws, kc, ks)
    | _ => none
  | .iand => match st with
    | .int y :: .int x :: r => some (pc + n, ls, .int (x &&& y) :: r, ws, kc, ks)
    | _ => none
  | .ior => match st with
    | .int y :: .int x :: r => some (pc + n, ls, .int (x ||| y) :: r, ws, kc, ks)
    | _ => none
  | .ishl => match st with
    | .int y :: .int x :: r => some (pc + n, ls, .int (x <<< (y &&& 31)) :: r, ws, kc, ks)
    | _ => none
  | .ishr => match st with
    | .int y :: .int x :: r => some (pc + n, ls, .int (x >>> (y &&& 31)) :: r, ws, kc, ks)
    | _ => none
  | .iushr => match st with
    | .int y :: .int x :: r => some (pc + n, ls, .int (x.toUInt32 >>> (y.toUInt32 &&& Int32.toUInt32 31)).toInt32 :: r, ws, kc, ks)
    | _ => none
  | .i2l => match st with
    | .int x :: r => some (pc + n, ls, .long x.toInt64 :: r, ws, kc, ks)
    | _ => none
  | .i2b => match st with
    | .int x :: r => some (pc + n, ls, .int x.toInt8.toInt32 :: r, ws, kc, ks)
    | _ => none
  | .i2c => match st with
    | .int x :: r => some (pc + n, ls, .int (x.toUInt32 % 65536).toInt32 :: r, ws, kc, ks)
    | _ => none
  | .lshl => match st with
    | .int y :: .long x :: r => some (pc + n, ls, .long (x <<< (y.toInt64 &&& 63)) :: r, ws, kc, ks)
    | _ => none
  | .lushr => match st with
    | .int y :: .long x :: r => some (pc + n, ls, .long (x.toUInt64 >>> (y.toInt64.toUInt64 &&& Int64.toUInt64 63)).toInt64 :: r, ws, kc, ks)
    | _ => none
  | .land => match st with
    | .long y :: .long x :: r => some (pc + n, ls, .long (x &&& y) :: r, ws, kc, ks)
    | _ => none
  | .lor => match st with
    | .long y :: .long x :: r => some (pc + n, ls, .long (x ||| y) :: r, ws, kc, ks)
    | _ => none
  | .lcmp => match st with
    | .long y :: .long x :: r => some (pc + n, ls, .int (lg_cmp x y) :: r, ws, kc, ks)
    | _ => none
  | .dup => match st with
    | .int x :: r => some (pc + n, ls, .int x :: .int x :: r, ws, kc, ks)
    | .ref x :: r => some (pc + n, ls, .ref x :: .ref x :: r, ws, kc, ks)
    | _ => none
  | .dup2 => match st with
    | .int x :: .ref y :: r => some (pc + n, ls, .int x :: .ref y :: .int x :: .ref y :: r, ws, kc, ks)
    | _ => none
  | .pop => match st with
    | .int _ :: r => some (pc + n, ls, r, ws, kc, ks)
    | _ => none
  | .goto off => match zgo pc off with
    | some t => some (t, ls, st, ws, kc, ks)
    | none => none
  | .if_icmp c off => match st with
    | .int y :: .int x :: r => match zbr (zcmp c x y) pc n off with
      | some t => some (t, ls, r, ws, kc, ks)
      | none => none
    | _ => none
  | .ifCond c off => match st with
    | .int x :: r => match zbr (zcmp c x 0) pc n off with
      | some t => some (t, ls, r, ws, kc, ks)
      | none => none
    | _ => none
  | .tableswitch dflt lo hi offs => match st with
    | .int x :: r => match zsw dflt lo hi offs x with
      | some off => match zgo pc off with
        | some t => some (t, ls, r, ws, kc, ks)
        | none => none
      | none => none
    | _ => none
  | .getfield r => match st with
    | .ref a :: s' => match zget ws a r with
      | some v => some (pc + n, ls, v :: s', ws, kc, ks)
      | none => none
    | _ => none
  | .putfield r => match st with
    | v :: .ref a :: s' => match zput q ws a r v with
      | some ws' => some (pc + n, ls, s', ws', kc, ks)
      | none => none
    | _ => none
  | .getstatic r => if r = 0 then some (pc + n, ls, .int 1 :: st, ws, kc, ks) else if r = 1 then some (pc + n, ls, .retAddr 1 :: st, ws, kc, ks) else none
  | .iaload => match st with
    | .int i :: .ref a :: r => match zald sc .int ws a i with
      | some v => some (pc + n, ls, v :: r, ws, kc, ks)
      | none => none
    | _ => none
  | .baload => match st with
    | .int i :: .ref a :: r => match zald sc .byte ws a i with
      | some v => some (pc + n, ls, v :: r, ws, kc, ks)
      | none => none
    | _ => none
  | .laload => match st with
    | .int i :: .ref a :: r => match zlal ws a i with
      | some v => some (pc + n, ls, v :: r, ws, kc, ks)
      | none => none
    | _ => none
  | .aaload => match st with
    | .int i :: .ref a :: r => match zaal ws a i with
      | some v => some (pc + n, ls, v :: r, ws, kc, ks)
      | none => none
    | _ => none
  | .arraylength => match st with
    | .ref a :: r => match zlen sc ws a with
      | some v => some (pc + n, ls, v :: r, ws, kc, ks)
      | none => none
    | _ => none
  | .iastore => match st with
    | .int x :: .int i :: .ref a :: r => match zast .int ws a i x with
      | some ws' => some (pc + n, ls, r, ws', kc, ks)
      | none => none
    | _ => none
  | .bastore => match st with
    | .int x :: .int i :: .ref a :: r => match zast .byte ws a i (vp_nar .byte x) with
      | some ws' => some (pc + n, ls, r, ws', kc, ks)
      | none => none
    | _ => none
  | .lastore => match st with
    | .long x :: .int i :: .ref a :: r => match zlas ws a i x with
      | some ws' => some (pc + n, ls, r, ws', kc, ks)
      | none => none
    | _ => none
  | .aastore => match st with
    | .ref k :: .int i :: .ref a :: r => match zaas ws a i k with
      | some ws' => some (pc + n, ls, r, ws', kc, ks)
      | none => none
    | _ => none
  | .newarray t => match st with
    | .int k :: r => match znew (newarray.typeOf t) k.toNatClampNeg with
      | some c => if ¬ k < 0 ∧ k.toNatClampNeg ≤ 60000 ∧ ws.length < 900 ∧ kc + 1 ≤ q.mc ∧ ks + k.toNatClampNeg ≤ q.ms then some (pc + n, ls, .ref ws.length :: r, ws ++ [c], kc + 1, ks + k.toNatClampNeg) else none
      | none => none
    | _ => none
  | .anewarray t => match st with
    | .int k :: r => if (t = 5 ∨ t = 12) ∧ ¬ k < 0 ∧ k.toNatClampNeg ≤ 60000 ∧ ws.length < 900 ∧ kc + 1 ≤ q.mc ∧ ks + k.toNatClampNeg ≤ q.ms then some (pc + n, ls, .ref ws.length :: r, ws ++ [.inl (.object (zCN.getD t ""), k.toNatClampNeg, .inr (.inr (.inr (.inr (fun _ => none)))))], kc + 1, ks + k.toNatClampNeg) else none
    | _ => none
  | .new ci => if ci < 11 ∧ ws.length < 900 ∧ kc + 1 ≤ q.mc ∧ ks + zNF ci ≤ q.ms then some (pc + n, ls, .ref ws.length :: st, ws ++ [.inr (ci, (zTs.getD ci []).map defaultValue)], kc + 1, ks + zNF ci) else none
  | .ldc r => if r < 48 then some (pc + n, ls, .ref (1000 + r) :: st, ws, kc, ks) else if 1000 ≤ r ∧ r - 1000 < 3 then some (pc + n, ls, .int (zIC.getD (r - 1000) 0) :: st, ws, kc, ks) else none
  | .ldc_w r => if r < 48 then some (pc + n, ls, .ref (1000 + r) :: st, ws, kc, ks) else if 1000 ≤ r ∧ r - 1000 < 3 then some (pc + n, ls, .int (zIC.getD (r - 1000) 0) :: st, ws, kc, ks) else none
  | .invokespecial r => if r = 1000 ∧ 1 ≤ d then (match st with
    | .ref _ :: s' => if zwd s' ≤ 8 then some (pc + n, ls, s', ws, kc, ks) else none
    | _ => none) else none
  | .invokestatic r =>
    if r = 1001 ∧ 1 ≤ d then (match st with
      | .int y :: .int x :: s' => if zwd s' ≤ 8 then some (pc + n, ls, .int (if y < x then y else x) :: s', ws, kc, ks) else none
      | _ => none)
    else if r = 1002 ∧ 1 ≤ d then (match st with
      | .int y :: .int x :: s' => if zwd s' ≤ 8 then some (pc + n, ls, .int (if x < y then y else x) :: s', ws, kc, ks) else none
      | _ => none)
    else if r = 1003 ∧ 1 ≤ d then (match st with
      | .int k :: .int dp :: .ref a1 :: .int sp :: .ref a0 :: s' => if zwd s' ≤ 8 then (match zcpy ws a0 sp a1 dp k with
        | some ws' => some (pc + n, ls, s', ws', kc, ks)
        | none => none) else none
      | _ => none)
    else none
  | _ => none
/-- the locals with which a method begins -/
def zloc (q : zMI) (as : List Value) : List Value := as ++ List.replicate (q.nL - as.length) zJ
/-- which handler takes an exception -/
def zhd (q : zMI) (pc e : Nat) : List (Nat × Nat × Nat × Nat) → Option Nat
  | [] => none
  | (b, f, h, t) :: r => if b ≤ pc ∧ pc < f ∧ zlk (q.cn * 10000 + t) zEL = some e then some h else zhd q pc e r
abbrev zPred : Type := Nat → Nat → Nat → List Value → List Value → List zC → Nat → Nat → zPost → Prop
/-- how a call goes on: behind it, at a handler, or out -/
def zafter (P : zPred) (q : zMI) (q1 : zMI) (mi d pc n : Nat) (ls rest : List Value) (kc ks : Nat) (Q Q1 : zPost) : Prop :=
  (∀ v ws1, Q1 (.inl v) ws1 → P mi d (pc + n) ls (v.toList ++ rest) ws1 (kc + q1.mc) (ks + q1.ms) Q) ∧
  ∀ e ws1, Q1 (.inr e) ws1 → e < 2 ∧ match zhd q pc e q.hh with
    | some h => P mi d h ls [zJ] ws1 (kc + q1.mc) (ks + q1.ms) Q
    | none => Q (.inr e) ws1
/-- the receiver of a call of a method of the class cn -/
def zrcv (ws : List zC) (b cn : Nat) : Bool :=
  if b < 1000 then match ws[b]? with
    | some (.inr (ci, _)) => decide (ci = cn ∧ ci < 11)
    | _ => false
  else decide (b - 1000 < 48 ∧ cn = 12)
def zcall (P : zPred) (q : zMI) (mi d pc n : Nat) (ls rest : List Value) (as : List Value) (ws : List zC) (kc ks : Nat) (Q : zPost) (j : Nat) (q1 : zMI) : Prop :=
  1 ≤ d ∧ zwd rest ≤ 8 ∧ zwd as = as.length ∧ as.length ≤ q1.nL ∧ kc + q1.mc ≤ q.mc ∧ ks + q1.ms ≤ q.ms ∧ ∃ Q1 : zPost, P j (d - 1) 0 (zloc q1 as) [] ws 0 0 Q1 ∧ zafter P q q1 mi d pc n ls rest kc ks Q Q1
def zret (rt : Option FieldType) (v : Int32) : Bool := match rt with
  | some .int => true
  | some .boolean => decide (v = 0 ∨ v = 1)
  | some .byte => decide (v = 0)
  | some .char => decide ((v.toUInt32 % 65536).toInt32 = v)
  | _ => false
/-- one step of the machine: P is to hold behind it -/
def zstep (sc : Nat × (Nat → Int32)) (P : zPred) (mi d pc : Nat) (ls st : List Value) (ws : List zC) (kc ks : Nat) (Q : zPost) : Prop :=
  ∃ (q : zMI) (i : Instr) (n : Nat), zM[mi]? = some q ∧ zop mi pc = some (i, n) ∧
    ((∃ pc' ls' st' ws' kc' ks', znx sc q d i n pc ls st ws kc ks = some (pc', ls', st', ws', kc', ks') ∧ P mi d pc' ls' st' ws' kc' ks' Q) ∨
     (∃ v, i = .ireturn ∧ st = [.int v] ∧ zret q.rt v = true ∧ kc ≤ q.mc ∧ ks ≤ q.ms ∧ Q (.inl (some (.int v))) ws) ∨
     (i = .return_ ∧ st = [] ∧ q.rt = none ∧ kc ≤ q.mc ∧ ks ≤ q.ms ∧ Q (.inl none) ws) ∨
     (∃ j q1 as b rest, i = .invokevirtual j ∧ zM[j]? = some q1 ∧ j < 234 ∧ st = as.reverse ++ .ref b :: rest ∧ as.length = q1.np ∧ zrcv ws b q1.cn = true ∧ q1.hh = [] ∧ zcall P q mi d pc n ls rest (.ref b :: as) ws kc ks Q j q1) ∨
     (∃ j q1 as rest, i = .invokestatic j ∧ zM[j]? = some q1 ∧ j < 234 ∧ st = as.reverse ++ rest ∧ as.length = q1.np ∧ zcall P q mi d pc n ls rest as ws kc ks Q j q1) ∨
     (∃ j j0 q1 as b rest, i = .invokespecial j0 ∧ (j0 = j ∨ j0 = 2000 + j) ∧ zM[j]? = some q1 ∧ j < 234 ∧ q1.ini = true ∧ q1.hh = [] ∧ st = as.reverse ++ .ref b :: rest ∧ as.length = q1.np ∧ 1 ≤ d ∧ zwd rest ≤ 8 ∧ (zwd as = as.length ∧ as.length + 1 ≤ q1.nL) ∧ kc + q1.mc ≤ q.mc ∧ ks + q1.ms ≤ q.ms ∧
        ∃ Q1 : zPost, P j (d - 1) 0 (zloc q1 (.ref b :: as)) [] ws 0 0 Q1 ∧ (∀ v ws1, Q1 (.inl v) ws1 → P mi d (pc + n) ls (v.toList ++ rest) ws1 (kc + q1.mc) (ks + q1.ms) Q) ∧ ∀ e ws1, ¬ Q1 (.inr e) ws1) ∨
     (∃ e s, i = .new (100 + e) ∧ e < 2 ∧ s < 48 ∧ q.cn = 9 ∧ q.hh = [] ∧ 6 ≤ d ∧ zwd st ≤ 8 ∧ kc + 1 ≤ q.mc ∧ ks + 6 ≤ q.ms ∧ zop mi (pc + 3) = some (.dup, 1) ∧
        ((zop mi (pc + 4) = some (.ldc s, 2) ∧ zop mi (pc + 6) = some (.invokespecial (1010 + e), 3) ∧ zop mi (pc + 9) = some (.athrow, 1)) ∨
         (zop mi (pc + 4) = some (.ldc_w s, 3) ∧ zop mi (pc + 7) = some (.invokespecial (1010 + e), 3) ∧ zop mi (pc + 10) = some (.athrow, 1))) ∧ Q (.inr e) ws))
/-- the machine comes to an end that Q tells: the least that is closed under its steps -/
def zEv (sc : Nat × (Nat → Int32)) : zPred := fun mi d pc ls st ws kc ks Q =>
  ∀ P : zPred, (∀ mi d pc ls st ws kc ks Q, zstep sc P mi d pc ls st ws kc ks Q → P mi d pc ls st ws kc ks Q) → P mi d pc ls st ws kc ks Q
theorem zafter_mono {P P' : zPred} (h : ∀ mi d pc ls st ws kc ks Q, P mi d pc ls st ws kc ks Q → P' mi d pc ls st ws kc ks Q) {q q1 : zMI} {mi d pc n : Nat} {ls rest : List Value} {kc ks : Nat} {Q Q1 : zPost} (a : zafter P q q1 mi d pc n ls rest kc ks Q Q1) : zafter P' q q1 mi d pc n ls rest kc ks Q Q1 := by
  refine ⟨fun v ws1 hq => h _ _ _ _ _ _ _ _ _ (a.1 v ws1 hq), fun e ws1 hq => ?_⟩
  obtain ⟨h0, h1⟩ := a.2 e ws1 hq
  refine ⟨h0, ?_⟩
  cases hz : zhd q pc e q.hh with
  | none => rw [hz] at h1; exact h1
  | some t => rw [hz] at h1; exact h _ _ _ _ _ _ _ _ _ h1
theorem zcall_mono {P P' : zPred} (h : ∀ mi d pc ls st ws kc ks Q, P mi d pc ls st ws kc ks Q → P' mi d pc ls st ws kc ks Q) {q : zMI} {mi d pc n : Nat} {ls rest as : List Value} {ws : List zC} {kc ks : Nat} {Q : zPost} {j : Nat} {q1 : zMI} (a : zcall P q mi d pc n ls rest as ws kc ks Q j q1) : zcall P' q mi d pc n ls rest as ws kc ks Q j q1 := by
  obtain ⟨h1, h2, h2a, h2b, h3, h4, Q1, h5, h6⟩ := a
  exact ⟨h1, h2, h2a, h2b, h3, h4, Q1, h _ _ _ _ _ _ _ _ _ h5, zafter_mono h h6⟩
theorem zstep_mono {sc : Nat × (Nat → Int32)} {P P' : zPred} (h : ∀ mi d pc ls st ws kc ks Q, P mi d pc ls st ws kc ks Q → P' mi d pc ls st ws kc ks Q) {mi d pc : Nat} {ls st : List Value} {ws : List zC} {kc ks : Nat} {Q : zPost} (a : zstep sc P mi d pc ls st ws kc ks Q) : zstep sc P' mi d pc ls st ws kc ks Q := by
  obtain ⟨q, i, n, h1, h2, h3⟩ := a
  refine ⟨q, i, n, h1, h2, ?_⟩
  rcases h3 with ⟨pc', ls', st', ws', kc', ks', a1, a2⟩ | h3 | h3 | ⟨j, q1, as, b, rest, b1, b2, b3, b4, b5, b6, b7, b8⟩ | ⟨j, q1, as, rest, b1, b2, b3, b4, b5, b6⟩ | ⟨j, j0, q1, as, b, rest, b1, b2, b3, b4, b5, b6, b7, b8, b9, c1, c1a, c2, c3, Q1, c4, c5, c6⟩ | h3
  · exact Or.inl ⟨pc', ls', st', ws', kc', ks', a1, h _ _ _ _ _ _ _ _ _ a2⟩
  · exact Or.inr (Or.inl h3)
  · exact Or.inr (Or.inr (Or.inl h3))
  · exact Or.inr (Or.inr (Or.inr (Or.inl ⟨j, q1, as, b, rest, b1, b2, b3, b4, b5, b6, b7, zcall_mono h b8⟩)))
  · exact Or.inr (Or.inr (Or.inr (Or.inr (Or.inl ⟨j, q1, as, rest, b1, b2, b3, b4, b5, zcall_mono h b6⟩))))
  · exact Or.inr (Or.inr (Or.inr (Or.inr (Or.inr (Or.inl ⟨j, j0, q1, as, b, rest, b1, b2, b3, b4, b5, b6, b7, b8, b9, c1, c1a, c2, c3, Q1, h _ _ _ _ _ _ _ _ _ c4, fun v ws1 hq => h _ _ _ _ _ _ _ _ _ (c5 v ws1 hq), c6⟩)))))
  · exact Or.inr (Or.inr (Or.inr (Or.inr (Or.inr (Or.inr h3)))))
theorem zEv_step {sc : Nat × (Nat → Int32)} {mi d pc : Nat} {ls st : List Value} {ws : List zC} {kc ks : Nat} {Q : zPost} (a : zstep sc (zEv sc) mi d pc ls st ws kc ks Q) : zEv sc mi d pc ls st ws kc ks Q := by
  intro P hP
  exact hP _ _ _ _ _ _ _ _ _ (zstep_mono (fun mi d pc ls st ws kc ks Q h => h P hP) a)
