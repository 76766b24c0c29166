/-! the machine's calls, ends and throws are the JVM's -/
theorem zCL_r : zCL.all (fun e => decide (e.2 < 100)) = true := by decide +kernel
theorem zML_x : zML.all (fun e => decide ((e.2 = 1010 → e.1 % 10000 = 138) ∧ (e.2 = 1011 → e.1 % 10000 = 72))) = true := by decide +kernel
theorem zres_iv {cn j : Nat} {r : Instr} (h : zres cn r = .invokevirtual j) : ∃ k, r = .invokevirtual k ∧ zlk (cn * 10000 + k) zML = some j ∧ zisV j = true := by
  cases r <;> simp only [zres] at h <;> (try (cases h; done)) <;> (repeat' split at h) <;> (try (cases h; done))
  cases h
  exact ⟨_, rfl, by assumption, by assumption⟩
theorem zres_is {cn j : Nat} {r : Instr} (h : zres cn r = .invokestatic j) : ∃ k, r = .invokestatic k ∧ zlk (cn * 10000 + k) zML = some j ∧ (zisS j = true ∨ 1000 ≤ j) := by
  cases r <;> simp only [zres] at h <;> (try (cases h; done)) <;> (repeat' split at h) <;> (try (cases h; done))
  cases h
  exact ⟨_, rfl, by assumption, by assumption⟩
theorem zres_ip {cn j : Nat} {r : Instr} (h : zres cn r = .invokespecial j) : ∃ k, r = .invokespecial k ∧ ((zlk (cn * 10000 + k) zML = some j ∧ (zisI j = true ∨ 1000 ≤ j)) ∨ ∃ j1, j = 2000 + j1 ∧ zlk (cn * 10000 + k) zNL = some j1 ∧ zisI j1 = true) := by
  cases r <;> simp only [zres] at h <;> (try (cases h; done)) <;> (repeat' split at h) <;> (try (cases h; done))
  · cases h
    exact ⟨_, rfl, Or.inl ⟨by assumption, by assumption⟩⟩
  · cases h
    exact ⟨_, rfl, Or.inr ⟨_, rfl, by assumption, by assumption⟩⟩
theorem zres_re {cn : Nat} {r : Instr} (h : zres cn r = .ireturn) : r = .ireturn := by
  cases r <;> simp only [zres] at h <;> (try (cases h; done)) <;> (repeat' split at h) <;> (try (cases h; done))
  rfl
theorem zres_rv {cn : Nat} {r : Instr} (h : zres cn r = .return_) : r = .return_ := by
  cases r <;> simp only [zres] at h <;> (try (cases h; done)) <;> (repeat' split at h) <;> (try (cases h; done))
  rfl
theorem zres_dup {cn : Nat} {r : Instr} (h : zres cn r = .dup) : r = .dup := by
  cases r <;> simp only [zres] at h <;> (try (cases h; done)) <;> (repeat' split at h) <;> (try (cases h; done))
  rfl
theorem zres_at {cn : Nat} {r : Instr} (h : zres cn r = .athrow) : r = .athrow := by
  cases r <;> simp only [zres] at h <;> (try (cases h; done)) <;> (repeat' split at h) <;> (try (cases h; done))
  rfl
theorem zres_ne {cn x : Nat} {r : Instr} (h : zres cn r = .new (100 + x)) : ∃ k, r = .new k ∧ zlk (cn * 10000 + k) zEL = some x := by
  cases r <;> simp only [zres] at h <;> (try (cases h; done)) <;> (repeat' split at h) <;> (try (cases h; done))
  · next k _ y hz =>
    have h1 := List.all_eq_true.mp zCL_r _ (zlk_mem hz)
    simp only [decide_eq_true_eq, Instr.new.injEq] at h1 h
    omega
  · next y hz =>
    simp only [Instr.new.injEq] at h
    exact ⟨_, rfl, by rw [hz]; congr 1; omega⟩
theorem zres_lc {cn x : Nat} (hx : x < 48) {r : Instr} (h : zres cn r = .ldc x) : ∃ k, r = .ldc k ∧ zlk (cn * 10000 + k) zSL = some x := by
  cases r <;> simp only [zres] at h <;> (try (cases h; done)) <;> (repeat' split at h) <;> (try (cases h; done))
  · next k _ y hz => cases h; exact ⟨k, rfl, hz⟩
  · next k _ _ y hz => simp only [Instr.ldc.injEq] at h; omega
theorem zres_lw {cn x : Nat} (hx : x < 48) {r : Instr} (h : zres cn r = .ldc_w x) : ∃ k, r = .ldc_w k ∧ zlk (cn * 10000 + k) zSL = some x := by
  cases r <;> simp only [zres] at h <;> (try (cases h; done)) <;> (repeat' split at h) <;> (try (cases h; done))
  · next k _ y hz => cases h; exact ⟨k, rfl, hz⟩
  · next k _ _ y hz => simp only [Instr.ldc_w.injEq] at h; omega
theorem zis_V {j : Nat} {q1 : zMI} (hq : zM[j]? = some q1) (hj : j < 234) (h : zisV j = true) : Cond.instanceMethod q1.y ∈ zws ∧ Cond.selects q1.y.cls q1.y q1.y ∈ zws := by
  have hv : j < zMv.length := by rw [zM_len.2.1]; exact hj
  have e1 : zMv.getD j (9999, 9999) = zMv[j] := by simp [List.getD_eq_getElem?_getD, List.getElem?_eq_getElem hv]
  simp only [zisV, decide_eq_true_eq, e1] at h
  have h1 := List.all_eq_true.mp zM_v (q1, zMv[j]) (List.mem_of_getElem? (i := j) (by simp [List.getElem?_zip_eq_some, List.getElem?_take_of_lt hj, hq, hv]))
  simp only [Bool.and_eq_true, Bool.or_eq_true, decide_eq_true_eq] at h1
  exact ⟨zws_of (List.mem_of_getElem? (h1.1.resolve_left h.1)) rfl, zws_of (List.mem_of_getElem? (h1.2.resolve_left h.2)) rfl⟩
theorem zis_I {j : Nat} {q1 : zMI} (hq : zM[j]? = some q1) (hj : j < 234) (h : zisI j = true) : Cond.instanceMethod q1.y ∈ zws := by
  have hv : j < zMv.length := by rw [zM_len.2.1]; exact hj
  have e1 : zMv.getD j (9999, 9999) = zMv[j] := by simp [List.getD_eq_getElem?_getD, List.getElem?_eq_getElem hv]
  simp only [zisI, decide_eq_true_eq, e1] at h
  have h1 := List.all_eq_true.mp zM_v (q1, zMv[j]) (List.mem_of_getElem? (i := j) (by simp [List.getElem?_zip_eq_some, List.getElem?_take_of_lt hj, hq, hv]))
  simp only [Bool.and_eq_true, Bool.or_eq_true, decide_eq_true_eq] at h1
  exact zws_of (List.mem_of_getElem? (h1.1.resolve_left h)) rfl
theorem zis_S {j : Nat} {q1 : zMI} (hq : zM[j]? = some q1) (hj : j < 234) (h : zisS j = true) : Cond.static q1.y ∈ zws := by
  have hv : j < zMs.length := by rw [zM_len.2.2]; exact hj
  have e1 : zMs.getD j 9999 = zMs[j] := by simp [List.getD_eq_getElem?_getD, List.getElem?_eq_getElem hv]
  simp only [zisS, decide_eq_true_eq, e1] at h
  have h1 := List.all_eq_true.mp zM_s (q1, zMs[j]) (List.mem_of_getElem? (i := j) (by simp [List.getElem?_zip_eq_some, List.getElem?_take_of_lt hj, hq, hv]))
  simp only [Bool.or_eq_true, decide_eq_true_eq] at h1
  exact zws_of (List.mem_of_getElem? (h1.resolve_left h)) rfl
theorem zcy_m {j : Nat} {q1 : zMI} (hq : zM[j]? = some q1) (hj : j < 234) : zcy j = q1.y := by
  unfold zcy
  rw [if_neg (by omega), if_neg (by omega), if_neg (by omega), if_neg (by omega), if_neg (by omega), if_neg (by omega)]
  simp [List.getD_eq_getElem?_getD, hq]
theorem zgood_in {ws : List Cond} (h : ∀ w ∈ ws, w ∈ zws) : GoodIn zws ws := fun w hw => zgood w (h w hw)
