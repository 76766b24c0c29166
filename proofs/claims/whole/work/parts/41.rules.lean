/-! RULES: one for each instruction, over the layout. -/
section
variable {sc : Nat × (Nat → Int32)} {mi d pc n kc ks : Nat} {i : Instr} {ls st : List Value} {ws : List zC} {Q : zPost} {v : zV} {u : zU}
theorem zop_q {p : Instr × Nat} (o : zop mi pc = some p) : ∃ q, zM[mi]? = some q := by
  simp only [zop] at o
  cases h : zM[mi]? with
  | none => rw [h] at o; cases o
  | some q => exact ⟨q, rfl⟩
theorem e_nx {pc' kc' ks' : Nat} {ls' st' : List Value} {ws' : List zC} (o : zop mi pc = some (i, n)) (h : ∀ q, znx sc q d i n pc ls st ws kc ks = some (pc', ls', st', ws', kc', ks')) (k : zEv sc mi d pc' ls' st' ws' kc' ks' Q) : zEv sc mi d pc ls st ws kc ks Q := by
  obtain ⟨q, hq⟩ := zop_q o
  exact zEv_step ⟨q, i, n, hq, o, Or.inl ⟨pc', ls', st', ws', kc', ks', h q, k⟩⟩
theorem zEv_mono {Q' : zPost} (a : zEv sc mi d pc ls st ws kc ks Q) (h : ∀ r w, Q r w → Q' r w) : zEv sc mi d pc ls st ws kc ks Q' := by
  have key := a (fun mi d pc ls st ws kc ks Q => ∀ Q', (∀ r w, Q r w → Q' r w) → zEv sc mi d pc ls st ws kc ks Q') ?_
  · exact key Q' h
  · intro mi d pc ls st ws kc ks Q hs Q' hQ
    apply zEv_step
    obtain ⟨q, i, n, h1, h2, h3⟩ := hs
    refine ⟨q, i, n, h1, h2, ?_⟩
    have af : ∀ {q q1 : zMI} {mi d pc n : Nat} {ls rest : List Value} {kc ks : Nat} {Q1 : zPost}, zafter (fun mi d pc ls st ws kc ks Q => ∀ Q', (∀ r w, Q r w → Q' r w) → zEv sc mi d pc ls st ws kc ks Q') q q1 mi d pc n ls rest kc ks Q Q1 → zafter (zEv sc) q q1 mi d pc n ls rest kc ks Q' Q1 := by
      intro q q1 mi d pc n ls rest kc ks Q1 a
      refine ⟨fun v ws1 hq => a.1 v ws1 hq Q' hQ, fun e ws1 hq => ?_⟩
      obtain ⟨h0, h1⟩ := a.2 e ws1 hq
      refine ⟨h0, ?_⟩
      cases hz : zhd q pc e q.hh with
      | none => rw [hz] at h1; exact hQ _ _ h1
      | some t => rw [hz] at h1; exact h1 Q' hQ
    rcases h3 with ⟨pc', ls', st', ws', kc', ks', a1, a2⟩ | ⟨v, c1, c2, c3, c4, c5, c6⟩ | ⟨c1, c2, c3, c4, c5, c6⟩ | ⟨j, q1, as, b, rest, b1, b2, b3, b4, b5, b6, b7, g1, g2, g3, g4, g5, g6, Q1, g7, g8⟩ | ⟨j, q1, as, rest, b1, b2, b3, b4, b5, g1, g2, g3, g4, g5, g6, Q1, g7, g8⟩ | ⟨j, j0, q1, as, b, rest, b1, b2, b3, b4, b5, b6, b7, b8, b9, c1, c1a, c2, c3, Q1, c4, c5, c6⟩ | ⟨e, s, c1, c2, c3, c4, c5, c6, c7, c8, c9, d1, d2, d3⟩
    · exact Or.inl ⟨pc', ls', st', ws', kc', ks', a1, a2 Q' hQ⟩
    · exact Or.inr (Or.inl ⟨v, c1, c2, c3, c4, c5, hQ _ _ c6⟩)
    · exact Or.inr (Or.inr (Or.inl ⟨c1, c2, c3, c4, c5, hQ _ _ c6⟩))
    · exact Or.inr (Or.inr (Or.inr (Or.inl ⟨j, q1, as, b, rest, b1, b2, b3, b4, b5, b6, b7, g1, g2, g3, g4, g5, g6, Q1, g7 Q1 (fun _ _ h => h), af g8⟩)))
    · exact Or.inr (Or.inr (Or.inr (Or.inr (Or.inl ⟨j, q1, as, rest, b1, b2, b3, b4, b5, g1, g2, g3, g4, g5, g6, Q1, g7 Q1 (fun _ _ h => h), af g8⟩))))
    · exact Or.inr (Or.inr (Or.inr (Or.inr (Or.inr (Or.inl ⟨j, j0, q1, as, b, rest, b1, b2, b3, b4, b5, b6, b7, b8, b9, c1, c1a, c2, c3, Q1, c4 Q1 (fun _ _ h => h), fun v ws1 hq => c5 v ws1 hq Q' hQ, c6⟩)))))
    · exact Or.inr (Or.inr (Or.inr (Or.inr (Or.inr (Or.inr ⟨e, s, c1, c2, c3, c4, c5, c6, c7, c8, c9, d1, d2, hQ _ _ d3⟩)))))
theorem zEv_w {v' : zV} (a : zEv sc mi d pc ls st (zmk v u) kc ks Q) (h : v = v') : zEv sc mi d pc ls st (zmk v' u) kc ks Q := h ▸ a
theorem e_ico {z : Int} (o : zop mi pc = some (.iconst z, 1))  (k : zEv sc mi d (pc + 1) ls (.int (zI z) :: st) ws kc ks Q) : zEv sc mi d pc ls st ws kc ks Q :=
  e_nx o (fun q => by rfl) k
theorem e_bip {z : Int} (o : zop mi pc = some (.bipush z, 2)) (hz : (Int8.ofInt z).toInt32 = zI z) (k : zEv sc mi d (pc + 2) ls (.int (zI z) :: st) ws kc ks Q) : zEv sc mi d pc ls st ws kc ks Q :=
  e_nx o (fun q => by simp only [znx, hz]) k
theorem e_sip {z : Int} (o : zop mi pc = some (.sipush z, 3)) (hz : (Int16.ofInt z).toInt32 = zI z) (k : zEv sc mi d (pc + 3) ls (.int (zI z) :: st) ws kc ks Q) : zEv sc mi d pc ls st ws kc ks Q :=
  e_nx o (fun q => by simp only [znx, hz]) k
theorem e_ldcI {r : Nat} {z : Int} (o : zop mi pc = some (.ldc r, 2)) (hr : decide (1000 ≤ r ∧ r - 1000 < 3) = true) (hz : zIC.getD (r - 1000) 0 = zI z) (k : zEv sc mi d (pc + 2) ls (.int (zI z) :: st) ws kc ks Q) : zEv sc mi d pc ls st ws kc ks Q :=
  e_nx o (fun q => by rw [znx, if_neg (by have := of_decide_eq_true hr; omega), if_pos (of_decide_eq_true hr), hz]) k
theorem e_ldcS {r : Nat} (o : zop mi pc = some (.ldc r, 2)) (hr : decide (r < 48) = true) (k : zEv sc mi d (pc + 2) ls (.ref (1000 + r) :: st) ws kc ks Q) : zEv sc mi d pc ls st ws kc ks Q :=
  e_nx o (fun q => by rw [znx, if_pos (of_decide_eq_true hr)]) k
theorem e_ldc_wI {r : Nat} {z : Int} (o : zop mi pc = some (.ldc_w r, 3)) (hr : decide (1000 ≤ r ∧ r - 1000 < 3) = true) (hz : zIC.getD (r - 1000) 0 = zI z) (k : zEv sc mi d (pc + 3) ls (.int (zI z) :: st) ws kc ks Q) : zEv sc mi d pc ls st ws kc ks Q :=
  e_nx o (fun q => by rw [znx, if_neg (by have := of_decide_eq_true hr; omega), if_pos (of_decide_eq_true hr), hz]) k
theorem e_ldc_wS {r : Nat} (o : zop mi pc = some (.ldc_w r, 3)) (hr : decide (r < 48) = true) (k : zEv sc mi d (pc + 3) ls (.ref (1000 + r) :: st) ws kc ks Q) : zEv sc mi d pc ls st ws kc ks Q :=
  e_nx o (fun q => by rw [znx, if_pos (of_decide_eq_true hr)]) k
theorem e_lco {z : Fin 2} (o : zop mi pc = some (.lconst z, 1))  (k : zEv sc mi d (pc + 1) ls (.long (Int64.ofNat (z : Nat)) :: st) ws kc ks Q) : zEv sc mi d pc ls st ws kc ks Q :=
  e_nx o (fun q => by rfl) k
theorem e_il0  {x : Int32} {t : List Value} (o : zop mi pc = some (.iload_n 0, 1))  (k : zEv sc mi d (pc + 1) (.int x :: t) (.int x :: st) ws kc ks Q) : zEv sc mi d pc (.int x :: t) st ws kc ks Q :=
  e_nx o (fun q => by rfl) k
theorem e_al0  {x : Addr} {t : List Value} (o : zop mi pc = some (.aload_n 0, 1))  (k : zEv sc mi d (pc + 1) (.ref x :: t) (.ref x :: st) ws kc ks Q) : zEv sc mi d pc (.ref x :: t) st ws kc ks Q :=
  e_nx o (fun q => by rfl) k
theorem e_is0  {x : Int32} {y : Value} {t : List Value} (o : zop mi pc = some (.istore_n 0, 1))  (k : zEv sc mi d (pc + 1) (.int x :: t) st ws kc ks Q) : zEv sc mi d pc (y :: t) (.int x :: st) ws kc ks Q :=
  e_nx o (fun q => by simp [znx]) k
theorem e_as0  {x : Addr} {y : Value} {t : List Value} (o : zop mi pc = some (.astore_n 0, 1))  (k : zEv sc mi d (pc + 1) (.ref x :: t) st ws kc ks Q) : zEv sc mi d pc (y :: t) (.ref x :: st) ws kc ks Q :=
  e_nx o (fun q => by simp [znx]) k
theorem e_aj0  {y : Value} {t : List Value} (o : zop mi pc = some (.astore_n 0, 1))  (k : zEv sc mi d (pc + 1) (zJ :: t) st ws kc ks Q) : zEv sc mi d pc (y :: t) (zJ :: st) ws kc ks Q :=
  e_nx o (fun q => by simp [znx]) k
theorem e_inc0  {c x : Int} {t : List Value} (o : zop mi pc = some (.iinc 0 c, 3))  (k : zEv sc mi d (pc + 3) (.int (zI (x + c)) :: t) st ws kc ks Q) : zEv sc mi d pc (.int (zI x) :: t) st ws kc ks Q :=
  e_nx o (fun q => by simp [znx, ← zI_add]; rfl) k
theorem e_il1 {a0 : Value} {x : Int32} {t : List Value} (o : zop mi pc = some (.iload_n 1, 1))  (k : zEv sc mi d (pc + 1) (a0 :: .int x :: t) (.int x :: st) ws kc ks Q) : zEv sc mi d pc (a0 :: .int x :: t) st ws kc ks Q :=
  e_nx o (fun q => by rfl) k
theorem e_al1 {a0 : Value} {x : Addr} {t : List Value} (o : zop mi pc = some (.aload_n 1, 1))  (k : zEv sc mi d (pc + 1) (a0 :: .ref x :: t) (.ref x :: st) ws kc ks Q) : zEv sc mi d pc (a0 :: .ref x :: t) st ws kc ks Q :=
  e_nx o (fun q => by rfl) k
theorem e_is1 {a0 : Value} {x : Int32} {y : Value} {t : List Value} (o : zop mi pc = some (.istore_n 1, 1))  (k : zEv sc mi d (pc + 1) (a0 :: .int x :: t) st ws kc ks Q) : zEv sc mi d pc (a0 :: y :: t) (.int x :: st) ws kc ks Q :=
  e_nx o (fun q => by simp [znx]) k
theorem e_as1 {a0 : Value} {x : Addr} {y : Value} {t : List Value} (o : zop mi pc = some (.astore_n 1, 1))  (k : zEv sc mi d (pc + 1) (a0 :: .ref x :: t) st ws kc ks Q) : zEv sc mi d pc (a0 :: y :: t) (.ref x :: st) ws kc ks Q :=
  e_nx o (fun q => by simp [znx]) k
theorem e_aj1 {a0 : Value} {y : Value} {t : List Value} (o : zop mi pc = some (.astore_n 1, 1))  (k : zEv sc mi d (pc + 1) (a0 :: zJ :: t) st ws kc ks Q) : zEv sc mi d pc (a0 :: y :: t) (zJ :: st) ws kc ks Q :=
  e_nx o (fun q => by simp [znx]) k
theorem e_inc1 {a0 : Value} {c x : Int} {t : List Value} (o : zop mi pc = some (.iinc 1 c, 3))  (k : zEv sc mi d (pc + 3) (a0 :: .int (zI (x + c)) :: t) st ws kc ks Q) : zEv sc mi d pc (a0 :: .int (zI x) :: t) st ws kc ks Q :=
  e_nx o (fun q => by simp [znx, ← zI_add]; rfl) k
theorem e_il2 {a0 a1 : Value} {x : Int32} {t : List Value} (o : zop mi pc = some (.iload_n 2, 1))  (k : zEv sc mi d (pc + 1) (a0 :: a1 :: .int x :: t) (.int x :: st) ws kc ks Q) : zEv sc mi d pc (a0 :: a1 :: .int x :: t) st ws kc ks Q :=
  e_nx o (fun q => by rfl) k
theorem e_al2 {a0 a1 : Value} {x : Addr} {t : List Value} (o : zop mi pc = some (.aload_n 2, 1))  (k : zEv sc mi d (pc + 1) (a0 :: a1 :: .ref x :: t) (.ref x :: st) ws kc ks Q) : zEv sc mi d pc (a0 :: a1 :: .ref x :: t) st ws kc ks Q :=
  e_nx o (fun q => by rfl) k
theorem e_is2 {a0 a1 : Value} {x : Int32} {y : Value} {t : List Value} (o : zop mi pc = some (.istore_n 2, 1))  (k : zEv sc mi d (pc + 1) (a0 :: a1 :: .int x :: t) st ws kc ks Q) : zEv sc mi d pc (a0 :: a1 :: y :: t) (.int x :: st) ws kc ks Q :=
  e_nx o (fun q => by simp [znx]) k
theorem e_as2 {a0 a1 : Value} {x : Addr} {y : Value} {t : List Value} (o : zop mi pc = some (.astore_n 2, 1))  (k : zEv sc mi d (pc + 1) (a0 :: a1 :: .ref x :: t) st ws kc ks Q) : zEv sc mi d pc (a0 :: a1 :: y :: t) (.ref x :: st) ws kc ks Q :=
  e_nx o (fun q => by simp [znx]) k
theorem e_aj2 {a0 a1 : Value} {y : Value} {t : List Value} (o : zop mi pc = some (.astore_n 2, 1))  (k : zEv sc mi d (pc + 1) (a0 :: a1 :: zJ :: t) st ws kc ks Q) : zEv sc mi d pc (a0 :: a1 :: y :: t) (zJ :: st) ws kc ks Q :=
  e_nx o (fun q => by simp [znx]) k
theorem e_inc2 {a0 a1 : Value} {c x : Int} {t : List Value} (o : zop mi pc = some (.iinc 2 c, 3))  (k : zEv sc mi d (pc + 3) (a0 :: a1 :: .int (zI (x + c)) :: t) st ws kc ks Q) : zEv sc mi d pc (a0 :: a1 :: .int (zI x) :: t) st ws kc ks Q :=
  e_nx o (fun q => by simp [znx, ← zI_add]; rfl) k
theorem e_il3 {a0 a1 a2 : Value} {x : Int32} {t : List Value} (o : zop mi pc = some (.iload_n 3, 1))  (k : zEv sc mi d (pc + 1) (a0 :: a1 :: a2 :: .int x :: t) (.int x :: st) ws kc ks Q) : zEv sc mi d pc (a0 :: a1 :: a2 :: .int x :: t) st ws kc ks Q :=
  e_nx o (fun q => by rfl) k
theorem e_al3 {a0 a1 a2 : Value} {x : Addr} {t : List Value} (o : zop mi pc = some (.aload_n 3, 1))  (k : zEv sc mi d (pc + 1) (a0 :: a1 :: a2 :: .ref x :: t) (.ref x :: st) ws kc ks Q) : zEv sc mi d pc (a0 :: a1 :: a2 :: .ref x :: t) st ws kc ks Q :=
  e_nx o (fun q => by rfl) k
theorem e_is3 {a0 a1 a2 : Value} {x : Int32} {y : Value} {t : List Value} (o : zop mi pc = some (.istore_n 3, 1))  (k : zEv sc mi d (pc + 1) (a0 :: a1 :: a2 :: .int x :: t) st ws kc ks Q) : zEv sc mi d pc (a0 :: a1 :: a2 :: y :: t) (.int x :: st) ws kc ks Q :=
  e_nx o (fun q => by simp [znx, show ((3 : Fin 4) : Nat) = 3 from rfl]) k
theorem e_as3 {a0 a1 a2 : Value} {x : Addr} {y : Value} {t : List Value} (o : zop mi pc = some (.astore_n 3, 1))  (k : zEv sc mi d (pc + 1) (a0 :: a1 :: a2 :: .ref x :: t) st ws kc ks Q) : zEv sc mi d pc (a0 :: a1 :: a2 :: y :: t) (.ref x :: st) ws kc ks Q :=
  e_nx o (fun q => by simp [znx, show ((3 : Fin 4) : Nat) = 3 from rfl]) k
theorem e_aj3 {a0 a1 a2 : Value} {y : Value} {t : List Value} (o : zop mi pc = some (.astore_n 3, 1))  (k : zEv sc mi d (pc + 1) (a0 :: a1 :: a2 :: zJ :: t) st ws kc ks Q) : zEv sc mi d pc (a0 :: a1 :: a2 :: y :: t) (zJ :: st) ws kc ks Q :=
  e_nx o (fun q => by simp [znx, show ((3 : Fin 4) : Nat) = 3 from rfl]) k
theorem e_inc3 {a0 a1 a2 : Value} {c x : Int} {t : List Value} (o : zop mi pc = some (.iinc 3 c, 3))  (k : zEv sc mi d (pc + 3) (a0 :: a1 :: a2 :: .int (zI (x + c)) :: t) st ws kc ks Q) : zEv sc mi d pc (a0 :: a1 :: a2 :: .int (zI x) :: t) st ws kc ks Q :=
  e_nx o (fun q => by simp [znx, ← zI_add]; rfl) k
theorem e_il4 {a0 a1 a2 a3 : Value} {x : Int32} {t : List Value} (o : zop mi pc = some (.iload 4, 2))  (k : zEv sc mi d (pc + 2) (a0 :: a1 :: a2 :: a3 :: .int x :: t) (.int x :: st) ws kc ks Q) : zEv sc mi d pc (a0 :: a1 :: a2 :: a3 :: .int x :: t) st ws kc ks Q :=
  e_nx o (fun q => by rfl) k
theorem e_al4 {a0 a1 a2 a3 : Value} {x : Addr} {t : List Value} (o : zop mi pc = some (.aload 4, 2))  (k : zEv sc mi d (pc + 2) (a0 :: a1 :: a2 :: a3 :: .ref x :: t) (.ref x :: st) ws kc ks Q) : zEv sc mi d pc (a0 :: a1 :: a2 :: a3 :: .ref x :: t) st ws kc ks Q :=
  e_nx o (fun q => by rfl) k
theorem e_is4 {a0 a1 a2 a3 : Value} {x : Int32} {y : Value} {t : List Value} (o : zop mi pc = some (.istore 4, 2))  (k : zEv sc mi d (pc + 2) (a0 :: a1 :: a2 :: a3 :: .int x :: t) st ws kc ks Q) : zEv sc mi d pc (a0 :: a1 :: a2 :: a3 :: y :: t) (.int x :: st) ws kc ks Q :=
  e_nx o (fun q => by simp [znx]) k
theorem e_as4 {a0 a1 a2 a3 : Value} {x : Addr} {y : Value} {t : List Value} (o : zop mi pc = some (.astore 4, 2))  (k : zEv sc mi d (pc + 2) (a0 :: a1 :: a2 :: a3 :: .ref x :: t) st ws kc ks Q) : zEv sc mi d pc (a0 :: a1 :: a2 :: a3 :: y :: t) (.ref x :: st) ws kc ks Q :=
  e_nx o (fun q => by simp [znx]) k
theorem e_aj4 {a0 a1 a2 a3 : Value} {y : Value} {t : List Value} (o : zop mi pc = some (.astore 4, 2))  (k : zEv sc mi d (pc + 2) (a0 :: a1 :: a2 :: a3 :: zJ :: t) st ws kc ks Q) : zEv sc mi d pc (a0 :: a1 :: a2 :: a3 :: y :: t) (zJ :: st) ws kc ks Q :=
  e_nx o (fun q => by simp [znx]) k
theorem e_inc4 {a0 a1 a2 a3 : Value} {c x : Int} {t : List Value} (o : zop mi pc = some (.iinc 4 c, 3))  (k : zEv sc mi d (pc + 3) (a0 :: a1 :: a2 :: a3 :: .int (zI (x + c)) :: t) st ws kc ks Q) : zEv sc mi d pc (a0 :: a1 :: a2 :: a3 :: .int (zI x) :: t) st ws kc ks Q :=
  e_nx o (fun q => by simp [znx, ← zI_add]; rfl) k
theorem e_il5 {a0 a1 a2 a3 a4 : Value} {x : Int32} {t : List Value} (o : zop mi pc = some (.iload 5, 2))  (k : zEv sc mi d (pc + 2) (a0 :: a1 :: a2 :: a3 :: a4 :: .int x :: t) (.int x :: st) ws kc ks Q) : zEv sc mi d pc (a0 :: a1 :: a2 :: a3 :: a4 :: .int x :: t) st ws kc ks Q :=
  e_nx o (fun q => by rfl) k
theorem e_al5 {a0 a1 a2 a3 a4 : Value} {x : Addr} {t : List Value} (o : zop mi pc = some (.aload 5, 2))  (k : zEv sc mi d (pc + 2) (a0 :: a1 :: a2 :: a3 :: a4 :: .ref x :: t) (.ref x :: st) ws kc ks Q) : zEv sc mi d pc (a0 :: a1 :: a2 :: a3 :: a4 :: .ref x :: t) st ws kc ks Q :=
  e_nx o (fun q => by rfl) k
theorem e_is5 {a0 a1 a2 a3 a4 : Value} {x : Int32} {y : Value} {t : List Value} (o : zop mi pc = some (.istore 5, 2))  (k : zEv sc mi d (pc + 2) (a0 :: a1 :: a2 :: a3 :: a4 :: .int x :: t) st ws kc ks Q) : zEv sc mi d pc (a0 :: a1 :: a2 :: a3 :: a4 :: y :: t) (.int x :: st) ws kc ks Q :=
  e_nx o (fun q => by simp [znx]) k
theorem e_as5 {a0 a1 a2 a3 a4 : Value} {x : Addr} {y : Value} {t : List Value} (o : zop mi pc = some (.astore 5, 2))  (k : zEv sc mi d (pc + 2) (a0 :: a1 :: a2 :: a3 :: a4 :: .ref x :: t) st ws kc ks Q) : zEv sc mi d pc (a0 :: a1 :: a2 :: a3 :: a4 :: y :: t) (.ref x :: st) ws kc ks Q :=
  e_nx o (fun q => by simp [znx]) k
theorem e_aj5 {a0 a1 a2 a3 a4 : Value} {y : Value} {t : List Value} (o : zop mi pc = some (.astore 5, 2))  (k : zEv sc mi d (pc + 2) (a0 :: a1 :: a2 :: a3 :: a4 :: zJ :: t) st ws kc ks Q) : zEv sc mi d pc (a0 :: a1 :: a2 :: a3 :: a4 :: y :: t) (zJ :: st) ws kc ks Q :=
  e_nx o (fun q => by simp [znx]) k
theorem e_inc5 {a0 a1 a2 a3 a4 : Value} {c x : Int} {t : List Value} (o : zop mi pc = some (.iinc 5 c, 3))  (k : zEv sc mi d (pc + 3) (a0 :: a1 :: a2 :: a3 :: a4 :: .int (zI (x + c)) :: t) st ws kc ks Q) : zEv sc mi d pc (a0 :: a1 :: a2 :: a3 :: a4 :: .int (zI x) :: t) st ws kc ks Q :=
  e_nx o (fun q => by simp [znx, ← zI_add]; rfl) k
theorem e_il6 {a0 a1 a2 a3 a4 a5 : Value} {x : Int32} {t : List Value} (o : zop mi pc = some (.iload 6, 2))  (k : zEv sc mi d (pc + 2) (a0 :: a1 :: a2 :: a3 :: a4 :: a5 :: .int x :: t) (.int x :: st) ws kc ks Q) : zEv sc mi d pc (a0 :: a1 :: a2 :: a3 :: a4 :: a5 :: .int x :: t) st ws kc ks Q :=
  e_nx o (fun q => by rfl) k
theorem e_al6 {a0 a1 a2 a3 a4 a5 : Value} {x : Addr} {t : List Value} (o : zop mi pc = some (.aload 6, 2))  (k : zEv sc mi d (pc + 2) (a0 :: a1 :: a2 :: a3 :: a4 :: a5 :: .ref x :: t) (.ref x :: st) ws kc ks Q) : zEv sc mi d pc (a0 :: a1 :: a2 :: a3 :: a4 :: a5 :: .ref x :: t) st ws kc ks Q :=
  e_nx o (fun q => by rfl) k
theorem e_is6 {a0 a1 a2 a3 a4 a5 : Value} {x : Int32} {y : Value} {t : List Value} (o : zop mi pc = some (.istore 6, 2))  (k : zEv sc mi d (pc + 2) (a0 :: a1 :: a2 :: a3 :: a4 :: a5 :: .int x :: t) st ws kc ks Q) : zEv sc mi d pc (a0 :: a1 :: a2 :: a3 :: a4 :: a5 :: y :: t) (.int x :: st) ws kc ks Q :=
  e_nx o (fun q => by simp [znx]) k
theorem e_as6 {a0 a1 a2 a3 a4 a5 : Value} {x : Addr} {y : Value} {t : List Value} (o : zop mi pc = some (.astore 6, 2))  (k : zEv sc mi d (pc + 2) (a0 :: a1 :: a2 :: a3 :: a4 :: a5 :: .ref x :: t) st ws kc ks Q) : zEv sc mi d pc (a0 :: a1 :: a2 :: a3 :: a4 :: a5 :: y :: t) (.ref x :: st) ws kc ks Q :=
  e_nx o (fun q => by simp [znx]) k
theorem e_aj6 {a0 a1 a2 a3 a4 a5 : Value} {y : Value} {t : List Value} (o : zop mi pc = some (.astore 6, 2))  (k : zEv sc mi d (pc + 2) (a0 :: a1 :: a2 :: a3 :: a4 :: a5 :: zJ :: t) st ws kc ks Q) : zEv sc mi d pc (a0 :: a1 :: a2 :: a3 :: a4 :: a5 :: y :: t) (zJ :: st) ws kc ks Q :=
  e_nx o (fun q => by simp [znx]) k
theorem e_inc6 {a0 a1 a2 a3 a4 a5 : Value} {c x : Int} {t : List Value} (o : zop mi pc = some (.iinc 6 c, 3))  (k : zEv sc mi d (pc + 3) (a0 :: a1 :: a2 :: a3 :: a4 :: a5 :: .int (zI (x + c)) :: t) st ws kc ks Q) : zEv sc mi d pc (a0 :: a1 :: a2 :: a3 :: a4 :: a5 :: .int (zI x) :: t) st ws kc ks Q :=
  e_nx o (fun q => by simp [znx, ← zI_add]; rfl) k
theorem e_il7 {a0 a1 a2 a3 a4 a5 a6 : Value} {x : Int32} {t : List Value} (o : zop mi pc = some (.iload 7, 2))  (k : zEv sc mi d (pc + 2) (a0 :: a1 :: a2 :: a3 :: a4 :: a5 :: a6 :: .int x :: t) (.int x :: st) ws kc ks Q) : zEv sc mi d pc (a0 :: a1 :: a2 :: a3 :: a4 :: a5 :: a6 :: .int x :: t) st ws kc ks Q :=
  e_nx o (fun q => by rfl) k
theorem e_al7 {a0 a1 a2 a3 a4 a5 a6 : Value} {x : Addr} {t : List Value} (o : zop mi pc = some (.aload 7, 2))  (k : zEv sc mi d (pc + 2) (a0 :: a1 :: a2 :: a3 :: a4 :: a5 :: a6 :: .ref x :: t) (.ref x :: st) ws kc ks Q) : zEv sc mi d pc (a0 :: a1 :: a2 :: a3 :: a4 :: a5 :: a6 :: .ref x :: t) st ws kc ks Q :=
  e_nx o (fun q => by rfl) k
theorem e_is7 {a0 a1 a2 a3 a4 a5 a6 : Value} {x : Int32} {y : Value} {t : List Value} (o : zop mi pc = some (.istore 7, 2))  (k : zEv sc mi d (pc + 2) (a0 :: a1 :: a2 :: a3 :: a4 :: a5 :: a6 :: .int x :: t) st ws kc ks Q) : zEv sc mi d pc (a0 :: a1 :: a2 :: a3 :: a4 :: a5 :: a6 :: y :: t) (.int x :: st) ws kc ks Q :=
  e_nx o (fun q => by simp [znx]) k
theorem e_as7 {a0 a1 a2 a3 a4 a5 a6 : Value} {x : Addr} {y : Value} {t : List Value} (o : zop mi pc = some (.astore 7, 2))  (k : zEv sc mi d (pc + 2) (a0 :: a1 :: a2 :: a3 :: a4 :: a5 :: a6 :: .ref x :: t) st ws kc ks Q) : zEv sc mi d pc (a0 :: a1 :: a2 :: a3 :: a4 :: a5 :: a6 :: y :: t) (.ref x :: st) ws kc ks Q :=
  e_nx o (fun q => by simp [znx]) k
theorem e_aj7 {a0 a1 a2 a3 a4 a5 a6 : Value} {y : Value} {t : List Value} (o : zop mi pc = some (.astore 7, 2))  (k : zEv sc mi d (pc + 2) (a0 :: a1 :: a2 :: a3 :: a4 :: a5 :: a6 :: zJ :: t) st ws kc ks Q) : zEv sc mi d pc (a0 :: a1 :: a2 :: a3 :: a4 :: a5 :: a6 :: y :: t) (zJ :: st) ws kc ks Q :=
  e_nx o (fun q => by simp [znx]) k
theorem e_inc7 {a0 a1 a2 a3 a4 a5 a6 : Value} {c x : Int} {t : List Value} (o : zop mi pc = some (.iinc 7 c, 3))  (k : zEv sc mi d (pc + 3) (a0 :: a1 :: a2 :: a3 :: a4 :: a5 :: a6 :: .int (zI (x + c)) :: t) st ws kc ks Q) : zEv sc mi d pc (a0 :: a1 :: a2 :: a3 :: a4 :: a5 :: a6 :: .int (zI x) :: t) st ws kc ks Q :=
  e_nx o (fun q => by simp [znx, ← zI_add]; rfl) k
theorem e_il8 {a0 a1 a2 a3 a4 a5 a6 a7 : Value} {x : Int32} {t : List Value} (o : zop mi pc = some (.iload 8, 2))  (k : zEv sc mi d (pc + 2) (a0 :: a1 :: a2 :: a3 :: a4 :: a5 :: a6 :: a7 :: .int x :: t) (.int x :: st) ws kc ks Q) : zEv sc mi d pc (a0 :: a1 :: a2 :: a3 :: a4 :: a5 :: a6 :: a7 :: .int x :: t) st ws kc ks Q :=
  e_nx o (fun q => by rfl) k
theorem e_al8 {a0 a1 a2 a3 a4 a5 a6 a7 : Value} {x : Addr} {t : List Value} (o : zop mi pc = some (.aload 8, 2))  (k : zEv sc mi d (pc + 2) (a0 :: a1 :: a2 :: a3 :: a4 :: a5 :: a6 :: a7 :: .ref x :: t) (.ref x :: st) ws kc ks Q) : zEv sc mi d pc (a0 :: a1 :: a2 :: a3 :: a4 :: a5 :: a6 :: a7 :: .ref x :: t) st ws kc ks Q :=
  e_nx o (fun q => by rfl) k
theorem e_is8 {a0 a1 a2 a3 a4 a5 a6 a7 : Value} {x : Int32} {y : Value} {t : List Value} (o : zop mi pc = some (.istore 8, 2))  (k : zEv sc mi d (pc + 2) (a0 :: a1 :: a2 :: a3 :: a4 :: a5 :: a6 :: a7 :: .int x :: t) st ws kc ks Q) : zEv sc mi d pc (a0 :: a1 :: a2 :: a3 :: a4 :: a5 :: a6 :: a7 :: y :: t) (.int x :: st) ws kc ks Q :=
  e_nx o (fun q => by simp [znx]) k
theorem e_as8 {a0 a1 a2 a3 a4 a5 a6 a7 : Value} {x : Addr} {y : Value} {t : List Value} (o : zop mi pc = some (.astore 8, 2))  (k : zEv sc mi d (pc + 2) (a0 :: a1 :: a2 :: a3 :: a4 :: a5 :: a6 :: a7 :: .ref x :: t) st ws kc ks Q) : zEv sc mi d pc (a0 :: a1 :: a2 :: a3 :: a4 :: a5 :: a6 :: a7 :: y :: t) (.ref x :: st) ws kc ks Q :=
  e_nx o (fun q => by simp [znx]) k
theorem e_aj8 {a0 a1 a2 a3 a4 a5 a6 a7 : Value} {y : Value} {t : List Value} (o : zop mi pc = some (.astore 8, 2))  (k : zEv sc mi d (pc + 2) (a0 :: a1 :: a2 :: a3 :: a4 :: a5 :: a6 :: a7 :: zJ :: t) st ws kc ks Q) : zEv sc mi d pc (a0 :: a1 :: a2 :: a3 :: a4 :: a5 :: a6 :: a7 :: y :: t) (zJ :: st) ws kc ks Q :=
  e_nx o (fun q => by simp [znx]) k
theorem e_inc8 {a0 a1 a2 a3 a4 a5 a6 a7 : Value} {c x : Int} {t : List Value} (o : zop mi pc = some (.iinc 8 c, 3))  (k : zEv sc mi d (pc + 3) (a0 :: a1 :: a2 :: a3 :: a4 :: a5 :: a6 :: a7 :: .int (zI (x + c)) :: t) st ws kc ks Q) : zEv sc mi d pc (a0 :: a1 :: a2 :: a3 :: a4 :: a5 :: a6 :: a7 :: .int (zI x) :: t) st ws kc ks Q :=
  e_nx o (fun q => by simp [znx, ← zI_add]; rfl) k
theorem e_il9 {a0 a1 a2 a3 a4 a5 a6 a7 a8 : Value} {x : Int32} {t : List Value} (o : zop mi pc = some (.iload 9, 2))  (k : zEv sc mi d (pc + 2) (a0 :: a1 :: a2 :: a3 :: a4 :: a5 :: a6 :: a7 :: a8 :: .int x :: t) (.int x :: st) ws kc ks Q) : zEv sc mi d pc (a0 :: a1 :: a2 :: a3 :: a4 :: a5 :: a6 :: a7 :: a8 :: .int x :: t) st ws kc ks Q :=
  e_nx o (fun q => by rfl) k
theorem e_al9 {a0 a1 a2 a3 a4 a5 a6 a7 a8 : Value} {x : Addr} {t : List Value} (o : zop mi pc = some (.aload 9, 2))  (k : zEv sc mi d (pc + 2) (a0 :: a1 :: a2 :: a3 :: a4 :: a5 :: a6 :: a7 :: a8 :: .ref x :: t) (.ref x :: st) ws kc ks Q) : zEv sc mi d pc (a0 :: a1 :: a2 :: a3 :: a4 :: a5 :: a6 :: a7 :: a8 :: .ref x :: t) st ws kc ks Q :=
  e_nx o (fun q => by rfl) k
theorem e_is9 {a0 a1 a2 a3 a4 a5 a6 a7 a8 : Value} {x : Int32} {y : Value} {t : List Value} (o : zop mi pc = some (.istore 9, 2))  (k : zEv sc mi d (pc + 2) (a0 :: a1 :: a2 :: a3 :: a4 :: a5 :: a6 :: a7 :: a8 :: .int x :: t) st ws kc ks Q) : zEv sc mi d pc (a0 :: a1 :: a2 :: a3 :: a4 :: a5 :: a6 :: a7 :: a8 :: y :: t) (.int x :: st) ws kc ks Q :=
  e_nx o (fun q => by simp [znx]) k
theorem e_as9 {a0 a1 a2 a3 a4 a5 a6 a7 a8 : Value} {x : Addr} {y : Value} {t : List Value} (o : zop mi pc = some (.astore 9, 2))  (k : zEv sc mi d (pc + 2) (a0 :: a1 :: a2 :: a3 :: a4 :: a5 :: a6 :: a7 :: a8 :: .ref x :: t) st ws kc ks Q) : zEv sc mi d pc (a0 :: a1 :: a2 :: a3 :: a4 :: a5 :: a6 :: a7 :: a8 :: y :: t) (.ref x :: st) ws kc ks Q :=
  e_nx o (fun q => by simp [znx]) k
theorem e_aj9 {a0 a1 a2 a3 a4 a5 a6 a7 a8 : Value} {y : Value} {t : List Value} (o : zop mi pc = some (.astore 9, 2))  (k : zEv sc mi d (pc + 2) (a0 :: a1 :: a2 :: a3 :: a4 :: a5 :: a6 :: a7 :: a8 :: zJ :: t) st ws kc ks Q) : zEv sc mi d pc (a0 :: a1 :: a2 :: a3 :: a4 :: a5 :: a6 :: a7 :: a8 :: y :: t) (zJ :: st) ws kc ks Q :=
  e_nx o (fun q => by simp [znx]) k
theorem e_inc9 {a0 a1 a2 a3 a4 a5 a6 a7 a8 : Value} {c x : Int} {t : List Value} (o : zop mi pc = some (.iinc 9 c, 3))  (k : zEv sc mi d (pc + 3) (a0 :: a1 :: a2 :: a3 :: a4 :: a5 :: a6 :: a7 :: a8 :: .int (zI (x + c)) :: t) st ws kc ks Q) : zEv sc mi d pc (a0 :: a1 :: a2 :: a3 :: a4 :: a5 :: a6 :: a7 :: a8 :: .int (zI x) :: t) st ws kc ks Q :=
  e_nx o (fun q => by simp [znx, ← zI_add]; rfl) k
theorem e_il10 {a0 a1 a2 a3 a4 a5 a6 a7 a8 a9 : Value} {x : Int32} {t : List Value} (o : zop mi pc = some (.iload 10, 2))  (k : zEv sc mi d (pc + 2) (a0 :: a1 :: a2 :: a3 :: a4 :: a5 :: a6 :: a7 :: a8 :: a9 :: .int x :: t) (.int x :: st) ws kc ks Q) : zEv sc mi d pc (a0 :: a1 :: a2 :: a3 :: a4 :: a5 :: a6 :: a7 :: a8 :: a9 :: .int x :: t) st ws kc ks Q :=
  e_nx o (fun q => by rfl) k
theorem e_al10 {a0 a1 a2 a3 a4 a5 a6 a7 a8 a9 : Value} {x : Addr} {t : List Value} (o : zop mi pc = some (.aload 10, 2))  (k : zEv sc mi d (pc + 2) (a0 :: a1 :: a2 :: a3 :: a4 :: a5 :: a6 :: a7 :: a8 :: a9 :: .ref x :: t) (.ref x :: st) ws kc ks Q) : zEv sc mi d pc (a0 :: a1 :: a2 :: a3 :: a4 :: a5 :: a6 :: a7 :: a8 :: a9 :: .ref x :: t) st ws kc ks Q :=
  e_nx o (fun q => by rfl) k
theorem e_is10 {a0 a1 a2 a3 a4 a5 a6 a7 a8 a9 : Value} {x : Int32} {y : Value} {t : List Value} (o : zop mi pc = some (.istore 10, 2))  (k : zEv sc mi d (pc + 2) (a0 :: a1 :: a2 :: a3 :: a4 :: a5 :: a6 :: a7 :: a8 :: a9 :: .int x :: t) st ws kc ks Q) : zEv sc mi d pc (a0 :: a1 :: a2 :: a3 :: a4 :: a5 :: a6 :: a7 :: a8 :: a9 :: y :: t) (.int x :: st) ws kc ks Q :=
  e_nx o (fun q => by simp [znx]) k
theorem e_as10 {a0 a1 a2 a3 a4 a5 a6 a7 a8 a9 : Value} {x : Addr} {y : Value} {t : List Value} (o : zop mi pc = some (.astore 10, 2))  (k : zEv sc mi d (pc + 2) (a0 :: a1 :: a2 :: a3 :: a4 :: a5 :: a6 :: a7 :: a8 :: a9 :: .ref x :: t) st ws kc ks Q) : zEv sc mi d pc (a0 :: a1 :: a2 :: a3 :: a4 :: a5 :: a6 :: a7 :: a8 :: a9 :: y :: t) (.ref x :: st) ws kc ks Q :=
  e_nx o (fun q => by simp [znx]) k
theorem e_aj10 {a0 a1 a2 a3 a4 a5 a6 a7 a8 a9 : Value} {y : Value} {t : List Value} (o : zop mi pc = some (.astore 10, 2))  (k : zEv sc mi d (pc + 2) (a0 :: a1 :: a2 :: a3 :: a4 :: a5 :: a6 :: a7 :: a8 :: a9 :: zJ :: t) st ws kc ks Q) : zEv sc mi d pc (a0 :: a1 :: a2 :: a3 :: a4 :: a5 :: a6 :: a7 :: a8 :: a9 :: y :: t) (zJ :: st) ws kc ks Q :=
  e_nx o (fun q => by simp [znx]) k
theorem e_inc10 {a0 a1 a2 a3 a4 a5 a6 a7 a8 a9 : Value} {c x : Int} {t : List Value} (o : zop mi pc = some (.iinc 10 c, 3))  (k : zEv sc mi d (pc + 3) (a0 :: a1 :: a2 :: a3 :: a4 :: a5 :: a6 :: a7 :: a8 :: a9 :: .int (zI (x + c)) :: t) st ws kc ks Q) : zEv sc mi d pc (a0 :: a1 :: a2 :: a3 :: a4 :: a5 :: a6 :: a7 :: a8 :: a9 :: .int (zI x) :: t) st ws kc ks Q :=
  e_nx o (fun q => by simp [znx, ← zI_add]; rfl) k
theorem e_il11 {a0 a1 a2 a3 a4 a5 a6 a7 a8 a9 a10 : Value} {x : Int32} {t : List Value} (o : zop mi pc = some (.iload 11, 2))  (k : zEv sc mi d (pc + 2) (a0 :: a1 :: a2 :: a3 :: a4 :: a5 :: a6 :: a7 :: a8 :: a9 :: a10 :: .int x :: t) (.int x :: st) ws kc ks Q) : zEv sc mi d pc (a0 :: a1 :: a2 :: a3 :: a4 :: a5 :: a6 :: a7 :: a8 :: a9 :: a10 :: .int x :: t) st ws kc ks Q :=
  e_nx o (fun q => by rfl) k
theorem e_al11 {a0 a1 a2 a3 a4 a5 a6 a7 a8 a9 a10 : Value} {x : Addr} {t : List Value} (o : zop mi pc = some (.aload 11, 2))  (k : zEv sc mi d (pc + 2) (a0 :: a1 :: a2 :: a3 :: a4 :: a5 :: a6 :: a7 :: a8 :: a9 :: a10 :: .ref x :: t) (.ref x :: st) ws kc ks Q) : zEv sc mi d pc (a0 :: a1 :: a2 :: a3 :: a4 :: a5 :: a6 :: a7 :: a8 :: a9 :: a10 :: .ref x :: t) st ws kc ks Q :=
  e_nx o (fun q => by rfl) k
theorem e_is11 {a0 a1 a2 a3 a4 a5 a6 a7 a8 a9 a10 : Value} {x : Int32} {y : Value} {t : List Value} (o : zop mi pc = some (.istore 11, 2))  (k : zEv sc mi d (pc + 2) (a0 :: a1 :: a2 :: a3 :: a4 :: a5 :: a6 :: a7 :: a8 :: a9 :: a10 :: .int x :: t) st ws kc ks Q) : zEv sc mi d pc (a0 :: a1 :: a2 :: a3 :: a4 :: a5 :: a6 :: a7 :: a8 :: a9 :: a10 :: y :: t) (.int x :: st) ws kc ks Q :=
  e_nx o (fun q => by simp [znx]) k
theorem e_as11 {a0 a1 a2 a3 a4 a5 a6 a7 a8 a9 a10 : Value} {x : Addr} {y : Value} {t : List Value} (o : zop mi pc = some (.astore 11, 2))  (k : zEv sc mi d (pc + 2) (a0 :: a1 :: a2 :: a3 :: a4 :: a5 :: a6 :: a7 :: a8 :: a9 :: a10 :: .ref x :: t) st ws kc ks Q) : zEv sc mi d pc (a0 :: a1 :: a2 :: a3 :: a4 :: a5 :: a6 :: a7 :: a8 :: a9 :: a10 :: y :: t) (.ref x :: st) ws kc ks Q :=
  e_nx o (fun q => by simp [znx]) k
theorem e_aj11 {a0 a1 a2 a3 a4 a5 a6 a7 a8 a9 a10 : Value} {y : Value} {t : List Value} (o : zop mi pc = some (.astore 11, 2))  (k : zEv sc mi d (pc + 2) (a0 :: a1 :: a2 :: a3 :: a4 :: a5 :: a6 :: a7 :: a8 :: a9 :: a10 :: zJ :: t) st ws kc ks Q) : zEv sc mi d pc (a0 :: a1 :: a2 :: a3 :: a4 :: a5 :: a6 :: a7 :: a8 :: a9 :: a10 :: y :: t) (zJ :: st) ws kc ks Q :=
  e_nx o (fun q => by simp [znx]) k
theorem e_inc11 {a0 a1 a2 a3 a4 a5 a6 a7 a8 a9 a10 : Value} {c x : Int} {t : List Value} (o : zop mi pc = some (.iinc 11 c, 3))  (k : zEv sc mi d (pc + 3) (a0 :: a1 :: a2 :: a3 :: a4 :: a5 :: a6 :: a7 :: a8 :: a9 :: a10 :: .int (zI (x + c)) :: t) st ws kc ks Q) : zEv sc mi d pc (a0 :: a1 :: a2 :: a3 :: a4 :: a5 :: a6 :: a7 :: a8 :: a9 :: a10 :: .int (zI x) :: t) st ws kc ks Q :=
  e_nx o (fun q => by simp [znx, ← zI_add]; rfl) k
theorem e_add {x y : Int} (o : zop mi pc = some (.iadd, 1))  (k : zEv sc mi d (pc + 1) ls (.int (zI (x + y)) :: st) ws kc ks Q) : zEv sc mi d pc ls (.int (zI y) :: .int (zI x) :: st) ws kc ks Q :=
  e_nx o (fun q => by simp only [znx, zI_add]) k
theorem e_sub {x y : Int} (o : zop mi pc = some (.isub, 1))  (k : zEv sc mi d (pc + 1) ls (.int (zI (x - y)) :: st) ws kc ks Q) : zEv sc mi d pc ls (.int (zI y) :: .int (zI x) :: st) ws kc ks Q :=
  e_nx o (fun q => by simp only [znx, zI_sub]) k
theorem e_mul {x y : Int} (o : zop mi pc = some (.imul, 1))  (k : zEv sc mi d (pc + 1) ls (.int (zI (x * y)) :: st) ws kc ks Q) : zEv sc mi d pc ls (.int (zI y) :: .int (zI x) :: st) ws kc ks Q :=
  e_nx o (fun q => by simp only [znx, zI_mul]) k
theorem e_addR {x y : Int32} (o : zop mi pc = some (.iadd, 1))  (k : zEv sc mi d (pc + 1) ls (.int (x + y) :: st) ws kc ks Q) : zEv sc mi d pc ls (.int y :: .int x :: st) ws kc ks Q :=
  e_nx o (fun q => by rfl) k
theorem e_subR {x y : Int32} (o : zop mi pc = some (.isub, 1))  (k : zEv sc mi d (pc + 1) ls (.int (x - y) :: st) ws kc ks Q) : zEv sc mi d pc ls (.int y :: .int x :: st) ws kc ks Q :=
  e_nx o (fun q => by rfl) k
theorem e_mulR {x y : Int32} (o : zop mi pc = some (.imul, 1))  (k : zEv sc mi d (pc + 1) ls (.int (x * y) :: st) ws kc ks Q) : zEv sc mi d pc ls (.int y :: .int x :: st) ws kc ks Q :=
  e_nx o (fun q => by rfl) k
theorem e_andR {x y : Int32} (o : zop mi pc = some (.iand, 1))  (k : zEv sc mi d (pc + 1) ls (.int (x &&& y) :: st) ws kc ks Q) : zEv sc mi d pc ls (.int y :: .int x :: st) ws kc ks Q :=
  e_nx o (fun q => by rfl) k
theorem e_orR {x y : Int32} (o : zop mi pc = some (.ior, 1))  (k : zEv sc mi d (pc + 1) ls (.int (x ||| y) :: st) ws kc ks Q) : zEv sc mi d pc ls (.int y :: .int x :: st) ws kc ks Q :=
  e_nx o (fun q => by rfl) k
theorem e_shlR {x y : Int32} (o : zop mi pc = some (.ishl, 1))  (k : zEv sc mi d (pc + 1) ls (.int (x <<< (y &&& 31)) :: st) ws kc ks Q) : zEv sc mi d pc ls (.int y :: .int x :: st) ws kc ks Q :=
  e_nx o (fun q => by rfl) k
theorem e_shrR {x y : Int32} (o : zop mi pc = some (.ishr, 1))  (k : zEv sc mi d (pc + 1) ls (.int (x >>> (y &&& 31)) :: st) ws kc ks Q) : zEv sc mi d pc ls (.int y :: .int x :: st) ws kc ks Q :=
  e_nx o (fun q => by rfl) k
theorem e_ushrR {x y : Int32} (o : zop mi pc = some (.iushr, 1))  (k : zEv sc mi d (pc + 1) ls (.int ((x.toUInt32 >>> (y.toUInt32 &&& Int32.toUInt32 31)).toInt32) :: st) ws kc ks Q) : zEv sc mi d pc ls (.int y :: .int x :: st) ws kc ks Q :=
  e_nx o (fun q => by rfl) k
theorem e_divR {x y : Int32} (o : zop mi pc = some (.idiv, 1)) (hy : ¬ y = 0) (k : zEv sc mi d (pc + 1) ls (.int (x / y) :: st) ws kc ks Q) : zEv sc mi d pc ls (.int y :: .int x :: st) ws kc ks Q :=
  e_nx o (fun q => by simp only [znx, hy, if_false]) k
theorem e_remR {x y : Int32} (o : zop mi pc = some (.irem, 1)) (hy : ¬ y = 0) (k : zEv sc mi d (pc + 1) ls (.int (x - x / y * y) :: st) ws kc ks Q) : zEv sc mi d pc ls (.int y :: .int x :: st) ws kc ks Q :=
  e_nx o (fun q => by simp only [znx, hy, if_false]) k
theorem zI_div {x y : Int} (hx : 0 ≤ x ∧ x < 2147483648) (hy : 0 < y ∧ y < 2147483648) : zI x / zI y = zI (x / y) := by
  rw [← Int32.toInt_inj, Int32.toInt_div, zI_to (by omega), zI_to (by omega), Int.tdiv_eq_ediv_of_nonneg hx.1]
  have h1 : 0 ≤ x / y := Int.ediv_nonneg hx.1 (by omega)
  have h2 : x / y ≤ x := Int.ediv_le_self y hx.1
  rw [zI_to (by omega), Int.bmod_eq_of_le (by omega) (by omega)]
theorem zI_rem {x y : Int} (hx : 0 ≤ x ∧ x < 2147483648) (hy : 0 < y ∧ y < 2147483648) : zI x - zI x / zI y * zI y = zI (x % y) := by
  rw [zI_div hx hy, zI_mul, zI_sub]
  congr 1
  have h := Int.emod_add_mul_ediv x y
  rw [Int.mul_comm y] at h
  omega
theorem zI_ne0 {y : Int} (hy : 0 < y ∧ y < 2147483648) : ¬ zI y = 0 := by
  rw [show (0 : Int32) = zI 0 from rfl, zI_inj (by omega) (by omega)]
  omega
theorem e_div {x y : Int} (o : zop mi pc = some (.idiv, 1)) (hx : 0 ≤ x ∧ x < 2147483648) (hy : 0 < y ∧ y < 2147483648) (k : zEv sc mi d (pc + 1) ls (.int (zI (x / y)) :: st) ws kc ks Q) : zEv sc mi d pc ls (.int (zI y) :: .int (zI x) :: st) ws kc ks Q :=
  e_nx o (fun q => by simp only [znx, zI_ne0 hy, if_false, zI_div hx hy]) k
theorem e_rem {x y : Int} (o : zop mi pc = some (.irem, 1)) (hx : 0 ≤ x ∧ x < 2147483648) (hy : 0 < y ∧ y < 2147483648) (k : zEv sc mi d (pc + 1) ls (.int (zI (x % y)) :: st) ws kc ks Q) : zEv sc mi d pc ls (.int (zI y) :: .int (zI x) :: st) ws kc ks Q :=
  e_nx o (fun q => by simp only [znx, zI_ne0 hy, if_false, zI_rem hx hy]) k
theorem e_i2l {x : Int32} (o : zop mi pc = some (.i2l, 1))  (k : zEv sc mi d (pc + 1) ls (.long x.toInt64 :: st) ws kc ks Q) : zEv sc mi d pc ls (.int x :: st) ws kc ks Q :=
  e_nx o (fun q => by rfl) k
theorem e_i2b {x : Int32} (o : zop mi pc = some (.i2b, 1))  (k : zEv sc mi d (pc + 1) ls (.int x.toInt8.toInt32 :: st) ws kc ks Q) : zEv sc mi d pc ls (.int x :: st) ws kc ks Q :=
  e_nx o (fun q => by rfl) k
theorem e_i2c {x : Int32} (o : zop mi pc = some (.i2c, 1))  (k : zEv sc mi d (pc + 1) ls (.int (x.toUInt32 % 65536).toInt32 :: st) ws kc ks Q) : zEv sc mi d pc ls (.int x :: st) ws kc ks Q :=
  e_nx o (fun q => by rfl) k
theorem e_lshl {x : Int64} {y : Int32} (o : zop mi pc = some (.lshl, 1))  (k : zEv sc mi d (pc + 1) ls (.long (x <<< (y.toInt64 &&& 63)) :: st) ws kc ks Q) : zEv sc mi d pc ls (.int y :: .long x :: st) ws kc ks Q :=
  e_nx o (fun q => by rfl) k
theorem e_lushr {x : Int64} {y : Int32} (o : zop mi pc = some (.lushr, 1))  (k : zEv sc mi d (pc + 1) ls (.long (x.toUInt64 >>> (y.toInt64.toUInt64 &&& Int64.toUInt64 63)).toInt64 :: st) ws kc ks Q) : zEv sc mi d pc ls (.int y :: .long x :: st) ws kc ks Q :=
  e_nx o (fun q => by rfl) k
theorem e_land {x y : Int64} (o : zop mi pc = some (.land, 1))  (k : zEv sc mi d (pc + 1) ls (.long (x &&& y) :: st) ws kc ks Q) : zEv sc mi d pc ls (.long y :: .long x :: st) ws kc ks Q :=
  e_nx o (fun q => by rfl) k
theorem e_lor {x y : Int64} (o : zop mi pc = some (.lor, 1))  (k : zEv sc mi d (pc + 1) ls (.long (x ||| y) :: st) ws kc ks Q) : zEv sc mi d pc ls (.long y :: .long x :: st) ws kc ks Q :=
  e_nx o (fun q => by rfl) k
theorem e_lcmp {x y : Int64} (o : zop mi pc = some (.lcmp, 1))  (k : zEv sc mi d (pc + 1) ls (.int (lg_cmp x y) :: st) ws kc ks Q) : zEv sc mi d pc ls (.long y :: .long x :: st) ws kc ks Q :=
  e_nx o (fun q => by rfl) k
theorem e_dupI {x : Int32} (o : zop mi pc = some (.dup, 1))  (k : zEv sc mi d (pc + 1) ls (.int x :: .int x :: st) ws kc ks Q) : zEv sc mi d pc ls (.int x :: st) ws kc ks Q :=
  e_nx o (fun q => by rfl) k
theorem e_dupR {x : Addr} (o : zop mi pc = some (.dup, 1))  (k : zEv sc mi d (pc + 1) ls (.ref x :: .ref x :: st) ws kc ks Q) : zEv sc mi d pc ls (.ref x :: st) ws kc ks Q :=
  e_nx o (fun q => by rfl) k
theorem e_dup2 {x : Int32} {y : Addr} (o : zop mi pc = some (.dup2, 1))  (k : zEv sc mi d (pc + 1) ls (.int x :: .ref y :: .int x :: .ref y :: st) ws kc ks Q) : zEv sc mi d pc ls (.int x :: .ref y :: st) ws kc ks Q :=
  e_nx o (fun q => by rfl) k
theorem e_pop {x : Int32} (o : zop mi pc = some (.pop, 1))  (k : zEv sc mi d (pc + 1) ls st ws kc ks Q) : zEv sc mi d pc ls (.int x :: st) ws kc ks Q :=
  e_nx o (fun q => by rfl) k
theorem e_goto {off : Int} (o : zop mi pc = some (.goto off, 3)) (t : Nat) (ht : zgo pc off = some t) (k : zEv sc mi d t ls st ws kc ks Q) : zEv sc mi d pc ls st ws kc ks Q :=
  e_nx o (fun q => by simp only [znx, ht]) k
theorem e_ic_eq {off x y : Int} (o : zop mi pc = some (.if_icmp .eq off, 3)) (t : Nat) (ht : zgo pc off = some t) (hx : -2147483648 ≤ x ∧ x < 2147483648) (hy : -2147483648 ≤ y ∧ y < 2147483648) (k1 : x = y → zEv sc mi d t ls st ws kc ks Q) (k2 : ¬ x = y → zEv sc mi d (pc + 3) ls st ws kc ks Q) : zEv sc mi d pc ls (.int (zI y) :: .int (zI x) :: st) ws kc ks Q := by
  by_cases h : x = y
  · exact e_nx o (fun q => by simp only [znx, (show zcmp .eq (zI x) (zI y) = true by simp only [zcmp, zI_inj hx hy, decide_eq_true_eq, decide_eq_false_iff_not]; first | exact h | omega), zbr, if_true, ht]) (k1 h)
  · exact e_nx o (fun q => by simp only [znx, (show zcmp .eq (zI x) (zI y) = false by simp only [zcmp, zI_inj hx hy, decide_eq_true_eq, decide_eq_false_iff_not]; first | exact h | omega), zbr, Bool.false_eq_true, if_false]) (k2 (by omega))
theorem e_if_eq {off x : Int} (o : zop mi pc = some (.ifCond .eq off, 3)) (t : Nat) (ht : zgo pc off = some t) (hx : -2147483648 ≤ x ∧ x < 2147483648) (k1 : x = 0 → zEv sc mi d t ls st ws kc ks Q) (k2 : ¬ x = 0 → zEv sc mi d (pc + 3) ls st ws kc ks Q) : zEv sc mi d pc ls (.int (zI x) :: st) ws kc ks Q := by
  have hy : -2147483648 ≤ (0 : Int) ∧ (0 : Int) < 2147483648 := by omega
  by_cases h : x = 0
  · exact e_nx o (fun q => by simp only [znx, show (0 : Int32) = zI 0 from rfl, (show zcmp .eq (zI x) (zI 0) = true by simp only [zcmp, zI_inj hx hy, decide_eq_true_eq, decide_eq_false_iff_not]; first | exact h | omega), zbr, if_true, ht]) (k1 h)
  · exact e_nx o (fun q => by simp only [znx, show (0 : Int32) = zI 0 from rfl, (show zcmp .eq (zI x) (zI 0) = false by simp only [zcmp, zI_inj hx hy, decide_eq_true_eq, decide_eq_false_iff_not]; first | exact h | omega), zbr, Bool.false_eq_true, if_false]) (k2 (by omega))
theorem e_ic_ne {off x y : Int} (o : zop mi pc = some (.if_icmp .ne off, 3)) (t : Nat) (ht : zgo pc off = some t) (hx : -2147483648 ≤ x ∧ x < 2147483648) (hy : -2147483648 ≤ y ∧ y < 2147483648) (k1 : ¬ x = y → zEv sc mi d t ls st ws kc ks Q) (k2 : x = y → zEv sc mi d (pc + 3) ls st ws kc ks Q) : zEv sc mi d pc ls (.int (zI y) :: .int (zI x) :: st) ws kc ks Q := by
  by_cases h : ¬ x = y
  · exact e_nx o (fun q => by simp only [znx, (show zcmp .ne (zI x) (zI y) = true by simp only [zcmp, zI_inj hx hy, decide_eq_true_eq, decide_eq_false_iff_not]; first | exact h | omega), zbr, if_true, ht]) (k1 h)
  · exact e_nx o (fun q => by simp only [znx, (show zcmp .ne (zI x) (zI y) = false by simp only [zcmp, zI_inj hx hy, decide_eq_true_eq, decide_eq_false_iff_not]; first | exact h | omega), zbr, Bool.false_eq_true, if_false]) (k2 (by omega))
theorem e_if_ne {off x : Int} (o : zop mi pc = some (.ifCond .ne off, 3)) (t : Nat) (ht : zgo pc off = some t) (hx : -2147483648 ≤ x ∧ x < 2147483648) (k1 : ¬ x = 0 → zEv sc mi d t ls st ws kc ks Q) (k2 : x = 0 → zEv sc mi d (pc + 3) ls st ws kc ks Q) : zEv sc mi d pc ls (.int (zI x) :: st) ws kc ks Q := by
  have hy : -2147483648 ≤ (0 : Int) ∧ (0 : Int) < 2147483648 := by omega
  by_cases h : ¬ x = 0
  · exact e_nx o (fun q => by simp only [znx, show (0 : Int32) = zI 0 from rfl, (show zcmp .ne (zI x) (zI 0) = true by simp only [zcmp, zI_inj hx hy, decide_eq_true_eq, decide_eq_false_iff_not]; first | exact h | omega), zbr, if_true, ht]) (k1 h)
  · exact e_nx o (fun q => by simp only [znx, show (0 : Int32) = zI 0 from rfl, (show zcmp .ne (zI x) (zI 0) = false by simp only [zcmp, zI_inj hx hy, decide_eq_true_eq, decide_eq_false_iff_not]; first | exact h | omega), zbr, Bool.false_eq_true, if_false]) (k2 (by omega))
theorem e_ic_lt {off x y : Int} (o : zop mi pc = some (.if_icmp .lt off, 3)) (t : Nat) (ht : zgo pc off = some t) (hx : -2147483648 ≤ x ∧ x < 2147483648) (hy : -2147483648 ≤ y ∧ y < 2147483648) (k1 : x < y → zEv sc mi d t ls st ws kc ks Q) (k2 : y ≤ x → zEv sc mi d (pc + 3) ls st ws kc ks Q) : zEv sc mi d pc ls (.int (zI y) :: .int (zI x) :: st) ws kc ks Q := by
  by_cases h : x < y
  · exact e_nx o (fun q => by simp only [znx, (show zcmp .lt (zI x) (zI y) = true by simp only [zcmp, zI_lt hx hy, decide_eq_true_eq, decide_eq_false_iff_not]; first | exact h | omega), zbr, if_true, ht]) (k1 h)
  · exact e_nx o (fun q => by simp only [znx, (show zcmp .lt (zI x) (zI y) = false by simp only [zcmp, zI_lt hx hy, decide_eq_true_eq, decide_eq_false_iff_not]; first | exact h | omega), zbr, Bool.false_eq_true, if_false]) (k2 (by omega))
theorem e_if_lt {off x : Int} (o : zop mi pc = some (.ifCond .lt off, 3)) (t : Nat) (ht : zgo pc off = some t) (hx : -2147483648 ≤ x ∧ x < 2147483648) (k1 : x < 0 → zEv sc mi d t ls st ws kc ks Q) (k2 : 0 ≤ x → zEv sc mi d (pc + 3) ls st ws kc ks Q) : zEv sc mi d pc ls (.int (zI x) :: st) ws kc ks Q := by
  have hy : -2147483648 ≤ (0 : Int) ∧ (0 : Int) < 2147483648 := by omega
  by_cases h : x < 0
  · exact e_nx o (fun q => by simp only [znx, show (0 : Int32) = zI 0 from rfl, (show zcmp .lt (zI x) (zI 0) = true by simp only [zcmp, zI_lt hx hy, decide_eq_true_eq, decide_eq_false_iff_not]; first | exact h | omega), zbr, if_true, ht]) (k1 h)
  · exact e_nx o (fun q => by simp only [znx, show (0 : Int32) = zI 0 from rfl, (show zcmp .lt (zI x) (zI 0) = false by simp only [zcmp, zI_lt hx hy, decide_eq_true_eq, decide_eq_false_iff_not]; first | exact h | omega), zbr, Bool.false_eq_true, if_false]) (k2 (by omega))
theorem e_ic_ge {off x y : Int} (o : zop mi pc = some (.if_icmp .ge off, 3)) (t : Nat) (ht : zgo pc off = some t) (hx : -2147483648 ≤ x ∧ x < 2147483648) (hy : -2147483648 ≤ y ∧ y < 2147483648) (k1 : y ≤ x → zEv sc mi d t ls st ws kc ks Q) (k2 : x < y → zEv sc mi d (pc + 3) ls st ws kc ks Q) : zEv sc mi d pc ls (.int (zI y) :: .int (zI x) :: st) ws kc ks Q := by
  by_cases h : y ≤ x
  · exact e_nx o (fun q => by simp only [znx, (show zcmp .ge (zI x) (zI y) = true by simp only [zcmp, zI_le hy hx, decide_eq_true_eq, decide_eq_false_iff_not]; first | exact h | omega), zbr, if_true, ht]) (k1 h)
  · exact e_nx o (fun q => by simp only [znx, (show zcmp .ge (zI x) (zI y) = false by simp only [zcmp, zI_le hy hx, decide_eq_true_eq, decide_eq_false_iff_not]; first | exact h | omega), zbr, Bool.false_eq_true, if_false]) (k2 (by omega))
theorem e_if_ge {off x : Int} (o : zop mi pc = some (.ifCond .ge off, 3)) (t : Nat) (ht : zgo pc off = some t) (hx : -2147483648 ≤ x ∧ x < 2147483648) (k1 : 0 ≤ x → zEv sc mi d t ls st ws kc ks Q) (k2 : x < 0 → zEv sc mi d (pc + 3) ls st ws kc ks Q) : zEv sc mi d pc ls (.int (zI x) :: st) ws kc ks Q := by
  have hy : -2147483648 ≤ (0 : Int) ∧ (0 : Int) < 2147483648 := by omega
  by_cases h : 0 ≤ x
  · exact e_nx o (fun q => by simp only [znx, show (0 : Int32) = zI 0 from rfl, (show zcmp .ge (zI x) (zI 0) = true by simp only [zcmp, zI_le hy hx, decide_eq_true_eq, decide_eq_false_iff_not]; first | exact h | omega), zbr, if_true, ht]) (k1 h)
  · exact e_nx o (fun q => by simp only [znx, show (0 : Int32) = zI 0 from rfl, (show zcmp .ge (zI x) (zI 0) = false by simp only [zcmp, zI_le hy hx, decide_eq_true_eq, decide_eq_false_iff_not]; first | exact h | omega), zbr, Bool.false_eq_true, if_false]) (k2 (by omega))
theorem e_ic_gt {off x y : Int} (o : zop mi pc = some (.if_icmp .gt off, 3)) (t : Nat) (ht : zgo pc off = some t) (hx : -2147483648 ≤ x ∧ x < 2147483648) (hy : -2147483648 ≤ y ∧ y < 2147483648) (k1 : y < x → zEv sc mi d t ls st ws kc ks Q) (k2 : x ≤ y → zEv sc mi d (pc + 3) ls st ws kc ks Q) : zEv sc mi d pc ls (.int (zI y) :: .int (zI x) :: st) ws kc ks Q := by
  by_cases h : y < x
  · exact e_nx o (fun q => by simp only [znx, (show zcmp .gt (zI x) (zI y) = true by simp only [zcmp, zI_lt hy hx, decide_eq_true_eq, decide_eq_false_iff_not]; first | exact h | omega), zbr, if_true, ht]) (k1 h)
  · exact e_nx o (fun q => by simp only [znx, (show zcmp .gt (zI x) (zI y) = false by simp only [zcmp, zI_lt hy hx, decide_eq_true_eq, decide_eq_false_iff_not]; first | exact h | omega), zbr, Bool.false_eq_true, if_false]) (k2 (by omega))
theorem e_if_gt {off x : Int} (o : zop mi pc = some (.ifCond .gt off, 3)) (t : Nat) (ht : zgo pc off = some t) (hx : -2147483648 ≤ x ∧ x < 2147483648) (k1 : 0 < x → zEv sc mi d t ls st ws kc ks Q) (k2 : x ≤ 0 → zEv sc mi d (pc + 3) ls st ws kc ks Q) : zEv sc mi d pc ls (.int (zI x) :: st) ws kc ks Q := by
  have hy : -2147483648 ≤ (0 : Int) ∧ (0 : Int) < 2147483648 := by omega
  by_cases h : 0 < x
  · exact e_nx o (fun q => by simp only [znx, show (0 : Int32) = zI 0 from rfl, (show zcmp .gt (zI x) (zI 0) = true by simp only [zcmp, zI_lt hy hx, decide_eq_true_eq, decide_eq_false_iff_not]; first | exact h | omega), zbr, if_true, ht]) (k1 h)
  · exact e_nx o (fun q => by simp only [znx, show (0 : Int32) = zI 0 from rfl, (show zcmp .gt (zI x) (zI 0) = false by simp only [zcmp, zI_lt hy hx, decide_eq_true_eq, decide_eq_false_iff_not]; first | exact h | omega), zbr, Bool.false_eq_true, if_false]) (k2 (by omega))
theorem e_ic_le {off x y : Int} (o : zop mi pc = some (.if_icmp .le off, 3)) (t : Nat) (ht : zgo pc off = some t) (hx : -2147483648 ≤ x ∧ x < 2147483648) (hy : -2147483648 ≤ y ∧ y < 2147483648) (k1 : x ≤ y → zEv sc mi d t ls st ws kc ks Q) (k2 : y < x → zEv sc mi d (pc + 3) ls st ws kc ks Q) : zEv sc mi d pc ls (.int (zI y) :: .int (zI x) :: st) ws kc ks Q := by
  by_cases h : x ≤ y
  · exact e_nx o (fun q => by simp only [znx, (show zcmp .le (zI x) (zI y) = true by simp only [zcmp, zI_le hx hy, decide_eq_true_eq, decide_eq_false_iff_not]; first | exact h | omega), zbr, if_true, ht]) (k1 h)
  · exact e_nx o (fun q => by simp only [znx, (show zcmp .le (zI x) (zI y) = false by simp only [zcmp, zI_le hx hy, decide_eq_true_eq, decide_eq_false_iff_not]; first | exact h | omega), zbr, Bool.false_eq_true, if_false]) (k2 (by omega))
theorem e_if_le {off x : Int} (o : zop mi pc = some (.ifCond .le off, 3)) (t : Nat) (ht : zgo pc off = some t) (hx : -2147483648 ≤ x ∧ x < 2147483648) (k1 : x ≤ 0 → zEv sc mi d t ls st ws kc ks Q) (k2 : 0 < x → zEv sc mi d (pc + 3) ls st ws kc ks Q) : zEv sc mi d pc ls (.int (zI x) :: st) ws kc ks Q := by
  have hy : -2147483648 ≤ (0 : Int) ∧ (0 : Int) < 2147483648 := by omega
  by_cases h : x ≤ 0
  · exact e_nx o (fun q => by simp only [znx, show (0 : Int32) = zI 0 from rfl, (show zcmp .le (zI x) (zI 0) = true by simp only [zcmp, zI_le hx hy, decide_eq_true_eq, decide_eq_false_iff_not]; first | exact h | omega), zbr, if_true, ht]) (k1 h)
  · exact e_nx o (fun q => by simp only [znx, show (0 : Int32) = zI 0 from rfl, (show zcmp .le (zI x) (zI 0) = false by simp only [zcmp, zI_le hx hy, decide_eq_true_eq, decide_eq_false_iff_not]; first | exact h | omega), zbr, Bool.false_eq_true, if_false]) (k2 (by omega))
theorem e_ir_eq {off : Int} {x y : Int32} (o : zop mi pc = some (.if_icmp .eq off, 3)) (t : Nat) (ht : zgo pc off = some t) (k1 : x = y → zEv sc mi d t ls st ws kc ks Q) (k2 : ¬ x = y → zEv sc mi d (pc + 3) ls st ws kc ks Q) : zEv sc mi d pc ls (.int y :: .int x :: st) ws kc ks Q := by
  by_cases h : x = y
  · exact e_nx o (fun q => by simp only [znx, zcmp, h, not_true_eq_false, not_false_eq_true, decide_true, decide_false, zbr, if_true, ht]) (k1 h)
  · exact e_nx o (fun q => by simp only [znx, zcmp, h, not_true_eq_false, not_false_eq_true, decide_true, decide_false, zbr, Bool.false_eq_true, if_false]) (k2 h)
theorem e_iz_eq {off : Int} {x : Int32} (o : zop mi pc = some (.ifCond .eq off, 3)) (t : Nat) (ht : zgo pc off = some t) (k1 : x = 0 → zEv sc mi d t ls st ws kc ks Q) (k2 : ¬ x = 0 → zEv sc mi d (pc + 3) ls st ws kc ks Q) : zEv sc mi d pc ls (.int x :: st) ws kc ks Q := by
  by_cases h : x = 0
  · exact e_nx o (fun q => by simp only [znx, zcmp, h, not_true_eq_false, not_false_eq_true, decide_true, decide_false, zbr, if_true, ht]) (k1 h)
  · exact e_nx o (fun q => by simp only [znx, zcmp, h, not_true_eq_false, not_false_eq_true, decide_true, decide_false, zbr, Bool.false_eq_true, if_false]) (k2 h)
theorem e_ir_ne {off : Int} {x y : Int32} (o : zop mi pc = some (.if_icmp .ne off, 3)) (t : Nat) (ht : zgo pc off = some t) (k1 : ¬ x = y → zEv sc mi d t ls st ws kc ks Q) (k2 : x = y → zEv sc mi d (pc + 3) ls st ws kc ks Q) : zEv sc mi d pc ls (.int y :: .int x :: st) ws kc ks Q := by
  by_cases h : ¬ x = y
  · exact e_nx o (fun q => by simp only [znx, zcmp, h, not_true_eq_false, not_false_eq_true, decide_true, decide_false, zbr, if_true, ht]) (k1 h)
  · exact e_nx o (fun q => by simp only [znx, zcmp, h, not_true_eq_false, not_false_eq_true, decide_true, decide_false, zbr, Bool.false_eq_true, if_false]) (k2 (Classical.not_not.1 h))
theorem e_iz_ne {off : Int} {x : Int32} (o : zop mi pc = some (.ifCond .ne off, 3)) (t : Nat) (ht : zgo pc off = some t) (k1 : ¬ x = 0 → zEv sc mi d t ls st ws kc ks Q) (k2 : x = 0 → zEv sc mi d (pc + 3) ls st ws kc ks Q) : zEv sc mi d pc ls (.int x :: st) ws kc ks Q := by
  by_cases h : ¬ x = 0
  · exact e_nx o (fun q => by simp only [znx, zcmp, h, not_true_eq_false, not_false_eq_true, decide_true, decide_false, zbr, if_true, ht]) (k1 h)
  · exact e_nx o (fun q => by simp only [znx, zcmp, h, not_true_eq_false, not_false_eq_true, decide_true, decide_false, zbr, Bool.false_eq_true, if_false]) (k2 (Classical.not_not.1 h))
theorem e_ir_lt {off : Int} {x y : Int32} (o : zop mi pc = some (.if_icmp .lt off, 3)) (t : Nat) (ht : zgo pc off = some t) (k1 : x < y → zEv sc mi d t ls st ws kc ks Q) (k2 : ¬ x < y → zEv sc mi d (pc + 3) ls st ws kc ks Q) : zEv sc mi d pc ls (.int y :: .int x :: st) ws kc ks Q := by
  by_cases h : x < y
  · exact e_nx o (fun q => by simp only [znx, zcmp, h, not_true_eq_false, not_false_eq_true, decide_true, decide_false, zbr, if_true, ht]) (k1 h)
  · exact e_nx o (fun q => by simp only [znx, zcmp, h, not_true_eq_false, not_false_eq_true, decide_true, decide_false, zbr, Bool.false_eq_true, if_false]) (k2 h)
theorem e_iz_lt {off : Int} {x : Int32} (o : zop mi pc = some (.ifCond .lt off, 3)) (t : Nat) (ht : zgo pc off = some t) (k1 : x < 0 → zEv sc mi d t ls st ws kc ks Q) (k2 : ¬ x < 0 → zEv sc mi d (pc + 3) ls st ws kc ks Q) : zEv sc mi d pc ls (.int x :: st) ws kc ks Q := by
  by_cases h : x < 0
  · exact e_nx o (fun q => by simp only [znx, zcmp, h, not_true_eq_false, not_false_eq_true, decide_true, decide_false, zbr, if_true, ht]) (k1 h)
  · exact e_nx o (fun q => by simp only [znx, zcmp, h, not_true_eq_false, not_false_eq_true, decide_true, decide_false, zbr, Bool.false_eq_true, if_false]) (k2 h)
theorem e_ir_ge {off : Int} {x y : Int32} (o : zop mi pc = some (.if_icmp .ge off, 3)) (t : Nat) (ht : zgo pc off = some t) (k1 : y ≤ x → zEv sc mi d t ls st ws kc ks Q) (k2 : ¬ y ≤ x → zEv sc mi d (pc + 3) ls st ws kc ks Q) : zEv sc mi d pc ls (.int y :: .int x :: st) ws kc ks Q := by
  by_cases h : y ≤ x
  · exact e_nx o (fun q => by simp only [znx, zcmp, h, not_true_eq_false, not_false_eq_true, decide_true, decide_false, zbr, if_true, ht]) (k1 h)
  · exact e_nx o (fun q => by simp only [znx, zcmp, h, not_true_eq_false, not_false_eq_true, decide_true, decide_false, zbr, Bool.false_eq_true, if_false]) (k2 h)
theorem e_iz_ge {off : Int} {x : Int32} (o : zop mi pc = some (.ifCond .ge off, 3)) (t : Nat) (ht : zgo pc off = some t) (k1 : 0 ≤ x → zEv sc mi d t ls st ws kc ks Q) (k2 : ¬ 0 ≤ x → zEv sc mi d (pc + 3) ls st ws kc ks Q) : zEv sc mi d pc ls (.int x :: st) ws kc ks Q := by
  by_cases h : 0 ≤ x
  · exact e_nx o (fun q => by simp only [znx, zcmp, h, not_true_eq_false, not_false_eq_true, decide_true, decide_false, zbr, if_true, ht]) (k1 h)
  · exact e_nx o (fun q => by simp only [znx, zcmp, h, not_true_eq_false, not_false_eq_true, decide_true, decide_false, zbr, Bool.false_eq_true, if_false]) (k2 h)
theorem e_ir_gt {off : Int} {x y : Int32} (o : zop mi pc = some (.if_icmp .gt off, 3)) (t : Nat) (ht : zgo pc off = some t) (k1 : y < x → zEv sc mi d t ls st ws kc ks Q) (k2 : ¬ y < x → zEv sc mi d (pc + 3) ls st ws kc ks Q) : zEv sc mi d pc ls (.int y :: .int x :: st) ws kc ks Q := by
  by_cases h : y < x
  · exact e_nx o (fun q => by simp only [znx, zcmp, h, not_true_eq_false, not_false_eq_true, decide_true, decide_false, zbr, if_true, ht]) (k1 h)
  · exact e_nx o (fun q => by simp only [znx, zcmp, h, not_true_eq_false, not_false_eq_true, decide_true, decide_false, zbr, Bool.false_eq_true, if_false]) (k2 h)
theorem e_iz_gt {off : Int} {x : Int32} (o : zop mi pc = some (.ifCond .gt off, 3)) (t : Nat) (ht : zgo pc off = some t) (k1 : 0 < x → zEv sc mi d t ls st ws kc ks Q) (k2 : ¬ 0 < x → zEv sc mi d (pc + 3) ls st ws kc ks Q) : zEv sc mi d pc ls (.int x :: st) ws kc ks Q := by
  by_cases h : 0 < x
  · exact e_nx o (fun q => by simp only [znx, zcmp, h, not_true_eq_false, not_false_eq_true, decide_true, decide_false, zbr, if_true, ht]) (k1 h)
  · exact e_nx o (fun q => by simp only [znx, zcmp, h, not_true_eq_false, not_false_eq_true, decide_true, decide_false, zbr, Bool.false_eq_true, if_false]) (k2 h)
theorem e_ir_le {off : Int} {x y : Int32} (o : zop mi pc = some (.if_icmp .le off, 3)) (t : Nat) (ht : zgo pc off = some t) (k1 : x ≤ y → zEv sc mi d t ls st ws kc ks Q) (k2 : ¬ x ≤ y → zEv sc mi d (pc + 3) ls st ws kc ks Q) : zEv sc mi d pc ls (.int y :: .int x :: st) ws kc ks Q := by
  by_cases h : x ≤ y
  · exact e_nx o (fun q => by simp only [znx, zcmp, h, not_true_eq_false, not_false_eq_true, decide_true, decide_false, zbr, if_true, ht]) (k1 h)
  · exact e_nx o (fun q => by simp only [znx, zcmp, h, not_true_eq_false, not_false_eq_true, decide_true, decide_false, zbr, Bool.false_eq_true, if_false]) (k2 h)
theorem e_iz_le {off : Int} {x : Int32} (o : zop mi pc = some (.ifCond .le off, 3)) (t : Nat) (ht : zgo pc off = some t) (k1 : x ≤ 0 → zEv sc mi d t ls st ws kc ks Q) (k2 : ¬ x ≤ 0 → zEv sc mi d (pc + 3) ls st ws kc ks Q) : zEv sc mi d pc ls (.int x :: st) ws kc ks Q := by
  by_cases h : x ≤ 0
  · exact e_nx o (fun q => by simp only [znx, zcmp, h, not_true_eq_false, not_false_eq_true, decide_true, decide_false, zbr, if_true, ht]) (k1 h)
  · exact e_nx o (fun q => by simp only [znx, zcmp, h, not_true_eq_false, not_false_eq_true, decide_true, decide_false, zbr, Bool.false_eq_true, if_false]) (k2 h)
def zb (P : Prop) [Decidable P] : Int := if P then 1 else 0
theorem zb_rg (P : Prop) [Decidable P] : -2147483648 ≤ zb P ∧ zb P < 2147483648 := by unfold zb; split <;> omega
theorem zb_t {P : Prop} [Decidable P] (h : P) : zb P = 1 := if_pos h
theorem zb_f {P : Prop} [Decidable P] (h : ¬ P) : zb P = 0 := if_neg h
theorem zret_b (P : Prop) [Decidable P] : zret (some .boolean) (zI (zb P)) = true := by
  by_cases h : P
  · rw [zb_t h]; decide
  · rw [zb_f h]; decide
theorem e_bz_eq {off : Int} {P : Prop} [Decidable P] (o : zop mi pc = some (.ifCond .eq off, 3)) (t : Nat) (ht : zgo pc off = some t) (k1 : ¬ P → zEv sc mi d t ls st ws kc ks Q) (k2 : P → zEv sc mi d (pc + 3) ls st ws kc ks Q) : zEv sc mi d pc ls (.int (zI (zb P)) :: st) ws kc ks Q :=
  e_if_eq o t ht (zb_rg P) (fun h => k1 fun p => by rw [zb_t p] at h; omega) (fun h => k2 (Classical.byContradiction fun p => h (zb_f p)))
theorem e_bz_ne {off : Int} {P : Prop} [Decidable P] (o : zop mi pc = some (.ifCond .ne off, 3)) (t : Nat) (ht : zgo pc off = some t) (k1 : P → zEv sc mi d t ls st ws kc ks Q) (k2 : ¬ P → zEv sc mi d (pc + 3) ls st ws kc ks Q) : zEv sc mi d pc ls (.int (zI (zb P)) :: st) ws kc ks Q :=
  e_if_ne o t ht (zb_rg P) (fun h => k1 (Classical.byContradiction fun p => h (zb_f p))) (fun h => k2 fun p => by rw [zb_t p] at h; omega)
theorem e_sw {dflt lo hi : Int} {offs : Array Int} {x : Int32} (off : Int) (o : zop mi pc = some (.tableswitch dflt lo hi offs, n)) (t : Nat) (hx : zsw dflt lo hi offs x = some off) (ht : zgo pc off = some t) (k : zEv sc mi d t ls st ws kc ks Q) : zEv sc mi d pc ls (.int x :: st) ws kc ks Q :=
  e_nx o (fun q => by simp only [znx, hx, ht]) k
theorem e_swD {dflt lo hi : Int} {offs : Array Int} {x : Int} (o : zop mi pc = some (.tableswitch dflt lo hi offs, n)) (t : Nat) (hr : -2147483648 ≤ x ∧ x < 2147483648) (hx : x < lo ∨ hi < x) (ht : zgo pc dflt = some t) (k : zEv sc mi d t ls st ws kc ks Q) : zEv sc mi d pc ls (.int (zI x) :: st) ws kc ks Q :=
  e_sw dflt o t (by simp only [zsw, zI_to hr]; rw [if_pos hx]) ht k
theorem e_gI {a c r : Nat} {rs : List Nat} (o : zop mi pc = some (.getfield r, 3)) (hL : zLay[a]? = some (4, c, rs)) (hf : zfd c rs r = some 9999) (f : Int) (hr : ((r % 100 : Nat) : Int) = f) (k : zEv sc mi d (pc + 3) ls (.int (zI (zg v a f)) :: st) (zmk v u) kc ks Q) : zEv sc mi d pc ls (.ref a :: st) (zmk v u) kc ks Q :=
  e_nx o (fun q => by simp only [znx, zget_I hL hf, hr, ← zI_g v a f]) k
theorem e_gR {a c r b : Nat} {rs : List Nat} (o : zop mi pc = some (.getfield r, 3)) (hL : zLay[a]? = some (4, c, rs)) (hf : zfd c rs r = some b) (hb : (b == 9999) = false) (k : zEv sc mi d (pc + 3) ls (.ref b :: st) (zmk v u) kc ks Q) : zEv sc mi d pc ls (.ref a :: st) (zmk v u) kc ks Q :=
  e_nx o (fun q => by simp only [znx, zget_R hL hf hb]) k
theorem e_pI {a c r : Nat} {rs : List Nat} {x : Int32} (o : zop mi pc = some (.putfield r, 3)) (hL : zLay[a]? = some (4, c, rs)) (hf : zfd c rs r = some 9999) (hn : decide (r % 100 < zNF c) = true) (hz : zfit (zty c (r % 100)) (.int x) = true) (hT : (zT c (r % 100)).2.2.2 = false) (f : Int) (hr : ((r % 100 : Nat) : Int) = f) (k : zEv sc mi d (pc + 3) ls st (zmk (zu v a f x) u) kc ks Q) : zEv sc mi d pc ls (.int x :: .ref a :: st) (zmk v u) kc ks Q :=
  e_nx o (fun q => by simp only [znx, zput_I hL hf hn hz hT, hr]) k
theorem e_ial {a m : Nat} {rs : List Nat} {j : Int} (o : zop mi pc = some (.iaload, 1)) (hL : zLay[a]? = some (0, m, rs)) (h0 : 0 ≤ j) (h1 : j < m) (k : zEv sc mi d (pc + 1) ls (.int (zI (zg v a j)) :: st) (zmk v u) kc ks Q) : zEv sc mi d pc ls (.int (zI j) :: .ref a :: st) (zmk v u) kc ks Q :=
  e_nx o (fun q => by simp only [znx, zald_I hL h0 h1, ← zI_g v a j]) k
theorem e_bal {a m : Nat} {rs : List Nat} {j : Int} (o : zop mi pc = some (.baload, 1)) (hL : zLay[a]? = some (1, m, rs)) (h0 : 0 ≤ j) (h1 : j < m) (k : zEv sc mi d (pc + 1) ls (.int (zI (zg v a j)) :: st) (zmk v u) kc ks Q) : zEv sc mi d pc ls (.int (zI j) :: .ref a :: st) (zmk v u) kc ks Q :=
  e_nx o (fun q => by simp only [znx, zald_B hL h0 h1, ← zI_g v a j]) k
theorem e_lal {a m : Nat} {rs : List Nat} {j : Int} (o : zop mi pc = some (.laload, 1)) (hL : zLay[a]? = some (2, m, rs)) (h0 : 0 ≤ j) (h1 : j < m) (k : zEv sc mi d (pc + 1) ls (.long (u a j) :: st) (zmk v u) kc ks Q) : zEv sc mi d pc ls (.int (zI j) :: .ref a :: st) (zmk v u) kc ks Q :=
  e_nx o (fun q => by simp only [znx, zlal_I hL h0 h1]) k
theorem e_aal {a c b : Nat} {rs : List Nat} {j : Int} (o : zop mi pc = some (.aaload, 1)) (hL : zLay[a]? = some (3, c, rs)) (h0 : 0 ≤ j) (h1 : j < rs.length) (hn : decide (rs.length ≤ 60000) = true) (hb : rs[j.toNat]? = some b) (k : zEv sc mi d (pc + 1) ls (.ref b :: st) (zmk v u) kc ks Q) : zEv sc mi d pc ls (.int (zI j) :: .ref a :: st) (zmk v u) kc ks Q :=
  e_nx o (fun q => by simp only [znx, zaal_I hL h0 h1 (of_decide_eq_true hn) hb]) k
theorem e_len {a m : Nat} {rs : List Nat} (o : zop mi pc = some (.arraylength, 1)) (hL : zLay[a]? = some (0, m, rs)) (k : zEv sc mi d (pc + 1) ls (.int (zI m) :: st) (zmk v u) kc ks Q) : zEv sc mi d pc ls (.ref a :: st) (zmk v u) kc ks Q :=
  e_nx o (fun q => by simp only [znx, zlen_I hL]) k
theorem e_lenR {a c : Nat} {rs : List Nat} (o : zop mi pc = some (.arraylength, 1)) (hL : zLay[a]? = some (3, c, rs)) (k : zEv sc mi d (pc + 1) ls (.int (zI rs.length) :: st) (zmk v u) kc ks Q) : zEv sc mi d pc ls (.ref a :: st) (zmk v u) kc ks Q :=
  e_nx o (fun q => by simp only [znx, zlen_R hL]) k
theorem e_iast {a m : Nat} {rs : List Nat} {j : Int} {x : Int32} (o : zop mi pc = some (.iastore, 1)) (hL : zLay[a]? = some (0, m, rs)) (h0 : 0 ≤ j) (h1 : j < m) (k : zEv sc mi d (pc + 1) ls st (zmk (zu v a j x) u) kc ks Q) : zEv sc mi d pc ls (.int x :: .int (zI j) :: .ref a :: st) (zmk v u) kc ks Q :=
  e_nx o (fun q => by simp only [znx, zast_I hL h0 h1]) k
theorem e_bast {a m : Nat} {rs : List Nat} {j : Int} {x : Int32} (o : zop mi pc = some (.bastore, 1)) (hL : zLay[a]? = some (1, m, rs)) (h0 : 0 ≤ j) (h1 : j < m) (k : zEv sc mi d (pc + 1) ls st (zmk (zu v a j (vp_nar .byte x)) u) kc ks Q) : zEv sc mi d pc ls (.int x :: .int (zI j) :: .ref a :: st) (zmk v u) kc ks Q :=
  e_nx o (fun q => by simp only [znx, zast_B hL h0 h1]) k
theorem e_last {a m : Nat} {rs : List Nat} {j : Int} {x : Int64} (o : zop mi pc = some (.lastore, 1)) (hL : zLay[a]? = some (2, m, rs)) (h0 : 0 ≤ j) (h1 : j < m) (k : zEv sc mi d (pc + 1) ls st (zmk v (zul u a j x)) kc ks Q) : zEv sc mi d pc ls (.long x :: .int (zI j) :: .ref a :: st) (zmk v u) kc ks Q :=
  e_nx o (fun q => by simp only [znx, zlas_I hL h0 h1]) k
theorem e_cpy {a b n0 n1 : Nat} {rs0 rs1 : List Nat} {s t m : Int} (o : zop mi pc = some (.invokestatic 1003, 3)) (hd : 1 ≤ d) (hw : decide (zwd st ≤ 8) = true) (h0 : zLay[a]? = some (0, n0, rs0)) (h1 : zLay[b]? = some (0, n1, rs1)) (hs : 0 ≤ s) (ht : 0 ≤ t) (hn : 0 ≤ m) (hs1 : s + m ≤ n0) (ht1 : t + m ≤ n1) (k : zEv sc mi d (pc + 3) ls st (zmk (zcp v a b s t m) u) kc ks Q) : zEv sc mi d pc ls (.int (zI m) :: .int (zI t) :: .ref b :: .int (zI s) :: .ref a :: st) (zmk v u) kc ks Q :=
  e_nx o (fun q => by simp only [znx, hd, of_decide_eq_true hw, zcpy_I h0 h1 hs ht hn hs1 ht1, and_true, if_true, Nat.reduceEqDiff, if_false]) k
theorem e_cpyL {a b n0 n1 : Nat} {rs0 rs1 : List Nat} {s t m : Int} (o : zop mi pc = some (.invokestatic 1003, 3)) (hd : 1 ≤ d) (hw : decide (zwd st ≤ 8) = true) (h0 : zLay[a]? = some (2, n0, rs0)) (h1 : zLay[b]? = some (2, n1, rs1)) (hs : 0 ≤ s) (ht : 0 ≤ t) (hn : 0 ≤ m) (hs1 : s + m ≤ n0) (ht1 : t + m ≤ n1) (k : zEv sc mi d (pc + 3) ls st (zmk v (zcpL u a b s t m)) kc ks Q) : zEv sc mi d pc ls (.int (zI m) :: .int (zI t) :: .ref b :: .int (zI s) :: .ref a :: st) (zmk v u) kc ks Q :=
  e_nx o (fun q => by simp only [znx, hd, of_decide_eq_true hw, zcpy_L h0 h1 hs ht hn hs1 ht1, and_true, if_true, Nat.reduceEqDiff, if_false]) k
theorem e_min {x y : Int} (o : zop mi pc = some (.invokestatic 1001, 3)) (hd : 1 ≤ d) (hw : decide (zwd st ≤ 8) = true) (hx : -2147483648 ≤ x ∧ x < 2147483648) (hy : -2147483648 ≤ y ∧ y < 2147483648) (k : zEv sc mi d (pc + 3) ls (.int (zI (min x y)) :: st) ws kc ks Q) : zEv sc mi d pc ls (.int (zI y) :: .int (zI x) :: st) ws kc ks Q :=
  e_nx o (fun q => by
    have e : (if zI y < zI x then zI y else zI x) = zI (min x y) := by
      simp only [zI_lt hy hx]
      split
      · rw [Int.min_eq_right (by omega)]
      · rw [Int.min_eq_left (by omega)]
    simp only [znx, hd, of_decide_eq_true hw, and_true, if_true, e]) k
theorem e_max {x y : Int} (o : zop mi pc = some (.invokestatic 1002, 3)) (hd : 1 ≤ d) (hw : decide (zwd st ≤ 8) = true) (hx : -2147483648 ≤ x ∧ x < 2147483648) (hy : -2147483648 ≤ y ∧ y < 2147483648) (k : zEv sc mi d (pc + 3) ls (.int (zI (max x y)) :: st) ws kc ks Q) : zEv sc mi d pc ls (.int (zI y) :: .int (zI x) :: st) ws kc ks Q :=
  e_nx o (fun q => by
    have e : (if zI x < zI y then zI y else zI x) = zI (max x y) := by
      simp only [zI_lt hx hy]
      split
      · rw [Int.max_eq_right (by omega)]
      · rw [Int.max_eq_left (by omega)]
    simp only [znx, hd, of_decide_eq_true hw, and_true, if_true, Nat.reduceEqDiff, if_false, e]) k
/-- ends: with a number, without one, with an exception -/
def zPi (R : Int32 → zV → zU → Prop) : zPost := fun r w => ∃ x v u, r = .inl (some (.int x)) ∧ w = zmk v u ∧ R x v u
def zPv (R : zV → zU → Prop) : zPost := fun r w => ∃ v u, r = .inl none ∧ w = zmk v u ∧ R v u
/-- the method gives x, the numbers are v, u then -/
abbrev zis (x : Int32) (v : zV) (u : zU) : zPost := zPi fun y w t => x = y ∧ v = w ∧ u = t
abbrev zdo (v : zV) (u : zU) : zPost := zPv fun w t => v = w ∧ u = t
def zPt (R : Int32 → zV → zU → Prop) (T : Nat → zV → zU → Prop) : zPost := fun r w => ∃ v u, w = zmk v u ∧ ((∃ x, r = .inl (some (.int x)) ∧ R x v u) ∨ ∃ e, r = .inr e ∧ e < 2 ∧ T e v u)
def zPs (R : zV → zU → Prop) (T : Nat → zV → zU → Prop) : zPost := fun r w => ∃ v u, w = zmk v u ∧ ((r = .inl none ∧ R v u) ∨ ∃ e, r = .inr e ∧ e < 2 ∧ T e v u)
theorem zPt_thr {R : Int32 → zV → zU → Prop} {T : Nat → zV → zU → Prop} {e : Nat} (he : e < 2) (h : T e v u) : zPt R T (.inr e) (zmk v u) := ⟨v, u, rfl, Or.inr ⟨e, rfl, he, h⟩⟩
theorem zPs_thr {R : zV → zU → Prop} {T : Nat → zV → zU → Prop} {e : Nat} (he : e < 2) (h : T e v u) : zPs R T (.inr e) (zmk v u) := ⟨v, u, rfl, Or.inr ⟨e, rfl, he, h⟩⟩
theorem e_ret {q : zMI} {x : Int32} (o : zop mi pc = some (.ireturn, 1)) (hq : zM[mi]? = some q) (hz : zret q.rt x = true) (hk : decide (kc ≤ q.mc ∧ ks ≤ q.ms) = true) (k : Q (.inl (some (.int x))) ws) : zEv sc mi d pc ls [.int x] ws kc ks Q :=
  zEv_step ⟨q, _, _, hq, o, Or.inr (Or.inl ⟨x, rfl, rfl, hz, (of_decide_eq_true hk).1, (of_decide_eq_true hk).2, k⟩)⟩
theorem e_rI {q : zMI} {x : Int32} {R : Int32 → zV → zU → Prop} (o : zop mi pc = some (.ireturn, 1)) (hq : zM[mi]? = some q) (hz : zret q.rt x = true) (hk : decide (kc ≤ q.mc ∧ ks ≤ q.ms) = true) (k : R x v u) : zEv sc mi d pc ls [.int x] (zmk v u) kc ks (zPi R) :=
  e_ret o hq hz hk ⟨x, v, u, rfl, rfl, k⟩
theorem e_rT {q : zMI} {x : Int32} {R : Int32 → zV → zU → Prop} {T : Nat → zV → zU → Prop} (o : zop mi pc = some (.ireturn, 1)) (hq : zM[mi]? = some q) (hz : zret q.rt x = true) (hk : decide (kc ≤ q.mc ∧ ks ≤ q.ms) = true) (k : R x v u) : zEv sc mi d pc ls [.int x] (zmk v u) kc ks (zPt R T) :=
  e_ret o hq hz hk ⟨v, u, rfl, Or.inl ⟨x, rfl, k⟩⟩
theorem e_end {q : zMI} (o : zop mi pc = some (.return_, 1)) (hq : zM[mi]? = some q) (hz : q.rt = none) (hk : decide (kc ≤ q.mc ∧ ks ≤ q.ms) = true) (k : Q (.inl none) ws) : zEv sc mi d pc ls [] ws kc ks Q :=
  zEv_step ⟨q, _, _, hq, o, Or.inr (Or.inr (Or.inl ⟨rfl, rfl, hz, (of_decide_eq_true hk).1, (of_decide_eq_true hk).2, k⟩))⟩
theorem e_rV {q : zMI} {R : zV → zU → Prop} (o : zop mi pc = some (.return_, 1)) (hq : zM[mi]? = some q) (hz : q.rt = none) (hk : decide (kc ≤ q.mc ∧ ks ≤ q.ms) = true) (k : R v u) : zEv sc mi d pc ls [] (zmk v u) kc ks (zPv R) :=
  e_end o hq hz hk ⟨v, u, rfl, rfl, k⟩
theorem e_rS {q : zMI} {R : zV → zU → Prop} {T : Nat → zV → zU → Prop} (o : zop mi pc = some (.return_, 1)) (hq : zM[mi]? = some q) (hz : q.rt = none) (hk : decide (kc ≤ q.mc ∧ ks ≤ q.ms) = true) (k : R v u) : zEv sc mi d pc ls [] (zmk v u) kc ks (zPs R T) :=
  e_end o hq hz hk ⟨v, u, rfl, Or.inl ⟨rfl, k⟩⟩
theorem e_throw {q : zMI} {s : Nat} (e : Nat) (o : zop mi pc = some (.new (100 + e), 3)) (hq : zM[mi]? = some q) (hc : decide (e < 2 ∧ s < 48 ∧ q.cn = 9 ∧ kc + 1 ≤ q.mc ∧ ks + 6 ≤ q.ms ∧ zwd st ≤ 8) = true) (hh : q.hh = []) (hd : 6 ≤ d) (o1 : zop mi (pc + 3) = some (.dup, 1)) (o2 : (zop mi (pc + 4) = some (.ldc s, 2) ∧ zop mi (pc + 6) = some (.invokespecial (1010 + e), 3) ∧ zop mi (pc + 9) = some (.athrow, 1)) ∨ (zop mi (pc + 4) = some (.ldc_w s, 3) ∧ zop mi (pc + 7) = some (.invokespecial (1010 + e), 3) ∧ zop mi (pc + 10) = some (.athrow, 1))) (k : Q (.inr e) ws) : zEv sc mi d pc ls st ws kc ks Q := by
  obtain ⟨c1, c2, c3, c4, c5, c6⟩ := of_decide_eq_true hc
  exact zEv_step ⟨q, _, _, hq, o, Or.inr (Or.inr (Or.inr (Or.inr (Or.inr (Or.inr ⟨e, s, rfl, c1, c2, c3, hh, hd, c6, c4, c5, o1, o2, k⟩)))))⟩
/-- what is seen of a call by its tables -/
def zcv (j : Nat) (q q1 : zMI) (as rest : List Value) (kc ks : Nat) : Bool := decide (j < 234 ∧ as.length = q1.np ∧ q1.hh = [] ∧ as.length + 1 ≤ q1.nL ∧ zwd as = as.length ∧ zwd rest ≤ 8 ∧ kc + q1.mc ≤ q.mc ∧ ks + q1.ms ≤ q.ms)
def zcs (j : Nat) (q q1 : zMI) (as rest : List Value) (kc ks : Nat) : Bool := decide (j < 234 ∧ as.length = q1.np ∧ as.length ≤ q1.nL ∧ zwd as = as.length ∧ zwd rest ≤ 8 ∧ kc + q1.mc ≤ q.mc ∧ ks + q1.ms ≤ q.ms)
theorem e_V {q q1 : zMI} {j b : Nat} {as rest L : List Value} {Q1 : zPost} (o : zop mi pc = some (.invokevirtual j, 3)) (hq : zM[mi]? = some q) (hq1 : zM[j]? = some q1) (hc : zcv j q q1 as rest kc ks = true) (hr : zrcv ws b q1.cn = true) (hd : 1 ≤ d) (hst : st = as.reverse ++ .ref b :: rest) (hl : zloc q1 (.ref b :: as) = L) (h : zEv sc j (d - 1) 0 L [] ws 0 0 Q1) (ha : zafter (zEv sc) q q1 mi d pc 3 ls rest kc ks Q Q1) : zEv sc mi d pc ls st ws kc ks Q := by
  obtain ⟨c1, c2, c3, c4, c5, c6, c7, c8⟩ := of_decide_eq_true hc
  subst hl
  exact zEv_step ⟨q, _, _, hq, o, Or.inr (Or.inr (Or.inr (Or.inl ⟨j, q1, as, b, rest, rfl, hq1, c1, hst, c2, hr, c3, hd, c6, by simp only [zwd, List.map_cons, List.sum_cons, List.length_cons] at c5 ⊢; rw [c5]; exact Nat.add_comm _ _, by simpa using c4, c7, c8, Q1, h, ha⟩)))⟩
theorem e_S {q q1 : zMI} {j : Nat} {as rest L : List Value} {Q1 : zPost} (o : zop mi pc = some (.invokestatic j, 3)) (hq : zM[mi]? = some q) (hq1 : zM[j]? = some q1) (hc : zcs j q q1 as rest kc ks = true) (hd : 1 ≤ d) (hst : st = as.reverse ++ rest) (hl : zloc q1 as = L) (h : zEv sc j (d - 1) 0 L [] ws 0 0 Q1) (ha : zafter (zEv sc) q q1 mi d pc 3 ls rest kc ks Q Q1) : zEv sc mi d pc ls st ws kc ks Q := by
  obtain ⟨c1, c2, c4, c5, c6, c7, c8⟩ := of_decide_eq_true hc
  subst hl
  exact zEv_step ⟨q, _, _, hq, o, Or.inr (Or.inr (Or.inr (Or.inr (Or.inl ⟨j, q1, as, rest, rfl, hq1, c1, hst, c2, hd, c6, c5, c4, c7, c8, Q1, h, ha⟩))))⟩
theorem zrcv_I {a c cn : Nat} {rs : List Nat} (hL : zLay[a]? = some (4, c, rs)) (hc : decide (c = cn ∧ c < 11) = true) : zrcv (zmk v u) a cn = true := by
  have h1 := zLay_lt hL
  simp only [zrcv, show a < 1000 by omega, if_true, zmk_at hL, zcell, hc]
theorem zaf_I {q q1 : zMI} {rest : List Value} {R : Int32 → zV → zU → Prop} {kc' ks' : Nat} (hk : kc + q1.mc = kc') (hs : ks + q1.ms = ks') (k : ∀ x v u, R x v u → zEv sc mi d (pc + 3) ls (.int x :: rest) (zmk v u) kc' ks' Q) : zafter (zEv sc) q q1 mi d pc 3 ls rest kc ks Q (zPi R) := by
  refine ⟨?_, ?_⟩
  · rintro r w ⟨x, v, u, e1, e2, h⟩
    cases e1
    subst e2 hk hs
    exact k x v u h
  · rintro e w ⟨x, v, u, e1, e2, h⟩
    cases e1
theorem zaf_V {q q1 : zMI} {rest : List Value} {R : zV → zU → Prop} {kc' ks' : Nat} (hk : kc + q1.mc = kc') (hs : ks + q1.ms = ks') (k : ∀ v u, R v u → zEv sc mi d (pc + 3) ls rest (zmk v u) kc' ks' Q) : zafter (zEv sc) q q1 mi d pc 3 ls rest kc ks Q (zPv R) := by
  refine ⟨?_, ?_⟩
  · rintro r w ⟨v, u, e1, e2, h⟩
    cases e1
    subst e2 hk hs
    exact k v u h
  · rintro e w ⟨v, u, e1, e2, h⟩
    cases e1
/-- an exception goes on outwards -/
theorem zaf_S {q q1 : zMI} {rest : List Value} {R : zV → zU → Prop} {T : Nat → zV → zU → Prop} {kc' ks' : Nat} (hh : q.hh = []) (hk : kc + q1.mc = kc') (hs : ks + q1.ms = ks') (k : ∀ v u, R v u → zEv sc mi d (pc + 3) ls rest (zmk v u) kc' ks' Q) (kt : ∀ e v u, e < 2 → T e v u → Q (.inr e) (zmk v u)) : zafter (zEv sc) q q1 mi d pc 3 ls rest kc ks Q (zPs R T) := by
  refine ⟨?_, ?_⟩
  · rintro r w ⟨v, u, e2, ⟨e1, h⟩ | ⟨e, e1, h⟩⟩
    · cases e1
      subst e2 hk hs
      exact k v u h
    · cases e1
  · rintro e w ⟨v, u, e2, ⟨e1, h⟩ | ⟨e', e1, h0, h⟩⟩
    · cases e1
    · cases e1
      subst e2
      rw [hh]
      exact ⟨h0, kt _ _ _ h0 h⟩
theorem e_Vi0 {q q1 : zMI} {j b : Nat}  {L : List Value} {R : Int32 → zV → zU → Prop} (o : zop mi pc = some (.invokevirtual j, 3)) (hq : zM[mi]? = some q) (hq1 : zM[j]? = some q1) (hc : zcv j q q1 [] st kc ks = true) (hz : q1.mc = 0 ∧ q1.ms = 0) (hr : zrcv ws b q1.cn = true) (hd : 1 ≤ d) (hl : zloc q1 [.ref b] = L) (h : zEv sc j (d - 1) 0 L [] ws 0 0 (zPi R)) (k : ∀ x v u, R x v u → zEv sc mi d (pc + 3) ls (.int x :: st) (zmk v u) kc ks Q) : zEv sc mi d pc ls (.ref b :: st) ws kc ks Q :=
  e_V o hq hq1 hc hr hd rfl hl h (zaf_I (by rw [hz.1]; rfl) (by rw [hz.2]; rfl) k)
theorem e_Si0 {q q1 : zMI} {j : Nat}  {L : List Value} {R : Int32 → zV → zU → Prop} (o : zop mi pc = some (.invokestatic j, 3)) (hq : zM[mi]? = some q) (hq1 : zM[j]? = some q1) (hc : zcs j q q1 [] st kc ks = true) (hz : q1.mc = 0 ∧ q1.ms = 0) (hd : 1 ≤ d) (hl : zloc q1 [] = L) (h : zEv sc j (d - 1) 0 L [] ws 0 0 (zPi R)) (k : ∀ x v u, R x v u → zEv sc mi d (pc + 3) ls (.int x :: st) (zmk v u) kc ks Q) : zEv sc mi d pc ls (st) ws kc ks Q :=
  e_S o hq hq1 hc hd rfl hl h (zaf_I (by rw [hz.1]; rfl) (by rw [hz.2]; rfl) k)
theorem e_Vv0 {q q1 : zMI} {j b : Nat}  {L : List Value} {R : zV → zU → Prop} (o : zop mi pc = some (.invokevirtual j, 3)) (hq : zM[mi]? = some q) (hq1 : zM[j]? = some q1) (hc : zcv j q q1 [] st kc ks = true) (hz : q1.mc = 0 ∧ q1.ms = 0) (hr : zrcv ws b q1.cn = true) (hd : 1 ≤ d) (hl : zloc q1 [.ref b] = L) (h : zEv sc j (d - 1) 0 L [] ws 0 0 (zPv R)) (k : ∀ v u, R v u → zEv sc mi d (pc + 3) ls st (zmk v u) kc ks Q) : zEv sc mi d pc ls (.ref b :: st) ws kc ks Q :=
  e_V o hq hq1 hc hr hd rfl hl h (zaf_V (by rw [hz.1]; rfl) (by rw [hz.2]; rfl) k)
theorem e_Sv0 {q q1 : zMI} {j : Nat}  {L : List Value} {R : zV → zU → Prop} (o : zop mi pc = some (.invokestatic j, 3)) (hq : zM[mi]? = some q) (hq1 : zM[j]? = some q1) (hc : zcs j q q1 [] st kc ks = true) (hz : q1.mc = 0 ∧ q1.ms = 0) (hd : 1 ≤ d) (hl : zloc q1 [] = L) (h : zEv sc j (d - 1) 0 L [] ws 0 0 (zPv R)) (k : ∀ v u, R v u → zEv sc mi d (pc + 3) ls st (zmk v u) kc ks Q) : zEv sc mi d pc ls (st) ws kc ks Q :=
  e_S o hq hq1 hc hd rfl hl h (zaf_V (by rw [hz.1]; rfl) (by rw [hz.2]; rfl) k)
theorem e_Vi1 {q q1 : zMI} {j b : Nat} {x0 : Value} {L : List Value} {R : Int32 → zV → zU → Prop} (o : zop mi pc = some (.invokevirtual j, 3)) (hq : zM[mi]? = some q) (hq1 : zM[j]? = some q1) (hc : zcv j q q1 [x0] st kc ks = true) (hz : q1.mc = 0 ∧ q1.ms = 0) (hr : zrcv ws b q1.cn = true) (hd : 1 ≤ d) (hl : zloc q1 [.ref b, x0] = L) (h : zEv sc j (d - 1) 0 L [] ws 0 0 (zPi R)) (k : ∀ x v u, R x v u → zEv sc mi d (pc + 3) ls (.int x :: st) (zmk v u) kc ks Q) : zEv sc mi d pc ls (x0 :: .ref b :: st) ws kc ks Q :=
  e_V o hq hq1 hc hr hd rfl hl h (zaf_I (by rw [hz.1]; rfl) (by rw [hz.2]; rfl) k)
theorem e_Si1 {q q1 : zMI} {j : Nat} {x0 : Value} {L : List Value} {R : Int32 → zV → zU → Prop} (o : zop mi pc = some (.invokestatic j, 3)) (hq : zM[mi]? = some q) (hq1 : zM[j]? = some q1) (hc : zcs j q q1 [x0] st kc ks = true) (hz : q1.mc = 0 ∧ q1.ms = 0) (hd : 1 ≤ d) (hl : zloc q1 [x0] = L) (h : zEv sc j (d - 1) 0 L [] ws 0 0 (zPi R)) (k : ∀ x v u, R x v u → zEv sc mi d (pc + 3) ls (.int x :: st) (zmk v u) kc ks Q) : zEv sc mi d pc ls (x0 :: st) ws kc ks Q :=
  e_S o hq hq1 hc hd rfl hl h (zaf_I (by rw [hz.1]; rfl) (by rw [hz.2]; rfl) k)
theorem e_Vv1 {q q1 : zMI} {j b : Nat} {x0 : Value} {L : List Value} {R : zV → zU → Prop} (o : zop mi pc = some (.invokevirtual j, 3)) (hq : zM[mi]? = some q) (hq1 : zM[j]? = some q1) (hc : zcv j q q1 [x0] st kc ks = true) (hz : q1.mc = 0 ∧ q1.ms = 0) (hr : zrcv ws b q1.cn = true) (hd : 1 ≤ d) (hl : zloc q1 [.ref b, x0] = L) (h : zEv sc j (d - 1) 0 L [] ws 0 0 (zPv R)) (k : ∀ v u, R v u → zEv sc mi d (pc + 3) ls st (zmk v u) kc ks Q) : zEv sc mi d pc ls (x0 :: .ref b :: st) ws kc ks Q :=
  e_V o hq hq1 hc hr hd rfl hl h (zaf_V (by rw [hz.1]; rfl) (by rw [hz.2]; rfl) k)
theorem e_Sv1 {q q1 : zMI} {j : Nat} {x0 : Value} {L : List Value} {R : zV → zU → Prop} (o : zop mi pc = some (.invokestatic j, 3)) (hq : zM[mi]? = some q) (hq1 : zM[j]? = some q1) (hc : zcs j q q1 [x0] st kc ks = true) (hz : q1.mc = 0 ∧ q1.ms = 0) (hd : 1 ≤ d) (hl : zloc q1 [x0] = L) (h : zEv sc j (d - 1) 0 L [] ws 0 0 (zPv R)) (k : ∀ v u, R v u → zEv sc mi d (pc + 3) ls st (zmk v u) kc ks Q) : zEv sc mi d pc ls (x0 :: st) ws kc ks Q :=
  e_S o hq hq1 hc hd rfl hl h (zaf_V (by rw [hz.1]; rfl) (by rw [hz.2]; rfl) k)
theorem e_Vi2 {q q1 : zMI} {j b : Nat} {x0 x1 : Value} {L : List Value} {R : Int32 → zV → zU → Prop} (o : zop mi pc = some (.invokevirtual j, 3)) (hq : zM[mi]? = some q) (hq1 : zM[j]? = some q1) (hc : zcv j q q1 [x0, x1] st kc ks = true) (hz : q1.mc = 0 ∧ q1.ms = 0) (hr : zrcv ws b q1.cn = true) (hd : 1 ≤ d) (hl : zloc q1 [.ref b, x0, x1] = L) (h : zEv sc j (d - 1) 0 L [] ws 0 0 (zPi R)) (k : ∀ x v u, R x v u → zEv sc mi d (pc + 3) ls (.int x :: st) (zmk v u) kc ks Q) : zEv sc mi d pc ls (x1 :: x0 :: .ref b :: st) ws kc ks Q :=
  e_V o hq hq1 hc hr hd rfl hl h (zaf_I (by rw [hz.1]; rfl) (by rw [hz.2]; rfl) k)
theorem e_Si2 {q q1 : zMI} {j : Nat} {x0 x1 : Value} {L : List Value} {R : Int32 → zV → zU → Prop} (o : zop mi pc = some (.invokestatic j, 3)) (hq : zM[mi]? = some q) (hq1 : zM[j]? = some q1) (hc : zcs j q q1 [x0, x1] st kc ks = true) (hz : q1.mc = 0 ∧ q1.ms = 0) (hd : 1 ≤ d) (hl : zloc q1 [x0, x1] = L) (h : zEv sc j (d - 1) 0 L [] ws 0 0 (zPi R)) (k : ∀ x v u, R x v u → zEv sc mi d (pc + 3) ls (.int x :: st) (zmk v u) kc ks Q) : zEv sc mi d pc ls (x1 :: x0 :: st) ws kc ks Q :=
  e_S o hq hq1 hc hd rfl hl h (zaf_I (by rw [hz.1]; rfl) (by rw [hz.2]; rfl) k)
theorem e_Vv2 {q q1 : zMI} {j b : Nat} {x0 x1 : Value} {L : List Value} {R : zV → zU → Prop} (o : zop mi pc = some (.invokevirtual j, 3)) (hq : zM[mi]? = some q) (hq1 : zM[j]? = some q1) (hc : zcv j q q1 [x0, x1] st kc ks = true) (hz : q1.mc = 0 ∧ q1.ms = 0) (hr : zrcv ws b q1.cn = true) (hd : 1 ≤ d) (hl : zloc q1 [.ref b, x0, x1] = L) (h : zEv sc j (d - 1) 0 L [] ws 0 0 (zPv R)) (k : ∀ v u, R v u → zEv sc mi d (pc + 3) ls st (zmk v u) kc ks Q) : zEv sc mi d pc ls (x1 :: x0 :: .ref b :: st) ws kc ks Q :=
  e_V o hq hq1 hc hr hd rfl hl h (zaf_V (by rw [hz.1]; rfl) (by rw [hz.2]; rfl) k)
theorem e_Sv2 {q q1 : zMI} {j : Nat} {x0 x1 : Value} {L : List Value} {R : zV → zU → Prop} (o : zop mi pc = some (.invokestatic j, 3)) (hq : zM[mi]? = some q) (hq1 : zM[j]? = some q1) (hc : zcs j q q1 [x0, x1] st kc ks = true) (hz : q1.mc = 0 ∧ q1.ms = 0) (hd : 1 ≤ d) (hl : zloc q1 [x0, x1] = L) (h : zEv sc j (d - 1) 0 L [] ws 0 0 (zPv R)) (k : ∀ v u, R v u → zEv sc mi d (pc + 3) ls st (zmk v u) kc ks Q) : zEv sc mi d pc ls (x1 :: x0 :: st) ws kc ks Q :=
  e_S o hq hq1 hc hd rfl hl h (zaf_V (by rw [hz.1]; rfl) (by rw [hz.2]; rfl) k)
theorem e_Vi3 {q q1 : zMI} {j b : Nat} {x0 x1 x2 : Value} {L : List Value} {R : Int32 → zV → zU → Prop} (o : zop mi pc = some (.invokevirtual j, 3)) (hq : zM[mi]? = some q) (hq1 : zM[j]? = some q1) (hc : zcv j q q1 [x0, x1, x2] st kc ks = true) (hz : q1.mc = 0 ∧ q1.ms = 0) (hr : zrcv ws b q1.cn = true) (hd : 1 ≤ d) (hl : zloc q1 [.ref b, x0, x1, x2] = L) (h : zEv sc j (d - 1) 0 L [] ws 0 0 (zPi R)) (k : ∀ x v u, R x v u → zEv sc mi d (pc + 3) ls (.int x :: st) (zmk v u) kc ks Q) : zEv sc mi d pc ls (x2 :: x1 :: x0 :: .ref b :: st) ws kc ks Q :=
  e_V o hq hq1 hc hr hd rfl hl h (zaf_I (by rw [hz.1]; rfl) (by rw [hz.2]; rfl) k)
theorem e_Si3 {q q1 : zMI} {j : Nat} {x0 x1 x2 : Value} {L : List Value} {R : Int32 → zV → zU → Prop} (o : zop mi pc = some (.invokestatic j, 3)) (hq : zM[mi]? = some q) (hq1 : zM[j]? = some q1) (hc : zcs j q q1 [x0, x1, x2] st kc ks = true) (hz : q1.mc = 0 ∧ q1.ms = 0) (hd : 1 ≤ d) (hl : zloc q1 [x0, x1, x2] = L) (h : zEv sc j (d - 1) 0 L [] ws 0 0 (zPi R)) (k : ∀ x v u, R x v u → zEv sc mi d (pc + 3) ls (.int x :: st) (zmk v u) kc ks Q) : zEv sc mi d pc ls (x2 :: x1 :: x0 :: st) ws kc ks Q :=
  e_S o hq hq1 hc hd rfl hl h (zaf_I (by rw [hz.1]; rfl) (by rw [hz.2]; rfl) k)
theorem e_Vv3 {q q1 : zMI} {j b : Nat} {x0 x1 x2 : Value} {L : List Value} {R : zV → zU → Prop} (o : zop mi pc = some (.invokevirtual j, 3)) (hq : zM[mi]? = some q) (hq1 : zM[j]? = some q1) (hc : zcv j q q1 [x0, x1, x2] st kc ks = true) (hz : q1.mc = 0 ∧ q1.ms = 0) (hr : zrcv ws b q1.cn = true) (hd : 1 ≤ d) (hl : zloc q1 [.ref b, x0, x1, x2] = L) (h : zEv sc j (d - 1) 0 L [] ws 0 0 (zPv R)) (k : ∀ v u, R v u → zEv sc mi d (pc + 3) ls st (zmk v u) kc ks Q) : zEv sc mi d pc ls (x2 :: x1 :: x0 :: .ref b :: st) ws kc ks Q :=
  e_V o hq hq1 hc hr hd rfl hl h (zaf_V (by rw [hz.1]; rfl) (by rw [hz.2]; rfl) k)
theorem e_Sv3 {q q1 : zMI} {j : Nat} {x0 x1 x2 : Value} {L : List Value} {R : zV → zU → Prop} (o : zop mi pc = some (.invokestatic j, 3)) (hq : zM[mi]? = some q) (hq1 : zM[j]? = some q1) (hc : zcs j q q1 [x0, x1, x2] st kc ks = true) (hz : q1.mc = 0 ∧ q1.ms = 0) (hd : 1 ≤ d) (hl : zloc q1 [x0, x1, x2] = L) (h : zEv sc j (d - 1) 0 L [] ws 0 0 (zPv R)) (k : ∀ v u, R v u → zEv sc mi d (pc + 3) ls st (zmk v u) kc ks Q) : zEv sc mi d pc ls (x2 :: x1 :: x0 :: st) ws kc ks Q :=
  e_S o hq hq1 hc hd rfl hl h (zaf_V (by rw [hz.1]; rfl) (by rw [hz.2]; rfl) k)
theorem e_Vi4 {q q1 : zMI} {j b : Nat} {x0 x1 x2 x3 : Value} {L : List Value} {R : Int32 → zV → zU → Prop} (o : zop mi pc = some (.invokevirtual j, 3)) (hq : zM[mi]? = some q) (hq1 : zM[j]? = some q1) (hc : zcv j q q1 [x0, x1, x2, x3] st kc ks = true) (hz : q1.mc = 0 ∧ q1.ms = 0) (hr : zrcv ws b q1.cn = true) (hd : 1 ≤ d) (hl : zloc q1 [.ref b, x0, x1, x2, x3] = L) (h : zEv sc j (d - 1) 0 L [] ws 0 0 (zPi R)) (k : ∀ x v u, R x v u → zEv sc mi d (pc + 3) ls (.int x :: st) (zmk v u) kc ks Q) : zEv sc mi d pc ls (x3 :: x2 :: x1 :: x0 :: .ref b :: st) ws kc ks Q :=
  e_V o hq hq1 hc hr hd rfl hl h (zaf_I (by rw [hz.1]; rfl) (by rw [hz.2]; rfl) k)
theorem e_Si4 {q q1 : zMI} {j : Nat} {x0 x1 x2 x3 : Value} {L : List Value} {R : Int32 → zV → zU → Prop} (o : zop mi pc = some (.invokestatic j, 3)) (hq : zM[mi]? = some q) (hq1 : zM[j]? = some q1) (hc : zcs j q q1 [x0, x1, x2, x3] st kc ks = true) (hz : q1.mc = 0 ∧ q1.ms = 0) (hd : 1 ≤ d) (hl : zloc q1 [x0, x1, x2, x3] = L) (h : zEv sc j (d - 1) 0 L [] ws 0 0 (zPi R)) (k : ∀ x v u, R x v u → zEv sc mi d (pc + 3) ls (.int x :: st) (zmk v u) kc ks Q) : zEv sc mi d pc ls (x3 :: x2 :: x1 :: x0 :: st) ws kc ks Q :=
  e_S o hq hq1 hc hd rfl hl h (zaf_I (by rw [hz.1]; rfl) (by rw [hz.2]; rfl) k)
theorem e_Vv4 {q q1 : zMI} {j b : Nat} {x0 x1 x2 x3 : Value} {L : List Value} {R : zV → zU → Prop} (o : zop mi pc = some (.invokevirtual j, 3)) (hq : zM[mi]? = some q) (hq1 : zM[j]? = some q1) (hc : zcv j q q1 [x0, x1, x2, x3] st kc ks = true) (hz : q1.mc = 0 ∧ q1.ms = 0) (hr : zrcv ws b q1.cn = true) (hd : 1 ≤ d) (hl : zloc q1 [.ref b, x0, x1, x2, x3] = L) (h : zEv sc j (d - 1) 0 L [] ws 0 0 (zPv R)) (k : ∀ v u, R v u → zEv sc mi d (pc + 3) ls st (zmk v u) kc ks Q) : zEv sc mi d pc ls (x3 :: x2 :: x1 :: x0 :: .ref b :: st) ws kc ks Q :=
  e_V o hq hq1 hc hr hd rfl hl h (zaf_V (by rw [hz.1]; rfl) (by rw [hz.2]; rfl) k)
theorem e_Sv4 {q q1 : zMI} {j : Nat} {x0 x1 x2 x3 : Value} {L : List Value} {R : zV → zU → Prop} (o : zop mi pc = some (.invokestatic j, 3)) (hq : zM[mi]? = some q) (hq1 : zM[j]? = some q1) (hc : zcs j q q1 [x0, x1, x2, x3] st kc ks = true) (hz : q1.mc = 0 ∧ q1.ms = 0) (hd : 1 ≤ d) (hl : zloc q1 [x0, x1, x2, x3] = L) (h : zEv sc j (d - 1) 0 L [] ws 0 0 (zPv R)) (k : ∀ v u, R v u → zEv sc mi d (pc + 3) ls st (zmk v u) kc ks Q) : zEv sc mi d pc ls (x3 :: x2 :: x1 :: x0 :: st) ws kc ks Q :=
  e_S o hq hq1 hc hd rfl hl h (zaf_V (by rw [hz.1]; rfl) (by rw [hz.2]; rfl) k)
theorem e_Vi5 {q q1 : zMI} {j b : Nat} {x0 x1 x2 x3 x4 : Value} {L : List Value} {R : Int32 → zV → zU → Prop} (o : zop mi pc = some (.invokevirtual j, 3)) (hq : zM[mi]? = some q) (hq1 : zM[j]? = some q1) (hc : zcv j q q1 [x0, x1, x2, x3, x4] st kc ks = true) (hz : q1.mc = 0 ∧ q1.ms = 0) (hr : zrcv ws b q1.cn = true) (hd : 1 ≤ d) (hl : zloc q1 [.ref b, x0, x1, x2, x3, x4] = L) (h : zEv sc j (d - 1) 0 L [] ws 0 0 (zPi R)) (k : ∀ x v u, R x v u → zEv sc mi d (pc + 3) ls (.int x :: st) (zmk v u) kc ks Q) : zEv sc mi d pc ls (x4 :: x3 :: x2 :: x1 :: x0 :: .ref b :: st) ws kc ks Q :=
  e_V o hq hq1 hc hr hd rfl hl h (zaf_I (by rw [hz.1]; rfl) (by rw [hz.2]; rfl) k)
theorem e_Si5 {q q1 : zMI} {j : Nat} {x0 x1 x2 x3 x4 : Value} {L : List Value} {R : Int32 → zV → zU → Prop} (o : zop mi pc = some (.invokestatic j, 3)) (hq : zM[mi]? = some q) (hq1 : zM[j]? = some q1) (hc : zcs j q q1 [x0, x1, x2, x3, x4] st kc ks = true) (hz : q1.mc = 0 ∧ q1.ms = 0) (hd : 1 ≤ d) (hl : zloc q1 [x0, x1, x2, x3, x4] = L) (h : zEv sc j (d - 1) 0 L [] ws 0 0 (zPi R)) (k : ∀ x v u, R x v u → zEv sc mi d (pc + 3) ls (.int x :: st) (zmk v u) kc ks Q) : zEv sc mi d pc ls (x4 :: x3 :: x2 :: x1 :: x0 :: st) ws kc ks Q :=
  e_S o hq hq1 hc hd rfl hl h (zaf_I (by rw [hz.1]; rfl) (by rw [hz.2]; rfl) k)
theorem e_Vv5 {q q1 : zMI} {j b : Nat} {x0 x1 x2 x3 x4 : Value} {L : List Value} {R : zV → zU → Prop} (o : zop mi pc = some (.invokevirtual j, 3)) (hq : zM[mi]? = some q) (hq1 : zM[j]? = some q1) (hc : zcv j q q1 [x0, x1, x2, x3, x4] st kc ks = true) (hz : q1.mc = 0 ∧ q1.ms = 0) (hr : zrcv ws b q1.cn = true) (hd : 1 ≤ d) (hl : zloc q1 [.ref b, x0, x1, x2, x3, x4] = L) (h : zEv sc j (d - 1) 0 L [] ws 0 0 (zPv R)) (k : ∀ v u, R v u → zEv sc mi d (pc + 3) ls st (zmk v u) kc ks Q) : zEv sc mi d pc ls (x4 :: x3 :: x2 :: x1 :: x0 :: .ref b :: st) ws kc ks Q :=
  e_V o hq hq1 hc hr hd rfl hl h (zaf_V (by rw [hz.1]; rfl) (by rw [hz.2]; rfl) k)
theorem e_Sv5 {q q1 : zMI} {j : Nat} {x0 x1 x2 x3 x4 : Value} {L : List Value} {R : zV → zU → Prop} (o : zop mi pc = some (.invokestatic j, 3)) (hq : zM[mi]? = some q) (hq1 : zM[j]? = some q1) (hc : zcs j q q1 [x0, x1, x2, x3, x4] st kc ks = true) (hz : q1.mc = 0 ∧ q1.ms = 0) (hd : 1 ≤ d) (hl : zloc q1 [x0, x1, x2, x3, x4] = L) (h : zEv sc j (d - 1) 0 L [] ws 0 0 (zPv R)) (k : ∀ v u, R v u → zEv sc mi d (pc + 3) ls st (zmk v u) kc ks Q) : zEv sc mi d pc ls (x4 :: x3 :: x2 :: x1 :: x0 :: st) ws kc ks Q :=
  e_S o hq hq1 hc hd rfl hl h (zaf_V (by rw [hz.1]; rfl) (by rw [hz.2]; rfl) k)
theorem e_Vi6 {q q1 : zMI} {j b : Nat} {x0 x1 x2 x3 x4 x5 : Value} {L : List Value} {R : Int32 → zV → zU → Prop} (o : zop mi pc = some (.invokevirtual j, 3)) (hq : zM[mi]? = some q) (hq1 : zM[j]? = some q1) (hc : zcv j q q1 [x0, x1, x2, x3, x4, x5] st kc ks = true) (hz : q1.mc = 0 ∧ q1.ms = 0) (hr : zrcv ws b q1.cn = true) (hd : 1 ≤ d) (hl : zloc q1 [.ref b, x0, x1, x2, x3, x4, x5] = L) (h : zEv sc j (d - 1) 0 L [] ws 0 0 (zPi R)) (k : ∀ x v u, R x v u → zEv sc mi d (pc + 3) ls (.int x :: st) (zmk v u) kc ks Q) : zEv sc mi d pc ls (x5 :: x4 :: x3 :: x2 :: x1 :: x0 :: .ref b :: st) ws kc ks Q :=
  e_V o hq hq1 hc hr hd rfl hl h (zaf_I (by rw [hz.1]; rfl) (by rw [hz.2]; rfl) k)
theorem e_Si6 {q q1 : zMI} {j : Nat} {x0 x1 x2 x3 x4 x5 : Value} {L : List Value} {R : Int32 → zV → zU → Prop} (o : zop mi pc = some (.invokestatic j, 3)) (hq : zM[mi]? = some q) (hq1 : zM[j]? = some q1) (hc : zcs j q q1 [x0, x1, x2, x3, x4, x5] st kc ks = true) (hz : q1.mc = 0 ∧ q1.ms = 0) (hd : 1 ≤ d) (hl : zloc q1 [x0, x1, x2, x3, x4, x5] = L) (h : zEv sc j (d - 1) 0 L [] ws 0 0 (zPi R)) (k : ∀ x v u, R x v u → zEv sc mi d (pc + 3) ls (.int x :: st) (zmk v u) kc ks Q) : zEv sc mi d pc ls (x5 :: x4 :: x3 :: x2 :: x1 :: x0 :: st) ws kc ks Q :=
  e_S o hq hq1 hc hd rfl hl h (zaf_I (by rw [hz.1]; rfl) (by rw [hz.2]; rfl) k)
theorem e_Vv6 {q q1 : zMI} {j b : Nat} {x0 x1 x2 x3 x4 x5 : Value} {L : List Value} {R : zV → zU → Prop} (o : zop mi pc = some (.invokevirtual j, 3)) (hq : zM[mi]? = some q) (hq1 : zM[j]? = some q1) (hc : zcv j q q1 [x0, x1, x2, x3, x4, x5] st kc ks = true) (hz : q1.mc = 0 ∧ q1.ms = 0) (hr : zrcv ws b q1.cn = true) (hd : 1 ≤ d) (hl : zloc q1 [.ref b, x0, x1, x2, x3, x4, x5] = L) (h : zEv sc j (d - 1) 0 L [] ws 0 0 (zPv R)) (k : ∀ v u, R v u → zEv sc mi d (pc + 3) ls st (zmk v u) kc ks Q) : zEv sc mi d pc ls (x5 :: x4 :: x3 :: x2 :: x1 :: x0 :: .ref b :: st) ws kc ks Q :=
  e_V o hq hq1 hc hr hd rfl hl h (zaf_V (by rw [hz.1]; rfl) (by rw [hz.2]; rfl) k)
theorem e_Sv6 {q q1 : zMI} {j : Nat} {x0 x1 x2 x3 x4 x5 : Value} {L : List Value} {R : zV → zU → Prop} (o : zop mi pc = some (.invokestatic j, 3)) (hq : zM[mi]? = some q) (hq1 : zM[j]? = some q1) (hc : zcs j q q1 [x0, x1, x2, x3, x4, x5] st kc ks = true) (hz : q1.mc = 0 ∧ q1.ms = 0) (hd : 1 ≤ d) (hl : zloc q1 [x0, x1, x2, x3, x4, x5] = L) (h : zEv sc j (d - 1) 0 L [] ws 0 0 (zPv R)) (k : ∀ v u, R v u → zEv sc mi d (pc + 3) ls st (zmk v u) kc ks Q) : zEv sc mi d pc ls (x5 :: x4 :: x3 :: x2 :: x1 :: x0 :: st) ws kc ks Q :=
  e_S o hq hq1 hc hd rfl hl h (zaf_V (by rw [hz.1]; rfl) (by rw [hz.2]; rfl) k)
end
theorem K0 : zM[0]? = some zm0 := rfl
theorem K1 : zM[1]? = some zm1 := rfl
theorem K2 : zM[2]? = some zm2 := rfl
theorem K3 : zM[3]? = some zm3 := rfl
theorem K4 : zM[4]? = some zm4 := rfl
theorem K5 : zM[5]? = some zm5 := rfl
theorem K6 : zM[6]? = some zm6 := rfl
theorem K7 : zM[7]? = some zm7 := rfl
theorem K8 : zM[8]? = some zm8 := rfl
theorem K9 : zM[9]? = some zm9 := rfl
theorem K10 : zM[10]? = some zm10 := rfl
theorem K11 : zM[11]? = some zm11 := rfl
theorem K12 : zM[12]? = some zm12 := rfl
theorem K13 : zM[13]? = some zm13 := rfl
theorem K14 : zM[14]? = some zm14 := rfl
theorem K15 : zM[15]? = some zm15 := rfl
theorem K16 : zM[16]? = some zm16 := rfl
theorem K17 : zM[17]? = some zm17 := rfl
theorem K18 : zM[18]? = some zm18 := rfl
theorem K19 : zM[19]? = some zm19 := rfl
theorem K20 : zM[20]? = some zm20 := rfl
theorem K21 : zM[21]? = some zm21 := rfl
theorem K22 : zM[22]? = some zm22 := rfl
theorem K23 : zM[23]? = some zm23 := rfl
theorem K24 : zM[24]? = some zm24 := rfl
theorem K25 : zM[25]? = some zm25 := rfl
theorem K26 : zM[26]? = some zm26 := rfl
theorem K27 : zM[27]? = some zm27 := rfl
theorem K28 : zM[28]? = some zm28 := rfl
theorem K29 : zM[29]? = some zm29 := rfl
theorem K30 : zM[30]? = some zm30 := rfl
theorem K31 : zM[31]? = some zm31 := rfl
theorem K32 : zM[32]? = some zm32 := rfl
theorem K33 : zM[33]? = some zm33 := rfl
theorem K34 : zM[34]? = some zm34 := rfl
theorem K35 : zM[35]? = some zm35 := rfl
theorem K36 : zM[36]? = some zm36 := rfl
theorem K37 : zM[37]? = some zm37 := rfl
theorem K38 : zM[38]? = some zm38 := rfl
theorem K39 : zM[39]? = some zm39 := rfl
theorem K40 : zM[40]? = some zm40 := rfl
theorem K41 : zM[41]? = some zm41 := rfl
theorem K42 : zM[42]? = some zm42 := rfl
theorem K43 : zM[43]? = some zm43 := rfl
theorem K44 : zM[44]? = some zm44 := rfl
theorem K45 : zM[45]? = some zm45 := rfl
theorem K46 : zM[46]? = some zm46 := rfl
theorem K47 : zM[47]? = some zm47 := rfl
theorem K48 : zM[48]? = some zm48 := rfl
theorem K49 : zM[49]? = some zm49 := rfl
theorem K50 : zM[50]? = some zm50 := rfl
theorem K51 : zM[51]? = some zm51 := rfl
theorem K52 : zM[52]? = some zm52 := rfl
theorem K53 : zM[53]? = some zm53 := rfl
theorem K54 : zM[54]? = some zm54 := rfl
theorem K55 : zM[55]? = some zm55 := rfl
theorem K56 : zM[56]? = some zm56 := rfl
theorem K57 : zM[57]? = some zm57 := rfl
theorem K58 : zM[58]? = some zm58 := rfl
theorem K59 : zM[59]? = some zm59 := rfl
theorem K60 : zM[60]? = some zm60 := rfl
theorem K61 : zM[61]? = some zm61 := rfl
theorem K62 : zM[62]? = some zm62 := rfl
theorem K63 : zM[63]? = some zm63 := rfl
theorem K64 : zM[64]? = some zm64 := rfl
theorem K65 : zM[65]? = some zm65 := rfl
theorem K66 : zM[66]? = some zm66 := rfl
theorem K67 : zM[67]? = some zm67 := rfl
theorem K68 : zM[68]? = some zm68 := rfl
theorem K69 : zM[69]? = some zm69 := rfl
theorem K70 : zM[70]? = some zm70 := rfl
theorem K71 : zM[71]? = some zm71 := rfl
theorem K72 : zM[72]? = some zm72 := rfl
theorem K73 : zM[73]? = some zm73 := rfl
theorem K74 : zM[74]? = some zm74 := rfl
theorem K75 : zM[75]? = some zm75 := rfl
theorem K76 : zM[76]? = some zm76 := rfl
theorem K77 : zM[77]? = some zm77 := rfl
theorem K78 : zM[78]? = some zm78 := rfl
theorem K79 : zM[79]? = some zm79 := rfl
theorem K80 : zM[80]? = some zm80 := rfl
theorem K81 : zM[81]? = some zm81 := rfl
theorem K82 : zM[82]? = some zm82 := rfl
theorem K83 : zM[83]? = some zm83 := rfl
theorem K84 : zM[84]? = some zm84 := rfl
theorem K85 : zM[85]? = some zm85 := rfl
theorem K86 : zM[86]? = some zm86 := rfl
theorem K87 : zM[87]? = some zm87 := rfl
theorem K88 : zM[88]? = some zm88 := rfl
theorem K89 : zM[89]? = some zm89 := rfl
theorem K90 : zM[90]? = some zm90 := rfl
theorem K91 : zM[91]? = some zm91 := rfl
theorem K92 : zM[92]? = some zm92 := rfl
theorem K93 : zM[93]? = some zm93 := rfl
theorem K94 : zM[94]? = some zm94 := rfl
theorem K95 : zM[95]? = some zm95 := rfl
theorem K96 : zM[96]? = some zm96 := rfl
theorem K97 : zM[97]? = some zm97 := rfl
theorem K98 : zM[98]? = some zm98 := rfl
theorem K99 : zM[99]? = some zm99 := rfl
theorem K100 : zM[100]? = some zm100 := rfl
theorem K101 : zM[101]? = some zm101 := rfl
theorem K102 : zM[102]? = some zm102 := rfl
theorem K103 : zM[103]? = some zm103 := rfl
theorem K104 : zM[104]? = some zm104 := rfl
theorem K105 : zM[105]? = some zm105 := rfl
theorem K106 : zM[106]? = some zm106 := rfl
theorem K107 : zM[107]? = some zm107 := rfl
theorem K108 : zM[108]? = some zm108 := rfl
theorem K109 : zM[109]? = some zm109 := rfl
theorem K110 : zM[110]? = some zm110 := rfl
theorem K111 : zM[111]? = some zm111 := rfl
theorem K112 : zM[112]? = some zm112 := rfl
theorem K113 : zM[113]? = some zm113 := rfl
theorem K114 : zM[114]? = some zm114 := rfl
theorem K115 : zM[115]? = some zm115 := rfl
theorem K116 : zM[116]? = some zm116 := rfl
theorem K117 : zM[117]? = some zm117 := rfl
theorem K118 : zM[118]? = some zm118 := rfl
theorem K119 : zM[119]? = some zm119 := rfl
theorem K120 : zM[120]? = some zm120 := rfl
theorem K121 : zM[121]? = some zm121 := rfl
theorem K122 : zM[122]? = some zm122 := rfl
theorem K123 : zM[123]? = some zm123 := rfl
theorem K124 : zM[124]? = some zm124 := rfl
theorem K125 : zM[125]? = some zm125 := rfl
theorem K126 : zM[126]? = some zm126 := rfl
theorem K127 : zM[127]? = some zm127 := rfl
theorem K128 : zM[128]? = some zm128 := rfl
theorem K129 : zM[129]? = some zm129 := rfl
theorem K130 : zM[130]? = some zm130 := rfl
theorem K131 : zM[131]? = some zm131 := rfl
theorem K132 : zM[132]? = some zm132 := rfl
theorem K133 : zM[133]? = some zm133 := rfl
theorem K134 : zM[134]? = some zm134 := rfl
theorem K135 : zM[135]? = some zm135 := rfl
theorem K136 : zM[136]? = some zm136 := rfl
theorem K137 : zM[137]? = some zm137 := rfl
theorem K138 : zM[138]? = some zm138 := rfl
theorem K139 : zM[139]? = some zm139 := rfl
theorem K140 : zM[140]? = some zm140 := rfl
theorem K141 : zM[141]? = some zm141 := rfl
theorem K142 : zM[142]? = some zm142 := rfl
theorem K143 : zM[143]? = some zm143 := rfl
theorem K144 : zM[144]? = some zm144 := rfl
theorem K145 : zM[145]? = some zm145 := rfl
theorem K146 : zM[146]? = some zm146 := rfl
theorem K147 : zM[147]? = some zm147 := rfl
theorem K148 : zM[148]? = some zm148 := rfl
theorem K149 : zM[149]? = some zm149 := rfl
theorem K150 : zM[150]? = some zm150 := rfl
theorem K151 : zM[151]? = some zm151 := rfl
theorem K152 : zM[152]? = some zm152 := rfl
theorem K153 : zM[153]? = some zm153 := rfl
theorem K154 : zM[154]? = some zm154 := rfl
theorem K155 : zM[155]? = some zm155 := rfl
theorem K156 : zM[156]? = some zm156 := rfl
theorem K157 : zM[157]? = some zm157 := rfl
theorem K158 : zM[158]? = some zm158 := rfl
theorem K159 : zM[159]? = some zm159 := rfl
theorem K160 : zM[160]? = some zm160 := rfl
theorem K161 : zM[161]? = some zm161 := rfl
theorem K162 : zM[162]? = some zm162 := rfl
theorem K163 : zM[163]? = some zm163 := rfl
theorem K164 : zM[164]? = some zm164 := rfl
theorem K165 : zM[165]? = some zm165 := rfl
theorem K166 : zM[166]? = some zm166 := rfl
theorem K167 : zM[167]? = some zm167 := rfl
theorem K168 : zM[168]? = some zm168 := rfl
theorem K169 : zM[169]? = some zm169 := rfl
theorem K170 : zM[170]? = some zm170 := rfl
theorem K171 : zM[171]? = some zm171 := rfl
theorem K172 : zM[172]? = some zm172 := rfl
theorem K173 : zM[173]? = some zm173 := rfl
theorem K174 : zM[174]? = some zm174 := rfl
theorem K175 : zM[175]? = some zm175 := rfl
theorem K176 : zM[176]? = some zm176 := rfl
theorem K177 : zM[177]? = some zm177 := rfl
theorem K178 : zM[178]? = some zm178 := rfl
theorem K179 : zM[179]? = some zm179 := rfl
theorem K180 : zM[180]? = some zm180 := rfl
theorem K181 : zM[181]? = some zm181 := rfl
theorem K182 : zM[182]? = some zm182 := rfl
theorem K183 : zM[183]? = some zm183 := rfl
theorem K184 : zM[184]? = some zm184 := rfl
theorem K185 : zM[185]? = some zm185 := rfl
theorem K186 : zM[186]? = some zm186 := rfl
theorem K187 : zM[187]? = some zm187 := rfl
theorem K188 : zM[188]? = some zm188 := rfl
theorem K189 : zM[189]? = some zm189 := rfl
theorem K190 : zM[190]? = some zm190 := rfl
theorem K191 : zM[191]? = some zm191 := rfl
theorem K192 : zM[192]? = some zm192 := rfl
theorem K193 : zM[193]? = some zm193 := rfl
theorem K194 : zM[194]? = some zm194 := rfl
theorem K195 : zM[195]? = some zm195 := rfl
theorem K196 : zM[196]? = some zm196 := rfl
theorem K197 : zM[197]? = some zm197 := rfl
theorem K198 : zM[198]? = some zm198 := rfl
theorem K199 : zM[199]? = some zm199 := rfl
theorem K200 : zM[200]? = some zm200 := rfl
theorem K201 : zM[201]? = some zm201 := rfl
theorem K202 : zM[202]? = some zm202 := rfl
theorem K203 : zM[203]? = some zm203 := rfl
theorem K204 : zM[204]? = some zm204 := rfl
theorem K205 : zM[205]? = some zm205 := rfl
theorem K206 : zM[206]? = some zm206 := rfl
theorem K207 : zM[207]? = some zm207 := rfl
theorem K208 : zM[208]? = some zm208 := rfl
theorem K209 : zM[209]? = some zm209 := rfl
theorem K210 : zM[210]? = some zm210 := rfl
theorem K211 : zM[211]? = some zm211 := rfl
theorem K212 : zM[212]? = some zm212 := rfl
theorem K213 : zM[213]? = some zm213 := rfl
theorem K214 : zM[214]? = some zm214 := rfl
theorem K215 : zM[215]? = some zm215 := rfl
theorem K216 : zM[216]? = some zm216 := rfl
theorem K217 : zM[217]? = some zm217 := rfl
theorem K218 : zM[218]? = some zm218 := rfl
theorem K219 : zM[219]? = some zm219 := rfl
theorem K220 : zM[220]? = some zm220 := rfl
theorem K221 : zM[221]? = some zm221 := rfl
theorem K222 : zM[222]? = some zm222 := rfl
theorem K223 : zM[223]? = some zm223 := rfl
theorem K224 : zM[224]? = some zm224 := rfl
theorem K225 : zM[225]? = some zm225 := rfl
theorem K226 : zM[226]? = some zm226 := rfl
theorem K227 : zM[227]? = some zm227 := rfl
theorem K228 : zM[228]? = some zm228 := rfl
theorem K229 : zM[229]? = some zm229 := rfl
theorem K230 : zM[230]? = some zm230 := rfl
theorem K231 : zM[231]? = some zm231 := rfl
theorem K232 : zM[232]? = some zm232 := rfl
theorem K233 : zM[233]? = some zm233 := rfl
theorem K234 : zM[234]? = some zm234 := rfl
