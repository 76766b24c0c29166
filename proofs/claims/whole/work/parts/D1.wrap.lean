/-! the law's wrappers -/
section
variable {sc : Nat × (Nat → Int32)} {d : Nat} {v : zV} {u : zU}
theorem zaf_H {q q1 : zMI} {mi pc kc ks : Nat} {ls rest : List Value} {Q : zPost} {R : Int32 → zV → zU → Prop} {T : Nat → zV → zU → Prop} {kc' ks' : Nat} (hk : kc + q1.mc = kc') (hs : ks + q1.ms = ks') (k : ∀ x v u, R x v u → zEv sc mi d (pc + 3) ls (.int x :: rest) (zmk v u) kc' ks' Q) (kt : ∀ e v u, e < 2 → T e v u → ∃ h, zhd q pc e q.hh = some h ∧ zEv sc mi d h ls [zJ] (zmk v u) kc' ks' Q) : zafter (zEv sc) q q1 mi d pc 3 ls rest kc ks Q (zPt R T) := by
  subst hk hs
  refine ⟨?_, ?_⟩
  · rintro r ws1 ⟨w, t, rfl, ⟨x, hx, hR⟩ | ⟨e, he, _⟩⟩
    · injection hx with hx
      subst hx
      exact k x w t hR
    · exact absurd he (by simp)
  · rintro e ws1 ⟨w, t, rfl, ⟨x, hx, hR⟩ | ⟨e', he, h2, hT⟩⟩
    · exact absurd hx (by simp)
    · injection he with he
      subst he
      obtain ⟨h, h1, h3⟩ := kt e w t h2 hT
      refine ⟨h2, ?_⟩
      rw [h1]
      exact h3

theorem w209 {R : Int32 → zV → zU → Prop} {T : Nat → zV → zU → Prop} {p0 : Int32} (hd : 1 ≤ d) (h : zEv sc 106 (d - 1) 0 (zloc zm106 [.ref 0, .int p0]) [] (zmk v u) 0 0 (zPt R T)) (hT : ∀ e w t, T e w t → e = 1) : zEv sc 209 d 0 [.ref 0, .int p0, .ref 118, zJ] [] (zmk v u) 0 0 (zPi fun y w t => (∃ x t0, R x w t0 ∧ zul t0 118 0 x.toInt64 = t ∧ zI 0 = y) ∨ (∃ e : Nat, e < 2 ∧ T e w t ∧ zI 1 = y)) := by
  refine e_al2 o209_0 (e_ico o209_1 (e_al0 o209_2 (e_il1 o209_3 ?_)))
  refine e_V (as := [.int p0]) o209_4 K209 K106 rfl (zrcv_I L0 rfl) hd rfl rfl h (zaf_H rfl rfl ?_ ?_)
  · intro x w t hR
    refine e_i2l o209_7 (e_last o209_8 L118 (by omega) (by omega) (e_goto o209_9 15 rfl (e_ico o209_15 (e_rI o209_16 K209 rfl rfl ?_))))
    exact Or.inl ⟨x, t, hR, rfl, rfl⟩
  · intro e w t he hT'
    have z := hT e w t hT'
    subst z
    refine ⟨12, by decide, ?_⟩
    refine e_nx o209_12 (fun q => rfl) (e_ico o209_13 (e_rI o209_14 K209 rfl rfl ?_))
    exact Or.inr ⟨_, by omega, hT', rfl⟩

theorem w210 {R : Int32 → zV → zU → Prop} {T : Nat → zV → zU → Prop} {p0 : Int32} (hd : 1 ≤ d) (h : zEv sc 107 (d - 1) 0 (zloc zm107 [.ref 0, .int p0]) [] (zmk v u) 0 0 (zPt R T)) (hT : ∀ e w t, T e w t → e = 0) : zEv sc 210 d 0 [.ref 0, .int p0, .ref 118, zJ] [] (zmk v u) 0 0 (zPi fun y w t => (∃ x t0, R x w t0 ∧ zul t0 118 0 x.toInt64 = t ∧ zI 0 = y) ∨ (∃ e : Nat, e < 2 ∧ T e w t ∧ zI 1 = y)) := by
  refine e_al2 o210_0 (e_ico o210_1 (e_al0 o210_2 (e_il1 o210_3 ?_)))
  refine e_V (as := [.int p0]) o210_4 K210 K107 rfl (zrcv_I L0 rfl) hd rfl rfl h (zaf_H rfl rfl ?_ ?_)
  · intro x w t hR
    refine e_i2l o210_7 (e_last o210_8 L118 (by omega) (by omega) (e_goto o210_9 15 rfl (e_ico o210_15 (e_rI o210_16 K210 rfl rfl ?_))))
    exact Or.inl ⟨x, t, hR, rfl, rfl⟩
  · intro e w t he hT'
    have z := hT e w t hT'
    subst z
    refine ⟨12, by decide, ?_⟩
    refine e_nx o210_12 (fun q => rfl) (e_ico o210_13 (e_rI o210_14 K210 rfl rfl ?_))
    exact Or.inr ⟨_, by omega, hT', rfl⟩

theorem w211 {R : Int32 → zV → zU → Prop} {T : Nat → zV → zU → Prop} {p0 p1 : Int32} (hd : 1 ≤ d) (h : zEv sc 108 (d - 1) 0 (zloc zm108 [.ref 0, .int p0, .int p1]) [] (zmk v u) 0 0 (zPt R T)) (hT : ∀ e w t, T e w t → e = 0) : zEv sc 211 d 0 [.ref 0, .int p0, .int p1, .ref 118, zJ] [] (zmk v u) 0 0 (zPi fun y w t => (∃ x t0, R x w t0 ∧ zul t0 118 0 x.toInt64 = t ∧ zI 0 = y) ∨ (∃ e : Nat, e < 2 ∧ T e w t ∧ zI 1 = y)) := by
  refine e_al3 o211_0 (e_ico o211_1 (e_al0 o211_2 (e_il1 o211_3 (e_il2 o211_4 ?_))))
  refine e_V (as := [.int p0, .int p1]) o211_5 K211 K108 rfl (zrcv_I L0 rfl) hd rfl rfl h (zaf_H rfl rfl ?_ ?_)
  · intro x w t hR
    refine e_i2l o211_8 (e_last o211_9 L118 (by omega) (by omega) (e_goto o211_10 17 rfl (e_ico o211_17 (e_rI o211_18 K211 rfl rfl ?_))))
    exact Or.inl ⟨x, t, hR, rfl, rfl⟩
  · intro e w t he hT'
    have z := hT e w t hT'
    subst z
    refine ⟨13, by decide, ?_⟩
    refine e_nx o211_13 (fun q => rfl) (e_ico o211_15 (e_rI o211_16 K211 rfl rfl ?_))
    exact Or.inr ⟨_, by omega, hT', rfl⟩

theorem w212 {R : Int32 → zV → zU → Prop} {T : Nat → zV → zU → Prop} {p0 p1 : Int32} (hd : 1 ≤ d) (h : zEv sc 110 (d - 1) 0 (zloc zm110 [.ref 0, .int p0, .int p1]) [] (zmk v u) 0 0 (zPt R T)) (hT : ∀ e w t, T e w t → e = 0) : zEv sc 212 d 0 [.ref 0, .int p0, .int p1, .ref 118, zJ] [] (zmk v u) 0 0 (zPi fun y w t => (∃ x t0, R x w t0 ∧ zul t0 118 0 x.toInt64 = t ∧ zI 0 = y) ∨ (∃ e : Nat, e < 2 ∧ T e w t ∧ zI 1 = y)) := by
  refine e_al3 o212_0 (e_ico o212_1 (e_al0 o212_2 (e_il1 o212_3 (e_il2 o212_4 ?_))))
  refine e_V (as := [.int p0, .int p1]) o212_5 K212 K110 rfl (zrcv_I L0 rfl) hd rfl rfl h (zaf_H rfl rfl ?_ ?_)
  · intro x w t hR
    refine e_i2l o212_8 (e_last o212_9 L118 (by omega) (by omega) (e_goto o212_10 17 rfl (e_ico o212_17 (e_rI o212_18 K212 rfl rfl ?_))))
    exact Or.inl ⟨x, t, hR, rfl, rfl⟩
  · intro e w t he hT'
    have z := hT e w t hT'
    subst z
    refine ⟨13, by decide, ?_⟩
    refine e_nx o212_13 (fun q => rfl) (e_ico o212_15 (e_rI o212_16 K212 rfl rfl ?_))
    exact Or.inr ⟨_, by omega, hT', rfl⟩

theorem w213 {R : Int32 → zV → zU → Prop} {T : Nat → zV → zU → Prop} {p0 p1 : Int32} (hd : 1 ≤ d) (h : zEv sc 112 (d - 1) 0 (zloc zm112 [.ref 0, .int p0, .int p1]) [] (zmk v u) 0 0 (zPt R T)) (hT : ∀ e w t, T e w t → e = 0) : zEv sc 213 d 0 [.ref 0, .int p0, .int p1, .ref 118, zJ] [] (zmk v u) 0 0 (zPi fun y w t => (∃ x t0, R x w t0 ∧ zul t0 118 0 x.toInt64 = t ∧ zI 0 = y) ∨ (∃ e : Nat, e < 2 ∧ T e w t ∧ zI 1 = y)) := by
  refine e_al3 o213_0 (e_ico o213_1 (e_al0 o213_2 (e_il1 o213_3 (e_il2 o213_4 ?_))))
  refine e_V (as := [.int p0, .int p1]) o213_5 K213 K112 rfl (zrcv_I L0 rfl) hd rfl rfl h (zaf_H rfl rfl ?_ ?_)
  · intro x w t hR
    refine e_i2l o213_8 (e_last o213_9 L118 (by omega) (by omega) (e_goto o213_10 17 rfl (e_ico o213_17 (e_rI o213_18 K213 rfl rfl ?_))))
    exact Or.inl ⟨x, t, hR, rfl, rfl⟩
  · intro e w t he hT'
    have z := hT e w t hT'
    subst z
    refine ⟨13, by decide, ?_⟩
    refine e_nx o213_13 (fun q => rfl) (e_ico o213_15 (e_rI o213_16 K213 rfl rfl ?_))
    exact Or.inr ⟨_, by omega, hT', rfl⟩

theorem w214 {R : Int32 → zV → zU → Prop} {T : Nat → zV → zU → Prop} {p0 p1 : Int32} (hd : 1 ≤ d) (h : zEv sc 113 (d - 1) 0 (zloc zm113 [.ref 0, .int p0, .int p1]) [] (zmk v u) 0 0 (zPt R T)) (hT : ∀ e w t, T e w t → e = 0) : zEv sc 214 d 0 [.ref 0, .int p0, .int p1, .ref 118, zJ] [] (zmk v u) 0 0 (zPi fun y w t => (∃ x t0, R x w t0 ∧ zul t0 118 0 x.toInt64 = t ∧ zI 0 = y) ∨ (∃ e : Nat, e < 2 ∧ T e w t ∧ zI 1 = y)) := by
  refine e_al3 o214_0 (e_ico o214_1 (e_al0 o214_2 (e_il1 o214_3 (e_il2 o214_4 ?_))))
  refine e_V (as := [.int p0, .int p1]) o214_5 K214 K113 rfl (zrcv_I L0 rfl) hd rfl rfl h (zaf_H rfl rfl ?_ ?_)
  · intro x w t hR
    refine e_i2l o214_8 (e_last o214_9 L118 (by omega) (by omega) (e_goto o214_10 17 rfl (e_ico o214_17 (e_rI o214_18 K214 rfl rfl ?_))))
    exact Or.inl ⟨x, t, hR, rfl, rfl⟩
  · intro e w t he hT'
    have z := hT e w t hT'
    subst z
    refine ⟨13, by decide, ?_⟩
    refine e_nx o214_13 (fun q => rfl) (e_ico o214_15 (e_rI o214_16 K214 rfl rfl ?_))
    exact Or.inr ⟨_, by omega, hT', rfl⟩

theorem w215 {R : Int32 → zV → zU → Prop} {T : Nat → zV → zU → Prop} {p0 p1 p2 : Int32} (hd : 1 ≤ d) (h : zEv sc 115 (d - 1) 0 (zloc zm115 [.ref 0, .int p0, .int p1, .int p2]) [] (zmk v u) 0 0 (zPt R T)) (hT : ∀ e w t, T e w t → e = 0) : zEv sc 215 d 0 [.ref 0, .int p0, .int p1, .int p2, .ref 118, zJ] [] (zmk v u) 0 0 (zPi fun y w t => (∃ x t0, R x w t0 ∧ zul t0 118 0 x.toInt64 = t ∧ zI 0 = y) ∨ (∃ e : Nat, e < 2 ∧ T e w t ∧ zI 1 = y)) := by
  refine e_al4 o215_0 (e_ico o215_2 (e_al0 o215_3 (e_il1 o215_4 (e_il2 o215_5 (e_il3 o215_6 ?_)))))
  refine e_V (as := [.int p0, .int p1, .int p2]) o215_7 K215 K115 rfl (zrcv_I L0 rfl) hd rfl rfl h (zaf_H rfl rfl ?_ ?_)
  · intro x w t hR
    refine e_i2l o215_10 (e_last o215_11 L118 (by omega) (by omega) (e_goto o215_12 19 rfl (e_ico o215_19 (e_rI o215_20 K215 rfl rfl ?_))))
    exact Or.inl ⟨x, t, hR, rfl, rfl⟩
  · intro e w t he hT'
    have z := hT e w t hT'
    subst z
    refine ⟨15, by decide, ?_⟩
    refine e_nx o215_15 (fun q => rfl) (e_ico o215_17 (e_rI o215_18 K215 rfl rfl ?_))
    exact Or.inr ⟨_, by omega, hT', rfl⟩

theorem w216 {R : Int32 → zV → zU → Prop} {T : Nat → zV → zU → Prop} {p0 p1 : Int32} (hd : 1 ≤ d) (h : zEv sc 116 (d - 1) 0 (zloc zm116 [.ref 0, .int p0, .int p1]) [] (zmk v u) 0 0 (zPt R T)) (hT : ∀ e w t, T e w t → e = 0) : zEv sc 216 d 0 [.ref 0, .int p0, .int p1, .ref 118, zJ] [] (zmk v u) 0 0 (zPi fun y w t => (∃ x t0, R x w t0 ∧ zul t0 118 0 x.toInt64 = t ∧ zI 0 = y) ∨ (∃ e : Nat, e < 2 ∧ T e w t ∧ zI 1 = y)) := by
  refine e_al3 o216_0 (e_ico o216_1 (e_al0 o216_2 (e_il1 o216_3 (e_il2 o216_4 ?_))))
  refine e_V (as := [.int p0, .int p1]) o216_5 K216 K116 rfl (zrcv_I L0 rfl) hd rfl rfl h (zaf_H rfl rfl ?_ ?_)
  · intro x w t hR
    refine e_i2l o216_8 (e_last o216_9 L118 (by omega) (by omega) (e_goto o216_10 17 rfl (e_ico o216_17 (e_rI o216_18 K216 rfl rfl ?_))))
    exact Or.inl ⟨x, t, hR, rfl, rfl⟩
  · intro e w t he hT'
    have z := hT e w t hT'
    subst z
    refine ⟨13, by decide, ?_⟩
    refine e_nx o216_13 (fun q => rfl) (e_ico o216_15 (e_rI o216_16 K216 rfl rfl ?_))
    exact Or.inr ⟨_, by omega, hT', rfl⟩

theorem w217 {R : Int32 → zV → zU → Prop} {T : Nat → zV → zU → Prop} {p0 p1 : Int32} (hd : 1 ≤ d) (h : zEv sc 118 (d - 1) 0 (zloc zm118 [.ref 0, .int p0, .int p1]) [] (zmk v u) 0 0 (zPt R T)) (hT : ∀ e w t, T e w t → e = 0) : zEv sc 217 d 0 [.ref 0, .int p0, .int p1, .ref 118, zJ] [] (zmk v u) 0 0 (zPi fun y w t => (∃ x t0, R x w t0 ∧ zul t0 118 0 x.toInt64 = t ∧ zI 0 = y) ∨ (∃ e : Nat, e < 2 ∧ T e w t ∧ zI 1 = y)) := by
  refine e_al3 o217_0 (e_ico o217_1 (e_al0 o217_2 (e_il1 o217_3 (e_il2 o217_4 ?_))))
  refine e_V (as := [.int p0, .int p1]) o217_5 K217 K118 rfl (zrcv_I L0 rfl) hd rfl rfl h (zaf_H rfl rfl ?_ ?_)
  · intro x w t hR
    refine e_i2l o217_8 (e_last o217_9 L118 (by omega) (by omega) (e_goto o217_10 17 rfl (e_ico o217_17 (e_rI o217_18 K217 rfl rfl ?_))))
    exact Or.inl ⟨x, t, hR, rfl, rfl⟩
  · intro e w t he hT'
    have z := hT e w t hT'
    subst z
    refine ⟨13, by decide, ?_⟩
    refine e_nx o217_13 (fun q => rfl) (e_ico o217_15 (e_rI o217_16 K217 rfl rfl ?_))
    exact Or.inr ⟨_, by omega, hT', rfl⟩

theorem w218 {R : Int32 → zV → zU → Prop} {T : Nat → zV → zU → Prop} {p0 p1 : Int32} (hd : 1 ≤ d) (h : zEv sc 119 (d - 1) 0 (zloc zm119 [.ref 0, .int p0, .int p1]) [] (zmk v u) 0 0 (zPt R T)) (hT : ∀ e w t, T e w t → e = 0) : zEv sc 218 d 0 [.ref 0, .int p0, .int p1, .ref 118, zJ] [] (zmk v u) 0 0 (zPi fun y w t => (∃ x t0, R x w t0 ∧ zul t0 118 0 x.toInt64 = t ∧ zI 0 = y) ∨ (∃ e : Nat, e < 2 ∧ T e w t ∧ zI 1 = y)) := by
  refine e_al3 o218_0 (e_ico o218_1 (e_al0 o218_2 (e_il1 o218_3 (e_il2 o218_4 ?_))))
  refine e_V (as := [.int p0, .int p1]) o218_5 K218 K119 rfl (zrcv_I L0 rfl) hd rfl rfl h (zaf_H rfl rfl ?_ ?_)
  · intro x w t hR
    refine e_i2l o218_8 (e_last o218_9 L118 (by omega) (by omega) (e_goto o218_10 17 rfl (e_ico o218_17 (e_rI o218_18 K218 rfl rfl ?_))))
    exact Or.inl ⟨x, t, hR, rfl, rfl⟩
  · intro e w t he hT'
    have z := hT e w t hT'
    subst z
    refine ⟨13, by decide, ?_⟩
    refine e_nx o218_13 (fun q => rfl) (e_ico o218_15 (e_rI o218_16 K218 rfl rfl ?_))
    exact Or.inr ⟨_, by omega, hT', rfl⟩

theorem w219 {R : Int32 → zV → zU → Prop} {T : Nat → zV → zU → Prop} {p0 p1 : Int32} (hd : 1 ≤ d) (h : zEv sc 120 (d - 1) 0 (zloc zm120 [.ref 0, .int p0, .int p1]) [] (zmk v u) 0 0 (zPt R T)) (hT : ∀ e w t, T e w t → e = 0) : zEv sc 219 d 0 [.ref 0, .int p0, .int p1, .ref 118, zJ] [] (zmk v u) 0 0 (zPi fun y w t => (∃ x t0, R x w t0 ∧ zul t0 118 0 x.toInt64 = t ∧ zI 0 = y) ∨ (∃ e : Nat, e < 2 ∧ T e w t ∧ zI 1 = y)) := by
  refine e_al3 o219_0 (e_ico o219_1 (e_al0 o219_2 (e_il1 o219_3 (e_il2 o219_4 ?_))))
  refine e_V (as := [.int p0, .int p1]) o219_5 K219 K120 rfl (zrcv_I L0 rfl) hd rfl rfl h (zaf_H rfl rfl ?_ ?_)
  · intro x w t hR
    refine e_i2l o219_8 (e_last o219_9 L118 (by omega) (by omega) (e_goto o219_10 17 rfl (e_ico o219_17 (e_rI o219_18 K219 rfl rfl ?_))))
    exact Or.inl ⟨x, t, hR, rfl, rfl⟩
  · intro e w t he hT'
    have z := hT e w t hT'
    subst z
    refine ⟨13, by decide, ?_⟩
    refine e_nx o219_13 (fun q => rfl) (e_ico o219_15 (e_rI o219_16 K219 rfl rfl ?_))
    exact Or.inr ⟨_, by omega, hT', rfl⟩

theorem w220 {R : Int32 → zV → zU → Prop} {T : Nat → zV → zU → Prop} {p0 p1 : Int32} (hd : 1 ≤ d) (h : zEv sc 121 (d - 1) 0 (zloc zm121 [.ref 0, .int p0, .int p1]) [] (zmk v u) 0 0 (zPt R T)) (hT : ∀ e w t, T e w t → e = 0) : zEv sc 220 d 0 [.ref 0, .int p0, .int p1, .ref 118, zJ] [] (zmk v u) 0 0 (zPi fun y w t => (∃ x t0, R x w t0 ∧ zul t0 118 0 x.toInt64 = t ∧ zI 0 = y) ∨ (∃ e : Nat, e < 2 ∧ T e w t ∧ zI 1 = y)) := by
  refine e_al3 o220_0 (e_ico o220_1 (e_al0 o220_2 (e_il1 o220_3 (e_il2 o220_4 ?_))))
  refine e_V (as := [.int p0, .int p1]) o220_5 K220 K121 rfl (zrcv_I L0 rfl) hd rfl rfl h (zaf_H rfl rfl ?_ ?_)
  · intro x w t hR
    refine e_i2l o220_8 (e_last o220_9 L118 (by omega) (by omega) (e_goto o220_10 17 rfl (e_ico o220_17 (e_rI o220_18 K220 rfl rfl ?_))))
    exact Or.inl ⟨x, t, hR, rfl, rfl⟩
  · intro e w t he hT'
    have z := hT e w t hT'
    subst z
    refine ⟨13, by decide, ?_⟩
    refine e_nx o220_13 (fun q => rfl) (e_ico o220_15 (e_rI o220_16 K220 rfl rfl ?_))
    exact Or.inr ⟨_, by omega, hT', rfl⟩

theorem w221 {R : Int32 → zV → zU → Prop} {T : Nat → zV → zU → Prop} {p0 : Int32} (hd : 1 ≤ d) (h : zEv sc 122 (d - 1) 0 (zloc zm122 [.ref 0, .int p0]) [] (zmk v u) 0 0 (zPt R T)) (hT : ∀ e w t, T e w t → e = 0) : zEv sc 221 d 0 [.ref 0, .int p0, .ref 118, zJ] [] (zmk v u) 0 0 (zPi fun y w t => (∃ x t0, R x w t0 ∧ zul t0 118 0 x.toInt64 = t ∧ zI 0 = y) ∨ (∃ e : Nat, e < 2 ∧ T e w t ∧ zI 1 = y)) := by
  refine e_al2 o221_0 (e_ico o221_1 (e_al0 o221_2 (e_il1 o221_3 ?_)))
  refine e_V (as := [.int p0]) o221_4 K221 K122 rfl (zrcv_I L0 rfl) hd rfl rfl h (zaf_H rfl rfl ?_ ?_)
  · intro x w t hR
    refine e_i2l o221_7 (e_last o221_8 L118 (by omega) (by omega) (e_goto o221_9 15 rfl (e_ico o221_15 (e_rI o221_16 K221 rfl rfl ?_))))
    exact Or.inl ⟨x, t, hR, rfl, rfl⟩
  · intro e w t he hT'
    have z := hT e w t hT'
    subst z
    refine ⟨12, by decide, ?_⟩
    refine e_nx o221_12 (fun q => rfl) (e_ico o221_13 (e_rI o221_14 K221 rfl rfl ?_))
    exact Or.inr ⟨_, by omega, hT', rfl⟩

theorem w222 {R : Int32 → zV → zU → Prop} {T : Nat → zV → zU → Prop} {p0 p1 p2 : Int32} (hd : 1 ≤ d) (h : zEv sc 123 (d - 1) 0 (zloc zm123 [.ref 0, .int p0, .int p1, .int p2]) [] (zmk v u) 0 0 (zPt R T)) (hT : ∀ e w t, T e w t → e = 0) : zEv sc 222 d 0 [.ref 0, .int p0, .int p1, .int p2, .ref 118, zJ] [] (zmk v u) 0 0 (zPi fun y w t => (∃ x t0, R x w t0 ∧ zul t0 118 0 x.toInt64 = t ∧ zI 0 = y) ∨ (∃ e : Nat, e < 2 ∧ T e w t ∧ zI 1 = y)) := by
  refine e_al4 o222_0 (e_ico o222_2 (e_al0 o222_3 (e_il1 o222_4 (e_il2 o222_5 (e_il3 o222_6 ?_)))))
  refine e_V (as := [.int p0, .int p1, .int p2]) o222_7 K222 K123 rfl (zrcv_I L0 rfl) hd rfl rfl h (zaf_H rfl rfl ?_ ?_)
  · intro x w t hR
    refine e_i2l o222_10 (e_last o222_11 L118 (by omega) (by omega) (e_goto o222_12 19 rfl (e_ico o222_19 (e_rI o222_20 K222 rfl rfl ?_))))
    exact Or.inl ⟨x, t, hR, rfl, rfl⟩
  · intro e w t he hT'
    have z := hT e w t hT'
    subst z
    refine ⟨15, by decide, ?_⟩
    refine e_nx o222_15 (fun q => rfl) (e_ico o222_17 (e_rI o222_18 K222 rfl rfl ?_))
    exact Or.inr ⟨_, by omega, hT', rfl⟩

theorem w223 {R : Int32 → zV → zU → Prop} {T : Nat → zV → zU → Prop} {p0 : Int32} (hd : 1 ≤ d) (h : zEv sc 124 (d - 1) 0 (zloc zm124 [.ref 0, .int p0]) [] (zmk v u) 0 0 (zPt R T)) (hT : ∀ e w t, T e w t → e = 0) : zEv sc 223 d 0 [.ref 0, .int p0, .ref 118, zJ] [] (zmk v u) 0 0 (zPi fun y w t => (∃ x t0, R x w t0 ∧ zul t0 118 0 x.toInt64 = t ∧ zI 0 = y) ∨ (∃ e : Nat, e < 2 ∧ T e w t ∧ zI 1 = y)) := by
  refine e_al2 o223_0 (e_ico o223_1 (e_al0 o223_2 (e_il1 o223_3 ?_)))
  refine e_V (as := [.int p0]) o223_4 K223 K124 rfl (zrcv_I L0 rfl) hd rfl rfl h (zaf_H rfl rfl ?_ ?_)
  · intro x w t hR
    refine e_i2l o223_7 (e_last o223_8 L118 (by omega) (by omega) (e_goto o223_9 15 rfl (e_ico o223_15 (e_rI o223_16 K223 rfl rfl ?_))))
    exact Or.inl ⟨x, t, hR, rfl, rfl⟩
  · intro e w t he hT'
    have z := hT e w t hT'
    subst z
    refine ⟨12, by decide, ?_⟩
    refine e_nx o223_12 (fun q => rfl) (e_ico o223_13 (e_rI o223_14 K223 rfl rfl ?_))
    exact Or.inr ⟨_, by omega, hT', rfl⟩

theorem w224 {R : Int32 → zV → zU → Prop} {T : Nat → zV → zU → Prop} {p0 p1 p2 p3 p4 : Int32} (hd : 1 ≤ d) (h : zEv sc 125 (d - 1) 0 (zloc zm125 [.ref 0, .int p0, .int p1, .int p2, .int p3, .int p4]) [] (zmk v u) 0 0 (zPt R T)) : zEv sc 224 d 0 [.ref 0, .int p0, .int p1, .int p2, .int p3, .int p4, .ref 118, zJ] [] (zmk v u) 0 0 (zPi fun y w t => (∃ x t0, R x w t0 ∧ zul t0 118 0 x.toInt64 = t ∧ zI 0 = y) ∨ (∃ e : Nat, e < 2 ∧ T e w t ∧ zI (if e = 0 then 1 else 2) = y)) := by
  refine e_al6 o224_0 (e_ico o224_2 (e_al0 o224_3 (e_il1 o224_4 (e_il2 o224_5 (e_il3 o224_6 (e_il4 o224_7 (e_il5 o224_9 ?_)))))))
  refine e_V (as := [.int p0, .int p1, .int p2, .int p3, .int p4]) o224_11 K224 K125 rfl (zrcv_I L0 rfl) hd rfl rfl h (zaf_H rfl rfl ?_ ?_)
  · intro x w t hR
    refine e_i2l o224_14 (e_last o224_15 L118 (by omega) (by omega) (e_goto o224_16 27 rfl (e_ico o224_27 (e_rI o224_28 K224 rfl rfl ?_))))
    exact Or.inl ⟨x, t, hR, rfl, rfl⟩
  · intro e w t he hT
    rcases (show e = 0 ∨ e = 1 by omega) with z | z
    · subst z
      refine ⟨19, by decide, ?_⟩
      refine e_nx o224_19 (fun q => rfl) (e_ico o224_21 (e_rI o224_22 K224 rfl rfl ?_))
      exact Or.inr ⟨_, by omega, hT, rfl⟩
    · subst z
      refine ⟨23, by decide, ?_⟩
      refine e_nx o224_23 (fun q => rfl) (e_ico o224_25 (e_rI o224_26 K224 rfl rfl ?_))
      exact Or.inr ⟨_, by omega, hT, rfl⟩

theorem w225 {R : Int32 → zV → zU → Prop} {T : Nat → zV → zU → Prop} {p0 p1 p2 : Int32} (hd : 1 ≤ d) (h : zEv sc 128 (d - 1) 0 (zloc zm128 [.ref 0, .int p0, .int p1, .int p2]) [] (zmk v u) 0 0 (zPt R T)) : zEv sc 225 d 0 [.ref 0, .int p0, .int p1, .int p2, .ref 118, zJ] [] (zmk v u) 0 0 (zPi fun y w t => (∃ x t0, R x w t0 ∧ zul t0 118 0 x.toInt64 = t ∧ zI 0 = y) ∨ (∃ e : Nat, e < 2 ∧ T e w t ∧ zI (if e = 0 then 1 else 2) = y)) := by
  refine e_al4 o225_0 (e_ico o225_2 (e_al0 o225_3 (e_il1 o225_4 (e_il2 o225_5 (e_il3 o225_6 ?_)))))
  refine e_V (as := [.int p0, .int p1, .int p2]) o225_7 K225 K128 rfl (zrcv_I L0 rfl) hd rfl rfl h (zaf_H rfl rfl ?_ ?_)
  · intro x w t hR
    refine e_i2l o225_10 (e_last o225_11 L118 (by omega) (by omega) (e_goto o225_12 23 rfl (e_ico o225_23 (e_rI o225_24 K225 rfl rfl ?_))))
    exact Or.inl ⟨x, t, hR, rfl, rfl⟩
  · intro e w t he hT
    rcases (show e = 0 ∨ e = 1 by omega) with z | z
    · subst z
      refine ⟨15, by decide, ?_⟩
      refine e_nx o225_15 (fun q => rfl) (e_ico o225_17 (e_rI o225_18 K225 rfl rfl ?_))
      exact Or.inr ⟨_, by omega, hT, rfl⟩
    · subst z
      refine ⟨19, by decide, ?_⟩
      refine e_nx o225_19 (fun q => rfl) (e_ico o225_21 (e_rI o225_22 K225 rfl rfl ?_))
      exact Or.inr ⟨_, by omega, hT, rfl⟩

end
