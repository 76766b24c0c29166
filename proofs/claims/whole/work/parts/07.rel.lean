/-! the machine's values and cells beside the heap's -/
/-- a value here, a value there: ρ the addresses of the cells made here, ad of the others -/
def zvr (ad : Nat → Nat) (ρ : List Nat) (v v' : Value) : Prop := match v with
  | .ref k => ∃ a, v' = .ref a ∧ (if k < 1000 then ρ[k]? = some a else a = ad k)
  | .retAddr k => (∃ a, v' = .ref a) ∨ (k ≠ 0 ∧ v' = .null)
  | .null => v' = .null
  | .int x => v' = .int x
  | .long x => v' = .long x
  | _ => False
def zsr (ad : Nat → Nat) (ρ : List Nat) : List Value → List Value → Prop
  | [], [] => True
  | v :: s, v' :: s' => zvr ad ρ v v' ∧ zsr ad ρ s s'
  | _, _ => False
section ZR
variable {ad : Nat → Nat} {ρ : List Nat}
theorem zget_app {ρ r : List Nat} {k a : Nat} (h : ρ[k]? = some a) : (ρ ++ r)[k]? = some a := by
  rw [List.getElem?_append_left (List.getElem?_eq_some_iff.mp h).1]; exact h
theorem zvr_mono (r : List Nat) {v v' : Value} (h : zvr ad ρ v v') : zvr ad (ρ ++ r) v v' := by
  cases v with
  | ref k =>
    obtain ⟨a, h1, h2⟩ := h
    refine ⟨a, h1, ?_⟩
    split at h2
    · next hk => rw [if_pos hk]; exact zget_app h2
    · next hk => rw [if_neg hk]; exact h2
  | _ => exact h
theorem zvr_cat {v v' : Value} (h : zvr ad ρ v v') : v'.category = v.category := by
  cases v with
  | ref k => obtain ⟨a, rfl, -⟩ := h; rfl
  | retAddr k =>
    rcases h with ⟨a, rfl⟩ | ⟨-, rfl⟩ <;> rfl
  | null => cases h; rfl
  | int x => cases h; rfl
  | long x => cases h; rfl
  | float x => exact h.elim
  | double x => exact h.elim
theorem zsr_mono (r : List Nat) : ∀ {s s' : List Value}, zsr ad ρ s s' → zsr ad (ρ ++ r) s s'
  | [], [], _ => trivial
  | _ :: _, _ :: _, h => ⟨zvr_mono r h.1, zsr_mono r h.2⟩
  | [], _ :: _, h => h.elim
  | _ :: _, [], h => h.elim
theorem zsr_cons {v : Value} {s t : List Value} (h : zsr ad ρ (v :: s) t) : ∃ v' s', t = v' :: s' ∧ zvr ad ρ v v' ∧ zsr ad ρ s s' := by
  cases t with
  | nil => exact h.elim
  | cons v' s' => exact ⟨v', s', rfl, h.1, h.2⟩
theorem zsr_int {x : Int32} {s t : List Value} (h : zsr ad ρ (.int x :: s) t) : ∃ s', t = .int x :: s' ∧ zsr ad ρ s s' := by
  obtain ⟨v', s', rfl, h1, h2⟩ := zsr_cons h
  exact ⟨s', by rw [show v' = .int x from h1], h2⟩
theorem zsr_long {x : Int64} {s t : List Value} (h : zsr ad ρ (.long x :: s) t) : ∃ s', t = .long x :: s' ∧ zsr ad ρ s s' := by
  obtain ⟨v', s', rfl, h1, h2⟩ := zsr_cons h
  exact ⟨s', by rw [show v' = .long x from h1], h2⟩
theorem zsr_ref {k : Nat} {s t : List Value} (h : zsr ad ρ (.ref k :: s) t) : ∃ a s', t = .ref a :: s' ∧ (if k < 1000 then ρ[k]? = some a else a = ad k) ∧ zsr ad ρ s s' := by
  obtain ⟨v', s', rfl, ⟨a, h0, h1⟩, h2⟩ := zsr_cons h
  exact ⟨a, s', by rw [h0], h1, h2⟩
theorem zsr_nil {t : List Value} (h : zsr ad ρ [] t) : t = [] := by
  cases t with
  | nil => rfl
  | cons _ _ => exact h.elim
theorem zsr_len : ∀ {s s' : List Value}, zsr ad ρ s s' → s'.length = s.length
  | [], [], _ => rfl
  | _ :: _, _ :: _, h => by simp [zsr_len h.2]
  | [], _ :: _, h => h.elim
  | _ :: _, [], h => h.elim
theorem zsr_wd : ∀ {s s' : List Value}, zsr ad ρ s s' → (s'.map fun v => v.category).sum = zwd s
  | [], [], _ => rfl
  | _ :: _, _ :: _, h => by
    have h2 := zsr_wd h.2
    simp only [zwd] at h2
    simp only [zwd, List.map_cons, List.sum_cons, zvr_cat h.1, h2]
  | [], _ :: _, h => h.elim
  | _ :: _, [], h => h.elim
theorem zsr_app : ∀ {a b t : List Value}, zsr ad ρ (a ++ b) t → ∃ a' b', t = a' ++ b' ∧ zsr ad ρ a a' ∧ zsr ad ρ b b'
  | [], b, t, h => ⟨[], t, rfl, trivial, h⟩
  | v :: a, b, t, h => by
    obtain ⟨v', s', rfl, h1, h2⟩ := zsr_cons (s := a ++ b) h
    obtain ⟨a', b', rfl, h3, h4⟩ := zsr_app h2
    exact ⟨v' :: a', b', rfl, ⟨h1, h3⟩, h4⟩
theorem zsr_cat : ∀ {a a' b b' : List Value}, zsr ad ρ a a' → zsr ad ρ b b' → zsr ad ρ (a ++ b) (a' ++ b')
  | [], [], _, _, _, h => h
  | _ :: _, _ :: _, _, _, h, h2 => ⟨h.1, zsr_cat h.2 h2⟩
  | [], _ :: _, _, _, h, _ => h.elim
  | _ :: _, [], _, _, h, _ => h.elim
theorem zsr_rev : ∀ {a a' : List Value}, zsr ad ρ a a' → zsr ad ρ a.reverse a'.reverse
  | [], [], _ => trivial
  | v :: a, v' :: a', h => by
    rw [List.reverse_cons, List.reverse_cons]
    exact zsr_cat (zsr_rev h.2) ⟨h.1, trivial⟩
  | [], _ :: _, h => h.elim
  | _ :: _, [], h => h.elim
theorem zsr_at : ∀ {s s' : List Value} {k : Nat} {v : Value}, zsr ad ρ s s' → s[k]? = some v → ∃ v', s'[k]? = some v' ∧ zvr ad ρ v v'
  | v :: s, v' :: s', 0, w, h, hk => by
    simp at hk; subst hk
    exact ⟨v', by simp, h.1⟩
  | v :: s, v' :: s', k + 1, w, h, hk => by
    simp at hk
    obtain ⟨w', h1, h2⟩ := zsr_at h.2 hk
    exact ⟨w', by simpa using h1, h2⟩
  | [], _, _, _, _, hk => by simp at hk
  | _ :: _, [], _, _, h, _ => h.elim
theorem zsr_set : ∀ {s s' : List Value} (k : Nat) {v v' : Value}, zsr ad ρ s s' → zvr ad ρ v v' → zsr ad ρ (s.set k v) (s'.set k v')
  | [], [], _, _, _, _, _ => trivial
  | _ :: _, _ :: _, 0, _, _, h, hv => ⟨hv, h.2⟩
  | _ :: _, _ :: _, k + 1, _, _, h, hv => ⟨h.1, zsr_set k h.2 hv⟩
  | [], _ :: _, _, _, _, h, _ => h.elim
  | _ :: _, [], _, _, _, h, _ => h.elim
/-- the locals -/
def zlr (ad : Nat → Nat) (ρ : List Nat) (als : List Value) (ls : Array Slot) : Prop :=
  ∃ l : List (Nat × Value), lv_has ls als.length l ∧ (∀ q ∈ l, q.2.category = 1) ∧ ∀ i v, als[i]? = some v → (∃ k, v = .retAddr k) ∨ ∃ v', (i, v') ∈ l ∧ zvr ad ρ v v'
theorem zlr_mono (r : List Nat) {als : List Value} {ls : Array Slot} (h : zlr ad ρ als ls) : zlr ad (ρ ++ r) als ls := by
  obtain ⟨l, h1, h2, h3⟩ := h
  refine ⟨l, h1, h2, fun i v hv => ?_⟩
  rcases h3 i v hv with h | ⟨v', h4, h5⟩
  · exact Or.inl h
  · exact Or.inr ⟨v', h4, zvr_mono r h5⟩
theorem zlr_at {als : List Value} {ls : Array Slot} (h : zlr ad ρ als ls) {i : Nat} {v : Value} (hv : als[i]? = some v) (hj : ∀ k, v ≠ .retAddr k) : ∃ v', ls[i]? = some (.val v') ∧ zvr ad ρ v v' := by
  obtain ⟨l, h1, h2, h3⟩ := h
  rcases h3 i v hv with ⟨k, h⟩ | ⟨v', h4, h5⟩
  · exact absurd h (hj k)
  · exact ⟨v', h1.2.2 _ h4, h5⟩
theorem zlr_set {als : List Value} {l : List (Nat × Value)} (h2 : ∀ q ∈ l, q.2.category = 1) (h3 : ∀ i v, als[i]? = some v → (∃ k, v = .retAddr k) ∨ ∃ v', (i, v') ∈ l ∧ zvr ad ρ v v') {k : Nat} {v v' : Value} (hv : zvr ad ρ v v') (hc : v'.category = 1) {ls : Array Slot} (hl : lv_has ls als.length ((k, v') :: l.filter (fun q => !(q.1 == k) && !(q.1 + 1 == k && q.2.category == 2)))) : zlr ad ρ (als.set k v) ls := by
  refine ⟨_, by rw [List.length_set]; exact hl, ?_, ?_⟩
  · intro q hq
    rcases List.mem_cons.mp hq with rfl | hq
    · exact hc
    · exact h2 q (List.mem_filter.mp hq).1
  · intro i w hw
    by_cases hik : i = k
    · subst hik
      have hlt : i < als.length := by
        have := (List.getElem?_eq_some_iff.mp hw).1
        simpa using this
      rw [List.getElem?_set_self hlt] at hw
      cases hw
      exact Or.inr ⟨v', List.mem_cons_self, hv⟩
    · rw [List.getElem?_set_ne (Ne.symm hik)] at hw
      rcases h3 i w hw with h | ⟨w', h4, h5⟩
      · exact Or.inl h
      · refine Or.inr ⟨w', List.mem_cons_of_mem _ (List.mem_filter.mpr ⟨h4, ?_⟩), h5⟩
        have := h2 _ h4
        simp [hik, this]
theorem lv_args_mem : ∀ (vs : List Value) (n i : Nat) (v : Value), (∀ v ∈ vs, v.category = 1) → vs[i]? = some v → (n + i, v) ∈ lv_args n vs
  | [], _, _, _, _, h => by simp at h
  | w :: vs, n, 0, v, hc, h => by
    simp at h; subst h
    simp [lv_args]
  | w :: vs, n, i + 1, v, hc, h => by
    simp at h
    have hw := hc w List.mem_cons_self
    have := lv_args_mem vs (n + 1) i v (fun v hv => hc v (List.mem_cons_of_mem _ hv)) h
    simp only [lv_args, hw]
    refine List.mem_cons_of_mem _ ?_
    rw [show n + (i + 1) = n + 1 + i by omega]
    exact this
theorem lv_args_cat : ∀ (vs : List Value) (n : Nat), (∀ v ∈ vs, v.category = 1) → ∀ q ∈ lv_args n vs, q.2.category = 1
  | [], _, _, q, h => by simp [lv_args] at h
  | w :: vs, n, hc, q, h => by
    simp only [lv_args] at h
    rcases List.mem_cons.mp h with rfl | h
    · exact hc w List.mem_cons_self
    · exact lv_args_cat vs _ (fun v hv => hc v (List.mem_cons_of_mem _ hv)) q h
theorem lg_sl_len : ∀ (vs : List Value), (∀ v ∈ vs, v.category = 1) → (lg_sl vs).length = vs.length
  | [], _ => rfl
  | w :: vs, hc => by
    have := lg_sl_len vs (fun v hv => hc v (List.mem_cons_of_mem _ hv))
    have hw := hc w List.mem_cons_self
    simp only [lg_sl] at this ⊢
    simp [hw, this]
/-- the locals with which a call begins -/
theorem zlr_entry {q : zMI} {as as' : List Value} (h : zsr ad ρ as as') (hc : ∀ v ∈ as, v.category = 1) (hn : as.length ≤ q.nL) : zlr ad ρ (zloc q as) ((lg_sl as' ++ List.replicate (q.nL - (lg_sl as').length) Slot.unset).toArray) := by
  have hc' : ∀ v ∈ as', v.category = 1 := by
    intro v hv
    obtain ⟨i, hi⟩ := List.getElem?_of_mem hv
    have hl : i < as.length := by rw [← zsr_len h]; exact (List.getElem?_eq_some_iff.mp hi).1
    obtain ⟨w, h1, h2⟩ := zsr_at h (List.getElem?_eq_getElem hl)
    cases hi.symm.trans h1
    rw [zvr_cat h2]
    exact hc _ (List.getElem_mem hl)
  have hL := lg_sl_len as' hc'
  have hlen : (zloc q as).length = q.nL := by simp [zloc]; omega
  refine ⟨lv_args 0 as', ?_, lv_args_cat as' 0 hc', fun i v hv => ?_⟩
  · rw [hlen]
    exact lv_entry as' (by rw [hL, zsr_len h]; exact hn)
  · by_cases hi : i < as.length
    · rw [zloc, List.getElem?_append_left hi] at hv
      obtain ⟨v', h1, h2⟩ := zsr_at h hv
      have := lv_args_mem as' 0 i v' hc' h1
      rw [Nat.zero_add] at this
      exact Or.inr ⟨v', this, h2⟩
    · rw [zloc, List.getElem?_append_right (by omega)] at hv
      exact Or.inl ⟨0, List.eq_of_mem_replicate (List.mem_of_getElem? hv)⟩
abbrev zTrip : FieldType := .object "CobblePorts$Trip"
abbrev zString : FieldType := .object "java/lang/String"
def ztys (tA : FieldType → ClassId) : List (ClassId × FieldType) := [(tA .int, .int), (tA .byte, .byte), (tA .long, .long), (tA zTrip, zTrip), (tA zString, zString)]
def zkt (tA : FieldType → ClassId) (ty : FieldType) : Prop := ∃ t : Nat, (ztys tA)[t]? = some (tA ty, ty)
/-- a cell here, a cell there -/
def zcr (ad : Nat → Nat) (tA : FieldType → ClassId) (ρ : List Nat) (c : zC) (e : va_E) : Prop := match c with
  | .inr (ci, fs) => ∃ fs', e = .inr (ci, fs') ∧ zsr ad ρ fs fs'
  | .inl (ty, n, .inl f) => e = .inl (tA ty, n, .inl f) ∧ zkt tA ty
  | .inl (ty, n, .inr (.inl f)) => e = .inl (tA ty, n, .inr (.inl f)) ∧ zkt tA ty
  | .inl (ty, n, .inr (.inr (.inr (.inr f)))) => ∃ f', e = .inl (tA ty, n, .inr (.inr (.inr (.inr f')))) ∧ (∀ i, zvr ad ρ (va_rf (f i)) (va_rf (f' i))) ∧ zkt tA ty
  | _ => False
theorem zcr_mono {tA : FieldType → ClassId} (r : List Nat) {c : zC} {e : va_E} (h : zcr ad tA ρ c e) : zcr ad tA (ρ ++ r) c e := by
  rcases c with ⟨ty, n, f | f | f | f | f⟩ | ⟨ci, fs⟩
  · exact h
  · exact h
  · exact h.elim
  · exact h.elim
  · obtain ⟨f', h1, h2, h3⟩ := h
    exact ⟨f', h1, fun i => zvr_mono r (h2 i), h3⟩
  · obtain ⟨fs', h1, h2⟩ := h
    exact ⟨fs', h1, zsr_mono r h2⟩
def zwr (ad : Nat → Nat) (tA : FieldType → ClassId) (ρ : List Nat) (ws : List zC) (wr : va_W) : Prop :=
  wr.map (fun q => q.1) = ρ ∧ wr.length = ws.length ∧ ∀ (k : Nat) (c : zC), ws[k]? = some c → ∃ q : Nat × va_E, wr[k]? = some q ∧ zcr ad tA ρ c q.2
theorem zwr_at {tA : FieldType → ClassId} {ws : List zC} {wr : va_W} (h : zwr ad tA ρ ws wr) {k : Nat} {c : zC} (hk : ws[k]? = some c) {a : Nat} (ha : ρ[k]? = some a) : ∃ e, wr[k]? = some (a, e) ∧ zcr ad tA ρ c e := by
  obtain ⟨⟨a', e⟩, h1, h2⟩ := h.2.2 k c hk
  have : ρ[k]? = some a' := by rw [← h.1, List.getElem?_map, h1]; rfl
  cases ha.symm.trans this
  exact ⟨e, h1, h2⟩
theorem zwr_set {tA : FieldType → ClassId} {ws : List zC} {wr : va_W} (h : zwr ad tA ρ ws wr) {k : Nat} {c : zC} {a : Nat} {e0 e : va_E} (hk : wr[k]? = some (a, e0)) (hc : zcr ad tA ρ c e) : zwr ad tA ρ (ws.set k c) (wr.set k (a, e)) := by
  have hl : k < wr.length := (List.getElem?_eq_some_iff.mp hk).1
  refine ⟨?_, by simp [h.2.1], fun j d hj => ?_⟩
  · rw [← h.1]
    apply List.ext_getElem?
    intro j
    by_cases hjk : j = k
    · subst hjk
      obtain ⟨_, h5⟩ := List.getElem?_eq_some_iff.mp hk
      simp [hl, h5]
    · simp [List.getElem?_set_ne (Ne.symm hjk)]
  · by_cases hjk : j = k
    · subst hjk
      rw [List.getElem?_set_self (by rw [← h.2.1]; exact hl)] at hj
      cases hj
      exact ⟨(a, e), List.getElem?_set_self hl, hc⟩
    · rw [List.getElem?_set_ne (Ne.symm hjk)] at hj
      obtain ⟨q, h1, h2⟩ := h.2.2 j d hj
      exact ⟨q, by rw [List.getElem?_set_ne (Ne.symm hjk)]; exact h1, h2⟩
theorem zwr_push {tA : FieldType → ClassId} {ws : List zC} {wr : va_W} (h : zwr ad tA ρ ws wr) {c : zC} {a : Nat} {e : va_E} (hc : zcr ad tA (ρ ++ [a]) c e) : zwr ad tA (ρ ++ [a]) (ws ++ [c]) (wr ++ [(a, e)]) := by
  refine ⟨by simp [h.1], by simp [h.2.1], fun j d hj => ?_⟩
  by_cases hl : j < ws.length
  · rw [List.getElem?_append_left hl] at hj
    obtain ⟨q, h1, h2⟩ := h.2.2 j d hj
    exact ⟨q, by rw [List.getElem?_append_left (by rw [h.2.1]; exact hl)]; exact h1, zcr_mono _ h2⟩
  · rw [List.getElem?_append_right (by omega)] at hj
    have hz : j - ws.length < 1 := (List.getElem?_eq_some_iff.mp hj).1
    have h0 : j = ws.length := by omega
    subst h0
    rw [Nat.sub_self] at hj
    cases hj
    exact ⟨(a, e), by rw [← h.2.1]; simp, hc⟩
theorem zwr_len {tA : FieldType → ClassId} {ws : List zC} {wr : va_W} (h : zwr ad tA ρ ws wr) : ρ.length = ws.length := by rw [← h.1, List.length_map, h.2.1]
end ZR
