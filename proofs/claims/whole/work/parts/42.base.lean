/-! sums, loops -/
def zsm (f : Int → Int) : Nat → Int
  | 0 => 0
  | k + 1 => zsm f k + f k
def zsg (f : Int → Int) (k : Int) : Int := zsm f k.toNat
theorem zsg_zero (f : Int → Int) : zsg f 0 = 0 := rfl
theorem zsg_succ {f : Int → Int} {k : Int} (h : 0 ≤ k) : zsg f (k + 1) = zsg f k + f k := by
  obtain ⟨m, rfl⟩ := Int.eq_ofNat_of_zero_le h
  show zsm f ((m : Int) + 1).toNat = zsm f (m : Int).toNat + f m
  rw [show ((m : Int) + 1).toNat = m + 1 by omega, show (m : Int).toNat = m by omega]
  rfl
theorem zloop {n : Int} {P : Int → Prop} (step : ∀ k, 0 ≤ k → k ≤ n → (k < n → P (k + 1)) → P k) : ∀ k, 0 ≤ k → k ≤ n → P k := by
  have key : ∀ (m : Nat) (k : Int), 0 ≤ k → k + m = n → P k := by
    intro m
    induction m with
    | zero => intro k h0 h1; exact step k h0 (by omega) (fun h => by omega)
    | succ m ih => intro k h0 h1; exact step k h0 (by omega) (fun h => ih (k + 1) (by omega) (by omega))
  intro k h0 h1
  exact key (n - k).toNat k h0 (by omega)
/-- from k down to -1 -/
theorem zloopD {P : Int → Prop} (step : ∀ k, -1 ≤ k → (0 ≤ k → P (k + -1)) → P k) : ∀ k, -1 ≤ k → P k := by
  have key : ∀ (m : Nat) (k : Int), k + 1 = m → P k := by
    intro m
    induction m with
    | zero => intro k h0; exact step k (by omega) (fun h => by omega)
    | succ m ih => intro k h0; exact step k (by omega) (fun h => ih (k + -1) (by omega))
  intro k h0
  exact key (k + 1).toNat k (by omega)
theorem zsg_le {f : Int → Int} {c : Int} : ∀ k, 0 ≤ k → (∀ j, 0 ≤ j → j < k → 0 ≤ f j ∧ f j ≤ c) → 0 ≤ zsg f k ∧ zsg f k ≤ c * k := by
  have key : ∀ m : Nat, (∀ j : Int, 0 ≤ j → j < m → 0 ≤ f j ∧ f j ≤ c) → 0 ≤ zsm f m ∧ zsm f m ≤ c * m := by
    intro m
    induction m with
    | zero => intro _; simp [zsm]
    | succ m ih =>
      intro h
      have h1 := ih (fun j h0 h1 => h j h0 (by omega))
      have h2 := h m (by omega) (by omega)
      simp only [zsm]
      rw [show ((m + 1 : Nat) : Int) = (m : Int) + 1 by omega, Int.mul_add]
      omega
  intro k h0 h
  have h1 := key k.toNat (fun j a b => h j a (by omega))
  rw [show ((k.toNat : Nat) : Int) = k by omega] at h1
  exact h1
theorem zsg_ext {f g : Int → Int} : ∀ k, (∀ j, 0 ≤ j → j < k → f j = g j) → zsg f k = zsg g k := by
  have key : ∀ m : Nat, (∀ j : Int, 0 ≤ j → j < m → f j = g j) → zsm f m = zsm g m := by
    intro m
    induction m with
    | zero => intro _; rfl
    | succ m ih =>
      intro h
      simp only [zsm]
      rw [ih (fun j h0 h1 => h j h0 (by omega)), h m (by omega) (by omega)]
  intro k h
  exact key k.toNat (fun j a b => h j a (by omega))
def zfoN {α : Type} (f : Int → α → α) (a : α) : Nat → α
  | 0 => a
  | k + 1 => f k (zfoN f a k)
/-- a walk from 0 up to k -/
def zfo {α : Type} (f : Int → α → α) (a : α) (k : Int) : α := zfoN f a k.toNat
theorem zfo_zero {α : Type} (f : Int → α → α) (a : α) : zfo f a 0 = a := rfl
theorem zfo_succ {α : Type} {f : Int → α → α} {a : α} {k : Int} (h : 0 ≤ k) : zfo f a (k + 1) = f k (zfo f a k) := by
  obtain ⟨m, rfl⟩ := Int.eq_ofNat_of_zero_le h
  show zfoN f a ((m : Int) + 1).toNat = f m (zfoN f a (m : Int).toNat)
  rw [show ((m : Int) + 1).toNat = m + 1 by omega, show (m : Int).toNat = m by omega]
  rfl
theorem zfo_ext {α : Type} {f g : Int → α → α} {a : α} : ∀ k, (∀ j, 0 ≤ j → j < k → ∀ x, f j x = g j x) → zfo f a k = zfo g a k := by
  have key : ∀ m : Nat, (∀ j : Int, 0 ≤ j → j < m → ∀ x, f j x = g j x) → zfoN f a m = zfoN g a m := by
    intro m
    induction m with
    | zero => intro _; rfl
    | succ m ih =>
      intro h
      simp only [zfoN]
      rw [ih (fun j h0 h1 => h j h0 (by omega)), h m (by omega) (by omega)]
  intro k h
  exact key k.toNat (fun j a b => h j a (by omega))
/-- an induction from 0 up -/
theorem zup {P : Int → Prop} (h0 : P 0) (hs : ∀ k, 0 ≤ k → P k → P (k + 1)) : ∀ k, 0 ≤ k → P k := by
  intro k hk
  obtain ⟨m, rfl⟩ := Int.eq_ofNat_of_zero_le hk
  induction m with
  | zero => exact h0
  | succ m ih => exact hs m (by omega) (ih (by omega))
