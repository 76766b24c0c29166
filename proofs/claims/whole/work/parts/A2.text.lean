/-! texts and their tokens -/
def rnN (P : Int → Bool) (N : Int) : Nat → Int → Int
  | 0, e => e
  | f + 1, e => if e < N ∧ P e = true then rnN P N f (e + 1) else e
def rn (P : Int → Bool) (N e : Int) : Int := rnN P N (N - e).toNat e
theorem rn_st {P : Int → Bool} {N e : Int} (h0 : e < N) (h1 : P e = true) : rn P N e = rn P N (e + 1) := by
  unfold rn
  rw [show (N - e).toNat = (N - (e + 1)).toNat + 1 by omega]
  show (if _ then _ else _) = _
  rw [if_pos ⟨h0, h1⟩]
theorem rn_no {P : Int → Bool} {N e : Int} (h : ¬ (e < N ∧ P e = true)) : rn P N e = e := by
  unfold rn
  cases hf : (N - e).toNat with
  | zero => rfl
  | succ f =>
    show (if _ then _ else _) = _
    rw [if_neg h]
theorem rn_le {P : Int → Bool} {N : Int} : ∀ (f : Nat) (e : Int), (N - e).toNat = f → e ≤ N → e ≤ rn P N e ∧ rn P N e ≤ N ∧ ∀ q, e ≤ q → q < rn P N e → P q = true := by
  intro f
  induction f with
  | zero =>
    intro e h he
    have e1 : rn P N e = e := rn_no (by omega)
    rw [e1]
    exact ⟨by omega, by omega, fun q a b => by omega⟩
  | succ f ih =>
    intro e h he
    by_cases hp : e < N ∧ P e = true
    · have i := ih (e + 1) (by omega) (by omega)
      rw [rn_st hp.1 hp.2]
      refine ⟨by omega, i.2.1, fun q a b => ?_⟩
      by_cases eq : q = e
      · rw [eq]; exact hp.2
      · exact i.2.2 q (by omega) b
    · rw [rn_no hp]
      exact ⟨by omega, by omega, fun q a b => by omega⟩
theorem rn_in {P : Int → Bool} {N e : Int} (he : e ≤ N) : e ≤ rn P N e ∧ rn P N e ≤ N ∧ ∀ q, e ≤ q → q < rn P N e → P q = true := rn_le _ e rfl he
def bl (x : Int) : Bool := decide (x = 32 ∨ x = 10)
def lt (x : Int) : Bool := decide (97 ≤ x ∧ x ≤ 122)
def dg (x : Int) : Bool := decide (48 ≤ x ∧ x ≤ 57)
def mrk (x : Int) : Bool := decide (x = 59 ∨ x = 40 ∨ x = 41 ∨ x = 43 ∨ x = 45 ∨ x = 42 ∨ x = 47 ∨ x = 60 ∨ x = 61)
/-- the token behind e: its start, its kind, its end, its number -/
def ts (B : Int → Int) (N e : Int) : Int := rn (fun q => bl (B q)) N e
def tk (B : Int → Int) (N e : Int) : Int := if N ≤ ts B N e then 0 else if lt (B (ts B N e)) = true then 1 else if dg (B (ts B N e)) = true then 2 else 3
def te (B : Int → Int) (N e : Int) : Int := if N ≤ ts B N e then ts B N e else if lt (B (ts B N e)) = true then rn (fun q => lt (B q)) N (ts B N e) else if dg (B (ts B N e)) = true then rn (fun q => dg (B q)) N (ts B N e) else ts B N e + 1
def dv (B : Int → Int) (s j : Int) : Int := zfo (fun i a => a * 10 + (B (s + i) - 48)) 0 j
def tn (B : Int → Int) (N e : Int) : Int := if te B N e - ts B N e ≤ 4 then dv B (ts B N e) (te B N e - ts B N e) else -1
theorem dv_succ {B : Int → Int} {s j : Int} (h : 0 ≤ j) : dv B s (j + 1) = dv B s j * 10 + (B (s + j) - 48) := zfo_succ h
theorem ts_in {B : Int → Int} {N e : Int} (he : e ≤ N) : e ≤ ts B N e ∧ ts B N e ≤ N := by
  have := rn_in (P := fun q => bl (B q)) he
  unfold ts
  omega
theorem te_in {B : Int → Int} {N e : Int} (he : e ≤ N) : ts B N e ≤ te B N e ∧ te B N e ≤ N ∧ (¬ tk B N e = 0 → ts B N e < te B N e ∧ ts B N e < N) ∧ (tk B N e = 0 → ts B N e = N) := by
  have h := ts_in (B := B) he
  unfold te tk
  by_cases h1 : N ≤ ts B N e
  · rw [if_pos h1, if_pos h1]
    exact ⟨by omega, by omega, fun z => absurd rfl z, fun _ => by omega⟩
  · rw [if_neg h1, if_neg h1]
    by_cases h2 : lt (B (ts B N e)) = true
    · rw [if_pos h2, if_pos h2, rn_st (P := fun q => lt (B q)) (by omega) h2]
      have := rn_in (P := fun q => lt (B q)) (show ts B N e + 1 ≤ N by omega)
      exact ⟨by omega, by omega, fun z => by omega, fun z => by omega⟩
    · rw [if_neg h2, if_neg h2]
      by_cases h3 : dg (B (ts B N e)) = true
      · rw [if_pos h3, if_pos h3, rn_st (P := fun q => dg (B q)) (by omega) h3]
        have := rn_in (P := fun q => dg (B q)) (show ts B N e + 1 ≤ N by omega)
        exact ⟨by omega, by omega, fun z => by omega, fun z => by omega⟩
      · rw [if_neg h3, if_neg h3]
        exact ⟨by omega, by omega, fun z => by omega, fun z => by omega⟩
theorem dv_bd {B : Int → Int} {s : Int} : ∀ j, 0 ≤ j → j ≤ 4 → (∀ i, 0 ≤ i → i < j → dg (B (s + i)) = true) → 0 ≤ dv B s j ∧ dv B s j ≤ 9999 ∧ (j = 0 → dv B s j = 0) ∧ (j = 1 → dv B s j ≤ 9) ∧ (j = 2 → dv B s j ≤ 99) ∧ (j = 3 → dv B s j ≤ 999) := by
  refine zup ?_ ?_
  · intro _ _
    rw [show dv B s 0 = 0 from rfl]
    omega
  · intro j j0 ih j4 hd
    have e := ih (by omega) (fun i i0 i1 => hd i i0 (by omega))
    have k := hd j j0 (by omega)
    have k := of_decide_eq_true k
    rw [dv_succ j0]
    omega
theorem tn_bd {B : Int → Int} {N e : Int} (he : e ≤ N) (hk : tk B N e = 2) : -1 ≤ tn B N e ∧ tn B N e ≤ 9999 ∧ (te B N e - ts B N e ≤ 4 → 0 ≤ tn B N e) := by
  have h := ts_in (B := B) he
  have h2 := te_in (B := B) he
  unfold tn
  by_cases h4 : te B N e - ts B N e ≤ 4
  · rw [if_pos h4]
    have e1 : ∀ i, 0 ≤ i → i < te B N e - ts B N e → dg (B (ts B N e + i)) = true := by
      unfold tk at hk
      by_cases a1 : N ≤ ts B N e
      · rw [if_pos a1] at hk; omega
      · rw [if_neg a1] at hk
        by_cases a2 : lt (B (ts B N e)) = true
        · rw [if_pos a2] at hk; omega
        · rw [if_neg a2] at hk
          by_cases a3 : dg (B (ts B N e)) = true
          · intro i i0 i1
            unfold te at i1
            rw [if_neg a1, if_neg a2, if_pos a3] at i1
            exact (rn_in (P := fun q => dg (B q)) (show ts B N e ≤ N by omega)).2.2 _ (by omega) (by omega)
          · rw [if_neg a3] at hk; omega
    have := dv_bd (B := B) (s := ts B N e) (te B N e - ts B N e) (by omega) h4 e1
    omega
  · rw [if_neg h4]
    omega
