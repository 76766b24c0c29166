/-! the loads of a route: what is sought -/
def spC (v : zV) (i s : Int) : Int := zfo (fun e b => if zg v 39 e = s then zg v 40 e else b) (zg v 38 s) i
def lgF (v : zV) (i : Int) : Int := spC v i (zg v 39 i)
def SX (v : zV) (x : zPL) (c : Int → Int) (i : Int) : zPL := zfo (fun j y => if lgF v j = zg v 40 j then y else stN v (zg v 39 j) (lgF v j) (zg v 40 j) y (min (wantC v (zg v 39 j) (c j)) (cnt y.1 (lgF v j) (zg v 16 9)))) x i
def mst (v : zV) (i : Int) : Int := if lgF v i = zg v 40 i then 0 else zg v 22 (zg v 39 i)
abbrev zBA := Option (Int × Int × (Int → Int))
def bop (a b : zBA) : zBA := match a, b with
  | none, b => b
  | some a, none => some a
  | some a, some b => if b.1 < a.1 ∨ (b.1 = a.1 ∧ a.2.1 < b.2.1) then some b else some a
theorem bop_n {b : zBA} : bop none b = b := rfl
theorem bop_r {a : zBA} : bop a none = a := by cases a <;> rfl
theorem bop_a (a b c : zBA) : bop (bop a b) c = bop a (bop b c) := by
  rcases a with _ | ⟨a1, a2, a3⟩
  · rfl
  · rcases b with _ | ⟨b1, b2, b3⟩
    · rfl
    · rcases c with _ | ⟨c1, c2, c3⟩
      · rw [bop_r, bop_r]
      · simp only [bop]
        by_cases h1 : b1 < a1 ∨ (b1 = a1 ∧ a2 < b2)
        · by_cases h2 : c1 < b1 ∨ (c1 = b1 ∧ b2 < c2)
          · rw [if_pos h1, if_pos h2]
            show (if _ then _ else _) = (if _ then _ else _)
            rw [if_pos h2, if_pos (by dsimp only; omega)]
          · rw [if_pos h1, if_neg h2]
            show (if _ then _ else _) = (if _ then _ else _)
            rw [if_neg h2, if_pos h1]
        · by_cases h2 : c1 < b1 ∨ (c1 = b1 ∧ b2 < c2)
          · rw [if_neg h1, if_pos h2]
          · rw [if_neg h1, if_neg h2]
            show (if _ then _ else _) = (if _ then _ else _)
            rw [if_neg (by dsimp only; omega), if_neg h1]
def bad2 (a b : zBA × Int) : zBA × Int := (bop a.1 b.1, a.2 + b.2)
theorem bad2_a (a b c : zBA × Int) : bad2 (bad2 a b) c = bad2 a (bad2 b c) := by
  unfold bad2
  rw [bop_a]
  dsimp only
  rw [Int.add_assoc]
theorem bad2_n (a : zBA × Int) : bad2 (none, 0) a = a := by
  unfold bad2
  dsimp only
  rw [bop_n, Int.zero_add]
theorem bad2_r (a : zBA × Int) : bad2 a (none, 0) = a := by
  unfold bad2
  dsimp only
  rw [bop_r, Int.add_zero]
theorem up_ad {g : Int → zBA × Int} {a : zBA × Int} : ∀ n, 0 ≤ n → zfo (fun j b => bad2 b (g j)) a n = bad2 a (zfo (fun j b => bad2 b (g j)) (none, 0) n) := by
  refine zup ?_ ?_
  · rw [zfo_zero, zfo_zero, bad2_r]
  · intro n n0 ih
    rw [zfo_succ n0, zfo_succ n0, ih, bad2_a]
theorem dn_ad {g : Int → zBA × Int} {a : zBA × Int} {n : Int} (n0 : 0 ≤ n) : zfo (fun j b => bad2 (g (n - 1 - j)) b) a n = bad2 (zfo (fun j b => bad2 b (g j)) (none, 0) n) a := by
  have key : ∀ k, 0 ≤ k → k ≤ n → bad2 (zfo (fun j b => bad2 b (g j)) (none, 0) (n - k)) (zfo (fun j b => bad2 (g (n - 1 - j)) b) a k) = bad2 (zfo (fun j b => bad2 b (g j)) (none, 0) n) a := by
    refine zup ?_ ?_
    · intro _
      rw [zfo_zero, Int.sub_zero]
    · intro k k0 ih h
      rw [zfo_succ k0, ← ih (by omega), ← bad2_a, show n - k = (n - (k + 1)) + 1 by omega, zfo_succ (by omega), show n - 1 - k = n - (k + 1) by omega]
  have e := key n n0 (by omega)
  rw [Int.sub_self, zfo_zero, bad2_n] at e
  exact e
def mdX (v : zV) (x : zPL) (p : Int) : Int := max 0 (zg v 17 p - cnt x.1 p (zg v 16 9))
def fitX (v : zV) (x : zPL) (i : Int) : Bool := zfo (fun j b => b && decide (cnt2 x.1 (zg v 19) (zg v 41 j) (zg v 42 j) (zg v 16 9) = zg v 43 j)) true i
theorem fitX_succ {v : zV} {x : zPL} {i : Int} (h : 0 ≤ i) : fitX v x (i + 1) = (fitX v x i && decide (cnt2 x.1 (zg v 19) (zg v 41 i) (zg v 42 i) (zg v 16 9) = zg v 43 i)) := zfo_succ h
theorem fitX_no {v : zV} {x : zPL} {i n : Int} (i0 : 0 ≤ i) (h : ¬ cnt2 x.1 (zg v 19) (zg v 41 i) (zg v 42 i) (zg v 16 9) = zg v 43 i) : ∀ k, 0 ≤ k → i < k → fitX v x k = false := by
  refine zup ?_ ?_
  · intro z; omega
  · intro k k0 ih z
    rw [fitX_succ k0]
    rcases (show i < k ∨ i = k by omega) with e | e
    · rw [ih e]; rfl
    · subst e; rw [decide_eq_false h, Bool.and_false]
/-- what a row of loads is worth -/
def vlX (v : zV) (x : zPL) (p : Int) (c : Int → Int) : zBA := if p = -1 then (if fitX v (SX v x c (zg v 28 9)) (zg v 28 10) = true then some (0, 0, c) else none) else if 0 < mdX v (SX v x c (zg v 28 9)) p then none else some (zsg (mdX v (SX v x c (zg v 28 9))) (zg v 16 8), zsg c (zg v 28 9), c)
def vl2 (v : zV) (x : zPL) (p : Int) (c : Int → Int) : zBA × Int := (vlX v x p c, if vlX v x p c = none then 0 else 1)
def fC (v : zV) (x : zPL) (p : Int) : Nat → Int → (Int → Int) → zBA × Int → zBA × Int
  | 0, _, c, a => bad2 (vl2 v x p c) a
  | m + 1, i, c, a => zfo (fun j a => fC v x p m (i + 1) (fu c i (mst v i + 1 - 1 - j)) a) a (mst v i + 1)
def fR (v : zV) (x : zPL) (p : Int) : Nat → Int → (Int → Int) → zBA × Int → zBA × Int
  | 0, _, c, a => bad2 a (vl2 v x p c)
  | m + 1, i, c, a => zfo (fun j a => fR v x p m (i + 1) (fu c i j) a) a (mst v i + 1)
def fB (v : zV) (x : zPL) (p : Int) : Nat → Int → (Int → Int) → zBA × Int
  | 0, _, c => vl2 v x p c
  | m + 1, i, c => zfo (fun j b => bad2 b (fB v x p m (i + 1) (fu c i j))) (none, 0) (mst v i + 1)
theorem fCR {v : zV} {x : zPL} {p n : Int} (hm : ∀ i, 0 ≤ i → i < n → 0 ≤ mst v i ∧ mst v i ≤ 8) : ∀ (m : Nat) i c a, 0 ≤ i → i + m ≤ n → fC v x p m i c a = bad2 (fB v x p m i c) a ∧ fR v x p m i c a = bad2 a (fB v x p m i c) := by
  intro m
  induction m with
  | zero => intro i c a _ _; exact ⟨rfl, rfl⟩
  | succ m ih =>
    intro i c a i0 i1
    have h1 := hm i i0 (by omega)
    constructor
    · show zfo (fun j a => fC v x p m (i + 1) (fu c i (mst v i + 1 - 1 - j)) a) a (mst v i + 1) = _
      rw [show (fun j a => fC v x p m (i + 1) (fu c i (mst v i + 1 - 1 - j)) a) = (fun j b => bad2 (fB v x p m (i + 1) (fu c i (mst v i + 1 - 1 - j))) b) from funext fun j => funext fun b => (ih _ _ _ (by omega) (by omega)).1]
      exact dn_ad (g := fun j => fB v x p m (i + 1) (fu c i j)) (by omega)
    · show zfo (fun j a => fR v x p m (i + 1) (fu c i j) a) a (mst v i + 1) = _
      rw [show (fun j a => fR v x p m (i + 1) (fu c i j) a) = (fun j b => bad2 b (fB v x p m (i + 1) (fu c i j))) from funext fun j => funext fun b => (ih _ _ _ (by omega) (by omega)).2]
      exact up_ad (mst v i + 1) (by omega)
theorem fC_fR {v : zV} {x : zPL} {p n : Int} (hm : ∀ i, 0 ≤ i → i < n → 0 ≤ mst v i ∧ mst v i ≤ 8) (m : Nat) (hn : (m : Int) = n) (c : Int → Int) : fC v x p m 0 c (none, 0) = fR v x p m 0 c (none, 0) := by
  rw [(fCR hm m 0 c _ (by omega) (by omega)).1, (fCR hm m 0 c _ (by omega) (by omega)).2, bad2_n, bad2_r]
theorem fB_bd {v : zV} {x : zPL} {p n : Int} (hm : ∀ i, 0 ≤ i → i < n → 0 ≤ mst v i ∧ mst v i ≤ 8) : ∀ (m : Nat) i c, 0 ≤ i → i + m ≤ n → 0 ≤ (fB v x p m i c).2 ∧ (fB v x p m i c).2 ≤ (9 : Int) ^ m := by
  intro m
  induction m with
  | zero =>
    intro i c _ _
    show 0 ≤ (if _ then _ else _ : Int) ∧ (if _ then _ else _ : Int) ≤ 1
    split <;> omega
  | succ m ih =>
    intro i c i0 i1
    have h1 := hm i i0 (by omega)
    have key : ∀ k, 0 ≤ k → k ≤ 9 → 0 ≤ (zfo (fun j b => bad2 b (fB v x p m (i + 1) (fu c i j))) (none, 0) k).2 ∧ (zfo (fun j b => bad2 b (fB v x p m (i + 1) (fu c i j))) (none, 0) k).2 ≤ k * (9 : Int) ^ m := by
      refine zup ?_ ?_
      · intro _
        rw [zfo_zero]
        exact ⟨Int.le_refl _, by omega⟩
      · intro k k0 ihk hk
        rw [zfo_succ k0]
        have e1 := ihk (by omega)
        have e2 := ih (i + 1) (fu c i k) (by omega) (by omega)
        show 0 ≤ (_ + _ : Int) ∧ (_ + _ : Int) ≤ _
        rw [Int.add_mul, Int.one_mul]
        omega
    have e := key (mst v i + 1) (by omega) (by omega)
    have hp : 0 ≤ (9 : Int) ^ m := Int.le_of_lt (Int.pow_pos (by omega))
    have e2 : (mst v i + 1) * (9 : Int) ^ m ≤ 9 * (9 : Int) ^ m := Int.mul_le_mul_of_nonneg_right (by omega) hp
    refine ⟨e.1, ?_⟩
    rw [Int.pow_succ]
    have e3 := e.2
    show (zfo (fun j b => bad2 b (fB v x p m (i + 1) (fu c i j))) (none, 0) (mst v i + 1)).2 ≤ _
    omega
/-- how many are found on the way -/
theorem fC_bd {v : zV} {x : zPL} {p n i : Int} {c : Int → Int} {A : zBA × Int} (hm : ∀ i, 0 ≤ i → i < n → 0 ≤ mst v i ∧ mst v i ≤ 8) {m : Nat} (i0 : 0 ≤ i) (i1 : i + 1 + m ≤ n) (g : Int → Int) : ∀ k, 0 ≤ k → A.2 ≤ (zfo (fun j a => fC v x p m (i + 1) (fu c i (g j)) a) A k).2 ∧ (zfo (fun j a => fC v x p m (i + 1) (fu c i (g j)) a) A k).2 ≤ A.2 + k * (9 : Int) ^ m := by
  refine zup ?_ ?_
  · rw [zfo_zero]; omega
  · intro k k0 ih
    rw [zfo_succ k0, (fCR hm m (i + 1) _ _ (by omega) (by omega)).1]
    have e := fB_bd (x := x) (p := p) hm m (i + 1) (fu c i (g k)) (by omega) (by omega)
    show _ ≤ (_ + _ : Int) ∧ (_ + _ : Int) ≤ _
    rw [Int.add_mul, Int.one_mul]
    omega
theorem fR_bd {v : zV} {x : zPL} {p n i : Int} {c : Int → Int} {A : zBA × Int} (hm : ∀ i, 0 ≤ i → i < n → 0 ≤ mst v i ∧ mst v i ≤ 8) {m : Nat} (i0 : 0 ≤ i) (i1 : i + 1 + m ≤ n) : ∀ k, 0 ≤ k → A.2 ≤ (zfo (fun j a => fR v x p m (i + 1) (fu c i j) a) A k).2 ∧ (zfo (fun j a => fR v x p m (i + 1) (fu c i j) a) A k).2 ≤ A.2 + k * (9 : Int) ^ m := by
  refine zup ?_ ?_
  · rw [zfo_zero]; omega
  · intro k k0 ih
    rw [zfo_succ k0, (fCR hm m (i + 1) _ _ (by omega) (by omega)).2]
    have e := fB_bd (x := x) (p := p) hm m (i + 1) (fu c i k) (by omega) (by omega)
    show _ ≤ (_ + _ : Int) ∧ (_ + _ : Int) ≤ _
    rw [Int.add_mul, Int.one_mul]
    omega
theorem SX_succ {v : zV} {x : zPL} {c : Int → Int} {i : Int} (h : 0 ≤ i) : SX v x c (i + 1) = if lgF v i = zg v 40 i then SX v x c i else stN v (zg v 39 i) (lgF v i) (zg v 40 i) (SX v x c i) (min (wantC v (zg v 39 i) (c i)) (cnt (SX v x c i).1 (lgF v i) (zg v 16 9))) := zfo_succ h
theorem SX_ext {v : zV} {x : zPL} {c c' : Int → Int} : ∀ i, 0 ≤ i → (∀ j, 0 ≤ j → j < i → c j = c' j) → SX v x c i = SX v x c' i := by
  refine zup ?_ ?_
  · intro _; rfl
  · intro i i0 ih h
    rw [SX_succ i0, SX_succ i0, ih (fun j j0 j1 => h j j0 (by omega)), h i i0 (by omega)]
theorem spC_succ {v : zV} {i s : Int} (h : 0 ≤ i) : spC v (i + 1) s = if zg v 39 i = s then zg v 40 i else spC v i s := zfo_succ h
theorem spC_rg {v : zV} {s : Int} : ∀ i, 0 ≤ i → -2147483648 ≤ spC v i s ∧ spC v i s < 2147483648 := by
  refine zup ?_ ?_
  · exact zg_rg _ _ _
  · intro i i0 ih
    rw [spC_succ i0]
    split
    · exact zg_rg _ _ _
    · exact ih
theorem spC_in {v : zV} {s n : Int} (h0 : 0 ≤ zg v 38 s ∧ zg v 38 s < zg v 16 8) (hl : ∀ i, 0 ≤ i → i < n → 0 ≤ zg v 40 i ∧ zg v 40 i < zg v 16 8) : ∀ i, 0 ≤ i → i ≤ n → 0 ≤ spC v i s ∧ spC v i s < zg v 16 8 := by
  refine zup ?_ ?_
  · intro _; exact h0
  · intro i i0 ih h
    rw [spC_succ i0]
    split
    · exact hl i i0 (by omega)
    · exact ih (by omega)
/-- what is sought depends on the world that was told, the ships and the route alone -/
def SW (v w : zV) : Prop := ∀ a q, ((16 ≤ a ∧ a ≤ 25) ∨ a = 28 ∨ (38 ≤ a ∧ a ≤ 43)) → w a q = v a q
theorem SW.g {v w : zV} (h : SW v w) {a : Nat} (ha : (16 ≤ a ∧ a ≤ 25) ∨ a = 28 ∨ (38 ≤ a ∧ a ≤ 43)) : zg w a = zg v a := zg_fn fun q => h a q ha
theorem lgF_w {v w : zV} (h : SW v w) : lgF w = lgF v := by
  funext i
  unfold lgF spC
  rw [h.g (a := 38) (by omega), h.g (a := 39) (by omega), h.g (a := 40) (by omega)]
theorem SX_w {v w : zV} (h : SW v w) : SX w = SX v := by
  funext x c i
  unfold SX
  rw [lgF_w h, h.g (a := 39) (by omega), h.g (a := 40) (by omega), h.g (a := 16) (by omega), show stN w = stN v by funext k f t x m; unfold stN; rw [stp_w fun a q h1 h2 => h a q (by omega)], show wantC w = wantC v by funext k y; unfold wantC; rw [h.g (a := 22) (by omega), h.g (a := 21) (by omega)]]
theorem mdX_w {v w : zV} (h : SW v w) : mdX w = mdX v := by
  funext x p
  unfold mdX
  rw [h.g (a := 16) (by omega), h.g (a := 17) (by omega)]
theorem fitX_w {v w : zV} (h : SW v w) : fitX w = fitX v := by
  funext x p
  unfold fitX
  rw [h.g (a := 16) (by omega), h.g (a := 19) (by omega), h.g (a := 41) (by omega), h.g (a := 42) (by omega), h.g (a := 43) (by omega)]
theorem vl2_w {v w : zV} (h : SW v w) : vl2 w = vl2 v := by
  funext x p c
  unfold vl2 vlX
  rw [fitX_w h, mdX_w h, SX_w h, h.g (a := 28) (by omega), h.g (a := 16) (by omega)]
