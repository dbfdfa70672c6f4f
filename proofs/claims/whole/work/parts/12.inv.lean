-- ===== what hangs on a circuit: folds, counts, chains =====
def ct_fd {α : Type} (z : Nat → α) (op : Nat → Nat → α → α → α) (g : Ct) : Nat → Nat → α
  | 0, i => z i
  | k + 1, i => match g i with
    | none => z i
    | some q => op q.1 q.2 (ct_fd z op g k (q.1 / 2)) (ct_fd z op g k (q.2 / 2))
theorem ct_fd_fuel {α : Type} {z : Nat → α} {op : Nat → Nat → α → α → α} {g : Ct} {nc : Nat} (h : ct_wf nc g) : ∀ (k j i : Nat), i < k → i < j → ct_fd z op g k i = ct_fd z op g j i := by
  intro k
  induction k with
  | zero => intro j i h1; omega
  | succ k ih =>
    intro j i h1 h2
    cases j with
    | zero => omega
    | succ j =>
      unfold ct_fd
      cases hg : g i with
      | none => rfl
      | some q =>
        obtain ⟨x, y⟩ := q
        have h3 := h.1 i x y hg
        dsimp only
        rw [ih j (x / 2) (by omega) (by omega), ih j (y / 2) (by omega) (by omega)]
/-- two circuits that are the same up to a node -/
theorem ct_fd_ext {α : Type} {z z' : Nat → α} {op : Nat → Nat → α → α → α} {g g' : Ct} {nc : Nat} (h : ct_wf nc g) : ∀ (k i : Nat), (∀ j, j ≤ i → g' j = g j ∧ z' j = z j) → ct_fd z' op g' k i = ct_fd z op g k i := by
  intro k
  induction k with
  | zero => intro i he; exact (he i (Nat.le_refl i)).2
  | succ k ih =>
    intro i he
    unfold ct_fd
    rw [(he i (Nat.le_refl i)).1, (he i (Nat.le_refl i)).2]
    cases hg : g i with
    | none => rfl
    | some q =>
      obtain ⟨x, y⟩ := q
      have h3 := h.1 i x y hg
      dsimp only
      rw [ih (x / 2) (fun j hj => he j (by omega)), ih (y / 2) (fun j hj => he j (by omega))]
/-- how deep a node lies -/
def ct_dp (g : Ct) (i : Nat) : Nat := ct_fd (fun _ => 0) (fun _ _ a b => 1 + max a b) g (i + 1) i
/-- a node's value -/
def ct_vo (x y : Nat) (a b : Bool) : Bool := (a ^^ decide (x % 2 = 1)) && (b ^^ decide (y % 2 = 1))
def ct_vl (g : Ct) (bv : Nat → Bool) (i : Nat) : Bool := ct_fd bv ct_vo g (i + 1) i
theorem ct_dp_n {g : Ct} {i : Nat} (h : g i = none) : ct_dp g i = 0 := by
  unfold ct_dp ct_fd
  rw [h]
theorem ct_dp_s {g : Ct} {nc i x y : Nat} (hw : ct_wf nc g) (h : g i = some (x, y)) : ct_dp g i = 1 + max (ct_dp g (x / 2)) (ct_dp g (y / 2)) := by
  have h3 := hw.1 i x y h
  unfold ct_dp
  rw [ct_fd, h]
  dsimp only
  rw [ct_fd_fuel hw i (x / 2 + 1) (x / 2) (by omega) (by omega), ct_fd_fuel hw i (y / 2 + 1) (y / 2) (by omega) (by omega)]
theorem ct_vl_n {g : Ct} {bv : Nat → Bool} {i : Nat} (h : g i = none) : ct_vl g bv i = bv i := by
  unfold ct_vl ct_fd
  rw [h]
theorem ct_vl_s {g : Ct} {bv : Nat → Bool} {nc i x y : Nat} (hw : ct_wf nc g) (h : g i = some (x, y)) : ct_vl g bv i = ct_vo x y (ct_vl g bv (x / 2)) (ct_vl g bv (y / 2)) := by
  have h3 := hw.1 i x y h
  unfold ct_vl
  rw [ct_fd, h]
  dsimp only
  rw [ct_fd_fuel hw i (x / 2 + 1) (x / 2) (by omega) (by omega), ct_fd_fuel hw i (y / 2 + 1) (y / 2) (by omega) (by omega)]
theorem ct_dp_ext {g g' : Ct} {nc i : Nat} (hw : ct_wf nc g) (h : ∀ j, j ≤ i → g' j = g j) : ct_dp g' i = ct_dp g i := ct_fd_ext hw _ _ (fun j hj => ⟨h j hj, rfl⟩)
theorem ct_vl_ext {g g' : Ct} {bv bv' : Nat → Bool} {nc i : Nat} (hw : ct_wf nc g) (h : ∀ j, j ≤ i → g' j = g j ∧ bv' j = bv j) : ct_vl g' bv' i = ct_vl g bv i := ct_fd_ext hw _ _ h
/-- how many gates before node k have node i in a literal -/
def ct_us (g : Ct) : Nat → Nat → Nat
  | 0, _ => 0
  | k + 1, i => match g k with
    | none => ct_us g k i
    | some q => ct_us g k i + (if q.1 / 2 = i then 1 else 0) + (if q.2 / 2 = i then 1 else 0)
/-- the newest gate before node k whose second literal has node h; 0: none -/
def ct_nw (g : Ct) : Nat → Nat → Nat
  | 0, _ => 0
  | k + 1, h => match g k with
    | none => ct_nw g k h
    | some q => if q.2 / 2 = h then k else ct_nw g k h
theorem ct_us_ext {g g' : Ct} : ∀ (k i : Nat), (∀ j, j < k → g' j = g j) → ct_us g' k i = ct_us g k i := by
  intro k
  induction k with
  | zero => intro i _; rfl
  | succ k ih =>
    intro i he
    unfold ct_us
    rw [he k (by omega), ih i (fun j hj => he j (by omega))]
theorem ct_nw_ext {g g' : Ct} : ∀ (k h : Nat), (∀ j, j < k → g' j = g j) → ct_nw g' k h = ct_nw g k h := by
  intro k
  induction k with
  | zero => intro h _; rfl
  | succ k ih =>
    intro h he
    unfold ct_nw
    rw [he k (by omega), ih h (fun j hj => he j (by omega))]
theorem ct_us_0 {g : Ct} {nc : Nat} (hw : ct_wf nc g) : ∀ (k i : Nat), k ≤ i → ct_us g k i = 0 := by
  intro k
  induction k with
  | zero => intro i _; rfl
  | succ k ih =>
    intro i hi
    unfold ct_us
    cases hg : g k with
    | none => exact ih i (by omega)
    | some q =>
      obtain ⟨x, y⟩ := q
      have h3 := hw.1 k x y hg
      dsimp only
      rw [ih i (by omega), if_neg (by omega), if_neg (by omega)]
theorem ct_nw_0 {g : Ct} {nc : Nat} (hw : ct_wf nc g) : ∀ (k h : Nat), k ≤ h + 1 → ct_nw g k h = 0 := by
  intro k
  induction k with
  | zero => intro i _; rfl
  | succ k ih =>
    intro h hi
    unfold ct_nw
    cases hg : g k with
    | none => exact ih h (by omega)
    | some q =>
      obtain ⟨x, y⟩ := q
      have h3 := hw.1 k x y hg
      dsimp only
      rw [if_neg (by omega)]
      exact ih h (by omega)
theorem ct_us_le {g : Ct} : ∀ (k i : Nat), ct_us g k i ≤ 2 * k := by
  intro k
  induction k with
  | zero => intro i; exact Nat.le_refl 0
  | succ k ih =>
    intro i
    have h1 := ih i
    unfold ct_us
    cases g k with
    | none => dsimp only; omega
    | some q =>
      dsimp only
      split <;> split <;> omega
theorem ct_nw_lt {g : Ct} : ∀ (k h : Nat), ct_nw g k h = 0 ∨ ct_nw g k h < k := by
  intro k
  induction k with
  | zero => intro h; exact Or.inl rfl
  | succ k ih =>
    intro h
    have h1 := ih h
    unfold ct_nw
    cases g k with
    | none => dsimp only; omega
    | some q =>
      dsimp only
      split <;> omega
/-- what the chain's first one is: 0 and none there, or a gate over h, and none newer -/
theorem ct_nw_is {g : Ct} {nc : Nat} (hw : ct_wf nc g) : ∀ (k h : Nat), (∀ j x y, j < k → g j = some (x, y) → y / 2 = h → j ≤ ct_nw g k h) ∧ (ct_nw g k h ≠ 0 → ∃ x y, g (ct_nw g k h) = some (x, y) ∧ y / 2 = h) := by
  intro k
  induction k with
  | zero => intro h; exact ⟨fun j x y hj => by omega, fun hn => absurd rfl hn⟩
  | succ k ih =>
    intro h
    obtain ⟨h1, h2⟩ := ih h
    unfold ct_nw
    cases hg : g k with
    | none =>
      dsimp only
      refine ⟨fun j x y hj e1 e2 => ?_, h2⟩
      by_cases hjk : j = k
      · subst hjk; rw [hg] at e1; cases e1
      · exact h1 j x y (by omega) e1 e2
    | some q =>
      obtain ⟨u, v⟩ := q
      dsimp only
      by_cases hv : v / 2 = h
      · rw [if_pos hv]
        exact ⟨fun j x y hj _ _ => by omega, fun _ => ⟨u, v, hg, hv⟩⟩
      · rw [if_neg hv]
        refine ⟨fun j x y hj e1 e2 => ?_, h2⟩
        by_cases hjk : j = k
        · subst hjk; rw [hg] at e1; cases e1; exact absurd e2 hv
        · exact h1 j x y (by omega) e1 e2
theorem ct_dp_le {g : Ct} {nc : Nat} (hw : ct_wf nc g) : ∀ (k i : Nat), i < k → ct_dp g i ≤ i := by
  intro k
  induction k with
  | zero => intro i h; omega
  | succ k ih =>
    intro i hi
    cases hg : g i with
    | none => rw [ct_dp_n hg]; omega
    | some q =>
      obtain ⟨x, y⟩ := q
      have h3 := hw.1 i x y hg
      have h4 := ih (x / 2) (by omega)
      have h5 := ih (y / 2) (by omega)
      rw [ct_dp_s hw hg]
      omega
-- ===== the whole of the bench's state, by its circuit =====
def ct_b (b : Bool) : Int32 := if b then 1 else 0
/-- n: rows' length; nc nodes, ic inputs; g the gates, bv the inputs' setting -/
def gb_ok (n nc ic : Nat) (g : Ct) (bv : Nat → Bool) (ar : Nat → Nat → Int32) (iv : Nat → Int32) : Prop :=
  ct_at n nc g ar ∧ 16 ≤ n ∧ iv 0 = nI nc ∧ iv 1 = nI ic ∧ bv 0 = false ∧ (∀ i, nc ≤ i → bv i = false) ∧
  (∀ i, i < n → ar 2 i = nI (ct_us g nc i)) ∧ (∀ i, i < n → ar 3 i = nI (ct_dp g i)) ∧
  (∀ h, h < n → ar 6 h = nI (ct_nw g nc h)) ∧ (∀ j x y, g j = some (x, y) → ar 7 j = nI (ct_nw g j (y / 2))) ∧
  (∀ i, i < n → g i = none → ar 4 i = ct_b (bv i)) ∧ (∀ i, i < n → ∃ b, ar 4 i = ct_b b) ∧
  ∃ st, iv 2 = nI st ∧ 1 ≤ st ∧ st ≤ nc ∧ ∀ i, i < st → ar 4 i = ct_b (ct_vl g bv i)
