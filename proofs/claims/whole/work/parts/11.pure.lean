-- ===== numbers =====
/-- NOT of a literal -/
def ct_nt (a : Nat) : Nat := if a % 2 = 0 then a + 1 else a - 1
theorem ct_nt_nt (a : Nat) : ct_nt (ct_nt a) = a := by
  unfold ct_nt
  split <;> split <;> omega
theorem ct_nt_div (a : Nat) : ct_nt a / 2 = a / 2 := by
  unfold ct_nt
  split <;> omega
theorem ct_nt_lt {a m : Nat} (h : a < 2 * m) : ct_nt a < 2 * m := by
  unfold ct_nt
  split <;> omega
theorem ct_nt_le (a : Nat) : ct_nt a ≤ a + 1 := by
  unfold ct_nt
  split <;> omega
theorem ct_xor1 (a : Nat) : a ^^^ 1 = ct_nt a := by
  have h1 : (a ^^^ 1) / 2 = a / 2 := by
    have := Nat.xor_div_two_pow (a := a) (b := 1) (n := 1)
    simpa using this
  have h2 : (a ^^^ 1) % 2 = (a % 2) ^^^ 1 := by
    have := Nat.xor_mod_two_pow (a := a) (b := 1) (n := 1)
    simpa using this
  have h3 : a % 2 = 0 ∨ a % 2 = 1 := by omega
  unfold ct_nt
  rcases h3 with h | h
  · rw [h] at h2
    have h2 : (a ^^^ 1) % 2 = 1 := h2
    rw [if_pos h]
    omega
  · rw [h] at h2
    have h2 : (a ^^^ 1) % 2 = 0 := h2
    rw [if_neg (by omega)]
    omega
theorem ct_nIxor (a : Nat) : nI a ^^^ 1 = nI (ct_nt a) := by
  rw [← ct_xor1]
  apply Int32.toBitVec_inj.mp
  show (Int32.ofNat a ^^^ 1).toBitVec = (Int32.ofNat (a ^^^ 1)).toBitVec
  rw [Int32.toBitVec_xor]
  simp [BitVec.ofNat_xor]
theorem ct_shr {a : Nat} (h : a < 2 ^ 31) : nI a >>> ((1 : Int32) &&& 31) = nI (a / 2) := pk_shrN h _ 1 (by decide)
theorem ct_shl {a : Nat} (h : a < 2 ^ 30) : nI a <<< ((1 : Int32) &&& 31) = nI (2 * a) := by
  rw [pk_shlN (1 &&& 31) 1 (by decide) (by omega), Nat.mul_comm]
theorem ct_and1 {a : Nat} (h : a < 2 ^ 31) : nI a &&& 1 = nI (a % 2) := pk_andN (by omega) 1 (by decide)
theorem ct_m1 {a : Nat} (h : a < 2 ^ 31) : ¬ nI a = -1 := by
  intro e
  have h1 := nI_toInt h
  rw [e] at h1
  have h2 : (-1 : Int32).toInt = -1 := by decide
  omega
theorem ct_m1' {a : Nat} (h : a < 2 ^ 31) : ¬ (-1 : Int32) = nI a := fun e => ct_m1 h e.symm
-- ===== circuits: a node's two literals where it is a gate =====
abbrev Ct : Type := Nat → Option (Nat × Nat)
def ct_wf (nc : Nat) (g : Ct) : Prop := (∀ i x y, g i = some (x, y) → i < nc ∧ 2 ≤ x ∧ x / 2 < y / 2 ∧ y / 2 < i) ∧ ∀ i j q, g i = some q → g j = some q → i = j
def ct_f (g : Ct) (i : Nat) : Int32 := match g i with
  | none => -1
  | some q => nI q.1
def ct_s (g : Ct) (i : Nat) : Int32 := match g i with
  | none => -1
  | some q => nI q.2
/-- the rows of literals hold the circuit -/
def ct_at (n nc : Nat) (g : Ct) (ar : Nat → Nat → Int32) : Prop := 1 ≤ nc ∧ nc ≤ n ∧ n ≤ 65536 ∧ ct_wf nc g ∧ ∀ i, i < nc → ar 0 i = ct_f g i ∧ ar 1 i = ct_s g i
-- ===== what the class's questions answer, in the machine's numbers =====
def gb_gate (ar : Nat → Nat → Int32) (x : Int32) : Int32 := if ar 0 x.toNatClampNeg = -1 then 0 else 1
def gb_neg (x : Int32) : Int32 := if x &&& 1 = 1 then 1 else 0
def gb_has (ar : Nat → Nat → Int32) (x y : Int32) : Int32 := if ar 0 x.toNatClampNeg = y ∨ ar 1 x.toNatClampNeg = y then 1 else 0
def gb_sh (x : Int32) : Int32 := x >>> ((1 : Int32) &&& 31)
def gb_ag (ar : Nat → Nat → Int32) (x k : Int32) : Int32 := if gb_neg x = 0 ∧ ¬ gb_gate ar (gb_sh x) = 0 ∧ (¬ gb_has ar k (ar 0 (gb_sh x).toNatClampNeg ^^^ 1) = 0 ∨ ¬ gb_has ar k (ar 1 (gb_sh x).toNatClampNeg ^^^ 1) = 0) then 1 else 0
def gb_kn (ar : Nat → Nat → Int32) (x y : Int32) : Int32 :=
  if x = 0 ∨ x = y ^^^ 1 then 0 else if x = 1 then y else if x = y then x else if gb_gate ar (gb_sh y) = 0 then -1
  else if ¬ gb_neg y = 0 then (if ¬ gb_has ar (gb_sh y) (x ^^^ 1) = 0 then x else -1)
  else if ¬ gb_has ar (gb_sh y) x = 0 then y
  else if ¬ gb_has ar (gb_sh y) (x ^^^ 1) = 0 ∨ ¬ gb_ag ar x (gb_sh y) = 0 then 0 else -1
def gb_re (ar : Nat → Nat → Int32) (x y : Int32) : Int32 :=
  if gb_neg y = 0 ∨ gb_gate ar (gb_sh y) = 0 then -1
  else if ar 0 (gb_sh y).toNatClampNeg = x then ar 1 (gb_sh y).toNatClampNeg ^^^ 1
  else if ar 1 (gb_sh y).toNatClampNeg = x then ar 0 (gb_sh y).toNatClampNeg ^^^ 1 else -1
-- ===== the same in plain numbers =====
def ct_has (g : Ct) (i b : Nat) : Bool := match g i with
  | none => false
  | some q => q.1 == b || q.2 == b
def ct_ag (g : Ct) (a i : Nat) : Bool := match g (a / 2) with
  | none => false
  | some q => a % 2 == 0 && (ct_has g i (ct_nt q.1) || ct_has g i (ct_nt q.2))
def ct_kn (g : Ct) (x y : Nat) : Option Nat :=
  if x = 0 ∨ x = ct_nt y then some 0 else if x = 1 then some y else if x = y then some x else if g (y / 2) = none then none
  else if y % 2 = 1 then (if ct_has g (y / 2) (ct_nt x) = true then some x else none)
  else if ct_has g (y / 2) x = true then some y
  else if ct_has g (y / 2) (ct_nt x) = true ∨ ct_ag g x (y / 2) = true then some 0 else none
def ct_re (g : Ct) (x y : Nat) : Option Nat := match g (y / 2) with
  | none => none
  | some q => if y % 2 = 0 then none else if q.1 = x then some (ct_nt q.2) else if q.2 = x then some (ct_nt q.1) else none
def ct_i (o : Option Nat) : Int32 := match o with
  | none => -1
  | some v => nI v
theorem gb_neg_n {a : Nat} (h : a < 2 ^ 31) : gb_neg (nI a) = 0 ↔ a % 2 = 0 := by
  unfold gb_neg
  rw [ct_and1 h]
  have h3 : a % 2 = 0 ∨ a % 2 = 1 := by omega
  rcases h3 with h | h <;> rw [h] <;> decide
theorem gb_sh_n {a : Nat} (h : a < 2 ^ 31) : gb_sh (nI a) = nI (a / 2) := ct_shr h
theorem ct_at_lt {n nc : Nat} {g : Ct} {ar : Nat → Nat → Int32} (h : ct_at n nc g ar) {i x y : Nat} (hi : g i = some (x, y)) : i < nc ∧ 2 ≤ x ∧ x < y ∧ x / 2 < y / 2 ∧ y / 2 < i ∧ x < 2 * nc ∧ y < 2 * nc ∧ nc ≤ 65536 := by
  have h1 := h.2.2.2.1.1 i x y hi
  have h2 := h.2.1
  have h3 := h.2.2.1
  omega
theorem ct_at_f {n nc : Nat} {g : Ct} {ar : Nat → Nat → Int32} (h : ct_at n nc g ar) {i x y : Nat} (hi : g i = some (x, y)) : ar 0 i = nI x ∧ ar 1 i = nI y := by
  have h1 := h.2.2.2.2 i (ct_at_lt h hi).1
  simp only [ct_f, ct_s, hi] at h1
  exact h1
theorem ct_at_n {n nc : Nat} {g : Ct} {ar : Nat → Nat → Int32} (h : ct_at n nc g ar) {i : Nat} (hi : g i = none) (hn : i < nc) : ar 0 i = -1 ∧ ar 1 i = -1 := by
  have h1 := h.2.2.2.2 i hn
  simp only [ct_f, ct_s, hi] at h1
  exact h1
theorem gb_gate_n {n nc : Nat} {g : Ct} {ar : Nat → Nat → Int32} (h : ct_at n nc g ar) {i : Nat} (hi : i < nc) : gb_gate ar (nI i) = 0 ↔ g i = none := by
  have hn := h.2.1
  have hb := h.2.2.1
  unfold gb_gate
  rw [nI_clamp (by omega)]
  cases hg : g i with
  | none => rw [(ct_at_n h hg hi).1]; simp
  | some q =>
    obtain ⟨x, y⟩ := q
    have h1 := ct_at_lt h hg
    rw [(ct_at_f h hg).1, if_neg (ct_m1 (by omega))]
    simp
theorem gb_has_n {n nc : Nat} {g : Ct} {ar : Nat → Nat → Int32} (h : ct_at n nc g ar) {i b : Nat} (hi : i < nc) (hb : b < 2 ^ 31) : gb_has ar (nI i) (nI b) = 0 ↔ ct_has g i b = false := by
  have hn := h.2.1
  have h3 := h.2.2.1
  unfold gb_has ct_has
  rw [nI_clamp (by omega)]
  cases hg : g i with
  | none =>
    rw [(ct_at_n h hg hi).1, (ct_at_n h hg hi).2, if_neg (fun e => e.elim (ct_m1' hb) (ct_m1' hb))]
    simp
  | some q =>
    obtain ⟨x, y⟩ := q
    have h1 := ct_at_lt h hg
    have e1 := nI_eq (a := x) (b := b) (by omega) hb
    have e2 := nI_eq (a := y) (b := b) (by omega) hb
    rw [(ct_at_f h hg).1, (ct_at_f h hg).2]
    simp only [e1, e2]
    by_cases e : x = b ∨ y = b
    · rw [if_pos e]
      rcases e with e | e <;> simp [e]
    · rw [if_neg e]
      simp only [true_iff, Bool.or_eq_false_iff, beq_eq_false_iff_ne, ne_eq]
      exact ⟨fun q => e (Or.inl q), fun q => e (Or.inr q)⟩
theorem gb_ag_n {n nc : Nat} {g : Ct} {ar : Nat → Nat → Int32} (h : ct_at n nc g ar) {a i : Nat} (ha : a < 2 * nc) (hi : i < nc) : gb_ag ar (nI a) (nI i) = 0 ↔ ct_ag g a i = false := by
  have hn := h.2.1
  have h3 := h.2.2.1
  have e1 := gb_neg_n (a := a) (by omega)
  have e2 := gb_gate_n h (i := a / 2) (by omega)
  unfold gb_ag ct_ag
  rw [gb_sh_n (by omega), nI_clamp (by omega)]
  simp only [e1, e2]
  cases hg : g (a / 2) with
  | none => simp
  | some q =>
    obtain ⟨x, y⟩ := q
    have h1 := ct_at_lt h hg
    have h4 := ct_nt_le x
    have h5 := ct_nt_le y
    have e3 := gb_has_n h (b := ct_nt x) hi (by omega)
    have e4 := gb_has_n h (b := ct_nt y) hi (by omega)
    rw [(ct_at_f h hg).1, (ct_at_f h hg).2, ct_nIxor, ct_nIxor]
    simp only [e3, e4]
    have e0 : a % 2 = 0 ∨ ¬ a % 2 = 0 := Decidable.em _
    rcases e0 with e0 | e0 <;> cases ct_has g i (ct_nt x) <;> cases ct_has g i (ct_nt y) <;> simp [e0]
theorem gb_kn_n {n nc : Nat} {g : Ct} {ar : Nat → Nat → Int32} (h : ct_at n nc g ar) {x y : Nat} (hxy : x ≤ y) (hy : y < 2 * nc) : gb_kn ar (nI x) (nI y) = ct_i (ct_kn g x y) := by
  have hn := h.2.1
  have h3 := h.2.2.1
  have h4 := ct_nt_le x
  have h5 := ct_nt_le y
  have i0 : (0 : Int32) = nI 0 := rfl
  have i1 : (1 : Int32) = nI 1 := rfl
  have b1 := gb_gate_n h (i := y / 2) (by omega)
  have b2 := gb_neg_n (a := y) (by omega)
  have b3 := gb_has_n h (i := y / 2) (b := ct_nt x) (by omega) (by omega)
  have b4 := gb_has_n h (i := y / 2) (b := x) (by omega) (by omega)
  have b5 := gb_ag_n h (a := x) (i := y / 2) (by omega) (by omega)
  have b6 := nI_eq (a := x) (b := ct_nt y) (by omega) (by omega)
  have b7 := nI_eq (a := x) (b := y) (by omega) (by omega)
  unfold gb_kn
  rw [ct_nIxor, ct_nIxor, gb_sh_n (by omega)]
  have a0 : nI x = 0 ↔ x = 0 := nI_eq (a := x) (b := 0) (by omega) (by omega)
  have a1 : nI x = 1 ↔ x = 1 := nI_eq (a := x) (b := 1) (by omega) (by omega)
  simp only [a0, a1, b1, b2, b3, b4, b5, b6, b7]
  unfold ct_kn
  by_cases c1 : x = 0 ∨ x = ct_nt y
  · rw [if_pos c1, if_pos c1]; rfl
  rw [if_neg c1, if_neg c1]
  by_cases c2 : x = 1
  · rw [if_pos c2, if_pos c2]; rfl
  rw [if_neg c2, if_neg c2]
  by_cases c3 : x = y
  · rw [if_pos c3, if_pos c3]; rfl
  rw [if_neg c3, if_neg c3]
  by_cases c4 : g (y / 2) = none
  · rw [if_pos c4, if_pos c4]; rfl
  rw [if_neg c4, if_neg c4]
  have e0 : y % 2 = 0 ∨ y % 2 = 1 := by omega
  rcases e0 with e0 | e0 <;> cases ct_has g (y / 2) (ct_nt x) <;> cases ct_has g (y / 2) x <;> cases ct_ag g x (y / 2) <;> simp [e0, ct_i, nI_0]
theorem gb_re_n {n nc : Nat} {g : Ct} {ar : Nat → Nat → Int32} (h : ct_at n nc g ar) {x y : Nat} (hxy : x ≤ y) (hy : y < 2 * nc) : gb_re ar (nI x) (nI y) = ct_i (ct_re g x y) := by
  have hn := h.2.1
  have h3 := h.2.2.1
  have b1 := gb_gate_n h (i := y / 2) (by omega)
  have b2 := gb_neg_n (a := y) (by omega)
  unfold gb_re ct_re
  rw [gb_sh_n (by omega), nI_clamp (by omega)]
  simp only [b1, b2]
  cases hg : g (y / 2) with
  | none => simp [ct_i]
  | some q =>
    obtain ⟨u, v⟩ := q
    have h1 := ct_at_lt h hg
    have h4 := ct_nt_le u
    have h5 := ct_nt_le v
    have b3 := nI_eq (a := u) (b := x) (by omega) (by omega)
    have b4 := nI_eq (a := v) (b := x) (by omega) (by omega)
    rw [(ct_at_f h hg).1, (ct_at_f h hg).2, ct_nIxor, ct_nIxor]
    simp only [b3, b4]
    have e0 : y % 2 = 0 ∨ y % 2 = 1 := by omega
    rcases e0 with e0 | e0
    · simp [e0, ct_i]
    · by_cases c1 : u = x
      · simp [e0, c1, ct_i]
      · by_cases c2 : v = x
        · simp [e0, c1, c2, ct_i]
        · simp [e0, c1, c2, ct_i]
-- ===== AND: the pair that the rules leave =====
/-- fuel, lesser, greater: a literal that a rule tells, or the two of the gate -/
def ct_rd (g : Ct) : Nat → Nat → Nat → Nat ⊕ (Nat × Nat)
  | 0, x, y => .inr (x, y)
  | k + 1, x, y => match ct_kn g x y with
    | some v => .inl v
    | none => match ct_re g x y with
      | none => .inr (x, y)
      | some r => ct_rd g k (min x r) (max x r)
theorem ct_re_lt {nc : Nat} {g : Ct} (h : ct_wf nc g) {x y r : Nat} (e : ct_re g x y = some r) (hxy : x ≤ y) : r / 2 < y / 2 ∧ x / 2 < y / 2 ∧ r < 2 * nc ∧ max x r / 2 < y / 2 ∧ max x r < 2 * nc ∧ min x r ≤ max x r := by
  unfold ct_re at e
  cases hg : g (y / 2) with
  | none => simp [hg] at e
  | some q =>
    obtain ⟨u, v⟩ := q
    have h1 := h.1 _ _ _ hg
    simp only [hg] at e
    have h2 := ct_nt_div u
    have h3 := ct_nt_div v
    have hxr : x / 2 < y / 2 ∧ r / 2 < y / 2 := by
      split at e
      · cases e
      · split at e
        · cases e; omega
        · split at e
          · cases e; omega
          · cases e
    have hm : max x r / 2 < y / 2 := by
      rcases Nat.le_total x r with q | q
      · rw [Nat.max_eq_right q]; exact hxr.2
      · rw [Nat.max_eq_left q]; exact hxr.1
    refine ⟨hxr.2, hxr.1, by omega, hm, by omega, ?_⟩
    exact Nat.le_trans (Nat.min_le_left x r) (Nat.le_max_left x r)
theorem ct_rd_fuel {nc : Nat} {g : Ct} (h : ct_wf nc g) : ∀ (k j x y : Nat), x ≤ y → y / 2 < k → y / 2 < j → ct_rd g k x y = ct_rd g j x y := by
  intro k
  induction k with
  | zero => intro j x y _ h1; omega
  | succ k ih =>
    intro j x y hxy h1 h2
    cases j with
    | zero => omega
    | succ j =>
      unfold ct_rd
      cases ct_kn g x y with
      | some v => rfl
      | none =>
        dsimp only
        cases e : ct_re g x y with
        | none => rfl
        | some r =>
          have h3 := ct_re_lt h e hxy
          exact ih j _ _ h3.2.2.2.2.2 (by omega) (by omega)
theorem ct_kn_le {g : Ct} {x y v : Nat} (h : ct_kn g x y = some v) (hxy : x ≤ y) : v ≤ y := by
  unfold ct_kn at h
  repeat' split at h
  all_goals first | (cases h; omega) | cases h
theorem ct_kn_gap {g : Ct} {x y : Nat} (h : ct_kn g x y = none) (hxy : x ≤ y) : 2 ≤ x ∧ x / 2 < y / 2 := by
  unfold ct_kn at h
  by_cases c1 : x = 0 ∨ x = ct_nt y
  · rw [if_pos c1] at h; cases h
  rw [if_neg c1] at h
  by_cases c2 : x = 1
  · rw [if_pos c2] at h; cases h
  rw [if_neg c2] at h
  by_cases c3 : x = y
  · rw [if_pos c3] at h; cases h
  have c4 : x ≠ ct_nt y := fun z => c1 (Or.inr z)
  have c5 : x ≠ 0 := fun z => c1 (Or.inl z)
  unfold ct_nt at c4
  split at c4 <;> omega
theorem ct_imin {a b : Nat} (ha : a < 2 ^ 31) (hb : b < 2 ^ 31) : (if nI b < nI a then nI b else nI a) = nI (min a b) := by
  simp only [nI_ltI (a := b) (b := a) hb ha]
  split
  · rw [Nat.min_eq_right (by omega)]
  · rw [Nat.min_eq_left (by omega)]
theorem ct_imax {a b : Nat} (ha : a < 2 ^ 31) (hb : b < 2 ^ 31) : (if nI a < nI b then nI b else nI a) = nI (max a b) := by
  simp only [nI_ltI (a := a) (b := b) ha hb]
  split
  · rw [Nat.max_eq_right (by omega)]
  · rw [Nat.max_eq_left (by omega)]
def gb_val (ar : Nat → Nat → Int32) (x : Int32) : Int32 := ar 4 (gb_sh x).toNatClampNeg ^^^ (x &&& 1)
def gb_kind (ar : Nat → Nat → Int32) (x : Int32) : Int32 := if x = 0 then 0 else if gb_gate ar x = 0 then 1 else 2
