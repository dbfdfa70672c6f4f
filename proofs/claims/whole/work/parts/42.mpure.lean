-- ===== the reference's state, by the same circuit =====
def mm_ok (nc ic : Nat) (g : Ct) (bv : Nat → Bool) (ar : Nat → Nat → Int32) (iv : Nat → Int32) : Prop :=
  1 ≤ nc ∧ nc ≤ 20000 ∧ ct_wf nc g ∧ iv 1 = nI nc ∧ iv 2 = nI ic ∧ bv 0 = false ∧ (∀ i, nc ≤ i → bv i = false) ∧
  (∀ i, i < nc → ar 0 i = ct_kd g i) ∧ (∀ i x y, g i = some (x, y) → ar 1 i = nI x ∧ ar 2 i = nI y) ∧
  (∀ i, i < nc → g i = none → ar 3 i = ct_b (bv i)) ∧ (∀ i, i < nc → ∃ b, ar 3 i = ct_b b)
section MOK
variable {c9 i9 : Nat} {g : Ct} {bv : Nat → Bool} {ar : Nat → Nat → Int32} {iv : Nat → Int32}
theorem mm_ok.n1 (h : mm_ok c9 i9 g bv ar iv) : 1 ≤ c9 := h.1
theorem mm_ok.mx (h : mm_ok c9 i9 g bv ar iv) : c9 ≤ 20000 := h.2.1
theorem mm_ok.wf (h : mm_ok c9 i9 g bv ar iv) : ct_wf c9 g := h.2.2.1
theorem mm_ok.nc (h : mm_ok c9 i9 g bv ar iv) : iv 1 = nI c9 := h.2.2.2.1
theorem mm_ok.ic (h : mm_ok c9 i9 g bv ar iv) : iv 2 = nI i9 := h.2.2.2.2.1
theorem mm_ok.bv0 (h : mm_ok c9 i9 g bv ar iv) : bv 0 = false := h.2.2.2.2.2.1
theorem mm_ok.bvn (h : mm_ok c9 i9 g bv ar iv) : ∀ i, c9 ≤ i → bv i = false := h.2.2.2.2.2.2.1
theorem mm_ok.kd (h : mm_ok c9 i9 g bv ar iv) : ∀ i, i < c9 → ar 0 i = ct_kd g i := h.2.2.2.2.2.2.2.1
theorem mm_ok.fs (h : mm_ok c9 i9 g bv ar iv) : ∀ i x y, g i = some (x, y) → ar 1 i = nI x ∧ ar 2 i = nI y := h.2.2.2.2.2.2.2.2.1
theorem mm_ok.vi (h : mm_ok c9 i9 g bv ar iv) : ∀ i, i < c9 → g i = none → ar 3 i = ct_b (bv i) := h.2.2.2.2.2.2.2.2.2.1
theorem mm_ok.vb (h : mm_ok c9 i9 g bv ar iv) : ∀ i, i < c9 → ∃ b, ar 3 i = ct_b b := h.2.2.2.2.2.2.2.2.2.2
theorem mm_ok.lt (h : mm_ok c9 i9 g bv ar iv) {i x y : Nat} (hg : g i = some (x, y)) : i < c9 ∧ 2 ≤ x ∧ x < y ∧ x / 2 < y / 2 ∧ y / 2 < i ∧ x < 2 * c9 ∧ y < 2 * c9 := by
  have h1 := h.wf.1 i x y hg
  omega
end MOK
theorem ct_kd_2 {nc : Nat} {g : Ct} (hw : ct_wf nc g) (i : Nat) : ct_kd g i = 2 ↔ g i ≠ none := by
  unfold ct_kd
  by_cases h0 : i = 0
  · rw [if_pos h0, h0, ct_zero hw]; simp
  · rw [if_neg h0]
    by_cases h1 : g i = none
    · rw [if_pos h1]; simp [h1]
    · rw [if_neg h1]; simp [h1]
/-- is a a gate's literal, negated or not -/
def ct_gq (g : Ct) (a : Nat) (neg : Bool) : Bool := (g (a / 2)).isSome && (decide (a % 2 = 1) == neg)
def md_sh (g : Ct) (a b : Nat) : Bool := match g (b / 2) with
  | none => false
  | some q => ct_has g (a / 2) (ct_nt q.1) || ct_has g (a / 2) (ct_nt q.2)
def md_r (g : Ct) (k a b : Nat) : Option Nat := match k with
  | 0 => if a = 0 then some 0 else none
  | 1 => if a = 1 then some b else none
  | 2 => if a = b then some a else none
  | 3 => if a = ct_nt b then some 0 else none
  | 4 => if ct_gq g a false = true ∧ ct_has g (a / 2) b = true then some a else none
  | 5 => if ct_gq g a false = true ∧ ct_has g (a / 2) (ct_nt b) = true then some 0 else none
  | 6 => if ct_gq g a true = true ∧ ct_has g (a / 2) (ct_nt b) = true then some b else none
  | _ => if ct_gq g a false = true ∧ ct_gq g b false = true ∧ md_sh g a b = true then some 0 else none
section MI
variable {nc ic : Nat} {g : Ct} {bv : Nat → Bool} {ar : Nat → Nat → Int32} {iv : Nat → Int32}
theorem mm_gate (h : mm_ok nc ic g bv ar iv) {a : Nat} (ha : a < 2 * nc) (neg : Bool) : mi_gate ar (nI a) (ct_b neg) = 0 ↔ ct_gq g a neg = false := by
  have hm := h.mx
  have e1 := h.kd (a / 2) (by omega)
  have e2 := ct_kd_2 h.wf (a / 2)
  unfold mi_gate ct_gq
  rw [gb_sh_n (by omega), nI_clamp (by omega), e1]
  simp only [e2]
  have e3 : gb_neg (nI a) = ct_b (decide (a % 2 = 1)) := by
    unfold gb_neg
    rw [ct_and1 (by omega)]
    have h3 : a % 2 = 0 ∨ a % 2 = 1 := by omega
    rcases h3 with h3 | h3 <;> rw [h3] <;> decide
  rw [e3]
  cases hg : g (a / 2) with
  | none => simp
  | some q =>
    cases decide (a % 2 = 1) <;> cases neg <;> simp [ct_b]
theorem mm_has (h : mm_ok nc ic g bv ar iv) {a b : Nat} (ha : a < 2 * nc) (hb : b < 2 ^ 31) (hg : g (a / 2) ≠ none) : mi_has ar (nI a) (nI b) = 0 ↔ ct_has g (a / 2) b = false := by
  have hm := h.mx
  unfold mi_has ct_has
  rw [gb_sh_n (by omega), nI_clamp (by omega)]
  cases hg' : g (a / 2) with
  | none => exact absurd hg' hg
  | some q =>
    obtain ⟨x, y⟩ := q
    have h1 := h.lt hg'
    have h2 := h.fs _ _ _ hg'
    have e1 := nI_eq (a := x) (b := b) (by omega) hb
    have e2 := nI_eq (a := y) (b := b) (by omega) hb
    rw [h2.1, h2.2]
    simp only [e1, e2]
    by_cases e : x = b ∨ y = b
    · rw [if_pos e]
      rcases e with e | e <;> simp [e]
    · rw [if_neg e]
      simp only [true_iff, Bool.or_eq_false_iff, beq_eq_false_iff_ne, ne_eq]
      exact ⟨fun q => e (Or.inl q), fun q => e (Or.inr q)⟩
theorem ct_gq_some {a : Nat} {neg : Bool} (h : ct_gq g a neg = true) : g (a / 2) ≠ none := by
  unfold ct_gq at h
  cases hg : g (a / 2) with
  | none => simp [hg] at h
  | some q => simp
theorem mm_gh (h : mm_ok nc ic g bv ar iv) {a b : Nat} (ha : a < 2 * nc) (hb : b < 2 ^ 31) (neg : Bool) : (¬ mi_gate ar (nI a) (ct_b neg) = 0 ∧ ¬ mi_has ar (nI a) (nI b) = 0) ↔ (ct_gq g a neg = true ∧ ct_has g (a / 2) b = true) := by
  have e1 := mm_gate h ha neg
  rw [e1]
  cases hq : ct_gq g a neg with
  | false => simp
  | true =>
    have e2 := mm_has h ha hb (ct_gq_some hq)
    rw [e2]
    cases ct_has g (a / 2) b <;> simp
theorem mm_rule (h : mm_ok nc ic g bv ar iv) {k a b : Nat} (hk : k < 8) (ha : a < 2 * nc) (hb : b < 2 * nc) : mi_rule ar k (nI a) (nI b) = ct_i (md_r g k a b) := by
  have hm := h.mx
  have n4 := ct_nt_le a
  have n5 := ct_nt_le b
  have a0 : nI a = 0 ↔ a = 0 := nI_eq (a := a) (b := 0) (by omega) (by omega)
  have a1 : nI a = 1 ↔ a = 1 := nI_eq (a := a) (b := 1) (by omega) (by omega)
  have a2 := nI_eq (a := a) (b := b) (by omega) (by omega)
  have a3 := nI_eq (a := a) (b := ct_nt b) (by omega) (by omega)
  have b4 := mm_gh h ha (b := b) (by omega) false
  have b5 := mm_gh h ha (b := ct_nt b) (by omega) false
  have b6 := mm_gh h ha (b := ct_nt b) (by omega) true
  have c0 : ct_b false = 0 := rfl
  have c1 : ct_b true = 1 := rfl
  rw [c0] at b4 b5
  rw [c1] at b6
  rcases (show k = 0 ∨ k = 1 ∨ k = 2 ∨ k = 3 ∨ k = 4 ∨ k = 5 ∨ k = 6 ∨ k = 7 by omega) with rfl | rfl | rfl | rfl | rfl | rfl | rfl | rfl
  · simp only [mi_rule, md_r, a0]; split <;> rfl
  · simp only [mi_rule, md_r, a1]; split <;> rfl
  · simp only [mi_rule, md_r, a2]; split <;> rfl
  · simp only [mi_rule, md_r, ct_nIxor, a3]; split <;> rfl
  · simp only [mi_rule, md_r, b4]; split <;> rfl
  · simp only [mi_rule, md_r, ct_nIxor, b5]; split <;> rfl
  · simp only [mi_rule, md_r, ct_nIxor, b6]; split <;> rfl
  · simp only [mi_rule, md_r]
    have e1 := mm_gate h ha false
    have e2 := mm_gate h hb false
    rw [c0] at e1 e2
    have e3 : (¬ mi_gate ar (nI a) 0 = 0 ∧ ¬ mi_gate ar (nI b) 0 = 0 ∧ (¬ mi_has ar (nI a) (ar 1 (gb_sh (nI b)).toNatClampNeg ^^^ 1) = 0 ∨ ¬ mi_has ar (nI a) (ar 2 (gb_sh (nI b)).toNatClampNeg ^^^ 1) = 0)) ↔ (ct_gq g a false = true ∧ ct_gq g b false = true ∧ md_sh g a b = true) := by
      rw [e1, e2]
      cases q1 : ct_gq g a false with
      | false => simp
      | true =>
        cases q2 : ct_gq g b false with
        | false => simp
        | true =>
          have g2 := ct_gq_some q2
          unfold md_sh
          rw [gb_sh_n (by omega), nI_clamp (by omega)]
          cases hg : g (b / 2) with
          | none => exact absurd hg g2
          | some q =>
            obtain ⟨x, y⟩ := q
            have h1 := h.lt hg
            have h2 := h.fs _ _ _ hg
            have n6 := ct_nt_le x
            have n7 := ct_nt_le y
            rw [h2.1, h2.2, ct_nIxor, ct_nIxor]
            have e5 := mm_has h ha (b := ct_nt x) (by omega) (ct_gq_some q1)
            have e6 := mm_has h ha (b := ct_nt y) (by omega) (ct_gq_some q1)
            rw [e5, e6]
            dsimp only
            cases ct_has g (a / 2) (ct_nt x) <;> cases ct_has g (a / 2) (ct_nt y) <;> simp
    simp only [e3]
    split <;> rfl
end MI
-- ===== a pass of the rules over a pair, in any order, is that over the pair in order =====
def md_t (g : Ct) (k a b : Nat) : Option Nat := match md_r g k a b with
  | some v => some v
  | none => md_r g k b a
def md_f (g : Ct) (k lo hi : Nat) : Option Nat := match k with
  | 0 => if lo = 0 then some 0 else none
  | 1 => if lo = 1 then some hi else none
  | 2 => if lo = hi then some lo else none
  | 3 => if lo = ct_nt hi then some 0 else none
  | 4 => if ct_gq g hi false = true ∧ ct_has g (hi / 2) lo = true then some hi else none
  | 5 => if ct_gq g hi false = true ∧ ct_has g (hi / 2) (ct_nt lo) = true then some 0 else none
  | 6 => if ct_gq g hi true = true ∧ ct_has g (hi / 2) (ct_nt lo) = true then some lo else none
  | _ => if ct_gq g hi false = true ∧ ct_gq g lo false = true ∧ md_sh g hi lo = true then some 0 else none
theorem md_low {nc : Nat} {g : Ct} (hw : ct_wf nc g) {lo hi : Nat} (h : lo ≤ hi) : ct_has g (lo / 2) hi = false ∧ ct_has g (lo / 2) (ct_nt hi) = false := by
  unfold ct_has
  cases hg : g (lo / 2) with
  | none => exact ⟨rfl, rfl⟩
  | some q =>
    obtain ⟨x, y⟩ := q
    have h1 := hw.1 _ _ _ hg
    have h2 := ct_nt_div hi
    simp only [Bool.or_eq_false_iff, beq_eq_false_iff_ne, ne_eq]
    exact ⟨⟨by omega, by omega⟩, ⟨by omega, by omega⟩⟩
theorem ct_nt_sw {a b : Nat} : a = ct_nt b ↔ b = ct_nt a := by
  constructor
  · intro h; rw [h, ct_nt_nt]
  · intro h; rw [h, ct_nt_nt]
theorem md_sh_sw {g : Ct} {a b : Nat} (ha : g (a / 2) ≠ none) (hb : g (b / 2) ≠ none) : md_sh g a b = md_sh g b a := by
  unfold md_sh ct_has
  cases h1 : g (a / 2) with
  | none => exact absurd h1 ha
  | some q =>
    cases h2 : g (b / 2) with
    | none => exact absurd h2 hb
    | some r =>
      obtain ⟨x, y⟩ := q
      obtain ⟨u, v⟩ := r
      dsimp only
      have e1 : (x == ct_nt u) = (u == ct_nt x) := by rw [Bool.eq_iff_iff, beq_iff_eq, beq_iff_eq]; exact ct_nt_sw
      have e2 : (y == ct_nt u) = (u == ct_nt y) := by rw [Bool.eq_iff_iff, beq_iff_eq, beq_iff_eq]; exact ct_nt_sw
      have e3 : (x == ct_nt v) = (v == ct_nt x) := by rw [Bool.eq_iff_iff, beq_iff_eq, beq_iff_eq]; exact ct_nt_sw
      have e4 : (y == ct_nt v) = (v == ct_nt y) := by rw [Bool.eq_iff_iff, beq_iff_eq, beq_iff_eq]; exact ct_nt_sw
      rw [e1, e2, e3, e4]
      cases (u == ct_nt x) <;> cases (u == ct_nt y) <;> cases (v == ct_nt x) <;> cases (v == ct_nt y) <;> rfl
theorem md_t_f {nc : Nat} {g : Ct} (hw : ct_wf nc g) {lo hi k : Nat} (h : lo ≤ hi) (hk : k < 8) (h0 : k = 1 → lo ≠ 0) : md_t g k lo hi = md_f g k lo hi ∧ md_t g k hi lo = md_f g k lo hi := by
  have hl := md_low hw h
  rcases (show k = 0 ∨ k = 1 ∨ k = 2 ∨ k = 3 ∨ k = 4 ∨ k = 5 ∨ k = 6 ∨ k = 7 by omega) with rfl | rfl | rfl | rfl | rfl | rfl | rfl | rfl
  · simp only [md_t, md_r, md_f]
    by_cases c : lo = 0
    · simp [c]; split <;> simp_all
    · have : hi ≠ 0 := by omega
      simp [c, this]
  · have h1 := h0 rfl
    simp only [md_t, md_r, md_f]
    by_cases c : lo = 1
    · by_cases c2 : hi = 1
      · simp [c, c2]
      · simp [c, c2]
    · have : hi ≠ 1 := by omega
      simp [c, this]
  · simp only [md_t, md_r, md_f]
    by_cases c : lo = hi
    · simp [c]
    · have : hi ≠ lo := fun z => c z.symm
      simp [c, this]
  · simp only [md_t, md_r, md_f]
    by_cases c : lo = ct_nt hi
    · have : hi = ct_nt lo := ct_nt_sw.mp c
      constructor
      · rw [if_pos c]
      · rw [if_pos this, if_pos c]
    · have : ¬ hi = ct_nt lo := fun z => c (ct_nt_sw.mp z)
      constructor
      · rw [if_neg c, if_neg this]
      · rw [if_neg this, if_neg c]
  · simp only [md_t, md_r, md_f, hl.1]
    by_cases c : ct_gq g hi false = true ∧ ct_has g (hi / 2) lo = true
    · simp [c]
    · simp [c]
  · simp only [md_t, md_r, md_f, hl.2]
    by_cases c : ct_gq g hi false = true ∧ ct_has g (hi / 2) (ct_nt lo) = true
    · simp [c]
    · simp [c]
  · simp only [md_t, md_r, md_f, hl.2]
    by_cases c : ct_gq g hi true = true ∧ ct_has g (hi / 2) (ct_nt lo) = true
    · simp [c]
    · simp [c]
  · have e : (ct_gq g lo false = true ∧ ct_gq g hi false = true ∧ md_sh g lo hi = true) ↔ (ct_gq g hi false = true ∧ ct_gq g lo false = true ∧ md_sh g hi lo = true) := by
      constructor
      · rintro ⟨q1, q2, q3⟩
        exact ⟨q2, q1, by rw [md_sh_sw (ct_gq_some q2) (ct_gq_some q1)]; exact q3⟩
      · rintro ⟨q1, q2, q3⟩
        exact ⟨q2, q1, by rw [md_sh_sw (ct_gq_some q2) (ct_gq_some q1)]; exact q3⟩
    simp only [md_t, md_r, md_f, e]
    constructor <;> (split <;> simp_all)
theorem ct_gq_n {g : Ct} {a : Nat} {neg : Bool} : ct_gq g a neg = true ↔ g (a / 2) ≠ none ∧ (decide (a % 2 = 1) = neg) := by
  unfold ct_gq
  cases g (a / 2) <;> simp
/-- what is known when the first six kinds of rule say nothing -/
theorem md_none {g : Ct} {lo hi : Nat} (k : Nat) (h : ∀ j, j < k → md_f g j lo hi = none) :
    (0 < k → lo ≠ 0) ∧ (1 < k → lo ≠ 1) ∧ (2 < k → lo ≠ hi) ∧ (3 < k → lo ≠ ct_nt hi) ∧ (4 < k → ¬ (ct_gq g hi false = true ∧ ct_has g (hi / 2) lo = true)) ∧ (5 < k → ¬ (ct_gq g hi false = true ∧ ct_has g (hi / 2) (ct_nt lo) = true)) ∧ (6 < k → ¬ (ct_gq g hi true = true ∧ ct_has g (hi / 2) (ct_nt lo) = true)) := by
  refine ⟨fun q z => ?_, fun q z => ?_, fun q z => ?_, fun q z => ?_, fun q z => ?_, fun q z => ?_, fun q z => ?_⟩
  · have := h 0 q; simp only [md_f] at this; rw [if_pos z] at this; cases this
  · have := h 1 q; simp only [md_f] at this; rw [if_pos z] at this; cases this
  · have := h 2 q; simp only [md_f] at this; rw [if_pos z] at this; cases this
  · have := h 3 q; simp only [md_f] at this; rw [if_pos z] at this; cases this
  · have := h 4 q; simp only [md_f] at this; rw [if_pos z] at this; cases this
  · have := h 5 q; simp only [md_f] at this; rw [if_pos z] at this; cases this
  · have := h 6 q; simp only [md_f] at this; rw [if_pos z] at this; cases this
theorem ct_has_some {g : Ct} {i b : Nat} (h : ct_has g i b = true) : g i ≠ none := by
  unfold ct_has at h
  cases hg : g i with
  | none => simp [hg] at h
  | some q => simp
theorem ct_ag_sh {g : Ct} {lo hi : Nat} (h : g (hi / 2) ≠ none) : ct_ag g lo (hi / 2) = true ↔ ct_gq g lo false = true ∧ md_sh g hi lo = true := by
  unfold ct_ag ct_gq md_sh
  cases g (lo / 2) with
  | none => simp
  | some q =>
    cases hh : decide (lo % 2 = 1) <;> simp_all <;> omega
theorem md_kn {g : Ct} {lo hi k v : Nat} (h : ∀ j, j < k → md_f g j lo hi = none) (hk : k < 7) (he : md_f g k lo hi = some v) : ct_kn g lo hi = some v := by
  obtain ⟨n0, n1, n2, n3, n4, n5, -⟩ := md_none k h
  unfold ct_kn
  rcases (show k = 0 ∨ k = 1 ∨ k = 2 ∨ k = 3 ∨ k = 4 ∨ k = 5 ∨ k = 6 by omega) with rfl | rfl | rfl | rfl | rfl | rfl | rfl
  · simp only [md_f] at he
    split at he
    · rw [if_pos (Or.inl (by assumption))]; exact he
    · cases he
  · have m0 := n0 (by omega)
    simp only [md_f] at he
    split at he
    · rename_i c
      by_cases z : lo = ct_nt hi
      · have : hi = 0 := by rw [ct_nt_sw.mp z, c]; rfl
        rw [if_pos (Or.inr z)]; cases he; rw [this]
      · rw [if_neg (fun q => q.elim m0 z), if_pos c]; exact he
    · cases he
  · have m0 := n0 (by omega)
    have m1 := n1 (by omega)
    simp only [md_f] at he
    split at he
    · rename_i c
      have z : ¬ lo = ct_nt hi := by
        rw [c]
        unfold ct_nt
        split <;> omega
      rw [if_neg (fun q => q.elim m0 z), if_neg m1, if_pos c]; exact he
    · cases he
  · simp only [md_f] at he
    split at he
    · rw [if_pos (Or.inr (by assumption))]; exact he
    · cases he
  all_goals
    have m0 := n0 (by omega)
    have m1 := n1 (by omega)
    have m2 := n2 (by omega)
    have m3 := n3 (by omega)
    simp only [md_f] at he
    split at he
    rotate_left
    · cases he
    rename_i c
    rw [if_neg (fun q => q.elim m0 m3), if_neg m1, if_neg m2, if_neg (ct_gq_some c.1)]
    have d := (ct_gq_n.mp c.1).2
  · rw [if_neg (by simpa using d), if_pos c.2]; exact he
  · have m4 := n4 (by omega)
    rw [if_neg (by simpa using d), if_neg (fun q => m4 ⟨c.1, q⟩), if_pos (Or.inl c.2)]; exact he
  · rw [if_pos (by simpa using d), if_pos c.2]; exact he
theorem md_pass {g : Ct} {lo hi : Nat} (h : ∀ j, j < 7 → md_f g j lo hi = none) : (ct_gq g hi true = true ∧ ct_has g (hi / 2) lo = true → ct_kn g lo hi = none) ∧ (¬ (ct_gq g hi true = true ∧ ct_has g (hi / 2) lo = true) → ct_re g lo hi = none ∧ ∀ v, (md_f g 7 lo hi = some v → ct_kn g lo hi = some v) ∧ (md_f g 7 lo hi = none → ct_kn g lo hi = none)) := by
  obtain ⟨n0, n1, n2, n3, n4, n5, n6⟩ := md_none 7 h
  have m0 := n0 (by omega)
  have m1 := n1 (by omega)
  have m2 := n2 (by omega)
  have m3 := n3 (by omega)
  have m4 := n4 (by omega)
  have m5 := n5 (by omega)
  have m6 := n6 (by omega)
  constructor
  · rintro ⟨q1, q2⟩
    have d := (ct_gq_n.mp q1).2
    unfold ct_kn
    rw [if_neg (fun q => q.elim m0 m3), if_neg m1, if_neg m2, if_neg (ct_gq_some q1), if_pos (by simpa using d), if_neg (fun q => m6 ⟨q1, q⟩)]
  · intro q
    constructor
    · unfold ct_re
      cases hg : g (hi / 2) with
      | none => rfl
      | some r =>
        obtain ⟨x, y⟩ := r
        dsimp only
        by_cases c : hi % 2 = 0
        · rw [if_pos c]
        · rw [if_neg c]
          have d : ct_gq g hi true = true := ct_gq_n.mpr ⟨by rw [hg]; simp, by simp; omega⟩
          have e : ct_has g (hi / 2) lo = false := by
            cases z : ct_has g (hi / 2) lo with
            | false => rfl
            | true => exact absurd ⟨d, z⟩ q
          unfold ct_has at e
          rw [hg] at e
          simp only [Bool.or_eq_false_iff, beq_eq_false_iff_ne, ne_eq] at e
          rw [if_neg e.1, if_neg e.2]
    · intro v
      unfold ct_kn
      rw [if_neg (fun q => q.elim m0 m3), if_neg m1, if_neg m2]
      by_cases hg : g (hi / 2) = none
      · rw [if_pos hg]
        have : md_f g 7 lo hi = none := by
          simp only [md_f]
          rw [if_neg (fun z => ct_gq_some z.1 hg)]
        rw [this]
        exact ⟨fun z => (by cases z), fun _ => rfl⟩
      · rw [if_neg hg]
        by_cases c : hi % 2 = 1
        · have d : ct_gq g hi true = true := ct_gq_n.mpr ⟨hg, by simp [c]⟩
          have d2 : ¬ ct_gq g hi false = true := fun z => by
            have := (ct_gq_n.mp z).2
            simp [c] at this
          rw [if_pos c, if_neg (fun z => m6 ⟨d, z⟩)]
          have : md_f g 7 lo hi = none := by
            simp only [md_f]
            rw [if_neg (fun z => d2 z.1)]
          rw [this]
          exact ⟨fun z => (by cases z), fun _ => rfl⟩
        · have d : ct_gq g hi false = true := ct_gq_n.mpr ⟨hg, by simp; omega⟩
          rw [if_neg c, if_neg (fun z => m4 ⟨d, z⟩)]
          have e := ct_ag_sh (lo := lo) hg
          simp only [md_f]
          by_cases z : ct_gq g lo false = true ∧ md_sh g hi lo = true
          · rw [if_pos (Or.inr (e.mpr z)), if_pos ⟨d, z⟩]
            exact ⟨fun w => w, fun w => (by cases w)⟩
          · rw [if_neg (show ¬ (ct_has g (hi/2) (ct_nt lo) = true ∨ ct_ag g lo (hi/2) = true) from fun w => w.elim (fun w => m5 ⟨d, w⟩) (fun w => z (e.mp w))), if_neg (show ¬ (ct_gq g hi false = true ∧ ct_gq g lo false = true ∧ md_sh g hi lo = true) from fun w => z w.2)]
            exact ⟨fun w => (by cases w), fun _ => rfl⟩
