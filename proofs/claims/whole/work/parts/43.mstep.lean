-- ===== the reference's steps =====
section MSTEP
variable {nc ic ic' : Nat} {g : Ct} {bv : Nat → Bool} {ar ar' : Nat → Nat → Int32} {iv iv' : Nat → Int32}
theorem mm_ok_iv (h : mm_ok nc ic g bv ar iv) (e1 : iv' 1 = iv 1) (e2 : iv' 2 = iv 2) : mm_ok nc ic g bv ar iv' :=
  ⟨h.n1, h.mx, h.wf, by rw [e1]; exact h.nc, by rw [e2]; exact h.ic, h.bv0, h.bvn, h.kd, h.fs, h.vi, h.vb⟩
theorem mm_ok_mark (h : mm_ok nc ic g bv ar iv) (rk : ∀ k, k ≠ 4 → ar' k = ar k) : mm_ok nc ic g bv ar' iv :=
  ⟨h.n1, h.mx, h.wf, h.nc, h.ic, h.bv0, h.bvn, by rw [rk 0 (by decide)]; exact h.kd, by rw [rk 1 (by decide), rk 2 (by decide)]; exact h.fs, by rw [rk 3 (by decide)]; exact h.vi, by rw [rk 3 (by decide)]; exact h.vb⟩
theorem mm_ok_add {o : Option (Nat × Nat)} {k x y : Int32} (h : mm_ok nc ic g bv ar iv) (hmx : nc < 20000) (hw : ct_wf (nc + 1) (va_up g nc o)) (ho : ∀ p q, o = some (p, q) → k = 2 ∧ x = nI p ∧ y = nI q) (hn : o = none → k = 1)
    (e : ar' = mi_add ar nc k x y) (e1 : iv' 1 = nI (nc + 1)) (e2 : iv' 2 = nI ic') : mm_ok (nc + 1) ic' (va_up g nc o) bv ar' iv' := by
  have r0 : ar' 0 = upd (ar 0) nc k := by rw [e]; rfl
  have r1 : ar' 1 = upd (ar 1) nc x := by rw [e]; rfl
  have r2 : ar' 2 = upd (ar 2) nc y := by rw [e]; rfl
  have r3 : ar' 3 = upd (ar 3) nc (vp_nar .boolean 0) := by rw [e]; rfl
  have h1 := h.n1
  refine ⟨by omega, by omega, hw, e1, e2, h.bv0, fun i hi => h.bvn i (by omega), fun i hi => ?_, fun i p q hg => ?_, fun i hi hg => ?_, fun i hi => ?_⟩
  · rw [r0]
    by_cases z : i = nc
    · subst z
      rw [pk_us, ct_kd, if_neg (by omega), va_up_self]
      cases o with
      | none => rw [if_pos rfl]; exact hn rfl
      | some r => rw [if_neg (by simp)]; exact (ho r.1 r.2 rfl).1
    · rw [pk_un z, h.kd i (by omega)]
      unfold ct_kd
      rw [va_up_ne _ _ z]
  · rw [r1, r2]
    by_cases z : i = nc
    · subst z
      rw [va_up_self] at hg
      rw [pk_us, pk_us]
      exact (ho p q hg).2
    · rw [va_up_ne _ _ z] at hg
      rw [pk_un z, pk_un z]
      exact h.fs i p q hg
  · rw [r3]
    by_cases z : i = nc
    · rw [z, pk_us, h.bvn nc (Nat.le_refl nc)]; decide
    · rw [va_up_ne _ _ z] at hg
      rw [pk_un z]
      exact h.vi i (by omega) hg
  · rw [r3]
    by_cases z : i = nc
    · rw [z, pk_us]; exact ⟨false, by decide⟩
    · rw [pk_un z]; exact h.vb i (by omega)
theorem ct_up_none (hw : ct_wf nc g) : va_up g nc none = g := by
  funext j
  by_cases e : j = nc
  · rw [e, va_up_self, ct_none hw (Nat.le_refl nc)]
  · rw [va_up_ne _ _ e]
theorem mm_ok_input (h : mm_ok nc ic g bv ar iv) (hmx : nc < 20000) (e : ar' = mi_add ar nc 1 (-1) (-1)) (e1 : iv' 1 = nI (nc + 1)) (e2 : iv' 2 = nI ic') : mm_ok (nc + 1) ic' g bv ar' iv' := by
  have q := ct_up_none h.wf
  have := mm_ok_add (o := none) h hmx (by rw [q]; exact ⟨fun i x y e => by have := h.wf.1 i x y e; omega, h.wf.2⟩) (fun _ _ z => by cases z) (fun _ => rfl) e e1 e2
  rw [q] at this
  exact this
/-- a method's end -/
def md_po (ic : Nat) (bv : Nat → Bool) (R : Nat × Nat × Ct) (r : Int32) (u : MS) : Prop := r = nI R.1 ∧ u.2 0 = 0 ∧ mm_ok R.2.1 ic R.2.2 bv u.1 u.2
-- ===== a pair in any order =====
theorem md_tt (hw : ct_wf nc g) {k a b : Nat} (hk : k < 8) (h0 : ∀ j, j < k → md_f g j (min a b) (max a b) = none) : md_t g k a b = md_f g k (min a b) (max a b) := by
  have h1 : k = 1 → min a b ≠ 0 := fun z w => by
    have := h0 0 (by omega)
    simp only [md_f] at this
    rw [if_pos w] at this
    cases this
  rcases Nat.le_total a b with c | c
  · rw [Nat.min_eq_left c, Nat.max_eq_right c] at *
    exact (md_t_f hw c hk h1).1
  · rw [Nat.min_eq_right c, Nat.max_eq_left c] at *
    exact (md_t_f hw c hk h1).2
theorem md_r_le {k a b v : Nat} (h : md_r g k a b = some v) : v ≤ max a b := by
  unfold md_r at h
  split at h <;> split at h <;> cases h <;> omega
theorem md_told {k a b : Nat} (ha : a < 2 ^ 30) (hb : b < 2 ^ 30) : (¬ 0 ≤ ct_i (md_r g k a b) → md_r g k a b = none) ∧ (0 ≤ ct_i (md_r g k a b) → ∃ v, md_r g k a b = some v ∧ ct_i (md_r g k a b) = nI v) := by
  cases h : md_r g k a b with
  | none => exact ⟨fun _ => rfl, fun z => absurd z (by decide)⟩
  | some v =>
    have := md_r_le h
    exact ⟨fun z => absurd (nI_pos' (by omega)) z, fun _ => ⟨v, rfl, rfl⟩⟩
theorem md_t1 {k a b v : Nat} (h : md_r g k a b = some v) : md_t g k a b = some v := by
  unfold md_t
  rw [h]
theorem md_t2 {k a b : Nat} (h : md_r g k a b = none) : md_t g k a b = md_r g k b a := by
  unfold md_t
  rw [h]
/-- only the greater can be a gate of the lesser -/
theorem md_one (hw : ct_wf nc g) {a b : Nat} (hne : ∀ j, j < 7 → md_f g j (min a b) (max a b) = none) : (ct_gq g a true = true ∧ ct_has g (a / 2) b = true → min a b = b ∧ max a b = a) ∧ (ct_gq g b true = true ∧ ct_has g (b / 2) a = true → min a b = a ∧ max a b = b) := by
  refine ⟨fun z => ?_, fun z => ?_⟩
  · rcases Nat.le_total a b with c | c
    · have := (md_low hw c).1
      rw [z.2] at this
      cases this
    · exact ⟨Nat.min_eq_right c, Nat.max_eq_left c⟩
  · rcases Nat.le_total a b with c | c
    · exact ⟨Nat.min_eq_left c, Nat.max_eq_right c⟩
    · have := (md_low hw c).1
      rw [z.2] at this
      cases this
theorem md_two (hw : ct_wf nc g) {a b : Nat} (h1 : ¬ (ct_gq g a true = true ∧ ct_has g (a / 2) b = true)) (h2 : ¬ (ct_gq g b true = true ∧ ct_has g (b / 2) a = true)) : ¬ (ct_gq g (max a b) true = true ∧ ct_has g (max a b / 2) (min a b) = true) := by
  rcases Nat.le_total a b with c | c
  · rw [Nat.min_eq_left c, Nat.max_eq_right c]; exact h2
  · rw [Nat.min_eq_right c, Nat.max_eq_left c]; exact h1
theorem md_bes (h : mm_ok nc ic g bv ar iv) {lo hi : Nat} (hhi : hi < 2 * nc) (hlo : lo < 2 * nc) (hq : ct_gq g hi true = true ∧ ct_has g (hi / 2) lo = true) : ∃ r, ct_re g lo hi = some r ∧ mi_bes ar (nI hi) (nI lo) ^^^ 1 = nI r := by
  have hm := h.mx
  have d := (ct_gq_n.mp hq.1).2
  have d : hi % 2 = 1 := by simpa using d
  have q2 := hq.2
  unfold ct_has at q2
  unfold ct_re mi_bes
  rw [gb_sh_n (by omega), nI_clamp (by omega)]
  cases hg : g (hi / 2) with
  | none => rw [hg] at q2; cases q2
  | some r =>
    obtain ⟨x, y⟩ := r
    rw [hg] at q2
    have h1 := h.lt hg
    have h2 := h.fs _ _ _ hg
    dsimp only at q2 ⊢
    rw [if_neg (by omega), h2.1, h2.2]
    have e1 := nI_eq (a := x) (b := lo) (by omega) (by omega)
    by_cases c : x = lo
    · rw [if_pos c, if_pos (e1.mpr c), ct_nIxor]; exact ⟨_, rfl, rfl⟩
    · rw [if_neg c, if_neg (fun z => c (e1.mp z)), ct_nIxor]
      have : y = lo := by
        simp only [Bool.or_eq_true, beq_iff_eq] at q2
        exact q2.resolve_left c
      rw [if_pos this]
      exact ⟨_, rfl, rfl⟩
end MSTEP
/-- how the loop's ends read -/
theorem md_end {nc : Nat} {g : Ct} {a b a1 b1 v : Nat} (hi : ct_rd g nc (min a b) (max a b) = ct_rd g (max a1 b1 / 2 + 1) (min a1 b1) (max a1 b1)) (h : ct_kn g (min a1 b1) (max a1 b1) = some v) : ct_an nc g a b = (v, nc, g) := by
  unfold ct_an
  rw [hi, ct_rd, h]
theorem md_gt {nc : Nat} {g : Ct} {a b a1 b1 : Nat} (hi : ct_rd g nc (min a b) (max a b) = ct_rd g (max a1 b1 / 2 + 1) (min a1 b1) (max a1 b1)) (h : ct_kn g (min a1 b1) (max a1 b1) = none) (h2 : ct_re g (min a1 b1) (max a1 b1) = none) : ct_an nc g a b = ct_gt nc g (min a1 b1) (max a1 b1) := by
  unfold ct_an
  rw [hi, ct_rd, h]
  dsimp only
  rw [h2]
theorem md_go {nc : Nat} {g : Ct} (hw : ct_wf nc g) {a b a1 b1 r : Nat} (hi : ct_rd g nc (min a b) (max a b) = ct_rd g (max a1 b1 / 2 + 1) (min a1 b1) (max a1 b1)) (h : ct_kn g (min a1 b1) (max a1 b1) = none) (h2 : ct_re g (min a1 b1) (max a1 b1) = some r) :
    r < 2 * nc ∧ max (min a1 b1) r / 2 < max a1 b1 / 2 ∧ ct_rd g nc (min a b) (max a b) = ct_rd g (max (min a1 b1) r / 2 + 1) (min (min a1 b1) r) (max (min a1 b1) r) := by
  have h9 := ct_re_lt hw h2 (by omega)
  refine ⟨h9.2.2.1, h9.2.2.2.1, hi.trans ?_⟩
  rw [ct_rd, h]
  dsimp only
  rw [h2]
  exact ct_rd_fuel hw _ _ _ _ h9.2.2.2.2.2 h9.2.2.2.1 (by omega)
