theorem ct_b_1 {b : Bool} (h : ct_b b = 1) : b = true := by
  cases b
  · exact absurd h (by decide)
  · rfl
theorem ct_cn_le {g : Ct} {t : Nat} : ∀ k, ct_cn g t k ≤ k := by
  intro k
  induction k with
  | zero => exact Nat.le_refl 0
  | succ k ih =>
    unfold ct_cn
    split <;> omega
theorem ct_cn_s (g : Ct) (t k : Nat) : ct_cn g t (k + 1) = ct_cn g t k + (if ct_in g t k = true ∧ g k ≠ none then 1 else 0) := rfl
theorem ct_cn_1 {nc : Nat} {g : Ct} (hw : ct_wf nc g) {t : Nat} : ct_cn g t 1 = 0 := by
  rw [ct_cn_s, if_neg (fun z => z.2 (ct_zero hw))]
  rfl
-- ===== a new bench =====
abbrev gb_ar0 : Nat → Nat → Int32 := fun k => match k with
  | 0 => upd (fun _ => 0) (Int32.toNatClampNeg 0) (-1)
  | 1 => upd (fun _ => 0) (Int32.toNatClampNeg 0) (-1)
  | _ => fun _ => 0
abbrev gb_iv0 : Nat → Int32 := fun k => match k with
  | 0 => 1
  | 1 => 0
  | _ => 1
theorem ct_wf_new : ct_wf 1 (fun _ => none) := ⟨fun i x y h => by simp at h, fun i j q h => by simp at h⟩
theorem ct_us_new : ∀ k i, ct_us (fun _ => none) k i = 0 := by
  intro k
  induction k with
  | zero => intro i; rfl
  | succ k ih => intro i; unfold ct_us; exact ih i
theorem ct_nw_new : ∀ k i, ct_nw (fun _ => none) k i = 0 := by
  intro k
  induction k with
  | zero => intro i; rfl
  | succ k ih => intro i; unfold ct_nw; exact ih i
theorem gb_ok_new : gb_ok 16 1 0 (fun _ => none) (fun _ => false) gb_ar0 gb_iv0 := by
  refine ⟨⟨by decide, by decide, by decide, ct_wf_new, fun i hi => ?_⟩, by decide, rfl, rfl, rfl, fun _ _ => rfl, fun i hi => ?_, fun i hi => ?_, fun i hi => ?_, fun j x y h => by simp at h, fun _ _ _ => rfl, fun _ _ => ⟨false, rfl⟩, 1, rfl, by decide, by decide, fun i hi => ?_⟩
  · have : i = 0 := by omega
    subst this
    exact ⟨rfl, rfl⟩
  · rw [ct_us_new]; rfl
  · rw [ct_dp_n rfl]; rfl
  · rw [ct_nw_new]; rfl
  · rw [ct_vl_n rfl]; rfl
