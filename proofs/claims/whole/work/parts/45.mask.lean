-- ===== the reference's questions =====
/-- an answer: with V the promise's P and no throw, without V the throw and nothing changed -/
def md_ans (V : Prop) (nc ic : Nat) (g : Ct) (bv : Nat → Bool) (P : Prop) (u : MS) : Prop := (V ∧ u.2 0 = 0 ∧ P) ∨ (¬ V ∧ u.2 0 = 1 ∧ mm_ok nc ic g bv u.1 u.2)
theorem md_k3 {x : Int32} (h1 : ¬ x < 0) (h2 : ¬ 2 < x) : x = 0 ∨ x = 1 ∨ x = 2 := by
  obtain ⟨j, hj, rfl⟩ := nI_of2 (M := 2) (n := 2) (by decide) h1 (Int32.not_lt.mp h2)
  rcases (show j = 0 ∨ j = 1 ∨ j = 2 by omega) with rfl | rfl | rfl
  · exact Or.inl rfl
  · exact Or.inr (Or.inl rfl)
  · exact Or.inr (Or.inr rfl)
theorem md_k3n {x : Int32} (h : x = 0 ∨ x = 1 ∨ x = 2) : ¬ x < 0 ∧ ¬ 2 < x := by rcases h with rfl | rfl | rfl <;> decide
theorem md_k4 {x : Int32} (h1 : ¬ x < 0) (h2 : ¬ 3 < x) : x = 0 ∨ x = 1 ∨ x = 2 ∨ x = 3 := by
  obtain ⟨j, hj, rfl⟩ := nI_of2 (M := 3) (n := 3) (by decide) h1 (Int32.not_lt.mp h2)
  rcases (show j = 0 ∨ j = 1 ∨ j = 2 ∨ j = 3 by omega) with rfl | rfl | rfl | rfl
  · exact Or.inl rfl
  · exact Or.inr (Or.inl rfl)
  · exact Or.inr (Or.inr (Or.inl rfl))
  · exact Or.inr (Or.inr (Or.inr rfl))
theorem md_k4n {x : Int32} (h : x = 0 ∨ x = 1 ∨ x = 2 ∨ x = 3) : ¬ x < 0 ∧ ¬ 3 < x := by rcases h with rfl | rfl | rfl | rfl <;> decide
theorem ct_zb (b : Bool) : vp_nar .boolean (ct_b b) = ct_b b := by cases b <;> decide
theorem ct_neg_b {a : Nat} (h : a < 2 ^ 31) : gb_neg (nI a) = ct_b (decide (a % 2 = 1)) := by
  unfold gb_neg
  rw [ct_and1 h]
  have h3 : a % 2 = 0 ∨ a % 2 = 1 := by omega
  rcases h3 with h3 | h3 <;> rw [h3] <;> decide
theorem ct_div2 {a : Nat} (h : a < 2 ^ 31) : nI a / 2 = nI (a / 2) := by
  apply Int32.toInt_inj.mp
  rw [Int32.toInt_div, nI_toInt h, nI_toInt (by omega)]
  have e : (2 : Int32).toInt = 2 := by decide
  rw [e]
  have e2 : ((a : Int).tdiv 2) = ((a / 2 : Nat) : Int) := by
    rw [Int.tdiv_eq_ediv_of_nonneg (by omega)]
    omega
  rw [e2, Int.bmod_eq_of_le (by omega) (by omega)]
section MASK
variable {nc ic ic' : Nat} {g : Ct} {bv : Nat → Bool} {ar ar' : Nat → Nat → Int32} {iv iv' : Nat → Int32}
theorem mm_lit (h : mm_ok nc ic g bv ar iv) {x r : Int32} (e : r = mi_lit iv x) : (r = 0 → ¬ ct_lit nc x) ∧ (¬ r = 0 → ct_lit nc x) := by
  have hm := h.mx
  subst e
  unfold mi_lit
  rw [h.nc, ct_2n]
  by_cases c1 : x < 0
  · rw [if_pos c1]
    exact ⟨fun _ => ct_lit_neg c1 (by omega), fun z => absurd rfl z⟩
  · rw [if_neg c1]
    obtain ⟨j, hj, rfl⟩ := nI_of c1
    have e := nI_leI (a := 2 * nc) (b := j) (by omega) hj
    by_cases c2 : 2 * nc ≤ j
    · rw [if_pos (e.mpr c2)]
      refine ⟨fun _ z => ?_, fun z => absurd rfl z⟩
      obtain ⟨a, ha, hb⟩ := z
      have := (nI_eq hj (by omega)).mp hb
      omega
    · rw [if_neg (fun z => c2 (e.mp z))]
      exact ⟨fun z => absurd z (by decide), fun _ => ⟨j, by omega, rfl⟩⟩
theorem mm_inp (h : mm_ok nc ic g bv ar iv) {x r : Int32} (e : r = mi_inp ar iv x) : (r = 0 → ¬ (ct_nod nc x ∧ ct_kd g x.toNatClampNeg = 1)) ∧ (¬ r = 0 → ct_nod nc x ∧ ct_kd g x.toNatClampNeg = 1) := by
  have hm := h.mx
  subst e
  unfold mi_inp
  rw [h.nc]
  by_cases c1 : x < 0
  · rw [if_pos c1]; exact ⟨fun _ z => z.1.1 c1, fun z => absurd rfl z⟩
  · rw [if_neg c1]
    by_cases c2 : nI nc ≤ x
    · rw [if_pos c2]; exact ⟨fun _ z => absurd z.1.2 (Int32.not_lt.mpr c2), fun z => absurd rfl z⟩
    · rw [if_neg c2]
      have c3 : x < nI nc := Int32.not_le.mp c2
      have hn := ct_nod_n (nc := nc) ⟨c1, c3⟩ (by omega)
      rw [h.kd _ hn.2]
      by_cases c4 : ct_kd g x.toNatClampNeg = 1
      · rw [if_pos c4]; exact ⟨fun z => absurd z (by decide), fun _ => ⟨⟨c1, c3⟩, c4⟩⟩
      · rw [if_neg c4]; exact ⟨fun _ z => c4 z.2, fun z => absurd rfl z⟩
theorem ct_kd_1 {a : Nat} (h : ct_kd g a = 1) : 0 < a ∧ g a = none := by
  unfold ct_kd at h
  split at h
  · exact absurd h (by decide)
  · split at h
    · exact ⟨by omega, by assumption⟩
    · exact absurd h (by decide)
theorem mm_ok_set (h : mm_ok nc ic g bv ar iv) {a : Nat} (ha : a < nc) (hk : ct_kd g a = 1) {t : Bool} (e : ar' = va_up ar 3 (upd (ar 3) a (ct_b t))) : mm_ok nc ic g (va_up bv a t) ar' iv := by
  have h1 := ct_kd_1 hk
  have r3 : ar' 3 = upd (ar 3) a (ct_b t) := by rw [e, va_up_self]
  have rk : ∀ k, k ≠ 3 → ar' k = ar k := fun k hk => by rw [e, va_up_ne _ _ hk]
  refine ⟨h.n1, h.mx, h.wf, h.nc, h.ic, by rw [va_up_ne _ _ (by omega)]; exact h.bv0, fun i hi => by rw [va_up_ne _ _ (by omega)]; exact h.bvn i hi, by rw [rk 0 (by decide)]; exact h.kd, by rw [rk 1 (by decide), rk 2 (by decide)]; exact h.fs, fun i hi hg => ?_, fun i hi => ?_⟩
  · rw [r3]
    by_cases z : i = a
    · rw [z, pk_us, va_up_self]
    · rw [pk_un z, va_up_ne _ _ z]; exact h.vi i hi hg
  · rw [r3]
    by_cases z : i = a
    · rw [z, pk_us]; exact ⟨_, rfl⟩
    · rw [pk_un z]; exact h.vb i hi
theorem mm_ok_on (h : mm_ok nc ic g bv ar iv) {q : Nat} (e : ar' = va_up ar 3 (upd (ar 3) q (ct_b (ct_vl g bv q)))) : mm_ok nc ic g bv ar' iv := by
  have r3 : ar' 3 = upd (ar 3) q (ct_b (ct_vl g bv q)) := by rw [e, va_up_self]
  have rk : ∀ k, k ≠ 3 → ar' k = ar k := fun k hk => by rw [e, va_up_ne _ _ hk]
  refine ⟨h.n1, h.mx, h.wf, h.nc, h.ic, h.bv0, h.bvn, by rw [rk 0 (by decide)]; exact h.kd, by rw [rk 1 (by decide), rk 2 (by decide)]; exact h.fs, fun i hi hg => ?_, fun i hi => ?_⟩
  · rw [r3]
    by_cases z : i = q
    · rw [← z, pk_us, ct_vl_n hg]
    · rw [pk_un z]; exact h.vi i hi hg
  · rw [r3]
    by_cases z : i = q
    · rw [z, pk_us]; exact ⟨_, rfl⟩
    · rw [pk_un z]; exact h.vb i hi
theorem mm_is {a : Nat} {b : Bool} (ha : a < 2 ^ 31) (e : ar 3 (a / 2) = ct_b b) : mi_is ar (nI a) = ct_b (b ^^ decide (a % 2 = 1)) := by
  unfold mi_is
  rw [gb_sh_n ha, nI_clamp (by omega), ct_neg_b ha, e]
  cases b <;> cases decide (a % 2 = 1) <;> decide
theorem ct_us_or (hw : ct_wf nc g) {q x y i : Nat} (hg : g q = some (x, y)) : ct_us g (q + 1) i = ct_us g q i + (if x / 2 = i ∨ y / 2 = i then 1 else 0) := by
  have h1 := hw.1 _ _ _ hg
  rw [ct_us, hg]
  dsimp only
  by_cases c1 : x / 2 = i
  · rw [if_pos c1, if_neg (by omega), if_pos (Or.inl c1)]
  · by_cases c2 : y / 2 = i
    · rw [if_neg c1, if_pos c2, if_pos (Or.inr c2)]
    · rw [if_neg c1, if_neg c2, if_neg (fun z => z.elim c1 c2)]
theorem ct_us_no {q i : Nat} (hg : g q = none) : ct_us g (q + 1) i = ct_us g q i := by
  rw [ct_us, hg]
theorem ct_cn_top (hw : ct_wf nc g) {t : Nat} : ∀ k, ct_cn g t (t + 1 + k) = ct_cn g t (t + 1) := by
  intro k
  induction k with
  | zero => rfl
  | succ k ih =>
    rw [← Nat.add_assoc, ct_cn_s, ih, ct_in_gt hw (by omega), if_neg (fun z => by cases z.1)]
    rfl
/-- what a walk down from the top has marked, when it stands at q -/
def md_mk (nc : Nat) (g : Ct) (t q : Nat) (f : Nat → Int32) : Prop := (∀ i, i < nc → f i = 0 ∨ f i = 1) ∧ f t = 1 ∧ (∀ i, i < nc → f i = 1 → ct_in g t i = true) ∧ ∀ j x y, q < j → f j = 1 → g j = some (x, y) → f (x / 2) = 1 ∧ f (y / 2) = 1
theorem md_mk0 (hw : ct_wf nc g) {t : Nat} {f : Nat → Int32} (h : ∀ i, i < nc → f i = if i = t then 1 else 0) (ht : t < nc) : md_mk nc g t (nc - 1) f := by
  refine ⟨fun i hi => ?_, by rw [h t ht, if_pos rfl], fun i hi e => ?_, fun j x y hj _ hg => absurd (hw.1 j x y hg).1 (by omega)⟩
  · rw [h i hi]
    by_cases z : i = t
    · exact Or.inr (if_pos z)
    · exact Or.inl (if_neg z)
  · rw [h i hi] at e
    by_cases z : i = t
    · rw [z]; exact ct_in_self g t
    · rw [if_neg z] at e; exact absurd e (by decide)
theorem md_cov (hw : ct_wf nc g) {t q i : Nat} {f : Nat → Int32} (h : md_mk nc g t q f) (hi : q ≤ i) (hin : ct_in g t i = true) : f i = 1 := by
  have := ct_rc_cl (g := g) (P := fun j => j < q ∨ f j = 1) (fun j x y hj hp => by
    have h3 := hw.1 j x y hj
    rcases Nat.lt_or_ge q j with z | z
    · have h4 := h.2.2.2 j x y z (hp.resolve_left (by omega)) hj
      exact ⟨Or.inr h4.1, Or.inr h4.2⟩
    · exact ⟨Or.inl (by omega), Or.inl (by omega)⟩) i (t + 1) t (Or.inr h.2.1) hin
  exact this.resolve_left (by omega)
theorem md_mk_no (hw : ct_wf nc g) {t q : Nat} {f : Nat → Int32} (h : md_mk nc g t q f) (hq : 0 < q) (hn : f q = 1 → g q = none) : md_mk nc g t (q - 1) f ∧ ct_cn g t (q + 1) = ct_cn g t q := by
  refine ⟨⟨h.1, h.2.1, h.2.2.1, fun j x y hj h1 hg => ?_⟩, ?_⟩
  · by_cases z : j = q
    · rw [z] at h1 hg
      rw [hn h1] at hg
      cases hg
    · exact h.2.2.2 j x y (by omega) h1 hg
  · rw [ct_cn_s, if_neg (fun z => z.2 (hn (md_cov hw h (Nat.le_refl q) z.1)))]
    rfl
theorem md_mk_yes (hw : ct_wf nc g) {t q u v : Nat} {f f' : Nat → Int32} (h : md_mk nc g t q f) (hq : 0 < q) (hqn : q < nc) (h1 : f q = 1) (hg : g q = some (u, v)) (e : f' = upd (upd f (u / 2) 1) (v / 2) 1) : md_mk nc g t (q - 1) f' ∧ ct_cn g t (q + 1) = ct_cn g t q + 1 := by
  have h3 := hw.1 q u v hg
  have keep : ∀ i, f i = 1 → f' i = 1 := by
    intro i hi
    rw [e]
    by_cases z : i = v / 2
    · rw [z, pk_us]
    · rw [pk_un z]
      by_cases z2 : i = u / 2
      · rw [z2, pk_us]
      · rw [pk_un z2]; exact hi
  have hcases : ∀ i, i = v / 2 ∨ i = u / 2 ∨ f' i = f i := by
    intro i
    by_cases z : i = v / 2
    · exact Or.inl z
    · by_cases z2 : i = u / 2
      · exact Or.inr (Or.inl z2)
      · exact Or.inr (Or.inr (by rw [e, pk_un z, pk_un z2]))
  have hu : f' (u / 2) = 1 := by rw [e, pk_un (by omega), pk_us]
  have hv : f' (v / 2) = 1 := by rw [e, pk_us]
  have hin := h.2.2.1 q hqn h1
  have hd : ct_in g t (u / 2) = true ∧ ct_in g t (v / 2) = true := ct_rc_dn hw hg (t + 1) t (by omega) hin
  refine ⟨⟨fun i hi => ?_, keep t h.2.1, fun i hi hh => ?_, fun j x y hj h2 hg2 => ?_⟩, ?_⟩
  · rcases hcases i with z | z | z
    · exact Or.inr (by rw [z]; exact hv)
    · exact Or.inr (by rw [z]; exact hu)
    · rw [z]; exact h.1 i hi
  · rcases hcases i with z | z | z
    · rw [z]; exact hd.2
    · rw [z]; exact hd.1
    · exact h.2.2.1 i hi (by rw [← z]; exact hh)
  · by_cases z : j = q
    · subst z
      rw [hg] at hg2
      cases hg2
      exact ⟨hu, hv⟩
    · have h5 : f j = 1 := by
        rcases hcases j with w | w | w
        · omega
        · omega
        · rw [← w]; exact h2
      have h6 := h.2.2.2 j x y (by omega) h5 hg2
      exact ⟨keep _ h6.1, keep _ h6.2⟩
  · rw [ct_cn_s, if_pos ⟨hin, by rw [hg]; simp⟩]
theorem md_mk_end (hw : ct_wf nc g) {t : Nat} {f : Nat → Int32} (h : md_mk nc g t 0 f) : ∀ i, i < nc → f i = ct_b (ct_in g t i) := by
  intro i hi
  rcases h.1 i hi with z | z
  · cases e : ct_in g t i with
    | false => exact z
    | true => exact absurd (z.symm.trans (md_cov hw h (Nat.zero_le i) e)) (by decide)
  · rw [h.2.2.1 i hi z]; exact z
end MASK
