-- ===== parts of gb_ok =====
section OK
variable {n c9 i9 : Nat} {g : Ct} {bv : Nat → Bool} {ar : Nat → Nat → Int32} {iv : Nat → Int32}
theorem gb_ok.ct (h : gb_ok n c9 i9 g bv ar iv) : ct_at n c9 g ar := h.1
theorem gb_ok.n16 (h : gb_ok n c9 i9 g bv ar iv) : 16 ≤ n := h.2.1
theorem gb_ok.nc (h : gb_ok n c9 i9 g bv ar iv) : iv 0 = nI c9 := h.2.2.1
theorem gb_ok.ic (h : gb_ok n c9 i9 g bv ar iv) : iv 1 = nI i9 := h.2.2.2.1
theorem gb_ok.bv0 (h : gb_ok n c9 i9 g bv ar iv) : bv 0 = false := h.2.2.2.2.1
theorem gb_ok.bvn (h : gb_ok n c9 i9 g bv ar iv) : ∀ i, c9 ≤ i → bv i = false := h.2.2.2.2.2.1
theorem gb_ok.us (h : gb_ok n c9 i9 g bv ar iv) : ∀ i, i < n → ar 2 i = nI (ct_us g c9 i) := h.2.2.2.2.2.2.1
theorem gb_ok.dp (h : gb_ok n c9 i9 g bv ar iv) : ∀ i, i < n → ar 3 i = nI (ct_dp g i) := h.2.2.2.2.2.2.2.1
theorem gb_ok.nw (h : gb_ok n c9 i9 g bv ar iv) : ∀ i, i < n → ar 6 i = nI (ct_nw g c9 i) := h.2.2.2.2.2.2.2.2.1
theorem gb_ok.nx (h : gb_ok n c9 i9 g bv ar iv) : ∀ j x y, g j = some (x, y) → ar 7 j = nI (ct_nw g j (y / 2)) := h.2.2.2.2.2.2.2.2.2.1
theorem gb_ok.vi (h : gb_ok n c9 i9 g bv ar iv) : ∀ i, i < n → g i = none → ar 4 i = ct_b (bv i) := h.2.2.2.2.2.2.2.2.2.2.1
theorem gb_ok.vb (h : gb_ok n c9 i9 g bv ar iv) : ∀ i, i < n → ∃ b, ar 4 i = ct_b b := h.2.2.2.2.2.2.2.2.2.2.2.1
theorem gb_ok.st (h : gb_ok n c9 i9 g bv ar iv) : ∃ st, iv 2 = nI st ∧ 1 ≤ st ∧ st ≤ c9 ∧ ∀ i, i < st → ar 4 i = ct_b (ct_vl g bv i) := h.2.2.2.2.2.2.2.2.2.2.2.2
theorem gb_ok.wf (h : gb_ok n c9 i9 g bv ar iv) : ct_wf c9 g := h.1.2.2.2.1
end OK
-- ===== rows that grow =====
def gb_cap (n m : Nat) : Nat := if m ≤ n then n else 2 * n
theorem gb_cap_le {n m : Nat} (h : m ≤ n) : gb_cap n m = n := if_pos h
theorem gb_cap_gt {n m : Nat} (h : n < m) : gb_cap n m = 2 * n := if_neg (by omega)
theorem gb_cap_ge (n m : Nat) (h : m ≤ 2 * n) : m ≤ gb_cap n m := by
  unfold gb_cap
  split <;> omega
theorem gb_cap_n (n m : Nat) : n ≤ gb_cap n m ∧ gb_cap n m ≤ 2 * n := by
  unfold gb_cap
  split <;> omega
theorem gb_cap_cap {n a b : Nat} (h : a ≤ b) (hb : b ≤ 2 * n) : gb_cap (gb_cap n a) b = gb_cap n b := by
  unfold gb_cap
  split <;> split <;> first | rfl | omega | (split <;> first | rfl | omega)
def gb_gr (n : Nat) (f : Nat → Int32) : Nat → Int32 := va_cpy f (fun _ => 0) 0 0 n
def gb_ext (n nc : Nat) (f : Nat → Int32) : Nat → Int32 := if nc < n then f else gb_gr n f
theorem gb_ext_in {n nc : Nat} {f : Nat → Int32} {j : Nat} (h : j < n) : gb_ext n nc f j = f j := by
  unfold gb_ext gb_gr
  split
  · rfl
  · rw [pk_cpy_in (by omega) (by omega)]
    congr 1
    omega
theorem gb_ext_out {n nc : Nat} {f : Nat → Int32} {j : Nat} (h : n ≤ nc) (hj : n ≤ j) : gb_ext n nc f j = 0 := by
  unfold gb_ext gb_gr
  rw [if_neg (by omega), pk_cpy_out (by omega)]
/-- enterGate's five stores -/
def gb_ent (ar : Nat → Nat → Int32) (i a b : Nat) (v : Int32) : Nat → Nat → Int32 :=
  let a1 := va_up ar 3 (upd (ar 3) i (1 + (if ar 3 a < ar 3 b then ar 3 b else ar 3 a)))
  let a2 := va_up a1 2 (upd (a1 2) a (a1 2 a + 1))
  let a3 := va_up a2 2 (upd (a2 2) b (a2 2 b + 1))
  let a4 := va_up a3 7 (upd (a3 7) i (a3 6 b))
  va_up a4 6 (upd (a4 6) b v)
-- ===== AND's gate: the one that there is, or a new one =====
def ct_fn (g : Ct) : Nat → Nat → Nat → Option Nat
  | 0, _, _ => none
  | k + 1, x, y => if g k = some (x, y) then some k else ct_fn g k x y
/-- literal, nodes, circuit -/
def ct_gt (nc : Nat) (g : Ct) (x y : Nat) : Nat × Nat × Ct := match ct_fn g nc x y with
  | some j => (2 * j, nc, g)
  | none => (2 * nc, nc + 1, va_up g nc (some (x, y)))
theorem ct_fn_none {g : Ct} {x y : Nat} (h : ∀ j, g j = some (x, y) → False) : ∀ k, ct_fn g k x y = none := by
  intro k
  induction k with
  | zero => rfl
  | succ k ih =>
    unfold ct_fn
    rw [if_neg (fun e => h k e)]
    exact ih
theorem ct_fn_some {g : Ct} {nc x y q : Nat} (hw : ct_wf nc g) (hq : g q = some (x, y)) : ∀ k, q < k → ct_fn g k x y = some q := by
  intro k
  induction k with
  | zero => intro h; omega
  | succ k ih =>
    intro h
    unfold ct_fn
    by_cases e : g k = some (x, y)
    · rw [if_pos e, hw.2 k q _ e hq]
    · rw [if_neg e]
      have : q ≠ k := fun z => e (z ▸ hq)
      exact ih (by omega)
theorem ct_gt_none {nc : Nat} {g : Ct} {x y : Nat} (h : ∀ j, g j = some (x, y) → False) : ct_gt nc g x y = (2 * nc, nc + 1, va_up g nc (some (x, y))) := by
  unfold ct_gt
  rw [ct_fn_none h]
theorem ct_gt_some {nc : Nat} {g : Ct} {x y q : Nat} (hw : ct_wf nc g) (hq : g q = some (x, y)) : ct_gt nc g x y = (2 * q, nc, g) := by
  unfold ct_gt
  rw [ct_fn_some hw hq nc (hw.1 q x y hq).1]
theorem ct_wf_add {nc : Nat} {g : Ct} {x y : Nat} (hw : ct_wf nc g) (h1 : 2 ≤ x) (h2 : x / 2 < y / 2) (h3 : y < 2 * nc) (h4 : ∀ j, g j = some (x, y) → False) : ct_wf (nc + 1) (va_up g nc (some (x, y))) := by
  refine ⟨fun i u v e => ?_, fun i j q e1 e2 => ?_⟩
  · by_cases hi : i = nc
    · subst hi
      rw [va_up_self] at e
      cases e
      omega
    · rw [va_up_ne _ _ hi] at e
      have := hw.1 i u v e
      omega
  · by_cases hi : i = nc
    · subst hi
      rw [va_up_self] at e1
      by_cases hj : j = i
      · exact hj.symm
      · rw [va_up_ne _ _ hj, ← e1] at e2
        exact (h4 j e2).elim
    · rw [va_up_ne _ _ hi] at e1
      by_cases hj : j = nc
      · subst hj
        rw [va_up_self, ← e1] at e2
        exact (h4 i e2.symm).elim
      · rw [va_up_ne _ _ hj] at e2
        exact hw.2 i j q e1 e2
theorem ct_none {nc : Nat} {g : Ct} (hw : ct_wf nc g) {i : Nat} (h : nc ≤ i) : g i = none := by
  cases e : g i with
  | none => rfl
  | some q => exact absurd (hw.1 i q.1 q.2 e).1 (by omega)
theorem ct_zero {nc : Nat} {g : Ct} (hw : ct_wf nc g) : g 0 = none := by
  cases e : g 0 with
  | none => rfl
  | some q => exact absurd (hw.1 0 q.1 q.2 e).2.2.2 (by omega)
/-- the rows behind growing: what they hold for every place -/
theorem gb_rows {n nc ic : Nat} {g : Ct} {bv : Nat → Bool} {ar : Nat → Nat → Int32} {iv : Nat → Int32} (h : gb_ok n nc ic g bv ar iv) (i : Nat) (hi : i < gb_cap n (nc + 1)) :
    gb_ext n nc (ar 2) i = nI (ct_us g nc i) ∧ gb_ext n nc (ar 3) i = nI (ct_dp g i) ∧ gb_ext n nc (ar 6) i = nI (ct_nw g nc i) ∧ (g i = none → gb_ext n nc (ar 4) i = ct_b (bv i)) ∧ ∃ b, gb_ext n nc (ar 4) i = ct_b b := by
  have hw := h.wf
  have hle := h.ct.2.1
  by_cases hin : i < n
  · rw [gb_ext_in hin, gb_ext_in hin, gb_ext_in hin, gb_ext_in hin]
    exact ⟨h.us i hin, h.dp i hin, h.nw i hin, h.vi i hin, h.vb i hin⟩
  · have hnn : n ≤ nc := by
      have := gb_cap_n n (nc + 1)
      unfold gb_cap at hi
      split at hi <;> omega
    rw [gb_ext_out hnn (by omega), gb_ext_out hnn (by omega), gb_ext_out hnn (by omega), gb_ext_out hnn (by omega)]
    refine ⟨?_, ?_, ?_, fun _ => ?_, false, rfl⟩
    · rw [ct_us_0 hw nc i (by omega)]; exact nI_0.symm
    · rw [ct_dp_n (ct_none hw (by omega))]; exact nI_0.symm
    · rw [ct_nw_0 hw nc i (by omega)]; exact nI_0.symm
    · rw [h.bvn i (by omega)]; rfl
theorem ct_b0 : ct_b false = 0 := rfl
theorem ct_max (a b : Nat) (ha : a < 2 ^ 30) (hb : b < 2 ^ 30) : (1 : Int32) + (if nI a < nI b then nI b else nI a) = nI (1 + max a b) := by
  simp only [nI_ltI (a := a) (b := b) (by omega) (by omega)]
  have i1 : (1 : Int32) = nI 1 := rfl
  split
  · rw [Nat.max_eq_right (by omega), i1]; exact nI_add 1 b
  · rw [Nat.max_eq_left (by omega), i1]; exact nI_add 1 a
set_option maxHeartbeats 1000000 in
/-- a new gate: newNode, then enterGate -/
theorem gb_ok_gate {n nc ic lo hi n1 n2 : Nat} {g : Ct} {bv : Nat → Bool} {ar ar1 ar2 : Nat → Nat → Int32} {iv iv1 iv2 : Nat → Int32} {ad1 ad2 : Nat → Nat} {x y : Int32}
    (h : gb_ok n nc ic g bv ar iv) (hx : x = nI lo) (hy : y = nI hi) (hlo : 2 ≤ lo) (hlh : lo / 2 < hi / 2) (hhi : hi < 2 * nc) (hmx : nc < 20000) (hno : ∀ j, g j = some (lo, hi) → False)
    (e1 : n1 = gb_cap n (nc + 1)) (e2 : iv1 = va_up iv 0 (nI (nc + 1))) (e3 : ∃ B : Nat → Nat → Int32, ar1 = va_up (va_up B 0 (upd (B 0) nc x)) 1 (upd (B 1) nc y) ∧ ∀ k, k < 8 → B k = gb_ext n nc (ar k))
    (e4 : ((n2, ad2, ar2, iv2) : GS) = (n1, ad1, gb_ent ar1 nc (lo / 2) (hi / 2) (nI nc), iv1)) : gb_ok n2 (nc + 1) ic (va_up g nc (some (lo, hi))) bv ar2 iv2 := by
  cases e4
  obtain ⟨B, e3, e5⟩ := e3
  subst e1 e2 hx hy
  have hw := h.wf
  have hle := h.ct.2.1
  have h16 := h.n16
  have hcn := gb_cap_n n (nc + 1)
  have hcg := gb_cap_ge n (nc + 1) (by omega)
  have hcb : gb_cap n (nc + 1) ≤ 65536 := by
    have := h.ct.2.2.1
    unfold gb_cap
    split <;> omega
  have r0 : gb_ent ar1 nc (lo / 2) (hi / 2) (nI nc) 0 = upd (gb_ext n nc (ar 0)) nc (nI lo) := by rw [e3, ← e5 0 (by omega)]; rfl
  have r1 : gb_ent ar1 nc (lo / 2) (hi / 2) (nI nc) 1 = upd (gb_ext n nc (ar 1)) nc (nI hi) := by rw [e3, ← e5 1 (by omega)]; rfl
  have r4 : gb_ent ar1 nc (lo / 2) (hi / 2) (nI nc) 4 = gb_ext n nc (ar 4) := by rw [e3, ← e5 4 (by omega)]; rfl
  have r3 : gb_ent ar1 nc (lo / 2) (hi / 2) (nI nc) 3 = upd (gb_ext n nc (ar 3)) nc (1 + (if gb_ext n nc (ar 3) (lo / 2) < gb_ext n nc (ar 3) (hi / 2) then gb_ext n nc (ar 3) (hi / 2) else gb_ext n nc (ar 3) (lo / 2))) := by rw [e3, ← e5 3 (by omega)]; rfl
  have r2 : gb_ent ar1 nc (lo / 2) (hi / 2) (nI nc) 2 = upd (upd (gb_ext n nc (ar 2)) (lo / 2) (gb_ext n nc (ar 2) (lo / 2) + 1)) (hi / 2) (upd (gb_ext n nc (ar 2)) (lo / 2) (gb_ext n nc (ar 2) (lo / 2) + 1) (hi / 2) + 1) := by rw [e3, ← e5 2 (by omega)]; rfl
  have r7 : gb_ent ar1 nc (lo / 2) (hi / 2) (nI nc) 7 = upd (gb_ext n nc (ar 7)) nc (gb_ext n nc (ar 6) (hi / 2)) := by rw [e3, ← e5 7 (by omega), ← e5 6 (by omega)]; rfl
  have r6 : gb_ent ar1 nc (lo / 2) (hi / 2) (nI nc) 6 = upd (gb_ext n nc (ar 6)) (hi / 2) (nI nc) := by rw [e3, ← e5 6 (by omega)]; rfl
  generalize gb_ent ar1 nc (lo / 2) (hi / 2) (nI nc) = ar2 at r0 r1 r2 r3 r4 r6 r7 ⊢
  have hw' := ct_wf_add hw hlo hlh hhi hno
  have hg : ∀ j, j ≠ nc → va_up g nc (some (lo, hi)) j = g j := fun j hj => va_up_ne _ _ hj
  have hgn : va_up g nc (some (lo, hi)) nc = some (lo, hi) := va_up_self _ _ _
  generalize va_up g nc (some (lo, hi)) = g' at hw' hg hgn ⊢
  refine ⟨⟨by omega, hcg, hcb, hw', fun i hi' => ?_⟩, by omega, va_up_self _ _ _, ?_, h.bv0, fun i hi' => h.bvn i (by omega), fun i hi' => ?_, fun i hi' => ?_, fun i hi' => ?_, fun j u v hj => ?_, fun i hi' hn' => ?_, fun i hi' => ?_, ?_⟩
  · by_cases e : i = nc
    · subst e
      rw [r0, r1, pk_us, pk_us]
      simp [ct_f, ct_s, hgn]
    · rw [r0, r1, pk_un e, pk_un e, gb_ext_in (by omega), gb_ext_in (by omega)]
      have := h.ct.2.2.2.2 i (by omega)
      simp only [ct_f, ct_s, hg i e] at this ⊢
      exact this
  · rw [va_up_ne _ _ (by omega)]; exact h.ic
  · have hr := (gb_rows h i hi').1
    rw [ct_us, hgn]
    dsimp only
    rw [ct_us_ext nc i (fun j hj => hg j (by omega)), r2]
    by_cases c1 : i = hi / 2
    · have hr' := (gb_rows h (hi / 2) (by omega)).1
      rw [c1, pk_us, pk_un (by omega), hr', if_neg (by omega), if_pos rfl]
      exact nI_1 _
    · rw [pk_un c1]
      by_cases c2 : i = lo / 2
      · have hr' := (gb_rows h (lo / 2) (by omega)).1
        rw [c2, pk_us, hr', if_pos rfl, if_neg (by omega)]
        exact nI_1 _
      · rw [pk_un c2, hr, if_neg (by omega), if_neg (by omega)]
        rfl
  · rw [r3]
    by_cases e : i = nc
    · have q1 := (gb_rows h (lo / 2) (by omega)).2.1
      have q2 := (gb_rows h (hi / 2) (by omega)).2.1
      have q3 := ct_dp_le hw (nc + 1) (lo / 2) (by omega)
      have q4 := ct_dp_le hw (nc + 1) (hi / 2) (by omega)
      rw [e, pk_us, q1, q2, ct_max _ _ (by omega) (by omega), ct_dp_s hw' hgn, ct_dp_ext hw (fun j hj => hg j (by omega)), ct_dp_ext hw (fun j hj => hg j (by omega))]
    · rw [pk_un e, (gb_rows h i hi').2.1]
      by_cases c : i < nc
      · rw [ct_dp_ext hw (fun j hj => hg j (by omega))]
      · rw [ct_dp_n (ct_none hw (by omega)), ct_dp_n (by rw [hg i e]; exact ct_none hw (by omega))]
  · rw [r6, ct_nw, hgn]
    dsimp only
    by_cases c : i = hi / 2
    · rw [c, pk_us, if_pos rfl]
    · rw [pk_un c, if_neg (fun z => c z.symm), ct_nw_ext nc i (fun j hj => hg j (by omega))]
      exact (gb_rows h i hi').2.2.1
  · rw [r7]
    by_cases e : j = nc
    · subst e
      rw [hgn] at hj
      cases hj
      rw [pk_us, ct_nw_ext j _ (fun i hi' => hg i (by omega))]
      exact (gb_rows h (hi / 2) (by omega)).2.2.1
    · rw [hg j e] at hj
      have q := hw.1 j u v hj
      rw [pk_un e, gb_ext_in (by omega), ct_nw_ext j _ (fun i hi' => hg i (by omega))]
      exact h.nx j u v hj
  · by_cases e : i = nc
    · subst e; rw [hgn] at hn'; cases hn'
    · rw [r4]
      rw [hg i e] at hn'
      exact (gb_rows h i hi').2.2.2.1 hn'
  · rw [r4]; exact (gb_rows h i hi').2.2.2.2
  · obtain ⟨st, s1, s2, s3, s4⟩ := h.st
    refine ⟨st, ?_, s2, by omega, fun i hi' => ?_⟩
    · rw [va_up_ne _ _ (by omega)]; exact s1
    · rw [r4, gb_ext_in (by omega), s4 i hi', ct_vl_ext hw (fun j hj => ⟨hg j (by omega), rfl⟩)]
/-- a new input: newNode alone, one more counted -/
theorem gb_ok_input {n nc ic : Nat} {g : Ct} {bv : Nat → Bool} {ar ar1 : Nat → Nat → Int32} {iv iv2 : Nat → Int32}
    (h : gb_ok n nc ic g bv ar iv) (hmx : nc < 20000) (e2 : iv2 = va_up (va_up iv 0 (nI (nc + 1))) 1 (nI (ic + 1))) (e3 : ∃ B : Nat → Nat → Int32, ar1 = va_up (va_up B 0 (upd (B 0) nc (-1))) 1 (upd (B 1) nc (-1)) ∧ ∀ k, k < 8 → B k = gb_ext n nc (ar k)) :
    gb_ok (gb_cap n (nc + 1)) (nc + 1) (ic + 1) g bv ar1 iv2 := by
  obtain ⟨B, e3, e5⟩ := e3
  subst e2
  have hw := h.wf
  have hle := h.ct.2.1
  have h16 := h.n16
  have hcn := gb_cap_n n (nc + 1)
  have hcg := gb_cap_ge n (nc + 1) (by omega)
  have hcb : gb_cap n (nc + 1) ≤ 65536 := by
    have := h.ct.2.2.1
    unfold gb_cap
    split <;> omega
  have r0 : ar1 0 = upd (gb_ext n nc (ar 0)) nc (-1) := by rw [e3, ← e5 0 (by omega)]; rfl
  have r1 : ar1 1 = upd (gb_ext n nc (ar 1)) nc (-1) := by rw [e3, ← e5 1 (by omega)]; rfl
  have rk : ∀ k, k < 8 → 2 ≤ k → ar1 k = gb_ext n nc (ar k) := fun k hk hk2 => by rw [e3, ← e5 k hk, va_up_ne _ _ (by omega), va_up_ne _ _ (by omega)]
  have hgn : g nc = none := ct_none hw (Nat.le_refl nc)
  have hw' : ct_wf (nc + 1) g := ⟨fun i x y e => by have := hw.1 i x y e; omega, hw.2⟩
  refine ⟨⟨by omega, hcg, hcb, hw', fun i hi' => ?_⟩, by omega, ?_, va_up_self _ _ _, h.bv0, fun i hi' => h.bvn i (by omega), fun i hi' => ?_, fun i hi' => ?_, fun i hi' => ?_, fun j u v hj => ?_, fun i hi' hn' => ?_, fun i hi' => ?_, ?_⟩
  · by_cases e : i = nc
    · subst e
      rw [r0, r1, pk_us, pk_us]
      simp [ct_f, ct_s, hgn]
    · rw [r0, r1, pk_un e, pk_un e, gb_ext_in (by omega), gb_ext_in (by omega)]
      exact h.ct.2.2.2.2 i (by omega)
  · rw [va_up_ne _ _ (by omega)]; exact va_up_self _ _ _
  · rw [rk 2 (by omega) (by omega), ct_us, hgn]; exact (gb_rows h i hi').1
  · rw [rk 3 (by omega) (by omega)]; exact (gb_rows h i hi').2.1
  · rw [rk 6 (by omega) (by omega), ct_nw, hgn]; exact (gb_rows h i hi').2.2.1
  · have q := hw.1 j u v hj
    rw [rk 7 (by omega) (by omega), gb_ext_in (by omega)]; exact h.nx j u v hj
  · rw [rk 4 (by omega) (by omega)]; exact (gb_rows h i hi').2.2.2.1 hn'
  · rw [rk 4 (by omega) (by omega)]; exact (gb_rows h i hi').2.2.2.2
  · obtain ⟨st, s1, s2, s3, s4⟩ := h.st
    refine ⟨st, ?_, s2, by omega, fun i hi' => ?_⟩
    · rw [va_up_ne _ _ (by omega), va_up_ne _ _ (by omega)]; exact s1
    · rw [rk 4 (by omega) (by omega), gb_ext_in (by omega)]; exact s4 i hi'
-- ===== what AND and what is made of ANDs answer =====
/-- a method's end: its literal, the rows' length, the new state -/
def gb_po (n ic : Nat) (bv : Nat → Bool) (R : Nat × Nat × Ct) (r : Int32) (u : GS) : Prop := r = nI R.1 ∧ u.1 = gb_cap n R.2.1 ∧ gb_ok u.1 R.2.1 ic R.2.2 bv u.2.2.1 u.2.2.2
def ct_an (nc : Nat) (g : Ct) (a b : Nat) : Nat × Nat × Ct := match ct_rd g nc (min a b) (max a b) with
  | .inl v => (v, nc, g)
  | .inr q => ct_gt nc g q.1 q.2
def ct_or (nc : Nat) (g : Ct) (a b : Nat) : Nat × Nat × Ct := (ct_nt (ct_an nc g (ct_nt a) (ct_nt b)).1, (ct_an nc g (ct_nt a) (ct_nt b)).2)
def ct_xo (nc : Nat) (g : Ct) (a b : Nat) : Nat × Nat × Ct :=
  let R1 := ct_an nc g a (ct_nt b)
  let R2 := ct_an R1.2.1 R1.2.2 (ct_nt a) b
  ct_or R2.2.1 R2.2.2 R1.1 R2.1
def ct_ie (nc : Nat) (g : Ct) (a b c : Nat) : Nat × Nat × Ct :=
  let R1 := ct_an nc g a b
  let R2 := ct_an R1.2.1 R1.2.2 (ct_nt a) c
  ct_or R2.2.1 R2.2.2 R1.1 R2.1
def ct_ad (nc : Nat) (g : Ct) (a b c : Nat) : Nat × Nat × Ct :=
  let R1 := ct_xo nc g a b
  ct_xo R1.2.1 R1.2.2 R1.1 c
def ct_ca (nc : Nat) (g : Ct) (a b c : Nat) : Nat × Nat × Ct :=
  let R1 := ct_an nc g a b
  let R2 := ct_xo R1.2.1 R1.2.2 a b
  let R3 := ct_an R2.2.1 R2.2.2 c R2.1
  ct_or R3.2.1 R3.2.2 R1.1 R3.1
/-- a good circuit, a literal of it, at most k nodes more -/
def ct_bd (nc k : Nat) (R : Nat × Nat × Ct) : Prop := ct_wf R.2.1 R.2.2 ∧ R.1 < 2 * R.2.1 ∧ nc ≤ R.2.1 ∧ R.2.1 ≤ nc + k
theorem gb_cap_mono {n a b : Nat} (h : a ≤ b) : gb_cap n a ≤ gb_cap n b := by
  unfold gb_cap
  split <;> split <;> omega
theorem ct_gt_b {nc : Nat} {g : Ct} {x y : Nat} (hw : ct_wf nc g) (h1 : 2 ≤ x) (h2 : x / 2 < y / 2) (h3 : y < 2 * nc) : ct_bd nc 1 (ct_gt nc g x y) := by
  by_cases h : ∃ j, g j = some (x, y)
  · obtain ⟨j, hj⟩ := h
    have := hw.1 j x y hj
    rw [ct_gt_some hw hj]
    exact ⟨hw, by show 2 * j < 2 * nc; omega, Nat.le_refl _, by show nc ≤ nc + 1; omega⟩
  · have hn : ∀ j, g j = some (x, y) → False := fun j hj => h ⟨j, hj⟩
    rw [ct_gt_none hn]
    exact ⟨ct_wf_add hw h1 h2 h3 hn, by show 2 * nc < 2 * (nc + 1); omega, by show nc ≤ nc + 1; omega, Nat.le_refl _⟩
theorem ct_rd_b {nc : Nat} {g : Ct} (hw : ct_wf nc g) : ∀ (k x y : Nat), x ≤ y → y < 2 * nc → y / 2 < k → match ct_rd g k x y with
    | .inl v => v < 2 * nc
    | .inr q => 2 ≤ q.1 ∧ q.1 / 2 < q.2 / 2 ∧ q.2 < 2 * nc := by
  intro k
  induction k with
  | zero => intro x y _ _ h; omega
  | succ k ih =>
    intro x y hxy hy hk
    unfold ct_rd
    cases h1 : ct_kn g x y with
    | some v =>
      have := ct_kn_le h1 hxy
      dsimp only
      omega
    | none =>
      have h3 := ct_kn_gap h1 hxy
      dsimp only
      cases h2 : ct_re g x y with
      | none => exact ⟨h3.1, h3.2, hy⟩
      | some r =>
        have h4 := ct_re_lt hw h2 hxy
        exact ih _ _ h4.2.2.2.2.2 h4.2.2.2.2.1 (by omega)
theorem ct_an_b {nc : Nat} {g : Ct} {a b : Nat} (hw : ct_wf nc g) (ha : a < 2 * nc) (hb : b < 2 * nc) : ct_bd nc 1 (ct_an nc g a b) := by
  have h := ct_rd_b hw nc (min a b) (max a b) (by omega) (by omega) (by omega)
  unfold ct_an
  cases e : ct_rd g nc (min a b) (max a b) with
  | inl v =>
    rw [e] at h
    exact ⟨hw, h, Nat.le_refl _, by show nc ≤ nc + 1; omega⟩
  | inr q =>
    rw [e] at h
    exact ct_gt_b hw h.1 h.2.1 h.2.2
theorem ct_or_b {nc : Nat} {g : Ct} {a b : Nat} (hw : ct_wf nc g) (ha : a < 2 * nc) (hb : b < 2 * nc) : ct_bd nc 1 (ct_or nc g a b) := by
  have h := ct_an_b hw (ct_nt_lt ha) (ct_nt_lt hb)
  exact ⟨h.1, ct_nt_lt h.2.1, h.2.2⟩
theorem ct_bd_tr {nc k j m : Nat} {R1 R2 : Nat × Nat × Ct} (h1 : ct_bd nc k R1) (h2 : ct_bd R1.2.1 j R2) (h : k + j ≤ m) : ct_bd nc m R2 := by
  obtain ⟨-, -, a1, a2⟩ := h1
  obtain ⟨b1, b2, b3, b4⟩ := h2
  exact ⟨b1, b2, by omega, by omega⟩
theorem ct_xo_b {nc : Nat} {g : Ct} {a b : Nat} (hw : ct_wf nc g) (ha : a < 2 * nc) (hb : b < 2 * nc) : ct_bd nc 3 (ct_xo nc g a b) := by
  have h1 := ct_an_b hw ha (ct_nt_lt hb)
  have e1 := h1.2.2.1
  have h2 := ct_an_b h1.1 (ct_nt_lt (a := a) (by omega)) (b := b) (by omega)
  have e2 := h2.2.2.1
  have e3 := h1.2.1
  have h3 := ct_or_b h2.1 (a := (ct_an nc g a (ct_nt b)).1) (by omega) h2.2.1
  exact ct_bd_tr (ct_bd_tr h1 h2 (Nat.le_refl 2)) h3 (Nat.le_refl 3)
theorem ct_ie_b {nc : Nat} {g : Ct} {a b c : Nat} (hw : ct_wf nc g) (ha : a < 2 * nc) (hb : b < 2 * nc) (hc : c < 2 * nc) : ct_bd nc 3 (ct_ie nc g a b c) := by
  have h1 := ct_an_b hw ha hb
  have e1 := h1.2.2.1
  have h2 := ct_an_b h1.1 (ct_nt_lt (a := a) (by omega)) (b := c) (by omega)
  have e2 := h2.2.2.1
  have e3 := h1.2.1
  have h3 := ct_or_b h2.1 (a := (ct_an nc g a b).1) (by omega) h2.2.1
  exact ct_bd_tr (ct_bd_tr h1 h2 (Nat.le_refl 2)) h3 (Nat.le_refl 3)
-- ===== values =====
theorem ct_b_and (a b : Bool) : ct_b a &&& ct_b b = ct_b (a && b) := by cases a <;> cases b <;> decide
theorem ct_b_xor (a b : Bool) : ct_b a ^^^ ct_b b = ct_b (a ^^ b) := by cases a <;> cases b <;> decide
theorem ct_b_mod (a : Nat) : nI (a % 2) = ct_b (decide (a % 2 = 1)) := by
  have h : a % 2 = 0 ∨ a % 2 = 1 := by omega
  rcases h with h | h <;> rw [h] <;> decide
theorem gb_val_n {ar : Nat → Nat → Int32} {a : Nat} {b : Bool} (h : a < 2 ^ 31) (e : ar 4 (a / 2) = ct_b b) : gb_val ar (nI a) = ct_b (b ^^ decide (a % 2 = 1)) := by
  unfold gb_val
  rw [gb_sh_n h, nI_clamp (by omega), e, ct_and1 h, ct_b_mod]
  exact ct_b_xor _ _
theorem gb_ok_val {n nc ic q x y : Nat} {g : Ct} {bv : Nat → Bool} {ar ar' : Nat → Nat → Int32} {iv : Nat → Int32} (h : gb_ok n nc ic g bv ar iv) (hq : g q = some (x, y)) (e : ar' = va_up ar 4 (upd (ar 4) q (ct_b (ct_vl g bv q)))) : gb_ok n nc ic g bv ar' iv := by
  have r4 : ar' 4 = upd (ar 4) q (ct_b (ct_vl g bv q)) := by rw [e, va_up_self]
  have rk : ∀ k, k ≠ 4 → ar' k = ar k := fun k hk => by rw [e, va_up_ne _ _ hk]
  refine ⟨⟨h.ct.1, h.ct.2.1, h.ct.2.2.1, h.wf, fun i hi => ?_⟩, h.n16, h.nc, h.ic, h.bv0, h.bvn, ?_, ?_, ?_, ?_, fun i hi hn => ?_, fun i hi => ?_, ?_⟩
  · rw [rk 0 (by decide), rk 1 (by decide)]; exact h.ct.2.2.2.2 i hi
  · rw [rk 2 (by decide)]; exact h.us
  · rw [rk 3 (by decide)]; exact h.dp
  · rw [rk 6 (by decide)]; exact h.nw
  · rw [rk 7 (by decide)]; exact h.nx
  · rw [r4, pk_un (fun z => by rw [z, hq] at hn; cases hn)]; exact h.vi i hi hn
  · rw [r4]
    by_cases z : i = q
    · rw [z, pk_us]; exact ⟨_, rfl⟩
    · rw [pk_un z]; exact h.vb i hi
  · obtain ⟨st, s1, s2, s3, s4⟩ := h.st
    refine ⟨st, s1, s2, s3, fun i hi => ?_⟩
    rw [r4]
    by_cases z : i = q
    · rw [z, pk_us]
    · rw [pk_un z]; exact s4 i hi
theorem gb_ok_st {n nc ic : Nat} {g : Ct} {bv : Nat → Bool} {ar : Nat → Nat → Int32} {iv iv' : Nat → Int32} (h : gb_ok n nc ic g bv ar iv) {st : Nat} (h1 : 1 ≤ st) (h2 : st ≤ nc) (hv : ∀ i, i < st → ar 4 i = ct_b (ct_vl g bv i)) (e : iv' = va_up iv 2 (nI st)) : gb_ok n nc ic g bv ar iv' := by
  subst e
  exact ⟨h.ct, h.n16, by rw [va_up_ne _ _ (by decide)]; exact h.nc, by rw [va_up_ne _ _ (by decide)]; exact h.ic, h.bv0, h.bvn, h.us, h.dp, h.nw, h.nx, h.vi, h.vb, st, va_up_self _ _ _, h1, h2, hv⟩
-- ===== of what a value hangs =====
def ct_rc (g : Ct) : Nat → Nat → Nat → Bool
  | 0, _, _ => false
  | k + 1, t, i => t == i || match g t with
    | none => false
    | some q => ct_rc g k (q.1 / 2) i || ct_rc g k (q.2 / 2) i
def ct_in (g : Ct) (t i : Nat) : Bool := ct_rc g (t + 1) t i
theorem ct_in_self (g : Ct) (t : Nat) : ct_in g t t = true := by
  unfold ct_in ct_rc
  simp
theorem ct_rc_fuel {nc : Nat} {g : Ct} (h : ct_wf nc g) (i : Nat) : ∀ (k j t : Nat), t < k → t < j → ct_rc g k t i = ct_rc g j t i := by
  intro k
  induction k with
  | zero => intro j t h1; omega
  | succ k ih =>
    intro j t h1 h2
    cases j with
    | zero => omega
    | succ j =>
      unfold ct_rc
      cases hg : g t with
      | none => rfl
      | some q =>
        obtain ⟨x, y⟩ := q
        have h3 := h.1 t x y hg
        dsimp only
        rw [ih j (x / 2) (by omega) (by omega), ih j (y / 2) (by omega) (by omega)]
theorem ct_in_s {nc : Nat} {g : Ct} (h : ct_wf nc g) {t x y : Nat} (hg : g t = some (x, y)) (i : Nat) : ct_in g t i = (t == i || (ct_in g (x / 2) i || ct_in g (y / 2) i)) := by
  have h3 := h.1 t x y hg
  unfold ct_in
  rw [ct_rc, hg]
  dsimp only
  rw [ct_rc_fuel h i t (x / 2 + 1) (x / 2) (by omega) (by omega), ct_rc_fuel h i t (y / 2 + 1) (y / 2) (by omega) (by omega)]
theorem ct_in_n {g : Ct} {t : Nat} (hg : g t = none) (i : Nat) : ct_in g t i = (t == i) := by
  unfold ct_in
  rw [ct_rc, hg]
  simp
/-- what is closed below and holds at the top holds of all that is below it -/
theorem ct_rc_cl {g : Ct} {P : Nat → Prop} (hc : ∀ j x y, g j = some (x, y) → P j → P (x / 2) ∧ P (y / 2)) (i : Nat) : ∀ (k t : Nat), P t → ct_rc g k t i = true → P i := by
  intro k
  induction k with
  | zero => intro t _ h; cases h
  | succ k ih =>
    intro t ht h
    unfold ct_rc at h
    rw [Bool.or_eq_true] at h
    rcases h with h | h
    · rw [beq_iff_eq] at h
      exact h ▸ ht
    · cases hg : g t with
      | none => simp [hg] at h
      | some q =>
        obtain ⟨x, y⟩ := q
        simp only [hg, Bool.or_eq_true] at h
        have h2 := hc t x y hg ht
        exact h.elim (ih _ h2.1) (ih _ h2.2)
theorem ct_rc_dn {nc : Nat} {g : Ct} (hw : ct_wf nc g) {j x y : Nat} (hj : g j = some (x, y)) : ∀ (k t : Nat), t < k → ct_rc g k t j = true → ct_rc g k t (x / 2) = true ∧ ct_rc g k t (y / 2) = true := by
  intro k
  induction k with
  | zero => intro t h; omega
  | succ k ih =>
    intro t hk h
    have h3 := hw.1 j x y hj
    unfold ct_rc at h ⊢
    rw [Bool.or_eq_true] at h
    rcases h with h | h
    · rw [beq_iff_eq] at h
      subst h
      simp only [hj]
      cases k with
      | zero => omega
      | succ k =>
        constructor <;> simp [ct_rc]
    · cases hg : g t with
      | none => simp [hg] at h
      | some q =>
        obtain ⟨u, v⟩ := q
        have h4 := hw.1 t u v hg
        simp only [hg, Bool.or_eq_true] at h ⊢
        rcases h with h | h
        · have := ih (u / 2) (by omega) h
          exact ⟨Or.inr (Or.inl this.1), Or.inr (Or.inl this.2)⟩
        · have := ih (v / 2) (by omega) h
          exact ⟨Or.inr (Or.inr this.1), Or.inr (Or.inr this.2)⟩
/-- one node's two marks -/
theorem gb_mark2 {nc t j0 u v : Nat} {g : Ct} {ar a2 a3 : Nat → Nat → Int32} (hw : ct_wf nc g) (hg : g j0 = some (u, v)) (h1 : a2 5 j0 = 1) (hq : j0 ≤ t) (m2 : ∀ k, k ≠ 5 → a2 k = ar k) (m3 : a2 5 t = 1) (m4 : ∀ i, i ≤ t → a2 5 i = 0 ∨ a2 5 i = 1) (m5 : ∀ i, i ≤ t → a2 5 i = 1 → ct_in g t i = true)
    (m6 : ∀ j x y, j0 < j → j ≤ t → a2 5 j = 1 → g j = some (x, y) → a2 5 (x / 2) = 1 ∧ a2 5 (y / 2) = 1)
    (e : a3 = va_up (va_up a2 5 (upd (a2 5) (u / 2) 1)) 5 (upd (va_up a2 5 (upd (a2 5) (u / 2) 1) 5) (v / 2) 1)) :
    (∀ k, k ≠ 5 → a3 k = ar k) ∧ a3 5 t = 1 ∧ (∀ i, i ≤ t → a3 5 i = 0 ∨ a3 5 i = 1) ∧ (∀ i, i ≤ t → a3 5 i = 1 → ct_in g t i = true) ∧ (∀ j x y, j0 - 1 < j → j ≤ t → a3 5 j = 1 → g j = some (x, y) → a3 5 (x / 2) = 1 ∧ a3 5 (y / 2) = 1) := by
  have h3 := hw.1 j0 u v hg
  have r5 : a3 5 = upd (upd (a2 5) (u / 2) 1) (v / 2) 1 := by rw [e, va_up_self, va_up_self]
  have keep : ∀ i, a2 5 i = 1 → a3 5 i = 1 := by
    intro i hi
    rw [r5]
    by_cases z : i = v / 2
    · rw [z, pk_us]
    · rw [pk_un z]
      by_cases z2 : i = u / 2
      · rw [z2, pk_us]
      · rw [pk_un z2]; exact hi
  have hcases : ∀ i, i = v / 2 ∨ i = u / 2 ∨ a3 5 i = a2 5 i := by
    intro i
    by_cases z : i = v / 2
    · exact Or.inl z
    · by_cases z2 : i = u / 2
      · exact Or.inr (Or.inl z2)
      · exact Or.inr (Or.inr (by rw [r5, pk_un z, pk_un z2]))
  have hu : a3 5 (u / 2) = 1 := by
    rw [r5, pk_un (by omega), pk_us]
  have hv : a3 5 (v / 2) = 1 := by rw [r5, pk_us]
  have hd := ct_rc_dn hw hg (t + 1) t (by omega) (m5 j0 hq h1)
  refine ⟨fun k hk => by rw [e, va_up_ne _ _ hk, va_up_ne _ _ hk]; exact m2 k hk, keep t m3, fun i hi => ?_, fun i hi h => ?_, fun j x y g1 g2 g3 g4 => ?_⟩
  · rcases hcases i with z | z | z
    · exact Or.inr (by rw [z]; exact hv)
    · exact Or.inr (by rw [z]; exact hu)
    · rw [z]; exact m4 i hi
  · rcases hcases i with z | z | z
    · rw [z]; exact hd.2
    · rw [z]; exact hd.1
    · exact m5 i hi (by rw [← z]; exact h)
  · by_cases hj : j = j0
    · subst hj
      rw [hg] at g4
      cases g4
      exact ⟨hu, hv⟩
    · have h5 : a2 5 j = 1 := by
        rcases hcases j with z | z | z
        · omega
        · omega
        · rw [← z]; exact g3
      have h6 := m6 j x y (by omega) g2 h5 g4
      exact ⟨keep _ h6.1, keep _ h6.2⟩
theorem gb_marks {nc t : Nat} {g : Ct} {a2 : Nat → Nat → Int32} (hw : ct_wf nc g) (m3 : a2 5 t = 1) (m4 : ∀ i, i ≤ t → a2 5 i = 0 ∨ a2 5 i = 1) (m5 : ∀ i, i ≤ t → a2 5 i = 1 → ct_in g t i = true)
    (m6 : ∀ j x y, j ≤ t → a2 5 j = 1 → g j = some (x, y) → a2 5 (x / 2) = 1 ∧ a2 5 (y / 2) = 1) : ∀ i, i ≤ t → a2 5 i = ct_b (ct_in g t i) := by
  intro i hi
  rcases m4 i hi with h | h
  · cases e : ct_in g t i with
    | false => exact h
    | true =>
      have := ct_rc_cl (g := g) (P := fun j => j ≤ t ∧ a2 5 j = 1) (fun j x y hj hp => by
        have h3 := hw.1 j x y hj
        have h4 := m6 j x y hp.1 hp.2 hj
        exact ⟨⟨by omega, h4.1⟩, ⟨by omega, h4.2⟩⟩) i (t + 1) t ⟨Nat.le_refl t, m3⟩ e
      rw [h] at this
      exact absurd this.2 (by decide)
  · rw [m5 i hi h]; exact h
/-- how many gates, among the first k nodes, are below t (t with them) -/
def ct_cn (g : Ct) (t : Nat) : Nat → Nat
  | 0 => 0
  | k + 1 => ct_cn g t k + (if ct_in g t k = true ∧ g k ≠ none then 1 else 0)
