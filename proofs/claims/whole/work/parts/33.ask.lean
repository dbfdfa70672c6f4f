-- ===== what the questions rest on =====
theorem ct_b_n1 {r : Int32} {b : Bool} (e : r = ct_b b) (h : ¬ r = 1) : (0 : Int32) = r := by
  cases b
  · exact e.symm
  · exact absurd e h
theorem ct_b_inj {a b : Bool} (h : ct_b a = ct_b b) : a = b := by
  cases a <;> cases b <;> first | rfl | exact absurd h (by decide)
theorem ct_nod_n {nc : Nat} {x : Int32} (h : ct_nod nc x) (hn : nc < 2 ^ 30) : x = nI x.toNatClampNeg ∧ x.toNatClampNeg < nc := by
  obtain ⟨a, ha, rfl⟩ := ct_nod_of h hn
  rw [nI_clamp (by omega)]
  exact ⟨rfl, ha⟩
def ct_kd (g : Ct) (a : Nat) : Int32 := if a = 0 then 0 else if g a = none then 1 else 2
def ct_nd (nc : Nat) (g : Ct) (a : Nat) (w : Int32) : Int32 := if w = 0 then ct_kd g a else if w = 1 then ct_f g a else if w = 2 then ct_s g a else nI (ct_us g nc a)
theorem gb_kind_n {n nc : Nat} {g : Ct} {ar : Nat → Nat → Int32} (h : ct_at n nc g ar) {a : Nat} (ha : a < nc) : gb_kind ar (nI a) = ct_kd g a := by
  have hn := h.2.1
  have h3 := h.2.2.1
  have e1 := gb_gate_n h ha
  have e2 : nI a = 0 ↔ a = 0 := nI_eq (a := a) (b := 0) (by omega) (by omega)
  unfold gb_kind ct_kd
  simp only [e1, e2]
theorem gb_kind_i {n nc : Nat} {g : Ct} {ar : Nat → Nat → Int32} (h : ct_at n nc g ar) {a : Nat} (ha : a < nc) (hk : gb_kind ar (nI a) = 1) : 0 < a ∧ g a = none := by
  rw [gb_kind_n h ha] at hk
  unfold ct_kd at hk
  split at hk
  · exact absurd hk (by decide)
  · split at hk
    · exact ⟨by omega, by assumption⟩
    · exact absurd hk (by decide)
theorem ct_up_same {bv : Nat → Bool} {a : Nat} {b : Bool} (h : bv a = b) : va_up bv a b = bv := by
  funext j
  by_cases e : j = a
  · rw [e, va_up_self, h]
  · rw [va_up_ne _ _ e]
theorem gb_ok_set {n nc ic a st : Nat} {g : Ct} {bv : Nat → Bool} {on : Bool} {ar ar' : Nat → Nat → Int32} {iv iv' : Nat → Int32} (h : gb_ok n nc ic g bv ar iv) (hg : g a = none) (h0 : 0 < a) (ha : a < nc)
    (e : ar' = va_up ar 4 (upd (ar 4) a (ct_b on))) (s2 : 1 ≤ st) (s3 : st ≤ nc) (s4 : ∀ i, i < st → ar 4 i = ct_b (ct_vl g bv i)) (e2 : iv' = va_up iv 2 (nI (min st (a + 1)))) : gb_ok n nc ic g (va_up bv a on) ar' iv' := by
  have hw := h.wf
  have hle := h.ct.2.1
  have hb9 := h.ct.2.2.1
  have r4 : ar' 4 = upd (ar 4) a (ct_b on) := by rw [e, va_up_self]
  have rk : ∀ k, k ≠ 4 → ar' k = ar k := fun k hk => by rw [e, va_up_ne _ _ hk]
  subst e2
  refine ⟨⟨h.ct.1, h.ct.2.1, h.ct.2.2.1, hw, fun i hi => ?_⟩, h.n16, by rw [va_up_ne _ _ (by decide)]; exact h.nc, by rw [va_up_ne _ _ (by decide)]; exact h.ic, by rw [va_up_ne _ _ (by omega)]; exact h.bv0, fun i hi => by rw [va_up_ne _ _ (by omega)]; exact h.bvn i hi, ?_, ?_, ?_, ?_, fun i hi hn => ?_, fun i hi => ?_, ?_⟩
  · rw [rk 0 (by decide), rk 1 (by decide)]; exact h.ct.2.2.2.2 i hi
  · rw [rk 2 (by decide)]; exact h.us
  · rw [rk 3 (by decide)]; exact h.dp
  · rw [rk 6 (by decide)]; exact h.nw
  · rw [rk 7 (by decide)]; exact h.nx
  · rw [r4]
    by_cases z : i = a
    · rw [z, pk_us, va_up_self]
    · rw [pk_un z, va_up_ne _ _ z]; exact h.vi i hi hn
  · rw [r4]
    by_cases z : i = a
    · rw [z, pk_us]; exact ⟨_, rfl⟩
    · rw [pk_un z]; exact h.vb i hi
  · refine ⟨min st (a + 1), va_up_self _ _ _, by omega, by omega, fun i hi => ?_⟩
    rw [r4]
    by_cases z : i = a
    · rw [z, pk_us, ct_vl_n hg, va_up_self]
    · rw [pk_un z, s4 i (by omega), ct_vl_ext hw (fun j hj => ⟨rfl, va_up_ne _ _ (by omega)⟩)]
theorem gb_ok_mark {n nc ic : Nat} {g : Ct} {bv : Nat → Bool} {ar ar' : Nat → Nat → Int32} {iv iv' : Nat → Int32} (h : gb_ok n nc ic g bv ar iv) (rk : ∀ k, k ≠ 5 → ar' k = ar k) (e : iv' = iv) : gb_ok n nc ic g bv ar' iv' := by
  subst e
  refine ⟨⟨h.ct.1, h.ct.2.1, h.ct.2.2.1, h.wf, fun i hi => ?_⟩, h.n16, h.nc, h.ic, h.bv0, h.bvn, ?_, ?_, ?_, ?_, ?_, ?_, ?_⟩
  · rw [rk 0 (by decide), rk 1 (by decide)]; exact h.ct.2.2.2.2 i hi
  · rw [rk 2 (by decide)]; exact h.us
  · rw [rk 3 (by decide)]; exact h.dp
  · rw [rk 6 (by decide)]; exact h.nw
  · rw [rk 7 (by decide)]; exact h.nx
  · rw [rk 4 (by decide)]; exact h.vi
  · rw [rk 4 (by decide)]; exact h.vb
  · rw [rk 4 (by decide)]; exact h.st
theorem ct_in_gt {nc : Nat} {g : Ct} (hw : ct_wf nc g) {t i : Nat} (h : t < i) : ct_in g t i = false := by
  cases e : ct_in g t i with
  | false => rfl
  | true =>
    have := ct_rc_cl (g := g) (P := fun j => j ≤ t) (fun j x y hj hp => by
      have h3 := hw.1 j x y hj
      omega) i (t + 1) t (Nat.le_refl t) e
    omega
