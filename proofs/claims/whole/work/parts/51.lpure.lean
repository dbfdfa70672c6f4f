-- ===== the law: both sides beside each other =====
theorem la_cmp (x : Int64) : lg_cmp x x = 0 := by
  unfold lg_cmp
  rw [if_neg (Int64.lt_irrefl), if_pos rfl]
theorem la_join {V Z : Prop} {v : Int64} {S : GS → Prop} {S0 : GS} {r r2 X : Int32} {u : OU} {w : MS} {nc ic : Nat} {g : Ct} {bv : Nat → Bool} (h1 : wb_ans V v S S0 r u) (h2 : md_ans V nc ic g bv (r2 = X ∧ Z) w) (hv : v = X.toInt64) :
    w.2 0 = r ∧ (r = 0 → u.2 0 = r2.toInt64 ∧ r2 = X) ∧ ((V ∧ S u.1 ∧ Z) ∨ (¬ V ∧ u.1 = S0 ∧ mm_ok nc ic g bv w.1 w.2)) := by
  rcases h1 with ⟨a1, a2, a3, a4⟩ | ⟨a1, a2, a3⟩
  · rcases h2 with ⟨b1, b2, b3, b4⟩ | ⟨b1, b2, b3⟩
    · exact ⟨by rw [b2, a2], fun _ => ⟨by rw [a3, hv, b3], b3⟩, Or.inl ⟨a1, a4, b4⟩⟩
    · exact absurd a1 b1
  · rcases h2 with ⟨b1, b2, b3, b4⟩ | ⟨b1, b2, b3⟩
    · exact absurd b1 a1
    · exact ⟨by rw [b2, a2], fun z => absurd (a2.symm.trans z) (by decide), Or.inr ⟨a1, a3, b3⟩⟩
theorem ct_lb (b : Bool) : ct_l b = (ct_b b).toInt64 := by cases b <;> decide
/-- a state of both sides behind a call -/
def la_ok (n nc : Nat) (u : GS) (w : MS) (K : Nat) : Prop := ∃ nc' ic' g' bv', gb_ok u.1 nc' ic' g' bv' u.2.2.1 u.2.2.2 ∧ mm_ok nc' ic' g' bv' w.1 w.2 ∧ nc ≤ nc' ∧ nc' ≤ nc + 6 ∧ u.1 = n + K ∧ u.1 ≤ 16 * nc'
theorem la_cap {n nc m : Nat} (h : n ≤ 16 * nc) (hm : nc ≤ m) : gb_cap n m ≤ 16 * m := by
  unfold gb_cap
  split <;> omega
theorem la_K {V : Prop} {n nc m : Nat} (hn : n ≤ 16 * nc) (hb : V → nc ≤ m ∧ m ≤ nc + 6) : ∃ K, (V → gb_cap n m ≤ n + K) ∧ n + K ≤ 16 * (nc + 6) ∧ ((V ∧ n + K = gb_cap n m ∧ nc ≤ m ∧ m ≤ nc + 6) ∨ (¬ V ∧ K = 0)) := by
  by_cases h : V
  · have h1 := hb h
    have h2 := gb_cap_n n m
    have h3 := la_cap hn h1.1
    exact ⟨gb_cap n m - n, fun _ => by omega, by omega, Or.inl ⟨h, by omega, h1⟩⟩
  · exact ⟨0, fun z => absurd z h, by omega, Or.inr ⟨h, rfl⟩⟩
theorem la_mk {V : Prop} {n nc ic : Nat} {g : Ct} {bv : Nat → Bool} {ad : Nat → Nat} {ar : Nat → Nat → Int32} {iv : Nat → Int32} {R : Nat × Nat × Ct} {u : GS} {w : MS} {K : Nat} (hok : gb_ok n nc ic g bv ar iv) (hn : n ≤ 16 * nc)
    (h : (V ∧ (u.1 = gb_cap n R.2.1 ∧ gb_ok u.1 R.2.1 ic R.2.2 bv u.2.2.1 u.2.2.2) ∧ mm_ok R.2.1 ic R.2.2 bv w.1 w.2) ∨ (¬ V ∧ u = (n, ad, ar, iv) ∧ mm_ok nc ic g bv w.1 w.2))
    (hK : (V ∧ n + K = gb_cap n R.2.1 ∧ nc ≤ R.2.1 ∧ R.2.1 ≤ nc + 6) ∨ (¬ V ∧ K = 0)) : la_ok n nc u w K := by
  rcases h with ⟨h1, h2, h3⟩ | ⟨h1, h2, h3⟩
  · rcases hK with ⟨_, k2, k3, k4⟩ | ⟨k1, _⟩
    · exact ⟨_, _, _, _, h2.2, h3, k3, k4, by omega, by rw [h2.1]; exact la_cap hn k3⟩
    · exact absurd h1 k1
  · rcases hK with ⟨k1, _⟩ | ⟨_, k2⟩
    · exact absurd k1 h1
    · subst h2
      exact ⟨_, _, _, _, hok, h3, Nat.le_refl _, by omega, by rw [k2]; rfl, hn⟩
theorem la_sm {V : Prop} {n nc ic : Nat} {g : Ct} {bv bv2 : Nat → Bool} {ad : Nat → Nat} {ar : Nat → Nat → Int32} {iv : Nat → Int32} {u : GS} {w : MS} (hok : gb_ok n nc ic g bv ar iv) (hn : n ≤ 16 * nc)
    (h : (V ∧ (u.1 = n ∧ gb_ok n nc ic g bv2 u.2.2.1 u.2.2.2) ∧ mm_ok nc ic g bv2 w.1 w.2) ∨ (¬ V ∧ u = (n, ad, ar, iv) ∧ mm_ok nc ic g bv w.1 w.2)) : la_ok n nc u w 0 := by
  rcases h with ⟨h1, h2, h3⟩ | ⟨h1, h2, h3⟩
  · exact ⟨_, _, _, _, by rw [h2.1]; exact h2.2, h3, Nat.le_refl _, by omega, h2.1, by rw [h2.1]; exact hn⟩
  · subst h2
    exact ⟨_, _, _, _, hok, h3, Nat.le_refl _, by omega, rfl, hn⟩
theorem ct_ad_b {nc : Nat} {g : Ct} {a b c : Nat} (hw : ct_wf nc g) (ha : a < 2 * nc) (hb : b < 2 * nc) (hc : c < 2 * nc) : ct_bd nc 6 (ct_ad nc g a b c) := by
  have h1 := ct_xo_b hw ha hb
  have l1 := h1.2.1
  have g1 := h1.2.2.1
  exact ct_bd_tr h1 (ct_xo_b h1.1 l1 (by omega)) (by omega)
theorem ct_ca_b {nc : Nat} {g : Ct} {a b c : Nat} (hw : ct_wf nc g) (ha : a < 2 * nc) (hb : b < 2 * nc) (hc : c < 2 * nc) : ct_bd nc 6 (ct_ca nc g a b c) := by
  have h1 := ct_an_b hw ha hb
  have l1 := h1.2.1
  have g1 := h1.2.2.1
  have h2 := ct_xo_b (a := a) (b := b) h1.1 (by omega) (by omega)
  have l2 := h2.2.1
  have g2 := h2.2.2.1
  have h3 := ct_an_b (a := c) (b := (ct_xo (ct_an nc g a b).2.1 (ct_an nc g a b).2.2 a b).1) h2.1 (by omega) l2
  have l3 := h3.2.1
  have g3 := h3.2.2.1
  have h4 := ct_or_b (a := (ct_an nc g a b).1) h3.1 (by omega) l3
  exact ct_bd_tr (ct_bd_tr (ct_bd_tr h1 h2 (Nat.le_refl 4)) h3 (Nat.le_refl 5)) h4 (Nat.le_refl 6)
theorem ct_jn_b {nc : Nat} {g : Ct} {k : Int32} {a b : Nat} (hw : ct_wf nc g) (ha : a < 2 * nc) (hb : b < 2 * nc) : nc ≤ (ct_jn nc g k a b).2.1 ∧ (ct_jn nc g k a b).2.1 ≤ nc + 6 := by
  unfold ct_jn
  split
  · have h := ct_or_b hw ha hb
    have h1 := h.2.2
    omega
  · have h := ct_xo_b hw ha hb
    have h1 := h.2.2
    omega
theorem ct_th_b {nc : Nat} {g : Ct} {k : Int32} {a b c : Nat} (hw : ct_wf nc g) (ha : a < 2 * nc) (hb : b < 2 * nc) (hc : c < 2 * nc) : nc ≤ (ct_th nc g k a b c).2.1 ∧ (ct_th nc g k a b c).2.1 ≤ nc + 6 := by
  unfold ct_th
  split
  · have h := ct_ie_b hw ha hb hc
    have h1 := h.2.2
    omega
  · split
    · have h := ct_ad_b hw ha hb hc
      exact h.2.2
    · have h := ct_ca_b hw ha hb hc
      exact h.2.2
theorem la_go {L i : Nat} (hL : L ≤ 2560) (hi : i ≤ 2560) (h : ¬ nI L - 5 < nI i) : i + 5 ≤ L := by
  rw [Int32.lt_iff_toInt_lt, Int32.toInt_sub, nI_toInt (by omega), nI_toInt (by omega), show (5 : Int32).toInt = 5 from by decide, Int.bmod_eq_of_le (by omega) (by omega)] at h
  omega
-- ===== the law's world =====
abbrev lawW (h0 h1 qo : Nat) (cI cB cZ cL : ClassId) (n : Nat) (ad : Nat → Nat) (ar : Nat → Nat → Int32) (iv : Nat → Int32) (f : Nat → Int64) (am : Nat → Nat) (ar1 : Nat → Nat → Int32) (iv1 : Nat → Int32) : va_W := mW h1 cI cB cZ am ar1 iv1 ++ oW h0 cI cL n ad ar iv qo f
