set_option maxHeartbeats 4000000 in
set_option maxRecDepth 100000 in
/-- Arrays.copyOf, twice as long -/
theorem c_copyOf (l : Launch) (D : va_G) (cI : ClassId) (a n0 : Nat) (f : Nat → Int32) (sz : Nat) (x : Int32) (hx0 : x = nI (2 * n0)) (h16 : 16 ≤ n0) (hlen : n0 ≤ 20000) : Met l yJ7_copyOf wsJ7_copyOf ({ frames := 1, cells := 1, slots := 2 * n0, locals := 40 }) (mP D [(a, .inl (cI, n0, .inl f))] [(cI, .int)] sz [.ref a, .int x]) (va_Qr (fun _ : Unit => True) (fun _ q t => va_P D vwCl [(a, .inl (cI, n0, .inl f)), (q, .inl (cI, 2 * n0, .inl (gb_gr n0 f)))] t.heap ∧ va_K D vwCl [(cI, .int)] t ∧ va_D (va_A [(a, .inl (cI, n0, .inl f))] sz) [(a, .inl (cI, n0, .inl f)), (q, .inl (cI, 2 * n0, .inl (gb_gr n0 f)))]) (va_A [(a, .inl (cI, n0, .inl f))] sz)) 1 (2 * n0) (va_A [(a, .inl (cI, n0, .inl f))] sz) := by
  refine Met.ofW (cc := cJ7_copyOf) (maxL := 3) (ret := (some (.array .int))) (by decide) rfl ?_
  intro p e s m args below meth c s₁ B hml hv
  obtain ⟨rfl, hsz, hP, hK, hD0⟩ := hv
  have hx := B.exec
  have hb := B.bytes
  have hr := B.returns
  have hts := atoms_spec (ws := wsJ7_copyOf) B.pre
  have hown : s.vm.findClass RJ7 = some m.cls := findClass_of_methodNamed B.named
  have hlocks := B.notSynchronized
  have hl := lv_entry ([.ref a, .int x]) (n := 3) (Nat.le_of_ble_eq_true rfl)
  rw [lg_entry_eq]
  generalize (lg_sl ([.ref a, .int x]) ++ List.replicate (3 - (lg_sl ([.ref a, .int x])).length) Slot.unset).toArray = ls at hl ⊢
  have hl : lv_has ls 3 [(0, .ref a), (1, .int x)] := hl
  subst hsz
  have hD := hD0.self (sz := s.heap.size)
  generalize hAe : va_A [(a, .inl (cI, n0, .inl f))] s.heap.size = A at hD ⊢
  have hA : ∀ q : Nat, s.heap.size ≤ q → A q := fun q h => by rw [← hAe]; exact Or.inr h
  have hS : va_S A s.heap s.heap [] := va_S.rf
  refine lv_iload_n hx hb dJ7_copyOf_0 rfl (lv_at hl 1 rfl) ?_
  refine lv_aload_n hx hb dJ7_copyOf_1 rfl (lv_at hl 0 rfl) ?_
  refine va_alen (v := nI n0) hx hb hK hP 0 0 rfl rfl rfl dJ7_copyOf_2 ?_
  refine lv_icmp_ne (tgt := 14) hx hb dJ7_copyOf_3 (by decide) (fun c3 => ?_) (fun c3 => ?_)
  · refine lv_iload_n hx hb dJ7_copyOf_14 rfl (lv_at hl 1 rfl) ?_
    refine va_newa (atype := .int) (a0 := (2 * n0, .inl (fun _ => 0))) (ty := .int) hx hb (hts _ (mG wm_87)) rfl hK hP hD hS hA (fun _ => rfl) (by rw [hx0]; exact nI_pos (by omega)) (by rw [hx0]; exact nI_clamp (by omega)) (by show 2 * n0 * 4 ≤ 536870912; omega) (Nat.le_of_ble_eq_true rfl) (by show 0 + 2 * n0 ≤ 2 * n0; omega) dJ7_copyOf_15 (fun q cA H hK hP hD hS => ?_)
    have hcA : cI = cA := gb_cI hK (i := 0) (j := 1) rfl rfl
    subst hcA
    have hP : va_P D vwCl [(a, .inl (cI, n0, .inl f)), (q, .inl (cI, 2 * n0, .inl (fun _ => 0)))] H := hP
    have hD : va_D A [(a, .inl (cI, n0, .inl f)), (q, .inl (cI, 2 * n0, .inl (fun _ => 0)))] := hD
    refine lv_astore_n (lv' := [(2, .ref q), (0, .ref a), (1, .int x)]) hx hb dJ7_copyOf_17 rfl hl (by decide) rfl (fun ls hl => ?_)
    refine lv_aload_n hx hb dJ7_copyOf_18 rfl (lv_at hl 1 rfl) ?_
    refine lv_iconst (v := 0) hx hb dJ7_copyOf_19 (by decide) ?_
    refine lv_aload_n hx hb dJ7_copyOf_20 rfl (lv_at hl 0 rfl) ?_
    refine lv_iconst (v := 0) hx hb dJ7_copyOf_21 (by decide) ?_
    refine lv_aload_n hx hb dJ7_copyOf_22 rfl (lv_at hl 1 rfl) ?_
    refine va_alen (v := nI n0) hx hb hK hP 0 0 rfl rfl rfl dJ7_copyOf_23 ?_
    refine lv_iload_n hx hb dJ7_copyOf_24 rfl (lv_at hl 2 rfl) ?_
    refine va_mmin hx hb (by rw [hml]; exact hl.1.symm) hown (hts _ (mG wm_189)) (hts _ (mG wm_190)) (hts _ (mG wm_42)) (hts _ (mG wm_191)) (Nat.le_of_ble_eq_true rfl) (Nat.le_of_ble_eq_true rfl) (Nat.le_of_ble_eq_true rfl) (by show 0 + 2 * n0 ≤ 2 * n0; omega) dJ7_copyOf_25 ?_
    refine lv_topi (fun v25 e25 => ?_)
    have e25 : v25 = nI n0 := by
      rw [e25, hx0, if_neg (nI_nlt (by omega) (by omega))]
    refine va_copyi hx hb (by rw [hml]; exact hl.1.symm) hown (hts _ (mG wm_192)) (hts _ (mG wm_194)) (hts _ (mG wm_193)) (hts _ (mG wm_43)) hK hP hD hS 0 1 0 1 rfl rfl rfl rfl rfl (by decide) (by decide) (by rw [e25]; exact nI_pos (by omega)) (by rw [e25, nI_clamp (by omega)]; show 0 + n0 ≤ n0; omega) (by rw [e25, nI_clamp (by omega)]; show 0 + n0 ≤ 2 * n0; omega) (fun _ _ => rfl) (Nat.le_of_ble_eq_true rfl) (Nat.le_of_ble_eq_true rfl) dJ7_copyOf_28 (fun H locs hP hD hS => ?_)
    rw [e25, nI_clamp (by omega)] at hP hD
    have hP : va_P D vwCl [(a, .inl (cI, n0, .inl f)), (q, .inl (cI, 2 * n0, .inl (gb_gr n0 f)))] H := hP
    have hD : va_D A [(a, .inl (cI, n0, .inl f)), (q, .inl (cI, 2 * n0, .inl (gb_gr n0 f)))] := hD
    have hK := hK.sub (tys' := [(cI, .int)]) [0] rfl
    refine lv_aload_n hx hb dJ7_copyOf_31 rfl (lv_at hl 0 rfl) ?_
    refine W.widen (k := 1) (n := 2 * n0) (by omega) (by omega) ?_
    exact W.aret (v := .ref q) hx hb hr (Or.inr ⟨_, rfl⟩) (Or.inr ⟨q, rfl⟩) (fun t ht hW => ⟨⟨(), q, rfl, trivial, by rw [ht]; exact hP, va_K.moved hW.alike hK, hD⟩, hS.F ht⟩) hS.2.2 dJ7_copyOf_32
  · rw [hx0] at c3
    exact absurd ((nI_eq (by omega) (by omega)).mp c3) (by omega)

set_option maxHeartbeats 4000000 in
set_option maxRecDepth 100000 in
/-- enterGate -/
theorem c_enterGate (l : Launch) (D : va_G) (h0 : Nat) (cI : ClassId) (n : Nat) (ad : Nat → Nat) (ar : Nat → Nat → Int32) (iv : Nat → Int32) (sz : Nat) (x : Int32) (y : Int32) (z : Int32) (h1 : vp_in x n) (h2 : vp_in y n) (h3 : vp_in z n) : Met l yX0_enterGate wsX0_enterGate ({ frames := 1, cells := 0, slots := 0, locals := 21 }) (mP D (gW h0 cI n ad ar iv) [(cI, .int)] sz [.ref h0, .int x, .int y, .int z]) (va_Qv (fun u : GS => u = (n, ad, gb_ent ar x.toNatClampNeg y.toNatClampNeg z.toNatClampNeg x, iv)) (gb_at D cI (va_A (gW h0 cI n ad ar iv) sz) h0) (va_A (gW h0 cI n ad ar iv) sz)) (0) (0) (va_A (gW h0 cI n ad ar iv) sz) := by
  refine Met.ofW (cc := cX0_enterGate) (maxL := 4) (ret := none) (by decide) rfl ?_
  intro p e s m args below meth c s₁ B hml hv
  obtain ⟨rfl, hsz, hP, hK, hD0⟩ := hv
  have hx := B.exec
  have hb := B.bytes
  have hr := B.returns
  have hts := atoms_spec (ws := wsX0_enterGate) B.pre
  have hown : s.vm.findClass RX0 = some m.cls := findClass_of_methodNamed B.named
  have hlocks := B.notSynchronized
  have hl := lv_entry ([.ref h0, .int x, .int y, .int z]) (n := 4) (Nat.le_of_ble_eq_true rfl)
  rw [lg_entry_eq]
  generalize (lg_sl ([.ref h0, .int x, .int y, .int z]) ++ List.replicate (4 - (lg_sl ([.ref h0, .int x, .int y, .int z])).length) Slot.unset).toArray = ls at hl ⊢
  have hl : lv_has ls 4 [(0, .ref h0), (1, .int x), (2, .int y), (3, .int z)] := hl
  subst hsz
  have hD := hD0.self (sz := s.heap.size)
  generalize hAe : va_A (gW h0 cI n ad ar iv) s.heap.size = A at hD ⊢
  have hA : ∀ q : Nat, s.heap.size ≤ q → A q := fun q h => by rw [← hAe]; exact Or.inr h
  have hS : va_S A s.heap s.heap [] := va_S.rf
  refine lv_aload_n hx hb dX0_enterGate_0 rfl (lv_at hl 0 rfl) ?_
  refine va_get (D := D) (ci := 0) (v := .ref (ad 3)) (C := RX0) (T := TX0) (N := 11) hx hb hts inX0 hown hK hP 0 rfl rfl 3 (by decide) (hts _ (mG wm_56)) (fun _ h9 => h9) rfl dX0_enterGate_1 ?_
  refine lv_iload_n hx hb dX0_enterGate_4 rfl (lv_at hl 1 rfl) ?_
  refine lv_iconst (v := 1) hx hb dX0_enterGate_5 (by decide) ?_
  refine lv_aload_n hx hb dX0_enterGate_6 rfl (lv_at hl 0 rfl) ?_
  refine va_get (D := D) (ci := 0) (v := .ref (ad 3)) (C := RX0) (T := TX0) (N := 11) hx hb hts inX0 hown hK hP 0 rfl rfl 3 (by decide) (hts _ (mG wm_56)) (fun _ h9 => h9) rfl dX0_enterGate_7 ?_
  refine lv_iload_n hx hb dX0_enterGate_10 rfl (lv_at hl 2 rfl) ?_
  refine va_iald hx hb hK hP 4 0 rfl rfl h2 dX0_enterGate_11 ?_
  refine lv_topi (fun v11 e11 => ?_)
  refine lv_aload_n hx hb dX0_enterGate_12 rfl (lv_at hl 0 rfl) ?_
  refine va_get (D := D) (ci := 0) (v := .ref (ad 3)) (C := RX0) (T := TX0) (N := 11) hx hb hts inX0 hown hK hP 0 rfl rfl 3 (by decide) (hts _ (mG wm_56)) (fun _ h9 => h9) rfl dX0_enterGate_13 ?_
  refine lv_iload_n hx hb dX0_enterGate_16 rfl (lv_at hl 3 rfl) ?_
  refine va_iald hx hb hK hP 4 0 rfl rfl h3 dX0_enterGate_17 ?_
  refine lv_topi (fun v17 e17 => ?_)
  refine va_mmax hx hb (by rw [hml]; exact hl.1.symm) hown (hts _ (mG wm_228)) (hts _ (mG wm_229)) (hts _ (mG wm_42)) (hts _ (mG wm_230)) (Nat.le_of_ble_eq_true rfl) (Nat.le_of_ble_eq_true rfl) (Nat.zero_le _) (Nat.zero_le _) dX0_enterGate_18 ?_
  refine lv_topi (fun v18 e18 => ?_)
  refine lv_iadd hx hb dX0_enterGate_21 ?_
  refine lv_topi (fun v21 e21 => ?_)
  refine va_iast hx hb hK hP hD hS 4 0 rfl rfl h1 dX0_enterGate_22 (fun H locs hP hD hS => ?_)
  obtain ⟨ar22, e22⟩ : ∃ zz : Nat → Nat → Int32, zz = va_up ar 3 (upd (ar 3) (Int32.toNatClampNeg x) v21) := ⟨_, rfl⟩
  have hP : va_P D vwCl (gW h0 cI n ad ar22 iv) H := by rw [e22]; exact hP
  have hD : va_D A (gW h0 cI n ad ar22 iv) := by rw [e22]; exact hD
  refine lv_aload_n hx hb dX0_enterGate_23 rfl (lv_at hl 0 rfl) ?_
  refine va_get (D := D) (ci := 0) (v := .ref (ad 2)) (C := RX0) (T := TX0) (N := 11) hx hb hts inX0 hown hK hP 0 rfl rfl 2 (by decide) (hts _ (mG wm_55)) (fun _ h9 => h9) rfl dX0_enterGate_24 ?_
  refine lv_iload_n hx hb dX0_enterGate_27 rfl (lv_at hl 2 rfl) ?_
  refine lv_dup2_11 hx hb dX0_enterGate_28 rfl rfl ?_
  refine va_iald hx hb hK hP 3 0 rfl rfl h2 dX0_enterGate_29 ?_
  refine lv_topi (fun v29 e29 => ?_)
  refine lv_iconst (v := 1) hx hb dX0_enterGate_30 (by decide) ?_
  refine lv_iadd hx hb dX0_enterGate_31 ?_
  refine lv_topi (fun v31 e31 => ?_)
  refine va_iast hx hb hK hP hD hS 3 0 rfl rfl h2 dX0_enterGate_32 (fun H locs hP hD hS => ?_)
  obtain ⟨ar32, e32⟩ : ∃ zz : Nat → Nat → Int32, zz = va_up ar22 2 (upd (ar22 2) (Int32.toNatClampNeg y) v31) := ⟨_, rfl⟩
  have hP : va_P D vwCl (gW h0 cI n ad ar32 iv) H := by rw [e32]; exact hP
  have hD : va_D A (gW h0 cI n ad ar32 iv) := by rw [e32]; exact hD
  refine lv_aload_n hx hb dX0_enterGate_33 rfl (lv_at hl 0 rfl) ?_
  refine va_get (D := D) (ci := 0) (v := .ref (ad 2)) (C := RX0) (T := TX0) (N := 11) hx hb hts inX0 hown hK hP 0 rfl rfl 2 (by decide) (hts _ (mG wm_55)) (fun _ h9 => h9) rfl dX0_enterGate_34 ?_
  refine lv_iload_n hx hb dX0_enterGate_37 rfl (lv_at hl 3 rfl) ?_
  refine lv_dup2_11 hx hb dX0_enterGate_38 rfl rfl ?_
  refine va_iald hx hb hK hP 3 0 rfl rfl h3 dX0_enterGate_39 ?_
  refine lv_topi (fun v39 e39 => ?_)
  refine lv_iconst (v := 1) hx hb dX0_enterGate_40 (by decide) ?_
  refine lv_iadd hx hb dX0_enterGate_41 ?_
  refine lv_topi (fun v41 e41 => ?_)
  refine va_iast hx hb hK hP hD hS 3 0 rfl rfl h3 dX0_enterGate_42 (fun H locs hP hD hS => ?_)
  obtain ⟨ar42, e42⟩ : ∃ zz : Nat → Nat → Int32, zz = va_up ar32 2 (upd (ar32 2) (Int32.toNatClampNeg z) v41) := ⟨_, rfl⟩
  have hP : va_P D vwCl (gW h0 cI n ad ar42 iv) H := by rw [e42]; exact hP
  have hD : va_D A (gW h0 cI n ad ar42 iv) := by rw [e42]; exact hD
  refine lv_aload_n hx hb dX0_enterGate_43 rfl (lv_at hl 0 rfl) ?_
  refine va_get (D := D) (ci := 0) (v := .ref (ad 7)) (C := RX0) (T := TX0) (N := 11) hx hb hts inX0 hown hK hP 0 rfl rfl 7 (by decide) (hts _ (mG wm_60)) (fun _ h9 => h9) rfl dX0_enterGate_44 ?_
  refine lv_iload_n hx hb dX0_enterGate_47 rfl (lv_at hl 1 rfl) ?_
  refine lv_aload_n hx hb dX0_enterGate_48 rfl (lv_at hl 0 rfl) ?_
  refine va_get (D := D) (ci := 0) (v := .ref (ad 6)) (C := RX0) (T := TX0) (N := 11) hx hb hts inX0 hown hK hP 0 rfl rfl 6 (by decide) (hts _ (mG wm_59)) (fun _ h9 => h9) rfl dX0_enterGate_49 ?_
  refine lv_iload_n hx hb dX0_enterGate_52 rfl (lv_at hl 3 rfl) ?_
  refine va_iald hx hb hK hP 7 0 rfl rfl h3 dX0_enterGate_53 ?_
  refine lv_topi (fun v53 e53 => ?_)
  refine va_iast hx hb hK hP hD hS 8 0 rfl rfl h1 dX0_enterGate_54 (fun H locs hP hD hS => ?_)
  obtain ⟨ar54, e54⟩ : ∃ zz : Nat → Nat → Int32, zz = va_up ar42 7 (upd (ar42 7) (Int32.toNatClampNeg x) v53) := ⟨_, rfl⟩
  have hP : va_P D vwCl (gW h0 cI n ad ar54 iv) H := by rw [e54]; exact hP
  have hD : va_D A (gW h0 cI n ad ar54 iv) := by rw [e54]; exact hD
  refine lv_aload_n hx hb dX0_enterGate_55 rfl (lv_at hl 0 rfl) ?_
  refine va_get (D := D) (ci := 0) (v := .ref (ad 6)) (C := RX0) (T := TX0) (N := 11) hx hb hts inX0 hown hK hP 0 rfl rfl 6 (by decide) (hts _ (mG wm_59)) (fun _ h9 => h9) rfl dX0_enterGate_56 ?_
  refine lv_iload_n hx hb dX0_enterGate_59 rfl (lv_at hl 3 rfl) ?_
  refine lv_iload_n hx hb dX0_enterGate_60 rfl (lv_at hl 1 rfl) ?_
  refine va_iast hx hb hK hP hD hS 7 0 rfl rfl h3 dX0_enterGate_61 (fun H locs hP hD hS => ?_)
  obtain ⟨ar61, e61⟩ : ∃ zz : Nat → Nat → Int32, zz = va_up ar54 6 (upd (ar54 6) (Int32.toNatClampNeg z) x) := ⟨_, rfl⟩
  have hP : va_P D vwCl (gW h0 cI n ad ar61 iv) H := by rw [e61]; exact hP
  have hD : va_D A (gW h0 cI n ad ar61 iv) := by rw [e61]; exact hD
  exact W.vret hx hb hr (fun t ht hW => ⟨⟨(n, ad, ar61, iv), rfl, (by subst e11 e17 e18 e21 e22 e29 e31 e32 e39 e41 e42 e53 e54 e61; rfl), by rw [ht]; exact hP, va_K.moved hW.alike hK, hD⟩, hS.F ht⟩) hS.2.2 dX0_enterGate_62
set_option maxHeartbeats 4000000 in
set_option maxRecDepth 100000 in
/-- growRows: each row twice as long, what was there first -/
theorem c_growRows (l : Launch) (D : va_G) (h0 : Nat) (cI : ClassId) (n : Nat) (ad : Nat → Nat) (ar : Nat → Nat → Int32) (iv : Nat → Int32) (sz : Nat) (h16 : 16 ≤ n) (hlen : n ≤ 20000) : Met l yX0_growRows wsX0_growRows ({ frames := 2, cells := 8, slots := 16 * n, locals := 62 }) (mP D (gW h0 cI n ad ar iv) [(cI, .int)] sz [.ref h0]) (va_Qv (fun u : GS => u.1 = 2 * n ∧ u.2.2.2 = iv ∧ ∀ k, k < 8 → u.2.2.1 k = gb_gr n (ar k)) (gb_at D cI (va_A (gW h0 cI n ad ar iv) sz) h0) (va_A (gW h0 cI n ad ar iv) sz)) (8) (16 * n) (va_A (gW h0 cI n ad ar iv) sz) := by
  refine Met.ofW (cc := cX0_growRows) (maxL := 2) (ret := none) (by decide) rfl ?_
  intro p e s m args below meth c s₁ B hml hv
  obtain ⟨rfl, hsz, hP, hK, hD0⟩ := hv
  have hx := B.exec
  have hb := B.bytes
  have hr := B.returns
  have hts := atoms_spec (ws := wsX0_growRows) B.pre
  have hown : s.vm.findClass RX0 = some m.cls := findClass_of_methodNamed B.named
  have hlocks := B.notSynchronized
  have hl := lv_entry ([.ref h0]) (n := 2) (Nat.le_of_ble_eq_true rfl)
  rw [lg_entry_eq]
  generalize (lg_sl ([.ref h0]) ++ List.replicate (2 - (lg_sl ([.ref h0])).length) Slot.unset).toArray = ls at hl ⊢
  have hl : lv_has ls 2 [(0, .ref h0)] := hl
  subst hsz
  have hD := hD0.self (sz := s.heap.size)
  generalize hAe : va_A (gW h0 cI n ad ar iv) s.heap.size = A at hD ⊢
  have hA : ∀ q : Nat, s.heap.size ≤ q → A q := fun q h => by rw [← hAe]; exact Or.inr h
  have hS : va_S A s.heap s.heap [] := va_S.rf
  refine lv_iconst (v := 2) hx hb dX0_growRows_0 (by decide) ?_
  refine lv_aload_n hx hb dX0_growRows_1 rfl (lv_at hl 0 rfl) ?_
  refine va_get (D := D) (ci := 0) (v := .ref (ad 0)) (C := RX0) (T := TX0) (N := 11) hx hb hts inX0 hown hK hP 0 rfl rfl 0 (by decide) (hts _ (mG wm_53)) (fun _ h9 => h9) rfl dX0_growRows_2 ?_
  refine va_alen (v := nI n) hx hb hK hP 1 0 rfl rfl rfl dX0_growRows_5 ?_
  refine lv_imul hx hb dX0_growRows_6 ?_
  refine lv_topi (fun v6 e6 => ?_)
  have e6 : v6 = nI (2 * n) := by rw [e6]; exact pk_mul 2 n
  refine lv_istore_n (lv' := [(1, .int v6), (0, .ref h0)]) hx hb dX0_growRows_7 rfl hl (by decide) rfl (fun ls hl => ?_)
  refine lv_aload_n hx hb dX0_growRows_8 rfl (lv_at hl 1 rfl) ?_
  refine lv_aload_n hx hb dX0_growRows_9 rfl (lv_at hl 1 rfl) ?_
  refine va_get (D := D) (ci := 0) (v := .ref (ad 0)) (C := RX0) (T := TX0) (N := 11) hx hb hts inX0 hown hK hP 0 rfl rfl 0 (by decide) (hts _ (mG wm_53)) (fun _ h9 => h9) rfl dX0_growRows_10 ?_
  refine lv_iload_n hx hb dX0_growRows_13 rfl (lv_at hl 0 rfl) ?_
  have hPc := hP.sub (ws' := [(ad 0, .inl (cI, n, .inl (ar 0)))]) [1] rfl
  have hDc := hD.sub (ws' := [(ad 0, .inl (cI, n, .inl (ar 0)))]) [1] (by decide) rfl
  have hFc := va_free (wc := [(ad 0, .inl (cI, n, .inl (ar 0)))]) hD hS hA [1] rfl
  refine va_callr (va_runS (As := [.ref (ad 0), .int v6]) (rest := [.ref h0]) ⟨hx, hb, hml, hown, hts⟩ (c_copyOf l D cI (ad 0) n (ar 0) s.heap.size v6 e6 h16 hlen) (va_cwS 2 hts gX0_growRows_J7_copyOf rfl rfl rfl (by decide +kernel) ⟨Nat.le_of_ble_eq_true rfl, Nat.le_of_ble_eq_true rfl⟩) (mP_S hK hPc hDc) rfl rfl hl.1 rfl (lv_room (Nat.le_of_ble_eq_true rfl)) dX0_growRows_14 ⟨by show _ ≤ 8; omega, by show _ ≤ 16 * n; omega⟩) hS (fun q _ h => hFc q h) hFc (fun u q0 t H1 locs ht hvm e14 hB hz1 hk1 hS => ?_)
  obtain ⟨hP1, hK1, hD1⟩ := hB
  rw [ht] at hP1
  have hK := va_K.moved hvm.symm hK1
  obtain ⟨hP, hD⟩ := va_join (wr := [(h0, .inr (0, gb_fs ad iv)), (ad 1, .inl (cI, n, .inl (ar 1))), (ad 2, .inl (cI, n, .inl (ar 2))), (ad 3, .inl (cI, n, .inl (ar 3))), (ad 4, .inl (cI, n, .inl (ar 4))), (ad 5, .inl (cI, n, .inl (ar 5))), (ad 6, .inl (cI, n, .inl (ar 6))), (ad 7, .inl (cI, n, .inl (ar 7)))]) (w1 := [(ad 0, .inl (cI, n, .inl (ar 0))), (q0, .inl (cI, 2 * n, .inl (gb_gr n (ar 0))))]) hP hD [1] [0, 2, 3, 4, 5, 6, 7, 8] rfl rfl (by decide) (by decide) hk1 hFc hP1 hD1
  clear hP1 hK1 hD1 hk1 hz1 hFc ht hPc hDc
  generalize H1 = H at hP hS ⊢
  refine va_put (D := D) (ci := 0) (v := .ref q0) (ty := (.array .int)) (C := RX0) (T := TX0) (N := 11) hx hb hts inX0 tyX0 tyX0_ok nmX0 hown hK hP hD hS 0 rfl rfl 0 (by decide) (hts _ (mG wm_53)) (fun _ h9 => h9) rfl (by decide +kernel) rfl rfl (Nat.le_of_ble_eq_true rfl) dX0_growRows_17 (fun H locs hP hD hS => ?_)
  obtain ⟨ad17, ea17⟩ : ∃ zz : Nat → Nat, zz = va_up ad 0 q0 := ⟨_, rfl⟩
  obtain ⟨ar17, er17⟩ : ∃ zz : Nat → Nat → Int32, zz = va_up ar 0 (gb_gr n (ar 0)) := ⟨_, rfl⟩
  have hP : va_P D vwCl [(h0, .inr (0, gb_fs ad17 iv)), (ad17 0, .inl (cI, 2 * n, .inl (ar17 0))), (ad17 1, .inl (cI, n, .inl (ar17 1))), (ad17 2, .inl (cI, n, .inl (ar17 2))), (ad17 3, .inl (cI, n, .inl (ar17 3))), (ad17 4, .inl (cI, n, .inl (ar17 4))), (ad17 5, .inl (cI, n, .inl (ar17 5))), (ad17 6, .inl (cI, n, .inl (ar17 6))), (ad17 7, .inl (cI, n, .inl (ar17 7)))] H := by rw [ea17, er17]; exact hP.sub [0, 9, 1, 2, 3, 4, 5, 6, 7] rfl
  have hD : va_D A [(h0, .inr (0, gb_fs ad17 iv)), (ad17 0, .inl (cI, 2 * n, .inl (ar17 0))), (ad17 1, .inl (cI, n, .inl (ar17 1))), (ad17 2, .inl (cI, n, .inl (ar17 2))), (ad17 3, .inl (cI, n, .inl (ar17 3))), (ad17 4, .inl (cI, n, .inl (ar17 4))), (ad17 5, .inl (cI, n, .inl (ar17 5))), (ad17 6, .inl (cI, n, .inl (ar17 6))), (ad17 7, .inl (cI, n, .inl (ar17 7)))] := by rw [ea17, er17]; exact hD.sub [0, 9, 1, 2, 3, 4, 5, 6, 7] (by decide) rfl
  refine lv_aload_n hx hb dX0_growRows_20 rfl (lv_at hl 1 rfl) ?_
  refine lv_aload_n hx hb dX0_growRows_21 rfl (lv_at hl 1 rfl) ?_
  refine va_get (D := D) (ci := 0) (v := .ref (ad17 1)) (C := RX0) (T := TX0) (N := 11) hx hb hts inX0 hown hK hP 0 rfl rfl 1 (by decide) (hts _ (mG wm_54)) (fun _ h9 => h9) rfl dX0_growRows_22 ?_
  refine lv_iload_n hx hb dX0_growRows_25 rfl (lv_at hl 0 rfl) ?_
  have hPc := hP.sub (ws' := [(ad17 1, .inl (cI, n, .inl (ar17 1)))]) [2] rfl
  have hDc := hD.sub (ws' := [(ad17 1, .inl (cI, n, .inl (ar17 1)))]) [2] (by decide) rfl
  have hFc := va_free (wc := [(ad17 1, .inl (cI, n, .inl (ar17 1)))]) hD hS hA [2] rfl
  refine va_callr (va_runS (As := [.ref (ad17 1), .int v6]) (rest := [.ref h0]) ⟨hx, hb, hml, hown, hts⟩ (c_copyOf l D cI (ad17 1) n (ar17 1) H.size v6 e6 h16 hlen) (va_cwS 2 hts gX0_growRows_J7_copyOf rfl rfl rfl (by decide +kernel) ⟨Nat.le_of_ble_eq_true rfl, Nat.le_of_ble_eq_true rfl⟩) (mP_S hK hPc hDc) rfl rfl hl.1 rfl (lv_room (Nat.le_of_ble_eq_true rfl)) dX0_growRows_26 ⟨by show _ ≤ 8; omega, by show _ ≤ 16 * n; omega⟩) hS (fun q _ h => hFc q h) hFc (fun u q1 t H1 locs ht hvm e26 hB hz1 hk1 hS => ?_)
  obtain ⟨hP1, hK1, hD1⟩ := hB
  rw [ht] at hP1
  have hK := va_K.moved hvm.symm hK1
  obtain ⟨hP, hD⟩ := va_join (wr := [(h0, .inr (0, gb_fs ad17 iv)), (ad17 0, .inl (cI, 2 * n, .inl (ar17 0))), (ad17 2, .inl (cI, n, .inl (ar17 2))), (ad17 3, .inl (cI, n, .inl (ar17 3))), (ad17 4, .inl (cI, n, .inl (ar17 4))), (ad17 5, .inl (cI, n, .inl (ar17 5))), (ad17 6, .inl (cI, n, .inl (ar17 6))), (ad17 7, .inl (cI, n, .inl (ar17 7)))]) (w1 := [(ad17 1, .inl (cI, n, .inl (ar17 1))), (q1, .inl (cI, 2 * n, .inl (gb_gr n (ar17 1))))]) hP hD [2] [0, 1, 3, 4, 5, 6, 7, 8] rfl rfl (by decide) (by decide) hk1 hFc hP1 hD1
  clear hP1 hK1 hD1 hk1 hz1 hFc ht hPc hDc
  generalize H1 = H at hP hS ⊢
  refine va_put (D := D) (ci := 0) (v := .ref q1) (ty := (.array .int)) (C := RX0) (T := TX0) (N := 11) hx hb hts inX0 tyX0 tyX0_ok nmX0 hown hK hP hD hS 0 rfl rfl 1 (by decide) (hts _ (mG wm_54)) (fun _ h9 => h9) rfl (by decide +kernel) rfl rfl (Nat.le_of_ble_eq_true rfl) dX0_growRows_29 (fun H locs hP hD hS => ?_)
  obtain ⟨ad29, ea29⟩ : ∃ zz : Nat → Nat, zz = va_up ad17 1 q1 := ⟨_, rfl⟩
  obtain ⟨ar29, er29⟩ : ∃ zz : Nat → Nat → Int32, zz = va_up ar17 1 (gb_gr n (ar17 1)) := ⟨_, rfl⟩
  have hP : va_P D vwCl [(h0, .inr (0, gb_fs ad29 iv)), (ad29 0, .inl (cI, 2 * n, .inl (ar29 0))), (ad29 1, .inl (cI, 2 * n, .inl (ar29 1))), (ad29 2, .inl (cI, n, .inl (ar29 2))), (ad29 3, .inl (cI, n, .inl (ar29 3))), (ad29 4, .inl (cI, n, .inl (ar29 4))), (ad29 5, .inl (cI, n, .inl (ar29 5))), (ad29 6, .inl (cI, n, .inl (ar29 6))), (ad29 7, .inl (cI, n, .inl (ar29 7)))] H := by rw [ea29, er29]; exact hP.sub [0, 1, 9, 2, 3, 4, 5, 6, 7] rfl
  have hD : va_D A [(h0, .inr (0, gb_fs ad29 iv)), (ad29 0, .inl (cI, 2 * n, .inl (ar29 0))), (ad29 1, .inl (cI, 2 * n, .inl (ar29 1))), (ad29 2, .inl (cI, n, .inl (ar29 2))), (ad29 3, .inl (cI, n, .inl (ar29 3))), (ad29 4, .inl (cI, n, .inl (ar29 4))), (ad29 5, .inl (cI, n, .inl (ar29 5))), (ad29 6, .inl (cI, n, .inl (ar29 6))), (ad29 7, .inl (cI, n, .inl (ar29 7)))] := by rw [ea29, er29]; exact hD.sub [0, 1, 9, 2, 3, 4, 5, 6, 7] (by decide) rfl
  refine lv_aload_n hx hb dX0_growRows_32 rfl (lv_at hl 1 rfl) ?_
  refine lv_aload_n hx hb dX0_growRows_33 rfl (lv_at hl 1 rfl) ?_
  refine va_get (D := D) (ci := 0) (v := .ref (ad29 2)) (C := RX0) (T := TX0) (N := 11) hx hb hts inX0 hown hK hP 0 rfl rfl 2 (by decide) (hts _ (mG wm_55)) (fun _ h9 => h9) rfl dX0_growRows_34 ?_
  refine lv_iload_n hx hb dX0_growRows_37 rfl (lv_at hl 0 rfl) ?_
  have hPc := hP.sub (ws' := [(ad29 2, .inl (cI, n, .inl (ar29 2)))]) [3] rfl
  have hDc := hD.sub (ws' := [(ad29 2, .inl (cI, n, .inl (ar29 2)))]) [3] (by decide) rfl
  have hFc := va_free (wc := [(ad29 2, .inl (cI, n, .inl (ar29 2)))]) hD hS hA [3] rfl
  refine va_callr (va_runS (As := [.ref (ad29 2), .int v6]) (rest := [.ref h0]) ⟨hx, hb, hml, hown, hts⟩ (c_copyOf l D cI (ad29 2) n (ar29 2) H.size v6 e6 h16 hlen) (va_cwS 2 hts gX0_growRows_J7_copyOf rfl rfl rfl (by decide +kernel) ⟨Nat.le_of_ble_eq_true rfl, Nat.le_of_ble_eq_true rfl⟩) (mP_S hK hPc hDc) rfl rfl hl.1 rfl (lv_room (Nat.le_of_ble_eq_true rfl)) dX0_growRows_38 ⟨by show _ ≤ 8; omega, by show _ ≤ 16 * n; omega⟩) hS (fun q _ h => hFc q h) hFc (fun u q2 t H1 locs ht hvm e38 hB hz1 hk1 hS => ?_)
  obtain ⟨hP1, hK1, hD1⟩ := hB
  rw [ht] at hP1
  have hK := va_K.moved hvm.symm hK1
  obtain ⟨hP, hD⟩ := va_join (wr := [(h0, .inr (0, gb_fs ad29 iv)), (ad29 0, .inl (cI, 2 * n, .inl (ar29 0))), (ad29 1, .inl (cI, 2 * n, .inl (ar29 1))), (ad29 3, .inl (cI, n, .inl (ar29 3))), (ad29 4, .inl (cI, n, .inl (ar29 4))), (ad29 5, .inl (cI, n, .inl (ar29 5))), (ad29 6, .inl (cI, n, .inl (ar29 6))), (ad29 7, .inl (cI, n, .inl (ar29 7)))]) (w1 := [(ad29 2, .inl (cI, n, .inl (ar29 2))), (q2, .inl (cI, 2 * n, .inl (gb_gr n (ar29 2))))]) hP hD [3] [0, 1, 2, 4, 5, 6, 7, 8] rfl rfl (by decide) (by decide) hk1 hFc hP1 hD1
  clear hP1 hK1 hD1 hk1 hz1 hFc ht hPc hDc
  generalize H1 = H at hP hS ⊢
  refine va_put (D := D) (ci := 0) (v := .ref q2) (ty := (.array .int)) (C := RX0) (T := TX0) (N := 11) hx hb hts inX0 tyX0 tyX0_ok nmX0 hown hK hP hD hS 0 rfl rfl 2 (by decide) (hts _ (mG wm_55)) (fun _ h9 => h9) rfl (by decide +kernel) rfl rfl (Nat.le_of_ble_eq_true rfl) dX0_growRows_41 (fun H locs hP hD hS => ?_)
  obtain ⟨ad41, ea41⟩ : ∃ zz : Nat → Nat, zz = va_up ad29 2 q2 := ⟨_, rfl⟩
  obtain ⟨ar41, er41⟩ : ∃ zz : Nat → Nat → Int32, zz = va_up ar29 2 (gb_gr n (ar29 2)) := ⟨_, rfl⟩
  have hP : va_P D vwCl [(h0, .inr (0, gb_fs ad41 iv)), (ad41 0, .inl (cI, 2 * n, .inl (ar41 0))), (ad41 1, .inl (cI, 2 * n, .inl (ar41 1))), (ad41 2, .inl (cI, 2 * n, .inl (ar41 2))), (ad41 3, .inl (cI, n, .inl (ar41 3))), (ad41 4, .inl (cI, n, .inl (ar41 4))), (ad41 5, .inl (cI, n, .inl (ar41 5))), (ad41 6, .inl (cI, n, .inl (ar41 6))), (ad41 7, .inl (cI, n, .inl (ar41 7)))] H := by rw [ea41, er41]; exact hP.sub [0, 1, 2, 9, 3, 4, 5, 6, 7] rfl
  have hD : va_D A [(h0, .inr (0, gb_fs ad41 iv)), (ad41 0, .inl (cI, 2 * n, .inl (ar41 0))), (ad41 1, .inl (cI, 2 * n, .inl (ar41 1))), (ad41 2, .inl (cI, 2 * n, .inl (ar41 2))), (ad41 3, .inl (cI, n, .inl (ar41 3))), (ad41 4, .inl (cI, n, .inl (ar41 4))), (ad41 5, .inl (cI, n, .inl (ar41 5))), (ad41 6, .inl (cI, n, .inl (ar41 6))), (ad41 7, .inl (cI, n, .inl (ar41 7)))] := by rw [ea41, er41]; exact hD.sub [0, 1, 2, 9, 3, 4, 5, 6, 7] (by decide) rfl
  refine lv_aload_n hx hb dX0_growRows_44 rfl (lv_at hl 1 rfl) ?_
  refine lv_aload_n hx hb dX0_growRows_45 rfl (lv_at hl 1 rfl) ?_
  refine va_get (D := D) (ci := 0) (v := .ref (ad41 3)) (C := RX0) (T := TX0) (N := 11) hx hb hts inX0 hown hK hP 0 rfl rfl 3 (by decide) (hts _ (mG wm_56)) (fun _ h9 => h9) rfl dX0_growRows_46 ?_
  refine lv_iload_n hx hb dX0_growRows_49 rfl (lv_at hl 0 rfl) ?_
  have hPc := hP.sub (ws' := [(ad41 3, .inl (cI, n, .inl (ar41 3)))]) [4] rfl
  have hDc := hD.sub (ws' := [(ad41 3, .inl (cI, n, .inl (ar41 3)))]) [4] (by decide) rfl
  have hFc := va_free (wc := [(ad41 3, .inl (cI, n, .inl (ar41 3)))]) hD hS hA [4] rfl
  refine va_callr (va_runS (As := [.ref (ad41 3), .int v6]) (rest := [.ref h0]) ⟨hx, hb, hml, hown, hts⟩ (c_copyOf l D cI (ad41 3) n (ar41 3) H.size v6 e6 h16 hlen) (va_cwS 2 hts gX0_growRows_J7_copyOf rfl rfl rfl (by decide +kernel) ⟨Nat.le_of_ble_eq_true rfl, Nat.le_of_ble_eq_true rfl⟩) (mP_S hK hPc hDc) rfl rfl hl.1 rfl (lv_room (Nat.le_of_ble_eq_true rfl)) dX0_growRows_50 ⟨by show _ ≤ 8; omega, by show _ ≤ 16 * n; omega⟩) hS (fun q _ h => hFc q h) hFc (fun u q3 t H1 locs ht hvm e50 hB hz1 hk1 hS => ?_)
  obtain ⟨hP1, hK1, hD1⟩ := hB
  rw [ht] at hP1
  have hK := va_K.moved hvm.symm hK1
  obtain ⟨hP, hD⟩ := va_join (wr := [(h0, .inr (0, gb_fs ad41 iv)), (ad41 0, .inl (cI, 2 * n, .inl (ar41 0))), (ad41 1, .inl (cI, 2 * n, .inl (ar41 1))), (ad41 2, .inl (cI, 2 * n, .inl (ar41 2))), (ad41 4, .inl (cI, n, .inl (ar41 4))), (ad41 5, .inl (cI, n, .inl (ar41 5))), (ad41 6, .inl (cI, n, .inl (ar41 6))), (ad41 7, .inl (cI, n, .inl (ar41 7)))]) (w1 := [(ad41 3, .inl (cI, n, .inl (ar41 3))), (q3, .inl (cI, 2 * n, .inl (gb_gr n (ar41 3))))]) hP hD [4] [0, 1, 2, 3, 5, 6, 7, 8] rfl rfl (by decide) (by decide) hk1 hFc hP1 hD1
  clear hP1 hK1 hD1 hk1 hz1 hFc ht hPc hDc
  generalize H1 = H at hP hS ⊢
  refine va_put (D := D) (ci := 0) (v := .ref q3) (ty := (.array .int)) (C := RX0) (T := TX0) (N := 11) hx hb hts inX0 tyX0 tyX0_ok nmX0 hown hK hP hD hS 0 rfl rfl 3 (by decide) (hts _ (mG wm_56)) (fun _ h9 => h9) rfl (by decide +kernel) rfl rfl (Nat.le_of_ble_eq_true rfl) dX0_growRows_53 (fun H locs hP hD hS => ?_)
  obtain ⟨ad53, ea53⟩ : ∃ zz : Nat → Nat, zz = va_up ad41 3 q3 := ⟨_, rfl⟩
  obtain ⟨ar53, er53⟩ : ∃ zz : Nat → Nat → Int32, zz = va_up ar41 3 (gb_gr n (ar41 3)) := ⟨_, rfl⟩
  have hP : va_P D vwCl [(h0, .inr (0, gb_fs ad53 iv)), (ad53 0, .inl (cI, 2 * n, .inl (ar53 0))), (ad53 1, .inl (cI, 2 * n, .inl (ar53 1))), (ad53 2, .inl (cI, 2 * n, .inl (ar53 2))), (ad53 3, .inl (cI, 2 * n, .inl (ar53 3))), (ad53 4, .inl (cI, n, .inl (ar53 4))), (ad53 5, .inl (cI, n, .inl (ar53 5))), (ad53 6, .inl (cI, n, .inl (ar53 6))), (ad53 7, .inl (cI, n, .inl (ar53 7)))] H := by rw [ea53, er53]; exact hP.sub [0, 1, 2, 3, 9, 4, 5, 6, 7] rfl
  have hD : va_D A [(h0, .inr (0, gb_fs ad53 iv)), (ad53 0, .inl (cI, 2 * n, .inl (ar53 0))), (ad53 1, .inl (cI, 2 * n, .inl (ar53 1))), (ad53 2, .inl (cI, 2 * n, .inl (ar53 2))), (ad53 3, .inl (cI, 2 * n, .inl (ar53 3))), (ad53 4, .inl (cI, n, .inl (ar53 4))), (ad53 5, .inl (cI, n, .inl (ar53 5))), (ad53 6, .inl (cI, n, .inl (ar53 6))), (ad53 7, .inl (cI, n, .inl (ar53 7)))] := by rw [ea53, er53]; exact hD.sub [0, 1, 2, 3, 9, 4, 5, 6, 7] (by decide) rfl
  refine lv_aload_n hx hb dX0_growRows_56 rfl (lv_at hl 1 rfl) ?_
  refine lv_aload_n hx hb dX0_growRows_57 rfl (lv_at hl 1 rfl) ?_
  refine va_get (D := D) (ci := 0) (v := .ref (ad53 4)) (C := RX0) (T := TX0) (N := 11) hx hb hts inX0 hown hK hP 0 rfl rfl 4 (by decide) (hts _ (mG wm_57)) (fun _ h9 => h9) rfl dX0_growRows_58 ?_
  refine lv_iload_n hx hb dX0_growRows_61 rfl (lv_at hl 0 rfl) ?_
  have hPc := hP.sub (ws' := [(ad53 4, .inl (cI, n, .inl (ar53 4)))]) [5] rfl
  have hDc := hD.sub (ws' := [(ad53 4, .inl (cI, n, .inl (ar53 4)))]) [5] (by decide) rfl
  have hFc := va_free (wc := [(ad53 4, .inl (cI, n, .inl (ar53 4)))]) hD hS hA [5] rfl
  refine va_callr (va_runS (As := [.ref (ad53 4), .int v6]) (rest := [.ref h0]) ⟨hx, hb, hml, hown, hts⟩ (c_copyOf l D cI (ad53 4) n (ar53 4) H.size v6 e6 h16 hlen) (va_cwS 2 hts gX0_growRows_J7_copyOf rfl rfl rfl (by decide +kernel) ⟨Nat.le_of_ble_eq_true rfl, Nat.le_of_ble_eq_true rfl⟩) (mP_S hK hPc hDc) rfl rfl hl.1 rfl (lv_room (Nat.le_of_ble_eq_true rfl)) dX0_growRows_62 ⟨by show _ ≤ 8; omega, by show _ ≤ 16 * n; omega⟩) hS (fun q _ h => hFc q h) hFc (fun u q4 t H1 locs ht hvm e62 hB hz1 hk1 hS => ?_)
  obtain ⟨hP1, hK1, hD1⟩ := hB
  rw [ht] at hP1
  have hK := va_K.moved hvm.symm hK1
  obtain ⟨hP, hD⟩ := va_join (wr := [(h0, .inr (0, gb_fs ad53 iv)), (ad53 0, .inl (cI, 2 * n, .inl (ar53 0))), (ad53 1, .inl (cI, 2 * n, .inl (ar53 1))), (ad53 2, .inl (cI, 2 * n, .inl (ar53 2))), (ad53 3, .inl (cI, 2 * n, .inl (ar53 3))), (ad53 5, .inl (cI, n, .inl (ar53 5))), (ad53 6, .inl (cI, n, .inl (ar53 6))), (ad53 7, .inl (cI, n, .inl (ar53 7)))]) (w1 := [(ad53 4, .inl (cI, n, .inl (ar53 4))), (q4, .inl (cI, 2 * n, .inl (gb_gr n (ar53 4))))]) hP hD [5] [0, 1, 2, 3, 4, 6, 7, 8] rfl rfl (by decide) (by decide) hk1 hFc hP1 hD1
  clear hP1 hK1 hD1 hk1 hz1 hFc ht hPc hDc
  generalize H1 = H at hP hS ⊢
  refine va_put (D := D) (ci := 0) (v := .ref q4) (ty := (.array .int)) (C := RX0) (T := TX0) (N := 11) hx hb hts inX0 tyX0 tyX0_ok nmX0 hown hK hP hD hS 0 rfl rfl 4 (by decide) (hts _ (mG wm_57)) (fun _ h9 => h9) rfl (by decide +kernel) rfl rfl (Nat.le_of_ble_eq_true rfl) dX0_growRows_65 (fun H locs hP hD hS => ?_)
  obtain ⟨ad65, ea65⟩ : ∃ zz : Nat → Nat, zz = va_up ad53 4 q4 := ⟨_, rfl⟩
  obtain ⟨ar65, er65⟩ : ∃ zz : Nat → Nat → Int32, zz = va_up ar53 4 (gb_gr n (ar53 4)) := ⟨_, rfl⟩
  have hP : va_P D vwCl [(h0, .inr (0, gb_fs ad65 iv)), (ad65 0, .inl (cI, 2 * n, .inl (ar65 0))), (ad65 1, .inl (cI, 2 * n, .inl (ar65 1))), (ad65 2, .inl (cI, 2 * n, .inl (ar65 2))), (ad65 3, .inl (cI, 2 * n, .inl (ar65 3))), (ad65 4, .inl (cI, 2 * n, .inl (ar65 4))), (ad65 5, .inl (cI, n, .inl (ar65 5))), (ad65 6, .inl (cI, n, .inl (ar65 6))), (ad65 7, .inl (cI, n, .inl (ar65 7)))] H := by rw [ea65, er65]; exact hP.sub [0, 1, 2, 3, 4, 9, 5, 6, 7] rfl
  have hD : va_D A [(h0, .inr (0, gb_fs ad65 iv)), (ad65 0, .inl (cI, 2 * n, .inl (ar65 0))), (ad65 1, .inl (cI, 2 * n, .inl (ar65 1))), (ad65 2, .inl (cI, 2 * n, .inl (ar65 2))), (ad65 3, .inl (cI, 2 * n, .inl (ar65 3))), (ad65 4, .inl (cI, 2 * n, .inl (ar65 4))), (ad65 5, .inl (cI, n, .inl (ar65 5))), (ad65 6, .inl (cI, n, .inl (ar65 6))), (ad65 7, .inl (cI, n, .inl (ar65 7)))] := by rw [ea65, er65]; exact hD.sub [0, 1, 2, 3, 4, 9, 5, 6, 7] (by decide) rfl
  refine lv_aload_n hx hb dX0_growRows_68 rfl (lv_at hl 1 rfl) ?_
  refine lv_aload_n hx hb dX0_growRows_69 rfl (lv_at hl 1 rfl) ?_
  refine va_get (D := D) (ci := 0) (v := .ref (ad65 5)) (C := RX0) (T := TX0) (N := 11) hx hb hts inX0 hown hK hP 0 rfl rfl 5 (by decide) (hts _ (mG wm_58)) (fun _ h9 => h9) rfl dX0_growRows_70 ?_
  refine lv_iload_n hx hb dX0_growRows_73 rfl (lv_at hl 0 rfl) ?_
  have hPc := hP.sub (ws' := [(ad65 5, .inl (cI, n, .inl (ar65 5)))]) [6] rfl
  have hDc := hD.sub (ws' := [(ad65 5, .inl (cI, n, .inl (ar65 5)))]) [6] (by decide) rfl
  have hFc := va_free (wc := [(ad65 5, .inl (cI, n, .inl (ar65 5)))]) hD hS hA [6] rfl
  refine va_callr (va_runS (As := [.ref (ad65 5), .int v6]) (rest := [.ref h0]) ⟨hx, hb, hml, hown, hts⟩ (c_copyOf l D cI (ad65 5) n (ar65 5) H.size v6 e6 h16 hlen) (va_cwS 2 hts gX0_growRows_J7_copyOf rfl rfl rfl (by decide +kernel) ⟨Nat.le_of_ble_eq_true rfl, Nat.le_of_ble_eq_true rfl⟩) (mP_S hK hPc hDc) rfl rfl hl.1 rfl (lv_room (Nat.le_of_ble_eq_true rfl)) dX0_growRows_74 ⟨by show _ ≤ 8; omega, by show _ ≤ 16 * n; omega⟩) hS (fun q _ h => hFc q h) hFc (fun u q5 t H1 locs ht hvm e74 hB hz1 hk1 hS => ?_)
  obtain ⟨hP1, hK1, hD1⟩ := hB
  rw [ht] at hP1
  have hK := va_K.moved hvm.symm hK1
  obtain ⟨hP, hD⟩ := va_join (wr := [(h0, .inr (0, gb_fs ad65 iv)), (ad65 0, .inl (cI, 2 * n, .inl (ar65 0))), (ad65 1, .inl (cI, 2 * n, .inl (ar65 1))), (ad65 2, .inl (cI, 2 * n, .inl (ar65 2))), (ad65 3, .inl (cI, 2 * n, .inl (ar65 3))), (ad65 4, .inl (cI, 2 * n, .inl (ar65 4))), (ad65 6, .inl (cI, n, .inl (ar65 6))), (ad65 7, .inl (cI, n, .inl (ar65 7)))]) (w1 := [(ad65 5, .inl (cI, n, .inl (ar65 5))), (q5, .inl (cI, 2 * n, .inl (gb_gr n (ar65 5))))]) hP hD [6] [0, 1, 2, 3, 4, 5, 7, 8] rfl rfl (by decide) (by decide) hk1 hFc hP1 hD1
  clear hP1 hK1 hD1 hk1 hz1 hFc ht hPc hDc
  generalize H1 = H at hP hS ⊢
  refine va_put (D := D) (ci := 0) (v := .ref q5) (ty := (.array .int)) (C := RX0) (T := TX0) (N := 11) hx hb hts inX0 tyX0 tyX0_ok nmX0 hown hK hP hD hS 0 rfl rfl 5 (by decide) (hts _ (mG wm_58)) (fun _ h9 => h9) rfl (by decide +kernel) rfl rfl (Nat.le_of_ble_eq_true rfl) dX0_growRows_77 (fun H locs hP hD hS => ?_)
  obtain ⟨ad77, ea77⟩ : ∃ zz : Nat → Nat, zz = va_up ad65 5 q5 := ⟨_, rfl⟩
  obtain ⟨ar77, er77⟩ : ∃ zz : Nat → Nat → Int32, zz = va_up ar65 5 (gb_gr n (ar65 5)) := ⟨_, rfl⟩
  have hP : va_P D vwCl [(h0, .inr (0, gb_fs ad77 iv)), (ad77 0, .inl (cI, 2 * n, .inl (ar77 0))), (ad77 1, .inl (cI, 2 * n, .inl (ar77 1))), (ad77 2, .inl (cI, 2 * n, .inl (ar77 2))), (ad77 3, .inl (cI, 2 * n, .inl (ar77 3))), (ad77 4, .inl (cI, 2 * n, .inl (ar77 4))), (ad77 5, .inl (cI, 2 * n, .inl (ar77 5))), (ad77 6, .inl (cI, n, .inl (ar77 6))), (ad77 7, .inl (cI, n, .inl (ar77 7)))] H := by rw [ea77, er77]; exact hP.sub [0, 1, 2, 3, 4, 5, 9, 6, 7] rfl
  have hD : va_D A [(h0, .inr (0, gb_fs ad77 iv)), (ad77 0, .inl (cI, 2 * n, .inl (ar77 0))), (ad77 1, .inl (cI, 2 * n, .inl (ar77 1))), (ad77 2, .inl (cI, 2 * n, .inl (ar77 2))), (ad77 3, .inl (cI, 2 * n, .inl (ar77 3))), (ad77 4, .inl (cI, 2 * n, .inl (ar77 4))), (ad77 5, .inl (cI, 2 * n, .inl (ar77 5))), (ad77 6, .inl (cI, n, .inl (ar77 6))), (ad77 7, .inl (cI, n, .inl (ar77 7)))] := by rw [ea77, er77]; exact hD.sub [0, 1, 2, 3, 4, 5, 9, 6, 7] (by decide) rfl
  refine lv_aload_n hx hb dX0_growRows_80 rfl (lv_at hl 1 rfl) ?_
  refine lv_aload_n hx hb dX0_growRows_81 rfl (lv_at hl 1 rfl) ?_
  refine va_get (D := D) (ci := 0) (v := .ref (ad77 6)) (C := RX0) (T := TX0) (N := 11) hx hb hts inX0 hown hK hP 0 rfl rfl 6 (by decide) (hts _ (mG wm_59)) (fun _ h9 => h9) rfl dX0_growRows_82 ?_
  refine lv_iload_n hx hb dX0_growRows_85 rfl (lv_at hl 0 rfl) ?_
  have hPc := hP.sub (ws' := [(ad77 6, .inl (cI, n, .inl (ar77 6)))]) [7] rfl
  have hDc := hD.sub (ws' := [(ad77 6, .inl (cI, n, .inl (ar77 6)))]) [7] (by decide) rfl
  have hFc := va_free (wc := [(ad77 6, .inl (cI, n, .inl (ar77 6)))]) hD hS hA [7] rfl
  refine va_callr (va_runS (As := [.ref (ad77 6), .int v6]) (rest := [.ref h0]) ⟨hx, hb, hml, hown, hts⟩ (c_copyOf l D cI (ad77 6) n (ar77 6) H.size v6 e6 h16 hlen) (va_cwS 2 hts gX0_growRows_J7_copyOf rfl rfl rfl (by decide +kernel) ⟨Nat.le_of_ble_eq_true rfl, Nat.le_of_ble_eq_true rfl⟩) (mP_S hK hPc hDc) rfl rfl hl.1 rfl (lv_room (Nat.le_of_ble_eq_true rfl)) dX0_growRows_86 ⟨by show _ ≤ 8; omega, by show _ ≤ 16 * n; omega⟩) hS (fun q _ h => hFc q h) hFc (fun u q6 t H1 locs ht hvm e86 hB hz1 hk1 hS => ?_)
  obtain ⟨hP1, hK1, hD1⟩ := hB
  rw [ht] at hP1
  have hK := va_K.moved hvm.symm hK1
  obtain ⟨hP, hD⟩ := va_join (wr := [(h0, .inr (0, gb_fs ad77 iv)), (ad77 0, .inl (cI, 2 * n, .inl (ar77 0))), (ad77 1, .inl (cI, 2 * n, .inl (ar77 1))), (ad77 2, .inl (cI, 2 * n, .inl (ar77 2))), (ad77 3, .inl (cI, 2 * n, .inl (ar77 3))), (ad77 4, .inl (cI, 2 * n, .inl (ar77 4))), (ad77 5, .inl (cI, 2 * n, .inl (ar77 5))), (ad77 7, .inl (cI, n, .inl (ar77 7)))]) (w1 := [(ad77 6, .inl (cI, n, .inl (ar77 6))), (q6, .inl (cI, 2 * n, .inl (gb_gr n (ar77 6))))]) hP hD [7] [0, 1, 2, 3, 4, 5, 6, 8] rfl rfl (by decide) (by decide) hk1 hFc hP1 hD1
  clear hP1 hK1 hD1 hk1 hz1 hFc ht hPc hDc
  generalize H1 = H at hP hS ⊢
  refine va_put (D := D) (ci := 0) (v := .ref q6) (ty := (.array .int)) (C := RX0) (T := TX0) (N := 11) hx hb hts inX0 tyX0 tyX0_ok nmX0 hown hK hP hD hS 0 rfl rfl 6 (by decide) (hts _ (mG wm_59)) (fun _ h9 => h9) rfl (by decide +kernel) rfl rfl (Nat.le_of_ble_eq_true rfl) dX0_growRows_89 (fun H locs hP hD hS => ?_)
  obtain ⟨ad89, ea89⟩ : ∃ zz : Nat → Nat, zz = va_up ad77 6 q6 := ⟨_, rfl⟩
  obtain ⟨ar89, er89⟩ : ∃ zz : Nat → Nat → Int32, zz = va_up ar77 6 (gb_gr n (ar77 6)) := ⟨_, rfl⟩
  have hP : va_P D vwCl [(h0, .inr (0, gb_fs ad89 iv)), (ad89 0, .inl (cI, 2 * n, .inl (ar89 0))), (ad89 1, .inl (cI, 2 * n, .inl (ar89 1))), (ad89 2, .inl (cI, 2 * n, .inl (ar89 2))), (ad89 3, .inl (cI, 2 * n, .inl (ar89 3))), (ad89 4, .inl (cI, 2 * n, .inl (ar89 4))), (ad89 5, .inl (cI, 2 * n, .inl (ar89 5))), (ad89 6, .inl (cI, 2 * n, .inl (ar89 6))), (ad89 7, .inl (cI, n, .inl (ar89 7)))] H := by rw [ea89, er89]; exact hP.sub [0, 1, 2, 3, 4, 5, 6, 9, 7] rfl
  have hD : va_D A [(h0, .inr (0, gb_fs ad89 iv)), (ad89 0, .inl (cI, 2 * n, .inl (ar89 0))), (ad89 1, .inl (cI, 2 * n, .inl (ar89 1))), (ad89 2, .inl (cI, 2 * n, .inl (ar89 2))), (ad89 3, .inl (cI, 2 * n, .inl (ar89 3))), (ad89 4, .inl (cI, 2 * n, .inl (ar89 4))), (ad89 5, .inl (cI, 2 * n, .inl (ar89 5))), (ad89 6, .inl (cI, 2 * n, .inl (ar89 6))), (ad89 7, .inl (cI, n, .inl (ar89 7)))] := by rw [ea89, er89]; exact hD.sub [0, 1, 2, 3, 4, 5, 6, 9, 7] (by decide) rfl
  refine lv_aload_n hx hb dX0_growRows_92 rfl (lv_at hl 1 rfl) ?_
  refine lv_aload_n hx hb dX0_growRows_93 rfl (lv_at hl 1 rfl) ?_
  refine va_get (D := D) (ci := 0) (v := .ref (ad89 7)) (C := RX0) (T := TX0) (N := 11) hx hb hts inX0 hown hK hP 0 rfl rfl 7 (by decide) (hts _ (mG wm_60)) (fun _ h9 => h9) rfl dX0_growRows_94 ?_
  refine lv_iload_n hx hb dX0_growRows_97 rfl (lv_at hl 0 rfl) ?_
  have hPc := hP.sub (ws' := [(ad89 7, .inl (cI, n, .inl (ar89 7)))]) [8] rfl
  have hDc := hD.sub (ws' := [(ad89 7, .inl (cI, n, .inl (ar89 7)))]) [8] (by decide) rfl
  have hFc := va_free (wc := [(ad89 7, .inl (cI, n, .inl (ar89 7)))]) hD hS hA [8] rfl
  refine va_callr (va_runS (As := [.ref (ad89 7), .int v6]) (rest := [.ref h0]) ⟨hx, hb, hml, hown, hts⟩ (c_copyOf l D cI (ad89 7) n (ar89 7) H.size v6 e6 h16 hlen) (va_cwS 2 hts gX0_growRows_J7_copyOf rfl rfl rfl (by decide +kernel) ⟨Nat.le_of_ble_eq_true rfl, Nat.le_of_ble_eq_true rfl⟩) (mP_S hK hPc hDc) rfl rfl hl.1 rfl (lv_room (Nat.le_of_ble_eq_true rfl)) dX0_growRows_98 ⟨by show _ ≤ 8; omega, by show _ ≤ 16 * n; omega⟩) hS (fun q _ h => hFc q h) hFc (fun u q7 t H1 locs ht hvm e98 hB hz1 hk1 hS => ?_)
  obtain ⟨hP1, hK1, hD1⟩ := hB
  rw [ht] at hP1
  have hK := va_K.moved hvm.symm hK1
  obtain ⟨hP, hD⟩ := va_join (wr := [(h0, .inr (0, gb_fs ad89 iv)), (ad89 0, .inl (cI, 2 * n, .inl (ar89 0))), (ad89 1, .inl (cI, 2 * n, .inl (ar89 1))), (ad89 2, .inl (cI, 2 * n, .inl (ar89 2))), (ad89 3, .inl (cI, 2 * n, .inl (ar89 3))), (ad89 4, .inl (cI, 2 * n, .inl (ar89 4))), (ad89 5, .inl (cI, 2 * n, .inl (ar89 5))), (ad89 6, .inl (cI, 2 * n, .inl (ar89 6)))]) (w1 := [(ad89 7, .inl (cI, n, .inl (ar89 7))), (q7, .inl (cI, 2 * n, .inl (gb_gr n (ar89 7))))]) hP hD [8] [0, 1, 2, 3, 4, 5, 6, 7] rfl rfl (by decide) (by decide) hk1 hFc hP1 hD1
  clear hP1 hK1 hD1 hk1 hz1 hFc ht hPc hDc
  generalize H1 = H at hP hS ⊢
  refine va_put (D := D) (ci := 0) (v := .ref q7) (ty := (.array .int)) (C := RX0) (T := TX0) (N := 11) hx hb hts inX0 tyX0 tyX0_ok nmX0 hown hK hP hD hS 0 rfl rfl 7 (by decide) (hts _ (mG wm_60)) (fun _ h9 => h9) rfl (by decide +kernel) rfl rfl (Nat.le_of_ble_eq_true rfl) dX0_growRows_101 (fun H locs hP hD hS => ?_)
  obtain ⟨ad101, ea101⟩ : ∃ zz : Nat → Nat, zz = va_up ad89 7 q7 := ⟨_, rfl⟩
  obtain ⟨ar101, er101⟩ : ∃ zz : Nat → Nat → Int32, zz = va_up ar89 7 (gb_gr n (ar89 7)) := ⟨_, rfl⟩
  have hP : va_P D vwCl [(h0, .inr (0, gb_fs ad101 iv)), (ad101 0, .inl (cI, 2 * n, .inl (ar101 0))), (ad101 1, .inl (cI, 2 * n, .inl (ar101 1))), (ad101 2, .inl (cI, 2 * n, .inl (ar101 2))), (ad101 3, .inl (cI, 2 * n, .inl (ar101 3))), (ad101 4, .inl (cI, 2 * n, .inl (ar101 4))), (ad101 5, .inl (cI, 2 * n, .inl (ar101 5))), (ad101 6, .inl (cI, 2 * n, .inl (ar101 6))), (ad101 7, .inl (cI, 2 * n, .inl (ar101 7)))] H := by rw [ea101, er101]; exact hP.sub [0, 1, 2, 3, 4, 5, 6, 7, 9] rfl
  have hD : va_D A [(h0, .inr (0, gb_fs ad101 iv)), (ad101 0, .inl (cI, 2 * n, .inl (ar101 0))), (ad101 1, .inl (cI, 2 * n, .inl (ar101 1))), (ad101 2, .inl (cI, 2 * n, .inl (ar101 2))), (ad101 3, .inl (cI, 2 * n, .inl (ar101 3))), (ad101 4, .inl (cI, 2 * n, .inl (ar101 4))), (ad101 5, .inl (cI, 2 * n, .inl (ar101 5))), (ad101 6, .inl (cI, 2 * n, .inl (ar101 6))), (ad101 7, .inl (cI, 2 * n, .inl (ar101 7)))] := by rw [ea101, er101]; exact hD.sub [0, 1, 2, 3, 4, 5, 6, 7, 9] (by decide) rfl
  have hgo : ∀ k, k < 8 → ar101 k = gb_gr n (ar k) := by
    intro k hk
    rw [er101, er89, er77, er65, er53, er41, er29, er17]
    rcases (show k = 0 ∨ k = 1 ∨ k = 2 ∨ k = 3 ∨ k = 4 ∨ k = 5 ∨ k = 6 ∨ k = 7 by omega) with rfl | rfl | rfl | rfl | rfl | rfl | rfl | rfl <;> rfl
  refine W.widen (k := 8) (n := 16 * n) (by omega) (by omega) ?_
  exact W.vret hx hb hr (fun t ht hW => ⟨⟨(2 * n, ad101, ar101, iv), rfl, ⟨rfl, rfl, hgo⟩, by rw [ht]; exact hP, va_K.moved hW.alike hK, hD⟩, hS.F ht⟩) hS.2.2 dX0_growRows_104
set_option maxHeartbeats 4000000 in
set_option maxRecDepth 100000 in
/-- newNode -/
theorem c_newNode (l : Launch) (D : va_G) (h0 : Nat) (cI : ClassId) (n : Nat) (ad : Nat → Nat) (ar : Nat → Nat → Int32) (iv : Nat → Int32) (sz : Nat) (x : Int32) (y : Int32) (nc : Nat) (hnc : iv 0 = nI nc) (hmx : nc < 20000) (hle : nc ≤ n) (h16 : 16 ≤ n) (hb9 : n ≤ 65536) : Met l yX0_newNode wsX0_newNode ({ frames := 3, cells := gb_cap n (nc + 1) - n, slots := 16 * (gb_cap n (nc + 1) - n), locals := 83 }) (mP D (gW h0 cI n ad ar iv) [(cI, .int)] sz [.ref h0, .int x, .int y]) (va_Qi (fun (r : Int32) (u : GS) => r = nI nc ∧ u.1 = gb_cap n (nc + 1) ∧ u.2.2.2 = va_up iv 0 (nI (nc + 1)) ∧ ∃ B : Nat → Nat → Int32, u.2.2.1 = va_up (va_up B 0 (upd (B 0) nc x)) 1 (upd (B 1) nc y) ∧ ∀ k, k < 8 → B k = gb_ext n nc (ar k)) (gb_at D cI (va_A (gW h0 cI n ad ar iv) sz) h0) (va_A (gW h0 cI n ad ar iv) sz)) (gb_cap n (nc + 1) - n) (16 * (gb_cap n (nc + 1) - n)) (va_A (gW h0 cI n ad ar iv) sz) := by
  refine Met.ofW (cc := cX0_newNode) (maxL := 4) (ret := (some .int)) (by decide) rfl ?_
  intro p e s m args below meth c s₁ B hml hv
  obtain ⟨rfl, hsz, hP, hK, hD0⟩ := hv
  have hx := B.exec
  have hb := B.bytes
  have hr := B.returns
  have hts := atoms_spec (ws := wsX0_newNode) B.pre
  have hown : s.vm.findClass RX0 = some m.cls := findClass_of_methodNamed B.named
  have hlocks := B.notSynchronized
  have hl := lv_entry ([.ref h0, .int x, .int y]) (n := 4) (Nat.le_of_ble_eq_true rfl)
  rw [lg_entry_eq]
  generalize (lg_sl ([.ref h0, .int x, .int y]) ++ List.replicate (4 - (lg_sl ([.ref h0, .int x, .int y])).length) Slot.unset).toArray = ls at hl ⊢
  have hl : lv_has ls 4 [(0, .ref h0), (1, .int x), (2, .int y)] := hl
  subst hsz
  have hD := hD0.self (sz := s.heap.size)
  generalize hAe : va_A (gW h0 cI n ad ar iv) s.heap.size = A at hD ⊢
  have hA : ∀ q : Nat, s.heap.size ≤ q → A q := fun q h => by rw [← hAe]; exact Or.inr h
  have hS : va_S A s.heap s.heap [] := va_S.rf
  refine lv_aload_n hx hb dX0_newNode_0 rfl (lv_at hl 0 rfl) ?_
  refine va_get (D := D) (ci := 0) (v := .int (iv 0)) (C := RX0) (T := TX0) (N := 11) hx hb hts inX0 hown hK hP 0 rfl rfl 8 (by decide) (hts _ (mG wm_61)) (fun _ h9 => h9) rfl dX0_newNode_1 ?_
  refine lv_sipush (v := 20000) hx hb dX0_newNode_4 (by decide) ?_
  refine lv_icmp_lt (tgt := 20) hx hb dX0_newNode_7 (by decide) (fun c7 => ?_) (fun c7 => ?_)
  · refine lv_aload_n hx hb dX0_newNode_20 rfl (lv_at hl 0 rfl) ?_
    refine va_get (D := D) (ci := 0) (v := .int (iv 0)) (C := RX0) (T := TX0) (N := 11) hx hb hts inX0 hown hK hP 0 rfl rfl 8 (by decide) (hts _ (mG wm_61)) (fun _ h9 => h9) rfl dX0_newNode_21 ?_
    refine lv_aload_n hx hb dX0_newNode_24 rfl (lv_at hl 0 rfl) ?_
    refine va_get (D := D) (ci := 0) (v := .ref (ad 0)) (C := RX0) (T := TX0) (N := 11) hx hb hts inX0 hown hK hP 0 rfl rfl 0 (by decide) (hts _ (mG wm_53)) (fun _ h9 => h9) rfl dX0_newNode_25 ?_
    refine va_alen (v := nI n) hx hb hK hP 1 0 rfl rfl rfl dX0_newNode_28 ?_
    refine lv_icmp_lt (tgt := 36) hx hb dX0_newNode_29 (by decide) (fun c29 => ?_) (fun c29 => ?_)
    · have c29 : nc < n := by
        rw [hnc] at c29
        exact (nI_ltI (by omega) (by omega)).mp c29
      have hin : vp_in (iv 0) n := by rw [hnc]; exact vp_in_nI c29 (by omega)
      have hi47 := hin
      have hi54 := hin
      refine lv_aload_n hx hb dX0_newNode_36 rfl (lv_at hl 0 rfl) ?_
      refine va_get (D := D) (ci := 0) (v := .int (iv 0)) (C := RX0) (T := TX0) (N := 11) hx hb hts inX0 hown hK hP 0 rfl rfl 8 (by decide) (hts _ (mG wm_61)) (fun _ h9 => h9) rfl dX0_newNode_37 ?_
      refine lv_istore_n (lv' := [(3, .int (iv 0)), (0, .ref h0), (1, .int x), (2, .int y)]) hx hb dX0_newNode_40 rfl hl (by decide) rfl (fun ls hl => ?_)
      refine lv_aload_n hx hb dX0_newNode_41 rfl (lv_at hl 1 rfl) ?_
      refine va_get (D := D) (ci := 0) (v := .ref (ad 0)) (C := RX0) (T := TX0) (N := 11) hx hb hts inX0 hown hK hP 0 rfl rfl 0 (by decide) (hts _ (mG wm_53)) (fun _ h9 => h9) rfl dX0_newNode_42 ?_
      refine lv_iload_n hx hb dX0_newNode_45 rfl (lv_at hl 0 rfl) ?_
      refine lv_iload_n hx hb dX0_newNode_46 rfl (lv_at hl 2 rfl) ?_
      refine va_iast hx hb hK hP hD hS 1 0 rfl rfl hi47 dX0_newNode_47 (fun H locs hP hD hS => ?_)
      obtain ⟨ar47, e47⟩ : ∃ zz : Nat → Nat → Int32, zz = va_up ar 0 (upd (ar 0) (Int32.toNatClampNeg (iv 0)) x) := ⟨_, rfl⟩
      have hP : va_P D vwCl (gW h0 cI n ad ar47 iv) H := by rw [e47]; exact hP
      have hD : va_D A (gW h0 cI n ad ar47 iv) := by rw [e47]; exact hD
      refine lv_aload_n hx hb dX0_newNode_48 rfl (lv_at hl 1 rfl) ?_
      refine va_get (D := D) (ci := 0) (v := .ref (ad 1)) (C := RX0) (T := TX0) (N := 11) hx hb hts inX0 hown hK hP 0 rfl rfl 1 (by decide) (hts _ (mG wm_54)) (fun _ h9 => h9) rfl dX0_newNode_49 ?_
      refine lv_iload_n hx hb dX0_newNode_52 rfl (lv_at hl 0 rfl) ?_
      refine lv_iload_n hx hb dX0_newNode_53 rfl (lv_at hl 3 rfl) ?_
      refine va_iast hx hb hK hP hD hS 2 0 rfl rfl hi54 dX0_newNode_54 (fun H locs hP hD hS => ?_)
      obtain ⟨ar54, e54⟩ : ∃ zz : Nat → Nat → Int32, zz = va_up ar47 1 (upd (ar47 1) (Int32.toNatClampNeg (iv 0)) y) := ⟨_, rfl⟩
      have hP : va_P D vwCl (gW h0 cI n ad ar54 iv) H := by rw [e54]; exact hP
      have hD : va_D A (gW h0 cI n ad ar54 iv) := by rw [e54]; exact hD
      refine lv_aload_n hx hb dX0_newNode_55 rfl (lv_at hl 1 rfl) ?_
      refine lv_dup hx hb dX0_newNode_56 rfl ?_
      refine va_get (D := D) (ci := 0) (v := .int (iv 0)) (C := RX0) (T := TX0) (N := 11) hx hb hts inX0 hown hK hP 0 rfl rfl 8 (by decide) (hts _ (mG wm_61)) (fun _ h9 => h9) rfl dX0_newNode_57 ?_
      refine lv_iconst (v := 1) hx hb dX0_newNode_60 (by decide) ?_
      refine lv_iadd hx hb dX0_newNode_61 ?_
      refine lv_topi (fun v61 e61 => ?_)
      refine va_put (D := D) (ci := 0) (v := .int v61) (ty := .int) (C := RX0) (T := TX0) (N := 11) hx hb hts inX0 tyX0 tyX0_ok nmX0 hown hK hP hD hS 0 rfl rfl 8 (by decide) (hts _ (mG wm_61)) (fun _ h9 => h9) rfl (by decide +kernel) rfl rfl (Nat.le_of_ble_eq_true rfl) dX0_newNode_62 (fun H locs hP hD hS => ?_)
      obtain ⟨iv62, e62⟩ : ∃ zz : Nat → Int32, zz = va_up iv 0 v61 := ⟨_, rfl⟩
      have hP : va_P D vwCl (gW h0 cI n ad ar54 iv62) H := by rw [e62]; exact hP
      have hD : va_D A (gW h0 cI n ad ar54 iv62) := by rw [e62]; exact hD
      refine lv_iload_n hx hb dX0_newNode_65 rfl (lv_at hl 0 rfl) ?_
      refine W.widen (k := gb_cap n (nc + 1) - n) (n := 16 * (gb_cap n (nc + 1) - n)) (by omega) (by omega) ?_
      exact W.iret (v := (iv 0)) hx hb hr (fun t ht hW => ⟨⟨(iv 0), (n, ad, ar54, iv62), rfl, ⟨hnc, by rw [gb_cap, if_pos (by omega)], by rw [e62, e61, hnc]; exact congrArg (va_up iv 0) (nI_1 nc), ar, by rw [e54, e47, hnc, nI_clamp (by omega)] <;> rfl, fun k hk => by rw [gb_ext, if_pos (by omega)]⟩, by rw [ht]; exact hP, va_K.moved hW.alike hK, hD⟩, hS.F ht⟩) hS.2.2 dX0_newNode_66
    · have c29 : n ≤ nc := by
        rw [hnc] at c29
        exact Nat.not_lt.mp fun q => c29 (nI_lt q (by omega))
      have hlen : n ≤ 20000 := by omega
      have hcap : gb_cap n (nc + 1) = 2 * n := by rw [gb_cap, if_neg (by omega)]
      refine lv_aload_n hx hb dX0_newNode_32 rfl (lv_at hl 0 rfl) ?_
      have hFc := va_free (wc := (gW h0 cI n ad ar iv)) hD hS hA [0, 1, 2, 3, 4, 5, 6, 7, 8] rfl
      refine va_callv (va_runV (As := []) (rest := []) ⟨hx, hb, hml, hown, hts⟩ (c_growRows l D h0 cI n ad ar iv s.heap.size  h16 hlen) (cwV 0 hts gX0_newNode_X0_growRows rfl rfl rfl (by decide +kernel) ⟨Nat.le_of_ble_eq_true rfl, Nat.le_of_ble_eq_true rfl⟩) (mP_V hK hP hD (va_recv hK hP (ci := 0) (q0 := 0) rfl rfl)) rfl rfl hl.1 rfl (lv_room (Nat.le_of_ble_eq_true rfl)) dX0_newNode_33 ⟨by show 0 + 8 ≤ gb_cap n (nc + 1) - n; omega, by show 0 + 16 * n ≤ 16 * (gb_cap n (nc + 1) - n); omega⟩) hS (fun q _ h => hFc q h) hFc (fun u t H1 locs ht hvm e33 hB hz1 hk1 hS => ?_)
      obtain ⟨n33, ad33, ar33, iv33⟩ := u
      obtain ⟨hP1, hK1, hD1⟩ := hB
      rw [ht] at hP1
      have hK := va_K.moved hvm.symm hK1
      have hP : va_P D vwCl (gW h0 cI n33 ad33 ar33 iv33) H1 := hP1
      have hD : va_D A (gW h0 cI n33 ad33 ar33 iv33) := hD1.weaken (fun k q _ h => hFc q.1 h)
      clear hP1 hK1 hD1 hk1 hz1 hFc ht
      generalize H1 = H at hP hS ⊢
      try dsimp only at e33
      have hin : vp_in (iv33 0) n33 := by rw [e33.1, e33.2.1, hnc]; exact vp_in_nI (by omega) (by omega)
      have hi47 := hin
      have hi54 := hin
      refine lv_aload_n hx hb dX0_newNode_36 rfl (lv_at hl 0 rfl) ?_
      refine va_get (D := D) (ci := 0) (v := .int (iv33 0)) (C := RX0) (T := TX0) (N := 11) hx hb hts inX0 hown hK hP 0 rfl rfl 8 (by decide) (hts _ (mG wm_61)) (fun _ h9 => h9) rfl dX0_newNode_37 ?_
      refine lv_istore_n (lv' := [(3, .int (iv33 0)), (0, .ref h0), (1, .int x), (2, .int y)]) hx hb dX0_newNode_40 rfl hl (by decide) rfl (fun ls hl => ?_)
      refine lv_aload_n hx hb dX0_newNode_41 rfl (lv_at hl 1 rfl) ?_
      refine va_get (D := D) (ci := 0) (v := .ref (ad33 0)) (C := RX0) (T := TX0) (N := 11) hx hb hts inX0 hown hK hP 0 rfl rfl 0 (by decide) (hts _ (mG wm_53)) (fun _ h9 => h9) rfl dX0_newNode_42 ?_
      refine lv_iload_n hx hb dX0_newNode_45 rfl (lv_at hl 0 rfl) ?_
      refine lv_iload_n hx hb dX0_newNode_46 rfl (lv_at hl 2 rfl) ?_
      refine va_iast hx hb hK hP hD hS 1 0 rfl rfl hi47 dX0_newNode_47 (fun H locs hP hD hS => ?_)
      obtain ⟨ar47, e47⟩ : ∃ zz : Nat → Nat → Int32, zz = va_up ar33 0 (upd (ar33 0) (Int32.toNatClampNeg (iv33 0)) x) := ⟨_, rfl⟩
      have hP : va_P D vwCl (gW h0 cI n33 ad33 ar47 iv33) H := by rw [e47]; exact hP
      have hD : va_D A (gW h0 cI n33 ad33 ar47 iv33) := by rw [e47]; exact hD
      refine lv_aload_n hx hb dX0_newNode_48 rfl (lv_at hl 1 rfl) ?_
      refine va_get (D := D) (ci := 0) (v := .ref (ad33 1)) (C := RX0) (T := TX0) (N := 11) hx hb hts inX0 hown hK hP 0 rfl rfl 1 (by decide) (hts _ (mG wm_54)) (fun _ h9 => h9) rfl dX0_newNode_49 ?_
      refine lv_iload_n hx hb dX0_newNode_52 rfl (lv_at hl 0 rfl) ?_
      refine lv_iload_n hx hb dX0_newNode_53 rfl (lv_at hl 3 rfl) ?_
      refine va_iast hx hb hK hP hD hS 2 0 rfl rfl hi54 dX0_newNode_54 (fun H locs hP hD hS => ?_)
      obtain ⟨ar54, e54⟩ : ∃ zz : Nat → Nat → Int32, zz = va_up ar47 1 (upd (ar47 1) (Int32.toNatClampNeg (iv33 0)) y) := ⟨_, rfl⟩
      have hP : va_P D vwCl (gW h0 cI n33 ad33 ar54 iv33) H := by rw [e54]; exact hP
      have hD : va_D A (gW h0 cI n33 ad33 ar54 iv33) := by rw [e54]; exact hD
      refine lv_aload_n hx hb dX0_newNode_55 rfl (lv_at hl 1 rfl) ?_
      refine lv_dup hx hb dX0_newNode_56 rfl ?_
      refine va_get (D := D) (ci := 0) (v := .int (iv33 0)) (C := RX0) (T := TX0) (N := 11) hx hb hts inX0 hown hK hP 0 rfl rfl 8 (by decide) (hts _ (mG wm_61)) (fun _ h9 => h9) rfl dX0_newNode_57 ?_
      refine lv_iconst (v := 1) hx hb dX0_newNode_60 (by decide) ?_
      refine lv_iadd hx hb dX0_newNode_61 ?_
      refine lv_topi (fun v61 e61 => ?_)
      refine va_put (D := D) (ci := 0) (v := .int v61) (ty := .int) (C := RX0) (T := TX0) (N := 11) hx hb hts inX0 tyX0 tyX0_ok nmX0 hown hK hP hD hS 0 rfl rfl 8 (by decide) (hts _ (mG wm_61)) (fun _ h9 => h9) rfl (by decide +kernel) rfl rfl (Nat.le_of_ble_eq_true rfl) dX0_newNode_62 (fun H locs hP hD hS => ?_)
      obtain ⟨iv62, e62⟩ : ∃ zz : Nat → Int32, zz = va_up iv33 0 v61 := ⟨_, rfl⟩
      have hP : va_P D vwCl (gW h0 cI n33 ad33 ar54 iv62) H := by rw [e62]; exact hP
      have hD : va_D A (gW h0 cI n33 ad33 ar54 iv62) := by rw [e62]; exact hD
      refine lv_iload_n hx hb dX0_newNode_65 rfl (lv_at hl 0 rfl) ?_
      refine W.widen (k := gb_cap n (nc + 1) - n) (n := 16 * (gb_cap n (nc + 1) - n)) (by omega) (by omega) ?_
      exact W.iret (v := (iv33 0)) hx hb hr (fun t ht hW => ⟨⟨(iv33 0), (n33, ad33, ar54, iv62), rfl, ⟨by rw [e33.2.1]; exact hnc, by rw [e33.1, gb_cap, if_neg (by omega)], by rw [e62, e61, e33.2.1, hnc]; exact congrArg (va_up iv 0) (nI_1 nc), ar33, by rw [e54, e47, e33.2.1, hnc, nI_clamp (by omega)] <;> rfl, fun k hk => by rw [e33.2.2 k hk, gb_ext, if_neg (by omega)]⟩, by rw [ht]; exact hP, va_K.moved hW.alike hK, hD⟩, hS.F ht⟩) hS.2.2 dX0_newNode_66
  · exact absurd (show iv 0 < nI 20000 by rw [hnc]; exact nI_lt hmx (by omega)) c7
