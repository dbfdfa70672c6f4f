set_option maxHeartbeats 4000000 in
set_option maxRecDepth 100000 in
/-- and -/
theorem c_and (l : Launch) (hl9 : l.stackTraces = false) (D : va_G) (h0 : Nat) (cI : ClassId) (n : Nat) (ad : Nat → Nat) (ar : Nat → Nat → Int32) (iv : Nat → Int32) (sz : Nat) (x : Int32) (y : Int32) (nc ic : Nat) (g : Ct) (bv : Nat → Bool) (hok : gb_ok n nc ic g bv ar iv) (K : Nat) (hmx : nc + 6 ≤ 20000) (hKK : ct_lit nc x → ct_lit nc y → gb_cap n (ct_an nc g (Int32.toNatClampNeg x) (Int32.toNatClampNeg y)).2.1 ≤ n + K) : vx_Met l yX0_and wsX0_and ({ frames := 7, cells := 2 + K, slots := 12 + 16 * K, locals := 157 }) (tP D (gW h0 cI n ad ar iv) [(cI, .int)] sz [.ref h0, .int x, .int y]) (va_Qi (fun (r : Int32) (u : GS) => ((ct_lit nc x ∧ ct_lit nc y) ∧ gb_po n ic bv (ct_an nc g (Int32.toNatClampNeg x) (Int32.toNatClampNeg y)) r u)) (gb_at D cI (va_A (gW h0 cI n ad ar iv) sz) h0) (va_A (gW h0 cI n ad ar iv) sz)) (gb_xc D cI (va_A (gW h0 cI n ad ar iv) sz) h0 (n, ad, ar, iv) (¬ (ct_lit nc x ∧ ct_lit nc y))) (2 + K) (12 + 16 * K) (va_A (gW h0 cI n ad ar iv) sz) := by
  refine vx_ofW (cc := cX0_and) (maxL := 3) (ret := (some .int)) (by decide) rfl ?_
  intro p e s m args below meth c s₁ B hml hnt hv
  obtain ⟨rfl, hsz, hP, hK, hD0, hT⟩ := hv
  have hx := B.exec
  have hb := B.bytes
  have hr := B.returns
  have hts := atoms_spec (ws := wsX0_and) B.pre
  have hown : s.vm.findClass RX0 = some m.cls := findClass_of_methodNamed B.named
  have hlocks := B.notSynchronized
  have hl := lv_entry ([.ref h0, .int x, .int y]) (n := 3) (Nat.le_of_ble_eq_true rfl)
  rw [lg_entry_eq]
  generalize (lg_sl ([.ref h0, .int x, .int y]) ++ List.replicate (3 - (lg_sl ([.ref h0, .int x, .int y])).length) Slot.unset).toArray = ls at hl ⊢
  have hl : lv_has ls 3 [(0, .ref h0), (1, .int x), (2, .int y)] := hl
  subst hsz
  have hD := hD0.self (sz := s.heap.size)
  generalize hAe : va_A (gW h0 cI n ad ar iv) s.heap.size = A at hD hT ⊢
  have hA : ∀ q : Nat, s.heap.size ≤ q → A q := fun q h => by rw [← hAe]; exact Or.inr h
  have hS : va_S A s.heap s.heap [] := va_S.rf
  have hnc := hok.nc
  have hct := hok.ct
  have hwf := hok.wf
  have h16 := hok.n16
  have hle := hct.2.1
  have hb9 := hct.2.2.1
  have hn9 : nc < 2 ^ 30 := by omega
  refine lv_aload_n hx hb dX0_and_0 rfl (lv_at hl 0 rfl) ?_
  refine lv_iload_n hx hb dX0_and_1 rfl (lv_at hl 1 rfl) ?_
  have hFc := va_free (wc := (gW h0 cI n ad ar iv)) hD hS hA [0, 1, 2, 3, 4, 5, 6, 7, 8] rfl
  refine vx_callv (vx_runV (As := [.int x]) (rest := []) ⟨hx, hb, hml, hown, hts⟩ (c_needLiteral l hl9 D h0 cI n ad ar iv s.heap.size x nc hnc hn9) (cwV 1 hts gX0_and_X0_needLiteral rfl rfl rfl (by decide +kernel) ⟨Nat.le_of_ble_eq_true rfl, Nat.le_of_ble_eq_true rfl⟩) (tP_V hK hP hD (va_recv hK hP (ci := 0) (q0 := 0) rfl rfl) hT hS hFc) rfl rfl hl.1 rfl (lv_room (Nat.le_of_ble_eq_true rfl)) dX0_and_2 ⟨by show _ + _ ≤ 2 + K; omega, by show _ + _ ≤ 12 + 16 * K; omega⟩) hS (fun q _ h => hFc q h) hFc (fun q _ h => hFc q h) (fun E ce q9 u t H1 locs ht hvm e2 hB hz1 hk1 hS hcell hcv hcl => ?_) (fun u t H1 locs ht hvm e2 hB hz1 hk1 hS => ?_)
  · obtain ⟨e2, rfl⟩ := e2
    obtain ⟨rfl, hP1, hK1, hD1⟩ := hB
    rw [ht] at hP1
    have hK := va_K.moved hvm.symm hK1
    have hD : va_D A (gW h0 cI n ad ar iv) := hD1.weaken (fun k q _ h => hFc q.1 h)
    exact vx_out (fun x h => (hnt x h).elim) hlocks hcell hcv hcl (fun t' ht' hvm' => ⟨(n, ad, ar, iv), ⟨(fun z => e2 z.1), rfl⟩, ⟨rfl, by rw [ht']; exact hP1, va_K.moved hvm' hK, hD⟩, hS.F ht'⟩) hS.2.2 (by omega) (by omega)
  · obtain ⟨e2, rfl⟩ := e2
    obtain ⟨hP1, hK1, hD1⟩ := hB
    rw [ht] at hP1
    have hK := va_K.moved hvm.symm hK1
    have hP : va_P D vwCl (gW h0 cI n ad ar iv) H1 := hP1
    have hD : va_D A (gW h0 cI n ad ar iv) := hD1.weaken (fun k q _ h => hFc q.1 h)
    clear hP1 hK1 hD1 hk1 hz1 hFc ht
    generalize H1 = H at hP hS ⊢
    refine lv_aload_n hx hb dX0_and_5 rfl (lv_at hl 0 rfl) ?_
    refine lv_iload_n hx hb dX0_and_6 rfl (lv_at hl 2 rfl) ?_
    have hFc := va_free (wc := (gW h0 cI n ad ar iv)) hD hS hA [0, 1, 2, 3, 4, 5, 6, 7, 8] rfl
    refine vx_callv (vx_runV (As := [.int y]) (rest := []) ⟨hx, hb, hml, hown, hts⟩ (c_needLiteral l hl9 D h0 cI n ad ar iv H.size y nc hnc hn9) (cwV 1 hts gX0_and_X0_needLiteral rfl rfl rfl (by decide +kernel) ⟨Nat.le_of_ble_eq_true rfl, Nat.le_of_ble_eq_true rfl⟩) (tP_V hK hP hD (va_recv hK hP (ci := 0) (q0 := 0) rfl rfl) hT hS hFc) rfl rfl hl.1 rfl (lv_room (Nat.le_of_ble_eq_true rfl)) dX0_and_7 ⟨by show _ + _ ≤ 2 + K; omega, by show _ + _ ≤ 12 + 16 * K; omega⟩) hS (fun q _ h => hFc q h) hFc (fun q _ h => hFc q h) (fun E ce q9 u t H1 locs ht hvm e7 hB hz1 hk1 hS hcell hcv hcl => ?_) (fun u t H1 locs ht hvm e7 hB hz1 hk1 hS => ?_)
    · obtain ⟨e7, rfl⟩ := e7
      obtain ⟨rfl, hP1, hK1, hD1⟩ := hB
      rw [ht] at hP1
      have hK := va_K.moved hvm.symm hK1
      have hD : va_D A (gW h0 cI n ad ar iv) := hD1.weaken (fun k q _ h => hFc q.1 h)
      exact vx_out (fun x h => (hnt x h).elim) hlocks hcell hcv hcl (fun t' ht' hvm' => ⟨(n, ad, ar, iv), ⟨(fun z => e7 z.2), rfl⟩, ⟨rfl, by rw [ht']; exact hP1, va_K.moved hvm' hK, hD⟩, hS.F ht'⟩) hS.2.2 (by omega) (by omega)
    · obtain ⟨e7, rfl⟩ := e7
      obtain ⟨hP1, hK1, hD1⟩ := hB
      rw [ht] at hP1
      have hK := va_K.moved hvm.symm hK1
      have hP : va_P D vwCl (gW h0 cI n ad ar iv) H1 := hP1
      have hD : va_D A (gW h0 cI n ad ar iv) := hD1.weaken (fun k q _ h => hFc q.1 h)
      clear hP1 hK1 hD1 hk1 hz1 hFc ht
      generalize H1 = H at hP hS ⊢
      have hxa := ct_lit_n e2 hn9
      have hyb := ct_lit_n e7 hn9
      have bda1 : ct_bd nc 1 (ct_an nc g (Int32.toNatClampNeg x) (Int32.toNatClampNeg y)) := ct_an_b hwf hxa.2 hyb.2
      have bla1 : (ct_an nc g (Int32.toNatClampNeg x) (Int32.toNatClampNeg y)).1 < 2 * (ct_an nc g (Int32.toNatClampNeg x) (Int32.toNatClampNeg y)).2.1 := bda1.2.1
      have bga1 : nc ≤ (ct_an nc g (Int32.toNatClampNeg x) (Int32.toNatClampNeg y)).2.1 := bda1.2.2.1
      have bha1 : (ct_an nc g (Int32.toNatClampNeg x) (Int32.toNatClampNeg y)).2.1 ≤ nc + 1 := bda1.2.2.2
      have cka1 : n ≤ gb_cap n (ct_an nc g (Int32.toNatClampNeg x) (Int32.toNatClampNeg y)).2.1 := (gb_cap_n n _).1
      have hKb := hKK e2 e7
      refine lv_aload_n hx hb dX0_and_10 rfl (lv_at hl 0 rfl) ?_
      refine lv_iload_n hx hb dX0_and_11 rfl (lv_at hl 1 rfl) ?_
      refine lv_iload_n hx hb dX0_and_12 rfl (lv_at hl 2 rfl) ?_
      have hFc := va_free (wc := (gW h0 cI n ad ar iv)) hD hS hA [0, 1, 2, 3, 4, 5, 6, 7, 8] rfl
      refine va_calli (va_runV (As := [.int x, .int y]) (rest := []) ⟨hx, hb, hml, hown, hts⟩ (c_andOf l D h0 cI n ad ar iv H.size x y (Int32.toNatClampNeg x) (Int32.toNatClampNeg y) nc ic g bv hxa.1 hyb.1 hxa.2 hyb.2 hok (by omega)) (cwV 2 hts gX0_and_X0_andOf rfl rfl rfl (by decide +kernel) ⟨Nat.le_of_ble_eq_true rfl, Nat.le_of_ble_eq_true rfl⟩) (mP_V hK hP hD (va_recv hK hP (ci := 0) (q0 := 0) rfl rfl)) rfl rfl hl.1 rfl (lv_room (Nat.le_of_ble_eq_true rfl)) dX0_and_13 ⟨by show _ + _ ≤ 2 + K; omega, by show _ + _ ≤ 12 + 16 * K; omega⟩) hS (fun q _ h => hFc q h) hFc (fun r13 u t H1 locs ht hvm e13 hB hz1 hk1 hS => ?_)
      obtain ⟨n13, ad13, ar13, iv13⟩ := u
      obtain ⟨hP1, hK1, hD1⟩ := hB
      rw [ht] at hP1
      have hK := va_K.moved hvm.symm hK1
      have hP : va_P D vwCl (gW h0 cI n13 ad13 ar13 iv13) H1 := hP1
      have hD : va_D A (gW h0 cI n13 ad13 ar13 iv13) := hD1.weaken (fun k q _ h => hFc q.1 h)
      clear hP1 hK1 hD1 hk1 hz1 hFc ht
      generalize H1 = H at hP hS ⊢
      try dsimp only at e13
      have ena1 : n13 = gb_cap n (ct_an nc g (Int32.toNatClampNeg x) (Int32.toNatClampNeg y)).2.1 := e13.2.1
      refine W.widen (k := 2 + K) (n := 12 + 16 * K) (by omega) (by omega) ?_
      refine vx_ret ?_
      exact W.iret (v := r13) hx hb hr (fun t ht hW => ⟨⟨r13, (n13, ad13, ar13, iv13), rfl, ⟨⟨e2, e7⟩, e13.1, ena1, e13.2.2⟩, by rw [ht]; exact hP, va_K.moved hW.alike hK, hD⟩, hS.F ht⟩) hS.2.2 dX0_and_16
set_option maxHeartbeats 4000000 in
set_option maxRecDepth 100000 in
/-- join -/
theorem c_join (l : Launch) (hl9 : l.stackTraces = false) (D : va_G) (h0 : Nat) (cI : ClassId) (n : Nat) (ad : Nat → Nat) (ar : Nat → Nat → Int32) (iv : Nat → Int32) (sz : Nat) (x : Int32) (y : Int32) (z : Int32) (nc ic : Nat) (g : Ct) (bv : Nat → Bool) (hok : gb_ok n nc ic g bv ar iv) (K : Nat) (hmx : nc + 6 ≤ 20000) (hKK : (x = 0 ∨ x = 1) → ct_lit nc y → ct_lit nc z → gb_cap n (ct_jn nc g x (Int32.toNatClampNeg y) (Int32.toNatClampNeg z)).2.1 ≤ n + K) : vx_Met l yX0_join wsX0_join ({ frames := 8, cells := 3 + K, slots := 18 + 16 * K, locals := 201 }) (tP D (gW h0 cI n ad ar iv) [(cI, .int)] sz [.ref h0, .int x, .int y, .int z]) (va_Qi (fun (r : Int32) (u : GS) => (((x = 0 ∨ x = 1) ∧ ct_lit nc y ∧ ct_lit nc z) ∧ gb_po n ic bv (ct_jn nc g x (Int32.toNatClampNeg y) (Int32.toNatClampNeg z)) r u)) (gb_at D cI (va_A (gW h0 cI n ad ar iv) sz) h0) (va_A (gW h0 cI n ad ar iv) sz)) (gb_xc D cI (va_A (gW h0 cI n ad ar iv) sz) h0 (n, ad, ar, iv) (¬ ((x = 0 ∨ x = 1) ∧ ct_lit nc y ∧ ct_lit nc z))) (3 + K) (18 + 16 * K) (va_A (gW h0 cI n ad ar iv) sz) := by
  refine vx_ofW (cc := cX0_join) (maxL := 4) (ret := (some .int)) (by decide) rfl ?_
  intro p e s m args below meth c s₁ B hml hnt hv
  obtain ⟨rfl, hsz, hP, hK, hD0, hT⟩ := hv
  have hx := B.exec
  have hb := B.bytes
  have hr := B.returns
  have hts := atoms_spec (ws := wsX0_join) B.pre
  have hown : s.vm.findClass RX0 = some m.cls := findClass_of_methodNamed B.named
  have hlocks := B.notSynchronized
  have hl := lv_entry ([.ref h0, .int x, .int y, .int z]) (n := 4) (Nat.le_of_ble_eq_true rfl)
  rw [lg_entry_eq]
  generalize (lg_sl ([.ref h0, .int x, .int y, .int z]) ++ List.replicate (4 - (lg_sl ([.ref h0, .int x, .int y, .int z])).length) Slot.unset).toArray = ls at hl ⊢
  have hl : lv_has ls 4 [(0, .ref h0), (1, .int x), (2, .int y), (3, .int z)] := hl
  subst hsz
  have hD := hD0.self (sz := s.heap.size)
  generalize hAe : va_A (gW h0 cI n ad ar iv) s.heap.size = A at hD hT ⊢
  have hA : ∀ q : Nat, s.heap.size ≤ q → A q := fun q h => by rw [← hAe]; exact Or.inr h
  have hS : va_S A s.heap s.heap [] := va_S.rf
  have hnc := hok.nc
  have hct := hok.ct
  have hwf := hok.wf
  have h16 := hok.n16
  have hle := hct.2.1
  have hb9 := hct.2.2.1
  have hn9 : nc < 2 ^ 30 := by omega
  refine lv_aload_n hx hb dX0_join_0 rfl (lv_at hl 0 rfl) ?_
  refine lv_iload_n hx hb dX0_join_1 rfl (lv_at hl 2 rfl) ?_
  have hFc := va_free (wc := (gW h0 cI n ad ar iv)) hD hS hA [0, 1, 2, 3, 4, 5, 6, 7, 8] rfl
  refine vx_callv (vx_runV (As := [.int y]) (rest := []) ⟨hx, hb, hml, hown, hts⟩ (c_needLiteral l hl9 D h0 cI n ad ar iv s.heap.size y nc hnc hn9) (cwV 1 hts gX0_join_X0_needLiteral rfl rfl rfl (by decide +kernel) ⟨Nat.le_of_ble_eq_true rfl, Nat.le_of_ble_eq_true rfl⟩) (tP_V hK hP hD (va_recv hK hP (ci := 0) (q0 := 0) rfl rfl) hT hS hFc) rfl rfl hl.1 rfl (lv_room (Nat.le_of_ble_eq_true rfl)) dX0_join_2 ⟨by show _ + _ ≤ 3 + K; omega, by show _ + _ ≤ 18 + 16 * K; omega⟩) hS (fun q _ h => hFc q h) hFc (fun q _ h => hFc q h) (fun E ce q9 u t H1 locs ht hvm e2 hB hz1 hk1 hS hcell hcv hcl => ?_) (fun u t H1 locs ht hvm e2 hB hz1 hk1 hS => ?_)
  · obtain ⟨e2, rfl⟩ := e2
    obtain ⟨rfl, hP1, hK1, hD1⟩ := hB
    rw [ht] at hP1
    have hK := va_K.moved hvm.symm hK1
    have hD : va_D A (gW h0 cI n ad ar iv) := hD1.weaken (fun k q _ h => hFc q.1 h)
    exact vx_out (fun x h => (hnt x h).elim) hlocks hcell hcv hcl (fun t' ht' hvm' => ⟨(n, ad, ar, iv), ⟨(fun z => e2 z.2.1), rfl⟩, ⟨rfl, by rw [ht']; exact hP1, va_K.moved hvm' hK, hD⟩, hS.F ht'⟩) hS.2.2 (by omega) (by omega)
  · obtain ⟨e2, rfl⟩ := e2
    obtain ⟨hP1, hK1, hD1⟩ := hB
    rw [ht] at hP1
    have hK := va_K.moved hvm.symm hK1
    have hP : va_P D vwCl (gW h0 cI n ad ar iv) H1 := hP1
    have hD : va_D A (gW h0 cI n ad ar iv) := hD1.weaken (fun k q _ h => hFc q.1 h)
    clear hP1 hK1 hD1 hk1 hz1 hFc ht
    generalize H1 = H at hP hS ⊢
    refine lv_aload_n hx hb dX0_join_5 rfl (lv_at hl 0 rfl) ?_
    refine lv_iload_n hx hb dX0_join_6 rfl (lv_at hl 3 rfl) ?_
    have hFc := va_free (wc := (gW h0 cI n ad ar iv)) hD hS hA [0, 1, 2, 3, 4, 5, 6, 7, 8] rfl
    refine vx_callv (vx_runV (As := [.int z]) (rest := []) ⟨hx, hb, hml, hown, hts⟩ (c_needLiteral l hl9 D h0 cI n ad ar iv H.size z nc hnc hn9) (cwV 1 hts gX0_join_X0_needLiteral rfl rfl rfl (by decide +kernel) ⟨Nat.le_of_ble_eq_true rfl, Nat.le_of_ble_eq_true rfl⟩) (tP_V hK hP hD (va_recv hK hP (ci := 0) (q0 := 0) rfl rfl) hT hS hFc) rfl rfl hl.1 rfl (lv_room (Nat.le_of_ble_eq_true rfl)) dX0_join_7 ⟨by show _ + _ ≤ 3 + K; omega, by show _ + _ ≤ 18 + 16 * K; omega⟩) hS (fun q _ h => hFc q h) hFc (fun q _ h => hFc q h) (fun E ce q9 u t H1 locs ht hvm e7 hB hz1 hk1 hS hcell hcv hcl => ?_) (fun u t H1 locs ht hvm e7 hB hz1 hk1 hS => ?_)
    · obtain ⟨e7, rfl⟩ := e7
      obtain ⟨rfl, hP1, hK1, hD1⟩ := hB
      rw [ht] at hP1
      have hK := va_K.moved hvm.symm hK1
      have hD : va_D A (gW h0 cI n ad ar iv) := hD1.weaken (fun k q _ h => hFc q.1 h)
      exact vx_out (fun x h => (hnt x h).elim) hlocks hcell hcv hcl (fun t' ht' hvm' => ⟨(n, ad, ar, iv), ⟨(fun z => e7 z.2.2), rfl⟩, ⟨rfl, by rw [ht']; exact hP1, va_K.moved hvm' hK, hD⟩, hS.F ht'⟩) hS.2.2 (by omega) (by omega)
    · obtain ⟨e7, rfl⟩ := e7
      obtain ⟨hP1, hK1, hD1⟩ := hB
      rw [ht] at hP1
      have hK := va_K.moved hvm.symm hK1
      have hP : va_P D vwCl (gW h0 cI n ad ar iv) H1 := hP1
      have hD : va_D A (gW h0 cI n ad ar iv) := hD1.weaken (fun k q _ h => hFc q.1 h)
      clear hP1 hK1 hD1 hk1 hz1 hFc ht
      generalize H1 = H at hP hS ⊢
      have hya := ct_lit_n e2 hn9
      have hzb := ct_lit_n e7 hn9
      refine lv_iload_n hx hb dX0_join_10 rfl (lv_at hl 1 rfl) ?_
      refine lv_if_ne (tgt := 21) hx hb dX0_join_11 (by decide) (fun c11 => ?_) (fun c11 => ?_)
      · refine lv_iload_n hx hb dX0_join_21 rfl (lv_at hl 1 rfl) ?_
        refine lv_iconst (v := 1) hx hb dX0_join_22 (by decide) ?_
        refine lv_icmp_ne (tgt := 33) hx hb dX0_join_23 (by decide) (fun c23 => ?_) (fun c23 => ?_)
        · obtain ⟨sa, hsa⟩ := hT.2.2.2
          exact vx_throwS (cls := IAE) (names := iae_names) (A := A) hx hb hl9 hown (by decide) (by decide) (hts _ (mG wm_207)) (hts _ (mG wm_44)) (hsa (63, "no such kind of two literals") (List.mem_of_getElem? (i := 0) rfl)) (hT.hat hts) iae_ot hT.1 hT.2.1 hS (by rw [hml]; exact hl.1) dX0_join_33 dX0_join_36 dX0_join_37 dX0_join_39 dX0_join_42 (fun x h => (hnt x h).elim) (Nat.le_of_ble_eq_true rfl) (Nat.le_of_ble_eq_true rfl) (by show _ + 1 ≤ 3 + K; omega) (by show _ + 6 ≤ 18 + 16 * K; omega) hlocks (fun t hvm hz hk => ⟨(n, ad, ar, iv), ⟨(fun z => z.1.elim c11 c23), rfl⟩, ⟨rfl, gb_kept hP hk, va_K.moved hvm hK, hD⟩, gb_F hS hz hk⟩) hS.2.2 (by omega) (by omega)
        · have bdb1 : ct_bd nc 3 (ct_xo nc g (Int32.toNatClampNeg y) (Int32.toNatClampNeg z)) := ct_xo_b hwf hya.2 hzb.2
          have blb1 : (ct_xo nc g (Int32.toNatClampNeg y) (Int32.toNatClampNeg z)).1 < 2 * (ct_xo nc g (Int32.toNatClampNeg y) (Int32.toNatClampNeg z)).2.1 := bdb1.2.1
          have bgb1 : nc ≤ (ct_xo nc g (Int32.toNatClampNeg y) (Int32.toNatClampNeg z)).2.1 := bdb1.2.2.1
          have bhb1 : (ct_xo nc g (Int32.toNatClampNeg y) (Int32.toNatClampNeg z)).2.1 ≤ nc + 3 := bdb1.2.2.2
          have ckb1 : n ≤ gb_cap n (ct_xo nc g (Int32.toNatClampNeg y) (Int32.toNatClampNeg z)).2.1 := (gb_cap_n n _).1
          have hR : (ct_jn nc g x (Int32.toNatClampNeg y) (Int32.toNatClampNeg z)) = (ct_xo nc g (Int32.toNatClampNeg y) (Int32.toNatClampNeg z)) := if_neg c11
          have hKb := hKK (Or.inr c23) e2 e7
          rw [hR] at hKb
          refine lv_aload_n hx hb dX0_join_26 rfl (lv_at hl 0 rfl) ?_
          refine lv_iload_n hx hb dX0_join_27 rfl (lv_at hl 2 rfl) ?_
          refine lv_iload_n hx hb dX0_join_28 rfl (lv_at hl 3 rfl) ?_
          have hFc := va_free (wc := (gW h0 cI n ad ar iv)) hD hS hA [0, 1, 2, 3, 4, 5, 6, 7, 8] rfl
          refine va_calli (va_runV (As := [.int y, .int z]) (rest := []) ⟨hx, hb, hml, hown, hts⟩ (c_xorOf l D h0 cI n ad ar iv H.size y z (Int32.toNatClampNeg y) (Int32.toNatClampNeg z) nc ic g bv hya.1 hzb.1 hya.2 hzb.2 hok (by omega)) (cwV 2 hts gX0_join_X0_xorOf rfl rfl rfl (by decide +kernel) ⟨Nat.le_of_ble_eq_true rfl, Nat.le_of_ble_eq_true rfl⟩) (mP_V hK hP hD (va_recv hK hP (ci := 0) (q0 := 0) rfl rfl)) rfl rfl hl.1 rfl (lv_room (Nat.le_of_ble_eq_true rfl)) dX0_join_29 ⟨by show _ + _ ≤ 3 + K; omega, by show _ + _ ≤ 18 + 16 * K; omega⟩) hS (fun q _ h => hFc q h) hFc (fun r29 u t H1 locs ht hvm e29 hB hz1 hk1 hS => ?_)
          obtain ⟨n29, ad29, ar29, iv29⟩ := u
          obtain ⟨hP1, hK1, hD1⟩ := hB
          rw [ht] at hP1
          have hK := va_K.moved hvm.symm hK1
          have hP : va_P D vwCl (gW h0 cI n29 ad29 ar29 iv29) H1 := hP1
          have hD : va_D A (gW h0 cI n29 ad29 ar29 iv29) := hD1.weaken (fun k q _ h => hFc q.1 h)
          clear hP1 hK1 hD1 hk1 hz1 hFc ht
          generalize H1 = H at hP hS ⊢
          try dsimp only at e29
          have enb1 : n29 = gb_cap n (ct_xo nc g (Int32.toNatClampNeg y) (Int32.toNatClampNeg z)).2.1 := e29.2.1
          refine W.widen (k := 3 + K) (n := 18 + 16 * K) (by omega) (by omega) ?_
          refine vx_ret ?_
          exact W.iret (v := r29) hx hb hr (fun t ht hW => ⟨⟨r29, (n29, ad29, ar29, iv29), rfl, ⟨⟨Or.inr c23, e2, e7⟩, by rw [hR]; exact ⟨e29.1, enb1, e29.2.2⟩⟩, by rw [ht]; exact hP, va_K.moved hW.alike hK, hD⟩, hS.F ht⟩) hS.2.2 dX0_join_32
      · have bda1 : ct_bd nc 1 (ct_or nc g (Int32.toNatClampNeg y) (Int32.toNatClampNeg z)) := ct_or_b hwf hya.2 hzb.2
        have bla1 : (ct_or nc g (Int32.toNatClampNeg y) (Int32.toNatClampNeg z)).1 < 2 * (ct_or nc g (Int32.toNatClampNeg y) (Int32.toNatClampNeg z)).2.1 := bda1.2.1
        have bga1 : nc ≤ (ct_or nc g (Int32.toNatClampNeg y) (Int32.toNatClampNeg z)).2.1 := bda1.2.2.1
        have bha1 : (ct_or nc g (Int32.toNatClampNeg y) (Int32.toNatClampNeg z)).2.1 ≤ nc + 1 := bda1.2.2.2
        have cka1 : n ≤ gb_cap n (ct_or nc g (Int32.toNatClampNeg y) (Int32.toNatClampNeg z)).2.1 := (gb_cap_n n _).1
        have hR : (ct_jn nc g x (Int32.toNatClampNeg y) (Int32.toNatClampNeg z)) = (ct_or nc g (Int32.toNatClampNeg y) (Int32.toNatClampNeg z)) := if_pos c11
        have hKb := hKK (Or.inl c11) e2 e7
        rw [hR] at hKb
        refine lv_aload_n hx hb dX0_join_14 rfl (lv_at hl 0 rfl) ?_
        refine lv_iload_n hx hb dX0_join_15 rfl (lv_at hl 2 rfl) ?_
        refine lv_iload_n hx hb dX0_join_16 rfl (lv_at hl 3 rfl) ?_
        have hFc := va_free (wc := (gW h0 cI n ad ar iv)) hD hS hA [0, 1, 2, 3, 4, 5, 6, 7, 8] rfl
        refine va_calli (va_runV (As := [.int y, .int z]) (rest := []) ⟨hx, hb, hml, hown, hts⟩ (c_orOf l D h0 cI n ad ar iv H.size y z (Int32.toNatClampNeg y) (Int32.toNatClampNeg z) nc ic g bv hya.1 hzb.1 hya.2 hzb.2 hok (by omega)) (cwV 2 hts gX0_join_X0_orOf rfl rfl rfl (by decide +kernel) ⟨Nat.le_of_ble_eq_true rfl, Nat.le_of_ble_eq_true rfl⟩) (mP_V hK hP hD (va_recv hK hP (ci := 0) (q0 := 0) rfl rfl)) rfl rfl hl.1 rfl (lv_room (Nat.le_of_ble_eq_true rfl)) dX0_join_17 ⟨by show _ + _ ≤ 3 + K; omega, by show _ + _ ≤ 18 + 16 * K; omega⟩) hS (fun q _ h => hFc q h) hFc (fun r17 u t H1 locs ht hvm e17 hB hz1 hk1 hS => ?_)
        obtain ⟨n17, ad17, ar17, iv17⟩ := u
        obtain ⟨hP1, hK1, hD1⟩ := hB
        rw [ht] at hP1
        have hK := va_K.moved hvm.symm hK1
        have hP : va_P D vwCl (gW h0 cI n17 ad17 ar17 iv17) H1 := hP1
        have hD : va_D A (gW h0 cI n17 ad17 ar17 iv17) := hD1.weaken (fun k q _ h => hFc q.1 h)
        clear hP1 hK1 hD1 hk1 hz1 hFc ht
        generalize H1 = H at hP hS ⊢
        try dsimp only at e17
        have ena1 : n17 = gb_cap n (ct_or nc g (Int32.toNatClampNeg y) (Int32.toNatClampNeg z)).2.1 := e17.2.1
        refine W.widen (k := 3 + K) (n := 18 + 16 * K) (by omega) (by omega) ?_
        refine vx_ret ?_
        exact W.iret (v := r17) hx hb hr (fun t ht hW => ⟨⟨r17, (n17, ad17, ar17, iv17), rfl, ⟨⟨Or.inl c11, e2, e7⟩, by rw [hR]; exact ⟨e17.1, ena1, e17.2.2⟩⟩, by rw [ht]; exact hP, va_K.moved hW.alike hK, hD⟩, hS.F ht⟩) hS.2.2 dX0_join_20
set_option maxHeartbeats 4000000 in
set_option maxRecDepth 100000 in
/-- three -/
theorem c_three (l : Launch) (hl9 : l.stackTraces = false) (D : va_G) (h0 : Nat) (cI : ClassId) (n : Nat) (ad : Nat → Nat) (ar : Nat → Nat → Int32) (iv : Nat → Int32) (sz : Nat) (x : Int32) (y : Int32) (z : Int32) (w : Int32) (nc ic : Nat) (g : Ct) (bv : Nat → Bool) (hok : gb_ok n nc ic g bv ar iv) (K : Nat) (hmx : nc + 6 ≤ 20000) (hKK : (x = 0 ∨ x = 1 ∨ x = 2) → ct_lit nc y → ct_lit nc z → ct_lit nc w → gb_cap n (ct_th nc g x (Int32.toNatClampNeg y) (Int32.toNatClampNeg z) (Int32.toNatClampNeg w)).2.1 ≤ n + K) : vx_Met l yX0_three wsX0_three ({ frames := 8, cells := 4 + K, slots := 24 + 16 * K, locals := 202 }) (tP D (gW h0 cI n ad ar iv) [(cI, .int)] sz [.ref h0, .int x, .int y, .int z, .int w]) (va_Qi (fun (r : Int32) (u : GS) => (((x = 0 ∨ x = 1 ∨ x = 2) ∧ ct_lit nc y ∧ ct_lit nc z ∧ ct_lit nc w) ∧ gb_po n ic bv (ct_th nc g x (Int32.toNatClampNeg y) (Int32.toNatClampNeg z) (Int32.toNatClampNeg w)) r u)) (gb_at D cI (va_A (gW h0 cI n ad ar iv) sz) h0) (va_A (gW h0 cI n ad ar iv) sz)) (gb_xc D cI (va_A (gW h0 cI n ad ar iv) sz) h0 (n, ad, ar, iv) (¬ ((x = 0 ∨ x = 1 ∨ x = 2) ∧ ct_lit nc y ∧ ct_lit nc z ∧ ct_lit nc w))) (4 + K) (24 + 16 * K) (va_A (gW h0 cI n ad ar iv) sz) := by
  refine vx_ofW (cc := cX0_three) (maxL := 7) (ret := (some .int)) (by decide) rfl ?_
  intro p e s m args below meth c s₁ B hml hnt hv
  obtain ⟨rfl, hsz, hP, hK, hD0, hT⟩ := hv
  have hx := B.exec
  have hb := B.bytes
  have hr := B.returns
  have hts := atoms_spec (ws := wsX0_three) B.pre
  have hown : s.vm.findClass RX0 = some m.cls := findClass_of_methodNamed B.named
  have hlocks := B.notSynchronized
  have hl := lv_entry ([.ref h0, .int x, .int y, .int z, .int w]) (n := 7) (Nat.le_of_ble_eq_true rfl)
  rw [lg_entry_eq]
  generalize (lg_sl ([.ref h0, .int x, .int y, .int z, .int w]) ++ List.replicate (7 - (lg_sl ([.ref h0, .int x, .int y, .int z, .int w])).length) Slot.unset).toArray = ls at hl ⊢
  have hl : lv_has ls 7 [(0, .ref h0), (1, .int x), (2, .int y), (3, .int z), (4, .int w)] := hl
  subst hsz
  have hD := hD0.self (sz := s.heap.size)
  generalize hAe : va_A (gW h0 cI n ad ar iv) s.heap.size = A at hD hT ⊢
  have hA : ∀ q : Nat, s.heap.size ≤ q → A q := fun q h => by rw [← hAe]; exact Or.inr h
  have hS : va_S A s.heap s.heap [] := va_S.rf
  have hnc := hok.nc
  have hct := hok.ct
  have hwf := hok.wf
  have h16 := hok.n16
  have hle := hct.2.1
  have hb9 := hct.2.2.1
  have hn9 : nc < 2 ^ 30 := by omega
  refine lv_aload_n hx hb dX0_three_0 rfl (lv_at hl 0 rfl) ?_
  refine lv_iload_n hx hb dX0_three_1 rfl (lv_at hl 2 rfl) ?_
  have hFc := va_free (wc := (gW h0 cI n ad ar iv)) hD hS hA [0, 1, 2, 3, 4, 5, 6, 7, 8] rfl
  refine vx_callv (vx_runV (As := [.int y]) (rest := []) ⟨hx, hb, hml, hown, hts⟩ (c_needLiteral l hl9 D h0 cI n ad ar iv s.heap.size y nc hnc hn9) (cwV 1 hts gX0_three_X0_needLiteral rfl rfl rfl (by decide +kernel) ⟨Nat.le_of_ble_eq_true rfl, Nat.le_of_ble_eq_true rfl⟩) (tP_V hK hP hD (va_recv hK hP (ci := 0) (q0 := 0) rfl rfl) hT hS hFc) rfl rfl hl.1 rfl (lv_room (Nat.le_of_ble_eq_true rfl)) dX0_three_2 ⟨by show _ + _ ≤ 4 + K; omega, by show _ + _ ≤ 24 + 16 * K; omega⟩) hS (fun q _ h => hFc q h) hFc (fun q _ h => hFc q h) (fun E ce q9 u t H1 locs ht hvm e2 hB hz1 hk1 hS hcell hcv hcl => ?_) (fun u t H1 locs ht hvm e2 hB hz1 hk1 hS => ?_)
  · obtain ⟨e2, rfl⟩ := e2
    obtain ⟨rfl, hP1, hK1, hD1⟩ := hB
    rw [ht] at hP1
    have hK := va_K.moved hvm.symm hK1
    have hD : va_D A (gW h0 cI n ad ar iv) := hD1.weaken (fun k q _ h => hFc q.1 h)
    exact vx_out (fun x h => (hnt x h).elim) hlocks hcell hcv hcl (fun t' ht' hvm' => ⟨(n, ad, ar, iv), ⟨(fun z => e2 z.2.1), rfl⟩, ⟨rfl, by rw [ht']; exact hP1, va_K.moved hvm' hK, hD⟩, hS.F ht'⟩) hS.2.2 (by omega) (by omega)
  · obtain ⟨e2, rfl⟩ := e2
    obtain ⟨hP1, hK1, hD1⟩ := hB
    rw [ht] at hP1
    have hK := va_K.moved hvm.symm hK1
    have hP : va_P D vwCl (gW h0 cI n ad ar iv) H1 := hP1
    have hD : va_D A (gW h0 cI n ad ar iv) := hD1.weaken (fun k q _ h => hFc q.1 h)
    clear hP1 hK1 hD1 hk1 hz1 hFc ht
    generalize H1 = H at hP hS ⊢
    refine lv_aload_n hx hb dX0_three_5 rfl (lv_at hl 0 rfl) ?_
    refine lv_iload_n hx hb dX0_three_6 rfl (lv_at hl 3 rfl) ?_
    have hFc := va_free (wc := (gW h0 cI n ad ar iv)) hD hS hA [0, 1, 2, 3, 4, 5, 6, 7, 8] rfl
    refine vx_callv (vx_runV (As := [.int z]) (rest := []) ⟨hx, hb, hml, hown, hts⟩ (c_needLiteral l hl9 D h0 cI n ad ar iv H.size z nc hnc hn9) (cwV 1 hts gX0_three_X0_needLiteral rfl rfl rfl (by decide +kernel) ⟨Nat.le_of_ble_eq_true rfl, Nat.le_of_ble_eq_true rfl⟩) (tP_V hK hP hD (va_recv hK hP (ci := 0) (q0 := 0) rfl rfl) hT hS hFc) rfl rfl hl.1 rfl (lv_room (Nat.le_of_ble_eq_true rfl)) dX0_three_7 ⟨by show _ + _ ≤ 4 + K; omega, by show _ + _ ≤ 24 + 16 * K; omega⟩) hS (fun q _ h => hFc q h) hFc (fun q _ h => hFc q h) (fun E ce q9 u t H1 locs ht hvm e7 hB hz1 hk1 hS hcell hcv hcl => ?_) (fun u t H1 locs ht hvm e7 hB hz1 hk1 hS => ?_)
    · obtain ⟨e7, rfl⟩ := e7
      obtain ⟨rfl, hP1, hK1, hD1⟩ := hB
      rw [ht] at hP1
      have hK := va_K.moved hvm.symm hK1
      have hD : va_D A (gW h0 cI n ad ar iv) := hD1.weaken (fun k q _ h => hFc q.1 h)
      exact vx_out (fun x h => (hnt x h).elim) hlocks hcell hcv hcl (fun t' ht' hvm' => ⟨(n, ad, ar, iv), ⟨(fun z => e7 z.2.2.1), rfl⟩, ⟨rfl, by rw [ht']; exact hP1, va_K.moved hvm' hK, hD⟩, hS.F ht'⟩) hS.2.2 (by omega) (by omega)
    · obtain ⟨e7, rfl⟩ := e7
      obtain ⟨hP1, hK1, hD1⟩ := hB
      rw [ht] at hP1
      have hK := va_K.moved hvm.symm hK1
      have hP : va_P D vwCl (gW h0 cI n ad ar iv) H1 := hP1
      have hD : va_D A (gW h0 cI n ad ar iv) := hD1.weaken (fun k q _ h => hFc q.1 h)
      clear hP1 hK1 hD1 hk1 hz1 hFc ht
      generalize H1 = H at hP hS ⊢
      refine lv_aload_n hx hb dX0_three_10 rfl (lv_at hl 0 rfl) ?_
      refine lv_iload hx hb dX0_three_11 (lv_at hl 4 rfl) ?_
      have hFc := va_free (wc := (gW h0 cI n ad ar iv)) hD hS hA [0, 1, 2, 3, 4, 5, 6, 7, 8] rfl
      refine vx_callv (vx_runV (As := [.int w]) (rest := []) ⟨hx, hb, hml, hown, hts⟩ (c_needLiteral l hl9 D h0 cI n ad ar iv H.size w nc hnc hn9) (cwV 1 hts gX0_three_X0_needLiteral rfl rfl rfl (by decide +kernel) ⟨Nat.le_of_ble_eq_true rfl, Nat.le_of_ble_eq_true rfl⟩) (tP_V hK hP hD (va_recv hK hP (ci := 0) (q0 := 0) rfl rfl) hT hS hFc) rfl rfl hl.1 rfl (lv_room (Nat.le_of_ble_eq_true rfl)) dX0_three_13 ⟨by show _ + _ ≤ 4 + K; omega, by show _ + _ ≤ 24 + 16 * K; omega⟩) hS (fun q _ h => hFc q h) hFc (fun q _ h => hFc q h) (fun E ce q9 u t H1 locs ht hvm e13 hB hz1 hk1 hS hcell hcv hcl => ?_) (fun u t H1 locs ht hvm e13 hB hz1 hk1 hS => ?_)
      · obtain ⟨e13, rfl⟩ := e13
        obtain ⟨rfl, hP1, hK1, hD1⟩ := hB
        rw [ht] at hP1
        have hK := va_K.moved hvm.symm hK1
        have hD : va_D A (gW h0 cI n ad ar iv) := hD1.weaken (fun k q _ h => hFc q.1 h)
        exact vx_out (fun x h => (hnt x h).elim) hlocks hcell hcv hcl (fun t' ht' hvm' => ⟨(n, ad, ar, iv), ⟨(fun z => e13 z.2.2.2), rfl⟩, ⟨rfl, by rw [ht']; exact hP1, va_K.moved hvm' hK, hD⟩, hS.F ht'⟩) hS.2.2 (by omega) (by omega)
      · obtain ⟨e13, rfl⟩ := e13
        obtain ⟨hP1, hK1, hD1⟩ := hB
        rw [ht] at hP1
        have hK := va_K.moved hvm.symm hK1
        have hP : va_P D vwCl (gW h0 cI n ad ar iv) H1 := hP1
        have hD : va_D A (gW h0 cI n ad ar iv) := hD1.weaken (fun k q _ h => hFc q.1 h)
        clear hP1 hK1 hD1 hk1 hz1 hFc ht
        generalize H1 = H at hP hS ⊢
        have hya := ct_lit_n e2 hn9
        have hzb := ct_lit_n e7 hn9
        have hwc := ct_lit_n e13 hn9
        refine lv_iload_n hx hb dX0_three_16 rfl (lv_at hl 1 rfl) ?_
        refine lv_if_ne (tgt := 29) hx hb dX0_three_17 (by decide) (fun c17 => ?_) (fun c17 => ?_)
        · refine lv_iload_n hx hb dX0_three_29 rfl (lv_at hl 1 rfl) ?_
          refine lv_iconst (v := 1) hx hb dX0_three_30 (by decide) ?_
          refine lv_icmp_ne (tgt := 47) hx hb dX0_three_31 (by decide) (fun c31 => ?_) (fun c31 => ?_)
          · refine lv_iload_n hx hb dX0_three_47 rfl (lv_at hl 1 rfl) ?_
            refine lv_iconst (v := 2) hx hb dX0_three_48 (by decide) ?_
            refine lv_icmp_ne (tgt := 83) hx hb dX0_three_49 (by decide) (fun c49 => ?_) (fun c49 => ?_)
            · obtain ⟨sa, hsa⟩ := hT.2.2.2
              exact vx_throwS (cls := IAE) (names := iae_names) (A := A) hx hb hl9 hown (by decide) (by decide) (hts _ (mG wm_207)) (hts _ (mG wm_44)) (hsa (72, "no such kind of three literals") (List.mem_of_getElem? (i := 1) rfl)) (hT.hat hts) iae_ot hT.1 hT.2.1 hS (by rw [hml]; exact hl.1) dX0_three_83 dX0_three_86 dX0_three_87 dX0_three_89 dX0_three_92 (fun x h => (hnt x h).elim) (Nat.le_of_ble_eq_true rfl) (Nat.le_of_ble_eq_true rfl) (by show _ + 1 ≤ 4 + K; omega) (by show _ + 6 ≤ 24 + 16 * K; omega) hlocks (fun t hvm hz hk => ⟨(n, ad, ar, iv), ⟨(fun z => z.1.elim c17 (fun z => z.elim c31 c49)), rfl⟩, ⟨rfl, gb_kept hP hk, va_K.moved hvm hK, hD⟩, gb_F hS hz hk⟩) hS.2.2 (by omega) (by omega)
            · have bdc1 : ct_bd nc 1 (ct_an nc g (Int32.toNatClampNeg y) (Int32.toNatClampNeg z)) := ct_an_b hwf hya.2 hzb.2
              have blc1 : (ct_an nc g (Int32.toNatClampNeg y) (Int32.toNatClampNeg z)).1 < 2 * (ct_an nc g (Int32.toNatClampNeg y) (Int32.toNatClampNeg z)).2.1 := bdc1.2.1
              have bgc1 : nc ≤ (ct_an nc g (Int32.toNatClampNeg y) (Int32.toNatClampNeg z)).2.1 := bdc1.2.2.1
              have bhc1 : (ct_an nc g (Int32.toNatClampNeg y) (Int32.toNatClampNeg z)).2.1 ≤ nc + 1 := bdc1.2.2.2
              have ckc1 : n ≤ gb_cap n (ct_an nc g (Int32.toNatClampNeg y) (Int32.toNatClampNeg z)).2.1 := (gb_cap_n n _).1
              have bdc2 : ct_bd (ct_an nc g (Int32.toNatClampNeg y) (Int32.toNatClampNeg z)).2.1 3 (ct_xo (ct_an nc g (Int32.toNatClampNeg y) (Int32.toNatClampNeg z)).2.1 (ct_an nc g (Int32.toNatClampNeg y) (Int32.toNatClampNeg z)).2.2 (Int32.toNatClampNeg y) (Int32.toNatClampNeg z)) := ct_xo_b bdc1.1 (by omega) (by omega)
              have blc2 : (ct_xo (ct_an nc g (Int32.toNatClampNeg y) (Int32.toNatClampNeg z)).2.1 (ct_an nc g (Int32.toNatClampNeg y) (Int32.toNatClampNeg z)).2.2 (Int32.toNatClampNeg y) (Int32.toNatClampNeg z)).1 < 2 * (ct_xo (ct_an nc g (Int32.toNatClampNeg y) (Int32.toNatClampNeg z)).2.1 (ct_an nc g (Int32.toNatClampNeg y) (Int32.toNatClampNeg z)).2.2 (Int32.toNatClampNeg y) (Int32.toNatClampNeg z)).2.1 := bdc2.2.1
              have bgc2 : (ct_an nc g (Int32.toNatClampNeg y) (Int32.toNatClampNeg z)).2.1 ≤ (ct_xo (ct_an nc g (Int32.toNatClampNeg y) (Int32.toNatClampNeg z)).2.1 (ct_an nc g (Int32.toNatClampNeg y) (Int32.toNatClampNeg z)).2.2 (Int32.toNatClampNeg y) (Int32.toNatClampNeg z)).2.1 := bdc2.2.2.1
              have bhc2 : (ct_xo (ct_an nc g (Int32.toNatClampNeg y) (Int32.toNatClampNeg z)).2.1 (ct_an nc g (Int32.toNatClampNeg y) (Int32.toNatClampNeg z)).2.2 (Int32.toNatClampNeg y) (Int32.toNatClampNeg z)).2.1 ≤ (ct_an nc g (Int32.toNatClampNeg y) (Int32.toNatClampNeg z)).2.1 + 3 := bdc2.2.2.2
              have ckc2 : n ≤ gb_cap n (ct_xo (ct_an nc g (Int32.toNatClampNeg y) (Int32.toNatClampNeg z)).2.1 (ct_an nc g (Int32.toNatClampNeg y) (Int32.toNatClampNeg z)).2.2 (Int32.toNatClampNeg y) (Int32.toNatClampNeg z)).2.1 := (gb_cap_n n _).1
              have cmc2 : gb_cap n (ct_an nc g (Int32.toNatClampNeg y) (Int32.toNatClampNeg z)).2.1 ≤ gb_cap n (ct_xo (ct_an nc g (Int32.toNatClampNeg y) (Int32.toNatClampNeg z)).2.1 (ct_an nc g (Int32.toNatClampNeg y) (Int32.toNatClampNeg z)).2.2 (Int32.toNatClampNeg y) (Int32.toNatClampNeg z)).2.1 := gb_cap_mono bdc2.2.2.1
              have cxc2 : gb_cap (gb_cap n (ct_an nc g (Int32.toNatClampNeg y) (Int32.toNatClampNeg z)).2.1) (ct_xo (ct_an nc g (Int32.toNatClampNeg y) (Int32.toNatClampNeg z)).2.1 (ct_an nc g (Int32.toNatClampNeg y) (Int32.toNatClampNeg z)).2.2 (Int32.toNatClampNeg y) (Int32.toNatClampNeg z)).2.1 = gb_cap n (ct_xo (ct_an nc g (Int32.toNatClampNeg y) (Int32.toNatClampNeg z)).2.1 (ct_an nc g (Int32.toNatClampNeg y) (Int32.toNatClampNeg z)).2.2 (Int32.toNatClampNeg y) (Int32.toNatClampNeg z)).2.1 := gb_cap_cap bdc2.2.2.1 (by omega)
              have bdc3 : ct_bd (ct_xo (ct_an nc g (Int32.toNatClampNeg y) (Int32.toNatClampNeg z)).2.1 (ct_an nc g (Int32.toNatClampNeg y) (Int32.toNatClampNeg z)).2.2 (Int32.toNatClampNeg y) (Int32.toNatClampNeg z)).2.1 1 (ct_an (ct_xo (ct_an nc g (Int32.toNatClampNeg y) (Int32.toNatClampNeg z)).2.1 (ct_an nc g (Int32.toNatClampNeg y) (Int32.toNatClampNeg z)).2.2 (Int32.toNatClampNeg y) (Int32.toNatClampNeg z)).2.1 (ct_xo (ct_an nc g (Int32.toNatClampNeg y) (Int32.toNatClampNeg z)).2.1 (ct_an nc g (Int32.toNatClampNeg y) (Int32.toNatClampNeg z)).2.2 (Int32.toNatClampNeg y) (Int32.toNatClampNeg z)).2.2 (Int32.toNatClampNeg w) (ct_xo (ct_an nc g (Int32.toNatClampNeg y) (Int32.toNatClampNeg z)).2.1 (ct_an nc g (Int32.toNatClampNeg y) (Int32.toNatClampNeg z)).2.2 (Int32.toNatClampNeg y) (Int32.toNatClampNeg z)).1) := ct_an_b bdc2.1 (by omega) (by omega)
              have blc3 : (ct_an (ct_xo (ct_an nc g (Int32.toNatClampNeg y) (Int32.toNatClampNeg z)).2.1 (ct_an nc g (Int32.toNatClampNeg y) (Int32.toNatClampNeg z)).2.2 (Int32.toNatClampNeg y) (Int32.toNatClampNeg z)).2.1 (ct_xo (ct_an nc g (Int32.toNatClampNeg y) (Int32.toNatClampNeg z)).2.1 (ct_an nc g (Int32.toNatClampNeg y) (Int32.toNatClampNeg z)).2.2 (Int32.toNatClampNeg y) (Int32.toNatClampNeg z)).2.2 (Int32.toNatClampNeg w) (ct_xo (ct_an nc g (Int32.toNatClampNeg y) (Int32.toNatClampNeg z)).2.1 (ct_an nc g (Int32.toNatClampNeg y) (Int32.toNatClampNeg z)).2.2 (Int32.toNatClampNeg y) (Int32.toNatClampNeg z)).1).1 < 2 * (ct_an (ct_xo (ct_an nc g (Int32.toNatClampNeg y) (Int32.toNatClampNeg z)).2.1 (ct_an nc g (Int32.toNatClampNeg y) (Int32.toNatClampNeg z)).2.2 (Int32.toNatClampNeg y) (Int32.toNatClampNeg z)).2.1 (ct_xo (ct_an nc g (Int32.toNatClampNeg y) (Int32.toNatClampNeg z)).2.1 (ct_an nc g (Int32.toNatClampNeg y) (Int32.toNatClampNeg z)).2.2 (Int32.toNatClampNeg y) (Int32.toNatClampNeg z)).2.2 (Int32.toNatClampNeg w) (ct_xo (ct_an nc g (Int32.toNatClampNeg y) (Int32.toNatClampNeg z)).2.1 (ct_an nc g (Int32.toNatClampNeg y) (Int32.toNatClampNeg z)).2.2 (Int32.toNatClampNeg y) (Int32.toNatClampNeg z)).1).2.1 := bdc3.2.1
              have bgc3 : (ct_xo (ct_an nc g (Int32.toNatClampNeg y) (Int32.toNatClampNeg z)).2.1 (ct_an nc g (Int32.toNatClampNeg y) (Int32.toNatClampNeg z)).2.2 (Int32.toNatClampNeg y) (Int32.toNatClampNeg z)).2.1 ≤ (ct_an (ct_xo (ct_an nc g (Int32.toNatClampNeg y) (Int32.toNatClampNeg z)).2.1 (ct_an nc g (Int32.toNatClampNeg y) (Int32.toNatClampNeg z)).2.2 (Int32.toNatClampNeg y) (Int32.toNatClampNeg z)).2.1 (ct_xo (ct_an nc g (Int32.toNatClampNeg y) (Int32.toNatClampNeg z)).2.1 (ct_an nc g (Int32.toNatClampNeg y) (Int32.toNatClampNeg z)).2.2 (Int32.toNatClampNeg y) (Int32.toNatClampNeg z)).2.2 (Int32.toNatClampNeg w) (ct_xo (ct_an nc g (Int32.toNatClampNeg y) (Int32.toNatClampNeg z)).2.1 (ct_an nc g (Int32.toNatClampNeg y) (Int32.toNatClampNeg z)).2.2 (Int32.toNatClampNeg y) (Int32.toNatClampNeg z)).1).2.1 := bdc3.2.2.1
              have bhc3 : (ct_an (ct_xo (ct_an nc g (Int32.toNatClampNeg y) (Int32.toNatClampNeg z)).2.1 (ct_an nc g (Int32.toNatClampNeg y) (Int32.toNatClampNeg z)).2.2 (Int32.toNatClampNeg y) (Int32.toNatClampNeg z)).2.1 (ct_xo (ct_an nc g (Int32.toNatClampNeg y) (Int32.toNatClampNeg z)).2.1 (ct_an nc g (Int32.toNatClampNeg y) (Int32.toNatClampNeg z)).2.2 (Int32.toNatClampNeg y) (Int32.toNatClampNeg z)).2.2 (Int32.toNatClampNeg w) (ct_xo (ct_an nc g (Int32.toNatClampNeg y) (Int32.toNatClampNeg z)).2.1 (ct_an nc g (Int32.toNatClampNeg y) (Int32.toNatClampNeg z)).2.2 (Int32.toNatClampNeg y) (Int32.toNatClampNeg z)).1).2.1 ≤ (ct_xo (ct_an nc g (Int32.toNatClampNeg y) (Int32.toNatClampNeg z)).2.1 (ct_an nc g (Int32.toNatClampNeg y) (Int32.toNatClampNeg z)).2.2 (Int32.toNatClampNeg y) (Int32.toNatClampNeg z)).2.1 + 1 := bdc3.2.2.2
              have ckc3 : n ≤ gb_cap n (ct_an (ct_xo (ct_an nc g (Int32.toNatClampNeg y) (Int32.toNatClampNeg z)).2.1 (ct_an nc g (Int32.toNatClampNeg y) (Int32.toNatClampNeg z)).2.2 (Int32.toNatClampNeg y) (Int32.toNatClampNeg z)).2.1 (ct_xo (ct_an nc g (Int32.toNatClampNeg y) (Int32.toNatClampNeg z)).2.1 (ct_an nc g (Int32.toNatClampNeg y) (Int32.toNatClampNeg z)).2.2 (Int32.toNatClampNeg y) (Int32.toNatClampNeg z)).2.2 (Int32.toNatClampNeg w) (ct_xo (ct_an nc g (Int32.toNatClampNeg y) (Int32.toNatClampNeg z)).2.1 (ct_an nc g (Int32.toNatClampNeg y) (Int32.toNatClampNeg z)).2.2 (Int32.toNatClampNeg y) (Int32.toNatClampNeg z)).1).2.1 := (gb_cap_n n _).1
              have cmc3 : gb_cap n (ct_xo (ct_an nc g (Int32.toNatClampNeg y) (Int32.toNatClampNeg z)).2.1 (ct_an nc g (Int32.toNatClampNeg y) (Int32.toNatClampNeg z)).2.2 (Int32.toNatClampNeg y) (Int32.toNatClampNeg z)).2.1 ≤ gb_cap n (ct_an (ct_xo (ct_an nc g (Int32.toNatClampNeg y) (Int32.toNatClampNeg z)).2.1 (ct_an nc g (Int32.toNatClampNeg y) (Int32.toNatClampNeg z)).2.2 (Int32.toNatClampNeg y) (Int32.toNatClampNeg z)).2.1 (ct_xo (ct_an nc g (Int32.toNatClampNeg y) (Int32.toNatClampNeg z)).2.1 (ct_an nc g (Int32.toNatClampNeg y) (Int32.toNatClampNeg z)).2.2 (Int32.toNatClampNeg y) (Int32.toNatClampNeg z)).2.2 (Int32.toNatClampNeg w) (ct_xo (ct_an nc g (Int32.toNatClampNeg y) (Int32.toNatClampNeg z)).2.1 (ct_an nc g (Int32.toNatClampNeg y) (Int32.toNatClampNeg z)).2.2 (Int32.toNatClampNeg y) (Int32.toNatClampNeg z)).1).2.1 := gb_cap_mono bdc3.2.2.1
              have cxc3 : gb_cap (gb_cap n (ct_xo (ct_an nc g (Int32.toNatClampNeg y) (Int32.toNatClampNeg z)).2.1 (ct_an nc g (Int32.toNatClampNeg y) (Int32.toNatClampNeg z)).2.2 (Int32.toNatClampNeg y) (Int32.toNatClampNeg z)).2.1) (ct_an (ct_xo (ct_an nc g (Int32.toNatClampNeg y) (Int32.toNatClampNeg z)).2.1 (ct_an nc g (Int32.toNatClampNeg y) (Int32.toNatClampNeg z)).2.2 (Int32.toNatClampNeg y) (Int32.toNatClampNeg z)).2.1 (ct_xo (ct_an nc g (Int32.toNatClampNeg y) (Int32.toNatClampNeg z)).2.1 (ct_an nc g (Int32.toNatClampNeg y) (Int32.toNatClampNeg z)).2.2 (Int32.toNatClampNeg y) (Int32.toNatClampNeg z)).2.2 (Int32.toNatClampNeg w) (ct_xo (ct_an nc g (Int32.toNatClampNeg y) (Int32.toNatClampNeg z)).2.1 (ct_an nc g (Int32.toNatClampNeg y) (Int32.toNatClampNeg z)).2.2 (Int32.toNatClampNeg y) (Int32.toNatClampNeg z)).1).2.1 = gb_cap n (ct_an (ct_xo (ct_an nc g (Int32.toNatClampNeg y) (Int32.toNatClampNeg z)).2.1 (ct_an nc g (Int32.toNatClampNeg y) (Int32.toNatClampNeg z)).2.2 (Int32.toNatClampNeg y) (Int32.toNatClampNeg z)).2.1 (ct_xo (ct_an nc g (Int32.toNatClampNeg y) (Int32.toNatClampNeg z)).2.1 (ct_an nc g (Int32.toNatClampNeg y) (Int32.toNatClampNeg z)).2.2 (Int32.toNatClampNeg y) (Int32.toNatClampNeg z)).2.2 (Int32.toNatClampNeg w) (ct_xo (ct_an nc g (Int32.toNatClampNeg y) (Int32.toNatClampNeg z)).2.1 (ct_an nc g (Int32.toNatClampNeg y) (Int32.toNatClampNeg z)).2.2 (Int32.toNatClampNeg y) (Int32.toNatClampNeg z)).1).2.1 := gb_cap_cap bdc3.2.2.1 (by omega)
              have bdc4 : ct_bd (ct_an (ct_xo (ct_an nc g (Int32.toNatClampNeg y) (Int32.toNatClampNeg z)).2.1 (ct_an nc g (Int32.toNatClampNeg y) (Int32.toNatClampNeg z)).2.2 (Int32.toNatClampNeg y) (Int32.toNatClampNeg z)).2.1 (ct_xo (ct_an nc g (Int32.toNatClampNeg y) (Int32.toNatClampNeg z)).2.1 (ct_an nc g (Int32.toNatClampNeg y) (Int32.toNatClampNeg z)).2.2 (Int32.toNatClampNeg y) (Int32.toNatClampNeg z)).2.2 (Int32.toNatClampNeg w) (ct_xo (ct_an nc g (Int32.toNatClampNeg y) (Int32.toNatClampNeg z)).2.1 (ct_an nc g (Int32.toNatClampNeg y) (Int32.toNatClampNeg z)).2.2 (Int32.toNatClampNeg y) (Int32.toNatClampNeg z)).1).2.1 1 (ct_or (ct_an (ct_xo (ct_an nc g (Int32.toNatClampNeg y) (Int32.toNatClampNeg z)).2.1 (ct_an nc g (Int32.toNatClampNeg y) (Int32.toNatClampNeg z)).2.2 (Int32.toNatClampNeg y) (Int32.toNatClampNeg z)).2.1 (ct_xo (ct_an nc g (Int32.toNatClampNeg y) (Int32.toNatClampNeg z)).2.1 (ct_an nc g (Int32.toNatClampNeg y) (Int32.toNatClampNeg z)).2.2 (Int32.toNatClampNeg y) (Int32.toNatClampNeg z)).2.2 (Int32.toNatClampNeg w) (ct_xo (ct_an nc g (Int32.toNatClampNeg y) (Int32.toNatClampNeg z)).2.1 (ct_an nc g (Int32.toNatClampNeg y) (Int32.toNatClampNeg z)).2.2 (Int32.toNatClampNeg y) (Int32.toNatClampNeg z)).1).2.1 (ct_an (ct_xo (ct_an nc g (Int32.toNatClampNeg y) (Int32.toNatClampNeg z)).2.1 (ct_an nc g (Int32.toNatClampNeg y) (Int32.toNatClampNeg z)).2.2 (Int32.toNatClampNeg y) (Int32.toNatClampNeg z)).2.1 (ct_xo (ct_an nc g (Int32.toNatClampNeg y) (Int32.toNatClampNeg z)).2.1 (ct_an nc g (Int32.toNatClampNeg y) (Int32.toNatClampNeg z)).2.2 (Int32.toNatClampNeg y) (Int32.toNatClampNeg z)).2.2 (Int32.toNatClampNeg w) (ct_xo (ct_an nc g (Int32.toNatClampNeg y) (Int32.toNatClampNeg z)).2.1 (ct_an nc g (Int32.toNatClampNeg y) (Int32.toNatClampNeg z)).2.2 (Int32.toNatClampNeg y) (Int32.toNatClampNeg z)).1).2.2 (ct_an nc g (Int32.toNatClampNeg y) (Int32.toNatClampNeg z)).1 (ct_an (ct_xo (ct_an nc g (Int32.toNatClampNeg y) (Int32.toNatClampNeg z)).2.1 (ct_an nc g (Int32.toNatClampNeg y) (Int32.toNatClampNeg z)).2.2 (Int32.toNatClampNeg y) (Int32.toNatClampNeg z)).2.1 (ct_xo (ct_an nc g (Int32.toNatClampNeg y) (Int32.toNatClampNeg z)).2.1 (ct_an nc g (Int32.toNatClampNeg y) (Int32.toNatClampNeg z)).2.2 (Int32.toNatClampNeg y) (Int32.toNatClampNeg z)).2.2 (Int32.toNatClampNeg w) (ct_xo (ct_an nc g (Int32.toNatClampNeg y) (Int32.toNatClampNeg z)).2.1 (ct_an nc g (Int32.toNatClampNeg y) (Int32.toNatClampNeg z)).2.2 (Int32.toNatClampNeg y) (Int32.toNatClampNeg z)).1).1) := ct_or_b bdc3.1 (by omega) (by omega)
              have blc4 : (ct_or (ct_an (ct_xo (ct_an nc g (Int32.toNatClampNeg y) (Int32.toNatClampNeg z)).2.1 (ct_an nc g (Int32.toNatClampNeg y) (Int32.toNatClampNeg z)).2.2 (Int32.toNatClampNeg y) (Int32.toNatClampNeg z)).2.1 (ct_xo (ct_an nc g (Int32.toNatClampNeg y) (Int32.toNatClampNeg z)).2.1 (ct_an nc g (Int32.toNatClampNeg y) (Int32.toNatClampNeg z)).2.2 (Int32.toNatClampNeg y) (Int32.toNatClampNeg z)).2.2 (Int32.toNatClampNeg w) (ct_xo (ct_an nc g (Int32.toNatClampNeg y) (Int32.toNatClampNeg z)).2.1 (ct_an nc g (Int32.toNatClampNeg y) (Int32.toNatClampNeg z)).2.2 (Int32.toNatClampNeg y) (Int32.toNatClampNeg z)).1).2.1 (ct_an (ct_xo (ct_an nc g (Int32.toNatClampNeg y) (Int32.toNatClampNeg z)).2.1 (ct_an nc g (Int32.toNatClampNeg y) (Int32.toNatClampNeg z)).2.2 (Int32.toNatClampNeg y) (Int32.toNatClampNeg z)).2.1 (ct_xo (ct_an nc g (Int32.toNatClampNeg y) (Int32.toNatClampNeg z)).2.1 (ct_an nc g (Int32.toNatClampNeg y) (Int32.toNatClampNeg z)).2.2 (Int32.toNatClampNeg y) (Int32.toNatClampNeg z)).2.2 (Int32.toNatClampNeg w) (ct_xo (ct_an nc g (Int32.toNatClampNeg y) (Int32.toNatClampNeg z)).2.1 (ct_an nc g (Int32.toNatClampNeg y) (Int32.toNatClampNeg z)).2.2 (Int32.toNatClampNeg y) (Int32.toNatClampNeg z)).1).2.2 (ct_an nc g (Int32.toNatClampNeg y) (Int32.toNatClampNeg z)).1 (ct_an (ct_xo (ct_an nc g (Int32.toNatClampNeg y) (Int32.toNatClampNeg z)).2.1 (ct_an nc g (Int32.toNatClampNeg y) (Int32.toNatClampNeg z)).2.2 (Int32.toNatClampNeg y) (Int32.toNatClampNeg z)).2.1 (ct_xo (ct_an nc g (Int32.toNatClampNeg y) (Int32.toNatClampNeg z)).2.1 (ct_an nc g (Int32.toNatClampNeg y) (Int32.toNatClampNeg z)).2.2 (Int32.toNatClampNeg y) (Int32.toNatClampNeg z)).2.2 (Int32.toNatClampNeg w) (ct_xo (ct_an nc g (Int32.toNatClampNeg y) (Int32.toNatClampNeg z)).2.1 (ct_an nc g (Int32.toNatClampNeg y) (Int32.toNatClampNeg z)).2.2 (Int32.toNatClampNeg y) (Int32.toNatClampNeg z)).1).1).1 < 2 * (ct_or (ct_an (ct_xo (ct_an nc g (Int32.toNatClampNeg y) (Int32.toNatClampNeg z)).2.1 (ct_an nc g (Int32.toNatClampNeg y) (Int32.toNatClampNeg z)).2.2 (Int32.toNatClampNeg y) (Int32.toNatClampNeg z)).2.1 (ct_xo (ct_an nc g (Int32.toNatClampNeg y) (Int32.toNatClampNeg z)).2.1 (ct_an nc g (Int32.toNatClampNeg y) (Int32.toNatClampNeg z)).2.2 (Int32.toNatClampNeg y) (Int32.toNatClampNeg z)).2.2 (Int32.toNatClampNeg w) (ct_xo (ct_an nc g (Int32.toNatClampNeg y) (Int32.toNatClampNeg z)).2.1 (ct_an nc g (Int32.toNatClampNeg y) (Int32.toNatClampNeg z)).2.2 (Int32.toNatClampNeg y) (Int32.toNatClampNeg z)).1).2.1 (ct_an (ct_xo (ct_an nc g (Int32.toNatClampNeg y) (Int32.toNatClampNeg z)).2.1 (ct_an nc g (Int32.toNatClampNeg y) (Int32.toNatClampNeg z)).2.2 (Int32.toNatClampNeg y) (Int32.toNatClampNeg z)).2.1 (ct_xo (ct_an nc g (Int32.toNatClampNeg y) (Int32.toNatClampNeg z)).2.1 (ct_an nc g (Int32.toNatClampNeg y) (Int32.toNatClampNeg z)).2.2 (Int32.toNatClampNeg y) (Int32.toNatClampNeg z)).2.2 (Int32.toNatClampNeg w) (ct_xo (ct_an nc g (Int32.toNatClampNeg y) (Int32.toNatClampNeg z)).2.1 (ct_an nc g (Int32.toNatClampNeg y) (Int32.toNatClampNeg z)).2.2 (Int32.toNatClampNeg y) (Int32.toNatClampNeg z)).1).2.2 (ct_an nc g (Int32.toNatClampNeg y) (Int32.toNatClampNeg z)).1 (ct_an (ct_xo (ct_an nc g (Int32.toNatClampNeg y) (Int32.toNatClampNeg z)).2.1 (ct_an nc g (Int32.toNatClampNeg y) (Int32.toNatClampNeg z)).2.2 (Int32.toNatClampNeg y) (Int32.toNatClampNeg z)).2.1 (ct_xo (ct_an nc g (Int32.toNatClampNeg y) (Int32.toNatClampNeg z)).2.1 (ct_an nc g (Int32.toNatClampNeg y) (Int32.toNatClampNeg z)).2.2 (Int32.toNatClampNeg y) (Int32.toNatClampNeg z)).2.2 (Int32.toNatClampNeg w) (ct_xo (ct_an nc g (Int32.toNatClampNeg y) (Int32.toNatClampNeg z)).2.1 (ct_an nc g (Int32.toNatClampNeg y) (Int32.toNatClampNeg z)).2.2 (Int32.toNatClampNeg y) (Int32.toNatClampNeg z)).1).1).2.1 := bdc4.2.1
              have bgc4 : (ct_an (ct_xo (ct_an nc g (Int32.toNatClampNeg y) (Int32.toNatClampNeg z)).2.1 (ct_an nc g (Int32.toNatClampNeg y) (Int32.toNatClampNeg z)).2.2 (Int32.toNatClampNeg y) (Int32.toNatClampNeg z)).2.1 (ct_xo (ct_an nc g (Int32.toNatClampNeg y) (Int32.toNatClampNeg z)).2.1 (ct_an nc g (Int32.toNatClampNeg y) (Int32.toNatClampNeg z)).2.2 (Int32.toNatClampNeg y) (Int32.toNatClampNeg z)).2.2 (Int32.toNatClampNeg w) (ct_xo (ct_an nc g (Int32.toNatClampNeg y) (Int32.toNatClampNeg z)).2.1 (ct_an nc g (Int32.toNatClampNeg y) (Int32.toNatClampNeg z)).2.2 (Int32.toNatClampNeg y) (Int32.toNatClampNeg z)).1).2.1 ≤ (ct_or (ct_an (ct_xo (ct_an nc g (Int32.toNatClampNeg y) (Int32.toNatClampNeg z)).2.1 (ct_an nc g (Int32.toNatClampNeg y) (Int32.toNatClampNeg z)).2.2 (Int32.toNatClampNeg y) (Int32.toNatClampNeg z)).2.1 (ct_xo (ct_an nc g (Int32.toNatClampNeg y) (Int32.toNatClampNeg z)).2.1 (ct_an nc g (Int32.toNatClampNeg y) (Int32.toNatClampNeg z)).2.2 (Int32.toNatClampNeg y) (Int32.toNatClampNeg z)).2.2 (Int32.toNatClampNeg w) (ct_xo (ct_an nc g (Int32.toNatClampNeg y) (Int32.toNatClampNeg z)).2.1 (ct_an nc g (Int32.toNatClampNeg y) (Int32.toNatClampNeg z)).2.2 (Int32.toNatClampNeg y) (Int32.toNatClampNeg z)).1).2.1 (ct_an (ct_xo (ct_an nc g (Int32.toNatClampNeg y) (Int32.toNatClampNeg z)).2.1 (ct_an nc g (Int32.toNatClampNeg y) (Int32.toNatClampNeg z)).2.2 (Int32.toNatClampNeg y) (Int32.toNatClampNeg z)).2.1 (ct_xo (ct_an nc g (Int32.toNatClampNeg y) (Int32.toNatClampNeg z)).2.1 (ct_an nc g (Int32.toNatClampNeg y) (Int32.toNatClampNeg z)).2.2 (Int32.toNatClampNeg y) (Int32.toNatClampNeg z)).2.2 (Int32.toNatClampNeg w) (ct_xo (ct_an nc g (Int32.toNatClampNeg y) (Int32.toNatClampNeg z)).2.1 (ct_an nc g (Int32.toNatClampNeg y) (Int32.toNatClampNeg z)).2.2 (Int32.toNatClampNeg y) (Int32.toNatClampNeg z)).1).2.2 (ct_an nc g (Int32.toNatClampNeg y) (Int32.toNatClampNeg z)).1 (ct_an (ct_xo (ct_an nc g (Int32.toNatClampNeg y) (Int32.toNatClampNeg z)).2.1 (ct_an nc g (Int32.toNatClampNeg y) (Int32.toNatClampNeg z)).2.2 (Int32.toNatClampNeg y) (Int32.toNatClampNeg z)).2.1 (ct_xo (ct_an nc g (Int32.toNatClampNeg y) (Int32.toNatClampNeg z)).2.1 (ct_an nc g (Int32.toNatClampNeg y) (Int32.toNatClampNeg z)).2.2 (Int32.toNatClampNeg y) (Int32.toNatClampNeg z)).2.2 (Int32.toNatClampNeg w) (ct_xo (ct_an nc g (Int32.toNatClampNeg y) (Int32.toNatClampNeg z)).2.1 (ct_an nc g (Int32.toNatClampNeg y) (Int32.toNatClampNeg z)).2.2 (Int32.toNatClampNeg y) (Int32.toNatClampNeg z)).1).1).2.1 := bdc4.2.2.1
              have bhc4 : (ct_or (ct_an (ct_xo (ct_an nc g (Int32.toNatClampNeg y) (Int32.toNatClampNeg z)).2.1 (ct_an nc g (Int32.toNatClampNeg y) (Int32.toNatClampNeg z)).2.2 (Int32.toNatClampNeg y) (Int32.toNatClampNeg z)).2.1 (ct_xo (ct_an nc g (Int32.toNatClampNeg y) (Int32.toNatClampNeg z)).2.1 (ct_an nc g (Int32.toNatClampNeg y) (Int32.toNatClampNeg z)).2.2 (Int32.toNatClampNeg y) (Int32.toNatClampNeg z)).2.2 (Int32.toNatClampNeg w) (ct_xo (ct_an nc g (Int32.toNatClampNeg y) (Int32.toNatClampNeg z)).2.1 (ct_an nc g (Int32.toNatClampNeg y) (Int32.toNatClampNeg z)).2.2 (Int32.toNatClampNeg y) (Int32.toNatClampNeg z)).1).2.1 (ct_an (ct_xo (ct_an nc g (Int32.toNatClampNeg y) (Int32.toNatClampNeg z)).2.1 (ct_an nc g (Int32.toNatClampNeg y) (Int32.toNatClampNeg z)).2.2 (Int32.toNatClampNeg y) (Int32.toNatClampNeg z)).2.1 (ct_xo (ct_an nc g (Int32.toNatClampNeg y) (Int32.toNatClampNeg z)).2.1 (ct_an nc g (Int32.toNatClampNeg y) (Int32.toNatClampNeg z)).2.2 (Int32.toNatClampNeg y) (Int32.toNatClampNeg z)).2.2 (Int32.toNatClampNeg w) (ct_xo (ct_an nc g (Int32.toNatClampNeg y) (Int32.toNatClampNeg z)).2.1 (ct_an nc g (Int32.toNatClampNeg y) (Int32.toNatClampNeg z)).2.2 (Int32.toNatClampNeg y) (Int32.toNatClampNeg z)).1).2.2 (ct_an nc g (Int32.toNatClampNeg y) (Int32.toNatClampNeg z)).1 (ct_an (ct_xo (ct_an nc g (Int32.toNatClampNeg y) (Int32.toNatClampNeg z)).2.1 (ct_an nc g (Int32.toNatClampNeg y) (Int32.toNatClampNeg z)).2.2 (Int32.toNatClampNeg y) (Int32.toNatClampNeg z)).2.1 (ct_xo (ct_an nc g (Int32.toNatClampNeg y) (Int32.toNatClampNeg z)).2.1 (ct_an nc g (Int32.toNatClampNeg y) (Int32.toNatClampNeg z)).2.2 (Int32.toNatClampNeg y) (Int32.toNatClampNeg z)).2.2 (Int32.toNatClampNeg w) (ct_xo (ct_an nc g (Int32.toNatClampNeg y) (Int32.toNatClampNeg z)).2.1 (ct_an nc g (Int32.toNatClampNeg y) (Int32.toNatClampNeg z)).2.2 (Int32.toNatClampNeg y) (Int32.toNatClampNeg z)).1).1).2.1 ≤ (ct_an (ct_xo (ct_an nc g (Int32.toNatClampNeg y) (Int32.toNatClampNeg z)).2.1 (ct_an nc g (Int32.toNatClampNeg y) (Int32.toNatClampNeg z)).2.2 (Int32.toNatClampNeg y) (Int32.toNatClampNeg z)).2.1 (ct_xo (ct_an nc g (Int32.toNatClampNeg y) (Int32.toNatClampNeg z)).2.1 (ct_an nc g (Int32.toNatClampNeg y) (Int32.toNatClampNeg z)).2.2 (Int32.toNatClampNeg y) (Int32.toNatClampNeg z)).2.2 (Int32.toNatClampNeg w) (ct_xo (ct_an nc g (Int32.toNatClampNeg y) (Int32.toNatClampNeg z)).2.1 (ct_an nc g (Int32.toNatClampNeg y) (Int32.toNatClampNeg z)).2.2 (Int32.toNatClampNeg y) (Int32.toNatClampNeg z)).1).2.1 + 1 := bdc4.2.2.2
              have ckc4 : n ≤ gb_cap n (ct_or (ct_an (ct_xo (ct_an nc g (Int32.toNatClampNeg y) (Int32.toNatClampNeg z)).2.1 (ct_an nc g (Int32.toNatClampNeg y) (Int32.toNatClampNeg z)).2.2 (Int32.toNatClampNeg y) (Int32.toNatClampNeg z)).2.1 (ct_xo (ct_an nc g (Int32.toNatClampNeg y) (Int32.toNatClampNeg z)).2.1 (ct_an nc g (Int32.toNatClampNeg y) (Int32.toNatClampNeg z)).2.2 (Int32.toNatClampNeg y) (Int32.toNatClampNeg z)).2.2 (Int32.toNatClampNeg w) (ct_xo (ct_an nc g (Int32.toNatClampNeg y) (Int32.toNatClampNeg z)).2.1 (ct_an nc g (Int32.toNatClampNeg y) (Int32.toNatClampNeg z)).2.2 (Int32.toNatClampNeg y) (Int32.toNatClampNeg z)).1).2.1 (ct_an (ct_xo (ct_an nc g (Int32.toNatClampNeg y) (Int32.toNatClampNeg z)).2.1 (ct_an nc g (Int32.toNatClampNeg y) (Int32.toNatClampNeg z)).2.2 (Int32.toNatClampNeg y) (Int32.toNatClampNeg z)).2.1 (ct_xo (ct_an nc g (Int32.toNatClampNeg y) (Int32.toNatClampNeg z)).2.1 (ct_an nc g (Int32.toNatClampNeg y) (Int32.toNatClampNeg z)).2.2 (Int32.toNatClampNeg y) (Int32.toNatClampNeg z)).2.2 (Int32.toNatClampNeg w) (ct_xo (ct_an nc g (Int32.toNatClampNeg y) (Int32.toNatClampNeg z)).2.1 (ct_an nc g (Int32.toNatClampNeg y) (Int32.toNatClampNeg z)).2.2 (Int32.toNatClampNeg y) (Int32.toNatClampNeg z)).1).2.2 (ct_an nc g (Int32.toNatClampNeg y) (Int32.toNatClampNeg z)).1 (ct_an (ct_xo (ct_an nc g (Int32.toNatClampNeg y) (Int32.toNatClampNeg z)).2.1 (ct_an nc g (Int32.toNatClampNeg y) (Int32.toNatClampNeg z)).2.2 (Int32.toNatClampNeg y) (Int32.toNatClampNeg z)).2.1 (ct_xo (ct_an nc g (Int32.toNatClampNeg y) (Int32.toNatClampNeg z)).2.1 (ct_an nc g (Int32.toNatClampNeg y) (Int32.toNatClampNeg z)).2.2 (Int32.toNatClampNeg y) (Int32.toNatClampNeg z)).2.2 (Int32.toNatClampNeg w) (ct_xo (ct_an nc g (Int32.toNatClampNeg y) (Int32.toNatClampNeg z)).2.1 (ct_an nc g (Int32.toNatClampNeg y) (Int32.toNatClampNeg z)).2.2 (Int32.toNatClampNeg y) (Int32.toNatClampNeg z)).1).1).2.1 := (gb_cap_n n _).1
              have cmc4 : gb_cap n (ct_an (ct_xo (ct_an nc g (Int32.toNatClampNeg y) (Int32.toNatClampNeg z)).2.1 (ct_an nc g (Int32.toNatClampNeg y) (Int32.toNatClampNeg z)).2.2 (Int32.toNatClampNeg y) (Int32.toNatClampNeg z)).2.1 (ct_xo (ct_an nc g (Int32.toNatClampNeg y) (Int32.toNatClampNeg z)).2.1 (ct_an nc g (Int32.toNatClampNeg y) (Int32.toNatClampNeg z)).2.2 (Int32.toNatClampNeg y) (Int32.toNatClampNeg z)).2.2 (Int32.toNatClampNeg w) (ct_xo (ct_an nc g (Int32.toNatClampNeg y) (Int32.toNatClampNeg z)).2.1 (ct_an nc g (Int32.toNatClampNeg y) (Int32.toNatClampNeg z)).2.2 (Int32.toNatClampNeg y) (Int32.toNatClampNeg z)).1).2.1 ≤ gb_cap n (ct_or (ct_an (ct_xo (ct_an nc g (Int32.toNatClampNeg y) (Int32.toNatClampNeg z)).2.1 (ct_an nc g (Int32.toNatClampNeg y) (Int32.toNatClampNeg z)).2.2 (Int32.toNatClampNeg y) (Int32.toNatClampNeg z)).2.1 (ct_xo (ct_an nc g (Int32.toNatClampNeg y) (Int32.toNatClampNeg z)).2.1 (ct_an nc g (Int32.toNatClampNeg y) (Int32.toNatClampNeg z)).2.2 (Int32.toNatClampNeg y) (Int32.toNatClampNeg z)).2.2 (Int32.toNatClampNeg w) (ct_xo (ct_an nc g (Int32.toNatClampNeg y) (Int32.toNatClampNeg z)).2.1 (ct_an nc g (Int32.toNatClampNeg y) (Int32.toNatClampNeg z)).2.2 (Int32.toNatClampNeg y) (Int32.toNatClampNeg z)).1).2.1 (ct_an (ct_xo (ct_an nc g (Int32.toNatClampNeg y) (Int32.toNatClampNeg z)).2.1 (ct_an nc g (Int32.toNatClampNeg y) (Int32.toNatClampNeg z)).2.2 (Int32.toNatClampNeg y) (Int32.toNatClampNeg z)).2.1 (ct_xo (ct_an nc g (Int32.toNatClampNeg y) (Int32.toNatClampNeg z)).2.1 (ct_an nc g (Int32.toNatClampNeg y) (Int32.toNatClampNeg z)).2.2 (Int32.toNatClampNeg y) (Int32.toNatClampNeg z)).2.2 (Int32.toNatClampNeg w) (ct_xo (ct_an nc g (Int32.toNatClampNeg y) (Int32.toNatClampNeg z)).2.1 (ct_an nc g (Int32.toNatClampNeg y) (Int32.toNatClampNeg z)).2.2 (Int32.toNatClampNeg y) (Int32.toNatClampNeg z)).1).2.2 (ct_an nc g (Int32.toNatClampNeg y) (Int32.toNatClampNeg z)).1 (ct_an (ct_xo (ct_an nc g (Int32.toNatClampNeg y) (Int32.toNatClampNeg z)).2.1 (ct_an nc g (Int32.toNatClampNeg y) (Int32.toNatClampNeg z)).2.2 (Int32.toNatClampNeg y) (Int32.toNatClampNeg z)).2.1 (ct_xo (ct_an nc g (Int32.toNatClampNeg y) (Int32.toNatClampNeg z)).2.1 (ct_an nc g (Int32.toNatClampNeg y) (Int32.toNatClampNeg z)).2.2 (Int32.toNatClampNeg y) (Int32.toNatClampNeg z)).2.2 (Int32.toNatClampNeg w) (ct_xo (ct_an nc g (Int32.toNatClampNeg y) (Int32.toNatClampNeg z)).2.1 (ct_an nc g (Int32.toNatClampNeg y) (Int32.toNatClampNeg z)).2.2 (Int32.toNatClampNeg y) (Int32.toNatClampNeg z)).1).1).2.1 := gb_cap_mono bdc4.2.2.1
              have cxc4 : gb_cap (gb_cap n (ct_an (ct_xo (ct_an nc g (Int32.toNatClampNeg y) (Int32.toNatClampNeg z)).2.1 (ct_an nc g (Int32.toNatClampNeg y) (Int32.toNatClampNeg z)).2.2 (Int32.toNatClampNeg y) (Int32.toNatClampNeg z)).2.1 (ct_xo (ct_an nc g (Int32.toNatClampNeg y) (Int32.toNatClampNeg z)).2.1 (ct_an nc g (Int32.toNatClampNeg y) (Int32.toNatClampNeg z)).2.2 (Int32.toNatClampNeg y) (Int32.toNatClampNeg z)).2.2 (Int32.toNatClampNeg w) (ct_xo (ct_an nc g (Int32.toNatClampNeg y) (Int32.toNatClampNeg z)).2.1 (ct_an nc g (Int32.toNatClampNeg y) (Int32.toNatClampNeg z)).2.2 (Int32.toNatClampNeg y) (Int32.toNatClampNeg z)).1).2.1) (ct_or (ct_an (ct_xo (ct_an nc g (Int32.toNatClampNeg y) (Int32.toNatClampNeg z)).2.1 (ct_an nc g (Int32.toNatClampNeg y) (Int32.toNatClampNeg z)).2.2 (Int32.toNatClampNeg y) (Int32.toNatClampNeg z)).2.1 (ct_xo (ct_an nc g (Int32.toNatClampNeg y) (Int32.toNatClampNeg z)).2.1 (ct_an nc g (Int32.toNatClampNeg y) (Int32.toNatClampNeg z)).2.2 (Int32.toNatClampNeg y) (Int32.toNatClampNeg z)).2.2 (Int32.toNatClampNeg w) (ct_xo (ct_an nc g (Int32.toNatClampNeg y) (Int32.toNatClampNeg z)).2.1 (ct_an nc g (Int32.toNatClampNeg y) (Int32.toNatClampNeg z)).2.2 (Int32.toNatClampNeg y) (Int32.toNatClampNeg z)).1).2.1 (ct_an (ct_xo (ct_an nc g (Int32.toNatClampNeg y) (Int32.toNatClampNeg z)).2.1 (ct_an nc g (Int32.toNatClampNeg y) (Int32.toNatClampNeg z)).2.2 (Int32.toNatClampNeg y) (Int32.toNatClampNeg z)).2.1 (ct_xo (ct_an nc g (Int32.toNatClampNeg y) (Int32.toNatClampNeg z)).2.1 (ct_an nc g (Int32.toNatClampNeg y) (Int32.toNatClampNeg z)).2.2 (Int32.toNatClampNeg y) (Int32.toNatClampNeg z)).2.2 (Int32.toNatClampNeg w) (ct_xo (ct_an nc g (Int32.toNatClampNeg y) (Int32.toNatClampNeg z)).2.1 (ct_an nc g (Int32.toNatClampNeg y) (Int32.toNatClampNeg z)).2.2 (Int32.toNatClampNeg y) (Int32.toNatClampNeg z)).1).2.2 (ct_an nc g (Int32.toNatClampNeg y) (Int32.toNatClampNeg z)).1 (ct_an (ct_xo (ct_an nc g (Int32.toNatClampNeg y) (Int32.toNatClampNeg z)).2.1 (ct_an nc g (Int32.toNatClampNeg y) (Int32.toNatClampNeg z)).2.2 (Int32.toNatClampNeg y) (Int32.toNatClampNeg z)).2.1 (ct_xo (ct_an nc g (Int32.toNatClampNeg y) (Int32.toNatClampNeg z)).2.1 (ct_an nc g (Int32.toNatClampNeg y) (Int32.toNatClampNeg z)).2.2 (Int32.toNatClampNeg y) (Int32.toNatClampNeg z)).2.2 (Int32.toNatClampNeg w) (ct_xo (ct_an nc g (Int32.toNatClampNeg y) (Int32.toNatClampNeg z)).2.1 (ct_an nc g (Int32.toNatClampNeg y) (Int32.toNatClampNeg z)).2.2 (Int32.toNatClampNeg y) (Int32.toNatClampNeg z)).1).1).2.1 = gb_cap n (ct_or (ct_an (ct_xo (ct_an nc g (Int32.toNatClampNeg y) (Int32.toNatClampNeg z)).2.1 (ct_an nc g (Int32.toNatClampNeg y) (Int32.toNatClampNeg z)).2.2 (Int32.toNatClampNeg y) (Int32.toNatClampNeg z)).2.1 (ct_xo (ct_an nc g (Int32.toNatClampNeg y) (Int32.toNatClampNeg z)).2.1 (ct_an nc g (Int32.toNatClampNeg y) (Int32.toNatClampNeg z)).2.2 (Int32.toNatClampNeg y) (Int32.toNatClampNeg z)).2.2 (Int32.toNatClampNeg w) (ct_xo (ct_an nc g (Int32.toNatClampNeg y) (Int32.toNatClampNeg z)).2.1 (ct_an nc g (Int32.toNatClampNeg y) (Int32.toNatClampNeg z)).2.2 (Int32.toNatClampNeg y) (Int32.toNatClampNeg z)).1).2.1 (ct_an (ct_xo (ct_an nc g (Int32.toNatClampNeg y) (Int32.toNatClampNeg z)).2.1 (ct_an nc g (Int32.toNatClampNeg y) (Int32.toNatClampNeg z)).2.2 (Int32.toNatClampNeg y) (Int32.toNatClampNeg z)).2.1 (ct_xo (ct_an nc g (Int32.toNatClampNeg y) (Int32.toNatClampNeg z)).2.1 (ct_an nc g (Int32.toNatClampNeg y) (Int32.toNatClampNeg z)).2.2 (Int32.toNatClampNeg y) (Int32.toNatClampNeg z)).2.2 (Int32.toNatClampNeg w) (ct_xo (ct_an nc g (Int32.toNatClampNeg y) (Int32.toNatClampNeg z)).2.1 (ct_an nc g (Int32.toNatClampNeg y) (Int32.toNatClampNeg z)).2.2 (Int32.toNatClampNeg y) (Int32.toNatClampNeg z)).1).2.2 (ct_an nc g (Int32.toNatClampNeg y) (Int32.toNatClampNeg z)).1 (ct_an (ct_xo (ct_an nc g (Int32.toNatClampNeg y) (Int32.toNatClampNeg z)).2.1 (ct_an nc g (Int32.toNatClampNeg y) (Int32.toNatClampNeg z)).2.2 (Int32.toNatClampNeg y) (Int32.toNatClampNeg z)).2.1 (ct_xo (ct_an nc g (Int32.toNatClampNeg y) (Int32.toNatClampNeg z)).2.1 (ct_an nc g (Int32.toNatClampNeg y) (Int32.toNatClampNeg z)).2.2 (Int32.toNatClampNeg y) (Int32.toNatClampNeg z)).2.2 (Int32.toNatClampNeg w) (ct_xo (ct_an nc g (Int32.toNatClampNeg y) (Int32.toNatClampNeg z)).2.1 (ct_an nc g (Int32.toNatClampNeg y) (Int32.toNatClampNeg z)).2.2 (Int32.toNatClampNeg y) (Int32.toNatClampNeg z)).1).1).2.1 := gb_cap_cap bdc4.2.2.1 (by omega)
              have hR : (ct_th nc g x (Int32.toNatClampNeg y) (Int32.toNatClampNeg z) (Int32.toNatClampNeg w)) = (ct_or (ct_an (ct_xo (ct_an nc g (Int32.toNatClampNeg y) (Int32.toNatClampNeg z)).2.1 (ct_an nc g (Int32.toNatClampNeg y) (Int32.toNatClampNeg z)).2.2 (Int32.toNatClampNeg y) (Int32.toNatClampNeg z)).2.1 (ct_xo (ct_an nc g (Int32.toNatClampNeg y) (Int32.toNatClampNeg z)).2.1 (ct_an nc g (Int32.toNatClampNeg y) (Int32.toNatClampNeg z)).2.2 (Int32.toNatClampNeg y) (Int32.toNatClampNeg z)).2.2 (Int32.toNatClampNeg w) (ct_xo (ct_an nc g (Int32.toNatClampNeg y) (Int32.toNatClampNeg z)).2.1 (ct_an nc g (Int32.toNatClampNeg y) (Int32.toNatClampNeg z)).2.2 (Int32.toNatClampNeg y) (Int32.toNatClampNeg z)).1).2.1 (ct_an (ct_xo (ct_an nc g (Int32.toNatClampNeg y) (Int32.toNatClampNeg z)).2.1 (ct_an nc g (Int32.toNatClampNeg y) (Int32.toNatClampNeg z)).2.2 (Int32.toNatClampNeg y) (Int32.toNatClampNeg z)).2.1 (ct_xo (ct_an nc g (Int32.toNatClampNeg y) (Int32.toNatClampNeg z)).2.1 (ct_an nc g (Int32.toNatClampNeg y) (Int32.toNatClampNeg z)).2.2 (Int32.toNatClampNeg y) (Int32.toNatClampNeg z)).2.2 (Int32.toNatClampNeg w) (ct_xo (ct_an nc g (Int32.toNatClampNeg y) (Int32.toNatClampNeg z)).2.1 (ct_an nc g (Int32.toNatClampNeg y) (Int32.toNatClampNeg z)).2.2 (Int32.toNatClampNeg y) (Int32.toNatClampNeg z)).1).2.2 (ct_an nc g (Int32.toNatClampNeg y) (Int32.toNatClampNeg z)).1 (ct_an (ct_xo (ct_an nc g (Int32.toNatClampNeg y) (Int32.toNatClampNeg z)).2.1 (ct_an nc g (Int32.toNatClampNeg y) (Int32.toNatClampNeg z)).2.2 (Int32.toNatClampNeg y) (Int32.toNatClampNeg z)).2.1 (ct_xo (ct_an nc g (Int32.toNatClampNeg y) (Int32.toNatClampNeg z)).2.1 (ct_an nc g (Int32.toNatClampNeg y) (Int32.toNatClampNeg z)).2.2 (Int32.toNatClampNeg y) (Int32.toNatClampNeg z)).2.2 (Int32.toNatClampNeg w) (ct_xo (ct_an nc g (Int32.toNatClampNeg y) (Int32.toNatClampNeg z)).2.1 (ct_an nc g (Int32.toNatClampNeg y) (Int32.toNatClampNeg z)).2.2 (Int32.toNatClampNeg y) (Int32.toNatClampNeg z)).1).1) := (if_neg c17).trans (if_neg c31)
              have hKb := hKK (Or.inr (Or.inr c49)) e2 e7 e13
              rw [hR] at hKb
              refine lv_aload_n hx hb dX0_three_52 rfl (lv_at hl 0 rfl) ?_
              refine lv_iload_n hx hb dX0_three_53 rfl (lv_at hl 2 rfl) ?_
              refine lv_iload_n hx hb dX0_three_54 rfl (lv_at hl 3 rfl) ?_
              have hFc := va_free (wc := (gW h0 cI n ad ar iv)) hD hS hA [0, 1, 2, 3, 4, 5, 6, 7, 8] rfl
              refine va_calli (va_runV (As := [.int y, .int z]) (rest := []) ⟨hx, hb, hml, hown, hts⟩ (c_andOf l D h0 cI n ad ar iv H.size y z (Int32.toNatClampNeg y) (Int32.toNatClampNeg z) nc ic g bv hya.1 hzb.1 hya.2 hzb.2 hok (by omega)) (cwV 2 hts gX0_three_X0_andOf rfl rfl rfl (by decide +kernel) ⟨Nat.le_of_ble_eq_true rfl, Nat.le_of_ble_eq_true rfl⟩) (mP_V hK hP hD (va_recv hK hP (ci := 0) (q0 := 0) rfl rfl)) rfl rfl hl.1 rfl (lv_room (Nat.le_of_ble_eq_true rfl)) dX0_three_55 ⟨by show _ + _ ≤ 4 + K; omega, by show _ + _ ≤ 24 + 16 * K; omega⟩) hS (fun q _ h => hFc q h) hFc (fun r55 u t H1 locs ht hvm e55 hB hz1 hk1 hS => ?_)
              obtain ⟨n55, ad55, ar55, iv55⟩ := u
              obtain ⟨hP1, hK1, hD1⟩ := hB
              rw [ht] at hP1
              have hK := va_K.moved hvm.symm hK1
              have hP : va_P D vwCl (gW h0 cI n55 ad55 ar55 iv55) H1 := hP1
              have hD : va_D A (gW h0 cI n55 ad55 ar55 iv55) := hD1.weaken (fun k q _ h => hFc q.1 h)
              clear hP1 hK1 hD1 hk1 hz1 hFc ht
              generalize H1 = H at hP hS ⊢
              try dsimp only at e55
              have enc1 : n55 = gb_cap n (ct_an nc g (Int32.toNatClampNeg y) (Int32.toNatClampNeg z)).2.1 := e55.2.1
              refine lv_istore (lv' := [(5, .int r55), (0, .ref h0), (1, .int x), (2, .int y), (3, .int z), (4, .int w)]) hx hb dX0_three_58 hl (by decide) rfl (fun ls hl => ?_)
              refine lv_aload_n hx hb dX0_three_60 rfl (lv_at hl 1 rfl) ?_
              refine lv_iload_n hx hb dX0_three_61 rfl (lv_at hl 3 rfl) ?_
              refine lv_iload_n hx hb dX0_three_62 rfl (lv_at hl 4 rfl) ?_
              have cyc2 : gb_cap n55 (ct_xo (ct_an nc g (Int32.toNatClampNeg y) (Int32.toNatClampNeg z)).2.1 (ct_an nc g (Int32.toNatClampNeg y) (Int32.toNatClampNeg z)).2.2 (Int32.toNatClampNeg y) (Int32.toNatClampNeg z)).2.1 = gb_cap n (ct_xo (ct_an nc g (Int32.toNatClampNeg y) (Int32.toNatClampNeg z)).2.1 (ct_an nc g (Int32.toNatClampNeg y) (Int32.toNatClampNeg z)).2.2 (Int32.toNatClampNeg y) (Int32.toNatClampNeg z)).2.1 := by rw [enc1]; exact cxc2
              have hFc := va_free (wc := (gW h0 cI n55 ad55 ar55 iv55)) hD hS hA [0, 1, 2, 3, 4, 5, 6, 7, 8] rfl
              refine va_calli (va_runV (As := [.int y, .int z]) (rest := []) ⟨hx, hb, hml, hown, hts⟩ (c_xorOf l D h0 cI n55 ad55 ar55 iv55 H.size y z (Int32.toNatClampNeg y) (Int32.toNatClampNeg z) (ct_an nc g (Int32.toNatClampNeg y) (Int32.toNatClampNeg z)).2.1 ic (ct_an nc g (Int32.toNatClampNeg y) (Int32.toNatClampNeg z)).2.2 bv hya.1 hzb.1 (by omega) (by omega) e55.2.2 (by omega)) (cwV 2 hts gX0_three_X0_xorOf rfl rfl rfl (by decide +kernel) ⟨Nat.le_of_ble_eq_true rfl, Nat.le_of_ble_eq_true rfl⟩) (mP_V hK hP hD (va_recv hK hP (ci := 0) (q0 := 0) rfl rfl)) rfl rfl hl.1 rfl (lv_room (Nat.le_of_ble_eq_true rfl)) dX0_three_63 ⟨by show _ + _ ≤ 4 + K; omega, by show _ + _ ≤ 24 + 16 * K; omega⟩) hS (fun q _ h => hFc q h) hFc (fun r63 u t H1 locs ht hvm e63 hB hz1 hk1 hS => ?_)
              obtain ⟨n63, ad63, ar63, iv63⟩ := u
              obtain ⟨hP1, hK1, hD1⟩ := hB
              rw [ht] at hP1
              have hK := va_K.moved hvm.symm hK1
              have hP : va_P D vwCl (gW h0 cI n63 ad63 ar63 iv63) H1 := hP1
              have hD : va_D A (gW h0 cI n63 ad63 ar63 iv63) := hD1.weaken (fun k q _ h => hFc q.1 h)
              clear hP1 hK1 hD1 hk1 hz1 hFc ht
              generalize H1 = H at hP hS ⊢
              try dsimp only at e63
              have enc2 : n63 = gb_cap n (ct_xo (ct_an nc g (Int32.toNatClampNeg y) (Int32.toNatClampNeg z)).2.1 (ct_an nc g (Int32.toNatClampNeg y) (Int32.toNatClampNeg z)).2.2 (Int32.toNatClampNeg y) (Int32.toNatClampNeg z)).2.1 := e63.2.1.trans cyc2
              refine lv_istore (lv' := [(6, .int r63), (5, .int r55), (0, .ref h0), (1, .int x), (2, .int y), (3, .int z), (4, .int w)]) hx hb dX0_three_66 hl (by decide) rfl (fun ls hl => ?_)
              refine lv_aload_n hx hb dX0_three_68 rfl (lv_at hl 2 rfl) ?_
              refine lv_iload hx hb dX0_three_69 (lv_at hl 1 rfl) ?_
              refine lv_aload_n hx hb dX0_three_71 rfl (lv_at hl 2 rfl) ?_
              refine lv_iload hx hb dX0_three_72 (lv_at hl 6 rfl) ?_
              refine lv_iload hx hb dX0_three_74 (lv_at hl 0 rfl) ?_
              have cyc3 : gb_cap n63 (ct_an (ct_xo (ct_an nc g (Int32.toNatClampNeg y) (Int32.toNatClampNeg z)).2.1 (ct_an nc g (Int32.toNatClampNeg y) (Int32.toNatClampNeg z)).2.2 (Int32.toNatClampNeg y) (Int32.toNatClampNeg z)).2.1 (ct_xo (ct_an nc g (Int32.toNatClampNeg y) (Int32.toNatClampNeg z)).2.1 (ct_an nc g (Int32.toNatClampNeg y) (Int32.toNatClampNeg z)).2.2 (Int32.toNatClampNeg y) (Int32.toNatClampNeg z)).2.2 (Int32.toNatClampNeg w) (ct_xo (ct_an nc g (Int32.toNatClampNeg y) (Int32.toNatClampNeg z)).2.1 (ct_an nc g (Int32.toNatClampNeg y) (Int32.toNatClampNeg z)).2.2 (Int32.toNatClampNeg y) (Int32.toNatClampNeg z)).1).2.1 = gb_cap n (ct_an (ct_xo (ct_an nc g (Int32.toNatClampNeg y) (Int32.toNatClampNeg z)).2.1 (ct_an nc g (Int32.toNatClampNeg y) (Int32.toNatClampNeg z)).2.2 (Int32.toNatClampNeg y) (Int32.toNatClampNeg z)).2.1 (ct_xo (ct_an nc g (Int32.toNatClampNeg y) (Int32.toNatClampNeg z)).2.1 (ct_an nc g (Int32.toNatClampNeg y) (Int32.toNatClampNeg z)).2.2 (Int32.toNatClampNeg y) (Int32.toNatClampNeg z)).2.2 (Int32.toNatClampNeg w) (ct_xo (ct_an nc g (Int32.toNatClampNeg y) (Int32.toNatClampNeg z)).2.1 (ct_an nc g (Int32.toNatClampNeg y) (Int32.toNatClampNeg z)).2.2 (Int32.toNatClampNeg y) (Int32.toNatClampNeg z)).1).2.1 := by rw [enc2]; exact cxc3
              have hFc := va_free (wc := (gW h0 cI n63 ad63 ar63 iv63)) hD hS hA [0, 1, 2, 3, 4, 5, 6, 7, 8] rfl
              refine va_calli (va_runV (As := [.int w, .int r63]) (rest := [.int r55, .ref h0]) ⟨hx, hb, hml, hown, hts⟩ (c_andOf l D h0 cI n63 ad63 ar63 iv63 H.size w r63 (Int32.toNatClampNeg w) (ct_xo (ct_an nc g (Int32.toNatClampNeg y) (Int32.toNatClampNeg z)).2.1 (ct_an nc g (Int32.toNatClampNeg y) (Int32.toNatClampNeg z)).2.2 (Int32.toNatClampNeg y) (Int32.toNatClampNeg z)).1 (ct_xo (ct_an nc g (Int32.toNatClampNeg y) (Int32.toNatClampNeg z)).2.1 (ct_an nc g (Int32.toNatClampNeg y) (Int32.toNatClampNeg z)).2.2 (Int32.toNatClampNeg y) (Int32.toNatClampNeg z)).2.1 ic (ct_xo (ct_an nc g (Int32.toNatClampNeg y) (Int32.toNatClampNeg z)).2.1 (ct_an nc g (Int32.toNatClampNeg y) (Int32.toNatClampNeg z)).2.2 (Int32.toNatClampNeg y) (Int32.toNatClampNeg z)).2.2 bv hwc.1 e63.1 (by omega) (by omega) e63.2.2 (by omega)) (cwV 2 hts gX0_three_X0_andOf rfl rfl rfl (by decide +kernel) ⟨Nat.le_of_ble_eq_true rfl, Nat.le_of_ble_eq_true rfl⟩) (mP_V hK hP hD (va_recv hK hP (ci := 0) (q0 := 0) rfl rfl)) rfl rfl hl.1 rfl (lv_room (Nat.le_of_ble_eq_true rfl)) dX0_three_76 ⟨by show _ + _ ≤ 4 + K; omega, by show _ + _ ≤ 24 + 16 * K; omega⟩) hS (fun q _ h => hFc q h) hFc (fun r76 u t H1 locs ht hvm e76 hB hz1 hk1 hS => ?_)
              obtain ⟨n76, ad76, ar76, iv76⟩ := u
              obtain ⟨hP1, hK1, hD1⟩ := hB
              rw [ht] at hP1
              have hK := va_K.moved hvm.symm hK1
              have hP : va_P D vwCl (gW h0 cI n76 ad76 ar76 iv76) H1 := hP1
              have hD : va_D A (gW h0 cI n76 ad76 ar76 iv76) := hD1.weaken (fun k q _ h => hFc q.1 h)
              clear hP1 hK1 hD1 hk1 hz1 hFc ht
              generalize H1 = H at hP hS ⊢
              try dsimp only at e76
              have enc3 : n76 = gb_cap n (ct_an (ct_xo (ct_an nc g (Int32.toNatClampNeg y) (Int32.toNatClampNeg z)).2.1 (ct_an nc g (Int32.toNatClampNeg y) (Int32.toNatClampNeg z)).2.2 (Int32.toNatClampNeg y) (Int32.toNatClampNeg z)).2.1 (ct_xo (ct_an nc g (Int32.toNatClampNeg y) (Int32.toNatClampNeg z)).2.1 (ct_an nc g (Int32.toNatClampNeg y) (Int32.toNatClampNeg z)).2.2 (Int32.toNatClampNeg y) (Int32.toNatClampNeg z)).2.2 (Int32.toNatClampNeg w) (ct_xo (ct_an nc g (Int32.toNatClampNeg y) (Int32.toNatClampNeg z)).2.1 (ct_an nc g (Int32.toNatClampNeg y) (Int32.toNatClampNeg z)).2.2 (Int32.toNatClampNeg y) (Int32.toNatClampNeg z)).1).2.1 := e76.2.1.trans cyc3
              have cyc4 : gb_cap n76 (ct_or (ct_an (ct_xo (ct_an nc g (Int32.toNatClampNeg y) (Int32.toNatClampNeg z)).2.1 (ct_an nc g (Int32.toNatClampNeg y) (Int32.toNatClampNeg z)).2.2 (Int32.toNatClampNeg y) (Int32.toNatClampNeg z)).2.1 (ct_xo (ct_an nc g (Int32.toNatClampNeg y) (Int32.toNatClampNeg z)).2.1 (ct_an nc g (Int32.toNatClampNeg y) (Int32.toNatClampNeg z)).2.2 (Int32.toNatClampNeg y) (Int32.toNatClampNeg z)).2.2 (Int32.toNatClampNeg w) (ct_xo (ct_an nc g (Int32.toNatClampNeg y) (Int32.toNatClampNeg z)).2.1 (ct_an nc g (Int32.toNatClampNeg y) (Int32.toNatClampNeg z)).2.2 (Int32.toNatClampNeg y) (Int32.toNatClampNeg z)).1).2.1 (ct_an (ct_xo (ct_an nc g (Int32.toNatClampNeg y) (Int32.toNatClampNeg z)).2.1 (ct_an nc g (Int32.toNatClampNeg y) (Int32.toNatClampNeg z)).2.2 (Int32.toNatClampNeg y) (Int32.toNatClampNeg z)).2.1 (ct_xo (ct_an nc g (Int32.toNatClampNeg y) (Int32.toNatClampNeg z)).2.1 (ct_an nc g (Int32.toNatClampNeg y) (Int32.toNatClampNeg z)).2.2 (Int32.toNatClampNeg y) (Int32.toNatClampNeg z)).2.2 (Int32.toNatClampNeg w) (ct_xo (ct_an nc g (Int32.toNatClampNeg y) (Int32.toNatClampNeg z)).2.1 (ct_an nc g (Int32.toNatClampNeg y) (Int32.toNatClampNeg z)).2.2 (Int32.toNatClampNeg y) (Int32.toNatClampNeg z)).1).2.2 (ct_an nc g (Int32.toNatClampNeg y) (Int32.toNatClampNeg z)).1 (ct_an (ct_xo (ct_an nc g (Int32.toNatClampNeg y) (Int32.toNatClampNeg z)).2.1 (ct_an nc g (Int32.toNatClampNeg y) (Int32.toNatClampNeg z)).2.2 (Int32.toNatClampNeg y) (Int32.toNatClampNeg z)).2.1 (ct_xo (ct_an nc g (Int32.toNatClampNeg y) (Int32.toNatClampNeg z)).2.1 (ct_an nc g (Int32.toNatClampNeg y) (Int32.toNatClampNeg z)).2.2 (Int32.toNatClampNeg y) (Int32.toNatClampNeg z)).2.2 (Int32.toNatClampNeg w) (ct_xo (ct_an nc g (Int32.toNatClampNeg y) (Int32.toNatClampNeg z)).2.1 (ct_an nc g (Int32.toNatClampNeg y) (Int32.toNatClampNeg z)).2.2 (Int32.toNatClampNeg y) (Int32.toNatClampNeg z)).1).1).2.1 = gb_cap n (ct_or (ct_an (ct_xo (ct_an nc g (Int32.toNatClampNeg y) (Int32.toNatClampNeg z)).2.1 (ct_an nc g (Int32.toNatClampNeg y) (Int32.toNatClampNeg z)).2.2 (Int32.toNatClampNeg y) (Int32.toNatClampNeg z)).2.1 (ct_xo (ct_an nc g (Int32.toNatClampNeg y) (Int32.toNatClampNeg z)).2.1 (ct_an nc g (Int32.toNatClampNeg y) (Int32.toNatClampNeg z)).2.2 (Int32.toNatClampNeg y) (Int32.toNatClampNeg z)).2.2 (Int32.toNatClampNeg w) (ct_xo (ct_an nc g (Int32.toNatClampNeg y) (Int32.toNatClampNeg z)).2.1 (ct_an nc g (Int32.toNatClampNeg y) (Int32.toNatClampNeg z)).2.2 (Int32.toNatClampNeg y) (Int32.toNatClampNeg z)).1).2.1 (ct_an (ct_xo (ct_an nc g (Int32.toNatClampNeg y) (Int32.toNatClampNeg z)).2.1 (ct_an nc g (Int32.toNatClampNeg y) (Int32.toNatClampNeg z)).2.2 (Int32.toNatClampNeg y) (Int32.toNatClampNeg z)).2.1 (ct_xo (ct_an nc g (Int32.toNatClampNeg y) (Int32.toNatClampNeg z)).2.1 (ct_an nc g (Int32.toNatClampNeg y) (Int32.toNatClampNeg z)).2.2 (Int32.toNatClampNeg y) (Int32.toNatClampNeg z)).2.2 (Int32.toNatClampNeg w) (ct_xo (ct_an nc g (Int32.toNatClampNeg y) (Int32.toNatClampNeg z)).2.1 (ct_an nc g (Int32.toNatClampNeg y) (Int32.toNatClampNeg z)).2.2 (Int32.toNatClampNeg y) (Int32.toNatClampNeg z)).1).2.2 (ct_an nc g (Int32.toNatClampNeg y) (Int32.toNatClampNeg z)).1 (ct_an (ct_xo (ct_an nc g (Int32.toNatClampNeg y) (Int32.toNatClampNeg z)).2.1 (ct_an nc g (Int32.toNatClampNeg y) (Int32.toNatClampNeg z)).2.2 (Int32.toNatClampNeg y) (Int32.toNatClampNeg z)).2.1 (ct_xo (ct_an nc g (Int32.toNatClampNeg y) (Int32.toNatClampNeg z)).2.1 (ct_an nc g (Int32.toNatClampNeg y) (Int32.toNatClampNeg z)).2.2 (Int32.toNatClampNeg y) (Int32.toNatClampNeg z)).2.2 (Int32.toNatClampNeg w) (ct_xo (ct_an nc g (Int32.toNatClampNeg y) (Int32.toNatClampNeg z)).2.1 (ct_an nc g (Int32.toNatClampNeg y) (Int32.toNatClampNeg z)).2.2 (Int32.toNatClampNeg y) (Int32.toNatClampNeg z)).1).1).2.1 := by rw [enc3]; exact cxc4
              have hFc := va_free (wc := (gW h0 cI n76 ad76 ar76 iv76)) hD hS hA [0, 1, 2, 3, 4, 5, 6, 7, 8] rfl
              refine va_calli (va_runV (As := [.int r55, .int r76]) (rest := []) ⟨hx, hb, hml, hown, hts⟩ (c_orOf l D h0 cI n76 ad76 ar76 iv76 H.size r55 r76 (ct_an nc g (Int32.toNatClampNeg y) (Int32.toNatClampNeg z)).1 (ct_an (ct_xo (ct_an nc g (Int32.toNatClampNeg y) (Int32.toNatClampNeg z)).2.1 (ct_an nc g (Int32.toNatClampNeg y) (Int32.toNatClampNeg z)).2.2 (Int32.toNatClampNeg y) (Int32.toNatClampNeg z)).2.1 (ct_xo (ct_an nc g (Int32.toNatClampNeg y) (Int32.toNatClampNeg z)).2.1 (ct_an nc g (Int32.toNatClampNeg y) (Int32.toNatClampNeg z)).2.2 (Int32.toNatClampNeg y) (Int32.toNatClampNeg z)).2.2 (Int32.toNatClampNeg w) (ct_xo (ct_an nc g (Int32.toNatClampNeg y) (Int32.toNatClampNeg z)).2.1 (ct_an nc g (Int32.toNatClampNeg y) (Int32.toNatClampNeg z)).2.2 (Int32.toNatClampNeg y) (Int32.toNatClampNeg z)).1).1 (ct_an (ct_xo (ct_an nc g (Int32.toNatClampNeg y) (Int32.toNatClampNeg z)).2.1 (ct_an nc g (Int32.toNatClampNeg y) (Int32.toNatClampNeg z)).2.2 (Int32.toNatClampNeg y) (Int32.toNatClampNeg z)).2.1 (ct_xo (ct_an nc g (Int32.toNatClampNeg y) (Int32.toNatClampNeg z)).2.1 (ct_an nc g (Int32.toNatClampNeg y) (Int32.toNatClampNeg z)).2.2 (Int32.toNatClampNeg y) (Int32.toNatClampNeg z)).2.2 (Int32.toNatClampNeg w) (ct_xo (ct_an nc g (Int32.toNatClampNeg y) (Int32.toNatClampNeg z)).2.1 (ct_an nc g (Int32.toNatClampNeg y) (Int32.toNatClampNeg z)).2.2 (Int32.toNatClampNeg y) (Int32.toNatClampNeg z)).1).2.1 ic (ct_an (ct_xo (ct_an nc g (Int32.toNatClampNeg y) (Int32.toNatClampNeg z)).2.1 (ct_an nc g (Int32.toNatClampNeg y) (Int32.toNatClampNeg z)).2.2 (Int32.toNatClampNeg y) (Int32.toNatClampNeg z)).2.1 (ct_xo (ct_an nc g (Int32.toNatClampNeg y) (Int32.toNatClampNeg z)).2.1 (ct_an nc g (Int32.toNatClampNeg y) (Int32.toNatClampNeg z)).2.2 (Int32.toNatClampNeg y) (Int32.toNatClampNeg z)).2.2 (Int32.toNatClampNeg w) (ct_xo (ct_an nc g (Int32.toNatClampNeg y) (Int32.toNatClampNeg z)).2.1 (ct_an nc g (Int32.toNatClampNeg y) (Int32.toNatClampNeg z)).2.2 (Int32.toNatClampNeg y) (Int32.toNatClampNeg z)).1).2.2 bv e55.1 e76.1 (by omega) (by omega) e76.2.2 (by omega)) (cwV 2 hts gX0_three_X0_orOf rfl rfl rfl (by decide +kernel) ⟨Nat.le_of_ble_eq_true rfl, Nat.le_of_ble_eq_true rfl⟩) (mP_V hK hP hD (va_recv hK hP (ci := 0) (q0 := 0) rfl rfl)) rfl rfl hl.1 rfl (lv_room (Nat.le_of_ble_eq_true rfl)) dX0_three_79 ⟨by show _ + _ ≤ 4 + K; omega, by show _ + _ ≤ 24 + 16 * K; omega⟩) hS (fun q _ h => hFc q h) hFc (fun r79 u t H1 locs ht hvm e79 hB hz1 hk1 hS => ?_)
              obtain ⟨n79, ad79, ar79, iv79⟩ := u
              obtain ⟨hP1, hK1, hD1⟩ := hB
              rw [ht] at hP1
              have hK := va_K.moved hvm.symm hK1
              have hP : va_P D vwCl (gW h0 cI n79 ad79 ar79 iv79) H1 := hP1
              have hD : va_D A (gW h0 cI n79 ad79 ar79 iv79) := hD1.weaken (fun k q _ h => hFc q.1 h)
              clear hP1 hK1 hD1 hk1 hz1 hFc ht
              generalize H1 = H at hP hS ⊢
              try dsimp only at e79
              have enc4 : n79 = gb_cap n (ct_or (ct_an (ct_xo (ct_an nc g (Int32.toNatClampNeg y) (Int32.toNatClampNeg z)).2.1 (ct_an nc g (Int32.toNatClampNeg y) (Int32.toNatClampNeg z)).2.2 (Int32.toNatClampNeg y) (Int32.toNatClampNeg z)).2.1 (ct_xo (ct_an nc g (Int32.toNatClampNeg y) (Int32.toNatClampNeg z)).2.1 (ct_an nc g (Int32.toNatClampNeg y) (Int32.toNatClampNeg z)).2.2 (Int32.toNatClampNeg y) (Int32.toNatClampNeg z)).2.2 (Int32.toNatClampNeg w) (ct_xo (ct_an nc g (Int32.toNatClampNeg y) (Int32.toNatClampNeg z)).2.1 (ct_an nc g (Int32.toNatClampNeg y) (Int32.toNatClampNeg z)).2.2 (Int32.toNatClampNeg y) (Int32.toNatClampNeg z)).1).2.1 (ct_an (ct_xo (ct_an nc g (Int32.toNatClampNeg y) (Int32.toNatClampNeg z)).2.1 (ct_an nc g (Int32.toNatClampNeg y) (Int32.toNatClampNeg z)).2.2 (Int32.toNatClampNeg y) (Int32.toNatClampNeg z)).2.1 (ct_xo (ct_an nc g (Int32.toNatClampNeg y) (Int32.toNatClampNeg z)).2.1 (ct_an nc g (Int32.toNatClampNeg y) (Int32.toNatClampNeg z)).2.2 (Int32.toNatClampNeg y) (Int32.toNatClampNeg z)).2.2 (Int32.toNatClampNeg w) (ct_xo (ct_an nc g (Int32.toNatClampNeg y) (Int32.toNatClampNeg z)).2.1 (ct_an nc g (Int32.toNatClampNeg y) (Int32.toNatClampNeg z)).2.2 (Int32.toNatClampNeg y) (Int32.toNatClampNeg z)).1).2.2 (ct_an nc g (Int32.toNatClampNeg y) (Int32.toNatClampNeg z)).1 (ct_an (ct_xo (ct_an nc g (Int32.toNatClampNeg y) (Int32.toNatClampNeg z)).2.1 (ct_an nc g (Int32.toNatClampNeg y) (Int32.toNatClampNeg z)).2.2 (Int32.toNatClampNeg y) (Int32.toNatClampNeg z)).2.1 (ct_xo (ct_an nc g (Int32.toNatClampNeg y) (Int32.toNatClampNeg z)).2.1 (ct_an nc g (Int32.toNatClampNeg y) (Int32.toNatClampNeg z)).2.2 (Int32.toNatClampNeg y) (Int32.toNatClampNeg z)).2.2 (Int32.toNatClampNeg w) (ct_xo (ct_an nc g (Int32.toNatClampNeg y) (Int32.toNatClampNeg z)).2.1 (ct_an nc g (Int32.toNatClampNeg y) (Int32.toNatClampNeg z)).2.2 (Int32.toNatClampNeg y) (Int32.toNatClampNeg z)).1).1).2.1 := e79.2.1.trans cyc4
              refine W.widen (k := 4 + K) (n := 24 + 16 * K) (by omega) (by omega) ?_
              refine vx_ret ?_
              exact W.iret (v := r79) hx hb hr (fun t ht hW => ⟨⟨r79, (n79, ad79, ar79, iv79), rfl, ⟨⟨Or.inr (Or.inr c49), e2, e7, e13⟩, by rw [hR]; exact ⟨e79.1, enc4, e79.2.2⟩⟩, by rw [ht]; exact hP, va_K.moved hW.alike hK, hD⟩, hS.F ht⟩) hS.2.2 dX0_three_82
          · have bdb1 : ct_bd nc 3 (ct_xo nc g (Int32.toNatClampNeg y) (Int32.toNatClampNeg z)) := ct_xo_b hwf hya.2 hzb.2
            have blb1 : (ct_xo nc g (Int32.toNatClampNeg y) (Int32.toNatClampNeg z)).1 < 2 * (ct_xo nc g (Int32.toNatClampNeg y) (Int32.toNatClampNeg z)).2.1 := bdb1.2.1
            have bgb1 : nc ≤ (ct_xo nc g (Int32.toNatClampNeg y) (Int32.toNatClampNeg z)).2.1 := bdb1.2.2.1
            have bhb1 : (ct_xo nc g (Int32.toNatClampNeg y) (Int32.toNatClampNeg z)).2.1 ≤ nc + 3 := bdb1.2.2.2
            have ckb1 : n ≤ gb_cap n (ct_xo nc g (Int32.toNatClampNeg y) (Int32.toNatClampNeg z)).2.1 := (gb_cap_n n _).1
            have bdb2 : ct_bd (ct_xo nc g (Int32.toNatClampNeg y) (Int32.toNatClampNeg z)).2.1 3 (ct_xo (ct_xo nc g (Int32.toNatClampNeg y) (Int32.toNatClampNeg z)).2.1 (ct_xo nc g (Int32.toNatClampNeg y) (Int32.toNatClampNeg z)).2.2 (ct_xo nc g (Int32.toNatClampNeg y) (Int32.toNatClampNeg z)).1 (Int32.toNatClampNeg w)) := ct_xo_b bdb1.1 (by omega) (by omega)
            have blb2 : (ct_xo (ct_xo nc g (Int32.toNatClampNeg y) (Int32.toNatClampNeg z)).2.1 (ct_xo nc g (Int32.toNatClampNeg y) (Int32.toNatClampNeg z)).2.2 (ct_xo nc g (Int32.toNatClampNeg y) (Int32.toNatClampNeg z)).1 (Int32.toNatClampNeg w)).1 < 2 * (ct_xo (ct_xo nc g (Int32.toNatClampNeg y) (Int32.toNatClampNeg z)).2.1 (ct_xo nc g (Int32.toNatClampNeg y) (Int32.toNatClampNeg z)).2.2 (ct_xo nc g (Int32.toNatClampNeg y) (Int32.toNatClampNeg z)).1 (Int32.toNatClampNeg w)).2.1 := bdb2.2.1
            have bgb2 : (ct_xo nc g (Int32.toNatClampNeg y) (Int32.toNatClampNeg z)).2.1 ≤ (ct_xo (ct_xo nc g (Int32.toNatClampNeg y) (Int32.toNatClampNeg z)).2.1 (ct_xo nc g (Int32.toNatClampNeg y) (Int32.toNatClampNeg z)).2.2 (ct_xo nc g (Int32.toNatClampNeg y) (Int32.toNatClampNeg z)).1 (Int32.toNatClampNeg w)).2.1 := bdb2.2.2.1
            have bhb2 : (ct_xo (ct_xo nc g (Int32.toNatClampNeg y) (Int32.toNatClampNeg z)).2.1 (ct_xo nc g (Int32.toNatClampNeg y) (Int32.toNatClampNeg z)).2.2 (ct_xo nc g (Int32.toNatClampNeg y) (Int32.toNatClampNeg z)).1 (Int32.toNatClampNeg w)).2.1 ≤ (ct_xo nc g (Int32.toNatClampNeg y) (Int32.toNatClampNeg z)).2.1 + 3 := bdb2.2.2.2
            have ckb2 : n ≤ gb_cap n (ct_xo (ct_xo nc g (Int32.toNatClampNeg y) (Int32.toNatClampNeg z)).2.1 (ct_xo nc g (Int32.toNatClampNeg y) (Int32.toNatClampNeg z)).2.2 (ct_xo nc g (Int32.toNatClampNeg y) (Int32.toNatClampNeg z)).1 (Int32.toNatClampNeg w)).2.1 := (gb_cap_n n _).1
            have cmb2 : gb_cap n (ct_xo nc g (Int32.toNatClampNeg y) (Int32.toNatClampNeg z)).2.1 ≤ gb_cap n (ct_xo (ct_xo nc g (Int32.toNatClampNeg y) (Int32.toNatClampNeg z)).2.1 (ct_xo nc g (Int32.toNatClampNeg y) (Int32.toNatClampNeg z)).2.2 (ct_xo nc g (Int32.toNatClampNeg y) (Int32.toNatClampNeg z)).1 (Int32.toNatClampNeg w)).2.1 := gb_cap_mono bdb2.2.2.1
            have cxb2 : gb_cap (gb_cap n (ct_xo nc g (Int32.toNatClampNeg y) (Int32.toNatClampNeg z)).2.1) (ct_xo (ct_xo nc g (Int32.toNatClampNeg y) (Int32.toNatClampNeg z)).2.1 (ct_xo nc g (Int32.toNatClampNeg y) (Int32.toNatClampNeg z)).2.2 (ct_xo nc g (Int32.toNatClampNeg y) (Int32.toNatClampNeg z)).1 (Int32.toNatClampNeg w)).2.1 = gb_cap n (ct_xo (ct_xo nc g (Int32.toNatClampNeg y) (Int32.toNatClampNeg z)).2.1 (ct_xo nc g (Int32.toNatClampNeg y) (Int32.toNatClampNeg z)).2.2 (ct_xo nc g (Int32.toNatClampNeg y) (Int32.toNatClampNeg z)).1 (Int32.toNatClampNeg w)).2.1 := gb_cap_cap bdb2.2.2.1 (by omega)
            have hR : (ct_th nc g x (Int32.toNatClampNeg y) (Int32.toNatClampNeg z) (Int32.toNatClampNeg w)) = (ct_xo (ct_xo nc g (Int32.toNatClampNeg y) (Int32.toNatClampNeg z)).2.1 (ct_xo nc g (Int32.toNatClampNeg y) (Int32.toNatClampNeg z)).2.2 (ct_xo nc g (Int32.toNatClampNeg y) (Int32.toNatClampNeg z)).1 (Int32.toNatClampNeg w)) := (if_neg c17).trans (if_pos c31)
            have hKb := hKK (Or.inr (Or.inl c31)) e2 e7 e13
            rw [hR] at hKb
            refine lv_aload_n hx hb dX0_three_34 rfl (lv_at hl 0 rfl) ?_
            refine lv_aload_n hx hb dX0_three_35 rfl (lv_at hl 0 rfl) ?_
            refine lv_iload_n hx hb dX0_three_36 rfl (lv_at hl 2 rfl) ?_
            refine lv_iload_n hx hb dX0_three_37 rfl (lv_at hl 3 rfl) ?_
            have hFc := va_free (wc := (gW h0 cI n ad ar iv)) hD hS hA [0, 1, 2, 3, 4, 5, 6, 7, 8] rfl
            refine va_calli (va_runV (As := [.int y, .int z]) (rest := [.ref h0]) ⟨hx, hb, hml, hown, hts⟩ (c_xorOf l D h0 cI n ad ar iv H.size y z (Int32.toNatClampNeg y) (Int32.toNatClampNeg z) nc ic g bv hya.1 hzb.1 hya.2 hzb.2 hok (by omega)) (cwV 2 hts gX0_three_X0_xorOf rfl rfl rfl (by decide +kernel) ⟨Nat.le_of_ble_eq_true rfl, Nat.le_of_ble_eq_true rfl⟩) (mP_V hK hP hD (va_recv hK hP (ci := 0) (q0 := 0) rfl rfl)) rfl rfl hl.1 rfl (lv_room (Nat.le_of_ble_eq_true rfl)) dX0_three_38 ⟨by show _ + _ ≤ 4 + K; omega, by show _ + _ ≤ 24 + 16 * K; omega⟩) hS (fun q _ h => hFc q h) hFc (fun r38 u t H1 locs ht hvm e38 hB hz1 hk1 hS => ?_)
            obtain ⟨n38, ad38, ar38, iv38⟩ := u
            obtain ⟨hP1, hK1, hD1⟩ := hB
            rw [ht] at hP1
            have hK := va_K.moved hvm.symm hK1
            have hP : va_P D vwCl (gW h0 cI n38 ad38 ar38 iv38) H1 := hP1
            have hD : va_D A (gW h0 cI n38 ad38 ar38 iv38) := hD1.weaken (fun k q _ h => hFc q.1 h)
            clear hP1 hK1 hD1 hk1 hz1 hFc ht
            generalize H1 = H at hP hS ⊢
            try dsimp only at e38
            have enb1 : n38 = gb_cap n (ct_xo nc g (Int32.toNatClampNeg y) (Int32.toNatClampNeg z)).2.1 := e38.2.1
            refine lv_iload hx hb dX0_three_41 (lv_at hl 4 rfl) ?_
            have cyb2 : gb_cap n38 (ct_xo (ct_xo nc g (Int32.toNatClampNeg y) (Int32.toNatClampNeg z)).2.1 (ct_xo nc g (Int32.toNatClampNeg y) (Int32.toNatClampNeg z)).2.2 (ct_xo nc g (Int32.toNatClampNeg y) (Int32.toNatClampNeg z)).1 (Int32.toNatClampNeg w)).2.1 = gb_cap n (ct_xo (ct_xo nc g (Int32.toNatClampNeg y) (Int32.toNatClampNeg z)).2.1 (ct_xo nc g (Int32.toNatClampNeg y) (Int32.toNatClampNeg z)).2.2 (ct_xo nc g (Int32.toNatClampNeg y) (Int32.toNatClampNeg z)).1 (Int32.toNatClampNeg w)).2.1 := by rw [enb1]; exact cxb2
            have hFc := va_free (wc := (gW h0 cI n38 ad38 ar38 iv38)) hD hS hA [0, 1, 2, 3, 4, 5, 6, 7, 8] rfl
            refine va_calli (va_runV (As := [.int r38, .int w]) (rest := []) ⟨hx, hb, hml, hown, hts⟩ (c_xorOf l D h0 cI n38 ad38 ar38 iv38 H.size r38 w (ct_xo nc g (Int32.toNatClampNeg y) (Int32.toNatClampNeg z)).1 (Int32.toNatClampNeg w) (ct_xo nc g (Int32.toNatClampNeg y) (Int32.toNatClampNeg z)).2.1 ic (ct_xo nc g (Int32.toNatClampNeg y) (Int32.toNatClampNeg z)).2.2 bv e38.1 hwc.1 (by omega) (by omega) e38.2.2 (by omega)) (cwV 2 hts gX0_three_X0_xorOf rfl rfl rfl (by decide +kernel) ⟨Nat.le_of_ble_eq_true rfl, Nat.le_of_ble_eq_true rfl⟩) (mP_V hK hP hD (va_recv hK hP (ci := 0) (q0 := 0) rfl rfl)) rfl rfl hl.1 rfl (lv_room (Nat.le_of_ble_eq_true rfl)) dX0_three_43 ⟨by show _ + _ ≤ 4 + K; omega, by show _ + _ ≤ 24 + 16 * K; omega⟩) hS (fun q _ h => hFc q h) hFc (fun r43 u t H1 locs ht hvm e43 hB hz1 hk1 hS => ?_)
            obtain ⟨n43, ad43, ar43, iv43⟩ := u
            obtain ⟨hP1, hK1, hD1⟩ := hB
            rw [ht] at hP1
            have hK := va_K.moved hvm.symm hK1
            have hP : va_P D vwCl (gW h0 cI n43 ad43 ar43 iv43) H1 := hP1
            have hD : va_D A (gW h0 cI n43 ad43 ar43 iv43) := hD1.weaken (fun k q _ h => hFc q.1 h)
            clear hP1 hK1 hD1 hk1 hz1 hFc ht
            generalize H1 = H at hP hS ⊢
            try dsimp only at e43
            have enb2 : n43 = gb_cap n (ct_xo (ct_xo nc g (Int32.toNatClampNeg y) (Int32.toNatClampNeg z)).2.1 (ct_xo nc g (Int32.toNatClampNeg y) (Int32.toNatClampNeg z)).2.2 (ct_xo nc g (Int32.toNatClampNeg y) (Int32.toNatClampNeg z)).1 (Int32.toNatClampNeg w)).2.1 := e43.2.1.trans cyb2
            refine W.widen (k := 4 + K) (n := 24 + 16 * K) (by omega) (by omega) ?_
            refine vx_ret ?_
            exact W.iret (v := r43) hx hb hr (fun t ht hW => ⟨⟨r43, (n43, ad43, ar43, iv43), rfl, ⟨⟨Or.inr (Or.inl c31), e2, e7, e13⟩, by rw [hR]; exact ⟨e43.1, enb2, e43.2.2⟩⟩, by rw [ht]; exact hP, va_K.moved hW.alike hK, hD⟩, hS.F ht⟩) hS.2.2 dX0_three_46
        · have bda1 : ct_bd nc 3 (ct_ie nc g (Int32.toNatClampNeg y) (Int32.toNatClampNeg z) (Int32.toNatClampNeg w)) := ct_ie_b hwf hya.2 hzb.2 hwc.2
          have bla1 : (ct_ie nc g (Int32.toNatClampNeg y) (Int32.toNatClampNeg z) (Int32.toNatClampNeg w)).1 < 2 * (ct_ie nc g (Int32.toNatClampNeg y) (Int32.toNatClampNeg z) (Int32.toNatClampNeg w)).2.1 := bda1.2.1
          have bga1 : nc ≤ (ct_ie nc g (Int32.toNatClampNeg y) (Int32.toNatClampNeg z) (Int32.toNatClampNeg w)).2.1 := bda1.2.2.1
          have bha1 : (ct_ie nc g (Int32.toNatClampNeg y) (Int32.toNatClampNeg z) (Int32.toNatClampNeg w)).2.1 ≤ nc + 3 := bda1.2.2.2
          have cka1 : n ≤ gb_cap n (ct_ie nc g (Int32.toNatClampNeg y) (Int32.toNatClampNeg z) (Int32.toNatClampNeg w)).2.1 := (gb_cap_n n _).1
          have hR : (ct_th nc g x (Int32.toNatClampNeg y) (Int32.toNatClampNeg z) (Int32.toNatClampNeg w)) = (ct_ie nc g (Int32.toNatClampNeg y) (Int32.toNatClampNeg z) (Int32.toNatClampNeg w)) := if_pos c17
          have hKb := hKK (Or.inl c17) e2 e7 e13
          rw [hR] at hKb
          refine lv_aload_n hx hb dX0_three_20 rfl (lv_at hl 0 rfl) ?_
          refine lv_iload_n hx hb dX0_three_21 rfl (lv_at hl 2 rfl) ?_
          refine lv_iload_n hx hb dX0_three_22 rfl (lv_at hl 3 rfl) ?_
          refine lv_iload hx hb dX0_three_23 (lv_at hl 4 rfl) ?_
          have hFc := va_free (wc := (gW h0 cI n ad ar iv)) hD hS hA [0, 1, 2, 3, 4, 5, 6, 7, 8] rfl
          refine va_calli (va_runV (As := [.int y, .int z, .int w]) (rest := []) ⟨hx, hb, hml, hown, hts⟩ (c_ifOf l D h0 cI n ad ar iv H.size y z w (Int32.toNatClampNeg y) (Int32.toNatClampNeg z) (Int32.toNatClampNeg w) nc ic g bv hya.1 hzb.1 hwc.1 hya.2 hzb.2 hwc.2 hok (by omega)) (cwV 3 hts gX0_three_X0_ifOf rfl rfl rfl (by decide +kernel) ⟨Nat.le_of_ble_eq_true rfl, Nat.le_of_ble_eq_true rfl⟩) (mP_V hK hP hD (va_recv hK hP (ci := 0) (q0 := 0) rfl rfl)) rfl rfl hl.1 rfl (lv_room (Nat.le_of_ble_eq_true rfl)) dX0_three_25 ⟨by show _ + _ ≤ 4 + K; omega, by show _ + _ ≤ 24 + 16 * K; omega⟩) hS (fun q _ h => hFc q h) hFc (fun r25 u t H1 locs ht hvm e25 hB hz1 hk1 hS => ?_)
          obtain ⟨n25, ad25, ar25, iv25⟩ := u
          obtain ⟨hP1, hK1, hD1⟩ := hB
          rw [ht] at hP1
          have hK := va_K.moved hvm.symm hK1
          have hP : va_P D vwCl (gW h0 cI n25 ad25 ar25 iv25) H1 := hP1
          have hD : va_D A (gW h0 cI n25 ad25 ar25 iv25) := hD1.weaken (fun k q _ h => hFc q.1 h)
          clear hP1 hK1 hD1 hk1 hz1 hFc ht
          generalize H1 = H at hP hS ⊢
          try dsimp only at e25
          have ena1 : n25 = gb_cap n (ct_ie nc g (Int32.toNatClampNeg y) (Int32.toNatClampNeg z) (Int32.toNatClampNeg w)).2.1 := e25.2.1
          refine W.widen (k := 4 + K) (n := 24 + 16 * K) (by omega) (by omega) ?_
          refine vx_ret ?_
          exact W.iret (v := r25) hx hb hr (fun t ht hW => ⟨⟨r25, (n25, ad25, ar25, iv25), rfl, ⟨⟨Or.inl c17, e2, e7, e13⟩, by rw [hR]; exact ⟨e25.1, ena1, e25.2.2⟩⟩, by rw [ht]; exact hP, va_K.moved hW.alike hK, hD⟩, hS.F ht⟩) hS.2.2 dX0_three_28
