set_option maxHeartbeats 4000000 in
set_option maxRecDepth 100000 in
/-- value -/
theorem c_value (l : Launch) (hl9 : l.stackTraces = false) (D : va_G) (h0 : Nat) (cI : ClassId) (n : Nat) (ad : Nat → Nat) (ar : Nat → Nat → Int32) (iv : Nat → Int32) (sz : Nat) (x : Int32) (nc ic : Nat) (g : Ct) (bv : Nat → Bool) (hok : gb_ok n nc ic g bv ar iv) (hmx : nc + 6 ≤ 20000) : vx_Met l yX0_value wsX0_value ({ frames := 7, cells := 1, slots := 6, locals := 111 }) (tP D (gW h0 cI n ad ar iv) [(cI, .int)] sz [.ref h0, .int x]) (va_Qi (fun (r : Int32) (u : GS) => (ct_lit nc x ∧ r = ct_b (ct_vl g bv ((Int32.toNatClampNeg x) / 2) ^^ decide ((Int32.toNatClampNeg x) % 2 = 1)) ∧ u.1 = n ∧ gb_ok n nc ic g bv u.2.2.1 u.2.2.2)) (gb_at D cI (va_A (gW h0 cI n ad ar iv) sz) h0) (va_A (gW h0 cI n ad ar iv) sz)) (gb_xc D cI (va_A (gW h0 cI n ad ar iv) sz) h0 (n, ad, ar, iv) (¬ ct_lit nc x)) (1) (6) (va_A (gW h0 cI n ad ar iv) sz) := by
  refine vx_ofW (cc := cX0_value) (maxL := 2) (ret := (some .boolean)) (by decide) rfl ?_
  intro p e s m args below meth c s₁ B hml hnt hv
  obtain ⟨rfl, hsz, hP, hK, hD0, hT⟩ := hv
  have hx := B.exec
  have hb := B.bytes
  have hr := B.returns
  have hts := atoms_spec (ws := wsX0_value) B.pre
  have hown : s.vm.findClass RX0 = some m.cls := findClass_of_methodNamed B.named
  have hlocks := B.notSynchronized
  have hl := lv_entry ([.ref h0, .int x]) (n := 2) (Nat.le_of_ble_eq_true rfl)
  rw [lg_entry_eq]
  generalize (lg_sl ([.ref h0, .int x]) ++ List.replicate (2 - (lg_sl ([.ref h0, .int x])).length) Slot.unset).toArray = ls at hl ⊢
  have hl : lv_has ls 2 [(0, .ref h0), (1, .int x)] := hl
  subst hsz
  have hD := hD0.self (sz := s.heap.size)
  generalize hAe : va_A (gW h0 cI n ad ar iv) s.heap.size = A at hD hT ⊢
  have hA : ∀ q : Nat, s.heap.size ≤ q → A q := fun q h => by rw [← hAe]; exact Or.inr h
  have hS : va_S A s.heap s.heap [] := va_S.rf
  have hnc := hok.nc
  have hct := hok.ct
  have hwf := hok.wf
  have h16 := hok.n16
  have hle := hct.2.1
  have hb9 := hct.2.2.1
  have hn9 : nc < 2 ^ 30 := by omega
  refine lv_aload_n hx hb dX0_value_0 rfl (lv_at hl 0 rfl) ?_
  refine lv_iload_n hx hb dX0_value_1 rfl (lv_at hl 1 rfl) ?_
  have hFc := va_free (wc := (gW h0 cI n ad ar iv)) hD hS hA [0, 1, 2, 3, 4, 5, 6, 7, 8] rfl
  refine vx_callv (vx_runV (As := [.int x]) (rest := []) ⟨hx, hb, hml, hown, hts⟩ (c_needLiteral l hl9 D h0 cI n ad ar iv s.heap.size x nc hnc hn9) (cwV 1 hts gX0_value_X0_needLiteral rfl rfl rfl (by decide +kernel) ⟨Nat.le_of_ble_eq_true rfl, Nat.le_of_ble_eq_true rfl⟩) (tP_V hK hP hD (va_recv hK hP (ci := 0) (q0 := 0) rfl rfl) hT hS hFc) rfl rfl hl.1 rfl (lv_room (Nat.le_of_ble_eq_true rfl)) dX0_value_2 ⟨by show _ + _ ≤ 1; omega, by show _ + _ ≤ 6; omega⟩) hS (fun q _ h => hFc q h) hFc (fun q _ h => hFc q h) (fun E ce q9 u t H1 locs ht hvm e2 hB hz1 hk1 hS hcell hcv hcl => ?_) (fun u t H1 locs ht hvm e2 hB hz1 hk1 hS => ?_)
  · obtain ⟨e2, rfl⟩ := e2
    obtain ⟨rfl, hP1, hK1, hD1⟩ := hB
    rw [ht] at hP1
    have hK := va_K.moved hvm.symm hK1
    have hD : va_D A (gW h0 cI n ad ar iv) := hD1.weaken (fun k q _ h => hFc q.1 h)
    exact vx_out (fun x h => (hnt x h).elim) hlocks hcell hcv hcl (fun t' ht' hvm' => ⟨(n, ad, ar, iv), ⟨e2, rfl⟩, ⟨rfl, by rw [ht']; exact hP1, va_K.moved hvm' hK, hD⟩, hS.F ht'⟩) hS.2.2 (by omega) (by omega)
  · obtain ⟨e2, rfl⟩ := e2
    obtain ⟨hP1, hK1, hD1⟩ := hB
    rw [ht] at hP1
    have hK := va_K.moved hvm.symm hK1
    have hP : va_P D vwCl (gW h0 cI n ad ar iv) H1 := hP1
    have hD : va_D A (gW h0 cI n ad ar iv) := hD1.weaken (fun k q _ h => hFc q.1 h)
    clear hP1 hK1 hD1 hk1 hz1 hFc ht
    generalize H1 = H at hP hS ⊢
    have hxa := ct_lit_n e2 hn9
    obtain ⟨top, htop⟩ : ∃ z : Nat, z = (Int32.toNatClampNeg x) / 2 := ⟨_, rfl⟩
    refine lv_aload_n hx hb dX0_value_5 rfl (lv_at hl 0 rfl) ?_
    refine lv_iload_n hx hb dX0_value_6 rfl (lv_at hl 1 rfl) ?_
    refine lv_iconst (v := 1) hx hb dX0_value_7 (by decide) ?_
    refine lv_ishr hx hb dX0_value_8 ?_
    refine lv_topi (fun v8 e8 => ?_)
    have e8 : v8 = nI top := by rw [e8, hxa.1, ct_shr (by omega), htop]
    have hFc := va_free (wc := (gW h0 cI n ad ar iv)) hD hS hA [0, 1, 2, 3, 4, 5, 6, 7, 8] rfl
    refine va_callv (va_runV (As := [.int v8]) (rest := []) ⟨hx, hb, hml, hown, hts⟩ (c_settle l D h0 cI n ad ar iv H.size v8 top nc ic g bv e8 (by omega) hok) (cwV 1 hts gX0_value_X0_settle rfl rfl rfl (by decide +kernel) ⟨Nat.le_of_ble_eq_true rfl, Nat.le_of_ble_eq_true rfl⟩) (mP_V hK hP hD (va_recv hK hP (ci := 0) (q0 := 0) rfl rfl)) rfl rfl hl.1 rfl (lv_room (Nat.le_of_ble_eq_true rfl)) dX0_value_9 ⟨by show _ + _ ≤ 1; omega, by show _ + _ ≤ 6; omega⟩) hS (fun q _ h => hFc q h) hFc (fun u t H1 locs ht hvm e9 hB hz1 hk1 hS => ?_)
    obtain ⟨n9, ad9, ar9, iv9⟩ := u
    obtain ⟨hP1, hK1, hD1⟩ := hB
    rw [ht] at hP1
    have hK := va_K.moved hvm.symm hK1
    have hP : va_P D vwCl (gW h0 cI n9 ad9 ar9 iv9) H1 := hP1
    have hD : va_D A (gW h0 cI n9 ad9 ar9 iv9) := hD1.weaken (fun k q _ h => hFc q.1 h)
    clear hP1 hK1 hD1 hk1 hz1 hFc ht
    generalize H1 = H at hP hS ⊢
    try dsimp only at e9
    have hc14 : vp_in (gb_sh x) n9 := by rw [e9.1, hxa.1, gb_sh_n (by omega)]; exact vp_in_nI (by omega) (by omega)
    refine lv_aload_n hx hb dX0_value_12 rfl (lv_at hl 0 rfl) ?_
    refine lv_iload_n hx hb dX0_value_13 rfl (lv_at hl 1 rfl) ?_
    refine vp_callSi (W.runV (As := [.int x]) (rest := []) ⟨hx, hb, hml, hown, hts⟩ (c_valueNow l D h0 cI n9 ad9 ar9 iv9 x hc14) (cwV 1 hts gX0_value_X0_valueNow rfl rfl rfl (by decide +kernel) ⟨Nat.le_of_ble_eq_true rfl, Nat.le_of_ble_eq_true rfl⟩) (rP_V hK hP (va_recv hK hP (ci := 0) (q0 := 0) rfl rfl)) rfl rfl hl.1 rfl (lv_room (Nat.le_of_ble_eq_true rfl)) dX0_value_14 ⟨by show _ + _ ≤ 1; omega, by show _ + _ ≤ 6; omega⟩) (fun r14 e14 => ?_)
    have e14 : r14 = ct_b (ct_vl g bv ((Int32.toNatClampNeg x) / 2) ^^ decide ((Int32.toNatClampNeg x) % 2 = 1)) := by
      have h9 := gb_val_n (ar := ar9) (a := (Int32.toNatClampNeg x)) (by omega) (e9.2.2 ((Int32.toNatClampNeg x) / 2) (by omega))
      rw [← hxa.1] at h9
      rw [e14]; exact h9
    refine lv_iconst (v := 1) hx hb dX0_value_17 (by decide) ?_
    refine lv_icmp_ne (tgt := 25) hx hb dX0_value_18 (by decide) (fun c18 => ?_) (fun c18 => ?_)
    · refine lv_iconst (v := 0) hx hb dX0_value_25 (by decide) ?_
      refine W.widen (k := 1) (n := 6) (by omega) (by omega) ?_
      refine vx_ret ?_
      exact W.zret (v := 0) hx hb hr (by decide) (fun t ht hW => ⟨⟨0, (n9, ad9, ar9, iv9), rfl, ⟨e2, by rw [← e14]; exact ct_b_n1 e14 c18, e9.1, e9.2.1⟩, by rw [ht]; exact hP, va_K.moved hW.alike hK, hD⟩, hS.F ht⟩) hS.2.2 dX0_value_26
    · refine lv_iconst (v := 1) hx hb dX0_value_21 (by decide) ?_
      refine lv_goto (tgt := 26) hx hb dX0_value_22 (by decide) ?_
      refine W.widen (k := 1) (n := 6) (by omega) (by omega) ?_
      refine vx_ret ?_
      exact W.zret (v := 1) hx hb hr (by decide) (fun t ht hW => ⟨⟨1, (n9, ad9, ar9, iv9), rfl, ⟨e2, by rw [← e14]; exact c18.symm, e9.1, e9.2.1⟩, by rw [ht]; exact hP, va_K.moved hW.alike hK, hD⟩, hS.F ht⟩) hS.2.2 dX0_value_26
set_option maxHeartbeats 4000000 in
set_option maxRecDepth 100000 in
/-- depth -/
theorem c_depth (l : Launch) (hl9 : l.stackTraces = false) (D : va_G) (h0 : Nat) (cI : ClassId) (n : Nat) (ad : Nat → Nat) (ar : Nat → Nat → Int32) (iv : Nat → Int32) (sz : Nat) (x : Int32) (nc ic : Nat) (g : Ct) (bv : Nat → Bool) (hok : gb_ok n nc ic g bv ar iv) (hmx : nc + 6 ≤ 20000) : vx_Met l yX0_depth wsX0_depth ({ frames := 7, cells := 1, slots := 6, locals := 111 }) (tP D (gW h0 cI n ad ar iv) [(cI, .int)] sz [.ref h0, .int x]) (va_Qi (fun (r : Int32) (u : GS) => (ct_lit nc x ∧ r = nI (ct_dp g ((Int32.toNatClampNeg x) / 2)) ∧ u = (n, ad, ar, iv))) (gb_at D cI (va_A (gW h0 cI n ad ar iv) sz) h0) (va_A (gW h0 cI n ad ar iv) sz)) (gb_xc D cI (va_A (gW h0 cI n ad ar iv) sz) h0 (n, ad, ar, iv) (¬ ct_lit nc x)) (1) (6) (va_A (gW h0 cI n ad ar iv) sz) := by
  refine vx_ofW (cc := cX0_depth) (maxL := 2) (ret := (some .int)) (by decide) rfl ?_
  intro p e s m args below meth c s₁ B hml hnt hv
  obtain ⟨rfl, hsz, hP, hK, hD0, hT⟩ := hv
  have hx := B.exec
  have hb := B.bytes
  have hr := B.returns
  have hts := atoms_spec (ws := wsX0_depth) B.pre
  have hown : s.vm.findClass RX0 = some m.cls := findClass_of_methodNamed B.named
  have hlocks := B.notSynchronized
  have hl := lv_entry ([.ref h0, .int x]) (n := 2) (Nat.le_of_ble_eq_true rfl)
  rw [lg_entry_eq]
  generalize (lg_sl ([.ref h0, .int x]) ++ List.replicate (2 - (lg_sl ([.ref h0, .int x])).length) Slot.unset).toArray = ls at hl ⊢
  have hl : lv_has ls 2 [(0, .ref h0), (1, .int x)] := hl
  subst hsz
  have hD := hD0.self (sz := s.heap.size)
  generalize hAe : va_A (gW h0 cI n ad ar iv) s.heap.size = A at hD hT ⊢
  have hA : ∀ q : Nat, s.heap.size ≤ q → A q := fun q h => by rw [← hAe]; exact Or.inr h
  have hS : va_S A s.heap s.heap [] := va_S.rf
  have hnc := hok.nc
  have hct := hok.ct
  have hwf := hok.wf
  have h16 := hok.n16
  have hle := hct.2.1
  have hb9 := hct.2.2.1
  have hn9 : nc < 2 ^ 30 := by omega
  refine lv_aload_n hx hb dX0_depth_0 rfl (lv_at hl 0 rfl) ?_
  refine lv_iload_n hx hb dX0_depth_1 rfl (lv_at hl 1 rfl) ?_
  have hFc := va_free (wc := (gW h0 cI n ad ar iv)) hD hS hA [0, 1, 2, 3, 4, 5, 6, 7, 8] rfl
  refine vx_callv (vx_runV (As := [.int x]) (rest := []) ⟨hx, hb, hml, hown, hts⟩ (c_needLiteral l hl9 D h0 cI n ad ar iv s.heap.size x nc hnc hn9) (cwV 1 hts gX0_depth_X0_needLiteral rfl rfl rfl (by decide +kernel) ⟨Nat.le_of_ble_eq_true rfl, Nat.le_of_ble_eq_true rfl⟩) (tP_V hK hP hD (va_recv hK hP (ci := 0) (q0 := 0) rfl rfl) hT hS hFc) rfl rfl hl.1 rfl (lv_room (Nat.le_of_ble_eq_true rfl)) dX0_depth_2 ⟨by show _ + _ ≤ 1; omega, by show _ + _ ≤ 6; omega⟩) hS (fun q _ h => hFc q h) hFc (fun q _ h => hFc q h) (fun E ce q9 u t H1 locs ht hvm e2 hB hz1 hk1 hS hcell hcv hcl => ?_) (fun u t H1 locs ht hvm e2 hB hz1 hk1 hS => ?_)
  · obtain ⟨e2, rfl⟩ := e2
    obtain ⟨rfl, hP1, hK1, hD1⟩ := hB
    rw [ht] at hP1
    have hK := va_K.moved hvm.symm hK1
    have hD : va_D A (gW h0 cI n ad ar iv) := hD1.weaken (fun k q _ h => hFc q.1 h)
    exact vx_out (fun x h => (hnt x h).elim) hlocks hcell hcv hcl (fun t' ht' hvm' => ⟨(n, ad, ar, iv), ⟨e2, rfl⟩, ⟨rfl, by rw [ht']; exact hP1, va_K.moved hvm' hK, hD⟩, hS.F ht'⟩) hS.2.2 (by omega) (by omega)
  · obtain ⟨e2, rfl⟩ := e2
    obtain ⟨hP1, hK1, hD1⟩ := hB
    rw [ht] at hP1
    have hK := va_K.moved hvm.symm hK1
    have hP : va_P D vwCl (gW h0 cI n ad ar iv) H1 := hP1
    have hD : va_D A (gW h0 cI n ad ar iv) := hD1.weaken (fun k q _ h => hFc q.1 h)
    clear hP1 hK1 hD1 hk1 hz1 hFc ht
    generalize H1 = H at hP hS ⊢
    have hxa := ct_lit_n e2 hn9
    refine lv_aload_n hx hb dX0_depth_5 rfl (lv_at hl 0 rfl) ?_
    refine va_get (D := D) (ci := 0) (v := .ref (ad 3)) (C := RX0) (T := TX0) (N := 11) hx hb hts inX0 hown hK hP 0 rfl rfl 3 (by decide) (hts _ (mG wm_56)) (fun _ h9 => h9) rfl dX0_depth_6 ?_
    refine lv_iload_n hx hb dX0_depth_9 rfl (lv_at hl 1 rfl) ?_
    refine lv_iconst (v := 1) hx hb dX0_depth_10 (by decide) ?_
    refine lv_ishr hx hb dX0_depth_11 ?_
    refine lv_topi (fun v11 e11 => ?_)
    have e11 : v11 = nI ((Int32.toNatClampNeg x) / 2) := by rw [e11, ← ct_shr (by omega), ← hxa.1]
    have hi12 : vp_in v11 n := by rw [e11]; exact vp_in_nI (by omega) (by omega)
    refine va_iald hx hb hK hP 4 0 rfl rfl hi12 dX0_depth_12 ?_
    refine lv_topi (fun v12 e12 => ?_)
    refine W.widen (k := 1) (n := 6) (by omega) (by omega) ?_
    refine vx_ret ?_
    exact W.iret (v := v12) hx hb hr (fun t ht hW => ⟨⟨v12, (n, ad, ar, iv), rfl, ⟨e2, by rw [e12, e11, nI_clamp (by omega)]; exact hok.dp _ (by omega), rfl⟩, by rw [ht]; exact hP, va_K.moved hW.alike hK, hD⟩, hS.F ht⟩) hS.2.2 dX0_depth_13
set_option maxHeartbeats 4000000 in
set_option maxRecDepth 100000 in
/-- node -/
theorem c_node (l : Launch) (hl9 : l.stackTraces = false) (D : va_G) (h0 : Nat) (cI : ClassId) (n : Nat) (ad : Nat → Nat) (ar : Nat → Nat → Int32) (iv : Nat → Int32) (sz : Nat) (x : Int32) (y : Int32) (nc ic : Nat) (g : Ct) (bv : Nat → Bool) (hok : gb_ok n nc ic g bv ar iv) (hmx : nc + 6 ≤ 20000) : vx_Met l yX0_node wsX0_node ({ frames := 7, cells := 2, slots := 12, locals := 111 }) (tP D (gW h0 cI n ad ar iv) [(cI, .int)] sz [.ref h0, .int x, .int y]) (va_Qi (fun (r : Int32) (u : GS) => ((ct_nod nc x ∧ (y = 0 ∨ y = 1 ∨ y = 2 ∨ y = 3)) ∧ r = ct_nd nc g (Int32.toNatClampNeg x) y ∧ u = (n, ad, ar, iv))) (gb_at D cI (va_A (gW h0 cI n ad ar iv) sz) h0) (va_A (gW h0 cI n ad ar iv) sz)) (gb_xc D cI (va_A (gW h0 cI n ad ar iv) sz) h0 (n, ad, ar, iv) (¬ (ct_nod nc x ∧ (y = 0 ∨ y = 1 ∨ y = 2 ∨ y = 3)))) (2) (12) (va_A (gW h0 cI n ad ar iv) sz) := by
  refine vx_ofW (cc := cX0_node) (maxL := 3) (ret := (some .int)) (by decide) rfl ?_
  intro p e s m args below meth c s₁ B hml hnt hv
  obtain ⟨rfl, hsz, hP, hK, hD0, hT⟩ := hv
  have hx := B.exec
  have hb := B.bytes
  have hr := B.returns
  have hts := atoms_spec (ws := wsX0_node) B.pre
  have hown : s.vm.findClass RX0 = some m.cls := findClass_of_methodNamed B.named
  have hlocks := B.notSynchronized
  have hl := lv_entry ([.ref h0, .int x, .int y]) (n := 3) (Nat.le_of_ble_eq_true rfl)
  rw [lg_entry_eq]
  generalize (lg_sl ([.ref h0, .int x, .int y]) ++ List.replicate (3 - (lg_sl ([.ref h0, .int x, .int y])).length) Slot.unset).toArray = ls at hl ⊢
  have hl : lv_has ls 3 [(0, .ref h0), (1, .int x), (2, .int y)] := hl
  subst hsz
  have hD := hD0.self (sz := s.heap.size)
  generalize hAe : va_A (gW h0 cI n ad ar iv) s.heap.size = A at hD hT ⊢
  have hA : ∀ q : Nat, s.heap.size ≤ q → A q := fun q h => by rw [← hAe]; exact Or.inr h
  have hS : va_S A s.heap s.heap [] := va_S.rf
  have hnc := hok.nc
  have hct := hok.ct
  have hwf := hok.wf
  have h16 := hok.n16
  have hle := hct.2.1
  have hb9 := hct.2.2.1
  have hn9 : nc < 2 ^ 30 := by omega
  refine lv_aload_n hx hb dX0_node_0 rfl (lv_at hl 0 rfl) ?_
  refine lv_iload_n hx hb dX0_node_1 rfl (lv_at hl 1 rfl) ?_
  have hFc := va_free (wc := (gW h0 cI n ad ar iv)) hD hS hA [0, 1, 2, 3, 4, 5, 6, 7, 8] rfl
  refine vx_callv (vx_runV (As := [.int x]) (rest := []) ⟨hx, hb, hml, hown, hts⟩ (c_needNode l hl9 D h0 cI n ad ar iv s.heap.size x nc hnc hn9) (cwV 1 hts gX0_node_X0_needNode rfl rfl rfl (by decide +kernel) ⟨Nat.le_of_ble_eq_true rfl, Nat.le_of_ble_eq_true rfl⟩) (tP_V hK hP hD (va_recv hK hP (ci := 0) (q0 := 0) rfl rfl) hT hS hFc) rfl rfl hl.1 rfl (lv_room (Nat.le_of_ble_eq_true rfl)) dX0_node_2 ⟨by show _ + _ ≤ 2; omega, by show _ + _ ≤ 12; omega⟩) hS (fun q _ h => hFc q h) hFc (fun q _ h => hFc q h) (fun E ce q9 u t H1 locs ht hvm e2 hB hz1 hk1 hS hcell hcv hcl => ?_) (fun u t H1 locs ht hvm e2 hB hz1 hk1 hS => ?_)
  · obtain ⟨e2, rfl⟩ := e2
    obtain ⟨rfl, hP1, hK1, hD1⟩ := hB
    rw [ht] at hP1
    have hK := va_K.moved hvm.symm hK1
    have hD : va_D A (gW h0 cI n ad ar iv) := hD1.weaken (fun k q _ h => hFc q.1 h)
    exact vx_out (fun x h => (hnt x h).elim) hlocks hcell hcv hcl (fun t' ht' hvm' => ⟨(n, ad, ar, iv), ⟨(fun z => e2 z.1), rfl⟩, ⟨rfl, by rw [ht']; exact hP1, va_K.moved hvm' hK, hD⟩, hS.F ht'⟩) hS.2.2 (by omega) (by omega)
  · obtain ⟨e2, rfl⟩ := e2
    obtain ⟨hP1, hK1, hD1⟩ := hB
    rw [ht] at hP1
    have hK := va_K.moved hvm.symm hK1
    have hP : va_P D vwCl (gW h0 cI n ad ar iv) H1 := hP1
    have hD : va_D A (gW h0 cI n ad ar iv) := hD1.weaken (fun k q _ h => hFc q.1 h)
    clear hP1 hK1 hD1 hk1 hz1 hFc ht
    generalize H1 = H at hP hS ⊢
    have hxa := ct_nod_n e2 hn9
    have hi25 : vp_in x n := ct_nod_in e2 hn9 hle hb9
    have hi37 := hi25
    have hi49 := hi25
    have hc11 := hi25
    refine lv_iload_n hx hb dX0_node_5 rfl (lv_at hl 2 rfl) ?_
    refine lv_if_ne (tgt := 15) hx hb dX0_node_6 (by decide) (fun c6 => ?_) (fun c6 => ?_)
    · refine lv_iload_n hx hb dX0_node_15 rfl (lv_at hl 2 rfl) ?_
      refine lv_iconst (v := 1) hx hb dX0_node_16 (by decide) ?_
      refine lv_icmp_ne (tgt := 27) hx hb dX0_node_17 (by decide) (fun c17 => ?_) (fun c17 => ?_)
      · refine lv_iload_n hx hb dX0_node_27 rfl (lv_at hl 2 rfl) ?_
        refine lv_iconst (v := 2) hx hb dX0_node_28 (by decide) ?_
        refine lv_icmp_ne (tgt := 39) hx hb dX0_node_29 (by decide) (fun c29 => ?_) (fun c29 => ?_)
        · refine lv_iload_n hx hb dX0_node_39 rfl (lv_at hl 2 rfl) ?_
          refine lv_iconst (v := 3) hx hb dX0_node_40 (by decide) ?_
          refine lv_icmp_ne (tgt := 51) hx hb dX0_node_41 (by decide) (fun c41 => ?_) (fun c41 => ?_)
          · obtain ⟨sa, hsa⟩ := hT.2.2.2
            exact vx_throwS (cls := IAE) (names := iae_names) (A := A) hx hb hl9 hown (by decide) (by decide) (hts _ (mG wm_207)) (hts _ (mG wm_44)) (hsa (95, "no such thing of a node") (List.mem_of_getElem? (i := 2) rfl)) (hT.hat hts) iae_ot hT.1 hT.2.1 hS (by rw [hml]; exact hl.1) dX0_node_51 dX0_node_54 dX0_node_55 dX0_node_57 dX0_node_60 (fun x h => (hnt x h).elim) (Nat.le_of_ble_eq_true rfl) (Nat.le_of_ble_eq_true rfl) (by show _ + 1 ≤ 2; omega) (by show _ + 6 ≤ 12; omega) hlocks (fun t hvm hz hk => ⟨(n, ad, ar, iv), ⟨(fun z => z.2.elim c6 (fun z => z.elim c17 (fun z => z.elim c29 c41))), rfl⟩, ⟨rfl, gb_kept hP hk, va_K.moved hvm hK, hD⟩, gb_F hS hz hk⟩) hS.2.2 (by omega) (by omega)
          · refine lv_aload_n hx hb dX0_node_44 rfl (lv_at hl 0 rfl) ?_
            refine va_get (D := D) (ci := 0) (v := .ref (ad 2)) (C := RX0) (T := TX0) (N := 11) hx hb hts inX0 hown hK hP 0 rfl rfl 2 (by decide) (hts _ (mG wm_55)) (fun _ h9 => h9) rfl dX0_node_45 ?_
            refine lv_iload_n hx hb dX0_node_48 rfl (lv_at hl 1 rfl) ?_
            refine va_iald hx hb hK hP 3 0 rfl rfl hi49 dX0_node_49 ?_
            refine lv_topi (fun v49 e49 => ?_)
            refine W.widen (k := 2) (n := 12) (by omega) (by omega) ?_
            refine vx_ret ?_
            exact W.iret (v := v49) hx hb hr (fun t ht hW => ⟨⟨v49, (n, ad, ar, iv), rfl, ⟨⟨e2, Or.inr (Or.inr (Or.inr c41))⟩, by rw [e49, ct_nd, if_neg c6, if_neg c17, if_neg c29]; exact hok.us _ (by omega), rfl⟩, by rw [ht]; exact hP, va_K.moved hW.alike hK, hD⟩, hS.F ht⟩) hS.2.2 dX0_node_50
        · refine lv_aload_n hx hb dX0_node_32 rfl (lv_at hl 0 rfl) ?_
          refine va_get (D := D) (ci := 0) (v := .ref (ad 1)) (C := RX0) (T := TX0) (N := 11) hx hb hts inX0 hown hK hP 0 rfl rfl 1 (by decide) (hts _ (mG wm_54)) (fun _ h9 => h9) rfl dX0_node_33 ?_
          refine lv_iload_n hx hb dX0_node_36 rfl (lv_at hl 1 rfl) ?_
          refine va_iald hx hb hK hP 2 0 rfl rfl hi37 dX0_node_37 ?_
          refine lv_topi (fun v37 e37 => ?_)
          refine W.widen (k := 2) (n := 12) (by omega) (by omega) ?_
          refine vx_ret ?_
          exact W.iret (v := v37) hx hb hr (fun t ht hW => ⟨⟨v37, (n, ad, ar, iv), rfl, ⟨⟨e2, Or.inr (Or.inr (Or.inl c29))⟩, by rw [e37, ct_nd, if_neg c6, if_neg c17, if_pos c29]; exact (hct.2.2.2.2 _ hxa.2).2, rfl⟩, by rw [ht]; exact hP, va_K.moved hW.alike hK, hD⟩, hS.F ht⟩) hS.2.2 dX0_node_38
      · refine lv_aload_n hx hb dX0_node_20 rfl (lv_at hl 0 rfl) ?_
        refine va_get (D := D) (ci := 0) (v := .ref (ad 0)) (C := RX0) (T := TX0) (N := 11) hx hb hts inX0 hown hK hP 0 rfl rfl 0 (by decide) (hts _ (mG wm_53)) (fun _ h9 => h9) rfl dX0_node_21 ?_
        refine lv_iload_n hx hb dX0_node_24 rfl (lv_at hl 1 rfl) ?_
        refine va_iald hx hb hK hP 1 0 rfl rfl hi25 dX0_node_25 ?_
        refine lv_topi (fun v25 e25 => ?_)
        refine W.widen (k := 2) (n := 12) (by omega) (by omega) ?_
        refine vx_ret ?_
        exact W.iret (v := v25) hx hb hr (fun t ht hW => ⟨⟨v25, (n, ad, ar, iv), rfl, ⟨⟨e2, Or.inr (Or.inl c17)⟩, by rw [e25, ct_nd, if_neg c6, if_pos c17]; exact (hct.2.2.2.2 _ hxa.2).1, rfl⟩, by rw [ht]; exact hP, va_K.moved hW.alike hK, hD⟩, hS.F ht⟩) hS.2.2 dX0_node_26
    · refine lv_aload_n hx hb dX0_node_9 rfl (lv_at hl 0 rfl) ?_
      refine lv_iload_n hx hb dX0_node_10 rfl (lv_at hl 1 rfl) ?_
      refine vp_callSi (W.runV (As := [.int x]) (rest := []) ⟨hx, hb, hml, hown, hts⟩ (c_kindOf l D h0 cI n ad ar iv x hc11) (cwV 1 hts gX0_node_X0_kindOf rfl rfl rfl (by decide +kernel) ⟨Nat.le_of_ble_eq_true rfl, Nat.le_of_ble_eq_true rfl⟩) (rP_V hK hP (va_recv hK hP (ci := 0) (q0 := 0) rfl rfl)) rfl rfl hl.1 rfl (lv_room (Nat.le_of_ble_eq_true rfl)) dX0_node_11 ⟨by show _ + _ ≤ 2; omega, by show _ + _ ≤ 12; omega⟩) (fun r11 e11 => ?_)
      refine W.widen (k := 2) (n := 12) (by omega) (by omega) ?_
      refine vx_ret ?_
      exact W.iret (v := r11) hx hb hr (fun t ht hW => ⟨⟨r11, (n, ad, ar, iv), rfl, ⟨⟨e2, Or.inl c6⟩, by rw [e11, ct_nd, if_pos c6, hxa.1, nI_clamp (by omega)]; exact gb_kind_n hct hxa.2, rfl⟩, by rw [ht]; exact hP, va_K.moved hW.alike hK, hD⟩, hS.F ht⟩) hS.2.2 dX0_node_14
set_option maxHeartbeats 4000000 in
set_option maxRecDepth 100000 in
/-- set -/
theorem c_set (l : Launch) (hl9 : l.stackTraces = false) (D : va_G) (h0 : Nat) (cI : ClassId) (n : Nat) (ad : Nat → Nat) (ar : Nat → Nat → Int32) (iv : Nat → Int32) (sz : Nat) (x : Int32) (y : Int32) (nc ic : Nat) (g : Ct) (bv : Nat → Bool) (hok : gb_ok n nc ic g bv ar iv) (hmx : nc + 6 ≤ 20000) : vx_Met l yX0_set wsX0_set ({ frames := 8, cells := 2, slots := 12, locals := 132 }) (tP D (gW h0 cI n ad ar iv) [(cI, .int)] sz [.ref h0, .int x, .int y]) (va_Qi (fun (r : Int32) (u : GS) => ((ct_nod nc x ∧ gb_kind ar x = 1) ∧ r = ct_b (bv (Int32.toNatClampNeg x) == decide (y ≠ 0)) ∧ u.1 = n ∧ gb_ok n nc ic g (va_up bv (Int32.toNatClampNeg x) (decide (y ≠ 0))) u.2.2.1 u.2.2.2)) (gb_at D cI (va_A (gW h0 cI n ad ar iv) sz) h0) (va_A (gW h0 cI n ad ar iv) sz)) (gb_xc D cI (va_A (gW h0 cI n ad ar iv) sz) h0 (n, ad, ar, iv) (¬ (ct_nod nc x ∧ gb_kind ar x = 1))) (2) (12) (va_A (gW h0 cI n ad ar iv) sz) := by
  refine vx_ofW (cc := cX0_set) (maxL := 4) (ret := (some .boolean)) (by decide) rfl ?_
  intro p e s m args below meth c s₁ B hml hnt hv
  obtain ⟨rfl, hsz, hP, hK, hD0, hT⟩ := hv
  have hx := B.exec
  have hb := B.bytes
  have hr := B.returns
  have hts := atoms_spec (ws := wsX0_set) B.pre
  have hown : s.vm.findClass RX0 = some m.cls := findClass_of_methodNamed B.named
  have hlocks := B.notSynchronized
  have hl := lv_entry ([.ref h0, .int x, .int y]) (n := 4) (Nat.le_of_ble_eq_true rfl)
  rw [lg_entry_eq]
  generalize (lg_sl ([.ref h0, .int x, .int y]) ++ List.replicate (4 - (lg_sl ([.ref h0, .int x, .int y])).length) Slot.unset).toArray = ls at hl ⊢
  have hl : lv_has ls 4 [(0, .ref h0), (1, .int x), (2, .int y)] := hl
  subst hsz
  have hD := hD0.self (sz := s.heap.size)
  generalize hAe : va_A (gW h0 cI n ad ar iv) s.heap.size = A at hD hT ⊢
  have hA : ∀ q : Nat, s.heap.size ≤ q → A q := fun q h => by rw [← hAe]; exact Or.inr h
  have hS : va_S A s.heap s.heap [] := va_S.rf
  have hnc := hok.nc
  have hct := hok.ct
  have hwf := hok.wf
  have h16 := hok.n16
  have hle := hct.2.1
  have hb9 := hct.2.2.1
  have hn9 : nc < 2 ^ 30 := by omega
  refine lv_aload_n hx hb dX0_set_0 rfl (lv_at hl 0 rfl) ?_
  refine lv_iload_n hx hb dX0_set_1 rfl (lv_at hl 1 rfl) ?_
  have hFc := va_free (wc := (gW h0 cI n ad ar iv)) hD hS hA [0, 1, 2, 3, 4, 5, 6, 7, 8] rfl
  refine vx_callv (vx_runV (As := [.int x]) (rest := []) ⟨hx, hb, hml, hown, hts⟩ (c_needInput l hl9 D h0 cI n ad ar iv s.heap.size x nc hnc hn9 hle hb9) (cwV 1 hts gX0_set_X0_needInput rfl rfl rfl (by decide +kernel) ⟨Nat.le_of_ble_eq_true rfl, Nat.le_of_ble_eq_true rfl⟩) (tP_V hK hP hD (va_recv hK hP (ci := 0) (q0 := 0) rfl rfl) hT hS hFc) rfl rfl hl.1 rfl (lv_room (Nat.le_of_ble_eq_true rfl)) dX0_set_2 ⟨by show _ + _ ≤ 2; omega, by show _ + _ ≤ 12; omega⟩) hS (fun q _ h => hFc q h) hFc (fun q _ h => hFc q h) (fun E ce q9 u t H1 locs ht hvm e2 hB hz1 hk1 hS hcell hcv hcl => ?_) (fun u t H1 locs ht hvm e2 hB hz1 hk1 hS => ?_)
  · obtain ⟨e2, rfl⟩ := e2
    obtain ⟨rfl, hP1, hK1, hD1⟩ := hB
    rw [ht] at hP1
    have hK := va_K.moved hvm.symm hK1
    have hD : va_D A (gW h0 cI n ad ar iv) := hD1.weaken (fun k q _ h => hFc q.1 h)
    exact vx_out (fun x h => (hnt x h).elim) hlocks hcell hcv hcl (fun t' ht' hvm' => ⟨(n, ad, ar, iv), ⟨e2, rfl⟩, ⟨rfl, by rw [ht']; exact hP1, va_K.moved hvm' hK, hD⟩, hS.F ht'⟩) hS.2.2 (by omega) (by omega)
  · obtain ⟨e2, rfl⟩ := e2
    obtain ⟨hP1, hK1, hD1⟩ := hB
    rw [ht] at hP1
    have hK := va_K.moved hvm.symm hK1
    have hP : va_P D vwCl (gW h0 cI n ad ar iv) H1 := hP1
    have hD : va_D A (gW h0 cI n ad ar iv) := hD1.weaken (fun k q _ h => hFc q.1 h)
    clear hP1 hK1 hD1 hk1 hz1 hFc ht
    generalize H1 = H at hP hS ⊢
    have hxa := ct_nod_n e2.1 hn9
    have hi20 : vp_in x n := ct_nod_in e2.1 hn9 hle hb9
    have hi33 := hi20
    have hkin := gb_kind_i hct hxa.2 (by rw [← hxa.1]; exact e2.2)
    have hx0 := hkin.1
    have hxi := hkin.2
    obtain ⟨st, s1, s2, s3, s4⟩ := hok.st
    refine lv_iload_n hx hb dX0_set_5 rfl (lv_at hl 2 rfl) ?_
    refine lv_if_eq (tgt := 13) hx hb dX0_set_6 (by decide) (fun c6 => ?_) (fun c6 => ?_)
    · refine lv_iconst (v := 0) hx hb dX0_set_13 (by decide) ?_
      have hon : ct_b (decide (y ≠ 0)) = 0 := by rw [c6]; rfl
      refine lv_istore_n (lv' := [(3, .int 0), (0, .ref h0), (1, .int x), (2, .int y)]) hx hb dX0_set_14 rfl hl (by decide) rfl (fun ls hl => ?_)
      refine lv_aload_n hx hb dX0_set_15 rfl (lv_at hl 1 rfl) ?_
      refine va_get (D := D) (ci := 0) (v := .ref (ad 4)) (C := RX0) (T := TX0) (N := 11) hx hb hts inX0 hown hK hP 0 rfl rfl 4 (by decide) (hts _ (mG wm_57)) (fun _ h9 => h9) rfl dX0_set_16 ?_
      refine lv_iload_n hx hb dX0_set_19 rfl (lv_at hl 2 rfl) ?_
      refine va_iald hx hb hK hP 5 0 rfl rfl hi20 dX0_set_20 ?_
      refine lv_topi (fun v20 e20 => ?_)
      have e20 : v20 = ct_b (bv (Int32.toNatClampNeg x)) := by rw [e20]; exact hok.vi _ (by omega) hxi
      refine lv_iload_n hx hb dX0_set_21 rfl (lv_at hl 0 rfl) ?_
      refine lv_icmp_ne (tgt := 27) hx hb dX0_set_22 (by decide) (fun c22 => ?_) (fun c22 => ?_)
      · have hbv : ¬ bv (Int32.toNatClampNeg x) = decide (y ≠ 0) := fun z => c22 (by rw [e20, z, hon])
        have hdiff : (0 : Int32) = ct_b (bv (Int32.toNatClampNeg x) == decide (y ≠ 0)) := by
          cases h1 : bv (Int32.toNatClampNeg x) <;> cases h2 : decide (y ≠ 0) <;> first | rfl | exact absurd (h1.trans h2.symm) hbv
        refine lv_aload_n hx hb dX0_set_27 rfl (lv_at hl 1 rfl) ?_
        refine va_get (D := D) (ci := 0) (v := .ref (ad 4)) (C := RX0) (T := TX0) (N := 11) hx hb hts inX0 hown hK hP 0 rfl rfl 4 (by decide) (hts _ (mG wm_57)) (fun _ h9 => h9) rfl dX0_set_28 ?_
        refine lv_iload_n hx hb dX0_set_31 rfl (lv_at hl 2 rfl) ?_
        refine lv_iload_n hx hb dX0_set_32 rfl (lv_at hl 0 rfl) ?_
        refine va_iast hx hb hK hP hD hS 5 0 rfl rfl hi33 dX0_set_33 (fun H locs hP hD hS => ?_)
        obtain ⟨ar33, e33⟩ : ∃ zz : Nat → Nat → Int32, zz = va_up ar 4 (upd (ar 4) (Int32.toNatClampNeg x) 0) := ⟨_, rfl⟩
        have hP : va_P D vwCl (gW h0 cI n ad ar33 iv) H := by rw [e33]; exact hP
        have hD : va_D A (gW h0 cI n ad ar33 iv) := by rw [e33]; exact hD
        rw [← hon] at e33
        refine lv_aload_n hx hb dX0_set_34 rfl (lv_at hl 1 rfl) ?_
        refine lv_aload_n hx hb dX0_set_35 rfl (lv_at hl 1 rfl) ?_
        refine va_get (D := D) (ci := 0) (v := .int (iv 2)) (C := RX0) (T := TX0) (N := 11) hx hb hts inX0 hown hK hP 0 rfl rfl 10 (by decide) (hts _ (mG wm_63)) (fun _ h9 => h9) rfl dX0_set_36 ?_
        refine lv_iload_n hx hb dX0_set_39 rfl (lv_at hl 2 rfl) ?_
        refine lv_iconst (v := 1) hx hb dX0_set_40 (by decide) ?_
        refine lv_iadd hx hb dX0_set_41 ?_
        refine lv_topi (fun v41 e41 => ?_)
        refine va_mmin hx hb (by rw [hml]; exact hl.1.symm) hown (hts _ (mG wm_227)) (hts _ (mG wm_190)) (hts _ (mG wm_42)) (hts _ (mG wm_191)) (Nat.le_of_ble_eq_true rfl) (Nat.le_of_ble_eq_true rfl) (by show _ ≤ 2; omega) (by show _ ≤ 12; omega) dX0_set_42 ?_
        refine lv_topi (fun v42 e42 => ?_)
        have e42 : v42 = nI (min st ((Int32.toNatClampNeg x) + 1)) := by rw [e42, s1, e41, hxa.1, nI_1, nI_clamp (by omega)]; exact ct_imin (by omega) (by omega)
        refine va_put (D := D) (ci := 0) (v := .int v42) (ty := .int) (C := RX0) (T := TX0) (N := 11) hx hb hts inX0 tyX0 tyX0_ok nmX0 hown hK hP hD hS 0 rfl rfl 10 (by decide) (hts _ (mG wm_63)) (fun _ h9 => h9) rfl (by decide +kernel) rfl rfl (Nat.le_of_ble_eq_true rfl) dX0_set_45 (fun H locs hP hD hS => ?_)
        obtain ⟨iv45, e45⟩ : ∃ zz : Nat → Int32, zz = va_up iv 2 v42 := ⟨_, rfl⟩
        have hP : va_P D vwCl (gW h0 cI n ad ar33 iv45) H := by rw [e45]; exact hP
        have hD : va_D A (gW h0 cI n ad ar33 iv45) := by rw [e45]; exact hD
        refine lv_iconst (v := 0) hx hb dX0_set_48 (by decide) ?_
        refine W.widen (k := 2) (n := 12) (by omega) (by omega) ?_
        refine vx_ret ?_
        exact W.zret (v := 0) hx hb hr (by decide) (fun t ht hW => ⟨⟨0, (n, ad, ar33, iv45), rfl, ⟨e2, hdiff, rfl, gb_ok_set hok hxi hx0 hxa.2 e33 s2 s3 s4 (by rw [e45, e42])⟩, by rw [ht]; exact hP, va_K.moved hW.alike hK, hD⟩, hS.F ht⟩) hS.2.2 dX0_set_49
      · have hbv : bv (Int32.toNatClampNeg x) = decide (y ≠ 0) := ct_b_inj (by rw [← e20, hon]; exact c22)
        have hsame : (1 : Int32) = ct_b (bv (Int32.toNatClampNeg x) == decide (y ≠ 0)) := by rw [hbv]; simp [ct_b]
        have hokS : gb_ok n nc ic g (va_up bv (Int32.toNatClampNeg x) (decide (y ≠ 0))) ar iv := by rw [ct_up_same hbv]; exact hok
        refine lv_iconst (v := 1) hx hb dX0_set_25 (by decide) ?_
        refine W.widen (k := 2) (n := 12) (by omega) (by omega) ?_
        refine vx_ret ?_
        exact W.zret (v := 1) hx hb hr (by decide) (fun t ht hW => ⟨⟨1, (n, ad, ar, iv), rfl, ⟨e2, hsame, rfl, hokS⟩, by rw [ht]; exact hP, va_K.moved hW.alike hK, hD⟩, hS.F ht⟩) hS.2.2 dX0_set_26
    · refine lv_iconst (v := 1) hx hb dX0_set_9 (by decide) ?_
      refine lv_goto (tgt := 14) hx hb dX0_set_10 (by decide) ?_
      have hon : ct_b (decide (y ≠ 0)) = 1 := by simp [c6, ct_b]
      refine lv_istore_n (lv' := [(3, .int 1), (0, .ref h0), (1, .int x), (2, .int y)]) hx hb dX0_set_14 rfl hl (by decide) rfl (fun ls hl => ?_)
      refine lv_aload_n hx hb dX0_set_15 rfl (lv_at hl 1 rfl) ?_
      refine va_get (D := D) (ci := 0) (v := .ref (ad 4)) (C := RX0) (T := TX0) (N := 11) hx hb hts inX0 hown hK hP 0 rfl rfl 4 (by decide) (hts _ (mG wm_57)) (fun _ h9 => h9) rfl dX0_set_16 ?_
      refine lv_iload_n hx hb dX0_set_19 rfl (lv_at hl 2 rfl) ?_
      refine va_iald hx hb hK hP 5 0 rfl rfl hi20 dX0_set_20 ?_
      refine lv_topi (fun v20 e20 => ?_)
      have e20 : v20 = ct_b (bv (Int32.toNatClampNeg x)) := by rw [e20]; exact hok.vi _ (by omega) hxi
      refine lv_iload_n hx hb dX0_set_21 rfl (lv_at hl 0 rfl) ?_
      refine lv_icmp_ne (tgt := 27) hx hb dX0_set_22 (by decide) (fun c22 => ?_) (fun c22 => ?_)
      · have hbv : ¬ bv (Int32.toNatClampNeg x) = decide (y ≠ 0) := fun z => c22 (by rw [e20, z, hon])
        have hdiff : (0 : Int32) = ct_b (bv (Int32.toNatClampNeg x) == decide (y ≠ 0)) := by
          cases h1 : bv (Int32.toNatClampNeg x) <;> cases h2 : decide (y ≠ 0) <;> first | rfl | exact absurd (h1.trans h2.symm) hbv
        refine lv_aload_n hx hb dX0_set_27 rfl (lv_at hl 1 rfl) ?_
        refine va_get (D := D) (ci := 0) (v := .ref (ad 4)) (C := RX0) (T := TX0) (N := 11) hx hb hts inX0 hown hK hP 0 rfl rfl 4 (by decide) (hts _ (mG wm_57)) (fun _ h9 => h9) rfl dX0_set_28 ?_
        refine lv_iload_n hx hb dX0_set_31 rfl (lv_at hl 2 rfl) ?_
        refine lv_iload_n hx hb dX0_set_32 rfl (lv_at hl 0 rfl) ?_
        refine va_iast hx hb hK hP hD hS 5 0 rfl rfl hi33 dX0_set_33 (fun H locs hP hD hS => ?_)
        obtain ⟨ar33, e33⟩ : ∃ zz : Nat → Nat → Int32, zz = va_up ar 4 (upd (ar 4) (Int32.toNatClampNeg x) 1) := ⟨_, rfl⟩
        have hP : va_P D vwCl (gW h0 cI n ad ar33 iv) H := by rw [e33]; exact hP
        have hD : va_D A (gW h0 cI n ad ar33 iv) := by rw [e33]; exact hD
        rw [← hon] at e33
        refine lv_aload_n hx hb dX0_set_34 rfl (lv_at hl 1 rfl) ?_
        refine lv_aload_n hx hb dX0_set_35 rfl (lv_at hl 1 rfl) ?_
        refine va_get (D := D) (ci := 0) (v := .int (iv 2)) (C := RX0) (T := TX0) (N := 11) hx hb hts inX0 hown hK hP 0 rfl rfl 10 (by decide) (hts _ (mG wm_63)) (fun _ h9 => h9) rfl dX0_set_36 ?_
        refine lv_iload_n hx hb dX0_set_39 rfl (lv_at hl 2 rfl) ?_
        refine lv_iconst (v := 1) hx hb dX0_set_40 (by decide) ?_
        refine lv_iadd hx hb dX0_set_41 ?_
        refine lv_topi (fun v41 e41 => ?_)
        refine va_mmin hx hb (by rw [hml]; exact hl.1.symm) hown (hts _ (mG wm_227)) (hts _ (mG wm_190)) (hts _ (mG wm_42)) (hts _ (mG wm_191)) (Nat.le_of_ble_eq_true rfl) (Nat.le_of_ble_eq_true rfl) (by show _ ≤ 2; omega) (by show _ ≤ 12; omega) dX0_set_42 ?_
        refine lv_topi (fun v42 e42 => ?_)
        have e42 : v42 = nI (min st ((Int32.toNatClampNeg x) + 1)) := by rw [e42, s1, e41, hxa.1, nI_1, nI_clamp (by omega)]; exact ct_imin (by omega) (by omega)
        refine va_put (D := D) (ci := 0) (v := .int v42) (ty := .int) (C := RX0) (T := TX0) (N := 11) hx hb hts inX0 tyX0 tyX0_ok nmX0 hown hK hP hD hS 0 rfl rfl 10 (by decide) (hts _ (mG wm_63)) (fun _ h9 => h9) rfl (by decide +kernel) rfl rfl (Nat.le_of_ble_eq_true rfl) dX0_set_45 (fun H locs hP hD hS => ?_)
        obtain ⟨iv45, e45⟩ : ∃ zz : Nat → Int32, zz = va_up iv 2 v42 := ⟨_, rfl⟩
        have hP : va_P D vwCl (gW h0 cI n ad ar33 iv45) H := by rw [e45]; exact hP
        have hD : va_D A (gW h0 cI n ad ar33 iv45) := by rw [e45]; exact hD
        refine lv_iconst (v := 0) hx hb dX0_set_48 (by decide) ?_
        refine W.widen (k := 2) (n := 12) (by omega) (by omega) ?_
        refine vx_ret ?_
        exact W.zret (v := 0) hx hb hr (by decide) (fun t ht hW => ⟨⟨0, (n, ad, ar33, iv45), rfl, ⟨e2, hdiff, rfl, gb_ok_set hok hxi hx0 hxa.2 e33 s2 s3 s4 (by rw [e45, e42])⟩, by rw [ht]; exact hP, va_K.moved hW.alike hK, hD⟩, hS.F ht⟩) hS.2.2 dX0_set_49
      · have hbv : bv (Int32.toNatClampNeg x) = decide (y ≠ 0) := ct_b_inj (by rw [← e20, hon]; exact c22)
        have hsame : (1 : Int32) = ct_b (bv (Int32.toNatClampNeg x) == decide (y ≠ 0)) := by rw [hbv]; simp [ct_b]
        have hokS : gb_ok n nc ic g (va_up bv (Int32.toNatClampNeg x) (decide (y ≠ 0))) ar iv := by rw [ct_up_same hbv]; exact hok
        refine lv_iconst (v := 1) hx hb dX0_set_25 (by decide) ?_
        refine W.widen (k := 2) (n := 12) (by omega) (by omega) ?_
        refine vx_ret ?_
        exact W.zret (v := 1) hx hb hr (by decide) (fun t ht hW => ⟨⟨1, (n, ad, ar, iv), rfl, ⟨e2, hsame, rfl, hokS⟩, by rw [ht]; exact hP, va_K.moved hW.alike hK, hD⟩, hS.F ht⟩) hS.2.2 dX0_set_26
set_option maxHeartbeats 4000000 in
set_option maxRecDepth 100000 in
/-- below -/
theorem c_below (l : Launch) (hl9 : l.stackTraces = false) (D : va_G) (h0 : Nat) (cI : ClassId) (n : Nat) (ad : Nat → Nat) (ar : Nat → Nat → Int32) (iv : Nat → Int32) (sz : Nat) (x : Int32) (y : Int32) (nc ic : Nat) (g : Ct) (bv : Nat → Bool) (hok : gb_ok n nc ic g bv ar iv) (hmx : nc + 6 ≤ 20000) : vx_Met l yX0_below wsX0_below ({ frames := 8, cells := 3, slots := 18, locals := 132 }) (tP D (gW h0 cI n ad ar iv) [(cI, .int)] sz [.ref h0, .int x, .int y]) (va_Qi (fun (r : Int32) (u : GS) => (((ct_nod nc x ∧ gb_kind ar x = 1) ∧ ct_lit nc y) ∧ r = ct_b (ct_in g ((Int32.toNatClampNeg y) / 2) (Int32.toNatClampNeg x)) ∧ u.1 = n ∧ gb_ok n nc ic g bv u.2.2.1 u.2.2.2)) (gb_at D cI (va_A (gW h0 cI n ad ar iv) sz) h0) (va_A (gW h0 cI n ad ar iv) sz)) (gb_xc D cI (va_A (gW h0 cI n ad ar iv) sz) h0 (n, ad, ar, iv) (¬ ((ct_nod nc x ∧ gb_kind ar x = 1) ∧ ct_lit nc y))) (3) (18) (va_A (gW h0 cI n ad ar iv) sz) := by
  refine vx_ofW (cc := cX0_below) (maxL := 4) (ret := (some .boolean)) (by decide) rfl ?_
  intro p e s m args below meth c s₁ B hml hnt hv
  obtain ⟨rfl, hsz, hP, hK, hD0, hT⟩ := hv
  have hx := B.exec
  have hb := B.bytes
  have hr := B.returns
  have hts := atoms_spec (ws := wsX0_below) B.pre
  have hown : s.vm.findClass RX0 = some m.cls := findClass_of_methodNamed B.named
  have hlocks := B.notSynchronized
  have hl := lv_entry ([.ref h0, .int x, .int y]) (n := 4) (Nat.le_of_ble_eq_true rfl)
  rw [lg_entry_eq]
  generalize (lg_sl ([.ref h0, .int x, .int y]) ++ List.replicate (4 - (lg_sl ([.ref h0, .int x, .int y])).length) Slot.unset).toArray = ls at hl ⊢
  have hl : lv_has ls 4 [(0, .ref h0), (1, .int x), (2, .int y)] := hl
  subst hsz
  have hD := hD0.self (sz := s.heap.size)
  generalize hAe : va_A (gW h0 cI n ad ar iv) s.heap.size = A at hD hT ⊢
  have hA : ∀ q : Nat, s.heap.size ≤ q → A q := fun q h => by rw [← hAe]; exact Or.inr h
  have hS : va_S A s.heap s.heap [] := va_S.rf
  have hnc := hok.nc
  have hct := hok.ct
  have hwf := hok.wf
  have h16 := hok.n16
  have hle := hct.2.1
  have hb9 := hct.2.2.1
  have hn9 : nc < 2 ^ 30 := by omega
  refine lv_aload_n hx hb dX0_below_0 rfl (lv_at hl 0 rfl) ?_
  refine lv_iload_n hx hb dX0_below_1 rfl (lv_at hl 1 rfl) ?_
  have hFc := va_free (wc := (gW h0 cI n ad ar iv)) hD hS hA [0, 1, 2, 3, 4, 5, 6, 7, 8] rfl
  refine vx_callv (vx_runV (As := [.int x]) (rest := []) ⟨hx, hb, hml, hown, hts⟩ (c_needInput l hl9 D h0 cI n ad ar iv s.heap.size x nc hnc hn9 hle hb9) (cwV 1 hts gX0_below_X0_needInput rfl rfl rfl (by decide +kernel) ⟨Nat.le_of_ble_eq_true rfl, Nat.le_of_ble_eq_true rfl⟩) (tP_V hK hP hD (va_recv hK hP (ci := 0) (q0 := 0) rfl rfl) hT hS hFc) rfl rfl hl.1 rfl (lv_room (Nat.le_of_ble_eq_true rfl)) dX0_below_2 ⟨by show _ + _ ≤ 3; omega, by show _ + _ ≤ 18; omega⟩) hS (fun q _ h => hFc q h) hFc (fun q _ h => hFc q h) (fun E ce q9 u t H1 locs ht hvm e2 hB hz1 hk1 hS hcell hcv hcl => ?_) (fun u t H1 locs ht hvm e2 hB hz1 hk1 hS => ?_)
  · obtain ⟨e2, rfl⟩ := e2
    obtain ⟨rfl, hP1, hK1, hD1⟩ := hB
    rw [ht] at hP1
    have hK := va_K.moved hvm.symm hK1
    have hD : va_D A (gW h0 cI n ad ar iv) := hD1.weaken (fun k q _ h => hFc q.1 h)
    exact vx_out (fun x h => (hnt x h).elim) hlocks hcell hcv hcl (fun t' ht' hvm' => ⟨(n, ad, ar, iv), ⟨(fun z => e2 z.1), rfl⟩, ⟨rfl, by rw [ht']; exact hP1, va_K.moved hvm' hK, hD⟩, hS.F ht'⟩) hS.2.2 (by omega) (by omega)
  · obtain ⟨e2, rfl⟩ := e2
    obtain ⟨hP1, hK1, hD1⟩ := hB
    rw [ht] at hP1
    have hK := va_K.moved hvm.symm hK1
    have hP : va_P D vwCl (gW h0 cI n ad ar iv) H1 := hP1
    have hD : va_D A (gW h0 cI n ad ar iv) := hD1.weaken (fun k q _ h => hFc q.1 h)
    clear hP1 hK1 hD1 hk1 hz1 hFc ht
    generalize H1 = H at hP hS ⊢
    refine lv_aload_n hx hb dX0_below_5 rfl (lv_at hl 0 rfl) ?_
    refine lv_iload_n hx hb dX0_below_6 rfl (lv_at hl 2 rfl) ?_
    have hFc := va_free (wc := (gW h0 cI n ad ar iv)) hD hS hA [0, 1, 2, 3, 4, 5, 6, 7, 8] rfl
    refine vx_callv (vx_runV (As := [.int y]) (rest := []) ⟨hx, hb, hml, hown, hts⟩ (c_needLiteral l hl9 D h0 cI n ad ar iv H.size y nc hnc hn9) (cwV 1 hts gX0_below_X0_needLiteral rfl rfl rfl (by decide +kernel) ⟨Nat.le_of_ble_eq_true rfl, Nat.le_of_ble_eq_true rfl⟩) (tP_V hK hP hD (va_recv hK hP (ci := 0) (q0 := 0) rfl rfl) hT hS hFc) rfl rfl hl.1 rfl (lv_room (Nat.le_of_ble_eq_true rfl)) dX0_below_7 ⟨by show _ + _ ≤ 3; omega, by show _ + _ ≤ 18; omega⟩) hS (fun q _ h => hFc q h) hFc (fun q _ h => hFc q h) (fun E ce q9 u t H1 locs ht hvm e7 hB hz1 hk1 hS hcell hcv hcl => ?_) (fun u t H1 locs ht hvm e7 hB hz1 hk1 hS => ?_)
    · obtain ⟨e7, rfl⟩ := e7
      obtain ⟨rfl, hP1, hK1, hD1⟩ := hB
      rw [ht] at hP1
      have hK := va_K.moved hvm.symm hK1
      have hD : va_D A (gW h0 cI n ad ar iv) := hD1.weaken (fun k q _ h => hFc q.1 h)
      exact vx_out (fun x h => (hnt x h).elim) hlocks hcell hcv hcl (fun t' ht' hvm' => ⟨(n, ad, ar, iv), ⟨(fun z => e7 z.2), rfl⟩, ⟨rfl, by rw [ht']; exact hP1, va_K.moved hvm' hK, hD⟩, hS.F ht'⟩) hS.2.2 (by omega) (by omega)
    · obtain ⟨e7, rfl⟩ := e7
      obtain ⟨hP1, hK1, hD1⟩ := hB
      rw [ht] at hP1
      have hK := va_K.moved hvm.symm hK1
      have hP : va_P D vwCl (gW h0 cI n ad ar iv) H1 := hP1
      have hD : va_D A (gW h0 cI n ad ar iv) := hD1.weaken (fun k q _ h => hFc q.1 h)
      clear hP1 hK1 hD1 hk1 hz1 hFc ht
      generalize H1 = H at hP hS ⊢
      have hxa := ct_nod_n e2.1 hn9
      have hya := ct_lit_n e7 hn9
      obtain ⟨top, htop⟩ : ∃ z : Nat, z = (Int32.toNatClampNeg y) / 2 := ⟨_, rfl⟩
      refine lv_iload_n hx hb dX0_below_10 rfl (lv_at hl 2 rfl) ?_
      refine lv_iconst (v := 1) hx hb dX0_below_11 (by decide) ?_
      refine lv_ishr hx hb dX0_below_12 ?_
      refine lv_topi (fun v12 e12 => ?_)
      have e12 : v12 = nI top := by rw [e12, hya.1, ct_shr (by omega), htop]
      refine lv_istore_n (lv' := [(3, .int v12), (0, .ref h0), (1, .int x), (2, .int y)]) hx hb dX0_below_13 rfl hl (by decide) rfl (fun ls hl => ?_)
      refine lv_iload_n hx hb dX0_below_14 rfl (lv_at hl 2 rfl) ?_
      refine lv_iload_n hx hb dX0_below_15 rfl (lv_at hl 0 rfl) ?_
      refine lv_icmp_le (tgt := 21) hx hb dX0_below_16 (by decide) (fun c16 => ?_) (fun c16 => ?_)
      · have c16 : (Int32.toNatClampNeg x) ≤ top := by
          rw [e12, hxa.1] at c16
          exact (nI_leI (by omega) (by omega)).mp c16
        have hxm := e12
        refine lv_aload_n hx hb dX0_below_21 rfl (lv_at hl 1 rfl) ?_
        refine lv_iload_n hx hb dX0_below_22 rfl (lv_at hl 0 rfl) ?_
        have hFc := va_free (wc := (gW h0 cI n ad ar iv)) hD hS hA [0, 1, 2, 3, 4, 5, 6, 7, 8] rfl
        refine va_callv (va_runV (As := [.int v12]) (rest := []) ⟨hx, hb, hml, hown, hts⟩ (c_markUnder l D h0 cI n ad ar iv H.size v12 top nc ic g bv hxm (by omega) hok) (cwV 1 hts gX0_below_X0_markUnder rfl rfl rfl (by decide +kernel) ⟨Nat.le_of_ble_eq_true rfl, Nat.le_of_ble_eq_true rfl⟩) (mP_V hK hP hD (va_recv hK hP (ci := 0) (q0 := 0) rfl rfl)) rfl rfl hl.1 rfl (lv_room (Nat.le_of_ble_eq_true rfl)) dX0_below_23 ⟨by show _ + _ ≤ 3; omega, by show _ + _ ≤ 18; omega⟩) hS (fun q _ h => hFc q h) hFc (fun u t H1 locs ht hvm e23 hB hz1 hk1 hS => ?_)
        obtain ⟨n23, ad23, ar23, iv23⟩ := u
        obtain ⟨hP1, hK1, hD1⟩ := hB
        rw [ht] at hP1
        have hK := va_K.moved hvm.symm hK1
        have hP : va_P D vwCl (gW h0 cI n23 ad23 ar23 iv23) H1 := hP1
        have hD : va_D A (gW h0 cI n23 ad23 ar23 iv23) := hD1.weaken (fun k q _ h => hFc q.1 h)
        clear hP1 hK1 hD1 hk1 hz1 hFc ht
        generalize H1 = H at hP hS ⊢
        try dsimp only at e23
        have hi31 : vp_in x n23 := by rw [e23.1, hxa.1]; exact vp_in_nI (by omega) (by omega)
        refine lv_aload_n hx hb dX0_below_26 rfl (lv_at hl 1 rfl) ?_
        refine va_get (D := D) (ci := 0) (v := .ref (ad23 5)) (C := RX0) (T := TX0) (N := 11) hx hb hts inX0 hown hK hP 0 rfl rfl 5 (by decide) (hts _ (mG wm_58)) (fun _ h9 => h9) rfl dX0_below_27 ?_
        refine lv_iload_n hx hb dX0_below_30 rfl (lv_at hl 2 rfl) ?_
        refine va_iald hx hb hK hP 6 0 rfl rfl hi31 dX0_below_31 ?_
        refine lv_topi (fun v31 e31 => ?_)
        have e31 : v31 = ct_b (ct_in g ((Int32.toNatClampNeg y) / 2) (Int32.toNatClampNeg x)) := by rw [e31, ← htop]; exact e23.2.2.2 _ c16
        refine lv_iconst (v := 1) hx hb dX0_below_32 (by decide) ?_
        refine lv_icmp_ne (tgt := 40) hx hb dX0_below_33 (by decide) (fun c33 => ?_) (fun c33 => ?_)
        · refine lv_iconst (v := 0) hx hb dX0_below_40 (by decide) ?_
          refine W.widen (k := 3) (n := 18) (by omega) (by omega) ?_
          refine vx_ret ?_
          exact W.zret (v := 0) hx hb hr (by decide) (fun t ht hW => ⟨⟨0, (n23, ad23, ar23, iv23), rfl, ⟨⟨e2, e7⟩, by rw [← e31]; exact ct_b_n1 e31 c33, e23.1, gb_ok_mark hok e23.2.2.1 e23.2.1⟩, by rw [ht]; exact hP, va_K.moved hW.alike hK, hD⟩, hS.F ht⟩) hS.2.2 dX0_below_41
        · refine lv_iconst (v := 1) hx hb dX0_below_36 (by decide) ?_
          refine lv_goto (tgt := 41) hx hb dX0_below_37 (by decide) ?_
          refine W.widen (k := 3) (n := 18) (by omega) (by omega) ?_
          refine vx_ret ?_
          exact W.zret (v := 1) hx hb hr (by decide) (fun t ht hW => ⟨⟨1, (n23, ad23, ar23, iv23), rfl, ⟨⟨e2, e7⟩, by rw [← e31]; exact c33.symm, e23.1, gb_ok_mark hok e23.2.2.1 e23.2.1⟩, by rw [ht]; exact hP, va_K.moved hW.alike hK, hD⟩, hS.F ht⟩) hS.2.2 dX0_below_41
      · have c16 : top < (Int32.toNatClampNeg x) := by
          rw [e12, hxa.1] at c16
          exact Nat.not_le.mp fun z => c16 (nI_le z (by omega))
        refine lv_iconst (v := 0) hx hb dX0_below_19 (by decide) ?_
        refine W.widen (k := 3) (n := 18) (by omega) (by omega) ?_
        refine vx_ret ?_
        exact W.zret (v := 0) hx hb hr (by decide) (fun t ht hW => ⟨⟨0, (n, ad, ar, iv), rfl, ⟨⟨e2, e7⟩, by rw [ct_in_gt hwf (by omega)]; rfl, rfl, hok⟩, by rw [ht]; exact hP, va_K.moved hW.alike hK, hD⟩, hS.F ht⟩) hS.2.2 dX0_below_20
set_option maxHeartbeats 4000000 in
set_option maxRecDepth 100000 in
/-- nodes -/
theorem c_nodes (l : Launch) (D : va_G) (h0 : Nat) (cI : ClassId) (n : Nat) (ad : Nat → Nat) (ar : Nat → Nat → Int32) (iv : Nat → Int32)   : Met l yX0_nodes wsX0_nodes ({ frames := 0, cells := 0, slots := 0, locals := 0 }) (rP D (gW h0 cI n ad ar iv) [(cI, .int)] [.ref h0]) (vp_Si (fun r => r = iv 0)) 0 0 (fun _ => False) := by
  refine Met.ofW (cc := cX0_nodes) (maxL := 1) (ret := (some .int)) (by decide) rfl ?_
  intro p e s m args below meth c s₁ B hml hv
  obtain ⟨rfl, hP, hK⟩ := hv
  have hx := B.exec
  have hb := B.bytes
  have hr := B.returns
  have hts := atoms_spec (ws := wsX0_nodes) B.pre
  have hown : s.vm.findClass RX0 = some m.cls := findClass_of_methodNamed B.named
  have hlocks := B.notSynchronized
  have hl := lv_entry ([.ref h0]) (n := 1) (Nat.le_of_ble_eq_true rfl)
  rw [lg_entry_eq]
  generalize (lg_sl ([.ref h0]) ++ List.replicate (1 - (lg_sl ([.ref h0])).length) Slot.unset).toArray = ls at hl ⊢
  have hl : lv_has ls 1 [(0, .ref h0)] := hl
  refine lv_aload_n hx hb dX0_nodes_0 rfl (lv_at hl 0 rfl) ?_
  refine va_get (D := D) (ci := 0) (v := .int (iv 0)) (C := RX0) (T := TX0) (N := 11) hx hb hts inX0 hown hK hP 0 rfl rfl 8 (by decide) (hts _ (mG wm_61)) (fun _ h9 => h9) rfl dX0_nodes_1 ?_
  exact W.iret (v := (iv 0)) hx hb hr (fun t ht hW => ⟨(iv 0), rfl, rfl, ht⟩) (fun _ h => nomatch h) dX0_nodes_4
set_option maxHeartbeats 4000000 in
set_option maxRecDepth 100000 in
/-- inputs -/
theorem c_inputs (l : Launch) (D : va_G) (h0 : Nat) (cI : ClassId) (n : Nat) (ad : Nat → Nat) (ar : Nat → Nat → Int32) (iv : Nat → Int32)   : Met l yX0_inputs wsX0_inputs ({ frames := 0, cells := 0, slots := 0, locals := 0 }) (rP D (gW h0 cI n ad ar iv) [(cI, .int)] [.ref h0]) (vp_Si (fun r => r = iv 1)) 0 0 (fun _ => False) := by
  refine Met.ofW (cc := cX0_inputs) (maxL := 1) (ret := (some .int)) (by decide) rfl ?_
  intro p e s m args below meth c s₁ B hml hv
  obtain ⟨rfl, hP, hK⟩ := hv
  have hx := B.exec
  have hb := B.bytes
  have hr := B.returns
  have hts := atoms_spec (ws := wsX0_inputs) B.pre
  have hown : s.vm.findClass RX0 = some m.cls := findClass_of_methodNamed B.named
  have hlocks := B.notSynchronized
  have hl := lv_entry ([.ref h0]) (n := 1) (Nat.le_of_ble_eq_true rfl)
  rw [lg_entry_eq]
  generalize (lg_sl ([.ref h0]) ++ List.replicate (1 - (lg_sl ([.ref h0])).length) Slot.unset).toArray = ls at hl ⊢
  have hl : lv_has ls 1 [(0, .ref h0)] := hl
  refine lv_aload_n hx hb dX0_inputs_0 rfl (lv_at hl 0 rfl) ?_
  refine va_get (D := D) (ci := 0) (v := .int (iv 1)) (C := RX0) (T := TX0) (N := 11) hx hb hts inX0 hown hK hP 0 rfl rfl 9 (by decide) (hts _ (mG wm_62)) (fun _ h9 => h9) rfl dX0_inputs_1 ?_
  exact W.iret (v := (iv 1)) hx hb hr (fun t ht hW => ⟨(iv 1), rfl, rfl, ht⟩) (fun _ h => nomatch h) dX0_inputs_4
set_option maxHeartbeats 4000000 in
set_option maxRecDepth 100000 in
/-- input -/
theorem c_input (l : Launch) (D : va_G) (h0 : Nat) (cI : ClassId) (n : Nat) (ad : Nat → Nat) (ar : Nat → Nat → Int32) (iv : Nat → Int32) (sz : Nat)  (nc ic : Nat) (g : Ct) (bv : Nat → Bool) (hok : gb_ok n nc ic g bv ar iv) (hmx : nc + 6 ≤ 20000) : Met l yX0_input wsX0_input ({ frames := 4, cells := gb_cap n (nc + 1) - n, slots := 16 * (gb_cap n (nc + 1) - n), locals := 106 }) (mP D (gW h0 cI n ad ar iv) [(cI, .int)] sz [.ref h0]) (va_Qi (fun (r : Int32) (u : GS) => gb_po n (ic + 1) bv (2 * nc, nc + 1, g) r u) (gb_at D cI (va_A (gW h0 cI n ad ar iv) sz) h0) (va_A (gW h0 cI n ad ar iv) sz)) (gb_cap n (nc + 1) - n) (16 * (gb_cap n (nc + 1) - n)) (va_A (gW h0 cI n ad ar iv) sz) := by
  refine Met.ofW (cc := cX0_input) (maxL := 2) (ret := (some .int)) (by decide) rfl ?_
  intro p e s m args below meth c s₁ B hml hv
  obtain ⟨rfl, hsz, hP, hK, hD0⟩ := hv
  have hx := B.exec
  have hb := B.bytes
  have hr := B.returns
  have hts := atoms_spec (ws := wsX0_input) B.pre
  have hown : s.vm.findClass RX0 = some m.cls := findClass_of_methodNamed B.named
  have hlocks := B.notSynchronized
  have hl := lv_entry ([.ref h0]) (n := 2) (Nat.le_of_ble_eq_true rfl)
  rw [lg_entry_eq]
  generalize (lg_sl ([.ref h0]) ++ List.replicate (2 - (lg_sl ([.ref h0])).length) Slot.unset).toArray = ls at hl ⊢
  have hl : lv_has ls 2 [(0, .ref h0)] := hl
  subst hsz
  have hD := hD0.self (sz := s.heap.size)
  generalize hAe : va_A (gW h0 cI n ad ar iv) s.heap.size = A at hD ⊢
  have hA : ∀ q : Nat, s.heap.size ≤ q → A q := fun q h => by rw [← hAe]; exact Or.inr h
  have hS : va_S A s.heap s.heap [] := va_S.rf
  have hnc := hok.nc
  have hct := hok.ct
  have hwf := hok.wf
  have h16 := hok.n16
  have hle := hct.2.1
  have hb9 := hct.2.2.1
  have hn9 : nc < 2 ^ 30 := by omega
  have hnc3 := hnc
  have hmx3 : nc < 20000 := by omega
  have hle3 := hle
  have h163 := h16
  have hb93 := hb9
  refine lv_aload_n hx hb dX0_input_0 rfl (lv_at hl 0 rfl) ?_
  refine lv_iconst (v := -1) hx hb dX0_input_1 (by decide) ?_
  refine lv_iconst (v := -1) hx hb dX0_input_2 (by decide) ?_
  have hFc := va_free (wc := (gW h0 cI n ad ar iv)) hD hS hA [0, 1, 2, 3, 4, 5, 6, 7, 8] rfl
  refine va_calli (va_runV (As := [.int (-1), .int (-1)]) (rest := []) ⟨hx, hb, hml, hown, hts⟩ (c_newNode l D h0 cI n ad ar iv s.heap.size (-1) (-1) nc hnc3 hmx3 hle3 h163 hb93) (cwV 2 hts gX0_input_X0_newNode rfl rfl rfl (by decide +kernel) ⟨Nat.le_of_ble_eq_true rfl, Nat.le_of_ble_eq_true rfl⟩) (mP_V hK hP hD (va_recv hK hP (ci := 0) (q0 := 0) rfl rfl)) rfl rfl hl.1 rfl (lv_room (Nat.le_of_ble_eq_true rfl)) dX0_input_3 ⟨by show 0 + (gb_cap n (nc + 1) - n) ≤ gb_cap n (nc + 1) - n; omega, by show 0 + 16 * (gb_cap n (nc + 1) - n) ≤ 16 * (gb_cap n (nc + 1) - n); omega⟩) hS (fun q _ h => hFc q h) hFc (fun r3 u t H1 locs ht hvm e3 hB hz1 hk1 hS => ?_)
  obtain ⟨n3, ad3, ar3, iv3⟩ := u
  obtain ⟨hP1, hK1, hD1⟩ := hB
  rw [ht] at hP1
  have hK := va_K.moved hvm.symm hK1
  have hP : va_P D vwCl (gW h0 cI n3 ad3 ar3 iv3) H1 := hP1
  have hD : va_D A (gW h0 cI n3 ad3 ar3 iv3) := hD1.weaken (fun k q _ h => hFc q.1 h)
  clear hP1 hK1 hD1 hk1 hz1 hFc ht
  generalize H1 = H at hP hS ⊢
  try dsimp only at e3
  refine lv_istore_n (lv' := [(1, .int r3), (0, .ref h0)]) hx hb dX0_input_6 rfl hl (by decide) rfl (fun ls hl => ?_)
  refine lv_aload_n hx hb dX0_input_7 rfl (lv_at hl 1 rfl) ?_
  refine lv_dup hx hb dX0_input_8 rfl ?_
  refine va_get (D := D) (ci := 0) (v := .int (iv3 1)) (C := RX0) (T := TX0) (N := 11) hx hb hts inX0 hown hK hP 0 rfl rfl 9 (by decide) (hts _ (mG wm_62)) (fun _ h9 => h9) rfl dX0_input_9 ?_
  refine lv_iconst (v := 1) hx hb dX0_input_12 (by decide) ?_
  refine lv_iadd hx hb dX0_input_13 ?_
  refine lv_topi (fun v13 e13 => ?_)
  refine va_put (D := D) (ci := 0) (v := .int v13) (ty := .int) (C := RX0) (T := TX0) (N := 11) hx hb hts inX0 tyX0 tyX0_ok nmX0 hown hK hP hD hS 0 rfl rfl 9 (by decide) (hts _ (mG wm_62)) (fun _ h9 => h9) rfl (by decide +kernel) rfl rfl (Nat.le_of_ble_eq_true rfl) dX0_input_14 (fun H locs hP hD hS => ?_)
  obtain ⟨iv14, e14⟩ : ∃ zz : Nat → Int32, zz = va_up iv3 1 v13 := ⟨_, rfl⟩
  have hP : va_P D vwCl (gW h0 cI n3 ad3 ar3 iv14) H := by rw [e14]; exact hP
  have hD : va_D A (gW h0 cI n3 ad3 ar3 iv14) := by rw [e14]; exact hD
  refine lv_iload_n hx hb dX0_input_17 rfl (lv_at hl 0 rfl) ?_
  refine lv_iconst (v := 1) hx hb dX0_input_18 (by decide) ?_
  refine lv_ishl hx hb dX0_input_19 ?_
  refine lv_topi (fun v19 e19 => ?_)
  refine W.widen (k := gb_cap n (nc + 1) - n) (n := 16 * (gb_cap n (nc + 1) - n)) (by omega) (by omega) ?_
  exact W.iret (v := v19) hx hb hr (fun t ht hW => ⟨⟨v19, (n3, ad3, ar3, iv14), rfl, ⟨by rw [e19, e3.1]; exact ct_shl (by omega), e3.2.1, by rw [e3.2.1]; exact gb_ok_input hok (by omega) (by rw [e14, e13, e3.2.2.1, va_up_ne _ _ (by decide), hok.ic]; exact congrArg (va_up _ 1) (nI_1 ic)) e3.2.2.2⟩, by rw [ht]; exact hP, va_K.moved hW.alike hK, hD⟩, hS.F ht⟩) hS.2.2 dX0_input_20
