set_option maxHeartbeats 4000000 in
set_option maxRecDepth 100000 in
/-- needLiteral -/
theorem c_needLiteral (l : Launch) (hl9 : l.stackTraces = false) (D : va_G) (h0 : Nat) (cI : ClassId) (n : Nat) (ad : Nat → Nat) (ar : Nat → Nat → Int32) (iv : Nat → Int32) (sz : Nat) (x : Int32) (nc : Nat) (hnc : iv 0 = nI nc) (hn9 : nc < 2 ^ 30) : vx_Met l yX0_needLiteral wsX0_needLiteral ({ frames := 6, cells := 1, slots := 6, locals := 90 }) (tP D (gW h0 cI n ad ar iv) [(cI, .int)] sz [.ref h0, .int x]) (va_Qv (fun u : GS => ct_lit nc x ∧ u = (n, ad, ar, iv)) (gb_at D cI (va_A (gW h0 cI n ad ar iv) sz) h0) (va_A (gW h0 cI n ad ar iv) sz)) (gb_xc D cI (va_A (gW h0 cI n ad ar iv) sz) h0 (n, ad, ar, iv) (¬ ct_lit nc x)) (1) (6) (va_A (gW h0 cI n ad ar iv) sz) := by
  refine vx_ofW (cc := cX0_needLiteral) (maxL := 2) (ret := none) (by decide) rfl ?_
  intro p e s m args below meth c s₁ B hml hnt hv
  obtain ⟨rfl, hsz, hP, hK, hD0, hT⟩ := hv
  have hx := B.exec
  have hb := B.bytes
  have hr := B.returns
  have hts := atoms_spec (ws := wsX0_needLiteral) B.pre
  have hown : s.vm.findClass RX0 = some m.cls := findClass_of_methodNamed B.named
  have hlocks := B.notSynchronized
  have hl := lv_entry ([.ref h0, .int x]) (n := 2) (Nat.le_of_ble_eq_true rfl)
  rw [lg_entry_eq]
  generalize (lg_sl ([.ref h0, .int x]) ++ List.replicate (2 - (lg_sl ([.ref h0, .int x])).length) Slot.unset).toArray = ls at hl ⊢
  have hl : lv_has ls 2 [(0, .ref h0), (1, .int x)] := hl
  subst hsz
  have hD := hD0.self (sz := s.heap.size)
  generalize hAe : va_A (gW h0 cI n ad ar iv) s.heap.size = A at hD hT ⊢
  have hA : ∀ q : Nat, s.heap.size ≤ q → A q := fun q h => by rw [← hAe]; exact Or.inr h
  have hS : va_S A s.heap s.heap [] := va_S.rf
  refine lv_iload_n hx hb dX0_needLiteral_0 rfl (lv_at hl 1 rfl) ?_
  refine lv_if_lt (tgt := 14) hx hb dX0_needLiteral_1 (by decide) (fun c1 => ?_) (fun c1 => ?_)
  · obtain ⟨sa, hsa⟩ := hT.2.2.2
    exact vx_throwS (cls := IAE) (names := iae_names) (A := A) hx hb hl9 hown (by decide) (by decide) (hts _ (mG wm_207)) (hts _ (mG wm_44)) (hsa (108, "no such literal") (List.mem_of_getElem? (i := 5) rfl)) (hT.hat hts) iae_ot hT.1 hT.2.1 hS (by rw [hml]; exact hl.1) dX0_needLiteral_14 dX0_needLiteral_17 dX0_needLiteral_18 dX0_needLiteral_20 dX0_needLiteral_23 (fun x h => (hnt x h).elim) (Nat.le_of_ble_eq_true rfl) (Nat.le_of_ble_eq_true rfl) (by show _ + 1 ≤ 1; omega) (by show _ + 6 ≤ 6; omega) hlocks (fun t hvm hz hk => ⟨(n, ad, ar, iv), ⟨(ct_lit_neg c1 hn9), rfl⟩, ⟨rfl, gb_kept hP hk, va_K.moved hvm hK, hD⟩, gb_F hS hz hk⟩) hS.2.2 (by omega) (by omega)
  · refine lv_iload_n hx hb dX0_needLiteral_4 rfl (lv_at hl 1 rfl) ?_
    refine lv_iconst (v := 1) hx hb dX0_needLiteral_5 (by decide) ?_
    refine lv_ishr hx hb dX0_needLiteral_6 ?_
    refine lv_topi (fun v6 e6 => ?_)
    refine lv_aload_n hx hb dX0_needLiteral_7 rfl (lv_at hl 0 rfl) ?_
    refine va_get (D := D) (ci := 0) (v := .int (iv 0)) (C := RX0) (T := TX0) (N := 11) hx hb hts inX0 hown hK hP 0 rfl rfl 8 (by decide) (hts _ (mG wm_61)) (fun _ h9 => h9) rfl dX0_needLiteral_8 ?_
    refine lv_icmp_lt (tgt := 24) hx hb dX0_needLiteral_11 (by decide) (fun c11 => ?_) (fun c11 => ?_)
    · refine W.widen (k := 1) (n := 6) (by omega) (by omega) ?_
      refine vx_ret ?_
      exact W.vret hx hb hr (fun t ht hW => ⟨⟨(n, ad, ar, iv), rfl, ⟨ct_lit_ok hn9 c1 (by rw [← hnc, ← e6]; exact c11), rfl⟩, by rw [ht]; exact hP, va_K.moved hW.alike hK, hD⟩, hS.F ht⟩) hS.2.2 dX0_needLiteral_24
    · obtain ⟨sa, hsa⟩ := hT.2.2.2
      exact vx_throwS (cls := IAE) (names := iae_names) (A := A) hx hb hl9 hown (by decide) (by decide) (hts _ (mG wm_207)) (hts _ (mG wm_44)) (hsa (108, "no such literal") (List.mem_of_getElem? (i := 5) rfl)) (hT.hat hts) iae_ot hT.1 hT.2.1 hS (by rw [hml]; exact hl.1) dX0_needLiteral_14 dX0_needLiteral_17 dX0_needLiteral_18 dX0_needLiteral_20 dX0_needLiteral_23 (fun x h => (hnt x h).elim) (Nat.le_of_ble_eq_true rfl) (Nat.le_of_ble_eq_true rfl) (by show _ + 1 ≤ 1; omega) (by show _ + 6 ≤ 6; omega) hlocks (fun t hvm hz hk => ⟨(n, ad, ar, iv), ⟨(ct_lit_big hn9 (by rw [← hnc, ← e6]; exact c11)), rfl⟩, ⟨rfl, gb_kept hP hk, va_K.moved hvm hK, hD⟩, gb_F hS hz hk⟩) hS.2.2 (by omega) (by omega)
set_option maxHeartbeats 4000000 in
set_option maxRecDepth 100000 in
/-- needNode -/
theorem c_needNode (l : Launch) (hl9 : l.stackTraces = false) (D : va_G) (h0 : Nat) (cI : ClassId) (n : Nat) (ad : Nat → Nat) (ar : Nat → Nat → Int32) (iv : Nat → Int32) (sz : Nat) (x : Int32) (nc : Nat) (hnc : iv 0 = nI nc) (hn9 : nc < 2 ^ 30) : vx_Met l yX0_needNode wsX0_needNode ({ frames := 6, cells := 1, slots := 6, locals := 90 }) (tP D (gW h0 cI n ad ar iv) [(cI, .int)] sz [.ref h0, .int x]) (va_Qv (fun u : GS => ct_nod nc x ∧ u = (n, ad, ar, iv)) (gb_at D cI (va_A (gW h0 cI n ad ar iv) sz) h0) (va_A (gW h0 cI n ad ar iv) sz)) (gb_xc D cI (va_A (gW h0 cI n ad ar iv) sz) h0 (n, ad, ar, iv) (¬ ct_nod nc x)) (1) (6) (va_A (gW h0 cI n ad ar iv) sz) := by
  refine vx_ofW (cc := cX0_needNode) (maxL := 2) (ret := none) (by decide) rfl ?_
  intro p e s m args below meth c s₁ B hml hnt hv
  obtain ⟨rfl, hsz, hP, hK, hD0, hT⟩ := hv
  have hx := B.exec
  have hb := B.bytes
  have hr := B.returns
  have hts := atoms_spec (ws := wsX0_needNode) B.pre
  have hown : s.vm.findClass RX0 = some m.cls := findClass_of_methodNamed B.named
  have hlocks := B.notSynchronized
  have hl := lv_entry ([.ref h0, .int x]) (n := 2) (Nat.le_of_ble_eq_true rfl)
  rw [lg_entry_eq]
  generalize (lg_sl ([.ref h0, .int x]) ++ List.replicate (2 - (lg_sl ([.ref h0, .int x])).length) Slot.unset).toArray = ls at hl ⊢
  have hl : lv_has ls 2 [(0, .ref h0), (1, .int x)] := hl
  subst hsz
  have hD := hD0.self (sz := s.heap.size)
  generalize hAe : va_A (gW h0 cI n ad ar iv) s.heap.size = A at hD hT ⊢
  have hA : ∀ q : Nat, s.heap.size ≤ q → A q := fun q h => by rw [← hAe]; exact Or.inr h
  have hS : va_S A s.heap s.heap [] := va_S.rf
  refine lv_iload_n hx hb dX0_needNode_0 rfl (lv_at hl 1 rfl) ?_
  refine lv_if_lt (tgt := 12) hx hb dX0_needNode_1 (by decide) (fun c1 => ?_) (fun c1 => ?_)
  · obtain ⟨sa, hsa⟩ := hT.2.2.2
    exact vx_throwS (cls := IAE) (names := iae_names) (A := A) hx hb hl9 hown (by decide) (by decide) (hts _ (mG wm_207)) (hts _ (mG wm_44)) (hsa (104, "no such node") (List.mem_of_getElem? (i := 3) rfl)) (hT.hat hts) iae_ot hT.1 hT.2.1 hS (by rw [hml]; exact hl.1) dX0_needNode_12 dX0_needNode_15 dX0_needNode_16 dX0_needNode_18 dX0_needNode_21 (fun x h => (hnt x h).elim) (Nat.le_of_ble_eq_true rfl) (Nat.le_of_ble_eq_true rfl) (by show _ + 1 ≤ 1; omega) (by show _ + 6 ≤ 6; omega) hlocks (fun t hvm hz hk => ⟨(n, ad, ar, iv), ⟨(fun z => z.1 c1), rfl⟩, ⟨rfl, gb_kept hP hk, va_K.moved hvm hK, hD⟩, gb_F hS hz hk⟩) hS.2.2 (by omega) (by omega)
  · refine lv_iload_n hx hb dX0_needNode_4 rfl (lv_at hl 1 rfl) ?_
    refine lv_aload_n hx hb dX0_needNode_5 rfl (lv_at hl 0 rfl) ?_
    refine va_get (D := D) (ci := 0) (v := .int (iv 0)) (C := RX0) (T := TX0) (N := 11) hx hb hts inX0 hown hK hP 0 rfl rfl 8 (by decide) (hts _ (mG wm_61)) (fun _ h9 => h9) rfl dX0_needNode_6 ?_
    refine lv_icmp_lt (tgt := 22) hx hb dX0_needNode_9 (by decide) (fun c9 => ?_) (fun c9 => ?_)
    · refine W.widen (k := 1) (n := 6) (by omega) (by omega) ?_
      refine vx_ret ?_
      exact W.vret hx hb hr (fun t ht hW => ⟨⟨(n, ad, ar, iv), rfl, ⟨⟨c1, by rw [← hnc]; exact c9⟩, rfl⟩, by rw [ht]; exact hP, va_K.moved hW.alike hK, hD⟩, hS.F ht⟩) hS.2.2 dX0_needNode_22
    · obtain ⟨sa, hsa⟩ := hT.2.2.2
      exact vx_throwS (cls := IAE) (names := iae_names) (A := A) hx hb hl9 hown (by decide) (by decide) (hts _ (mG wm_207)) (hts _ (mG wm_44)) (hsa (104, "no such node") (List.mem_of_getElem? (i := 3) rfl)) (hT.hat hts) iae_ot hT.1 hT.2.1 hS (by rw [hml]; exact hl.1) dX0_needNode_12 dX0_needNode_15 dX0_needNode_16 dX0_needNode_18 dX0_needNode_21 (fun x h => (hnt x h).elim) (Nat.le_of_ble_eq_true rfl) (Nat.le_of_ble_eq_true rfl) (by show _ + 1 ≤ 1; omega) (by show _ + 6 ≤ 6; omega) hlocks (fun t hvm hz hk => ⟨(n, ad, ar, iv), ⟨(fun z => c9 (by rw [hnc]; exact z.2)), rfl⟩, ⟨rfl, gb_kept hP hk, va_K.moved hvm hK, hD⟩, gb_F hS hz hk⟩) hS.2.2 (by omega) (by omega)
set_option maxHeartbeats 4000000 in
set_option maxRecDepth 100000 in
/-- needInput -/
theorem c_needInput (l : Launch) (hl9 : l.stackTraces = false) (D : va_G) (h0 : Nat) (cI : ClassId) (n : Nat) (ad : Nat → Nat) (ar : Nat → Nat → Int32) (iv : Nat → Int32) (sz : Nat) (x : Int32) (nc : Nat) (hnc : iv 0 = nI nc) (hn9 : nc < 2 ^ 30) (hle : nc ≤ n) (hb9 : n ≤ 65536) : vx_Met l yX0_needInput wsX0_needInput ({ frames := 7, cells := 2, slots := 12, locals := 111 }) (tP D (gW h0 cI n ad ar iv) [(cI, .int)] sz [.ref h0, .int x]) (va_Qv (fun u : GS => (ct_nod nc x ∧ gb_kind ar x = 1) ∧ u = (n, ad, ar, iv)) (gb_at D cI (va_A (gW h0 cI n ad ar iv) sz) h0) (va_A (gW h0 cI n ad ar iv) sz)) (gb_xc D cI (va_A (gW h0 cI n ad ar iv) sz) h0 (n, ad, ar, iv) (¬ (ct_nod nc x ∧ gb_kind ar x = 1))) (2) (12) (va_A (gW h0 cI n ad ar iv) sz) := by
  refine vx_ofW (cc := cX0_needInput) (maxL := 2) (ret := none) (by decide) rfl ?_
  intro p e s m args below meth c s₁ B hml hnt hv
  obtain ⟨rfl, hsz, hP, hK, hD0, hT⟩ := hv
  have hx := B.exec
  have hb := B.bytes
  have hr := B.returns
  have hts := atoms_spec (ws := wsX0_needInput) B.pre
  have hown : s.vm.findClass RX0 = some m.cls := findClass_of_methodNamed B.named
  have hlocks := B.notSynchronized
  have hl := lv_entry ([.ref h0, .int x]) (n := 2) (Nat.le_of_ble_eq_true rfl)
  rw [lg_entry_eq]
  generalize (lg_sl ([.ref h0, .int x]) ++ List.replicate (2 - (lg_sl ([.ref h0, .int x])).length) Slot.unset).toArray = ls at hl ⊢
  have hl : lv_has ls 2 [(0, .ref h0), (1, .int x)] := hl
  subst hsz
  have hD := hD0.self (sz := s.heap.size)
  generalize hAe : va_A (gW h0 cI n ad ar iv) s.heap.size = A at hD hT ⊢
  have hA : ∀ q : Nat, s.heap.size ≤ q → A q := fun q h => by rw [← hAe]; exact Or.inr h
  have hS : va_S A s.heap s.heap [] := va_S.rf
  refine lv_aload_n hx hb dX0_needInput_0 rfl (lv_at hl 0 rfl) ?_
  refine lv_iload_n hx hb dX0_needInput_1 rfl (lv_at hl 1 rfl) ?_
  have hFc := va_free (wc := (gW h0 cI n ad ar iv)) hD hS hA [0, 1, 2, 3, 4, 5, 6, 7, 8] rfl
  refine vx_callv (vx_runV (As := [.int x]) (rest := []) ⟨hx, hb, hml, hown, hts⟩ (c_needNode l hl9 D h0 cI n ad ar iv s.heap.size x nc hnc hn9) (cwV 1 hts gX0_needInput_X0_needNode rfl rfl rfl (by decide +kernel) ⟨Nat.le_of_ble_eq_true rfl, Nat.le_of_ble_eq_true rfl⟩) (tP_V hK hP hD (va_recv hK hP (ci := 0) (q0 := 0) rfl rfl) hT hS hFc) rfl rfl hl.1 rfl (lv_room (Nat.le_of_ble_eq_true rfl)) dX0_needInput_2 ⟨by show _ + _ ≤ 2; omega, by show _ + _ ≤ 12; omega⟩) hS (fun q _ h => hFc q h) hFc (fun q _ h => hFc q h) (fun E ce q9 u t H1 locs ht hvm e2 hB hz1 hk1 hS hcell hcv hcl => ?_) (fun u t H1 locs ht hvm e2 hB hz1 hk1 hS => ?_)
  · obtain ⟨e2, rfl⟩ := e2
    obtain ⟨rfl, hP1, hK1, hD1⟩ := hB
    rw [ht] at hP1
    have hK := va_K.moved hvm.symm hK1
    have hD : va_D A (gW h0 cI n ad ar iv) := hD1.weaken (fun k q _ h => hFc q.1 h)
    exact vx_out (fun x h => (hnt x h).elim) hlocks hcell hcv hcl (fun t' ht' hvm' => ⟨(n, ad, ar, iv), ⟨(fun z => e2 z.1), rfl⟩, ⟨rfl, by rw [ht']; exact hP1, va_K.moved hvm' hK, hD⟩, hS.F ht'⟩) hS.2.2 (by omega) (by omega)
  · obtain ⟨e2, rfl⟩ := e2
    obtain ⟨hP1, hK1, hD1⟩ := hB
    rw [ht] at hP1
    have hK := va_K.moved hvm.symm hK1
    have hP : va_P D vwCl (gW h0 cI n ad ar iv) H1 := hP1
    have hD : va_D A (gW h0 cI n ad ar iv) := hD1.weaken (fun k q _ h => hFc q.1 h)
    clear hP1 hK1 hD1 hk1 hz1 hFc ht
    generalize H1 = H at hP hS ⊢
    have hc7 : vp_in x n := ct_nod_in e2 hn9 hle hb9
    refine lv_aload_n hx hb dX0_needInput_5 rfl (lv_at hl 0 rfl) ?_
    refine lv_iload_n hx hb dX0_needInput_6 rfl (lv_at hl 1 rfl) ?_
    refine vp_callSi (W.runV (As := [.int x]) (rest := []) ⟨hx, hb, hml, hown, hts⟩ (c_kindOf l D h0 cI n ad ar iv x hc7) (cwV 1 hts gX0_needInput_X0_kindOf rfl rfl rfl (by decide +kernel) ⟨Nat.le_of_ble_eq_true rfl, Nat.le_of_ble_eq_true rfl⟩) (rP_V hK hP (va_recv hK hP (ci := 0) (q0 := 0) rfl rfl)) rfl rfl hl.1 rfl (lv_room (Nat.le_of_ble_eq_true rfl)) dX0_needInput_7 ⟨by show _ + _ ≤ 2; omega, by show _ + _ ≤ 12; omega⟩) (fun r7 e7 => ?_)
    refine lv_iconst (v := 1) hx hb dX0_needInput_10 (by decide) ?_
    refine lv_icmp_eq (tgt := 24) hx hb dX0_needInput_11 (by decide) (fun c11 => ?_) (fun c11 => ?_)
    · refine W.widen (k := 2) (n := 12) (by omega) (by omega) ?_
      refine vx_ret ?_
      exact W.vret hx hb hr (fun t ht hW => ⟨⟨(n, ad, ar, iv), rfl, ⟨⟨e2, by rw [← e7]; exact c11⟩, rfl⟩, by rw [ht]; exact hP, va_K.moved hW.alike hK, hD⟩, hS.F ht⟩) hS.2.2 dX0_needInput_24
    · obtain ⟨sa, hsa⟩ := hT.2.2.2
      exact vx_throwS (cls := IAE) (names := iae_names) (A := A) hx hb hl9 hown (by decide) (by decide) (hts _ (mG wm_207)) (hts _ (mG wm_44)) (hsa (106, "the node is no input") (List.mem_of_getElem? (i := 4) rfl)) (hT.hat hts) iae_ot hT.1 hT.2.1 hS (by rw [hml]; exact hl.1) dX0_needInput_14 dX0_needInput_17 dX0_needInput_18 dX0_needInput_20 dX0_needInput_23 (fun x h => (hnt x h).elim) (Nat.le_of_ble_eq_true rfl) (Nat.le_of_ble_eq_true rfl) (by show _ + 1 ≤ 2; omega) (by show _ + 6 ≤ 12; omega) hlocks (fun t hvm hz hk => ⟨(n, ad, ar, iv), ⟨(fun z => c11 (by rw [e7]; exact z.2)), rfl⟩, ⟨rfl, gb_kept hP hk, va_K.moved hvm hK, hD⟩, gb_F hS hz hk⟩) hS.2.2 (by omega) (by omega)
