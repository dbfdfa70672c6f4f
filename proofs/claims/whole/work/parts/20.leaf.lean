set_option maxHeartbeats 4000000 in
set_option maxRecDepth 100000 in
/-- not -/
theorem c_not (l : Launch) (x : Int32) : Met l yX0_not wsX0_not ({ frames := 0, cells := 0, slots := 0, locals := 0 }) (fun v _ => v = ([.int x] : List Value).toArray) (vp_Si (fun r => r = x ^^^ 1)) 0 0 (fun _ => False) := by
  refine Met.ofW (cc := cX0_not) (maxL := 1) (ret := (some .int)) (by decide) rfl ?_
  intro p e s m args below meth c s₁ B hml hv
  subst hv
  have hx := B.exec
  have hb := B.bytes
  have hr := B.returns
  have hts := atoms_spec (ws := wsX0_not) B.pre
  have hown : s.vm.findClass RX0 = some m.cls := findClass_of_methodNamed B.named
  have hlocks := B.notSynchronized
  have hl := lv_entry ([.int x]) (n := 1) (Nat.le_of_ble_eq_true rfl)
  rw [lg_entry_eq]
  generalize (lg_sl ([.int x]) ++ List.replicate (1 - (lg_sl ([.int x])).length) Slot.unset).toArray = ls at hl ⊢
  have hl : lv_has ls 1 [(0, .int x)] := hl
  refine lv_iload_n hx hb dX0_not_0 rfl (lv_at hl 0 rfl) ?_
  refine lv_iconst (v := 1) hx hb dX0_not_1 (by decide) ?_
  refine lv_ixor hx hb dX0_not_2 ?_
  refine lv_topi (fun v2 e2 => ?_)
  exact W.iret (v := v2) hx hb hr (fun t ht hW => ⟨v2, rfl, e2, ht⟩) (fun _ h => nomatch h) dX0_not_3
set_option maxHeartbeats 4000000 in
set_option maxRecDepth 100000 in
/-- isNegated -/
theorem c_isNegated (l : Launch) (x : Int32) : Met l yX0_isNegated wsX0_isNegated ({ frames := 0, cells := 0, slots := 0, locals := 0 }) (fun v _ => v = ([.int x] : List Value).toArray) (vp_Si (fun r => r = gb_neg x)) 0 0 (fun _ => False) := by
  refine Met.ofW (cc := cX0_isNegated) (maxL := 1) (ret := (some .boolean)) (by decide) rfl ?_
  intro p e s m args below meth c s₁ B hml hv
  subst hv
  have hx := B.exec
  have hb := B.bytes
  have hr := B.returns
  have hts := atoms_spec (ws := wsX0_isNegated) B.pre
  have hown : s.vm.findClass RX0 = some m.cls := findClass_of_methodNamed B.named
  have hlocks := B.notSynchronized
  have hl := lv_entry ([.int x]) (n := 1) (Nat.le_of_ble_eq_true rfl)
  rw [lg_entry_eq]
  generalize (lg_sl ([.int x]) ++ List.replicate (1 - (lg_sl ([.int x])).length) Slot.unset).toArray = ls at hl ⊢
  have hl : lv_has ls 1 [(0, .int x)] := hl
  refine lv_iload_n hx hb dX0_isNegated_0 rfl (lv_at hl 0 rfl) ?_
  refine lv_iconst (v := 1) hx hb dX0_isNegated_1 (by decide) ?_
  refine lv_iand hx hb dX0_isNegated_2 ?_
  refine lv_topi (fun v2 e2 => ?_)
  refine lv_iconst (v := 1) hx hb dX0_isNegated_3 (by decide) ?_
  refine lv_icmp_ne (tgt := 11) hx hb dX0_isNegated_4 (by decide) (fun c4 => ?_) (fun c4 => ?_)
  · refine lv_iconst (v := 0) hx hb dX0_isNegated_11 (by decide) ?_
    exact W.zret (v := 0) hx hb hr (by decide) (fun t ht hW => ⟨0, rfl, (by subst e2; simp [gb_neg, c4]), ht⟩) (fun _ h => nomatch h) dX0_isNegated_12
  · refine lv_iconst (v := 1) hx hb dX0_isNegated_7 (by decide) ?_
    refine lv_goto (tgt := 12) hx hb dX0_isNegated_8 (by decide) ?_
    exact W.zret (v := 1) hx hb hr (by decide) (fun t ht hW => ⟨1, rfl, (by subst e2; simp [gb_neg, c4]), ht⟩) (fun _ h => nomatch h) dX0_isNegated_12
set_option maxHeartbeats 4000000 in
set_option maxRecDepth 100000 in
/-- isGate -/
theorem c_isGate (l : Launch) (D : va_G) (h0 : Nat) (cI : ClassId) (n : Nat) (ad : Nat → Nat) (ar : Nat → Nat → Int32) (iv : Nat → Int32) (x : Int32) (hi5 : vp_in x n) : Met l yX0_isGate wsX0_isGate ({ frames := 0, cells := 0, slots := 0, locals := 0 }) (rP D (gW h0 cI n ad ar iv) [(cI, .int)] [.ref h0, .int x]) (vp_Si (fun r => r = gb_gate ar x)) 0 0 (fun _ => False) := by
  refine Met.ofW (cc := cX0_isGate) (maxL := 2) (ret := (some .boolean)) (by decide) rfl ?_
  intro p e s m args below meth c s₁ B hml hv
  obtain ⟨rfl, hP, hK⟩ := hv
  have hx := B.exec
  have hb := B.bytes
  have hr := B.returns
  have hts := atoms_spec (ws := wsX0_isGate) B.pre
  have hown : s.vm.findClass RX0 = some m.cls := findClass_of_methodNamed B.named
  have hlocks := B.notSynchronized
  have hl := lv_entry ([.ref h0, .int x]) (n := 2) (Nat.le_of_ble_eq_true rfl)
  rw [lg_entry_eq]
  generalize (lg_sl ([.ref h0, .int x]) ++ List.replicate (2 - (lg_sl ([.ref h0, .int x])).length) Slot.unset).toArray = ls at hl ⊢
  have hl : lv_has ls 2 [(0, .ref h0), (1, .int x)] := hl
  refine lv_aload_n hx hb dX0_isGate_0 rfl (lv_at hl 0 rfl) ?_
  refine va_get (D := D) (ci := 0) (v := .ref (ad 0)) (C := RX0) (T := TX0) (N := 11) hx hb hts inX0 hown hK hP 0 rfl rfl 0 (by decide) (hts _ (mG wm_53)) (fun _ h9 => h9) rfl dX0_isGate_1 ?_
  refine lv_iload_n hx hb dX0_isGate_4 rfl (lv_at hl 1 rfl) ?_
  refine va_iald hx hb hK hP 1 0 rfl rfl hi5 dX0_isGate_5 ?_
  refine lv_topi (fun v5 e5 => ?_)
  refine lv_iconst (v := -1) hx hb dX0_isGate_6 (by decide) ?_
  refine lv_icmp_eq (tgt := 14) hx hb dX0_isGate_7 (by decide) (fun c7 => ?_) (fun c7 => ?_)
  · refine lv_iconst (v := 0) hx hb dX0_isGate_14 (by decide) ?_
    exact W.zret (v := 0) hx hb hr (by decide) (fun t ht hW => ⟨0, rfl, (by subst e5; simp [gb_gate, c7]), ht⟩) (fun _ h => nomatch h) dX0_isGate_15
  · refine lv_iconst (v := 1) hx hb dX0_isGate_10 (by decide) ?_
    refine lv_goto (tgt := 15) hx hb dX0_isGate_11 (by decide) ?_
    exact W.zret (v := 1) hx hb hr (by decide) (fun t ht hW => ⟨1, rfl, (by subst e5; simp [gb_gate, c7]), ht⟩) (fun _ h => nomatch h) dX0_isGate_15
set_option maxHeartbeats 4000000 in
set_option maxRecDepth 100000 in
/-- valueNow -/
theorem c_valueNow (l : Launch) (D : va_G) (h0 : Nat) (cI : ClassId) (n : Nat) (ad : Nat → Nat) (ar : Nat → Nat → Int32) (iv : Nat → Int32) (x : Int32) (h1 : vp_in (gb_sh x) n) : Met l yX0_valueNow wsX0_valueNow ({ frames := 0, cells := 0, slots := 0, locals := 0 }) (rP D (gW h0 cI n ad ar iv) [(cI, .int)] [.ref h0, .int x]) (vp_Si (fun r => r = gb_val ar x)) 0 0 (fun _ => False) := by
  refine Met.ofW (cc := cX0_valueNow) (maxL := 2) (ret := (some .int)) (by decide) rfl ?_
  intro p e s m args below meth c s₁ B hml hv
  obtain ⟨rfl, hP, hK⟩ := hv
  have hx := B.exec
  have hb := B.bytes
  have hr := B.returns
  have hts := atoms_spec (ws := wsX0_valueNow) B.pre
  have hown : s.vm.findClass RX0 = some m.cls := findClass_of_methodNamed B.named
  have hlocks := B.notSynchronized
  have hl := lv_entry ([.ref h0, .int x]) (n := 2) (Nat.le_of_ble_eq_true rfl)
  rw [lg_entry_eq]
  generalize (lg_sl ([.ref h0, .int x]) ++ List.replicate (2 - (lg_sl ([.ref h0, .int x])).length) Slot.unset).toArray = ls at hl ⊢
  have hl : lv_has ls 2 [(0, .ref h0), (1, .int x)] := hl
  refine lv_aload_n hx hb dX0_valueNow_0 rfl (lv_at hl 0 rfl) ?_
  refine va_get (D := D) (ci := 0) (v := .ref (ad 4)) (C := RX0) (T := TX0) (N := 11) hx hb hts inX0 hown hK hP 0 rfl rfl 4 (by decide) (hts _ (mG wm_57)) (fun _ h9 => h9) rfl dX0_valueNow_1 ?_
  refine lv_iload_n hx hb dX0_valueNow_4 rfl (lv_at hl 1 rfl) ?_
  refine lv_iconst (v := 1) hx hb dX0_valueNow_5 (by decide) ?_
  refine lv_ishr hx hb dX0_valueNow_6 ?_
  refine lv_topi (fun v6 e6 => ?_)
  refine va_iald hx hb hK hP 5 0 rfl rfl (by rw [e6]; exact h1) dX0_valueNow_7 ?_
  refine lv_topi (fun v7 e7 => ?_)
  refine lv_iload_n hx hb dX0_valueNow_8 rfl (lv_at hl 1 rfl) ?_
  refine lv_iconst (v := 1) hx hb dX0_valueNow_9 (by decide) ?_
  refine lv_iand hx hb dX0_valueNow_10 ?_
  refine lv_topi (fun v10 e10 => ?_)
  refine lv_ixor hx hb dX0_valueNow_11 ?_
  refine lv_topi (fun v11 e11 => ?_)
  exact W.iret (v := v11) hx hb hr (fun t ht hW => ⟨v11, rfl, (by rw [e11, e10, e7, e6]; rfl), ht⟩) (fun _ h => nomatch h) dX0_valueNow_12
set_option maxHeartbeats 4000000 in
set_option maxRecDepth 100000 in
/-- hasLiteral -/
theorem c_hasLiteral (l : Launch) (D : va_G) (h0 : Nat) (cI : ClassId) (n : Nat) (ad : Nat → Nat) (ar : Nat → Nat → Int32) (iv : Nat → Int32) (x : Int32) (y : Int32) (hi5 : vp_in x n) : Met l yX0_hasLiteral wsX0_hasLiteral ({ frames := 0, cells := 0, slots := 0, locals := 0 }) (rP D (gW h0 cI n ad ar iv) [(cI, .int)] [.ref h0, .int x, .int y]) (vp_Si (fun r => r = gb_has ar x y)) 0 0 (fun _ => False) := by
  refine Met.ofW (cc := cX0_hasLiteral) (maxL := 3) (ret := (some .boolean)) (by decide) rfl ?_
  intro p e s m args below meth c s₁ B hml hv
  obtain ⟨rfl, hP, hK⟩ := hv
  have hx := B.exec
  have hb := B.bytes
  have hr := B.returns
  have hts := atoms_spec (ws := wsX0_hasLiteral) B.pre
  have hown : s.vm.findClass RX0 = some m.cls := findClass_of_methodNamed B.named
  have hlocks := B.notSynchronized
  have hl := lv_entry ([.ref h0, .int x, .int y]) (n := 3) (Nat.le_of_ble_eq_true rfl)
  rw [lg_entry_eq]
  generalize (lg_sl ([.ref h0, .int x, .int y]) ++ List.replicate (3 - (lg_sl ([.ref h0, .int x, .int y])).length) Slot.unset).toArray = ls at hl ⊢
  have hl : lv_has ls 3 [(0, .ref h0), (1, .int x), (2, .int y)] := hl
  refine lv_aload_n hx hb dX0_hasLiteral_0 rfl (lv_at hl 0 rfl) ?_
  refine va_get (D := D) (ci := 0) (v := .ref (ad 0)) (C := RX0) (T := TX0) (N := 11) hx hb hts inX0 hown hK hP 0 rfl rfl 0 (by decide) (hts _ (mG wm_53)) (fun _ h9 => h9) rfl dX0_hasLiteral_1 ?_
  refine lv_iload_n hx hb dX0_hasLiteral_4 rfl (lv_at hl 1 rfl) ?_
  refine va_iald hx hb hK hP 1 0 rfl rfl hi5 dX0_hasLiteral_5 ?_
  refine lv_topi (fun v5 e5 => ?_)
  refine lv_iload_n hx hb dX0_hasLiteral_6 rfl (lv_at hl 2 rfl) ?_
  refine lv_icmp_eq (tgt := 20) hx hb dX0_hasLiteral_7 (by decide) (fun c7 => ?_) (fun c7 => ?_)
  · refine lv_iconst (v := 1) hx hb dX0_hasLiteral_20 (by decide) ?_
    refine lv_goto (tgt := 25) hx hb dX0_hasLiteral_21 (by decide) ?_
    exact W.zret (v := 1) hx hb hr (by decide) (fun t ht hW => ⟨1, rfl, (by subst e5; simp [gb_has, c7]), ht⟩) (fun _ h => nomatch h) dX0_hasLiteral_25
  · refine lv_aload_n hx hb dX0_hasLiteral_10 rfl (lv_at hl 0 rfl) ?_
    refine va_get (D := D) (ci := 0) (v := .ref (ad 1)) (C := RX0) (T := TX0) (N := 11) hx hb hts inX0 hown hK hP 0 rfl rfl 1 (by decide) (hts _ (mG wm_54)) (fun _ h9 => h9) rfl dX0_hasLiteral_11 ?_
    refine lv_iload_n hx hb dX0_hasLiteral_14 rfl (lv_at hl 1 rfl) ?_
    refine va_iald hx hb hK hP 2 0 rfl rfl hi5 dX0_hasLiteral_15 ?_
    refine lv_topi (fun v15 e15 => ?_)
    refine lv_iload_n hx hb dX0_hasLiteral_16 rfl (lv_at hl 2 rfl) ?_
    refine lv_icmp_ne (tgt := 24) hx hb dX0_hasLiteral_17 (by decide) (fun c17 => ?_) (fun c17 => ?_)
    · refine lv_iconst (v := 0) hx hb dX0_hasLiteral_24 (by decide) ?_
      exact W.zret (v := 0) hx hb hr (by decide) (fun t ht hW => ⟨0, rfl, (by subst e5 e15; simp [gb_has, c7, c17]), ht⟩) (fun _ h => nomatch h) dX0_hasLiteral_25
    · refine lv_iconst (v := 1) hx hb dX0_hasLiteral_20 (by decide) ?_
      refine lv_goto (tgt := 25) hx hb dX0_hasLiteral_21 (by decide) ?_
      exact W.zret (v := 1) hx hb hr (by decide) (fun t ht hW => ⟨1, rfl, (by subst e5 e15; simp [gb_has, c7, c17]), ht⟩) (fun _ h => nomatch h) dX0_hasLiteral_25
set_option maxHeartbeats 4000000 in
set_option maxRecDepth 100000 in
/-- kindOf -/
theorem c_kindOf (l : Launch) (D : va_G) (h0 : Nat) (cI : ClassId) (n : Nat) (ad : Nat → Nat) (ar : Nat → Nat → Int32) (iv : Nat → Int32) (x : Int32) (hi : vp_in x n) : Met l yX0_kindOf wsX0_kindOf ({ frames := 1, cells := 0, slots := 0, locals := 21 }) (rP D (gW h0 cI n ad ar iv) [(cI, .int)] [.ref h0, .int x]) (vp_Si (fun r => r = gb_kind ar x)) 0 0 (fun _ => False) := by
  refine Met.ofW (cc := cX0_kindOf) (maxL := 2) (ret := (some .int)) (by decide) rfl ?_
  intro p e s m args below meth c s₁ B hml hv
  obtain ⟨rfl, hP, hK⟩ := hv
  have hx := B.exec
  have hb := B.bytes
  have hr := B.returns
  have hts := atoms_spec (ws := wsX0_kindOf) B.pre
  have hown : s.vm.findClass RX0 = some m.cls := findClass_of_methodNamed B.named
  have hlocks := B.notSynchronized
  have hl := lv_entry ([.ref h0, .int x]) (n := 2) (Nat.le_of_ble_eq_true rfl)
  rw [lg_entry_eq]
  generalize (lg_sl ([.ref h0, .int x]) ++ List.replicate (2 - (lg_sl ([.ref h0, .int x])).length) Slot.unset).toArray = ls at hl ⊢
  have hl : lv_has ls 2 [(0, .ref h0), (1, .int x)] := hl
  refine lv_iload_n hx hb dX0_kindOf_0 rfl (lv_at hl 1 rfl) ?_
  refine lv_if_ne (tgt := 6) hx hb dX0_kindOf_1 (by decide) (fun c1 => ?_) (fun c1 => ?_)
  · refine lv_aload_n hx hb dX0_kindOf_6 rfl (lv_at hl 0 rfl) ?_
    refine lv_iload_n hx hb dX0_kindOf_7 rfl (lv_at hl 1 rfl) ?_
    have hc8 := hi
    refine vp_callSi (W.runV (As := [.int x]) (rest := []) ⟨hx, hb, hml, hown, hts⟩ (c_isGate l D h0 cI n ad ar iv x hc8) (cwV 1 hts gX0_kindOf_X0_isGate rfl rfl rfl (by decide +kernel) ⟨Nat.le_of_ble_eq_true rfl, Nat.le_of_ble_eq_true rfl⟩) (rP_V hK hP (va_recv hK hP (ci := 0) (q0 := 0) rfl rfl)) rfl rfl hl.1 rfl (lv_room (Nat.le_of_ble_eq_true rfl)) dX0_kindOf_8 ⟨Nat.zero_le _, Nat.zero_le _⟩) (fun r8 e8 => ?_)
    refine lv_if_eq (tgt := 18) hx hb dX0_kindOf_11 (by decide) (fun c11 => ?_) (fun c11 => ?_)
    · refine lv_iconst (v := 1) hx hb dX0_kindOf_18 (by decide) ?_
      exact W.iret (v := 1) hx hb hr (fun t ht hW => ⟨1, rfl, (by subst e8; simp [gb_kind, c1, c11]), ht⟩) (fun _ h => nomatch h) dX0_kindOf_19
    · refine lv_iconst (v := 2) hx hb dX0_kindOf_14 (by decide) ?_
      refine lv_goto (tgt := 19) hx hb dX0_kindOf_15 (by decide) ?_
      exact W.iret (v := 2) hx hb hr (fun t ht hW => ⟨2, rfl, (by subst e8; simp [gb_kind, c1, c11]), ht⟩) (fun _ h => nomatch h) dX0_kindOf_19
  · refine lv_iconst (v := 0) hx hb dX0_kindOf_4 (by decide) ?_
    exact W.iret (v := 0) hx hb hr (fun t ht hW => ⟨0, rfl, (by simp [gb_kind, c1]), ht⟩) (fun _ h => nomatch h) dX0_kindOf_5
set_option maxHeartbeats 4000000 in
set_option maxRecDepth 100000 in
/-- isGateAgainst -/
theorem c_isGateAgainst (l : Launch) (D : va_G) (h0 : Nat) (cI : ClassId) (n : Nat) (ad : Nat → Nat) (ar : Nat → Nat → Int32) (iv : Nat → Int32) (x : Int32) (k : Int32) (h1 : vp_in (gb_sh x) n) (h2 : vp_in k n) : Met l yX0_isGateAgainst wsX0_isGateAgainst ({ frames := 1, cells := 0, slots := 0, locals := 22 }) (rP D (gW h0 cI n ad ar iv) [(cI, .int)] [.ref h0, .int x, .int k]) (vp_Si (fun r => r = gb_ag ar x k)) 0 0 (fun _ => False) := by
  refine Met.ofW (cc := cX0_isGateAgainst) (maxL := 4) (ret := (some .boolean)) (by decide) rfl ?_
  intro p e s m args below meth c s₁ B hml hv
  obtain ⟨rfl, hP, hK⟩ := hv
  have hx := B.exec
  have hb := B.bytes
  have hr := B.returns
  have hts := atoms_spec (ws := wsX0_isGateAgainst) B.pre
  have hown : s.vm.findClass RX0 = some m.cls := findClass_of_methodNamed B.named
  have hlocks := B.notSynchronized
  have hl := lv_entry ([.ref h0, .int x, .int k]) (n := 4) (Nat.le_of_ble_eq_true rfl)
  rw [lg_entry_eq]
  generalize (lg_sl ([.ref h0, .int x, .int k]) ++ List.replicate (4 - (lg_sl ([.ref h0, .int x, .int k])).length) Slot.unset).toArray = ls at hl ⊢
  have hl : lv_has ls 4 [(0, .ref h0), (1, .int x), (2, .int k)] := hl
  refine lv_iload_n hx hb dX0_isGateAgainst_0 rfl (lv_at hl 1 rfl) ?_
  refine lv_iconst (v := 1) hx hb dX0_isGateAgainst_1 (by decide) ?_
  refine lv_ishr hx hb dX0_isGateAgainst_2 ?_
  refine lv_topi (fun v2 e2 => ?_)
  have e2 : v2 = gb_sh x := e2
  have hi28 : vp_in v2 n := by rw [e2]; exact h1
  have hi45 := hi28
  have hc13 := hi28
  have hc32 := h2
  have hc49 := h2
  refine lv_istore_n (lv' := [(3, .int v2), (0, .ref h0), (1, .int x), (2, .int k)]) hx hb dX0_isGateAgainst_3 rfl hl (by decide) rfl (fun ls hl => ?_)
  refine lv_iload_n hx hb dX0_isGateAgainst_4 rfl (lv_at hl 2 rfl) ?_
  refine vp_callSi (W.runS (As := [.int x]) (rest := []) ⟨hx, hb, hml, hown, hts⟩ (c_isNegated l x) (va_cwS 1 hts gX0_isGateAgainst_X0_isNegated rfl rfl rfl (by decide +kernel) ⟨Nat.le_of_ble_eq_true rfl, Nat.le_of_ble_eq_true rfl⟩) preEq rfl rfl hl.1 rfl (lv_room (Nat.le_of_ble_eq_true rfl)) dX0_isGateAgainst_5 ⟨Nat.zero_le _, Nat.zero_le _⟩) (fun r5 e5 => ?_)
  refine lv_if_ne (tgt := 19) hx hb dX0_isGateAgainst_8 (by decide) (fun c8 => ?_) (fun c8 => ?_)
  · refine lv_iconst (v := 0) hx hb dX0_isGateAgainst_19 (by decide) ?_
    exact W.zret (v := 0) hx hb hr (by decide) (fun t ht hW => ⟨0, rfl, (by subst e2 e5; simp [gb_ag, c8]), ht⟩) (fun _ h => nomatch h) dX0_isGateAgainst_20
  · refine lv_aload_n hx hb dX0_isGateAgainst_11 rfl (lv_at hl 1 rfl) ?_
    refine lv_iload_n hx hb dX0_isGateAgainst_12 rfl (lv_at hl 0 rfl) ?_
    refine vp_callSi (W.runV (As := [.int v2]) (rest := []) ⟨hx, hb, hml, hown, hts⟩ (c_isGate l D h0 cI n ad ar iv v2 hc13) (cwV 1 hts gX0_isGateAgainst_X0_isGate rfl rfl rfl (by decide +kernel) ⟨Nat.le_of_ble_eq_true rfl, Nat.le_of_ble_eq_true rfl⟩) (rP_V hK hP (va_recv hK hP (ci := 0) (q0 := 0) rfl rfl)) rfl rfl hl.1 rfl (lv_room (Nat.le_of_ble_eq_true rfl)) dX0_isGateAgainst_13 ⟨Nat.zero_le _, Nat.zero_le _⟩) (fun r13 e13 => ?_)
    refine lv_if_ne (tgt := 21) hx hb dX0_isGateAgainst_16 (by decide) (fun c16 => ?_) (fun c16 => ?_)
    · refine lv_aload_n hx hb dX0_isGateAgainst_21 rfl (lv_at hl 1 rfl) ?_
      refine lv_iload_n hx hb dX0_isGateAgainst_22 rfl (lv_at hl 3 rfl) ?_
      refine lv_aload_n hx hb dX0_isGateAgainst_23 rfl (lv_at hl 1 rfl) ?_
      refine va_get (D := D) (ci := 0) (v := .ref (ad 0)) (C := RX0) (T := TX0) (N := 11) hx hb hts inX0 hown hK hP 0 rfl rfl 0 (by decide) (hts _ (mG wm_53)) (fun _ h9 => h9) rfl dX0_isGateAgainst_24 ?_
      refine lv_iload_n hx hb dX0_isGateAgainst_27 rfl (lv_at hl 0 rfl) ?_
      refine va_iald hx hb hK hP 1 0 rfl rfl hi28 dX0_isGateAgainst_28 ?_
      refine lv_topi (fun v28 e28 => ?_)
      refine vp_callSi (W.runS (As := [.int v28]) (rest := [.int k, .ref h0]) ⟨hx, hb, hml, hown, hts⟩ (c_not l v28) (va_cwS 1 hts gX0_isGateAgainst_X0_not rfl rfl rfl (by decide +kernel) ⟨Nat.le_of_ble_eq_true rfl, Nat.le_of_ble_eq_true rfl⟩) preEq rfl rfl hl.1 rfl (lv_room (Nat.le_of_ble_eq_true rfl)) dX0_isGateAgainst_29 ⟨Nat.zero_le _, Nat.zero_le _⟩) (fun r29 e29 => ?_)
      refine vp_callSi (W.runV (As := [.int k, .int r29]) (rest := []) ⟨hx, hb, hml, hown, hts⟩ (c_hasLiteral l D h0 cI n ad ar iv k r29 hc32) (cwV 2 hts gX0_isGateAgainst_X0_hasLiteral rfl rfl rfl (by decide +kernel) ⟨Nat.le_of_ble_eq_true rfl, Nat.le_of_ble_eq_true rfl⟩) (rP_V hK hP (va_recv hK hP (ci := 0) (q0 := 0) rfl rfl)) rfl rfl hl.1 rfl (lv_room (Nat.le_of_ble_eq_true rfl)) dX0_isGateAgainst_32 ⟨Nat.zero_le _, Nat.zero_le _⟩) (fun r32 e32 => ?_)
      refine lv_if_ne (tgt := 55) hx hb dX0_isGateAgainst_35 (by decide) (fun c35 => ?_) (fun c35 => ?_)
      · refine lv_iconst (v := 1) hx hb dX0_isGateAgainst_55 (by decide) ?_
        refine lv_goto (tgt := 60) hx hb dX0_isGateAgainst_56 (by decide) ?_
        exact W.zret (v := 1) hx hb hr (by decide) (fun t ht hW => ⟨1, rfl, (by subst e2 e5 e13 e28 e29 e32; simp [gb_ag, c8, c16, c35]), ht⟩) (fun _ h => nomatch h) dX0_isGateAgainst_60
      · refine lv_aload_n hx hb dX0_isGateAgainst_38 rfl (lv_at hl 1 rfl) ?_
        refine lv_iload_n hx hb dX0_isGateAgainst_39 rfl (lv_at hl 3 rfl) ?_
        refine lv_aload_n hx hb dX0_isGateAgainst_40 rfl (lv_at hl 1 rfl) ?_
        refine va_get (D := D) (ci := 0) (v := .ref (ad 1)) (C := RX0) (T := TX0) (N := 11) hx hb hts inX0 hown hK hP 0 rfl rfl 1 (by decide) (hts _ (mG wm_54)) (fun _ h9 => h9) rfl dX0_isGateAgainst_41 ?_
        refine lv_iload_n hx hb dX0_isGateAgainst_44 rfl (lv_at hl 0 rfl) ?_
        refine va_iald hx hb hK hP 2 0 rfl rfl hi45 dX0_isGateAgainst_45 ?_
        refine lv_topi (fun v45 e45 => ?_)
        refine vp_callSi (W.runS (As := [.int v45]) (rest := [.int k, .ref h0]) ⟨hx, hb, hml, hown, hts⟩ (c_not l v45) (va_cwS 1 hts gX0_isGateAgainst_X0_not rfl rfl rfl (by decide +kernel) ⟨Nat.le_of_ble_eq_true rfl, Nat.le_of_ble_eq_true rfl⟩) preEq rfl rfl hl.1 rfl (lv_room (Nat.le_of_ble_eq_true rfl)) dX0_isGateAgainst_46 ⟨Nat.zero_le _, Nat.zero_le _⟩) (fun r46 e46 => ?_)
        refine vp_callSi (W.runV (As := [.int k, .int r46]) (rest := []) ⟨hx, hb, hml, hown, hts⟩ (c_hasLiteral l D h0 cI n ad ar iv k r46 hc49) (cwV 2 hts gX0_isGateAgainst_X0_hasLiteral rfl rfl rfl (by decide +kernel) ⟨Nat.le_of_ble_eq_true rfl, Nat.le_of_ble_eq_true rfl⟩) (rP_V hK hP (va_recv hK hP (ci := 0) (q0 := 0) rfl rfl)) rfl rfl hl.1 rfl (lv_room (Nat.le_of_ble_eq_true rfl)) dX0_isGateAgainst_49 ⟨Nat.zero_le _, Nat.zero_le _⟩) (fun r49 e49 => ?_)
        refine lv_if_eq (tgt := 59) hx hb dX0_isGateAgainst_52 (by decide) (fun c52 => ?_) (fun c52 => ?_)
        · refine lv_iconst (v := 0) hx hb dX0_isGateAgainst_59 (by decide) ?_
          exact W.zret (v := 0) hx hb hr (by decide) (fun t ht hW => ⟨0, rfl, (by subst e2 e5 e13 e28 e29 e32 e45 e46 e49; simp [gb_ag, c8, c16, c35, c52]), ht⟩) (fun _ h => nomatch h) dX0_isGateAgainst_60
        · refine lv_iconst (v := 1) hx hb dX0_isGateAgainst_55 (by decide) ?_
          refine lv_goto (tgt := 60) hx hb dX0_isGateAgainst_56 (by decide) ?_
          exact W.zret (v := 1) hx hb hr (by decide) (fun t ht hW => ⟨1, rfl, (by subst e2 e5 e13 e28 e29 e32 e45 e46 e49; simp [gb_ag, c8, c16, c35, c52]), ht⟩) (fun _ h => nomatch h) dX0_isGateAgainst_60
    · refine lv_iconst (v := 0) hx hb dX0_isGateAgainst_19 (by decide) ?_
      exact W.zret (v := 0) hx hb hr (by decide) (fun t ht hW => ⟨0, rfl, (by subst e2 e5 e13; simp [gb_ag, c8, c16]), ht⟩) (fun _ h => nomatch h) dX0_isGateAgainst_20
set_option maxHeartbeats 4000000 in
set_option maxRecDepth 100000 in
/-- knownAnd -/
theorem c_knownAnd (l : Launch) (D : va_G) (h0 : Nat) (cI : ClassId) (n : Nat) (ad : Nat → Nat) (ar : Nat → Nat → Int32) (iv : Nat → Int32) (x : Int32) (y : Int32) (h1 : vp_in (gb_sh x) n) (h2 : vp_in (gb_sh y) n) : Met l yX0_knownAnd wsX0_knownAnd ({ frames := 2, cells := 0, slots := 0, locals := 45 }) (rP D (gW h0 cI n ad ar iv) [(cI, .int)] [.ref h0, .int x, .int y]) (vp_Si (fun r => r = gb_kn ar x y)) 0 0 (fun _ => False) := by
  refine Met.ofW (cc := cX0_knownAnd) (maxL := 4) (ret := (some .int)) (by decide) rfl ?_
  intro p e s m args below meth c s₁ B hml hv
  obtain ⟨rfl, hP, hK⟩ := hv
  have hx := B.exec
  have hb := B.bytes
  have hr := B.returns
  have hts := atoms_spec (ws := wsX0_knownAnd) B.pre
  have hown : s.vm.findClass RX0 = some m.cls := findClass_of_methodNamed B.named
  have hlocks := B.notSynchronized
  have hl := lv_entry ([.ref h0, .int x, .int y]) (n := 4) (Nat.le_of_ble_eq_true rfl)
  rw [lg_entry_eq]
  generalize (lg_sl ([.ref h0, .int x, .int y]) ++ List.replicate (4 - (lg_sl ([.ref h0, .int x, .int y])).length) Slot.unset).toArray = ls at hl ⊢
  have hl : lv_has ls 4 [(0, .ref h0), (1, .int x), (2, .int y)] := hl
  refine lv_iload_n hx hb dX0_knownAnd_0 rfl (lv_at hl 1 rfl) ?_
  refine lv_if_eq (tgt := 12) hx hb dX0_knownAnd_1 (by decide) (fun c1 => ?_) (fun c1 => ?_)
  · refine lv_iconst (v := 0) hx hb dX0_knownAnd_12 (by decide) ?_
    exact W.iret (v := 0) hx hb hr (fun t ht hW => ⟨0, rfl, (by simp [gb_kn, c1]), ht⟩) (fun _ h => nomatch h) dX0_knownAnd_13
  · refine lv_iload_n hx hb dX0_knownAnd_4 rfl (lv_at hl 1 rfl) ?_
    refine lv_iload_n hx hb dX0_knownAnd_5 rfl (lv_at hl 2 rfl) ?_
    refine vp_callSi (W.runS (As := [.int y]) (rest := [.int x]) ⟨hx, hb, hml, hown, hts⟩ (c_not l y) (va_cwS 1 hts gX0_knownAnd_X0_not rfl rfl rfl (by decide +kernel) ⟨Nat.le_of_ble_eq_true rfl, Nat.le_of_ble_eq_true rfl⟩) preEq rfl rfl hl.1 rfl (lv_room (Nat.le_of_ble_eq_true rfl)) dX0_knownAnd_6 ⟨Nat.zero_le _, Nat.zero_le _⟩) (fun r6 e6 => ?_)
    refine lv_icmp_ne (tgt := 14) hx hb dX0_knownAnd_9 (by decide) (fun c9 => ?_) (fun c9 => ?_)
    · refine lv_iload_n hx hb dX0_knownAnd_14 rfl (lv_at hl 1 rfl) ?_
      refine lv_iconst (v := 1) hx hb dX0_knownAnd_15 (by decide) ?_
      refine lv_icmp_ne (tgt := 21) hx hb dX0_knownAnd_16 (by decide) (fun c16 => ?_) (fun c16 => ?_)
      · refine lv_iload_n hx hb dX0_knownAnd_21 rfl (lv_at hl 1 rfl) ?_
        refine lv_iload_n hx hb dX0_knownAnd_22 rfl (lv_at hl 2 rfl) ?_
        refine lv_icmp_ne (tgt := 28) hx hb dX0_knownAnd_23 (by decide) (fun c23 => ?_) (fun c23 => ?_)
        · refine lv_iload_n hx hb dX0_knownAnd_28 rfl (lv_at hl 2 rfl) ?_
          refine lv_iconst (v := 1) hx hb dX0_knownAnd_29 (by decide) ?_
          refine lv_ishr hx hb dX0_knownAnd_30 ?_
          refine lv_topi (fun v30 e30 => ?_)
          have e30 : v30 = gb_sh y := e30
          have hc34 : vp_in v30 n := by rw [e30]; exact h2
          have hc55 := hc34
          have hc70 := hc34
          have hc84 := hc34
          have hc93b := hc34
          have hc93a := h1
          refine lv_istore_n (lv' := [(3, .int v30), (0, .ref h0), (1, .int x), (2, .int y)]) hx hb dX0_knownAnd_31 rfl hl (by decide) rfl (fun ls hl => ?_)
          refine lv_aload_n hx hb dX0_knownAnd_32 rfl (lv_at hl 1 rfl) ?_
          refine lv_iload_n hx hb dX0_knownAnd_33 rfl (lv_at hl 0 rfl) ?_
          refine vp_callSi (W.runV (As := [.int v30]) (rest := []) ⟨hx, hb, hml, hown, hts⟩ (c_isGate l D h0 cI n ad ar iv v30 hc34) (cwV 1 hts gX0_knownAnd_X0_isGate rfl rfl rfl (by decide +kernel) ⟨Nat.le_of_ble_eq_true rfl, Nat.le_of_ble_eq_true rfl⟩) (rP_V hK hP (va_recv hK hP (ci := 0) (q0 := 0) rfl rfl)) rfl rfl hl.1 rfl (lv_room (Nat.le_of_ble_eq_true rfl)) dX0_knownAnd_34 ⟨Nat.zero_le _, Nat.zero_le _⟩) (fun r34 e34 => ?_)
          refine lv_if_ne (tgt := 42) hx hb dX0_knownAnd_37 (by decide) (fun c37 => ?_) (fun c37 => ?_)
          · refine lv_iload_n hx hb dX0_knownAnd_42 rfl (lv_at hl 3 rfl) ?_
            refine vp_callSi (W.runS (As := [.int y]) (rest := []) ⟨hx, hb, hml, hown, hts⟩ (c_isNegated l y) (va_cwS 1 hts gX0_knownAnd_X0_isNegated rfl rfl rfl (by decide +kernel) ⟨Nat.le_of_ble_eq_true rfl, Nat.le_of_ble_eq_true rfl⟩) preEq rfl rfl hl.1 rfl (lv_room (Nat.le_of_ble_eq_true rfl)) dX0_knownAnd_43 ⟨Nat.zero_le _, Nat.zero_le _⟩) (fun r43 e43 => ?_)
            refine lv_if_eq (tgt := 67) hx hb dX0_knownAnd_46 (by decide) (fun c46 => ?_) (fun c46 => ?_)
            · refine lv_aload_n hx hb dX0_knownAnd_67 rfl (lv_at hl 1 rfl) ?_
              refine lv_iload_n hx hb dX0_knownAnd_68 rfl (lv_at hl 0 rfl) ?_
              refine lv_iload_n hx hb dX0_knownAnd_69 rfl (lv_at hl 2 rfl) ?_
              refine vp_callSi (W.runV (As := [.int v30, .int x]) (rest := []) ⟨hx, hb, hml, hown, hts⟩ (c_hasLiteral l D h0 cI n ad ar iv v30 x hc70) (cwV 2 hts gX0_knownAnd_X0_hasLiteral rfl rfl rfl (by decide +kernel) ⟨Nat.le_of_ble_eq_true rfl, Nat.le_of_ble_eq_true rfl⟩) (rP_V hK hP (va_recv hK hP (ci := 0) (q0 := 0) rfl rfl)) rfl rfl hl.1 rfl (lv_room (Nat.le_of_ble_eq_true rfl)) dX0_knownAnd_70 ⟨Nat.zero_le _, Nat.zero_le _⟩) (fun r70 e70 => ?_)
              refine lv_if_eq (tgt := 78) hx hb dX0_knownAnd_73 (by decide) (fun c73 => ?_) (fun c73 => ?_)
              · refine lv_aload_n hx hb dX0_knownAnd_78 rfl (lv_at hl 1 rfl) ?_
                refine lv_iload_n hx hb dX0_knownAnd_79 rfl (lv_at hl 0 rfl) ?_
                refine lv_iload_n hx hb dX0_knownAnd_80 rfl (lv_at hl 2 rfl) ?_
                refine vp_callSi (W.runS (As := [.int x]) (rest := [.int v30, .ref h0]) ⟨hx, hb, hml, hown, hts⟩ (c_not l x) (va_cwS 1 hts gX0_knownAnd_X0_not rfl rfl rfl (by decide +kernel) ⟨Nat.le_of_ble_eq_true rfl, Nat.le_of_ble_eq_true rfl⟩) preEq rfl rfl hl.1 rfl (lv_room (Nat.le_of_ble_eq_true rfl)) dX0_knownAnd_81 ⟨Nat.zero_le _, Nat.zero_le _⟩) (fun r81 e81 => ?_)
                refine vp_callSi (W.runV (As := [.int v30, .int r81]) (rest := []) ⟨hx, hb, hml, hown, hts⟩ (c_hasLiteral l D h0 cI n ad ar iv v30 r81 hc84) (cwV 2 hts gX0_knownAnd_X0_hasLiteral rfl rfl rfl (by decide +kernel) ⟨Nat.le_of_ble_eq_true rfl, Nat.le_of_ble_eq_true rfl⟩) (rP_V hK hP (va_recv hK hP (ci := 0) (q0 := 0) rfl rfl)) rfl rfl hl.1 rfl (lv_room (Nat.le_of_ble_eq_true rfl)) dX0_knownAnd_84 ⟨Nat.zero_le _, Nat.zero_le _⟩) (fun r84 e84 => ?_)
                refine lv_if_ne (tgt := 99) hx hb dX0_knownAnd_87 (by decide) (fun c87 => ?_) (fun c87 => ?_)
                · refine lv_iconst (v := 0) hx hb dX0_knownAnd_99 (by decide) ?_
                  refine lv_goto (tgt := 104) hx hb dX0_knownAnd_100 (by decide) ?_
                  exact W.iret (v := 0) hx hb hr (fun t ht hW => ⟨0, rfl, (by subst e6 e30 e34 e43 e70 e81 e84; simp [gb_kn, c1, c9, c16, c23, c37, c46, c73, c87]), ht⟩) (fun _ h => nomatch h) dX0_knownAnd_104
                · refine lv_aload_n hx hb dX0_knownAnd_90 rfl (lv_at hl 1 rfl) ?_
                  refine lv_iload_n hx hb dX0_knownAnd_91 rfl (lv_at hl 2 rfl) ?_
                  refine lv_iload_n hx hb dX0_knownAnd_92 rfl (lv_at hl 0 rfl) ?_
                  refine vp_callSi (W.runV (As := [.int x, .int v30]) (rest := []) ⟨hx, hb, hml, hown, hts⟩ (c_isGateAgainst l D h0 cI n ad ar iv x v30 hc93a hc93b) (cwV 2 hts gX0_knownAnd_X0_isGateAgainst rfl rfl rfl (by decide +kernel) ⟨Nat.le_of_ble_eq_true rfl, Nat.le_of_ble_eq_true rfl⟩) (rP_V hK hP (va_recv hK hP (ci := 0) (q0 := 0) rfl rfl)) rfl rfl hl.1 rfl (lv_room (Nat.le_of_ble_eq_true rfl)) dX0_knownAnd_93 ⟨Nat.zero_le _, Nat.zero_le _⟩) (fun r93 e93 => ?_)
                  refine lv_if_eq (tgt := 103) hx hb dX0_knownAnd_96 (by decide) (fun c96 => ?_) (fun c96 => ?_)
                  · refine lv_iconst (v := -1) hx hb dX0_knownAnd_103 (by decide) ?_
                    exact W.iret (v := (-1)) hx hb hr (fun t ht hW => ⟨(-1), rfl, (by subst e6 e30 e34 e43 e70 e81 e84 e93; simp [gb_kn, c1, c9, c16, c23, c37, c46, c73, c87, c96]), ht⟩) (fun _ h => nomatch h) dX0_knownAnd_104
                  · refine lv_iconst (v := 0) hx hb dX0_knownAnd_99 (by decide) ?_
                    refine lv_goto (tgt := 104) hx hb dX0_knownAnd_100 (by decide) ?_
                    exact W.iret (v := 0) hx hb hr (fun t ht hW => ⟨0, rfl, (by subst e6 e30 e34 e43 e70 e81 e84 e93; simp [gb_kn, c1, c9, c16, c23, c37, c46, c73, c87, c96]), ht⟩) (fun _ h => nomatch h) dX0_knownAnd_104
              · refine lv_iload_n hx hb dX0_knownAnd_76 rfl (lv_at hl 3 rfl) ?_
                exact W.iret (v := y) hx hb hr (fun t ht hW => ⟨y, rfl, (by subst e6 e30 e34 e43 e70; simp [gb_kn, c1, c9, c16, c23, c37, c46, c73]), ht⟩) (fun _ h => nomatch h) dX0_knownAnd_77
            · refine lv_aload_n hx hb dX0_knownAnd_49 rfl (lv_at hl 1 rfl) ?_
              refine lv_iload_n hx hb dX0_knownAnd_50 rfl (lv_at hl 0 rfl) ?_
              refine lv_iload_n hx hb dX0_knownAnd_51 rfl (lv_at hl 2 rfl) ?_
              refine vp_callSi (W.runS (As := [.int x]) (rest := [.int v30, .ref h0]) ⟨hx, hb, hml, hown, hts⟩ (c_not l x) (va_cwS 1 hts gX0_knownAnd_X0_not rfl rfl rfl (by decide +kernel) ⟨Nat.le_of_ble_eq_true rfl, Nat.le_of_ble_eq_true rfl⟩) preEq rfl rfl hl.1 rfl (lv_room (Nat.le_of_ble_eq_true rfl)) dX0_knownAnd_52 ⟨Nat.zero_le _, Nat.zero_le _⟩) (fun r52 e52 => ?_)
              refine vp_callSi (W.runV (As := [.int v30, .int r52]) (rest := []) ⟨hx, hb, hml, hown, hts⟩ (c_hasLiteral l D h0 cI n ad ar iv v30 r52 hc55) (cwV 2 hts gX0_knownAnd_X0_hasLiteral rfl rfl rfl (by decide +kernel) ⟨Nat.le_of_ble_eq_true rfl, Nat.le_of_ble_eq_true rfl⟩) (rP_V hK hP (va_recv hK hP (ci := 0) (q0 := 0) rfl rfl)) rfl rfl hl.1 rfl (lv_room (Nat.le_of_ble_eq_true rfl)) dX0_knownAnd_55 ⟨Nat.zero_le _, Nat.zero_le _⟩) (fun r55 e55 => ?_)
              refine lv_if_eq (tgt := 65) hx hb dX0_knownAnd_58 (by decide) (fun c58 => ?_) (fun c58 => ?_)
              · refine lv_iconst (v := -1) hx hb dX0_knownAnd_65 (by decide) ?_
                exact W.iret (v := (-1)) hx hb hr (fun t ht hW => ⟨(-1), rfl, (by subst e6 e30 e34 e43 e52 e55; simp [gb_kn, c1, c9, c16, c23, c37, c46, c58]), ht⟩) (fun _ h => nomatch h) dX0_knownAnd_66
              · refine lv_iload_n hx hb dX0_knownAnd_61 rfl (lv_at hl 2 rfl) ?_
                refine lv_goto (tgt := 66) hx hb dX0_knownAnd_62 (by decide) ?_
                exact W.iret (v := x) hx hb hr (fun t ht hW => ⟨x, rfl, (by subst e6 e30 e34 e43 e52 e55; simp [gb_kn, c1, c9, c16, c23, c37, c46, c58]), ht⟩) (fun _ h => nomatch h) dX0_knownAnd_66
          · refine lv_iconst (v := -1) hx hb dX0_knownAnd_40 (by decide) ?_
            exact W.iret (v := (-1)) hx hb hr (fun t ht hW => ⟨(-1), rfl, (by subst e6 e30 e34; simp [gb_kn, c1, c9, c16, c23, c37]), ht⟩) (fun _ h => nomatch h) dX0_knownAnd_41
        · refine lv_iload_n hx hb dX0_knownAnd_26 rfl (lv_at hl 1 rfl) ?_
          exact W.iret (v := x) hx hb hr (fun t ht hW => ⟨x, rfl, (by subst e6; rw [gb_kn, if_neg (fun z => z.elim c1 c9), if_neg c16, if_pos c23]), ht⟩) (fun _ h => nomatch h) dX0_knownAnd_27
      · refine lv_iload_n hx hb dX0_knownAnd_19 rfl (lv_at hl 2 rfl) ?_
        exact W.iret (v := y) hx hb hr (fun t ht hW => ⟨y, rfl, (by subst e6; rw [gb_kn, if_neg (fun z => z.elim c1 c9), if_pos c16]), ht⟩) (fun _ h => nomatch h) dX0_knownAnd_20
    · refine lv_iconst (v := 0) hx hb dX0_knownAnd_12 (by decide) ?_
      exact W.iret (v := 0) hx hb hr (fun t ht hW => ⟨0, rfl, (by subst e6; simp [gb_kn, c1, c9]), ht⟩) (fun _ h => nomatch h) dX0_knownAnd_13
set_option maxHeartbeats 4000000 in
set_option maxRecDepth 100000 in
/-- restOf -/
theorem c_restOf (l : Launch) (D : va_G) (h0 : Nat) (cI : ClassId) (n : Nat) (ad : Nat → Nat) (ar : Nat → Nat → Int32) (iv : Nat → Int32) (x : Int32) (y : Int32) (h2 : vp_in (gb_sh y) n) : Met l yX0_restOf wsX0_restOf ({ frames := 1, cells := 0, slots := 0, locals := 21 }) (rP D (gW h0 cI n ad ar iv) [(cI, .int)] [.ref h0, .int x, .int y]) (vp_Si (fun r => r = gb_re ar x y)) 0 0 (fun _ => False) := by
  refine Met.ofW (cc := cX0_restOf) (maxL := 4) (ret := (some .int)) (by decide) rfl ?_
  intro p e s m args below meth c s₁ B hml hv
  obtain ⟨rfl, hP, hK⟩ := hv
  have hx := B.exec
  have hb := B.bytes
  have hr := B.returns
  have hts := atoms_spec (ws := wsX0_restOf) B.pre
  have hown : s.vm.findClass RX0 = some m.cls := findClass_of_methodNamed B.named
  have hlocks := B.notSynchronized
  have hl := lv_entry ([.ref h0, .int x, .int y]) (n := 4) (Nat.le_of_ble_eq_true rfl)
  rw [lg_entry_eq]
  generalize (lg_sl ([.ref h0, .int x, .int y]) ++ List.replicate (4 - (lg_sl ([.ref h0, .int x, .int y])).length) Slot.unset).toArray = ls at hl ⊢
  have hl : lv_has ls 4 [(0, .ref h0), (1, .int x), (2, .int y)] := hl
  refine lv_iload_n hx hb dX0_restOf_0 rfl (lv_at hl 2 rfl) ?_
  refine lv_iconst (v := 1) hx hb dX0_restOf_1 (by decide) ?_
  refine lv_ishr hx hb dX0_restOf_2 ?_
  refine lv_topi (fun v2 e2 => ?_)
  have e2 : v2 = gb_sh y := e2
  have hi26 : vp_in v2 n := by rw [e2]; exact h2
  have hi36 := hi26
  have hi46 := hi26
  have hi56 := hi26
  have hc13 := hi26
  refine lv_istore_n (lv' := [(3, .int v2), (0, .ref h0), (1, .int x), (2, .int y)]) hx hb dX0_restOf_3 rfl hl (by decide) rfl (fun ls hl => ?_)
  refine lv_iload_n hx hb dX0_restOf_4 rfl (lv_at hl 3 rfl) ?_
  refine vp_callSi (W.runS (As := [.int y]) (rest := []) ⟨hx, hb, hml, hown, hts⟩ (c_isNegated l y) (va_cwS 1 hts gX0_restOf_X0_isNegated rfl rfl rfl (by decide +kernel) ⟨Nat.le_of_ble_eq_true rfl, Nat.le_of_ble_eq_true rfl⟩) preEq rfl rfl hl.1 rfl (lv_room (Nat.le_of_ble_eq_true rfl)) dX0_restOf_5 ⟨Nat.zero_le _, Nat.zero_le _⟩) (fun r5 e5 => ?_)
  refine lv_if_eq (tgt := 19) hx hb dX0_restOf_8 (by decide) (fun c8 => ?_) (fun c8 => ?_)
  · refine lv_iconst (v := -1) hx hb dX0_restOf_19 (by decide) ?_
    exact W.iret (v := (-1)) hx hb hr (fun t ht hW => ⟨(-1), rfl, (by subst e2 e5; simp [gb_re, c8]), ht⟩) (fun _ h => nomatch h) dX0_restOf_20
  · refine lv_aload_n hx hb dX0_restOf_11 rfl (lv_at hl 1 rfl) ?_
    refine lv_iload_n hx hb dX0_restOf_12 rfl (lv_at hl 0 rfl) ?_
    refine vp_callSi (W.runV (As := [.int v2]) (rest := []) ⟨hx, hb, hml, hown, hts⟩ (c_isGate l D h0 cI n ad ar iv v2 hc13) (cwV 1 hts gX0_restOf_X0_isGate rfl rfl rfl (by decide +kernel) ⟨Nat.le_of_ble_eq_true rfl, Nat.le_of_ble_eq_true rfl⟩) (rP_V hK hP (va_recv hK hP (ci := 0) (q0 := 0) rfl rfl)) rfl rfl hl.1 rfl (lv_room (Nat.le_of_ble_eq_true rfl)) dX0_restOf_13 ⟨Nat.zero_le _, Nat.zero_le _⟩) (fun r13 e13 => ?_)
    refine lv_if_ne (tgt := 21) hx hb dX0_restOf_16 (by decide) (fun c16 => ?_) (fun c16 => ?_)
    · refine lv_aload_n hx hb dX0_restOf_21 rfl (lv_at hl 1 rfl) ?_
      refine va_get (D := D) (ci := 0) (v := .ref (ad 0)) (C := RX0) (T := TX0) (N := 11) hx hb hts inX0 hown hK hP 0 rfl rfl 0 (by decide) (hts _ (mG wm_53)) (fun _ h9 => h9) rfl dX0_restOf_22 ?_
      refine lv_iload_n hx hb dX0_restOf_25 rfl (lv_at hl 0 rfl) ?_
      refine va_iald hx hb hK hP 1 0 rfl rfl hi26 dX0_restOf_26 ?_
      refine lv_topi (fun v26 e26 => ?_)
      refine lv_iload_n hx hb dX0_restOf_27 rfl (lv_at hl 2 rfl) ?_
      refine lv_icmp_ne (tgt := 41) hx hb dX0_restOf_28 (by decide) (fun c28 => ?_) (fun c28 => ?_)
      · refine lv_aload_n hx hb dX0_restOf_41 rfl (lv_at hl 1 rfl) ?_
        refine va_get (D := D) (ci := 0) (v := .ref (ad 1)) (C := RX0) (T := TX0) (N := 11) hx hb hts inX0 hown hK hP 0 rfl rfl 1 (by decide) (hts _ (mG wm_54)) (fun _ h9 => h9) rfl dX0_restOf_42 ?_
        refine lv_iload_n hx hb dX0_restOf_45 rfl (lv_at hl 0 rfl) ?_
        refine va_iald hx hb hK hP 2 0 rfl rfl hi46 dX0_restOf_46 ?_
        refine lv_topi (fun v46 e46 => ?_)
        refine lv_iload_n hx hb dX0_restOf_47 rfl (lv_at hl 2 rfl) ?_
        refine lv_icmp_ne (tgt := 63) hx hb dX0_restOf_48 (by decide) (fun c48 => ?_) (fun c48 => ?_)
        · refine lv_iconst (v := -1) hx hb dX0_restOf_63 (by decide) ?_
          exact W.iret (v := (-1)) hx hb hr (fun t ht hW => ⟨(-1), rfl, (by subst e2 e5 e13 e26 e46; simp [gb_re, c8, c16, c28, c48]), ht⟩) (fun _ h => nomatch h) dX0_restOf_64
        · refine lv_aload_n hx hb dX0_restOf_51 rfl (lv_at hl 1 rfl) ?_
          refine va_get (D := D) (ci := 0) (v := .ref (ad 0)) (C := RX0) (T := TX0) (N := 11) hx hb hts inX0 hown hK hP 0 rfl rfl 0 (by decide) (hts _ (mG wm_53)) (fun _ h9 => h9) rfl dX0_restOf_52 ?_
          refine lv_iload_n hx hb dX0_restOf_55 rfl (lv_at hl 0 rfl) ?_
          refine va_iald hx hb hK hP 1 0 rfl rfl hi56 dX0_restOf_56 ?_
          refine lv_topi (fun v56 e56 => ?_)
          refine vp_callSi (W.runS (As := [.int v56]) (rest := []) ⟨hx, hb, hml, hown, hts⟩ (c_not l v56) (va_cwS 1 hts gX0_restOf_X0_not rfl rfl rfl (by decide +kernel) ⟨Nat.le_of_ble_eq_true rfl, Nat.le_of_ble_eq_true rfl⟩) preEq rfl rfl hl.1 rfl (lv_room (Nat.le_of_ble_eq_true rfl)) dX0_restOf_57 ⟨Nat.zero_le _, Nat.zero_le _⟩) (fun r57 e57 => ?_)
          refine lv_goto (tgt := 64) hx hb dX0_restOf_60 (by decide) ?_
          exact W.iret (v := r57) hx hb hr (fun t ht hW => ⟨r57, rfl, (by subst e2 e5 e13 e26 e46 e56 e57; simp [gb_re, c8, c16, c28, c48]), ht⟩) (fun _ h => nomatch h) dX0_restOf_64
      · refine lv_aload_n hx hb dX0_restOf_31 rfl (lv_at hl 1 rfl) ?_
        refine va_get (D := D) (ci := 0) (v := .ref (ad 1)) (C := RX0) (T := TX0) (N := 11) hx hb hts inX0 hown hK hP 0 rfl rfl 1 (by decide) (hts _ (mG wm_54)) (fun _ h9 => h9) rfl dX0_restOf_32 ?_
        refine lv_iload_n hx hb dX0_restOf_35 rfl (lv_at hl 0 rfl) ?_
        refine va_iald hx hb hK hP 2 0 rfl rfl hi36 dX0_restOf_36 ?_
        refine lv_topi (fun v36 e36 => ?_)
        refine vp_callSi (W.runS (As := [.int v36]) (rest := []) ⟨hx, hb, hml, hown, hts⟩ (c_not l v36) (va_cwS 1 hts gX0_restOf_X0_not rfl rfl rfl (by decide +kernel) ⟨Nat.le_of_ble_eq_true rfl, Nat.le_of_ble_eq_true rfl⟩) preEq rfl rfl hl.1 rfl (lv_room (Nat.le_of_ble_eq_true rfl)) dX0_restOf_37 ⟨Nat.zero_le _, Nat.zero_le _⟩) (fun r37 e37 => ?_)
        exact W.iret (v := r37) hx hb hr (fun t ht hW => ⟨r37, rfl, (by subst e2 e5 e13 e26 e36 e37; simp [gb_re, c8, c16, c28]), ht⟩) (fun _ h => nomatch h) dX0_restOf_40
    · refine lv_iconst (v := -1) hx hb dX0_restOf_19 (by decide) ?_
      exact W.iret (v := (-1)) hx hb hr (fun t ht hW => ⟨(-1), rfl, (by subst e2 e5 e13; simp [gb_re, c8, c16]), ht⟩) (fun _ h => nomatch h) dX0_restOf_20
