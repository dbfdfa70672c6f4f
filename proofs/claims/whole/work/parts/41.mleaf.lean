set_option maxHeartbeats 4000000 in
set_option maxRecDepth 100000 in
/-- the reference: thrown -/
theorem m_thrown (l : Launch) (D : va_G) (h1 : Nat) (cI cB cZ : ClassId) (ad : Nat → Nat) (ar : Nat → Nat → Int32) (iv : Nat → Int32)   : Met l yX1_thrown wsX1_thrown ({ frames := 0, cells := 0, slots := 0, locals := 0 }) (rP D (mW h1 cI cB cZ ad ar iv) [(cI, .int), (cB, .byte), (cZ, .boolean)] [.ref h1]) (vp_Si (fun r => r = iv 0)) 0 0 (fun _ => False) := by
  refine Met.ofW (cc := cX1_thrown) (maxL := 1) (ret := (some .int)) (by decide) rfl ?_
  intro p e s m args below meth c s₁ B hml hv
  obtain ⟨rfl, hP, hK⟩ := hv
  have hx := B.exec
  have hb := B.bytes
  have hr := B.returns
  have hts := atoms_spec (ws := wsX1_thrown) B.pre
  have hown : s.vm.findClass RX1 = some m.cls := findClass_of_methodNamed B.named
  have hlocks := B.notSynchronized
  have hl := lv_entry ([.ref h1]) (n := 1) (Nat.le_of_ble_eq_true rfl)
  rw [lg_entry_eq]
  generalize (lg_sl ([.ref h1]) ++ List.replicate (1 - (lg_sl ([.ref h1])).length) Slot.unset).toArray = ls at hl ⊢
  have hl : lv_has ls 1 [(0, .ref h1)] := hl
  refine lv_aload_n hx hb dX1_thrown_0 rfl (lv_at hl 0 rfl) ?_
  refine va_get (D := D) (ci := 1) (v := .int (iv 0)) (C := RX1) (T := TX1) (N := 8) hx hb hts inX1 hown hK hP 0 rfl rfl 5 (by decide) (hts _ (mG wm_368)) (fun _ h9 => h9) rfl dX1_thrown_1 ?_
  exact W.iret (v := (iv 0)) hx hb hr (fun t ht hW => ⟨(iv 0), rfl, rfl, ht⟩) (fun _ h => nomatch h) dX1_thrown_4
set_option maxHeartbeats 4000000 in
set_option maxRecDepth 100000 in
/-- the reference: isLiteral -/
theorem m_isLiteral (l : Launch) (D : va_G) (h1 : Nat) (cI cB cZ : ClassId) (ad : Nat → Nat) (ar : Nat → Nat → Int32) (iv : Nat → Int32) (x : Int32)  : Met l yX1_isLiteral wsX1_isLiteral ({ frames := 0, cells := 0, slots := 0, locals := 0 }) (rP D (mW h1 cI cB cZ ad ar iv) [(cI, .int), (cB, .byte), (cZ, .boolean)] [.ref h1, .int x]) (vp_Si (fun r => r = mi_lit iv x)) 0 0 (fun _ => False) := by
  refine Met.ofW (cc := cX1_isLiteral) (maxL := 2) (ret := (some .boolean)) (by decide) rfl ?_
  intro p e s m args below meth c s₁ B hml hv
  obtain ⟨rfl, hP, hK⟩ := hv
  have hx := B.exec
  have hb := B.bytes
  have hr := B.returns
  have hts := atoms_spec (ws := wsX1_isLiteral) B.pre
  have hown : s.vm.findClass RX1 = some m.cls := findClass_of_methodNamed B.named
  have hlocks := B.notSynchronized
  have hl := lv_entry ([.ref h1, .int x]) (n := 2) (Nat.le_of_ble_eq_true rfl)
  rw [lg_entry_eq]
  generalize (lg_sl ([.ref h1, .int x]) ++ List.replicate (2 - (lg_sl ([.ref h1, .int x])).length) Slot.unset).toArray = ls at hl ⊢
  have hl : lv_has ls 2 [(0, .ref h1), (1, .int x)] := hl
  refine lv_iload_n hx hb dX1_isLiteral_0 rfl (lv_at hl 1 rfl) ?_
  refine lv_if_lt (tgt := 18) hx hb dX1_isLiteral_1 (by decide) (fun c1 => ?_) (fun c1 => ?_)
  · refine lv_iconst (v := 0) hx hb dX1_isLiteral_18 (by decide) ?_
    exact W.zret (v := 0) hx hb hr (by decide) (fun t ht hW => ⟨0, rfl, (by simp [mi_lit, c1]), ht⟩) (fun _ h => nomatch h) dX1_isLiteral_19
  · refine lv_iload_n hx hb dX1_isLiteral_4 rfl (lv_at hl 1 rfl) ?_
    refine lv_iconst (v := 2) hx hb dX1_isLiteral_5 (by decide) ?_
    refine lv_aload_n hx hb dX1_isLiteral_6 rfl (lv_at hl 0 rfl) ?_
    refine va_get (D := D) (ci := 1) (v := .int (iv 1)) (C := RX1) (T := TX1) (N := 8) hx hb hts inX1 hown hK hP 0 rfl rfl 6 (by decide) (hts _ (mG wm_369)) (fun _ h9 => h9) rfl dX1_isLiteral_7 ?_
    refine lv_imul hx hb dX1_isLiteral_10 ?_
    refine lv_topi (fun v10 e10 => ?_)
    refine lv_icmp_ge (tgt := 18) hx hb dX1_isLiteral_11 (by decide) (fun c11 => ?_) (fun c11 => ?_)
    · refine lv_iconst (v := 0) hx hb dX1_isLiteral_18 (by decide) ?_
      exact W.zret (v := 0) hx hb hr (by decide) (fun t ht hW => ⟨0, rfl, (by subst e10; simp [mi_lit, c1, c11]), ht⟩) (fun _ h => nomatch h) dX1_isLiteral_19
    · refine lv_iconst (v := 1) hx hb dX1_isLiteral_14 (by decide) ?_
      refine lv_goto (tgt := 19) hx hb dX1_isLiteral_15 (by decide) ?_
      exact W.zret (v := 1) hx hb hr (by decide) (fun t ht hW => ⟨1, rfl, (by subst e10; simp [mi_lit, c1, c11]), ht⟩) (fun _ h => nomatch h) dX1_isLiteral_19
set_option maxHeartbeats 4000000 in
set_option maxRecDepth 100000 in
/-- the reference: isInput -/
theorem m_isInput (l : Launch) (D : va_G) (h1 : Nat) (cI cB cZ : ClassId) (ad : Nat → Nat) (ar : Nat → Nat → Int32) (iv : Nat → Int32) (x : Int32) (nc : Nat) (hnc : iv 1 = nI nc) (hmx : nc ≤ 20000) : Met l yX1_isInput wsX1_isInput ({ frames := 0, cells := 0, slots := 0, locals := 0 }) (rP D (mW h1 cI cB cZ ad ar iv) [(cI, .int), (cB, .byte), (cZ, .boolean)] [.ref h1, .int x]) (vp_Si (fun r => r = mi_inp ar iv x)) 0 0 (fun _ => False) := by
  refine Met.ofW (cc := cX1_isInput) (maxL := 2) (ret := (some .boolean)) (by decide) rfl ?_
  intro p e s m args below meth c s₁ B hml hv
  obtain ⟨rfl, hP, hK⟩ := hv
  have hx := B.exec
  have hb := B.bytes
  have hr := B.returns
  have hts := atoms_spec (ws := wsX1_isInput) B.pre
  have hown : s.vm.findClass RX1 = some m.cls := findClass_of_methodNamed B.named
  have hlocks := B.notSynchronized
  have hl := lv_entry ([.ref h1, .int x]) (n := 2) (Nat.le_of_ble_eq_true rfl)
  rw [lg_entry_eq]
  generalize (lg_sl ([.ref h1, .int x]) ++ List.replicate (2 - (lg_sl ([.ref h1, .int x])).length) Slot.unset).toArray = ls at hl ⊢
  have hl : lv_has ls 2 [(0, .ref h1), (1, .int x)] := hl
  refine lv_iload_n hx hb dX1_isInput_0 rfl (lv_at hl 1 rfl) ?_
  refine lv_if_lt (tgt := 26) hx hb dX1_isInput_1 (by decide) (fun c1 => ?_) (fun c1 => ?_)
  · refine lv_iconst (v := 0) hx hb dX1_isInput_26 (by decide) ?_
    exact W.zret (v := 0) hx hb hr (by decide) (fun t ht hW => ⟨0, rfl, (by simp [mi_inp, c1]), ht⟩) (fun _ h => nomatch h) dX1_isInput_27
  · refine lv_iload_n hx hb dX1_isInput_4 rfl (lv_at hl 1 rfl) ?_
    refine lv_aload_n hx hb dX1_isInput_5 rfl (lv_at hl 0 rfl) ?_
    refine va_get (D := D) (ci := 1) (v := .int (iv 1)) (C := RX1) (T := TX1) (N := 8) hx hb hts inX1 hown hK hP 0 rfl rfl 6 (by decide) (hts _ (mG wm_369)) (fun _ h9 => h9) rfl dX1_isInput_6 ?_
    refine lv_icmp_ge (tgt := 26) hx hb dX1_isInput_9 (by decide) (fun c9 => ?_) (fun c9 => ?_)
    · refine lv_iconst (v := 0) hx hb dX1_isInput_26 (by decide) ?_
      exact W.zret (v := 0) hx hb hr (by decide) (fun t ht hW => ⟨0, rfl, (by simp [mi_inp, c1, c9]), ht⟩) (fun _ h => nomatch h) dX1_isInput_27
    · have hi17 : vp_in x 20000 := mi_in hnc hmx c1 c9
      refine lv_aload_n hx hb dX1_isInput_12 rfl (lv_at hl 0 rfl) ?_
      refine va_get (D := D) (ci := 1) (v := .ref (ad 0)) (C := RX1) (T := TX1) (N := 8) hx hb hts inX1 hown hK hP 0 rfl rfl 0 (by decide) (hts _ (mG wm_371)) (fun _ h9 => h9) rfl dX1_isInput_13 ?_
      refine lv_iload_n hx hb dX1_isInput_16 rfl (lv_at hl 1 rfl) ?_
      refine va_bald hx hb hK hP 1 1 rfl rfl hi17 dX1_isInput_17 ?_
      refine lv_topi (fun v17 e17 => ?_)
      refine lv_iconst (v := 1) hx hb dX1_isInput_18 (by decide) ?_
      refine lv_icmp_ne (tgt := 26) hx hb dX1_isInput_19 (by decide) (fun c19 => ?_) (fun c19 => ?_)
      · refine lv_iconst (v := 0) hx hb dX1_isInput_26 (by decide) ?_
        exact W.zret (v := 0) hx hb hr (by decide) (fun t ht hW => ⟨0, rfl, (by subst e17; simp [mi_inp, c1, c9, c19]), ht⟩) (fun _ h => nomatch h) dX1_isInput_27
      · refine lv_iconst (v := 1) hx hb dX1_isInput_22 (by decide) ?_
        refine lv_goto (tgt := 27) hx hb dX1_isInput_23 (by decide) ?_
        exact W.zret (v := 1) hx hb hr (by decide) (fun t ht hW => ⟨1, rfl, (by subst e17; simp [mi_inp, c1, c9, c19]), ht⟩) (fun _ h => nomatch h) dX1_isInput_27
set_option maxHeartbeats 4000000 in
set_option maxRecDepth 100000 in
/-- the reference: isGate -/
theorem m_isGate (l : Launch) (D : va_G) (h1 : Nat) (cI cB cZ : ClassId) (ad : Nat → Nat) (ar : Nat → Nat → Int32) (iv : Nat → Int32) (x : Int32) (y : Int32) (h2 : vp_in (gb_sh x) 20000) : Met l yX1_isGate wsX1_isGate ({ frames := 0, cells := 0, slots := 0, locals := 0 }) (rP D (mW h1 cI cB cZ ad ar iv) [(cI, .int), (cB, .byte), (cZ, .boolean)] [.ref h1, .int x, .int y]) (vp_Si (fun r => r = mi_gate ar x y)) 0 0 (fun _ => False) := by
  refine Met.ofW (cc := cX1_isGate) (maxL := 3) (ret := (some .boolean)) (by decide) rfl ?_
  intro p e s m args below meth c s₁ B hml hv
  obtain ⟨rfl, hP, hK⟩ := hv
  have hx := B.exec
  have hb := B.bytes
  have hr := B.returns
  have hts := atoms_spec (ws := wsX1_isGate) B.pre
  have hown : s.vm.findClass RX1 = some m.cls := findClass_of_methodNamed B.named
  have hlocks := B.notSynchronized
  have hl := lv_entry ([.ref h1, .int x, .int y]) (n := 3) (Nat.le_of_ble_eq_true rfl)
  rw [lg_entry_eq]
  generalize (lg_sl ([.ref h1, .int x, .int y]) ++ List.replicate (3 - (lg_sl ([.ref h1, .int x, .int y])).length) Slot.unset).toArray = ls at hl ⊢
  have hl : lv_has ls 3 [(0, .ref h1), (1, .int x), (2, .int y)] := hl
  refine lv_aload_n hx hb dX1_isGate_0 rfl (lv_at hl 0 rfl) ?_
  refine va_get (D := D) (ci := 1) (v := .ref (ad 0)) (C := RX1) (T := TX1) (N := 8) hx hb hts inX1 hown hK hP 0 rfl rfl 0 (by decide) (hts _ (mG wm_371)) (fun _ h9 => h9) rfl dX1_isGate_1 ?_
  refine lv_iload_n hx hb dX1_isGate_4 rfl (lv_at hl 1 rfl) ?_
  refine lv_iconst (v := 1) hx hb dX1_isGate_5 (by decide) ?_
  refine lv_ishr hx hb dX1_isGate_6 ?_
  refine lv_topi (fun v6 e6 => ?_)
  have e6 : v6 = gb_sh x := e6
  have hi7 : vp_in v6 20000 := by rw [e6]; exact h2
  refine va_bald hx hb hK hP 1 1 rfl rfl hi7 dX1_isGate_7 ?_
  refine lv_topi (fun v7 e7 => ?_)
  refine lv_iconst (v := 2) hx hb dX1_isGate_8 (by decide) ?_
  refine lv_icmp_ne (tgt := 32) hx hb dX1_isGate_9 (by decide) (fun c9 => ?_) (fun c9 => ?_)
  · refine lv_iconst (v := 0) hx hb dX1_isGate_32 (by decide) ?_
    exact W.zret (v := 0) hx hb hr (by decide) (fun t ht hW => ⟨0, rfl, (by subst e6 e7; rw [mi_gate]; first | rw [if_neg c9] | (rw [if_pos c9, gb_neg]; first | rw [if_pos c16, if_pos c25] | rw [if_pos c16, if_neg c25] | rw [if_neg c16, if_pos c25] | rw [if_neg c16, if_neg c25])), ht⟩) (fun _ h => nomatch h) dX1_isGate_33
  · refine lv_iload_n hx hb dX1_isGate_12 rfl (lv_at hl 1 rfl) ?_
    refine lv_iconst (v := 1) hx hb dX1_isGate_13 (by decide) ?_
    refine lv_iand hx hb dX1_isGate_14 ?_
    refine lv_topi (fun v14 e14 => ?_)
    refine lv_iconst (v := 1) hx hb dX1_isGate_15 (by decide) ?_
    refine lv_icmp_ne (tgt := 23) hx hb dX1_isGate_16 (by decide) (fun c16 => ?_) (fun c16 => ?_)
    · refine lv_iconst (v := 0) hx hb dX1_isGate_23 (by decide) ?_
      refine lv_iload_n hx hb dX1_isGate_24 rfl (lv_at hl 2 rfl) ?_
      refine lv_icmp_ne (tgt := 32) hx hb dX1_isGate_25 (by decide) (fun c25 => ?_) (fun c25 => ?_)
      · refine lv_iconst (v := 0) hx hb dX1_isGate_32 (by decide) ?_
        exact W.zret (v := 0) hx hb hr (by decide) (fun t ht hW => ⟨0, rfl, (by subst e6 e7 e14; rw [mi_gate]; first | rw [if_neg c9] | (rw [if_pos c9, gb_neg]; first | rw [if_pos c16, if_pos c25] | rw [if_pos c16, if_neg c25] | rw [if_neg c16, if_pos c25] | rw [if_neg c16, if_neg c25])), ht⟩) (fun _ h => nomatch h) dX1_isGate_33
      · refine lv_iconst (v := 1) hx hb dX1_isGate_28 (by decide) ?_
        refine lv_goto (tgt := 33) hx hb dX1_isGate_29 (by decide) ?_
        exact W.zret (v := 1) hx hb hr (by decide) (fun t ht hW => ⟨1, rfl, (by subst e6 e7 e14; rw [mi_gate]; first | rw [if_neg c9] | (rw [if_pos c9, gb_neg]; first | rw [if_pos c16, if_pos c25] | rw [if_pos c16, if_neg c25] | rw [if_neg c16, if_pos c25] | rw [if_neg c16, if_neg c25])), ht⟩) (fun _ h => nomatch h) dX1_isGate_33
    · refine lv_iconst (v := 1) hx hb dX1_isGate_19 (by decide) ?_
      refine lv_goto (tgt := 24) hx hb dX1_isGate_20 (by decide) ?_
      refine lv_iload_n hx hb dX1_isGate_24 rfl (lv_at hl 2 rfl) ?_
      refine lv_icmp_ne (tgt := 32) hx hb dX1_isGate_25 (by decide) (fun c25 => ?_) (fun c25 => ?_)
      · refine lv_iconst (v := 0) hx hb dX1_isGate_32 (by decide) ?_
        exact W.zret (v := 0) hx hb hr (by decide) (fun t ht hW => ⟨0, rfl, (by subst e6 e7 e14; rw [mi_gate]; first | rw [if_neg c9] | (rw [if_pos c9, gb_neg]; first | rw [if_pos c16, if_pos c25] | rw [if_pos c16, if_neg c25] | rw [if_neg c16, if_pos c25] | rw [if_neg c16, if_neg c25])), ht⟩) (fun _ h => nomatch h) dX1_isGate_33
      · refine lv_iconst (v := 1) hx hb dX1_isGate_28 (by decide) ?_
        refine lv_goto (tgt := 33) hx hb dX1_isGate_29 (by decide) ?_
        exact W.zret (v := 1) hx hb hr (by decide) (fun t ht hW => ⟨1, rfl, (by subst e6 e7 e14; rw [mi_gate]; first | rw [if_neg c9] | (rw [if_pos c9, gb_neg]; first | rw [if_pos c16, if_pos c25] | rw [if_pos c16, if_neg c25] | rw [if_neg c16, if_pos c25] | rw [if_neg c16, if_neg c25])), ht⟩) (fun _ h => nomatch h) dX1_isGate_33
set_option maxHeartbeats 4000000 in
set_option maxRecDepth 100000 in
/-- the reference: has -/
theorem m_has (l : Launch) (D : va_G) (h1 : Nat) (cI cB cZ : ClassId) (ad : Nat → Nat) (ar : Nat → Nat → Int32) (iv : Nat → Int32) (x : Int32) (y : Int32) (h2 : vp_in (gb_sh x) 20000) : Met l yX1_has wsX1_has ({ frames := 0, cells := 0, slots := 0, locals := 0 }) (rP D (mW h1 cI cB cZ ad ar iv) [(cI, .int), (cB, .byte), (cZ, .boolean)] [.ref h1, .int x, .int y]) (vp_Si (fun r => r = mi_has ar x y)) 0 0 (fun _ => False) := by
  refine Met.ofW (cc := cX1_has) (maxL := 3) (ret := (some .boolean)) (by decide) rfl ?_
  intro p e s m args below meth c s₁ B hml hv
  obtain ⟨rfl, hP, hK⟩ := hv
  have hx := B.exec
  have hb := B.bytes
  have hr := B.returns
  have hts := atoms_spec (ws := wsX1_has) B.pre
  have hown : s.vm.findClass RX1 = some m.cls := findClass_of_methodNamed B.named
  have hlocks := B.notSynchronized
  have hl := lv_entry ([.ref h1, .int x, .int y]) (n := 3) (Nat.le_of_ble_eq_true rfl)
  rw [lg_entry_eq]
  generalize (lg_sl ([.ref h1, .int x, .int y]) ++ List.replicate (3 - (lg_sl ([.ref h1, .int x, .int y])).length) Slot.unset).toArray = ls at hl ⊢
  have hl : lv_has ls 3 [(0, .ref h1), (1, .int x), (2, .int y)] := hl
  refine lv_aload_n hx hb dX1_has_0 rfl (lv_at hl 0 rfl) ?_
  refine va_get (D := D) (ci := 1) (v := .ref (ad 1)) (C := RX1) (T := TX1) (N := 8) hx hb hts inX1 hown hK hP 0 rfl rfl 1 (by decide) (hts _ (mG wm_372)) (fun _ h9 => h9) rfl dX1_has_1 ?_
  refine lv_iload_n hx hb dX1_has_4 rfl (lv_at hl 1 rfl) ?_
  refine lv_iconst (v := 1) hx hb dX1_has_5 (by decide) ?_
  refine lv_ishr hx hb dX1_has_6 ?_
  refine lv_topi (fun v6 e6 => ?_)
  have e6 : v6 = gb_sh x := e6
  have hi7 : vp_in v6 20000 := by rw [e6]; exact h2
  refine va_iald hx hb hK hP 2 0 rfl rfl hi7 dX1_has_7 ?_
  refine lv_topi (fun v7 e7 => ?_)
  refine lv_iload_n hx hb dX1_has_8 rfl (lv_at hl 2 rfl) ?_
  refine lv_icmp_eq (tgt := 24) hx hb dX1_has_9 (by decide) (fun c9 => ?_) (fun c9 => ?_)
  · refine lv_iconst (v := 1) hx hb dX1_has_24 (by decide) ?_
    refine lv_goto (tgt := 29) hx hb dX1_has_25 (by decide) ?_
    exact W.zret (v := 1) hx hb hr (by decide) (fun t ht hW => ⟨1, rfl, (by subst e6 e7; simp [mi_has, c9]), ht⟩) (fun _ h => nomatch h) dX1_has_29
  · refine lv_aload_n hx hb dX1_has_12 rfl (lv_at hl 0 rfl) ?_
    refine va_get (D := D) (ci := 1) (v := .ref (ad 2)) (C := RX1) (T := TX1) (N := 8) hx hb hts inX1 hown hK hP 0 rfl rfl 2 (by decide) (hts _ (mG wm_373)) (fun _ h9 => h9) rfl dX1_has_13 ?_
    refine lv_iload_n hx hb dX1_has_16 rfl (lv_at hl 1 rfl) ?_
    refine lv_iconst (v := 1) hx hb dX1_has_17 (by decide) ?_
    refine lv_ishr hx hb dX1_has_18 ?_
    refine lv_topi (fun v18 e18 => ?_)
    have e18 : v18 = gb_sh x := e18
    have hi19 : vp_in v18 20000 := by rw [e18]; exact h2
    refine va_iald hx hb hK hP 3 0 rfl rfl hi19 dX1_has_19 ?_
    refine lv_topi (fun v19 e19 => ?_)
    refine lv_iload_n hx hb dX1_has_20 rfl (lv_at hl 2 rfl) ?_
    refine lv_icmp_ne (tgt := 28) hx hb dX1_has_21 (by decide) (fun c21 => ?_) (fun c21 => ?_)
    · refine lv_iconst (v := 0) hx hb dX1_has_28 (by decide) ?_
      exact W.zret (v := 0) hx hb hr (by decide) (fun t ht hW => ⟨0, rfl, (by subst e6 e7 e18 e19; simp [mi_has, c9, c21]), ht⟩) (fun _ h => nomatch h) dX1_has_29
    · refine lv_iconst (v := 1) hx hb dX1_has_24 (by decide) ?_
      refine lv_goto (tgt := 29) hx hb dX1_has_25 (by decide) ?_
      exact W.zret (v := 1) hx hb hr (by decide) (fun t ht hW => ⟨1, rfl, (by subst e6 e7 e18 e19; simp [mi_has, c9, c21]), ht⟩) (fun _ h => nomatch h) dX1_has_29
set_option maxHeartbeats 4000000 in
set_option maxRecDepth 100000 in
/-- the reference: beside -/
theorem m_beside (l : Launch) (D : va_G) (h1 : Nat) (cI cB cZ : ClassId) (ad : Nat → Nat) (ar : Nat → Nat → Int32) (iv : Nat → Int32) (x : Int32) (y : Int32) (h2 : vp_in (gb_sh x) 20000) : Met l yX1_beside wsX1_beside ({ frames := 0, cells := 0, slots := 0, locals := 0 }) (rP D (mW h1 cI cB cZ ad ar iv) [(cI, .int), (cB, .byte), (cZ, .boolean)] [.ref h1, .int x, .int y]) (vp_Si (fun r => r = mi_bes ar x y)) 0 0 (fun _ => False) := by
  refine Met.ofW (cc := cX1_beside) (maxL := 3) (ret := (some .int)) (by decide) rfl ?_
  intro p e s m args below meth c s₁ B hml hv
  obtain ⟨rfl, hP, hK⟩ := hv
  have hx := B.exec
  have hb := B.bytes
  have hr := B.returns
  have hts := atoms_spec (ws := wsX1_beside) B.pre
  have hown : s.vm.findClass RX1 = some m.cls := findClass_of_methodNamed B.named
  have hlocks := B.notSynchronized
  have hl := lv_entry ([.ref h1, .int x, .int y]) (n := 3) (Nat.le_of_ble_eq_true rfl)
  rw [lg_entry_eq]
  generalize (lg_sl ([.ref h1, .int x, .int y]) ++ List.replicate (3 - (lg_sl ([.ref h1, .int x, .int y])).length) Slot.unset).toArray = ls at hl ⊢
  have hl : lv_has ls 3 [(0, .ref h1), (1, .int x), (2, .int y)] := hl
  refine lv_aload_n hx hb dX1_beside_0 rfl (lv_at hl 0 rfl) ?_
  refine va_get (D := D) (ci := 1) (v := .ref (ad 1)) (C := RX1) (T := TX1) (N := 8) hx hb hts inX1 hown hK hP 0 rfl rfl 1 (by decide) (hts _ (mG wm_372)) (fun _ h9 => h9) rfl dX1_beside_1 ?_
  refine lv_iload_n hx hb dX1_beside_4 rfl (lv_at hl 1 rfl) ?_
  refine lv_iconst (v := 1) hx hb dX1_beside_5 (by decide) ?_
  refine lv_ishr hx hb dX1_beside_6 ?_
  refine lv_topi (fun v6 e6 => ?_)
  have e6 : v6 = gb_sh x := e6
  have hi7 : vp_in v6 20000 := by rw [e6]; exact h2
  refine va_iald hx hb hK hP 2 0 rfl rfl hi7 dX1_beside_7 ?_
  refine lv_topi (fun v7 e7 => ?_)
  refine lv_iload_n hx hb dX1_beside_8 rfl (lv_at hl 2 rfl) ?_
  refine lv_icmp_ne (tgt := 23) hx hb dX1_beside_9 (by decide) (fun c9 => ?_) (fun c9 => ?_)
  · refine lv_aload_n hx hb dX1_beside_23 rfl (lv_at hl 0 rfl) ?_
    refine va_get (D := D) (ci := 1) (v := .ref (ad 1)) (C := RX1) (T := TX1) (N := 8) hx hb hts inX1 hown hK hP 0 rfl rfl 1 (by decide) (hts _ (mG wm_372)) (fun _ h9 => h9) rfl dX1_beside_24 ?_
    refine lv_iload_n hx hb dX1_beside_27 rfl (lv_at hl 1 rfl) ?_
    refine lv_iconst (v := 1) hx hb dX1_beside_28 (by decide) ?_
    refine lv_ishr hx hb dX1_beside_29 ?_
    refine lv_topi (fun v29 e29 => ?_)
    have e29 : v29 = gb_sh x := e29
    have hi30 : vp_in v29 20000 := by rw [e29]; exact h2
    refine va_iald hx hb hK hP 2 0 rfl rfl hi30 dX1_beside_30 ?_
    refine lv_topi (fun v30 e30 => ?_)
    exact W.iret (v := v30) hx hb hr (fun t ht hW => ⟨v30, rfl, (by subst e6 e7 e29 e30; simp [mi_bes, c9]), ht⟩) (fun _ h => nomatch h) dX1_beside_31
  · refine lv_aload_n hx hb dX1_beside_12 rfl (lv_at hl 0 rfl) ?_
    refine va_get (D := D) (ci := 1) (v := .ref (ad 2)) (C := RX1) (T := TX1) (N := 8) hx hb hts inX1 hown hK hP 0 rfl rfl 2 (by decide) (hts _ (mG wm_373)) (fun _ h9 => h9) rfl dX1_beside_13 ?_
    refine lv_iload_n hx hb dX1_beside_16 rfl (lv_at hl 1 rfl) ?_
    refine lv_iconst (v := 1) hx hb dX1_beside_17 (by decide) ?_
    refine lv_ishr hx hb dX1_beside_18 ?_
    refine lv_topi (fun v18 e18 => ?_)
    have e18 : v18 = gb_sh x := e18
    have hi19 : vp_in v18 20000 := by rw [e18]; exact h2
    refine va_iald hx hb hK hP 3 0 rfl rfl hi19 dX1_beside_19 ?_
    refine lv_topi (fun v19 e19 => ?_)
    refine lv_goto (tgt := 31) hx hb dX1_beside_20 (by decide) ?_
    exact W.iret (v := v19) hx hb hr (fun t ht hW => ⟨v19, rfl, (by subst e6 e7 e18 e19; simp [mi_bes, c9]), ht⟩) (fun _ h => nomatch h) dX1_beside_31
set_option maxHeartbeats 4000000 in
set_option maxRecDepth 100000 in
/-- the reference: is -/
theorem m_is (l : Launch) (D : va_G) (h1 : Nat) (cI cB cZ : ClassId) (ad : Nat → Nat) (ar : Nat → Nat → Int32) (iv : Nat → Int32) (x : Int32) (h2 : vp_in (gb_sh x) 20000) : Met l yX1_is wsX1_is ({ frames := 0, cells := 0, slots := 0, locals := 0 }) (rP D (mW h1 cI cB cZ ad ar iv) [(cI, .int), (cB, .byte), (cZ, .boolean)] [.ref h1, .int x]) (vp_Si (fun r => r = mi_is ar x)) 0 0 (fun _ => False) := by
  refine Met.ofW (cc := cX1_is) (maxL := 2) (ret := (some .boolean)) (by decide) rfl ?_
  intro p e s m args below meth c s₁ B hml hv
  obtain ⟨rfl, hP, hK⟩ := hv
  have hx := B.exec
  have hb := B.bytes
  have hr := B.returns
  have hts := atoms_spec (ws := wsX1_is) B.pre
  have hown : s.vm.findClass RX1 = some m.cls := findClass_of_methodNamed B.named
  have hlocks := B.notSynchronized
  have hl := lv_entry ([.ref h1, .int x]) (n := 2) (Nat.le_of_ble_eq_true rfl)
  rw [lg_entry_eq]
  generalize (lg_sl ([.ref h1, .int x]) ++ List.replicate (2 - (lg_sl ([.ref h1, .int x])).length) Slot.unset).toArray = ls at hl ⊢
  have hl : lv_has ls 2 [(0, .ref h1), (1, .int x)] := hl
  refine lv_aload_n hx hb dX1_is_0 rfl (lv_at hl 0 rfl) ?_
  refine va_get (D := D) (ci := 1) (v := .ref (ad 3)) (C := RX1) (T := TX1) (N := 8) hx hb hts inX1 hown hK hP 0 rfl rfl 3 (by decide) (hts _ (mG wm_374)) (fun _ h9 => h9) rfl dX1_is_1 ?_
  refine lv_iload_n hx hb dX1_is_4 rfl (lv_at hl 1 rfl) ?_
  refine lv_iconst (v := 1) hx hb dX1_is_5 (by decide) ?_
  refine lv_ishr hx hb dX1_is_6 ?_
  refine lv_topi (fun v6 e6 => ?_)
  have e6 : v6 = gb_sh x := e6
  have hi7 : vp_in v6 20000 := by rw [e6]; exact h2
  refine va_zald hx hb hK hP 4 2 rfl rfl hi7 dX1_is_7 ?_
  refine lv_topi (fun v7 e7 => ?_)
  refine lv_iload_n hx hb dX1_is_8 rfl (lv_at hl 1 rfl) ?_
  refine lv_iconst (v := 1) hx hb dX1_is_9 (by decide) ?_
  refine lv_iand hx hb dX1_is_10 ?_
  refine lv_topi (fun v10 e10 => ?_)
  refine lv_iconst (v := 1) hx hb dX1_is_11 (by decide) ?_
  refine lv_icmp_ne (tgt := 19) hx hb dX1_is_12 (by decide) (fun c12 => ?_) (fun c12 => ?_)
  · refine lv_iconst (v := 0) hx hb dX1_is_19 (by decide) ?_
    refine lv_icmp_eq (tgt := 27) hx hb dX1_is_20 (by decide) (fun c20 => ?_) (fun c20 => ?_)
    · refine lv_iconst (v := 0) hx hb dX1_is_27 (by decide) ?_
      exact W.zret (v := 0) hx hb hr (by decide) (fun t ht hW => ⟨0, rfl, (by subst e6 e7 e10; simp [mi_is, gb_neg, c12, c20]), ht⟩) (fun _ h => nomatch h) dX1_is_28
    · refine lv_iconst (v := 1) hx hb dX1_is_23 (by decide) ?_
      refine lv_goto (tgt := 28) hx hb dX1_is_24 (by decide) ?_
      exact W.zret (v := 1) hx hb hr (by decide) (fun t ht hW => ⟨1, rfl, (by subst e6 e7 e10; simp [mi_is, gb_neg, c12, c20]), ht⟩) (fun _ h => nomatch h) dX1_is_28
  · refine lv_iconst (v := 1) hx hb dX1_is_15 (by decide) ?_
    refine lv_goto (tgt := 20) hx hb dX1_is_16 (by decide) ?_
    refine lv_icmp_eq (tgt := 27) hx hb dX1_is_20 (by decide) (fun c20 => ?_) (fun c20 => ?_)
    · refine lv_iconst (v := 0) hx hb dX1_is_27 (by decide) ?_
      exact W.zret (v := 0) hx hb hr (by decide) (fun t ht hW => ⟨0, rfl, (by subst e6 e7 e10; simp [mi_is, gb_neg, c12, c20]), ht⟩) (fun _ h => nomatch h) dX1_is_28
    · refine lv_iconst (v := 1) hx hb dX1_is_23 (by decide) ?_
      refine lv_goto (tgt := 28) hx hb dX1_is_24 (by decide) ?_
      exact W.zret (v := 1) hx hb hr (by decide) (fun t ht hW => ⟨1, rfl, (by subst e6 e7 e10; simp [mi_is, gb_neg, c12, c20]), ht⟩) (fun _ h => nomatch h) dX1_is_28
set_option maxHeartbeats 4000000 in
set_option maxRecDepth 100000 in
/-- the reference: rule -/
theorem m_rule (l : Launch) (D : va_G) (h1 : Nat) (cI cB cZ : ClassId) (ad : Nat → Nat) (ar : Nat → Nat → Int32) (iv : Nat → Int32) (x y z : Int32) (k : Nat) (hk : k < 8) (hx0 : x = nI k) (h2 : vp_in (gb_sh y) 20000) (h3 : vp_in (gb_sh z) 20000) : Met l yX1_rule wsX1_rule ({ frames := 1, cells := 0, slots := 0, locals := 22 }) (rP D (mW h1 cI cB cZ ad ar iv) [(cI, .int), (cB, .byte), (cZ, .boolean)] [.ref h1, .int x, .int y, .int z]) (vp_Si (fun r => r = mi_rule ar k y z)) 0 0 (fun _ => False) := by
  refine Met.ofW (cc := cX1_rule) (maxL := 5) (ret := (some .int)) (by decide) rfl ?_
  intro p e s m args below meth c s₁ B hml hv
  obtain ⟨rfl, hP, hK⟩ := hv
  have hx := B.exec
  have hb := B.bytes
  have hr := B.returns
  have hts := atoms_spec (ws := wsX1_rule) B.pre
  have hown : s.vm.findClass RX1 = some m.cls := findClass_of_methodNamed B.named
  have hlocks := B.notSynchronized
  have hl := lv_entry ([.ref h1, .int x, .int y, .int z]) (n := 5) (Nat.le_of_ble_eq_true rfl)
  rw [lg_entry_eq]
  generalize (lg_sl ([.ref h1, .int x, .int y, .int z]) ++ List.replicate (5 - (lg_sl ([.ref h1, .int x, .int y, .int z])).length) Slot.unset).toArray = ls at hl ⊢
  have hl : lv_has ls 5 [(0, .ref h1), (1, .int x), (2, .int y), (3, .int z)] := hl
  refine lv_iload_n hx hb dX1_rule_0 rfl (lv_at hl 1 rfl) ?_
  rcases (show k = 0 ∨ k = 1 ∨ k = 2 ∨ k = 3 ∨ k = 4 ∨ k = 5 ∨ k = 6 ∨ k = 7 by omega) with rfl | rfl | rfl | rfl | rfl | rfl | rfl | rfl
  · refine lv_tableIn (tgt := 44) hx hb dX1_rule_1 (by rw [hx0]; decide) (by rw [hx0]; decide) (by rw [hx0]; rfl) (by decide) ?_
    refine lv_iload_n hx hb dX1_rule_44 rfl (lv_at hl 2 rfl) ?_
    refine lv_if_ne (tgt := 52) hx hb dX1_rule_45 (by decide) (fun c45 => ?_) (fun c45 => ?_)
    · refine lv_iconst (v := -1) hx hb dX1_rule_52 (by decide) ?_
      exact W.iret (v := (-1)) hx hb hr (fun t ht hW => ⟨(-1), rfl, (by simp [mi_rule, c45]), ht⟩) (fun _ h => nomatch h) dX1_rule_53
    · refine lv_iconst (v := 0) hx hb dX1_rule_48 (by decide) ?_
      refine lv_goto (tgt := 53) hx hb dX1_rule_49 (by decide) ?_
      exact W.iret (v := 0) hx hb hr (fun t ht hW => ⟨0, rfl, (by simp [mi_rule, c45]), ht⟩) (fun _ h => nomatch h) dX1_rule_53
  · refine lv_tableIn (tgt := 54) hx hb dX1_rule_1 (by rw [hx0]; decide) (by rw [hx0]; decide) (by rw [hx0]; rfl) (by decide) ?_
    refine lv_iload_n hx hb dX1_rule_54 rfl (lv_at hl 2 rfl) ?_
    refine lv_iconst (v := 1) hx hb dX1_rule_55 (by decide) ?_
    refine lv_icmp_ne (tgt := 63) hx hb dX1_rule_56 (by decide) (fun c56 => ?_) (fun c56 => ?_)
    · refine lv_iconst (v := -1) hx hb dX1_rule_63 (by decide) ?_
      exact W.iret (v := (-1)) hx hb hr (fun t ht hW => ⟨(-1), rfl, (by simp [mi_rule, c56]), ht⟩) (fun _ h => nomatch h) dX1_rule_64
    · refine lv_iload_n hx hb dX1_rule_59 rfl (lv_at hl 3 rfl) ?_
      refine lv_goto (tgt := 64) hx hb dX1_rule_60 (by decide) ?_
      exact W.iret (v := z) hx hb hr (fun t ht hW => ⟨z, rfl, (by simp [mi_rule, c56]), ht⟩) (fun _ h => nomatch h) dX1_rule_64
  · refine lv_tableIn (tgt := 65) hx hb dX1_rule_1 (by rw [hx0]; decide) (by rw [hx0]; decide) (by rw [hx0]; rfl) (by decide) ?_
    refine lv_iload_n hx hb dX1_rule_65 rfl (lv_at hl 2 rfl) ?_
    refine lv_iload_n hx hb dX1_rule_66 rfl (lv_at hl 3 rfl) ?_
    refine lv_icmp_ne (tgt := 74) hx hb dX1_rule_67 (by decide) (fun c67 => ?_) (fun c67 => ?_)
    · refine lv_iconst (v := -1) hx hb dX1_rule_74 (by decide) ?_
      exact W.iret (v := (-1)) hx hb hr (fun t ht hW => ⟨(-1), rfl, (by simp [mi_rule, c67]), ht⟩) (fun _ h => nomatch h) dX1_rule_75
    · refine lv_iload_n hx hb dX1_rule_70 rfl (lv_at hl 2 rfl) ?_
      refine lv_goto (tgt := 75) hx hb dX1_rule_71 (by decide) ?_
      exact W.iret (v := y) hx hb hr (fun t ht hW => ⟨y, rfl, (by simp [mi_rule, c67]), ht⟩) (fun _ h => nomatch h) dX1_rule_75
  · refine lv_tableIn (tgt := 76) hx hb dX1_rule_1 (by rw [hx0]; decide) (by rw [hx0]; decide) (by rw [hx0]; rfl) (by decide) ?_
    refine lv_iload_n hx hb dX1_rule_76 rfl (lv_at hl 2 rfl) ?_
    refine lv_iload_n hx hb dX1_rule_77 rfl (lv_at hl 3 rfl) ?_
    refine lv_iconst (v := 1) hx hb dX1_rule_78 (by decide) ?_
    refine lv_ixor hx hb dX1_rule_79 ?_
    refine lv_topi (fun v79 e79 => ?_)
    refine lv_icmp_ne (tgt := 87) hx hb dX1_rule_80 (by decide) (fun c80 => ?_) (fun c80 => ?_)
    · refine lv_iconst (v := -1) hx hb dX1_rule_87 (by decide) ?_
      exact W.iret (v := (-1)) hx hb hr (fun t ht hW => ⟨(-1), rfl, (by subst e79; simp [mi_rule, c80]), ht⟩) (fun _ h => nomatch h) dX1_rule_88
    · refine lv_iconst (v := 0) hx hb dX1_rule_83 (by decide) ?_
      refine lv_goto (tgt := 88) hx hb dX1_rule_84 (by decide) ?_
      exact W.iret (v := 0) hx hb hr (fun t ht hW => ⟨0, rfl, (by subst e79; simp [mi_rule, c80]), ht⟩) (fun _ h => nomatch h) dX1_rule_88
  · refine lv_tableIn (tgt := 89) hx hb dX1_rule_1 (by rw [hx0]; decide) (by rw [hx0]; decide) (by rw [hx0]; rfl) (by decide) ?_
    refine lv_aload_n hx hb dX1_rule_89 rfl (lv_at hl 0 rfl) ?_
    refine lv_iload_n hx hb dX1_rule_90 rfl (lv_at hl 2 rfl) ?_
    refine lv_iconst (v := 0) hx hb dX1_rule_91 (by decide) ?_
    have hc92 := h2
    refine vp_callSi (W.runV (As := [.int y, .int 0]) (rest := []) ⟨hx, hb, hml, hown, hts⟩ (m_isGate l D h1 cI cB cZ ad ar iv y 0 hc92) (cwV 2 hts gX1_rule_X1_isGate rfl rfl rfl (by decide +kernel) ⟨Nat.le_of_ble_eq_true rfl, Nat.le_of_ble_eq_true rfl⟩) (rP_V hK hP (va_recv hK hP (ci := 1) (q0 := 0) rfl rfl)) rfl rfl hl.1 rfl (lv_room (Nat.le_of_ble_eq_true rfl)) dX1_rule_92 ⟨Nat.zero_le _, Nat.zero_le _⟩) (fun r92 e92 => ?_)
    refine lv_if_eq (tgt := 111) hx hb dX1_rule_95 (by decide) (fun c95 => ?_) (fun c95 => ?_)
    · refine lv_iconst (v := -1) hx hb dX1_rule_111 (by decide) ?_
      exact W.iret (v := (-1)) hx hb hr (fun t ht hW => ⟨(-1), rfl, (by subst e92; simp [mi_rule, c95]), ht⟩) (fun _ h => nomatch h) dX1_rule_112
    · refine lv_aload_n hx hb dX1_rule_98 rfl (lv_at hl 0 rfl) ?_
      refine lv_iload_n hx hb dX1_rule_99 rfl (lv_at hl 2 rfl) ?_
      refine lv_iload_n hx hb dX1_rule_100 rfl (lv_at hl 3 rfl) ?_
      have hc101 := h2
      refine vp_callSi (W.runV (As := [.int y, .int z]) (rest := []) ⟨hx, hb, hml, hown, hts⟩ (m_has l D h1 cI cB cZ ad ar iv y z hc101) (cwV 2 hts gX1_rule_X1_has rfl rfl rfl (by decide +kernel) ⟨Nat.le_of_ble_eq_true rfl, Nat.le_of_ble_eq_true rfl⟩) (rP_V hK hP (va_recv hK hP (ci := 1) (q0 := 0) rfl rfl)) rfl rfl hl.1 rfl (lv_room (Nat.le_of_ble_eq_true rfl)) dX1_rule_101 ⟨Nat.zero_le _, Nat.zero_le _⟩) (fun r101 e101 => ?_)
      refine lv_if_eq (tgt := 111) hx hb dX1_rule_104 (by decide) (fun c104 => ?_) (fun c104 => ?_)
      · refine lv_iconst (v := -1) hx hb dX1_rule_111 (by decide) ?_
        exact W.iret (v := (-1)) hx hb hr (fun t ht hW => ⟨(-1), rfl, (by subst e92 e101; simp [mi_rule, c95, c104]), ht⟩) (fun _ h => nomatch h) dX1_rule_112
      · refine lv_iload_n hx hb dX1_rule_107 rfl (lv_at hl 2 rfl) ?_
        refine lv_goto (tgt := 112) hx hb dX1_rule_108 (by decide) ?_
        exact W.iret (v := y) hx hb hr (fun t ht hW => ⟨y, rfl, (by subst e92 e101; simp [mi_rule, c95, c104]), ht⟩) (fun _ h => nomatch h) dX1_rule_112
  · refine lv_tableIn (tgt := 113) hx hb dX1_rule_1 (by rw [hx0]; decide) (by rw [hx0]; decide) (by rw [hx0]; rfl) (by decide) ?_
    refine lv_aload_n hx hb dX1_rule_113 rfl (lv_at hl 0 rfl) ?_
    refine lv_iload_n hx hb dX1_rule_114 rfl (lv_at hl 2 rfl) ?_
    refine lv_iconst (v := 0) hx hb dX1_rule_115 (by decide) ?_
    have hc116 := h2
    refine vp_callSi (W.runV (As := [.int y, .int 0]) (rest := []) ⟨hx, hb, hml, hown, hts⟩ (m_isGate l D h1 cI cB cZ ad ar iv y 0 hc116) (cwV 2 hts gX1_rule_X1_isGate rfl rfl rfl (by decide +kernel) ⟨Nat.le_of_ble_eq_true rfl, Nat.le_of_ble_eq_true rfl⟩) (rP_V hK hP (va_recv hK hP (ci := 1) (q0 := 0) rfl rfl)) rfl rfl hl.1 rfl (lv_room (Nat.le_of_ble_eq_true rfl)) dX1_rule_116 ⟨Nat.zero_le _, Nat.zero_le _⟩) (fun r116 e116 => ?_)
    refine lv_if_eq (tgt := 137) hx hb dX1_rule_119 (by decide) (fun c119 => ?_) (fun c119 => ?_)
    · refine lv_iconst (v := -1) hx hb dX1_rule_137 (by decide) ?_
      exact W.iret (v := (-1)) hx hb hr (fun t ht hW => ⟨(-1), rfl, (by subst e116; simp [mi_rule, c119]), ht⟩) (fun _ h => nomatch h) dX1_rule_138
    · refine lv_aload_n hx hb dX1_rule_122 rfl (lv_at hl 0 rfl) ?_
      refine lv_iload_n hx hb dX1_rule_123 rfl (lv_at hl 2 rfl) ?_
      refine lv_iload_n hx hb dX1_rule_124 rfl (lv_at hl 3 rfl) ?_
      refine lv_iconst (v := 1) hx hb dX1_rule_125 (by decide) ?_
      refine lv_ixor hx hb dX1_rule_126 ?_
      refine lv_topi (fun v126 e126 => ?_)
      have hc127 := h2
      refine vp_callSi (W.runV (As := [.int y, .int v126]) (rest := []) ⟨hx, hb, hml, hown, hts⟩ (m_has l D h1 cI cB cZ ad ar iv y v126 hc127) (cwV 2 hts gX1_rule_X1_has rfl rfl rfl (by decide +kernel) ⟨Nat.le_of_ble_eq_true rfl, Nat.le_of_ble_eq_true rfl⟩) (rP_V hK hP (va_recv hK hP (ci := 1) (q0 := 0) rfl rfl)) rfl rfl hl.1 rfl (lv_room (Nat.le_of_ble_eq_true rfl)) dX1_rule_127 ⟨Nat.zero_le _, Nat.zero_le _⟩) (fun r127 e127 => ?_)
      refine lv_if_eq (tgt := 137) hx hb dX1_rule_130 (by decide) (fun c130 => ?_) (fun c130 => ?_)
      · refine lv_iconst (v := -1) hx hb dX1_rule_137 (by decide) ?_
        exact W.iret (v := (-1)) hx hb hr (fun t ht hW => ⟨(-1), rfl, (by subst e116 e126 e127; simp [mi_rule, c119, c130]), ht⟩) (fun _ h => nomatch h) dX1_rule_138
      · refine lv_iconst (v := 0) hx hb dX1_rule_133 (by decide) ?_
        refine lv_goto (tgt := 138) hx hb dX1_rule_134 (by decide) ?_
        exact W.iret (v := 0) hx hb hr (fun t ht hW => ⟨0, rfl, (by subst e116 e126 e127; simp [mi_rule, c119, c130]), ht⟩) (fun _ h => nomatch h) dX1_rule_138
  · refine lv_tableIn (tgt := 139) hx hb dX1_rule_1 (by rw [hx0]; decide) (by rw [hx0]; decide) (by rw [hx0]; rfl) (by decide) ?_
    refine lv_aload_n hx hb dX1_rule_139 rfl (lv_at hl 0 rfl) ?_
    refine lv_iload_n hx hb dX1_rule_140 rfl (lv_at hl 2 rfl) ?_
    refine lv_iconst (v := 1) hx hb dX1_rule_141 (by decide) ?_
    have hc142 := h2
    refine vp_callSi (W.runV (As := [.int y, .int 1]) (rest := []) ⟨hx, hb, hml, hown, hts⟩ (m_isGate l D h1 cI cB cZ ad ar iv y 1 hc142) (cwV 2 hts gX1_rule_X1_isGate rfl rfl rfl (by decide +kernel) ⟨Nat.le_of_ble_eq_true rfl, Nat.le_of_ble_eq_true rfl⟩) (rP_V hK hP (va_recv hK hP (ci := 1) (q0 := 0) rfl rfl)) rfl rfl hl.1 rfl (lv_room (Nat.le_of_ble_eq_true rfl)) dX1_rule_142 ⟨Nat.zero_le _, Nat.zero_le _⟩) (fun r142 e142 => ?_)
    refine lv_if_eq (tgt := 163) hx hb dX1_rule_145 (by decide) (fun c145 => ?_) (fun c145 => ?_)
    · refine lv_iconst (v := -1) hx hb dX1_rule_163 (by decide) ?_
      exact W.iret (v := (-1)) hx hb hr (fun t ht hW => ⟨(-1), rfl, (by subst e142; simp [mi_rule, c145]), ht⟩) (fun _ h => nomatch h) dX1_rule_164
    · refine lv_aload_n hx hb dX1_rule_148 rfl (lv_at hl 0 rfl) ?_
      refine lv_iload_n hx hb dX1_rule_149 rfl (lv_at hl 2 rfl) ?_
      refine lv_iload_n hx hb dX1_rule_150 rfl (lv_at hl 3 rfl) ?_
      refine lv_iconst (v := 1) hx hb dX1_rule_151 (by decide) ?_
      refine lv_ixor hx hb dX1_rule_152 ?_
      refine lv_topi (fun v152 e152 => ?_)
      have hc153 := h2
      refine vp_callSi (W.runV (As := [.int y, .int v152]) (rest := []) ⟨hx, hb, hml, hown, hts⟩ (m_has l D h1 cI cB cZ ad ar iv y v152 hc153) (cwV 2 hts gX1_rule_X1_has rfl rfl rfl (by decide +kernel) ⟨Nat.le_of_ble_eq_true rfl, Nat.le_of_ble_eq_true rfl⟩) (rP_V hK hP (va_recv hK hP (ci := 1) (q0 := 0) rfl rfl)) rfl rfl hl.1 rfl (lv_room (Nat.le_of_ble_eq_true rfl)) dX1_rule_153 ⟨Nat.zero_le _, Nat.zero_le _⟩) (fun r153 e153 => ?_)
      refine lv_if_eq (tgt := 163) hx hb dX1_rule_156 (by decide) (fun c156 => ?_) (fun c156 => ?_)
      · refine lv_iconst (v := -1) hx hb dX1_rule_163 (by decide) ?_
        exact W.iret (v := (-1)) hx hb hr (fun t ht hW => ⟨(-1), rfl, (by subst e142 e152 e153; simp [mi_rule, c145, c156]), ht⟩) (fun _ h => nomatch h) dX1_rule_164
      · refine lv_iload_n hx hb dX1_rule_159 rfl (lv_at hl 3 rfl) ?_
        refine lv_goto (tgt := 164) hx hb dX1_rule_160 (by decide) ?_
        exact W.iret (v := z) hx hb hr (fun t ht hW => ⟨z, rfl, (by subst e142 e152 e153; simp [mi_rule, c145, c156]), ht⟩) (fun _ h => nomatch h) dX1_rule_164
  · refine lv_tableOut (tgt := 165) hx hb dX1_rule_1 (by rw [hx0]; decide) (by decide) ?_
    refine lv_aload_n hx hb dX1_rule_165 rfl (lv_at hl 0 rfl) ?_
    refine lv_iload_n hx hb dX1_rule_166 rfl (lv_at hl 2 rfl) ?_
    refine lv_iconst (v := 0) hx hb dX1_rule_167 (by decide) ?_
    have hc168 := h2
    refine vp_callSi (W.runV (As := [.int y, .int 0]) (rest := []) ⟨hx, hb, hml, hown, hts⟩ (m_isGate l D h1 cI cB cZ ad ar iv y 0 hc168) (cwV 2 hts gX1_rule_X1_isGate rfl rfl rfl (by decide +kernel) ⟨Nat.le_of_ble_eq_true rfl, Nat.le_of_ble_eq_true rfl⟩) (rP_V hK hP (va_recv hK hP (ci := 1) (q0 := 0) rfl rfl)) rfl rfl hl.1 rfl (lv_room (Nat.le_of_ble_eq_true rfl)) dX1_rule_168 ⟨Nat.zero_le _, Nat.zero_le _⟩) (fun r168 e168 => ?_)
    refine lv_if_eq (tgt := 223) hx hb dX1_rule_171 (by decide) (fun c171 => ?_) (fun c171 => ?_)
    · refine lv_iconst (v := 0) hx hb dX1_rule_223 (by decide) ?_
      refine lv_istore (lv' := [(4, .int 0), (0, .ref h1), (1, .int x), (2, .int y), (3, .int z)]) hx hb dX1_rule_224 hl (by decide) rfl (fun ls hl => ?_)
      refine lv_iload hx hb dX1_rule_226 (lv_at hl 0 rfl) ?_
      refine lv_if_eq (tgt := 235) hx hb dX1_rule_228 (by decide) (fun c228 => ?_) (fun c228 => ?_)
      · refine lv_iconst (v := -1) hx hb dX1_rule_235 (by decide) ?_
        exact W.iret (v := (-1)) hx hb hr (fun t ht hW => ⟨(-1), rfl, (by subst e168; simp [mi_rule, c171, c228]), ht⟩) (fun _ h => nomatch h) dX1_rule_236
      · exact absurd c228 (by decide)
    · refine lv_aload_n hx hb dX1_rule_174 rfl (lv_at hl 0 rfl) ?_
      refine lv_iload_n hx hb dX1_rule_175 rfl (lv_at hl 3 rfl) ?_
      refine lv_iconst (v := 0) hx hb dX1_rule_176 (by decide) ?_
      have hc177 := h3
      refine vp_callSi (W.runV (As := [.int z, .int 0]) (rest := []) ⟨hx, hb, hml, hown, hts⟩ (m_isGate l D h1 cI cB cZ ad ar iv z 0 hc177) (cwV 2 hts gX1_rule_X1_isGate rfl rfl rfl (by decide +kernel) ⟨Nat.le_of_ble_eq_true rfl, Nat.le_of_ble_eq_true rfl⟩) (rP_V hK hP (va_recv hK hP (ci := 1) (q0 := 0) rfl rfl)) rfl rfl hl.1 rfl (lv_room (Nat.le_of_ble_eq_true rfl)) dX1_rule_177 ⟨Nat.zero_le _, Nat.zero_le _⟩) (fun r177 e177 => ?_)
      refine lv_if_eq (tgt := 223) hx hb dX1_rule_180 (by decide) (fun c180 => ?_) (fun c180 => ?_)
      · refine lv_iconst (v := 0) hx hb dX1_rule_223 (by decide) ?_
        refine lv_istore (lv' := [(4, .int 0), (0, .ref h1), (1, .int x), (2, .int y), (3, .int z)]) hx hb dX1_rule_224 hl (by decide) rfl (fun ls hl => ?_)
        refine lv_iload hx hb dX1_rule_226 (lv_at hl 0 rfl) ?_
        refine lv_if_eq (tgt := 235) hx hb dX1_rule_228 (by decide) (fun c228 => ?_) (fun c228 => ?_)
        · refine lv_iconst (v := -1) hx hb dX1_rule_235 (by decide) ?_
          exact W.iret (v := (-1)) hx hb hr (fun t ht hW => ⟨(-1), rfl, (by subst e168 e177; simp [mi_rule, c171, c180, c228]), ht⟩) (fun _ h => nomatch h) dX1_rule_236
        · exact absurd c228 (by decide)
      · refine lv_aload_n hx hb dX1_rule_183 rfl (lv_at hl 0 rfl) ?_
        refine lv_iload_n hx hb dX1_rule_184 rfl (lv_at hl 2 rfl) ?_
        refine lv_aload_n hx hb dX1_rule_185 rfl (lv_at hl 0 rfl) ?_
        refine va_get (D := D) (ci := 1) (v := .ref (ad 1)) (C := RX1) (T := TX1) (N := 8) hx hb hts inX1 hown hK hP 0 rfl rfl 1 (by decide) (hts _ (mG wm_372)) (fun _ h9 => h9) rfl dX1_rule_186 ?_
        refine lv_iload_n hx hb dX1_rule_189 rfl (lv_at hl 3 rfl) ?_
        refine lv_iconst (v := 1) hx hb dX1_rule_190 (by decide) ?_
        refine lv_ishr hx hb dX1_rule_191 ?_
        refine lv_topi (fun v191 e191 => ?_)
        have e191 : v191 = gb_sh z := e191
        have hi192 : vp_in v191 20000 := by rw [e191]; exact h3
        refine va_iald hx hb hK hP 2 0 rfl rfl hi192 dX1_rule_192 ?_
        refine lv_topi (fun v192 e192 => ?_)
        refine lv_iconst (v := 1) hx hb dX1_rule_193 (by decide) ?_
        refine lv_ixor hx hb dX1_rule_194 ?_
        refine lv_topi (fun v194 e194 => ?_)
        have hc195 := h2
        refine vp_callSi (W.runV (As := [.int y, .int v194]) (rest := []) ⟨hx, hb, hml, hown, hts⟩ (m_has l D h1 cI cB cZ ad ar iv y v194 hc195) (cwV 2 hts gX1_rule_X1_has rfl rfl rfl (by decide +kernel) ⟨Nat.le_of_ble_eq_true rfl, Nat.le_of_ble_eq_true rfl⟩) (rP_V hK hP (va_recv hK hP (ci := 1) (q0 := 0) rfl rfl)) rfl rfl hl.1 rfl (lv_room (Nat.le_of_ble_eq_true rfl)) dX1_rule_195 ⟨Nat.zero_le _, Nat.zero_le _⟩) (fun r195 e195 => ?_)
        refine lv_if_ne (tgt := 219) hx hb dX1_rule_198 (by decide) (fun c198 => ?_) (fun c198 => ?_)
        · refine lv_iconst (v := 1) hx hb dX1_rule_219 (by decide) ?_
          refine lv_goto (tgt := 224) hx hb dX1_rule_220 (by decide) ?_
          refine lv_istore (lv' := [(4, .int 1), (0, .ref h1), (1, .int x), (2, .int y), (3, .int z)]) hx hb dX1_rule_224 hl (by decide) rfl (fun ls hl => ?_)
          refine lv_iload hx hb dX1_rule_226 (lv_at hl 0 rfl) ?_
          refine lv_if_eq (tgt := 235) hx hb dX1_rule_228 (by decide) (fun c228 => ?_) (fun c228 => ?_)
          · exact absurd c228 (by decide)
          · refine lv_iconst (v := 0) hx hb dX1_rule_231 (by decide) ?_
            refine lv_goto (tgt := 236) hx hb dX1_rule_232 (by decide) ?_
            exact W.iret (v := 0) hx hb hr (fun t ht hW => ⟨0, rfl, (by subst e168 e177 e191 e192 e194 e195; simp [mi_rule, c171, c180, c198, c228]), ht⟩) (fun _ h => nomatch h) dX1_rule_236
        · refine lv_aload_n hx hb dX1_rule_201 rfl (lv_at hl 0 rfl) ?_
          refine lv_iload_n hx hb dX1_rule_202 rfl (lv_at hl 2 rfl) ?_
          refine lv_aload_n hx hb dX1_rule_203 rfl (lv_at hl 0 rfl) ?_
          refine va_get (D := D) (ci := 1) (v := .ref (ad 2)) (C := RX1) (T := TX1) (N := 8) hx hb hts inX1 hown hK hP 0 rfl rfl 2 (by decide) (hts _ (mG wm_373)) (fun _ h9 => h9) rfl dX1_rule_204 ?_
          refine lv_iload_n hx hb dX1_rule_207 rfl (lv_at hl 3 rfl) ?_
          refine lv_iconst (v := 1) hx hb dX1_rule_208 (by decide) ?_
          refine lv_ishr hx hb dX1_rule_209 ?_
          refine lv_topi (fun v209 e209 => ?_)
          have e209 : v209 = gb_sh z := e209
          have hi210 : vp_in v209 20000 := by rw [e209]; exact h3
          refine va_iald hx hb hK hP 3 0 rfl rfl hi210 dX1_rule_210 ?_
          refine lv_topi (fun v210 e210 => ?_)
          refine lv_iconst (v := 1) hx hb dX1_rule_211 (by decide) ?_
          refine lv_ixor hx hb dX1_rule_212 ?_
          refine lv_topi (fun v212 e212 => ?_)
          have hc213 := h2
          refine vp_callSi (W.runV (As := [.int y, .int v212]) (rest := []) ⟨hx, hb, hml, hown, hts⟩ (m_has l D h1 cI cB cZ ad ar iv y v212 hc213) (cwV 2 hts gX1_rule_X1_has rfl rfl rfl (by decide +kernel) ⟨Nat.le_of_ble_eq_true rfl, Nat.le_of_ble_eq_true rfl⟩) (rP_V hK hP (va_recv hK hP (ci := 1) (q0 := 0) rfl rfl)) rfl rfl hl.1 rfl (lv_room (Nat.le_of_ble_eq_true rfl)) dX1_rule_213 ⟨Nat.zero_le _, Nat.zero_le _⟩) (fun r213 e213 => ?_)
          refine lv_if_eq (tgt := 223) hx hb dX1_rule_216 (by decide) (fun c216 => ?_) (fun c216 => ?_)
          · refine lv_iconst (v := 0) hx hb dX1_rule_223 (by decide) ?_
            refine lv_istore (lv' := [(4, .int 0), (0, .ref h1), (1, .int x), (2, .int y), (3, .int z)]) hx hb dX1_rule_224 hl (by decide) rfl (fun ls hl => ?_)
            refine lv_iload hx hb dX1_rule_226 (lv_at hl 0 rfl) ?_
            refine lv_if_eq (tgt := 235) hx hb dX1_rule_228 (by decide) (fun c228 => ?_) (fun c228 => ?_)
            · refine lv_iconst (v := -1) hx hb dX1_rule_235 (by decide) ?_
              exact W.iret (v := (-1)) hx hb hr (fun t ht hW => ⟨(-1), rfl, (by subst e168 e177 e191 e192 e194 e195 e209 e210 e212 e213; simp [mi_rule, c171, c180, c198, c216, c228]), ht⟩) (fun _ h => nomatch h) dX1_rule_236
            · exact absurd c228 (by decide)
          · refine lv_iconst (v := 1) hx hb dX1_rule_219 (by decide) ?_
            refine lv_goto (tgt := 224) hx hb dX1_rule_220 (by decide) ?_
            refine lv_istore (lv' := [(4, .int 1), (0, .ref h1), (1, .int x), (2, .int y), (3, .int z)]) hx hb dX1_rule_224 hl (by decide) rfl (fun ls hl => ?_)
            refine lv_iload hx hb dX1_rule_226 (lv_at hl 0 rfl) ?_
            refine lv_if_eq (tgt := 235) hx hb dX1_rule_228 (by decide) (fun c228 => ?_) (fun c228 => ?_)
            · exact absurd c228 (by decide)
            · refine lv_iconst (v := 0) hx hb dX1_rule_231 (by decide) ?_
              refine lv_goto (tgt := 236) hx hb dX1_rule_232 (by decide) ?_
              exact W.iret (v := 0) hx hb hr (fun t ht hW => ⟨0, rfl, (by subst e168 e177 e191 e192 e194 e195 e209 e210 e212 e213; simp [mi_rule, c171, c180, c198, c216, c228]), ht⟩) (fun _ h => nomatch h) dX1_rule_236
set_option maxHeartbeats 4000000 in
set_option maxRecDepth 100000 in
/-- the reference: add -/
theorem m_add (l : Launch) (D : va_G) (h1 : Nat) (cI cB cZ : ClassId) (ad : Nat → Nat) (ar : Nat → Nat → Int32) (iv : Nat → Int32) (sz : Nat) (x : Int32) (y : Int32) (z : Int32) (nc : Nat) (hnc : iv 1 = nI nc) (hmx : nc < 20000) (hx8 : vp_nar .byte x.toInt8.toInt32 = x) : Met l yX1_add wsX1_add ({ frames := 0, cells := 0, slots := 0, locals := 0 }) (mP D (mW h1 cI cB cZ ad ar iv) [(cI, .int), (cB, .byte), (cZ, .boolean)] sz [.ref h1, .int x, .int y, .int z]) (va_Qi (fun (r : Int32) (u : MS) => r = nI nc ∧ u = (mi_add ar nc x y z, va_up iv 1 (nI (nc + 1)))) (mm_at D cI cB cZ ad (va_A (mW h1 cI cB cZ ad ar iv) sz) h1) (va_A (mW h1 cI cB cZ ad ar iv) sz)) 0 0 (va_A (mW h1 cI cB cZ ad ar iv) sz) := by
  refine Met.ofW (cc := cX1_add) (maxL := 4) (ret := (some .int)) (by decide) rfl ?_
  intro p e s m args below meth c s₁ B hml hv
  obtain ⟨rfl, hsz, hP, hK, hD0⟩ := hv
  have hx := B.exec
  have hb := B.bytes
  have hr := B.returns
  have hts := atoms_spec (ws := wsX1_add) B.pre
  have hown : s.vm.findClass RX1 = some m.cls := findClass_of_methodNamed B.named
  have hlocks := B.notSynchronized
  have hl := lv_entry ([.ref h1, .int x, .int y, .int z]) (n := 4) (Nat.le_of_ble_eq_true rfl)
  rw [lg_entry_eq]
  generalize (lg_sl ([.ref h1, .int x, .int y, .int z]) ++ List.replicate (4 - (lg_sl ([.ref h1, .int x, .int y, .int z])).length) Slot.unset).toArray = ls at hl ⊢
  have hl : lv_has ls 4 [(0, .ref h1), (1, .int x), (2, .int y), (3, .int z)] := hl
  subst hsz
  have hD := hD0.self (sz := s.heap.size)
  generalize hAe : va_A (mW h1 cI cB cZ ad ar iv) s.heap.size = A at hD ⊢
  have hA : ∀ q : Nat, s.heap.size ≤ q → A q := fun q h => by rw [← hAe]; exact Or.inr h
  have hS : va_S A s.heap s.heap [] := va_S.rf
  refine lv_aload_n hx hb dX1_add_0 rfl (lv_at hl 0 rfl) ?_
  refine va_get (D := D) (ci := 1) (v := .int (iv 1)) (C := RX1) (T := TX1) (N := 8) hx hb hts inX1 hown hK hP 0 rfl rfl 6 (by decide) (hts _ (mG wm_369)) (fun _ h9 => h9) rfl dX1_add_1 ?_
  refine lv_sipush (v := 20000) hx hb dX1_add_4 (by decide) ?_
  refine lv_icmp_ne (tgt := 17) hx hb dX1_add_7 (by decide) (fun c7 => ?_) (fun c7 => ?_)
  · have hi27 : vp_in (iv 1) 20000 := by rw [hnc]; exact vp_in_nI hmx (by omega)
    have hi37 := hi27
    have hi47 := hi27
    have hi57 := hi27
    refine lv_aload_n hx hb dX1_add_17 rfl (lv_at hl 0 rfl) ?_
    refine va_get (D := D) (ci := 1) (v := .ref (ad 0)) (C := RX1) (T := TX1) (N := 8) hx hb hts inX1 hown hK hP 0 rfl rfl 0 (by decide) (hts _ (mG wm_371)) (fun _ h9 => h9) rfl dX1_add_18 ?_
    refine lv_aload_n hx hb dX1_add_21 rfl (lv_at hl 0 rfl) ?_
    refine va_get (D := D) (ci := 1) (v := .int (iv 1)) (C := RX1) (T := TX1) (N := 8) hx hb hts inX1 hown hK hP 0 rfl rfl 6 (by decide) (hts _ (mG wm_369)) (fun _ h9 => h9) rfl dX1_add_22 ?_
    refine lv_iload_n hx hb dX1_add_25 rfl (lv_at hl 1 rfl) ?_
    obtain ⟨v26, e26⟩ : ∃ y : Int32, y = (x : Int32).toInt8.toInt32 := ⟨_, rfl⟩
    refine lv_i2b (v := v26) hx hb dX1_add_26 e26.symm ?_
    refine va_bast hx hb hK hP hD hS 1 1 rfl rfl hi27 dX1_add_27 (fun H locs hP hD hS => ?_)
    obtain ⟨ar27, e27⟩ : ∃ zz : Nat → Nat → Int32, zz = va_up ar 0 (upd (ar 0) (Int32.toNatClampNeg (iv 1)) (vp_nar .byte v26)) := ⟨_, rfl⟩
    have hP : va_P D vwCl (mW h1 cI cB cZ ad ar27 iv) H := by rw [e27]; exact hP
    have hD : va_D A (mW h1 cI cB cZ ad ar27 iv) := by rw [e27]; exact hD
    refine lv_aload_n hx hb dX1_add_28 rfl (lv_at hl 0 rfl) ?_
    refine va_get (D := D) (ci := 1) (v := .ref (ad 1)) (C := RX1) (T := TX1) (N := 8) hx hb hts inX1 hown hK hP 0 rfl rfl 1 (by decide) (hts _ (mG wm_372)) (fun _ h9 => h9) rfl dX1_add_29 ?_
    refine lv_aload_n hx hb dX1_add_32 rfl (lv_at hl 0 rfl) ?_
    refine va_get (D := D) (ci := 1) (v := .int (iv 1)) (C := RX1) (T := TX1) (N := 8) hx hb hts inX1 hown hK hP 0 rfl rfl 6 (by decide) (hts _ (mG wm_369)) (fun _ h9 => h9) rfl dX1_add_33 ?_
    refine lv_iload_n hx hb dX1_add_36 rfl (lv_at hl 2 rfl) ?_
    refine va_iast hx hb hK hP hD hS 2 0 rfl rfl hi37 dX1_add_37 (fun H locs hP hD hS => ?_)
    obtain ⟨ar37, e37⟩ : ∃ zz : Nat → Nat → Int32, zz = va_up ar27 1 (upd (ar27 1) (Int32.toNatClampNeg (iv 1)) y) := ⟨_, rfl⟩
    have hP : va_P D vwCl (mW h1 cI cB cZ ad ar37 iv) H := by rw [e37]; exact hP
    have hD : va_D A (mW h1 cI cB cZ ad ar37 iv) := by rw [e37]; exact hD
    refine lv_aload_n hx hb dX1_add_38 rfl (lv_at hl 0 rfl) ?_
    refine va_get (D := D) (ci := 1) (v := .ref (ad 2)) (C := RX1) (T := TX1) (N := 8) hx hb hts inX1 hown hK hP 0 rfl rfl 2 (by decide) (hts _ (mG wm_373)) (fun _ h9 => h9) rfl dX1_add_39 ?_
    refine lv_aload_n hx hb dX1_add_42 rfl (lv_at hl 0 rfl) ?_
    refine va_get (D := D) (ci := 1) (v := .int (iv 1)) (C := RX1) (T := TX1) (N := 8) hx hb hts inX1 hown hK hP 0 rfl rfl 6 (by decide) (hts _ (mG wm_369)) (fun _ h9 => h9) rfl dX1_add_43 ?_
    refine lv_iload_n hx hb dX1_add_46 rfl (lv_at hl 3 rfl) ?_
    refine va_iast hx hb hK hP hD hS 3 0 rfl rfl hi47 dX1_add_47 (fun H locs hP hD hS => ?_)
    obtain ⟨ar47, e47⟩ : ∃ zz : Nat → Nat → Int32, zz = va_up ar37 2 (upd (ar37 2) (Int32.toNatClampNeg (iv 1)) z) := ⟨_, rfl⟩
    have hP : va_P D vwCl (mW h1 cI cB cZ ad ar47 iv) H := by rw [e47]; exact hP
    have hD : va_D A (mW h1 cI cB cZ ad ar47 iv) := by rw [e47]; exact hD
    refine lv_aload_n hx hb dX1_add_48 rfl (lv_at hl 0 rfl) ?_
    refine va_get (D := D) (ci := 1) (v := .ref (ad 3)) (C := RX1) (T := TX1) (N := 8) hx hb hts inX1 hown hK hP 0 rfl rfl 3 (by decide) (hts _ (mG wm_374)) (fun _ h9 => h9) rfl dX1_add_49 ?_
    refine lv_aload_n hx hb dX1_add_52 rfl (lv_at hl 0 rfl) ?_
    refine va_get (D := D) (ci := 1) (v := .int (iv 1)) (C := RX1) (T := TX1) (N := 8) hx hb hts inX1 hown hK hP 0 rfl rfl 6 (by decide) (hts _ (mG wm_369)) (fun _ h9 => h9) rfl dX1_add_53 ?_
    refine lv_iconst (v := 0) hx hb dX1_add_56 (by decide) ?_
    refine va_zast hx hb hK hP hD hS 4 2 rfl rfl hi57 dX1_add_57 (fun H locs hP hD hS => ?_)
    obtain ⟨ar57, e57⟩ : ∃ zz : Nat → Nat → Int32, zz = va_up ar47 3 (upd (ar47 3) (Int32.toNatClampNeg (iv 1)) (vp_nar .boolean 0)) := ⟨_, rfl⟩
    have hP : va_P D vwCl (mW h1 cI cB cZ ad ar57 iv) H := by rw [e57]; exact hP
    have hD : va_D A (mW h1 cI cB cZ ad ar57 iv) := by rw [e57]; exact hD
    refine lv_aload_n hx hb dX1_add_58 rfl (lv_at hl 0 rfl) ?_
    refine lv_dup hx hb dX1_add_59 rfl ?_
    refine va_get (D := D) (ci := 1) (v := .int (iv 1)) (C := RX1) (T := TX1) (N := 8) hx hb hts inX1 hown hK hP 0 rfl rfl 6 (by decide) (hts _ (mG wm_369)) (fun _ h9 => h9) rfl dX1_add_60 ?_
    refine lv_iconst (v := 1) hx hb dX1_add_63 (by decide) ?_
    refine lv_iadd hx hb dX1_add_64 ?_
    refine lv_topi (fun v64 e64 => ?_)
    refine va_put (D := D) (ci := 1) (v := .int v64) (ty := .int) (C := RX1) (T := TX1) (N := 8) hx hb hts inX1 tyX1 tyX1_ok nmX1 hown hK hP hD hS 0 rfl rfl 6 (by decide) (hts _ (mG wm_369)) (fun _ h9 => h9) rfl (by decide +kernel) rfl rfl (Nat.le_of_ble_eq_true rfl) dX1_add_65 (fun H locs hP hD hS => ?_)
    obtain ⟨iv65, e65⟩ : ∃ zz : Nat → Int32, zz = va_up iv 1 v64 := ⟨_, rfl⟩
    have hP : va_P D vwCl (mW h1 cI cB cZ ad ar57 iv65) H := by rw [e65]; exact hP
    have hD : va_D A (mW h1 cI cB cZ ad ar57 iv65) := by rw [e65]; exact hD
    refine lv_aload_n hx hb dX1_add_68 rfl (lv_at hl 0 rfl) ?_
    refine va_get (D := D) (ci := 1) (v := .int (iv65 1)) (C := RX1) (T := TX1) (N := 8) hx hb hts inX1 hown hK hP 0 rfl rfl 6 (by decide) (hts _ (mG wm_369)) (fun _ h9 => h9) rfl dX1_add_69 ?_
    refine lv_iconst (v := 1) hx hb dX1_add_72 (by decide) ?_
    refine lv_isub hx hb dX1_add_73 ?_
    refine lv_topi (fun v73 e73 => ?_)
    exact W.iret (v := v73) hx hb hr (fun t ht hW => ⟨⟨v73, (ar57, iv65), rfl, ⟨by rw [e73, e65, va_up_self, e64, hnc, nI_1]; exact nI_pred nc, by rw [e65, e64, e57, e47, e37, e27, e26, hx8, hnc, nI_clamp (by omega), nI_1]; rfl⟩, by rw [ht]; exact hP, va_K.moved hW.alike hK, hD⟩, hS.F ht⟩) hS.2.2 dX1_add_74
  · exact absurd ((nI_eq (by omega) (by omega)).mp (show nI nc = nI 20000 by rw [← hnc]; exact c7)) (by omega)
