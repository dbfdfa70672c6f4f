set_option maxHeartbeats 4000000 in
set_option maxRecDepth 100000 in
/-- the reference: cone -/
theorem m_cone (l : Launch) (D : va_G) (h1 : Nat) (cI cB cZ : ClassId) (ad : Nat → Nat) (ar : Nat → Nat → Int32) (iv : Nat → Int32) (sz : Nat) (x : Int32) (nc ic : Nat) (g : Ct) (bv : Nat → Bool) (hok : mm_ok nc ic g bv ar iv) (hmx : nc + 6 ≤ 20000) : Met l yX1_cone wsX1_cone ({ frames := 1, cells := 0, slots := 0, locals := 23 }) (mP D (mW h1 cI cB cZ ad ar iv) [(cI, .int), (cB, .byte), (cZ, .boolean)] sz [.ref h1, .int x]) (va_Qi (fun (r : Int32) (u : MS) => md_ans (ct_lit nc x) nc ic g bv (r = nI (ct_cn g ((Int32.toNatClampNeg x) / 2) ((Int32.toNatClampNeg x) / 2 + 1)) ∧ mm_ok nc ic g bv u.1 u.2) u) (mm_at D cI cB cZ ad (va_A (mW h1 cI cB cZ ad ar iv) sz) h1) (va_A (mW h1 cI cB cZ ad ar iv) sz)) 0 0 (va_A (mW h1 cI cB cZ ad ar iv) sz) := by
  refine Met.ofW (cc := cX1_cone) (maxL := 2) (ret := (some .int)) (by decide) rfl ?_
  intro p e s m args below meth c s₁ B hml hv
  obtain ⟨rfl, hsz, hP, hK, hD0⟩ := hv
  have hx := B.exec
  have hb := B.bytes
  have hr := B.returns
  have hts := atoms_spec (ws := wsX1_cone) B.pre
  have hown : s.vm.findClass RX1 = some m.cls := findClass_of_methodNamed B.named
  have hlocks := B.notSynchronized
  have hl := lv_entry ([.ref h1, .int x]) (n := 2) (Nat.le_of_ble_eq_true rfl)
  rw [lg_entry_eq]
  generalize (lg_sl ([.ref h1, .int x]) ++ List.replicate (2 - (lg_sl ([.ref h1, .int x])).length) Slot.unset).toArray = ls at hl ⊢
  have hl : lv_has ls 2 [(0, .ref h1), (1, .int x)] := hl
  subst hsz
  have hD := hD0.self (sz := s.heap.size)
  generalize hAe : va_A (mW h1 cI cB cZ ad ar iv) s.heap.size = A at hD ⊢
  have hA : ∀ q : Nat, s.heap.size ≤ q → A q := fun q h => by rw [← hAe]; exact Or.inr h
  have hS : va_S A s.heap s.heap [] := va_S.rf
  refine lv_aload_n hx hb dX1_cone_0 rfl (lv_at hl 0 rfl) ?_
  refine lv_aload_n hx hb dX1_cone_1 rfl (lv_at hl 0 rfl) ?_
  refine lv_iload_n hx hb dX1_cone_2 rfl (lv_at hl 1 rfl) ?_
  refine vp_callSi (W.runV (As := [.int x]) (rest := [.ref h1]) ⟨hx, hb, hml, hown, hts⟩ (m_isLiteral l D h1 cI cB cZ ad ar iv x) (cwV 1 hts gX1_cone_X1_isLiteral rfl rfl rfl (by decide +kernel) ⟨Nat.le_of_ble_eq_true rfl, Nat.le_of_ble_eq_true rfl⟩) (rP_V hK hP (va_recv hK hP (ci := 1) (q0 := 0) rfl rfl)) rfl rfl hl.1 rfl (lv_room (Nat.le_of_ble_eq_true rfl)) dX1_cone_3 ⟨Nat.zero_le _, Nat.zero_le _⟩) (fun r3 e3 => ?_)
  refine lv_if_eq (tgt := 13) hx hb dX1_cone_6 (by decide) (fun c6 => ?_) (fun c6 => ?_)
  · have nV := (mm_lit hok e3).1 c6
    refine lv_iconst (v := 1) hx hb dX1_cone_13 (by decide) ?_
    refine va_put (D := D) (ci := 1) (v := .int 1) (ty := .int) (C := RX1) (T := TX1) (N := 8) hx hb hts inX1 tyX1 tyX1_ok nmX1 hown hK hP hD hS 0 rfl rfl 5 (by decide) (hts _ (mG wm_368)) (fun _ h9 => h9) rfl (by decide +kernel) rfl rfl (Nat.le_of_ble_eq_true rfl) dX1_cone_14 (fun H locs hP hD hS => ?_)
    obtain ⟨iv14, e14⟩ : ∃ zz : Nat → Int32, zz = va_up iv 0 1 := ⟨_, rfl⟩
    have hP : va_P D vwCl (mW h1 cI cB cZ ad ar iv14) H := by rw [e14]; exact hP
    have hD : va_D A (mW h1 cI cB cZ ad ar iv14) := by rw [e14]; exact hD
    have hokc : mm_ok nc ic g bv ar iv14 := mm_ok_iv hok (by rw [e14, va_up_ne _ _ (by decide)]) (by rw [e14, va_up_ne _ _ (by decide)])
    refine lv_aload_n hx hb dX1_cone_17 rfl (lv_at hl 0 rfl) ?_
    refine va_get (D := D) (ci := 1) (v := .int (iv14 0)) (C := RX1) (T := TX1) (N := 8) hx hb hts inX1 hown hK hP 0 rfl rfl 5 (by decide) (hts _ (mG wm_368)) (fun _ h9 => h9) rfl dX1_cone_18 ?_
    refine lv_if_le (tgt := 28) hx hb dX1_cone_21 (by decide) (fun c21 => ?_) (fun c21 => ?_)
    · exact absurd c21 (by rw [(show iv14 0 = 1 by rw [e14]; exact va_up_self _ _ _)]; decide)
    · refine lv_iconst (v := 0) hx hb dX1_cone_24 (by decide) ?_
      refine lv_goto (tgt := 33) hx hb dX1_cone_25 (by decide) ?_
      exact W.iret (v := 0) hx hb hr (fun t ht hW => ⟨⟨0, (ar, iv14), rfl, Or.inr ⟨nV, (show iv14 0 = 1 by rw [e14]; exact va_up_self _ _ _), hokc⟩, by rw [ht]; exact hP, va_K.moved hW.alike hK, hD⟩, hS.F ht⟩) hS.2.2 dX1_cone_33
  · have V := (mm_lit hok e3).2 c6
    have xa := ct_lit_n V (by omega)
    refine lv_iconst (v := 0) hx hb dX1_cone_9 (by decide) ?_
    refine lv_goto (tgt := 14) hx hb dX1_cone_10 (by decide) ?_
    refine va_put (D := D) (ci := 1) (v := .int 0) (ty := .int) (C := RX1) (T := TX1) (N := 8) hx hb hts inX1 tyX1 tyX1_ok nmX1 hown hK hP hD hS 0 rfl rfl 5 (by decide) (hts _ (mG wm_368)) (fun _ h9 => h9) rfl (by decide +kernel) rfl rfl (Nat.le_of_ble_eq_true rfl) dX1_cone_14 (fun H locs hP hD hS => ?_)
    obtain ⟨iv14, e14⟩ : ∃ zz : Nat → Int32, zz = va_up iv 0 0 := ⟨_, rfl⟩
    have hP : va_P D vwCl (mW h1 cI cB cZ ad ar iv14) H := by rw [e14]; exact hP
    have hD : va_D A (mW h1 cI cB cZ ad ar iv14) := by rw [e14]; exact hD
    have hokc : mm_ok nc ic g bv ar iv14 := mm_ok_iv hok (by rw [e14, va_up_ne _ _ (by decide)]) (by rw [e14, va_up_ne _ _ (by decide)])
    refine lv_aload_n hx hb dX1_cone_17 rfl (lv_at hl 0 rfl) ?_
    refine va_get (D := D) (ci := 1) (v := .int (iv14 0)) (C := RX1) (T := TX1) (N := 8) hx hb hts inX1 hown hK hP 0 rfl rfl 5 (by decide) (hts _ (mG wm_368)) (fun _ h9 => h9) rfl dX1_cone_18 ?_
    refine lv_if_le (tgt := 28) hx hb dX1_cone_21 (by decide) (fun c21 => ?_) (fun c21 => ?_)
    · refine lv_aload_n hx hb dX1_cone_28 rfl (lv_at hl 0 rfl) ?_
      refine lv_iload_n hx hb dX1_cone_29 rfl (lv_at hl 1 rfl) ?_
      have hFc := va_free (wc := (mW h1 cI cB cZ ad ar iv14)) hD hS hA [0, 1, 2, 3, 4, 5] rfl
      refine va_calli (va_runV (As := [.int x]) (rest := []) ⟨hx, hb, hml, hown, hts⟩ (m_markBelow l D h1 cI cB cZ ad ar iv14 H.size x (Int32.toNatClampNeg x) nc ic g bv xa.1 xa.2 hokc) (cwV 1 hts gX1_cone_X1_markBelow rfl rfl rfl (by decide +kernel) ⟨Nat.le_of_ble_eq_true rfl, Nat.le_of_ble_eq_true rfl⟩) (mP_V hK hP hD (va_recv hK hP (ci := 1) (q0 := 0) rfl rfl)) rfl rfl hl.1 rfl (lv_room (Nat.le_of_ble_eq_true rfl)) dX1_cone_30 ⟨Nat.zero_le _, Nat.zero_le _⟩) hS (fun q _ h => hFc q h) hFc (fun r30 u t H1 locs ht hvm e30 hB hz1 hk1 hS => ?_)
      obtain ⟨ar30, iv30⟩ := u
      obtain ⟨hP1, hK1, hD1⟩ := hB
      rw [ht] at hP1
      have hK := va_K.moved hvm.symm hK1
      have hP : va_P D vwCl (mW h1 cI cB cZ ad ar30 iv30) H1 := hP1
      have hD : va_D A (mW h1 cI cB cZ ad ar30 iv30) := hD1.weaken (fun k q _ h => hFc q.1 h)
      clear hP1 hK1 hD1 hk1 hz1 hFc ht
      generalize H1 = H at hP hS ⊢
      try dsimp only at e30
      have z30 : iv30 0 = 0 := by rw [show iv30 = _ from e30.2.1]; exact (show iv14 0 = 0 by rw [e14]; exact va_up_self _ _ _)
      have hnew : mm_ok nc ic g bv ar30 iv30 := by rw [show iv30 = _ from e30.2.1]; exact mm_ok_mark hokc e30.1
      exact W.iret (v := r30) hx hb hr (fun t ht hW => ⟨⟨r30, (ar30, iv30), rfl, Or.inl ⟨V, z30, e30.2.2.1, hnew⟩, by rw [ht]; exact hP, va_K.moved hW.alike hK, hD⟩, hS.F ht⟩) hS.2.2 dX1_cone_33
    · exact absurd (by rw [(show iv14 0 = 0 by rw [e14]; exact va_up_self _ _ _)]; decide) c21
set_option maxHeartbeats 4000000 in
set_option maxRecDepth 100000 in
/-- the reference: below -/
theorem m_below (l : Launch) (D : va_G) (h1 : Nat) (cI cB cZ : ClassId) (ad : Nat → Nat) (ar : Nat → Nat → Int32) (iv : Nat → Int32) (sz : Nat) (x : Int32) (y : Int32) (nc ic : Nat) (g : Ct) (bv : Nat → Bool) (hok : mm_ok nc ic g bv ar iv) (hmx : nc + 6 ≤ 20000) : Met l yX1_below wsX1_below ({ frames := 1, cells := 0, slots := 0, locals := 23 }) (mP D (mW h1 cI cB cZ ad ar iv) [(cI, .int), (cB, .byte), (cZ, .boolean)] sz [.ref h1, .int x, .int y]) (va_Qi (fun (r : Int32) (u : MS) => md_ans ((ct_nod nc x ∧ ct_kd g (Int32.toNatClampNeg x) = 1) ∧ ct_lit nc y) nc ic g bv (r = ct_b (ct_in g ((Int32.toNatClampNeg y) / 2) (Int32.toNatClampNeg x)) ∧ mm_ok nc ic g bv u.1 u.2) u) (mm_at D cI cB cZ ad (va_A (mW h1 cI cB cZ ad ar iv) sz) h1) (va_A (mW h1 cI cB cZ ad ar iv) sz)) 0 0 (va_A (mW h1 cI cB cZ ad ar iv) sz) := by
  refine Met.ofW (cc := cX1_below) (maxL := 4) (ret := (some .boolean)) (by decide) rfl ?_
  intro p e s m args below meth c s₁ B hml hv
  obtain ⟨rfl, hsz, hP, hK, hD0⟩ := hv
  have hx := B.exec
  have hb := B.bytes
  have hr := B.returns
  have hts := atoms_spec (ws := wsX1_below) B.pre
  have hown : s.vm.findClass RX1 = some m.cls := findClass_of_methodNamed B.named
  have hlocks := B.notSynchronized
  have hl := lv_entry ([.ref h1, .int x, .int y]) (n := 4) (Nat.le_of_ble_eq_true rfl)
  rw [lg_entry_eq]
  generalize (lg_sl ([.ref h1, .int x, .int y]) ++ List.replicate (4 - (lg_sl ([.ref h1, .int x, .int y])).length) Slot.unset).toArray = ls at hl ⊢
  have hl : lv_has ls 4 [(0, .ref h1), (1, .int x), (2, .int y)] := hl
  subst hsz
  have hD := hD0.self (sz := s.heap.size)
  generalize hAe : va_A (mW h1 cI cB cZ ad ar iv) s.heap.size = A at hD ⊢
  have hA : ∀ q : Nat, s.heap.size ≤ q → A q := fun q h => by rw [← hAe]; exact Or.inr h
  have hS : va_S A s.heap s.heap [] := va_S.rf
  have hnc := hok.nc
  have hmx6 := hmx
  have hmx := hok.mx
  refine lv_aload_n hx hb dX1_below_0 rfl (lv_at hl 0 rfl) ?_
  refine lv_aload_n hx hb dX1_below_1 rfl (lv_at hl 0 rfl) ?_
  refine lv_iload_n hx hb dX1_below_2 rfl (lv_at hl 1 rfl) ?_
  refine vp_callSi (W.runV (As := [.int x]) (rest := [.ref h1]) ⟨hx, hb, hml, hown, hts⟩ (m_isInput l D h1 cI cB cZ ad ar iv x nc hnc hmx) (cwV 1 hts gX1_below_X1_isInput rfl rfl rfl (by decide +kernel) ⟨Nat.le_of_ble_eq_true rfl, Nat.le_of_ble_eq_true rfl⟩) (rP_V hK hP (va_recv hK hP (ci := 1) (q0 := 0) rfl rfl)) rfl rfl hl.1 rfl (lv_room (Nat.le_of_ble_eq_true rfl)) dX1_below_3 ⟨Nat.zero_le _, Nat.zero_le _⟩) (fun r3 e3 => ?_)
  refine lv_if_eq (tgt := 21) hx hb dX1_below_6 (by decide) (fun c6 => ?_) (fun c6 => ?_)
  · have nV : ¬ ((ct_nod nc x ∧ ct_kd g (Int32.toNatClampNeg x) = 1) ∧ ct_lit nc y) := fun z => (mm_inp hok e3).1 c6 z.1
    refine lv_iconst (v := 1) hx hb dX1_below_21 (by decide) ?_
    refine va_put (D := D) (ci := 1) (v := .int 1) (ty := .int) (C := RX1) (T := TX1) (N := 8) hx hb hts inX1 tyX1 tyX1_ok nmX1 hown hK hP hD hS 0 rfl rfl 5 (by decide) (hts _ (mG wm_368)) (fun _ h9 => h9) rfl (by decide +kernel) rfl rfl (Nat.le_of_ble_eq_true rfl) dX1_below_22 (fun H locs hP hD hS => ?_)
    obtain ⟨iv22, e22⟩ : ∃ zz : Nat → Int32, zz = va_up iv 0 1 := ⟨_, rfl⟩
    have hP : va_P D vwCl (mW h1 cI cB cZ ad ar iv22) H := by rw [e22]; exact hP
    have hD : va_D A (mW h1 cI cB cZ ad ar iv22) := by rw [e22]; exact hD
    have hokc : mm_ok nc ic g bv ar iv22 := mm_ok_iv hok (by rw [e22, va_up_ne _ _ (by decide)]) (by rw [e22, va_up_ne _ _ (by decide)])
    refine lv_aload_n hx hb dX1_below_25 rfl (lv_at hl 0 rfl) ?_
    refine va_get (D := D) (ci := 1) (v := .int (iv22 0)) (C := RX1) (T := TX1) (N := 8) hx hb hts inX1 hown hK hP 0 rfl rfl 5 (by decide) (hts _ (mG wm_368)) (fun _ h9 => h9) rfl dX1_below_26 ?_
    refine lv_if_le (tgt := 34) hx hb dX1_below_29 (by decide) (fun c29 => ?_) (fun c29 => ?_)
    · exact absurd c29 (by rw [(show iv22 0 = 1 by rw [e22]; exact va_up_self _ _ _)]; decide)
    · refine lv_iconst (v := 0) hx hb dX1_below_32 (by decide) ?_
      exact W.zret (v := 0) hx hb hr (by decide) (fun t ht hW => ⟨⟨0, (ar, iv22), rfl, Or.inr ⟨nV, (show iv22 0 = 1 by rw [e22]; exact va_up_self _ _ _), hokc⟩, by rw [ht]; exact hP, va_K.moved hW.alike hK, hD⟩, hS.F ht⟩) hS.2.2 dX1_below_33
  · refine lv_aload_n hx hb dX1_below_9 rfl (lv_at hl 0 rfl) ?_
    refine lv_iload_n hx hb dX1_below_10 rfl (lv_at hl 2 rfl) ?_
    refine vp_callSi (W.runV (As := [.int y]) (rest := [.ref h1]) ⟨hx, hb, hml, hown, hts⟩ (m_isLiteral l D h1 cI cB cZ ad ar iv y) (cwV 1 hts gX1_below_X1_isLiteral rfl rfl rfl (by decide +kernel) ⟨Nat.le_of_ble_eq_true rfl, Nat.le_of_ble_eq_true rfl⟩) (rP_V hK hP (va_recv hK hP (ci := 1) (q0 := 0) rfl rfl)) rfl rfl hl.1 rfl (lv_room (Nat.le_of_ble_eq_true rfl)) dX1_below_11 ⟨Nat.zero_le _, Nat.zero_le _⟩) (fun r11 e11 => ?_)
    refine lv_if_eq (tgt := 21) hx hb dX1_below_14 (by decide) (fun c14 => ?_) (fun c14 => ?_)
    · have nV : ¬ ((ct_nod nc x ∧ ct_kd g (Int32.toNatClampNeg x) = 1) ∧ ct_lit nc y) := fun z => (mm_lit hok e11).1 c14 z.2
      refine lv_iconst (v := 1) hx hb dX1_below_21 (by decide) ?_
      refine va_put (D := D) (ci := 1) (v := .int 1) (ty := .int) (C := RX1) (T := TX1) (N := 8) hx hb hts inX1 tyX1 tyX1_ok nmX1 hown hK hP hD hS 0 rfl rfl 5 (by decide) (hts _ (mG wm_368)) (fun _ h9 => h9) rfl (by decide +kernel) rfl rfl (Nat.le_of_ble_eq_true rfl) dX1_below_22 (fun H locs hP hD hS => ?_)
      obtain ⟨iv22, e22⟩ : ∃ zz : Nat → Int32, zz = va_up iv 0 1 := ⟨_, rfl⟩
      have hP : va_P D vwCl (mW h1 cI cB cZ ad ar iv22) H := by rw [e22]; exact hP
      have hD : va_D A (mW h1 cI cB cZ ad ar iv22) := by rw [e22]; exact hD
      have hokc : mm_ok nc ic g bv ar iv22 := mm_ok_iv hok (by rw [e22, va_up_ne _ _ (by decide)]) (by rw [e22, va_up_ne _ _ (by decide)])
      refine lv_aload_n hx hb dX1_below_25 rfl (lv_at hl 0 rfl) ?_
      refine va_get (D := D) (ci := 1) (v := .int (iv22 0)) (C := RX1) (T := TX1) (N := 8) hx hb hts inX1 hown hK hP 0 rfl rfl 5 (by decide) (hts _ (mG wm_368)) (fun _ h9 => h9) rfl dX1_below_26 ?_
      refine lv_if_le (tgt := 34) hx hb dX1_below_29 (by decide) (fun c29 => ?_) (fun c29 => ?_)
      · exact absurd c29 (by rw [(show iv22 0 = 1 by rw [e22]; exact va_up_self _ _ _)]; decide)
      · refine lv_iconst (v := 0) hx hb dX1_below_32 (by decide) ?_
        exact W.zret (v := 0) hx hb hr (by decide) (fun t ht hW => ⟨⟨0, (ar, iv22), rfl, Or.inr ⟨nV, (show iv22 0 = 1 by rw [e22]; exact va_up_self _ _ _), hokc⟩, by rw [ht]; exact hP, va_K.moved hW.alike hK, hD⟩, hS.F ht⟩) hS.2.2 dX1_below_33
    · have V : (ct_nod nc x ∧ ct_kd g (Int32.toNatClampNeg x) = 1) ∧ ct_lit nc y := ⟨(mm_inp hok e3).2 c6, (mm_lit hok e11).2 c14⟩
      have xa := ct_nod_n V.1.1 (by omega)
      have ya := ct_lit_n V.2 (by omega)
      refine lv_iconst (v := 0) hx hb dX1_below_17 (by decide) ?_
      refine lv_goto (tgt := 22) hx hb dX1_below_18 (by decide) ?_
      refine va_put (D := D) (ci := 1) (v := .int 0) (ty := .int) (C := RX1) (T := TX1) (N := 8) hx hb hts inX1 tyX1 tyX1_ok nmX1 hown hK hP hD hS 0 rfl rfl 5 (by decide) (hts _ (mG wm_368)) (fun _ h9 => h9) rfl (by decide +kernel) rfl rfl (Nat.le_of_ble_eq_true rfl) dX1_below_22 (fun H locs hP hD hS => ?_)
      obtain ⟨iv22, e22⟩ : ∃ zz : Nat → Int32, zz = va_up iv 0 0 := ⟨_, rfl⟩
      have hP : va_P D vwCl (mW h1 cI cB cZ ad ar iv22) H := by rw [e22]; exact hP
      have hD : va_D A (mW h1 cI cB cZ ad ar iv22) := by rw [e22]; exact hD
      have hokc : mm_ok nc ic g bv ar iv22 := mm_ok_iv hok (by rw [e22, va_up_ne _ _ (by decide)]) (by rw [e22, va_up_ne _ _ (by decide)])
      refine lv_aload_n hx hb dX1_below_25 rfl (lv_at hl 0 rfl) ?_
      refine va_get (D := D) (ci := 1) (v := .int (iv22 0)) (C := RX1) (T := TX1) (N := 8) hx hb hts inX1 hown hK hP 0 rfl rfl 5 (by decide) (hts _ (mG wm_368)) (fun _ h9 => h9) rfl dX1_below_26 ?_
      refine lv_if_le (tgt := 34) hx hb dX1_below_29 (by decide) (fun c29 => ?_) (fun c29 => ?_)
      · refine lv_aload_n hx hb dX1_below_34 rfl (lv_at hl 0 rfl) ?_
        refine lv_iload_n hx hb dX1_below_35 rfl (lv_at hl 2 rfl) ?_
        have hFc := va_free (wc := (mW h1 cI cB cZ ad ar iv22)) hD hS hA [0, 1, 2, 3, 4, 5] rfl
        refine va_calli (va_runV (As := [.int y]) (rest := []) ⟨hx, hb, hml, hown, hts⟩ (m_markBelow l D h1 cI cB cZ ad ar iv22 H.size y (Int32.toNatClampNeg y) nc ic g bv ya.1 ya.2 hokc) (cwV 1 hts gX1_below_X1_markBelow rfl rfl rfl (by decide +kernel) ⟨Nat.le_of_ble_eq_true rfl, Nat.le_of_ble_eq_true rfl⟩) (mP_V hK hP hD (va_recv hK hP (ci := 1) (q0 := 0) rfl rfl)) rfl rfl hl.1 rfl (lv_room (Nat.le_of_ble_eq_true rfl)) dX1_below_36 ⟨Nat.zero_le _, Nat.zero_le _⟩) hS (fun q _ h => hFc q h) hFc (fun r36 u t H1 locs ht hvm e36 hB hz1 hk1 hS => ?_)
        obtain ⟨ar36, iv36⟩ := u
        obtain ⟨hP1, hK1, hD1⟩ := hB
        rw [ht] at hP1
        have hK := va_K.moved hvm.symm hK1
        have hP : va_P D vwCl (mW h1 cI cB cZ ad ar36 iv36) H1 := hP1
        have hD : va_D A (mW h1 cI cB cZ ad ar36 iv36) := hD1.weaken (fun k q _ h => hFc q.1 h)
        clear hP1 hK1 hD1 hk1 hz1 hFc ht
        generalize H1 = H at hP hS ⊢
        try dsimp only at e36
        have z36 : iv36 0 = 0 := by rw [show iv36 = _ from e36.2.1]; exact (show iv22 0 = 0 by rw [e22]; exact va_up_self _ _ _)
        have hnew : mm_ok nc ic g bv ar36 iv36 := by rw [show iv36 = _ from e36.2.1]; exact mm_ok_mark hokc e36.1
        refine lv_istore_n (lv' := [(3, .int r36), (0, .ref h1), (1, .int x), (2, .int y)]) hx hb dX1_below_39 rfl hl (by decide) rfl (fun ls hl => ?_)
        refine lv_iload_n hx hb dX1_below_40 rfl (lv_at hl 0 rfl) ?_
        refine lv_if_lt (tgt := 58) hx hb dX1_below_41 (by decide) (fun c41 => ?_) (fun c41 => ?_)
        · exact absurd c41 (by rw [e36.2.2.1]; exact nI_pos (by have := ct_cn_le (g := g) (t := (Int32.toNatClampNeg y) / 2) ((Int32.toNatClampNeg y) / 2 + 1); omega))
        · have hi49 : vp_in x 20000 := by rw [xa.1]; exact vp_in_nI (by omega) (by omega)
          refine lv_aload_n hx hb dX1_below_44 rfl (lv_at hl 1 rfl) ?_
          refine va_get (D := D) (ci := 1) (v := .ref (ad 4)) (C := RX1) (T := TX1) (N := 8) hx hb hts inX1 hown hK hP 0 rfl rfl 4 (by decide) (hts _ (mG wm_375)) (fun _ h9 => h9) rfl dX1_below_45 ?_
          refine lv_iload_n hx hb dX1_below_48 rfl (lv_at hl 2 rfl) ?_
          refine va_iald hx hb hK hP 5 0 rfl rfl hi49 dX1_below_49 ?_
          refine lv_topi (fun v49 e49 => ?_)
          have e49 : v49 = ct_b (ct_in g ((Int32.toNatClampNeg y) / 2) (Int32.toNatClampNeg x)) := by rw [e49]; exact e36.2.2.2 (Int32.toNatClampNeg x) xa.2
          refine lv_iconst (v := 1) hx hb dX1_below_50 (by decide) ?_
          refine lv_icmp_ne (tgt := 58) hx hb dX1_below_51 (by decide) (fun c51 => ?_) (fun c51 => ?_)
          · have hr9 : (0 : Int32) = ct_b (ct_in g ((Int32.toNatClampNeg y) / 2) (Int32.toNatClampNeg x)) := (ct_b_n1 e49 c51).trans e49
            refine lv_iconst (v := 0) hx hb dX1_below_58 (by decide) ?_
            exact W.zret (v := 0) hx hb hr (by decide) (fun t ht hW => ⟨⟨0, (ar36, iv36), rfl, Or.inl ⟨V, z36, hr9, hnew⟩, by rw [ht]; exact hP, va_K.moved hW.alike hK, hD⟩, hS.F ht⟩) hS.2.2 dX1_below_59
          · have hr9 : (1 : Int32) = ct_b (ct_in g ((Int32.toNatClampNeg y) / 2) (Int32.toNatClampNeg x)) := by rw [← e49]; exact c51.symm
            refine lv_iconst (v := 1) hx hb dX1_below_54 (by decide) ?_
            refine lv_goto (tgt := 59) hx hb dX1_below_55 (by decide) ?_
            exact W.zret (v := 1) hx hb hr (by decide) (fun t ht hW => ⟨⟨1, (ar36, iv36), rfl, Or.inl ⟨V, z36, hr9, hnew⟩, by rw [ht]; exact hP, va_K.moved hW.alike hK, hD⟩, hS.F ht⟩) hS.2.2 dX1_below_59
      · exact absurd (by rw [(show iv22 0 = 0 by rw [e22]; exact va_up_self _ _ _)]; decide) c29
set_option maxHeartbeats 4000000 in
set_option maxRecDepth 100000 in
/-- the reference: depth -/
theorem m_depth (l : Launch) (D : va_G) (h1 : Nat) (cI cB cZ : ClassId) (ad : Nat → Nat) (ar : Nat → Nat → Int32) (iv : Nat → Int32) (sz : Nat) (x : Int32) (nc ic : Nat) (g : Ct) (bv : Nat → Bool) (hok : mm_ok nc ic g bv ar iv) (hmx : nc + 6 ≤ 20000) : Met l yX1_depth wsX1_depth ({ frames := 1, cells := 0, slots := 0, locals := 21 }) (mP D (mW h1 cI cB cZ ad ar iv) [(cI, .int), (cB, .byte), (cZ, .boolean)] sz [.ref h1, .int x]) (va_Qi (fun (r : Int32) (u : MS) => md_ans (ct_lit nc x) nc ic g bv (r = nI (ct_dp g ((Int32.toNatClampNeg x) / 2)) ∧ mm_ok nc ic g bv u.1 u.2) u) (mm_at D cI cB cZ ad (va_A (mW h1 cI cB cZ ad ar iv) sz) h1) (va_A (mW h1 cI cB cZ ad ar iv) sz)) 0 0 (va_A (mW h1 cI cB cZ ad ar iv) sz) := by
  refine Met.ofW (cc := cX1_depth) (maxL := 5) (ret := (some .int)) (by decide) rfl ?_
  intro p e s m args below meth c s₁ B hml hv
  obtain ⟨rfl, hsz, hP, hK, hD0⟩ := hv
  have hx := B.exec
  have hb := B.bytes
  have hr := B.returns
  have hts := atoms_spec (ws := wsX1_depth) B.pre
  have hown : s.vm.findClass RX1 = some m.cls := findClass_of_methodNamed B.named
  have hlocks := B.notSynchronized
  have hl := lv_entry ([.ref h1, .int x]) (n := 5) (Nat.le_of_ble_eq_true rfl)
  rw [lg_entry_eq]
  generalize (lg_sl ([.ref h1, .int x]) ++ List.replicate (5 - (lg_sl ([.ref h1, .int x])).length) Slot.unset).toArray = ls at hl ⊢
  have hl : lv_has ls 5 [(0, .ref h1), (1, .int x)] := hl
  subst hsz
  have hD := hD0.self (sz := s.heap.size)
  generalize hAe : va_A (mW h1 cI cB cZ ad ar iv) s.heap.size = A at hD ⊢
  have hA : ∀ q : Nat, s.heap.size ≤ q → A q := fun q h => by rw [← hAe]; exact Or.inr h
  have hS : va_S A s.heap s.heap [] := va_S.rf
  refine lv_aload_n hx hb dX1_depth_0 rfl (lv_at hl 0 rfl) ?_
  refine lv_aload_n hx hb dX1_depth_1 rfl (lv_at hl 0 rfl) ?_
  refine lv_iload_n hx hb dX1_depth_2 rfl (lv_at hl 1 rfl) ?_
  refine vp_callSi (W.runV (As := [.int x]) (rest := [.ref h1]) ⟨hx, hb, hml, hown, hts⟩ (m_isLiteral l D h1 cI cB cZ ad ar iv x) (cwV 1 hts gX1_depth_X1_isLiteral rfl rfl rfl (by decide +kernel) ⟨Nat.le_of_ble_eq_true rfl, Nat.le_of_ble_eq_true rfl⟩) (rP_V hK hP (va_recv hK hP (ci := 1) (q0 := 0) rfl rfl)) rfl rfl hl.1 rfl (lv_room (Nat.le_of_ble_eq_true rfl)) dX1_depth_3 ⟨Nat.zero_le _, Nat.zero_le _⟩) (fun r3 e3 => ?_)
  refine lv_if_eq (tgt := 13) hx hb dX1_depth_6 (by decide) (fun c6 => ?_) (fun c6 => ?_)
  · have nV := (mm_lit hok e3).1 c6
    refine lv_iconst (v := 1) hx hb dX1_depth_13 (by decide) ?_
    refine va_put (D := D) (ci := 1) (v := .int 1) (ty := .int) (C := RX1) (T := TX1) (N := 8) hx hb hts inX1 tyX1 tyX1_ok nmX1 hown hK hP hD hS 0 rfl rfl 5 (by decide) (hts _ (mG wm_368)) (fun _ h9 => h9) rfl (by decide +kernel) rfl rfl (Nat.le_of_ble_eq_true rfl) dX1_depth_14 (fun H locs hP hD hS => ?_)
    obtain ⟨iv14, e14⟩ : ∃ zz : Nat → Int32, zz = va_up iv 0 1 := ⟨_, rfl⟩
    have hP : va_P D vwCl (mW h1 cI cB cZ ad ar iv14) H := by rw [e14]; exact hP
    have hD : va_D A (mW h1 cI cB cZ ad ar iv14) := by rw [e14]; exact hD
    have hokc : mm_ok nc ic g bv ar iv14 := mm_ok_iv hok (by rw [e14, va_up_ne _ _ (by decide)]) (by rw [e14, va_up_ne _ _ (by decide)])
    refine lv_iconst (v := 0) hx hb dX1_depth_17 (by decide) ?_
    refine lv_istore_n (lv' := [(2, .int 0), (0, .ref h1), (1, .int x)]) hx hb dX1_depth_18 rfl hl (by decide) rfl (fun ls hl => ?_)
    refine lv_iload_n hx hb dX1_depth_19 rfl (lv_at hl 0 rfl) ?_
    refine lv_aload_n hx hb dX1_depth_20 rfl (lv_at hl 1 rfl) ?_
    refine va_get (D := D) (ci := 1) (v := .int (iv14 1)) (C := RX1) (T := TX1) (N := 8) hx hb hts inX1 hown hK hP 0 rfl rfl 6 (by decide) (hts _ (mG wm_369)) (fun _ h9 => h9) rfl dX1_depth_21 ?_
    refine lv_icmp_ge (tgt := 117) hx hb dX1_depth_24 (by decide) (fun c24 => ?_) (fun c24 => ?_)
    · refine lv_aload_n hx hb dX1_depth_117 rfl (lv_at hl 1 rfl) ?_
      refine va_get (D := D) (ci := 1) (v := .int (iv14 0)) (C := RX1) (T := TX1) (N := 8) hx hb hts inX1 hown hK hP 0 rfl rfl 5 (by decide) (hts _ (mG wm_368)) (fun _ h9 => h9) rfl dX1_depth_118 ?_
      refine lv_if_le (tgt := 128) hx hb dX1_depth_121 (by decide) (fun c121 => ?_) (fun c121 => ?_)
      · exact absurd c121 (by rw [(show iv14 0 = 1 by rw [e14]; exact va_up_self _ _ _)]; decide)
      · refine lv_iconst (v := 0) hx hb dX1_depth_124 (by decide) ?_
        refine lv_goto (tgt := 136) hx hb dX1_depth_125 (by decide) ?_
        exact W.iret (v := 0) hx hb hr (fun t ht hW => ⟨⟨0, (ar, iv14), rfl, Or.inr ⟨nV, (show iv14 0 = 1 by rw [e14]; exact va_up_self _ _ _), hokc⟩, by rw [ht]; exact hP, va_K.moved hW.alike hK, hD⟩, hS.F ht⟩) hS.2.2 dX1_depth_136
    · refine lv_aload_n hx hb dX1_depth_27 rfl (lv_at hl 1 rfl) ?_
      refine va_get (D := D) (ci := 1) (v := .int (iv14 0)) (C := RX1) (T := TX1) (N := 8) hx hb hts inX1 hown hK hP 0 rfl rfl 5 (by decide) (hts _ (mG wm_368)) (fun _ h9 => h9) rfl dX1_depth_28 ?_
      refine lv_if_ne (tgt := 117) hx hb dX1_depth_31 (by decide) (fun c31 => ?_) (fun c31 => ?_)
      · refine lv_aload_n hx hb dX1_depth_117 rfl (lv_at hl 1 rfl) ?_
        refine va_get (D := D) (ci := 1) (v := .int (iv14 0)) (C := RX1) (T := TX1) (N := 8) hx hb hts inX1 hown hK hP 0 rfl rfl 5 (by decide) (hts _ (mG wm_368)) (fun _ h9 => h9) rfl dX1_depth_118 ?_
        refine lv_if_le (tgt := 128) hx hb dX1_depth_121 (by decide) (fun c121 => ?_) (fun c121 => ?_)
        · exact absurd c121 (by rw [(show iv14 0 = 1 by rw [e14]; exact va_up_self _ _ _)]; decide)
        · refine lv_iconst (v := 0) hx hb dX1_depth_124 (by decide) ?_
          refine lv_goto (tgt := 136) hx hb dX1_depth_125 (by decide) ?_
          exact W.iret (v := 0) hx hb hr (fun t ht hW => ⟨⟨0, (ar, iv14), rfl, Or.inr ⟨nV, (show iv14 0 = 1 by rw [e14]; exact va_up_self _ _ _), hokc⟩, by rw [ht]; exact hP, va_K.moved hW.alike hK, hD⟩, hS.F ht⟩) hS.2.2 dX1_depth_136
      · exact absurd (c31.symm.trans (show iv14 0 = 1 by rw [e14]; exact va_up_self _ _ _)) (by decide)
  · have V := (mm_lit hok e3).2 c6
    have xa := ct_lit_n V (by omega)
    refine lv_iconst (v := 0) hx hb dX1_depth_9 (by decide) ?_
    refine lv_goto (tgt := 14) hx hb dX1_depth_10 (by decide) ?_
    refine va_put (D := D) (ci := 1) (v := .int 0) (ty := .int) (C := RX1) (T := TX1) (N := 8) hx hb hts inX1 tyX1 tyX1_ok nmX1 hown hK hP hD hS 0 rfl rfl 5 (by decide) (hts _ (mG wm_368)) (fun _ h9 => h9) rfl (by decide +kernel) rfl rfl (Nat.le_of_ble_eq_true rfl) dX1_depth_14 (fun H locs hP hD hS => ?_)
    obtain ⟨iv14, e14⟩ : ∃ zz : Nat → Int32, zz = va_up iv 0 0 := ⟨_, rfl⟩
    have hP : va_P D vwCl (mW h1 cI cB cZ ad ar iv14) H := by rw [e14]; exact hP
    have hD : va_D A (mW h1 cI cB cZ ad ar iv14) := by rw [e14]; exact hD
    have hokc : mm_ok nc ic g bv ar iv14 := mm_ok_iv hok (by rw [e14, va_up_ne _ _ (by decide)]) (by rw [e14, va_up_ne _ _ (by decide)])
    refine lv_iconst (v := 0) hx hb dX1_depth_17 (by decide) ?_
    refine lv_istore_n (lv' := [(2, .int 0), (0, .ref h1), (1, .int x)]) hx hb dX1_depth_18 rfl hl (by decide) rfl (fun ls hl => ?_)
    have hloop0 : ∀ (k : Nat) (q : Nat) (a2 : Nat → Nat → Int32) (H : Heap) (locs : List Loc) (ls : Array Slot), nc - q < k → (q ≤ nc ∧ (∀ k, k ≠ 4 → a2 k = ar k) ∧ ∀ i, i < q → a2 4 i = nI (ct_dp g i)) → va_P D vwCl (mW h1 cI cB cZ ad a2 iv14) H → va_D A (mW h1 cI cB cZ ad a2 iv14) → va_S A s.heap H locs → lv_has ls 5 [(2, .int (nI q)), (0, .ref h1), (1, .int x)] → W p l e (headSpec wsX1_depth ({ frames := 1, cells := 0, slots := 0, locals := 21 })).room s m ([.ref h1, .int x] : List Value).toArray below meth c H locs 0 0 (MQ below (va_Qi (fun (r : Int32) (u : MS) => md_ans (ct_lit nc x) nc ic g bv (r = nI (ct_dp g ((Int32.toNatClampNeg x) / 2)) ∧ mm_ok nc ic g bv u.1 u.2) u) (mm_at D cI cB cZ ad A h1) A) ([.ref h1, .int x] : List Value).toArray s 0 0 A) (F0 m 19 ls []) := by
      intro k
      induction k with
      | zero => intro q a2 H locs ls h; omega
      | succ k ih0 =>
        intro q a2 H locs ls hqk hinv hP hD hS hl
        obtain ⟨i1, i2, i3⟩ := hinv
        refine lv_iload_n hx hb dX1_depth_19 rfl (lv_at hl 0 rfl) ?_
        refine lv_aload_n hx hb dX1_depth_20 rfl (lv_at hl 1 rfl) ?_
        refine va_get (D := D) (ci := 1) (v := .int (iv14 1)) (C := RX1) (T := TX1) (N := 8) hx hb hts inX1 hown hK hP 0 rfl rfl 6 (by decide) (hts _ (mG wm_369)) (fun _ h9 => h9) rfl dX1_depth_21 ?_
        refine lv_icmp_ge (tgt := 117) hx hb dX1_depth_24 (by decide) (fun c24 => ?_) (fun c24 => ?_)
        · have c24 : nc ≤ q := by
            rw [hokc.nc] at c24
            exact (nI_leI (by omega) (by omega)).mp c24
          refine lv_aload_n hx hb dX1_depth_117 rfl (lv_at hl 1 rfl) ?_
          refine va_get (D := D) (ci := 1) (v := .int (iv14 0)) (C := RX1) (T := TX1) (N := 8) hx hb hts inX1 hown hK hP 0 rfl rfl 5 (by decide) (hts _ (mG wm_368)) (fun _ h9 => h9) rfl dX1_depth_118 ?_
          refine lv_if_le (tgt := 128) hx hb dX1_depth_121 (by decide) (fun c121 => ?_) (fun c121 => ?_)
          · refine lv_aload_n hx hb dX1_depth_128 rfl (lv_at hl 1 rfl) ?_
            refine va_get (D := D) (ci := 1) (v := .ref (ad 4)) (C := RX1) (T := TX1) (N := 8) hx hb hts inX1 hown hK hP 0 rfl rfl 4 (by decide) (hts _ (mG wm_375)) (fun _ h9 => h9) rfl dX1_depth_129 ?_
            refine lv_iload_n hx hb dX1_depth_132 rfl (lv_at hl 2 rfl) ?_
            refine lv_iconst (v := 1) hx hb dX1_depth_133 (by decide) ?_
            refine lv_ishr hx hb dX1_depth_134 ?_
            refine lv_topi (fun v134 e134 => ?_)
            have e134 : v134 = nI ((Int32.toNatClampNeg x) / 2) := e134.trans ((congrArg (fun z : Int32 => z >>> ((1 : Int32) &&& 31)) xa.1).trans (ct_shr (by omega)))
            have hi135 : vp_in v134 20000 := by rw [e134]; exact vp_in_nI (by omega) (by omega)
            refine va_iald hx hb hK hP 5 0 rfl rfl hi135 dX1_depth_135 ?_
            refine lv_topi (fun v135 e135 => ?_)
            have e135 : v135 = nI (ct_dp g ((Int32.toNatClampNeg x) / 2)) := by rw [e135, e134, nI_clamp (by omega)]; exact i3 ((Int32.toNatClampNeg x) / 2) (by omega)
            exact W.iret (v := v135) hx hb hr (fun t ht hW => ⟨⟨v135, (a2, iv14), rfl, Or.inl ⟨V, (show iv14 0 = 0 by rw [e14]; exact va_up_self _ _ _), e135, mm_ok_mark hokc i2⟩, by rw [ht]; exact hP, va_K.moved hW.alike hK, hD⟩, hS.F ht⟩) hS.2.2 dX1_depth_136
          · exact absurd (by rw [(show iv14 0 = 0 by rw [e14]; exact va_up_self _ _ _)]; decide) c121
        · refine lv_aload_n hx hb dX1_depth_27 rfl (lv_at hl 1 rfl) ?_
          refine va_get (D := D) (ci := 1) (v := .int (iv14 0)) (C := RX1) (T := TX1) (N := 8) hx hb hts inX1 hown hK hP 0 rfl rfl 5 (by decide) (hts _ (mG wm_368)) (fun _ h9 => h9) rfl dX1_depth_28 ?_
          refine lv_if_ne (tgt := 117) hx hb dX1_depth_31 (by decide) (fun c31 => ?_) (fun c31 => ?_)
          · exact absurd (show iv14 0 = 0 by rw [e14]; exact va_up_self _ _ _) c31
          · have c24 : q < nc := Nat.not_le.mp fun z => c24 (by rw [hokc.nc]; exact nI_le z (by omega))
            have hi39 : vp_in (nI q) 20000 := vp_in_nI (by omega) (by omega)
            have hi53 := hi39
            have hi67 := hi39
            have hi81 := hi39
            have hi110 := hi39
            refine lv_aload_n hx hb dX1_depth_34 rfl (lv_at hl 1 rfl) ?_
            refine va_get (D := D) (ci := 1) (v := .ref (ad 0)) (C := RX1) (T := TX1) (N := 8) hx hb hts inX1 hown hK hP 0 rfl rfl 0 (by decide) (hts _ (mG wm_371)) (fun _ h9 => h9) rfl dX1_depth_35 ?_
            refine lv_iload_n hx hb dX1_depth_38 rfl (lv_at hl 0 rfl) ?_
            refine va_bald hx hb hK hP 1 1 rfl rfl hi39 dX1_depth_39 ?_
            refine lv_topi (fun v39 e39 => ?_)
            have e39 : v39 = ct_kd g q := by rw [e39, nI_clamp (by omega), i2 0 (by decide)]; exact hok.kd q c24
            refine lv_iconst (v := 2) hx hb dX1_depth_40 (by decide) ?_
            refine lv_icmp_ne (tgt := 60) hx hb dX1_depth_41 (by decide) (fun c41 => ?_) (fun c41 => ?_)
            · have hgn : g q = none := Classical.byContradiction fun z => c41 (e39.trans ((ct_kd_2 hok.wf q).mpr z))
              refine lv_iconst (v := -1) hx hb dX1_depth_60 (by decide) ?_
              refine lv_istore_n (lv' := [(3, .int (-1)), (2, .int (nI q)), (0, .ref h1), (1, .int x)]) hx hb dX1_depth_61 rfl hl (by decide) rfl (fun ls hl => ?_)
              refine lv_aload_n hx hb dX1_depth_62 rfl (lv_at hl 2 rfl) ?_
              refine va_get (D := D) (ci := 1) (v := .ref (ad 0)) (C := RX1) (T := TX1) (N := 8) hx hb hts inX1 hown hK hP 0 rfl rfl 0 (by decide) (hts _ (mG wm_371)) (fun _ h9 => h9) rfl dX1_depth_63 ?_
              refine lv_iload_n hx hb dX1_depth_66 rfl (lv_at hl 1 rfl) ?_
              refine va_bald hx hb hK hP 1 1 rfl rfl hi67 dX1_depth_67 ?_
              refine lv_topi (fun v67 e67 => ?_)
              have e67 : v67 = ct_kd g q := by rw [e67, nI_clamp (by omega), i2 0 (by decide)]; exact hok.kd q c24
              refine lv_iconst (v := 2) hx hb dX1_depth_68 (by decide) ?_
              refine lv_icmp_ne (tgt := 88) hx hb dX1_depth_69 (by decide) (fun c69 => ?_) (fun c69 => ?_)
              · refine lv_iconst (v := -1) hx hb dX1_depth_88 (by decide) ?_
                refine lv_istore (lv' := [(4, .int (-1)), (3, .int (-1)), (2, .int (nI q)), (0, .ref h1), (1, .int x)]) hx hb dX1_depth_89 hl (by decide) rfl (fun ls hl => ?_)
                refine lv_aload_n hx hb dX1_depth_91 rfl (lv_at hl 3 rfl) ?_
                refine va_get (D := D) (ci := 1) (v := .ref (ad 4)) (C := RX1) (T := TX1) (N := 8) hx hb hts inX1 hown hK hP 0 rfl rfl 4 (by decide) (hts _ (mG wm_375)) (fun _ h9 => h9) rfl dX1_depth_92 ?_
                refine lv_iload_n hx hb dX1_depth_95 rfl (lv_at hl 2 rfl) ?_
                refine lv_iload_n hx hb dX1_depth_96 rfl (lv_at hl 1 rfl) ?_
                refine lv_iload hx hb dX1_depth_97 (lv_at hl 0 rfl) ?_
                refine lv_icmp_le (tgt := 106) hx hb dX1_depth_99 (by decide) (fun c99 => ?_) (fun c99 => ?_)
                · have hd9 : (-1 : Int32) + 1 = nI (ct_dp g q) := by rw [ct_dp_n hgn]; decide
                  refine lv_iload hx hb dX1_depth_106 (lv_at hl 0 rfl) ?_
                  refine lv_iconst (v := 1) hx hb dX1_depth_108 (by decide) ?_
                  refine lv_iadd hx hb dX1_depth_109 ?_
                  refine lv_topi (fun v109 e109 => ?_)
                  have e109 : v109 = nI (ct_dp g q) := e109.trans hd9
                  refine va_iast hx hb hK hP hD hS 5 0 rfl rfl hi110 dX1_depth_110 (fun H locs hP hD hS => ?_)
                  obtain ⟨ar110, e110⟩ : ∃ zz : Nat → Nat → Int32, zz = va_up a2 4 (upd (a2 4) (Int32.toNatClampNeg (nI q)) v109) := ⟨_, rfl⟩
                  have hP : va_P D vwCl (mW h1 cI cB cZ ad ar110 iv14) H := by rw [e110]; exact hP
                  have hD : va_D A (mW h1 cI cB cZ ad ar110 iv14) := by rw [e110]; exact hD
                  rw [nI_clamp (by omega), e109] at e110
                  have i4 : ∀ k, k ≠ 4 → ar110 k = ar k := fun k hk => by rw [e110, va_up_ne _ _ hk]; exact i2 k hk
                  have i5 : ∀ i, i < q + 1 → ar110 4 i = nI (ct_dp g i) := fun i hi => by
                    rw [e110, va_up_self]
                    by_cases z : i = q
                    · rw [z, pk_us]
                    · rw [pk_un z]; exact i3 i (by omega)
                  obtain ⟨v111, e111⟩ : ∃ y : Int32, y = (nI q) + 1 := ⟨_, rfl⟩
                  refine lv_iinc (v := v111) (lv' := [(2, .int v111), (4, .int (-1)), (3, .int (-1)), (0, .ref h1), (1, .int x)]) hx hb dX1_depth_111 hl (k := 2) rfl (by rw [e111]; rfl) (by decide) rfl (fun ls hl => ?_)
                  refine lv_goto (tgt := 19) hx hb dX1_depth_114 (by decide) ?_
                  exact ih0 (q + 1) ar110 _ _ ls (by omega) ⟨by omega, i4, i5⟩ hP hD hS (by rw [← nI_1, ← e111]; exact lv_sub hl [0, 3, 4] rfl)
                · exact absurd c99 (by decide)
              · exact absurd (e39.trans (e67.symm.trans c69)) c41
            · obtain ⟨p9, q9, hg9⟩ := ct_kd_s hok.wf (e39.symm.trans c41)
              have i7 := hok.fs _ _ _ hg9
              have i8 := hok.lt hg9
              have d1 := ct_dp_le hok.wf (p9 / 2 + 1) (p9 / 2) (by omega)
              have d2 := ct_dp_le hok.wf (q9 / 2 + 1) (q9 / 2) (by omega)
              refine lv_aload_n hx hb dX1_depth_44 rfl (lv_at hl 1 rfl) ?_
              refine va_get (D := D) (ci := 1) (v := .ref (ad 4)) (C := RX1) (T := TX1) (N := 8) hx hb hts inX1 hown hK hP 0 rfl rfl 4 (by decide) (hts _ (mG wm_375)) (fun _ h9 => h9) rfl dX1_depth_45 ?_
              refine lv_aload_n hx hb dX1_depth_48 rfl (lv_at hl 1 rfl) ?_
              refine va_get (D := D) (ci := 1) (v := .ref (ad 1)) (C := RX1) (T := TX1) (N := 8) hx hb hts inX1 hown hK hP 0 rfl rfl 1 (by decide) (hts _ (mG wm_372)) (fun _ h9 => h9) rfl dX1_depth_49 ?_
              refine lv_iload_n hx hb dX1_depth_52 rfl (lv_at hl 0 rfl) ?_
              refine va_iald hx hb hK hP 2 0 rfl rfl hi53 dX1_depth_53 ?_
              refine lv_topi (fun v53 e53 => ?_)
              have e53 : v53 = nI p9 := by rw [e53, nI_clamp (by omega), i2 1 (by decide)]; exact i7.1
              refine lv_iconst (v := 1) hx hb dX1_depth_54 (by decide) ?_
              refine lv_ishr hx hb dX1_depth_55 ?_
              refine lv_topi (fun v55 e55 => ?_)
              have e55 : v55 = nI (p9 / 2) := by rw [e55, e53]; exact ct_shr (by omega)
              have hi56 : vp_in v55 20000 := by rw [e55]; exact vp_in_nI (by omega) (by omega)
              refine va_iald hx hb hK hP 5 0 rfl rfl hi56 dX1_depth_56 ?_
              refine lv_topi (fun v56 e56 => ?_)
              have e56 : v56 = nI (ct_dp g (p9 / 2)) := by rw [e56, e55, nI_clamp (by omega)]; exact i3 (p9 / 2) (by omega)
              refine lv_goto (tgt := 61) hx hb dX1_depth_57 (by decide) ?_
              refine lv_istore_n (lv' := [(3, .int v56), (2, .int (nI q)), (0, .ref h1), (1, .int x)]) hx hb dX1_depth_61 rfl hl (by decide) rfl (fun ls hl => ?_)
              refine lv_aload_n hx hb dX1_depth_62 rfl (lv_at hl 2 rfl) ?_
              refine va_get (D := D) (ci := 1) (v := .ref (ad 0)) (C := RX1) (T := TX1) (N := 8) hx hb hts inX1 hown hK hP 0 rfl rfl 0 (by decide) (hts _ (mG wm_371)) (fun _ h9 => h9) rfl dX1_depth_63 ?_
              refine lv_iload_n hx hb dX1_depth_66 rfl (lv_at hl 1 rfl) ?_
              refine va_bald hx hb hK hP 1 1 rfl rfl hi67 dX1_depth_67 ?_
              refine lv_topi (fun v67 e67 => ?_)
              have e67 : v67 = ct_kd g q := by rw [e67, nI_clamp (by omega), i2 0 (by decide)]; exact hok.kd q c24
              refine lv_iconst (v := 2) hx hb dX1_depth_68 (by decide) ?_
              refine lv_icmp_ne (tgt := 88) hx hb dX1_depth_69 (by decide) (fun c69 => ?_) (fun c69 => ?_)
              · exact absurd (e67.trans (e39.symm.trans c41)) c69
              · refine lv_aload_n hx hb dX1_depth_72 rfl (lv_at hl 2 rfl) ?_
                refine va_get (D := D) (ci := 1) (v := .ref (ad 4)) (C := RX1) (T := TX1) (N := 8) hx hb hts inX1 hown hK hP 0 rfl rfl 4 (by decide) (hts _ (mG wm_375)) (fun _ h9 => h9) rfl dX1_depth_73 ?_
                refine lv_aload_n hx hb dX1_depth_76 rfl (lv_at hl 2 rfl) ?_
                refine va_get (D := D) (ci := 1) (v := .ref (ad 2)) (C := RX1) (T := TX1) (N := 8) hx hb hts inX1 hown hK hP 0 rfl rfl 2 (by decide) (hts _ (mG wm_373)) (fun _ h9 => h9) rfl dX1_depth_77 ?_
                refine lv_iload_n hx hb dX1_depth_80 rfl (lv_at hl 1 rfl) ?_
                refine va_iald hx hb hK hP 3 0 rfl rfl hi81 dX1_depth_81 ?_
                refine lv_topi (fun v81 e81 => ?_)
                have e81 : v81 = nI q9 := by rw [e81, nI_clamp (by omega), i2 2 (by decide)]; exact i7.2
                refine lv_iconst (v := 1) hx hb dX1_depth_82 (by decide) ?_
                refine lv_ishr hx hb dX1_depth_83 ?_
                refine lv_topi (fun v83 e83 => ?_)
                have e83 : v83 = nI (q9 / 2) := by rw [e83, e81]; exact ct_shr (by omega)
                have hi84 : vp_in v83 20000 := by rw [e83]; exact vp_in_nI (by omega) (by omega)
                refine va_iald hx hb hK hP 5 0 rfl rfl hi84 dX1_depth_84 ?_
                refine lv_topi (fun v84 e84 => ?_)
                have e84 : v84 = nI (ct_dp g (q9 / 2)) := by rw [e84, e83, nI_clamp (by omega)]; exact i3 (q9 / 2) (by omega)
                refine lv_goto (tgt := 89) hx hb dX1_depth_85 (by decide) ?_
                refine lv_istore (lv' := [(4, .int v84), (3, .int v56), (2, .int (nI q)), (0, .ref h1), (1, .int x)]) hx hb dX1_depth_89 hl (by decide) rfl (fun ls hl => ?_)
                refine lv_aload_n hx hb dX1_depth_91 rfl (lv_at hl 3 rfl) ?_
                refine va_get (D := D) (ci := 1) (v := .ref (ad 4)) (C := RX1) (T := TX1) (N := 8) hx hb hts inX1 hown hK hP 0 rfl rfl 4 (by decide) (hts _ (mG wm_375)) (fun _ h9 => h9) rfl dX1_depth_92 ?_
                refine lv_iload_n hx hb dX1_depth_95 rfl (lv_at hl 2 rfl) ?_
                refine lv_iload_n hx hb dX1_depth_96 rfl (lv_at hl 1 rfl) ?_
                refine lv_iload hx hb dX1_depth_97 (lv_at hl 0 rfl) ?_
                refine lv_icmp_le (tgt := 106) hx hb dX1_depth_99 (by decide) (fun c99 => ?_) (fun c99 => ?_)
                · have hd9 : v84 + 1 = nI (ct_dp g q) := by
                    have := (nI_leI (by omega) (by omega)).mp (show nI (ct_dp g (p9 / 2)) ≤ nI (ct_dp g (q9 / 2)) by rw [← e56, ← e84]; exact c99)
                    rw [e84, nI_1, ct_dp_s hok.wf hg9, Nat.max_eq_right this, Nat.add_comm]
                  refine lv_iload hx hb dX1_depth_106 (lv_at hl 0 rfl) ?_
                  refine lv_iconst (v := 1) hx hb dX1_depth_108 (by decide) ?_
                  refine lv_iadd hx hb dX1_depth_109 ?_
                  refine lv_topi (fun v109 e109 => ?_)
                  have e109 : v109 = nI (ct_dp g q) := e109.trans hd9
                  refine va_iast hx hb hK hP hD hS 5 0 rfl rfl hi110 dX1_depth_110 (fun H locs hP hD hS => ?_)
                  obtain ⟨ar110, e110⟩ : ∃ zz : Nat → Nat → Int32, zz = va_up a2 4 (upd (a2 4) (Int32.toNatClampNeg (nI q)) v109) := ⟨_, rfl⟩
                  have hP : va_P D vwCl (mW h1 cI cB cZ ad ar110 iv14) H := by rw [e110]; exact hP
                  have hD : va_D A (mW h1 cI cB cZ ad ar110 iv14) := by rw [e110]; exact hD
                  rw [nI_clamp (by omega), e109] at e110
                  have i4 : ∀ k, k ≠ 4 → ar110 k = ar k := fun k hk => by rw [e110, va_up_ne _ _ hk]; exact i2 k hk
                  have i5 : ∀ i, i < q + 1 → ar110 4 i = nI (ct_dp g i) := fun i hi => by
                    rw [e110, va_up_self]
                    by_cases z : i = q
                    · rw [z, pk_us]
                    · rw [pk_un z]; exact i3 i (by omega)
                  obtain ⟨v111, e111⟩ : ∃ y : Int32, y = (nI q) + 1 := ⟨_, rfl⟩
                  refine lv_iinc (v := v111) (lv' := [(2, .int v111), (4, .int v84), (3, .int v56), (0, .ref h1), (1, .int x)]) hx hb dX1_depth_111 hl (k := 2) rfl (by rw [e111]; rfl) (by decide) rfl (fun ls hl => ?_)
                  refine lv_goto (tgt := 19) hx hb dX1_depth_114 (by decide) ?_
                  exact ih0 (q + 1) ar110 _ _ ls (by omega) ⟨by omega, i4, i5⟩ hP hD hS (by rw [← nI_1, ← e111]; exact lv_sub hl [0, 3, 4] rfl)
                · have hd9 : v56 + 1 = nI (ct_dp g q) := by
                    have w1 := mt (nI_le (a := ct_dp g (p9 / 2)) (b := ct_dp g (q9 / 2)) · (by omega)) (show ¬ nI (ct_dp g (p9 / 2)) ≤ nI (ct_dp g (q9 / 2)) by rw [← e56, ← e84]; exact c99)
                    rw [e56, nI_1, ct_dp_s hok.wf hg9, Nat.max_eq_left (by omega), Nat.add_comm]
                  refine lv_iload_n hx hb dX1_depth_102 rfl (lv_at hl 1 rfl) ?_
                  refine lv_goto (tgt := 108) hx hb dX1_depth_103 (by decide) ?_
                  refine lv_iconst (v := 1) hx hb dX1_depth_108 (by decide) ?_
                  refine lv_iadd hx hb dX1_depth_109 ?_
                  refine lv_topi (fun v109 e109 => ?_)
                  have e109 : v109 = nI (ct_dp g q) := e109.trans hd9
                  refine va_iast hx hb hK hP hD hS 5 0 rfl rfl hi110 dX1_depth_110 (fun H locs hP hD hS => ?_)
                  obtain ⟨ar110, e110⟩ : ∃ zz : Nat → Nat → Int32, zz = va_up a2 4 (upd (a2 4) (Int32.toNatClampNeg (nI q)) v109) := ⟨_, rfl⟩
                  have hP : va_P D vwCl (mW h1 cI cB cZ ad ar110 iv14) H := by rw [e110]; exact hP
                  have hD : va_D A (mW h1 cI cB cZ ad ar110 iv14) := by rw [e110]; exact hD
                  rw [nI_clamp (by omega), e109] at e110
                  have i4 : ∀ k, k ≠ 4 → ar110 k = ar k := fun k hk => by rw [e110, va_up_ne _ _ hk]; exact i2 k hk
                  have i5 : ∀ i, i < q + 1 → ar110 4 i = nI (ct_dp g i) := fun i hi => by
                    rw [e110, va_up_self]
                    by_cases z : i = q
                    · rw [z, pk_us]
                    · rw [pk_un z]; exact i3 i (by omega)
                  obtain ⟨v111, e111⟩ : ∃ y : Int32, y = (nI q) + 1 := ⟨_, rfl⟩
                  refine lv_iinc (v := v111) (lv' := [(2, .int v111), (4, .int v84), (3, .int v56), (0, .ref h1), (1, .int x)]) hx hb dX1_depth_111 hl (k := 2) rfl (by rw [e111]; rfl) (by decide) rfl (fun ls hl => ?_)
                  refine lv_goto (tgt := 19) hx hb dX1_depth_114 (by decide) ?_
                  exact ih0 (q + 1) ar110 _ _ ls (by omega) ⟨by omega, i4, i5⟩ hP hD hS (by rw [← nI_1, ← e111]; exact lv_sub hl [0, 3, 4] rfl)
    exact hloop0 (nc + 1) 0 ar _ _ ls (by omega) ⟨Nat.zero_le _, fun _ _ => rfl, fun i hi => absurd hi (by omega)⟩ hP hD hS (by rw [nI_0]; exact hl)
set_option maxHeartbeats 4000000 in
set_option maxRecDepth 100000 in
/-- the reference: nodes -/
theorem m_nodes (l : Launch) (D : va_G) (h1 : Nat) (cI cB cZ : ClassId) (ad : Nat → Nat) (ar : Nat → Nat → Int32) (iv : Nat → Int32) (sz : Nat)  (nc ic : Nat) (g : Ct) (bv : Nat → Bool) (hok : mm_ok nc ic g bv ar iv) : Met l yX1_nodes wsX1_nodes ({ frames := 0, cells := 0, slots := 0, locals := 0 }) (mP D (mW h1 cI cB cZ ad ar iv) [(cI, .int), (cB, .byte), (cZ, .boolean)] sz [.ref h1]) (va_Qi (fun (r : Int32) (u : MS) => r = nI nc ∧ u.2 0 = 0 ∧ mm_ok nc ic g bv u.1 u.2) (mm_at D cI cB cZ ad (va_A (mW h1 cI cB cZ ad ar iv) sz) h1) (va_A (mW h1 cI cB cZ ad ar iv) sz)) 0 0 (va_A (mW h1 cI cB cZ ad ar iv) sz) := by
  refine Met.ofW (cc := cX1_nodes) (maxL := 1) (ret := (some .int)) (by decide) rfl ?_
  intro p e s m args below meth c s₁ B hml hv
  obtain ⟨rfl, hsz, hP, hK, hD0⟩ := hv
  have hx := B.exec
  have hb := B.bytes
  have hr := B.returns
  have hts := atoms_spec (ws := wsX1_nodes) B.pre
  have hown : s.vm.findClass RX1 = some m.cls := findClass_of_methodNamed B.named
  have hlocks := B.notSynchronized
  have hl := lv_entry ([.ref h1]) (n := 1) (Nat.le_of_ble_eq_true rfl)
  rw [lg_entry_eq]
  generalize (lg_sl ([.ref h1]) ++ List.replicate (1 - (lg_sl ([.ref h1])).length) Slot.unset).toArray = ls at hl ⊢
  have hl : lv_has ls 1 [(0, .ref h1)] := hl
  subst hsz
  have hD := hD0.self (sz := s.heap.size)
  generalize hAe : va_A (mW h1 cI cB cZ ad ar iv) s.heap.size = A at hD ⊢
  have hA : ∀ q : Nat, s.heap.size ≤ q → A q := fun q h => by rw [← hAe]; exact Or.inr h
  have hS : va_S A s.heap s.heap [] := va_S.rf
  refine lv_aload_n hx hb dX1_nodes_0 rfl (lv_at hl 0 rfl) ?_
  refine lv_iconst (v := 0) hx hb dX1_nodes_1 (by decide) ?_
  refine va_put (D := D) (ci := 1) (v := .int 0) (ty := .int) (C := RX1) (T := TX1) (N := 8) hx hb hts inX1 tyX1 tyX1_ok nmX1 hown hK hP hD hS 0 rfl rfl 5 (by decide) (hts _ (mG wm_368)) (fun _ h9 => h9) rfl (by decide +kernel) rfl rfl (Nat.le_of_ble_eq_true rfl) dX1_nodes_2 (fun H locs hP hD hS => ?_)
  obtain ⟨iv2, e2⟩ : ∃ zz : Nat → Int32, zz = va_up iv 0 0 := ⟨_, rfl⟩
  have hP : va_P D vwCl (mW h1 cI cB cZ ad ar iv2) H := by rw [e2]; exact hP
  have hD : va_D A (mW h1 cI cB cZ ad ar iv2) := by rw [e2]; exact hD
  have hokc : mm_ok nc ic g bv ar iv2 := mm_ok_iv hok (by rw [e2, va_up_ne _ _ (by decide)]) (by rw [e2, va_up_ne _ _ (by decide)])
  refine lv_aload_n hx hb dX1_nodes_5 rfl (lv_at hl 0 rfl) ?_
  refine va_get (D := D) (ci := 1) (v := .int (iv2 1)) (C := RX1) (T := TX1) (N := 8) hx hb hts inX1 hown hK hP 0 rfl rfl 6 (by decide) (hts _ (mG wm_369)) (fun _ h9 => h9) rfl dX1_nodes_6 ?_
  exact W.iret (v := (iv2 1)) hx hb hr (fun t ht hW => ⟨⟨(iv2 1), (ar, iv2), rfl, ⟨hokc.nc, (show iv2 0 = 0 by rw [e2]; exact va_up_self _ _ _), hokc⟩, by rw [ht]; exact hP, va_K.moved hW.alike hK, hD⟩, hS.F ht⟩) hS.2.2 dX1_nodes_9
set_option maxHeartbeats 4000000 in
set_option maxRecDepth 100000 in
/-- the reference: inputs -/
theorem m_inputs (l : Launch) (D : va_G) (h1 : Nat) (cI cB cZ : ClassId) (ad : Nat → Nat) (ar : Nat → Nat → Int32) (iv : Nat → Int32) (sz : Nat)  (nc ic : Nat) (g : Ct) (bv : Nat → Bool) (hok : mm_ok nc ic g bv ar iv) : Met l yX1_inputs wsX1_inputs ({ frames := 0, cells := 0, slots := 0, locals := 0 }) (mP D (mW h1 cI cB cZ ad ar iv) [(cI, .int), (cB, .byte), (cZ, .boolean)] sz [.ref h1]) (va_Qi (fun (r : Int32) (u : MS) => r = nI ic ∧ u.2 0 = 0 ∧ mm_ok nc ic g bv u.1 u.2) (mm_at D cI cB cZ ad (va_A (mW h1 cI cB cZ ad ar iv) sz) h1) (va_A (mW h1 cI cB cZ ad ar iv) sz)) 0 0 (va_A (mW h1 cI cB cZ ad ar iv) sz) := by
  refine Met.ofW (cc := cX1_inputs) (maxL := 1) (ret := (some .int)) (by decide) rfl ?_
  intro p e s m args below meth c s₁ B hml hv
  obtain ⟨rfl, hsz, hP, hK, hD0⟩ := hv
  have hx := B.exec
  have hb := B.bytes
  have hr := B.returns
  have hts := atoms_spec (ws := wsX1_inputs) B.pre
  have hown : s.vm.findClass RX1 = some m.cls := findClass_of_methodNamed B.named
  have hlocks := B.notSynchronized
  have hl := lv_entry ([.ref h1]) (n := 1) (Nat.le_of_ble_eq_true rfl)
  rw [lg_entry_eq]
  generalize (lg_sl ([.ref h1]) ++ List.replicate (1 - (lg_sl ([.ref h1])).length) Slot.unset).toArray = ls at hl ⊢
  have hl : lv_has ls 1 [(0, .ref h1)] := hl
  subst hsz
  have hD := hD0.self (sz := s.heap.size)
  generalize hAe : va_A (mW h1 cI cB cZ ad ar iv) s.heap.size = A at hD ⊢
  have hA : ∀ q : Nat, s.heap.size ≤ q → A q := fun q h => by rw [← hAe]; exact Or.inr h
  have hS : va_S A s.heap s.heap [] := va_S.rf
  refine lv_aload_n hx hb dX1_inputs_0 rfl (lv_at hl 0 rfl) ?_
  refine lv_iconst (v := 0) hx hb dX1_inputs_1 (by decide) ?_
  refine va_put (D := D) (ci := 1) (v := .int 0) (ty := .int) (C := RX1) (T := TX1) (N := 8) hx hb hts inX1 tyX1 tyX1_ok nmX1 hown hK hP hD hS 0 rfl rfl 5 (by decide) (hts _ (mG wm_368)) (fun _ h9 => h9) rfl (by decide +kernel) rfl rfl (Nat.le_of_ble_eq_true rfl) dX1_inputs_2 (fun H locs hP hD hS => ?_)
  obtain ⟨iv2, e2⟩ : ∃ zz : Nat → Int32, zz = va_up iv 0 0 := ⟨_, rfl⟩
  have hP : va_P D vwCl (mW h1 cI cB cZ ad ar iv2) H := by rw [e2]; exact hP
  have hD : va_D A (mW h1 cI cB cZ ad ar iv2) := by rw [e2]; exact hD
  have hokc : mm_ok nc ic g bv ar iv2 := mm_ok_iv hok (by rw [e2, va_up_ne _ _ (by decide)]) (by rw [e2, va_up_ne _ _ (by decide)])
  refine lv_aload_n hx hb dX1_inputs_5 rfl (lv_at hl 0 rfl) ?_
  refine va_get (D := D) (ci := 1) (v := .int (iv2 2)) (C := RX1) (T := TX1) (N := 8) hx hb hts inX1 hown hK hP 0 rfl rfl 7 (by decide) (hts _ (mG wm_370)) (fun _ h9 => h9) rfl dX1_inputs_6 ?_
  exact W.iret (v := (iv2 2)) hx hb hr (fun t ht hW => ⟨⟨(iv2 2), (ar, iv2), rfl, ⟨hokc.ic, (show iv2 0 = 0 by rw [e2]; exact va_up_self _ _ _), hokc⟩, by rw [ht]; exact hP, va_K.moved hW.alike hK, hD⟩, hS.F ht⟩) hS.2.2 dX1_inputs_9
set_option maxHeartbeats 4000000 in
set_option maxRecDepth 100000 in
/-- the reference: input -/
theorem m_input (l : Launch) (D : va_G) (h1 : Nat) (cI cB cZ : ClassId) (ad : Nat → Nat) (ar : Nat → Nat → Int32) (iv : Nat → Int32) (sz : Nat)  (nc ic : Nat) (g : Ct) (bv : Nat → Bool) (hok : mm_ok nc ic g bv ar iv) (hmx : nc + 6 ≤ 20000) : Met l yX1_input wsX1_input ({ frames := 1, cells := 0, slots := 0, locals := 23 }) (mP D (mW h1 cI cB cZ ad ar iv) [(cI, .int), (cB, .byte), (cZ, .boolean)] sz [.ref h1]) (va_Qi (fun (r : Int32) (u : MS) => md_po (ic + 1) bv (2 * nc, nc + 1, g) r u) (mm_at D cI cB cZ ad (va_A (mW h1 cI cB cZ ad ar iv) sz) h1) (va_A (mW h1 cI cB cZ ad ar iv) sz)) 0 0 (va_A (mW h1 cI cB cZ ad ar iv) sz) := by
  refine Met.ofW (cc := cX1_input) (maxL := 2) (ret := (some .int)) (by decide) rfl ?_
  intro p e s m args below meth c s₁ B hml hv
  obtain ⟨rfl, hsz, hP, hK, hD0⟩ := hv
  have hx := B.exec
  have hb := B.bytes
  have hr := B.returns
  have hts := atoms_spec (ws := wsX1_input) B.pre
  have hown : s.vm.findClass RX1 = some m.cls := findClass_of_methodNamed B.named
  have hlocks := B.notSynchronized
  have hl := lv_entry ([.ref h1]) (n := 2) (Nat.le_of_ble_eq_true rfl)
  rw [lg_entry_eq]
  generalize (lg_sl ([.ref h1]) ++ List.replicate (2 - (lg_sl ([.ref h1])).length) Slot.unset).toArray = ls at hl ⊢
  have hl : lv_has ls 2 [(0, .ref h1)] := hl
  subst hsz
  have hD := hD0.self (sz := s.heap.size)
  generalize hAe : va_A (mW h1 cI cB cZ ad ar iv) s.heap.size = A at hD ⊢
  have hA : ∀ q : Nat, s.heap.size ≤ q → A q := fun q h => by rw [← hAe]; exact Or.inr h
  have hS : va_S A s.heap s.heap [] := va_S.rf
  refine lv_aload_n hx hb dX1_input_0 rfl (lv_at hl 0 rfl) ?_
  refine lv_iconst (v := 0) hx hb dX1_input_1 (by decide) ?_
  refine va_put (D := D) (ci := 1) (v := .int 0) (ty := .int) (C := RX1) (T := TX1) (N := 8) hx hb hts inX1 tyX1 tyX1_ok nmX1 hown hK hP hD hS 0 rfl rfl 5 (by decide) (hts _ (mG wm_368)) (fun _ h9 => h9) rfl (by decide +kernel) rfl rfl (Nat.le_of_ble_eq_true rfl) dX1_input_2 (fun H locs hP hD hS => ?_)
  obtain ⟨iv2, e2⟩ : ∃ zz : Nat → Int32, zz = va_up iv 0 0 := ⟨_, rfl⟩
  have hP : va_P D vwCl (mW h1 cI cB cZ ad ar iv2) H := by rw [e2]; exact hP
  have hD : va_D A (mW h1 cI cB cZ ad ar iv2) := by rw [e2]; exact hD
  have hnc9 : iv2 1 = nI nc := by rw [e2, va_up_ne _ _ (by decide)]; exact hok.nc
  have hmx9 : nc < 20000 := by omega
  refine lv_aload_n hx hb dX1_input_5 rfl (lv_at hl 0 rfl) ?_
  refine lv_iconst (v := 1) hx hb dX1_input_6 (by decide) ?_
  refine lv_iconst (v := -1) hx hb dX1_input_7 (by decide) ?_
  refine lv_iconst (v := -1) hx hb dX1_input_8 (by decide) ?_
  have hFc := va_free (wc := (mW h1 cI cB cZ ad ar iv2)) hD hS hA [0, 1, 2, 3, 4, 5] rfl
  refine va_calli (va_runV (As := [.int 1, .int (-1), .int (-1)]) (rest := []) ⟨hx, hb, hml, hown, hts⟩ (m_add l D h1 cI cB cZ ad ar iv2 H.size 1 (-1) (-1) nc hnc9 hmx9 (by decide)) (cwV 3 hts gX1_input_X1_add rfl rfl rfl (by decide +kernel) ⟨Nat.le_of_ble_eq_true rfl, Nat.le_of_ble_eq_true rfl⟩) (mP_V hK hP hD (va_recv hK hP (ci := 1) (q0 := 0) rfl rfl)) rfl rfl hl.1 rfl (lv_room (Nat.le_of_ble_eq_true rfl)) dX1_input_9 ⟨Nat.zero_le _, Nat.zero_le _⟩) hS (fun q _ h => hFc q h) hFc (fun r9 u t H1 locs ht hvm e9 hB hz1 hk1 hS => ?_)
  obtain ⟨ar9, iv9⟩ := u
  obtain ⟨hP1, hK1, hD1⟩ := hB
  rw [ht] at hP1
  have hK := va_K.moved hvm.symm hK1
  have hP : va_P D vwCl (mW h1 cI cB cZ ad ar9 iv9) H1 := hP1
  have hD : va_D A (mW h1 cI cB cZ ad ar9 iv9) := hD1.weaken (fun k q _ h => hFc q.1 h)
  clear hP1 hK1 hD1 hk1 hz1 hFc ht
  generalize H1 = H at hP hS ⊢
  try dsimp only at e9
  obtain ⟨f1, f2⟩ := Prod.mk.inj e9.2
  have z9 : iv9 0 = 0 := by rw [f2, va_up_ne _ _ (by decide), e2]; exact va_up_self _ _ _
  refine lv_istore_n (lv' := [(1, .int r9), (0, .ref h1)]) hx hb dX1_input_12 rfl hl (by decide) rfl (fun ls hl => ?_)
  refine lv_aload_n hx hb dX1_input_13 rfl (lv_at hl 1 rfl) ?_
  refine lv_aload_n hx hb dX1_input_14 rfl (lv_at hl 1 rfl) ?_
  refine va_get (D := D) (ci := 1) (v := .int (iv9 0)) (C := RX1) (T := TX1) (N := 8) hx hb hts inX1 hown hK hP 0 rfl rfl 5 (by decide) (hts _ (mG wm_368)) (fun _ h9 => h9) rfl dX1_input_15 ?_
  refine lv_if_le (tgt := 25) hx hb dX1_input_18 (by decide) (fun c18 => ?_) (fun c18 => ?_)
  · refine lv_iconst (v := 0) hx hb dX1_input_25 (by decide) ?_
    refine va_put (D := D) (ci := 1) (v := .int 0) (ty := .int) (C := RX1) (T := TX1) (N := 8) hx hb hts inX1 tyX1 tyX1_ok nmX1 hown hK hP hD hS 0 rfl rfl 5 (by decide) (hts _ (mG wm_368)) (fun _ h9 => h9) rfl (by decide +kernel) rfl rfl (Nat.le_of_ble_eq_true rfl) dX1_input_26 (fun H locs hP hD hS => ?_)
    obtain ⟨iv26, e26⟩ : ∃ zz : Nat → Int32, zz = va_up iv9 0 0 := ⟨_, rfl⟩
    have hP : va_P D vwCl (mW h1 cI cB cZ ad ar9 iv26) H := by rw [e26]; exact hP
    have hD : va_D A (mW h1 cI cB cZ ad ar9 iv26) := by rw [e26]; exact hD
    refine lv_aload_n hx hb dX1_input_29 rfl (lv_at hl 1 rfl) ?_
    refine lv_dup hx hb dX1_input_30 rfl ?_
    refine va_get (D := D) (ci := 1) (v := .int (iv26 2)) (C := RX1) (T := TX1) (N := 8) hx hb hts inX1 hown hK hP 0 rfl rfl 7 (by decide) (hts _ (mG wm_370)) (fun _ h9 => h9) rfl dX1_input_31 ?_
    refine lv_aload_n hx hb dX1_input_34 rfl (lv_at hl 1 rfl) ?_
    refine va_get (D := D) (ci := 1) (v := .int (iv26 0)) (C := RX1) (T := TX1) (N := 8) hx hb hts inX1 hown hK hP 0 rfl rfl 5 (by decide) (hts _ (mG wm_368)) (fun _ h9 => h9) rfl dX1_input_35 ?_
    refine lv_if_le (tgt := 45) hx hb dX1_input_38 (by decide) (fun c38 => ?_) (fun c38 => ?_)
    · refine lv_iconst (v := 1) hx hb dX1_input_45 (by decide) ?_
      refine lv_iadd hx hb dX1_input_46 ?_
      refine lv_topi (fun v46 e46 => ?_)
      refine va_put (D := D) (ci := 1) (v := .int v46) (ty := .int) (C := RX1) (T := TX1) (N := 8) hx hb hts inX1 tyX1 tyX1_ok nmX1 hown hK hP hD hS 0 rfl rfl 7 (by decide) (hts _ (mG wm_370)) (fun _ h9 => h9) rfl (by decide +kernel) rfl rfl (Nat.le_of_ble_eq_true rfl) dX1_input_47 (fun H locs hP hD hS => ?_)
      obtain ⟨iv47, e47⟩ : ∃ zz : Nat → Int32, zz = va_up iv26 2 v46 := ⟨_, rfl⟩
      have hP : va_P D vwCl (mW h1 cI cB cZ ad ar9 iv47) H := by rw [e47]; exact hP
      have hD : va_D A (mW h1 cI cB cZ ad ar9 iv47) := by rw [e47]; exact hD
      have z47 : iv47 0 = 0 := by rw [e47, va_up_ne _ _ (by decide), e26]; exact va_up_self _ _ _
      have hnew : mm_ok (nc + 1) (ic + 1) g bv ar9 iv47 := mm_ok_input hok (by omega) f1 (by rw [e47, va_up_ne _ _ (by decide), e26, va_up_ne _ _ (by decide), f2]; exact va_up_self _ _ _) (by rw [e47, va_up_self, e46, e26, va_up_ne _ _ (by decide), f2, va_up_ne _ _ (by decide), e2, va_up_ne _ _ (by decide), hok.ic]; exact nI_1 ic)
      refine lv_aload_n hx hb dX1_input_50 rfl (lv_at hl 1 rfl) ?_
      refine va_get (D := D) (ci := 1) (v := .int (iv47 0)) (C := RX1) (T := TX1) (N := 8) hx hb hts inX1 hown hK hP 0 rfl rfl 5 (by decide) (hts _ (mG wm_368)) (fun _ h9 => h9) rfl dX1_input_51 ?_
      refine lv_if_le (tgt := 61) hx hb dX1_input_54 (by decide) (fun c54 => ?_) (fun c54 => ?_)
      · refine lv_iconst (v := 2) hx hb dX1_input_61 (by decide) ?_
        refine lv_iload_n hx hb dX1_input_62 rfl (lv_at hl 0 rfl) ?_
        refine lv_imul hx hb dX1_input_63 ?_
        refine lv_topi (fun v63 e63 => ?_)
        exact W.iret (v := v63) hx hb hr (fun t ht hW => ⟨⟨v63, (ar9, iv47), rfl, ⟨by rw [e63, e9.1]; exact ct_2n nc, z47, hnew⟩, by rw [ht]; exact hP, va_K.moved hW.alike hK, hD⟩, hS.F ht⟩) hS.2.2 dX1_input_64
      · exact absurd (by rw [z47]; decide) c54
    · exact absurd (by rw [(show iv26 0 = 0 by rw [e26]; exact va_up_self _ _ _)]; decide) c38
  · exact absurd (by rw [z9]; decide) c18
