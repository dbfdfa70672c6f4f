theorem ct_kd_s {nc : Nat} {g : Ct} (hw : ct_wf nc g) {q : Nat} (h : ct_kd g q = 2) : ∃ p9 q9, g q = some (p9, q9) := by
  have h1 := (ct_kd_2 hw q).mp h
  cases e : g q with
  | none => exact absurd e h1
  | some z => exact ⟨z.1, z.2, rfl⟩
theorem ct_nb (b : Bool) : narrow .boolean (.int (ct_b b)) = .int (ct_b b) := by cases b <;> decide
theorem ct_b_f {b : Bool} (h : ct_b b = 0) : b = false := by
  cases b
  · rfl
  · exact absurd h (by decide)
theorem ct_b_t {b : Bool} (h : ¬ ct_b b = 0) : b = true := by
  cases b
  · exact absurd rfl h
  · rfl
theorem ct_dec {q : Nat} (h : 0 < q) : nI q + (-1) = nI (q - 1) := by
  obtain ⟨m, rfl⟩ : ∃ m, q = m + 1 := ⟨q - 1, by omega⟩
  rw [← nI_1, Int32.add_assoc]
  exact Int32.add_zero _
set_option maxHeartbeats 4000000 in
set_option maxRecDepth 100000 in
/-- the reference: and -/
theorem m_and (l : Launch) (D : va_G) (h1 : Nat) (cI cB cZ : ClassId) (ad : Nat → Nat) (ar : Nat → Nat → Int32) (iv : Nat → Int32) (sz : Nat) (x : Int32) (y : Int32) (nc ic : Nat) (g : Ct) (bv : Nat → Bool) (hok : mm_ok nc ic g bv ar iv) (hmx : nc + 6 ≤ 20000) : Met l yX1_and wsX1_and ({ frames := 3, cells := 0, slots := 0, locals := 78 }) (mP D (mW h1 cI cB cZ ad ar iv) [(cI, .int), (cB, .byte), (cZ, .boolean)] sz [.ref h1, .int x, .int y]) (va_Qi (fun (r : Int32) (u : MS) => md_ans (ct_lit nc x ∧ ct_lit nc y) nc ic g bv (r = nI (ct_an nc g (Int32.toNatClampNeg x) (Int32.toNatClampNeg y)).1 ∧ mm_ok (ct_an nc g (Int32.toNatClampNeg x) (Int32.toNatClampNeg y)).2.1 ic (ct_an nc g (Int32.toNatClampNeg x) (Int32.toNatClampNeg y)).2.2 bv u.1 u.2) u) (mm_at D cI cB cZ ad (va_A (mW h1 cI cB cZ ad ar iv) sz) h1) (va_A (mW h1 cI cB cZ ad ar iv) sz)) 0 0 (va_A (mW h1 cI cB cZ ad ar iv) sz) := by
  refine Met.ofW (cc := cX1_and) (maxL := 4) (ret := (some .int)) (by decide) rfl ?_
  intro p e s m args below meth c s₁ B hml hv
  obtain ⟨rfl, hsz, hP, hK, hD0⟩ := hv
  have hx := B.exec
  have hb := B.bytes
  have hr := B.returns
  have hts := atoms_spec (ws := wsX1_and) B.pre
  have hown : s.vm.findClass RX1 = some m.cls := findClass_of_methodNamed B.named
  have hlocks := B.notSynchronized
  have hl := lv_entry ([.ref h1, .int x, .int y]) (n := 4) (Nat.le_of_ble_eq_true rfl)
  rw [lg_entry_eq]
  generalize (lg_sl ([.ref h1, .int x, .int y]) ++ List.replicate (4 - (lg_sl ([.ref h1, .int x, .int y])).length) Slot.unset).toArray = ls at hl ⊢
  have hl : lv_has ls 4 [(0, .ref h1), (1, .int x), (2, .int y)] := hl
  subst hsz
  have hD := hD0.self (sz := s.heap.size)
  generalize hAe : va_A (mW h1 cI cB cZ ad ar iv) s.heap.size = A at hD ⊢
  have hA : ∀ q : Nat, s.heap.size ≤ q → A q := fun q h => by rw [← hAe]; exact Or.inr h
  have hS : va_S A s.heap s.heap [] := va_S.rf
  refine lv_aload_n hx hb dX1_and_0 rfl (lv_at hl 0 rfl) ?_
  refine lv_aload_n hx hb dX1_and_1 rfl (lv_at hl 0 rfl) ?_
  refine lv_iload_n hx hb dX1_and_2 rfl (lv_at hl 1 rfl) ?_
  refine vp_callSi (W.runV (As := [.int x]) (rest := [.ref h1]) ⟨hx, hb, hml, hown, hts⟩ (m_isLiteral l D h1 cI cB cZ ad ar iv x) (cwV 1 hts gX1_and_X1_isLiteral rfl rfl rfl (by decide +kernel) ⟨Nat.le_of_ble_eq_true rfl, Nat.le_of_ble_eq_true rfl⟩) (rP_V hK hP (va_recv hK hP (ci := 1) (q0 := 0) rfl rfl)) rfl rfl hl.1 rfl (lv_room (Nat.le_of_ble_eq_true rfl)) dX1_and_3 ⟨Nat.zero_le _, Nat.zero_le _⟩) (fun r3 e3 => ?_)
  refine lv_if_eq (tgt := 21) hx hb dX1_and_6 (by decide) (fun c6 => ?_) (fun c6 => ?_)
  · have nV : ¬ (ct_lit nc x ∧ ct_lit nc y) := fun z => (mm_lit hok e3).1 c6 z.1
    refine lv_iconst (v := 1) hx hb dX1_and_21 (by decide) ?_
    refine va_put (D := D) (ci := 1) (v := .int 1) (ty := .int) (C := RX1) (T := TX1) (N := 8) hx hb hts inX1 tyX1 tyX1_ok nmX1 hown hK hP hD hS 0 rfl rfl 5 (by decide) (hts _ (mG wm_368)) (fun _ h9 => h9) rfl (by decide +kernel) rfl rfl (Nat.le_of_ble_eq_true rfl) dX1_and_22 (fun H locs hP hD hS => ?_)
    obtain ⟨iv22, e22⟩ : ∃ zz : Nat → Int32, zz = va_up iv 0 1 := ⟨_, rfl⟩
    have hP : va_P D vwCl (mW h1 cI cB cZ ad ar iv22) H := by rw [e22]; exact hP
    have hD : va_D A (mW h1 cI cB cZ ad ar iv22) := by rw [e22]; exact hD
    have hokc : mm_ok nc ic g bv ar iv22 := mm_ok_iv hok (by rw [e22, va_up_ne _ _ (by decide)]) (by rw [e22, va_up_ne _ _ (by decide)])
    refine lv_aload_n hx hb dX1_and_25 rfl (lv_at hl 0 rfl) ?_
    refine va_get (D := D) (ci := 1) (v := .int (iv22 0)) (C := RX1) (T := TX1) (N := 8) hx hb hts inX1 hown hK hP 0 rfl rfl 5 (by decide) (hts _ (mG wm_368)) (fun _ h9 => h9) rfl dX1_and_26 ?_
    refine lv_if_le (tgt := 36) hx hb dX1_and_29 (by decide) (fun c29 => ?_) (fun c29 => ?_)
    · exact absurd c29 (by rw [(show iv22 0 = 1 by rw [e22]; exact va_up_self _ _ _)]; decide)
    · refine lv_iconst (v := 0) hx hb dX1_and_32 (by decide) ?_
      refine lv_goto (tgt := 42) hx hb dX1_and_33 (by decide) ?_
      refine lv_istore_n (lv' := [(3, .int 0), (0, .ref h1), (1, .int x), (2, .int y)]) hx hb dX1_and_42 rfl hl (by decide) rfl (fun ls hl => ?_)
      refine lv_aload_n hx hb dX1_and_43 rfl (lv_at hl 1 rfl) ?_
      refine va_get (D := D) (ci := 1) (v := .int (iv22 0)) (C := RX1) (T := TX1) (N := 8) hx hb hts inX1 hown hK hP 0 rfl rfl 5 (by decide) (hts _ (mG wm_368)) (fun _ h9 => h9) rfl dX1_and_44 ?_
      refine lv_if_le (tgt := 54) hx hb dX1_and_47 (by decide) (fun c47 => ?_) (fun c47 => ?_)
      · exact absurd c47 (by rw [(show iv22 0 = 1 by rw [e22]; exact va_up_self _ _ _)]; decide)
      · refine lv_iconst (v := 0) hx hb dX1_and_50 (by decide) ?_
        refine lv_goto (tgt := 55) hx hb dX1_and_51 (by decide) ?_
        exact W.iret (v := 0) hx hb hr (fun t ht hW => ⟨⟨0, (ar, iv22), rfl, Or.inr ⟨nV, (show iv22 0 = 1 by rw [e22]; exact va_up_self _ _ _), hokc⟩, by rw [ht]; exact hP, va_K.moved hW.alike hK, hD⟩, hS.F ht⟩) hS.2.2 dX1_and_55
  · refine lv_aload_n hx hb dX1_and_9 rfl (lv_at hl 0 rfl) ?_
    refine lv_iload_n hx hb dX1_and_10 rfl (lv_at hl 2 rfl) ?_
    refine vp_callSi (W.runV (As := [.int y]) (rest := [.ref h1]) ⟨hx, hb, hml, hown, hts⟩ (m_isLiteral l D h1 cI cB cZ ad ar iv y) (cwV 1 hts gX1_and_X1_isLiteral rfl rfl rfl (by decide +kernel) ⟨Nat.le_of_ble_eq_true rfl, Nat.le_of_ble_eq_true rfl⟩) (rP_V hK hP (va_recv hK hP (ci := 1) (q0 := 0) rfl rfl)) rfl rfl hl.1 rfl (lv_room (Nat.le_of_ble_eq_true rfl)) dX1_and_11 ⟨Nat.zero_le _, Nat.zero_le _⟩) (fun r11 e11 => ?_)
    refine lv_if_eq (tgt := 21) hx hb dX1_and_14 (by decide) (fun c14 => ?_) (fun c14 => ?_)
    · have nV : ¬ (ct_lit nc x ∧ ct_lit nc y) := fun z => (mm_lit hok e11).1 c14 z.2
      refine lv_iconst (v := 1) hx hb dX1_and_21 (by decide) ?_
      refine va_put (D := D) (ci := 1) (v := .int 1) (ty := .int) (C := RX1) (T := TX1) (N := 8) hx hb hts inX1 tyX1 tyX1_ok nmX1 hown hK hP hD hS 0 rfl rfl 5 (by decide) (hts _ (mG wm_368)) (fun _ h9 => h9) rfl (by decide +kernel) rfl rfl (Nat.le_of_ble_eq_true rfl) dX1_and_22 (fun H locs hP hD hS => ?_)
      obtain ⟨iv22, e22⟩ : ∃ zz : Nat → Int32, zz = va_up iv 0 1 := ⟨_, rfl⟩
      have hP : va_P D vwCl (mW h1 cI cB cZ ad ar iv22) H := by rw [e22]; exact hP
      have hD : va_D A (mW h1 cI cB cZ ad ar iv22) := by rw [e22]; exact hD
      have hokc : mm_ok nc ic g bv ar iv22 := mm_ok_iv hok (by rw [e22, va_up_ne _ _ (by decide)]) (by rw [e22, va_up_ne _ _ (by decide)])
      refine lv_aload_n hx hb dX1_and_25 rfl (lv_at hl 0 rfl) ?_
      refine va_get (D := D) (ci := 1) (v := .int (iv22 0)) (C := RX1) (T := TX1) (N := 8) hx hb hts inX1 hown hK hP 0 rfl rfl 5 (by decide) (hts _ (mG wm_368)) (fun _ h9 => h9) rfl dX1_and_26 ?_
      refine lv_if_le (tgt := 36) hx hb dX1_and_29 (by decide) (fun c29 => ?_) (fun c29 => ?_)
      · exact absurd c29 (by rw [(show iv22 0 = 1 by rw [e22]; exact va_up_self _ _ _)]; decide)
      · refine lv_iconst (v := 0) hx hb dX1_and_32 (by decide) ?_
        refine lv_goto (tgt := 42) hx hb dX1_and_33 (by decide) ?_
        refine lv_istore_n (lv' := [(3, .int 0), (0, .ref h1), (1, .int x), (2, .int y)]) hx hb dX1_and_42 rfl hl (by decide) rfl (fun ls hl => ?_)
        refine lv_aload_n hx hb dX1_and_43 rfl (lv_at hl 1 rfl) ?_
        refine va_get (D := D) (ci := 1) (v := .int (iv22 0)) (C := RX1) (T := TX1) (N := 8) hx hb hts inX1 hown hK hP 0 rfl rfl 5 (by decide) (hts _ (mG wm_368)) (fun _ h9 => h9) rfl dX1_and_44 ?_
        refine lv_if_le (tgt := 54) hx hb dX1_and_47 (by decide) (fun c47 => ?_) (fun c47 => ?_)
        · exact absurd c47 (by rw [(show iv22 0 = 1 by rw [e22]; exact va_up_self _ _ _)]; decide)
        · refine lv_iconst (v := 0) hx hb dX1_and_50 (by decide) ?_
          refine lv_goto (tgt := 55) hx hb dX1_and_51 (by decide) ?_
          exact W.iret (v := 0) hx hb hr (fun t ht hW => ⟨⟨0, (ar, iv22), rfl, Or.inr ⟨nV, (show iv22 0 = 1 by rw [e22]; exact va_up_self _ _ _), hokc⟩, by rw [ht]; exact hP, va_K.moved hW.alike hK, hD⟩, hS.F ht⟩) hS.2.2 dX1_and_55
    · have V : ct_lit nc x ∧ ct_lit nc y := ⟨(mm_lit hok e3).2 c6, (mm_lit hok e11).2 c14⟩
      refine lv_iconst (v := 0) hx hb dX1_and_17 (by decide) ?_
      refine lv_goto (tgt := 22) hx hb dX1_and_18 (by decide) ?_
      refine va_put (D := D) (ci := 1) (v := .int 0) (ty := .int) (C := RX1) (T := TX1) (N := 8) hx hb hts inX1 tyX1 tyX1_ok nmX1 hown hK hP hD hS 0 rfl rfl 5 (by decide) (hts _ (mG wm_368)) (fun _ h9 => h9) rfl (by decide +kernel) rfl rfl (Nat.le_of_ble_eq_true rfl) dX1_and_22 (fun H locs hP hD hS => ?_)
      obtain ⟨iv22, e22⟩ : ∃ zz : Nat → Int32, zz = va_up iv 0 0 := ⟨_, rfl⟩
      have hP : va_P D vwCl (mW h1 cI cB cZ ad ar iv22) H := by rw [e22]; exact hP
      have hD : va_D A (mW h1 cI cB cZ ad ar iv22) := by rw [e22]; exact hD
      have hokc : mm_ok nc ic g bv ar iv22 := mm_ok_iv hok (by rw [e22, va_up_ne _ _ (by decide)]) (by rw [e22, va_up_ne _ _ (by decide)])
      refine lv_aload_n hx hb dX1_and_25 rfl (lv_at hl 0 rfl) ?_
      refine va_get (D := D) (ci := 1) (v := .int (iv22 0)) (C := RX1) (T := TX1) (N := 8) hx hb hts inX1 hown hK hP 0 rfl rfl 5 (by decide) (hts _ (mG wm_368)) (fun _ h9 => h9) rfl dX1_and_26 ?_
      refine lv_if_le (tgt := 36) hx hb dX1_and_29 (by decide) (fun c29 => ?_) (fun c29 => ?_)
      · have xa := ct_lit_n V.1 (by omega)
        have ya := ct_lit_n V.2 (by omega)
        have bd1 : ct_bd nc 1 (ct_an nc g (Int32.toNatClampNeg x) (Int32.toNatClampNeg y)) := ct_an_b hok.wf xa.2 ya.2
        have bl1 : (ct_an nc g (Int32.toNatClampNeg x) (Int32.toNatClampNeg y)).1 < 2 * (ct_an nc g (Int32.toNatClampNeg x) (Int32.toNatClampNeg y)).2.1 := bd1.2.1
        have bg1 : nc ≤ (ct_an nc g (Int32.toNatClampNeg x) (Int32.toNatClampNeg y)).2.1 := bd1.2.2.1
        have bh1 : (ct_an nc g (Int32.toNatClampNeg x) (Int32.toNatClampNeg y)).2.1 ≤ nc + 1 := bd1.2.2.2
        refine lv_aload_n hx hb dX1_and_36 rfl (lv_at hl 0 rfl) ?_
        refine lv_iload_n hx hb dX1_and_37 rfl (lv_at hl 1 rfl) ?_
        refine lv_iload_n hx hb dX1_and_38 rfl (lv_at hl 2 rfl) ?_
        have hFc := va_free (wc := (mW h1 cI cB cZ ad ar iv22)) hD hS hA [0, 1, 2, 3, 4, 5] rfl
        refine va_calli (va_runV (As := [.int x, .int y]) (rest := []) ⟨hx, hb, hml, hown, hts⟩ (m_make l D h1 cI cB cZ ad ar iv22 H.size x y (Int32.toNatClampNeg x) (Int32.toNatClampNeg y) nc ic g bv xa.1 ya.1 xa.2 ya.2 hokc (show iv22 0 = 0 by rw [e22]; exact va_up_self _ _ _) (by omega)) (cwV 2 hts gX1_and_X1_make rfl rfl rfl (by decide +kernel) ⟨Nat.le_of_ble_eq_true rfl, Nat.le_of_ble_eq_true rfl⟩) (mP_V hK hP hD (va_recv hK hP (ci := 1) (q0 := 0) rfl rfl)) rfl rfl hl.1 rfl (lv_room (Nat.le_of_ble_eq_true rfl)) dX1_and_39 ⟨Nat.zero_le _, Nat.zero_le _⟩) hS (fun q _ h => hFc q h) hFc (fun r39 u t H1 locs ht hvm e39 hB hz1 hk1 hS => ?_)
        obtain ⟨ar39, iv39⟩ := u
        obtain ⟨hP1, hK1, hD1⟩ := hB
        rw [ht] at hP1
        have hK := va_K.moved hvm.symm hK1
        have hP : va_P D vwCl (mW h1 cI cB cZ ad ar39 iv39) H1 := hP1
        have hD : va_D A (mW h1 cI cB cZ ad ar39 iv39) := hD1.weaken (fun k q _ h => hFc q.1 h)
        clear hP1 hK1 hD1 hk1 hz1 hFc ht
        generalize H1 = H at hP hS ⊢
        try dsimp only at e39
        refine lv_istore_n (lv' := [(3, .int r39), (0, .ref h1), (1, .int x), (2, .int y)]) hx hb dX1_and_42 rfl hl (by decide) rfl (fun ls hl => ?_)
        refine lv_aload_n hx hb dX1_and_43 rfl (lv_at hl 1 rfl) ?_
        refine va_get (D := D) (ci := 1) (v := .int (iv39 0)) (C := RX1) (T := TX1) (N := 8) hx hb hts inX1 hown hK hP 0 rfl rfl 5 (by decide) (hts _ (mG wm_368)) (fun _ h9 => h9) rfl dX1_and_44 ?_
        refine lv_if_le (tgt := 54) hx hb dX1_and_47 (by decide) (fun c47 => ?_) (fun c47 => ?_)
        · refine lv_iload_n hx hb dX1_and_54 rfl (lv_at hl 0 rfl) ?_
          exact W.iret (v := r39) hx hb hr (fun t ht hW => ⟨⟨r39, (ar39, iv39), rfl, Or.inl ⟨V, e39.2.1, e39.1, e39.2.2⟩, by rw [ht]; exact hP, va_K.moved hW.alike hK, hD⟩, hS.F ht⟩) hS.2.2 dX1_and_55
        · exact absurd (by rw [(show iv39 0 = 0 from e39.2.1)]; decide) c47
      · exact absurd (by rw [(show iv22 0 = 0 by rw [e22]; exact va_up_self _ _ _)]; decide) c29
set_option maxHeartbeats 4000000 in
set_option maxRecDepth 100000 in
/-- the reference: join -/
theorem m_join (l : Launch) (D : va_G) (h1 : Nat) (cI cB cZ : ClassId) (ad : Nat → Nat) (ar : Nat → Nat → Int32) (iv : Nat → Int32) (sz : Nat) (x : Int32) (y : Int32) (z : Int32) (nc ic : Nat) (g : Ct) (bv : Nat → Bool) (hok : mm_ok nc ic g bv ar iv) (hmx : nc + 6 ≤ 20000) : Met l yX1_join wsX1_join ({ frames := 5, cells := 0, slots := 0, locals := 124 }) (mP D (mW h1 cI cB cZ ad ar iv) [(cI, .int), (cB, .byte), (cZ, .boolean)] sz [.ref h1, .int x, .int y, .int z]) (va_Qi (fun (r : Int32) (u : MS) => md_ans ((x = 0 ∨ x = 1) ∧ ct_lit nc y ∧ ct_lit nc z) nc ic g bv (r = nI (ct_jn nc g x (Int32.toNatClampNeg y) (Int32.toNatClampNeg z)).1 ∧ mm_ok (ct_jn nc g x (Int32.toNatClampNeg y) (Int32.toNatClampNeg z)).2.1 ic (ct_jn nc g x (Int32.toNatClampNeg y) (Int32.toNatClampNeg z)).2.2 bv u.1 u.2) u) (mm_at D cI cB cZ ad (va_A (mW h1 cI cB cZ ad ar iv) sz) h1) (va_A (mW h1 cI cB cZ ad ar iv) sz)) 0 0 (va_A (mW h1 cI cB cZ ad ar iv) sz) := by
  refine Met.ofW (cc := cX1_join) (maxL := 5) (ret := (some .int)) (by decide) rfl ?_
  intro p e s m args below meth c s₁ B hml hv
  obtain ⟨rfl, hsz, hP, hK, hD0⟩ := hv
  have hx := B.exec
  have hb := B.bytes
  have hr := B.returns
  have hts := atoms_spec (ws := wsX1_join) B.pre
  have hown : s.vm.findClass RX1 = some m.cls := findClass_of_methodNamed B.named
  have hlocks := B.notSynchronized
  have hl := lv_entry ([.ref h1, .int x, .int y, .int z]) (n := 5) (Nat.le_of_ble_eq_true rfl)
  rw [lg_entry_eq]
  generalize (lg_sl ([.ref h1, .int x, .int y, .int z]) ++ List.replicate (5 - (lg_sl ([.ref h1, .int x, .int y, .int z])).length) Slot.unset).toArray = ls at hl ⊢
  have hl : lv_has ls 5 [(0, .ref h1), (1, .int x), (2, .int y), (3, .int z)] := hl
  subst hsz
  have hD := hD0.self (sz := s.heap.size)
  generalize hAe : va_A (mW h1 cI cB cZ ad ar iv) s.heap.size = A at hD ⊢
  have hA : ∀ q : Nat, s.heap.size ≤ q → A q := fun q h => by rw [← hAe]; exact Or.inr h
  have hS : va_S A s.heap s.heap [] := va_S.rf
  refine lv_aload_n hx hb dX1_join_0 rfl (lv_at hl 0 rfl) ?_
  refine lv_iload_n hx hb dX1_join_1 rfl (lv_at hl 1 rfl) ?_
  refine lv_if_eq (tgt := 10) hx hb dX1_join_2 (by decide) (fun c2 => ?_) (fun c2 => ?_)
  · have k1 : x = 0 ∨ x = 1 := Or.inl c2
    refine lv_aload_n hx hb dX1_join_10 rfl (lv_at hl 0 rfl) ?_
    refine lv_iload_n hx hb dX1_join_11 rfl (lv_at hl 2 rfl) ?_
    refine vp_callSi (W.runV (As := [.int y]) (rest := [.ref h1]) ⟨hx, hb, hml, hown, hts⟩ (m_isLiteral l D h1 cI cB cZ ad ar iv y) (cwV 1 hts gX1_join_X1_isLiteral rfl rfl rfl (by decide +kernel) ⟨Nat.le_of_ble_eq_true rfl, Nat.le_of_ble_eq_true rfl⟩) (rP_V hK hP (va_recv hK hP (ci := 1) (q0 := 0) rfl rfl)) rfl rfl hl.1 rfl (lv_room (Nat.le_of_ble_eq_true rfl)) dX1_join_12 ⟨Nat.zero_le _, Nat.zero_le _⟩) (fun r12 e12 => ?_)
    refine lv_if_eq (tgt := 30) hx hb dX1_join_15 (by decide) (fun c15 => ?_) (fun c15 => ?_)
    · have nV : ¬ ((x = 0 ∨ x = 1) ∧ ct_lit nc y ∧ ct_lit nc z) := fun z => (mm_lit hok e12).1 c15 z.2.1
      refine lv_iconst (v := 1) hx hb dX1_join_30 (by decide) ?_
      refine va_put (D := D) (ci := 1) (v := .int 1) (ty := .int) (C := RX1) (T := TX1) (N := 8) hx hb hts inX1 tyX1 tyX1_ok nmX1 hown hK hP hD hS 0 rfl rfl 5 (by decide) (hts _ (mG wm_368)) (fun _ h9 => h9) rfl (by decide +kernel) rfl rfl (Nat.le_of_ble_eq_true rfl) dX1_join_31 (fun H locs hP hD hS => ?_)
      obtain ⟨iv31, e31⟩ : ∃ zz : Nat → Int32, zz = va_up iv 0 1 := ⟨_, rfl⟩
      have hP : va_P D vwCl (mW h1 cI cB cZ ad ar iv31) H := by rw [e31]; exact hP
      have hD : va_D A (mW h1 cI cB cZ ad ar iv31) := by rw [e31]; exact hD
      have hokc : mm_ok nc ic g bv ar iv31 := mm_ok_iv hok (by rw [e31, va_up_ne _ _ (by decide)]) (by rw [e31, va_up_ne _ _ (by decide)])
      refine lv_aload_n hx hb dX1_join_34 rfl (lv_at hl 0 rfl) ?_
      refine va_get (D := D) (ci := 1) (v := .int (iv31 0)) (C := RX1) (T := TX1) (N := 8) hx hb hts inX1 hown hK hP 0 rfl rfl 5 (by decide) (hts _ (mG wm_368)) (fun _ h9 => h9) rfl dX1_join_35 ?_
      refine lv_if_le (tgt := 45) hx hb dX1_join_38 (by decide) (fun c38 => ?_) (fun c38 => ?_)
      · exact absurd c38 (by rw [(show iv31 0 = 1 by rw [e31]; exact va_up_self _ _ _)]; decide)
      · refine lv_iconst (v := 0) hx hb dX1_join_41 (by decide) ?_
        refine lv_goto (tgt := 64) hx hb dX1_join_42 (by decide) ?_
        refine lv_istore (lv' := [(4, .int 0), (0, .ref h1), (1, .int x), (2, .int y), (3, .int z)]) hx hb dX1_join_64 hl (by decide) rfl (fun ls hl => ?_)
        refine lv_aload_n hx hb dX1_join_66 rfl (lv_at hl 1 rfl) ?_
        refine va_get (D := D) (ci := 1) (v := .int (iv31 0)) (C := RX1) (T := TX1) (N := 8) hx hb hts inX1 hown hK hP 0 rfl rfl 5 (by decide) (hts _ (mG wm_368)) (fun _ h9 => h9) rfl dX1_join_67 ?_
        refine lv_if_le (tgt := 77) hx hb dX1_join_70 (by decide) (fun c70 => ?_) (fun c70 => ?_)
        · exact absurd c70 (by rw [(show iv31 0 = 1 by rw [e31]; exact va_up_self _ _ _)]; decide)
        · refine lv_iconst (v := 0) hx hb dX1_join_73 (by decide) ?_
          refine lv_goto (tgt := 79) hx hb dX1_join_74 (by decide) ?_
          exact W.iret (v := 0) hx hb hr (fun t ht hW => ⟨⟨0, (ar, iv31), rfl, Or.inr ⟨nV, (show iv31 0 = 1 by rw [e31]; exact va_up_self _ _ _), hokc⟩, by rw [ht]; exact hP, va_K.moved hW.alike hK, hD⟩, hS.F ht⟩) hS.2.2 dX1_join_79
    · refine lv_aload_n hx hb dX1_join_18 rfl (lv_at hl 0 rfl) ?_
      refine lv_iload_n hx hb dX1_join_19 rfl (lv_at hl 3 rfl) ?_
      refine vp_callSi (W.runV (As := [.int z]) (rest := [.ref h1]) ⟨hx, hb, hml, hown, hts⟩ (m_isLiteral l D h1 cI cB cZ ad ar iv z) (cwV 1 hts gX1_join_X1_isLiteral rfl rfl rfl (by decide +kernel) ⟨Nat.le_of_ble_eq_true rfl, Nat.le_of_ble_eq_true rfl⟩) (rP_V hK hP (va_recv hK hP (ci := 1) (q0 := 0) rfl rfl)) rfl rfl hl.1 rfl (lv_room (Nat.le_of_ble_eq_true rfl)) dX1_join_20 ⟨Nat.zero_le _, Nat.zero_le _⟩) (fun r20 e20 => ?_)
      refine lv_if_eq (tgt := 30) hx hb dX1_join_23 (by decide) (fun c23 => ?_) (fun c23 => ?_)
      · have nV : ¬ ((x = 0 ∨ x = 1) ∧ ct_lit nc y ∧ ct_lit nc z) := fun z => (mm_lit hok e20).1 c23 z.2.2
        refine lv_iconst (v := 1) hx hb dX1_join_30 (by decide) ?_
        refine va_put (D := D) (ci := 1) (v := .int 1) (ty := .int) (C := RX1) (T := TX1) (N := 8) hx hb hts inX1 tyX1 tyX1_ok nmX1 hown hK hP hD hS 0 rfl rfl 5 (by decide) (hts _ (mG wm_368)) (fun _ h9 => h9) rfl (by decide +kernel) rfl rfl (Nat.le_of_ble_eq_true rfl) dX1_join_31 (fun H locs hP hD hS => ?_)
        obtain ⟨iv31, e31⟩ : ∃ zz : Nat → Int32, zz = va_up iv 0 1 := ⟨_, rfl⟩
        have hP : va_P D vwCl (mW h1 cI cB cZ ad ar iv31) H := by rw [e31]; exact hP
        have hD : va_D A (mW h1 cI cB cZ ad ar iv31) := by rw [e31]; exact hD
        have hokc : mm_ok nc ic g bv ar iv31 := mm_ok_iv hok (by rw [e31, va_up_ne _ _ (by decide)]) (by rw [e31, va_up_ne _ _ (by decide)])
        refine lv_aload_n hx hb dX1_join_34 rfl (lv_at hl 0 rfl) ?_
        refine va_get (D := D) (ci := 1) (v := .int (iv31 0)) (C := RX1) (T := TX1) (N := 8) hx hb hts inX1 hown hK hP 0 rfl rfl 5 (by decide) (hts _ (mG wm_368)) (fun _ h9 => h9) rfl dX1_join_35 ?_
        refine lv_if_le (tgt := 45) hx hb dX1_join_38 (by decide) (fun c38 => ?_) (fun c38 => ?_)
        · exact absurd c38 (by rw [(show iv31 0 = 1 by rw [e31]; exact va_up_self _ _ _)]; decide)
        · refine lv_iconst (v := 0) hx hb dX1_join_41 (by decide) ?_
          refine lv_goto (tgt := 64) hx hb dX1_join_42 (by decide) ?_
          refine lv_istore (lv' := [(4, .int 0), (0, .ref h1), (1, .int x), (2, .int y), (3, .int z)]) hx hb dX1_join_64 hl (by decide) rfl (fun ls hl => ?_)
          refine lv_aload_n hx hb dX1_join_66 rfl (lv_at hl 1 rfl) ?_
          refine va_get (D := D) (ci := 1) (v := .int (iv31 0)) (C := RX1) (T := TX1) (N := 8) hx hb hts inX1 hown hK hP 0 rfl rfl 5 (by decide) (hts _ (mG wm_368)) (fun _ h9 => h9) rfl dX1_join_67 ?_
          refine lv_if_le (tgt := 77) hx hb dX1_join_70 (by decide) (fun c70 => ?_) (fun c70 => ?_)
          · exact absurd c70 (by rw [(show iv31 0 = 1 by rw [e31]; exact va_up_self _ _ _)]; decide)
          · refine lv_iconst (v := 0) hx hb dX1_join_73 (by decide) ?_
            refine lv_goto (tgt := 79) hx hb dX1_join_74 (by decide) ?_
            exact W.iret (v := 0) hx hb hr (fun t ht hW => ⟨⟨0, (ar, iv31), rfl, Or.inr ⟨nV, (show iv31 0 = 1 by rw [e31]; exact va_up_self _ _ _), hokc⟩, by rw [ht]; exact hP, va_K.moved hW.alike hK, hD⟩, hS.F ht⟩) hS.2.2 dX1_join_79
      · have V : (x = 0 ∨ x = 1) ∧ ct_lit nc y ∧ ct_lit nc z := ⟨k1, (mm_lit hok e12).2 c15, (mm_lit hok e20).2 c23⟩
        refine lv_iconst (v := 0) hx hb dX1_join_26 (by decide) ?_
        refine lv_goto (tgt := 31) hx hb dX1_join_27 (by decide) ?_
        refine va_put (D := D) (ci := 1) (v := .int 0) (ty := .int) (C := RX1) (T := TX1) (N := 8) hx hb hts inX1 tyX1 tyX1_ok nmX1 hown hK hP hD hS 0 rfl rfl 5 (by decide) (hts _ (mG wm_368)) (fun _ h9 => h9) rfl (by decide +kernel) rfl rfl (Nat.le_of_ble_eq_true rfl) dX1_join_31 (fun H locs hP hD hS => ?_)
        obtain ⟨iv31, e31⟩ : ∃ zz : Nat → Int32, zz = va_up iv 0 0 := ⟨_, rfl⟩
        have hP : va_P D vwCl (mW h1 cI cB cZ ad ar iv31) H := by rw [e31]; exact hP
        have hD : va_D A (mW h1 cI cB cZ ad ar iv31) := by rw [e31]; exact hD
        have hokc : mm_ok nc ic g bv ar iv31 := mm_ok_iv hok (by rw [e31, va_up_ne _ _ (by decide)]) (by rw [e31, va_up_ne _ _ (by decide)])
        refine lv_aload_n hx hb dX1_join_34 rfl (lv_at hl 0 rfl) ?_
        refine va_get (D := D) (ci := 1) (v := .int (iv31 0)) (C := RX1) (T := TX1) (N := 8) hx hb hts inX1 hown hK hP 0 rfl rfl 5 (by decide) (hts _ (mG wm_368)) (fun _ h9 => h9) rfl dX1_join_35 ?_
        refine lv_if_le (tgt := 45) hx hb dX1_join_38 (by decide) (fun c38 => ?_) (fun c38 => ?_)
        · have ya := ct_lit_n V.2.1 (by omega)
          have za := ct_lit_n V.2.2 (by omega)
          refine lv_iload_n hx hb dX1_join_45 rfl (lv_at hl 1 rfl) ?_
          refine lv_if_ne (tgt := 58) hx hb dX1_join_46 (by decide) (fun c46 => ?_) (fun c46 => ?_)
          · have bd1 : ct_bd nc 3 (ct_xo nc g (Int32.toNatClampNeg y) (Int32.toNatClampNeg z)) := ct_xo_b hok.wf ya.2 za.2
            have bl1 : (ct_xo nc g (Int32.toNatClampNeg y) (Int32.toNatClampNeg z)).1 < 2 * (ct_xo nc g (Int32.toNatClampNeg y) (Int32.toNatClampNeg z)).2.1 := bd1.2.1
            have bg1 : nc ≤ (ct_xo nc g (Int32.toNatClampNeg y) (Int32.toNatClampNeg z)).2.1 := bd1.2.2.1
            have bh1 : (ct_xo nc g (Int32.toNatClampNeg y) (Int32.toNatClampNeg z)).2.1 ≤ nc + 3 := bd1.2.2.2
            have hR : ct_jn nc g x (Int32.toNatClampNeg y) (Int32.toNatClampNeg z) = ct_xo nc g (Int32.toNatClampNeg y) (Int32.toNatClampNeg z) := if_neg c46
            refine lv_aload_n hx hb dX1_join_58 rfl (lv_at hl 0 rfl) ?_
            refine lv_iload_n hx hb dX1_join_59 rfl (lv_at hl 2 rfl) ?_
            refine lv_iload_n hx hb dX1_join_60 rfl (lv_at hl 3 rfl) ?_
            have hFc := va_free (wc := (mW h1 cI cB cZ ad ar iv31)) hD hS hA [0, 1, 2, 3, 4, 5] rfl
            refine va_calli (va_runV (As := [.int y, .int z]) (rest := []) ⟨hx, hb, hml, hown, hts⟩ (m_xor l D h1 cI cB cZ ad ar iv31 H.size y z (Int32.toNatClampNeg y) (Int32.toNatClampNeg z) nc ic g bv ya.1 za.1 ya.2 za.2 hokc (show iv31 0 = 0 by rw [e31]; exact va_up_self _ _ _) (by omega)) (cwV 2 hts gX1_join_X1_xor rfl rfl rfl (by decide +kernel) ⟨Nat.le_of_ble_eq_true rfl, Nat.le_of_ble_eq_true rfl⟩) (mP_V hK hP hD (va_recv hK hP (ci := 1) (q0 := 0) rfl rfl)) rfl rfl hl.1 rfl (lv_room (Nat.le_of_ble_eq_true rfl)) dX1_join_61 ⟨Nat.zero_le _, Nat.zero_le _⟩) hS (fun q _ h => hFc q h) hFc (fun r61 u t H1 locs ht hvm e61 hB hz1 hk1 hS => ?_)
            obtain ⟨ar61, iv61⟩ := u
            obtain ⟨hP1, hK1, hD1⟩ := hB
            rw [ht] at hP1
            have hK := va_K.moved hvm.symm hK1
            have hP : va_P D vwCl (mW h1 cI cB cZ ad ar61 iv61) H1 := hP1
            have hD : va_D A (mW h1 cI cB cZ ad ar61 iv61) := hD1.weaken (fun k q _ h => hFc q.1 h)
            clear hP1 hK1 hD1 hk1 hz1 hFc ht
            generalize H1 = H at hP hS ⊢
            try dsimp only at e61
            refine lv_istore (lv' := [(4, .int r61), (0, .ref h1), (1, .int x), (2, .int y), (3, .int z)]) hx hb dX1_join_64 hl (by decide) rfl (fun ls hl => ?_)
            refine lv_aload_n hx hb dX1_join_66 rfl (lv_at hl 1 rfl) ?_
            refine va_get (D := D) (ci := 1) (v := .int (iv61 0)) (C := RX1) (T := TX1) (N := 8) hx hb hts inX1 hown hK hP 0 rfl rfl 5 (by decide) (hts _ (mG wm_368)) (fun _ h9 => h9) rfl dX1_join_67 ?_
            refine lv_if_le (tgt := 77) hx hb dX1_join_70 (by decide) (fun c70 => ?_) (fun c70 => ?_)
            · refine lv_iload hx hb dX1_join_77 (lv_at hl 0 rfl) ?_
              exact W.iret (v := r61) hx hb hr (fun t ht hW => ⟨⟨r61, (ar61, iv61), rfl, Or.inl ⟨V, e61.2.1, by rw [hR]; exact ⟨e61.1, e61.2.2⟩⟩, by rw [ht]; exact hP, va_K.moved hW.alike hK, hD⟩, hS.F ht⟩) hS.2.2 dX1_join_79
            · exact absurd (by rw [(show iv61 0 = 0 from e61.2.1)]; decide) c70
          · have bd1 : ct_bd nc 1 (ct_or nc g (Int32.toNatClampNeg y) (Int32.toNatClampNeg z)) := ct_or_b hok.wf ya.2 za.2
            have bl1 : (ct_or nc g (Int32.toNatClampNeg y) (Int32.toNatClampNeg z)).1 < 2 * (ct_or nc g (Int32.toNatClampNeg y) (Int32.toNatClampNeg z)).2.1 := bd1.2.1
            have bg1 : nc ≤ (ct_or nc g (Int32.toNatClampNeg y) (Int32.toNatClampNeg z)).2.1 := bd1.2.2.1
            have bh1 : (ct_or nc g (Int32.toNatClampNeg y) (Int32.toNatClampNeg z)).2.1 ≤ nc + 1 := bd1.2.2.2
            have hR : ct_jn nc g x (Int32.toNatClampNeg y) (Int32.toNatClampNeg z) = ct_or nc g (Int32.toNatClampNeg y) (Int32.toNatClampNeg z) := if_pos c46
            refine lv_aload_n hx hb dX1_join_49 rfl (lv_at hl 0 rfl) ?_
            refine lv_iload_n hx hb dX1_join_50 rfl (lv_at hl 2 rfl) ?_
            refine lv_iload_n hx hb dX1_join_51 rfl (lv_at hl 3 rfl) ?_
            have hFc := va_free (wc := (mW h1 cI cB cZ ad ar iv31)) hD hS hA [0, 1, 2, 3, 4, 5] rfl
            refine va_calli (va_runV (As := [.int y, .int z]) (rest := []) ⟨hx, hb, hml, hown, hts⟩ (m_or l D h1 cI cB cZ ad ar iv31 H.size y z (Int32.toNatClampNeg y) (Int32.toNatClampNeg z) nc ic g bv ya.1 za.1 ya.2 za.2 hokc (show iv31 0 = 0 by rw [e31]; exact va_up_self _ _ _) (by omega)) (cwV 2 hts gX1_join_X1_or rfl rfl rfl (by decide +kernel) ⟨Nat.le_of_ble_eq_true rfl, Nat.le_of_ble_eq_true rfl⟩) (mP_V hK hP hD (va_recv hK hP (ci := 1) (q0 := 0) rfl rfl)) rfl rfl hl.1 rfl (lv_room (Nat.le_of_ble_eq_true rfl)) dX1_join_52 ⟨Nat.zero_le _, Nat.zero_le _⟩) hS (fun q _ h => hFc q h) hFc (fun r52 u t H1 locs ht hvm e52 hB hz1 hk1 hS => ?_)
            obtain ⟨ar52, iv52⟩ := u
            obtain ⟨hP1, hK1, hD1⟩ := hB
            rw [ht] at hP1
            have hK := va_K.moved hvm.symm hK1
            have hP : va_P D vwCl (mW h1 cI cB cZ ad ar52 iv52) H1 := hP1
            have hD : va_D A (mW h1 cI cB cZ ad ar52 iv52) := hD1.weaken (fun k q _ h => hFc q.1 h)
            clear hP1 hK1 hD1 hk1 hz1 hFc ht
            generalize H1 = H at hP hS ⊢
            try dsimp only at e52
            refine lv_goto (tgt := 64) hx hb dX1_join_55 (by decide) ?_
            refine lv_istore (lv' := [(4, .int r52), (0, .ref h1), (1, .int x), (2, .int y), (3, .int z)]) hx hb dX1_join_64 hl (by decide) rfl (fun ls hl => ?_)
            refine lv_aload_n hx hb dX1_join_66 rfl (lv_at hl 1 rfl) ?_
            refine va_get (D := D) (ci := 1) (v := .int (iv52 0)) (C := RX1) (T := TX1) (N := 8) hx hb hts inX1 hown hK hP 0 rfl rfl 5 (by decide) (hts _ (mG wm_368)) (fun _ h9 => h9) rfl dX1_join_67 ?_
            refine lv_if_le (tgt := 77) hx hb dX1_join_70 (by decide) (fun c70 => ?_) (fun c70 => ?_)
            · refine lv_iload hx hb dX1_join_77 (lv_at hl 0 rfl) ?_
              exact W.iret (v := r52) hx hb hr (fun t ht hW => ⟨⟨r52, (ar52, iv52), rfl, Or.inl ⟨V, e52.2.1, by rw [hR]; exact ⟨e52.1, e52.2.2⟩⟩, by rw [ht]; exact hP, va_K.moved hW.alike hK, hD⟩, hS.F ht⟩) hS.2.2 dX1_join_79
            · exact absurd (by rw [(show iv52 0 = 0 from e52.2.1)]; decide) c70
        · exact absurd (by rw [(show iv31 0 = 0 by rw [e31]; exact va_up_self _ _ _)]; decide) c38
  · refine lv_iload_n hx hb dX1_join_5 rfl (lv_at hl 1 rfl) ?_
    refine lv_iconst (v := 1) hx hb dX1_join_6 (by decide) ?_
    refine lv_icmp_ne (tgt := 30) hx hb dX1_join_7 (by decide) (fun c7 => ?_) (fun c7 => ?_)
    · have nV : ¬ ((x = 0 ∨ x = 1) ∧ ct_lit nc y ∧ ct_lit nc z) := fun z => z.1.elim c2 c7
      refine lv_iconst (v := 1) hx hb dX1_join_30 (by decide) ?_
      refine va_put (D := D) (ci := 1) (v := .int 1) (ty := .int) (C := RX1) (T := TX1) (N := 8) hx hb hts inX1 tyX1 tyX1_ok nmX1 hown hK hP hD hS 0 rfl rfl 5 (by decide) (hts _ (mG wm_368)) (fun _ h9 => h9) rfl (by decide +kernel) rfl rfl (Nat.le_of_ble_eq_true rfl) dX1_join_31 (fun H locs hP hD hS => ?_)
      obtain ⟨iv31, e31⟩ : ∃ zz : Nat → Int32, zz = va_up iv 0 1 := ⟨_, rfl⟩
      have hP : va_P D vwCl (mW h1 cI cB cZ ad ar iv31) H := by rw [e31]; exact hP
      have hD : va_D A (mW h1 cI cB cZ ad ar iv31) := by rw [e31]; exact hD
      have hokc : mm_ok nc ic g bv ar iv31 := mm_ok_iv hok (by rw [e31, va_up_ne _ _ (by decide)]) (by rw [e31, va_up_ne _ _ (by decide)])
      refine lv_aload_n hx hb dX1_join_34 rfl (lv_at hl 0 rfl) ?_
      refine va_get (D := D) (ci := 1) (v := .int (iv31 0)) (C := RX1) (T := TX1) (N := 8) hx hb hts inX1 hown hK hP 0 rfl rfl 5 (by decide) (hts _ (mG wm_368)) (fun _ h9 => h9) rfl dX1_join_35 ?_
      refine lv_if_le (tgt := 45) hx hb dX1_join_38 (by decide) (fun c38 => ?_) (fun c38 => ?_)
      · exact absurd c38 (by rw [(show iv31 0 = 1 by rw [e31]; exact va_up_self _ _ _)]; decide)
      · refine lv_iconst (v := 0) hx hb dX1_join_41 (by decide) ?_
        refine lv_goto (tgt := 64) hx hb dX1_join_42 (by decide) ?_
        refine lv_istore (lv' := [(4, .int 0), (0, .ref h1), (1, .int x), (2, .int y), (3, .int z)]) hx hb dX1_join_64 hl (by decide) rfl (fun ls hl => ?_)
        refine lv_aload_n hx hb dX1_join_66 rfl (lv_at hl 1 rfl) ?_
        refine va_get (D := D) (ci := 1) (v := .int (iv31 0)) (C := RX1) (T := TX1) (N := 8) hx hb hts inX1 hown hK hP 0 rfl rfl 5 (by decide) (hts _ (mG wm_368)) (fun _ h9 => h9) rfl dX1_join_67 ?_
        refine lv_if_le (tgt := 77) hx hb dX1_join_70 (by decide) (fun c70 => ?_) (fun c70 => ?_)
        · exact absurd c70 (by rw [(show iv31 0 = 1 by rw [e31]; exact va_up_self _ _ _)]; decide)
        · refine lv_iconst (v := 0) hx hb dX1_join_73 (by decide) ?_
          refine lv_goto (tgt := 79) hx hb dX1_join_74 (by decide) ?_
          exact W.iret (v := 0) hx hb hr (fun t ht hW => ⟨⟨0, (ar, iv31), rfl, Or.inr ⟨nV, (show iv31 0 = 1 by rw [e31]; exact va_up_self _ _ _), hokc⟩, by rw [ht]; exact hP, va_K.moved hW.alike hK, hD⟩, hS.F ht⟩) hS.2.2 dX1_join_79
    · have k1 : x = 0 ∨ x = 1 := Or.inr c7
      refine lv_aload_n hx hb dX1_join_10 rfl (lv_at hl 0 rfl) ?_
      refine lv_iload_n hx hb dX1_join_11 rfl (lv_at hl 2 rfl) ?_
      refine vp_callSi (W.runV (As := [.int y]) (rest := [.ref h1]) ⟨hx, hb, hml, hown, hts⟩ (m_isLiteral l D h1 cI cB cZ ad ar iv y) (cwV 1 hts gX1_join_X1_isLiteral rfl rfl rfl (by decide +kernel) ⟨Nat.le_of_ble_eq_true rfl, Nat.le_of_ble_eq_true rfl⟩) (rP_V hK hP (va_recv hK hP (ci := 1) (q0 := 0) rfl rfl)) rfl rfl hl.1 rfl (lv_room (Nat.le_of_ble_eq_true rfl)) dX1_join_12 ⟨Nat.zero_le _, Nat.zero_le _⟩) (fun r12 e12 => ?_)
      refine lv_if_eq (tgt := 30) hx hb dX1_join_15 (by decide) (fun c15 => ?_) (fun c15 => ?_)
      · have nV : ¬ ((x = 0 ∨ x = 1) ∧ ct_lit nc y ∧ ct_lit nc z) := fun z => (mm_lit hok e12).1 c15 z.2.1
        refine lv_iconst (v := 1) hx hb dX1_join_30 (by decide) ?_
        refine va_put (D := D) (ci := 1) (v := .int 1) (ty := .int) (C := RX1) (T := TX1) (N := 8) hx hb hts inX1 tyX1 tyX1_ok nmX1 hown hK hP hD hS 0 rfl rfl 5 (by decide) (hts _ (mG wm_368)) (fun _ h9 => h9) rfl (by decide +kernel) rfl rfl (Nat.le_of_ble_eq_true rfl) dX1_join_31 (fun H locs hP hD hS => ?_)
        obtain ⟨iv31, e31⟩ : ∃ zz : Nat → Int32, zz = va_up iv 0 1 := ⟨_, rfl⟩
        have hP : va_P D vwCl (mW h1 cI cB cZ ad ar iv31) H := by rw [e31]; exact hP
        have hD : va_D A (mW h1 cI cB cZ ad ar iv31) := by rw [e31]; exact hD
        have hokc : mm_ok nc ic g bv ar iv31 := mm_ok_iv hok (by rw [e31, va_up_ne _ _ (by decide)]) (by rw [e31, va_up_ne _ _ (by decide)])
        refine lv_aload_n hx hb dX1_join_34 rfl (lv_at hl 0 rfl) ?_
        refine va_get (D := D) (ci := 1) (v := .int (iv31 0)) (C := RX1) (T := TX1) (N := 8) hx hb hts inX1 hown hK hP 0 rfl rfl 5 (by decide) (hts _ (mG wm_368)) (fun _ h9 => h9) rfl dX1_join_35 ?_
        refine lv_if_le (tgt := 45) hx hb dX1_join_38 (by decide) (fun c38 => ?_) (fun c38 => ?_)
        · exact absurd c38 (by rw [(show iv31 0 = 1 by rw [e31]; exact va_up_self _ _ _)]; decide)
        · refine lv_iconst (v := 0) hx hb dX1_join_41 (by decide) ?_
          refine lv_goto (tgt := 64) hx hb dX1_join_42 (by decide) ?_
          refine lv_istore (lv' := [(4, .int 0), (0, .ref h1), (1, .int x), (2, .int y), (3, .int z)]) hx hb dX1_join_64 hl (by decide) rfl (fun ls hl => ?_)
          refine lv_aload_n hx hb dX1_join_66 rfl (lv_at hl 1 rfl) ?_
          refine va_get (D := D) (ci := 1) (v := .int (iv31 0)) (C := RX1) (T := TX1) (N := 8) hx hb hts inX1 hown hK hP 0 rfl rfl 5 (by decide) (hts _ (mG wm_368)) (fun _ h9 => h9) rfl dX1_join_67 ?_
          refine lv_if_le (tgt := 77) hx hb dX1_join_70 (by decide) (fun c70 => ?_) (fun c70 => ?_)
          · exact absurd c70 (by rw [(show iv31 0 = 1 by rw [e31]; exact va_up_self _ _ _)]; decide)
          · refine lv_iconst (v := 0) hx hb dX1_join_73 (by decide) ?_
            refine lv_goto (tgt := 79) hx hb dX1_join_74 (by decide) ?_
            exact W.iret (v := 0) hx hb hr (fun t ht hW => ⟨⟨0, (ar, iv31), rfl, Or.inr ⟨nV, (show iv31 0 = 1 by rw [e31]; exact va_up_self _ _ _), hokc⟩, by rw [ht]; exact hP, va_K.moved hW.alike hK, hD⟩, hS.F ht⟩) hS.2.2 dX1_join_79
      · refine lv_aload_n hx hb dX1_join_18 rfl (lv_at hl 0 rfl) ?_
        refine lv_iload_n hx hb dX1_join_19 rfl (lv_at hl 3 rfl) ?_
        refine vp_callSi (W.runV (As := [.int z]) (rest := [.ref h1]) ⟨hx, hb, hml, hown, hts⟩ (m_isLiteral l D h1 cI cB cZ ad ar iv z) (cwV 1 hts gX1_join_X1_isLiteral rfl rfl rfl (by decide +kernel) ⟨Nat.le_of_ble_eq_true rfl, Nat.le_of_ble_eq_true rfl⟩) (rP_V hK hP (va_recv hK hP (ci := 1) (q0 := 0) rfl rfl)) rfl rfl hl.1 rfl (lv_room (Nat.le_of_ble_eq_true rfl)) dX1_join_20 ⟨Nat.zero_le _, Nat.zero_le _⟩) (fun r20 e20 => ?_)
        refine lv_if_eq (tgt := 30) hx hb dX1_join_23 (by decide) (fun c23 => ?_) (fun c23 => ?_)
        · have nV : ¬ ((x = 0 ∨ x = 1) ∧ ct_lit nc y ∧ ct_lit nc z) := fun z => (mm_lit hok e20).1 c23 z.2.2
          refine lv_iconst (v := 1) hx hb dX1_join_30 (by decide) ?_
          refine va_put (D := D) (ci := 1) (v := .int 1) (ty := .int) (C := RX1) (T := TX1) (N := 8) hx hb hts inX1 tyX1 tyX1_ok nmX1 hown hK hP hD hS 0 rfl rfl 5 (by decide) (hts _ (mG wm_368)) (fun _ h9 => h9) rfl (by decide +kernel) rfl rfl (Nat.le_of_ble_eq_true rfl) dX1_join_31 (fun H locs hP hD hS => ?_)
          obtain ⟨iv31, e31⟩ : ∃ zz : Nat → Int32, zz = va_up iv 0 1 := ⟨_, rfl⟩
          have hP : va_P D vwCl (mW h1 cI cB cZ ad ar iv31) H := by rw [e31]; exact hP
          have hD : va_D A (mW h1 cI cB cZ ad ar iv31) := by rw [e31]; exact hD
          have hokc : mm_ok nc ic g bv ar iv31 := mm_ok_iv hok (by rw [e31, va_up_ne _ _ (by decide)]) (by rw [e31, va_up_ne _ _ (by decide)])
          refine lv_aload_n hx hb dX1_join_34 rfl (lv_at hl 0 rfl) ?_
          refine va_get (D := D) (ci := 1) (v := .int (iv31 0)) (C := RX1) (T := TX1) (N := 8) hx hb hts inX1 hown hK hP 0 rfl rfl 5 (by decide) (hts _ (mG wm_368)) (fun _ h9 => h9) rfl dX1_join_35 ?_
          refine lv_if_le (tgt := 45) hx hb dX1_join_38 (by decide) (fun c38 => ?_) (fun c38 => ?_)
          · exact absurd c38 (by rw [(show iv31 0 = 1 by rw [e31]; exact va_up_self _ _ _)]; decide)
          · refine lv_iconst (v := 0) hx hb dX1_join_41 (by decide) ?_
            refine lv_goto (tgt := 64) hx hb dX1_join_42 (by decide) ?_
            refine lv_istore (lv' := [(4, .int 0), (0, .ref h1), (1, .int x), (2, .int y), (3, .int z)]) hx hb dX1_join_64 hl (by decide) rfl (fun ls hl => ?_)
            refine lv_aload_n hx hb dX1_join_66 rfl (lv_at hl 1 rfl) ?_
            refine va_get (D := D) (ci := 1) (v := .int (iv31 0)) (C := RX1) (T := TX1) (N := 8) hx hb hts inX1 hown hK hP 0 rfl rfl 5 (by decide) (hts _ (mG wm_368)) (fun _ h9 => h9) rfl dX1_join_67 ?_
            refine lv_if_le (tgt := 77) hx hb dX1_join_70 (by decide) (fun c70 => ?_) (fun c70 => ?_)
            · exact absurd c70 (by rw [(show iv31 0 = 1 by rw [e31]; exact va_up_self _ _ _)]; decide)
            · refine lv_iconst (v := 0) hx hb dX1_join_73 (by decide) ?_
              refine lv_goto (tgt := 79) hx hb dX1_join_74 (by decide) ?_
              exact W.iret (v := 0) hx hb hr (fun t ht hW => ⟨⟨0, (ar, iv31), rfl, Or.inr ⟨nV, (show iv31 0 = 1 by rw [e31]; exact va_up_self _ _ _), hokc⟩, by rw [ht]; exact hP, va_K.moved hW.alike hK, hD⟩, hS.F ht⟩) hS.2.2 dX1_join_79
        · have V : (x = 0 ∨ x = 1) ∧ ct_lit nc y ∧ ct_lit nc z := ⟨k1, (mm_lit hok e12).2 c15, (mm_lit hok e20).2 c23⟩
          refine lv_iconst (v := 0) hx hb dX1_join_26 (by decide) ?_
          refine lv_goto (tgt := 31) hx hb dX1_join_27 (by decide) ?_
          refine va_put (D := D) (ci := 1) (v := .int 0) (ty := .int) (C := RX1) (T := TX1) (N := 8) hx hb hts inX1 tyX1 tyX1_ok nmX1 hown hK hP hD hS 0 rfl rfl 5 (by decide) (hts _ (mG wm_368)) (fun _ h9 => h9) rfl (by decide +kernel) rfl rfl (Nat.le_of_ble_eq_true rfl) dX1_join_31 (fun H locs hP hD hS => ?_)
          obtain ⟨iv31, e31⟩ : ∃ zz : Nat → Int32, zz = va_up iv 0 0 := ⟨_, rfl⟩
          have hP : va_P D vwCl (mW h1 cI cB cZ ad ar iv31) H := by rw [e31]; exact hP
          have hD : va_D A (mW h1 cI cB cZ ad ar iv31) := by rw [e31]; exact hD
          have hokc : mm_ok nc ic g bv ar iv31 := mm_ok_iv hok (by rw [e31, va_up_ne _ _ (by decide)]) (by rw [e31, va_up_ne _ _ (by decide)])
          refine lv_aload_n hx hb dX1_join_34 rfl (lv_at hl 0 rfl) ?_
          refine va_get (D := D) (ci := 1) (v := .int (iv31 0)) (C := RX1) (T := TX1) (N := 8) hx hb hts inX1 hown hK hP 0 rfl rfl 5 (by decide) (hts _ (mG wm_368)) (fun _ h9 => h9) rfl dX1_join_35 ?_
          refine lv_if_le (tgt := 45) hx hb dX1_join_38 (by decide) (fun c38 => ?_) (fun c38 => ?_)
          · have ya := ct_lit_n V.2.1 (by omega)
            have za := ct_lit_n V.2.2 (by omega)
            refine lv_iload_n hx hb dX1_join_45 rfl (lv_at hl 1 rfl) ?_
            refine lv_if_ne (tgt := 58) hx hb dX1_join_46 (by decide) (fun c46 => ?_) (fun c46 => ?_)
            · have bd1 : ct_bd nc 3 (ct_xo nc g (Int32.toNatClampNeg y) (Int32.toNatClampNeg z)) := ct_xo_b hok.wf ya.2 za.2
              have bl1 : (ct_xo nc g (Int32.toNatClampNeg y) (Int32.toNatClampNeg z)).1 < 2 * (ct_xo nc g (Int32.toNatClampNeg y) (Int32.toNatClampNeg z)).2.1 := bd1.2.1
              have bg1 : nc ≤ (ct_xo nc g (Int32.toNatClampNeg y) (Int32.toNatClampNeg z)).2.1 := bd1.2.2.1
              have bh1 : (ct_xo nc g (Int32.toNatClampNeg y) (Int32.toNatClampNeg z)).2.1 ≤ nc + 3 := bd1.2.2.2
              have hR : ct_jn nc g x (Int32.toNatClampNeg y) (Int32.toNatClampNeg z) = ct_xo nc g (Int32.toNatClampNeg y) (Int32.toNatClampNeg z) := if_neg c46
              refine lv_aload_n hx hb dX1_join_58 rfl (lv_at hl 0 rfl) ?_
              refine lv_iload_n hx hb dX1_join_59 rfl (lv_at hl 2 rfl) ?_
              refine lv_iload_n hx hb dX1_join_60 rfl (lv_at hl 3 rfl) ?_
              have hFc := va_free (wc := (mW h1 cI cB cZ ad ar iv31)) hD hS hA [0, 1, 2, 3, 4, 5] rfl
              refine va_calli (va_runV (As := [.int y, .int z]) (rest := []) ⟨hx, hb, hml, hown, hts⟩ (m_xor l D h1 cI cB cZ ad ar iv31 H.size y z (Int32.toNatClampNeg y) (Int32.toNatClampNeg z) nc ic g bv ya.1 za.1 ya.2 za.2 hokc (show iv31 0 = 0 by rw [e31]; exact va_up_self _ _ _) (by omega)) (cwV 2 hts gX1_join_X1_xor rfl rfl rfl (by decide +kernel) ⟨Nat.le_of_ble_eq_true rfl, Nat.le_of_ble_eq_true rfl⟩) (mP_V hK hP hD (va_recv hK hP (ci := 1) (q0 := 0) rfl rfl)) rfl rfl hl.1 rfl (lv_room (Nat.le_of_ble_eq_true rfl)) dX1_join_61 ⟨Nat.zero_le _, Nat.zero_le _⟩) hS (fun q _ h => hFc q h) hFc (fun r61 u t H1 locs ht hvm e61 hB hz1 hk1 hS => ?_)
              obtain ⟨ar61, iv61⟩ := u
              obtain ⟨hP1, hK1, hD1⟩ := hB
              rw [ht] at hP1
              have hK := va_K.moved hvm.symm hK1
              have hP : va_P D vwCl (mW h1 cI cB cZ ad ar61 iv61) H1 := hP1
              have hD : va_D A (mW h1 cI cB cZ ad ar61 iv61) := hD1.weaken (fun k q _ h => hFc q.1 h)
              clear hP1 hK1 hD1 hk1 hz1 hFc ht
              generalize H1 = H at hP hS ⊢
              try dsimp only at e61
              refine lv_istore (lv' := [(4, .int r61), (0, .ref h1), (1, .int x), (2, .int y), (3, .int z)]) hx hb dX1_join_64 hl (by decide) rfl (fun ls hl => ?_)
              refine lv_aload_n hx hb dX1_join_66 rfl (lv_at hl 1 rfl) ?_
              refine va_get (D := D) (ci := 1) (v := .int (iv61 0)) (C := RX1) (T := TX1) (N := 8) hx hb hts inX1 hown hK hP 0 rfl rfl 5 (by decide) (hts _ (mG wm_368)) (fun _ h9 => h9) rfl dX1_join_67 ?_
              refine lv_if_le (tgt := 77) hx hb dX1_join_70 (by decide) (fun c70 => ?_) (fun c70 => ?_)
              · refine lv_iload hx hb dX1_join_77 (lv_at hl 0 rfl) ?_
                exact W.iret (v := r61) hx hb hr (fun t ht hW => ⟨⟨r61, (ar61, iv61), rfl, Or.inl ⟨V, e61.2.1, by rw [hR]; exact ⟨e61.1, e61.2.2⟩⟩, by rw [ht]; exact hP, va_K.moved hW.alike hK, hD⟩, hS.F ht⟩) hS.2.2 dX1_join_79
              · exact absurd (by rw [(show iv61 0 = 0 from e61.2.1)]; decide) c70
            · have bd1 : ct_bd nc 1 (ct_or nc g (Int32.toNatClampNeg y) (Int32.toNatClampNeg z)) := ct_or_b hok.wf ya.2 za.2
              have bl1 : (ct_or nc g (Int32.toNatClampNeg y) (Int32.toNatClampNeg z)).1 < 2 * (ct_or nc g (Int32.toNatClampNeg y) (Int32.toNatClampNeg z)).2.1 := bd1.2.1
              have bg1 : nc ≤ (ct_or nc g (Int32.toNatClampNeg y) (Int32.toNatClampNeg z)).2.1 := bd1.2.2.1
              have bh1 : (ct_or nc g (Int32.toNatClampNeg y) (Int32.toNatClampNeg z)).2.1 ≤ nc + 1 := bd1.2.2.2
              have hR : ct_jn nc g x (Int32.toNatClampNeg y) (Int32.toNatClampNeg z) = ct_or nc g (Int32.toNatClampNeg y) (Int32.toNatClampNeg z) := if_pos c46
              refine lv_aload_n hx hb dX1_join_49 rfl (lv_at hl 0 rfl) ?_
              refine lv_iload_n hx hb dX1_join_50 rfl (lv_at hl 2 rfl) ?_
              refine lv_iload_n hx hb dX1_join_51 rfl (lv_at hl 3 rfl) ?_
              have hFc := va_free (wc := (mW h1 cI cB cZ ad ar iv31)) hD hS hA [0, 1, 2, 3, 4, 5] rfl
              refine va_calli (va_runV (As := [.int y, .int z]) (rest := []) ⟨hx, hb, hml, hown, hts⟩ (m_or l D h1 cI cB cZ ad ar iv31 H.size y z (Int32.toNatClampNeg y) (Int32.toNatClampNeg z) nc ic g bv ya.1 za.1 ya.2 za.2 hokc (show iv31 0 = 0 by rw [e31]; exact va_up_self _ _ _) (by omega)) (cwV 2 hts gX1_join_X1_or rfl rfl rfl (by decide +kernel) ⟨Nat.le_of_ble_eq_true rfl, Nat.le_of_ble_eq_true rfl⟩) (mP_V hK hP hD (va_recv hK hP (ci := 1) (q0 := 0) rfl rfl)) rfl rfl hl.1 rfl (lv_room (Nat.le_of_ble_eq_true rfl)) dX1_join_52 ⟨Nat.zero_le _, Nat.zero_le _⟩) hS (fun q _ h => hFc q h) hFc (fun r52 u t H1 locs ht hvm e52 hB hz1 hk1 hS => ?_)
              obtain ⟨ar52, iv52⟩ := u
              obtain ⟨hP1, hK1, hD1⟩ := hB
              rw [ht] at hP1
              have hK := va_K.moved hvm.symm hK1
              have hP : va_P D vwCl (mW h1 cI cB cZ ad ar52 iv52) H1 := hP1
              have hD : va_D A (mW h1 cI cB cZ ad ar52 iv52) := hD1.weaken (fun k q _ h => hFc q.1 h)
              clear hP1 hK1 hD1 hk1 hz1 hFc ht
              generalize H1 = H at hP hS ⊢
              try dsimp only at e52
              refine lv_goto (tgt := 64) hx hb dX1_join_55 (by decide) ?_
              refine lv_istore (lv' := [(4, .int r52), (0, .ref h1), (1, .int x), (2, .int y), (3, .int z)]) hx hb dX1_join_64 hl (by decide) rfl (fun ls hl => ?_)
              refine lv_aload_n hx hb dX1_join_66 rfl (lv_at hl 1 rfl) ?_
              refine va_get (D := D) (ci := 1) (v := .int (iv52 0)) (C := RX1) (T := TX1) (N := 8) hx hb hts inX1 hown hK hP 0 rfl rfl 5 (by decide) (hts _ (mG wm_368)) (fun _ h9 => h9) rfl dX1_join_67 ?_
              refine lv_if_le (tgt := 77) hx hb dX1_join_70 (by decide) (fun c70 => ?_) (fun c70 => ?_)
              · refine lv_iload hx hb dX1_join_77 (lv_at hl 0 rfl) ?_
                exact W.iret (v := r52) hx hb hr (fun t ht hW => ⟨⟨r52, (ar52, iv52), rfl, Or.inl ⟨V, e52.2.1, by rw [hR]; exact ⟨e52.1, e52.2.2⟩⟩, by rw [ht]; exact hP, va_K.moved hW.alike hK, hD⟩, hS.F ht⟩) hS.2.2 dX1_join_79
              · exact absurd (by rw [(show iv52 0 = 0 from e52.2.1)]; decide) c70
          · exact absurd (by rw [(show iv31 0 = 0 by rw [e31]; exact va_up_self _ _ _)]; decide) c38
set_option maxHeartbeats 4000000 in
set_option maxRecDepth 100000 in
/-- the reference: three -/
theorem m_three (l : Launch) (D : va_G) (h1 : Nat) (cI cB cZ : ClassId) (ad : Nat → Nat) (ar : Nat → Nat → Int32) (iv : Nat → Int32) (sz : Nat) (x : Int32) (y : Int32) (z : Int32) (w : Int32) (nc ic : Nat) (g : Ct) (bv : Nat → Bool) (hok : mm_ok nc ic g bv ar iv) (hmx : nc + 6 ≤ 20000) : Met l yX1_three wsX1_three ({ frames := 5, cells := 0, slots := 0, locals := 124 }) (mP D (mW h1 cI cB cZ ad ar iv) [(cI, .int), (cB, .byte), (cZ, .boolean)] sz [.ref h1, .int x, .int y, .int z, .int w]) (va_Qi (fun (r : Int32) (u : MS) => md_ans ((x = 0 ∨ x = 1 ∨ x = 2) ∧ ct_lit nc y ∧ ct_lit nc z ∧ ct_lit nc w) nc ic g bv (r = nI (ct_th nc g x (Int32.toNatClampNeg y) (Int32.toNatClampNeg z) (Int32.toNatClampNeg w)).1 ∧ mm_ok (ct_th nc g x (Int32.toNatClampNeg y) (Int32.toNatClampNeg z) (Int32.toNatClampNeg w)).2.1 ic (ct_th nc g x (Int32.toNatClampNeg y) (Int32.toNatClampNeg z) (Int32.toNatClampNeg w)).2.2 bv u.1 u.2) u) (mm_at D cI cB cZ ad (va_A (mW h1 cI cB cZ ad ar iv) sz) h1) (va_A (mW h1 cI cB cZ ad ar iv) sz)) 0 0 (va_A (mW h1 cI cB cZ ad ar iv) sz) := by
  refine Met.ofW (cc := cX1_three) (maxL := 8) (ret := (some .int)) (by decide) rfl ?_
  intro p e s m args below meth c s₁ B hml hv
  obtain ⟨rfl, hsz, hP, hK, hD0⟩ := hv
  have hx := B.exec
  have hb := B.bytes
  have hr := B.returns
  have hts := atoms_spec (ws := wsX1_three) B.pre
  have hown : s.vm.findClass RX1 = some m.cls := findClass_of_methodNamed B.named
  have hlocks := B.notSynchronized
  have hl := lv_entry ([.ref h1, .int x, .int y, .int z, .int w]) (n := 8) (Nat.le_of_ble_eq_true rfl)
  rw [lg_entry_eq]
  generalize (lg_sl ([.ref h1, .int x, .int y, .int z, .int w]) ++ List.replicate (8 - (lg_sl ([.ref h1, .int x, .int y, .int z, .int w])).length) Slot.unset).toArray = ls at hl ⊢
  have hl : lv_has ls 8 [(0, .ref h1), (1, .int x), (2, .int y), (3, .int z), (4, .int w)] := hl
  subst hsz
  have hD := hD0.self (sz := s.heap.size)
  generalize hAe : va_A (mW h1 cI cB cZ ad ar iv) s.heap.size = A at hD ⊢
  have hA : ∀ q : Nat, s.heap.size ≤ q → A q := fun q h => by rw [← hAe]; exact Or.inr h
  have hS : va_S A s.heap s.heap [] := va_S.rf
  refine lv_aload_n hx hb dX1_three_0 rfl (lv_at hl 0 rfl) ?_
  refine lv_iload_n hx hb dX1_three_1 rfl (lv_at hl 1 rfl) ?_
  refine lv_if_lt (tgt := 39) hx hb dX1_three_2 (by decide) (fun c2 => ?_) (fun c2 => ?_)
  · have nV : ¬ ((x = 0 ∨ x = 1 ∨ x = 2) ∧ ct_lit nc y ∧ ct_lit nc z ∧ ct_lit nc w) := fun z => (md_k3n z.1).1 c2
    refine lv_iconst (v := 1) hx hb dX1_three_39 (by decide) ?_
    refine va_put (D := D) (ci := 1) (v := .int 1) (ty := .int) (C := RX1) (T := TX1) (N := 8) hx hb hts inX1 tyX1 tyX1_ok nmX1 hown hK hP hD hS 0 rfl rfl 5 (by decide) (hts _ (mG wm_368)) (fun _ h9 => h9) rfl (by decide +kernel) rfl rfl (Nat.le_of_ble_eq_true rfl) dX1_three_40 (fun H locs hP hD hS => ?_)
    obtain ⟨iv40, e40⟩ : ∃ zz : Nat → Int32, zz = va_up iv 0 1 := ⟨_, rfl⟩
    have hP : va_P D vwCl (mW h1 cI cB cZ ad ar iv40) H := by rw [e40]; exact hP
    have hD : va_D A (mW h1 cI cB cZ ad ar iv40) := by rw [e40]; exact hD
    have hokc : mm_ok nc ic g bv ar iv40 := mm_ok_iv hok (by rw [e40, va_up_ne _ _ (by decide)]) (by rw [e40, va_up_ne _ _ (by decide)])
    refine lv_aload_n hx hb dX1_three_43 rfl (lv_at hl 0 rfl) ?_
    refine va_get (D := D) (ci := 1) (v := .int (iv40 0)) (C := RX1) (T := TX1) (N := 8) hx hb hts inX1 hown hK hP 0 rfl rfl 5 (by decide) (hts _ (mG wm_368)) (fun _ h9 => h9) rfl dX1_three_44 ?_
    refine lv_if_le (tgt := 52) hx hb dX1_three_47 (by decide) (fun c47 => ?_) (fun c47 => ?_)
    · exact absurd c47 (by rw [(show iv40 0 = 1 by rw [e40]; exact va_up_self _ _ _)]; decide)
    · refine lv_iconst (v := 0) hx hb dX1_three_50 (by decide) ?_
      exact W.iret (v := 0) hx hb hr (fun t ht hW => ⟨⟨0, (ar, iv40), rfl, Or.inr ⟨nV, (show iv40 0 = 1 by rw [e40]; exact va_up_self _ _ _), hokc⟩, by rw [ht]; exact hP, va_K.moved hW.alike hK, hD⟩, hS.F ht⟩) hS.2.2 dX1_three_51
  · refine lv_iload_n hx hb dX1_three_5 rfl (lv_at hl 1 rfl) ?_
    refine lv_iconst (v := 2) hx hb dX1_three_6 (by decide) ?_
    refine lv_icmp_gt (tgt := 39) hx hb dX1_three_7 (by decide) (fun c7 => ?_) (fun c7 => ?_)
    · have nV : ¬ ((x = 0 ∨ x = 1 ∨ x = 2) ∧ ct_lit nc y ∧ ct_lit nc z ∧ ct_lit nc w) := fun z => (md_k3n z.1).2 c7
      refine lv_iconst (v := 1) hx hb dX1_three_39 (by decide) ?_
      refine va_put (D := D) (ci := 1) (v := .int 1) (ty := .int) (C := RX1) (T := TX1) (N := 8) hx hb hts inX1 tyX1 tyX1_ok nmX1 hown hK hP hD hS 0 rfl rfl 5 (by decide) (hts _ (mG wm_368)) (fun _ h9 => h9) rfl (by decide +kernel) rfl rfl (Nat.le_of_ble_eq_true rfl) dX1_three_40 (fun H locs hP hD hS => ?_)
      obtain ⟨iv40, e40⟩ : ∃ zz : Nat → Int32, zz = va_up iv 0 1 := ⟨_, rfl⟩
      have hP : va_P D vwCl (mW h1 cI cB cZ ad ar iv40) H := by rw [e40]; exact hP
      have hD : va_D A (mW h1 cI cB cZ ad ar iv40) := by rw [e40]; exact hD
      have hokc : mm_ok nc ic g bv ar iv40 := mm_ok_iv hok (by rw [e40, va_up_ne _ _ (by decide)]) (by rw [e40, va_up_ne _ _ (by decide)])
      refine lv_aload_n hx hb dX1_three_43 rfl (lv_at hl 0 rfl) ?_
      refine va_get (D := D) (ci := 1) (v := .int (iv40 0)) (C := RX1) (T := TX1) (N := 8) hx hb hts inX1 hown hK hP 0 rfl rfl 5 (by decide) (hts _ (mG wm_368)) (fun _ h9 => h9) rfl dX1_three_44 ?_
      refine lv_if_le (tgt := 52) hx hb dX1_three_47 (by decide) (fun c47 => ?_) (fun c47 => ?_)
      · exact absurd c47 (by rw [(show iv40 0 = 1 by rw [e40]; exact va_up_self _ _ _)]; decide)
      · refine lv_iconst (v := 0) hx hb dX1_three_50 (by decide) ?_
        exact W.iret (v := 0) hx hb hr (fun t ht hW => ⟨⟨0, (ar, iv40), rfl, Or.inr ⟨nV, (show iv40 0 = 1 by rw [e40]; exact va_up_self _ _ _), hokc⟩, by rw [ht]; exact hP, va_K.moved hW.alike hK, hD⟩, hS.F ht⟩) hS.2.2 dX1_three_51
    · refine lv_aload_n hx hb dX1_three_10 rfl (lv_at hl 0 rfl) ?_
      refine lv_iload_n hx hb dX1_three_11 rfl (lv_at hl 2 rfl) ?_
      refine vp_callSi (W.runV (As := [.int y]) (rest := [.ref h1]) ⟨hx, hb, hml, hown, hts⟩ (m_isLiteral l D h1 cI cB cZ ad ar iv y) (cwV 1 hts gX1_three_X1_isLiteral rfl rfl rfl (by decide +kernel) ⟨Nat.le_of_ble_eq_true rfl, Nat.le_of_ble_eq_true rfl⟩) (rP_V hK hP (va_recv hK hP (ci := 1) (q0 := 0) rfl rfl)) rfl rfl hl.1 rfl (lv_room (Nat.le_of_ble_eq_true rfl)) dX1_three_12 ⟨Nat.zero_le _, Nat.zero_le _⟩) (fun r12 e12 => ?_)
      refine lv_if_eq (tgt := 39) hx hb dX1_three_15 (by decide) (fun c15 => ?_) (fun c15 => ?_)
      · have nV : ¬ ((x = 0 ∨ x = 1 ∨ x = 2) ∧ ct_lit nc y ∧ ct_lit nc z ∧ ct_lit nc w) := fun z => (mm_lit hok e12).1 c15 z.2.1
        refine lv_iconst (v := 1) hx hb dX1_three_39 (by decide) ?_
        refine va_put (D := D) (ci := 1) (v := .int 1) (ty := .int) (C := RX1) (T := TX1) (N := 8) hx hb hts inX1 tyX1 tyX1_ok nmX1 hown hK hP hD hS 0 rfl rfl 5 (by decide) (hts _ (mG wm_368)) (fun _ h9 => h9) rfl (by decide +kernel) rfl rfl (Nat.le_of_ble_eq_true rfl) dX1_three_40 (fun H locs hP hD hS => ?_)
        obtain ⟨iv40, e40⟩ : ∃ zz : Nat → Int32, zz = va_up iv 0 1 := ⟨_, rfl⟩
        have hP : va_P D vwCl (mW h1 cI cB cZ ad ar iv40) H := by rw [e40]; exact hP
        have hD : va_D A (mW h1 cI cB cZ ad ar iv40) := by rw [e40]; exact hD
        have hokc : mm_ok nc ic g bv ar iv40 := mm_ok_iv hok (by rw [e40, va_up_ne _ _ (by decide)]) (by rw [e40, va_up_ne _ _ (by decide)])
        refine lv_aload_n hx hb dX1_three_43 rfl (lv_at hl 0 rfl) ?_
        refine va_get (D := D) (ci := 1) (v := .int (iv40 0)) (C := RX1) (T := TX1) (N := 8) hx hb hts inX1 hown hK hP 0 rfl rfl 5 (by decide) (hts _ (mG wm_368)) (fun _ h9 => h9) rfl dX1_three_44 ?_
        refine lv_if_le (tgt := 52) hx hb dX1_three_47 (by decide) (fun c47 => ?_) (fun c47 => ?_)
        · exact absurd c47 (by rw [(show iv40 0 = 1 by rw [e40]; exact va_up_self _ _ _)]; decide)
        · refine lv_iconst (v := 0) hx hb dX1_three_50 (by decide) ?_
          exact W.iret (v := 0) hx hb hr (fun t ht hW => ⟨⟨0, (ar, iv40), rfl, Or.inr ⟨nV, (show iv40 0 = 1 by rw [e40]; exact va_up_self _ _ _), hokc⟩, by rw [ht]; exact hP, va_K.moved hW.alike hK, hD⟩, hS.F ht⟩) hS.2.2 dX1_three_51
      · refine lv_aload_n hx hb dX1_three_18 rfl (lv_at hl 0 rfl) ?_
        refine lv_iload_n hx hb dX1_three_19 rfl (lv_at hl 3 rfl) ?_
        refine vp_callSi (W.runV (As := [.int z]) (rest := [.ref h1]) ⟨hx, hb, hml, hown, hts⟩ (m_isLiteral l D h1 cI cB cZ ad ar iv z) (cwV 1 hts gX1_three_X1_isLiteral rfl rfl rfl (by decide +kernel) ⟨Nat.le_of_ble_eq_true rfl, Nat.le_of_ble_eq_true rfl⟩) (rP_V hK hP (va_recv hK hP (ci := 1) (q0 := 0) rfl rfl)) rfl rfl hl.1 rfl (lv_room (Nat.le_of_ble_eq_true rfl)) dX1_three_20 ⟨Nat.zero_le _, Nat.zero_le _⟩) (fun r20 e20 => ?_)
        refine lv_if_eq (tgt := 39) hx hb dX1_three_23 (by decide) (fun c23 => ?_) (fun c23 => ?_)
        · have nV : ¬ ((x = 0 ∨ x = 1 ∨ x = 2) ∧ ct_lit nc y ∧ ct_lit nc z ∧ ct_lit nc w) := fun z => (mm_lit hok e20).1 c23 z.2.2.1
          refine lv_iconst (v := 1) hx hb dX1_three_39 (by decide) ?_
          refine va_put (D := D) (ci := 1) (v := .int 1) (ty := .int) (C := RX1) (T := TX1) (N := 8) hx hb hts inX1 tyX1 tyX1_ok nmX1 hown hK hP hD hS 0 rfl rfl 5 (by decide) (hts _ (mG wm_368)) (fun _ h9 => h9) rfl (by decide +kernel) rfl rfl (Nat.le_of_ble_eq_true rfl) dX1_three_40 (fun H locs hP hD hS => ?_)
          obtain ⟨iv40, e40⟩ : ∃ zz : Nat → Int32, zz = va_up iv 0 1 := ⟨_, rfl⟩
          have hP : va_P D vwCl (mW h1 cI cB cZ ad ar iv40) H := by rw [e40]; exact hP
          have hD : va_D A (mW h1 cI cB cZ ad ar iv40) := by rw [e40]; exact hD
          have hokc : mm_ok nc ic g bv ar iv40 := mm_ok_iv hok (by rw [e40, va_up_ne _ _ (by decide)]) (by rw [e40, va_up_ne _ _ (by decide)])
          refine lv_aload_n hx hb dX1_three_43 rfl (lv_at hl 0 rfl) ?_
          refine va_get (D := D) (ci := 1) (v := .int (iv40 0)) (C := RX1) (T := TX1) (N := 8) hx hb hts inX1 hown hK hP 0 rfl rfl 5 (by decide) (hts _ (mG wm_368)) (fun _ h9 => h9) rfl dX1_three_44 ?_
          refine lv_if_le (tgt := 52) hx hb dX1_three_47 (by decide) (fun c47 => ?_) (fun c47 => ?_)
          · exact absurd c47 (by rw [(show iv40 0 = 1 by rw [e40]; exact va_up_self _ _ _)]; decide)
          · refine lv_iconst (v := 0) hx hb dX1_three_50 (by decide) ?_
            exact W.iret (v := 0) hx hb hr (fun t ht hW => ⟨⟨0, (ar, iv40), rfl, Or.inr ⟨nV, (show iv40 0 = 1 by rw [e40]; exact va_up_self _ _ _), hokc⟩, by rw [ht]; exact hP, va_K.moved hW.alike hK, hD⟩, hS.F ht⟩) hS.2.2 dX1_three_51
        · refine lv_aload_n hx hb dX1_three_26 rfl (lv_at hl 0 rfl) ?_
          refine lv_iload hx hb dX1_three_27 (lv_at hl 4 rfl) ?_
          refine vp_callSi (W.runV (As := [.int w]) (rest := [.ref h1]) ⟨hx, hb, hml, hown, hts⟩ (m_isLiteral l D h1 cI cB cZ ad ar iv w) (cwV 1 hts gX1_three_X1_isLiteral rfl rfl rfl (by decide +kernel) ⟨Nat.le_of_ble_eq_true rfl, Nat.le_of_ble_eq_true rfl⟩) (rP_V hK hP (va_recv hK hP (ci := 1) (q0 := 0) rfl rfl)) rfl rfl hl.1 rfl (lv_room (Nat.le_of_ble_eq_true rfl)) dX1_three_29 ⟨Nat.zero_le _, Nat.zero_le _⟩) (fun r29 e29 => ?_)
          refine lv_if_eq (tgt := 39) hx hb dX1_three_32 (by decide) (fun c32 => ?_) (fun c32 => ?_)
          · have nV : ¬ ((x = 0 ∨ x = 1 ∨ x = 2) ∧ ct_lit nc y ∧ ct_lit nc z ∧ ct_lit nc w) := fun z => (mm_lit hok e29).1 c32 z.2.2.2
            refine lv_iconst (v := 1) hx hb dX1_three_39 (by decide) ?_
            refine va_put (D := D) (ci := 1) (v := .int 1) (ty := .int) (C := RX1) (T := TX1) (N := 8) hx hb hts inX1 tyX1 tyX1_ok nmX1 hown hK hP hD hS 0 rfl rfl 5 (by decide) (hts _ (mG wm_368)) (fun _ h9 => h9) rfl (by decide +kernel) rfl rfl (Nat.le_of_ble_eq_true rfl) dX1_three_40 (fun H locs hP hD hS => ?_)
            obtain ⟨iv40, e40⟩ : ∃ zz : Nat → Int32, zz = va_up iv 0 1 := ⟨_, rfl⟩
            have hP : va_P D vwCl (mW h1 cI cB cZ ad ar iv40) H := by rw [e40]; exact hP
            have hD : va_D A (mW h1 cI cB cZ ad ar iv40) := by rw [e40]; exact hD
            have hokc : mm_ok nc ic g bv ar iv40 := mm_ok_iv hok (by rw [e40, va_up_ne _ _ (by decide)]) (by rw [e40, va_up_ne _ _ (by decide)])
            refine lv_aload_n hx hb dX1_three_43 rfl (lv_at hl 0 rfl) ?_
            refine va_get (D := D) (ci := 1) (v := .int (iv40 0)) (C := RX1) (T := TX1) (N := 8) hx hb hts inX1 hown hK hP 0 rfl rfl 5 (by decide) (hts _ (mG wm_368)) (fun _ h9 => h9) rfl dX1_three_44 ?_
            refine lv_if_le (tgt := 52) hx hb dX1_three_47 (by decide) (fun c47 => ?_) (fun c47 => ?_)
            · exact absurd c47 (by rw [(show iv40 0 = 1 by rw [e40]; exact va_up_self _ _ _)]; decide)
            · refine lv_iconst (v := 0) hx hb dX1_three_50 (by decide) ?_
              exact W.iret (v := 0) hx hb hr (fun t ht hW => ⟨⟨0, (ar, iv40), rfl, Or.inr ⟨nV, (show iv40 0 = 1 by rw [e40]; exact va_up_self _ _ _), hokc⟩, by rw [ht]; exact hP, va_K.moved hW.alike hK, hD⟩, hS.F ht⟩) hS.2.2 dX1_three_51
          · have V : (x = 0 ∨ x = 1 ∨ x = 2) ∧ ct_lit nc y ∧ ct_lit nc z ∧ ct_lit nc w := ⟨md_k3 c2 c7, (mm_lit hok e12).2 c15, (mm_lit hok e20).2 c23, (mm_lit hok e29).2 c32⟩
            refine lv_iconst (v := 0) hx hb dX1_three_35 (by decide) ?_
            refine lv_goto (tgt := 40) hx hb dX1_three_36 (by decide) ?_
            refine va_put (D := D) (ci := 1) (v := .int 0) (ty := .int) (C := RX1) (T := TX1) (N := 8) hx hb hts inX1 tyX1 tyX1_ok nmX1 hown hK hP hD hS 0 rfl rfl 5 (by decide) (hts _ (mG wm_368)) (fun _ h9 => h9) rfl (by decide +kernel) rfl rfl (Nat.le_of_ble_eq_true rfl) dX1_three_40 (fun H locs hP hD hS => ?_)
            obtain ⟨iv40, e40⟩ : ∃ zz : Nat → Int32, zz = va_up iv 0 0 := ⟨_, rfl⟩
            have hP : va_P D vwCl (mW h1 cI cB cZ ad ar iv40) H := by rw [e40]; exact hP
            have hD : va_D A (mW h1 cI cB cZ ad ar iv40) := by rw [e40]; exact hD
            have hokc : mm_ok nc ic g bv ar iv40 := mm_ok_iv hok (by rw [e40, va_up_ne _ _ (by decide)]) (by rw [e40, va_up_ne _ _ (by decide)])
            refine lv_aload_n hx hb dX1_three_43 rfl (lv_at hl 0 rfl) ?_
            refine va_get (D := D) (ci := 1) (v := .int (iv40 0)) (C := RX1) (T := TX1) (N := 8) hx hb hts inX1 hown hK hP 0 rfl rfl 5 (by decide) (hts _ (mG wm_368)) (fun _ h9 => h9) rfl dX1_three_44 ?_
            refine lv_if_le (tgt := 52) hx hb dX1_three_47 (by decide) (fun c47 => ?_) (fun c47 => ?_)
            · have ya := ct_lit_n V.2.1 (by omega)
              have za := ct_lit_n V.2.2.1 (by omega)
              have wa := ct_lit_n V.2.2.2 (by omega)
              refine lv_iconst (v := 0) hx hb dX1_three_52 (by decide) ?_
              refine lv_istore (lv' := [(5, .int 0), (0, .ref h1), (1, .int x), (2, .int y), (3, .int z), (4, .int w)]) hx hb dX1_three_53 hl (by decide) rfl (fun ls hl => ?_)
              refine lv_iload_n hx hb dX1_three_55 rfl (lv_at hl 2 rfl) ?_
              refine lv_if_ne (tgt := 91) hx hb dX1_three_56 (by decide) (fun c56 => ?_) (fun c56 => ?_)
              · refine lv_iload_n hx hb dX1_three_91 rfl (lv_at hl 2 rfl) ?_
                refine lv_iconst (v := 1) hx hb dX1_three_92 (by decide) ?_
                refine lv_icmp_ne (tgt := 113) hx hb dX1_three_93 (by decide) (fun c93 => ?_) (fun c93 => ?_)
                · have bd1 : ct_bd nc 1 (ct_an nc g (Int32.toNatClampNeg y) (Int32.toNatClampNeg z)) := ct_an_b hok.wf ya.2 za.2
                  have bl1 : (ct_an nc g (Int32.toNatClampNeg y) (Int32.toNatClampNeg z)).1 < 2 * (ct_an nc g (Int32.toNatClampNeg y) (Int32.toNatClampNeg z)).2.1 := bd1.2.1
                  have bg1 : nc ≤ (ct_an nc g (Int32.toNatClampNeg y) (Int32.toNatClampNeg z)).2.1 := bd1.2.2.1
                  have bh1 : (ct_an nc g (Int32.toNatClampNeg y) (Int32.toNatClampNeg z)).2.1 ≤ nc + 1 := bd1.2.2.2
                  have bd2 : ct_bd (ct_an nc g (Int32.toNatClampNeg y) (Int32.toNatClampNeg z)).2.1 3 (ct_xo (ct_an nc g (Int32.toNatClampNeg y) (Int32.toNatClampNeg z)).2.1 (ct_an nc g (Int32.toNatClampNeg y) (Int32.toNatClampNeg z)).2.2 (Int32.toNatClampNeg y) (Int32.toNatClampNeg z)) := ct_xo_b bd1.1 (by omega) (by omega)
                  have bl2 : (ct_xo (ct_an nc g (Int32.toNatClampNeg y) (Int32.toNatClampNeg z)).2.1 (ct_an nc g (Int32.toNatClampNeg y) (Int32.toNatClampNeg z)).2.2 (Int32.toNatClampNeg y) (Int32.toNatClampNeg z)).1 < 2 * (ct_xo (ct_an nc g (Int32.toNatClampNeg y) (Int32.toNatClampNeg z)).2.1 (ct_an nc g (Int32.toNatClampNeg y) (Int32.toNatClampNeg z)).2.2 (Int32.toNatClampNeg y) (Int32.toNatClampNeg z)).2.1 := bd2.2.1
                  have bg2 : (ct_an nc g (Int32.toNatClampNeg y) (Int32.toNatClampNeg z)).2.1 ≤ (ct_xo (ct_an nc g (Int32.toNatClampNeg y) (Int32.toNatClampNeg z)).2.1 (ct_an nc g (Int32.toNatClampNeg y) (Int32.toNatClampNeg z)).2.2 (Int32.toNatClampNeg y) (Int32.toNatClampNeg z)).2.1 := bd2.2.2.1
                  have bh2 : (ct_xo (ct_an nc g (Int32.toNatClampNeg y) (Int32.toNatClampNeg z)).2.1 (ct_an nc g (Int32.toNatClampNeg y) (Int32.toNatClampNeg z)).2.2 (Int32.toNatClampNeg y) (Int32.toNatClampNeg z)).2.1 ≤ (ct_an nc g (Int32.toNatClampNeg y) (Int32.toNatClampNeg z)).2.1 + 3 := bd2.2.2.2
                  have bd3 : ct_bd (ct_xo (ct_an nc g (Int32.toNatClampNeg y) (Int32.toNatClampNeg z)).2.1 (ct_an nc g (Int32.toNatClampNeg y) (Int32.toNatClampNeg z)).2.2 (Int32.toNatClampNeg y) (Int32.toNatClampNeg z)).2.1 1 (ct_an (ct_xo (ct_an nc g (Int32.toNatClampNeg y) (Int32.toNatClampNeg z)).2.1 (ct_an nc g (Int32.toNatClampNeg y) (Int32.toNatClampNeg z)).2.2 (Int32.toNatClampNeg y) (Int32.toNatClampNeg z)).2.1 (ct_xo (ct_an nc g (Int32.toNatClampNeg y) (Int32.toNatClampNeg z)).2.1 (ct_an nc g (Int32.toNatClampNeg y) (Int32.toNatClampNeg z)).2.2 (Int32.toNatClampNeg y) (Int32.toNatClampNeg z)).2.2 (Int32.toNatClampNeg w) (ct_xo (ct_an nc g (Int32.toNatClampNeg y) (Int32.toNatClampNeg z)).2.1 (ct_an nc g (Int32.toNatClampNeg y) (Int32.toNatClampNeg z)).2.2 (Int32.toNatClampNeg y) (Int32.toNatClampNeg z)).1) := ct_an_b bd2.1 (by omega) (by omega)
                  have bl3 : (ct_an (ct_xo (ct_an nc g (Int32.toNatClampNeg y) (Int32.toNatClampNeg z)).2.1 (ct_an nc g (Int32.toNatClampNeg y) (Int32.toNatClampNeg z)).2.2 (Int32.toNatClampNeg y) (Int32.toNatClampNeg z)).2.1 (ct_xo (ct_an nc g (Int32.toNatClampNeg y) (Int32.toNatClampNeg z)).2.1 (ct_an nc g (Int32.toNatClampNeg y) (Int32.toNatClampNeg z)).2.2 (Int32.toNatClampNeg y) (Int32.toNatClampNeg z)).2.2 (Int32.toNatClampNeg w) (ct_xo (ct_an nc g (Int32.toNatClampNeg y) (Int32.toNatClampNeg z)).2.1 (ct_an nc g (Int32.toNatClampNeg y) (Int32.toNatClampNeg z)).2.2 (Int32.toNatClampNeg y) (Int32.toNatClampNeg z)).1).1 < 2 * (ct_an (ct_xo (ct_an nc g (Int32.toNatClampNeg y) (Int32.toNatClampNeg z)).2.1 (ct_an nc g (Int32.toNatClampNeg y) (Int32.toNatClampNeg z)).2.2 (Int32.toNatClampNeg y) (Int32.toNatClampNeg z)).2.1 (ct_xo (ct_an nc g (Int32.toNatClampNeg y) (Int32.toNatClampNeg z)).2.1 (ct_an nc g (Int32.toNatClampNeg y) (Int32.toNatClampNeg z)).2.2 (Int32.toNatClampNeg y) (Int32.toNatClampNeg z)).2.2 (Int32.toNatClampNeg w) (ct_xo (ct_an nc g (Int32.toNatClampNeg y) (Int32.toNatClampNeg z)).2.1 (ct_an nc g (Int32.toNatClampNeg y) (Int32.toNatClampNeg z)).2.2 (Int32.toNatClampNeg y) (Int32.toNatClampNeg z)).1).2.1 := bd3.2.1
                  have bg3 : (ct_xo (ct_an nc g (Int32.toNatClampNeg y) (Int32.toNatClampNeg z)).2.1 (ct_an nc g (Int32.toNatClampNeg y) (Int32.toNatClampNeg z)).2.2 (Int32.toNatClampNeg y) (Int32.toNatClampNeg z)).2.1 ≤ (ct_an (ct_xo (ct_an nc g (Int32.toNatClampNeg y) (Int32.toNatClampNeg z)).2.1 (ct_an nc g (Int32.toNatClampNeg y) (Int32.toNatClampNeg z)).2.2 (Int32.toNatClampNeg y) (Int32.toNatClampNeg z)).2.1 (ct_xo (ct_an nc g (Int32.toNatClampNeg y) (Int32.toNatClampNeg z)).2.1 (ct_an nc g (Int32.toNatClampNeg y) (Int32.toNatClampNeg z)).2.2 (Int32.toNatClampNeg y) (Int32.toNatClampNeg z)).2.2 (Int32.toNatClampNeg w) (ct_xo (ct_an nc g (Int32.toNatClampNeg y) (Int32.toNatClampNeg z)).2.1 (ct_an nc g (Int32.toNatClampNeg y) (Int32.toNatClampNeg z)).2.2 (Int32.toNatClampNeg y) (Int32.toNatClampNeg z)).1).2.1 := bd3.2.2.1
                  have bh3 : (ct_an (ct_xo (ct_an nc g (Int32.toNatClampNeg y) (Int32.toNatClampNeg z)).2.1 (ct_an nc g (Int32.toNatClampNeg y) (Int32.toNatClampNeg z)).2.2 (Int32.toNatClampNeg y) (Int32.toNatClampNeg z)).2.1 (ct_xo (ct_an nc g (Int32.toNatClampNeg y) (Int32.toNatClampNeg z)).2.1 (ct_an nc g (Int32.toNatClampNeg y) (Int32.toNatClampNeg z)).2.2 (Int32.toNatClampNeg y) (Int32.toNatClampNeg z)).2.2 (Int32.toNatClampNeg w) (ct_xo (ct_an nc g (Int32.toNatClampNeg y) (Int32.toNatClampNeg z)).2.1 (ct_an nc g (Int32.toNatClampNeg y) (Int32.toNatClampNeg z)).2.2 (Int32.toNatClampNeg y) (Int32.toNatClampNeg z)).1).2.1 ≤ (ct_xo (ct_an nc g (Int32.toNatClampNeg y) (Int32.toNatClampNeg z)).2.1 (ct_an nc g (Int32.toNatClampNeg y) (Int32.toNatClampNeg z)).2.2 (Int32.toNatClampNeg y) (Int32.toNatClampNeg z)).2.1 + 1 := bd3.2.2.2
                  have bd4 : ct_bd (ct_an (ct_xo (ct_an nc g (Int32.toNatClampNeg y) (Int32.toNatClampNeg z)).2.1 (ct_an nc g (Int32.toNatClampNeg y) (Int32.toNatClampNeg z)).2.2 (Int32.toNatClampNeg y) (Int32.toNatClampNeg z)).2.1 (ct_xo (ct_an nc g (Int32.toNatClampNeg y) (Int32.toNatClampNeg z)).2.1 (ct_an nc g (Int32.toNatClampNeg y) (Int32.toNatClampNeg z)).2.2 (Int32.toNatClampNeg y) (Int32.toNatClampNeg z)).2.2 (Int32.toNatClampNeg w) (ct_xo (ct_an nc g (Int32.toNatClampNeg y) (Int32.toNatClampNeg z)).2.1 (ct_an nc g (Int32.toNatClampNeg y) (Int32.toNatClampNeg z)).2.2 (Int32.toNatClampNeg y) (Int32.toNatClampNeg z)).1).2.1 1 (ct_or (ct_an (ct_xo (ct_an nc g (Int32.toNatClampNeg y) (Int32.toNatClampNeg z)).2.1 (ct_an nc g (Int32.toNatClampNeg y) (Int32.toNatClampNeg z)).2.2 (Int32.toNatClampNeg y) (Int32.toNatClampNeg z)).2.1 (ct_xo (ct_an nc g (Int32.toNatClampNeg y) (Int32.toNatClampNeg z)).2.1 (ct_an nc g (Int32.toNatClampNeg y) (Int32.toNatClampNeg z)).2.2 (Int32.toNatClampNeg y) (Int32.toNatClampNeg z)).2.2 (Int32.toNatClampNeg w) (ct_xo (ct_an nc g (Int32.toNatClampNeg y) (Int32.toNatClampNeg z)).2.1 (ct_an nc g (Int32.toNatClampNeg y) (Int32.toNatClampNeg z)).2.2 (Int32.toNatClampNeg y) (Int32.toNatClampNeg z)).1).2.1 (ct_an (ct_xo (ct_an nc g (Int32.toNatClampNeg y) (Int32.toNatClampNeg z)).2.1 (ct_an nc g (Int32.toNatClampNeg y) (Int32.toNatClampNeg z)).2.2 (Int32.toNatClampNeg y) (Int32.toNatClampNeg z)).2.1 (ct_xo (ct_an nc g (Int32.toNatClampNeg y) (Int32.toNatClampNeg z)).2.1 (ct_an nc g (Int32.toNatClampNeg y) (Int32.toNatClampNeg z)).2.2 (Int32.toNatClampNeg y) (Int32.toNatClampNeg z)).2.2 (Int32.toNatClampNeg w) (ct_xo (ct_an nc g (Int32.toNatClampNeg y) (Int32.toNatClampNeg z)).2.1 (ct_an nc g (Int32.toNatClampNeg y) (Int32.toNatClampNeg z)).2.2 (Int32.toNatClampNeg y) (Int32.toNatClampNeg z)).1).2.2 (ct_an nc g (Int32.toNatClampNeg y) (Int32.toNatClampNeg z)).1 (ct_an (ct_xo (ct_an nc g (Int32.toNatClampNeg y) (Int32.toNatClampNeg z)).2.1 (ct_an nc g (Int32.toNatClampNeg y) (Int32.toNatClampNeg z)).2.2 (Int32.toNatClampNeg y) (Int32.toNatClampNeg z)).2.1 (ct_xo (ct_an nc g (Int32.toNatClampNeg y) (Int32.toNatClampNeg z)).2.1 (ct_an nc g (Int32.toNatClampNeg y) (Int32.toNatClampNeg z)).2.2 (Int32.toNatClampNeg y) (Int32.toNatClampNeg z)).2.2 (Int32.toNatClampNeg w) (ct_xo (ct_an nc g (Int32.toNatClampNeg y) (Int32.toNatClampNeg z)).2.1 (ct_an nc g (Int32.toNatClampNeg y) (Int32.toNatClampNeg z)).2.2 (Int32.toNatClampNeg y) (Int32.toNatClampNeg z)).1).1) := ct_or_b bd3.1 (by omega) (by omega)
                  have bl4 : (ct_or (ct_an (ct_xo (ct_an nc g (Int32.toNatClampNeg y) (Int32.toNatClampNeg z)).2.1 (ct_an nc g (Int32.toNatClampNeg y) (Int32.toNatClampNeg z)).2.2 (Int32.toNatClampNeg y) (Int32.toNatClampNeg z)).2.1 (ct_xo (ct_an nc g (Int32.toNatClampNeg y) (Int32.toNatClampNeg z)).2.1 (ct_an nc g (Int32.toNatClampNeg y) (Int32.toNatClampNeg z)).2.2 (Int32.toNatClampNeg y) (Int32.toNatClampNeg z)).2.2 (Int32.toNatClampNeg w) (ct_xo (ct_an nc g (Int32.toNatClampNeg y) (Int32.toNatClampNeg z)).2.1 (ct_an nc g (Int32.toNatClampNeg y) (Int32.toNatClampNeg z)).2.2 (Int32.toNatClampNeg y) (Int32.toNatClampNeg z)).1).2.1 (ct_an (ct_xo (ct_an nc g (Int32.toNatClampNeg y) (Int32.toNatClampNeg z)).2.1 (ct_an nc g (Int32.toNatClampNeg y) (Int32.toNatClampNeg z)).2.2 (Int32.toNatClampNeg y) (Int32.toNatClampNeg z)).2.1 (ct_xo (ct_an nc g (Int32.toNatClampNeg y) (Int32.toNatClampNeg z)).2.1 (ct_an nc g (Int32.toNatClampNeg y) (Int32.toNatClampNeg z)).2.2 (Int32.toNatClampNeg y) (Int32.toNatClampNeg z)).2.2 (Int32.toNatClampNeg w) (ct_xo (ct_an nc g (Int32.toNatClampNeg y) (Int32.toNatClampNeg z)).2.1 (ct_an nc g (Int32.toNatClampNeg y) (Int32.toNatClampNeg z)).2.2 (Int32.toNatClampNeg y) (Int32.toNatClampNeg z)).1).2.2 (ct_an nc g (Int32.toNatClampNeg y) (Int32.toNatClampNeg z)).1 (ct_an (ct_xo (ct_an nc g (Int32.toNatClampNeg y) (Int32.toNatClampNeg z)).2.1 (ct_an nc g (Int32.toNatClampNeg y) (Int32.toNatClampNeg z)).2.2 (Int32.toNatClampNeg y) (Int32.toNatClampNeg z)).2.1 (ct_xo (ct_an nc g (Int32.toNatClampNeg y) (Int32.toNatClampNeg z)).2.1 (ct_an nc g (Int32.toNatClampNeg y) (Int32.toNatClampNeg z)).2.2 (Int32.toNatClampNeg y) (Int32.toNatClampNeg z)).2.2 (Int32.toNatClampNeg w) (ct_xo (ct_an nc g (Int32.toNatClampNeg y) (Int32.toNatClampNeg z)).2.1 (ct_an nc g (Int32.toNatClampNeg y) (Int32.toNatClampNeg z)).2.2 (Int32.toNatClampNeg y) (Int32.toNatClampNeg z)).1).1).1 < 2 * (ct_or (ct_an (ct_xo (ct_an nc g (Int32.toNatClampNeg y) (Int32.toNatClampNeg z)).2.1 (ct_an nc g (Int32.toNatClampNeg y) (Int32.toNatClampNeg z)).2.2 (Int32.toNatClampNeg y) (Int32.toNatClampNeg z)).2.1 (ct_xo (ct_an nc g (Int32.toNatClampNeg y) (Int32.toNatClampNeg z)).2.1 (ct_an nc g (Int32.toNatClampNeg y) (Int32.toNatClampNeg z)).2.2 (Int32.toNatClampNeg y) (Int32.toNatClampNeg z)).2.2 (Int32.toNatClampNeg w) (ct_xo (ct_an nc g (Int32.toNatClampNeg y) (Int32.toNatClampNeg z)).2.1 (ct_an nc g (Int32.toNatClampNeg y) (Int32.toNatClampNeg z)).2.2 (Int32.toNatClampNeg y) (Int32.toNatClampNeg z)).1).2.1 (ct_an (ct_xo (ct_an nc g (Int32.toNatClampNeg y) (Int32.toNatClampNeg z)).2.1 (ct_an nc g (Int32.toNatClampNeg y) (Int32.toNatClampNeg z)).2.2 (Int32.toNatClampNeg y) (Int32.toNatClampNeg z)).2.1 (ct_xo (ct_an nc g (Int32.toNatClampNeg y) (Int32.toNatClampNeg z)).2.1 (ct_an nc g (Int32.toNatClampNeg y) (Int32.toNatClampNeg z)).2.2 (Int32.toNatClampNeg y) (Int32.toNatClampNeg z)).2.2 (Int32.toNatClampNeg w) (ct_xo (ct_an nc g (Int32.toNatClampNeg y) (Int32.toNatClampNeg z)).2.1 (ct_an nc g (Int32.toNatClampNeg y) (Int32.toNatClampNeg z)).2.2 (Int32.toNatClampNeg y) (Int32.toNatClampNeg z)).1).2.2 (ct_an nc g (Int32.toNatClampNeg y) (Int32.toNatClampNeg z)).1 (ct_an (ct_xo (ct_an nc g (Int32.toNatClampNeg y) (Int32.toNatClampNeg z)).2.1 (ct_an nc g (Int32.toNatClampNeg y) (Int32.toNatClampNeg z)).2.2 (Int32.toNatClampNeg y) (Int32.toNatClampNeg z)).2.1 (ct_xo (ct_an nc g (Int32.toNatClampNeg y) (Int32.toNatClampNeg z)).2.1 (ct_an nc g (Int32.toNatClampNeg y) (Int32.toNatClampNeg z)).2.2 (Int32.toNatClampNeg y) (Int32.toNatClampNeg z)).2.2 (Int32.toNatClampNeg w) (ct_xo (ct_an nc g (Int32.toNatClampNeg y) (Int32.toNatClampNeg z)).2.1 (ct_an nc g (Int32.toNatClampNeg y) (Int32.toNatClampNeg z)).2.2 (Int32.toNatClampNeg y) (Int32.toNatClampNeg z)).1).1).2.1 := bd4.2.1
                  have bg4 : (ct_an (ct_xo (ct_an nc g (Int32.toNatClampNeg y) (Int32.toNatClampNeg z)).2.1 (ct_an nc g (Int32.toNatClampNeg y) (Int32.toNatClampNeg z)).2.2 (Int32.toNatClampNeg y) (Int32.toNatClampNeg z)).2.1 (ct_xo (ct_an nc g (Int32.toNatClampNeg y) (Int32.toNatClampNeg z)).2.1 (ct_an nc g (Int32.toNatClampNeg y) (Int32.toNatClampNeg z)).2.2 (Int32.toNatClampNeg y) (Int32.toNatClampNeg z)).2.2 (Int32.toNatClampNeg w) (ct_xo (ct_an nc g (Int32.toNatClampNeg y) (Int32.toNatClampNeg z)).2.1 (ct_an nc g (Int32.toNatClampNeg y) (Int32.toNatClampNeg z)).2.2 (Int32.toNatClampNeg y) (Int32.toNatClampNeg z)).1).2.1 ≤ (ct_or (ct_an (ct_xo (ct_an nc g (Int32.toNatClampNeg y) (Int32.toNatClampNeg z)).2.1 (ct_an nc g (Int32.toNatClampNeg y) (Int32.toNatClampNeg z)).2.2 (Int32.toNatClampNeg y) (Int32.toNatClampNeg z)).2.1 (ct_xo (ct_an nc g (Int32.toNatClampNeg y) (Int32.toNatClampNeg z)).2.1 (ct_an nc g (Int32.toNatClampNeg y) (Int32.toNatClampNeg z)).2.2 (Int32.toNatClampNeg y) (Int32.toNatClampNeg z)).2.2 (Int32.toNatClampNeg w) (ct_xo (ct_an nc g (Int32.toNatClampNeg y) (Int32.toNatClampNeg z)).2.1 (ct_an nc g (Int32.toNatClampNeg y) (Int32.toNatClampNeg z)).2.2 (Int32.toNatClampNeg y) (Int32.toNatClampNeg z)).1).2.1 (ct_an (ct_xo (ct_an nc g (Int32.toNatClampNeg y) (Int32.toNatClampNeg z)).2.1 (ct_an nc g (Int32.toNatClampNeg y) (Int32.toNatClampNeg z)).2.2 (Int32.toNatClampNeg y) (Int32.toNatClampNeg z)).2.1 (ct_xo (ct_an nc g (Int32.toNatClampNeg y) (Int32.toNatClampNeg z)).2.1 (ct_an nc g (Int32.toNatClampNeg y) (Int32.toNatClampNeg z)).2.2 (Int32.toNatClampNeg y) (Int32.toNatClampNeg z)).2.2 (Int32.toNatClampNeg w) (ct_xo (ct_an nc g (Int32.toNatClampNeg y) (Int32.toNatClampNeg z)).2.1 (ct_an nc g (Int32.toNatClampNeg y) (Int32.toNatClampNeg z)).2.2 (Int32.toNatClampNeg y) (Int32.toNatClampNeg z)).1).2.2 (ct_an nc g (Int32.toNatClampNeg y) (Int32.toNatClampNeg z)).1 (ct_an (ct_xo (ct_an nc g (Int32.toNatClampNeg y) (Int32.toNatClampNeg z)).2.1 (ct_an nc g (Int32.toNatClampNeg y) (Int32.toNatClampNeg z)).2.2 (Int32.toNatClampNeg y) (Int32.toNatClampNeg z)).2.1 (ct_xo (ct_an nc g (Int32.toNatClampNeg y) (Int32.toNatClampNeg z)).2.1 (ct_an nc g (Int32.toNatClampNeg y) (Int32.toNatClampNeg z)).2.2 (Int32.toNatClampNeg y) (Int32.toNatClampNeg z)).2.2 (Int32.toNatClampNeg w) (ct_xo (ct_an nc g (Int32.toNatClampNeg y) (Int32.toNatClampNeg z)).2.1 (ct_an nc g (Int32.toNatClampNeg y) (Int32.toNatClampNeg z)).2.2 (Int32.toNatClampNeg y) (Int32.toNatClampNeg z)).1).1).2.1 := bd4.2.2.1
                  have bh4 : (ct_or (ct_an (ct_xo (ct_an nc g (Int32.toNatClampNeg y) (Int32.toNatClampNeg z)).2.1 (ct_an nc g (Int32.toNatClampNeg y) (Int32.toNatClampNeg z)).2.2 (Int32.toNatClampNeg y) (Int32.toNatClampNeg z)).2.1 (ct_xo (ct_an nc g (Int32.toNatClampNeg y) (Int32.toNatClampNeg z)).2.1 (ct_an nc g (Int32.toNatClampNeg y) (Int32.toNatClampNeg z)).2.2 (Int32.toNatClampNeg y) (Int32.toNatClampNeg z)).2.2 (Int32.toNatClampNeg w) (ct_xo (ct_an nc g (Int32.toNatClampNeg y) (Int32.toNatClampNeg z)).2.1 (ct_an nc g (Int32.toNatClampNeg y) (Int32.toNatClampNeg z)).2.2 (Int32.toNatClampNeg y) (Int32.toNatClampNeg z)).1).2.1 (ct_an (ct_xo (ct_an nc g (Int32.toNatClampNeg y) (Int32.toNatClampNeg z)).2.1 (ct_an nc g (Int32.toNatClampNeg y) (Int32.toNatClampNeg z)).2.2 (Int32.toNatClampNeg y) (Int32.toNatClampNeg z)).2.1 (ct_xo (ct_an nc g (Int32.toNatClampNeg y) (Int32.toNatClampNeg z)).2.1 (ct_an nc g (Int32.toNatClampNeg y) (Int32.toNatClampNeg z)).2.2 (Int32.toNatClampNeg y) (Int32.toNatClampNeg z)).2.2 (Int32.toNatClampNeg w) (ct_xo (ct_an nc g (Int32.toNatClampNeg y) (Int32.toNatClampNeg z)).2.1 (ct_an nc g (Int32.toNatClampNeg y) (Int32.toNatClampNeg z)).2.2 (Int32.toNatClampNeg y) (Int32.toNatClampNeg z)).1).2.2 (ct_an nc g (Int32.toNatClampNeg y) (Int32.toNatClampNeg z)).1 (ct_an (ct_xo (ct_an nc g (Int32.toNatClampNeg y) (Int32.toNatClampNeg z)).2.1 (ct_an nc g (Int32.toNatClampNeg y) (Int32.toNatClampNeg z)).2.2 (Int32.toNatClampNeg y) (Int32.toNatClampNeg z)).2.1 (ct_xo (ct_an nc g (Int32.toNatClampNeg y) (Int32.toNatClampNeg z)).2.1 (ct_an nc g (Int32.toNatClampNeg y) (Int32.toNatClampNeg z)).2.2 (Int32.toNatClampNeg y) (Int32.toNatClampNeg z)).2.2 (Int32.toNatClampNeg w) (ct_xo (ct_an nc g (Int32.toNatClampNeg y) (Int32.toNatClampNeg z)).2.1 (ct_an nc g (Int32.toNatClampNeg y) (Int32.toNatClampNeg z)).2.2 (Int32.toNatClampNeg y) (Int32.toNatClampNeg z)).1).1).2.1 ≤ (ct_an (ct_xo (ct_an nc g (Int32.toNatClampNeg y) (Int32.toNatClampNeg z)).2.1 (ct_an nc g (Int32.toNatClampNeg y) (Int32.toNatClampNeg z)).2.2 (Int32.toNatClampNeg y) (Int32.toNatClampNeg z)).2.1 (ct_xo (ct_an nc g (Int32.toNatClampNeg y) (Int32.toNatClampNeg z)).2.1 (ct_an nc g (Int32.toNatClampNeg y) (Int32.toNatClampNeg z)).2.2 (Int32.toNatClampNeg y) (Int32.toNatClampNeg z)).2.2 (Int32.toNatClampNeg w) (ct_xo (ct_an nc g (Int32.toNatClampNeg y) (Int32.toNatClampNeg z)).2.1 (ct_an nc g (Int32.toNatClampNeg y) (Int32.toNatClampNeg z)).2.2 (Int32.toNatClampNeg y) (Int32.toNatClampNeg z)).1).2.1 + 1 := bd4.2.2.2
                  have hR : ct_th nc g x (Int32.toNatClampNeg y) (Int32.toNatClampNeg z) (Int32.toNatClampNeg w) = ct_ca nc g (Int32.toNatClampNeg y) (Int32.toNatClampNeg z) (Int32.toNatClampNeg w) := by rw [ct_th, if_neg c56, if_neg c93]
                  refine lv_aload_n hx hb dX1_three_113 rfl (lv_at hl 1 rfl) ?_
                  refine lv_iload_n hx hb dX1_three_114 rfl (lv_at hl 3 rfl) ?_
                  refine lv_iload_n hx hb dX1_three_115 rfl (lv_at hl 4 rfl) ?_
                  have hFc := va_free (wc := (mW h1 cI cB cZ ad ar iv40)) hD hS hA [0, 1, 2, 3, 4, 5] rfl
                  refine va_calli (va_runV (As := [.int y, .int z]) (rest := []) ⟨hx, hb, hml, hown, hts⟩ (m_make l D h1 cI cB cZ ad ar iv40 H.size y z (Int32.toNatClampNeg y) (Int32.toNatClampNeg z) nc ic g bv ya.1 za.1 ya.2 za.2 hokc (show iv40 0 = 0 by rw [e40]; exact va_up_self _ _ _) (by omega)) (cwV 2 hts gX1_three_X1_make rfl rfl rfl (by decide +kernel) ⟨Nat.le_of_ble_eq_true rfl, Nat.le_of_ble_eq_true rfl⟩) (mP_V hK hP hD (va_recv hK hP (ci := 1) (q0 := 0) rfl rfl)) rfl rfl hl.1 rfl (lv_room (Nat.le_of_ble_eq_true rfl)) dX1_three_116 ⟨Nat.zero_le _, Nat.zero_le _⟩) hS (fun q _ h => hFc q h) hFc (fun r116 u t H1 locs ht hvm e116 hB hz1 hk1 hS => ?_)
                  obtain ⟨ar116, iv116⟩ := u
                  obtain ⟨hP1, hK1, hD1⟩ := hB
                  rw [ht] at hP1
                  have hK := va_K.moved hvm.symm hK1
                  have hP : va_P D vwCl (mW h1 cI cB cZ ad ar116 iv116) H1 := hP1
                  have hD : va_D A (mW h1 cI cB cZ ad ar116 iv116) := hD1.weaken (fun k q _ h => hFc q.1 h)
                  clear hP1 hK1 hD1 hk1 hz1 hFc ht
                  generalize H1 = H at hP hS ⊢
                  try dsimp only at e116
                  refine lv_istore (lv' := [(6, .int r116), (5, .int 0), (0, .ref h1), (1, .int x), (2, .int y), (3, .int z), (4, .int w)]) hx hb dX1_three_119 hl (by decide) rfl (fun ls hl => ?_)
                  refine lv_aload_n hx hb dX1_three_121 rfl (lv_at hl 2 rfl) ?_
                  refine lv_iload hx hb dX1_three_122 (lv_at hl 6 rfl) ?_
                  refine lv_aload_n hx hb dX1_three_124 rfl (lv_at hl 2 rfl) ?_
                  refine lv_iload_n hx hb dX1_three_125 rfl (lv_at hl 4 rfl) ?_
                  refine lv_iload_n hx hb dX1_three_126 rfl (lv_at hl 5 rfl) ?_
                  have hFc := va_free (wc := (mW h1 cI cB cZ ad ar116 iv116)) hD hS hA [0, 1, 2, 3, 4, 5] rfl
                  refine va_calli (va_runV (As := [.int y, .int z]) (rest := [.int w, .ref h1]) ⟨hx, hb, hml, hown, hts⟩ (m_xor l D h1 cI cB cZ ad ar116 iv116 H.size y z (Int32.toNatClampNeg y) (Int32.toNatClampNeg z) (ct_an nc g (Int32.toNatClampNeg y) (Int32.toNatClampNeg z)).2.1 ic (ct_an nc g (Int32.toNatClampNeg y) (Int32.toNatClampNeg z)).2.2 bv ya.1 za.1 (by omega) (by omega) e116.2.2 e116.2.1 (by omega)) (cwV 2 hts gX1_three_X1_xor rfl rfl rfl (by decide +kernel) ⟨Nat.le_of_ble_eq_true rfl, Nat.le_of_ble_eq_true rfl⟩) (mP_V hK hP hD (va_recv hK hP (ci := 1) (q0 := 0) rfl rfl)) rfl rfl hl.1 rfl (lv_room (Nat.le_of_ble_eq_true rfl)) dX1_three_127 ⟨Nat.zero_le _, Nat.zero_le _⟩) hS (fun q _ h => hFc q h) hFc (fun r127 u t H1 locs ht hvm e127 hB hz1 hk1 hS => ?_)
                  obtain ⟨ar127, iv127⟩ := u
                  obtain ⟨hP1, hK1, hD1⟩ := hB
                  rw [ht] at hP1
                  have hK := va_K.moved hvm.symm hK1
                  have hP : va_P D vwCl (mW h1 cI cB cZ ad ar127 iv127) H1 := hP1
                  have hD : va_D A (mW h1 cI cB cZ ad ar127 iv127) := hD1.weaken (fun k q _ h => hFc q.1 h)
                  clear hP1 hK1 hD1 hk1 hz1 hFc ht
                  generalize H1 = H at hP hS ⊢
                  try dsimp only at e127
                  have hFc := va_free (wc := (mW h1 cI cB cZ ad ar127 iv127)) hD hS hA [0, 1, 2, 3, 4, 5] rfl
                  refine va_calli (va_runV (As := [.int w, .int r127]) (rest := []) ⟨hx, hb, hml, hown, hts⟩ (m_make l D h1 cI cB cZ ad ar127 iv127 H.size w r127 (Int32.toNatClampNeg w) (ct_xo (ct_an nc g (Int32.toNatClampNeg y) (Int32.toNatClampNeg z)).2.1 (ct_an nc g (Int32.toNatClampNeg y) (Int32.toNatClampNeg z)).2.2 (Int32.toNatClampNeg y) (Int32.toNatClampNeg z)).1 (ct_xo (ct_an nc g (Int32.toNatClampNeg y) (Int32.toNatClampNeg z)).2.1 (ct_an nc g (Int32.toNatClampNeg y) (Int32.toNatClampNeg z)).2.2 (Int32.toNatClampNeg y) (Int32.toNatClampNeg z)).2.1 ic (ct_xo (ct_an nc g (Int32.toNatClampNeg y) (Int32.toNatClampNeg z)).2.1 (ct_an nc g (Int32.toNatClampNeg y) (Int32.toNatClampNeg z)).2.2 (Int32.toNatClampNeg y) (Int32.toNatClampNeg z)).2.2 bv wa.1 e127.1 (by omega) (by omega) e127.2.2 e127.2.1 (by omega)) (cwV 2 hts gX1_three_X1_make rfl rfl rfl (by decide +kernel) ⟨Nat.le_of_ble_eq_true rfl, Nat.le_of_ble_eq_true rfl⟩) (mP_V hK hP hD (va_recv hK hP (ci := 1) (q0 := 0) rfl rfl)) rfl rfl hl.1 rfl (lv_room (Nat.le_of_ble_eq_true rfl)) dX1_three_130 ⟨Nat.zero_le _, Nat.zero_le _⟩) hS (fun q _ h => hFc q h) hFc (fun r130 u t H1 locs ht hvm e130 hB hz1 hk1 hS => ?_)
                  obtain ⟨ar130, iv130⟩ := u
                  obtain ⟨hP1, hK1, hD1⟩ := hB
                  rw [ht] at hP1
                  have hK := va_K.moved hvm.symm hK1
                  have hP : va_P D vwCl (mW h1 cI cB cZ ad ar130 iv130) H1 := hP1
                  have hD : va_D A (mW h1 cI cB cZ ad ar130 iv130) := hD1.weaken (fun k q _ h => hFc q.1 h)
                  clear hP1 hK1 hD1 hk1 hz1 hFc ht
                  generalize H1 = H at hP hS ⊢
                  try dsimp only at e130
                  refine lv_istore (lv' := [(7, .int r130), (6, .int r116), (5, .int 0), (0, .ref h1), (1, .int x), (2, .int y), (3, .int z), (4, .int w)]) hx hb dX1_three_133 hl (by decide) rfl (fun ls hl => ?_)
                  refine lv_aload_n hx hb dX1_three_135 rfl (lv_at hl 3 rfl) ?_
                  refine lv_iload hx hb dX1_three_136 (lv_at hl 1 rfl) ?_
                  refine lv_iload hx hb dX1_three_138 (lv_at hl 0 rfl) ?_
                  have hFc := va_free (wc := (mW h1 cI cB cZ ad ar130 iv130)) hD hS hA [0, 1, 2, 3, 4, 5] rfl
                  refine va_calli (va_runV (As := [.int r116, .int r130]) (rest := []) ⟨hx, hb, hml, hown, hts⟩ (m_or l D h1 cI cB cZ ad ar130 iv130 H.size r116 r130 (ct_an nc g (Int32.toNatClampNeg y) (Int32.toNatClampNeg z)).1 (ct_an (ct_xo (ct_an nc g (Int32.toNatClampNeg y) (Int32.toNatClampNeg z)).2.1 (ct_an nc g (Int32.toNatClampNeg y) (Int32.toNatClampNeg z)).2.2 (Int32.toNatClampNeg y) (Int32.toNatClampNeg z)).2.1 (ct_xo (ct_an nc g (Int32.toNatClampNeg y) (Int32.toNatClampNeg z)).2.1 (ct_an nc g (Int32.toNatClampNeg y) (Int32.toNatClampNeg z)).2.2 (Int32.toNatClampNeg y) (Int32.toNatClampNeg z)).2.2 (Int32.toNatClampNeg w) (ct_xo (ct_an nc g (Int32.toNatClampNeg y) (Int32.toNatClampNeg z)).2.1 (ct_an nc g (Int32.toNatClampNeg y) (Int32.toNatClampNeg z)).2.2 (Int32.toNatClampNeg y) (Int32.toNatClampNeg z)).1).1 (ct_an (ct_xo (ct_an nc g (Int32.toNatClampNeg y) (Int32.toNatClampNeg z)).2.1 (ct_an nc g (Int32.toNatClampNeg y) (Int32.toNatClampNeg z)).2.2 (Int32.toNatClampNeg y) (Int32.toNatClampNeg z)).2.1 (ct_xo (ct_an nc g (Int32.toNatClampNeg y) (Int32.toNatClampNeg z)).2.1 (ct_an nc g (Int32.toNatClampNeg y) (Int32.toNatClampNeg z)).2.2 (Int32.toNatClampNeg y) (Int32.toNatClampNeg z)).2.2 (Int32.toNatClampNeg w) (ct_xo (ct_an nc g (Int32.toNatClampNeg y) (Int32.toNatClampNeg z)).2.1 (ct_an nc g (Int32.toNatClampNeg y) (Int32.toNatClampNeg z)).2.2 (Int32.toNatClampNeg y) (Int32.toNatClampNeg z)).1).2.1 ic (ct_an (ct_xo (ct_an nc g (Int32.toNatClampNeg y) (Int32.toNatClampNeg z)).2.1 (ct_an nc g (Int32.toNatClampNeg y) (Int32.toNatClampNeg z)).2.2 (Int32.toNatClampNeg y) (Int32.toNatClampNeg z)).2.1 (ct_xo (ct_an nc g (Int32.toNatClampNeg y) (Int32.toNatClampNeg z)).2.1 (ct_an nc g (Int32.toNatClampNeg y) (Int32.toNatClampNeg z)).2.2 (Int32.toNatClampNeg y) (Int32.toNatClampNeg z)).2.2 (Int32.toNatClampNeg w) (ct_xo (ct_an nc g (Int32.toNatClampNeg y) (Int32.toNatClampNeg z)).2.1 (ct_an nc g (Int32.toNatClampNeg y) (Int32.toNatClampNeg z)).2.2 (Int32.toNatClampNeg y) (Int32.toNatClampNeg z)).1).2.2 bv e116.1 e130.1 (by omega) (by omega) e130.2.2 e130.2.1 (by omega)) (cwV 2 hts gX1_three_X1_or rfl rfl rfl (by decide +kernel) ⟨Nat.le_of_ble_eq_true rfl, Nat.le_of_ble_eq_true rfl⟩) (mP_V hK hP hD (va_recv hK hP (ci := 1) (q0 := 0) rfl rfl)) rfl rfl hl.1 rfl (lv_room (Nat.le_of_ble_eq_true rfl)) dX1_three_140 ⟨Nat.zero_le _, Nat.zero_le _⟩) hS (fun q _ h => hFc q h) hFc (fun r140 u t H1 locs ht hvm e140 hB hz1 hk1 hS => ?_)
                  obtain ⟨ar140, iv140⟩ := u
                  obtain ⟨hP1, hK1, hD1⟩ := hB
                  rw [ht] at hP1
                  have hK := va_K.moved hvm.symm hK1
                  have hP : va_P D vwCl (mW h1 cI cB cZ ad ar140 iv140) H1 := hP1
                  have hD : va_D A (mW h1 cI cB cZ ad ar140 iv140) := hD1.weaken (fun k q _ h => hFc q.1 h)
                  clear hP1 hK1 hD1 hk1 hz1 hFc ht
                  generalize H1 = H at hP hS ⊢
                  try dsimp only at e140
                  refine lv_istore (lv' := [(5, .int r140), (7, .int r130), (6, .int r116), (0, .ref h1), (1, .int x), (2, .int y), (3, .int z), (4, .int w)]) hx hb dX1_three_143 hl (by decide) rfl (fun ls hl => ?_)
                  refine lv_aload_n hx hb dX1_three_145 rfl (lv_at hl 3 rfl) ?_
                  refine va_get (D := D) (ci := 1) (v := .int (iv140 0)) (C := RX1) (T := TX1) (N := 8) hx hb hts inX1 hown hK hP 0 rfl rfl 5 (by decide) (hts _ (mG wm_368)) (fun _ h9 => h9) rfl dX1_three_146 ?_
                  refine lv_if_le (tgt := 156) hx hb dX1_three_149 (by decide) (fun c149 => ?_) (fun c149 => ?_)
                  · refine lv_iload hx hb dX1_three_156 (lv_at hl 0 rfl) ?_
                    exact W.iret (v := r140) hx hb hr (fun t ht hW => ⟨⟨r140, (ar140, iv140), rfl, Or.inl ⟨V, e140.2.1, by rw [hR]; exact ⟨e140.1, e140.2.2⟩⟩, by rw [ht]; exact hP, va_K.moved hW.alike hK, hD⟩, hS.F ht⟩) hS.2.2 dX1_three_158
                  · exact absurd (by rw [(show iv140 0 = 0 from e140.2.1)]; decide) c149
                · have bd1 : ct_bd nc 3 (ct_xo nc g (Int32.toNatClampNeg y) (Int32.toNatClampNeg z)) := ct_xo_b hok.wf ya.2 za.2
                  have bl1 : (ct_xo nc g (Int32.toNatClampNeg y) (Int32.toNatClampNeg z)).1 < 2 * (ct_xo nc g (Int32.toNatClampNeg y) (Int32.toNatClampNeg z)).2.1 := bd1.2.1
                  have bg1 : nc ≤ (ct_xo nc g (Int32.toNatClampNeg y) (Int32.toNatClampNeg z)).2.1 := bd1.2.2.1
                  have bh1 : (ct_xo nc g (Int32.toNatClampNeg y) (Int32.toNatClampNeg z)).2.1 ≤ nc + 3 := bd1.2.2.2
                  have bd2 : ct_bd (ct_xo nc g (Int32.toNatClampNeg y) (Int32.toNatClampNeg z)).2.1 3 (ct_xo (ct_xo nc g (Int32.toNatClampNeg y) (Int32.toNatClampNeg z)).2.1 (ct_xo nc g (Int32.toNatClampNeg y) (Int32.toNatClampNeg z)).2.2 (ct_xo nc g (Int32.toNatClampNeg y) (Int32.toNatClampNeg z)).1 (Int32.toNatClampNeg w)) := ct_xo_b bd1.1 (by omega) (by omega)
                  have bl2 : (ct_xo (ct_xo nc g (Int32.toNatClampNeg y) (Int32.toNatClampNeg z)).2.1 (ct_xo nc g (Int32.toNatClampNeg y) (Int32.toNatClampNeg z)).2.2 (ct_xo nc g (Int32.toNatClampNeg y) (Int32.toNatClampNeg z)).1 (Int32.toNatClampNeg w)).1 < 2 * (ct_xo (ct_xo nc g (Int32.toNatClampNeg y) (Int32.toNatClampNeg z)).2.1 (ct_xo nc g (Int32.toNatClampNeg y) (Int32.toNatClampNeg z)).2.2 (ct_xo nc g (Int32.toNatClampNeg y) (Int32.toNatClampNeg z)).1 (Int32.toNatClampNeg w)).2.1 := bd2.2.1
                  have bg2 : (ct_xo nc g (Int32.toNatClampNeg y) (Int32.toNatClampNeg z)).2.1 ≤ (ct_xo (ct_xo nc g (Int32.toNatClampNeg y) (Int32.toNatClampNeg z)).2.1 (ct_xo nc g (Int32.toNatClampNeg y) (Int32.toNatClampNeg z)).2.2 (ct_xo nc g (Int32.toNatClampNeg y) (Int32.toNatClampNeg z)).1 (Int32.toNatClampNeg w)).2.1 := bd2.2.2.1
                  have bh2 : (ct_xo (ct_xo nc g (Int32.toNatClampNeg y) (Int32.toNatClampNeg z)).2.1 (ct_xo nc g (Int32.toNatClampNeg y) (Int32.toNatClampNeg z)).2.2 (ct_xo nc g (Int32.toNatClampNeg y) (Int32.toNatClampNeg z)).1 (Int32.toNatClampNeg w)).2.1 ≤ (ct_xo nc g (Int32.toNatClampNeg y) (Int32.toNatClampNeg z)).2.1 + 3 := bd2.2.2.2
                  have hR : ct_th nc g x (Int32.toNatClampNeg y) (Int32.toNatClampNeg z) (Int32.toNatClampNeg w) = ct_ad nc g (Int32.toNatClampNeg y) (Int32.toNatClampNeg z) (Int32.toNatClampNeg w) := by rw [ct_th, if_neg c56, if_pos c93]
                  refine lv_aload_n hx hb dX1_three_96 rfl (lv_at hl 1 rfl) ?_
                  refine lv_aload_n hx hb dX1_three_97 rfl (lv_at hl 1 rfl) ?_
                  refine lv_iload_n hx hb dX1_three_98 rfl (lv_at hl 3 rfl) ?_
                  refine lv_iload_n hx hb dX1_three_99 rfl (lv_at hl 4 rfl) ?_
                  have hFc := va_free (wc := (mW h1 cI cB cZ ad ar iv40)) hD hS hA [0, 1, 2, 3, 4, 5] rfl
                  refine va_calli (va_runV (As := [.int y, .int z]) (rest := [.ref h1]) ⟨hx, hb, hml, hown, hts⟩ (m_xor l D h1 cI cB cZ ad ar iv40 H.size y z (Int32.toNatClampNeg y) (Int32.toNatClampNeg z) nc ic g bv ya.1 za.1 ya.2 za.2 hokc (show iv40 0 = 0 by rw [e40]; exact va_up_self _ _ _) (by omega)) (cwV 2 hts gX1_three_X1_xor rfl rfl rfl (by decide +kernel) ⟨Nat.le_of_ble_eq_true rfl, Nat.le_of_ble_eq_true rfl⟩) (mP_V hK hP hD (va_recv hK hP (ci := 1) (q0 := 0) rfl rfl)) rfl rfl hl.1 rfl (lv_room (Nat.le_of_ble_eq_true rfl)) dX1_three_100 ⟨Nat.zero_le _, Nat.zero_le _⟩) hS (fun q _ h => hFc q h) hFc (fun r100 u t H1 locs ht hvm e100 hB hz1 hk1 hS => ?_)
                  obtain ⟨ar100, iv100⟩ := u
                  obtain ⟨hP1, hK1, hD1⟩ := hB
                  rw [ht] at hP1
                  have hK := va_K.moved hvm.symm hK1
                  have hP : va_P D vwCl (mW h1 cI cB cZ ad ar100 iv100) H1 := hP1
                  have hD : va_D A (mW h1 cI cB cZ ad ar100 iv100) := hD1.weaken (fun k q _ h => hFc q.1 h)
                  clear hP1 hK1 hD1 hk1 hz1 hFc ht
                  generalize H1 = H at hP hS ⊢
                  try dsimp only at e100
                  refine lv_iload hx hb dX1_three_103 (lv_at hl 5 rfl) ?_
                  have hFc := va_free (wc := (mW h1 cI cB cZ ad ar100 iv100)) hD hS hA [0, 1, 2, 3, 4, 5] rfl
                  refine va_calli (va_runV (As := [.int r100, .int w]) (rest := []) ⟨hx, hb, hml, hown, hts⟩ (m_xor l D h1 cI cB cZ ad ar100 iv100 H.size r100 w (ct_xo nc g (Int32.toNatClampNeg y) (Int32.toNatClampNeg z)).1 (Int32.toNatClampNeg w) (ct_xo nc g (Int32.toNatClampNeg y) (Int32.toNatClampNeg z)).2.1 ic (ct_xo nc g (Int32.toNatClampNeg y) (Int32.toNatClampNeg z)).2.2 bv e100.1 wa.1 (by omega) (by omega) e100.2.2 e100.2.1 (by omega)) (cwV 2 hts gX1_three_X1_xor rfl rfl rfl (by decide +kernel) ⟨Nat.le_of_ble_eq_true rfl, Nat.le_of_ble_eq_true rfl⟩) (mP_V hK hP hD (va_recv hK hP (ci := 1) (q0 := 0) rfl rfl)) rfl rfl hl.1 rfl (lv_room (Nat.le_of_ble_eq_true rfl)) dX1_three_105 ⟨Nat.zero_le _, Nat.zero_le _⟩) hS (fun q _ h => hFc q h) hFc (fun r105 u t H1 locs ht hvm e105 hB hz1 hk1 hS => ?_)
                  obtain ⟨ar105, iv105⟩ := u
                  obtain ⟨hP1, hK1, hD1⟩ := hB
                  rw [ht] at hP1
                  have hK := va_K.moved hvm.symm hK1
                  have hP : va_P D vwCl (mW h1 cI cB cZ ad ar105 iv105) H1 := hP1
                  have hD : va_D A (mW h1 cI cB cZ ad ar105 iv105) := hD1.weaken (fun k q _ h => hFc q.1 h)
                  clear hP1 hK1 hD1 hk1 hz1 hFc ht
                  generalize H1 = H at hP hS ⊢
                  try dsimp only at e105
                  refine lv_istore (lv' := [(5, .int r105), (0, .ref h1), (1, .int x), (2, .int y), (3, .int z), (4, .int w)]) hx hb dX1_three_108 hl (by decide) rfl (fun ls hl => ?_)
                  refine lv_goto (tgt := 145) hx hb dX1_three_110 (by decide) ?_
                  refine lv_aload_n hx hb dX1_three_145 rfl (lv_at hl 1 rfl) ?_
                  refine va_get (D := D) (ci := 1) (v := .int (iv105 0)) (C := RX1) (T := TX1) (N := 8) hx hb hts inX1 hown hK hP 0 rfl rfl 5 (by decide) (hts _ (mG wm_368)) (fun _ h9 => h9) rfl dX1_three_146 ?_
                  refine lv_if_le (tgt := 156) hx hb dX1_three_149 (by decide) (fun c149 => ?_) (fun c149 => ?_)
                  · refine lv_iload hx hb dX1_three_156 (lv_at hl 0 rfl) ?_
                    exact W.iret (v := r105) hx hb hr (fun t ht hW => ⟨⟨r105, (ar105, iv105), rfl, Or.inl ⟨V, e105.2.1, by rw [hR]; exact ⟨e105.1, e105.2.2⟩⟩, by rw [ht]; exact hP, va_K.moved hW.alike hK, hD⟩, hS.F ht⟩) hS.2.2 dX1_three_158
                  · exact absurd (by rw [(show iv105 0 = 0 from e105.2.1)]; decide) c149
              · have bd1 : ct_bd nc 1 (ct_an nc g (Int32.toNatClampNeg y) (Int32.toNatClampNeg z)) := ct_an_b hok.wf ya.2 za.2
                have bl1 : (ct_an nc g (Int32.toNatClampNeg y) (Int32.toNatClampNeg z)).1 < 2 * (ct_an nc g (Int32.toNatClampNeg y) (Int32.toNatClampNeg z)).2.1 := bd1.2.1
                have bg1 : nc ≤ (ct_an nc g (Int32.toNatClampNeg y) (Int32.toNatClampNeg z)).2.1 := bd1.2.2.1
                have bh1 : (ct_an nc g (Int32.toNatClampNeg y) (Int32.toNatClampNeg z)).2.1 ≤ nc + 1 := bd1.2.2.2
                have bd2 : ct_bd (ct_an nc g (Int32.toNatClampNeg y) (Int32.toNatClampNeg z)).2.1 1 (ct_an (ct_an nc g (Int32.toNatClampNeg y) (Int32.toNatClampNeg z)).2.1 (ct_an nc g (Int32.toNatClampNeg y) (Int32.toNatClampNeg z)).2.2 (ct_nt (Int32.toNatClampNeg y)) (Int32.toNatClampNeg w)) := ct_an_b bd1.1 (ct_nt_lt (by omega)) (by omega)
                have bl2 : (ct_an (ct_an nc g (Int32.toNatClampNeg y) (Int32.toNatClampNeg z)).2.1 (ct_an nc g (Int32.toNatClampNeg y) (Int32.toNatClampNeg z)).2.2 (ct_nt (Int32.toNatClampNeg y)) (Int32.toNatClampNeg w)).1 < 2 * (ct_an (ct_an nc g (Int32.toNatClampNeg y) (Int32.toNatClampNeg z)).2.1 (ct_an nc g (Int32.toNatClampNeg y) (Int32.toNatClampNeg z)).2.2 (ct_nt (Int32.toNatClampNeg y)) (Int32.toNatClampNeg w)).2.1 := bd2.2.1
                have bg2 : (ct_an nc g (Int32.toNatClampNeg y) (Int32.toNatClampNeg z)).2.1 ≤ (ct_an (ct_an nc g (Int32.toNatClampNeg y) (Int32.toNatClampNeg z)).2.1 (ct_an nc g (Int32.toNatClampNeg y) (Int32.toNatClampNeg z)).2.2 (ct_nt (Int32.toNatClampNeg y)) (Int32.toNatClampNeg w)).2.1 := bd2.2.2.1
                have bh2 : (ct_an (ct_an nc g (Int32.toNatClampNeg y) (Int32.toNatClampNeg z)).2.1 (ct_an nc g (Int32.toNatClampNeg y) (Int32.toNatClampNeg z)).2.2 (ct_nt (Int32.toNatClampNeg y)) (Int32.toNatClampNeg w)).2.1 ≤ (ct_an nc g (Int32.toNatClampNeg y) (Int32.toNatClampNeg z)).2.1 + 1 := bd2.2.2.2
                have bd3 : ct_bd (ct_an (ct_an nc g (Int32.toNatClampNeg y) (Int32.toNatClampNeg z)).2.1 (ct_an nc g (Int32.toNatClampNeg y) (Int32.toNatClampNeg z)).2.2 (ct_nt (Int32.toNatClampNeg y)) (Int32.toNatClampNeg w)).2.1 1 (ct_or (ct_an (ct_an nc g (Int32.toNatClampNeg y) (Int32.toNatClampNeg z)).2.1 (ct_an nc g (Int32.toNatClampNeg y) (Int32.toNatClampNeg z)).2.2 (ct_nt (Int32.toNatClampNeg y)) (Int32.toNatClampNeg w)).2.1 (ct_an (ct_an nc g (Int32.toNatClampNeg y) (Int32.toNatClampNeg z)).2.1 (ct_an nc g (Int32.toNatClampNeg y) (Int32.toNatClampNeg z)).2.2 (ct_nt (Int32.toNatClampNeg y)) (Int32.toNatClampNeg w)).2.2 (ct_an nc g (Int32.toNatClampNeg y) (Int32.toNatClampNeg z)).1 (ct_an (ct_an nc g (Int32.toNatClampNeg y) (Int32.toNatClampNeg z)).2.1 (ct_an nc g (Int32.toNatClampNeg y) (Int32.toNatClampNeg z)).2.2 (ct_nt (Int32.toNatClampNeg y)) (Int32.toNatClampNeg w)).1) := ct_or_b bd2.1 (by omega) (by omega)
                have bl3 : (ct_or (ct_an (ct_an nc g (Int32.toNatClampNeg y) (Int32.toNatClampNeg z)).2.1 (ct_an nc g (Int32.toNatClampNeg y) (Int32.toNatClampNeg z)).2.2 (ct_nt (Int32.toNatClampNeg y)) (Int32.toNatClampNeg w)).2.1 (ct_an (ct_an nc g (Int32.toNatClampNeg y) (Int32.toNatClampNeg z)).2.1 (ct_an nc g (Int32.toNatClampNeg y) (Int32.toNatClampNeg z)).2.2 (ct_nt (Int32.toNatClampNeg y)) (Int32.toNatClampNeg w)).2.2 (ct_an nc g (Int32.toNatClampNeg y) (Int32.toNatClampNeg z)).1 (ct_an (ct_an nc g (Int32.toNatClampNeg y) (Int32.toNatClampNeg z)).2.1 (ct_an nc g (Int32.toNatClampNeg y) (Int32.toNatClampNeg z)).2.2 (ct_nt (Int32.toNatClampNeg y)) (Int32.toNatClampNeg w)).1).1 < 2 * (ct_or (ct_an (ct_an nc g (Int32.toNatClampNeg y) (Int32.toNatClampNeg z)).2.1 (ct_an nc g (Int32.toNatClampNeg y) (Int32.toNatClampNeg z)).2.2 (ct_nt (Int32.toNatClampNeg y)) (Int32.toNatClampNeg w)).2.1 (ct_an (ct_an nc g (Int32.toNatClampNeg y) (Int32.toNatClampNeg z)).2.1 (ct_an nc g (Int32.toNatClampNeg y) (Int32.toNatClampNeg z)).2.2 (ct_nt (Int32.toNatClampNeg y)) (Int32.toNatClampNeg w)).2.2 (ct_an nc g (Int32.toNatClampNeg y) (Int32.toNatClampNeg z)).1 (ct_an (ct_an nc g (Int32.toNatClampNeg y) (Int32.toNatClampNeg z)).2.1 (ct_an nc g (Int32.toNatClampNeg y) (Int32.toNatClampNeg z)).2.2 (ct_nt (Int32.toNatClampNeg y)) (Int32.toNatClampNeg w)).1).2.1 := bd3.2.1
                have bg3 : (ct_an (ct_an nc g (Int32.toNatClampNeg y) (Int32.toNatClampNeg z)).2.1 (ct_an nc g (Int32.toNatClampNeg y) (Int32.toNatClampNeg z)).2.2 (ct_nt (Int32.toNatClampNeg y)) (Int32.toNatClampNeg w)).2.1 ≤ (ct_or (ct_an (ct_an nc g (Int32.toNatClampNeg y) (Int32.toNatClampNeg z)).2.1 (ct_an nc g (Int32.toNatClampNeg y) (Int32.toNatClampNeg z)).2.2 (ct_nt (Int32.toNatClampNeg y)) (Int32.toNatClampNeg w)).2.1 (ct_an (ct_an nc g (Int32.toNatClampNeg y) (Int32.toNatClampNeg z)).2.1 (ct_an nc g (Int32.toNatClampNeg y) (Int32.toNatClampNeg z)).2.2 (ct_nt (Int32.toNatClampNeg y)) (Int32.toNatClampNeg w)).2.2 (ct_an nc g (Int32.toNatClampNeg y) (Int32.toNatClampNeg z)).1 (ct_an (ct_an nc g (Int32.toNatClampNeg y) (Int32.toNatClampNeg z)).2.1 (ct_an nc g (Int32.toNatClampNeg y) (Int32.toNatClampNeg z)).2.2 (ct_nt (Int32.toNatClampNeg y)) (Int32.toNatClampNeg w)).1).2.1 := bd3.2.2.1
                have bh3 : (ct_or (ct_an (ct_an nc g (Int32.toNatClampNeg y) (Int32.toNatClampNeg z)).2.1 (ct_an nc g (Int32.toNatClampNeg y) (Int32.toNatClampNeg z)).2.2 (ct_nt (Int32.toNatClampNeg y)) (Int32.toNatClampNeg w)).2.1 (ct_an (ct_an nc g (Int32.toNatClampNeg y) (Int32.toNatClampNeg z)).2.1 (ct_an nc g (Int32.toNatClampNeg y) (Int32.toNatClampNeg z)).2.2 (ct_nt (Int32.toNatClampNeg y)) (Int32.toNatClampNeg w)).2.2 (ct_an nc g (Int32.toNatClampNeg y) (Int32.toNatClampNeg z)).1 (ct_an (ct_an nc g (Int32.toNatClampNeg y) (Int32.toNatClampNeg z)).2.1 (ct_an nc g (Int32.toNatClampNeg y) (Int32.toNatClampNeg z)).2.2 (ct_nt (Int32.toNatClampNeg y)) (Int32.toNatClampNeg w)).1).2.1 ≤ (ct_an (ct_an nc g (Int32.toNatClampNeg y) (Int32.toNatClampNeg z)).2.1 (ct_an nc g (Int32.toNatClampNeg y) (Int32.toNatClampNeg z)).2.2 (ct_nt (Int32.toNatClampNeg y)) (Int32.toNatClampNeg w)).2.1 + 1 := bd3.2.2.2
                have hR : ct_th nc g x (Int32.toNatClampNeg y) (Int32.toNatClampNeg z) (Int32.toNatClampNeg w) = ct_ie nc g (Int32.toNatClampNeg y) (Int32.toNatClampNeg z) (Int32.toNatClampNeg w) := if_pos c56
                refine lv_aload_n hx hb dX1_three_59 rfl (lv_at hl 1 rfl) ?_
                refine lv_iload_n hx hb dX1_three_60 rfl (lv_at hl 3 rfl) ?_
                refine lv_iload_n hx hb dX1_three_61 rfl (lv_at hl 4 rfl) ?_
                have hFc := va_free (wc := (mW h1 cI cB cZ ad ar iv40)) hD hS hA [0, 1, 2, 3, 4, 5] rfl
                refine va_calli (va_runV (As := [.int y, .int z]) (rest := []) ⟨hx, hb, hml, hown, hts⟩ (m_make l D h1 cI cB cZ ad ar iv40 H.size y z (Int32.toNatClampNeg y) (Int32.toNatClampNeg z) nc ic g bv ya.1 za.1 ya.2 za.2 hokc (show iv40 0 = 0 by rw [e40]; exact va_up_self _ _ _) (by omega)) (cwV 2 hts gX1_three_X1_make rfl rfl rfl (by decide +kernel) ⟨Nat.le_of_ble_eq_true rfl, Nat.le_of_ble_eq_true rfl⟩) (mP_V hK hP hD (va_recv hK hP (ci := 1) (q0 := 0) rfl rfl)) rfl rfl hl.1 rfl (lv_room (Nat.le_of_ble_eq_true rfl)) dX1_three_62 ⟨Nat.zero_le _, Nat.zero_le _⟩) hS (fun q _ h => hFc q h) hFc (fun r62 u t H1 locs ht hvm e62 hB hz1 hk1 hS => ?_)
                obtain ⟨ar62, iv62⟩ := u
                obtain ⟨hP1, hK1, hD1⟩ := hB
                rw [ht] at hP1
                have hK := va_K.moved hvm.symm hK1
                have hP : va_P D vwCl (mW h1 cI cB cZ ad ar62 iv62) H1 := hP1
                have hD : va_D A (mW h1 cI cB cZ ad ar62 iv62) := hD1.weaken (fun k q _ h => hFc q.1 h)
                clear hP1 hK1 hD1 hk1 hz1 hFc ht
                generalize H1 = H at hP hS ⊢
                try dsimp only at e62
                refine lv_istore (lv' := [(6, .int r62), (5, .int 0), (0, .ref h1), (1, .int x), (2, .int y), (3, .int z), (4, .int w)]) hx hb dX1_three_65 hl (by decide) rfl (fun ls hl => ?_)
                refine lv_aload_n hx hb dX1_three_67 rfl (lv_at hl 2 rfl) ?_
                refine lv_iload_n hx hb dX1_three_68 rfl (lv_at hl 4 rfl) ?_
                refine lv_iconst (v := 1) hx hb dX1_three_69 (by decide) ?_
                refine lv_ixor hx hb dX1_three_70 ?_
                refine lv_topi (fun v70 e70 => ?_)
                refine lv_iload hx hb dX1_three_71 (lv_at hl 6 rfl) ?_
                have hFc := va_free (wc := (mW h1 cI cB cZ ad ar62 iv62)) hD hS hA [0, 1, 2, 3, 4, 5] rfl
                refine va_calli (va_runV (As := [.int v70, .int w]) (rest := []) ⟨hx, hb, hml, hown, hts⟩ (m_make l D h1 cI cB cZ ad ar62 iv62 H.size v70 w (ct_nt (Int32.toNatClampNeg y)) (Int32.toNatClampNeg w) (ct_an nc g (Int32.toNatClampNeg y) (Int32.toNatClampNeg z)).2.1 ic (ct_an nc g (Int32.toNatClampNeg y) (Int32.toNatClampNeg z)).2.2 bv (e70.trans ((congrArg (fun z : Int32 => z ^^^ 1) ya.1).trans (ct_nIxor _))) wa.1 (ct_nt_lt (by omega)) (by omega) e62.2.2 e62.2.1 (by omega)) (cwV 2 hts gX1_three_X1_make rfl rfl rfl (by decide +kernel) ⟨Nat.le_of_ble_eq_true rfl, Nat.le_of_ble_eq_true rfl⟩) (mP_V hK hP hD (va_recv hK hP (ci := 1) (q0 := 0) rfl rfl)) rfl rfl hl.1 rfl (lv_room (Nat.le_of_ble_eq_true rfl)) dX1_three_73 ⟨Nat.zero_le _, Nat.zero_le _⟩) hS (fun q _ h => hFc q h) hFc (fun r73 u t H1 locs ht hvm e73 hB hz1 hk1 hS => ?_)
                obtain ⟨ar73, iv73⟩ := u
                obtain ⟨hP1, hK1, hD1⟩ := hB
                rw [ht] at hP1
                have hK := va_K.moved hvm.symm hK1
                have hP : va_P D vwCl (mW h1 cI cB cZ ad ar73 iv73) H1 := hP1
                have hD : va_D A (mW h1 cI cB cZ ad ar73 iv73) := hD1.weaken (fun k q _ h => hFc q.1 h)
                clear hP1 hK1 hD1 hk1 hz1 hFc ht
                generalize H1 = H at hP hS ⊢
                try dsimp only at e73
                refine lv_istore (lv' := [(7, .int r73), (6, .int r62), (5, .int 0), (0, .ref h1), (1, .int x), (2, .int y), (3, .int z), (4, .int w)]) hx hb dX1_three_76 hl (by decide) rfl (fun ls hl => ?_)
                refine lv_aload_n hx hb dX1_three_78 rfl (lv_at hl 3 rfl) ?_
                refine lv_iload hx hb dX1_three_79 (lv_at hl 1 rfl) ?_
                refine lv_iload hx hb dX1_three_81 (lv_at hl 0 rfl) ?_
                have hFc := va_free (wc := (mW h1 cI cB cZ ad ar73 iv73)) hD hS hA [0, 1, 2, 3, 4, 5] rfl
                refine va_calli (va_runV (As := [.int r62, .int r73]) (rest := []) ⟨hx, hb, hml, hown, hts⟩ (m_or l D h1 cI cB cZ ad ar73 iv73 H.size r62 r73 (ct_an nc g (Int32.toNatClampNeg y) (Int32.toNatClampNeg z)).1 (ct_an (ct_an nc g (Int32.toNatClampNeg y) (Int32.toNatClampNeg z)).2.1 (ct_an nc g (Int32.toNatClampNeg y) (Int32.toNatClampNeg z)).2.2 (ct_nt (Int32.toNatClampNeg y)) (Int32.toNatClampNeg w)).1 (ct_an (ct_an nc g (Int32.toNatClampNeg y) (Int32.toNatClampNeg z)).2.1 (ct_an nc g (Int32.toNatClampNeg y) (Int32.toNatClampNeg z)).2.2 (ct_nt (Int32.toNatClampNeg y)) (Int32.toNatClampNeg w)).2.1 ic (ct_an (ct_an nc g (Int32.toNatClampNeg y) (Int32.toNatClampNeg z)).2.1 (ct_an nc g (Int32.toNatClampNeg y) (Int32.toNatClampNeg z)).2.2 (ct_nt (Int32.toNatClampNeg y)) (Int32.toNatClampNeg w)).2.2 bv e62.1 e73.1 (by omega) (by omega) e73.2.2 e73.2.1 (by omega)) (cwV 2 hts gX1_three_X1_or rfl rfl rfl (by decide +kernel) ⟨Nat.le_of_ble_eq_true rfl, Nat.le_of_ble_eq_true rfl⟩) (mP_V hK hP hD (va_recv hK hP (ci := 1) (q0 := 0) rfl rfl)) rfl rfl hl.1 rfl (lv_room (Nat.le_of_ble_eq_true rfl)) dX1_three_83 ⟨Nat.zero_le _, Nat.zero_le _⟩) hS (fun q _ h => hFc q h) hFc (fun r83 u t H1 locs ht hvm e83 hB hz1 hk1 hS => ?_)
                obtain ⟨ar83, iv83⟩ := u
                obtain ⟨hP1, hK1, hD1⟩ := hB
                rw [ht] at hP1
                have hK := va_K.moved hvm.symm hK1
                have hP : va_P D vwCl (mW h1 cI cB cZ ad ar83 iv83) H1 := hP1
                have hD : va_D A (mW h1 cI cB cZ ad ar83 iv83) := hD1.weaken (fun k q _ h => hFc q.1 h)
                clear hP1 hK1 hD1 hk1 hz1 hFc ht
                generalize H1 = H at hP hS ⊢
                try dsimp only at e83
                refine lv_istore (lv' := [(5, .int r83), (7, .int r73), (6, .int r62), (0, .ref h1), (1, .int x), (2, .int y), (3, .int z), (4, .int w)]) hx hb dX1_three_86 hl (by decide) rfl (fun ls hl => ?_)
                refine lv_goto (tgt := 145) hx hb dX1_three_88 (by decide) ?_
                refine lv_aload_n hx hb dX1_three_145 rfl (lv_at hl 3 rfl) ?_
                refine va_get (D := D) (ci := 1) (v := .int (iv83 0)) (C := RX1) (T := TX1) (N := 8) hx hb hts inX1 hown hK hP 0 rfl rfl 5 (by decide) (hts _ (mG wm_368)) (fun _ h9 => h9) rfl dX1_three_146 ?_
                refine lv_if_le (tgt := 156) hx hb dX1_three_149 (by decide) (fun c149 => ?_) (fun c149 => ?_)
                · refine lv_iload hx hb dX1_three_156 (lv_at hl 0 rfl) ?_
                  exact W.iret (v := r83) hx hb hr (fun t ht hW => ⟨⟨r83, (ar83, iv83), rfl, Or.inl ⟨V, e83.2.1, by rw [hR]; exact ⟨e83.1, e83.2.2⟩⟩, by rw [ht]; exact hP, va_K.moved hW.alike hK, hD⟩, hS.F ht⟩) hS.2.2 dX1_three_158
                · exact absurd (by rw [(show iv83 0 = 0 from e83.2.1)]; decide) c149
            · exact absurd (by rw [(show iv40 0 = 0 by rw [e40]; exact va_up_self _ _ _)]; decide) c47
set_option maxHeartbeats 4000000 in
set_option maxRecDepth 100000 in
/-- the reference: set -/
theorem m_set (l : Launch) (D : va_G) (h1 : Nat) (cI cB cZ : ClassId) (ad : Nat → Nat) (ar : Nat → Nat → Int32) (iv : Nat → Int32) (sz : Nat) (x : Int32) (y : Int32) (nc ic : Nat) (g : Ct) (bv : Nat → Bool) (hok : mm_ok nc ic g bv ar iv) (hmx : nc + 6 ≤ 20000) (t9 : Bool) (hy0 : y = ct_b t9) : Met l yX1_set wsX1_set ({ frames := 1, cells := 0, slots := 0, locals := 21 }) (mP D (mW h1 cI cB cZ ad ar iv) [(cI, .int), (cB, .byte), (cZ, .boolean)] sz [.ref h1, .int x, .int y]) (va_Qi (fun (r : Int32) (u : MS) => md_ans (ct_nod nc x ∧ ct_kd g (Int32.toNatClampNeg x) = 1) nc ic g bv (r = ct_b (bv (Int32.toNatClampNeg x) == t9) ∧ mm_ok nc ic g (va_up bv (Int32.toNatClampNeg x) t9) u.1 u.2) u) (mm_at D cI cB cZ ad (va_A (mW h1 cI cB cZ ad ar iv) sz) h1) (va_A (mW h1 cI cB cZ ad ar iv) sz)) 0 0 (va_A (mW h1 cI cB cZ ad ar iv) sz) := by
  refine Met.ofW (cc := cX1_set) (maxL := 4) (ret := (some .boolean)) (by decide) rfl ?_
  intro p e s m args below meth c s₁ B hml hv
  obtain ⟨rfl, hsz, hP, hK, hD0⟩ := hv
  have hx := B.exec
  have hb := B.bytes
  have hr := B.returns
  have hts := atoms_spec (ws := wsX1_set) B.pre
  have hown : s.vm.findClass RX1 = some m.cls := findClass_of_methodNamed B.named
  have hlocks := B.notSynchronized
  have hl := lv_entry ([.ref h1, .int x, .int y]) (n := 4) (Nat.le_of_ble_eq_true rfl)
  rw [lg_entry_eq]
  generalize (lg_sl ([.ref h1, .int x, .int y]) ++ List.replicate (4 - (lg_sl ([.ref h1, .int x, .int y])).length) Slot.unset).toArray = ls at hl ⊢
  have hl : lv_has ls 4 [(0, .ref h1), (1, .int x), (2, .int y)] := hl
  subst hsz
  have hD := hD0.self (sz := s.heap.size)
  generalize hAe : va_A (mW h1 cI cB cZ ad ar iv) s.heap.size = A at hD ⊢
  have hA : ∀ q : Nat, s.heap.size ≤ q → A q := fun q h => by rw [← hAe]; exact Or.inr h
  have hS : va_S A s.heap s.heap [] := va_S.rf
  have hnc := hok.nc
  have hmx6 := hmx
  have hmx := hok.mx
  refine lv_aload_n hx hb dX1_set_0 rfl (lv_at hl 0 rfl) ?_
  refine lv_aload_n hx hb dX1_set_1 rfl (lv_at hl 0 rfl) ?_
  refine lv_iload_n hx hb dX1_set_2 rfl (lv_at hl 1 rfl) ?_
  refine vp_callSi (W.runV (As := [.int x]) (rest := [.ref h1]) ⟨hx, hb, hml, hown, hts⟩ (m_isInput l D h1 cI cB cZ ad ar iv x nc hnc hmx) (cwV 1 hts gX1_set_X1_isInput rfl rfl rfl (by decide +kernel) ⟨Nat.le_of_ble_eq_true rfl, Nat.le_of_ble_eq_true rfl⟩) (rP_V hK hP (va_recv hK hP (ci := 1) (q0 := 0) rfl rfl)) rfl rfl hl.1 rfl (lv_room (Nat.le_of_ble_eq_true rfl)) dX1_set_3 ⟨Nat.zero_le _, Nat.zero_le _⟩) (fun r3 e3 => ?_)
  refine lv_if_eq (tgt := 13) hx hb dX1_set_6 (by decide) (fun c6 => ?_) (fun c6 => ?_)
  · have nV := (mm_inp hok e3).1 c6
    refine lv_iconst (v := 1) hx hb dX1_set_13 (by decide) ?_
    refine va_put (D := D) (ci := 1) (v := .int 1) (ty := .int) (C := RX1) (T := TX1) (N := 8) hx hb hts inX1 tyX1 tyX1_ok nmX1 hown hK hP hD hS 0 rfl rfl 5 (by decide) (hts _ (mG wm_368)) (fun _ h9 => h9) rfl (by decide +kernel) rfl rfl (Nat.le_of_ble_eq_true rfl) dX1_set_14 (fun H locs hP hD hS => ?_)
    obtain ⟨iv14, e14⟩ : ∃ zz : Nat → Int32, zz = va_up iv 0 1 := ⟨_, rfl⟩
    have hP : va_P D vwCl (mW h1 cI cB cZ ad ar iv14) H := by rw [e14]; exact hP
    have hD : va_D A (mW h1 cI cB cZ ad ar iv14) := by rw [e14]; exact hD
    have hokc : mm_ok nc ic g bv ar iv14 := mm_ok_iv hok (by rw [e14, va_up_ne _ _ (by decide)]) (by rw [e14, va_up_ne _ _ (by decide)])
    refine lv_aload_n hx hb dX1_set_17 rfl (lv_at hl 0 rfl) ?_
    refine va_get (D := D) (ci := 1) (v := .int (iv14 0)) (C := RX1) (T := TX1) (N := 8) hx hb hts inX1 hown hK hP 0 rfl rfl 5 (by decide) (hts _ (mG wm_368)) (fun _ h9 => h9) rfl dX1_set_18 ?_
    refine lv_if_le (tgt := 26) hx hb dX1_set_21 (by decide) (fun c21 => ?_) (fun c21 => ?_)
    · exact absurd c21 (by rw [(show iv14 0 = 1 by rw [e14]; exact va_up_self _ _ _)]; decide)
    · refine lv_iconst (v := 0) hx hb dX1_set_24 (by decide) ?_
      exact W.zret (v := 0) hx hb hr (by decide) (fun t ht hW => ⟨⟨0, (ar, iv14), rfl, Or.inr ⟨nV, (show iv14 0 = 1 by rw [e14]; exact va_up_self _ _ _), hokc⟩, by rw [ht]; exact hP, va_K.moved hW.alike hK, hD⟩, hS.F ht⟩) hS.2.2 dX1_set_25
  · have V := (mm_inp hok e3).2 c6
    have xa := ct_nod_n V.1 (by omega)
    refine lv_iconst (v := 0) hx hb dX1_set_9 (by decide) ?_
    refine lv_goto (tgt := 14) hx hb dX1_set_10 (by decide) ?_
    refine va_put (D := D) (ci := 1) (v := .int 0) (ty := .int) (C := RX1) (T := TX1) (N := 8) hx hb hts inX1 tyX1 tyX1_ok nmX1 hown hK hP hD hS 0 rfl rfl 5 (by decide) (hts _ (mG wm_368)) (fun _ h9 => h9) rfl (by decide +kernel) rfl rfl (Nat.le_of_ble_eq_true rfl) dX1_set_14 (fun H locs hP hD hS => ?_)
    obtain ⟨iv14, e14⟩ : ∃ zz : Nat → Int32, zz = va_up iv 0 0 := ⟨_, rfl⟩
    have hP : va_P D vwCl (mW h1 cI cB cZ ad ar iv14) H := by rw [e14]; exact hP
    have hD : va_D A (mW h1 cI cB cZ ad ar iv14) := by rw [e14]; exact hD
    have hokc : mm_ok nc ic g bv ar iv14 := mm_ok_iv hok (by rw [e14, va_up_ne _ _ (by decide)]) (by rw [e14, va_up_ne _ _ (by decide)])
    refine lv_aload_n hx hb dX1_set_17 rfl (lv_at hl 0 rfl) ?_
    refine va_get (D := D) (ci := 1) (v := .int (iv14 0)) (C := RX1) (T := TX1) (N := 8) hx hb hts inX1 hown hK hP 0 rfl rfl 5 (by decide) (hts _ (mG wm_368)) (fun _ h9 => h9) rfl dX1_set_18 ?_
    refine lv_if_le (tgt := 26) hx hb dX1_set_21 (by decide) (fun c21 => ?_) (fun c21 => ?_)
    · have hi31 : vp_in x 20000 := by rw [xa.1]; exact vp_in_nI (by omega) (by omega)
      have hi39 := hi31
      refine lv_aload_n hx hb dX1_set_26 rfl (lv_at hl 0 rfl) ?_
      refine va_get (D := D) (ci := 1) (v := .ref (ad 3)) (C := RX1) (T := TX1) (N := 8) hx hb hts inX1 hown hK hP 0 rfl rfl 3 (by decide) (hts _ (mG wm_374)) (fun _ h9 => h9) rfl dX1_set_27 ?_
      refine lv_iload_n hx hb dX1_set_30 rfl (lv_at hl 1 rfl) ?_
      refine va_zald hx hb hK hP 4 2 rfl rfl hi31 dX1_set_31 ?_
      refine lv_topi (fun v31 e31 => ?_)
      have e31 : v31 = ct_b (bv (Int32.toNatClampNeg x)) := by rw [e31]; exact hok.vi (Int32.toNatClampNeg x) xa.2 (ct_kd_1 V.2).2
      refine lv_istore_n (lv' := [(3, .int v31), (0, .ref h1), (1, .int x), (2, .int y)]) hx hb dX1_set_32 rfl hl (by decide) rfl (fun ls hl => ?_)
      refine lv_aload_n hx hb dX1_set_33 rfl (lv_at hl 1 rfl) ?_
      refine va_get (D := D) (ci := 1) (v := .ref (ad 3)) (C := RX1) (T := TX1) (N := 8) hx hb hts inX1 hown hK hP 0 rfl rfl 3 (by decide) (hts _ (mG wm_374)) (fun _ h9 => h9) rfl dX1_set_34 ?_
      refine lv_iload_n hx hb dX1_set_37 rfl (lv_at hl 2 rfl) ?_
      refine lv_iload_n hx hb dX1_set_38 rfl (lv_at hl 3 rfl) ?_
      refine va_zast hx hb hK hP hD hS 4 2 rfl rfl hi39 dX1_set_39 (fun H locs hP hD hS => ?_)
      obtain ⟨ar39, e39⟩ : ∃ zz : Nat → Nat → Int32, zz = va_up ar 3 (upd (ar 3) (Int32.toNatClampNeg x) (vp_nar .boolean y)) := ⟨_, rfl⟩
      have hP : va_P D vwCl (mW h1 cI cB cZ ad ar39 iv14) H := by rw [e39]; exact hP
      have hD : va_D A (mW h1 cI cB cZ ad ar39 iv14) := by rw [e39]; exact hD
      have hnew : mm_ok nc ic g (va_up bv (Int32.toNatClampNeg x) t9) ar39 iv14 := mm_ok_set hokc xa.2 V.2 (by rw [e39, hy0, ct_zb])
      refine lv_iload_n hx hb dX1_set_40 rfl (lv_at hl 0 rfl) ?_
      refine lv_iload_n hx hb dX1_set_41 rfl (lv_at hl 3 rfl) ?_
      refine lv_icmp_ne (tgt := 49) hx hb dX1_set_42 (by decide) (fun c42 => ?_) (fun c42 => ?_)
      · have hr9 : (0 : Int32) = ct_b (bv (Int32.toNatClampNeg x) == t9) := by
          have : ¬ bv (Int32.toNatClampNeg x) = t9 := fun z => c42 (by rw [e31, hy0, z])
          simp [ct_b, this]
        refine lv_iconst (v := 0) hx hb dX1_set_49 (by decide) ?_
        exact W.zret (v := 0) hx hb hr (by decide) (fun t ht hW => ⟨⟨0, (ar39, iv14), rfl, Or.inl ⟨V, (show iv14 0 = 0 by rw [e14]; exact va_up_self _ _ _), hr9, hnew⟩, by rw [ht]; exact hP, va_K.moved hW.alike hK, hD⟩, hS.F ht⟩) hS.2.2 dX1_set_50
      · have hr9 : (1 : Int32) = ct_b (bv (Int32.toNatClampNeg x) == t9) := by
          rw [ct_b_inj (show ct_b (bv (Int32.toNatClampNeg x)) = ct_b t9 by rw [← e31, ← hy0]; exact c42)]
          simp [ct_b]
        refine lv_iconst (v := 1) hx hb dX1_set_45 (by decide) ?_
        refine lv_goto (tgt := 50) hx hb dX1_set_46 (by decide) ?_
        exact W.zret (v := 1) hx hb hr (by decide) (fun t ht hW => ⟨⟨1, (ar39, iv14), rfl, Or.inl ⟨V, (show iv14 0 = 0 by rw [e14]; exact va_up_self _ _ _), hr9, hnew⟩, by rw [ht]; exact hP, va_K.moved hW.alike hK, hD⟩, hS.F ht⟩) hS.2.2 dX1_set_50
    · exact absurd (by rw [(show iv14 0 = 0 by rw [e14]; exact va_up_self _ _ _)]; decide) c21
set_option maxHeartbeats 4000000 in
set_option maxRecDepth 100000 in
/-- the reference: value -/
theorem m_value (l : Launch) (D : va_G) (h1 : Nat) (cI cB cZ : ClassId) (ad : Nat → Nat) (ar : Nat → Nat → Int32) (iv : Nat → Int32) (sz : Nat) (x : Int32) (nc ic : Nat) (g : Ct) (bv : Nat → Bool) (hok : mm_ok nc ic g bv ar iv) (hmx : nc + 6 ≤ 20000) : Met l yX1_value wsX1_value ({ frames := 1, cells := 0, slots := 0, locals := 21 }) (mP D (mW h1 cI cB cZ ad ar iv) [(cI, .int), (cB, .byte), (cZ, .boolean)] sz [.ref h1, .int x]) (va_Qi (fun (r : Int32) (u : MS) => md_ans (ct_lit nc x) nc ic g bv (r = ct_b (ct_vl g bv ((Int32.toNatClampNeg x) / 2) ^^ decide ((Int32.toNatClampNeg x) % 2 = 1)) ∧ mm_ok nc ic g bv u.1 u.2) u) (mm_at D cI cB cZ ad (va_A (mW h1 cI cB cZ ad ar iv) sz) h1) (va_A (mW h1 cI cB cZ ad ar iv) sz)) 0 0 (va_A (mW h1 cI cB cZ ad ar iv) sz) := by
  refine Met.ofW (cc := cX1_value) (maxL := 3) (ret := (some .boolean)) (by decide) rfl ?_
  intro p e s m args below meth c s₁ B hml hv
  obtain ⟨rfl, hsz, hP, hK, hD0⟩ := hv
  have hx := B.exec
  have hb := B.bytes
  have hr := B.returns
  have hts := atoms_spec (ws := wsX1_value) B.pre
  have hown : s.vm.findClass RX1 = some m.cls := findClass_of_methodNamed B.named
  have hlocks := B.notSynchronized
  have hl := lv_entry ([.ref h1, .int x]) (n := 3) (Nat.le_of_ble_eq_true rfl)
  rw [lg_entry_eq]
  generalize (lg_sl ([.ref h1, .int x]) ++ List.replicate (3 - (lg_sl ([.ref h1, .int x])).length) Slot.unset).toArray = ls at hl ⊢
  have hl : lv_has ls 3 [(0, .ref h1), (1, .int x)] := hl
  subst hsz
  have hD := hD0.self (sz := s.heap.size)
  generalize hAe : va_A (mW h1 cI cB cZ ad ar iv) s.heap.size = A at hD ⊢
  have hA : ∀ q : Nat, s.heap.size ≤ q → A q := fun q h => by rw [← hAe]; exact Or.inr h
  have hS : va_S A s.heap s.heap [] := va_S.rf
  refine lv_aload_n hx hb dX1_value_0 rfl (lv_at hl 0 rfl) ?_
  refine lv_aload_n hx hb dX1_value_1 rfl (lv_at hl 0 rfl) ?_
  refine lv_iload_n hx hb dX1_value_2 rfl (lv_at hl 1 rfl) ?_
  refine vp_callSi (W.runV (As := [.int x]) (rest := [.ref h1]) ⟨hx, hb, hml, hown, hts⟩ (m_isLiteral l D h1 cI cB cZ ad ar iv x) (cwV 1 hts gX1_value_X1_isLiteral rfl rfl rfl (by decide +kernel) ⟨Nat.le_of_ble_eq_true rfl, Nat.le_of_ble_eq_true rfl⟩) (rP_V hK hP (va_recv hK hP (ci := 1) (q0 := 0) rfl rfl)) rfl rfl hl.1 rfl (lv_room (Nat.le_of_ble_eq_true rfl)) dX1_value_3 ⟨Nat.zero_le _, Nat.zero_le _⟩) (fun r3 e3 => ?_)
  refine lv_if_eq (tgt := 13) hx hb dX1_value_6 (by decide) (fun c6 => ?_) (fun c6 => ?_)
  · have nV := (mm_lit hok e3).1 c6
    refine lv_iconst (v := 1) hx hb dX1_value_13 (by decide) ?_
    refine va_put (D := D) (ci := 1) (v := .int 1) (ty := .int) (C := RX1) (T := TX1) (N := 8) hx hb hts inX1 tyX1 tyX1_ok nmX1 hown hK hP hD hS 0 rfl rfl 5 (by decide) (hts _ (mG wm_368)) (fun _ h9 => h9) rfl (by decide +kernel) rfl rfl (Nat.le_of_ble_eq_true rfl) dX1_value_14 (fun H locs hP hD hS => ?_)
    obtain ⟨iv14, e14⟩ : ∃ zz : Nat → Int32, zz = va_up iv 0 1 := ⟨_, rfl⟩
    have hP : va_P D vwCl (mW h1 cI cB cZ ad ar iv14) H := by rw [e14]; exact hP
    have hD : va_D A (mW h1 cI cB cZ ad ar iv14) := by rw [e14]; exact hD
    have hokc : mm_ok nc ic g bv ar iv14 := mm_ok_iv hok (by rw [e14, va_up_ne _ _ (by decide)]) (by rw [e14, va_up_ne _ _ (by decide)])
    refine lv_aload_n hx hb dX1_value_17 rfl (lv_at hl 0 rfl) ?_
    refine va_get (D := D) (ci := 1) (v := .int (iv14 0)) (C := RX1) (T := TX1) (N := 8) hx hb hts inX1 hown hK hP 0 rfl rfl 5 (by decide) (hts _ (mG wm_368)) (fun _ h9 => h9) rfl dX1_value_18 ?_
    refine lv_if_le (tgt := 26) hx hb dX1_value_21 (by decide) (fun c21 => ?_) (fun c21 => ?_)
    · exact absurd c21 (by rw [(show iv14 0 = 1 by rw [e14]; exact va_up_self _ _ _)]; decide)
    · refine lv_iconst (v := 0) hx hb dX1_value_24 (by decide) ?_
      exact W.zret (v := 0) hx hb hr (by decide) (fun t ht hW => ⟨⟨0, (ar, iv14), rfl, Or.inr ⟨nV, (show iv14 0 = 1 by rw [e14]; exact va_up_self _ _ _), hokc⟩, by rw [ht]; exact hP, va_K.moved hW.alike hK, hD⟩, hS.F ht⟩) hS.2.2 dX1_value_25
  · have V := (mm_lit hok e3).2 c6
    have xa := ct_lit_n V (by omega)
    refine lv_iconst (v := 0) hx hb dX1_value_9 (by decide) ?_
    refine lv_goto (tgt := 14) hx hb dX1_value_10 (by decide) ?_
    refine va_put (D := D) (ci := 1) (v := .int 0) (ty := .int) (C := RX1) (T := TX1) (N := 8) hx hb hts inX1 tyX1 tyX1_ok nmX1 hown hK hP hD hS 0 rfl rfl 5 (by decide) (hts _ (mG wm_368)) (fun _ h9 => h9) rfl (by decide +kernel) rfl rfl (Nat.le_of_ble_eq_true rfl) dX1_value_14 (fun H locs hP hD hS => ?_)
    obtain ⟨iv14, e14⟩ : ∃ zz : Nat → Int32, zz = va_up iv 0 0 := ⟨_, rfl⟩
    have hP : va_P D vwCl (mW h1 cI cB cZ ad ar iv14) H := by rw [e14]; exact hP
    have hD : va_D A (mW h1 cI cB cZ ad ar iv14) := by rw [e14]; exact hD
    have hokc : mm_ok nc ic g bv ar iv14 := mm_ok_iv hok (by rw [e14, va_up_ne _ _ (by decide)]) (by rw [e14, va_up_ne _ _ (by decide)])
    refine lv_aload_n hx hb dX1_value_17 rfl (lv_at hl 0 rfl) ?_
    refine va_get (D := D) (ci := 1) (v := .int (iv14 0)) (C := RX1) (T := TX1) (N := 8) hx hb hts inX1 hown hK hP 0 rfl rfl 5 (by decide) (hts _ (mG wm_368)) (fun _ h9 => h9) rfl dX1_value_18 ?_
    refine lv_if_le (tgt := 26) hx hb dX1_value_21 (by decide) (fun c21 => ?_) (fun c21 => ?_)
    · refine lv_iconst (v := 1) hx hb dX1_value_26 (by decide) ?_
      refine lv_istore_n (lv' := [(2, .int 1), (0, .ref h1), (1, .int x)]) hx hb dX1_value_27 rfl hl (by decide) rfl (fun ls hl => ?_)
      have hloop0 : ∀ (k : Nat) (q : Nat) (a2 : Nat → Nat → Int32) (H : Heap) (locs : List Loc) (ls : Array Slot), nc - q < k → (1 ≤ q ∧ q ≤ nc ∧ mm_ok nc ic g bv a2 iv14 ∧ ∀ i, i < q → a2 3 i = ct_b (ct_vl g bv i)) → va_P D vwCl (mW h1 cI cB cZ ad a2 iv14) H → va_D A (mW h1 cI cB cZ ad a2 iv14) → va_S A s.heap H locs → lv_has ls 3 [(2, .int (nI q)), (0, .ref h1), (1, .int x)] → W p l e (headSpec wsX1_value ({ frames := 1, cells := 0, slots := 0, locals := 21 })).room s m ([.ref h1, .int x] : List Value).toArray below meth c H locs 0 0 (MQ below (va_Qi (fun (r : Int32) (u : MS) => md_ans (ct_lit nc x) nc ic g bv (r = ct_b (ct_vl g bv ((Int32.toNatClampNeg x) / 2) ^^ decide ((Int32.toNatClampNeg x) % 2 = 1)) ∧ mm_ok nc ic g bv u.1 u.2) u) (mm_at D cI cB cZ ad A h1) A) ([.ref h1, .int x] : List Value).toArray s 0 0 A) (F0 m 28 ls []) := by
        intro k
        induction k with
        | zero => intro q a2 H locs ls h; omega
        | succ k ih0 =>
          intro q a2 H locs ls hqk hinv hP hD hS hl
          obtain ⟨i1, i2, i3, i4⟩ := hinv
          refine lv_iload_n hx hb dX1_value_28 rfl (lv_at hl 0 rfl) ?_
          refine lv_aload_n hx hb dX1_value_29 rfl (lv_at hl 1 rfl) ?_
          refine va_get (D := D) (ci := 1) (v := .int (iv14 1)) (C := RX1) (T := TX1) (N := 8) hx hb hts inX1 hown hK hP 0 rfl rfl 6 (by decide) (hts _ (mG wm_369)) (fun _ h9 => h9) rfl dX1_value_30 ?_
          refine lv_icmp_ge (tgt := 98) hx hb dX1_value_33 (by decide) (fun c33 => ?_) (fun c33 => ?_)
          · have c33 : nc ≤ q := by
              rw [i3.nc] at c33
              exact (nI_leI (by omega) (by omega)).mp c33
            have hc100 : vp_in (gb_sh x) 20000 := by rw [xa.1, gb_sh_n (by omega)]; exact vp_in_nI (by omega) (by omega)
            refine lv_aload_n hx hb dX1_value_98 rfl (lv_at hl 1 rfl) ?_
            refine lv_iload_n hx hb dX1_value_99 rfl (lv_at hl 2 rfl) ?_
            refine vp_callSi (W.runV (As := [.int x]) (rest := []) ⟨hx, hb, hml, hown, hts⟩ (m_is l D h1 cI cB cZ ad a2 iv14 x hc100) (cwV 1 hts gX1_value_X1_is rfl rfl rfl (by decide +kernel) ⟨Nat.le_of_ble_eq_true rfl, Nat.le_of_ble_eq_true rfl⟩) (rP_V hK hP (va_recv hK hP (ci := 1) (q0 := 0) rfl rfl)) rfl rfl hl.1 rfl (lv_room (Nat.le_of_ble_eq_true rfl)) dX1_value_100 ⟨Nat.zero_le _, Nat.zero_le _⟩) (fun r100 e100 => ?_)
            have e100 : r100 = ct_b (ct_vl g bv ((Int32.toNatClampNeg x) / 2) ^^ decide ((Int32.toNatClampNeg x) % 2 = 1)) := e100.trans ((congrArg (mi_is a2) xa.1).trans (mm_is (by omega) (i4 ((Int32.toNatClampNeg x) / 2) (by omega))))
            exact W.zret (v := r100) hx hb hr (by rw [e100]; exact ct_nb _) (fun t ht hW => ⟨⟨r100, (a2, iv14), rfl, Or.inl ⟨V, (show iv14 0 = 0 by rw [e14]; exact va_up_self _ _ _), e100, i3⟩, by rw [ht]; exact hP, va_K.moved hW.alike hK, hD⟩, hS.F ht⟩) hS.2.2 dX1_value_103
          · have c33 : q < nc := Nat.not_le.mp fun z => c33 (by rw [i3.nc]; exact nI_le z (by omega))
            have hi46 : vp_in (nI q) 20000 := vp_in_nI (by omega) (by omega)
            have hi57 := hi46
            have hi70 := hi46
            have hi90 := hi46
            have hi91 := hi46
            refine lv_aload_n hx hb dX1_value_36 rfl (lv_at hl 1 rfl) ?_
            refine va_get (D := D) (ci := 1) (v := .ref (ad 3)) (C := RX1) (T := TX1) (N := 8) hx hb hts inX1 hown hK hP 0 rfl rfl 3 (by decide) (hts _ (mG wm_374)) (fun _ h9 => h9) rfl dX1_value_37 ?_
            refine lv_iload_n hx hb dX1_value_40 rfl (lv_at hl 0 rfl) ?_
            refine lv_aload_n hx hb dX1_value_41 rfl (lv_at hl 1 rfl) ?_
            refine va_get (D := D) (ci := 1) (v := .ref (ad 0)) (C := RX1) (T := TX1) (N := 8) hx hb hts inX1 hown hK hP 0 rfl rfl 0 (by decide) (hts _ (mG wm_371)) (fun _ h9 => h9) rfl dX1_value_42 ?_
            refine lv_iload_n hx hb dX1_value_45 rfl (lv_at hl 0 rfl) ?_
            refine va_bald hx hb hK hP 1 1 rfl rfl hi46 dX1_value_46 ?_
            refine lv_topi (fun v46 e46 => ?_)
            have e46 : v46 = ct_kd g q := by rw [e46, nI_clamp (by omega)]; exact i3.kd q c33
            refine lv_iconst (v := 2) hx hb dX1_value_47 (by decide) ?_
            refine lv_icmp_ne (tgt := 85) hx hb dX1_value_48 (by decide) (fun c48 => ?_) (fun c48 => ?_)
            · have hgn : g q = none := Classical.byContradiction fun z => c48 (e46.trans ((ct_kd_2 i3.wf q).mpr z))
              refine lv_aload_n hx hb dX1_value_85 rfl (lv_at hl 1 rfl) ?_
              refine va_get (D := D) (ci := 1) (v := .ref (ad 3)) (C := RX1) (T := TX1) (N := 8) hx hb hts inX1 hown hK hP 0 rfl rfl 3 (by decide) (hts _ (mG wm_374)) (fun _ h9 => h9) rfl dX1_value_86 ?_
              refine lv_iload_n hx hb dX1_value_89 rfl (lv_at hl 0 rfl) ?_
              refine va_zald hx hb hK hP 4 2 rfl rfl hi90 dX1_value_90 ?_
              refine lv_topi (fun v90 e90 => ?_)
              have hb9 : vp_nar .boolean v90 = ct_b (ct_vl g bv q) := by rw [e90, nI_clamp (by omega), i3.vi q c33 hgn, ct_zb, ct_vl_n hgn]
              refine va_zast hx hb hK hP hD hS 4 2 rfl rfl hi91 dX1_value_91 (fun H locs hP hD hS => ?_)
              obtain ⟨ar91, e91⟩ : ∃ zz : Nat → Nat → Int32, zz = va_up a2 3 (upd (a2 3) (Int32.toNatClampNeg (nI q)) (vp_nar .boolean v90)) := ⟨_, rfl⟩
              have hP : va_P D vwCl (mW h1 cI cB cZ ad ar91 iv14) H := by rw [e91]; exact hP
              have hD : va_D A (mW h1 cI cB cZ ad ar91 iv14) := by rw [e91]; exact hD
              rw [nI_clamp (by omega), hb9] at e91
              have i5 := mm_ok_on i3 e91
              have i6 : ∀ i, i < q + 1 → ar91 3 i = ct_b (ct_vl g bv i) := fun i hi => by
                rw [e91, va_up_self]
                by_cases z : i = q
                · rw [z, pk_us]
                · rw [pk_un z]; exact i4 i (by omega)
              obtain ⟨v92, e92⟩ : ∃ y : Int32, y = (nI q) + 1 := ⟨_, rfl⟩
              refine lv_iinc (v := v92) (lv' := [(2, .int v92), (0, .ref h1), (1, .int x)]) hx hb dX1_value_92 hl (k := 0) rfl (by rw [e92]; rfl) (by decide) rfl (fun ls hl => ?_)
              refine lv_goto (tgt := 28) hx hb dX1_value_95 (by decide) ?_
              exact ih0 (q + 1) ar91 _ _ ls (by omega) ⟨by omega, by omega, i5, i6⟩ hP hD hS (by rw [← nI_1]; rw [e92] at hl; exact hl)
            · obtain ⟨p9, q9, hg9⟩ := ct_kd_s i3.wf (e46.symm.trans c48)
              have i7 := i3.fs _ _ _ hg9
              have i8 := i3.lt hg9
              have hvl := ct_vl_s (bv := bv) i3.wf hg9
              refine lv_aload_n hx hb dX1_value_51 rfl (lv_at hl 1 rfl) ?_
              refine lv_aload_n hx hb dX1_value_52 rfl (lv_at hl 1 rfl) ?_
              refine va_get (D := D) (ci := 1) (v := .ref (ad 1)) (C := RX1) (T := TX1) (N := 8) hx hb hts inX1 hown hK hP 0 rfl rfl 1 (by decide) (hts _ (mG wm_372)) (fun _ h9 => h9) rfl dX1_value_53 ?_
              refine lv_iload_n hx hb dX1_value_56 rfl (lv_at hl 0 rfl) ?_
              refine va_iald hx hb hK hP 2 0 rfl rfl hi57 dX1_value_57 ?_
              refine lv_topi (fun v57 e57 => ?_)
              have e57 : v57 = nI p9 := by rw [e57, nI_clamp (by omega)]; exact i7.1
              have hc58 : vp_in (gb_sh v57) 20000 := by rw [e57, gb_sh_n (by omega)]; exact vp_in_nI (by omega) (by omega)
              refine vp_callSi (W.runV (As := [.int v57]) (rest := [.int (nI q), .ref (ad 3)]) ⟨hx, hb, hml, hown, hts⟩ (m_is l D h1 cI cB cZ ad a2 iv14 v57 hc58) (cwV 1 hts gX1_value_X1_is rfl rfl rfl (by decide +kernel) ⟨Nat.le_of_ble_eq_true rfl, Nat.le_of_ble_eq_true rfl⟩) (rP_V hK hP (va_recv hK hP (ci := 1) (q0 := 0) rfl rfl)) rfl rfl hl.1 rfl (lv_room (Nat.le_of_ble_eq_true rfl)) dX1_value_58 ⟨Nat.zero_le _, Nat.zero_le _⟩) (fun r58 e58 => ?_)
              have e58 : r58 = ct_b (ct_vl g bv (p9 / 2) ^^ decide (p9 % 2 = 1)) := by rw [e58, e57]; exact mm_is (by omega) (i4 (p9 / 2) (by omega))
              refine lv_if_eq (tgt := 81) hx hb dX1_value_61 (by decide) (fun c61 => ?_) (fun c61 => ?_)
              · refine lv_iconst (v := 0) hx hb dX1_value_81 (by decide) ?_
                refine lv_goto (tgt := 91) hx hb dX1_value_82 (by decide) ?_
                have hb9 : vp_nar .boolean 0 = ct_b (ct_vl g bv q) := by rw [hvl]; unfold ct_vo; rw [ct_b_f (e58.symm.trans c61), Bool.false_and]; decide
                refine va_zast hx hb hK hP hD hS 4 2 rfl rfl hi91 dX1_value_91 (fun H locs hP hD hS => ?_)
                obtain ⟨ar91, e91⟩ : ∃ zz : Nat → Nat → Int32, zz = va_up a2 3 (upd (a2 3) (Int32.toNatClampNeg (nI q)) (vp_nar .boolean 0)) := ⟨_, rfl⟩
                have hP : va_P D vwCl (mW h1 cI cB cZ ad ar91 iv14) H := by rw [e91]; exact hP
                have hD : va_D A (mW h1 cI cB cZ ad ar91 iv14) := by rw [e91]; exact hD
                rw [nI_clamp (by omega), hb9] at e91
                have i5 := mm_ok_on i3 e91
                have i6 : ∀ i, i < q + 1 → ar91 3 i = ct_b (ct_vl g bv i) := fun i hi => by
                  rw [e91, va_up_self]
                  by_cases z : i = q
                  · rw [z, pk_us]
                  · rw [pk_un z]; exact i4 i (by omega)
                obtain ⟨v92, e92⟩ : ∃ y : Int32, y = (nI q) + 1 := ⟨_, rfl⟩
                refine lv_iinc (v := v92) (lv' := [(2, .int v92), (0, .ref h1), (1, .int x)]) hx hb dX1_value_92 hl (k := 0) rfl (by rw [e92]; rfl) (by decide) rfl (fun ls hl => ?_)
                refine lv_goto (tgt := 28) hx hb dX1_value_95 (by decide) ?_
                exact ih0 (q + 1) ar91 _ _ ls (by omega) ⟨by omega, by omega, i5, i6⟩ hP hD hS (by rw [← nI_1]; rw [e92] at hl; exact hl)
              · refine lv_aload_n hx hb dX1_value_64 rfl (lv_at hl 1 rfl) ?_
                refine lv_aload_n hx hb dX1_value_65 rfl (lv_at hl 1 rfl) ?_
                refine va_get (D := D) (ci := 1) (v := .ref (ad 2)) (C := RX1) (T := TX1) (N := 8) hx hb hts inX1 hown hK hP 0 rfl rfl 2 (by decide) (hts _ (mG wm_373)) (fun _ h9 => h9) rfl dX1_value_66 ?_
                refine lv_iload_n hx hb dX1_value_69 rfl (lv_at hl 0 rfl) ?_
                refine va_iald hx hb hK hP 3 0 rfl rfl hi70 dX1_value_70 ?_
                refine lv_topi (fun v70 e70 => ?_)
                have e70 : v70 = nI q9 := by rw [e70, nI_clamp (by omega)]; exact i7.2
                have hc71 : vp_in (gb_sh v70) 20000 := by rw [e70, gb_sh_n (by omega)]; exact vp_in_nI (by omega) (by omega)
                refine vp_callSi (W.runV (As := [.int v70]) (rest := [.int (nI q), .ref (ad 3)]) ⟨hx, hb, hml, hown, hts⟩ (m_is l D h1 cI cB cZ ad a2 iv14 v70 hc71) (cwV 1 hts gX1_value_X1_is rfl rfl rfl (by decide +kernel) ⟨Nat.le_of_ble_eq_true rfl, Nat.le_of_ble_eq_true rfl⟩) (rP_V hK hP (va_recv hK hP (ci := 1) (q0 := 0) rfl rfl)) rfl rfl hl.1 rfl (lv_room (Nat.le_of_ble_eq_true rfl)) dX1_value_71 ⟨Nat.zero_le _, Nat.zero_le _⟩) (fun r71 e71 => ?_)
                have e71 : r71 = ct_b (ct_vl g bv (q9 / 2) ^^ decide (q9 % 2 = 1)) := by rw [e71, e70]; exact mm_is (by omega) (i4 (q9 / 2) (by omega))
                refine lv_if_eq (tgt := 81) hx hb dX1_value_74 (by decide) (fun c74 => ?_) (fun c74 => ?_)
                · refine lv_iconst (v := 0) hx hb dX1_value_81 (by decide) ?_
                  refine lv_goto (tgt := 91) hx hb dX1_value_82 (by decide) ?_
                  have hb9 : vp_nar .boolean 0 = ct_b (ct_vl g bv q) := by rw [hvl]; unfold ct_vo; rw [ct_b_f (e71.symm.trans c74), Bool.and_false]; decide
                  refine va_zast hx hb hK hP hD hS 4 2 rfl rfl hi91 dX1_value_91 (fun H locs hP hD hS => ?_)
                  obtain ⟨ar91, e91⟩ : ∃ zz : Nat → Nat → Int32, zz = va_up a2 3 (upd (a2 3) (Int32.toNatClampNeg (nI q)) (vp_nar .boolean 0)) := ⟨_, rfl⟩
                  have hP : va_P D vwCl (mW h1 cI cB cZ ad ar91 iv14) H := by rw [e91]; exact hP
                  have hD : va_D A (mW h1 cI cB cZ ad ar91 iv14) := by rw [e91]; exact hD
                  rw [nI_clamp (by omega), hb9] at e91
                  have i5 := mm_ok_on i3 e91
                  have i6 : ∀ i, i < q + 1 → ar91 3 i = ct_b (ct_vl g bv i) := fun i hi => by
                    rw [e91, va_up_self]
                    by_cases z : i = q
                    · rw [z, pk_us]
                    · rw [pk_un z]; exact i4 i (by omega)
                  obtain ⟨v92, e92⟩ : ∃ y : Int32, y = (nI q) + 1 := ⟨_, rfl⟩
                  refine lv_iinc (v := v92) (lv' := [(2, .int v92), (0, .ref h1), (1, .int x)]) hx hb dX1_value_92 hl (k := 0) rfl (by rw [e92]; rfl) (by decide) rfl (fun ls hl => ?_)
                  refine lv_goto (tgt := 28) hx hb dX1_value_95 (by decide) ?_
                  exact ih0 (q + 1) ar91 _ _ ls (by omega) ⟨by omega, by omega, i5, i6⟩ hP hD hS (by rw [← nI_1]; rw [e92] at hl; exact hl)
                · refine lv_iconst (v := 1) hx hb dX1_value_77 (by decide) ?_
                  refine lv_goto (tgt := 91) hx hb dX1_value_78 (by decide) ?_
                  have hb9 : vp_nar .boolean 1 = ct_b (ct_vl g bv q) := by rw [hvl]; unfold ct_vo; rw [ct_b_t (fun z => c61 (e58.trans z)), ct_b_t (fun z => c74 (e71.trans z))]; decide
                  refine va_zast hx hb hK hP hD hS 4 2 rfl rfl hi91 dX1_value_91 (fun H locs hP hD hS => ?_)
                  obtain ⟨ar91, e91⟩ : ∃ zz : Nat → Nat → Int32, zz = va_up a2 3 (upd (a2 3) (Int32.toNatClampNeg (nI q)) (vp_nar .boolean 1)) := ⟨_, rfl⟩
                  have hP : va_P D vwCl (mW h1 cI cB cZ ad ar91 iv14) H := by rw [e91]; exact hP
                  have hD : va_D A (mW h1 cI cB cZ ad ar91 iv14) := by rw [e91]; exact hD
                  rw [nI_clamp (by omega), hb9] at e91
                  have i5 := mm_ok_on i3 e91
                  have i6 : ∀ i, i < q + 1 → ar91 3 i = ct_b (ct_vl g bv i) := fun i hi => by
                    rw [e91, va_up_self]
                    by_cases z : i = q
                    · rw [z, pk_us]
                    · rw [pk_un z]; exact i4 i (by omega)
                  obtain ⟨v92, e92⟩ : ∃ y : Int32, y = (nI q) + 1 := ⟨_, rfl⟩
                  refine lv_iinc (v := v92) (lv' := [(2, .int v92), (0, .ref h1), (1, .int x)]) hx hb dX1_value_92 hl (k := 0) rfl (by rw [e92]; rfl) (by decide) rfl (fun ls hl => ?_)
                  refine lv_goto (tgt := 28) hx hb dX1_value_95 (by decide) ?_
                  exact ih0 (q + 1) ar91 _ _ ls (by omega) ⟨by omega, by omega, i5, i6⟩ hP hD hS (by rw [← nI_1]; rw [e92] at hl; exact hl)
      exact hloop0 (nc + 1) 1 ar _ _ ls (by omega) ⟨Nat.le_refl 1, hok.n1, hokc, fun i hi => by
        have hi0 : i = 0 := by omega
        rw [hi0, ct_vl_n (ct_zero hok.wf)]
        exact hok.vi 0 hok.n1 (ct_zero hok.wf)⟩ hP hD hS hl
    · exact absurd (by rw [(show iv14 0 = 0 by rw [e14]; exact va_up_self _ _ _)]; decide) c21
set_option maxHeartbeats 4000000 in
set_option maxRecDepth 100000 in
/-- the reference: node -/
theorem m_node (l : Launch) (D : va_G) (h1 : Nat) (cI cB cZ : ClassId) (ad : Nat → Nat) (ar : Nat → Nat → Int32) (iv : Nat → Int32) (sz : Nat) (x : Int32) (y : Int32) (nc ic : Nat) (g : Ct) (bv : Nat → Bool) (hok : mm_ok nc ic g bv ar iv) (hmx : nc + 6 ≤ 20000) : Met l yX1_node wsX1_node ({ frames := 0, cells := 0, slots := 0, locals := 0 }) (mP D (mW h1 cI cB cZ ad ar iv) [(cI, .int), (cB, .byte), (cZ, .boolean)] sz [.ref h1, .int x, .int y]) (va_Qi (fun (r : Int32) (u : MS) => md_ans (ct_nod nc x ∧ (y = 0 ∨ y = 1 ∨ y = 2 ∨ y = 3)) nc ic g bv (r = ct_nd nc g (Int32.toNatClampNeg x) y ∧ mm_ok nc ic g bv u.1 u.2) u) (mm_at D cI cB cZ ad (va_A (mW h1 cI cB cZ ad ar iv) sz) h1) (va_A (mW h1 cI cB cZ ad ar iv) sz)) 0 0 (va_A (mW h1 cI cB cZ ad ar iv) sz) := by
  refine Met.ofW (cc := cX1_node) (maxL := 5) (ret := (some .int)) (by decide) rfl ?_
  intro p e s m args below meth c s₁ B hml hv
  obtain ⟨rfl, hsz, hP, hK, hD0⟩ := hv
  have hx := B.exec
  have hb := B.bytes
  have hr := B.returns
  have hts := atoms_spec (ws := wsX1_node) B.pre
  have hown : s.vm.findClass RX1 = some m.cls := findClass_of_methodNamed B.named
  have hlocks := B.notSynchronized
  have hl := lv_entry ([.ref h1, .int x, .int y]) (n := 5) (Nat.le_of_ble_eq_true rfl)
  rw [lg_entry_eq]
  generalize (lg_sl ([.ref h1, .int x, .int y]) ++ List.replicate (5 - (lg_sl ([.ref h1, .int x, .int y])).length) Slot.unset).toArray = ls at hl ⊢
  have hl : lv_has ls 5 [(0, .ref h1), (1, .int x), (2, .int y)] := hl
  subst hsz
  have hD := hD0.self (sz := s.heap.size)
  generalize hAe : va_A (mW h1 cI cB cZ ad ar iv) s.heap.size = A at hD ⊢
  have hA : ∀ q : Nat, s.heap.size ≤ q → A q := fun q h => by rw [← hAe]; exact Or.inr h
  have hS : va_S A s.heap s.heap [] := va_S.rf
  have hnc := hok.nc
  have hmx6 := hmx
  refine lv_aload_n hx hb dX1_node_0 rfl (lv_at hl 0 rfl) ?_
  refine lv_iload_n hx hb dX1_node_1 rfl (lv_at hl 1 rfl) ?_
  refine lv_if_lt (tgt := 26) hx hb dX1_node_2 (by decide) (fun c2 => ?_) (fun c2 => ?_)
  · have nV : ¬ (ct_nod nc x ∧ (y = 0 ∨ y = 1 ∨ y = 2 ∨ y = 3)) := fun z => z.1.1 c2
    refine lv_iconst (v := 1) hx hb dX1_node_26 (by decide) ?_
    refine va_put (D := D) (ci := 1) (v := .int 1) (ty := .int) (C := RX1) (T := TX1) (N := 8) hx hb hts inX1 tyX1 tyX1_ok nmX1 hown hK hP hD hS 0 rfl rfl 5 (by decide) (hts _ (mG wm_368)) (fun _ h9 => h9) rfl (by decide +kernel) rfl rfl (Nat.le_of_ble_eq_true rfl) dX1_node_27 (fun H locs hP hD hS => ?_)
    obtain ⟨iv27, e27⟩ : ∃ zz : Nat → Int32, zz = va_up iv 0 1 := ⟨_, rfl⟩
    have hP : va_P D vwCl (mW h1 cI cB cZ ad ar iv27) H := by rw [e27]; exact hP
    have hD : va_D A (mW h1 cI cB cZ ad ar iv27) := by rw [e27]; exact hD
    have hokc : mm_ok nc ic g bv ar iv27 := mm_ok_iv hok (by rw [e27, va_up_ne _ _ (by decide)]) (by rw [e27, va_up_ne _ _ (by decide)])
    refine lv_aload_n hx hb dX1_node_30 rfl (lv_at hl 0 rfl) ?_
    refine va_get (D := D) (ci := 1) (v := .int (iv27 0)) (C := RX1) (T := TX1) (N := 8) hx hb hts inX1 hown hK hP 0 rfl rfl 5 (by decide) (hts _ (mG wm_368)) (fun _ h9 => h9) rfl dX1_node_31 ?_
    refine lv_if_le (tgt := 39) hx hb dX1_node_34 (by decide) (fun c34 => ?_) (fun c34 => ?_)
    · exact absurd c34 (by rw [(show iv27 0 = 1 by rw [e27]; exact va_up_self _ _ _)]; decide)
    · refine lv_iconst (v := 0) hx hb dX1_node_37 (by decide) ?_
      exact W.iret (v := 0) hx hb hr (fun t ht hW => ⟨⟨0, (ar, iv27), rfl, Or.inr ⟨nV, (show iv27 0 = 1 by rw [e27]; exact va_up_self _ _ _), hokc⟩, by rw [ht]; exact hP, va_K.moved hW.alike hK, hD⟩, hS.F ht⟩) hS.2.2 dX1_node_38
  · refine lv_iload_n hx hb dX1_node_5 rfl (lv_at hl 1 rfl) ?_
    refine lv_aload_n hx hb dX1_node_6 rfl (lv_at hl 0 rfl) ?_
    refine va_get (D := D) (ci := 1) (v := .int (iv 1)) (C := RX1) (T := TX1) (N := 8) hx hb hts inX1 hown hK hP 0 rfl rfl 6 (by decide) (hts _ (mG wm_369)) (fun _ h9 => h9) rfl dX1_node_7 ?_
    refine lv_icmp_ge (tgt := 26) hx hb dX1_node_10 (by decide) (fun c10 => ?_) (fun c10 => ?_)
    · have nV : ¬ (ct_nod nc x ∧ (y = 0 ∨ y = 1 ∨ y = 2 ∨ y = 3)) := fun z => Int32.not_lt.mpr (by rw [← hnc]; exact c10) z.1.2
      refine lv_iconst (v := 1) hx hb dX1_node_26 (by decide) ?_
      refine va_put (D := D) (ci := 1) (v := .int 1) (ty := .int) (C := RX1) (T := TX1) (N := 8) hx hb hts inX1 tyX1 tyX1_ok nmX1 hown hK hP hD hS 0 rfl rfl 5 (by decide) (hts _ (mG wm_368)) (fun _ h9 => h9) rfl (by decide +kernel) rfl rfl (Nat.le_of_ble_eq_true rfl) dX1_node_27 (fun H locs hP hD hS => ?_)
      obtain ⟨iv27, e27⟩ : ∃ zz : Nat → Int32, zz = va_up iv 0 1 := ⟨_, rfl⟩
      have hP : va_P D vwCl (mW h1 cI cB cZ ad ar iv27) H := by rw [e27]; exact hP
      have hD : va_D A (mW h1 cI cB cZ ad ar iv27) := by rw [e27]; exact hD
      have hokc : mm_ok nc ic g bv ar iv27 := mm_ok_iv hok (by rw [e27, va_up_ne _ _ (by decide)]) (by rw [e27, va_up_ne _ _ (by decide)])
      refine lv_aload_n hx hb dX1_node_30 rfl (lv_at hl 0 rfl) ?_
      refine va_get (D := D) (ci := 1) (v := .int (iv27 0)) (C := RX1) (T := TX1) (N := 8) hx hb hts inX1 hown hK hP 0 rfl rfl 5 (by decide) (hts _ (mG wm_368)) (fun _ h9 => h9) rfl dX1_node_31 ?_
      refine lv_if_le (tgt := 39) hx hb dX1_node_34 (by decide) (fun c34 => ?_) (fun c34 => ?_)
      · exact absurd c34 (by rw [(show iv27 0 = 1 by rw [e27]; exact va_up_self _ _ _)]; decide)
      · refine lv_iconst (v := 0) hx hb dX1_node_37 (by decide) ?_
        exact W.iret (v := 0) hx hb hr (fun t ht hW => ⟨⟨0, (ar, iv27), rfl, Or.inr ⟨nV, (show iv27 0 = 1 by rw [e27]; exact va_up_self _ _ _), hokc⟩, by rw [ht]; exact hP, va_K.moved hW.alike hK, hD⟩, hS.F ht⟩) hS.2.2 dX1_node_38
    · refine lv_iload_n hx hb dX1_node_13 rfl (lv_at hl 2 rfl) ?_
      refine lv_if_lt (tgt := 26) hx hb dX1_node_14 (by decide) (fun c14 => ?_) (fun c14 => ?_)
      · have nV : ¬ (ct_nod nc x ∧ (y = 0 ∨ y = 1 ∨ y = 2 ∨ y = 3)) := fun z => (md_k4n z.2).1 c14
        refine lv_iconst (v := 1) hx hb dX1_node_26 (by decide) ?_
        refine va_put (D := D) (ci := 1) (v := .int 1) (ty := .int) (C := RX1) (T := TX1) (N := 8) hx hb hts inX1 tyX1 tyX1_ok nmX1 hown hK hP hD hS 0 rfl rfl 5 (by decide) (hts _ (mG wm_368)) (fun _ h9 => h9) rfl (by decide +kernel) rfl rfl (Nat.le_of_ble_eq_true rfl) dX1_node_27 (fun H locs hP hD hS => ?_)
        obtain ⟨iv27, e27⟩ : ∃ zz : Nat → Int32, zz = va_up iv 0 1 := ⟨_, rfl⟩
        have hP : va_P D vwCl (mW h1 cI cB cZ ad ar iv27) H := by rw [e27]; exact hP
        have hD : va_D A (mW h1 cI cB cZ ad ar iv27) := by rw [e27]; exact hD
        have hokc : mm_ok nc ic g bv ar iv27 := mm_ok_iv hok (by rw [e27, va_up_ne _ _ (by decide)]) (by rw [e27, va_up_ne _ _ (by decide)])
        refine lv_aload_n hx hb dX1_node_30 rfl (lv_at hl 0 rfl) ?_
        refine va_get (D := D) (ci := 1) (v := .int (iv27 0)) (C := RX1) (T := TX1) (N := 8) hx hb hts inX1 hown hK hP 0 rfl rfl 5 (by decide) (hts _ (mG wm_368)) (fun _ h9 => h9) rfl dX1_node_31 ?_
        refine lv_if_le (tgt := 39) hx hb dX1_node_34 (by decide) (fun c34 => ?_) (fun c34 => ?_)
        · exact absurd c34 (by rw [(show iv27 0 = 1 by rw [e27]; exact va_up_self _ _ _)]; decide)
        · refine lv_iconst (v := 0) hx hb dX1_node_37 (by decide) ?_
          exact W.iret (v := 0) hx hb hr (fun t ht hW => ⟨⟨0, (ar, iv27), rfl, Or.inr ⟨nV, (show iv27 0 = 1 by rw [e27]; exact va_up_self _ _ _), hokc⟩, by rw [ht]; exact hP, va_K.moved hW.alike hK, hD⟩, hS.F ht⟩) hS.2.2 dX1_node_38
      · refine lv_iload_n hx hb dX1_node_17 rfl (lv_at hl 2 rfl) ?_
        refine lv_iconst (v := 3) hx hb dX1_node_18 (by decide) ?_
        refine lv_icmp_gt (tgt := 26) hx hb dX1_node_19 (by decide) (fun c19 => ?_) (fun c19 => ?_)
        · have nV : ¬ (ct_nod nc x ∧ (y = 0 ∨ y = 1 ∨ y = 2 ∨ y = 3)) := fun z => (md_k4n z.2).2 c19
          refine lv_iconst (v := 1) hx hb dX1_node_26 (by decide) ?_
          refine va_put (D := D) (ci := 1) (v := .int 1) (ty := .int) (C := RX1) (T := TX1) (N := 8) hx hb hts inX1 tyX1 tyX1_ok nmX1 hown hK hP hD hS 0 rfl rfl 5 (by decide) (hts _ (mG wm_368)) (fun _ h9 => h9) rfl (by decide +kernel) rfl rfl (Nat.le_of_ble_eq_true rfl) dX1_node_27 (fun H locs hP hD hS => ?_)
          obtain ⟨iv27, e27⟩ : ∃ zz : Nat → Int32, zz = va_up iv 0 1 := ⟨_, rfl⟩
          have hP : va_P D vwCl (mW h1 cI cB cZ ad ar iv27) H := by rw [e27]; exact hP
          have hD : va_D A (mW h1 cI cB cZ ad ar iv27) := by rw [e27]; exact hD
          have hokc : mm_ok nc ic g bv ar iv27 := mm_ok_iv hok (by rw [e27, va_up_ne _ _ (by decide)]) (by rw [e27, va_up_ne _ _ (by decide)])
          refine lv_aload_n hx hb dX1_node_30 rfl (lv_at hl 0 rfl) ?_
          refine va_get (D := D) (ci := 1) (v := .int (iv27 0)) (C := RX1) (T := TX1) (N := 8) hx hb hts inX1 hown hK hP 0 rfl rfl 5 (by decide) (hts _ (mG wm_368)) (fun _ h9 => h9) rfl dX1_node_31 ?_
          refine lv_if_le (tgt := 39) hx hb dX1_node_34 (by decide) (fun c34 => ?_) (fun c34 => ?_)
          · exact absurd c34 (by rw [(show iv27 0 = 1 by rw [e27]; exact va_up_self _ _ _)]; decide)
          · refine lv_iconst (v := 0) hx hb dX1_node_37 (by decide) ?_
            exact W.iret (v := 0) hx hb hr (fun t ht hW => ⟨⟨0, (ar, iv27), rfl, Or.inr ⟨nV, (show iv27 0 = 1 by rw [e27]; exact va_up_self _ _ _), hokc⟩, by rw [ht]; exact hP, va_K.moved hW.alike hK, hD⟩, hS.F ht⟩) hS.2.2 dX1_node_38
        · have V : ct_nod nc x ∧ (y = 0 ∨ y = 1 ∨ y = 2 ∨ y = 3) := ⟨⟨c2, Int32.not_le.mp (by rw [← hnc]; exact c10)⟩, md_k4 c14 c19⟩
          have xa := ct_nod_n V.1 (by omega)
          refine lv_iconst (v := 0) hx hb dX1_node_22 (by decide) ?_
          refine lv_goto (tgt := 27) hx hb dX1_node_23 (by decide) ?_
          refine va_put (D := D) (ci := 1) (v := .int 0) (ty := .int) (C := RX1) (T := TX1) (N := 8) hx hb hts inX1 tyX1 tyX1_ok nmX1 hown hK hP hD hS 0 rfl rfl 5 (by decide) (hts _ (mG wm_368)) (fun _ h9 => h9) rfl (by decide +kernel) rfl rfl (Nat.le_of_ble_eq_true rfl) dX1_node_27 (fun H locs hP hD hS => ?_)
          obtain ⟨iv27, e27⟩ : ∃ zz : Nat → Int32, zz = va_up iv 0 0 := ⟨_, rfl⟩
          have hP : va_P D vwCl (mW h1 cI cB cZ ad ar iv27) H := by rw [e27]; exact hP
          have hD : va_D A (mW h1 cI cB cZ ad ar iv27) := by rw [e27]; exact hD
          have hokc : mm_ok nc ic g bv ar iv27 := mm_ok_iv hok (by rw [e27, va_up_ne _ _ (by decide)]) (by rw [e27, va_up_ne _ _ (by decide)])
          refine lv_aload_n hx hb dX1_node_30 rfl (lv_at hl 0 rfl) ?_
          refine va_get (D := D) (ci := 1) (v := .int (iv27 0)) (C := RX1) (T := TX1) (N := 8) hx hb hts inX1 hown hK hP 0 rfl rfl 5 (by decide) (hts _ (mG wm_368)) (fun _ h9 => h9) rfl dX1_node_31 ?_
          refine lv_if_le (tgt := 39) hx hb dX1_node_34 (by decide) (fun c34 => ?_) (fun c34 => ?_)
          · have hi48 : vp_in x 20000 := by rw [xa.1]; exact vp_in_nI (by omega) (by omega)
            have hi60 := hi48
            have hi79 := hi48
            have hi88 := hi48
            refine lv_iload_n hx hb dX1_node_39 rfl (lv_at hl 2 rfl) ?_
            refine lv_if_ne (tgt := 50) hx hb dX1_node_40 (by decide) (fun c40 => ?_) (fun c40 => ?_)
            · refine lv_iload_n hx hb dX1_node_50 rfl (lv_at hl 2 rfl) ?_
              refine lv_iconst (v := 3) hx hb dX1_node_51 (by decide) ?_
              refine lv_icmp_ge (tgt := 90) hx hb dX1_node_52 (by decide) (fun c52 => ?_) (fun c52 => ?_)
              · have y3 : y = 3 := by
                  rcases V.2 with z | z | z | z
                  · exact absurd z c40
                  · exact absurd c52 (by rw [z]; decide)
                  · exact absurd c52 (by rw [z]; decide)
                  · exact z
                refine lv_iconst (v := 0) hx hb dX1_node_90 (by decide) ?_
                refine lv_istore_n (lv' := [(3, .int 0), (0, .ref h1), (1, .int x), (2, .int y)]) hx hb dX1_node_91 rfl hl (by decide) rfl (fun ls hl => ?_)
                refine lv_iconst (v := 1) hx hb dX1_node_92 (by decide) ?_
                refine lv_istore (lv' := [(4, .int 1), (3, .int 0), (0, .ref h1), (1, .int x), (2, .int y)]) hx hb dX1_node_93 hl (by decide) rfl (fun ls hl => ?_)
                have hloop0 : ∀ (k : Nat) (q : Nat) (ls : Array Slot), nc - q < k → (1 ≤ q ∧ q ≤ nc) → lv_has ls 5 [(4, .int (nI q)), (3, .int (nI (ct_us g q (Int32.toNatClampNeg x)))), (0, .ref h1), (1, .int x), (2, .int y)] → W p l e (headSpec wsX1_node ({ frames := 0, cells := 0, slots := 0, locals := 0 })).room s m ([.ref h1, .int x, .int y] : List Value).toArray below meth c H locs 0 0 (MQ below (va_Qi (fun (r : Int32) (u : MS) => md_ans (ct_nod nc x ∧ (y = 0 ∨ y = 1 ∨ y = 2 ∨ y = 3)) nc ic g bv (r = ct_nd nc g (Int32.toNatClampNeg x) y ∧ mm_ok nc ic g bv u.1 u.2) u) (mm_at D cI cB cZ ad A h1) A) ([.ref h1, .int x, .int y] : List Value).toArray s 0 0 A) (F0 m 95 ls []) := by
                  intro k
                  induction k with
                  | zero => intro q ls h; omega
                  | succ k ih0 =>
                    intro q ls hqk hinv hl
                    obtain ⟨i1, i2⟩ := hinv
                    refine lv_iload hx hb dX1_node_95 (lv_at hl 0 rfl) ?_
                    refine lv_aload_n hx hb dX1_node_97 rfl (lv_at hl 2 rfl) ?_
                    refine va_get (D := D) (ci := 1) (v := .int (iv27 1)) (C := RX1) (T := TX1) (N := 8) hx hb hts inX1 hown hK hP 0 rfl rfl 6 (by decide) (hts _ (mG wm_369)) (fun _ h9 => h9) rfl dX1_node_98 ?_
                    refine lv_icmp_ge (tgt := 155) hx hb dX1_node_101 (by decide) (fun c101 => ?_) (fun c101 => ?_)
                    · have c101 : nc ≤ q := by
                        rw [hokc.nc] at c101
                        exact (nI_leI (by omega) (by omega)).mp c101
                      have c100 : q = nc := by omega
                      have hr9 : nI (ct_us g q (Int32.toNatClampNeg x)) = ct_nd nc g (Int32.toNatClampNeg x) y := by
                        rw [c100, ct_nd, if_neg (by rw [y3]; decide), if_neg (by rw [y3]; decide), if_neg (by rw [y3]; decide)]
                      refine lv_iload_n hx hb dX1_node_155 rfl (lv_at hl 1 rfl) ?_
                      exact W.iret (v := (nI (ct_us g q (Int32.toNatClampNeg x)))) hx hb hr (fun t ht hW => ⟨⟨(nI (ct_us g q (Int32.toNatClampNeg x))), (ar, iv27), rfl, Or.inl ⟨V, (show iv27 0 = 0 by rw [e27]; exact va_up_self _ _ _), hr9, hokc⟩, by rw [ht]; exact hP, va_K.moved hW.alike hK, hD⟩, hS.F ht⟩) hS.2.2 dX1_node_156
                    · have c101 : q < nc := Nat.not_le.mp fun z => c101 (by rw [hokc.nc]; exact nI_le z (by omega))
                      have hi111 : vp_in (nI q) 20000 := vp_in_nI (by omega) (by omega)
                      have hi122 := hi111
                      have hi135 := hi111
                      refine lv_iload_n hx hb dX1_node_104 rfl (lv_at hl 1 rfl) ?_
                      refine lv_aload_n hx hb dX1_node_105 rfl (lv_at hl 2 rfl) ?_
                      refine va_get (D := D) (ci := 1) (v := .ref (ad 0)) (C := RX1) (T := TX1) (N := 8) hx hb hts inX1 hown hK hP 0 rfl rfl 0 (by decide) (hts _ (mG wm_371)) (fun _ h9 => h9) rfl dX1_node_106 ?_
                      refine lv_iload hx hb dX1_node_109 (lv_at hl 0 rfl) ?_
                      refine va_bald hx hb hK hP 1 1 rfl rfl hi111 dX1_node_111 ?_
                      refine lv_topi (fun v111 e111 => ?_)
                      have e111 : v111 = ct_kd g q := by rw [e111, nI_clamp (by omega)]; exact hok.kd q c101
                      refine lv_iconst (v := 2) hx hb dX1_node_112 (by decide) ?_
                      refine lv_icmp_ne (tgt := 146) hx hb dX1_node_113 (by decide) (fun c113 => ?_) (fun c113 => ?_)
                      · have hgn : g q = none := Classical.byContradiction fun z => c113 (e111.trans ((ct_kd_2 hok.wf q).mpr z))
                        have hus := ct_us_no (i := (Int32.toNatClampNeg x)) hgn
                        refine lv_iconst (v := 0) hx hb dX1_node_146 (by decide) ?_
                        refine lv_iadd hx hb dX1_node_147 ?_
                        refine lv_topi (fun v147 e147 => ?_)
                        have e147 : v147 = nI (ct_us g (q + 1) (Int32.toNatClampNeg x)) := by rw [e147, hus]; exact Int32.add_zero _
                        refine lv_istore_n (lv' := [(3, .int v147), (4, .int (nI q)), (0, .ref h1), (1, .int x), (2, .int y)]) hx hb dX1_node_148 rfl hl (by decide) rfl (fun ls hl => ?_)
                        obtain ⟨v149, e149⟩ : ∃ y : Int32, y = (nI q) + 1 := ⟨_, rfl⟩
                        refine lv_iinc (v := v149) (lv' := [(4, .int v149), (3, .int v147), (0, .ref h1), (1, .int x), (2, .int y)]) hx hb dX1_node_149 hl (k := 1) rfl (by rw [e149]; rfl) (by decide) rfl (fun ls hl => ?_)
                        refine lv_goto (tgt := 95) hx hb dX1_node_152 (by decide) ?_
                        exact ih0 (q + 1) ls (by omega) ⟨by omega, by omega⟩ (by rw [← e147, ← nI_1 q, ← e149]; exact lv_sub hl [0, 1, 2, 3, 4] rfl)
                      · obtain ⟨p9, q9, hg9⟩ := ct_kd_s hok.wf (e111.symm.trans c113)
                        have i7 := hok.fs _ _ _ hg9
                        have i8 := hok.lt hg9
                        have hus := ct_us_or (i := (Int32.toNatClampNeg x)) hok.wf hg9
                        refine lv_aload_n hx hb dX1_node_116 rfl (lv_at hl 2 rfl) ?_
                        refine va_get (D := D) (ci := 1) (v := .ref (ad 1)) (C := RX1) (T := TX1) (N := 8) hx hb hts inX1 hown hK hP 0 rfl rfl 1 (by decide) (hts _ (mG wm_372)) (fun _ h9 => h9) rfl dX1_node_117 ?_
                        refine lv_iload hx hb dX1_node_120 (lv_at hl 0 rfl) ?_
                        refine va_iald hx hb hK hP 2 0 rfl rfl hi122 dX1_node_122 ?_
                        refine lv_topi (fun v122 e122 => ?_)
                        have e122 : v122 = nI p9 := by rw [e122, nI_clamp (by omega)]; exact i7.1
                        refine lv_iconst (v := 2) hx hb dX1_node_123 (by decide) ?_
                        refine lv_idiv hx hb dX1_node_124 (by decide) ?_
                        refine lv_topi (fun v124 e124 => ?_)
                        have e124 : v124 = nI (p9 / 2) := by rw [e124, e122]; exact ct_div2 (by omega)
                        refine lv_iload_n hx hb dX1_node_125 rfl (lv_at hl 3 rfl) ?_
                        refine lv_icmp_eq (tgt := 142) hx hb dX1_node_126 (by decide) (fun c126 => ?_) (fun c126 => ?_)
                        · have h9 : p9 / 2 = (Int32.toNatClampNeg x) ∨ q9 / 2 = (Int32.toNatClampNeg x) := Or.inl ((nI_eq (by omega) (by omega)).mp (by rw [← e124, ← xa.1]; exact c126))
                          rw [if_pos h9] at hus
                          refine lv_iconst (v := 1) hx hb dX1_node_142 (by decide) ?_
                          refine lv_goto (tgt := 147) hx hb dX1_node_143 (by decide) ?_
                          refine lv_iadd hx hb dX1_node_147 ?_
                          refine lv_topi (fun v147 e147 => ?_)
                          have e147 : v147 = nI (ct_us g (q + 1) (Int32.toNatClampNeg x)) := by rw [e147, hus]; exact nI_1 _
                          refine lv_istore_n (lv' := [(3, .int v147), (4, .int (nI q)), (0, .ref h1), (1, .int x), (2, .int y)]) hx hb dX1_node_148 rfl hl (by decide) rfl (fun ls hl => ?_)
                          obtain ⟨v149, e149⟩ : ∃ y : Int32, y = (nI q) + 1 := ⟨_, rfl⟩
                          refine lv_iinc (v := v149) (lv' := [(4, .int v149), (3, .int v147), (0, .ref h1), (1, .int x), (2, .int y)]) hx hb dX1_node_149 hl (k := 1) rfl (by rw [e149]; rfl) (by decide) rfl (fun ls hl => ?_)
                          refine lv_goto (tgt := 95) hx hb dX1_node_152 (by decide) ?_
                          exact ih0 (q + 1) ls (by omega) ⟨by omega, by omega⟩ (by rw [← e147, ← nI_1 q, ← e149]; exact lv_sub hl [0, 1, 2, 3, 4] rfl)
                        · refine lv_aload_n hx hb dX1_node_129 rfl (lv_at hl 2 rfl) ?_
                          refine va_get (D := D) (ci := 1) (v := .ref (ad 2)) (C := RX1) (T := TX1) (N := 8) hx hb hts inX1 hown hK hP 0 rfl rfl 2 (by decide) (hts _ (mG wm_373)) (fun _ h9 => h9) rfl dX1_node_130 ?_
                          refine lv_iload hx hb dX1_node_133 (lv_at hl 0 rfl) ?_
                          refine va_iald hx hb hK hP 3 0 rfl rfl hi135 dX1_node_135 ?_
                          refine lv_topi (fun v135 e135 => ?_)
                          have e135 : v135 = nI q9 := by rw [e135, nI_clamp (by omega)]; exact i7.2
                          refine lv_iconst (v := 2) hx hb dX1_node_136 (by decide) ?_
                          refine lv_idiv hx hb dX1_node_137 (by decide) ?_
                          refine lv_topi (fun v137 e137 => ?_)
                          have e137 : v137 = nI (q9 / 2) := by rw [e137, e135]; exact ct_div2 (by omega)
                          refine lv_iload_n hx hb dX1_node_138 rfl (lv_at hl 3 rfl) ?_
                          refine lv_icmp_ne (tgt := 146) hx hb dX1_node_139 (by decide) (fun c139 => ?_) (fun c139 => ?_)
                          · have h9 : ¬ (p9 / 2 = (Int32.toNatClampNeg x) ∨ q9 / 2 = (Int32.toNatClampNeg x)) := fun z => z.elim (fun z => c126 (by rw [e124, z]; exact xa.1.symm)) (fun z => c139 (by rw [e137, z]; exact xa.1.symm))
                            rw [if_neg h9] at hus
                            refine lv_iconst (v := 0) hx hb dX1_node_146 (by decide) ?_
                            refine lv_iadd hx hb dX1_node_147 ?_
                            refine lv_topi (fun v147 e147 => ?_)
                            have e147 : v147 = nI (ct_us g (q + 1) (Int32.toNatClampNeg x)) := by rw [e147, hus]; exact Int32.add_zero _
                            refine lv_istore_n (lv' := [(3, .int v147), (4, .int (nI q)), (0, .ref h1), (1, .int x), (2, .int y)]) hx hb dX1_node_148 rfl hl (by decide) rfl (fun ls hl => ?_)
                            obtain ⟨v149, e149⟩ : ∃ y : Int32, y = (nI q) + 1 := ⟨_, rfl⟩
                            refine lv_iinc (v := v149) (lv' := [(4, .int v149), (3, .int v147), (0, .ref h1), (1, .int x), (2, .int y)]) hx hb dX1_node_149 hl (k := 1) rfl (by rw [e149]; rfl) (by decide) rfl (fun ls hl => ?_)
                            refine lv_goto (tgt := 95) hx hb dX1_node_152 (by decide) ?_
                            exact ih0 (q + 1) ls (by omega) ⟨by omega, by omega⟩ (by rw [← e147, ← nI_1 q, ← e149]; exact lv_sub hl [0, 1, 2, 3, 4] rfl)
                          · have h9 : p9 / 2 = (Int32.toNatClampNeg x) ∨ q9 / 2 = (Int32.toNatClampNeg x) := Or.inr ((nI_eq (by omega) (by omega)).mp (by rw [← e137, ← xa.1]; exact c139))
                            rw [if_pos h9] at hus
                            refine lv_iconst (v := 1) hx hb dX1_node_142 (by decide) ?_
                            refine lv_goto (tgt := 147) hx hb dX1_node_143 (by decide) ?_
                            refine lv_iadd hx hb dX1_node_147 ?_
                            refine lv_topi (fun v147 e147 => ?_)
                            have e147 : v147 = nI (ct_us g (q + 1) (Int32.toNatClampNeg x)) := by rw [e147, hus]; exact nI_1 _
                            refine lv_istore_n (lv' := [(3, .int v147), (4, .int (nI q)), (0, .ref h1), (1, .int x), (2, .int y)]) hx hb dX1_node_148 rfl hl (by decide) rfl (fun ls hl => ?_)
                            obtain ⟨v149, e149⟩ : ∃ y : Int32, y = (nI q) + 1 := ⟨_, rfl⟩
                            refine lv_iinc (v := v149) (lv' := [(4, .int v149), (3, .int v147), (0, .ref h1), (1, .int x), (2, .int y)]) hx hb dX1_node_149 hl (k := 1) rfl (by rw [e149]; rfl) (by decide) rfl (fun ls hl => ?_)
                            refine lv_goto (tgt := 95) hx hb dX1_node_152 (by decide) ?_
                            exact ih0 (q + 1) ls (by omega) ⟨by omega, by omega⟩ (by rw [← e147, ← nI_1 q, ← e149]; exact lv_sub hl [0, 1, 2, 3, 4] rfl)
                have z0 : ct_us g 1 (Int32.toNatClampNeg x) = 0 := by rw [ct_us_no (ct_zero hok.wf)]; rfl
                exact hloop0 (nc + 1) 1 ls (by omega) ⟨Nat.le_refl 1, hok.n1⟩ (by rw [z0]; exact hl)
              · have y2 : y = 1 ∨ y = 2 := by
                  rcases V.2 with z | z | z | z
                  · exact absurd z c40
                  · exact Or.inl z
                  · exact Or.inr z
                  · exact absurd (by rw [z]; decide) c52
                refine lv_aload_n hx hb dX1_node_55 rfl (lv_at hl 0 rfl) ?_
                refine va_get (D := D) (ci := 1) (v := .ref (ad 0)) (C := RX1) (T := TX1) (N := 8) hx hb hts inX1 hown hK hP 0 rfl rfl 0 (by decide) (hts _ (mG wm_371)) (fun _ h9 => h9) rfl dX1_node_56 ?_
                refine lv_iload_n hx hb dX1_node_59 rfl (lv_at hl 1 rfl) ?_
                refine va_bald hx hb hK hP 1 1 rfl rfl hi60 dX1_node_60 ?_
                refine lv_topi (fun v60 e60 => ?_)
                refine lv_iconst (v := 2) hx hb dX1_node_61 (by decide) ?_
                refine lv_icmp_ge (tgt := 69) hx hb dX1_node_62 (by decide) (fun c62 => ?_) (fun c62 => ?_)
                · have hk2 : ct_kd g (Int32.toNatClampNeg x) = 2 := by
                    rw [e60, hok.kd (Int32.toNatClampNeg x) xa.2] at c62
                    unfold ct_kd at c62 ⊢
                    by_cases z : (Int32.toNatClampNeg x) = 0
                    · rw [if_pos z] at c62; exact absurd c62 (by decide)
                    · rw [if_neg z] at c62 ⊢
                      by_cases z2 : g (Int32.toNatClampNeg x) = none
                      · rw [if_pos z2] at c62; exact absurd c62 (by decide)
                      · rw [if_neg z2]
                  obtain ⟨p9, q9, hg9⟩ := ct_kd_s hok.wf hk2
                  have i7 := hok.fs _ _ _ hg9
                  refine lv_iload_n hx hb dX1_node_69 rfl (lv_at hl 2 rfl) ?_
                  refine lv_iconst (v := 1) hx hb dX1_node_70 (by decide) ?_
                  refine lv_icmp_ne (tgt := 83) hx hb dX1_node_71 (by decide) (fun c71 => ?_) (fun c71 => ?_)
                  · refine lv_aload_n hx hb dX1_node_83 rfl (lv_at hl 0 rfl) ?_
                    refine va_get (D := D) (ci := 1) (v := .ref (ad 2)) (C := RX1) (T := TX1) (N := 8) hx hb hts inX1 hown hK hP 0 rfl rfl 2 (by decide) (hts _ (mG wm_373)) (fun _ h9 => h9) rfl dX1_node_84 ?_
                    refine lv_iload_n hx hb dX1_node_87 rfl (lv_at hl 1 rfl) ?_
                    refine va_iald hx hb hK hP 3 0 rfl rfl hi88 dX1_node_88 ?_
                    refine lv_topi (fun v88 e88 => ?_)
                    have hr9 : v88 = ct_nd nc g (Int32.toNatClampNeg x) y := by rw [e88, i7.2, ct_nd, if_neg c40, if_neg c71, if_pos (y2.resolve_left c71), ct_s, hg9]
                    exact W.iret (v := v88) hx hb hr (fun t ht hW => ⟨⟨v88, (ar, iv27), rfl, Or.inl ⟨V, (show iv27 0 = 0 by rw [e27]; exact va_up_self _ _ _), hr9, hokc⟩, by rw [ht]; exact hP, va_K.moved hW.alike hK, hD⟩, hS.F ht⟩) hS.2.2 dX1_node_89
                  · refine lv_aload_n hx hb dX1_node_74 rfl (lv_at hl 0 rfl) ?_
                    refine va_get (D := D) (ci := 1) (v := .ref (ad 1)) (C := RX1) (T := TX1) (N := 8) hx hb hts inX1 hown hK hP 0 rfl rfl 1 (by decide) (hts _ (mG wm_372)) (fun _ h9 => h9) rfl dX1_node_75 ?_
                    refine lv_iload_n hx hb dX1_node_78 rfl (lv_at hl 1 rfl) ?_
                    refine va_iald hx hb hK hP 2 0 rfl rfl hi79 dX1_node_79 ?_
                    refine lv_topi (fun v79 e79 => ?_)
                    have hr9 : v79 = ct_nd nc g (Int32.toNatClampNeg x) y := by rw [e79, i7.1, ct_nd, if_neg c40, if_pos c71, ct_f, hg9]
                    refine lv_goto (tgt := 89) hx hb dX1_node_80 (by decide) ?_
                    exact W.iret (v := v79) hx hb hr (fun t ht hW => ⟨⟨v79, (ar, iv27), rfl, Or.inl ⟨V, (show iv27 0 = 0 by rw [e27]; exact va_up_self _ _ _), hr9, hokc⟩, by rw [ht]; exact hP, va_K.moved hW.alike hK, hD⟩, hS.F ht⟩) hS.2.2 dX1_node_89
                · have hgn : g (Int32.toNatClampNeg x) = none := Classical.byContradiction fun z => c62 (by rw [e60, hok.kd (Int32.toNatClampNeg x) xa.2, (ct_kd_2 hok.wf (Int32.toNatClampNeg x)).mpr z]; decide)
                  have hr9 : (-1 : Int32) = ct_nd nc g (Int32.toNatClampNeg x) y := by
                    unfold ct_nd ct_f ct_s
                    rw [if_neg c40, hgn]
                    rcases y2 with z | z
                    · rw [if_pos z]
                    · rw [if_neg (by rw [z]; decide), if_pos z]
                  refine lv_iconst (v := -1) hx hb dX1_node_65 (by decide) ?_
                  refine lv_goto (tgt := 89) hx hb dX1_node_66 (by decide) ?_
                  exact W.iret (v := (-1)) hx hb hr (fun t ht hW => ⟨⟨(-1), (ar, iv27), rfl, Or.inl ⟨V, (show iv27 0 = 0 by rw [e27]; exact va_up_self _ _ _), hr9, hokc⟩, by rw [ht]; exact hP, va_K.moved hW.alike hK, hD⟩, hS.F ht⟩) hS.2.2 dX1_node_89
            · refine lv_aload_n hx hb dX1_node_43 rfl (lv_at hl 0 rfl) ?_
              refine va_get (D := D) (ci := 1) (v := .ref (ad 0)) (C := RX1) (T := TX1) (N := 8) hx hb hts inX1 hown hK hP 0 rfl rfl 0 (by decide) (hts _ (mG wm_371)) (fun _ h9 => h9) rfl dX1_node_44 ?_
              refine lv_iload_n hx hb dX1_node_47 rfl (lv_at hl 1 rfl) ?_
              refine va_bald hx hb hK hP 1 1 rfl rfl hi48 dX1_node_48 ?_
              refine lv_topi (fun v48 e48 => ?_)
              have hr9 : v48 = ct_nd nc g (Int32.toNatClampNeg x) y := by rw [e48, hok.kd (Int32.toNatClampNeg x) xa.2, ct_nd, if_pos c40]
              exact W.iret (v := v48) hx hb hr (fun t ht hW => ⟨⟨v48, (ar, iv27), rfl, Or.inl ⟨V, (show iv27 0 = 0 by rw [e27]; exact va_up_self _ _ _), hr9, hokc⟩, by rw [ht]; exact hP, va_K.moved hW.alike hK, hD⟩, hS.F ht⟩) hS.2.2 dX1_node_49
          · exact absurd (by rw [(show iv27 0 = 0 by rw [e27]; exact va_up_self _ _ _)]; decide) c34
set_option maxHeartbeats 4000000 in
set_option maxRecDepth 100000 in
/-- the reference: markBelow -/
theorem m_markBelow (l : Launch) (D : va_G) (h1 : Nat) (cI cB cZ : ClassId) (ad : Nat → Nat) (ar : Nat → Nat → Int32) (iv : Nat → Int32) (sz : Nat) (x : Int32) (a : Nat) (nc ic : Nat) (g : Ct) (bv : Nat → Bool) (hx0 : x = nI a) (ha2 : a < 2 * nc) (hok : mm_ok nc ic g bv ar iv) : Met l yX1_markBelow wsX1_markBelow ({ frames := 0, cells := 0, slots := 0, locals := 0 }) (mP D (mW h1 cI cB cZ ad ar iv) [(cI, .int), (cB, .byte), (cZ, .boolean)] sz [.ref h1, .int x]) (va_Qi (fun (r : Int32) (u : MS) => ((∀ k, k ≠ 4 → u.1 k = ar k) ∧ u.2 = iv ∧ r = nI (ct_cn g (a / 2) (a / 2 + 1)) ∧ ∀ i, i < nc → u.1 4 i = ct_b (ct_in g (a / 2) i))) (mm_at D cI cB cZ ad (va_A (mW h1 cI cB cZ ad ar iv) sz) h1) (va_A (mW h1 cI cB cZ ad ar iv) sz)) 0 0 (va_A (mW h1 cI cB cZ ad ar iv) sz) := by
  refine Met.ofW (cc := cX1_markBelow) (maxL := 4) (ret := (some .int)) (by decide) rfl ?_
  intro p e s m args below meth c s₁ B hml hv
  obtain ⟨rfl, hsz, hP, hK, hD0⟩ := hv
  have hx := B.exec
  have hb := B.bytes
  have hr := B.returns
  have hts := atoms_spec (ws := wsX1_markBelow) B.pre
  have hown : s.vm.findClass RX1 = some m.cls := findClass_of_methodNamed B.named
  have hlocks := B.notSynchronized
  have hl := lv_entry ([.ref h1, .int x]) (n := 4) (Nat.le_of_ble_eq_true rfl)
  rw [lg_entry_eq]
  generalize (lg_sl ([.ref h1, .int x]) ++ List.replicate (4 - (lg_sl ([.ref h1, .int x])).length) Slot.unset).toArray = ls at hl ⊢
  have hl : lv_has ls 4 [(0, .ref h1), (1, .int x)] := hl
  subst hsz
  have hD := hD0.self (sz := s.heap.size)
  generalize hAe : va_A (mW h1 cI cB cZ ad ar iv) s.heap.size = A at hD ⊢
  have hA : ∀ q : Nat, s.heap.size ≤ q → A q := fun q h => by rw [← hAe]; exact Or.inr h
  have hS : va_S A s.heap s.heap [] := va_S.rf
  have hmx := hok.mx
  have hn1 := hok.n1
  refine lv_iconst (v := 0) hx hb dX1_markBelow_0 (by decide) ?_
  refine lv_istore_n (lv' := [(2, .int 0), (0, .ref h1), (1, .int x)]) hx hb dX1_markBelow_1 rfl hl (by decide) rfl (fun ls hl => ?_)
  have hloop0 : ∀ (k : Nat) (q : Nat) (a2 : Nat → Nat → Int32) (H : Heap) (locs : List Loc) (ls : Array Slot), nc - q < k → (q ≤ nc ∧ (∀ k, k ≠ 4 → a2 k = ar k) ∧ ∀ i, i < q → a2 4 i = if i = a / 2 then 1 else 0) → va_P D vwCl (mW h1 cI cB cZ ad a2 iv) H → va_D A (mW h1 cI cB cZ ad a2 iv) → va_S A s.heap H locs → lv_has ls 4 [(2, .int (nI q)), (0, .ref h1), (1, .int x)] → W p l e (headSpec wsX1_markBelow ({ frames := 0, cells := 0, slots := 0, locals := 0 })).room s m ([.ref h1, .int x] : List Value).toArray below meth c H locs 0 0 (MQ below (va_Qi (fun (r : Int32) (u : MS) => ((∀ k, k ≠ 4 → u.1 k = ar k) ∧ u.2 = iv ∧ r = nI (ct_cn g (a / 2) (a / 2 + 1)) ∧ ∀ i, i < nc → u.1 4 i = ct_b (ct_in g (a / 2) i))) (mm_at D cI cB cZ ad A h1) A) ([.ref h1, .int x] : List Value).toArray s 0 0 A) (F0 m 2 ls []) := by
    intro k
    induction k with
    | zero => intro q a2 H locs ls h; omega
    | succ k ih0 =>
      intro q a2 H locs ls hqk hinv hP hD hS hl
      obtain ⟨i1, i2, i3⟩ := hinv
      refine lv_iload_n hx hb dX1_markBelow_2 rfl (lv_at hl 0 rfl) ?_
      refine lv_aload_n hx hb dX1_markBelow_3 rfl (lv_at hl 1 rfl) ?_
      refine va_get (D := D) (ci := 1) (v := .int (iv 1)) (C := RX1) (T := TX1) (N := 8) hx hb hts inX1 hown hK hP 0 rfl rfl 6 (by decide) (hts _ (mG wm_369)) (fun _ h9 => h9) rfl dX1_markBelow_4 ?_
      refine lv_icmp_ge (tgt := 34) hx hb dX1_markBelow_7 (by decide) (fun c7 => ?_) (fun c7 => ?_)
      · have c7 : nc ≤ q := by
          rw [hok.nc] at c7
          exact (nI_leI (by omega) (by omega)).mp c7
        obtain ⟨m9, hm9⟩ : ∃ m9, nc = m9 + 1 := ⟨nc - 1, by omega⟩
        refine lv_iconst (v := 0) hx hb dX1_markBelow_34 (by decide) ?_
        refine lv_istore_n (lv' := [(2, .int 0), (0, .ref h1), (1, .int x)]) hx hb dX1_markBelow_35 rfl hl (by decide) rfl (fun ls hl => ?_)
        refine lv_aload_n hx hb dX1_markBelow_36 rfl (lv_at hl 1 rfl) ?_
        refine va_get (D := D) (ci := 1) (v := .int (iv 1)) (C := RX1) (T := TX1) (N := 8) hx hb hts inX1 hown hK hP 0 rfl rfl 6 (by decide) (hts _ (mG wm_369)) (fun _ h9 => h9) rfl dX1_markBelow_37 ?_
        refine lv_iconst (v := 1) hx hb dX1_markBelow_40 (by decide) ?_
        refine lv_isub hx hb dX1_markBelow_41 ?_
        refine lv_topi (fun v41 e41 => ?_)
        have e41 : v41 = nI m9 := by rw [e41, hok.nc, hm9]; exact nI_pred m9
        refine lv_istore_n (lv' := [(3, .int v41), (2, .int 0), (0, .ref h1), (1, .int x)]) hx hb dX1_markBelow_42 rfl hl (by decide) rfl (fun ls hl => ?_)
        have hloop1 : ∀ (k : Nat) (q : Nat) (c0 : Nat) (a3 : Nat → Nat → Int32) (H : Heap) (locs : List Loc) (ls : Array Slot), q < k → (q < nc ∧ (∀ k, k ≠ 4 → a3 k = ar k) ∧ md_mk nc g (a / 2) q (a3 4) ∧ c0 + ct_cn g (a / 2) (q + 1) = ct_cn g (a / 2) nc) → va_P D vwCl (mW h1 cI cB cZ ad a3 iv) H → va_D A (mW h1 cI cB cZ ad a3 iv) → va_S A s.heap H locs → lv_has ls 4 [(3, .int (nI q)), (2, .int (nI c0)), (0, .ref h1), (1, .int x)] → W p l e (headSpec wsX1_markBelow ({ frames := 0, cells := 0, slots := 0, locals := 0 })).room s m ([.ref h1, .int x] : List Value).toArray below meth c H locs 0 0 (MQ below (va_Qi (fun (r : Int32) (u : MS) => ((∀ k, k ≠ 4 → u.1 k = ar k) ∧ u.2 = iv ∧ r = nI (ct_cn g (a / 2) (a / 2 + 1)) ∧ ∀ i, i < nc → u.1 4 i = ct_b (ct_in g (a / 2) i))) (mm_at D cI cB cZ ad A h1) A) ([.ref h1, .int x] : List Value).toArray s 0 0 A) (F0 m 43 ls []) := by
          intro k
          induction k with
          | zero => intro q c0 a3 H locs ls h; omega
          | succ k ih1 =>
            intro q c0 a3 H locs ls hqk hinv hP hD hS hl
            obtain ⟨j1, j2, j3, j4⟩ := hinv
            refine lv_iload_n hx hb dX1_markBelow_43 rfl (lv_at hl 0 rfl) ?_
            refine lv_if_le (tgt := 104) hx hb dX1_markBelow_44 (by decide) (fun c44 => ?_) (fun c44 => ?_)
            · have c44 : q = 0 := by
                have := (nI_leI (a := q) (b := 0) (by omega) (by omega)).mp c44
                omega
              have hend := md_mk_end hok.wf (show md_mk nc g (a / 2) 0 (a3 4) by rw [c44] at j3; exact j3)
              have htot : c0 = ct_cn g (a / 2) (a / 2 + 1) := by
                have w8 := ct_cn_1 (t := a / 2) hok.wf
                have w9 := ct_cn_top (t := a / 2) hok.wf (nc - (a / 2 + 1))
                rw [show a / 2 + 1 + (nc - (a / 2 + 1)) = nc by omega] at w9
                rw [c44, show 0 + 1 = 1 from rfl] at j4
                omega
              refine lv_iload_n hx hb dX1_markBelow_104 rfl (lv_at hl 1 rfl) ?_
              exact W.iret (v := (nI c0)) hx hb hr (fun t ht hW => ⟨⟨(nI c0), (a3, iv), rfl, ⟨j2, rfl, by rw [htot], hend⟩, by rw [ht]; exact hP, va_K.moved hW.alike hK, hD⟩, hS.F ht⟩) hS.2.2 dX1_markBelow_105
            · have c44 : 0 < q := Nat.pos_of_ne_zero fun z => c44 (by rw [z]; decide)
              have hi52 : vp_in (nI q) 20000 := vp_in_nI (by omega) (by omega)
              have hi62 := hi52
              have hi76 := hi52
              have hi90 := hi52
              refine lv_aload_n hx hb dX1_markBelow_47 rfl (lv_at hl 2 rfl) ?_
              refine va_get (D := D) (ci := 1) (v := .ref (ad 4)) (C := RX1) (T := TX1) (N := 8) hx hb hts inX1 hown hK hP 0 rfl rfl 4 (by decide) (hts _ (mG wm_375)) (fun _ h9 => h9) rfl dX1_markBelow_48 ?_
              refine lv_iload_n hx hb dX1_markBelow_51 rfl (lv_at hl 0 rfl) ?_
              refine va_iald hx hb hK hP 5 0 rfl rfl hi52 dX1_markBelow_52 ?_
              refine lv_topi (fun v52 e52 => ?_)
              have e52 : v52 = a3 4 q := by rw [e52, nI_clamp (by omega)]
              refine lv_iconst (v := 1) hx hb dX1_markBelow_53 (by decide) ?_
              refine lv_icmp_ne (tgt := 98) hx hb dX1_markBelow_54 (by decide) (fun c54 => ?_) (fun c54 => ?_)
              · have hk9 := md_mk_no hok.wf j3 c44 (fun z => absurd (e52.trans z) c54)
                obtain ⟨v98, e98⟩ : ∃ y : Int32, y = (nI q) + (-1) := ⟨_, rfl⟩
                refine lv_iinc (v := v98) (lv' := [(3, .int v98), (2, .int (nI c0)), (0, .ref h1), (1, .int x)]) hx hb dX1_markBelow_98 hl (k := 0) rfl (by rw [e98]; rfl) (by decide) rfl (fun ls hl => ?_)
                refine lv_goto (tgt := 43) hx hb dX1_markBelow_101 (by decide) ?_
                have hk8 := hk9.2
                exact ih1 (q - 1) c0 a3 _ _ ls (by omega) ⟨by omega, j2, hk9.1, by rw [show q - 1 + 1 = q by omega]; omega⟩ hP hD hS (by rw [← ct_dec c44, ← e98]; exact lv_sub hl [0, 1, 2, 3] rfl)
              · refine lv_aload_n hx hb dX1_markBelow_57 rfl (lv_at hl 2 rfl) ?_
                refine va_get (D := D) (ci := 1) (v := .ref (ad 0)) (C := RX1) (T := TX1) (N := 8) hx hb hts inX1 hown hK hP 0 rfl rfl 0 (by decide) (hts _ (mG wm_371)) (fun _ h9 => h9) rfl dX1_markBelow_58 ?_
                refine lv_iload_n hx hb dX1_markBelow_61 rfl (lv_at hl 0 rfl) ?_
                refine va_bald hx hb hK hP 1 1 rfl rfl hi62 dX1_markBelow_62 ?_
                refine lv_topi (fun v62 e62 => ?_)
                have e62 : v62 = ct_kd g q := by rw [e62, nI_clamp (by omega), j2 0 (by decide)]; exact hok.kd q j1
                refine lv_iconst (v := 2) hx hb dX1_markBelow_63 (by decide) ?_
                refine lv_icmp_ne (tgt := 98) hx hb dX1_markBelow_64 (by decide) (fun c64 => ?_) (fun c64 => ?_)
                · have hgn : g q = none := Classical.byContradiction fun z => c64 (e62.trans ((ct_kd_2 hok.wf q).mpr z))
                  have hk9 := md_mk_no hok.wf j3 c44 (fun _ => hgn)
                  obtain ⟨v98, e98⟩ : ∃ y : Int32, y = (nI q) + (-1) := ⟨_, rfl⟩
                  refine lv_iinc (v := v98) (lv' := [(3, .int v98), (2, .int (nI c0)), (0, .ref h1), (1, .int x)]) hx hb dX1_markBelow_98 hl (k := 0) rfl (by rw [e98]; rfl) (by decide) rfl (fun ls hl => ?_)
                  refine lv_goto (tgt := 43) hx hb dX1_markBelow_101 (by decide) ?_
                  have hk8 := hk9.2
                  exact ih1 (q - 1) c0 a3 _ _ ls (by omega) ⟨by omega, j2, hk9.1, by rw [show q - 1 + 1 = q by omega]; omega⟩ hP hD hS (by rw [← ct_dec c44, ← e98]; exact lv_sub hl [0, 1, 2, 3] rfl)
                · obtain ⟨p9, q9, hg9⟩ := ct_kd_s hok.wf (e62.symm.trans c64)
                  have i7 := hok.fs _ _ _ hg9
                  have i8 := hok.lt hg9
                  refine lv_aload_n hx hb dX1_markBelow_67 rfl (lv_at hl 2 rfl) ?_
                  refine va_get (D := D) (ci := 1) (v := .ref (ad 4)) (C := RX1) (T := TX1) (N := 8) hx hb hts inX1 hown hK hP 0 rfl rfl 4 (by decide) (hts _ (mG wm_375)) (fun _ h9 => h9) rfl dX1_markBelow_68 ?_
                  refine lv_aload_n hx hb dX1_markBelow_71 rfl (lv_at hl 2 rfl) ?_
                  refine va_get (D := D) (ci := 1) (v := .ref (ad 1)) (C := RX1) (T := TX1) (N := 8) hx hb hts inX1 hown hK hP 0 rfl rfl 1 (by decide) (hts _ (mG wm_372)) (fun _ h9 => h9) rfl dX1_markBelow_72 ?_
                  refine lv_iload_n hx hb dX1_markBelow_75 rfl (lv_at hl 0 rfl) ?_
                  refine va_iald hx hb hK hP 2 0 rfl rfl hi76 dX1_markBelow_76 ?_
                  refine lv_topi (fun v76 e76 => ?_)
                  have e76 : v76 = nI p9 := by rw [e76, nI_clamp (by omega), j2 1 (by decide)]; exact i7.1
                  refine lv_iconst (v := 1) hx hb dX1_markBelow_77 (by decide) ?_
                  refine lv_ishr hx hb dX1_markBelow_78 ?_
                  refine lv_topi (fun v78 e78 => ?_)
                  have e78 : v78 = nI (p9 / 2) := by rw [e78, e76]; exact ct_shr (by omega)
                  have hi80 : vp_in v78 20000 := by rw [e78]; exact vp_in_nI (by omega) (by omega)
                  refine lv_iconst (v := 1) hx hb dX1_markBelow_79 (by decide) ?_
                  refine va_iast hx hb hK hP hD hS 5 0 rfl rfl hi80 dX1_markBelow_80 (fun H locs hP hD hS => ?_)
                  obtain ⟨ar80, e80⟩ : ∃ zz : Nat → Nat → Int32, zz = va_up a3 4 (upd (a3 4) (Int32.toNatClampNeg v78) 1) := ⟨_, rfl⟩
                  have hP : va_P D vwCl (mW h1 cI cB cZ ad ar80 iv) H := by rw [e80]; exact hP
                  have hD : va_D A (mW h1 cI cB cZ ad ar80 iv) := by rw [e80]; exact hD
                  rw [e78, nI_clamp (by omega)] at e80
                  refine lv_aload_n hx hb dX1_markBelow_81 rfl (lv_at hl 2 rfl) ?_
                  refine va_get (D := D) (ci := 1) (v := .ref (ad 4)) (C := RX1) (T := TX1) (N := 8) hx hb hts inX1 hown hK hP 0 rfl rfl 4 (by decide) (hts _ (mG wm_375)) (fun _ h9 => h9) rfl dX1_markBelow_82 ?_
                  refine lv_aload_n hx hb dX1_markBelow_85 rfl (lv_at hl 2 rfl) ?_
                  refine va_get (D := D) (ci := 1) (v := .ref (ad 2)) (C := RX1) (T := TX1) (N := 8) hx hb hts inX1 hown hK hP 0 rfl rfl 2 (by decide) (hts _ (mG wm_373)) (fun _ h9 => h9) rfl dX1_markBelow_86 ?_
                  refine lv_iload_n hx hb dX1_markBelow_89 rfl (lv_at hl 0 rfl) ?_
                  refine va_iald hx hb hK hP 3 0 rfl rfl hi90 dX1_markBelow_90 ?_
                  refine lv_topi (fun v90 e90 => ?_)
                  have e90 : v90 = nI q9 := by rw [e90, nI_clamp (by omega), e80, va_up_ne _ _ (by decide), j2 2 (by decide)]; exact i7.2
                  refine lv_iconst (v := 1) hx hb dX1_markBelow_91 (by decide) ?_
                  refine lv_ishr hx hb dX1_markBelow_92 ?_
                  refine lv_topi (fun v92 e92 => ?_)
                  have e92 : v92 = nI (q9 / 2) := by rw [e92, e90]; exact ct_shr (by omega)
                  have hi94 : vp_in v92 20000 := by rw [e92]; exact vp_in_nI (by omega) (by omega)
                  refine lv_iconst (v := 1) hx hb dX1_markBelow_93 (by decide) ?_
                  refine va_iast hx hb hK hP hD hS 5 0 rfl rfl hi94 dX1_markBelow_94 (fun H locs hP hD hS => ?_)
                  obtain ⟨ar94, e94⟩ : ∃ zz : Nat → Nat → Int32, zz = va_up ar80 4 (upd (ar80 4) (Int32.toNatClampNeg v92) 1) := ⟨_, rfl⟩
                  have hP : va_P D vwCl (mW h1 cI cB cZ ad ar94 iv) H := by rw [e94]; exact hP
                  have hD : va_D A (mW h1 cI cB cZ ad ar94 iv) := by rw [e94]; exact hD
                  rw [e92, nI_clamp (by omega)] at e94
                  have hk9 := md_mk_yes hok.wf j3 c44 j1 (e52.symm.trans c54) hg9 (show ar94 4 = upd (upd (a3 4) (p9 / 2) 1) (q9 / 2) 1 by rw [e94, va_up_self, e80, va_up_self])
                  have j5 : ∀ k, k ≠ 4 → ar94 k = ar k := fun k hk => by rw [e94, va_up_ne _ _ hk, e80, va_up_ne _ _ hk]; exact j2 k hk
                  obtain ⟨v95, e95⟩ : ∃ y : Int32, y = (nI c0) + 1 := ⟨_, rfl⟩
                  refine lv_iinc (v := v95) (lv' := [(2, .int v95), (3, .int (nI q)), (0, .ref h1), (1, .int x)]) hx hb dX1_markBelow_95 hl (k := 1) rfl (by rw [e95]; rfl) (by decide) rfl (fun ls hl => ?_)
                  obtain ⟨v98, e98⟩ : ∃ y : Int32, y = (nI q) + (-1) := ⟨_, rfl⟩
                  refine lv_iinc (v := v98) (lv' := [(3, .int v98), (2, .int v95), (0, .ref h1), (1, .int x)]) hx hb dX1_markBelow_98 hl (k := 1) rfl (by rw [e98]; rfl) (by decide) rfl (fun ls hl => ?_)
                  refine lv_goto (tgt := 43) hx hb dX1_markBelow_101 (by decide) ?_
                  have hk8 := hk9.2
                  exact ih1 (q - 1) (c0 + 1) ar94 _ _ ls (by omega) ⟨by omega, j5, hk9.1, by rw [show q - 1 + 1 = q by omega]; omega⟩ hP hD hS (by rw [← nI_1 c0, ← e95, ← ct_dec c44, ← e98]; exact lv_sub hl [0, 1, 2, 3] rfl)
        have hm8 := md_mk0 hok.wf (fun i hi => i3 i (by omega)) (show a / 2 < nc by omega)
        rw [show nc - 1 = m9 by omega] at hm8
        exact hloop1 nc m9 0 a2 _ _ ls (by omega) ⟨by omega, i2, hm8, by rw [Nat.zero_add, hm9]⟩ hP hD hS (by rw [nI_0, ← e41]; exact hl)
      · have c7 : q < nc := Nat.not_le.mp fun z => c7 (by rw [hok.nc]; exact nI_le z (by omega))
        have hi27 : vp_in (nI q) 20000 := vp_in_nI (by omega) (by omega)
        refine lv_aload_n hx hb dX1_markBelow_10 rfl (lv_at hl 1 rfl) ?_
        refine va_get (D := D) (ci := 1) (v := .ref (ad 4)) (C := RX1) (T := TX1) (N := 8) hx hb hts inX1 hown hK hP 0 rfl rfl 4 (by decide) (hts _ (mG wm_375)) (fun _ h9 => h9) rfl dX1_markBelow_11 ?_
        refine lv_iload_n hx hb dX1_markBelow_14 rfl (lv_at hl 0 rfl) ?_
        refine lv_iload_n hx hb dX1_markBelow_15 rfl (lv_at hl 0 rfl) ?_
        refine lv_iload_n hx hb dX1_markBelow_16 rfl (lv_at hl 2 rfl) ?_
        refine lv_iconst (v := 1) hx hb dX1_markBelow_17 (by decide) ?_
        refine lv_ishr hx hb dX1_markBelow_18 ?_
        refine lv_topi (fun v18 e18 => ?_)
        have e18 : v18 = nI (a / 2) := by rw [e18, hx0]; exact ct_shr (by omega)
        refine lv_icmp_ne (tgt := 26) hx hb dX1_markBelow_19 (by decide) (fun c19 => ?_) (fun c19 => ?_)
        · have hb9 : (0 : Int32) = if q = a / 2 then 1 else 0 := (if_neg (fun z => c19 (by rw [e18, z]))).symm
          refine lv_iconst (v := 0) hx hb dX1_markBelow_26 (by decide) ?_
          refine va_iast hx hb hK hP hD hS 5 0 rfl rfl hi27 dX1_markBelow_27 (fun H locs hP hD hS => ?_)
          obtain ⟨ar27, e27⟩ : ∃ zz : Nat → Nat → Int32, zz = va_up a2 4 (upd (a2 4) (Int32.toNatClampNeg (nI q)) 0) := ⟨_, rfl⟩
          have hP : va_P D vwCl (mW h1 cI cB cZ ad ar27 iv) H := by rw [e27]; exact hP
          have hD : va_D A (mW h1 cI cB cZ ad ar27 iv) := by rw [e27]; exact hD
          rw [nI_clamp (by omega), hb9] at e27
          have i4 : ∀ k, k ≠ 4 → ar27 k = ar k := fun k hk => by rw [e27, va_up_ne _ _ hk]; exact i2 k hk
          have i5 : ∀ i, i < q + 1 → ar27 4 i = if i = a / 2 then 1 else 0 := fun i hi => by
            rw [e27, va_up_self]
            by_cases z : i = q
            · rw [z, pk_us]
            · rw [pk_un z]; exact i3 i (by omega)
          obtain ⟨v28, e28⟩ : ∃ y : Int32, y = (nI q) + 1 := ⟨_, rfl⟩
          refine lv_iinc (v := v28) (lv' := [(2, .int v28), (0, .ref h1), (1, .int x)]) hx hb dX1_markBelow_28 hl (k := 0) rfl (by rw [e28]; rfl) (by decide) rfl (fun ls hl => ?_)
          refine lv_goto (tgt := 2) hx hb dX1_markBelow_31 (by decide) ?_
          exact ih0 (q + 1) ar27 _ _ ls (by omega) ⟨by omega, i4, i5⟩ hP hD hS (by rw [← nI_1]; rw [e28] at hl; exact hl)
        · have hb9 : (1 : Int32) = if q = a / 2 then 1 else 0 := (if_pos ((nI_eq (by omega) (by omega)).mp (c19.trans e18))).symm
          refine lv_iconst (v := 1) hx hb dX1_markBelow_22 (by decide) ?_
          refine lv_goto (tgt := 27) hx hb dX1_markBelow_23 (by decide) ?_
          refine va_iast hx hb hK hP hD hS 5 0 rfl rfl hi27 dX1_markBelow_27 (fun H locs hP hD hS => ?_)
          obtain ⟨ar27, e27⟩ : ∃ zz : Nat → Nat → Int32, zz = va_up a2 4 (upd (a2 4) (Int32.toNatClampNeg (nI q)) 1) := ⟨_, rfl⟩
          have hP : va_P D vwCl (mW h1 cI cB cZ ad ar27 iv) H := by rw [e27]; exact hP
          have hD : va_D A (mW h1 cI cB cZ ad ar27 iv) := by rw [e27]; exact hD
          rw [nI_clamp (by omega), hb9] at e27
          have i4 : ∀ k, k ≠ 4 → ar27 k = ar k := fun k hk => by rw [e27, va_up_ne _ _ hk]; exact i2 k hk
          have i5 : ∀ i, i < q + 1 → ar27 4 i = if i = a / 2 then 1 else 0 := fun i hi => by
            rw [e27, va_up_self]
            by_cases z : i = q
            · rw [z, pk_us]
            · rw [pk_un z]; exact i3 i (by omega)
          obtain ⟨v28, e28⟩ : ∃ y : Int32, y = (nI q) + 1 := ⟨_, rfl⟩
          refine lv_iinc (v := v28) (lv' := [(2, .int v28), (0, .ref h1), (1, .int x)]) hx hb dX1_markBelow_28 hl (k := 0) rfl (by rw [e28]; rfl) (by decide) rfl (fun ls hl => ?_)
          refine lv_goto (tgt := 2) hx hb dX1_markBelow_31 (by decide) ?_
          exact ih0 (q + 1) ar27 _ _ ls (by omega) ⟨by omega, i4, i5⟩ hP hD hS (by rw [← nI_1]; rw [e28] at hl; exact hl)
  exact hloop0 (nc + 1) 0 ar _ _ ls (by omega) ⟨Nat.zero_le _, fun _ _ => rfl, fun i hi => absurd hi (by omega)⟩ hP hD hS (by rw [nI_0]; exact hl)
