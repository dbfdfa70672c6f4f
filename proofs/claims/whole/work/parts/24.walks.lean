set_option maxHeartbeats 4000000 in
set_option maxRecDepth 100000 in
/-- settle -/
theorem c_settle (l : Launch) (D : va_G) (h0 : Nat) (cI : ClassId) (n : Nat) (ad : Nat → Nat) (ar : Nat → Nat → Int32) (iv : Nat → Int32) (sz : Nat) (x : Int32) (top : Nat) (nc ic : Nat) (g : Ct) (bv : Nat → Bool) (hx0 : x = nI top) (htop : top < nc) (hok : gb_ok n nc ic g bv ar iv) : Met l yX0_settle wsX0_settle ({ frames := 1, cells := 0, slots := 0, locals := 21 }) (mP D (gW h0 cI n ad ar iv) [(cI, .int)] sz [.ref h0, .int x]) (va_Qv (fun u : GS => u.1 = n ∧ gb_ok n nc ic g bv u.2.2.1 u.2.2.2 ∧ ∀ i, i ≤ top → u.2.2.1 4 i = ct_b (ct_vl g bv i)) (gb_at D cI (va_A (gW h0 cI n ad ar iv) sz) h0) (va_A (gW h0 cI n ad ar iv) sz)) (0) (0) (va_A (gW h0 cI n ad ar iv) sz) := by
  refine Met.ofW (cc := cX0_settle) (maxL := 3) (ret := none) (by decide) rfl ?_
  intro p e s m args below meth c s₁ B hml hv
  obtain ⟨rfl, hsz, hP, hK, hD0⟩ := hv
  have hx := B.exec
  have hb := B.bytes
  have hr := B.returns
  have hts := atoms_spec (ws := wsX0_settle) B.pre
  have hown : s.vm.findClass RX0 = some m.cls := findClass_of_methodNamed B.named
  have hlocks := B.notSynchronized
  have hl := lv_entry ([.ref h0, .int x]) (n := 3) (Nat.le_of_ble_eq_true rfl)
  rw [lg_entry_eq]
  generalize (lg_sl ([.ref h0, .int x]) ++ List.replicate (3 - (lg_sl ([.ref h0, .int x])).length) Slot.unset).toArray = ls at hl ⊢
  have hl : lv_has ls 3 [(0, .ref h0), (1, .int x)] := hl
  subst hsz
  have hD := hD0.self (sz := s.heap.size)
  generalize hAe : va_A (gW h0 cI n ad ar iv) s.heap.size = A at hD ⊢
  have hA : ∀ q : Nat, s.heap.size ≤ q → A q := fun q h => by rw [← hAe]; exact Or.inr h
  have hS : va_S A s.heap s.heap [] := va_S.rf
  have hnc := hok.nc
  have hct := hok.ct
  have hwf := hok.wf
  have hle := hct.2.1
  have hb9 := hct.2.2.1
  obtain ⟨st, s1, s2, s3, s4⟩ := hok.st
  refine lv_aload_n hx hb dX0_settle_0 rfl (lv_at hl 0 rfl) ?_
  refine va_get (D := D) (ci := 0) (v := .int (iv 2)) (C := RX0) (T := TX0) (N := 11) hx hb hts inX0 hown hK hP 0 rfl rfl 10 (by decide) (hts _ (mG wm_63)) (fun _ h9 => h9) rfl dX0_settle_1 ?_
  refine lv_istore_n (lv' := [(2, .int (iv 2)), (0, .ref h0), (1, .int x)]) hx hb dX0_settle_4 rfl hl (by decide) rfl (fun ls hl => ?_)
  have hloop0 : ∀ (k : Nat) (q : Nat) (a1 : Nat → Nat → Int32) (H : Heap) (locs : List Loc) (ls : Array Slot), top + 1 - q < k → (st ≤ q ∧ (q ≤ top + 1 ∨ q = st) ∧ gb_ok n nc ic g bv a1 iv ∧ ∀ i, i < q → a1 4 i = ct_b (ct_vl g bv i)) → va_P D vwCl (gW h0 cI n ad a1 iv) H → va_D A (gW h0 cI n ad a1 iv) → va_S A s.heap H locs → lv_has ls 3 [(2, .int (nI q)), (0, .ref h0), (1, .int x)] → W p l e (headSpec wsX0_settle ({ frames := 1, cells := 0, slots := 0, locals := 21 })).room s m ([.ref h0, .int x] : List Value).toArray below meth c H locs (0) (0) (MQ below (va_Qv (fun u : GS => u.1 = n ∧ gb_ok n nc ic g bv u.2.2.1 u.2.2.2 ∧ ∀ i, i ≤ top → u.2.2.1 4 i = ct_b (ct_vl g bv i)) (gb_at D cI A h0) A) ([.ref h0, .int x] : List Value).toArray s (0) (0) A) (F0 m 5 ls []) := by
    intro k
    induction k with
    | zero => intro q a1 H locs ls h; omega
    | succ k ih =>
      intro q a1 H locs ls hqk hinv hP hD hS hl
      obtain ⟨i1, i2, i3, i4⟩ := hinv
      have hct1 := i3.ct
      refine lv_iload_n hx hb dX0_settle_5 rfl (lv_at hl 0 rfl) ?_
      refine lv_iload_n hx hb dX0_settle_6 rfl (lv_at hl 2 rfl) ?_
      refine lv_icmp_gt (tgt := 51) hx hb dX0_settle_7 (by decide) (fun c7 => ?_) (fun c7 => ?_)
      · have c7 : top < q := by
          rw [hx0] at c7
          exact (nI_ltI (by omega) (by omega)).mp c7
        refine lv_aload_n hx hb dX0_settle_51 rfl (lv_at hl 1 rfl) ?_
        refine lv_aload_n hx hb dX0_settle_52 rfl (lv_at hl 1 rfl) ?_
        refine va_get (D := D) (ci := 0) (v := .int (iv 2)) (C := RX0) (T := TX0) (N := 11) hx hb hts inX0 hown hK hP 0 rfl rfl 10 (by decide) (hts _ (mG wm_63)) (fun _ h9 => h9) rfl dX0_settle_53 ?_
        refine lv_iload_n hx hb dX0_settle_56 rfl (lv_at hl 2 rfl) ?_
        refine lv_iconst (v := 1) hx hb dX0_settle_57 (by decide) ?_
        refine lv_iadd hx hb dX0_settle_58 ?_
        refine lv_topi (fun v58 e58 => ?_)
        refine va_mmax hx hb (by rw [hml]; exact hl.1.symm) hown (hts _ (mG wm_228)) (hts _ (mG wm_229)) (hts _ (mG wm_42)) (hts _ (mG wm_230)) (Nat.le_of_ble_eq_true rfl) (Nat.le_of_ble_eq_true rfl) (Nat.zero_le _) (Nat.zero_le _) dX0_settle_59 ?_
        refine lv_topi (fun v59 e59 => ?_)
        have e59 : v59 = nI (max st (top + 1)) := by rw [e59, s1, e58, hx0, nI_1]; exact ct_imax (by omega) (by omega)
        refine va_put (D := D) (ci := 0) (v := .int v59) (ty := .int) (C := RX0) (T := TX0) (N := 11) hx hb hts inX0 tyX0 tyX0_ok nmX0 hown hK hP hD hS 0 rfl rfl 10 (by decide) (hts _ (mG wm_63)) (fun _ h9 => h9) rfl (by decide +kernel) rfl rfl (Nat.le_of_ble_eq_true rfl) dX0_settle_62 (fun H locs hP hD hS => ?_)
        obtain ⟨iv62, e62⟩ : ∃ zz : Nat → Int32, zz = va_up iv 2 v59 := ⟨_, rfl⟩
        have hP : va_P D vwCl (gW h0 cI n ad a1 iv62) H := by rw [e62]; exact hP
        have hD : va_D A (gW h0 cI n ad a1 iv62) := by rw [e62]; exact hD
        rw [e59] at e62
        exact W.vret hx hb hr (fun t ht hW => ⟨⟨(n, ad, a1, iv62), rfl, ⟨rfl, gb_ok_st i3 (st := max st (top + 1)) (by omega) (by omega) (fun i hi => i4 i (by omega)) e62, fun i hi => i4 i (by omega)⟩, by rw [ht]; exact hP, va_K.moved hW.alike hK, hD⟩, hS.F ht⟩) hS.2.2 dX0_settle_65
      · refine lv_aload_n hx hb dX0_settle_10 rfl (lv_at hl 1 rfl) ?_
        refine lv_iload_n hx hb dX0_settle_11 rfl (lv_at hl 0 rfl) ?_
        have c7 : q ≤ top := by
          rw [hx0] at c7
          exact Nat.not_lt.mp fun z => c7 (nI_lt z (by omega))
        have hc12 : vp_in (nI q) n := vp_in_nI (by omega) (by omega)
        refine vp_callSi (W.runV (As := [.int (nI q)]) (rest := []) ⟨hx, hb, hml, hown, hts⟩ (c_isGate l D h0 cI n ad a1 iv (nI q) hc12) (cwV 1 hts gX0_settle_X0_isGate rfl rfl rfl (by decide +kernel) ⟨Nat.le_of_ble_eq_true rfl, Nat.le_of_ble_eq_true rfl⟩) (rP_V hK hP (va_recv hK hP (ci := 0) (q0 := 0) rfl rfl)) rfl rfl hl.1 rfl (lv_room (Nat.le_of_ble_eq_true rfl)) dX0_settle_12 ⟨Nat.zero_le _, Nat.zero_le _⟩) (fun r12 e12 => ?_)
        refine lv_if_eq (tgt := 45) hx hb dX0_settle_15 (by decide) (fun c15 => ?_) (fun c15 => ?_)
        · have c15 : g q = none := (gb_gate_n hct1 (by omega)).mp (by rw [← e12]; exact c15)
          have i9 : gb_ok n nc ic g bv a1 iv := i3
          have i10 : ∀ i, i < q + 1 → a1 4 i = ct_b (ct_vl g bv i) := lt_s i4 (by rw [i3.vi q (by omega) c15, ct_vl_n c15])
          obtain ⟨v45, e45⟩ : ∃ y : Int32, y = (nI q) + 1 := ⟨_, rfl⟩
          refine lv_iinc (v := v45) (lv' := [(2, .int v45), (0, .ref h0), (1, .int x)]) hx hb dX0_settle_45 hl (k := 0) rfl (by rw [e45]; rfl) (by decide) rfl (fun ls hl => ?_)
          refine lv_goto (tgt := 5) hx hb dX0_settle_48 (by decide) ?_
          exact ih (q + 1) a1 _ _ ls (by omega) ⟨by omega, by omega, i9, i10⟩ hP hD hS (by rw [← nI_1, ← e45]; exact hl)
        · have c15 : ¬ g q = none := fun z => c15 (by rw [e12]; exact (gb_gate_n hct1 (by omega)).mpr z)
          obtain ⟨⟨u9, v9⟩, i5⟩ := Option.ne_none_iff_exists'.mp c15
          have i7 := ct_at_f hct1 i5
          have i8 := ct_at_lt hct1 i5
          have hi29 := hc12
          have hi39 := hc12
          have hi44 := hc12
          refine lv_aload_n hx hb dX0_settle_18 rfl (lv_at hl 1 rfl) ?_
          refine va_get (D := D) (ci := 0) (v := .ref (ad 4)) (C := RX0) (T := TX0) (N := 11) hx hb hts inX0 hown hK hP 0 rfl rfl 4 (by decide) (hts _ (mG wm_57)) (fun _ h9 => h9) rfl dX0_settle_19 ?_
          refine lv_iload_n hx hb dX0_settle_22 rfl (lv_at hl 0 rfl) ?_
          refine lv_aload_n hx hb dX0_settle_23 rfl (lv_at hl 1 rfl) ?_
          refine lv_aload_n hx hb dX0_settle_24 rfl (lv_at hl 1 rfl) ?_
          refine va_get (D := D) (ci := 0) (v := .ref (ad 0)) (C := RX0) (T := TX0) (N := 11) hx hb hts inX0 hown hK hP 0 rfl rfl 0 (by decide) (hts _ (mG wm_53)) (fun _ h9 => h9) rfl dX0_settle_25 ?_
          refine lv_iload_n hx hb dX0_settle_28 rfl (lv_at hl 0 rfl) ?_
          refine va_iald hx hb hK hP 1 0 rfl rfl hi29 dX0_settle_29 ?_
          refine lv_topi (fun v29 e29 => ?_)
          have e29 : v29 = nI u9 := by rw [e29, nI_clamp (by omega)]; exact i7.1
          have hc30 : vp_in (gb_sh v29) n := by rw [e29, gb_sh_n (by omega)]; exact vp_in_nI (by omega) (by omega)
          refine vp_callSi (W.runV (As := [.int v29]) (rest := [.int (nI q), .ref (ad 4)]) ⟨hx, hb, hml, hown, hts⟩ (c_valueNow l D h0 cI n ad a1 iv v29 hc30) (cwV 1 hts gX0_settle_X0_valueNow rfl rfl rfl (by decide +kernel) ⟨Nat.le_of_ble_eq_true rfl, Nat.le_of_ble_eq_true rfl⟩) (rP_V hK hP (va_recv hK hP (ci := 0) (q0 := 0) rfl rfl)) rfl rfl hl.1 rfl (lv_room (Nat.le_of_ble_eq_true rfl)) dX0_settle_30 ⟨Nat.zero_le _, Nat.zero_le _⟩) (fun r30 e30 => ?_)
          refine lv_aload_n hx hb dX0_settle_33 rfl (lv_at hl 1 rfl) ?_
          refine lv_aload_n hx hb dX0_settle_34 rfl (lv_at hl 1 rfl) ?_
          refine va_get (D := D) (ci := 0) (v := .ref (ad 1)) (C := RX0) (T := TX0) (N := 11) hx hb hts inX0 hown hK hP 0 rfl rfl 1 (by decide) (hts _ (mG wm_54)) (fun _ h9 => h9) rfl dX0_settle_35 ?_
          refine lv_iload_n hx hb dX0_settle_38 rfl (lv_at hl 0 rfl) ?_
          refine va_iald hx hb hK hP 2 0 rfl rfl hi39 dX0_settle_39 ?_
          refine lv_topi (fun v39 e39 => ?_)
          have e39 : v39 = nI v9 := by rw [e39, nI_clamp (by omega)]; exact i7.2
          have hc40 : vp_in (gb_sh v39) n := by rw [e39, gb_sh_n (by omega)]; exact vp_in_nI (by omega) (by omega)
          refine vp_callSi (W.runV (As := [.int v39]) (rest := [.int r30, .int (nI q), .ref (ad 4)]) ⟨hx, hb, hml, hown, hts⟩ (c_valueNow l D h0 cI n ad a1 iv v39 hc40) (cwV 1 hts gX0_settle_X0_valueNow rfl rfl rfl (by decide +kernel) ⟨Nat.le_of_ble_eq_true rfl, Nat.le_of_ble_eq_true rfl⟩) (rP_V hK hP (va_recv hK hP (ci := 0) (q0 := 0) rfl rfl)) rfl rfl hl.1 rfl (lv_room (Nat.le_of_ble_eq_true rfl)) dX0_settle_40 ⟨Nat.zero_le _, Nat.zero_le _⟩) (fun r40 e40 => ?_)
          refine lv_iand hx hb dX0_settle_43 ?_
          refine lv_topi (fun v43 e43 => ?_)
          have e43 : v43 = ct_b (ct_vl g bv q) := by
            rw [e43, e30, e40, e29, e39, gb_val_n (by omega) (i4 _ (by omega)), gb_val_n (by omega) (i4 _ (by omega)), ct_vl_s hwf i5]
            exact ct_b_and _ _
          refine va_iast hx hb hK hP hD hS 5 0 rfl rfl hi44 dX0_settle_44 (fun H locs hP hD hS => ?_)
          obtain ⟨ar44, e44⟩ : ∃ zz : Nat → Nat → Int32, zz = va_up a1 4 (upd (a1 4) (Int32.toNatClampNeg (nI q)) v43) := ⟨_, rfl⟩
          have hP : va_P D vwCl (gW h0 cI n ad ar44 iv) H := by rw [e44]; exact hP
          have hD : va_D A (gW h0 cI n ad ar44 iv) := by rw [e44]; exact hD
          rw [nI_clamp (by omega)] at e44
          have i9 : gb_ok n nc ic g bv ar44 iv := gb_ok_val i3 i5 (by rw [e44, e43])
          have i10 : ∀ i, i < q + 1 → ar44 4 i = ct_b (ct_vl g bv i) := by
            rw [e44, va_up_self]
            exact lt_s (fun i hi => by rw [pk_un (by omega)]; exact i4 i hi) (by rw [pk_us]; exact e43)
          obtain ⟨v45, e45⟩ : ∃ y : Int32, y = (nI q) + 1 := ⟨_, rfl⟩
          refine lv_iinc (v := v45) (lv' := [(2, .int v45), (0, .ref h0), (1, .int x)]) hx hb dX0_settle_45 hl (k := 0) rfl (by rw [e45]; rfl) (by decide) rfl (fun ls hl => ?_)
          refine lv_goto (tgt := 5) hx hb dX0_settle_48 (by decide) ?_
          exact ih (q + 1) ar44 _ _ ls (by omega) ⟨by omega, by omega, i9, i10⟩ hP hD hS (by rw [← nI_1, ← e45]; exact hl)
  exact hloop0 (top + 2) st ar s.heap [] ls (by omega) ⟨Nat.le_refl _, Or.inr rfl, hok, s4⟩ hP hD hS (by rw [← s1]; exact hl)
set_option maxHeartbeats 4000000 in
set_option maxRecDepth 100000 in
/-- markUnder -/
theorem c_markUnder (l : Launch) (D : va_G) (h0 : Nat) (cI : ClassId) (n : Nat) (ad : Nat → Nat) (ar : Nat → Nat → Int32) (iv : Nat → Int32) (sz : Nat) (x : Int32) (top : Nat) (nc ic : Nat) (g : Ct) (bv : Nat → Bool) (hx0 : x = nI top) (htop : top < nc) (hok : gb_ok n nc ic g bv ar iv) : Met l yX0_markUnder wsX0_markUnder ({ frames := 1, cells := 0, slots := 0, locals := 21 }) (mP D (gW h0 cI n ad ar iv) [(cI, .int)] sz [.ref h0, .int x]) (va_Qv (fun u : GS => u.1 = n ∧ u.2.2.2 = iv ∧ (∀ k, k ≠ 5 → u.2.2.1 k = ar k) ∧ ∀ i, i ≤ top → u.2.2.1 5 i = ct_b (ct_in g top i)) (gb_at D cI (va_A (gW h0 cI n ad ar iv) sz) h0) (va_A (gW h0 cI n ad ar iv) sz)) (0) (0) (va_A (gW h0 cI n ad ar iv) sz) := by
  refine Met.ofW (cc := cX0_markUnder) (maxL := 3) (ret := none) (by decide) rfl ?_
  intro p e s m args below meth c s₁ B hml hv
  obtain ⟨rfl, hsz, hP, hK, hD0⟩ := hv
  have hx := B.exec
  have hb := B.bytes
  have hr := B.returns
  have hts := atoms_spec (ws := wsX0_markUnder) B.pre
  have hown : s.vm.findClass RX0 = some m.cls := findClass_of_methodNamed B.named
  have hlocks := B.notSynchronized
  have hl := lv_entry ([.ref h0, .int x]) (n := 3) (Nat.le_of_ble_eq_true rfl)
  rw [lg_entry_eq]
  generalize (lg_sl ([.ref h0, .int x]) ++ List.replicate (3 - (lg_sl ([.ref h0, .int x])).length) Slot.unset).toArray = ls at hl ⊢
  have hl : lv_has ls 3 [(0, .ref h0), (1, .int x)] := hl
  subst hsz
  have hD := hD0.self (sz := s.heap.size)
  generalize hAe : va_A (gW h0 cI n ad ar iv) s.heap.size = A at hD ⊢
  have hA : ∀ q : Nat, s.heap.size ≤ q → A q := fun q h => by rw [← hAe]; exact Or.inr h
  have hS : va_S A s.heap s.heap [] := va_S.rf
  have hnc := hok.nc
  have hct := hok.ct
  have hwf := hok.wf
  have hle := hct.2.1
  have hb9 := hct.2.2.1
  refine lv_iconst (v := 0) hx hb dX0_markUnder_0 (by decide) ?_
  refine lv_istore_n (lv' := [(2, .int 0), (0, .ref h0), (1, .int x)]) hx hb dX0_markUnder_1 rfl hl (by decide) rfl (fun ls hl => ?_)
  have hloop0 : ∀ (k : Nat) (q : Nat) (a1 : Nat → Nat → Int32) (H : Heap) (locs : List Loc) (ls : Array Slot), top - q < k → (q ≤ top ∧ (∀ k, k ≠ 5 → a1 k = ar k) ∧ ∀ i, i < q → a1 5 i = 0) → va_P D vwCl (gW h0 cI n ad a1 iv) H → va_D A (gW h0 cI n ad a1 iv) → va_S A s.heap H locs → lv_has ls 3 [(2, .int (nI q)), (0, .ref h0), (1, .int x)] → W p l e (headSpec wsX0_markUnder ({ frames := 1, cells := 0, slots := 0, locals := 21 })).room s m ([.ref h0, .int x] : List Value).toArray below meth c H locs (0) (0) (MQ below (va_Qv (fun u : GS => u.1 = n ∧ u.2.2.2 = iv ∧ (∀ k, k ≠ 5 → u.2.2.1 k = ar k) ∧ ∀ i, i ≤ top → u.2.2.1 5 i = ct_b (ct_in g top i)) (gb_at D cI A h0) A) ([.ref h0, .int x] : List Value).toArray s (0) (0) A) (F0 m 2 ls []) := by
    intro k
    induction k with
    | zero => intro q a1 H locs ls h; omega
    | succ k ih =>
      intro q a1 H locs ls hqk hinv hP hD hS hl
      obtain ⟨i1, i2, i3⟩ := hinv
      refine lv_iload_n hx hb dX0_markUnder_2 rfl (lv_at hl 0 rfl) ?_
      refine lv_iload_n hx hb dX0_markUnder_3 rfl (lv_at hl 2 rfl) ?_
      refine lv_icmp_ge (tgt := 20) hx hb dX0_markUnder_4 (by decide) (fun c4 => ?_) (fun c4 => ?_)
      · have c4 : top = q := by
          rw [hx0] at c4
          have := Nat.not_lt.mp fun z => absurd c4 (nI_ge z (by omega))
          omega
        subst c4
        have hi26 : vp_in x n := by rw [hx0]; exact vp_in_nI (by omega) (by omega)
        refine lv_aload_n hx hb dX0_markUnder_20 rfl (lv_at hl 1 rfl) ?_
        refine va_get (D := D) (ci := 0) (v := .ref (ad 5)) (C := RX0) (T := TX0) (N := 11) hx hb hts inX0 hown hK hP 0 rfl rfl 5 (by decide) (hts _ (mG wm_58)) (fun _ h9 => h9) rfl dX0_markUnder_21 ?_
        refine lv_iload_n hx hb dX0_markUnder_24 rfl (lv_at hl 2 rfl) ?_
        refine lv_iconst (v := 1) hx hb dX0_markUnder_25 (by decide) ?_
        refine va_iast hx hb hK hP hD hS 6 0 rfl rfl hi26 dX0_markUnder_26 (fun H locs hP hD hS => ?_)
        obtain ⟨ar26, e26⟩ : ∃ zz : Nat → Nat → Int32, zz = va_up a1 5 (upd (a1 5) (Int32.toNatClampNeg x) 1) := ⟨_, rfl⟩
        have hP : va_P D vwCl (gW h0 cI n ad ar26 iv) H := by rw [e26]; exact hP
        have hD : va_D A (gW h0 cI n ad ar26 iv) := by rw [e26]; exact hD
        rw [hx0, nI_clamp (by omega)] at e26
        have i4 : ∀ k, k ≠ 5 → ar26 k = ar k := fun k hk => by rw [e26, va_up_ne _ _ hk]; exact i2 k hk
        have i5 : ar26 5 top = 1 := by rw [e26, va_up_self]; exact pk_us
        have i6 : ∀ i, i < top → ar26 5 i = 0 := fun i hi => by rw [e26, va_up_self, pk_un (by omega)]; exact i3 i hi
        refine lv_iload_n hx hb dX0_markUnder_27 rfl (lv_at hl 2 rfl) ?_
        refine lv_istore_n (lv' := [(2, .int x), (0, .ref h0), (1, .int x)]) hx hb dX0_markUnder_28 rfl hl (by decide) rfl (fun ls hl => ?_)
        have hloop1 : ∀ (k : Nat) (j0 : Nat) (a2 : Nat → Nat → Int32) (H : Heap) (locs : List Loc) (ls : Array Slot), j0 < k → (j0 ≤ top ∧ (∀ k, k ≠ 5 → a2 k = ar k) ∧ a2 5 top = 1 ∧ (∀ i, i ≤ top → a2 5 i = 0 ∨ a2 5 i = 1) ∧ (∀ i, i ≤ top → a2 5 i = 1 → ct_in g top i = true) ∧ (∀ j x y, j0 < j → j ≤ top → a2 5 j = 1 → g j = some (x, y) → a2 5 (x / 2) = 1 ∧ a2 5 (y / 2) = 1)) → va_P D vwCl (gW h0 cI n ad a2 iv) H → va_D A (gW h0 cI n ad a2 iv) → va_S A s.heap H locs → lv_has ls 3 [(2, .int (nI j0)), (0, .ref h0), (1, .int x)] → W p l e (headSpec wsX0_markUnder ({ frames := 1, cells := 0, slots := 0, locals := 21 })).room s m ([.ref h0, .int x] : List Value).toArray below meth c H locs (0) (0) (MQ below (va_Qv (fun u : GS => u.1 = n ∧ u.2.2.2 = iv ∧ (∀ k, k ≠ 5 → u.2.2.1 k = ar k) ∧ ∀ i, i ≤ top → u.2.2.1 5 i = ct_b (ct_in g top i)) (gb_at D cI A h0) A) ([.ref h0, .int x] : List Value).toArray s (0) (0) A) (F0 m 29 ls []) := by
          intro k
          induction k with
          | zero => intro j0 a2 H locs ls h; omega
          | succ k ih =>
            intro j0 a2 H locs ls hqk hinv hP hD hS hl
            obtain ⟨m1, m2, m3, m4, m5, m6⟩ := hinv
            have hct2 : ct_at n nc g a2 := ⟨hct.1, hct.2.1, hct.2.2.1, hct.2.2.2.1, fun i hi => by rw [m2 0 (by decide), m2 1 (by decide)]; exact hct.2.2.2.2 i hi⟩
            refine lv_iload_n hx hb dX0_markUnder_29 rfl (lv_at hl 0 rfl) ?_
            refine lv_if_le (tgt := 85) hx hb dX0_markUnder_30 (by decide) (fun c30 => ?_) (fun c30 => ?_)
            · have c30 : j0 = 0 := by
                rcases Nat.eq_zero_or_pos j0 with z | z
                · exact z
                · exact absurd c30 (nI_nle z (by omega))
              exact W.vret hx hb hr (fun t ht hW => ⟨⟨(n, ad, a2, iv), rfl, ⟨rfl, rfl, m2, gb_marks hwf m3 m4 m5 (fun j x y h1 h2 h3 => m6 j x y (by have := hwf.1 j x y h3; omega) h1 h2 h3)⟩, by rw [ht]; exact hP, va_K.moved hW.alike hK, hD⟩, hS.F ht⟩) hS.2.2 dX0_markUnder_85
            · have c30 : 0 < j0 := by
                rcases Nat.eq_zero_or_pos j0 with z | z
                · exact absurd (by rw [z, nI_0]; exact Int32.le_refl 0) c30
                · exact z
              have hi38 : vp_in (nI j0) n := vp_in_nI (by omega) (by omega)
              have hc45 := hi38
              have hi60 := hi38
              have hi74 := hi38
              refine lv_aload_n hx hb dX0_markUnder_33 rfl (lv_at hl 1 rfl) ?_
              refine va_get (D := D) (ci := 0) (v := .ref (ad 5)) (C := RX0) (T := TX0) (N := 11) hx hb hts inX0 hown hK hP 0 rfl rfl 5 (by decide) (hts _ (mG wm_58)) (fun _ h9 => h9) rfl dX0_markUnder_34 ?_
              refine lv_iload_n hx hb dX0_markUnder_37 rfl (lv_at hl 0 rfl) ?_
              refine va_iald hx hb hK hP 6 0 rfl rfl hi38 dX0_markUnder_38 ?_
              refine lv_topi (fun v38 e38 => ?_)
              have e38 : v38 = a2 5 j0 := by rw [e38, nI_clamp (by omega)]
              refine lv_iconst (v := 1) hx hb dX0_markUnder_39 (by decide) ?_
              refine lv_icmp_ne (tgt := 79) hx hb dX0_markUnder_40 (by decide) (fun c40 => ?_) (fun c40 => ?_)
              · have d1 : a2 = a2 := rfl
                have d6 : ∀ j x y, j0 - 1 < j → j ≤ top → a2 5 j = 1 → g j = some (x, y) → a2 5 (x / 2) = 1 ∧ a2 5 (y / 2) = 1 := by
                  intro j x y h1 h2 h3 h4
                  by_cases h5 : j = j0
                  · subst h5
                    exact absurd (show v38 = 1 by rw [e38]; exact h3) c40
                  · exact m6 j x y (by omega) h2 h3 h4
                have d2 := m2
                have d3 := m3
                have d4 := m4
                have d5 := m5
                obtain ⟨v79, e79⟩ : ∃ y : Int32, y = (nI j0) + (-1) := ⟨_, rfl⟩
                refine lv_iinc (v := v79) (lv' := [(2, .int v79), (0, .ref h0), (1, .int x)]) hx hb dX0_markUnder_79 hl (k := 0) rfl (by rw [e79]; rfl) (by decide) rfl (fun ls hl => ?_)
                refine lv_goto (tgt := 29) hx hb dX0_markUnder_82 (by decide) ?_
                exact ih (j0 - 1) a2 _ _ ls (by omega) ⟨by omega, d2, d3, d4, d5, d6⟩ hP hD hS (by rw [← sb_m1 c30, ← e79]; exact hl)
              · refine lv_aload_n hx hb dX0_markUnder_43 rfl (lv_at hl 1 rfl) ?_
                refine lv_iload_n hx hb dX0_markUnder_44 rfl (lv_at hl 0 rfl) ?_
                refine vp_callSi (W.runV (As := [.int (nI j0)]) (rest := []) ⟨hx, hb, hml, hown, hts⟩ (c_isGate l D h0 cI n ad a2 iv (nI j0) hc45) (cwV 1 hts gX0_markUnder_X0_isGate rfl rfl rfl (by decide +kernel) ⟨Nat.le_of_ble_eq_true rfl, Nat.le_of_ble_eq_true rfl⟩) (rP_V hK hP (va_recv hK hP (ci := 0) (q0 := 0) rfl rfl)) rfl rfl hl.1 rfl (lv_room (Nat.le_of_ble_eq_true rfl)) dX0_markUnder_45 ⟨Nat.zero_le _, Nat.zero_le _⟩) (fun r45 e45 => ?_)
                refine lv_if_eq (tgt := 79) hx hb dX0_markUnder_48 (by decide) (fun c48 => ?_) (fun c48 => ?_)
                · have d1 : a2 = a2 := rfl
                  have d6 : ∀ j x y, j0 - 1 < j → j ≤ top → a2 5 j = 1 → g j = some (x, y) → a2 5 (x / 2) = 1 ∧ a2 5 (y / 2) = 1 := by
                    intro j x y h1 h2 h3 h4
                    by_cases h5 : j = j0
                    · subst h5
                      exact absurd ((gb_gate_n hct2 (i := j) (by omega)).mp (by rw [← e45]; exact c48)) (by rw [h4]; exact fun z => by cases z)
                    · exact m6 j x y (by omega) h2 h3 h4
                  have d2 := m2
                  have d3 := m3
                  have d4 := m4
                  have d5 := m5
                  obtain ⟨v79, e79⟩ : ∃ y : Int32, y = (nI j0) + (-1) := ⟨_, rfl⟩
                  refine lv_iinc (v := v79) (lv' := [(2, .int v79), (0, .ref h0), (1, .int x)]) hx hb dX0_markUnder_79 hl (k := 0) rfl (by rw [e79]; rfl) (by decide) rfl (fun ls hl => ?_)
                  refine lv_goto (tgt := 29) hx hb dX0_markUnder_82 (by decide) ?_
                  exact ih (j0 - 1) a2 _ _ ls (by omega) ⟨by omega, d2, d3, d4, d5, d6⟩ hP hD hS (by rw [← sb_m1 c30, ← e79]; exact hl)
                · have c48 : ¬ g j0 = none := fun z => c48 (by rw [e45]; exact (gb_gate_n hct2 (by omega)).mpr z)
                  obtain ⟨⟨u9, v9⟩, n5⟩ := Option.ne_none_iff_exists'.mp c48
                  have n7 := ct_at_f hct2 n5
                  have n8 := ct_at_lt hct2 n5
                  have n9 : a2 5 j0 = 1 := by rw [← e38]; exact c40
                  refine lv_aload_n hx hb dX0_markUnder_51 rfl (lv_at hl 1 rfl) ?_
                  refine va_get (D := D) (ci := 0) (v := .ref (ad 5)) (C := RX0) (T := TX0) (N := 11) hx hb hts inX0 hown hK hP 0 rfl rfl 5 (by decide) (hts _ (mG wm_58)) (fun _ h9 => h9) rfl dX0_markUnder_52 ?_
                  refine lv_aload_n hx hb dX0_markUnder_55 rfl (lv_at hl 1 rfl) ?_
                  refine va_get (D := D) (ci := 0) (v := .ref (ad 0)) (C := RX0) (T := TX0) (N := 11) hx hb hts inX0 hown hK hP 0 rfl rfl 0 (by decide) (hts _ (mG wm_53)) (fun _ h9 => h9) rfl dX0_markUnder_56 ?_
                  refine lv_iload_n hx hb dX0_markUnder_59 rfl (lv_at hl 0 rfl) ?_
                  refine va_iald hx hb hK hP 1 0 rfl rfl hi60 dX0_markUnder_60 ?_
                  refine lv_topi (fun v60 e60 => ?_)
                  refine lv_iconst (v := 1) hx hb dX0_markUnder_61 (by decide) ?_
                  refine lv_ishr hx hb dX0_markUnder_62 ?_
                  refine lv_topi (fun v62 e62 => ?_)
                  have e60 : v60 = nI u9 := by rw [e60, nI_clamp (by omega)]; exact n7.1
                  have e62 : v62 = nI (u9 / 2) := by rw [e62, e60]; exact ct_shr (by omega)
                  have hi64 : vp_in v62 n := by rw [e62]; exact vp_in_nI (by omega) (by omega)
                  refine lv_iconst (v := 1) hx hb dX0_markUnder_63 (by decide) ?_
                  refine va_iast hx hb hK hP hD hS 6 0 rfl rfl hi64 dX0_markUnder_64 (fun H locs hP hD hS => ?_)
                  obtain ⟨ar64, e64⟩ : ∃ zz : Nat → Nat → Int32, zz = va_up a2 5 (upd (a2 5) (Int32.toNatClampNeg v62) 1) := ⟨_, rfl⟩
                  have hP : va_P D vwCl (gW h0 cI n ad ar64 iv) H := by rw [e64]; exact hP
                  have hD : va_D A (gW h0 cI n ad ar64 iv) := by rw [e64]; exact hD
                  rw [e62, nI_clamp (by omega)] at e64
                  refine lv_aload_n hx hb dX0_markUnder_65 rfl (lv_at hl 1 rfl) ?_
                  refine va_get (D := D) (ci := 0) (v := .ref (ad 5)) (C := RX0) (T := TX0) (N := 11) hx hb hts inX0 hown hK hP 0 rfl rfl 5 (by decide) (hts _ (mG wm_58)) (fun _ h9 => h9) rfl dX0_markUnder_66 ?_
                  refine lv_aload_n hx hb dX0_markUnder_69 rfl (lv_at hl 1 rfl) ?_
                  refine va_get (D := D) (ci := 0) (v := .ref (ad 1)) (C := RX0) (T := TX0) (N := 11) hx hb hts inX0 hown hK hP 0 rfl rfl 1 (by decide) (hts _ (mG wm_54)) (fun _ h9 => h9) rfl dX0_markUnder_70 ?_
                  refine lv_iload_n hx hb dX0_markUnder_73 rfl (lv_at hl 0 rfl) ?_
                  refine va_iald hx hb hK hP 2 0 rfl rfl hi74 dX0_markUnder_74 ?_
                  refine lv_topi (fun v74 e74 => ?_)
                  refine lv_iconst (v := 1) hx hb dX0_markUnder_75 (by decide) ?_
                  refine lv_ishr hx hb dX0_markUnder_76 ?_
                  refine lv_topi (fun v76 e76 => ?_)
                  have e74 : v74 = nI v9 := by rw [e74, nI_clamp (by omega), e64]; exact n7.2
                  have e76 : v76 = nI (v9 / 2) := by rw [e76, e74]; exact ct_shr (by omega)
                  have hi78 : vp_in v76 n := by rw [e76]; exact vp_in_nI (by omega) (by omega)
                  refine lv_iconst (v := 1) hx hb dX0_markUnder_77 (by decide) ?_
                  refine va_iast hx hb hK hP hD hS 6 0 rfl rfl hi78 dX0_markUnder_78 (fun H locs hP hD hS => ?_)
                  obtain ⟨ar78, e78⟩ : ∃ zz : Nat → Nat → Int32, zz = va_up ar64 5 (upd (ar64 5) (Int32.toNatClampNeg v76) 1) := ⟨_, rfl⟩
                  have hP : va_P D vwCl (gW h0 cI n ad ar78 iv) H := by rw [e78]; exact hP
                  have hD : va_D A (gW h0 cI n ad ar78 iv) := by rw [e78]; exact hD
                  rw [e76, nI_clamp (by omega), e64] at e78
                  obtain ⟨d2, d3, d4, d5, d6⟩ := gb_mark2 hwf n5 n9 m1 m2 m3 m4 m5 m6 e78
                  obtain ⟨v79, e79⟩ : ∃ y : Int32, y = (nI j0) + (-1) := ⟨_, rfl⟩
                  refine lv_iinc (v := v79) (lv' := [(2, .int v79), (0, .ref h0), (1, .int x)]) hx hb dX0_markUnder_79 hl (k := 0) rfl (by rw [e79]; rfl) (by decide) rfl (fun ls hl => ?_)
                  refine lv_goto (tgt := 29) hx hb dX0_markUnder_82 (by decide) ?_
                  exact ih (j0 - 1) ar78 _ _ ls (by omega) ⟨by omega, d2, d3, d4, d5, d6⟩ hP hD hS (by rw [← sb_m1 c30, ← e79]; exact hl)
        exact hloop1 (top + 1) top ar26 _ _ ls (by omega) ⟨Nat.le_refl _, i4, i5, fun i hi => (Nat.lt_or_ge i top).elim (fun z => Or.inl (i6 i z)) (fun z => Or.inr (by rw [show i = top by omega]; exact i5)), fun i hi h1 => (Nat.lt_or_ge i top).elim (fun z => absurd ((i6 i z).symm.trans h1) (by decide)) (fun z => by rw [show i = top by omega]; exact ct_in_self g top), fun j x y h1 h2 => by omega⟩ hP hD hS (by rw [← hx0]; exact hl)
      · have c4 : q < top := by
          rw [hx0] at c4
          exact Nat.not_le.mp fun z => c4 (nI_le z (by omega))
        have hi13 : vp_in (nI q) n := vp_in_nI (by omega) (by omega)
        refine lv_aload_n hx hb dX0_markUnder_7 rfl (lv_at hl 1 rfl) ?_
        refine va_get (D := D) (ci := 0) (v := .ref (ad 5)) (C := RX0) (T := TX0) (N := 11) hx hb hts inX0 hown hK hP 0 rfl rfl 5 (by decide) (hts _ (mG wm_58)) (fun _ h9 => h9) rfl dX0_markUnder_8 ?_
        refine lv_iload_n hx hb dX0_markUnder_11 rfl (lv_at hl 0 rfl) ?_
        refine lv_iconst (v := 0) hx hb dX0_markUnder_12 (by decide) ?_
        refine va_iast hx hb hK hP hD hS 6 0 rfl rfl hi13 dX0_markUnder_13 (fun H locs hP hD hS => ?_)
        obtain ⟨ar13, e13⟩ : ∃ zz : Nat → Nat → Int32, zz = va_up a1 5 (upd (a1 5) (Int32.toNatClampNeg (nI q)) 0) := ⟨_, rfl⟩
        have hP : va_P D vwCl (gW h0 cI n ad ar13 iv) H := by rw [e13]; exact hP
        have hD : va_D A (gW h0 cI n ad ar13 iv) := by rw [e13]; exact hD
        rw [nI_clamp (by omega)] at e13
        have i4 : ∀ k, k ≠ 5 → ar13 k = ar k := fun k hk => by rw [e13, va_up_ne _ _ hk]; exact i2 k hk
        have i5 : ∀ i, i < q + 1 → ar13 5 i = 0 := by
          rw [e13, va_up_self]
          exact lt_s (fun i hi => by rw [pk_un (by omega)]; exact i3 i hi) pk_us
        obtain ⟨v14, e14⟩ : ∃ y : Int32, y = (nI q) + 1 := ⟨_, rfl⟩
        refine lv_iinc (v := v14) (lv' := [(2, .int v14), (0, .ref h0), (1, .int x)]) hx hb dX0_markUnder_14 hl (k := 0) rfl (by rw [e14]; rfl) (by decide) rfl (fun ls hl => ?_)
        refine lv_goto (tgt := 2) hx hb dX0_markUnder_17 (by decide) ?_
        exact ih (q + 1) ar13 _ _ ls (by omega) ⟨by omega, i4, i5⟩ hP hD hS (by rw [← nI_1, ← e14]; exact hl)
  exact hloop0 (top + 1) 0 ar s.heap [] ls (by omega) ⟨Nat.zero_le _, fun _ _ => rfl, fun i hi => by omega⟩ hP hD hS (by rw [nI_0]; exact hl)
