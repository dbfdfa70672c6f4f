abbrev mm_iv0 : Nat → Int32 := fun k => match k with
  | 0 => 0
  | 1 => 1
  | _ => 0
theorem mm_ok_new : mm_ok 1 0 (fun _ => none) (fun _ => false) (fun _ _ => 0) mm_iv0 := by
  refine ⟨by decide, by decide, ct_wf_new, rfl, rfl, rfl, fun _ _ => rfl, fun i hi => ?_, fun i x y h => by simp at h, fun _ _ _ => rfl, fun _ _ => ⟨false, rfl⟩⟩
  have : i = 0 := by omega
  subst this
  rfl
abbrev MU : Type := (ClassId × ClassId × ClassId) × (Nat → Nat) × MS
set_option maxHeartbeats 4000000 in
set_option maxRecDepth 100000 in
/-- the reference: its constructor -/
theorem m_init (l : Launch) (D : va_G) (h1 sz : Nat) : Met l yX1_init wsX1_init ({ frames := 1, cells := 5, slots := 100000, locals := 12 }) (mP D [(h1, .inr (1, [.null, .null, .null, .null, .null, .int 0, .int 0, .int 0]))] [] sz [.ref h1]) (va_Qv (fun u : MU => mm_ok 1 0 (fun _ => none) (fun _ => false) u.2.2.1 u.2.2.2) (fun u t => mm_at D u.1.1 u.1.2.1 u.1.2.2 u.2.1 (va_A [(h1, .inr (1, [.null, .null, .null, .null, .null, .int 0, .int 0, .int 0]))] sz) h1 u.2.2 t) (va_A [(h1, .inr (1, [.null, .null, .null, .null, .null, .int 0, .int 0, .int 0]))] sz)) 5 100000 (va_A [(h1, .inr (1, [.null, .null, .null, .null, .null, .int 0, .int 0, .int 0]))] sz) := by
  refine Met.ofW (cc := cX1_init) (maxL := 1) (ret := none) (by decide) rfl ?_
  intro p e s m args below meth c s₁ B hml hv
  obtain ⟨rfl, hsz, hP, hK, hD0⟩ := hv
  have hx := B.exec
  have hb := B.bytes
  have hr := B.returns
  have hts := atoms_spec (ws := wsX1_init) B.pre
  have hown : s.vm.findClass RX1 = some m.cls := findClass_of_methodNamed B.named
  have hin9 : meth.name = "<init>" := (name_of_methodNamed B.named B.method).1
  have hlocks := B.notSynchronized
  have hl := lv_entry ([.ref h1]) (n := 1) (Nat.le_of_ble_eq_true rfl)
  rw [lg_entry_eq]
  generalize (lg_sl ([.ref h1]) ++ List.replicate (1 - (lg_sl ([.ref h1])).length) Slot.unset).toArray = ls at hl ⊢
  have hl : lv_has ls 1 [(0, .ref h1)] := hl
  subst hsz
  have hD := hD0.self (sz := s.heap.size)
  generalize hAe : va_A [(h1, .inr (1, [.null, .null, .null, .null, .null, .int 0, .int 0, .int 0]))] s.heap.size = A at hD ⊢
  have hA : ∀ q : Nat, s.heap.size ≤ q → A q := fun q h => by rw [← hAe]; exact Or.inr h
  have hS : va_S A s.heap s.heap [] := va_S.rf
  refine lv_aload_n hx hb dX1_init_0 rfl (lv_at hl 0 rfl) ?_
  refine W.objInit hx hb hown (hts _ (mG wm_367)) (hts _ (mG wm_51)) (hts _ (mG wm_52)) rfl (by rw [hml]; exact hl.1) rfl dX1_init_1 (Nat.le_of_ble_eq_true rfl) (Nat.le_of_ble_eq_true rfl) ?_
  refine W.eq (g2 := F0 m 4 ls []) rfl ?_
  refine lv_aload_n hx hb dX1_init_4 rfl (lv_at hl 0 rfl) ?_
  refine lv_iconst (v := 1) hx hb dX1_init_5 (by decide) ?_
  refine va_put (D := D) (ci := 1) (v := .int 1) (ty := .int) (C := RX1) (T := TX1) (N := 8) hx hb hts inX1 tyX1 tyX1_ok nmX1 hown hK hP hD hS 0 rfl rfl 6 (by decide) (hts _ (mG wm_369)) (fun _ h9 => h9) rfl (by decide +kernel) rfl rfl (Nat.le_of_ble_eq_true rfl) dX1_init_6 (fun H locs hP hD hS => ?_)
  have hP : va_P D vwCl [(h1, .inr (1, [.null, .null, .null, .null, .null, .int 0, .int 1, .int 0]))] H := hP
  have hD : va_D A [(h1, .inr (1, [.null, .null, .null, .null, .null, .int 0, .int 1, .int 0]))] := hD
  refine lv_aload_n hx hb dX1_init_9 rfl (lv_at hl 0 rfl) ?_
  refine lv_sipush (v := 20000) hx hb dX1_init_10 (by decide) ?_
  refine va_newa (atype := .byte) (a0 := (20000, .inl (fun _ => 0))) (ty := .byte) hx hb (hts _ (mG wm_174)) rfl hK hP hD hS hA (fun _ => rfl) (by decide) (by decide) (by decide) (Nat.le_of_ble_eq_true rfl) (Nat.le_of_ble_eq_true rfl) dX1_init_13 (fun q0 cB H hK hP hD hS => ?_)
  have hP : va_P D vwCl [(h1, .inr (1, [.null, .null, .null, .null, .null, .int 0, .int 1, .int 0])), (q0, .inl (cB, 20000, .inl (fun _ => 0)))] H := hP
  have hD : va_D A [(h1, .inr (1, [.null, .null, .null, .null, .null, .int 0, .int 1, .int 0])), (q0, .inl (cB, 20000, .inl (fun _ => 0)))] := hD
  refine va_putF (D := D) (ci := 1) (v := .ref q0) (ty := (.array .byte)) (C := RX1) (T := TX1) (N := 8) hx hb hts inX1 tyX1 tyX1_ok nmX1 hown hK hP hD hS 0 rfl rfl 0 (by decide) (hts _ (mG wm_371)) (fun _ h9 => h9) rfl hin9 rfl (by decide +kernel) rfl rfl (Nat.le_of_ble_eq_true rfl) dX1_init_15 (fun H locs hP hD hS => ?_)
  have hP : va_P D vwCl [(h1, .inr (1, [.ref q0, .null, .null, .null, .null, .int 0, .int 1, .int 0])), (q0, .inl (cB, 20000, .inl (fun _ => 0)))] H := hP
  have hD : va_D A [(h1, .inr (1, [.ref q0, .null, .null, .null, .null, .int 0, .int 1, .int 0])), (q0, .inl (cB, 20000, .inl (fun _ => 0)))] := hD
  refine lv_aload_n hx hb dX1_init_18 rfl (lv_at hl 0 rfl) ?_
  refine lv_sipush (v := 20000) hx hb dX1_init_19 (by decide) ?_
  refine va_newa (atype := .int) (a0 := (20000, .inl (fun _ => 0))) (ty := .int) hx hb (hts _ (mG wm_87)) rfl hK hP hD hS hA (fun _ => rfl) (by decide) (by decide) (by decide) (Nat.le_of_ble_eq_true rfl) (Nat.le_of_ble_eq_true rfl) dX1_init_22 (fun q1 cI H hK hP hD hS => ?_)
  have hP : va_P D vwCl [(h1, .inr (1, [.ref q0, .null, .null, .null, .null, .int 0, .int 1, .int 0])), (q0, .inl (cB, 20000, .inl (fun _ => 0))), (q1, .inl (cI, 20000, .inl (fun _ => 0)))] H := hP
  have hD : va_D A [(h1, .inr (1, [.ref q0, .null, .null, .null, .null, .int 0, .int 1, .int 0])), (q0, .inl (cB, 20000, .inl (fun _ => 0))), (q1, .inl (cI, 20000, .inl (fun _ => 0)))] := hD
  refine va_putF (D := D) (ci := 1) (v := .ref q1) (ty := (.array .int)) (C := RX1) (T := TX1) (N := 8) hx hb hts inX1 tyX1 tyX1_ok nmX1 hown hK hP hD hS 0 rfl rfl 1 (by decide) (hts _ (mG wm_372)) (fun _ h9 => h9) rfl hin9 rfl (by decide +kernel) rfl rfl (Nat.le_of_ble_eq_true rfl) dX1_init_24 (fun H locs hP hD hS => ?_)
  have hP : va_P D vwCl [(h1, .inr (1, [.ref q0, .ref q1, .null, .null, .null, .int 0, .int 1, .int 0])), (q0, .inl (cB, 20000, .inl (fun _ => 0))), (q1, .inl (cI, 20000, .inl (fun _ => 0)))] H := hP
  have hD : va_D A [(h1, .inr (1, [.ref q0, .ref q1, .null, .null, .null, .int 0, .int 1, .int 0])), (q0, .inl (cB, 20000, .inl (fun _ => 0))), (q1, .inl (cI, 20000, .inl (fun _ => 0)))] := hD
  refine lv_aload_n hx hb dX1_init_27 rfl (lv_at hl 0 rfl) ?_
  refine lv_sipush (v := 20000) hx hb dX1_init_28 (by decide) ?_
  refine va_newa (atype := .int) (a0 := (20000, .inl (fun _ => 0))) (ty := .int) hx hb (hts _ (mG wm_87)) rfl hK hP hD hS hA (fun _ => rfl) (by decide) (by decide) (by decide) (Nat.le_of_ble_eq_true rfl) (Nat.le_of_ble_eq_true rfl) dX1_init_31 (fun q2 cA H hK hP hD hS => ?_)
  have hcA : cI = cA := gb_cI hK (i := 1) (j := 2) rfl rfl
  subst hcA
  have hK := hK.sub (tys' := [(cB, .byte), (cI, .int)]) [0, 1] rfl
  have hP : va_P D vwCl [(h1, .inr (1, [.ref q0, .ref q1, .null, .null, .null, .int 0, .int 1, .int 0])), (q0, .inl (cB, 20000, .inl (fun _ => 0))), (q1, .inl (cI, 20000, .inl (fun _ => 0))), (q2, .inl (cI, 20000, .inl (fun _ => 0)))] H := hP
  have hD : va_D A [(h1, .inr (1, [.ref q0, .ref q1, .null, .null, .null, .int 0, .int 1, .int 0])), (q0, .inl (cB, 20000, .inl (fun _ => 0))), (q1, .inl (cI, 20000, .inl (fun _ => 0))), (q2, .inl (cI, 20000, .inl (fun _ => 0)))] := hD
  refine va_putF (D := D) (ci := 1) (v := .ref q2) (ty := (.array .int)) (C := RX1) (T := TX1) (N := 8) hx hb hts inX1 tyX1 tyX1_ok nmX1 hown hK hP hD hS 0 rfl rfl 2 (by decide) (hts _ (mG wm_373)) (fun _ h9 => h9) rfl hin9 rfl (by decide +kernel) rfl rfl (Nat.le_of_ble_eq_true rfl) dX1_init_33 (fun H locs hP hD hS => ?_)
  have hP : va_P D vwCl [(h1, .inr (1, [.ref q0, .ref q1, .ref q2, .null, .null, .int 0, .int 1, .int 0])), (q0, .inl (cB, 20000, .inl (fun _ => 0))), (q1, .inl (cI, 20000, .inl (fun _ => 0))), (q2, .inl (cI, 20000, .inl (fun _ => 0)))] H := hP
  have hD : va_D A [(h1, .inr (1, [.ref q0, .ref q1, .ref q2, .null, .null, .int 0, .int 1, .int 0])), (q0, .inl (cB, 20000, .inl (fun _ => 0))), (q1, .inl (cI, 20000, .inl (fun _ => 0))), (q2, .inl (cI, 20000, .inl (fun _ => 0)))] := hD
  refine lv_aload_n hx hb dX1_init_36 rfl (lv_at hl 0 rfl) ?_
  refine lv_sipush (v := 20000) hx hb dX1_init_37 (by decide) ?_
  refine va_newa (atype := .boolean) (a0 := (20000, .inl (fun _ => 0))) (ty := .boolean) hx hb (hts _ (mG wm_393)) rfl hK hP hD hS hA (fun _ => rfl) (by decide) (by decide) (by decide) (Nat.le_of_ble_eq_true rfl) (Nat.le_of_ble_eq_true rfl) dX1_init_40 (fun q3 cZ H hK hP hD hS => ?_)
  have hP : va_P D vwCl [(h1, .inr (1, [.ref q0, .ref q1, .ref q2, .null, .null, .int 0, .int 1, .int 0])), (q0, .inl (cB, 20000, .inl (fun _ => 0))), (q1, .inl (cI, 20000, .inl (fun _ => 0))), (q2, .inl (cI, 20000, .inl (fun _ => 0))), (q3, .inl (cZ, 20000, .inl (fun _ => 0)))] H := hP
  have hD : va_D A [(h1, .inr (1, [.ref q0, .ref q1, .ref q2, .null, .null, .int 0, .int 1, .int 0])), (q0, .inl (cB, 20000, .inl (fun _ => 0))), (q1, .inl (cI, 20000, .inl (fun _ => 0))), (q2, .inl (cI, 20000, .inl (fun _ => 0))), (q3, .inl (cZ, 20000, .inl (fun _ => 0)))] := hD
  refine va_putF (D := D) (ci := 1) (v := .ref q3) (ty := (.array .boolean)) (C := RX1) (T := TX1) (N := 8) hx hb hts inX1 tyX1 tyX1_ok nmX1 hown hK hP hD hS 0 rfl rfl 3 (by decide) (hts _ (mG wm_374)) (fun _ h9 => h9) rfl hin9 rfl (by decide +kernel) rfl rfl (Nat.le_of_ble_eq_true rfl) dX1_init_42 (fun H locs hP hD hS => ?_)
  have hP : va_P D vwCl [(h1, .inr (1, [.ref q0, .ref q1, .ref q2, .ref q3, .null, .int 0, .int 1, .int 0])), (q0, .inl (cB, 20000, .inl (fun _ => 0))), (q1, .inl (cI, 20000, .inl (fun _ => 0))), (q2, .inl (cI, 20000, .inl (fun _ => 0))), (q3, .inl (cZ, 20000, .inl (fun _ => 0)))] H := hP
  have hD : va_D A [(h1, .inr (1, [.ref q0, .ref q1, .ref q2, .ref q3, .null, .int 0, .int 1, .int 0])), (q0, .inl (cB, 20000, .inl (fun _ => 0))), (q1, .inl (cI, 20000, .inl (fun _ => 0))), (q2, .inl (cI, 20000, .inl (fun _ => 0))), (q3, .inl (cZ, 20000, .inl (fun _ => 0)))] := hD
  refine lv_aload_n hx hb dX1_init_45 rfl (lv_at hl 0 rfl) ?_
  refine lv_sipush (v := 20000) hx hb dX1_init_46 (by decide) ?_
  refine va_newa (atype := .int) (a0 := (20000, .inl (fun _ => 0))) (ty := .int) hx hb (hts _ (mG wm_87)) rfl hK hP hD hS hA (fun _ => rfl) (by decide) (by decide) (by decide) (Nat.le_of_ble_eq_true rfl) (Nat.le_of_ble_eq_true rfl) dX1_init_49 (fun q4 cA H hK hP hD hS => ?_)
  have hcA : cI = cA := gb_cI hK (i := 1) (j := 3) rfl rfl
  subst hcA
  have hK := hK.sub (tys' := [(cB, .byte), (cI, .int), (cZ, .boolean)]) [0, 1, 2] rfl
  have hP : va_P D vwCl [(h1, .inr (1, [.ref q0, .ref q1, .ref q2, .ref q3, .null, .int 0, .int 1, .int 0])), (q0, .inl (cB, 20000, .inl (fun _ => 0))), (q1, .inl (cI, 20000, .inl (fun _ => 0))), (q2, .inl (cI, 20000, .inl (fun _ => 0))), (q3, .inl (cZ, 20000, .inl (fun _ => 0))), (q4, .inl (cI, 20000, .inl (fun _ => 0)))] H := hP
  have hD : va_D A [(h1, .inr (1, [.ref q0, .ref q1, .ref q2, .ref q3, .null, .int 0, .int 1, .int 0])), (q0, .inl (cB, 20000, .inl (fun _ => 0))), (q1, .inl (cI, 20000, .inl (fun _ => 0))), (q2, .inl (cI, 20000, .inl (fun _ => 0))), (q3, .inl (cZ, 20000, .inl (fun _ => 0))), (q4, .inl (cI, 20000, .inl (fun _ => 0)))] := hD
  refine va_putF (D := D) (ci := 1) (v := .ref q4) (ty := (.array .int)) (C := RX1) (T := TX1) (N := 8) hx hb hts inX1 tyX1 tyX1_ok nmX1 hown hK hP hD hS 0 rfl rfl 4 (by decide) (hts _ (mG wm_375)) (fun _ h9 => h9) rfl hin9 rfl (by decide +kernel) rfl rfl (Nat.le_of_ble_eq_true rfl) dX1_init_51 (fun H locs hP hD hS => ?_)
  have hP : va_P D vwCl [(h1, .inr (1, [.ref q0, .ref q1, .ref q2, .ref q3, .ref q4, .int 0, .int 1, .int 0])), (q0, .inl (cB, 20000, .inl (fun _ => 0))), (q1, .inl (cI, 20000, .inl (fun _ => 0))), (q2, .inl (cI, 20000, .inl (fun _ => 0))), (q3, .inl (cZ, 20000, .inl (fun _ => 0))), (q4, .inl (cI, 20000, .inl (fun _ => 0)))] H := hP
  have hD : va_D A [(h1, .inr (1, [.ref q0, .ref q1, .ref q2, .ref q3, .ref q4, .int 0, .int 1, .int 0])), (q0, .inl (cB, 20000, .inl (fun _ => 0))), (q1, .inl (cI, 20000, .inl (fun _ => 0))), (q2, .inl (cI, 20000, .inl (fun _ => 0))), (q3, .inl (cZ, 20000, .inl (fun _ => 0))), (q4, .inl (cI, 20000, .inl (fun _ => 0)))] := hD
  have hK := hK.sub (tys' := [(cI, .int), (cB, .byte), (cZ, .boolean)]) [1, 0, 2] rfl
  refine W.widen (k := 5) (n := 100000) (by omega) (by omega) ?_
  exact W.vret hx hb hr (fun t ht hW => ⟨⟨((cI, cB, cZ), (fun k => [q0, q1, q2, q3, q4].getD k 0), (fun _ _ => 0), mm_iv0), rfl, mm_ok_new, by rw [ht]; exact hP, va_K.moved hW.alike hK, hD⟩, hS.F ht⟩) hS.2.2 dX1_init_54
