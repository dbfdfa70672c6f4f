theorem ct_2n (n : Nat) : (2 : Int32) * nI n = nI (2 * n) := (Int32.ofNat_mul 2 n).symm
set_option maxHeartbeats 4000000 in
set_option maxRecDepth 100000 in
/-- the reference: gate -/
theorem m_gate (l : Launch) (D : va_G) (h1 : Nat) (cI cB cZ : ClassId) (ad : Nat → Nat) (ar : Nat → Nat → Int32) (iv : Nat → Int32) (sz : Nat) (x : Int32) (y : Int32) (a b : Nat) (nc ic : Nat) (g : Ct) (bv : Nat → Bool) (hx0 : x = nI a) (hy0 : y = nI b) (hok : mm_ok nc ic g bv ar iv) (hcode : iv 0 = 0) (hlo : 2 ≤ min a b) (hlh : min a b / 2 < max a b / 2) (hhi : max a b < 2 * nc) (hmx : nc < 20000) : Met l yX1_gate wsX1_gate ({ frames := 1, cells := 0, slots := 0, locals := 23 }) (mP D (mW h1 cI cB cZ ad ar iv) [(cI, .int), (cB, .byte), (cZ, .boolean)] sz [.ref h1, .int x, .int y]) (va_Qi (fun (r : Int32) (u : MS) => md_po ic bv (ct_gt nc g (min a b) (max a b)) r u) (mm_at D cI cB cZ ad (va_A (mW h1 cI cB cZ ad ar iv) sz) h1) (va_A (mW h1 cI cB cZ ad ar iv) sz)) 0 0 (va_A (mW h1 cI cB cZ ad ar iv) sz) := by
  refine Met.ofW (cc := cX1_gate) (maxL := 6) (ret := (some .int)) (by decide) rfl ?_
  intro p e s m args below meth c s₁ B hml hv
  obtain ⟨rfl, hsz, hP, hK, hD0⟩ := hv
  have hx := B.exec
  have hb := B.bytes
  have hr := B.returns
  have hts := atoms_spec (ws := wsX1_gate) B.pre
  have hown : s.vm.findClass RX1 = some m.cls := findClass_of_methodNamed B.named
  have hlocks := B.notSynchronized
  have hl := lv_entry ([.ref h1, .int x, .int y]) (n := 6) (Nat.le_of_ble_eq_true rfl)
  rw [lg_entry_eq]
  generalize (lg_sl ([.ref h1, .int x, .int y]) ++ List.replicate (6 - (lg_sl ([.ref h1, .int x, .int y])).length) Slot.unset).toArray = ls at hl ⊢
  have hl : lv_has ls 6 [(0, .ref h1), (1, .int x), (2, .int y)] := hl
  subst hsz
  have hD := hD0.self (sz := s.heap.size)
  generalize hAe : va_A (mW h1 cI cB cZ ad ar iv) s.heap.size = A at hD ⊢
  have hA : ∀ q : Nat, s.heap.size ≤ q → A q := fun q h => by rw [← hAe]; exact Or.inr h
  have hS : va_S A s.heap s.heap [] := va_S.rf
  have hnc := hok.nc
  refine lv_iload_n hx hb dX1_gate_0 rfl (lv_at hl 1 rfl) ?_
  refine lv_iload_n hx hb dX1_gate_1 rfl (lv_at hl 2 rfl) ?_
  refine lv_icmp_ge (tgt := 9) hx hb dX1_gate_2 (by decide) (fun c2 => ?_) (fun c2 => ?_)
  · refine lv_iload_n hx hb dX1_gate_9 rfl (lv_at hl 2 rfl) ?_
    refine lv_istore_n (lv' := [(3, .int y), (0, .ref h1), (1, .int x), (2, .int y)]) hx hb dX1_gate_10 rfl hl (by decide) rfl (fun ls hl => ?_)
    refine lv_iload_n hx hb dX1_gate_11 rfl (lv_at hl 2 rfl) ?_
    refine lv_iload_n hx hb dX1_gate_12 rfl (lv_at hl 3 rfl) ?_
    refine lv_icmp_ge (tgt := 20) hx hb dX1_gate_13 (by decide) (fun c13 => ?_) (fun c13 => ?_)
    · refine lv_iload_n hx hb dX1_gate_20 rfl (lv_at hl 2 rfl) ?_
      refine lv_istore (lv' := [(4, .int x), (3, .int y), (0, .ref h1), (1, .int x), (2, .int y)]) hx hb dX1_gate_21 hl (by decide) rfl (fun ls hl => ?_)
      refine lv_iconst (v := 1) hx hb dX1_gate_23 (by decide) ?_
      refine lv_istore (lv' := [(5, .int 1), (4, .int x), (3, .int y), (0, .ref h1), (1, .int x), (2, .int y)]) hx hb dX1_gate_24 hl (by decide) rfl (fun ls hl => ?_)
      have hloop0 : ∀ (k : Nat) (q : Nat) (ls : Array Slot), nc - q < k → (1 ≤ q ∧ q ≤ nc ∧ ∀ j, j < q → g j ≠ some (min a b, max a b)) → lv_has ls 6 [(5, .int (nI q)), (4, .int (nI (max a b))), (3, .int (nI (min a b))), (0, .ref h1), (1, .int x), (2, .int y)] → W p l e (headSpec wsX1_gate ({ frames := 1, cells := 0, slots := 0, locals := 23 })).room s m ([.ref h1, .int x, .int y] : List Value).toArray below meth c s.heap [] 0 0 (MQ below (va_Qi (fun (r : Int32) (u : MS) => md_po ic bv (ct_gt nc g (min a b) (max a b)) r u) (mm_at D cI cB cZ ad A h1) A) ([.ref h1, .int x, .int y] : List Value).toArray s 0 0 A) (F0 m 26 ls []) := by
        intro k
        induction k with
        | zero => intro q ls h; omega
        | succ k ih0 =>
          intro q ls hqk hinv hl
          obtain ⟨i1, i2, i3⟩ := hinv
          refine lv_iload hx hb dX1_gate_26 (lv_at hl 0 rfl) ?_
          refine lv_aload_n hx hb dX1_gate_28 rfl (lv_at hl 3 rfl) ?_
          refine va_get (D := D) (ci := 1) (v := .int (iv 1)) (C := RX1) (T := TX1) (N := 8) hx hb hts inX1 hown hK hP 0 rfl rfl 6 (by decide) (hts _ (mG wm_369)) (fun _ h9 => h9) rfl dX1_gate_29 ?_
          refine lv_icmp_ge (tgt := 80) hx hb dX1_gate_32 (by decide) (fun c32 => ?_) (fun c32 => ?_)
          · have c32 : nc ≤ q := by
              rw [hnc] at c32
              exact (nI_leI (by omega) (by omega)).mp c32
            have hno : ∀ j, g j = some (min a b, max a b) → False := fun j hj => i3 j (by have := hok.wf.1 j _ _ hj; omega) hj
            have hgt := ct_gt_none (nc := nc) hno
            have hnc86 := hnc
            have hmx86 := hmx
            refine lv_iconst (v := 2) hx hb dX1_gate_80 (by decide) ?_
            refine lv_aload_n hx hb dX1_gate_81 rfl (lv_at hl 3 rfl) ?_
            refine lv_iconst (v := 2) hx hb dX1_gate_82 (by decide) ?_
            refine lv_iload_n hx hb dX1_gate_83 rfl (lv_at hl 2 rfl) ?_
            refine lv_iload hx hb dX1_gate_84 (lv_at hl 1 rfl) ?_
            have hFc := va_free (wc := (mW h1 cI cB cZ ad ar iv)) hD hS hA [0, 1, 2, 3, 4, 5] rfl
            refine va_calli (va_runV (As := [.int 2, .int (nI (min a b)), .int (nI (max a b))]) (rest := [.int 2]) ⟨hx, hb, hml, hown, hts⟩ (m_add l D h1 cI cB cZ ad ar iv s.heap.size 2 (nI (min a b)) (nI (max a b)) nc hnc86 hmx86 (by decide)) (cwV 3 hts gX1_gate_X1_add rfl rfl rfl (by decide +kernel) ⟨Nat.le_of_ble_eq_true rfl, Nat.le_of_ble_eq_true rfl⟩) (mP_V hK hP hD (va_recv hK hP (ci := 1) (q0 := 0) rfl rfl)) rfl rfl hl.1 rfl (lv_room (Nat.le_of_ble_eq_true rfl)) dX1_gate_86 ⟨Nat.zero_le _, Nat.zero_le _⟩) hS (fun q _ h => hFc q h) hFc (fun r86 u t H1 locs ht hvm e86 hB hz1 hk1 hS => ?_)
            obtain ⟨ar86, iv86⟩ := u
            obtain ⟨hP1, hK1, hD1⟩ := hB
            rw [ht] at hP1
            have hK := va_K.moved hvm.symm hK1
            have hP : va_P D vwCl (mW h1 cI cB cZ ad ar86 iv86) H1 := hP1
            have hD : va_D A (mW h1 cI cB cZ ad ar86 iv86) := hD1.weaken (fun k q _ h => hFc q.1 h)
            clear hP1 hK1 hD1 hk1 hz1 hFc ht
            generalize H1 = H at hP hS ⊢
            try dsimp only at e86
            have hz86 : iv86 0 = 0 := by rw [(Prod.mk.inj e86.2).2, va_up_ne _ _ (by decide)]; exact hcode
            have hnew : mm_ok (nc + 1) ic (va_up g nc (some (min a b, max a b))) bv ar86 iv86 := mm_ok_add hok hmx (ct_wf_add hok.wf hlo hlh hhi hno) (fun p9 q9 z => by cases z; exact ⟨rfl, rfl, rfl⟩) (fun z => by cases z) (Prod.mk.inj e86.2).1 (by rw [(Prod.mk.inj e86.2).2]; exact va_up_self _ _ _) (by rw [(Prod.mk.inj e86.2).2]; exact (va_up_ne _ _ (by decide)).trans hok.ic)
            refine lv_imul hx hb dX1_gate_89 ?_
            refine lv_topi (fun v89 e89 => ?_)
            exact W.iret (v := v89) hx hb hr (fun t ht hW => ⟨⟨v89, (ar86, iv86), rfl, (by rw [hgt]; exact ⟨by rw [e89, e86.1]; exact ct_2n nc, hz86, hnew⟩), by rw [ht]; exact hP, va_K.moved hW.alike hK, hD⟩, hS.F ht⟩) hS.2.2 dX1_gate_90
          · have c32 : q < nc := Nat.not_le.mp fun z => c32 (by rw [hnc]; exact nI_le z (by omega))
            have hi41 : vp_in (nI q) 20000 := vp_in_nI (by omega) (by omega)
            have hi52 := hi41
            have hi63 := hi41
            refine lv_aload_n hx hb dX1_gate_35 rfl (lv_at hl 3 rfl) ?_
            refine va_get (D := D) (ci := 1) (v := .ref (ad 0)) (C := RX1) (T := TX1) (N := 8) hx hb hts inX1 hown hK hP 0 rfl rfl 0 (by decide) (hts _ (mG wm_371)) (fun _ h9 => h9) rfl dX1_gate_36 ?_
            refine lv_iload hx hb dX1_gate_39 (lv_at hl 0 rfl) ?_
            refine va_bald hx hb hK hP 1 1 rfl rfl hi41 dX1_gate_41 ?_
            refine lv_topi (fun v41 e41 => ?_)
            have e41 : v41 = ct_kd g q := by rw [e41, nI_clamp (by omega)]; exact hok.kd q c32
            refine lv_iconst (v := 2) hx hb dX1_gate_42 (by decide) ?_
            refine lv_icmp_ne (tgt := 74) hx hb dX1_gate_43 (by decide) (fun c43 => ?_) (fun c43 => ?_)
            · have hne : g q ≠ some (min a b, max a b) := by
                intro z
                exact c43 (e41.trans ((ct_kd_2 hok.wf q).mpr (by rw [z]; simp)))
              obtain ⟨v74, e74⟩ : ∃ y : Int32, y = (nI q) + 1 := ⟨_, rfl⟩
              refine lv_iinc (v := v74) (lv' := [(5, .int v74), (4, .int (nI (max a b))), (3, .int (nI (min a b))), (0, .ref h1), (1, .int x), (2, .int y)]) hx hb dX1_gate_74 hl (k := 0) rfl (by rw [e74]; rfl) (by decide) rfl (fun ls hl => ?_)
              refine lv_goto (tgt := 26) hx hb dX1_gate_77 (by decide) ?_
              exact ih0 (q + 1) ls (by omega) ⟨by omega, by omega, fun j hj => (Decidable.em (j = q)).elim (fun z => by rw [z]; exact hne) (fun z => i3 j (by omega))⟩ (by rw [← nI_1]; rw [e74] at hl; exact hl)
            · refine lv_aload_n hx hb dX1_gate_46 rfl (lv_at hl 3 rfl) ?_
              refine va_get (D := D) (ci := 1) (v := .ref (ad 1)) (C := RX1) (T := TX1) (N := 8) hx hb hts inX1 hown hK hP 0 rfl rfl 1 (by decide) (hts _ (mG wm_372)) (fun _ h9 => h9) rfl dX1_gate_47 ?_
              refine lv_iload hx hb dX1_gate_50 (lv_at hl 0 rfl) ?_
              refine va_iald hx hb hK hP 2 0 rfl rfl hi52 dX1_gate_52 ?_
              refine lv_topi (fun v52 e52 => ?_)
              refine lv_iload_n hx hb dX1_gate_53 rfl (lv_at hl 2 rfl) ?_
              refine lv_icmp_ne (tgt := 74) hx hb dX1_gate_54 (by decide) (fun c54 => ?_) (fun c54 => ?_)
              · have hne : g q ≠ some (min a b, max a b) := by
                  intro z
                  exact c54 (by rw [e52, nI_clamp (by omega)]; exact (hok.fs _ _ _ z).1)
                obtain ⟨v74, e74⟩ : ∃ y : Int32, y = (nI q) + 1 := ⟨_, rfl⟩
                refine lv_iinc (v := v74) (lv' := [(5, .int v74), (4, .int (nI (max a b))), (3, .int (nI (min a b))), (0, .ref h1), (1, .int x), (2, .int y)]) hx hb dX1_gate_74 hl (k := 0) rfl (by rw [e74]; rfl) (by decide) rfl (fun ls hl => ?_)
                refine lv_goto (tgt := 26) hx hb dX1_gate_77 (by decide) ?_
                exact ih0 (q + 1) ls (by omega) ⟨by omega, by omega, fun j hj => (Decidable.em (j = q)).elim (fun z => by rw [z]; exact hne) (fun z => i3 j (by omega))⟩ (by rw [← nI_1]; rw [e74] at hl; exact hl)
              · refine lv_aload_n hx hb dX1_gate_57 rfl (lv_at hl 3 rfl) ?_
                refine va_get (D := D) (ci := 1) (v := .ref (ad 2)) (C := RX1) (T := TX1) (N := 8) hx hb hts inX1 hown hK hP 0 rfl rfl 2 (by decide) (hts _ (mG wm_373)) (fun _ h9 => h9) rfl dX1_gate_58 ?_
                refine lv_iload hx hb dX1_gate_61 (lv_at hl 0 rfl) ?_
                refine va_iald hx hb hK hP 3 0 rfl rfl hi63 dX1_gate_63 ?_
                refine lv_topi (fun v63 e63 => ?_)
                refine lv_iload hx hb dX1_gate_64 (lv_at hl 1 rfl) ?_
                refine lv_icmp_ne (tgt := 74) hx hb dX1_gate_66 (by decide) (fun c66 => ?_) (fun c66 => ?_)
                · have hne : g q ≠ some (min a b, max a b) := by
                    intro z
                    exact c66 (by rw [e63, nI_clamp (by omega)]; exact (hok.fs _ _ _ z).2)
                  obtain ⟨v74, e74⟩ : ∃ y : Int32, y = (nI q) + 1 := ⟨_, rfl⟩
                  refine lv_iinc (v := v74) (lv' := [(5, .int v74), (4, .int (nI (max a b))), (3, .int (nI (min a b))), (0, .ref h1), (1, .int x), (2, .int y)]) hx hb dX1_gate_74 hl (k := 0) rfl (by rw [e74]; rfl) (by decide) rfl (fun ls hl => ?_)
                  refine lv_goto (tgt := 26) hx hb dX1_gate_77 (by decide) ?_
                  exact ih0 (q + 1) ls (by omega) ⟨by omega, by omega, fun j hj => (Decidable.em (j = q)).elim (fun z => by rw [z]; exact hne) (fun z => i3 j (by omega))⟩ (by rw [← nI_1]; rw [e74] at hl; exact hl)
                · have hgt : ct_gt nc g (min a b) (max a b) = (2 * q, nc, g) := by
                    have hg8 := (ct_kd_2 hok.wf q).mp (e41.symm.trans c43)
                    cases hg9 : g q with
                    | none => exact absurd hg9 hg8
                    | some z =>
                      obtain ⟨p9, q9⟩ := z
                      have i8 := hok.lt hg9
                      have i7 := hok.fs _ _ _ hg9
                      have f1 : p9 = min a b := (nI_eq (by omega) (by omega)).mp (by rw [← c54, e52, nI_clamp (by omega)]; exact i7.1.symm)
                      have f2 : q9 = max a b := (nI_eq (by omega) (by omega)).mp (by rw [← c66, e63, nI_clamp (by omega)]; exact i7.2.symm)
                      exact ct_gt_some hok.wf (by rw [hg9, f1, f2])
                  refine lv_iconst (v := 2) hx hb dX1_gate_69 (by decide) ?_
                  refine lv_iload hx hb dX1_gate_70 (lv_at hl 0 rfl) ?_
                  refine lv_imul hx hb dX1_gate_72 ?_
                  refine lv_topi (fun v72 e72 => ?_)
                  exact W.iret (v := v72) hx hb hr (fun t ht hW => ⟨⟨v72, (ar, iv), rfl, (by rw [hgt]; exact ⟨by rw [e72]; exact ct_2n q, hcode, hok⟩), by rw [ht]; exact hP, va_K.moved hW.alike hK, hD⟩, hS.F ht⟩) hS.2.2 dX1_gate_73
      have hle : b ≤ a := by
        rw [hx0, hy0] at c2
        exact (nI_leI (by omega) (by omega)).mp c2
      have m3 := Nat.min_eq_right hle
      have m4 := Nat.max_eq_left hle
      have q3 : nI (min a b) = y := by rw [m3]; exact hy0.symm
      have q4 : nI (max a b) = x := by rw [m4]; exact hx0.symm
      exact hloop0 (nc + 1) 1 ls (by omega) ⟨by omega, hok.n1, fun j hj => by
        have : j = 0 := by omega
        rw [this, ct_zero hok.wf]
        simp⟩ (by rw [q3, q4]; exact hl)
    · exact absurd c2 c13
  · refine lv_iload_n hx hb dX1_gate_5 rfl (lv_at hl 1 rfl) ?_
    refine lv_goto (tgt := 10) hx hb dX1_gate_6 (by decide) ?_
    refine lv_istore_n (lv' := [(3, .int x), (0, .ref h1), (1, .int x), (2, .int y)]) hx hb dX1_gate_10 rfl hl (by decide) rfl (fun ls hl => ?_)
    refine lv_iload_n hx hb dX1_gate_11 rfl (lv_at hl 2 rfl) ?_
    refine lv_iload_n hx hb dX1_gate_12 rfl (lv_at hl 3 rfl) ?_
    refine lv_icmp_ge (tgt := 20) hx hb dX1_gate_13 (by decide) (fun c13 => ?_) (fun c13 => ?_)
    · exact absurd c13 c2
    · refine lv_iload_n hx hb dX1_gate_16 rfl (lv_at hl 3 rfl) ?_
      refine lv_goto (tgt := 21) hx hb dX1_gate_17 (by decide) ?_
      refine lv_istore (lv' := [(4, .int y), (3, .int x), (0, .ref h1), (1, .int x), (2, .int y)]) hx hb dX1_gate_21 hl (by decide) rfl (fun ls hl => ?_)
      refine lv_iconst (v := 1) hx hb dX1_gate_23 (by decide) ?_
      refine lv_istore (lv' := [(5, .int 1), (4, .int y), (3, .int x), (0, .ref h1), (1, .int x), (2, .int y)]) hx hb dX1_gate_24 hl (by decide) rfl (fun ls hl => ?_)
      have hloop0 : ∀ (k : Nat) (q : Nat) (ls : Array Slot), nc - q < k → (1 ≤ q ∧ q ≤ nc ∧ ∀ j, j < q → g j ≠ some (min a b, max a b)) → lv_has ls 6 [(5, .int (nI q)), (4, .int (nI (max a b))), (3, .int (nI (min a b))), (0, .ref h1), (1, .int x), (2, .int y)] → W p l e (headSpec wsX1_gate ({ frames := 1, cells := 0, slots := 0, locals := 23 })).room s m ([.ref h1, .int x, .int y] : List Value).toArray below meth c s.heap [] 0 0 (MQ below (va_Qi (fun (r : Int32) (u : MS) => md_po ic bv (ct_gt nc g (min a b) (max a b)) r u) (mm_at D cI cB cZ ad A h1) A) ([.ref h1, .int x, .int y] : List Value).toArray s 0 0 A) (F0 m 26 ls []) := by
        intro k
        induction k with
        | zero => intro q ls h; omega
        | succ k ih0 =>
          intro q ls hqk hinv hl
          obtain ⟨i1, i2, i3⟩ := hinv
          refine lv_iload hx hb dX1_gate_26 (lv_at hl 0 rfl) ?_
          refine lv_aload_n hx hb dX1_gate_28 rfl (lv_at hl 3 rfl) ?_
          refine va_get (D := D) (ci := 1) (v := .int (iv 1)) (C := RX1) (T := TX1) (N := 8) hx hb hts inX1 hown hK hP 0 rfl rfl 6 (by decide) (hts _ (mG wm_369)) (fun _ h9 => h9) rfl dX1_gate_29 ?_
          refine lv_icmp_ge (tgt := 80) hx hb dX1_gate_32 (by decide) (fun c32 => ?_) (fun c32 => ?_)
          · have c32 : nc ≤ q := by
              rw [hnc] at c32
              exact (nI_leI (by omega) (by omega)).mp c32
            have hno : ∀ j, g j = some (min a b, max a b) → False := fun j hj => i3 j (by have := hok.wf.1 j _ _ hj; omega) hj
            have hgt := ct_gt_none (nc := nc) hno
            have hnc86 := hnc
            have hmx86 := hmx
            refine lv_iconst (v := 2) hx hb dX1_gate_80 (by decide) ?_
            refine lv_aload_n hx hb dX1_gate_81 rfl (lv_at hl 3 rfl) ?_
            refine lv_iconst (v := 2) hx hb dX1_gate_82 (by decide) ?_
            refine lv_iload_n hx hb dX1_gate_83 rfl (lv_at hl 2 rfl) ?_
            refine lv_iload hx hb dX1_gate_84 (lv_at hl 1 rfl) ?_
            have hFc := va_free (wc := (mW h1 cI cB cZ ad ar iv)) hD hS hA [0, 1, 2, 3, 4, 5] rfl
            refine va_calli (va_runV (As := [.int 2, .int (nI (min a b)), .int (nI (max a b))]) (rest := [.int 2]) ⟨hx, hb, hml, hown, hts⟩ (m_add l D h1 cI cB cZ ad ar iv s.heap.size 2 (nI (min a b)) (nI (max a b)) nc hnc86 hmx86 (by decide)) (cwV 3 hts gX1_gate_X1_add rfl rfl rfl (by decide +kernel) ⟨Nat.le_of_ble_eq_true rfl, Nat.le_of_ble_eq_true rfl⟩) (mP_V hK hP hD (va_recv hK hP (ci := 1) (q0 := 0) rfl rfl)) rfl rfl hl.1 rfl (lv_room (Nat.le_of_ble_eq_true rfl)) dX1_gate_86 ⟨Nat.zero_le _, Nat.zero_le _⟩) hS (fun q _ h => hFc q h) hFc (fun r86 u t H1 locs ht hvm e86 hB hz1 hk1 hS => ?_)
            obtain ⟨ar86, iv86⟩ := u
            obtain ⟨hP1, hK1, hD1⟩ := hB
            rw [ht] at hP1
            have hK := va_K.moved hvm.symm hK1
            have hP : va_P D vwCl (mW h1 cI cB cZ ad ar86 iv86) H1 := hP1
            have hD : va_D A (mW h1 cI cB cZ ad ar86 iv86) := hD1.weaken (fun k q _ h => hFc q.1 h)
            clear hP1 hK1 hD1 hk1 hz1 hFc ht
            generalize H1 = H at hP hS ⊢
            try dsimp only at e86
            have hz86 : iv86 0 = 0 := by rw [(Prod.mk.inj e86.2).2, va_up_ne _ _ (by decide)]; exact hcode
            have hnew : mm_ok (nc + 1) ic (va_up g nc (some (min a b, max a b))) bv ar86 iv86 := mm_ok_add hok hmx (ct_wf_add hok.wf hlo hlh hhi hno) (fun p9 q9 z => by cases z; exact ⟨rfl, rfl, rfl⟩) (fun z => by cases z) (Prod.mk.inj e86.2).1 (by rw [(Prod.mk.inj e86.2).2]; exact va_up_self _ _ _) (by rw [(Prod.mk.inj e86.2).2]; exact (va_up_ne _ _ (by decide)).trans hok.ic)
            refine lv_imul hx hb dX1_gate_89 ?_
            refine lv_topi (fun v89 e89 => ?_)
            exact W.iret (v := v89) hx hb hr (fun t ht hW => ⟨⟨v89, (ar86, iv86), rfl, (by rw [hgt]; exact ⟨by rw [e89, e86.1]; exact ct_2n nc, hz86, hnew⟩), by rw [ht]; exact hP, va_K.moved hW.alike hK, hD⟩, hS.F ht⟩) hS.2.2 dX1_gate_90
          · have c32 : q < nc := Nat.not_le.mp fun z => c32 (by rw [hnc]; exact nI_le z (by omega))
            have hi41 : vp_in (nI q) 20000 := vp_in_nI (by omega) (by omega)
            have hi52 := hi41
            have hi63 := hi41
            refine lv_aload_n hx hb dX1_gate_35 rfl (lv_at hl 3 rfl) ?_
            refine va_get (D := D) (ci := 1) (v := .ref (ad 0)) (C := RX1) (T := TX1) (N := 8) hx hb hts inX1 hown hK hP 0 rfl rfl 0 (by decide) (hts _ (mG wm_371)) (fun _ h9 => h9) rfl dX1_gate_36 ?_
            refine lv_iload hx hb dX1_gate_39 (lv_at hl 0 rfl) ?_
            refine va_bald hx hb hK hP 1 1 rfl rfl hi41 dX1_gate_41 ?_
            refine lv_topi (fun v41 e41 => ?_)
            have e41 : v41 = ct_kd g q := by rw [e41, nI_clamp (by omega)]; exact hok.kd q c32
            refine lv_iconst (v := 2) hx hb dX1_gate_42 (by decide) ?_
            refine lv_icmp_ne (tgt := 74) hx hb dX1_gate_43 (by decide) (fun c43 => ?_) (fun c43 => ?_)
            · have hne : g q ≠ some (min a b, max a b) := by
                intro z
                exact c43 (e41.trans ((ct_kd_2 hok.wf q).mpr (by rw [z]; simp)))
              obtain ⟨v74, e74⟩ : ∃ y : Int32, y = (nI q) + 1 := ⟨_, rfl⟩
              refine lv_iinc (v := v74) (lv' := [(5, .int v74), (4, .int (nI (max a b))), (3, .int (nI (min a b))), (0, .ref h1), (1, .int x), (2, .int y)]) hx hb dX1_gate_74 hl (k := 0) rfl (by rw [e74]; rfl) (by decide) rfl (fun ls hl => ?_)
              refine lv_goto (tgt := 26) hx hb dX1_gate_77 (by decide) ?_
              exact ih0 (q + 1) ls (by omega) ⟨by omega, by omega, fun j hj => (Decidable.em (j = q)).elim (fun z => by rw [z]; exact hne) (fun z => i3 j (by omega))⟩ (by rw [← nI_1]; rw [e74] at hl; exact hl)
            · refine lv_aload_n hx hb dX1_gate_46 rfl (lv_at hl 3 rfl) ?_
              refine va_get (D := D) (ci := 1) (v := .ref (ad 1)) (C := RX1) (T := TX1) (N := 8) hx hb hts inX1 hown hK hP 0 rfl rfl 1 (by decide) (hts _ (mG wm_372)) (fun _ h9 => h9) rfl dX1_gate_47 ?_
              refine lv_iload hx hb dX1_gate_50 (lv_at hl 0 rfl) ?_
              refine va_iald hx hb hK hP 2 0 rfl rfl hi52 dX1_gate_52 ?_
              refine lv_topi (fun v52 e52 => ?_)
              refine lv_iload_n hx hb dX1_gate_53 rfl (lv_at hl 2 rfl) ?_
              refine lv_icmp_ne (tgt := 74) hx hb dX1_gate_54 (by decide) (fun c54 => ?_) (fun c54 => ?_)
              · have hne : g q ≠ some (min a b, max a b) := by
                  intro z
                  exact c54 (by rw [e52, nI_clamp (by omega)]; exact (hok.fs _ _ _ z).1)
                obtain ⟨v74, e74⟩ : ∃ y : Int32, y = (nI q) + 1 := ⟨_, rfl⟩
                refine lv_iinc (v := v74) (lv' := [(5, .int v74), (4, .int (nI (max a b))), (3, .int (nI (min a b))), (0, .ref h1), (1, .int x), (2, .int y)]) hx hb dX1_gate_74 hl (k := 0) rfl (by rw [e74]; rfl) (by decide) rfl (fun ls hl => ?_)
                refine lv_goto (tgt := 26) hx hb dX1_gate_77 (by decide) ?_
                exact ih0 (q + 1) ls (by omega) ⟨by omega, by omega, fun j hj => (Decidable.em (j = q)).elim (fun z => by rw [z]; exact hne) (fun z => i3 j (by omega))⟩ (by rw [← nI_1]; rw [e74] at hl; exact hl)
              · refine lv_aload_n hx hb dX1_gate_57 rfl (lv_at hl 3 rfl) ?_
                refine va_get (D := D) (ci := 1) (v := .ref (ad 2)) (C := RX1) (T := TX1) (N := 8) hx hb hts inX1 hown hK hP 0 rfl rfl 2 (by decide) (hts _ (mG wm_373)) (fun _ h9 => h9) rfl dX1_gate_58 ?_
                refine lv_iload hx hb dX1_gate_61 (lv_at hl 0 rfl) ?_
                refine va_iald hx hb hK hP 3 0 rfl rfl hi63 dX1_gate_63 ?_
                refine lv_topi (fun v63 e63 => ?_)
                refine lv_iload hx hb dX1_gate_64 (lv_at hl 1 rfl) ?_
                refine lv_icmp_ne (tgt := 74) hx hb dX1_gate_66 (by decide) (fun c66 => ?_) (fun c66 => ?_)
                · have hne : g q ≠ some (min a b, max a b) := by
                    intro z
                    exact c66 (by rw [e63, nI_clamp (by omega)]; exact (hok.fs _ _ _ z).2)
                  obtain ⟨v74, e74⟩ : ∃ y : Int32, y = (nI q) + 1 := ⟨_, rfl⟩
                  refine lv_iinc (v := v74) (lv' := [(5, .int v74), (4, .int (nI (max a b))), (3, .int (nI (min a b))), (0, .ref h1), (1, .int x), (2, .int y)]) hx hb dX1_gate_74 hl (k := 0) rfl (by rw [e74]; rfl) (by decide) rfl (fun ls hl => ?_)
                  refine lv_goto (tgt := 26) hx hb dX1_gate_77 (by decide) ?_
                  exact ih0 (q + 1) ls (by omega) ⟨by omega, by omega, fun j hj => (Decidable.em (j = q)).elim (fun z => by rw [z]; exact hne) (fun z => i3 j (by omega))⟩ (by rw [← nI_1]; rw [e74] at hl; exact hl)
                · have hgt : ct_gt nc g (min a b) (max a b) = (2 * q, nc, g) := by
                    have hg8 := (ct_kd_2 hok.wf q).mp (e41.symm.trans c43)
                    cases hg9 : g q with
                    | none => exact absurd hg9 hg8
                    | some z =>
                      obtain ⟨p9, q9⟩ := z
                      have i8 := hok.lt hg9
                      have i7 := hok.fs _ _ _ hg9
                      have f1 : p9 = min a b := (nI_eq (by omega) (by omega)).mp (by rw [← c54, e52, nI_clamp (by omega)]; exact i7.1.symm)
                      have f2 : q9 = max a b := (nI_eq (by omega) (by omega)).mp (by rw [← c66, e63, nI_clamp (by omega)]; exact i7.2.symm)
                      exact ct_gt_some hok.wf (by rw [hg9, f1, f2])
                  refine lv_iconst (v := 2) hx hb dX1_gate_69 (by decide) ?_
                  refine lv_iload hx hb dX1_gate_70 (lv_at hl 0 rfl) ?_
                  refine lv_imul hx hb dX1_gate_72 ?_
                  refine lv_topi (fun v72 e72 => ?_)
                  exact W.iret (v := v72) hx hb hr (fun t ht hW => ⟨⟨v72, (ar, iv), rfl, (by rw [hgt]; exact ⟨by rw [e72]; exact ct_2n q, hcode, hok⟩), by rw [ht]; exact hP, va_K.moved hW.alike hK, hD⟩, hS.F ht⟩) hS.2.2 dX1_gate_73
      have hle : a ≤ b := by
        rw [hx0, hy0] at c2
        have := mt (nI_le (a := b) (b := a) · (by omega)) c2
        omega
      have m3 := Nat.min_eq_left hle
      have m4 := Nat.max_eq_right hle
      have q3 : nI (min a b) = x := by rw [m3]; exact hx0.symm
      have q4 : nI (max a b) = y := by rw [m4]; exact hy0.symm
      exact hloop0 (nc + 1) 1 ls (by omega) ⟨by omega, hok.n1, fun j hj => by
        have : j = 0 := by omega
        rw [this, ct_zero hok.wf]
        simp⟩ (by rw [q3, q4]; exact hl)
set_option maxHeartbeats 4000000 in
set_option maxRecDepth 100000 in
/-- the reference: make -/
theorem m_make (l : Launch) (D : va_G) (h1 : Nat) (cI cB cZ : ClassId) (ad : Nat → Nat) (ar : Nat → Nat → Int32) (iv : Nat → Int32) (sz : Nat) (x : Int32) (y : Int32) (a b : Nat) (nc ic : Nat) (g : Ct) (bv : Nat → Bool) (hx0 : x = nI a) (hy0 : y = nI b) (ha2 : a < 2 * nc) (hb2 : b < 2 * nc) (hok : mm_ok nc ic g bv ar iv) (hcode : iv 0 = 0) (hmx : nc < 20000) : Met l yX1_make wsX1_make ({ frames := 2, cells := 0, slots := 0, locals := 48 }) (mP D (mW h1 cI cB cZ ad ar iv) [(cI, .int), (cB, .byte), (cZ, .boolean)] sz [.ref h1, .int x, .int y]) (va_Qi (fun (r : Int32) (u : MS) => md_po ic bv (ct_an nc g a b) r u) (mm_at D cI cB cZ ad (va_A (mW h1 cI cB cZ ad ar iv) sz) h1) (va_A (mW h1 cI cB cZ ad ar iv) sz)) 0 0 (va_A (mW h1 cI cB cZ ad ar iv) sz) := by
  refine Met.ofW (cc := cX1_make) (maxL := 11) (ret := (some .int)) (by decide) rfl ?_
  intro p e s m args below meth c s₁ B hml hv
  obtain ⟨rfl, hsz, hP, hK, hD0⟩ := hv
  have hx := B.exec
  have hb := B.bytes
  have hr := B.returns
  have hts := atoms_spec (ws := wsX1_make) B.pre
  have hown : s.vm.findClass RX1 = some m.cls := findClass_of_methodNamed B.named
  have hlocks := B.notSynchronized
  have hl := lv_entry ([.ref h1, .int x, .int y]) (n := 11) (Nat.le_of_ble_eq_true rfl)
  rw [lg_entry_eq]
  generalize (lg_sl ([.ref h1, .int x, .int y]) ++ List.replicate (11 - (lg_sl ([.ref h1, .int x, .int y])).length) Slot.unset).toArray = ls at hl ⊢
  have hl : lv_has ls 11 [(0, .ref h1), (1, .int x), (2, .int y)] := hl
  subst hsz
  have hD := hD0.self (sz := s.heap.size)
  generalize hAe : va_A (mW h1 cI cB cZ ad ar iv) s.heap.size = A at hD ⊢
  have hA : ∀ q : Nat, s.heap.size ≤ q → A q := fun q h => by rw [← hAe]; exact Or.inr h
  have hS : va_S A s.heap s.heap [] := va_S.rf
  have hnc := hok.nc
  have hwf := hok.wf
  refine lv_iload_n hx hb dX1_make_0 rfl (lv_at hl 1 rfl) ?_
  refine lv_istore_n (lv' := [(3, .int x), (0, .ref h1), (1, .int x), (2, .int y)]) hx hb dX1_make_1 rfl hl (by decide) rfl (fun ls hl => ?_)
  refine lv_iload_n hx hb dX1_make_2 rfl (lv_at hl 3 rfl) ?_
  refine lv_istore (lv' := [(4, .int y), (3, .int x), (0, .ref h1), (1, .int x), (2, .int y)]) hx hb dX1_make_3 hl (by decide) rfl (fun ls hl => ?_)
  have hloop0 : ∀ (k : Nat) (a1 : Nat) (b1 : Nat) (ls : Array Slot), max a1 b1 / 2 < k → (a1 < 2 * nc ∧ b1 < 2 * nc ∧ ct_rd g nc (min a b) (max a b) = ct_rd g (max a1 b1 / 2 + 1) (min a1 b1) (max a1 b1)) → lv_has ls 11 [(4, .int (nI b1)), (3, .int (nI a1)), (0, .ref h1), (1, .int x), (2, .int y)] → W p l e (headSpec wsX1_make ({ frames := 2, cells := 0, slots := 0, locals := 48 })).room s m ([.ref h1, .int x, .int y] : List Value).toArray below meth c s.heap [] 0 0 (MQ below (va_Qi (fun (r : Int32) (u : MS) => md_po ic bv (ct_an nc g a b) r u) (mm_at D cI cB cZ ad A h1) A) ([.ref h1, .int x, .int y] : List Value).toArray s 0 0 A) (F0 m 5 ls []) := by
    intro k
    induction k with
    | zero => intro a1 b1 ls h; omega
    | succ k ih0 =>
      intro a1 b1 ls hqk hinv hl
      obtain ⟨i1, i2, i3⟩ := hinv
      have hqk0 := hqk
      have ha9 : vp_in (gb_sh (nI a1)) 20000 := by rw [gb_sh_n (by omega)]; exact vp_in_nI (by omega) (by omega)
      have hb9 : vp_in (gb_sh (nI b1)) 20000 := by rw [gb_sh_n (by omega)]; exact vp_in_nI (by omega) (by omega)
      have g1 : (¬ mi_gate ar (nI a1) 1 = 0 ∧ ¬ mi_has ar (nI a1) (nI b1) = 0) ↔ (ct_gq g a1 true = true ∧ ct_has g (a1 / 2) b1 = true) := mm_gh hok i1 (by omega) true
      have g2 : (¬ mi_gate ar (nI b1) 1 = 0 ∧ ¬ mi_has ar (nI b1) (nI a1) = 0) ↔ (ct_gq g b1 true = true ∧ ct_has g (b1 / 2) a1 = true) := mm_gh hok i2 (by omega) true
      refine lv_aload_n hx hb dX1_make_5 rfl (lv_at hl 2 rfl) ?_
      refine va_get (D := D) (ci := 1) (v := .int (iv 0)) (C := RX1) (T := TX1) (N := 8) hx hb hts inX1 hown hK hP 0 rfl rfl 5 (by decide) (hts _ (mG wm_368)) (fun _ h9 => h9) rfl dX1_make_6 ?_
      refine lv_if_ne (tgt := 225) hx hb dX1_make_9 (by decide) (fun c9 => ?_) (fun c9 => ?_)
      · exact absurd hcode c9
      · refine lv_iconst (v := 0) hx hb dX1_make_12 (by decide) ?_
        refine lv_istore (lv' := [(5, .int 0), (4, .int (nI b1)), (3, .int (nI a1)), (0, .ref h1), (1, .int x), (2, .int y)]) hx hb dX1_make_13 hl (by decide) rfl (fun ls hl => ?_)
        refine lv_iconst (v := 0) hx hb dX1_make_15 (by decide) ?_
        refine lv_istore (lv' := [(6, .int 0), (5, .int 0), (4, .int (nI b1)), (3, .int (nI a1)), (0, .ref h1), (1, .int x), (2, .int y)]) hx hb dX1_make_16 hl (by decide) rfl (fun ls hl => ?_)
        have hloop1 : ∀ (k : Nat) (q : Nat) (ls : Array Slot), 8 - q < k → (q ≤ 8 ∧ (∀ j, j < q → md_f g j (min a1 b1) (max a1 b1) = none) ∧ (q = 8 → ct_kn g (min a1 b1) (max a1 b1) = none ∧ ct_re g (min a1 b1) (max a1 b1) = none)) → lv_has ls 11 [(6, .int (nI q)), (5, .int 0), (4, .int (nI b1)), (3, .int (nI a1)), (0, .ref h1), (1, .int x), (2, .int y)] → W p l e (headSpec wsX1_make ({ frames := 2, cells := 0, slots := 0, locals := 48 })).room s m ([.ref h1, .int x, .int y] : List Value).toArray below meth c s.heap [] 0 0 (MQ below (va_Qi (fun (r : Int32) (u : MS) => md_po ic bv (ct_an nc g a b) r u) (mm_at D cI cB cZ ad A h1) A) ([.ref h1, .int x, .int y] : List Value).toArray s 0 0 A) (F0 m 18 ls []) := by
          intro k
          induction k with
          | zero => intro q ls h; omega
          | succ k ih1 =>
            intro q ls hqk hinv hl
            obtain ⟨j1, j2, j3⟩ := hinv
            refine lv_iload hx hb dX1_make_18 (lv_at hl 0 rfl) ?_
            refine lv_bipush (v := 8) hx hb dX1_make_20 (by decide) ?_
            refine lv_icmp_ge (tgt := 209) hx hb dX1_make_22 (by decide) (fun c22 => ?_) (fun c22 => ?_)
            · have c22 : q = 8 := by
                have := (nI_leI (a := 8) (b := q) (by omega) (by omega)).mp c22
                omega
              obtain ⟨k1, k2⟩ := j3 c22
              have hk9 := ct_kn_gap k1 (by omega)
              have hR := md_gt i3 k1 k2
              refine lv_iload hx hb dX1_make_209 (lv_at hl 1 rfl) ?_
              refine lv_if_ne (tgt := 222) hx hb dX1_make_211 (by decide) (fun c211 => ?_) (fun c211 => ?_)
              · exact absurd c211 (by decide)
              · refine lv_aload_n hx hb dX1_make_214 rfl (lv_at hl 4 rfl) ?_
                refine lv_iload_n hx hb dX1_make_215 rfl (lv_at hl 3 rfl) ?_
                refine lv_iload hx hb dX1_make_216 (lv_at hl 2 rfl) ?_
                have hFc := va_free (wc := (mW h1 cI cB cZ ad ar iv)) hD hS hA [0, 1, 2, 3, 4, 5] rfl
                refine va_calli (va_runV (As := [.int (nI a1), .int (nI b1)]) (rest := []) ⟨hx, hb, hml, hown, hts⟩ (m_gate l D h1 cI cB cZ ad ar iv s.heap.size (nI a1) (nI b1) a1 b1 nc ic g bv rfl rfl hok hcode hk9.1 hk9.2 (by omega) hmx) (cwV 2 hts gX1_make_X1_gate rfl rfl rfl (by decide +kernel) ⟨Nat.le_of_ble_eq_true rfl, Nat.le_of_ble_eq_true rfl⟩) (mP_V hK hP hD (va_recv hK hP (ci := 1) (q0 := 0) rfl rfl)) rfl rfl hl.1 rfl (lv_room (Nat.le_of_ble_eq_true rfl)) dX1_make_218 ⟨Nat.zero_le _, Nat.zero_le _⟩) hS (fun q _ h => hFc q h) hFc (fun r218 u t H1 locs ht hvm e218 hB hz1 hk1 hS => ?_)
                obtain ⟨ar218, iv218⟩ := u
                obtain ⟨hP1, hK1, hD1⟩ := hB
                rw [ht] at hP1
                have hK := va_K.moved hvm.symm hK1
                have hP : va_P D vwCl (mW h1 cI cB cZ ad ar218 iv218) H1 := hP1
                have hD : va_D A (mW h1 cI cB cZ ad ar218 iv218) := hD1.weaken (fun k q _ h => hFc q.1 h)
                clear hP1 hK1 hD1 hk1 hz1 hFc ht
                generalize H1 = H at hP hS ⊢
                try dsimp only at e218
                exact W.iret (v := r218) hx hb hr (fun t ht hW => ⟨⟨r218, (ar218, iv218), rfl, (by rw [hR]; exact e218), by rw [ht]; exact hP, va_K.moved hW.alike hK, hD⟩, hS.F ht⟩) hS.2.2 dX1_make_221
            · have c22 : q < 8 := Nat.not_le.mp fun z => c22 (nI_le (a := 8) z (by omega))
              refine lv_iload hx hb dX1_make_25 (lv_at hl 1 rfl) ?_
              refine lv_if_ne (tgt := 209) hx hb dX1_make_27 (by decide) (fun c27 => ?_) (fun c27 => ?_)
              · exact absurd c27 (by decide)
              · refine lv_iload hx hb dX1_make_30 (lv_at hl 0 rfl) ?_
                refine lv_bipush (v := 7) hx hb dX1_make_32 (by decide) ?_
                refine lv_icmp_ne (tgt := 149) hx hb dX1_make_34 (by decide) (fun c34 => ?_) (fun c34 => ?_)
                · have c34 : q < 7 := by
                    have : q ≠ 7 := fun z => c34 (by rw [z]; rfl)
                    omega
                  refine lv_iload hx hb dX1_make_149 (lv_at hl 1 rfl) ?_
                  refine lv_if_eq (tgt := 158) hx hb dX1_make_151 (by decide) (fun c151 => ?_) (fun c151 => ?_)
                  · refine lv_aload_n hx hb dX1_make_158 rfl (lv_at hl 4 rfl) ?_
                    refine lv_iload hx hb dX1_make_159 (lv_at hl 0 rfl) ?_
                    refine lv_iload_n hx hb dX1_make_161 rfl (lv_at hl 3 rfl) ?_
                    refine lv_iload hx hb dX1_make_162 (lv_at hl 2 rfl) ?_
                    refine vp_callSi (W.runV (As := [.int (nI q), .int (nI a1), .int (nI b1)]) (rest := []) ⟨hx, hb, hml, hown, hts⟩ (m_rule l D h1 cI cB cZ ad ar iv (nI q) (nI a1) (nI b1) q c22 rfl ha9 hb9) (cwV 3 hts gX1_make_X1_rule rfl rfl rfl (by decide +kernel) ⟨Nat.le_of_ble_eq_true rfl, Nat.le_of_ble_eq_true rfl⟩) (rP_V hK hP (va_recv hK hP (ci := 1) (q0 := 0) rfl rfl)) rfl rfl hl.1 rfl (lv_room (Nat.le_of_ble_eq_true rfl)) dX1_make_164 ⟨Nat.zero_le _, Nat.zero_le _⟩) (fun r164 e164 => ?_)
                    have e164 : r164 = ct_i (md_r g q a1 b1) := e164.trans (mm_rule hok c22 i1 i2)
                    have t1 := md_told (g := g) (k := q) (a := a1) (b := b1) (by omega) (by omega)
                    refine lv_istore (lv' := [(7, .int r164), (6, .int (nI q)), (5, .int 0), (4, .int (nI b1)), (3, .int (nI a1)), (0, .ref h1), (1, .int x), (2, .int y)]) hx hb dX1_make_167 hl (by decide) rfl (fun ls hl => ?_)
                    refine lv_iload hx hb dX1_make_169 (lv_at hl 0 rfl) ?_
                    refine lv_if_ge (tgt := 191) hx hb dX1_make_171 (by decide) (fun c171 => ?_) (fun c171 => ?_)
                    · refine lv_iload hx hb dX1_make_191 (lv_at hl 0 rfl) ?_
                      refine lv_istore (lv' := [(7, .int r164), (6, .int (nI q)), (5, .int 0), (4, .int (nI b1)), (3, .int (nI a1)), (0, .ref h1), (1, .int x), (2, .int y)]) hx hb dX1_make_193 hl (by decide) rfl (fun ls hl => ?_)
                      refine lv_iload hx hb dX1_make_195 (lv_at hl 0 rfl) ?_
                      refine lv_if_lt (tgt := 203) hx hb dX1_make_197 (by decide) (fun c197 => ?_) (fun c197 => ?_)
                      · exact absurd c197 (Int32.not_lt.mpr c171)
                      · obtain ⟨v9, hv9, hv8⟩ := t1.2 (by rw [← e164]; exact c171)
                        have hv7 : md_f g q (min a1 b1) (max a1 b1) = some v9 := by rw [← md_tt hok.wf c22 j2]; exact md_t1 hv9
                        have hkn := md_kn j2 c34 hv7
                        have hR := md_end i3 hkn
                        refine lv_iload hx hb dX1_make_200 (lv_at hl 0 rfl) ?_
                        exact W.iret (v := r164) hx hb hr (fun t ht hW => ⟨⟨r164, (ar, iv), rfl, (by rw [hR]; exact ⟨e164.trans hv8, hcode, hok⟩), by rw [ht]; exact hP, va_K.moved hW.alike hK, hD⟩, hS.F ht⟩) hS.2.2 dX1_make_202
                    · refine lv_iload hx hb dX1_make_174 (lv_at hl 2 rfl) ?_
                      refine lv_if_ne (tgt := 191) hx hb dX1_make_176 (by decide) (fun c176 => ?_) (fun c176 => ?_)
                      · exact absurd c176 (by decide)
                      · refine lv_aload_n hx hb dX1_make_179 rfl (lv_at hl 5 rfl) ?_
                        refine lv_iload hx hb dX1_make_180 (lv_at hl 1 rfl) ?_
                        refine lv_iload hx hb dX1_make_182 (lv_at hl 3 rfl) ?_
                        refine lv_iload_n hx hb dX1_make_184 rfl (lv_at hl 4 rfl) ?_
                        refine vp_callSi (W.runV (As := [.int (nI q), .int (nI b1), .int (nI a1)]) (rest := []) ⟨hx, hb, hml, hown, hts⟩ (m_rule l D h1 cI cB cZ ad ar iv (nI q) (nI b1) (nI a1) q c22 rfl hb9 ha9) (cwV 3 hts gX1_make_X1_rule rfl rfl rfl (by decide +kernel) ⟨Nat.le_of_ble_eq_true rfl, Nat.le_of_ble_eq_true rfl⟩) (rP_V hK hP (va_recv hK hP (ci := 1) (q0 := 0) rfl rfl)) rfl rfl hl.1 rfl (lv_room (Nat.le_of_ble_eq_true rfl)) dX1_make_185 ⟨Nat.zero_le _, Nat.zero_le _⟩) (fun r185 e185 => ?_)
                        have e185 : r185 = ct_i (md_r g q b1 a1) := e185.trans (mm_rule hok c22 i2 i1)
                        have t0 := t1.1 (by rw [← e164]; exact c171)
                        have t2 := md_told (g := g) (k := q) (a := b1) (b := a1) (by omega) (by omega)
                        refine lv_goto (tgt := 193) hx hb dX1_make_188 (by decide) ?_
                        refine lv_istore (lv' := [(7, .int r185), (6, .int (nI q)), (5, .int 0), (4, .int (nI b1)), (3, .int (nI a1)), (0, .ref h1), (1, .int x), (2, .int y)]) hx hb dX1_make_193 hl (by decide) rfl (fun ls hl => ?_)
                        refine lv_iload hx hb dX1_make_195 (lv_at hl 0 rfl) ?_
                        refine lv_if_lt (tgt := 203) hx hb dX1_make_197 (by decide) (fun c197 => ?_) (fun c197 => ?_)
                        · obtain ⟨v203, e203⟩ : ∃ y : Int32, y = (nI q) + 1 := ⟨_, rfl⟩
                          refine lv_iinc (v := v203) (lv' := [(6, .int v203), (7, .int r185), (5, .int 0), (4, .int (nI b1)), (3, .int (nI a1)), (0, .ref h1), (1, .int x), (2, .int y)]) hx hb dX1_make_203 hl (k := 1) rfl (by rw [e203]; rfl) (by decide) rfl (fun ls hl => ?_)
                          refine lv_goto (tgt := 18) hx hb dX1_make_206 (by decide) ?_
                          have hn9 : md_f g q (min a1 b1) (max a1 b1) = none := by rw [← md_tt hok.wf c22 j2, md_t2 t0]; exact t2.1 (by rw [← e185]; exact Int32.not_le.mpr c197)
                          exact ih1 (q + 1) ls (by omega) ⟨by omega, fun j hj => (Decidable.em (j = q)).elim (fun z => by rw [z]; exact hn9) (fun z => j2 j (by omega)), fun z => absurd z (by omega)⟩ (by rw [← nI_1, ← e203]; exact lv_sub hl [0, 2, 3, 4, 5, 6, 7] rfl)
                        · obtain ⟨v9, hv9, hv8⟩ := t2.2 (by rw [← e185]; exact Int32.not_lt.mp c197)
                          have hv7 : md_f g q (min a1 b1) (max a1 b1) = some v9 := by rw [← md_tt hok.wf c22 j2, md_t2 t0]; exact hv9
                          have hkn := md_kn j2 c34 hv7
                          have hR := md_end i3 hkn
                          refine lv_iload hx hb dX1_make_200 (lv_at hl 0 rfl) ?_
                          exact W.iret (v := r185) hx hb hr (fun t ht hW => ⟨⟨r185, (ar, iv), rfl, (by rw [hR]; exact ⟨e185.trans hv8, hcode, hok⟩), by rw [ht]; exact hP, va_K.moved hW.alike hK, hD⟩, hS.F ht⟩) hS.2.2 dX1_make_202
                  · exact absurd c151 (by decide)
                · have c34 : q = 7 := (nI_eq (a := q) (b := 7) (by omega) (by omega)).mp c34
                  have hc40 := ha9
                  have hc50 := ha9
                  have hc67 := hb9
                  have hc77 := hb9
                  refine lv_aload_n hx hb dX1_make_37 rfl (lv_at hl 4 rfl) ?_
                  refine lv_iload_n hx hb dX1_make_38 rfl (lv_at hl 3 rfl) ?_
                  refine lv_iconst (v := 1) hx hb dX1_make_39 (by decide) ?_
                  refine vp_callSi (W.runV (As := [.int (nI a1), .int 1]) (rest := []) ⟨hx, hb, hml, hown, hts⟩ (m_isGate l D h1 cI cB cZ ad ar iv (nI a1) 1 hc40) (cwV 2 hts gX1_make_X1_isGate rfl rfl rfl (by decide +kernel) ⟨Nat.le_of_ble_eq_true rfl, Nat.le_of_ble_eq_true rfl⟩) (rP_V hK hP (va_recv hK hP (ci := 1) (q0 := 0) rfl rfl)) rfl rfl hl.1 rfl (lv_room (Nat.le_of_ble_eq_true rfl)) dX1_make_40 ⟨Nat.zero_le _, Nat.zero_le _⟩) (fun r40 e40 => ?_)
                  refine lv_if_eq (tgt := 60) hx hb dX1_make_43 (by decide) (fun c43 => ?_) (fun c43 => ?_)
                  · have n1 : ¬ (ct_gq g a1 true = true ∧ ct_has g (a1 / 2) b1 = true) := fun z => (g1.mpr z).1 (e40.symm.trans c43)
                    refine lv_iconst (v := 0) hx hb dX1_make_60 (by decide) ?_
                    refine lv_istore (lv' := [(7, .int 0), (6, .int (nI q)), (5, .int 0), (4, .int (nI b1)), (3, .int (nI a1)), (0, .ref h1), (1, .int x), (2, .int y)]) hx hb dX1_make_61 hl (by decide) rfl (fun ls hl => ?_)
                    refine lv_aload_n hx hb dX1_make_63 rfl (lv_at hl 5 rfl) ?_
                    refine lv_iload hx hb dX1_make_64 (lv_at hl 3 rfl) ?_
                    refine lv_iconst (v := 1) hx hb dX1_make_66 (by decide) ?_
                    refine vp_callSi (W.runV (As := [.int (nI b1), .int 1]) (rest := []) ⟨hx, hb, hml, hown, hts⟩ (m_isGate l D h1 cI cB cZ ad ar iv (nI b1) 1 hc67) (cwV 2 hts gX1_make_X1_isGate rfl rfl rfl (by decide +kernel) ⟨Nat.le_of_ble_eq_true rfl, Nat.le_of_ble_eq_true rfl⟩) (rP_V hK hP (va_recv hK hP (ci := 1) (q0 := 0) rfl rfl)) rfl rfl hl.1 rfl (lv_room (Nat.le_of_ble_eq_true rfl)) dX1_make_67 ⟨Nat.zero_le _, Nat.zero_le _⟩) (fun r67 e67 => ?_)
                    refine lv_if_eq (tgt := 87) hx hb dX1_make_70 (by decide) (fun c70 => ?_) (fun c70 => ?_)
                    · have n2 : ¬ (ct_gq g b1 true = true ∧ ct_has g (b1 / 2) a1 = true) := fun z => (g2.mpr z).1 (e67.symm.trans c70)
                      refine lv_iconst (v := 0) hx hb dX1_make_87 (by decide) ?_
                      refine lv_istore (lv' := [(8, .int 0), (7, .int 0), (6, .int (nI q)), (5, .int 0), (4, .int (nI b1)), (3, .int (nI a1)), (0, .ref h1), (1, .int x), (2, .int y)]) hx hb dX1_make_88 hl (by decide) rfl (fun ls hl => ?_)
                      refine lv_iload hx hb dX1_make_90 (lv_at hl 1 rfl) ?_
                      refine lv_if_ne (tgt := 100) hx hb dX1_make_92 (by decide) (fun c92 => ?_) (fun c92 => ?_)
                      · exact absurd c92 (by decide)
                      · refine lv_iload hx hb dX1_make_95 (lv_at hl 0 rfl) ?_
                        refine lv_if_eq (tgt := 149) hx hb dX1_make_97 (by decide) (fun c97 => ?_) (fun c97 => ?_)
                        · refine lv_iload hx hb dX1_make_149 (lv_at hl 3 rfl) ?_
                          refine lv_if_eq (tgt := 158) hx hb dX1_make_151 (by decide) (fun c151 => ?_) (fun c151 => ?_)
                          · refine lv_aload_n hx hb dX1_make_158 rfl (lv_at hl 6 rfl) ?_
                            refine lv_iload hx hb dX1_make_159 (lv_at hl 2 rfl) ?_
                            refine lv_iload_n hx hb dX1_make_161 rfl (lv_at hl 5 rfl) ?_
                            refine lv_iload hx hb dX1_make_162 (lv_at hl 4 rfl) ?_
                            refine vp_callSi (W.runV (As := [.int (nI q), .int (nI a1), .int (nI b1)]) (rest := []) ⟨hx, hb, hml, hown, hts⟩ (m_rule l D h1 cI cB cZ ad ar iv (nI q) (nI a1) (nI b1) q c22 rfl ha9 hb9) (cwV 3 hts gX1_make_X1_rule rfl rfl rfl (by decide +kernel) ⟨Nat.le_of_ble_eq_true rfl, Nat.le_of_ble_eq_true rfl⟩) (rP_V hK hP (va_recv hK hP (ci := 1) (q0 := 0) rfl rfl)) rfl rfl hl.1 rfl (lv_room (Nat.le_of_ble_eq_true rfl)) dX1_make_164 ⟨Nat.zero_le _, Nat.zero_le _⟩) (fun r164 e164 => ?_)
                            have e164 : r164 = ct_i (md_r g q a1 b1) := e164.trans (mm_rule hok c22 i1 i2)
                            have t1 := md_told (g := g) (k := q) (a := a1) (b := b1) (by omega) (by omega)
                            refine lv_istore (lv' := [(7, .int r164), (8, .int 0), (6, .int (nI q)), (5, .int 0), (4, .int (nI b1)), (3, .int (nI a1)), (0, .ref h1), (1, .int x), (2, .int y)]) hx hb dX1_make_167 hl (by decide) rfl (fun ls hl => ?_)
                            refine lv_iload hx hb dX1_make_169 (lv_at hl 0 rfl) ?_
                            refine lv_if_ge (tgt := 191) hx hb dX1_make_171 (by decide) (fun c171 => ?_) (fun c171 => ?_)
                            · refine lv_iload hx hb dX1_make_191 (lv_at hl 0 rfl) ?_
                              refine lv_istore (lv' := [(7, .int r164), (8, .int 0), (6, .int (nI q)), (5, .int 0), (4, .int (nI b1)), (3, .int (nI a1)), (0, .ref h1), (1, .int x), (2, .int y)]) hx hb dX1_make_193 hl (by decide) rfl (fun ls hl => ?_)
                              refine lv_iload hx hb dX1_make_195 (lv_at hl 0 rfl) ?_
                              refine lv_if_lt (tgt := 203) hx hb dX1_make_197 (by decide) (fun c197 => ?_) (fun c197 => ?_)
                              · exact absurd c197 (Int32.not_lt.mpr c171)
                              · obtain ⟨v9, hv9, hv8⟩ := t1.2 (by rw [← e164]; exact c171)
                                have hv7 : md_f g q (min a1 b1) (max a1 b1) = some v9 := by rw [← md_tt hok.wf c22 j2]; exact md_t1 hv9
                                have hkn := ((md_pass (fun j hj => j2 j (by omega))).2 (md_two hok.wf n1 n2)).2 v9 |>.1 (by rw [c34] at hv7; exact hv7)
                                have hR := md_end i3 hkn
                                refine lv_iload hx hb dX1_make_200 (lv_at hl 0 rfl) ?_
                                exact W.iret (v := r164) hx hb hr (fun t ht hW => ⟨⟨r164, (ar, iv), rfl, (by rw [hR]; exact ⟨e164.trans hv8, hcode, hok⟩), by rw [ht]; exact hP, va_K.moved hW.alike hK, hD⟩, hS.F ht⟩) hS.2.2 dX1_make_202
                            · refine lv_iload hx hb dX1_make_174 (lv_at hl 3 rfl) ?_
                              refine lv_if_ne (tgt := 191) hx hb dX1_make_176 (by decide) (fun c176 => ?_) (fun c176 => ?_)
                              · exact absurd c176 (by decide)
                              · refine lv_aload_n hx hb dX1_make_179 rfl (lv_at hl 6 rfl) ?_
                                refine lv_iload hx hb dX1_make_180 (lv_at hl 2 rfl) ?_
                                refine lv_iload hx hb dX1_make_182 (lv_at hl 4 rfl) ?_
                                refine lv_iload_n hx hb dX1_make_184 rfl (lv_at hl 5 rfl) ?_
                                refine vp_callSi (W.runV (As := [.int (nI q), .int (nI b1), .int (nI a1)]) (rest := []) ⟨hx, hb, hml, hown, hts⟩ (m_rule l D h1 cI cB cZ ad ar iv (nI q) (nI b1) (nI a1) q c22 rfl hb9 ha9) (cwV 3 hts gX1_make_X1_rule rfl rfl rfl (by decide +kernel) ⟨Nat.le_of_ble_eq_true rfl, Nat.le_of_ble_eq_true rfl⟩) (rP_V hK hP (va_recv hK hP (ci := 1) (q0 := 0) rfl rfl)) rfl rfl hl.1 rfl (lv_room (Nat.le_of_ble_eq_true rfl)) dX1_make_185 ⟨Nat.zero_le _, Nat.zero_le _⟩) (fun r185 e185 => ?_)
                                have e185 : r185 = ct_i (md_r g q b1 a1) := e185.trans (mm_rule hok c22 i2 i1)
                                have t0 := t1.1 (by rw [← e164]; exact c171)
                                have t2 := md_told (g := g) (k := q) (a := b1) (b := a1) (by omega) (by omega)
                                refine lv_goto (tgt := 193) hx hb dX1_make_188 (by decide) ?_
                                refine lv_istore (lv' := [(7, .int r185), (8, .int 0), (6, .int (nI q)), (5, .int 0), (4, .int (nI b1)), (3, .int (nI a1)), (0, .ref h1), (1, .int x), (2, .int y)]) hx hb dX1_make_193 hl (by decide) rfl (fun ls hl => ?_)
                                refine lv_iload hx hb dX1_make_195 (lv_at hl 0 rfl) ?_
                                refine lv_if_lt (tgt := 203) hx hb dX1_make_197 (by decide) (fun c197 => ?_) (fun c197 => ?_)
                                · obtain ⟨v203, e203⟩ : ∃ y : Int32, y = (nI q) + 1 := ⟨_, rfl⟩
                                  refine lv_iinc (v := v203) (lv' := [(6, .int v203), (7, .int r185), (8, .int 0), (5, .int 0), (4, .int (nI b1)), (3, .int (nI a1)), (0, .ref h1), (1, .int x), (2, .int y)]) hx hb dX1_make_203 hl (k := 2) rfl (by rw [e203]; rfl) (by decide) rfl (fun ls hl => ?_)
                                  refine lv_goto (tgt := 18) hx hb dX1_make_206 (by decide) ?_
                                  have hn9 : md_f g q (min a1 b1) (max a1 b1) = none := by rw [← md_tt hok.wf c22 j2, md_t2 t0]; exact t2.1 (by rw [← e185]; exact Int32.not_le.mpr c197)
                                  exact ih1 (q + 1) ls (by omega) ⟨by omega, fun j hj => (Decidable.em (j = q)).elim (fun z => by rw [z]; exact hn9) (fun z => j2 j (by omega)), fun z => ⟨(((md_pass (fun j hj => j2 j (by omega))).2 (md_two hok.wf n1 n2)).2 0).2 (by rw [c34] at hn9; exact hn9), ((md_pass (fun j hj => j2 j (by omega))).2 (md_two hok.wf n1 n2)).1⟩⟩ (by rw [← nI_1, ← e203]; exact lv_sub hl [0, 3, 4, 5, 6, 7, 8] rfl)
                                · obtain ⟨v9, hv9, hv8⟩ := t2.2 (by rw [← e185]; exact Int32.not_lt.mp c197)
                                  have hv7 : md_f g q (min a1 b1) (max a1 b1) = some v9 := by rw [← md_tt hok.wf c22 j2, md_t2 t0]; exact hv9
                                  have hkn := ((md_pass (fun j hj => j2 j (by omega))).2 (md_two hok.wf n1 n2)).2 v9 |>.1 (by rw [c34] at hv7; exact hv7)
                                  have hR := md_end i3 hkn
                                  refine lv_iload hx hb dX1_make_200 (lv_at hl 0 rfl) ?_
                                  exact W.iret (v := r185) hx hb hr (fun t ht hW => ⟨⟨r185, (ar, iv), rfl, (by rw [hR]; exact ⟨e185.trans hv8, hcode, hok⟩), by rw [ht]; exact hP, va_K.moved hW.alike hK, hD⟩, hS.F ht⟩) hS.2.2 dX1_make_202
                          · exact absurd c151 (by decide)
                        · exact absurd c97 (by decide)
                    · refine lv_aload_n hx hb dX1_make_73 rfl (lv_at hl 5 rfl) ?_
                      refine lv_iload hx hb dX1_make_74 (lv_at hl 3 rfl) ?_
                      refine lv_iload_n hx hb dX1_make_76 rfl (lv_at hl 4 rfl) ?_
                      refine vp_callSi (W.runV (As := [.int (nI b1), .int (nI a1)]) (rest := []) ⟨hx, hb, hml, hown, hts⟩ (m_has l D h1 cI cB cZ ad ar iv (nI b1) (nI a1) hc77) (cwV 2 hts gX1_make_X1_has rfl rfl rfl (by decide +kernel) ⟨Nat.le_of_ble_eq_true rfl, Nat.le_of_ble_eq_true rfl⟩) (rP_V hK hP (va_recv hK hP (ci := 1) (q0 := 0) rfl rfl)) rfl rfl hl.1 rfl (lv_room (Nat.le_of_ble_eq_true rfl)) dX1_make_77 ⟨Nat.zero_le _, Nat.zero_le _⟩) (fun r77 e77 => ?_)
                      refine lv_if_eq (tgt := 87) hx hb dX1_make_80 (by decide) (fun c80 => ?_) (fun c80 => ?_)
                      · have n2 : ¬ (ct_gq g b1 true = true ∧ ct_has g (b1 / 2) a1 = true) := fun z => (g2.mpr z).2 (e77.symm.trans c80)
                        refine lv_iconst (v := 0) hx hb dX1_make_87 (by decide) ?_
                        refine lv_istore (lv' := [(8, .int 0), (7, .int 0), (6, .int (nI q)), (5, .int 0), (4, .int (nI b1)), (3, .int (nI a1)), (0, .ref h1), (1, .int x), (2, .int y)]) hx hb dX1_make_88 hl (by decide) rfl (fun ls hl => ?_)
                        refine lv_iload hx hb dX1_make_90 (lv_at hl 1 rfl) ?_
                        refine lv_if_ne (tgt := 100) hx hb dX1_make_92 (by decide) (fun c92 => ?_) (fun c92 => ?_)
                        · exact absurd c92 (by decide)
                        · refine lv_iload hx hb dX1_make_95 (lv_at hl 0 rfl) ?_
                          refine lv_if_eq (tgt := 149) hx hb dX1_make_97 (by decide) (fun c97 => ?_) (fun c97 => ?_)
                          · refine lv_iload hx hb dX1_make_149 (lv_at hl 3 rfl) ?_
                            refine lv_if_eq (tgt := 158) hx hb dX1_make_151 (by decide) (fun c151 => ?_) (fun c151 => ?_)
                            · refine lv_aload_n hx hb dX1_make_158 rfl (lv_at hl 6 rfl) ?_
                              refine lv_iload hx hb dX1_make_159 (lv_at hl 2 rfl) ?_
                              refine lv_iload_n hx hb dX1_make_161 rfl (lv_at hl 5 rfl) ?_
                              refine lv_iload hx hb dX1_make_162 (lv_at hl 4 rfl) ?_
                              refine vp_callSi (W.runV (As := [.int (nI q), .int (nI a1), .int (nI b1)]) (rest := []) ⟨hx, hb, hml, hown, hts⟩ (m_rule l D h1 cI cB cZ ad ar iv (nI q) (nI a1) (nI b1) q c22 rfl ha9 hb9) (cwV 3 hts gX1_make_X1_rule rfl rfl rfl (by decide +kernel) ⟨Nat.le_of_ble_eq_true rfl, Nat.le_of_ble_eq_true rfl⟩) (rP_V hK hP (va_recv hK hP (ci := 1) (q0 := 0) rfl rfl)) rfl rfl hl.1 rfl (lv_room (Nat.le_of_ble_eq_true rfl)) dX1_make_164 ⟨Nat.zero_le _, Nat.zero_le _⟩) (fun r164 e164 => ?_)
                              have e164 : r164 = ct_i (md_r g q a1 b1) := e164.trans (mm_rule hok c22 i1 i2)
                              have t1 := md_told (g := g) (k := q) (a := a1) (b := b1) (by omega) (by omega)
                              refine lv_istore (lv' := [(7, .int r164), (8, .int 0), (6, .int (nI q)), (5, .int 0), (4, .int (nI b1)), (3, .int (nI a1)), (0, .ref h1), (1, .int x), (2, .int y)]) hx hb dX1_make_167 hl (by decide) rfl (fun ls hl => ?_)
                              refine lv_iload hx hb dX1_make_169 (lv_at hl 0 rfl) ?_
                              refine lv_if_ge (tgt := 191) hx hb dX1_make_171 (by decide) (fun c171 => ?_) (fun c171 => ?_)
                              · refine lv_iload hx hb dX1_make_191 (lv_at hl 0 rfl) ?_
                                refine lv_istore (lv' := [(7, .int r164), (8, .int 0), (6, .int (nI q)), (5, .int 0), (4, .int (nI b1)), (3, .int (nI a1)), (0, .ref h1), (1, .int x), (2, .int y)]) hx hb dX1_make_193 hl (by decide) rfl (fun ls hl => ?_)
                                refine lv_iload hx hb dX1_make_195 (lv_at hl 0 rfl) ?_
                                refine lv_if_lt (tgt := 203) hx hb dX1_make_197 (by decide) (fun c197 => ?_) (fun c197 => ?_)
                                · exact absurd c197 (Int32.not_lt.mpr c171)
                                · obtain ⟨v9, hv9, hv8⟩ := t1.2 (by rw [← e164]; exact c171)
                                  have hv7 : md_f g q (min a1 b1) (max a1 b1) = some v9 := by rw [← md_tt hok.wf c22 j2]; exact md_t1 hv9
                                  have hkn := ((md_pass (fun j hj => j2 j (by omega))).2 (md_two hok.wf n1 n2)).2 v9 |>.1 (by rw [c34] at hv7; exact hv7)
                                  have hR := md_end i3 hkn
                                  refine lv_iload hx hb dX1_make_200 (lv_at hl 0 rfl) ?_
                                  exact W.iret (v := r164) hx hb hr (fun t ht hW => ⟨⟨r164, (ar, iv), rfl, (by rw [hR]; exact ⟨e164.trans hv8, hcode, hok⟩), by rw [ht]; exact hP, va_K.moved hW.alike hK, hD⟩, hS.F ht⟩) hS.2.2 dX1_make_202
                              · refine lv_iload hx hb dX1_make_174 (lv_at hl 3 rfl) ?_
                                refine lv_if_ne (tgt := 191) hx hb dX1_make_176 (by decide) (fun c176 => ?_) (fun c176 => ?_)
                                · exact absurd c176 (by decide)
                                · refine lv_aload_n hx hb dX1_make_179 rfl (lv_at hl 6 rfl) ?_
                                  refine lv_iload hx hb dX1_make_180 (lv_at hl 2 rfl) ?_
                                  refine lv_iload hx hb dX1_make_182 (lv_at hl 4 rfl) ?_
                                  refine lv_iload_n hx hb dX1_make_184 rfl (lv_at hl 5 rfl) ?_
                                  refine vp_callSi (W.runV (As := [.int (nI q), .int (nI b1), .int (nI a1)]) (rest := []) ⟨hx, hb, hml, hown, hts⟩ (m_rule l D h1 cI cB cZ ad ar iv (nI q) (nI b1) (nI a1) q c22 rfl hb9 ha9) (cwV 3 hts gX1_make_X1_rule rfl rfl rfl (by decide +kernel) ⟨Nat.le_of_ble_eq_true rfl, Nat.le_of_ble_eq_true rfl⟩) (rP_V hK hP (va_recv hK hP (ci := 1) (q0 := 0) rfl rfl)) rfl rfl hl.1 rfl (lv_room (Nat.le_of_ble_eq_true rfl)) dX1_make_185 ⟨Nat.zero_le _, Nat.zero_le _⟩) (fun r185 e185 => ?_)
                                  have e185 : r185 = ct_i (md_r g q b1 a1) := e185.trans (mm_rule hok c22 i2 i1)
                                  have t0 := t1.1 (by rw [← e164]; exact c171)
                                  have t2 := md_told (g := g) (k := q) (a := b1) (b := a1) (by omega) (by omega)
                                  refine lv_goto (tgt := 193) hx hb dX1_make_188 (by decide) ?_
                                  refine lv_istore (lv' := [(7, .int r185), (8, .int 0), (6, .int (nI q)), (5, .int 0), (4, .int (nI b1)), (3, .int (nI a1)), (0, .ref h1), (1, .int x), (2, .int y)]) hx hb dX1_make_193 hl (by decide) rfl (fun ls hl => ?_)
                                  refine lv_iload hx hb dX1_make_195 (lv_at hl 0 rfl) ?_
                                  refine lv_if_lt (tgt := 203) hx hb dX1_make_197 (by decide) (fun c197 => ?_) (fun c197 => ?_)
                                  · obtain ⟨v203, e203⟩ : ∃ y : Int32, y = (nI q) + 1 := ⟨_, rfl⟩
                                    refine lv_iinc (v := v203) (lv' := [(6, .int v203), (7, .int r185), (8, .int 0), (5, .int 0), (4, .int (nI b1)), (3, .int (nI a1)), (0, .ref h1), (1, .int x), (2, .int y)]) hx hb dX1_make_203 hl (k := 2) rfl (by rw [e203]; rfl) (by decide) rfl (fun ls hl => ?_)
                                    refine lv_goto (tgt := 18) hx hb dX1_make_206 (by decide) ?_
                                    have hn9 : md_f g q (min a1 b1) (max a1 b1) = none := by rw [← md_tt hok.wf c22 j2, md_t2 t0]; exact t2.1 (by rw [← e185]; exact Int32.not_le.mpr c197)
                                    exact ih1 (q + 1) ls (by omega) ⟨by omega, fun j hj => (Decidable.em (j = q)).elim (fun z => by rw [z]; exact hn9) (fun z => j2 j (by omega)), fun z => ⟨(((md_pass (fun j hj => j2 j (by omega))).2 (md_two hok.wf n1 n2)).2 0).2 (by rw [c34] at hn9; exact hn9), ((md_pass (fun j hj => j2 j (by omega))).2 (md_two hok.wf n1 n2)).1⟩⟩ (by rw [← nI_1, ← e203]; exact lv_sub hl [0, 3, 4, 5, 6, 7, 8] rfl)
                                  · obtain ⟨v9, hv9, hv8⟩ := t2.2 (by rw [← e185]; exact Int32.not_lt.mp c197)
                                    have hv7 : md_f g q (min a1 b1) (max a1 b1) = some v9 := by rw [← md_tt hok.wf c22 j2, md_t2 t0]; exact hv9
                                    have hkn := ((md_pass (fun j hj => j2 j (by omega))).2 (md_two hok.wf n1 n2)).2 v9 |>.1 (by rw [c34] at hv7; exact hv7)
                                    have hR := md_end i3 hkn
                                    refine lv_iload hx hb dX1_make_200 (lv_at hl 0 rfl) ?_
                                    exact W.iret (v := r185) hx hb hr (fun t ht hW => ⟨⟨r185, (ar, iv), rfl, (by rw [hR]; exact ⟨e185.trans hv8, hcode, hok⟩), by rw [ht]; exact hP, va_K.moved hW.alike hK, hD⟩, hS.F ht⟩) hS.2.2 dX1_make_202
                            · exact absurd c151 (by decide)
                          · exact absurd c97 (by decide)
                      · have y2 := g2.mp ⟨fun z => c70 (e67.trans z), fun z => c80 (e77.trans z)⟩
                        refine lv_iconst (v := 1) hx hb dX1_make_83 (by decide) ?_
                        refine lv_goto (tgt := 88) hx hb dX1_make_84 (by decide) ?_
                        refine lv_istore (lv' := [(8, .int 1), (7, .int 0), (6, .int (nI q)), (5, .int 0), (4, .int (nI b1)), (3, .int (nI a1)), (0, .ref h1), (1, .int x), (2, .int y)]) hx hb dX1_make_88 hl (by decide) rfl (fun ls hl => ?_)
                        refine lv_iload hx hb dX1_make_90 (lv_at hl 1 rfl) ?_
                        refine lv_if_ne (tgt := 100) hx hb dX1_make_92 (by decide) (fun c92 => ?_) (fun c92 => ?_)
                        · exact absurd c92 (by decide)
                        · refine lv_iload hx hb dX1_make_95 (lv_at hl 0 rfl) ?_
                          refine lv_if_eq (tgt := 149) hx hb dX1_make_97 (by decide) (fun c97 => ?_) (fun c97 => ?_)
                          · exact absurd c97 (by decide)
                          · have hmm := (md_one hok.wf (fun j hj => j2 j (by omega))).2 y2
                            have hp : ct_gq g (max a1 b1) true = true ∧ ct_has g (max a1 b1 / 2) (min a1 b1) = true := by rw [hmm.1, hmm.2]; exact y2
                            have hkn := (md_pass (fun j hj => j2 j (by omega))).1 hp
                            obtain ⟨r9, hr9, hr8⟩ := md_bes hok (by omega) (by omega) hp
                            rw [hmm.1, hmm.2] at hr8
                            have hc122 := ha9
                            have hc132 := hb9
                            refine lv_iload hx hb dX1_make_100 (lv_at hl 1 rfl) ?_
                            refine lv_if_eq (tgt := 110) hx hb dX1_make_102 (by decide) (fun c102 => ?_) (fun c102 => ?_)
                            · refine lv_iload_n hx hb dX1_make_110 rfl (lv_at hl 5 rfl) ?_
                              refine lv_istore (lv' := [(9, .int (nI a1)), (8, .int 1), (7, .int 0), (6, .int (nI q)), (5, .int 0), (4, .int (nI b1)), (3, .int (nI a1)), (0, .ref h1), (1, .int x), (2, .int y)]) hx hb dX1_make_111 hl (by decide) rfl (fun ls hl => ?_)
                              refine lv_iload hx hb dX1_make_113 (lv_at hl 2 rfl) ?_
                              refine lv_if_eq (tgt := 128) hx hb dX1_make_115 (by decide) (fun c115 => ?_) (fun c115 => ?_)
                              · refine lv_aload_n hx hb dX1_make_128 rfl (lv_at hl 7 rfl) ?_
                                refine lv_iload hx hb dX1_make_129 (lv_at hl 5 rfl) ?_
                                refine lv_iload_n hx hb dX1_make_131 rfl (lv_at hl 6 rfl) ?_
                                refine vp_callSi (W.runV (As := [.int (nI b1), .int (nI a1)]) (rest := []) ⟨hx, hb, hml, hown, hts⟩ (m_beside l D h1 cI cB cZ ad ar iv (nI b1) (nI a1) hc132) (cwV 2 hts gX1_make_X1_beside rfl rfl rfl (by decide +kernel) ⟨Nat.le_of_ble_eq_true rfl, Nat.le_of_ble_eq_true rfl⟩) (rP_V hK hP (va_recv hK hP (ci := 1) (q0 := 0) rfl rfl)) rfl rfl hl.1 rfl (lv_room (Nat.le_of_ble_eq_true rfl)) dX1_make_132 ⟨Nat.zero_le _, Nat.zero_le _⟩) (fun r132 e132 => ?_)
                                refine lv_istore (lv' := [(10, .int r132), (9, .int (nI a1)), (8, .int 1), (7, .int 0), (6, .int (nI q)), (5, .int 0), (4, .int (nI b1)), (3, .int (nI a1)), (0, .ref h1), (1, .int x), (2, .int y)]) hx hb dX1_make_135 hl (by decide) rfl (fun ls hl => ?_)
                                refine lv_iload hx hb dX1_make_137 (lv_at hl 1 rfl) ?_
                                refine lv_istore_n (lv' := [(3, .int (nI a1)), (10, .int r132), (9, .int (nI a1)), (8, .int 1), (7, .int 0), (6, .int (nI q)), (5, .int 0), (4, .int (nI b1)), (0, .ref h1), (1, .int x), (2, .int y)]) hx hb dX1_make_139 rfl hl (by decide) rfl (fun ls hl => ?_)
                                refine lv_iload hx hb dX1_make_140 (lv_at hl 1 rfl) ?_
                                refine lv_iconst (v := 1) hx hb dX1_make_142 (by decide) ?_
                                refine lv_ixor hx hb dX1_make_143 ?_
                                refine lv_topi (fun v143 e143 => ?_)
                                refine lv_istore (lv' := [(4, .int v143), (3, .int (nI a1)), (10, .int r132), (9, .int (nI a1)), (8, .int 1), (7, .int 0), (6, .int (nI q)), (5, .int 0), (0, .ref h1), (1, .int x), (2, .int y)]) hx hb dX1_make_144 hl (by decide) rfl (fun ls hl => ?_)
                                refine lv_iconst (v := 1) hx hb dX1_make_146 (by decide) ?_
                                refine lv_istore (lv' := [(5, .int 1), (4, .int v143), (3, .int (nI a1)), (10, .int r132), (9, .int (nI a1)), (8, .int 1), (7, .int 0), (6, .int (nI q)), (0, .ref h1), (1, .int x), (2, .int y)]) hx hb dX1_make_147 hl (by decide) rfl (fun ls hl => ?_)
                                refine lv_iload hx hb dX1_make_149 (lv_at hl 0 rfl) ?_
                                refine lv_if_eq (tgt := 158) hx hb dX1_make_151 (by decide) (fun c151 => ?_) (fun c151 => ?_)
                                · exact absurd c151 (by decide)
                                · refine lv_iconst (v := -1) hx hb dX1_make_154 (by decide) ?_
                                  refine lv_goto (tgt := 167) hx hb dX1_make_155 (by decide) ?_
                                  refine lv_istore (lv' := [(7, .int (-1)), (5, .int 1), (4, .int v143), (3, .int (nI a1)), (10, .int r132), (9, .int (nI a1)), (8, .int 1), (6, .int (nI q)), (0, .ref h1), (1, .int x), (2, .int y)]) hx hb dX1_make_167 hl (by decide) rfl (fun ls hl => ?_)
                                  refine lv_iload hx hb dX1_make_169 (lv_at hl 0 rfl) ?_
                                  refine lv_if_ge (tgt := 191) hx hb dX1_make_171 (by decide) (fun c171 => ?_) (fun c171 => ?_)
                                  · exact absurd c171 (by decide)
                                  · refine lv_iload hx hb dX1_make_174 (lv_at hl 1 rfl) ?_
                                    refine lv_if_ne (tgt := 191) hx hb dX1_make_176 (by decide) (fun c176 => ?_) (fun c176 => ?_)
                                    · refine lv_iload hx hb dX1_make_191 (lv_at hl 0 rfl) ?_
                                      refine lv_istore (lv' := [(7, .int (-1)), (5, .int 1), (4, .int v143), (3, .int (nI a1)), (10, .int r132), (9, .int (nI a1)), (8, .int 1), (6, .int (nI q)), (0, .ref h1), (1, .int x), (2, .int y)]) hx hb dX1_make_193 hl (by decide) rfl (fun ls hl => ?_)
                                      refine lv_iload hx hb dX1_make_195 (lv_at hl 0 rfl) ?_
                                      refine lv_if_lt (tgt := 203) hx hb dX1_make_197 (by decide) (fun c197 => ?_) (fun c197 => ?_)
                                      · obtain ⟨v203, e203⟩ : ∃ y : Int32, y = (nI q) + 1 := ⟨_, rfl⟩
                                        refine lv_iinc (v := v203) (lv' := [(6, .int v203), (7, .int (-1)), (5, .int 1), (4, .int v143), (3, .int (nI a1)), (10, .int r132), (9, .int (nI a1)), (8, .int 1), (0, .ref h1), (1, .int x), (2, .int y)]) hx hb dX1_make_203 hl (k := 7) rfl (by rw [e203]; rfl) (by decide) rfl (fun ls hl => ?_)
                                        refine lv_goto (tgt := 18) hx hb dX1_make_206 (by decide) ?_
                                        refine lv_iload hx hb dX1_make_18 (lv_at hl 0 rfl) ?_
                                        refine lv_bipush (v := 8) hx hb dX1_make_20 (by decide) ?_
                                        refine lv_icmp_ge (tgt := 209) hx hb dX1_make_22 (by decide) (fun c22 => ?_) (fun c22 => ?_)
                                        · refine lv_iload hx hb dX1_make_209 (lv_at hl 2 rfl) ?_
                                          refine lv_if_ne (tgt := 222) hx hb dX1_make_211 (by decide) (fun c211 => ?_) (fun c211 => ?_)
                                          · refine lv_goto (tgt := 5) hx hb dX1_make_222 (by decide) ?_
                                            have hgo := md_go hok.wf i3 hkn hr9
                                            rw [hmm.1] at hgo
                                            exact ih0 a1 r9 ls (by omega) ⟨by omega, hgo.1, hgo.2.2⟩ (by rw [← hr8, ← e132, ← e143]; exact lv_sub hl [3, 4, 8, 9, 10] rfl)
                                          · exact absurd c211 (by decide)
                                        · exact absurd (by rw [e203, nI_1, c34]; decide) c22
                                      · exact absurd c197 (by decide)
                                    · exact absurd c176 (by decide)
                              · exact absurd c115 (by decide)
                            · exact absurd c102 (by decide)
                  · refine lv_aload_n hx hb dX1_make_46 rfl (lv_at hl 4 rfl) ?_
                    refine lv_iload_n hx hb dX1_make_47 rfl (lv_at hl 3 rfl) ?_
                    refine lv_iload hx hb dX1_make_48 (lv_at hl 2 rfl) ?_
                    refine vp_callSi (W.runV (As := [.int (nI a1), .int (nI b1)]) (rest := []) ⟨hx, hb, hml, hown, hts⟩ (m_has l D h1 cI cB cZ ad ar iv (nI a1) (nI b1) hc50) (cwV 2 hts gX1_make_X1_has rfl rfl rfl (by decide +kernel) ⟨Nat.le_of_ble_eq_true rfl, Nat.le_of_ble_eq_true rfl⟩) (rP_V hK hP (va_recv hK hP (ci := 1) (q0 := 0) rfl rfl)) rfl rfl hl.1 rfl (lv_room (Nat.le_of_ble_eq_true rfl)) dX1_make_50 ⟨Nat.zero_le _, Nat.zero_le _⟩) (fun r50 e50 => ?_)
                    refine lv_if_eq (tgt := 60) hx hb dX1_make_53 (by decide) (fun c53 => ?_) (fun c53 => ?_)
                    · have n1 : ¬ (ct_gq g a1 true = true ∧ ct_has g (a1 / 2) b1 = true) := fun z => (g1.mpr z).2 (e50.symm.trans c53)
                      refine lv_iconst (v := 0) hx hb dX1_make_60 (by decide) ?_
                      refine lv_istore (lv' := [(7, .int 0), (6, .int (nI q)), (5, .int 0), (4, .int (nI b1)), (3, .int (nI a1)), (0, .ref h1), (1, .int x), (2, .int y)]) hx hb dX1_make_61 hl (by decide) rfl (fun ls hl => ?_)
                      refine lv_aload_n hx hb dX1_make_63 rfl (lv_at hl 5 rfl) ?_
                      refine lv_iload hx hb dX1_make_64 (lv_at hl 3 rfl) ?_
                      refine lv_iconst (v := 1) hx hb dX1_make_66 (by decide) ?_
                      refine vp_callSi (W.runV (As := [.int (nI b1), .int 1]) (rest := []) ⟨hx, hb, hml, hown, hts⟩ (m_isGate l D h1 cI cB cZ ad ar iv (nI b1) 1 hc67) (cwV 2 hts gX1_make_X1_isGate rfl rfl rfl (by decide +kernel) ⟨Nat.le_of_ble_eq_true rfl, Nat.le_of_ble_eq_true rfl⟩) (rP_V hK hP (va_recv hK hP (ci := 1) (q0 := 0) rfl rfl)) rfl rfl hl.1 rfl (lv_room (Nat.le_of_ble_eq_true rfl)) dX1_make_67 ⟨Nat.zero_le _, Nat.zero_le _⟩) (fun r67 e67 => ?_)
                      refine lv_if_eq (tgt := 87) hx hb dX1_make_70 (by decide) (fun c70 => ?_) (fun c70 => ?_)
                      · have n2 : ¬ (ct_gq g b1 true = true ∧ ct_has g (b1 / 2) a1 = true) := fun z => (g2.mpr z).1 (e67.symm.trans c70)
                        refine lv_iconst (v := 0) hx hb dX1_make_87 (by decide) ?_
                        refine lv_istore (lv' := [(8, .int 0), (7, .int 0), (6, .int (nI q)), (5, .int 0), (4, .int (nI b1)), (3, .int (nI a1)), (0, .ref h1), (1, .int x), (2, .int y)]) hx hb dX1_make_88 hl (by decide) rfl (fun ls hl => ?_)
                        refine lv_iload hx hb dX1_make_90 (lv_at hl 1 rfl) ?_
                        refine lv_if_ne (tgt := 100) hx hb dX1_make_92 (by decide) (fun c92 => ?_) (fun c92 => ?_)
                        · exact absurd c92 (by decide)
                        · refine lv_iload hx hb dX1_make_95 (lv_at hl 0 rfl) ?_
                          refine lv_if_eq (tgt := 149) hx hb dX1_make_97 (by decide) (fun c97 => ?_) (fun c97 => ?_)
                          · refine lv_iload hx hb dX1_make_149 (lv_at hl 3 rfl) ?_
                            refine lv_if_eq (tgt := 158) hx hb dX1_make_151 (by decide) (fun c151 => ?_) (fun c151 => ?_)
                            · refine lv_aload_n hx hb dX1_make_158 rfl (lv_at hl 6 rfl) ?_
                              refine lv_iload hx hb dX1_make_159 (lv_at hl 2 rfl) ?_
                              refine lv_iload_n hx hb dX1_make_161 rfl (lv_at hl 5 rfl) ?_
                              refine lv_iload hx hb dX1_make_162 (lv_at hl 4 rfl) ?_
                              refine vp_callSi (W.runV (As := [.int (nI q), .int (nI a1), .int (nI b1)]) (rest := []) ⟨hx, hb, hml, hown, hts⟩ (m_rule l D h1 cI cB cZ ad ar iv (nI q) (nI a1) (nI b1) q c22 rfl ha9 hb9) (cwV 3 hts gX1_make_X1_rule rfl rfl rfl (by decide +kernel) ⟨Nat.le_of_ble_eq_true rfl, Nat.le_of_ble_eq_true rfl⟩) (rP_V hK hP (va_recv hK hP (ci := 1) (q0 := 0) rfl rfl)) rfl rfl hl.1 rfl (lv_room (Nat.le_of_ble_eq_true rfl)) dX1_make_164 ⟨Nat.zero_le _, Nat.zero_le _⟩) (fun r164 e164 => ?_)
                              have e164 : r164 = ct_i (md_r g q a1 b1) := e164.trans (mm_rule hok c22 i1 i2)
                              have t1 := md_told (g := g) (k := q) (a := a1) (b := b1) (by omega) (by omega)
                              refine lv_istore (lv' := [(7, .int r164), (8, .int 0), (6, .int (nI q)), (5, .int 0), (4, .int (nI b1)), (3, .int (nI a1)), (0, .ref h1), (1, .int x), (2, .int y)]) hx hb dX1_make_167 hl (by decide) rfl (fun ls hl => ?_)
                              refine lv_iload hx hb dX1_make_169 (lv_at hl 0 rfl) ?_
                              refine lv_if_ge (tgt := 191) hx hb dX1_make_171 (by decide) (fun c171 => ?_) (fun c171 => ?_)
                              · refine lv_iload hx hb dX1_make_191 (lv_at hl 0 rfl) ?_
                                refine lv_istore (lv' := [(7, .int r164), (8, .int 0), (6, .int (nI q)), (5, .int 0), (4, .int (nI b1)), (3, .int (nI a1)), (0, .ref h1), (1, .int x), (2, .int y)]) hx hb dX1_make_193 hl (by decide) rfl (fun ls hl => ?_)
                                refine lv_iload hx hb dX1_make_195 (lv_at hl 0 rfl) ?_
                                refine lv_if_lt (tgt := 203) hx hb dX1_make_197 (by decide) (fun c197 => ?_) (fun c197 => ?_)
                                · exact absurd c197 (Int32.not_lt.mpr c171)
                                · obtain ⟨v9, hv9, hv8⟩ := t1.2 (by rw [← e164]; exact c171)
                                  have hv7 : md_f g q (min a1 b1) (max a1 b1) = some v9 := by rw [← md_tt hok.wf c22 j2]; exact md_t1 hv9
                                  have hkn := ((md_pass (fun j hj => j2 j (by omega))).2 (md_two hok.wf n1 n2)).2 v9 |>.1 (by rw [c34] at hv7; exact hv7)
                                  have hR := md_end i3 hkn
                                  refine lv_iload hx hb dX1_make_200 (lv_at hl 0 rfl) ?_
                                  exact W.iret (v := r164) hx hb hr (fun t ht hW => ⟨⟨r164, (ar, iv), rfl, (by rw [hR]; exact ⟨e164.trans hv8, hcode, hok⟩), by rw [ht]; exact hP, va_K.moved hW.alike hK, hD⟩, hS.F ht⟩) hS.2.2 dX1_make_202
                              · refine lv_iload hx hb dX1_make_174 (lv_at hl 3 rfl) ?_
                                refine lv_if_ne (tgt := 191) hx hb dX1_make_176 (by decide) (fun c176 => ?_) (fun c176 => ?_)
                                · exact absurd c176 (by decide)
                                · refine lv_aload_n hx hb dX1_make_179 rfl (lv_at hl 6 rfl) ?_
                                  refine lv_iload hx hb dX1_make_180 (lv_at hl 2 rfl) ?_
                                  refine lv_iload hx hb dX1_make_182 (lv_at hl 4 rfl) ?_
                                  refine lv_iload_n hx hb dX1_make_184 rfl (lv_at hl 5 rfl) ?_
                                  refine vp_callSi (W.runV (As := [.int (nI q), .int (nI b1), .int (nI a1)]) (rest := []) ⟨hx, hb, hml, hown, hts⟩ (m_rule l D h1 cI cB cZ ad ar iv (nI q) (nI b1) (nI a1) q c22 rfl hb9 ha9) (cwV 3 hts gX1_make_X1_rule rfl rfl rfl (by decide +kernel) ⟨Nat.le_of_ble_eq_true rfl, Nat.le_of_ble_eq_true rfl⟩) (rP_V hK hP (va_recv hK hP (ci := 1) (q0 := 0) rfl rfl)) rfl rfl hl.1 rfl (lv_room (Nat.le_of_ble_eq_true rfl)) dX1_make_185 ⟨Nat.zero_le _, Nat.zero_le _⟩) (fun r185 e185 => ?_)
                                  have e185 : r185 = ct_i (md_r g q b1 a1) := e185.trans (mm_rule hok c22 i2 i1)
                                  have t0 := t1.1 (by rw [← e164]; exact c171)
                                  have t2 := md_told (g := g) (k := q) (a := b1) (b := a1) (by omega) (by omega)
                                  refine lv_goto (tgt := 193) hx hb dX1_make_188 (by decide) ?_
                                  refine lv_istore (lv' := [(7, .int r185), (8, .int 0), (6, .int (nI q)), (5, .int 0), (4, .int (nI b1)), (3, .int (nI a1)), (0, .ref h1), (1, .int x), (2, .int y)]) hx hb dX1_make_193 hl (by decide) rfl (fun ls hl => ?_)
                                  refine lv_iload hx hb dX1_make_195 (lv_at hl 0 rfl) ?_
                                  refine lv_if_lt (tgt := 203) hx hb dX1_make_197 (by decide) (fun c197 => ?_) (fun c197 => ?_)
                                  · obtain ⟨v203, e203⟩ : ∃ y : Int32, y = (nI q) + 1 := ⟨_, rfl⟩
                                    refine lv_iinc (v := v203) (lv' := [(6, .int v203), (7, .int r185), (8, .int 0), (5, .int 0), (4, .int (nI b1)), (3, .int (nI a1)), (0, .ref h1), (1, .int x), (2, .int y)]) hx hb dX1_make_203 hl (k := 2) rfl (by rw [e203]; rfl) (by decide) rfl (fun ls hl => ?_)
                                    refine lv_goto (tgt := 18) hx hb dX1_make_206 (by decide) ?_
                                    have hn9 : md_f g q (min a1 b1) (max a1 b1) = none := by rw [← md_tt hok.wf c22 j2, md_t2 t0]; exact t2.1 (by rw [← e185]; exact Int32.not_le.mpr c197)
                                    exact ih1 (q + 1) ls (by omega) ⟨by omega, fun j hj => (Decidable.em (j = q)).elim (fun z => by rw [z]; exact hn9) (fun z => j2 j (by omega)), fun z => ⟨(((md_pass (fun j hj => j2 j (by omega))).2 (md_two hok.wf n1 n2)).2 0).2 (by rw [c34] at hn9; exact hn9), ((md_pass (fun j hj => j2 j (by omega))).2 (md_two hok.wf n1 n2)).1⟩⟩ (by rw [← nI_1, ← e203]; exact lv_sub hl [0, 3, 4, 5, 6, 7, 8] rfl)
                                  · obtain ⟨v9, hv9, hv8⟩ := t2.2 (by rw [← e185]; exact Int32.not_lt.mp c197)
                                    have hv7 : md_f g q (min a1 b1) (max a1 b1) = some v9 := by rw [← md_tt hok.wf c22 j2, md_t2 t0]; exact hv9
                                    have hkn := ((md_pass (fun j hj => j2 j (by omega))).2 (md_two hok.wf n1 n2)).2 v9 |>.1 (by rw [c34] at hv7; exact hv7)
                                    have hR := md_end i3 hkn
                                    refine lv_iload hx hb dX1_make_200 (lv_at hl 0 rfl) ?_
                                    exact W.iret (v := r185) hx hb hr (fun t ht hW => ⟨⟨r185, (ar, iv), rfl, (by rw [hR]; exact ⟨e185.trans hv8, hcode, hok⟩), by rw [ht]; exact hP, va_K.moved hW.alike hK, hD⟩, hS.F ht⟩) hS.2.2 dX1_make_202
                            · exact absurd c151 (by decide)
                          · exact absurd c97 (by decide)
                      · refine lv_aload_n hx hb dX1_make_73 rfl (lv_at hl 5 rfl) ?_
                        refine lv_iload hx hb dX1_make_74 (lv_at hl 3 rfl) ?_
                        refine lv_iload_n hx hb dX1_make_76 rfl (lv_at hl 4 rfl) ?_
                        refine vp_callSi (W.runV (As := [.int (nI b1), .int (nI a1)]) (rest := []) ⟨hx, hb, hml, hown, hts⟩ (m_has l D h1 cI cB cZ ad ar iv (nI b1) (nI a1) hc77) (cwV 2 hts gX1_make_X1_has rfl rfl rfl (by decide +kernel) ⟨Nat.le_of_ble_eq_true rfl, Nat.le_of_ble_eq_true rfl⟩) (rP_V hK hP (va_recv hK hP (ci := 1) (q0 := 0) rfl rfl)) rfl rfl hl.1 rfl (lv_room (Nat.le_of_ble_eq_true rfl)) dX1_make_77 ⟨Nat.zero_le _, Nat.zero_le _⟩) (fun r77 e77 => ?_)
                        refine lv_if_eq (tgt := 87) hx hb dX1_make_80 (by decide) (fun c80 => ?_) (fun c80 => ?_)
                        · have n2 : ¬ (ct_gq g b1 true = true ∧ ct_has g (b1 / 2) a1 = true) := fun z => (g2.mpr z).2 (e77.symm.trans c80)
                          refine lv_iconst (v := 0) hx hb dX1_make_87 (by decide) ?_
                          refine lv_istore (lv' := [(8, .int 0), (7, .int 0), (6, .int (nI q)), (5, .int 0), (4, .int (nI b1)), (3, .int (nI a1)), (0, .ref h1), (1, .int x), (2, .int y)]) hx hb dX1_make_88 hl (by decide) rfl (fun ls hl => ?_)
                          refine lv_iload hx hb dX1_make_90 (lv_at hl 1 rfl) ?_
                          refine lv_if_ne (tgt := 100) hx hb dX1_make_92 (by decide) (fun c92 => ?_) (fun c92 => ?_)
                          · exact absurd c92 (by decide)
                          · refine lv_iload hx hb dX1_make_95 (lv_at hl 0 rfl) ?_
                            refine lv_if_eq (tgt := 149) hx hb dX1_make_97 (by decide) (fun c97 => ?_) (fun c97 => ?_)
                            · refine lv_iload hx hb dX1_make_149 (lv_at hl 3 rfl) ?_
                              refine lv_if_eq (tgt := 158) hx hb dX1_make_151 (by decide) (fun c151 => ?_) (fun c151 => ?_)
                              · refine lv_aload_n hx hb dX1_make_158 rfl (lv_at hl 6 rfl) ?_
                                refine lv_iload hx hb dX1_make_159 (lv_at hl 2 rfl) ?_
                                refine lv_iload_n hx hb dX1_make_161 rfl (lv_at hl 5 rfl) ?_
                                refine lv_iload hx hb dX1_make_162 (lv_at hl 4 rfl) ?_
                                refine vp_callSi (W.runV (As := [.int (nI q), .int (nI a1), .int (nI b1)]) (rest := []) ⟨hx, hb, hml, hown, hts⟩ (m_rule l D h1 cI cB cZ ad ar iv (nI q) (nI a1) (nI b1) q c22 rfl ha9 hb9) (cwV 3 hts gX1_make_X1_rule rfl rfl rfl (by decide +kernel) ⟨Nat.le_of_ble_eq_true rfl, Nat.le_of_ble_eq_true rfl⟩) (rP_V hK hP (va_recv hK hP (ci := 1) (q0 := 0) rfl rfl)) rfl rfl hl.1 rfl (lv_room (Nat.le_of_ble_eq_true rfl)) dX1_make_164 ⟨Nat.zero_le _, Nat.zero_le _⟩) (fun r164 e164 => ?_)
                                have e164 : r164 = ct_i (md_r g q a1 b1) := e164.trans (mm_rule hok c22 i1 i2)
                                have t1 := md_told (g := g) (k := q) (a := a1) (b := b1) (by omega) (by omega)
                                refine lv_istore (lv' := [(7, .int r164), (8, .int 0), (6, .int (nI q)), (5, .int 0), (4, .int (nI b1)), (3, .int (nI a1)), (0, .ref h1), (1, .int x), (2, .int y)]) hx hb dX1_make_167 hl (by decide) rfl (fun ls hl => ?_)
                                refine lv_iload hx hb dX1_make_169 (lv_at hl 0 rfl) ?_
                                refine lv_if_ge (tgt := 191) hx hb dX1_make_171 (by decide) (fun c171 => ?_) (fun c171 => ?_)
                                · refine lv_iload hx hb dX1_make_191 (lv_at hl 0 rfl) ?_
                                  refine lv_istore (lv' := [(7, .int r164), (8, .int 0), (6, .int (nI q)), (5, .int 0), (4, .int (nI b1)), (3, .int (nI a1)), (0, .ref h1), (1, .int x), (2, .int y)]) hx hb dX1_make_193 hl (by decide) rfl (fun ls hl => ?_)
                                  refine lv_iload hx hb dX1_make_195 (lv_at hl 0 rfl) ?_
                                  refine lv_if_lt (tgt := 203) hx hb dX1_make_197 (by decide) (fun c197 => ?_) (fun c197 => ?_)
                                  · exact absurd c197 (Int32.not_lt.mpr c171)
                                  · obtain ⟨v9, hv9, hv8⟩ := t1.2 (by rw [← e164]; exact c171)
                                    have hv7 : md_f g q (min a1 b1) (max a1 b1) = some v9 := by rw [← md_tt hok.wf c22 j2]; exact md_t1 hv9
                                    have hkn := ((md_pass (fun j hj => j2 j (by omega))).2 (md_two hok.wf n1 n2)).2 v9 |>.1 (by rw [c34] at hv7; exact hv7)
                                    have hR := md_end i3 hkn
                                    refine lv_iload hx hb dX1_make_200 (lv_at hl 0 rfl) ?_
                                    exact W.iret (v := r164) hx hb hr (fun t ht hW => ⟨⟨r164, (ar, iv), rfl, (by rw [hR]; exact ⟨e164.trans hv8, hcode, hok⟩), by rw [ht]; exact hP, va_K.moved hW.alike hK, hD⟩, hS.F ht⟩) hS.2.2 dX1_make_202
                                · refine lv_iload hx hb dX1_make_174 (lv_at hl 3 rfl) ?_
                                  refine lv_if_ne (tgt := 191) hx hb dX1_make_176 (by decide) (fun c176 => ?_) (fun c176 => ?_)
                                  · exact absurd c176 (by decide)
                                  · refine lv_aload_n hx hb dX1_make_179 rfl (lv_at hl 6 rfl) ?_
                                    refine lv_iload hx hb dX1_make_180 (lv_at hl 2 rfl) ?_
                                    refine lv_iload hx hb dX1_make_182 (lv_at hl 4 rfl) ?_
                                    refine lv_iload_n hx hb dX1_make_184 rfl (lv_at hl 5 rfl) ?_
                                    refine vp_callSi (W.runV (As := [.int (nI q), .int (nI b1), .int (nI a1)]) (rest := []) ⟨hx, hb, hml, hown, hts⟩ (m_rule l D h1 cI cB cZ ad ar iv (nI q) (nI b1) (nI a1) q c22 rfl hb9 ha9) (cwV 3 hts gX1_make_X1_rule rfl rfl rfl (by decide +kernel) ⟨Nat.le_of_ble_eq_true rfl, Nat.le_of_ble_eq_true rfl⟩) (rP_V hK hP (va_recv hK hP (ci := 1) (q0 := 0) rfl rfl)) rfl rfl hl.1 rfl (lv_room (Nat.le_of_ble_eq_true rfl)) dX1_make_185 ⟨Nat.zero_le _, Nat.zero_le _⟩) (fun r185 e185 => ?_)
                                    have e185 : r185 = ct_i (md_r g q b1 a1) := e185.trans (mm_rule hok c22 i2 i1)
                                    have t0 := t1.1 (by rw [← e164]; exact c171)
                                    have t2 := md_told (g := g) (k := q) (a := b1) (b := a1) (by omega) (by omega)
                                    refine lv_goto (tgt := 193) hx hb dX1_make_188 (by decide) ?_
                                    refine lv_istore (lv' := [(7, .int r185), (8, .int 0), (6, .int (nI q)), (5, .int 0), (4, .int (nI b1)), (3, .int (nI a1)), (0, .ref h1), (1, .int x), (2, .int y)]) hx hb dX1_make_193 hl (by decide) rfl (fun ls hl => ?_)
                                    refine lv_iload hx hb dX1_make_195 (lv_at hl 0 rfl) ?_
                                    refine lv_if_lt (tgt := 203) hx hb dX1_make_197 (by decide) (fun c197 => ?_) (fun c197 => ?_)
                                    · obtain ⟨v203, e203⟩ : ∃ y : Int32, y = (nI q) + 1 := ⟨_, rfl⟩
                                      refine lv_iinc (v := v203) (lv' := [(6, .int v203), (7, .int r185), (8, .int 0), (5, .int 0), (4, .int (nI b1)), (3, .int (nI a1)), (0, .ref h1), (1, .int x), (2, .int y)]) hx hb dX1_make_203 hl (k := 2) rfl (by rw [e203]; rfl) (by decide) rfl (fun ls hl => ?_)
                                      refine lv_goto (tgt := 18) hx hb dX1_make_206 (by decide) ?_
                                      have hn9 : md_f g q (min a1 b1) (max a1 b1) = none := by rw [← md_tt hok.wf c22 j2, md_t2 t0]; exact t2.1 (by rw [← e185]; exact Int32.not_le.mpr c197)
                                      exact ih1 (q + 1) ls (by omega) ⟨by omega, fun j hj => (Decidable.em (j = q)).elim (fun z => by rw [z]; exact hn9) (fun z => j2 j (by omega)), fun z => ⟨(((md_pass (fun j hj => j2 j (by omega))).2 (md_two hok.wf n1 n2)).2 0).2 (by rw [c34] at hn9; exact hn9), ((md_pass (fun j hj => j2 j (by omega))).2 (md_two hok.wf n1 n2)).1⟩⟩ (by rw [← nI_1, ← e203]; exact lv_sub hl [0, 3, 4, 5, 6, 7, 8] rfl)
                                    · obtain ⟨v9, hv9, hv8⟩ := t2.2 (by rw [← e185]; exact Int32.not_lt.mp c197)
                                      have hv7 : md_f g q (min a1 b1) (max a1 b1) = some v9 := by rw [← md_tt hok.wf c22 j2, md_t2 t0]; exact hv9
                                      have hkn := ((md_pass (fun j hj => j2 j (by omega))).2 (md_two hok.wf n1 n2)).2 v9 |>.1 (by rw [c34] at hv7; exact hv7)
                                      have hR := md_end i3 hkn
                                      refine lv_iload hx hb dX1_make_200 (lv_at hl 0 rfl) ?_
                                      exact W.iret (v := r185) hx hb hr (fun t ht hW => ⟨⟨r185, (ar, iv), rfl, (by rw [hR]; exact ⟨e185.trans hv8, hcode, hok⟩), by rw [ht]; exact hP, va_K.moved hW.alike hK, hD⟩, hS.F ht⟩) hS.2.2 dX1_make_202
                              · exact absurd c151 (by decide)
                            · exact absurd c97 (by decide)
                        · have y2 := g2.mp ⟨fun z => c70 (e67.trans z), fun z => c80 (e77.trans z)⟩
                          refine lv_iconst (v := 1) hx hb dX1_make_83 (by decide) ?_
                          refine lv_goto (tgt := 88) hx hb dX1_make_84 (by decide) ?_
                          refine lv_istore (lv' := [(8, .int 1), (7, .int 0), (6, .int (nI q)), (5, .int 0), (4, .int (nI b1)), (3, .int (nI a1)), (0, .ref h1), (1, .int x), (2, .int y)]) hx hb dX1_make_88 hl (by decide) rfl (fun ls hl => ?_)
                          refine lv_iload hx hb dX1_make_90 (lv_at hl 1 rfl) ?_
                          refine lv_if_ne (tgt := 100) hx hb dX1_make_92 (by decide) (fun c92 => ?_) (fun c92 => ?_)
                          · exact absurd c92 (by decide)
                          · refine lv_iload hx hb dX1_make_95 (lv_at hl 0 rfl) ?_
                            refine lv_if_eq (tgt := 149) hx hb dX1_make_97 (by decide) (fun c97 => ?_) (fun c97 => ?_)
                            · exact absurd c97 (by decide)
                            · have hmm := (md_one hok.wf (fun j hj => j2 j (by omega))).2 y2
                              have hp : ct_gq g (max a1 b1) true = true ∧ ct_has g (max a1 b1 / 2) (min a1 b1) = true := by rw [hmm.1, hmm.2]; exact y2
                              have hkn := (md_pass (fun j hj => j2 j (by omega))).1 hp
                              obtain ⟨r9, hr9, hr8⟩ := md_bes hok (by omega) (by omega) hp
                              rw [hmm.1, hmm.2] at hr8
                              have hc122 := ha9
                              have hc132 := hb9
                              refine lv_iload hx hb dX1_make_100 (lv_at hl 1 rfl) ?_
                              refine lv_if_eq (tgt := 110) hx hb dX1_make_102 (by decide) (fun c102 => ?_) (fun c102 => ?_)
                              · refine lv_iload_n hx hb dX1_make_110 rfl (lv_at hl 5 rfl) ?_
                                refine lv_istore (lv' := [(9, .int (nI a1)), (8, .int 1), (7, .int 0), (6, .int (nI q)), (5, .int 0), (4, .int (nI b1)), (3, .int (nI a1)), (0, .ref h1), (1, .int x), (2, .int y)]) hx hb dX1_make_111 hl (by decide) rfl (fun ls hl => ?_)
                                refine lv_iload hx hb dX1_make_113 (lv_at hl 2 rfl) ?_
                                refine lv_if_eq (tgt := 128) hx hb dX1_make_115 (by decide) (fun c115 => ?_) (fun c115 => ?_)
                                · refine lv_aload_n hx hb dX1_make_128 rfl (lv_at hl 7 rfl) ?_
                                  refine lv_iload hx hb dX1_make_129 (lv_at hl 5 rfl) ?_
                                  refine lv_iload_n hx hb dX1_make_131 rfl (lv_at hl 6 rfl) ?_
                                  refine vp_callSi (W.runV (As := [.int (nI b1), .int (nI a1)]) (rest := []) ⟨hx, hb, hml, hown, hts⟩ (m_beside l D h1 cI cB cZ ad ar iv (nI b1) (nI a1) hc132) (cwV 2 hts gX1_make_X1_beside rfl rfl rfl (by decide +kernel) ⟨Nat.le_of_ble_eq_true rfl, Nat.le_of_ble_eq_true rfl⟩) (rP_V hK hP (va_recv hK hP (ci := 1) (q0 := 0) rfl rfl)) rfl rfl hl.1 rfl (lv_room (Nat.le_of_ble_eq_true rfl)) dX1_make_132 ⟨Nat.zero_le _, Nat.zero_le _⟩) (fun r132 e132 => ?_)
                                  refine lv_istore (lv' := [(10, .int r132), (9, .int (nI a1)), (8, .int 1), (7, .int 0), (6, .int (nI q)), (5, .int 0), (4, .int (nI b1)), (3, .int (nI a1)), (0, .ref h1), (1, .int x), (2, .int y)]) hx hb dX1_make_135 hl (by decide) rfl (fun ls hl => ?_)
                                  refine lv_iload hx hb dX1_make_137 (lv_at hl 1 rfl) ?_
                                  refine lv_istore_n (lv' := [(3, .int (nI a1)), (10, .int r132), (9, .int (nI a1)), (8, .int 1), (7, .int 0), (6, .int (nI q)), (5, .int 0), (4, .int (nI b1)), (0, .ref h1), (1, .int x), (2, .int y)]) hx hb dX1_make_139 rfl hl (by decide) rfl (fun ls hl => ?_)
                                  refine lv_iload hx hb dX1_make_140 (lv_at hl 1 rfl) ?_
                                  refine lv_iconst (v := 1) hx hb dX1_make_142 (by decide) ?_
                                  refine lv_ixor hx hb dX1_make_143 ?_
                                  refine lv_topi (fun v143 e143 => ?_)
                                  refine lv_istore (lv' := [(4, .int v143), (3, .int (nI a1)), (10, .int r132), (9, .int (nI a1)), (8, .int 1), (7, .int 0), (6, .int (nI q)), (5, .int 0), (0, .ref h1), (1, .int x), (2, .int y)]) hx hb dX1_make_144 hl (by decide) rfl (fun ls hl => ?_)
                                  refine lv_iconst (v := 1) hx hb dX1_make_146 (by decide) ?_
                                  refine lv_istore (lv' := [(5, .int 1), (4, .int v143), (3, .int (nI a1)), (10, .int r132), (9, .int (nI a1)), (8, .int 1), (7, .int 0), (6, .int (nI q)), (0, .ref h1), (1, .int x), (2, .int y)]) hx hb dX1_make_147 hl (by decide) rfl (fun ls hl => ?_)
                                  refine lv_iload hx hb dX1_make_149 (lv_at hl 0 rfl) ?_
                                  refine lv_if_eq (tgt := 158) hx hb dX1_make_151 (by decide) (fun c151 => ?_) (fun c151 => ?_)
                                  · exact absurd c151 (by decide)
                                  · refine lv_iconst (v := -1) hx hb dX1_make_154 (by decide) ?_
                                    refine lv_goto (tgt := 167) hx hb dX1_make_155 (by decide) ?_
                                    refine lv_istore (lv' := [(7, .int (-1)), (5, .int 1), (4, .int v143), (3, .int (nI a1)), (10, .int r132), (9, .int (nI a1)), (8, .int 1), (6, .int (nI q)), (0, .ref h1), (1, .int x), (2, .int y)]) hx hb dX1_make_167 hl (by decide) rfl (fun ls hl => ?_)
                                    refine lv_iload hx hb dX1_make_169 (lv_at hl 0 rfl) ?_
                                    refine lv_if_ge (tgt := 191) hx hb dX1_make_171 (by decide) (fun c171 => ?_) (fun c171 => ?_)
                                    · exact absurd c171 (by decide)
                                    · refine lv_iload hx hb dX1_make_174 (lv_at hl 1 rfl) ?_
                                      refine lv_if_ne (tgt := 191) hx hb dX1_make_176 (by decide) (fun c176 => ?_) (fun c176 => ?_)
                                      · refine lv_iload hx hb dX1_make_191 (lv_at hl 0 rfl) ?_
                                        refine lv_istore (lv' := [(7, .int (-1)), (5, .int 1), (4, .int v143), (3, .int (nI a1)), (10, .int r132), (9, .int (nI a1)), (8, .int 1), (6, .int (nI q)), (0, .ref h1), (1, .int x), (2, .int y)]) hx hb dX1_make_193 hl (by decide) rfl (fun ls hl => ?_)
                                        refine lv_iload hx hb dX1_make_195 (lv_at hl 0 rfl) ?_
                                        refine lv_if_lt (tgt := 203) hx hb dX1_make_197 (by decide) (fun c197 => ?_) (fun c197 => ?_)
                                        · obtain ⟨v203, e203⟩ : ∃ y : Int32, y = (nI q) + 1 := ⟨_, rfl⟩
                                          refine lv_iinc (v := v203) (lv' := [(6, .int v203), (7, .int (-1)), (5, .int 1), (4, .int v143), (3, .int (nI a1)), (10, .int r132), (9, .int (nI a1)), (8, .int 1), (0, .ref h1), (1, .int x), (2, .int y)]) hx hb dX1_make_203 hl (k := 7) rfl (by rw [e203]; rfl) (by decide) rfl (fun ls hl => ?_)
                                          refine lv_goto (tgt := 18) hx hb dX1_make_206 (by decide) ?_
                                          refine lv_iload hx hb dX1_make_18 (lv_at hl 0 rfl) ?_
                                          refine lv_bipush (v := 8) hx hb dX1_make_20 (by decide) ?_
                                          refine lv_icmp_ge (tgt := 209) hx hb dX1_make_22 (by decide) (fun c22 => ?_) (fun c22 => ?_)
                                          · refine lv_iload hx hb dX1_make_209 (lv_at hl 2 rfl) ?_
                                            refine lv_if_ne (tgt := 222) hx hb dX1_make_211 (by decide) (fun c211 => ?_) (fun c211 => ?_)
                                            · refine lv_goto (tgt := 5) hx hb dX1_make_222 (by decide) ?_
                                              have hgo := md_go hok.wf i3 hkn hr9
                                              rw [hmm.1] at hgo
                                              exact ih0 a1 r9 ls (by omega) ⟨by omega, hgo.1, hgo.2.2⟩ (by rw [← hr8, ← e132, ← e143]; exact lv_sub hl [3, 4, 8, 9, 10] rfl)
                                            · exact absurd c211 (by decide)
                                          · exact absurd (by rw [e203, nI_1, c34]; decide) c22
                                        · exact absurd c197 (by decide)
                                      · exact absurd c176 (by decide)
                                · exact absurd c115 (by decide)
                              · exact absurd c102 (by decide)
                    · have y1 := g1.mp ⟨fun z => c43 (e40.trans z), fun z => c53 (e50.trans z)⟩
                      refine lv_iconst (v := 1) hx hb dX1_make_56 (by decide) ?_
                      refine lv_goto (tgt := 61) hx hb dX1_make_57 (by decide) ?_
                      refine lv_istore (lv' := [(7, .int 1), (6, .int (nI q)), (5, .int 0), (4, .int (nI b1)), (3, .int (nI a1)), (0, .ref h1), (1, .int x), (2, .int y)]) hx hb dX1_make_61 hl (by decide) rfl (fun ls hl => ?_)
                      refine lv_aload_n hx hb dX1_make_63 rfl (lv_at hl 5 rfl) ?_
                      refine lv_iload hx hb dX1_make_64 (lv_at hl 3 rfl) ?_
                      refine lv_iconst (v := 1) hx hb dX1_make_66 (by decide) ?_
                      refine vp_callSi (W.runV (As := [.int (nI b1), .int 1]) (rest := []) ⟨hx, hb, hml, hown, hts⟩ (m_isGate l D h1 cI cB cZ ad ar iv (nI b1) 1 hc67) (cwV 2 hts gX1_make_X1_isGate rfl rfl rfl (by decide +kernel) ⟨Nat.le_of_ble_eq_true rfl, Nat.le_of_ble_eq_true rfl⟩) (rP_V hK hP (va_recv hK hP (ci := 1) (q0 := 0) rfl rfl)) rfl rfl hl.1 rfl (lv_room (Nat.le_of_ble_eq_true rfl)) dX1_make_67 ⟨Nat.zero_le _, Nat.zero_le _⟩) (fun r67 e67 => ?_)
                      refine lv_if_eq (tgt := 87) hx hb dX1_make_70 (by decide) (fun c70 => ?_) (fun c70 => ?_)
                      · have n2 : ¬ (ct_gq g b1 true = true ∧ ct_has g (b1 / 2) a1 = true) := fun z => (g2.mpr z).1 (e67.symm.trans c70)
                        refine lv_iconst (v := 0) hx hb dX1_make_87 (by decide) ?_
                        refine lv_istore (lv' := [(8, .int 0), (7, .int 1), (6, .int (nI q)), (5, .int 0), (4, .int (nI b1)), (3, .int (nI a1)), (0, .ref h1), (1, .int x), (2, .int y)]) hx hb dX1_make_88 hl (by decide) rfl (fun ls hl => ?_)
                        refine lv_iload hx hb dX1_make_90 (lv_at hl 1 rfl) ?_
                        refine lv_if_ne (tgt := 100) hx hb dX1_make_92 (by decide) (fun c92 => ?_) (fun c92 => ?_)
                        · have hmm := (md_one hok.wf (fun j hj => j2 j (by omega))).1 y1
                          have hp : ct_gq g (max a1 b1) true = true ∧ ct_has g (max a1 b1 / 2) (min a1 b1) = true := by rw [hmm.1, hmm.2]; exact y1
                          have hkn := (md_pass (fun j hj => j2 j (by omega))).1 hp
                          obtain ⟨r9, hr9, hr8⟩ := md_bes hok (by omega) (by omega) hp
                          rw [hmm.1, hmm.2] at hr8
                          have hc122 := ha9
                          have hc132 := hb9
                          refine lv_iload hx hb dX1_make_100 (lv_at hl 1 rfl) ?_
                          refine lv_if_eq (tgt := 110) hx hb dX1_make_102 (by decide) (fun c102 => ?_) (fun c102 => ?_)
                          · exact absurd c102 (by decide)
                          · refine lv_iload hx hb dX1_make_105 (lv_at hl 4 rfl) ?_
                            refine lv_goto (tgt := 111) hx hb dX1_make_107 (by decide) ?_
                            refine lv_istore (lv' := [(9, .int (nI b1)), (8, .int 0), (7, .int 1), (6, .int (nI q)), (5, .int 0), (4, .int (nI b1)), (3, .int (nI a1)), (0, .ref h1), (1, .int x), (2, .int y)]) hx hb dX1_make_111 hl (by decide) rfl (fun ls hl => ?_)
                            refine lv_iload hx hb dX1_make_113 (lv_at hl 2 rfl) ?_
                            refine lv_if_eq (tgt := 128) hx hb dX1_make_115 (by decide) (fun c115 => ?_) (fun c115 => ?_)
                            · exact absurd c115 (by decide)
                            · refine lv_aload_n hx hb dX1_make_118 rfl (lv_at hl 7 rfl) ?_
                              refine lv_iload_n hx hb dX1_make_119 rfl (lv_at hl 6 rfl) ?_
                              refine lv_iload hx hb dX1_make_120 (lv_at hl 5 rfl) ?_
                              refine vp_callSi (W.runV (As := [.int (nI a1), .int (nI b1)]) (rest := []) ⟨hx, hb, hml, hown, hts⟩ (m_beside l D h1 cI cB cZ ad ar iv (nI a1) (nI b1) hc122) (cwV 2 hts gX1_make_X1_beside rfl rfl rfl (by decide +kernel) ⟨Nat.le_of_ble_eq_true rfl, Nat.le_of_ble_eq_true rfl⟩) (rP_V hK hP (va_recv hK hP (ci := 1) (q0 := 0) rfl rfl)) rfl rfl hl.1 rfl (lv_room (Nat.le_of_ble_eq_true rfl)) dX1_make_122 ⟨Nat.zero_le _, Nat.zero_le _⟩) (fun r122 e122 => ?_)
                              refine lv_goto (tgt := 135) hx hb dX1_make_125 (by decide) ?_
                              refine lv_istore (lv' := [(10, .int r122), (9, .int (nI b1)), (8, .int 0), (7, .int 1), (6, .int (nI q)), (5, .int 0), (4, .int (nI b1)), (3, .int (nI a1)), (0, .ref h1), (1, .int x), (2, .int y)]) hx hb dX1_make_135 hl (by decide) rfl (fun ls hl => ?_)
                              refine lv_iload hx hb dX1_make_137 (lv_at hl 1 rfl) ?_
                              refine lv_istore_n (lv' := [(3, .int (nI b1)), (10, .int r122), (9, .int (nI b1)), (8, .int 0), (7, .int 1), (6, .int (nI q)), (5, .int 0), (4, .int (nI b1)), (0, .ref h1), (1, .int x), (2, .int y)]) hx hb dX1_make_139 rfl hl (by decide) rfl (fun ls hl => ?_)
                              refine lv_iload hx hb dX1_make_140 (lv_at hl 1 rfl) ?_
                              refine lv_iconst (v := 1) hx hb dX1_make_142 (by decide) ?_
                              refine lv_ixor hx hb dX1_make_143 ?_
                              refine lv_topi (fun v143 e143 => ?_)
                              refine lv_istore (lv' := [(4, .int v143), (3, .int (nI b1)), (10, .int r122), (9, .int (nI b1)), (8, .int 0), (7, .int 1), (6, .int (nI q)), (5, .int 0), (0, .ref h1), (1, .int x), (2, .int y)]) hx hb dX1_make_144 hl (by decide) rfl (fun ls hl => ?_)
                              refine lv_iconst (v := 1) hx hb dX1_make_146 (by decide) ?_
                              refine lv_istore (lv' := [(5, .int 1), (4, .int v143), (3, .int (nI b1)), (10, .int r122), (9, .int (nI b1)), (8, .int 0), (7, .int 1), (6, .int (nI q)), (0, .ref h1), (1, .int x), (2, .int y)]) hx hb dX1_make_147 hl (by decide) rfl (fun ls hl => ?_)
                              refine lv_iload hx hb dX1_make_149 (lv_at hl 0 rfl) ?_
                              refine lv_if_eq (tgt := 158) hx hb dX1_make_151 (by decide) (fun c151 => ?_) (fun c151 => ?_)
                              · exact absurd c151 (by decide)
                              · refine lv_iconst (v := -1) hx hb dX1_make_154 (by decide) ?_
                                refine lv_goto (tgt := 167) hx hb dX1_make_155 (by decide) ?_
                                refine lv_istore (lv' := [(7, .int (-1)), (5, .int 1), (4, .int v143), (3, .int (nI b1)), (10, .int r122), (9, .int (nI b1)), (8, .int 0), (6, .int (nI q)), (0, .ref h1), (1, .int x), (2, .int y)]) hx hb dX1_make_167 hl (by decide) rfl (fun ls hl => ?_)
                                refine lv_iload hx hb dX1_make_169 (lv_at hl 0 rfl) ?_
                                refine lv_if_ge (tgt := 191) hx hb dX1_make_171 (by decide) (fun c171 => ?_) (fun c171 => ?_)
                                · exact absurd c171 (by decide)
                                · refine lv_iload hx hb dX1_make_174 (lv_at hl 1 rfl) ?_
                                  refine lv_if_ne (tgt := 191) hx hb dX1_make_176 (by decide) (fun c176 => ?_) (fun c176 => ?_)
                                  · refine lv_iload hx hb dX1_make_191 (lv_at hl 0 rfl) ?_
                                    refine lv_istore (lv' := [(7, .int (-1)), (5, .int 1), (4, .int v143), (3, .int (nI b1)), (10, .int r122), (9, .int (nI b1)), (8, .int 0), (6, .int (nI q)), (0, .ref h1), (1, .int x), (2, .int y)]) hx hb dX1_make_193 hl (by decide) rfl (fun ls hl => ?_)
                                    refine lv_iload hx hb dX1_make_195 (lv_at hl 0 rfl) ?_
                                    refine lv_if_lt (tgt := 203) hx hb dX1_make_197 (by decide) (fun c197 => ?_) (fun c197 => ?_)
                                    · obtain ⟨v203, e203⟩ : ∃ y : Int32, y = (nI q) + 1 := ⟨_, rfl⟩
                                      refine lv_iinc (v := v203) (lv' := [(6, .int v203), (7, .int (-1)), (5, .int 1), (4, .int v143), (3, .int (nI b1)), (10, .int r122), (9, .int (nI b1)), (8, .int 0), (0, .ref h1), (1, .int x), (2, .int y)]) hx hb dX1_make_203 hl (k := 7) rfl (by rw [e203]; rfl) (by decide) rfl (fun ls hl => ?_)
                                      refine lv_goto (tgt := 18) hx hb dX1_make_206 (by decide) ?_
                                      refine lv_iload hx hb dX1_make_18 (lv_at hl 0 rfl) ?_
                                      refine lv_bipush (v := 8) hx hb dX1_make_20 (by decide) ?_
                                      refine lv_icmp_ge (tgt := 209) hx hb dX1_make_22 (by decide) (fun c22 => ?_) (fun c22 => ?_)
                                      · refine lv_iload hx hb dX1_make_209 (lv_at hl 2 rfl) ?_
                                        refine lv_if_ne (tgt := 222) hx hb dX1_make_211 (by decide) (fun c211 => ?_) (fun c211 => ?_)
                                        · refine lv_goto (tgt := 5) hx hb dX1_make_222 (by decide) ?_
                                          have hgo := md_go hok.wf i3 hkn hr9
                                          rw [hmm.1] at hgo
                                          exact ih0 b1 r9 ls (by omega) ⟨by omega, hgo.1, hgo.2.2⟩ (by rw [← hr8, ← e122, ← e143]; exact lv_sub hl [3, 4, 8, 9, 10] rfl)
                                        · exact absurd c211 (by decide)
                                      · exact absurd (by rw [e203, nI_1, c34]; decide) c22
                                    · exact absurd c197 (by decide)
                                  · exact absurd c176 (by decide)
                        · exact absurd c92 (by decide)
                      · refine lv_aload_n hx hb dX1_make_73 rfl (lv_at hl 5 rfl) ?_
                        refine lv_iload hx hb dX1_make_74 (lv_at hl 3 rfl) ?_
                        refine lv_iload_n hx hb dX1_make_76 rfl (lv_at hl 4 rfl) ?_
                        refine vp_callSi (W.runV (As := [.int (nI b1), .int (nI a1)]) (rest := []) ⟨hx, hb, hml, hown, hts⟩ (m_has l D h1 cI cB cZ ad ar iv (nI b1) (nI a1) hc77) (cwV 2 hts gX1_make_X1_has rfl rfl rfl (by decide +kernel) ⟨Nat.le_of_ble_eq_true rfl, Nat.le_of_ble_eq_true rfl⟩) (rP_V hK hP (va_recv hK hP (ci := 1) (q0 := 0) rfl rfl)) rfl rfl hl.1 rfl (lv_room (Nat.le_of_ble_eq_true rfl)) dX1_make_77 ⟨Nat.zero_le _, Nat.zero_le _⟩) (fun r77 e77 => ?_)
                        refine lv_if_eq (tgt := 87) hx hb dX1_make_80 (by decide) (fun c80 => ?_) (fun c80 => ?_)
                        · have n2 : ¬ (ct_gq g b1 true = true ∧ ct_has g (b1 / 2) a1 = true) := fun z => (g2.mpr z).2 (e77.symm.trans c80)
                          refine lv_iconst (v := 0) hx hb dX1_make_87 (by decide) ?_
                          refine lv_istore (lv' := [(8, .int 0), (7, .int 1), (6, .int (nI q)), (5, .int 0), (4, .int (nI b1)), (3, .int (nI a1)), (0, .ref h1), (1, .int x), (2, .int y)]) hx hb dX1_make_88 hl (by decide) rfl (fun ls hl => ?_)
                          refine lv_iload hx hb dX1_make_90 (lv_at hl 1 rfl) ?_
                          refine lv_if_ne (tgt := 100) hx hb dX1_make_92 (by decide) (fun c92 => ?_) (fun c92 => ?_)
                          · have hmm := (md_one hok.wf (fun j hj => j2 j (by omega))).1 y1
                            have hp : ct_gq g (max a1 b1) true = true ∧ ct_has g (max a1 b1 / 2) (min a1 b1) = true := by rw [hmm.1, hmm.2]; exact y1
                            have hkn := (md_pass (fun j hj => j2 j (by omega))).1 hp
                            obtain ⟨r9, hr9, hr8⟩ := md_bes hok (by omega) (by omega) hp
                            rw [hmm.1, hmm.2] at hr8
                            have hc122 := ha9
                            have hc132 := hb9
                            refine lv_iload hx hb dX1_make_100 (lv_at hl 1 rfl) ?_
                            refine lv_if_eq (tgt := 110) hx hb dX1_make_102 (by decide) (fun c102 => ?_) (fun c102 => ?_)
                            · exact absurd c102 (by decide)
                            · refine lv_iload hx hb dX1_make_105 (lv_at hl 4 rfl) ?_
                              refine lv_goto (tgt := 111) hx hb dX1_make_107 (by decide) ?_
                              refine lv_istore (lv' := [(9, .int (nI b1)), (8, .int 0), (7, .int 1), (6, .int (nI q)), (5, .int 0), (4, .int (nI b1)), (3, .int (nI a1)), (0, .ref h1), (1, .int x), (2, .int y)]) hx hb dX1_make_111 hl (by decide) rfl (fun ls hl => ?_)
                              refine lv_iload hx hb dX1_make_113 (lv_at hl 2 rfl) ?_
                              refine lv_if_eq (tgt := 128) hx hb dX1_make_115 (by decide) (fun c115 => ?_) (fun c115 => ?_)
                              · exact absurd c115 (by decide)
                              · refine lv_aload_n hx hb dX1_make_118 rfl (lv_at hl 7 rfl) ?_
                                refine lv_iload_n hx hb dX1_make_119 rfl (lv_at hl 6 rfl) ?_
                                refine lv_iload hx hb dX1_make_120 (lv_at hl 5 rfl) ?_
                                refine vp_callSi (W.runV (As := [.int (nI a1), .int (nI b1)]) (rest := []) ⟨hx, hb, hml, hown, hts⟩ (m_beside l D h1 cI cB cZ ad ar iv (nI a1) (nI b1) hc122) (cwV 2 hts gX1_make_X1_beside rfl rfl rfl (by decide +kernel) ⟨Nat.le_of_ble_eq_true rfl, Nat.le_of_ble_eq_true rfl⟩) (rP_V hK hP (va_recv hK hP (ci := 1) (q0 := 0) rfl rfl)) rfl rfl hl.1 rfl (lv_room (Nat.le_of_ble_eq_true rfl)) dX1_make_122 ⟨Nat.zero_le _, Nat.zero_le _⟩) (fun r122 e122 => ?_)
                                refine lv_goto (tgt := 135) hx hb dX1_make_125 (by decide) ?_
                                refine lv_istore (lv' := [(10, .int r122), (9, .int (nI b1)), (8, .int 0), (7, .int 1), (6, .int (nI q)), (5, .int 0), (4, .int (nI b1)), (3, .int (nI a1)), (0, .ref h1), (1, .int x), (2, .int y)]) hx hb dX1_make_135 hl (by decide) rfl (fun ls hl => ?_)
                                refine lv_iload hx hb dX1_make_137 (lv_at hl 1 rfl) ?_
                                refine lv_istore_n (lv' := [(3, .int (nI b1)), (10, .int r122), (9, .int (nI b1)), (8, .int 0), (7, .int 1), (6, .int (nI q)), (5, .int 0), (4, .int (nI b1)), (0, .ref h1), (1, .int x), (2, .int y)]) hx hb dX1_make_139 rfl hl (by decide) rfl (fun ls hl => ?_)
                                refine lv_iload hx hb dX1_make_140 (lv_at hl 1 rfl) ?_
                                refine lv_iconst (v := 1) hx hb dX1_make_142 (by decide) ?_
                                refine lv_ixor hx hb dX1_make_143 ?_
                                refine lv_topi (fun v143 e143 => ?_)
                                refine lv_istore (lv' := [(4, .int v143), (3, .int (nI b1)), (10, .int r122), (9, .int (nI b1)), (8, .int 0), (7, .int 1), (6, .int (nI q)), (5, .int 0), (0, .ref h1), (1, .int x), (2, .int y)]) hx hb dX1_make_144 hl (by decide) rfl (fun ls hl => ?_)
                                refine lv_iconst (v := 1) hx hb dX1_make_146 (by decide) ?_
                                refine lv_istore (lv' := [(5, .int 1), (4, .int v143), (3, .int (nI b1)), (10, .int r122), (9, .int (nI b1)), (8, .int 0), (7, .int 1), (6, .int (nI q)), (0, .ref h1), (1, .int x), (2, .int y)]) hx hb dX1_make_147 hl (by decide) rfl (fun ls hl => ?_)
                                refine lv_iload hx hb dX1_make_149 (lv_at hl 0 rfl) ?_
                                refine lv_if_eq (tgt := 158) hx hb dX1_make_151 (by decide) (fun c151 => ?_) (fun c151 => ?_)
                                · exact absurd c151 (by decide)
                                · refine lv_iconst (v := -1) hx hb dX1_make_154 (by decide) ?_
                                  refine lv_goto (tgt := 167) hx hb dX1_make_155 (by decide) ?_
                                  refine lv_istore (lv' := [(7, .int (-1)), (5, .int 1), (4, .int v143), (3, .int (nI b1)), (10, .int r122), (9, .int (nI b1)), (8, .int 0), (6, .int (nI q)), (0, .ref h1), (1, .int x), (2, .int y)]) hx hb dX1_make_167 hl (by decide) rfl (fun ls hl => ?_)
                                  refine lv_iload hx hb dX1_make_169 (lv_at hl 0 rfl) ?_
                                  refine lv_if_ge (tgt := 191) hx hb dX1_make_171 (by decide) (fun c171 => ?_) (fun c171 => ?_)
                                  · exact absurd c171 (by decide)
                                  · refine lv_iload hx hb dX1_make_174 (lv_at hl 1 rfl) ?_
                                    refine lv_if_ne (tgt := 191) hx hb dX1_make_176 (by decide) (fun c176 => ?_) (fun c176 => ?_)
                                    · refine lv_iload hx hb dX1_make_191 (lv_at hl 0 rfl) ?_
                                      refine lv_istore (lv' := [(7, .int (-1)), (5, .int 1), (4, .int v143), (3, .int (nI b1)), (10, .int r122), (9, .int (nI b1)), (8, .int 0), (6, .int (nI q)), (0, .ref h1), (1, .int x), (2, .int y)]) hx hb dX1_make_193 hl (by decide) rfl (fun ls hl => ?_)
                                      refine lv_iload hx hb dX1_make_195 (lv_at hl 0 rfl) ?_
                                      refine lv_if_lt (tgt := 203) hx hb dX1_make_197 (by decide) (fun c197 => ?_) (fun c197 => ?_)
                                      · obtain ⟨v203, e203⟩ : ∃ y : Int32, y = (nI q) + 1 := ⟨_, rfl⟩
                                        refine lv_iinc (v := v203) (lv' := [(6, .int v203), (7, .int (-1)), (5, .int 1), (4, .int v143), (3, .int (nI b1)), (10, .int r122), (9, .int (nI b1)), (8, .int 0), (0, .ref h1), (1, .int x), (2, .int y)]) hx hb dX1_make_203 hl (k := 7) rfl (by rw [e203]; rfl) (by decide) rfl (fun ls hl => ?_)
                                        refine lv_goto (tgt := 18) hx hb dX1_make_206 (by decide) ?_
                                        refine lv_iload hx hb dX1_make_18 (lv_at hl 0 rfl) ?_
                                        refine lv_bipush (v := 8) hx hb dX1_make_20 (by decide) ?_
                                        refine lv_icmp_ge (tgt := 209) hx hb dX1_make_22 (by decide) (fun c22 => ?_) (fun c22 => ?_)
                                        · refine lv_iload hx hb dX1_make_209 (lv_at hl 2 rfl) ?_
                                          refine lv_if_ne (tgt := 222) hx hb dX1_make_211 (by decide) (fun c211 => ?_) (fun c211 => ?_)
                                          · refine lv_goto (tgt := 5) hx hb dX1_make_222 (by decide) ?_
                                            have hgo := md_go hok.wf i3 hkn hr9
                                            rw [hmm.1] at hgo
                                            exact ih0 b1 r9 ls (by omega) ⟨by omega, hgo.1, hgo.2.2⟩ (by rw [← hr8, ← e122, ← e143]; exact lv_sub hl [3, 4, 8, 9, 10] rfl)
                                          · exact absurd c211 (by decide)
                                        · exact absurd (by rw [e203, nI_1, c34]; decide) c22
                                      · exact absurd c197 (by decide)
                                    · exact absurd c176 (by decide)
                          · exact absurd c92 (by decide)
                        · have y2 := g2.mp ⟨fun z => c70 (e67.trans z), fun z => c80 (e77.trans z)⟩
                          refine lv_iconst (v := 1) hx hb dX1_make_83 (by decide) ?_
                          refine lv_goto (tgt := 88) hx hb dX1_make_84 (by decide) ?_
                          refine lv_istore (lv' := [(8, .int 1), (7, .int 1), (6, .int (nI q)), (5, .int 0), (4, .int (nI b1)), (3, .int (nI a1)), (0, .ref h1), (1, .int x), (2, .int y)]) hx hb dX1_make_88 hl (by decide) rfl (fun ls hl => ?_)
                          refine lv_iload hx hb dX1_make_90 (lv_at hl 1 rfl) ?_
                          refine lv_if_ne (tgt := 100) hx hb dX1_make_92 (by decide) (fun c92 => ?_) (fun c92 => ?_)
                          · have hmm := (md_one hok.wf (fun j hj => j2 j (by omega))).1 y1
                            have hp : ct_gq g (max a1 b1) true = true ∧ ct_has g (max a1 b1 / 2) (min a1 b1) = true := by rw [hmm.1, hmm.2]; exact y1
                            have hkn := (md_pass (fun j hj => j2 j (by omega))).1 hp
                            obtain ⟨r9, hr9, hr8⟩ := md_bes hok (by omega) (by omega) hp
                            rw [hmm.1, hmm.2] at hr8
                            have hc122 := ha9
                            have hc132 := hb9
                            refine lv_iload hx hb dX1_make_100 (lv_at hl 1 rfl) ?_
                            refine lv_if_eq (tgt := 110) hx hb dX1_make_102 (by decide) (fun c102 => ?_) (fun c102 => ?_)
                            · exact absurd c102 (by decide)
                            · refine lv_iload hx hb dX1_make_105 (lv_at hl 4 rfl) ?_
                              refine lv_goto (tgt := 111) hx hb dX1_make_107 (by decide) ?_
                              refine lv_istore (lv' := [(9, .int (nI b1)), (8, .int 1), (7, .int 1), (6, .int (nI q)), (5, .int 0), (4, .int (nI b1)), (3, .int (nI a1)), (0, .ref h1), (1, .int x), (2, .int y)]) hx hb dX1_make_111 hl (by decide) rfl (fun ls hl => ?_)
                              refine lv_iload hx hb dX1_make_113 (lv_at hl 2 rfl) ?_
                              refine lv_if_eq (tgt := 128) hx hb dX1_make_115 (by decide) (fun c115 => ?_) (fun c115 => ?_)
                              · exact absurd c115 (by decide)
                              · refine lv_aload_n hx hb dX1_make_118 rfl (lv_at hl 7 rfl) ?_
                                refine lv_iload_n hx hb dX1_make_119 rfl (lv_at hl 6 rfl) ?_
                                refine lv_iload hx hb dX1_make_120 (lv_at hl 5 rfl) ?_
                                refine vp_callSi (W.runV (As := [.int (nI a1), .int (nI b1)]) (rest := []) ⟨hx, hb, hml, hown, hts⟩ (m_beside l D h1 cI cB cZ ad ar iv (nI a1) (nI b1) hc122) (cwV 2 hts gX1_make_X1_beside rfl rfl rfl (by decide +kernel) ⟨Nat.le_of_ble_eq_true rfl, Nat.le_of_ble_eq_true rfl⟩) (rP_V hK hP (va_recv hK hP (ci := 1) (q0 := 0) rfl rfl)) rfl rfl hl.1 rfl (lv_room (Nat.le_of_ble_eq_true rfl)) dX1_make_122 ⟨Nat.zero_le _, Nat.zero_le _⟩) (fun r122 e122 => ?_)
                                refine lv_goto (tgt := 135) hx hb dX1_make_125 (by decide) ?_
                                refine lv_istore (lv' := [(10, .int r122), (9, .int (nI b1)), (8, .int 1), (7, .int 1), (6, .int (nI q)), (5, .int 0), (4, .int (nI b1)), (3, .int (nI a1)), (0, .ref h1), (1, .int x), (2, .int y)]) hx hb dX1_make_135 hl (by decide) rfl (fun ls hl => ?_)
                                refine lv_iload hx hb dX1_make_137 (lv_at hl 1 rfl) ?_
                                refine lv_istore_n (lv' := [(3, .int (nI b1)), (10, .int r122), (9, .int (nI b1)), (8, .int 1), (7, .int 1), (6, .int (nI q)), (5, .int 0), (4, .int (nI b1)), (0, .ref h1), (1, .int x), (2, .int y)]) hx hb dX1_make_139 rfl hl (by decide) rfl (fun ls hl => ?_)
                                refine lv_iload hx hb dX1_make_140 (lv_at hl 1 rfl) ?_
                                refine lv_iconst (v := 1) hx hb dX1_make_142 (by decide) ?_
                                refine lv_ixor hx hb dX1_make_143 ?_
                                refine lv_topi (fun v143 e143 => ?_)
                                refine lv_istore (lv' := [(4, .int v143), (3, .int (nI b1)), (10, .int r122), (9, .int (nI b1)), (8, .int 1), (7, .int 1), (6, .int (nI q)), (5, .int 0), (0, .ref h1), (1, .int x), (2, .int y)]) hx hb dX1_make_144 hl (by decide) rfl (fun ls hl => ?_)
                                refine lv_iconst (v := 1) hx hb dX1_make_146 (by decide) ?_
                                refine lv_istore (lv' := [(5, .int 1), (4, .int v143), (3, .int (nI b1)), (10, .int r122), (9, .int (nI b1)), (8, .int 1), (7, .int 1), (6, .int (nI q)), (0, .ref h1), (1, .int x), (2, .int y)]) hx hb dX1_make_147 hl (by decide) rfl (fun ls hl => ?_)
                                refine lv_iload hx hb dX1_make_149 (lv_at hl 0 rfl) ?_
                                refine lv_if_eq (tgt := 158) hx hb dX1_make_151 (by decide) (fun c151 => ?_) (fun c151 => ?_)
                                · exact absurd c151 (by decide)
                                · refine lv_iconst (v := -1) hx hb dX1_make_154 (by decide) ?_
                                  refine lv_goto (tgt := 167) hx hb dX1_make_155 (by decide) ?_
                                  refine lv_istore (lv' := [(7, .int (-1)), (5, .int 1), (4, .int v143), (3, .int (nI b1)), (10, .int r122), (9, .int (nI b1)), (8, .int 1), (6, .int (nI q)), (0, .ref h1), (1, .int x), (2, .int y)]) hx hb dX1_make_167 hl (by decide) rfl (fun ls hl => ?_)
                                  refine lv_iload hx hb dX1_make_169 (lv_at hl 0 rfl) ?_
                                  refine lv_if_ge (tgt := 191) hx hb dX1_make_171 (by decide) (fun c171 => ?_) (fun c171 => ?_)
                                  · exact absurd c171 (by decide)
                                  · refine lv_iload hx hb dX1_make_174 (lv_at hl 1 rfl) ?_
                                    refine lv_if_ne (tgt := 191) hx hb dX1_make_176 (by decide) (fun c176 => ?_) (fun c176 => ?_)
                                    · refine lv_iload hx hb dX1_make_191 (lv_at hl 0 rfl) ?_
                                      refine lv_istore (lv' := [(7, .int (-1)), (5, .int 1), (4, .int v143), (3, .int (nI b1)), (10, .int r122), (9, .int (nI b1)), (8, .int 1), (6, .int (nI q)), (0, .ref h1), (1, .int x), (2, .int y)]) hx hb dX1_make_193 hl (by decide) rfl (fun ls hl => ?_)
                                      refine lv_iload hx hb dX1_make_195 (lv_at hl 0 rfl) ?_
                                      refine lv_if_lt (tgt := 203) hx hb dX1_make_197 (by decide) (fun c197 => ?_) (fun c197 => ?_)
                                      · obtain ⟨v203, e203⟩ : ∃ y : Int32, y = (nI q) + 1 := ⟨_, rfl⟩
                                        refine lv_iinc (v := v203) (lv' := [(6, .int v203), (7, .int (-1)), (5, .int 1), (4, .int v143), (3, .int (nI b1)), (10, .int r122), (9, .int (nI b1)), (8, .int 1), (0, .ref h1), (1, .int x), (2, .int y)]) hx hb dX1_make_203 hl (k := 7) rfl (by rw [e203]; rfl) (by decide) rfl (fun ls hl => ?_)
                                        refine lv_goto (tgt := 18) hx hb dX1_make_206 (by decide) ?_
                                        refine lv_iload hx hb dX1_make_18 (lv_at hl 0 rfl) ?_
                                        refine lv_bipush (v := 8) hx hb dX1_make_20 (by decide) ?_
                                        refine lv_icmp_ge (tgt := 209) hx hb dX1_make_22 (by decide) (fun c22 => ?_) (fun c22 => ?_)
                                        · refine lv_iload hx hb dX1_make_209 (lv_at hl 2 rfl) ?_
                                          refine lv_if_ne (tgt := 222) hx hb dX1_make_211 (by decide) (fun c211 => ?_) (fun c211 => ?_)
                                          · refine lv_goto (tgt := 5) hx hb dX1_make_222 (by decide) ?_
                                            have hgo := md_go hok.wf i3 hkn hr9
                                            rw [hmm.1] at hgo
                                            exact ih0 b1 r9 ls (by omega) ⟨by omega, hgo.1, hgo.2.2⟩ (by rw [← hr8, ← e122, ← e143]; exact lv_sub hl [3, 4, 8, 9, 10] rfl)
                                          · exact absurd c211 (by decide)
                                        · exact absurd (by rw [e203, nI_1, c34]; decide) c22
                                      · exact absurd c197 (by decide)
                                    · exact absurd c176 (by decide)
                          · exact absurd c92 (by decide)
        exact hloop1 9 0 ls (by omega) ⟨by omega, fun j hj => absurd hj (by omega), fun z => absurd z (by omega)⟩ (by rw [nI_0]; exact hl)
  have hfu := ct_rd_fuel hwf nc (max a b / 2 + 1) (min a b) (max a b) (by omega) (by omega) (by omega)
  exact hloop0 (max a b / 2 + 1) a b ls (by omega) ⟨ha2, hb2, hfu⟩ (by rw [← hx0, ← hy0]; exact hl)
set_option maxHeartbeats 4000000 in
set_option maxRecDepth 100000 in
/-- the reference: or -/
theorem m_or (l : Launch) (D : va_G) (h1 : Nat) (cI cB cZ : ClassId) (ad : Nat → Nat) (ar : Nat → Nat → Int32) (iv : Nat → Int32) (sz : Nat) (x : Int32) (y : Int32) (a b : Nat) (nc ic : Nat) (g : Ct) (bv : Nat → Bool) (hx0 : x = nI a) (hy0 : y = nI b) (ha2 : a < 2 * nc) (hb2 : b < 2 * nc) (hok : mm_ok nc ic g bv ar iv) (hcode : iv 0 = 0) (hmx : nc < 20000) : Met l yX1_or wsX1_or ({ frames := 3, cells := 0, slots := 0, locals := 78 }) (mP D (mW h1 cI cB cZ ad ar iv) [(cI, .int), (cB, .byte), (cZ, .boolean)] sz [.ref h1, .int x, .int y]) (va_Qi (fun (r : Int32) (u : MS) => md_po ic bv (ct_or nc g a b) r u) (mm_at D cI cB cZ ad (va_A (mW h1 cI cB cZ ad ar iv) sz) h1) (va_A (mW h1 cI cB cZ ad ar iv) sz)) 0 0 (va_A (mW h1 cI cB cZ ad ar iv) sz) := by
  refine Met.ofW (cc := cX1_or) (maxL := 3) (ret := (some .int)) (by decide) rfl ?_
  intro p e s m args below meth c s₁ B hml hv
  obtain ⟨rfl, hsz, hP, hK, hD0⟩ := hv
  have hx := B.exec
  have hb := B.bytes
  have hr := B.returns
  have hts := atoms_spec (ws := wsX1_or) B.pre
  have hown : s.vm.findClass RX1 = some m.cls := findClass_of_methodNamed B.named
  have hlocks := B.notSynchronized
  have hl := lv_entry ([.ref h1, .int x, .int y]) (n := 3) (Nat.le_of_ble_eq_true rfl)
  rw [lg_entry_eq]
  generalize (lg_sl ([.ref h1, .int x, .int y]) ++ List.replicate (3 - (lg_sl ([.ref h1, .int x, .int y])).length) Slot.unset).toArray = ls at hl ⊢
  have hl : lv_has ls 3 [(0, .ref h1), (1, .int x), (2, .int y)] := hl
  subst hsz
  have hD := hD0.self (sz := s.heap.size)
  generalize hAe : va_A (mW h1 cI cB cZ ad ar iv) s.heap.size = A at hD ⊢
  have hA : ∀ q : Nat, s.heap.size ≤ q → A q := fun q h => by rw [← hAe]; exact Or.inr h
  have hS : va_S A s.heap s.heap [] := va_S.rf
  have bd1 : ct_bd nc 1 (ct_an nc g (ct_nt a) (ct_nt b)) := ct_an_b hok.wf (ct_nt_lt ha2) (ct_nt_lt hb2)
  have bl1 : (ct_an nc g (ct_nt a) (ct_nt b)).1 < 2 * (ct_an nc g (ct_nt a) (ct_nt b)).2.1 := bd1.2.1
  have bg1 : nc ≤ (ct_an nc g (ct_nt a) (ct_nt b)).2.1 := bd1.2.2.1
  have bh1 : (ct_an nc g (ct_nt a) (ct_nt b)).2.1 ≤ nc + 1 := bd1.2.2.2
  refine lv_aload_n hx hb dX1_or_0 rfl (lv_at hl 0 rfl) ?_
  refine lv_iload_n hx hb dX1_or_1 rfl (lv_at hl 1 rfl) ?_
  refine lv_iconst (v := 1) hx hb dX1_or_2 (by decide) ?_
  refine lv_ixor hx hb dX1_or_3 ?_
  refine lv_topi (fun v3 e3 => ?_)
  refine lv_iload_n hx hb dX1_or_4 rfl (lv_at hl 2 rfl) ?_
  refine lv_iconst (v := 1) hx hb dX1_or_5 (by decide) ?_
  refine lv_ixor hx hb dX1_or_6 ?_
  refine lv_topi (fun v6 e6 => ?_)
  have hFc := va_free (wc := (mW h1 cI cB cZ ad ar iv)) hD hS hA [0, 1, 2, 3, 4, 5] rfl
  refine va_calli (va_runV (As := [.int v3, .int v6]) (rest := []) ⟨hx, hb, hml, hown, hts⟩ (m_make l D h1 cI cB cZ ad ar iv s.heap.size v3 v6 (ct_nt a) (ct_nt b) nc ic g bv (by rw [e3, hx0]; exact ct_nIxor a) (by rw [e6, hy0]; exact ct_nIxor b) (ct_nt_lt ha2) (ct_nt_lt hb2) hok hcode (by omega)) (cwV 2 hts gX1_or_X1_make rfl rfl rfl (by decide +kernel) ⟨Nat.le_of_ble_eq_true rfl, Nat.le_of_ble_eq_true rfl⟩) (mP_V hK hP hD (va_recv hK hP (ci := 1) (q0 := 0) rfl rfl)) rfl rfl hl.1 rfl (lv_room (Nat.le_of_ble_eq_true rfl)) dX1_or_7 ⟨Nat.zero_le _, Nat.zero_le _⟩) hS (fun q _ h => hFc q h) hFc (fun r7 u t H1 locs ht hvm e7 hB hz1 hk1 hS => ?_)
  obtain ⟨ar7, iv7⟩ := u
  obtain ⟨hP1, hK1, hD1⟩ := hB
  rw [ht] at hP1
  have hK := va_K.moved hvm.symm hK1
  have hP : va_P D vwCl (mW h1 cI cB cZ ad ar7 iv7) H1 := hP1
  have hD : va_D A (mW h1 cI cB cZ ad ar7 iv7) := hD1.weaken (fun k q _ h => hFc q.1 h)
  clear hP1 hK1 hD1 hk1 hz1 hFc ht
  generalize H1 = H at hP hS ⊢
  try dsimp only at e7
  refine lv_iconst (v := 1) hx hb dX1_or_10 (by decide) ?_
  refine lv_ixor hx hb dX1_or_11 ?_
  refine lv_topi (fun v11 e11 => ?_)
  exact W.iret (v := v11) hx hb hr (fun t ht hW => ⟨⟨v11, (ar7, iv7), rfl, ⟨by rw [e11, e7.1]; exact ct_nIxor _, e7.2⟩, by rw [ht]; exact hP, va_K.moved hW.alike hK, hD⟩, hS.F ht⟩) hS.2.2 dX1_or_12
set_option maxHeartbeats 4000000 in
set_option maxRecDepth 100000 in
/-- the reference: xor -/
theorem m_xor (l : Launch) (D : va_G) (h1 : Nat) (cI cB cZ : ClassId) (ad : Nat → Nat) (ar : Nat → Nat → Int32) (iv : Nat → Int32) (sz : Nat) (x : Int32) (y : Int32) (a b : Nat) (nc ic : Nat) (g : Ct) (bv : Nat → Bool) (hx0 : x = nI a) (hy0 : y = nI b) (ha2 : a < 2 * nc) (hb2 : b < 2 * nc) (hok : mm_ok nc ic g bv ar iv) (hcode : iv 0 = 0) (hmx : nc + 3 ≤ 20000) : Met l yX1_xor wsX1_xor ({ frames := 4, cells := 0, slots := 0, locals := 100 }) (mP D (mW h1 cI cB cZ ad ar iv) [(cI, .int), (cB, .byte), (cZ, .boolean)] sz [.ref h1, .int x, .int y]) (va_Qi (fun (r : Int32) (u : MS) => md_po ic bv (ct_xo nc g a b) r u) (mm_at D cI cB cZ ad (va_A (mW h1 cI cB cZ ad ar iv) sz) h1) (va_A (mW h1 cI cB cZ ad ar iv) sz)) 0 0 (va_A (mW h1 cI cB cZ ad ar iv) sz) := by
  refine Met.ofW (cc := cX1_xor) (maxL := 5) (ret := (some .int)) (by decide) rfl ?_
  intro p e s m args below meth c s₁ B hml hv
  obtain ⟨rfl, hsz, hP, hK, hD0⟩ := hv
  have hx := B.exec
  have hb := B.bytes
  have hr := B.returns
  have hts := atoms_spec (ws := wsX1_xor) B.pre
  have hown : s.vm.findClass RX1 = some m.cls := findClass_of_methodNamed B.named
  have hlocks := B.notSynchronized
  have hl := lv_entry ([.ref h1, .int x, .int y]) (n := 5) (Nat.le_of_ble_eq_true rfl)
  rw [lg_entry_eq]
  generalize (lg_sl ([.ref h1, .int x, .int y]) ++ List.replicate (5 - (lg_sl ([.ref h1, .int x, .int y])).length) Slot.unset).toArray = ls at hl ⊢
  have hl : lv_has ls 5 [(0, .ref h1), (1, .int x), (2, .int y)] := hl
  subst hsz
  have hD := hD0.self (sz := s.heap.size)
  generalize hAe : va_A (mW h1 cI cB cZ ad ar iv) s.heap.size = A at hD ⊢
  have hA : ∀ q : Nat, s.heap.size ≤ q → A q := fun q h => by rw [← hAe]; exact Or.inr h
  have hS : va_S A s.heap s.heap [] := va_S.rf
  have bd1 : ct_bd nc 1 (ct_an nc g a (ct_nt b)) := ct_an_b hok.wf ha2 (ct_nt_lt hb2)
  have bl1 : (ct_an nc g a (ct_nt b)).1 < 2 * (ct_an nc g a (ct_nt b)).2.1 := bd1.2.1
  have bg1 : nc ≤ (ct_an nc g a (ct_nt b)).2.1 := bd1.2.2.1
  have bh1 : (ct_an nc g a (ct_nt b)).2.1 ≤ nc + 1 := bd1.2.2.2
  have bd2 : ct_bd (ct_an nc g a (ct_nt b)).2.1 1 (ct_an (ct_an nc g a (ct_nt b)).2.1 (ct_an nc g a (ct_nt b)).2.2 (ct_nt a) b) := ct_an_b bd1.1 (ct_nt_lt (by omega)) (by omega)
  have bl2 : (ct_an (ct_an nc g a (ct_nt b)).2.1 (ct_an nc g a (ct_nt b)).2.2 (ct_nt a) b).1 < 2 * (ct_an (ct_an nc g a (ct_nt b)).2.1 (ct_an nc g a (ct_nt b)).2.2 (ct_nt a) b).2.1 := bd2.2.1
  have bg2 : (ct_an nc g a (ct_nt b)).2.1 ≤ (ct_an (ct_an nc g a (ct_nt b)).2.1 (ct_an nc g a (ct_nt b)).2.2 (ct_nt a) b).2.1 := bd2.2.2.1
  have bh2 : (ct_an (ct_an nc g a (ct_nt b)).2.1 (ct_an nc g a (ct_nt b)).2.2 (ct_nt a) b).2.1 ≤ (ct_an nc g a (ct_nt b)).2.1 + 1 := bd2.2.2.2
  have bd3 : ct_bd (ct_an (ct_an nc g a (ct_nt b)).2.1 (ct_an nc g a (ct_nt b)).2.2 (ct_nt a) b).2.1 1 (ct_or (ct_an (ct_an nc g a (ct_nt b)).2.1 (ct_an nc g a (ct_nt b)).2.2 (ct_nt a) b).2.1 (ct_an (ct_an nc g a (ct_nt b)).2.1 (ct_an nc g a (ct_nt b)).2.2 (ct_nt a) b).2.2 (ct_an nc g a (ct_nt b)).1 (ct_an (ct_an nc g a (ct_nt b)).2.1 (ct_an nc g a (ct_nt b)).2.2 (ct_nt a) b).1) := ct_or_b bd2.1 (by omega) (by omega)
  have bl3 : (ct_or (ct_an (ct_an nc g a (ct_nt b)).2.1 (ct_an nc g a (ct_nt b)).2.2 (ct_nt a) b).2.1 (ct_an (ct_an nc g a (ct_nt b)).2.1 (ct_an nc g a (ct_nt b)).2.2 (ct_nt a) b).2.2 (ct_an nc g a (ct_nt b)).1 (ct_an (ct_an nc g a (ct_nt b)).2.1 (ct_an nc g a (ct_nt b)).2.2 (ct_nt a) b).1).1 < 2 * (ct_or (ct_an (ct_an nc g a (ct_nt b)).2.1 (ct_an nc g a (ct_nt b)).2.2 (ct_nt a) b).2.1 (ct_an (ct_an nc g a (ct_nt b)).2.1 (ct_an nc g a (ct_nt b)).2.2 (ct_nt a) b).2.2 (ct_an nc g a (ct_nt b)).1 (ct_an (ct_an nc g a (ct_nt b)).2.1 (ct_an nc g a (ct_nt b)).2.2 (ct_nt a) b).1).2.1 := bd3.2.1
  have bg3 : (ct_an (ct_an nc g a (ct_nt b)).2.1 (ct_an nc g a (ct_nt b)).2.2 (ct_nt a) b).2.1 ≤ (ct_or (ct_an (ct_an nc g a (ct_nt b)).2.1 (ct_an nc g a (ct_nt b)).2.2 (ct_nt a) b).2.1 (ct_an (ct_an nc g a (ct_nt b)).2.1 (ct_an nc g a (ct_nt b)).2.2 (ct_nt a) b).2.2 (ct_an nc g a (ct_nt b)).1 (ct_an (ct_an nc g a (ct_nt b)).2.1 (ct_an nc g a (ct_nt b)).2.2 (ct_nt a) b).1).2.1 := bd3.2.2.1
  have bh3 : (ct_or (ct_an (ct_an nc g a (ct_nt b)).2.1 (ct_an nc g a (ct_nt b)).2.2 (ct_nt a) b).2.1 (ct_an (ct_an nc g a (ct_nt b)).2.1 (ct_an nc g a (ct_nt b)).2.2 (ct_nt a) b).2.2 (ct_an nc g a (ct_nt b)).1 (ct_an (ct_an nc g a (ct_nt b)).2.1 (ct_an nc g a (ct_nt b)).2.2 (ct_nt a) b).1).2.1 ≤ (ct_an (ct_an nc g a (ct_nt b)).2.1 (ct_an nc g a (ct_nt b)).2.2 (ct_nt a) b).2.1 + 1 := bd3.2.2.2
  refine lv_aload_n hx hb dX1_xor_0 rfl (lv_at hl 0 rfl) ?_
  refine lv_iload_n hx hb dX1_xor_1 rfl (lv_at hl 1 rfl) ?_
  refine lv_iload_n hx hb dX1_xor_2 rfl (lv_at hl 2 rfl) ?_
  refine lv_iconst (v := 1) hx hb dX1_xor_3 (by decide) ?_
  refine lv_ixor hx hb dX1_xor_4 ?_
  refine lv_topi (fun v4 e4 => ?_)
  have hFc := va_free (wc := (mW h1 cI cB cZ ad ar iv)) hD hS hA [0, 1, 2, 3, 4, 5] rfl
  refine va_calli (va_runV (As := [.int x, .int v4]) (rest := []) ⟨hx, hb, hml, hown, hts⟩ (m_make l D h1 cI cB cZ ad ar iv s.heap.size x v4 a (ct_nt b) nc ic g bv hx0 (by rw [e4, hy0]; exact ct_nIxor b) ha2 (ct_nt_lt hb2) hok hcode (by omega)) (cwV 2 hts gX1_xor_X1_make rfl rfl rfl (by decide +kernel) ⟨Nat.le_of_ble_eq_true rfl, Nat.le_of_ble_eq_true rfl⟩) (mP_V hK hP hD (va_recv hK hP (ci := 1) (q0 := 0) rfl rfl)) rfl rfl hl.1 rfl (lv_room (Nat.le_of_ble_eq_true rfl)) dX1_xor_5 ⟨Nat.zero_le _, Nat.zero_le _⟩) hS (fun q _ h => hFc q h) hFc (fun r5 u t H1 locs ht hvm e5 hB hz1 hk1 hS => ?_)
  obtain ⟨ar5, iv5⟩ := u
  obtain ⟨hP1, hK1, hD1⟩ := hB
  rw [ht] at hP1
  have hK := va_K.moved hvm.symm hK1
  have hP : va_P D vwCl (mW h1 cI cB cZ ad ar5 iv5) H1 := hP1
  have hD : va_D A (mW h1 cI cB cZ ad ar5 iv5) := hD1.weaken (fun k q _ h => hFc q.1 h)
  clear hP1 hK1 hD1 hk1 hz1 hFc ht
  generalize H1 = H at hP hS ⊢
  try dsimp only at e5
  refine lv_istore_n (lv' := [(3, .int r5), (0, .ref h1), (1, .int x), (2, .int y)]) hx hb dX1_xor_8 rfl hl (by decide) rfl (fun ls hl => ?_)
  refine lv_aload_n hx hb dX1_xor_9 rfl (lv_at hl 1 rfl) ?_
  refine lv_iload_n hx hb dX1_xor_10 rfl (lv_at hl 2 rfl) ?_
  refine lv_iconst (v := 1) hx hb dX1_xor_11 (by decide) ?_
  refine lv_ixor hx hb dX1_xor_12 ?_
  refine lv_topi (fun v12 e12 => ?_)
  refine lv_iload_n hx hb dX1_xor_13 rfl (lv_at hl 3 rfl) ?_
  have hFc := va_free (wc := (mW h1 cI cB cZ ad ar5 iv5)) hD hS hA [0, 1, 2, 3, 4, 5] rfl
  refine va_calli (va_runV (As := [.int v12, .int y]) (rest := []) ⟨hx, hb, hml, hown, hts⟩ (m_make l D h1 cI cB cZ ad ar5 iv5 H.size v12 y (ct_nt a) b (ct_an nc g a (ct_nt b)).2.1 ic (ct_an nc g a (ct_nt b)).2.2 bv (by rw [e12, hx0]; exact ct_nIxor a) hy0 (ct_nt_lt (by omega)) (by omega) e5.2.2 e5.2.1 (by omega)) (cwV 2 hts gX1_xor_X1_make rfl rfl rfl (by decide +kernel) ⟨Nat.le_of_ble_eq_true rfl, Nat.le_of_ble_eq_true rfl⟩) (mP_V hK hP hD (va_recv hK hP (ci := 1) (q0 := 0) rfl rfl)) rfl rfl hl.1 rfl (lv_room (Nat.le_of_ble_eq_true rfl)) dX1_xor_14 ⟨Nat.zero_le _, Nat.zero_le _⟩) hS (fun q _ h => hFc q h) hFc (fun r14 u t H1 locs ht hvm e14 hB hz1 hk1 hS => ?_)
  obtain ⟨ar14, iv14⟩ := u
  obtain ⟨hP1, hK1, hD1⟩ := hB
  rw [ht] at hP1
  have hK := va_K.moved hvm.symm hK1
  have hP : va_P D vwCl (mW h1 cI cB cZ ad ar14 iv14) H1 := hP1
  have hD : va_D A (mW h1 cI cB cZ ad ar14 iv14) := hD1.weaken (fun k q _ h => hFc q.1 h)
  clear hP1 hK1 hD1 hk1 hz1 hFc ht
  generalize H1 = H at hP hS ⊢
  try dsimp only at e14
  refine lv_istore (lv' := [(4, .int r14), (3, .int r5), (0, .ref h1), (1, .int x), (2, .int y)]) hx hb dX1_xor_17 hl (by decide) rfl (fun ls hl => ?_)
  refine lv_aload_n hx hb dX1_xor_19 rfl (lv_at hl 2 rfl) ?_
  refine lv_iload_n hx hb dX1_xor_20 rfl (lv_at hl 1 rfl) ?_
  refine lv_iload hx hb dX1_xor_21 (lv_at hl 0 rfl) ?_
  have hFc := va_free (wc := (mW h1 cI cB cZ ad ar14 iv14)) hD hS hA [0, 1, 2, 3, 4, 5] rfl
  refine va_calli (va_runV (As := [.int r5, .int r14]) (rest := []) ⟨hx, hb, hml, hown, hts⟩ (m_or l D h1 cI cB cZ ad ar14 iv14 H.size r5 r14 (ct_an nc g a (ct_nt b)).1 (ct_an (ct_an nc g a (ct_nt b)).2.1 (ct_an nc g a (ct_nt b)).2.2 (ct_nt a) b).1 (ct_an (ct_an nc g a (ct_nt b)).2.1 (ct_an nc g a (ct_nt b)).2.2 (ct_nt a) b).2.1 ic (ct_an (ct_an nc g a (ct_nt b)).2.1 (ct_an nc g a (ct_nt b)).2.2 (ct_nt a) b).2.2 bv e5.1 e14.1 (by omega) (by omega) e14.2.2 e14.2.1 (by omega)) (cwV 2 hts gX1_xor_X1_or rfl rfl rfl (by decide +kernel) ⟨Nat.le_of_ble_eq_true rfl, Nat.le_of_ble_eq_true rfl⟩) (mP_V hK hP hD (va_recv hK hP (ci := 1) (q0 := 0) rfl rfl)) rfl rfl hl.1 rfl (lv_room (Nat.le_of_ble_eq_true rfl)) dX1_xor_23 ⟨Nat.zero_le _, Nat.zero_le _⟩) hS (fun q _ h => hFc q h) hFc (fun r23 u t H1 locs ht hvm e23 hB hz1 hk1 hS => ?_)
  obtain ⟨ar23, iv23⟩ := u
  obtain ⟨hP1, hK1, hD1⟩ := hB
  rw [ht] at hP1
  have hK := va_K.moved hvm.symm hK1
  have hP : va_P D vwCl (mW h1 cI cB cZ ad ar23 iv23) H1 := hP1
  have hD : va_D A (mW h1 cI cB cZ ad ar23 iv23) := hD1.weaken (fun k q _ h => hFc q.1 h)
  clear hP1 hK1 hD1 hk1 hz1 hFc ht
  generalize H1 = H at hP hS ⊢
  try dsimp only at e23
  exact W.iret (v := r23) hx hb hr (fun t ht hW => ⟨⟨r23, (ar23, iv23), rfl, e23, by rw [ht]; exact hP, va_K.moved hW.alike hK, hD⟩, hS.F ht⟩) hS.2.2 dX1_xor_26
