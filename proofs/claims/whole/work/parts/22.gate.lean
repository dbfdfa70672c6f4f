set_option maxHeartbeats 4000000 in
set_option maxRecDepth 100000 in
/-- gateOf -/
theorem c_gateOf (l : Launch) (D : va_G) (h0 : Nat) (cI : ClassId) (n : Nat) (ad : Nat → Nat) (ar : Nat → Nat → Int32) (iv : Nat → Int32) (sz : Nat) (x : Int32) (y : Int32) (lo hi : Nat) (nc ic : Nat) (g : Ct) (bv : Nat → Bool) (hx0 : x = nI lo) (hy0 : y = nI hi) (hok : gb_ok n nc ic g bv ar iv) (hlo : 2 ≤ lo) (hlh : lo / 2 < hi / 2) (hhi : hi < 2 * nc) (hmx : nc < 20000) : Met l yX0_gateOf wsX0_gateOf ({ frames := 4, cells := gb_cap n (ct_gt nc g lo hi).2.1 - n, slots := 16 * (gb_cap n (ct_gt nc g lo hi).2.1 - n), locals := 106 }) (mP D (gW h0 cI n ad ar iv) [(cI, .int)] sz [.ref h0, .int x, .int y]) (va_Qi (fun (r : Int32) (u : GS) => gb_po n ic bv (ct_gt nc g lo hi) r u) (gb_at D cI (va_A (gW h0 cI n ad ar iv) sz) h0) (va_A (gW h0 cI n ad ar iv) sz)) (gb_cap n (ct_gt nc g lo hi).2.1 - n) (16 * (gb_cap n (ct_gt nc g lo hi).2.1 - n)) (va_A (gW h0 cI n ad ar iv) sz) := by
  refine Met.ofW (cc := cX0_gateOf) (maxL := 5) (ret := (some .int)) (by decide) rfl ?_
  intro p e s m args below meth c s₁ B hml hv
  obtain ⟨rfl, hsz, hP, hK, hD0⟩ := hv
  have hx := B.exec
  have hb := B.bytes
  have hr := B.returns
  have hts := atoms_spec (ws := wsX0_gateOf) B.pre
  have hown : s.vm.findClass RX0 = some m.cls := findClass_of_methodNamed B.named
  have hlocks := B.notSynchronized
  have hl := lv_entry ([.ref h0, .int x, .int y]) (n := 5) (Nat.le_of_ble_eq_true rfl)
  rw [lg_entry_eq]
  generalize (lg_sl ([.ref h0, .int x, .int y]) ++ List.replicate (5 - (lg_sl ([.ref h0, .int x, .int y])).length) Slot.unset).toArray = ls at hl ⊢
  have hl : lv_has ls 5 [(0, .ref h0), (1, .int x), (2, .int y)] := hl
  subst hsz
  have hD := hD0.self (sz := s.heap.size)
  generalize hAe : va_A (gW h0 cI n ad ar iv) s.heap.size = A at hD ⊢
  have hA : ∀ q : Nat, s.heap.size ≤ q → A q := fun q h => by rw [← hAe]; exact Or.inr h
  have hS : va_S A s.heap s.heap [] := va_S.rf
  have hnc := hok.nc
  have hct := hok.ct
  have hwf := hct.2.2.2.1
  have h16 := hok.n16
  have hle := hct.2.1
  have hb9 := hct.2.2.1
  refine lv_aload_n hx hb dX0_gateOf_0 rfl (lv_at hl 0 rfl) ?_
  refine va_get (D := D) (ci := 0) (v := .ref (ad 6)) (C := RX0) (T := TX0) (N := 11) hx hb hts inX0 hown hK hP 0 rfl rfl 6 (by decide) (hts _ (mG wm_59)) (fun _ h9 => h9) rfl dX0_gateOf_1 ?_
  refine lv_iload_n hx hb dX0_gateOf_4 rfl (lv_at hl 2 rfl) ?_
  refine lv_iconst (v := 1) hx hb dX0_gateOf_5 (by decide) ?_
  refine lv_ishr hx hb dX0_gateOf_6 ?_
  refine lv_topi (fun v6 e6 => ?_)
  have e6 : v6 = nI (hi / 2) := by rw [e6, hy0]; exact ct_shr (by omega)
  have hi7 : vp_in v6 n := by rw [e6]; exact vp_in_nI (by omega) (by omega)
  refine va_iald hx hb hK hP 7 0 rfl rfl hi7 dX0_gateOf_7 ?_
  refine lv_topi (fun v7 e7 => ?_)
  have e7 : v7 = nI (ct_nw g nc (hi / 2)) := by rw [e7, e6, nI_clamp (by omega)]; exact hok.nw (hi / 2) (by omega)
  refine lv_istore_n (lv' := [(3, .int v7), (0, .ref h0), (1, .int x), (2, .int y)]) hx hb dX0_gateOf_8 rfl hl (by decide) rfl (fun ls hl => ?_)
  refine lv_iconst (v := 0) hx hb dX0_gateOf_9 (by decide) ?_
  refine lv_istore (lv' := [(4, .int 0), (3, .int v7), (0, .ref h0), (1, .int x), (2, .int y)]) hx hb dX0_gateOf_10 hl (by decide) rfl (fun ls hl => ?_)
  have hloop : ∀ (k : Nat) (q : Nat) (t : Nat) (ls : Array Slot), q < k → (q < nc ∧ (q = 0 ∨ ∃ u v, g q = some (u, v) ∧ v / 2 = hi / 2) ∧ (∀ j, g j = some (lo, hi) → j ≤ q) ∧ q + t < nc) → lv_has ls 5 [(4, .int (nI t)), (3, .int (nI q)), (0, .ref h0), (1, .int x), (2, .int y)] → W p l e (headSpec wsX0_gateOf ({ frames := 4, cells := gb_cap n (ct_gt nc g lo hi).2.1 - n, slots := 16 * (gb_cap n (ct_gt nc g lo hi).2.1 - n), locals := 106 })).room s m ([.ref h0, .int x, .int y] : List Value).toArray below meth c s.heap [] (0) (0) (MQ below (va_Qi (fun (r : Int32) (u : GS) => gb_po n ic bv (ct_gt nc g lo hi) r u) (gb_at D cI A h0) A) ([.ref h0, .int x, .int y] : List Value).toArray s (gb_cap n (ct_gt nc g lo hi).2.1 - n) (16 * (gb_cap n (ct_gt nc g lo hi).2.1 - n)) A) (F0 m 12 ls []) := by
    intro k
    induction k with
    | zero => intro q t ls h; omega
    | succ k ih =>
      intro q t ls hqk hinv hl
      obtain ⟨i1, i2, i3, i4⟩ := hinv
      refine lv_iload hx hb dX0_gateOf_12 (lv_at hl 0 rfl) ?_
      refine lv_aload_n hx hb dX0_gateOf_14 rfl (lv_at hl 2 rfl) ?_
      refine va_get (D := D) (ci := 0) (v := .int (iv 0)) (C := RX0) (T := TX0) (N := 11) hx hb hts inX0 hown hK hP 0 rfl rfl 8 (by decide) (hts _ (mG wm_61)) (fun _ h9 => h9) rfl dX0_gateOf_15 ?_
      refine lv_icmp_ge (tgt := 62) hx hb dX0_gateOf_18 (by decide) (fun c18 => ?_) (fun c18 => ?_)
      · exact absurd c18 (by rw [hnc]; exact nI_ge (by omega) (by omega))
      · refine lv_iload_n hx hb dX0_gateOf_21 rfl (lv_at hl 1 rfl) ?_
        refine lv_if_eq (tgt := 62) hx hb dX0_gateOf_22 (by decide) (fun c22 => ?_) (fun c22 => ?_)
        · have c22 : q = 0 := (nI_eq (by omega) (by omega)).mp (by rw [nI_0]; exact c22)
          have hgt : ct_gt nc g lo hi = (2 * nc, nc + 1, va_up g nc (some (lo, hi))) := ct_gt_none (fun j hj => by
            have z1 := i3 j hj
            have z2 := hwf.1 j lo hi hj
            omega)
          have hcap : gb_cap n (ct_gt nc g lo hi).2.1 = gb_cap n (nc + 1) := by rw [hgt]
          have hnc65 := hnc
          have hmx65 := hmx
          have hle65 := hle
          have h1665 := h16
          have hb965 := hb9
          refine lv_aload_n hx hb dX0_gateOf_62 rfl (lv_at hl 2 rfl) ?_
          refine lv_iload_n hx hb dX0_gateOf_63 rfl (lv_at hl 3 rfl) ?_
          refine lv_iload_n hx hb dX0_gateOf_64 rfl (lv_at hl 4 rfl) ?_
          have hFc := va_free (wc := (gW h0 cI n ad ar iv)) hD hS hA [0, 1, 2, 3, 4, 5, 6, 7, 8] rfl
          refine va_calli (va_runV (As := [.int x, .int y]) (rest := []) ⟨hx, hb, hml, hown, hts⟩ (c_newNode l D h0 cI n ad ar iv s.heap.size x y nc hnc65 hmx65 hle65 h1665 hb965) (cwV 2 hts gX0_gateOf_X0_newNode rfl rfl rfl (by decide +kernel) ⟨Nat.le_of_ble_eq_true rfl, Nat.le_of_ble_eq_true rfl⟩) (mP_V hK hP hD (va_recv hK hP (ci := 0) (q0 := 0) rfl rfl)) rfl rfl hl.1 rfl (lv_room (Nat.le_of_ble_eq_true rfl)) dX0_gateOf_65 ⟨by show 0 + (gb_cap n (nc + 1) - n) ≤ gb_cap n (ct_gt nc g lo hi).2.1 - n; omega, by show 0 + 16 * (gb_cap n (nc + 1) - n) ≤ 16 * (gb_cap n (ct_gt nc g lo hi).2.1 - n); omega⟩) hS (fun q _ h => hFc q h) hFc (fun r65 u t H1 locs ht hvm e65 hB hz1 hk1 hS => ?_)
          obtain ⟨n65, ad65, ar65, iv65⟩ := u
          obtain ⟨hP1, hK1, hD1⟩ := hB
          rw [ht] at hP1
          have hK := va_K.moved hvm.symm hK1
          have hP : va_P D vwCl (gW h0 cI n65 ad65 ar65 iv65) H1 := hP1
          have hD : va_D A (gW h0 cI n65 ad65 ar65 iv65) := hD1.weaken (fun k q _ h => hFc q.1 h)
          clear hP1 hK1 hD1 hk1 hz1 hFc ht
          generalize H1 = H at hP hS ⊢
          try dsimp only at e65
          refine lv_istore (lv' := [(4, .int r65), (3, .int (nI q)), (0, .ref h0), (1, .int x), (2, .int y)]) hx hb dX0_gateOf_68 hl (by decide) rfl (fun ls hl => ?_)
          refine lv_aload_n hx hb dX0_gateOf_70 rfl (lv_at hl 2 rfl) ?_
          refine lv_iload hx hb dX0_gateOf_71 (lv_at hl 0 rfl) ?_
          refine lv_iload_n hx hb dX0_gateOf_73 rfl (lv_at hl 3 rfl) ?_
          refine lv_iconst (v := 1) hx hb dX0_gateOf_74 (by decide) ?_
          refine lv_ishr hx hb dX0_gateOf_75 ?_
          refine lv_topi (fun v75 e75 => ?_)
          have e75 : v75 = nI (lo / 2) := by rw [e75, hx0]; exact ct_shr (by omega)
          refine lv_iload_n hx hb dX0_gateOf_76 rfl (lv_at hl 4 rfl) ?_
          refine lv_iconst (v := 1) hx hb dX0_gateOf_77 (by decide) ?_
          refine lv_ishr hx hb dX0_gateOf_78 ?_
          refine lv_topi (fun v78 e78 => ?_)
          have e78 : v78 = nI (hi / 2) := by rw [e78, hy0]; exact ct_shr (by omega)
          have hcp := gb_cap_ge n (nc + 1) (by omega)
          have hcp2 := (gb_cap_n n (nc + 1)).2
          have hc79a : vp_in r65 n65 := by rw [e65.1, e65.2.1]; exact vp_in_nI (by omega) (by omega)
          have hc79b : vp_in v75 n65 := by rw [e75, e65.2.1]; exact vp_in_nI (by omega) (by omega)
          have hc79c : vp_in v78 n65 := by rw [e78, e65.2.1]; exact vp_in_nI (by omega) (by omega)
          have hFc := va_free (wc := (gW h0 cI n65 ad65 ar65 iv65)) hD hS hA [0, 1, 2, 3, 4, 5, 6, 7, 8] rfl
          refine va_callv (va_runV (As := [.int r65, .int v75, .int v78]) (rest := []) ⟨hx, hb, hml, hown, hts⟩ (c_enterGate l D h0 cI n65 ad65 ar65 iv65 H.size r65 v75 v78 hc79a hc79b hc79c) (cwV 3 hts gX0_gateOf_X0_enterGate rfl rfl rfl (by decide +kernel) ⟨Nat.le_of_ble_eq_true rfl, Nat.le_of_ble_eq_true rfl⟩) (mP_V hK hP hD (va_recv hK hP (ci := 0) (q0 := 0) rfl rfl)) rfl rfl hl.1 rfl (lv_room (Nat.le_of_ble_eq_true rfl)) dX0_gateOf_79 ⟨by show 0 + (gb_cap n (nc + 1) - n) + 0 ≤ gb_cap n (ct_gt nc g lo hi).2.1 - n; omega, by show 0 + 16 * (gb_cap n (nc + 1) - n) + 0 ≤ 16 * (gb_cap n (ct_gt nc g lo hi).2.1 - n); omega⟩) hS (fun q _ h => hFc q h) hFc (fun u t H1 locs ht hvm e79 hB hz1 hk1 hS => ?_)
          obtain ⟨n79, ad79, ar79, iv79⟩ := u
          obtain ⟨hP1, hK1, hD1⟩ := hB
          rw [ht] at hP1
          have hK := va_K.moved hvm.symm hK1
          have hP : va_P D vwCl (gW h0 cI n79 ad79 ar79 iv79) H1 := hP1
          have hD : va_D A (gW h0 cI n79 ad79 ar79 iv79) := hD1.weaken (fun k q _ h => hFc q.1 h)
          clear hP1 hK1 hD1 hk1 hz1 hFc ht
          generalize H1 = H at hP hS ⊢
          try dsimp only at e79
          rw [e65.1, e75, e78, nI_clamp (by omega), nI_clamp (by omega), nI_clamp (by omega)] at e79
          have hn79 : n79 = n65 := congrArg (fun z : GS => z.1) e79
          have hnew : gb_ok n79 (nc + 1) ic (va_up g nc (some (lo, hi))) bv ar79 iv79 := gb_ok_gate hok hx0 hy0 hlo hlh hhi hmx (fun j hj => by
            have z1 := i3 j hj
            have z2 := hwf.1 j lo hi hj
            omega) e65.2.1 e65.2.2.1 e65.2.2.2 e79
          refine lv_iload hx hb dX0_gateOf_82 (lv_at hl 0 rfl) ?_
          refine lv_iconst (v := 1) hx hb dX0_gateOf_84 (by decide) ?_
          refine lv_ishl hx hb dX0_gateOf_85 ?_
          refine lv_topi (fun v85 e85 => ?_)
          refine W.widen (k := gb_cap n (ct_gt nc g lo hi).2.1 - n) (n := 16 * (gb_cap n (ct_gt nc g lo hi).2.1 - n)) (by omega) (by omega) ?_
          exact W.iret (v := v85) hx hb hr (fun t ht hW => ⟨⟨v85, (n79, ad79, ar79, iv79), rfl, ⟨by rw [hgt, e85, e65.1]; exact ct_shl (by omega), by rw [hgt, hn79]; exact e65.2.1, by rw [hgt]; exact hnew⟩, by rw [ht]; exact hP, va_K.moved hW.alike hK, hD⟩, hS.F ht⟩) hS.2.2 dX0_gateOf_86
        · have c22 : q ≠ 0 := fun z => c22 (by rw [z]; exact nI_0)
          obtain ⟨u9, v9, i5, i6⟩ := i2.resolve_left c22
          have i7 := ct_at_f hct i5
          have i8 := ct_at_lt hct i5
          have hi30 : vp_in (nI q) n := vp_in_nI (by omega) (by omega)
          have hi40 := hi30
          have hi54 := hi30
          refine lv_aload_n hx hb dX0_gateOf_25 rfl (lv_at hl 2 rfl) ?_
          refine va_get (D := D) (ci := 0) (v := .ref (ad 0)) (C := RX0) (T := TX0) (N := 11) hx hb hts inX0 hown hK hP 0 rfl rfl 0 (by decide) (hts _ (mG wm_53)) (fun _ h9 => h9) rfl dX0_gateOf_26 ?_
          refine lv_iload_n hx hb dX0_gateOf_29 rfl (lv_at hl 1 rfl) ?_
          refine va_iald hx hb hK hP 1 0 rfl rfl hi30 dX0_gateOf_30 ?_
          refine lv_topi (fun v30 e30 => ?_)
          refine lv_iload_n hx hb dX0_gateOf_31 rfl (lv_at hl 3 rfl) ?_
          have e30 : v30 = nI u9 := by rw [e30, nI_clamp (by omega)]; exact i7.1
          refine lv_icmp_ne (tgt := 49) hx hb dX0_gateOf_32 (by decide) (fun c32 => ?_) (fun c32 => ?_)
          · have hne : g q ≠ some (lo, hi) := by
              intro z
              rw [i5] at z
              have z1 := congrArg Prod.fst (Option.some.inj z)
              have z2 := congrArg Prod.snd (Option.some.inj z)
              dsimp only at z1 z2
              exact c32 (by rw [e30, z1, hx0])
            refine lv_aload_n hx hb dX0_gateOf_49 rfl (lv_at hl 2 rfl) ?_
            refine va_get (D := D) (ci := 0) (v := .ref (ad 7)) (C := RX0) (T := TX0) (N := 11) hx hb hts inX0 hown hK hP 0 rfl rfl 7 (by decide) (hts _ (mG wm_60)) (fun _ h9 => h9) rfl dX0_gateOf_50 ?_
            refine lv_iload_n hx hb dX0_gateOf_53 rfl (lv_at hl 1 rfl) ?_
            refine va_iald hx hb hK hP 8 0 rfl rfl hi54 dX0_gateOf_54 ?_
            refine lv_topi (fun v54 e54 => ?_)
            have e54 : v54 = nI (ct_nw g q (hi / 2)) := by rw [e54, nI_clamp (by omega), ← i6]; exact hok.nx q u9 v9 i5
            refine lv_istore_n (lv' := [(3, .int v54), (4, .int (nI t)), (0, .ref h0), (1, .int x), (2, .int y)]) hx hb dX0_gateOf_55 rfl hl (by decide) rfl (fun ls hl => ?_)
            obtain ⟨v56, e56⟩ : ∃ y : Int32, y = (nI t) + 1 := ⟨_, rfl⟩
            refine lv_iinc (v := v56) (lv' := [(4, .int v56), (3, .int v54), (0, .ref h0), (1, .int x), (2, .int y)]) hx hb dX0_gateOf_56 hl (k := 1) rfl (by rw [e56]; rfl) (by decide) rfl (fun ls hl => ?_)
            refine lv_goto (tgt := 12) hx hb dX0_gateOf_59 (by decide) ?_
            have hq1 := ct_nw_lt (g := g) q (hi / 2)
            have hq0 := ct_nw_is hwf q (hi / 2)
            exact ih (ct_nw g q (hi / 2)) (t + 1) ls (by omega) ⟨by omega, (Decidable.em (ct_nw g q (hi / 2) = 0)).elim Or.inl (fun z => Or.inr (hq0.2 z)), fun j hj => (Decidable.em (j = q)).elim (fun z => absurd (z ▸ hj) hne) (fun z => hq0.1 j lo hi (by have := i3 j hj; omega) hj rfl), by omega⟩ (by rw [← nI_1, ← e54]; rw [e56] at hl; exact hl)
          · refine lv_aload_n hx hb dX0_gateOf_35 rfl (lv_at hl 2 rfl) ?_
            refine va_get (D := D) (ci := 0) (v := .ref (ad 1)) (C := RX0) (T := TX0) (N := 11) hx hb hts inX0 hown hK hP 0 rfl rfl 1 (by decide) (hts _ (mG wm_54)) (fun _ h9 => h9) rfl dX0_gateOf_36 ?_
            refine lv_iload_n hx hb dX0_gateOf_39 rfl (lv_at hl 1 rfl) ?_
            refine va_iald hx hb hK hP 2 0 rfl rfl hi40 dX0_gateOf_40 ?_
            refine lv_topi (fun v40 e40 => ?_)
            refine lv_iload_n hx hb dX0_gateOf_41 rfl (lv_at hl 4 rfl) ?_
            have e40 : v40 = nI v9 := by rw [e40, nI_clamp (by omega)]; exact i7.2
            refine lv_icmp_ne (tgt := 49) hx hb dX0_gateOf_42 (by decide) (fun c42 => ?_) (fun c42 => ?_)
            · have hne : g q ≠ some (lo, hi) := by
                intro z
                rw [i5] at z
                have z1 := congrArg Prod.fst (Option.some.inj z)
                have z2 := congrArg Prod.snd (Option.some.inj z)
                dsimp only at z1 z2
                exact c42 (by rw [e40, z2, hy0])
              refine lv_aload_n hx hb dX0_gateOf_49 rfl (lv_at hl 2 rfl) ?_
              refine va_get (D := D) (ci := 0) (v := .ref (ad 7)) (C := RX0) (T := TX0) (N := 11) hx hb hts inX0 hown hK hP 0 rfl rfl 7 (by decide) (hts _ (mG wm_60)) (fun _ h9 => h9) rfl dX0_gateOf_50 ?_
              refine lv_iload_n hx hb dX0_gateOf_53 rfl (lv_at hl 1 rfl) ?_
              refine va_iald hx hb hK hP 8 0 rfl rfl hi54 dX0_gateOf_54 ?_
              refine lv_topi (fun v54 e54 => ?_)
              have e54 : v54 = nI (ct_nw g q (hi / 2)) := by rw [e54, nI_clamp (by omega), ← i6]; exact hok.nx q u9 v9 i5
              refine lv_istore_n (lv' := [(3, .int v54), (4, .int (nI t)), (0, .ref h0), (1, .int x), (2, .int y)]) hx hb dX0_gateOf_55 rfl hl (by decide) rfl (fun ls hl => ?_)
              obtain ⟨v56, e56⟩ : ∃ y : Int32, y = (nI t) + 1 := ⟨_, rfl⟩
              refine lv_iinc (v := v56) (lv' := [(4, .int v56), (3, .int v54), (0, .ref h0), (1, .int x), (2, .int y)]) hx hb dX0_gateOf_56 hl (k := 1) rfl (by rw [e56]; rfl) (by decide) rfl (fun ls hl => ?_)
              refine lv_goto (tgt := 12) hx hb dX0_gateOf_59 (by decide) ?_
              have hq1 := ct_nw_lt (g := g) q (hi / 2)
              have hq0 := ct_nw_is hwf q (hi / 2)
              exact ih (ct_nw g q (hi / 2)) (t + 1) ls (by omega) ⟨by omega, (Decidable.em (ct_nw g q (hi / 2) = 0)).elim Or.inl (fun z => Or.inr (hq0.2 z)), fun j hj => (Decidable.em (j = q)).elim (fun z => absurd (z ▸ hj) hne) (fun z => hq0.1 j lo hi (by have := i3 j hj; omega) hj rfl), by omega⟩ (by rw [← nI_1, ← e54]; rw [e56] at hl; exact hl)
            · have c32 : u9 = lo := (nI_eq (by omega) (by omega)).mp (by rw [← e30, c32, hx0])
              have c42 : v9 = hi := (nI_eq (by omega) (by omega)).mp (by rw [← e40, c42, hy0])
              have hgt : ct_gt nc g lo hi = (2 * q, nc, g) := ct_gt_some hwf (by rw [i5, c32, c42])
              refine lv_iload_n hx hb dX0_gateOf_45 rfl (lv_at hl 1 rfl) ?_
              refine lv_iconst (v := 1) hx hb dX0_gateOf_46 (by decide) ?_
              refine lv_ishl hx hb dX0_gateOf_47 ?_
              refine lv_topi (fun v47 e47 => ?_)
              refine W.widen (k := gb_cap n (ct_gt nc g lo hi).2.1 - n) (n := 16 * (gb_cap n (ct_gt nc g lo hi).2.1 - n)) (by omega) (by omega) ?_
              exact W.iret (v := v47) hx hb hr (fun t ht hW => ⟨⟨v47, (n, ad, ar, iv), rfl, ⟨by rw [hgt, e47]; exact ct_shl (by omega), by rw [hgt]; exact (gb_cap_le (by omega)).symm, by rw [hgt]; exact hok⟩, by rw [ht]; exact hP, va_K.moved hW.alike hK, hD⟩, hS.F ht⟩) hS.2.2 dX0_gateOf_48
  have hq0 := ct_nw_is hwf nc (hi / 2)
  have hq1 := ct_nw_lt (g := g) nc (hi / 2)
  have hn1 := hct.1
  exact hloop (ct_nw g nc (hi / 2) + 1) (ct_nw g nc (hi / 2)) 0 ls (by omega) ⟨by omega, (Decidable.em (ct_nw g nc (hi / 2) = 0)).elim Or.inl (fun q => Or.inr (hq0.2 q)), fun j hj => hq0.1 j lo hi (hwf.1 j lo hi hj).1 hj rfl, by omega⟩ (by rw [nI_0, ← e7]; exact hl)
set_option maxHeartbeats 4000000 in
set_option maxRecDepth 100000 in
/-- andOf -/
theorem c_andOf (l : Launch) (D : va_G) (h0 : Nat) (cI : ClassId) (n : Nat) (ad : Nat → Nat) (ar : Nat → Nat → Int32) (iv : Nat → Int32) (sz : Nat) (x : Int32) (y : Int32) (a b : Nat) (nc ic : Nat) (g : Ct) (bv : Nat → Bool) (hx0 : x = nI a) (hy0 : y = nI b) (ha2 : a < 2 * nc) (hb2 : b < 2 * nc) (hok : gb_ok n nc ic g bv ar iv) (hmx : nc < 20000) : Met l yX0_andOf wsX0_andOf ({ frames := 5, cells := gb_cap n (ct_an nc g a b).2.1 - n, slots := 16 * (gb_cap n (ct_an nc g a b).2.1 - n), locals := 130 }) (mP D (gW h0 cI n ad ar iv) [(cI, .int)] sz [.ref h0, .int x, .int y]) (va_Qi (fun (r : Int32) (u : GS) => gb_po n ic bv (ct_an nc g a b) r u) (gb_at D cI (va_A (gW h0 cI n ad ar iv) sz) h0) (va_A (gW h0 cI n ad ar iv) sz)) (gb_cap n (ct_an nc g a b).2.1 - n) (16 * (gb_cap n (ct_an nc g a b).2.1 - n)) (va_A (gW h0 cI n ad ar iv) sz) := by
  refine Met.ofW (cc := cX0_andOf) (maxL := 8) (ret := (some .int)) (by decide) rfl ?_
  intro p e s m args below meth c s₁ B hml hv
  obtain ⟨rfl, hsz, hP, hK, hD0⟩ := hv
  have hx := B.exec
  have hb := B.bytes
  have hr := B.returns
  have hts := atoms_spec (ws := wsX0_andOf) B.pre
  have hown : s.vm.findClass RX0 = some m.cls := findClass_of_methodNamed B.named
  have hlocks := B.notSynchronized
  have hl := lv_entry ([.ref h0, .int x, .int y]) (n := 8) (Nat.le_of_ble_eq_true rfl)
  rw [lg_entry_eq]
  generalize (lg_sl ([.ref h0, .int x, .int y]) ++ List.replicate (8 - (lg_sl ([.ref h0, .int x, .int y])).length) Slot.unset).toArray = ls at hl ⊢
  have hl : lv_has ls 8 [(0, .ref h0), (1, .int x), (2, .int y)] := hl
  subst hsz
  have hD := hD0.self (sz := s.heap.size)
  generalize hAe : va_A (gW h0 cI n ad ar iv) s.heap.size = A at hD ⊢
  have hA : ∀ q : Nat, s.heap.size ≤ q → A q := fun q h => by rw [← hAe]; exact Or.inr h
  have hS : va_S A s.heap s.heap [] := va_S.rf
  have hnc := hok.nc
  have hct := hok.ct
  have hwf := hct.2.2.2.1
  have hle := hct.2.1
  have hb9 := hct.2.2.1
  have hmab : max a b < 2 * nc := Nat.max_lt.mpr ⟨ha2, hb2⟩
  refine lv_iload_n hx hb dX0_andOf_0 rfl (lv_at hl 1 rfl) ?_
  refine lv_iload_n hx hb dX0_andOf_1 rfl (lv_at hl 2 rfl) ?_
  refine va_mmin hx hb (by rw [hml]; exact hl.1.symm) hown (hts _ (mG wm_227)) (hts _ (mG wm_190)) (hts _ (mG wm_42)) (hts _ (mG wm_191)) (Nat.le_of_ble_eq_true rfl) (Nat.le_of_ble_eq_true rfl) (Nat.zero_le _) (Nat.zero_le _) dX0_andOf_2 ?_
  refine lv_topi (fun v2 e2 => ?_)
  have e2 : v2 = nI (min a b) := by rw [e2, hx0, hy0]; exact ct_imin (by omega) (by omega)
  refine lv_istore_n (lv' := [(3, .int v2), (0, .ref h0), (1, .int x), (2, .int y)]) hx hb dX0_andOf_5 rfl hl (by decide) rfl (fun ls hl => ?_)
  refine lv_iload_n hx hb dX0_andOf_6 rfl (lv_at hl 2 rfl) ?_
  refine lv_iload_n hx hb dX0_andOf_7 rfl (lv_at hl 3 rfl) ?_
  refine va_mmax hx hb (by rw [hml]; exact hl.1.symm) hown (hts _ (mG wm_228)) (hts _ (mG wm_229)) (hts _ (mG wm_42)) (hts _ (mG wm_230)) (Nat.le_of_ble_eq_true rfl) (Nat.le_of_ble_eq_true rfl) (Nat.zero_le _) (Nat.zero_le _) dX0_andOf_8 ?_
  refine lv_topi (fun v8 e8 => ?_)
  have e8 : v8 = nI (max a b) := by rw [e8, hx0, hy0]; exact ct_imax (by omega) (by omega)
  refine lv_istore (lv' := [(4, .int v8), (3, .int v2), (0, .ref h0), (1, .int x), (2, .int y)]) hx hb dX0_andOf_11 hl (by decide) rfl (fun ls hl => ?_)
  refine lv_iconst (v := 0) hx hb dX0_andOf_13 (by decide) ?_
  refine lv_istore (lv' := [(5, .int 0), (4, .int v8), (3, .int v2), (0, .ref h0), (1, .int x), (2, .int y)]) hx hb dX0_andOf_14 hl (by decide) rfl (fun ls hl => ?_)
  have hloop : ∀ (k : Nat) (lo : Nat) (hi : Nat) (t : Nat) (ls : Array Slot), hi / 2 < k → (lo ≤ hi ∧ hi < 2 * nc ∧ t + hi / 2 < nc ∧ ct_rd g nc (min a b) (max a b) = ct_rd g (hi / 2 + 1) lo hi) → lv_has ls 8 [(5, .int (nI t)), (4, .int (nI hi)), (3, .int (nI lo)), (0, .ref h0), (1, .int x), (2, .int y)] → W p l e (headSpec wsX0_andOf ({ frames := 5, cells := gb_cap n (ct_an nc g a b).2.1 - n, slots := 16 * (gb_cap n (ct_an nc g a b).2.1 - n), locals := 130 })).room s m ([.ref h0, .int x, .int y] : List Value).toArray below meth c s.heap [] (0) (0) (MQ below (va_Qi (fun (r : Int32) (u : GS) => gb_po n ic bv (ct_an nc g a b) r u) (gb_at D cI A h0) A) ([.ref h0, .int x, .int y] : List Value).toArray s (gb_cap n (ct_an nc g a b).2.1 - n) (16 * (gb_cap n (ct_an nc g a b).2.1 - n)) A) (F0 m 16 ls []) := by
    intro k
    induction k with
    | zero => intro lo hi t ls h; omega
    | succ k ih =>
      intro lo hi t ls hqk hinv hl
      obtain ⟨i1, i2, i3, i4⟩ := hinv
      refine lv_iload hx hb dX0_andOf_16 (lv_at hl 0 rfl) ?_
      refine lv_aload_n hx hb dX0_andOf_18 rfl (lv_at hl 3 rfl) ?_
      refine va_get (D := D) (ci := 0) (v := .int (iv 0)) (C := RX0) (T := TX0) (N := 11) hx hb hts inX0 hown hK hP 0 rfl rfl 8 (by decide) (hts _ (mG wm_61)) (fun _ h9 => h9) rfl dX0_andOf_19 ?_
      refine lv_icmp_ge (tgt := 87) hx hb dX0_andOf_22 (by decide) (fun c22 => ?_) (fun c22 => ?_)
      · exact absurd c22 (by rw [hnc]; exact nI_ge (by omega) (by omega))
      · refine lv_aload_n hx hb dX0_andOf_25 rfl (lv_at hl 3 rfl) ?_
        refine lv_iload_n hx hb dX0_andOf_26 rfl (lv_at hl 2 rfl) ?_
        refine lv_iload hx hb dX0_andOf_27 (lv_at hl 1 rfl) ?_
        have hc29a : vp_in (gb_sh (nI lo)) n := by rw [gb_sh_n (by omega)]; exact vp_in_nI (by omega) (by omega)
        have hc29b : vp_in (gb_sh (nI hi)) n := by rw [gb_sh_n (by omega)]; exact vp_in_nI (by omega) (by omega)
        have hc47 := hc29b
        refine vp_callSi (W.runV (As := [.int (nI lo), .int (nI hi)]) (rest := []) ⟨hx, hb, hml, hown, hts⟩ (c_knownAnd l D h0 cI n ad ar iv (nI lo) (nI hi) hc29a hc29b) (cwV 2 hts gX0_andOf_X0_knownAnd rfl rfl rfl (by decide +kernel) ⟨Nat.le_of_ble_eq_true rfl, Nat.le_of_ble_eq_true rfl⟩) (rP_V hK hP (va_recv hK hP (ci := 0) (q0 := 0) rfl rfl)) rfl rfl hl.1 rfl (lv_room (Nat.le_of_ble_eq_true rfl)) dX0_andOf_29 ⟨Nat.zero_le _, Nat.zero_le _⟩) (fun r29 e29 => ?_)
        have e29 : r29 = ct_i (ct_kn g lo hi) := by rw [e29]; exact gb_kn_n hct i1 i2
        refine lv_istore (lv' := [(6, .int r29), (5, .int (nI t)), (4, .int (nI hi)), (3, .int (nI lo)), (0, .ref h0), (1, .int x), (2, .int y)]) hx hb dX0_andOf_32 hl (by decide) rfl (fun ls hl => ?_)
        refine lv_iload hx hb dX0_andOf_34 (lv_at hl 0 rfl) ?_
        refine lv_iconst (v := -1) hx hb dX0_andOf_36 (by decide) ?_
        refine lv_icmp_eq (tgt := 43) hx hb dX0_andOf_37 (by decide) (fun c37 => ?_) (fun c37 => ?_)
        · have c37 : ct_kn g lo hi = none := by
            cases h : ct_kn g lo hi with
            | none => rfl
            | some v =>
              have h9 := ct_kn_le h i1
              rw [e29, h] at c37
              exact absurd c37 (ct_m1 (by omega))
          refine lv_aload_n hx hb dX0_andOf_43 rfl (lv_at hl 4 rfl) ?_
          refine lv_iload_n hx hb dX0_andOf_44 rfl (lv_at hl 3 rfl) ?_
          refine lv_iload hx hb dX0_andOf_45 (lv_at hl 2 rfl) ?_
          refine vp_callSi (W.runV (As := [.int (nI lo), .int (nI hi)]) (rest := []) ⟨hx, hb, hml, hown, hts⟩ (c_restOf l D h0 cI n ad ar iv (nI lo) (nI hi) hc47) (cwV 2 hts gX0_andOf_X0_restOf rfl rfl rfl (by decide +kernel) ⟨Nat.le_of_ble_eq_true rfl, Nat.le_of_ble_eq_true rfl⟩) (rP_V hK hP (va_recv hK hP (ci := 0) (q0 := 0) rfl rfl)) rfl rfl hl.1 rfl (lv_room (Nat.le_of_ble_eq_true rfl)) dX0_andOf_47 ⟨Nat.zero_le _, Nat.zero_le _⟩) (fun r47 e47 => ?_)
          have e47 : r47 = ct_i (ct_re g lo hi) := by rw [e47]; exact gb_re_n hct i1 i2
          refine lv_istore (lv' := [(7, .int r47), (6, .int r29), (5, .int (nI t)), (4, .int (nI hi)), (3, .int (nI lo)), (0, .ref h0), (1, .int x), (2, .int y)]) hx hb dX0_andOf_50 hl (by decide) rfl (fun ls hl => ?_)
          refine lv_iload hx hb dX0_andOf_52 (lv_at hl 0 rfl) ?_
          refine lv_iconst (v := -1) hx hb dX0_andOf_54 (by decide) ?_
          refine lv_icmp_ne (tgt := 66) hx hb dX0_andOf_55 (by decide) (fun c55 => ?_) (fun c55 => ?_)
          · obtain ⟨r9, hr9⟩ : ∃ v, ct_re g lo hi = some v := by
              cases h : ct_re g lo hi with
              | none => exact absurd (by rw [e47, h]; rfl) c55
              | some v => exact ⟨v, rfl⟩
            have e47 : r47 = nI r9 := by rw [e47, hr9]; rfl
            have h9 := ct_re_lt hwf hr9 i1
            refine lv_iload_n hx hb dX0_andOf_66 rfl (lv_at hl 4 rfl) ?_
            refine lv_iload hx hb dX0_andOf_67 (lv_at hl 0 rfl) ?_
            refine va_mmax hx hb (by rw [hml]; exact hl.1.symm) hown (hts _ (mG wm_228)) (hts _ (mG wm_229)) (hts _ (mG wm_42)) (hts _ (mG wm_230)) (Nat.le_of_ble_eq_true rfl) (Nat.le_of_ble_eq_true rfl) (Nat.zero_le _) (Nat.zero_le _) dX0_andOf_69 ?_
            refine lv_topi (fun v69 e69 => ?_)
            have e69 : v69 = nI (max lo r9) := by rw [e69, e47]; exact ct_imax (by omega) (by omega)
            refine lv_istore (lv' := [(4, .int v69), (7, .int r47), (6, .int r29), (5, .int (nI t)), (3, .int (nI lo)), (0, .ref h0), (1, .int x), (2, .int y)]) hx hb dX0_andOf_72 hl (by decide) rfl (fun ls hl => ?_)
            refine lv_iload_n hx hb dX0_andOf_74 rfl (lv_at hl 4 rfl) ?_
            refine lv_iload hx hb dX0_andOf_75 (lv_at hl 1 rfl) ?_
            refine va_mmin hx hb (by rw [hml]; exact hl.1.symm) hown (hts _ (mG wm_227)) (hts _ (mG wm_190)) (hts _ (mG wm_42)) (hts _ (mG wm_191)) (Nat.le_of_ble_eq_true rfl) (Nat.le_of_ble_eq_true rfl) (Nat.zero_le _) (Nat.zero_le _) dX0_andOf_77 ?_
            refine lv_topi (fun v77 e77 => ?_)
            have e77 : v77 = nI (min lo r9) := by rw [e77, e47]; exact ct_imin (by omega) (by omega)
            refine lv_istore_n (lv' := [(3, .int v77), (4, .int v69), (7, .int r47), (6, .int r29), (5, .int (nI t)), (0, .ref h0), (1, .int x), (2, .int y)]) hx hb dX0_andOf_80 rfl hl (by decide) rfl (fun ls hl => ?_)
            obtain ⟨v81, e81⟩ : ∃ y : Int32, y = (nI t) + 1 := ⟨_, rfl⟩
            refine lv_iinc (v := v81) (lv' := [(5, .int v81), (3, .int v77), (4, .int v69), (7, .int r47), (6, .int r29), (0, .ref h0), (1, .int x), (2, .int y)]) hx hb dX0_andOf_81 hl (k := 4) rfl (by rw [e81]; rfl) (by decide) rfl (fun ls hl => ?_)
            refine lv_goto (tgt := 16) hx hb dX0_andOf_84 (by decide) ?_
            have hfu : ct_rd g (hi / 2 + 1) lo hi = ct_rd g (max lo r9 / 2 + 1) (min lo r9) (max lo r9) := by
              rw [ct_rd, c37]
              dsimp only
              rw [hr9]
              exact ct_rd_fuel hwf _ _ _ _ h9.2.2.2.2.2 h9.2.2.2.1 (by omega)
            exact ih (min lo r9) (max lo r9) (t + 1) ls (by omega) ⟨h9.2.2.2.2.2, h9.2.2.2.2.1, by omega, i4.trans hfu⟩ (by rw [← nI_1, ← e69, ← e77, ← e81]; exact lv_sub hl [0, 2, 1, 5, 6, 7] rfl)
          · have c55 : ct_re g lo hi = none := by
              cases h : ct_re g lo hi with
              | none => rfl
              | some v =>
                have h9 := ct_re_lt hwf h i1
                rw [e47, h] at c55
                exact absurd c55 (ct_m1 (by omega))
            have hk9 := ct_kn_gap c37 i1
            have hR : ct_an nc g a b = ct_gt nc g lo hi := by
              unfold ct_an
              rw [i4, ct_rd, c37]
              dsimp only
              rw [c55]
            have hcap : gb_cap n (ct_an nc g a b).2.1 = gb_cap n (ct_gt nc g lo hi).2.1 := by rw [hR]
            refine lv_aload_n hx hb dX0_andOf_58 rfl (lv_at hl 5 rfl) ?_
            refine lv_iload_n hx hb dX0_andOf_59 rfl (lv_at hl 4 rfl) ?_
            refine lv_iload hx hb dX0_andOf_60 (lv_at hl 3 rfl) ?_
            have hFc := va_free (wc := (gW h0 cI n ad ar iv)) hD hS hA [0, 1, 2, 3, 4, 5, 6, 7, 8] rfl
            refine va_calli (va_runV (As := [.int (nI lo), .int (nI hi)]) (rest := []) ⟨hx, hb, hml, hown, hts⟩ (c_gateOf l D h0 cI n ad ar iv s.heap.size (nI lo) (nI hi) lo hi nc ic g bv rfl rfl hok hk9.1 hk9.2 i2 hmx) (cwV 2 hts gX0_andOf_X0_gateOf rfl rfl rfl (by decide +kernel) ⟨Nat.le_of_ble_eq_true rfl, Nat.le_of_ble_eq_true rfl⟩) (mP_V hK hP hD (va_recv hK hP (ci := 0) (q0 := 0) rfl rfl)) rfl rfl hl.1 rfl (lv_room (Nat.le_of_ble_eq_true rfl)) dX0_andOf_62 ⟨by show 0 + (gb_cap n (ct_gt nc g lo hi).2.1 - n) ≤ gb_cap n (ct_an nc g a b).2.1 - n; omega, by show 0 + 16 * (gb_cap n (ct_gt nc g lo hi).2.1 - n) ≤ 16 * (gb_cap n (ct_an nc g a b).2.1 - n); omega⟩) hS (fun q _ h => hFc q h) hFc (fun r62 u t H1 locs ht hvm e62 hB hz1 hk1 hS => ?_)
            obtain ⟨n62, ad62, ar62, iv62⟩ := u
            obtain ⟨hP1, hK1, hD1⟩ := hB
            rw [ht] at hP1
            have hK := va_K.moved hvm.symm hK1
            have hP : va_P D vwCl (gW h0 cI n62 ad62 ar62 iv62) H1 := hP1
            have hD : va_D A (gW h0 cI n62 ad62 ar62 iv62) := hD1.weaken (fun k q _ h => hFc q.1 h)
            clear hP1 hK1 hD1 hk1 hz1 hFc ht
            generalize H1 = H at hP hS ⊢
            try dsimp only at e62
            refine W.widen (k := gb_cap n (ct_an nc g a b).2.1 - n) (n := 16 * (gb_cap n (ct_an nc g a b).2.1 - n)) (by omega) (by omega) ?_
            exact W.iret (v := r62) hx hb hr (fun t ht hW => ⟨⟨r62, (n62, ad62, ar62, iv62), rfl, (by rw [hR]; exact e62), by rw [ht]; exact hP, va_K.moved hW.alike hK, hD⟩, hS.F ht⟩) hS.2.2 dX0_andOf_65
        · obtain ⟨v9, hv9⟩ : ∃ v, ct_kn g lo hi = some v := by
            cases h : ct_kn g lo hi with
            | none => exact absurd (by rw [e29, h]; rfl) c37
            | some v => exact ⟨v, rfl⟩
          have hR : ct_an nc g a b = (v9, nc, g) := by
            unfold ct_an
            rw [i4, ct_rd, hv9]
          refine lv_iload hx hb dX0_andOf_40 (lv_at hl 0 rfl) ?_
          refine W.widen (k := gb_cap n (ct_an nc g a b).2.1 - n) (n := 16 * (gb_cap n (ct_an nc g a b).2.1 - n)) (by omega) (by omega) ?_
          exact W.iret (v := r29) hx hb hr (fun t ht hW => ⟨⟨r29, (n, ad, ar, iv), rfl, ⟨by rw [hR, e29, hv9]; rfl, by rw [hR]; exact (gb_cap_le hle).symm, by rw [hR]; exact hok⟩, by rw [ht]; exact hP, va_K.moved hW.alike hK, hD⟩, hS.F ht⟩) hS.2.2 dX0_andOf_42
  have hfu := ct_rd_fuel hwf nc (max a b / 2 + 1) (min a b) (max a b) (by omega) (by omega) (by omega)
  exact hloop (max a b / 2 + 1) (min a b) (max a b) 0 ls (by omega) ⟨by omega, hmab, by omega, hfu⟩ (by rw [nI_0, ← e2, ← e8]; exact hl)
