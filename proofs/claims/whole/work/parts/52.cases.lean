/-- what stands behind a call of the law -/
def la_nx (p : Program) (l : Launch) (e : Env) (s : State) (m : MethodId) (below : List Frame) (meth : Method) (c : Code) (b : Nat) (D : va_G) (h0 h1 qo : Nat) (cI cB cZ cL : ClassId) (am : Nat → Nat) (i n nc cc ss : Nat) : Prop :=
  ∀ (u : GS) (w : MS) (f : Nat → Int64) (K : Nat) (H : Heap) (locs : List Loc) (ls : Array Slot), la_ok n nc u w K → va_P D vwCl (lawW h0 h1 qo cI cB cZ cL u.1 u.2.1 u.2.2.1 u.2.2.2 f am w.1 w.2) H → va_D (fun q : Nat => s.heap.size ≤ q) (lawW h0 h1 qo cI cB cZ cL u.1 u.2.1 u.2.2.1 u.2.2.2 f am w.1 w.2) → va_S (fun q : Nat => s.heap.size ≤ q) s.heap H locs → lv_has ls 7 [(4, .int (nI i)), (0, .ref b), (1, .ref h0), (2, .ref h1), (3, .ref qo)] → W p l e room_1 s m #[Value.ref b] below meth c H locs (cc + 4 + K) (ss + 24 + 16 * K) (lw_Z below #[Value.ref b] s) (F0 m 819 ls [])
theorem la_in {n nc ic : Nat} {g : Ct} {bv : Nat → Bool} {S0 u : GS} {w : MS} (hn : n ≤ 16 * nc) (h : (True ∧ (u.1 = gb_cap n (nc + 1) ∧ gb_ok u.1 (nc + 1) (ic + 1) g bv u.2.2.1 u.2.2.2) ∧ mm_ok (nc + 1) (ic + 1) g bv w.1 w.2) ∨ (¬ True ∧ u = S0 ∧ mm_ok nc ic g bv w.1 w.2)) : la_ok n nc u w (gb_cap n (nc + 1) - n) := by
  rcases h with ⟨_, h2, h3⟩ | ⟨h1, _⟩
  · have h4 := gb_cap_n n (nc + 1)
    exact ⟨_, _, _, _, h2.2, h3, by omega, by omega, by omega, by rw [h2.1]; exact la_cap hn (by omega)⟩
  · exact absurd trivial h1
set_option maxHeartbeats 4000000 in
set_option maxRecDepth 100000 in
theorem law_input {p : Program} {l : Launch} {e : Env} {s : State} {m : MethodId} {below : List Frame} {meth : Method} {c : Code} (hl9 : l.stackTraces = false) {D : va_G} {b L : Nat} {xs : Nat → Int32} (hL : L ≤ 2560) (C0 : lw_At p s m meth c b L xs) (hT : gT (fun q : Nat => s.heap.size ≤ q) s s.heap) {h0 h1 qo : Nat} {cI cB cZ cL : ClassId} (hK : va_K D vwCl [(cI, .int), (cB, .byte), (cZ, .boolean), (cL, .long)] s) {i n nc ic cc ss : Nat} {g : Ct} {bv : Nat → Bool} {ad am : Nat → Nat} {ar ar1 : Nat → Nat → Int32} {iv iv1 : Nat → Int32} {f : Nat → Int64} {H : Heap} {locs : List Loc} {ls : Array Slot} (hi5 : i + 5 ≤ L) (hok : gb_ok n nc ic g bv ar iv) (hmm : mm_ok nc ic g bv ar1 iv1) (hmx : nc + 6 ≤ 20000) (hn16 : n ≤ 16 * nc) (hcc : cc + 4 + 16 * (nc + 6) ≤ 61024 + n) (hss : ss + 24 + 256 * (nc + 6) ≤ 8913034 + 16 * n) (hP : va_P D vwCl (lawW h0 h1 qo cI cB cZ cL n ad ar iv f am ar1 iv1) H) (hD : va_D (fun q : Nat => s.heap.size ≤ q) (lawW h0 h1 qo cI cB cZ cL n ad ar iv f am ar1 iv1)) (hS : va_S (fun q : Nat => s.heap.size ≤ q) s.heap H locs) (hl : lv_has ls 7 [(4, .int (nI i)), (0, .ref b), (1, .ref h0), (2, .ref h1), (3, .ref qo)]) (hnext : la_nx p l e s m below meth c b D h0 h1 qo cI cB cZ cL am i n nc cc ss) : W p l e room_1 s m #[Value.ref b] below meth c H locs cc ss (lw_Z below #[Value.ref b] s) (F0 m 100 ls []) := by
  obtain ⟨hx, hb, hr, hml, hown, hts0, hX, hbl, hlocks, hgv⟩ := C0
  have hts : ∀ w ∈ wsG, w.before #[Value.ref b] s = true := fun w h => hts0 w (List.mem_filter.mp h).1
  have hown : s.vm.findClass RL = some m.cls := hown
  have hA : ∀ q : Nat, s.heap.size ≤ q → (fun q : Nat => s.heap.size ≤ q) q := fun _ h => h
  have hbA : ¬ (fun q : Nat => s.heap.size ≤ q) b := Nat.not_le.mpr hbl
  have hz0 : Int32.toNatClampNeg 0 = 0 := by decide
  have hKa := gb_cap_n n (nc + 1)
  have hKb := la_cap (m := nc + 1) hn16 (by omega)
  refine lv_aload_n hx hb dL_law_100 rfl (lv_at hl 2 rfl) ?_
  refine lv_aload_n hx hb dL_law_101 rfl (lv_at hl 4 rfl) ?_
  have hPc := hP.sub (ws' := (oW h0 cI cL n ad ar iv qo f)) [6, 7, 8, 9, 10, 11, 12, 13, 14, 15] rfl
  have hDc := hD.sub (ws' := (oW h0 cI cL n ad ar iv qo f)) [6, 7, 8, 9, 10, 11, 12, 13, 14, 15] (by decide) rfl
  have hKc := hK.sub (tys' := [(cI, .int), (cL, .long)]) [0, 3] rfl
  have hFc := va_free (wc := (oW h0 cI cL n ad ar iv qo f)) hD hS hA [6, 7, 8, 9, 10, 11, 12, 13, 14, 15] rfl
  refine va_calli (vx_runSW (As := [.ref h0, .ref qo]) (rest := []) ⟨hx, hb, hml, hown, hts⟩ (w_input l D h0 cI cL n ad ar iv qo f H.size  nc ic g bv hok hmx ) (vx_cwSW 2 hts gL_law_L_input rfl rfl rfl (by decide +kernel) ⟨Nat.le_of_ble_eq_true rfl, Nat.le_of_ble_eq_true rfl⟩) (lt_io hKc hPc hDc hT hS hFc) rfl rfl hl.1 rfl (lv_room (Nat.le_of_ble_eq_true rfl)) dL_law_102 ⟨by show _ ≤ 61024; omega, by show _ ≤ 8913034; omega⟩) hS (fun q _ h => hFc q h) hFc (fun r102 u t H1 locs ht hvm e102 hB hz1 hk1 hS => ?_)
  obtain ⟨⟨n102, ad102, ar102, iv102⟩, f102⟩ := u
  obtain ⟨hP1, hK1, hD1⟩ := hB
  rw [ht] at hP1
  obtain ⟨hP, hD⟩ := va_join (wr := (mW h1 cI cB cZ am ar1 iv1)) (w1 := (oW h0 cI cL n102 ad102 ar102 iv102 qo f102)) hP hD [6, 7, 8, 9, 10, 11, 12, 13, 14, 15] [0, 1, 2, 3, 4, 5] rfl rfl (by decide) (by decide) hk1 hFc hP1 hD1
  clear hP1 hK1 hD1 hk1 hz1 hFc ht hPc hDc
  generalize H1 = H at hP hS ⊢
  have hP : va_P D vwCl (lawW h0 h1 qo cI cB cZ cL n102 ad102 ar102 iv102 f102 am ar1 iv1) H := hP
  have hD : va_D (fun q : Nat => s.heap.size ≤ q) (lawW h0 h1 qo cI cB cZ cL n102 ad102 ar102 iv102 f102 am ar1 iv1) := hD
  refine lv_istore (lv' := [(5, .int r102), (4, .int (nI i)), (0, .ref b), (1, .ref h0), (2, .ref h1), (3, .ref qo)]) hx hb dL_law_105 hl (by decide) rfl (fun ls hl => ?_)
  refine lv_aload_n hx hb dL_law_107 rfl (lv_at hl 4 rfl) ?_
  have hPc := hP.sub (ws' := (mW h1 cI cB cZ am ar1 iv1)) [0, 1, 2, 3, 4, 5] rfl
  have hDc := hD.sub (ws' := (mW h1 cI cB cZ am ar1 iv1)) [0, 1, 2, 3, 4, 5] (by decide) rfl
  have hKm := hK.sub (tys' := [(cI, .int), (cB, .byte), (cZ, .boolean)]) [0, 1, 2] rfl
  have hFc := va_free (wc := (mW h1 cI cB cZ am ar1 iv1)) hD hS hA [0, 1, 2, 3, 4, 5] rfl
  refine va_calli (va_runV (As := []) (rest := []) ⟨hx, hb, hml, hown, hts⟩ (m_input l D h1 cI cB cZ am ar1 iv1 H.size  nc ic g bv hmm hmx) (cwV 0 hts gL_law_X1_input rfl rfl rfl (by decide +kernel) ⟨Nat.le_of_ble_eq_true rfl, Nat.le_of_ble_eq_true rfl⟩) (mP_V hKm hPc hDc (va_recv hKm hPc (ci := 1) (q0 := 0) rfl rfl)) rfl rfl hl.1 rfl (lv_room (Nat.le_of_ble_eq_true rfl)) dL_law_108 ⟨by show _ ≤ 61024; omega, by show _ ≤ 8913034; omega⟩) hS (fun q _ h => hFc q h) hFc (fun r108 u t H1 locs ht hvm e108 hB hz1 hk1 hS => ?_)
  obtain ⟨ar108, iv108⟩ := u
  obtain ⟨hP1, hK1, hD1⟩ := hB
  rw [ht] at hP1
  obtain ⟨hP, hD⟩ := va_join (wr := (oW h0 cI cL n102 ad102 ar102 iv102 qo f102)) (w1 := (mW h1 cI cB cZ am ar108 iv108)) hP hD [0, 1, 2, 3, 4, 5] [6, 7, 8, 9, 10, 11, 12, 13, 14, 15] rfl rfl (by decide) (by decide) hk1 hFc hP1 hD1
  clear hP1 hK1 hD1 hk1 hz1 hFc ht hPc hDc
  generalize H1 = H at hP hS ⊢
  have hP := hP.sub (ws' := (lawW h0 h1 qo cI cB cZ cL n102 ad102 ar102 iv102 f102 am ar108 iv108)) [10, 11, 12, 13, 14, 15, 0, 1, 2, 3, 4, 5, 6, 7, 8, 9] rfl
  have hD := hD.sub (ws' := (lawW h0 h1 qo cI cB cZ cL n102 ad102 ar102 iv102 f102 am ar108 iv108)) [10, 11, 12, 13, 14, 15, 0, 1, 2, 3, 4, 5, 6, 7, 8, 9] (by decide) rfl
  have hj := la_join e102 (show md_ans True nc ic g bv (r108 = nI (2 * nc) ∧ mm_ok (nc + 1) (ic + 1) g bv ar108 iv108) (ar108, iv108) from Or.inl ⟨trivial, e108.2.1, e108.1, e108.2.2⟩) rfl
  have hfin : la_ok n nc (n102, ad102, ar102, iv102) (ar108, iv108) (gb_cap n (nc + 1) - n) := la_in hn16 hj.2.2
  refine lv_istore (lv' := [(6, .int r108), (5, .int r102), (4, .int (nI i)), (0, .ref b), (1, .ref h0), (2, .ref h1), (3, .ref qo)]) hx hb dL_law_111 hl (by decide) rfl (fun ls hl => ?_)
  refine lv_aload_n hx hb dL_law_113 rfl (lv_at hl 5 rfl) ?_
  have hPm := hP.sub (ws' := (mW h1 cI cB cZ am ar108 iv108)) [0, 1, 2, 3, 4, 5] rfl
  refine vp_callSi (W.runV (As := []) (rest := []) ⟨hx, hb, hml, hown, hts⟩ (m_thrown l D h1 cI cB cZ am ar108 iv108) (cwV 0 hts gL_law_X1_thrown rfl rfl rfl (by decide +kernel) ⟨Nat.le_of_ble_eq_true rfl, Nat.le_of_ble_eq_true rfl⟩) (rP_V hKm hPm (va_recv hKm hPm (ci := 1) (q0 := 0) rfl rfl)) rfl rfl hl.1 rfl (lv_room (Nat.le_of_ble_eq_true rfl)) dL_law_114 ⟨by show _ ≤ 61024; omega, by show _ ≤ 8913034; omega⟩) (fun r114 e114 => ?_)
  refine lv_iload hx hb dL_law_117 (lv_at hl 1 rfl) ?_
  refine lv_icmp_eq (tgt := 124) hx hb dL_law_119 (by decide) (fun c119 => ?_) (fun c119 => ?_)
  · refine lv_iload hx hb dL_law_124 (lv_at hl 1 rfl) ?_
    refine lv_if_ne (tgt := 141) hx hb dL_law_126 (by decide) (fun c126 => ?_) (fun c126 => ?_)
    · refine lv_goto (tgt := 819) hx hb dL_law_141 (by decide) ?_
      refine W.widen (k := cc + 4 + (gb_cap n (nc + 1) - n)) (n := ss + 24 + 16 * (gb_cap n (nc + 1) - n)) (by omega) (by omega) ?_
      exact hnext _ _ _ (gb_cap n (nc + 1) - n) _ _ _ hfin hP hD hS (lv_sub hl [2, 3, 4, 5, 6] rfl)
    · refine lv_aload_n hx hb dL_law_129 rfl (lv_at hl 6 rfl) ?_
      refine lv_iconst (v := 0) hx hb dL_law_130 (by decide) ?_
      refine va_lald hx hb hK hP 6 3 rfl rfl (by unfold vp_in; decide) dL_law_131 ?_
      refine lv_iload hx hb dL_law_132 (lv_at hl 0 rfl) ?_
      refine lv_i2l (v := (r108 : Int32).toInt64) hx hb dL_law_134 rfl ?_
      refine W.lcmp hx hb dL_law_135 ?_
      refine lv_if_eq (tgt := 141) hx hb dL_law_136 (by decide) (fun c136 => ?_) (fun c136 => ?_)
      · refine lv_goto (tgt := 819) hx hb dL_law_141 (by decide) ?_
        refine W.widen (k := cc + 4 + (gb_cap n (nc + 1) - n)) (n := ss + 24 + 16 * (gb_cap n (nc + 1) - n)) (by omega) (by omega) ?_
        exact hnext _ _ _ (gb_cap n (nc + 1) - n) _ _ _ hfin hP hD hS (lv_sub hl [2, 3, 4, 5, 6] rfl)
      · exact absurd (by rw [hz0, show f102 0 = _ from (hj.2.1 c126).1]; exact la_cmp _) c136
  · exact absurd (e114.trans hj.1) c119
set_option maxHeartbeats 4000000 in
set_option maxRecDepth 100000 in
theorem law_and {p : Program} {l : Launch} {e : Env} {s : State} {m : MethodId} {below : List Frame} {meth : Method} {c : Code} (hl9 : l.stackTraces = false) {D : va_G} {b L : Nat} {xs : Nat → Int32} (hL : L ≤ 2560) (C0 : lw_At p s m meth c b L xs) (hT : gT (fun q : Nat => s.heap.size ≤ q) s s.heap) {h0 h1 qo : Nat} {cI cB cZ cL : ClassId} (hK : va_K D vwCl [(cI, .int), (cB, .byte), (cZ, .boolean), (cL, .long)] s) {i n nc ic cc ss : Nat} {g : Ct} {bv : Nat → Bool} {ad am : Nat → Nat} {ar ar1 : Nat → Nat → Int32} {iv iv1 : Nat → Int32} {f : Nat → Int64} {H : Heap} {locs : List Loc} {ls : Array Slot} (hi5 : i + 5 ≤ L) (hok : gb_ok n nc ic g bv ar iv) (hmm : mm_ok nc ic g bv ar1 iv1) (hmx : nc + 6 ≤ 20000) (hn16 : n ≤ 16 * nc) (hcc : cc + 4 + 16 * (nc + 6) ≤ 61024 + n) (hss : ss + 24 + 256 * (nc + 6) ≤ 8913034 + 16 * n) (hP : va_P D vwCl (lawW h0 h1 qo cI cB cZ cL n ad ar iv f am ar1 iv1) H) (hD : va_D (fun q : Nat => s.heap.size ≤ q) (lawW h0 h1 qo cI cB cZ cL n ad ar iv f am ar1 iv1)) (hS : va_S (fun q : Nat => s.heap.size ≤ q) s.heap H locs) (hl : lv_has ls 7 [(4, .int (nI i)), (0, .ref b), (1, .ref h0), (2, .ref h1), (3, .ref qo)]) (hnext : la_nx p l e s m below meth c b D h0 h1 qo cI cB cZ cL am i n nc cc ss) : W p l e room_1 s m #[Value.ref b] below meth c H locs cc ss (lw_Z below #[Value.ref b] s) (F0 m 144 ls []) := by
  obtain ⟨hx, hb, hr, hml, hown, hts0, hX, hbl, hlocks, hgv⟩ := C0
  have hts : ∀ w ∈ wsG, w.before #[Value.ref b] s = true := fun w h => hts0 w (List.mem_filter.mp h).1
  have hown : s.vm.findClass RL = some m.cls := hown
  have hA : ∀ q : Nat, s.heap.size ≤ q → (fun q : Nat => s.heap.size ≤ q) q := fun _ h => h
  have hbA : ¬ (fun q : Nat => s.heap.size ≤ q) b := Nat.not_le.mpr hbl
  have hz0 : Int32.toNatClampNeg 0 = 0 := by decide
  obtain ⟨a1, ha1⟩ : ∃ z, z = xs (i + 1) := ⟨_, rfl⟩
  obtain ⟨a2, ha2⟩ : ∃ z, z = xs (i + 2) := ⟨_, rfl⟩
  obtain ⟨K, hKV, hKb, hK9⟩ := la_K (V := ct_lit nc a1 ∧ ct_lit nc a2) (m := (ct_an nc g (Int32.toNatClampNeg a1) (Int32.toNatClampNeg a2)).2.1) hn16 (fun z => by
    have q3 := (ct_an_b hok.wf (ct_lit_n z.1 (by omega)).2 (ct_lit_n z.2 (by omega)).2).2.2
    omega)
  refine lv_aload_n hx hb dL_law_144 rfl (lv_at hl 2 rfl) ?_
  refine lv_aload_n hx hb dL_law_145 rfl (lv_at hl 1 rfl) ?_
  refine lv_iload hx hb dL_law_146 (lv_at hl 0 rfl) ?_
  refine lv_iconst (v := 1) hx hb dL_law_148 (by decide) ?_
  refine lv_iadd hx hb dL_law_149 ?_
  refine lv_topi (fun v149 e149 => ?_)
  have e149 : v149 = nI (i + 1) := e149.trans (nI_add i 1)
  refine va_sld hx hb hX hbl hbA hS (by rw [e149]; exact vp_in_nI (by omega) (by omega)) dL_law_150 ?_
  refine lv_topi (fun v150 e150 => ?_)
  have e150 : a1 = v150 := by rw [ha1, e150, e149, nI_clamp (by omega)]
  subst e150
  refine lv_aload_n hx hb dL_law_151 rfl (lv_at hl 1 rfl) ?_
  refine lv_iload hx hb dL_law_152 (lv_at hl 0 rfl) ?_
  refine lv_iconst (v := 2) hx hb dL_law_154 (by decide) ?_
  refine lv_iadd hx hb dL_law_155 ?_
  refine lv_topi (fun v155 e155 => ?_)
  have e155 : v155 = nI (i + 2) := e155.trans (nI_add i 2)
  refine va_sld hx hb hX hbl hbA hS (by rw [e155]; exact vp_in_nI (by omega) (by omega)) dL_law_156 ?_
  refine lv_topi (fun v156 e156 => ?_)
  have e156 : a2 = v156 := by rw [ha2, e156, e155, nI_clamp (by omega)]
  subst e156
  refine lv_aload_n hx hb dL_law_157 rfl (lv_at hl 4 rfl) ?_
  have hPc := hP.sub (ws' := (oW h0 cI cL n ad ar iv qo f)) [6, 7, 8, 9, 10, 11, 12, 13, 14, 15] rfl
  have hDc := hD.sub (ws' := (oW h0 cI cL n ad ar iv qo f)) [6, 7, 8, 9, 10, 11, 12, 13, 14, 15] (by decide) rfl
  have hKc := hK.sub (tys' := [(cI, .int), (cL, .long)]) [0, 3] rfl
  have hFc := va_free (wc := (oW h0 cI cL n ad ar iv qo f)) hD hS hA [6, 7, 8, 9, 10, 11, 12, 13, 14, 15] rfl
  refine va_calli (vx_runSW (As := [.ref h0, .int a1, .int a2, .ref qo]) (rest := []) ⟨hx, hb, hml, hown, hts⟩ (w_and l hl9 D h0 cI cL n ad ar iv qo f H.size a1 a2 nc ic g bv hok hmx K (fun q1 q2 => hKV ⟨q1, q2⟩)) (vx_cwSW 4 hts gL_law_L_and rfl rfl rfl (by decide +kernel) ⟨Nat.le_of_ble_eq_true rfl, Nat.le_of_ble_eq_true rfl⟩) (lt_io hKc hPc hDc hT hS hFc) rfl rfl hl.1 rfl (lv_room (Nat.le_of_ble_eq_true rfl)) dL_law_158 ⟨by show _ ≤ 61024; omega, by show _ ≤ 8913034; omega⟩) hS (fun q _ h => hFc q h) hFc (fun r158 u t H1 locs ht hvm e158 hB hz1 hk1 hS => ?_)
  obtain ⟨⟨n158, ad158, ar158, iv158⟩, f158⟩ := u
  obtain ⟨hP1, hK1, hD1⟩ := hB
  rw [ht] at hP1
  obtain ⟨hP, hD⟩ := va_join (wr := (mW h1 cI cB cZ am ar1 iv1)) (w1 := (oW h0 cI cL n158 ad158 ar158 iv158 qo f158)) hP hD [6, 7, 8, 9, 10, 11, 12, 13, 14, 15] [0, 1, 2, 3, 4, 5] rfl rfl (by decide) (by decide) hk1 hFc hP1 hD1
  clear hP1 hK1 hD1 hk1 hz1 hFc ht hPc hDc
  generalize H1 = H at hP hS ⊢
  have hP : va_P D vwCl (lawW h0 h1 qo cI cB cZ cL n158 ad158 ar158 iv158 f158 am ar1 iv1) H := hP
  have hD : va_D (fun q : Nat => s.heap.size ≤ q) (lawW h0 h1 qo cI cB cZ cL n158 ad158 ar158 iv158 f158 am ar1 iv1) := hD
  refine lv_istore (lv' := [(5, .int r158), (4, .int (nI i)), (0, .ref b), (1, .ref h0), (2, .ref h1), (3, .ref qo)]) hx hb dL_law_161 hl (by decide) rfl (fun ls hl => ?_)
  refine lv_aload_n hx hb dL_law_163 rfl (lv_at hl 4 rfl) ?_
  refine lv_aload_n hx hb dL_law_164 rfl (lv_at hl 2 rfl) ?_
  refine lv_iload hx hb dL_law_165 (lv_at hl 1 rfl) ?_
  refine lv_iconst (v := 1) hx hb dL_law_167 (by decide) ?_
  refine lv_iadd hx hb dL_law_168 ?_
  refine lv_topi (fun v168 e168 => ?_)
  have e168 : v168 = nI (i + 1) := e168.trans (nI_add i 1)
  refine va_sld hx hb hX hbl hbA hS (by rw [e168]; exact vp_in_nI (by omega) (by omega)) dL_law_169 ?_
  refine lv_topi (fun v169 e169 => ?_)
  have e169 : a1 = v169 := by rw [ha1, e169, e168, nI_clamp (by omega)]
  subst e169
  refine lv_aload_n hx hb dL_law_170 rfl (lv_at hl 2 rfl) ?_
  refine lv_iload hx hb dL_law_171 (lv_at hl 1 rfl) ?_
  refine lv_iconst (v := 2) hx hb dL_law_173 (by decide) ?_
  refine lv_iadd hx hb dL_law_174 ?_
  refine lv_topi (fun v174 e174 => ?_)
  have e174 : v174 = nI (i + 2) := e174.trans (nI_add i 2)
  refine va_sld hx hb hX hbl hbA hS (by rw [e174]; exact vp_in_nI (by omega) (by omega)) dL_law_175 ?_
  refine lv_topi (fun v175 e175 => ?_)
  have e175 : a2 = v175 := by rw [ha2, e175, e174, nI_clamp (by omega)]
  subst e175
  have hPc := hP.sub (ws' := (mW h1 cI cB cZ am ar1 iv1)) [0, 1, 2, 3, 4, 5] rfl
  have hDc := hD.sub (ws' := (mW h1 cI cB cZ am ar1 iv1)) [0, 1, 2, 3, 4, 5] (by decide) rfl
  have hKm := hK.sub (tys' := [(cI, .int), (cB, .byte), (cZ, .boolean)]) [0, 1, 2] rfl
  have hFc := va_free (wc := (mW h1 cI cB cZ am ar1 iv1)) hD hS hA [0, 1, 2, 3, 4, 5] rfl
  refine va_calli (va_runV (As := [.int a1, .int a2]) (rest := []) ⟨hx, hb, hml, hown, hts⟩ (m_and l D h1 cI cB cZ am ar1 iv1 H.size a1 a2 nc ic g bv hmm hmx) (cwV 2 hts gL_law_X1_and rfl rfl rfl (by decide +kernel) ⟨Nat.le_of_ble_eq_true rfl, Nat.le_of_ble_eq_true rfl⟩) (mP_V hKm hPc hDc (va_recv hKm hPc (ci := 1) (q0 := 0) rfl rfl)) rfl rfl hl.1 rfl (lv_room (Nat.le_of_ble_eq_true rfl)) dL_law_176 ⟨by show _ ≤ 61024; omega, by show _ ≤ 8913034; omega⟩) hS (fun q _ h => hFc q h) hFc (fun r176 u t H1 locs ht hvm e176 hB hz1 hk1 hS => ?_)
  obtain ⟨ar176, iv176⟩ := u
  obtain ⟨hP1, hK1, hD1⟩ := hB
  rw [ht] at hP1
  obtain ⟨hP, hD⟩ := va_join (wr := (oW h0 cI cL n158 ad158 ar158 iv158 qo f158)) (w1 := (mW h1 cI cB cZ am ar176 iv176)) hP hD [0, 1, 2, 3, 4, 5] [6, 7, 8, 9, 10, 11, 12, 13, 14, 15] rfl rfl (by decide) (by decide) hk1 hFc hP1 hD1
  clear hP1 hK1 hD1 hk1 hz1 hFc ht hPc hDc
  generalize H1 = H at hP hS ⊢
  have hP := hP.sub (ws' := (lawW h0 h1 qo cI cB cZ cL n158 ad158 ar158 iv158 f158 am ar176 iv176)) [10, 11, 12, 13, 14, 15, 0, 1, 2, 3, 4, 5, 6, 7, 8, 9] rfl
  have hD := hD.sub (ws' := (lawW h0 h1 qo cI cB cZ cL n158 ad158 ar158 iv158 f158 am ar176 iv176)) [10, 11, 12, 13, 14, 15, 0, 1, 2, 3, 4, 5, 6, 7, 8, 9] (by decide) rfl
  have hj := la_join e158 e176 rfl
  have hfin : la_ok n nc (n158, ad158, ar158, iv158) (ar176, iv176) K := la_mk hok hn16 hj.2.2 hK9
  refine lv_istore (lv' := [(6, .int r176), (5, .int r158), (4, .int (nI i)), (0, .ref b), (1, .ref h0), (2, .ref h1), (3, .ref qo)]) hx hb dL_law_179 hl (by decide) rfl (fun ls hl => ?_)
  refine lv_aload_n hx hb dL_law_181 rfl (lv_at hl 5 rfl) ?_
  have hPm := hP.sub (ws' := (mW h1 cI cB cZ am ar176 iv176)) [0, 1, 2, 3, 4, 5] rfl
  refine vp_callSi (W.runV (As := []) (rest := []) ⟨hx, hb, hml, hown, hts⟩ (m_thrown l D h1 cI cB cZ am ar176 iv176) (cwV 0 hts gL_law_X1_thrown rfl rfl rfl (by decide +kernel) ⟨Nat.le_of_ble_eq_true rfl, Nat.le_of_ble_eq_true rfl⟩) (rP_V hKm hPm (va_recv hKm hPm (ci := 1) (q0 := 0) rfl rfl)) rfl rfl hl.1 rfl (lv_room (Nat.le_of_ble_eq_true rfl)) dL_law_182 ⟨by show _ ≤ 61024; omega, by show _ ≤ 8913034; omega⟩) (fun r182 e182 => ?_)
  refine lv_iload hx hb dL_law_185 (lv_at hl 1 rfl) ?_
  refine lv_icmp_eq (tgt := 192) hx hb dL_law_187 (by decide) (fun c187 => ?_) (fun c187 => ?_)
  · refine lv_iload hx hb dL_law_192 (lv_at hl 1 rfl) ?_
    refine lv_if_ne (tgt := 209) hx hb dL_law_194 (by decide) (fun c194 => ?_) (fun c194 => ?_)
    · refine lv_goto (tgt := 819) hx hb dL_law_209 (by decide) ?_
      refine W.widen (k := cc + 4 + K) (n := ss + 24 + 16 * K) (by omega) (by omega) ?_
      exact hnext _ _ _ K _ _ _ hfin hP hD hS (lv_sub hl [2, 3, 4, 5, 6] rfl)
    · refine lv_aload_n hx hb dL_law_197 rfl (lv_at hl 6 rfl) ?_
      refine lv_iconst (v := 0) hx hb dL_law_198 (by decide) ?_
      refine va_lald hx hb hK hP 6 3 rfl rfl (by unfold vp_in; decide) dL_law_199 ?_
      refine lv_iload hx hb dL_law_200 (lv_at hl 0 rfl) ?_
      refine lv_i2l (v := (r176 : Int32).toInt64) hx hb dL_law_202 rfl ?_
      refine W.lcmp hx hb dL_law_203 ?_
      refine lv_if_eq (tgt := 209) hx hb dL_law_204 (by decide) (fun c204 => ?_) (fun c204 => ?_)
      · refine lv_goto (tgt := 819) hx hb dL_law_209 (by decide) ?_
        refine W.widen (k := cc + 4 + K) (n := ss + 24 + 16 * K) (by omega) (by omega) ?_
        exact hnext _ _ _ K _ _ _ hfin hP hD hS (lv_sub hl [2, 3, 4, 5, 6] rfl)
      · exact absurd (by rw [hz0, show f158 0 = _ from (hj.2.1 c194).1]; exact la_cmp _) c204
  · exact absurd (e182.trans hj.1) c187
set_option maxHeartbeats 4000000 in
set_option maxRecDepth 100000 in
theorem law_join {p : Program} {l : Launch} {e : Env} {s : State} {m : MethodId} {below : List Frame} {meth : Method} {c : Code} (hl9 : l.stackTraces = false) {D : va_G} {b L : Nat} {xs : Nat → Int32} (hL : L ≤ 2560) (C0 : lw_At p s m meth c b L xs) (hT : gT (fun q : Nat => s.heap.size ≤ q) s s.heap) {h0 h1 qo : Nat} {cI cB cZ cL : ClassId} (hK : va_K D vwCl [(cI, .int), (cB, .byte), (cZ, .boolean), (cL, .long)] s) {i n nc ic cc ss : Nat} {g : Ct} {bv : Nat → Bool} {ad am : Nat → Nat} {ar ar1 : Nat → Nat → Int32} {iv iv1 : Nat → Int32} {f : Nat → Int64} {H : Heap} {locs : List Loc} {ls : Array Slot} (hi5 : i + 5 ≤ L) (hok : gb_ok n nc ic g bv ar iv) (hmm : mm_ok nc ic g bv ar1 iv1) (hmx : nc + 6 ≤ 20000) (hn16 : n ≤ 16 * nc) (hcc : cc + 4 + 16 * (nc + 6) ≤ 61024 + n) (hss : ss + 24 + 256 * (nc + 6) ≤ 8913034 + 16 * n) (hP : va_P D vwCl (lawW h0 h1 qo cI cB cZ cL n ad ar iv f am ar1 iv1) H) (hD : va_D (fun q : Nat => s.heap.size ≤ q) (lawW h0 h1 qo cI cB cZ cL n ad ar iv f am ar1 iv1)) (hS : va_S (fun q : Nat => s.heap.size ≤ q) s.heap H locs) (hl : lv_has ls 7 [(4, .int (nI i)), (0, .ref b), (1, .ref h0), (2, .ref h1), (3, .ref qo)]) (hnext : la_nx p l e s m below meth c b D h0 h1 qo cI cB cZ cL am i n nc cc ss) : W p l e room_1 s m #[Value.ref b] below meth c H locs cc ss (lw_Z below #[Value.ref b] s) (F0 m 212 ls []) := by
  obtain ⟨hx, hb, hr, hml, hown, hts0, hX, hbl, hlocks, hgv⟩ := C0
  have hts : ∀ w ∈ wsG, w.before #[Value.ref b] s = true := fun w h => hts0 w (List.mem_filter.mp h).1
  have hown : s.vm.findClass RL = some m.cls := hown
  have hA : ∀ q : Nat, s.heap.size ≤ q → (fun q : Nat => s.heap.size ≤ q) q := fun _ h => h
  have hbA : ¬ (fun q : Nat => s.heap.size ≤ q) b := Nat.not_le.mpr hbl
  have hz0 : Int32.toNatClampNeg 0 = 0 := by decide
  obtain ⟨a1, ha1⟩ : ∃ z, z = xs (i + 1) := ⟨_, rfl⟩
  obtain ⟨a2, ha2⟩ : ∃ z, z = xs (i + 2) := ⟨_, rfl⟩
  obtain ⟨a3, ha3⟩ : ∃ z, z = xs (i + 3) := ⟨_, rfl⟩
  obtain ⟨K, hKV, hKb, hK9⟩ := la_K (V := (a1 = 0 ∨ a1 = 1) ∧ ct_lit nc a2 ∧ ct_lit nc a3) (m := (ct_jn nc g a1 (Int32.toNatClampNeg a2) (Int32.toNatClampNeg a3)).2.1) hn16 (fun z => ct_jn_b hok.wf (ct_lit_n z.2.1 (by omega)).2 (ct_lit_n z.2.2 (by omega)).2)
  refine lv_aload_n hx hb dL_law_212 rfl (lv_at hl 2 rfl) ?_
  refine lv_aload_n hx hb dL_law_213 rfl (lv_at hl 1 rfl) ?_
  refine lv_iload hx hb dL_law_214 (lv_at hl 0 rfl) ?_
  refine lv_iconst (v := 1) hx hb dL_law_216 (by decide) ?_
  refine lv_iadd hx hb dL_law_217 ?_
  refine lv_topi (fun v217 e217 => ?_)
  have e217 : v217 = nI (i + 1) := e217.trans (nI_add i 1)
  refine va_sld hx hb hX hbl hbA hS (by rw [e217]; exact vp_in_nI (by omega) (by omega)) dL_law_218 ?_
  refine lv_topi (fun v218 e218 => ?_)
  have e218 : a1 = v218 := by rw [ha1, e218, e217, nI_clamp (by omega)]
  subst e218
  refine lv_aload_n hx hb dL_law_219 rfl (lv_at hl 1 rfl) ?_
  refine lv_iload hx hb dL_law_220 (lv_at hl 0 rfl) ?_
  refine lv_iconst (v := 2) hx hb dL_law_222 (by decide) ?_
  refine lv_iadd hx hb dL_law_223 ?_
  refine lv_topi (fun v223 e223 => ?_)
  have e223 : v223 = nI (i + 2) := e223.trans (nI_add i 2)
  refine va_sld hx hb hX hbl hbA hS (by rw [e223]; exact vp_in_nI (by omega) (by omega)) dL_law_224 ?_
  refine lv_topi (fun v224 e224 => ?_)
  have e224 : a2 = v224 := by rw [ha2, e224, e223, nI_clamp (by omega)]
  subst e224
  refine lv_aload_n hx hb dL_law_225 rfl (lv_at hl 1 rfl) ?_
  refine lv_iload hx hb dL_law_226 (lv_at hl 0 rfl) ?_
  refine lv_iconst (v := 3) hx hb dL_law_228 (by decide) ?_
  refine lv_iadd hx hb dL_law_229 ?_
  refine lv_topi (fun v229 e229 => ?_)
  have e229 : v229 = nI (i + 3) := e229.trans (nI_add i 3)
  refine va_sld hx hb hX hbl hbA hS (by rw [e229]; exact vp_in_nI (by omega) (by omega)) dL_law_230 ?_
  refine lv_topi (fun v230 e230 => ?_)
  have e230 : a3 = v230 := by rw [ha3, e230, e229, nI_clamp (by omega)]
  subst e230
  refine lv_aload_n hx hb dL_law_231 rfl (lv_at hl 4 rfl) ?_
  have hPc := hP.sub (ws' := (oW h0 cI cL n ad ar iv qo f)) [6, 7, 8, 9, 10, 11, 12, 13, 14, 15] rfl
  have hDc := hD.sub (ws' := (oW h0 cI cL n ad ar iv qo f)) [6, 7, 8, 9, 10, 11, 12, 13, 14, 15] (by decide) rfl
  have hKc := hK.sub (tys' := [(cI, .int), (cL, .long)]) [0, 3] rfl
  have hFc := va_free (wc := (oW h0 cI cL n ad ar iv qo f)) hD hS hA [6, 7, 8, 9, 10, 11, 12, 13, 14, 15] rfl
  refine va_calli (vx_runSW (As := [.ref h0, .int a1, .int a2, .int a3, .ref qo]) (rest := []) ⟨hx, hb, hml, hown, hts⟩ (w_join l hl9 D h0 cI cL n ad ar iv qo f H.size a1 a2 a3 nc ic g bv hok hmx K (fun q1 q2 q3 => hKV ⟨q1, q2, q3⟩)) (vx_cwSW 5 hts gL_law_L_join rfl rfl rfl (by decide +kernel) ⟨Nat.le_of_ble_eq_true rfl, Nat.le_of_ble_eq_true rfl⟩) (lt_io hKc hPc hDc hT hS hFc) rfl rfl hl.1 rfl (lv_room (Nat.le_of_ble_eq_true rfl)) dL_law_232 ⟨by show _ ≤ 61024; omega, by show _ ≤ 8913034; omega⟩) hS (fun q _ h => hFc q h) hFc (fun r232 u t H1 locs ht hvm e232 hB hz1 hk1 hS => ?_)
  obtain ⟨⟨n232, ad232, ar232, iv232⟩, f232⟩ := u
  obtain ⟨hP1, hK1, hD1⟩ := hB
  rw [ht] at hP1
  obtain ⟨hP, hD⟩ := va_join (wr := (mW h1 cI cB cZ am ar1 iv1)) (w1 := (oW h0 cI cL n232 ad232 ar232 iv232 qo f232)) hP hD [6, 7, 8, 9, 10, 11, 12, 13, 14, 15] [0, 1, 2, 3, 4, 5] rfl rfl (by decide) (by decide) hk1 hFc hP1 hD1
  clear hP1 hK1 hD1 hk1 hz1 hFc ht hPc hDc
  generalize H1 = H at hP hS ⊢
  have hP : va_P D vwCl (lawW h0 h1 qo cI cB cZ cL n232 ad232 ar232 iv232 f232 am ar1 iv1) H := hP
  have hD : va_D (fun q : Nat => s.heap.size ≤ q) (lawW h0 h1 qo cI cB cZ cL n232 ad232 ar232 iv232 f232 am ar1 iv1) := hD
  refine lv_istore (lv' := [(5, .int r232), (4, .int (nI i)), (0, .ref b), (1, .ref h0), (2, .ref h1), (3, .ref qo)]) hx hb dL_law_235 hl (by decide) rfl (fun ls hl => ?_)
  refine lv_aload_n hx hb dL_law_237 rfl (lv_at hl 4 rfl) ?_
  refine lv_aload_n hx hb dL_law_238 rfl (lv_at hl 2 rfl) ?_
  refine lv_iload hx hb dL_law_239 (lv_at hl 1 rfl) ?_
  refine lv_iconst (v := 1) hx hb dL_law_241 (by decide) ?_
  refine lv_iadd hx hb dL_law_242 ?_
  refine lv_topi (fun v242 e242 => ?_)
  have e242 : v242 = nI (i + 1) := e242.trans (nI_add i 1)
  refine va_sld hx hb hX hbl hbA hS (by rw [e242]; exact vp_in_nI (by omega) (by omega)) dL_law_243 ?_
  refine lv_topi (fun v243 e243 => ?_)
  have e243 : a1 = v243 := by rw [ha1, e243, e242, nI_clamp (by omega)]
  subst e243
  refine lv_aload_n hx hb dL_law_244 rfl (lv_at hl 2 rfl) ?_
  refine lv_iload hx hb dL_law_245 (lv_at hl 1 rfl) ?_
  refine lv_iconst (v := 2) hx hb dL_law_247 (by decide) ?_
  refine lv_iadd hx hb dL_law_248 ?_
  refine lv_topi (fun v248 e248 => ?_)
  have e248 : v248 = nI (i + 2) := e248.trans (nI_add i 2)
  refine va_sld hx hb hX hbl hbA hS (by rw [e248]; exact vp_in_nI (by omega) (by omega)) dL_law_249 ?_
  refine lv_topi (fun v249 e249 => ?_)
  have e249 : a2 = v249 := by rw [ha2, e249, e248, nI_clamp (by omega)]
  subst e249
  refine lv_aload_n hx hb dL_law_250 rfl (lv_at hl 2 rfl) ?_
  refine lv_iload hx hb dL_law_251 (lv_at hl 1 rfl) ?_
  refine lv_iconst (v := 3) hx hb dL_law_253 (by decide) ?_
  refine lv_iadd hx hb dL_law_254 ?_
  refine lv_topi (fun v254 e254 => ?_)
  have e254 : v254 = nI (i + 3) := e254.trans (nI_add i 3)
  refine va_sld hx hb hX hbl hbA hS (by rw [e254]; exact vp_in_nI (by omega) (by omega)) dL_law_255 ?_
  refine lv_topi (fun v255 e255 => ?_)
  have e255 : a3 = v255 := by rw [ha3, e255, e254, nI_clamp (by omega)]
  subst e255
  have hPc := hP.sub (ws' := (mW h1 cI cB cZ am ar1 iv1)) [0, 1, 2, 3, 4, 5] rfl
  have hDc := hD.sub (ws' := (mW h1 cI cB cZ am ar1 iv1)) [0, 1, 2, 3, 4, 5] (by decide) rfl
  have hKm := hK.sub (tys' := [(cI, .int), (cB, .byte), (cZ, .boolean)]) [0, 1, 2] rfl
  have hFc := va_free (wc := (mW h1 cI cB cZ am ar1 iv1)) hD hS hA [0, 1, 2, 3, 4, 5] rfl
  refine va_calli (va_runV (As := [.int a1, .int a2, .int a3]) (rest := []) ⟨hx, hb, hml, hown, hts⟩ (m_join l D h1 cI cB cZ am ar1 iv1 H.size a1 a2 a3 nc ic g bv hmm hmx) (cwV 3 hts gL_law_X1_join rfl rfl rfl (by decide +kernel) ⟨Nat.le_of_ble_eq_true rfl, Nat.le_of_ble_eq_true rfl⟩) (mP_V hKm hPc hDc (va_recv hKm hPc (ci := 1) (q0 := 0) rfl rfl)) rfl rfl hl.1 rfl (lv_room (Nat.le_of_ble_eq_true rfl)) dL_law_256 ⟨by show _ ≤ 61024; omega, by show _ ≤ 8913034; omega⟩) hS (fun q _ h => hFc q h) hFc (fun r256 u t H1 locs ht hvm e256 hB hz1 hk1 hS => ?_)
  obtain ⟨ar256, iv256⟩ := u
  obtain ⟨hP1, hK1, hD1⟩ := hB
  rw [ht] at hP1
  obtain ⟨hP, hD⟩ := va_join (wr := (oW h0 cI cL n232 ad232 ar232 iv232 qo f232)) (w1 := (mW h1 cI cB cZ am ar256 iv256)) hP hD [0, 1, 2, 3, 4, 5] [6, 7, 8, 9, 10, 11, 12, 13, 14, 15] rfl rfl (by decide) (by decide) hk1 hFc hP1 hD1
  clear hP1 hK1 hD1 hk1 hz1 hFc ht hPc hDc
  generalize H1 = H at hP hS ⊢
  have hP := hP.sub (ws' := (lawW h0 h1 qo cI cB cZ cL n232 ad232 ar232 iv232 f232 am ar256 iv256)) [10, 11, 12, 13, 14, 15, 0, 1, 2, 3, 4, 5, 6, 7, 8, 9] rfl
  have hD := hD.sub (ws' := (lawW h0 h1 qo cI cB cZ cL n232 ad232 ar232 iv232 f232 am ar256 iv256)) [10, 11, 12, 13, 14, 15, 0, 1, 2, 3, 4, 5, 6, 7, 8, 9] (by decide) rfl
  have hj := la_join e232 e256 rfl
  have hfin : la_ok n nc (n232, ad232, ar232, iv232) (ar256, iv256) K := la_mk hok hn16 hj.2.2 hK9
  refine lv_istore (lv' := [(6, .int r256), (5, .int r232), (4, .int (nI i)), (0, .ref b), (1, .ref h0), (2, .ref h1), (3, .ref qo)]) hx hb dL_law_259 hl (by decide) rfl (fun ls hl => ?_)
  refine lv_aload_n hx hb dL_law_261 rfl (lv_at hl 5 rfl) ?_
  have hPm := hP.sub (ws' := (mW h1 cI cB cZ am ar256 iv256)) [0, 1, 2, 3, 4, 5] rfl
  refine vp_callSi (W.runV (As := []) (rest := []) ⟨hx, hb, hml, hown, hts⟩ (m_thrown l D h1 cI cB cZ am ar256 iv256) (cwV 0 hts gL_law_X1_thrown rfl rfl rfl (by decide +kernel) ⟨Nat.le_of_ble_eq_true rfl, Nat.le_of_ble_eq_true rfl⟩) (rP_V hKm hPm (va_recv hKm hPm (ci := 1) (q0 := 0) rfl rfl)) rfl rfl hl.1 rfl (lv_room (Nat.le_of_ble_eq_true rfl)) dL_law_262 ⟨by show _ ≤ 61024; omega, by show _ ≤ 8913034; omega⟩) (fun r262 e262 => ?_)
  refine lv_iload hx hb dL_law_265 (lv_at hl 1 rfl) ?_
  refine lv_icmp_eq (tgt := 272) hx hb dL_law_267 (by decide) (fun c267 => ?_) (fun c267 => ?_)
  · refine lv_iload hx hb dL_law_272 (lv_at hl 1 rfl) ?_
    refine lv_if_ne (tgt := 289) hx hb dL_law_274 (by decide) (fun c274 => ?_) (fun c274 => ?_)
    · refine lv_goto (tgt := 819) hx hb dL_law_289 (by decide) ?_
      refine W.widen (k := cc + 4 + K) (n := ss + 24 + 16 * K) (by omega) (by omega) ?_
      exact hnext _ _ _ K _ _ _ hfin hP hD hS (lv_sub hl [2, 3, 4, 5, 6] rfl)
    · refine lv_aload_n hx hb dL_law_277 rfl (lv_at hl 6 rfl) ?_
      refine lv_iconst (v := 0) hx hb dL_law_278 (by decide) ?_
      refine va_lald hx hb hK hP 6 3 rfl rfl (by unfold vp_in; decide) dL_law_279 ?_
      refine lv_iload hx hb dL_law_280 (lv_at hl 0 rfl) ?_
      refine lv_i2l (v := (r256 : Int32).toInt64) hx hb dL_law_282 rfl ?_
      refine W.lcmp hx hb dL_law_283 ?_
      refine lv_if_eq (tgt := 289) hx hb dL_law_284 (by decide) (fun c284 => ?_) (fun c284 => ?_)
      · refine lv_goto (tgt := 819) hx hb dL_law_289 (by decide) ?_
        refine W.widen (k := cc + 4 + K) (n := ss + 24 + 16 * K) (by omega) (by omega) ?_
        exact hnext _ _ _ K _ _ _ hfin hP hD hS (lv_sub hl [2, 3, 4, 5, 6] rfl)
      · exact absurd (by rw [hz0, show f232 0 = _ from (hj.2.1 c274).1]; exact la_cmp _) c284
  · exact absurd (e262.trans hj.1) c267
set_option maxHeartbeats 4000000 in
set_option maxRecDepth 100000 in
theorem law_three {p : Program} {l : Launch} {e : Env} {s : State} {m : MethodId} {below : List Frame} {meth : Method} {c : Code} (hl9 : l.stackTraces = false) {D : va_G} {b L : Nat} {xs : Nat → Int32} (hL : L ≤ 2560) (C0 : lw_At p s m meth c b L xs) (hT : gT (fun q : Nat => s.heap.size ≤ q) s s.heap) {h0 h1 qo : Nat} {cI cB cZ cL : ClassId} (hK : va_K D vwCl [(cI, .int), (cB, .byte), (cZ, .boolean), (cL, .long)] s) {i n nc ic cc ss : Nat} {g : Ct} {bv : Nat → Bool} {ad am : Nat → Nat} {ar ar1 : Nat → Nat → Int32} {iv iv1 : Nat → Int32} {f : Nat → Int64} {H : Heap} {locs : List Loc} {ls : Array Slot} (hi5 : i + 5 ≤ L) (hok : gb_ok n nc ic g bv ar iv) (hmm : mm_ok nc ic g bv ar1 iv1) (hmx : nc + 6 ≤ 20000) (hn16 : n ≤ 16 * nc) (hcc : cc + 4 + 16 * (nc + 6) ≤ 61024 + n) (hss : ss + 24 + 256 * (nc + 6) ≤ 8913034 + 16 * n) (hP : va_P D vwCl (lawW h0 h1 qo cI cB cZ cL n ad ar iv f am ar1 iv1) H) (hD : va_D (fun q : Nat => s.heap.size ≤ q) (lawW h0 h1 qo cI cB cZ cL n ad ar iv f am ar1 iv1)) (hS : va_S (fun q : Nat => s.heap.size ≤ q) s.heap H locs) (hl : lv_has ls 7 [(4, .int (nI i)), (0, .ref b), (1, .ref h0), (2, .ref h1), (3, .ref qo)]) (hnext : la_nx p l e s m below meth c b D h0 h1 qo cI cB cZ cL am i n nc cc ss) : W p l e room_1 s m #[Value.ref b] below meth c H locs cc ss (lw_Z below #[Value.ref b] s) (F0 m 292 ls []) := by
  obtain ⟨hx, hb, hr, hml, hown, hts0, hX, hbl, hlocks, hgv⟩ := C0
  have hts : ∀ w ∈ wsG, w.before #[Value.ref b] s = true := fun w h => hts0 w (List.mem_filter.mp h).1
  have hown : s.vm.findClass RL = some m.cls := hown
  have hA : ∀ q : Nat, s.heap.size ≤ q → (fun q : Nat => s.heap.size ≤ q) q := fun _ h => h
  have hbA : ¬ (fun q : Nat => s.heap.size ≤ q) b := Nat.not_le.mpr hbl
  have hz0 : Int32.toNatClampNeg 0 = 0 := by decide
  obtain ⟨a1, ha1⟩ : ∃ z, z = xs (i + 1) := ⟨_, rfl⟩
  obtain ⟨a2, ha2⟩ : ∃ z, z = xs (i + 2) := ⟨_, rfl⟩
  obtain ⟨a3, ha3⟩ : ∃ z, z = xs (i + 3) := ⟨_, rfl⟩
  obtain ⟨a4, ha4⟩ : ∃ z, z = xs (i + 4) := ⟨_, rfl⟩
  obtain ⟨K, hKV, hKb, hK9⟩ := la_K (V := (a1 = 0 ∨ a1 = 1 ∨ a1 = 2) ∧ ct_lit nc a2 ∧ ct_lit nc a3 ∧ ct_lit nc a4) (m := (ct_th nc g a1 (Int32.toNatClampNeg a2) (Int32.toNatClampNeg a3) (Int32.toNatClampNeg a4)).2.1) hn16 (fun z => ct_th_b hok.wf (ct_lit_n z.2.1 (by omega)).2 (ct_lit_n z.2.2.1 (by omega)).2 (ct_lit_n z.2.2.2 (by omega)).2)
  refine lv_aload_n hx hb dL_law_292 rfl (lv_at hl 2 rfl) ?_
  refine lv_aload_n hx hb dL_law_293 rfl (lv_at hl 1 rfl) ?_
  refine lv_iload hx hb dL_law_294 (lv_at hl 0 rfl) ?_
  refine lv_iconst (v := 1) hx hb dL_law_296 (by decide) ?_
  refine lv_iadd hx hb dL_law_297 ?_
  refine lv_topi (fun v297 e297 => ?_)
  have e297 : v297 = nI (i + 1) := e297.trans (nI_add i 1)
  refine va_sld hx hb hX hbl hbA hS (by rw [e297]; exact vp_in_nI (by omega) (by omega)) dL_law_298 ?_
  refine lv_topi (fun v298 e298 => ?_)
  have e298 : a1 = v298 := by rw [ha1, e298, e297, nI_clamp (by omega)]
  subst e298
  refine lv_aload_n hx hb dL_law_299 rfl (lv_at hl 1 rfl) ?_
  refine lv_iload hx hb dL_law_300 (lv_at hl 0 rfl) ?_
  refine lv_iconst (v := 2) hx hb dL_law_302 (by decide) ?_
  refine lv_iadd hx hb dL_law_303 ?_
  refine lv_topi (fun v303 e303 => ?_)
  have e303 : v303 = nI (i + 2) := e303.trans (nI_add i 2)
  refine va_sld hx hb hX hbl hbA hS (by rw [e303]; exact vp_in_nI (by omega) (by omega)) dL_law_304 ?_
  refine lv_topi (fun v304 e304 => ?_)
  have e304 : a2 = v304 := by rw [ha2, e304, e303, nI_clamp (by omega)]
  subst e304
  refine lv_aload_n hx hb dL_law_305 rfl (lv_at hl 1 rfl) ?_
  refine lv_iload hx hb dL_law_306 (lv_at hl 0 rfl) ?_
  refine lv_iconst (v := 3) hx hb dL_law_308 (by decide) ?_
  refine lv_iadd hx hb dL_law_309 ?_
  refine lv_topi (fun v309 e309 => ?_)
  have e309 : v309 = nI (i + 3) := e309.trans (nI_add i 3)
  refine va_sld hx hb hX hbl hbA hS (by rw [e309]; exact vp_in_nI (by omega) (by omega)) dL_law_310 ?_
  refine lv_topi (fun v310 e310 => ?_)
  have e310 : a3 = v310 := by rw [ha3, e310, e309, nI_clamp (by omega)]
  subst e310
  refine lv_aload_n hx hb dL_law_311 rfl (lv_at hl 1 rfl) ?_
  refine lv_iload hx hb dL_law_312 (lv_at hl 0 rfl) ?_
  refine lv_iconst (v := 4) hx hb dL_law_314 (by decide) ?_
  refine lv_iadd hx hb dL_law_315 ?_
  refine lv_topi (fun v315 e315 => ?_)
  have e315 : v315 = nI (i + 4) := e315.trans (nI_add i 4)
  refine va_sld hx hb hX hbl hbA hS (by rw [e315]; exact vp_in_nI (by omega) (by omega)) dL_law_316 ?_
  refine lv_topi (fun v316 e316 => ?_)
  have e316 : a4 = v316 := by rw [ha4, e316, e315, nI_clamp (by omega)]
  subst e316
  refine lv_aload_n hx hb dL_law_317 rfl (lv_at hl 4 rfl) ?_
  have hPc := hP.sub (ws' := (oW h0 cI cL n ad ar iv qo f)) [6, 7, 8, 9, 10, 11, 12, 13, 14, 15] rfl
  have hDc := hD.sub (ws' := (oW h0 cI cL n ad ar iv qo f)) [6, 7, 8, 9, 10, 11, 12, 13, 14, 15] (by decide) rfl
  have hKc := hK.sub (tys' := [(cI, .int), (cL, .long)]) [0, 3] rfl
  have hFc := va_free (wc := (oW h0 cI cL n ad ar iv qo f)) hD hS hA [6, 7, 8, 9, 10, 11, 12, 13, 14, 15] rfl
  refine va_calli (vx_runSW (As := [.ref h0, .int a1, .int a2, .int a3, .int a4, .ref qo]) (rest := []) ⟨hx, hb, hml, hown, hts⟩ (w_three l hl9 D h0 cI cL n ad ar iv qo f H.size a1 a2 a3 a4 nc ic g bv hok hmx K (fun q1 q2 q3 q4 => hKV ⟨q1, q2, q3, q4⟩)) (vx_cwSW 6 hts gL_law_L_three rfl rfl rfl (by decide +kernel) ⟨Nat.le_of_ble_eq_true rfl, Nat.le_of_ble_eq_true rfl⟩) (lt_io hKc hPc hDc hT hS hFc) rfl rfl hl.1 rfl (lv_room (Nat.le_of_ble_eq_true rfl)) dL_law_318 ⟨by show _ ≤ 61024; omega, by show _ ≤ 8913034; omega⟩) hS (fun q _ h => hFc q h) hFc (fun r318 u t H1 locs ht hvm e318 hB hz1 hk1 hS => ?_)
  obtain ⟨⟨n318, ad318, ar318, iv318⟩, f318⟩ := u
  obtain ⟨hP1, hK1, hD1⟩ := hB
  rw [ht] at hP1
  obtain ⟨hP, hD⟩ := va_join (wr := (mW h1 cI cB cZ am ar1 iv1)) (w1 := (oW h0 cI cL n318 ad318 ar318 iv318 qo f318)) hP hD [6, 7, 8, 9, 10, 11, 12, 13, 14, 15] [0, 1, 2, 3, 4, 5] rfl rfl (by decide) (by decide) hk1 hFc hP1 hD1
  clear hP1 hK1 hD1 hk1 hz1 hFc ht hPc hDc
  generalize H1 = H at hP hS ⊢
  have hP : va_P D vwCl (lawW h0 h1 qo cI cB cZ cL n318 ad318 ar318 iv318 f318 am ar1 iv1) H := hP
  have hD : va_D (fun q : Nat => s.heap.size ≤ q) (lawW h0 h1 qo cI cB cZ cL n318 ad318 ar318 iv318 f318 am ar1 iv1) := hD
  refine lv_istore (lv' := [(5, .int r318), (4, .int (nI i)), (0, .ref b), (1, .ref h0), (2, .ref h1), (3, .ref qo)]) hx hb dL_law_321 hl (by decide) rfl (fun ls hl => ?_)
  refine lv_aload_n hx hb dL_law_323 rfl (lv_at hl 4 rfl) ?_
  refine lv_aload_n hx hb dL_law_324 rfl (lv_at hl 2 rfl) ?_
  refine lv_iload hx hb dL_law_325 (lv_at hl 1 rfl) ?_
  refine lv_iconst (v := 1) hx hb dL_law_327 (by decide) ?_
  refine lv_iadd hx hb dL_law_328 ?_
  refine lv_topi (fun v328 e328 => ?_)
  have e328 : v328 = nI (i + 1) := e328.trans (nI_add i 1)
  refine va_sld hx hb hX hbl hbA hS (by rw [e328]; exact vp_in_nI (by omega) (by omega)) dL_law_329 ?_
  refine lv_topi (fun v329 e329 => ?_)
  have e329 : a1 = v329 := by rw [ha1, e329, e328, nI_clamp (by omega)]
  subst e329
  refine lv_aload_n hx hb dL_law_330 rfl (lv_at hl 2 rfl) ?_
  refine lv_iload hx hb dL_law_331 (lv_at hl 1 rfl) ?_
  refine lv_iconst (v := 2) hx hb dL_law_333 (by decide) ?_
  refine lv_iadd hx hb dL_law_334 ?_
  refine lv_topi (fun v334 e334 => ?_)
  have e334 : v334 = nI (i + 2) := e334.trans (nI_add i 2)
  refine va_sld hx hb hX hbl hbA hS (by rw [e334]; exact vp_in_nI (by omega) (by omega)) dL_law_335 ?_
  refine lv_topi (fun v335 e335 => ?_)
  have e335 : a2 = v335 := by rw [ha2, e335, e334, nI_clamp (by omega)]
  subst e335
  refine lv_aload_n hx hb dL_law_336 rfl (lv_at hl 2 rfl) ?_
  refine lv_iload hx hb dL_law_337 (lv_at hl 1 rfl) ?_
  refine lv_iconst (v := 3) hx hb dL_law_339 (by decide) ?_
  refine lv_iadd hx hb dL_law_340 ?_
  refine lv_topi (fun v340 e340 => ?_)
  have e340 : v340 = nI (i + 3) := e340.trans (nI_add i 3)
  refine va_sld hx hb hX hbl hbA hS (by rw [e340]; exact vp_in_nI (by omega) (by omega)) dL_law_341 ?_
  refine lv_topi (fun v341 e341 => ?_)
  have e341 : a3 = v341 := by rw [ha3, e341, e340, nI_clamp (by omega)]
  subst e341
  refine lv_aload_n hx hb dL_law_342 rfl (lv_at hl 2 rfl) ?_
  refine lv_iload hx hb dL_law_343 (lv_at hl 1 rfl) ?_
  refine lv_iconst (v := 4) hx hb dL_law_345 (by decide) ?_
  refine lv_iadd hx hb dL_law_346 ?_
  refine lv_topi (fun v346 e346 => ?_)
  have e346 : v346 = nI (i + 4) := e346.trans (nI_add i 4)
  refine va_sld hx hb hX hbl hbA hS (by rw [e346]; exact vp_in_nI (by omega) (by omega)) dL_law_347 ?_
  refine lv_topi (fun v347 e347 => ?_)
  have e347 : a4 = v347 := by rw [ha4, e347, e346, nI_clamp (by omega)]
  subst e347
  have hPc := hP.sub (ws' := (mW h1 cI cB cZ am ar1 iv1)) [0, 1, 2, 3, 4, 5] rfl
  have hDc := hD.sub (ws' := (mW h1 cI cB cZ am ar1 iv1)) [0, 1, 2, 3, 4, 5] (by decide) rfl
  have hKm := hK.sub (tys' := [(cI, .int), (cB, .byte), (cZ, .boolean)]) [0, 1, 2] rfl
  have hFc := va_free (wc := (mW h1 cI cB cZ am ar1 iv1)) hD hS hA [0, 1, 2, 3, 4, 5] rfl
  refine va_calli (va_runV (As := [.int a1, .int a2, .int a3, .int a4]) (rest := []) ⟨hx, hb, hml, hown, hts⟩ (m_three l D h1 cI cB cZ am ar1 iv1 H.size a1 a2 a3 a4 nc ic g bv hmm hmx) (cwV 4 hts gL_law_X1_three rfl rfl rfl (by decide +kernel) ⟨Nat.le_of_ble_eq_true rfl, Nat.le_of_ble_eq_true rfl⟩) (mP_V hKm hPc hDc (va_recv hKm hPc (ci := 1) (q0 := 0) rfl rfl)) rfl rfl hl.1 rfl (lv_room (Nat.le_of_ble_eq_true rfl)) dL_law_348 ⟨by show _ ≤ 61024; omega, by show _ ≤ 8913034; omega⟩) hS (fun q _ h => hFc q h) hFc (fun r348 u t H1 locs ht hvm e348 hB hz1 hk1 hS => ?_)
  obtain ⟨ar348, iv348⟩ := u
  obtain ⟨hP1, hK1, hD1⟩ := hB
  rw [ht] at hP1
  obtain ⟨hP, hD⟩ := va_join (wr := (oW h0 cI cL n318 ad318 ar318 iv318 qo f318)) (w1 := (mW h1 cI cB cZ am ar348 iv348)) hP hD [0, 1, 2, 3, 4, 5] [6, 7, 8, 9, 10, 11, 12, 13, 14, 15] rfl rfl (by decide) (by decide) hk1 hFc hP1 hD1
  clear hP1 hK1 hD1 hk1 hz1 hFc ht hPc hDc
  generalize H1 = H at hP hS ⊢
  have hP := hP.sub (ws' := (lawW h0 h1 qo cI cB cZ cL n318 ad318 ar318 iv318 f318 am ar348 iv348)) [10, 11, 12, 13, 14, 15, 0, 1, 2, 3, 4, 5, 6, 7, 8, 9] rfl
  have hD := hD.sub (ws' := (lawW h0 h1 qo cI cB cZ cL n318 ad318 ar318 iv318 f318 am ar348 iv348)) [10, 11, 12, 13, 14, 15, 0, 1, 2, 3, 4, 5, 6, 7, 8, 9] (by decide) rfl
  have hj := la_join e318 e348 rfl
  have hfin : la_ok n nc (n318, ad318, ar318, iv318) (ar348, iv348) K := la_mk hok hn16 hj.2.2 hK9
  refine lv_istore (lv' := [(6, .int r348), (5, .int r318), (4, .int (nI i)), (0, .ref b), (1, .ref h0), (2, .ref h1), (3, .ref qo)]) hx hb dL_law_351 hl (by decide) rfl (fun ls hl => ?_)
  refine lv_aload_n hx hb dL_law_353 rfl (lv_at hl 5 rfl) ?_
  have hPm := hP.sub (ws' := (mW h1 cI cB cZ am ar348 iv348)) [0, 1, 2, 3, 4, 5] rfl
  refine vp_callSi (W.runV (As := []) (rest := []) ⟨hx, hb, hml, hown, hts⟩ (m_thrown l D h1 cI cB cZ am ar348 iv348) (cwV 0 hts gL_law_X1_thrown rfl rfl rfl (by decide +kernel) ⟨Nat.le_of_ble_eq_true rfl, Nat.le_of_ble_eq_true rfl⟩) (rP_V hKm hPm (va_recv hKm hPm (ci := 1) (q0 := 0) rfl rfl)) rfl rfl hl.1 rfl (lv_room (Nat.le_of_ble_eq_true rfl)) dL_law_354 ⟨by show _ ≤ 61024; omega, by show _ ≤ 8913034; omega⟩) (fun r354 e354 => ?_)
  refine lv_iload hx hb dL_law_357 (lv_at hl 1 rfl) ?_
  refine lv_icmp_eq (tgt := 364) hx hb dL_law_359 (by decide) (fun c359 => ?_) (fun c359 => ?_)
  · refine lv_iload hx hb dL_law_364 (lv_at hl 1 rfl) ?_
    refine lv_if_ne (tgt := 381) hx hb dL_law_366 (by decide) (fun c366 => ?_) (fun c366 => ?_)
    · refine lv_goto (tgt := 819) hx hb dL_law_381 (by decide) ?_
      refine W.widen (k := cc + 4 + K) (n := ss + 24 + 16 * K) (by omega) (by omega) ?_
      exact hnext _ _ _ K _ _ _ hfin hP hD hS (lv_sub hl [2, 3, 4, 5, 6] rfl)
    · refine lv_aload_n hx hb dL_law_369 rfl (lv_at hl 6 rfl) ?_
      refine lv_iconst (v := 0) hx hb dL_law_370 (by decide) ?_
      refine va_lald hx hb hK hP 6 3 rfl rfl (by unfold vp_in; decide) dL_law_371 ?_
      refine lv_iload hx hb dL_law_372 (lv_at hl 0 rfl) ?_
      refine lv_i2l (v := (r348 : Int32).toInt64) hx hb dL_law_374 rfl ?_
      refine W.lcmp hx hb dL_law_375 ?_
      refine lv_if_eq (tgt := 381) hx hb dL_law_376 (by decide) (fun c376 => ?_) (fun c376 => ?_)
      · refine lv_goto (tgt := 819) hx hb dL_law_381 (by decide) ?_
        refine W.widen (k := cc + 4 + K) (n := ss + 24 + 16 * K) (by omega) (by omega) ?_
        exact hnext _ _ _ K _ _ _ hfin hP hD hS (lv_sub hl [2, 3, 4, 5, 6] rfl)
      · exact absurd (by rw [hz0, show f318 0 = _ from (hj.2.1 c366).1]; exact la_cmp _) c376
  · exact absurd (e354.trans hj.1) c359
set_option maxHeartbeats 4000000 in
set_option maxRecDepth 100000 in
theorem law_set {p : Program} {l : Launch} {e : Env} {s : State} {m : MethodId} {below : List Frame} {meth : Method} {c : Code} (hl9 : l.stackTraces = false) {D : va_G} {b L : Nat} {xs : Nat → Int32} (hL : L ≤ 2560) (C0 : lw_At p s m meth c b L xs) (hT : gT (fun q : Nat => s.heap.size ≤ q) s s.heap) {h0 h1 qo : Nat} {cI cB cZ cL : ClassId} (hK : va_K D vwCl [(cI, .int), (cB, .byte), (cZ, .boolean), (cL, .long)] s) {i n nc ic cc ss : Nat} {g : Ct} {bv : Nat → Bool} {ad am : Nat → Nat} {ar ar1 : Nat → Nat → Int32} {iv iv1 : Nat → Int32} {f : Nat → Int64} {H : Heap} {locs : List Loc} {ls : Array Slot} (hi5 : i + 5 ≤ L) (hok : gb_ok n nc ic g bv ar iv) (hmm : mm_ok nc ic g bv ar1 iv1) (hmx : nc + 6 ≤ 20000) (hn16 : n ≤ 16 * nc) (hcc : cc + 4 + 16 * (nc + 6) ≤ 61024 + n) (hss : ss + 24 + 256 * (nc + 6) ≤ 8913034 + 16 * n) (hP : va_P D vwCl (lawW h0 h1 qo cI cB cZ cL n ad ar iv f am ar1 iv1) H) (hD : va_D (fun q : Nat => s.heap.size ≤ q) (lawW h0 h1 qo cI cB cZ cL n ad ar iv f am ar1 iv1)) (hS : va_S (fun q : Nat => s.heap.size ≤ q) s.heap H locs) (hl : lv_has ls 7 [(4, .int (nI i)), (0, .ref b), (1, .ref h0), (2, .ref h1), (3, .ref qo)]) (hnext : la_nx p l e s m below meth c b D h0 h1 qo cI cB cZ cL am i n nc cc ss) : W p l e room_1 s m #[Value.ref b] below meth c H locs cc ss (lw_Z below #[Value.ref b] s) (F0 m 384 ls []) := by
  obtain ⟨hx, hb, hr, hml, hown, hts0, hX, hbl, hlocks, hgv⟩ := C0
  have hts : ∀ w ∈ wsG, w.before #[Value.ref b] s = true := fun w h => hts0 w (List.mem_filter.mp h).1
  have hown : s.vm.findClass RL = some m.cls := hown
  have hA : ∀ q : Nat, s.heap.size ≤ q → (fun q : Nat => s.heap.size ≤ q) q := fun _ h => h
  have hbA : ¬ (fun q : Nat => s.heap.size ≤ q) b := Nat.not_le.mpr hbl
  have hz0 : Int32.toNatClampNeg 0 = 0 := by decide
  obtain ⟨a1, ha1⟩ : ∃ z, z = xs (i + 1) := ⟨_, rfl⟩
  obtain ⟨a2, ha2⟩ : ∃ z, z = xs (i + 2) := ⟨_, rfl⟩
  refine lv_aload_n hx hb dL_law_384 rfl (lv_at hl 2 rfl) ?_
  refine lv_aload_n hx hb dL_law_385 rfl (lv_at hl 1 rfl) ?_
  refine lv_iload hx hb dL_law_386 (lv_at hl 0 rfl) ?_
  refine lv_iconst (v := 1) hx hb dL_law_388 (by decide) ?_
  refine lv_iadd hx hb dL_law_389 ?_
  refine lv_topi (fun v389 e389 => ?_)
  have e389 : v389 = nI (i + 1) := e389.trans (nI_add i 1)
  refine va_sld hx hb hX hbl hbA hS (by rw [e389]; exact vp_in_nI (by omega) (by omega)) dL_law_390 ?_
  refine lv_topi (fun v390 e390 => ?_)
  have e390 : a1 = v390 := by rw [ha1, e390, e389, nI_clamp (by omega)]
  subst e390
  refine lv_aload_n hx hb dL_law_391 rfl (lv_at hl 1 rfl) ?_
  refine lv_iload hx hb dL_law_392 (lv_at hl 0 rfl) ?_
  refine lv_iconst (v := 2) hx hb dL_law_394 (by decide) ?_
  refine lv_iadd hx hb dL_law_395 ?_
  refine lv_topi (fun v395 e395 => ?_)
  have e395 : v395 = nI (i + 2) := e395.trans (nI_add i 2)
  refine va_sld hx hb hX hbl hbA hS (by rw [e395]; exact vp_in_nI (by omega) (by omega)) dL_law_396 ?_
  refine lv_topi (fun v396 e396 => ?_)
  have e396 : a2 = v396 := by rw [ha2, e396, e395, nI_clamp (by omega)]
  subst e396
  refine lv_if_eq (tgt := 404) hx hb dL_law_397 (by decide) (fun c397 => ?_) (fun c397 => ?_)
  · refine lv_iconst (v := 0) hx hb dL_law_404 (by decide) ?_
    refine lv_aload_n hx hb dL_law_405 rfl (lv_at hl 4 rfl) ?_
    have hPc := hP.sub (ws' := (oW h0 cI cL n ad ar iv qo f)) [6, 7, 8, 9, 10, 11, 12, 13, 14, 15] rfl
    have hDc := hD.sub (ws' := (oW h0 cI cL n ad ar iv qo f)) [6, 7, 8, 9, 10, 11, 12, 13, 14, 15] (by decide) rfl
    have hKc := hK.sub (tys' := [(cI, .int), (cL, .long)]) [0, 3] rfl
    have hFc := va_free (wc := (oW h0 cI cL n ad ar iv qo f)) hD hS hA [6, 7, 8, 9, 10, 11, 12, 13, 14, 15] rfl
    refine va_calli (vx_runSW (As := [.ref h0, .int a1, .int 0, .ref qo]) (rest := []) ⟨hx, hb, hml, hown, hts⟩ (w_set l hl9 D h0 cI cL n ad ar iv qo f H.size a1 0 nc ic g bv hok hmx false rfl) (vx_cwSW 4 hts gL_law_L_set rfl rfl rfl (by decide +kernel) ⟨Nat.le_of_ble_eq_true rfl, Nat.le_of_ble_eq_true rfl⟩) (lt_io hKc hPc hDc hT hS hFc) rfl rfl hl.1 rfl (lv_room (Nat.le_of_ble_eq_true rfl)) dL_law_406 ⟨by show _ ≤ 61024; omega, by show _ ≤ 8913034; omega⟩) hS (fun q _ h => hFc q h) hFc (fun r406 u t H1 locs ht hvm e406 hB hz1 hk1 hS => ?_)
    obtain ⟨⟨n406, ad406, ar406, iv406⟩, f406⟩ := u
    obtain ⟨hP1, hK1, hD1⟩ := hB
    rw [ht] at hP1
    obtain ⟨hP, hD⟩ := va_join (wr := (mW h1 cI cB cZ am ar1 iv1)) (w1 := (oW h0 cI cL n406 ad406 ar406 iv406 qo f406)) hP hD [6, 7, 8, 9, 10, 11, 12, 13, 14, 15] [0, 1, 2, 3, 4, 5] rfl rfl (by decide) (by decide) hk1 hFc hP1 hD1
    clear hP1 hK1 hD1 hk1 hz1 hFc ht hPc hDc
    generalize H1 = H at hP hS ⊢
    have hP : va_P D vwCl (lawW h0 h1 qo cI cB cZ cL n406 ad406 ar406 iv406 f406 am ar1 iv1) H := hP
    have hD : va_D (fun q : Nat => s.heap.size ≤ q) (lawW h0 h1 qo cI cB cZ cL n406 ad406 ar406 iv406 f406 am ar1 iv1) := hD
    refine lv_istore (lv' := [(5, .int r406), (4, .int (nI i)), (0, .ref b), (1, .ref h0), (2, .ref h1), (3, .ref qo)]) hx hb dL_law_409 hl (by decide) rfl (fun ls hl => ?_)
    refine lv_aload_n hx hb dL_law_411 rfl (lv_at hl 4 rfl) ?_
    refine lv_aload_n hx hb dL_law_412 rfl (lv_at hl 2 rfl) ?_
    refine lv_iload hx hb dL_law_413 (lv_at hl 1 rfl) ?_
    refine lv_iconst (v := 1) hx hb dL_law_415 (by decide) ?_
    refine lv_iadd hx hb dL_law_416 ?_
    refine lv_topi (fun v416 e416 => ?_)
    have e416 : v416 = nI (i + 1) := e416.trans (nI_add i 1)
    refine va_sld hx hb hX hbl hbA hS (by rw [e416]; exact vp_in_nI (by omega) (by omega)) dL_law_417 ?_
    refine lv_topi (fun v417 e417 => ?_)
    have e417 : a1 = v417 := by rw [ha1, e417, e416, nI_clamp (by omega)]
    subst e417
    refine lv_aload_n hx hb dL_law_418 rfl (lv_at hl 2 rfl) ?_
    refine lv_iload hx hb dL_law_419 (lv_at hl 1 rfl) ?_
    refine lv_iconst (v := 2) hx hb dL_law_421 (by decide) ?_
    refine lv_iadd hx hb dL_law_422 ?_
    refine lv_topi (fun v422 e422 => ?_)
    have e422 : v422 = nI (i + 2) := e422.trans (nI_add i 2)
    refine va_sld hx hb hX hbl hbA hS (by rw [e422]; exact vp_in_nI (by omega) (by omega)) dL_law_423 ?_
    refine lv_topi (fun v423 e423 => ?_)
    have e423 : a2 = v423 := by rw [ha2, e423, e422, nI_clamp (by omega)]
    subst e423
    refine lv_if_eq (tgt := 431) hx hb dL_law_424 (by decide) (fun c424 => ?_) (fun c424 => ?_)
    · refine lv_iconst (v := 0) hx hb dL_law_431 (by decide) ?_
      have hPc := hP.sub (ws' := (mW h1 cI cB cZ am ar1 iv1)) [0, 1, 2, 3, 4, 5] rfl
      have hDc := hD.sub (ws' := (mW h1 cI cB cZ am ar1 iv1)) [0, 1, 2, 3, 4, 5] (by decide) rfl
      have hKm := hK.sub (tys' := [(cI, .int), (cB, .byte), (cZ, .boolean)]) [0, 1, 2] rfl
      have hFc := va_free (wc := (mW h1 cI cB cZ am ar1 iv1)) hD hS hA [0, 1, 2, 3, 4, 5] rfl
      refine va_calli (va_runV (As := [.int a1, .int 0]) (rest := []) ⟨hx, hb, hml, hown, hts⟩ (m_set l D h1 cI cB cZ am ar1 iv1 H.size a1 0 nc ic g bv hmm hmx false rfl) (cwV 2 hts gL_law_X1_set rfl rfl rfl (by decide +kernel) ⟨Nat.le_of_ble_eq_true rfl, Nat.le_of_ble_eq_true rfl⟩) (mP_V hKm hPc hDc (va_recv hKm hPc (ci := 1) (q0 := 0) rfl rfl)) rfl rfl hl.1 rfl (lv_room (Nat.le_of_ble_eq_true rfl)) dL_law_432 ⟨by show _ ≤ 61024; omega, by show _ ≤ 8913034; omega⟩) hS (fun q _ h => hFc q h) hFc (fun r432 u t H1 locs ht hvm e432 hB hz1 hk1 hS => ?_)
      obtain ⟨ar432, iv432⟩ := u
      obtain ⟨hP1, hK1, hD1⟩ := hB
      rw [ht] at hP1
      obtain ⟨hP, hD⟩ := va_join (wr := (oW h0 cI cL n406 ad406 ar406 iv406 qo f406)) (w1 := (mW h1 cI cB cZ am ar432 iv432)) hP hD [0, 1, 2, 3, 4, 5] [6, 7, 8, 9, 10, 11, 12, 13, 14, 15] rfl rfl (by decide) (by decide) hk1 hFc hP1 hD1
      clear hP1 hK1 hD1 hk1 hz1 hFc ht hPc hDc
      generalize H1 = H at hP hS ⊢
      have hP := hP.sub (ws' := (lawW h0 h1 qo cI cB cZ cL n406 ad406 ar406 iv406 f406 am ar432 iv432)) [10, 11, 12, 13, 14, 15, 0, 1, 2, 3, 4, 5, 6, 7, 8, 9] rfl
      have hD := hD.sub (ws' := (lawW h0 h1 qo cI cB cZ cL n406 ad406 ar406 iv406 f406 am ar432 iv432)) [10, 11, 12, 13, 14, 15, 0, 1, 2, 3, 4, 5, 6, 7, 8, 9] (by decide) rfl
      have hj := la_join e406 e432 (ct_lb _)
      have hfin : la_ok n nc (n406, ad406, ar406, iv406) (ar432, iv432) 0 := la_sm hok hn16 hj.2.2
      refine lv_istore (lv' := [(6, .int r432), (5, .int r406), (4, .int (nI i)), (0, .ref b), (1, .ref h0), (2, .ref h1), (3, .ref qo)]) hx hb dL_law_435 hl (by decide) rfl (fun ls hl => ?_)
      refine lv_aload_n hx hb dL_law_437 rfl (lv_at hl 5 rfl) ?_
      have hPm := hP.sub (ws' := (mW h1 cI cB cZ am ar432 iv432)) [0, 1, 2, 3, 4, 5] rfl
      refine vp_callSi (W.runV (As := []) (rest := []) ⟨hx, hb, hml, hown, hts⟩ (m_thrown l D h1 cI cB cZ am ar432 iv432) (cwV 0 hts gL_law_X1_thrown rfl rfl rfl (by decide +kernel) ⟨Nat.le_of_ble_eq_true rfl, Nat.le_of_ble_eq_true rfl⟩) (rP_V hKm hPm (va_recv hKm hPm (ci := 1) (q0 := 0) rfl rfl)) rfl rfl hl.1 rfl (lv_room (Nat.le_of_ble_eq_true rfl)) dL_law_438 ⟨by show _ ≤ 61024; omega, by show _ ≤ 8913034; omega⟩) (fun r438 e438 => ?_)
      refine lv_iload hx hb dL_law_441 (lv_at hl 1 rfl) ?_
      refine lv_icmp_eq (tgt := 448) hx hb dL_law_443 (by decide) (fun c443 => ?_) (fun c443 => ?_)
      · refine lv_iload hx hb dL_law_448 (lv_at hl 1 rfl) ?_
        refine lv_if_ne (tgt := 472) hx hb dL_law_450 (by decide) (fun c450 => ?_) (fun c450 => ?_)
        · refine lv_goto (tgt := 819) hx hb dL_law_472 (by decide) ?_
          refine W.widen (k := cc + 4 + 0) (n := ss + 24 + 16 * 0) (by omega) (by omega) ?_
          exact hnext _ _ _ 0 _ _ _ hfin hP hD hS (lv_sub hl [2, 3, 4, 5, 6] rfl)
        · refine lv_aload_n hx hb dL_law_453 rfl (lv_at hl 6 rfl) ?_
          refine lv_iconst (v := 0) hx hb dL_law_454 (by decide) ?_
          refine va_lald hx hb hK hP 6 3 rfl rfl (by unfold vp_in; decide) dL_law_455 ?_
          refine lv_iload hx hb dL_law_456 (lv_at hl 0 rfl) ?_
          refine lv_if_eq (tgt := 465) hx hb dL_law_458 (by decide) (fun c458 => ?_) (fun c458 => ?_)
          · refine lv_lconst (v := 0) hx hb dL_law_465 rfl ?_
            refine W.lcmp hx hb dL_law_466 ?_
            refine lv_if_eq (tgt := 472) hx hb dL_law_467 (by decide) (fun c467 => ?_) (fun c467 => ?_)
            · refine lv_goto (tgt := 819) hx hb dL_law_472 (by decide) ?_
              refine W.widen (k := cc + 4 + 0) (n := ss + 24 + 16 * 0) (by omega) (by omega) ?_
              exact hnext _ _ _ 0 _ _ _ hfin hP hD hS (lv_sub hl [2, 3, 4, 5, 6] rfl)
            · exact absurd (by rw [hz0, show f406 0 = _ from (hj.2.1 c450).1, c458]; decide) c467
          · refine lv_lconst (v := 1) hx hb dL_law_461 rfl ?_
            refine lv_goto (tgt := 466) hx hb dL_law_462 (by decide) ?_
            refine W.lcmp hx hb dL_law_466 ?_
            refine lv_if_eq (tgt := 472) hx hb dL_law_467 (by decide) (fun c467 => ?_) (fun c467 => ?_)
            · refine lv_goto (tgt := 819) hx hb dL_law_472 (by decide) ?_
              refine W.widen (k := cc + 4 + 0) (n := ss + 24 + 16 * 0) (by omega) (by omega) ?_
              exact hnext _ _ _ 0 _ _ _ hfin hP hD hS (lv_sub hl [2, 3, 4, 5, 6] rfl)
            · have hb1 : r432 = 1 := by rw [(hj.2.1 c450).2, ct_b_t (fun z => c458 ((hj.2.1 c450).2.trans z))]; rfl
              exact absurd (by rw [hz0, show f406 0 = _ from (hj.2.1 c450).1, hb1]; decide) c467
      · exact absurd (e438.trans hj.1) c443
    · exact absurd c397 c424
  · refine lv_iconst (v := 1) hx hb dL_law_400 (by decide) ?_
    refine lv_goto (tgt := 405) hx hb dL_law_401 (by decide) ?_
    refine lv_aload_n hx hb dL_law_405 rfl (lv_at hl 4 rfl) ?_
    have hPc := hP.sub (ws' := (oW h0 cI cL n ad ar iv qo f)) [6, 7, 8, 9, 10, 11, 12, 13, 14, 15] rfl
    have hDc := hD.sub (ws' := (oW h0 cI cL n ad ar iv qo f)) [6, 7, 8, 9, 10, 11, 12, 13, 14, 15] (by decide) rfl
    have hKc := hK.sub (tys' := [(cI, .int), (cL, .long)]) [0, 3] rfl
    have hFc := va_free (wc := (oW h0 cI cL n ad ar iv qo f)) hD hS hA [6, 7, 8, 9, 10, 11, 12, 13, 14, 15] rfl
    refine va_calli (vx_runSW (As := [.ref h0, .int a1, .int 1, .ref qo]) (rest := []) ⟨hx, hb, hml, hown, hts⟩ (w_set l hl9 D h0 cI cL n ad ar iv qo f H.size a1 1 nc ic g bv hok hmx true rfl) (vx_cwSW 4 hts gL_law_L_set rfl rfl rfl (by decide +kernel) ⟨Nat.le_of_ble_eq_true rfl, Nat.le_of_ble_eq_true rfl⟩) (lt_io hKc hPc hDc hT hS hFc) rfl rfl hl.1 rfl (lv_room (Nat.le_of_ble_eq_true rfl)) dL_law_406 ⟨by show _ ≤ 61024; omega, by show _ ≤ 8913034; omega⟩) hS (fun q _ h => hFc q h) hFc (fun r406 u t H1 locs ht hvm e406 hB hz1 hk1 hS => ?_)
    obtain ⟨⟨n406, ad406, ar406, iv406⟩, f406⟩ := u
    obtain ⟨hP1, hK1, hD1⟩ := hB
    rw [ht] at hP1
    obtain ⟨hP, hD⟩ := va_join (wr := (mW h1 cI cB cZ am ar1 iv1)) (w1 := (oW h0 cI cL n406 ad406 ar406 iv406 qo f406)) hP hD [6, 7, 8, 9, 10, 11, 12, 13, 14, 15] [0, 1, 2, 3, 4, 5] rfl rfl (by decide) (by decide) hk1 hFc hP1 hD1
    clear hP1 hK1 hD1 hk1 hz1 hFc ht hPc hDc
    generalize H1 = H at hP hS ⊢
    have hP : va_P D vwCl (lawW h0 h1 qo cI cB cZ cL n406 ad406 ar406 iv406 f406 am ar1 iv1) H := hP
    have hD : va_D (fun q : Nat => s.heap.size ≤ q) (lawW h0 h1 qo cI cB cZ cL n406 ad406 ar406 iv406 f406 am ar1 iv1) := hD
    refine lv_istore (lv' := [(5, .int r406), (4, .int (nI i)), (0, .ref b), (1, .ref h0), (2, .ref h1), (3, .ref qo)]) hx hb dL_law_409 hl (by decide) rfl (fun ls hl => ?_)
    refine lv_aload_n hx hb dL_law_411 rfl (lv_at hl 4 rfl) ?_
    refine lv_aload_n hx hb dL_law_412 rfl (lv_at hl 2 rfl) ?_
    refine lv_iload hx hb dL_law_413 (lv_at hl 1 rfl) ?_
    refine lv_iconst (v := 1) hx hb dL_law_415 (by decide) ?_
    refine lv_iadd hx hb dL_law_416 ?_
    refine lv_topi (fun v416 e416 => ?_)
    have e416 : v416 = nI (i + 1) := e416.trans (nI_add i 1)
    refine va_sld hx hb hX hbl hbA hS (by rw [e416]; exact vp_in_nI (by omega) (by omega)) dL_law_417 ?_
    refine lv_topi (fun v417 e417 => ?_)
    have e417 : a1 = v417 := by rw [ha1, e417, e416, nI_clamp (by omega)]
    subst e417
    refine lv_aload_n hx hb dL_law_418 rfl (lv_at hl 2 rfl) ?_
    refine lv_iload hx hb dL_law_419 (lv_at hl 1 rfl) ?_
    refine lv_iconst (v := 2) hx hb dL_law_421 (by decide) ?_
    refine lv_iadd hx hb dL_law_422 ?_
    refine lv_topi (fun v422 e422 => ?_)
    have e422 : v422 = nI (i + 2) := e422.trans (nI_add i 2)
    refine va_sld hx hb hX hbl hbA hS (by rw [e422]; exact vp_in_nI (by omega) (by omega)) dL_law_423 ?_
    refine lv_topi (fun v423 e423 => ?_)
    have e423 : a2 = v423 := by rw [ha2, e423, e422, nI_clamp (by omega)]
    subst e423
    refine lv_if_eq (tgt := 431) hx hb dL_law_424 (by decide) (fun c424 => ?_) (fun c424 => ?_)
    · exact absurd c424 c397
    · refine lv_iconst (v := 1) hx hb dL_law_427 (by decide) ?_
      refine lv_goto (tgt := 432) hx hb dL_law_428 (by decide) ?_
      have hPc := hP.sub (ws' := (mW h1 cI cB cZ am ar1 iv1)) [0, 1, 2, 3, 4, 5] rfl
      have hDc := hD.sub (ws' := (mW h1 cI cB cZ am ar1 iv1)) [0, 1, 2, 3, 4, 5] (by decide) rfl
      have hKm := hK.sub (tys' := [(cI, .int), (cB, .byte), (cZ, .boolean)]) [0, 1, 2] rfl
      have hFc := va_free (wc := (mW h1 cI cB cZ am ar1 iv1)) hD hS hA [0, 1, 2, 3, 4, 5] rfl
      refine va_calli (va_runV (As := [.int a1, .int 1]) (rest := []) ⟨hx, hb, hml, hown, hts⟩ (m_set l D h1 cI cB cZ am ar1 iv1 H.size a1 1 nc ic g bv hmm hmx true rfl) (cwV 2 hts gL_law_X1_set rfl rfl rfl (by decide +kernel) ⟨Nat.le_of_ble_eq_true rfl, Nat.le_of_ble_eq_true rfl⟩) (mP_V hKm hPc hDc (va_recv hKm hPc (ci := 1) (q0 := 0) rfl rfl)) rfl rfl hl.1 rfl (lv_room (Nat.le_of_ble_eq_true rfl)) dL_law_432 ⟨by show _ ≤ 61024; omega, by show _ ≤ 8913034; omega⟩) hS (fun q _ h => hFc q h) hFc (fun r432 u t H1 locs ht hvm e432 hB hz1 hk1 hS => ?_)
      obtain ⟨ar432, iv432⟩ := u
      obtain ⟨hP1, hK1, hD1⟩ := hB
      rw [ht] at hP1
      obtain ⟨hP, hD⟩ := va_join (wr := (oW h0 cI cL n406 ad406 ar406 iv406 qo f406)) (w1 := (mW h1 cI cB cZ am ar432 iv432)) hP hD [0, 1, 2, 3, 4, 5] [6, 7, 8, 9, 10, 11, 12, 13, 14, 15] rfl rfl (by decide) (by decide) hk1 hFc hP1 hD1
      clear hP1 hK1 hD1 hk1 hz1 hFc ht hPc hDc
      generalize H1 = H at hP hS ⊢
      have hP := hP.sub (ws' := (lawW h0 h1 qo cI cB cZ cL n406 ad406 ar406 iv406 f406 am ar432 iv432)) [10, 11, 12, 13, 14, 15, 0, 1, 2, 3, 4, 5, 6, 7, 8, 9] rfl
      have hD := hD.sub (ws' := (lawW h0 h1 qo cI cB cZ cL n406 ad406 ar406 iv406 f406 am ar432 iv432)) [10, 11, 12, 13, 14, 15, 0, 1, 2, 3, 4, 5, 6, 7, 8, 9] (by decide) rfl
      have hj := la_join e406 e432 (ct_lb _)
      have hfin : la_ok n nc (n406, ad406, ar406, iv406) (ar432, iv432) 0 := la_sm hok hn16 hj.2.2
      refine lv_istore (lv' := [(6, .int r432), (5, .int r406), (4, .int (nI i)), (0, .ref b), (1, .ref h0), (2, .ref h1), (3, .ref qo)]) hx hb dL_law_435 hl (by decide) rfl (fun ls hl => ?_)
      refine lv_aload_n hx hb dL_law_437 rfl (lv_at hl 5 rfl) ?_
      have hPm := hP.sub (ws' := (mW h1 cI cB cZ am ar432 iv432)) [0, 1, 2, 3, 4, 5] rfl
      refine vp_callSi (W.runV (As := []) (rest := []) ⟨hx, hb, hml, hown, hts⟩ (m_thrown l D h1 cI cB cZ am ar432 iv432) (cwV 0 hts gL_law_X1_thrown rfl rfl rfl (by decide +kernel) ⟨Nat.le_of_ble_eq_true rfl, Nat.le_of_ble_eq_true rfl⟩) (rP_V hKm hPm (va_recv hKm hPm (ci := 1) (q0 := 0) rfl rfl)) rfl rfl hl.1 rfl (lv_room (Nat.le_of_ble_eq_true rfl)) dL_law_438 ⟨by show _ ≤ 61024; omega, by show _ ≤ 8913034; omega⟩) (fun r438 e438 => ?_)
      refine lv_iload hx hb dL_law_441 (lv_at hl 1 rfl) ?_
      refine lv_icmp_eq (tgt := 448) hx hb dL_law_443 (by decide) (fun c443 => ?_) (fun c443 => ?_)
      · refine lv_iload hx hb dL_law_448 (lv_at hl 1 rfl) ?_
        refine lv_if_ne (tgt := 472) hx hb dL_law_450 (by decide) (fun c450 => ?_) (fun c450 => ?_)
        · refine lv_goto (tgt := 819) hx hb dL_law_472 (by decide) ?_
          refine W.widen (k := cc + 4 + 0) (n := ss + 24 + 16 * 0) (by omega) (by omega) ?_
          exact hnext _ _ _ 0 _ _ _ hfin hP hD hS (lv_sub hl [2, 3, 4, 5, 6] rfl)
        · refine lv_aload_n hx hb dL_law_453 rfl (lv_at hl 6 rfl) ?_
          refine lv_iconst (v := 0) hx hb dL_law_454 (by decide) ?_
          refine va_lald hx hb hK hP 6 3 rfl rfl (by unfold vp_in; decide) dL_law_455 ?_
          refine lv_iload hx hb dL_law_456 (lv_at hl 0 rfl) ?_
          refine lv_if_eq (tgt := 465) hx hb dL_law_458 (by decide) (fun c458 => ?_) (fun c458 => ?_)
          · refine lv_lconst (v := 0) hx hb dL_law_465 rfl ?_
            refine W.lcmp hx hb dL_law_466 ?_
            refine lv_if_eq (tgt := 472) hx hb dL_law_467 (by decide) (fun c467 => ?_) (fun c467 => ?_)
            · refine lv_goto (tgt := 819) hx hb dL_law_472 (by decide) ?_
              refine W.widen (k := cc + 4 + 0) (n := ss + 24 + 16 * 0) (by omega) (by omega) ?_
              exact hnext _ _ _ 0 _ _ _ hfin hP hD hS (lv_sub hl [2, 3, 4, 5, 6] rfl)
            · exact absurd (by rw [hz0, show f406 0 = _ from (hj.2.1 c450).1, c458]; decide) c467
          · refine lv_lconst (v := 1) hx hb dL_law_461 rfl ?_
            refine lv_goto (tgt := 466) hx hb dL_law_462 (by decide) ?_
            refine W.lcmp hx hb dL_law_466 ?_
            refine lv_if_eq (tgt := 472) hx hb dL_law_467 (by decide) (fun c467 => ?_) (fun c467 => ?_)
            · refine lv_goto (tgt := 819) hx hb dL_law_472 (by decide) ?_
              refine W.widen (k := cc + 4 + 0) (n := ss + 24 + 16 * 0) (by omega) (by omega) ?_
              exact hnext _ _ _ 0 _ _ _ hfin hP hD hS (lv_sub hl [2, 3, 4, 5, 6] rfl)
            · have hb1 : r432 = 1 := by rw [(hj.2.1 c450).2, ct_b_t (fun z => c458 ((hj.2.1 c450).2.trans z))]; rfl
              exact absurd (by rw [hz0, show f406 0 = _ from (hj.2.1 c450).1, hb1]; decide) c467
      · exact absurd (e438.trans hj.1) c443
set_option maxHeartbeats 4000000 in
set_option maxRecDepth 100000 in
theorem law_value {p : Program} {l : Launch} {e : Env} {s : State} {m : MethodId} {below : List Frame} {meth : Method} {c : Code} (hl9 : l.stackTraces = false) {D : va_G} {b L : Nat} {xs : Nat → Int32} (hL : L ≤ 2560) (C0 : lw_At p s m meth c b L xs) (hT : gT (fun q : Nat => s.heap.size ≤ q) s s.heap) {h0 h1 qo : Nat} {cI cB cZ cL : ClassId} (hK : va_K D vwCl [(cI, .int), (cB, .byte), (cZ, .boolean), (cL, .long)] s) {i n nc ic cc ss : Nat} {g : Ct} {bv : Nat → Bool} {ad am : Nat → Nat} {ar ar1 : Nat → Nat → Int32} {iv iv1 : Nat → Int32} {f : Nat → Int64} {H : Heap} {locs : List Loc} {ls : Array Slot} (hi5 : i + 5 ≤ L) (hok : gb_ok n nc ic g bv ar iv) (hmm : mm_ok nc ic g bv ar1 iv1) (hmx : nc + 6 ≤ 20000) (hn16 : n ≤ 16 * nc) (hcc : cc + 4 + 16 * (nc + 6) ≤ 61024 + n) (hss : ss + 24 + 256 * (nc + 6) ≤ 8913034 + 16 * n) (hP : va_P D vwCl (lawW h0 h1 qo cI cB cZ cL n ad ar iv f am ar1 iv1) H) (hD : va_D (fun q : Nat => s.heap.size ≤ q) (lawW h0 h1 qo cI cB cZ cL n ad ar iv f am ar1 iv1)) (hS : va_S (fun q : Nat => s.heap.size ≤ q) s.heap H locs) (hl : lv_has ls 7 [(4, .int (nI i)), (0, .ref b), (1, .ref h0), (2, .ref h1), (3, .ref qo)]) (hnext : la_nx p l e s m below meth c b D h0 h1 qo cI cB cZ cL am i n nc cc ss) : W p l e room_1 s m #[Value.ref b] below meth c H locs cc ss (lw_Z below #[Value.ref b] s) (F0 m 475 ls []) := by
  obtain ⟨hx, hb, hr, hml, hown, hts0, hX, hbl, hlocks, hgv⟩ := C0
  have hts : ∀ w ∈ wsG, w.before #[Value.ref b] s = true := fun w h => hts0 w (List.mem_filter.mp h).1
  have hown : s.vm.findClass RL = some m.cls := hown
  have hA : ∀ q : Nat, s.heap.size ≤ q → (fun q : Nat => s.heap.size ≤ q) q := fun _ h => h
  have hbA : ¬ (fun q : Nat => s.heap.size ≤ q) b := Nat.not_le.mpr hbl
  have hz0 : Int32.toNatClampNeg 0 = 0 := by decide
  obtain ⟨a1, ha1⟩ : ∃ z, z = xs (i + 1) := ⟨_, rfl⟩
  refine lv_aload_n hx hb dL_law_475 rfl (lv_at hl 2 rfl) ?_
  refine lv_aload_n hx hb dL_law_476 rfl (lv_at hl 1 rfl) ?_
  refine lv_iload hx hb dL_law_477 (lv_at hl 0 rfl) ?_
  refine lv_iconst (v := 1) hx hb dL_law_479 (by decide) ?_
  refine lv_iadd hx hb dL_law_480 ?_
  refine lv_topi (fun v480 e480 => ?_)
  have e480 : v480 = nI (i + 1) := e480.trans (nI_add i 1)
  refine va_sld hx hb hX hbl hbA hS (by rw [e480]; exact vp_in_nI (by omega) (by omega)) dL_law_481 ?_
  refine lv_topi (fun v481 e481 => ?_)
  have e481 : a1 = v481 := by rw [ha1, e481, e480, nI_clamp (by omega)]
  subst e481
  refine lv_aload_n hx hb dL_law_482 rfl (lv_at hl 4 rfl) ?_
  have hPc := hP.sub (ws' := (oW h0 cI cL n ad ar iv qo f)) [6, 7, 8, 9, 10, 11, 12, 13, 14, 15] rfl
  have hDc := hD.sub (ws' := (oW h0 cI cL n ad ar iv qo f)) [6, 7, 8, 9, 10, 11, 12, 13, 14, 15] (by decide) rfl
  have hKc := hK.sub (tys' := [(cI, .int), (cL, .long)]) [0, 3] rfl
  have hFc := va_free (wc := (oW h0 cI cL n ad ar iv qo f)) hD hS hA [6, 7, 8, 9, 10, 11, 12, 13, 14, 15] rfl
  refine va_calli (vx_runSW (As := [.ref h0, .int a1, .ref qo]) (rest := []) ⟨hx, hb, hml, hown, hts⟩ (w_value l hl9 D h0 cI cL n ad ar iv qo f H.size a1 nc ic g bv hok hmx ) (vx_cwSW 3 hts gL_law_L_value rfl rfl rfl (by decide +kernel) ⟨Nat.le_of_ble_eq_true rfl, Nat.le_of_ble_eq_true rfl⟩) (lt_io hKc hPc hDc hT hS hFc) rfl rfl hl.1 rfl (lv_room (Nat.le_of_ble_eq_true rfl)) dL_law_483 ⟨by show _ ≤ 61024; omega, by show _ ≤ 8913034; omega⟩) hS (fun q _ h => hFc q h) hFc (fun r483 u t H1 locs ht hvm e483 hB hz1 hk1 hS => ?_)
  obtain ⟨⟨n483, ad483, ar483, iv483⟩, f483⟩ := u
  obtain ⟨hP1, hK1, hD1⟩ := hB
  rw [ht] at hP1
  obtain ⟨hP, hD⟩ := va_join (wr := (mW h1 cI cB cZ am ar1 iv1)) (w1 := (oW h0 cI cL n483 ad483 ar483 iv483 qo f483)) hP hD [6, 7, 8, 9, 10, 11, 12, 13, 14, 15] [0, 1, 2, 3, 4, 5] rfl rfl (by decide) (by decide) hk1 hFc hP1 hD1
  clear hP1 hK1 hD1 hk1 hz1 hFc ht hPc hDc
  generalize H1 = H at hP hS ⊢
  have hP : va_P D vwCl (lawW h0 h1 qo cI cB cZ cL n483 ad483 ar483 iv483 f483 am ar1 iv1) H := hP
  have hD : va_D (fun q : Nat => s.heap.size ≤ q) (lawW h0 h1 qo cI cB cZ cL n483 ad483 ar483 iv483 f483 am ar1 iv1) := hD
  refine lv_istore (lv' := [(5, .int r483), (4, .int (nI i)), (0, .ref b), (1, .ref h0), (2, .ref h1), (3, .ref qo)]) hx hb dL_law_486 hl (by decide) rfl (fun ls hl => ?_)
  refine lv_aload_n hx hb dL_law_488 rfl (lv_at hl 4 rfl) ?_
  refine lv_aload_n hx hb dL_law_489 rfl (lv_at hl 2 rfl) ?_
  refine lv_iload hx hb dL_law_490 (lv_at hl 1 rfl) ?_
  refine lv_iconst (v := 1) hx hb dL_law_492 (by decide) ?_
  refine lv_iadd hx hb dL_law_493 ?_
  refine lv_topi (fun v493 e493 => ?_)
  have e493 : v493 = nI (i + 1) := e493.trans (nI_add i 1)
  refine va_sld hx hb hX hbl hbA hS (by rw [e493]; exact vp_in_nI (by omega) (by omega)) dL_law_494 ?_
  refine lv_topi (fun v494 e494 => ?_)
  have e494 : a1 = v494 := by rw [ha1, e494, e493, nI_clamp (by omega)]
  subst e494
  have hPc := hP.sub (ws' := (mW h1 cI cB cZ am ar1 iv1)) [0, 1, 2, 3, 4, 5] rfl
  have hDc := hD.sub (ws' := (mW h1 cI cB cZ am ar1 iv1)) [0, 1, 2, 3, 4, 5] (by decide) rfl
  have hKm := hK.sub (tys' := [(cI, .int), (cB, .byte), (cZ, .boolean)]) [0, 1, 2] rfl
  have hFc := va_free (wc := (mW h1 cI cB cZ am ar1 iv1)) hD hS hA [0, 1, 2, 3, 4, 5] rfl
  refine va_calli (va_runV (As := [.int a1]) (rest := []) ⟨hx, hb, hml, hown, hts⟩ (m_value l D h1 cI cB cZ am ar1 iv1 H.size a1 nc ic g bv hmm hmx) (cwV 1 hts gL_law_X1_value rfl rfl rfl (by decide +kernel) ⟨Nat.le_of_ble_eq_true rfl, Nat.le_of_ble_eq_true rfl⟩) (mP_V hKm hPc hDc (va_recv hKm hPc (ci := 1) (q0 := 0) rfl rfl)) rfl rfl hl.1 rfl (lv_room (Nat.le_of_ble_eq_true rfl)) dL_law_495 ⟨by show _ ≤ 61024; omega, by show _ ≤ 8913034; omega⟩) hS (fun q _ h => hFc q h) hFc (fun r495 u t H1 locs ht hvm e495 hB hz1 hk1 hS => ?_)
  obtain ⟨ar495, iv495⟩ := u
  obtain ⟨hP1, hK1, hD1⟩ := hB
  rw [ht] at hP1
  obtain ⟨hP, hD⟩ := va_join (wr := (oW h0 cI cL n483 ad483 ar483 iv483 qo f483)) (w1 := (mW h1 cI cB cZ am ar495 iv495)) hP hD [0, 1, 2, 3, 4, 5] [6, 7, 8, 9, 10, 11, 12, 13, 14, 15] rfl rfl (by decide) (by decide) hk1 hFc hP1 hD1
  clear hP1 hK1 hD1 hk1 hz1 hFc ht hPc hDc
  generalize H1 = H at hP hS ⊢
  have hP := hP.sub (ws' := (lawW h0 h1 qo cI cB cZ cL n483 ad483 ar483 iv483 f483 am ar495 iv495)) [10, 11, 12, 13, 14, 15, 0, 1, 2, 3, 4, 5, 6, 7, 8, 9] rfl
  have hD := hD.sub (ws' := (lawW h0 h1 qo cI cB cZ cL n483 ad483 ar483 iv483 f483 am ar495 iv495)) [10, 11, 12, 13, 14, 15, 0, 1, 2, 3, 4, 5, 6, 7, 8, 9] (by decide) rfl
  have hj := la_join e483 e495 (ct_lb _)
  have hfin : la_ok n nc (n483, ad483, ar483, iv483) (ar495, iv495) 0 := la_sm hok hn16 hj.2.2
  refine lv_istore (lv' := [(6, .int r495), (5, .int r483), (4, .int (nI i)), (0, .ref b), (1, .ref h0), (2, .ref h1), (3, .ref qo)]) hx hb dL_law_498 hl (by decide) rfl (fun ls hl => ?_)
  refine lv_aload_n hx hb dL_law_500 rfl (lv_at hl 5 rfl) ?_
  have hPm := hP.sub (ws' := (mW h1 cI cB cZ am ar495 iv495)) [0, 1, 2, 3, 4, 5] rfl
  refine vp_callSi (W.runV (As := []) (rest := []) ⟨hx, hb, hml, hown, hts⟩ (m_thrown l D h1 cI cB cZ am ar495 iv495) (cwV 0 hts gL_law_X1_thrown rfl rfl rfl (by decide +kernel) ⟨Nat.le_of_ble_eq_true rfl, Nat.le_of_ble_eq_true rfl⟩) (rP_V hKm hPm (va_recv hKm hPm (ci := 1) (q0 := 0) rfl rfl)) rfl rfl hl.1 rfl (lv_room (Nat.le_of_ble_eq_true rfl)) dL_law_501 ⟨by show _ ≤ 61024; omega, by show _ ≤ 8913034; omega⟩) (fun r501 e501 => ?_)
  refine lv_iload hx hb dL_law_504 (lv_at hl 1 rfl) ?_
  refine lv_icmp_eq (tgt := 511) hx hb dL_law_506 (by decide) (fun c506 => ?_) (fun c506 => ?_)
  · refine lv_iload hx hb dL_law_511 (lv_at hl 1 rfl) ?_
    refine lv_if_ne (tgt := 535) hx hb dL_law_513 (by decide) (fun c513 => ?_) (fun c513 => ?_)
    · refine lv_goto (tgt := 819) hx hb dL_law_535 (by decide) ?_
      refine W.widen (k := cc + 4 + 0) (n := ss + 24 + 16 * 0) (by omega) (by omega) ?_
      exact hnext _ _ _ 0 _ _ _ hfin hP hD hS (lv_sub hl [2, 3, 4, 5, 6] rfl)
    · refine lv_aload_n hx hb dL_law_516 rfl (lv_at hl 6 rfl) ?_
      refine lv_iconst (v := 0) hx hb dL_law_517 (by decide) ?_
      refine va_lald hx hb hK hP 6 3 rfl rfl (by unfold vp_in; decide) dL_law_518 ?_
      refine lv_iload hx hb dL_law_519 (lv_at hl 0 rfl) ?_
      refine lv_if_eq (tgt := 528) hx hb dL_law_521 (by decide) (fun c521 => ?_) (fun c521 => ?_)
      · refine lv_lconst (v := 0) hx hb dL_law_528 rfl ?_
        refine W.lcmp hx hb dL_law_529 ?_
        refine lv_if_eq (tgt := 535) hx hb dL_law_530 (by decide) (fun c530 => ?_) (fun c530 => ?_)
        · refine lv_goto (tgt := 819) hx hb dL_law_535 (by decide) ?_
          refine W.widen (k := cc + 4 + 0) (n := ss + 24 + 16 * 0) (by omega) (by omega) ?_
          exact hnext _ _ _ 0 _ _ _ hfin hP hD hS (lv_sub hl [2, 3, 4, 5, 6] rfl)
        · exact absurd (by rw [hz0, show f483 0 = _ from (hj.2.1 c513).1, c521]; decide) c530
      · refine lv_lconst (v := 1) hx hb dL_law_524 rfl ?_
        refine lv_goto (tgt := 529) hx hb dL_law_525 (by decide) ?_
        refine W.lcmp hx hb dL_law_529 ?_
        refine lv_if_eq (tgt := 535) hx hb dL_law_530 (by decide) (fun c530 => ?_) (fun c530 => ?_)
        · refine lv_goto (tgt := 819) hx hb dL_law_535 (by decide) ?_
          refine W.widen (k := cc + 4 + 0) (n := ss + 24 + 16 * 0) (by omega) (by omega) ?_
          exact hnext _ _ _ 0 _ _ _ hfin hP hD hS (lv_sub hl [2, 3, 4, 5, 6] rfl)
        · have hb1 : r495 = 1 := by rw [(hj.2.1 c513).2, ct_b_t (fun z => c521 ((hj.2.1 c513).2.trans z))]; rfl
          exact absurd (by rw [hz0, show f483 0 = _ from (hj.2.1 c513).1, hb1]; decide) c530
  · exact absurd (e501.trans hj.1) c506
set_option maxHeartbeats 4000000 in
set_option maxRecDepth 100000 in
theorem law_node {p : Program} {l : Launch} {e : Env} {s : State} {m : MethodId} {below : List Frame} {meth : Method} {c : Code} (hl9 : l.stackTraces = false) {D : va_G} {b L : Nat} {xs : Nat → Int32} (hL : L ≤ 2560) (C0 : lw_At p s m meth c b L xs) (hT : gT (fun q : Nat => s.heap.size ≤ q) s s.heap) {h0 h1 qo : Nat} {cI cB cZ cL : ClassId} (hK : va_K D vwCl [(cI, .int), (cB, .byte), (cZ, .boolean), (cL, .long)] s) {i n nc ic cc ss : Nat} {g : Ct} {bv : Nat → Bool} {ad am : Nat → Nat} {ar ar1 : Nat → Nat → Int32} {iv iv1 : Nat → Int32} {f : Nat → Int64} {H : Heap} {locs : List Loc} {ls : Array Slot} (hi5 : i + 5 ≤ L) (hok : gb_ok n nc ic g bv ar iv) (hmm : mm_ok nc ic g bv ar1 iv1) (hmx : nc + 6 ≤ 20000) (hn16 : n ≤ 16 * nc) (hcc : cc + 4 + 16 * (nc + 6) ≤ 61024 + n) (hss : ss + 24 + 256 * (nc + 6) ≤ 8913034 + 16 * n) (hP : va_P D vwCl (lawW h0 h1 qo cI cB cZ cL n ad ar iv f am ar1 iv1) H) (hD : va_D (fun q : Nat => s.heap.size ≤ q) (lawW h0 h1 qo cI cB cZ cL n ad ar iv f am ar1 iv1)) (hS : va_S (fun q : Nat => s.heap.size ≤ q) s.heap H locs) (hl : lv_has ls 7 [(4, .int (nI i)), (0, .ref b), (1, .ref h0), (2, .ref h1), (3, .ref qo)]) (hnext : la_nx p l e s m below meth c b D h0 h1 qo cI cB cZ cL am i n nc cc ss) : W p l e room_1 s m #[Value.ref b] below meth c H locs cc ss (lw_Z below #[Value.ref b] s) (F0 m 538 ls []) := by
  obtain ⟨hx, hb, hr, hml, hown, hts0, hX, hbl, hlocks, hgv⟩ := C0
  have hts : ∀ w ∈ wsG, w.before #[Value.ref b] s = true := fun w h => hts0 w (List.mem_filter.mp h).1
  have hown : s.vm.findClass RL = some m.cls := hown
  have hA : ∀ q : Nat, s.heap.size ≤ q → (fun q : Nat => s.heap.size ≤ q) q := fun _ h => h
  have hbA : ¬ (fun q : Nat => s.heap.size ≤ q) b := Nat.not_le.mpr hbl
  have hz0 : Int32.toNatClampNeg 0 = 0 := by decide
  obtain ⟨a1, ha1⟩ : ∃ z, z = xs (i + 1) := ⟨_, rfl⟩
  obtain ⟨a2, ha2⟩ : ∃ z, z = xs (i + 2) := ⟨_, rfl⟩
  refine lv_aload_n hx hb dL_law_538 rfl (lv_at hl 2 rfl) ?_
  refine lv_aload_n hx hb dL_law_539 rfl (lv_at hl 1 rfl) ?_
  refine lv_iload hx hb dL_law_540 (lv_at hl 0 rfl) ?_
  refine lv_iconst (v := 1) hx hb dL_law_542 (by decide) ?_
  refine lv_iadd hx hb dL_law_543 ?_
  refine lv_topi (fun v543 e543 => ?_)
  have e543 : v543 = nI (i + 1) := e543.trans (nI_add i 1)
  refine va_sld hx hb hX hbl hbA hS (by rw [e543]; exact vp_in_nI (by omega) (by omega)) dL_law_544 ?_
  refine lv_topi (fun v544 e544 => ?_)
  have e544 : a1 = v544 := by rw [ha1, e544, e543, nI_clamp (by omega)]
  subst e544
  refine lv_aload_n hx hb dL_law_545 rfl (lv_at hl 1 rfl) ?_
  refine lv_iload hx hb dL_law_546 (lv_at hl 0 rfl) ?_
  refine lv_iconst (v := 2) hx hb dL_law_548 (by decide) ?_
  refine lv_iadd hx hb dL_law_549 ?_
  refine lv_topi (fun v549 e549 => ?_)
  have e549 : v549 = nI (i + 2) := e549.trans (nI_add i 2)
  refine va_sld hx hb hX hbl hbA hS (by rw [e549]; exact vp_in_nI (by omega) (by omega)) dL_law_550 ?_
  refine lv_topi (fun v550 e550 => ?_)
  have e550 : a2 = v550 := by rw [ha2, e550, e549, nI_clamp (by omega)]
  subst e550
  refine lv_aload_n hx hb dL_law_551 rfl (lv_at hl 4 rfl) ?_
  have hPc := hP.sub (ws' := (oW h0 cI cL n ad ar iv qo f)) [6, 7, 8, 9, 10, 11, 12, 13, 14, 15] rfl
  have hDc := hD.sub (ws' := (oW h0 cI cL n ad ar iv qo f)) [6, 7, 8, 9, 10, 11, 12, 13, 14, 15] (by decide) rfl
  have hKc := hK.sub (tys' := [(cI, .int), (cL, .long)]) [0, 3] rfl
  have hFc := va_free (wc := (oW h0 cI cL n ad ar iv qo f)) hD hS hA [6, 7, 8, 9, 10, 11, 12, 13, 14, 15] rfl
  refine va_calli (vx_runSW (As := [.ref h0, .int a1, .int a2, .ref qo]) (rest := []) ⟨hx, hb, hml, hown, hts⟩ (w_node l hl9 D h0 cI cL n ad ar iv qo f H.size a1 a2 nc ic g bv hok hmx ) (vx_cwSW 4 hts gL_law_L_node rfl rfl rfl (by decide +kernel) ⟨Nat.le_of_ble_eq_true rfl, Nat.le_of_ble_eq_true rfl⟩) (lt_io hKc hPc hDc hT hS hFc) rfl rfl hl.1 rfl (lv_room (Nat.le_of_ble_eq_true rfl)) dL_law_552 ⟨by show _ ≤ 61024; omega, by show _ ≤ 8913034; omega⟩) hS (fun q _ h => hFc q h) hFc (fun r552 u t H1 locs ht hvm e552 hB hz1 hk1 hS => ?_)
  obtain ⟨⟨n552, ad552, ar552, iv552⟩, f552⟩ := u
  obtain ⟨hP1, hK1, hD1⟩ := hB
  rw [ht] at hP1
  obtain ⟨hP, hD⟩ := va_join (wr := (mW h1 cI cB cZ am ar1 iv1)) (w1 := (oW h0 cI cL n552 ad552 ar552 iv552 qo f552)) hP hD [6, 7, 8, 9, 10, 11, 12, 13, 14, 15] [0, 1, 2, 3, 4, 5] rfl rfl (by decide) (by decide) hk1 hFc hP1 hD1
  clear hP1 hK1 hD1 hk1 hz1 hFc ht hPc hDc
  generalize H1 = H at hP hS ⊢
  have hP : va_P D vwCl (lawW h0 h1 qo cI cB cZ cL n552 ad552 ar552 iv552 f552 am ar1 iv1) H := hP
  have hD : va_D (fun q : Nat => s.heap.size ≤ q) (lawW h0 h1 qo cI cB cZ cL n552 ad552 ar552 iv552 f552 am ar1 iv1) := hD
  refine lv_istore (lv' := [(5, .int r552), (4, .int (nI i)), (0, .ref b), (1, .ref h0), (2, .ref h1), (3, .ref qo)]) hx hb dL_law_555 hl (by decide) rfl (fun ls hl => ?_)
  refine lv_aload_n hx hb dL_law_557 rfl (lv_at hl 4 rfl) ?_
  refine lv_aload_n hx hb dL_law_558 rfl (lv_at hl 2 rfl) ?_
  refine lv_iload hx hb dL_law_559 (lv_at hl 1 rfl) ?_
  refine lv_iconst (v := 1) hx hb dL_law_561 (by decide) ?_
  refine lv_iadd hx hb dL_law_562 ?_
  refine lv_topi (fun v562 e562 => ?_)
  have e562 : v562 = nI (i + 1) := e562.trans (nI_add i 1)
  refine va_sld hx hb hX hbl hbA hS (by rw [e562]; exact vp_in_nI (by omega) (by omega)) dL_law_563 ?_
  refine lv_topi (fun v563 e563 => ?_)
  have e563 : a1 = v563 := by rw [ha1, e563, e562, nI_clamp (by omega)]
  subst e563
  refine lv_aload_n hx hb dL_law_564 rfl (lv_at hl 2 rfl) ?_
  refine lv_iload hx hb dL_law_565 (lv_at hl 1 rfl) ?_
  refine lv_iconst (v := 2) hx hb dL_law_567 (by decide) ?_
  refine lv_iadd hx hb dL_law_568 ?_
  refine lv_topi (fun v568 e568 => ?_)
  have e568 : v568 = nI (i + 2) := e568.trans (nI_add i 2)
  refine va_sld hx hb hX hbl hbA hS (by rw [e568]; exact vp_in_nI (by omega) (by omega)) dL_law_569 ?_
  refine lv_topi (fun v569 e569 => ?_)
  have e569 : a2 = v569 := by rw [ha2, e569, e568, nI_clamp (by omega)]
  subst e569
  have hPc := hP.sub (ws' := (mW h1 cI cB cZ am ar1 iv1)) [0, 1, 2, 3, 4, 5] rfl
  have hDc := hD.sub (ws' := (mW h1 cI cB cZ am ar1 iv1)) [0, 1, 2, 3, 4, 5] (by decide) rfl
  have hKm := hK.sub (tys' := [(cI, .int), (cB, .byte), (cZ, .boolean)]) [0, 1, 2] rfl
  have hFc := va_free (wc := (mW h1 cI cB cZ am ar1 iv1)) hD hS hA [0, 1, 2, 3, 4, 5] rfl
  refine va_calli (va_runV (As := [.int a1, .int a2]) (rest := []) ⟨hx, hb, hml, hown, hts⟩ (m_node l D h1 cI cB cZ am ar1 iv1 H.size a1 a2 nc ic g bv hmm hmx) (cwV 2 hts gL_law_X1_node rfl rfl rfl (by decide +kernel) ⟨Nat.le_of_ble_eq_true rfl, Nat.le_of_ble_eq_true rfl⟩) (mP_V hKm hPc hDc (va_recv hKm hPc (ci := 1) (q0 := 0) rfl rfl)) rfl rfl hl.1 rfl (lv_room (Nat.le_of_ble_eq_true rfl)) dL_law_570 ⟨by show _ ≤ 61024; omega, by show _ ≤ 8913034; omega⟩) hS (fun q _ h => hFc q h) hFc (fun r570 u t H1 locs ht hvm e570 hB hz1 hk1 hS => ?_)
  obtain ⟨ar570, iv570⟩ := u
  obtain ⟨hP1, hK1, hD1⟩ := hB
  rw [ht] at hP1
  obtain ⟨hP, hD⟩ := va_join (wr := (oW h0 cI cL n552 ad552 ar552 iv552 qo f552)) (w1 := (mW h1 cI cB cZ am ar570 iv570)) hP hD [0, 1, 2, 3, 4, 5] [6, 7, 8, 9, 10, 11, 12, 13, 14, 15] rfl rfl (by decide) (by decide) hk1 hFc hP1 hD1
  clear hP1 hK1 hD1 hk1 hz1 hFc ht hPc hDc
  generalize H1 = H at hP hS ⊢
  have hP := hP.sub (ws' := (lawW h0 h1 qo cI cB cZ cL n552 ad552 ar552 iv552 f552 am ar570 iv570)) [10, 11, 12, 13, 14, 15, 0, 1, 2, 3, 4, 5, 6, 7, 8, 9] rfl
  have hD := hD.sub (ws' := (lawW h0 h1 qo cI cB cZ cL n552 ad552 ar552 iv552 f552 am ar570 iv570)) [10, 11, 12, 13, 14, 15, 0, 1, 2, 3, 4, 5, 6, 7, 8, 9] (by decide) rfl
  have hj := la_join e552 e570 rfl
  have hfin : la_ok n nc (n552, ad552, ar552, iv552) (ar570, iv570) 0 := la_sm hok hn16 hj.2.2
  refine lv_istore (lv' := [(6, .int r570), (5, .int r552), (4, .int (nI i)), (0, .ref b), (1, .ref h0), (2, .ref h1), (3, .ref qo)]) hx hb dL_law_573 hl (by decide) rfl (fun ls hl => ?_)
  refine lv_aload_n hx hb dL_law_575 rfl (lv_at hl 5 rfl) ?_
  have hPm := hP.sub (ws' := (mW h1 cI cB cZ am ar570 iv570)) [0, 1, 2, 3, 4, 5] rfl
  refine vp_callSi (W.runV (As := []) (rest := []) ⟨hx, hb, hml, hown, hts⟩ (m_thrown l D h1 cI cB cZ am ar570 iv570) (cwV 0 hts gL_law_X1_thrown rfl rfl rfl (by decide +kernel) ⟨Nat.le_of_ble_eq_true rfl, Nat.le_of_ble_eq_true rfl⟩) (rP_V hKm hPm (va_recv hKm hPm (ci := 1) (q0 := 0) rfl rfl)) rfl rfl hl.1 rfl (lv_room (Nat.le_of_ble_eq_true rfl)) dL_law_576 ⟨by show _ ≤ 61024; omega, by show _ ≤ 8913034; omega⟩) (fun r576 e576 => ?_)
  refine lv_iload hx hb dL_law_579 (lv_at hl 1 rfl) ?_
  refine lv_icmp_eq (tgt := 586) hx hb dL_law_581 (by decide) (fun c581 => ?_) (fun c581 => ?_)
  · refine lv_iload hx hb dL_law_586 (lv_at hl 1 rfl) ?_
    refine lv_if_ne (tgt := 603) hx hb dL_law_588 (by decide) (fun c588 => ?_) (fun c588 => ?_)
    · refine lv_goto (tgt := 819) hx hb dL_law_603 (by decide) ?_
      refine W.widen (k := cc + 4 + 0) (n := ss + 24 + 16 * 0) (by omega) (by omega) ?_
      exact hnext _ _ _ 0 _ _ _ hfin hP hD hS (lv_sub hl [2, 3, 4, 5, 6] rfl)
    · refine lv_aload_n hx hb dL_law_591 rfl (lv_at hl 6 rfl) ?_
      refine lv_iconst (v := 0) hx hb dL_law_592 (by decide) ?_
      refine va_lald hx hb hK hP 6 3 rfl rfl (by unfold vp_in; decide) dL_law_593 ?_
      refine lv_iload hx hb dL_law_594 (lv_at hl 0 rfl) ?_
      refine lv_i2l (v := (r570 : Int32).toInt64) hx hb dL_law_596 rfl ?_
      refine W.lcmp hx hb dL_law_597 ?_
      refine lv_if_eq (tgt := 603) hx hb dL_law_598 (by decide) (fun c598 => ?_) (fun c598 => ?_)
      · refine lv_goto (tgt := 819) hx hb dL_law_603 (by decide) ?_
        refine W.widen (k := cc + 4 + 0) (n := ss + 24 + 16 * 0) (by omega) (by omega) ?_
        exact hnext _ _ _ 0 _ _ _ hfin hP hD hS (lv_sub hl [2, 3, 4, 5, 6] rfl)
      · exact absurd (by rw [hz0, show f552 0 = _ from (hj.2.1 c588).1]; exact la_cmp _) c598
  · exact absurd (e576.trans hj.1) c581
set_option maxHeartbeats 4000000 in
set_option maxRecDepth 100000 in
theorem law_cone {p : Program} {l : Launch} {e : Env} {s : State} {m : MethodId} {below : List Frame} {meth : Method} {c : Code} (hl9 : l.stackTraces = false) {D : va_G} {b L : Nat} {xs : Nat → Int32} (hL : L ≤ 2560) (C0 : lw_At p s m meth c b L xs) (hT : gT (fun q : Nat => s.heap.size ≤ q) s s.heap) {h0 h1 qo : Nat} {cI cB cZ cL : ClassId} (hK : va_K D vwCl [(cI, .int), (cB, .byte), (cZ, .boolean), (cL, .long)] s) {i n nc ic cc ss : Nat} {g : Ct} {bv : Nat → Bool} {ad am : Nat → Nat} {ar ar1 : Nat → Nat → Int32} {iv iv1 : Nat → Int32} {f : Nat → Int64} {H : Heap} {locs : List Loc} {ls : Array Slot} (hi5 : i + 5 ≤ L) (hok : gb_ok n nc ic g bv ar iv) (hmm : mm_ok nc ic g bv ar1 iv1) (hmx : nc + 6 ≤ 20000) (hn16 : n ≤ 16 * nc) (hcc : cc + 4 + 16 * (nc + 6) ≤ 61024 + n) (hss : ss + 24 + 256 * (nc + 6) ≤ 8913034 + 16 * n) (hP : va_P D vwCl (lawW h0 h1 qo cI cB cZ cL n ad ar iv f am ar1 iv1) H) (hD : va_D (fun q : Nat => s.heap.size ≤ q) (lawW h0 h1 qo cI cB cZ cL n ad ar iv f am ar1 iv1)) (hS : va_S (fun q : Nat => s.heap.size ≤ q) s.heap H locs) (hl : lv_has ls 7 [(4, .int (nI i)), (0, .ref b), (1, .ref h0), (2, .ref h1), (3, .ref qo)]) (hnext : la_nx p l e s m below meth c b D h0 h1 qo cI cB cZ cL am i n nc cc ss) : W p l e room_1 s m #[Value.ref b] below meth c H locs cc ss (lw_Z below #[Value.ref b] s) (F0 m 606 ls []) := by
  obtain ⟨hx, hb, hr, hml, hown, hts0, hX, hbl, hlocks, hgv⟩ := C0
  have hts : ∀ w ∈ wsG, w.before #[Value.ref b] s = true := fun w h => hts0 w (List.mem_filter.mp h).1
  have hown : s.vm.findClass RL = some m.cls := hown
  have hA : ∀ q : Nat, s.heap.size ≤ q → (fun q : Nat => s.heap.size ≤ q) q := fun _ h => h
  have hbA : ¬ (fun q : Nat => s.heap.size ≤ q) b := Nat.not_le.mpr hbl
  have hz0 : Int32.toNatClampNeg 0 = 0 := by decide
  obtain ⟨a1, ha1⟩ : ∃ z, z = xs (i + 1) := ⟨_, rfl⟩
  refine lv_aload_n hx hb dL_law_606 rfl (lv_at hl 2 rfl) ?_
  refine lv_aload_n hx hb dL_law_607 rfl (lv_at hl 1 rfl) ?_
  refine lv_iload hx hb dL_law_608 (lv_at hl 0 rfl) ?_
  refine lv_iconst (v := 1) hx hb dL_law_610 (by decide) ?_
  refine lv_iadd hx hb dL_law_611 ?_
  refine lv_topi (fun v611 e611 => ?_)
  have e611 : v611 = nI (i + 1) := e611.trans (nI_add i 1)
  refine va_sld hx hb hX hbl hbA hS (by rw [e611]; exact vp_in_nI (by omega) (by omega)) dL_law_612 ?_
  refine lv_topi (fun v612 e612 => ?_)
  have e612 : a1 = v612 := by rw [ha1, e612, e611, nI_clamp (by omega)]
  subst e612
  refine lv_aload_n hx hb dL_law_613 rfl (lv_at hl 4 rfl) ?_
  have hPc := hP.sub (ws' := (oW h0 cI cL n ad ar iv qo f)) [6, 7, 8, 9, 10, 11, 12, 13, 14, 15] rfl
  have hDc := hD.sub (ws' := (oW h0 cI cL n ad ar iv qo f)) [6, 7, 8, 9, 10, 11, 12, 13, 14, 15] (by decide) rfl
  have hKc := hK.sub (tys' := [(cI, .int), (cL, .long)]) [0, 3] rfl
  have hFc := va_free (wc := (oW h0 cI cL n ad ar iv qo f)) hD hS hA [6, 7, 8, 9, 10, 11, 12, 13, 14, 15] rfl
  refine va_calli (vx_runSW (As := [.ref h0, .int a1, .ref qo]) (rest := []) ⟨hx, hb, hml, hown, hts⟩ (w_cone l hl9 D h0 cI cL n ad ar iv qo f H.size a1 nc ic g bv hok hmx ) (vx_cwSW 3 hts gL_law_L_cone rfl rfl rfl (by decide +kernel) ⟨Nat.le_of_ble_eq_true rfl, Nat.le_of_ble_eq_true rfl⟩) (lt_io hKc hPc hDc hT hS hFc) rfl rfl hl.1 rfl (lv_room (Nat.le_of_ble_eq_true rfl)) dL_law_614 ⟨by show _ ≤ 61024; omega, by show _ ≤ 8913034; omega⟩) hS (fun q _ h => hFc q h) hFc (fun r614 u t H1 locs ht hvm e614 hB hz1 hk1 hS => ?_)
  obtain ⟨⟨n614, ad614, ar614, iv614⟩, f614⟩ := u
  obtain ⟨hP1, hK1, hD1⟩ := hB
  rw [ht] at hP1
  obtain ⟨hP, hD⟩ := va_join (wr := (mW h1 cI cB cZ am ar1 iv1)) (w1 := (oW h0 cI cL n614 ad614 ar614 iv614 qo f614)) hP hD [6, 7, 8, 9, 10, 11, 12, 13, 14, 15] [0, 1, 2, 3, 4, 5] rfl rfl (by decide) (by decide) hk1 hFc hP1 hD1
  clear hP1 hK1 hD1 hk1 hz1 hFc ht hPc hDc
  generalize H1 = H at hP hS ⊢
  have hP : va_P D vwCl (lawW h0 h1 qo cI cB cZ cL n614 ad614 ar614 iv614 f614 am ar1 iv1) H := hP
  have hD : va_D (fun q : Nat => s.heap.size ≤ q) (lawW h0 h1 qo cI cB cZ cL n614 ad614 ar614 iv614 f614 am ar1 iv1) := hD
  refine lv_istore (lv' := [(5, .int r614), (4, .int (nI i)), (0, .ref b), (1, .ref h0), (2, .ref h1), (3, .ref qo)]) hx hb dL_law_617 hl (by decide) rfl (fun ls hl => ?_)
  refine lv_aload_n hx hb dL_law_619 rfl (lv_at hl 4 rfl) ?_
  refine lv_aload_n hx hb dL_law_620 rfl (lv_at hl 2 rfl) ?_
  refine lv_iload hx hb dL_law_621 (lv_at hl 1 rfl) ?_
  refine lv_iconst (v := 1) hx hb dL_law_623 (by decide) ?_
  refine lv_iadd hx hb dL_law_624 ?_
  refine lv_topi (fun v624 e624 => ?_)
  have e624 : v624 = nI (i + 1) := e624.trans (nI_add i 1)
  refine va_sld hx hb hX hbl hbA hS (by rw [e624]; exact vp_in_nI (by omega) (by omega)) dL_law_625 ?_
  refine lv_topi (fun v625 e625 => ?_)
  have e625 : a1 = v625 := by rw [ha1, e625, e624, nI_clamp (by omega)]
  subst e625
  have hPc := hP.sub (ws' := (mW h1 cI cB cZ am ar1 iv1)) [0, 1, 2, 3, 4, 5] rfl
  have hDc := hD.sub (ws' := (mW h1 cI cB cZ am ar1 iv1)) [0, 1, 2, 3, 4, 5] (by decide) rfl
  have hKm := hK.sub (tys' := [(cI, .int), (cB, .byte), (cZ, .boolean)]) [0, 1, 2] rfl
  have hFc := va_free (wc := (mW h1 cI cB cZ am ar1 iv1)) hD hS hA [0, 1, 2, 3, 4, 5] rfl
  refine va_calli (va_runV (As := [.int a1]) (rest := []) ⟨hx, hb, hml, hown, hts⟩ (m_cone l D h1 cI cB cZ am ar1 iv1 H.size a1 nc ic g bv hmm hmx) (cwV 1 hts gL_law_X1_cone rfl rfl rfl (by decide +kernel) ⟨Nat.le_of_ble_eq_true rfl, Nat.le_of_ble_eq_true rfl⟩) (mP_V hKm hPc hDc (va_recv hKm hPc (ci := 1) (q0 := 0) rfl rfl)) rfl rfl hl.1 rfl (lv_room (Nat.le_of_ble_eq_true rfl)) dL_law_626 ⟨by show _ ≤ 61024; omega, by show _ ≤ 8913034; omega⟩) hS (fun q _ h => hFc q h) hFc (fun r626 u t H1 locs ht hvm e626 hB hz1 hk1 hS => ?_)
  obtain ⟨ar626, iv626⟩ := u
  obtain ⟨hP1, hK1, hD1⟩ := hB
  rw [ht] at hP1
  obtain ⟨hP, hD⟩ := va_join (wr := (oW h0 cI cL n614 ad614 ar614 iv614 qo f614)) (w1 := (mW h1 cI cB cZ am ar626 iv626)) hP hD [0, 1, 2, 3, 4, 5] [6, 7, 8, 9, 10, 11, 12, 13, 14, 15] rfl rfl (by decide) (by decide) hk1 hFc hP1 hD1
  clear hP1 hK1 hD1 hk1 hz1 hFc ht hPc hDc
  generalize H1 = H at hP hS ⊢
  have hP := hP.sub (ws' := (lawW h0 h1 qo cI cB cZ cL n614 ad614 ar614 iv614 f614 am ar626 iv626)) [10, 11, 12, 13, 14, 15, 0, 1, 2, 3, 4, 5, 6, 7, 8, 9] rfl
  have hD := hD.sub (ws' := (lawW h0 h1 qo cI cB cZ cL n614 ad614 ar614 iv614 f614 am ar626 iv626)) [10, 11, 12, 13, 14, 15, 0, 1, 2, 3, 4, 5, 6, 7, 8, 9] (by decide) rfl
  have hj := la_join e614 e626 rfl
  have hfin : la_ok n nc (n614, ad614, ar614, iv614) (ar626, iv626) 0 := la_sm hok hn16 hj.2.2
  refine lv_istore (lv' := [(6, .int r626), (5, .int r614), (4, .int (nI i)), (0, .ref b), (1, .ref h0), (2, .ref h1), (3, .ref qo)]) hx hb dL_law_629 hl (by decide) rfl (fun ls hl => ?_)
  refine lv_aload_n hx hb dL_law_631 rfl (lv_at hl 5 rfl) ?_
  have hPm := hP.sub (ws' := (mW h1 cI cB cZ am ar626 iv626)) [0, 1, 2, 3, 4, 5] rfl
  refine vp_callSi (W.runV (As := []) (rest := []) ⟨hx, hb, hml, hown, hts⟩ (m_thrown l D h1 cI cB cZ am ar626 iv626) (cwV 0 hts gL_law_X1_thrown rfl rfl rfl (by decide +kernel) ⟨Nat.le_of_ble_eq_true rfl, Nat.le_of_ble_eq_true rfl⟩) (rP_V hKm hPm (va_recv hKm hPm (ci := 1) (q0 := 0) rfl rfl)) rfl rfl hl.1 rfl (lv_room (Nat.le_of_ble_eq_true rfl)) dL_law_632 ⟨by show _ ≤ 61024; omega, by show _ ≤ 8913034; omega⟩) (fun r632 e632 => ?_)
  refine lv_iload hx hb dL_law_635 (lv_at hl 1 rfl) ?_
  refine lv_icmp_eq (tgt := 642) hx hb dL_law_637 (by decide) (fun c637 => ?_) (fun c637 => ?_)
  · refine lv_iload hx hb dL_law_642 (lv_at hl 1 rfl) ?_
    refine lv_if_ne (tgt := 659) hx hb dL_law_644 (by decide) (fun c644 => ?_) (fun c644 => ?_)
    · refine lv_goto (tgt := 819) hx hb dL_law_659 (by decide) ?_
      refine W.widen (k := cc + 4 + 0) (n := ss + 24 + 16 * 0) (by omega) (by omega) ?_
      exact hnext _ _ _ 0 _ _ _ hfin hP hD hS (lv_sub hl [2, 3, 4, 5, 6] rfl)
    · refine lv_aload_n hx hb dL_law_647 rfl (lv_at hl 6 rfl) ?_
      refine lv_iconst (v := 0) hx hb dL_law_648 (by decide) ?_
      refine va_lald hx hb hK hP 6 3 rfl rfl (by unfold vp_in; decide) dL_law_649 ?_
      refine lv_iload hx hb dL_law_650 (lv_at hl 0 rfl) ?_
      refine lv_i2l (v := (r626 : Int32).toInt64) hx hb dL_law_652 rfl ?_
      refine W.lcmp hx hb dL_law_653 ?_
      refine lv_if_eq (tgt := 659) hx hb dL_law_654 (by decide) (fun c654 => ?_) (fun c654 => ?_)
      · refine lv_goto (tgt := 819) hx hb dL_law_659 (by decide) ?_
        refine W.widen (k := cc + 4 + 0) (n := ss + 24 + 16 * 0) (by omega) (by omega) ?_
        exact hnext _ _ _ 0 _ _ _ hfin hP hD hS (lv_sub hl [2, 3, 4, 5, 6] rfl)
      · exact absurd (by rw [hz0, show f614 0 = _ from (hj.2.1 c644).1]; exact la_cmp _) c654
  · exact absurd (e632.trans hj.1) c637
set_option maxHeartbeats 4000000 in
set_option maxRecDepth 100000 in
theorem law_below {p : Program} {l : Launch} {e : Env} {s : State} {m : MethodId} {below : List Frame} {meth : Method} {c : Code} (hl9 : l.stackTraces = false) {D : va_G} {b L : Nat} {xs : Nat → Int32} (hL : L ≤ 2560) (C0 : lw_At p s m meth c b L xs) (hT : gT (fun q : Nat => s.heap.size ≤ q) s s.heap) {h0 h1 qo : Nat} {cI cB cZ cL : ClassId} (hK : va_K D vwCl [(cI, .int), (cB, .byte), (cZ, .boolean), (cL, .long)] s) {i n nc ic cc ss : Nat} {g : Ct} {bv : Nat → Bool} {ad am : Nat → Nat} {ar ar1 : Nat → Nat → Int32} {iv iv1 : Nat → Int32} {f : Nat → Int64} {H : Heap} {locs : List Loc} {ls : Array Slot} (hi5 : i + 5 ≤ L) (hok : gb_ok n nc ic g bv ar iv) (hmm : mm_ok nc ic g bv ar1 iv1) (hmx : nc + 6 ≤ 20000) (hn16 : n ≤ 16 * nc) (hcc : cc + 4 + 16 * (nc + 6) ≤ 61024 + n) (hss : ss + 24 + 256 * (nc + 6) ≤ 8913034 + 16 * n) (hP : va_P D vwCl (lawW h0 h1 qo cI cB cZ cL n ad ar iv f am ar1 iv1) H) (hD : va_D (fun q : Nat => s.heap.size ≤ q) (lawW h0 h1 qo cI cB cZ cL n ad ar iv f am ar1 iv1)) (hS : va_S (fun q : Nat => s.heap.size ≤ q) s.heap H locs) (hl : lv_has ls 7 [(4, .int (nI i)), (0, .ref b), (1, .ref h0), (2, .ref h1), (3, .ref qo)]) (hnext : la_nx p l e s m below meth c b D h0 h1 qo cI cB cZ cL am i n nc cc ss) : W p l e room_1 s m #[Value.ref b] below meth c H locs cc ss (lw_Z below #[Value.ref b] s) (F0 m 662 ls []) := by
  obtain ⟨hx, hb, hr, hml, hown, hts0, hX, hbl, hlocks, hgv⟩ := C0
  have hts : ∀ w ∈ wsG, w.before #[Value.ref b] s = true := fun w h => hts0 w (List.mem_filter.mp h).1
  have hown : s.vm.findClass RL = some m.cls := hown
  have hA : ∀ q : Nat, s.heap.size ≤ q → (fun q : Nat => s.heap.size ≤ q) q := fun _ h => h
  have hbA : ¬ (fun q : Nat => s.heap.size ≤ q) b := Nat.not_le.mpr hbl
  have hz0 : Int32.toNatClampNeg 0 = 0 := by decide
  obtain ⟨a1, ha1⟩ : ∃ z, z = xs (i + 1) := ⟨_, rfl⟩
  obtain ⟨a2, ha2⟩ : ∃ z, z = xs (i + 2) := ⟨_, rfl⟩
  refine lv_aload_n hx hb dL_law_662 rfl (lv_at hl 2 rfl) ?_
  refine lv_aload_n hx hb dL_law_663 rfl (lv_at hl 1 rfl) ?_
  refine lv_iload hx hb dL_law_664 (lv_at hl 0 rfl) ?_
  refine lv_iconst (v := 1) hx hb dL_law_666 (by decide) ?_
  refine lv_iadd hx hb dL_law_667 ?_
  refine lv_topi (fun v667 e667 => ?_)
  have e667 : v667 = nI (i + 1) := e667.trans (nI_add i 1)
  refine va_sld hx hb hX hbl hbA hS (by rw [e667]; exact vp_in_nI (by omega) (by omega)) dL_law_668 ?_
  refine lv_topi (fun v668 e668 => ?_)
  have e668 : a1 = v668 := by rw [ha1, e668, e667, nI_clamp (by omega)]
  subst e668
  refine lv_aload_n hx hb dL_law_669 rfl (lv_at hl 1 rfl) ?_
  refine lv_iload hx hb dL_law_670 (lv_at hl 0 rfl) ?_
  refine lv_iconst (v := 2) hx hb dL_law_672 (by decide) ?_
  refine lv_iadd hx hb dL_law_673 ?_
  refine lv_topi (fun v673 e673 => ?_)
  have e673 : v673 = nI (i + 2) := e673.trans (nI_add i 2)
  refine va_sld hx hb hX hbl hbA hS (by rw [e673]; exact vp_in_nI (by omega) (by omega)) dL_law_674 ?_
  refine lv_topi (fun v674 e674 => ?_)
  have e674 : a2 = v674 := by rw [ha2, e674, e673, nI_clamp (by omega)]
  subst e674
  refine lv_aload_n hx hb dL_law_675 rfl (lv_at hl 4 rfl) ?_
  have hPc := hP.sub (ws' := (oW h0 cI cL n ad ar iv qo f)) [6, 7, 8, 9, 10, 11, 12, 13, 14, 15] rfl
  have hDc := hD.sub (ws' := (oW h0 cI cL n ad ar iv qo f)) [6, 7, 8, 9, 10, 11, 12, 13, 14, 15] (by decide) rfl
  have hKc := hK.sub (tys' := [(cI, .int), (cL, .long)]) [0, 3] rfl
  have hFc := va_free (wc := (oW h0 cI cL n ad ar iv qo f)) hD hS hA [6, 7, 8, 9, 10, 11, 12, 13, 14, 15] rfl
  refine va_calli (vx_runSW (As := [.ref h0, .int a1, .int a2, .ref qo]) (rest := []) ⟨hx, hb, hml, hown, hts⟩ (w_below l hl9 D h0 cI cL n ad ar iv qo f H.size a1 a2 nc ic g bv hok hmx ) (vx_cwSW 4 hts gL_law_L_below rfl rfl rfl (by decide +kernel) ⟨Nat.le_of_ble_eq_true rfl, Nat.le_of_ble_eq_true rfl⟩) (lt_io hKc hPc hDc hT hS hFc) rfl rfl hl.1 rfl (lv_room (Nat.le_of_ble_eq_true rfl)) dL_law_676 ⟨by show _ ≤ 61024; omega, by show _ ≤ 8913034; omega⟩) hS (fun q _ h => hFc q h) hFc (fun r676 u t H1 locs ht hvm e676 hB hz1 hk1 hS => ?_)
  obtain ⟨⟨n676, ad676, ar676, iv676⟩, f676⟩ := u
  obtain ⟨hP1, hK1, hD1⟩ := hB
  rw [ht] at hP1
  obtain ⟨hP, hD⟩ := va_join (wr := (mW h1 cI cB cZ am ar1 iv1)) (w1 := (oW h0 cI cL n676 ad676 ar676 iv676 qo f676)) hP hD [6, 7, 8, 9, 10, 11, 12, 13, 14, 15] [0, 1, 2, 3, 4, 5] rfl rfl (by decide) (by decide) hk1 hFc hP1 hD1
  clear hP1 hK1 hD1 hk1 hz1 hFc ht hPc hDc
  generalize H1 = H at hP hS ⊢
  have hP : va_P D vwCl (lawW h0 h1 qo cI cB cZ cL n676 ad676 ar676 iv676 f676 am ar1 iv1) H := hP
  have hD : va_D (fun q : Nat => s.heap.size ≤ q) (lawW h0 h1 qo cI cB cZ cL n676 ad676 ar676 iv676 f676 am ar1 iv1) := hD
  refine lv_istore (lv' := [(5, .int r676), (4, .int (nI i)), (0, .ref b), (1, .ref h0), (2, .ref h1), (3, .ref qo)]) hx hb dL_law_679 hl (by decide) rfl (fun ls hl => ?_)
  refine lv_aload_n hx hb dL_law_681 rfl (lv_at hl 4 rfl) ?_
  refine lv_aload_n hx hb dL_law_682 rfl (lv_at hl 2 rfl) ?_
  refine lv_iload hx hb dL_law_683 (lv_at hl 1 rfl) ?_
  refine lv_iconst (v := 1) hx hb dL_law_685 (by decide) ?_
  refine lv_iadd hx hb dL_law_686 ?_
  refine lv_topi (fun v686 e686 => ?_)
  have e686 : v686 = nI (i + 1) := e686.trans (nI_add i 1)
  refine va_sld hx hb hX hbl hbA hS (by rw [e686]; exact vp_in_nI (by omega) (by omega)) dL_law_687 ?_
  refine lv_topi (fun v687 e687 => ?_)
  have e687 : a1 = v687 := by rw [ha1, e687, e686, nI_clamp (by omega)]
  subst e687
  refine lv_aload_n hx hb dL_law_688 rfl (lv_at hl 2 rfl) ?_
  refine lv_iload hx hb dL_law_689 (lv_at hl 1 rfl) ?_
  refine lv_iconst (v := 2) hx hb dL_law_691 (by decide) ?_
  refine lv_iadd hx hb dL_law_692 ?_
  refine lv_topi (fun v692 e692 => ?_)
  have e692 : v692 = nI (i + 2) := e692.trans (nI_add i 2)
  refine va_sld hx hb hX hbl hbA hS (by rw [e692]; exact vp_in_nI (by omega) (by omega)) dL_law_693 ?_
  refine lv_topi (fun v693 e693 => ?_)
  have e693 : a2 = v693 := by rw [ha2, e693, e692, nI_clamp (by omega)]
  subst e693
  have hPc := hP.sub (ws' := (mW h1 cI cB cZ am ar1 iv1)) [0, 1, 2, 3, 4, 5] rfl
  have hDc := hD.sub (ws' := (mW h1 cI cB cZ am ar1 iv1)) [0, 1, 2, 3, 4, 5] (by decide) rfl
  have hKm := hK.sub (tys' := [(cI, .int), (cB, .byte), (cZ, .boolean)]) [0, 1, 2] rfl
  have hFc := va_free (wc := (mW h1 cI cB cZ am ar1 iv1)) hD hS hA [0, 1, 2, 3, 4, 5] rfl
  refine va_calli (va_runV (As := [.int a1, .int a2]) (rest := []) ⟨hx, hb, hml, hown, hts⟩ (m_below l D h1 cI cB cZ am ar1 iv1 H.size a1 a2 nc ic g bv hmm hmx) (cwV 2 hts gL_law_X1_below rfl rfl rfl (by decide +kernel) ⟨Nat.le_of_ble_eq_true rfl, Nat.le_of_ble_eq_true rfl⟩) (mP_V hKm hPc hDc (va_recv hKm hPc (ci := 1) (q0 := 0) rfl rfl)) rfl rfl hl.1 rfl (lv_room (Nat.le_of_ble_eq_true rfl)) dL_law_694 ⟨by show _ ≤ 61024; omega, by show _ ≤ 8913034; omega⟩) hS (fun q _ h => hFc q h) hFc (fun r694 u t H1 locs ht hvm e694 hB hz1 hk1 hS => ?_)
  obtain ⟨ar694, iv694⟩ := u
  obtain ⟨hP1, hK1, hD1⟩ := hB
  rw [ht] at hP1
  obtain ⟨hP, hD⟩ := va_join (wr := (oW h0 cI cL n676 ad676 ar676 iv676 qo f676)) (w1 := (mW h1 cI cB cZ am ar694 iv694)) hP hD [0, 1, 2, 3, 4, 5] [6, 7, 8, 9, 10, 11, 12, 13, 14, 15] rfl rfl (by decide) (by decide) hk1 hFc hP1 hD1
  clear hP1 hK1 hD1 hk1 hz1 hFc ht hPc hDc
  generalize H1 = H at hP hS ⊢
  have hP := hP.sub (ws' := (lawW h0 h1 qo cI cB cZ cL n676 ad676 ar676 iv676 f676 am ar694 iv694)) [10, 11, 12, 13, 14, 15, 0, 1, 2, 3, 4, 5, 6, 7, 8, 9] rfl
  have hD := hD.sub (ws' := (lawW h0 h1 qo cI cB cZ cL n676 ad676 ar676 iv676 f676 am ar694 iv694)) [10, 11, 12, 13, 14, 15, 0, 1, 2, 3, 4, 5, 6, 7, 8, 9] (by decide) rfl
  have hj := la_join e676 e694 (ct_lb _)
  have hfin : la_ok n nc (n676, ad676, ar676, iv676) (ar694, iv694) 0 := la_sm hok hn16 hj.2.2
  refine lv_istore (lv' := [(6, .int r694), (5, .int r676), (4, .int (nI i)), (0, .ref b), (1, .ref h0), (2, .ref h1), (3, .ref qo)]) hx hb dL_law_697 hl (by decide) rfl (fun ls hl => ?_)
  refine lv_aload_n hx hb dL_law_699 rfl (lv_at hl 5 rfl) ?_
  have hPm := hP.sub (ws' := (mW h1 cI cB cZ am ar694 iv694)) [0, 1, 2, 3, 4, 5] rfl
  refine vp_callSi (W.runV (As := []) (rest := []) ⟨hx, hb, hml, hown, hts⟩ (m_thrown l D h1 cI cB cZ am ar694 iv694) (cwV 0 hts gL_law_X1_thrown rfl rfl rfl (by decide +kernel) ⟨Nat.le_of_ble_eq_true rfl, Nat.le_of_ble_eq_true rfl⟩) (rP_V hKm hPm (va_recv hKm hPm (ci := 1) (q0 := 0) rfl rfl)) rfl rfl hl.1 rfl (lv_room (Nat.le_of_ble_eq_true rfl)) dL_law_700 ⟨by show _ ≤ 61024; omega, by show _ ≤ 8913034; omega⟩) (fun r700 e700 => ?_)
  refine lv_iload hx hb dL_law_703 (lv_at hl 1 rfl) ?_
  refine lv_icmp_eq (tgt := 710) hx hb dL_law_705 (by decide) (fun c705 => ?_) (fun c705 => ?_)
  · refine lv_iload hx hb dL_law_710 (lv_at hl 1 rfl) ?_
    refine lv_if_ne (tgt := 734) hx hb dL_law_712 (by decide) (fun c712 => ?_) (fun c712 => ?_)
    · refine lv_goto (tgt := 819) hx hb dL_law_734 (by decide) ?_
      refine W.widen (k := cc + 4 + 0) (n := ss + 24 + 16 * 0) (by omega) (by omega) ?_
      exact hnext _ _ _ 0 _ _ _ hfin hP hD hS (lv_sub hl [2, 3, 4, 5, 6] rfl)
    · refine lv_aload_n hx hb dL_law_715 rfl (lv_at hl 6 rfl) ?_
      refine lv_iconst (v := 0) hx hb dL_law_716 (by decide) ?_
      refine va_lald hx hb hK hP 6 3 rfl rfl (by unfold vp_in; decide) dL_law_717 ?_
      refine lv_iload hx hb dL_law_718 (lv_at hl 0 rfl) ?_
      refine lv_if_eq (tgt := 727) hx hb dL_law_720 (by decide) (fun c720 => ?_) (fun c720 => ?_)
      · refine lv_lconst (v := 0) hx hb dL_law_727 rfl ?_
        refine W.lcmp hx hb dL_law_728 ?_
        refine lv_if_eq (tgt := 734) hx hb dL_law_729 (by decide) (fun c729 => ?_) (fun c729 => ?_)
        · refine lv_goto (tgt := 819) hx hb dL_law_734 (by decide) ?_
          refine W.widen (k := cc + 4 + 0) (n := ss + 24 + 16 * 0) (by omega) (by omega) ?_
          exact hnext _ _ _ 0 _ _ _ hfin hP hD hS (lv_sub hl [2, 3, 4, 5, 6] rfl)
        · exact absurd (by rw [hz0, show f676 0 = _ from (hj.2.1 c712).1, c720]; decide) c729
      · refine lv_lconst (v := 1) hx hb dL_law_723 rfl ?_
        refine lv_goto (tgt := 728) hx hb dL_law_724 (by decide) ?_
        refine W.lcmp hx hb dL_law_728 ?_
        refine lv_if_eq (tgt := 734) hx hb dL_law_729 (by decide) (fun c729 => ?_) (fun c729 => ?_)
        · refine lv_goto (tgt := 819) hx hb dL_law_734 (by decide) ?_
          refine W.widen (k := cc + 4 + 0) (n := ss + 24 + 16 * 0) (by omega) (by omega) ?_
          exact hnext _ _ _ 0 _ _ _ hfin hP hD hS (lv_sub hl [2, 3, 4, 5, 6] rfl)
        · have hb1 : r694 = 1 := by rw [(hj.2.1 c712).2, ct_b_t (fun z => c720 ((hj.2.1 c712).2.trans z))]; rfl
          exact absurd (by rw [hz0, show f676 0 = _ from (hj.2.1 c712).1, hb1]; decide) c729
  · exact absurd (e700.trans hj.1) c705
set_option maxHeartbeats 4000000 in
set_option maxRecDepth 100000 in
theorem law_depth {p : Program} {l : Launch} {e : Env} {s : State} {m : MethodId} {below : List Frame} {meth : Method} {c : Code} (hl9 : l.stackTraces = false) {D : va_G} {b L : Nat} {xs : Nat → Int32} (hL : L ≤ 2560) (C0 : lw_At p s m meth c b L xs) (hT : gT (fun q : Nat => s.heap.size ≤ q) s s.heap) {h0 h1 qo : Nat} {cI cB cZ cL : ClassId} (hK : va_K D vwCl [(cI, .int), (cB, .byte), (cZ, .boolean), (cL, .long)] s) {i n nc ic cc ss : Nat} {g : Ct} {bv : Nat → Bool} {ad am : Nat → Nat} {ar ar1 : Nat → Nat → Int32} {iv iv1 : Nat → Int32} {f : Nat → Int64} {H : Heap} {locs : List Loc} {ls : Array Slot} (hi5 : i + 5 ≤ L) (hok : gb_ok n nc ic g bv ar iv) (hmm : mm_ok nc ic g bv ar1 iv1) (hmx : nc + 6 ≤ 20000) (hn16 : n ≤ 16 * nc) (hcc : cc + 4 + 16 * (nc + 6) ≤ 61024 + n) (hss : ss + 24 + 256 * (nc + 6) ≤ 8913034 + 16 * n) (hP : va_P D vwCl (lawW h0 h1 qo cI cB cZ cL n ad ar iv f am ar1 iv1) H) (hD : va_D (fun q : Nat => s.heap.size ≤ q) (lawW h0 h1 qo cI cB cZ cL n ad ar iv f am ar1 iv1)) (hS : va_S (fun q : Nat => s.heap.size ≤ q) s.heap H locs) (hl : lv_has ls 7 [(4, .int (nI i)), (0, .ref b), (1, .ref h0), (2, .ref h1), (3, .ref qo)]) (hnext : la_nx p l e s m below meth c b D h0 h1 qo cI cB cZ cL am i n nc cc ss) : W p l e room_1 s m #[Value.ref b] below meth c H locs cc ss (lw_Z below #[Value.ref b] s) (F0 m 737 ls []) := by
  obtain ⟨hx, hb, hr, hml, hown, hts0, hX, hbl, hlocks, hgv⟩ := C0
  have hts : ∀ w ∈ wsG, w.before #[Value.ref b] s = true := fun w h => hts0 w (List.mem_filter.mp h).1
  have hown : s.vm.findClass RL = some m.cls := hown
  have hA : ∀ q : Nat, s.heap.size ≤ q → (fun q : Nat => s.heap.size ≤ q) q := fun _ h => h
  have hbA : ¬ (fun q : Nat => s.heap.size ≤ q) b := Nat.not_le.mpr hbl
  have hz0 : Int32.toNatClampNeg 0 = 0 := by decide
  obtain ⟨a1, ha1⟩ : ∃ z, z = xs (i + 1) := ⟨_, rfl⟩
  refine lv_aload_n hx hb dL_law_737 rfl (lv_at hl 2 rfl) ?_
  refine lv_aload_n hx hb dL_law_738 rfl (lv_at hl 1 rfl) ?_
  refine lv_iload hx hb dL_law_739 (lv_at hl 0 rfl) ?_
  refine lv_iconst (v := 1) hx hb dL_law_741 (by decide) ?_
  refine lv_iadd hx hb dL_law_742 ?_
  refine lv_topi (fun v742 e742 => ?_)
  have e742 : v742 = nI (i + 1) := e742.trans (nI_add i 1)
  refine va_sld hx hb hX hbl hbA hS (by rw [e742]; exact vp_in_nI (by omega) (by omega)) dL_law_743 ?_
  refine lv_topi (fun v743 e743 => ?_)
  have e743 : a1 = v743 := by rw [ha1, e743, e742, nI_clamp (by omega)]
  subst e743
  refine lv_aload_n hx hb dL_law_744 rfl (lv_at hl 4 rfl) ?_
  have hPc := hP.sub (ws' := (oW h0 cI cL n ad ar iv qo f)) [6, 7, 8, 9, 10, 11, 12, 13, 14, 15] rfl
  have hDc := hD.sub (ws' := (oW h0 cI cL n ad ar iv qo f)) [6, 7, 8, 9, 10, 11, 12, 13, 14, 15] (by decide) rfl
  have hKc := hK.sub (tys' := [(cI, .int), (cL, .long)]) [0, 3] rfl
  have hFc := va_free (wc := (oW h0 cI cL n ad ar iv qo f)) hD hS hA [6, 7, 8, 9, 10, 11, 12, 13, 14, 15] rfl
  refine va_calli (vx_runSW (As := [.ref h0, .int a1, .ref qo]) (rest := []) ⟨hx, hb, hml, hown, hts⟩ (w_depth l hl9 D h0 cI cL n ad ar iv qo f H.size a1 nc ic g bv hok hmx ) (vx_cwSW 3 hts gL_law_L_depth rfl rfl rfl (by decide +kernel) ⟨Nat.le_of_ble_eq_true rfl, Nat.le_of_ble_eq_true rfl⟩) (lt_io hKc hPc hDc hT hS hFc) rfl rfl hl.1 rfl (lv_room (Nat.le_of_ble_eq_true rfl)) dL_law_745 ⟨by show _ ≤ 61024; omega, by show _ ≤ 8913034; omega⟩) hS (fun q _ h => hFc q h) hFc (fun r745 u t H1 locs ht hvm e745 hB hz1 hk1 hS => ?_)
  obtain ⟨⟨n745, ad745, ar745, iv745⟩, f745⟩ := u
  obtain ⟨hP1, hK1, hD1⟩ := hB
  rw [ht] at hP1
  obtain ⟨hP, hD⟩ := va_join (wr := (mW h1 cI cB cZ am ar1 iv1)) (w1 := (oW h0 cI cL n745 ad745 ar745 iv745 qo f745)) hP hD [6, 7, 8, 9, 10, 11, 12, 13, 14, 15] [0, 1, 2, 3, 4, 5] rfl rfl (by decide) (by decide) hk1 hFc hP1 hD1
  clear hP1 hK1 hD1 hk1 hz1 hFc ht hPc hDc
  generalize H1 = H at hP hS ⊢
  have hP : va_P D vwCl (lawW h0 h1 qo cI cB cZ cL n745 ad745 ar745 iv745 f745 am ar1 iv1) H := hP
  have hD : va_D (fun q : Nat => s.heap.size ≤ q) (lawW h0 h1 qo cI cB cZ cL n745 ad745 ar745 iv745 f745 am ar1 iv1) := hD
  refine lv_istore (lv' := [(5, .int r745), (4, .int (nI i)), (0, .ref b), (1, .ref h0), (2, .ref h1), (3, .ref qo)]) hx hb dL_law_748 hl (by decide) rfl (fun ls hl => ?_)
  refine lv_aload_n hx hb dL_law_750 rfl (lv_at hl 4 rfl) ?_
  refine lv_aload_n hx hb dL_law_751 rfl (lv_at hl 2 rfl) ?_
  refine lv_iload hx hb dL_law_752 (lv_at hl 1 rfl) ?_
  refine lv_iconst (v := 1) hx hb dL_law_754 (by decide) ?_
  refine lv_iadd hx hb dL_law_755 ?_
  refine lv_topi (fun v755 e755 => ?_)
  have e755 : v755 = nI (i + 1) := e755.trans (nI_add i 1)
  refine va_sld hx hb hX hbl hbA hS (by rw [e755]; exact vp_in_nI (by omega) (by omega)) dL_law_756 ?_
  refine lv_topi (fun v756 e756 => ?_)
  have e756 : a1 = v756 := by rw [ha1, e756, e755, nI_clamp (by omega)]
  subst e756
  have hPc := hP.sub (ws' := (mW h1 cI cB cZ am ar1 iv1)) [0, 1, 2, 3, 4, 5] rfl
  have hDc := hD.sub (ws' := (mW h1 cI cB cZ am ar1 iv1)) [0, 1, 2, 3, 4, 5] (by decide) rfl
  have hKm := hK.sub (tys' := [(cI, .int), (cB, .byte), (cZ, .boolean)]) [0, 1, 2] rfl
  have hFc := va_free (wc := (mW h1 cI cB cZ am ar1 iv1)) hD hS hA [0, 1, 2, 3, 4, 5] rfl
  refine va_calli (va_runV (As := [.int a1]) (rest := []) ⟨hx, hb, hml, hown, hts⟩ (m_depth l D h1 cI cB cZ am ar1 iv1 H.size a1 nc ic g bv hmm hmx) (cwV 1 hts gL_law_X1_depth rfl rfl rfl (by decide +kernel) ⟨Nat.le_of_ble_eq_true rfl, Nat.le_of_ble_eq_true rfl⟩) (mP_V hKm hPc hDc (va_recv hKm hPc (ci := 1) (q0 := 0) rfl rfl)) rfl rfl hl.1 rfl (lv_room (Nat.le_of_ble_eq_true rfl)) dL_law_757 ⟨by show _ ≤ 61024; omega, by show _ ≤ 8913034; omega⟩) hS (fun q _ h => hFc q h) hFc (fun r757 u t H1 locs ht hvm e757 hB hz1 hk1 hS => ?_)
  obtain ⟨ar757, iv757⟩ := u
  obtain ⟨hP1, hK1, hD1⟩ := hB
  rw [ht] at hP1
  obtain ⟨hP, hD⟩ := va_join (wr := (oW h0 cI cL n745 ad745 ar745 iv745 qo f745)) (w1 := (mW h1 cI cB cZ am ar757 iv757)) hP hD [0, 1, 2, 3, 4, 5] [6, 7, 8, 9, 10, 11, 12, 13, 14, 15] rfl rfl (by decide) (by decide) hk1 hFc hP1 hD1
  clear hP1 hK1 hD1 hk1 hz1 hFc ht hPc hDc
  generalize H1 = H at hP hS ⊢
  have hP := hP.sub (ws' := (lawW h0 h1 qo cI cB cZ cL n745 ad745 ar745 iv745 f745 am ar757 iv757)) [10, 11, 12, 13, 14, 15, 0, 1, 2, 3, 4, 5, 6, 7, 8, 9] rfl
  have hD := hD.sub (ws' := (lawW h0 h1 qo cI cB cZ cL n745 ad745 ar745 iv745 f745 am ar757 iv757)) [10, 11, 12, 13, 14, 15, 0, 1, 2, 3, 4, 5, 6, 7, 8, 9] (by decide) rfl
  have hj := la_join e745 e757 rfl
  have hfin : la_ok n nc (n745, ad745, ar745, iv745) (ar757, iv757) 0 := la_sm hok hn16 hj.2.2
  refine lv_istore (lv' := [(6, .int r757), (5, .int r745), (4, .int (nI i)), (0, .ref b), (1, .ref h0), (2, .ref h1), (3, .ref qo)]) hx hb dL_law_760 hl (by decide) rfl (fun ls hl => ?_)
  refine lv_aload_n hx hb dL_law_762 rfl (lv_at hl 5 rfl) ?_
  have hPm := hP.sub (ws' := (mW h1 cI cB cZ am ar757 iv757)) [0, 1, 2, 3, 4, 5] rfl
  refine vp_callSi (W.runV (As := []) (rest := []) ⟨hx, hb, hml, hown, hts⟩ (m_thrown l D h1 cI cB cZ am ar757 iv757) (cwV 0 hts gL_law_X1_thrown rfl rfl rfl (by decide +kernel) ⟨Nat.le_of_ble_eq_true rfl, Nat.le_of_ble_eq_true rfl⟩) (rP_V hKm hPm (va_recv hKm hPm (ci := 1) (q0 := 0) rfl rfl)) rfl rfl hl.1 rfl (lv_room (Nat.le_of_ble_eq_true rfl)) dL_law_763 ⟨by show _ ≤ 61024; omega, by show _ ≤ 8913034; omega⟩) (fun r763 e763 => ?_)
  refine lv_iload hx hb dL_law_766 (lv_at hl 1 rfl) ?_
  refine lv_icmp_eq (tgt := 773) hx hb dL_law_768 (by decide) (fun c768 => ?_) (fun c768 => ?_)
  · refine lv_iload hx hb dL_law_773 (lv_at hl 1 rfl) ?_
    refine lv_if_ne (tgt := 790) hx hb dL_law_775 (by decide) (fun c775 => ?_) (fun c775 => ?_)
    · refine lv_goto (tgt := 819) hx hb dL_law_790 (by decide) ?_
      refine W.widen (k := cc + 4 + 0) (n := ss + 24 + 16 * 0) (by omega) (by omega) ?_
      exact hnext _ _ _ 0 _ _ _ hfin hP hD hS (lv_sub hl [2, 3, 4, 5, 6] rfl)
    · refine lv_aload_n hx hb dL_law_778 rfl (lv_at hl 6 rfl) ?_
      refine lv_iconst (v := 0) hx hb dL_law_779 (by decide) ?_
      refine va_lald hx hb hK hP 6 3 rfl rfl (by unfold vp_in; decide) dL_law_780 ?_
      refine lv_iload hx hb dL_law_781 (lv_at hl 0 rfl) ?_
      refine lv_i2l (v := (r757 : Int32).toInt64) hx hb dL_law_783 rfl ?_
      refine W.lcmp hx hb dL_law_784 ?_
      refine lv_if_eq (tgt := 790) hx hb dL_law_785 (by decide) (fun c785 => ?_) (fun c785 => ?_)
      · refine lv_goto (tgt := 819) hx hb dL_law_790 (by decide) ?_
        refine W.widen (k := cc + 4 + 0) (n := ss + 24 + 16 * 0) (by omega) (by omega) ?_
        exact hnext _ _ _ 0 _ _ _ hfin hP hD hS (lv_sub hl [2, 3, 4, 5, 6] rfl)
      · exact absurd (by rw [hz0, show f745 0 = _ from (hj.2.1 c775).1]; exact la_cmp _) c785
  · exact absurd (e763.trans hj.1) c768
set_option maxHeartbeats 4000000 in
set_option maxRecDepth 100000 in
theorem law_nodes {p : Program} {l : Launch} {e : Env} {s : State} {m : MethodId} {below : List Frame} {meth : Method} {c : Code} (hl9 : l.stackTraces = false) {D : va_G} {b L : Nat} {xs : Nat → Int32} (hL : L ≤ 2560) (C0 : lw_At p s m meth c b L xs) (hT : gT (fun q : Nat => s.heap.size ≤ q) s s.heap) {h0 h1 qo : Nat} {cI cB cZ cL : ClassId} (hK : va_K D vwCl [(cI, .int), (cB, .byte), (cZ, .boolean), (cL, .long)] s) {i n nc ic cc ss : Nat} {g : Ct} {bv : Nat → Bool} {ad am : Nat → Nat} {ar ar1 : Nat → Nat → Int32} {iv iv1 : Nat → Int32} {f : Nat → Int64} {H : Heap} {locs : List Loc} {ls : Array Slot} (hi5 : i + 5 ≤ L) (hok : gb_ok n nc ic g bv ar iv) (hmm : mm_ok nc ic g bv ar1 iv1) (hmx : nc + 6 ≤ 20000) (hn16 : n ≤ 16 * nc) (hcc : cc + 4 + 16 * (nc + 6) ≤ 61024 + n) (hss : ss + 24 + 256 * (nc + 6) ≤ 8913034 + 16 * n) (hP : va_P D vwCl (lawW h0 h1 qo cI cB cZ cL n ad ar iv f am ar1 iv1) H) (hD : va_D (fun q : Nat => s.heap.size ≤ q) (lawW h0 h1 qo cI cB cZ cL n ad ar iv f am ar1 iv1)) (hS : va_S (fun q : Nat => s.heap.size ≤ q) s.heap H locs) (hl : lv_has ls 7 [(4, .int (nI i)), (0, .ref b), (1, .ref h0), (2, .ref h1), (3, .ref qo)]) (hnext : la_nx p l e s m below meth c b D h0 h1 qo cI cB cZ cL am i n nc cc ss) : W p l e room_1 s m #[Value.ref b] below meth c H locs cc ss (lw_Z below #[Value.ref b] s) (F0 m 793 ls []) := by
  obtain ⟨hx, hb, hr, hml, hown, hts0, hX, hbl, hlocks, hgv⟩ := C0
  have hts : ∀ w ∈ wsG, w.before #[Value.ref b] s = true := fun w h => hts0 w (List.mem_filter.mp h).1
  have hown : s.vm.findClass RL = some m.cls := hown
  have hA : ∀ q : Nat, s.heap.size ≤ q → (fun q : Nat => s.heap.size ≤ q) q := fun _ h => h
  have hbA : ¬ (fun q : Nat => s.heap.size ≤ q) b := Nat.not_le.mpr hbl
  have hz0 : Int32.toNatClampNeg 0 = 0 := by decide
  refine lv_aload_n hx hb dL_law_793 rfl (lv_at hl 2 rfl) ?_
  have hPg := hP.sub (ws' := (gW h0 cI n ad ar iv)) [7, 8, 9, 10, 11, 12, 13, 14, 15] rfl
  have hKg := hK.sub (tys' := [(cI, .int)]) [0] rfl
  refine vp_callSi (W.runV (As := []) (rest := []) ⟨hx, hb, hml, hown, hts⟩ (c_nodes l D h0 cI n ad ar iv) (cwV 0 hts gL_law_X0_nodes rfl rfl rfl (by decide +kernel) ⟨Nat.le_of_ble_eq_true rfl, Nat.le_of_ble_eq_true rfl⟩) (rP_V hKg hPg (va_recv hKg hPg (ci := 0) (q0 := 0) rfl rfl)) rfl rfl hl.1 rfl (lv_room (Nat.le_of_ble_eq_true rfl)) dL_law_794 ⟨by show _ ≤ 61024; omega, by show _ ≤ 8913034; omega⟩) (fun r794 e794 => ?_)
  refine lv_aload_n hx hb dL_law_797 rfl (lv_at hl 3 rfl) ?_
  have hPc := hP.sub (ws' := (mW h1 cI cB cZ am ar1 iv1)) [0, 1, 2, 3, 4, 5] rfl
  have hDc := hD.sub (ws' := (mW h1 cI cB cZ am ar1 iv1)) [0, 1, 2, 3, 4, 5] (by decide) rfl
  have hKm := hK.sub (tys' := [(cI, .int), (cB, .byte), (cZ, .boolean)]) [0, 1, 2] rfl
  have hFc := va_free (wc := (mW h1 cI cB cZ am ar1 iv1)) hD hS hA [0, 1, 2, 3, 4, 5] rfl
  refine va_calli (va_runV (As := []) (rest := [.int r794]) ⟨hx, hb, hml, hown, hts⟩ (m_nodes l D h1 cI cB cZ am ar1 iv1 H.size  nc ic g bv hmm) (cwV 0 hts gL_law_X1_nodes rfl rfl rfl (by decide +kernel) ⟨Nat.le_of_ble_eq_true rfl, Nat.le_of_ble_eq_true rfl⟩) (mP_V hKm hPc hDc (va_recv hKm hPc (ci := 1) (q0 := 0) rfl rfl)) rfl rfl hl.1 rfl (lv_room (Nat.le_of_ble_eq_true rfl)) dL_law_798 ⟨by show _ ≤ 61024; omega, by show _ ≤ 8913034; omega⟩) hS (fun q _ h => hFc q h) hFc (fun r798 u t H1 locs ht hvm e798 hB hz1 hk1 hS => ?_)
  obtain ⟨ar798, iv798⟩ := u
  obtain ⟨hP1, hK1, hD1⟩ := hB
  rw [ht] at hP1
  obtain ⟨hP, hD⟩ := va_join (wr := (oW h0 cI cL n ad ar iv qo f)) (w1 := (mW h1 cI cB cZ am ar798 iv798)) hP hD [0, 1, 2, 3, 4, 5] [6, 7, 8, 9, 10, 11, 12, 13, 14, 15] rfl rfl (by decide) (by decide) hk1 hFc hP1 hD1
  clear hP1 hK1 hD1 hk1 hz1 hFc ht hPc hDc
  generalize H1 = H at hP hS ⊢
  have hP := hP.sub (ws' := (lawW h0 h1 qo cI cB cZ cL n ad ar iv f am ar798 iv798)) [10, 11, 12, 13, 14, 15, 0, 1, 2, 3, 4, 5, 6, 7, 8, 9] rfl
  have hD := hD.sub (ws' := (lawW h0 h1 qo cI cB cZ cL n ad ar iv f am ar798 iv798)) [10, 11, 12, 13, 14, 15, 0, 1, 2, 3, 4, 5, 6, 7, 8, 9] (by decide) rfl
  have hfin : la_ok n nc (n, ad, ar, iv) (ar798, iv798) 0 := ⟨nc, ic, g, bv, hok, e798.2.2, Nat.le_refl _, by omega, rfl, hn16⟩
  refine lv_icmp_eq (tgt := 819) hx hb dL_law_801 (by decide) (fun c801 => ?_) (fun c801 => ?_)
  · refine W.widen (k := cc + 4 + 0) (n := ss + 24 + 16 * 0) (by omega) (by omega) ?_
    exact hnext _ _ _ 0 _ _ _ hfin hP hD hS (lv_sub hl [0, 1, 2, 3, 4] rfl)
  · exact absurd (e794.trans (hok.nc.trans e798.1.symm)) c801
set_option maxHeartbeats 4000000 in
set_option maxRecDepth 100000 in
theorem law_inputs {p : Program} {l : Launch} {e : Env} {s : State} {m : MethodId} {below : List Frame} {meth : Method} {c : Code} (hl9 : l.stackTraces = false) {D : va_G} {b L : Nat} {xs : Nat → Int32} (hL : L ≤ 2560) (C0 : lw_At p s m meth c b L xs) (hT : gT (fun q : Nat => s.heap.size ≤ q) s s.heap) {h0 h1 qo : Nat} {cI cB cZ cL : ClassId} (hK : va_K D vwCl [(cI, .int), (cB, .byte), (cZ, .boolean), (cL, .long)] s) {i n nc ic cc ss : Nat} {g : Ct} {bv : Nat → Bool} {ad am : Nat → Nat} {ar ar1 : Nat → Nat → Int32} {iv iv1 : Nat → Int32} {f : Nat → Int64} {H : Heap} {locs : List Loc} {ls : Array Slot} (hi5 : i + 5 ≤ L) (hok : gb_ok n nc ic g bv ar iv) (hmm : mm_ok nc ic g bv ar1 iv1) (hmx : nc + 6 ≤ 20000) (hn16 : n ≤ 16 * nc) (hcc : cc + 4 + 16 * (nc + 6) ≤ 61024 + n) (hss : ss + 24 + 256 * (nc + 6) ≤ 8913034 + 16 * n) (hP : va_P D vwCl (lawW h0 h1 qo cI cB cZ cL n ad ar iv f am ar1 iv1) H) (hD : va_D (fun q : Nat => s.heap.size ≤ q) (lawW h0 h1 qo cI cB cZ cL n ad ar iv f am ar1 iv1)) (hS : va_S (fun q : Nat => s.heap.size ≤ q) s.heap H locs) (hl : lv_has ls 7 [(4, .int (nI i)), (0, .ref b), (1, .ref h0), (2, .ref h1), (3, .ref qo)]) (hnext : la_nx p l e s m below meth c b D h0 h1 qo cI cB cZ cL am i n nc cc ss) : W p l e room_1 s m #[Value.ref b] below meth c H locs cc ss (lw_Z below #[Value.ref b] s) (F0 m 806 ls []) := by
  obtain ⟨hx, hb, hr, hml, hown, hts0, hX, hbl, hlocks, hgv⟩ := C0
  have hts : ∀ w ∈ wsG, w.before #[Value.ref b] s = true := fun w h => hts0 w (List.mem_filter.mp h).1
  have hown : s.vm.findClass RL = some m.cls := hown
  have hA : ∀ q : Nat, s.heap.size ≤ q → (fun q : Nat => s.heap.size ≤ q) q := fun _ h => h
  have hbA : ¬ (fun q : Nat => s.heap.size ≤ q) b := Nat.not_le.mpr hbl
  have hz0 : Int32.toNatClampNeg 0 = 0 := by decide
  refine lv_aload_n hx hb dL_law_806 rfl (lv_at hl 2 rfl) ?_
  have hPg := hP.sub (ws' := (gW h0 cI n ad ar iv)) [7, 8, 9, 10, 11, 12, 13, 14, 15] rfl
  have hKg := hK.sub (tys' := [(cI, .int)]) [0] rfl
  refine vp_callSi (W.runV (As := []) (rest := []) ⟨hx, hb, hml, hown, hts⟩ (c_inputs l D h0 cI n ad ar iv) (cwV 0 hts gL_law_X0_inputs rfl rfl rfl (by decide +kernel) ⟨Nat.le_of_ble_eq_true rfl, Nat.le_of_ble_eq_true rfl⟩) (rP_V hKg hPg (va_recv hKg hPg (ci := 0) (q0 := 0) rfl rfl)) rfl rfl hl.1 rfl (lv_room (Nat.le_of_ble_eq_true rfl)) dL_law_807 ⟨by show _ ≤ 61024; omega, by show _ ≤ 8913034; omega⟩) (fun r807 e807 => ?_)
  refine lv_aload_n hx hb dL_law_810 rfl (lv_at hl 3 rfl) ?_
  have hPc := hP.sub (ws' := (mW h1 cI cB cZ am ar1 iv1)) [0, 1, 2, 3, 4, 5] rfl
  have hDc := hD.sub (ws' := (mW h1 cI cB cZ am ar1 iv1)) [0, 1, 2, 3, 4, 5] (by decide) rfl
  have hKm := hK.sub (tys' := [(cI, .int), (cB, .byte), (cZ, .boolean)]) [0, 1, 2] rfl
  have hFc := va_free (wc := (mW h1 cI cB cZ am ar1 iv1)) hD hS hA [0, 1, 2, 3, 4, 5] rfl
  refine va_calli (va_runV (As := []) (rest := [.int r807]) ⟨hx, hb, hml, hown, hts⟩ (m_inputs l D h1 cI cB cZ am ar1 iv1 H.size  nc ic g bv hmm) (cwV 0 hts gL_law_X1_inputs rfl rfl rfl (by decide +kernel) ⟨Nat.le_of_ble_eq_true rfl, Nat.le_of_ble_eq_true rfl⟩) (mP_V hKm hPc hDc (va_recv hKm hPc (ci := 1) (q0 := 0) rfl rfl)) rfl rfl hl.1 rfl (lv_room (Nat.le_of_ble_eq_true rfl)) dL_law_811 ⟨by show _ ≤ 61024; omega, by show _ ≤ 8913034; omega⟩) hS (fun q _ h => hFc q h) hFc (fun r811 u t H1 locs ht hvm e811 hB hz1 hk1 hS => ?_)
  obtain ⟨ar811, iv811⟩ := u
  obtain ⟨hP1, hK1, hD1⟩ := hB
  rw [ht] at hP1
  obtain ⟨hP, hD⟩ := va_join (wr := (oW h0 cI cL n ad ar iv qo f)) (w1 := (mW h1 cI cB cZ am ar811 iv811)) hP hD [0, 1, 2, 3, 4, 5] [6, 7, 8, 9, 10, 11, 12, 13, 14, 15] rfl rfl (by decide) (by decide) hk1 hFc hP1 hD1
  clear hP1 hK1 hD1 hk1 hz1 hFc ht hPc hDc
  generalize H1 = H at hP hS ⊢
  have hP := hP.sub (ws' := (lawW h0 h1 qo cI cB cZ cL n ad ar iv f am ar811 iv811)) [10, 11, 12, 13, 14, 15, 0, 1, 2, 3, 4, 5, 6, 7, 8, 9] rfl
  have hD := hD.sub (ws' := (lawW h0 h1 qo cI cB cZ cL n ad ar iv f am ar811 iv811)) [10, 11, 12, 13, 14, 15, 0, 1, 2, 3, 4, 5, 6, 7, 8, 9] (by decide) rfl
  have hfin : la_ok n nc (n, ad, ar, iv) (ar811, iv811) 0 := ⟨nc, ic, g, bv, hok, e811.2.2, Nat.le_refl _, by omega, rfl, hn16⟩
  refine lv_icmp_eq (tgt := 819) hx hb dL_law_814 (by decide) (fun c814 => ?_) (fun c814 => ?_)
  · refine W.widen (k := cc + 4 + 0) (n := ss + 24 + 16 * 0) (by omega) (by omega) ?_
    exact hnext _ _ _ 0 _ _ _ hfin hP hD hS (lv_sub hl [0, 1, 2, 3, 4] rfl)
  · exact absurd (e807.trans (hok.ic.trans e811.1.symm)) c814
