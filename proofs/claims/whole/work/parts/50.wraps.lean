-- ===== the law's own methods: a call, its answer put away, or 1 for what it threw =====
abbrev oW (h0 : Nat) (cI cL : ClassId) (n : Nat) (ad : Nat → Nat) (ar : Nat → Nat → Int32) (iv : Nat → Int32) (qo : Nat) (f : Nat → Int64) : va_W := (qo, .inl (cL, 1, .inr (.inl f))) :: gW h0 cI n ad ar iv
abbrev OU : Type := GS × (Nat → Int64)
abbrev ob_at (D : va_G) (cI cL : ClassId) (A : Nat → Prop) (h0 qo : Nat) (u : OU) (t : State) : Prop := va_P D vwCl (oW h0 cI cL u.1.1 u.1.2.1 u.1.2.2.1 u.1.2.2.2 qo u.2) t.heap ∧ va_K D vwCl [(cI, .int), (cL, .long)] t ∧ va_D A (oW h0 cI cL u.1.1 u.1.2.1 u.1.2.2.1 u.1.2.2.2 qo u.2)
/-- with V the answer v and S behind it, without V 1 and nothing changed -/
def wb_ans (V : Prop) (v : Int64) (S : GS → Prop) (S0 : GS) (r : Int32) (u : OU) : Prop := (V ∧ r = 0 ∧ u.2 0 = v ∧ S u.1) ∨ (¬ V ∧ r = 1 ∧ u.1 = S0)
theorem lo_at (f : Nat → Int64) (v : Int64) : vp_updL f (Int32.toNatClampNeg 0) v 0 = v := by
  rw [show Int32.toNatClampNeg 0 = 0 from by decide]
  exact pk_uLs
def ct_l (b : Bool) : Int64 := if b then 1 else 0
theorem ct_b_d {y : Int32} {t : Bool} (h : y = ct_b t) : decide (y ≠ 0) = t := by
  subst h
  cases t <;> decide
theorem gb_inp {n nc ic : Nat} {g : Ct} {bv : Nat → Bool} {ar : Nat → Nat → Int32} {iv : Nat → Int32} (h : gb_ok n nc ic g bv ar iv) {x : Int32} : (ct_nod nc x ∧ gb_kind ar x = 1) ↔ (ct_nod nc x ∧ ct_kd g x.toNatClampNeg = 1) := by
  have h1 := h.ct.2.1
  have h2 := h.ct.2.2.1
  have key : ct_nod nc x → gb_kind ar x = ct_kd g x.toNatClampNeg := fun z => by
    have e := ct_nod_n z (by omega)
    exact (congrArg (gb_kind ar) e.1).trans (gb_kind_n h.ct e.2)
  exact ⟨fun z => ⟨z.1, (key z.1).symm.trans z.2⟩, fun z => ⟨z.1, (key z.1).trans z.2⟩⟩
theorem gb_sm {n nc ic : Nat} {g : Ct} {bv : Nat → Bool} {ar : Nat → Nat → Int32} {iv : Nat → Int32} {ad : Nat → Nat} {u : GS} (h : gb_ok n nc ic g bv ar iv) (e : u = (n, ad, ar, iv)) : u.1 = n ∧ gb_ok n nc ic g bv u.2.2.1 u.2.2.2 := by
  subst e
  exact ⟨rfl, h⟩
theorem lt_io {D : va_G} {ws : va_W} {tys : List (ClassId × FieldType)} {s : State} {H : Heap} {A : Nat → Prop} {locs : List Loc} {As : List Value} (hK : va_K D vwCl tys s) (hP : va_P D vwCl ws H) (hD : va_D A ws) (hT : gT A s s.heap) (hS : va_S A s.heap H locs) (hF : ∀ q, va_A ws H.size q → A q) : PreS s H (tP D ws tys H.size As) As :=
  ⟨tP_blind, fun U hU hW => ⟨rfl, by rw [hU], by rw [hU]; exact hP, va_K.moved hW.alike hK, hD.weaken (fun _ _ _ _ => trivial), hT.go hS hU hW hF⟩⟩
set_option maxHeartbeats 4000000 in
set_option maxRecDepth 100000 in
/-- the law's input -/
theorem w_input (l : Launch) (D : va_G) (h0 : Nat) (cI cL : ClassId) (n : Nat) (ad : Nat → Nat) (ar : Nat → Nat → Int32) (iv : Nat → Int32) (qo : Nat) (f : Nat → Int64) (sz : Nat) (nc ic : Nat) (g : Ct) (bv : Nat → Bool) (hok : gb_ok n nc ic g bv ar iv) (hmx : nc + 6 ≤ 20000) : Met l yL_input wsL_input ({ frames := 5, cells := gb_cap n (nc + 1) - n, slots := 16 * (gb_cap n (nc + 1) - n), locals := 127 }) (tP D (oW h0 cI cL n ad ar iv qo f) [(cI, .int), (cL, .long)] sz [.ref h0, .ref qo]) (va_Qi (fun (r : Int32) (u : OU) => wb_ans True ((nI (2 * nc)).toInt64) (fun v => v.1 = gb_cap n (nc + 1) ∧ gb_ok v.1 (nc + 1) (ic + 1) g bv v.2.2.1 v.2.2.2) (n, ad, ar, iv) r u) (ob_at D cI cL (va_A (oW h0 cI cL n ad ar iv qo f) sz) h0 qo) (va_A (oW h0 cI cL n ad ar iv qo f) sz)) (gb_cap n (nc + 1) - n) (16 * (gb_cap n (nc + 1) - n)) (va_A (oW h0 cI cL n ad ar iv qo f) sz) := by
  refine va_MetW (cc := cL_input) (maxL := 3) (ret := (some .int)) (hh := [(0, 8, 11, 13)]) (by decide) rfl ?_
  intro p e s m args below meth c s₁ B hml hv
  obtain ⟨rfl, hsz, hP, hK, hD0, hT⟩ := hv
  have hx := B.exec
  have hb := B.bytes
  have hr := B.returns
  have hts := atoms_spec (ws := wsL_input) B.pre
  have hown : s.vm.findClass RL = some m.cls := findClass_of_methodNamed B.named
  have hlocks := B.notSynchronized
  have hl := lv_entry ([.ref h0, .ref qo]) (n := 3) (Nat.le_of_ble_eq_true rfl)
  rw [lg_entry_eq]
  generalize (lg_sl ([.ref h0, .ref qo]) ++ List.replicate (3 - (lg_sl ([.ref h0, .ref qo])).length) Slot.unset).toArray = ls at hl ⊢
  have hl : lv_has ls 3 [(0, .ref h0), (1, .ref qo)] := hl
  subst hsz
  have hD := hD0.self (sz := s.heap.size)
  generalize hAe : va_A (oW h0 cI cL n ad ar iv qo f) s.heap.size = A at hD hT ⊢
  have hA : ∀ q : Nat, s.heap.size ≤ q → A q := fun q h => by rw [← hAe]; exact Or.inr h
  have hS : va_S A s.heap s.heap [] := va_S.rf
  refine lv_aload_n hx hb dL_input_0 rfl (lv_at hl 1 rfl) ?_
  refine lv_iconst (v := 0) hx hb dL_input_1 (by decide) ?_
  refine lv_aload_n hx hb dL_input_2 rfl (lv_at hl 0 rfl) ?_
  have hPc := hP.sub (ws' := (gW h0 cI n ad ar iv)) [1, 2, 3, 4, 5, 6, 7, 8, 9] rfl
  have hDc := hD.sub (ws' := (gW h0 cI n ad ar iv)) [1, 2, 3, 4, 5, 6, 7, 8, 9] (by decide) rfl
  have hKc := hK.sub (tys' := [(cI, .int)]) [0] rfl
  have hFc := va_free (wc := (gW h0 cI n ad ar iv)) hD hS hA [1, 2, 3, 4, 5, 6, 7, 8, 9] rfl
  refine va_calli (va_runV (As := []) (rest := [.int 0, .ref qo]) ⟨hx, hb, hml, hown, hts⟩ (c_input l D h0 cI n ad ar iv s.heap.size nc ic g bv hok hmx) (cwV 0 hts gL_input_X0_input rfl rfl rfl (by decide +kernel) ⟨Nat.le_of_ble_eq_true rfl, Nat.le_of_ble_eq_true rfl⟩) (mP_V hKc hPc hDc (va_recv hKc hPc (ci := 0) (q0 := 0) rfl rfl)) rfl rfl hl.1 rfl (lv_room (Nat.le_of_ble_eq_true rfl)) dL_input_3 ⟨by show _ + _ ≤ gb_cap n (nc + 1) - n; omega, by show _ + _ ≤ 16 * (gb_cap n (nc + 1) - n); omega⟩) hS (fun q _ h => hFc q h) hFc (fun r3 u t H1 locs ht hvm e3 hB hz1 hk1 hS => ?_)
  obtain ⟨n3, ad3, ar3, iv3⟩ := u
  obtain ⟨hP1, hK1, hD1⟩ := hB
  rw [ht] at hP1
  obtain ⟨hP, hD⟩ := va_join (wr := [(qo, .inl (cL, 1, .inr (.inl f)))]) (w1 := (gW h0 cI n3 ad3 ar3 iv3)) hP hD [1, 2, 3, 4, 5, 6, 7, 8, 9] [0] rfl rfl (by decide) (by decide) hk1 hFc hP1 hD1
  generalize H1 = H at hP hS ⊢
  have hP : va_P D vwCl (oW h0 cI cL n3 ad3 ar3 iv3 qo f) H := hP
  have hD : va_D A (oW h0 cI cL n3 ad3 ar3 iv3 qo f) := hD
  try dsimp only at e3
  refine lv_i2l (v := (r3 : Int32).toInt64) hx hb dL_input_6 rfl ?_
  refine va_last hx hb hK hP hD hS 0 1 rfl rfl (by unfold vp_in; decide) dL_input_7 (fun H locs hP hD hS => ?_)
  have hP : va_P D vwCl (oW h0 cI cL n3 ad3 ar3 iv3 qo (vp_updL f (Int32.toNatClampNeg 0) ((r3 : Int32).toInt64))) H := hP
  have hD : va_D A (oW h0 cI cL n3 ad3 ar3 iv3 qo (vp_updL f (Int32.toNatClampNeg 0) ((r3 : Int32).toInt64))) := hD
  refine lv_goto (tgt := 14) hx hb dL_input_8 (by decide) ?_
  refine lv_iconst (v := 0) hx hb dL_input_14 (by decide) ?_
  refine W.widen (k := gb_cap n (nc + 1) - n) (n := 16 * (gb_cap n (nc + 1) - n)) (by omega) (by omega) ?_
  exact W.iret (v := 0) hx hb hr (fun t ht hW => ⟨⟨0, ((n3, ad3, ar3, iv3), vp_updL f (Int32.toNatClampNeg 0) ((r3 : Int32).toInt64)), rfl, Or.inl ⟨trivial, rfl, ((lo_at f _).trans (congrArg Int32.toInt64 e3.1)), e3.2⟩, by rw [ht]; exact hP, va_K.moved hW.alike hK, hD⟩, hS.F ht⟩) hS.2.2 dL_input_15
set_option maxHeartbeats 4000000 in
set_option maxRecDepth 100000 in
/-- the law's and -/
theorem w_and (l : Launch) (hl9 : l.stackTraces = false) (D : va_G) (h0 : Nat) (cI cL : ClassId) (n : Nat) (ad : Nat → Nat) (ar : Nat → Nat → Int32) (iv : Nat → Int32) (qo : Nat) (f : Nat → Int64) (sz : Nat) (x : Int32) (y : Int32) (nc ic : Nat) (g : Ct) (bv : Nat → Bool) (hok : gb_ok n nc ic g bv ar iv) (hmx : nc + 6 ≤ 20000) (K : Nat) (hKK : ct_lit nc x → ct_lit nc y → gb_cap n (ct_an nc g (Int32.toNatClampNeg x) (Int32.toNatClampNeg y)).2.1 ≤ n + K) : Met l yL_and wsL_and ({ frames := 8, cells := 2 + K, slots := 12 + 16 * K, locals := 179 }) (tP D (oW h0 cI cL n ad ar iv qo f) [(cI, .int), (cL, .long)] sz [.ref h0, .int x, .int y, .ref qo]) (va_Qi (fun (r : Int32) (u : OU) => wb_ans (ct_lit nc x ∧ ct_lit nc y) ((nI (ct_an nc g (Int32.toNatClampNeg x) (Int32.toNatClampNeg y)).1).toInt64) (fun v => v.1 = gb_cap n (ct_an nc g (Int32.toNatClampNeg x) (Int32.toNatClampNeg y)).2.1 ∧ gb_ok v.1 (ct_an nc g (Int32.toNatClampNeg x) (Int32.toNatClampNeg y)).2.1 ic (ct_an nc g (Int32.toNatClampNeg x) (Int32.toNatClampNeg y)).2.2 bv v.2.2.1 v.2.2.2) (n, ad, ar, iv) r u) (ob_at D cI cL (va_A (oW h0 cI cL n ad ar iv qo f) sz) h0 qo) (va_A (oW h0 cI cL n ad ar iv qo f) sz)) (2 + K) (12 + 16 * K) (va_A (oW h0 cI cL n ad ar iv qo f) sz) := by
  refine va_MetW (cc := cL_and) (maxL := 5) (ret := (some .int)) (hh := [(0, 10, 13, 19), (0, 10, 17, 13)]) (by decide) rfl ?_
  intro p e s m args below meth c s₁ B hml hv
  obtain ⟨rfl, hsz, hP, hK, hD0, hT⟩ := hv
  have hx := B.exec
  have hb := B.bytes
  have hr := B.returns
  have hts := atoms_spec (ws := wsL_and) B.pre
  have hown : s.vm.findClass RL = some m.cls := findClass_of_methodNamed B.named
  have hlocks := B.notSynchronized
  have htab : c.exceptionTable.toList = [⟨0, 10, 13, 19⟩, ⟨0, 10, 17, 13⟩] := vx_table (x := yL_and) B (hts _ (show Cond.codeWith yL_and cL_and 5 (some .int) [(0, 10, 13, 19), (0, 10, 17, 13)] ∈ wsL_and from List.mem_cons_self))
  have hl := lv_entry ([.ref h0, .int x, .int y, .ref qo]) (n := 5) (Nat.le_of_ble_eq_true rfl)
  rw [lg_entry_eq]
  generalize (lg_sl ([.ref h0, .int x, .int y, .ref qo]) ++ List.replicate (5 - (lg_sl ([.ref h0, .int x, .int y, .ref qo])).length) Slot.unset).toArray = ls at hl ⊢
  have hl : lv_has ls 5 [(0, .ref h0), (1, .int x), (2, .int y), (3, .ref qo)] := hl
  subst hsz
  have hD := hD0.self (sz := s.heap.size)
  generalize hAe : va_A (oW h0 cI cL n ad ar iv qo f) s.heap.size = A at hD hT ⊢
  have hA : ∀ q : Nat, s.heap.size ≤ q → A q := fun q h => by rw [← hAe]; exact Or.inr h
  have hS : va_S A s.heap s.heap [] := va_S.rf
  refine lv_aload_n hx hb dL_and_0 rfl (lv_at hl 3 rfl) ?_
  refine lv_iconst (v := 0) hx hb dL_and_1 (by decide) ?_
  refine lv_aload_n hx hb dL_and_2 rfl (lv_at hl 0 rfl) ?_
  refine lv_iload_n hx hb dL_and_3 rfl (lv_at hl 1 rfl) ?_
  refine lv_iload_n hx hb dL_and_4 rfl (lv_at hl 2 rfl) ?_
  have hPc := hP.sub (ws' := (gW h0 cI n ad ar iv)) [1, 2, 3, 4, 5, 6, 7, 8, 9] rfl
  have hDc := hD.sub (ws' := (gW h0 cI n ad ar iv)) [1, 2, 3, 4, 5, 6, 7, 8, 9] (by decide) rfl
  have hKc := hK.sub (tys' := [(cI, .int)]) [0] rfl
  have hFc := va_free (wc := (gW h0 cI n ad ar iv)) hD hS hA [1, 2, 3, 4, 5, 6, 7, 8, 9] rfl
  refine vx_calli (vx_runV (As := [.int x, .int y]) (rest := [.int 0, .ref qo]) ⟨hx, hb, hml, hown, hts⟩ (c_and l hl9 D h0 cI n ad ar iv s.heap.size x y nc ic g bv hok K hmx hKK) (cwV 2 hts gL_and_X0_and rfl rfl rfl (by decide +kernel) ⟨Nat.le_of_ble_eq_true rfl, Nat.le_of_ble_eq_true rfl⟩) (tP_V hKc hPc hDc (va_recv hKc hPc (ci := 0) (q0 := 0) rfl rfl) hT hS hFc) rfl rfl hl.1 rfl (lv_room (Nat.le_of_ble_eq_true rfl)) dL_and_5 ⟨by show _ + _ ≤ 2 + K; omega, by show _ + _ ≤ 12 + 16 * K; omega⟩) hS (fun q _ h => hFc q h) hFc (fun q _ h => hFc q h) (fun E ce q9 u t H1 locs ht hvm e5 hB hz1 hk1 hS hcell hcv hcl => ?_) (fun r5 u t H1 locs ht hvm e5 hB hz1 hk1 hS => ?_)
  · obtain ⟨nV, rfl⟩ := e5
    obtain ⟨rfl, hP1, hK1, hD1⟩ := hB
    rw [ht] at hP1
    obtain ⟨hP, hD⟩ := va_join (wr := [(qo, .inl (cL, 1, .inr (.inl f)))]) (w1 := (gW h0 cI n ad ar iv)) hP hD [1, 2, 3, 4, 5, 6, 7, 8, 9] [0] rfl rfl (by decide) (by decide) hk1 hFc hP1 hD1
    have hP : va_P D vwCl (oW h0 cI cL n ad ar iv qo f) H1 := hP
    have hD : va_D A (oW h0 cI cL n ad ar iv qo f) := hD
    refine vx_catch hown [] ⟨0, 10, 13, 19⟩ [⟨0, 10, 17, 13⟩] htab (fun z h => nomatch h) rfl (by decide) (hts _ (mG wm_198)) (va_Nw.use rfl hT.2.2.1.1) hcell hcv hcl ?_
    refine lv_astore (lv' := [(4, .ref q9), (0, .ref h0), (1, .int x), (2, .int y), (3, .ref qo)]) hx hb dL_and_13 hl (by decide) rfl (fun ls hl => ?_)
    refine lv_iconst (v := 1) hx hb dL_and_15 (by decide) ?_
    refine W.widen (k := 2 + K) (n := 12 + 16 * K) (by omega) (by omega) ?_
    exact W.iret (v := 1) hx hb hr (fun t ht hW => ⟨⟨1, ((n, ad, ar, iv), f), rfl, Or.inr ⟨nV, rfl, rfl⟩, by rw [ht]; exact hP, va_K.moved hW.alike hK, hD⟩, hS.F ht⟩) hS.2.2 dL_and_16
  · obtain ⟨n5, ad5, ar5, iv5⟩ := u
    obtain ⟨hP1, hK1, hD1⟩ := hB
    rw [ht] at hP1
    obtain ⟨hP, hD⟩ := va_join (wr := [(qo, .inl (cL, 1, .inr (.inl f)))]) (w1 := (gW h0 cI n5 ad5 ar5 iv5)) hP hD [1, 2, 3, 4, 5, 6, 7, 8, 9] [0] rfl rfl (by decide) (by decide) hk1 hFc hP1 hD1
    generalize H1 = H at hP hS ⊢
    have hP : va_P D vwCl (oW h0 cI cL n5 ad5 ar5 iv5 qo f) H := hP
    have hD : va_D A (oW h0 cI cL n5 ad5 ar5 iv5 qo f) := hD
    try dsimp only at e5
    have hr9 : r5 = nI (ct_an nc g (Int32.toNatClampNeg x) (Int32.toNatClampNeg y)).1 := e5.2.1
    have hs9 : (fun v => v.1 = gb_cap n (ct_an nc g (Int32.toNatClampNeg x) (Int32.toNatClampNeg y)).2.1 ∧ gb_ok v.1 (ct_an nc g (Int32.toNatClampNeg x) (Int32.toNatClampNeg y)).2.1 ic (ct_an nc g (Int32.toNatClampNeg x) (Int32.toNatClampNeg y)).2.2 bv v.2.2.1 v.2.2.2) (n5, ad5, ar5, iv5) := e5.2.2
    refine lv_i2l (v := (r5 : Int32).toInt64) hx hb dL_and_8 rfl ?_
    refine va_last hx hb hK hP hD hS 0 1 rfl rfl (by unfold vp_in; decide) dL_and_9 (fun H locs hP hD hS => ?_)
    have hv9 : vp_updL f (Int32.toNatClampNeg 0) ((r5 : Int32).toInt64) 0 = (nI (ct_an nc g (Int32.toNatClampNeg x) (Int32.toNatClampNeg y)).1).toInt64 := (lo_at f _).trans (congrArg Int32.toInt64 hr9)
    have hP : va_P D vwCl (oW h0 cI cL n5 ad5 ar5 iv5 qo (vp_updL f (Int32.toNatClampNeg 0) ((r5 : Int32).toInt64))) H := hP
    have hD : va_D A (oW h0 cI cL n5 ad5 ar5 iv5 qo (vp_updL f (Int32.toNatClampNeg 0) ((r5 : Int32).toInt64))) := hD
    refine lv_goto (tgt := 21) hx hb dL_and_10 (by decide) ?_
    refine lv_iconst (v := 0) hx hb dL_and_21 (by decide) ?_
    refine W.widen (k := 2 + K) (n := 12 + 16 * K) (by omega) (by omega) ?_
    exact W.iret (v := 0) hx hb hr (fun t ht hW => ⟨⟨0, ((n5, ad5, ar5, iv5), vp_updL f (Int32.toNatClampNeg 0) ((r5 : Int32).toInt64)), rfl, Or.inl ⟨e5.1, rfl, hv9, hs9⟩, by rw [ht]; exact hP, va_K.moved hW.alike hK, hD⟩, hS.F ht⟩) hS.2.2 dL_and_22
set_option maxHeartbeats 4000000 in
set_option maxRecDepth 100000 in
/-- the law's join -/
theorem w_join (l : Launch) (hl9 : l.stackTraces = false) (D : va_G) (h0 : Nat) (cI cL : ClassId) (n : Nat) (ad : Nat → Nat) (ar : Nat → Nat → Int32) (iv : Nat → Int32) (qo : Nat) (f : Nat → Int64) (sz : Nat) (x : Int32) (y : Int32) (z : Int32) (nc ic : Nat) (g : Ct) (bv : Nat → Bool) (hok : gb_ok n nc ic g bv ar iv) (hmx : nc + 6 ≤ 20000) (K : Nat) (hKK : (x = 0 ∨ x = 1) → ct_lit nc y → ct_lit nc z → gb_cap n (ct_jn nc g x (Int32.toNatClampNeg y) (Int32.toNatClampNeg z)).2.1 ≤ n + K) : Met l yL_join wsL_join ({ frames := 9, cells := 3 + K, slots := 18 + 16 * K, locals := 224 }) (tP D (oW h0 cI cL n ad ar iv qo f) [(cI, .int), (cL, .long)] sz [.ref h0, .int x, .int y, .int z, .ref qo]) (va_Qi (fun (r : Int32) (u : OU) => wb_ans ((x = 0 ∨ x = 1) ∧ ct_lit nc y ∧ ct_lit nc z) ((nI (ct_jn nc g x (Int32.toNatClampNeg y) (Int32.toNatClampNeg z)).1).toInt64) (fun v => v.1 = gb_cap n (ct_jn nc g x (Int32.toNatClampNeg y) (Int32.toNatClampNeg z)).2.1 ∧ gb_ok v.1 (ct_jn nc g x (Int32.toNatClampNeg y) (Int32.toNatClampNeg z)).2.1 ic (ct_jn nc g x (Int32.toNatClampNeg y) (Int32.toNatClampNeg z)).2.2 bv v.2.2.1 v.2.2.2) (n, ad, ar, iv) r u) (ob_at D cI cL (va_A (oW h0 cI cL n ad ar iv qo f) sz) h0 qo) (va_A (oW h0 cI cL n ad ar iv qo f) sz)) (3 + K) (18 + 16 * K) (va_A (oW h0 cI cL n ad ar iv qo f) sz) := by
  refine va_MetW (cc := cL_join) (maxL := 6) (ret := (some .int)) (hh := [(0, 12, 15, 19), (0, 12, 19, 13)]) (by decide) rfl ?_
  intro p e s m args below meth c s₁ B hml hv
  obtain ⟨rfl, hsz, hP, hK, hD0, hT⟩ := hv
  have hx := B.exec
  have hb := B.bytes
  have hr := B.returns
  have hts := atoms_spec (ws := wsL_join) B.pre
  have hown : s.vm.findClass RL = some m.cls := findClass_of_methodNamed B.named
  have hlocks := B.notSynchronized
  have htab : c.exceptionTable.toList = [⟨0, 12, 15, 19⟩, ⟨0, 12, 19, 13⟩] := vx_table (x := yL_join) B (hts _ (show Cond.codeWith yL_join cL_join 6 (some .int) [(0, 12, 15, 19), (0, 12, 19, 13)] ∈ wsL_join from List.mem_cons_self))
  have hl := lv_entry ([.ref h0, .int x, .int y, .int z, .ref qo]) (n := 6) (Nat.le_of_ble_eq_true rfl)
  rw [lg_entry_eq]
  generalize (lg_sl ([.ref h0, .int x, .int y, .int z, .ref qo]) ++ List.replicate (6 - (lg_sl ([.ref h0, .int x, .int y, .int z, .ref qo])).length) Slot.unset).toArray = ls at hl ⊢
  have hl : lv_has ls 6 [(0, .ref h0), (1, .int x), (2, .int y), (3, .int z), (4, .ref qo)] := hl
  subst hsz
  have hD := hD0.self (sz := s.heap.size)
  generalize hAe : va_A (oW h0 cI cL n ad ar iv qo f) s.heap.size = A at hD hT ⊢
  have hA : ∀ q : Nat, s.heap.size ≤ q → A q := fun q h => by rw [← hAe]; exact Or.inr h
  have hS : va_S A s.heap s.heap [] := va_S.rf
  refine lv_aload hx hb dL_join_0 (lv_at hl 4 rfl) ?_
  refine lv_iconst (v := 0) hx hb dL_join_2 (by decide) ?_
  refine lv_aload_n hx hb dL_join_3 rfl (lv_at hl 0 rfl) ?_
  refine lv_iload_n hx hb dL_join_4 rfl (lv_at hl 1 rfl) ?_
  refine lv_iload_n hx hb dL_join_5 rfl (lv_at hl 2 rfl) ?_
  refine lv_iload_n hx hb dL_join_6 rfl (lv_at hl 3 rfl) ?_
  have hPc := hP.sub (ws' := (gW h0 cI n ad ar iv)) [1, 2, 3, 4, 5, 6, 7, 8, 9] rfl
  have hDc := hD.sub (ws' := (gW h0 cI n ad ar iv)) [1, 2, 3, 4, 5, 6, 7, 8, 9] (by decide) rfl
  have hKc := hK.sub (tys' := [(cI, .int)]) [0] rfl
  have hFc := va_free (wc := (gW h0 cI n ad ar iv)) hD hS hA [1, 2, 3, 4, 5, 6, 7, 8, 9] rfl
  refine vx_calli (vx_runV (As := [.int x, .int y, .int z]) (rest := [.int 0, .ref qo]) ⟨hx, hb, hml, hown, hts⟩ (c_join l hl9 D h0 cI n ad ar iv s.heap.size x y z nc ic g bv hok K hmx hKK) (cwV 3 hts gL_join_X0_join rfl rfl rfl (by decide +kernel) ⟨Nat.le_of_ble_eq_true rfl, Nat.le_of_ble_eq_true rfl⟩) (tP_V hKc hPc hDc (va_recv hKc hPc (ci := 0) (q0 := 0) rfl rfl) hT hS hFc) rfl rfl hl.1 rfl (lv_room (Nat.le_of_ble_eq_true rfl)) dL_join_7 ⟨by show _ + _ ≤ 3 + K; omega, by show _ + _ ≤ 18 + 16 * K; omega⟩) hS (fun q _ h => hFc q h) hFc (fun q _ h => hFc q h) (fun E ce q9 u t H1 locs ht hvm e7 hB hz1 hk1 hS hcell hcv hcl => ?_) (fun r7 u t H1 locs ht hvm e7 hB hz1 hk1 hS => ?_)
  · obtain ⟨nV, rfl⟩ := e7
    obtain ⟨rfl, hP1, hK1, hD1⟩ := hB
    rw [ht] at hP1
    obtain ⟨hP, hD⟩ := va_join (wr := [(qo, .inl (cL, 1, .inr (.inl f)))]) (w1 := (gW h0 cI n ad ar iv)) hP hD [1, 2, 3, 4, 5, 6, 7, 8, 9] [0] rfl rfl (by decide) (by decide) hk1 hFc hP1 hD1
    have hP : va_P D vwCl (oW h0 cI cL n ad ar iv qo f) H1 := hP
    have hD : va_D A (oW h0 cI cL n ad ar iv qo f) := hD
    refine vx_catch hown [] ⟨0, 12, 15, 19⟩ [⟨0, 12, 19, 13⟩] htab (fun z h => nomatch h) rfl (by decide) (hts _ (mG wm_198)) (va_Nw.use rfl hT.2.2.1.1) hcell hcv hcl ?_
    refine lv_astore (lv' := [(5, .ref q9), (0, .ref h0), (1, .int x), (2, .int y), (3, .int z), (4, .ref qo)]) hx hb dL_join_15 hl (by decide) rfl (fun ls hl => ?_)
    refine lv_iconst (v := 1) hx hb dL_join_17 (by decide) ?_
    refine W.widen (k := 3 + K) (n := 18 + 16 * K) (by omega) (by omega) ?_
    exact W.iret (v := 1) hx hb hr (fun t ht hW => ⟨⟨1, ((n, ad, ar, iv), f), rfl, Or.inr ⟨nV, rfl, rfl⟩, by rw [ht]; exact hP, va_K.moved hW.alike hK, hD⟩, hS.F ht⟩) hS.2.2 dL_join_18
  · obtain ⟨n7, ad7, ar7, iv7⟩ := u
    obtain ⟨hP1, hK1, hD1⟩ := hB
    rw [ht] at hP1
    obtain ⟨hP, hD⟩ := va_join (wr := [(qo, .inl (cL, 1, .inr (.inl f)))]) (w1 := (gW h0 cI n7 ad7 ar7 iv7)) hP hD [1, 2, 3, 4, 5, 6, 7, 8, 9] [0] rfl rfl (by decide) (by decide) hk1 hFc hP1 hD1
    generalize H1 = H at hP hS ⊢
    have hP : va_P D vwCl (oW h0 cI cL n7 ad7 ar7 iv7 qo f) H := hP
    have hD : va_D A (oW h0 cI cL n7 ad7 ar7 iv7 qo f) := hD
    try dsimp only at e7
    have hr9 : r7 = nI (ct_jn nc g x (Int32.toNatClampNeg y) (Int32.toNatClampNeg z)).1 := e7.2.1
    have hs9 : (fun v => v.1 = gb_cap n (ct_jn nc g x (Int32.toNatClampNeg y) (Int32.toNatClampNeg z)).2.1 ∧ gb_ok v.1 (ct_jn nc g x (Int32.toNatClampNeg y) (Int32.toNatClampNeg z)).2.1 ic (ct_jn nc g x (Int32.toNatClampNeg y) (Int32.toNatClampNeg z)).2.2 bv v.2.2.1 v.2.2.2) (n7, ad7, ar7, iv7) := e7.2.2
    refine lv_i2l (v := (r7 : Int32).toInt64) hx hb dL_join_10 rfl ?_
    refine va_last hx hb hK hP hD hS 0 1 rfl rfl (by unfold vp_in; decide) dL_join_11 (fun H locs hP hD hS => ?_)
    have hv9 : vp_updL f (Int32.toNatClampNeg 0) ((r7 : Int32).toInt64) 0 = (nI (ct_jn nc g x (Int32.toNatClampNeg y) (Int32.toNatClampNeg z)).1).toInt64 := (lo_at f _).trans (congrArg Int32.toInt64 hr9)
    have hP : va_P D vwCl (oW h0 cI cL n7 ad7 ar7 iv7 qo (vp_updL f (Int32.toNatClampNeg 0) ((r7 : Int32).toInt64))) H := hP
    have hD : va_D A (oW h0 cI cL n7 ad7 ar7 iv7 qo (vp_updL f (Int32.toNatClampNeg 0) ((r7 : Int32).toInt64))) := hD
    refine lv_goto (tgt := 23) hx hb dL_join_12 (by decide) ?_
    refine lv_iconst (v := 0) hx hb dL_join_23 (by decide) ?_
    refine W.widen (k := 3 + K) (n := 18 + 16 * K) (by omega) (by omega) ?_
    exact W.iret (v := 0) hx hb hr (fun t ht hW => ⟨⟨0, ((n7, ad7, ar7, iv7), vp_updL f (Int32.toNatClampNeg 0) ((r7 : Int32).toInt64)), rfl, Or.inl ⟨e7.1, rfl, hv9, hs9⟩, by rw [ht]; exact hP, va_K.moved hW.alike hK, hD⟩, hS.F ht⟩) hS.2.2 dL_join_24
set_option maxHeartbeats 4000000 in
set_option maxRecDepth 100000 in
/-- the law's three -/
theorem w_three (l : Launch) (hl9 : l.stackTraces = false) (D : va_G) (h0 : Nat) (cI cL : ClassId) (n : Nat) (ad : Nat → Nat) (ar : Nat → Nat → Int32) (iv : Nat → Int32) (qo : Nat) (f : Nat → Int64) (sz : Nat) (x : Int32) (y : Int32) (z : Int32) (w : Int32) (nc ic : Nat) (g : Ct) (bv : Nat → Bool) (hok : gb_ok n nc ic g bv ar iv) (hmx : nc + 6 ≤ 20000) (K : Nat) (hKK : (x = 0 ∨ x = 1 ∨ x = 2) → ct_lit nc y → ct_lit nc z → ct_lit nc w → gb_cap n (ct_th nc g x (Int32.toNatClampNeg y) (Int32.toNatClampNeg z) (Int32.toNatClampNeg w)).2.1 ≤ n + K) : Met l yL_three wsL_three ({ frames := 9, cells := 4 + K, slots := 24 + 16 * K, locals := 228 }) (tP D (oW h0 cI cL n ad ar iv qo f) [(cI, .int), (cL, .long)] sz [.ref h0, .int x, .int y, .int z, .int w, .ref qo]) (va_Qi (fun (r : Int32) (u : OU) => wb_ans ((x = 0 ∨ x = 1 ∨ x = 2) ∧ ct_lit nc y ∧ ct_lit nc z ∧ ct_lit nc w) ((nI (ct_th nc g x (Int32.toNatClampNeg y) (Int32.toNatClampNeg z) (Int32.toNatClampNeg w)).1).toInt64) (fun v => v.1 = gb_cap n (ct_th nc g x (Int32.toNatClampNeg y) (Int32.toNatClampNeg z) (Int32.toNatClampNeg w)).2.1 ∧ gb_ok v.1 (ct_th nc g x (Int32.toNatClampNeg y) (Int32.toNatClampNeg z) (Int32.toNatClampNeg w)).2.1 ic (ct_th nc g x (Int32.toNatClampNeg y) (Int32.toNatClampNeg z) (Int32.toNatClampNeg w)).2.2 bv v.2.2.1 v.2.2.2) (n, ad, ar, iv) r u) (ob_at D cI cL (va_A (oW h0 cI cL n ad ar iv qo f) sz) h0 qo) (va_A (oW h0 cI cL n ad ar iv qo f) sz)) (4 + K) (24 + 16 * K) (va_A (oW h0 cI cL n ad ar iv qo f) sz) := by
  refine va_MetW (cc := cL_three) (maxL := 7) (ret := (some .int)) (hh := [(0, 14, 17, 19), (0, 14, 21, 13)]) (by decide) rfl ?_
  intro p e s m args below meth c s₁ B hml hv
  obtain ⟨rfl, hsz, hP, hK, hD0, hT⟩ := hv
  have hx := B.exec
  have hb := B.bytes
  have hr := B.returns
  have hts := atoms_spec (ws := wsL_three) B.pre
  have hown : s.vm.findClass RL = some m.cls := findClass_of_methodNamed B.named
  have hlocks := B.notSynchronized
  have htab : c.exceptionTable.toList = [⟨0, 14, 17, 19⟩, ⟨0, 14, 21, 13⟩] := vx_table (x := yL_three) B (hts _ (show Cond.codeWith yL_three cL_three 7 (some .int) [(0, 14, 17, 19), (0, 14, 21, 13)] ∈ wsL_three from List.mem_cons_self))
  have hl := lv_entry ([.ref h0, .int x, .int y, .int z, .int w, .ref qo]) (n := 7) (Nat.le_of_ble_eq_true rfl)
  rw [lg_entry_eq]
  generalize (lg_sl ([.ref h0, .int x, .int y, .int z, .int w, .ref qo]) ++ List.replicate (7 - (lg_sl ([.ref h0, .int x, .int y, .int z, .int w, .ref qo])).length) Slot.unset).toArray = ls at hl ⊢
  have hl : lv_has ls 7 [(0, .ref h0), (1, .int x), (2, .int y), (3, .int z), (4, .int w), (5, .ref qo)] := hl
  subst hsz
  have hD := hD0.self (sz := s.heap.size)
  generalize hAe : va_A (oW h0 cI cL n ad ar iv qo f) s.heap.size = A at hD hT ⊢
  have hA : ∀ q : Nat, s.heap.size ≤ q → A q := fun q h => by rw [← hAe]; exact Or.inr h
  have hS : va_S A s.heap s.heap [] := va_S.rf
  refine lv_aload hx hb dL_three_0 (lv_at hl 5 rfl) ?_
  refine lv_iconst (v := 0) hx hb dL_three_2 (by decide) ?_
  refine lv_aload_n hx hb dL_three_3 rfl (lv_at hl 0 rfl) ?_
  refine lv_iload_n hx hb dL_three_4 rfl (lv_at hl 1 rfl) ?_
  refine lv_iload_n hx hb dL_three_5 rfl (lv_at hl 2 rfl) ?_
  refine lv_iload_n hx hb dL_three_6 rfl (lv_at hl 3 rfl) ?_
  refine lv_iload hx hb dL_three_7 (lv_at hl 4 rfl) ?_
  have hPc := hP.sub (ws' := (gW h0 cI n ad ar iv)) [1, 2, 3, 4, 5, 6, 7, 8, 9] rfl
  have hDc := hD.sub (ws' := (gW h0 cI n ad ar iv)) [1, 2, 3, 4, 5, 6, 7, 8, 9] (by decide) rfl
  have hKc := hK.sub (tys' := [(cI, .int)]) [0] rfl
  have hFc := va_free (wc := (gW h0 cI n ad ar iv)) hD hS hA [1, 2, 3, 4, 5, 6, 7, 8, 9] rfl
  refine vx_calli (vx_runV (As := [.int x, .int y, .int z, .int w]) (rest := [.int 0, .ref qo]) ⟨hx, hb, hml, hown, hts⟩ (c_three l hl9 D h0 cI n ad ar iv s.heap.size x y z w nc ic g bv hok K hmx hKK) (cwV 4 hts gL_three_X0_three rfl rfl rfl (by decide +kernel) ⟨Nat.le_of_ble_eq_true rfl, Nat.le_of_ble_eq_true rfl⟩) (tP_V hKc hPc hDc (va_recv hKc hPc (ci := 0) (q0 := 0) rfl rfl) hT hS hFc) rfl rfl hl.1 rfl (lv_room (Nat.le_of_ble_eq_true rfl)) dL_three_9 ⟨by show _ + _ ≤ 4 + K; omega, by show _ + _ ≤ 24 + 16 * K; omega⟩) hS (fun q _ h => hFc q h) hFc (fun q _ h => hFc q h) (fun E ce q9 u t H1 locs ht hvm e9 hB hz1 hk1 hS hcell hcv hcl => ?_) (fun r9 u t H1 locs ht hvm e9 hB hz1 hk1 hS => ?_)
  · obtain ⟨nV, rfl⟩ := e9
    obtain ⟨rfl, hP1, hK1, hD1⟩ := hB
    rw [ht] at hP1
    obtain ⟨hP, hD⟩ := va_join (wr := [(qo, .inl (cL, 1, .inr (.inl f)))]) (w1 := (gW h0 cI n ad ar iv)) hP hD [1, 2, 3, 4, 5, 6, 7, 8, 9] [0] rfl rfl (by decide) (by decide) hk1 hFc hP1 hD1
    have hP : va_P D vwCl (oW h0 cI cL n ad ar iv qo f) H1 := hP
    have hD : va_D A (oW h0 cI cL n ad ar iv qo f) := hD
    refine vx_catch hown [] ⟨0, 14, 17, 19⟩ [⟨0, 14, 21, 13⟩] htab (fun z h => nomatch h) rfl (by decide) (hts _ (mG wm_198)) (va_Nw.use rfl hT.2.2.1.1) hcell hcv hcl ?_
    refine lv_astore (lv' := [(6, .ref q9), (0, .ref h0), (1, .int x), (2, .int y), (3, .int z), (4, .int w), (5, .ref qo)]) hx hb dL_three_17 hl (by decide) rfl (fun ls hl => ?_)
    refine lv_iconst (v := 1) hx hb dL_three_19 (by decide) ?_
    refine W.widen (k := 4 + K) (n := 24 + 16 * K) (by omega) (by omega) ?_
    exact W.iret (v := 1) hx hb hr (fun t ht hW => ⟨⟨1, ((n, ad, ar, iv), f), rfl, Or.inr ⟨nV, rfl, rfl⟩, by rw [ht]; exact hP, va_K.moved hW.alike hK, hD⟩, hS.F ht⟩) hS.2.2 dL_three_20
  · obtain ⟨n9, ad9, ar9, iv9⟩ := u
    obtain ⟨hP1, hK1, hD1⟩ := hB
    rw [ht] at hP1
    obtain ⟨hP, hD⟩ := va_join (wr := [(qo, .inl (cL, 1, .inr (.inl f)))]) (w1 := (gW h0 cI n9 ad9 ar9 iv9)) hP hD [1, 2, 3, 4, 5, 6, 7, 8, 9] [0] rfl rfl (by decide) (by decide) hk1 hFc hP1 hD1
    generalize H1 = H at hP hS ⊢
    have hP : va_P D vwCl (oW h0 cI cL n9 ad9 ar9 iv9 qo f) H := hP
    have hD : va_D A (oW h0 cI cL n9 ad9 ar9 iv9 qo f) := hD
    try dsimp only at e9
    have hr9 : r9 = nI (ct_th nc g x (Int32.toNatClampNeg y) (Int32.toNatClampNeg z) (Int32.toNatClampNeg w)).1 := e9.2.1
    have hs9 : (fun v => v.1 = gb_cap n (ct_th nc g x (Int32.toNatClampNeg y) (Int32.toNatClampNeg z) (Int32.toNatClampNeg w)).2.1 ∧ gb_ok v.1 (ct_th nc g x (Int32.toNatClampNeg y) (Int32.toNatClampNeg z) (Int32.toNatClampNeg w)).2.1 ic (ct_th nc g x (Int32.toNatClampNeg y) (Int32.toNatClampNeg z) (Int32.toNatClampNeg w)).2.2 bv v.2.2.1 v.2.2.2) (n9, ad9, ar9, iv9) := e9.2.2
    refine lv_i2l (v := (r9 : Int32).toInt64) hx hb dL_three_12 rfl ?_
    refine va_last hx hb hK hP hD hS 0 1 rfl rfl (by unfold vp_in; decide) dL_three_13 (fun H locs hP hD hS => ?_)
    have hv9 : vp_updL f (Int32.toNatClampNeg 0) ((r9 : Int32).toInt64) 0 = (nI (ct_th nc g x (Int32.toNatClampNeg y) (Int32.toNatClampNeg z) (Int32.toNatClampNeg w)).1).toInt64 := (lo_at f _).trans (congrArg Int32.toInt64 hr9)
    have hP : va_P D vwCl (oW h0 cI cL n9 ad9 ar9 iv9 qo (vp_updL f (Int32.toNatClampNeg 0) ((r9 : Int32).toInt64))) H := hP
    have hD : va_D A (oW h0 cI cL n9 ad9 ar9 iv9 qo (vp_updL f (Int32.toNatClampNeg 0) ((r9 : Int32).toInt64))) := hD
    refine lv_goto (tgt := 25) hx hb dL_three_14 (by decide) ?_
    refine lv_iconst (v := 0) hx hb dL_three_25 (by decide) ?_
    refine W.widen (k := 4 + K) (n := 24 + 16 * K) (by omega) (by omega) ?_
    exact W.iret (v := 0) hx hb hr (fun t ht hW => ⟨⟨0, ((n9, ad9, ar9, iv9), vp_updL f (Int32.toNatClampNeg 0) ((r9 : Int32).toInt64)), rfl, Or.inl ⟨e9.1, rfl, hv9, hs9⟩, by rw [ht]; exact hP, va_K.moved hW.alike hK, hD⟩, hS.F ht⟩) hS.2.2 dL_three_26
set_option maxHeartbeats 4000000 in
set_option maxRecDepth 100000 in
/-- the law's set -/
theorem w_set (l : Launch) (hl9 : l.stackTraces = false) (D : va_G) (h0 : Nat) (cI cL : ClassId) (n : Nat) (ad : Nat → Nat) (ar : Nat → Nat → Int32) (iv : Nat → Int32) (qo : Nat) (f : Nat → Int64) (sz : Nat) (x : Int32) (y : Int32) (nc ic : Nat) (g : Ct) (bv : Nat → Bool) (hok : gb_ok n nc ic g bv ar iv) (hmx : nc + 6 ≤ 20000) (t9 : Bool) (hy0 : y = ct_b t9) : Met l yL_set wsL_set ({ frames := 9, cells := 2, slots := 12, locals := 155 }) (tP D (oW h0 cI cL n ad ar iv qo f) [(cI, .int), (cL, .long)] sz [.ref h0, .int x, .int y, .ref qo]) (va_Qi (fun (r : Int32) (u : OU) => wb_ans (ct_nod nc x ∧ ct_kd g (Int32.toNatClampNeg x) = 1) (ct_l (bv (Int32.toNatClampNeg x) == t9)) (fun v => v.1 = n ∧ gb_ok n nc ic g (va_up bv (Int32.toNatClampNeg x) t9) v.2.2.1 v.2.2.2) (n, ad, ar, iv) r u) (ob_at D cI cL (va_A (oW h0 cI cL n ad ar iv qo f) sz) h0 qo) (va_A (oW h0 cI cL n ad ar iv qo f) sz)) (2) (12) (va_A (oW h0 cI cL n ad ar iv qo f) sz) := by
  refine va_MetW (cc := cL_set) (maxL := 5) (ret := (some .int)) (hh := [(0, 17, 20, 19)]) (by decide) rfl ?_
  intro p e s m args below meth c s₁ B hml hv
  obtain ⟨rfl, hsz, hP, hK, hD0, hT⟩ := hv
  have hx := B.exec
  have hb := B.bytes
  have hr := B.returns
  have hts := atoms_spec (ws := wsL_set) B.pre
  have hown : s.vm.findClass RL = some m.cls := findClass_of_methodNamed B.named
  have hlocks := B.notSynchronized
  have htab : c.exceptionTable.toList = [⟨0, 17, 20, 19⟩] := vx_table (x := yL_set) B (hts _ (show Cond.codeWith yL_set cL_set 5 (some .int) [(0, 17, 20, 19)] ∈ wsL_set from List.mem_cons_self))
  have hl := lv_entry ([.ref h0, .int x, .int y, .ref qo]) (n := 5) (Nat.le_of_ble_eq_true rfl)
  rw [lg_entry_eq]
  generalize (lg_sl ([.ref h0, .int x, .int y, .ref qo]) ++ List.replicate (5 - (lg_sl ([.ref h0, .int x, .int y, .ref qo])).length) Slot.unset).toArray = ls at hl ⊢
  have hl : lv_has ls 5 [(0, .ref h0), (1, .int x), (2, .int y), (3, .ref qo)] := hl
  subst hsz
  have hD := hD0.self (sz := s.heap.size)
  generalize hAe : va_A (oW h0 cI cL n ad ar iv qo f) s.heap.size = A at hD hT ⊢
  have hA : ∀ q : Nat, s.heap.size ≤ q → A q := fun q h => by rw [← hAe]; exact Or.inr h
  have hS : va_S A s.heap s.heap [] := va_S.rf
  refine lv_aload_n hx hb dL_set_0 rfl (lv_at hl 3 rfl) ?_
  refine lv_iconst (v := 0) hx hb dL_set_1 (by decide) ?_
  refine lv_aload_n hx hb dL_set_2 rfl (lv_at hl 0 rfl) ?_
  refine lv_iload_n hx hb dL_set_3 rfl (lv_at hl 1 rfl) ?_
  refine lv_iload_n hx hb dL_set_4 rfl (lv_at hl 2 rfl) ?_
  have hPc := hP.sub (ws' := (gW h0 cI n ad ar iv)) [1, 2, 3, 4, 5, 6, 7, 8, 9] rfl
  have hDc := hD.sub (ws' := (gW h0 cI n ad ar iv)) [1, 2, 3, 4, 5, 6, 7, 8, 9] (by decide) rfl
  have hKc := hK.sub (tys' := [(cI, .int)]) [0] rfl
  have hFc := va_free (wc := (gW h0 cI n ad ar iv)) hD hS hA [1, 2, 3, 4, 5, 6, 7, 8, 9] rfl
  refine vx_calli (vx_runV (As := [.int x, .int y]) (rest := [.int 0, .ref qo]) ⟨hx, hb, hml, hown, hts⟩ (c_set l hl9 D h0 cI n ad ar iv s.heap.size x y nc ic g bv hok hmx) (cwV 2 hts gL_set_X0_set rfl rfl rfl (by decide +kernel) ⟨Nat.le_of_ble_eq_true rfl, Nat.le_of_ble_eq_true rfl⟩) (tP_V hKc hPc hDc (va_recv hKc hPc (ci := 0) (q0 := 0) rfl rfl) hT hS hFc) rfl rfl hl.1 rfl (lv_room (Nat.le_of_ble_eq_true rfl)) dL_set_5 ⟨by show _ + _ ≤ 2; omega, by show _ + _ ≤ 12; omega⟩) hS (fun q _ h => hFc q h) hFc (fun q _ h => hFc q h) (fun E ce q9 u t H1 locs ht hvm e5 hB hz1 hk1 hS hcell hcv hcl => ?_) (fun r5 u t H1 locs ht hvm e5 hB hz1 hk1 hS => ?_)
  · obtain ⟨nV, rfl⟩ := e5
    obtain ⟨rfl, hP1, hK1, hD1⟩ := hB
    rw [ht] at hP1
    obtain ⟨hP, hD⟩ := va_join (wr := [(qo, .inl (cL, 1, .inr (.inl f)))]) (w1 := (gW h0 cI n ad ar iv)) hP hD [1, 2, 3, 4, 5, 6, 7, 8, 9] [0] rfl rfl (by decide) (by decide) hk1 hFc hP1 hD1
    have hP : va_P D vwCl (oW h0 cI cL n ad ar iv qo f) H1 := hP
    have hD : va_D A (oW h0 cI cL n ad ar iv qo f) := hD
    refine vx_catch hown [] ⟨0, 17, 20, 19⟩ [] htab (fun z h => nomatch h) rfl (by decide) (hts _ (mG wm_198)) (va_Nw.use rfl hT.2.2.1.1) hcell hcv hcl ?_
    refine lv_astore (lv' := [(4, .ref q9), (0, .ref h0), (1, .int x), (2, .int y), (3, .ref qo)]) hx hb dL_set_20 hl (by decide) rfl (fun ls hl => ?_)
    refine lv_iconst (v := 1) hx hb dL_set_22 (by decide) ?_
    refine W.widen (k := 2) (n := 12) (by omega) (by omega) ?_
    exact W.iret (v := 1) hx hb hr (fun t ht hW => ⟨⟨1, ((n, ad, ar, iv), f), rfl, Or.inr ⟨fun z => nV ((gb_inp hok).mpr z), rfl, rfl⟩, by rw [ht]; exact hP, va_K.moved hW.alike hK, hD⟩, hS.F ht⟩) hS.2.2 dL_set_23
  · obtain ⟨n5, ad5, ar5, iv5⟩ := u
    obtain ⟨hP1, hK1, hD1⟩ := hB
    rw [ht] at hP1
    obtain ⟨hP, hD⟩ := va_join (wr := [(qo, .inl (cL, 1, .inr (.inl f)))]) (w1 := (gW h0 cI n5 ad5 ar5 iv5)) hP hD [1, 2, 3, 4, 5, 6, 7, 8, 9] [0] rfl rfl (by decide) (by decide) hk1 hFc hP1 hD1
    generalize H1 = H at hP hS ⊢
    have hP : va_P D vwCl (oW h0 cI cL n5 ad5 ar5 iv5 qo f) H := hP
    have hD : va_D A (oW h0 cI cL n5 ad5 ar5 iv5 qo f) := hD
    try dsimp only at e5
    have hr9 : r5 = ct_b (bv (Int32.toNatClampNeg x) == t9) := (by rw [e5.2.1, ct_b_d hy0])
    have hs9 : (fun v => v.1 = n ∧ gb_ok n nc ic g (va_up bv (Int32.toNatClampNeg x) t9) v.2.2.1 v.2.2.2) (n5, ad5, ar5, iv5) := ⟨e5.2.2.1, by rw [← ct_b_d hy0]; exact e5.2.2.2⟩
    refine lv_if_eq (tgt := 15) hx hb dL_set_8 (by decide) (fun c8 => ?_) (fun c8 => ?_)
    · refine lv_lconst (v := 0) hx hb dL_set_15 rfl ?_
      refine va_last hx hb hK hP hD hS 0 1 rfl rfl (by unfold vp_in; decide) dL_set_16 (fun H locs hP hD hS => ?_)
      have hv9 : vp_updL f (Int32.toNatClampNeg 0) 0 0 = ct_l (bv (Int32.toNatClampNeg x) == t9) := (lo_at f _).trans (by rw [ct_b_f (hr9.symm.trans c8)]; rfl)
      have hP : va_P D vwCl (oW h0 cI cL n5 ad5 ar5 iv5 qo (vp_updL f (Int32.toNatClampNeg 0) 0)) H := hP
      have hD : va_D A (oW h0 cI cL n5 ad5 ar5 iv5 qo (vp_updL f (Int32.toNatClampNeg 0) 0)) := hD
      refine lv_goto (tgt := 24) hx hb dL_set_17 (by decide) ?_
      refine lv_iconst (v := 0) hx hb dL_set_24 (by decide) ?_
      refine W.widen (k := 2) (n := 12) (by omega) (by omega) ?_
      exact W.iret (v := 0) hx hb hr (fun t ht hW => ⟨⟨0, ((n5, ad5, ar5, iv5), vp_updL f (Int32.toNatClampNeg 0) 0), rfl, Or.inl ⟨(gb_inp hok).mp e5.1, rfl, hv9, hs9⟩, by rw [ht]; exact hP, va_K.moved hW.alike hK, hD⟩, hS.F ht⟩) hS.2.2 dL_set_25
    · refine lv_lconst (v := 1) hx hb dL_set_11 rfl ?_
      refine lv_goto (tgt := 16) hx hb dL_set_12 (by decide) ?_
      refine va_last hx hb hK hP hD hS 0 1 rfl rfl (by unfold vp_in; decide) dL_set_16 (fun H locs hP hD hS => ?_)
      have hv9 : vp_updL f (Int32.toNatClampNeg 0) 1 0 = ct_l (bv (Int32.toNatClampNeg x) == t9) := (lo_at f _).trans (by rw [ct_b_t (fun z => c8 (hr9.trans z))]; rfl)
      have hP : va_P D vwCl (oW h0 cI cL n5 ad5 ar5 iv5 qo (vp_updL f (Int32.toNatClampNeg 0) 1)) H := hP
      have hD : va_D A (oW h0 cI cL n5 ad5 ar5 iv5 qo (vp_updL f (Int32.toNatClampNeg 0) 1)) := hD
      refine lv_goto (tgt := 24) hx hb dL_set_17 (by decide) ?_
      refine lv_iconst (v := 0) hx hb dL_set_24 (by decide) ?_
      refine W.widen (k := 2) (n := 12) (by omega) (by omega) ?_
      exact W.iret (v := 0) hx hb hr (fun t ht hW => ⟨⟨0, ((n5, ad5, ar5, iv5), vp_updL f (Int32.toNatClampNeg 0) 1), rfl, Or.inl ⟨(gb_inp hok).mp e5.1, rfl, hv9, hs9⟩, by rw [ht]; exact hP, va_K.moved hW.alike hK, hD⟩, hS.F ht⟩) hS.2.2 dL_set_25
set_option maxHeartbeats 4000000 in
set_option maxRecDepth 100000 in
/-- the law's value -/
theorem w_value (l : Launch) (hl9 : l.stackTraces = false) (D : va_G) (h0 : Nat) (cI cL : ClassId) (n : Nat) (ad : Nat → Nat) (ar : Nat → Nat → Int32) (iv : Nat → Int32) (qo : Nat) (f : Nat → Int64) (sz : Nat) (x : Int32) (nc ic : Nat) (g : Ct) (bv : Nat → Bool) (hok : gb_ok n nc ic g bv ar iv) (hmx : nc + 6 ≤ 20000)  : Met l yL_value wsL_value ({ frames := 8, cells := 1, slots := 6, locals := 132 }) (tP D (oW h0 cI cL n ad ar iv qo f) [(cI, .int), (cL, .long)] sz [.ref h0, .int x, .ref qo]) (va_Qi (fun (r : Int32) (u : OU) => wb_ans (ct_lit nc x) (ct_l (ct_vl g bv ((Int32.toNatClampNeg x) / 2) ^^ decide ((Int32.toNatClampNeg x) % 2 = 1))) (fun v => v.1 = n ∧ gb_ok n nc ic g bv v.2.2.1 v.2.2.2) (n, ad, ar, iv) r u) (ob_at D cI cL (va_A (oW h0 cI cL n ad ar iv qo f) sz) h0 qo) (va_A (oW h0 cI cL n ad ar iv qo f) sz)) (1) (6) (va_A (oW h0 cI cL n ad ar iv qo f) sz) := by
  refine va_MetW (cc := cL_value) (maxL := 4) (ret := (some .int)) (hh := [(0, 16, 19, 19)]) (by decide) rfl ?_
  intro p e s m args below meth c s₁ B hml hv
  obtain ⟨rfl, hsz, hP, hK, hD0, hT⟩ := hv
  have hx := B.exec
  have hb := B.bytes
  have hr := B.returns
  have hts := atoms_spec (ws := wsL_value) B.pre
  have hown : s.vm.findClass RL = some m.cls := findClass_of_methodNamed B.named
  have hlocks := B.notSynchronized
  have htab : c.exceptionTable.toList = [⟨0, 16, 19, 19⟩] := vx_table (x := yL_value) B (hts _ (show Cond.codeWith yL_value cL_value 4 (some .int) [(0, 16, 19, 19)] ∈ wsL_value from List.mem_cons_self))
  have hl := lv_entry ([.ref h0, .int x, .ref qo]) (n := 4) (Nat.le_of_ble_eq_true rfl)
  rw [lg_entry_eq]
  generalize (lg_sl ([.ref h0, .int x, .ref qo]) ++ List.replicate (4 - (lg_sl ([.ref h0, .int x, .ref qo])).length) Slot.unset).toArray = ls at hl ⊢
  have hl : lv_has ls 4 [(0, .ref h0), (1, .int x), (2, .ref qo)] := hl
  subst hsz
  have hD := hD0.self (sz := s.heap.size)
  generalize hAe : va_A (oW h0 cI cL n ad ar iv qo f) s.heap.size = A at hD hT ⊢
  have hA : ∀ q : Nat, s.heap.size ≤ q → A q := fun q h => by rw [← hAe]; exact Or.inr h
  have hS : va_S A s.heap s.heap [] := va_S.rf
  refine lv_aload_n hx hb dL_value_0 rfl (lv_at hl 2 rfl) ?_
  refine lv_iconst (v := 0) hx hb dL_value_1 (by decide) ?_
  refine lv_aload_n hx hb dL_value_2 rfl (lv_at hl 0 rfl) ?_
  refine lv_iload_n hx hb dL_value_3 rfl (lv_at hl 1 rfl) ?_
  have hPc := hP.sub (ws' := (gW h0 cI n ad ar iv)) [1, 2, 3, 4, 5, 6, 7, 8, 9] rfl
  have hDc := hD.sub (ws' := (gW h0 cI n ad ar iv)) [1, 2, 3, 4, 5, 6, 7, 8, 9] (by decide) rfl
  have hKc := hK.sub (tys' := [(cI, .int)]) [0] rfl
  have hFc := va_free (wc := (gW h0 cI n ad ar iv)) hD hS hA [1, 2, 3, 4, 5, 6, 7, 8, 9] rfl
  refine vx_calli (vx_runV (As := [.int x]) (rest := [.int 0, .ref qo]) ⟨hx, hb, hml, hown, hts⟩ (c_value l hl9 D h0 cI n ad ar iv s.heap.size x nc ic g bv hok hmx) (cwV 1 hts gL_value_X0_value rfl rfl rfl (by decide +kernel) ⟨Nat.le_of_ble_eq_true rfl, Nat.le_of_ble_eq_true rfl⟩) (tP_V hKc hPc hDc (va_recv hKc hPc (ci := 0) (q0 := 0) rfl rfl) hT hS hFc) rfl rfl hl.1 rfl (lv_room (Nat.le_of_ble_eq_true rfl)) dL_value_4 ⟨by show _ + _ ≤ 1; omega, by show _ + _ ≤ 6; omega⟩) hS (fun q _ h => hFc q h) hFc (fun q _ h => hFc q h) (fun E ce q9 u t H1 locs ht hvm e4 hB hz1 hk1 hS hcell hcv hcl => ?_) (fun r4 u t H1 locs ht hvm e4 hB hz1 hk1 hS => ?_)
  · obtain ⟨nV, rfl⟩ := e4
    obtain ⟨rfl, hP1, hK1, hD1⟩ := hB
    rw [ht] at hP1
    obtain ⟨hP, hD⟩ := va_join (wr := [(qo, .inl (cL, 1, .inr (.inl f)))]) (w1 := (gW h0 cI n ad ar iv)) hP hD [1, 2, 3, 4, 5, 6, 7, 8, 9] [0] rfl rfl (by decide) (by decide) hk1 hFc hP1 hD1
    have hP : va_P D vwCl (oW h0 cI cL n ad ar iv qo f) H1 := hP
    have hD : va_D A (oW h0 cI cL n ad ar iv qo f) := hD
    refine vx_catch hown [] ⟨0, 16, 19, 19⟩ [] htab (fun z h => nomatch h) rfl (by decide) (hts _ (mG wm_198)) (va_Nw.use rfl hT.2.2.1.1) hcell hcv hcl ?_
    refine lv_astore_n (lv' := [(3, .ref q9), (0, .ref h0), (1, .int x), (2, .ref qo)]) hx hb dL_value_19 rfl hl (by decide) rfl (fun ls hl => ?_)
    refine lv_iconst (v := 1) hx hb dL_value_20 (by decide) ?_
    refine W.widen (k := 1) (n := 6) (by omega) (by omega) ?_
    exact W.iret (v := 1) hx hb hr (fun t ht hW => ⟨⟨1, ((n, ad, ar, iv), f), rfl, Or.inr ⟨nV, rfl, rfl⟩, by rw [ht]; exact hP, va_K.moved hW.alike hK, hD⟩, hS.F ht⟩) hS.2.2 dL_value_21
  · obtain ⟨n4, ad4, ar4, iv4⟩ := u
    obtain ⟨hP1, hK1, hD1⟩ := hB
    rw [ht] at hP1
    obtain ⟨hP, hD⟩ := va_join (wr := [(qo, .inl (cL, 1, .inr (.inl f)))]) (w1 := (gW h0 cI n4 ad4 ar4 iv4)) hP hD [1, 2, 3, 4, 5, 6, 7, 8, 9] [0] rfl rfl (by decide) (by decide) hk1 hFc hP1 hD1
    generalize H1 = H at hP hS ⊢
    have hP : va_P D vwCl (oW h0 cI cL n4 ad4 ar4 iv4 qo f) H := hP
    have hD : va_D A (oW h0 cI cL n4 ad4 ar4 iv4 qo f) := hD
    try dsimp only at e4
    have hr9 : r4 = ct_b (ct_vl g bv ((Int32.toNatClampNeg x) / 2) ^^ decide ((Int32.toNatClampNeg x) % 2 = 1)) := e4.2.1
    have hs9 : (fun v => v.1 = n ∧ gb_ok n nc ic g bv v.2.2.1 v.2.2.2) (n4, ad4, ar4, iv4) := e4.2.2
    refine lv_if_eq (tgt := 14) hx hb dL_value_7 (by decide) (fun c7 => ?_) (fun c7 => ?_)
    · refine lv_lconst (v := 0) hx hb dL_value_14 rfl ?_
      refine va_last hx hb hK hP hD hS 0 1 rfl rfl (by unfold vp_in; decide) dL_value_15 (fun H locs hP hD hS => ?_)
      have hv9 : vp_updL f (Int32.toNatClampNeg 0) 0 0 = ct_l (ct_vl g bv ((Int32.toNatClampNeg x) / 2) ^^ decide ((Int32.toNatClampNeg x) % 2 = 1)) := (lo_at f _).trans (by rw [ct_b_f (hr9.symm.trans c7)]; rfl)
      have hP : va_P D vwCl (oW h0 cI cL n4 ad4 ar4 iv4 qo (vp_updL f (Int32.toNatClampNeg 0) 0)) H := hP
      have hD : va_D A (oW h0 cI cL n4 ad4 ar4 iv4 qo (vp_updL f (Int32.toNatClampNeg 0) 0)) := hD
      refine lv_goto (tgt := 22) hx hb dL_value_16 (by decide) ?_
      refine lv_iconst (v := 0) hx hb dL_value_22 (by decide) ?_
      refine W.widen (k := 1) (n := 6) (by omega) (by omega) ?_
      exact W.iret (v := 0) hx hb hr (fun t ht hW => ⟨⟨0, ((n4, ad4, ar4, iv4), vp_updL f (Int32.toNatClampNeg 0) 0), rfl, Or.inl ⟨e4.1, rfl, hv9, hs9⟩, by rw [ht]; exact hP, va_K.moved hW.alike hK, hD⟩, hS.F ht⟩) hS.2.2 dL_value_23
    · refine lv_lconst (v := 1) hx hb dL_value_10 rfl ?_
      refine lv_goto (tgt := 15) hx hb dL_value_11 (by decide) ?_
      refine va_last hx hb hK hP hD hS 0 1 rfl rfl (by unfold vp_in; decide) dL_value_15 (fun H locs hP hD hS => ?_)
      have hv9 : vp_updL f (Int32.toNatClampNeg 0) 1 0 = ct_l (ct_vl g bv ((Int32.toNatClampNeg x) / 2) ^^ decide ((Int32.toNatClampNeg x) % 2 = 1)) := (lo_at f _).trans (by rw [ct_b_t (fun z => c7 (hr9.trans z))]; rfl)
      have hP : va_P D vwCl (oW h0 cI cL n4 ad4 ar4 iv4 qo (vp_updL f (Int32.toNatClampNeg 0) 1)) H := hP
      have hD : va_D A (oW h0 cI cL n4 ad4 ar4 iv4 qo (vp_updL f (Int32.toNatClampNeg 0) 1)) := hD
      refine lv_goto (tgt := 22) hx hb dL_value_16 (by decide) ?_
      refine lv_iconst (v := 0) hx hb dL_value_22 (by decide) ?_
      refine W.widen (k := 1) (n := 6) (by omega) (by omega) ?_
      exact W.iret (v := 0) hx hb hr (fun t ht hW => ⟨⟨0, ((n4, ad4, ar4, iv4), vp_updL f (Int32.toNatClampNeg 0) 1), rfl, Or.inl ⟨e4.1, rfl, hv9, hs9⟩, by rw [ht]; exact hP, va_K.moved hW.alike hK, hD⟩, hS.F ht⟩) hS.2.2 dL_value_23
set_option maxHeartbeats 4000000 in
set_option maxRecDepth 100000 in
/-- the law's node -/
theorem w_node (l : Launch) (hl9 : l.stackTraces = false) (D : va_G) (h0 : Nat) (cI cL : ClassId) (n : Nat) (ad : Nat → Nat) (ar : Nat → Nat → Int32) (iv : Nat → Int32) (qo : Nat) (f : Nat → Int64) (sz : Nat) (x : Int32) (y : Int32) (nc ic : Nat) (g : Ct) (bv : Nat → Bool) (hok : gb_ok n nc ic g bv ar iv) (hmx : nc + 6 ≤ 20000)  : Met l yL_node wsL_node ({ frames := 8, cells := 2, slots := 12, locals := 133 }) (tP D (oW h0 cI cL n ad ar iv qo f) [(cI, .int), (cL, .long)] sz [.ref h0, .int x, .int y, .ref qo]) (va_Qi (fun (r : Int32) (u : OU) => wb_ans (ct_nod nc x ∧ (y = 0 ∨ y = 1 ∨ y = 2 ∨ y = 3)) ((ct_nd nc g (Int32.toNatClampNeg x) y).toInt64) (fun v => v.1 = n ∧ gb_ok n nc ic g bv v.2.2.1 v.2.2.2) (n, ad, ar, iv) r u) (ob_at D cI cL (va_A (oW h0 cI cL n ad ar iv qo f) sz) h0 qo) (va_A (oW h0 cI cL n ad ar iv qo f) sz)) (2) (12) (va_A (oW h0 cI cL n ad ar iv qo f) sz) := by
  refine va_MetW (cc := cL_node) (maxL := 5) (ret := (some .int)) (hh := [(0, 10, 13, 19)]) (by decide) rfl ?_
  intro p e s m args below meth c s₁ B hml hv
  obtain ⟨rfl, hsz, hP, hK, hD0, hT⟩ := hv
  have hx := B.exec
  have hb := B.bytes
  have hr := B.returns
  have hts := atoms_spec (ws := wsL_node) B.pre
  have hown : s.vm.findClass RL = some m.cls := findClass_of_methodNamed B.named
  have hlocks := B.notSynchronized
  have htab : c.exceptionTable.toList = [⟨0, 10, 13, 19⟩] := vx_table (x := yL_node) B (hts _ (show Cond.codeWith yL_node cL_node 5 (some .int) [(0, 10, 13, 19)] ∈ wsL_node from List.mem_cons_self))
  have hl := lv_entry ([.ref h0, .int x, .int y, .ref qo]) (n := 5) (Nat.le_of_ble_eq_true rfl)
  rw [lg_entry_eq]
  generalize (lg_sl ([.ref h0, .int x, .int y, .ref qo]) ++ List.replicate (5 - (lg_sl ([.ref h0, .int x, .int y, .ref qo])).length) Slot.unset).toArray = ls at hl ⊢
  have hl : lv_has ls 5 [(0, .ref h0), (1, .int x), (2, .int y), (3, .ref qo)] := hl
  subst hsz
  have hD := hD0.self (sz := s.heap.size)
  generalize hAe : va_A (oW h0 cI cL n ad ar iv qo f) s.heap.size = A at hD hT ⊢
  have hA : ∀ q : Nat, s.heap.size ≤ q → A q := fun q h => by rw [← hAe]; exact Or.inr h
  have hS : va_S A s.heap s.heap [] := va_S.rf
  refine lv_aload_n hx hb dL_node_0 rfl (lv_at hl 3 rfl) ?_
  refine lv_iconst (v := 0) hx hb dL_node_1 (by decide) ?_
  refine lv_aload_n hx hb dL_node_2 rfl (lv_at hl 0 rfl) ?_
  refine lv_iload_n hx hb dL_node_3 rfl (lv_at hl 1 rfl) ?_
  refine lv_iload_n hx hb dL_node_4 rfl (lv_at hl 2 rfl) ?_
  have hPc := hP.sub (ws' := (gW h0 cI n ad ar iv)) [1, 2, 3, 4, 5, 6, 7, 8, 9] rfl
  have hDc := hD.sub (ws' := (gW h0 cI n ad ar iv)) [1, 2, 3, 4, 5, 6, 7, 8, 9] (by decide) rfl
  have hKc := hK.sub (tys' := [(cI, .int)]) [0] rfl
  have hFc := va_free (wc := (gW h0 cI n ad ar iv)) hD hS hA [1, 2, 3, 4, 5, 6, 7, 8, 9] rfl
  refine vx_calli (vx_runV (As := [.int x, .int y]) (rest := [.int 0, .ref qo]) ⟨hx, hb, hml, hown, hts⟩ (c_node l hl9 D h0 cI n ad ar iv s.heap.size x y nc ic g bv hok hmx) (cwV 2 hts gL_node_X0_node rfl rfl rfl (by decide +kernel) ⟨Nat.le_of_ble_eq_true rfl, Nat.le_of_ble_eq_true rfl⟩) (tP_V hKc hPc hDc (va_recv hKc hPc (ci := 0) (q0 := 0) rfl rfl) hT hS hFc) rfl rfl hl.1 rfl (lv_room (Nat.le_of_ble_eq_true rfl)) dL_node_5 ⟨by show _ + _ ≤ 2; omega, by show _ + _ ≤ 12; omega⟩) hS (fun q _ h => hFc q h) hFc (fun q _ h => hFc q h) (fun E ce q9 u t H1 locs ht hvm e5 hB hz1 hk1 hS hcell hcv hcl => ?_) (fun r5 u t H1 locs ht hvm e5 hB hz1 hk1 hS => ?_)
  · obtain ⟨nV, rfl⟩ := e5
    obtain ⟨rfl, hP1, hK1, hD1⟩ := hB
    rw [ht] at hP1
    obtain ⟨hP, hD⟩ := va_join (wr := [(qo, .inl (cL, 1, .inr (.inl f)))]) (w1 := (gW h0 cI n ad ar iv)) hP hD [1, 2, 3, 4, 5, 6, 7, 8, 9] [0] rfl rfl (by decide) (by decide) hk1 hFc hP1 hD1
    have hP : va_P D vwCl (oW h0 cI cL n ad ar iv qo f) H1 := hP
    have hD : va_D A (oW h0 cI cL n ad ar iv qo f) := hD
    refine vx_catch hown [] ⟨0, 10, 13, 19⟩ [] htab (fun z h => nomatch h) rfl (by decide) (hts _ (mG wm_198)) (va_Nw.use rfl hT.2.2.1.1) hcell hcv hcl ?_
    refine lv_astore (lv' := [(4, .ref q9), (0, .ref h0), (1, .int x), (2, .int y), (3, .ref qo)]) hx hb dL_node_13 hl (by decide) rfl (fun ls hl => ?_)
    refine lv_iconst (v := 1) hx hb dL_node_15 (by decide) ?_
    refine W.widen (k := 2) (n := 12) (by omega) (by omega) ?_
    exact W.iret (v := 1) hx hb hr (fun t ht hW => ⟨⟨1, ((n, ad, ar, iv), f), rfl, Or.inr ⟨nV, rfl, rfl⟩, by rw [ht]; exact hP, va_K.moved hW.alike hK, hD⟩, hS.F ht⟩) hS.2.2 dL_node_16
  · obtain ⟨n5, ad5, ar5, iv5⟩ := u
    obtain ⟨hP1, hK1, hD1⟩ := hB
    rw [ht] at hP1
    obtain ⟨hP, hD⟩ := va_join (wr := [(qo, .inl (cL, 1, .inr (.inl f)))]) (w1 := (gW h0 cI n5 ad5 ar5 iv5)) hP hD [1, 2, 3, 4, 5, 6, 7, 8, 9] [0] rfl rfl (by decide) (by decide) hk1 hFc hP1 hD1
    generalize H1 = H at hP hS ⊢
    have hP : va_P D vwCl (oW h0 cI cL n5 ad5 ar5 iv5 qo f) H := hP
    have hD : va_D A (oW h0 cI cL n5 ad5 ar5 iv5 qo f) := hD
    try dsimp only at e5
    have hr9 : r5 = ct_nd nc g (Int32.toNatClampNeg x) y := e5.2.1
    have hs9 : (fun v => v.1 = n ∧ gb_ok n nc ic g bv v.2.2.1 v.2.2.2) (n5, ad5, ar5, iv5) := gb_sm hok e5.2.2
    refine lv_i2l (v := (r5 : Int32).toInt64) hx hb dL_node_8 rfl ?_
    refine va_last hx hb hK hP hD hS 0 1 rfl rfl (by unfold vp_in; decide) dL_node_9 (fun H locs hP hD hS => ?_)
    have hv9 : vp_updL f (Int32.toNatClampNeg 0) ((r5 : Int32).toInt64) 0 = (ct_nd nc g (Int32.toNatClampNeg x) y).toInt64 := (lo_at f _).trans (congrArg Int32.toInt64 hr9)
    have hP : va_P D vwCl (oW h0 cI cL n5 ad5 ar5 iv5 qo (vp_updL f (Int32.toNatClampNeg 0) ((r5 : Int32).toInt64))) H := hP
    have hD : va_D A (oW h0 cI cL n5 ad5 ar5 iv5 qo (vp_updL f (Int32.toNatClampNeg 0) ((r5 : Int32).toInt64))) := hD
    refine lv_goto (tgt := 17) hx hb dL_node_10 (by decide) ?_
    refine lv_iconst (v := 0) hx hb dL_node_17 (by decide) ?_
    refine W.widen (k := 2) (n := 12) (by omega) (by omega) ?_
    exact W.iret (v := 0) hx hb hr (fun t ht hW => ⟨⟨0, ((n5, ad5, ar5, iv5), vp_updL f (Int32.toNatClampNeg 0) ((r5 : Int32).toInt64)), rfl, Or.inl ⟨e5.1, rfl, hv9, hs9⟩, by rw [ht]; exact hP, va_K.moved hW.alike hK, hD⟩, hS.F ht⟩) hS.2.2 dL_node_18
set_option maxHeartbeats 4000000 in
set_option maxRecDepth 100000 in
/-- the law's cone -/
theorem w_cone (l : Launch) (hl9 : l.stackTraces = false) (D : va_G) (h0 : Nat) (cI cL : ClassId) (n : Nat) (ad : Nat → Nat) (ar : Nat → Nat → Int32) (iv : Nat → Int32) (qo : Nat) (f : Nat → Int64) (sz : Nat) (x : Int32) (nc ic : Nat) (g : Ct) (bv : Nat → Bool) (hok : gb_ok n nc ic g bv ar iv) (hmx : nc + 6 ≤ 20000)  : Met l yL_cone wsL_cone ({ frames := 8, cells := 1, slots := 6, locals := 135 }) (tP D (oW h0 cI cL n ad ar iv qo f) [(cI, .int), (cL, .long)] sz [.ref h0, .int x, .ref qo]) (va_Qi (fun (r : Int32) (u : OU) => wb_ans (ct_lit nc x) ((nI (ct_cn g ((Int32.toNatClampNeg x) / 2) ((Int32.toNatClampNeg x) / 2 + 1))).toInt64) (fun v => v.1 = n ∧ gb_ok n nc ic g bv v.2.2.1 v.2.2.2) (n, ad, ar, iv) r u) (ob_at D cI cL (va_A (oW h0 cI cL n ad ar iv qo f) sz) h0 qo) (va_A (oW h0 cI cL n ad ar iv qo f) sz)) (1) (6) (va_A (oW h0 cI cL n ad ar iv qo f) sz) := by
  refine va_MetW (cc := cL_cone) (maxL := 4) (ret := (some .int)) (hh := [(0, 9, 12, 19)]) (by decide) rfl ?_
  intro p e s m args below meth c s₁ B hml hv
  obtain ⟨rfl, hsz, hP, hK, hD0, hT⟩ := hv
  have hx := B.exec
  have hb := B.bytes
  have hr := B.returns
  have hts := atoms_spec (ws := wsL_cone) B.pre
  have hown : s.vm.findClass RL = some m.cls := findClass_of_methodNamed B.named
  have hlocks := B.notSynchronized
  have htab : c.exceptionTable.toList = [⟨0, 9, 12, 19⟩] := vx_table (x := yL_cone) B (hts _ (show Cond.codeWith yL_cone cL_cone 4 (some .int) [(0, 9, 12, 19)] ∈ wsL_cone from List.mem_cons_self))
  have hl := lv_entry ([.ref h0, .int x, .ref qo]) (n := 4) (Nat.le_of_ble_eq_true rfl)
  rw [lg_entry_eq]
  generalize (lg_sl ([.ref h0, .int x, .ref qo]) ++ List.replicate (4 - (lg_sl ([.ref h0, .int x, .ref qo])).length) Slot.unset).toArray = ls at hl ⊢
  have hl : lv_has ls 4 [(0, .ref h0), (1, .int x), (2, .ref qo)] := hl
  subst hsz
  have hD := hD0.self (sz := s.heap.size)
  generalize hAe : va_A (oW h0 cI cL n ad ar iv qo f) s.heap.size = A at hD hT ⊢
  have hA : ∀ q : Nat, s.heap.size ≤ q → A q := fun q h => by rw [← hAe]; exact Or.inr h
  have hS : va_S A s.heap s.heap [] := va_S.rf
  refine lv_aload_n hx hb dL_cone_0 rfl (lv_at hl 2 rfl) ?_
  refine lv_iconst (v := 0) hx hb dL_cone_1 (by decide) ?_
  refine lv_aload_n hx hb dL_cone_2 rfl (lv_at hl 0 rfl) ?_
  refine lv_iload_n hx hb dL_cone_3 rfl (lv_at hl 1 rfl) ?_
  have hPc := hP.sub (ws' := (gW h0 cI n ad ar iv)) [1, 2, 3, 4, 5, 6, 7, 8, 9] rfl
  have hDc := hD.sub (ws' := (gW h0 cI n ad ar iv)) [1, 2, 3, 4, 5, 6, 7, 8, 9] (by decide) rfl
  have hKc := hK.sub (tys' := [(cI, .int)]) [0] rfl
  have hFc := va_free (wc := (gW h0 cI n ad ar iv)) hD hS hA [1, 2, 3, 4, 5, 6, 7, 8, 9] rfl
  refine vx_calli (vx_runV (As := [.int x]) (rest := [.int 0, .ref qo]) ⟨hx, hb, hml, hown, hts⟩ (c_cone l hl9 D h0 cI n ad ar iv s.heap.size x nc ic g bv hok hmx) (cwV 1 hts gL_cone_X0_cone rfl rfl rfl (by decide +kernel) ⟨Nat.le_of_ble_eq_true rfl, Nat.le_of_ble_eq_true rfl⟩) (tP_V hKc hPc hDc (va_recv hKc hPc (ci := 0) (q0 := 0) rfl rfl) hT hS hFc) rfl rfl hl.1 rfl (lv_room (Nat.le_of_ble_eq_true rfl)) dL_cone_4 ⟨by show _ + _ ≤ 1; omega, by show _ + _ ≤ 6; omega⟩) hS (fun q _ h => hFc q h) hFc (fun q _ h => hFc q h) (fun E ce q9 u t H1 locs ht hvm e4 hB hz1 hk1 hS hcell hcv hcl => ?_) (fun r4 u t H1 locs ht hvm e4 hB hz1 hk1 hS => ?_)
  · obtain ⟨nV, rfl⟩ := e4
    obtain ⟨rfl, hP1, hK1, hD1⟩ := hB
    rw [ht] at hP1
    obtain ⟨hP, hD⟩ := va_join (wr := [(qo, .inl (cL, 1, .inr (.inl f)))]) (w1 := (gW h0 cI n ad ar iv)) hP hD [1, 2, 3, 4, 5, 6, 7, 8, 9] [0] rfl rfl (by decide) (by decide) hk1 hFc hP1 hD1
    have hP : va_P D vwCl (oW h0 cI cL n ad ar iv qo f) H1 := hP
    have hD : va_D A (oW h0 cI cL n ad ar iv qo f) := hD
    refine vx_catch hown [] ⟨0, 9, 12, 19⟩ [] htab (fun z h => nomatch h) rfl (by decide) (hts _ (mG wm_198)) (va_Nw.use rfl hT.2.2.1.1) hcell hcv hcl ?_
    refine lv_astore_n (lv' := [(3, .ref q9), (0, .ref h0), (1, .int x), (2, .ref qo)]) hx hb dL_cone_12 rfl hl (by decide) rfl (fun ls hl => ?_)
    refine lv_iconst (v := 1) hx hb dL_cone_13 (by decide) ?_
    refine W.widen (k := 1) (n := 6) (by omega) (by omega) ?_
    exact W.iret (v := 1) hx hb hr (fun t ht hW => ⟨⟨1, ((n, ad, ar, iv), f), rfl, Or.inr ⟨nV, rfl, rfl⟩, by rw [ht]; exact hP, va_K.moved hW.alike hK, hD⟩, hS.F ht⟩) hS.2.2 dL_cone_14
  · obtain ⟨n4, ad4, ar4, iv4⟩ := u
    obtain ⟨hP1, hK1, hD1⟩ := hB
    rw [ht] at hP1
    obtain ⟨hP, hD⟩ := va_join (wr := [(qo, .inl (cL, 1, .inr (.inl f)))]) (w1 := (gW h0 cI n4 ad4 ar4 iv4)) hP hD [1, 2, 3, 4, 5, 6, 7, 8, 9] [0] rfl rfl (by decide) (by decide) hk1 hFc hP1 hD1
    generalize H1 = H at hP hS ⊢
    have hP : va_P D vwCl (oW h0 cI cL n4 ad4 ar4 iv4 qo f) H := hP
    have hD : va_D A (oW h0 cI cL n4 ad4 ar4 iv4 qo f) := hD
    try dsimp only at e4
    have hr9 : r4 = nI (ct_cn g ((Int32.toNatClampNeg x) / 2) ((Int32.toNatClampNeg x) / 2 + 1)) := e4.2.1
    have hs9 : (fun v => v.1 = n ∧ gb_ok n nc ic g bv v.2.2.1 v.2.2.2) (n4, ad4, ar4, iv4) := e4.2.2
    refine lv_i2l (v := (r4 : Int32).toInt64) hx hb dL_cone_7 rfl ?_
    refine va_last hx hb hK hP hD hS 0 1 rfl rfl (by unfold vp_in; decide) dL_cone_8 (fun H locs hP hD hS => ?_)
    have hv9 : vp_updL f (Int32.toNatClampNeg 0) ((r4 : Int32).toInt64) 0 = (nI (ct_cn g ((Int32.toNatClampNeg x) / 2) ((Int32.toNatClampNeg x) / 2 + 1))).toInt64 := (lo_at f _).trans (congrArg Int32.toInt64 hr9)
    have hP : va_P D vwCl (oW h0 cI cL n4 ad4 ar4 iv4 qo (vp_updL f (Int32.toNatClampNeg 0) ((r4 : Int32).toInt64))) H := hP
    have hD : va_D A (oW h0 cI cL n4 ad4 ar4 iv4 qo (vp_updL f (Int32.toNatClampNeg 0) ((r4 : Int32).toInt64))) := hD
    refine lv_goto (tgt := 15) hx hb dL_cone_9 (by decide) ?_
    refine lv_iconst (v := 0) hx hb dL_cone_15 (by decide) ?_
    refine W.widen (k := 1) (n := 6) (by omega) (by omega) ?_
    exact W.iret (v := 0) hx hb hr (fun t ht hW => ⟨⟨0, ((n4, ad4, ar4, iv4), vp_updL f (Int32.toNatClampNeg 0) ((r4 : Int32).toInt64)), rfl, Or.inl ⟨e4.1, rfl, hv9, hs9⟩, by rw [ht]; exact hP, va_K.moved hW.alike hK, hD⟩, hS.F ht⟩) hS.2.2 dL_cone_16
set_option maxHeartbeats 4000000 in
set_option maxRecDepth 100000 in
/-- the law's below -/
theorem w_below (l : Launch) (hl9 : l.stackTraces = false) (D : va_G) (h0 : Nat) (cI cL : ClassId) (n : Nat) (ad : Nat → Nat) (ar : Nat → Nat → Int32) (iv : Nat → Int32) (qo : Nat) (f : Nat → Int64) (sz : Nat) (x : Int32) (y : Int32) (nc ic : Nat) (g : Ct) (bv : Nat → Bool) (hok : gb_ok n nc ic g bv ar iv) (hmx : nc + 6 ≤ 20000)  : Met l yL_below wsL_below ({ frames := 9, cells := 3, slots := 18, locals := 155 }) (tP D (oW h0 cI cL n ad ar iv qo f) [(cI, .int), (cL, .long)] sz [.ref h0, .int x, .int y, .ref qo]) (va_Qi (fun (r : Int32) (u : OU) => wb_ans ((ct_nod nc x ∧ ct_kd g (Int32.toNatClampNeg x) = 1) ∧ ct_lit nc y) (ct_l (ct_in g ((Int32.toNatClampNeg y) / 2) (Int32.toNatClampNeg x))) (fun v => v.1 = n ∧ gb_ok n nc ic g bv v.2.2.1 v.2.2.2) (n, ad, ar, iv) r u) (ob_at D cI cL (va_A (oW h0 cI cL n ad ar iv qo f) sz) h0 qo) (va_A (oW h0 cI cL n ad ar iv qo f) sz)) (3) (18) (va_A (oW h0 cI cL n ad ar iv qo f) sz) := by
  refine va_MetW (cc := cL_below) (maxL := 5) (ret := (some .int)) (hh := [(0, 17, 20, 19)]) (by decide) rfl ?_
  intro p e s m args below meth c s₁ B hml hv
  obtain ⟨rfl, hsz, hP, hK, hD0, hT⟩ := hv
  have hx := B.exec
  have hb := B.bytes
  have hr := B.returns
  have hts := atoms_spec (ws := wsL_below) B.pre
  have hown : s.vm.findClass RL = some m.cls := findClass_of_methodNamed B.named
  have hlocks := B.notSynchronized
  have htab : c.exceptionTable.toList = [⟨0, 17, 20, 19⟩] := vx_table (x := yL_below) B (hts _ (show Cond.codeWith yL_below cL_below 5 (some .int) [(0, 17, 20, 19)] ∈ wsL_below from List.mem_cons_self))
  have hl := lv_entry ([.ref h0, .int x, .int y, .ref qo]) (n := 5) (Nat.le_of_ble_eq_true rfl)
  rw [lg_entry_eq]
  generalize (lg_sl ([.ref h0, .int x, .int y, .ref qo]) ++ List.replicate (5 - (lg_sl ([.ref h0, .int x, .int y, .ref qo])).length) Slot.unset).toArray = ls at hl ⊢
  have hl : lv_has ls 5 [(0, .ref h0), (1, .int x), (2, .int y), (3, .ref qo)] := hl
  subst hsz
  have hD := hD0.self (sz := s.heap.size)
  generalize hAe : va_A (oW h0 cI cL n ad ar iv qo f) s.heap.size = A at hD hT ⊢
  have hA : ∀ q : Nat, s.heap.size ≤ q → A q := fun q h => by rw [← hAe]; exact Or.inr h
  have hS : va_S A s.heap s.heap [] := va_S.rf
  refine lv_aload_n hx hb dL_below_0 rfl (lv_at hl 3 rfl) ?_
  refine lv_iconst (v := 0) hx hb dL_below_1 (by decide) ?_
  refine lv_aload_n hx hb dL_below_2 rfl (lv_at hl 0 rfl) ?_
  refine lv_iload_n hx hb dL_below_3 rfl (lv_at hl 1 rfl) ?_
  refine lv_iload_n hx hb dL_below_4 rfl (lv_at hl 2 rfl) ?_
  have hPc := hP.sub (ws' := (gW h0 cI n ad ar iv)) [1, 2, 3, 4, 5, 6, 7, 8, 9] rfl
  have hDc := hD.sub (ws' := (gW h0 cI n ad ar iv)) [1, 2, 3, 4, 5, 6, 7, 8, 9] (by decide) rfl
  have hKc := hK.sub (tys' := [(cI, .int)]) [0] rfl
  have hFc := va_free (wc := (gW h0 cI n ad ar iv)) hD hS hA [1, 2, 3, 4, 5, 6, 7, 8, 9] rfl
  refine vx_calli (vx_runV (As := [.int x, .int y]) (rest := [.int 0, .ref qo]) ⟨hx, hb, hml, hown, hts⟩ (c_below l hl9 D h0 cI n ad ar iv s.heap.size x y nc ic g bv hok hmx) (cwV 2 hts gL_below_X0_below rfl rfl rfl (by decide +kernel) ⟨Nat.le_of_ble_eq_true rfl, Nat.le_of_ble_eq_true rfl⟩) (tP_V hKc hPc hDc (va_recv hKc hPc (ci := 0) (q0 := 0) rfl rfl) hT hS hFc) rfl rfl hl.1 rfl (lv_room (Nat.le_of_ble_eq_true rfl)) dL_below_5 ⟨by show _ + _ ≤ 3; omega, by show _ + _ ≤ 18; omega⟩) hS (fun q _ h => hFc q h) hFc (fun q _ h => hFc q h) (fun E ce q9 u t H1 locs ht hvm e5 hB hz1 hk1 hS hcell hcv hcl => ?_) (fun r5 u t H1 locs ht hvm e5 hB hz1 hk1 hS => ?_)
  · obtain ⟨nV, rfl⟩ := e5
    obtain ⟨rfl, hP1, hK1, hD1⟩ := hB
    rw [ht] at hP1
    obtain ⟨hP, hD⟩ := va_join (wr := [(qo, .inl (cL, 1, .inr (.inl f)))]) (w1 := (gW h0 cI n ad ar iv)) hP hD [1, 2, 3, 4, 5, 6, 7, 8, 9] [0] rfl rfl (by decide) (by decide) hk1 hFc hP1 hD1
    have hP : va_P D vwCl (oW h0 cI cL n ad ar iv qo f) H1 := hP
    have hD : va_D A (oW h0 cI cL n ad ar iv qo f) := hD
    refine vx_catch hown [] ⟨0, 17, 20, 19⟩ [] htab (fun z h => nomatch h) rfl (by decide) (hts _ (mG wm_198)) (va_Nw.use rfl hT.2.2.1.1) hcell hcv hcl ?_
    refine lv_astore (lv' := [(4, .ref q9), (0, .ref h0), (1, .int x), (2, .int y), (3, .ref qo)]) hx hb dL_below_20 hl (by decide) rfl (fun ls hl => ?_)
    refine lv_iconst (v := 1) hx hb dL_below_22 (by decide) ?_
    refine W.widen (k := 3) (n := 18) (by omega) (by omega) ?_
    exact W.iret (v := 1) hx hb hr (fun t ht hW => ⟨⟨1, ((n, ad, ar, iv), f), rfl, Or.inr ⟨fun z => nV ⟨(gb_inp hok).mpr z.1, z.2⟩, rfl, rfl⟩, by rw [ht]; exact hP, va_K.moved hW.alike hK, hD⟩, hS.F ht⟩) hS.2.2 dL_below_23
  · obtain ⟨n5, ad5, ar5, iv5⟩ := u
    obtain ⟨hP1, hK1, hD1⟩ := hB
    rw [ht] at hP1
    obtain ⟨hP, hD⟩ := va_join (wr := [(qo, .inl (cL, 1, .inr (.inl f)))]) (w1 := (gW h0 cI n5 ad5 ar5 iv5)) hP hD [1, 2, 3, 4, 5, 6, 7, 8, 9] [0] rfl rfl (by decide) (by decide) hk1 hFc hP1 hD1
    generalize H1 = H at hP hS ⊢
    have hP : va_P D vwCl (oW h0 cI cL n5 ad5 ar5 iv5 qo f) H := hP
    have hD : va_D A (oW h0 cI cL n5 ad5 ar5 iv5 qo f) := hD
    try dsimp only at e5
    have hr9 : r5 = ct_b (ct_in g ((Int32.toNatClampNeg y) / 2) (Int32.toNatClampNeg x)) := e5.2.1
    have hs9 : (fun v => v.1 = n ∧ gb_ok n nc ic g bv v.2.2.1 v.2.2.2) (n5, ad5, ar5, iv5) := e5.2.2
    refine lv_if_eq (tgt := 15) hx hb dL_below_8 (by decide) (fun c8 => ?_) (fun c8 => ?_)
    · refine lv_lconst (v := 0) hx hb dL_below_15 rfl ?_
      refine va_last hx hb hK hP hD hS 0 1 rfl rfl (by unfold vp_in; decide) dL_below_16 (fun H locs hP hD hS => ?_)
      have hv9 : vp_updL f (Int32.toNatClampNeg 0) 0 0 = ct_l (ct_in g ((Int32.toNatClampNeg y) / 2) (Int32.toNatClampNeg x)) := (lo_at f _).trans (by rw [ct_b_f (hr9.symm.trans c8)]; rfl)
      have hP : va_P D vwCl (oW h0 cI cL n5 ad5 ar5 iv5 qo (vp_updL f (Int32.toNatClampNeg 0) 0)) H := hP
      have hD : va_D A (oW h0 cI cL n5 ad5 ar5 iv5 qo (vp_updL f (Int32.toNatClampNeg 0) 0)) := hD
      refine lv_goto (tgt := 24) hx hb dL_below_17 (by decide) ?_
      refine lv_iconst (v := 0) hx hb dL_below_24 (by decide) ?_
      refine W.widen (k := 3) (n := 18) (by omega) (by omega) ?_
      exact W.iret (v := 0) hx hb hr (fun t ht hW => ⟨⟨0, ((n5, ad5, ar5, iv5), vp_updL f (Int32.toNatClampNeg 0) 0), rfl, Or.inl ⟨⟨(gb_inp hok).mp e5.1.1, e5.1.2⟩, rfl, hv9, hs9⟩, by rw [ht]; exact hP, va_K.moved hW.alike hK, hD⟩, hS.F ht⟩) hS.2.2 dL_below_25
    · refine lv_lconst (v := 1) hx hb dL_below_11 rfl ?_
      refine lv_goto (tgt := 16) hx hb dL_below_12 (by decide) ?_
      refine va_last hx hb hK hP hD hS 0 1 rfl rfl (by unfold vp_in; decide) dL_below_16 (fun H locs hP hD hS => ?_)
      have hv9 : vp_updL f (Int32.toNatClampNeg 0) 1 0 = ct_l (ct_in g ((Int32.toNatClampNeg y) / 2) (Int32.toNatClampNeg x)) := (lo_at f _).trans (by rw [ct_b_t (fun z => c8 (hr9.trans z))]; rfl)
      have hP : va_P D vwCl (oW h0 cI cL n5 ad5 ar5 iv5 qo (vp_updL f (Int32.toNatClampNeg 0) 1)) H := hP
      have hD : va_D A (oW h0 cI cL n5 ad5 ar5 iv5 qo (vp_updL f (Int32.toNatClampNeg 0) 1)) := hD
      refine lv_goto (tgt := 24) hx hb dL_below_17 (by decide) ?_
      refine lv_iconst (v := 0) hx hb dL_below_24 (by decide) ?_
      refine W.widen (k := 3) (n := 18) (by omega) (by omega) ?_
      exact W.iret (v := 0) hx hb hr (fun t ht hW => ⟨⟨0, ((n5, ad5, ar5, iv5), vp_updL f (Int32.toNatClampNeg 0) 1), rfl, Or.inl ⟨⟨(gb_inp hok).mp e5.1.1, e5.1.2⟩, rfl, hv9, hs9⟩, by rw [ht]; exact hP, va_K.moved hW.alike hK, hD⟩, hS.F ht⟩) hS.2.2 dL_below_25
set_option maxHeartbeats 4000000 in
set_option maxRecDepth 100000 in
/-- the law's depth -/
theorem w_depth (l : Launch) (hl9 : l.stackTraces = false) (D : va_G) (h0 : Nat) (cI cL : ClassId) (n : Nat) (ad : Nat → Nat) (ar : Nat → Nat → Int32) (iv : Nat → Int32) (qo : Nat) (f : Nat → Int64) (sz : Nat) (x : Int32) (nc ic : Nat) (g : Ct) (bv : Nat → Bool) (hok : gb_ok n nc ic g bv ar iv) (hmx : nc + 6 ≤ 20000)  : Met l yL_depth wsL_depth ({ frames := 8, cells := 1, slots := 6, locals := 132 }) (tP D (oW h0 cI cL n ad ar iv qo f) [(cI, .int), (cL, .long)] sz [.ref h0, .int x, .ref qo]) (va_Qi (fun (r : Int32) (u : OU) => wb_ans (ct_lit nc x) ((nI (ct_dp g ((Int32.toNatClampNeg x) / 2))).toInt64) (fun v => v.1 = n ∧ gb_ok n nc ic g bv v.2.2.1 v.2.2.2) (n, ad, ar, iv) r u) (ob_at D cI cL (va_A (oW h0 cI cL n ad ar iv qo f) sz) h0 qo) (va_A (oW h0 cI cL n ad ar iv qo f) sz)) (1) (6) (va_A (oW h0 cI cL n ad ar iv qo f) sz) := by
  refine va_MetW (cc := cL_depth) (maxL := 4) (ret := (some .int)) (hh := [(0, 9, 12, 19)]) (by decide) rfl ?_
  intro p e s m args below meth c s₁ B hml hv
  obtain ⟨rfl, hsz, hP, hK, hD0, hT⟩ := hv
  have hx := B.exec
  have hb := B.bytes
  have hr := B.returns
  have hts := atoms_spec (ws := wsL_depth) B.pre
  have hown : s.vm.findClass RL = some m.cls := findClass_of_methodNamed B.named
  have hlocks := B.notSynchronized
  have htab : c.exceptionTable.toList = [⟨0, 9, 12, 19⟩] := vx_table (x := yL_depth) B (hts _ (show Cond.codeWith yL_depth cL_depth 4 (some .int) [(0, 9, 12, 19)] ∈ wsL_depth from List.mem_cons_self))
  have hl := lv_entry ([.ref h0, .int x, .ref qo]) (n := 4) (Nat.le_of_ble_eq_true rfl)
  rw [lg_entry_eq]
  generalize (lg_sl ([.ref h0, .int x, .ref qo]) ++ List.replicate (4 - (lg_sl ([.ref h0, .int x, .ref qo])).length) Slot.unset).toArray = ls at hl ⊢
  have hl : lv_has ls 4 [(0, .ref h0), (1, .int x), (2, .ref qo)] := hl
  subst hsz
  have hD := hD0.self (sz := s.heap.size)
  generalize hAe : va_A (oW h0 cI cL n ad ar iv qo f) s.heap.size = A at hD hT ⊢
  have hA : ∀ q : Nat, s.heap.size ≤ q → A q := fun q h => by rw [← hAe]; exact Or.inr h
  have hS : va_S A s.heap s.heap [] := va_S.rf
  refine lv_aload_n hx hb dL_depth_0 rfl (lv_at hl 2 rfl) ?_
  refine lv_iconst (v := 0) hx hb dL_depth_1 (by decide) ?_
  refine lv_aload_n hx hb dL_depth_2 rfl (lv_at hl 0 rfl) ?_
  refine lv_iload_n hx hb dL_depth_3 rfl (lv_at hl 1 rfl) ?_
  have hPc := hP.sub (ws' := (gW h0 cI n ad ar iv)) [1, 2, 3, 4, 5, 6, 7, 8, 9] rfl
  have hDc := hD.sub (ws' := (gW h0 cI n ad ar iv)) [1, 2, 3, 4, 5, 6, 7, 8, 9] (by decide) rfl
  have hKc := hK.sub (tys' := [(cI, .int)]) [0] rfl
  have hFc := va_free (wc := (gW h0 cI n ad ar iv)) hD hS hA [1, 2, 3, 4, 5, 6, 7, 8, 9] rfl
  refine vx_calli (vx_runV (As := [.int x]) (rest := [.int 0, .ref qo]) ⟨hx, hb, hml, hown, hts⟩ (c_depth l hl9 D h0 cI n ad ar iv s.heap.size x nc ic g bv hok hmx) (cwV 1 hts gL_depth_X0_depth rfl rfl rfl (by decide +kernel) ⟨Nat.le_of_ble_eq_true rfl, Nat.le_of_ble_eq_true rfl⟩) (tP_V hKc hPc hDc (va_recv hKc hPc (ci := 0) (q0 := 0) rfl rfl) hT hS hFc) rfl rfl hl.1 rfl (lv_room (Nat.le_of_ble_eq_true rfl)) dL_depth_4 ⟨by show _ + _ ≤ 1; omega, by show _ + _ ≤ 6; omega⟩) hS (fun q _ h => hFc q h) hFc (fun q _ h => hFc q h) (fun E ce q9 u t H1 locs ht hvm e4 hB hz1 hk1 hS hcell hcv hcl => ?_) (fun r4 u t H1 locs ht hvm e4 hB hz1 hk1 hS => ?_)
  · obtain ⟨nV, rfl⟩ := e4
    obtain ⟨rfl, hP1, hK1, hD1⟩ := hB
    rw [ht] at hP1
    obtain ⟨hP, hD⟩ := va_join (wr := [(qo, .inl (cL, 1, .inr (.inl f)))]) (w1 := (gW h0 cI n ad ar iv)) hP hD [1, 2, 3, 4, 5, 6, 7, 8, 9] [0] rfl rfl (by decide) (by decide) hk1 hFc hP1 hD1
    have hP : va_P D vwCl (oW h0 cI cL n ad ar iv qo f) H1 := hP
    have hD : va_D A (oW h0 cI cL n ad ar iv qo f) := hD
    refine vx_catch hown [] ⟨0, 9, 12, 19⟩ [] htab (fun z h => nomatch h) rfl (by decide) (hts _ (mG wm_198)) (va_Nw.use rfl hT.2.2.1.1) hcell hcv hcl ?_
    refine lv_astore_n (lv' := [(3, .ref q9), (0, .ref h0), (1, .int x), (2, .ref qo)]) hx hb dL_depth_12 rfl hl (by decide) rfl (fun ls hl => ?_)
    refine lv_iconst (v := 1) hx hb dL_depth_13 (by decide) ?_
    refine W.widen (k := 1) (n := 6) (by omega) (by omega) ?_
    exact W.iret (v := 1) hx hb hr (fun t ht hW => ⟨⟨1, ((n, ad, ar, iv), f), rfl, Or.inr ⟨nV, rfl, rfl⟩, by rw [ht]; exact hP, va_K.moved hW.alike hK, hD⟩, hS.F ht⟩) hS.2.2 dL_depth_14
  · obtain ⟨n4, ad4, ar4, iv4⟩ := u
    obtain ⟨hP1, hK1, hD1⟩ := hB
    rw [ht] at hP1
    obtain ⟨hP, hD⟩ := va_join (wr := [(qo, .inl (cL, 1, .inr (.inl f)))]) (w1 := (gW h0 cI n4 ad4 ar4 iv4)) hP hD [1, 2, 3, 4, 5, 6, 7, 8, 9] [0] rfl rfl (by decide) (by decide) hk1 hFc hP1 hD1
    generalize H1 = H at hP hS ⊢
    have hP : va_P D vwCl (oW h0 cI cL n4 ad4 ar4 iv4 qo f) H := hP
    have hD : va_D A (oW h0 cI cL n4 ad4 ar4 iv4 qo f) := hD
    try dsimp only at e4
    have hr9 : r4 = nI (ct_dp g ((Int32.toNatClampNeg x) / 2)) := e4.2.1
    have hs9 : (fun v => v.1 = n ∧ gb_ok n nc ic g bv v.2.2.1 v.2.2.2) (n4, ad4, ar4, iv4) := gb_sm hok e4.2.2
    refine lv_i2l (v := (r4 : Int32).toInt64) hx hb dL_depth_7 rfl ?_
    refine va_last hx hb hK hP hD hS 0 1 rfl rfl (by unfold vp_in; decide) dL_depth_8 (fun H locs hP hD hS => ?_)
    have hv9 : vp_updL f (Int32.toNatClampNeg 0) ((r4 : Int32).toInt64) 0 = (nI (ct_dp g ((Int32.toNatClampNeg x) / 2))).toInt64 := (lo_at f _).trans (congrArg Int32.toInt64 hr9)
    have hP : va_P D vwCl (oW h0 cI cL n4 ad4 ar4 iv4 qo (vp_updL f (Int32.toNatClampNeg 0) ((r4 : Int32).toInt64))) H := hP
    have hD : va_D A (oW h0 cI cL n4 ad4 ar4 iv4 qo (vp_updL f (Int32.toNatClampNeg 0) ((r4 : Int32).toInt64))) := hD
    refine lv_goto (tgt := 15) hx hb dL_depth_9 (by decide) ?_
    refine lv_iconst (v := 0) hx hb dL_depth_15 (by decide) ?_
    refine W.widen (k := 1) (n := 6) (by omega) (by omega) ?_
    exact W.iret (v := 0) hx hb hr (fun t ht hW => ⟨⟨0, ((n4, ad4, ar4, iv4), vp_updL f (Int32.toNatClampNeg 0) ((r4 : Int32).toInt64)), rfl, Or.inl ⟨e4.1, rfl, hv9, hs9⟩, by rw [ht]; exact hP, va_K.moved hW.alike hK, hD⟩, hS.F ht⟩) hS.2.2 dL_depth_16
