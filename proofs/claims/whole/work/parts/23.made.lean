set_option maxHeartbeats 4000000 in
set_option maxRecDepth 100000 in
/-- orOf -/
theorem c_orOf (l : Launch) (D : va_G) (h0 : Nat) (cI : ClassId) (n : Nat) (ad : Nat → Nat) (ar : Nat → Nat → Int32) (iv : Nat → Int32) (sz : Nat) (x : Int32) (y : Int32) (a b : Nat) (nc ic : Nat) (g : Ct) (bv : Nat → Bool) (hx0 : x = nI a) (hy0 : y = nI b) (ha2 : a < 2 * nc) (hb2 : b < 2 * nc) (hok : gb_ok n nc ic g bv ar iv) (hmx : nc < 20000) : Met l yX0_orOf wsX0_orOf ({ frames := 6, cells := gb_cap n (ct_or nc g a b).2.1 - n, slots := 16 * (gb_cap n (ct_or nc g a b).2.1 - n), locals := 157 }) (mP D (gW h0 cI n ad ar iv) [(cI, .int)] sz [.ref h0, .int x, .int y]) (va_Qi (fun (r : Int32) (u : GS) => gb_po n ic bv (ct_or nc g a b) r u) (gb_at D cI (va_A (gW h0 cI n ad ar iv) sz) h0) (va_A (gW h0 cI n ad ar iv) sz)) (gb_cap n (ct_or nc g a b).2.1 - n) (16 * (gb_cap n (ct_or nc g a b).2.1 - n)) (va_A (gW h0 cI n ad ar iv) sz) := by
  refine Met.ofW (cc := cX0_orOf) (maxL := 3) (ret := (some .int)) (by decide) rfl ?_
  intro p e s m args below meth c s₁ B hml hv
  obtain ⟨rfl, hsz, hP, hK, hD0⟩ := hv
  have hx := B.exec
  have hb := B.bytes
  have hr := B.returns
  have hts := atoms_spec (ws := wsX0_orOf) B.pre
  have hown : s.vm.findClass RX0 = some m.cls := findClass_of_methodNamed B.named
  have hlocks := B.notSynchronized
  have hl := lv_entry ([.ref h0, .int x, .int y]) (n := 3) (Nat.le_of_ble_eq_true rfl)
  rw [lg_entry_eq]
  generalize (lg_sl ([.ref h0, .int x, .int y]) ++ List.replicate (3 - (lg_sl ([.ref h0, .int x, .int y])).length) Slot.unset).toArray = ls at hl ⊢
  have hl : lv_has ls 3 [(0, .ref h0), (1, .int x), (2, .int y)] := hl
  subst hsz
  have hD := hD0.self (sz := s.heap.size)
  generalize hAe : va_A (gW h0 cI n ad ar iv) s.heap.size = A at hD ⊢
  have hA : ∀ q : Nat, s.heap.size ≤ q → A q := fun q h => by rw [← hAe]; exact Or.inr h
  have hS : va_S A s.heap s.heap [] := va_S.rf
  have hwf := hok.wf
  have hle := hok.ct.2.1
  have h16 := hok.n16
  have bd1 : ct_bd nc 1 (ct_an nc g (ct_nt a) (ct_nt b)) := ct_an_b hwf (ct_nt_lt ha2) (ct_nt_lt hb2)
  have bl1 : (ct_an nc g (ct_nt a) (ct_nt b)).1 < 2 * (ct_an nc g (ct_nt a) (ct_nt b)).2.1 := bd1.2.1
  have bg1 : nc ≤ (ct_an nc g (ct_nt a) (ct_nt b)).2.1 := bd1.2.2.1
  have bh1 : (ct_an nc g (ct_nt a) (ct_nt b)).2.1 ≤ nc + 1 := bd1.2.2.2
  have ck1 : n ≤ gb_cap n (ct_an nc g (ct_nt a) (ct_nt b)).2.1 := (gb_cap_n n _).1
  have hcap : gb_cap n (ct_or nc g a b).2.1 = gb_cap n (ct_an nc g (ct_nt a) (ct_nt b)).2.1 := rfl
  refine lv_aload_n hx hb dX0_orOf_0 rfl (lv_at hl 0 rfl) ?_
  refine lv_iload_n hx hb dX0_orOf_1 rfl (lv_at hl 1 rfl) ?_
  refine vp_callSi (W.runS (As := [.int x]) (rest := [.ref h0]) ⟨hx, hb, hml, hown, hts⟩ (c_not l x) (va_cwS 1 hts gX0_orOf_X0_not rfl rfl rfl (by decide +kernel) ⟨Nat.le_of_ble_eq_true rfl, Nat.le_of_ble_eq_true rfl⟩) preEq rfl rfl hl.1 rfl (lv_room (Nat.le_of_ble_eq_true rfl)) dX0_orOf_2 ⟨by show _ + _ ≤ gb_cap n (ct_or nc g a b).2.1 - n; omega, by show _ + _ ≤ 16 * (gb_cap n (ct_or nc g a b).2.1 - n); omega⟩) (fun r2 e2 => ?_)
  refine lv_iload_n hx hb dX0_orOf_5 rfl (lv_at hl 2 rfl) ?_
  refine vp_callSi (W.runS (As := [.int y]) (rest := [.int r2, .ref h0]) ⟨hx, hb, hml, hown, hts⟩ (c_not l y) (va_cwS 1 hts gX0_orOf_X0_not rfl rfl rfl (by decide +kernel) ⟨Nat.le_of_ble_eq_true rfl, Nat.le_of_ble_eq_true rfl⟩) preEq rfl rfl hl.1 rfl (lv_room (Nat.le_of_ble_eq_true rfl)) dX0_orOf_6 ⟨by show _ + _ ≤ gb_cap n (ct_or nc g a b).2.1 - n; omega, by show _ + _ ≤ 16 * (gb_cap n (ct_or nc g a b).2.1 - n); omega⟩) (fun r6 e6 => ?_)
  have hFc := va_free (wc := (gW h0 cI n ad ar iv)) hD hS hA [0, 1, 2, 3, 4, 5, 6, 7, 8] rfl
  refine va_calli (va_runV (As := [.int r2, .int r6]) (rest := []) ⟨hx, hb, hml, hown, hts⟩ (c_andOf l D h0 cI n ad ar iv s.heap.size r2 r6 (ct_nt a) (ct_nt b) nc ic g bv (by rw [e2, hx0]; exact ct_nIxor a) (by rw [e6, hy0]; exact ct_nIxor b) (ct_nt_lt ha2) (ct_nt_lt hb2) hok (by omega)) (cwV 2 hts gX0_orOf_X0_andOf rfl rfl rfl (by decide +kernel) ⟨Nat.le_of_ble_eq_true rfl, Nat.le_of_ble_eq_true rfl⟩) (mP_V hK hP hD (va_recv hK hP (ci := 0) (q0 := 0) rfl rfl)) rfl rfl hl.1 rfl (lv_room (Nat.le_of_ble_eq_true rfl)) dX0_orOf_9 ⟨by show _ + _ ≤ gb_cap n (ct_or nc g a b).2.1 - n; omega, by show _ + _ ≤ 16 * (gb_cap n (ct_or nc g a b).2.1 - n); omega⟩) hS (fun q _ h => hFc q h) hFc (fun r9 u t H1 locs ht hvm e9 hB hz1 hk1 hS => ?_)
  obtain ⟨n9, ad9, ar9, iv9⟩ := u
  obtain ⟨hP1, hK1, hD1⟩ := hB
  rw [ht] at hP1
  have hK := va_K.moved hvm.symm hK1
  have hP : va_P D vwCl (gW h0 cI n9 ad9 ar9 iv9) H1 := hP1
  have hD : va_D A (gW h0 cI n9 ad9 ar9 iv9) := hD1.weaken (fun k q _ h => hFc q.1 h)
  clear hP1 hK1 hD1 hk1 hz1 hFc ht
  generalize H1 = H at hP hS ⊢
  try dsimp only at e9
  have en1 : n9 = gb_cap n (ct_an nc g (ct_nt a) (ct_nt b)).2.1 := e9.2.1
  refine vp_callSi (W.runS (As := [.int r9]) (rest := []) ⟨hx, hb, hml, hown, hts⟩ (c_not l r9) (va_cwS 1 hts gX0_orOf_X0_not rfl rfl rfl (by decide +kernel) ⟨Nat.le_of_ble_eq_true rfl, Nat.le_of_ble_eq_true rfl⟩) preEq rfl rfl hl.1 rfl (lv_room (Nat.le_of_ble_eq_true rfl)) dX0_orOf_12 ⟨by show _ + _ ≤ gb_cap n (ct_or nc g a b).2.1 - n; omega, by show _ + _ ≤ 16 * (gb_cap n (ct_or nc g a b).2.1 - n); omega⟩) (fun r12 e12 => ?_)
  refine W.widen (k := gb_cap n (ct_or nc g a b).2.1 - n) (n := 16 * (gb_cap n (ct_or nc g a b).2.1 - n)) (by omega) (by omega) ?_
  exact W.iret (v := r12) hx hb hr (fun t ht hW => ⟨⟨r12, (n9, ad9, ar9, iv9), rfl, ⟨by rw [e12, e9.1]; exact ct_nIxor _, by rw [hcap]; exact en1, e9.2.2⟩, by rw [ht]; exact hP, va_K.moved hW.alike hK, hD⟩, hS.F ht⟩) hS.2.2 dX0_orOf_15
set_option maxHeartbeats 4000000 in
set_option maxRecDepth 100000 in
/-- xorOf -/
theorem c_xorOf (l : Launch) (D : va_G) (h0 : Nat) (cI : ClassId) (n : Nat) (ad : Nat → Nat) (ar : Nat → Nat → Int32) (iv : Nat → Int32) (sz : Nat) (x : Int32) (y : Int32) (a b : Nat) (nc ic : Nat) (g : Ct) (bv : Nat → Bool) (hx0 : x = nI a) (hy0 : y = nI b) (ha2 : a < 2 * nc) (hb2 : b < 2 * nc) (hok : gb_ok n nc ic g bv ar iv) (hmx : nc + 3 ≤ 20000) : Met l yX0_xorOf wsX0_xorOf ({ frames := 7, cells := gb_cap n (ct_xo nc g a b).2.1 - n, slots := 16 * (gb_cap n (ct_xo nc g a b).2.1 - n), locals := 179 }) (mP D (gW h0 cI n ad ar iv) [(cI, .int)] sz [.ref h0, .int x, .int y]) (va_Qi (fun (r : Int32) (u : GS) => gb_po n ic bv (ct_xo nc g a b) r u) (gb_at D cI (va_A (gW h0 cI n ad ar iv) sz) h0) (va_A (gW h0 cI n ad ar iv) sz)) (gb_cap n (ct_xo nc g a b).2.1 - n) (16 * (gb_cap n (ct_xo nc g a b).2.1 - n)) (va_A (gW h0 cI n ad ar iv) sz) := by
  refine Met.ofW (cc := cX0_xorOf) (maxL := 3) (ret := (some .int)) (by decide) rfl ?_
  intro p e s m args below meth c s₁ B hml hv
  obtain ⟨rfl, hsz, hP, hK, hD0⟩ := hv
  have hx := B.exec
  have hb := B.bytes
  have hr := B.returns
  have hts := atoms_spec (ws := wsX0_xorOf) B.pre
  have hown : s.vm.findClass RX0 = some m.cls := findClass_of_methodNamed B.named
  have hlocks := B.notSynchronized
  have hl := lv_entry ([.ref h0, .int x, .int y]) (n := 3) (Nat.le_of_ble_eq_true rfl)
  rw [lg_entry_eq]
  generalize (lg_sl ([.ref h0, .int x, .int y]) ++ List.replicate (3 - (lg_sl ([.ref h0, .int x, .int y])).length) Slot.unset).toArray = ls at hl ⊢
  have hl : lv_has ls 3 [(0, .ref h0), (1, .int x), (2, .int y)] := hl
  subst hsz
  have hD := hD0.self (sz := s.heap.size)
  generalize hAe : va_A (gW h0 cI n ad ar iv) s.heap.size = A at hD ⊢
  have hA : ∀ q : Nat, s.heap.size ≤ q → A q := fun q h => by rw [← hAe]; exact Or.inr h
  have hS : va_S A s.heap s.heap [] := va_S.rf
  have hwf := hok.wf
  have hle := hok.ct.2.1
  have h16 := hok.n16
  have bd1 : ct_bd nc 1 (ct_an nc g a (ct_nt b)) := ct_an_b hwf ha2 (ct_nt_lt hb2)
  have bl1 : (ct_an nc g a (ct_nt b)).1 < 2 * (ct_an nc g a (ct_nt b)).2.1 := bd1.2.1
  have bg1 : nc ≤ (ct_an nc g a (ct_nt b)).2.1 := bd1.2.2.1
  have bh1 : (ct_an nc g a (ct_nt b)).2.1 ≤ nc + 1 := bd1.2.2.2
  have ck1 : n ≤ gb_cap n (ct_an nc g a (ct_nt b)).2.1 := (gb_cap_n n _).1
  have bd2 : ct_bd (ct_an nc g a (ct_nt b)).2.1 1 (ct_an (ct_an nc g a (ct_nt b)).2.1 (ct_an nc g a (ct_nt b)).2.2 (ct_nt a) b) := ct_an_b bd1.1 (ct_nt_lt (by omega)) (by omega)
  have bl2 : (ct_an (ct_an nc g a (ct_nt b)).2.1 (ct_an nc g a (ct_nt b)).2.2 (ct_nt a) b).1 < 2 * (ct_an (ct_an nc g a (ct_nt b)).2.1 (ct_an nc g a (ct_nt b)).2.2 (ct_nt a) b).2.1 := bd2.2.1
  have bg2 : (ct_an nc g a (ct_nt b)).2.1 ≤ (ct_an (ct_an nc g a (ct_nt b)).2.1 (ct_an nc g a (ct_nt b)).2.2 (ct_nt a) b).2.1 := bd2.2.2.1
  have bh2 : (ct_an (ct_an nc g a (ct_nt b)).2.1 (ct_an nc g a (ct_nt b)).2.2 (ct_nt a) b).2.1 ≤ (ct_an nc g a (ct_nt b)).2.1 + 1 := bd2.2.2.2
  have ck2 : n ≤ gb_cap n (ct_an (ct_an nc g a (ct_nt b)).2.1 (ct_an nc g a (ct_nt b)).2.2 (ct_nt a) b).2.1 := (gb_cap_n n _).1
  have cm2 : gb_cap n (ct_an nc g a (ct_nt b)).2.1 ≤ gb_cap n (ct_an (ct_an nc g a (ct_nt b)).2.1 (ct_an nc g a (ct_nt b)).2.2 (ct_nt a) b).2.1 := gb_cap_mono bd2.2.2.1
  have cx2 : gb_cap (gb_cap n (ct_an nc g a (ct_nt b)).2.1) (ct_an (ct_an nc g a (ct_nt b)).2.1 (ct_an nc g a (ct_nt b)).2.2 (ct_nt a) b).2.1 = gb_cap n (ct_an (ct_an nc g a (ct_nt b)).2.1 (ct_an nc g a (ct_nt b)).2.2 (ct_nt a) b).2.1 := gb_cap_cap bd2.2.2.1 (by omega)
  have bd3 : ct_bd (ct_an (ct_an nc g a (ct_nt b)).2.1 (ct_an nc g a (ct_nt b)).2.2 (ct_nt a) b).2.1 1 (ct_or (ct_an (ct_an nc g a (ct_nt b)).2.1 (ct_an nc g a (ct_nt b)).2.2 (ct_nt a) b).2.1 (ct_an (ct_an nc g a (ct_nt b)).2.1 (ct_an nc g a (ct_nt b)).2.2 (ct_nt a) b).2.2 (ct_an nc g a (ct_nt b)).1 (ct_an (ct_an nc g a (ct_nt b)).2.1 (ct_an nc g a (ct_nt b)).2.2 (ct_nt a) b).1) := ct_or_b bd2.1 (by omega) (by omega)
  have bl3 : (ct_or (ct_an (ct_an nc g a (ct_nt b)).2.1 (ct_an nc g a (ct_nt b)).2.2 (ct_nt a) b).2.1 (ct_an (ct_an nc g a (ct_nt b)).2.1 (ct_an nc g a (ct_nt b)).2.2 (ct_nt a) b).2.2 (ct_an nc g a (ct_nt b)).1 (ct_an (ct_an nc g a (ct_nt b)).2.1 (ct_an nc g a (ct_nt b)).2.2 (ct_nt a) b).1).1 < 2 * (ct_or (ct_an (ct_an nc g a (ct_nt b)).2.1 (ct_an nc g a (ct_nt b)).2.2 (ct_nt a) b).2.1 (ct_an (ct_an nc g a (ct_nt b)).2.1 (ct_an nc g a (ct_nt b)).2.2 (ct_nt a) b).2.2 (ct_an nc g a (ct_nt b)).1 (ct_an (ct_an nc g a (ct_nt b)).2.1 (ct_an nc g a (ct_nt b)).2.2 (ct_nt a) b).1).2.1 := bd3.2.1
  have bg3 : (ct_an (ct_an nc g a (ct_nt b)).2.1 (ct_an nc g a (ct_nt b)).2.2 (ct_nt a) b).2.1 ≤ (ct_or (ct_an (ct_an nc g a (ct_nt b)).2.1 (ct_an nc g a (ct_nt b)).2.2 (ct_nt a) b).2.1 (ct_an (ct_an nc g a (ct_nt b)).2.1 (ct_an nc g a (ct_nt b)).2.2 (ct_nt a) b).2.2 (ct_an nc g a (ct_nt b)).1 (ct_an (ct_an nc g a (ct_nt b)).2.1 (ct_an nc g a (ct_nt b)).2.2 (ct_nt a) b).1).2.1 := bd3.2.2.1
  have bh3 : (ct_or (ct_an (ct_an nc g a (ct_nt b)).2.1 (ct_an nc g a (ct_nt b)).2.2 (ct_nt a) b).2.1 (ct_an (ct_an nc g a (ct_nt b)).2.1 (ct_an nc g a (ct_nt b)).2.2 (ct_nt a) b).2.2 (ct_an nc g a (ct_nt b)).1 (ct_an (ct_an nc g a (ct_nt b)).2.1 (ct_an nc g a (ct_nt b)).2.2 (ct_nt a) b).1).2.1 ≤ (ct_an (ct_an nc g a (ct_nt b)).2.1 (ct_an nc g a (ct_nt b)).2.2 (ct_nt a) b).2.1 + 1 := bd3.2.2.2
  have ck3 : n ≤ gb_cap n (ct_or (ct_an (ct_an nc g a (ct_nt b)).2.1 (ct_an nc g a (ct_nt b)).2.2 (ct_nt a) b).2.1 (ct_an (ct_an nc g a (ct_nt b)).2.1 (ct_an nc g a (ct_nt b)).2.2 (ct_nt a) b).2.2 (ct_an nc g a (ct_nt b)).1 (ct_an (ct_an nc g a (ct_nt b)).2.1 (ct_an nc g a (ct_nt b)).2.2 (ct_nt a) b).1).2.1 := (gb_cap_n n _).1
  have cm3 : gb_cap n (ct_an (ct_an nc g a (ct_nt b)).2.1 (ct_an nc g a (ct_nt b)).2.2 (ct_nt a) b).2.1 ≤ gb_cap n (ct_or (ct_an (ct_an nc g a (ct_nt b)).2.1 (ct_an nc g a (ct_nt b)).2.2 (ct_nt a) b).2.1 (ct_an (ct_an nc g a (ct_nt b)).2.1 (ct_an nc g a (ct_nt b)).2.2 (ct_nt a) b).2.2 (ct_an nc g a (ct_nt b)).1 (ct_an (ct_an nc g a (ct_nt b)).2.1 (ct_an nc g a (ct_nt b)).2.2 (ct_nt a) b).1).2.1 := gb_cap_mono bd3.2.2.1
  have cx3 : gb_cap (gb_cap n (ct_an (ct_an nc g a (ct_nt b)).2.1 (ct_an nc g a (ct_nt b)).2.2 (ct_nt a) b).2.1) (ct_or (ct_an (ct_an nc g a (ct_nt b)).2.1 (ct_an nc g a (ct_nt b)).2.2 (ct_nt a) b).2.1 (ct_an (ct_an nc g a (ct_nt b)).2.1 (ct_an nc g a (ct_nt b)).2.2 (ct_nt a) b).2.2 (ct_an nc g a (ct_nt b)).1 (ct_an (ct_an nc g a (ct_nt b)).2.1 (ct_an nc g a (ct_nt b)).2.2 (ct_nt a) b).1).2.1 = gb_cap n (ct_or (ct_an (ct_an nc g a (ct_nt b)).2.1 (ct_an nc g a (ct_nt b)).2.2 (ct_nt a) b).2.1 (ct_an (ct_an nc g a (ct_nt b)).2.1 (ct_an nc g a (ct_nt b)).2.2 (ct_nt a) b).2.2 (ct_an nc g a (ct_nt b)).1 (ct_an (ct_an nc g a (ct_nt b)).2.1 (ct_an nc g a (ct_nt b)).2.2 (ct_nt a) b).1).2.1 := gb_cap_cap bd3.2.2.1 (by omega)
  have hcap : gb_cap n (ct_xo nc g a b).2.1 = gb_cap n (ct_or (ct_an (ct_an nc g a (ct_nt b)).2.1 (ct_an nc g a (ct_nt b)).2.2 (ct_nt a) b).2.1 (ct_an (ct_an nc g a (ct_nt b)).2.1 (ct_an nc g a (ct_nt b)).2.2 (ct_nt a) b).2.2 (ct_an nc g a (ct_nt b)).1 (ct_an (ct_an nc g a (ct_nt b)).2.1 (ct_an nc g a (ct_nt b)).2.2 (ct_nt a) b).1).2.1 := rfl
  refine lv_aload_n hx hb dX0_xorOf_0 rfl (lv_at hl 0 rfl) ?_
  refine lv_aload_n hx hb dX0_xorOf_1 rfl (lv_at hl 0 rfl) ?_
  refine lv_iload_n hx hb dX0_xorOf_2 rfl (lv_at hl 1 rfl) ?_
  refine lv_iload_n hx hb dX0_xorOf_3 rfl (lv_at hl 2 rfl) ?_
  refine vp_callSi (W.runS (As := [.int y]) (rest := [.int x, .ref h0, .ref h0]) ⟨hx, hb, hml, hown, hts⟩ (c_not l y) (va_cwS 1 hts gX0_xorOf_X0_not rfl rfl rfl (by decide +kernel) ⟨Nat.le_of_ble_eq_true rfl, Nat.le_of_ble_eq_true rfl⟩) preEq rfl rfl hl.1 rfl (lv_room (Nat.le_of_ble_eq_true rfl)) dX0_xorOf_4 ⟨by show _ + _ ≤ gb_cap n (ct_xo nc g a b).2.1 - n; omega, by show _ + _ ≤ 16 * (gb_cap n (ct_xo nc g a b).2.1 - n); omega⟩) (fun r4 e4 => ?_)
  have hFc := va_free (wc := (gW h0 cI n ad ar iv)) hD hS hA [0, 1, 2, 3, 4, 5, 6, 7, 8] rfl
  refine va_calli (va_runV (As := [.int x, .int r4]) (rest := [.ref h0]) ⟨hx, hb, hml, hown, hts⟩ (c_andOf l D h0 cI n ad ar iv s.heap.size x r4 a (ct_nt b) nc ic g bv hx0 (by rw [e4, hy0]; exact ct_nIxor b) ha2 (ct_nt_lt hb2) hok (by omega)) (cwV 2 hts gX0_xorOf_X0_andOf rfl rfl rfl (by decide +kernel) ⟨Nat.le_of_ble_eq_true rfl, Nat.le_of_ble_eq_true rfl⟩) (mP_V hK hP hD (va_recv hK hP (ci := 0) (q0 := 0) rfl rfl)) rfl rfl hl.1 rfl (lv_room (Nat.le_of_ble_eq_true rfl)) dX0_xorOf_7 ⟨by show _ + _ ≤ gb_cap n (ct_xo nc g a b).2.1 - n; omega, by show _ + _ ≤ 16 * (gb_cap n (ct_xo nc g a b).2.1 - n); omega⟩) hS (fun q _ h => hFc q h) hFc (fun r7 u t H1 locs ht hvm e7 hB hz1 hk1 hS => ?_)
  obtain ⟨n7, ad7, ar7, iv7⟩ := u
  obtain ⟨hP1, hK1, hD1⟩ := hB
  rw [ht] at hP1
  have hK := va_K.moved hvm.symm hK1
  have hP : va_P D vwCl (gW h0 cI n7 ad7 ar7 iv7) H1 := hP1
  have hD : va_D A (gW h0 cI n7 ad7 ar7 iv7) := hD1.weaken (fun k q _ h => hFc q.1 h)
  clear hP1 hK1 hD1 hk1 hz1 hFc ht
  generalize H1 = H at hP hS ⊢
  try dsimp only at e7
  have en1 : n7 = gb_cap n (ct_an nc g a (ct_nt b)).2.1 := e7.2.1
  refine lv_aload_n hx hb dX0_xorOf_10 rfl (lv_at hl 0 rfl) ?_
  refine lv_iload_n hx hb dX0_xorOf_11 rfl (lv_at hl 1 rfl) ?_
  refine vp_callSi (W.runS (As := [.int x]) (rest := [.ref h0, .int r7, .ref h0]) ⟨hx, hb, hml, hown, hts⟩ (c_not l x) (va_cwS 1 hts gX0_xorOf_X0_not rfl rfl rfl (by decide +kernel) ⟨Nat.le_of_ble_eq_true rfl, Nat.le_of_ble_eq_true rfl⟩) preEq rfl rfl hl.1 rfl (lv_room (Nat.le_of_ble_eq_true rfl)) dX0_xorOf_12 ⟨by show _ + _ ≤ gb_cap n (ct_xo nc g a b).2.1 - n; omega, by show _ + _ ≤ 16 * (gb_cap n (ct_xo nc g a b).2.1 - n); omega⟩) (fun r12 e12 => ?_)
  refine lv_iload_n hx hb dX0_xorOf_15 rfl (lv_at hl 2 rfl) ?_
  have cy2 : gb_cap n7 (ct_an (ct_an nc g a (ct_nt b)).2.1 (ct_an nc g a (ct_nt b)).2.2 (ct_nt a) b).2.1 = gb_cap n (ct_an (ct_an nc g a (ct_nt b)).2.1 (ct_an nc g a (ct_nt b)).2.2 (ct_nt a) b).2.1 := by rw [en1]; exact cx2
  have hFc := va_free (wc := (gW h0 cI n7 ad7 ar7 iv7)) hD hS hA [0, 1, 2, 3, 4, 5, 6, 7, 8] rfl
  refine va_calli (va_runV (As := [.int r12, .int y]) (rest := [.int r7, .ref h0]) ⟨hx, hb, hml, hown, hts⟩ (c_andOf l D h0 cI n7 ad7 ar7 iv7 H.size r12 y (ct_nt a) b (ct_an nc g a (ct_nt b)).2.1 ic (ct_an nc g a (ct_nt b)).2.2 bv (by rw [e12, hx0]; exact ct_nIxor a) hy0 (ct_nt_lt (by omega)) (by omega) e7.2.2 (by omega)) (cwV 2 hts gX0_xorOf_X0_andOf rfl rfl rfl (by decide +kernel) ⟨Nat.le_of_ble_eq_true rfl, Nat.le_of_ble_eq_true rfl⟩) (mP_V hK hP hD (va_recv hK hP (ci := 0) (q0 := 0) rfl rfl)) rfl rfl hl.1 rfl (lv_room (Nat.le_of_ble_eq_true rfl)) dX0_xorOf_16 ⟨by show _ + _ ≤ gb_cap n (ct_xo nc g a b).2.1 - n; omega, by show _ + _ ≤ 16 * (gb_cap n (ct_xo nc g a b).2.1 - n); omega⟩) hS (fun q _ h => hFc q h) hFc (fun r16 u t H1 locs ht hvm e16 hB hz1 hk1 hS => ?_)
  obtain ⟨n16, ad16, ar16, iv16⟩ := u
  obtain ⟨hP1, hK1, hD1⟩ := hB
  rw [ht] at hP1
  have hK := va_K.moved hvm.symm hK1
  have hP : va_P D vwCl (gW h0 cI n16 ad16 ar16 iv16) H1 := hP1
  have hD : va_D A (gW h0 cI n16 ad16 ar16 iv16) := hD1.weaken (fun k q _ h => hFc q.1 h)
  clear hP1 hK1 hD1 hk1 hz1 hFc ht
  generalize H1 = H at hP hS ⊢
  try dsimp only at e16
  have en2 : n16 = gb_cap n (ct_an (ct_an nc g a (ct_nt b)).2.1 (ct_an nc g a (ct_nt b)).2.2 (ct_nt a) b).2.1 := e16.2.1.trans cy2
  have cy3 : gb_cap n16 (ct_or (ct_an (ct_an nc g a (ct_nt b)).2.1 (ct_an nc g a (ct_nt b)).2.2 (ct_nt a) b).2.1 (ct_an (ct_an nc g a (ct_nt b)).2.1 (ct_an nc g a (ct_nt b)).2.2 (ct_nt a) b).2.2 (ct_an nc g a (ct_nt b)).1 (ct_an (ct_an nc g a (ct_nt b)).2.1 (ct_an nc g a (ct_nt b)).2.2 (ct_nt a) b).1).2.1 = gb_cap n (ct_or (ct_an (ct_an nc g a (ct_nt b)).2.1 (ct_an nc g a (ct_nt b)).2.2 (ct_nt a) b).2.1 (ct_an (ct_an nc g a (ct_nt b)).2.1 (ct_an nc g a (ct_nt b)).2.2 (ct_nt a) b).2.2 (ct_an nc g a (ct_nt b)).1 (ct_an (ct_an nc g a (ct_nt b)).2.1 (ct_an nc g a (ct_nt b)).2.2 (ct_nt a) b).1).2.1 := by rw [en2]; exact cx3
  have hFc := va_free (wc := (gW h0 cI n16 ad16 ar16 iv16)) hD hS hA [0, 1, 2, 3, 4, 5, 6, 7, 8] rfl
  refine va_calli (va_runV (As := [.int r7, .int r16]) (rest := []) ⟨hx, hb, hml, hown, hts⟩ (c_orOf l D h0 cI n16 ad16 ar16 iv16 H.size r7 r16 (ct_an nc g a (ct_nt b)).1 (ct_an (ct_an nc g a (ct_nt b)).2.1 (ct_an nc g a (ct_nt b)).2.2 (ct_nt a) b).1 (ct_an (ct_an nc g a (ct_nt b)).2.1 (ct_an nc g a (ct_nt b)).2.2 (ct_nt a) b).2.1 ic (ct_an (ct_an nc g a (ct_nt b)).2.1 (ct_an nc g a (ct_nt b)).2.2 (ct_nt a) b).2.2 bv e7.1 e16.1 (by omega) (by omega) e16.2.2 (by omega)) (cwV 2 hts gX0_xorOf_X0_orOf rfl rfl rfl (by decide +kernel) ⟨Nat.le_of_ble_eq_true rfl, Nat.le_of_ble_eq_true rfl⟩) (mP_V hK hP hD (va_recv hK hP (ci := 0) (q0 := 0) rfl rfl)) rfl rfl hl.1 rfl (lv_room (Nat.le_of_ble_eq_true rfl)) dX0_xorOf_19 ⟨by show _ + _ ≤ gb_cap n (ct_xo nc g a b).2.1 - n; omega, by show _ + _ ≤ 16 * (gb_cap n (ct_xo nc g a b).2.1 - n); omega⟩) hS (fun q _ h => hFc q h) hFc (fun r19 u t H1 locs ht hvm e19 hB hz1 hk1 hS => ?_)
  obtain ⟨n19, ad19, ar19, iv19⟩ := u
  obtain ⟨hP1, hK1, hD1⟩ := hB
  rw [ht] at hP1
  have hK := va_K.moved hvm.symm hK1
  have hP : va_P D vwCl (gW h0 cI n19 ad19 ar19 iv19) H1 := hP1
  have hD : va_D A (gW h0 cI n19 ad19 ar19 iv19) := hD1.weaken (fun k q _ h => hFc q.1 h)
  clear hP1 hK1 hD1 hk1 hz1 hFc ht
  generalize H1 = H at hP hS ⊢
  try dsimp only at e19
  have en3 : n19 = gb_cap n (ct_or (ct_an (ct_an nc g a (ct_nt b)).2.1 (ct_an nc g a (ct_nt b)).2.2 (ct_nt a) b).2.1 (ct_an (ct_an nc g a (ct_nt b)).2.1 (ct_an nc g a (ct_nt b)).2.2 (ct_nt a) b).2.2 (ct_an nc g a (ct_nt b)).1 (ct_an (ct_an nc g a (ct_nt b)).2.1 (ct_an nc g a (ct_nt b)).2.2 (ct_nt a) b).1).2.1 := e19.2.1.trans cy3
  refine W.widen (k := gb_cap n (ct_xo nc g a b).2.1 - n) (n := 16 * (gb_cap n (ct_xo nc g a b).2.1 - n)) (by omega) (by omega) ?_
  exact W.iret (v := r19) hx hb hr (fun t ht hW => ⟨⟨r19, (n19, ad19, ar19, iv19), rfl, ⟨e19.1, by rw [hcap]; exact en3, e19.2.2⟩, by rw [ht]; exact hP, va_K.moved hW.alike hK, hD⟩, hS.F ht⟩) hS.2.2 dX0_xorOf_22
set_option maxHeartbeats 4000000 in
set_option maxRecDepth 100000 in
/-- ifOf -/
theorem c_ifOf (l : Launch) (D : va_G) (h0 : Nat) (cI : ClassId) (n : Nat) (ad : Nat → Nat) (ar : Nat → Nat → Int32) (iv : Nat → Int32) (sz : Nat) (x : Int32) (y : Int32) (z : Int32) (a b d9 : Nat) (nc ic : Nat) (g : Ct) (bv : Nat → Bool) (hx0 : x = nI a) (hy0 : y = nI b) (hz0 : z = nI d9) (ha2 : a < 2 * nc) (hb2 : b < 2 * nc) (hc2 : d9 < 2 * nc) (hok : gb_ok n nc ic g bv ar iv) (hmx : nc + 3 ≤ 20000) : Met l yX0_ifOf wsX0_ifOf ({ frames := 7, cells := gb_cap n (ct_ie nc g a b d9).2.1 - n, slots := 16 * (gb_cap n (ct_ie nc g a b d9).2.1 - n), locals := 179 }) (mP D (gW h0 cI n ad ar iv) [(cI, .int)] sz [.ref h0, .int x, .int y, .int z]) (va_Qi (fun (r : Int32) (u : GS) => gb_po n ic bv (ct_ie nc g a b d9) r u) (gb_at D cI (va_A (gW h0 cI n ad ar iv) sz) h0) (va_A (gW h0 cI n ad ar iv) sz)) (gb_cap n (ct_ie nc g a b d9).2.1 - n) (16 * (gb_cap n (ct_ie nc g a b d9).2.1 - n)) (va_A (gW h0 cI n ad ar iv) sz) := by
  refine Met.ofW (cc := cX0_ifOf) (maxL := 4) (ret := (some .int)) (by decide) rfl ?_
  intro p e s m args below meth c s₁ B hml hv
  obtain ⟨rfl, hsz, hP, hK, hD0⟩ := hv
  have hx := B.exec
  have hb := B.bytes
  have hr := B.returns
  have hts := atoms_spec (ws := wsX0_ifOf) B.pre
  have hown : s.vm.findClass RX0 = some m.cls := findClass_of_methodNamed B.named
  have hlocks := B.notSynchronized
  have hl := lv_entry ([.ref h0, .int x, .int y, .int z]) (n := 4) (Nat.le_of_ble_eq_true rfl)
  rw [lg_entry_eq]
  generalize (lg_sl ([.ref h0, .int x, .int y, .int z]) ++ List.replicate (4 - (lg_sl ([.ref h0, .int x, .int y, .int z])).length) Slot.unset).toArray = ls at hl ⊢
  have hl : lv_has ls 4 [(0, .ref h0), (1, .int x), (2, .int y), (3, .int z)] := hl
  subst hsz
  have hD := hD0.self (sz := s.heap.size)
  generalize hAe : va_A (gW h0 cI n ad ar iv) s.heap.size = A at hD ⊢
  have hA : ∀ q : Nat, s.heap.size ≤ q → A q := fun q h => by rw [← hAe]; exact Or.inr h
  have hS : va_S A s.heap s.heap [] := va_S.rf
  have hwf := hok.wf
  have hle := hok.ct.2.1
  have h16 := hok.n16
  have bd1 : ct_bd nc 1 (ct_an nc g a b) := ct_an_b hwf ha2 hb2
  have bl1 : (ct_an nc g a b).1 < 2 * (ct_an nc g a b).2.1 := bd1.2.1
  have bg1 : nc ≤ (ct_an nc g a b).2.1 := bd1.2.2.1
  have bh1 : (ct_an nc g a b).2.1 ≤ nc + 1 := bd1.2.2.2
  have ck1 : n ≤ gb_cap n (ct_an nc g a b).2.1 := (gb_cap_n n _).1
  have bd2 : ct_bd (ct_an nc g a b).2.1 1 (ct_an (ct_an nc g a b).2.1 (ct_an nc g a b).2.2 (ct_nt a) d9) := ct_an_b bd1.1 (ct_nt_lt (by omega)) (by omega)
  have bl2 : (ct_an (ct_an nc g a b).2.1 (ct_an nc g a b).2.2 (ct_nt a) d9).1 < 2 * (ct_an (ct_an nc g a b).2.1 (ct_an nc g a b).2.2 (ct_nt a) d9).2.1 := bd2.2.1
  have bg2 : (ct_an nc g a b).2.1 ≤ (ct_an (ct_an nc g a b).2.1 (ct_an nc g a b).2.2 (ct_nt a) d9).2.1 := bd2.2.2.1
  have bh2 : (ct_an (ct_an nc g a b).2.1 (ct_an nc g a b).2.2 (ct_nt a) d9).2.1 ≤ (ct_an nc g a b).2.1 + 1 := bd2.2.2.2
  have ck2 : n ≤ gb_cap n (ct_an (ct_an nc g a b).2.1 (ct_an nc g a b).2.2 (ct_nt a) d9).2.1 := (gb_cap_n n _).1
  have cm2 : gb_cap n (ct_an nc g a b).2.1 ≤ gb_cap n (ct_an (ct_an nc g a b).2.1 (ct_an nc g a b).2.2 (ct_nt a) d9).2.1 := gb_cap_mono bd2.2.2.1
  have cx2 : gb_cap (gb_cap n (ct_an nc g a b).2.1) (ct_an (ct_an nc g a b).2.1 (ct_an nc g a b).2.2 (ct_nt a) d9).2.1 = gb_cap n (ct_an (ct_an nc g a b).2.1 (ct_an nc g a b).2.2 (ct_nt a) d9).2.1 := gb_cap_cap bd2.2.2.1 (by omega)
  have bd3 : ct_bd (ct_an (ct_an nc g a b).2.1 (ct_an nc g a b).2.2 (ct_nt a) d9).2.1 1 (ct_or (ct_an (ct_an nc g a b).2.1 (ct_an nc g a b).2.2 (ct_nt a) d9).2.1 (ct_an (ct_an nc g a b).2.1 (ct_an nc g a b).2.2 (ct_nt a) d9).2.2 (ct_an nc g a b).1 (ct_an (ct_an nc g a b).2.1 (ct_an nc g a b).2.2 (ct_nt a) d9).1) := ct_or_b bd2.1 (by omega) (by omega)
  have bl3 : (ct_or (ct_an (ct_an nc g a b).2.1 (ct_an nc g a b).2.2 (ct_nt a) d9).2.1 (ct_an (ct_an nc g a b).2.1 (ct_an nc g a b).2.2 (ct_nt a) d9).2.2 (ct_an nc g a b).1 (ct_an (ct_an nc g a b).2.1 (ct_an nc g a b).2.2 (ct_nt a) d9).1).1 < 2 * (ct_or (ct_an (ct_an nc g a b).2.1 (ct_an nc g a b).2.2 (ct_nt a) d9).2.1 (ct_an (ct_an nc g a b).2.1 (ct_an nc g a b).2.2 (ct_nt a) d9).2.2 (ct_an nc g a b).1 (ct_an (ct_an nc g a b).2.1 (ct_an nc g a b).2.2 (ct_nt a) d9).1).2.1 := bd3.2.1
  have bg3 : (ct_an (ct_an nc g a b).2.1 (ct_an nc g a b).2.2 (ct_nt a) d9).2.1 ≤ (ct_or (ct_an (ct_an nc g a b).2.1 (ct_an nc g a b).2.2 (ct_nt a) d9).2.1 (ct_an (ct_an nc g a b).2.1 (ct_an nc g a b).2.2 (ct_nt a) d9).2.2 (ct_an nc g a b).1 (ct_an (ct_an nc g a b).2.1 (ct_an nc g a b).2.2 (ct_nt a) d9).1).2.1 := bd3.2.2.1
  have bh3 : (ct_or (ct_an (ct_an nc g a b).2.1 (ct_an nc g a b).2.2 (ct_nt a) d9).2.1 (ct_an (ct_an nc g a b).2.1 (ct_an nc g a b).2.2 (ct_nt a) d9).2.2 (ct_an nc g a b).1 (ct_an (ct_an nc g a b).2.1 (ct_an nc g a b).2.2 (ct_nt a) d9).1).2.1 ≤ (ct_an (ct_an nc g a b).2.1 (ct_an nc g a b).2.2 (ct_nt a) d9).2.1 + 1 := bd3.2.2.2
  have ck3 : n ≤ gb_cap n (ct_or (ct_an (ct_an nc g a b).2.1 (ct_an nc g a b).2.2 (ct_nt a) d9).2.1 (ct_an (ct_an nc g a b).2.1 (ct_an nc g a b).2.2 (ct_nt a) d9).2.2 (ct_an nc g a b).1 (ct_an (ct_an nc g a b).2.1 (ct_an nc g a b).2.2 (ct_nt a) d9).1).2.1 := (gb_cap_n n _).1
  have cm3 : gb_cap n (ct_an (ct_an nc g a b).2.1 (ct_an nc g a b).2.2 (ct_nt a) d9).2.1 ≤ gb_cap n (ct_or (ct_an (ct_an nc g a b).2.1 (ct_an nc g a b).2.2 (ct_nt a) d9).2.1 (ct_an (ct_an nc g a b).2.1 (ct_an nc g a b).2.2 (ct_nt a) d9).2.2 (ct_an nc g a b).1 (ct_an (ct_an nc g a b).2.1 (ct_an nc g a b).2.2 (ct_nt a) d9).1).2.1 := gb_cap_mono bd3.2.2.1
  have cx3 : gb_cap (gb_cap n (ct_an (ct_an nc g a b).2.1 (ct_an nc g a b).2.2 (ct_nt a) d9).2.1) (ct_or (ct_an (ct_an nc g a b).2.1 (ct_an nc g a b).2.2 (ct_nt a) d9).2.1 (ct_an (ct_an nc g a b).2.1 (ct_an nc g a b).2.2 (ct_nt a) d9).2.2 (ct_an nc g a b).1 (ct_an (ct_an nc g a b).2.1 (ct_an nc g a b).2.2 (ct_nt a) d9).1).2.1 = gb_cap n (ct_or (ct_an (ct_an nc g a b).2.1 (ct_an nc g a b).2.2 (ct_nt a) d9).2.1 (ct_an (ct_an nc g a b).2.1 (ct_an nc g a b).2.2 (ct_nt a) d9).2.2 (ct_an nc g a b).1 (ct_an (ct_an nc g a b).2.1 (ct_an nc g a b).2.2 (ct_nt a) d9).1).2.1 := gb_cap_cap bd3.2.2.1 (by omega)
  have hcap : gb_cap n (ct_ie nc g a b d9).2.1 = gb_cap n (ct_or (ct_an (ct_an nc g a b).2.1 (ct_an nc g a b).2.2 (ct_nt a) d9).2.1 (ct_an (ct_an nc g a b).2.1 (ct_an nc g a b).2.2 (ct_nt a) d9).2.2 (ct_an nc g a b).1 (ct_an (ct_an nc g a b).2.1 (ct_an nc g a b).2.2 (ct_nt a) d9).1).2.1 := rfl
  refine lv_aload_n hx hb dX0_ifOf_0 rfl (lv_at hl 0 rfl) ?_
  refine lv_aload_n hx hb dX0_ifOf_1 rfl (lv_at hl 0 rfl) ?_
  refine lv_iload_n hx hb dX0_ifOf_2 rfl (lv_at hl 1 rfl) ?_
  refine lv_iload_n hx hb dX0_ifOf_3 rfl (lv_at hl 2 rfl) ?_
  have hFc := va_free (wc := (gW h0 cI n ad ar iv)) hD hS hA [0, 1, 2, 3, 4, 5, 6, 7, 8] rfl
  refine va_calli (va_runV (As := [.int x, .int y]) (rest := [.ref h0]) ⟨hx, hb, hml, hown, hts⟩ (c_andOf l D h0 cI n ad ar iv s.heap.size x y a b nc ic g bv hx0 hy0 ha2 hb2 hok (by omega)) (cwV 2 hts gX0_ifOf_X0_andOf rfl rfl rfl (by decide +kernel) ⟨Nat.le_of_ble_eq_true rfl, Nat.le_of_ble_eq_true rfl⟩) (mP_V hK hP hD (va_recv hK hP (ci := 0) (q0 := 0) rfl rfl)) rfl rfl hl.1 rfl (lv_room (Nat.le_of_ble_eq_true rfl)) dX0_ifOf_4 ⟨by show _ + _ ≤ gb_cap n (ct_ie nc g a b d9).2.1 - n; omega, by show _ + _ ≤ 16 * (gb_cap n (ct_ie nc g a b d9).2.1 - n); omega⟩) hS (fun q _ h => hFc q h) hFc (fun r4 u t H1 locs ht hvm e4 hB hz1 hk1 hS => ?_)
  obtain ⟨n4, ad4, ar4, iv4⟩ := u
  obtain ⟨hP1, hK1, hD1⟩ := hB
  rw [ht] at hP1
  have hK := va_K.moved hvm.symm hK1
  have hP : va_P D vwCl (gW h0 cI n4 ad4 ar4 iv4) H1 := hP1
  have hD : va_D A (gW h0 cI n4 ad4 ar4 iv4) := hD1.weaken (fun k q _ h => hFc q.1 h)
  clear hP1 hK1 hD1 hk1 hz1 hFc ht
  generalize H1 = H at hP hS ⊢
  try dsimp only at e4
  have en1 : n4 = gb_cap n (ct_an nc g a b).2.1 := e4.2.1
  refine lv_aload_n hx hb dX0_ifOf_7 rfl (lv_at hl 0 rfl) ?_
  refine lv_iload_n hx hb dX0_ifOf_8 rfl (lv_at hl 1 rfl) ?_
  refine vp_callSi (W.runS (As := [.int x]) (rest := [.ref h0, .int r4, .ref h0]) ⟨hx, hb, hml, hown, hts⟩ (c_not l x) (va_cwS 1 hts gX0_ifOf_X0_not rfl rfl rfl (by decide +kernel) ⟨Nat.le_of_ble_eq_true rfl, Nat.le_of_ble_eq_true rfl⟩) preEq rfl rfl hl.1 rfl (lv_room (Nat.le_of_ble_eq_true rfl)) dX0_ifOf_9 ⟨by show _ + _ ≤ gb_cap n (ct_ie nc g a b d9).2.1 - n; omega, by show _ + _ ≤ 16 * (gb_cap n (ct_ie nc g a b d9).2.1 - n); omega⟩) (fun r9 e9 => ?_)
  refine lv_iload_n hx hb dX0_ifOf_12 rfl (lv_at hl 3 rfl) ?_
  have cy2 : gb_cap n4 (ct_an (ct_an nc g a b).2.1 (ct_an nc g a b).2.2 (ct_nt a) d9).2.1 = gb_cap n (ct_an (ct_an nc g a b).2.1 (ct_an nc g a b).2.2 (ct_nt a) d9).2.1 := by rw [en1]; exact cx2
  have hFc := va_free (wc := (gW h0 cI n4 ad4 ar4 iv4)) hD hS hA [0, 1, 2, 3, 4, 5, 6, 7, 8] rfl
  refine va_calli (va_runV (As := [.int r9, .int z]) (rest := [.int r4, .ref h0]) ⟨hx, hb, hml, hown, hts⟩ (c_andOf l D h0 cI n4 ad4 ar4 iv4 H.size r9 z (ct_nt a) d9 (ct_an nc g a b).2.1 ic (ct_an nc g a b).2.2 bv (by rw [e9, hx0]; exact ct_nIxor a) hz0 (ct_nt_lt (by omega)) (by omega) e4.2.2 (by omega)) (cwV 2 hts gX0_ifOf_X0_andOf rfl rfl rfl (by decide +kernel) ⟨Nat.le_of_ble_eq_true rfl, Nat.le_of_ble_eq_true rfl⟩) (mP_V hK hP hD (va_recv hK hP (ci := 0) (q0 := 0) rfl rfl)) rfl rfl hl.1 rfl (lv_room (Nat.le_of_ble_eq_true rfl)) dX0_ifOf_13 ⟨by show _ + _ ≤ gb_cap n (ct_ie nc g a b d9).2.1 - n; omega, by show _ + _ ≤ 16 * (gb_cap n (ct_ie nc g a b d9).2.1 - n); omega⟩) hS (fun q _ h => hFc q h) hFc (fun r13 u t H1 locs ht hvm e13 hB hz1 hk1 hS => ?_)
  obtain ⟨n13, ad13, ar13, iv13⟩ := u
  obtain ⟨hP1, hK1, hD1⟩ := hB
  rw [ht] at hP1
  have hK := va_K.moved hvm.symm hK1
  have hP : va_P D vwCl (gW h0 cI n13 ad13 ar13 iv13) H1 := hP1
  have hD : va_D A (gW h0 cI n13 ad13 ar13 iv13) := hD1.weaken (fun k q _ h => hFc q.1 h)
  clear hP1 hK1 hD1 hk1 hz1 hFc ht
  generalize H1 = H at hP hS ⊢
  try dsimp only at e13
  have en2 : n13 = gb_cap n (ct_an (ct_an nc g a b).2.1 (ct_an nc g a b).2.2 (ct_nt a) d9).2.1 := e13.2.1.trans cy2
  have cy3 : gb_cap n13 (ct_or (ct_an (ct_an nc g a b).2.1 (ct_an nc g a b).2.2 (ct_nt a) d9).2.1 (ct_an (ct_an nc g a b).2.1 (ct_an nc g a b).2.2 (ct_nt a) d9).2.2 (ct_an nc g a b).1 (ct_an (ct_an nc g a b).2.1 (ct_an nc g a b).2.2 (ct_nt a) d9).1).2.1 = gb_cap n (ct_or (ct_an (ct_an nc g a b).2.1 (ct_an nc g a b).2.2 (ct_nt a) d9).2.1 (ct_an (ct_an nc g a b).2.1 (ct_an nc g a b).2.2 (ct_nt a) d9).2.2 (ct_an nc g a b).1 (ct_an (ct_an nc g a b).2.1 (ct_an nc g a b).2.2 (ct_nt a) d9).1).2.1 := by rw [en2]; exact cx3
  have hFc := va_free (wc := (gW h0 cI n13 ad13 ar13 iv13)) hD hS hA [0, 1, 2, 3, 4, 5, 6, 7, 8] rfl
  refine va_calli (va_runV (As := [.int r4, .int r13]) (rest := []) ⟨hx, hb, hml, hown, hts⟩ (c_orOf l D h0 cI n13 ad13 ar13 iv13 H.size r4 r13 (ct_an nc g a b).1 (ct_an (ct_an nc g a b).2.1 (ct_an nc g a b).2.2 (ct_nt a) d9).1 (ct_an (ct_an nc g a b).2.1 (ct_an nc g a b).2.2 (ct_nt a) d9).2.1 ic (ct_an (ct_an nc g a b).2.1 (ct_an nc g a b).2.2 (ct_nt a) d9).2.2 bv e4.1 e13.1 (by omega) (by omega) e13.2.2 (by omega)) (cwV 2 hts gX0_ifOf_X0_orOf rfl rfl rfl (by decide +kernel) ⟨Nat.le_of_ble_eq_true rfl, Nat.le_of_ble_eq_true rfl⟩) (mP_V hK hP hD (va_recv hK hP (ci := 0) (q0 := 0) rfl rfl)) rfl rfl hl.1 rfl (lv_room (Nat.le_of_ble_eq_true rfl)) dX0_ifOf_16 ⟨by show _ + _ ≤ gb_cap n (ct_ie nc g a b d9).2.1 - n; omega, by show _ + _ ≤ 16 * (gb_cap n (ct_ie nc g a b d9).2.1 - n); omega⟩) hS (fun q _ h => hFc q h) hFc (fun r16 u t H1 locs ht hvm e16 hB hz1 hk1 hS => ?_)
  obtain ⟨n16, ad16, ar16, iv16⟩ := u
  obtain ⟨hP1, hK1, hD1⟩ := hB
  rw [ht] at hP1
  have hK := va_K.moved hvm.symm hK1
  have hP : va_P D vwCl (gW h0 cI n16 ad16 ar16 iv16) H1 := hP1
  have hD : va_D A (gW h0 cI n16 ad16 ar16 iv16) := hD1.weaken (fun k q _ h => hFc q.1 h)
  clear hP1 hK1 hD1 hk1 hz1 hFc ht
  generalize H1 = H at hP hS ⊢
  try dsimp only at e16
  have en3 : n16 = gb_cap n (ct_or (ct_an (ct_an nc g a b).2.1 (ct_an nc g a b).2.2 (ct_nt a) d9).2.1 (ct_an (ct_an nc g a b).2.1 (ct_an nc g a b).2.2 (ct_nt a) d9).2.2 (ct_an nc g a b).1 (ct_an (ct_an nc g a b).2.1 (ct_an nc g a b).2.2 (ct_nt a) d9).1).2.1 := e16.2.1.trans cy3
  refine W.widen (k := gb_cap n (ct_ie nc g a b d9).2.1 - n) (n := 16 * (gb_cap n (ct_ie nc g a b d9).2.1 - n)) (by omega) (by omega) ?_
  exact W.iret (v := r16) hx hb hr (fun t ht hW => ⟨⟨r16, (n16, ad16, ar16, iv16), rfl, ⟨e16.1, by rw [hcap]; exact en3, e16.2.2⟩, by rw [ht]; exact hP, va_K.moved hW.alike hK, hD⟩, hS.F ht⟩) hS.2.2 dX0_ifOf_19
