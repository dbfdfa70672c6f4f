-- ===== throwing IllegalArgumentException =====
abbrev IAE : String := "java/lang/IllegalArgumentException"
abbrev iae_names : List String := ["java/lang/RuntimeException", "java/lang/Exception"]
theorem iae_good : ∀ w ∈ (vx_atS RX0 65 IAE iae_names).filter goodWord, w ∈ wsG := by decide +kernel
abbrev iae_d (c : String) : Cond := .declares ⟨c, "<init>", "(Ljava/lang/String;)V"⟩
theorem iae_rest : ∀ w ∈ (vx_atS RX0 65 IAE iae_names).filter (fun w => !goodWord w), w ∈ [Cond.castable IAE IAE, iae_d "java/lang/RuntimeException", iae_d "java/lang/Exception", iae_d "java/lang/Throwable"] := by decide +kernel
theorem iae_dw {x : MethodName} {s U : State} (hW : s.WarmedH U.vm) (hZ : va_Nw (.declares x) s) : va_Nw (.declares x) U := va_tabs rfl (rfl : (s.setVm U.vm).vm = U.vm) (by rw [Cond.declares_setVm hW.alike]; exact hZ)
/-- the words of a throw that don't ride with a method's own -/
def gt_w (U : State) : Prop := va_Nw (.castable IAE IAE) U ∧ va_Nw (iae_d "java/lang/RuntimeException") U ∧ va_Nw (iae_d "java/lang/Exception") U ∧ va_Nw (iae_d "java/lang/Throwable") U
theorem iae_ot : ∀ w ∈ Cond.classLink RX0 61 IAE :: Cond.initialized IAE :: vx_atS RX0 65 IAE iae_names, vx_ot w = true := by decide +kernel
abbrev gt_str : List (Nat × String) := [(63, "no such kind of two literals"), (72, "no such kind of three literals"), (95, "no such thing of a node"), (104, "no such node"), (106, "the node is no input"), (108, "no such literal")]
/-- what a throw rests on, apart from the words -/
def gT (A : Nat → Prop) (U : State) (H : Heap) : Prop := vx_Zq Bundle.tN "UNASSIGNED_STACK" Bundle.steD A U H ∧ vx_Zq Bundle.tN "SUPPRESSED_SENTINEL" Bundle.listD A U H ∧ gt_w U ∧ ∃ sa : Nat → Nat, ∀ q ∈ gt_str, vk_R RX0 q.1 q.2 (sa q.1) U
theorem gT.go {A B : Nat → Prop} {s U : State} {H : Heap} {locs : List Loc} (h : gT A s s.heap) (hS : va_S A s.heap H locs) (hU : U.heap = H) (hW : s.WarmedH U.vm) (hAB : ∀ q, B q → A q) : gT B U U.heap := by
  obtain ⟨h1, h2, h3, sa, h4⟩ := h
  rw [hU]
  exact ⟨((h1.kept hS.2.1).moved hW.alike).narrow hAB, ((h2.kept hS.2.1).moved hW.alike).narrow hAB, ⟨va_Nw.warmC hW h3.1, iae_dw hW h3.2.1, iae_dw hW h3.2.2.1, iae_dw hW h3.2.2.2⟩, sa, fun q hq => (h4 q hq).warm hW⟩
theorem gT.call {A : Nat → Prop} {U : State} {g : JFrame} {mk : MethodId} {a : Array Value} (h : gT A U U.heap) : gT A (U.calling g mk a) (U.calling g mk a).heap := by
  obtain ⟨h1, h2, h3, sa, h4⟩ := h
  exact ⟨vx_Zq.moved (u := U) (U := U.calling g mk a) (Vm.Alike.refl U.vm) h1, vx_Zq.moved (u := U) (U := U.calling g mk a) (Vm.Alike.refl U.vm) h2, ⟨va_Nw.same (u := U) (U := U.calling g mk a) rfl rfl h3.1, va_Nw.same (u := U) (U := U.calling g mk a) rfl rfl h3.2.1, va_Nw.same (u := U) (U := U.calling g mk a) rfl rfl h3.2.2.1, va_Nw.same (u := U) (U := U.calling g mk a) rfl rfl h3.2.2.2⟩, sa, fun q hq => vk_R.same (u := U) (U := U.calling g mk a) rfl (h4 q hq)⟩
/-- the words of a throw, at a method's start -/
theorem gT.hat {A : Nat → Prop} {s : State} {H : Heap} {args : Array Value} {w0 : Cond} (h : gT A s H) (hts : ∀ w ∈ w0 :: wsG, w.before args s = true) : ∀ w ∈ vx_atS RX0 65 IAE iae_names, w.before args s = true :=
  vx_hat (fun w hw => hts _ (mG (iae_good w hw))) iae_rest (vx_c (va_Nw.use rfl h.2.2.1.1) (vx_c (va_Nw.use rfl h.2.2.1.2.1) (vx_c (va_Nw.use rfl h.2.2.1.2.2.1) (vx_c (va_Nw.use rfl h.2.2.1.2.2.2) vx_n))))
/-- the start of a method that may throw -/
def tP (D : va_G) (ws : va_W) (tys : List (ClassId × FieldType)) (sz : Nat) (av : List Value) : Array Value → State → Prop := va_Pc av (fun U => U.heap.size = sz ∧ va_P D vwCl ws U.heap ∧ va_K D vwCl tys U ∧ va_D (fun _ => True) ws ∧ gT (va_A ws sz) U U.heap)
theorem tP_blind {D : va_G} {ws : va_W} {tys : List (ClassId × FieldType)} {sz : Nat} {av : List Value} : FrameBlind (tP D ws tys sz av) := fun a U g mk q => by
  obtain ⟨q1, q2, q3, q4, q5, q6⟩ := q
  exact ⟨q1, q2, q3, va_K.moved (u := U) (U := U.calling g mk a) (Vm.Alike.refl U.vm) q4, q5, gT.call q6⟩
theorem tP_V {D : va_G} {ws : va_W} {tys : List (ClassId × FieldType)} {s : State} {H : Heap} {locs : List Loc} {A A2 : Nat → Prop} {C : String} {b : Nat} {As : List Value} (hK : va_K D vwCl tys s) (hP : va_P D vwCl ws H) (hD : va_D A2 ws) (hr : ∃ cell : Cell, H[b]? = some cell ∧ cell.vm.isStatics = false ∧ s.vm.findClass C = some cell.cls) (hT : gT A s s.heap) (hS : va_S A s.heap H locs) (hF : ∀ q, va_A ws H.size q → A q) : PreV s H C b (tP D ws tys H.size (.ref b :: As)) As :=
  ⟨tP_blind, hr, fun U hU hW => ⟨rfl, by rw [hU], by rw [hU]; exact hP, va_K.moved hW.alike hK, hD.weaken (fun _ _ _ _ => trivial), hT.go hS hU hW hF⟩⟩
theorem gb_F {A : Nat → Prop} {s t : State} {H : Heap} {locs : List Loc} (hS : va_S A s.heap H locs) (h1 : H.size ≤ t.heap.size) (h2 : ∀ q : Nat, q < H.size → t.heap[q]? = H[q]?) : va_F A s t :=
  ⟨Nat.le_trans hS.1 h1, fun q a b => (h2 q (Nat.lt_of_lt_of_le a hS.1)).trans (hS.2.1 q a b)⟩
theorem gb_kept {D : va_G} {cl : List vw_C} {ws : va_W} {H : Heap} {t : State} (hP : va_P D cl ws H) (h2 : ∀ q : Nat, q < H.size → t.heap[q]? = H[q]?) : va_P D cl ws t.heap := hP.kept (fun _ q hk => h2 q.1 (vx_lt hP hk))
/-- where a method of the bench throws: the argument was bad, the bench is as it was -/
abbrev gb_xc (D : va_G) (cI : ClassId) (A : Nat → Prop) (h0 : Nat) (S0 : GS) (bad : Prop) : String → State → State → Prop := vx_X (fun u : GS => bad ∧ u = S0) (fun E u t => E = IAE ∧ gb_at D cI A h0 u t) A
-- ===== what a literal, a node is =====
def ct_lit (nc : Nat) (x : Int32) : Prop := ∃ a : Nat, a < 2 * nc ∧ x = nI a
def ct_nod (nc : Nat) (x : Int32) : Prop := ¬ x < 0 ∧ x < nI nc
theorem ct_lit_neg {nc : Nat} {x : Int32} (h : x < 0) (hn : nc < 2 ^ 30) : ¬ ct_lit nc x := by
  rintro ⟨a, ha, rfl⟩
  exact nI_pos (by omega) h
theorem ct_lit_big {nc : Nat} {x : Int32} (hn : nc < 2 ^ 30) (h : ¬ x >>> ((1 : Int32) &&& 31) < nI nc) : ¬ ct_lit nc x := by
  rintro ⟨a, ha, rfl⟩
  rw [ct_shr (by omega)] at h
  exact h (nI_lt (by omega) (by omega))
theorem ct_lit_ok {nc : Nat} {x : Int32} (hn : nc < 2 ^ 30) (h1 : ¬ x < 0) (h : x >>> ((1 : Int32) &&& 31) < nI nc) : ct_lit nc x := by
  obtain ⟨j, hj, rfl⟩ := nI_of h1
  rw [ct_shr (by omega)] at h
  have := (nI_ltI (by omega) (by omega)).mp h
  exact ⟨j, by omega, rfl⟩
theorem ct_nod_of {nc : Nat} {x : Int32} (h : ct_nod nc x) (hn : nc < 2 ^ 30) : ∃ a : Nat, a < nc ∧ x = nI a := by
  obtain ⟨j, hj, rfl⟩ := nI_of h.1
  exact ⟨j, (nI_ltI (by omega) (by omega)).mp h.2, rfl⟩
theorem ct_nod_in {nc n : Nat} {x : Int32} (h : ct_nod nc x) (hn : nc < 2 ^ 30) (hle : nc ≤ n) (hb : n ≤ 65536) : vp_in x n := by
  obtain ⟨a, ha, rfl⟩ := ct_nod_of h hn
  exact vp_in_nI (by omega) (by omega)
theorem ct_lit_n {nc : Nat} {x : Int32} (h : ct_lit nc x) (hn : nc < 2 ^ 30) : x = nI x.toNatClampNeg ∧ x.toNatClampNeg < 2 * nc := by
  obtain ⟨a, ha, rfl⟩ := h
  rw [nI_clamp (by omega)]
  exact ⟨rfl, ha⟩
def ct_jn (nc : Nat) (g : Ct) (k : Int32) (a b : Nat) : Nat × Nat × Ct := if k = 0 then ct_or nc g a b else ct_xo nc g a b
def ct_th (nc : Nat) (g : Ct) (k : Int32) (a b c : Nat) : Nat × Nat × Ct := if k = 0 then ct_ie nc g a b c else if k = 1 then ct_ad nc g a b c else ct_ca nc g a b c
