-- ===== the bench: one object, eight rows of ints, three numbers =====
abbrev gb_fs (ad : Nat → Nat) (iv : Nat → Int32) : List Value := [.ref (ad 0), .ref (ad 1), .ref (ad 2), .ref (ad 3), .ref (ad 4), .ref (ad 5), .ref (ad 6), .ref (ad 7), .int (iv 0), .int (iv 1), .int (iv 2)]
/-- the cells, each row with a length of its own -/
abbrev gWm (h0 : Nat) (cI : ClassId) (nn : Nat → Nat) (ad : Nat → Nat) (ar : Nat → Nat → Int32) (iv : Nat → Int32) : va_W := [(h0, .inr (0, gb_fs ad iv)), (ad 0, .inl (cI, nn 0, .inl (ar 0))), (ad 1, .inl (cI, nn 1, .inl (ar 1))), (ad 2, .inl (cI, nn 2, .inl (ar 2))), (ad 3, .inl (cI, nn 3, .inl (ar 3))), (ad 4, .inl (cI, nn 4, .inl (ar 4))), (ad 5, .inl (cI, nn 5, .inl (ar 5))), (ad 6, .inl (cI, nn 6, .inl (ar 6))), (ad 7, .inl (cI, nn 7, .inl (ar 7)))]
abbrev gW (h0 : Nat) (cI : ClassId) (n : Nat) (ad : Nat → Nat) (ar : Nat → Nat → Int32) (iv : Nat → Int32) : va_W := gWm h0 cI (fun _ => n) ad ar iv
/-- length, addresses, rows, numbers -/
abbrev GS : Type := Nat × (Nat → Nat) × (Nat → Nat → Int32) × (Nat → Int32)
abbrev gb_at (D : va_G) (cI : ClassId) (A : Nat → Prop) (h0 : Nat) (u : GS) (t : State) : Prop := va_P D vwCl (gW h0 cI u.1 u.2.1 u.2.2.1 u.2.2.2) t.heap ∧ va_K D vwCl [(cI, .int)] t ∧ va_D A (gW h0 cI u.1 u.2.1 u.2.2.1 u.2.2.2)
-- ===== starts of contracts =====
/-- of a method that only reads -/
def rP (D : va_G) (ws : va_W) (tys : List (ClassId × FieldType)) (av : List Value) : Array Value → State → Prop := va_Pc av (fun U => va_P D vwCl ws U.heap ∧ va_K D vwCl tys U)
theorem rP_blind {D : va_G} {ws : va_W} {tys : List (ClassId × FieldType)} {av : List Value} : FrameBlind (rP D ws tys av) := fun a U g mk q => by
  obtain ⟨q1, q2, q3⟩ := q
  exact ⟨q1, q2, va_K.moved (u := U) (U := U.calling g mk a) (Vm.Alike.refl U.vm) q3⟩
theorem rP_V {D : va_G} {ws : va_W} {tys : List (ClassId × FieldType)} {s : State} {H : Heap} {C : String} {b : Nat} {As : List Value} (hK : va_K D vwCl tys s) (hP : va_P D vwCl ws H) (hr : ∃ cell : Cell, H[b]? = some cell ∧ cell.vm.isStatics = false ∧ s.vm.findClass C = some cell.cls) : PreV s H C b (rP D ws tys (.ref b :: As)) As :=
  ⟨rP_blind, hr, fun U hU hW => ⟨rfl, by rw [hU]; exact hP, va_K.moved hW.alike hK⟩⟩
theorem rP_S {D : va_G} {ws : va_W} {tys : List (ClassId × FieldType)} {s : State} {H : Heap} {As : List Value} (hK : va_K D vwCl tys s) (hP : va_P D vwCl ws H) : PreS s H (rP D ws tys As) As :=
  ⟨rP_blind, fun U hU hW => ⟨rfl, by rw [hU]; exact hP, va_K.moved hW.alike hK⟩⟩
/-- of a method that writes -/
def mP (D : va_G) (ws : va_W) (tys : List (ClassId × FieldType)) (sz : Nat) (av : List Value) : Array Value → State → Prop := va_Pc av (fun U => U.heap.size = sz ∧ va_P D vwCl ws U.heap ∧ va_K D vwCl tys U ∧ va_D (fun _ => True) ws)
theorem mP_blind {D : va_G} {ws : va_W} {tys : List (ClassId × FieldType)} {sz : Nat} {av : List Value} : FrameBlind (mP D ws tys sz av) := fun a U g mk q => by
  obtain ⟨q1, q2, q3, q4, q5⟩ := q
  exact ⟨q1, q2, q3, va_K.moved (u := U) (U := U.calling g mk a) (Vm.Alike.refl U.vm) q4, q5⟩
theorem mP_V {D : va_G} {ws : va_W} {tys : List (ClassId × FieldType)} {s : State} {H : Heap} {A : Nat → Prop} {C : String} {b : Nat} {As : List Value} (hK : va_K D vwCl tys s) (hP : va_P D vwCl ws H) (hD : va_D A ws) (hr : ∃ cell : Cell, H[b]? = some cell ∧ cell.vm.isStatics = false ∧ s.vm.findClass C = some cell.cls) : PreV s H C b (mP D ws tys H.size (.ref b :: As)) As :=
  ⟨mP_blind, hr, fun U hU hW => ⟨rfl, by rw [hU], by rw [hU]; exact hP, va_K.moved hW.alike hK, hD.weaken (fun _ _ _ _ => trivial)⟩⟩
theorem mP_S {D : va_G} {ws : va_W} {tys : List (ClassId × FieldType)} {s : State} {H : Heap} {A : Nat → Prop} {As : List Value} (hK : va_K D vwCl tys s) (hP : va_P D vwCl ws H) (hD : va_D A ws) : PreS s H (mP D ws tys H.size As) As :=
  ⟨mP_blind, fun U hU hW => ⟨rfl, by rw [hU], by rw [hU]; exact hP, va_K.moved hW.alike hK, hD.weaken (fun _ _ _ _ => trivial)⟩⟩
/-- the class of arrays of ints is one -/
theorem gb_cI {D : va_G} {cl : List vw_C} {t1 : List (ClassId × FieldType)} {s : State} {c1 c2 : ClassId} (hK : va_K D cl t1 s) {i j : Nat} (h1 : t1[i]? = some (c1, .int)) (h2 : t1[j]? = some (c2, .int)) : c1 = c2 := by
  have a1 : s.vm.findClass ("[" ++ FieldType.int.toString) = some c1 := (hK.2 i _ h1).2
  have a2 : s.vm.findClass ("[" ++ FieldType.int.toString) = some c2 := (hK.2 j _ h2).2
  rw [a1] at a2
  exact Option.some.inj a2
theorem gb_k {k : Nat} (h : k < 2 ^ 31) {n : Nat} (hn : k < n) (hs : n ≤ 65536) : vp_in (nI k) n := vp_in_nI hn (by omega)
