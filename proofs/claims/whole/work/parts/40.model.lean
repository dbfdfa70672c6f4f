-- ===== the reference: one object, five rows of 20000, three numbers (code, count, inputs) =====
abbrev mW (h1 : Nat) (cI cB cZ : ClassId) (ad : Nat → Nat) (ar : Nat → Nat → Int32) (iv : Nat → Int32) : va_W := [(h1, .inr (1, [.ref (ad 0), .ref (ad 1), .ref (ad 2), .ref (ad 3), .ref (ad 4), .int (iv 0), .int (iv 1), .int (iv 2)])), (ad 0, .inl (cB, 20000, .inl (ar 0))), (ad 1, .inl (cI, 20000, .inl (ar 1))), (ad 2, .inl (cI, 20000, .inl (ar 2))), (ad 3, .inl (cZ, 20000, .inl (ar 3))), (ad 4, .inl (cI, 20000, .inl (ar 4)))]
abbrev MS : Type := (Nat → Nat → Int32) × (Nat → Int32)
abbrev mm_at (D : va_G) (cI cB cZ : ClassId) (ad : Nat → Nat) (A : Nat → Prop) (h1 : Nat) (u : MS) (t : State) : Prop := va_P D vwCl (mW h1 cI cB cZ ad u.1 u.2) t.heap ∧ va_K D vwCl [(cI, .int), (cB, .byte), (cZ, .boolean)] t ∧ va_D A (mW h1 cI cB cZ ad u.1 u.2)
-- ===== what its questions answer, in the machine's numbers =====
def mi_lit (iv : Nat → Int32) (x : Int32) : Int32 := if x < 0 then 0 else if 2 * iv 1 ≤ x then 0 else 1
def mi_inp (ar : Nat → Nat → Int32) (iv : Nat → Int32) (x : Int32) : Int32 := if x < 0 then 0 else if iv 1 ≤ x then 0 else if ar 0 x.toNatClampNeg = 1 then 1 else 0
def mi_gate (ar : Nat → Nat → Int32) (x y : Int32) : Int32 := if ar 0 (gb_sh x).toNatClampNeg = 2 then (if gb_neg x = y then 1 else 0) else 0
def mi_has (ar : Nat → Nat → Int32) (x y : Int32) : Int32 := if ar 1 (gb_sh x).toNatClampNeg = y ∨ ar 2 (gb_sh x).toNatClampNeg = y then 1 else 0
def mi_bes (ar : Nat → Nat → Int32) (x y : Int32) : Int32 := if ar 1 (gb_sh x).toNatClampNeg = y then ar 2 (gb_sh x).toNatClampNeg else ar 1 (gb_sh x).toNatClampNeg
def mi_is (ar : Nat → Nat → Int32) (x : Int32) : Int32 := if ar 3 (gb_sh x).toNatClampNeg = gb_neg x then 0 else 1
def mi_rule (ar : Nat → Nat → Int32) (k : Nat) (a b : Int32) : Int32 := match k with
  | 0 => if a = 0 then 0 else -1
  | 1 => if a = 1 then b else -1
  | 2 => if a = b then a else -1
  | 3 => if a = b ^^^ 1 then 0 else -1
  | 4 => if ¬ mi_gate ar a 0 = 0 ∧ ¬ mi_has ar a b = 0 then a else -1
  | 5 => if ¬ mi_gate ar a 0 = 0 ∧ ¬ mi_has ar a (b ^^^ 1) = 0 then 0 else -1
  | 6 => if ¬ mi_gate ar a 1 = 0 ∧ ¬ mi_has ar a (b ^^^ 1) = 0 then b else -1
  | _ => if ¬ mi_gate ar a 0 = 0 ∧ ¬ mi_gate ar b 0 = 0 ∧ (¬ mi_has ar a (ar 1 (gb_sh b).toNatClampNeg ^^^ 1) = 0 ∨ ¬ mi_has ar a (ar 2 (gb_sh b).toNatClampNeg ^^^ 1) = 0) then 0 else -1
def mi_add (ar : Nat → Nat → Int32) (nc : Nat) (k a b : Int32) : Nat → Nat → Int32 := va_up (va_up (va_up (va_up ar 0 (upd (ar 0) nc k)) 1 (upd (ar 1) nc a)) 2 (upd (ar 2) nc b)) 3 (upd (ar 3) nc (vp_nar .boolean 0))
theorem mi_in {iv : Nat → Int32} {nc : Nat} {x : Int32} (hnc : iv 1 = nI nc) (hmx : nc ≤ 20000) (h1 : ¬ x < 0) (h2 : ¬ iv 1 ≤ x) : vp_in x 20000 := by
  obtain ⟨j, hj, rfl⟩ := nI_of h1
  rw [hnc] at h2
  have : j < nc := Nat.not_le.mp fun z => h2 (nI_le z hj)
  exact vp_in_nI (by omega) (by omega)
