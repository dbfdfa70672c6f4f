section
-- ===== PART A: goes FIRST, ahead of the names: the tables' words, and 'selects' of the private methods out of them =====
/-- a private method of a class that the tables say can be made, by its rows of tables_1 -/
def lw_okq (q : MethodName × Nat) : Prop := (q.1.cls ≠ "java/lang/invoke/MethodHandle" ∧ q.1.cls ≠ "java/lang/invoke/VarHandle") ∧ Cond.instantiable q.1.cls q.2 ∈ tables_1 ∧ Cond.privateMethod q.1 ∈ tables_1 ∧ Cond.instanceMethod q.1 ∈ tables_1
theorem lw_p0 : lw_okq (⟨"GateBench", "newNode", "(II)I"⟩, 11) := ⟨⟨by decide +kernel, by decide +kernel⟩, List.mem_of_getElem? (i := 12) (by decide +kernel), List.mem_of_getElem? (i := 71) (by decide +kernel), List.mem_of_getElem? (i := 72) (by decide +kernel)⟩
theorem lw_p1 : lw_okq (⟨"java/lang/Throwable", "fillInStackTrace", "(I)Ljava/lang/Throwable;"⟩, 6) := ⟨⟨by decide +kernel, by decide +kernel⟩, List.mem_of_getElem? (i := 112) (by decide +kernel), List.mem_of_getElem? (i := 110) (by decide +kernel), List.mem_of_getElem? (i := 111) (by decide +kernel)⟩
theorem lw_p2 : lw_okq (⟨"GateBench", "growRows", "()V"⟩, 11) := ⟨⟨by decide +kernel, by decide +kernel⟩, List.mem_of_getElem? (i := 12) (by decide +kernel), List.mem_of_getElem? (i := 142) (by decide +kernel), List.mem_of_getElem? (i := 143) (by decide +kernel)⟩
theorem lw_p3 : lw_okq (⟨"GateBench", "needLiteral", "(I)V"⟩, 11) := ⟨⟨by decide +kernel, by decide +kernel⟩, List.mem_of_getElem? (i := 12) (by decide +kernel), List.mem_of_getElem? (i := 170) (by decide +kernel), List.mem_of_getElem? (i := 171) (by decide +kernel)⟩
theorem lw_p4 : lw_okq (⟨"GateBench", "andOf", "(II)I"⟩, 11) := ⟨⟨by decide +kernel, by decide +kernel⟩, List.mem_of_getElem? (i := 12) (by decide +kernel), List.mem_of_getElem? (i := 190) (by decide +kernel), List.mem_of_getElem? (i := 191) (by decide +kernel)⟩
theorem lw_p5 : lw_okq (⟨"GateBench", "knownAnd", "(II)I"⟩, 11) := ⟨⟨by decide +kernel, by decide +kernel⟩, List.mem_of_getElem? (i := 12) (by decide +kernel), List.mem_of_getElem? (i := 198) (by decide +kernel), List.mem_of_getElem? (i := 199) (by decide +kernel)⟩
theorem lw_p6 : lw_okq (⟨"GateBench", "isGate", "(I)Z"⟩, 11) := ⟨⟨by decide +kernel, by decide +kernel⟩, List.mem_of_getElem? (i := 12) (by decide +kernel), List.mem_of_getElem? (i := 205) (by decide +kernel), List.mem_of_getElem? (i := 206) (by decide +kernel)⟩
theorem lw_p7 : lw_okq (⟨"GateBench", "hasLiteral", "(II)Z"⟩, 11) := ⟨⟨by decide +kernel, by decide +kernel⟩, List.mem_of_getElem? (i := 12) (by decide +kernel), List.mem_of_getElem? (i := 212) (by decide +kernel), List.mem_of_getElem? (i := 213) (by decide +kernel)⟩
theorem lw_p8 : lw_okq (⟨"GateBench", "isGateAgainst", "(II)Z"⟩, 11) := ⟨⟨by decide +kernel, by decide +kernel⟩, List.mem_of_getElem? (i := 12) (by decide +kernel), List.mem_of_getElem? (i := 216) (by decide +kernel), List.mem_of_getElem? (i := 217) (by decide +kernel)⟩
theorem lw_p9 : lw_okq (⟨"GateBench", "restOf", "(II)I"⟩, 11) := ⟨⟨by decide +kernel, by decide +kernel⟩, List.mem_of_getElem? (i := 12) (by decide +kernel), List.mem_of_getElem? (i := 220) (by decide +kernel), List.mem_of_getElem? (i := 221) (by decide +kernel)⟩
theorem lw_p10 : lw_okq (⟨"GateBench", "gateOf", "(II)I"⟩, 11) := ⟨⟨by decide +kernel, by decide +kernel⟩, List.mem_of_getElem? (i := 12) (by decide +kernel), List.mem_of_getElem? (i := 224) (by decide +kernel), List.mem_of_getElem? (i := 225) (by decide +kernel)⟩
theorem lw_p11 : lw_okq (⟨"GateBench", "enterGate", "(III)V"⟩, 11) := ⟨⟨by decide +kernel, by decide +kernel⟩, List.mem_of_getElem? (i := 12) (by decide +kernel), List.mem_of_getElem? (i := 228) (by decide +kernel), List.mem_of_getElem? (i := 229) (by decide +kernel)⟩
theorem lw_p12 : lw_okq (⟨"GateBench", "orOf", "(II)I"⟩, 11) := ⟨⟨by decide +kernel, by decide +kernel⟩, List.mem_of_getElem? (i := 12) (by decide +kernel), List.mem_of_getElem? (i := 239) (by decide +kernel), List.mem_of_getElem? (i := 240) (by decide +kernel)⟩
theorem lw_p13 : lw_okq (⟨"GateBench", "xorOf", "(II)I"⟩, 11) := ⟨⟨by decide +kernel, by decide +kernel⟩, List.mem_of_getElem? (i := 12) (by decide +kernel), List.mem_of_getElem? (i := 243) (by decide +kernel), List.mem_of_getElem? (i := 244) (by decide +kernel)⟩
theorem lw_p14 : lw_okq (⟨"GateBench", "ifOf", "(III)I"⟩, 11) := ⟨⟨by decide +kernel, by decide +kernel⟩, List.mem_of_getElem? (i := 12) (by decide +kernel), List.mem_of_getElem? (i := 255) (by decide +kernel), List.mem_of_getElem? (i := 256) (by decide +kernel)⟩
theorem lw_p15 : lw_okq (⟨"GateBench", "needInput", "(I)V"⟩, 11) := ⟨⟨by decide +kernel, by decide +kernel⟩, List.mem_of_getElem? (i := 12) (by decide +kernel), List.mem_of_getElem? (i := 267) (by decide +kernel), List.mem_of_getElem? (i := 268) (by decide +kernel)⟩
def lw_privs_1 : List (MethodName × Nat) := [(⟨"GateBench", "newNode", "(II)I"⟩, 11), (⟨"java/lang/Throwable", "fillInStackTrace", "(I)Ljava/lang/Throwable;"⟩, 6), (⟨"GateBench", "growRows", "()V"⟩, 11), (⟨"GateBench", "needLiteral", "(I)V"⟩, 11), (⟨"GateBench", "andOf", "(II)I"⟩, 11), (⟨"GateBench", "knownAnd", "(II)I"⟩, 11), (⟨"GateBench", "isGate", "(I)Z"⟩, 11), (⟨"GateBench", "hasLiteral", "(II)Z"⟩, 11), (⟨"GateBench", "isGateAgainst", "(II)Z"⟩, 11), (⟨"GateBench", "restOf", "(II)I"⟩, 11), (⟨"GateBench", "gateOf", "(II)I"⟩, 11), (⟨"GateBench", "enterGate", "(III)V"⟩, 11), (⟨"GateBench", "orOf", "(II)I"⟩, 11), (⟨"GateBench", "xorOf", "(II)I"⟩, 11), (⟨"GateBench", "ifOf", "(III)I"⟩, 11), (⟨"GateBench", "needInput", "(I)V"⟩, 11)]
theorem lw_r1 : ∀ q ∈ lw_privs_1, lw_okq q := List.forall_mem_cons.mpr ⟨lw_p0, List.forall_mem_cons.mpr ⟨lw_p1, List.forall_mem_cons.mpr ⟨lw_p2, List.forall_mem_cons.mpr ⟨lw_p3, List.forall_mem_cons.mpr ⟨lw_p4, List.forall_mem_cons.mpr ⟨lw_p5, List.forall_mem_cons.mpr ⟨lw_p6, List.forall_mem_cons.mpr ⟨lw_p7, List.forall_mem_cons.mpr ⟨lw_p8, List.forall_mem_cons.mpr ⟨lw_p9, List.forall_mem_cons.mpr ⟨lw_p10, List.forall_mem_cons.mpr ⟨lw_p11, List.forall_mem_cons.mpr ⟨lw_p12, List.forall_mem_cons.mpr ⟨lw_p13, List.forall_mem_cons.mpr ⟨lw_p14, List.forall_mem_cons.mpr ⟨lw_p15, fun _ h => absurd h List.not_mem_nil⟩⟩⟩⟩⟩⟩⟩⟩⟩⟩⟩⟩⟩⟩⟩⟩
theorem lw_p16 : lw_okq (⟨"GateBench", "needNode", "(I)V"⟩, 11) := ⟨⟨by decide +kernel, by decide +kernel⟩, List.mem_of_getElem? (i := 12) (by decide +kernel), List.mem_of_getElem? (i := 271) (by decide +kernel), List.mem_of_getElem? (i := 272) (by decide +kernel)⟩
theorem lw_p17 : lw_okq (⟨"GateBench", "kindOf", "(I)I"⟩, 11) := ⟨⟨by decide +kernel, by decide +kernel⟩, List.mem_of_getElem? (i := 12) (by decide +kernel), List.mem_of_getElem? (i := 276) (by decide +kernel), List.mem_of_getElem? (i := 277) (by decide +kernel)⟩
theorem lw_p18 : lw_okq (⟨"GateBench", "settle", "(I)V"⟩, 11) := ⟨⟨by decide +kernel, by decide +kernel⟩, List.mem_of_getElem? (i := 12) (by decide +kernel), List.mem_of_getElem? (i := 288) (by decide +kernel), List.mem_of_getElem? (i := 289) (by decide +kernel)⟩
theorem lw_p19 : lw_okq (⟨"GateBench", "valueNow", "(I)I"⟩, 11) := ⟨⟨by decide +kernel, by decide +kernel⟩, List.mem_of_getElem? (i := 12) (by decide +kernel), List.mem_of_getElem? (i := 292) (by decide +kernel), List.mem_of_getElem? (i := 293) (by decide +kernel)⟩
theorem lw_p20 : lw_okq (⟨"GateBench", "markUnder", "(I)V"⟩, 11) := ⟨⟨by decide +kernel, by decide +kernel⟩, List.mem_of_getElem? (i := 12) (by decide +kernel), List.mem_of_getElem? (i := 311) (by decide +kernel), List.mem_of_getElem? (i := 312) (by decide +kernel)⟩
theorem lw_p21 : lw_okq (⟨"GateBenchModel", "add", "(III)I"⟩, 8) := ⟨⟨by decide +kernel, by decide +kernel⟩, List.mem_of_getElem? (i := 329) (by decide +kernel), List.mem_of_getElem? (i := 369) (by decide +kernel), List.mem_of_getElem? (i := 370) (by decide +kernel)⟩
theorem lw_p22 : lw_okq (⟨"GateBenchModel", "isLiteral", "(I)Z"⟩, 8) := ⟨⟨by decide +kernel, by decide +kernel⟩, List.mem_of_getElem? (i := 329) (by decide +kernel), List.mem_of_getElem? (i := 377) (by decide +kernel), List.mem_of_getElem? (i := 378) (by decide +kernel)⟩
theorem lw_p23 : lw_okq (⟨"GateBenchModel", "make", "(II)I"⟩, 8) := ⟨⟨by decide +kernel, by decide +kernel⟩, List.mem_of_getElem? (i := 329) (by decide +kernel), List.mem_of_getElem? (i := 381) (by decide +kernel), List.mem_of_getElem? (i := 382) (by decide +kernel)⟩
theorem lw_p24 : lw_okq (⟨"GateBenchModel", "isGate", "(IZ)Z"⟩, 8) := ⟨⟨by decide +kernel, by decide +kernel⟩, List.mem_of_getElem? (i := 329) (by decide +kernel), List.mem_of_getElem? (i := 385) (by decide +kernel), List.mem_of_getElem? (i := 386) (by decide +kernel)⟩
theorem lw_p25 : lw_okq (⟨"GateBenchModel", "has", "(II)Z"⟩, 8) := ⟨⟨by decide +kernel, by decide +kernel⟩, List.mem_of_getElem? (i := 329) (by decide +kernel), List.mem_of_getElem? (i := 389) (by decide +kernel), List.mem_of_getElem? (i := 390) (by decide +kernel)⟩
theorem lw_p26 : lw_okq (⟨"GateBenchModel", "beside", "(II)I"⟩, 8) := ⟨⟨by decide +kernel, by decide +kernel⟩, List.mem_of_getElem? (i := 329) (by decide +kernel), List.mem_of_getElem? (i := 393) (by decide +kernel), List.mem_of_getElem? (i := 394) (by decide +kernel)⟩
theorem lw_p27 : lw_okq (⟨"GateBenchModel", "rule", "(III)I"⟩, 8) := ⟨⟨by decide +kernel, by decide +kernel⟩, List.mem_of_getElem? (i := 329) (by decide +kernel), List.mem_of_getElem? (i := 397) (by decide +kernel), List.mem_of_getElem? (i := 398) (by decide +kernel)⟩
theorem lw_p28 : lw_okq (⟨"GateBenchModel", "gate", "(II)I"⟩, 8) := ⟨⟨by decide +kernel, by decide +kernel⟩, List.mem_of_getElem? (i := 329) (by decide +kernel), List.mem_of_getElem? (i := 401) (by decide +kernel), List.mem_of_getElem? (i := 402) (by decide +kernel)⟩
theorem lw_p29 : lw_okq (⟨"GateBenchModel", "or", "(II)I"⟩, 8) := ⟨⟨by decide +kernel, by decide +kernel⟩, List.mem_of_getElem? (i := 329) (by decide +kernel), List.mem_of_getElem? (i := 409) (by decide +kernel), List.mem_of_getElem? (i := 410) (by decide +kernel)⟩
theorem lw_p30 : lw_okq (⟨"GateBenchModel", "xor", "(II)I"⟩, 8) := ⟨⟨by decide +kernel, by decide +kernel⟩, List.mem_of_getElem? (i := 329) (by decide +kernel), List.mem_of_getElem? (i := 413) (by decide +kernel), List.mem_of_getElem? (i := 414) (by decide +kernel)⟩
theorem lw_p31 : lw_okq (⟨"GateBenchModel", "isInput", "(I)Z"⟩, 8) := ⟨⟨by decide +kernel, by decide +kernel⟩, List.mem_of_getElem? (i := 329) (by decide +kernel), List.mem_of_getElem? (i := 425) (by decide +kernel), List.mem_of_getElem? (i := 426) (by decide +kernel)⟩
def lw_privs_2 : List (MethodName × Nat) := [(⟨"GateBench", "needNode", "(I)V"⟩, 11), (⟨"GateBench", "kindOf", "(I)I"⟩, 11), (⟨"GateBench", "settle", "(I)V"⟩, 11), (⟨"GateBench", "valueNow", "(I)I"⟩, 11), (⟨"GateBench", "markUnder", "(I)V"⟩, 11), (⟨"GateBenchModel", "add", "(III)I"⟩, 8), (⟨"GateBenchModel", "isLiteral", "(I)Z"⟩, 8), (⟨"GateBenchModel", "make", "(II)I"⟩, 8), (⟨"GateBenchModel", "isGate", "(IZ)Z"⟩, 8), (⟨"GateBenchModel", "has", "(II)Z"⟩, 8), (⟨"GateBenchModel", "beside", "(II)I"⟩, 8), (⟨"GateBenchModel", "rule", "(III)I"⟩, 8), (⟨"GateBenchModel", "gate", "(II)I"⟩, 8), (⟨"GateBenchModel", "or", "(II)I"⟩, 8), (⟨"GateBenchModel", "xor", "(II)I"⟩, 8), (⟨"GateBenchModel", "isInput", "(I)Z"⟩, 8)]
theorem lw_r2 : ∀ q ∈ lw_privs_2, lw_okq q := List.forall_mem_cons.mpr ⟨lw_p16, List.forall_mem_cons.mpr ⟨lw_p17, List.forall_mem_cons.mpr ⟨lw_p18, List.forall_mem_cons.mpr ⟨lw_p19, List.forall_mem_cons.mpr ⟨lw_p20, List.forall_mem_cons.mpr ⟨lw_p21, List.forall_mem_cons.mpr ⟨lw_p22, List.forall_mem_cons.mpr ⟨lw_p23, List.forall_mem_cons.mpr ⟨lw_p24, List.forall_mem_cons.mpr ⟨lw_p25, List.forall_mem_cons.mpr ⟨lw_p26, List.forall_mem_cons.mpr ⟨lw_p27, List.forall_mem_cons.mpr ⟨lw_p28, List.forall_mem_cons.mpr ⟨lw_p29, List.forall_mem_cons.mpr ⟨lw_p30, List.forall_mem_cons.mpr ⟨lw_p31, fun _ h => absurd h List.not_mem_nil⟩⟩⟩⟩⟩⟩⟩⟩⟩⟩⟩⟩⟩⟩⟩⟩
theorem lw_p32 : lw_okq (⟨"GateBenchModel", "is", "(I)Z"⟩, 8) := ⟨⟨by decide +kernel, by decide +kernel⟩, List.mem_of_getElem? (i := 329) (by decide +kernel), List.mem_of_getElem? (i := 433) (by decide +kernel), List.mem_of_getElem? (i := 434) (by decide +kernel)⟩
theorem lw_p33 : lw_okq (⟨"GateBenchModel", "markBelow", "(I)I"⟩, 8) := ⟨⟨by decide +kernel, by decide +kernel⟩, List.mem_of_getElem? (i := 329) (by decide +kernel), List.mem_of_getElem? (i := 445) (by decide +kernel), List.mem_of_getElem? (i := 446) (by decide +kernel)⟩
def lw_privs_3 : List (MethodName × Nat) := [(⟨"GateBenchModel", "is", "(I)Z"⟩, 8), (⟨"GateBenchModel", "markBelow", "(I)I"⟩, 8)]
theorem lw_r3 : ∀ q ∈ lw_privs_3, lw_okq q := List.forall_mem_cons.mpr ⟨lw_p32, List.forall_mem_cons.mpr ⟨lw_p33, fun _ h => absurd h List.not_mem_nil⟩⟩
def lw_privs : List (MethodName × Nat) := lw_privs_1 ++ (lw_privs_2 ++ (lw_privs_3))
def lw_tbl : List Cond := k2_sels lw_privs ++ tables_1
theorem lw_privs_ok : ∀ q ∈ lw_privs, lw_okq q := by
  show ∀ q ∈ lw_privs_1 ++ (lw_privs_2 ++ (lw_privs_3)), lw_okq q
  exact List.forall_mem_append.mpr ⟨lw_r1, List.forall_mem_append.mpr ⟨lw_r2, lw_r3⟩⟩
-- ===== one list of words for every method: the good ones of the tables =====
def wsG : List Cond := lw_tbl.filter goodWord
theorem wGi {w : Cond} (i : Nat) (h : lw_tbl[i]? = some w) (g : goodWord w = true) : w ∈ wsG := List.mem_filter.mpr ⟨List.mem_of_getElem? h, g⟩
theorem mG {w w0 : Cond} (h : w ∈ wsG) : w ∈ w0 :: wsG := List.mem_cons_of_mem _ h
theorem gIn {Ts ws : List Cond} (hT : ∀ w ∈ wsG, w ∈ Ts) (h : ∀ w ∈ ws, w ∈ wsG) : GoodIn Ts ws := fun w hw => ⟨hT w (h w hw), good_of_word (List.mem_filter.mp (h w hw)).2⟩
theorem cG {w0 : Cond} (h : w0 ∈ wsG) : ∀ w ∈ w0 :: wsG, w ∈ wsG := by
  intro w hw
  rcases List.mem_cons.mp hw with e | e
  · rw [e]; exact h
  · exact e
theorem lG {w0 : Cond} {L ws : List Cond} (h0 : w0 ∈ wsG) (h : ∀ w ∈ L ++ ws, w ∈ wsG) : ∀ w ∈ (w0 :: L) ++ ws, w ∈ wsG := by
  intro w hw
  rcases List.mem_cons.mp hw with e | e
  · rw [e]; exact h0
  · exact h w e
theorem vG {own C : String} {idx : Nat} {y : MethodName} {ws : List Cond} (h1 : Cond.methodLink own idx y ∈ wsG) (h2 : Cond.instanceMethod y ∈ wsG) (h3 : Cond.selects C y y ∈ wsG) (h4 : Cond.initialized C ∈ wsG) (h : ∀ w ∈ ws, w ∈ wsG) : ∀ w ∈ wsV own idx C y ws, w ∈ wsG := lG h1 (lG h2 (lG h3 (lG h4 h)))
theorem sG {own : String} {idx : Nat} {y : MethodName} {ws : List Cond} (h1 : Cond.methodLink own idx y ∈ wsG) (h2 : Cond.static y ∈ wsG) (h4 : Cond.initialized y.cls ∈ wsG) (h : ∀ w ∈ ws, w ∈ wsG) : ∀ w ∈ va_wsS own idx y ws, w ∈ wsG := lG h1 (lG h2 (lG h4 h))
end
section
/-! ===== BEGIN words of one list among another's, by their places ===== -/
theorem goodIn_r {big : List Cond} (ws : List Cond) (ps : List Nat) (hp : ws = ps.filterMap (fun i => big[i]?)) (h : ws.all goodWord = true) : GoodIn big ws := by
  intro w hw
  have h1 := List.all_eq_true.mp h w hw
  rw [hp] at hw
  obtain ⟨i, -, hi⟩ := List.mem_filterMap.mp hw
  have hm : w ∈ big := by first | exact List.mem_of_getElem? hi | exact List.getElem?_mem hi
  exact ⟨hm, good_of_word h1⟩
theorem goodIn_app {big a b : List Cond} (ha : GoodIn big a) (hb : GoodIn big b) : GoodIn big (a ++ b) := fun w h => (List.mem_append.mp h).elim (ha w) (hb w)
theorem goodIn_ca {big a b : List Cond} {c : Cond} (ha : GoodIn big (c :: a)) (hb : GoodIn big b) : GoodIn big (c :: (a ++ b)) := fun w h => (List.mem_cons.mp h).elim (fun e => ha w (List.mem_cons.mpr (Or.inl e))) (fun h => (List.mem_append.mp h).elim (fun h => ha w (List.mem_cons.mpr (Or.inr h))) (hb w))
theorem goodIn_sub {big ws : List Cond} (hm : ∀ w ∈ ws, w ∈ big) (h : ws.all goodWord = true) : GoodIn big ws := fun w hw => ⟨hm w hw, good_of_word (List.all_eq_true.mp h w hw)⟩
/-! ===== END ===== -/

/-! ===== BEGIN exceptions that leave a method, and their catching by the caller (launches without stack traces) ===== -/
section VXA
/-! The laws vx_back, vx_callV, vx_callS, vx_callSW, vx_throw0, vx_throwS follow proofs of the library, with one case more: JvmDerived/Free/Laws.lean (Back.of_free), Shelf42/LK1.lean (callV, callS), Shelf/KitTraced.lean (throwNew0V, throwNewS). -/
/-- where a method has thrown q: the class by its name, the cell, what was written, the world -/
def vx_T (XC : String → State → State → Prop) (st : State) (q : Addr) (t : State) (mc ms : Nat) (free : Addr → Prop) : Prop :=
  ∃ (E : String) (ce : Cell) (L : List Loc), XC E st t ∧ t.heap[q]? = some ce ∧ ce.vm = .none ∧ st.vm.findClass E = some ce.cls ∧ st.WarmedH t.vm ∧ st.sameButNew ({ t with vm := st.vm } : State) L mc ms ∧ ∀ z ∈ L, free z.base
def vx_Q (Qc : Array Value → State → Outcome → State → Prop) (XC : String → State → State → Prop) (mc ms : Nat) (free : Addr → Prop) : Array Value → State → Outcome → State → Prop := fun a st o t =>
  (Qc a st o t ∧ ∃ L, FrameEnd st o t L mc ms ∧ ∀ q ∈ L, free q.base) ∨ ∃ q, o = .threw q ∧ vx_T XC st q t mc ms free
/-- a callee that returns or throws -/
def vx_Met (l : Launch) (y : MethodName) (ws : List Cond) (rm : Room) (Pc : Array Value → State → Prop) (Qc : Array Value → State → Outcome → State → Prop) (XC : String → State → State → Prop) (mc ms : Nat) (free : Addr → Prop) : Prop :=
  MetFree l y (headSpec ws rm) Pc (fun _ _ _ _ _ => True) (vx_Q Qc XC mc ms free)
def vx_Post (XC : String → State → State → Prop) (mc ms : Nat) (free : Addr → Prop) : Pt → Array Value → Addr → Pt → Prop := fun A a q B =>
  ∃ (g : JFrame) (mk : MethodId) (t : State) (L : List Loc) (E : String) (ce : Cell), B.U.heap = t.heap ∧ B.U.vm = t.vm ∧ XC E (A.U.calling g mk a) t ∧ t.heap[q]? = some ce ∧ ce.vm = .none ∧ A.U.vm.findClass E = some ce.cls ∧ B.locs = A.locs ++ L ∧ (∀ z ∈ L, free z.base) ∧ B.cells = A.cells + mc ∧ B.slots = A.slots + ms
def vx_Back (l : Launch) (R : Room) (p : Program) (e : Env) (below : List Frame) (s : State) (sargs : Array Value) (y : MethodName) (len W9 : Nat)
    (Pre : Pt → Array Value → Prop) (Post : Pt → Array Value → Option Value → Pt → Prop) (PostX : Pt → Array Value → Addr → Pt → Prop) : Prop :=
  ∀ (m : MethodId) (meth : Method) (c : Code) (A : Pt) (g : JFrame) (ig : Instr) (mk : MethodId) (a : Array Value),
    Stand p l e R s m sargs below meth c A.U A.locs A.cells A.slots → g.method = m → g.locals.size = c.maxLocals → decode c.code g.pc = .ok (ig, len) →
    2 * g.monitorRoom + (g.stack.map fun v => v.category).sum ≤ W9 → A.U.methodNamed? y = some mk → Pre A a →
    (∃ (v : Option Value) (B : Pt), Stand p l e R s m sargs below meth c B.U B.locs B.cells B.slots ∧ Post A a v B ∧
      Steps p.tables e below (doInvoke e (A.U.setTop g) [] mk a).1 (B.U.setTop { g with pc := g.pc + len, stack := v.toList ++ g.stack })) ∨
    (∃ (q : Addr) (B : Pt), Stand p l e R s m sargs below meth c B.U B.locs B.cells B.slots ∧ PostX A a q B ∧
      Steps p.tables e below (doInvoke e (A.U.setTop g) [] mk a).1 ((B.U.setTop g).pushFrame (.throwing q)))
section Payer
variable {l : Launch} {R : Room} {p : Program} {e : Env} {below : List Frame} {s : State} {sargs : Array Value} {y : MethodName} {len W9 : Nat}
theorem vx_back {ws : List Cond} {rm : Room} {Pc : Array Value → State → Prop} {Qc : Array Value → State → Outcome → State → Prop} {XC : String → State → State → Prop} {mc ms : Nat} {free : Addr → Prop} {bytes : ByteArray} {maxL : Nat} {ret : Option FieldType}
    (hM : vx_Met l y ws rm Pc Qc XC mc ms free) (hblind : FrameBlind Pc) (hrc : rm.cells = mc) (hrs : rm.slots = ms)
    (hframes : rm.frames + 1 ≤ R.frames) (hlocals : W9 + (maxL + 11) + rm.locals ≤ R.locals)
    (hws : ∀ w ∈ ws, ∀ a' U, s.WarmedH U.vm → w.before a' U = true) (hcode : Cond.code y bytes maxL ret ∈ ws) (hinit : ∀ a' U, s.WarmedH U.vm → (Cond.initialized y.cls).before a' U = true) :
    vx_Back l R p e below s sargs y len W9 (PreOf R mc ms Pc) (PostOf Qc mc ms free) (vx_Post XC mc ms free) := by
  intro m meth c A g ig mk a X hg hsize hdg hW hn hp
  have h1 : (headSpec ws rm).pre.before a A.U = true := atoms_intro fun w hw => hws w hw _ _ X.warmed
  have h2 : (Cond.code y bytes maxL ret).before a A.U = true := hws _ hcode _ _ X.warmed
  have h3 : (Cond.initialized y.cls).before a A.U = true := hinit _ _ X.warmed
  have h4 : A.cells + (headSpec ws rm).room.cells ≤ R.cells := by rw [show (headSpec ws rm).room.cells = mc from hrc]; exact hp.1
  have h5 : A.slots + (headSpec ws rm).room.slots ≤ R.slots := by rw [show (headSpec ws rm).room.slots = ms from hrs]; exact hp.2.1
  have hPc : Pc a (A.U.calling g mk a) := hblind _ _ _ _ hp.2.2
  obtain ⟨U, Ls, c0, s0⟩ := A
  dsimp only [Pt.U, Pt.locs, Pt.cells, Pt.slots] at h1 h2 h3 h4 h5 X hn hPc ⊢
  obtain ⟨methY, cY, hmY, hcY, -, hlY, -, -, -, -⟩ := Cond.code_spec hn h2
  obtain ⟨kY, hkY, -⟩ := className_of_methodNamed hn
  have hinitY : kY.init = .initialized := Cond.initialized_spec (findClass_of_methodNamed hn) hkY h3
  have h : At U g.method c below := by rw [hg]; exact X.here
  have hlocals9 : W9 + (maxL + 11) + (headSpec ws rm).room.locals ≤ R.locals := hlocals
  have happ : (headSpec ws rm).appliesLoose y e.platform (U.calling g mk a) = true :=
    Spec.appliesLoose_calling (g := g) h hdg hn hkY hinitY
      (X.room_calling (g := g) (R' := (headSpec ws rm).room) hsize hmY hcY hframes (by rw [hlY]; omega) h4 h5) h1
  obtain ⟨mid, hmid⟩ := h.above
  have hfr : (U.setTop g).frames = (.java g :: mid) ++ below := by rw [State.frames_setTop' g h.top, hmid]; rfl
  obtain ⟨o, s₂, hsteps, -, hend, hq⟩ := Steps.callFree hM p X.admits X.cas X.clock (acts := []) hfr happ hPc trivial
  have hq' : vx_Q Qc XC mc ms free a (U.calling g mk a) o s₂ := hq
  rw [State.frames_setTop' g h.top] at hend
  obtain ⟨g₀, hg0⟩ := Option.isSome_iff_exists.mp h.top
  obtain ⟨r, hr⟩ := State.topJava?_eq_some.mp hg0
  have hr' : (({ U with heap := s₂.heap, slotsUsed := s₂.slotsUsed } : State).setVm s₂.vm).frames = .java g₀ :: r := hr
  rcases hq' with ⟨hqc, L, hfe, hL⟩ | ⟨q, rfl, E, ce, L, hx, hce, hcv, hcl, hW₂, hsm, hL⟩
  · obtain ⟨⟨v, rfl⟩, hW₂, e2, q2, q3, q4, q5, q6⟩ := id hfe
    have e3 : s₂ = ({ (U.calling g mk a).setFrames s₂.frames with heap := s₂.heap, slotsUsed := s₂.slotsUsed } : State).setVm s₂.vm := by
      have : s₂ = ({ s₂ with vm := (U.calling g mk a).vm } : State).setVm s₂.vm := rfl
      rw [e2] at this
      exact this
    obtain ⟨c₂, i₂, len₂, hc₂, hd₂, hf₂⟩ := hend
    have hW' : U.WarmedH s₂.vm := hW₂
    have hcc : c₂ = c := by
      have h1 : s₂.code? g.method = U.code? g.method := by
        rw [State.code?_eq, State.code?_eq, hW'.alike.method?]
      exact Option.some.inj (hc₂.symm.trans (h1.trans h.code))
    subst hcc
    have hlen : len₂ = len := by rw [hdg] at hd₂; cases hd₂; rfl
    subst hlen
    have hs₂ : s₂ = (({ U with heap := s₂.heap, slotsUsed := s₂.slotsUsed } : State).setVm s₂.vm).setTop { g with pc := g.pc + len₂, stack := v.toList ++ g.stack } := by
      refine e3.trans ?_
      rw [hf₂, State.calling_eq h.top, State.setFrames_setFrames, State.setTop_of_frames _ hr', hr]
      rfl
    have hsame : U.sameButNew ({ U with heap := s₂.heap, slotsUsed := s₂.slotsUsed } : State) L mc ms := by
      refine ⟨?_, q2, q3, q4, q5, q6⟩
      obtain ⟨t, ht, -⟩ := State.frames_cons hr
      show ({ U with heap := s₂.heap, slotsUsed := s₂.slotsUsed } : State) = { U.setFrames U.frames with heap := s₂.heap, slotsUsed := s₂.slotsUsed }
      rw [State.setFrames_self ht]
    subst hg
    refine Or.inl ⟨v, ⟨(({ U with heap := s₂.heap, slotsUsed := s₂.slotsUsed } : State).setVm s₂.vm), Ls ++ L, c0 + mc, s0 + ms⟩,
      ⟨X.admits, X.cas, X.clock, X.frames, X.room, X.hears, X.method, X.code, (X.here.setHeapUsed s₂.heap s₂.slotsUsed).setVm hW'.alike, X.tail, State.WarmedH.trans X.warmed hW', X.limits, X.bytes, X.same.trans (hsame.setVm s.vm)⟩,
      ⟨g, mk, s₂, L, rfl, rfl, hqc, rfl, hL, rfl, rfl⟩, ?_⟩
    show Steps p.tables e below _ ((({ U with heap := s₂.heap, slotsUsed := s₂.slotsUsed } : State).setVm s₂.vm).setTop { g with pc := g.pc + len₂, stack := v.toList ++ g.stack })
    rw [← hs₂]
    exact hsteps
  · obtain ⟨e2, q2, q3, q4, q5, q6⟩ := id hsm
    have e3 : s₂ = ({ (U.calling g mk a).setFrames s₂.frames with heap := s₂.heap, slotsUsed := s₂.slotsUsed } : State).setVm s₂.vm := by
      have : s₂ = ({ s₂ with vm := (U.calling g mk a).vm } : State).setVm s₂.vm := rfl
      rw [e2] at this
      exact this
    have hf₂ : s₂.frames = .throwing q :: .java g :: U.frames.tail := hend
    have hW' : U.WarmedH s₂.vm := hW₂
    have hs₂ : s₂ = ((({ U with heap := s₂.heap, slotsUsed := s₂.slotsUsed } : State).setVm s₂.vm).setTop g).pushFrame (.throwing q) := by
      refine e3.trans ?_
      rw [hf₂, State.calling_eq h.top, State.setFrames_setFrames, State.pushFrame, State.frames_setTop _ hr', State.setTop_of_frames _ hr', State.setFrames_setFrames, hr]
      rfl
    have hsame : U.sameButNew ({ U with heap := s₂.heap, slotsUsed := s₂.slotsUsed } : State) L mc ms := by
      refine ⟨?_, q2, q3, q4, q5, q6⟩
      obtain ⟨t, ht, -⟩ := State.frames_cons hr
      show ({ U with heap := s₂.heap, slotsUsed := s₂.slotsUsed } : State) = { U.setFrames U.frames with heap := s₂.heap, slotsUsed := s₂.slotsUsed }
      rw [State.setFrames_self ht]
    subst hg
    refine Or.inr ⟨q, ⟨(({ U with heap := s₂.heap, slotsUsed := s₂.slotsUsed } : State).setVm s₂.vm), Ls ++ L, c0 + mc, s0 + ms⟩,
      ⟨X.admits, X.cas, X.clock, X.frames, X.room, X.hears, X.method, X.code, (X.here.setHeapUsed s₂.heap s₂.slotsUsed).setVm hW'.alike, X.tail, State.WarmedH.trans X.warmed hW', X.limits, X.bytes, X.same.trans (hsame.setVm s.vm)⟩,
      ⟨g, mk, s₂, L, E, ce, rfl, rfl, hx, hce, hcv, hcl, rfl, hL, rfl, rfl⟩, ?_⟩
    show Steps p.tables e below _ (((({ U with heap := s₂.heap, slotsUsed := s₂.slotsUsed } : State).setVm s₂.vm).setTop g).pushFrame (.throwing q))
    rw [← hs₂]
    exact hsteps
end Payer
section Calls
variable {p : Program} {l : Launch} {e : Env} {R : Room} {s : State} {m : MethodId} {args : Array Value} {below : List Frame} {meth : Method} {c : Code} {T : State} {locs : List Loc} {cells slots : Nat}
theorem vx_callV (X : Stand p l e R s m args below meth c T locs cells slots) (hexec : p.tables.exec = Jvm.exec) {own C : String} {index : Nat} {y : MethodName} {bytes : ByteArray} {maxL : Nat} {ret : Option FieldType}
    (hown : s.vm.findClass own = some m.cls) (hlink : (Cond.methodLink own index y).before args s = true) (hinst : (Cond.instanceMethod y).before args s = true) (hsel : (Cond.selects C y y).before args s = true)
    (hcode : (Cond.code y bytes maxL ret).before args s = true) (hy : y.cls ≠ "java/lang/invoke/MethodHandle" ∧ y.cls ≠ "java/lang/invoke/VarHandle")
    {W9 : Nat} {Pre : Pt → Array Value → Prop} {Post : Pt → Array Value → Option Value → Pt → Prop} {PostX : Pt → Array Value → Addr → Pt → Prop} (hK : vx_Back l R p e below s args y 3 W9 Pre Post PostX)
    {b : Addr} {cellB : Cell} (hcell : T.heap[b]? = some cellB) (hobj : cellB.vm.isStatics = false) (hcls : s.vm.findClass C = some cellB.cls)
    {g : JFrame} (hg : g.method = m) (hsize : g.locals.size = c.maxLocals) {argsL rest : List Value} (hlen : ∀ sig, parseMethodDescriptor y.desc = some sig → argsL.length = sig.parameters.length)
    (hstack : g.stack = argsL.reverse ++ .ref b :: rest) (hW : 2 * g.monitorRoom + (rest.map fun v => v.category).sum ≤ W9) (hdg : decode c.code g.pc = .ok (.invokevirtual index, 3))
    (hpre : ∀ vm₁, s.WarmedH vm₁ → Pre ⟨T.setVm vm₁, locs, cells, slots⟩ (Value.ref b :: argsL).toArray) :
    (∃ (v : Option Value) (vm₁ : Vm) (B : Pt), s.WarmedH vm₁ ∧ Stand p l e R s m args below meth c B.U B.locs B.cells B.slots ∧ Post ⟨T.setVm vm₁, locs, cells, slots⟩ (Value.ref b :: argsL).toArray v B ∧
      ∀ target, Steps p.tables e below (B.U.setTop { g with pc := g.pc + 3, stack := v.toList ++ rest }) target → Steps p.tables e below (T.setTop g) target) ∨
    (∃ (q : Addr) (vm₁ : Vm) (B : Pt), s.WarmedH vm₁ ∧ Stand p l e R s m args below meth c B.U B.locs B.cells B.slots ∧ PostX ⟨T.setVm vm₁, locs, cells, slots⟩ (Value.ref b :: argsL).toArray q B ∧
      Steps p.tables e below (T.setTop g) ((B.U.setTop { g with stack := rest }).pushFrame (.throwing q))) := by
  obtain ⟨mk, methM, hnamed, hmethM, hstM, habM⟩ := Cond.instanceMethod_spec hinst
  obtain ⟨methM', cM, hmethM', -, -, -, -, -, -, hsigM⟩ := Cond.code_spec hnamed hcode
  cases hmethM.symm.trans hmethM'
  obtain ⟨c2, r2, m2, q1, q2, q3, q4, kP, hkP, hkPi⟩ := Cond.selects_spec hsel
  cases hcls.symm.trans q1
  cases (State.methodFound?_of_named hnamed hy).symm.trans q2
  cases hnamed.symm.trans q3
  have hselP : selectMethod e.platform s.vm cellB.cls mk = .method mk := by rw [Launch.admits_selectMethod X.admits]; exact q4
  obtain ⟨vm₁, X₁, hstep₁⟩ := X.invokevirtual hexec hown hlink hnamed hmethM hstM hkP hkPi hy (a := b) (cell := cellB) hcell
    (fun z h => by rw [h] at hobj; cases hobj) hselP hmethM habM hkP hkPi (g := g) hg (argsL := argsL) (rest := rest) (hlen _ hsigM) hstack hdg
  rcases hK m meth c ⟨T.setVm vm₁, locs, cells, slots⟩ { g with stack := rest } (.invokevirtual index) mk (Value.ref b :: argsL).toArray X₁ hg hsize hdg hW (X₁.named hnamed) (hpre vm₁ X₁.warmed) with ⟨v, B, X', hpost, hsteps⟩ | ⟨q, B, X', hpost, hsteps⟩
  · exact Or.inl ⟨v, vm₁, B, X₁.warmed, X', hpost, fun target h => hstep₁ _ fun acts => by rw [doInvoke_state]; exact hsteps.trans h⟩
  · exact Or.inr ⟨q, vm₁, B, X₁.warmed, X', hpost, hstep₁ _ fun acts => by rw [doInvoke_state]; exact hsteps⟩
theorem vx_callS (X : Stand p l e R s m args below meth c T locs cells slots) (hexec : p.tables.exec = Jvm.exec) {own : String} {index : Nat} {y : MethodName} {bytes : ByteArray} {maxL : Nat} {ret : Option FieldType}
    (hown : s.vm.findClass own = some m.cls) (hlink : (Cond.methodLink own index y).before args s = true) (hstat : (Cond.static y).before args s = true) (hinit : (Cond.initialized y.cls).before args s = true)
    (hcode : (Cond.code y bytes maxL ret).before args s = true) (hy : y.cls ≠ "java/lang/invoke/MethodHandle" ∧ y.cls ≠ "java/lang/invoke/VarHandle")
    {W9 : Nat} {Pre : Pt → Array Value → Prop} {Post : Pt → Array Value → Option Value → Pt → Prop} {PostX : Pt → Array Value → Addr → Pt → Prop} (hK : vx_Back l R p e below s args y 3 W9 Pre Post PostX)
    {g : JFrame} (hg : g.method = m) (hsize : g.locals.size = c.maxLocals) {argsL rest : List Value} (hlen : ∀ sig, parseMethodDescriptor y.desc = some sig → argsL.length = sig.parameters.length)
    (hstack : g.stack = argsL.reverse ++ rest) (hW : 2 * g.monitorRoom + (rest.map fun v => v.category).sum ≤ W9) (hdg : decode c.code g.pc = .ok (.invokestatic index, 3))
    (hpre : ∀ vm₁, s.WarmedH vm₁ → Pre ⟨T.setVm vm₁, locs, cells, slots⟩ argsL.toArray) :
    (∃ (v : Option Value) (vm₁ : Vm) (B : Pt), s.WarmedH vm₁ ∧ Stand p l e R s m args below meth c B.U B.locs B.cells B.slots ∧ Post ⟨T.setVm vm₁, locs, cells, slots⟩ argsL.toArray v B ∧
      ∀ target, Steps p.tables e below (B.U.setTop { g with pc := g.pc + 3, stack := v.toList ++ rest }) target → Steps p.tables e below (T.setTop g) target) ∨
    (∃ (q : Addr) (vm₁ : Vm) (B : Pt), s.WarmedH vm₁ ∧ Stand p l e R s m args below meth c B.U B.locs B.cells B.slots ∧ PostX ⟨T.setVm vm₁, locs, cells, slots⟩ argsL.toArray q B ∧
      Steps p.tables e below (T.setTop g) ((B.U.setTop { g with stack := rest }).pushFrame (.throwing q))) := by
  obtain ⟨mk, hnamed⟩ := Cond.code_named hcode
  obtain ⟨methM, cM, hmethM, -, -, -, -, -, -, hsigM⟩ := Cond.code_spec hnamed hcode
  have hstatic : methM.isStatic = true := Cond.static_spec hnamed hmethM hstat
  obtain ⟨kP, hkP, -⟩ := className_of_methodNamed hnamed
  have hinitP : kP.init = .initialized := Cond.initialized_spec (findClass_of_methodNamed hnamed) hkP hinit
  obtain ⟨vm₁, X₁, hstep₁⟩ := X.invokestatic hexec hown hlink hnamed hmethM hstatic hkP hinitP hy (g := g) hg (argsL := argsL) (rest := rest) (hlen _ hsigM) hstack hdg
  rcases hK m meth c ⟨T.setVm vm₁, locs, cells, slots⟩ { g with stack := rest } (.invokestatic index) mk argsL.toArray X₁ hg hsize hdg hW (X₁.named hnamed) (hpre vm₁ X₁.warmed) with ⟨v, B, X', hpost, hsteps⟩ | ⟨q, B, X', hpost, hsteps⟩
  · exact Or.inl ⟨v, vm₁, B, X₁.warmed, X', hpost, fun target h => hstep₁ _ fun acts => by rw [doInvoke_state]; exact hsteps.trans h⟩
  · exact Or.inr ⟨q, vm₁, B, X₁.warmed, X', hpost, hstep₁ _ fun acts => by rw [doInvoke_state]; exact hsteps⟩
end Calls
theorem vx_cls {s : State} {T : State} {vm₁ : Vm} {E : String} {k : ClassId} (hW : s.WarmedH vm₁) (h : (T.setVm vm₁).vm.findClass E = some k) : s.vm.findClass E = some k := by
  have h1 : vm₁.findClass E = some k := h
  rw [hW.alike.findClass] at h1
  exact h1
/-- the method's frame g, with q thrown over it -/
def vx_W (p : Program) (l : Launch) (e : Env) (R : Room) (s : State) (m : MethodId) (args : Array Value) (below : List Frame) (meth : Method) (c : Code) (H : Heap) (locs : List Loc) (cells slots : Nat) (Q : State → Prop) (g : JFrame) (q : Addr) : Prop :=
  ∀ T : State, T.heap = H → Stand p l e R s m args below meth c T locs cells slots → ∃ t, Steps p.tables e below ((T.setTop g).pushFrame (.throwing q)) t ∧ Q t
def vx_Run (p : Program) (l : Launch) (e : Env) (R : Room) (s : State) (m : MethodId) (args : Array Value) (below : List Frame) (meth : Method) (c : Code) (H : Heap) (locs : List Loc) (cells slots mc ms : Nat) (g : JFrame) (rest : List Value) (Qa : State → Outcome → State → Prop) (XC : String → State → State → Prop) (free : Addr → Prop) : Prop :=
  ∀ T : State, T.heap = H → Stand p l e R s m args below meth c T locs cells slots →
    (∃ (v : Option Value) (st₀ t T' : State) (L : List Loc), st₀.heap = H ∧ Stand p l e R s m args below meth c T' (locs ++ L) (cells + mc) (slots + ms) ∧ (∀ q ∈ L, free q.base) ∧ T'.heap = t.heap ∧ T'.vm = t.vm ∧ Qa st₀ (.returned v) t ∧
      Goes p e below T g T' { g with pc := g.pc + 3, stack := v.toList ++ rest }) ∨
    (∃ (q : Addr) (st₀ t T' : State) (L : List Loc) (E : String) (ce : Cell), st₀.heap = H ∧ Stand p l e R s m args below meth c T' (locs ++ L) (cells + mc) (slots + ms) ∧ (∀ z ∈ L, free z.base) ∧ T'.heap = t.heap ∧ T'.vm = t.vm ∧ XC E st₀ t ∧ t.heap[q]? = some ce ∧ ce.vm = .none ∧ s.vm.findClass E = some ce.cls ∧
      Steps p.tables e below (T.setTop g) ((T'.setTop { g with stack := rest }).pushFrame (.throwing q)))
def vx_X {S : Type} (px : S → Prop) (B : String → S → State → Prop) (A : Nat → Prop) : String → State → State → Prop := fun E st t => ∃ u : S, px u ∧ B E u t ∧ va_F A st t
section Runs
variable {p : Program} {l : Launch} {e : Env} {R : Room} {s : State} {m : MethodId} {args : Array Value} {below : List Frame} {meth : Method} {c : Code} {H : Heap} {locs : List Loc} {cells slots : Nat}
variable {y : MethodName} {bytes cc : ByteArray} {maxL nL mc ms n index : Nat} {ret : Option FieldType} {ws : List Cond} {rm : Room} {Pc : Array Value → State → Prop} {Qc : Array Value → State → Outcome → State → Prop} {XC : String → State → State → Prop} {free : Addr → Prop} {Ts : List Cond} {own C : String} {b : Addr} {As rest : List Value} {g : JFrame}
theorem vx_callBack (cb : CallB R s args own index y bytes maxL ret ws rm mc ms n) (hM : vx_Met l y ws rm Pc Qc XC mc ms free) (hbl : FrameBlind Pc) : vx_Back l R p e below s args y 3 8 (PreOf R mc ms Pc) (PostOf Qc mc ms free) (vx_Post XC mc ms free) := by
  obtain ⟨hrc, hrs, hfr, hlo, hws, hcw, -, hini, -⟩ := cb
  exact vx_back (bytes := bytes) (maxL := maxL) (ret := ret) hM hbl hrc hrs hfr hlo hws hcw (fun a' U hW => word_at hW (Or.inl (by first | rfl | simp [Cond.onTables, Cond.keeps, Cond.steady])) hini)
theorem vx_runV (S : CallFix p m c cc nL s args Ts own) (hM : vx_Met l y ws rm Pc Qc XC mc ms free) (cw : CallW R s args own C index y bytes maxL ret ws rm mc ms n) (hp : PreV s H C b Pc As)
    (hg : g.method = m) (hn : As.length = n) (hsize : g.locals.size = nL) (hstack : g.stack = As.reverse ++ .ref b :: rest) (hW : 2 * g.monitorRoom + (rest.map fun v => v.category).sum ≤ 8) (hdg : decode cc g.pc = .ok (.invokevirtual index, 3)) (hf : cells + mc ≤ R.cells ∧ slots + ms ≤ R.slots) :
    vx_Run p l e R s m args below meth c H locs cells slots mc ms g rest (Qc (Value.ref b :: As).toArray) XC free := by
  have hK : vx_Back l R p e below s args y 3 8 (PreOf R mc ms Pc) (PostOf Qc mc ms free) (vx_Post XC mc ms free) := vx_callBack cw.1 hM hp.1
  obtain ⟨⟨-, -, -, -, -, -, hcode, -, hy, hlen, hl⟩, hin, hse⟩ := cw
  obtain ⟨hx, hb, hml, ho, -⟩ := S
  obtain ⟨-, ⟨cellB, hcB, hoB, hclB⟩, hPc⟩ := hp
  intro T hT X
  rcases vx_callV X hx (C := C) (bytes := bytes) (maxL := maxL) (ret := ret) ho hl hin hse hcode hy hK (by rw [hT]; exact hcB) hoB hclB hg (hsize.trans hml.symm) (argsL := As) (rest := rest) (fun sig h => hn.trans (hlen sig h)) hstack hW (by rw [hb]; exact hdg)
    (fun vm₁ hW₁ => ⟨hf.1, hf.2, hPc (T.setVm vm₁) hT hW₁⟩) with ⟨v, vm₁, ⟨U', l2, c2, s2⟩, hW₁, X', ⟨g', mk, t, L, e1, e2, hq, h1, hL, h2, h3⟩, st⟩ | ⟨q, vm₁, ⟨U', l2, c2, s2⟩, hW₁, X', ⟨g', mk, t, L, E, ce, e1, e2, hq, hce, hcv, hcl, h1, hL, h2, h3⟩, st⟩
  · dsimp only [Pt.U, Pt.locs, Pt.cells, Pt.slots] at X' e1 e2 h1 h2 h3 st
    subst h1; subst h2; subst h3
    exact Or.inl ⟨v, (T.setVm vm₁).calling g' mk (Value.ref b :: As).toArray, t, U', L, hT, X', hL, e1, e2, hq, st⟩
  · dsimp only [Pt.U, Pt.locs, Pt.cells, Pt.slots] at X' e1 e2 h1 h2 h3 st hcl
    subst h1; subst h2; subst h3
    exact Or.inr ⟨q, (T.setVm vm₁).calling g' mk (Value.ref b :: As).toArray, t, U', L, E, ce, hT, X', hL, e1, e2, hq, hce, hcv, vx_cls hW₁ hcl, st⟩
theorem vx_runS (S : CallFix p m c cc nL s args Ts own) (hM : vx_Met l y ws rm Pc Qc XC mc ms free) (cw : CallB R s args own index y bytes maxL ret ws rm mc ms n ∧ (Cond.static y).before args s = true) (hp : PreS s H Pc As)
    (hg : g.method = m) (hn : As.length = n) (hsize : g.locals.size = nL) (hstack : g.stack = As.reverse ++ rest) (hW : 2 * g.monitorRoom + (rest.map fun v => v.category).sum ≤ 8) (hdg : decode cc g.pc = .ok (.invokestatic index, 3)) (hf : cells + mc ≤ R.cells ∧ slots + ms ≤ R.slots) :
    vx_Run p l e R s m args below meth c H locs cells slots mc ms g rest (Qc As.toArray) XC free := by
  have hK : vx_Back l R p e below s args y 3 8 (PreOf R mc ms Pc) (PostOf Qc mc ms free) (vx_Post XC mc ms free) := vx_callBack cw.1 hM hp.1
  obtain ⟨⟨-, -, -, -, -, -, hcode, hini, hy, hlen, hl⟩, hstt⟩ := cw
  obtain ⟨hx, hb, hml, ho, -⟩ := S
  intro T hT X
  rcases vx_callS X hx (bytes := bytes) (maxL := maxL) (ret := ret) ho hl hstt hini hcode hy hK hg (hsize.trans hml.symm) (argsL := As) (rest := rest) (fun sig h => hn.trans (hlen sig h)) hstack hW (by rw [hb]; exact hdg)
    (fun vm₁ hW₁ => ⟨hf.1, hf.2, hp.2 (T.setVm vm₁) hT hW₁⟩) with ⟨v, vm₁, ⟨U', l2, c2, s2⟩, hW₁, X', ⟨g', mk, t, L, e1, e2, hq, h1, hL, h2, h3⟩, st⟩ | ⟨q, vm₁, ⟨U', l2, c2, s2⟩, hW₁, X', ⟨g', mk, t, L, E, ce, e1, e2, hq, hce, hcv, hcl, h1, hL, h2, h3⟩, st⟩
  · dsimp only [Pt.U, Pt.locs, Pt.cells, Pt.slots] at X' e1 e2 h1 h2 h3 st
    subst h1; subst h2; subst h3
    exact Or.inl ⟨v, (T.setVm vm₁).calling g' mk As.toArray, t, U', L, hT, X', hL, e1, e2, hq, st⟩
  · dsimp only [Pt.U, Pt.locs, Pt.cells, Pt.slots] at X' e1 e2 h1 h2 h3 st hcl
    subst h1; subst h2; subst h3
    exact Or.inr ⟨q, (T.setVm vm₁).calling g' mk As.toArray, t, U', L, E, ce, hT, X', hL, e1, e2, hq, hce, hcv, vx_cls hW₁ hcl, st⟩
end Runs
section Rows
variable {p : Program} {l : Launch} {e : Env} {R : Room} {s : State} {m : MethodId} {args : Array Value} {below : List Frame} {meth : Method} {c : Code} {H : Heap} {locs : List Loc} {cells slots : Nat} {Q : State → Prop}
variable {mc ms : Nat} {free : Addr → Prop} {A0 A1 : Nat → Prop} {H0 : Heap} {a : Array Value} {pc : Nat} {ls : Array Slot} {st0 rest : List Value}
theorem vx_keep {st₀ t T' : State} {L : List Loc} (h0 : st₀.heap = H) (e1 : T'.heap = t.heap) (hS : va_S A0 H0 H locs) (hA : ∀ q, q < H.size → A1 q → A0 q) (hf : ∀ q, free q → A0 q) (hL : ∀ q ∈ L, free q.base) (hF : va_F A1 st₀ t) :
    H.size ≤ T'.heap.size ∧ (∀ q : Nat, q < H.size → ¬ A1 q → T'.heap[q]? = H[q]?) ∧ va_S A0 H0 T'.heap (locs ++ L) := by
  obtain ⟨hz, hk⟩ := hF
  rw [h0] at hz hk
  exact ⟨by rw [e1]; exact hz, fun q h1 h2 => by rw [e1]; exact hk q h1 h2,
    ⟨Nat.le_trans hS.1 (by rw [e1]; exact hz), fun q h1 h2 => by rw [e1, hk q (Nat.lt_of_lt_of_le h1 hS.1) (fun z => h2 (hA q (Nat.lt_of_lt_of_le h1 hS.1) z))]; exact hS.2.1 q h1 h2, fun q hq => by
      rcases List.mem_append.mp hq with h | h
      · exact hS.2.2 q h
      · exact hf _ (hL q h)⟩⟩
theorem vx_calli {S SX : Type} {post : Int32 → S → Prop} {px : SX → Prop} {B : S → State → Prop} {BX : String → SX → State → Prop} {AX : Nat → Prop} (hr : vx_Run p l e R s m args below meth c H locs cells slots mc ms (F0 m pc ls st0) rest (va_Qi post B A1 a) (vx_X px BX AX) free) (hS : va_S A0 H0 H locs) (hA : ∀ q, q < H.size → A1 q → A0 q) (hf : ∀ q, free q → A0 q) (hAX : ∀ q, q < H.size → AX q → A0 q)
    (kx : ∀ (E : String) (ce : Cell) (q9 : Addr) (u : SX) (t : State) (H1 : Heap) (locs1 : List Loc), t.heap = H1 → s.vm.Alike t.vm → px u → BX E u t → H.size ≤ H1.size → (∀ q : Nat, q < H.size → ¬ AX q → H1[q]? = H[q]?) → va_S A0 H0 H1 locs1 → H1[q9]? = some ce → ce.vm = .none → s.vm.findClass E = some ce.cls → vx_W p l e R s m args below meth c H1 locs1 (cells + mc) (slots + ms) Q (F0 m pc ls rest) q9)
    (kk : ∀ (r : Int32) (u : S) (t : State) (H1 : Heap) (locs1 : List Loc), t.heap = H1 → s.vm.Alike t.vm → post r u → B u t → H.size ≤ H1.size → (∀ q : Nat, q < H.size → ¬ A1 q → H1[q]? = H[q]?) → va_S A0 H0 H1 locs1 → W p l e R s m args below meth c H1 locs1 (cells + mc) (slots + ms) Q (F0 m (pc + 3) ls (.int r :: rest))) : W p l e R s m args below meth c H locs cells slots Q (F0 m pc ls st0) := by
  intro T hT X
  rcases hr T hT X with ⟨v, st₀, t, T', L, h0, X', hL, e1, e2, ⟨⟨r, u, hv, hp, hb⟩, hF⟩, st⟩ | ⟨q, st₀, t, T', L, E, ce, h0, X', hL, e1, e2, ⟨u, hp, hb, hF⟩, hce, hcv, hcl, st⟩
  · cases hv
    obtain ⟨k1, k2, k3⟩ := vx_keep h0 e1 hS hA hf hL hF
    obtain ⟨t2, a1, b1⟩ := kk r u t T'.heap (locs ++ L) e1.symm (by rw [← e2]; exact X'.warmed.alike) hp hb k1 k2 k3 T' rfl X'
    exact ⟨t2, st t2 a1, b1⟩
  · obtain ⟨k1, k2, k3⟩ := vx_keep h0 e1 hS hAX hf hL hF
    obtain ⟨t2, a1, b1⟩ := kx E ce q u t T'.heap (locs ++ L) e1.symm (by rw [← e2]; exact X'.warmed.alike) hp hb k1 k2 k3 (by rw [e1]; exact hce) hcv hcl T' rfl X'
    exact ⟨t2, st.trans a1, b1⟩
theorem vx_calll {S SX : Type} {post : Int64 → S → Prop} {px : SX → Prop} {B : S → State → Prop} {BX : String → SX → State → Prop} {AX : Nat → Prop} (hr : vx_Run p l e R s m args below meth c H locs cells slots mc ms (F0 m pc ls st0) rest (va_Ql post B A1 a) (vx_X px BX AX) free) (hS : va_S A0 H0 H locs) (hA : ∀ q, q < H.size → A1 q → A0 q) (hf : ∀ q, free q → A0 q) (hAX : ∀ q, q < H.size → AX q → A0 q)
    (kx : ∀ (E : String) (ce : Cell) (q9 : Addr) (u : SX) (t : State) (H1 : Heap) (locs1 : List Loc), t.heap = H1 → s.vm.Alike t.vm → px u → BX E u t → H.size ≤ H1.size → (∀ q : Nat, q < H.size → ¬ AX q → H1[q]? = H[q]?) → va_S A0 H0 H1 locs1 → H1[q9]? = some ce → ce.vm = .none → s.vm.findClass E = some ce.cls → vx_W p l e R s m args below meth c H1 locs1 (cells + mc) (slots + ms) Q (F0 m pc ls rest) q9)
    (kk : ∀ (r : Int64) (u : S) (t : State) (H1 : Heap) (locs1 : List Loc), t.heap = H1 → s.vm.Alike t.vm → post r u → B u t → H.size ≤ H1.size → (∀ q : Nat, q < H.size → ¬ A1 q → H1[q]? = H[q]?) → va_S A0 H0 H1 locs1 → W p l e R s m args below meth c H1 locs1 (cells + mc) (slots + ms) Q (F0 m (pc + 3) ls (.long r :: rest))) : W p l e R s m args below meth c H locs cells slots Q (F0 m pc ls st0) := by
  intro T hT X
  rcases hr T hT X with ⟨v, st₀, t, T', L, h0, X', hL, e1, e2, ⟨⟨r, u, hv, hp, hb⟩, hF⟩, st⟩ | ⟨q, st₀, t, T', L, E, ce, h0, X', hL, e1, e2, ⟨u, hp, hb, hF⟩, hce, hcv, hcl, st⟩
  · cases hv
    obtain ⟨k1, k2, k3⟩ := vx_keep h0 e1 hS hA hf hL hF
    obtain ⟨t2, a1, b1⟩ := kk r u t T'.heap (locs ++ L) e1.symm (by rw [← e2]; exact X'.warmed.alike) hp hb k1 k2 k3 T' rfl X'
    exact ⟨t2, st t2 a1, b1⟩
  · obtain ⟨k1, k2, k3⟩ := vx_keep h0 e1 hS hAX hf hL hF
    obtain ⟨t2, a1, b1⟩ := kx E ce q u t T'.heap (locs ++ L) e1.symm (by rw [← e2]; exact X'.warmed.alike) hp hb k1 k2 k3 (by rw [e1]; exact hce) hcv hcl T' rfl X'
    exact ⟨t2, st.trans a1, b1⟩
theorem vx_callf {S SX : Type} {post : UInt32 → S → Prop} {px : SX → Prop} {B : S → State → Prop} {BX : String → SX → State → Prop} {AX : Nat → Prop} (hr : vx_Run p l e R s m args below meth c H locs cells slots mc ms (F0 m pc ls st0) rest (va_Qf post B A1 a) (vx_X px BX AX) free) (hS : va_S A0 H0 H locs) (hA : ∀ q, q < H.size → A1 q → A0 q) (hf : ∀ q, free q → A0 q) (hAX : ∀ q, q < H.size → AX q → A0 q)
    (kx : ∀ (E : String) (ce : Cell) (q9 : Addr) (u : SX) (t : State) (H1 : Heap) (locs1 : List Loc), t.heap = H1 → s.vm.Alike t.vm → px u → BX E u t → H.size ≤ H1.size → (∀ q : Nat, q < H.size → ¬ AX q → H1[q]? = H[q]?) → va_S A0 H0 H1 locs1 → H1[q9]? = some ce → ce.vm = .none → s.vm.findClass E = some ce.cls → vx_W p l e R s m args below meth c H1 locs1 (cells + mc) (slots + ms) Q (F0 m pc ls rest) q9)
    (kk : ∀ (r : UInt32) (u : S) (t : State) (H1 : Heap) (locs1 : List Loc), t.heap = H1 → s.vm.Alike t.vm → post r u → B u t → H.size ≤ H1.size → (∀ q : Nat, q < H.size → ¬ A1 q → H1[q]? = H[q]?) → va_S A0 H0 H1 locs1 → W p l e R s m args below meth c H1 locs1 (cells + mc) (slots + ms) Q (F0 m (pc + 3) ls (.float r :: rest))) : W p l e R s m args below meth c H locs cells slots Q (F0 m pc ls st0) := by
  intro T hT X
  rcases hr T hT X with ⟨v, st₀, t, T', L, h0, X', hL, e1, e2, ⟨⟨r, u, hv, hp, hb⟩, hF⟩, st⟩ | ⟨q, st₀, t, T', L, E, ce, h0, X', hL, e1, e2, ⟨u, hp, hb, hF⟩, hce, hcv, hcl, st⟩
  · cases hv
    obtain ⟨k1, k2, k3⟩ := vx_keep h0 e1 hS hA hf hL hF
    obtain ⟨t2, a1, b1⟩ := kk r u t T'.heap (locs ++ L) e1.symm (by rw [← e2]; exact X'.warmed.alike) hp hb k1 k2 k3 T' rfl X'
    exact ⟨t2, st t2 a1, b1⟩
  · obtain ⟨k1, k2, k3⟩ := vx_keep h0 e1 hS hAX hf hL hF
    obtain ⟨t2, a1, b1⟩ := kx E ce q u t T'.heap (locs ++ L) e1.symm (by rw [← e2]; exact X'.warmed.alike) hp hb k1 k2 k3 (by rw [e1]; exact hce) hcv hcl T' rfl X'
    exact ⟨t2, st.trans a1, b1⟩
theorem vx_calld {S SX : Type} {post : UInt64 → S → Prop} {px : SX → Prop} {B : S → State → Prop} {BX : String → SX → State → Prop} {AX : Nat → Prop} (hr : vx_Run p l e R s m args below meth c H locs cells slots mc ms (F0 m pc ls st0) rest (va_Qd post B A1 a) (vx_X px BX AX) free) (hS : va_S A0 H0 H locs) (hA : ∀ q, q < H.size → A1 q → A0 q) (hf : ∀ q, free q → A0 q) (hAX : ∀ q, q < H.size → AX q → A0 q)
    (kx : ∀ (E : String) (ce : Cell) (q9 : Addr) (u : SX) (t : State) (H1 : Heap) (locs1 : List Loc), t.heap = H1 → s.vm.Alike t.vm → px u → BX E u t → H.size ≤ H1.size → (∀ q : Nat, q < H.size → ¬ AX q → H1[q]? = H[q]?) → va_S A0 H0 H1 locs1 → H1[q9]? = some ce → ce.vm = .none → s.vm.findClass E = some ce.cls → vx_W p l e R s m args below meth c H1 locs1 (cells + mc) (slots + ms) Q (F0 m pc ls rest) q9)
    (kk : ∀ (r : UInt64) (u : S) (t : State) (H1 : Heap) (locs1 : List Loc), t.heap = H1 → s.vm.Alike t.vm → post r u → B u t → H.size ≤ H1.size → (∀ q : Nat, q < H.size → ¬ A1 q → H1[q]? = H[q]?) → va_S A0 H0 H1 locs1 → W p l e R s m args below meth c H1 locs1 (cells + mc) (slots + ms) Q (F0 m (pc + 3) ls (.double r :: rest))) : W p l e R s m args below meth c H locs cells slots Q (F0 m pc ls st0) := by
  intro T hT X
  rcases hr T hT X with ⟨v, st₀, t, T', L, h0, X', hL, e1, e2, ⟨⟨r, u, hv, hp, hb⟩, hF⟩, st⟩ | ⟨q, st₀, t, T', L, E, ce, h0, X', hL, e1, e2, ⟨u, hp, hb, hF⟩, hce, hcv, hcl, st⟩
  · cases hv
    obtain ⟨k1, k2, k3⟩ := vx_keep h0 e1 hS hA hf hL hF
    obtain ⟨t2, a1, b1⟩ := kk r u t T'.heap (locs ++ L) e1.symm (by rw [← e2]; exact X'.warmed.alike) hp hb k1 k2 k3 T' rfl X'
    exact ⟨t2, st t2 a1, b1⟩
  · obtain ⟨k1, k2, k3⟩ := vx_keep h0 e1 hS hAX hf hL hF
    obtain ⟨t2, a1, b1⟩ := kx E ce q u t T'.heap (locs ++ L) e1.symm (by rw [← e2]; exact X'.warmed.alike) hp hb k1 k2 k3 (by rw [e1]; exact hce) hcv hcl T' rfl X'
    exact ⟨t2, st.trans a1, b1⟩
theorem vx_callv {S SX : Type} {post : S → Prop} {px : SX → Prop} {B : S → State → Prop} {BX : String → SX → State → Prop} {AX : Nat → Prop} (hr : vx_Run p l e R s m args below meth c H locs cells slots mc ms (F0 m pc ls st0) rest (va_Qv post B A1 a) (vx_X px BX AX) free) (hS : va_S A0 H0 H locs) (hA : ∀ q, q < H.size → A1 q → A0 q) (hf : ∀ q, free q → A0 q) (hAX : ∀ q, q < H.size → AX q → A0 q)
    (kx : ∀ (E : String) (ce : Cell) (q9 : Addr) (u : SX) (t : State) (H1 : Heap) (locs1 : List Loc), t.heap = H1 → s.vm.Alike t.vm → px u → BX E u t → H.size ≤ H1.size → (∀ q : Nat, q < H.size → ¬ AX q → H1[q]? = H[q]?) → va_S A0 H0 H1 locs1 → H1[q9]? = some ce → ce.vm = .none → s.vm.findClass E = some ce.cls → vx_W p l e R s m args below meth c H1 locs1 (cells + mc) (slots + ms) Q (F0 m pc ls rest) q9)
    (kk : ∀ (u : S) (t : State) (H1 : Heap) (locs1 : List Loc), t.heap = H1 → s.vm.Alike t.vm → post u → B u t → H.size ≤ H1.size → (∀ q : Nat, q < H.size → ¬ A1 q → H1[q]? = H[q]?) → va_S A0 H0 H1 locs1 → W p l e R s m args below meth c H1 locs1 (cells + mc) (slots + ms) Q (F0 m (pc + 3) ls (rest))) : W p l e R s m args below meth c H locs cells slots Q (F0 m pc ls st0) := by
  intro T hT X
  rcases hr T hT X with ⟨v, st₀, t, T', L, h0, X', hL, e1, e2, ⟨⟨u, hv, hp, hb⟩, hF⟩, st⟩ | ⟨q, st₀, t, T', L, E, ce, h0, X', hL, e1, e2, ⟨u, hp, hb, hF⟩, hce, hcv, hcl, st⟩
  · cases hv
    obtain ⟨k1, k2, k3⟩ := vx_keep h0 e1 hS hA hf hL hF
    obtain ⟨t2, a1, b1⟩ := kk u t T'.heap (locs ++ L) e1.symm (by rw [← e2]; exact X'.warmed.alike) hp hb k1 k2 k3 T' rfl X'
    exact ⟨t2, st t2 a1, b1⟩
  · obtain ⟨k1, k2, k3⟩ := vx_keep h0 e1 hS hAX hf hL hF
    obtain ⟨t2, a1, b1⟩ := kx E ce q u t T'.heap (locs ++ L) e1.symm (by rw [← e2]; exact X'.warmed.alike) hp hb k1 k2 k3 (by rw [e1]; exact hce) hcv hcl T' rfl X'
    exact ⟨t2, st.trans a1, b1⟩
/-- caught by the row x of this method's table; the rows ahead don't take it -/
theorem vx_catch {own name : String} {E : String} {ce : Cell} {q : Addr} (hown : s.vm.findClass own = some m.cls) (pre : List ExceptionTableEntry) (x : ExceptionTableEntry) (suf : List ExceptionTableEntry) (hsplit : c.exceptionTable.toList = pre ++ x :: suf)
    (hpass : ∀ z ∈ pre, covers z pc = false ∨ (z.catchType ≠ 0 ∧ ∃ nm : String, (Cond.classLink own z.catchType nm).before args s = true ∧ va_Nc E nm s)) (hx : covers x pc = true) (h0 : x.catchType ≠ 0)
    (hlink : (Cond.classLink own x.catchType name).before args s = true) (hcast : (Cond.castable E name).before args s = true) (hcell : H[q]? = some ce) (hv : ce.vm = .none) (hcl : s.vm.findClass E = some ce.cls)
    (kk : W p l e R s m args below meth c H locs cells slots Q (F0 m x.handlerPc ls [.ref q])) : vx_W p l e R s m args below meth c H locs cells slots Q (F0 m pc ls rest) q := by
  intro T hT X
  have hpl : e.platform.magicAccessors = ({} : Platform).magicAccessors := by rw [X.admits.platform]
  obtain ⟨c3, c4, hc3, hc4, hasg⟩ := Cond.castable_spec hcast
  cases Option.some.inj (hc3.symm.trans hcl)
  obtain ⟨c5, hc5, hcl5⟩ := Cond.classLink_spec hown hlink e.platform hpl
  cases Option.some.inj (hc4.symm.trans hc5)
  obtain ⟨vm', X', st⟩ := X.thenCaughtThrough q (g := F0 m pc ls rest) rfl (Steps.refl _) (by rw [hT]; exact hcell) (by rw [hv]; rfl) (by obtain ⟨k9, h9, -⟩ := Vm.findClass_spec hcl; exact ⟨k9, h9⟩) pre x suf hsplit
    (fun z hz => by
      rcases hpass z hz with h | ⟨hz0, nm, hl1, hn1⟩
      · exact Or.inl h
      · obtain ⟨c6, hc6, hcl6⟩ := Cond.classLink_spec hown hl1 e.platform hpl
        obtain ⟨a8, b8, h1, h2, h3⟩ := hn1
        cases Option.some.inj (h1.symm.trans hcl)
        cases Option.some.inj (h2.symm.trans hc6)
        exact Or.inr ⟨hz0, _, hcl6, h3⟩) hx (Or.inr ⟨h0, c4, hcl5, hasg⟩)
  obtain ⟨t, a1, b1⟩ := kk (T.setVm vm') hT X'
  exact ⟨t, st.trans a1, b1⟩
end Rows
section Ends
variable {p : Program} {l : Launch} {e : Env} {R : Room} {s : State} {m : MethodId} {args : Array Value} {below : List Frame} {meth : Method} {c : Code} {H : Heap} {locs : List Loc} {cells slots : Nat} {Q : State → Prop}
variable {mc ms : Nat} {free : Addr → Prop} {A0 A1 : Nat → Prop} {H0 : Heap} {a : Array Value} {ls : Array Slot} {st0 rest : List Value}
variable {Qc : Array Value → State → Outcome → State → Prop} {XC : String → State → State → Prop}
/-- what a body that may throw owes at its end -/
def vx_MQ (below : List Frame) (Qc : Array Value → State → Outcome → State → Prop) (XC : String → State → State → Prop) (a : Array Value) (s : State) (mc ms : Nat) (free : Addr → Prop) : State → Prop := fun t =>
  ∃ o, t.status = .running ∧ Ended t below o ∧ vx_Q Qc XC mc ms free a s o t
theorem vx_ret {g : JFrame} {mc ms : Nat} (k : W p l e R s m args below meth c H locs cells slots (MQ below Qc args s mc ms free) g) : W p l e R s m args below meth c H locs cells slots (vx_MQ below Qc XC args s mc ms free) g := by
  intro T hT X
  obtain ⟨t, a1, o, b1, b2, b3, b4⟩ := k T hT X
  exact ⟨t, a1, o, b1, b2, Or.inl ⟨b3, b4⟩⟩
/-- not caught here: it goes on to the caller -/
theorem vx_widen {g : JFrame} {q : Addr} {k n : Nat} (h1 : cells ≤ k) (h2 : slots ≤ n) (kk : vx_W p l e R s m args below meth c H locs k n Q g q) : vx_W p l e R s m args below meth c H locs cells slots Q g q := fun T hT X => kk T hT (stand_widen X h1 h2)
theorem vx_out {pc : Nat} {E : String} {ce : Cell} {q : Addr} {mc ms : Nat} (hout : ∀ x ∈ c.exceptionTable.toList, covers x pc = false) (hlocks : meth.locks = false) (hcell : H[q]? = some ce) (hv : ce.vm = .none) (hcl : s.vm.findClass E = some ce.cls)
    (hx : ∀ t : State, t.heap = H → s.vm.Alike t.vm → XC E s t) (hf : ∀ z ∈ locs, free z.base) (hc : cells ≤ mc) (hs : slots ≤ ms) :
    vx_W p l e R s m args below meth c H locs cells slots (vx_MQ below Qc XC args s mc ms free) (F0 m pc ls rest) q := by
  intro T hT X
  obtain ⟨st1, hrun, hend, hW, hsm⟩ := X.leaveThrown q (g := F0 m pc ls rest) rfl rfl rfl hout hlocks
  have hcell9 : (T.setFrames (.throwing q :: below)).heap[q]? = some ce := by
    show T.heap[q]? = some ce
    rw [hT]; exact hcell
  exact ⟨_, st1, .threw q, hrun, hend, Or.inr ⟨q, rfl, E, ce, locs, hx _ hT hW.alike, hcell9, hv, hcl, hW, hsm.mono hc hs, hf⟩⟩
theorem vx_frame {U : State} {k n : Nat} (h : s.sameButNew ({ U with vm := s.vm } : State) locs k n) : s.heap.size ≤ U.heap.size ∧ ∀ q : Nat, q < s.heap.size → (∀ z ∈ locs, z.base ≠ q) → U.heap[q]? = s.heap[q]? := by
  obtain ⟨-, h2, -, -, -, h6⟩ := h
  refine ⟨h2, fun q hq hz => ?_⟩
  obtain ⟨c9, e1, e2, e3, e4⟩ := h6 q _ (Array.getElem?_eq_getElem hq)
  have hs : c9.slots = (s.heap[q]).slots := Array.ext_getElem? fun i => e4 i fun hm => hz _ hm rfl
  have h9 : c9 = s.heap[q] := by
    rw [hs] at e2
    exact e2
  have e5 : U.heap[q]? = some c9 := e1
  rw [e5, h9, Array.getElem?_eq_getElem hq]
/-- the words of a throw but the four that speak of the heap -/
def vx_no (w : Cond) : Bool := decide (w ≠ .isRef (.static Bundle.tN "UNASSIGNED_STACK" Bundle.steD)) && decide (w ≠ .isRef (.static Bundle.tN "SUPPRESSED_SENTINEL" Bundle.listD)) && decide (w ≠ .laysStatic Bundle.tN "UNASSIGNED_STACK" Bundle.steD) && decide (w ≠ .laysStatic Bundle.tN "SUPPRESSED_SENTINEL" Bundle.listD)
def vx_at0 (own : String) (ic : Nat) (X : String) (names : List String) : List Cond := (Bundle.ownAtoms0 own ic X names).filter vx_no
def vx_atS (own : String) (ic : Nat) (X : String) (names : List String) : List Cond := (Bundle.ownAtoms own ic X names).filter vx_no
/-- a word that the tables alone decide, or a good one -/
def vx_ot (w : Cond) : Bool := w.onTables || goodWord w
theorem vx_ot_at {args a' : Array Value} {s U : State} {w : Cond} (hW : s.WarmedH U.vm) (hvm : s.vm = U.vm) (hg : vx_ot w = true) (h : w.before args s = true) : w.before a' U = true := by
  simp only [vx_ot, Bool.or_eq_true] at hg
  rcases hg with hg | hg
  · exact va_tabs hg hvm h
  · exact word_at hW (good_of_word hg) h
/-- a list's words: the good ones out of the method's own list, the others by premises of their own -/
theorem vx_hat {args : Array Value} {s : State} {L B : List Cond} (h1 : ∀ w ∈ L.filter goodWord, w.before args s = true) (h2 : ∀ w ∈ L.filter (fun w => !goodWord w), w ∈ B) (h3 : ∀ w ∈ B, w.before args s = true) : ∀ w ∈ L, w.before args s = true := by
  intro w hw
  by_cases g : goodWord w = true
  · exact h1 w (List.mem_filter.mpr ⟨hw, g⟩)
  · refine h3 w (h2 w (List.mem_filter.mpr ⟨hw, ?_⟩))
    show (!goodWord w) = true
    cases hgw : goodWord w
    · rfl
    · exact absurd hgw g
theorem vx_c {args : Array Value} {s : State} {w : Cond} {B : List Cond} (h : w.before args s = true) (t : ∀ w ∈ B, w.before args s = true) : ∀ w' ∈ w :: B, w'.before args s = true := fun w' h' => (List.mem_cons.mp h').elim (fun e => by rw [e]; exact h) (t w')
theorem vx_n {args : Array Value} {s : State} : ∀ w ∈ ([] : List Cond), w.before args s = true := fun _ h => nomatch h
theorem vx_own {args : Array Value} {s : State} {L : List Cond} (h1 : ∀ w ∈ L.filter vx_no, w.before args s = true)
    (hU : (Cond.isRef (.static Bundle.tN "UNASSIGNED_STACK" Bundle.steD)).before args s = true) (hN : (Cond.isRef (.static Bundle.tN "SUPPRESSED_SENTINEL" Bundle.listD)).before args s = true)
    (lU : (Cond.laysStatic Bundle.tN "UNASSIGNED_STACK" Bundle.steD).before args s = true) (lN : (Cond.laysStatic Bundle.tN "SUPPRESSED_SENTINEL" Bundle.listD).before args s = true) : ∀ w ∈ L, w.before args s = true := by
  intro w hw
  by_cases e1 : w = .isRef (.static Bundle.tN "UNASSIGNED_STACK" Bundle.steD)
  · rw [e1]; exact hU
  · by_cases e2 : w = .isRef (.static Bundle.tN "SUPPRESSED_SENTINEL" Bundle.listD)
    · rw [e2]; exact hN
    · by_cases e3 : w = .laysStatic Bundle.tN "UNASSIGNED_STACK" Bundle.steD
      · rw [e3]; exact lU
      · by_cases e4 : w = .laysStatic Bundle.tN "SUPPRESSED_SENTINEL" Bundle.listD
        · rw [e4]; exact lN
        · exact h1 w (List.mem_filter.mpr ⟨hw, by unfold vx_no; rw [decide_eq_true e1, decide_eq_true e2, decide_eq_true e3, decide_eq_true e4]; rfl⟩)
/-- where a static field lies, its class's statics cell in H -/
def vx_L (C n d : String) (A : Nat → Prop) (U : State) (H : Heap) : Prop := ∃ (c : ClassId) (k : Class) (i : Nat) (f : Field) (a : Nat) (cell : Cell), U.vm.findClass C = some c ∧ U.fieldFound? C n d = some (c, k, i, f) ∧ f.isStatic = true ∧ k.statics = some a ∧ H[a]? = some cell ∧ cell.vm.isStatics = true ∧ cell.cls = c ∧ f.slot < cell.slots.size ∧ k.staticTypes[f.slot]? = some f.type ∧ ¬ A a
theorem vx_L.moved {C n d : String} {A : Nat → Prop} {u U : State} {H : Heap} (hvm : u.vm.Alike U.vm) (h : vx_L C n d A u H) : vx_L C n d A U H := by
  obtain ⟨c, k, i, f, a, cell, h1, h2, h3, h4, h5, h6, h7, h8, h9, h10⟩ := h
  obtain ⟨k', hi', he⟩ := State.fieldFound?_setVm hvm h2
  exact ⟨c, k', i, f, a, cell, by rw [hvm.findClass]; exact h1, hi', h3, by rw [he]; exact h4, h5, h6, h7, h8, by rw [he]; exact h9, h10⟩
theorem vx_L.kept {C n d : String} {A : Nat → Prop} {U : State} {H H1 : Heap} (h : vx_L C n d A U H) (hq : ∀ a : Nat, a < H.size → ¬ A a → H1[a]? = H[a]?) : vx_L C n d A U H1 := by
  obtain ⟨c, k, i, f, a, cell, h1, h2, h3, h4, h5, h6, h7, h8, h9, h10⟩ := h
  exact ⟨c, k, i, f, a, cell, h1, h2, h3, h4, by rw [hq a (Array.getElem?_eq_some_iff.mp h5).1 h10]; exact h5, h6, h7, h8, h9, h10⟩
theorem vx_L.narrow {C n d : String} {A B : Nat → Prop} {U : State} {H : Heap} (h : vx_L C n d A U H) (hAB : ∀ q, B q → A q) : vx_L C n d B U H := by
  obtain ⟨c, k, i, f, a, cell, h1, h2, h3, h4, h5, h6, h7, h8, h9, h10⟩ := h
  exact ⟨c, k, i, f, a, cell, h1, h2, h3, h4, h5, h6, h7, h8, h9, fun z => h10 (hAB _ z)⟩
theorem vx_L.word {C n d : String} {A : Nat → Prop} {s : State} {args : Array Value} (h : vx_L C n d A s s.heap) : (Cond.laysStatic C n d).before args s = true := by
  obtain ⟨c, k, i, f, a, cell, h1, h2, h3, h4, h5, h6, h7, h8, h9, -⟩ := h
  show (Cond.laysStatic C n d).holds args s none s [] = true
  exact Cond.laysStatic_of h1 h2 h3 h4 h5 h6 h7 h8 h9
/-- .. and what it holds: null or some reference -/
def vx_Zq (C n d : String) (A : Nat → Prop) (U : State) (H : Heap) : Prop := va_Zq C n d A U H ∧ vx_L C n d A U H
theorem vx_Zq.moved {C n d : String} {A : Nat → Prop} {u U : State} {H : Heap} (hvm : u.vm.Alike U.vm) (h : vx_Zq C n d A u H) : vx_Zq C n d A U H := ⟨va_Zq.moved hvm h.1, vx_L.moved hvm h.2⟩
theorem vx_Zq.kept {C n d : String} {A : Nat → Prop} {U : State} {H H1 : Heap} (h : vx_Zq C n d A U H) (hq : ∀ a : Nat, a < H.size → ¬ A a → H1[a]? = H[a]?) : vx_Zq C n d A U H1 := ⟨va_Zq.kept h.1 hq, vx_L.kept h.2 hq⟩
theorem vx_Zq.narrow {C n d : String} {A B : Nat → Prop} {U : State} {H : Heap} (h : vx_Zq C n d A U H) (hAB : ∀ q, B q → A q) : vx_Zq C n d B U H := ⟨va_Zq.narrow h.1 hAB, vx_L.narrow h.2 hAB⟩
theorem vx_Zqof {args : Array Value} {s : State} {C n d : String} {A : Nat → Prop} (hl : (Cond.laysStatic C n d).before args s = true) (hini : (Cond.initialized C).before args s = true) (h : (Cond.isRef (.static C n d)).before args s = true) (hA : ∀ a : Nat, a < s.heap.size → ¬ A a) : vx_Zq C n d A s s.heap := by
  refine ⟨va_Zqof hl hini h hA, ?_⟩
  obtain ⟨c, k, i, f, a, cell, h1, h2, h3, h4, h5, h6, h7, h8, h9⟩ := Cond.laysStatic_spec hl
  exact ⟨c, k, i, f, a, cell, h1, h2, h3, h4, h5, h6, h7, h8, h9, hA a (Array.getElem?_eq_some_iff.mp h5).1⟩
theorem vx_isRef {C n d : String} {v : Value} {A : Nat → Prop} {s : State} {args : Array Value} (h : va_Z C n d v A s s.heap) (hv : v.isRef = true) : (Cond.isRef (.static C n d)).before args s = true := by
  obtain ⟨cf, kf, fi, f, a, cell, h1, h2, h3, h4, h5, h6, h7, -⟩ := h
  have he : (Term.static C n d).eval args s none [] s = some v := by
    simp [Term.eval, State.fieldNamed?, h1, h2, h4, h5, h6, h7]
  simp only [Cond.before, Cond.holds, Cond.value, he]
  cases v <;> simp_all [Value.isRef]
theorem vx_isRefq {C n d : String} {A : Nat → Prop} {s : State} {args : Array Value} (h : va_Zq C n d A s s.heap) : (Cond.isRef (.static C n d)).before args s = true := by
  rcases h with h | ⟨t, h⟩
  · exact vx_isRef h rfl
  · exact vx_isRef h rfl
/-- the same frame, seen from here: as if the method were called anew in this heap -/
theorem vx_rebase {T : State} (X : Stand p l e R s m args below meth c T locs cells slots) {R' : Room} (hf : R'.frames ≤ R.frames) (hl : R'.locals ≤ R.locals) (hc : cells + R'.cells ≤ R.cells) (hs : slots + R'.slots ≤ R.slots) :
    Stand p l e R' ((T.setVm s.vm).setFrames (.invoking m args :: below)) m args below meth c T [] 0 0 := by
  have htop : (T.setVm s.vm).topJava?.isSome := X.here.top
  have hF : ((T.setVm s.vm).setFrames (.invoking m args :: below)).frames = .invoking m args :: below := State.frames_setFrames _ (State.cur_lt_of_top htop)
  obtain ⟨g₀, hg0⟩ := Option.isSome_iff_exists.mp htop
  obtain ⟨r, hr⟩ := State.topJava?_eq_some.mp hg0
  have hl9 : e.platform.stackLimits (T.setVm s.vm).me = e.platform.stackLimits s.me := X.limits
  have hb9 : (T.setVm s.vm).me.stackBytes = s.me.stackBytes := X.bytes
  refine ⟨X.admits, X.cas, X.clock, hF, ?_, X.hears, X.method, X.code, X.here, X.tail, X.warmed, ?_, ?_, ?_⟩
  · have h := X.room
    have hU : ((T.setVm s.vm).setFrames (.invoking m args :: below)).localsInUse = s.localsInUse := by
      rw [State.localsInUse_invoking hF (meth := meth) (c := c) X.method X.code, State.localsInUse_invoking X.frames X.method X.code]
    simp only [State.hasRoom, Bool.and_eq_true, decide_eq_true_eq] at h ⊢
    obtain ⟨⟨⟨⟨h1, h2, h3, h4, h5, h6⟩, h7⟩, h8⟩, h9⟩ := h
    rw [X.frames, List.length_cons] at h2 h3
    have q1 := X.heapSize
    have q2 := X.used
    simp only [hF, hU, List.length_cons, State.stackLimits_setFrames, State.stackBytes_setFrames, hl9, hb9]
    refine ⟨⟨⟨⟨by omega, by omega, by omega, by omega, by omega, h6⟩, ?_⟩, ?_⟩, X.book⟩
    · show T.heap.size + R'.cells ≤ e.platform.maxCells
      omega
    · show T.slotsUsed + R'.slots ≤ e.platform.maxSlots
      omega
  · rw [State.stackLimits_setFrames]; rfl
  · rw [State.stackBytes_setFrames]; rfl
  · refine ⟨?_, Nat.le_refl _, Nat.le_refl _, ?_, ?_, fun a c9 h9 => ⟨c9, h9, rfl, rfl, fun _ _ => rfl⟩⟩
    · obtain ⟨t, ht, -⟩ := State.frames_cons hr
      show T.setVm s.vm = { ((T.setVm s.vm).setFrames (.invoking m args :: below)).setFrames (T.setVm s.vm).frames with heap := T.heap, slotsUsed := T.slotsUsed }
      rw [State.setFrames_setFrames, State.setFrames_self ht]
      rfl
    · show T.slotsUsed = T.slotsUsed + ((T.heap.toList.drop T.heap.size).map (·.slots.size)).sum
      rw [List.drop_eq_nil_of_le (Nat.le_of_eq Array.length_toList)]
      rfl
    · show ((T.heap.toList.drop T.heap.size).map (·.slots.size)).sum ≤ 0
      rw [List.drop_eq_nil_of_le (Nat.le_of_eq Array.length_toList)]
      exact Nat.le_refl _
/-- 'throw new E()': new; dup; invokespecial; athrow -/
theorem vx_throw0 {cc : ByteArray} {pc : Nat} (hexec : p.tables.exec = Jvm.exec) (hb : c.code = cc) (hl : l.stackTraces = false) {own cls : String} {names : List String} {ik ic mc ms : Nat} {A : Nat → Prop}
    (hown : s.vm.findClass own = some m.cls) (hcls : Bundle.fit cls = true) (hnames : ∀ n ∈ names, Bundle.fit n = true)
    (hk : (Cond.classLink own ik cls).before args s = true) (hini : (Cond.initialized cls).before args s = true) (hat : ∀ w ∈ vx_at0 own ic cls names, w.before args s = true)
    (hgood : ∀ w ∈ Cond.classLink own ik cls :: Cond.initialized cls :: vx_at0 own ic cls names, vx_ot w = true)
    (hU : vx_Zq Bundle.tN "UNASSIGNED_STACK" Bundle.steD A s s.heap) (hN : vx_Zq Bundle.tN "SUPPRESSED_SENTINEL" Bundle.listD A s s.heap) (hS : va_S A s.heap H locs) (hsize : ls.size = c.maxLocals)
    (d0 : decode cc pc = .ok (.new ik, 3)) (d3 : decode cc (pc + 3) = .ok (.dup, 1)) (d4 : decode cc (pc + 4) = .ok (.invokespecial ic, 3)) (d7 : decode cc (pc + 7) = .ok (.athrow, 1))
    (hout : ∀ x ∈ c.exceptionTable.toList, covers x (pc + 7) = false)
    (hRframes : names.length + 3 < R.frames) (hRlocals : (rest.map fun v => v.category).sum + (13 * (names.length + 1) + 42) ≤ R.locals) (hRcells : cells + 1 ≤ R.cells) (hRslots : slots + 6 ≤ R.slots) (hlocks : meth.locks = false)
    (hx : ∀ t : State, s.vm.Alike t.vm → H.size ≤ t.heap.size → (∀ q : Nat, q < H.size → t.heap[q]? = H[q]?) → XC cls s t)
    (hf : ∀ z ∈ locs, free z.base) (hc : cells + 1 ≤ mc) (hs : slots + 6 ≤ ms) :
    W p l e R s m args below meth c H locs cells slots (vx_MQ below Qc XC args s mc ms free) (F0 m pc ls rest) := by
  intro T hT X
  have htr : e.platform.stackTraces = false := (show e.platform.stackTraces = l.stackTraces by rw [X.admits.platform]).trans hl
  have Y := vx_rebase X (R' := { frames := R.frames, locals := R.locals, cells := 1, slots := 6 }) (Nat.le_refl _) (Nat.le_refl _) hRcells hRslots
  obtain ⟨s', hA⟩ : ∃ z, z = (T.setVm s.vm).setFrames (.invoking m args :: below) := ⟨_, rfl⟩
  rw [← hA] at Y
  have hvm : s'.vm = s.vm := by rw [hA]; rfl
  have hhp : s'.heap = H := by rw [hA]; exact hT
  have hW0 : s.WarmedH s'.vm := by rw [hvm]; exact State.WarmedH.refl s
  have hat' : ∀ w ∈ vx_at0 own ic cls names, w.before args s' = true := fun w hw => vx_ot_at hW0 hvm.symm (hgood w (List.mem_cons_of_mem _ (List.mem_cons_of_mem _ hw))) (hat w hw)
  have hk' : (Cond.classLink own ik cls).before args s' = true := vx_ot_at hW0 hvm.symm (hgood _ List.mem_cons_self) hk
  have hini' : (Cond.initialized cls).before args s' = true := vx_ot_at hW0 hvm.symm (hgood _ (List.mem_cons_of_mem _ List.mem_cons_self)) hini
  have hU' : vx_Zq Bundle.tN "UNASSIGNED_STACK" Bundle.steD A s' s'.heap := by rw [hhp]; exact vx_Zq.moved hW0.alike (hU.kept hS.2.1)
  have hN' : vx_Zq Bundle.tN "SUPPRESSED_SENTINEL" Bundle.listD A s' s'.heap := by rw [hhp]; exact vx_Zq.moved hW0.alike (hN.kept hS.2.1)
  have h : ∀ w ∈ Bundle.ownAtoms0 own ic cls names, w.before args s' = true := vx_own hat' (vx_isRefq hU'.1) (vx_isRefq hN'.1) hU'.2.word hN'.2.word
  have hown' : s'.vm.findClass own = some m.cls := by rw [hvm]; exact hown
  have hins : (Cond.instantiable cls 6).before args s' = true := h _ (by simp [Bundle.ownAtoms0])
  obtain ⟨vm₁, cX, kX, hfX, hkX, -, -, X₁, st1⟩ := Y.newCold hexec (own := own) (C := cls) (index := ik) (n := 6) hown' hk' hins hini'
    (g := F0 m pc ls rest) rfl (by rw [hb]; exact d0) (Nat.le_refl _) (Nat.le_refl _)
  generalize hT1 : (T.setVm vm₁).pushCell { cls := cX, slots := kX.instanceTypes.map defaultValue, vm := .none } = T1 at X₁ st1
  have hcat : (Value.ref T.heap.size).category = 1 := rfl
  have hcellA : T1.heap[T.heap.size]? = some (freshCell cX kX) := by rw [← hT1]; exact State.heap_pushCell_size _ _
  have d3' : decode c.code (pc + 3) = .ok (.dup, 1) := by rw [hb]; exact d3
  obtain ⟨U, hsteps, hrun, hend, hW, hsame, ce, hce, hO⟩ := X₁.ctorThrow0 hexec htr (own := own) (cls := cls) (names := names) (ic := ic) hown' hcls hnames h (fun x hx => nomatch hx) hfX hkX hcellA (by rw [hhp, hT]; exact Nat.le_refl _)
    (g := { method := m, pc := pc + 4, locals := ls, stack := .ref T.heap.size :: .ref T.heap.size :: rest, locked := none }) rfl hsize rfl rfl (rest := rest) rfl
    (by rw [hb]; exact d4) (by rw [hb]; exact d7) hout hRframes (by simp only [List.map_cons, List.sum_cons, hcat]; omega) hlocks
  obtain ⟨f1, f2⟩ := vx_frame hsame
  rw [hhp] at f1 f2
  have hWs : s.WarmedH U.vm := State.WarmedH.trans hW0 hW
  have hcl : s.vm.findClass cls = some ce.cls := by
    have h9 := hO.cls
    rw [hvm] at h9
    exact h9
  have hall : s.sameButNew ({ U with vm := s.vm } : State) locs mc ms := by
    subst hA
    obtain ⟨e1, e2⟩ := hsame
    rw [State.setFrames_setFrames] at e1
    have h2 : (T.setVm s.vm).sameButNew ({ U with vm := s.vm } : State) [] (0 + 1) (0 + 6) := ⟨e1, e2⟩
    have h3 := X.same.trans h2
    rw [List.append_nil] at h3
    exact h3.mono hc hs
  refine ⟨U, ?_, .threw T.heap.size, hrun, hend, Or.inr ⟨T.heap.size, rfl, cls, ce, locs, hx U hWs.alike f1 (fun q hq => f2 q hq (fun z hz => nomatch hz)), hce, hO.vm, hcl, hWs, hall, hf⟩⟩
  refine st1 _ ?_
  show Steps p.tables e below (T1.setTop { method := m, pc := pc + 3, locals := ls, stack := .ref T.heap.size :: rest, locked := none }) _
  jvm_step X₁.here [X₁.here.top, hexec, d3', Value.category]
  exact hsteps
/-- 'throw new E("text")': new; dup; ldc; invokespecial; athrow -/
theorem vx_throwS {cc : ByteArray} {pc : Nat} (hexec : p.tables.exec = Jvm.exec) (hb : c.code = cc) (hl : l.stackTraces = false) {own cls text : String} {names : List String} {ik is ic mc ms sa : Nat} {A : Nat → Prop}
    (hown : s.vm.findClass own = some m.cls) (hcls : Bundle.fit cls = true) (hnames : ∀ n ∈ names, Bundle.fit n = true)
    (hk : (Cond.classLink own ik cls).before args s = true) (hini : (Cond.initialized cls).before args s = true) (hstr : vk_R own is text sa s) (hat : ∀ w ∈ vx_atS own ic cls names, w.before args s = true)
    (hgood : ∀ w ∈ Cond.classLink own ik cls :: Cond.initialized cls :: vx_atS own ic cls names, vx_ot w = true)
    (hU : vx_Zq Bundle.tN "UNASSIGNED_STACK" Bundle.steD A s s.heap) (hN : vx_Zq Bundle.tN "SUPPRESSED_SENTINEL" Bundle.listD A s s.heap) (hS : va_S A s.heap H locs) (hsize : ls.size = c.maxLocals)
    (d0 : decode cc pc = .ok (.new ik, 3)) (d3 : decode cc (pc + 3) = .ok (.dup, 1)) (d4 : decode cc (pc + 4) = .ok (.ldc is, 2)) (d6 : decode cc (pc + 6) = .ok (.invokespecial ic, 3)) (d9 : decode cc (pc + 9) = .ok (.athrow, 1))
    (hout : ∀ x ∈ c.exceptionTable.toList, covers x (pc + 9) = false)
    (hRframes : names.length + 3 < R.frames) (hRlocals : (rest.map fun v => v.category).sum + (13 * (names.length + 1) + 43) ≤ R.locals) (hRcells : cells + 1 ≤ R.cells) (hRslots : slots + 6 ≤ R.slots) (hlocks : meth.locks = false)
    (hx : ∀ t : State, s.vm.Alike t.vm → H.size ≤ t.heap.size → (∀ q : Nat, q < H.size → t.heap[q]? = H[q]?) → XC cls s t)
    (hf : ∀ z ∈ locs, free z.base) (hc : cells + 1 ≤ mc) (hs : slots + 6 ≤ ms) :
    W p l e R s m args below meth c H locs cells slots (vx_MQ below Qc XC args s mc ms free) (F0 m pc ls rest) := by
  intro T hT X
  have htr : e.platform.stackTraces = false := (show e.platform.stackTraces = l.stackTraces by rw [X.admits.platform]).trans hl
  have Y := vx_rebase X (R' := { frames := R.frames, locals := R.locals, cells := 1, slots := 6 }) (Nat.le_refl _) (Nat.le_refl _) hRcells hRslots
  obtain ⟨s', hA⟩ : ∃ z, z = (T.setVm s.vm).setFrames (.invoking m args :: below) := ⟨_, rfl⟩
  rw [← hA] at Y
  have hvm : s'.vm = s.vm := by rw [hA]; rfl
  have hhp : s'.heap = H := by rw [hA]; exact hT
  have hW0 : s.WarmedH s'.vm := by rw [hvm]; exact State.WarmedH.refl s
  have hat' : ∀ w ∈ vx_atS own ic cls names, w.before args s' = true := fun w hw => vx_ot_at hW0 hvm.symm (hgood w (List.mem_cons_of_mem _ (List.mem_cons_of_mem _ hw))) (hat w hw)
  have hk' : (Cond.classLink own ik cls).before args s' = true := vx_ot_at hW0 hvm.symm (hgood _ List.mem_cons_self) hk
  have hini' : (Cond.initialized cls).before args s' = true := vx_ot_at hW0 hvm.symm (hgood _ (List.mem_cons_of_mem _ List.mem_cons_self)) hini
  have hU' : vx_Zq Bundle.tN "UNASSIGNED_STACK" Bundle.steD A s' s'.heap := by rw [hhp]; exact vx_Zq.moved hW0.alike (hU.kept hS.2.1)
  have hN' : vx_Zq Bundle.tN "SUPPRESSED_SENTINEL" Bundle.listD A s' s'.heap := by rw [hhp]; exact vx_Zq.moved hW0.alike (hN.kept hS.2.1)
  have h : ∀ w ∈ Bundle.ownAtoms own ic cls names, w.before args s' = true := vx_own hat' (vx_isRefq hU'.1) (vx_isRefq hN'.1) hU'.2.word hN'.2.word
  have hown' : s'.vm.findClass own = some m.cls := by rw [hvm]; exact hown
  have hins : (Cond.instantiable cls 6).before args s' = true := h _ (by simp [Bundle.ownAtoms])
  obtain ⟨vm₁, cX, kX, hfX, hkX, -, -, X₁, st1⟩ := Y.newCold hexec (own := own) (C := cls) (index := ik) (n := 6) hown' hk' hins hini'
    (g := F0 m pc ls rest) rfl (by rw [hb]; exact d0) (Nat.le_refl _) (Nat.le_refl _)
  generalize hT1 : (T.setVm vm₁).pushCell { cls := cX, slots := kX.instanceTypes.map defaultValue, vm := .none } = T1 at X₁ st1
  have hcat : (Value.ref T.heap.size).category = 1 := rfl
  have hcellA : T1.heap[T.heap.size]? = some (freshCell cX kX) := by rw [← hT1]; exact State.heap_pushCell_size _ _
  have d3' : decode c.code (pc + 3) = .ok (.dup, 1) := by rw [hb]; exact d3
  have d4' : decode c.code (pc + 4) = .ok (.ldc is, 2) := by rw [hb]; exact d4
  have hstr' : vk_R own is text sa s' := vk_R.warm hW0 hstr
  obtain ⟨U, hsteps, hrun, hend, hW, hsame, ce, hce, hO⟩ := X₁.ctorThrowS hexec htr (own := own) (cls := cls) (names := names) (ic := ic) hown' hcls hnames h (fun x hx => nomatch hx) hfX hkX hcellA (by rw [hhp, hT]; exact Nat.le_refl _) (msg := .ref sa) rfl
    (g := { method := m, pc := pc + 6, locals := ls, stack := .ref sa :: .ref T.heap.size :: .ref T.heap.size :: rest, locked := none }) rfl hsize rfl rfl (rest := rest) rfl
    (by rw [hb]; exact d6) (by rw [hb]; exact d9) hout hRframes (by simp only [List.map_cons, List.sum_cons, hcat]; omega) hlocks
  obtain ⟨f1, f2⟩ := vx_frame hsame
  rw [hhp] at f1 f2
  have hWs : s.WarmedH U.vm := State.WarmedH.trans hW0 hW
  have hcl : s.vm.findClass cls = some ce.cls := by
    have h9 := hO.cls
    rw [hvm] at h9
    exact h9
  have hall : s.sameButNew ({ U with vm := s.vm } : State) locs mc ms := by
    subst hA
    obtain ⟨e1, e2⟩ := hsame
    rw [State.setFrames_setFrames] at e1
    have h2 : (T.setVm s.vm).sameButNew ({ U with vm := s.vm } : State) [] (0 + 1) (0 + 6) := ⟨e1, e2⟩
    have h3 := X.same.trans h2
    rw [List.append_nil] at h3
    exact h3.mono hc hs
  refine ⟨U, ?_, .threw T.heap.size, hrun, hend, Or.inr ⟨T.heap.size, rfl, cls, ce, locs, hx U hWs.alike f1 (fun q hq => f2 q hq (fun z hz => nomatch hz)), hce, hO.vm, hcl, hWs, hall, hf⟩⟩
  refine st1 _ ?_
  show Steps p.tables e below (T1.setTop { method := m, pc := pc + 3, locals := ls, stack := .ref T.heap.size :: rest, locked := none }) _
  jvm_step X₁.here [X₁.here.top, hexec, d3', Value.category]
  exact X₁.ldcString hexec (own := own) (text := text) (index := is) (a := sa) hown' hstr'.1 hstr'.2
    (g := { method := m, pc := pc + 4, locals := ls, stack := .ref T.heap.size :: .ref T.heap.size :: rest, locked := none }) rfl d4' _ hsteps
/-- 'throw new E("text")', the text by a wide index -/
theorem vx_throwSW {cc : ByteArray} {pc : Nat} (hexec : p.tables.exec = Jvm.exec) (hb : c.code = cc) (hl : l.stackTraces = false) {own cls text : String} {names : List String} {ik is ic mc ms sa : Nat} {A : Nat → Prop}
    (hown : s.vm.findClass own = some m.cls) (hcls : Bundle.fit cls = true) (hnames : ∀ n ∈ names, Bundle.fit n = true)
    (hk : (Cond.classLink own ik cls).before args s = true) (hini : (Cond.initialized cls).before args s = true) (hstr : vk_R own is text sa s) (hat : ∀ w ∈ vx_atS own ic cls names, w.before args s = true)
    (hgood : ∀ w ∈ Cond.classLink own ik cls :: Cond.initialized cls :: vx_atS own ic cls names, vx_ot w = true)
    (hU : vx_Zq Bundle.tN "UNASSIGNED_STACK" Bundle.steD A s s.heap) (hN : vx_Zq Bundle.tN "SUPPRESSED_SENTINEL" Bundle.listD A s s.heap) (hS : va_S A s.heap H locs) (hsize : ls.size = c.maxLocals)
    (d0 : decode cc pc = .ok (.new ik, 3)) (d3 : decode cc (pc + 3) = .ok (.dup, 1)) (d4 : decode cc (pc + 4) = .ok (.ldc_w is, 3)) (d7 : decode cc (pc + 7) = .ok (.invokespecial ic, 3)) (d10 : decode cc (pc + 10) = .ok (.athrow, 1))
    (hout : ∀ x ∈ c.exceptionTable.toList, covers x (pc + 10) = false)
    (hRframes : names.length + 3 < R.frames) (hRlocals : (rest.map fun v => v.category).sum + (13 * (names.length + 1) + 43) ≤ R.locals) (hRcells : cells + 1 ≤ R.cells) (hRslots : slots + 6 ≤ R.slots) (hlocks : meth.locks = false)
    (hx : ∀ t : State, s.vm.Alike t.vm → H.size ≤ t.heap.size → (∀ q : Nat, q < H.size → t.heap[q]? = H[q]?) → XC cls s t)
    (hf : ∀ z ∈ locs, free z.base) (hc : cells + 1 ≤ mc) (hs : slots + 6 ≤ ms) :
    W p l e R s m args below meth c H locs cells slots (vx_MQ below Qc XC args s mc ms free) (F0 m pc ls rest) := by
  intro T hT X
  have htr : e.platform.stackTraces = false := (show e.platform.stackTraces = l.stackTraces by rw [X.admits.platform]).trans hl
  have Y := vx_rebase X (R' := { frames := R.frames, locals := R.locals, cells := 1, slots := 6 }) (Nat.le_refl _) (Nat.le_refl _) hRcells hRslots
  obtain ⟨s', hA⟩ : ∃ z, z = (T.setVm s.vm).setFrames (.invoking m args :: below) := ⟨_, rfl⟩
  rw [← hA] at Y
  have hvm : s'.vm = s.vm := by rw [hA]; rfl
  have hhp : s'.heap = H := by rw [hA]; exact hT
  have hW0 : s.WarmedH s'.vm := by rw [hvm]; exact State.WarmedH.refl s
  have hat' : ∀ w ∈ vx_atS own ic cls names, w.before args s' = true := fun w hw => vx_ot_at hW0 hvm.symm (hgood w (List.mem_cons_of_mem _ (List.mem_cons_of_mem _ hw))) (hat w hw)
  have hk' : (Cond.classLink own ik cls).before args s' = true := vx_ot_at hW0 hvm.symm (hgood _ List.mem_cons_self) hk
  have hini' : (Cond.initialized cls).before args s' = true := vx_ot_at hW0 hvm.symm (hgood _ (List.mem_cons_of_mem _ List.mem_cons_self)) hini
  have hU' : vx_Zq Bundle.tN "UNASSIGNED_STACK" Bundle.steD A s' s'.heap := by rw [hhp]; exact vx_Zq.moved hW0.alike (hU.kept hS.2.1)
  have hN' : vx_Zq Bundle.tN "SUPPRESSED_SENTINEL" Bundle.listD A s' s'.heap := by rw [hhp]; exact vx_Zq.moved hW0.alike (hN.kept hS.2.1)
  have h : ∀ w ∈ Bundle.ownAtoms own ic cls names, w.before args s' = true := vx_own hat' (vx_isRefq hU'.1) (vx_isRefq hN'.1) hU'.2.word hN'.2.word
  have hown' : s'.vm.findClass own = some m.cls := by rw [hvm]; exact hown
  have hins : (Cond.instantiable cls 6).before args s' = true := h _ (by simp [Bundle.ownAtoms])
  obtain ⟨vm₁, cX, kX, hfX, hkX, -, -, X₁, st1⟩ := Y.newCold hexec (own := own) (C := cls) (index := ik) (n := 6) hown' hk' hins hini'
    (g := F0 m pc ls rest) rfl (by rw [hb]; exact d0) (Nat.le_refl _) (Nat.le_refl _)
  generalize hT1 : (T.setVm vm₁).pushCell { cls := cX, slots := kX.instanceTypes.map defaultValue, vm := .none } = T1 at X₁ st1
  have hcat : (Value.ref T.heap.size).category = 1 := rfl
  have hcellA : T1.heap[T.heap.size]? = some (freshCell cX kX) := by rw [← hT1]; exact State.heap_pushCell_size _ _
  have d3' : decode c.code (pc + 3) = .ok (.dup, 1) := by rw [hb]; exact d3
  have d4' : decode c.code (pc + 4) = .ok (.ldc_w is, 3) := by rw [hb]; exact d4
  have hstr' : vk_R own is text sa s' := vk_R.warm hW0 hstr
  obtain ⟨U, hsteps, hrun, hend, hW, hsame, ce, hce, hO⟩ := X₁.ctorThrowS hexec htr (own := own) (cls := cls) (names := names) (ic := ic) hown' hcls hnames h (fun x hx => nomatch hx) hfX hkX hcellA (by rw [hhp, hT]; exact Nat.le_refl _) (msg := .ref sa) rfl
    (g := { method := m, pc := pc + 7, locals := ls, stack := .ref sa :: .ref T.heap.size :: .ref T.heap.size :: rest, locked := none }) rfl hsize rfl rfl (rest := rest) rfl
    (by rw [hb]; exact d7) (by rw [hb]; exact d10) hout hRframes (by simp only [List.map_cons, List.sum_cons, hcat]; omega) hlocks
  obtain ⟨f1, f2⟩ := vx_frame hsame
  rw [hhp] at f1 f2
  have hWs : s.WarmedH U.vm := State.WarmedH.trans hW0 hW
  have hcl : s.vm.findClass cls = some ce.cls := by
    have h9 := hO.cls
    rw [hvm] at h9
    exact h9
  have hall : s.sameButNew ({ U with vm := s.vm } : State) locs mc ms := by
    subst hA
    obtain ⟨e1, e2⟩ := hsame
    rw [State.setFrames_setFrames] at e1
    have h2 : (T.setVm s.vm).sameButNew ({ U with vm := s.vm } : State) [] (0 + 1) (0 + 6) := ⟨e1, e2⟩
    have h3 := X.same.trans h2
    rw [List.append_nil] at h3
    exact h3.mono hc hs
  refine ⟨U, ?_, .threw T.heap.size, hrun, hend, Or.inr ⟨T.heap.size, rfl, cls, ce, locs, hx U hWs.alike f1 (fun q hq => f2 q hq (fun z hz => nomatch hz)), hce, hO.vm, hcl, hWs, hall, hf⟩⟩
  refine st1 _ ?_
  show Steps p.tables e below (T1.setTop { method := m, pc := pc + 3, locals := ls, stack := .ref T.heap.size :: rest, locked := none }) _
  jvm_step X₁.here [X₁.here.top, hexec, d3', Value.category]
  exact X₁.ldcStringW hexec (own := own) (text := text) (index := is) (a := sa) hown' hstr'.1 hstr'.2
    (g := { method := m, pc := pc + 4, locals := ls, stack := .ref T.heap.size :: .ref T.heap.size :: rest, locked := none }) rfl d4' _ hsteps
end Ends
section Bodies
variable {l : Launch}
theorem vx_ofW {y : MethodName} {ws ws' : List Cond} {rm : Room} {Pc : Array Value → State → Prop} {Qc : Array Value → State → Outcome → State → Prop} {XC : String → State → State → Prop} {mc ms : Nat} {free : Addr → Prop} {cc : ByteArray} {maxL : Nat} {ret : Option FieldType}
    (hy : plainName y.cls = true) (hw : ws = Cond.code y cc maxL ret :: ws')
    (body : ∀ p e s m args below meth c s₁, BodyLoose p l y (headSpec ws rm) cc maxL ret e s m args below meth c s₁ → c.maxLocals = maxL → (∀ x ∈ c.exceptionTable.toList, False) → Pc args s →
      W p l e (headSpec ws rm).room s m args below meth c s.heap [] 0 0 (vx_MQ below Qc XC args s mc ms free) (entryFrame m args maxL)) : vx_Met l y ws rm Pc Qc XC mc ms free := by
  refine MetFree.of_bodyS (code := cc) (maxLocals := maxL) (ret := ret) hy ?_ ?_
  · intro args s m h hn
    obtain ⟨meth, c, h1, h2, h3, h4, h5, h6, -, -⟩ := Cond.code_spec hn (atoms_spec (ws := ws) h _ (by rw [hw]; exact List.mem_cons_self))
    exact ⟨meth, c, h1, h2, h3, h4, h5, h6⟩
  · intro p e s m args below meth c s₁ B hml hP _
    have hh0 : s₁.heap = s.heap := by rw [B.state]; rfl
    have ht : ∀ x ∈ c.exceptionTable.toList, False := by
      obtain ⟨meth9, c9, h1, h2, -, -, -, -, h7, -⟩ := Cond.code_spec B.named (atoms_spec (ws := ws) B.pre _ (by rw [hw]; exact List.mem_cons_self))
      cases Option.some.inj (h1.symm.trans B.method)
      cases Option.some.inj (h2.symm.trans (Stand.of_body B).code)
      intro x hx
      rw [Array.isEmpty_iff.mp h7] at hx
      cases hx
    obtain ⟨t, a1, o, b1, b2, b3⟩ := body p e s m args below meth c s₁ B hml ht hP s₁ hh0 (Stand.of_body B)
    exact ⟨t, o, a1, b1, b2, b3⟩
/-- the table of a body with handlers -/
theorem vx_table {p : Program} {x y : MethodName} {S : Spec} {cc bytes : ByteArray} {maxL maxL' : Nat} {ret ret' : Option FieldType} {e : Env} {s s₁ : State} {m : MethodId} {args : Array Value} {below : List Frame} {meth : Method} {c : Code} {hh : List (Nat × Nat × Nat × Nat)}
    (B : BodyLoose p l y S cc maxL ret e s m args below meth c s₁) (h : (Cond.codeWith y bytes maxL' ret' hh).before args s = true) : c.exceptionTable.toList = tableOf hh := by
  obtain ⟨m9, meth9, c9, hn9, h1, h2, -, -, h6, -⟩ := Cond.codeWith_spec h
  cases Option.some.inj (hn9.symm.trans B.named)
  cases Option.some.inj (h1.symm.trans B.method)
  cases Option.some.inj (h2.symm.trans (Stand.of_body B).code)
  rw [← h6, table_eq]
end Bodies
end VXA
/-! ===== END ===== -/
/-! ===== BEGIN a static call of a method with an exception table ===== -/
section VXS
variable {p : Program} {l : Launch} {e : Env} {R : Room} {s : State} {m : MethodId} {args : Array Value} {below : List Frame} {meth : Method} {c : Code} {T : State} {H : Heap} {locs : List Loc} {cells slots : Nat}
abbrev vx_CSW (R : Room) (s : State) (args : Array Value) (own : String) (index : Nat) (y : MethodName) (bytes : ByteArray) (maxL : Nat) (ret : Option FieldType) (hh : List (Nat × Nat × Nat × Nat)) (ws : List Cond) (rm : Room) (mc ms n : Nat) : Prop :=
  (rm.cells = mc ∧ rm.slots = ms ∧ rm.frames + 1 ≤ R.frames ∧ 8 + (maxL + 11) + rm.locals ≤ R.locals ∧ (∀ w ∈ ws, ∀ (a' : Array Value) (U : State), s.WarmedH U.vm → w.before a' U = true) ∧ Cond.codeWith y bytes maxL ret hh ∈ ws) ∧
  (Cond.codeWith y bytes maxL ret hh).before args s = true ∧ (Cond.initialized y.cls).before args s = true ∧ (y.cls ≠ "java/lang/invoke/MethodHandle" ∧ y.cls ≠ "java/lang/invoke/VarHandle") ∧
  (∀ sig, parseMethodDescriptor y.desc = some sig → n = sig.parameters.length) ∧ (Cond.methodLink own index y).before args s = true ∧ (Cond.static y).before args s = true
theorem vx_cwSW {own : String} {index maxL mc ms : Nat} {y : MethodName} {bytes : ByteArray} {ret : Option FieldType} {hh : List (Nat × Nat × Nat × Nat)} {Ts ws ws' : List Cond} {rm : Room} (n : Nat) (ht : ∀ w ∈ Ts, w.before args s = true) (hT : GoodIn Ts (va_wsS own index y ws)) (hw : ws = Cond.codeWith y bytes maxL ret hh :: ws') (hrc : rm.cells = mc) (hrs : rm.slots = ms)
    (hd : y.cls ≠ "java/lang/invoke/MethodHandle" ∧ y.cls ≠ "java/lang/invoke/VarHandle" ∧ (parseMethodDescriptor y.desc).map (fun d => d.parameters.length) = some n) (hR : rm.frames + 1 ≤ R.frames ∧ 8 + (maxL + 11) + rm.locals ≤ R.locals) :
    vx_CSW R s args own index y bytes maxL ret hh ws rm mc ms n := by
  have ok : ∀ w ∈ va_wsS own index y ws, w.before args s = true := fun w h => ht w (hT w h).1
  have hG : GoodIn Ts ws := fun w h => hT w (by unfold va_wsS; exact List.mem_append_right _ h)
  have hc : Cond.codeWith y bytes maxL ret hh ∈ ws := by rw [hw]; exact List.mem_cons_self
  refine ⟨⟨hrc, hrs, hR.1, hR.2, pay_in ht hG, hc⟩, ht _ (hG _ hc).1, ok _ (by simp [va_wsS]), ⟨hd.1, hd.2.1⟩, fun sig h => ?_, ok _ (by simp [va_wsS]), ok _ (by simp [va_wsS])⟩
  have h2 := hd.2.2
  rw [h] at h2
  exact (Option.some.inj h2).symm
theorem vx_callSW (X : Stand p l e R s m args below meth c T locs cells slots) (hexec : p.tables.exec = Jvm.exec) {own : String} {index : Nat} {y : MethodName} {bytes : ByteArray} {maxL : Nat} {ret : Option FieldType} {hh : List (Nat × Nat × Nat × Nat)}
    (hown : s.vm.findClass own = some m.cls) (hlink : (Cond.methodLink own index y).before args s = true) (hstat : (Cond.static y).before args s = true) (hinit : (Cond.initialized y.cls).before args s = true)
    (hcode : (Cond.codeWith y bytes maxL ret hh).before args s = true) (hy : y.cls ≠ "java/lang/invoke/MethodHandle" ∧ y.cls ≠ "java/lang/invoke/VarHandle")
    {W9 : Nat} {Pre : Pt → Array Value → Prop} {Post : Pt → Array Value → Option Value → Pt → Prop} (hK : Back l R p e below s args y 3 W9 Pre Post)
    {g : JFrame} (hg : g.method = m) (hsize : g.locals.size = c.maxLocals) {argsL rest : List Value} (hlen : ∀ sig, parseMethodDescriptor y.desc = some sig → argsL.length = sig.parameters.length)
    (hstack : g.stack = argsL.reverse ++ rest) (hW : 2 * g.monitorRoom + (rest.map fun v => v.category).sum ≤ W9) (hdg : decode c.code g.pc = .ok (.invokestatic index, 3))
    (hpre : ∀ vm₁, s.WarmedH vm₁ → Pre ⟨T.setVm vm₁, locs, cells, slots⟩ argsL.toArray) :
    ∃ (v : Option Value) (vm₁ : Vm) (B : Pt), s.WarmedH vm₁ ∧ Stand p l e R s m args below meth c B.U B.locs B.cells B.slots ∧ Post ⟨T.setVm vm₁, locs, cells, slots⟩ argsL.toArray v B ∧
      ∀ target, Steps p.tables e below (B.U.setTop { g with pc := g.pc + 3, stack := v.toList ++ rest }) target → Steps p.tables e below (T.setTop g) target := by
  obtain ⟨mk, methM, cM, hnamed, hmethM, -, -, -, -, -, -, hsigM⟩ := Cond.codeWith_spec hcode
  have hstatic : methM.isStatic = true := Cond.static_spec hnamed hmethM hstat
  obtain ⟨kP, hkP, -⟩ := className_of_methodNamed hnamed
  have hinitP : kP.init = .initialized := Cond.initialized_spec (findClass_of_methodNamed hnamed) hkP hinit
  obtain ⟨vm₁, X₁, hstep₁⟩ := X.invokestatic hexec hown hlink hnamed hmethM hstatic hkP hinitP hy (g := g) hg (argsL := argsL) (rest := rest) (hlen _ hsigM) hstack hdg
  obtain ⟨v, B, X', hpost, hsteps⟩ := hK m meth c ⟨T.setVm vm₁, locs, cells, slots⟩ { g with stack := rest } (.invokestatic index) mk argsL.toArray X₁ hg hsize hdg hW (X₁.named hnamed) (hpre vm₁ X₁.warmed)
  exact ⟨v, vm₁, B, X₁.warmed, X', hpost, fun target h => hstep₁ _ fun acts => by rw [doInvoke_state]; exact hsteps.trans h⟩
theorem vx_runSW {y : MethodName} {bytes cc : ByteArray} {maxL nL mc ms n index : Nat} {ret : Option FieldType} {hh : List (Nat × Nat × Nat × Nat)} {ws : List Cond} {rm : Room} {Pc : Array Value → State → Prop} {Qc : Array Value → State → Outcome → State → Prop} {free : Addr → Prop} {Ts : List Cond} {own : String} {As rest : List Value} {g : JFrame}
    (S : CallFix p m c cc nL s args Ts own) (hM : Met l y ws rm Pc Qc mc ms free) (cw : vx_CSW R s args own index y bytes maxL ret hh ws rm mc ms n) (hp : PreS s H Pc As)
    (hg : g.method = m) (hn : As.length = n) (hsize : g.locals.size = nL) (hstack : g.stack = As.reverse ++ rest) (hW : 2 * g.monitorRoom + (rest.map fun v => v.category).sum ≤ 8) (hdg : decode cc g.pc = .ok (.invokestatic index, 3)) (hf : cells + mc ≤ R.cells ∧ slots + ms ≤ R.slots) :
    va_Run p l e R s m args below meth c H locs cells slots mc ms g rest (Qc As.toArray) (free) := by
  obtain ⟨⟨hrc, hrs, hfr, hlo, hws, hcw⟩, hcode, hini, hy, hlen, hl, hstt⟩ := cw
  have hK : Back l R p e below s args y 3 8 (PreOf R mc ms Pc) (PostOf Qc mc ms free) := va_backW (hh := hh) (bytes := bytes) (maxL := maxL) (ret := ret) hM hp.1 hrc hrs hfr hlo hws hcw (fun a' U hW => word_at hW (Or.inl (by first | rfl | simp [Cond.onTables, Cond.keeps, Cond.steady])) hini)
  obtain ⟨hx, hb, hml, ho, -⟩ := S
  intro T hT X
  obtain ⟨v, vm₁, ⟨U', l2, c2, s2⟩, hW₁, X', ⟨g', mk, t, L, e1, e2, hq, h1, hL, h2, h3⟩, st⟩ := vx_callSW X hx (hh := hh) (bytes := bytes) (maxL := maxL) (ret := ret) ho hl hstt hini hcode hy hK hg (hsize.trans hml.symm) (argsL := As) (rest := rest) (fun sig h => hn.trans (hlen sig h)) hstack hW (by rw [hb]; exact hdg)
    (fun vm₁ hW₁ => ⟨hf.1, hf.2, hp.2 (T.setVm vm₁) hT hW₁⟩)
  dsimp only [Pt.U, Pt.locs, Pt.cells, Pt.slots] at X' e1 e2 h1 h2 h3 st
  subst h1; subst h2; subst h3
  exact ⟨v, (T.setVm vm₁).calling g' mk As.toArray, t, U', L, hT, X', hL, e1, e2, hq, st⟩
/-- not caught here, past rows that name other classes: it goes on to the caller -/
theorem vx_outP {p : Program} {l : Launch} {e : Env} {R : Room} {s : State} {m : MethodId} {args : Array Value} {below : List Frame} {meth : Method} {c : Code} {H : Heap} {locs : List Loc} {cells slots : Nat} {free : Addr → Prop} {ls : Array Slot} {rest : List Value} {Qc : Array Value → State → Outcome → State → Prop} {XC : String → State → State → Prop}
    {pc : Nat} {own E : String} {ce : Cell} {q : Addr} {mc ms : Nat} (hown : s.vm.findClass own = some m.cls) (hlocks : meth.locks = false)
    (hpass : ∀ z ∈ c.exceptionTable.toList, covers z pc = false ∨ (z.catchType ≠ 0 ∧ ∃ nm : String, (Cond.classLink own z.catchType nm).before args s = true ∧ va_Nc E nm s)) (hcell : H[q]? = some ce) (hv : ce.vm = .none) (hcl : s.vm.findClass E = some ce.cls)
    (hx : ∀ t : State, t.heap = H → s.vm.Alike t.vm → XC E s t) (hf : ∀ z ∈ locs, free z.base) (hc : cells ≤ mc) (hs : slots ≤ ms) :
    vx_W p l e R s m args below meth c H locs cells slots (vx_MQ below Qc XC args s mc ms free) (F0 m pc ls rest) q := by
  intro T hT X
  have hpl : e.platform.magicAccessors = ({} : Platform).magicAccessors := by rw [X.admits.platform]
  obtain ⟨vm', hW', X', st⟩ := X.outThrough hlocks q (g := F0 m pc ls rest) rfl rfl rfl (cell := ce) (by rw [hT]; exact hcell) (by rw [hv]; rfl)
    (by obtain ⟨k9, h9, -⟩ := Vm.findClass_spec hcl; exact ⟨k9, h9⟩) (fun z hz => by
      rcases hpass z hz with h | ⟨hz0, nm, hl1, hn1⟩
      · exact Or.inl h
      · obtain ⟨c6, hc6, hcl6⟩ := Cond.classLink_spec hown hl1 e.platform hpl
        obtain ⟨a8, b8, h1, h2, h3⟩ := hn1
        cases Option.some.inj (h1.symm.trans hcl)
        cases Option.some.inj (h2.symm.trans hc6)
        exact Or.inr ⟨hz0, _, hcl6, h3⟩)
  obtain ⟨g₀, hfr⟩ := X'.frames_eq
  have hcell9 : ((T.setVm vm').setFrames (.throwing q :: below)).heap[q]? = some ce := by
    show T.heap[q]? = some ce
    rw [hT]; exact hcell
  have hend : Ended ((T.setVm vm').setFrames (.throwing q :: below)) below (.threw q) := State.frames_setFrames _ (State.cur_lt_of_frames hfr)
  refine ⟨(T.setVm vm').setFrames (.throwing q :: below), ?_, .threw q, X'.here.running, hend, Or.inr ⟨q, rfl, E, ce, locs, hx _ hT (X'.ends _).1.alike, hcell9, hv, hcl, (X'.ends _).1, (X'.ends _).2.mono hc hs, hf⟩⟩
  rw [X.pushThrowing_eq]
  exact st
/-- a thing of a world lies in the heap -/
theorem vx_lt {D : va_G} {cl : List vw_C} {ws : va_W} {H1 : Heap} (h : va_P D cl ws H1) {k : Nat} {q : Nat × va_E} (hk : ws[k]? = some q) : q.1 < H1.size := (h k q hk).lt
end VXS
/-! ===== END ===== -/
/-! ===== BEGIN methods with a table of their own: called by a name, returning or throwing ===== -/
section VXH
/-! vx_backW, vx_callVX, vx_callSX, vx_callVW, vx_runVW, vx_runVX, vx_runSX, vx_ofWH follow the same proofs as their sisters above (Free/Laws.lean, Shelf42/LK1.lean); vx_outP calls Shelf42/NT130.lean (outThrough). -/
section
variable {l : Launch} {R : Room} {p : Program} {e : Env} {below : List Frame} {s : State} {sargs : Array Value} {y : MethodName} {len W9 : Nat}
theorem vx_backW {ws : List Cond} {rm : Room} {Pc : Array Value → State → Prop} {Qc : Array Value → State → Outcome → State → Prop} {XC : String → State → State → Prop} {mc ms : Nat} {free : Addr → Prop} {bytes : ByteArray} {maxL : Nat} {ret : Option FieldType} {hh : List (Nat × Nat × Nat × Nat)}
    (hM : vx_Met l y ws rm Pc Qc XC mc ms free) (hblind : FrameBlind Pc) (hrc : rm.cells = mc) (hrs : rm.slots = ms)
    (hframes : rm.frames + 1 ≤ R.frames) (hlocals : W9 + (maxL + 11) + rm.locals ≤ R.locals)
    (hws : ∀ w ∈ ws, ∀ a' U, s.WarmedH U.vm → w.before a' U = true) (hcode : Cond.codeWith y bytes maxL ret hh ∈ ws) (hinit : ∀ a' U, s.WarmedH U.vm → (Cond.initialized y.cls).before a' U = true) :
    vx_Back l R p e below s sargs y len W9 (PreOf R mc ms Pc) (PostOf Qc mc ms free) (vx_Post XC mc ms free) := by
  intro m meth c A g ig mk a X hg hsize hdg hW hn hp
  have h1 : (headSpec ws rm).pre.before a A.U = true := atoms_intro fun w hw => hws w hw _ _ X.warmed
  have h2 : (Cond.codeWith y bytes maxL ret hh).before a A.U = true := hws _ hcode _ _ X.warmed
  have h3 : (Cond.initialized y.cls).before a A.U = true := hinit _ _ X.warmed
  have h4 : A.cells + (headSpec ws rm).room.cells ≤ R.cells := by rw [show (headSpec ws rm).room.cells = mc from hrc]; exact hp.1
  have h5 : A.slots + (headSpec ws rm).room.slots ≤ R.slots := by rw [show (headSpec ws rm).room.slots = ms from hrs]; exact hp.2.1
  have hPc : Pc a (A.U.calling g mk a) := hblind _ _ _ _ hp.2.2
  obtain ⟨U, Ls, c0, s0⟩ := A
  dsimp only [Pt.U, Pt.locs, Pt.cells, Pt.slots] at h1 h2 h3 h4 h5 X hn hPc ⊢
  obtain ⟨m9, methY, cY, hn9, hmY, hcY, -, hlY, -⟩ := Cond.codeWith_spec h2
  cases Option.some.inj (hn9.symm.trans hn)
  obtain ⟨kY, hkY, -⟩ := className_of_methodNamed hn
  have hinitY : kY.init = .initialized := Cond.initialized_spec (findClass_of_methodNamed hn) hkY h3
  have h : At U g.method c below := by rw [hg]; exact X.here
  have hlocals9 : W9 + (maxL + 11) + (headSpec ws rm).room.locals ≤ R.locals := hlocals
  have happ : (headSpec ws rm).appliesLoose y e.platform (U.calling g mk a) = true :=
    Spec.appliesLoose_calling (g := g) h hdg hn hkY hinitY
      (X.room_calling (g := g) (R' := (headSpec ws rm).room) hsize hmY hcY hframes (by rw [hlY]; omega) h4 h5) h1
  obtain ⟨mid, hmid⟩ := h.above
  have hfr : (U.setTop g).frames = (.java g :: mid) ++ below := by rw [State.frames_setTop' g h.top, hmid]; rfl
  obtain ⟨o, s₂, hsteps, -, hend, hq⟩ := Steps.callFree hM p X.admits X.cas X.clock (acts := []) hfr happ hPc trivial
  have hq' : vx_Q Qc XC mc ms free a (U.calling g mk a) o s₂ := hq
  rw [State.frames_setTop' g h.top] at hend
  obtain ⟨g₀, hg0⟩ := Option.isSome_iff_exists.mp h.top
  obtain ⟨r, hr⟩ := State.topJava?_eq_some.mp hg0
  have hr' : (({ U with heap := s₂.heap, slotsUsed := s₂.slotsUsed } : State).setVm s₂.vm).frames = .java g₀ :: r := hr
  rcases hq' with ⟨hqc, L, hfe, hL⟩ | ⟨q, rfl, E, ce, L, hx, hce, hcv, hcl, hW₂, hsm, hL⟩
  · obtain ⟨⟨v, rfl⟩, hW₂, e2, q2, q3, q4, q5, q6⟩ := id hfe
    have e3 : s₂ = ({ (U.calling g mk a).setFrames s₂.frames with heap := s₂.heap, slotsUsed := s₂.slotsUsed } : State).setVm s₂.vm := by
      have : s₂ = ({ s₂ with vm := (U.calling g mk a).vm } : State).setVm s₂.vm := rfl
      rw [e2] at this
      exact this
    obtain ⟨c₂, i₂, len₂, hc₂, hd₂, hf₂⟩ := hend
    have hW' : U.WarmedH s₂.vm := hW₂
    have hcc : c₂ = c := by
      have h1 : s₂.code? g.method = U.code? g.method := by
        rw [State.code?_eq, State.code?_eq, hW'.alike.method?]
      exact Option.some.inj (hc₂.symm.trans (h1.trans h.code))
    subst hcc
    have hlen : len₂ = len := by rw [hdg] at hd₂; cases hd₂; rfl
    subst hlen
    have hs₂ : s₂ = (({ U with heap := s₂.heap, slotsUsed := s₂.slotsUsed } : State).setVm s₂.vm).setTop { g with pc := g.pc + len₂, stack := v.toList ++ g.stack } := by
      refine e3.trans ?_
      rw [hf₂, State.calling_eq h.top, State.setFrames_setFrames, State.setTop_of_frames _ hr', hr]
      rfl
    have hsame : U.sameButNew ({ U with heap := s₂.heap, slotsUsed := s₂.slotsUsed } : State) L mc ms := by
      refine ⟨?_, q2, q3, q4, q5, q6⟩
      obtain ⟨t, ht, -⟩ := State.frames_cons hr
      show ({ U with heap := s₂.heap, slotsUsed := s₂.slotsUsed } : State) = { U.setFrames U.frames with heap := s₂.heap, slotsUsed := s₂.slotsUsed }
      rw [State.setFrames_self ht]
    subst hg
    refine Or.inl ⟨v, ⟨(({ U with heap := s₂.heap, slotsUsed := s₂.slotsUsed } : State).setVm s₂.vm), Ls ++ L, c0 + mc, s0 + ms⟩,
      ⟨X.admits, X.cas, X.clock, X.frames, X.room, X.hears, X.method, X.code, (X.here.setHeapUsed s₂.heap s₂.slotsUsed).setVm hW'.alike, X.tail, State.WarmedH.trans X.warmed hW', X.limits, X.bytes, X.same.trans (hsame.setVm s.vm)⟩,
      ⟨g, mk, s₂, L, rfl, rfl, hqc, rfl, hL, rfl, rfl⟩, ?_⟩
    show Steps p.tables e below _ ((({ U with heap := s₂.heap, slotsUsed := s₂.slotsUsed } : State).setVm s₂.vm).setTop { g with pc := g.pc + len₂, stack := v.toList ++ g.stack })
    rw [← hs₂]
    exact hsteps
  · obtain ⟨e2, q2, q3, q4, q5, q6⟩ := id hsm
    have e3 : s₂ = ({ (U.calling g mk a).setFrames s₂.frames with heap := s₂.heap, slotsUsed := s₂.slotsUsed } : State).setVm s₂.vm := by
      have : s₂ = ({ s₂ with vm := (U.calling g mk a).vm } : State).setVm s₂.vm := rfl
      rw [e2] at this
      exact this
    have hf₂ : s₂.frames = .throwing q :: .java g :: U.frames.tail := hend
    have hW' : U.WarmedH s₂.vm := hW₂
    have hs₂ : s₂ = ((({ U with heap := s₂.heap, slotsUsed := s₂.slotsUsed } : State).setVm s₂.vm).setTop g).pushFrame (.throwing q) := by
      refine e3.trans ?_
      rw [hf₂, State.calling_eq h.top, State.setFrames_setFrames, State.pushFrame, State.frames_setTop _ hr', State.setTop_of_frames _ hr', State.setFrames_setFrames, hr]
      rfl
    have hsame : U.sameButNew ({ U with heap := s₂.heap, slotsUsed := s₂.slotsUsed } : State) L mc ms := by
      refine ⟨?_, q2, q3, q4, q5, q6⟩
      obtain ⟨t, ht, -⟩ := State.frames_cons hr
      show ({ U with heap := s₂.heap, slotsUsed := s₂.slotsUsed } : State) = { U.setFrames U.frames with heap := s₂.heap, slotsUsed := s₂.slotsUsed }
      rw [State.setFrames_self ht]
    subst hg
    refine Or.inr ⟨q, ⟨(({ U with heap := s₂.heap, slotsUsed := s₂.slotsUsed } : State).setVm s₂.vm), Ls ++ L, c0 + mc, s0 + ms⟩,
      ⟨X.admits, X.cas, X.clock, X.frames, X.room, X.hears, X.method, X.code, (X.here.setHeapUsed s₂.heap s₂.slotsUsed).setVm hW'.alike, X.tail, State.WarmedH.trans X.warmed hW', X.limits, X.bytes, X.same.trans (hsame.setVm s.vm)⟩,
      ⟨g, mk, s₂, L, E, ce, rfl, rfl, hx, hce, hcv, hcl, rfl, hL, rfl, rfl⟩, ?_⟩
    show Steps p.tables e below _ (((({ U with heap := s₂.heap, slotsUsed := s₂.slotsUsed } : State).setVm s₂.vm).setTop g).pushFrame (.throwing q))
    rw [← hs₂]
    exact hsteps
end
variable {p : Program} {l : Launch} {e : Env} {R : Room} {s : State} {m : MethodId} {args : Array Value} {below : List Frame} {meth : Method} {c : Code} {T : State} {H : Heap} {locs : List Loc} {cells slots : Nat}
theorem vx_callVX (X : Stand p l e R s m args below meth c T locs cells slots) (hexec : p.tables.exec = Jvm.exec) {own C : String} {index : Nat} {y : MethodName} {bytes : ByteArray} {maxL : Nat} {ret : Option FieldType} {hh : List (Nat × Nat × Nat × Nat)}
    (hown : s.vm.findClass own = some m.cls) (hlink : (Cond.methodLink own index y).before args s = true) (hinst : (Cond.instanceMethod y).before args s = true) (hsel : (Cond.selects C y y).before args s = true)
    (hcode : (Cond.codeWith y bytes maxL ret hh).before args s = true) (hy : y.cls ≠ "java/lang/invoke/MethodHandle" ∧ y.cls ≠ "java/lang/invoke/VarHandle")
    {W9 : Nat} {Pre : Pt → Array Value → Prop} {Post : Pt → Array Value → Option Value → Pt → Prop} {PostX : Pt → Array Value → Addr → Pt → Prop} (hK : vx_Back l R p e below s args y 3 W9 Pre Post PostX)
    {b : Addr} {cellB : Cell} (hcell : T.heap[b]? = some cellB) (hobj : cellB.vm.isStatics = false) (hcls : s.vm.findClass C = some cellB.cls)
    {g : JFrame} (hg : g.method = m) (hsize : g.locals.size = c.maxLocals) {argsL rest : List Value} (hlen : ∀ sig, parseMethodDescriptor y.desc = some sig → argsL.length = sig.parameters.length)
    (hstack : g.stack = argsL.reverse ++ .ref b :: rest) (hW : 2 * g.monitorRoom + (rest.map fun v => v.category).sum ≤ W9) (hdg : decode c.code g.pc = .ok (.invokevirtual index, 3))
    (hpre : ∀ vm₁, s.WarmedH vm₁ → Pre ⟨T.setVm vm₁, locs, cells, slots⟩ (Value.ref b :: argsL).toArray) :
    (∃ (v : Option Value) (vm₁ : Vm) (B : Pt), s.WarmedH vm₁ ∧ Stand p l e R s m args below meth c B.U B.locs B.cells B.slots ∧ Post ⟨T.setVm vm₁, locs, cells, slots⟩ (Value.ref b :: argsL).toArray v B ∧
      ∀ target, Steps p.tables e below (B.U.setTop { g with pc := g.pc + 3, stack := v.toList ++ rest }) target → Steps p.tables e below (T.setTop g) target) ∨
    (∃ (q : Addr) (vm₁ : Vm) (B : Pt), s.WarmedH vm₁ ∧ Stand p l e R s m args below meth c B.U B.locs B.cells B.slots ∧ PostX ⟨T.setVm vm₁, locs, cells, slots⟩ (Value.ref b :: argsL).toArray q B ∧
      Steps p.tables e below (T.setTop g) ((B.U.setTop { g with stack := rest }).pushFrame (.throwing q))) := by
  obtain ⟨mk, methM, hnamed, hmethM, hstM, habM⟩ := Cond.instanceMethod_spec hinst
  obtain ⟨m8, methM', cM, hn8, hmethM', -, -, -, -, -, -, hsigM⟩ := Cond.codeWith_spec hcode
  cases Option.some.inj (hn8.symm.trans hnamed)
  cases hmethM.symm.trans hmethM'
  obtain ⟨c2, r2, m2, q1, q2, q3, q4, kP, hkP, hkPi⟩ := Cond.selects_spec hsel
  cases hcls.symm.trans q1
  cases (State.methodFound?_of_named hnamed hy).symm.trans q2
  cases hnamed.symm.trans q3
  have hselP : selectMethod e.platform s.vm cellB.cls mk = .method mk := by rw [Launch.admits_selectMethod X.admits]; exact q4
  obtain ⟨vm₁, X₁, hstep₁⟩ := X.invokevirtual hexec hown hlink hnamed hmethM hstM hkP hkPi hy (a := b) (cell := cellB) hcell
    (fun z h => by rw [h] at hobj; cases hobj) hselP hmethM habM hkP hkPi (g := g) hg (argsL := argsL) (rest := rest) (hlen _ hsigM) hstack hdg
  rcases hK m meth c ⟨T.setVm vm₁, locs, cells, slots⟩ { g with stack := rest } (.invokevirtual index) mk (Value.ref b :: argsL).toArray X₁ hg hsize hdg hW (X₁.named hnamed) (hpre vm₁ X₁.warmed) with ⟨v, B, X', hpost, hsteps⟩ | ⟨q, B, X', hpost, hsteps⟩
  · exact Or.inl ⟨v, vm₁, B, X₁.warmed, X', hpost, fun target h => hstep₁ _ fun acts => by rw [doInvoke_state]; exact hsteps.trans h⟩
  · exact Or.inr ⟨q, vm₁, B, X₁.warmed, X', hpost, hstep₁ _ fun acts => by rw [doInvoke_state]; exact hsteps⟩
theorem vx_callSX (X : Stand p l e R s m args below meth c T locs cells slots) (hexec : p.tables.exec = Jvm.exec) {own : String} {index : Nat} {y : MethodName} {bytes : ByteArray} {maxL : Nat} {ret : Option FieldType} {hh : List (Nat × Nat × Nat × Nat)}
    (hown : s.vm.findClass own = some m.cls) (hlink : (Cond.methodLink own index y).before args s = true) (hstat : (Cond.static y).before args s = true) (hinit : (Cond.initialized y.cls).before args s = true)
    (hcode : (Cond.codeWith y bytes maxL ret hh).before args s = true) (hy : y.cls ≠ "java/lang/invoke/MethodHandle" ∧ y.cls ≠ "java/lang/invoke/VarHandle")
    {W9 : Nat} {Pre : Pt → Array Value → Prop} {Post : Pt → Array Value → Option Value → Pt → Prop} {PostX : Pt → Array Value → Addr → Pt → Prop} (hK : vx_Back l R p e below s args y 3 W9 Pre Post PostX)
    {g : JFrame} (hg : g.method = m) (hsize : g.locals.size = c.maxLocals) {argsL rest : List Value} (hlen : ∀ sig, parseMethodDescriptor y.desc = some sig → argsL.length = sig.parameters.length)
    (hstack : g.stack = argsL.reverse ++ rest) (hW : 2 * g.monitorRoom + (rest.map fun v => v.category).sum ≤ W9) (hdg : decode c.code g.pc = .ok (.invokestatic index, 3))
    (hpre : ∀ vm₁, s.WarmedH vm₁ → Pre ⟨T.setVm vm₁, locs, cells, slots⟩ argsL.toArray) :
    (∃ (v : Option Value) (vm₁ : Vm) (B : Pt), s.WarmedH vm₁ ∧ Stand p l e R s m args below meth c B.U B.locs B.cells B.slots ∧ Post ⟨T.setVm vm₁, locs, cells, slots⟩ argsL.toArray v B ∧
      ∀ target, Steps p.tables e below (B.U.setTop { g with pc := g.pc + 3, stack := v.toList ++ rest }) target → Steps p.tables e below (T.setTop g) target) ∨
    (∃ (q : Addr) (vm₁ : Vm) (B : Pt), s.WarmedH vm₁ ∧ Stand p l e R s m args below meth c B.U B.locs B.cells B.slots ∧ PostX ⟨T.setVm vm₁, locs, cells, slots⟩ argsL.toArray q B ∧
      Steps p.tables e below (T.setTop g) ((B.U.setTop { g with stack := rest }).pushFrame (.throwing q))) := by
  obtain ⟨mk, methM, cM, hnamed, hmethM, -, -, -, -, -, -, hsigM⟩ := Cond.codeWith_spec hcode
  have hstatic : methM.isStatic = true := Cond.static_spec hnamed hmethM hstat
  obtain ⟨kP, hkP, -⟩ := className_of_methodNamed hnamed
  have hinitP : kP.init = .initialized := Cond.initialized_spec (findClass_of_methodNamed hnamed) hkP hinit
  obtain ⟨vm₁, X₁, hstep₁⟩ := X.invokestatic hexec hown hlink hnamed hmethM hstatic hkP hinitP hy (g := g) hg (argsL := argsL) (rest := rest) (hlen _ hsigM) hstack hdg
  rcases hK m meth c ⟨T.setVm vm₁, locs, cells, slots⟩ { g with stack := rest } (.invokestatic index) mk argsL.toArray X₁ hg hsize hdg hW (X₁.named hnamed) (hpre vm₁ X₁.warmed) with ⟨v, B, X', hpost, hsteps⟩ | ⟨q, B, X', hpost, hsteps⟩
  · exact Or.inl ⟨v, vm₁, B, X₁.warmed, X', hpost, fun target h => hstep₁ _ fun acts => by rw [doInvoke_state]; exact hsteps.trans h⟩
  · exact Or.inr ⟨q, vm₁, B, X₁.warmed, X', hpost, hstep₁ _ fun acts => by rw [doInvoke_state]; exact hsteps⟩
theorem vx_callVW (X : Stand p l e R s m args below meth c T locs cells slots) (hexec : p.tables.exec = Jvm.exec) {own C : String} {index : Nat} {y : MethodName} {bytes : ByteArray} {maxL : Nat} {ret : Option FieldType} {hh : List (Nat × Nat × Nat × Nat)}
    (hown : s.vm.findClass own = some m.cls) (hlink : (Cond.methodLink own index y).before args s = true) (hinst : (Cond.instanceMethod y).before args s = true) (hsel : (Cond.selects C y y).before args s = true)
    (hcode : (Cond.codeWith y bytes maxL ret hh).before args s = true) (hy : y.cls ≠ "java/lang/invoke/MethodHandle" ∧ y.cls ≠ "java/lang/invoke/VarHandle")
    {W9 : Nat} {Pre : Pt → Array Value → Prop} {Post : Pt → Array Value → Option Value → Pt → Prop} (hK : Back l R p e below s args y 3 W9 Pre Post)
    {b : Addr} {cellB : Cell} (hcell : T.heap[b]? = some cellB) (hobj : cellB.vm.isStatics = false) (hcls : s.vm.findClass C = some cellB.cls)
    {g : JFrame} (hg : g.method = m) (hsize : g.locals.size = c.maxLocals) {argsL rest : List Value} (hlen : ∀ sig, parseMethodDescriptor y.desc = some sig → argsL.length = sig.parameters.length)
    (hstack : g.stack = argsL.reverse ++ .ref b :: rest) (hW : 2 * g.monitorRoom + (rest.map fun v => v.category).sum ≤ W9) (hdg : decode c.code g.pc = .ok (.invokevirtual index, 3))
    (hpre : ∀ vm₁, s.WarmedH vm₁ → Pre ⟨T.setVm vm₁, locs, cells, slots⟩ (Value.ref b :: argsL).toArray) :
    ∃ (v : Option Value) (vm₁ : Vm) (B : Pt), s.WarmedH vm₁ ∧ Stand p l e R s m args below meth c B.U B.locs B.cells B.slots ∧ Post ⟨T.setVm vm₁, locs, cells, slots⟩ (Value.ref b :: argsL).toArray v B ∧
      ∀ target, Steps p.tables e below (B.U.setTop { g with pc := g.pc + 3, stack := v.toList ++ rest }) target → Steps p.tables e below (T.setTop g) target := by
  obtain ⟨mk, methM, hnamed, hmethM, hstM, habM⟩ := Cond.instanceMethod_spec hinst
  obtain ⟨m8, methM', cM, hn8, hmethM', -, -, -, -, -, -, hsigM⟩ := Cond.codeWith_spec hcode
  cases Option.some.inj (hn8.symm.trans hnamed)
  cases hmethM.symm.trans hmethM'
  obtain ⟨c2, r2, m2, q1, q2, q3, q4, kP, hkP, hkPi⟩ := Cond.selects_spec hsel
  cases hcls.symm.trans q1
  cases (State.methodFound?_of_named hnamed hy).symm.trans q2
  cases hnamed.symm.trans q3
  have hselP : selectMethod e.platform s.vm cellB.cls mk = .method mk := by rw [Launch.admits_selectMethod X.admits]; exact q4
  obtain ⟨vm₁, X₁, hstep₁⟩ := X.invokevirtual hexec hown hlink hnamed hmethM hstM hkP hkPi hy (a := b) (cell := cellB) hcell
    (fun z h => by rw [h] at hobj; cases hobj) hselP hmethM habM hkP hkPi (g := g) hg (argsL := argsL) (rest := rest) (hlen _ hsigM) hstack hdg
  obtain ⟨v, B, X', hpost, hsteps⟩ := hK m meth c ⟨T.setVm vm₁, locs, cells, slots⟩ { g with stack := rest } (.invokevirtual index) mk (Value.ref b :: argsL).toArray X₁ hg hsize hdg hW (X₁.named hnamed) (hpre vm₁ X₁.warmed)
  exact ⟨v, vm₁, B, X₁.warmed, X', hpost, fun target h => hstep₁ _ fun acts => by rw [doInvoke_state]; exact hsteps.trans h⟩
abbrev vx_CVW (R : Room) (s : State) (args : Array Value) (own C : String) (index : Nat) (y : MethodName) (bytes : ByteArray) (maxL : Nat) (ret : Option FieldType) (hh : List (Nat × Nat × Nat × Nat)) (ws : List Cond) (rm : Room) (mc ms n : Nat) : Prop :=
  (rm.cells = mc ∧ rm.slots = ms ∧ rm.frames + 1 ≤ R.frames ∧ 8 + (maxL + 11) + rm.locals ≤ R.locals ∧ (∀ w ∈ ws, ∀ (a' : Array Value) (U : State), s.WarmedH U.vm → w.before a' U = true) ∧ Cond.codeWith y bytes maxL ret hh ∈ ws) ∧
  (Cond.codeWith y bytes maxL ret hh).before args s = true ∧ (Cond.initialized y.cls).before args s = true ∧ (y.cls ≠ "java/lang/invoke/MethodHandle" ∧ y.cls ≠ "java/lang/invoke/VarHandle") ∧
  (∀ sig, parseMethodDescriptor y.desc = some sig → n = sig.parameters.length) ∧ (Cond.methodLink own index y).before args s = true ∧ (Cond.instanceMethod y).before args s = true ∧ (Cond.selects C y y).before args s = true
theorem vx_cwVW {own C : String} {index maxL mc ms : Nat} {y : MethodName} {bytes : ByteArray} {ret : Option FieldType} {hh : List (Nat × Nat × Nat × Nat)} {Ts ws ws' : List Cond} {rm : Room} (n : Nat) (ht : ∀ w ∈ Ts, w.before args s = true) (hT : GoodIn Ts (wsV own index C y ws)) (hw : ws = Cond.codeWith y bytes maxL ret hh :: ws') (hrc : rm.cells = mc) (hrs : rm.slots = ms)
    (hd : y.cls = C ∧ y.cls ≠ "java/lang/invoke/MethodHandle" ∧ y.cls ≠ "java/lang/invoke/VarHandle" ∧ (parseMethodDescriptor y.desc).map (fun d => d.parameters.length) = some n) (hR : rm.frames + 1 ≤ R.frames ∧ 8 + (maxL + 11) + rm.locals ≤ R.locals) :
    vx_CVW R s args own C index y bytes maxL ret hh ws rm mc ms n := by
  obtain ⟨hC, hd⟩ := hd
  subst hC
  have ok : ∀ w ∈ wsV own index y.cls y ws, w.before args s = true := fun w h => ht w (hT w h).1
  have hG : GoodIn Ts ws := fun w h => hT w (by unfold wsV; exact List.mem_append_right _ h)
  have hc : Cond.codeWith y bytes maxL ret hh ∈ ws := by rw [hw]; exact List.mem_cons_self
  refine ⟨⟨hrc, hrs, hR.1, hR.2, pay_in ht hG, hc⟩, ht _ (hG _ hc).1, ok _ (by simp [wsV]), ⟨hd.1, hd.2.1⟩, fun sig h => ?_, ok _ (by simp [wsV]), ok _ (by simp [wsV]), ok _ (by simp [wsV])⟩
  have h2 := hd.2.2
  rw [h] at h2
  exact (Option.some.inj h2).symm
theorem vx_runVW {y : MethodName} {bytes cc : ByteArray} {maxL nL mc ms n index : Nat} {ret : Option FieldType} {hh : List (Nat × Nat × Nat × Nat)} {ws : List Cond} {rm : Room} {Pc : Array Value → State → Prop} {Qc : Array Value → State → Outcome → State → Prop} {free : Addr → Prop} {Ts : List Cond} {own C : String} {b : Addr} {As rest : List Value} {g : JFrame}
    (S : CallFix p m c cc nL s args Ts own) (hM : Met l y ws rm Pc Qc mc ms free) (cw : vx_CVW R s args own C index y bytes maxL ret hh ws rm mc ms n) (hp : PreV s H C b Pc As)
    (hg : g.method = m) (hn : As.length = n) (hsize : g.locals.size = nL) (hstack : g.stack = As.reverse ++ .ref b :: rest) (hW : 2 * g.monitorRoom + (rest.map fun v => v.category).sum ≤ 8) (hdg : decode cc g.pc = .ok (.invokevirtual index, 3)) (hf : cells + mc ≤ R.cells ∧ slots + ms ≤ R.slots) :
    va_Run p l e R s m args below meth c H locs cells slots mc ms g rest (Qc (Value.ref b :: As).toArray) free := by
  obtain ⟨⟨hrc, hrs, hfr, hlo, hws, hcw⟩, hcode, hini, hy, hlen, hl, hin, hse⟩ := cw
  have hK : Back l R p e below s args y 3 8 (PreOf R mc ms Pc) (PostOf Qc mc ms free) := va_backW (hh := hh) (bytes := bytes) (maxL := maxL) (ret := ret) hM hp.1 hrc hrs hfr hlo hws hcw (fun a' U hW => word_at hW (Or.inl (by first | rfl | simp [Cond.onTables, Cond.keeps, Cond.steady])) hini)
  obtain ⟨hx, hb, hml, ho, -⟩ := S
  obtain ⟨-, ⟨cellB, hcB, hoB, hclB⟩, hPc⟩ := hp
  intro T hT X
  obtain ⟨v, vm₁, ⟨U', l2, c2, s2⟩, hW₁, X', ⟨g', mk, t, L, e1, e2, hq, h1, hL, h2, h3⟩, st⟩ := vx_callVW X hx (C := C) (hh := hh) (bytes := bytes) (maxL := maxL) (ret := ret) ho hl hin hse hcode hy hK (by rw [hT]; exact hcB) hoB hclB hg (hsize.trans hml.symm) (argsL := As) (rest := rest) (fun sig h => hn.trans (hlen sig h)) hstack hW (by rw [hb]; exact hdg)
    (fun vm₁ hW₁ => ⟨hf.1, hf.2, hPc (T.setVm vm₁) hT hW₁⟩)
  dsimp only [Pt.U, Pt.locs, Pt.cells, Pt.slots] at X' e1 e2 h1 h2 h3 st
  subst h1; subst h2; subst h3
  exact ⟨v, (T.setVm vm₁).calling g' mk (Value.ref b :: As).toArray, t, U', L, hT, X', hL, e1, e2, hq, st⟩
section
variable {y : MethodName} {bytes cc : ByteArray} {maxL nL mc ms n index : Nat} {ret : Option FieldType} {ws : List Cond} {rm : Room} {Pc : Array Value → State → Prop} {Qc : Array Value → State → Outcome → State → Prop} {XC : String → State → State → Prop} {free : Addr → Prop} {Ts : List Cond} {own C : String} {b : Addr} {As rest : List Value} {g : JFrame}
theorem vx_runVX {hh : List (Nat × Nat × Nat × Nat)} (S : CallFix p m c cc nL s args Ts own) (hM : vx_Met l y ws rm Pc Qc XC mc ms free) (cw : vx_CVW R s args own C index y bytes maxL ret hh ws rm mc ms n) (hp : PreV s H C b Pc As)
    (hg : g.method = m) (hn : As.length = n) (hsize : g.locals.size = nL) (hstack : g.stack = As.reverse ++ .ref b :: rest) (hW : 2 * g.monitorRoom + (rest.map fun v => v.category).sum ≤ 8) (hdg : decode cc g.pc = .ok (.invokevirtual index, 3)) (hf : cells + mc ≤ R.cells ∧ slots + ms ≤ R.slots) :
    vx_Run p l e R s m args below meth c H locs cells slots mc ms g rest (Qc (Value.ref b :: As).toArray) XC free := by
  obtain ⟨⟨hrc, hrs, hfr, hlo, hws, hcw⟩, hcode, hini, hy, hlen, hl, hin, hse⟩ := cw
  have hK : vx_Back l R p e below s args y 3 8 (PreOf R mc ms Pc) (PostOf Qc mc ms free) (vx_Post XC mc ms free) := vx_backW (hh := hh) (bytes := bytes) (maxL := maxL) (ret := ret) hM hp.1 hrc hrs hfr hlo hws hcw (fun a' U hW => word_at hW (Or.inl (by first | rfl | simp [Cond.onTables, Cond.keeps, Cond.steady])) hini)
  obtain ⟨hx, hb, hml, ho, -⟩ := S
  obtain ⟨-, ⟨cellB, hcB, hoB, hclB⟩, hPc⟩ := hp
  intro T hT X
  rcases vx_callVX X hx (C := C) (hh := hh) (bytes := bytes) (maxL := maxL) (ret := ret) ho hl hin hse hcode hy hK (by rw [hT]; exact hcB) hoB hclB hg (hsize.trans hml.symm) (argsL := As) (rest := rest) (fun sig h => hn.trans (hlen sig h)) hstack hW (by rw [hb]; exact hdg)
    (fun vm₁ hW₁ => ⟨hf.1, hf.2, hPc (T.setVm vm₁) hT hW₁⟩) with ⟨v, vm₁, ⟨U', l2, c2, s2⟩, hW₁, X', ⟨g', mk, t, L, e1, e2, hq, h1, hL, h2, h3⟩, st⟩ | ⟨q, vm₁, ⟨U', l2, c2, s2⟩, hW₁, X', ⟨g', mk, t, L, E, ce, e1, e2, hq, hce, hcv, hcl, h1, hL, h2, h3⟩, st⟩
  · dsimp only [Pt.U, Pt.locs, Pt.cells, Pt.slots] at X' e1 e2 h1 h2 h3 st
    subst h1; subst h2; subst h3
    exact Or.inl ⟨v, (T.setVm vm₁).calling g' mk (Value.ref b :: As).toArray, t, U', L, hT, X', hL, e1, e2, hq, st⟩
  · dsimp only [Pt.U, Pt.locs, Pt.cells, Pt.slots] at X' e1 e2 h1 h2 h3 st hcl
    subst h1; subst h2; subst h3
    exact Or.inr ⟨q, (T.setVm vm₁).calling g' mk (Value.ref b :: As).toArray, t, U', L, E, ce, hT, X', hL, e1, e2, hq, hce, hcv, vx_cls hW₁ hcl, st⟩
theorem vx_runSX {hh : List (Nat × Nat × Nat × Nat)} (S : CallFix p m c cc nL s args Ts own) (hM : vx_Met l y ws rm Pc Qc XC mc ms free) (cw : vx_CSW R s args own index y bytes maxL ret hh ws rm mc ms n) (hp : PreS s H Pc As)
    (hg : g.method = m) (hn : As.length = n) (hsize : g.locals.size = nL) (hstack : g.stack = As.reverse ++ rest) (hW : 2 * g.monitorRoom + (rest.map fun v => v.category).sum ≤ 8) (hdg : decode cc g.pc = .ok (.invokestatic index, 3)) (hf : cells + mc ≤ R.cells ∧ slots + ms ≤ R.slots) :
    vx_Run p l e R s m args below meth c H locs cells slots mc ms g rest (Qc As.toArray) XC free := by
  obtain ⟨⟨hrc, hrs, hfr, hlo, hws, hcw⟩, hcode, hini, hy, hlen, hl, hstt⟩ := cw
  have hK : vx_Back l R p e below s args y 3 8 (PreOf R mc ms Pc) (PostOf Qc mc ms free) (vx_Post XC mc ms free) := vx_backW (hh := hh) (bytes := bytes) (maxL := maxL) (ret := ret) hM hp.1 hrc hrs hfr hlo hws hcw (fun a' U hW => word_at hW (Or.inl (by first | rfl | simp [Cond.onTables, Cond.keeps, Cond.steady])) hini)
  obtain ⟨hx, hb, hml, ho, -⟩ := S
  intro T hT X
  rcases vx_callSX X hx (hh := hh) (bytes := bytes) (maxL := maxL) (ret := ret) ho hl hstt hini hcode hy hK hg (hsize.trans hml.symm) (argsL := As) (rest := rest) (fun sig h => hn.trans (hlen sig h)) hstack hW (by rw [hb]; exact hdg)
    (fun vm₁ hW₁ => ⟨hf.1, hf.2, hp.2 (T.setVm vm₁) hT hW₁⟩) with ⟨v, vm₁, ⟨U', l2, c2, s2⟩, hW₁, X', ⟨g', mk, t, L, e1, e2, hq, h1, hL, h2, h3⟩, st⟩ | ⟨q, vm₁, ⟨U', l2, c2, s2⟩, hW₁, X', ⟨g', mk, t, L, E, ce, e1, e2, hq, hce, hcv, hcl, h1, hL, h2, h3⟩, st⟩
  · dsimp only [Pt.U, Pt.locs, Pt.cells, Pt.slots] at X' e1 e2 h1 h2 h3 st
    subst h1; subst h2; subst h3
    exact Or.inl ⟨v, (T.setVm vm₁).calling g' mk As.toArray, t, U', L, hT, X', hL, e1, e2, hq, st⟩
  · dsimp only [Pt.U, Pt.locs, Pt.cells, Pt.slots] at X' e1 e2 h1 h2 h3 st hcl
    subst h1; subst h2; subst h3
    exact Or.inr ⟨q, (T.setVm vm₁).calling g' mk As.toArray, t, U', L, E, ce, hT, X', hL, e1, e2, hq, hce, hcv, vx_cls hW₁ hcl, st⟩
end
end VXH
theorem vx_ofWH {l : Launch} {y : MethodName} {ws ws' : List Cond} {rm : Room} {Pc : Array Value → State → Prop} {Qc : Array Value → State → Outcome → State → Prop} {XC : String → State → State → Prop} {mc ms : Nat} {free : Addr → Prop} {cc : ByteArray} {maxL : Nat} {ret : Option FieldType} {hh : List (Nat × Nat × Nat × Nat)}
    (hy : plainName y.cls = true) (hw : ws = Cond.codeWith y cc maxL ret hh :: ws')
    (body : ∀ p e s m args below meth c s₁, BodyLoose p l y (headSpec ws rm) cc maxL ret e s m args below meth c s₁ → c.maxLocals = maxL → Pc args s →
      W p l e (headSpec ws rm).room s m args below meth c s.heap [] 0 0 (vx_MQ below Qc XC args s mc ms free) (entryFrame m args maxL)) : vx_Met l y ws rm Pc Qc XC mc ms free := by
  refine MetFree.of_bodyS (code := cc) (maxLocals := maxL) (ret := ret) hy ?_ ?_
  · intro args s m h hn
    obtain ⟨m9, meth, c, hn9, h1, h2, h3, h4, -, h5, h6, -⟩ := Cond.codeWith_spec (atoms_spec (ws := ws) h _ (by rw [hw]; exact List.mem_cons_self))
    cases hn.symm.trans hn9
    exact ⟨meth, c, h1, h2, h3, h4, h5, h6⟩
  · intro p e s m args below meth c s₁ B hml hP _
    have hh0 : s₁.heap = s.heap := by rw [B.state]; rfl
    obtain ⟨t, a1, o, b1, b2, b3⟩ := body p e s m args below meth c s₁ B hml hP s₁ hh0 (Stand.of_body B)
    exact ⟨t, o, a1, b1, b2, b3⟩
/-! ===== END ===== -/
end
section
-- ===== classes, fields, methods =====
def RX0 : String := "GateBench"
def TX0 : u_T := fun k => match k with
  | 0 => ("GateBench", "firsts", "[I", false)
  | 1 => ("GateBench", "seconds", "[I", false)
  | 2 => ("GateBench", "users", "[I", false)
  | 3 => ("GateBench", "depths", "[I", false)
  | 4 => ("GateBench", "values", "[I", false)
  | 5 => ("GateBench", "marks", "[I", false)
  | 6 => ("GateBench", "newestOver", "[I", false)
  | 7 => ("GateBench", "nextOlder", "[I", false)
  | 8 => ("GateBench", "nodeCount", "I", false)
  | 9 => ("GateBench", "inputCount", "I", false)
  | _ => ("GateBench", "settledTo", "I", false)
def tyX0 : Nat → FieldType := fun k => match k with
  | 0 => .array .int
  | 1 => .array .int
  | 2 => .array .int
  | 3 => .array .int
  | 4 => .array .int
  | 5 => .array .int
  | 6 => .array .int
  | 7 => .array .int
  | 8 => .int
  | 9 => .int
  | _ => .int
theorem nmX0 : ∀ a, a < 11 → ∀ b, b < 11 → a ≠ b → (TX0 a).2.1 ≠ (TX0 b).2.1 := by decide +kernel
theorem tyX0_ok : ∀ k, k < 11 → parseFieldDescriptor (TX0 k).2.2.1 = some (tyX0 k) := by decide +kernel
theorem inX0g : ∀ w ∈ u_ws RX0 TX0 11, w ∈ wsG := by decide +kernel
theorem inX0 {w0 : Cond} : ∀ w ∈ u_ws RX0 TX0 11, w ∈ w0 :: wsG := fun w h => mG (inX0g w h)
def RX1 : String := "GateBenchModel"
def TX1 : u_T := fun k => match k with
  | 0 => ("GateBenchModel", "kind", "[B", true)
  | 1 => ("GateBenchModel", "first", "[I", true)
  | 2 => ("GateBenchModel", "second", "[I", true)
  | 3 => ("GateBenchModel", "on", "[Z", true)
  | 4 => ("GateBenchModel", "mark", "[I", true)
  | 5 => ("GateBenchModel", "code", "I", false)
  | 6 => ("GateBenchModel", "count", "I", false)
  | _ => ("GateBenchModel", "inputs", "I", false)
def tyX1 : Nat → FieldType := fun k => match k with
  | 0 => .array .byte
  | 1 => .array .int
  | 2 => .array .int
  | 3 => .array .boolean
  | 4 => .array .int
  | 5 => .int
  | 6 => .int
  | _ => .int
theorem nmX1 : ∀ a, a < 8 → ∀ b, b < 8 → a ≠ b → (TX1 a).2.1 ≠ (TX1 b).2.1 := by decide +kernel
theorem tyX1_ok : ∀ k, k < 8 → parseFieldDescriptor (TX1 k).2.2.1 = some (tyX1 k) := by decide +kernel
theorem inX1g : ∀ w ∈ u_ws RX1 TX1 8, w ∈ wsG := by decide +kernel
theorem inX1 {w0 : Cond} : ∀ w ∈ u_ws RX1 TX1 8, w ∈ w0 :: wsG := fun w h => mG (inX1g w h)
def RL : String := "GateBenchLaw"
def RJ7 : String := "java/util/Arrays"
abbrev vwCl : List vw_C := [(RX0, TX0, 11), (RX1, TX1, 8)]
abbrev cX0_init : ByteArray := prog_1_method_1_code
def yX0_init : MethodName := ⟨RX0, "<init>", "()V"⟩
def wsX0_init : List Cond := .code yX0_init cX0_init 1 none :: wsG
abbrev cX0_nodes : ByteArray := prog_1_method_12_code
def yX0_nodes : MethodName := ⟨RX0, "nodes", "()I"⟩
def wsX0_nodes : List Cond := .code yX0_nodes cX0_nodes 1 (some .int) :: wsG
abbrev cX0_inputs : ByteArray := prog_1_method_13_code
def yX0_inputs : MethodName := ⟨RX0, "inputs", "()I"⟩
def wsX0_inputs : List Cond := .code yX0_inputs cX0_inputs 1 (some .int) :: wsG
abbrev cL_input : ByteArray := method_3_code
def yL_input : MethodName := ⟨RL, "input", "(LGateBench;[J)I"⟩
def wsL_input : List Cond := .codeWith yL_input cL_input 3 (some .int) [(0, 8, 11, 13)] :: wsG
abbrev cX0_input : ByteArray := prog_1_method_2_code
def yX0_input : MethodName := ⟨RX0, "input", "()I"⟩
def wsX0_input : List Cond := .code yX0_input cX0_input 2 (some .int) :: wsG
abbrev cX0_newNode : ByteArray := prog_1_method_31_code
def yX0_newNode : MethodName := ⟨RX0, "newNode", "(II)I"⟩
def wsX0_newNode : List Cond := .code yX0_newNode cX0_newNode 4 (some .int) :: wsG
abbrev cX0_growRows : ByteArray := prog_1_method_32_code
def yX0_growRows : MethodName := ⟨RX0, "growRows", "()V"⟩
def wsX0_growRows : List Cond := .code yX0_growRows cX0_growRows 2 none :: wsG
abbrev cJ7_copyOf : ByteArray := prog_13_method_123_code
def yJ7_copyOf : MethodName := ⟨RJ7, "copyOf", "([II)[I"⟩
def wsJ7_copyOf : List Cond := .code yJ7_copyOf cJ7_copyOf 3 (some (.array .int)) :: wsG
abbrev cL_and : ByteArray := method_4_code
def yL_and : MethodName := ⟨RL, "and", "(LGateBench;II[J)I"⟩
def wsL_and : List Cond := .codeWith yL_and cL_and 5 (some .int) [(0, 10, 13, 19), (0, 10, 17, 13)] :: wsG
abbrev cX0_and : ByteArray := prog_1_method_3_code
def yX0_and : MethodName := ⟨RX0, "and", "(II)I"⟩
def wsX0_and : List Cond := .code yX0_and cX0_and 3 (some .int) :: wsG
abbrev cX0_needLiteral : ByteArray := prog_1_method_16_code
def yX0_needLiteral : MethodName := ⟨RX0, "needLiteral", "(I)V"⟩
def wsX0_needLiteral : List Cond := .code yX0_needLiteral cX0_needLiteral 2 none :: wsG
abbrev cX0_andOf : ByteArray := prog_1_method_24_code
def yX0_andOf : MethodName := ⟨RX0, "andOf", "(II)I"⟩
def wsX0_andOf : List Cond := .code yX0_andOf cX0_andOf 8 (some .int) :: wsG
abbrev cX0_knownAnd : ByteArray := prog_1_method_25_code
def yX0_knownAnd : MethodName := ⟨RX0, "knownAnd", "(II)I"⟩
def wsX0_knownAnd : List Cond := .code yX0_knownAnd cX0_knownAnd 4 (some .int) :: wsG
abbrev cX0_not : ByteArray := prog_1_method_19_code
def yX0_not : MethodName := ⟨RX0, "not", "(I)I"⟩
def wsX0_not : List Cond := .code yX0_not cX0_not 1 (some .int) :: wsG
abbrev cX0_isGate : ByteArray := prog_1_method_17_code
def yX0_isGate : MethodName := ⟨RX0, "isGate", "(I)Z"⟩
def wsX0_isGate : List Cond := .code yX0_isGate cX0_isGate 2 (some .boolean) :: wsG
abbrev cX0_isNegated : ByteArray := prog_1_method_20_code
def yX0_isNegated : MethodName := ⟨RX0, "isNegated", "(I)Z"⟩
def wsX0_isNegated : List Cond := .code yX0_isNegated cX0_isNegated 1 (some .boolean) :: wsG
abbrev cX0_hasLiteral : ByteArray := prog_1_method_26_code
def yX0_hasLiteral : MethodName := ⟨RX0, "hasLiteral", "(II)Z"⟩
def wsX0_hasLiteral : List Cond := .code yX0_hasLiteral cX0_hasLiteral 3 (some .boolean) :: wsG
abbrev cX0_isGateAgainst : ByteArray := prog_1_method_27_code
def yX0_isGateAgainst : MethodName := ⟨RX0, "isGateAgainst", "(II)Z"⟩
def wsX0_isGateAgainst : List Cond := .code yX0_isGateAgainst cX0_isGateAgainst 4 (some .boolean) :: wsG
abbrev cX0_restOf : ByteArray := prog_1_method_28_code
def yX0_restOf : MethodName := ⟨RX0, "restOf", "(II)I"⟩
def wsX0_restOf : List Cond := .code yX0_restOf cX0_restOf 4 (some .int) :: wsG
abbrev cX0_gateOf : ByteArray := prog_1_method_29_code
def yX0_gateOf : MethodName := ⟨RX0, "gateOf", "(II)I"⟩
def wsX0_gateOf : List Cond := .code yX0_gateOf cX0_gateOf 5 (some .int) :: wsG
abbrev cX0_enterGate : ByteArray := prog_1_method_30_code
def yX0_enterGate : MethodName := ⟨RX0, "enterGate", "(III)V"⟩
def wsX0_enterGate : List Cond := .code yX0_enterGate cX0_enterGate 4 none :: wsG
abbrev cL_join : ByteArray := method_5_code
def yL_join : MethodName := ⟨RL, "join", "(LGateBench;III[J)I"⟩
def wsL_join : List Cond := .codeWith yL_join cL_join 6 (some .int) [(0, 12, 15, 19), (0, 12, 19, 13)] :: wsG
abbrev cX0_join : ByteArray := prog_1_method_4_code
def yX0_join : MethodName := ⟨RX0, "join", "(III)I"⟩
def wsX0_join : List Cond := .code yX0_join cX0_join 4 (some .int) :: wsG
abbrev cX0_orOf : ByteArray := prog_1_method_21_code
def yX0_orOf : MethodName := ⟨RX0, "orOf", "(II)I"⟩
def wsX0_orOf : List Cond := .code yX0_orOf cX0_orOf 3 (some .int) :: wsG
abbrev cX0_xorOf : ByteArray := prog_1_method_22_code
def yX0_xorOf : MethodName := ⟨RX0, "xorOf", "(II)I"⟩
def wsX0_xorOf : List Cond := .code yX0_xorOf cX0_xorOf 3 (some .int) :: wsG
abbrev cL_three : ByteArray := method_6_code
def yL_three : MethodName := ⟨RL, "three", "(LGateBench;IIII[J)I"⟩
def wsL_three : List Cond := .codeWith yL_three cL_three 7 (some .int) [(0, 14, 17, 19), (0, 14, 21, 13)] :: wsG
abbrev cX0_three : ByteArray := prog_1_method_5_code
def yX0_three : MethodName := ⟨RX0, "three", "(IIII)I"⟩
def wsX0_three : List Cond := .code yX0_three cX0_three 7 (some .int) :: wsG
abbrev cX0_ifOf : ByteArray := prog_1_method_23_code
def yX0_ifOf : MethodName := ⟨RX0, "ifOf", "(III)I"⟩
def wsX0_ifOf : List Cond := .code yX0_ifOf cX0_ifOf 4 (some .int) :: wsG
abbrev cL_set : ByteArray := method_7_code
def yL_set : MethodName := ⟨RL, "set", "(LGateBench;IZ[J)I"⟩
def wsL_set : List Cond := .codeWith yL_set cL_set 5 (some .int) [(0, 17, 20, 19)] :: wsG
abbrev cX0_set : ByteArray := prog_1_method_6_code
def yX0_set : MethodName := ⟨RX0, "set", "(IZ)Z"⟩
def wsX0_set : List Cond := .code yX0_set cX0_set 4 (some .boolean) :: wsG
abbrev cX0_needInput : ByteArray := prog_1_method_15_code
def yX0_needInput : MethodName := ⟨RX0, "needInput", "(I)V"⟩
def wsX0_needInput : List Cond := .code yX0_needInput cX0_needInput 2 none :: wsG
abbrev cX0_needNode : ByteArray := prog_1_method_14_code
def yX0_needNode : MethodName := ⟨RX0, "needNode", "(I)V"⟩
def wsX0_needNode : List Cond := .code yX0_needNode cX0_needNode 2 none :: wsG
abbrev cX0_kindOf : ByteArray := prog_1_method_18_code
def yX0_kindOf : MethodName := ⟨RX0, "kindOf", "(I)I"⟩
def wsX0_kindOf : List Cond := .code yX0_kindOf cX0_kindOf 2 (some .int) :: wsG
abbrev cL_value : ByteArray := method_8_code
def yL_value : MethodName := ⟨RL, "value", "(LGateBench;I[J)I"⟩
def wsL_value : List Cond := .codeWith yL_value cL_value 4 (some .int) [(0, 16, 19, 19)] :: wsG
abbrev cX0_value : ByteArray := prog_1_method_7_code
def yX0_value : MethodName := ⟨RX0, "value", "(I)Z"⟩
def wsX0_value : List Cond := .code yX0_value cX0_value 2 (some .boolean) :: wsG
abbrev cX0_settle : ByteArray := prog_1_method_34_code
def yX0_settle : MethodName := ⟨RX0, "settle", "(I)V"⟩
def wsX0_settle : List Cond := .code yX0_settle cX0_settle 3 none :: wsG
abbrev cX0_valueNow : ByteArray := prog_1_method_33_code
def yX0_valueNow : MethodName := ⟨RX0, "valueNow", "(I)I"⟩
def wsX0_valueNow : List Cond := .code yX0_valueNow cX0_valueNow 2 (some .int) :: wsG
abbrev cL_node : ByteArray := method_9_code
def yL_node : MethodName := ⟨RL, "node", "(LGateBench;II[J)I"⟩
def wsL_node : List Cond := .codeWith yL_node cL_node 5 (some .int) [(0, 10, 13, 19)] :: wsG
abbrev cX0_node : ByteArray := prog_1_method_8_code
def yX0_node : MethodName := ⟨RX0, "node", "(II)I"⟩
def wsX0_node : List Cond := .code yX0_node cX0_node 3 (some .int) :: wsG
abbrev cL_cone : ByteArray := method_10_code
def yL_cone : MethodName := ⟨RL, "cone", "(LGateBench;I[J)I"⟩
def wsL_cone : List Cond := .codeWith yL_cone cL_cone 4 (some .int) [(0, 9, 12, 19)] :: wsG
abbrev cX0_cone : ByteArray := prog_1_method_9_code
def yX0_cone : MethodName := ⟨RX0, "cone", "(I)I"⟩
def wsX0_cone : List Cond := .code yX0_cone cX0_cone 5 (some .int) :: wsG
abbrev cX0_markUnder : ByteArray := prog_1_method_35_code
def yX0_markUnder : MethodName := ⟨RX0, "markUnder", "(I)V"⟩
def wsX0_markUnder : List Cond := .code yX0_markUnder cX0_markUnder 3 none :: wsG
abbrev cL_below : ByteArray := method_11_code
def yL_below : MethodName := ⟨RL, "below", "(LGateBench;II[J)I"⟩
def wsL_below : List Cond := .codeWith yL_below cL_below 5 (some .int) [(0, 17, 20, 19)] :: wsG
abbrev cX0_below : ByteArray := prog_1_method_10_code
def yX0_below : MethodName := ⟨RX0, "below", "(II)Z"⟩
def wsX0_below : List Cond := .code yX0_below cX0_below 4 (some .boolean) :: wsG
abbrev cL_depth : ByteArray := method_12_code
def yL_depth : MethodName := ⟨RL, "depth", "(LGateBench;I[J)I"⟩
def wsL_depth : List Cond := .codeWith yL_depth cL_depth 4 (some .int) [(0, 9, 12, 19)] :: wsG
abbrev cX0_depth : ByteArray := prog_1_method_11_code
def yX0_depth : MethodName := ⟨RX0, "depth", "(I)I"⟩
def wsX0_depth : List Cond := .code yX0_depth cX0_depth 2 (some .int) :: wsG
abbrev cX1_init : ByteArray := prog_3_method_1_code
def yX1_init : MethodName := ⟨RX1, "<init>", "()V"⟩
def wsX1_init : List Cond := .code yX1_init cX1_init 1 none :: wsG
abbrev cX1_thrown : ByteArray := prog_3_method_2_code
def yX1_thrown : MethodName := ⟨RX1, "thrown", "()I"⟩
def wsX1_thrown : List Cond := .code yX1_thrown cX1_thrown 1 (some .int) :: wsG
abbrev cX1_input : ByteArray := prog_3_method_6_code
def yX1_input : MethodName := ⟨RX1, "input", "()I"⟩
def wsX1_input : List Cond := .code yX1_input cX1_input 2 (some .int) :: wsG
abbrev cX1_add : ByteArray := prog_3_method_5_code
def yX1_add : MethodName := ⟨RX1, "add", "(III)I"⟩
def wsX1_add : List Cond := .code yX1_add cX1_add 4 (some .int) :: wsG
abbrev cX1_and : ByteArray := prog_3_method_15_code
def yX1_and : MethodName := ⟨RX1, "and", "(II)I"⟩
def wsX1_and : List Cond := .code yX1_and cX1_and 4 (some .int) :: wsG
abbrev cX1_isLiteral : ByteArray := prog_3_method_3_code
def yX1_isLiteral : MethodName := ⟨RX1, "isLiteral", "(I)Z"⟩
def wsX1_isLiteral : List Cond := .code yX1_isLiteral cX1_isLiteral 2 (some .boolean) :: wsG
abbrev cX1_make : ByteArray := prog_3_method_12_code
def yX1_make : MethodName := ⟨RX1, "make", "(II)I"⟩
def wsX1_make : List Cond := .code yX1_make cX1_make 11 (some .int) :: wsG
abbrev cX1_isGate : ByteArray := prog_3_method_7_code
def yX1_isGate : MethodName := ⟨RX1, "isGate", "(IZ)Z"⟩
def wsX1_isGate : List Cond := .code yX1_isGate cX1_isGate 3 (some .boolean) :: wsG
abbrev cX1_has : ByteArray := prog_3_method_8_code
def yX1_has : MethodName := ⟨RX1, "has", "(II)Z"⟩
def wsX1_has : List Cond := .code yX1_has cX1_has 3 (some .boolean) :: wsG
abbrev cX1_beside : ByteArray := prog_3_method_9_code
def yX1_beside : MethodName := ⟨RX1, "beside", "(II)I"⟩
def wsX1_beside : List Cond := .code yX1_beside cX1_beside 3 (some .int) :: wsG
abbrev cX1_rule : ByteArray := prog_3_method_10_code
def yX1_rule : MethodName := ⟨RX1, "rule", "(III)I"⟩
def wsX1_rule : List Cond := .code yX1_rule cX1_rule 5 (some .int) :: wsG
abbrev cX1_gate : ByteArray := prog_3_method_11_code
def yX1_gate : MethodName := ⟨RX1, "gate", "(II)I"⟩
def wsX1_gate : List Cond := .code yX1_gate cX1_gate 6 (some .int) :: wsG
abbrev cX1_join : ByteArray := prog_3_method_16_code
def yX1_join : MethodName := ⟨RX1, "join", "(III)I"⟩
def wsX1_join : List Cond := .code yX1_join cX1_join 5 (some .int) :: wsG
abbrev cX1_or : ByteArray := prog_3_method_13_code
def yX1_or : MethodName := ⟨RX1, "or", "(II)I"⟩
def wsX1_or : List Cond := .code yX1_or cX1_or 3 (some .int) :: wsG
abbrev cX1_xor : ByteArray := prog_3_method_14_code
def yX1_xor : MethodName := ⟨RX1, "xor", "(II)I"⟩
def wsX1_xor : List Cond := .code yX1_xor cX1_xor 5 (some .int) :: wsG
abbrev cX1_three : ByteArray := prog_3_method_17_code
def yX1_three : MethodName := ⟨RX1, "three", "(IIII)I"⟩
def wsX1_three : List Cond := .code yX1_three cX1_three 8 (some .int) :: wsG
abbrev cX1_set : ByteArray := prog_3_method_18_code
def yX1_set : MethodName := ⟨RX1, "set", "(IZ)Z"⟩
def wsX1_set : List Cond := .code yX1_set cX1_set 4 (some .boolean) :: wsG
abbrev cX1_isInput : ByteArray := prog_3_method_4_code
def yX1_isInput : MethodName := ⟨RX1, "isInput", "(I)Z"⟩
def wsX1_isInput : List Cond := .code yX1_isInput cX1_isInput 2 (some .boolean) :: wsG
abbrev cX1_value : ByteArray := prog_3_method_20_code
def yX1_value : MethodName := ⟨RX1, "value", "(I)Z"⟩
def wsX1_value : List Cond := .code yX1_value cX1_value 3 (some .boolean) :: wsG
abbrev cX1_is : ByteArray := prog_3_method_19_code
def yX1_is : MethodName := ⟨RX1, "is", "(I)Z"⟩
def wsX1_is : List Cond := .code yX1_is cX1_is 2 (some .boolean) :: wsG
abbrev cX1_node : ByteArray := prog_3_method_21_code
def yX1_node : MethodName := ⟨RX1, "node", "(II)I"⟩
def wsX1_node : List Cond := .code yX1_node cX1_node 5 (some .int) :: wsG
abbrev cX1_cone : ByteArray := prog_3_method_23_code
def yX1_cone : MethodName := ⟨RX1, "cone", "(I)I"⟩
def wsX1_cone : List Cond := .code yX1_cone cX1_cone 2 (some .int) :: wsG
abbrev cX1_markBelow : ByteArray := prog_3_method_22_code
def yX1_markBelow : MethodName := ⟨RX1, "markBelow", "(I)I"⟩
def wsX1_markBelow : List Cond := .code yX1_markBelow cX1_markBelow 4 (some .int) :: wsG
abbrev cX1_below : ByteArray := prog_3_method_24_code
def yX1_below : MethodName := ⟨RX1, "below", "(II)Z"⟩
def wsX1_below : List Cond := .code yX1_below cX1_below 4 (some .boolean) :: wsG
abbrev cX1_depth : ByteArray := prog_3_method_25_code
def yX1_depth : MethodName := ⟨RX1, "depth", "(I)I"⟩
def wsX1_depth : List Cond := .code yX1_depth cX1_depth 5 (some .int) :: wsG
abbrev cX1_nodes : ByteArray := prog_3_method_26_code
def yX1_nodes : MethodName := ⟨RX1, "nodes", "()I"⟩
def wsX1_nodes : List Cond := .code yX1_nodes cX1_nodes 1 (some .int) :: wsG
abbrev cX1_inputs : ByteArray := prog_3_method_27_code
def yX1_inputs : MethodName := ⟨RX1, "inputs", "()I"⟩
def wsX1_inputs : List Cond := .code yX1_inputs cX1_inputs 1 (some .int) :: wsG
end
section
theorem kX0_init : (Cond.code yX0_init cX0_init 1 none) ∈ wsG := wGi 49 rfl rfl
theorem aX0_init : ∀ w ∈ wsX0_init, w ∈ wsG := cG kX0_init
theorem kX0_nodes : (Cond.code yX0_nodes cX0_nodes 1 (some .int)) ∈ wsG := wGi 91 rfl rfl
theorem aX0_nodes : ∀ w ∈ wsX0_nodes, w ∈ wsG := cG kX0_nodes
theorem kX0_inputs : (Cond.code yX0_inputs cX0_inputs 1 (some .int)) ∈ wsG := wGi 95 rfl rfl
theorem aX0_inputs : ∀ w ∈ wsX0_inputs, w ∈ wsG := cG kX0_inputs
theorem kL_input : (Cond.codeWith yL_input cL_input 3 (some .int) [(0, 8, 11, 13)]) ∈ wsG := wGi 98 rfl rfl
theorem aL_input : ∀ w ∈ wsL_input, w ∈ wsG := cG kL_input
theorem kX0_input : (Cond.code yX0_input cX0_input 2 (some .int)) ∈ wsG := wGi 103 rfl rfl
theorem aX0_input : ∀ w ∈ wsX0_input, w ∈ wsG := cG kX0_input
theorem kX0_newNode : (Cond.code yX0_newNode cX0_newNode 4 (some .int)) ∈ wsG := wGi 107 rfl rfl
theorem aX0_newNode : ∀ w ∈ wsX0_newNode, w ∈ wsG := cG kX0_newNode
theorem kX0_growRows : (Cond.code yX0_growRows cX0_growRows 2 none) ∈ wsG := wGi 178 rfl rfl
theorem aX0_growRows : ∀ w ∈ wsX0_growRows, w ∈ wsG := cG kX0_growRows
theorem kJ7_copyOf : (Cond.code yJ7_copyOf cJ7_copyOf 3 (some (.array .int))) ∈ wsG := wGi 181 rfl rfl
theorem aJ7_copyOf : ∀ w ∈ wsJ7_copyOf, w ∈ wsG := cG kJ7_copyOf
theorem kL_and : (Cond.codeWith yL_and cL_and 5 (some .int) [(0, 10, 13, 19), (0, 10, 17, 13)]) ∈ wsG := wGi 197 rfl rfl
theorem aL_and : ∀ w ∈ wsL_and, w ∈ wsG := cG kL_and
theorem kX0_and : (Cond.code yX0_and cX0_and 3 (some .int)) ∈ wsG := wGi 202 rfl rfl
theorem aX0_and : ∀ w ∈ wsX0_and, w ∈ wsG := cG kX0_and
theorem kX0_needLiteral : (Cond.code yX0_needLiteral cX0_needLiteral 2 none) ∈ wsG := wGi 206 rfl rfl
theorem aX0_needLiteral : ∀ w ∈ wsX0_needLiteral, w ∈ wsG := cG kX0_needLiteral
theorem kX0_andOf : (Cond.code yX0_andOf cX0_andOf 8 (some .int)) ∈ wsG := wGi 226 rfl rfl
theorem aX0_andOf : ∀ w ∈ wsX0_andOf, w ∈ wsG := cG kX0_andOf
theorem kX0_knownAnd : (Cond.code yX0_knownAnd cX0_knownAnd 4 (some .int)) ∈ wsG := wGi 234 rfl rfl
theorem aX0_knownAnd : ∀ w ∈ wsX0_knownAnd, w ∈ wsG := cG kX0_knownAnd
theorem kX0_not : (Cond.code yX0_not cX0_not 1 (some .int)) ∈ wsG := wGi 237 rfl rfl
theorem aX0_not : ∀ w ∈ wsX0_not, w ∈ wsG := cG kX0_not
theorem kX0_isGate : (Cond.code yX0_isGate cX0_isGate 2 (some .boolean)) ∈ wsG := wGi 241 rfl rfl
theorem aX0_isGate : ∀ w ∈ wsX0_isGate, w ∈ wsG := cG kX0_isGate
theorem kX0_isNegated : (Cond.code yX0_isNegated cX0_isNegated 1 (some .boolean)) ∈ wsG := wGi 244 rfl rfl
theorem aX0_isNegated : ∀ w ∈ wsX0_isNegated, w ∈ wsG := cG kX0_isNegated
theorem kX0_hasLiteral : (Cond.code yX0_hasLiteral cX0_hasLiteral 3 (some .boolean)) ∈ wsG := wGi 248 rfl rfl
theorem aX0_hasLiteral : ∀ w ∈ wsX0_hasLiteral, w ∈ wsG := cG kX0_hasLiteral
theorem kX0_isGateAgainst : (Cond.code yX0_isGateAgainst cX0_isGateAgainst 4 (some .boolean)) ∈ wsG := wGi 252 rfl rfl
theorem aX0_isGateAgainst : ∀ w ∈ wsX0_isGateAgainst, w ∈ wsG := cG kX0_isGateAgainst
theorem kX0_restOf : (Cond.code yX0_restOf cX0_restOf 4 (some .int)) ∈ wsG := wGi 256 rfl rfl
theorem aX0_restOf : ∀ w ∈ wsX0_restOf, w ∈ wsG := cG kX0_restOf
theorem kX0_gateOf : (Cond.code yX0_gateOf cX0_gateOf 5 (some .int)) ∈ wsG := wGi 260 rfl rfl
theorem aX0_gateOf : ∀ w ∈ wsX0_gateOf, w ∈ wsG := cG kX0_gateOf
theorem kX0_enterGate : (Cond.code yX0_enterGate cX0_enterGate 4 none) ∈ wsG := wGi 264 rfl rfl
theorem aX0_enterGate : ∀ w ∈ wsX0_enterGate, w ∈ wsG := cG kX0_enterGate
theorem kL_join : (Cond.codeWith yL_join cL_join 6 (some .int) [(0, 12, 15, 19), (0, 12, 19, 13)]) ∈ wsG := wGi 267 rfl rfl
theorem aL_join : ∀ w ∈ wsL_join, w ∈ wsG := cG kL_join
theorem kX0_join : (Cond.code yX0_join cX0_join 4 (some .int)) ∈ wsG := wGi 271 rfl rfl
theorem aX0_join : ∀ w ∈ wsX0_join, w ∈ wsG := cG kX0_join
theorem kX0_orOf : (Cond.code yX0_orOf cX0_orOf 3 (some .int)) ∈ wsG := wGi 275 rfl rfl
theorem aX0_orOf : ∀ w ∈ wsX0_orOf, w ∈ wsG := cG kX0_orOf
theorem kX0_xorOf : (Cond.code yX0_xorOf cX0_xorOf 3 (some .int)) ∈ wsG := wGi 279 rfl rfl
theorem aX0_xorOf : ∀ w ∈ wsX0_xorOf, w ∈ wsG := cG kX0_xorOf
theorem kL_three : (Cond.codeWith yL_three cL_three 7 (some .int) [(0, 14, 17, 19), (0, 14, 21, 13)]) ∈ wsG := wGi 283 rfl rfl
theorem aL_three : ∀ w ∈ wsL_three, w ∈ wsG := cG kL_three
theorem kX0_three : (Cond.code yX0_three cX0_three 7 (some .int)) ∈ wsG := wGi 287 rfl rfl
theorem aX0_three : ∀ w ∈ wsX0_three, w ∈ wsG := cG kX0_three
theorem kX0_ifOf : (Cond.code yX0_ifOf cX0_ifOf 4 (some .int)) ∈ wsG := wGi 291 rfl rfl
theorem aX0_ifOf : ∀ w ∈ wsX0_ifOf, w ∈ wsG := cG kX0_ifOf
theorem kL_set : (Cond.codeWith yL_set cL_set 5 (some .int) [(0, 17, 20, 19)]) ∈ wsG := wGi 295 rfl rfl
theorem aL_set : ∀ w ∈ wsL_set, w ∈ wsG := cG kL_set
theorem kX0_set : (Cond.code yX0_set cX0_set 4 (some .boolean)) ∈ wsG := wGi 299 rfl rfl
theorem aX0_set : ∀ w ∈ wsX0_set, w ∈ wsG := cG kX0_set
theorem kX0_needInput : (Cond.code yX0_needInput cX0_needInput 2 none) ∈ wsG := wGi 303 rfl rfl
theorem aX0_needInput : ∀ w ∈ wsX0_needInput, w ∈ wsG := cG kX0_needInput
theorem kX0_needNode : (Cond.code yX0_needNode cX0_needNode 2 none) ∈ wsG := wGi 307 rfl rfl
theorem aX0_needNode : ∀ w ∈ wsX0_needNode, w ∈ wsG := cG kX0_needNode
theorem kX0_kindOf : (Cond.code yX0_kindOf cX0_kindOf 2 (some .int)) ∈ wsG := wGi 312 rfl rfl
theorem aX0_kindOf : ∀ w ∈ wsX0_kindOf, w ∈ wsG := cG kX0_kindOf
theorem kL_value : (Cond.codeWith yL_value cL_value 4 (some .int) [(0, 16, 19, 19)]) ∈ wsG := wGi 316 rfl rfl
theorem aL_value : ∀ w ∈ wsL_value, w ∈ wsG := cG kL_value
theorem kX0_value : (Cond.code yX0_value cX0_value 2 (some .boolean)) ∈ wsG := wGi 320 rfl rfl
theorem aX0_value : ∀ w ∈ wsX0_value, w ∈ wsG := cG kX0_value
theorem kX0_settle : (Cond.code yX0_settle cX0_settle 3 none) ∈ wsG := wGi 324 rfl rfl
theorem aX0_settle : ∀ w ∈ wsX0_settle, w ∈ wsG := cG kX0_settle
theorem kX0_valueNow : (Cond.code yX0_valueNow cX0_valueNow 2 (some .int)) ∈ wsG := wGi 328 rfl rfl
theorem aX0_valueNow : ∀ w ∈ wsX0_valueNow, w ∈ wsG := cG kX0_valueNow
theorem kL_node : (Cond.codeWith yL_node cL_node 5 (some .int) [(0, 10, 13, 19)]) ∈ wsG := wGi 331 rfl rfl
theorem aL_node : ∀ w ∈ wsL_node, w ∈ wsG := cG kL_node
theorem kX0_node : (Cond.code yX0_node cX0_node 3 (some .int)) ∈ wsG := wGi 335 rfl rfl
theorem aX0_node : ∀ w ∈ wsX0_node, w ∈ wsG := cG kX0_node
theorem kL_cone : (Cond.codeWith yL_cone cL_cone 4 (some .int) [(0, 9, 12, 19)]) ∈ wsG := wGi 339 rfl rfl
theorem aL_cone : ∀ w ∈ wsL_cone, w ∈ wsG := cG kL_cone
theorem kX0_cone : (Cond.code yX0_cone cX0_cone 5 (some .int)) ∈ wsG := wGi 343 rfl rfl
theorem aX0_cone : ∀ w ∈ wsX0_cone, w ∈ wsG := cG kX0_cone
theorem kX0_markUnder : (Cond.code yX0_markUnder cX0_markUnder 3 none) ∈ wsG := wGi 347 rfl rfl
theorem aX0_markUnder : ∀ w ∈ wsX0_markUnder, w ∈ wsG := cG kX0_markUnder
theorem kL_below : (Cond.codeWith yL_below cL_below 5 (some .int) [(0, 17, 20, 19)]) ∈ wsG := wGi 350 rfl rfl
theorem aL_below : ∀ w ∈ wsL_below, w ∈ wsG := cG kL_below
theorem kX0_below : (Cond.code yX0_below cX0_below 4 (some .boolean)) ∈ wsG := wGi 354 rfl rfl
theorem aX0_below : ∀ w ∈ wsX0_below, w ∈ wsG := cG kX0_below
theorem kL_depth : (Cond.codeWith yL_depth cL_depth 4 (some .int) [(0, 9, 12, 19)]) ∈ wsG := wGi 357 rfl rfl
theorem aL_depth : ∀ w ∈ wsL_depth, w ∈ wsG := cG kL_depth
theorem kX0_depth : (Cond.code yX0_depth cX0_depth 2 (some .int)) ∈ wsG := wGi 361 rfl rfl
theorem aX0_depth : ∀ w ∈ wsX0_depth, w ∈ wsG := cG kX0_depth
theorem kX1_init : (Cond.code yX1_init cX1_init 1 none) ∈ wsG := wGi 366 rfl rfl
theorem aX1_init : ∀ w ∈ wsX1_init, w ∈ wsG := cG kX1_init
theorem kX1_thrown : (Cond.code yX1_thrown cX1_thrown 1 (some .int)) ∈ wsG := wGi 397 rfl rfl
theorem aX1_thrown : ∀ w ∈ wsX1_thrown, w ∈ wsG := cG kX1_thrown
theorem kX1_input : (Cond.code yX1_input cX1_input 2 (some .int)) ∈ wsG := wGi 401 rfl rfl
theorem aX1_input : ∀ w ∈ wsX1_input, w ∈ wsG := cG kX1_input
theorem kX1_add : (Cond.code yX1_add cX1_add 4 (some .int)) ∈ wsG := wGi 405 rfl rfl
theorem aX1_add : ∀ w ∈ wsX1_add, w ∈ wsG := cG kX1_add
theorem kX1_and : (Cond.code yX1_and cX1_and 4 (some .int)) ∈ wsG := wGi 409 rfl rfl
theorem aX1_and : ∀ w ∈ wsX1_and, w ∈ wsG := cG kX1_and
theorem kX1_isLiteral : (Cond.code yX1_isLiteral cX1_isLiteral 2 (some .boolean)) ∈ wsG := wGi 413 rfl rfl
theorem aX1_isLiteral : ∀ w ∈ wsX1_isLiteral, w ∈ wsG := cG kX1_isLiteral
theorem kX1_make : (Cond.code yX1_make cX1_make 11 (some .int)) ∈ wsG := wGi 417 rfl rfl
theorem aX1_make : ∀ w ∈ wsX1_make, w ∈ wsG := cG kX1_make
theorem kX1_isGate : (Cond.code yX1_isGate cX1_isGate 3 (some .boolean)) ∈ wsG := wGi 421 rfl rfl
theorem aX1_isGate : ∀ w ∈ wsX1_isGate, w ∈ wsG := cG kX1_isGate
theorem kX1_has : (Cond.code yX1_has cX1_has 3 (some .boolean)) ∈ wsG := wGi 425 rfl rfl
theorem aX1_has : ∀ w ∈ wsX1_has, w ∈ wsG := cG kX1_has
theorem kX1_beside : (Cond.code yX1_beside cX1_beside 3 (some .int)) ∈ wsG := wGi 429 rfl rfl
theorem aX1_beside : ∀ w ∈ wsX1_beside, w ∈ wsG := cG kX1_beside
theorem kX1_rule : (Cond.code yX1_rule cX1_rule 5 (some .int)) ∈ wsG := wGi 433 rfl rfl
theorem aX1_rule : ∀ w ∈ wsX1_rule, w ∈ wsG := cG kX1_rule
theorem kX1_gate : (Cond.code yX1_gate cX1_gate 6 (some .int)) ∈ wsG := wGi 437 rfl rfl
theorem aX1_gate : ∀ w ∈ wsX1_gate, w ∈ wsG := cG kX1_gate
theorem kX1_join : (Cond.code yX1_join cX1_join 5 (some .int)) ∈ wsG := wGi 441 rfl rfl
theorem aX1_join : ∀ w ∈ wsX1_join, w ∈ wsG := cG kX1_join
theorem kX1_or : (Cond.code yX1_or cX1_or 3 (some .int)) ∈ wsG := wGi 445 rfl rfl
theorem aX1_or : ∀ w ∈ wsX1_or, w ∈ wsG := cG kX1_or
theorem kX1_xor : (Cond.code yX1_xor cX1_xor 5 (some .int)) ∈ wsG := wGi 449 rfl rfl
theorem aX1_xor : ∀ w ∈ wsX1_xor, w ∈ wsG := cG kX1_xor
theorem kX1_three : (Cond.code yX1_three cX1_three 8 (some .int)) ∈ wsG := wGi 453 rfl rfl
theorem aX1_three : ∀ w ∈ wsX1_three, w ∈ wsG := cG kX1_three
theorem kX1_set : (Cond.code yX1_set cX1_set 4 (some .boolean)) ∈ wsG := wGi 457 rfl rfl
theorem aX1_set : ∀ w ∈ wsX1_set, w ∈ wsG := cG kX1_set
theorem kX1_isInput : (Cond.code yX1_isInput cX1_isInput 2 (some .boolean)) ∈ wsG := wGi 461 rfl rfl
theorem aX1_isInput : ∀ w ∈ wsX1_isInput, w ∈ wsG := cG kX1_isInput
theorem kX1_value : (Cond.code yX1_value cX1_value 3 (some .boolean)) ∈ wsG := wGi 465 rfl rfl
theorem aX1_value : ∀ w ∈ wsX1_value, w ∈ wsG := cG kX1_value
theorem kX1_is : (Cond.code yX1_is cX1_is 2 (some .boolean)) ∈ wsG := wGi 469 rfl rfl
theorem aX1_is : ∀ w ∈ wsX1_is, w ∈ wsG := cG kX1_is
theorem kX1_node : (Cond.code yX1_node cX1_node 5 (some .int)) ∈ wsG := wGi 473 rfl rfl
theorem aX1_node : ∀ w ∈ wsX1_node, w ∈ wsG := cG kX1_node
theorem kX1_cone : (Cond.code yX1_cone cX1_cone 2 (some .int)) ∈ wsG := wGi 477 rfl rfl
theorem aX1_cone : ∀ w ∈ wsX1_cone, w ∈ wsG := cG kX1_cone
theorem kX1_markBelow : (Cond.code yX1_markBelow cX1_markBelow 4 (some .int)) ∈ wsG := wGi 481 rfl rfl
theorem aX1_markBelow : ∀ w ∈ wsX1_markBelow, w ∈ wsG := cG kX1_markBelow
theorem kX1_below : (Cond.code yX1_below cX1_below 4 (some .boolean)) ∈ wsG := wGi 485 rfl rfl
theorem aX1_below : ∀ w ∈ wsX1_below, w ∈ wsG := cG kX1_below
theorem kX1_depth : (Cond.code yX1_depth cX1_depth 5 (some .int)) ∈ wsG := wGi 489 rfl rfl
theorem aX1_depth : ∀ w ∈ wsX1_depth, w ∈ wsG := cG kX1_depth
theorem kX1_nodes : (Cond.code yX1_nodes cX1_nodes 1 (some .int)) ∈ wsG := wGi 493 rfl rfl
theorem aX1_nodes : ∀ w ∈ wsX1_nodes, w ∈ wsG := cG kX1_nodes
theorem kX1_inputs : (Cond.code yX1_inputs cX1_inputs 1 (some .int)) ∈ wsG := wGi 497 rfl rfl
theorem aX1_inputs : ∀ w ∈ wsX1_inputs, w ∈ wsG := cG kX1_inputs
theorem wm_104 : (Cond.methodLink RX0 44 yX0_newNode) ∈ wsG := wGi 104 rfl rfl
theorem wm_35 : (Cond.initialized RX0) ∈ wsG := wGi 35 rfl rfl
theorem wm_106 : (Cond.instanceMethod yX0_newNode) ∈ wsG := wGi 106 rfl rfl
theorem wm_0 : (Cond.selects RX0 yX0_newNode yX0_newNode) ∈ wsG := wGi 0 rfl rfl
theorem wm_203 : (Cond.methodLink RX0 48 yX0_needLiteral) ∈ wsG := wGi 203 rfl rfl
theorem wm_205 : (Cond.instanceMethod yX0_needLiteral) ∈ wsG := wGi 205 rfl rfl
theorem wm_3 : (Cond.selects RX0 yX0_needLiteral yX0_needLiteral) ∈ wsG := wGi 3 rfl rfl
theorem wm_223 : (Cond.methodLink RX0 52 yX0_andOf) ∈ wsG := wGi 223 rfl rfl
theorem wm_225 : (Cond.instanceMethod yX0_andOf) ∈ wsG := wGi 225 rfl rfl
theorem wm_4 : (Cond.selects RX0 yX0_andOf yX0_andOf) ∈ wsG := wGi 4 rfl rfl
theorem wm_272 : (Cond.methodLink RX0 55 yX0_orOf) ∈ wsG := wGi 272 rfl rfl
theorem wm_274 : (Cond.instanceMethod yX0_orOf) ∈ wsG := wGi 274 rfl rfl
theorem wm_12 : (Cond.selects RX0 yX0_orOf yX0_orOf) ∈ wsG := wGi 12 rfl rfl
theorem wm_276 : (Cond.methodLink RX0 58 yX0_xorOf) ∈ wsG := wGi 276 rfl rfl
theorem wm_278 : (Cond.instanceMethod yX0_xorOf) ∈ wsG := wGi 278 rfl rfl
theorem wm_13 : (Cond.selects RX0 yX0_xorOf yX0_xorOf) ∈ wsG := wGi 13 rfl rfl
theorem wm_288 : (Cond.methodLink RX0 68 yX0_ifOf) ∈ wsG := wGi 288 rfl rfl
theorem wm_290 : (Cond.instanceMethod yX0_ifOf) ∈ wsG := wGi 290 rfl rfl
theorem wm_14 : (Cond.selects RX0 yX0_ifOf yX0_ifOf) ∈ wsG := wGi 14 rfl rfl
theorem wm_300 : (Cond.methodLink RX0 74 yX0_needInput) ∈ wsG := wGi 300 rfl rfl
theorem wm_302 : (Cond.instanceMethod yX0_needInput) ∈ wsG := wGi 302 rfl rfl
theorem wm_15 : (Cond.selects RX0 yX0_needInput yX0_needInput) ∈ wsG := wGi 15 rfl rfl
theorem wm_321 : (Cond.methodLink RX0 82 yX0_settle) ∈ wsG := wGi 321 rfl rfl
theorem wm_323 : (Cond.instanceMethod yX0_settle) ∈ wsG := wGi 323 rfl rfl
theorem wm_18 : (Cond.selects RX0 yX0_settle yX0_settle) ∈ wsG := wGi 18 rfl rfl
theorem wm_325 : (Cond.methodLink RX0 85 yX0_valueNow) ∈ wsG := wGi 325 rfl rfl
theorem wm_327 : (Cond.instanceMethod yX0_valueNow) ∈ wsG := wGi 327 rfl rfl
theorem wm_19 : (Cond.selects RX0 yX0_valueNow yX0_valueNow) ∈ wsG := wGi 19 rfl rfl
theorem wm_304 : (Cond.methodLink RX0 89 yX0_needNode) ∈ wsG := wGi 304 rfl rfl
theorem wm_306 : (Cond.instanceMethod yX0_needNode) ∈ wsG := wGi 306 rfl rfl
theorem wm_16 : (Cond.selects RX0 yX0_needNode yX0_needNode) ∈ wsG := wGi 16 rfl rfl
theorem wm_309 : (Cond.methodLink RX0 92 yX0_kindOf) ∈ wsG := wGi 309 rfl rfl
theorem wm_311 : (Cond.instanceMethod yX0_kindOf) ∈ wsG := wGi 311 rfl rfl
theorem wm_17 : (Cond.selects RX0 yX0_kindOf yX0_kindOf) ∈ wsG := wGi 17 rfl rfl
theorem wm_344 : (Cond.methodLink RX0 97 yX0_markUnder) ∈ wsG := wGi 344 rfl rfl
theorem wm_346 : (Cond.instanceMethod yX0_markUnder) ∈ wsG := wGi 346 rfl rfl
theorem wm_20 : (Cond.selects RX0 yX0_markUnder yX0_markUnder) ∈ wsG := wGi 20 rfl rfl
theorem wm_238 : (Cond.methodLink RX0 100 yX0_isGate) ∈ wsG := wGi 238 rfl rfl
theorem wm_240 : (Cond.instanceMethod yX0_isGate) ∈ wsG := wGi 240 rfl rfl
theorem wm_6 : (Cond.selects RX0 yX0_isGate yX0_isGate) ∈ wsG := wGi 6 rfl rfl
theorem wm_235 : (Cond.methodLink RX0 110 yX0_not) ∈ wsG := wGi 235 rfl rfl
theorem wm_236 : (Cond.static yX0_not) ∈ wsG := wGi 236 rfl rfl
theorem wm_231 : (Cond.methodLink RX0 116 yX0_knownAnd) ∈ wsG := wGi 231 rfl rfl
theorem wm_233 : (Cond.instanceMethod yX0_knownAnd) ∈ wsG := wGi 233 rfl rfl
theorem wm_5 : (Cond.selects RX0 yX0_knownAnd yX0_knownAnd) ∈ wsG := wGi 5 rfl rfl
theorem wm_253 : (Cond.methodLink RX0 119 yX0_restOf) ∈ wsG := wGi 253 rfl rfl
theorem wm_255 : (Cond.instanceMethod yX0_restOf) ∈ wsG := wGi 255 rfl rfl
theorem wm_9 : (Cond.selects RX0 yX0_restOf yX0_restOf) ∈ wsG := wGi 9 rfl rfl
theorem wm_257 : (Cond.methodLink RX0 122 yX0_gateOf) ∈ wsG := wGi 257 rfl rfl
theorem wm_259 : (Cond.instanceMethod yX0_gateOf) ∈ wsG := wGi 259 rfl rfl
theorem wm_10 : (Cond.selects RX0 yX0_gateOf yX0_gateOf) ∈ wsG := wGi 10 rfl rfl
theorem wm_242 : (Cond.methodLink RX0 125 yX0_isNegated) ∈ wsG := wGi 242 rfl rfl
theorem wm_243 : (Cond.static yX0_isNegated) ∈ wsG := wGi 243 rfl rfl
theorem wm_245 : (Cond.methodLink RX0 128 yX0_hasLiteral) ∈ wsG := wGi 245 rfl rfl
theorem wm_247 : (Cond.instanceMethod yX0_hasLiteral) ∈ wsG := wGi 247 rfl rfl
theorem wm_7 : (Cond.selects RX0 yX0_hasLiteral yX0_hasLiteral) ∈ wsG := wGi 7 rfl rfl
theorem wm_249 : (Cond.methodLink RX0 132 yX0_isGateAgainst) ∈ wsG := wGi 249 rfl rfl
theorem wm_251 : (Cond.instanceMethod yX0_isGateAgainst) ∈ wsG := wGi 251 rfl rfl
theorem wm_8 : (Cond.selects RX0 yX0_isGateAgainst yX0_isGateAgainst) ∈ wsG := wGi 8 rfl rfl
theorem wm_261 : (Cond.methodLink RX0 135 yX0_enterGate) ∈ wsG := wGi 261 rfl rfl
theorem wm_263 : (Cond.instanceMethod yX0_enterGate) ∈ wsG := wGi 263 rfl rfl
theorem wm_11 : (Cond.selects RX0 yX0_enterGate yX0_enterGate) ∈ wsG := wGi 11 rfl rfl
theorem wm_175 : (Cond.methodLink RX0 144 yX0_growRows) ∈ wsG := wGi 175 rfl rfl
theorem wm_177 : (Cond.instanceMethod yX0_growRows) ∈ wsG := wGi 177 rfl rfl
theorem wm_2 : (Cond.selects RX0 yX0_growRows yX0_growRows) ∈ wsG := wGi 2 rfl rfl
theorem wm_179 : (Cond.methodLink RX0 147 yJ7_copyOf) ∈ wsG := wGi 179 rfl rfl
theorem wm_41 : (Cond.initialized RJ7) ∈ wsG := wGi 41 rfl rfl
theorem wm_180 : (Cond.static yJ7_copyOf) ∈ wsG := wGi 180 rfl rfl
theorem wm_402 : (Cond.methodLink RX1 34 yX1_add) ∈ wsG := wGi 402 rfl rfl
theorem wm_36 : (Cond.initialized RX1) ∈ wsG := wGi 36 rfl rfl
theorem wm_404 : (Cond.instanceMethod yX1_add) ∈ wsG := wGi 404 rfl rfl
theorem wm_21 : (Cond.selects RX1 yX1_add yX1_add) ∈ wsG := wGi 21 rfl rfl
theorem wm_418 : (Cond.methodLink RX1 41 yX1_isGate) ∈ wsG := wGi 418 rfl rfl
theorem wm_420 : (Cond.instanceMethod yX1_isGate) ∈ wsG := wGi 420 rfl rfl
theorem wm_24 : (Cond.selects RX1 yX1_isGate yX1_isGate) ∈ wsG := wGi 24 rfl rfl
theorem wm_422 : (Cond.methodLink RX1 45 yX1_has) ∈ wsG := wGi 422 rfl rfl
theorem wm_424 : (Cond.instanceMethod yX1_has) ∈ wsG := wGi 424 rfl rfl
theorem wm_25 : (Cond.selects RX1 yX1_has yX1_has) ∈ wsG := wGi 25 rfl rfl
theorem wm_426 : (Cond.methodLink RX1 49 yX1_beside) ∈ wsG := wGi 426 rfl rfl
theorem wm_428 : (Cond.instanceMethod yX1_beside) ∈ wsG := wGi 428 rfl rfl
theorem wm_26 : (Cond.selects RX1 yX1_beside yX1_beside) ∈ wsG := wGi 26 rfl rfl
theorem wm_430 : (Cond.methodLink RX1 53 yX1_rule) ∈ wsG := wGi 430 rfl rfl
theorem wm_432 : (Cond.instanceMethod yX1_rule) ∈ wsG := wGi 432 rfl rfl
theorem wm_27 : (Cond.selects RX1 yX1_rule yX1_rule) ∈ wsG := wGi 27 rfl rfl
theorem wm_434 : (Cond.methodLink RX1 56 yX1_gate) ∈ wsG := wGi 434 rfl rfl
theorem wm_436 : (Cond.instanceMethod yX1_gate) ∈ wsG := wGi 436 rfl rfl
theorem wm_28 : (Cond.selects RX1 yX1_gate yX1_gate) ∈ wsG := wGi 28 rfl rfl
theorem wm_414 : (Cond.methodLink RX1 59 yX1_make) ∈ wsG := wGi 414 rfl rfl
theorem wm_416 : (Cond.instanceMethod yX1_make) ∈ wsG := wGi 416 rfl rfl
theorem wm_23 : (Cond.selects RX1 yX1_make yX1_make) ∈ wsG := wGi 23 rfl rfl
theorem wm_442 : (Cond.methodLink RX1 62 yX1_or) ∈ wsG := wGi 442 rfl rfl
theorem wm_444 : (Cond.instanceMethod yX1_or) ∈ wsG := wGi 444 rfl rfl
theorem wm_29 : (Cond.selects RX1 yX1_or yX1_or) ∈ wsG := wGi 29 rfl rfl
theorem wm_410 : (Cond.methodLink RX1 65 yX1_isLiteral) ∈ wsG := wGi 410 rfl rfl
theorem wm_412 : (Cond.instanceMethod yX1_isLiteral) ∈ wsG := wGi 412 rfl rfl
theorem wm_22 : (Cond.selects RX1 yX1_isLiteral yX1_isLiteral) ∈ wsG := wGi 22 rfl rfl
theorem wm_446 : (Cond.methodLink RX1 69 yX1_xor) ∈ wsG := wGi 446 rfl rfl
theorem wm_448 : (Cond.instanceMethod yX1_xor) ∈ wsG := wGi 448 rfl rfl
theorem wm_30 : (Cond.selects RX1 yX1_xor yX1_xor) ∈ wsG := wGi 30 rfl rfl
theorem wm_458 : (Cond.methodLink RX1 72 yX1_isInput) ∈ wsG := wGi 458 rfl rfl
theorem wm_460 : (Cond.instanceMethod yX1_isInput) ∈ wsG := wGi 460 rfl rfl
theorem wm_31 : (Cond.selects RX1 yX1_isInput yX1_isInput) ∈ wsG := wGi 31 rfl rfl
theorem wm_466 : (Cond.methodLink RX1 75 yX1_is) ∈ wsG := wGi 466 rfl rfl
theorem wm_468 : (Cond.instanceMethod yX1_is) ∈ wsG := wGi 468 rfl rfl
theorem wm_32 : (Cond.selects RX1 yX1_is yX1_is) ∈ wsG := wGi 32 rfl rfl
theorem wm_478 : (Cond.methodLink RX1 78 yX1_markBelow) ∈ wsG := wGi 478 rfl rfl
theorem wm_480 : (Cond.instanceMethod yX1_markBelow) ∈ wsG := wGi 480 rfl rfl
theorem wm_33 : (Cond.selects RX1 yX1_markBelow yX1_markBelow) ∈ wsG := wGi 33 rfl rfl
theorem wm_100 : (Cond.methodLink RL 7 yX0_input) ∈ wsG := wGi 100 rfl rfl
theorem wm_101 : (Cond.instanceMethod yX0_input) ∈ wsG := wGi 101 rfl rfl
theorem wm_102 : (Cond.selects RX0 yX0_input yX0_input) ∈ wsG := wGi 102 rfl rfl
theorem wm_199 : (Cond.methodLink RL 15 yX0_and) ∈ wsG := wGi 199 rfl rfl
theorem wm_200 : (Cond.instanceMethod yX0_and) ∈ wsG := wGi 200 rfl rfl
theorem wm_201 : (Cond.selects RX0 yX0_and yX0_and) ∈ wsG := wGi 201 rfl rfl
theorem wm_268 : (Cond.methodLink RL 21 yX0_join) ∈ wsG := wGi 268 rfl rfl
theorem wm_269 : (Cond.instanceMethod yX0_join) ∈ wsG := wGi 269 rfl rfl
theorem wm_270 : (Cond.selects RX0 yX0_join yX0_join) ∈ wsG := wGi 270 rfl rfl
theorem wm_284 : (Cond.methodLink RL 25 yX0_three) ∈ wsG := wGi 284 rfl rfl
theorem wm_285 : (Cond.instanceMethod yX0_three) ∈ wsG := wGi 285 rfl rfl
theorem wm_286 : (Cond.selects RX0 yX0_three yX0_three) ∈ wsG := wGi 286 rfl rfl
theorem wm_296 : (Cond.methodLink RL 29 yX0_set) ∈ wsG := wGi 296 rfl rfl
theorem wm_297 : (Cond.instanceMethod yX0_set) ∈ wsG := wGi 297 rfl rfl
theorem wm_298 : (Cond.selects RX0 yX0_set yX0_set) ∈ wsG := wGi 298 rfl rfl
theorem wm_317 : (Cond.methodLink RL 33 yX0_value) ∈ wsG := wGi 317 rfl rfl
theorem wm_318 : (Cond.instanceMethod yX0_value) ∈ wsG := wGi 318 rfl rfl
theorem wm_319 : (Cond.selects RX0 yX0_value yX0_value) ∈ wsG := wGi 319 rfl rfl
theorem wm_332 : (Cond.methodLink RL 37 yX0_node) ∈ wsG := wGi 332 rfl rfl
theorem wm_333 : (Cond.instanceMethod yX0_node) ∈ wsG := wGi 333 rfl rfl
theorem wm_334 : (Cond.selects RX0 yX0_node yX0_node) ∈ wsG := wGi 334 rfl rfl
theorem wm_340 : (Cond.methodLink RL 40 yX0_cone) ∈ wsG := wGi 340 rfl rfl
theorem wm_341 : (Cond.instanceMethod yX0_cone) ∈ wsG := wGi 341 rfl rfl
theorem wm_342 : (Cond.selects RX0 yX0_cone yX0_cone) ∈ wsG := wGi 342 rfl rfl
theorem wm_351 : (Cond.methodLink RL 44 yX0_below) ∈ wsG := wGi 351 rfl rfl
theorem wm_352 : (Cond.instanceMethod yX0_below) ∈ wsG := wGi 352 rfl rfl
theorem wm_353 : (Cond.selects RX0 yX0_below yX0_below) ∈ wsG := wGi 353 rfl rfl
theorem wm_358 : (Cond.methodLink RL 48 yX0_depth) ∈ wsG := wGi 358 rfl rfl
theorem wm_359 : (Cond.instanceMethod yX0_depth) ∈ wsG := wGi 359 rfl rfl
theorem wm_360 : (Cond.selects RX0 yX0_depth yX0_depth) ∈ wsG := wGi 360 rfl rfl
theorem wm_47 : (Cond.methodLink RL 51 yX0_init) ∈ wsG := wGi 47 rfl rfl
theorem wm_48 : (Cond.instanceMethod yX0_init) ∈ wsG := wGi 48 rfl rfl
theorem wm_364 : (Cond.methodLink RL 54 yX1_init) ∈ wsG := wGi 364 rfl rfl
theorem wm_365 : (Cond.instanceMethod yX1_init) ∈ wsG := wGi 365 rfl rfl
theorem wm_96 : (Cond.methodLink RL 55 yL_input) ∈ wsG := wGi 96 rfl rfl
theorem wm_34 : (Cond.initialized RL) ∈ wsG := wGi 34 rfl rfl
theorem wm_97 : (Cond.static yL_input) ∈ wsG := wGi 97 rfl rfl
theorem wm_398 : (Cond.methodLink RL 60 yX1_input) ∈ wsG := wGi 398 rfl rfl
theorem wm_399 : (Cond.instanceMethod yX1_input) ∈ wsG := wGi 399 rfl rfl
theorem wm_400 : (Cond.selects RX1 yX1_input yX1_input) ∈ wsG := wGi 400 rfl rfl
theorem wm_394 : (Cond.methodLink RL 61 yX1_thrown) ∈ wsG := wGi 394 rfl rfl
theorem wm_395 : (Cond.instanceMethod yX1_thrown) ∈ wsG := wGi 395 rfl rfl
theorem wm_396 : (Cond.selects RX1 yX1_thrown yX1_thrown) ∈ wsG := wGi 396 rfl rfl
theorem wm_195 : (Cond.methodLink RL 64 yL_and) ∈ wsG := wGi 195 rfl rfl
theorem wm_196 : (Cond.static yL_and) ∈ wsG := wGi 196 rfl rfl
theorem wm_406 : (Cond.methodLink RL 67 yX1_and) ∈ wsG := wGi 406 rfl rfl
theorem wm_407 : (Cond.instanceMethod yX1_and) ∈ wsG := wGi 407 rfl rfl
theorem wm_408 : (Cond.selects RX1 yX1_and yX1_and) ∈ wsG := wGi 408 rfl rfl
theorem wm_265 : (Cond.methodLink RL 68 yL_join) ∈ wsG := wGi 265 rfl rfl
theorem wm_266 : (Cond.static yL_join) ∈ wsG := wGi 266 rfl rfl
theorem wm_438 : (Cond.methodLink RL 71 yX1_join) ∈ wsG := wGi 438 rfl rfl
theorem wm_439 : (Cond.instanceMethod yX1_join) ∈ wsG := wGi 439 rfl rfl
theorem wm_440 : (Cond.selects RX1 yX1_join yX1_join) ∈ wsG := wGi 440 rfl rfl
theorem wm_281 : (Cond.methodLink RL 72 yL_three) ∈ wsG := wGi 281 rfl rfl
theorem wm_282 : (Cond.static yL_three) ∈ wsG := wGi 282 rfl rfl
theorem wm_450 : (Cond.methodLink RL 75 yX1_three) ∈ wsG := wGi 450 rfl rfl
theorem wm_451 : (Cond.instanceMethod yX1_three) ∈ wsG := wGi 451 rfl rfl
theorem wm_452 : (Cond.selects RX1 yX1_three yX1_three) ∈ wsG := wGi 452 rfl rfl
theorem wm_293 : (Cond.methodLink RL 76 yL_set) ∈ wsG := wGi 293 rfl rfl
theorem wm_294 : (Cond.static yL_set) ∈ wsG := wGi 294 rfl rfl
theorem wm_454 : (Cond.methodLink RL 79 yX1_set) ∈ wsG := wGi 454 rfl rfl
theorem wm_455 : (Cond.instanceMethod yX1_set) ∈ wsG := wGi 455 rfl rfl
theorem wm_456 : (Cond.selects RX1 yX1_set yX1_set) ∈ wsG := wGi 456 rfl rfl
theorem wm_314 : (Cond.methodLink RL 80 yL_value) ∈ wsG := wGi 314 rfl rfl
theorem wm_315 : (Cond.static yL_value) ∈ wsG := wGi 315 rfl rfl
theorem wm_462 : (Cond.methodLink RL 83 yX1_value) ∈ wsG := wGi 462 rfl rfl
theorem wm_463 : (Cond.instanceMethod yX1_value) ∈ wsG := wGi 463 rfl rfl
theorem wm_464 : (Cond.selects RX1 yX1_value yX1_value) ∈ wsG := wGi 464 rfl rfl
theorem wm_329 : (Cond.methodLink RL 84 yL_node) ∈ wsG := wGi 329 rfl rfl
theorem wm_330 : (Cond.static yL_node) ∈ wsG := wGi 330 rfl rfl
theorem wm_470 : (Cond.methodLink RL 86 yX1_node) ∈ wsG := wGi 470 rfl rfl
theorem wm_471 : (Cond.instanceMethod yX1_node) ∈ wsG := wGi 471 rfl rfl
theorem wm_472 : (Cond.selects RX1 yX1_node yX1_node) ∈ wsG := wGi 472 rfl rfl
theorem wm_337 : (Cond.methodLink RL 87 yL_cone) ∈ wsG := wGi 337 rfl rfl
theorem wm_338 : (Cond.static yL_cone) ∈ wsG := wGi 338 rfl rfl
theorem wm_474 : (Cond.methodLink RL 89 yX1_cone) ∈ wsG := wGi 474 rfl rfl
theorem wm_475 : (Cond.instanceMethod yX1_cone) ∈ wsG := wGi 475 rfl rfl
theorem wm_476 : (Cond.selects RX1 yX1_cone yX1_cone) ∈ wsG := wGi 476 rfl rfl
theorem wm_348 : (Cond.methodLink RL 90 yL_below) ∈ wsG := wGi 348 rfl rfl
theorem wm_349 : (Cond.static yL_below) ∈ wsG := wGi 349 rfl rfl
theorem wm_482 : (Cond.methodLink RL 92 yX1_below) ∈ wsG := wGi 482 rfl rfl
theorem wm_483 : (Cond.instanceMethod yX1_below) ∈ wsG := wGi 483 rfl rfl
theorem wm_484 : (Cond.selects RX1 yX1_below yX1_below) ∈ wsG := wGi 484 rfl rfl
theorem wm_355 : (Cond.methodLink RL 93 yL_depth) ∈ wsG := wGi 355 rfl rfl
theorem wm_356 : (Cond.static yL_depth) ∈ wsG := wGi 356 rfl rfl
theorem wm_486 : (Cond.methodLink RL 95 yX1_depth) ∈ wsG := wGi 486 rfl rfl
theorem wm_487 : (Cond.instanceMethod yX1_depth) ∈ wsG := wGi 487 rfl rfl
theorem wm_488 : (Cond.selects RX1 yX1_depth yX1_depth) ∈ wsG := wGi 488 rfl rfl
theorem wm_88 : (Cond.methodLink RL 96 yX0_nodes) ∈ wsG := wGi 88 rfl rfl
theorem wm_89 : (Cond.instanceMethod yX0_nodes) ∈ wsG := wGi 89 rfl rfl
theorem wm_90 : (Cond.selects RX0 yX0_nodes yX0_nodes) ∈ wsG := wGi 90 rfl rfl
theorem wm_490 : (Cond.methodLink RL 99 yX1_nodes) ∈ wsG := wGi 490 rfl rfl
theorem wm_491 : (Cond.instanceMethod yX1_nodes) ∈ wsG := wGi 491 rfl rfl
theorem wm_492 : (Cond.selects RX1 yX1_nodes yX1_nodes) ∈ wsG := wGi 492 rfl rfl
theorem wm_92 : (Cond.methodLink RL 100 yX0_inputs) ∈ wsG := wGi 92 rfl rfl
theorem wm_93 : (Cond.instanceMethod yX0_inputs) ∈ wsG := wGi 93 rfl rfl
theorem wm_94 : (Cond.selects RX0 yX0_inputs yX0_inputs) ∈ wsG := wGi 94 rfl rfl
theorem wm_494 : (Cond.methodLink RL 103 yX1_inputs) ∈ wsG := wGi 494 rfl rfl
theorem wm_495 : (Cond.instanceMethod yX1_inputs) ∈ wsG := wGi 495 rfl rfl
theorem wm_496 : (Cond.selects RX1 yX1_inputs yX1_inputs) ∈ wsG := wGi 496 rfl rfl
theorem wm_37 : (Cond.initialized "java/lang/Throwable") ∈ wsG := wGi 37 rfl rfl
theorem wm_38 : (Cond.initialized "java/lang/Exception") ∈ wsG := wGi 38 rfl rfl
theorem wm_39 : (Cond.initialized "java/lang/RuntimeException") ∈ wsG := wGi 39 rfl rfl
theorem wm_40 : (Cond.initialized "java/lang/IllegalStateException") ∈ wsG := wGi 40 rfl rfl
theorem wm_42 : (Cond.initialized "java/lang/Math") ∈ wsG := wGi 42 rfl rfl
theorem wm_43 : (Cond.initialized "java/lang/System") ∈ wsG := wGi 43 rfl rfl
theorem wm_44 : (Cond.initialized "java/lang/IllegalArgumentException") ∈ wsG := wGi 44 rfl rfl
theorem wm_45 : (Cond.classLink RL 8 RX0) ∈ wsG := wGi 45 rfl rfl
theorem wm_46 : (Cond.instantiable RX0 11) ∈ wsG := wGi 46 rfl rfl
theorem wm_50 : (Cond.methodLink RX0 1 objectInit) ∈ wsG := wGi 50 rfl rfl
theorem wm_51 : (Cond.instanceMethod objectInit) ∈ wsG := wGi 51 rfl rfl
theorem wm_52 : (Cond.code objectInit ⟨#[0xb1]⟩ 1 none) ∈ wsG := wGi 52 rfl rfl
theorem wm_53 : (Cond.fieldLink RX0 9 "GateBench" "firsts" "[I") ∈ wsG := wGi 53 rfl rfl
theorem wm_54 : (Cond.fieldLink RX0 13 "GateBench" "seconds" "[I") ∈ wsG := wGi 54 rfl rfl
theorem wm_55 : (Cond.fieldLink RX0 16 "GateBench" "users" "[I") ∈ wsG := wGi 55 rfl rfl
theorem wm_56 : (Cond.fieldLink RX0 19 "GateBench" "depths" "[I") ∈ wsG := wGi 56 rfl rfl
theorem wm_57 : (Cond.fieldLink RX0 22 "GateBench" "values" "[I") ∈ wsG := wGi 57 rfl rfl
theorem wm_58 : (Cond.fieldLink RX0 25 "GateBench" "marks" "[I") ∈ wsG := wGi 58 rfl rfl
theorem wm_59 : (Cond.fieldLink RX0 28 "GateBench" "newestOver" "[I") ∈ wsG := wGi 59 rfl rfl
theorem wm_60 : (Cond.fieldLink RX0 31 "GateBench" "nextOlder" "[I") ∈ wsG := wGi 60 rfl rfl
theorem wm_61 : (Cond.fieldLink RX0 34 "GateBench" "nodeCount" "I") ∈ wsG := wGi 61 rfl rfl
theorem wm_62 : (Cond.fieldLink RX0 38 "GateBench" "inputCount" "I") ∈ wsG := wGi 62 rfl rfl
theorem wm_63 : (Cond.fieldLink RX0 41 "GateBench" "settledTo" "I") ∈ wsG := wGi 63 rfl rfl
theorem wm_87 : (Cond.arrayClass .int) ∈ wsG := wGi 87 rfl rfl
theorem wm_99 : (Cond.classLink RL 13 "java/lang/IllegalStateException") ∈ wsG := wGi 99 rfl rfl
theorem wm_108 : (Cond.classLink RX0 139 "java/lang/IllegalStateException") ∈ wsG := wGi 108 rfl rfl
theorem wm_174 : (Cond.arrayClass .byte) ∈ wsG := wGi 174 rfl rfl
theorem wm_188 : (Cond.classLink RJ7 317 "[I") ∈ wsG := wGi 188 rfl rfl
theorem wm_189 : (Cond.methodLink RJ7 304 Lib.Math.min.name) ∈ wsG := wGi 189 rfl rfl
theorem wm_190 : (Cond.static Lib.Math.min.name) ∈ wsG := wGi 190 rfl rfl
theorem wm_191 : (Cond.code Lib.Math.min.name Lib.Math.min.code 2 (some .int)) ∈ wsG := wGi 191 rfl rfl
theorem wm_192 : (Cond.methodLink RJ7 150 arraycopyName) ∈ wsG := wGi 192 rfl rfl
theorem wm_193 : (Cond.static arraycopyName) ∈ wsG := wGi 193 rfl rfl
theorem wm_194 : (Cond.native arraycopyName) ∈ wsG := wGi 194 rfl rfl
theorem wm_198 : (Cond.classLink RL 19 "java/lang/IllegalArgumentException") ∈ wsG := wGi 198 rfl rfl
theorem wm_207 : (Cond.classLink RX0 61 "java/lang/IllegalArgumentException") ∈ wsG := wGi 207 rfl rfl
theorem wm_227 : (Cond.methodLink RX0 77 Lib.Math.min.name) ∈ wsG := wGi 227 rfl rfl
theorem wm_228 : (Cond.methodLink RX0 113 Lib.Math.max.name) ∈ wsG := wGi 228 rfl rfl
theorem wm_229 : (Cond.static Lib.Math.max.name) ∈ wsG := wGi 229 rfl rfl
theorem wm_230 : (Cond.code Lib.Math.max.name Lib.Math.max.code 2 (some .int)) ∈ wsG := wGi 230 rfl rfl
theorem wm_362 : (Cond.classLink RL 52 RX1) ∈ wsG := wGi 362 rfl rfl
theorem wm_363 : (Cond.instantiable RX1 8) ∈ wsG := wGi 363 rfl rfl
theorem wm_367 : (Cond.methodLink RX1 1 objectInit) ∈ wsG := wGi 367 rfl rfl
theorem wm_368 : (Cond.fieldLink RX1 31 "GateBenchModel" "code" "I") ∈ wsG := wGi 368 rfl rfl
theorem wm_369 : (Cond.fieldLink RX1 7 "GateBenchModel" "count" "I") ∈ wsG := wGi 369 rfl rfl
theorem wm_370 : (Cond.fieldLink RX1 38 "GateBenchModel" "inputs" "I") ∈ wsG := wGi 370 rfl rfl
theorem wm_371 : (Cond.fieldLink RX1 13 "GateBenchModel" "kind" "[B") ∈ wsG := wGi 371 rfl rfl
theorem wm_372 : (Cond.fieldLink RX1 17 "GateBenchModel" "first" "[I") ∈ wsG := wGi 372 rfl rfl
theorem wm_373 : (Cond.fieldLink RX1 21 "GateBenchModel" "second" "[I") ∈ wsG := wGi 373 rfl rfl
theorem wm_374 : (Cond.fieldLink RX1 24 "GateBenchModel" "on" "[Z") ∈ wsG := wGi 374 rfl rfl
theorem wm_375 : (Cond.fieldLink RX1 28 "GateBenchModel" "mark" "[I") ∈ wsG := wGi 375 rfl rfl
theorem wm_393 : (Cond.arrayClass .boolean) ∈ wsG := wGi 393 rfl rfl
theorem wm_498 : (Cond.arrayClass .long) ∈ wsG := wGi 498 rfl rfl
theorem gX0_input_X0_newNode : GoodIn wsX0_input (wsV RX0 44 RX0 yX0_newNode wsX0_newNode) := gIn (fun w h => mG h) (vG wm_104 wm_106 wm_0 wm_35 aX0_newNode)
theorem gX0_and_X0_needLiteral : GoodIn wsX0_and (wsV RX0 48 RX0 yX0_needLiteral wsX0_needLiteral) := gIn (fun w h => mG h) (vG wm_203 wm_205 wm_3 wm_35 aX0_needLiteral)
theorem gX0_and_X0_andOf : GoodIn wsX0_and (wsV RX0 52 RX0 yX0_andOf wsX0_andOf) := gIn (fun w h => mG h) (vG wm_223 wm_225 wm_4 wm_35 aX0_andOf)
theorem gX0_join_X0_needLiteral : GoodIn wsX0_join (wsV RX0 48 RX0 yX0_needLiteral wsX0_needLiteral) := gIn (fun w h => mG h) (vG wm_203 wm_205 wm_3 wm_35 aX0_needLiteral)
theorem gX0_join_X0_orOf : GoodIn wsX0_join (wsV RX0 55 RX0 yX0_orOf wsX0_orOf) := gIn (fun w h => mG h) (vG wm_272 wm_274 wm_12 wm_35 aX0_orOf)
theorem gX0_join_X0_xorOf : GoodIn wsX0_join (wsV RX0 58 RX0 yX0_xorOf wsX0_xorOf) := gIn (fun w h => mG h) (vG wm_276 wm_278 wm_13 wm_35 aX0_xorOf)
theorem gX0_three_X0_needLiteral : GoodIn wsX0_three (wsV RX0 48 RX0 yX0_needLiteral wsX0_needLiteral) := gIn (fun w h => mG h) (vG wm_203 wm_205 wm_3 wm_35 aX0_needLiteral)
theorem gX0_three_X0_ifOf : GoodIn wsX0_three (wsV RX0 68 RX0 yX0_ifOf wsX0_ifOf) := gIn (fun w h => mG h) (vG wm_288 wm_290 wm_14 wm_35 aX0_ifOf)
theorem gX0_three_X0_xorOf : GoodIn wsX0_three (wsV RX0 58 RX0 yX0_xorOf wsX0_xorOf) := gIn (fun w h => mG h) (vG wm_276 wm_278 wm_13 wm_35 aX0_xorOf)
theorem gX0_three_X0_andOf : GoodIn wsX0_three (wsV RX0 52 RX0 yX0_andOf wsX0_andOf) := gIn (fun w h => mG h) (vG wm_223 wm_225 wm_4 wm_35 aX0_andOf)
theorem gX0_three_X0_orOf : GoodIn wsX0_three (wsV RX0 55 RX0 yX0_orOf wsX0_orOf) := gIn (fun w h => mG h) (vG wm_272 wm_274 wm_12 wm_35 aX0_orOf)
theorem gX0_set_X0_needInput : GoodIn wsX0_set (wsV RX0 74 RX0 yX0_needInput wsX0_needInput) := gIn (fun w h => mG h) (vG wm_300 wm_302 wm_15 wm_35 aX0_needInput)
theorem gX0_value_X0_needLiteral : GoodIn wsX0_value (wsV RX0 48 RX0 yX0_needLiteral wsX0_needLiteral) := gIn (fun w h => mG h) (vG wm_203 wm_205 wm_3 wm_35 aX0_needLiteral)
theorem gX0_value_X0_settle : GoodIn wsX0_value (wsV RX0 82 RX0 yX0_settle wsX0_settle) := gIn (fun w h => mG h) (vG wm_321 wm_323 wm_18 wm_35 aX0_settle)
theorem gX0_value_X0_valueNow : GoodIn wsX0_value (wsV RX0 85 RX0 yX0_valueNow wsX0_valueNow) := gIn (fun w h => mG h) (vG wm_325 wm_327 wm_19 wm_35 aX0_valueNow)
theorem gX0_node_X0_needNode : GoodIn wsX0_node (wsV RX0 89 RX0 yX0_needNode wsX0_needNode) := gIn (fun w h => mG h) (vG wm_304 wm_306 wm_16 wm_35 aX0_needNode)
theorem gX0_node_X0_kindOf : GoodIn wsX0_node (wsV RX0 92 RX0 yX0_kindOf wsX0_kindOf) := gIn (fun w h => mG h) (vG wm_309 wm_311 wm_17 wm_35 aX0_kindOf)
theorem gX0_cone_X0_needLiteral : GoodIn wsX0_cone (wsV RX0 48 RX0 yX0_needLiteral wsX0_needLiteral) := gIn (fun w h => mG h) (vG wm_203 wm_205 wm_3 wm_35 aX0_needLiteral)
theorem gX0_cone_X0_markUnder : GoodIn wsX0_cone (wsV RX0 97 RX0 yX0_markUnder wsX0_markUnder) := gIn (fun w h => mG h) (vG wm_344 wm_346 wm_20 wm_35 aX0_markUnder)
theorem gX0_cone_X0_isGate : GoodIn wsX0_cone (wsV RX0 100 RX0 yX0_isGate wsX0_isGate) := gIn (fun w h => mG h) (vG wm_238 wm_240 wm_6 wm_35 aX0_isGate)
theorem gX0_below_X0_needInput : GoodIn wsX0_below (wsV RX0 74 RX0 yX0_needInput wsX0_needInput) := gIn (fun w h => mG h) (vG wm_300 wm_302 wm_15 wm_35 aX0_needInput)
theorem gX0_below_X0_needLiteral : GoodIn wsX0_below (wsV RX0 48 RX0 yX0_needLiteral wsX0_needLiteral) := gIn (fun w h => mG h) (vG wm_203 wm_205 wm_3 wm_35 aX0_needLiteral)
theorem gX0_below_X0_markUnder : GoodIn wsX0_below (wsV RX0 97 RX0 yX0_markUnder wsX0_markUnder) := gIn (fun w h => mG h) (vG wm_344 wm_346 wm_20 wm_35 aX0_markUnder)
theorem gX0_depth_X0_needLiteral : GoodIn wsX0_depth (wsV RX0 48 RX0 yX0_needLiteral wsX0_needLiteral) := gIn (fun w h => mG h) (vG wm_203 wm_205 wm_3 wm_35 aX0_needLiteral)
theorem gX0_needInput_X0_needNode : GoodIn wsX0_needInput (wsV RX0 89 RX0 yX0_needNode wsX0_needNode) := gIn (fun w h => mG h) (vG wm_304 wm_306 wm_16 wm_35 aX0_needNode)
theorem gX0_needInput_X0_kindOf : GoodIn wsX0_needInput (wsV RX0 92 RX0 yX0_kindOf wsX0_kindOf) := gIn (fun w h => mG h) (vG wm_309 wm_311 wm_17 wm_35 aX0_kindOf)
theorem gX0_kindOf_X0_isGate : GoodIn wsX0_kindOf (wsV RX0 100 RX0 yX0_isGate wsX0_isGate) := gIn (fun w h => mG h) (vG wm_238 wm_240 wm_6 wm_35 aX0_isGate)
theorem gX0_orOf_X0_not : GoodIn wsX0_orOf (va_wsS RX0 110 yX0_not wsX0_not) := gIn (fun w h => mG h) (sG wm_235 wm_236 wm_35 aX0_not)
theorem gX0_orOf_X0_andOf : GoodIn wsX0_orOf (wsV RX0 52 RX0 yX0_andOf wsX0_andOf) := gIn (fun w h => mG h) (vG wm_223 wm_225 wm_4 wm_35 aX0_andOf)
theorem gX0_xorOf_X0_not : GoodIn wsX0_xorOf (va_wsS RX0 110 yX0_not wsX0_not) := gIn (fun w h => mG h) (sG wm_235 wm_236 wm_35 aX0_not)
theorem gX0_xorOf_X0_andOf : GoodIn wsX0_xorOf (wsV RX0 52 RX0 yX0_andOf wsX0_andOf) := gIn (fun w h => mG h) (vG wm_223 wm_225 wm_4 wm_35 aX0_andOf)
theorem gX0_xorOf_X0_orOf : GoodIn wsX0_xorOf (wsV RX0 55 RX0 yX0_orOf wsX0_orOf) := gIn (fun w h => mG h) (vG wm_272 wm_274 wm_12 wm_35 aX0_orOf)
theorem gX0_ifOf_X0_andOf : GoodIn wsX0_ifOf (wsV RX0 52 RX0 yX0_andOf wsX0_andOf) := gIn (fun w h => mG h) (vG wm_223 wm_225 wm_4 wm_35 aX0_andOf)
theorem gX0_ifOf_X0_not : GoodIn wsX0_ifOf (va_wsS RX0 110 yX0_not wsX0_not) := gIn (fun w h => mG h) (sG wm_235 wm_236 wm_35 aX0_not)
theorem gX0_ifOf_X0_orOf : GoodIn wsX0_ifOf (wsV RX0 55 RX0 yX0_orOf wsX0_orOf) := gIn (fun w h => mG h) (vG wm_272 wm_274 wm_12 wm_35 aX0_orOf)
theorem gX0_andOf_X0_knownAnd : GoodIn wsX0_andOf (wsV RX0 116 RX0 yX0_knownAnd wsX0_knownAnd) := gIn (fun w h => mG h) (vG wm_231 wm_233 wm_5 wm_35 aX0_knownAnd)
theorem gX0_andOf_X0_restOf : GoodIn wsX0_andOf (wsV RX0 119 RX0 yX0_restOf wsX0_restOf) := gIn (fun w h => mG h) (vG wm_253 wm_255 wm_9 wm_35 aX0_restOf)
theorem gX0_andOf_X0_gateOf : GoodIn wsX0_andOf (wsV RX0 122 RX0 yX0_gateOf wsX0_gateOf) := gIn (fun w h => mG h) (vG wm_257 wm_259 wm_10 wm_35 aX0_gateOf)
theorem gX0_knownAnd_X0_not : GoodIn wsX0_knownAnd (va_wsS RX0 110 yX0_not wsX0_not) := gIn (fun w h => mG h) (sG wm_235 wm_236 wm_35 aX0_not)
theorem gX0_knownAnd_X0_isGate : GoodIn wsX0_knownAnd (wsV RX0 100 RX0 yX0_isGate wsX0_isGate) := gIn (fun w h => mG h) (vG wm_238 wm_240 wm_6 wm_35 aX0_isGate)
theorem gX0_knownAnd_X0_isNegated : GoodIn wsX0_knownAnd (va_wsS RX0 125 yX0_isNegated wsX0_isNegated) := gIn (fun w h => mG h) (sG wm_242 wm_243 wm_35 aX0_isNegated)
theorem gX0_knownAnd_X0_hasLiteral : GoodIn wsX0_knownAnd (wsV RX0 128 RX0 yX0_hasLiteral wsX0_hasLiteral) := gIn (fun w h => mG h) (vG wm_245 wm_247 wm_7 wm_35 aX0_hasLiteral)
theorem gX0_knownAnd_X0_isGateAgainst : GoodIn wsX0_knownAnd (wsV RX0 132 RX0 yX0_isGateAgainst wsX0_isGateAgainst) := gIn (fun w h => mG h) (vG wm_249 wm_251 wm_8 wm_35 aX0_isGateAgainst)
theorem gX0_isGateAgainst_X0_isNegated : GoodIn wsX0_isGateAgainst (va_wsS RX0 125 yX0_isNegated wsX0_isNegated) := gIn (fun w h => mG h) (sG wm_242 wm_243 wm_35 aX0_isNegated)
theorem gX0_isGateAgainst_X0_isGate : GoodIn wsX0_isGateAgainst (wsV RX0 100 RX0 yX0_isGate wsX0_isGate) := gIn (fun w h => mG h) (vG wm_238 wm_240 wm_6 wm_35 aX0_isGate)
theorem gX0_isGateAgainst_X0_not : GoodIn wsX0_isGateAgainst (va_wsS RX0 110 yX0_not wsX0_not) := gIn (fun w h => mG h) (sG wm_235 wm_236 wm_35 aX0_not)
theorem gX0_isGateAgainst_X0_hasLiteral : GoodIn wsX0_isGateAgainst (wsV RX0 128 RX0 yX0_hasLiteral wsX0_hasLiteral) := gIn (fun w h => mG h) (vG wm_245 wm_247 wm_7 wm_35 aX0_hasLiteral)
theorem gX0_restOf_X0_isNegated : GoodIn wsX0_restOf (va_wsS RX0 125 yX0_isNegated wsX0_isNegated) := gIn (fun w h => mG h) (sG wm_242 wm_243 wm_35 aX0_isNegated)
theorem gX0_restOf_X0_isGate : GoodIn wsX0_restOf (wsV RX0 100 RX0 yX0_isGate wsX0_isGate) := gIn (fun w h => mG h) (vG wm_238 wm_240 wm_6 wm_35 aX0_isGate)
theorem gX0_restOf_X0_not : GoodIn wsX0_restOf (va_wsS RX0 110 yX0_not wsX0_not) := gIn (fun w h => mG h) (sG wm_235 wm_236 wm_35 aX0_not)
theorem gX0_gateOf_X0_newNode : GoodIn wsX0_gateOf (wsV RX0 44 RX0 yX0_newNode wsX0_newNode) := gIn (fun w h => mG h) (vG wm_104 wm_106 wm_0 wm_35 aX0_newNode)
theorem gX0_gateOf_X0_enterGate : GoodIn wsX0_gateOf (wsV RX0 135 RX0 yX0_enterGate wsX0_enterGate) := gIn (fun w h => mG h) (vG wm_261 wm_263 wm_11 wm_35 aX0_enterGate)
theorem gX0_newNode_X0_growRows : GoodIn wsX0_newNode (wsV RX0 144 RX0 yX0_growRows wsX0_growRows) := gIn (fun w h => mG h) (vG wm_175 wm_177 wm_2 wm_35 aX0_growRows)
theorem gX0_growRows_J7_copyOf : GoodIn wsX0_growRows (va_wsS RX0 147 yJ7_copyOf wsJ7_copyOf) := gIn (fun w h => mG h) (sG wm_179 wm_180 wm_41 aJ7_copyOf)
theorem gX0_settle_X0_isGate : GoodIn wsX0_settle (wsV RX0 100 RX0 yX0_isGate wsX0_isGate) := gIn (fun w h => mG h) (vG wm_238 wm_240 wm_6 wm_35 aX0_isGate)
theorem gX0_settle_X0_valueNow : GoodIn wsX0_settle (wsV RX0 85 RX0 yX0_valueNow wsX0_valueNow) := gIn (fun w h => mG h) (vG wm_325 wm_327 wm_19 wm_35 aX0_valueNow)
theorem gX0_markUnder_X0_isGate : GoodIn wsX0_markUnder (wsV RX0 100 RX0 yX0_isGate wsX0_isGate) := gIn (fun w h => mG h) (vG wm_238 wm_240 wm_6 wm_35 aX0_isGate)
theorem gX1_input_X1_add : GoodIn wsX1_input (wsV RX1 34 RX1 yX1_add wsX1_add) := gIn (fun w h => mG h) (vG wm_402 wm_404 wm_21 wm_36 aX1_add)
theorem gX1_rule_X1_isGate : GoodIn wsX1_rule (wsV RX1 41 RX1 yX1_isGate wsX1_isGate) := gIn (fun w h => mG h) (vG wm_418 wm_420 wm_24 wm_36 aX1_isGate)
theorem gX1_rule_X1_has : GoodIn wsX1_rule (wsV RX1 45 RX1 yX1_has wsX1_has) := gIn (fun w h => mG h) (vG wm_422 wm_424 wm_25 wm_36 aX1_has)
theorem gX1_gate_X1_add : GoodIn wsX1_gate (wsV RX1 34 RX1 yX1_add wsX1_add) := gIn (fun w h => mG h) (vG wm_402 wm_404 wm_21 wm_36 aX1_add)
theorem gX1_make_X1_isGate : GoodIn wsX1_make (wsV RX1 41 RX1 yX1_isGate wsX1_isGate) := gIn (fun w h => mG h) (vG wm_418 wm_420 wm_24 wm_36 aX1_isGate)
theorem gX1_make_X1_has : GoodIn wsX1_make (wsV RX1 45 RX1 yX1_has wsX1_has) := gIn (fun w h => mG h) (vG wm_422 wm_424 wm_25 wm_36 aX1_has)
theorem gX1_make_X1_beside : GoodIn wsX1_make (wsV RX1 49 RX1 yX1_beside wsX1_beside) := gIn (fun w h => mG h) (vG wm_426 wm_428 wm_26 wm_36 aX1_beside)
theorem gX1_make_X1_rule : GoodIn wsX1_make (wsV RX1 53 RX1 yX1_rule wsX1_rule) := gIn (fun w h => mG h) (vG wm_430 wm_432 wm_27 wm_36 aX1_rule)
theorem gX1_make_X1_gate : GoodIn wsX1_make (wsV RX1 56 RX1 yX1_gate wsX1_gate) := gIn (fun w h => mG h) (vG wm_434 wm_436 wm_28 wm_36 aX1_gate)
theorem gX1_or_X1_make : GoodIn wsX1_or (wsV RX1 59 RX1 yX1_make wsX1_make) := gIn (fun w h => mG h) (vG wm_414 wm_416 wm_23 wm_36 aX1_make)
theorem gX1_xor_X1_make : GoodIn wsX1_xor (wsV RX1 59 RX1 yX1_make wsX1_make) := gIn (fun w h => mG h) (vG wm_414 wm_416 wm_23 wm_36 aX1_make)
theorem gX1_xor_X1_or : GoodIn wsX1_xor (wsV RX1 62 RX1 yX1_or wsX1_or) := gIn (fun w h => mG h) (vG wm_442 wm_444 wm_29 wm_36 aX1_or)
theorem gX1_and_X1_isLiteral : GoodIn wsX1_and (wsV RX1 65 RX1 yX1_isLiteral wsX1_isLiteral) := gIn (fun w h => mG h) (vG wm_410 wm_412 wm_22 wm_36 aX1_isLiteral)
theorem gX1_and_X1_make : GoodIn wsX1_and (wsV RX1 59 RX1 yX1_make wsX1_make) := gIn (fun w h => mG h) (vG wm_414 wm_416 wm_23 wm_36 aX1_make)
theorem gX1_join_X1_isLiteral : GoodIn wsX1_join (wsV RX1 65 RX1 yX1_isLiteral wsX1_isLiteral) := gIn (fun w h => mG h) (vG wm_410 wm_412 wm_22 wm_36 aX1_isLiteral)
theorem gX1_join_X1_or : GoodIn wsX1_join (wsV RX1 62 RX1 yX1_or wsX1_or) := gIn (fun w h => mG h) (vG wm_442 wm_444 wm_29 wm_36 aX1_or)
theorem gX1_join_X1_xor : GoodIn wsX1_join (wsV RX1 69 RX1 yX1_xor wsX1_xor) := gIn (fun w h => mG h) (vG wm_446 wm_448 wm_30 wm_36 aX1_xor)
theorem gX1_three_X1_isLiteral : GoodIn wsX1_three (wsV RX1 65 RX1 yX1_isLiteral wsX1_isLiteral) := gIn (fun w h => mG h) (vG wm_410 wm_412 wm_22 wm_36 aX1_isLiteral)
theorem gX1_three_X1_make : GoodIn wsX1_three (wsV RX1 59 RX1 yX1_make wsX1_make) := gIn (fun w h => mG h) (vG wm_414 wm_416 wm_23 wm_36 aX1_make)
theorem gX1_three_X1_or : GoodIn wsX1_three (wsV RX1 62 RX1 yX1_or wsX1_or) := gIn (fun w h => mG h) (vG wm_442 wm_444 wm_29 wm_36 aX1_or)
theorem gX1_three_X1_xor : GoodIn wsX1_three (wsV RX1 69 RX1 yX1_xor wsX1_xor) := gIn (fun w h => mG h) (vG wm_446 wm_448 wm_30 wm_36 aX1_xor)
theorem gX1_set_X1_isInput : GoodIn wsX1_set (wsV RX1 72 RX1 yX1_isInput wsX1_isInput) := gIn (fun w h => mG h) (vG wm_458 wm_460 wm_31 wm_36 aX1_isInput)
theorem gX1_value_X1_isLiteral : GoodIn wsX1_value (wsV RX1 65 RX1 yX1_isLiteral wsX1_isLiteral) := gIn (fun w h => mG h) (vG wm_410 wm_412 wm_22 wm_36 aX1_isLiteral)
theorem gX1_value_X1_is : GoodIn wsX1_value (wsV RX1 75 RX1 yX1_is wsX1_is) := gIn (fun w h => mG h) (vG wm_466 wm_468 wm_32 wm_36 aX1_is)
theorem gX1_cone_X1_isLiteral : GoodIn wsX1_cone (wsV RX1 65 RX1 yX1_isLiteral wsX1_isLiteral) := gIn (fun w h => mG h) (vG wm_410 wm_412 wm_22 wm_36 aX1_isLiteral)
theorem gX1_cone_X1_markBelow : GoodIn wsX1_cone (wsV RX1 78 RX1 yX1_markBelow wsX1_markBelow) := gIn (fun w h => mG h) (vG wm_478 wm_480 wm_33 wm_36 aX1_markBelow)
theorem gX1_below_X1_isInput : GoodIn wsX1_below (wsV RX1 72 RX1 yX1_isInput wsX1_isInput) := gIn (fun w h => mG h) (vG wm_458 wm_460 wm_31 wm_36 aX1_isInput)
theorem gX1_below_X1_isLiteral : GoodIn wsX1_below (wsV RX1 65 RX1 yX1_isLiteral wsX1_isLiteral) := gIn (fun w h => mG h) (vG wm_410 wm_412 wm_22 wm_36 aX1_isLiteral)
theorem gX1_below_X1_markBelow : GoodIn wsX1_below (wsV RX1 78 RX1 yX1_markBelow wsX1_markBelow) := gIn (fun w h => mG h) (vG wm_478 wm_480 wm_33 wm_36 aX1_markBelow)
theorem gX1_depth_X1_isLiteral : GoodIn wsX1_depth (wsV RX1 65 RX1 yX1_isLiteral wsX1_isLiteral) := gIn (fun w h => mG h) (vG wm_410 wm_412 wm_22 wm_36 aX1_isLiteral)
theorem gL_input_X0_input : GoodIn wsL_input (wsV RL 7 RX0 yX0_input wsX0_input) := gIn (fun w h => mG h) (vG wm_100 wm_101 wm_102 wm_35 aX0_input)
theorem gL_and_X0_and : GoodIn wsL_and (wsV RL 15 RX0 yX0_and wsX0_and) := gIn (fun w h => mG h) (vG wm_199 wm_200 wm_201 wm_35 aX0_and)
theorem gL_join_X0_join : GoodIn wsL_join (wsV RL 21 RX0 yX0_join wsX0_join) := gIn (fun w h => mG h) (vG wm_268 wm_269 wm_270 wm_35 aX0_join)
theorem gL_three_X0_three : GoodIn wsL_three (wsV RL 25 RX0 yX0_three wsX0_three) := gIn (fun w h => mG h) (vG wm_284 wm_285 wm_286 wm_35 aX0_three)
theorem gL_set_X0_set : GoodIn wsL_set (wsV RL 29 RX0 yX0_set wsX0_set) := gIn (fun w h => mG h) (vG wm_296 wm_297 wm_298 wm_35 aX0_set)
theorem gL_value_X0_value : GoodIn wsL_value (wsV RL 33 RX0 yX0_value wsX0_value) := gIn (fun w h => mG h) (vG wm_317 wm_318 wm_319 wm_35 aX0_value)
theorem gL_node_X0_node : GoodIn wsL_node (wsV RL 37 RX0 yX0_node wsX0_node) := gIn (fun w h => mG h) (vG wm_332 wm_333 wm_334 wm_35 aX0_node)
theorem gL_cone_X0_cone : GoodIn wsL_cone (wsV RL 40 RX0 yX0_cone wsX0_cone) := gIn (fun w h => mG h) (vG wm_340 wm_341 wm_342 wm_35 aX0_cone)
theorem gL_below_X0_below : GoodIn wsL_below (wsV RL 44 RX0 yX0_below wsX0_below) := gIn (fun w h => mG h) (vG wm_351 wm_352 wm_353 wm_35 aX0_below)
theorem gL_depth_X0_depth : GoodIn wsL_depth (wsV RL 48 RX0 yX0_depth wsX0_depth) := gIn (fun w h => mG h) (vG wm_358 wm_359 wm_360 wm_35 aX0_depth)
theorem gL_law_X0_init : GoodIn wsG (wsX0_init) := gIn (fun w h => h) aX0_init
theorem gL_law_X1_init : GoodIn wsG (wsX1_init) := gIn (fun w h => h) aX1_init
theorem gL_law_L_input : GoodIn wsG (va_wsS RL 55 yL_input wsL_input) := gIn (fun w h => h) (sG wm_96 wm_97 wm_34 aL_input)
theorem gL_law_X1_input : GoodIn wsG (wsV RL 60 RX1 yX1_input wsX1_input) := gIn (fun w h => h) (vG wm_398 wm_399 wm_400 wm_36 aX1_input)
theorem gL_law_X1_thrown : GoodIn wsG (wsV RL 61 RX1 yX1_thrown wsX1_thrown) := gIn (fun w h => h) (vG wm_394 wm_395 wm_396 wm_36 aX1_thrown)
theorem gL_law_L_and : GoodIn wsG (va_wsS RL 64 yL_and wsL_and) := gIn (fun w h => h) (sG wm_195 wm_196 wm_34 aL_and)
theorem gL_law_X1_and : GoodIn wsG (wsV RL 67 RX1 yX1_and wsX1_and) := gIn (fun w h => h) (vG wm_406 wm_407 wm_408 wm_36 aX1_and)
theorem gL_law_L_join : GoodIn wsG (va_wsS RL 68 yL_join wsL_join) := gIn (fun w h => h) (sG wm_265 wm_266 wm_34 aL_join)
theorem gL_law_X1_join : GoodIn wsG (wsV RL 71 RX1 yX1_join wsX1_join) := gIn (fun w h => h) (vG wm_438 wm_439 wm_440 wm_36 aX1_join)
theorem gL_law_L_three : GoodIn wsG (va_wsS RL 72 yL_three wsL_three) := gIn (fun w h => h) (sG wm_281 wm_282 wm_34 aL_three)
theorem gL_law_X1_three : GoodIn wsG (wsV RL 75 RX1 yX1_three wsX1_three) := gIn (fun w h => h) (vG wm_450 wm_451 wm_452 wm_36 aX1_three)
theorem gL_law_L_set : GoodIn wsG (va_wsS RL 76 yL_set wsL_set) := gIn (fun w h => h) (sG wm_293 wm_294 wm_34 aL_set)
theorem gL_law_X1_set : GoodIn wsG (wsV RL 79 RX1 yX1_set wsX1_set) := gIn (fun w h => h) (vG wm_454 wm_455 wm_456 wm_36 aX1_set)
theorem gL_law_L_value : GoodIn wsG (va_wsS RL 80 yL_value wsL_value) := gIn (fun w h => h) (sG wm_314 wm_315 wm_34 aL_value)
theorem gL_law_X1_value : GoodIn wsG (wsV RL 83 RX1 yX1_value wsX1_value) := gIn (fun w h => h) (vG wm_462 wm_463 wm_464 wm_36 aX1_value)
theorem gL_law_L_node : GoodIn wsG (va_wsS RL 84 yL_node wsL_node) := gIn (fun w h => h) (sG wm_329 wm_330 wm_34 aL_node)
theorem gL_law_X1_node : GoodIn wsG (wsV RL 86 RX1 yX1_node wsX1_node) := gIn (fun w h => h) (vG wm_470 wm_471 wm_472 wm_36 aX1_node)
theorem gL_law_L_cone : GoodIn wsG (va_wsS RL 87 yL_cone wsL_cone) := gIn (fun w h => h) (sG wm_337 wm_338 wm_34 aL_cone)
theorem gL_law_X1_cone : GoodIn wsG (wsV RL 89 RX1 yX1_cone wsX1_cone) := gIn (fun w h => h) (vG wm_474 wm_475 wm_476 wm_36 aX1_cone)
theorem gL_law_L_below : GoodIn wsG (va_wsS RL 90 yL_below wsL_below) := gIn (fun w h => h) (sG wm_348 wm_349 wm_34 aL_below)
theorem gL_law_X1_below : GoodIn wsG (wsV RL 92 RX1 yX1_below wsX1_below) := gIn (fun w h => h) (vG wm_482 wm_483 wm_484 wm_36 aX1_below)
theorem gL_law_L_depth : GoodIn wsG (va_wsS RL 93 yL_depth wsL_depth) := gIn (fun w h => h) (sG wm_355 wm_356 wm_34 aL_depth)
theorem gL_law_X1_depth : GoodIn wsG (wsV RL 95 RX1 yX1_depth wsX1_depth) := gIn (fun w h => h) (vG wm_486 wm_487 wm_488 wm_36 aX1_depth)
theorem gL_law_X0_nodes : GoodIn wsG (wsV RL 96 RX0 yX0_nodes wsX0_nodes) := gIn (fun w h => h) (vG wm_88 wm_89 wm_90 wm_35 aX0_nodes)
theorem gL_law_X1_nodes : GoodIn wsG (wsV RL 99 RX1 yX1_nodes wsX1_nodes) := gIn (fun w h => h) (vG wm_490 wm_491 wm_492 wm_36 aX1_nodes)
theorem gL_law_X0_inputs : GoodIn wsG (wsV RL 100 RX0 yX0_inputs wsX0_inputs) := gIn (fun w h => h) (vG wm_92 wm_93 wm_94 wm_35 aX0_inputs)
theorem gL_law_X1_inputs : GoodIn wsG (wsV RL 103 RX1 yX1_inputs wsX1_inputs) := gIn (fun w h => h) (vG wm_494 wm_495 wm_496 wm_36 aX1_inputs)
end
section
theorem dX0_init_0 : decode cX0_init 0 = .ok (.aload_n 0, 1) := by decide +kernel
theorem dX0_init_1 : decode cX0_init 1 = .ok (.invokespecial 1, 3) := by decide +kernel
theorem dX0_init_4 : decode cX0_init 4 = .ok (.aload_n 0, 1) := by decide +kernel
theorem dX0_init_5 : decode cX0_init 5 = .ok (.bipush 16, 2) := by decide +kernel
theorem dX0_init_7 : decode cX0_init 7 = .ok (.newarray .int, 2) := by decide +kernel
theorem dX0_init_9 : decode cX0_init 9 = .ok (.putfield 9, 3) := by decide +kernel
theorem dX0_init_12 : decode cX0_init 12 = .ok (.aload_n 0, 1) := by decide +kernel
theorem dX0_init_13 : decode cX0_init 13 = .ok (.bipush 16, 2) := by decide +kernel
theorem dX0_init_15 : decode cX0_init 15 = .ok (.newarray .int, 2) := by decide +kernel
theorem dX0_init_17 : decode cX0_init 17 = .ok (.putfield 13, 3) := by decide +kernel
theorem dX0_init_20 : decode cX0_init 20 = .ok (.aload_n 0, 1) := by decide +kernel
theorem dX0_init_21 : decode cX0_init 21 = .ok (.bipush 16, 2) := by decide +kernel
theorem dX0_init_23 : decode cX0_init 23 = .ok (.newarray .int, 2) := by decide +kernel
theorem dX0_init_25 : decode cX0_init 25 = .ok (.putfield 16, 3) := by decide +kernel
theorem dX0_init_28 : decode cX0_init 28 = .ok (.aload_n 0, 1) := by decide +kernel
theorem dX0_init_29 : decode cX0_init 29 = .ok (.bipush 16, 2) := by decide +kernel
theorem dX0_init_31 : decode cX0_init 31 = .ok (.newarray .int, 2) := by decide +kernel
theorem dX0_init_33 : decode cX0_init 33 = .ok (.putfield 19, 3) := by decide +kernel
theorem dX0_init_36 : decode cX0_init 36 = .ok (.aload_n 0, 1) := by decide +kernel
theorem dX0_init_37 : decode cX0_init 37 = .ok (.bipush 16, 2) := by decide +kernel
theorem dX0_init_39 : decode cX0_init 39 = .ok (.newarray .int, 2) := by decide +kernel
theorem dX0_init_41 : decode cX0_init 41 = .ok (.putfield 22, 3) := by decide +kernel
theorem dX0_init_44 : decode cX0_init 44 = .ok (.aload_n 0, 1) := by decide +kernel
theorem dX0_init_45 : decode cX0_init 45 = .ok (.bipush 16, 2) := by decide +kernel
theorem dX0_init_47 : decode cX0_init 47 = .ok (.newarray .int, 2) := by decide +kernel
theorem dX0_init_49 : decode cX0_init 49 = .ok (.putfield 25, 3) := by decide +kernel
theorem dX0_init_52 : decode cX0_init 52 = .ok (.aload_n 0, 1) := by decide +kernel
theorem dX0_init_53 : decode cX0_init 53 = .ok (.bipush 16, 2) := by decide +kernel
theorem dX0_init_55 : decode cX0_init 55 = .ok (.newarray .int, 2) := by decide +kernel
theorem dX0_init_57 : decode cX0_init 57 = .ok (.putfield 28, 3) := by decide +kernel
theorem dX0_init_60 : decode cX0_init 60 = .ok (.aload_n 0, 1) := by decide +kernel
theorem dX0_init_61 : decode cX0_init 61 = .ok (.bipush 16, 2) := by decide +kernel
theorem dX0_init_63 : decode cX0_init 63 = .ok (.newarray .int, 2) := by decide +kernel
theorem dX0_init_65 : decode cX0_init 65 = .ok (.putfield 31, 3) := by decide +kernel
theorem dX0_init_68 : decode cX0_init 68 = .ok (.aload_n 0, 1) := by decide +kernel
theorem dX0_init_69 : decode cX0_init 69 = .ok (.getfield 9, 3) := by decide +kernel
theorem dX0_init_72 : decode cX0_init 72 = .ok (.iconst 0, 1) := by decide +kernel
theorem dX0_init_73 : decode cX0_init 73 = .ok (.iconst (-1), 1) := by decide +kernel
theorem dX0_init_74 : decode cX0_init 74 = .ok (.iastore, 1) := by decide +kernel
theorem dX0_init_75 : decode cX0_init 75 = .ok (.aload_n 0, 1) := by decide +kernel
theorem dX0_init_76 : decode cX0_init 76 = .ok (.getfield 13, 3) := by decide +kernel
theorem dX0_init_79 : decode cX0_init 79 = .ok (.iconst 0, 1) := by decide +kernel
theorem dX0_init_80 : decode cX0_init 80 = .ok (.iconst (-1), 1) := by decide +kernel
theorem dX0_init_81 : decode cX0_init 81 = .ok (.iastore, 1) := by decide +kernel
theorem dX0_init_82 : decode cX0_init 82 = .ok (.aload_n 0, 1) := by decide +kernel
theorem dX0_init_83 : decode cX0_init 83 = .ok (.iconst 1, 1) := by decide +kernel
theorem dX0_init_84 : decode cX0_init 84 = .ok (.putfield 34, 3) := by decide +kernel
theorem dX0_init_87 : decode cX0_init 87 = .ok (.aload_n 0, 1) := by decide +kernel
theorem dX0_init_88 : decode cX0_init 88 = .ok (.iconst 0, 1) := by decide +kernel
theorem dX0_init_89 : decode cX0_init 89 = .ok (.putfield 38, 3) := by decide +kernel
theorem dX0_init_92 : decode cX0_init 92 = .ok (.aload_n 0, 1) := by decide +kernel
theorem dX0_init_93 : decode cX0_init 93 = .ok (.iconst 1, 1) := by decide +kernel
theorem dX0_init_94 : decode cX0_init 94 = .ok (.putfield 41, 3) := by decide +kernel
theorem dX0_init_97 : decode cX0_init 97 = .ok (.return_, 1) := by decide +kernel
theorem dX0_input_0 : decode cX0_input 0 = .ok (.aload_n 0, 1) := by decide +kernel
theorem dX0_input_1 : decode cX0_input 1 = .ok (.iconst (-1), 1) := by decide +kernel
theorem dX0_input_2 : decode cX0_input 2 = .ok (.iconst (-1), 1) := by decide +kernel
theorem dX0_input_3 : decode cX0_input 3 = .ok (.invokevirtual 44, 3) := by decide +kernel
theorem dX0_input_6 : decode cX0_input 6 = .ok (.istore_n 1, 1) := by decide +kernel
theorem dX0_input_7 : decode cX0_input 7 = .ok (.aload_n 0, 1) := by decide +kernel
theorem dX0_input_8 : decode cX0_input 8 = .ok (.dup, 1) := by decide +kernel
theorem dX0_input_9 : decode cX0_input 9 = .ok (.getfield 38, 3) := by decide +kernel
theorem dX0_input_12 : decode cX0_input 12 = .ok (.iconst 1, 1) := by decide +kernel
theorem dX0_input_13 : decode cX0_input 13 = .ok (.iadd, 1) := by decide +kernel
theorem dX0_input_14 : decode cX0_input 14 = .ok (.putfield 38, 3) := by decide +kernel
theorem dX0_input_17 : decode cX0_input 17 = .ok (.iload_n 1, 1) := by decide +kernel
theorem dX0_input_18 : decode cX0_input 18 = .ok (.iconst 1, 1) := by decide +kernel
theorem dX0_input_19 : decode cX0_input 19 = .ok (.ishl, 1) := by decide +kernel
theorem dX0_input_20 : decode cX0_input 20 = .ok (.ireturn, 1) := by decide +kernel
theorem dX0_and_0 : decode cX0_and 0 = .ok (.aload_n 0, 1) := by decide +kernel
theorem dX0_and_1 : decode cX0_and 1 = .ok (.iload_n 1, 1) := by decide +kernel
theorem dX0_and_2 : decode cX0_and 2 = .ok (.invokevirtual 48, 3) := by decide +kernel
theorem dX0_and_5 : decode cX0_and 5 = .ok (.aload_n 0, 1) := by decide +kernel
theorem dX0_and_6 : decode cX0_and 6 = .ok (.iload_n 2, 1) := by decide +kernel
theorem dX0_and_7 : decode cX0_and 7 = .ok (.invokevirtual 48, 3) := by decide +kernel
theorem dX0_and_10 : decode cX0_and 10 = .ok (.aload_n 0, 1) := by decide +kernel
theorem dX0_and_11 : decode cX0_and 11 = .ok (.iload_n 1, 1) := by decide +kernel
theorem dX0_and_12 : decode cX0_and 12 = .ok (.iload_n 2, 1) := by decide +kernel
theorem dX0_and_13 : decode cX0_and 13 = .ok (.invokevirtual 52, 3) := by decide +kernel
theorem dX0_and_16 : decode cX0_and 16 = .ok (.ireturn, 1) := by decide +kernel
theorem dX0_join_0 : decode cX0_join 0 = .ok (.aload_n 0, 1) := by decide +kernel
theorem dX0_join_1 : decode cX0_join 1 = .ok (.iload_n 2, 1) := by decide +kernel
theorem dX0_join_2 : decode cX0_join 2 = .ok (.invokevirtual 48, 3) := by decide +kernel
theorem dX0_join_5 : decode cX0_join 5 = .ok (.aload_n 0, 1) := by decide +kernel
theorem dX0_join_6 : decode cX0_join 6 = .ok (.iload_n 3, 1) := by decide +kernel
theorem dX0_join_7 : decode cX0_join 7 = .ok (.invokevirtual 48, 3) := by decide +kernel
theorem dX0_join_10 : decode cX0_join 10 = .ok (.iload_n 1, 1) := by decide +kernel
theorem dX0_join_11 : decode cX0_join 11 = .ok (.ifCond .ne 10, 3) := by decide +kernel
theorem dX0_join_14 : decode cX0_join 14 = .ok (.aload_n 0, 1) := by decide +kernel
theorem dX0_join_15 : decode cX0_join 15 = .ok (.iload_n 2, 1) := by decide +kernel
theorem dX0_join_16 : decode cX0_join 16 = .ok (.iload_n 3, 1) := by decide +kernel
theorem dX0_join_17 : decode cX0_join 17 = .ok (.invokevirtual 55, 3) := by decide +kernel
theorem dX0_join_20 : decode cX0_join 20 = .ok (.ireturn, 1) := by decide +kernel
theorem dX0_join_21 : decode cX0_join 21 = .ok (.iload_n 1, 1) := by decide +kernel
theorem dX0_join_22 : decode cX0_join 22 = .ok (.iconst 1, 1) := by decide +kernel
theorem dX0_join_23 : decode cX0_join 23 = .ok (.if_icmp .ne 10, 3) := by decide +kernel
theorem dX0_join_26 : decode cX0_join 26 = .ok (.aload_n 0, 1) := by decide +kernel
theorem dX0_join_27 : decode cX0_join 27 = .ok (.iload_n 2, 1) := by decide +kernel
theorem dX0_join_28 : decode cX0_join 28 = .ok (.iload_n 3, 1) := by decide +kernel
theorem dX0_join_29 : decode cX0_join 29 = .ok (.invokevirtual 58, 3) := by decide +kernel
theorem dX0_join_32 : decode cX0_join 32 = .ok (.ireturn, 1) := by decide +kernel
theorem dX0_join_33 : decode cX0_join 33 = .ok (.new 61, 3) := by decide +kernel
theorem dX0_join_36 : decode cX0_join 36 = .ok (.dup, 1) := by decide +kernel
theorem dX0_join_37 : decode cX0_join 37 = .ok (.ldc 63, 2) := by decide +kernel
theorem dX0_join_39 : decode cX0_join 39 = .ok (.invokespecial 65, 3) := by decide +kernel
theorem dX0_join_42 : decode cX0_join 42 = .ok (.athrow, 1) := by decide +kernel
theorem dX0_nodes_0 : decode cX0_nodes 0 = .ok (.aload_n 0, 1) := by decide +kernel
theorem dX0_nodes_1 : decode cX0_nodes 1 = .ok (.getfield 34, 3) := by decide +kernel
theorem dX0_nodes_4 : decode cX0_nodes 4 = .ok (.ireturn, 1) := by decide +kernel
theorem dX0_inputs_0 : decode cX0_inputs 0 = .ok (.aload_n 0, 1) := by decide +kernel
theorem dX0_inputs_1 : decode cX0_inputs 1 = .ok (.getfield 38, 3) := by decide +kernel
theorem dX0_inputs_4 : decode cX0_inputs 4 = .ok (.ireturn, 1) := by decide +kernel
theorem dX0_needLiteral_0 : decode cX0_needLiteral 0 = .ok (.iload_n 1, 1) := by decide +kernel
theorem dX0_needLiteral_1 : decode cX0_needLiteral 1 = .ok (.ifCond .lt 13, 3) := by decide +kernel
theorem dX0_needLiteral_4 : decode cX0_needLiteral 4 = .ok (.iload_n 1, 1) := by decide +kernel
theorem dX0_needLiteral_5 : decode cX0_needLiteral 5 = .ok (.iconst 1, 1) := by decide +kernel
theorem dX0_needLiteral_6 : decode cX0_needLiteral 6 = .ok (.ishr, 1) := by decide +kernel
theorem dX0_needLiteral_7 : decode cX0_needLiteral 7 = .ok (.aload_n 0, 1) := by decide +kernel
theorem dX0_needLiteral_8 : decode cX0_needLiteral 8 = .ok (.getfield 34, 3) := by decide +kernel
theorem dX0_needLiteral_11 : decode cX0_needLiteral 11 = .ok (.if_icmp .lt 13, 3) := by decide +kernel
theorem dX0_needLiteral_14 : decode cX0_needLiteral 14 = .ok (.new 61, 3) := by decide +kernel
theorem dX0_needLiteral_17 : decode cX0_needLiteral 17 = .ok (.dup, 1) := by decide +kernel
theorem dX0_needLiteral_18 : decode cX0_needLiteral 18 = .ok (.ldc 108, 2) := by decide +kernel
theorem dX0_needLiteral_20 : decode cX0_needLiteral 20 = .ok (.invokespecial 65, 3) := by decide +kernel
theorem dX0_needLiteral_23 : decode cX0_needLiteral 23 = .ok (.athrow, 1) := by decide +kernel
theorem dX0_needLiteral_24 : decode cX0_needLiteral 24 = .ok (.return_, 1) := by decide +kernel
theorem dX0_isGate_0 : decode cX0_isGate 0 = .ok (.aload_n 0, 1) := by decide +kernel
theorem dX0_isGate_1 : decode cX0_isGate 1 = .ok (.getfield 9, 3) := by decide +kernel
theorem dX0_isGate_4 : decode cX0_isGate 4 = .ok (.iload_n 1, 1) := by decide +kernel
theorem dX0_isGate_5 : decode cX0_isGate 5 = .ok (.iaload, 1) := by decide +kernel
theorem dX0_isGate_6 : decode cX0_isGate 6 = .ok (.iconst (-1), 1) := by decide +kernel
theorem dX0_isGate_7 : decode cX0_isGate 7 = .ok (.if_icmp .eq 7, 3) := by decide +kernel
theorem dX0_isGate_10 : decode cX0_isGate 10 = .ok (.iconst 1, 1) := by decide +kernel
theorem dX0_isGate_11 : decode cX0_isGate 11 = .ok (.goto 4, 3) := by decide +kernel
theorem dX0_isGate_14 : decode cX0_isGate 14 = .ok (.iconst 0, 1) := by decide +kernel
theorem dX0_isGate_15 : decode cX0_isGate 15 = .ok (.ireturn, 1) := by decide +kernel
theorem dX0_not_0 : decode cX0_not 0 = .ok (.iload_n 0, 1) := by decide +kernel
theorem dX0_not_1 : decode cX0_not 1 = .ok (.iconst 1, 1) := by decide +kernel
theorem dX0_not_2 : decode cX0_not 2 = .ok (.ixor, 1) := by decide +kernel
theorem dX0_not_3 : decode cX0_not 3 = .ok (.ireturn, 1) := by decide +kernel
theorem dX0_isNegated_0 : decode cX0_isNegated 0 = .ok (.iload_n 0, 1) := by decide +kernel
theorem dX0_isNegated_1 : decode cX0_isNegated 1 = .ok (.iconst 1, 1) := by decide +kernel
theorem dX0_isNegated_2 : decode cX0_isNegated 2 = .ok (.iand, 1) := by decide +kernel
theorem dX0_isNegated_3 : decode cX0_isNegated 3 = .ok (.iconst 1, 1) := by decide +kernel
theorem dX0_isNegated_4 : decode cX0_isNegated 4 = .ok (.if_icmp .ne 7, 3) := by decide +kernel
theorem dX0_isNegated_7 : decode cX0_isNegated 7 = .ok (.iconst 1, 1) := by decide +kernel
theorem dX0_isNegated_8 : decode cX0_isNegated 8 = .ok (.goto 4, 3) := by decide +kernel
theorem dX0_isNegated_11 : decode cX0_isNegated 11 = .ok (.iconst 0, 1) := by decide +kernel
theorem dX0_isNegated_12 : decode cX0_isNegated 12 = .ok (.ireturn, 1) := by decide +kernel
theorem dX0_andOf_0 : decode cX0_andOf 0 = .ok (.iload_n 1, 1) := by decide +kernel
theorem dX0_andOf_1 : decode cX0_andOf 1 = .ok (.iload_n 2, 1) := by decide +kernel
theorem dX0_andOf_2 : decode cX0_andOf 2 = .ok (.invokestatic 77, 3) := by decide +kernel
theorem dX0_andOf_5 : decode cX0_andOf 5 = .ok (.istore_n 3, 1) := by decide +kernel
theorem dX0_andOf_6 : decode cX0_andOf 6 = .ok (.iload_n 1, 1) := by decide +kernel
theorem dX0_andOf_7 : decode cX0_andOf 7 = .ok (.iload_n 2, 1) := by decide +kernel
theorem dX0_andOf_8 : decode cX0_andOf 8 = .ok (.invokestatic 113, 3) := by decide +kernel
theorem dX0_andOf_11 : decode cX0_andOf 11 = .ok (.istore 4, 2) := by decide +kernel
theorem dX0_andOf_13 : decode cX0_andOf 13 = .ok (.iconst 0, 1) := by decide +kernel
theorem dX0_andOf_14 : decode cX0_andOf 14 = .ok (.istore 5, 2) := by decide +kernel
theorem dX0_andOf_16 : decode cX0_andOf 16 = .ok (.iload 5, 2) := by decide +kernel
theorem dX0_andOf_18 : decode cX0_andOf 18 = .ok (.aload_n 0, 1) := by decide +kernel
theorem dX0_andOf_19 : decode cX0_andOf 19 = .ok (.getfield 34, 3) := by decide +kernel
theorem dX0_andOf_22 : decode cX0_andOf 22 = .ok (.if_icmp .ge 65, 3) := by decide +kernel
theorem dX0_andOf_25 : decode cX0_andOf 25 = .ok (.aload_n 0, 1) := by decide +kernel
theorem dX0_andOf_26 : decode cX0_andOf 26 = .ok (.iload_n 3, 1) := by decide +kernel
theorem dX0_andOf_27 : decode cX0_andOf 27 = .ok (.iload 4, 2) := by decide +kernel
theorem dX0_andOf_29 : decode cX0_andOf 29 = .ok (.invokevirtual 116, 3) := by decide +kernel
theorem dX0_andOf_32 : decode cX0_andOf 32 = .ok (.istore 6, 2) := by decide +kernel
theorem dX0_andOf_34 : decode cX0_andOf 34 = .ok (.iload 6, 2) := by decide +kernel
theorem dX0_andOf_36 : decode cX0_andOf 36 = .ok (.iconst (-1), 1) := by decide +kernel
theorem dX0_andOf_37 : decode cX0_andOf 37 = .ok (.if_icmp .eq 6, 3) := by decide +kernel
theorem dX0_andOf_40 : decode cX0_andOf 40 = .ok (.iload 6, 2) := by decide +kernel
theorem dX0_andOf_42 : decode cX0_andOf 42 = .ok (.ireturn, 1) := by decide +kernel
theorem dX0_andOf_43 : decode cX0_andOf 43 = .ok (.aload_n 0, 1) := by decide +kernel
theorem dX0_andOf_44 : decode cX0_andOf 44 = .ok (.iload_n 3, 1) := by decide +kernel
theorem dX0_andOf_45 : decode cX0_andOf 45 = .ok (.iload 4, 2) := by decide +kernel
theorem dX0_andOf_47 : decode cX0_andOf 47 = .ok (.invokevirtual 119, 3) := by decide +kernel
theorem dX0_andOf_50 : decode cX0_andOf 50 = .ok (.istore 7, 2) := by decide +kernel
theorem dX0_andOf_52 : decode cX0_andOf 52 = .ok (.iload 7, 2) := by decide +kernel
theorem dX0_andOf_54 : decode cX0_andOf 54 = .ok (.iconst (-1), 1) := by decide +kernel
theorem dX0_andOf_55 : decode cX0_andOf 55 = .ok (.if_icmp .ne 11, 3) := by decide +kernel
theorem dX0_andOf_58 : decode cX0_andOf 58 = .ok (.aload_n 0, 1) := by decide +kernel
theorem dX0_andOf_59 : decode cX0_andOf 59 = .ok (.iload_n 3, 1) := by decide +kernel
theorem dX0_andOf_60 : decode cX0_andOf 60 = .ok (.iload 4, 2) := by decide +kernel
theorem dX0_andOf_62 : decode cX0_andOf 62 = .ok (.invokevirtual 122, 3) := by decide +kernel
theorem dX0_andOf_65 : decode cX0_andOf 65 = .ok (.ireturn, 1) := by decide +kernel
theorem dX0_andOf_66 : decode cX0_andOf 66 = .ok (.iload_n 3, 1) := by decide +kernel
theorem dX0_andOf_67 : decode cX0_andOf 67 = .ok (.iload 7, 2) := by decide +kernel
theorem dX0_andOf_69 : decode cX0_andOf 69 = .ok (.invokestatic 113, 3) := by decide +kernel
theorem dX0_andOf_72 : decode cX0_andOf 72 = .ok (.istore 4, 2) := by decide +kernel
theorem dX0_andOf_74 : decode cX0_andOf 74 = .ok (.iload_n 3, 1) := by decide +kernel
theorem dX0_andOf_75 : decode cX0_andOf 75 = .ok (.iload 7, 2) := by decide +kernel
theorem dX0_andOf_77 : decode cX0_andOf 77 = .ok (.invokestatic 77, 3) := by decide +kernel
theorem dX0_andOf_80 : decode cX0_andOf 80 = .ok (.istore_n 3, 1) := by decide +kernel
theorem dX0_andOf_81 : decode cX0_andOf 81 = .ok (.iinc 5 1, 3) := by decide +kernel
theorem dX0_andOf_84 : decode cX0_andOf 84 = .ok (.goto (-68), 3) := by decide +kernel
theorem dX0_andOf_87 : decode cX0_andOf 87 = .ok (.aload_n 0, 1) := by decide +kernel
theorem dX0_andOf_88 : decode cX0_andOf 88 = .ok (.iload_n 3, 1) := by decide +kernel
theorem dX0_andOf_89 : decode cX0_andOf 89 = .ok (.iload 4, 2) := by decide +kernel
theorem dX0_andOf_91 : decode cX0_andOf 91 = .ok (.invokevirtual 122, 3) := by decide +kernel
theorem dX0_andOf_94 : decode cX0_andOf 94 = .ok (.ireturn, 1) := by decide +kernel
theorem dX0_knownAnd_0 : decode cX0_knownAnd 0 = .ok (.iload_n 1, 1) := by decide +kernel
theorem dX0_knownAnd_1 : decode cX0_knownAnd 1 = .ok (.ifCond .eq 11, 3) := by decide +kernel
theorem dX0_knownAnd_4 : decode cX0_knownAnd 4 = .ok (.iload_n 1, 1) := by decide +kernel
theorem dX0_knownAnd_5 : decode cX0_knownAnd 5 = .ok (.iload_n 2, 1) := by decide +kernel
theorem dX0_knownAnd_6 : decode cX0_knownAnd 6 = .ok (.invokestatic 110, 3) := by decide +kernel
theorem dX0_knownAnd_9 : decode cX0_knownAnd 9 = .ok (.if_icmp .ne 5, 3) := by decide +kernel
theorem dX0_knownAnd_12 : decode cX0_knownAnd 12 = .ok (.iconst 0, 1) := by decide +kernel
theorem dX0_knownAnd_13 : decode cX0_knownAnd 13 = .ok (.ireturn, 1) := by decide +kernel
theorem dX0_knownAnd_14 : decode cX0_knownAnd 14 = .ok (.iload_n 1, 1) := by decide +kernel
theorem dX0_knownAnd_15 : decode cX0_knownAnd 15 = .ok (.iconst 1, 1) := by decide +kernel
theorem dX0_knownAnd_16 : decode cX0_knownAnd 16 = .ok (.if_icmp .ne 5, 3) := by decide +kernel
theorem dX0_knownAnd_19 : decode cX0_knownAnd 19 = .ok (.iload_n 2, 1) := by decide +kernel
theorem dX0_knownAnd_20 : decode cX0_knownAnd 20 = .ok (.ireturn, 1) := by decide +kernel
theorem dX0_knownAnd_21 : decode cX0_knownAnd 21 = .ok (.iload_n 1, 1) := by decide +kernel
theorem dX0_knownAnd_22 : decode cX0_knownAnd 22 = .ok (.iload_n 2, 1) := by decide +kernel
theorem dX0_knownAnd_23 : decode cX0_knownAnd 23 = .ok (.if_icmp .ne 5, 3) := by decide +kernel
theorem dX0_knownAnd_26 : decode cX0_knownAnd 26 = .ok (.iload_n 1, 1) := by decide +kernel
theorem dX0_knownAnd_27 : decode cX0_knownAnd 27 = .ok (.ireturn, 1) := by decide +kernel
theorem dX0_knownAnd_28 : decode cX0_knownAnd 28 = .ok (.iload_n 2, 1) := by decide +kernel
theorem dX0_knownAnd_29 : decode cX0_knownAnd 29 = .ok (.iconst 1, 1) := by decide +kernel
theorem dX0_knownAnd_30 : decode cX0_knownAnd 30 = .ok (.ishr, 1) := by decide +kernel
theorem dX0_knownAnd_31 : decode cX0_knownAnd 31 = .ok (.istore_n 3, 1) := by decide +kernel
theorem dX0_knownAnd_32 : decode cX0_knownAnd 32 = .ok (.aload_n 0, 1) := by decide +kernel
theorem dX0_knownAnd_33 : decode cX0_knownAnd 33 = .ok (.iload_n 3, 1) := by decide +kernel
theorem dX0_knownAnd_34 : decode cX0_knownAnd 34 = .ok (.invokevirtual 100, 3) := by decide +kernel
theorem dX0_knownAnd_37 : decode cX0_knownAnd 37 = .ok (.ifCond .ne 5, 3) := by decide +kernel
theorem dX0_knownAnd_40 : decode cX0_knownAnd 40 = .ok (.iconst (-1), 1) := by decide +kernel
theorem dX0_knownAnd_41 : decode cX0_knownAnd 41 = .ok (.ireturn, 1) := by decide +kernel
theorem dX0_knownAnd_42 : decode cX0_knownAnd 42 = .ok (.iload_n 2, 1) := by decide +kernel
theorem dX0_knownAnd_43 : decode cX0_knownAnd 43 = .ok (.invokestatic 125, 3) := by decide +kernel
theorem dX0_knownAnd_46 : decode cX0_knownAnd 46 = .ok (.ifCond .eq 21, 3) := by decide +kernel
theorem dX0_knownAnd_49 : decode cX0_knownAnd 49 = .ok (.aload_n 0, 1) := by decide +kernel
theorem dX0_knownAnd_50 : decode cX0_knownAnd 50 = .ok (.iload_n 3, 1) := by decide +kernel
theorem dX0_knownAnd_51 : decode cX0_knownAnd 51 = .ok (.iload_n 1, 1) := by decide +kernel
theorem dX0_knownAnd_52 : decode cX0_knownAnd 52 = .ok (.invokestatic 110, 3) := by decide +kernel
theorem dX0_knownAnd_55 : decode cX0_knownAnd 55 = .ok (.invokevirtual 128, 3) := by decide +kernel
theorem dX0_knownAnd_58 : decode cX0_knownAnd 58 = .ok (.ifCond .eq 7, 3) := by decide +kernel
theorem dX0_knownAnd_61 : decode cX0_knownAnd 61 = .ok (.iload_n 1, 1) := by decide +kernel
theorem dX0_knownAnd_62 : decode cX0_knownAnd 62 = .ok (.goto 4, 3) := by decide +kernel
theorem dX0_knownAnd_65 : decode cX0_knownAnd 65 = .ok (.iconst (-1), 1) := by decide +kernel
theorem dX0_knownAnd_66 : decode cX0_knownAnd 66 = .ok (.ireturn, 1) := by decide +kernel
theorem dX0_knownAnd_67 : decode cX0_knownAnd 67 = .ok (.aload_n 0, 1) := by decide +kernel
theorem dX0_knownAnd_68 : decode cX0_knownAnd 68 = .ok (.iload_n 3, 1) := by decide +kernel
theorem dX0_knownAnd_69 : decode cX0_knownAnd 69 = .ok (.iload_n 1, 1) := by decide +kernel
theorem dX0_knownAnd_70 : decode cX0_knownAnd 70 = .ok (.invokevirtual 128, 3) := by decide +kernel
theorem dX0_knownAnd_73 : decode cX0_knownAnd 73 = .ok (.ifCond .eq 5, 3) := by decide +kernel
theorem dX0_knownAnd_76 : decode cX0_knownAnd 76 = .ok (.iload_n 2, 1) := by decide +kernel
theorem dX0_knownAnd_77 : decode cX0_knownAnd 77 = .ok (.ireturn, 1) := by decide +kernel
theorem dX0_knownAnd_78 : decode cX0_knownAnd 78 = .ok (.aload_n 0, 1) := by decide +kernel
theorem dX0_knownAnd_79 : decode cX0_knownAnd 79 = .ok (.iload_n 3, 1) := by decide +kernel
theorem dX0_knownAnd_80 : decode cX0_knownAnd 80 = .ok (.iload_n 1, 1) := by decide +kernel
theorem dX0_knownAnd_81 : decode cX0_knownAnd 81 = .ok (.invokestatic 110, 3) := by decide +kernel
theorem dX0_knownAnd_84 : decode cX0_knownAnd 84 = .ok (.invokevirtual 128, 3) := by decide +kernel
theorem dX0_knownAnd_87 : decode cX0_knownAnd 87 = .ok (.ifCond .ne 12, 3) := by decide +kernel
theorem dX0_knownAnd_90 : decode cX0_knownAnd 90 = .ok (.aload_n 0, 1) := by decide +kernel
theorem dX0_knownAnd_91 : decode cX0_knownAnd 91 = .ok (.iload_n 1, 1) := by decide +kernel
theorem dX0_knownAnd_92 : decode cX0_knownAnd 92 = .ok (.iload_n 3, 1) := by decide +kernel
theorem dX0_knownAnd_93 : decode cX0_knownAnd 93 = .ok (.invokevirtual 132, 3) := by decide +kernel
theorem dX0_knownAnd_96 : decode cX0_knownAnd 96 = .ok (.ifCond .eq 7, 3) := by decide +kernel
theorem dX0_knownAnd_99 : decode cX0_knownAnd 99 = .ok (.iconst 0, 1) := by decide +kernel
theorem dX0_knownAnd_100 : decode cX0_knownAnd 100 = .ok (.goto 4, 3) := by decide +kernel
theorem dX0_knownAnd_103 : decode cX0_knownAnd 103 = .ok (.iconst (-1), 1) := by decide +kernel
theorem dX0_knownAnd_104 : decode cX0_knownAnd 104 = .ok (.ireturn, 1) := by decide +kernel
theorem dX0_hasLiteral_0 : decode cX0_hasLiteral 0 = .ok (.aload_n 0, 1) := by decide +kernel
theorem dX0_hasLiteral_1 : decode cX0_hasLiteral 1 = .ok (.getfield 9, 3) := by decide +kernel
theorem dX0_hasLiteral_4 : decode cX0_hasLiteral 4 = .ok (.iload_n 1, 1) := by decide +kernel
theorem dX0_hasLiteral_5 : decode cX0_hasLiteral 5 = .ok (.iaload, 1) := by decide +kernel
theorem dX0_hasLiteral_6 : decode cX0_hasLiteral 6 = .ok (.iload_n 2, 1) := by decide +kernel
theorem dX0_hasLiteral_7 : decode cX0_hasLiteral 7 = .ok (.if_icmp .eq 13, 3) := by decide +kernel
theorem dX0_hasLiteral_10 : decode cX0_hasLiteral 10 = .ok (.aload_n 0, 1) := by decide +kernel
theorem dX0_hasLiteral_11 : decode cX0_hasLiteral 11 = .ok (.getfield 13, 3) := by decide +kernel
theorem dX0_hasLiteral_14 : decode cX0_hasLiteral 14 = .ok (.iload_n 1, 1) := by decide +kernel
theorem dX0_hasLiteral_15 : decode cX0_hasLiteral 15 = .ok (.iaload, 1) := by decide +kernel
theorem dX0_hasLiteral_16 : decode cX0_hasLiteral 16 = .ok (.iload_n 2, 1) := by decide +kernel
theorem dX0_hasLiteral_17 : decode cX0_hasLiteral 17 = .ok (.if_icmp .ne 7, 3) := by decide +kernel
theorem dX0_hasLiteral_20 : decode cX0_hasLiteral 20 = .ok (.iconst 1, 1) := by decide +kernel
theorem dX0_hasLiteral_21 : decode cX0_hasLiteral 21 = .ok (.goto 4, 3) := by decide +kernel
theorem dX0_hasLiteral_24 : decode cX0_hasLiteral 24 = .ok (.iconst 0, 1) := by decide +kernel
theorem dX0_hasLiteral_25 : decode cX0_hasLiteral 25 = .ok (.ireturn, 1) := by decide +kernel
theorem dX0_isGateAgainst_0 : decode cX0_isGateAgainst 0 = .ok (.iload_n 1, 1) := by decide +kernel
theorem dX0_isGateAgainst_1 : decode cX0_isGateAgainst 1 = .ok (.iconst 1, 1) := by decide +kernel
theorem dX0_isGateAgainst_2 : decode cX0_isGateAgainst 2 = .ok (.ishr, 1) := by decide +kernel
theorem dX0_isGateAgainst_3 : decode cX0_isGateAgainst 3 = .ok (.istore_n 3, 1) := by decide +kernel
theorem dX0_isGateAgainst_4 : decode cX0_isGateAgainst 4 = .ok (.iload_n 1, 1) := by decide +kernel
theorem dX0_isGateAgainst_5 : decode cX0_isGateAgainst 5 = .ok (.invokestatic 125, 3) := by decide +kernel
theorem dX0_isGateAgainst_8 : decode cX0_isGateAgainst 8 = .ok (.ifCond .ne 11, 3) := by decide +kernel
theorem dX0_isGateAgainst_11 : decode cX0_isGateAgainst 11 = .ok (.aload_n 0, 1) := by decide +kernel
theorem dX0_isGateAgainst_12 : decode cX0_isGateAgainst 12 = .ok (.iload_n 3, 1) := by decide +kernel
theorem dX0_isGateAgainst_13 : decode cX0_isGateAgainst 13 = .ok (.invokevirtual 100, 3) := by decide +kernel
theorem dX0_isGateAgainst_16 : decode cX0_isGateAgainst 16 = .ok (.ifCond .ne 5, 3) := by decide +kernel
theorem dX0_isGateAgainst_19 : decode cX0_isGateAgainst 19 = .ok (.iconst 0, 1) := by decide +kernel
theorem dX0_isGateAgainst_20 : decode cX0_isGateAgainst 20 = .ok (.ireturn, 1) := by decide +kernel
theorem dX0_isGateAgainst_21 : decode cX0_isGateAgainst 21 = .ok (.aload_n 0, 1) := by decide +kernel
theorem dX0_isGateAgainst_22 : decode cX0_isGateAgainst 22 = .ok (.iload_n 2, 1) := by decide +kernel
theorem dX0_isGateAgainst_23 : decode cX0_isGateAgainst 23 = .ok (.aload_n 0, 1) := by decide +kernel
theorem dX0_isGateAgainst_24 : decode cX0_isGateAgainst 24 = .ok (.getfield 9, 3) := by decide +kernel
theorem dX0_isGateAgainst_27 : decode cX0_isGateAgainst 27 = .ok (.iload_n 3, 1) := by decide +kernel
theorem dX0_isGateAgainst_28 : decode cX0_isGateAgainst 28 = .ok (.iaload, 1) := by decide +kernel
theorem dX0_isGateAgainst_29 : decode cX0_isGateAgainst 29 = .ok (.invokestatic 110, 3) := by decide +kernel
theorem dX0_isGateAgainst_32 : decode cX0_isGateAgainst 32 = .ok (.invokevirtual 128, 3) := by decide +kernel
theorem dX0_isGateAgainst_35 : decode cX0_isGateAgainst 35 = .ok (.ifCond .ne 20, 3) := by decide +kernel
theorem dX0_isGateAgainst_38 : decode cX0_isGateAgainst 38 = .ok (.aload_n 0, 1) := by decide +kernel
theorem dX0_isGateAgainst_39 : decode cX0_isGateAgainst 39 = .ok (.iload_n 2, 1) := by decide +kernel
theorem dX0_isGateAgainst_40 : decode cX0_isGateAgainst 40 = .ok (.aload_n 0, 1) := by decide +kernel
theorem dX0_isGateAgainst_41 : decode cX0_isGateAgainst 41 = .ok (.getfield 13, 3) := by decide +kernel
theorem dX0_isGateAgainst_44 : decode cX0_isGateAgainst 44 = .ok (.iload_n 3, 1) := by decide +kernel
theorem dX0_isGateAgainst_45 : decode cX0_isGateAgainst 45 = .ok (.iaload, 1) := by decide +kernel
theorem dX0_isGateAgainst_46 : decode cX0_isGateAgainst 46 = .ok (.invokestatic 110, 3) := by decide +kernel
theorem dX0_isGateAgainst_49 : decode cX0_isGateAgainst 49 = .ok (.invokevirtual 128, 3) := by decide +kernel
theorem dX0_isGateAgainst_52 : decode cX0_isGateAgainst 52 = .ok (.ifCond .eq 7, 3) := by decide +kernel
theorem dX0_isGateAgainst_55 : decode cX0_isGateAgainst 55 = .ok (.iconst 1, 1) := by decide +kernel
theorem dX0_isGateAgainst_56 : decode cX0_isGateAgainst 56 = .ok (.goto 4, 3) := by decide +kernel
theorem dX0_isGateAgainst_59 : decode cX0_isGateAgainst 59 = .ok (.iconst 0, 1) := by decide +kernel
theorem dX0_isGateAgainst_60 : decode cX0_isGateAgainst 60 = .ok (.ireturn, 1) := by decide +kernel
theorem dX0_restOf_0 : decode cX0_restOf 0 = .ok (.iload_n 2, 1) := by decide +kernel
theorem dX0_restOf_1 : decode cX0_restOf 1 = .ok (.iconst 1, 1) := by decide +kernel
theorem dX0_restOf_2 : decode cX0_restOf 2 = .ok (.ishr, 1) := by decide +kernel
theorem dX0_restOf_3 : decode cX0_restOf 3 = .ok (.istore_n 3, 1) := by decide +kernel
theorem dX0_restOf_4 : decode cX0_restOf 4 = .ok (.iload_n 2, 1) := by decide +kernel
theorem dX0_restOf_5 : decode cX0_restOf 5 = .ok (.invokestatic 125, 3) := by decide +kernel
theorem dX0_restOf_8 : decode cX0_restOf 8 = .ok (.ifCond .eq 11, 3) := by decide +kernel
theorem dX0_restOf_11 : decode cX0_restOf 11 = .ok (.aload_n 0, 1) := by decide +kernel
theorem dX0_restOf_12 : decode cX0_restOf 12 = .ok (.iload_n 3, 1) := by decide +kernel
theorem dX0_restOf_13 : decode cX0_restOf 13 = .ok (.invokevirtual 100, 3) := by decide +kernel
theorem dX0_restOf_16 : decode cX0_restOf 16 = .ok (.ifCond .ne 5, 3) := by decide +kernel
theorem dX0_restOf_19 : decode cX0_restOf 19 = .ok (.iconst (-1), 1) := by decide +kernel
theorem dX0_restOf_20 : decode cX0_restOf 20 = .ok (.ireturn, 1) := by decide +kernel
theorem dX0_restOf_21 : decode cX0_restOf 21 = .ok (.aload_n 0, 1) := by decide +kernel
theorem dX0_restOf_22 : decode cX0_restOf 22 = .ok (.getfield 9, 3) := by decide +kernel
theorem dX0_restOf_25 : decode cX0_restOf 25 = .ok (.iload_n 3, 1) := by decide +kernel
theorem dX0_restOf_26 : decode cX0_restOf 26 = .ok (.iaload, 1) := by decide +kernel
theorem dX0_restOf_27 : decode cX0_restOf 27 = .ok (.iload_n 1, 1) := by decide +kernel
theorem dX0_restOf_28 : decode cX0_restOf 28 = .ok (.if_icmp .ne 13, 3) := by decide +kernel
theorem dX0_restOf_31 : decode cX0_restOf 31 = .ok (.aload_n 0, 1) := by decide +kernel
theorem dX0_restOf_32 : decode cX0_restOf 32 = .ok (.getfield 13, 3) := by decide +kernel
theorem dX0_restOf_35 : decode cX0_restOf 35 = .ok (.iload_n 3, 1) := by decide +kernel
theorem dX0_restOf_36 : decode cX0_restOf 36 = .ok (.iaload, 1) := by decide +kernel
theorem dX0_restOf_37 : decode cX0_restOf 37 = .ok (.invokestatic 110, 3) := by decide +kernel
theorem dX0_restOf_40 : decode cX0_restOf 40 = .ok (.ireturn, 1) := by decide +kernel
theorem dX0_restOf_41 : decode cX0_restOf 41 = .ok (.aload_n 0, 1) := by decide +kernel
theorem dX0_restOf_42 : decode cX0_restOf 42 = .ok (.getfield 13, 3) := by decide +kernel
theorem dX0_restOf_45 : decode cX0_restOf 45 = .ok (.iload_n 3, 1) := by decide +kernel
theorem dX0_restOf_46 : decode cX0_restOf 46 = .ok (.iaload, 1) := by decide +kernel
theorem dX0_restOf_47 : decode cX0_restOf 47 = .ok (.iload_n 1, 1) := by decide +kernel
theorem dX0_restOf_48 : decode cX0_restOf 48 = .ok (.if_icmp .ne 15, 3) := by decide +kernel
theorem dX0_restOf_51 : decode cX0_restOf 51 = .ok (.aload_n 0, 1) := by decide +kernel
theorem dX0_restOf_52 : decode cX0_restOf 52 = .ok (.getfield 9, 3) := by decide +kernel
theorem dX0_restOf_55 : decode cX0_restOf 55 = .ok (.iload_n 3, 1) := by decide +kernel
theorem dX0_restOf_56 : decode cX0_restOf 56 = .ok (.iaload, 1) := by decide +kernel
theorem dX0_restOf_57 : decode cX0_restOf 57 = .ok (.invokestatic 110, 3) := by decide +kernel
theorem dX0_restOf_60 : decode cX0_restOf 60 = .ok (.goto 4, 3) := by decide +kernel
theorem dX0_restOf_63 : decode cX0_restOf 63 = .ok (.iconst (-1), 1) := by decide +kernel
theorem dX0_restOf_64 : decode cX0_restOf 64 = .ok (.ireturn, 1) := by decide +kernel
theorem dX0_gateOf_0 : decode cX0_gateOf 0 = .ok (.aload_n 0, 1) := by decide +kernel
theorem dX0_gateOf_1 : decode cX0_gateOf 1 = .ok (.getfield 28, 3) := by decide +kernel
theorem dX0_gateOf_4 : decode cX0_gateOf 4 = .ok (.iload_n 2, 1) := by decide +kernel
theorem dX0_gateOf_5 : decode cX0_gateOf 5 = .ok (.iconst 1, 1) := by decide +kernel
theorem dX0_gateOf_6 : decode cX0_gateOf 6 = .ok (.ishr, 1) := by decide +kernel
theorem dX0_gateOf_7 : decode cX0_gateOf 7 = .ok (.iaload, 1) := by decide +kernel
theorem dX0_gateOf_8 : decode cX0_gateOf 8 = .ok (.istore_n 3, 1) := by decide +kernel
theorem dX0_gateOf_9 : decode cX0_gateOf 9 = .ok (.iconst 0, 1) := by decide +kernel
theorem dX0_gateOf_10 : decode cX0_gateOf 10 = .ok (.istore 4, 2) := by decide +kernel
theorem dX0_gateOf_12 : decode cX0_gateOf 12 = .ok (.iload 4, 2) := by decide +kernel
theorem dX0_gateOf_14 : decode cX0_gateOf 14 = .ok (.aload_n 0, 1) := by decide +kernel
theorem dX0_gateOf_15 : decode cX0_gateOf 15 = .ok (.getfield 34, 3) := by decide +kernel
theorem dX0_gateOf_18 : decode cX0_gateOf 18 = .ok (.if_icmp .ge 44, 3) := by decide +kernel
theorem dX0_gateOf_21 : decode cX0_gateOf 21 = .ok (.iload_n 3, 1) := by decide +kernel
theorem dX0_gateOf_22 : decode cX0_gateOf 22 = .ok (.ifCond .eq 40, 3) := by decide +kernel
theorem dX0_gateOf_25 : decode cX0_gateOf 25 = .ok (.aload_n 0, 1) := by decide +kernel
theorem dX0_gateOf_26 : decode cX0_gateOf 26 = .ok (.getfield 9, 3) := by decide +kernel
theorem dX0_gateOf_29 : decode cX0_gateOf 29 = .ok (.iload_n 3, 1) := by decide +kernel
theorem dX0_gateOf_30 : decode cX0_gateOf 30 = .ok (.iaload, 1) := by decide +kernel
theorem dX0_gateOf_31 : decode cX0_gateOf 31 = .ok (.iload_n 1, 1) := by decide +kernel
theorem dX0_gateOf_32 : decode cX0_gateOf 32 = .ok (.if_icmp .ne 17, 3) := by decide +kernel
theorem dX0_gateOf_35 : decode cX0_gateOf 35 = .ok (.aload_n 0, 1) := by decide +kernel
theorem dX0_gateOf_36 : decode cX0_gateOf 36 = .ok (.getfield 13, 3) := by decide +kernel
theorem dX0_gateOf_39 : decode cX0_gateOf 39 = .ok (.iload_n 3, 1) := by decide +kernel
theorem dX0_gateOf_40 : decode cX0_gateOf 40 = .ok (.iaload, 1) := by decide +kernel
theorem dX0_gateOf_41 : decode cX0_gateOf 41 = .ok (.iload_n 2, 1) := by decide +kernel
theorem dX0_gateOf_42 : decode cX0_gateOf 42 = .ok (.if_icmp .ne 7, 3) := by decide +kernel
theorem dX0_gateOf_45 : decode cX0_gateOf 45 = .ok (.iload_n 3, 1) := by decide +kernel
theorem dX0_gateOf_46 : decode cX0_gateOf 46 = .ok (.iconst 1, 1) := by decide +kernel
theorem dX0_gateOf_47 : decode cX0_gateOf 47 = .ok (.ishl, 1) := by decide +kernel
theorem dX0_gateOf_48 : decode cX0_gateOf 48 = .ok (.ireturn, 1) := by decide +kernel
theorem dX0_gateOf_49 : decode cX0_gateOf 49 = .ok (.aload_n 0, 1) := by decide +kernel
theorem dX0_gateOf_50 : decode cX0_gateOf 50 = .ok (.getfield 31, 3) := by decide +kernel
theorem dX0_gateOf_53 : decode cX0_gateOf 53 = .ok (.iload_n 3, 1) := by decide +kernel
theorem dX0_gateOf_54 : decode cX0_gateOf 54 = .ok (.iaload, 1) := by decide +kernel
theorem dX0_gateOf_55 : decode cX0_gateOf 55 = .ok (.istore_n 3, 1) := by decide +kernel
theorem dX0_gateOf_56 : decode cX0_gateOf 56 = .ok (.iinc 4 1, 3) := by decide +kernel
theorem dX0_gateOf_59 : decode cX0_gateOf 59 = .ok (.goto (-47), 3) := by decide +kernel
theorem dX0_gateOf_62 : decode cX0_gateOf 62 = .ok (.aload_n 0, 1) := by decide +kernel
theorem dX0_gateOf_63 : decode cX0_gateOf 63 = .ok (.iload_n 1, 1) := by decide +kernel
theorem dX0_gateOf_64 : decode cX0_gateOf 64 = .ok (.iload_n 2, 1) := by decide +kernel
theorem dX0_gateOf_65 : decode cX0_gateOf 65 = .ok (.invokevirtual 44, 3) := by decide +kernel
theorem dX0_gateOf_68 : decode cX0_gateOf 68 = .ok (.istore 4, 2) := by decide +kernel
theorem dX0_gateOf_70 : decode cX0_gateOf 70 = .ok (.aload_n 0, 1) := by decide +kernel
theorem dX0_gateOf_71 : decode cX0_gateOf 71 = .ok (.iload 4, 2) := by decide +kernel
theorem dX0_gateOf_73 : decode cX0_gateOf 73 = .ok (.iload_n 1, 1) := by decide +kernel
theorem dX0_gateOf_74 : decode cX0_gateOf 74 = .ok (.iconst 1, 1) := by decide +kernel
theorem dX0_gateOf_75 : decode cX0_gateOf 75 = .ok (.ishr, 1) := by decide +kernel
theorem dX0_gateOf_76 : decode cX0_gateOf 76 = .ok (.iload_n 2, 1) := by decide +kernel
theorem dX0_gateOf_77 : decode cX0_gateOf 77 = .ok (.iconst 1, 1) := by decide +kernel
theorem dX0_gateOf_78 : decode cX0_gateOf 78 = .ok (.ishr, 1) := by decide +kernel
theorem dX0_gateOf_79 : decode cX0_gateOf 79 = .ok (.invokevirtual 135, 3) := by decide +kernel
theorem dX0_gateOf_82 : decode cX0_gateOf 82 = .ok (.iload 4, 2) := by decide +kernel
theorem dX0_gateOf_84 : decode cX0_gateOf 84 = .ok (.iconst 1, 1) := by decide +kernel
theorem dX0_gateOf_85 : decode cX0_gateOf 85 = .ok (.ishl, 1) := by decide +kernel
theorem dX0_gateOf_86 : decode cX0_gateOf 86 = .ok (.ireturn, 1) := by decide +kernel
theorem dX0_enterGate_0 : decode cX0_enterGate 0 = .ok (.aload_n 0, 1) := by decide +kernel
theorem dX0_enterGate_1 : decode cX0_enterGate 1 = .ok (.getfield 19, 3) := by decide +kernel
theorem dX0_enterGate_4 : decode cX0_enterGate 4 = .ok (.iload_n 1, 1) := by decide +kernel
theorem dX0_enterGate_5 : decode cX0_enterGate 5 = .ok (.iconst 1, 1) := by decide +kernel
theorem dX0_enterGate_6 : decode cX0_enterGate 6 = .ok (.aload_n 0, 1) := by decide +kernel
theorem dX0_enterGate_7 : decode cX0_enterGate 7 = .ok (.getfield 19, 3) := by decide +kernel
theorem dX0_enterGate_10 : decode cX0_enterGate 10 = .ok (.iload_n 2, 1) := by decide +kernel
theorem dX0_enterGate_11 : decode cX0_enterGate 11 = .ok (.iaload, 1) := by decide +kernel
theorem dX0_enterGate_12 : decode cX0_enterGate 12 = .ok (.aload_n 0, 1) := by decide +kernel
theorem dX0_enterGate_13 : decode cX0_enterGate 13 = .ok (.getfield 19, 3) := by decide +kernel
theorem dX0_enterGate_16 : decode cX0_enterGate 16 = .ok (.iload_n 3, 1) := by decide +kernel
theorem dX0_enterGate_17 : decode cX0_enterGate 17 = .ok (.iaload, 1) := by decide +kernel
theorem dX0_enterGate_18 : decode cX0_enterGate 18 = .ok (.invokestatic 113, 3) := by decide +kernel
theorem dX0_enterGate_21 : decode cX0_enterGate 21 = .ok (.iadd, 1) := by decide +kernel
theorem dX0_enterGate_22 : decode cX0_enterGate 22 = .ok (.iastore, 1) := by decide +kernel
theorem dX0_enterGate_23 : decode cX0_enterGate 23 = .ok (.aload_n 0, 1) := by decide +kernel
theorem dX0_enterGate_24 : decode cX0_enterGate 24 = .ok (.getfield 16, 3) := by decide +kernel
theorem dX0_enterGate_27 : decode cX0_enterGate 27 = .ok (.iload_n 2, 1) := by decide +kernel
theorem dX0_enterGate_28 : decode cX0_enterGate 28 = .ok (.dup2, 1) := by decide +kernel
theorem dX0_enterGate_29 : decode cX0_enterGate 29 = .ok (.iaload, 1) := by decide +kernel
theorem dX0_enterGate_30 : decode cX0_enterGate 30 = .ok (.iconst 1, 1) := by decide +kernel
theorem dX0_enterGate_31 : decode cX0_enterGate 31 = .ok (.iadd, 1) := by decide +kernel
theorem dX0_enterGate_32 : decode cX0_enterGate 32 = .ok (.iastore, 1) := by decide +kernel
theorem dX0_enterGate_33 : decode cX0_enterGate 33 = .ok (.aload_n 0, 1) := by decide +kernel
theorem dX0_enterGate_34 : decode cX0_enterGate 34 = .ok (.getfield 16, 3) := by decide +kernel
theorem dX0_enterGate_37 : decode cX0_enterGate 37 = .ok (.iload_n 3, 1) := by decide +kernel
theorem dX0_enterGate_38 : decode cX0_enterGate 38 = .ok (.dup2, 1) := by decide +kernel
theorem dX0_enterGate_39 : decode cX0_enterGate 39 = .ok (.iaload, 1) := by decide +kernel
theorem dX0_enterGate_40 : decode cX0_enterGate 40 = .ok (.iconst 1, 1) := by decide +kernel
theorem dX0_enterGate_41 : decode cX0_enterGate 41 = .ok (.iadd, 1) := by decide +kernel
theorem dX0_enterGate_42 : decode cX0_enterGate 42 = .ok (.iastore, 1) := by decide +kernel
theorem dX0_enterGate_43 : decode cX0_enterGate 43 = .ok (.aload_n 0, 1) := by decide +kernel
theorem dX0_enterGate_44 : decode cX0_enterGate 44 = .ok (.getfield 31, 3) := by decide +kernel
theorem dX0_enterGate_47 : decode cX0_enterGate 47 = .ok (.iload_n 1, 1) := by decide +kernel
theorem dX0_enterGate_48 : decode cX0_enterGate 48 = .ok (.aload_n 0, 1) := by decide +kernel
theorem dX0_enterGate_49 : decode cX0_enterGate 49 = .ok (.getfield 28, 3) := by decide +kernel
theorem dX0_enterGate_52 : decode cX0_enterGate 52 = .ok (.iload_n 3, 1) := by decide +kernel
theorem dX0_enterGate_53 : decode cX0_enterGate 53 = .ok (.iaload, 1) := by decide +kernel
theorem dX0_enterGate_54 : decode cX0_enterGate 54 = .ok (.iastore, 1) := by decide +kernel
theorem dX0_enterGate_55 : decode cX0_enterGate 55 = .ok (.aload_n 0, 1) := by decide +kernel
theorem dX0_enterGate_56 : decode cX0_enterGate 56 = .ok (.getfield 28, 3) := by decide +kernel
theorem dX0_enterGate_59 : decode cX0_enterGate 59 = .ok (.iload_n 3, 1) := by decide +kernel
theorem dX0_enterGate_60 : decode cX0_enterGate 60 = .ok (.iload_n 1, 1) := by decide +kernel
theorem dX0_enterGate_61 : decode cX0_enterGate 61 = .ok (.iastore, 1) := by decide +kernel
theorem dX0_enterGate_62 : decode cX0_enterGate 62 = .ok (.return_, 1) := by decide +kernel
theorem dX0_newNode_0 : decode cX0_newNode 0 = .ok (.aload_n 0, 1) := by decide +kernel
theorem dX0_newNode_1 : decode cX0_newNode 1 = .ok (.getfield 34, 3) := by decide +kernel
theorem dX0_newNode_4 : decode cX0_newNode 4 = .ok (.sipush 20000, 3) := by decide +kernel
theorem dX0_newNode_7 : decode cX0_newNode 7 = .ok (.if_icmp .lt 13, 3) := by decide +kernel
theorem dX0_newNode_10 : decode cX0_newNode 10 = .ok (.new 139, 3) := by decide +kernel
theorem dX0_newNode_13 : decode cX0_newNode 13 = .ok (.dup, 1) := by decide +kernel
theorem dX0_newNode_14 : decode cX0_newNode 14 = .ok (.ldc 141, 2) := by decide +kernel
theorem dX0_newNode_16 : decode cX0_newNode 16 = .ok (.invokespecial 143, 3) := by decide +kernel
theorem dX0_newNode_19 : decode cX0_newNode 19 = .ok (.athrow, 1) := by decide +kernel
theorem dX0_newNode_20 : decode cX0_newNode 20 = .ok (.aload_n 0, 1) := by decide +kernel
theorem dX0_newNode_21 : decode cX0_newNode 21 = .ok (.getfield 34, 3) := by decide +kernel
theorem dX0_newNode_24 : decode cX0_newNode 24 = .ok (.aload_n 0, 1) := by decide +kernel
theorem dX0_newNode_25 : decode cX0_newNode 25 = .ok (.getfield 9, 3) := by decide +kernel
theorem dX0_newNode_28 : decode cX0_newNode 28 = .ok (.arraylength, 1) := by decide +kernel
theorem dX0_newNode_29 : decode cX0_newNode 29 = .ok (.if_icmp .lt 7, 3) := by decide +kernel
theorem dX0_newNode_32 : decode cX0_newNode 32 = .ok (.aload_n 0, 1) := by decide +kernel
theorem dX0_newNode_33 : decode cX0_newNode 33 = .ok (.invokevirtual 144, 3) := by decide +kernel
theorem dX0_newNode_36 : decode cX0_newNode 36 = .ok (.aload_n 0, 1) := by decide +kernel
theorem dX0_newNode_37 : decode cX0_newNode 37 = .ok (.getfield 34, 3) := by decide +kernel
theorem dX0_newNode_40 : decode cX0_newNode 40 = .ok (.istore_n 3, 1) := by decide +kernel
theorem dX0_newNode_41 : decode cX0_newNode 41 = .ok (.aload_n 0, 1) := by decide +kernel
theorem dX0_newNode_42 : decode cX0_newNode 42 = .ok (.getfield 9, 3) := by decide +kernel
theorem dX0_newNode_45 : decode cX0_newNode 45 = .ok (.iload_n 3, 1) := by decide +kernel
theorem dX0_newNode_46 : decode cX0_newNode 46 = .ok (.iload_n 1, 1) := by decide +kernel
theorem dX0_newNode_47 : decode cX0_newNode 47 = .ok (.iastore, 1) := by decide +kernel
theorem dX0_newNode_48 : decode cX0_newNode 48 = .ok (.aload_n 0, 1) := by decide +kernel
theorem dX0_newNode_49 : decode cX0_newNode 49 = .ok (.getfield 13, 3) := by decide +kernel
theorem dX0_newNode_52 : decode cX0_newNode 52 = .ok (.iload_n 3, 1) := by decide +kernel
theorem dX0_newNode_53 : decode cX0_newNode 53 = .ok (.iload_n 2, 1) := by decide +kernel
theorem dX0_newNode_54 : decode cX0_newNode 54 = .ok (.iastore, 1) := by decide +kernel
theorem dX0_newNode_55 : decode cX0_newNode 55 = .ok (.aload_n 0, 1) := by decide +kernel
theorem dX0_newNode_56 : decode cX0_newNode 56 = .ok (.dup, 1) := by decide +kernel
theorem dX0_newNode_57 : decode cX0_newNode 57 = .ok (.getfield 34, 3) := by decide +kernel
theorem dX0_newNode_60 : decode cX0_newNode 60 = .ok (.iconst 1, 1) := by decide +kernel
theorem dX0_newNode_61 : decode cX0_newNode 61 = .ok (.iadd, 1) := by decide +kernel
theorem dX0_newNode_62 : decode cX0_newNode 62 = .ok (.putfield 34, 3) := by decide +kernel
theorem dX0_newNode_65 : decode cX0_newNode 65 = .ok (.iload_n 3, 1) := by decide +kernel
theorem dX0_newNode_66 : decode cX0_newNode 66 = .ok (.ireturn, 1) := by decide +kernel
theorem dX0_growRows_0 : decode cX0_growRows 0 = .ok (.iconst 2, 1) := by decide +kernel
theorem dX0_growRows_1 : decode cX0_growRows 1 = .ok (.aload_n 0, 1) := by decide +kernel
theorem dX0_growRows_2 : decode cX0_growRows 2 = .ok (.getfield 9, 3) := by decide +kernel
theorem dX0_growRows_5 : decode cX0_growRows 5 = .ok (.arraylength, 1) := by decide +kernel
theorem dX0_growRows_6 : decode cX0_growRows 6 = .ok (.imul, 1) := by decide +kernel
theorem dX0_growRows_7 : decode cX0_growRows 7 = .ok (.istore_n 1, 1) := by decide +kernel
theorem dX0_growRows_8 : decode cX0_growRows 8 = .ok (.aload_n 0, 1) := by decide +kernel
theorem dX0_growRows_9 : decode cX0_growRows 9 = .ok (.aload_n 0, 1) := by decide +kernel
theorem dX0_growRows_10 : decode cX0_growRows 10 = .ok (.getfield 9, 3) := by decide +kernel
theorem dX0_growRows_13 : decode cX0_growRows 13 = .ok (.iload_n 1, 1) := by decide +kernel
theorem dX0_growRows_14 : decode cX0_growRows 14 = .ok (.invokestatic 147, 3) := by decide +kernel
theorem dX0_growRows_17 : decode cX0_growRows 17 = .ok (.putfield 9, 3) := by decide +kernel
theorem dX0_growRows_20 : decode cX0_growRows 20 = .ok (.aload_n 0, 1) := by decide +kernel
theorem dX0_growRows_21 : decode cX0_growRows 21 = .ok (.aload_n 0, 1) := by decide +kernel
theorem dX0_growRows_22 : decode cX0_growRows 22 = .ok (.getfield 13, 3) := by decide +kernel
theorem dX0_growRows_25 : decode cX0_growRows 25 = .ok (.iload_n 1, 1) := by decide +kernel
theorem dX0_growRows_26 : decode cX0_growRows 26 = .ok (.invokestatic 147, 3) := by decide +kernel
theorem dX0_growRows_29 : decode cX0_growRows 29 = .ok (.putfield 13, 3) := by decide +kernel
theorem dX0_growRows_32 : decode cX0_growRows 32 = .ok (.aload_n 0, 1) := by decide +kernel
theorem dX0_growRows_33 : decode cX0_growRows 33 = .ok (.aload_n 0, 1) := by decide +kernel
theorem dX0_growRows_34 : decode cX0_growRows 34 = .ok (.getfield 16, 3) := by decide +kernel
theorem dX0_growRows_37 : decode cX0_growRows 37 = .ok (.iload_n 1, 1) := by decide +kernel
theorem dX0_growRows_38 : decode cX0_growRows 38 = .ok (.invokestatic 147, 3) := by decide +kernel
theorem dX0_growRows_41 : decode cX0_growRows 41 = .ok (.putfield 16, 3) := by decide +kernel
theorem dX0_growRows_44 : decode cX0_growRows 44 = .ok (.aload_n 0, 1) := by decide +kernel
theorem dX0_growRows_45 : decode cX0_growRows 45 = .ok (.aload_n 0, 1) := by decide +kernel
theorem dX0_growRows_46 : decode cX0_growRows 46 = .ok (.getfield 19, 3) := by decide +kernel
theorem dX0_growRows_49 : decode cX0_growRows 49 = .ok (.iload_n 1, 1) := by decide +kernel
theorem dX0_growRows_50 : decode cX0_growRows 50 = .ok (.invokestatic 147, 3) := by decide +kernel
theorem dX0_growRows_53 : decode cX0_growRows 53 = .ok (.putfield 19, 3) := by decide +kernel
theorem dX0_growRows_56 : decode cX0_growRows 56 = .ok (.aload_n 0, 1) := by decide +kernel
theorem dX0_growRows_57 : decode cX0_growRows 57 = .ok (.aload_n 0, 1) := by decide +kernel
theorem dX0_growRows_58 : decode cX0_growRows 58 = .ok (.getfield 22, 3) := by decide +kernel
theorem dX0_growRows_61 : decode cX0_growRows 61 = .ok (.iload_n 1, 1) := by decide +kernel
theorem dX0_growRows_62 : decode cX0_growRows 62 = .ok (.invokestatic 147, 3) := by decide +kernel
theorem dX0_growRows_65 : decode cX0_growRows 65 = .ok (.putfield 22, 3) := by decide +kernel
theorem dX0_growRows_68 : decode cX0_growRows 68 = .ok (.aload_n 0, 1) := by decide +kernel
theorem dX0_growRows_69 : decode cX0_growRows 69 = .ok (.aload_n 0, 1) := by decide +kernel
theorem dX0_growRows_70 : decode cX0_growRows 70 = .ok (.getfield 25, 3) := by decide +kernel
theorem dX0_growRows_73 : decode cX0_growRows 73 = .ok (.iload_n 1, 1) := by decide +kernel
theorem dX0_growRows_74 : decode cX0_growRows 74 = .ok (.invokestatic 147, 3) := by decide +kernel
theorem dX0_growRows_77 : decode cX0_growRows 77 = .ok (.putfield 25, 3) := by decide +kernel
theorem dX0_growRows_80 : decode cX0_growRows 80 = .ok (.aload_n 0, 1) := by decide +kernel
theorem dX0_growRows_81 : decode cX0_growRows 81 = .ok (.aload_n 0, 1) := by decide +kernel
theorem dX0_growRows_82 : decode cX0_growRows 82 = .ok (.getfield 28, 3) := by decide +kernel
theorem dX0_growRows_85 : decode cX0_growRows 85 = .ok (.iload_n 1, 1) := by decide +kernel
theorem dX0_growRows_86 : decode cX0_growRows 86 = .ok (.invokestatic 147, 3) := by decide +kernel
theorem dX0_growRows_89 : decode cX0_growRows 89 = .ok (.putfield 28, 3) := by decide +kernel
theorem dX0_growRows_92 : decode cX0_growRows 92 = .ok (.aload_n 0, 1) := by decide +kernel
theorem dX0_growRows_93 : decode cX0_growRows 93 = .ok (.aload_n 0, 1) := by decide +kernel
theorem dX0_growRows_94 : decode cX0_growRows 94 = .ok (.getfield 31, 3) := by decide +kernel
theorem dX0_growRows_97 : decode cX0_growRows 97 = .ok (.iload_n 1, 1) := by decide +kernel
theorem dX0_growRows_98 : decode cX0_growRows 98 = .ok (.invokestatic 147, 3) := by decide +kernel
theorem dX0_growRows_101 : decode cX0_growRows 101 = .ok (.putfield 31, 3) := by decide +kernel
theorem dX0_growRows_104 : decode cX0_growRows 104 = .ok (.return_, 1) := by decide +kernel
theorem dX0_three_0 : decode cX0_three 0 = .ok (.aload_n 0, 1) := by decide +kernel
theorem dX0_three_1 : decode cX0_three 1 = .ok (.iload_n 2, 1) := by decide +kernel
theorem dX0_three_2 : decode cX0_three 2 = .ok (.invokevirtual 48, 3) := by decide +kernel
theorem dX0_three_5 : decode cX0_three 5 = .ok (.aload_n 0, 1) := by decide +kernel
theorem dX0_three_6 : decode cX0_three 6 = .ok (.iload_n 3, 1) := by decide +kernel
theorem dX0_three_7 : decode cX0_three 7 = .ok (.invokevirtual 48, 3) := by decide +kernel
theorem dX0_three_10 : decode cX0_three 10 = .ok (.aload_n 0, 1) := by decide +kernel
theorem dX0_three_11 : decode cX0_three 11 = .ok (.iload 4, 2) := by decide +kernel
theorem dX0_three_13 : decode cX0_three 13 = .ok (.invokevirtual 48, 3) := by decide +kernel
theorem dX0_three_16 : decode cX0_three 16 = .ok (.iload_n 1, 1) := by decide +kernel
theorem dX0_three_17 : decode cX0_three 17 = .ok (.ifCond .ne 12, 3) := by decide +kernel
theorem dX0_three_20 : decode cX0_three 20 = .ok (.aload_n 0, 1) := by decide +kernel
theorem dX0_three_21 : decode cX0_three 21 = .ok (.iload_n 2, 1) := by decide +kernel
theorem dX0_three_22 : decode cX0_three 22 = .ok (.iload_n 3, 1) := by decide +kernel
theorem dX0_three_23 : decode cX0_three 23 = .ok (.iload 4, 2) := by decide +kernel
theorem dX0_three_25 : decode cX0_three 25 = .ok (.invokevirtual 68, 3) := by decide +kernel
theorem dX0_three_28 : decode cX0_three 28 = .ok (.ireturn, 1) := by decide +kernel
theorem dX0_three_29 : decode cX0_three 29 = .ok (.iload_n 1, 1) := by decide +kernel
theorem dX0_three_30 : decode cX0_three 30 = .ok (.iconst 1, 1) := by decide +kernel
theorem dX0_three_31 : decode cX0_three 31 = .ok (.if_icmp .ne 16, 3) := by decide +kernel
theorem dX0_three_34 : decode cX0_three 34 = .ok (.aload_n 0, 1) := by decide +kernel
theorem dX0_three_35 : decode cX0_three 35 = .ok (.aload_n 0, 1) := by decide +kernel
theorem dX0_three_36 : decode cX0_three 36 = .ok (.iload_n 2, 1) := by decide +kernel
theorem dX0_three_37 : decode cX0_three 37 = .ok (.iload_n 3, 1) := by decide +kernel
theorem dX0_three_38 : decode cX0_three 38 = .ok (.invokevirtual 58, 3) := by decide +kernel
theorem dX0_three_41 : decode cX0_three 41 = .ok (.iload 4, 2) := by decide +kernel
theorem dX0_three_43 : decode cX0_three 43 = .ok (.invokevirtual 58, 3) := by decide +kernel
theorem dX0_three_46 : decode cX0_three 46 = .ok (.ireturn, 1) := by decide +kernel
theorem dX0_three_47 : decode cX0_three 47 = .ok (.iload_n 1, 1) := by decide +kernel
theorem dX0_three_48 : decode cX0_three 48 = .ok (.iconst 2, 1) := by decide +kernel
theorem dX0_three_49 : decode cX0_three 49 = .ok (.if_icmp .ne 34, 3) := by decide +kernel
theorem dX0_three_52 : decode cX0_three 52 = .ok (.aload_n 0, 1) := by decide +kernel
theorem dX0_three_53 : decode cX0_three 53 = .ok (.iload_n 2, 1) := by decide +kernel
theorem dX0_three_54 : decode cX0_three 54 = .ok (.iload_n 3, 1) := by decide +kernel
theorem dX0_three_55 : decode cX0_three 55 = .ok (.invokevirtual 52, 3) := by decide +kernel
theorem dX0_three_58 : decode cX0_three 58 = .ok (.istore 5, 2) := by decide +kernel
theorem dX0_three_60 : decode cX0_three 60 = .ok (.aload_n 0, 1) := by decide +kernel
theorem dX0_three_61 : decode cX0_three 61 = .ok (.iload_n 2, 1) := by decide +kernel
theorem dX0_three_62 : decode cX0_three 62 = .ok (.iload_n 3, 1) := by decide +kernel
theorem dX0_three_63 : decode cX0_three 63 = .ok (.invokevirtual 58, 3) := by decide +kernel
theorem dX0_three_66 : decode cX0_three 66 = .ok (.istore 6, 2) := by decide +kernel
theorem dX0_three_68 : decode cX0_three 68 = .ok (.aload_n 0, 1) := by decide +kernel
theorem dX0_three_69 : decode cX0_three 69 = .ok (.iload 5, 2) := by decide +kernel
theorem dX0_three_71 : decode cX0_three 71 = .ok (.aload_n 0, 1) := by decide +kernel
theorem dX0_three_72 : decode cX0_three 72 = .ok (.iload 4, 2) := by decide +kernel
theorem dX0_three_74 : decode cX0_three 74 = .ok (.iload 6, 2) := by decide +kernel
theorem dX0_three_76 : decode cX0_three 76 = .ok (.invokevirtual 52, 3) := by decide +kernel
theorem dX0_three_79 : decode cX0_three 79 = .ok (.invokevirtual 55, 3) := by decide +kernel
theorem dX0_three_82 : decode cX0_three 82 = .ok (.ireturn, 1) := by decide +kernel
theorem dX0_three_83 : decode cX0_three 83 = .ok (.new 61, 3) := by decide +kernel
theorem dX0_three_86 : decode cX0_three 86 = .ok (.dup, 1) := by decide +kernel
theorem dX0_three_87 : decode cX0_three 87 = .ok (.ldc 72, 2) := by decide +kernel
theorem dX0_three_89 : decode cX0_three 89 = .ok (.invokespecial 65, 3) := by decide +kernel
theorem dX0_three_92 : decode cX0_three 92 = .ok (.athrow, 1) := by decide +kernel
theorem dX0_set_0 : decode cX0_set 0 = .ok (.aload_n 0, 1) := by decide +kernel
theorem dX0_set_1 : decode cX0_set 1 = .ok (.iload_n 1, 1) := by decide +kernel
theorem dX0_set_2 : decode cX0_set 2 = .ok (.invokevirtual 74, 3) := by decide +kernel
theorem dX0_set_5 : decode cX0_set 5 = .ok (.iload_n 2, 1) := by decide +kernel
theorem dX0_set_6 : decode cX0_set 6 = .ok (.ifCond .eq 7, 3) := by decide +kernel
theorem dX0_set_9 : decode cX0_set 9 = .ok (.iconst 1, 1) := by decide +kernel
theorem dX0_set_10 : decode cX0_set 10 = .ok (.goto 4, 3) := by decide +kernel
theorem dX0_set_13 : decode cX0_set 13 = .ok (.iconst 0, 1) := by decide +kernel
theorem dX0_set_14 : decode cX0_set 14 = .ok (.istore_n 3, 1) := by decide +kernel
theorem dX0_set_15 : decode cX0_set 15 = .ok (.aload_n 0, 1) := by decide +kernel
theorem dX0_set_16 : decode cX0_set 16 = .ok (.getfield 22, 3) := by decide +kernel
theorem dX0_set_19 : decode cX0_set 19 = .ok (.iload_n 1, 1) := by decide +kernel
theorem dX0_set_20 : decode cX0_set 20 = .ok (.iaload, 1) := by decide +kernel
theorem dX0_set_21 : decode cX0_set 21 = .ok (.iload_n 3, 1) := by decide +kernel
theorem dX0_set_22 : decode cX0_set 22 = .ok (.if_icmp .ne 5, 3) := by decide +kernel
theorem dX0_set_25 : decode cX0_set 25 = .ok (.iconst 1, 1) := by decide +kernel
theorem dX0_set_26 : decode cX0_set 26 = .ok (.ireturn, 1) := by decide +kernel
theorem dX0_set_27 : decode cX0_set 27 = .ok (.aload_n 0, 1) := by decide +kernel
theorem dX0_set_28 : decode cX0_set 28 = .ok (.getfield 22, 3) := by decide +kernel
theorem dX0_set_31 : decode cX0_set 31 = .ok (.iload_n 1, 1) := by decide +kernel
theorem dX0_set_32 : decode cX0_set 32 = .ok (.iload_n 3, 1) := by decide +kernel
theorem dX0_set_33 : decode cX0_set 33 = .ok (.iastore, 1) := by decide +kernel
theorem dX0_set_34 : decode cX0_set 34 = .ok (.aload_n 0, 1) := by decide +kernel
theorem dX0_set_35 : decode cX0_set 35 = .ok (.aload_n 0, 1) := by decide +kernel
theorem dX0_set_36 : decode cX0_set 36 = .ok (.getfield 41, 3) := by decide +kernel
theorem dX0_set_39 : decode cX0_set 39 = .ok (.iload_n 1, 1) := by decide +kernel
theorem dX0_set_40 : decode cX0_set 40 = .ok (.iconst 1, 1) := by decide +kernel
theorem dX0_set_41 : decode cX0_set 41 = .ok (.iadd, 1) := by decide +kernel
theorem dX0_set_42 : decode cX0_set 42 = .ok (.invokestatic 77, 3) := by decide +kernel
theorem dX0_set_45 : decode cX0_set 45 = .ok (.putfield 41, 3) := by decide +kernel
theorem dX0_set_48 : decode cX0_set 48 = .ok (.iconst 0, 1) := by decide +kernel
theorem dX0_set_49 : decode cX0_set 49 = .ok (.ireturn, 1) := by decide +kernel
theorem dX0_value_0 : decode cX0_value 0 = .ok (.aload_n 0, 1) := by decide +kernel
theorem dX0_value_1 : decode cX0_value 1 = .ok (.iload_n 1, 1) := by decide +kernel
theorem dX0_value_2 : decode cX0_value 2 = .ok (.invokevirtual 48, 3) := by decide +kernel
theorem dX0_value_5 : decode cX0_value 5 = .ok (.aload_n 0, 1) := by decide +kernel
theorem dX0_value_6 : decode cX0_value 6 = .ok (.iload_n 1, 1) := by decide +kernel
theorem dX0_value_7 : decode cX0_value 7 = .ok (.iconst 1, 1) := by decide +kernel
theorem dX0_value_8 : decode cX0_value 8 = .ok (.ishr, 1) := by decide +kernel
theorem dX0_value_9 : decode cX0_value 9 = .ok (.invokevirtual 82, 3) := by decide +kernel
theorem dX0_value_12 : decode cX0_value 12 = .ok (.aload_n 0, 1) := by decide +kernel
theorem dX0_value_13 : decode cX0_value 13 = .ok (.iload_n 1, 1) := by decide +kernel
theorem dX0_value_14 : decode cX0_value 14 = .ok (.invokevirtual 85, 3) := by decide +kernel
theorem dX0_value_17 : decode cX0_value 17 = .ok (.iconst 1, 1) := by decide +kernel
theorem dX0_value_18 : decode cX0_value 18 = .ok (.if_icmp .ne 7, 3) := by decide +kernel
theorem dX0_value_21 : decode cX0_value 21 = .ok (.iconst 1, 1) := by decide +kernel
theorem dX0_value_22 : decode cX0_value 22 = .ok (.goto 4, 3) := by decide +kernel
theorem dX0_value_25 : decode cX0_value 25 = .ok (.iconst 0, 1) := by decide +kernel
theorem dX0_value_26 : decode cX0_value 26 = .ok (.ireturn, 1) := by decide +kernel
theorem dX0_node_0 : decode cX0_node 0 = .ok (.aload_n 0, 1) := by decide +kernel
theorem dX0_node_1 : decode cX0_node 1 = .ok (.iload_n 1, 1) := by decide +kernel
theorem dX0_node_2 : decode cX0_node 2 = .ok (.invokevirtual 89, 3) := by decide +kernel
theorem dX0_node_5 : decode cX0_node 5 = .ok (.iload_n 2, 1) := by decide +kernel
theorem dX0_node_6 : decode cX0_node 6 = .ok (.ifCond .ne 9, 3) := by decide +kernel
theorem dX0_node_9 : decode cX0_node 9 = .ok (.aload_n 0, 1) := by decide +kernel
theorem dX0_node_10 : decode cX0_node 10 = .ok (.iload_n 1, 1) := by decide +kernel
theorem dX0_node_11 : decode cX0_node 11 = .ok (.invokevirtual 92, 3) := by decide +kernel
theorem dX0_node_14 : decode cX0_node 14 = .ok (.ireturn, 1) := by decide +kernel
theorem dX0_node_15 : decode cX0_node 15 = .ok (.iload_n 2, 1) := by decide +kernel
theorem dX0_node_16 : decode cX0_node 16 = .ok (.iconst 1, 1) := by decide +kernel
theorem dX0_node_17 : decode cX0_node 17 = .ok (.if_icmp .ne 10, 3) := by decide +kernel
theorem dX0_node_20 : decode cX0_node 20 = .ok (.aload_n 0, 1) := by decide +kernel
theorem dX0_node_21 : decode cX0_node 21 = .ok (.getfield 9, 3) := by decide +kernel
theorem dX0_node_24 : decode cX0_node 24 = .ok (.iload_n 1, 1) := by decide +kernel
theorem dX0_node_25 : decode cX0_node 25 = .ok (.iaload, 1) := by decide +kernel
theorem dX0_node_26 : decode cX0_node 26 = .ok (.ireturn, 1) := by decide +kernel
theorem dX0_node_27 : decode cX0_node 27 = .ok (.iload_n 2, 1) := by decide +kernel
theorem dX0_node_28 : decode cX0_node 28 = .ok (.iconst 2, 1) := by decide +kernel
theorem dX0_node_29 : decode cX0_node 29 = .ok (.if_icmp .ne 10, 3) := by decide +kernel
theorem dX0_node_32 : decode cX0_node 32 = .ok (.aload_n 0, 1) := by decide +kernel
theorem dX0_node_33 : decode cX0_node 33 = .ok (.getfield 13, 3) := by decide +kernel
theorem dX0_node_36 : decode cX0_node 36 = .ok (.iload_n 1, 1) := by decide +kernel
theorem dX0_node_37 : decode cX0_node 37 = .ok (.iaload, 1) := by decide +kernel
theorem dX0_node_38 : decode cX0_node 38 = .ok (.ireturn, 1) := by decide +kernel
theorem dX0_node_39 : decode cX0_node 39 = .ok (.iload_n 2, 1) := by decide +kernel
theorem dX0_node_40 : decode cX0_node 40 = .ok (.iconst 3, 1) := by decide +kernel
theorem dX0_node_41 : decode cX0_node 41 = .ok (.if_icmp .ne 10, 3) := by decide +kernel
theorem dX0_node_44 : decode cX0_node 44 = .ok (.aload_n 0, 1) := by decide +kernel
theorem dX0_node_45 : decode cX0_node 45 = .ok (.getfield 16, 3) := by decide +kernel
theorem dX0_node_48 : decode cX0_node 48 = .ok (.iload_n 1, 1) := by decide +kernel
theorem dX0_node_49 : decode cX0_node 49 = .ok (.iaload, 1) := by decide +kernel
theorem dX0_node_50 : decode cX0_node 50 = .ok (.ireturn, 1) := by decide +kernel
theorem dX0_node_51 : decode cX0_node 51 = .ok (.new 61, 3) := by decide +kernel
theorem dX0_node_54 : decode cX0_node 54 = .ok (.dup, 1) := by decide +kernel
theorem dX0_node_55 : decode cX0_node 55 = .ok (.ldc 95, 2) := by decide +kernel
theorem dX0_node_57 : decode cX0_node 57 = .ok (.invokespecial 65, 3) := by decide +kernel
theorem dX0_node_60 : decode cX0_node 60 = .ok (.athrow, 1) := by decide +kernel
theorem dX0_cone_0 : decode cX0_cone 0 = .ok (.aload_n 0, 1) := by decide +kernel
theorem dX0_cone_1 : decode cX0_cone 1 = .ok (.iload_n 1, 1) := by decide +kernel
theorem dX0_cone_2 : decode cX0_cone 2 = .ok (.invokevirtual 48, 3) := by decide +kernel
theorem dX0_cone_5 : decode cX0_cone 5 = .ok (.iload_n 1, 1) := by decide +kernel
theorem dX0_cone_6 : decode cX0_cone 6 = .ok (.iconst 1, 1) := by decide +kernel
theorem dX0_cone_7 : decode cX0_cone 7 = .ok (.ishr, 1) := by decide +kernel
theorem dX0_cone_8 : decode cX0_cone 8 = .ok (.istore_n 2, 1) := by decide +kernel
theorem dX0_cone_9 : decode cX0_cone 9 = .ok (.aload_n 0, 1) := by decide +kernel
theorem dX0_cone_10 : decode cX0_cone 10 = .ok (.iload_n 2, 1) := by decide +kernel
theorem dX0_cone_11 : decode cX0_cone 11 = .ok (.invokevirtual 97, 3) := by decide +kernel
theorem dX0_cone_14 : decode cX0_cone 14 = .ok (.iconst 0, 1) := by decide +kernel
theorem dX0_cone_15 : decode cX0_cone 15 = .ok (.istore_n 3, 1) := by decide +kernel
theorem dX0_cone_16 : decode cX0_cone 16 = .ok (.iconst 1, 1) := by decide +kernel
theorem dX0_cone_17 : decode cX0_cone 17 = .ok (.istore 4, 2) := by decide +kernel
theorem dX0_cone_19 : decode cX0_cone 19 = .ok (.iload 4, 2) := by decide +kernel
theorem dX0_cone_21 : decode cX0_cone 21 = .ok (.iload_n 2, 1) := by decide +kernel
theorem dX0_cone_22 : decode cX0_cone 22 = .ok (.if_icmp .gt 32, 3) := by decide +kernel
theorem dX0_cone_25 : decode cX0_cone 25 = .ok (.aload_n 0, 1) := by decide +kernel
theorem dX0_cone_26 : decode cX0_cone 26 = .ok (.getfield 25, 3) := by decide +kernel
theorem dX0_cone_29 : decode cX0_cone 29 = .ok (.iload 4, 2) := by decide +kernel
theorem dX0_cone_31 : decode cX0_cone 31 = .ok (.iaload, 1) := by decide +kernel
theorem dX0_cone_32 : decode cX0_cone 32 = .ok (.iconst 1, 1) := by decide +kernel
theorem dX0_cone_33 : decode cX0_cone 33 = .ok (.if_icmp .ne 15, 3) := by decide +kernel
theorem dX0_cone_36 : decode cX0_cone 36 = .ok (.aload_n 0, 1) := by decide +kernel
theorem dX0_cone_37 : decode cX0_cone 37 = .ok (.iload 4, 2) := by decide +kernel
theorem dX0_cone_39 : decode cX0_cone 39 = .ok (.invokevirtual 100, 3) := by decide +kernel
theorem dX0_cone_42 : decode cX0_cone 42 = .ok (.ifCond .eq 6, 3) := by decide +kernel
theorem dX0_cone_45 : decode cX0_cone 45 = .ok (.iinc 3 1, 3) := by decide +kernel
theorem dX0_cone_48 : decode cX0_cone 48 = .ok (.iinc 4 1, 3) := by decide +kernel
theorem dX0_cone_51 : decode cX0_cone 51 = .ok (.goto (-32), 3) := by decide +kernel
theorem dX0_cone_54 : decode cX0_cone 54 = .ok (.iload_n 3, 1) := by decide +kernel
theorem dX0_cone_55 : decode cX0_cone 55 = .ok (.ireturn, 1) := by decide +kernel
theorem dX0_below_0 : decode cX0_below 0 = .ok (.aload_n 0, 1) := by decide +kernel
theorem dX0_below_1 : decode cX0_below 1 = .ok (.iload_n 1, 1) := by decide +kernel
theorem dX0_below_2 : decode cX0_below 2 = .ok (.invokevirtual 74, 3) := by decide +kernel
theorem dX0_below_5 : decode cX0_below 5 = .ok (.aload_n 0, 1) := by decide +kernel
theorem dX0_below_6 : decode cX0_below 6 = .ok (.iload_n 2, 1) := by decide +kernel
theorem dX0_below_7 : decode cX0_below 7 = .ok (.invokevirtual 48, 3) := by decide +kernel
theorem dX0_below_10 : decode cX0_below 10 = .ok (.iload_n 2, 1) := by decide +kernel
theorem dX0_below_11 : decode cX0_below 11 = .ok (.iconst 1, 1) := by decide +kernel
theorem dX0_below_12 : decode cX0_below 12 = .ok (.ishr, 1) := by decide +kernel
theorem dX0_below_13 : decode cX0_below 13 = .ok (.istore_n 3, 1) := by decide +kernel
theorem dX0_below_14 : decode cX0_below 14 = .ok (.iload_n 1, 1) := by decide +kernel
theorem dX0_below_15 : decode cX0_below 15 = .ok (.iload_n 3, 1) := by decide +kernel
theorem dX0_below_16 : decode cX0_below 16 = .ok (.if_icmp .le 5, 3) := by decide +kernel
theorem dX0_below_19 : decode cX0_below 19 = .ok (.iconst 0, 1) := by decide +kernel
theorem dX0_below_20 : decode cX0_below 20 = .ok (.ireturn, 1) := by decide +kernel
theorem dX0_below_21 : decode cX0_below 21 = .ok (.aload_n 0, 1) := by decide +kernel
theorem dX0_below_22 : decode cX0_below 22 = .ok (.iload_n 3, 1) := by decide +kernel
theorem dX0_below_23 : decode cX0_below 23 = .ok (.invokevirtual 97, 3) := by decide +kernel
theorem dX0_below_26 : decode cX0_below 26 = .ok (.aload_n 0, 1) := by decide +kernel
theorem dX0_below_27 : decode cX0_below 27 = .ok (.getfield 25, 3) := by decide +kernel
theorem dX0_below_30 : decode cX0_below 30 = .ok (.iload_n 1, 1) := by decide +kernel
theorem dX0_below_31 : decode cX0_below 31 = .ok (.iaload, 1) := by decide +kernel
theorem dX0_below_32 : decode cX0_below 32 = .ok (.iconst 1, 1) := by decide +kernel
theorem dX0_below_33 : decode cX0_below 33 = .ok (.if_icmp .ne 7, 3) := by decide +kernel
theorem dX0_below_36 : decode cX0_below 36 = .ok (.iconst 1, 1) := by decide +kernel
theorem dX0_below_37 : decode cX0_below 37 = .ok (.goto 4, 3) := by decide +kernel
theorem dX0_below_40 : decode cX0_below 40 = .ok (.iconst 0, 1) := by decide +kernel
theorem dX0_below_41 : decode cX0_below 41 = .ok (.ireturn, 1) := by decide +kernel
theorem dX0_depth_0 : decode cX0_depth 0 = .ok (.aload_n 0, 1) := by decide +kernel
theorem dX0_depth_1 : decode cX0_depth 1 = .ok (.iload_n 1, 1) := by decide +kernel
theorem dX0_depth_2 : decode cX0_depth 2 = .ok (.invokevirtual 48, 3) := by decide +kernel
theorem dX0_depth_5 : decode cX0_depth 5 = .ok (.aload_n 0, 1) := by decide +kernel
theorem dX0_depth_6 : decode cX0_depth 6 = .ok (.getfield 19, 3) := by decide +kernel
theorem dX0_depth_9 : decode cX0_depth 9 = .ok (.iload_n 1, 1) := by decide +kernel
theorem dX0_depth_10 : decode cX0_depth 10 = .ok (.iconst 1, 1) := by decide +kernel
theorem dX0_depth_11 : decode cX0_depth 11 = .ok (.ishr, 1) := by decide +kernel
theorem dX0_depth_12 : decode cX0_depth 12 = .ok (.iaload, 1) := by decide +kernel
theorem dX0_depth_13 : decode cX0_depth 13 = .ok (.ireturn, 1) := by decide +kernel
theorem dX0_needNode_0 : decode cX0_needNode 0 = .ok (.iload_n 1, 1) := by decide +kernel
theorem dX0_needNode_1 : decode cX0_needNode 1 = .ok (.ifCond .lt 11, 3) := by decide +kernel
theorem dX0_needNode_4 : decode cX0_needNode 4 = .ok (.iload_n 1, 1) := by decide +kernel
theorem dX0_needNode_5 : decode cX0_needNode 5 = .ok (.aload_n 0, 1) := by decide +kernel
theorem dX0_needNode_6 : decode cX0_needNode 6 = .ok (.getfield 34, 3) := by decide +kernel
theorem dX0_needNode_9 : decode cX0_needNode 9 = .ok (.if_icmp .lt 13, 3) := by decide +kernel
theorem dX0_needNode_12 : decode cX0_needNode 12 = .ok (.new 61, 3) := by decide +kernel
theorem dX0_needNode_15 : decode cX0_needNode 15 = .ok (.dup, 1) := by decide +kernel
theorem dX0_needNode_16 : decode cX0_needNode 16 = .ok (.ldc 104, 2) := by decide +kernel
theorem dX0_needNode_18 : decode cX0_needNode 18 = .ok (.invokespecial 65, 3) := by decide +kernel
theorem dX0_needNode_21 : decode cX0_needNode 21 = .ok (.athrow, 1) := by decide +kernel
theorem dX0_needNode_22 : decode cX0_needNode 22 = .ok (.return_, 1) := by decide +kernel
theorem dX0_needInput_0 : decode cX0_needInput 0 = .ok (.aload_n 0, 1) := by decide +kernel
theorem dX0_needInput_1 : decode cX0_needInput 1 = .ok (.iload_n 1, 1) := by decide +kernel
theorem dX0_needInput_2 : decode cX0_needInput 2 = .ok (.invokevirtual 89, 3) := by decide +kernel
theorem dX0_needInput_5 : decode cX0_needInput 5 = .ok (.aload_n 0, 1) := by decide +kernel
theorem dX0_needInput_6 : decode cX0_needInput 6 = .ok (.iload_n 1, 1) := by decide +kernel
theorem dX0_needInput_7 : decode cX0_needInput 7 = .ok (.invokevirtual 92, 3) := by decide +kernel
theorem dX0_needInput_10 : decode cX0_needInput 10 = .ok (.iconst 1, 1) := by decide +kernel
theorem dX0_needInput_11 : decode cX0_needInput 11 = .ok (.if_icmp .eq 13, 3) := by decide +kernel
theorem dX0_needInput_14 : decode cX0_needInput 14 = .ok (.new 61, 3) := by decide +kernel
theorem dX0_needInput_17 : decode cX0_needInput 17 = .ok (.dup, 1) := by decide +kernel
theorem dX0_needInput_18 : decode cX0_needInput 18 = .ok (.ldc 106, 2) := by decide +kernel
theorem dX0_needInput_20 : decode cX0_needInput 20 = .ok (.invokespecial 65, 3) := by decide +kernel
theorem dX0_needInput_23 : decode cX0_needInput 23 = .ok (.athrow, 1) := by decide +kernel
theorem dX0_needInput_24 : decode cX0_needInput 24 = .ok (.return_, 1) := by decide +kernel
theorem dX0_kindOf_0 : decode cX0_kindOf 0 = .ok (.iload_n 1, 1) := by decide +kernel
theorem dX0_kindOf_1 : decode cX0_kindOf 1 = .ok (.ifCond .ne 5, 3) := by decide +kernel
theorem dX0_kindOf_4 : decode cX0_kindOf 4 = .ok (.iconst 0, 1) := by decide +kernel
theorem dX0_kindOf_5 : decode cX0_kindOf 5 = .ok (.ireturn, 1) := by decide +kernel
theorem dX0_kindOf_6 : decode cX0_kindOf 6 = .ok (.aload_n 0, 1) := by decide +kernel
theorem dX0_kindOf_7 : decode cX0_kindOf 7 = .ok (.iload_n 1, 1) := by decide +kernel
theorem dX0_kindOf_8 : decode cX0_kindOf 8 = .ok (.invokevirtual 100, 3) := by decide +kernel
theorem dX0_kindOf_11 : decode cX0_kindOf 11 = .ok (.ifCond .eq 7, 3) := by decide +kernel
theorem dX0_kindOf_14 : decode cX0_kindOf 14 = .ok (.iconst 2, 1) := by decide +kernel
theorem dX0_kindOf_15 : decode cX0_kindOf 15 = .ok (.goto 4, 3) := by decide +kernel
theorem dX0_kindOf_18 : decode cX0_kindOf 18 = .ok (.iconst 1, 1) := by decide +kernel
theorem dX0_kindOf_19 : decode cX0_kindOf 19 = .ok (.ireturn, 1) := by decide +kernel
theorem dX0_orOf_0 : decode cX0_orOf 0 = .ok (.aload_n 0, 1) := by decide +kernel
theorem dX0_orOf_1 : decode cX0_orOf 1 = .ok (.iload_n 1, 1) := by decide +kernel
theorem dX0_orOf_2 : decode cX0_orOf 2 = .ok (.invokestatic 110, 3) := by decide +kernel
theorem dX0_orOf_5 : decode cX0_orOf 5 = .ok (.iload_n 2, 1) := by decide +kernel
theorem dX0_orOf_6 : decode cX0_orOf 6 = .ok (.invokestatic 110, 3) := by decide +kernel
theorem dX0_orOf_9 : decode cX0_orOf 9 = .ok (.invokevirtual 52, 3) := by decide +kernel
theorem dX0_orOf_12 : decode cX0_orOf 12 = .ok (.invokestatic 110, 3) := by decide +kernel
theorem dX0_orOf_15 : decode cX0_orOf 15 = .ok (.ireturn, 1) := by decide +kernel
theorem dX0_xorOf_0 : decode cX0_xorOf 0 = .ok (.aload_n 0, 1) := by decide +kernel
theorem dX0_xorOf_1 : decode cX0_xorOf 1 = .ok (.aload_n 0, 1) := by decide +kernel
theorem dX0_xorOf_2 : decode cX0_xorOf 2 = .ok (.iload_n 1, 1) := by decide +kernel
theorem dX0_xorOf_3 : decode cX0_xorOf 3 = .ok (.iload_n 2, 1) := by decide +kernel
theorem dX0_xorOf_4 : decode cX0_xorOf 4 = .ok (.invokestatic 110, 3) := by decide +kernel
theorem dX0_xorOf_7 : decode cX0_xorOf 7 = .ok (.invokevirtual 52, 3) := by decide +kernel
theorem dX0_xorOf_10 : decode cX0_xorOf 10 = .ok (.aload_n 0, 1) := by decide +kernel
theorem dX0_xorOf_11 : decode cX0_xorOf 11 = .ok (.iload_n 1, 1) := by decide +kernel
theorem dX0_xorOf_12 : decode cX0_xorOf 12 = .ok (.invokestatic 110, 3) := by decide +kernel
theorem dX0_xorOf_15 : decode cX0_xorOf 15 = .ok (.iload_n 2, 1) := by decide +kernel
theorem dX0_xorOf_16 : decode cX0_xorOf 16 = .ok (.invokevirtual 52, 3) := by decide +kernel
theorem dX0_xorOf_19 : decode cX0_xorOf 19 = .ok (.invokevirtual 55, 3) := by decide +kernel
theorem dX0_xorOf_22 : decode cX0_xorOf 22 = .ok (.ireturn, 1) := by decide +kernel
theorem dX0_ifOf_0 : decode cX0_ifOf 0 = .ok (.aload_n 0, 1) := by decide +kernel
theorem dX0_ifOf_1 : decode cX0_ifOf 1 = .ok (.aload_n 0, 1) := by decide +kernel
theorem dX0_ifOf_2 : decode cX0_ifOf 2 = .ok (.iload_n 1, 1) := by decide +kernel
theorem dX0_ifOf_3 : decode cX0_ifOf 3 = .ok (.iload_n 2, 1) := by decide +kernel
theorem dX0_ifOf_4 : decode cX0_ifOf 4 = .ok (.invokevirtual 52, 3) := by decide +kernel
theorem dX0_ifOf_7 : decode cX0_ifOf 7 = .ok (.aload_n 0, 1) := by decide +kernel
theorem dX0_ifOf_8 : decode cX0_ifOf 8 = .ok (.iload_n 1, 1) := by decide +kernel
theorem dX0_ifOf_9 : decode cX0_ifOf 9 = .ok (.invokestatic 110, 3) := by decide +kernel
theorem dX0_ifOf_12 : decode cX0_ifOf 12 = .ok (.iload_n 3, 1) := by decide +kernel
theorem dX0_ifOf_13 : decode cX0_ifOf 13 = .ok (.invokevirtual 52, 3) := by decide +kernel
theorem dX0_ifOf_16 : decode cX0_ifOf 16 = .ok (.invokevirtual 55, 3) := by decide +kernel
theorem dX0_ifOf_19 : decode cX0_ifOf 19 = .ok (.ireturn, 1) := by decide +kernel
theorem dX0_valueNow_0 : decode cX0_valueNow 0 = .ok (.aload_n 0, 1) := by decide +kernel
theorem dX0_valueNow_1 : decode cX0_valueNow 1 = .ok (.getfield 22, 3) := by decide +kernel
theorem dX0_valueNow_4 : decode cX0_valueNow 4 = .ok (.iload_n 1, 1) := by decide +kernel
theorem dX0_valueNow_5 : decode cX0_valueNow 5 = .ok (.iconst 1, 1) := by decide +kernel
theorem dX0_valueNow_6 : decode cX0_valueNow 6 = .ok (.ishr, 1) := by decide +kernel
theorem dX0_valueNow_7 : decode cX0_valueNow 7 = .ok (.iaload, 1) := by decide +kernel
theorem dX0_valueNow_8 : decode cX0_valueNow 8 = .ok (.iload_n 1, 1) := by decide +kernel
theorem dX0_valueNow_9 : decode cX0_valueNow 9 = .ok (.iconst 1, 1) := by decide +kernel
theorem dX0_valueNow_10 : decode cX0_valueNow 10 = .ok (.iand, 1) := by decide +kernel
theorem dX0_valueNow_11 : decode cX0_valueNow 11 = .ok (.ixor, 1) := by decide +kernel
theorem dX0_valueNow_12 : decode cX0_valueNow 12 = .ok (.ireturn, 1) := by decide +kernel
theorem dX0_settle_0 : decode cX0_settle 0 = .ok (.aload_n 0, 1) := by decide +kernel
theorem dX0_settle_1 : decode cX0_settle 1 = .ok (.getfield 41, 3) := by decide +kernel
theorem dX0_settle_4 : decode cX0_settle 4 = .ok (.istore_n 2, 1) := by decide +kernel
theorem dX0_settle_5 : decode cX0_settle 5 = .ok (.iload_n 2, 1) := by decide +kernel
theorem dX0_settle_6 : decode cX0_settle 6 = .ok (.iload_n 1, 1) := by decide +kernel
theorem dX0_settle_7 : decode cX0_settle 7 = .ok (.if_icmp .gt 44, 3) := by decide +kernel
theorem dX0_settle_10 : decode cX0_settle 10 = .ok (.aload_n 0, 1) := by decide +kernel
theorem dX0_settle_11 : decode cX0_settle 11 = .ok (.iload_n 2, 1) := by decide +kernel
theorem dX0_settle_12 : decode cX0_settle 12 = .ok (.invokevirtual 100, 3) := by decide +kernel
theorem dX0_settle_15 : decode cX0_settle 15 = .ok (.ifCond .eq 30, 3) := by decide +kernel
theorem dX0_settle_18 : decode cX0_settle 18 = .ok (.aload_n 0, 1) := by decide +kernel
theorem dX0_settle_19 : decode cX0_settle 19 = .ok (.getfield 22, 3) := by decide +kernel
theorem dX0_settle_22 : decode cX0_settle 22 = .ok (.iload_n 2, 1) := by decide +kernel
theorem dX0_settle_23 : decode cX0_settle 23 = .ok (.aload_n 0, 1) := by decide +kernel
theorem dX0_settle_24 : decode cX0_settle 24 = .ok (.aload_n 0, 1) := by decide +kernel
theorem dX0_settle_25 : decode cX0_settle 25 = .ok (.getfield 9, 3) := by decide +kernel
theorem dX0_settle_28 : decode cX0_settle 28 = .ok (.iload_n 2, 1) := by decide +kernel
theorem dX0_settle_29 : decode cX0_settle 29 = .ok (.iaload, 1) := by decide +kernel
theorem dX0_settle_30 : decode cX0_settle 30 = .ok (.invokevirtual 85, 3) := by decide +kernel
theorem dX0_settle_33 : decode cX0_settle 33 = .ok (.aload_n 0, 1) := by decide +kernel
theorem dX0_settle_34 : decode cX0_settle 34 = .ok (.aload_n 0, 1) := by decide +kernel
theorem dX0_settle_35 : decode cX0_settle 35 = .ok (.getfield 13, 3) := by decide +kernel
theorem dX0_settle_38 : decode cX0_settle 38 = .ok (.iload_n 2, 1) := by decide +kernel
theorem dX0_settle_39 : decode cX0_settle 39 = .ok (.iaload, 1) := by decide +kernel
theorem dX0_settle_40 : decode cX0_settle 40 = .ok (.invokevirtual 85, 3) := by decide +kernel
theorem dX0_settle_43 : decode cX0_settle 43 = .ok (.iand, 1) := by decide +kernel
theorem dX0_settle_44 : decode cX0_settle 44 = .ok (.iastore, 1) := by decide +kernel
theorem dX0_settle_45 : decode cX0_settle 45 = .ok (.iinc 2 1, 3) := by decide +kernel
theorem dX0_settle_48 : decode cX0_settle 48 = .ok (.goto (-43), 3) := by decide +kernel
theorem dX0_settle_51 : decode cX0_settle 51 = .ok (.aload_n 0, 1) := by decide +kernel
theorem dX0_settle_52 : decode cX0_settle 52 = .ok (.aload_n 0, 1) := by decide +kernel
theorem dX0_settle_53 : decode cX0_settle 53 = .ok (.getfield 41, 3) := by decide +kernel
theorem dX0_settle_56 : decode cX0_settle 56 = .ok (.iload_n 1, 1) := by decide +kernel
theorem dX0_settle_57 : decode cX0_settle 57 = .ok (.iconst 1, 1) := by decide +kernel
theorem dX0_settle_58 : decode cX0_settle 58 = .ok (.iadd, 1) := by decide +kernel
theorem dX0_settle_59 : decode cX0_settle 59 = .ok (.invokestatic 113, 3) := by decide +kernel
theorem dX0_settle_62 : decode cX0_settle 62 = .ok (.putfield 41, 3) := by decide +kernel
theorem dX0_settle_65 : decode cX0_settle 65 = .ok (.return_, 1) := by decide +kernel
theorem dX0_markUnder_0 : decode cX0_markUnder 0 = .ok (.iconst 0, 1) := by decide +kernel
theorem dX0_markUnder_1 : decode cX0_markUnder 1 = .ok (.istore_n 2, 1) := by decide +kernel
theorem dX0_markUnder_2 : decode cX0_markUnder 2 = .ok (.iload_n 2, 1) := by decide +kernel
theorem dX0_markUnder_3 : decode cX0_markUnder 3 = .ok (.iload_n 1, 1) := by decide +kernel
theorem dX0_markUnder_4 : decode cX0_markUnder 4 = .ok (.if_icmp .ge 16, 3) := by decide +kernel
theorem dX0_markUnder_7 : decode cX0_markUnder 7 = .ok (.aload_n 0, 1) := by decide +kernel
theorem dX0_markUnder_8 : decode cX0_markUnder 8 = .ok (.getfield 25, 3) := by decide +kernel
theorem dX0_markUnder_11 : decode cX0_markUnder 11 = .ok (.iload_n 2, 1) := by decide +kernel
theorem dX0_markUnder_12 : decode cX0_markUnder 12 = .ok (.iconst 0, 1) := by decide +kernel
theorem dX0_markUnder_13 : decode cX0_markUnder 13 = .ok (.iastore, 1) := by decide +kernel
theorem dX0_markUnder_14 : decode cX0_markUnder 14 = .ok (.iinc 2 1, 3) := by decide +kernel
theorem dX0_markUnder_17 : decode cX0_markUnder 17 = .ok (.goto (-15), 3) := by decide +kernel
theorem dX0_markUnder_20 : decode cX0_markUnder 20 = .ok (.aload_n 0, 1) := by decide +kernel
theorem dX0_markUnder_21 : decode cX0_markUnder 21 = .ok (.getfield 25, 3) := by decide +kernel
theorem dX0_markUnder_24 : decode cX0_markUnder 24 = .ok (.iload_n 1, 1) := by decide +kernel
theorem dX0_markUnder_25 : decode cX0_markUnder 25 = .ok (.iconst 1, 1) := by decide +kernel
theorem dX0_markUnder_26 : decode cX0_markUnder 26 = .ok (.iastore, 1) := by decide +kernel
theorem dX0_markUnder_27 : decode cX0_markUnder 27 = .ok (.iload_n 1, 1) := by decide +kernel
theorem dX0_markUnder_28 : decode cX0_markUnder 28 = .ok (.istore_n 2, 1) := by decide +kernel
theorem dX0_markUnder_29 : decode cX0_markUnder 29 = .ok (.iload_n 2, 1) := by decide +kernel
theorem dX0_markUnder_30 : decode cX0_markUnder 30 = .ok (.ifCond .le 55, 3) := by decide +kernel
theorem dX0_markUnder_33 : decode cX0_markUnder 33 = .ok (.aload_n 0, 1) := by decide +kernel
theorem dX0_markUnder_34 : decode cX0_markUnder 34 = .ok (.getfield 25, 3) := by decide +kernel
theorem dX0_markUnder_37 : decode cX0_markUnder 37 = .ok (.iload_n 2, 1) := by decide +kernel
theorem dX0_markUnder_38 : decode cX0_markUnder 38 = .ok (.iaload, 1) := by decide +kernel
theorem dX0_markUnder_39 : decode cX0_markUnder 39 = .ok (.iconst 1, 1) := by decide +kernel
theorem dX0_markUnder_40 : decode cX0_markUnder 40 = .ok (.if_icmp .ne 39, 3) := by decide +kernel
theorem dX0_markUnder_43 : decode cX0_markUnder 43 = .ok (.aload_n 0, 1) := by decide +kernel
theorem dX0_markUnder_44 : decode cX0_markUnder 44 = .ok (.iload_n 2, 1) := by decide +kernel
theorem dX0_markUnder_45 : decode cX0_markUnder 45 = .ok (.invokevirtual 100, 3) := by decide +kernel
theorem dX0_markUnder_48 : decode cX0_markUnder 48 = .ok (.ifCond .eq 31, 3) := by decide +kernel
theorem dX0_markUnder_51 : decode cX0_markUnder 51 = .ok (.aload_n 0, 1) := by decide +kernel
theorem dX0_markUnder_52 : decode cX0_markUnder 52 = .ok (.getfield 25, 3) := by decide +kernel
theorem dX0_markUnder_55 : decode cX0_markUnder 55 = .ok (.aload_n 0, 1) := by decide +kernel
theorem dX0_markUnder_56 : decode cX0_markUnder 56 = .ok (.getfield 9, 3) := by decide +kernel
theorem dX0_markUnder_59 : decode cX0_markUnder 59 = .ok (.iload_n 2, 1) := by decide +kernel
theorem dX0_markUnder_60 : decode cX0_markUnder 60 = .ok (.iaload, 1) := by decide +kernel
theorem dX0_markUnder_61 : decode cX0_markUnder 61 = .ok (.iconst 1, 1) := by decide +kernel
theorem dX0_markUnder_62 : decode cX0_markUnder 62 = .ok (.ishr, 1) := by decide +kernel
theorem dX0_markUnder_63 : decode cX0_markUnder 63 = .ok (.iconst 1, 1) := by decide +kernel
theorem dX0_markUnder_64 : decode cX0_markUnder 64 = .ok (.iastore, 1) := by decide +kernel
theorem dX0_markUnder_65 : decode cX0_markUnder 65 = .ok (.aload_n 0, 1) := by decide +kernel
theorem dX0_markUnder_66 : decode cX0_markUnder 66 = .ok (.getfield 25, 3) := by decide +kernel
theorem dX0_markUnder_69 : decode cX0_markUnder 69 = .ok (.aload_n 0, 1) := by decide +kernel
theorem dX0_markUnder_70 : decode cX0_markUnder 70 = .ok (.getfield 13, 3) := by decide +kernel
theorem dX0_markUnder_73 : decode cX0_markUnder 73 = .ok (.iload_n 2, 1) := by decide +kernel
theorem dX0_markUnder_74 : decode cX0_markUnder 74 = .ok (.iaload, 1) := by decide +kernel
theorem dX0_markUnder_75 : decode cX0_markUnder 75 = .ok (.iconst 1, 1) := by decide +kernel
theorem dX0_markUnder_76 : decode cX0_markUnder 76 = .ok (.ishr, 1) := by decide +kernel
theorem dX0_markUnder_77 : decode cX0_markUnder 77 = .ok (.iconst 1, 1) := by decide +kernel
theorem dX0_markUnder_78 : decode cX0_markUnder 78 = .ok (.iastore, 1) := by decide +kernel
theorem dX0_markUnder_79 : decode cX0_markUnder 79 = .ok (.iinc 2 (-1), 3) := by decide +kernel
theorem dX0_markUnder_82 : decode cX0_markUnder 82 = .ok (.goto (-53), 3) := by decide +kernel
theorem dX0_markUnder_85 : decode cX0_markUnder 85 = .ok (.return_, 1) := by decide +kernel
theorem dJ7_copyOf_0 : decode cJ7_copyOf 0 = .ok (.iload_n 1, 1) := by decide +kernel
theorem dJ7_copyOf_1 : decode cJ7_copyOf 1 = .ok (.aload_n 0, 1) := by decide +kernel
theorem dJ7_copyOf_2 : decode cJ7_copyOf 2 = .ok (.arraylength, 1) := by decide +kernel
theorem dJ7_copyOf_3 : decode cJ7_copyOf 3 = .ok (.if_icmp .ne 11, 3) := by decide +kernel
theorem dJ7_copyOf_6 : decode cJ7_copyOf 6 = .ok (.aload_n 0, 1) := by decide +kernel
theorem dJ7_copyOf_7 : decode cJ7_copyOf 7 = .ok (.invokevirtual 316, 3) := by decide +kernel
theorem dJ7_copyOf_10 : decode cJ7_copyOf 10 = .ok (.checkcast 317, 3) := by decide +kernel
theorem dJ7_copyOf_13 : decode cJ7_copyOf 13 = .ok (.areturn, 1) := by decide +kernel
theorem dJ7_copyOf_14 : decode cJ7_copyOf 14 = .ok (.iload_n 1, 1) := by decide +kernel
theorem dJ7_copyOf_15 : decode cJ7_copyOf 15 = .ok (.newarray .int, 2) := by decide +kernel
theorem dJ7_copyOf_17 : decode cJ7_copyOf 17 = .ok (.astore_n 2, 1) := by decide +kernel
theorem dJ7_copyOf_18 : decode cJ7_copyOf 18 = .ok (.aload_n 0, 1) := by decide +kernel
theorem dJ7_copyOf_19 : decode cJ7_copyOf 19 = .ok (.iconst 0, 1) := by decide +kernel
theorem dJ7_copyOf_20 : decode cJ7_copyOf 20 = .ok (.aload_n 2, 1) := by decide +kernel
theorem dJ7_copyOf_21 : decode cJ7_copyOf 21 = .ok (.iconst 0, 1) := by decide +kernel
theorem dJ7_copyOf_22 : decode cJ7_copyOf 22 = .ok (.aload_n 0, 1) := by decide +kernel
theorem dJ7_copyOf_23 : decode cJ7_copyOf 23 = .ok (.arraylength, 1) := by decide +kernel
theorem dJ7_copyOf_24 : decode cJ7_copyOf 24 = .ok (.iload_n 1, 1) := by decide +kernel
theorem dJ7_copyOf_25 : decode cJ7_copyOf 25 = .ok (.invokestatic 304, 3) := by decide +kernel
theorem dJ7_copyOf_28 : decode cJ7_copyOf 28 = .ok (.invokestatic 150, 3) := by decide +kernel
theorem dJ7_copyOf_31 : decode cJ7_copyOf 31 = .ok (.aload_n 2, 1) := by decide +kernel
theorem dJ7_copyOf_32 : decode cJ7_copyOf 32 = .ok (.areturn, 1) := by decide +kernel
end
section
theorem dX1_init_0 : decode cX1_init 0 = .ok (.aload_n 0, 1) := by decide +kernel
theorem dX1_init_1 : decode cX1_init 1 = .ok (.invokespecial 1, 3) := by decide +kernel
theorem dX1_init_4 : decode cX1_init 4 = .ok (.aload_n 0, 1) := by decide +kernel
theorem dX1_init_5 : decode cX1_init 5 = .ok (.iconst 1, 1) := by decide +kernel
theorem dX1_init_6 : decode cX1_init 6 = .ok (.putfield 7, 3) := by decide +kernel
theorem dX1_init_9 : decode cX1_init 9 = .ok (.aload_n 0, 1) := by decide +kernel
theorem dX1_init_10 : decode cX1_init 10 = .ok (.sipush 20000, 3) := by decide +kernel
theorem dX1_init_13 : decode cX1_init 13 = .ok (.newarray .byte, 2) := by decide +kernel
theorem dX1_init_15 : decode cX1_init 15 = .ok (.putfield 13, 3) := by decide +kernel
theorem dX1_init_18 : decode cX1_init 18 = .ok (.aload_n 0, 1) := by decide +kernel
theorem dX1_init_19 : decode cX1_init 19 = .ok (.sipush 20000, 3) := by decide +kernel
theorem dX1_init_22 : decode cX1_init 22 = .ok (.newarray .int, 2) := by decide +kernel
theorem dX1_init_24 : decode cX1_init 24 = .ok (.putfield 17, 3) := by decide +kernel
theorem dX1_init_27 : decode cX1_init 27 = .ok (.aload_n 0, 1) := by decide +kernel
theorem dX1_init_28 : decode cX1_init 28 = .ok (.sipush 20000, 3) := by decide +kernel
theorem dX1_init_31 : decode cX1_init 31 = .ok (.newarray .int, 2) := by decide +kernel
theorem dX1_init_33 : decode cX1_init 33 = .ok (.putfield 21, 3) := by decide +kernel
theorem dX1_init_36 : decode cX1_init 36 = .ok (.aload_n 0, 1) := by decide +kernel
theorem dX1_init_37 : decode cX1_init 37 = .ok (.sipush 20000, 3) := by decide +kernel
theorem dX1_init_40 : decode cX1_init 40 = .ok (.newarray .boolean, 2) := by decide +kernel
theorem dX1_init_42 : decode cX1_init 42 = .ok (.putfield 24, 3) := by decide +kernel
theorem dX1_init_45 : decode cX1_init 45 = .ok (.aload_n 0, 1) := by decide +kernel
theorem dX1_init_46 : decode cX1_init 46 = .ok (.sipush 20000, 3) := by decide +kernel
theorem dX1_init_49 : decode cX1_init 49 = .ok (.newarray .int, 2) := by decide +kernel
theorem dX1_init_51 : decode cX1_init 51 = .ok (.putfield 28, 3) := by decide +kernel
theorem dX1_init_54 : decode cX1_init 54 = .ok (.return_, 1) := by decide +kernel
theorem dX1_thrown_0 : decode cX1_thrown 0 = .ok (.aload_n 0, 1) := by decide +kernel
theorem dX1_thrown_1 : decode cX1_thrown 1 = .ok (.getfield 31, 3) := by decide +kernel
theorem dX1_thrown_4 : decode cX1_thrown 4 = .ok (.ireturn, 1) := by decide +kernel
theorem dX1_isLiteral_0 : decode cX1_isLiteral 0 = .ok (.iload_n 1, 1) := by decide +kernel
theorem dX1_isLiteral_1 : decode cX1_isLiteral 1 = .ok (.ifCond .lt 17, 3) := by decide +kernel
theorem dX1_isLiteral_4 : decode cX1_isLiteral 4 = .ok (.iload_n 1, 1) := by decide +kernel
theorem dX1_isLiteral_5 : decode cX1_isLiteral 5 = .ok (.iconst 2, 1) := by decide +kernel
theorem dX1_isLiteral_6 : decode cX1_isLiteral 6 = .ok (.aload_n 0, 1) := by decide +kernel
theorem dX1_isLiteral_7 : decode cX1_isLiteral 7 = .ok (.getfield 7, 3) := by decide +kernel
theorem dX1_isLiteral_10 : decode cX1_isLiteral 10 = .ok (.imul, 1) := by decide +kernel
theorem dX1_isLiteral_11 : decode cX1_isLiteral 11 = .ok (.if_icmp .ge 7, 3) := by decide +kernel
theorem dX1_isLiteral_14 : decode cX1_isLiteral 14 = .ok (.iconst 1, 1) := by decide +kernel
theorem dX1_isLiteral_15 : decode cX1_isLiteral 15 = .ok (.goto 4, 3) := by decide +kernel
theorem dX1_isLiteral_18 : decode cX1_isLiteral 18 = .ok (.iconst 0, 1) := by decide +kernel
theorem dX1_isLiteral_19 : decode cX1_isLiteral 19 = .ok (.ireturn, 1) := by decide +kernel
theorem dX1_isInput_0 : decode cX1_isInput 0 = .ok (.iload_n 1, 1) := by decide +kernel
theorem dX1_isInput_1 : decode cX1_isInput 1 = .ok (.ifCond .lt 25, 3) := by decide +kernel
theorem dX1_isInput_4 : decode cX1_isInput 4 = .ok (.iload_n 1, 1) := by decide +kernel
theorem dX1_isInput_5 : decode cX1_isInput 5 = .ok (.aload_n 0, 1) := by decide +kernel
theorem dX1_isInput_6 : decode cX1_isInput 6 = .ok (.getfield 7, 3) := by decide +kernel
theorem dX1_isInput_9 : decode cX1_isInput 9 = .ok (.if_icmp .ge 17, 3) := by decide +kernel
theorem dX1_isInput_12 : decode cX1_isInput 12 = .ok (.aload_n 0, 1) := by decide +kernel
theorem dX1_isInput_13 : decode cX1_isInput 13 = .ok (.getfield 13, 3) := by decide +kernel
theorem dX1_isInput_16 : decode cX1_isInput 16 = .ok (.iload_n 1, 1) := by decide +kernel
theorem dX1_isInput_17 : decode cX1_isInput 17 = .ok (.baload, 1) := by decide +kernel
theorem dX1_isInput_18 : decode cX1_isInput 18 = .ok (.iconst 1, 1) := by decide +kernel
theorem dX1_isInput_19 : decode cX1_isInput 19 = .ok (.if_icmp .ne 7, 3) := by decide +kernel
theorem dX1_isInput_22 : decode cX1_isInput 22 = .ok (.iconst 1, 1) := by decide +kernel
theorem dX1_isInput_23 : decode cX1_isInput 23 = .ok (.goto 4, 3) := by decide +kernel
theorem dX1_isInput_26 : decode cX1_isInput 26 = .ok (.iconst 0, 1) := by decide +kernel
theorem dX1_isInput_27 : decode cX1_isInput 27 = .ok (.ireturn, 1) := by decide +kernel
theorem dX1_add_0 : decode cX1_add 0 = .ok (.aload_n 0, 1) := by decide +kernel
theorem dX1_add_1 : decode cX1_add 1 = .ok (.getfield 7, 3) := by decide +kernel
theorem dX1_add_4 : decode cX1_add 4 = .ok (.sipush 20000, 3) := by decide +kernel
theorem dX1_add_7 : decode cX1_add 7 = .ok (.if_icmp .ne 10, 3) := by decide +kernel
theorem dX1_add_10 : decode cX1_add 10 = .ok (.aload_n 0, 1) := by decide +kernel
theorem dX1_add_11 : decode cX1_add 11 = .ok (.iconst 2, 1) := by decide +kernel
theorem dX1_add_12 : decode cX1_add 12 = .ok (.putfield 31, 3) := by decide +kernel
theorem dX1_add_15 : decode cX1_add 15 = .ok (.iconst 0, 1) := by decide +kernel
theorem dX1_add_16 : decode cX1_add 16 = .ok (.ireturn, 1) := by decide +kernel
theorem dX1_add_17 : decode cX1_add 17 = .ok (.aload_n 0, 1) := by decide +kernel
theorem dX1_add_18 : decode cX1_add 18 = .ok (.getfield 13, 3) := by decide +kernel
theorem dX1_add_21 : decode cX1_add 21 = .ok (.aload_n 0, 1) := by decide +kernel
theorem dX1_add_22 : decode cX1_add 22 = .ok (.getfield 7, 3) := by decide +kernel
theorem dX1_add_25 : decode cX1_add 25 = .ok (.iload_n 1, 1) := by decide +kernel
theorem dX1_add_26 : decode cX1_add 26 = .ok (.i2b, 1) := by decide +kernel
theorem dX1_add_27 : decode cX1_add 27 = .ok (.bastore, 1) := by decide +kernel
theorem dX1_add_28 : decode cX1_add 28 = .ok (.aload_n 0, 1) := by decide +kernel
theorem dX1_add_29 : decode cX1_add 29 = .ok (.getfield 17, 3) := by decide +kernel
theorem dX1_add_32 : decode cX1_add 32 = .ok (.aload_n 0, 1) := by decide +kernel
theorem dX1_add_33 : decode cX1_add 33 = .ok (.getfield 7, 3) := by decide +kernel
theorem dX1_add_36 : decode cX1_add 36 = .ok (.iload_n 2, 1) := by decide +kernel
theorem dX1_add_37 : decode cX1_add 37 = .ok (.iastore, 1) := by decide +kernel
theorem dX1_add_38 : decode cX1_add 38 = .ok (.aload_n 0, 1) := by decide +kernel
theorem dX1_add_39 : decode cX1_add 39 = .ok (.getfield 21, 3) := by decide +kernel
theorem dX1_add_42 : decode cX1_add 42 = .ok (.aload_n 0, 1) := by decide +kernel
theorem dX1_add_43 : decode cX1_add 43 = .ok (.getfield 7, 3) := by decide +kernel
theorem dX1_add_46 : decode cX1_add 46 = .ok (.iload_n 3, 1) := by decide +kernel
theorem dX1_add_47 : decode cX1_add 47 = .ok (.iastore, 1) := by decide +kernel
theorem dX1_add_48 : decode cX1_add 48 = .ok (.aload_n 0, 1) := by decide +kernel
theorem dX1_add_49 : decode cX1_add 49 = .ok (.getfield 24, 3) := by decide +kernel
theorem dX1_add_52 : decode cX1_add 52 = .ok (.aload_n 0, 1) := by decide +kernel
theorem dX1_add_53 : decode cX1_add 53 = .ok (.getfield 7, 3) := by decide +kernel
theorem dX1_add_56 : decode cX1_add 56 = .ok (.iconst 0, 1) := by decide +kernel
theorem dX1_add_57 : decode cX1_add 57 = .ok (.bastore, 1) := by decide +kernel
theorem dX1_add_58 : decode cX1_add 58 = .ok (.aload_n 0, 1) := by decide +kernel
theorem dX1_add_59 : decode cX1_add 59 = .ok (.dup, 1) := by decide +kernel
theorem dX1_add_60 : decode cX1_add 60 = .ok (.getfield 7, 3) := by decide +kernel
theorem dX1_add_63 : decode cX1_add 63 = .ok (.iconst 1, 1) := by decide +kernel
theorem dX1_add_64 : decode cX1_add 64 = .ok (.iadd, 1) := by decide +kernel
theorem dX1_add_65 : decode cX1_add 65 = .ok (.putfield 7, 3) := by decide +kernel
theorem dX1_add_68 : decode cX1_add 68 = .ok (.aload_n 0, 1) := by decide +kernel
theorem dX1_add_69 : decode cX1_add 69 = .ok (.getfield 7, 3) := by decide +kernel
theorem dX1_add_72 : decode cX1_add 72 = .ok (.iconst 1, 1) := by decide +kernel
theorem dX1_add_73 : decode cX1_add 73 = .ok (.isub, 1) := by decide +kernel
theorem dX1_add_74 : decode cX1_add 74 = .ok (.ireturn, 1) := by decide +kernel
theorem dX1_input_0 : decode cX1_input 0 = .ok (.aload_n 0, 1) := by decide +kernel
theorem dX1_input_1 : decode cX1_input 1 = .ok (.iconst 0, 1) := by decide +kernel
theorem dX1_input_2 : decode cX1_input 2 = .ok (.putfield 31, 3) := by decide +kernel
theorem dX1_input_5 : decode cX1_input 5 = .ok (.aload_n 0, 1) := by decide +kernel
theorem dX1_input_6 : decode cX1_input 6 = .ok (.iconst 1, 1) := by decide +kernel
theorem dX1_input_7 : decode cX1_input 7 = .ok (.iconst (-1), 1) := by decide +kernel
theorem dX1_input_8 : decode cX1_input 8 = .ok (.iconst (-1), 1) := by decide +kernel
theorem dX1_input_9 : decode cX1_input 9 = .ok (.invokevirtual 34, 3) := by decide +kernel
theorem dX1_input_12 : decode cX1_input 12 = .ok (.istore_n 1, 1) := by decide +kernel
theorem dX1_input_13 : decode cX1_input 13 = .ok (.aload_n 0, 1) := by decide +kernel
theorem dX1_input_14 : decode cX1_input 14 = .ok (.aload_n 0, 1) := by decide +kernel
theorem dX1_input_15 : decode cX1_input 15 = .ok (.getfield 31, 3) := by decide +kernel
theorem dX1_input_18 : decode cX1_input 18 = .ok (.ifCond .le 7, 3) := by decide +kernel
theorem dX1_input_21 : decode cX1_input 21 = .ok (.iconst 1, 1) := by decide +kernel
theorem dX1_input_22 : decode cX1_input 22 = .ok (.goto 4, 3) := by decide +kernel
theorem dX1_input_25 : decode cX1_input 25 = .ok (.iconst 0, 1) := by decide +kernel
theorem dX1_input_26 : decode cX1_input 26 = .ok (.putfield 31, 3) := by decide +kernel
theorem dX1_input_29 : decode cX1_input 29 = .ok (.aload_n 0, 1) := by decide +kernel
theorem dX1_input_30 : decode cX1_input 30 = .ok (.dup, 1) := by decide +kernel
theorem dX1_input_31 : decode cX1_input 31 = .ok (.getfield 38, 3) := by decide +kernel
theorem dX1_input_34 : decode cX1_input 34 = .ok (.aload_n 0, 1) := by decide +kernel
theorem dX1_input_35 : decode cX1_input 35 = .ok (.getfield 31, 3) := by decide +kernel
theorem dX1_input_38 : decode cX1_input 38 = .ok (.ifCond .le 7, 3) := by decide +kernel
theorem dX1_input_41 : decode cX1_input 41 = .ok (.iconst 0, 1) := by decide +kernel
theorem dX1_input_42 : decode cX1_input 42 = .ok (.goto 4, 3) := by decide +kernel
theorem dX1_input_45 : decode cX1_input 45 = .ok (.iconst 1, 1) := by decide +kernel
theorem dX1_input_46 : decode cX1_input 46 = .ok (.iadd, 1) := by decide +kernel
theorem dX1_input_47 : decode cX1_input 47 = .ok (.putfield 38, 3) := by decide +kernel
theorem dX1_input_50 : decode cX1_input 50 = .ok (.aload_n 0, 1) := by decide +kernel
theorem dX1_input_51 : decode cX1_input 51 = .ok (.getfield 31, 3) := by decide +kernel
theorem dX1_input_54 : decode cX1_input 54 = .ok (.ifCond .le 7, 3) := by decide +kernel
theorem dX1_input_57 : decode cX1_input 57 = .ok (.iconst 0, 1) := by decide +kernel
theorem dX1_input_58 : decode cX1_input 58 = .ok (.goto 6, 3) := by decide +kernel
theorem dX1_input_61 : decode cX1_input 61 = .ok (.iconst 2, 1) := by decide +kernel
theorem dX1_input_62 : decode cX1_input 62 = .ok (.iload_n 1, 1) := by decide +kernel
theorem dX1_input_63 : decode cX1_input 63 = .ok (.imul, 1) := by decide +kernel
theorem dX1_input_64 : decode cX1_input 64 = .ok (.ireturn, 1) := by decide +kernel
theorem dX1_isGate_0 : decode cX1_isGate 0 = .ok (.aload_n 0, 1) := by decide +kernel
theorem dX1_isGate_1 : decode cX1_isGate 1 = .ok (.getfield 13, 3) := by decide +kernel
theorem dX1_isGate_4 : decode cX1_isGate 4 = .ok (.iload_n 1, 1) := by decide +kernel
theorem dX1_isGate_5 : decode cX1_isGate 5 = .ok (.iconst 1, 1) := by decide +kernel
theorem dX1_isGate_6 : decode cX1_isGate 6 = .ok (.ishr, 1) := by decide +kernel
theorem dX1_isGate_7 : decode cX1_isGate 7 = .ok (.baload, 1) := by decide +kernel
theorem dX1_isGate_8 : decode cX1_isGate 8 = .ok (.iconst 2, 1) := by decide +kernel
theorem dX1_isGate_9 : decode cX1_isGate 9 = .ok (.if_icmp .ne 23, 3) := by decide +kernel
theorem dX1_isGate_12 : decode cX1_isGate 12 = .ok (.iload_n 1, 1) := by decide +kernel
theorem dX1_isGate_13 : decode cX1_isGate 13 = .ok (.iconst 1, 1) := by decide +kernel
theorem dX1_isGate_14 : decode cX1_isGate 14 = .ok (.iand, 1) := by decide +kernel
theorem dX1_isGate_15 : decode cX1_isGate 15 = .ok (.iconst 1, 1) := by decide +kernel
theorem dX1_isGate_16 : decode cX1_isGate 16 = .ok (.if_icmp .ne 7, 3) := by decide +kernel
theorem dX1_isGate_19 : decode cX1_isGate 19 = .ok (.iconst 1, 1) := by decide +kernel
theorem dX1_isGate_20 : decode cX1_isGate 20 = .ok (.goto 4, 3) := by decide +kernel
theorem dX1_isGate_23 : decode cX1_isGate 23 = .ok (.iconst 0, 1) := by decide +kernel
theorem dX1_isGate_24 : decode cX1_isGate 24 = .ok (.iload_n 2, 1) := by decide +kernel
theorem dX1_isGate_25 : decode cX1_isGate 25 = .ok (.if_icmp .ne 7, 3) := by decide +kernel
theorem dX1_isGate_28 : decode cX1_isGate 28 = .ok (.iconst 1, 1) := by decide +kernel
theorem dX1_isGate_29 : decode cX1_isGate 29 = .ok (.goto 4, 3) := by decide +kernel
theorem dX1_isGate_32 : decode cX1_isGate 32 = .ok (.iconst 0, 1) := by decide +kernel
theorem dX1_isGate_33 : decode cX1_isGate 33 = .ok (.ireturn, 1) := by decide +kernel
theorem dX1_has_0 : decode cX1_has 0 = .ok (.aload_n 0, 1) := by decide +kernel
theorem dX1_has_1 : decode cX1_has 1 = .ok (.getfield 17, 3) := by decide +kernel
theorem dX1_has_4 : decode cX1_has 4 = .ok (.iload_n 1, 1) := by decide +kernel
theorem dX1_has_5 : decode cX1_has 5 = .ok (.iconst 1, 1) := by decide +kernel
theorem dX1_has_6 : decode cX1_has 6 = .ok (.ishr, 1) := by decide +kernel
theorem dX1_has_7 : decode cX1_has 7 = .ok (.iaload, 1) := by decide +kernel
theorem dX1_has_8 : decode cX1_has 8 = .ok (.iload_n 2, 1) := by decide +kernel
theorem dX1_has_9 : decode cX1_has 9 = .ok (.if_icmp .eq 15, 3) := by decide +kernel
theorem dX1_has_12 : decode cX1_has 12 = .ok (.aload_n 0, 1) := by decide +kernel
theorem dX1_has_13 : decode cX1_has 13 = .ok (.getfield 21, 3) := by decide +kernel
theorem dX1_has_16 : decode cX1_has 16 = .ok (.iload_n 1, 1) := by decide +kernel
theorem dX1_has_17 : decode cX1_has 17 = .ok (.iconst 1, 1) := by decide +kernel
theorem dX1_has_18 : decode cX1_has 18 = .ok (.ishr, 1) := by decide +kernel
theorem dX1_has_19 : decode cX1_has 19 = .ok (.iaload, 1) := by decide +kernel
theorem dX1_has_20 : decode cX1_has 20 = .ok (.iload_n 2, 1) := by decide +kernel
theorem dX1_has_21 : decode cX1_has 21 = .ok (.if_icmp .ne 7, 3) := by decide +kernel
theorem dX1_has_24 : decode cX1_has 24 = .ok (.iconst 1, 1) := by decide +kernel
theorem dX1_has_25 : decode cX1_has 25 = .ok (.goto 4, 3) := by decide +kernel
theorem dX1_has_28 : decode cX1_has 28 = .ok (.iconst 0, 1) := by decide +kernel
theorem dX1_has_29 : decode cX1_has 29 = .ok (.ireturn, 1) := by decide +kernel
theorem dX1_beside_0 : decode cX1_beside 0 = .ok (.aload_n 0, 1) := by decide +kernel
theorem dX1_beside_1 : decode cX1_beside 1 = .ok (.getfield 17, 3) := by decide +kernel
theorem dX1_beside_4 : decode cX1_beside 4 = .ok (.iload_n 1, 1) := by decide +kernel
theorem dX1_beside_5 : decode cX1_beside 5 = .ok (.iconst 1, 1) := by decide +kernel
theorem dX1_beside_6 : decode cX1_beside 6 = .ok (.ishr, 1) := by decide +kernel
theorem dX1_beside_7 : decode cX1_beside 7 = .ok (.iaload, 1) := by decide +kernel
theorem dX1_beside_8 : decode cX1_beside 8 = .ok (.iload_n 2, 1) := by decide +kernel
theorem dX1_beside_9 : decode cX1_beside 9 = .ok (.if_icmp .ne 14, 3) := by decide +kernel
theorem dX1_beside_12 : decode cX1_beside 12 = .ok (.aload_n 0, 1) := by decide +kernel
theorem dX1_beside_13 : decode cX1_beside 13 = .ok (.getfield 21, 3) := by decide +kernel
theorem dX1_beside_16 : decode cX1_beside 16 = .ok (.iload_n 1, 1) := by decide +kernel
theorem dX1_beside_17 : decode cX1_beside 17 = .ok (.iconst 1, 1) := by decide +kernel
theorem dX1_beside_18 : decode cX1_beside 18 = .ok (.ishr, 1) := by decide +kernel
theorem dX1_beside_19 : decode cX1_beside 19 = .ok (.iaload, 1) := by decide +kernel
theorem dX1_beside_20 : decode cX1_beside 20 = .ok (.goto 11, 3) := by decide +kernel
theorem dX1_beside_23 : decode cX1_beside 23 = .ok (.aload_n 0, 1) := by decide +kernel
theorem dX1_beside_24 : decode cX1_beside 24 = .ok (.getfield 17, 3) := by decide +kernel
theorem dX1_beside_27 : decode cX1_beside 27 = .ok (.iload_n 1, 1) := by decide +kernel
theorem dX1_beside_28 : decode cX1_beside 28 = .ok (.iconst 1, 1) := by decide +kernel
theorem dX1_beside_29 : decode cX1_beside 29 = .ok (.ishr, 1) := by decide +kernel
theorem dX1_beside_30 : decode cX1_beside 30 = .ok (.iaload, 1) := by decide +kernel
theorem dX1_beside_31 : decode cX1_beside 31 = .ok (.ireturn, 1) := by decide +kernel
theorem dX1_rule_0 : decode cX1_rule 0 = .ok (.iload_n 1, 1) := by decide +kernel
theorem dX1_rule_1 : decode cX1_rule 1 = .ok (.tableswitch 164 0 6 #[43, 53, 64, 75, 88, 112, 138], 43) := by decide +kernel
theorem dX1_rule_44 : decode cX1_rule 44 = .ok (.iload_n 2, 1) := by decide +kernel
theorem dX1_rule_45 : decode cX1_rule 45 = .ok (.ifCond .ne 7, 3) := by decide +kernel
theorem dX1_rule_48 : decode cX1_rule 48 = .ok (.iconst 0, 1) := by decide +kernel
theorem dX1_rule_49 : decode cX1_rule 49 = .ok (.goto 4, 3) := by decide +kernel
theorem dX1_rule_52 : decode cX1_rule 52 = .ok (.iconst (-1), 1) := by decide +kernel
theorem dX1_rule_53 : decode cX1_rule 53 = .ok (.ireturn, 1) := by decide +kernel
theorem dX1_rule_54 : decode cX1_rule 54 = .ok (.iload_n 2, 1) := by decide +kernel
theorem dX1_rule_55 : decode cX1_rule 55 = .ok (.iconst 1, 1) := by decide +kernel
theorem dX1_rule_56 : decode cX1_rule 56 = .ok (.if_icmp .ne 7, 3) := by decide +kernel
theorem dX1_rule_59 : decode cX1_rule 59 = .ok (.iload_n 3, 1) := by decide +kernel
theorem dX1_rule_60 : decode cX1_rule 60 = .ok (.goto 4, 3) := by decide +kernel
theorem dX1_rule_63 : decode cX1_rule 63 = .ok (.iconst (-1), 1) := by decide +kernel
theorem dX1_rule_64 : decode cX1_rule 64 = .ok (.ireturn, 1) := by decide +kernel
theorem dX1_rule_65 : decode cX1_rule 65 = .ok (.iload_n 2, 1) := by decide +kernel
theorem dX1_rule_66 : decode cX1_rule 66 = .ok (.iload_n 3, 1) := by decide +kernel
theorem dX1_rule_67 : decode cX1_rule 67 = .ok (.if_icmp .ne 7, 3) := by decide +kernel
theorem dX1_rule_70 : decode cX1_rule 70 = .ok (.iload_n 2, 1) := by decide +kernel
theorem dX1_rule_71 : decode cX1_rule 71 = .ok (.goto 4, 3) := by decide +kernel
theorem dX1_rule_74 : decode cX1_rule 74 = .ok (.iconst (-1), 1) := by decide +kernel
theorem dX1_rule_75 : decode cX1_rule 75 = .ok (.ireturn, 1) := by decide +kernel
theorem dX1_rule_76 : decode cX1_rule 76 = .ok (.iload_n 2, 1) := by decide +kernel
theorem dX1_rule_77 : decode cX1_rule 77 = .ok (.iload_n 3, 1) := by decide +kernel
theorem dX1_rule_78 : decode cX1_rule 78 = .ok (.iconst 1, 1) := by decide +kernel
theorem dX1_rule_79 : decode cX1_rule 79 = .ok (.ixor, 1) := by decide +kernel
theorem dX1_rule_80 : decode cX1_rule 80 = .ok (.if_icmp .ne 7, 3) := by decide +kernel
theorem dX1_rule_83 : decode cX1_rule 83 = .ok (.iconst 0, 1) := by decide +kernel
theorem dX1_rule_84 : decode cX1_rule 84 = .ok (.goto 4, 3) := by decide +kernel
theorem dX1_rule_87 : decode cX1_rule 87 = .ok (.iconst (-1), 1) := by decide +kernel
theorem dX1_rule_88 : decode cX1_rule 88 = .ok (.ireturn, 1) := by decide +kernel
theorem dX1_rule_89 : decode cX1_rule 89 = .ok (.aload_n 0, 1) := by decide +kernel
theorem dX1_rule_90 : decode cX1_rule 90 = .ok (.iload_n 2, 1) := by decide +kernel
theorem dX1_rule_91 : decode cX1_rule 91 = .ok (.iconst 0, 1) := by decide +kernel
theorem dX1_rule_92 : decode cX1_rule 92 = .ok (.invokevirtual 41, 3) := by decide +kernel
theorem dX1_rule_95 : decode cX1_rule 95 = .ok (.ifCond .eq 16, 3) := by decide +kernel
theorem dX1_rule_98 : decode cX1_rule 98 = .ok (.aload_n 0, 1) := by decide +kernel
theorem dX1_rule_99 : decode cX1_rule 99 = .ok (.iload_n 2, 1) := by decide +kernel
theorem dX1_rule_100 : decode cX1_rule 100 = .ok (.iload_n 3, 1) := by decide +kernel
theorem dX1_rule_101 : decode cX1_rule 101 = .ok (.invokevirtual 45, 3) := by decide +kernel
theorem dX1_rule_104 : decode cX1_rule 104 = .ok (.ifCond .eq 7, 3) := by decide +kernel
theorem dX1_rule_107 : decode cX1_rule 107 = .ok (.iload_n 2, 1) := by decide +kernel
theorem dX1_rule_108 : decode cX1_rule 108 = .ok (.goto 4, 3) := by decide +kernel
theorem dX1_rule_111 : decode cX1_rule 111 = .ok (.iconst (-1), 1) := by decide +kernel
theorem dX1_rule_112 : decode cX1_rule 112 = .ok (.ireturn, 1) := by decide +kernel
theorem dX1_rule_113 : decode cX1_rule 113 = .ok (.aload_n 0, 1) := by decide +kernel
theorem dX1_rule_114 : decode cX1_rule 114 = .ok (.iload_n 2, 1) := by decide +kernel
theorem dX1_rule_115 : decode cX1_rule 115 = .ok (.iconst 0, 1) := by decide +kernel
theorem dX1_rule_116 : decode cX1_rule 116 = .ok (.invokevirtual 41, 3) := by decide +kernel
theorem dX1_rule_119 : decode cX1_rule 119 = .ok (.ifCond .eq 18, 3) := by decide +kernel
theorem dX1_rule_122 : decode cX1_rule 122 = .ok (.aload_n 0, 1) := by decide +kernel
theorem dX1_rule_123 : decode cX1_rule 123 = .ok (.iload_n 2, 1) := by decide +kernel
theorem dX1_rule_124 : decode cX1_rule 124 = .ok (.iload_n 3, 1) := by decide +kernel
theorem dX1_rule_125 : decode cX1_rule 125 = .ok (.iconst 1, 1) := by decide +kernel
theorem dX1_rule_126 : decode cX1_rule 126 = .ok (.ixor, 1) := by decide +kernel
theorem dX1_rule_127 : decode cX1_rule 127 = .ok (.invokevirtual 45, 3) := by decide +kernel
theorem dX1_rule_130 : decode cX1_rule 130 = .ok (.ifCond .eq 7, 3) := by decide +kernel
theorem dX1_rule_133 : decode cX1_rule 133 = .ok (.iconst 0, 1) := by decide +kernel
theorem dX1_rule_134 : decode cX1_rule 134 = .ok (.goto 4, 3) := by decide +kernel
theorem dX1_rule_137 : decode cX1_rule 137 = .ok (.iconst (-1), 1) := by decide +kernel
theorem dX1_rule_138 : decode cX1_rule 138 = .ok (.ireturn, 1) := by decide +kernel
theorem dX1_rule_139 : decode cX1_rule 139 = .ok (.aload_n 0, 1) := by decide +kernel
theorem dX1_rule_140 : decode cX1_rule 140 = .ok (.iload_n 2, 1) := by decide +kernel
theorem dX1_rule_141 : decode cX1_rule 141 = .ok (.iconst 1, 1) := by decide +kernel
theorem dX1_rule_142 : decode cX1_rule 142 = .ok (.invokevirtual 41, 3) := by decide +kernel
theorem dX1_rule_145 : decode cX1_rule 145 = .ok (.ifCond .eq 18, 3) := by decide +kernel
theorem dX1_rule_148 : decode cX1_rule 148 = .ok (.aload_n 0, 1) := by decide +kernel
theorem dX1_rule_149 : decode cX1_rule 149 = .ok (.iload_n 2, 1) := by decide +kernel
theorem dX1_rule_150 : decode cX1_rule 150 = .ok (.iload_n 3, 1) := by decide +kernel
theorem dX1_rule_151 : decode cX1_rule 151 = .ok (.iconst 1, 1) := by decide +kernel
theorem dX1_rule_152 : decode cX1_rule 152 = .ok (.ixor, 1) := by decide +kernel
theorem dX1_rule_153 : decode cX1_rule 153 = .ok (.invokevirtual 45, 3) := by decide +kernel
theorem dX1_rule_156 : decode cX1_rule 156 = .ok (.ifCond .eq 7, 3) := by decide +kernel
theorem dX1_rule_159 : decode cX1_rule 159 = .ok (.iload_n 3, 1) := by decide +kernel
theorem dX1_rule_160 : decode cX1_rule 160 = .ok (.goto 4, 3) := by decide +kernel
theorem dX1_rule_163 : decode cX1_rule 163 = .ok (.iconst (-1), 1) := by decide +kernel
theorem dX1_rule_164 : decode cX1_rule 164 = .ok (.ireturn, 1) := by decide +kernel
theorem dX1_rule_165 : decode cX1_rule 165 = .ok (.aload_n 0, 1) := by decide +kernel
theorem dX1_rule_166 : decode cX1_rule 166 = .ok (.iload_n 2, 1) := by decide +kernel
theorem dX1_rule_167 : decode cX1_rule 167 = .ok (.iconst 0, 1) := by decide +kernel
theorem dX1_rule_168 : decode cX1_rule 168 = .ok (.invokevirtual 41, 3) := by decide +kernel
theorem dX1_rule_171 : decode cX1_rule 171 = .ok (.ifCond .eq 52, 3) := by decide +kernel
theorem dX1_rule_174 : decode cX1_rule 174 = .ok (.aload_n 0, 1) := by decide +kernel
theorem dX1_rule_175 : decode cX1_rule 175 = .ok (.iload_n 3, 1) := by decide +kernel
theorem dX1_rule_176 : decode cX1_rule 176 = .ok (.iconst 0, 1) := by decide +kernel
theorem dX1_rule_177 : decode cX1_rule 177 = .ok (.invokevirtual 41, 3) := by decide +kernel
theorem dX1_rule_180 : decode cX1_rule 180 = .ok (.ifCond .eq 43, 3) := by decide +kernel
theorem dX1_rule_183 : decode cX1_rule 183 = .ok (.aload_n 0, 1) := by decide +kernel
theorem dX1_rule_184 : decode cX1_rule 184 = .ok (.iload_n 2, 1) := by decide +kernel
theorem dX1_rule_185 : decode cX1_rule 185 = .ok (.aload_n 0, 1) := by decide +kernel
theorem dX1_rule_186 : decode cX1_rule 186 = .ok (.getfield 17, 3) := by decide +kernel
theorem dX1_rule_189 : decode cX1_rule 189 = .ok (.iload_n 3, 1) := by decide +kernel
theorem dX1_rule_190 : decode cX1_rule 190 = .ok (.iconst 1, 1) := by decide +kernel
theorem dX1_rule_191 : decode cX1_rule 191 = .ok (.ishr, 1) := by decide +kernel
theorem dX1_rule_192 : decode cX1_rule 192 = .ok (.iaload, 1) := by decide +kernel
theorem dX1_rule_193 : decode cX1_rule 193 = .ok (.iconst 1, 1) := by decide +kernel
theorem dX1_rule_194 : decode cX1_rule 194 = .ok (.ixor, 1) := by decide +kernel
theorem dX1_rule_195 : decode cX1_rule 195 = .ok (.invokevirtual 45, 3) := by decide +kernel
theorem dX1_rule_198 : decode cX1_rule 198 = .ok (.ifCond .ne 21, 3) := by decide +kernel
theorem dX1_rule_201 : decode cX1_rule 201 = .ok (.aload_n 0, 1) := by decide +kernel
theorem dX1_rule_202 : decode cX1_rule 202 = .ok (.iload_n 2, 1) := by decide +kernel
theorem dX1_rule_203 : decode cX1_rule 203 = .ok (.aload_n 0, 1) := by decide +kernel
theorem dX1_rule_204 : decode cX1_rule 204 = .ok (.getfield 21, 3) := by decide +kernel
theorem dX1_rule_207 : decode cX1_rule 207 = .ok (.iload_n 3, 1) := by decide +kernel
theorem dX1_rule_208 : decode cX1_rule 208 = .ok (.iconst 1, 1) := by decide +kernel
theorem dX1_rule_209 : decode cX1_rule 209 = .ok (.ishr, 1) := by decide +kernel
theorem dX1_rule_210 : decode cX1_rule 210 = .ok (.iaload, 1) := by decide +kernel
theorem dX1_rule_211 : decode cX1_rule 211 = .ok (.iconst 1, 1) := by decide +kernel
theorem dX1_rule_212 : decode cX1_rule 212 = .ok (.ixor, 1) := by decide +kernel
theorem dX1_rule_213 : decode cX1_rule 213 = .ok (.invokevirtual 45, 3) := by decide +kernel
theorem dX1_rule_216 : decode cX1_rule 216 = .ok (.ifCond .eq 7, 3) := by decide +kernel
theorem dX1_rule_219 : decode cX1_rule 219 = .ok (.iconst 1, 1) := by decide +kernel
theorem dX1_rule_220 : decode cX1_rule 220 = .ok (.goto 4, 3) := by decide +kernel
theorem dX1_rule_223 : decode cX1_rule 223 = .ok (.iconst 0, 1) := by decide +kernel
theorem dX1_rule_224 : decode cX1_rule 224 = .ok (.istore 4, 2) := by decide +kernel
theorem dX1_rule_226 : decode cX1_rule 226 = .ok (.iload 4, 2) := by decide +kernel
theorem dX1_rule_228 : decode cX1_rule 228 = .ok (.ifCond .eq 7, 3) := by decide +kernel
theorem dX1_rule_231 : decode cX1_rule 231 = .ok (.iconst 0, 1) := by decide +kernel
theorem dX1_rule_232 : decode cX1_rule 232 = .ok (.goto 4, 3) := by decide +kernel
theorem dX1_rule_235 : decode cX1_rule 235 = .ok (.iconst (-1), 1) := by decide +kernel
theorem dX1_rule_236 : decode cX1_rule 236 = .ok (.ireturn, 1) := by decide +kernel
theorem dX1_gate_0 : decode cX1_gate 0 = .ok (.iload_n 1, 1) := by decide +kernel
theorem dX1_gate_1 : decode cX1_gate 1 = .ok (.iload_n 2, 1) := by decide +kernel
theorem dX1_gate_2 : decode cX1_gate 2 = .ok (.if_icmp .ge 7, 3) := by decide +kernel
theorem dX1_gate_5 : decode cX1_gate 5 = .ok (.iload_n 1, 1) := by decide +kernel
theorem dX1_gate_6 : decode cX1_gate 6 = .ok (.goto 4, 3) := by decide +kernel
theorem dX1_gate_9 : decode cX1_gate 9 = .ok (.iload_n 2, 1) := by decide +kernel
theorem dX1_gate_10 : decode cX1_gate 10 = .ok (.istore_n 3, 1) := by decide +kernel
theorem dX1_gate_11 : decode cX1_gate 11 = .ok (.iload_n 1, 1) := by decide +kernel
theorem dX1_gate_12 : decode cX1_gate 12 = .ok (.iload_n 2, 1) := by decide +kernel
theorem dX1_gate_13 : decode cX1_gate 13 = .ok (.if_icmp .ge 7, 3) := by decide +kernel
theorem dX1_gate_16 : decode cX1_gate 16 = .ok (.iload_n 2, 1) := by decide +kernel
theorem dX1_gate_17 : decode cX1_gate 17 = .ok (.goto 4, 3) := by decide +kernel
theorem dX1_gate_20 : decode cX1_gate 20 = .ok (.iload_n 1, 1) := by decide +kernel
theorem dX1_gate_21 : decode cX1_gate 21 = .ok (.istore 4, 2) := by decide +kernel
theorem dX1_gate_23 : decode cX1_gate 23 = .ok (.iconst 1, 1) := by decide +kernel
theorem dX1_gate_24 : decode cX1_gate 24 = .ok (.istore 5, 2) := by decide +kernel
theorem dX1_gate_26 : decode cX1_gate 26 = .ok (.iload 5, 2) := by decide +kernel
theorem dX1_gate_28 : decode cX1_gate 28 = .ok (.aload_n 0, 1) := by decide +kernel
theorem dX1_gate_29 : decode cX1_gate 29 = .ok (.getfield 7, 3) := by decide +kernel
theorem dX1_gate_32 : decode cX1_gate 32 = .ok (.if_icmp .ge 48, 3) := by decide +kernel
theorem dX1_gate_35 : decode cX1_gate 35 = .ok (.aload_n 0, 1) := by decide +kernel
theorem dX1_gate_36 : decode cX1_gate 36 = .ok (.getfield 13, 3) := by decide +kernel
theorem dX1_gate_39 : decode cX1_gate 39 = .ok (.iload 5, 2) := by decide +kernel
theorem dX1_gate_41 : decode cX1_gate 41 = .ok (.baload, 1) := by decide +kernel
theorem dX1_gate_42 : decode cX1_gate 42 = .ok (.iconst 2, 1) := by decide +kernel
theorem dX1_gate_43 : decode cX1_gate 43 = .ok (.if_icmp .ne 31, 3) := by decide +kernel
theorem dX1_gate_46 : decode cX1_gate 46 = .ok (.aload_n 0, 1) := by decide +kernel
theorem dX1_gate_47 : decode cX1_gate 47 = .ok (.getfield 17, 3) := by decide +kernel
theorem dX1_gate_50 : decode cX1_gate 50 = .ok (.iload 5, 2) := by decide +kernel
theorem dX1_gate_52 : decode cX1_gate 52 = .ok (.iaload, 1) := by decide +kernel
theorem dX1_gate_53 : decode cX1_gate 53 = .ok (.iload_n 3, 1) := by decide +kernel
theorem dX1_gate_54 : decode cX1_gate 54 = .ok (.if_icmp .ne 20, 3) := by decide +kernel
theorem dX1_gate_57 : decode cX1_gate 57 = .ok (.aload_n 0, 1) := by decide +kernel
theorem dX1_gate_58 : decode cX1_gate 58 = .ok (.getfield 21, 3) := by decide +kernel
theorem dX1_gate_61 : decode cX1_gate 61 = .ok (.iload 5, 2) := by decide +kernel
theorem dX1_gate_63 : decode cX1_gate 63 = .ok (.iaload, 1) := by decide +kernel
theorem dX1_gate_64 : decode cX1_gate 64 = .ok (.iload 4, 2) := by decide +kernel
theorem dX1_gate_66 : decode cX1_gate 66 = .ok (.if_icmp .ne 8, 3) := by decide +kernel
theorem dX1_gate_69 : decode cX1_gate 69 = .ok (.iconst 2, 1) := by decide +kernel
theorem dX1_gate_70 : decode cX1_gate 70 = .ok (.iload 5, 2) := by decide +kernel
theorem dX1_gate_72 : decode cX1_gate 72 = .ok (.imul, 1) := by decide +kernel
theorem dX1_gate_73 : decode cX1_gate 73 = .ok (.ireturn, 1) := by decide +kernel
theorem dX1_gate_74 : decode cX1_gate 74 = .ok (.iinc 5 1, 3) := by decide +kernel
theorem dX1_gate_77 : decode cX1_gate 77 = .ok (.goto (-51), 3) := by decide +kernel
theorem dX1_gate_80 : decode cX1_gate 80 = .ok (.iconst 2, 1) := by decide +kernel
theorem dX1_gate_81 : decode cX1_gate 81 = .ok (.aload_n 0, 1) := by decide +kernel
theorem dX1_gate_82 : decode cX1_gate 82 = .ok (.iconst 2, 1) := by decide +kernel
theorem dX1_gate_83 : decode cX1_gate 83 = .ok (.iload_n 3, 1) := by decide +kernel
theorem dX1_gate_84 : decode cX1_gate 84 = .ok (.iload 4, 2) := by decide +kernel
theorem dX1_gate_86 : decode cX1_gate 86 = .ok (.invokevirtual 34, 3) := by decide +kernel
theorem dX1_gate_89 : decode cX1_gate 89 = .ok (.imul, 1) := by decide +kernel
theorem dX1_gate_90 : decode cX1_gate 90 = .ok (.ireturn, 1) := by decide +kernel
theorem dX1_make_0 : decode cX1_make 0 = .ok (.iload_n 1, 1) := by decide +kernel
theorem dX1_make_1 : decode cX1_make 1 = .ok (.istore_n 3, 1) := by decide +kernel
theorem dX1_make_2 : decode cX1_make 2 = .ok (.iload_n 2, 1) := by decide +kernel
theorem dX1_make_3 : decode cX1_make 3 = .ok (.istore 4, 2) := by decide +kernel
theorem dX1_make_5 : decode cX1_make 5 = .ok (.aload_n 0, 1) := by decide +kernel
theorem dX1_make_6 : decode cX1_make 6 = .ok (.getfield 31, 3) := by decide +kernel
theorem dX1_make_9 : decode cX1_make 9 = .ok (.ifCond .ne 216, 3) := by decide +kernel
theorem dX1_make_12 : decode cX1_make 12 = .ok (.iconst 0, 1) := by decide +kernel
theorem dX1_make_13 : decode cX1_make 13 = .ok (.istore 5, 2) := by decide +kernel
theorem dX1_make_15 : decode cX1_make 15 = .ok (.iconst 0, 1) := by decide +kernel
theorem dX1_make_16 : decode cX1_make 16 = .ok (.istore 6, 2) := by decide +kernel
theorem dX1_make_18 : decode cX1_make 18 = .ok (.iload 6, 2) := by decide +kernel
theorem dX1_make_20 : decode cX1_make 20 = .ok (.bipush 8, 2) := by decide +kernel
theorem dX1_make_22 : decode cX1_make 22 = .ok (.if_icmp .ge 187, 3) := by decide +kernel
theorem dX1_make_25 : decode cX1_make 25 = .ok (.iload 5, 2) := by decide +kernel
theorem dX1_make_27 : decode cX1_make 27 = .ok (.ifCond .ne 182, 3) := by decide +kernel
theorem dX1_make_30 : decode cX1_make 30 = .ok (.iload 6, 2) := by decide +kernel
theorem dX1_make_32 : decode cX1_make 32 = .ok (.bipush 7, 2) := by decide +kernel
theorem dX1_make_34 : decode cX1_make 34 = .ok (.if_icmp .ne 115, 3) := by decide +kernel
theorem dX1_make_37 : decode cX1_make 37 = .ok (.aload_n 0, 1) := by decide +kernel
theorem dX1_make_38 : decode cX1_make 38 = .ok (.iload_n 3, 1) := by decide +kernel
theorem dX1_make_39 : decode cX1_make 39 = .ok (.iconst 1, 1) := by decide +kernel
theorem dX1_make_40 : decode cX1_make 40 = .ok (.invokevirtual 41, 3) := by decide +kernel
theorem dX1_make_43 : decode cX1_make 43 = .ok (.ifCond .eq 17, 3) := by decide +kernel
theorem dX1_make_46 : decode cX1_make 46 = .ok (.aload_n 0, 1) := by decide +kernel
theorem dX1_make_47 : decode cX1_make 47 = .ok (.iload_n 3, 1) := by decide +kernel
theorem dX1_make_48 : decode cX1_make 48 = .ok (.iload 4, 2) := by decide +kernel
theorem dX1_make_50 : decode cX1_make 50 = .ok (.invokevirtual 45, 3) := by decide +kernel
theorem dX1_make_53 : decode cX1_make 53 = .ok (.ifCond .eq 7, 3) := by decide +kernel
theorem dX1_make_56 : decode cX1_make 56 = .ok (.iconst 1, 1) := by decide +kernel
theorem dX1_make_57 : decode cX1_make 57 = .ok (.goto 4, 3) := by decide +kernel
theorem dX1_make_60 : decode cX1_make 60 = .ok (.iconst 0, 1) := by decide +kernel
theorem dX1_make_61 : decode cX1_make 61 = .ok (.istore 7, 2) := by decide +kernel
theorem dX1_make_63 : decode cX1_make 63 = .ok (.aload_n 0, 1) := by decide +kernel
theorem dX1_make_64 : decode cX1_make 64 = .ok (.iload 4, 2) := by decide +kernel
theorem dX1_make_66 : decode cX1_make 66 = .ok (.iconst 1, 1) := by decide +kernel
theorem dX1_make_67 : decode cX1_make 67 = .ok (.invokevirtual 41, 3) := by decide +kernel
theorem dX1_make_70 : decode cX1_make 70 = .ok (.ifCond .eq 17, 3) := by decide +kernel
theorem dX1_make_73 : decode cX1_make 73 = .ok (.aload_n 0, 1) := by decide +kernel
theorem dX1_make_74 : decode cX1_make 74 = .ok (.iload 4, 2) := by decide +kernel
theorem dX1_make_76 : decode cX1_make 76 = .ok (.iload_n 3, 1) := by decide +kernel
theorem dX1_make_77 : decode cX1_make 77 = .ok (.invokevirtual 45, 3) := by decide +kernel
theorem dX1_make_80 : decode cX1_make 80 = .ok (.ifCond .eq 7, 3) := by decide +kernel
theorem dX1_make_83 : decode cX1_make 83 = .ok (.iconst 1, 1) := by decide +kernel
theorem dX1_make_84 : decode cX1_make 84 = .ok (.goto 4, 3) := by decide +kernel
theorem dX1_make_87 : decode cX1_make 87 = .ok (.iconst 0, 1) := by decide +kernel
theorem dX1_make_88 : decode cX1_make 88 = .ok (.istore 8, 2) := by decide +kernel
theorem dX1_make_90 : decode cX1_make 90 = .ok (.iload 7, 2) := by decide +kernel
theorem dX1_make_92 : decode cX1_make 92 = .ok (.ifCond .ne 8, 3) := by decide +kernel
theorem dX1_make_95 : decode cX1_make 95 = .ok (.iload 8, 2) := by decide +kernel
theorem dX1_make_97 : decode cX1_make 97 = .ok (.ifCond .eq 52, 3) := by decide +kernel
theorem dX1_make_100 : decode cX1_make 100 = .ok (.iload 7, 2) := by decide +kernel
theorem dX1_make_102 : decode cX1_make 102 = .ok (.ifCond .eq 8, 3) := by decide +kernel
theorem dX1_make_105 : decode cX1_make 105 = .ok (.iload 4, 2) := by decide +kernel
theorem dX1_make_107 : decode cX1_make 107 = .ok (.goto 4, 3) := by decide +kernel
theorem dX1_make_110 : decode cX1_make 110 = .ok (.iload_n 3, 1) := by decide +kernel
theorem dX1_make_111 : decode cX1_make 111 = .ok (.istore 9, 2) := by decide +kernel
theorem dX1_make_113 : decode cX1_make 113 = .ok (.iload 7, 2) := by decide +kernel
theorem dX1_make_115 : decode cX1_make 115 = .ok (.ifCond .eq 13, 3) := by decide +kernel
theorem dX1_make_118 : decode cX1_make 118 = .ok (.aload_n 0, 1) := by decide +kernel
theorem dX1_make_119 : decode cX1_make 119 = .ok (.iload_n 3, 1) := by decide +kernel
theorem dX1_make_120 : decode cX1_make 120 = .ok (.iload 4, 2) := by decide +kernel
theorem dX1_make_122 : decode cX1_make 122 = .ok (.invokevirtual 49, 3) := by decide +kernel
theorem dX1_make_125 : decode cX1_make 125 = .ok (.goto 10, 3) := by decide +kernel
theorem dX1_make_128 : decode cX1_make 128 = .ok (.aload_n 0, 1) := by decide +kernel
theorem dX1_make_129 : decode cX1_make 129 = .ok (.iload 4, 2) := by decide +kernel
theorem dX1_make_131 : decode cX1_make 131 = .ok (.iload_n 3, 1) := by decide +kernel
theorem dX1_make_132 : decode cX1_make 132 = .ok (.invokevirtual 49, 3) := by decide +kernel
theorem dX1_make_135 : decode cX1_make 135 = .ok (.istore 10, 2) := by decide +kernel
theorem dX1_make_137 : decode cX1_make 137 = .ok (.iload 9, 2) := by decide +kernel
theorem dX1_make_139 : decode cX1_make 139 = .ok (.istore_n 3, 1) := by decide +kernel
theorem dX1_make_140 : decode cX1_make 140 = .ok (.iload 10, 2) := by decide +kernel
theorem dX1_make_142 : decode cX1_make 142 = .ok (.iconst 1, 1) := by decide +kernel
theorem dX1_make_143 : decode cX1_make 143 = .ok (.ixor, 1) := by decide +kernel
theorem dX1_make_144 : decode cX1_make 144 = .ok (.istore 4, 2) := by decide +kernel
theorem dX1_make_146 : decode cX1_make 146 = .ok (.iconst 1, 1) := by decide +kernel
theorem dX1_make_147 : decode cX1_make 147 = .ok (.istore 5, 2) := by decide +kernel
theorem dX1_make_149 : decode cX1_make 149 = .ok (.iload 5, 2) := by decide +kernel
theorem dX1_make_151 : decode cX1_make 151 = .ok (.ifCond .eq 7, 3) := by decide +kernel
theorem dX1_make_154 : decode cX1_make 154 = .ok (.iconst (-1), 1) := by decide +kernel
theorem dX1_make_155 : decode cX1_make 155 = .ok (.goto 12, 3) := by decide +kernel
theorem dX1_make_158 : decode cX1_make 158 = .ok (.aload_n 0, 1) := by decide +kernel
theorem dX1_make_159 : decode cX1_make 159 = .ok (.iload 6, 2) := by decide +kernel
theorem dX1_make_161 : decode cX1_make 161 = .ok (.iload_n 3, 1) := by decide +kernel
theorem dX1_make_162 : decode cX1_make 162 = .ok (.iload 4, 2) := by decide +kernel
theorem dX1_make_164 : decode cX1_make 164 = .ok (.invokevirtual 53, 3) := by decide +kernel
theorem dX1_make_167 : decode cX1_make 167 = .ok (.istore 7, 2) := by decide +kernel
theorem dX1_make_169 : decode cX1_make 169 = .ok (.iload 7, 2) := by decide +kernel
theorem dX1_make_171 : decode cX1_make 171 = .ok (.ifCond .ge 20, 3) := by decide +kernel
theorem dX1_make_174 : decode cX1_make 174 = .ok (.iload 5, 2) := by decide +kernel
theorem dX1_make_176 : decode cX1_make 176 = .ok (.ifCond .ne 15, 3) := by decide +kernel
theorem dX1_make_179 : decode cX1_make 179 = .ok (.aload_n 0, 1) := by decide +kernel
theorem dX1_make_180 : decode cX1_make 180 = .ok (.iload 6, 2) := by decide +kernel
theorem dX1_make_182 : decode cX1_make 182 = .ok (.iload 4, 2) := by decide +kernel
theorem dX1_make_184 : decode cX1_make 184 = .ok (.iload_n 3, 1) := by decide +kernel
theorem dX1_make_185 : decode cX1_make 185 = .ok (.invokevirtual 53, 3) := by decide +kernel
theorem dX1_make_188 : decode cX1_make 188 = .ok (.goto 5, 3) := by decide +kernel
theorem dX1_make_191 : decode cX1_make 191 = .ok (.iload 7, 2) := by decide +kernel
theorem dX1_make_193 : decode cX1_make 193 = .ok (.istore 7, 2) := by decide +kernel
theorem dX1_make_195 : decode cX1_make 195 = .ok (.iload 7, 2) := by decide +kernel
theorem dX1_make_197 : decode cX1_make 197 = .ok (.ifCond .lt 6, 3) := by decide +kernel
theorem dX1_make_200 : decode cX1_make 200 = .ok (.iload 7, 2) := by decide +kernel
theorem dX1_make_202 : decode cX1_make 202 = .ok (.ireturn, 1) := by decide +kernel
theorem dX1_make_203 : decode cX1_make 203 = .ok (.iinc 6 1, 3) := by decide +kernel
theorem dX1_make_206 : decode cX1_make 206 = .ok (.goto (-188), 3) := by decide +kernel
theorem dX1_make_209 : decode cX1_make 209 = .ok (.iload 5, 2) := by decide +kernel
theorem dX1_make_211 : decode cX1_make 211 = .ok (.ifCond .ne 11, 3) := by decide +kernel
theorem dX1_make_214 : decode cX1_make 214 = .ok (.aload_n 0, 1) := by decide +kernel
theorem dX1_make_215 : decode cX1_make 215 = .ok (.iload_n 3, 1) := by decide +kernel
theorem dX1_make_216 : decode cX1_make 216 = .ok (.iload 4, 2) := by decide +kernel
theorem dX1_make_218 : decode cX1_make 218 = .ok (.invokevirtual 56, 3) := by decide +kernel
theorem dX1_make_221 : decode cX1_make 221 = .ok (.ireturn, 1) := by decide +kernel
theorem dX1_make_222 : decode cX1_make 222 = .ok (.goto (-217), 3) := by decide +kernel
theorem dX1_make_225 : decode cX1_make 225 = .ok (.iconst 0, 1) := by decide +kernel
theorem dX1_make_226 : decode cX1_make 226 = .ok (.ireturn, 1) := by decide +kernel
theorem dX1_or_0 : decode cX1_or 0 = .ok (.aload_n 0, 1) := by decide +kernel
theorem dX1_or_1 : decode cX1_or 1 = .ok (.iload_n 1, 1) := by decide +kernel
theorem dX1_or_2 : decode cX1_or 2 = .ok (.iconst 1, 1) := by decide +kernel
theorem dX1_or_3 : decode cX1_or 3 = .ok (.ixor, 1) := by decide +kernel
theorem dX1_or_4 : decode cX1_or 4 = .ok (.iload_n 2, 1) := by decide +kernel
theorem dX1_or_5 : decode cX1_or 5 = .ok (.iconst 1, 1) := by decide +kernel
theorem dX1_or_6 : decode cX1_or 6 = .ok (.ixor, 1) := by decide +kernel
theorem dX1_or_7 : decode cX1_or 7 = .ok (.invokevirtual 59, 3) := by decide +kernel
theorem dX1_or_10 : decode cX1_or 10 = .ok (.iconst 1, 1) := by decide +kernel
theorem dX1_or_11 : decode cX1_or 11 = .ok (.ixor, 1) := by decide +kernel
theorem dX1_or_12 : decode cX1_or 12 = .ok (.ireturn, 1) := by decide +kernel
theorem dX1_xor_0 : decode cX1_xor 0 = .ok (.aload_n 0, 1) := by decide +kernel
theorem dX1_xor_1 : decode cX1_xor 1 = .ok (.iload_n 1, 1) := by decide +kernel
theorem dX1_xor_2 : decode cX1_xor 2 = .ok (.iload_n 2, 1) := by decide +kernel
theorem dX1_xor_3 : decode cX1_xor 3 = .ok (.iconst 1, 1) := by decide +kernel
theorem dX1_xor_4 : decode cX1_xor 4 = .ok (.ixor, 1) := by decide +kernel
theorem dX1_xor_5 : decode cX1_xor 5 = .ok (.invokevirtual 59, 3) := by decide +kernel
theorem dX1_xor_8 : decode cX1_xor 8 = .ok (.istore_n 3, 1) := by decide +kernel
theorem dX1_xor_9 : decode cX1_xor 9 = .ok (.aload_n 0, 1) := by decide +kernel
theorem dX1_xor_10 : decode cX1_xor 10 = .ok (.iload_n 1, 1) := by decide +kernel
theorem dX1_xor_11 : decode cX1_xor 11 = .ok (.iconst 1, 1) := by decide +kernel
theorem dX1_xor_12 : decode cX1_xor 12 = .ok (.ixor, 1) := by decide +kernel
theorem dX1_xor_13 : decode cX1_xor 13 = .ok (.iload_n 2, 1) := by decide +kernel
theorem dX1_xor_14 : decode cX1_xor 14 = .ok (.invokevirtual 59, 3) := by decide +kernel
theorem dX1_xor_17 : decode cX1_xor 17 = .ok (.istore 4, 2) := by decide +kernel
theorem dX1_xor_19 : decode cX1_xor 19 = .ok (.aload_n 0, 1) := by decide +kernel
theorem dX1_xor_20 : decode cX1_xor 20 = .ok (.iload_n 3, 1) := by decide +kernel
theorem dX1_xor_21 : decode cX1_xor 21 = .ok (.iload 4, 2) := by decide +kernel
theorem dX1_xor_23 : decode cX1_xor 23 = .ok (.invokevirtual 62, 3) := by decide +kernel
theorem dX1_xor_26 : decode cX1_xor 26 = .ok (.ireturn, 1) := by decide +kernel
theorem dX1_and_0 : decode cX1_and 0 = .ok (.aload_n 0, 1) := by decide +kernel
theorem dX1_and_1 : decode cX1_and 1 = .ok (.aload_n 0, 1) := by decide +kernel
theorem dX1_and_2 : decode cX1_and 2 = .ok (.iload_n 1, 1) := by decide +kernel
theorem dX1_and_3 : decode cX1_and 3 = .ok (.invokevirtual 65, 3) := by decide +kernel
theorem dX1_and_6 : decode cX1_and 6 = .ok (.ifCond .eq 15, 3) := by decide +kernel
theorem dX1_and_9 : decode cX1_and 9 = .ok (.aload_n 0, 1) := by decide +kernel
theorem dX1_and_10 : decode cX1_and 10 = .ok (.iload_n 2, 1) := by decide +kernel
theorem dX1_and_11 : decode cX1_and 11 = .ok (.invokevirtual 65, 3) := by decide +kernel
theorem dX1_and_14 : decode cX1_and 14 = .ok (.ifCond .eq 7, 3) := by decide +kernel
theorem dX1_and_17 : decode cX1_and 17 = .ok (.iconst 0, 1) := by decide +kernel
theorem dX1_and_18 : decode cX1_and 18 = .ok (.goto 4, 3) := by decide +kernel
theorem dX1_and_21 : decode cX1_and 21 = .ok (.iconst 1, 1) := by decide +kernel
theorem dX1_and_22 : decode cX1_and 22 = .ok (.putfield 31, 3) := by decide +kernel
theorem dX1_and_25 : decode cX1_and 25 = .ok (.aload_n 0, 1) := by decide +kernel
theorem dX1_and_26 : decode cX1_and 26 = .ok (.getfield 31, 3) := by decide +kernel
theorem dX1_and_29 : decode cX1_and 29 = .ok (.ifCond .le 7, 3) := by decide +kernel
theorem dX1_and_32 : decode cX1_and 32 = .ok (.iconst 0, 1) := by decide +kernel
theorem dX1_and_33 : decode cX1_and 33 = .ok (.goto 9, 3) := by decide +kernel
theorem dX1_and_36 : decode cX1_and 36 = .ok (.aload_n 0, 1) := by decide +kernel
theorem dX1_and_37 : decode cX1_and 37 = .ok (.iload_n 1, 1) := by decide +kernel
theorem dX1_and_38 : decode cX1_and 38 = .ok (.iload_n 2, 1) := by decide +kernel
theorem dX1_and_39 : decode cX1_and 39 = .ok (.invokevirtual 59, 3) := by decide +kernel
theorem dX1_and_42 : decode cX1_and 42 = .ok (.istore_n 3, 1) := by decide +kernel
theorem dX1_and_43 : decode cX1_and 43 = .ok (.aload_n 0, 1) := by decide +kernel
theorem dX1_and_44 : decode cX1_and 44 = .ok (.getfield 31, 3) := by decide +kernel
theorem dX1_and_47 : decode cX1_and 47 = .ok (.ifCond .le 7, 3) := by decide +kernel
theorem dX1_and_50 : decode cX1_and 50 = .ok (.iconst 0, 1) := by decide +kernel
theorem dX1_and_51 : decode cX1_and 51 = .ok (.goto 4, 3) := by decide +kernel
theorem dX1_and_54 : decode cX1_and 54 = .ok (.iload_n 3, 1) := by decide +kernel
theorem dX1_and_55 : decode cX1_and 55 = .ok (.ireturn, 1) := by decide +kernel
theorem dX1_join_0 : decode cX1_join 0 = .ok (.aload_n 0, 1) := by decide +kernel
theorem dX1_join_1 : decode cX1_join 1 = .ok (.iload_n 1, 1) := by decide +kernel
theorem dX1_join_2 : decode cX1_join 2 = .ok (.ifCond .eq 8, 3) := by decide +kernel
theorem dX1_join_5 : decode cX1_join 5 = .ok (.iload_n 1, 1) := by decide +kernel
theorem dX1_join_6 : decode cX1_join 6 = .ok (.iconst 1, 1) := by decide +kernel
theorem dX1_join_7 : decode cX1_join 7 = .ok (.if_icmp .ne 23, 3) := by decide +kernel
theorem dX1_join_10 : decode cX1_join 10 = .ok (.aload_n 0, 1) := by decide +kernel
theorem dX1_join_11 : decode cX1_join 11 = .ok (.iload_n 2, 1) := by decide +kernel
theorem dX1_join_12 : decode cX1_join 12 = .ok (.invokevirtual 65, 3) := by decide +kernel
theorem dX1_join_15 : decode cX1_join 15 = .ok (.ifCond .eq 15, 3) := by decide +kernel
theorem dX1_join_18 : decode cX1_join 18 = .ok (.aload_n 0, 1) := by decide +kernel
theorem dX1_join_19 : decode cX1_join 19 = .ok (.iload_n 3, 1) := by decide +kernel
theorem dX1_join_20 : decode cX1_join 20 = .ok (.invokevirtual 65, 3) := by decide +kernel
theorem dX1_join_23 : decode cX1_join 23 = .ok (.ifCond .eq 7, 3) := by decide +kernel
theorem dX1_join_26 : decode cX1_join 26 = .ok (.iconst 0, 1) := by decide +kernel
theorem dX1_join_27 : decode cX1_join 27 = .ok (.goto 4, 3) := by decide +kernel
theorem dX1_join_30 : decode cX1_join 30 = .ok (.iconst 1, 1) := by decide +kernel
theorem dX1_join_31 : decode cX1_join 31 = .ok (.putfield 31, 3) := by decide +kernel
theorem dX1_join_34 : decode cX1_join 34 = .ok (.aload_n 0, 1) := by decide +kernel
theorem dX1_join_35 : decode cX1_join 35 = .ok (.getfield 31, 3) := by decide +kernel
theorem dX1_join_38 : decode cX1_join 38 = .ok (.ifCond .le 7, 3) := by decide +kernel
theorem dX1_join_41 : decode cX1_join 41 = .ok (.iconst 0, 1) := by decide +kernel
theorem dX1_join_42 : decode cX1_join 42 = .ok (.goto 22, 3) := by decide +kernel
theorem dX1_join_45 : decode cX1_join 45 = .ok (.iload_n 1, 1) := by decide +kernel
theorem dX1_join_46 : decode cX1_join 46 = .ok (.ifCond .ne 12, 3) := by decide +kernel
theorem dX1_join_49 : decode cX1_join 49 = .ok (.aload_n 0, 1) := by decide +kernel
theorem dX1_join_50 : decode cX1_join 50 = .ok (.iload_n 2, 1) := by decide +kernel
theorem dX1_join_51 : decode cX1_join 51 = .ok (.iload_n 3, 1) := by decide +kernel
theorem dX1_join_52 : decode cX1_join 52 = .ok (.invokevirtual 62, 3) := by decide +kernel
theorem dX1_join_55 : decode cX1_join 55 = .ok (.goto 9, 3) := by decide +kernel
theorem dX1_join_58 : decode cX1_join 58 = .ok (.aload_n 0, 1) := by decide +kernel
theorem dX1_join_59 : decode cX1_join 59 = .ok (.iload_n 2, 1) := by decide +kernel
theorem dX1_join_60 : decode cX1_join 60 = .ok (.iload_n 3, 1) := by decide +kernel
theorem dX1_join_61 : decode cX1_join 61 = .ok (.invokevirtual 69, 3) := by decide +kernel
theorem dX1_join_64 : decode cX1_join 64 = .ok (.istore 4, 2) := by decide +kernel
theorem dX1_join_66 : decode cX1_join 66 = .ok (.aload_n 0, 1) := by decide +kernel
theorem dX1_join_67 : decode cX1_join 67 = .ok (.getfield 31, 3) := by decide +kernel
theorem dX1_join_70 : decode cX1_join 70 = .ok (.ifCond .le 7, 3) := by decide +kernel
theorem dX1_join_73 : decode cX1_join 73 = .ok (.iconst 0, 1) := by decide +kernel
theorem dX1_join_74 : decode cX1_join 74 = .ok (.goto 5, 3) := by decide +kernel
theorem dX1_join_77 : decode cX1_join 77 = .ok (.iload 4, 2) := by decide +kernel
theorem dX1_join_79 : decode cX1_join 79 = .ok (.ireturn, 1) := by decide +kernel
theorem dX1_three_0 : decode cX1_three 0 = .ok (.aload_n 0, 1) := by decide +kernel
theorem dX1_three_1 : decode cX1_three 1 = .ok (.iload_n 1, 1) := by decide +kernel
theorem dX1_three_2 : decode cX1_three 2 = .ok (.ifCond .lt 37, 3) := by decide +kernel
theorem dX1_three_5 : decode cX1_three 5 = .ok (.iload_n 1, 1) := by decide +kernel
theorem dX1_three_6 : decode cX1_three 6 = .ok (.iconst 2, 1) := by decide +kernel
theorem dX1_three_7 : decode cX1_three 7 = .ok (.if_icmp .gt 32, 3) := by decide +kernel
theorem dX1_three_10 : decode cX1_three 10 = .ok (.aload_n 0, 1) := by decide +kernel
theorem dX1_three_11 : decode cX1_three 11 = .ok (.iload_n 2, 1) := by decide +kernel
theorem dX1_three_12 : decode cX1_three 12 = .ok (.invokevirtual 65, 3) := by decide +kernel
theorem dX1_three_15 : decode cX1_three 15 = .ok (.ifCond .eq 24, 3) := by decide +kernel
theorem dX1_three_18 : decode cX1_three 18 = .ok (.aload_n 0, 1) := by decide +kernel
theorem dX1_three_19 : decode cX1_three 19 = .ok (.iload_n 3, 1) := by decide +kernel
theorem dX1_three_20 : decode cX1_three 20 = .ok (.invokevirtual 65, 3) := by decide +kernel
theorem dX1_three_23 : decode cX1_three 23 = .ok (.ifCond .eq 16, 3) := by decide +kernel
theorem dX1_three_26 : decode cX1_three 26 = .ok (.aload_n 0, 1) := by decide +kernel
theorem dX1_three_27 : decode cX1_three 27 = .ok (.iload 4, 2) := by decide +kernel
theorem dX1_three_29 : decode cX1_three 29 = .ok (.invokevirtual 65, 3) := by decide +kernel
theorem dX1_three_32 : decode cX1_three 32 = .ok (.ifCond .eq 7, 3) := by decide +kernel
theorem dX1_three_35 : decode cX1_three 35 = .ok (.iconst 0, 1) := by decide +kernel
theorem dX1_three_36 : decode cX1_three 36 = .ok (.goto 4, 3) := by decide +kernel
theorem dX1_three_39 : decode cX1_three 39 = .ok (.iconst 1, 1) := by decide +kernel
theorem dX1_three_40 : decode cX1_three 40 = .ok (.putfield 31, 3) := by decide +kernel
theorem dX1_three_43 : decode cX1_three 43 = .ok (.aload_n 0, 1) := by decide +kernel
theorem dX1_three_44 : decode cX1_three 44 = .ok (.getfield 31, 3) := by decide +kernel
theorem dX1_three_47 : decode cX1_three 47 = .ok (.ifCond .le 5, 3) := by decide +kernel
theorem dX1_three_50 : decode cX1_three 50 = .ok (.iconst 0, 1) := by decide +kernel
theorem dX1_three_51 : decode cX1_three 51 = .ok (.ireturn, 1) := by decide +kernel
theorem dX1_three_52 : decode cX1_three 52 = .ok (.iconst 0, 1) := by decide +kernel
theorem dX1_three_53 : decode cX1_three 53 = .ok (.istore 5, 2) := by decide +kernel
theorem dX1_three_55 : decode cX1_three 55 = .ok (.iload_n 1, 1) := by decide +kernel
theorem dX1_three_56 : decode cX1_three 56 = .ok (.ifCond .ne 35, 3) := by decide +kernel
theorem dX1_three_59 : decode cX1_three 59 = .ok (.aload_n 0, 1) := by decide +kernel
theorem dX1_three_60 : decode cX1_three 60 = .ok (.iload_n 2, 1) := by decide +kernel
theorem dX1_three_61 : decode cX1_three 61 = .ok (.iload_n 3, 1) := by decide +kernel
theorem dX1_three_62 : decode cX1_three 62 = .ok (.invokevirtual 59, 3) := by decide +kernel
theorem dX1_three_65 : decode cX1_three 65 = .ok (.istore 6, 2) := by decide +kernel
theorem dX1_three_67 : decode cX1_three 67 = .ok (.aload_n 0, 1) := by decide +kernel
theorem dX1_three_68 : decode cX1_three 68 = .ok (.iload_n 2, 1) := by decide +kernel
theorem dX1_three_69 : decode cX1_three 69 = .ok (.iconst 1, 1) := by decide +kernel
theorem dX1_three_70 : decode cX1_three 70 = .ok (.ixor, 1) := by decide +kernel
theorem dX1_three_71 : decode cX1_three 71 = .ok (.iload 4, 2) := by decide +kernel
theorem dX1_three_73 : decode cX1_three 73 = .ok (.invokevirtual 59, 3) := by decide +kernel
theorem dX1_three_76 : decode cX1_three 76 = .ok (.istore 7, 2) := by decide +kernel
theorem dX1_three_78 : decode cX1_three 78 = .ok (.aload_n 0, 1) := by decide +kernel
theorem dX1_three_79 : decode cX1_three 79 = .ok (.iload 6, 2) := by decide +kernel
theorem dX1_three_81 : decode cX1_three 81 = .ok (.iload 7, 2) := by decide +kernel
theorem dX1_three_83 : decode cX1_three 83 = .ok (.invokevirtual 62, 3) := by decide +kernel
theorem dX1_three_86 : decode cX1_three 86 = .ok (.istore 5, 2) := by decide +kernel
theorem dX1_three_88 : decode cX1_three 88 = .ok (.goto 57, 3) := by decide +kernel
theorem dX1_three_91 : decode cX1_three 91 = .ok (.iload_n 1, 1) := by decide +kernel
theorem dX1_three_92 : decode cX1_three 92 = .ok (.iconst 1, 1) := by decide +kernel
theorem dX1_three_93 : decode cX1_three 93 = .ok (.if_icmp .ne 20, 3) := by decide +kernel
theorem dX1_three_96 : decode cX1_three 96 = .ok (.aload_n 0, 1) := by decide +kernel
theorem dX1_three_97 : decode cX1_three 97 = .ok (.aload_n 0, 1) := by decide +kernel
theorem dX1_three_98 : decode cX1_three 98 = .ok (.iload_n 2, 1) := by decide +kernel
theorem dX1_three_99 : decode cX1_three 99 = .ok (.iload_n 3, 1) := by decide +kernel
theorem dX1_three_100 : decode cX1_three 100 = .ok (.invokevirtual 69, 3) := by decide +kernel
theorem dX1_three_103 : decode cX1_three 103 = .ok (.iload 4, 2) := by decide +kernel
theorem dX1_three_105 : decode cX1_three 105 = .ok (.invokevirtual 69, 3) := by decide +kernel
theorem dX1_three_108 : decode cX1_three 108 = .ok (.istore 5, 2) := by decide +kernel
theorem dX1_three_110 : decode cX1_three 110 = .ok (.goto 35, 3) := by decide +kernel
theorem dX1_three_113 : decode cX1_three 113 = .ok (.aload_n 0, 1) := by decide +kernel
theorem dX1_three_114 : decode cX1_three 114 = .ok (.iload_n 2, 1) := by decide +kernel
theorem dX1_three_115 : decode cX1_three 115 = .ok (.iload_n 3, 1) := by decide +kernel
theorem dX1_three_116 : decode cX1_three 116 = .ok (.invokevirtual 59, 3) := by decide +kernel
theorem dX1_three_119 : decode cX1_three 119 = .ok (.istore 6, 2) := by decide +kernel
theorem dX1_three_121 : decode cX1_three 121 = .ok (.aload_n 0, 1) := by decide +kernel
theorem dX1_three_122 : decode cX1_three 122 = .ok (.iload 4, 2) := by decide +kernel
theorem dX1_three_124 : decode cX1_three 124 = .ok (.aload_n 0, 1) := by decide +kernel
theorem dX1_three_125 : decode cX1_three 125 = .ok (.iload_n 2, 1) := by decide +kernel
theorem dX1_three_126 : decode cX1_three 126 = .ok (.iload_n 3, 1) := by decide +kernel
theorem dX1_three_127 : decode cX1_three 127 = .ok (.invokevirtual 69, 3) := by decide +kernel
theorem dX1_three_130 : decode cX1_three 130 = .ok (.invokevirtual 59, 3) := by decide +kernel
theorem dX1_three_133 : decode cX1_three 133 = .ok (.istore 7, 2) := by decide +kernel
theorem dX1_three_135 : decode cX1_three 135 = .ok (.aload_n 0, 1) := by decide +kernel
theorem dX1_three_136 : decode cX1_three 136 = .ok (.iload 6, 2) := by decide +kernel
theorem dX1_three_138 : decode cX1_three 138 = .ok (.iload 7, 2) := by decide +kernel
theorem dX1_three_140 : decode cX1_three 140 = .ok (.invokevirtual 62, 3) := by decide +kernel
theorem dX1_three_143 : decode cX1_three 143 = .ok (.istore 5, 2) := by decide +kernel
theorem dX1_three_145 : decode cX1_three 145 = .ok (.aload_n 0, 1) := by decide +kernel
theorem dX1_three_146 : decode cX1_three 146 = .ok (.getfield 31, 3) := by decide +kernel
theorem dX1_three_149 : decode cX1_three 149 = .ok (.ifCond .le 7, 3) := by decide +kernel
theorem dX1_three_152 : decode cX1_three 152 = .ok (.iconst 0, 1) := by decide +kernel
theorem dX1_three_153 : decode cX1_three 153 = .ok (.goto 5, 3) := by decide +kernel
theorem dX1_three_156 : decode cX1_three 156 = .ok (.iload 5, 2) := by decide +kernel
theorem dX1_three_158 : decode cX1_three 158 = .ok (.ireturn, 1) := by decide +kernel
theorem dX1_set_0 : decode cX1_set 0 = .ok (.aload_n 0, 1) := by decide +kernel
theorem dX1_set_1 : decode cX1_set 1 = .ok (.aload_n 0, 1) := by decide +kernel
theorem dX1_set_2 : decode cX1_set 2 = .ok (.iload_n 1, 1) := by decide +kernel
theorem dX1_set_3 : decode cX1_set 3 = .ok (.invokevirtual 72, 3) := by decide +kernel
theorem dX1_set_6 : decode cX1_set 6 = .ok (.ifCond .eq 7, 3) := by decide +kernel
theorem dX1_set_9 : decode cX1_set 9 = .ok (.iconst 0, 1) := by decide +kernel
theorem dX1_set_10 : decode cX1_set 10 = .ok (.goto 4, 3) := by decide +kernel
theorem dX1_set_13 : decode cX1_set 13 = .ok (.iconst 1, 1) := by decide +kernel
theorem dX1_set_14 : decode cX1_set 14 = .ok (.putfield 31, 3) := by decide +kernel
theorem dX1_set_17 : decode cX1_set 17 = .ok (.aload_n 0, 1) := by decide +kernel
theorem dX1_set_18 : decode cX1_set 18 = .ok (.getfield 31, 3) := by decide +kernel
theorem dX1_set_21 : decode cX1_set 21 = .ok (.ifCond .le 5, 3) := by decide +kernel
theorem dX1_set_24 : decode cX1_set 24 = .ok (.iconst 0, 1) := by decide +kernel
theorem dX1_set_25 : decode cX1_set 25 = .ok (.ireturn, 1) := by decide +kernel
theorem dX1_set_26 : decode cX1_set 26 = .ok (.aload_n 0, 1) := by decide +kernel
theorem dX1_set_27 : decode cX1_set 27 = .ok (.getfield 24, 3) := by decide +kernel
theorem dX1_set_30 : decode cX1_set 30 = .ok (.iload_n 1, 1) := by decide +kernel
theorem dX1_set_31 : decode cX1_set 31 = .ok (.baload, 1) := by decide +kernel
theorem dX1_set_32 : decode cX1_set 32 = .ok (.istore_n 3, 1) := by decide +kernel
theorem dX1_set_33 : decode cX1_set 33 = .ok (.aload_n 0, 1) := by decide +kernel
theorem dX1_set_34 : decode cX1_set 34 = .ok (.getfield 24, 3) := by decide +kernel
theorem dX1_set_37 : decode cX1_set 37 = .ok (.iload_n 1, 1) := by decide +kernel
theorem dX1_set_38 : decode cX1_set 38 = .ok (.iload_n 2, 1) := by decide +kernel
theorem dX1_set_39 : decode cX1_set 39 = .ok (.bastore, 1) := by decide +kernel
theorem dX1_set_40 : decode cX1_set 40 = .ok (.iload_n 3, 1) := by decide +kernel
theorem dX1_set_41 : decode cX1_set 41 = .ok (.iload_n 2, 1) := by decide +kernel
theorem dX1_set_42 : decode cX1_set 42 = .ok (.if_icmp .ne 7, 3) := by decide +kernel
theorem dX1_set_45 : decode cX1_set 45 = .ok (.iconst 1, 1) := by decide +kernel
theorem dX1_set_46 : decode cX1_set 46 = .ok (.goto 4, 3) := by decide +kernel
theorem dX1_set_49 : decode cX1_set 49 = .ok (.iconst 0, 1) := by decide +kernel
theorem dX1_set_50 : decode cX1_set 50 = .ok (.ireturn, 1) := by decide +kernel
theorem dX1_is_0 : decode cX1_is 0 = .ok (.aload_n 0, 1) := by decide +kernel
theorem dX1_is_1 : decode cX1_is 1 = .ok (.getfield 24, 3) := by decide +kernel
theorem dX1_is_4 : decode cX1_is 4 = .ok (.iload_n 1, 1) := by decide +kernel
theorem dX1_is_5 : decode cX1_is 5 = .ok (.iconst 1, 1) := by decide +kernel
theorem dX1_is_6 : decode cX1_is 6 = .ok (.ishr, 1) := by decide +kernel
theorem dX1_is_7 : decode cX1_is 7 = .ok (.baload, 1) := by decide +kernel
theorem dX1_is_8 : decode cX1_is 8 = .ok (.iload_n 1, 1) := by decide +kernel
theorem dX1_is_9 : decode cX1_is 9 = .ok (.iconst 1, 1) := by decide +kernel
theorem dX1_is_10 : decode cX1_is 10 = .ok (.iand, 1) := by decide +kernel
theorem dX1_is_11 : decode cX1_is 11 = .ok (.iconst 1, 1) := by decide +kernel
theorem dX1_is_12 : decode cX1_is 12 = .ok (.if_icmp .ne 7, 3) := by decide +kernel
theorem dX1_is_15 : decode cX1_is 15 = .ok (.iconst 1, 1) := by decide +kernel
theorem dX1_is_16 : decode cX1_is 16 = .ok (.goto 4, 3) := by decide +kernel
theorem dX1_is_19 : decode cX1_is 19 = .ok (.iconst 0, 1) := by decide +kernel
theorem dX1_is_20 : decode cX1_is 20 = .ok (.if_icmp .eq 7, 3) := by decide +kernel
theorem dX1_is_23 : decode cX1_is 23 = .ok (.iconst 1, 1) := by decide +kernel
theorem dX1_is_24 : decode cX1_is 24 = .ok (.goto 4, 3) := by decide +kernel
theorem dX1_is_27 : decode cX1_is 27 = .ok (.iconst 0, 1) := by decide +kernel
theorem dX1_is_28 : decode cX1_is 28 = .ok (.ireturn, 1) := by decide +kernel
theorem dX1_value_0 : decode cX1_value 0 = .ok (.aload_n 0, 1) := by decide +kernel
theorem dX1_value_1 : decode cX1_value 1 = .ok (.aload_n 0, 1) := by decide +kernel
theorem dX1_value_2 : decode cX1_value 2 = .ok (.iload_n 1, 1) := by decide +kernel
theorem dX1_value_3 : decode cX1_value 3 = .ok (.invokevirtual 65, 3) := by decide +kernel
theorem dX1_value_6 : decode cX1_value 6 = .ok (.ifCond .eq 7, 3) := by decide +kernel
theorem dX1_value_9 : decode cX1_value 9 = .ok (.iconst 0, 1) := by decide +kernel
theorem dX1_value_10 : decode cX1_value 10 = .ok (.goto 4, 3) := by decide +kernel
theorem dX1_value_13 : decode cX1_value 13 = .ok (.iconst 1, 1) := by decide +kernel
theorem dX1_value_14 : decode cX1_value 14 = .ok (.putfield 31, 3) := by decide +kernel
theorem dX1_value_17 : decode cX1_value 17 = .ok (.aload_n 0, 1) := by decide +kernel
theorem dX1_value_18 : decode cX1_value 18 = .ok (.getfield 31, 3) := by decide +kernel
theorem dX1_value_21 : decode cX1_value 21 = .ok (.ifCond .le 5, 3) := by decide +kernel
theorem dX1_value_24 : decode cX1_value 24 = .ok (.iconst 0, 1) := by decide +kernel
theorem dX1_value_25 : decode cX1_value 25 = .ok (.ireturn, 1) := by decide +kernel
theorem dX1_value_26 : decode cX1_value 26 = .ok (.iconst 1, 1) := by decide +kernel
theorem dX1_value_27 : decode cX1_value 27 = .ok (.istore_n 2, 1) := by decide +kernel
theorem dX1_value_28 : decode cX1_value 28 = .ok (.iload_n 2, 1) := by decide +kernel
theorem dX1_value_29 : decode cX1_value 29 = .ok (.aload_n 0, 1) := by decide +kernel
theorem dX1_value_30 : decode cX1_value 30 = .ok (.getfield 7, 3) := by decide +kernel
theorem dX1_value_33 : decode cX1_value 33 = .ok (.if_icmp .ge 65, 3) := by decide +kernel
theorem dX1_value_36 : decode cX1_value 36 = .ok (.aload_n 0, 1) := by decide +kernel
theorem dX1_value_37 : decode cX1_value 37 = .ok (.getfield 24, 3) := by decide +kernel
theorem dX1_value_40 : decode cX1_value 40 = .ok (.iload_n 2, 1) := by decide +kernel
theorem dX1_value_41 : decode cX1_value 41 = .ok (.aload_n 0, 1) := by decide +kernel
theorem dX1_value_42 : decode cX1_value 42 = .ok (.getfield 13, 3) := by decide +kernel
theorem dX1_value_45 : decode cX1_value 45 = .ok (.iload_n 2, 1) := by decide +kernel
theorem dX1_value_46 : decode cX1_value 46 = .ok (.baload, 1) := by decide +kernel
theorem dX1_value_47 : decode cX1_value 47 = .ok (.iconst 2, 1) := by decide +kernel
theorem dX1_value_48 : decode cX1_value 48 = .ok (.if_icmp .ne 37, 3) := by decide +kernel
theorem dX1_value_51 : decode cX1_value 51 = .ok (.aload_n 0, 1) := by decide +kernel
theorem dX1_value_52 : decode cX1_value 52 = .ok (.aload_n 0, 1) := by decide +kernel
theorem dX1_value_53 : decode cX1_value 53 = .ok (.getfield 17, 3) := by decide +kernel
theorem dX1_value_56 : decode cX1_value 56 = .ok (.iload_n 2, 1) := by decide +kernel
theorem dX1_value_57 : decode cX1_value 57 = .ok (.iaload, 1) := by decide +kernel
theorem dX1_value_58 : decode cX1_value 58 = .ok (.invokevirtual 75, 3) := by decide +kernel
theorem dX1_value_61 : decode cX1_value 61 = .ok (.ifCond .eq 20, 3) := by decide +kernel
theorem dX1_value_64 : decode cX1_value 64 = .ok (.aload_n 0, 1) := by decide +kernel
theorem dX1_value_65 : decode cX1_value 65 = .ok (.aload_n 0, 1) := by decide +kernel
theorem dX1_value_66 : decode cX1_value 66 = .ok (.getfield 21, 3) := by decide +kernel
theorem dX1_value_69 : decode cX1_value 69 = .ok (.iload_n 2, 1) := by decide +kernel
theorem dX1_value_70 : decode cX1_value 70 = .ok (.iaload, 1) := by decide +kernel
theorem dX1_value_71 : decode cX1_value 71 = .ok (.invokevirtual 75, 3) := by decide +kernel
theorem dX1_value_74 : decode cX1_value 74 = .ok (.ifCond .eq 7, 3) := by decide +kernel
theorem dX1_value_77 : decode cX1_value 77 = .ok (.iconst 1, 1) := by decide +kernel
theorem dX1_value_78 : decode cX1_value 78 = .ok (.goto 13, 3) := by decide +kernel
theorem dX1_value_81 : decode cX1_value 81 = .ok (.iconst 0, 1) := by decide +kernel
theorem dX1_value_82 : decode cX1_value 82 = .ok (.goto 9, 3) := by decide +kernel
theorem dX1_value_85 : decode cX1_value 85 = .ok (.aload_n 0, 1) := by decide +kernel
theorem dX1_value_86 : decode cX1_value 86 = .ok (.getfield 24, 3) := by decide +kernel
theorem dX1_value_89 : decode cX1_value 89 = .ok (.iload_n 2, 1) := by decide +kernel
theorem dX1_value_90 : decode cX1_value 90 = .ok (.baload, 1) := by decide +kernel
theorem dX1_value_91 : decode cX1_value 91 = .ok (.bastore, 1) := by decide +kernel
theorem dX1_value_92 : decode cX1_value 92 = .ok (.iinc 2 1, 3) := by decide +kernel
theorem dX1_value_95 : decode cX1_value 95 = .ok (.goto (-67), 3) := by decide +kernel
theorem dX1_value_98 : decode cX1_value 98 = .ok (.aload_n 0, 1) := by decide +kernel
theorem dX1_value_99 : decode cX1_value 99 = .ok (.iload_n 1, 1) := by decide +kernel
theorem dX1_value_100 : decode cX1_value 100 = .ok (.invokevirtual 75, 3) := by decide +kernel
theorem dX1_value_103 : decode cX1_value 103 = .ok (.ireturn, 1) := by decide +kernel
theorem dX1_node_0 : decode cX1_node 0 = .ok (.aload_n 0, 1) := by decide +kernel
theorem dX1_node_1 : decode cX1_node 1 = .ok (.iload_n 1, 1) := by decide +kernel
theorem dX1_node_2 : decode cX1_node 2 = .ok (.ifCond .lt 24, 3) := by decide +kernel
theorem dX1_node_5 : decode cX1_node 5 = .ok (.iload_n 1, 1) := by decide +kernel
theorem dX1_node_6 : decode cX1_node 6 = .ok (.aload_n 0, 1) := by decide +kernel
theorem dX1_node_7 : decode cX1_node 7 = .ok (.getfield 7, 3) := by decide +kernel
theorem dX1_node_10 : decode cX1_node 10 = .ok (.if_icmp .ge 16, 3) := by decide +kernel
theorem dX1_node_13 : decode cX1_node 13 = .ok (.iload_n 2, 1) := by decide +kernel
theorem dX1_node_14 : decode cX1_node 14 = .ok (.ifCond .lt 12, 3) := by decide +kernel
theorem dX1_node_17 : decode cX1_node 17 = .ok (.iload_n 2, 1) := by decide +kernel
theorem dX1_node_18 : decode cX1_node 18 = .ok (.iconst 3, 1) := by decide +kernel
theorem dX1_node_19 : decode cX1_node 19 = .ok (.if_icmp .gt 7, 3) := by decide +kernel
theorem dX1_node_22 : decode cX1_node 22 = .ok (.iconst 0, 1) := by decide +kernel
theorem dX1_node_23 : decode cX1_node 23 = .ok (.goto 4, 3) := by decide +kernel
theorem dX1_node_26 : decode cX1_node 26 = .ok (.iconst 1, 1) := by decide +kernel
theorem dX1_node_27 : decode cX1_node 27 = .ok (.putfield 31, 3) := by decide +kernel
theorem dX1_node_30 : decode cX1_node 30 = .ok (.aload_n 0, 1) := by decide +kernel
theorem dX1_node_31 : decode cX1_node 31 = .ok (.getfield 31, 3) := by decide +kernel
theorem dX1_node_34 : decode cX1_node 34 = .ok (.ifCond .le 5, 3) := by decide +kernel
theorem dX1_node_37 : decode cX1_node 37 = .ok (.iconst 0, 1) := by decide +kernel
theorem dX1_node_38 : decode cX1_node 38 = .ok (.ireturn, 1) := by decide +kernel
theorem dX1_node_39 : decode cX1_node 39 = .ok (.iload_n 2, 1) := by decide +kernel
theorem dX1_node_40 : decode cX1_node 40 = .ok (.ifCond .ne 10, 3) := by decide +kernel
theorem dX1_node_43 : decode cX1_node 43 = .ok (.aload_n 0, 1) := by decide +kernel
theorem dX1_node_44 : decode cX1_node 44 = .ok (.getfield 13, 3) := by decide +kernel
theorem dX1_node_47 : decode cX1_node 47 = .ok (.iload_n 1, 1) := by decide +kernel
theorem dX1_node_48 : decode cX1_node 48 = .ok (.baload, 1) := by decide +kernel
theorem dX1_node_49 : decode cX1_node 49 = .ok (.ireturn, 1) := by decide +kernel
theorem dX1_node_50 : decode cX1_node 50 = .ok (.iload_n 2, 1) := by decide +kernel
theorem dX1_node_51 : decode cX1_node 51 = .ok (.iconst 3, 1) := by decide +kernel
theorem dX1_node_52 : decode cX1_node 52 = .ok (.if_icmp .ge 38, 3) := by decide +kernel
theorem dX1_node_55 : decode cX1_node 55 = .ok (.aload_n 0, 1) := by decide +kernel
theorem dX1_node_56 : decode cX1_node 56 = .ok (.getfield 13, 3) := by decide +kernel
theorem dX1_node_59 : decode cX1_node 59 = .ok (.iload_n 1, 1) := by decide +kernel
theorem dX1_node_60 : decode cX1_node 60 = .ok (.baload, 1) := by decide +kernel
theorem dX1_node_61 : decode cX1_node 61 = .ok (.iconst 2, 1) := by decide +kernel
theorem dX1_node_62 : decode cX1_node 62 = .ok (.if_icmp .ge 7, 3) := by decide +kernel
theorem dX1_node_65 : decode cX1_node 65 = .ok (.iconst (-1), 1) := by decide +kernel
theorem dX1_node_66 : decode cX1_node 66 = .ok (.goto 23, 3) := by decide +kernel
theorem dX1_node_69 : decode cX1_node 69 = .ok (.iload_n 2, 1) := by decide +kernel
theorem dX1_node_70 : decode cX1_node 70 = .ok (.iconst 1, 1) := by decide +kernel
theorem dX1_node_71 : decode cX1_node 71 = .ok (.if_icmp .ne 12, 3) := by decide +kernel
theorem dX1_node_74 : decode cX1_node 74 = .ok (.aload_n 0, 1) := by decide +kernel
theorem dX1_node_75 : decode cX1_node 75 = .ok (.getfield 17, 3) := by decide +kernel
theorem dX1_node_78 : decode cX1_node 78 = .ok (.iload_n 1, 1) := by decide +kernel
theorem dX1_node_79 : decode cX1_node 79 = .ok (.iaload, 1) := by decide +kernel
theorem dX1_node_80 : decode cX1_node 80 = .ok (.goto 9, 3) := by decide +kernel
theorem dX1_node_83 : decode cX1_node 83 = .ok (.aload_n 0, 1) := by decide +kernel
theorem dX1_node_84 : decode cX1_node 84 = .ok (.getfield 21, 3) := by decide +kernel
theorem dX1_node_87 : decode cX1_node 87 = .ok (.iload_n 1, 1) := by decide +kernel
theorem dX1_node_88 : decode cX1_node 88 = .ok (.iaload, 1) := by decide +kernel
theorem dX1_node_89 : decode cX1_node 89 = .ok (.ireturn, 1) := by decide +kernel
theorem dX1_node_90 : decode cX1_node 90 = .ok (.iconst 0, 1) := by decide +kernel
theorem dX1_node_91 : decode cX1_node 91 = .ok (.istore_n 3, 1) := by decide +kernel
theorem dX1_node_92 : decode cX1_node 92 = .ok (.iconst 1, 1) := by decide +kernel
theorem dX1_node_93 : decode cX1_node 93 = .ok (.istore 4, 2) := by decide +kernel
theorem dX1_node_95 : decode cX1_node 95 = .ok (.iload 4, 2) := by decide +kernel
theorem dX1_node_97 : decode cX1_node 97 = .ok (.aload_n 0, 1) := by decide +kernel
theorem dX1_node_98 : decode cX1_node 98 = .ok (.getfield 7, 3) := by decide +kernel
theorem dX1_node_101 : decode cX1_node 101 = .ok (.if_icmp .ge 54, 3) := by decide +kernel
theorem dX1_node_104 : decode cX1_node 104 = .ok (.iload_n 3, 1) := by decide +kernel
theorem dX1_node_105 : decode cX1_node 105 = .ok (.aload_n 0, 1) := by decide +kernel
theorem dX1_node_106 : decode cX1_node 106 = .ok (.getfield 13, 3) := by decide +kernel
theorem dX1_node_109 : decode cX1_node 109 = .ok (.iload 4, 2) := by decide +kernel
theorem dX1_node_111 : decode cX1_node 111 = .ok (.baload, 1) := by decide +kernel
theorem dX1_node_112 : decode cX1_node 112 = .ok (.iconst 2, 1) := by decide +kernel
theorem dX1_node_113 : decode cX1_node 113 = .ok (.if_icmp .ne 33, 3) := by decide +kernel
theorem dX1_node_116 : decode cX1_node 116 = .ok (.aload_n 0, 1) := by decide +kernel
theorem dX1_node_117 : decode cX1_node 117 = .ok (.getfield 17, 3) := by decide +kernel
theorem dX1_node_120 : decode cX1_node 120 = .ok (.iload 4, 2) := by decide +kernel
theorem dX1_node_122 : decode cX1_node 122 = .ok (.iaload, 1) := by decide +kernel
theorem dX1_node_123 : decode cX1_node 123 = .ok (.iconst 2, 1) := by decide +kernel
theorem dX1_node_124 : decode cX1_node 124 = .ok (.idiv, 1) := by decide +kernel
theorem dX1_node_125 : decode cX1_node 125 = .ok (.iload_n 1, 1) := by decide +kernel
theorem dX1_node_126 : decode cX1_node 126 = .ok (.if_icmp .eq 16, 3) := by decide +kernel
theorem dX1_node_129 : decode cX1_node 129 = .ok (.aload_n 0, 1) := by decide +kernel
theorem dX1_node_130 : decode cX1_node 130 = .ok (.getfield 21, 3) := by decide +kernel
theorem dX1_node_133 : decode cX1_node 133 = .ok (.iload 4, 2) := by decide +kernel
theorem dX1_node_135 : decode cX1_node 135 = .ok (.iaload, 1) := by decide +kernel
theorem dX1_node_136 : decode cX1_node 136 = .ok (.iconst 2, 1) := by decide +kernel
theorem dX1_node_137 : decode cX1_node 137 = .ok (.idiv, 1) := by decide +kernel
theorem dX1_node_138 : decode cX1_node 138 = .ok (.iload_n 1, 1) := by decide +kernel
theorem dX1_node_139 : decode cX1_node 139 = .ok (.if_icmp .ne 7, 3) := by decide +kernel
theorem dX1_node_142 : decode cX1_node 142 = .ok (.iconst 1, 1) := by decide +kernel
theorem dX1_node_143 : decode cX1_node 143 = .ok (.goto 4, 3) := by decide +kernel
theorem dX1_node_146 : decode cX1_node 146 = .ok (.iconst 0, 1) := by decide +kernel
theorem dX1_node_147 : decode cX1_node 147 = .ok (.iadd, 1) := by decide +kernel
theorem dX1_node_148 : decode cX1_node 148 = .ok (.istore_n 3, 1) := by decide +kernel
theorem dX1_node_149 : decode cX1_node 149 = .ok (.iinc 4 1, 3) := by decide +kernel
theorem dX1_node_152 : decode cX1_node 152 = .ok (.goto (-57), 3) := by decide +kernel
theorem dX1_node_155 : decode cX1_node 155 = .ok (.iload_n 3, 1) := by decide +kernel
theorem dX1_node_156 : decode cX1_node 156 = .ok (.ireturn, 1) := by decide +kernel
theorem dX1_markBelow_0 : decode cX1_markBelow 0 = .ok (.iconst 0, 1) := by decide +kernel
theorem dX1_markBelow_1 : decode cX1_markBelow 1 = .ok (.istore_n 2, 1) := by decide +kernel
theorem dX1_markBelow_2 : decode cX1_markBelow 2 = .ok (.iload_n 2, 1) := by decide +kernel
theorem dX1_markBelow_3 : decode cX1_markBelow 3 = .ok (.aload_n 0, 1) := by decide +kernel
theorem dX1_markBelow_4 : decode cX1_markBelow 4 = .ok (.getfield 7, 3) := by decide +kernel
theorem dX1_markBelow_7 : decode cX1_markBelow 7 = .ok (.if_icmp .ge 27, 3) := by decide +kernel
theorem dX1_markBelow_10 : decode cX1_markBelow 10 = .ok (.aload_n 0, 1) := by decide +kernel
theorem dX1_markBelow_11 : decode cX1_markBelow 11 = .ok (.getfield 28, 3) := by decide +kernel
theorem dX1_markBelow_14 : decode cX1_markBelow 14 = .ok (.iload_n 2, 1) := by decide +kernel
theorem dX1_markBelow_15 : decode cX1_markBelow 15 = .ok (.iload_n 2, 1) := by decide +kernel
theorem dX1_markBelow_16 : decode cX1_markBelow 16 = .ok (.iload_n 1, 1) := by decide +kernel
theorem dX1_markBelow_17 : decode cX1_markBelow 17 = .ok (.iconst 1, 1) := by decide +kernel
theorem dX1_markBelow_18 : decode cX1_markBelow 18 = .ok (.ishr, 1) := by decide +kernel
theorem dX1_markBelow_19 : decode cX1_markBelow 19 = .ok (.if_icmp .ne 7, 3) := by decide +kernel
theorem dX1_markBelow_22 : decode cX1_markBelow 22 = .ok (.iconst 1, 1) := by decide +kernel
theorem dX1_markBelow_23 : decode cX1_markBelow 23 = .ok (.goto 4, 3) := by decide +kernel
theorem dX1_markBelow_26 : decode cX1_markBelow 26 = .ok (.iconst 0, 1) := by decide +kernel
theorem dX1_markBelow_27 : decode cX1_markBelow 27 = .ok (.iastore, 1) := by decide +kernel
theorem dX1_markBelow_28 : decode cX1_markBelow 28 = .ok (.iinc 2 1, 3) := by decide +kernel
theorem dX1_markBelow_31 : decode cX1_markBelow 31 = .ok (.goto (-29), 3) := by decide +kernel
theorem dX1_markBelow_34 : decode cX1_markBelow 34 = .ok (.iconst 0, 1) := by decide +kernel
theorem dX1_markBelow_35 : decode cX1_markBelow 35 = .ok (.istore_n 2, 1) := by decide +kernel
theorem dX1_markBelow_36 : decode cX1_markBelow 36 = .ok (.aload_n 0, 1) := by decide +kernel
theorem dX1_markBelow_37 : decode cX1_markBelow 37 = .ok (.getfield 7, 3) := by decide +kernel
theorem dX1_markBelow_40 : decode cX1_markBelow 40 = .ok (.iconst 1, 1) := by decide +kernel
theorem dX1_markBelow_41 : decode cX1_markBelow 41 = .ok (.isub, 1) := by decide +kernel
theorem dX1_markBelow_42 : decode cX1_markBelow 42 = .ok (.istore_n 3, 1) := by decide +kernel
theorem dX1_markBelow_43 : decode cX1_markBelow 43 = .ok (.iload_n 3, 1) := by decide +kernel
theorem dX1_markBelow_44 : decode cX1_markBelow 44 = .ok (.ifCond .le 60, 3) := by decide +kernel
theorem dX1_markBelow_47 : decode cX1_markBelow 47 = .ok (.aload_n 0, 1) := by decide +kernel
theorem dX1_markBelow_48 : decode cX1_markBelow 48 = .ok (.getfield 28, 3) := by decide +kernel
theorem dX1_markBelow_51 : decode cX1_markBelow 51 = .ok (.iload_n 3, 1) := by decide +kernel
theorem dX1_markBelow_52 : decode cX1_markBelow 52 = .ok (.iaload, 1) := by decide +kernel
theorem dX1_markBelow_53 : decode cX1_markBelow 53 = .ok (.iconst 1, 1) := by decide +kernel
theorem dX1_markBelow_54 : decode cX1_markBelow 54 = .ok (.if_icmp .ne 44, 3) := by decide +kernel
theorem dX1_markBelow_57 : decode cX1_markBelow 57 = .ok (.aload_n 0, 1) := by decide +kernel
theorem dX1_markBelow_58 : decode cX1_markBelow 58 = .ok (.getfield 13, 3) := by decide +kernel
theorem dX1_markBelow_61 : decode cX1_markBelow 61 = .ok (.iload_n 3, 1) := by decide +kernel
theorem dX1_markBelow_62 : decode cX1_markBelow 62 = .ok (.baload, 1) := by decide +kernel
theorem dX1_markBelow_63 : decode cX1_markBelow 63 = .ok (.iconst 2, 1) := by decide +kernel
theorem dX1_markBelow_64 : decode cX1_markBelow 64 = .ok (.if_icmp .ne 34, 3) := by decide +kernel
theorem dX1_markBelow_67 : decode cX1_markBelow 67 = .ok (.aload_n 0, 1) := by decide +kernel
theorem dX1_markBelow_68 : decode cX1_markBelow 68 = .ok (.getfield 28, 3) := by decide +kernel
theorem dX1_markBelow_71 : decode cX1_markBelow 71 = .ok (.aload_n 0, 1) := by decide +kernel
theorem dX1_markBelow_72 : decode cX1_markBelow 72 = .ok (.getfield 17, 3) := by decide +kernel
theorem dX1_markBelow_75 : decode cX1_markBelow 75 = .ok (.iload_n 3, 1) := by decide +kernel
theorem dX1_markBelow_76 : decode cX1_markBelow 76 = .ok (.iaload, 1) := by decide +kernel
theorem dX1_markBelow_77 : decode cX1_markBelow 77 = .ok (.iconst 1, 1) := by decide +kernel
theorem dX1_markBelow_78 : decode cX1_markBelow 78 = .ok (.ishr, 1) := by decide +kernel
theorem dX1_markBelow_79 : decode cX1_markBelow 79 = .ok (.iconst 1, 1) := by decide +kernel
theorem dX1_markBelow_80 : decode cX1_markBelow 80 = .ok (.iastore, 1) := by decide +kernel
theorem dX1_markBelow_81 : decode cX1_markBelow 81 = .ok (.aload_n 0, 1) := by decide +kernel
theorem dX1_markBelow_82 : decode cX1_markBelow 82 = .ok (.getfield 28, 3) := by decide +kernel
theorem dX1_markBelow_85 : decode cX1_markBelow 85 = .ok (.aload_n 0, 1) := by decide +kernel
theorem dX1_markBelow_86 : decode cX1_markBelow 86 = .ok (.getfield 21, 3) := by decide +kernel
theorem dX1_markBelow_89 : decode cX1_markBelow 89 = .ok (.iload_n 3, 1) := by decide +kernel
theorem dX1_markBelow_90 : decode cX1_markBelow 90 = .ok (.iaload, 1) := by decide +kernel
theorem dX1_markBelow_91 : decode cX1_markBelow 91 = .ok (.iconst 1, 1) := by decide +kernel
theorem dX1_markBelow_92 : decode cX1_markBelow 92 = .ok (.ishr, 1) := by decide +kernel
theorem dX1_markBelow_93 : decode cX1_markBelow 93 = .ok (.iconst 1, 1) := by decide +kernel
theorem dX1_markBelow_94 : decode cX1_markBelow 94 = .ok (.iastore, 1) := by decide +kernel
theorem dX1_markBelow_95 : decode cX1_markBelow 95 = .ok (.iinc 2 1, 3) := by decide +kernel
theorem dX1_markBelow_98 : decode cX1_markBelow 98 = .ok (.iinc 3 (-1), 3) := by decide +kernel
theorem dX1_markBelow_101 : decode cX1_markBelow 101 = .ok (.goto (-58), 3) := by decide +kernel
theorem dX1_markBelow_104 : decode cX1_markBelow 104 = .ok (.iload_n 2, 1) := by decide +kernel
theorem dX1_markBelow_105 : decode cX1_markBelow 105 = .ok (.ireturn, 1) := by decide +kernel
theorem dX1_cone_0 : decode cX1_cone 0 = .ok (.aload_n 0, 1) := by decide +kernel
theorem dX1_cone_1 : decode cX1_cone 1 = .ok (.aload_n 0, 1) := by decide +kernel
theorem dX1_cone_2 : decode cX1_cone 2 = .ok (.iload_n 1, 1) := by decide +kernel
theorem dX1_cone_3 : decode cX1_cone 3 = .ok (.invokevirtual 65, 3) := by decide +kernel
theorem dX1_cone_6 : decode cX1_cone 6 = .ok (.ifCond .eq 7, 3) := by decide +kernel
theorem dX1_cone_9 : decode cX1_cone 9 = .ok (.iconst 0, 1) := by decide +kernel
theorem dX1_cone_10 : decode cX1_cone 10 = .ok (.goto 4, 3) := by decide +kernel
theorem dX1_cone_13 : decode cX1_cone 13 = .ok (.iconst 1, 1) := by decide +kernel
theorem dX1_cone_14 : decode cX1_cone 14 = .ok (.putfield 31, 3) := by decide +kernel
theorem dX1_cone_17 : decode cX1_cone 17 = .ok (.aload_n 0, 1) := by decide +kernel
theorem dX1_cone_18 : decode cX1_cone 18 = .ok (.getfield 31, 3) := by decide +kernel
theorem dX1_cone_21 : decode cX1_cone 21 = .ok (.ifCond .le 7, 3) := by decide +kernel
theorem dX1_cone_24 : decode cX1_cone 24 = .ok (.iconst 0, 1) := by decide +kernel
theorem dX1_cone_25 : decode cX1_cone 25 = .ok (.goto 8, 3) := by decide +kernel
theorem dX1_cone_28 : decode cX1_cone 28 = .ok (.aload_n 0, 1) := by decide +kernel
theorem dX1_cone_29 : decode cX1_cone 29 = .ok (.iload_n 1, 1) := by decide +kernel
theorem dX1_cone_30 : decode cX1_cone 30 = .ok (.invokevirtual 78, 3) := by decide +kernel
theorem dX1_cone_33 : decode cX1_cone 33 = .ok (.ireturn, 1) := by decide +kernel
theorem dX1_below_0 : decode cX1_below 0 = .ok (.aload_n 0, 1) := by decide +kernel
theorem dX1_below_1 : decode cX1_below 1 = .ok (.aload_n 0, 1) := by decide +kernel
theorem dX1_below_2 : decode cX1_below 2 = .ok (.iload_n 1, 1) := by decide +kernel
theorem dX1_below_3 : decode cX1_below 3 = .ok (.invokevirtual 72, 3) := by decide +kernel
theorem dX1_below_6 : decode cX1_below 6 = .ok (.ifCond .eq 15, 3) := by decide +kernel
theorem dX1_below_9 : decode cX1_below 9 = .ok (.aload_n 0, 1) := by decide +kernel
theorem dX1_below_10 : decode cX1_below 10 = .ok (.iload_n 2, 1) := by decide +kernel
theorem dX1_below_11 : decode cX1_below 11 = .ok (.invokevirtual 65, 3) := by decide +kernel
theorem dX1_below_14 : decode cX1_below 14 = .ok (.ifCond .eq 7, 3) := by decide +kernel
theorem dX1_below_17 : decode cX1_below 17 = .ok (.iconst 0, 1) := by decide +kernel
theorem dX1_below_18 : decode cX1_below 18 = .ok (.goto 4, 3) := by decide +kernel
theorem dX1_below_21 : decode cX1_below 21 = .ok (.iconst 1, 1) := by decide +kernel
theorem dX1_below_22 : decode cX1_below 22 = .ok (.putfield 31, 3) := by decide +kernel
theorem dX1_below_25 : decode cX1_below 25 = .ok (.aload_n 0, 1) := by decide +kernel
theorem dX1_below_26 : decode cX1_below 26 = .ok (.getfield 31, 3) := by decide +kernel
theorem dX1_below_29 : decode cX1_below 29 = .ok (.ifCond .le 5, 3) := by decide +kernel
theorem dX1_below_32 : decode cX1_below 32 = .ok (.iconst 0, 1) := by decide +kernel
theorem dX1_below_33 : decode cX1_below 33 = .ok (.ireturn, 1) := by decide +kernel
theorem dX1_below_34 : decode cX1_below 34 = .ok (.aload_n 0, 1) := by decide +kernel
theorem dX1_below_35 : decode cX1_below 35 = .ok (.iload_n 2, 1) := by decide +kernel
theorem dX1_below_36 : decode cX1_below 36 = .ok (.invokevirtual 78, 3) := by decide +kernel
theorem dX1_below_39 : decode cX1_below 39 = .ok (.istore_n 3, 1) := by decide +kernel
theorem dX1_below_40 : decode cX1_below 40 = .ok (.iload_n 3, 1) := by decide +kernel
theorem dX1_below_41 : decode cX1_below 41 = .ok (.ifCond .lt 17, 3) := by decide +kernel
theorem dX1_below_44 : decode cX1_below 44 = .ok (.aload_n 0, 1) := by decide +kernel
theorem dX1_below_45 : decode cX1_below 45 = .ok (.getfield 28, 3) := by decide +kernel
theorem dX1_below_48 : decode cX1_below 48 = .ok (.iload_n 1, 1) := by decide +kernel
theorem dX1_below_49 : decode cX1_below 49 = .ok (.iaload, 1) := by decide +kernel
theorem dX1_below_50 : decode cX1_below 50 = .ok (.iconst 1, 1) := by decide +kernel
theorem dX1_below_51 : decode cX1_below 51 = .ok (.if_icmp .ne 7, 3) := by decide +kernel
theorem dX1_below_54 : decode cX1_below 54 = .ok (.iconst 1, 1) := by decide +kernel
theorem dX1_below_55 : decode cX1_below 55 = .ok (.goto 4, 3) := by decide +kernel
theorem dX1_below_58 : decode cX1_below 58 = .ok (.iconst 0, 1) := by decide +kernel
theorem dX1_below_59 : decode cX1_below 59 = .ok (.ireturn, 1) := by decide +kernel
theorem dX1_depth_0 : decode cX1_depth 0 = .ok (.aload_n 0, 1) := by decide +kernel
theorem dX1_depth_1 : decode cX1_depth 1 = .ok (.aload_n 0, 1) := by decide +kernel
theorem dX1_depth_2 : decode cX1_depth 2 = .ok (.iload_n 1, 1) := by decide +kernel
theorem dX1_depth_3 : decode cX1_depth 3 = .ok (.invokevirtual 65, 3) := by decide +kernel
theorem dX1_depth_6 : decode cX1_depth 6 = .ok (.ifCond .eq 7, 3) := by decide +kernel
theorem dX1_depth_9 : decode cX1_depth 9 = .ok (.iconst 0, 1) := by decide +kernel
theorem dX1_depth_10 : decode cX1_depth 10 = .ok (.goto 4, 3) := by decide +kernel
theorem dX1_depth_13 : decode cX1_depth 13 = .ok (.iconst 1, 1) := by decide +kernel
theorem dX1_depth_14 : decode cX1_depth 14 = .ok (.putfield 31, 3) := by decide +kernel
theorem dX1_depth_17 : decode cX1_depth 17 = .ok (.iconst 0, 1) := by decide +kernel
theorem dX1_depth_18 : decode cX1_depth 18 = .ok (.istore_n 2, 1) := by decide +kernel
theorem dX1_depth_19 : decode cX1_depth 19 = .ok (.iload_n 2, 1) := by decide +kernel
theorem dX1_depth_20 : decode cX1_depth 20 = .ok (.aload_n 0, 1) := by decide +kernel
theorem dX1_depth_21 : decode cX1_depth 21 = .ok (.getfield 7, 3) := by decide +kernel
theorem dX1_depth_24 : decode cX1_depth 24 = .ok (.if_icmp .ge 93, 3) := by decide +kernel
theorem dX1_depth_27 : decode cX1_depth 27 = .ok (.aload_n 0, 1) := by decide +kernel
theorem dX1_depth_28 : decode cX1_depth 28 = .ok (.getfield 31, 3) := by decide +kernel
theorem dX1_depth_31 : decode cX1_depth 31 = .ok (.ifCond .ne 86, 3) := by decide +kernel
theorem dX1_depth_34 : decode cX1_depth 34 = .ok (.aload_n 0, 1) := by decide +kernel
theorem dX1_depth_35 : decode cX1_depth 35 = .ok (.getfield 13, 3) := by decide +kernel
theorem dX1_depth_38 : decode cX1_depth 38 = .ok (.iload_n 2, 1) := by decide +kernel
theorem dX1_depth_39 : decode cX1_depth 39 = .ok (.baload, 1) := by decide +kernel
theorem dX1_depth_40 : decode cX1_depth 40 = .ok (.iconst 2, 1) := by decide +kernel
theorem dX1_depth_41 : decode cX1_depth 41 = .ok (.if_icmp .ne 19, 3) := by decide +kernel
theorem dX1_depth_44 : decode cX1_depth 44 = .ok (.aload_n 0, 1) := by decide +kernel
theorem dX1_depth_45 : decode cX1_depth 45 = .ok (.getfield 28, 3) := by decide +kernel
theorem dX1_depth_48 : decode cX1_depth 48 = .ok (.aload_n 0, 1) := by decide +kernel
theorem dX1_depth_49 : decode cX1_depth 49 = .ok (.getfield 17, 3) := by decide +kernel
theorem dX1_depth_52 : decode cX1_depth 52 = .ok (.iload_n 2, 1) := by decide +kernel
theorem dX1_depth_53 : decode cX1_depth 53 = .ok (.iaload, 1) := by decide +kernel
theorem dX1_depth_54 : decode cX1_depth 54 = .ok (.iconst 1, 1) := by decide +kernel
theorem dX1_depth_55 : decode cX1_depth 55 = .ok (.ishr, 1) := by decide +kernel
theorem dX1_depth_56 : decode cX1_depth 56 = .ok (.iaload, 1) := by decide +kernel
theorem dX1_depth_57 : decode cX1_depth 57 = .ok (.goto 4, 3) := by decide +kernel
theorem dX1_depth_60 : decode cX1_depth 60 = .ok (.iconst (-1), 1) := by decide +kernel
theorem dX1_depth_61 : decode cX1_depth 61 = .ok (.istore_n 3, 1) := by decide +kernel
theorem dX1_depth_62 : decode cX1_depth 62 = .ok (.aload_n 0, 1) := by decide +kernel
theorem dX1_depth_63 : decode cX1_depth 63 = .ok (.getfield 13, 3) := by decide +kernel
theorem dX1_depth_66 : decode cX1_depth 66 = .ok (.iload_n 2, 1) := by decide +kernel
theorem dX1_depth_67 : decode cX1_depth 67 = .ok (.baload, 1) := by decide +kernel
theorem dX1_depth_68 : decode cX1_depth 68 = .ok (.iconst 2, 1) := by decide +kernel
theorem dX1_depth_69 : decode cX1_depth 69 = .ok (.if_icmp .ne 19, 3) := by decide +kernel
theorem dX1_depth_72 : decode cX1_depth 72 = .ok (.aload_n 0, 1) := by decide +kernel
theorem dX1_depth_73 : decode cX1_depth 73 = .ok (.getfield 28, 3) := by decide +kernel
theorem dX1_depth_76 : decode cX1_depth 76 = .ok (.aload_n 0, 1) := by decide +kernel
theorem dX1_depth_77 : decode cX1_depth 77 = .ok (.getfield 21, 3) := by decide +kernel
theorem dX1_depth_80 : decode cX1_depth 80 = .ok (.iload_n 2, 1) := by decide +kernel
theorem dX1_depth_81 : decode cX1_depth 81 = .ok (.iaload, 1) := by decide +kernel
theorem dX1_depth_82 : decode cX1_depth 82 = .ok (.iconst 1, 1) := by decide +kernel
theorem dX1_depth_83 : decode cX1_depth 83 = .ok (.ishr, 1) := by decide +kernel
theorem dX1_depth_84 : decode cX1_depth 84 = .ok (.iaload, 1) := by decide +kernel
theorem dX1_depth_85 : decode cX1_depth 85 = .ok (.goto 4, 3) := by decide +kernel
theorem dX1_depth_88 : decode cX1_depth 88 = .ok (.iconst (-1), 1) := by decide +kernel
theorem dX1_depth_89 : decode cX1_depth 89 = .ok (.istore 4, 2) := by decide +kernel
theorem dX1_depth_91 : decode cX1_depth 91 = .ok (.aload_n 0, 1) := by decide +kernel
theorem dX1_depth_92 : decode cX1_depth 92 = .ok (.getfield 28, 3) := by decide +kernel
theorem dX1_depth_95 : decode cX1_depth 95 = .ok (.iload_n 2, 1) := by decide +kernel
theorem dX1_depth_96 : decode cX1_depth 96 = .ok (.iload_n 3, 1) := by decide +kernel
theorem dX1_depth_97 : decode cX1_depth 97 = .ok (.iload 4, 2) := by decide +kernel
theorem dX1_depth_99 : decode cX1_depth 99 = .ok (.if_icmp .le 7, 3) := by decide +kernel
theorem dX1_depth_102 : decode cX1_depth 102 = .ok (.iload_n 3, 1) := by decide +kernel
theorem dX1_depth_103 : decode cX1_depth 103 = .ok (.goto 5, 3) := by decide +kernel
theorem dX1_depth_106 : decode cX1_depth 106 = .ok (.iload 4, 2) := by decide +kernel
theorem dX1_depth_108 : decode cX1_depth 108 = .ok (.iconst 1, 1) := by decide +kernel
theorem dX1_depth_109 : decode cX1_depth 109 = .ok (.iadd, 1) := by decide +kernel
theorem dX1_depth_110 : decode cX1_depth 110 = .ok (.iastore, 1) := by decide +kernel
theorem dX1_depth_111 : decode cX1_depth 111 = .ok (.iinc 2 1, 3) := by decide +kernel
theorem dX1_depth_114 : decode cX1_depth 114 = .ok (.goto (-95), 3) := by decide +kernel
theorem dX1_depth_117 : decode cX1_depth 117 = .ok (.aload_n 0, 1) := by decide +kernel
theorem dX1_depth_118 : decode cX1_depth 118 = .ok (.getfield 31, 3) := by decide +kernel
theorem dX1_depth_121 : decode cX1_depth 121 = .ok (.ifCond .le 7, 3) := by decide +kernel
theorem dX1_depth_124 : decode cX1_depth 124 = .ok (.iconst 0, 1) := by decide +kernel
theorem dX1_depth_125 : decode cX1_depth 125 = .ok (.goto 11, 3) := by decide +kernel
theorem dX1_depth_128 : decode cX1_depth 128 = .ok (.aload_n 0, 1) := by decide +kernel
theorem dX1_depth_129 : decode cX1_depth 129 = .ok (.getfield 28, 3) := by decide +kernel
theorem dX1_depth_132 : decode cX1_depth 132 = .ok (.iload_n 1, 1) := by decide +kernel
theorem dX1_depth_133 : decode cX1_depth 133 = .ok (.iconst 1, 1) := by decide +kernel
theorem dX1_depth_134 : decode cX1_depth 134 = .ok (.ishr, 1) := by decide +kernel
theorem dX1_depth_135 : decode cX1_depth 135 = .ok (.iaload, 1) := by decide +kernel
theorem dX1_depth_136 : decode cX1_depth 136 = .ok (.ireturn, 1) := by decide +kernel
theorem dX1_nodes_0 : decode cX1_nodes 0 = .ok (.aload_n 0, 1) := by decide +kernel
theorem dX1_nodes_1 : decode cX1_nodes 1 = .ok (.iconst 0, 1) := by decide +kernel
theorem dX1_nodes_2 : decode cX1_nodes 2 = .ok (.putfield 31, 3) := by decide +kernel
theorem dX1_nodes_5 : decode cX1_nodes 5 = .ok (.aload_n 0, 1) := by decide +kernel
theorem dX1_nodes_6 : decode cX1_nodes 6 = .ok (.getfield 7, 3) := by decide +kernel
theorem dX1_nodes_9 : decode cX1_nodes 9 = .ok (.ireturn, 1) := by decide +kernel
theorem dX1_inputs_0 : decode cX1_inputs 0 = .ok (.aload_n 0, 1) := by decide +kernel
theorem dX1_inputs_1 : decode cX1_inputs 1 = .ok (.iconst 0, 1) := by decide +kernel
theorem dX1_inputs_2 : decode cX1_inputs 2 = .ok (.putfield 31, 3) := by decide +kernel
theorem dX1_inputs_5 : decode cX1_inputs 5 = .ok (.aload_n 0, 1) := by decide +kernel
theorem dX1_inputs_6 : decode cX1_inputs 6 = .ok (.getfield 38, 3) := by decide +kernel
theorem dX1_inputs_9 : decode cX1_inputs 9 = .ok (.ireturn, 1) := by decide +kernel
end
section
theorem dL_input_0 : decode cL_input 0 = .ok (.aload_n 1, 1) := by decide +kernel
theorem dL_input_1 : decode cL_input 1 = .ok (.iconst 0, 1) := by decide +kernel
theorem dL_input_2 : decode cL_input 2 = .ok (.aload_n 0, 1) := by decide +kernel
theorem dL_input_3 : decode cL_input 3 = .ok (.invokevirtual 7, 3) := by decide +kernel
theorem dL_input_6 : decode cL_input 6 = .ok (.i2l, 1) := by decide +kernel
theorem dL_input_7 : decode cL_input 7 = .ok (.lastore, 1) := by decide +kernel
theorem dL_input_8 : decode cL_input 8 = .ok (.goto 6, 3) := by decide +kernel
theorem dL_input_11 : decode cL_input 11 = .ok (.astore_n 2, 1) := by decide +kernel
theorem dL_input_12 : decode cL_input 12 = .ok (.iconst 1, 1) := by decide +kernel
theorem dL_input_13 : decode cL_input 13 = .ok (.ireturn, 1) := by decide +kernel
theorem dL_input_14 : decode cL_input 14 = .ok (.iconst 0, 1) := by decide +kernel
theorem dL_input_15 : decode cL_input 15 = .ok (.ireturn, 1) := by decide +kernel
theorem dL_and_0 : decode cL_and 0 = .ok (.aload_n 3, 1) := by decide +kernel
theorem dL_and_1 : decode cL_and 1 = .ok (.iconst 0, 1) := by decide +kernel
theorem dL_and_2 : decode cL_and 2 = .ok (.aload_n 0, 1) := by decide +kernel
theorem dL_and_3 : decode cL_and 3 = .ok (.iload_n 1, 1) := by decide +kernel
theorem dL_and_4 : decode cL_and 4 = .ok (.iload_n 2, 1) := by decide +kernel
theorem dL_and_5 : decode cL_and 5 = .ok (.invokevirtual 15, 3) := by decide +kernel
theorem dL_and_8 : decode cL_and 8 = .ok (.i2l, 1) := by decide +kernel
theorem dL_and_9 : decode cL_and 9 = .ok (.lastore, 1) := by decide +kernel
theorem dL_and_10 : decode cL_and 10 = .ok (.goto 11, 3) := by decide +kernel
theorem dL_and_13 : decode cL_and 13 = .ok (.astore 4, 2) := by decide +kernel
theorem dL_and_15 : decode cL_and 15 = .ok (.iconst 1, 1) := by decide +kernel
theorem dL_and_16 : decode cL_and 16 = .ok (.ireturn, 1) := by decide +kernel
theorem dL_and_17 : decode cL_and 17 = .ok (.astore 4, 2) := by decide +kernel
theorem dL_and_19 : decode cL_and 19 = .ok (.iconst 2, 1) := by decide +kernel
theorem dL_and_20 : decode cL_and 20 = .ok (.ireturn, 1) := by decide +kernel
theorem dL_and_21 : decode cL_and 21 = .ok (.iconst 0, 1) := by decide +kernel
theorem dL_and_22 : decode cL_and 22 = .ok (.ireturn, 1) := by decide +kernel
theorem dL_join_0 : decode cL_join 0 = .ok (.aload 4, 2) := by decide +kernel
theorem dL_join_2 : decode cL_join 2 = .ok (.iconst 0, 1) := by decide +kernel
theorem dL_join_3 : decode cL_join 3 = .ok (.aload_n 0, 1) := by decide +kernel
theorem dL_join_4 : decode cL_join 4 = .ok (.iload_n 1, 1) := by decide +kernel
theorem dL_join_5 : decode cL_join 5 = .ok (.iload_n 2, 1) := by decide +kernel
theorem dL_join_6 : decode cL_join 6 = .ok (.iload_n 3, 1) := by decide +kernel
theorem dL_join_7 : decode cL_join 7 = .ok (.invokevirtual 21, 3) := by decide +kernel
theorem dL_join_10 : decode cL_join 10 = .ok (.i2l, 1) := by decide +kernel
theorem dL_join_11 : decode cL_join 11 = .ok (.lastore, 1) := by decide +kernel
theorem dL_join_12 : decode cL_join 12 = .ok (.goto 11, 3) := by decide +kernel
theorem dL_join_15 : decode cL_join 15 = .ok (.astore 5, 2) := by decide +kernel
theorem dL_join_17 : decode cL_join 17 = .ok (.iconst 1, 1) := by decide +kernel
theorem dL_join_18 : decode cL_join 18 = .ok (.ireturn, 1) := by decide +kernel
theorem dL_join_19 : decode cL_join 19 = .ok (.astore 5, 2) := by decide +kernel
theorem dL_join_21 : decode cL_join 21 = .ok (.iconst 2, 1) := by decide +kernel
theorem dL_join_22 : decode cL_join 22 = .ok (.ireturn, 1) := by decide +kernel
theorem dL_join_23 : decode cL_join 23 = .ok (.iconst 0, 1) := by decide +kernel
theorem dL_join_24 : decode cL_join 24 = .ok (.ireturn, 1) := by decide +kernel
theorem dL_law_0 : decode code 0 = .ok (.new 8, 3) := by decide +kernel
theorem dL_law_3 : decode code 3 = .ok (.dup, 1) := by decide +kernel
theorem dL_law_4 : decode code 4 = .ok (.invokespecial 51, 3) := by decide +kernel
theorem dL_law_7 : decode code 7 = .ok (.astore_n 1, 1) := by decide +kernel
theorem dL_law_8 : decode code 8 = .ok (.new 52, 3) := by decide +kernel
theorem dL_law_11 : decode code 11 = .ok (.dup, 1) := by decide +kernel
theorem dL_law_12 : decode code 12 = .ok (.invokespecial 54, 3) := by decide +kernel
theorem dL_law_15 : decode code 15 = .ok (.astore_n 2, 1) := by decide +kernel
theorem dL_law_16 : decode code 16 = .ok (.iconst 1, 1) := by decide +kernel
theorem dL_law_17 : decode code 17 = .ok (.newarray .long, 2) := by decide +kernel
theorem dL_law_19 : decode code 19 = .ok (.astore_n 3, 1) := by decide +kernel
theorem dL_law_20 : decode code 20 = .ok (.iconst 0, 1) := by decide +kernel
theorem dL_law_21 : decode code 21 = .ok (.istore 4, 2) := by decide +kernel
theorem dL_law_23 : decode code 23 = .ok (.iload 4, 2) := by decide +kernel
theorem dL_law_25 : decode code 25 = .ok (.aload_n 0, 1) := by decide +kernel
theorem dL_law_26 : decode code 26 = .ok (.arraylength, 1) := by decide +kernel
theorem dL_law_27 : decode code 27 = .ok (.iconst 5, 1) := by decide +kernel
theorem dL_law_28 : decode code 28 = .ok (.isub, 1) := by decide +kernel
theorem dL_law_29 : decode code 29 = .ok (.if_icmp .gt 796, 3) := by decide +kernel
theorem dL_law_32 : decode code 32 = .ok (.aload_n 0, 1) := by decide +kernel
theorem dL_law_33 : decode code 33 = .ok (.iload 4, 2) := by decide +kernel
theorem dL_law_35 : decode code 35 = .ok (.iaload, 1) := by decide +kernel
theorem dL_law_36 : decode code 36 = .ok (.bipush 15, 2) := by decide +kernel
theorem dL_law_38 : decode code 38 = .ok (.iand, 1) := by decide +kernel
theorem dL_law_39 : decode code 39 = .ok (.tableswitch 780 0 11 #[61, 105, 173, 253, 345, 436, 499, 567, 623, 698, 754, 767], 61) := by decide +kernel
theorem dL_law_100 : decode code 100 = .ok (.aload_n 1, 1) := by decide +kernel
theorem dL_law_101 : decode code 101 = .ok (.aload_n 3, 1) := by decide +kernel
theorem dL_law_102 : decode code 102 = .ok (.invokestatic 55, 3) := by decide +kernel
theorem dL_law_105 : decode code 105 = .ok (.istore 5, 2) := by decide +kernel
theorem dL_law_107 : decode code 107 = .ok (.aload_n 2, 1) := by decide +kernel
theorem dL_law_108 : decode code 108 = .ok (.invokevirtual 60, 3) := by decide +kernel
theorem dL_law_111 : decode code 111 = .ok (.istore 6, 2) := by decide +kernel
theorem dL_law_113 : decode code 113 = .ok (.aload_n 2, 1) := by decide +kernel
theorem dL_law_114 : decode code 114 = .ok (.invokevirtual 61, 3) := by decide +kernel
theorem dL_law_117 : decode code 117 = .ok (.iload 5, 2) := by decide +kernel
theorem dL_law_119 : decode code 119 = .ok (.if_icmp .eq 5, 3) := by decide +kernel
theorem dL_law_122 : decode code 122 = .ok (.iconst 0, 1) := by decide +kernel
theorem dL_law_123 : decode code 123 = .ok (.ireturn, 1) := by decide +kernel
theorem dL_law_124 : decode code 124 = .ok (.iload 5, 2) := by decide +kernel
theorem dL_law_126 : decode code 126 = .ok (.ifCond .ne 15, 3) := by decide +kernel
theorem dL_law_129 : decode code 129 = .ok (.aload_n 3, 1) := by decide +kernel
theorem dL_law_130 : decode code 130 = .ok (.iconst 0, 1) := by decide +kernel
theorem dL_law_131 : decode code 131 = .ok (.laload, 1) := by decide +kernel
theorem dL_law_132 : decode code 132 = .ok (.iload 6, 2) := by decide +kernel
theorem dL_law_134 : decode code 134 = .ok (.i2l, 1) := by decide +kernel
theorem dL_law_135 : decode code 135 = .ok (.lcmp, 1) := by decide +kernel
theorem dL_law_136 : decode code 136 = .ok (.ifCond .eq 5, 3) := by decide +kernel
theorem dL_law_139 : decode code 139 = .ok (.iconst 0, 1) := by decide +kernel
theorem dL_law_140 : decode code 140 = .ok (.ireturn, 1) := by decide +kernel
theorem dL_law_141 : decode code 141 = .ok (.goto 678, 3) := by decide +kernel
theorem dL_law_144 : decode code 144 = .ok (.aload_n 1, 1) := by decide +kernel
theorem dL_law_145 : decode code 145 = .ok (.aload_n 0, 1) := by decide +kernel
theorem dL_law_146 : decode code 146 = .ok (.iload 4, 2) := by decide +kernel
theorem dL_law_148 : decode code 148 = .ok (.iconst 1, 1) := by decide +kernel
theorem dL_law_149 : decode code 149 = .ok (.iadd, 1) := by decide +kernel
theorem dL_law_150 : decode code 150 = .ok (.iaload, 1) := by decide +kernel
theorem dL_law_151 : decode code 151 = .ok (.aload_n 0, 1) := by decide +kernel
theorem dL_law_152 : decode code 152 = .ok (.iload 4, 2) := by decide +kernel
theorem dL_law_154 : decode code 154 = .ok (.iconst 2, 1) := by decide +kernel
theorem dL_law_155 : decode code 155 = .ok (.iadd, 1) := by decide +kernel
theorem dL_law_156 : decode code 156 = .ok (.iaload, 1) := by decide +kernel
theorem dL_law_157 : decode code 157 = .ok (.aload_n 3, 1) := by decide +kernel
theorem dL_law_158 : decode code 158 = .ok (.invokestatic 64, 3) := by decide +kernel
theorem dL_law_161 : decode code 161 = .ok (.istore 5, 2) := by decide +kernel
theorem dL_law_163 : decode code 163 = .ok (.aload_n 2, 1) := by decide +kernel
theorem dL_law_164 : decode code 164 = .ok (.aload_n 0, 1) := by decide +kernel
theorem dL_law_165 : decode code 165 = .ok (.iload 4, 2) := by decide +kernel
theorem dL_law_167 : decode code 167 = .ok (.iconst 1, 1) := by decide +kernel
theorem dL_law_168 : decode code 168 = .ok (.iadd, 1) := by decide +kernel
theorem dL_law_169 : decode code 169 = .ok (.iaload, 1) := by decide +kernel
theorem dL_law_170 : decode code 170 = .ok (.aload_n 0, 1) := by decide +kernel
theorem dL_law_171 : decode code 171 = .ok (.iload 4, 2) := by decide +kernel
theorem dL_law_173 : decode code 173 = .ok (.iconst 2, 1) := by decide +kernel
theorem dL_law_174 : decode code 174 = .ok (.iadd, 1) := by decide +kernel
theorem dL_law_175 : decode code 175 = .ok (.iaload, 1) := by decide +kernel
theorem dL_law_176 : decode code 176 = .ok (.invokevirtual 67, 3) := by decide +kernel
theorem dL_law_179 : decode code 179 = .ok (.istore 6, 2) := by decide +kernel
theorem dL_law_181 : decode code 181 = .ok (.aload_n 2, 1) := by decide +kernel
theorem dL_law_182 : decode code 182 = .ok (.invokevirtual 61, 3) := by decide +kernel
theorem dL_law_185 : decode code 185 = .ok (.iload 5, 2) := by decide +kernel
theorem dL_law_187 : decode code 187 = .ok (.if_icmp .eq 5, 3) := by decide +kernel
theorem dL_law_190 : decode code 190 = .ok (.iconst 0, 1) := by decide +kernel
theorem dL_law_191 : decode code 191 = .ok (.ireturn, 1) := by decide +kernel
theorem dL_law_192 : decode code 192 = .ok (.iload 5, 2) := by decide +kernel
theorem dL_law_194 : decode code 194 = .ok (.ifCond .ne 15, 3) := by decide +kernel
theorem dL_law_197 : decode code 197 = .ok (.aload_n 3, 1) := by decide +kernel
theorem dL_law_198 : decode code 198 = .ok (.iconst 0, 1) := by decide +kernel
theorem dL_law_199 : decode code 199 = .ok (.laload, 1) := by decide +kernel
theorem dL_law_200 : decode code 200 = .ok (.iload 6, 2) := by decide +kernel
theorem dL_law_202 : decode code 202 = .ok (.i2l, 1) := by decide +kernel
theorem dL_law_203 : decode code 203 = .ok (.lcmp, 1) := by decide +kernel
theorem dL_law_204 : decode code 204 = .ok (.ifCond .eq 5, 3) := by decide +kernel
theorem dL_law_207 : decode code 207 = .ok (.iconst 0, 1) := by decide +kernel
theorem dL_law_208 : decode code 208 = .ok (.ireturn, 1) := by decide +kernel
theorem dL_law_209 : decode code 209 = .ok (.goto 610, 3) := by decide +kernel
theorem dL_law_212 : decode code 212 = .ok (.aload_n 1, 1) := by decide +kernel
theorem dL_law_213 : decode code 213 = .ok (.aload_n 0, 1) := by decide +kernel
theorem dL_law_214 : decode code 214 = .ok (.iload 4, 2) := by decide +kernel
theorem dL_law_216 : decode code 216 = .ok (.iconst 1, 1) := by decide +kernel
theorem dL_law_217 : decode code 217 = .ok (.iadd, 1) := by decide +kernel
theorem dL_law_218 : decode code 218 = .ok (.iaload, 1) := by decide +kernel
theorem dL_law_219 : decode code 219 = .ok (.aload_n 0, 1) := by decide +kernel
theorem dL_law_220 : decode code 220 = .ok (.iload 4, 2) := by decide +kernel
theorem dL_law_222 : decode code 222 = .ok (.iconst 2, 1) := by decide +kernel
theorem dL_law_223 : decode code 223 = .ok (.iadd, 1) := by decide +kernel
theorem dL_law_224 : decode code 224 = .ok (.iaload, 1) := by decide +kernel
theorem dL_law_225 : decode code 225 = .ok (.aload_n 0, 1) := by decide +kernel
theorem dL_law_226 : decode code 226 = .ok (.iload 4, 2) := by decide +kernel
theorem dL_law_228 : decode code 228 = .ok (.iconst 3, 1) := by decide +kernel
theorem dL_law_229 : decode code 229 = .ok (.iadd, 1) := by decide +kernel
theorem dL_law_230 : decode code 230 = .ok (.iaload, 1) := by decide +kernel
theorem dL_law_231 : decode code 231 = .ok (.aload_n 3, 1) := by decide +kernel
theorem dL_law_232 : decode code 232 = .ok (.invokestatic 68, 3) := by decide +kernel
theorem dL_law_235 : decode code 235 = .ok (.istore 5, 2) := by decide +kernel
theorem dL_law_237 : decode code 237 = .ok (.aload_n 2, 1) := by decide +kernel
theorem dL_law_238 : decode code 238 = .ok (.aload_n 0, 1) := by decide +kernel
theorem dL_law_239 : decode code 239 = .ok (.iload 4, 2) := by decide +kernel
theorem dL_law_241 : decode code 241 = .ok (.iconst 1, 1) := by decide +kernel
theorem dL_law_242 : decode code 242 = .ok (.iadd, 1) := by decide +kernel
theorem dL_law_243 : decode code 243 = .ok (.iaload, 1) := by decide +kernel
theorem dL_law_244 : decode code 244 = .ok (.aload_n 0, 1) := by decide +kernel
theorem dL_law_245 : decode code 245 = .ok (.iload 4, 2) := by decide +kernel
theorem dL_law_247 : decode code 247 = .ok (.iconst 2, 1) := by decide +kernel
theorem dL_law_248 : decode code 248 = .ok (.iadd, 1) := by decide +kernel
theorem dL_law_249 : decode code 249 = .ok (.iaload, 1) := by decide +kernel
theorem dL_law_250 : decode code 250 = .ok (.aload_n 0, 1) := by decide +kernel
theorem dL_law_251 : decode code 251 = .ok (.iload 4, 2) := by decide +kernel
theorem dL_law_253 : decode code 253 = .ok (.iconst 3, 1) := by decide +kernel
theorem dL_law_254 : decode code 254 = .ok (.iadd, 1) := by decide +kernel
theorem dL_law_255 : decode code 255 = .ok (.iaload, 1) := by decide +kernel
theorem dL_law_256 : decode code 256 = .ok (.invokevirtual 71, 3) := by decide +kernel
theorem dL_law_259 : decode code 259 = .ok (.istore 6, 2) := by decide +kernel
theorem dL_law_261 : decode code 261 = .ok (.aload_n 2, 1) := by decide +kernel
theorem dL_law_262 : decode code 262 = .ok (.invokevirtual 61, 3) := by decide +kernel
theorem dL_law_265 : decode code 265 = .ok (.iload 5, 2) := by decide +kernel
theorem dL_law_267 : decode code 267 = .ok (.if_icmp .eq 5, 3) := by decide +kernel
theorem dL_law_270 : decode code 270 = .ok (.iconst 0, 1) := by decide +kernel
theorem dL_law_271 : decode code 271 = .ok (.ireturn, 1) := by decide +kernel
theorem dL_law_272 : decode code 272 = .ok (.iload 5, 2) := by decide +kernel
theorem dL_law_274 : decode code 274 = .ok (.ifCond .ne 15, 3) := by decide +kernel
theorem dL_law_277 : decode code 277 = .ok (.aload_n 3, 1) := by decide +kernel
theorem dL_law_278 : decode code 278 = .ok (.iconst 0, 1) := by decide +kernel
theorem dL_law_279 : decode code 279 = .ok (.laload, 1) := by decide +kernel
theorem dL_law_280 : decode code 280 = .ok (.iload 6, 2) := by decide +kernel
theorem dL_law_282 : decode code 282 = .ok (.i2l, 1) := by decide +kernel
theorem dL_law_283 : decode code 283 = .ok (.lcmp, 1) := by decide +kernel
theorem dL_law_284 : decode code 284 = .ok (.ifCond .eq 5, 3) := by decide +kernel
theorem dL_law_287 : decode code 287 = .ok (.iconst 0, 1) := by decide +kernel
theorem dL_law_288 : decode code 288 = .ok (.ireturn, 1) := by decide +kernel
theorem dL_law_289 : decode code 289 = .ok (.goto 530, 3) := by decide +kernel
theorem dL_law_292 : decode code 292 = .ok (.aload_n 1, 1) := by decide +kernel
theorem dL_law_293 : decode code 293 = .ok (.aload_n 0, 1) := by decide +kernel
theorem dL_law_294 : decode code 294 = .ok (.iload 4, 2) := by decide +kernel
theorem dL_law_296 : decode code 296 = .ok (.iconst 1, 1) := by decide +kernel
theorem dL_law_297 : decode code 297 = .ok (.iadd, 1) := by decide +kernel
theorem dL_law_298 : decode code 298 = .ok (.iaload, 1) := by decide +kernel
theorem dL_law_299 : decode code 299 = .ok (.aload_n 0, 1) := by decide +kernel
theorem dL_law_300 : decode code 300 = .ok (.iload 4, 2) := by decide +kernel
theorem dL_law_302 : decode code 302 = .ok (.iconst 2, 1) := by decide +kernel
theorem dL_law_303 : decode code 303 = .ok (.iadd, 1) := by decide +kernel
theorem dL_law_304 : decode code 304 = .ok (.iaload, 1) := by decide +kernel
theorem dL_law_305 : decode code 305 = .ok (.aload_n 0, 1) := by decide +kernel
theorem dL_law_306 : decode code 306 = .ok (.iload 4, 2) := by decide +kernel
theorem dL_law_308 : decode code 308 = .ok (.iconst 3, 1) := by decide +kernel
theorem dL_law_309 : decode code 309 = .ok (.iadd, 1) := by decide +kernel
theorem dL_law_310 : decode code 310 = .ok (.iaload, 1) := by decide +kernel
theorem dL_law_311 : decode code 311 = .ok (.aload_n 0, 1) := by decide +kernel
theorem dL_law_312 : decode code 312 = .ok (.iload 4, 2) := by decide +kernel
theorem dL_law_314 : decode code 314 = .ok (.iconst 4, 1) := by decide +kernel
theorem dL_law_315 : decode code 315 = .ok (.iadd, 1) := by decide +kernel
theorem dL_law_316 : decode code 316 = .ok (.iaload, 1) := by decide +kernel
theorem dL_law_317 : decode code 317 = .ok (.aload_n 3, 1) := by decide +kernel
theorem dL_law_318 : decode code 318 = .ok (.invokestatic 72, 3) := by decide +kernel
theorem dL_law_321 : decode code 321 = .ok (.istore 5, 2) := by decide +kernel
theorem dL_law_323 : decode code 323 = .ok (.aload_n 2, 1) := by decide +kernel
theorem dL_law_324 : decode code 324 = .ok (.aload_n 0, 1) := by decide +kernel
theorem dL_law_325 : decode code 325 = .ok (.iload 4, 2) := by decide +kernel
theorem dL_law_327 : decode code 327 = .ok (.iconst 1, 1) := by decide +kernel
theorem dL_law_328 : decode code 328 = .ok (.iadd, 1) := by decide +kernel
theorem dL_law_329 : decode code 329 = .ok (.iaload, 1) := by decide +kernel
theorem dL_law_330 : decode code 330 = .ok (.aload_n 0, 1) := by decide +kernel
theorem dL_law_331 : decode code 331 = .ok (.iload 4, 2) := by decide +kernel
theorem dL_law_333 : decode code 333 = .ok (.iconst 2, 1) := by decide +kernel
theorem dL_law_334 : decode code 334 = .ok (.iadd, 1) := by decide +kernel
theorem dL_law_335 : decode code 335 = .ok (.iaload, 1) := by decide +kernel
theorem dL_law_336 : decode code 336 = .ok (.aload_n 0, 1) := by decide +kernel
theorem dL_law_337 : decode code 337 = .ok (.iload 4, 2) := by decide +kernel
theorem dL_law_339 : decode code 339 = .ok (.iconst 3, 1) := by decide +kernel
theorem dL_law_340 : decode code 340 = .ok (.iadd, 1) := by decide +kernel
theorem dL_law_341 : decode code 341 = .ok (.iaload, 1) := by decide +kernel
theorem dL_law_342 : decode code 342 = .ok (.aload_n 0, 1) := by decide +kernel
theorem dL_law_343 : decode code 343 = .ok (.iload 4, 2) := by decide +kernel
theorem dL_law_345 : decode code 345 = .ok (.iconst 4, 1) := by decide +kernel
theorem dL_law_346 : decode code 346 = .ok (.iadd, 1) := by decide +kernel
theorem dL_law_347 : decode code 347 = .ok (.iaload, 1) := by decide +kernel
theorem dL_law_348 : decode code 348 = .ok (.invokevirtual 75, 3) := by decide +kernel
theorem dL_law_351 : decode code 351 = .ok (.istore 6, 2) := by decide +kernel
theorem dL_law_353 : decode code 353 = .ok (.aload_n 2, 1) := by decide +kernel
theorem dL_law_354 : decode code 354 = .ok (.invokevirtual 61, 3) := by decide +kernel
theorem dL_law_357 : decode code 357 = .ok (.iload 5, 2) := by decide +kernel
theorem dL_law_359 : decode code 359 = .ok (.if_icmp .eq 5, 3) := by decide +kernel
theorem dL_law_362 : decode code 362 = .ok (.iconst 0, 1) := by decide +kernel
theorem dL_law_363 : decode code 363 = .ok (.ireturn, 1) := by decide +kernel
theorem dL_law_364 : decode code 364 = .ok (.iload 5, 2) := by decide +kernel
theorem dL_law_366 : decode code 366 = .ok (.ifCond .ne 15, 3) := by decide +kernel
theorem dL_law_369 : decode code 369 = .ok (.aload_n 3, 1) := by decide +kernel
theorem dL_law_370 : decode code 370 = .ok (.iconst 0, 1) := by decide +kernel
theorem dL_law_371 : decode code 371 = .ok (.laload, 1) := by decide +kernel
theorem dL_law_372 : decode code 372 = .ok (.iload 6, 2) := by decide +kernel
theorem dL_law_374 : decode code 374 = .ok (.i2l, 1) := by decide +kernel
theorem dL_law_375 : decode code 375 = .ok (.lcmp, 1) := by decide +kernel
theorem dL_law_376 : decode code 376 = .ok (.ifCond .eq 5, 3) := by decide +kernel
theorem dL_law_379 : decode code 379 = .ok (.iconst 0, 1) := by decide +kernel
theorem dL_law_380 : decode code 380 = .ok (.ireturn, 1) := by decide +kernel
theorem dL_law_381 : decode code 381 = .ok (.goto 438, 3) := by decide +kernel
theorem dL_law_384 : decode code 384 = .ok (.aload_n 1, 1) := by decide +kernel
theorem dL_law_385 : decode code 385 = .ok (.aload_n 0, 1) := by decide +kernel
theorem dL_law_386 : decode code 386 = .ok (.iload 4, 2) := by decide +kernel
theorem dL_law_388 : decode code 388 = .ok (.iconst 1, 1) := by decide +kernel
theorem dL_law_389 : decode code 389 = .ok (.iadd, 1) := by decide +kernel
theorem dL_law_390 : decode code 390 = .ok (.iaload, 1) := by decide +kernel
theorem dL_law_391 : decode code 391 = .ok (.aload_n 0, 1) := by decide +kernel
theorem dL_law_392 : decode code 392 = .ok (.iload 4, 2) := by decide +kernel
theorem dL_law_394 : decode code 394 = .ok (.iconst 2, 1) := by decide +kernel
theorem dL_law_395 : decode code 395 = .ok (.iadd, 1) := by decide +kernel
theorem dL_law_396 : decode code 396 = .ok (.iaload, 1) := by decide +kernel
theorem dL_law_397 : decode code 397 = .ok (.ifCond .eq 7, 3) := by decide +kernel
theorem dL_law_400 : decode code 400 = .ok (.iconst 1, 1) := by decide +kernel
theorem dL_law_401 : decode code 401 = .ok (.goto 4, 3) := by decide +kernel
theorem dL_law_404 : decode code 404 = .ok (.iconst 0, 1) := by decide +kernel
theorem dL_law_405 : decode code 405 = .ok (.aload_n 3, 1) := by decide +kernel
theorem dL_law_406 : decode code 406 = .ok (.invokestatic 76, 3) := by decide +kernel
theorem dL_law_409 : decode code 409 = .ok (.istore 5, 2) := by decide +kernel
theorem dL_law_411 : decode code 411 = .ok (.aload_n 2, 1) := by decide +kernel
theorem dL_law_412 : decode code 412 = .ok (.aload_n 0, 1) := by decide +kernel
theorem dL_law_413 : decode code 413 = .ok (.iload 4, 2) := by decide +kernel
theorem dL_law_415 : decode code 415 = .ok (.iconst 1, 1) := by decide +kernel
theorem dL_law_416 : decode code 416 = .ok (.iadd, 1) := by decide +kernel
theorem dL_law_417 : decode code 417 = .ok (.iaload, 1) := by decide +kernel
theorem dL_law_418 : decode code 418 = .ok (.aload_n 0, 1) := by decide +kernel
theorem dL_law_419 : decode code 419 = .ok (.iload 4, 2) := by decide +kernel
theorem dL_law_421 : decode code 421 = .ok (.iconst 2, 1) := by decide +kernel
theorem dL_law_422 : decode code 422 = .ok (.iadd, 1) := by decide +kernel
theorem dL_law_423 : decode code 423 = .ok (.iaload, 1) := by decide +kernel
theorem dL_law_424 : decode code 424 = .ok (.ifCond .eq 7, 3) := by decide +kernel
theorem dL_law_427 : decode code 427 = .ok (.iconst 1, 1) := by decide +kernel
theorem dL_law_428 : decode code 428 = .ok (.goto 4, 3) := by decide +kernel
theorem dL_law_431 : decode code 431 = .ok (.iconst 0, 1) := by decide +kernel
theorem dL_law_432 : decode code 432 = .ok (.invokevirtual 79, 3) := by decide +kernel
theorem dL_law_435 : decode code 435 = .ok (.istore 6, 2) := by decide +kernel
theorem dL_law_437 : decode code 437 = .ok (.aload_n 2, 1) := by decide +kernel
theorem dL_law_438 : decode code 438 = .ok (.invokevirtual 61, 3) := by decide +kernel
theorem dL_law_441 : decode code 441 = .ok (.iload 5, 2) := by decide +kernel
theorem dL_law_443 : decode code 443 = .ok (.if_icmp .eq 5, 3) := by decide +kernel
theorem dL_law_446 : decode code 446 = .ok (.iconst 0, 1) := by decide +kernel
theorem dL_law_447 : decode code 447 = .ok (.ireturn, 1) := by decide +kernel
theorem dL_law_448 : decode code 448 = .ok (.iload 5, 2) := by decide +kernel
theorem dL_law_450 : decode code 450 = .ok (.ifCond .ne 22, 3) := by decide +kernel
theorem dL_law_453 : decode code 453 = .ok (.aload_n 3, 1) := by decide +kernel
theorem dL_law_454 : decode code 454 = .ok (.iconst 0, 1) := by decide +kernel
theorem dL_law_455 : decode code 455 = .ok (.laload, 1) := by decide +kernel
theorem dL_law_456 : decode code 456 = .ok (.iload 6, 2) := by decide +kernel
theorem dL_law_458 : decode code 458 = .ok (.ifCond .eq 7, 3) := by decide +kernel
theorem dL_law_461 : decode code 461 = .ok (.lconst 1, 1) := by decide +kernel
theorem dL_law_462 : decode code 462 = .ok (.goto 4, 3) := by decide +kernel
theorem dL_law_465 : decode code 465 = .ok (.lconst 0, 1) := by decide +kernel
theorem dL_law_466 : decode code 466 = .ok (.lcmp, 1) := by decide +kernel
theorem dL_law_467 : decode code 467 = .ok (.ifCond .eq 5, 3) := by decide +kernel
theorem dL_law_470 : decode code 470 = .ok (.iconst 0, 1) := by decide +kernel
theorem dL_law_471 : decode code 471 = .ok (.ireturn, 1) := by decide +kernel
theorem dL_law_472 : decode code 472 = .ok (.goto 347, 3) := by decide +kernel
theorem dL_law_475 : decode code 475 = .ok (.aload_n 1, 1) := by decide +kernel
theorem dL_law_476 : decode code 476 = .ok (.aload_n 0, 1) := by decide +kernel
theorem dL_law_477 : decode code 477 = .ok (.iload 4, 2) := by decide +kernel
theorem dL_law_479 : decode code 479 = .ok (.iconst 1, 1) := by decide +kernel
theorem dL_law_480 : decode code 480 = .ok (.iadd, 1) := by decide +kernel
theorem dL_law_481 : decode code 481 = .ok (.iaload, 1) := by decide +kernel
theorem dL_law_482 : decode code 482 = .ok (.aload_n 3, 1) := by decide +kernel
theorem dL_law_483 : decode code 483 = .ok (.invokestatic 80, 3) := by decide +kernel
theorem dL_law_486 : decode code 486 = .ok (.istore 5, 2) := by decide +kernel
theorem dL_law_488 : decode code 488 = .ok (.aload_n 2, 1) := by decide +kernel
theorem dL_law_489 : decode code 489 = .ok (.aload_n 0, 1) := by decide +kernel
theorem dL_law_490 : decode code 490 = .ok (.iload 4, 2) := by decide +kernel
theorem dL_law_492 : decode code 492 = .ok (.iconst 1, 1) := by decide +kernel
theorem dL_law_493 : decode code 493 = .ok (.iadd, 1) := by decide +kernel
theorem dL_law_494 : decode code 494 = .ok (.iaload, 1) := by decide +kernel
theorem dL_law_495 : decode code 495 = .ok (.invokevirtual 83, 3) := by decide +kernel
theorem dL_law_498 : decode code 498 = .ok (.istore 6, 2) := by decide +kernel
theorem dL_law_500 : decode code 500 = .ok (.aload_n 2, 1) := by decide +kernel
theorem dL_law_501 : decode code 501 = .ok (.invokevirtual 61, 3) := by decide +kernel
theorem dL_law_504 : decode code 504 = .ok (.iload 5, 2) := by decide +kernel
theorem dL_law_506 : decode code 506 = .ok (.if_icmp .eq 5, 3) := by decide +kernel
theorem dL_law_509 : decode code 509 = .ok (.iconst 0, 1) := by decide +kernel
theorem dL_law_510 : decode code 510 = .ok (.ireturn, 1) := by decide +kernel
theorem dL_law_511 : decode code 511 = .ok (.iload 5, 2) := by decide +kernel
theorem dL_law_513 : decode code 513 = .ok (.ifCond .ne 22, 3) := by decide +kernel
theorem dL_law_516 : decode code 516 = .ok (.aload_n 3, 1) := by decide +kernel
theorem dL_law_517 : decode code 517 = .ok (.iconst 0, 1) := by decide +kernel
theorem dL_law_518 : decode code 518 = .ok (.laload, 1) := by decide +kernel
theorem dL_law_519 : decode code 519 = .ok (.iload 6, 2) := by decide +kernel
theorem dL_law_521 : decode code 521 = .ok (.ifCond .eq 7, 3) := by decide +kernel
theorem dL_law_524 : decode code 524 = .ok (.lconst 1, 1) := by decide +kernel
theorem dL_law_525 : decode code 525 = .ok (.goto 4, 3) := by decide +kernel
theorem dL_law_528 : decode code 528 = .ok (.lconst 0, 1) := by decide +kernel
theorem dL_law_529 : decode code 529 = .ok (.lcmp, 1) := by decide +kernel
theorem dL_law_530 : decode code 530 = .ok (.ifCond .eq 5, 3) := by decide +kernel
theorem dL_law_533 : decode code 533 = .ok (.iconst 0, 1) := by decide +kernel
theorem dL_law_534 : decode code 534 = .ok (.ireturn, 1) := by decide +kernel
theorem dL_law_535 : decode code 535 = .ok (.goto 284, 3) := by decide +kernel
theorem dL_law_538 : decode code 538 = .ok (.aload_n 1, 1) := by decide +kernel
theorem dL_law_539 : decode code 539 = .ok (.aload_n 0, 1) := by decide +kernel
theorem dL_law_540 : decode code 540 = .ok (.iload 4, 2) := by decide +kernel
theorem dL_law_542 : decode code 542 = .ok (.iconst 1, 1) := by decide +kernel
theorem dL_law_543 : decode code 543 = .ok (.iadd, 1) := by decide +kernel
theorem dL_law_544 : decode code 544 = .ok (.iaload, 1) := by decide +kernel
theorem dL_law_545 : decode code 545 = .ok (.aload_n 0, 1) := by decide +kernel
theorem dL_law_546 : decode code 546 = .ok (.iload 4, 2) := by decide +kernel
theorem dL_law_548 : decode code 548 = .ok (.iconst 2, 1) := by decide +kernel
theorem dL_law_549 : decode code 549 = .ok (.iadd, 1) := by decide +kernel
theorem dL_law_550 : decode code 550 = .ok (.iaload, 1) := by decide +kernel
theorem dL_law_551 : decode code 551 = .ok (.aload_n 3, 1) := by decide +kernel
theorem dL_law_552 : decode code 552 = .ok (.invokestatic 84, 3) := by decide +kernel
theorem dL_law_555 : decode code 555 = .ok (.istore 5, 2) := by decide +kernel
theorem dL_law_557 : decode code 557 = .ok (.aload_n 2, 1) := by decide +kernel
theorem dL_law_558 : decode code 558 = .ok (.aload_n 0, 1) := by decide +kernel
theorem dL_law_559 : decode code 559 = .ok (.iload 4, 2) := by decide +kernel
theorem dL_law_561 : decode code 561 = .ok (.iconst 1, 1) := by decide +kernel
theorem dL_law_562 : decode code 562 = .ok (.iadd, 1) := by decide +kernel
theorem dL_law_563 : decode code 563 = .ok (.iaload, 1) := by decide +kernel
theorem dL_law_564 : decode code 564 = .ok (.aload_n 0, 1) := by decide +kernel
theorem dL_law_565 : decode code 565 = .ok (.iload 4, 2) := by decide +kernel
theorem dL_law_567 : decode code 567 = .ok (.iconst 2, 1) := by decide +kernel
theorem dL_law_568 : decode code 568 = .ok (.iadd, 1) := by decide +kernel
theorem dL_law_569 : decode code 569 = .ok (.iaload, 1) := by decide +kernel
theorem dL_law_570 : decode code 570 = .ok (.invokevirtual 86, 3) := by decide +kernel
theorem dL_law_573 : decode code 573 = .ok (.istore 6, 2) := by decide +kernel
theorem dL_law_575 : decode code 575 = .ok (.aload_n 2, 1) := by decide +kernel
theorem dL_law_576 : decode code 576 = .ok (.invokevirtual 61, 3) := by decide +kernel
theorem dL_law_579 : decode code 579 = .ok (.iload 5, 2) := by decide +kernel
theorem dL_law_581 : decode code 581 = .ok (.if_icmp .eq 5, 3) := by decide +kernel
theorem dL_law_584 : decode code 584 = .ok (.iconst 0, 1) := by decide +kernel
theorem dL_law_585 : decode code 585 = .ok (.ireturn, 1) := by decide +kernel
theorem dL_law_586 : decode code 586 = .ok (.iload 5, 2) := by decide +kernel
theorem dL_law_588 : decode code 588 = .ok (.ifCond .ne 15, 3) := by decide +kernel
theorem dL_law_591 : decode code 591 = .ok (.aload_n 3, 1) := by decide +kernel
theorem dL_law_592 : decode code 592 = .ok (.iconst 0, 1) := by decide +kernel
theorem dL_law_593 : decode code 593 = .ok (.laload, 1) := by decide +kernel
theorem dL_law_594 : decode code 594 = .ok (.iload 6, 2) := by decide +kernel
theorem dL_law_596 : decode code 596 = .ok (.i2l, 1) := by decide +kernel
theorem dL_law_597 : decode code 597 = .ok (.lcmp, 1) := by decide +kernel
theorem dL_law_598 : decode code 598 = .ok (.ifCond .eq 5, 3) := by decide +kernel
theorem dL_law_601 : decode code 601 = .ok (.iconst 0, 1) := by decide +kernel
theorem dL_law_602 : decode code 602 = .ok (.ireturn, 1) := by decide +kernel
theorem dL_law_603 : decode code 603 = .ok (.goto 216, 3) := by decide +kernel
theorem dL_law_606 : decode code 606 = .ok (.aload_n 1, 1) := by decide +kernel
theorem dL_law_607 : decode code 607 = .ok (.aload_n 0, 1) := by decide +kernel
theorem dL_law_608 : decode code 608 = .ok (.iload 4, 2) := by decide +kernel
theorem dL_law_610 : decode code 610 = .ok (.iconst 1, 1) := by decide +kernel
theorem dL_law_611 : decode code 611 = .ok (.iadd, 1) := by decide +kernel
theorem dL_law_612 : decode code 612 = .ok (.iaload, 1) := by decide +kernel
theorem dL_law_613 : decode code 613 = .ok (.aload_n 3, 1) := by decide +kernel
theorem dL_law_614 : decode code 614 = .ok (.invokestatic 87, 3) := by decide +kernel
theorem dL_law_617 : decode code 617 = .ok (.istore 5, 2) := by decide +kernel
theorem dL_law_619 : decode code 619 = .ok (.aload_n 2, 1) := by decide +kernel
theorem dL_law_620 : decode code 620 = .ok (.aload_n 0, 1) := by decide +kernel
theorem dL_law_621 : decode code 621 = .ok (.iload 4, 2) := by decide +kernel
theorem dL_law_623 : decode code 623 = .ok (.iconst 1, 1) := by decide +kernel
theorem dL_law_624 : decode code 624 = .ok (.iadd, 1) := by decide +kernel
theorem dL_law_625 : decode code 625 = .ok (.iaload, 1) := by decide +kernel
theorem dL_law_626 : decode code 626 = .ok (.invokevirtual 89, 3) := by decide +kernel
theorem dL_law_629 : decode code 629 = .ok (.istore 6, 2) := by decide +kernel
theorem dL_law_631 : decode code 631 = .ok (.aload_n 2, 1) := by decide +kernel
theorem dL_law_632 : decode code 632 = .ok (.invokevirtual 61, 3) := by decide +kernel
theorem dL_law_635 : decode code 635 = .ok (.iload 5, 2) := by decide +kernel
theorem dL_law_637 : decode code 637 = .ok (.if_icmp .eq 5, 3) := by decide +kernel
theorem dL_law_640 : decode code 640 = .ok (.iconst 0, 1) := by decide +kernel
theorem dL_law_641 : decode code 641 = .ok (.ireturn, 1) := by decide +kernel
theorem dL_law_642 : decode code 642 = .ok (.iload 5, 2) := by decide +kernel
theorem dL_law_644 : decode code 644 = .ok (.ifCond .ne 15, 3) := by decide +kernel
theorem dL_law_647 : decode code 647 = .ok (.aload_n 3, 1) := by decide +kernel
theorem dL_law_648 : decode code 648 = .ok (.iconst 0, 1) := by decide +kernel
theorem dL_law_649 : decode code 649 = .ok (.laload, 1) := by decide +kernel
theorem dL_law_650 : decode code 650 = .ok (.iload 6, 2) := by decide +kernel
theorem dL_law_652 : decode code 652 = .ok (.i2l, 1) := by decide +kernel
theorem dL_law_653 : decode code 653 = .ok (.lcmp, 1) := by decide +kernel
theorem dL_law_654 : decode code 654 = .ok (.ifCond .eq 5, 3) := by decide +kernel
theorem dL_law_657 : decode code 657 = .ok (.iconst 0, 1) := by decide +kernel
theorem dL_law_658 : decode code 658 = .ok (.ireturn, 1) := by decide +kernel
theorem dL_law_659 : decode code 659 = .ok (.goto 160, 3) := by decide +kernel
theorem dL_law_662 : decode code 662 = .ok (.aload_n 1, 1) := by decide +kernel
theorem dL_law_663 : decode code 663 = .ok (.aload_n 0, 1) := by decide +kernel
theorem dL_law_664 : decode code 664 = .ok (.iload 4, 2) := by decide +kernel
theorem dL_law_666 : decode code 666 = .ok (.iconst 1, 1) := by decide +kernel
theorem dL_law_667 : decode code 667 = .ok (.iadd, 1) := by decide +kernel
theorem dL_law_668 : decode code 668 = .ok (.iaload, 1) := by decide +kernel
theorem dL_law_669 : decode code 669 = .ok (.aload_n 0, 1) := by decide +kernel
theorem dL_law_670 : decode code 670 = .ok (.iload 4, 2) := by decide +kernel
theorem dL_law_672 : decode code 672 = .ok (.iconst 2, 1) := by decide +kernel
theorem dL_law_673 : decode code 673 = .ok (.iadd, 1) := by decide +kernel
theorem dL_law_674 : decode code 674 = .ok (.iaload, 1) := by decide +kernel
theorem dL_law_675 : decode code 675 = .ok (.aload_n 3, 1) := by decide +kernel
theorem dL_law_676 : decode code 676 = .ok (.invokestatic 90, 3) := by decide +kernel
theorem dL_law_679 : decode code 679 = .ok (.istore 5, 2) := by decide +kernel
theorem dL_law_681 : decode code 681 = .ok (.aload_n 2, 1) := by decide +kernel
theorem dL_law_682 : decode code 682 = .ok (.aload_n 0, 1) := by decide +kernel
theorem dL_law_683 : decode code 683 = .ok (.iload 4, 2) := by decide +kernel
theorem dL_law_685 : decode code 685 = .ok (.iconst 1, 1) := by decide +kernel
theorem dL_law_686 : decode code 686 = .ok (.iadd, 1) := by decide +kernel
theorem dL_law_687 : decode code 687 = .ok (.iaload, 1) := by decide +kernel
theorem dL_law_688 : decode code 688 = .ok (.aload_n 0, 1) := by decide +kernel
theorem dL_law_689 : decode code 689 = .ok (.iload 4, 2) := by decide +kernel
theorem dL_law_691 : decode code 691 = .ok (.iconst 2, 1) := by decide +kernel
theorem dL_law_692 : decode code 692 = .ok (.iadd, 1) := by decide +kernel
theorem dL_law_693 : decode code 693 = .ok (.iaload, 1) := by decide +kernel
theorem dL_law_694 : decode code 694 = .ok (.invokevirtual 92, 3) := by decide +kernel
theorem dL_law_697 : decode code 697 = .ok (.istore 6, 2) := by decide +kernel
theorem dL_law_699 : decode code 699 = .ok (.aload_n 2, 1) := by decide +kernel
theorem dL_law_700 : decode code 700 = .ok (.invokevirtual 61, 3) := by decide +kernel
theorem dL_law_703 : decode code 703 = .ok (.iload 5, 2) := by decide +kernel
theorem dL_law_705 : decode code 705 = .ok (.if_icmp .eq 5, 3) := by decide +kernel
theorem dL_law_708 : decode code 708 = .ok (.iconst 0, 1) := by decide +kernel
theorem dL_law_709 : decode code 709 = .ok (.ireturn, 1) := by decide +kernel
theorem dL_law_710 : decode code 710 = .ok (.iload 5, 2) := by decide +kernel
theorem dL_law_712 : decode code 712 = .ok (.ifCond .ne 22, 3) := by decide +kernel
theorem dL_law_715 : decode code 715 = .ok (.aload_n 3, 1) := by decide +kernel
theorem dL_law_716 : decode code 716 = .ok (.iconst 0, 1) := by decide +kernel
theorem dL_law_717 : decode code 717 = .ok (.laload, 1) := by decide +kernel
theorem dL_law_718 : decode code 718 = .ok (.iload 6, 2) := by decide +kernel
theorem dL_law_720 : decode code 720 = .ok (.ifCond .eq 7, 3) := by decide +kernel
theorem dL_law_723 : decode code 723 = .ok (.lconst 1, 1) := by decide +kernel
theorem dL_law_724 : decode code 724 = .ok (.goto 4, 3) := by decide +kernel
theorem dL_law_727 : decode code 727 = .ok (.lconst 0, 1) := by decide +kernel
theorem dL_law_728 : decode code 728 = .ok (.lcmp, 1) := by decide +kernel
theorem dL_law_729 : decode code 729 = .ok (.ifCond .eq 5, 3) := by decide +kernel
theorem dL_law_732 : decode code 732 = .ok (.iconst 0, 1) := by decide +kernel
theorem dL_law_733 : decode code 733 = .ok (.ireturn, 1) := by decide +kernel
theorem dL_law_734 : decode code 734 = .ok (.goto 85, 3) := by decide +kernel
theorem dL_law_737 : decode code 737 = .ok (.aload_n 1, 1) := by decide +kernel
theorem dL_law_738 : decode code 738 = .ok (.aload_n 0, 1) := by decide +kernel
theorem dL_law_739 : decode code 739 = .ok (.iload 4, 2) := by decide +kernel
theorem dL_law_741 : decode code 741 = .ok (.iconst 1, 1) := by decide +kernel
theorem dL_law_742 : decode code 742 = .ok (.iadd, 1) := by decide +kernel
theorem dL_law_743 : decode code 743 = .ok (.iaload, 1) := by decide +kernel
theorem dL_law_744 : decode code 744 = .ok (.aload_n 3, 1) := by decide +kernel
theorem dL_law_745 : decode code 745 = .ok (.invokestatic 93, 3) := by decide +kernel
theorem dL_law_748 : decode code 748 = .ok (.istore 5, 2) := by decide +kernel
theorem dL_law_750 : decode code 750 = .ok (.aload_n 2, 1) := by decide +kernel
theorem dL_law_751 : decode code 751 = .ok (.aload_n 0, 1) := by decide +kernel
theorem dL_law_752 : decode code 752 = .ok (.iload 4, 2) := by decide +kernel
theorem dL_law_754 : decode code 754 = .ok (.iconst 1, 1) := by decide +kernel
theorem dL_law_755 : decode code 755 = .ok (.iadd, 1) := by decide +kernel
theorem dL_law_756 : decode code 756 = .ok (.iaload, 1) := by decide +kernel
theorem dL_law_757 : decode code 757 = .ok (.invokevirtual 95, 3) := by decide +kernel
theorem dL_law_760 : decode code 760 = .ok (.istore 6, 2) := by decide +kernel
theorem dL_law_762 : decode code 762 = .ok (.aload_n 2, 1) := by decide +kernel
theorem dL_law_763 : decode code 763 = .ok (.invokevirtual 61, 3) := by decide +kernel
theorem dL_law_766 : decode code 766 = .ok (.iload 5, 2) := by decide +kernel
theorem dL_law_768 : decode code 768 = .ok (.if_icmp .eq 5, 3) := by decide +kernel
theorem dL_law_771 : decode code 771 = .ok (.iconst 0, 1) := by decide +kernel
theorem dL_law_772 : decode code 772 = .ok (.ireturn, 1) := by decide +kernel
theorem dL_law_773 : decode code 773 = .ok (.iload 5, 2) := by decide +kernel
theorem dL_law_775 : decode code 775 = .ok (.ifCond .ne 15, 3) := by decide +kernel
theorem dL_law_778 : decode code 778 = .ok (.aload_n 3, 1) := by decide +kernel
theorem dL_law_779 : decode code 779 = .ok (.iconst 0, 1) := by decide +kernel
theorem dL_law_780 : decode code 780 = .ok (.laload, 1) := by decide +kernel
theorem dL_law_781 : decode code 781 = .ok (.iload 6, 2) := by decide +kernel
theorem dL_law_783 : decode code 783 = .ok (.i2l, 1) := by decide +kernel
theorem dL_law_784 : decode code 784 = .ok (.lcmp, 1) := by decide +kernel
theorem dL_law_785 : decode code 785 = .ok (.ifCond .eq 5, 3) := by decide +kernel
theorem dL_law_788 : decode code 788 = .ok (.iconst 0, 1) := by decide +kernel
theorem dL_law_789 : decode code 789 = .ok (.ireturn, 1) := by decide +kernel
theorem dL_law_790 : decode code 790 = .ok (.goto 29, 3) := by decide +kernel
theorem dL_law_793 : decode code 793 = .ok (.aload_n 1, 1) := by decide +kernel
theorem dL_law_794 : decode code 794 = .ok (.invokevirtual 96, 3) := by decide +kernel
theorem dL_law_797 : decode code 797 = .ok (.aload_n 2, 1) := by decide +kernel
theorem dL_law_798 : decode code 798 = .ok (.invokevirtual 99, 3) := by decide +kernel
theorem dL_law_801 : decode code 801 = .ok (.if_icmp .eq 18, 3) := by decide +kernel
theorem dL_law_804 : decode code 804 = .ok (.iconst 0, 1) := by decide +kernel
theorem dL_law_805 : decode code 805 = .ok (.ireturn, 1) := by decide +kernel
theorem dL_law_806 : decode code 806 = .ok (.aload_n 1, 1) := by decide +kernel
theorem dL_law_807 : decode code 807 = .ok (.invokevirtual 100, 3) := by decide +kernel
theorem dL_law_810 : decode code 810 = .ok (.aload_n 2, 1) := by decide +kernel
theorem dL_law_811 : decode code 811 = .ok (.invokevirtual 103, 3) := by decide +kernel
theorem dL_law_814 : decode code 814 = .ok (.if_icmp .eq 5, 3) := by decide +kernel
theorem dL_law_817 : decode code 817 = .ok (.iconst 0, 1) := by decide +kernel
theorem dL_law_818 : decode code 818 = .ok (.ireturn, 1) := by decide +kernel
theorem dL_law_819 : decode code 819 = .ok (.iinc 4 5, 3) := by decide +kernel
theorem dL_law_822 : decode code 822 = .ok (.goto (-799), 3) := by decide +kernel
theorem dL_law_825 : decode code 825 = .ok (.iconst 1, 1) := by decide +kernel
theorem dL_law_826 : decode code 826 = .ok (.ireturn, 1) := by decide +kernel
theorem dL_three_0 : decode cL_three 0 = .ok (.aload 5, 2) := by decide +kernel
theorem dL_three_2 : decode cL_three 2 = .ok (.iconst 0, 1) := by decide +kernel
theorem dL_three_3 : decode cL_three 3 = .ok (.aload_n 0, 1) := by decide +kernel
theorem dL_three_4 : decode cL_three 4 = .ok (.iload_n 1, 1) := by decide +kernel
theorem dL_three_5 : decode cL_three 5 = .ok (.iload_n 2, 1) := by decide +kernel
theorem dL_three_6 : decode cL_three 6 = .ok (.iload_n 3, 1) := by decide +kernel
theorem dL_three_7 : decode cL_three 7 = .ok (.iload 4, 2) := by decide +kernel
theorem dL_three_9 : decode cL_three 9 = .ok (.invokevirtual 25, 3) := by decide +kernel
theorem dL_three_12 : decode cL_three 12 = .ok (.i2l, 1) := by decide +kernel
theorem dL_three_13 : decode cL_three 13 = .ok (.lastore, 1) := by decide +kernel
theorem dL_three_14 : decode cL_three 14 = .ok (.goto 11, 3) := by decide +kernel
theorem dL_three_17 : decode cL_three 17 = .ok (.astore 6, 2) := by decide +kernel
theorem dL_three_19 : decode cL_three 19 = .ok (.iconst 1, 1) := by decide +kernel
theorem dL_three_20 : decode cL_three 20 = .ok (.ireturn, 1) := by decide +kernel
theorem dL_three_21 : decode cL_three 21 = .ok (.astore 6, 2) := by decide +kernel
theorem dL_three_23 : decode cL_three 23 = .ok (.iconst 2, 1) := by decide +kernel
theorem dL_three_24 : decode cL_three 24 = .ok (.ireturn, 1) := by decide +kernel
theorem dL_three_25 : decode cL_three 25 = .ok (.iconst 0, 1) := by decide +kernel
theorem dL_three_26 : decode cL_three 26 = .ok (.ireturn, 1) := by decide +kernel
theorem dL_set_0 : decode cL_set 0 = .ok (.aload_n 3, 1) := by decide +kernel
theorem dL_set_1 : decode cL_set 1 = .ok (.iconst 0, 1) := by decide +kernel
theorem dL_set_2 : decode cL_set 2 = .ok (.aload_n 0, 1) := by decide +kernel
theorem dL_set_3 : decode cL_set 3 = .ok (.iload_n 1, 1) := by decide +kernel
theorem dL_set_4 : decode cL_set 4 = .ok (.iload_n 2, 1) := by decide +kernel
theorem dL_set_5 : decode cL_set 5 = .ok (.invokevirtual 29, 3) := by decide +kernel
theorem dL_set_8 : decode cL_set 8 = .ok (.ifCond .eq 7, 3) := by decide +kernel
theorem dL_set_11 : decode cL_set 11 = .ok (.lconst 1, 1) := by decide +kernel
theorem dL_set_12 : decode cL_set 12 = .ok (.goto 4, 3) := by decide +kernel
theorem dL_set_15 : decode cL_set 15 = .ok (.lconst 0, 1) := by decide +kernel
theorem dL_set_16 : decode cL_set 16 = .ok (.lastore, 1) := by decide +kernel
theorem dL_set_17 : decode cL_set 17 = .ok (.goto 7, 3) := by decide +kernel
theorem dL_set_20 : decode cL_set 20 = .ok (.astore 4, 2) := by decide +kernel
theorem dL_set_22 : decode cL_set 22 = .ok (.iconst 1, 1) := by decide +kernel
theorem dL_set_23 : decode cL_set 23 = .ok (.ireturn, 1) := by decide +kernel
theorem dL_set_24 : decode cL_set 24 = .ok (.iconst 0, 1) := by decide +kernel
theorem dL_set_25 : decode cL_set 25 = .ok (.ireturn, 1) := by decide +kernel
theorem dL_value_0 : decode cL_value 0 = .ok (.aload_n 2, 1) := by decide +kernel
theorem dL_value_1 : decode cL_value 1 = .ok (.iconst 0, 1) := by decide +kernel
theorem dL_value_2 : decode cL_value 2 = .ok (.aload_n 0, 1) := by decide +kernel
theorem dL_value_3 : decode cL_value 3 = .ok (.iload_n 1, 1) := by decide +kernel
theorem dL_value_4 : decode cL_value 4 = .ok (.invokevirtual 33, 3) := by decide +kernel
theorem dL_value_7 : decode cL_value 7 = .ok (.ifCond .eq 7, 3) := by decide +kernel
theorem dL_value_10 : decode cL_value 10 = .ok (.lconst 1, 1) := by decide +kernel
theorem dL_value_11 : decode cL_value 11 = .ok (.goto 4, 3) := by decide +kernel
theorem dL_value_14 : decode cL_value 14 = .ok (.lconst 0, 1) := by decide +kernel
theorem dL_value_15 : decode cL_value 15 = .ok (.lastore, 1) := by decide +kernel
theorem dL_value_16 : decode cL_value 16 = .ok (.goto 6, 3) := by decide +kernel
theorem dL_value_19 : decode cL_value 19 = .ok (.astore_n 3, 1) := by decide +kernel
theorem dL_value_20 : decode cL_value 20 = .ok (.iconst 1, 1) := by decide +kernel
theorem dL_value_21 : decode cL_value 21 = .ok (.ireturn, 1) := by decide +kernel
theorem dL_value_22 : decode cL_value 22 = .ok (.iconst 0, 1) := by decide +kernel
theorem dL_value_23 : decode cL_value 23 = .ok (.ireturn, 1) := by decide +kernel
theorem dL_node_0 : decode cL_node 0 = .ok (.aload_n 3, 1) := by decide +kernel
theorem dL_node_1 : decode cL_node 1 = .ok (.iconst 0, 1) := by decide +kernel
theorem dL_node_2 : decode cL_node 2 = .ok (.aload_n 0, 1) := by decide +kernel
theorem dL_node_3 : decode cL_node 3 = .ok (.iload_n 1, 1) := by decide +kernel
theorem dL_node_4 : decode cL_node 4 = .ok (.iload_n 2, 1) := by decide +kernel
theorem dL_node_5 : decode cL_node 5 = .ok (.invokevirtual 37, 3) := by decide +kernel
theorem dL_node_8 : decode cL_node 8 = .ok (.i2l, 1) := by decide +kernel
theorem dL_node_9 : decode cL_node 9 = .ok (.lastore, 1) := by decide +kernel
theorem dL_node_10 : decode cL_node 10 = .ok (.goto 7, 3) := by decide +kernel
theorem dL_node_13 : decode cL_node 13 = .ok (.astore 4, 2) := by decide +kernel
theorem dL_node_15 : decode cL_node 15 = .ok (.iconst 1, 1) := by decide +kernel
theorem dL_node_16 : decode cL_node 16 = .ok (.ireturn, 1) := by decide +kernel
theorem dL_node_17 : decode cL_node 17 = .ok (.iconst 0, 1) := by decide +kernel
theorem dL_node_18 : decode cL_node 18 = .ok (.ireturn, 1) := by decide +kernel
theorem dL_cone_0 : decode cL_cone 0 = .ok (.aload_n 2, 1) := by decide +kernel
theorem dL_cone_1 : decode cL_cone 1 = .ok (.iconst 0, 1) := by decide +kernel
theorem dL_cone_2 : decode cL_cone 2 = .ok (.aload_n 0, 1) := by decide +kernel
theorem dL_cone_3 : decode cL_cone 3 = .ok (.iload_n 1, 1) := by decide +kernel
theorem dL_cone_4 : decode cL_cone 4 = .ok (.invokevirtual 40, 3) := by decide +kernel
theorem dL_cone_7 : decode cL_cone 7 = .ok (.i2l, 1) := by decide +kernel
theorem dL_cone_8 : decode cL_cone 8 = .ok (.lastore, 1) := by decide +kernel
theorem dL_cone_9 : decode cL_cone 9 = .ok (.goto 6, 3) := by decide +kernel
theorem dL_cone_12 : decode cL_cone 12 = .ok (.astore_n 3, 1) := by decide +kernel
theorem dL_cone_13 : decode cL_cone 13 = .ok (.iconst 1, 1) := by decide +kernel
theorem dL_cone_14 : decode cL_cone 14 = .ok (.ireturn, 1) := by decide +kernel
theorem dL_cone_15 : decode cL_cone 15 = .ok (.iconst 0, 1) := by decide +kernel
theorem dL_cone_16 : decode cL_cone 16 = .ok (.ireturn, 1) := by decide +kernel
theorem dL_below_0 : decode cL_below 0 = .ok (.aload_n 3, 1) := by decide +kernel
theorem dL_below_1 : decode cL_below 1 = .ok (.iconst 0, 1) := by decide +kernel
theorem dL_below_2 : decode cL_below 2 = .ok (.aload_n 0, 1) := by decide +kernel
theorem dL_below_3 : decode cL_below 3 = .ok (.iload_n 1, 1) := by decide +kernel
theorem dL_below_4 : decode cL_below 4 = .ok (.iload_n 2, 1) := by decide +kernel
theorem dL_below_5 : decode cL_below 5 = .ok (.invokevirtual 44, 3) := by decide +kernel
theorem dL_below_8 : decode cL_below 8 = .ok (.ifCond .eq 7, 3) := by decide +kernel
theorem dL_below_11 : decode cL_below 11 = .ok (.lconst 1, 1) := by decide +kernel
theorem dL_below_12 : decode cL_below 12 = .ok (.goto 4, 3) := by decide +kernel
theorem dL_below_15 : decode cL_below 15 = .ok (.lconst 0, 1) := by decide +kernel
theorem dL_below_16 : decode cL_below 16 = .ok (.lastore, 1) := by decide +kernel
theorem dL_below_17 : decode cL_below 17 = .ok (.goto 7, 3) := by decide +kernel
theorem dL_below_20 : decode cL_below 20 = .ok (.astore 4, 2) := by decide +kernel
theorem dL_below_22 : decode cL_below 22 = .ok (.iconst 1, 1) := by decide +kernel
theorem dL_below_23 : decode cL_below 23 = .ok (.ireturn, 1) := by decide +kernel
theorem dL_below_24 : decode cL_below 24 = .ok (.iconst 0, 1) := by decide +kernel
theorem dL_below_25 : decode cL_below 25 = .ok (.ireturn, 1) := by decide +kernel
theorem dL_depth_0 : decode cL_depth 0 = .ok (.aload_n 2, 1) := by decide +kernel
theorem dL_depth_1 : decode cL_depth 1 = .ok (.iconst 0, 1) := by decide +kernel
theorem dL_depth_2 : decode cL_depth 2 = .ok (.aload_n 0, 1) := by decide +kernel
theorem dL_depth_3 : decode cL_depth 3 = .ok (.iload_n 1, 1) := by decide +kernel
theorem dL_depth_4 : decode cL_depth 4 = .ok (.invokevirtual 48, 3) := by decide +kernel
theorem dL_depth_7 : decode cL_depth 7 = .ok (.i2l, 1) := by decide +kernel
theorem dL_depth_8 : decode cL_depth 8 = .ok (.lastore, 1) := by decide +kernel
theorem dL_depth_9 : decode cL_depth 9 = .ok (.goto 6, 3) := by decide +kernel
theorem dL_depth_12 : decode cL_depth 12 = .ok (.astore_n 3, 1) := by decide +kernel
theorem dL_depth_13 : decode cL_depth 13 = .ok (.iconst 1, 1) := by decide +kernel
theorem dL_depth_14 : decode cL_depth 14 = .ok (.ireturn, 1) := by decide +kernel
theorem dL_depth_15 : decode cL_depth 15 = .ok (.iconst 0, 1) := by decide +kernel
theorem dL_depth_16 : decode cL_depth 16 = .ok (.ireturn, 1) := by decide +kernel
end
section
-- ===== the bench: one object, eight rows of ints, three numbers =====
abbrev gb_fs (ad : Nat → Nat) (iv : Nat → Int32) : List Value := [.ref (ad 0), .ref (ad 1), .ref (ad 2), .ref (ad 3), .ref (ad 4), .ref (ad 5), .ref (ad 6), .ref (ad 7), .int (iv 0), .int (iv 1), .int (iv 2)]
/-- the cells, each row with a length of its own -/
abbrev gWm (h0 : Nat) (cI : ClassId) (nn : Nat → Nat) (ad : Nat → Nat) (ar : Nat → Nat → Int32) (iv : Nat → Int32) : va_W := [(h0, .inr (0, gb_fs ad iv)), (ad 0, .inl (cI, nn 0, .inl (ar 0))), (ad 1, .inl (cI, nn 1, .inl (ar 1))), (ad 2, .inl (cI, nn 2, .inl (ar 2))), (ad 3, .inl (cI, nn 3, .inl (ar 3))), (ad 4, .inl (cI, nn 4, .inl (ar 4))), (ad 5, .inl (cI, nn 5, .inl (ar 5))), (ad 6, .inl (cI, nn 6, .inl (ar 6))), (ad 7, .inl (cI, nn 7, .inl (ar 7)))]
abbrev gW (h0 : Nat) (cI : ClassId) (n : Nat) (ad : Nat → Nat) (ar : Nat → Nat → Int32) (iv : Nat → Int32) : va_W := gWm h0 cI (fun _ => n) ad ar iv
/-- length, addresses, rows, numbers -/
abbrev GS : Type := Nat × (Nat → Nat) × (Nat → Nat → Int32) × (Nat → Int32)
abbrev gb_at (D : va_G) (cI : ClassId) (A : Nat → Prop) (h0 : Nat) (u : GS) (t : State) : Prop := va_P D vwCl (gW h0 cI u.1 u.2.1 u.2.2.1 u.2.2.2) t.heap ∧ va_K D vwCl [(cI, .int)] t ∧ va_D A (gW h0 cI u.1 u.2.1 u.2.2.1 u.2.2.2)
-- ===== starts of contracts =====
/-- of a method that only reads -/
def rP (D : va_G) (ws : va_W) (tys : List (ClassId × FieldType)) (av : List Value) : Array Value → State → Prop := va_Pc av (fun U => va_P D vwCl ws U.heap ∧ va_K D vwCl tys U)
theorem rP_blind {D : va_G} {ws : va_W} {tys : List (ClassId × FieldType)} {av : List Value} : FrameBlind (rP D ws tys av) := fun a U g mk q => by
  obtain ⟨q1, q2, q3⟩ := q
  exact ⟨q1, q2, va_K.moved (u := U) (U := U.calling g mk a) (Vm.Alike.refl U.vm) q3⟩
theorem rP_V {D : va_G} {ws : va_W} {tys : List (ClassId × FieldType)} {s : State} {H : Heap} {C : String} {b : Nat} {As : List Value} (hK : va_K D vwCl tys s) (hP : va_P D vwCl ws H) (hr : ∃ cell : Cell, H[b]? = some cell ∧ cell.vm.isStatics = false ∧ s.vm.findClass C = some cell.cls) : PreV s H C b (rP D ws tys (.ref b :: As)) As :=
  ⟨rP_blind, hr, fun U hU hW => ⟨rfl, by rw [hU]; exact hP, va_K.moved hW.alike hK⟩⟩
theorem rP_S {D : va_G} {ws : va_W} {tys : List (ClassId × FieldType)} {s : State} {H : Heap} {As : List Value} (hK : va_K D vwCl tys s) (hP : va_P D vwCl ws H) : PreS s H (rP D ws tys As) As :=
  ⟨rP_blind, fun U hU hW => ⟨rfl, by rw [hU]; exact hP, va_K.moved hW.alike hK⟩⟩
/-- of a method that writes -/
def mP (D : va_G) (ws : va_W) (tys : List (ClassId × FieldType)) (sz : Nat) (av : List Value) : Array Value → State → Prop := va_Pc av (fun U => U.heap.size = sz ∧ va_P D vwCl ws U.heap ∧ va_K D vwCl tys U ∧ va_D (fun _ => True) ws)
theorem mP_blind {D : va_G} {ws : va_W} {tys : List (ClassId × FieldType)} {sz : Nat} {av : List Value} : FrameBlind (mP D ws tys sz av) := fun a U g mk q => by
  obtain ⟨q1, q2, q3, q4, q5⟩ := q
  exact ⟨q1, q2, q3, va_K.moved (u := U) (U := U.calling g mk a) (Vm.Alike.refl U.vm) q4, q5⟩
theorem mP_V {D : va_G} {ws : va_W} {tys : List (ClassId × FieldType)} {s : State} {H : Heap} {A : Nat → Prop} {C : String} {b : Nat} {As : List Value} (hK : va_K D vwCl tys s) (hP : va_P D vwCl ws H) (hD : va_D A ws) (hr : ∃ cell : Cell, H[b]? = some cell ∧ cell.vm.isStatics = false ∧ s.vm.findClass C = some cell.cls) : PreV s H C b (mP D ws tys H.size (.ref b :: As)) As :=
  ⟨mP_blind, hr, fun U hU hW => ⟨rfl, by rw [hU], by rw [hU]; exact hP, va_K.moved hW.alike hK, hD.weaken (fun _ _ _ _ => trivial)⟩⟩
theorem mP_S {D : va_G} {ws : va_W} {tys : List (ClassId × FieldType)} {s : State} {H : Heap} {A : Nat → Prop} {As : List Value} (hK : va_K D vwCl tys s) (hP : va_P D vwCl ws H) (hD : va_D A ws) : PreS s H (mP D ws tys H.size As) As :=
  ⟨mP_blind, fun U hU hW => ⟨rfl, by rw [hU], by rw [hU]; exact hP, va_K.moved hW.alike hK, hD.weaken (fun _ _ _ _ => trivial)⟩⟩
/-- the class of arrays of ints is one -/
theorem gb_cI {D : va_G} {cl : List vw_C} {t1 : List (ClassId × FieldType)} {s : State} {c1 c2 : ClassId} (hK : va_K D cl t1 s) {i j : Nat} (h1 : t1[i]? = some (c1, .int)) (h2 : t1[j]? = some (c2, .int)) : c1 = c2 := by
  have a1 : s.vm.findClass ("[" ++ FieldType.int.toString) = some c1 := (hK.2 i _ h1).2
  have a2 : s.vm.findClass ("[" ++ FieldType.int.toString) = some c2 := (hK.2 j _ h2).2
  rw [a1] at a2
  exact Option.some.inj a2
theorem gb_k {k : Nat} (h : k < 2 ^ 31) {n : Nat} (hn : k < n) (hs : n ≤ 65536) : vp_in (nI k) n := vp_in_nI hn (by omega)
end
section
-- ===== numbers =====
/-- NOT of a literal -/
def ct_nt (a : Nat) : Nat := if a % 2 = 0 then a + 1 else a - 1
theorem ct_nt_nt (a : Nat) : ct_nt (ct_nt a) = a := by
  unfold ct_nt
  split <;> split <;> omega
theorem ct_nt_div (a : Nat) : ct_nt a / 2 = a / 2 := by
  unfold ct_nt
  split <;> omega
theorem ct_nt_lt {a m : Nat} (h : a < 2 * m) : ct_nt a < 2 * m := by
  unfold ct_nt
  split <;> omega
theorem ct_nt_le (a : Nat) : ct_nt a ≤ a + 1 := by
  unfold ct_nt
  split <;> omega
theorem ct_xor1 (a : Nat) : a ^^^ 1 = ct_nt a := by
  have h1 : (a ^^^ 1) / 2 = a / 2 := by
    have := Nat.xor_div_two_pow (a := a) (b := 1) (n := 1)
    simpa using this
  have h2 : (a ^^^ 1) % 2 = (a % 2) ^^^ 1 := by
    have := Nat.xor_mod_two_pow (a := a) (b := 1) (n := 1)
    simpa using this
  have h3 : a % 2 = 0 ∨ a % 2 = 1 := by omega
  unfold ct_nt
  rcases h3 with h | h
  · rw [h] at h2
    have h2 : (a ^^^ 1) % 2 = 1 := h2
    rw [if_pos h]
    omega
  · rw [h] at h2
    have h2 : (a ^^^ 1) % 2 = 0 := h2
    rw [if_neg (by omega)]
    omega
theorem ct_nIxor (a : Nat) : nI a ^^^ 1 = nI (ct_nt a) := by
  rw [← ct_xor1]
  apply Int32.toBitVec_inj.mp
  show (Int32.ofNat a ^^^ 1).toBitVec = (Int32.ofNat (a ^^^ 1)).toBitVec
  rw [Int32.toBitVec_xor]
  simp [BitVec.ofNat_xor]
theorem ct_shr {a : Nat} (h : a < 2 ^ 31) : nI a >>> ((1 : Int32) &&& 31) = nI (a / 2) := pk_shrN h _ 1 (by decide)
theorem ct_shl {a : Nat} (h : a < 2 ^ 30) : nI a <<< ((1 : Int32) &&& 31) = nI (2 * a) := by
  rw [pk_shlN (1 &&& 31) 1 (by decide) (by omega), Nat.mul_comm]
theorem ct_and1 {a : Nat} (h : a < 2 ^ 31) : nI a &&& 1 = nI (a % 2) := pk_andN (by omega) 1 (by decide)
theorem ct_m1 {a : Nat} (h : a < 2 ^ 31) : ¬ nI a = -1 := by
  intro e
  have h1 := nI_toInt h
  rw [e] at h1
  have h2 : (-1 : Int32).toInt = -1 := by decide
  omega
theorem ct_m1' {a : Nat} (h : a < 2 ^ 31) : ¬ (-1 : Int32) = nI a := fun e => ct_m1 h e.symm
-- ===== circuits: a node's two literals where it is a gate =====
abbrev Ct : Type := Nat → Option (Nat × Nat)
def ct_wf (nc : Nat) (g : Ct) : Prop := (∀ i x y, g i = some (x, y) → i < nc ∧ 2 ≤ x ∧ x / 2 < y / 2 ∧ y / 2 < i) ∧ ∀ i j q, g i = some q → g j = some q → i = j
def ct_f (g : Ct) (i : Nat) : Int32 := match g i with
  | none => -1
  | some q => nI q.1
def ct_s (g : Ct) (i : Nat) : Int32 := match g i with
  | none => -1
  | some q => nI q.2
/-- the rows of literals hold the circuit -/
def ct_at (n nc : Nat) (g : Ct) (ar : Nat → Nat → Int32) : Prop := 1 ≤ nc ∧ nc ≤ n ∧ n ≤ 65536 ∧ ct_wf nc g ∧ ∀ i, i < nc → ar 0 i = ct_f g i ∧ ar 1 i = ct_s g i
-- ===== what the class's questions answer, in the machine's numbers =====
def gb_gate (ar : Nat → Nat → Int32) (x : Int32) : Int32 := if ar 0 x.toNatClampNeg = -1 then 0 else 1
def gb_neg (x : Int32) : Int32 := if x &&& 1 = 1 then 1 else 0
def gb_has (ar : Nat → Nat → Int32) (x y : Int32) : Int32 := if ar 0 x.toNatClampNeg = y ∨ ar 1 x.toNatClampNeg = y then 1 else 0
def gb_sh (x : Int32) : Int32 := x >>> ((1 : Int32) &&& 31)
def gb_ag (ar : Nat → Nat → Int32) (x k : Int32) : Int32 := if gb_neg x = 0 ∧ ¬ gb_gate ar (gb_sh x) = 0 ∧ (¬ gb_has ar k (ar 0 (gb_sh x).toNatClampNeg ^^^ 1) = 0 ∨ ¬ gb_has ar k (ar 1 (gb_sh x).toNatClampNeg ^^^ 1) = 0) then 1 else 0
def gb_kn (ar : Nat → Nat → Int32) (x y : Int32) : Int32 :=
  if x = 0 ∨ x = y ^^^ 1 then 0 else if x = 1 then y else if x = y then x else if gb_gate ar (gb_sh y) = 0 then -1
  else if ¬ gb_neg y = 0 then (if ¬ gb_has ar (gb_sh y) (x ^^^ 1) = 0 then x else -1)
  else if ¬ gb_has ar (gb_sh y) x = 0 then y
  else if ¬ gb_has ar (gb_sh y) (x ^^^ 1) = 0 ∨ ¬ gb_ag ar x (gb_sh y) = 0 then 0 else -1
def gb_re (ar : Nat → Nat → Int32) (x y : Int32) : Int32 :=
  if gb_neg y = 0 ∨ gb_gate ar (gb_sh y) = 0 then -1
  else if ar 0 (gb_sh y).toNatClampNeg = x then ar 1 (gb_sh y).toNatClampNeg ^^^ 1
  else if ar 1 (gb_sh y).toNatClampNeg = x then ar 0 (gb_sh y).toNatClampNeg ^^^ 1 else -1
-- ===== the same in plain numbers =====
def ct_has (g : Ct) (i b : Nat) : Bool := match g i with
  | none => false
  | some q => q.1 == b || q.2 == b
def ct_ag (g : Ct) (a i : Nat) : Bool := match g (a / 2) with
  | none => false
  | some q => a % 2 == 0 && (ct_has g i (ct_nt q.1) || ct_has g i (ct_nt q.2))
def ct_kn (g : Ct) (x y : Nat) : Option Nat :=
  if x = 0 ∨ x = ct_nt y then some 0 else if x = 1 then some y else if x = y then some x else if g (y / 2) = none then none
  else if y % 2 = 1 then (if ct_has g (y / 2) (ct_nt x) = true then some x else none)
  else if ct_has g (y / 2) x = true then some y
  else if ct_has g (y / 2) (ct_nt x) = true ∨ ct_ag g x (y / 2) = true then some 0 else none
def ct_re (g : Ct) (x y : Nat) : Option Nat := match g (y / 2) with
  | none => none
  | some q => if y % 2 = 0 then none else if q.1 = x then some (ct_nt q.2) else if q.2 = x then some (ct_nt q.1) else none
def ct_i (o : Option Nat) : Int32 := match o with
  | none => -1
  | some v => nI v
theorem gb_neg_n {a : Nat} (h : a < 2 ^ 31) : gb_neg (nI a) = 0 ↔ a % 2 = 0 := by
  unfold gb_neg
  rw [ct_and1 h]
  have h3 : a % 2 = 0 ∨ a % 2 = 1 := by omega
  rcases h3 with h | h <;> rw [h] <;> decide
theorem gb_sh_n {a : Nat} (h : a < 2 ^ 31) : gb_sh (nI a) = nI (a / 2) := ct_shr h
theorem ct_at_lt {n nc : Nat} {g : Ct} {ar : Nat → Nat → Int32} (h : ct_at n nc g ar) {i x y : Nat} (hi : g i = some (x, y)) : i < nc ∧ 2 ≤ x ∧ x < y ∧ x / 2 < y / 2 ∧ y / 2 < i ∧ x < 2 * nc ∧ y < 2 * nc ∧ nc ≤ 65536 := by
  have h1 := h.2.2.2.1.1 i x y hi
  have h2 := h.2.1
  have h3 := h.2.2.1
  omega
theorem ct_at_f {n nc : Nat} {g : Ct} {ar : Nat → Nat → Int32} (h : ct_at n nc g ar) {i x y : Nat} (hi : g i = some (x, y)) : ar 0 i = nI x ∧ ar 1 i = nI y := by
  have h1 := h.2.2.2.2 i (ct_at_lt h hi).1
  simp only [ct_f, ct_s, hi] at h1
  exact h1
theorem ct_at_n {n nc : Nat} {g : Ct} {ar : Nat → Nat → Int32} (h : ct_at n nc g ar) {i : Nat} (hi : g i = none) (hn : i < nc) : ar 0 i = -1 ∧ ar 1 i = -1 := by
  have h1 := h.2.2.2.2 i hn
  simp only [ct_f, ct_s, hi] at h1
  exact h1
theorem gb_gate_n {n nc : Nat} {g : Ct} {ar : Nat → Nat → Int32} (h : ct_at n nc g ar) {i : Nat} (hi : i < nc) : gb_gate ar (nI i) = 0 ↔ g i = none := by
  have hn := h.2.1
  have hb := h.2.2.1
  unfold gb_gate
  rw [nI_clamp (by omega)]
  cases hg : g i with
  | none => rw [(ct_at_n h hg hi).1]; simp
  | some q =>
    obtain ⟨x, y⟩ := q
    have h1 := ct_at_lt h hg
    rw [(ct_at_f h hg).1, if_neg (ct_m1 (by omega))]
    simp
theorem gb_has_n {n nc : Nat} {g : Ct} {ar : Nat → Nat → Int32} (h : ct_at n nc g ar) {i b : Nat} (hi : i < nc) (hb : b < 2 ^ 31) : gb_has ar (nI i) (nI b) = 0 ↔ ct_has g i b = false := by
  have hn := h.2.1
  have h3 := h.2.2.1
  unfold gb_has ct_has
  rw [nI_clamp (by omega)]
  cases hg : g i with
  | none =>
    rw [(ct_at_n h hg hi).1, (ct_at_n h hg hi).2, if_neg (fun e => e.elim (ct_m1' hb) (ct_m1' hb))]
    simp
  | some q =>
    obtain ⟨x, y⟩ := q
    have h1 := ct_at_lt h hg
    have e1 := nI_eq (a := x) (b := b) (by omega) hb
    have e2 := nI_eq (a := y) (b := b) (by omega) hb
    rw [(ct_at_f h hg).1, (ct_at_f h hg).2]
    simp only [e1, e2]
    by_cases e : x = b ∨ y = b
    · rw [if_pos e]
      rcases e with e | e <;> simp [e]
    · rw [if_neg e]
      simp only [true_iff, Bool.or_eq_false_iff, beq_eq_false_iff_ne, ne_eq]
      exact ⟨fun q => e (Or.inl q), fun q => e (Or.inr q)⟩
theorem gb_ag_n {n nc : Nat} {g : Ct} {ar : Nat → Nat → Int32} (h : ct_at n nc g ar) {a i : Nat} (ha : a < 2 * nc) (hi : i < nc) : gb_ag ar (nI a) (nI i) = 0 ↔ ct_ag g a i = false := by
  have hn := h.2.1
  have h3 := h.2.2.1
  have e1 := gb_neg_n (a := a) (by omega)
  have e2 := gb_gate_n h (i := a / 2) (by omega)
  unfold gb_ag ct_ag
  rw [gb_sh_n (by omega), nI_clamp (by omega)]
  simp only [e1, e2]
  cases hg : g (a / 2) with
  | none => simp
  | some q =>
    obtain ⟨x, y⟩ := q
    have h1 := ct_at_lt h hg
    have h4 := ct_nt_le x
    have h5 := ct_nt_le y
    have e3 := gb_has_n h (b := ct_nt x) hi (by omega)
    have e4 := gb_has_n h (b := ct_nt y) hi (by omega)
    rw [(ct_at_f h hg).1, (ct_at_f h hg).2, ct_nIxor, ct_nIxor]
    simp only [e3, e4]
    have e0 : a % 2 = 0 ∨ ¬ a % 2 = 0 := Decidable.em _
    rcases e0 with e0 | e0 <;> cases ct_has g i (ct_nt x) <;> cases ct_has g i (ct_nt y) <;> simp [e0]
theorem gb_kn_n {n nc : Nat} {g : Ct} {ar : Nat → Nat → Int32} (h : ct_at n nc g ar) {x y : Nat} (hxy : x ≤ y) (hy : y < 2 * nc) : gb_kn ar (nI x) (nI y) = ct_i (ct_kn g x y) := by
  have hn := h.2.1
  have h3 := h.2.2.1
  have h4 := ct_nt_le x
  have h5 := ct_nt_le y
  have i0 : (0 : Int32) = nI 0 := rfl
  have i1 : (1 : Int32) = nI 1 := rfl
  have b1 := gb_gate_n h (i := y / 2) (by omega)
  have b2 := gb_neg_n (a := y) (by omega)
  have b3 := gb_has_n h (i := y / 2) (b := ct_nt x) (by omega) (by omega)
  have b4 := gb_has_n h (i := y / 2) (b := x) (by omega) (by omega)
  have b5 := gb_ag_n h (a := x) (i := y / 2) (by omega) (by omega)
  have b6 := nI_eq (a := x) (b := ct_nt y) (by omega) (by omega)
  have b7 := nI_eq (a := x) (b := y) (by omega) (by omega)
  unfold gb_kn
  rw [ct_nIxor, ct_nIxor, gb_sh_n (by omega)]
  have a0 : nI x = 0 ↔ x = 0 := nI_eq (a := x) (b := 0) (by omega) (by omega)
  have a1 : nI x = 1 ↔ x = 1 := nI_eq (a := x) (b := 1) (by omega) (by omega)
  simp only [a0, a1, b1, b2, b3, b4, b5, b6, b7]
  unfold ct_kn
  by_cases c1 : x = 0 ∨ x = ct_nt y
  · rw [if_pos c1, if_pos c1]; rfl
  rw [if_neg c1, if_neg c1]
  by_cases c2 : x = 1
  · rw [if_pos c2, if_pos c2]; rfl
  rw [if_neg c2, if_neg c2]
  by_cases c3 : x = y
  · rw [if_pos c3, if_pos c3]; rfl
  rw [if_neg c3, if_neg c3]
  by_cases c4 : g (y / 2) = none
  · rw [if_pos c4, if_pos c4]; rfl
  rw [if_neg c4, if_neg c4]
  have e0 : y % 2 = 0 ∨ y % 2 = 1 := by omega
  rcases e0 with e0 | e0 <;> cases ct_has g (y / 2) (ct_nt x) <;> cases ct_has g (y / 2) x <;> cases ct_ag g x (y / 2) <;> simp [e0, ct_i, nI_0]
theorem gb_re_n {n nc : Nat} {g : Ct} {ar : Nat → Nat → Int32} (h : ct_at n nc g ar) {x y : Nat} (hxy : x ≤ y) (hy : y < 2 * nc) : gb_re ar (nI x) (nI y) = ct_i (ct_re g x y) := by
  have hn := h.2.1
  have h3 := h.2.2.1
  have b1 := gb_gate_n h (i := y / 2) (by omega)
  have b2 := gb_neg_n (a := y) (by omega)
  unfold gb_re ct_re
  rw [gb_sh_n (by omega), nI_clamp (by omega)]
  simp only [b1, b2]
  cases hg : g (y / 2) with
  | none => simp [ct_i]
  | some q =>
    obtain ⟨u, v⟩ := q
    have h1 := ct_at_lt h hg
    have h4 := ct_nt_le u
    have h5 := ct_nt_le v
    have b3 := nI_eq (a := u) (b := x) (by omega) (by omega)
    have b4 := nI_eq (a := v) (b := x) (by omega) (by omega)
    rw [(ct_at_f h hg).1, (ct_at_f h hg).2, ct_nIxor, ct_nIxor]
    simp only [b3, b4]
    have e0 : y % 2 = 0 ∨ y % 2 = 1 := by omega
    rcases e0 with e0 | e0
    · simp [e0, ct_i]
    · by_cases c1 : u = x
      · simp [e0, c1, ct_i]
      · by_cases c2 : v = x
        · simp [e0, c1, c2, ct_i]
        · simp [e0, c1, c2, ct_i]
-- ===== AND: the pair that the rules leave =====
/-- fuel, lesser, greater: a literal that a rule tells, or the two of the gate -/
def ct_rd (g : Ct) : Nat → Nat → Nat → Nat ⊕ (Nat × Nat)
  | 0, x, y => .inr (x, y)
  | k + 1, x, y => match ct_kn g x y with
    | some v => .inl v
    | none => match ct_re g x y with
      | none => .inr (x, y)
      | some r => ct_rd g k (min x r) (max x r)
theorem ct_re_lt {nc : Nat} {g : Ct} (h : ct_wf nc g) {x y r : Nat} (e : ct_re g x y = some r) (hxy : x ≤ y) : r / 2 < y / 2 ∧ x / 2 < y / 2 ∧ r < 2 * nc ∧ max x r / 2 < y / 2 ∧ max x r < 2 * nc ∧ min x r ≤ max x r := by
  unfold ct_re at e
  cases hg : g (y / 2) with
  | none => simp [hg] at e
  | some q =>
    obtain ⟨u, v⟩ := q
    have h1 := h.1 _ _ _ hg
    simp only [hg] at e
    have h2 := ct_nt_div u
    have h3 := ct_nt_div v
    have hxr : x / 2 < y / 2 ∧ r / 2 < y / 2 := by
      split at e
      · cases e
      · split at e
        · cases e; omega
        · split at e
          · cases e; omega
          · cases e
    have hm : max x r / 2 < y / 2 := by
      rcases Nat.le_total x r with q | q
      · rw [Nat.max_eq_right q]; exact hxr.2
      · rw [Nat.max_eq_left q]; exact hxr.1
    refine ⟨hxr.2, hxr.1, by omega, hm, by omega, ?_⟩
    exact Nat.le_trans (Nat.min_le_left x r) (Nat.le_max_left x r)
theorem ct_rd_fuel {nc : Nat} {g : Ct} (h : ct_wf nc g) : ∀ (k j x y : Nat), x ≤ y → y / 2 < k → y / 2 < j → ct_rd g k x y = ct_rd g j x y := by
  intro k
  induction k with
  | zero => intro j x y _ h1; omega
  | succ k ih =>
    intro j x y hxy h1 h2
    cases j with
    | zero => omega
    | succ j =>
      unfold ct_rd
      cases ct_kn g x y with
      | some v => rfl
      | none =>
        dsimp only
        cases e : ct_re g x y with
        | none => rfl
        | some r =>
          have h3 := ct_re_lt h e hxy
          exact ih j _ _ h3.2.2.2.2.2 (by omega) (by omega)
theorem ct_kn_le {g : Ct} {x y v : Nat} (h : ct_kn g x y = some v) (hxy : x ≤ y) : v ≤ y := by
  unfold ct_kn at h
  repeat' split at h
  all_goals first | (cases h; omega) | cases h
theorem ct_kn_gap {g : Ct} {x y : Nat} (h : ct_kn g x y = none) (hxy : x ≤ y) : 2 ≤ x ∧ x / 2 < y / 2 := by
  unfold ct_kn at h
  by_cases c1 : x = 0 ∨ x = ct_nt y
  · rw [if_pos c1] at h; cases h
  rw [if_neg c1] at h
  by_cases c2 : x = 1
  · rw [if_pos c2] at h; cases h
  rw [if_neg c2] at h
  by_cases c3 : x = y
  · rw [if_pos c3] at h; cases h
  have c4 : x ≠ ct_nt y := fun z => c1 (Or.inr z)
  have c5 : x ≠ 0 := fun z => c1 (Or.inl z)
  unfold ct_nt at c4
  split at c4 <;> omega
theorem ct_imin {a b : Nat} (ha : a < 2 ^ 31) (hb : b < 2 ^ 31) : (if nI b < nI a then nI b else nI a) = nI (min a b) := by
  simp only [nI_ltI (a := b) (b := a) hb ha]
  split
  · rw [Nat.min_eq_right (by omega)]
  · rw [Nat.min_eq_left (by omega)]
theorem ct_imax {a b : Nat} (ha : a < 2 ^ 31) (hb : b < 2 ^ 31) : (if nI a < nI b then nI b else nI a) = nI (max a b) := by
  simp only [nI_ltI (a := a) (b := b) ha hb]
  split
  · rw [Nat.max_eq_right (by omega)]
  · rw [Nat.max_eq_left (by omega)]
def gb_val (ar : Nat → Nat → Int32) (x : Int32) : Int32 := ar 4 (gb_sh x).toNatClampNeg ^^^ (x &&& 1)
def gb_kind (ar : Nat → Nat → Int32) (x : Int32) : Int32 := if x = 0 then 0 else if gb_gate ar x = 0 then 1 else 2
end
section
-- ===== what hangs on a circuit: folds, counts, chains =====
def ct_fd {α : Type} (z : Nat → α) (op : Nat → Nat → α → α → α) (g : Ct) : Nat → Nat → α
  | 0, i => z i
  | k + 1, i => match g i with
    | none => z i
    | some q => op q.1 q.2 (ct_fd z op g k (q.1 / 2)) (ct_fd z op g k (q.2 / 2))
theorem ct_fd_fuel {α : Type} {z : Nat → α} {op : Nat → Nat → α → α → α} {g : Ct} {nc : Nat} (h : ct_wf nc g) : ∀ (k j i : Nat), i < k → i < j → ct_fd z op g k i = ct_fd z op g j i := by
  intro k
  induction k with
  | zero => intro j i h1; omega
  | succ k ih =>
    intro j i h1 h2
    cases j with
    | zero => omega
    | succ j =>
      unfold ct_fd
      cases hg : g i with
      | none => rfl
      | some q =>
        obtain ⟨x, y⟩ := q
        have h3 := h.1 i x y hg
        dsimp only
        rw [ih j (x / 2) (by omega) (by omega), ih j (y / 2) (by omega) (by omega)]
/-- two circuits that are the same up to a node -/
theorem ct_fd_ext {α : Type} {z z' : Nat → α} {op : Nat → Nat → α → α → α} {g g' : Ct} {nc : Nat} (h : ct_wf nc g) : ∀ (k i : Nat), (∀ j, j ≤ i → g' j = g j ∧ z' j = z j) → ct_fd z' op g' k i = ct_fd z op g k i := by
  intro k
  induction k with
  | zero => intro i he; exact (he i (Nat.le_refl i)).2
  | succ k ih =>
    intro i he
    unfold ct_fd
    rw [(he i (Nat.le_refl i)).1, (he i (Nat.le_refl i)).2]
    cases hg : g i with
    | none => rfl
    | some q =>
      obtain ⟨x, y⟩ := q
      have h3 := h.1 i x y hg
      dsimp only
      rw [ih (x / 2) (fun j hj => he j (by omega)), ih (y / 2) (fun j hj => he j (by omega))]
/-- how deep a node lies -/
def ct_dp (g : Ct) (i : Nat) : Nat := ct_fd (fun _ => 0) (fun _ _ a b => 1 + max a b) g (i + 1) i
/-- a node's value -/
def ct_vo (x y : Nat) (a b : Bool) : Bool := (a ^^ decide (x % 2 = 1)) && (b ^^ decide (y % 2 = 1))
def ct_vl (g : Ct) (bv : Nat → Bool) (i : Nat) : Bool := ct_fd bv ct_vo g (i + 1) i
theorem ct_dp_n {g : Ct} {i : Nat} (h : g i = none) : ct_dp g i = 0 := by
  unfold ct_dp ct_fd
  rw [h]
theorem ct_dp_s {g : Ct} {nc i x y : Nat} (hw : ct_wf nc g) (h : g i = some (x, y)) : ct_dp g i = 1 + max (ct_dp g (x / 2)) (ct_dp g (y / 2)) := by
  have h3 := hw.1 i x y h
  unfold ct_dp
  rw [ct_fd, h]
  dsimp only
  rw [ct_fd_fuel hw i (x / 2 + 1) (x / 2) (by omega) (by omega), ct_fd_fuel hw i (y / 2 + 1) (y / 2) (by omega) (by omega)]
theorem ct_vl_n {g : Ct} {bv : Nat → Bool} {i : Nat} (h : g i = none) : ct_vl g bv i = bv i := by
  unfold ct_vl ct_fd
  rw [h]
theorem ct_vl_s {g : Ct} {bv : Nat → Bool} {nc i x y : Nat} (hw : ct_wf nc g) (h : g i = some (x, y)) : ct_vl g bv i = ct_vo x y (ct_vl g bv (x / 2)) (ct_vl g bv (y / 2)) := by
  have h3 := hw.1 i x y h
  unfold ct_vl
  rw [ct_fd, h]
  dsimp only
  rw [ct_fd_fuel hw i (x / 2 + 1) (x / 2) (by omega) (by omega), ct_fd_fuel hw i (y / 2 + 1) (y / 2) (by omega) (by omega)]
theorem ct_dp_ext {g g' : Ct} {nc i : Nat} (hw : ct_wf nc g) (h : ∀ j, j ≤ i → g' j = g j) : ct_dp g' i = ct_dp g i := ct_fd_ext hw _ _ (fun j hj => ⟨h j hj, rfl⟩)
theorem ct_vl_ext {g g' : Ct} {bv bv' : Nat → Bool} {nc i : Nat} (hw : ct_wf nc g) (h : ∀ j, j ≤ i → g' j = g j ∧ bv' j = bv j) : ct_vl g' bv' i = ct_vl g bv i := ct_fd_ext hw _ _ h
/-- how many gates before node k have node i in a literal -/
def ct_us (g : Ct) : Nat → Nat → Nat
  | 0, _ => 0
  | k + 1, i => match g k with
    | none => ct_us g k i
    | some q => ct_us g k i + (if q.1 / 2 = i then 1 else 0) + (if q.2 / 2 = i then 1 else 0)
/-- the newest gate before node k whose second literal has node h; 0: none -/
def ct_nw (g : Ct) : Nat → Nat → Nat
  | 0, _ => 0
  | k + 1, h => match g k with
    | none => ct_nw g k h
    | some q => if q.2 / 2 = h then k else ct_nw g k h
theorem ct_us_ext {g g' : Ct} : ∀ (k i : Nat), (∀ j, j < k → g' j = g j) → ct_us g' k i = ct_us g k i := by
  intro k
  induction k with
  | zero => intro i _; rfl
  | succ k ih =>
    intro i he
    unfold ct_us
    rw [he k (by omega), ih i (fun j hj => he j (by omega))]
theorem ct_nw_ext {g g' : Ct} : ∀ (k h : Nat), (∀ j, j < k → g' j = g j) → ct_nw g' k h = ct_nw g k h := by
  intro k
  induction k with
  | zero => intro h _; rfl
  | succ k ih =>
    intro h he
    unfold ct_nw
    rw [he k (by omega), ih h (fun j hj => he j (by omega))]
theorem ct_us_0 {g : Ct} {nc : Nat} (hw : ct_wf nc g) : ∀ (k i : Nat), k ≤ i → ct_us g k i = 0 := by
  intro k
  induction k with
  | zero => intro i _; rfl
  | succ k ih =>
    intro i hi
    unfold ct_us
    cases hg : g k with
    | none => exact ih i (by omega)
    | some q =>
      obtain ⟨x, y⟩ := q
      have h3 := hw.1 k x y hg
      dsimp only
      rw [ih i (by omega), if_neg (by omega), if_neg (by omega)]
theorem ct_nw_0 {g : Ct} {nc : Nat} (hw : ct_wf nc g) : ∀ (k h : Nat), k ≤ h + 1 → ct_nw g k h = 0 := by
  intro k
  induction k with
  | zero => intro i _; rfl
  | succ k ih =>
    intro h hi
    unfold ct_nw
    cases hg : g k with
    | none => exact ih h (by omega)
    | some q =>
      obtain ⟨x, y⟩ := q
      have h3 := hw.1 k x y hg
      dsimp only
      rw [if_neg (by omega)]
      exact ih h (by omega)
theorem ct_us_le {g : Ct} : ∀ (k i : Nat), ct_us g k i ≤ 2 * k := by
  intro k
  induction k with
  | zero => intro i; exact Nat.le_refl 0
  | succ k ih =>
    intro i
    have h1 := ih i
    unfold ct_us
    cases g k with
    | none => dsimp only; omega
    | some q =>
      dsimp only
      split <;> split <;> omega
theorem ct_nw_lt {g : Ct} : ∀ (k h : Nat), ct_nw g k h = 0 ∨ ct_nw g k h < k := by
  intro k
  induction k with
  | zero => intro h; exact Or.inl rfl
  | succ k ih =>
    intro h
    have h1 := ih h
    unfold ct_nw
    cases g k with
    | none => dsimp only; omega
    | some q =>
      dsimp only
      split <;> omega
/-- what the chain's first one is: 0 and none there, or a gate over h, and none newer -/
theorem ct_nw_is {g : Ct} {nc : Nat} (hw : ct_wf nc g) : ∀ (k h : Nat), (∀ j x y, j < k → g j = some (x, y) → y / 2 = h → j ≤ ct_nw g k h) ∧ (ct_nw g k h ≠ 0 → ∃ x y, g (ct_nw g k h) = some (x, y) ∧ y / 2 = h) := by
  intro k
  induction k with
  | zero => intro h; exact ⟨fun j x y hj => by omega, fun hn => absurd rfl hn⟩
  | succ k ih =>
    intro h
    obtain ⟨h1, h2⟩ := ih h
    unfold ct_nw
    cases hg : g k with
    | none =>
      dsimp only
      refine ⟨fun j x y hj e1 e2 => ?_, h2⟩
      by_cases hjk : j = k
      · subst hjk; rw [hg] at e1; cases e1
      · exact h1 j x y (by omega) e1 e2
    | some q =>
      obtain ⟨u, v⟩ := q
      dsimp only
      by_cases hv : v / 2 = h
      · rw [if_pos hv]
        exact ⟨fun j x y hj _ _ => by omega, fun _ => ⟨u, v, hg, hv⟩⟩
      · rw [if_neg hv]
        refine ⟨fun j x y hj e1 e2 => ?_, h2⟩
        by_cases hjk : j = k
        · subst hjk; rw [hg] at e1; cases e1; exact absurd e2 hv
        · exact h1 j x y (by omega) e1 e2
theorem ct_dp_le {g : Ct} {nc : Nat} (hw : ct_wf nc g) : ∀ (k i : Nat), i < k → ct_dp g i ≤ i := by
  intro k
  induction k with
  | zero => intro i h; omega
  | succ k ih =>
    intro i hi
    cases hg : g i with
    | none => rw [ct_dp_n hg]; omega
    | some q =>
      obtain ⟨x, y⟩ := q
      have h3 := hw.1 i x y hg
      have h4 := ih (x / 2) (by omega)
      have h5 := ih (y / 2) (by omega)
      rw [ct_dp_s hw hg]
      omega
-- ===== the whole of the bench's state, by its circuit =====
def ct_b (b : Bool) : Int32 := if b then 1 else 0
/-- n: rows' length; nc nodes, ic inputs; g the gates, bv the inputs' setting -/
def gb_ok (n nc ic : Nat) (g : Ct) (bv : Nat → Bool) (ar : Nat → Nat → Int32) (iv : Nat → Int32) : Prop :=
  ct_at n nc g ar ∧ 16 ≤ n ∧ iv 0 = nI nc ∧ iv 1 = nI ic ∧ bv 0 = false ∧ (∀ i, nc ≤ i → bv i = false) ∧
  (∀ i, i < n → ar 2 i = nI (ct_us g nc i)) ∧ (∀ i, i < n → ar 3 i = nI (ct_dp g i)) ∧
  (∀ h, h < n → ar 6 h = nI (ct_nw g nc h)) ∧ (∀ j x y, g j = some (x, y) → ar 7 j = nI (ct_nw g j (y / 2))) ∧
  (∀ i, i < n → g i = none → ar 4 i = ct_b (bv i)) ∧ (∀ i, i < n → ∃ b, ar 4 i = ct_b b) ∧
  ∃ st, iv 2 = nI st ∧ 1 ≤ st ∧ st ≤ nc ∧ ∀ i, i < st → ar 4 i = ct_b (ct_vl g bv i)
end
section
-- ===== parts of gb_ok =====
section OK
variable {n c9 i9 : Nat} {g : Ct} {bv : Nat → Bool} {ar : Nat → Nat → Int32} {iv : Nat → Int32}
theorem gb_ok.ct (h : gb_ok n c9 i9 g bv ar iv) : ct_at n c9 g ar := h.1
theorem gb_ok.n16 (h : gb_ok n c9 i9 g bv ar iv) : 16 ≤ n := h.2.1
theorem gb_ok.nc (h : gb_ok n c9 i9 g bv ar iv) : iv 0 = nI c9 := h.2.2.1
theorem gb_ok.ic (h : gb_ok n c9 i9 g bv ar iv) : iv 1 = nI i9 := h.2.2.2.1
theorem gb_ok.bv0 (h : gb_ok n c9 i9 g bv ar iv) : bv 0 = false := h.2.2.2.2.1
theorem gb_ok.bvn (h : gb_ok n c9 i9 g bv ar iv) : ∀ i, c9 ≤ i → bv i = false := h.2.2.2.2.2.1
theorem gb_ok.us (h : gb_ok n c9 i9 g bv ar iv) : ∀ i, i < n → ar 2 i = nI (ct_us g c9 i) := h.2.2.2.2.2.2.1
theorem gb_ok.dp (h : gb_ok n c9 i9 g bv ar iv) : ∀ i, i < n → ar 3 i = nI (ct_dp g i) := h.2.2.2.2.2.2.2.1
theorem gb_ok.nw (h : gb_ok n c9 i9 g bv ar iv) : ∀ i, i < n → ar 6 i = nI (ct_nw g c9 i) := h.2.2.2.2.2.2.2.2.1
theorem gb_ok.nx (h : gb_ok n c9 i9 g bv ar iv) : ∀ j x y, g j = some (x, y) → ar 7 j = nI (ct_nw g j (y / 2)) := h.2.2.2.2.2.2.2.2.2.1
theorem gb_ok.vi (h : gb_ok n c9 i9 g bv ar iv) : ∀ i, i < n → g i = none → ar 4 i = ct_b (bv i) := h.2.2.2.2.2.2.2.2.2.2.1
theorem gb_ok.vb (h : gb_ok n c9 i9 g bv ar iv) : ∀ i, i < n → ∃ b, ar 4 i = ct_b b := h.2.2.2.2.2.2.2.2.2.2.2.1
theorem gb_ok.st (h : gb_ok n c9 i9 g bv ar iv) : ∃ st, iv 2 = nI st ∧ 1 ≤ st ∧ st ≤ c9 ∧ ∀ i, i < st → ar 4 i = ct_b (ct_vl g bv i) := h.2.2.2.2.2.2.2.2.2.2.2.2
theorem gb_ok.wf (h : gb_ok n c9 i9 g bv ar iv) : ct_wf c9 g := h.1.2.2.2.1
end OK
-- ===== rows that grow =====
def gb_cap (n m : Nat) : Nat := if m ≤ n then n else 2 * n
theorem gb_cap_le {n m : Nat} (h : m ≤ n) : gb_cap n m = n := if_pos h
theorem gb_cap_gt {n m : Nat} (h : n < m) : gb_cap n m = 2 * n := if_neg (by omega)
theorem gb_cap_ge (n m : Nat) (h : m ≤ 2 * n) : m ≤ gb_cap n m := by
  unfold gb_cap
  split <;> omega
theorem gb_cap_n (n m : Nat) : n ≤ gb_cap n m ∧ gb_cap n m ≤ 2 * n := by
  unfold gb_cap
  split <;> omega
theorem gb_cap_cap {n a b : Nat} (h : a ≤ b) (hb : b ≤ 2 * n) : gb_cap (gb_cap n a) b = gb_cap n b := by
  unfold gb_cap
  split <;> split <;> first | rfl | omega | (split <;> first | rfl | omega)
def gb_gr (n : Nat) (f : Nat → Int32) : Nat → Int32 := va_cpy f (fun _ => 0) 0 0 n
def gb_ext (n nc : Nat) (f : Nat → Int32) : Nat → Int32 := if nc < n then f else gb_gr n f
theorem gb_ext_in {n nc : Nat} {f : Nat → Int32} {j : Nat} (h : j < n) : gb_ext n nc f j = f j := by
  unfold gb_ext gb_gr
  split
  · rfl
  · rw [pk_cpy_in (by omega) (by omega)]
    congr 1
    omega
theorem gb_ext_out {n nc : Nat} {f : Nat → Int32} {j : Nat} (h : n ≤ nc) (hj : n ≤ j) : gb_ext n nc f j = 0 := by
  unfold gb_ext gb_gr
  rw [if_neg (by omega), pk_cpy_out (by omega)]
/-- enterGate's five stores -/
def gb_ent (ar : Nat → Nat → Int32) (i a b : Nat) (v : Int32) : Nat → Nat → Int32 :=
  let a1 := va_up ar 3 (upd (ar 3) i (1 + (if ar 3 a < ar 3 b then ar 3 b else ar 3 a)))
  let a2 := va_up a1 2 (upd (a1 2) a (a1 2 a + 1))
  let a3 := va_up a2 2 (upd (a2 2) b (a2 2 b + 1))
  let a4 := va_up a3 7 (upd (a3 7) i (a3 6 b))
  va_up a4 6 (upd (a4 6) b v)
-- ===== AND's gate: the one that there is, or a new one =====
def ct_fn (g : Ct) : Nat → Nat → Nat → Option Nat
  | 0, _, _ => none
  | k + 1, x, y => if g k = some (x, y) then some k else ct_fn g k x y
/-- literal, nodes, circuit -/
def ct_gt (nc : Nat) (g : Ct) (x y : Nat) : Nat × Nat × Ct := match ct_fn g nc x y with
  | some j => (2 * j, nc, g)
  | none => (2 * nc, nc + 1, va_up g nc (some (x, y)))
theorem ct_fn_none {g : Ct} {x y : Nat} (h : ∀ j, g j = some (x, y) → False) : ∀ k, ct_fn g k x y = none := by
  intro k
  induction k with
  | zero => rfl
  | succ k ih =>
    unfold ct_fn
    rw [if_neg (fun e => h k e)]
    exact ih
theorem ct_fn_some {g : Ct} {nc x y q : Nat} (hw : ct_wf nc g) (hq : g q = some (x, y)) : ∀ k, q < k → ct_fn g k x y = some q := by
  intro k
  induction k with
  | zero => intro h; omega
  | succ k ih =>
    intro h
    unfold ct_fn
    by_cases e : g k = some (x, y)
    · rw [if_pos e, hw.2 k q _ e hq]
    · rw [if_neg e]
      have : q ≠ k := fun z => e (z ▸ hq)
      exact ih (by omega)
theorem ct_gt_none {nc : Nat} {g : Ct} {x y : Nat} (h : ∀ j, g j = some (x, y) → False) : ct_gt nc g x y = (2 * nc, nc + 1, va_up g nc (some (x, y))) := by
  unfold ct_gt
  rw [ct_fn_none h]
theorem ct_gt_some {nc : Nat} {g : Ct} {x y q : Nat} (hw : ct_wf nc g) (hq : g q = some (x, y)) : ct_gt nc g x y = (2 * q, nc, g) := by
  unfold ct_gt
  rw [ct_fn_some hw hq nc (hw.1 q x y hq).1]
theorem ct_wf_add {nc : Nat} {g : Ct} {x y : Nat} (hw : ct_wf nc g) (h1 : 2 ≤ x) (h2 : x / 2 < y / 2) (h3 : y < 2 * nc) (h4 : ∀ j, g j = some (x, y) → False) : ct_wf (nc + 1) (va_up g nc (some (x, y))) := by
  refine ⟨fun i u v e => ?_, fun i j q e1 e2 => ?_⟩
  · by_cases hi : i = nc
    · subst hi
      rw [va_up_self] at e
      cases e
      omega
    · rw [va_up_ne _ _ hi] at e
      have := hw.1 i u v e
      omega
  · by_cases hi : i = nc
    · subst hi
      rw [va_up_self] at e1
      by_cases hj : j = i
      · exact hj.symm
      · rw [va_up_ne _ _ hj, ← e1] at e2
        exact (h4 j e2).elim
    · rw [va_up_ne _ _ hi] at e1
      by_cases hj : j = nc
      · subst hj
        rw [va_up_self, ← e1] at e2
        exact (h4 i e2.symm).elim
      · rw [va_up_ne _ _ hj] at e2
        exact hw.2 i j q e1 e2
theorem ct_none {nc : Nat} {g : Ct} (hw : ct_wf nc g) {i : Nat} (h : nc ≤ i) : g i = none := by
  cases e : g i with
  | none => rfl
  | some q => exact absurd (hw.1 i q.1 q.2 e).1 (by omega)
theorem ct_zero {nc : Nat} {g : Ct} (hw : ct_wf nc g) : g 0 = none := by
  cases e : g 0 with
  | none => rfl
  | some q => exact absurd (hw.1 0 q.1 q.2 e).2.2.2 (by omega)
/-- the rows behind growing: what they hold for every place -/
theorem gb_rows {n nc ic : Nat} {g : Ct} {bv : Nat → Bool} {ar : Nat → Nat → Int32} {iv : Nat → Int32} (h : gb_ok n nc ic g bv ar iv) (i : Nat) (hi : i < gb_cap n (nc + 1)) :
    gb_ext n nc (ar 2) i = nI (ct_us g nc i) ∧ gb_ext n nc (ar 3) i = nI (ct_dp g i) ∧ gb_ext n nc (ar 6) i = nI (ct_nw g nc i) ∧ (g i = none → gb_ext n nc (ar 4) i = ct_b (bv i)) ∧ ∃ b, gb_ext n nc (ar 4) i = ct_b b := by
  have hw := h.wf
  have hle := h.ct.2.1
  by_cases hin : i < n
  · rw [gb_ext_in hin, gb_ext_in hin, gb_ext_in hin, gb_ext_in hin]
    exact ⟨h.us i hin, h.dp i hin, h.nw i hin, h.vi i hin, h.vb i hin⟩
  · have hnn : n ≤ nc := by
      have := gb_cap_n n (nc + 1)
      unfold gb_cap at hi
      split at hi <;> omega
    rw [gb_ext_out hnn (by omega), gb_ext_out hnn (by omega), gb_ext_out hnn (by omega), gb_ext_out hnn (by omega)]
    refine ⟨?_, ?_, ?_, fun _ => ?_, false, rfl⟩
    · rw [ct_us_0 hw nc i (by omega)]; exact nI_0.symm
    · rw [ct_dp_n (ct_none hw (by omega))]; exact nI_0.symm
    · rw [ct_nw_0 hw nc i (by omega)]; exact nI_0.symm
    · rw [h.bvn i (by omega)]; rfl
theorem ct_b0 : ct_b false = 0 := rfl
theorem ct_max (a b : Nat) (ha : a < 2 ^ 30) (hb : b < 2 ^ 30) : (1 : Int32) + (if nI a < nI b then nI b else nI a) = nI (1 + max a b) := by
  simp only [nI_ltI (a := a) (b := b) (by omega) (by omega)]
  have i1 : (1 : Int32) = nI 1 := rfl
  split
  · rw [Nat.max_eq_right (by omega), i1]; exact nI_add 1 b
  · rw [Nat.max_eq_left (by omega), i1]; exact nI_add 1 a
set_option maxHeartbeats 1000000 in
/-- a new gate: newNode, then enterGate -/
theorem gb_ok_gate {n nc ic lo hi n1 n2 : Nat} {g : Ct} {bv : Nat → Bool} {ar ar1 ar2 : Nat → Nat → Int32} {iv iv1 iv2 : Nat → Int32} {ad1 ad2 : Nat → Nat} {x y : Int32}
    (h : gb_ok n nc ic g bv ar iv) (hx : x = nI lo) (hy : y = nI hi) (hlo : 2 ≤ lo) (hlh : lo / 2 < hi / 2) (hhi : hi < 2 * nc) (hmx : nc < 20000) (hno : ∀ j, g j = some (lo, hi) → False)
    (e1 : n1 = gb_cap n (nc + 1)) (e2 : iv1 = va_up iv 0 (nI (nc + 1))) (e3 : ∃ B : Nat → Nat → Int32, ar1 = va_up (va_up B 0 (upd (B 0) nc x)) 1 (upd (B 1) nc y) ∧ ∀ k, k < 8 → B k = gb_ext n nc (ar k))
    (e4 : ((n2, ad2, ar2, iv2) : GS) = (n1, ad1, gb_ent ar1 nc (lo / 2) (hi / 2) (nI nc), iv1)) : gb_ok n2 (nc + 1) ic (va_up g nc (some (lo, hi))) bv ar2 iv2 := by
  cases e4
  obtain ⟨B, e3, e5⟩ := e3
  subst e1 e2 hx hy
  have hw := h.wf
  have hle := h.ct.2.1
  have h16 := h.n16
  have hcn := gb_cap_n n (nc + 1)
  have hcg := gb_cap_ge n (nc + 1) (by omega)
  have hcb : gb_cap n (nc + 1) ≤ 65536 := by
    have := h.ct.2.2.1
    unfold gb_cap
    split <;> omega
  have r0 : gb_ent ar1 nc (lo / 2) (hi / 2) (nI nc) 0 = upd (gb_ext n nc (ar 0)) nc (nI lo) := by rw [e3, ← e5 0 (by omega)]; rfl
  have r1 : gb_ent ar1 nc (lo / 2) (hi / 2) (nI nc) 1 = upd (gb_ext n nc (ar 1)) nc (nI hi) := by rw [e3, ← e5 1 (by omega)]; rfl
  have r4 : gb_ent ar1 nc (lo / 2) (hi / 2) (nI nc) 4 = gb_ext n nc (ar 4) := by rw [e3, ← e5 4 (by omega)]; rfl
  have r3 : gb_ent ar1 nc (lo / 2) (hi / 2) (nI nc) 3 = upd (gb_ext n nc (ar 3)) nc (1 + (if gb_ext n nc (ar 3) (lo / 2) < gb_ext n nc (ar 3) (hi / 2) then gb_ext n nc (ar 3) (hi / 2) else gb_ext n nc (ar 3) (lo / 2))) := by rw [e3, ← e5 3 (by omega)]; rfl
  have r2 : gb_ent ar1 nc (lo / 2) (hi / 2) (nI nc) 2 = upd (upd (gb_ext n nc (ar 2)) (lo / 2) (gb_ext n nc (ar 2) (lo / 2) + 1)) (hi / 2) (upd (gb_ext n nc (ar 2)) (lo / 2) (gb_ext n nc (ar 2) (lo / 2) + 1) (hi / 2) + 1) := by rw [e3, ← e5 2 (by omega)]; rfl
  have r7 : gb_ent ar1 nc (lo / 2) (hi / 2) (nI nc) 7 = upd (gb_ext n nc (ar 7)) nc (gb_ext n nc (ar 6) (hi / 2)) := by rw [e3, ← e5 7 (by omega), ← e5 6 (by omega)]; rfl
  have r6 : gb_ent ar1 nc (lo / 2) (hi / 2) (nI nc) 6 = upd (gb_ext n nc (ar 6)) (hi / 2) (nI nc) := by rw [e3, ← e5 6 (by omega)]; rfl
  generalize gb_ent ar1 nc (lo / 2) (hi / 2) (nI nc) = ar2 at r0 r1 r2 r3 r4 r6 r7 ⊢
  have hw' := ct_wf_add hw hlo hlh hhi hno
  have hg : ∀ j, j ≠ nc → va_up g nc (some (lo, hi)) j = g j := fun j hj => va_up_ne _ _ hj
  have hgn : va_up g nc (some (lo, hi)) nc = some (lo, hi) := va_up_self _ _ _
  generalize va_up g nc (some (lo, hi)) = g' at hw' hg hgn ⊢
  refine ⟨⟨by omega, hcg, hcb, hw', fun i hi' => ?_⟩, by omega, va_up_self _ _ _, ?_, h.bv0, fun i hi' => h.bvn i (by omega), fun i hi' => ?_, fun i hi' => ?_, fun i hi' => ?_, fun j u v hj => ?_, fun i hi' hn' => ?_, fun i hi' => ?_, ?_⟩
  · by_cases e : i = nc
    · subst e
      rw [r0, r1, pk_us, pk_us]
      simp [ct_f, ct_s, hgn]
    · rw [r0, r1, pk_un e, pk_un e, gb_ext_in (by omega), gb_ext_in (by omega)]
      have := h.ct.2.2.2.2 i (by omega)
      simp only [ct_f, ct_s, hg i e] at this ⊢
      exact this
  · rw [va_up_ne _ _ (by omega)]; exact h.ic
  · have hr := (gb_rows h i hi').1
    rw [ct_us, hgn]
    dsimp only
    rw [ct_us_ext nc i (fun j hj => hg j (by omega)), r2]
    by_cases c1 : i = hi / 2
    · have hr' := (gb_rows h (hi / 2) (by omega)).1
      rw [c1, pk_us, pk_un (by omega), hr', if_neg (by omega), if_pos rfl]
      exact nI_1 _
    · rw [pk_un c1]
      by_cases c2 : i = lo / 2
      · have hr' := (gb_rows h (lo / 2) (by omega)).1
        rw [c2, pk_us, hr', if_pos rfl, if_neg (by omega)]
        exact nI_1 _
      · rw [pk_un c2, hr, if_neg (by omega), if_neg (by omega)]
        rfl
  · rw [r3]
    by_cases e : i = nc
    · have q1 := (gb_rows h (lo / 2) (by omega)).2.1
      have q2 := (gb_rows h (hi / 2) (by omega)).2.1
      have q3 := ct_dp_le hw (nc + 1) (lo / 2) (by omega)
      have q4 := ct_dp_le hw (nc + 1) (hi / 2) (by omega)
      rw [e, pk_us, q1, q2, ct_max _ _ (by omega) (by omega), ct_dp_s hw' hgn, ct_dp_ext hw (fun j hj => hg j (by omega)), ct_dp_ext hw (fun j hj => hg j (by omega))]
    · rw [pk_un e, (gb_rows h i hi').2.1]
      by_cases c : i < nc
      · rw [ct_dp_ext hw (fun j hj => hg j (by omega))]
      · rw [ct_dp_n (ct_none hw (by omega)), ct_dp_n (by rw [hg i e]; exact ct_none hw (by omega))]
  · rw [r6, ct_nw, hgn]
    dsimp only
    by_cases c : i = hi / 2
    · rw [c, pk_us, if_pos rfl]
    · rw [pk_un c, if_neg (fun z => c z.symm), ct_nw_ext nc i (fun j hj => hg j (by omega))]
      exact (gb_rows h i hi').2.2.1
  · rw [r7]
    by_cases e : j = nc
    · subst e
      rw [hgn] at hj
      cases hj
      rw [pk_us, ct_nw_ext j _ (fun i hi' => hg i (by omega))]
      exact (gb_rows h (hi / 2) (by omega)).2.2.1
    · rw [hg j e] at hj
      have q := hw.1 j u v hj
      rw [pk_un e, gb_ext_in (by omega), ct_nw_ext j _ (fun i hi' => hg i (by omega))]
      exact h.nx j u v hj
  · by_cases e : i = nc
    · subst e; rw [hgn] at hn'; cases hn'
    · rw [r4]
      rw [hg i e] at hn'
      exact (gb_rows h i hi').2.2.2.1 hn'
  · rw [r4]; exact (gb_rows h i hi').2.2.2.2
  · obtain ⟨st, s1, s2, s3, s4⟩ := h.st
    refine ⟨st, ?_, s2, by omega, fun i hi' => ?_⟩
    · rw [va_up_ne _ _ (by omega)]; exact s1
    · rw [r4, gb_ext_in (by omega), s4 i hi', ct_vl_ext hw (fun j hj => ⟨hg j (by omega), rfl⟩)]
/-- a new input: newNode alone, one more counted -/
theorem gb_ok_input {n nc ic : Nat} {g : Ct} {bv : Nat → Bool} {ar ar1 : Nat → Nat → Int32} {iv iv2 : Nat → Int32}
    (h : gb_ok n nc ic g bv ar iv) (hmx : nc < 20000) (e2 : iv2 = va_up (va_up iv 0 (nI (nc + 1))) 1 (nI (ic + 1))) (e3 : ∃ B : Nat → Nat → Int32, ar1 = va_up (va_up B 0 (upd (B 0) nc (-1))) 1 (upd (B 1) nc (-1)) ∧ ∀ k, k < 8 → B k = gb_ext n nc (ar k)) :
    gb_ok (gb_cap n (nc + 1)) (nc + 1) (ic + 1) g bv ar1 iv2 := by
  obtain ⟨B, e3, e5⟩ := e3
  subst e2
  have hw := h.wf
  have hle := h.ct.2.1
  have h16 := h.n16
  have hcn := gb_cap_n n (nc + 1)
  have hcg := gb_cap_ge n (nc + 1) (by omega)
  have hcb : gb_cap n (nc + 1) ≤ 65536 := by
    have := h.ct.2.2.1
    unfold gb_cap
    split <;> omega
  have r0 : ar1 0 = upd (gb_ext n nc (ar 0)) nc (-1) := by rw [e3, ← e5 0 (by omega)]; rfl
  have r1 : ar1 1 = upd (gb_ext n nc (ar 1)) nc (-1) := by rw [e3, ← e5 1 (by omega)]; rfl
  have rk : ∀ k, k < 8 → 2 ≤ k → ar1 k = gb_ext n nc (ar k) := fun k hk hk2 => by rw [e3, ← e5 k hk, va_up_ne _ _ (by omega), va_up_ne _ _ (by omega)]
  have hgn : g nc = none := ct_none hw (Nat.le_refl nc)
  have hw' : ct_wf (nc + 1) g := ⟨fun i x y e => by have := hw.1 i x y e; omega, hw.2⟩
  refine ⟨⟨by omega, hcg, hcb, hw', fun i hi' => ?_⟩, by omega, ?_, va_up_self _ _ _, h.bv0, fun i hi' => h.bvn i (by omega), fun i hi' => ?_, fun i hi' => ?_, fun i hi' => ?_, fun j u v hj => ?_, fun i hi' hn' => ?_, fun i hi' => ?_, ?_⟩
  · by_cases e : i = nc
    · subst e
      rw [r0, r1, pk_us, pk_us]
      simp [ct_f, ct_s, hgn]
    · rw [r0, r1, pk_un e, pk_un e, gb_ext_in (by omega), gb_ext_in (by omega)]
      exact h.ct.2.2.2.2 i (by omega)
  · rw [va_up_ne _ _ (by omega)]; exact va_up_self _ _ _
  · rw [rk 2 (by omega) (by omega), ct_us, hgn]; exact (gb_rows h i hi').1
  · rw [rk 3 (by omega) (by omega)]; exact (gb_rows h i hi').2.1
  · rw [rk 6 (by omega) (by omega), ct_nw, hgn]; exact (gb_rows h i hi').2.2.1
  · have q := hw.1 j u v hj
    rw [rk 7 (by omega) (by omega), gb_ext_in (by omega)]; exact h.nx j u v hj
  · rw [rk 4 (by omega) (by omega)]; exact (gb_rows h i hi').2.2.2.1 hn'
  · rw [rk 4 (by omega) (by omega)]; exact (gb_rows h i hi').2.2.2.2
  · obtain ⟨st, s1, s2, s3, s4⟩ := h.st
    refine ⟨st, ?_, s2, by omega, fun i hi' => ?_⟩
    · rw [va_up_ne _ _ (by omega), va_up_ne _ _ (by omega)]; exact s1
    · rw [rk 4 (by omega) (by omega), gb_ext_in (by omega)]; exact s4 i hi'
-- ===== what AND and what is made of ANDs answer =====
/-- a method's end: its literal, the rows' length, the new state -/
def gb_po (n ic : Nat) (bv : Nat → Bool) (R : Nat × Nat × Ct) (r : Int32) (u : GS) : Prop := r = nI R.1 ∧ u.1 = gb_cap n R.2.1 ∧ gb_ok u.1 R.2.1 ic R.2.2 bv u.2.2.1 u.2.2.2
def ct_an (nc : Nat) (g : Ct) (a b : Nat) : Nat × Nat × Ct := match ct_rd g nc (min a b) (max a b) with
  | .inl v => (v, nc, g)
  | .inr q => ct_gt nc g q.1 q.2
def ct_or (nc : Nat) (g : Ct) (a b : Nat) : Nat × Nat × Ct := (ct_nt (ct_an nc g (ct_nt a) (ct_nt b)).1, (ct_an nc g (ct_nt a) (ct_nt b)).2)
def ct_xo (nc : Nat) (g : Ct) (a b : Nat) : Nat × Nat × Ct :=
  let R1 := ct_an nc g a (ct_nt b)
  let R2 := ct_an R1.2.1 R1.2.2 (ct_nt a) b
  ct_or R2.2.1 R2.2.2 R1.1 R2.1
def ct_ie (nc : Nat) (g : Ct) (a b c : Nat) : Nat × Nat × Ct :=
  let R1 := ct_an nc g a b
  let R2 := ct_an R1.2.1 R1.2.2 (ct_nt a) c
  ct_or R2.2.1 R2.2.2 R1.1 R2.1
def ct_ad (nc : Nat) (g : Ct) (a b c : Nat) : Nat × Nat × Ct :=
  let R1 := ct_xo nc g a b
  ct_xo R1.2.1 R1.2.2 R1.1 c
def ct_ca (nc : Nat) (g : Ct) (a b c : Nat) : Nat × Nat × Ct :=
  let R1 := ct_an nc g a b
  let R2 := ct_xo R1.2.1 R1.2.2 a b
  let R3 := ct_an R2.2.1 R2.2.2 c R2.1
  ct_or R3.2.1 R3.2.2 R1.1 R3.1
/-- a good circuit, a literal of it, at most k nodes more -/
def ct_bd (nc k : Nat) (R : Nat × Nat × Ct) : Prop := ct_wf R.2.1 R.2.2 ∧ R.1 < 2 * R.2.1 ∧ nc ≤ R.2.1 ∧ R.2.1 ≤ nc + k
theorem gb_cap_mono {n a b : Nat} (h : a ≤ b) : gb_cap n a ≤ gb_cap n b := by
  unfold gb_cap
  split <;> split <;> omega
theorem ct_gt_b {nc : Nat} {g : Ct} {x y : Nat} (hw : ct_wf nc g) (h1 : 2 ≤ x) (h2 : x / 2 < y / 2) (h3 : y < 2 * nc) : ct_bd nc 1 (ct_gt nc g x y) := by
  by_cases h : ∃ j, g j = some (x, y)
  · obtain ⟨j, hj⟩ := h
    have := hw.1 j x y hj
    rw [ct_gt_some hw hj]
    exact ⟨hw, by show 2 * j < 2 * nc; omega, Nat.le_refl _, by show nc ≤ nc + 1; omega⟩
  · have hn : ∀ j, g j = some (x, y) → False := fun j hj => h ⟨j, hj⟩
    rw [ct_gt_none hn]
    exact ⟨ct_wf_add hw h1 h2 h3 hn, by show 2 * nc < 2 * (nc + 1); omega, by show nc ≤ nc + 1; omega, Nat.le_refl _⟩
theorem ct_rd_b {nc : Nat} {g : Ct} (hw : ct_wf nc g) : ∀ (k x y : Nat), x ≤ y → y < 2 * nc → y / 2 < k → match ct_rd g k x y with
    | .inl v => v < 2 * nc
    | .inr q => 2 ≤ q.1 ∧ q.1 / 2 < q.2 / 2 ∧ q.2 < 2 * nc := by
  intro k
  induction k with
  | zero => intro x y _ _ h; omega
  | succ k ih =>
    intro x y hxy hy hk
    unfold ct_rd
    cases h1 : ct_kn g x y with
    | some v =>
      have := ct_kn_le h1 hxy
      dsimp only
      omega
    | none =>
      have h3 := ct_kn_gap h1 hxy
      dsimp only
      cases h2 : ct_re g x y with
      | none => exact ⟨h3.1, h3.2, hy⟩
      | some r =>
        have h4 := ct_re_lt hw h2 hxy
        exact ih _ _ h4.2.2.2.2.2 h4.2.2.2.2.1 (by omega)
theorem ct_an_b {nc : Nat} {g : Ct} {a b : Nat} (hw : ct_wf nc g) (ha : a < 2 * nc) (hb : b < 2 * nc) : ct_bd nc 1 (ct_an nc g a b) := by
  have h := ct_rd_b hw nc (min a b) (max a b) (by omega) (by omega) (by omega)
  unfold ct_an
  cases e : ct_rd g nc (min a b) (max a b) with
  | inl v =>
    rw [e] at h
    exact ⟨hw, h, Nat.le_refl _, by show nc ≤ nc + 1; omega⟩
  | inr q =>
    rw [e] at h
    exact ct_gt_b hw h.1 h.2.1 h.2.2
theorem ct_or_b {nc : Nat} {g : Ct} {a b : Nat} (hw : ct_wf nc g) (ha : a < 2 * nc) (hb : b < 2 * nc) : ct_bd nc 1 (ct_or nc g a b) := by
  have h := ct_an_b hw (ct_nt_lt ha) (ct_nt_lt hb)
  exact ⟨h.1, ct_nt_lt h.2.1, h.2.2⟩
theorem ct_bd_tr {nc k j m : Nat} {R1 R2 : Nat × Nat × Ct} (h1 : ct_bd nc k R1) (h2 : ct_bd R1.2.1 j R2) (h : k + j ≤ m) : ct_bd nc m R2 := by
  obtain ⟨-, -, a1, a2⟩ := h1
  obtain ⟨b1, b2, b3, b4⟩ := h2
  exact ⟨b1, b2, by omega, by omega⟩
theorem ct_xo_b {nc : Nat} {g : Ct} {a b : Nat} (hw : ct_wf nc g) (ha : a < 2 * nc) (hb : b < 2 * nc) : ct_bd nc 3 (ct_xo nc g a b) := by
  have h1 := ct_an_b hw ha (ct_nt_lt hb)
  have e1 := h1.2.2.1
  have h2 := ct_an_b h1.1 (ct_nt_lt (a := a) (by omega)) (b := b) (by omega)
  have e2 := h2.2.2.1
  have e3 := h1.2.1
  have h3 := ct_or_b h2.1 (a := (ct_an nc g a (ct_nt b)).1) (by omega) h2.2.1
  exact ct_bd_tr (ct_bd_tr h1 h2 (Nat.le_refl 2)) h3 (Nat.le_refl 3)
theorem ct_ie_b {nc : Nat} {g : Ct} {a b c : Nat} (hw : ct_wf nc g) (ha : a < 2 * nc) (hb : b < 2 * nc) (hc : c < 2 * nc) : ct_bd nc 3 (ct_ie nc g a b c) := by
  have h1 := ct_an_b hw ha hb
  have e1 := h1.2.2.1
  have h2 := ct_an_b h1.1 (ct_nt_lt (a := a) (by omega)) (b := c) (by omega)
  have e2 := h2.2.2.1
  have e3 := h1.2.1
  have h3 := ct_or_b h2.1 (a := (ct_an nc g a b).1) (by omega) h2.2.1
  exact ct_bd_tr (ct_bd_tr h1 h2 (Nat.le_refl 2)) h3 (Nat.le_refl 3)
-- ===== values =====
theorem ct_b_and (a b : Bool) : ct_b a &&& ct_b b = ct_b (a && b) := by cases a <;> cases b <;> decide
theorem ct_b_xor (a b : Bool) : ct_b a ^^^ ct_b b = ct_b (a ^^ b) := by cases a <;> cases b <;> decide
theorem ct_b_mod (a : Nat) : nI (a % 2) = ct_b (decide (a % 2 = 1)) := by
  have h : a % 2 = 0 ∨ a % 2 = 1 := by omega
  rcases h with h | h <;> rw [h] <;> decide
theorem gb_val_n {ar : Nat → Nat → Int32} {a : Nat} {b : Bool} (h : a < 2 ^ 31) (e : ar 4 (a / 2) = ct_b b) : gb_val ar (nI a) = ct_b (b ^^ decide (a % 2 = 1)) := by
  unfold gb_val
  rw [gb_sh_n h, nI_clamp (by omega), e, ct_and1 h, ct_b_mod]
  exact ct_b_xor _ _
theorem gb_ok_val {n nc ic q x y : Nat} {g : Ct} {bv : Nat → Bool} {ar ar' : Nat → Nat → Int32} {iv : Nat → Int32} (h : gb_ok n nc ic g bv ar iv) (hq : g q = some (x, y)) (e : ar' = va_up ar 4 (upd (ar 4) q (ct_b (ct_vl g bv q)))) : gb_ok n nc ic g bv ar' iv := by
  have r4 : ar' 4 = upd (ar 4) q (ct_b (ct_vl g bv q)) := by rw [e, va_up_self]
  have rk : ∀ k, k ≠ 4 → ar' k = ar k := fun k hk => by rw [e, va_up_ne _ _ hk]
  refine ⟨⟨h.ct.1, h.ct.2.1, h.ct.2.2.1, h.wf, fun i hi => ?_⟩, h.n16, h.nc, h.ic, h.bv0, h.bvn, ?_, ?_, ?_, ?_, fun i hi hn => ?_, fun i hi => ?_, ?_⟩
  · rw [rk 0 (by decide), rk 1 (by decide)]; exact h.ct.2.2.2.2 i hi
  · rw [rk 2 (by decide)]; exact h.us
  · rw [rk 3 (by decide)]; exact h.dp
  · rw [rk 6 (by decide)]; exact h.nw
  · rw [rk 7 (by decide)]; exact h.nx
  · rw [r4, pk_un (fun z => by rw [z, hq] at hn; cases hn)]; exact h.vi i hi hn
  · rw [r4]
    by_cases z : i = q
    · rw [z, pk_us]; exact ⟨_, rfl⟩
    · rw [pk_un z]; exact h.vb i hi
  · obtain ⟨st, s1, s2, s3, s4⟩ := h.st
    refine ⟨st, s1, s2, s3, fun i hi => ?_⟩
    rw [r4]
    by_cases z : i = q
    · rw [z, pk_us]
    · rw [pk_un z]; exact s4 i hi
theorem gb_ok_st {n nc ic : Nat} {g : Ct} {bv : Nat → Bool} {ar : Nat → Nat → Int32} {iv iv' : Nat → Int32} (h : gb_ok n nc ic g bv ar iv) {st : Nat} (h1 : 1 ≤ st) (h2 : st ≤ nc) (hv : ∀ i, i < st → ar 4 i = ct_b (ct_vl g bv i)) (e : iv' = va_up iv 2 (nI st)) : gb_ok n nc ic g bv ar iv' := by
  subst e
  exact ⟨h.ct, h.n16, by rw [va_up_ne _ _ (by decide)]; exact h.nc, by rw [va_up_ne _ _ (by decide)]; exact h.ic, h.bv0, h.bvn, h.us, h.dp, h.nw, h.nx, h.vi, h.vb, st, va_up_self _ _ _, h1, h2, hv⟩
-- ===== of what a value hangs =====
def ct_rc (g : Ct) : Nat → Nat → Nat → Bool
  | 0, _, _ => false
  | k + 1, t, i => t == i || match g t with
    | none => false
    | some q => ct_rc g k (q.1 / 2) i || ct_rc g k (q.2 / 2) i
def ct_in (g : Ct) (t i : Nat) : Bool := ct_rc g (t + 1) t i
theorem ct_in_self (g : Ct) (t : Nat) : ct_in g t t = true := by
  unfold ct_in ct_rc
  simp
theorem ct_rc_fuel {nc : Nat} {g : Ct} (h : ct_wf nc g) (i : Nat) : ∀ (k j t : Nat), t < k → t < j → ct_rc g k t i = ct_rc g j t i := by
  intro k
  induction k with
  | zero => intro j t h1; omega
  | succ k ih =>
    intro j t h1 h2
    cases j with
    | zero => omega
    | succ j =>
      unfold ct_rc
      cases hg : g t with
      | none => rfl
      | some q =>
        obtain ⟨x, y⟩ := q
        have h3 := h.1 t x y hg
        dsimp only
        rw [ih j (x / 2) (by omega) (by omega), ih j (y / 2) (by omega) (by omega)]
theorem ct_in_s {nc : Nat} {g : Ct} (h : ct_wf nc g) {t x y : Nat} (hg : g t = some (x, y)) (i : Nat) : ct_in g t i = (t == i || (ct_in g (x / 2) i || ct_in g (y / 2) i)) := by
  have h3 := h.1 t x y hg
  unfold ct_in
  rw [ct_rc, hg]
  dsimp only
  rw [ct_rc_fuel h i t (x / 2 + 1) (x / 2) (by omega) (by omega), ct_rc_fuel h i t (y / 2 + 1) (y / 2) (by omega) (by omega)]
theorem ct_in_n {g : Ct} {t : Nat} (hg : g t = none) (i : Nat) : ct_in g t i = (t == i) := by
  unfold ct_in
  rw [ct_rc, hg]
  simp
/-- what is closed below and holds at the top holds of all that is below it -/
theorem ct_rc_cl {g : Ct} {P : Nat → Prop} (hc : ∀ j x y, g j = some (x, y) → P j → P (x / 2) ∧ P (y / 2)) (i : Nat) : ∀ (k t : Nat), P t → ct_rc g k t i = true → P i := by
  intro k
  induction k with
  | zero => intro t _ h; cases h
  | succ k ih =>
    intro t ht h
    unfold ct_rc at h
    rw [Bool.or_eq_true] at h
    rcases h with h | h
    · rw [beq_iff_eq] at h
      exact h ▸ ht
    · cases hg : g t with
      | none => simp [hg] at h
      | some q =>
        obtain ⟨x, y⟩ := q
        simp only [hg, Bool.or_eq_true] at h
        have h2 := hc t x y hg ht
        exact h.elim (ih _ h2.1) (ih _ h2.2)
theorem ct_rc_dn {nc : Nat} {g : Ct} (hw : ct_wf nc g) {j x y : Nat} (hj : g j = some (x, y)) : ∀ (k t : Nat), t < k → ct_rc g k t j = true → ct_rc g k t (x / 2) = true ∧ ct_rc g k t (y / 2) = true := by
  intro k
  induction k with
  | zero => intro t h; omega
  | succ k ih =>
    intro t hk h
    have h3 := hw.1 j x y hj
    unfold ct_rc at h ⊢
    rw [Bool.or_eq_true] at h
    rcases h with h | h
    · rw [beq_iff_eq] at h
      subst h
      simp only [hj]
      cases k with
      | zero => omega
      | succ k =>
        constructor <;> simp [ct_rc]
    · cases hg : g t with
      | none => simp [hg] at h
      | some q =>
        obtain ⟨u, v⟩ := q
        have h4 := hw.1 t u v hg
        simp only [hg, Bool.or_eq_true] at h ⊢
        rcases h with h | h
        · have := ih (u / 2) (by omega) h
          exact ⟨Or.inr (Or.inl this.1), Or.inr (Or.inl this.2)⟩
        · have := ih (v / 2) (by omega) h
          exact ⟨Or.inr (Or.inr this.1), Or.inr (Or.inr this.2)⟩
/-- one node's two marks -/
theorem gb_mark2 {nc t j0 u v : Nat} {g : Ct} {ar a2 a3 : Nat → Nat → Int32} (hw : ct_wf nc g) (hg : g j0 = some (u, v)) (h1 : a2 5 j0 = 1) (hq : j0 ≤ t) (m2 : ∀ k, k ≠ 5 → a2 k = ar k) (m3 : a2 5 t = 1) (m4 : ∀ i, i ≤ t → a2 5 i = 0 ∨ a2 5 i = 1) (m5 : ∀ i, i ≤ t → a2 5 i = 1 → ct_in g t i = true)
    (m6 : ∀ j x y, j0 < j → j ≤ t → a2 5 j = 1 → g j = some (x, y) → a2 5 (x / 2) = 1 ∧ a2 5 (y / 2) = 1)
    (e : a3 = va_up (va_up a2 5 (upd (a2 5) (u / 2) 1)) 5 (upd (va_up a2 5 (upd (a2 5) (u / 2) 1) 5) (v / 2) 1)) :
    (∀ k, k ≠ 5 → a3 k = ar k) ∧ a3 5 t = 1 ∧ (∀ i, i ≤ t → a3 5 i = 0 ∨ a3 5 i = 1) ∧ (∀ i, i ≤ t → a3 5 i = 1 → ct_in g t i = true) ∧ (∀ j x y, j0 - 1 < j → j ≤ t → a3 5 j = 1 → g j = some (x, y) → a3 5 (x / 2) = 1 ∧ a3 5 (y / 2) = 1) := by
  have h3 := hw.1 j0 u v hg
  have r5 : a3 5 = upd (upd (a2 5) (u / 2) 1) (v / 2) 1 := by rw [e, va_up_self, va_up_self]
  have keep : ∀ i, a2 5 i = 1 → a3 5 i = 1 := by
    intro i hi
    rw [r5]
    by_cases z : i = v / 2
    · rw [z, pk_us]
    · rw [pk_un z]
      by_cases z2 : i = u / 2
      · rw [z2, pk_us]
      · rw [pk_un z2]; exact hi
  have hcases : ∀ i, i = v / 2 ∨ i = u / 2 ∨ a3 5 i = a2 5 i := by
    intro i
    by_cases z : i = v / 2
    · exact Or.inl z
    · by_cases z2 : i = u / 2
      · exact Or.inr (Or.inl z2)
      · exact Or.inr (Or.inr (by rw [r5, pk_un z, pk_un z2]))
  have hu : a3 5 (u / 2) = 1 := by
    rw [r5, pk_un (by omega), pk_us]
  have hv : a3 5 (v / 2) = 1 := by rw [r5, pk_us]
  have hd := ct_rc_dn hw hg (t + 1) t (by omega) (m5 j0 hq h1)
  refine ⟨fun k hk => by rw [e, va_up_ne _ _ hk, va_up_ne _ _ hk]; exact m2 k hk, keep t m3, fun i hi => ?_, fun i hi h => ?_, fun j x y g1 g2 g3 g4 => ?_⟩
  · rcases hcases i with z | z | z
    · exact Or.inr (by rw [z]; exact hv)
    · exact Or.inr (by rw [z]; exact hu)
    · rw [z]; exact m4 i hi
  · rcases hcases i with z | z | z
    · rw [z]; exact hd.2
    · rw [z]; exact hd.1
    · exact m5 i hi (by rw [← z]; exact h)
  · by_cases hj : j = j0
    · subst hj
      rw [hg] at g4
      cases g4
      exact ⟨hu, hv⟩
    · have h5 : a2 5 j = 1 := by
        rcases hcases j with z | z | z
        · omega
        · omega
        · rw [← z]; exact g3
      have h6 := m6 j x y (by omega) g2 h5 g4
      exact ⟨keep _ h6.1, keep _ h6.2⟩
theorem gb_marks {nc t : Nat} {g : Ct} {a2 : Nat → Nat → Int32} (hw : ct_wf nc g) (m3 : a2 5 t = 1) (m4 : ∀ i, i ≤ t → a2 5 i = 0 ∨ a2 5 i = 1) (m5 : ∀ i, i ≤ t → a2 5 i = 1 → ct_in g t i = true)
    (m6 : ∀ j x y, j ≤ t → a2 5 j = 1 → g j = some (x, y) → a2 5 (x / 2) = 1 ∧ a2 5 (y / 2) = 1) : ∀ i, i ≤ t → a2 5 i = ct_b (ct_in g t i) := by
  intro i hi
  rcases m4 i hi with h | h
  · cases e : ct_in g t i with
    | false => exact h
    | true =>
      have := ct_rc_cl (g := g) (P := fun j => j ≤ t ∧ a2 5 j = 1) (fun j x y hj hp => by
        have h3 := hw.1 j x y hj
        have h4 := m6 j x y hp.1 hp.2 hj
        exact ⟨⟨by omega, h4.1⟩, ⟨by omega, h4.2⟩⟩) i (t + 1) t ⟨Nat.le_refl t, m3⟩ e
      rw [h] at this
      exact absurd this.2 (by decide)
  · rw [m5 i hi h]; exact h
/-- how many gates, among the first k nodes, are below t (t with them) -/
def ct_cn (g : Ct) (t : Nat) : Nat → Nat
  | 0 => 0
  | k + 1 => ct_cn g t k + (if ct_in g t k = true ∧ g k ≠ none then 1 else 0)
end
section
set_option maxHeartbeats 4000000 in
set_option maxRecDepth 100000 in
/-- not -/
theorem c_not (l : Launch) (x : Int32) : Met l yX0_not wsX0_not ({ frames := 0, cells := 0, slots := 0, locals := 0 }) (fun v _ => v = ([.int x] : List Value).toArray) (vp_Si (fun r => r = x ^^^ 1)) 0 0 (fun _ => False) := by
  refine Met.ofW (cc := cX0_not) (maxL := 1) (ret := (some .int)) (by decide) rfl ?_
  intro p e s m args below meth c s₁ B hml hv
  subst hv
  have hx := B.exec
  have hb := B.bytes
  have hr := B.returns
  have hts := atoms_spec (ws := wsX0_not) B.pre
  have hown : s.vm.findClass RX0 = some m.cls := findClass_of_methodNamed B.named
  have hlocks := B.notSynchronized
  have hl := lv_entry ([.int x]) (n := 1) (Nat.le_of_ble_eq_true rfl)
  rw [lg_entry_eq]
  generalize (lg_sl ([.int x]) ++ List.replicate (1 - (lg_sl ([.int x])).length) Slot.unset).toArray = ls at hl ⊢
  have hl : lv_has ls 1 [(0, .int x)] := hl
  refine lv_iload_n hx hb dX0_not_0 rfl (lv_at hl 0 rfl) ?_
  refine lv_iconst (v := 1) hx hb dX0_not_1 (by decide) ?_
  refine lv_ixor hx hb dX0_not_2 ?_
  refine lv_topi (fun v2 e2 => ?_)
  exact W.iret (v := v2) hx hb hr (fun t ht hW => ⟨v2, rfl, e2, ht⟩) (fun _ h => nomatch h) dX0_not_3
set_option maxHeartbeats 4000000 in
set_option maxRecDepth 100000 in
/-- isNegated -/
theorem c_isNegated (l : Launch) (x : Int32) : Met l yX0_isNegated wsX0_isNegated ({ frames := 0, cells := 0, slots := 0, locals := 0 }) (fun v _ => v = ([.int x] : List Value).toArray) (vp_Si (fun r => r = gb_neg x)) 0 0 (fun _ => False) := by
  refine Met.ofW (cc := cX0_isNegated) (maxL := 1) (ret := (some .boolean)) (by decide) rfl ?_
  intro p e s m args below meth c s₁ B hml hv
  subst hv
  have hx := B.exec
  have hb := B.bytes
  have hr := B.returns
  have hts := atoms_spec (ws := wsX0_isNegated) B.pre
  have hown : s.vm.findClass RX0 = some m.cls := findClass_of_methodNamed B.named
  have hlocks := B.notSynchronized
  have hl := lv_entry ([.int x]) (n := 1) (Nat.le_of_ble_eq_true rfl)
  rw [lg_entry_eq]
  generalize (lg_sl ([.int x]) ++ List.replicate (1 - (lg_sl ([.int x])).length) Slot.unset).toArray = ls at hl ⊢
  have hl : lv_has ls 1 [(0, .int x)] := hl
  refine lv_iload_n hx hb dX0_isNegated_0 rfl (lv_at hl 0 rfl) ?_
  refine lv_iconst (v := 1) hx hb dX0_isNegated_1 (by decide) ?_
  refine lv_iand hx hb dX0_isNegated_2 ?_
  refine lv_topi (fun v2 e2 => ?_)
  refine lv_iconst (v := 1) hx hb dX0_isNegated_3 (by decide) ?_
  refine lv_icmp_ne (tgt := 11) hx hb dX0_isNegated_4 (by decide) (fun c4 => ?_) (fun c4 => ?_)
  · refine lv_iconst (v := 0) hx hb dX0_isNegated_11 (by decide) ?_
    exact W.zret (v := 0) hx hb hr (by decide) (fun t ht hW => ⟨0, rfl, (by subst e2; simp [gb_neg, c4]), ht⟩) (fun _ h => nomatch h) dX0_isNegated_12
  · refine lv_iconst (v := 1) hx hb dX0_isNegated_7 (by decide) ?_
    refine lv_goto (tgt := 12) hx hb dX0_isNegated_8 (by decide) ?_
    exact W.zret (v := 1) hx hb hr (by decide) (fun t ht hW => ⟨1, rfl, (by subst e2; simp [gb_neg, c4]), ht⟩) (fun _ h => nomatch h) dX0_isNegated_12
set_option maxHeartbeats 4000000 in
set_option maxRecDepth 100000 in
/-- isGate -/
theorem c_isGate (l : Launch) (D : va_G) (h0 : Nat) (cI : ClassId) (n : Nat) (ad : Nat → Nat) (ar : Nat → Nat → Int32) (iv : Nat → Int32) (x : Int32) (hi5 : vp_in x n) : Met l yX0_isGate wsX0_isGate ({ frames := 0, cells := 0, slots := 0, locals := 0 }) (rP D (gW h0 cI n ad ar iv) [(cI, .int)] [.ref h0, .int x]) (vp_Si (fun r => r = gb_gate ar x)) 0 0 (fun _ => False) := by
  refine Met.ofW (cc := cX0_isGate) (maxL := 2) (ret := (some .boolean)) (by decide) rfl ?_
  intro p e s m args below meth c s₁ B hml hv
  obtain ⟨rfl, hP, hK⟩ := hv
  have hx := B.exec
  have hb := B.bytes
  have hr := B.returns
  have hts := atoms_spec (ws := wsX0_isGate) B.pre
  have hown : s.vm.findClass RX0 = some m.cls := findClass_of_methodNamed B.named
  have hlocks := B.notSynchronized
  have hl := lv_entry ([.ref h0, .int x]) (n := 2) (Nat.le_of_ble_eq_true rfl)
  rw [lg_entry_eq]
  generalize (lg_sl ([.ref h0, .int x]) ++ List.replicate (2 - (lg_sl ([.ref h0, .int x])).length) Slot.unset).toArray = ls at hl ⊢
  have hl : lv_has ls 2 [(0, .ref h0), (1, .int x)] := hl
  refine lv_aload_n hx hb dX0_isGate_0 rfl (lv_at hl 0 rfl) ?_
  refine va_get (D := D) (ci := 0) (v := .ref (ad 0)) (C := RX0) (T := TX0) (N := 11) hx hb hts inX0 hown hK hP 0 rfl rfl 0 (by decide) (hts _ (mG wm_53)) (fun _ h9 => h9) rfl dX0_isGate_1 ?_
  refine lv_iload_n hx hb dX0_isGate_4 rfl (lv_at hl 1 rfl) ?_
  refine va_iald hx hb hK hP 1 0 rfl rfl hi5 dX0_isGate_5 ?_
  refine lv_topi (fun v5 e5 => ?_)
  refine lv_iconst (v := -1) hx hb dX0_isGate_6 (by decide) ?_
  refine lv_icmp_eq (tgt := 14) hx hb dX0_isGate_7 (by decide) (fun c7 => ?_) (fun c7 => ?_)
  · refine lv_iconst (v := 0) hx hb dX0_isGate_14 (by decide) ?_
    exact W.zret (v := 0) hx hb hr (by decide) (fun t ht hW => ⟨0, rfl, (by subst e5; simp [gb_gate, c7]), ht⟩) (fun _ h => nomatch h) dX0_isGate_15
  · refine lv_iconst (v := 1) hx hb dX0_isGate_10 (by decide) ?_
    refine lv_goto (tgt := 15) hx hb dX0_isGate_11 (by decide) ?_
    exact W.zret (v := 1) hx hb hr (by decide) (fun t ht hW => ⟨1, rfl, (by subst e5; simp [gb_gate, c7]), ht⟩) (fun _ h => nomatch h) dX0_isGate_15
set_option maxHeartbeats 4000000 in
set_option maxRecDepth 100000 in
/-- valueNow -/
theorem c_valueNow (l : Launch) (D : va_G) (h0 : Nat) (cI : ClassId) (n : Nat) (ad : Nat → Nat) (ar : Nat → Nat → Int32) (iv : Nat → Int32) (x : Int32) (h1 : vp_in (gb_sh x) n) : Met l yX0_valueNow wsX0_valueNow ({ frames := 0, cells := 0, slots := 0, locals := 0 }) (rP D (gW h0 cI n ad ar iv) [(cI, .int)] [.ref h0, .int x]) (vp_Si (fun r => r = gb_val ar x)) 0 0 (fun _ => False) := by
  refine Met.ofW (cc := cX0_valueNow) (maxL := 2) (ret := (some .int)) (by decide) rfl ?_
  intro p e s m args below meth c s₁ B hml hv
  obtain ⟨rfl, hP, hK⟩ := hv
  have hx := B.exec
  have hb := B.bytes
  have hr := B.returns
  have hts := atoms_spec (ws := wsX0_valueNow) B.pre
  have hown : s.vm.findClass RX0 = some m.cls := findClass_of_methodNamed B.named
  have hlocks := B.notSynchronized
  have hl := lv_entry ([.ref h0, .int x]) (n := 2) (Nat.le_of_ble_eq_true rfl)
  rw [lg_entry_eq]
  generalize (lg_sl ([.ref h0, .int x]) ++ List.replicate (2 - (lg_sl ([.ref h0, .int x])).length) Slot.unset).toArray = ls at hl ⊢
  have hl : lv_has ls 2 [(0, .ref h0), (1, .int x)] := hl
  refine lv_aload_n hx hb dX0_valueNow_0 rfl (lv_at hl 0 rfl) ?_
  refine va_get (D := D) (ci := 0) (v := .ref (ad 4)) (C := RX0) (T := TX0) (N := 11) hx hb hts inX0 hown hK hP 0 rfl rfl 4 (by decide) (hts _ (mG wm_57)) (fun _ h9 => h9) rfl dX0_valueNow_1 ?_
  refine lv_iload_n hx hb dX0_valueNow_4 rfl (lv_at hl 1 rfl) ?_
  refine lv_iconst (v := 1) hx hb dX0_valueNow_5 (by decide) ?_
  refine lv_ishr hx hb dX0_valueNow_6 ?_
  refine lv_topi (fun v6 e6 => ?_)
  refine va_iald hx hb hK hP 5 0 rfl rfl (by rw [e6]; exact h1) dX0_valueNow_7 ?_
  refine lv_topi (fun v7 e7 => ?_)
  refine lv_iload_n hx hb dX0_valueNow_8 rfl (lv_at hl 1 rfl) ?_
  refine lv_iconst (v := 1) hx hb dX0_valueNow_9 (by decide) ?_
  refine lv_iand hx hb dX0_valueNow_10 ?_
  refine lv_topi (fun v10 e10 => ?_)
  refine lv_ixor hx hb dX0_valueNow_11 ?_
  refine lv_topi (fun v11 e11 => ?_)
  exact W.iret (v := v11) hx hb hr (fun t ht hW => ⟨v11, rfl, (by rw [e11, e10, e7, e6]; rfl), ht⟩) (fun _ h => nomatch h) dX0_valueNow_12
set_option maxHeartbeats 4000000 in
set_option maxRecDepth 100000 in
/-- hasLiteral -/
theorem c_hasLiteral (l : Launch) (D : va_G) (h0 : Nat) (cI : ClassId) (n : Nat) (ad : Nat → Nat) (ar : Nat → Nat → Int32) (iv : Nat → Int32) (x : Int32) (y : Int32) (hi5 : vp_in x n) : Met l yX0_hasLiteral wsX0_hasLiteral ({ frames := 0, cells := 0, slots := 0, locals := 0 }) (rP D (gW h0 cI n ad ar iv) [(cI, .int)] [.ref h0, .int x, .int y]) (vp_Si (fun r => r = gb_has ar x y)) 0 0 (fun _ => False) := by
  refine Met.ofW (cc := cX0_hasLiteral) (maxL := 3) (ret := (some .boolean)) (by decide) rfl ?_
  intro p e s m args below meth c s₁ B hml hv
  obtain ⟨rfl, hP, hK⟩ := hv
  have hx := B.exec
  have hb := B.bytes
  have hr := B.returns
  have hts := atoms_spec (ws := wsX0_hasLiteral) B.pre
  have hown : s.vm.findClass RX0 = some m.cls := findClass_of_methodNamed B.named
  have hlocks := B.notSynchronized
  have hl := lv_entry ([.ref h0, .int x, .int y]) (n := 3) (Nat.le_of_ble_eq_true rfl)
  rw [lg_entry_eq]
  generalize (lg_sl ([.ref h0, .int x, .int y]) ++ List.replicate (3 - (lg_sl ([.ref h0, .int x, .int y])).length) Slot.unset).toArray = ls at hl ⊢
  have hl : lv_has ls 3 [(0, .ref h0), (1, .int x), (2, .int y)] := hl
  refine lv_aload_n hx hb dX0_hasLiteral_0 rfl (lv_at hl 0 rfl) ?_
  refine va_get (D := D) (ci := 0) (v := .ref (ad 0)) (C := RX0) (T := TX0) (N := 11) hx hb hts inX0 hown hK hP 0 rfl rfl 0 (by decide) (hts _ (mG wm_53)) (fun _ h9 => h9) rfl dX0_hasLiteral_1 ?_
  refine lv_iload_n hx hb dX0_hasLiteral_4 rfl (lv_at hl 1 rfl) ?_
  refine va_iald hx hb hK hP 1 0 rfl rfl hi5 dX0_hasLiteral_5 ?_
  refine lv_topi (fun v5 e5 => ?_)
  refine lv_iload_n hx hb dX0_hasLiteral_6 rfl (lv_at hl 2 rfl) ?_
  refine lv_icmp_eq (tgt := 20) hx hb dX0_hasLiteral_7 (by decide) (fun c7 => ?_) (fun c7 => ?_)
  · refine lv_iconst (v := 1) hx hb dX0_hasLiteral_20 (by decide) ?_
    refine lv_goto (tgt := 25) hx hb dX0_hasLiteral_21 (by decide) ?_
    exact W.zret (v := 1) hx hb hr (by decide) (fun t ht hW => ⟨1, rfl, (by subst e5; simp [gb_has, c7]), ht⟩) (fun _ h => nomatch h) dX0_hasLiteral_25
  · refine lv_aload_n hx hb dX0_hasLiteral_10 rfl (lv_at hl 0 rfl) ?_
    refine va_get (D := D) (ci := 0) (v := .ref (ad 1)) (C := RX0) (T := TX0) (N := 11) hx hb hts inX0 hown hK hP 0 rfl rfl 1 (by decide) (hts _ (mG wm_54)) (fun _ h9 => h9) rfl dX0_hasLiteral_11 ?_
    refine lv_iload_n hx hb dX0_hasLiteral_14 rfl (lv_at hl 1 rfl) ?_
    refine va_iald hx hb hK hP 2 0 rfl rfl hi5 dX0_hasLiteral_15 ?_
    refine lv_topi (fun v15 e15 => ?_)
    refine lv_iload_n hx hb dX0_hasLiteral_16 rfl (lv_at hl 2 rfl) ?_
    refine lv_icmp_ne (tgt := 24) hx hb dX0_hasLiteral_17 (by decide) (fun c17 => ?_) (fun c17 => ?_)
    · refine lv_iconst (v := 0) hx hb dX0_hasLiteral_24 (by decide) ?_
      exact W.zret (v := 0) hx hb hr (by decide) (fun t ht hW => ⟨0, rfl, (by subst e5 e15; simp [gb_has, c7, c17]), ht⟩) (fun _ h => nomatch h) dX0_hasLiteral_25
    · refine lv_iconst (v := 1) hx hb dX0_hasLiteral_20 (by decide) ?_
      refine lv_goto (tgt := 25) hx hb dX0_hasLiteral_21 (by decide) ?_
      exact W.zret (v := 1) hx hb hr (by decide) (fun t ht hW => ⟨1, rfl, (by subst e5 e15; simp [gb_has, c7, c17]), ht⟩) (fun _ h => nomatch h) dX0_hasLiteral_25
set_option maxHeartbeats 4000000 in
set_option maxRecDepth 100000 in
/-- kindOf -/
theorem c_kindOf (l : Launch) (D : va_G) (h0 : Nat) (cI : ClassId) (n : Nat) (ad : Nat → Nat) (ar : Nat → Nat → Int32) (iv : Nat → Int32) (x : Int32) (hi : vp_in x n) : Met l yX0_kindOf wsX0_kindOf ({ frames := 1, cells := 0, slots := 0, locals := 21 }) (rP D (gW h0 cI n ad ar iv) [(cI, .int)] [.ref h0, .int x]) (vp_Si (fun r => r = gb_kind ar x)) 0 0 (fun _ => False) := by
  refine Met.ofW (cc := cX0_kindOf) (maxL := 2) (ret := (some .int)) (by decide) rfl ?_
  intro p e s m args below meth c s₁ B hml hv
  obtain ⟨rfl, hP, hK⟩ := hv
  have hx := B.exec
  have hb := B.bytes
  have hr := B.returns
  have hts := atoms_spec (ws := wsX0_kindOf) B.pre
  have hown : s.vm.findClass RX0 = some m.cls := findClass_of_methodNamed B.named
  have hlocks := B.notSynchronized
  have hl := lv_entry ([.ref h0, .int x]) (n := 2) (Nat.le_of_ble_eq_true rfl)
  rw [lg_entry_eq]
  generalize (lg_sl ([.ref h0, .int x]) ++ List.replicate (2 - (lg_sl ([.ref h0, .int x])).length) Slot.unset).toArray = ls at hl ⊢
  have hl : lv_has ls 2 [(0, .ref h0), (1, .int x)] := hl
  refine lv_iload_n hx hb dX0_kindOf_0 rfl (lv_at hl 1 rfl) ?_
  refine lv_if_ne (tgt := 6) hx hb dX0_kindOf_1 (by decide) (fun c1 => ?_) (fun c1 => ?_)
  · refine lv_aload_n hx hb dX0_kindOf_6 rfl (lv_at hl 0 rfl) ?_
    refine lv_iload_n hx hb dX0_kindOf_7 rfl (lv_at hl 1 rfl) ?_
    have hc8 := hi
    refine vp_callSi (W.runV (As := [.int x]) (rest := []) ⟨hx, hb, hml, hown, hts⟩ (c_isGate l D h0 cI n ad ar iv x hc8) (cwV 1 hts gX0_kindOf_X0_isGate rfl rfl rfl (by decide +kernel) ⟨Nat.le_of_ble_eq_true rfl, Nat.le_of_ble_eq_true rfl⟩) (rP_V hK hP (va_recv hK hP (ci := 0) (q0 := 0) rfl rfl)) rfl rfl hl.1 rfl (lv_room (Nat.le_of_ble_eq_true rfl)) dX0_kindOf_8 ⟨Nat.zero_le _, Nat.zero_le _⟩) (fun r8 e8 => ?_)
    refine lv_if_eq (tgt := 18) hx hb dX0_kindOf_11 (by decide) (fun c11 => ?_) (fun c11 => ?_)
    · refine lv_iconst (v := 1) hx hb dX0_kindOf_18 (by decide) ?_
      exact W.iret (v := 1) hx hb hr (fun t ht hW => ⟨1, rfl, (by subst e8; simp [gb_kind, c1, c11]), ht⟩) (fun _ h => nomatch h) dX0_kindOf_19
    · refine lv_iconst (v := 2) hx hb dX0_kindOf_14 (by decide) ?_
      refine lv_goto (tgt := 19) hx hb dX0_kindOf_15 (by decide) ?_
      exact W.iret (v := 2) hx hb hr (fun t ht hW => ⟨2, rfl, (by subst e8; simp [gb_kind, c1, c11]), ht⟩) (fun _ h => nomatch h) dX0_kindOf_19
  · refine lv_iconst (v := 0) hx hb dX0_kindOf_4 (by decide) ?_
    exact W.iret (v := 0) hx hb hr (fun t ht hW => ⟨0, rfl, (by simp [gb_kind, c1]), ht⟩) (fun _ h => nomatch h) dX0_kindOf_5
set_option maxHeartbeats 4000000 in
set_option maxRecDepth 100000 in
/-- isGateAgainst -/
theorem c_isGateAgainst (l : Launch) (D : va_G) (h0 : Nat) (cI : ClassId) (n : Nat) (ad : Nat → Nat) (ar : Nat → Nat → Int32) (iv : Nat → Int32) (x : Int32) (k : Int32) (h1 : vp_in (gb_sh x) n) (h2 : vp_in k n) : Met l yX0_isGateAgainst wsX0_isGateAgainst ({ frames := 1, cells := 0, slots := 0, locals := 22 }) (rP D (gW h0 cI n ad ar iv) [(cI, .int)] [.ref h0, .int x, .int k]) (vp_Si (fun r => r = gb_ag ar x k)) 0 0 (fun _ => False) := by
  refine Met.ofW (cc := cX0_isGateAgainst) (maxL := 4) (ret := (some .boolean)) (by decide) rfl ?_
  intro p e s m args below meth c s₁ B hml hv
  obtain ⟨rfl, hP, hK⟩ := hv
  have hx := B.exec
  have hb := B.bytes
  have hr := B.returns
  have hts := atoms_spec (ws := wsX0_isGateAgainst) B.pre
  have hown : s.vm.findClass RX0 = some m.cls := findClass_of_methodNamed B.named
  have hlocks := B.notSynchronized
  have hl := lv_entry ([.ref h0, .int x, .int k]) (n := 4) (Nat.le_of_ble_eq_true rfl)
  rw [lg_entry_eq]
  generalize (lg_sl ([.ref h0, .int x, .int k]) ++ List.replicate (4 - (lg_sl ([.ref h0, .int x, .int k])).length) Slot.unset).toArray = ls at hl ⊢
  have hl : lv_has ls 4 [(0, .ref h0), (1, .int x), (2, .int k)] := hl
  refine lv_iload_n hx hb dX0_isGateAgainst_0 rfl (lv_at hl 1 rfl) ?_
  refine lv_iconst (v := 1) hx hb dX0_isGateAgainst_1 (by decide) ?_
  refine lv_ishr hx hb dX0_isGateAgainst_2 ?_
  refine lv_topi (fun v2 e2 => ?_)
  have e2 : v2 = gb_sh x := e2
  have hi28 : vp_in v2 n := by rw [e2]; exact h1
  have hi45 := hi28
  have hc13 := hi28
  have hc32 := h2
  have hc49 := h2
  refine lv_istore_n (lv' := [(3, .int v2), (0, .ref h0), (1, .int x), (2, .int k)]) hx hb dX0_isGateAgainst_3 rfl hl (by decide) rfl (fun ls hl => ?_)
  refine lv_iload_n hx hb dX0_isGateAgainst_4 rfl (lv_at hl 2 rfl) ?_
  refine vp_callSi (W.runS (As := [.int x]) (rest := []) ⟨hx, hb, hml, hown, hts⟩ (c_isNegated l x) (va_cwS 1 hts gX0_isGateAgainst_X0_isNegated rfl rfl rfl (by decide +kernel) ⟨Nat.le_of_ble_eq_true rfl, Nat.le_of_ble_eq_true rfl⟩) preEq rfl rfl hl.1 rfl (lv_room (Nat.le_of_ble_eq_true rfl)) dX0_isGateAgainst_5 ⟨Nat.zero_le _, Nat.zero_le _⟩) (fun r5 e5 => ?_)
  refine lv_if_ne (tgt := 19) hx hb dX0_isGateAgainst_8 (by decide) (fun c8 => ?_) (fun c8 => ?_)
  · refine lv_iconst (v := 0) hx hb dX0_isGateAgainst_19 (by decide) ?_
    exact W.zret (v := 0) hx hb hr (by decide) (fun t ht hW => ⟨0, rfl, (by subst e2 e5; simp [gb_ag, c8]), ht⟩) (fun _ h => nomatch h) dX0_isGateAgainst_20
  · refine lv_aload_n hx hb dX0_isGateAgainst_11 rfl (lv_at hl 1 rfl) ?_
    refine lv_iload_n hx hb dX0_isGateAgainst_12 rfl (lv_at hl 0 rfl) ?_
    refine vp_callSi (W.runV (As := [.int v2]) (rest := []) ⟨hx, hb, hml, hown, hts⟩ (c_isGate l D h0 cI n ad ar iv v2 hc13) (cwV 1 hts gX0_isGateAgainst_X0_isGate rfl rfl rfl (by decide +kernel) ⟨Nat.le_of_ble_eq_true rfl, Nat.le_of_ble_eq_true rfl⟩) (rP_V hK hP (va_recv hK hP (ci := 0) (q0 := 0) rfl rfl)) rfl rfl hl.1 rfl (lv_room (Nat.le_of_ble_eq_true rfl)) dX0_isGateAgainst_13 ⟨Nat.zero_le _, Nat.zero_le _⟩) (fun r13 e13 => ?_)
    refine lv_if_ne (tgt := 21) hx hb dX0_isGateAgainst_16 (by decide) (fun c16 => ?_) (fun c16 => ?_)
    · refine lv_aload_n hx hb dX0_isGateAgainst_21 rfl (lv_at hl 1 rfl) ?_
      refine lv_iload_n hx hb dX0_isGateAgainst_22 rfl (lv_at hl 3 rfl) ?_
      refine lv_aload_n hx hb dX0_isGateAgainst_23 rfl (lv_at hl 1 rfl) ?_
      refine va_get (D := D) (ci := 0) (v := .ref (ad 0)) (C := RX0) (T := TX0) (N := 11) hx hb hts inX0 hown hK hP 0 rfl rfl 0 (by decide) (hts _ (mG wm_53)) (fun _ h9 => h9) rfl dX0_isGateAgainst_24 ?_
      refine lv_iload_n hx hb dX0_isGateAgainst_27 rfl (lv_at hl 0 rfl) ?_
      refine va_iald hx hb hK hP 1 0 rfl rfl hi28 dX0_isGateAgainst_28 ?_
      refine lv_topi (fun v28 e28 => ?_)
      refine vp_callSi (W.runS (As := [.int v28]) (rest := [.int k, .ref h0]) ⟨hx, hb, hml, hown, hts⟩ (c_not l v28) (va_cwS 1 hts gX0_isGateAgainst_X0_not rfl rfl rfl (by decide +kernel) ⟨Nat.le_of_ble_eq_true rfl, Nat.le_of_ble_eq_true rfl⟩) preEq rfl rfl hl.1 rfl (lv_room (Nat.le_of_ble_eq_true rfl)) dX0_isGateAgainst_29 ⟨Nat.zero_le _, Nat.zero_le _⟩) (fun r29 e29 => ?_)
      refine vp_callSi (W.runV (As := [.int k, .int r29]) (rest := []) ⟨hx, hb, hml, hown, hts⟩ (c_hasLiteral l D h0 cI n ad ar iv k r29 hc32) (cwV 2 hts gX0_isGateAgainst_X0_hasLiteral rfl rfl rfl (by decide +kernel) ⟨Nat.le_of_ble_eq_true rfl, Nat.le_of_ble_eq_true rfl⟩) (rP_V hK hP (va_recv hK hP (ci := 0) (q0 := 0) rfl rfl)) rfl rfl hl.1 rfl (lv_room (Nat.le_of_ble_eq_true rfl)) dX0_isGateAgainst_32 ⟨Nat.zero_le _, Nat.zero_le _⟩) (fun r32 e32 => ?_)
      refine lv_if_ne (tgt := 55) hx hb dX0_isGateAgainst_35 (by decide) (fun c35 => ?_) (fun c35 => ?_)
      · refine lv_iconst (v := 1) hx hb dX0_isGateAgainst_55 (by decide) ?_
        refine lv_goto (tgt := 60) hx hb dX0_isGateAgainst_56 (by decide) ?_
        exact W.zret (v := 1) hx hb hr (by decide) (fun t ht hW => ⟨1, rfl, (by subst e2 e5 e13 e28 e29 e32; simp [gb_ag, c8, c16, c35]), ht⟩) (fun _ h => nomatch h) dX0_isGateAgainst_60
      · refine lv_aload_n hx hb dX0_isGateAgainst_38 rfl (lv_at hl 1 rfl) ?_
        refine lv_iload_n hx hb dX0_isGateAgainst_39 rfl (lv_at hl 3 rfl) ?_
        refine lv_aload_n hx hb dX0_isGateAgainst_40 rfl (lv_at hl 1 rfl) ?_
        refine va_get (D := D) (ci := 0) (v := .ref (ad 1)) (C := RX0) (T := TX0) (N := 11) hx hb hts inX0 hown hK hP 0 rfl rfl 1 (by decide) (hts _ (mG wm_54)) (fun _ h9 => h9) rfl dX0_isGateAgainst_41 ?_
        refine lv_iload_n hx hb dX0_isGateAgainst_44 rfl (lv_at hl 0 rfl) ?_
        refine va_iald hx hb hK hP 2 0 rfl rfl hi45 dX0_isGateAgainst_45 ?_
        refine lv_topi (fun v45 e45 => ?_)
        refine vp_callSi (W.runS (As := [.int v45]) (rest := [.int k, .ref h0]) ⟨hx, hb, hml, hown, hts⟩ (c_not l v45) (va_cwS 1 hts gX0_isGateAgainst_X0_not rfl rfl rfl (by decide +kernel) ⟨Nat.le_of_ble_eq_true rfl, Nat.le_of_ble_eq_true rfl⟩) preEq rfl rfl hl.1 rfl (lv_room (Nat.le_of_ble_eq_true rfl)) dX0_isGateAgainst_46 ⟨Nat.zero_le _, Nat.zero_le _⟩) (fun r46 e46 => ?_)
        refine vp_callSi (W.runV (As := [.int k, .int r46]) (rest := []) ⟨hx, hb, hml, hown, hts⟩ (c_hasLiteral l D h0 cI n ad ar iv k r46 hc49) (cwV 2 hts gX0_isGateAgainst_X0_hasLiteral rfl rfl rfl (by decide +kernel) ⟨Nat.le_of_ble_eq_true rfl, Nat.le_of_ble_eq_true rfl⟩) (rP_V hK hP (va_recv hK hP (ci := 0) (q0 := 0) rfl rfl)) rfl rfl hl.1 rfl (lv_room (Nat.le_of_ble_eq_true rfl)) dX0_isGateAgainst_49 ⟨Nat.zero_le _, Nat.zero_le _⟩) (fun r49 e49 => ?_)
        refine lv_if_eq (tgt := 59) hx hb dX0_isGateAgainst_52 (by decide) (fun c52 => ?_) (fun c52 => ?_)
        · refine lv_iconst (v := 0) hx hb dX0_isGateAgainst_59 (by decide) ?_
          exact W.zret (v := 0) hx hb hr (by decide) (fun t ht hW => ⟨0, rfl, (by subst e2 e5 e13 e28 e29 e32 e45 e46 e49; simp [gb_ag, c8, c16, c35, c52]), ht⟩) (fun _ h => nomatch h) dX0_isGateAgainst_60
        · refine lv_iconst (v := 1) hx hb dX0_isGateAgainst_55 (by decide) ?_
          refine lv_goto (tgt := 60) hx hb dX0_isGateAgainst_56 (by decide) ?_
          exact W.zret (v := 1) hx hb hr (by decide) (fun t ht hW => ⟨1, rfl, (by subst e2 e5 e13 e28 e29 e32 e45 e46 e49; simp [gb_ag, c8, c16, c35, c52]), ht⟩) (fun _ h => nomatch h) dX0_isGateAgainst_60
    · refine lv_iconst (v := 0) hx hb dX0_isGateAgainst_19 (by decide) ?_
      exact W.zret (v := 0) hx hb hr (by decide) (fun t ht hW => ⟨0, rfl, (by subst e2 e5 e13; simp [gb_ag, c8, c16]), ht⟩) (fun _ h => nomatch h) dX0_isGateAgainst_20
set_option maxHeartbeats 4000000 in
set_option maxRecDepth 100000 in
/-- knownAnd -/
theorem c_knownAnd (l : Launch) (D : va_G) (h0 : Nat) (cI : ClassId) (n : Nat) (ad : Nat → Nat) (ar : Nat → Nat → Int32) (iv : Nat → Int32) (x : Int32) (y : Int32) (h1 : vp_in (gb_sh x) n) (h2 : vp_in (gb_sh y) n) : Met l yX0_knownAnd wsX0_knownAnd ({ frames := 2, cells := 0, slots := 0, locals := 45 }) (rP D (gW h0 cI n ad ar iv) [(cI, .int)] [.ref h0, .int x, .int y]) (vp_Si (fun r => r = gb_kn ar x y)) 0 0 (fun _ => False) := by
  refine Met.ofW (cc := cX0_knownAnd) (maxL := 4) (ret := (some .int)) (by decide) rfl ?_
  intro p e s m args below meth c s₁ B hml hv
  obtain ⟨rfl, hP, hK⟩ := hv
  have hx := B.exec
  have hb := B.bytes
  have hr := B.returns
  have hts := atoms_spec (ws := wsX0_knownAnd) B.pre
  have hown : s.vm.findClass RX0 = some m.cls := findClass_of_methodNamed B.named
  have hlocks := B.notSynchronized
  have hl := lv_entry ([.ref h0, .int x, .int y]) (n := 4) (Nat.le_of_ble_eq_true rfl)
  rw [lg_entry_eq]
  generalize (lg_sl ([.ref h0, .int x, .int y]) ++ List.replicate (4 - (lg_sl ([.ref h0, .int x, .int y])).length) Slot.unset).toArray = ls at hl ⊢
  have hl : lv_has ls 4 [(0, .ref h0), (1, .int x), (2, .int y)] := hl
  refine lv_iload_n hx hb dX0_knownAnd_0 rfl (lv_at hl 1 rfl) ?_
  refine lv_if_eq (tgt := 12) hx hb dX0_knownAnd_1 (by decide) (fun c1 => ?_) (fun c1 => ?_)
  · refine lv_iconst (v := 0) hx hb dX0_knownAnd_12 (by decide) ?_
    exact W.iret (v := 0) hx hb hr (fun t ht hW => ⟨0, rfl, (by simp [gb_kn, c1]), ht⟩) (fun _ h => nomatch h) dX0_knownAnd_13
  · refine lv_iload_n hx hb dX0_knownAnd_4 rfl (lv_at hl 1 rfl) ?_
    refine lv_iload_n hx hb dX0_knownAnd_5 rfl (lv_at hl 2 rfl) ?_
    refine vp_callSi (W.runS (As := [.int y]) (rest := [.int x]) ⟨hx, hb, hml, hown, hts⟩ (c_not l y) (va_cwS 1 hts gX0_knownAnd_X0_not rfl rfl rfl (by decide +kernel) ⟨Nat.le_of_ble_eq_true rfl, Nat.le_of_ble_eq_true rfl⟩) preEq rfl rfl hl.1 rfl (lv_room (Nat.le_of_ble_eq_true rfl)) dX0_knownAnd_6 ⟨Nat.zero_le _, Nat.zero_le _⟩) (fun r6 e6 => ?_)
    refine lv_icmp_ne (tgt := 14) hx hb dX0_knownAnd_9 (by decide) (fun c9 => ?_) (fun c9 => ?_)
    · refine lv_iload_n hx hb dX0_knownAnd_14 rfl (lv_at hl 1 rfl) ?_
      refine lv_iconst (v := 1) hx hb dX0_knownAnd_15 (by decide) ?_
      refine lv_icmp_ne (tgt := 21) hx hb dX0_knownAnd_16 (by decide) (fun c16 => ?_) (fun c16 => ?_)
      · refine lv_iload_n hx hb dX0_knownAnd_21 rfl (lv_at hl 1 rfl) ?_
        refine lv_iload_n hx hb dX0_knownAnd_22 rfl (lv_at hl 2 rfl) ?_
        refine lv_icmp_ne (tgt := 28) hx hb dX0_knownAnd_23 (by decide) (fun c23 => ?_) (fun c23 => ?_)
        · refine lv_iload_n hx hb dX0_knownAnd_28 rfl (lv_at hl 2 rfl) ?_
          refine lv_iconst (v := 1) hx hb dX0_knownAnd_29 (by decide) ?_
          refine lv_ishr hx hb dX0_knownAnd_30 ?_
          refine lv_topi (fun v30 e30 => ?_)
          have e30 : v30 = gb_sh y := e30
          have hc34 : vp_in v30 n := by rw [e30]; exact h2
          have hc55 := hc34
          have hc70 := hc34
          have hc84 := hc34
          have hc93b := hc34
          have hc93a := h1
          refine lv_istore_n (lv' := [(3, .int v30), (0, .ref h0), (1, .int x), (2, .int y)]) hx hb dX0_knownAnd_31 rfl hl (by decide) rfl (fun ls hl => ?_)
          refine lv_aload_n hx hb dX0_knownAnd_32 rfl (lv_at hl 1 rfl) ?_
          refine lv_iload_n hx hb dX0_knownAnd_33 rfl (lv_at hl 0 rfl) ?_
          refine vp_callSi (W.runV (As := [.int v30]) (rest := []) ⟨hx, hb, hml, hown, hts⟩ (c_isGate l D h0 cI n ad ar iv v30 hc34) (cwV 1 hts gX0_knownAnd_X0_isGate rfl rfl rfl (by decide +kernel) ⟨Nat.le_of_ble_eq_true rfl, Nat.le_of_ble_eq_true rfl⟩) (rP_V hK hP (va_recv hK hP (ci := 0) (q0 := 0) rfl rfl)) rfl rfl hl.1 rfl (lv_room (Nat.le_of_ble_eq_true rfl)) dX0_knownAnd_34 ⟨Nat.zero_le _, Nat.zero_le _⟩) (fun r34 e34 => ?_)
          refine lv_if_ne (tgt := 42) hx hb dX0_knownAnd_37 (by decide) (fun c37 => ?_) (fun c37 => ?_)
          · refine lv_iload_n hx hb dX0_knownAnd_42 rfl (lv_at hl 3 rfl) ?_
            refine vp_callSi (W.runS (As := [.int y]) (rest := []) ⟨hx, hb, hml, hown, hts⟩ (c_isNegated l y) (va_cwS 1 hts gX0_knownAnd_X0_isNegated rfl rfl rfl (by decide +kernel) ⟨Nat.le_of_ble_eq_true rfl, Nat.le_of_ble_eq_true rfl⟩) preEq rfl rfl hl.1 rfl (lv_room (Nat.le_of_ble_eq_true rfl)) dX0_knownAnd_43 ⟨Nat.zero_le _, Nat.zero_le _⟩) (fun r43 e43 => ?_)
            refine lv_if_eq (tgt := 67) hx hb dX0_knownAnd_46 (by decide) (fun c46 => ?_) (fun c46 => ?_)
            · refine lv_aload_n hx hb dX0_knownAnd_67 rfl (lv_at hl 1 rfl) ?_
              refine lv_iload_n hx hb dX0_knownAnd_68 rfl (lv_at hl 0 rfl) ?_
              refine lv_iload_n hx hb dX0_knownAnd_69 rfl (lv_at hl 2 rfl) ?_
              refine vp_callSi (W.runV (As := [.int v30, .int x]) (rest := []) ⟨hx, hb, hml, hown, hts⟩ (c_hasLiteral l D h0 cI n ad ar iv v30 x hc70) (cwV 2 hts gX0_knownAnd_X0_hasLiteral rfl rfl rfl (by decide +kernel) ⟨Nat.le_of_ble_eq_true rfl, Nat.le_of_ble_eq_true rfl⟩) (rP_V hK hP (va_recv hK hP (ci := 0) (q0 := 0) rfl rfl)) rfl rfl hl.1 rfl (lv_room (Nat.le_of_ble_eq_true rfl)) dX0_knownAnd_70 ⟨Nat.zero_le _, Nat.zero_le _⟩) (fun r70 e70 => ?_)
              refine lv_if_eq (tgt := 78) hx hb dX0_knownAnd_73 (by decide) (fun c73 => ?_) (fun c73 => ?_)
              · refine lv_aload_n hx hb dX0_knownAnd_78 rfl (lv_at hl 1 rfl) ?_
                refine lv_iload_n hx hb dX0_knownAnd_79 rfl (lv_at hl 0 rfl) ?_
                refine lv_iload_n hx hb dX0_knownAnd_80 rfl (lv_at hl 2 rfl) ?_
                refine vp_callSi (W.runS (As := [.int x]) (rest := [.int v30, .ref h0]) ⟨hx, hb, hml, hown, hts⟩ (c_not l x) (va_cwS 1 hts gX0_knownAnd_X0_not rfl rfl rfl (by decide +kernel) ⟨Nat.le_of_ble_eq_true rfl, Nat.le_of_ble_eq_true rfl⟩) preEq rfl rfl hl.1 rfl (lv_room (Nat.le_of_ble_eq_true rfl)) dX0_knownAnd_81 ⟨Nat.zero_le _, Nat.zero_le _⟩) (fun r81 e81 => ?_)
                refine vp_callSi (W.runV (As := [.int v30, .int r81]) (rest := []) ⟨hx, hb, hml, hown, hts⟩ (c_hasLiteral l D h0 cI n ad ar iv v30 r81 hc84) (cwV 2 hts gX0_knownAnd_X0_hasLiteral rfl rfl rfl (by decide +kernel) ⟨Nat.le_of_ble_eq_true rfl, Nat.le_of_ble_eq_true rfl⟩) (rP_V hK hP (va_recv hK hP (ci := 0) (q0 := 0) rfl rfl)) rfl rfl hl.1 rfl (lv_room (Nat.le_of_ble_eq_true rfl)) dX0_knownAnd_84 ⟨Nat.zero_le _, Nat.zero_le _⟩) (fun r84 e84 => ?_)
                refine lv_if_ne (tgt := 99) hx hb dX0_knownAnd_87 (by decide) (fun c87 => ?_) (fun c87 => ?_)
                · refine lv_iconst (v := 0) hx hb dX0_knownAnd_99 (by decide) ?_
                  refine lv_goto (tgt := 104) hx hb dX0_knownAnd_100 (by decide) ?_
                  exact W.iret (v := 0) hx hb hr (fun t ht hW => ⟨0, rfl, (by subst e6 e30 e34 e43 e70 e81 e84; simp [gb_kn, c1, c9, c16, c23, c37, c46, c73, c87]), ht⟩) (fun _ h => nomatch h) dX0_knownAnd_104
                · refine lv_aload_n hx hb dX0_knownAnd_90 rfl (lv_at hl 1 rfl) ?_
                  refine lv_iload_n hx hb dX0_knownAnd_91 rfl (lv_at hl 2 rfl) ?_
                  refine lv_iload_n hx hb dX0_knownAnd_92 rfl (lv_at hl 0 rfl) ?_
                  refine vp_callSi (W.runV (As := [.int x, .int v30]) (rest := []) ⟨hx, hb, hml, hown, hts⟩ (c_isGateAgainst l D h0 cI n ad ar iv x v30 hc93a hc93b) (cwV 2 hts gX0_knownAnd_X0_isGateAgainst rfl rfl rfl (by decide +kernel) ⟨Nat.le_of_ble_eq_true rfl, Nat.le_of_ble_eq_true rfl⟩) (rP_V hK hP (va_recv hK hP (ci := 0) (q0 := 0) rfl rfl)) rfl rfl hl.1 rfl (lv_room (Nat.le_of_ble_eq_true rfl)) dX0_knownAnd_93 ⟨Nat.zero_le _, Nat.zero_le _⟩) (fun r93 e93 => ?_)
                  refine lv_if_eq (tgt := 103) hx hb dX0_knownAnd_96 (by decide) (fun c96 => ?_) (fun c96 => ?_)
                  · refine lv_iconst (v := -1) hx hb dX0_knownAnd_103 (by decide) ?_
                    exact W.iret (v := (-1)) hx hb hr (fun t ht hW => ⟨(-1), rfl, (by subst e6 e30 e34 e43 e70 e81 e84 e93; simp [gb_kn, c1, c9, c16, c23, c37, c46, c73, c87, c96]), ht⟩) (fun _ h => nomatch h) dX0_knownAnd_104
                  · refine lv_iconst (v := 0) hx hb dX0_knownAnd_99 (by decide) ?_
                    refine lv_goto (tgt := 104) hx hb dX0_knownAnd_100 (by decide) ?_
                    exact W.iret (v := 0) hx hb hr (fun t ht hW => ⟨0, rfl, (by subst e6 e30 e34 e43 e70 e81 e84 e93; simp [gb_kn, c1, c9, c16, c23, c37, c46, c73, c87, c96]), ht⟩) (fun _ h => nomatch h) dX0_knownAnd_104
              · refine lv_iload_n hx hb dX0_knownAnd_76 rfl (lv_at hl 3 rfl) ?_
                exact W.iret (v := y) hx hb hr (fun t ht hW => ⟨y, rfl, (by subst e6 e30 e34 e43 e70; simp [gb_kn, c1, c9, c16, c23, c37, c46, c73]), ht⟩) (fun _ h => nomatch h) dX0_knownAnd_77
            · refine lv_aload_n hx hb dX0_knownAnd_49 rfl (lv_at hl 1 rfl) ?_
              refine lv_iload_n hx hb dX0_knownAnd_50 rfl (lv_at hl 0 rfl) ?_
              refine lv_iload_n hx hb dX0_knownAnd_51 rfl (lv_at hl 2 rfl) ?_
              refine vp_callSi (W.runS (As := [.int x]) (rest := [.int v30, .ref h0]) ⟨hx, hb, hml, hown, hts⟩ (c_not l x) (va_cwS 1 hts gX0_knownAnd_X0_not rfl rfl rfl (by decide +kernel) ⟨Nat.le_of_ble_eq_true rfl, Nat.le_of_ble_eq_true rfl⟩) preEq rfl rfl hl.1 rfl (lv_room (Nat.le_of_ble_eq_true rfl)) dX0_knownAnd_52 ⟨Nat.zero_le _, Nat.zero_le _⟩) (fun r52 e52 => ?_)
              refine vp_callSi (W.runV (As := [.int v30, .int r52]) (rest := []) ⟨hx, hb, hml, hown, hts⟩ (c_hasLiteral l D h0 cI n ad ar iv v30 r52 hc55) (cwV 2 hts gX0_knownAnd_X0_hasLiteral rfl rfl rfl (by decide +kernel) ⟨Nat.le_of_ble_eq_true rfl, Nat.le_of_ble_eq_true rfl⟩) (rP_V hK hP (va_recv hK hP (ci := 0) (q0 := 0) rfl rfl)) rfl rfl hl.1 rfl (lv_room (Nat.le_of_ble_eq_true rfl)) dX0_knownAnd_55 ⟨Nat.zero_le _, Nat.zero_le _⟩) (fun r55 e55 => ?_)
              refine lv_if_eq (tgt := 65) hx hb dX0_knownAnd_58 (by decide) (fun c58 => ?_) (fun c58 => ?_)
              · refine lv_iconst (v := -1) hx hb dX0_knownAnd_65 (by decide) ?_
                exact W.iret (v := (-1)) hx hb hr (fun t ht hW => ⟨(-1), rfl, (by subst e6 e30 e34 e43 e52 e55; simp [gb_kn, c1, c9, c16, c23, c37, c46, c58]), ht⟩) (fun _ h => nomatch h) dX0_knownAnd_66
              · refine lv_iload_n hx hb dX0_knownAnd_61 rfl (lv_at hl 2 rfl) ?_
                refine lv_goto (tgt := 66) hx hb dX0_knownAnd_62 (by decide) ?_
                exact W.iret (v := x) hx hb hr (fun t ht hW => ⟨x, rfl, (by subst e6 e30 e34 e43 e52 e55; simp [gb_kn, c1, c9, c16, c23, c37, c46, c58]), ht⟩) (fun _ h => nomatch h) dX0_knownAnd_66
          · refine lv_iconst (v := -1) hx hb dX0_knownAnd_40 (by decide) ?_
            exact W.iret (v := (-1)) hx hb hr (fun t ht hW => ⟨(-1), rfl, (by subst e6 e30 e34; simp [gb_kn, c1, c9, c16, c23, c37]), ht⟩) (fun _ h => nomatch h) dX0_knownAnd_41
        · refine lv_iload_n hx hb dX0_knownAnd_26 rfl (lv_at hl 1 rfl) ?_
          exact W.iret (v := x) hx hb hr (fun t ht hW => ⟨x, rfl, (by subst e6; rw [gb_kn, if_neg (fun z => z.elim c1 c9), if_neg c16, if_pos c23]), ht⟩) (fun _ h => nomatch h) dX0_knownAnd_27
      · refine lv_iload_n hx hb dX0_knownAnd_19 rfl (lv_at hl 2 rfl) ?_
        exact W.iret (v := y) hx hb hr (fun t ht hW => ⟨y, rfl, (by subst e6; rw [gb_kn, if_neg (fun z => z.elim c1 c9), if_pos c16]), ht⟩) (fun _ h => nomatch h) dX0_knownAnd_20
    · refine lv_iconst (v := 0) hx hb dX0_knownAnd_12 (by decide) ?_
      exact W.iret (v := 0) hx hb hr (fun t ht hW => ⟨0, rfl, (by subst e6; simp [gb_kn, c1, c9]), ht⟩) (fun _ h => nomatch h) dX0_knownAnd_13
set_option maxHeartbeats 4000000 in
set_option maxRecDepth 100000 in
/-- restOf -/
theorem c_restOf (l : Launch) (D : va_G) (h0 : Nat) (cI : ClassId) (n : Nat) (ad : Nat → Nat) (ar : Nat → Nat → Int32) (iv : Nat → Int32) (x : Int32) (y : Int32) (h2 : vp_in (gb_sh y) n) : Met l yX0_restOf wsX0_restOf ({ frames := 1, cells := 0, slots := 0, locals := 21 }) (rP D (gW h0 cI n ad ar iv) [(cI, .int)] [.ref h0, .int x, .int y]) (vp_Si (fun r => r = gb_re ar x y)) 0 0 (fun _ => False) := by
  refine Met.ofW (cc := cX0_restOf) (maxL := 4) (ret := (some .int)) (by decide) rfl ?_
  intro p e s m args below meth c s₁ B hml hv
  obtain ⟨rfl, hP, hK⟩ := hv
  have hx := B.exec
  have hb := B.bytes
  have hr := B.returns
  have hts := atoms_spec (ws := wsX0_restOf) B.pre
  have hown : s.vm.findClass RX0 = some m.cls := findClass_of_methodNamed B.named
  have hlocks := B.notSynchronized
  have hl := lv_entry ([.ref h0, .int x, .int y]) (n := 4) (Nat.le_of_ble_eq_true rfl)
  rw [lg_entry_eq]
  generalize (lg_sl ([.ref h0, .int x, .int y]) ++ List.replicate (4 - (lg_sl ([.ref h0, .int x, .int y])).length) Slot.unset).toArray = ls at hl ⊢
  have hl : lv_has ls 4 [(0, .ref h0), (1, .int x), (2, .int y)] := hl
  refine lv_iload_n hx hb dX0_restOf_0 rfl (lv_at hl 2 rfl) ?_
  refine lv_iconst (v := 1) hx hb dX0_restOf_1 (by decide) ?_
  refine lv_ishr hx hb dX0_restOf_2 ?_
  refine lv_topi (fun v2 e2 => ?_)
  have e2 : v2 = gb_sh y := e2
  have hi26 : vp_in v2 n := by rw [e2]; exact h2
  have hi36 := hi26
  have hi46 := hi26
  have hi56 := hi26
  have hc13 := hi26
  refine lv_istore_n (lv' := [(3, .int v2), (0, .ref h0), (1, .int x), (2, .int y)]) hx hb dX0_restOf_3 rfl hl (by decide) rfl (fun ls hl => ?_)
  refine lv_iload_n hx hb dX0_restOf_4 rfl (lv_at hl 3 rfl) ?_
  refine vp_callSi (W.runS (As := [.int y]) (rest := []) ⟨hx, hb, hml, hown, hts⟩ (c_isNegated l y) (va_cwS 1 hts gX0_restOf_X0_isNegated rfl rfl rfl (by decide +kernel) ⟨Nat.le_of_ble_eq_true rfl, Nat.le_of_ble_eq_true rfl⟩) preEq rfl rfl hl.1 rfl (lv_room (Nat.le_of_ble_eq_true rfl)) dX0_restOf_5 ⟨Nat.zero_le _, Nat.zero_le _⟩) (fun r5 e5 => ?_)
  refine lv_if_eq (tgt := 19) hx hb dX0_restOf_8 (by decide) (fun c8 => ?_) (fun c8 => ?_)
  · refine lv_iconst (v := -1) hx hb dX0_restOf_19 (by decide) ?_
    exact W.iret (v := (-1)) hx hb hr (fun t ht hW => ⟨(-1), rfl, (by subst e2 e5; simp [gb_re, c8]), ht⟩) (fun _ h => nomatch h) dX0_restOf_20
  · refine lv_aload_n hx hb dX0_restOf_11 rfl (lv_at hl 1 rfl) ?_
    refine lv_iload_n hx hb dX0_restOf_12 rfl (lv_at hl 0 rfl) ?_
    refine vp_callSi (W.runV (As := [.int v2]) (rest := []) ⟨hx, hb, hml, hown, hts⟩ (c_isGate l D h0 cI n ad ar iv v2 hc13) (cwV 1 hts gX0_restOf_X0_isGate rfl rfl rfl (by decide +kernel) ⟨Nat.le_of_ble_eq_true rfl, Nat.le_of_ble_eq_true rfl⟩) (rP_V hK hP (va_recv hK hP (ci := 0) (q0 := 0) rfl rfl)) rfl rfl hl.1 rfl (lv_room (Nat.le_of_ble_eq_true rfl)) dX0_restOf_13 ⟨Nat.zero_le _, Nat.zero_le _⟩) (fun r13 e13 => ?_)
    refine lv_if_ne (tgt := 21) hx hb dX0_restOf_16 (by decide) (fun c16 => ?_) (fun c16 => ?_)
    · refine lv_aload_n hx hb dX0_restOf_21 rfl (lv_at hl 1 rfl) ?_
      refine va_get (D := D) (ci := 0) (v := .ref (ad 0)) (C := RX0) (T := TX0) (N := 11) hx hb hts inX0 hown hK hP 0 rfl rfl 0 (by decide) (hts _ (mG wm_53)) (fun _ h9 => h9) rfl dX0_restOf_22 ?_
      refine lv_iload_n hx hb dX0_restOf_25 rfl (lv_at hl 0 rfl) ?_
      refine va_iald hx hb hK hP 1 0 rfl rfl hi26 dX0_restOf_26 ?_
      refine lv_topi (fun v26 e26 => ?_)
      refine lv_iload_n hx hb dX0_restOf_27 rfl (lv_at hl 2 rfl) ?_
      refine lv_icmp_ne (tgt := 41) hx hb dX0_restOf_28 (by decide) (fun c28 => ?_) (fun c28 => ?_)
      · refine lv_aload_n hx hb dX0_restOf_41 rfl (lv_at hl 1 rfl) ?_
        refine va_get (D := D) (ci := 0) (v := .ref (ad 1)) (C := RX0) (T := TX0) (N := 11) hx hb hts inX0 hown hK hP 0 rfl rfl 1 (by decide) (hts _ (mG wm_54)) (fun _ h9 => h9) rfl dX0_restOf_42 ?_
        refine lv_iload_n hx hb dX0_restOf_45 rfl (lv_at hl 0 rfl) ?_
        refine va_iald hx hb hK hP 2 0 rfl rfl hi46 dX0_restOf_46 ?_
        refine lv_topi (fun v46 e46 => ?_)
        refine lv_iload_n hx hb dX0_restOf_47 rfl (lv_at hl 2 rfl) ?_
        refine lv_icmp_ne (tgt := 63) hx hb dX0_restOf_48 (by decide) (fun c48 => ?_) (fun c48 => ?_)
        · refine lv_iconst (v := -1) hx hb dX0_restOf_63 (by decide) ?_
          exact W.iret (v := (-1)) hx hb hr (fun t ht hW => ⟨(-1), rfl, (by subst e2 e5 e13 e26 e46; simp [gb_re, c8, c16, c28, c48]), ht⟩) (fun _ h => nomatch h) dX0_restOf_64
        · refine lv_aload_n hx hb dX0_restOf_51 rfl (lv_at hl 1 rfl) ?_
          refine va_get (D := D) (ci := 0) (v := .ref (ad 0)) (C := RX0) (T := TX0) (N := 11) hx hb hts inX0 hown hK hP 0 rfl rfl 0 (by decide) (hts _ (mG wm_53)) (fun _ h9 => h9) rfl dX0_restOf_52 ?_
          refine lv_iload_n hx hb dX0_restOf_55 rfl (lv_at hl 0 rfl) ?_
          refine va_iald hx hb hK hP 1 0 rfl rfl hi56 dX0_restOf_56 ?_
          refine lv_topi (fun v56 e56 => ?_)
          refine vp_callSi (W.runS (As := [.int v56]) (rest := []) ⟨hx, hb, hml, hown, hts⟩ (c_not l v56) (va_cwS 1 hts gX0_restOf_X0_not rfl rfl rfl (by decide +kernel) ⟨Nat.le_of_ble_eq_true rfl, Nat.le_of_ble_eq_true rfl⟩) preEq rfl rfl hl.1 rfl (lv_room (Nat.le_of_ble_eq_true rfl)) dX0_restOf_57 ⟨Nat.zero_le _, Nat.zero_le _⟩) (fun r57 e57 => ?_)
          refine lv_goto (tgt := 64) hx hb dX0_restOf_60 (by decide) ?_
          exact W.iret (v := r57) hx hb hr (fun t ht hW => ⟨r57, rfl, (by subst e2 e5 e13 e26 e46 e56 e57; simp [gb_re, c8, c16, c28, c48]), ht⟩) (fun _ h => nomatch h) dX0_restOf_64
      · refine lv_aload_n hx hb dX0_restOf_31 rfl (lv_at hl 1 rfl) ?_
        refine va_get (D := D) (ci := 0) (v := .ref (ad 1)) (C := RX0) (T := TX0) (N := 11) hx hb hts inX0 hown hK hP 0 rfl rfl 1 (by decide) (hts _ (mG wm_54)) (fun _ h9 => h9) rfl dX0_restOf_32 ?_
        refine lv_iload_n hx hb dX0_restOf_35 rfl (lv_at hl 0 rfl) ?_
        refine va_iald hx hb hK hP 2 0 rfl rfl hi36 dX0_restOf_36 ?_
        refine lv_topi (fun v36 e36 => ?_)
        refine vp_callSi (W.runS (As := [.int v36]) (rest := []) ⟨hx, hb, hml, hown, hts⟩ (c_not l v36) (va_cwS 1 hts gX0_restOf_X0_not rfl rfl rfl (by decide +kernel) ⟨Nat.le_of_ble_eq_true rfl, Nat.le_of_ble_eq_true rfl⟩) preEq rfl rfl hl.1 rfl (lv_room (Nat.le_of_ble_eq_true rfl)) dX0_restOf_37 ⟨Nat.zero_le _, Nat.zero_le _⟩) (fun r37 e37 => ?_)
        exact W.iret (v := r37) hx hb hr (fun t ht hW => ⟨r37, rfl, (by subst e2 e5 e13 e26 e36 e37; simp [gb_re, c8, c16, c28]), ht⟩) (fun _ h => nomatch h) dX0_restOf_40
    · refine lv_iconst (v := -1) hx hb dX0_restOf_19 (by decide) ?_
      exact W.iret (v := (-1)) hx hb hr (fun t ht hW => ⟨(-1), rfl, (by subst e2 e5 e13; simp [gb_re, c8, c16]), ht⟩) (fun _ h => nomatch h) dX0_restOf_20
end
section
set_option maxHeartbeats 4000000 in
set_option maxRecDepth 100000 in
/-- Arrays.copyOf, twice as long -/
theorem c_copyOf (l : Launch) (D : va_G) (cI : ClassId) (a n0 : Nat) (f : Nat → Int32) (sz : Nat) (x : Int32) (hx0 : x = nI (2 * n0)) (h16 : 16 ≤ n0) (hlen : n0 ≤ 20000) : Met l yJ7_copyOf wsJ7_copyOf ({ frames := 1, cells := 1, slots := 2 * n0, locals := 40 }) (mP D [(a, .inl (cI, n0, .inl f))] [(cI, .int)] sz [.ref a, .int x]) (va_Qr (fun _ : Unit => True) (fun _ q t => va_P D vwCl [(a, .inl (cI, n0, .inl f)), (q, .inl (cI, 2 * n0, .inl (gb_gr n0 f)))] t.heap ∧ va_K D vwCl [(cI, .int)] t ∧ va_D (va_A [(a, .inl (cI, n0, .inl f))] sz) [(a, .inl (cI, n0, .inl f)), (q, .inl (cI, 2 * n0, .inl (gb_gr n0 f)))]) (va_A [(a, .inl (cI, n0, .inl f))] sz)) 1 (2 * n0) (va_A [(a, .inl (cI, n0, .inl f))] sz) := by
  refine Met.ofW (cc := cJ7_copyOf) (maxL := 3) (ret := (some (.array .int))) (by decide) rfl ?_
  intro p e s m args below meth c s₁ B hml hv
  obtain ⟨rfl, hsz, hP, hK, hD0⟩ := hv
  have hx := B.exec
  have hb := B.bytes
  have hr := B.returns
  have hts := atoms_spec (ws := wsJ7_copyOf) B.pre
  have hown : s.vm.findClass RJ7 = some m.cls := findClass_of_methodNamed B.named
  have hlocks := B.notSynchronized
  have hl := lv_entry ([.ref a, .int x]) (n := 3) (Nat.le_of_ble_eq_true rfl)
  rw [lg_entry_eq]
  generalize (lg_sl ([.ref a, .int x]) ++ List.replicate (3 - (lg_sl ([.ref a, .int x])).length) Slot.unset).toArray = ls at hl ⊢
  have hl : lv_has ls 3 [(0, .ref a), (1, .int x)] := hl
  subst hsz
  have hD := hD0.self (sz := s.heap.size)
  generalize hAe : va_A [(a, .inl (cI, n0, .inl f))] s.heap.size = A at hD ⊢
  have hA : ∀ q : Nat, s.heap.size ≤ q → A q := fun q h => by rw [← hAe]; exact Or.inr h
  have hS : va_S A s.heap s.heap [] := va_S.rf
  refine lv_iload_n hx hb dJ7_copyOf_0 rfl (lv_at hl 1 rfl) ?_
  refine lv_aload_n hx hb dJ7_copyOf_1 rfl (lv_at hl 0 rfl) ?_
  refine va_alen (v := nI n0) hx hb hK hP 0 0 rfl rfl rfl dJ7_copyOf_2 ?_
  refine lv_icmp_ne (tgt := 14) hx hb dJ7_copyOf_3 (by decide) (fun c3 => ?_) (fun c3 => ?_)
  · refine lv_iload_n hx hb dJ7_copyOf_14 rfl (lv_at hl 1 rfl) ?_
    refine va_newa (atype := .int) (a0 := (2 * n0, .inl (fun _ => 0))) (ty := .int) hx hb (hts _ (mG wm_87)) rfl hK hP hD hS hA (fun _ => rfl) (by rw [hx0]; exact nI_pos (by omega)) (by rw [hx0]; exact nI_clamp (by omega)) (by show 2 * n0 * 4 ≤ 536870912; omega) (Nat.le_of_ble_eq_true rfl) (by show 0 + 2 * n0 ≤ 2 * n0; omega) dJ7_copyOf_15 (fun q cA H hK hP hD hS => ?_)
    have hcA : cI = cA := gb_cI hK (i := 0) (j := 1) rfl rfl
    subst hcA
    have hP : va_P D vwCl [(a, .inl (cI, n0, .inl f)), (q, .inl (cI, 2 * n0, .inl (fun _ => 0)))] H := hP
    have hD : va_D A [(a, .inl (cI, n0, .inl f)), (q, .inl (cI, 2 * n0, .inl (fun _ => 0)))] := hD
    refine lv_astore_n (lv' := [(2, .ref q), (0, .ref a), (1, .int x)]) hx hb dJ7_copyOf_17 rfl hl (by decide) rfl (fun ls hl => ?_)
    refine lv_aload_n hx hb dJ7_copyOf_18 rfl (lv_at hl 1 rfl) ?_
    refine lv_iconst (v := 0) hx hb dJ7_copyOf_19 (by decide) ?_
    refine lv_aload_n hx hb dJ7_copyOf_20 rfl (lv_at hl 0 rfl) ?_
    refine lv_iconst (v := 0) hx hb dJ7_copyOf_21 (by decide) ?_
    refine lv_aload_n hx hb dJ7_copyOf_22 rfl (lv_at hl 1 rfl) ?_
    refine va_alen (v := nI n0) hx hb hK hP 0 0 rfl rfl rfl dJ7_copyOf_23 ?_
    refine lv_iload_n hx hb dJ7_copyOf_24 rfl (lv_at hl 2 rfl) ?_
    refine va_mmin hx hb (by rw [hml]; exact hl.1.symm) hown (hts _ (mG wm_189)) (hts _ (mG wm_190)) (hts _ (mG wm_42)) (hts _ (mG wm_191)) (Nat.le_of_ble_eq_true rfl) (Nat.le_of_ble_eq_true rfl) (Nat.le_of_ble_eq_true rfl) (by show 0 + 2 * n0 ≤ 2 * n0; omega) dJ7_copyOf_25 ?_
    refine lv_topi (fun v25 e25 => ?_)
    have e25 : v25 = nI n0 := by
      rw [e25, hx0, if_neg (nI_nlt (by omega) (by omega))]
    refine va_copyi hx hb (by rw [hml]; exact hl.1.symm) hown (hts _ (mG wm_192)) (hts _ (mG wm_194)) (hts _ (mG wm_193)) (hts _ (mG wm_43)) hK hP hD hS 0 1 0 1 rfl rfl rfl rfl rfl (by decide) (by decide) (by rw [e25]; exact nI_pos (by omega)) (by rw [e25, nI_clamp (by omega)]; show 0 + n0 ≤ n0; omega) (by rw [e25, nI_clamp (by omega)]; show 0 + n0 ≤ 2 * n0; omega) (fun _ _ => rfl) (Nat.le_of_ble_eq_true rfl) (Nat.le_of_ble_eq_true rfl) dJ7_copyOf_28 (fun H locs hP hD hS => ?_)
    rw [e25, nI_clamp (by omega)] at hP hD
    have hP : va_P D vwCl [(a, .inl (cI, n0, .inl f)), (q, .inl (cI, 2 * n0, .inl (gb_gr n0 f)))] H := hP
    have hD : va_D A [(a, .inl (cI, n0, .inl f)), (q, .inl (cI, 2 * n0, .inl (gb_gr n0 f)))] := hD
    have hK := hK.sub (tys' := [(cI, .int)]) [0] rfl
    refine lv_aload_n hx hb dJ7_copyOf_31 rfl (lv_at hl 0 rfl) ?_
    refine W.widen (k := 1) (n := 2 * n0) (by omega) (by omega) ?_
    exact W.aret (v := .ref q) hx hb hr (Or.inr ⟨_, rfl⟩) (Or.inr ⟨q, rfl⟩) (fun t ht hW => ⟨⟨(), q, rfl, trivial, by rw [ht]; exact hP, va_K.moved hW.alike hK, hD⟩, hS.F ht⟩) hS.2.2 dJ7_copyOf_32
  · rw [hx0] at c3
    exact absurd ((nI_eq (by omega) (by omega)).mp c3) (by omega)

set_option maxHeartbeats 4000000 in
set_option maxRecDepth 100000 in
/-- enterGate -/
theorem c_enterGate (l : Launch) (D : va_G) (h0 : Nat) (cI : ClassId) (n : Nat) (ad : Nat → Nat) (ar : Nat → Nat → Int32) (iv : Nat → Int32) (sz : Nat) (x : Int32) (y : Int32) (z : Int32) (h1 : vp_in x n) (h2 : vp_in y n) (h3 : vp_in z n) : Met l yX0_enterGate wsX0_enterGate ({ frames := 1, cells := 0, slots := 0, locals := 21 }) (mP D (gW h0 cI n ad ar iv) [(cI, .int)] sz [.ref h0, .int x, .int y, .int z]) (va_Qv (fun u : GS => u = (n, ad, gb_ent ar x.toNatClampNeg y.toNatClampNeg z.toNatClampNeg x, iv)) (gb_at D cI (va_A (gW h0 cI n ad ar iv) sz) h0) (va_A (gW h0 cI n ad ar iv) sz)) (0) (0) (va_A (gW h0 cI n ad ar iv) sz) := by
  refine Met.ofW (cc := cX0_enterGate) (maxL := 4) (ret := none) (by decide) rfl ?_
  intro p e s m args below meth c s₁ B hml hv
  obtain ⟨rfl, hsz, hP, hK, hD0⟩ := hv
  have hx := B.exec
  have hb := B.bytes
  have hr := B.returns
  have hts := atoms_spec (ws := wsX0_enterGate) B.pre
  have hown : s.vm.findClass RX0 = some m.cls := findClass_of_methodNamed B.named
  have hlocks := B.notSynchronized
  have hl := lv_entry ([.ref h0, .int x, .int y, .int z]) (n := 4) (Nat.le_of_ble_eq_true rfl)
  rw [lg_entry_eq]
  generalize (lg_sl ([.ref h0, .int x, .int y, .int z]) ++ List.replicate (4 - (lg_sl ([.ref h0, .int x, .int y, .int z])).length) Slot.unset).toArray = ls at hl ⊢
  have hl : lv_has ls 4 [(0, .ref h0), (1, .int x), (2, .int y), (3, .int z)] := hl
  subst hsz
  have hD := hD0.self (sz := s.heap.size)
  generalize hAe : va_A (gW h0 cI n ad ar iv) s.heap.size = A at hD ⊢
  have hA : ∀ q : Nat, s.heap.size ≤ q → A q := fun q h => by rw [← hAe]; exact Or.inr h
  have hS : va_S A s.heap s.heap [] := va_S.rf
  refine lv_aload_n hx hb dX0_enterGate_0 rfl (lv_at hl 0 rfl) ?_
  refine va_get (D := D) (ci := 0) (v := .ref (ad 3)) (C := RX0) (T := TX0) (N := 11) hx hb hts inX0 hown hK hP 0 rfl rfl 3 (by decide) (hts _ (mG wm_56)) (fun _ h9 => h9) rfl dX0_enterGate_1 ?_
  refine lv_iload_n hx hb dX0_enterGate_4 rfl (lv_at hl 1 rfl) ?_
  refine lv_iconst (v := 1) hx hb dX0_enterGate_5 (by decide) ?_
  refine lv_aload_n hx hb dX0_enterGate_6 rfl (lv_at hl 0 rfl) ?_
  refine va_get (D := D) (ci := 0) (v := .ref (ad 3)) (C := RX0) (T := TX0) (N := 11) hx hb hts inX0 hown hK hP 0 rfl rfl 3 (by decide) (hts _ (mG wm_56)) (fun _ h9 => h9) rfl dX0_enterGate_7 ?_
  refine lv_iload_n hx hb dX0_enterGate_10 rfl (lv_at hl 2 rfl) ?_
  refine va_iald hx hb hK hP 4 0 rfl rfl h2 dX0_enterGate_11 ?_
  refine lv_topi (fun v11 e11 => ?_)
  refine lv_aload_n hx hb dX0_enterGate_12 rfl (lv_at hl 0 rfl) ?_
  refine va_get (D := D) (ci := 0) (v := .ref (ad 3)) (C := RX0) (T := TX0) (N := 11) hx hb hts inX0 hown hK hP 0 rfl rfl 3 (by decide) (hts _ (mG wm_56)) (fun _ h9 => h9) rfl dX0_enterGate_13 ?_
  refine lv_iload_n hx hb dX0_enterGate_16 rfl (lv_at hl 3 rfl) ?_
  refine va_iald hx hb hK hP 4 0 rfl rfl h3 dX0_enterGate_17 ?_
  refine lv_topi (fun v17 e17 => ?_)
  refine va_mmax hx hb (by rw [hml]; exact hl.1.symm) hown (hts _ (mG wm_228)) (hts _ (mG wm_229)) (hts _ (mG wm_42)) (hts _ (mG wm_230)) (Nat.le_of_ble_eq_true rfl) (Nat.le_of_ble_eq_true rfl) (Nat.zero_le _) (Nat.zero_le _) dX0_enterGate_18 ?_
  refine lv_topi (fun v18 e18 => ?_)
  refine lv_iadd hx hb dX0_enterGate_21 ?_
  refine lv_topi (fun v21 e21 => ?_)
  refine va_iast hx hb hK hP hD hS 4 0 rfl rfl h1 dX0_enterGate_22 (fun H locs hP hD hS => ?_)
  obtain ⟨ar22, e22⟩ : ∃ zz : Nat → Nat → Int32, zz = va_up ar 3 (upd (ar 3) (Int32.toNatClampNeg x) v21) := ⟨_, rfl⟩
  have hP : va_P D vwCl (gW h0 cI n ad ar22 iv) H := by rw [e22]; exact hP
  have hD : va_D A (gW h0 cI n ad ar22 iv) := by rw [e22]; exact hD
  refine lv_aload_n hx hb dX0_enterGate_23 rfl (lv_at hl 0 rfl) ?_
  refine va_get (D := D) (ci := 0) (v := .ref (ad 2)) (C := RX0) (T := TX0) (N := 11) hx hb hts inX0 hown hK hP 0 rfl rfl 2 (by decide) (hts _ (mG wm_55)) (fun _ h9 => h9) rfl dX0_enterGate_24 ?_
  refine lv_iload_n hx hb dX0_enterGate_27 rfl (lv_at hl 2 rfl) ?_
  refine lv_dup2_11 hx hb dX0_enterGate_28 rfl rfl ?_
  refine va_iald hx hb hK hP 3 0 rfl rfl h2 dX0_enterGate_29 ?_
  refine lv_topi (fun v29 e29 => ?_)
  refine lv_iconst (v := 1) hx hb dX0_enterGate_30 (by decide) ?_
  refine lv_iadd hx hb dX0_enterGate_31 ?_
  refine lv_topi (fun v31 e31 => ?_)
  refine va_iast hx hb hK hP hD hS 3 0 rfl rfl h2 dX0_enterGate_32 (fun H locs hP hD hS => ?_)
  obtain ⟨ar32, e32⟩ : ∃ zz : Nat → Nat → Int32, zz = va_up ar22 2 (upd (ar22 2) (Int32.toNatClampNeg y) v31) := ⟨_, rfl⟩
  have hP : va_P D vwCl (gW h0 cI n ad ar32 iv) H := by rw [e32]; exact hP
  have hD : va_D A (gW h0 cI n ad ar32 iv) := by rw [e32]; exact hD
  refine lv_aload_n hx hb dX0_enterGate_33 rfl (lv_at hl 0 rfl) ?_
  refine va_get (D := D) (ci := 0) (v := .ref (ad 2)) (C := RX0) (T := TX0) (N := 11) hx hb hts inX0 hown hK hP 0 rfl rfl 2 (by decide) (hts _ (mG wm_55)) (fun _ h9 => h9) rfl dX0_enterGate_34 ?_
  refine lv_iload_n hx hb dX0_enterGate_37 rfl (lv_at hl 3 rfl) ?_
  refine lv_dup2_11 hx hb dX0_enterGate_38 rfl rfl ?_
  refine va_iald hx hb hK hP 3 0 rfl rfl h3 dX0_enterGate_39 ?_
  refine lv_topi (fun v39 e39 => ?_)
  refine lv_iconst (v := 1) hx hb dX0_enterGate_40 (by decide) ?_
  refine lv_iadd hx hb dX0_enterGate_41 ?_
  refine lv_topi (fun v41 e41 => ?_)
  refine va_iast hx hb hK hP hD hS 3 0 rfl rfl h3 dX0_enterGate_42 (fun H locs hP hD hS => ?_)
  obtain ⟨ar42, e42⟩ : ∃ zz : Nat → Nat → Int32, zz = va_up ar32 2 (upd (ar32 2) (Int32.toNatClampNeg z) v41) := ⟨_, rfl⟩
  have hP : va_P D vwCl (gW h0 cI n ad ar42 iv) H := by rw [e42]; exact hP
  have hD : va_D A (gW h0 cI n ad ar42 iv) := by rw [e42]; exact hD
  refine lv_aload_n hx hb dX0_enterGate_43 rfl (lv_at hl 0 rfl) ?_
  refine va_get (D := D) (ci := 0) (v := .ref (ad 7)) (C := RX0) (T := TX0) (N := 11) hx hb hts inX0 hown hK hP 0 rfl rfl 7 (by decide) (hts _ (mG wm_60)) (fun _ h9 => h9) rfl dX0_enterGate_44 ?_
  refine lv_iload_n hx hb dX0_enterGate_47 rfl (lv_at hl 1 rfl) ?_
  refine lv_aload_n hx hb dX0_enterGate_48 rfl (lv_at hl 0 rfl) ?_
  refine va_get (D := D) (ci := 0) (v := .ref (ad 6)) (C := RX0) (T := TX0) (N := 11) hx hb hts inX0 hown hK hP 0 rfl rfl 6 (by decide) (hts _ (mG wm_59)) (fun _ h9 => h9) rfl dX0_enterGate_49 ?_
  refine lv_iload_n hx hb dX0_enterGate_52 rfl (lv_at hl 3 rfl) ?_
  refine va_iald hx hb hK hP 7 0 rfl rfl h3 dX0_enterGate_53 ?_
  refine lv_topi (fun v53 e53 => ?_)
  refine va_iast hx hb hK hP hD hS 8 0 rfl rfl h1 dX0_enterGate_54 (fun H locs hP hD hS => ?_)
  obtain ⟨ar54, e54⟩ : ∃ zz : Nat → Nat → Int32, zz = va_up ar42 7 (upd (ar42 7) (Int32.toNatClampNeg x) v53) := ⟨_, rfl⟩
  have hP : va_P D vwCl (gW h0 cI n ad ar54 iv) H := by rw [e54]; exact hP
  have hD : va_D A (gW h0 cI n ad ar54 iv) := by rw [e54]; exact hD
  refine lv_aload_n hx hb dX0_enterGate_55 rfl (lv_at hl 0 rfl) ?_
  refine va_get (D := D) (ci := 0) (v := .ref (ad 6)) (C := RX0) (T := TX0) (N := 11) hx hb hts inX0 hown hK hP 0 rfl rfl 6 (by decide) (hts _ (mG wm_59)) (fun _ h9 => h9) rfl dX0_enterGate_56 ?_
  refine lv_iload_n hx hb dX0_enterGate_59 rfl (lv_at hl 3 rfl) ?_
  refine lv_iload_n hx hb dX0_enterGate_60 rfl (lv_at hl 1 rfl) ?_
  refine va_iast hx hb hK hP hD hS 7 0 rfl rfl h3 dX0_enterGate_61 (fun H locs hP hD hS => ?_)
  obtain ⟨ar61, e61⟩ : ∃ zz : Nat → Nat → Int32, zz = va_up ar54 6 (upd (ar54 6) (Int32.toNatClampNeg z) x) := ⟨_, rfl⟩
  have hP : va_P D vwCl (gW h0 cI n ad ar61 iv) H := by rw [e61]; exact hP
  have hD : va_D A (gW h0 cI n ad ar61 iv) := by rw [e61]; exact hD
  exact W.vret hx hb hr (fun t ht hW => ⟨⟨(n, ad, ar61, iv), rfl, (by subst e11 e17 e18 e21 e22 e29 e31 e32 e39 e41 e42 e53 e54 e61; rfl), by rw [ht]; exact hP, va_K.moved hW.alike hK, hD⟩, hS.F ht⟩) hS.2.2 dX0_enterGate_62
set_option maxHeartbeats 4000000 in
set_option maxRecDepth 100000 in
/-- growRows: each row twice as long, what was there first -/
theorem c_growRows (l : Launch) (D : va_G) (h0 : Nat) (cI : ClassId) (n : Nat) (ad : Nat → Nat) (ar : Nat → Nat → Int32) (iv : Nat → Int32) (sz : Nat) (h16 : 16 ≤ n) (hlen : n ≤ 20000) : Met l yX0_growRows wsX0_growRows ({ frames := 2, cells := 8, slots := 16 * n, locals := 62 }) (mP D (gW h0 cI n ad ar iv) [(cI, .int)] sz [.ref h0]) (va_Qv (fun u : GS => u.1 = 2 * n ∧ u.2.2.2 = iv ∧ ∀ k, k < 8 → u.2.2.1 k = gb_gr n (ar k)) (gb_at D cI (va_A (gW h0 cI n ad ar iv) sz) h0) (va_A (gW h0 cI n ad ar iv) sz)) (8) (16 * n) (va_A (gW h0 cI n ad ar iv) sz) := by
  refine Met.ofW (cc := cX0_growRows) (maxL := 2) (ret := none) (by decide) rfl ?_
  intro p e s m args below meth c s₁ B hml hv
  obtain ⟨rfl, hsz, hP, hK, hD0⟩ := hv
  have hx := B.exec
  have hb := B.bytes
  have hr := B.returns
  have hts := atoms_spec (ws := wsX0_growRows) B.pre
  have hown : s.vm.findClass RX0 = some m.cls := findClass_of_methodNamed B.named
  have hlocks := B.notSynchronized
  have hl := lv_entry ([.ref h0]) (n := 2) (Nat.le_of_ble_eq_true rfl)
  rw [lg_entry_eq]
  generalize (lg_sl ([.ref h0]) ++ List.replicate (2 - (lg_sl ([.ref h0])).length) Slot.unset).toArray = ls at hl ⊢
  have hl : lv_has ls 2 [(0, .ref h0)] := hl
  subst hsz
  have hD := hD0.self (sz := s.heap.size)
  generalize hAe : va_A (gW h0 cI n ad ar iv) s.heap.size = A at hD ⊢
  have hA : ∀ q : Nat, s.heap.size ≤ q → A q := fun q h => by rw [← hAe]; exact Or.inr h
  have hS : va_S A s.heap s.heap [] := va_S.rf
  refine lv_iconst (v := 2) hx hb dX0_growRows_0 (by decide) ?_
  refine lv_aload_n hx hb dX0_growRows_1 rfl (lv_at hl 0 rfl) ?_
  refine va_get (D := D) (ci := 0) (v := .ref (ad 0)) (C := RX0) (T := TX0) (N := 11) hx hb hts inX0 hown hK hP 0 rfl rfl 0 (by decide) (hts _ (mG wm_53)) (fun _ h9 => h9) rfl dX0_growRows_2 ?_
  refine va_alen (v := nI n) hx hb hK hP 1 0 rfl rfl rfl dX0_growRows_5 ?_
  refine lv_imul hx hb dX0_growRows_6 ?_
  refine lv_topi (fun v6 e6 => ?_)
  have e6 : v6 = nI (2 * n) := by rw [e6]; exact pk_mul 2 n
  refine lv_istore_n (lv' := [(1, .int v6), (0, .ref h0)]) hx hb dX0_growRows_7 rfl hl (by decide) rfl (fun ls hl => ?_)
  refine lv_aload_n hx hb dX0_growRows_8 rfl (lv_at hl 1 rfl) ?_
  refine lv_aload_n hx hb dX0_growRows_9 rfl (lv_at hl 1 rfl) ?_
  refine va_get (D := D) (ci := 0) (v := .ref (ad 0)) (C := RX0) (T := TX0) (N := 11) hx hb hts inX0 hown hK hP 0 rfl rfl 0 (by decide) (hts _ (mG wm_53)) (fun _ h9 => h9) rfl dX0_growRows_10 ?_
  refine lv_iload_n hx hb dX0_growRows_13 rfl (lv_at hl 0 rfl) ?_
  have hPc := hP.sub (ws' := [(ad 0, .inl (cI, n, .inl (ar 0)))]) [1] rfl
  have hDc := hD.sub (ws' := [(ad 0, .inl (cI, n, .inl (ar 0)))]) [1] (by decide) rfl
  have hFc := va_free (wc := [(ad 0, .inl (cI, n, .inl (ar 0)))]) hD hS hA [1] rfl
  refine va_callr (va_runS (As := [.ref (ad 0), .int v6]) (rest := [.ref h0]) ⟨hx, hb, hml, hown, hts⟩ (c_copyOf l D cI (ad 0) n (ar 0) s.heap.size v6 e6 h16 hlen) (va_cwS 2 hts gX0_growRows_J7_copyOf rfl rfl rfl (by decide +kernel) ⟨Nat.le_of_ble_eq_true rfl, Nat.le_of_ble_eq_true rfl⟩) (mP_S hK hPc hDc) rfl rfl hl.1 rfl (lv_room (Nat.le_of_ble_eq_true rfl)) dX0_growRows_14 ⟨by show _ ≤ 8; omega, by show _ ≤ 16 * n; omega⟩) hS (fun q _ h => hFc q h) hFc (fun u q0 t H1 locs ht hvm e14 hB hz1 hk1 hS => ?_)
  obtain ⟨hP1, hK1, hD1⟩ := hB
  rw [ht] at hP1
  have hK := va_K.moved hvm.symm hK1
  obtain ⟨hP, hD⟩ := va_join (wr := [(h0, .inr (0, gb_fs ad iv)), (ad 1, .inl (cI, n, .inl (ar 1))), (ad 2, .inl (cI, n, .inl (ar 2))), (ad 3, .inl (cI, n, .inl (ar 3))), (ad 4, .inl (cI, n, .inl (ar 4))), (ad 5, .inl (cI, n, .inl (ar 5))), (ad 6, .inl (cI, n, .inl (ar 6))), (ad 7, .inl (cI, n, .inl (ar 7)))]) (w1 := [(ad 0, .inl (cI, n, .inl (ar 0))), (q0, .inl (cI, 2 * n, .inl (gb_gr n (ar 0))))]) hP hD [1] [0, 2, 3, 4, 5, 6, 7, 8] rfl rfl (by decide) (by decide) hk1 hFc hP1 hD1
  clear hP1 hK1 hD1 hk1 hz1 hFc ht hPc hDc
  generalize H1 = H at hP hS ⊢
  refine va_put (D := D) (ci := 0) (v := .ref q0) (ty := (.array .int)) (C := RX0) (T := TX0) (N := 11) hx hb hts inX0 tyX0 tyX0_ok nmX0 hown hK hP hD hS 0 rfl rfl 0 (by decide) (hts _ (mG wm_53)) (fun _ h9 => h9) rfl (by decide +kernel) rfl rfl (Nat.le_of_ble_eq_true rfl) dX0_growRows_17 (fun H locs hP hD hS => ?_)
  obtain ⟨ad17, ea17⟩ : ∃ zz : Nat → Nat, zz = va_up ad 0 q0 := ⟨_, rfl⟩
  obtain ⟨ar17, er17⟩ : ∃ zz : Nat → Nat → Int32, zz = va_up ar 0 (gb_gr n (ar 0)) := ⟨_, rfl⟩
  have hP : va_P D vwCl [(h0, .inr (0, gb_fs ad17 iv)), (ad17 0, .inl (cI, 2 * n, .inl (ar17 0))), (ad17 1, .inl (cI, n, .inl (ar17 1))), (ad17 2, .inl (cI, n, .inl (ar17 2))), (ad17 3, .inl (cI, n, .inl (ar17 3))), (ad17 4, .inl (cI, n, .inl (ar17 4))), (ad17 5, .inl (cI, n, .inl (ar17 5))), (ad17 6, .inl (cI, n, .inl (ar17 6))), (ad17 7, .inl (cI, n, .inl (ar17 7)))] H := by rw [ea17, er17]; exact hP.sub [0, 9, 1, 2, 3, 4, 5, 6, 7] rfl
  have hD : va_D A [(h0, .inr (0, gb_fs ad17 iv)), (ad17 0, .inl (cI, 2 * n, .inl (ar17 0))), (ad17 1, .inl (cI, n, .inl (ar17 1))), (ad17 2, .inl (cI, n, .inl (ar17 2))), (ad17 3, .inl (cI, n, .inl (ar17 3))), (ad17 4, .inl (cI, n, .inl (ar17 4))), (ad17 5, .inl (cI, n, .inl (ar17 5))), (ad17 6, .inl (cI, n, .inl (ar17 6))), (ad17 7, .inl (cI, n, .inl (ar17 7)))] := by rw [ea17, er17]; exact hD.sub [0, 9, 1, 2, 3, 4, 5, 6, 7] (by decide) rfl
  refine lv_aload_n hx hb dX0_growRows_20 rfl (lv_at hl 1 rfl) ?_
  refine lv_aload_n hx hb dX0_growRows_21 rfl (lv_at hl 1 rfl) ?_
  refine va_get (D := D) (ci := 0) (v := .ref (ad17 1)) (C := RX0) (T := TX0) (N := 11) hx hb hts inX0 hown hK hP 0 rfl rfl 1 (by decide) (hts _ (mG wm_54)) (fun _ h9 => h9) rfl dX0_growRows_22 ?_
  refine lv_iload_n hx hb dX0_growRows_25 rfl (lv_at hl 0 rfl) ?_
  have hPc := hP.sub (ws' := [(ad17 1, .inl (cI, n, .inl (ar17 1)))]) [2] rfl
  have hDc := hD.sub (ws' := [(ad17 1, .inl (cI, n, .inl (ar17 1)))]) [2] (by decide) rfl
  have hFc := va_free (wc := [(ad17 1, .inl (cI, n, .inl (ar17 1)))]) hD hS hA [2] rfl
  refine va_callr (va_runS (As := [.ref (ad17 1), .int v6]) (rest := [.ref h0]) ⟨hx, hb, hml, hown, hts⟩ (c_copyOf l D cI (ad17 1) n (ar17 1) H.size v6 e6 h16 hlen) (va_cwS 2 hts gX0_growRows_J7_copyOf rfl rfl rfl (by decide +kernel) ⟨Nat.le_of_ble_eq_true rfl, Nat.le_of_ble_eq_true rfl⟩) (mP_S hK hPc hDc) rfl rfl hl.1 rfl (lv_room (Nat.le_of_ble_eq_true rfl)) dX0_growRows_26 ⟨by show _ ≤ 8; omega, by show _ ≤ 16 * n; omega⟩) hS (fun q _ h => hFc q h) hFc (fun u q1 t H1 locs ht hvm e26 hB hz1 hk1 hS => ?_)
  obtain ⟨hP1, hK1, hD1⟩ := hB
  rw [ht] at hP1
  have hK := va_K.moved hvm.symm hK1
  obtain ⟨hP, hD⟩ := va_join (wr := [(h0, .inr (0, gb_fs ad17 iv)), (ad17 0, .inl (cI, 2 * n, .inl (ar17 0))), (ad17 2, .inl (cI, n, .inl (ar17 2))), (ad17 3, .inl (cI, n, .inl (ar17 3))), (ad17 4, .inl (cI, n, .inl (ar17 4))), (ad17 5, .inl (cI, n, .inl (ar17 5))), (ad17 6, .inl (cI, n, .inl (ar17 6))), (ad17 7, .inl (cI, n, .inl (ar17 7)))]) (w1 := [(ad17 1, .inl (cI, n, .inl (ar17 1))), (q1, .inl (cI, 2 * n, .inl (gb_gr n (ar17 1))))]) hP hD [2] [0, 1, 3, 4, 5, 6, 7, 8] rfl rfl (by decide) (by decide) hk1 hFc hP1 hD1
  clear hP1 hK1 hD1 hk1 hz1 hFc ht hPc hDc
  generalize H1 = H at hP hS ⊢
  refine va_put (D := D) (ci := 0) (v := .ref q1) (ty := (.array .int)) (C := RX0) (T := TX0) (N := 11) hx hb hts inX0 tyX0 tyX0_ok nmX0 hown hK hP hD hS 0 rfl rfl 1 (by decide) (hts _ (mG wm_54)) (fun _ h9 => h9) rfl (by decide +kernel) rfl rfl (Nat.le_of_ble_eq_true rfl) dX0_growRows_29 (fun H locs hP hD hS => ?_)
  obtain ⟨ad29, ea29⟩ : ∃ zz : Nat → Nat, zz = va_up ad17 1 q1 := ⟨_, rfl⟩
  obtain ⟨ar29, er29⟩ : ∃ zz : Nat → Nat → Int32, zz = va_up ar17 1 (gb_gr n (ar17 1)) := ⟨_, rfl⟩
  have hP : va_P D vwCl [(h0, .inr (0, gb_fs ad29 iv)), (ad29 0, .inl (cI, 2 * n, .inl (ar29 0))), (ad29 1, .inl (cI, 2 * n, .inl (ar29 1))), (ad29 2, .inl (cI, n, .inl (ar29 2))), (ad29 3, .inl (cI, n, .inl (ar29 3))), (ad29 4, .inl (cI, n, .inl (ar29 4))), (ad29 5, .inl (cI, n, .inl (ar29 5))), (ad29 6, .inl (cI, n, .inl (ar29 6))), (ad29 7, .inl (cI, n, .inl (ar29 7)))] H := by rw [ea29, er29]; exact hP.sub [0, 1, 9, 2, 3, 4, 5, 6, 7] rfl
  have hD : va_D A [(h0, .inr (0, gb_fs ad29 iv)), (ad29 0, .inl (cI, 2 * n, .inl (ar29 0))), (ad29 1, .inl (cI, 2 * n, .inl (ar29 1))), (ad29 2, .inl (cI, n, .inl (ar29 2))), (ad29 3, .inl (cI, n, .inl (ar29 3))), (ad29 4, .inl (cI, n, .inl (ar29 4))), (ad29 5, .inl (cI, n, .inl (ar29 5))), (ad29 6, .inl (cI, n, .inl (ar29 6))), (ad29 7, .inl (cI, n, .inl (ar29 7)))] := by rw [ea29, er29]; exact hD.sub [0, 1, 9, 2, 3, 4, 5, 6, 7] (by decide) rfl
  refine lv_aload_n hx hb dX0_growRows_32 rfl (lv_at hl 1 rfl) ?_
  refine lv_aload_n hx hb dX0_growRows_33 rfl (lv_at hl 1 rfl) ?_
  refine va_get (D := D) (ci := 0) (v := .ref (ad29 2)) (C := RX0) (T := TX0) (N := 11) hx hb hts inX0 hown hK hP 0 rfl rfl 2 (by decide) (hts _ (mG wm_55)) (fun _ h9 => h9) rfl dX0_growRows_34 ?_
  refine lv_iload_n hx hb dX0_growRows_37 rfl (lv_at hl 0 rfl) ?_
  have hPc := hP.sub (ws' := [(ad29 2, .inl (cI, n, .inl (ar29 2)))]) [3] rfl
  have hDc := hD.sub (ws' := [(ad29 2, .inl (cI, n, .inl (ar29 2)))]) [3] (by decide) rfl
  have hFc := va_free (wc := [(ad29 2, .inl (cI, n, .inl (ar29 2)))]) hD hS hA [3] rfl
  refine va_callr (va_runS (As := [.ref (ad29 2), .int v6]) (rest := [.ref h0]) ⟨hx, hb, hml, hown, hts⟩ (c_copyOf l D cI (ad29 2) n (ar29 2) H.size v6 e6 h16 hlen) (va_cwS 2 hts gX0_growRows_J7_copyOf rfl rfl rfl (by decide +kernel) ⟨Nat.le_of_ble_eq_true rfl, Nat.le_of_ble_eq_true rfl⟩) (mP_S hK hPc hDc) rfl rfl hl.1 rfl (lv_room (Nat.le_of_ble_eq_true rfl)) dX0_growRows_38 ⟨by show _ ≤ 8; omega, by show _ ≤ 16 * n; omega⟩) hS (fun q _ h => hFc q h) hFc (fun u q2 t H1 locs ht hvm e38 hB hz1 hk1 hS => ?_)
  obtain ⟨hP1, hK1, hD1⟩ := hB
  rw [ht] at hP1
  have hK := va_K.moved hvm.symm hK1
  obtain ⟨hP, hD⟩ := va_join (wr := [(h0, .inr (0, gb_fs ad29 iv)), (ad29 0, .inl (cI, 2 * n, .inl (ar29 0))), (ad29 1, .inl (cI, 2 * n, .inl (ar29 1))), (ad29 3, .inl (cI, n, .inl (ar29 3))), (ad29 4, .inl (cI, n, .inl (ar29 4))), (ad29 5, .inl (cI, n, .inl (ar29 5))), (ad29 6, .inl (cI, n, .inl (ar29 6))), (ad29 7, .inl (cI, n, .inl (ar29 7)))]) (w1 := [(ad29 2, .inl (cI, n, .inl (ar29 2))), (q2, .inl (cI, 2 * n, .inl (gb_gr n (ar29 2))))]) hP hD [3] [0, 1, 2, 4, 5, 6, 7, 8] rfl rfl (by decide) (by decide) hk1 hFc hP1 hD1
  clear hP1 hK1 hD1 hk1 hz1 hFc ht hPc hDc
  generalize H1 = H at hP hS ⊢
  refine va_put (D := D) (ci := 0) (v := .ref q2) (ty := (.array .int)) (C := RX0) (T := TX0) (N := 11) hx hb hts inX0 tyX0 tyX0_ok nmX0 hown hK hP hD hS 0 rfl rfl 2 (by decide) (hts _ (mG wm_55)) (fun _ h9 => h9) rfl (by decide +kernel) rfl rfl (Nat.le_of_ble_eq_true rfl) dX0_growRows_41 (fun H locs hP hD hS => ?_)
  obtain ⟨ad41, ea41⟩ : ∃ zz : Nat → Nat, zz = va_up ad29 2 q2 := ⟨_, rfl⟩
  obtain ⟨ar41, er41⟩ : ∃ zz : Nat → Nat → Int32, zz = va_up ar29 2 (gb_gr n (ar29 2)) := ⟨_, rfl⟩
  have hP : va_P D vwCl [(h0, .inr (0, gb_fs ad41 iv)), (ad41 0, .inl (cI, 2 * n, .inl (ar41 0))), (ad41 1, .inl (cI, 2 * n, .inl (ar41 1))), (ad41 2, .inl (cI, 2 * n, .inl (ar41 2))), (ad41 3, .inl (cI, n, .inl (ar41 3))), (ad41 4, .inl (cI, n, .inl (ar41 4))), (ad41 5, .inl (cI, n, .inl (ar41 5))), (ad41 6, .inl (cI, n, .inl (ar41 6))), (ad41 7, .inl (cI, n, .inl (ar41 7)))] H := by rw [ea41, er41]; exact hP.sub [0, 1, 2, 9, 3, 4, 5, 6, 7] rfl
  have hD : va_D A [(h0, .inr (0, gb_fs ad41 iv)), (ad41 0, .inl (cI, 2 * n, .inl (ar41 0))), (ad41 1, .inl (cI, 2 * n, .inl (ar41 1))), (ad41 2, .inl (cI, 2 * n, .inl (ar41 2))), (ad41 3, .inl (cI, n, .inl (ar41 3))), (ad41 4, .inl (cI, n, .inl (ar41 4))), (ad41 5, .inl (cI, n, .inl (ar41 5))), (ad41 6, .inl (cI, n, .inl (ar41 6))), (ad41 7, .inl (cI, n, .inl (ar41 7)))] := by rw [ea41, er41]; exact hD.sub [0, 1, 2, 9, 3, 4, 5, 6, 7] (by decide) rfl
  refine lv_aload_n hx hb dX0_growRows_44 rfl (lv_at hl 1 rfl) ?_
  refine lv_aload_n hx hb dX0_growRows_45 rfl (lv_at hl 1 rfl) ?_
  refine va_get (D := D) (ci := 0) (v := .ref (ad41 3)) (C := RX0) (T := TX0) (N := 11) hx hb hts inX0 hown hK hP 0 rfl rfl 3 (by decide) (hts _ (mG wm_56)) (fun _ h9 => h9) rfl dX0_growRows_46 ?_
  refine lv_iload_n hx hb dX0_growRows_49 rfl (lv_at hl 0 rfl) ?_
  have hPc := hP.sub (ws' := [(ad41 3, .inl (cI, n, .inl (ar41 3)))]) [4] rfl
  have hDc := hD.sub (ws' := [(ad41 3, .inl (cI, n, .inl (ar41 3)))]) [4] (by decide) rfl
  have hFc := va_free (wc := [(ad41 3, .inl (cI, n, .inl (ar41 3)))]) hD hS hA [4] rfl
  refine va_callr (va_runS (As := [.ref (ad41 3), .int v6]) (rest := [.ref h0]) ⟨hx, hb, hml, hown, hts⟩ (c_copyOf l D cI (ad41 3) n (ar41 3) H.size v6 e6 h16 hlen) (va_cwS 2 hts gX0_growRows_J7_copyOf rfl rfl rfl (by decide +kernel) ⟨Nat.le_of_ble_eq_true rfl, Nat.le_of_ble_eq_true rfl⟩) (mP_S hK hPc hDc) rfl rfl hl.1 rfl (lv_room (Nat.le_of_ble_eq_true rfl)) dX0_growRows_50 ⟨by show _ ≤ 8; omega, by show _ ≤ 16 * n; omega⟩) hS (fun q _ h => hFc q h) hFc (fun u q3 t H1 locs ht hvm e50 hB hz1 hk1 hS => ?_)
  obtain ⟨hP1, hK1, hD1⟩ := hB
  rw [ht] at hP1
  have hK := va_K.moved hvm.symm hK1
  obtain ⟨hP, hD⟩ := va_join (wr := [(h0, .inr (0, gb_fs ad41 iv)), (ad41 0, .inl (cI, 2 * n, .inl (ar41 0))), (ad41 1, .inl (cI, 2 * n, .inl (ar41 1))), (ad41 2, .inl (cI, 2 * n, .inl (ar41 2))), (ad41 4, .inl (cI, n, .inl (ar41 4))), (ad41 5, .inl (cI, n, .inl (ar41 5))), (ad41 6, .inl (cI, n, .inl (ar41 6))), (ad41 7, .inl (cI, n, .inl (ar41 7)))]) (w1 := [(ad41 3, .inl (cI, n, .inl (ar41 3))), (q3, .inl (cI, 2 * n, .inl (gb_gr n (ar41 3))))]) hP hD [4] [0, 1, 2, 3, 5, 6, 7, 8] rfl rfl (by decide) (by decide) hk1 hFc hP1 hD1
  clear hP1 hK1 hD1 hk1 hz1 hFc ht hPc hDc
  generalize H1 = H at hP hS ⊢
  refine va_put (D := D) (ci := 0) (v := .ref q3) (ty := (.array .int)) (C := RX0) (T := TX0) (N := 11) hx hb hts inX0 tyX0 tyX0_ok nmX0 hown hK hP hD hS 0 rfl rfl 3 (by decide) (hts _ (mG wm_56)) (fun _ h9 => h9) rfl (by decide +kernel) rfl rfl (Nat.le_of_ble_eq_true rfl) dX0_growRows_53 (fun H locs hP hD hS => ?_)
  obtain ⟨ad53, ea53⟩ : ∃ zz : Nat → Nat, zz = va_up ad41 3 q3 := ⟨_, rfl⟩
  obtain ⟨ar53, er53⟩ : ∃ zz : Nat → Nat → Int32, zz = va_up ar41 3 (gb_gr n (ar41 3)) := ⟨_, rfl⟩
  have hP : va_P D vwCl [(h0, .inr (0, gb_fs ad53 iv)), (ad53 0, .inl (cI, 2 * n, .inl (ar53 0))), (ad53 1, .inl (cI, 2 * n, .inl (ar53 1))), (ad53 2, .inl (cI, 2 * n, .inl (ar53 2))), (ad53 3, .inl (cI, 2 * n, .inl (ar53 3))), (ad53 4, .inl (cI, n, .inl (ar53 4))), (ad53 5, .inl (cI, n, .inl (ar53 5))), (ad53 6, .inl (cI, n, .inl (ar53 6))), (ad53 7, .inl (cI, n, .inl (ar53 7)))] H := by rw [ea53, er53]; exact hP.sub [0, 1, 2, 3, 9, 4, 5, 6, 7] rfl
  have hD : va_D A [(h0, .inr (0, gb_fs ad53 iv)), (ad53 0, .inl (cI, 2 * n, .inl (ar53 0))), (ad53 1, .inl (cI, 2 * n, .inl (ar53 1))), (ad53 2, .inl (cI, 2 * n, .inl (ar53 2))), (ad53 3, .inl (cI, 2 * n, .inl (ar53 3))), (ad53 4, .inl (cI, n, .inl (ar53 4))), (ad53 5, .inl (cI, n, .inl (ar53 5))), (ad53 6, .inl (cI, n, .inl (ar53 6))), (ad53 7, .inl (cI, n, .inl (ar53 7)))] := by rw [ea53, er53]; exact hD.sub [0, 1, 2, 3, 9, 4, 5, 6, 7] (by decide) rfl
  refine lv_aload_n hx hb dX0_growRows_56 rfl (lv_at hl 1 rfl) ?_
  refine lv_aload_n hx hb dX0_growRows_57 rfl (lv_at hl 1 rfl) ?_
  refine va_get (D := D) (ci := 0) (v := .ref (ad53 4)) (C := RX0) (T := TX0) (N := 11) hx hb hts inX0 hown hK hP 0 rfl rfl 4 (by decide) (hts _ (mG wm_57)) (fun _ h9 => h9) rfl dX0_growRows_58 ?_
  refine lv_iload_n hx hb dX0_growRows_61 rfl (lv_at hl 0 rfl) ?_
  have hPc := hP.sub (ws' := [(ad53 4, .inl (cI, n, .inl (ar53 4)))]) [5] rfl
  have hDc := hD.sub (ws' := [(ad53 4, .inl (cI, n, .inl (ar53 4)))]) [5] (by decide) rfl
  have hFc := va_free (wc := [(ad53 4, .inl (cI, n, .inl (ar53 4)))]) hD hS hA [5] rfl
  refine va_callr (va_runS (As := [.ref (ad53 4), .int v6]) (rest := [.ref h0]) ⟨hx, hb, hml, hown, hts⟩ (c_copyOf l D cI (ad53 4) n (ar53 4) H.size v6 e6 h16 hlen) (va_cwS 2 hts gX0_growRows_J7_copyOf rfl rfl rfl (by decide +kernel) ⟨Nat.le_of_ble_eq_true rfl, Nat.le_of_ble_eq_true rfl⟩) (mP_S hK hPc hDc) rfl rfl hl.1 rfl (lv_room (Nat.le_of_ble_eq_true rfl)) dX0_growRows_62 ⟨by show _ ≤ 8; omega, by show _ ≤ 16 * n; omega⟩) hS (fun q _ h => hFc q h) hFc (fun u q4 t H1 locs ht hvm e62 hB hz1 hk1 hS => ?_)
  obtain ⟨hP1, hK1, hD1⟩ := hB
  rw [ht] at hP1
  have hK := va_K.moved hvm.symm hK1
  obtain ⟨hP, hD⟩ := va_join (wr := [(h0, .inr (0, gb_fs ad53 iv)), (ad53 0, .inl (cI, 2 * n, .inl (ar53 0))), (ad53 1, .inl (cI, 2 * n, .inl (ar53 1))), (ad53 2, .inl (cI, 2 * n, .inl (ar53 2))), (ad53 3, .inl (cI, 2 * n, .inl (ar53 3))), (ad53 5, .inl (cI, n, .inl (ar53 5))), (ad53 6, .inl (cI, n, .inl (ar53 6))), (ad53 7, .inl (cI, n, .inl (ar53 7)))]) (w1 := [(ad53 4, .inl (cI, n, .inl (ar53 4))), (q4, .inl (cI, 2 * n, .inl (gb_gr n (ar53 4))))]) hP hD [5] [0, 1, 2, 3, 4, 6, 7, 8] rfl rfl (by decide) (by decide) hk1 hFc hP1 hD1
  clear hP1 hK1 hD1 hk1 hz1 hFc ht hPc hDc
  generalize H1 = H at hP hS ⊢
  refine va_put (D := D) (ci := 0) (v := .ref q4) (ty := (.array .int)) (C := RX0) (T := TX0) (N := 11) hx hb hts inX0 tyX0 tyX0_ok nmX0 hown hK hP hD hS 0 rfl rfl 4 (by decide) (hts _ (mG wm_57)) (fun _ h9 => h9) rfl (by decide +kernel) rfl rfl (Nat.le_of_ble_eq_true rfl) dX0_growRows_65 (fun H locs hP hD hS => ?_)
  obtain ⟨ad65, ea65⟩ : ∃ zz : Nat → Nat, zz = va_up ad53 4 q4 := ⟨_, rfl⟩
  obtain ⟨ar65, er65⟩ : ∃ zz : Nat → Nat → Int32, zz = va_up ar53 4 (gb_gr n (ar53 4)) := ⟨_, rfl⟩
  have hP : va_P D vwCl [(h0, .inr (0, gb_fs ad65 iv)), (ad65 0, .inl (cI, 2 * n, .inl (ar65 0))), (ad65 1, .inl (cI, 2 * n, .inl (ar65 1))), (ad65 2, .inl (cI, 2 * n, .inl (ar65 2))), (ad65 3, .inl (cI, 2 * n, .inl (ar65 3))), (ad65 4, .inl (cI, 2 * n, .inl (ar65 4))), (ad65 5, .inl (cI, n, .inl (ar65 5))), (ad65 6, .inl (cI, n, .inl (ar65 6))), (ad65 7, .inl (cI, n, .inl (ar65 7)))] H := by rw [ea65, er65]; exact hP.sub [0, 1, 2, 3, 4, 9, 5, 6, 7] rfl
  have hD : va_D A [(h0, .inr (0, gb_fs ad65 iv)), (ad65 0, .inl (cI, 2 * n, .inl (ar65 0))), (ad65 1, .inl (cI, 2 * n, .inl (ar65 1))), (ad65 2, .inl (cI, 2 * n, .inl (ar65 2))), (ad65 3, .inl (cI, 2 * n, .inl (ar65 3))), (ad65 4, .inl (cI, 2 * n, .inl (ar65 4))), (ad65 5, .inl (cI, n, .inl (ar65 5))), (ad65 6, .inl (cI, n, .inl (ar65 6))), (ad65 7, .inl (cI, n, .inl (ar65 7)))] := by rw [ea65, er65]; exact hD.sub [0, 1, 2, 3, 4, 9, 5, 6, 7] (by decide) rfl
  refine lv_aload_n hx hb dX0_growRows_68 rfl (lv_at hl 1 rfl) ?_
  refine lv_aload_n hx hb dX0_growRows_69 rfl (lv_at hl 1 rfl) ?_
  refine va_get (D := D) (ci := 0) (v := .ref (ad65 5)) (C := RX0) (T := TX0) (N := 11) hx hb hts inX0 hown hK hP 0 rfl rfl 5 (by decide) (hts _ (mG wm_58)) (fun _ h9 => h9) rfl dX0_growRows_70 ?_
  refine lv_iload_n hx hb dX0_growRows_73 rfl (lv_at hl 0 rfl) ?_
  have hPc := hP.sub (ws' := [(ad65 5, .inl (cI, n, .inl (ar65 5)))]) [6] rfl
  have hDc := hD.sub (ws' := [(ad65 5, .inl (cI, n, .inl (ar65 5)))]) [6] (by decide) rfl
  have hFc := va_free (wc := [(ad65 5, .inl (cI, n, .inl (ar65 5)))]) hD hS hA [6] rfl
  refine va_callr (va_runS (As := [.ref (ad65 5), .int v6]) (rest := [.ref h0]) ⟨hx, hb, hml, hown, hts⟩ (c_copyOf l D cI (ad65 5) n (ar65 5) H.size v6 e6 h16 hlen) (va_cwS 2 hts gX0_growRows_J7_copyOf rfl rfl rfl (by decide +kernel) ⟨Nat.le_of_ble_eq_true rfl, Nat.le_of_ble_eq_true rfl⟩) (mP_S hK hPc hDc) rfl rfl hl.1 rfl (lv_room (Nat.le_of_ble_eq_true rfl)) dX0_growRows_74 ⟨by show _ ≤ 8; omega, by show _ ≤ 16 * n; omega⟩) hS (fun q _ h => hFc q h) hFc (fun u q5 t H1 locs ht hvm e74 hB hz1 hk1 hS => ?_)
  obtain ⟨hP1, hK1, hD1⟩ := hB
  rw [ht] at hP1
  have hK := va_K.moved hvm.symm hK1
  obtain ⟨hP, hD⟩ := va_join (wr := [(h0, .inr (0, gb_fs ad65 iv)), (ad65 0, .inl (cI, 2 * n, .inl (ar65 0))), (ad65 1, .inl (cI, 2 * n, .inl (ar65 1))), (ad65 2, .inl (cI, 2 * n, .inl (ar65 2))), (ad65 3, .inl (cI, 2 * n, .inl (ar65 3))), (ad65 4, .inl (cI, 2 * n, .inl (ar65 4))), (ad65 6, .inl (cI, n, .inl (ar65 6))), (ad65 7, .inl (cI, n, .inl (ar65 7)))]) (w1 := [(ad65 5, .inl (cI, n, .inl (ar65 5))), (q5, .inl (cI, 2 * n, .inl (gb_gr n (ar65 5))))]) hP hD [6] [0, 1, 2, 3, 4, 5, 7, 8] rfl rfl (by decide) (by decide) hk1 hFc hP1 hD1
  clear hP1 hK1 hD1 hk1 hz1 hFc ht hPc hDc
  generalize H1 = H at hP hS ⊢
  refine va_put (D := D) (ci := 0) (v := .ref q5) (ty := (.array .int)) (C := RX0) (T := TX0) (N := 11) hx hb hts inX0 tyX0 tyX0_ok nmX0 hown hK hP hD hS 0 rfl rfl 5 (by decide) (hts _ (mG wm_58)) (fun _ h9 => h9) rfl (by decide +kernel) rfl rfl (Nat.le_of_ble_eq_true rfl) dX0_growRows_77 (fun H locs hP hD hS => ?_)
  obtain ⟨ad77, ea77⟩ : ∃ zz : Nat → Nat, zz = va_up ad65 5 q5 := ⟨_, rfl⟩
  obtain ⟨ar77, er77⟩ : ∃ zz : Nat → Nat → Int32, zz = va_up ar65 5 (gb_gr n (ar65 5)) := ⟨_, rfl⟩
  have hP : va_P D vwCl [(h0, .inr (0, gb_fs ad77 iv)), (ad77 0, .inl (cI, 2 * n, .inl (ar77 0))), (ad77 1, .inl (cI, 2 * n, .inl (ar77 1))), (ad77 2, .inl (cI, 2 * n, .inl (ar77 2))), (ad77 3, .inl (cI, 2 * n, .inl (ar77 3))), (ad77 4, .inl (cI, 2 * n, .inl (ar77 4))), (ad77 5, .inl (cI, 2 * n, .inl (ar77 5))), (ad77 6, .inl (cI, n, .inl (ar77 6))), (ad77 7, .inl (cI, n, .inl (ar77 7)))] H := by rw [ea77, er77]; exact hP.sub [0, 1, 2, 3, 4, 5, 9, 6, 7] rfl
  have hD : va_D A [(h0, .inr (0, gb_fs ad77 iv)), (ad77 0, .inl (cI, 2 * n, .inl (ar77 0))), (ad77 1, .inl (cI, 2 * n, .inl (ar77 1))), (ad77 2, .inl (cI, 2 * n, .inl (ar77 2))), (ad77 3, .inl (cI, 2 * n, .inl (ar77 3))), (ad77 4, .inl (cI, 2 * n, .inl (ar77 4))), (ad77 5, .inl (cI, 2 * n, .inl (ar77 5))), (ad77 6, .inl (cI, n, .inl (ar77 6))), (ad77 7, .inl (cI, n, .inl (ar77 7)))] := by rw [ea77, er77]; exact hD.sub [0, 1, 2, 3, 4, 5, 9, 6, 7] (by decide) rfl
  refine lv_aload_n hx hb dX0_growRows_80 rfl (lv_at hl 1 rfl) ?_
  refine lv_aload_n hx hb dX0_growRows_81 rfl (lv_at hl 1 rfl) ?_
  refine va_get (D := D) (ci := 0) (v := .ref (ad77 6)) (C := RX0) (T := TX0) (N := 11) hx hb hts inX0 hown hK hP 0 rfl rfl 6 (by decide) (hts _ (mG wm_59)) (fun _ h9 => h9) rfl dX0_growRows_82 ?_
  refine lv_iload_n hx hb dX0_growRows_85 rfl (lv_at hl 0 rfl) ?_
  have hPc := hP.sub (ws' := [(ad77 6, .inl (cI, n, .inl (ar77 6)))]) [7] rfl
  have hDc := hD.sub (ws' := [(ad77 6, .inl (cI, n, .inl (ar77 6)))]) [7] (by decide) rfl
  have hFc := va_free (wc := [(ad77 6, .inl (cI, n, .inl (ar77 6)))]) hD hS hA [7] rfl
  refine va_callr (va_runS (As := [.ref (ad77 6), .int v6]) (rest := [.ref h0]) ⟨hx, hb, hml, hown, hts⟩ (c_copyOf l D cI (ad77 6) n (ar77 6) H.size v6 e6 h16 hlen) (va_cwS 2 hts gX0_growRows_J7_copyOf rfl rfl rfl (by decide +kernel) ⟨Nat.le_of_ble_eq_true rfl, Nat.le_of_ble_eq_true rfl⟩) (mP_S hK hPc hDc) rfl rfl hl.1 rfl (lv_room (Nat.le_of_ble_eq_true rfl)) dX0_growRows_86 ⟨by show _ ≤ 8; omega, by show _ ≤ 16 * n; omega⟩) hS (fun q _ h => hFc q h) hFc (fun u q6 t H1 locs ht hvm e86 hB hz1 hk1 hS => ?_)
  obtain ⟨hP1, hK1, hD1⟩ := hB
  rw [ht] at hP1
  have hK := va_K.moved hvm.symm hK1
  obtain ⟨hP, hD⟩ := va_join (wr := [(h0, .inr (0, gb_fs ad77 iv)), (ad77 0, .inl (cI, 2 * n, .inl (ar77 0))), (ad77 1, .inl (cI, 2 * n, .inl (ar77 1))), (ad77 2, .inl (cI, 2 * n, .inl (ar77 2))), (ad77 3, .inl (cI, 2 * n, .inl (ar77 3))), (ad77 4, .inl (cI, 2 * n, .inl (ar77 4))), (ad77 5, .inl (cI, 2 * n, .inl (ar77 5))), (ad77 7, .inl (cI, n, .inl (ar77 7)))]) (w1 := [(ad77 6, .inl (cI, n, .inl (ar77 6))), (q6, .inl (cI, 2 * n, .inl (gb_gr n (ar77 6))))]) hP hD [7] [0, 1, 2, 3, 4, 5, 6, 8] rfl rfl (by decide) (by decide) hk1 hFc hP1 hD1
  clear hP1 hK1 hD1 hk1 hz1 hFc ht hPc hDc
  generalize H1 = H at hP hS ⊢
  refine va_put (D := D) (ci := 0) (v := .ref q6) (ty := (.array .int)) (C := RX0) (T := TX0) (N := 11) hx hb hts inX0 tyX0 tyX0_ok nmX0 hown hK hP hD hS 0 rfl rfl 6 (by decide) (hts _ (mG wm_59)) (fun _ h9 => h9) rfl (by decide +kernel) rfl rfl (Nat.le_of_ble_eq_true rfl) dX0_growRows_89 (fun H locs hP hD hS => ?_)
  obtain ⟨ad89, ea89⟩ : ∃ zz : Nat → Nat, zz = va_up ad77 6 q6 := ⟨_, rfl⟩
  obtain ⟨ar89, er89⟩ : ∃ zz : Nat → Nat → Int32, zz = va_up ar77 6 (gb_gr n (ar77 6)) := ⟨_, rfl⟩
  have hP : va_P D vwCl [(h0, .inr (0, gb_fs ad89 iv)), (ad89 0, .inl (cI, 2 * n, .inl (ar89 0))), (ad89 1, .inl (cI, 2 * n, .inl (ar89 1))), (ad89 2, .inl (cI, 2 * n, .inl (ar89 2))), (ad89 3, .inl (cI, 2 * n, .inl (ar89 3))), (ad89 4, .inl (cI, 2 * n, .inl (ar89 4))), (ad89 5, .inl (cI, 2 * n, .inl (ar89 5))), (ad89 6, .inl (cI, 2 * n, .inl (ar89 6))), (ad89 7, .inl (cI, n, .inl (ar89 7)))] H := by rw [ea89, er89]; exact hP.sub [0, 1, 2, 3, 4, 5, 6, 9, 7] rfl
  have hD : va_D A [(h0, .inr (0, gb_fs ad89 iv)), (ad89 0, .inl (cI, 2 * n, .inl (ar89 0))), (ad89 1, .inl (cI, 2 * n, .inl (ar89 1))), (ad89 2, .inl (cI, 2 * n, .inl (ar89 2))), (ad89 3, .inl (cI, 2 * n, .inl (ar89 3))), (ad89 4, .inl (cI, 2 * n, .inl (ar89 4))), (ad89 5, .inl (cI, 2 * n, .inl (ar89 5))), (ad89 6, .inl (cI, 2 * n, .inl (ar89 6))), (ad89 7, .inl (cI, n, .inl (ar89 7)))] := by rw [ea89, er89]; exact hD.sub [0, 1, 2, 3, 4, 5, 6, 9, 7] (by decide) rfl
  refine lv_aload_n hx hb dX0_growRows_92 rfl (lv_at hl 1 rfl) ?_
  refine lv_aload_n hx hb dX0_growRows_93 rfl (lv_at hl 1 rfl) ?_
  refine va_get (D := D) (ci := 0) (v := .ref (ad89 7)) (C := RX0) (T := TX0) (N := 11) hx hb hts inX0 hown hK hP 0 rfl rfl 7 (by decide) (hts _ (mG wm_60)) (fun _ h9 => h9) rfl dX0_growRows_94 ?_
  refine lv_iload_n hx hb dX0_growRows_97 rfl (lv_at hl 0 rfl) ?_
  have hPc := hP.sub (ws' := [(ad89 7, .inl (cI, n, .inl (ar89 7)))]) [8] rfl
  have hDc := hD.sub (ws' := [(ad89 7, .inl (cI, n, .inl (ar89 7)))]) [8] (by decide) rfl
  have hFc := va_free (wc := [(ad89 7, .inl (cI, n, .inl (ar89 7)))]) hD hS hA [8] rfl
  refine va_callr (va_runS (As := [.ref (ad89 7), .int v6]) (rest := [.ref h0]) ⟨hx, hb, hml, hown, hts⟩ (c_copyOf l D cI (ad89 7) n (ar89 7) H.size v6 e6 h16 hlen) (va_cwS 2 hts gX0_growRows_J7_copyOf rfl rfl rfl (by decide +kernel) ⟨Nat.le_of_ble_eq_true rfl, Nat.le_of_ble_eq_true rfl⟩) (mP_S hK hPc hDc) rfl rfl hl.1 rfl (lv_room (Nat.le_of_ble_eq_true rfl)) dX0_growRows_98 ⟨by show _ ≤ 8; omega, by show _ ≤ 16 * n; omega⟩) hS (fun q _ h => hFc q h) hFc (fun u q7 t H1 locs ht hvm e98 hB hz1 hk1 hS => ?_)
  obtain ⟨hP1, hK1, hD1⟩ := hB
  rw [ht] at hP1
  have hK := va_K.moved hvm.symm hK1
  obtain ⟨hP, hD⟩ := va_join (wr := [(h0, .inr (0, gb_fs ad89 iv)), (ad89 0, .inl (cI, 2 * n, .inl (ar89 0))), (ad89 1, .inl (cI, 2 * n, .inl (ar89 1))), (ad89 2, .inl (cI, 2 * n, .inl (ar89 2))), (ad89 3, .inl (cI, 2 * n, .inl (ar89 3))), (ad89 4, .inl (cI, 2 * n, .inl (ar89 4))), (ad89 5, .inl (cI, 2 * n, .inl (ar89 5))), (ad89 6, .inl (cI, 2 * n, .inl (ar89 6)))]) (w1 := [(ad89 7, .inl (cI, n, .inl (ar89 7))), (q7, .inl (cI, 2 * n, .inl (gb_gr n (ar89 7))))]) hP hD [8] [0, 1, 2, 3, 4, 5, 6, 7] rfl rfl (by decide) (by decide) hk1 hFc hP1 hD1
  clear hP1 hK1 hD1 hk1 hz1 hFc ht hPc hDc
  generalize H1 = H at hP hS ⊢
  refine va_put (D := D) (ci := 0) (v := .ref q7) (ty := (.array .int)) (C := RX0) (T := TX0) (N := 11) hx hb hts inX0 tyX0 tyX0_ok nmX0 hown hK hP hD hS 0 rfl rfl 7 (by decide) (hts _ (mG wm_60)) (fun _ h9 => h9) rfl (by decide +kernel) rfl rfl (Nat.le_of_ble_eq_true rfl) dX0_growRows_101 (fun H locs hP hD hS => ?_)
  obtain ⟨ad101, ea101⟩ : ∃ zz : Nat → Nat, zz = va_up ad89 7 q7 := ⟨_, rfl⟩
  obtain ⟨ar101, er101⟩ : ∃ zz : Nat → Nat → Int32, zz = va_up ar89 7 (gb_gr n (ar89 7)) := ⟨_, rfl⟩
  have hP : va_P D vwCl [(h0, .inr (0, gb_fs ad101 iv)), (ad101 0, .inl (cI, 2 * n, .inl (ar101 0))), (ad101 1, .inl (cI, 2 * n, .inl (ar101 1))), (ad101 2, .inl (cI, 2 * n, .inl (ar101 2))), (ad101 3, .inl (cI, 2 * n, .inl (ar101 3))), (ad101 4, .inl (cI, 2 * n, .inl (ar101 4))), (ad101 5, .inl (cI, 2 * n, .inl (ar101 5))), (ad101 6, .inl (cI, 2 * n, .inl (ar101 6))), (ad101 7, .inl (cI, 2 * n, .inl (ar101 7)))] H := by rw [ea101, er101]; exact hP.sub [0, 1, 2, 3, 4, 5, 6, 7, 9] rfl
  have hD : va_D A [(h0, .inr (0, gb_fs ad101 iv)), (ad101 0, .inl (cI, 2 * n, .inl (ar101 0))), (ad101 1, .inl (cI, 2 * n, .inl (ar101 1))), (ad101 2, .inl (cI, 2 * n, .inl (ar101 2))), (ad101 3, .inl (cI, 2 * n, .inl (ar101 3))), (ad101 4, .inl (cI, 2 * n, .inl (ar101 4))), (ad101 5, .inl (cI, 2 * n, .inl (ar101 5))), (ad101 6, .inl (cI, 2 * n, .inl (ar101 6))), (ad101 7, .inl (cI, 2 * n, .inl (ar101 7)))] := by rw [ea101, er101]; exact hD.sub [0, 1, 2, 3, 4, 5, 6, 7, 9] (by decide) rfl
  have hgo : ∀ k, k < 8 → ar101 k = gb_gr n (ar k) := by
    intro k hk
    rw [er101, er89, er77, er65, er53, er41, er29, er17]
    rcases (show k = 0 ∨ k = 1 ∨ k = 2 ∨ k = 3 ∨ k = 4 ∨ k = 5 ∨ k = 6 ∨ k = 7 by omega) with rfl | rfl | rfl | rfl | rfl | rfl | rfl | rfl <;> rfl
  refine W.widen (k := 8) (n := 16 * n) (by omega) (by omega) ?_
  exact W.vret hx hb hr (fun t ht hW => ⟨⟨(2 * n, ad101, ar101, iv), rfl, ⟨rfl, rfl, hgo⟩, by rw [ht]; exact hP, va_K.moved hW.alike hK, hD⟩, hS.F ht⟩) hS.2.2 dX0_growRows_104
set_option maxHeartbeats 4000000 in
set_option maxRecDepth 100000 in
/-- newNode -/
theorem c_newNode (l : Launch) (D : va_G) (h0 : Nat) (cI : ClassId) (n : Nat) (ad : Nat → Nat) (ar : Nat → Nat → Int32) (iv : Nat → Int32) (sz : Nat) (x : Int32) (y : Int32) (nc : Nat) (hnc : iv 0 = nI nc) (hmx : nc < 20000) (hle : nc ≤ n) (h16 : 16 ≤ n) (hb9 : n ≤ 65536) : Met l yX0_newNode wsX0_newNode ({ frames := 3, cells := gb_cap n (nc + 1) - n, slots := 16 * (gb_cap n (nc + 1) - n), locals := 83 }) (mP D (gW h0 cI n ad ar iv) [(cI, .int)] sz [.ref h0, .int x, .int y]) (va_Qi (fun (r : Int32) (u : GS) => r = nI nc ∧ u.1 = gb_cap n (nc + 1) ∧ u.2.2.2 = va_up iv 0 (nI (nc + 1)) ∧ ∃ B : Nat → Nat → Int32, u.2.2.1 = va_up (va_up B 0 (upd (B 0) nc x)) 1 (upd (B 1) nc y) ∧ ∀ k, k < 8 → B k = gb_ext n nc (ar k)) (gb_at D cI (va_A (gW h0 cI n ad ar iv) sz) h0) (va_A (gW h0 cI n ad ar iv) sz)) (gb_cap n (nc + 1) - n) (16 * (gb_cap n (nc + 1) - n)) (va_A (gW h0 cI n ad ar iv) sz) := by
  refine Met.ofW (cc := cX0_newNode) (maxL := 4) (ret := (some .int)) (by decide) rfl ?_
  intro p e s m args below meth c s₁ B hml hv
  obtain ⟨rfl, hsz, hP, hK, hD0⟩ := hv
  have hx := B.exec
  have hb := B.bytes
  have hr := B.returns
  have hts := atoms_spec (ws := wsX0_newNode) B.pre
  have hown : s.vm.findClass RX0 = some m.cls := findClass_of_methodNamed B.named
  have hlocks := B.notSynchronized
  have hl := lv_entry ([.ref h0, .int x, .int y]) (n := 4) (Nat.le_of_ble_eq_true rfl)
  rw [lg_entry_eq]
  generalize (lg_sl ([.ref h0, .int x, .int y]) ++ List.replicate (4 - (lg_sl ([.ref h0, .int x, .int y])).length) Slot.unset).toArray = ls at hl ⊢
  have hl : lv_has ls 4 [(0, .ref h0), (1, .int x), (2, .int y)] := hl
  subst hsz
  have hD := hD0.self (sz := s.heap.size)
  generalize hAe : va_A (gW h0 cI n ad ar iv) s.heap.size = A at hD ⊢
  have hA : ∀ q : Nat, s.heap.size ≤ q → A q := fun q h => by rw [← hAe]; exact Or.inr h
  have hS : va_S A s.heap s.heap [] := va_S.rf
  refine lv_aload_n hx hb dX0_newNode_0 rfl (lv_at hl 0 rfl) ?_
  refine va_get (D := D) (ci := 0) (v := .int (iv 0)) (C := RX0) (T := TX0) (N := 11) hx hb hts inX0 hown hK hP 0 rfl rfl 8 (by decide) (hts _ (mG wm_61)) (fun _ h9 => h9) rfl dX0_newNode_1 ?_
  refine lv_sipush (v := 20000) hx hb dX0_newNode_4 (by decide) ?_
  refine lv_icmp_lt (tgt := 20) hx hb dX0_newNode_7 (by decide) (fun c7 => ?_) (fun c7 => ?_)
  · refine lv_aload_n hx hb dX0_newNode_20 rfl (lv_at hl 0 rfl) ?_
    refine va_get (D := D) (ci := 0) (v := .int (iv 0)) (C := RX0) (T := TX0) (N := 11) hx hb hts inX0 hown hK hP 0 rfl rfl 8 (by decide) (hts _ (mG wm_61)) (fun _ h9 => h9) rfl dX0_newNode_21 ?_
    refine lv_aload_n hx hb dX0_newNode_24 rfl (lv_at hl 0 rfl) ?_
    refine va_get (D := D) (ci := 0) (v := .ref (ad 0)) (C := RX0) (T := TX0) (N := 11) hx hb hts inX0 hown hK hP 0 rfl rfl 0 (by decide) (hts _ (mG wm_53)) (fun _ h9 => h9) rfl dX0_newNode_25 ?_
    refine va_alen (v := nI n) hx hb hK hP 1 0 rfl rfl rfl dX0_newNode_28 ?_
    refine lv_icmp_lt (tgt := 36) hx hb dX0_newNode_29 (by decide) (fun c29 => ?_) (fun c29 => ?_)
    · have c29 : nc < n := by
        rw [hnc] at c29
        exact (nI_ltI (by omega) (by omega)).mp c29
      have hin : vp_in (iv 0) n := by rw [hnc]; exact vp_in_nI c29 (by omega)
      have hi47 := hin
      have hi54 := hin
      refine lv_aload_n hx hb dX0_newNode_36 rfl (lv_at hl 0 rfl) ?_
      refine va_get (D := D) (ci := 0) (v := .int (iv 0)) (C := RX0) (T := TX0) (N := 11) hx hb hts inX0 hown hK hP 0 rfl rfl 8 (by decide) (hts _ (mG wm_61)) (fun _ h9 => h9) rfl dX0_newNode_37 ?_
      refine lv_istore_n (lv' := [(3, .int (iv 0)), (0, .ref h0), (1, .int x), (2, .int y)]) hx hb dX0_newNode_40 rfl hl (by decide) rfl (fun ls hl => ?_)
      refine lv_aload_n hx hb dX0_newNode_41 rfl (lv_at hl 1 rfl) ?_
      refine va_get (D := D) (ci := 0) (v := .ref (ad 0)) (C := RX0) (T := TX0) (N := 11) hx hb hts inX0 hown hK hP 0 rfl rfl 0 (by decide) (hts _ (mG wm_53)) (fun _ h9 => h9) rfl dX0_newNode_42 ?_
      refine lv_iload_n hx hb dX0_newNode_45 rfl (lv_at hl 0 rfl) ?_
      refine lv_iload_n hx hb dX0_newNode_46 rfl (lv_at hl 2 rfl) ?_
      refine va_iast hx hb hK hP hD hS 1 0 rfl rfl hi47 dX0_newNode_47 (fun H locs hP hD hS => ?_)
      obtain ⟨ar47, e47⟩ : ∃ zz : Nat → Nat → Int32, zz = va_up ar 0 (upd (ar 0) (Int32.toNatClampNeg (iv 0)) x) := ⟨_, rfl⟩
      have hP : va_P D vwCl (gW h0 cI n ad ar47 iv) H := by rw [e47]; exact hP
      have hD : va_D A (gW h0 cI n ad ar47 iv) := by rw [e47]; exact hD
      refine lv_aload_n hx hb dX0_newNode_48 rfl (lv_at hl 1 rfl) ?_
      refine va_get (D := D) (ci := 0) (v := .ref (ad 1)) (C := RX0) (T := TX0) (N := 11) hx hb hts inX0 hown hK hP 0 rfl rfl 1 (by decide) (hts _ (mG wm_54)) (fun _ h9 => h9) rfl dX0_newNode_49 ?_
      refine lv_iload_n hx hb dX0_newNode_52 rfl (lv_at hl 0 rfl) ?_
      refine lv_iload_n hx hb dX0_newNode_53 rfl (lv_at hl 3 rfl) ?_
      refine va_iast hx hb hK hP hD hS 2 0 rfl rfl hi54 dX0_newNode_54 (fun H locs hP hD hS => ?_)
      obtain ⟨ar54, e54⟩ : ∃ zz : Nat → Nat → Int32, zz = va_up ar47 1 (upd (ar47 1) (Int32.toNatClampNeg (iv 0)) y) := ⟨_, rfl⟩
      have hP : va_P D vwCl (gW h0 cI n ad ar54 iv) H := by rw [e54]; exact hP
      have hD : va_D A (gW h0 cI n ad ar54 iv) := by rw [e54]; exact hD
      refine lv_aload_n hx hb dX0_newNode_55 rfl (lv_at hl 1 rfl) ?_
      refine lv_dup hx hb dX0_newNode_56 rfl ?_
      refine va_get (D := D) (ci := 0) (v := .int (iv 0)) (C := RX0) (T := TX0) (N := 11) hx hb hts inX0 hown hK hP 0 rfl rfl 8 (by decide) (hts _ (mG wm_61)) (fun _ h9 => h9) rfl dX0_newNode_57 ?_
      refine lv_iconst (v := 1) hx hb dX0_newNode_60 (by decide) ?_
      refine lv_iadd hx hb dX0_newNode_61 ?_
      refine lv_topi (fun v61 e61 => ?_)
      refine va_put (D := D) (ci := 0) (v := .int v61) (ty := .int) (C := RX0) (T := TX0) (N := 11) hx hb hts inX0 tyX0 tyX0_ok nmX0 hown hK hP hD hS 0 rfl rfl 8 (by decide) (hts _ (mG wm_61)) (fun _ h9 => h9) rfl (by decide +kernel) rfl rfl (Nat.le_of_ble_eq_true rfl) dX0_newNode_62 (fun H locs hP hD hS => ?_)
      obtain ⟨iv62, e62⟩ : ∃ zz : Nat → Int32, zz = va_up iv 0 v61 := ⟨_, rfl⟩
      have hP : va_P D vwCl (gW h0 cI n ad ar54 iv62) H := by rw [e62]; exact hP
      have hD : va_D A (gW h0 cI n ad ar54 iv62) := by rw [e62]; exact hD
      refine lv_iload_n hx hb dX0_newNode_65 rfl (lv_at hl 0 rfl) ?_
      refine W.widen (k := gb_cap n (nc + 1) - n) (n := 16 * (gb_cap n (nc + 1) - n)) (by omega) (by omega) ?_
      exact W.iret (v := (iv 0)) hx hb hr (fun t ht hW => ⟨⟨(iv 0), (n, ad, ar54, iv62), rfl, ⟨hnc, by rw [gb_cap, if_pos (by omega)], by rw [e62, e61, hnc]; exact congrArg (va_up iv 0) (nI_1 nc), ar, by rw [e54, e47, hnc, nI_clamp (by omega)] <;> rfl, fun k hk => by rw [gb_ext, if_pos (by omega)]⟩, by rw [ht]; exact hP, va_K.moved hW.alike hK, hD⟩, hS.F ht⟩) hS.2.2 dX0_newNode_66
    · have c29 : n ≤ nc := by
        rw [hnc] at c29
        exact Nat.not_lt.mp fun q => c29 (nI_lt q (by omega))
      have hlen : n ≤ 20000 := by omega
      have hcap : gb_cap n (nc + 1) = 2 * n := by rw [gb_cap, if_neg (by omega)]
      refine lv_aload_n hx hb dX0_newNode_32 rfl (lv_at hl 0 rfl) ?_
      have hFc := va_free (wc := (gW h0 cI n ad ar iv)) hD hS hA [0, 1, 2, 3, 4, 5, 6, 7, 8] rfl
      refine va_callv (va_runV (As := []) (rest := []) ⟨hx, hb, hml, hown, hts⟩ (c_growRows l D h0 cI n ad ar iv s.heap.size  h16 hlen) (cwV 0 hts gX0_newNode_X0_growRows rfl rfl rfl (by decide +kernel) ⟨Nat.le_of_ble_eq_true rfl, Nat.le_of_ble_eq_true rfl⟩) (mP_V hK hP hD (va_recv hK hP (ci := 0) (q0 := 0) rfl rfl)) rfl rfl hl.1 rfl (lv_room (Nat.le_of_ble_eq_true rfl)) dX0_newNode_33 ⟨by show 0 + 8 ≤ gb_cap n (nc + 1) - n; omega, by show 0 + 16 * n ≤ 16 * (gb_cap n (nc + 1) - n); omega⟩) hS (fun q _ h => hFc q h) hFc (fun u t H1 locs ht hvm e33 hB hz1 hk1 hS => ?_)
      obtain ⟨n33, ad33, ar33, iv33⟩ := u
      obtain ⟨hP1, hK1, hD1⟩ := hB
      rw [ht] at hP1
      have hK := va_K.moved hvm.symm hK1
      have hP : va_P D vwCl (gW h0 cI n33 ad33 ar33 iv33) H1 := hP1
      have hD : va_D A (gW h0 cI n33 ad33 ar33 iv33) := hD1.weaken (fun k q _ h => hFc q.1 h)
      clear hP1 hK1 hD1 hk1 hz1 hFc ht
      generalize H1 = H at hP hS ⊢
      try dsimp only at e33
      have hin : vp_in (iv33 0) n33 := by rw [e33.1, e33.2.1, hnc]; exact vp_in_nI (by omega) (by omega)
      have hi47 := hin
      have hi54 := hin
      refine lv_aload_n hx hb dX0_newNode_36 rfl (lv_at hl 0 rfl) ?_
      refine va_get (D := D) (ci := 0) (v := .int (iv33 0)) (C := RX0) (T := TX0) (N := 11) hx hb hts inX0 hown hK hP 0 rfl rfl 8 (by decide) (hts _ (mG wm_61)) (fun _ h9 => h9) rfl dX0_newNode_37 ?_
      refine lv_istore_n (lv' := [(3, .int (iv33 0)), (0, .ref h0), (1, .int x), (2, .int y)]) hx hb dX0_newNode_40 rfl hl (by decide) rfl (fun ls hl => ?_)
      refine lv_aload_n hx hb dX0_newNode_41 rfl (lv_at hl 1 rfl) ?_
      refine va_get (D := D) (ci := 0) (v := .ref (ad33 0)) (C := RX0) (T := TX0) (N := 11) hx hb hts inX0 hown hK hP 0 rfl rfl 0 (by decide) (hts _ (mG wm_53)) (fun _ h9 => h9) rfl dX0_newNode_42 ?_
      refine lv_iload_n hx hb dX0_newNode_45 rfl (lv_at hl 0 rfl) ?_
      refine lv_iload_n hx hb dX0_newNode_46 rfl (lv_at hl 2 rfl) ?_
      refine va_iast hx hb hK hP hD hS 1 0 rfl rfl hi47 dX0_newNode_47 (fun H locs hP hD hS => ?_)
      obtain ⟨ar47, e47⟩ : ∃ zz : Nat → Nat → Int32, zz = va_up ar33 0 (upd (ar33 0) (Int32.toNatClampNeg (iv33 0)) x) := ⟨_, rfl⟩
      have hP : va_P D vwCl (gW h0 cI n33 ad33 ar47 iv33) H := by rw [e47]; exact hP
      have hD : va_D A (gW h0 cI n33 ad33 ar47 iv33) := by rw [e47]; exact hD
      refine lv_aload_n hx hb dX0_newNode_48 rfl (lv_at hl 1 rfl) ?_
      refine va_get (D := D) (ci := 0) (v := .ref (ad33 1)) (C := RX0) (T := TX0) (N := 11) hx hb hts inX0 hown hK hP 0 rfl rfl 1 (by decide) (hts _ (mG wm_54)) (fun _ h9 => h9) rfl dX0_newNode_49 ?_
      refine lv_iload_n hx hb dX0_newNode_52 rfl (lv_at hl 0 rfl) ?_
      refine lv_iload_n hx hb dX0_newNode_53 rfl (lv_at hl 3 rfl) ?_
      refine va_iast hx hb hK hP hD hS 2 0 rfl rfl hi54 dX0_newNode_54 (fun H locs hP hD hS => ?_)
      obtain ⟨ar54, e54⟩ : ∃ zz : Nat → Nat → Int32, zz = va_up ar47 1 (upd (ar47 1) (Int32.toNatClampNeg (iv33 0)) y) := ⟨_, rfl⟩
      have hP : va_P D vwCl (gW h0 cI n33 ad33 ar54 iv33) H := by rw [e54]; exact hP
      have hD : va_D A (gW h0 cI n33 ad33 ar54 iv33) := by rw [e54]; exact hD
      refine lv_aload_n hx hb dX0_newNode_55 rfl (lv_at hl 1 rfl) ?_
      refine lv_dup hx hb dX0_newNode_56 rfl ?_
      refine va_get (D := D) (ci := 0) (v := .int (iv33 0)) (C := RX0) (T := TX0) (N := 11) hx hb hts inX0 hown hK hP 0 rfl rfl 8 (by decide) (hts _ (mG wm_61)) (fun _ h9 => h9) rfl dX0_newNode_57 ?_
      refine lv_iconst (v := 1) hx hb dX0_newNode_60 (by decide) ?_
      refine lv_iadd hx hb dX0_newNode_61 ?_
      refine lv_topi (fun v61 e61 => ?_)
      refine va_put (D := D) (ci := 0) (v := .int v61) (ty := .int) (C := RX0) (T := TX0) (N := 11) hx hb hts inX0 tyX0 tyX0_ok nmX0 hown hK hP hD hS 0 rfl rfl 8 (by decide) (hts _ (mG wm_61)) (fun _ h9 => h9) rfl (by decide +kernel) rfl rfl (Nat.le_of_ble_eq_true rfl) dX0_newNode_62 (fun H locs hP hD hS => ?_)
      obtain ⟨iv62, e62⟩ : ∃ zz : Nat → Int32, zz = va_up iv33 0 v61 := ⟨_, rfl⟩
      have hP : va_P D vwCl (gW h0 cI n33 ad33 ar54 iv62) H := by rw [e62]; exact hP
      have hD : va_D A (gW h0 cI n33 ad33 ar54 iv62) := by rw [e62]; exact hD
      refine lv_iload_n hx hb dX0_newNode_65 rfl (lv_at hl 0 rfl) ?_
      refine W.widen (k := gb_cap n (nc + 1) - n) (n := 16 * (gb_cap n (nc + 1) - n)) (by omega) (by omega) ?_
      exact W.iret (v := (iv33 0)) hx hb hr (fun t ht hW => ⟨⟨(iv33 0), (n33, ad33, ar54, iv62), rfl, ⟨by rw [e33.2.1]; exact hnc, by rw [e33.1, gb_cap, if_neg (by omega)], by rw [e62, e61, e33.2.1, hnc]; exact congrArg (va_up iv 0) (nI_1 nc), ar33, by rw [e54, e47, e33.2.1, hnc, nI_clamp (by omega)] <;> rfl, fun k hk => by rw [e33.2.2 k hk, gb_ext, if_neg (by omega)]⟩, by rw [ht]; exact hP, va_K.moved hW.alike hK, hD⟩, hS.F ht⟩) hS.2.2 dX0_newNode_66
  · exact absurd (show iv 0 < nI 20000 by rw [hnc]; exact nI_lt hmx (by omega)) c7
end
section
set_option maxHeartbeats 4000000 in
set_option maxRecDepth 100000 in
/-- gateOf -/
theorem c_gateOf (l : Launch) (D : va_G) (h0 : Nat) (cI : ClassId) (n : Nat) (ad : Nat → Nat) (ar : Nat → Nat → Int32) (iv : Nat → Int32) (sz : Nat) (x : Int32) (y : Int32) (lo hi : Nat) (nc ic : Nat) (g : Ct) (bv : Nat → Bool) (hx0 : x = nI lo) (hy0 : y = nI hi) (hok : gb_ok n nc ic g bv ar iv) (hlo : 2 ≤ lo) (hlh : lo / 2 < hi / 2) (hhi : hi < 2 * nc) (hmx : nc < 20000) : Met l yX0_gateOf wsX0_gateOf ({ frames := 4, cells := gb_cap n (ct_gt nc g lo hi).2.1 - n, slots := 16 * (gb_cap n (ct_gt nc g lo hi).2.1 - n), locals := 106 }) (mP D (gW h0 cI n ad ar iv) [(cI, .int)] sz [.ref h0, .int x, .int y]) (va_Qi (fun (r : Int32) (u : GS) => gb_po n ic bv (ct_gt nc g lo hi) r u) (gb_at D cI (va_A (gW h0 cI n ad ar iv) sz) h0) (va_A (gW h0 cI n ad ar iv) sz)) (gb_cap n (ct_gt nc g lo hi).2.1 - n) (16 * (gb_cap n (ct_gt nc g lo hi).2.1 - n)) (va_A (gW h0 cI n ad ar iv) sz) := by
  refine Met.ofW (cc := cX0_gateOf) (maxL := 5) (ret := (some .int)) (by decide) rfl ?_
  intro p e s m args below meth c s₁ B hml hv
  obtain ⟨rfl, hsz, hP, hK, hD0⟩ := hv
  have hx := B.exec
  have hb := B.bytes
  have hr := B.returns
  have hts := atoms_spec (ws := wsX0_gateOf) B.pre
  have hown : s.vm.findClass RX0 = some m.cls := findClass_of_methodNamed B.named
  have hlocks := B.notSynchronized
  have hl := lv_entry ([.ref h0, .int x, .int y]) (n := 5) (Nat.le_of_ble_eq_true rfl)
  rw [lg_entry_eq]
  generalize (lg_sl ([.ref h0, .int x, .int y]) ++ List.replicate (5 - (lg_sl ([.ref h0, .int x, .int y])).length) Slot.unset).toArray = ls at hl ⊢
  have hl : lv_has ls 5 [(0, .ref h0), (1, .int x), (2, .int y)] := hl
  subst hsz
  have hD := hD0.self (sz := s.heap.size)
  generalize hAe : va_A (gW h0 cI n ad ar iv) s.heap.size = A at hD ⊢
  have hA : ∀ q : Nat, s.heap.size ≤ q → A q := fun q h => by rw [← hAe]; exact Or.inr h
  have hS : va_S A s.heap s.heap [] := va_S.rf
  have hnc := hok.nc
  have hct := hok.ct
  have hwf := hct.2.2.2.1
  have h16 := hok.n16
  have hle := hct.2.1
  have hb9 := hct.2.2.1
  refine lv_aload_n hx hb dX0_gateOf_0 rfl (lv_at hl 0 rfl) ?_
  refine va_get (D := D) (ci := 0) (v := .ref (ad 6)) (C := RX0) (T := TX0) (N := 11) hx hb hts inX0 hown hK hP 0 rfl rfl 6 (by decide) (hts _ (mG wm_59)) (fun _ h9 => h9) rfl dX0_gateOf_1 ?_
  refine lv_iload_n hx hb dX0_gateOf_4 rfl (lv_at hl 2 rfl) ?_
  refine lv_iconst (v := 1) hx hb dX0_gateOf_5 (by decide) ?_
  refine lv_ishr hx hb dX0_gateOf_6 ?_
  refine lv_topi (fun v6 e6 => ?_)
  have e6 : v6 = nI (hi / 2) := by rw [e6, hy0]; exact ct_shr (by omega)
  have hi7 : vp_in v6 n := by rw [e6]; exact vp_in_nI (by omega) (by omega)
  refine va_iald hx hb hK hP 7 0 rfl rfl hi7 dX0_gateOf_7 ?_
  refine lv_topi (fun v7 e7 => ?_)
  have e7 : v7 = nI (ct_nw g nc (hi / 2)) := by rw [e7, e6, nI_clamp (by omega)]; exact hok.nw (hi / 2) (by omega)
  refine lv_istore_n (lv' := [(3, .int v7), (0, .ref h0), (1, .int x), (2, .int y)]) hx hb dX0_gateOf_8 rfl hl (by decide) rfl (fun ls hl => ?_)
  refine lv_iconst (v := 0) hx hb dX0_gateOf_9 (by decide) ?_
  refine lv_istore (lv' := [(4, .int 0), (3, .int v7), (0, .ref h0), (1, .int x), (2, .int y)]) hx hb dX0_gateOf_10 hl (by decide) rfl (fun ls hl => ?_)
  have hloop : ∀ (k : Nat) (q : Nat) (t : Nat) (ls : Array Slot), q < k → (q < nc ∧ (q = 0 ∨ ∃ u v, g q = some (u, v) ∧ v / 2 = hi / 2) ∧ (∀ j, g j = some (lo, hi) → j ≤ q) ∧ q + t < nc) → lv_has ls 5 [(4, .int (nI t)), (3, .int (nI q)), (0, .ref h0), (1, .int x), (2, .int y)] → W p l e (headSpec wsX0_gateOf ({ frames := 4, cells := gb_cap n (ct_gt nc g lo hi).2.1 - n, slots := 16 * (gb_cap n (ct_gt nc g lo hi).2.1 - n), locals := 106 })).room s m ([.ref h0, .int x, .int y] : List Value).toArray below meth c s.heap [] (0) (0) (MQ below (va_Qi (fun (r : Int32) (u : GS) => gb_po n ic bv (ct_gt nc g lo hi) r u) (gb_at D cI A h0) A) ([.ref h0, .int x, .int y] : List Value).toArray s (gb_cap n (ct_gt nc g lo hi).2.1 - n) (16 * (gb_cap n (ct_gt nc g lo hi).2.1 - n)) A) (F0 m 12 ls []) := by
    intro k
    induction k with
    | zero => intro q t ls h; omega
    | succ k ih =>
      intro q t ls hqk hinv hl
      obtain ⟨i1, i2, i3, i4⟩ := hinv
      refine lv_iload hx hb dX0_gateOf_12 (lv_at hl 0 rfl) ?_
      refine lv_aload_n hx hb dX0_gateOf_14 rfl (lv_at hl 2 rfl) ?_
      refine va_get (D := D) (ci := 0) (v := .int (iv 0)) (C := RX0) (T := TX0) (N := 11) hx hb hts inX0 hown hK hP 0 rfl rfl 8 (by decide) (hts _ (mG wm_61)) (fun _ h9 => h9) rfl dX0_gateOf_15 ?_
      refine lv_icmp_ge (tgt := 62) hx hb dX0_gateOf_18 (by decide) (fun c18 => ?_) (fun c18 => ?_)
      · exact absurd c18 (by rw [hnc]; exact nI_ge (by omega) (by omega))
      · refine lv_iload_n hx hb dX0_gateOf_21 rfl (lv_at hl 1 rfl) ?_
        refine lv_if_eq (tgt := 62) hx hb dX0_gateOf_22 (by decide) (fun c22 => ?_) (fun c22 => ?_)
        · have c22 : q = 0 := (nI_eq (by omega) (by omega)).mp (by rw [nI_0]; exact c22)
          have hgt : ct_gt nc g lo hi = (2 * nc, nc + 1, va_up g nc (some (lo, hi))) := ct_gt_none (fun j hj => by
            have z1 := i3 j hj
            have z2 := hwf.1 j lo hi hj
            omega)
          have hcap : gb_cap n (ct_gt nc g lo hi).2.1 = gb_cap n (nc + 1) := by rw [hgt]
          have hnc65 := hnc
          have hmx65 := hmx
          have hle65 := hle
          have h1665 := h16
          have hb965 := hb9
          refine lv_aload_n hx hb dX0_gateOf_62 rfl (lv_at hl 2 rfl) ?_
          refine lv_iload_n hx hb dX0_gateOf_63 rfl (lv_at hl 3 rfl) ?_
          refine lv_iload_n hx hb dX0_gateOf_64 rfl (lv_at hl 4 rfl) ?_
          have hFc := va_free (wc := (gW h0 cI n ad ar iv)) hD hS hA [0, 1, 2, 3, 4, 5, 6, 7, 8] rfl
          refine va_calli (va_runV (As := [.int x, .int y]) (rest := []) ⟨hx, hb, hml, hown, hts⟩ (c_newNode l D h0 cI n ad ar iv s.heap.size x y nc hnc65 hmx65 hle65 h1665 hb965) (cwV 2 hts gX0_gateOf_X0_newNode rfl rfl rfl (by decide +kernel) ⟨Nat.le_of_ble_eq_true rfl, Nat.le_of_ble_eq_true rfl⟩) (mP_V hK hP hD (va_recv hK hP (ci := 0) (q0 := 0) rfl rfl)) rfl rfl hl.1 rfl (lv_room (Nat.le_of_ble_eq_true rfl)) dX0_gateOf_65 ⟨by show 0 + (gb_cap n (nc + 1) - n) ≤ gb_cap n (ct_gt nc g lo hi).2.1 - n; omega, by show 0 + 16 * (gb_cap n (nc + 1) - n) ≤ 16 * (gb_cap n (ct_gt nc g lo hi).2.1 - n); omega⟩) hS (fun q _ h => hFc q h) hFc (fun r65 u t H1 locs ht hvm e65 hB hz1 hk1 hS => ?_)
          obtain ⟨n65, ad65, ar65, iv65⟩ := u
          obtain ⟨hP1, hK1, hD1⟩ := hB
          rw [ht] at hP1
          have hK := va_K.moved hvm.symm hK1
          have hP : va_P D vwCl (gW h0 cI n65 ad65 ar65 iv65) H1 := hP1
          have hD : va_D A (gW h0 cI n65 ad65 ar65 iv65) := hD1.weaken (fun k q _ h => hFc q.1 h)
          clear hP1 hK1 hD1 hk1 hz1 hFc ht
          generalize H1 = H at hP hS ⊢
          try dsimp only at e65
          refine lv_istore (lv' := [(4, .int r65), (3, .int (nI q)), (0, .ref h0), (1, .int x), (2, .int y)]) hx hb dX0_gateOf_68 hl (by decide) rfl (fun ls hl => ?_)
          refine lv_aload_n hx hb dX0_gateOf_70 rfl (lv_at hl 2 rfl) ?_
          refine lv_iload hx hb dX0_gateOf_71 (lv_at hl 0 rfl) ?_
          refine lv_iload_n hx hb dX0_gateOf_73 rfl (lv_at hl 3 rfl) ?_
          refine lv_iconst (v := 1) hx hb dX0_gateOf_74 (by decide) ?_
          refine lv_ishr hx hb dX0_gateOf_75 ?_
          refine lv_topi (fun v75 e75 => ?_)
          have e75 : v75 = nI (lo / 2) := by rw [e75, hx0]; exact ct_shr (by omega)
          refine lv_iload_n hx hb dX0_gateOf_76 rfl (lv_at hl 4 rfl) ?_
          refine lv_iconst (v := 1) hx hb dX0_gateOf_77 (by decide) ?_
          refine lv_ishr hx hb dX0_gateOf_78 ?_
          refine lv_topi (fun v78 e78 => ?_)
          have e78 : v78 = nI (hi / 2) := by rw [e78, hy0]; exact ct_shr (by omega)
          have hcp := gb_cap_ge n (nc + 1) (by omega)
          have hcp2 := (gb_cap_n n (nc + 1)).2
          have hc79a : vp_in r65 n65 := by rw [e65.1, e65.2.1]; exact vp_in_nI (by omega) (by omega)
          have hc79b : vp_in v75 n65 := by rw [e75, e65.2.1]; exact vp_in_nI (by omega) (by omega)
          have hc79c : vp_in v78 n65 := by rw [e78, e65.2.1]; exact vp_in_nI (by omega) (by omega)
          have hFc := va_free (wc := (gW h0 cI n65 ad65 ar65 iv65)) hD hS hA [0, 1, 2, 3, 4, 5, 6, 7, 8] rfl
          refine va_callv (va_runV (As := [.int r65, .int v75, .int v78]) (rest := []) ⟨hx, hb, hml, hown, hts⟩ (c_enterGate l D h0 cI n65 ad65 ar65 iv65 H.size r65 v75 v78 hc79a hc79b hc79c) (cwV 3 hts gX0_gateOf_X0_enterGate rfl rfl rfl (by decide +kernel) ⟨Nat.le_of_ble_eq_true rfl, Nat.le_of_ble_eq_true rfl⟩) (mP_V hK hP hD (va_recv hK hP (ci := 0) (q0 := 0) rfl rfl)) rfl rfl hl.1 rfl (lv_room (Nat.le_of_ble_eq_true rfl)) dX0_gateOf_79 ⟨by show 0 + (gb_cap n (nc + 1) - n) + 0 ≤ gb_cap n (ct_gt nc g lo hi).2.1 - n; omega, by show 0 + 16 * (gb_cap n (nc + 1) - n) + 0 ≤ 16 * (gb_cap n (ct_gt nc g lo hi).2.1 - n); omega⟩) hS (fun q _ h => hFc q h) hFc (fun u t H1 locs ht hvm e79 hB hz1 hk1 hS => ?_)
          obtain ⟨n79, ad79, ar79, iv79⟩ := u
          obtain ⟨hP1, hK1, hD1⟩ := hB
          rw [ht] at hP1
          have hK := va_K.moved hvm.symm hK1
          have hP : va_P D vwCl (gW h0 cI n79 ad79 ar79 iv79) H1 := hP1
          have hD : va_D A (gW h0 cI n79 ad79 ar79 iv79) := hD1.weaken (fun k q _ h => hFc q.1 h)
          clear hP1 hK1 hD1 hk1 hz1 hFc ht
          generalize H1 = H at hP hS ⊢
          try dsimp only at e79
          rw [e65.1, e75, e78, nI_clamp (by omega), nI_clamp (by omega), nI_clamp (by omega)] at e79
          have hn79 : n79 = n65 := congrArg (fun z : GS => z.1) e79
          have hnew : gb_ok n79 (nc + 1) ic (va_up g nc (some (lo, hi))) bv ar79 iv79 := gb_ok_gate hok hx0 hy0 hlo hlh hhi hmx (fun j hj => by
            have z1 := i3 j hj
            have z2 := hwf.1 j lo hi hj
            omega) e65.2.1 e65.2.2.1 e65.2.2.2 e79
          refine lv_iload hx hb dX0_gateOf_82 (lv_at hl 0 rfl) ?_
          refine lv_iconst (v := 1) hx hb dX0_gateOf_84 (by decide) ?_
          refine lv_ishl hx hb dX0_gateOf_85 ?_
          refine lv_topi (fun v85 e85 => ?_)
          refine W.widen (k := gb_cap n (ct_gt nc g lo hi).2.1 - n) (n := 16 * (gb_cap n (ct_gt nc g lo hi).2.1 - n)) (by omega) (by omega) ?_
          exact W.iret (v := v85) hx hb hr (fun t ht hW => ⟨⟨v85, (n79, ad79, ar79, iv79), rfl, ⟨by rw [hgt, e85, e65.1]; exact ct_shl (by omega), by rw [hgt, hn79]; exact e65.2.1, by rw [hgt]; exact hnew⟩, by rw [ht]; exact hP, va_K.moved hW.alike hK, hD⟩, hS.F ht⟩) hS.2.2 dX0_gateOf_86
        · have c22 : q ≠ 0 := fun z => c22 (by rw [z]; exact nI_0)
          obtain ⟨u9, v9, i5, i6⟩ := i2.resolve_left c22
          have i7 := ct_at_f hct i5
          have i8 := ct_at_lt hct i5
          have hi30 : vp_in (nI q) n := vp_in_nI (by omega) (by omega)
          have hi40 := hi30
          have hi54 := hi30
          refine lv_aload_n hx hb dX0_gateOf_25 rfl (lv_at hl 2 rfl) ?_
          refine va_get (D := D) (ci := 0) (v := .ref (ad 0)) (C := RX0) (T := TX0) (N := 11) hx hb hts inX0 hown hK hP 0 rfl rfl 0 (by decide) (hts _ (mG wm_53)) (fun _ h9 => h9) rfl dX0_gateOf_26 ?_
          refine lv_iload_n hx hb dX0_gateOf_29 rfl (lv_at hl 1 rfl) ?_
          refine va_iald hx hb hK hP 1 0 rfl rfl hi30 dX0_gateOf_30 ?_
          refine lv_topi (fun v30 e30 => ?_)
          refine lv_iload_n hx hb dX0_gateOf_31 rfl (lv_at hl 3 rfl) ?_
          have e30 : v30 = nI u9 := by rw [e30, nI_clamp (by omega)]; exact i7.1
          refine lv_icmp_ne (tgt := 49) hx hb dX0_gateOf_32 (by decide) (fun c32 => ?_) (fun c32 => ?_)
          · have hne : g q ≠ some (lo, hi) := by
              intro z
              rw [i5] at z
              have z1 := congrArg Prod.fst (Option.some.inj z)
              have z2 := congrArg Prod.snd (Option.some.inj z)
              dsimp only at z1 z2
              exact c32 (by rw [e30, z1, hx0])
            refine lv_aload_n hx hb dX0_gateOf_49 rfl (lv_at hl 2 rfl) ?_
            refine va_get (D := D) (ci := 0) (v := .ref (ad 7)) (C := RX0) (T := TX0) (N := 11) hx hb hts inX0 hown hK hP 0 rfl rfl 7 (by decide) (hts _ (mG wm_60)) (fun _ h9 => h9) rfl dX0_gateOf_50 ?_
            refine lv_iload_n hx hb dX0_gateOf_53 rfl (lv_at hl 1 rfl) ?_
            refine va_iald hx hb hK hP 8 0 rfl rfl hi54 dX0_gateOf_54 ?_
            refine lv_topi (fun v54 e54 => ?_)
            have e54 : v54 = nI (ct_nw g q (hi / 2)) := by rw [e54, nI_clamp (by omega), ← i6]; exact hok.nx q u9 v9 i5
            refine lv_istore_n (lv' := [(3, .int v54), (4, .int (nI t)), (0, .ref h0), (1, .int x), (2, .int y)]) hx hb dX0_gateOf_55 rfl hl (by decide) rfl (fun ls hl => ?_)
            obtain ⟨v56, e56⟩ : ∃ y : Int32, y = (nI t) + 1 := ⟨_, rfl⟩
            refine lv_iinc (v := v56) (lv' := [(4, .int v56), (3, .int v54), (0, .ref h0), (1, .int x), (2, .int y)]) hx hb dX0_gateOf_56 hl (k := 1) rfl (by rw [e56]; rfl) (by decide) rfl (fun ls hl => ?_)
            refine lv_goto (tgt := 12) hx hb dX0_gateOf_59 (by decide) ?_
            have hq1 := ct_nw_lt (g := g) q (hi / 2)
            have hq0 := ct_nw_is hwf q (hi / 2)
            exact ih (ct_nw g q (hi / 2)) (t + 1) ls (by omega) ⟨by omega, (Decidable.em (ct_nw g q (hi / 2) = 0)).elim Or.inl (fun z => Or.inr (hq0.2 z)), fun j hj => (Decidable.em (j = q)).elim (fun z => absurd (z ▸ hj) hne) (fun z => hq0.1 j lo hi (by have := i3 j hj; omega) hj rfl), by omega⟩ (by rw [← nI_1, ← e54]; rw [e56] at hl; exact hl)
          · refine lv_aload_n hx hb dX0_gateOf_35 rfl (lv_at hl 2 rfl) ?_
            refine va_get (D := D) (ci := 0) (v := .ref (ad 1)) (C := RX0) (T := TX0) (N := 11) hx hb hts inX0 hown hK hP 0 rfl rfl 1 (by decide) (hts _ (mG wm_54)) (fun _ h9 => h9) rfl dX0_gateOf_36 ?_
            refine lv_iload_n hx hb dX0_gateOf_39 rfl (lv_at hl 1 rfl) ?_
            refine va_iald hx hb hK hP 2 0 rfl rfl hi40 dX0_gateOf_40 ?_
            refine lv_topi (fun v40 e40 => ?_)
            refine lv_iload_n hx hb dX0_gateOf_41 rfl (lv_at hl 4 rfl) ?_
            have e40 : v40 = nI v9 := by rw [e40, nI_clamp (by omega)]; exact i7.2
            refine lv_icmp_ne (tgt := 49) hx hb dX0_gateOf_42 (by decide) (fun c42 => ?_) (fun c42 => ?_)
            · have hne : g q ≠ some (lo, hi) := by
                intro z
                rw [i5] at z
                have z1 := congrArg Prod.fst (Option.some.inj z)
                have z2 := congrArg Prod.snd (Option.some.inj z)
                dsimp only at z1 z2
                exact c42 (by rw [e40, z2, hy0])
              refine lv_aload_n hx hb dX0_gateOf_49 rfl (lv_at hl 2 rfl) ?_
              refine va_get (D := D) (ci := 0) (v := .ref (ad 7)) (C := RX0) (T := TX0) (N := 11) hx hb hts inX0 hown hK hP 0 rfl rfl 7 (by decide) (hts _ (mG wm_60)) (fun _ h9 => h9) rfl dX0_gateOf_50 ?_
              refine lv_iload_n hx hb dX0_gateOf_53 rfl (lv_at hl 1 rfl) ?_
              refine va_iald hx hb hK hP 8 0 rfl rfl hi54 dX0_gateOf_54 ?_
              refine lv_topi (fun v54 e54 => ?_)
              have e54 : v54 = nI (ct_nw g q (hi / 2)) := by rw [e54, nI_clamp (by omega), ← i6]; exact hok.nx q u9 v9 i5
              refine lv_istore_n (lv' := [(3, .int v54), (4, .int (nI t)), (0, .ref h0), (1, .int x), (2, .int y)]) hx hb dX0_gateOf_55 rfl hl (by decide) rfl (fun ls hl => ?_)
              obtain ⟨v56, e56⟩ : ∃ y : Int32, y = (nI t) + 1 := ⟨_, rfl⟩
              refine lv_iinc (v := v56) (lv' := [(4, .int v56), (3, .int v54), (0, .ref h0), (1, .int x), (2, .int y)]) hx hb dX0_gateOf_56 hl (k := 1) rfl (by rw [e56]; rfl) (by decide) rfl (fun ls hl => ?_)
              refine lv_goto (tgt := 12) hx hb dX0_gateOf_59 (by decide) ?_
              have hq1 := ct_nw_lt (g := g) q (hi / 2)
              have hq0 := ct_nw_is hwf q (hi / 2)
              exact ih (ct_nw g q (hi / 2)) (t + 1) ls (by omega) ⟨by omega, (Decidable.em (ct_nw g q (hi / 2) = 0)).elim Or.inl (fun z => Or.inr (hq0.2 z)), fun j hj => (Decidable.em (j = q)).elim (fun z => absurd (z ▸ hj) hne) (fun z => hq0.1 j lo hi (by have := i3 j hj; omega) hj rfl), by omega⟩ (by rw [← nI_1, ← e54]; rw [e56] at hl; exact hl)
            · have c32 : u9 = lo := (nI_eq (by omega) (by omega)).mp (by rw [← e30, c32, hx0])
              have c42 : v9 = hi := (nI_eq (by omega) (by omega)).mp (by rw [← e40, c42, hy0])
              have hgt : ct_gt nc g lo hi = (2 * q, nc, g) := ct_gt_some hwf (by rw [i5, c32, c42])
              refine lv_iload_n hx hb dX0_gateOf_45 rfl (lv_at hl 1 rfl) ?_
              refine lv_iconst (v := 1) hx hb dX0_gateOf_46 (by decide) ?_
              refine lv_ishl hx hb dX0_gateOf_47 ?_
              refine lv_topi (fun v47 e47 => ?_)
              refine W.widen (k := gb_cap n (ct_gt nc g lo hi).2.1 - n) (n := 16 * (gb_cap n (ct_gt nc g lo hi).2.1 - n)) (by omega) (by omega) ?_
              exact W.iret (v := v47) hx hb hr (fun t ht hW => ⟨⟨v47, (n, ad, ar, iv), rfl, ⟨by rw [hgt, e47]; exact ct_shl (by omega), by rw [hgt]; exact (gb_cap_le (by omega)).symm, by rw [hgt]; exact hok⟩, by rw [ht]; exact hP, va_K.moved hW.alike hK, hD⟩, hS.F ht⟩) hS.2.2 dX0_gateOf_48
  have hq0 := ct_nw_is hwf nc (hi / 2)
  have hq1 := ct_nw_lt (g := g) nc (hi / 2)
  have hn1 := hct.1
  exact hloop (ct_nw g nc (hi / 2) + 1) (ct_nw g nc (hi / 2)) 0 ls (by omega) ⟨by omega, (Decidable.em (ct_nw g nc (hi / 2) = 0)).elim Or.inl (fun q => Or.inr (hq0.2 q)), fun j hj => hq0.1 j lo hi (hwf.1 j lo hi hj).1 hj rfl, by omega⟩ (by rw [nI_0, ← e7]; exact hl)
set_option maxHeartbeats 4000000 in
set_option maxRecDepth 100000 in
/-- andOf -/
theorem c_andOf (l : Launch) (D : va_G) (h0 : Nat) (cI : ClassId) (n : Nat) (ad : Nat → Nat) (ar : Nat → Nat → Int32) (iv : Nat → Int32) (sz : Nat) (x : Int32) (y : Int32) (a b : Nat) (nc ic : Nat) (g : Ct) (bv : Nat → Bool) (hx0 : x = nI a) (hy0 : y = nI b) (ha2 : a < 2 * nc) (hb2 : b < 2 * nc) (hok : gb_ok n nc ic g bv ar iv) (hmx : nc < 20000) : Met l yX0_andOf wsX0_andOf ({ frames := 5, cells := gb_cap n (ct_an nc g a b).2.1 - n, slots := 16 * (gb_cap n (ct_an nc g a b).2.1 - n), locals := 130 }) (mP D (gW h0 cI n ad ar iv) [(cI, .int)] sz [.ref h0, .int x, .int y]) (va_Qi (fun (r : Int32) (u : GS) => gb_po n ic bv (ct_an nc g a b) r u) (gb_at D cI (va_A (gW h0 cI n ad ar iv) sz) h0) (va_A (gW h0 cI n ad ar iv) sz)) (gb_cap n (ct_an nc g a b).2.1 - n) (16 * (gb_cap n (ct_an nc g a b).2.1 - n)) (va_A (gW h0 cI n ad ar iv) sz) := by
  refine Met.ofW (cc := cX0_andOf) (maxL := 8) (ret := (some .int)) (by decide) rfl ?_
  intro p e s m args below meth c s₁ B hml hv
  obtain ⟨rfl, hsz, hP, hK, hD0⟩ := hv
  have hx := B.exec
  have hb := B.bytes
  have hr := B.returns
  have hts := atoms_spec (ws := wsX0_andOf) B.pre
  have hown : s.vm.findClass RX0 = some m.cls := findClass_of_methodNamed B.named
  have hlocks := B.notSynchronized
  have hl := lv_entry ([.ref h0, .int x, .int y]) (n := 8) (Nat.le_of_ble_eq_true rfl)
  rw [lg_entry_eq]
  generalize (lg_sl ([.ref h0, .int x, .int y]) ++ List.replicate (8 - (lg_sl ([.ref h0, .int x, .int y])).length) Slot.unset).toArray = ls at hl ⊢
  have hl : lv_has ls 8 [(0, .ref h0), (1, .int x), (2, .int y)] := hl
  subst hsz
  have hD := hD0.self (sz := s.heap.size)
  generalize hAe : va_A (gW h0 cI n ad ar iv) s.heap.size = A at hD ⊢
  have hA : ∀ q : Nat, s.heap.size ≤ q → A q := fun q h => by rw [← hAe]; exact Or.inr h
  have hS : va_S A s.heap s.heap [] := va_S.rf
  have hnc := hok.nc
  have hct := hok.ct
  have hwf := hct.2.2.2.1
  have hle := hct.2.1
  have hb9 := hct.2.2.1
  have hmab : max a b < 2 * nc := Nat.max_lt.mpr ⟨ha2, hb2⟩
  refine lv_iload_n hx hb dX0_andOf_0 rfl (lv_at hl 1 rfl) ?_
  refine lv_iload_n hx hb dX0_andOf_1 rfl (lv_at hl 2 rfl) ?_
  refine va_mmin hx hb (by rw [hml]; exact hl.1.symm) hown (hts _ (mG wm_227)) (hts _ (mG wm_190)) (hts _ (mG wm_42)) (hts _ (mG wm_191)) (Nat.le_of_ble_eq_true rfl) (Nat.le_of_ble_eq_true rfl) (Nat.zero_le _) (Nat.zero_le _) dX0_andOf_2 ?_
  refine lv_topi (fun v2 e2 => ?_)
  have e2 : v2 = nI (min a b) := by rw [e2, hx0, hy0]; exact ct_imin (by omega) (by omega)
  refine lv_istore_n (lv' := [(3, .int v2), (0, .ref h0), (1, .int x), (2, .int y)]) hx hb dX0_andOf_5 rfl hl (by decide) rfl (fun ls hl => ?_)
  refine lv_iload_n hx hb dX0_andOf_6 rfl (lv_at hl 2 rfl) ?_
  refine lv_iload_n hx hb dX0_andOf_7 rfl (lv_at hl 3 rfl) ?_
  refine va_mmax hx hb (by rw [hml]; exact hl.1.symm) hown (hts _ (mG wm_228)) (hts _ (mG wm_229)) (hts _ (mG wm_42)) (hts _ (mG wm_230)) (Nat.le_of_ble_eq_true rfl) (Nat.le_of_ble_eq_true rfl) (Nat.zero_le _) (Nat.zero_le _) dX0_andOf_8 ?_
  refine lv_topi (fun v8 e8 => ?_)
  have e8 : v8 = nI (max a b) := by rw [e8, hx0, hy0]; exact ct_imax (by omega) (by omega)
  refine lv_istore (lv' := [(4, .int v8), (3, .int v2), (0, .ref h0), (1, .int x), (2, .int y)]) hx hb dX0_andOf_11 hl (by decide) rfl (fun ls hl => ?_)
  refine lv_iconst (v := 0) hx hb dX0_andOf_13 (by decide) ?_
  refine lv_istore (lv' := [(5, .int 0), (4, .int v8), (3, .int v2), (0, .ref h0), (1, .int x), (2, .int y)]) hx hb dX0_andOf_14 hl (by decide) rfl (fun ls hl => ?_)
  have hloop : ∀ (k : Nat) (lo : Nat) (hi : Nat) (t : Nat) (ls : Array Slot), hi / 2 < k → (lo ≤ hi ∧ hi < 2 * nc ∧ t + hi / 2 < nc ∧ ct_rd g nc (min a b) (max a b) = ct_rd g (hi / 2 + 1) lo hi) → lv_has ls 8 [(5, .int (nI t)), (4, .int (nI hi)), (3, .int (nI lo)), (0, .ref h0), (1, .int x), (2, .int y)] → W p l e (headSpec wsX0_andOf ({ frames := 5, cells := gb_cap n (ct_an nc g a b).2.1 - n, slots := 16 * (gb_cap n (ct_an nc g a b).2.1 - n), locals := 130 })).room s m ([.ref h0, .int x, .int y] : List Value).toArray below meth c s.heap [] (0) (0) (MQ below (va_Qi (fun (r : Int32) (u : GS) => gb_po n ic bv (ct_an nc g a b) r u) (gb_at D cI A h0) A) ([.ref h0, .int x, .int y] : List Value).toArray s (gb_cap n (ct_an nc g a b).2.1 - n) (16 * (gb_cap n (ct_an nc g a b).2.1 - n)) A) (F0 m 16 ls []) := by
    intro k
    induction k with
    | zero => intro lo hi t ls h; omega
    | succ k ih =>
      intro lo hi t ls hqk hinv hl
      obtain ⟨i1, i2, i3, i4⟩ := hinv
      refine lv_iload hx hb dX0_andOf_16 (lv_at hl 0 rfl) ?_
      refine lv_aload_n hx hb dX0_andOf_18 rfl (lv_at hl 3 rfl) ?_
      refine va_get (D := D) (ci := 0) (v := .int (iv 0)) (C := RX0) (T := TX0) (N := 11) hx hb hts inX0 hown hK hP 0 rfl rfl 8 (by decide) (hts _ (mG wm_61)) (fun _ h9 => h9) rfl dX0_andOf_19 ?_
      refine lv_icmp_ge (tgt := 87) hx hb dX0_andOf_22 (by decide) (fun c22 => ?_) (fun c22 => ?_)
      · exact absurd c22 (by rw [hnc]; exact nI_ge (by omega) (by omega))
      · refine lv_aload_n hx hb dX0_andOf_25 rfl (lv_at hl 3 rfl) ?_
        refine lv_iload_n hx hb dX0_andOf_26 rfl (lv_at hl 2 rfl) ?_
        refine lv_iload hx hb dX0_andOf_27 (lv_at hl 1 rfl) ?_
        have hc29a : vp_in (gb_sh (nI lo)) n := by rw [gb_sh_n (by omega)]; exact vp_in_nI (by omega) (by omega)
        have hc29b : vp_in (gb_sh (nI hi)) n := by rw [gb_sh_n (by omega)]; exact vp_in_nI (by omega) (by omega)
        have hc47 := hc29b
        refine vp_callSi (W.runV (As := [.int (nI lo), .int (nI hi)]) (rest := []) ⟨hx, hb, hml, hown, hts⟩ (c_knownAnd l D h0 cI n ad ar iv (nI lo) (nI hi) hc29a hc29b) (cwV 2 hts gX0_andOf_X0_knownAnd rfl rfl rfl (by decide +kernel) ⟨Nat.le_of_ble_eq_true rfl, Nat.le_of_ble_eq_true rfl⟩) (rP_V hK hP (va_recv hK hP (ci := 0) (q0 := 0) rfl rfl)) rfl rfl hl.1 rfl (lv_room (Nat.le_of_ble_eq_true rfl)) dX0_andOf_29 ⟨Nat.zero_le _, Nat.zero_le _⟩) (fun r29 e29 => ?_)
        have e29 : r29 = ct_i (ct_kn g lo hi) := by rw [e29]; exact gb_kn_n hct i1 i2
        refine lv_istore (lv' := [(6, .int r29), (5, .int (nI t)), (4, .int (nI hi)), (3, .int (nI lo)), (0, .ref h0), (1, .int x), (2, .int y)]) hx hb dX0_andOf_32 hl (by decide) rfl (fun ls hl => ?_)
        refine lv_iload hx hb dX0_andOf_34 (lv_at hl 0 rfl) ?_
        refine lv_iconst (v := -1) hx hb dX0_andOf_36 (by decide) ?_
        refine lv_icmp_eq (tgt := 43) hx hb dX0_andOf_37 (by decide) (fun c37 => ?_) (fun c37 => ?_)
        · have c37 : ct_kn g lo hi = none := by
            cases h : ct_kn g lo hi with
            | none => rfl
            | some v =>
              have h9 := ct_kn_le h i1
              rw [e29, h] at c37
              exact absurd c37 (ct_m1 (by omega))
          refine lv_aload_n hx hb dX0_andOf_43 rfl (lv_at hl 4 rfl) ?_
          refine lv_iload_n hx hb dX0_andOf_44 rfl (lv_at hl 3 rfl) ?_
          refine lv_iload hx hb dX0_andOf_45 (lv_at hl 2 rfl) ?_
          refine vp_callSi (W.runV (As := [.int (nI lo), .int (nI hi)]) (rest := []) ⟨hx, hb, hml, hown, hts⟩ (c_restOf l D h0 cI n ad ar iv (nI lo) (nI hi) hc47) (cwV 2 hts gX0_andOf_X0_restOf rfl rfl rfl (by decide +kernel) ⟨Nat.le_of_ble_eq_true rfl, Nat.le_of_ble_eq_true rfl⟩) (rP_V hK hP (va_recv hK hP (ci := 0) (q0 := 0) rfl rfl)) rfl rfl hl.1 rfl (lv_room (Nat.le_of_ble_eq_true rfl)) dX0_andOf_47 ⟨Nat.zero_le _, Nat.zero_le _⟩) (fun r47 e47 => ?_)
          have e47 : r47 = ct_i (ct_re g lo hi) := by rw [e47]; exact gb_re_n hct i1 i2
          refine lv_istore (lv' := [(7, .int r47), (6, .int r29), (5, .int (nI t)), (4, .int (nI hi)), (3, .int (nI lo)), (0, .ref h0), (1, .int x), (2, .int y)]) hx hb dX0_andOf_50 hl (by decide) rfl (fun ls hl => ?_)
          refine lv_iload hx hb dX0_andOf_52 (lv_at hl 0 rfl) ?_
          refine lv_iconst (v := -1) hx hb dX0_andOf_54 (by decide) ?_
          refine lv_icmp_ne (tgt := 66) hx hb dX0_andOf_55 (by decide) (fun c55 => ?_) (fun c55 => ?_)
          · obtain ⟨r9, hr9⟩ : ∃ v, ct_re g lo hi = some v := by
              cases h : ct_re g lo hi with
              | none => exact absurd (by rw [e47, h]; rfl) c55
              | some v => exact ⟨v, rfl⟩
            have e47 : r47 = nI r9 := by rw [e47, hr9]; rfl
            have h9 := ct_re_lt hwf hr9 i1
            refine lv_iload_n hx hb dX0_andOf_66 rfl (lv_at hl 4 rfl) ?_
            refine lv_iload hx hb dX0_andOf_67 (lv_at hl 0 rfl) ?_
            refine va_mmax hx hb (by rw [hml]; exact hl.1.symm) hown (hts _ (mG wm_228)) (hts _ (mG wm_229)) (hts _ (mG wm_42)) (hts _ (mG wm_230)) (Nat.le_of_ble_eq_true rfl) (Nat.le_of_ble_eq_true rfl) (Nat.zero_le _) (Nat.zero_le _) dX0_andOf_69 ?_
            refine lv_topi (fun v69 e69 => ?_)
            have e69 : v69 = nI (max lo r9) := by rw [e69, e47]; exact ct_imax (by omega) (by omega)
            refine lv_istore (lv' := [(4, .int v69), (7, .int r47), (6, .int r29), (5, .int (nI t)), (3, .int (nI lo)), (0, .ref h0), (1, .int x), (2, .int y)]) hx hb dX0_andOf_72 hl (by decide) rfl (fun ls hl => ?_)
            refine lv_iload_n hx hb dX0_andOf_74 rfl (lv_at hl 4 rfl) ?_
            refine lv_iload hx hb dX0_andOf_75 (lv_at hl 1 rfl) ?_
            refine va_mmin hx hb (by rw [hml]; exact hl.1.symm) hown (hts _ (mG wm_227)) (hts _ (mG wm_190)) (hts _ (mG wm_42)) (hts _ (mG wm_191)) (Nat.le_of_ble_eq_true rfl) (Nat.le_of_ble_eq_true rfl) (Nat.zero_le _) (Nat.zero_le _) dX0_andOf_77 ?_
            refine lv_topi (fun v77 e77 => ?_)
            have e77 : v77 = nI (min lo r9) := by rw [e77, e47]; exact ct_imin (by omega) (by omega)
            refine lv_istore_n (lv' := [(3, .int v77), (4, .int v69), (7, .int r47), (6, .int r29), (5, .int (nI t)), (0, .ref h0), (1, .int x), (2, .int y)]) hx hb dX0_andOf_80 rfl hl (by decide) rfl (fun ls hl => ?_)
            obtain ⟨v81, e81⟩ : ∃ y : Int32, y = (nI t) + 1 := ⟨_, rfl⟩
            refine lv_iinc (v := v81) (lv' := [(5, .int v81), (3, .int v77), (4, .int v69), (7, .int r47), (6, .int r29), (0, .ref h0), (1, .int x), (2, .int y)]) hx hb dX0_andOf_81 hl (k := 4) rfl (by rw [e81]; rfl) (by decide) rfl (fun ls hl => ?_)
            refine lv_goto (tgt := 16) hx hb dX0_andOf_84 (by decide) ?_
            have hfu : ct_rd g (hi / 2 + 1) lo hi = ct_rd g (max lo r9 / 2 + 1) (min lo r9) (max lo r9) := by
              rw [ct_rd, c37]
              dsimp only
              rw [hr9]
              exact ct_rd_fuel hwf _ _ _ _ h9.2.2.2.2.2 h9.2.2.2.1 (by omega)
            exact ih (min lo r9) (max lo r9) (t + 1) ls (by omega) ⟨h9.2.2.2.2.2, h9.2.2.2.2.1, by omega, i4.trans hfu⟩ (by rw [← nI_1, ← e69, ← e77, ← e81]; exact lv_sub hl [0, 2, 1, 5, 6, 7] rfl)
          · have c55 : ct_re g lo hi = none := by
              cases h : ct_re g lo hi with
              | none => rfl
              | some v =>
                have h9 := ct_re_lt hwf h i1
                rw [e47, h] at c55
                exact absurd c55 (ct_m1 (by omega))
            have hk9 := ct_kn_gap c37 i1
            have hR : ct_an nc g a b = ct_gt nc g lo hi := by
              unfold ct_an
              rw [i4, ct_rd, c37]
              dsimp only
              rw [c55]
            have hcap : gb_cap n (ct_an nc g a b).2.1 = gb_cap n (ct_gt nc g lo hi).2.1 := by rw [hR]
            refine lv_aload_n hx hb dX0_andOf_58 rfl (lv_at hl 5 rfl) ?_
            refine lv_iload_n hx hb dX0_andOf_59 rfl (lv_at hl 4 rfl) ?_
            refine lv_iload hx hb dX0_andOf_60 (lv_at hl 3 rfl) ?_
            have hFc := va_free (wc := (gW h0 cI n ad ar iv)) hD hS hA [0, 1, 2, 3, 4, 5, 6, 7, 8] rfl
            refine va_calli (va_runV (As := [.int (nI lo), .int (nI hi)]) (rest := []) ⟨hx, hb, hml, hown, hts⟩ (c_gateOf l D h0 cI n ad ar iv s.heap.size (nI lo) (nI hi) lo hi nc ic g bv rfl rfl hok hk9.1 hk9.2 i2 hmx) (cwV 2 hts gX0_andOf_X0_gateOf rfl rfl rfl (by decide +kernel) ⟨Nat.le_of_ble_eq_true rfl, Nat.le_of_ble_eq_true rfl⟩) (mP_V hK hP hD (va_recv hK hP (ci := 0) (q0 := 0) rfl rfl)) rfl rfl hl.1 rfl (lv_room (Nat.le_of_ble_eq_true rfl)) dX0_andOf_62 ⟨by show 0 + (gb_cap n (ct_gt nc g lo hi).2.1 - n) ≤ gb_cap n (ct_an nc g a b).2.1 - n; omega, by show 0 + 16 * (gb_cap n (ct_gt nc g lo hi).2.1 - n) ≤ 16 * (gb_cap n (ct_an nc g a b).2.1 - n); omega⟩) hS (fun q _ h => hFc q h) hFc (fun r62 u t H1 locs ht hvm e62 hB hz1 hk1 hS => ?_)
            obtain ⟨n62, ad62, ar62, iv62⟩ := u
            obtain ⟨hP1, hK1, hD1⟩ := hB
            rw [ht] at hP1
            have hK := va_K.moved hvm.symm hK1
            have hP : va_P D vwCl (gW h0 cI n62 ad62 ar62 iv62) H1 := hP1
            have hD : va_D A (gW h0 cI n62 ad62 ar62 iv62) := hD1.weaken (fun k q _ h => hFc q.1 h)
            clear hP1 hK1 hD1 hk1 hz1 hFc ht
            generalize H1 = H at hP hS ⊢
            try dsimp only at e62
            refine W.widen (k := gb_cap n (ct_an nc g a b).2.1 - n) (n := 16 * (gb_cap n (ct_an nc g a b).2.1 - n)) (by omega) (by omega) ?_
            exact W.iret (v := r62) hx hb hr (fun t ht hW => ⟨⟨r62, (n62, ad62, ar62, iv62), rfl, (by rw [hR]; exact e62), by rw [ht]; exact hP, va_K.moved hW.alike hK, hD⟩, hS.F ht⟩) hS.2.2 dX0_andOf_65
        · obtain ⟨v9, hv9⟩ : ∃ v, ct_kn g lo hi = some v := by
            cases h : ct_kn g lo hi with
            | none => exact absurd (by rw [e29, h]; rfl) c37
            | some v => exact ⟨v, rfl⟩
          have hR : ct_an nc g a b = (v9, nc, g) := by
            unfold ct_an
            rw [i4, ct_rd, hv9]
          refine lv_iload hx hb dX0_andOf_40 (lv_at hl 0 rfl) ?_
          refine W.widen (k := gb_cap n (ct_an nc g a b).2.1 - n) (n := 16 * (gb_cap n (ct_an nc g a b).2.1 - n)) (by omega) (by omega) ?_
          exact W.iret (v := r29) hx hb hr (fun t ht hW => ⟨⟨r29, (n, ad, ar, iv), rfl, ⟨by rw [hR, e29, hv9]; rfl, by rw [hR]; exact (gb_cap_le hle).symm, by rw [hR]; exact hok⟩, by rw [ht]; exact hP, va_K.moved hW.alike hK, hD⟩, hS.F ht⟩) hS.2.2 dX0_andOf_42
  have hfu := ct_rd_fuel hwf nc (max a b / 2 + 1) (min a b) (max a b) (by omega) (by omega) (by omega)
  exact hloop (max a b / 2 + 1) (min a b) (max a b) 0 ls (by omega) ⟨by omega, hmab, by omega, hfu⟩ (by rw [nI_0, ← e2, ← e8]; exact hl)
end
section
set_option maxHeartbeats 4000000 in
set_option maxRecDepth 100000 in
/-- orOf -/
theorem c_orOf (l : Launch) (D : va_G) (h0 : Nat) (cI : ClassId) (n : Nat) (ad : Nat → Nat) (ar : Nat → Nat → Int32) (iv : Nat → Int32) (sz : Nat) (x : Int32) (y : Int32) (a b : Nat) (nc ic : Nat) (g : Ct) (bv : Nat → Bool) (hx0 : x = nI a) (hy0 : y = nI b) (ha2 : a < 2 * nc) (hb2 : b < 2 * nc) (hok : gb_ok n nc ic g bv ar iv) (hmx : nc < 20000) : Met l yX0_orOf wsX0_orOf ({ frames := 6, cells := gb_cap n (ct_or nc g a b).2.1 - n, slots := 16 * (gb_cap n (ct_or nc g a b).2.1 - n), locals := 157 }) (mP D (gW h0 cI n ad ar iv) [(cI, .int)] sz [.ref h0, .int x, .int y]) (va_Qi (fun (r : Int32) (u : GS) => gb_po n ic bv (ct_or nc g a b) r u) (gb_at D cI (va_A (gW h0 cI n ad ar iv) sz) h0) (va_A (gW h0 cI n ad ar iv) sz)) (gb_cap n (ct_or nc g a b).2.1 - n) (16 * (gb_cap n (ct_or nc g a b).2.1 - n)) (va_A (gW h0 cI n ad ar iv) sz) := by
  refine Met.ofW (cc := cX0_orOf) (maxL := 3) (ret := (some .int)) (by decide) rfl ?_
  intro p e s m args below meth c s₁ B hml hv
  obtain ⟨rfl, hsz, hP, hK, hD0⟩ := hv
  have hx := B.exec
  have hb := B.bytes
  have hr := B.returns
  have hts := atoms_spec (ws := wsX0_orOf) B.pre
  have hown : s.vm.findClass RX0 = some m.cls := findClass_of_methodNamed B.named
  have hlocks := B.notSynchronized
  have hl := lv_entry ([.ref h0, .int x, .int y]) (n := 3) (Nat.le_of_ble_eq_true rfl)
  rw [lg_entry_eq]
  generalize (lg_sl ([.ref h0, .int x, .int y]) ++ List.replicate (3 - (lg_sl ([.ref h0, .int x, .int y])).length) Slot.unset).toArray = ls at hl ⊢
  have hl : lv_has ls 3 [(0, .ref h0), (1, .int x), (2, .int y)] := hl
  subst hsz
  have hD := hD0.self (sz := s.heap.size)
  generalize hAe : va_A (gW h0 cI n ad ar iv) s.heap.size = A at hD ⊢
  have hA : ∀ q : Nat, s.heap.size ≤ q → A q := fun q h => by rw [← hAe]; exact Or.inr h
  have hS : va_S A s.heap s.heap [] := va_S.rf
  have hwf := hok.wf
  have hle := hok.ct.2.1
  have h16 := hok.n16
  have bd1 : ct_bd nc 1 (ct_an nc g (ct_nt a) (ct_nt b)) := ct_an_b hwf (ct_nt_lt ha2) (ct_nt_lt hb2)
  have bl1 : (ct_an nc g (ct_nt a) (ct_nt b)).1 < 2 * (ct_an nc g (ct_nt a) (ct_nt b)).2.1 := bd1.2.1
  have bg1 : nc ≤ (ct_an nc g (ct_nt a) (ct_nt b)).2.1 := bd1.2.2.1
  have bh1 : (ct_an nc g (ct_nt a) (ct_nt b)).2.1 ≤ nc + 1 := bd1.2.2.2
  have ck1 : n ≤ gb_cap n (ct_an nc g (ct_nt a) (ct_nt b)).2.1 := (gb_cap_n n _).1
  have hcap : gb_cap n (ct_or nc g a b).2.1 = gb_cap n (ct_an nc g (ct_nt a) (ct_nt b)).2.1 := rfl
  refine lv_aload_n hx hb dX0_orOf_0 rfl (lv_at hl 0 rfl) ?_
  refine lv_iload_n hx hb dX0_orOf_1 rfl (lv_at hl 1 rfl) ?_
  refine vp_callSi (W.runS (As := [.int x]) (rest := [.ref h0]) ⟨hx, hb, hml, hown, hts⟩ (c_not l x) (va_cwS 1 hts gX0_orOf_X0_not rfl rfl rfl (by decide +kernel) ⟨Nat.le_of_ble_eq_true rfl, Nat.le_of_ble_eq_true rfl⟩) preEq rfl rfl hl.1 rfl (lv_room (Nat.le_of_ble_eq_true rfl)) dX0_orOf_2 ⟨by show _ + _ ≤ gb_cap n (ct_or nc g a b).2.1 - n; omega, by show _ + _ ≤ 16 * (gb_cap n (ct_or nc g a b).2.1 - n); omega⟩) (fun r2 e2 => ?_)
  refine lv_iload_n hx hb dX0_orOf_5 rfl (lv_at hl 2 rfl) ?_
  refine vp_callSi (W.runS (As := [.int y]) (rest := [.int r2, .ref h0]) ⟨hx, hb, hml, hown, hts⟩ (c_not l y) (va_cwS 1 hts gX0_orOf_X0_not rfl rfl rfl (by decide +kernel) ⟨Nat.le_of_ble_eq_true rfl, Nat.le_of_ble_eq_true rfl⟩) preEq rfl rfl hl.1 rfl (lv_room (Nat.le_of_ble_eq_true rfl)) dX0_orOf_6 ⟨by show _ + _ ≤ gb_cap n (ct_or nc g a b).2.1 - n; omega, by show _ + _ ≤ 16 * (gb_cap n (ct_or nc g a b).2.1 - n); omega⟩) (fun r6 e6 => ?_)
  have hFc := va_free (wc := (gW h0 cI n ad ar iv)) hD hS hA [0, 1, 2, 3, 4, 5, 6, 7, 8] rfl
  refine va_calli (va_runV (As := [.int r2, .int r6]) (rest := []) ⟨hx, hb, hml, hown, hts⟩ (c_andOf l D h0 cI n ad ar iv s.heap.size r2 r6 (ct_nt a) (ct_nt b) nc ic g bv (by rw [e2, hx0]; exact ct_nIxor a) (by rw [e6, hy0]; exact ct_nIxor b) (ct_nt_lt ha2) (ct_nt_lt hb2) hok (by omega)) (cwV 2 hts gX0_orOf_X0_andOf rfl rfl rfl (by decide +kernel) ⟨Nat.le_of_ble_eq_true rfl, Nat.le_of_ble_eq_true rfl⟩) (mP_V hK hP hD (va_recv hK hP (ci := 0) (q0 := 0) rfl rfl)) rfl rfl hl.1 rfl (lv_room (Nat.le_of_ble_eq_true rfl)) dX0_orOf_9 ⟨by show _ + _ ≤ gb_cap n (ct_or nc g a b).2.1 - n; omega, by show _ + _ ≤ 16 * (gb_cap n (ct_or nc g a b).2.1 - n); omega⟩) hS (fun q _ h => hFc q h) hFc (fun r9 u t H1 locs ht hvm e9 hB hz1 hk1 hS => ?_)
  obtain ⟨n9, ad9, ar9, iv9⟩ := u
  obtain ⟨hP1, hK1, hD1⟩ := hB
  rw [ht] at hP1
  have hK := va_K.moved hvm.symm hK1
  have hP : va_P D vwCl (gW h0 cI n9 ad9 ar9 iv9) H1 := hP1
  have hD : va_D A (gW h0 cI n9 ad9 ar9 iv9) := hD1.weaken (fun k q _ h => hFc q.1 h)
  clear hP1 hK1 hD1 hk1 hz1 hFc ht
  generalize H1 = H at hP hS ⊢
  try dsimp only at e9
  have en1 : n9 = gb_cap n (ct_an nc g (ct_nt a) (ct_nt b)).2.1 := e9.2.1
  refine vp_callSi (W.runS (As := [.int r9]) (rest := []) ⟨hx, hb, hml, hown, hts⟩ (c_not l r9) (va_cwS 1 hts gX0_orOf_X0_not rfl rfl rfl (by decide +kernel) ⟨Nat.le_of_ble_eq_true rfl, Nat.le_of_ble_eq_true rfl⟩) preEq rfl rfl hl.1 rfl (lv_room (Nat.le_of_ble_eq_true rfl)) dX0_orOf_12 ⟨by show _ + _ ≤ gb_cap n (ct_or nc g a b).2.1 - n; omega, by show _ + _ ≤ 16 * (gb_cap n (ct_or nc g a b).2.1 - n); omega⟩) (fun r12 e12 => ?_)
  refine W.widen (k := gb_cap n (ct_or nc g a b).2.1 - n) (n := 16 * (gb_cap n (ct_or nc g a b).2.1 - n)) (by omega) (by omega) ?_
  exact W.iret (v := r12) hx hb hr (fun t ht hW => ⟨⟨r12, (n9, ad9, ar9, iv9), rfl, ⟨by rw [e12, e9.1]; exact ct_nIxor _, by rw [hcap]; exact en1, e9.2.2⟩, by rw [ht]; exact hP, va_K.moved hW.alike hK, hD⟩, hS.F ht⟩) hS.2.2 dX0_orOf_15
set_option maxHeartbeats 4000000 in
set_option maxRecDepth 100000 in
/-- xorOf -/
theorem c_xorOf (l : Launch) (D : va_G) (h0 : Nat) (cI : ClassId) (n : Nat) (ad : Nat → Nat) (ar : Nat → Nat → Int32) (iv : Nat → Int32) (sz : Nat) (x : Int32) (y : Int32) (a b : Nat) (nc ic : Nat) (g : Ct) (bv : Nat → Bool) (hx0 : x = nI a) (hy0 : y = nI b) (ha2 : a < 2 * nc) (hb2 : b < 2 * nc) (hok : gb_ok n nc ic g bv ar iv) (hmx : nc + 3 ≤ 20000) : Met l yX0_xorOf wsX0_xorOf ({ frames := 7, cells := gb_cap n (ct_xo nc g a b).2.1 - n, slots := 16 * (gb_cap n (ct_xo nc g a b).2.1 - n), locals := 179 }) (mP D (gW h0 cI n ad ar iv) [(cI, .int)] sz [.ref h0, .int x, .int y]) (va_Qi (fun (r : Int32) (u : GS) => gb_po n ic bv (ct_xo nc g a b) r u) (gb_at D cI (va_A (gW h0 cI n ad ar iv) sz) h0) (va_A (gW h0 cI n ad ar iv) sz)) (gb_cap n (ct_xo nc g a b).2.1 - n) (16 * (gb_cap n (ct_xo nc g a b).2.1 - n)) (va_A (gW h0 cI n ad ar iv) sz) := by
  refine Met.ofW (cc := cX0_xorOf) (maxL := 3) (ret := (some .int)) (by decide) rfl ?_
  intro p e s m args below meth c s₁ B hml hv
  obtain ⟨rfl, hsz, hP, hK, hD0⟩ := hv
  have hx := B.exec
  have hb := B.bytes
  have hr := B.returns
  have hts := atoms_spec (ws := wsX0_xorOf) B.pre
  have hown : s.vm.findClass RX0 = some m.cls := findClass_of_methodNamed B.named
  have hlocks := B.notSynchronized
  have hl := lv_entry ([.ref h0, .int x, .int y]) (n := 3) (Nat.le_of_ble_eq_true rfl)
  rw [lg_entry_eq]
  generalize (lg_sl ([.ref h0, .int x, .int y]) ++ List.replicate (3 - (lg_sl ([.ref h0, .int x, .int y])).length) Slot.unset).toArray = ls at hl ⊢
  have hl : lv_has ls 3 [(0, .ref h0), (1, .int x), (2, .int y)] := hl
  subst hsz
  have hD := hD0.self (sz := s.heap.size)
  generalize hAe : va_A (gW h0 cI n ad ar iv) s.heap.size = A at hD ⊢
  have hA : ∀ q : Nat, s.heap.size ≤ q → A q := fun q h => by rw [← hAe]; exact Or.inr h
  have hS : va_S A s.heap s.heap [] := va_S.rf
  have hwf := hok.wf
  have hle := hok.ct.2.1
  have h16 := hok.n16
  have bd1 : ct_bd nc 1 (ct_an nc g a (ct_nt b)) := ct_an_b hwf ha2 (ct_nt_lt hb2)
  have bl1 : (ct_an nc g a (ct_nt b)).1 < 2 * (ct_an nc g a (ct_nt b)).2.1 := bd1.2.1
  have bg1 : nc ≤ (ct_an nc g a (ct_nt b)).2.1 := bd1.2.2.1
  have bh1 : (ct_an nc g a (ct_nt b)).2.1 ≤ nc + 1 := bd1.2.2.2
  have ck1 : n ≤ gb_cap n (ct_an nc g a (ct_nt b)).2.1 := (gb_cap_n n _).1
  have bd2 : ct_bd (ct_an nc g a (ct_nt b)).2.1 1 (ct_an (ct_an nc g a (ct_nt b)).2.1 (ct_an nc g a (ct_nt b)).2.2 (ct_nt a) b) := ct_an_b bd1.1 (ct_nt_lt (by omega)) (by omega)
  have bl2 : (ct_an (ct_an nc g a (ct_nt b)).2.1 (ct_an nc g a (ct_nt b)).2.2 (ct_nt a) b).1 < 2 * (ct_an (ct_an nc g a (ct_nt b)).2.1 (ct_an nc g a (ct_nt b)).2.2 (ct_nt a) b).2.1 := bd2.2.1
  have bg2 : (ct_an nc g a (ct_nt b)).2.1 ≤ (ct_an (ct_an nc g a (ct_nt b)).2.1 (ct_an nc g a (ct_nt b)).2.2 (ct_nt a) b).2.1 := bd2.2.2.1
  have bh2 : (ct_an (ct_an nc g a (ct_nt b)).2.1 (ct_an nc g a (ct_nt b)).2.2 (ct_nt a) b).2.1 ≤ (ct_an nc g a (ct_nt b)).2.1 + 1 := bd2.2.2.2
  have ck2 : n ≤ gb_cap n (ct_an (ct_an nc g a (ct_nt b)).2.1 (ct_an nc g a (ct_nt b)).2.2 (ct_nt a) b).2.1 := (gb_cap_n n _).1
  have cm2 : gb_cap n (ct_an nc g a (ct_nt b)).2.1 ≤ gb_cap n (ct_an (ct_an nc g a (ct_nt b)).2.1 (ct_an nc g a (ct_nt b)).2.2 (ct_nt a) b).2.1 := gb_cap_mono bd2.2.2.1
  have cx2 : gb_cap (gb_cap n (ct_an nc g a (ct_nt b)).2.1) (ct_an (ct_an nc g a (ct_nt b)).2.1 (ct_an nc g a (ct_nt b)).2.2 (ct_nt a) b).2.1 = gb_cap n (ct_an (ct_an nc g a (ct_nt b)).2.1 (ct_an nc g a (ct_nt b)).2.2 (ct_nt a) b).2.1 := gb_cap_cap bd2.2.2.1 (by omega)
  have bd3 : ct_bd (ct_an (ct_an nc g a (ct_nt b)).2.1 (ct_an nc g a (ct_nt b)).2.2 (ct_nt a) b).2.1 1 (ct_or (ct_an (ct_an nc g a (ct_nt b)).2.1 (ct_an nc g a (ct_nt b)).2.2 (ct_nt a) b).2.1 (ct_an (ct_an nc g a (ct_nt b)).2.1 (ct_an nc g a (ct_nt b)).2.2 (ct_nt a) b).2.2 (ct_an nc g a (ct_nt b)).1 (ct_an (ct_an nc g a (ct_nt b)).2.1 (ct_an nc g a (ct_nt b)).2.2 (ct_nt a) b).1) := ct_or_b bd2.1 (by omega) (by omega)
  have bl3 : (ct_or (ct_an (ct_an nc g a (ct_nt b)).2.1 (ct_an nc g a (ct_nt b)).2.2 (ct_nt a) b).2.1 (ct_an (ct_an nc g a (ct_nt b)).2.1 (ct_an nc g a (ct_nt b)).2.2 (ct_nt a) b).2.2 (ct_an nc g a (ct_nt b)).1 (ct_an (ct_an nc g a (ct_nt b)).2.1 (ct_an nc g a (ct_nt b)).2.2 (ct_nt a) b).1).1 < 2 * (ct_or (ct_an (ct_an nc g a (ct_nt b)).2.1 (ct_an nc g a (ct_nt b)).2.2 (ct_nt a) b).2.1 (ct_an (ct_an nc g a (ct_nt b)).2.1 (ct_an nc g a (ct_nt b)).2.2 (ct_nt a) b).2.2 (ct_an nc g a (ct_nt b)).1 (ct_an (ct_an nc g a (ct_nt b)).2.1 (ct_an nc g a (ct_nt b)).2.2 (ct_nt a) b).1).2.1 := bd3.2.1
  have bg3 : (ct_an (ct_an nc g a (ct_nt b)).2.1 (ct_an nc g a (ct_nt b)).2.2 (ct_nt a) b).2.1 ≤ (ct_or (ct_an (ct_an nc g a (ct_nt b)).2.1 (ct_an nc g a (ct_nt b)).2.2 (ct_nt a) b).2.1 (ct_an (ct_an nc g a (ct_nt b)).2.1 (ct_an nc g a (ct_nt b)).2.2 (ct_nt a) b).2.2 (ct_an nc g a (ct_nt b)).1 (ct_an (ct_an nc g a (ct_nt b)).2.1 (ct_an nc g a (ct_nt b)).2.2 (ct_nt a) b).1).2.1 := bd3.2.2.1
  have bh3 : (ct_or (ct_an (ct_an nc g a (ct_nt b)).2.1 (ct_an nc g a (ct_nt b)).2.2 (ct_nt a) b).2.1 (ct_an (ct_an nc g a (ct_nt b)).2.1 (ct_an nc g a (ct_nt b)).2.2 (ct_nt a) b).2.2 (ct_an nc g a (ct_nt b)).1 (ct_an (ct_an nc g a (ct_nt b)).2.1 (ct_an nc g a (ct_nt b)).2.2 (ct_nt a) b).1).2.1 ≤ (ct_an (ct_an nc g a (ct_nt b)).2.1 (ct_an nc g a (ct_nt b)).2.2 (ct_nt a) b).2.1 + 1 := bd3.2.2.2
  have ck3 : n ≤ gb_cap n (ct_or (ct_an (ct_an nc g a (ct_nt b)).2.1 (ct_an nc g a (ct_nt b)).2.2 (ct_nt a) b).2.1 (ct_an (ct_an nc g a (ct_nt b)).2.1 (ct_an nc g a (ct_nt b)).2.2 (ct_nt a) b).2.2 (ct_an nc g a (ct_nt b)).1 (ct_an (ct_an nc g a (ct_nt b)).2.1 (ct_an nc g a (ct_nt b)).2.2 (ct_nt a) b).1).2.1 := (gb_cap_n n _).1
  have cm3 : gb_cap n (ct_an (ct_an nc g a (ct_nt b)).2.1 (ct_an nc g a (ct_nt b)).2.2 (ct_nt a) b).2.1 ≤ gb_cap n (ct_or (ct_an (ct_an nc g a (ct_nt b)).2.1 (ct_an nc g a (ct_nt b)).2.2 (ct_nt a) b).2.1 (ct_an (ct_an nc g a (ct_nt b)).2.1 (ct_an nc g a (ct_nt b)).2.2 (ct_nt a) b).2.2 (ct_an nc g a (ct_nt b)).1 (ct_an (ct_an nc g a (ct_nt b)).2.1 (ct_an nc g a (ct_nt b)).2.2 (ct_nt a) b).1).2.1 := gb_cap_mono bd3.2.2.1
  have cx3 : gb_cap (gb_cap n (ct_an (ct_an nc g a (ct_nt b)).2.1 (ct_an nc g a (ct_nt b)).2.2 (ct_nt a) b).2.1) (ct_or (ct_an (ct_an nc g a (ct_nt b)).2.1 (ct_an nc g a (ct_nt b)).2.2 (ct_nt a) b).2.1 (ct_an (ct_an nc g a (ct_nt b)).2.1 (ct_an nc g a (ct_nt b)).2.2 (ct_nt a) b).2.2 (ct_an nc g a (ct_nt b)).1 (ct_an (ct_an nc g a (ct_nt b)).2.1 (ct_an nc g a (ct_nt b)).2.2 (ct_nt a) b).1).2.1 = gb_cap n (ct_or (ct_an (ct_an nc g a (ct_nt b)).2.1 (ct_an nc g a (ct_nt b)).2.2 (ct_nt a) b).2.1 (ct_an (ct_an nc g a (ct_nt b)).2.1 (ct_an nc g a (ct_nt b)).2.2 (ct_nt a) b).2.2 (ct_an nc g a (ct_nt b)).1 (ct_an (ct_an nc g a (ct_nt b)).2.1 (ct_an nc g a (ct_nt b)).2.2 (ct_nt a) b).1).2.1 := gb_cap_cap bd3.2.2.1 (by omega)
  have hcap : gb_cap n (ct_xo nc g a b).2.1 = gb_cap n (ct_or (ct_an (ct_an nc g a (ct_nt b)).2.1 (ct_an nc g a (ct_nt b)).2.2 (ct_nt a) b).2.1 (ct_an (ct_an nc g a (ct_nt b)).2.1 (ct_an nc g a (ct_nt b)).2.2 (ct_nt a) b).2.2 (ct_an nc g a (ct_nt b)).1 (ct_an (ct_an nc g a (ct_nt b)).2.1 (ct_an nc g a (ct_nt b)).2.2 (ct_nt a) b).1).2.1 := rfl
  refine lv_aload_n hx hb dX0_xorOf_0 rfl (lv_at hl 0 rfl) ?_
  refine lv_aload_n hx hb dX0_xorOf_1 rfl (lv_at hl 0 rfl) ?_
  refine lv_iload_n hx hb dX0_xorOf_2 rfl (lv_at hl 1 rfl) ?_
  refine lv_iload_n hx hb dX0_xorOf_3 rfl (lv_at hl 2 rfl) ?_
  refine vp_callSi (W.runS (As := [.int y]) (rest := [.int x, .ref h0, .ref h0]) ⟨hx, hb, hml, hown, hts⟩ (c_not l y) (va_cwS 1 hts gX0_xorOf_X0_not rfl rfl rfl (by decide +kernel) ⟨Nat.le_of_ble_eq_true rfl, Nat.le_of_ble_eq_true rfl⟩) preEq rfl rfl hl.1 rfl (lv_room (Nat.le_of_ble_eq_true rfl)) dX0_xorOf_4 ⟨by show _ + _ ≤ gb_cap n (ct_xo nc g a b).2.1 - n; omega, by show _ + _ ≤ 16 * (gb_cap n (ct_xo nc g a b).2.1 - n); omega⟩) (fun r4 e4 => ?_)
  have hFc := va_free (wc := (gW h0 cI n ad ar iv)) hD hS hA [0, 1, 2, 3, 4, 5, 6, 7, 8] rfl
  refine va_calli (va_runV (As := [.int x, .int r4]) (rest := [.ref h0]) ⟨hx, hb, hml, hown, hts⟩ (c_andOf l D h0 cI n ad ar iv s.heap.size x r4 a (ct_nt b) nc ic g bv hx0 (by rw [e4, hy0]; exact ct_nIxor b) ha2 (ct_nt_lt hb2) hok (by omega)) (cwV 2 hts gX0_xorOf_X0_andOf rfl rfl rfl (by decide +kernel) ⟨Nat.le_of_ble_eq_true rfl, Nat.le_of_ble_eq_true rfl⟩) (mP_V hK hP hD (va_recv hK hP (ci := 0) (q0 := 0) rfl rfl)) rfl rfl hl.1 rfl (lv_room (Nat.le_of_ble_eq_true rfl)) dX0_xorOf_7 ⟨by show _ + _ ≤ gb_cap n (ct_xo nc g a b).2.1 - n; omega, by show _ + _ ≤ 16 * (gb_cap n (ct_xo nc g a b).2.1 - n); omega⟩) hS (fun q _ h => hFc q h) hFc (fun r7 u t H1 locs ht hvm e7 hB hz1 hk1 hS => ?_)
  obtain ⟨n7, ad7, ar7, iv7⟩ := u
  obtain ⟨hP1, hK1, hD1⟩ := hB
  rw [ht] at hP1
  have hK := va_K.moved hvm.symm hK1
  have hP : va_P D vwCl (gW h0 cI n7 ad7 ar7 iv7) H1 := hP1
  have hD : va_D A (gW h0 cI n7 ad7 ar7 iv7) := hD1.weaken (fun k q _ h => hFc q.1 h)
  clear hP1 hK1 hD1 hk1 hz1 hFc ht
  generalize H1 = H at hP hS ⊢
  try dsimp only at e7
  have en1 : n7 = gb_cap n (ct_an nc g a (ct_nt b)).2.1 := e7.2.1
  refine lv_aload_n hx hb dX0_xorOf_10 rfl (lv_at hl 0 rfl) ?_
  refine lv_iload_n hx hb dX0_xorOf_11 rfl (lv_at hl 1 rfl) ?_
  refine vp_callSi (W.runS (As := [.int x]) (rest := [.ref h0, .int r7, .ref h0]) ⟨hx, hb, hml, hown, hts⟩ (c_not l x) (va_cwS 1 hts gX0_xorOf_X0_not rfl rfl rfl (by decide +kernel) ⟨Nat.le_of_ble_eq_true rfl, Nat.le_of_ble_eq_true rfl⟩) preEq rfl rfl hl.1 rfl (lv_room (Nat.le_of_ble_eq_true rfl)) dX0_xorOf_12 ⟨by show _ + _ ≤ gb_cap n (ct_xo nc g a b).2.1 - n; omega, by show _ + _ ≤ 16 * (gb_cap n (ct_xo nc g a b).2.1 - n); omega⟩) (fun r12 e12 => ?_)
  refine lv_iload_n hx hb dX0_xorOf_15 rfl (lv_at hl 2 rfl) ?_
  have cy2 : gb_cap n7 (ct_an (ct_an nc g a (ct_nt b)).2.1 (ct_an nc g a (ct_nt b)).2.2 (ct_nt a) b).2.1 = gb_cap n (ct_an (ct_an nc g a (ct_nt b)).2.1 (ct_an nc g a (ct_nt b)).2.2 (ct_nt a) b).2.1 := by rw [en1]; exact cx2
  have hFc := va_free (wc := (gW h0 cI n7 ad7 ar7 iv7)) hD hS hA [0, 1, 2, 3, 4, 5, 6, 7, 8] rfl
  refine va_calli (va_runV (As := [.int r12, .int y]) (rest := [.int r7, .ref h0]) ⟨hx, hb, hml, hown, hts⟩ (c_andOf l D h0 cI n7 ad7 ar7 iv7 H.size r12 y (ct_nt a) b (ct_an nc g a (ct_nt b)).2.1 ic (ct_an nc g a (ct_nt b)).2.2 bv (by rw [e12, hx0]; exact ct_nIxor a) hy0 (ct_nt_lt (by omega)) (by omega) e7.2.2 (by omega)) (cwV 2 hts gX0_xorOf_X0_andOf rfl rfl rfl (by decide +kernel) ⟨Nat.le_of_ble_eq_true rfl, Nat.le_of_ble_eq_true rfl⟩) (mP_V hK hP hD (va_recv hK hP (ci := 0) (q0 := 0) rfl rfl)) rfl rfl hl.1 rfl (lv_room (Nat.le_of_ble_eq_true rfl)) dX0_xorOf_16 ⟨by show _ + _ ≤ gb_cap n (ct_xo nc g a b).2.1 - n; omega, by show _ + _ ≤ 16 * (gb_cap n (ct_xo nc g a b).2.1 - n); omega⟩) hS (fun q _ h => hFc q h) hFc (fun r16 u t H1 locs ht hvm e16 hB hz1 hk1 hS => ?_)
  obtain ⟨n16, ad16, ar16, iv16⟩ := u
  obtain ⟨hP1, hK1, hD1⟩ := hB
  rw [ht] at hP1
  have hK := va_K.moved hvm.symm hK1
  have hP : va_P D vwCl (gW h0 cI n16 ad16 ar16 iv16) H1 := hP1
  have hD : va_D A (gW h0 cI n16 ad16 ar16 iv16) := hD1.weaken (fun k q _ h => hFc q.1 h)
  clear hP1 hK1 hD1 hk1 hz1 hFc ht
  generalize H1 = H at hP hS ⊢
  try dsimp only at e16
  have en2 : n16 = gb_cap n (ct_an (ct_an nc g a (ct_nt b)).2.1 (ct_an nc g a (ct_nt b)).2.2 (ct_nt a) b).2.1 := e16.2.1.trans cy2
  have cy3 : gb_cap n16 (ct_or (ct_an (ct_an nc g a (ct_nt b)).2.1 (ct_an nc g a (ct_nt b)).2.2 (ct_nt a) b).2.1 (ct_an (ct_an nc g a (ct_nt b)).2.1 (ct_an nc g a (ct_nt b)).2.2 (ct_nt a) b).2.2 (ct_an nc g a (ct_nt b)).1 (ct_an (ct_an nc g a (ct_nt b)).2.1 (ct_an nc g a (ct_nt b)).2.2 (ct_nt a) b).1).2.1 = gb_cap n (ct_or (ct_an (ct_an nc g a (ct_nt b)).2.1 (ct_an nc g a (ct_nt b)).2.2 (ct_nt a) b).2.1 (ct_an (ct_an nc g a (ct_nt b)).2.1 (ct_an nc g a (ct_nt b)).2.2 (ct_nt a) b).2.2 (ct_an nc g a (ct_nt b)).1 (ct_an (ct_an nc g a (ct_nt b)).2.1 (ct_an nc g a (ct_nt b)).2.2 (ct_nt a) b).1).2.1 := by rw [en2]; exact cx3
  have hFc := va_free (wc := (gW h0 cI n16 ad16 ar16 iv16)) hD hS hA [0, 1, 2, 3, 4, 5, 6, 7, 8] rfl
  refine va_calli (va_runV (As := [.int r7, .int r16]) (rest := []) ⟨hx, hb, hml, hown, hts⟩ (c_orOf l D h0 cI n16 ad16 ar16 iv16 H.size r7 r16 (ct_an nc g a (ct_nt b)).1 (ct_an (ct_an nc g a (ct_nt b)).2.1 (ct_an nc g a (ct_nt b)).2.2 (ct_nt a) b).1 (ct_an (ct_an nc g a (ct_nt b)).2.1 (ct_an nc g a (ct_nt b)).2.2 (ct_nt a) b).2.1 ic (ct_an (ct_an nc g a (ct_nt b)).2.1 (ct_an nc g a (ct_nt b)).2.2 (ct_nt a) b).2.2 bv e7.1 e16.1 (by omega) (by omega) e16.2.2 (by omega)) (cwV 2 hts gX0_xorOf_X0_orOf rfl rfl rfl (by decide +kernel) ⟨Nat.le_of_ble_eq_true rfl, Nat.le_of_ble_eq_true rfl⟩) (mP_V hK hP hD (va_recv hK hP (ci := 0) (q0 := 0) rfl rfl)) rfl rfl hl.1 rfl (lv_room (Nat.le_of_ble_eq_true rfl)) dX0_xorOf_19 ⟨by show _ + _ ≤ gb_cap n (ct_xo nc g a b).2.1 - n; omega, by show _ + _ ≤ 16 * (gb_cap n (ct_xo nc g a b).2.1 - n); omega⟩) hS (fun q _ h => hFc q h) hFc (fun r19 u t H1 locs ht hvm e19 hB hz1 hk1 hS => ?_)
  obtain ⟨n19, ad19, ar19, iv19⟩ := u
  obtain ⟨hP1, hK1, hD1⟩ := hB
  rw [ht] at hP1
  have hK := va_K.moved hvm.symm hK1
  have hP : va_P D vwCl (gW h0 cI n19 ad19 ar19 iv19) H1 := hP1
  have hD : va_D A (gW h0 cI n19 ad19 ar19 iv19) := hD1.weaken (fun k q _ h => hFc q.1 h)
  clear hP1 hK1 hD1 hk1 hz1 hFc ht
  generalize H1 = H at hP hS ⊢
  try dsimp only at e19
  have en3 : n19 = gb_cap n (ct_or (ct_an (ct_an nc g a (ct_nt b)).2.1 (ct_an nc g a (ct_nt b)).2.2 (ct_nt a) b).2.1 (ct_an (ct_an nc g a (ct_nt b)).2.1 (ct_an nc g a (ct_nt b)).2.2 (ct_nt a) b).2.2 (ct_an nc g a (ct_nt b)).1 (ct_an (ct_an nc g a (ct_nt b)).2.1 (ct_an nc g a (ct_nt b)).2.2 (ct_nt a) b).1).2.1 := e19.2.1.trans cy3
  refine W.widen (k := gb_cap n (ct_xo nc g a b).2.1 - n) (n := 16 * (gb_cap n (ct_xo nc g a b).2.1 - n)) (by omega) (by omega) ?_
  exact W.iret (v := r19) hx hb hr (fun t ht hW => ⟨⟨r19, (n19, ad19, ar19, iv19), rfl, ⟨e19.1, by rw [hcap]; exact en3, e19.2.2⟩, by rw [ht]; exact hP, va_K.moved hW.alike hK, hD⟩, hS.F ht⟩) hS.2.2 dX0_xorOf_22
set_option maxHeartbeats 4000000 in
set_option maxRecDepth 100000 in
/-- ifOf -/
theorem c_ifOf (l : Launch) (D : va_G) (h0 : Nat) (cI : ClassId) (n : Nat) (ad : Nat → Nat) (ar : Nat → Nat → Int32) (iv : Nat → Int32) (sz : Nat) (x : Int32) (y : Int32) (z : Int32) (a b d9 : Nat) (nc ic : Nat) (g : Ct) (bv : Nat → Bool) (hx0 : x = nI a) (hy0 : y = nI b) (hz0 : z = nI d9) (ha2 : a < 2 * nc) (hb2 : b < 2 * nc) (hc2 : d9 < 2 * nc) (hok : gb_ok n nc ic g bv ar iv) (hmx : nc + 3 ≤ 20000) : Met l yX0_ifOf wsX0_ifOf ({ frames := 7, cells := gb_cap n (ct_ie nc g a b d9).2.1 - n, slots := 16 * (gb_cap n (ct_ie nc g a b d9).2.1 - n), locals := 179 }) (mP D (gW h0 cI n ad ar iv) [(cI, .int)] sz [.ref h0, .int x, .int y, .int z]) (va_Qi (fun (r : Int32) (u : GS) => gb_po n ic bv (ct_ie nc g a b d9) r u) (gb_at D cI (va_A (gW h0 cI n ad ar iv) sz) h0) (va_A (gW h0 cI n ad ar iv) sz)) (gb_cap n (ct_ie nc g a b d9).2.1 - n) (16 * (gb_cap n (ct_ie nc g a b d9).2.1 - n)) (va_A (gW h0 cI n ad ar iv) sz) := by
  refine Met.ofW (cc := cX0_ifOf) (maxL := 4) (ret := (some .int)) (by decide) rfl ?_
  intro p e s m args below meth c s₁ B hml hv
  obtain ⟨rfl, hsz, hP, hK, hD0⟩ := hv
  have hx := B.exec
  have hb := B.bytes
  have hr := B.returns
  have hts := atoms_spec (ws := wsX0_ifOf) B.pre
  have hown : s.vm.findClass RX0 = some m.cls := findClass_of_methodNamed B.named
  have hlocks := B.notSynchronized
  have hl := lv_entry ([.ref h0, .int x, .int y, .int z]) (n := 4) (Nat.le_of_ble_eq_true rfl)
  rw [lg_entry_eq]
  generalize (lg_sl ([.ref h0, .int x, .int y, .int z]) ++ List.replicate (4 - (lg_sl ([.ref h0, .int x, .int y, .int z])).length) Slot.unset).toArray = ls at hl ⊢
  have hl : lv_has ls 4 [(0, .ref h0), (1, .int x), (2, .int y), (3, .int z)] := hl
  subst hsz
  have hD := hD0.self (sz := s.heap.size)
  generalize hAe : va_A (gW h0 cI n ad ar iv) s.heap.size = A at hD ⊢
  have hA : ∀ q : Nat, s.heap.size ≤ q → A q := fun q h => by rw [← hAe]; exact Or.inr h
  have hS : va_S A s.heap s.heap [] := va_S.rf
  have hwf := hok.wf
  have hle := hok.ct.2.1
  have h16 := hok.n16
  have bd1 : ct_bd nc 1 (ct_an nc g a b) := ct_an_b hwf ha2 hb2
  have bl1 : (ct_an nc g a b).1 < 2 * (ct_an nc g a b).2.1 := bd1.2.1
  have bg1 : nc ≤ (ct_an nc g a b).2.1 := bd1.2.2.1
  have bh1 : (ct_an nc g a b).2.1 ≤ nc + 1 := bd1.2.2.2
  have ck1 : n ≤ gb_cap n (ct_an nc g a b).2.1 := (gb_cap_n n _).1
  have bd2 : ct_bd (ct_an nc g a b).2.1 1 (ct_an (ct_an nc g a b).2.1 (ct_an nc g a b).2.2 (ct_nt a) d9) := ct_an_b bd1.1 (ct_nt_lt (by omega)) (by omega)
  have bl2 : (ct_an (ct_an nc g a b).2.1 (ct_an nc g a b).2.2 (ct_nt a) d9).1 < 2 * (ct_an (ct_an nc g a b).2.1 (ct_an nc g a b).2.2 (ct_nt a) d9).2.1 := bd2.2.1
  have bg2 : (ct_an nc g a b).2.1 ≤ (ct_an (ct_an nc g a b).2.1 (ct_an nc g a b).2.2 (ct_nt a) d9).2.1 := bd2.2.2.1
  have bh2 : (ct_an (ct_an nc g a b).2.1 (ct_an nc g a b).2.2 (ct_nt a) d9).2.1 ≤ (ct_an nc g a b).2.1 + 1 := bd2.2.2.2
  have ck2 : n ≤ gb_cap n (ct_an (ct_an nc g a b).2.1 (ct_an nc g a b).2.2 (ct_nt a) d9).2.1 := (gb_cap_n n _).1
  have cm2 : gb_cap n (ct_an nc g a b).2.1 ≤ gb_cap n (ct_an (ct_an nc g a b).2.1 (ct_an nc g a b).2.2 (ct_nt a) d9).2.1 := gb_cap_mono bd2.2.2.1
  have cx2 : gb_cap (gb_cap n (ct_an nc g a b).2.1) (ct_an (ct_an nc g a b).2.1 (ct_an nc g a b).2.2 (ct_nt a) d9).2.1 = gb_cap n (ct_an (ct_an nc g a b).2.1 (ct_an nc g a b).2.2 (ct_nt a) d9).2.1 := gb_cap_cap bd2.2.2.1 (by omega)
  have bd3 : ct_bd (ct_an (ct_an nc g a b).2.1 (ct_an nc g a b).2.2 (ct_nt a) d9).2.1 1 (ct_or (ct_an (ct_an nc g a b).2.1 (ct_an nc g a b).2.2 (ct_nt a) d9).2.1 (ct_an (ct_an nc g a b).2.1 (ct_an nc g a b).2.2 (ct_nt a) d9).2.2 (ct_an nc g a b).1 (ct_an (ct_an nc g a b).2.1 (ct_an nc g a b).2.2 (ct_nt a) d9).1) := ct_or_b bd2.1 (by omega) (by omega)
  have bl3 : (ct_or (ct_an (ct_an nc g a b).2.1 (ct_an nc g a b).2.2 (ct_nt a) d9).2.1 (ct_an (ct_an nc g a b).2.1 (ct_an nc g a b).2.2 (ct_nt a) d9).2.2 (ct_an nc g a b).1 (ct_an (ct_an nc g a b).2.1 (ct_an nc g a b).2.2 (ct_nt a) d9).1).1 < 2 * (ct_or (ct_an (ct_an nc g a b).2.1 (ct_an nc g a b).2.2 (ct_nt a) d9).2.1 (ct_an (ct_an nc g a b).2.1 (ct_an nc g a b).2.2 (ct_nt a) d9).2.2 (ct_an nc g a b).1 (ct_an (ct_an nc g a b).2.1 (ct_an nc g a b).2.2 (ct_nt a) d9).1).2.1 := bd3.2.1
  have bg3 : (ct_an (ct_an nc g a b).2.1 (ct_an nc g a b).2.2 (ct_nt a) d9).2.1 ≤ (ct_or (ct_an (ct_an nc g a b).2.1 (ct_an nc g a b).2.2 (ct_nt a) d9).2.1 (ct_an (ct_an nc g a b).2.1 (ct_an nc g a b).2.2 (ct_nt a) d9).2.2 (ct_an nc g a b).1 (ct_an (ct_an nc g a b).2.1 (ct_an nc g a b).2.2 (ct_nt a) d9).1).2.1 := bd3.2.2.1
  have bh3 : (ct_or (ct_an (ct_an nc g a b).2.1 (ct_an nc g a b).2.2 (ct_nt a) d9).2.1 (ct_an (ct_an nc g a b).2.1 (ct_an nc g a b).2.2 (ct_nt a) d9).2.2 (ct_an nc g a b).1 (ct_an (ct_an nc g a b).2.1 (ct_an nc g a b).2.2 (ct_nt a) d9).1).2.1 ≤ (ct_an (ct_an nc g a b).2.1 (ct_an nc g a b).2.2 (ct_nt a) d9).2.1 + 1 := bd3.2.2.2
  have ck3 : n ≤ gb_cap n (ct_or (ct_an (ct_an nc g a b).2.1 (ct_an nc g a b).2.2 (ct_nt a) d9).2.1 (ct_an (ct_an nc g a b).2.1 (ct_an nc g a b).2.2 (ct_nt a) d9).2.2 (ct_an nc g a b).1 (ct_an (ct_an nc g a b).2.1 (ct_an nc g a b).2.2 (ct_nt a) d9).1).2.1 := (gb_cap_n n _).1
  have cm3 : gb_cap n (ct_an (ct_an nc g a b).2.1 (ct_an nc g a b).2.2 (ct_nt a) d9).2.1 ≤ gb_cap n (ct_or (ct_an (ct_an nc g a b).2.1 (ct_an nc g a b).2.2 (ct_nt a) d9).2.1 (ct_an (ct_an nc g a b).2.1 (ct_an nc g a b).2.2 (ct_nt a) d9).2.2 (ct_an nc g a b).1 (ct_an (ct_an nc g a b).2.1 (ct_an nc g a b).2.2 (ct_nt a) d9).1).2.1 := gb_cap_mono bd3.2.2.1
  have cx3 : gb_cap (gb_cap n (ct_an (ct_an nc g a b).2.1 (ct_an nc g a b).2.2 (ct_nt a) d9).2.1) (ct_or (ct_an (ct_an nc g a b).2.1 (ct_an nc g a b).2.2 (ct_nt a) d9).2.1 (ct_an (ct_an nc g a b).2.1 (ct_an nc g a b).2.2 (ct_nt a) d9).2.2 (ct_an nc g a b).1 (ct_an (ct_an nc g a b).2.1 (ct_an nc g a b).2.2 (ct_nt a) d9).1).2.1 = gb_cap n (ct_or (ct_an (ct_an nc g a b).2.1 (ct_an nc g a b).2.2 (ct_nt a) d9).2.1 (ct_an (ct_an nc g a b).2.1 (ct_an nc g a b).2.2 (ct_nt a) d9).2.2 (ct_an nc g a b).1 (ct_an (ct_an nc g a b).2.1 (ct_an nc g a b).2.2 (ct_nt a) d9).1).2.1 := gb_cap_cap bd3.2.2.1 (by omega)
  have hcap : gb_cap n (ct_ie nc g a b d9).2.1 = gb_cap n (ct_or (ct_an (ct_an nc g a b).2.1 (ct_an nc g a b).2.2 (ct_nt a) d9).2.1 (ct_an (ct_an nc g a b).2.1 (ct_an nc g a b).2.2 (ct_nt a) d9).2.2 (ct_an nc g a b).1 (ct_an (ct_an nc g a b).2.1 (ct_an nc g a b).2.2 (ct_nt a) d9).1).2.1 := rfl
  refine lv_aload_n hx hb dX0_ifOf_0 rfl (lv_at hl 0 rfl) ?_
  refine lv_aload_n hx hb dX0_ifOf_1 rfl (lv_at hl 0 rfl) ?_
  refine lv_iload_n hx hb dX0_ifOf_2 rfl (lv_at hl 1 rfl) ?_
  refine lv_iload_n hx hb dX0_ifOf_3 rfl (lv_at hl 2 rfl) ?_
  have hFc := va_free (wc := (gW h0 cI n ad ar iv)) hD hS hA [0, 1, 2, 3, 4, 5, 6, 7, 8] rfl
  refine va_calli (va_runV (As := [.int x, .int y]) (rest := [.ref h0]) ⟨hx, hb, hml, hown, hts⟩ (c_andOf l D h0 cI n ad ar iv s.heap.size x y a b nc ic g bv hx0 hy0 ha2 hb2 hok (by omega)) (cwV 2 hts gX0_ifOf_X0_andOf rfl rfl rfl (by decide +kernel) ⟨Nat.le_of_ble_eq_true rfl, Nat.le_of_ble_eq_true rfl⟩) (mP_V hK hP hD (va_recv hK hP (ci := 0) (q0 := 0) rfl rfl)) rfl rfl hl.1 rfl (lv_room (Nat.le_of_ble_eq_true rfl)) dX0_ifOf_4 ⟨by show _ + _ ≤ gb_cap n (ct_ie nc g a b d9).2.1 - n; omega, by show _ + _ ≤ 16 * (gb_cap n (ct_ie nc g a b d9).2.1 - n); omega⟩) hS (fun q _ h => hFc q h) hFc (fun r4 u t H1 locs ht hvm e4 hB hz1 hk1 hS => ?_)
  obtain ⟨n4, ad4, ar4, iv4⟩ := u
  obtain ⟨hP1, hK1, hD1⟩ := hB
  rw [ht] at hP1
  have hK := va_K.moved hvm.symm hK1
  have hP : va_P D vwCl (gW h0 cI n4 ad4 ar4 iv4) H1 := hP1
  have hD : va_D A (gW h0 cI n4 ad4 ar4 iv4) := hD1.weaken (fun k q _ h => hFc q.1 h)
  clear hP1 hK1 hD1 hk1 hz1 hFc ht
  generalize H1 = H at hP hS ⊢
  try dsimp only at e4
  have en1 : n4 = gb_cap n (ct_an nc g a b).2.1 := e4.2.1
  refine lv_aload_n hx hb dX0_ifOf_7 rfl (lv_at hl 0 rfl) ?_
  refine lv_iload_n hx hb dX0_ifOf_8 rfl (lv_at hl 1 rfl) ?_
  refine vp_callSi (W.runS (As := [.int x]) (rest := [.ref h0, .int r4, .ref h0]) ⟨hx, hb, hml, hown, hts⟩ (c_not l x) (va_cwS 1 hts gX0_ifOf_X0_not rfl rfl rfl (by decide +kernel) ⟨Nat.le_of_ble_eq_true rfl, Nat.le_of_ble_eq_true rfl⟩) preEq rfl rfl hl.1 rfl (lv_room (Nat.le_of_ble_eq_true rfl)) dX0_ifOf_9 ⟨by show _ + _ ≤ gb_cap n (ct_ie nc g a b d9).2.1 - n; omega, by show _ + _ ≤ 16 * (gb_cap n (ct_ie nc g a b d9).2.1 - n); omega⟩) (fun r9 e9 => ?_)
  refine lv_iload_n hx hb dX0_ifOf_12 rfl (lv_at hl 3 rfl) ?_
  have cy2 : gb_cap n4 (ct_an (ct_an nc g a b).2.1 (ct_an nc g a b).2.2 (ct_nt a) d9).2.1 = gb_cap n (ct_an (ct_an nc g a b).2.1 (ct_an nc g a b).2.2 (ct_nt a) d9).2.1 := by rw [en1]; exact cx2
  have hFc := va_free (wc := (gW h0 cI n4 ad4 ar4 iv4)) hD hS hA [0, 1, 2, 3, 4, 5, 6, 7, 8] rfl
  refine va_calli (va_runV (As := [.int r9, .int z]) (rest := [.int r4, .ref h0]) ⟨hx, hb, hml, hown, hts⟩ (c_andOf l D h0 cI n4 ad4 ar4 iv4 H.size r9 z (ct_nt a) d9 (ct_an nc g a b).2.1 ic (ct_an nc g a b).2.2 bv (by rw [e9, hx0]; exact ct_nIxor a) hz0 (ct_nt_lt (by omega)) (by omega) e4.2.2 (by omega)) (cwV 2 hts gX0_ifOf_X0_andOf rfl rfl rfl (by decide +kernel) ⟨Nat.le_of_ble_eq_true rfl, Nat.le_of_ble_eq_true rfl⟩) (mP_V hK hP hD (va_recv hK hP (ci := 0) (q0 := 0) rfl rfl)) rfl rfl hl.1 rfl (lv_room (Nat.le_of_ble_eq_true rfl)) dX0_ifOf_13 ⟨by show _ + _ ≤ gb_cap n (ct_ie nc g a b d9).2.1 - n; omega, by show _ + _ ≤ 16 * (gb_cap n (ct_ie nc g a b d9).2.1 - n); omega⟩) hS (fun q _ h => hFc q h) hFc (fun r13 u t H1 locs ht hvm e13 hB hz1 hk1 hS => ?_)
  obtain ⟨n13, ad13, ar13, iv13⟩ := u
  obtain ⟨hP1, hK1, hD1⟩ := hB
  rw [ht] at hP1
  have hK := va_K.moved hvm.symm hK1
  have hP : va_P D vwCl (gW h0 cI n13 ad13 ar13 iv13) H1 := hP1
  have hD : va_D A (gW h0 cI n13 ad13 ar13 iv13) := hD1.weaken (fun k q _ h => hFc q.1 h)
  clear hP1 hK1 hD1 hk1 hz1 hFc ht
  generalize H1 = H at hP hS ⊢
  try dsimp only at e13
  have en2 : n13 = gb_cap n (ct_an (ct_an nc g a b).2.1 (ct_an nc g a b).2.2 (ct_nt a) d9).2.1 := e13.2.1.trans cy2
  have cy3 : gb_cap n13 (ct_or (ct_an (ct_an nc g a b).2.1 (ct_an nc g a b).2.2 (ct_nt a) d9).2.1 (ct_an (ct_an nc g a b).2.1 (ct_an nc g a b).2.2 (ct_nt a) d9).2.2 (ct_an nc g a b).1 (ct_an (ct_an nc g a b).2.1 (ct_an nc g a b).2.2 (ct_nt a) d9).1).2.1 = gb_cap n (ct_or (ct_an (ct_an nc g a b).2.1 (ct_an nc g a b).2.2 (ct_nt a) d9).2.1 (ct_an (ct_an nc g a b).2.1 (ct_an nc g a b).2.2 (ct_nt a) d9).2.2 (ct_an nc g a b).1 (ct_an (ct_an nc g a b).2.1 (ct_an nc g a b).2.2 (ct_nt a) d9).1).2.1 := by rw [en2]; exact cx3
  have hFc := va_free (wc := (gW h0 cI n13 ad13 ar13 iv13)) hD hS hA [0, 1, 2, 3, 4, 5, 6, 7, 8] rfl
  refine va_calli (va_runV (As := [.int r4, .int r13]) (rest := []) ⟨hx, hb, hml, hown, hts⟩ (c_orOf l D h0 cI n13 ad13 ar13 iv13 H.size r4 r13 (ct_an nc g a b).1 (ct_an (ct_an nc g a b).2.1 (ct_an nc g a b).2.2 (ct_nt a) d9).1 (ct_an (ct_an nc g a b).2.1 (ct_an nc g a b).2.2 (ct_nt a) d9).2.1 ic (ct_an (ct_an nc g a b).2.1 (ct_an nc g a b).2.2 (ct_nt a) d9).2.2 bv e4.1 e13.1 (by omega) (by omega) e13.2.2 (by omega)) (cwV 2 hts gX0_ifOf_X0_orOf rfl rfl rfl (by decide +kernel) ⟨Nat.le_of_ble_eq_true rfl, Nat.le_of_ble_eq_true rfl⟩) (mP_V hK hP hD (va_recv hK hP (ci := 0) (q0 := 0) rfl rfl)) rfl rfl hl.1 rfl (lv_room (Nat.le_of_ble_eq_true rfl)) dX0_ifOf_16 ⟨by show _ + _ ≤ gb_cap n (ct_ie nc g a b d9).2.1 - n; omega, by show _ + _ ≤ 16 * (gb_cap n (ct_ie nc g a b d9).2.1 - n); omega⟩) hS (fun q _ h => hFc q h) hFc (fun r16 u t H1 locs ht hvm e16 hB hz1 hk1 hS => ?_)
  obtain ⟨n16, ad16, ar16, iv16⟩ := u
  obtain ⟨hP1, hK1, hD1⟩ := hB
  rw [ht] at hP1
  have hK := va_K.moved hvm.symm hK1
  have hP : va_P D vwCl (gW h0 cI n16 ad16 ar16 iv16) H1 := hP1
  have hD : va_D A (gW h0 cI n16 ad16 ar16 iv16) := hD1.weaken (fun k q _ h => hFc q.1 h)
  clear hP1 hK1 hD1 hk1 hz1 hFc ht
  generalize H1 = H at hP hS ⊢
  try dsimp only at e16
  have en3 : n16 = gb_cap n (ct_or (ct_an (ct_an nc g a b).2.1 (ct_an nc g a b).2.2 (ct_nt a) d9).2.1 (ct_an (ct_an nc g a b).2.1 (ct_an nc g a b).2.2 (ct_nt a) d9).2.2 (ct_an nc g a b).1 (ct_an (ct_an nc g a b).2.1 (ct_an nc g a b).2.2 (ct_nt a) d9).1).2.1 := e16.2.1.trans cy3
  refine W.widen (k := gb_cap n (ct_ie nc g a b d9).2.1 - n) (n := 16 * (gb_cap n (ct_ie nc g a b d9).2.1 - n)) (by omega) (by omega) ?_
  exact W.iret (v := r16) hx hb hr (fun t ht hW => ⟨⟨r16, (n16, ad16, ar16, iv16), rfl, ⟨e16.1, by rw [hcap]; exact en3, e16.2.2⟩, by rw [ht]; exact hP, va_K.moved hW.alike hK, hD⟩, hS.F ht⟩) hS.2.2 dX0_ifOf_19
end
section
set_option maxHeartbeats 4000000 in
set_option maxRecDepth 100000 in
/-- settle -/
theorem c_settle (l : Launch) (D : va_G) (h0 : Nat) (cI : ClassId) (n : Nat) (ad : Nat → Nat) (ar : Nat → Nat → Int32) (iv : Nat → Int32) (sz : Nat) (x : Int32) (top : Nat) (nc ic : Nat) (g : Ct) (bv : Nat → Bool) (hx0 : x = nI top) (htop : top < nc) (hok : gb_ok n nc ic g bv ar iv) : Met l yX0_settle wsX0_settle ({ frames := 1, cells := 0, slots := 0, locals := 21 }) (mP D (gW h0 cI n ad ar iv) [(cI, .int)] sz [.ref h0, .int x]) (va_Qv (fun u : GS => u.1 = n ∧ gb_ok n nc ic g bv u.2.2.1 u.2.2.2 ∧ ∀ i, i ≤ top → u.2.2.1 4 i = ct_b (ct_vl g bv i)) (gb_at D cI (va_A (gW h0 cI n ad ar iv) sz) h0) (va_A (gW h0 cI n ad ar iv) sz)) (0) (0) (va_A (gW h0 cI n ad ar iv) sz) := by
  refine Met.ofW (cc := cX0_settle) (maxL := 3) (ret := none) (by decide) rfl ?_
  intro p e s m args below meth c s₁ B hml hv
  obtain ⟨rfl, hsz, hP, hK, hD0⟩ := hv
  have hx := B.exec
  have hb := B.bytes
  have hr := B.returns
  have hts := atoms_spec (ws := wsX0_settle) B.pre
  have hown : s.vm.findClass RX0 = some m.cls := findClass_of_methodNamed B.named
  have hlocks := B.notSynchronized
  have hl := lv_entry ([.ref h0, .int x]) (n := 3) (Nat.le_of_ble_eq_true rfl)
  rw [lg_entry_eq]
  generalize (lg_sl ([.ref h0, .int x]) ++ List.replicate (3 - (lg_sl ([.ref h0, .int x])).length) Slot.unset).toArray = ls at hl ⊢
  have hl : lv_has ls 3 [(0, .ref h0), (1, .int x)] := hl
  subst hsz
  have hD := hD0.self (sz := s.heap.size)
  generalize hAe : va_A (gW h0 cI n ad ar iv) s.heap.size = A at hD ⊢
  have hA : ∀ q : Nat, s.heap.size ≤ q → A q := fun q h => by rw [← hAe]; exact Or.inr h
  have hS : va_S A s.heap s.heap [] := va_S.rf
  have hnc := hok.nc
  have hct := hok.ct
  have hwf := hok.wf
  have hle := hct.2.1
  have hb9 := hct.2.2.1
  obtain ⟨st, s1, s2, s3, s4⟩ := hok.st
  refine lv_aload_n hx hb dX0_settle_0 rfl (lv_at hl 0 rfl) ?_
  refine va_get (D := D) (ci := 0) (v := .int (iv 2)) (C := RX0) (T := TX0) (N := 11) hx hb hts inX0 hown hK hP 0 rfl rfl 10 (by decide) (hts _ (mG wm_63)) (fun _ h9 => h9) rfl dX0_settle_1 ?_
  refine lv_istore_n (lv' := [(2, .int (iv 2)), (0, .ref h0), (1, .int x)]) hx hb dX0_settle_4 rfl hl (by decide) rfl (fun ls hl => ?_)
  have hloop0 : ∀ (k : Nat) (q : Nat) (a1 : Nat → Nat → Int32) (H : Heap) (locs : List Loc) (ls : Array Slot), top + 1 - q < k → (st ≤ q ∧ (q ≤ top + 1 ∨ q = st) ∧ gb_ok n nc ic g bv a1 iv ∧ ∀ i, i < q → a1 4 i = ct_b (ct_vl g bv i)) → va_P D vwCl (gW h0 cI n ad a1 iv) H → va_D A (gW h0 cI n ad a1 iv) → va_S A s.heap H locs → lv_has ls 3 [(2, .int (nI q)), (0, .ref h0), (1, .int x)] → W p l e (headSpec wsX0_settle ({ frames := 1, cells := 0, slots := 0, locals := 21 })).room s m ([.ref h0, .int x] : List Value).toArray below meth c H locs (0) (0) (MQ below (va_Qv (fun u : GS => u.1 = n ∧ gb_ok n nc ic g bv u.2.2.1 u.2.2.2 ∧ ∀ i, i ≤ top → u.2.2.1 4 i = ct_b (ct_vl g bv i)) (gb_at D cI A h0) A) ([.ref h0, .int x] : List Value).toArray s (0) (0) A) (F0 m 5 ls []) := by
    intro k
    induction k with
    | zero => intro q a1 H locs ls h; omega
    | succ k ih =>
      intro q a1 H locs ls hqk hinv hP hD hS hl
      obtain ⟨i1, i2, i3, i4⟩ := hinv
      have hct1 := i3.ct
      refine lv_iload_n hx hb dX0_settle_5 rfl (lv_at hl 0 rfl) ?_
      refine lv_iload_n hx hb dX0_settle_6 rfl (lv_at hl 2 rfl) ?_
      refine lv_icmp_gt (tgt := 51) hx hb dX0_settle_7 (by decide) (fun c7 => ?_) (fun c7 => ?_)
      · have c7 : top < q := by
          rw [hx0] at c7
          exact (nI_ltI (by omega) (by omega)).mp c7
        refine lv_aload_n hx hb dX0_settle_51 rfl (lv_at hl 1 rfl) ?_
        refine lv_aload_n hx hb dX0_settle_52 rfl (lv_at hl 1 rfl) ?_
        refine va_get (D := D) (ci := 0) (v := .int (iv 2)) (C := RX0) (T := TX0) (N := 11) hx hb hts inX0 hown hK hP 0 rfl rfl 10 (by decide) (hts _ (mG wm_63)) (fun _ h9 => h9) rfl dX0_settle_53 ?_
        refine lv_iload_n hx hb dX0_settle_56 rfl (lv_at hl 2 rfl) ?_
        refine lv_iconst (v := 1) hx hb dX0_settle_57 (by decide) ?_
        refine lv_iadd hx hb dX0_settle_58 ?_
        refine lv_topi (fun v58 e58 => ?_)
        refine va_mmax hx hb (by rw [hml]; exact hl.1.symm) hown (hts _ (mG wm_228)) (hts _ (mG wm_229)) (hts _ (mG wm_42)) (hts _ (mG wm_230)) (Nat.le_of_ble_eq_true rfl) (Nat.le_of_ble_eq_true rfl) (Nat.zero_le _) (Nat.zero_le _) dX0_settle_59 ?_
        refine lv_topi (fun v59 e59 => ?_)
        have e59 : v59 = nI (max st (top + 1)) := by rw [e59, s1, e58, hx0, nI_1]; exact ct_imax (by omega) (by omega)
        refine va_put (D := D) (ci := 0) (v := .int v59) (ty := .int) (C := RX0) (T := TX0) (N := 11) hx hb hts inX0 tyX0 tyX0_ok nmX0 hown hK hP hD hS 0 rfl rfl 10 (by decide) (hts _ (mG wm_63)) (fun _ h9 => h9) rfl (by decide +kernel) rfl rfl (Nat.le_of_ble_eq_true rfl) dX0_settle_62 (fun H locs hP hD hS => ?_)
        obtain ⟨iv62, e62⟩ : ∃ zz : Nat → Int32, zz = va_up iv 2 v59 := ⟨_, rfl⟩
        have hP : va_P D vwCl (gW h0 cI n ad a1 iv62) H := by rw [e62]; exact hP
        have hD : va_D A (gW h0 cI n ad a1 iv62) := by rw [e62]; exact hD
        rw [e59] at e62
        exact W.vret hx hb hr (fun t ht hW => ⟨⟨(n, ad, a1, iv62), rfl, ⟨rfl, gb_ok_st i3 (st := max st (top + 1)) (by omega) (by omega) (fun i hi => i4 i (by omega)) e62, fun i hi => i4 i (by omega)⟩, by rw [ht]; exact hP, va_K.moved hW.alike hK, hD⟩, hS.F ht⟩) hS.2.2 dX0_settle_65
      · refine lv_aload_n hx hb dX0_settle_10 rfl (lv_at hl 1 rfl) ?_
        refine lv_iload_n hx hb dX0_settle_11 rfl (lv_at hl 0 rfl) ?_
        have c7 : q ≤ top := by
          rw [hx0] at c7
          exact Nat.not_lt.mp fun z => c7 (nI_lt z (by omega))
        have hc12 : vp_in (nI q) n := vp_in_nI (by omega) (by omega)
        refine vp_callSi (W.runV (As := [.int (nI q)]) (rest := []) ⟨hx, hb, hml, hown, hts⟩ (c_isGate l D h0 cI n ad a1 iv (nI q) hc12) (cwV 1 hts gX0_settle_X0_isGate rfl rfl rfl (by decide +kernel) ⟨Nat.le_of_ble_eq_true rfl, Nat.le_of_ble_eq_true rfl⟩) (rP_V hK hP (va_recv hK hP (ci := 0) (q0 := 0) rfl rfl)) rfl rfl hl.1 rfl (lv_room (Nat.le_of_ble_eq_true rfl)) dX0_settle_12 ⟨Nat.zero_le _, Nat.zero_le _⟩) (fun r12 e12 => ?_)
        refine lv_if_eq (tgt := 45) hx hb dX0_settle_15 (by decide) (fun c15 => ?_) (fun c15 => ?_)
        · have c15 : g q = none := (gb_gate_n hct1 (by omega)).mp (by rw [← e12]; exact c15)
          have i9 : gb_ok n nc ic g bv a1 iv := i3
          have i10 : ∀ i, i < q + 1 → a1 4 i = ct_b (ct_vl g bv i) := lt_s i4 (by rw [i3.vi q (by omega) c15, ct_vl_n c15])
          obtain ⟨v45, e45⟩ : ∃ y : Int32, y = (nI q) + 1 := ⟨_, rfl⟩
          refine lv_iinc (v := v45) (lv' := [(2, .int v45), (0, .ref h0), (1, .int x)]) hx hb dX0_settle_45 hl (k := 0) rfl (by rw [e45]; rfl) (by decide) rfl (fun ls hl => ?_)
          refine lv_goto (tgt := 5) hx hb dX0_settle_48 (by decide) ?_
          exact ih (q + 1) a1 _ _ ls (by omega) ⟨by omega, by omega, i9, i10⟩ hP hD hS (by rw [← nI_1, ← e45]; exact hl)
        · have c15 : ¬ g q = none := fun z => c15 (by rw [e12]; exact (gb_gate_n hct1 (by omega)).mpr z)
          obtain ⟨⟨u9, v9⟩, i5⟩ := Option.ne_none_iff_exists'.mp c15
          have i7 := ct_at_f hct1 i5
          have i8 := ct_at_lt hct1 i5
          have hi29 := hc12
          have hi39 := hc12
          have hi44 := hc12
          refine lv_aload_n hx hb dX0_settle_18 rfl (lv_at hl 1 rfl) ?_
          refine va_get (D := D) (ci := 0) (v := .ref (ad 4)) (C := RX0) (T := TX0) (N := 11) hx hb hts inX0 hown hK hP 0 rfl rfl 4 (by decide) (hts _ (mG wm_57)) (fun _ h9 => h9) rfl dX0_settle_19 ?_
          refine lv_iload_n hx hb dX0_settle_22 rfl (lv_at hl 0 rfl) ?_
          refine lv_aload_n hx hb dX0_settle_23 rfl (lv_at hl 1 rfl) ?_
          refine lv_aload_n hx hb dX0_settle_24 rfl (lv_at hl 1 rfl) ?_
          refine va_get (D := D) (ci := 0) (v := .ref (ad 0)) (C := RX0) (T := TX0) (N := 11) hx hb hts inX0 hown hK hP 0 rfl rfl 0 (by decide) (hts _ (mG wm_53)) (fun _ h9 => h9) rfl dX0_settle_25 ?_
          refine lv_iload_n hx hb dX0_settle_28 rfl (lv_at hl 0 rfl) ?_
          refine va_iald hx hb hK hP 1 0 rfl rfl hi29 dX0_settle_29 ?_
          refine lv_topi (fun v29 e29 => ?_)
          have e29 : v29 = nI u9 := by rw [e29, nI_clamp (by omega)]; exact i7.1
          have hc30 : vp_in (gb_sh v29) n := by rw [e29, gb_sh_n (by omega)]; exact vp_in_nI (by omega) (by omega)
          refine vp_callSi (W.runV (As := [.int v29]) (rest := [.int (nI q), .ref (ad 4)]) ⟨hx, hb, hml, hown, hts⟩ (c_valueNow l D h0 cI n ad a1 iv v29 hc30) (cwV 1 hts gX0_settle_X0_valueNow rfl rfl rfl (by decide +kernel) ⟨Nat.le_of_ble_eq_true rfl, Nat.le_of_ble_eq_true rfl⟩) (rP_V hK hP (va_recv hK hP (ci := 0) (q0 := 0) rfl rfl)) rfl rfl hl.1 rfl (lv_room (Nat.le_of_ble_eq_true rfl)) dX0_settle_30 ⟨Nat.zero_le _, Nat.zero_le _⟩) (fun r30 e30 => ?_)
          refine lv_aload_n hx hb dX0_settle_33 rfl (lv_at hl 1 rfl) ?_
          refine lv_aload_n hx hb dX0_settle_34 rfl (lv_at hl 1 rfl) ?_
          refine va_get (D := D) (ci := 0) (v := .ref (ad 1)) (C := RX0) (T := TX0) (N := 11) hx hb hts inX0 hown hK hP 0 rfl rfl 1 (by decide) (hts _ (mG wm_54)) (fun _ h9 => h9) rfl dX0_settle_35 ?_
          refine lv_iload_n hx hb dX0_settle_38 rfl (lv_at hl 0 rfl) ?_
          refine va_iald hx hb hK hP 2 0 rfl rfl hi39 dX0_settle_39 ?_
          refine lv_topi (fun v39 e39 => ?_)
          have e39 : v39 = nI v9 := by rw [e39, nI_clamp (by omega)]; exact i7.2
          have hc40 : vp_in (gb_sh v39) n := by rw [e39, gb_sh_n (by omega)]; exact vp_in_nI (by omega) (by omega)
          refine vp_callSi (W.runV (As := [.int v39]) (rest := [.int r30, .int (nI q), .ref (ad 4)]) ⟨hx, hb, hml, hown, hts⟩ (c_valueNow l D h0 cI n ad a1 iv v39 hc40) (cwV 1 hts gX0_settle_X0_valueNow rfl rfl rfl (by decide +kernel) ⟨Nat.le_of_ble_eq_true rfl, Nat.le_of_ble_eq_true rfl⟩) (rP_V hK hP (va_recv hK hP (ci := 0) (q0 := 0) rfl rfl)) rfl rfl hl.1 rfl (lv_room (Nat.le_of_ble_eq_true rfl)) dX0_settle_40 ⟨Nat.zero_le _, Nat.zero_le _⟩) (fun r40 e40 => ?_)
          refine lv_iand hx hb dX0_settle_43 ?_
          refine lv_topi (fun v43 e43 => ?_)
          have e43 : v43 = ct_b (ct_vl g bv q) := by
            rw [e43, e30, e40, e29, e39, gb_val_n (by omega) (i4 _ (by omega)), gb_val_n (by omega) (i4 _ (by omega)), ct_vl_s hwf i5]
            exact ct_b_and _ _
          refine va_iast hx hb hK hP hD hS 5 0 rfl rfl hi44 dX0_settle_44 (fun H locs hP hD hS => ?_)
          obtain ⟨ar44, e44⟩ : ∃ zz : Nat → Nat → Int32, zz = va_up a1 4 (upd (a1 4) (Int32.toNatClampNeg (nI q)) v43) := ⟨_, rfl⟩
          have hP : va_P D vwCl (gW h0 cI n ad ar44 iv) H := by rw [e44]; exact hP
          have hD : va_D A (gW h0 cI n ad ar44 iv) := by rw [e44]; exact hD
          rw [nI_clamp (by omega)] at e44
          have i9 : gb_ok n nc ic g bv ar44 iv := gb_ok_val i3 i5 (by rw [e44, e43])
          have i10 : ∀ i, i < q + 1 → ar44 4 i = ct_b (ct_vl g bv i) := by
            rw [e44, va_up_self]
            exact lt_s (fun i hi => by rw [pk_un (by omega)]; exact i4 i hi) (by rw [pk_us]; exact e43)
          obtain ⟨v45, e45⟩ : ∃ y : Int32, y = (nI q) + 1 := ⟨_, rfl⟩
          refine lv_iinc (v := v45) (lv' := [(2, .int v45), (0, .ref h0), (1, .int x)]) hx hb dX0_settle_45 hl (k := 0) rfl (by rw [e45]; rfl) (by decide) rfl (fun ls hl => ?_)
          refine lv_goto (tgt := 5) hx hb dX0_settle_48 (by decide) ?_
          exact ih (q + 1) ar44 _ _ ls (by omega) ⟨by omega, by omega, i9, i10⟩ hP hD hS (by rw [← nI_1, ← e45]; exact hl)
  exact hloop0 (top + 2) st ar s.heap [] ls (by omega) ⟨Nat.le_refl _, Or.inr rfl, hok, s4⟩ hP hD hS (by rw [← s1]; exact hl)
set_option maxHeartbeats 4000000 in
set_option maxRecDepth 100000 in
/-- markUnder -/
theorem c_markUnder (l : Launch) (D : va_G) (h0 : Nat) (cI : ClassId) (n : Nat) (ad : Nat → Nat) (ar : Nat → Nat → Int32) (iv : Nat → Int32) (sz : Nat) (x : Int32) (top : Nat) (nc ic : Nat) (g : Ct) (bv : Nat → Bool) (hx0 : x = nI top) (htop : top < nc) (hok : gb_ok n nc ic g bv ar iv) : Met l yX0_markUnder wsX0_markUnder ({ frames := 1, cells := 0, slots := 0, locals := 21 }) (mP D (gW h0 cI n ad ar iv) [(cI, .int)] sz [.ref h0, .int x]) (va_Qv (fun u : GS => u.1 = n ∧ u.2.2.2 = iv ∧ (∀ k, k ≠ 5 → u.2.2.1 k = ar k) ∧ ∀ i, i ≤ top → u.2.2.1 5 i = ct_b (ct_in g top i)) (gb_at D cI (va_A (gW h0 cI n ad ar iv) sz) h0) (va_A (gW h0 cI n ad ar iv) sz)) (0) (0) (va_A (gW h0 cI n ad ar iv) sz) := by
  refine Met.ofW (cc := cX0_markUnder) (maxL := 3) (ret := none) (by decide) rfl ?_
  intro p e s m args below meth c s₁ B hml hv
  obtain ⟨rfl, hsz, hP, hK, hD0⟩ := hv
  have hx := B.exec
  have hb := B.bytes
  have hr := B.returns
  have hts := atoms_spec (ws := wsX0_markUnder) B.pre
  have hown : s.vm.findClass RX0 = some m.cls := findClass_of_methodNamed B.named
  have hlocks := B.notSynchronized
  have hl := lv_entry ([.ref h0, .int x]) (n := 3) (Nat.le_of_ble_eq_true rfl)
  rw [lg_entry_eq]
  generalize (lg_sl ([.ref h0, .int x]) ++ List.replicate (3 - (lg_sl ([.ref h0, .int x])).length) Slot.unset).toArray = ls at hl ⊢
  have hl : lv_has ls 3 [(0, .ref h0), (1, .int x)] := hl
  subst hsz
  have hD := hD0.self (sz := s.heap.size)
  generalize hAe : va_A (gW h0 cI n ad ar iv) s.heap.size = A at hD ⊢
  have hA : ∀ q : Nat, s.heap.size ≤ q → A q := fun q h => by rw [← hAe]; exact Or.inr h
  have hS : va_S A s.heap s.heap [] := va_S.rf
  have hnc := hok.nc
  have hct := hok.ct
  have hwf := hok.wf
  have hle := hct.2.1
  have hb9 := hct.2.2.1
  refine lv_iconst (v := 0) hx hb dX0_markUnder_0 (by decide) ?_
  refine lv_istore_n (lv' := [(2, .int 0), (0, .ref h0), (1, .int x)]) hx hb dX0_markUnder_1 rfl hl (by decide) rfl (fun ls hl => ?_)
  have hloop0 : ∀ (k : Nat) (q : Nat) (a1 : Nat → Nat → Int32) (H : Heap) (locs : List Loc) (ls : Array Slot), top - q < k → (q ≤ top ∧ (∀ k, k ≠ 5 → a1 k = ar k) ∧ ∀ i, i < q → a1 5 i = 0) → va_P D vwCl (gW h0 cI n ad a1 iv) H → va_D A (gW h0 cI n ad a1 iv) → va_S A s.heap H locs → lv_has ls 3 [(2, .int (nI q)), (0, .ref h0), (1, .int x)] → W p l e (headSpec wsX0_markUnder ({ frames := 1, cells := 0, slots := 0, locals := 21 })).room s m ([.ref h0, .int x] : List Value).toArray below meth c H locs (0) (0) (MQ below (va_Qv (fun u : GS => u.1 = n ∧ u.2.2.2 = iv ∧ (∀ k, k ≠ 5 → u.2.2.1 k = ar k) ∧ ∀ i, i ≤ top → u.2.2.1 5 i = ct_b (ct_in g top i)) (gb_at D cI A h0) A) ([.ref h0, .int x] : List Value).toArray s (0) (0) A) (F0 m 2 ls []) := by
    intro k
    induction k with
    | zero => intro q a1 H locs ls h; omega
    | succ k ih =>
      intro q a1 H locs ls hqk hinv hP hD hS hl
      obtain ⟨i1, i2, i3⟩ := hinv
      refine lv_iload_n hx hb dX0_markUnder_2 rfl (lv_at hl 0 rfl) ?_
      refine lv_iload_n hx hb dX0_markUnder_3 rfl (lv_at hl 2 rfl) ?_
      refine lv_icmp_ge (tgt := 20) hx hb dX0_markUnder_4 (by decide) (fun c4 => ?_) (fun c4 => ?_)
      · have c4 : top = q := by
          rw [hx0] at c4
          have := Nat.not_lt.mp fun z => absurd c4 (nI_ge z (by omega))
          omega
        subst c4
        have hi26 : vp_in x n := by rw [hx0]; exact vp_in_nI (by omega) (by omega)
        refine lv_aload_n hx hb dX0_markUnder_20 rfl (lv_at hl 1 rfl) ?_
        refine va_get (D := D) (ci := 0) (v := .ref (ad 5)) (C := RX0) (T := TX0) (N := 11) hx hb hts inX0 hown hK hP 0 rfl rfl 5 (by decide) (hts _ (mG wm_58)) (fun _ h9 => h9) rfl dX0_markUnder_21 ?_
        refine lv_iload_n hx hb dX0_markUnder_24 rfl (lv_at hl 2 rfl) ?_
        refine lv_iconst (v := 1) hx hb dX0_markUnder_25 (by decide) ?_
        refine va_iast hx hb hK hP hD hS 6 0 rfl rfl hi26 dX0_markUnder_26 (fun H locs hP hD hS => ?_)
        obtain ⟨ar26, e26⟩ : ∃ zz : Nat → Nat → Int32, zz = va_up a1 5 (upd (a1 5) (Int32.toNatClampNeg x) 1) := ⟨_, rfl⟩
        have hP : va_P D vwCl (gW h0 cI n ad ar26 iv) H := by rw [e26]; exact hP
        have hD : va_D A (gW h0 cI n ad ar26 iv) := by rw [e26]; exact hD
        rw [hx0, nI_clamp (by omega)] at e26
        have i4 : ∀ k, k ≠ 5 → ar26 k = ar k := fun k hk => by rw [e26, va_up_ne _ _ hk]; exact i2 k hk
        have i5 : ar26 5 top = 1 := by rw [e26, va_up_self]; exact pk_us
        have i6 : ∀ i, i < top → ar26 5 i = 0 := fun i hi => by rw [e26, va_up_self, pk_un (by omega)]; exact i3 i hi
        refine lv_iload_n hx hb dX0_markUnder_27 rfl (lv_at hl 2 rfl) ?_
        refine lv_istore_n (lv' := [(2, .int x), (0, .ref h0), (1, .int x)]) hx hb dX0_markUnder_28 rfl hl (by decide) rfl (fun ls hl => ?_)
        have hloop1 : ∀ (k : Nat) (j0 : Nat) (a2 : Nat → Nat → Int32) (H : Heap) (locs : List Loc) (ls : Array Slot), j0 < k → (j0 ≤ top ∧ (∀ k, k ≠ 5 → a2 k = ar k) ∧ a2 5 top = 1 ∧ (∀ i, i ≤ top → a2 5 i = 0 ∨ a2 5 i = 1) ∧ (∀ i, i ≤ top → a2 5 i = 1 → ct_in g top i = true) ∧ (∀ j x y, j0 < j → j ≤ top → a2 5 j = 1 → g j = some (x, y) → a2 5 (x / 2) = 1 ∧ a2 5 (y / 2) = 1)) → va_P D vwCl (gW h0 cI n ad a2 iv) H → va_D A (gW h0 cI n ad a2 iv) → va_S A s.heap H locs → lv_has ls 3 [(2, .int (nI j0)), (0, .ref h0), (1, .int x)] → W p l e (headSpec wsX0_markUnder ({ frames := 1, cells := 0, slots := 0, locals := 21 })).room s m ([.ref h0, .int x] : List Value).toArray below meth c H locs (0) (0) (MQ below (va_Qv (fun u : GS => u.1 = n ∧ u.2.2.2 = iv ∧ (∀ k, k ≠ 5 → u.2.2.1 k = ar k) ∧ ∀ i, i ≤ top → u.2.2.1 5 i = ct_b (ct_in g top i)) (gb_at D cI A h0) A) ([.ref h0, .int x] : List Value).toArray s (0) (0) A) (F0 m 29 ls []) := by
          intro k
          induction k with
          | zero => intro j0 a2 H locs ls h; omega
          | succ k ih =>
            intro j0 a2 H locs ls hqk hinv hP hD hS hl
            obtain ⟨m1, m2, m3, m4, m5, m6⟩ := hinv
            have hct2 : ct_at n nc g a2 := ⟨hct.1, hct.2.1, hct.2.2.1, hct.2.2.2.1, fun i hi => by rw [m2 0 (by decide), m2 1 (by decide)]; exact hct.2.2.2.2 i hi⟩
            refine lv_iload_n hx hb dX0_markUnder_29 rfl (lv_at hl 0 rfl) ?_
            refine lv_if_le (tgt := 85) hx hb dX0_markUnder_30 (by decide) (fun c30 => ?_) (fun c30 => ?_)
            · have c30 : j0 = 0 := by
                rcases Nat.eq_zero_or_pos j0 with z | z
                · exact z
                · exact absurd c30 (nI_nle z (by omega))
              exact W.vret hx hb hr (fun t ht hW => ⟨⟨(n, ad, a2, iv), rfl, ⟨rfl, rfl, m2, gb_marks hwf m3 m4 m5 (fun j x y h1 h2 h3 => m6 j x y (by have := hwf.1 j x y h3; omega) h1 h2 h3)⟩, by rw [ht]; exact hP, va_K.moved hW.alike hK, hD⟩, hS.F ht⟩) hS.2.2 dX0_markUnder_85
            · have c30 : 0 < j0 := by
                rcases Nat.eq_zero_or_pos j0 with z | z
                · exact absurd (by rw [z, nI_0]; exact Int32.le_refl 0) c30
                · exact z
              have hi38 : vp_in (nI j0) n := vp_in_nI (by omega) (by omega)
              have hc45 := hi38
              have hi60 := hi38
              have hi74 := hi38
              refine lv_aload_n hx hb dX0_markUnder_33 rfl (lv_at hl 1 rfl) ?_
              refine va_get (D := D) (ci := 0) (v := .ref (ad 5)) (C := RX0) (T := TX0) (N := 11) hx hb hts inX0 hown hK hP 0 rfl rfl 5 (by decide) (hts _ (mG wm_58)) (fun _ h9 => h9) rfl dX0_markUnder_34 ?_
              refine lv_iload_n hx hb dX0_markUnder_37 rfl (lv_at hl 0 rfl) ?_
              refine va_iald hx hb hK hP 6 0 rfl rfl hi38 dX0_markUnder_38 ?_
              refine lv_topi (fun v38 e38 => ?_)
              have e38 : v38 = a2 5 j0 := by rw [e38, nI_clamp (by omega)]
              refine lv_iconst (v := 1) hx hb dX0_markUnder_39 (by decide) ?_
              refine lv_icmp_ne (tgt := 79) hx hb dX0_markUnder_40 (by decide) (fun c40 => ?_) (fun c40 => ?_)
              · have d1 : a2 = a2 := rfl
                have d6 : ∀ j x y, j0 - 1 < j → j ≤ top → a2 5 j = 1 → g j = some (x, y) → a2 5 (x / 2) = 1 ∧ a2 5 (y / 2) = 1 := by
                  intro j x y h1 h2 h3 h4
                  by_cases h5 : j = j0
                  · subst h5
                    exact absurd (show v38 = 1 by rw [e38]; exact h3) c40
                  · exact m6 j x y (by omega) h2 h3 h4
                have d2 := m2
                have d3 := m3
                have d4 := m4
                have d5 := m5
                obtain ⟨v79, e79⟩ : ∃ y : Int32, y = (nI j0) + (-1) := ⟨_, rfl⟩
                refine lv_iinc (v := v79) (lv' := [(2, .int v79), (0, .ref h0), (1, .int x)]) hx hb dX0_markUnder_79 hl (k := 0) rfl (by rw [e79]; rfl) (by decide) rfl (fun ls hl => ?_)
                refine lv_goto (tgt := 29) hx hb dX0_markUnder_82 (by decide) ?_
                exact ih (j0 - 1) a2 _ _ ls (by omega) ⟨by omega, d2, d3, d4, d5, d6⟩ hP hD hS (by rw [← sb_m1 c30, ← e79]; exact hl)
              · refine lv_aload_n hx hb dX0_markUnder_43 rfl (lv_at hl 1 rfl) ?_
                refine lv_iload_n hx hb dX0_markUnder_44 rfl (lv_at hl 0 rfl) ?_
                refine vp_callSi (W.runV (As := [.int (nI j0)]) (rest := []) ⟨hx, hb, hml, hown, hts⟩ (c_isGate l D h0 cI n ad a2 iv (nI j0) hc45) (cwV 1 hts gX0_markUnder_X0_isGate rfl rfl rfl (by decide +kernel) ⟨Nat.le_of_ble_eq_true rfl, Nat.le_of_ble_eq_true rfl⟩) (rP_V hK hP (va_recv hK hP (ci := 0) (q0 := 0) rfl rfl)) rfl rfl hl.1 rfl (lv_room (Nat.le_of_ble_eq_true rfl)) dX0_markUnder_45 ⟨Nat.zero_le _, Nat.zero_le _⟩) (fun r45 e45 => ?_)
                refine lv_if_eq (tgt := 79) hx hb dX0_markUnder_48 (by decide) (fun c48 => ?_) (fun c48 => ?_)
                · have d1 : a2 = a2 := rfl
                  have d6 : ∀ j x y, j0 - 1 < j → j ≤ top → a2 5 j = 1 → g j = some (x, y) → a2 5 (x / 2) = 1 ∧ a2 5 (y / 2) = 1 := by
                    intro j x y h1 h2 h3 h4
                    by_cases h5 : j = j0
                    · subst h5
                      exact absurd ((gb_gate_n hct2 (i := j) (by omega)).mp (by rw [← e45]; exact c48)) (by rw [h4]; exact fun z => by cases z)
                    · exact m6 j x y (by omega) h2 h3 h4
                  have d2 := m2
                  have d3 := m3
                  have d4 := m4
                  have d5 := m5
                  obtain ⟨v79, e79⟩ : ∃ y : Int32, y = (nI j0) + (-1) := ⟨_, rfl⟩
                  refine lv_iinc (v := v79) (lv' := [(2, .int v79), (0, .ref h0), (1, .int x)]) hx hb dX0_markUnder_79 hl (k := 0) rfl (by rw [e79]; rfl) (by decide) rfl (fun ls hl => ?_)
                  refine lv_goto (tgt := 29) hx hb dX0_markUnder_82 (by decide) ?_
                  exact ih (j0 - 1) a2 _ _ ls (by omega) ⟨by omega, d2, d3, d4, d5, d6⟩ hP hD hS (by rw [← sb_m1 c30, ← e79]; exact hl)
                · have c48 : ¬ g j0 = none := fun z => c48 (by rw [e45]; exact (gb_gate_n hct2 (by omega)).mpr z)
                  obtain ⟨⟨u9, v9⟩, n5⟩ := Option.ne_none_iff_exists'.mp c48
                  have n7 := ct_at_f hct2 n5
                  have n8 := ct_at_lt hct2 n5
                  have n9 : a2 5 j0 = 1 := by rw [← e38]; exact c40
                  refine lv_aload_n hx hb dX0_markUnder_51 rfl (lv_at hl 1 rfl) ?_
                  refine va_get (D := D) (ci := 0) (v := .ref (ad 5)) (C := RX0) (T := TX0) (N := 11) hx hb hts inX0 hown hK hP 0 rfl rfl 5 (by decide) (hts _ (mG wm_58)) (fun _ h9 => h9) rfl dX0_markUnder_52 ?_
                  refine lv_aload_n hx hb dX0_markUnder_55 rfl (lv_at hl 1 rfl) ?_
                  refine va_get (D := D) (ci := 0) (v := .ref (ad 0)) (C := RX0) (T := TX0) (N := 11) hx hb hts inX0 hown hK hP 0 rfl rfl 0 (by decide) (hts _ (mG wm_53)) (fun _ h9 => h9) rfl dX0_markUnder_56 ?_
                  refine lv_iload_n hx hb dX0_markUnder_59 rfl (lv_at hl 0 rfl) ?_
                  refine va_iald hx hb hK hP 1 0 rfl rfl hi60 dX0_markUnder_60 ?_
                  refine lv_topi (fun v60 e60 => ?_)
                  refine lv_iconst (v := 1) hx hb dX0_markUnder_61 (by decide) ?_
                  refine lv_ishr hx hb dX0_markUnder_62 ?_
                  refine lv_topi (fun v62 e62 => ?_)
                  have e60 : v60 = nI u9 := by rw [e60, nI_clamp (by omega)]; exact n7.1
                  have e62 : v62 = nI (u9 / 2) := by rw [e62, e60]; exact ct_shr (by omega)
                  have hi64 : vp_in v62 n := by rw [e62]; exact vp_in_nI (by omega) (by omega)
                  refine lv_iconst (v := 1) hx hb dX0_markUnder_63 (by decide) ?_
                  refine va_iast hx hb hK hP hD hS 6 0 rfl rfl hi64 dX0_markUnder_64 (fun H locs hP hD hS => ?_)
                  obtain ⟨ar64, e64⟩ : ∃ zz : Nat → Nat → Int32, zz = va_up a2 5 (upd (a2 5) (Int32.toNatClampNeg v62) 1) := ⟨_, rfl⟩
                  have hP : va_P D vwCl (gW h0 cI n ad ar64 iv) H := by rw [e64]; exact hP
                  have hD : va_D A (gW h0 cI n ad ar64 iv) := by rw [e64]; exact hD
                  rw [e62, nI_clamp (by omega)] at e64
                  refine lv_aload_n hx hb dX0_markUnder_65 rfl (lv_at hl 1 rfl) ?_
                  refine va_get (D := D) (ci := 0) (v := .ref (ad 5)) (C := RX0) (T := TX0) (N := 11) hx hb hts inX0 hown hK hP 0 rfl rfl 5 (by decide) (hts _ (mG wm_58)) (fun _ h9 => h9) rfl dX0_markUnder_66 ?_
                  refine lv_aload_n hx hb dX0_markUnder_69 rfl (lv_at hl 1 rfl) ?_
                  refine va_get (D := D) (ci := 0) (v := .ref (ad 1)) (C := RX0) (T := TX0) (N := 11) hx hb hts inX0 hown hK hP 0 rfl rfl 1 (by decide) (hts _ (mG wm_54)) (fun _ h9 => h9) rfl dX0_markUnder_70 ?_
                  refine lv_iload_n hx hb dX0_markUnder_73 rfl (lv_at hl 0 rfl) ?_
                  refine va_iald hx hb hK hP 2 0 rfl rfl hi74 dX0_markUnder_74 ?_
                  refine lv_topi (fun v74 e74 => ?_)
                  refine lv_iconst (v := 1) hx hb dX0_markUnder_75 (by decide) ?_
                  refine lv_ishr hx hb dX0_markUnder_76 ?_
                  refine lv_topi (fun v76 e76 => ?_)
                  have e74 : v74 = nI v9 := by rw [e74, nI_clamp (by omega), e64]; exact n7.2
                  have e76 : v76 = nI (v9 / 2) := by rw [e76, e74]; exact ct_shr (by omega)
                  have hi78 : vp_in v76 n := by rw [e76]; exact vp_in_nI (by omega) (by omega)
                  refine lv_iconst (v := 1) hx hb dX0_markUnder_77 (by decide) ?_
                  refine va_iast hx hb hK hP hD hS 6 0 rfl rfl hi78 dX0_markUnder_78 (fun H locs hP hD hS => ?_)
                  obtain ⟨ar78, e78⟩ : ∃ zz : Nat → Nat → Int32, zz = va_up ar64 5 (upd (ar64 5) (Int32.toNatClampNeg v76) 1) := ⟨_, rfl⟩
                  have hP : va_P D vwCl (gW h0 cI n ad ar78 iv) H := by rw [e78]; exact hP
                  have hD : va_D A (gW h0 cI n ad ar78 iv) := by rw [e78]; exact hD
                  rw [e76, nI_clamp (by omega), e64] at e78
                  obtain ⟨d2, d3, d4, d5, d6⟩ := gb_mark2 hwf n5 n9 m1 m2 m3 m4 m5 m6 e78
                  obtain ⟨v79, e79⟩ : ∃ y : Int32, y = (nI j0) + (-1) := ⟨_, rfl⟩
                  refine lv_iinc (v := v79) (lv' := [(2, .int v79), (0, .ref h0), (1, .int x)]) hx hb dX0_markUnder_79 hl (k := 0) rfl (by rw [e79]; rfl) (by decide) rfl (fun ls hl => ?_)
                  refine lv_goto (tgt := 29) hx hb dX0_markUnder_82 (by decide) ?_
                  exact ih (j0 - 1) ar78 _ _ ls (by omega) ⟨by omega, d2, d3, d4, d5, d6⟩ hP hD hS (by rw [← sb_m1 c30, ← e79]; exact hl)
        exact hloop1 (top + 1) top ar26 _ _ ls (by omega) ⟨Nat.le_refl _, i4, i5, fun i hi => (Nat.lt_or_ge i top).elim (fun z => Or.inl (i6 i z)) (fun z => Or.inr (by rw [show i = top by omega]; exact i5)), fun i hi h1 => (Nat.lt_or_ge i top).elim (fun z => absurd ((i6 i z).symm.trans h1) (by decide)) (fun z => by rw [show i = top by omega]; exact ct_in_self g top), fun j x y h1 h2 => by omega⟩ hP hD hS (by rw [← hx0]; exact hl)
      · have c4 : q < top := by
          rw [hx0] at c4
          exact Nat.not_le.mp fun z => c4 (nI_le z (by omega))
        have hi13 : vp_in (nI q) n := vp_in_nI (by omega) (by omega)
        refine lv_aload_n hx hb dX0_markUnder_7 rfl (lv_at hl 1 rfl) ?_
        refine va_get (D := D) (ci := 0) (v := .ref (ad 5)) (C := RX0) (T := TX0) (N := 11) hx hb hts inX0 hown hK hP 0 rfl rfl 5 (by decide) (hts _ (mG wm_58)) (fun _ h9 => h9) rfl dX0_markUnder_8 ?_
        refine lv_iload_n hx hb dX0_markUnder_11 rfl (lv_at hl 0 rfl) ?_
        refine lv_iconst (v := 0) hx hb dX0_markUnder_12 (by decide) ?_
        refine va_iast hx hb hK hP hD hS 6 0 rfl rfl hi13 dX0_markUnder_13 (fun H locs hP hD hS => ?_)
        obtain ⟨ar13, e13⟩ : ∃ zz : Nat → Nat → Int32, zz = va_up a1 5 (upd (a1 5) (Int32.toNatClampNeg (nI q)) 0) := ⟨_, rfl⟩
        have hP : va_P D vwCl (gW h0 cI n ad ar13 iv) H := by rw [e13]; exact hP
        have hD : va_D A (gW h0 cI n ad ar13 iv) := by rw [e13]; exact hD
        rw [nI_clamp (by omega)] at e13
        have i4 : ∀ k, k ≠ 5 → ar13 k = ar k := fun k hk => by rw [e13, va_up_ne _ _ hk]; exact i2 k hk
        have i5 : ∀ i, i < q + 1 → ar13 5 i = 0 := by
          rw [e13, va_up_self]
          exact lt_s (fun i hi => by rw [pk_un (by omega)]; exact i3 i hi) pk_us
        obtain ⟨v14, e14⟩ : ∃ y : Int32, y = (nI q) + 1 := ⟨_, rfl⟩
        refine lv_iinc (v := v14) (lv' := [(2, .int v14), (0, .ref h0), (1, .int x)]) hx hb dX0_markUnder_14 hl (k := 0) rfl (by rw [e14]; rfl) (by decide) rfl (fun ls hl => ?_)
        refine lv_goto (tgt := 2) hx hb dX0_markUnder_17 (by decide) ?_
        exact ih (q + 1) ar13 _ _ ls (by omega) ⟨by omega, i4, i5⟩ hP hD hS (by rw [← nI_1, ← e14]; exact hl)
  exact hloop0 (top + 1) 0 ar s.heap [] ls (by omega) ⟨Nat.zero_le _, fun _ _ => rfl, fun i hi => by omega⟩ hP hD hS (by rw [nI_0]; exact hl)
end
section
-- ===== throwing IllegalArgumentException =====
abbrev IAE : String := "java/lang/IllegalArgumentException"
abbrev iae_names : List String := ["java/lang/RuntimeException", "java/lang/Exception"]
theorem iae_good : ∀ w ∈ (vx_atS RX0 65 IAE iae_names).filter goodWord, w ∈ wsG := by decide +kernel
abbrev iae_d (c : String) : Cond := .declares ⟨c, "<init>", "(Ljava/lang/String;)V"⟩
theorem iae_rest : ∀ w ∈ (vx_atS RX0 65 IAE iae_names).filter (fun w => !goodWord w), w ∈ [Cond.castable IAE IAE, iae_d "java/lang/RuntimeException", iae_d "java/lang/Exception", iae_d "java/lang/Throwable"] := by decide +kernel
theorem iae_dw {x : MethodName} {s U : State} (hW : s.WarmedH U.vm) (hZ : va_Nw (.declares x) s) : va_Nw (.declares x) U := va_tabs rfl (rfl : (s.setVm U.vm).vm = U.vm) (by rw [Cond.declares_setVm hW.alike]; exact hZ)
/-- the words of a throw that don't ride with a method's own -/
def gt_w (U : State) : Prop := va_Nw (.castable IAE IAE) U ∧ va_Nw (iae_d "java/lang/RuntimeException") U ∧ va_Nw (iae_d "java/lang/Exception") U ∧ va_Nw (iae_d "java/lang/Throwable") U
theorem iae_ot : ∀ w ∈ Cond.classLink RX0 61 IAE :: Cond.initialized IAE :: vx_atS RX0 65 IAE iae_names, vx_ot w = true := by decide +kernel
abbrev gt_str : List (Nat × String) := [(63, "no such kind of two literals"), (72, "no such kind of three literals"), (95, "no such thing of a node"), (104, "no such node"), (106, "the node is no input"), (108, "no such literal")]
/-- what a throw rests on, apart from the words -/
def gT (A : Nat → Prop) (U : State) (H : Heap) : Prop := vx_Zq Bundle.tN "UNASSIGNED_STACK" Bundle.steD A U H ∧ vx_Zq Bundle.tN "SUPPRESSED_SENTINEL" Bundle.listD A U H ∧ gt_w U ∧ ∃ sa : Nat → Nat, ∀ q ∈ gt_str, vk_R RX0 q.1 q.2 (sa q.1) U
theorem gT.go {A B : Nat → Prop} {s U : State} {H : Heap} {locs : List Loc} (h : gT A s s.heap) (hS : va_S A s.heap H locs) (hU : U.heap = H) (hW : s.WarmedH U.vm) (hAB : ∀ q, B q → A q) : gT B U U.heap := by
  obtain ⟨h1, h2, h3, sa, h4⟩ := h
  rw [hU]
  exact ⟨((h1.kept hS.2.1).moved hW.alike).narrow hAB, ((h2.kept hS.2.1).moved hW.alike).narrow hAB, ⟨va_Nw.warmC hW h3.1, iae_dw hW h3.2.1, iae_dw hW h3.2.2.1, iae_dw hW h3.2.2.2⟩, sa, fun q hq => (h4 q hq).warm hW⟩
theorem gT.call {A : Nat → Prop} {U : State} {g : JFrame} {mk : MethodId} {a : Array Value} (h : gT A U U.heap) : gT A (U.calling g mk a) (U.calling g mk a).heap := by
  obtain ⟨h1, h2, h3, sa, h4⟩ := h
  exact ⟨vx_Zq.moved (u := U) (U := U.calling g mk a) (Vm.Alike.refl U.vm) h1, vx_Zq.moved (u := U) (U := U.calling g mk a) (Vm.Alike.refl U.vm) h2, ⟨va_Nw.same (u := U) (U := U.calling g mk a) rfl rfl h3.1, va_Nw.same (u := U) (U := U.calling g mk a) rfl rfl h3.2.1, va_Nw.same (u := U) (U := U.calling g mk a) rfl rfl h3.2.2.1, va_Nw.same (u := U) (U := U.calling g mk a) rfl rfl h3.2.2.2⟩, sa, fun q hq => vk_R.same (u := U) (U := U.calling g mk a) rfl (h4 q hq)⟩
/-- the words of a throw, at a method's start -/
theorem gT.hat {A : Nat → Prop} {s : State} {H : Heap} {args : Array Value} {w0 : Cond} (h : gT A s H) (hts : ∀ w ∈ w0 :: wsG, w.before args s = true) : ∀ w ∈ vx_atS RX0 65 IAE iae_names, w.before args s = true :=
  vx_hat (fun w hw => hts _ (mG (iae_good w hw))) iae_rest (vx_c (va_Nw.use rfl h.2.2.1.1) (vx_c (va_Nw.use rfl h.2.2.1.2.1) (vx_c (va_Nw.use rfl h.2.2.1.2.2.1) (vx_c (va_Nw.use rfl h.2.2.1.2.2.2) vx_n))))
/-- the start of a method that may throw -/
def tP (D : va_G) (ws : va_W) (tys : List (ClassId × FieldType)) (sz : Nat) (av : List Value) : Array Value → State → Prop := va_Pc av (fun U => U.heap.size = sz ∧ va_P D vwCl ws U.heap ∧ va_K D vwCl tys U ∧ va_D (fun _ => True) ws ∧ gT (va_A ws sz) U U.heap)
theorem tP_blind {D : va_G} {ws : va_W} {tys : List (ClassId × FieldType)} {sz : Nat} {av : List Value} : FrameBlind (tP D ws tys sz av) := fun a U g mk q => by
  obtain ⟨q1, q2, q3, q4, q5, q6⟩ := q
  exact ⟨q1, q2, q3, va_K.moved (u := U) (U := U.calling g mk a) (Vm.Alike.refl U.vm) q4, q5, gT.call q6⟩
theorem tP_V {D : va_G} {ws : va_W} {tys : List (ClassId × FieldType)} {s : State} {H : Heap} {locs : List Loc} {A A2 : Nat → Prop} {C : String} {b : Nat} {As : List Value} (hK : va_K D vwCl tys s) (hP : va_P D vwCl ws H) (hD : va_D A2 ws) (hr : ∃ cell : Cell, H[b]? = some cell ∧ cell.vm.isStatics = false ∧ s.vm.findClass C = some cell.cls) (hT : gT A s s.heap) (hS : va_S A s.heap H locs) (hF : ∀ q, va_A ws H.size q → A q) : PreV s H C b (tP D ws tys H.size (.ref b :: As)) As :=
  ⟨tP_blind, hr, fun U hU hW => ⟨rfl, by rw [hU], by rw [hU]; exact hP, va_K.moved hW.alike hK, hD.weaken (fun _ _ _ _ => trivial), hT.go hS hU hW hF⟩⟩
theorem gb_F {A : Nat → Prop} {s t : State} {H : Heap} {locs : List Loc} (hS : va_S A s.heap H locs) (h1 : H.size ≤ t.heap.size) (h2 : ∀ q : Nat, q < H.size → t.heap[q]? = H[q]?) : va_F A s t :=
  ⟨Nat.le_trans hS.1 h1, fun q a b => (h2 q (Nat.lt_of_lt_of_le a hS.1)).trans (hS.2.1 q a b)⟩
theorem gb_kept {D : va_G} {cl : List vw_C} {ws : va_W} {H : Heap} {t : State} (hP : va_P D cl ws H) (h2 : ∀ q : Nat, q < H.size → t.heap[q]? = H[q]?) : va_P D cl ws t.heap := hP.kept (fun _ q hk => h2 q.1 (vx_lt hP hk))
/-- where a method of the bench throws: the argument was bad, the bench is as it was -/
abbrev gb_xc (D : va_G) (cI : ClassId) (A : Nat → Prop) (h0 : Nat) (S0 : GS) (bad : Prop) : String → State → State → Prop := vx_X (fun u : GS => bad ∧ u = S0) (fun E u t => E = IAE ∧ gb_at D cI A h0 u t) A
-- ===== what a literal, a node is =====
def ct_lit (nc : Nat) (x : Int32) : Prop := ∃ a : Nat, a < 2 * nc ∧ x = nI a
def ct_nod (nc : Nat) (x : Int32) : Prop := ¬ x < 0 ∧ x < nI nc
theorem ct_lit_neg {nc : Nat} {x : Int32} (h : x < 0) (hn : nc < 2 ^ 30) : ¬ ct_lit nc x := by
  rintro ⟨a, ha, rfl⟩
  exact nI_pos (by omega) h
theorem ct_lit_big {nc : Nat} {x : Int32} (hn : nc < 2 ^ 30) (h : ¬ x >>> ((1 : Int32) &&& 31) < nI nc) : ¬ ct_lit nc x := by
  rintro ⟨a, ha, rfl⟩
  rw [ct_shr (by omega)] at h
  exact h (nI_lt (by omega) (by omega))
theorem ct_lit_ok {nc : Nat} {x : Int32} (hn : nc < 2 ^ 30) (h1 : ¬ x < 0) (h : x >>> ((1 : Int32) &&& 31) < nI nc) : ct_lit nc x := by
  obtain ⟨j, hj, rfl⟩ := nI_of h1
  rw [ct_shr (by omega)] at h
  have := (nI_ltI (by omega) (by omega)).mp h
  exact ⟨j, by omega, rfl⟩
theorem ct_nod_of {nc : Nat} {x : Int32} (h : ct_nod nc x) (hn : nc < 2 ^ 30) : ∃ a : Nat, a < nc ∧ x = nI a := by
  obtain ⟨j, hj, rfl⟩ := nI_of h.1
  exact ⟨j, (nI_ltI (by omega) (by omega)).mp h.2, rfl⟩
theorem ct_nod_in {nc n : Nat} {x : Int32} (h : ct_nod nc x) (hn : nc < 2 ^ 30) (hle : nc ≤ n) (hb : n ≤ 65536) : vp_in x n := by
  obtain ⟨a, ha, rfl⟩ := ct_nod_of h hn
  exact vp_in_nI (by omega) (by omega)
theorem ct_lit_n {nc : Nat} {x : Int32} (h : ct_lit nc x) (hn : nc < 2 ^ 30) : x = nI x.toNatClampNeg ∧ x.toNatClampNeg < 2 * nc := by
  obtain ⟨a, ha, rfl⟩ := h
  rw [nI_clamp (by omega)]
  exact ⟨rfl, ha⟩
def ct_jn (nc : Nat) (g : Ct) (k : Int32) (a b : Nat) : Nat × Nat × Ct := if k = 0 then ct_or nc g a b else ct_xo nc g a b
def ct_th (nc : Nat) (g : Ct) (k : Int32) (a b c : Nat) : Nat × Nat × Ct := if k = 0 then ct_ie nc g a b c else if k = 1 then ct_ad nc g a b c else ct_ca nc g a b c
end
section
set_option maxHeartbeats 4000000 in
set_option maxRecDepth 100000 in
/-- needLiteral -/
theorem c_needLiteral (l : Launch) (hl9 : l.stackTraces = false) (D : va_G) (h0 : Nat) (cI : ClassId) (n : Nat) (ad : Nat → Nat) (ar : Nat → Nat → Int32) (iv : Nat → Int32) (sz : Nat) (x : Int32) (nc : Nat) (hnc : iv 0 = nI nc) (hn9 : nc < 2 ^ 30) : vx_Met l yX0_needLiteral wsX0_needLiteral ({ frames := 6, cells := 1, slots := 6, locals := 90 }) (tP D (gW h0 cI n ad ar iv) [(cI, .int)] sz [.ref h0, .int x]) (va_Qv (fun u : GS => ct_lit nc x ∧ u = (n, ad, ar, iv)) (gb_at D cI (va_A (gW h0 cI n ad ar iv) sz) h0) (va_A (gW h0 cI n ad ar iv) sz)) (gb_xc D cI (va_A (gW h0 cI n ad ar iv) sz) h0 (n, ad, ar, iv) (¬ ct_lit nc x)) (1) (6) (va_A (gW h0 cI n ad ar iv) sz) := by
  refine vx_ofW (cc := cX0_needLiteral) (maxL := 2) (ret := none) (by decide) rfl ?_
  intro p e s m args below meth c s₁ B hml hnt hv
  obtain ⟨rfl, hsz, hP, hK, hD0, hT⟩ := hv
  have hx := B.exec
  have hb := B.bytes
  have hr := B.returns
  have hts := atoms_spec (ws := wsX0_needLiteral) B.pre
  have hown : s.vm.findClass RX0 = some m.cls := findClass_of_methodNamed B.named
  have hlocks := B.notSynchronized
  have hl := lv_entry ([.ref h0, .int x]) (n := 2) (Nat.le_of_ble_eq_true rfl)
  rw [lg_entry_eq]
  generalize (lg_sl ([.ref h0, .int x]) ++ List.replicate (2 - (lg_sl ([.ref h0, .int x])).length) Slot.unset).toArray = ls at hl ⊢
  have hl : lv_has ls 2 [(0, .ref h0), (1, .int x)] := hl
  subst hsz
  have hD := hD0.self (sz := s.heap.size)
  generalize hAe : va_A (gW h0 cI n ad ar iv) s.heap.size = A at hD hT ⊢
  have hA : ∀ q : Nat, s.heap.size ≤ q → A q := fun q h => by rw [← hAe]; exact Or.inr h
  have hS : va_S A s.heap s.heap [] := va_S.rf
  refine lv_iload_n hx hb dX0_needLiteral_0 rfl (lv_at hl 1 rfl) ?_
  refine lv_if_lt (tgt := 14) hx hb dX0_needLiteral_1 (by decide) (fun c1 => ?_) (fun c1 => ?_)
  · obtain ⟨sa, hsa⟩ := hT.2.2.2
    exact vx_throwS (cls := IAE) (names := iae_names) (A := A) hx hb hl9 hown (by decide) (by decide) (hts _ (mG wm_207)) (hts _ (mG wm_44)) (hsa (108, "no such literal") (List.mem_of_getElem? (i := 5) rfl)) (hT.hat hts) iae_ot hT.1 hT.2.1 hS (by rw [hml]; exact hl.1) dX0_needLiteral_14 dX0_needLiteral_17 dX0_needLiteral_18 dX0_needLiteral_20 dX0_needLiteral_23 (fun x h => (hnt x h).elim) (Nat.le_of_ble_eq_true rfl) (Nat.le_of_ble_eq_true rfl) (by show _ + 1 ≤ 1; omega) (by show _ + 6 ≤ 6; omega) hlocks (fun t hvm hz hk => ⟨(n, ad, ar, iv), ⟨(ct_lit_neg c1 hn9), rfl⟩, ⟨rfl, gb_kept hP hk, va_K.moved hvm hK, hD⟩, gb_F hS hz hk⟩) hS.2.2 (by omega) (by omega)
  · refine lv_iload_n hx hb dX0_needLiteral_4 rfl (lv_at hl 1 rfl) ?_
    refine lv_iconst (v := 1) hx hb dX0_needLiteral_5 (by decide) ?_
    refine lv_ishr hx hb dX0_needLiteral_6 ?_
    refine lv_topi (fun v6 e6 => ?_)
    refine lv_aload_n hx hb dX0_needLiteral_7 rfl (lv_at hl 0 rfl) ?_
    refine va_get (D := D) (ci := 0) (v := .int (iv 0)) (C := RX0) (T := TX0) (N := 11) hx hb hts inX0 hown hK hP 0 rfl rfl 8 (by decide) (hts _ (mG wm_61)) (fun _ h9 => h9) rfl dX0_needLiteral_8 ?_
    refine lv_icmp_lt (tgt := 24) hx hb dX0_needLiteral_11 (by decide) (fun c11 => ?_) (fun c11 => ?_)
    · refine W.widen (k := 1) (n := 6) (by omega) (by omega) ?_
      refine vx_ret ?_
      exact W.vret hx hb hr (fun t ht hW => ⟨⟨(n, ad, ar, iv), rfl, ⟨ct_lit_ok hn9 c1 (by rw [← hnc, ← e6]; exact c11), rfl⟩, by rw [ht]; exact hP, va_K.moved hW.alike hK, hD⟩, hS.F ht⟩) hS.2.2 dX0_needLiteral_24
    · obtain ⟨sa, hsa⟩ := hT.2.2.2
      exact vx_throwS (cls := IAE) (names := iae_names) (A := A) hx hb hl9 hown (by decide) (by decide) (hts _ (mG wm_207)) (hts _ (mG wm_44)) (hsa (108, "no such literal") (List.mem_of_getElem? (i := 5) rfl)) (hT.hat hts) iae_ot hT.1 hT.2.1 hS (by rw [hml]; exact hl.1) dX0_needLiteral_14 dX0_needLiteral_17 dX0_needLiteral_18 dX0_needLiteral_20 dX0_needLiteral_23 (fun x h => (hnt x h).elim) (Nat.le_of_ble_eq_true rfl) (Nat.le_of_ble_eq_true rfl) (by show _ + 1 ≤ 1; omega) (by show _ + 6 ≤ 6; omega) hlocks (fun t hvm hz hk => ⟨(n, ad, ar, iv), ⟨(ct_lit_big hn9 (by rw [← hnc, ← e6]; exact c11)), rfl⟩, ⟨rfl, gb_kept hP hk, va_K.moved hvm hK, hD⟩, gb_F hS hz hk⟩) hS.2.2 (by omega) (by omega)
set_option maxHeartbeats 4000000 in
set_option maxRecDepth 100000 in
/-- needNode -/
theorem c_needNode (l : Launch) (hl9 : l.stackTraces = false) (D : va_G) (h0 : Nat) (cI : ClassId) (n : Nat) (ad : Nat → Nat) (ar : Nat → Nat → Int32) (iv : Nat → Int32) (sz : Nat) (x : Int32) (nc : Nat) (hnc : iv 0 = nI nc) (hn9 : nc < 2 ^ 30) : vx_Met l yX0_needNode wsX0_needNode ({ frames := 6, cells := 1, slots := 6, locals := 90 }) (tP D (gW h0 cI n ad ar iv) [(cI, .int)] sz [.ref h0, .int x]) (va_Qv (fun u : GS => ct_nod nc x ∧ u = (n, ad, ar, iv)) (gb_at D cI (va_A (gW h0 cI n ad ar iv) sz) h0) (va_A (gW h0 cI n ad ar iv) sz)) (gb_xc D cI (va_A (gW h0 cI n ad ar iv) sz) h0 (n, ad, ar, iv) (¬ ct_nod nc x)) (1) (6) (va_A (gW h0 cI n ad ar iv) sz) := by
  refine vx_ofW (cc := cX0_needNode) (maxL := 2) (ret := none) (by decide) rfl ?_
  intro p e s m args below meth c s₁ B hml hnt hv
  obtain ⟨rfl, hsz, hP, hK, hD0, hT⟩ := hv
  have hx := B.exec
  have hb := B.bytes
  have hr := B.returns
  have hts := atoms_spec (ws := wsX0_needNode) B.pre
  have hown : s.vm.findClass RX0 = some m.cls := findClass_of_methodNamed B.named
  have hlocks := B.notSynchronized
  have hl := lv_entry ([.ref h0, .int x]) (n := 2) (Nat.le_of_ble_eq_true rfl)
  rw [lg_entry_eq]
  generalize (lg_sl ([.ref h0, .int x]) ++ List.replicate (2 - (lg_sl ([.ref h0, .int x])).length) Slot.unset).toArray = ls at hl ⊢
  have hl : lv_has ls 2 [(0, .ref h0), (1, .int x)] := hl
  subst hsz
  have hD := hD0.self (sz := s.heap.size)
  generalize hAe : va_A (gW h0 cI n ad ar iv) s.heap.size = A at hD hT ⊢
  have hA : ∀ q : Nat, s.heap.size ≤ q → A q := fun q h => by rw [← hAe]; exact Or.inr h
  have hS : va_S A s.heap s.heap [] := va_S.rf
  refine lv_iload_n hx hb dX0_needNode_0 rfl (lv_at hl 1 rfl) ?_
  refine lv_if_lt (tgt := 12) hx hb dX0_needNode_1 (by decide) (fun c1 => ?_) (fun c1 => ?_)
  · obtain ⟨sa, hsa⟩ := hT.2.2.2
    exact vx_throwS (cls := IAE) (names := iae_names) (A := A) hx hb hl9 hown (by decide) (by decide) (hts _ (mG wm_207)) (hts _ (mG wm_44)) (hsa (104, "no such node") (List.mem_of_getElem? (i := 3) rfl)) (hT.hat hts) iae_ot hT.1 hT.2.1 hS (by rw [hml]; exact hl.1) dX0_needNode_12 dX0_needNode_15 dX0_needNode_16 dX0_needNode_18 dX0_needNode_21 (fun x h => (hnt x h).elim) (Nat.le_of_ble_eq_true rfl) (Nat.le_of_ble_eq_true rfl) (by show _ + 1 ≤ 1; omega) (by show _ + 6 ≤ 6; omega) hlocks (fun t hvm hz hk => ⟨(n, ad, ar, iv), ⟨(fun z => z.1 c1), rfl⟩, ⟨rfl, gb_kept hP hk, va_K.moved hvm hK, hD⟩, gb_F hS hz hk⟩) hS.2.2 (by omega) (by omega)
  · refine lv_iload_n hx hb dX0_needNode_4 rfl (lv_at hl 1 rfl) ?_
    refine lv_aload_n hx hb dX0_needNode_5 rfl (lv_at hl 0 rfl) ?_
    refine va_get (D := D) (ci := 0) (v := .int (iv 0)) (C := RX0) (T := TX0) (N := 11) hx hb hts inX0 hown hK hP 0 rfl rfl 8 (by decide) (hts _ (mG wm_61)) (fun _ h9 => h9) rfl dX0_needNode_6 ?_
    refine lv_icmp_lt (tgt := 22) hx hb dX0_needNode_9 (by decide) (fun c9 => ?_) (fun c9 => ?_)
    · refine W.widen (k := 1) (n := 6) (by omega) (by omega) ?_
      refine vx_ret ?_
      exact W.vret hx hb hr (fun t ht hW => ⟨⟨(n, ad, ar, iv), rfl, ⟨⟨c1, by rw [← hnc]; exact c9⟩, rfl⟩, by rw [ht]; exact hP, va_K.moved hW.alike hK, hD⟩, hS.F ht⟩) hS.2.2 dX0_needNode_22
    · obtain ⟨sa, hsa⟩ := hT.2.2.2
      exact vx_throwS (cls := IAE) (names := iae_names) (A := A) hx hb hl9 hown (by decide) (by decide) (hts _ (mG wm_207)) (hts _ (mG wm_44)) (hsa (104, "no such node") (List.mem_of_getElem? (i := 3) rfl)) (hT.hat hts) iae_ot hT.1 hT.2.1 hS (by rw [hml]; exact hl.1) dX0_needNode_12 dX0_needNode_15 dX0_needNode_16 dX0_needNode_18 dX0_needNode_21 (fun x h => (hnt x h).elim) (Nat.le_of_ble_eq_true rfl) (Nat.le_of_ble_eq_true rfl) (by show _ + 1 ≤ 1; omega) (by show _ + 6 ≤ 6; omega) hlocks (fun t hvm hz hk => ⟨(n, ad, ar, iv), ⟨(fun z => c9 (by rw [hnc]; exact z.2)), rfl⟩, ⟨rfl, gb_kept hP hk, va_K.moved hvm hK, hD⟩, gb_F hS hz hk⟩) hS.2.2 (by omega) (by omega)
set_option maxHeartbeats 4000000 in
set_option maxRecDepth 100000 in
/-- needInput -/
theorem c_needInput (l : Launch) (hl9 : l.stackTraces = false) (D : va_G) (h0 : Nat) (cI : ClassId) (n : Nat) (ad : Nat → Nat) (ar : Nat → Nat → Int32) (iv : Nat → Int32) (sz : Nat) (x : Int32) (nc : Nat) (hnc : iv 0 = nI nc) (hn9 : nc < 2 ^ 30) (hle : nc ≤ n) (hb9 : n ≤ 65536) : vx_Met l yX0_needInput wsX0_needInput ({ frames := 7, cells := 2, slots := 12, locals := 111 }) (tP D (gW h0 cI n ad ar iv) [(cI, .int)] sz [.ref h0, .int x]) (va_Qv (fun u : GS => (ct_nod nc x ∧ gb_kind ar x = 1) ∧ u = (n, ad, ar, iv)) (gb_at D cI (va_A (gW h0 cI n ad ar iv) sz) h0) (va_A (gW h0 cI n ad ar iv) sz)) (gb_xc D cI (va_A (gW h0 cI n ad ar iv) sz) h0 (n, ad, ar, iv) (¬ (ct_nod nc x ∧ gb_kind ar x = 1))) (2) (12) (va_A (gW h0 cI n ad ar iv) sz) := by
  refine vx_ofW (cc := cX0_needInput) (maxL := 2) (ret := none) (by decide) rfl ?_
  intro p e s m args below meth c s₁ B hml hnt hv
  obtain ⟨rfl, hsz, hP, hK, hD0, hT⟩ := hv
  have hx := B.exec
  have hb := B.bytes
  have hr := B.returns
  have hts := atoms_spec (ws := wsX0_needInput) B.pre
  have hown : s.vm.findClass RX0 = some m.cls := findClass_of_methodNamed B.named
  have hlocks := B.notSynchronized
  have hl := lv_entry ([.ref h0, .int x]) (n := 2) (Nat.le_of_ble_eq_true rfl)
  rw [lg_entry_eq]
  generalize (lg_sl ([.ref h0, .int x]) ++ List.replicate (2 - (lg_sl ([.ref h0, .int x])).length) Slot.unset).toArray = ls at hl ⊢
  have hl : lv_has ls 2 [(0, .ref h0), (1, .int x)] := hl
  subst hsz
  have hD := hD0.self (sz := s.heap.size)
  generalize hAe : va_A (gW h0 cI n ad ar iv) s.heap.size = A at hD hT ⊢
  have hA : ∀ q : Nat, s.heap.size ≤ q → A q := fun q h => by rw [← hAe]; exact Or.inr h
  have hS : va_S A s.heap s.heap [] := va_S.rf
  refine lv_aload_n hx hb dX0_needInput_0 rfl (lv_at hl 0 rfl) ?_
  refine lv_iload_n hx hb dX0_needInput_1 rfl (lv_at hl 1 rfl) ?_
  have hFc := va_free (wc := (gW h0 cI n ad ar iv)) hD hS hA [0, 1, 2, 3, 4, 5, 6, 7, 8] rfl
  refine vx_callv (vx_runV (As := [.int x]) (rest := []) ⟨hx, hb, hml, hown, hts⟩ (c_needNode l hl9 D h0 cI n ad ar iv s.heap.size x nc hnc hn9) (cwV 1 hts gX0_needInput_X0_needNode rfl rfl rfl (by decide +kernel) ⟨Nat.le_of_ble_eq_true rfl, Nat.le_of_ble_eq_true rfl⟩) (tP_V hK hP hD (va_recv hK hP (ci := 0) (q0 := 0) rfl rfl) hT hS hFc) rfl rfl hl.1 rfl (lv_room (Nat.le_of_ble_eq_true rfl)) dX0_needInput_2 ⟨by show _ + _ ≤ 2; omega, by show _ + _ ≤ 12; omega⟩) hS (fun q _ h => hFc q h) hFc (fun q _ h => hFc q h) (fun E ce q9 u t H1 locs ht hvm e2 hB hz1 hk1 hS hcell hcv hcl => ?_) (fun u t H1 locs ht hvm e2 hB hz1 hk1 hS => ?_)
  · obtain ⟨e2, rfl⟩ := e2
    obtain ⟨rfl, hP1, hK1, hD1⟩ := hB
    rw [ht] at hP1
    have hK := va_K.moved hvm.symm hK1
    have hD : va_D A (gW h0 cI n ad ar iv) := hD1.weaken (fun k q _ h => hFc q.1 h)
    exact vx_out (fun x h => (hnt x h).elim) hlocks hcell hcv hcl (fun t' ht' hvm' => ⟨(n, ad, ar, iv), ⟨(fun z => e2 z.1), rfl⟩, ⟨rfl, by rw [ht']; exact hP1, va_K.moved hvm' hK, hD⟩, hS.F ht'⟩) hS.2.2 (by omega) (by omega)
  · obtain ⟨e2, rfl⟩ := e2
    obtain ⟨hP1, hK1, hD1⟩ := hB
    rw [ht] at hP1
    have hK := va_K.moved hvm.symm hK1
    have hP : va_P D vwCl (gW h0 cI n ad ar iv) H1 := hP1
    have hD : va_D A (gW h0 cI n ad ar iv) := hD1.weaken (fun k q _ h => hFc q.1 h)
    clear hP1 hK1 hD1 hk1 hz1 hFc ht
    generalize H1 = H at hP hS ⊢
    have hc7 : vp_in x n := ct_nod_in e2 hn9 hle hb9
    refine lv_aload_n hx hb dX0_needInput_5 rfl (lv_at hl 0 rfl) ?_
    refine lv_iload_n hx hb dX0_needInput_6 rfl (lv_at hl 1 rfl) ?_
    refine vp_callSi (W.runV (As := [.int x]) (rest := []) ⟨hx, hb, hml, hown, hts⟩ (c_kindOf l D h0 cI n ad ar iv x hc7) (cwV 1 hts gX0_needInput_X0_kindOf rfl rfl rfl (by decide +kernel) ⟨Nat.le_of_ble_eq_true rfl, Nat.le_of_ble_eq_true rfl⟩) (rP_V hK hP (va_recv hK hP (ci := 0) (q0 := 0) rfl rfl)) rfl rfl hl.1 rfl (lv_room (Nat.le_of_ble_eq_true rfl)) dX0_needInput_7 ⟨by show _ + _ ≤ 2; omega, by show _ + _ ≤ 12; omega⟩) (fun r7 e7 => ?_)
    refine lv_iconst (v := 1) hx hb dX0_needInput_10 (by decide) ?_
    refine lv_icmp_eq (tgt := 24) hx hb dX0_needInput_11 (by decide) (fun c11 => ?_) (fun c11 => ?_)
    · refine W.widen (k := 2) (n := 12) (by omega) (by omega) ?_
      refine vx_ret ?_
      exact W.vret hx hb hr (fun t ht hW => ⟨⟨(n, ad, ar, iv), rfl, ⟨⟨e2, by rw [← e7]; exact c11⟩, rfl⟩, by rw [ht]; exact hP, va_K.moved hW.alike hK, hD⟩, hS.F ht⟩) hS.2.2 dX0_needInput_24
    · obtain ⟨sa, hsa⟩ := hT.2.2.2
      exact vx_throwS (cls := IAE) (names := iae_names) (A := A) hx hb hl9 hown (by decide) (by decide) (hts _ (mG wm_207)) (hts _ (mG wm_44)) (hsa (106, "the node is no input") (List.mem_of_getElem? (i := 4) rfl)) (hT.hat hts) iae_ot hT.1 hT.2.1 hS (by rw [hml]; exact hl.1) dX0_needInput_14 dX0_needInput_17 dX0_needInput_18 dX0_needInput_20 dX0_needInput_23 (fun x h => (hnt x h).elim) (Nat.le_of_ble_eq_true rfl) (Nat.le_of_ble_eq_true rfl) (by show _ + 1 ≤ 2; omega) (by show _ + 6 ≤ 12; omega) hlocks (fun t hvm hz hk => ⟨(n, ad, ar, iv), ⟨(fun z => c11 (by rw [e7]; exact z.2)), rfl⟩, ⟨rfl, gb_kept hP hk, va_K.moved hvm hK, hD⟩, gb_F hS hz hk⟩) hS.2.2 (by omega) (by omega)
end
section
set_option maxHeartbeats 4000000 in
set_option maxRecDepth 100000 in
/-- and -/
theorem c_and (l : Launch) (hl9 : l.stackTraces = false) (D : va_G) (h0 : Nat) (cI : ClassId) (n : Nat) (ad : Nat → Nat) (ar : Nat → Nat → Int32) (iv : Nat → Int32) (sz : Nat) (x : Int32) (y : Int32) (nc ic : Nat) (g : Ct) (bv : Nat → Bool) (hok : gb_ok n nc ic g bv ar iv) (K : Nat) (hmx : nc + 6 ≤ 20000) (hKK : ct_lit nc x → ct_lit nc y → gb_cap n (ct_an nc g (Int32.toNatClampNeg x) (Int32.toNatClampNeg y)).2.1 ≤ n + K) : vx_Met l yX0_and wsX0_and ({ frames := 7, cells := 2 + K, slots := 12 + 16 * K, locals := 157 }) (tP D (gW h0 cI n ad ar iv) [(cI, .int)] sz [.ref h0, .int x, .int y]) (va_Qi (fun (r : Int32) (u : GS) => ((ct_lit nc x ∧ ct_lit nc y) ∧ gb_po n ic bv (ct_an nc g (Int32.toNatClampNeg x) (Int32.toNatClampNeg y)) r u)) (gb_at D cI (va_A (gW h0 cI n ad ar iv) sz) h0) (va_A (gW h0 cI n ad ar iv) sz)) (gb_xc D cI (va_A (gW h0 cI n ad ar iv) sz) h0 (n, ad, ar, iv) (¬ (ct_lit nc x ∧ ct_lit nc y))) (2 + K) (12 + 16 * K) (va_A (gW h0 cI n ad ar iv) sz) := by
  refine vx_ofW (cc := cX0_and) (maxL := 3) (ret := (some .int)) (by decide) rfl ?_
  intro p e s m args below meth c s₁ B hml hnt hv
  obtain ⟨rfl, hsz, hP, hK, hD0, hT⟩ := hv
  have hx := B.exec
  have hb := B.bytes
  have hr := B.returns
  have hts := atoms_spec (ws := wsX0_and) B.pre
  have hown : s.vm.findClass RX0 = some m.cls := findClass_of_methodNamed B.named
  have hlocks := B.notSynchronized
  have hl := lv_entry ([.ref h0, .int x, .int y]) (n := 3) (Nat.le_of_ble_eq_true rfl)
  rw [lg_entry_eq]
  generalize (lg_sl ([.ref h0, .int x, .int y]) ++ List.replicate (3 - (lg_sl ([.ref h0, .int x, .int y])).length) Slot.unset).toArray = ls at hl ⊢
  have hl : lv_has ls 3 [(0, .ref h0), (1, .int x), (2, .int y)] := hl
  subst hsz
  have hD := hD0.self (sz := s.heap.size)
  generalize hAe : va_A (gW h0 cI n ad ar iv) s.heap.size = A at hD hT ⊢
  have hA : ∀ q : Nat, s.heap.size ≤ q → A q := fun q h => by rw [← hAe]; exact Or.inr h
  have hS : va_S A s.heap s.heap [] := va_S.rf
  have hnc := hok.nc
  have hct := hok.ct
  have hwf := hok.wf
  have h16 := hok.n16
  have hle := hct.2.1
  have hb9 := hct.2.2.1
  have hn9 : nc < 2 ^ 30 := by omega
  refine lv_aload_n hx hb dX0_and_0 rfl (lv_at hl 0 rfl) ?_
  refine lv_iload_n hx hb dX0_and_1 rfl (lv_at hl 1 rfl) ?_
  have hFc := va_free (wc := (gW h0 cI n ad ar iv)) hD hS hA [0, 1, 2, 3, 4, 5, 6, 7, 8] rfl
  refine vx_callv (vx_runV (As := [.int x]) (rest := []) ⟨hx, hb, hml, hown, hts⟩ (c_needLiteral l hl9 D h0 cI n ad ar iv s.heap.size x nc hnc hn9) (cwV 1 hts gX0_and_X0_needLiteral rfl rfl rfl (by decide +kernel) ⟨Nat.le_of_ble_eq_true rfl, Nat.le_of_ble_eq_true rfl⟩) (tP_V hK hP hD (va_recv hK hP (ci := 0) (q0 := 0) rfl rfl) hT hS hFc) rfl rfl hl.1 rfl (lv_room (Nat.le_of_ble_eq_true rfl)) dX0_and_2 ⟨by show _ + _ ≤ 2 + K; omega, by show _ + _ ≤ 12 + 16 * K; omega⟩) hS (fun q _ h => hFc q h) hFc (fun q _ h => hFc q h) (fun E ce q9 u t H1 locs ht hvm e2 hB hz1 hk1 hS hcell hcv hcl => ?_) (fun u t H1 locs ht hvm e2 hB hz1 hk1 hS => ?_)
  · obtain ⟨e2, rfl⟩ := e2
    obtain ⟨rfl, hP1, hK1, hD1⟩ := hB
    rw [ht] at hP1
    have hK := va_K.moved hvm.symm hK1
    have hD : va_D A (gW h0 cI n ad ar iv) := hD1.weaken (fun k q _ h => hFc q.1 h)
    exact vx_out (fun x h => (hnt x h).elim) hlocks hcell hcv hcl (fun t' ht' hvm' => ⟨(n, ad, ar, iv), ⟨(fun z => e2 z.1), rfl⟩, ⟨rfl, by rw [ht']; exact hP1, va_K.moved hvm' hK, hD⟩, hS.F ht'⟩) hS.2.2 (by omega) (by omega)
  · obtain ⟨e2, rfl⟩ := e2
    obtain ⟨hP1, hK1, hD1⟩ := hB
    rw [ht] at hP1
    have hK := va_K.moved hvm.symm hK1
    have hP : va_P D vwCl (gW h0 cI n ad ar iv) H1 := hP1
    have hD : va_D A (gW h0 cI n ad ar iv) := hD1.weaken (fun k q _ h => hFc q.1 h)
    clear hP1 hK1 hD1 hk1 hz1 hFc ht
    generalize H1 = H at hP hS ⊢
    refine lv_aload_n hx hb dX0_and_5 rfl (lv_at hl 0 rfl) ?_
    refine lv_iload_n hx hb dX0_and_6 rfl (lv_at hl 2 rfl) ?_
    have hFc := va_free (wc := (gW h0 cI n ad ar iv)) hD hS hA [0, 1, 2, 3, 4, 5, 6, 7, 8] rfl
    refine vx_callv (vx_runV (As := [.int y]) (rest := []) ⟨hx, hb, hml, hown, hts⟩ (c_needLiteral l hl9 D h0 cI n ad ar iv H.size y nc hnc hn9) (cwV 1 hts gX0_and_X0_needLiteral rfl rfl rfl (by decide +kernel) ⟨Nat.le_of_ble_eq_true rfl, Nat.le_of_ble_eq_true rfl⟩) (tP_V hK hP hD (va_recv hK hP (ci := 0) (q0 := 0) rfl rfl) hT hS hFc) rfl rfl hl.1 rfl (lv_room (Nat.le_of_ble_eq_true rfl)) dX0_and_7 ⟨by show _ + _ ≤ 2 + K; omega, by show _ + _ ≤ 12 + 16 * K; omega⟩) hS (fun q _ h => hFc q h) hFc (fun q _ h => hFc q h) (fun E ce q9 u t H1 locs ht hvm e7 hB hz1 hk1 hS hcell hcv hcl => ?_) (fun u t H1 locs ht hvm e7 hB hz1 hk1 hS => ?_)
    · obtain ⟨e7, rfl⟩ := e7
      obtain ⟨rfl, hP1, hK1, hD1⟩ := hB
      rw [ht] at hP1
      have hK := va_K.moved hvm.symm hK1
      have hD : va_D A (gW h0 cI n ad ar iv) := hD1.weaken (fun k q _ h => hFc q.1 h)
      exact vx_out (fun x h => (hnt x h).elim) hlocks hcell hcv hcl (fun t' ht' hvm' => ⟨(n, ad, ar, iv), ⟨(fun z => e7 z.2), rfl⟩, ⟨rfl, by rw [ht']; exact hP1, va_K.moved hvm' hK, hD⟩, hS.F ht'⟩) hS.2.2 (by omega) (by omega)
    · obtain ⟨e7, rfl⟩ := e7
      obtain ⟨hP1, hK1, hD1⟩ := hB
      rw [ht] at hP1
      have hK := va_K.moved hvm.symm hK1
      have hP : va_P D vwCl (gW h0 cI n ad ar iv) H1 := hP1
      have hD : va_D A (gW h0 cI n ad ar iv) := hD1.weaken (fun k q _ h => hFc q.1 h)
      clear hP1 hK1 hD1 hk1 hz1 hFc ht
      generalize H1 = H at hP hS ⊢
      have hxa := ct_lit_n e2 hn9
      have hyb := ct_lit_n e7 hn9
      have bda1 : ct_bd nc 1 (ct_an nc g (Int32.toNatClampNeg x) (Int32.toNatClampNeg y)) := ct_an_b hwf hxa.2 hyb.2
      have bla1 : (ct_an nc g (Int32.toNatClampNeg x) (Int32.toNatClampNeg y)).1 < 2 * (ct_an nc g (Int32.toNatClampNeg x) (Int32.toNatClampNeg y)).2.1 := bda1.2.1
      have bga1 : nc ≤ (ct_an nc g (Int32.toNatClampNeg x) (Int32.toNatClampNeg y)).2.1 := bda1.2.2.1
      have bha1 : (ct_an nc g (Int32.toNatClampNeg x) (Int32.toNatClampNeg y)).2.1 ≤ nc + 1 := bda1.2.2.2
      have cka1 : n ≤ gb_cap n (ct_an nc g (Int32.toNatClampNeg x) (Int32.toNatClampNeg y)).2.1 := (gb_cap_n n _).1
      have hKb := hKK e2 e7
      refine lv_aload_n hx hb dX0_and_10 rfl (lv_at hl 0 rfl) ?_
      refine lv_iload_n hx hb dX0_and_11 rfl (lv_at hl 1 rfl) ?_
      refine lv_iload_n hx hb dX0_and_12 rfl (lv_at hl 2 rfl) ?_
      have hFc := va_free (wc := (gW h0 cI n ad ar iv)) hD hS hA [0, 1, 2, 3, 4, 5, 6, 7, 8] rfl
      refine va_calli (va_runV (As := [.int x, .int y]) (rest := []) ⟨hx, hb, hml, hown, hts⟩ (c_andOf l D h0 cI n ad ar iv H.size x y (Int32.toNatClampNeg x) (Int32.toNatClampNeg y) nc ic g bv hxa.1 hyb.1 hxa.2 hyb.2 hok (by omega)) (cwV 2 hts gX0_and_X0_andOf rfl rfl rfl (by decide +kernel) ⟨Nat.le_of_ble_eq_true rfl, Nat.le_of_ble_eq_true rfl⟩) (mP_V hK hP hD (va_recv hK hP (ci := 0) (q0 := 0) rfl rfl)) rfl rfl hl.1 rfl (lv_room (Nat.le_of_ble_eq_true rfl)) dX0_and_13 ⟨by show _ + _ ≤ 2 + K; omega, by show _ + _ ≤ 12 + 16 * K; omega⟩) hS (fun q _ h => hFc q h) hFc (fun r13 u t H1 locs ht hvm e13 hB hz1 hk1 hS => ?_)
      obtain ⟨n13, ad13, ar13, iv13⟩ := u
      obtain ⟨hP1, hK1, hD1⟩ := hB
      rw [ht] at hP1
      have hK := va_K.moved hvm.symm hK1
      have hP : va_P D vwCl (gW h0 cI n13 ad13 ar13 iv13) H1 := hP1
      have hD : va_D A (gW h0 cI n13 ad13 ar13 iv13) := hD1.weaken (fun k q _ h => hFc q.1 h)
      clear hP1 hK1 hD1 hk1 hz1 hFc ht
      generalize H1 = H at hP hS ⊢
      try dsimp only at e13
      have ena1 : n13 = gb_cap n (ct_an nc g (Int32.toNatClampNeg x) (Int32.toNatClampNeg y)).2.1 := e13.2.1
      refine W.widen (k := 2 + K) (n := 12 + 16 * K) (by omega) (by omega) ?_
      refine vx_ret ?_
      exact W.iret (v := r13) hx hb hr (fun t ht hW => ⟨⟨r13, (n13, ad13, ar13, iv13), rfl, ⟨⟨e2, e7⟩, e13.1, ena1, e13.2.2⟩, by rw [ht]; exact hP, va_K.moved hW.alike hK, hD⟩, hS.F ht⟩) hS.2.2 dX0_and_16
set_option maxHeartbeats 4000000 in
set_option maxRecDepth 100000 in
/-- join -/
theorem c_join (l : Launch) (hl9 : l.stackTraces = false) (D : va_G) (h0 : Nat) (cI : ClassId) (n : Nat) (ad : Nat → Nat) (ar : Nat → Nat → Int32) (iv : Nat → Int32) (sz : Nat) (x : Int32) (y : Int32) (z : Int32) (nc ic : Nat) (g : Ct) (bv : Nat → Bool) (hok : gb_ok n nc ic g bv ar iv) (K : Nat) (hmx : nc + 6 ≤ 20000) (hKK : (x = 0 ∨ x = 1) → ct_lit nc y → ct_lit nc z → gb_cap n (ct_jn nc g x (Int32.toNatClampNeg y) (Int32.toNatClampNeg z)).2.1 ≤ n + K) : vx_Met l yX0_join wsX0_join ({ frames := 8, cells := 3 + K, slots := 18 + 16 * K, locals := 201 }) (tP D (gW h0 cI n ad ar iv) [(cI, .int)] sz [.ref h0, .int x, .int y, .int z]) (va_Qi (fun (r : Int32) (u : GS) => (((x = 0 ∨ x = 1) ∧ ct_lit nc y ∧ ct_lit nc z) ∧ gb_po n ic bv (ct_jn nc g x (Int32.toNatClampNeg y) (Int32.toNatClampNeg z)) r u)) (gb_at D cI (va_A (gW h0 cI n ad ar iv) sz) h0) (va_A (gW h0 cI n ad ar iv) sz)) (gb_xc D cI (va_A (gW h0 cI n ad ar iv) sz) h0 (n, ad, ar, iv) (¬ ((x = 0 ∨ x = 1) ∧ ct_lit nc y ∧ ct_lit nc z))) (3 + K) (18 + 16 * K) (va_A (gW h0 cI n ad ar iv) sz) := by
  refine vx_ofW (cc := cX0_join) (maxL := 4) (ret := (some .int)) (by decide) rfl ?_
  intro p e s m args below meth c s₁ B hml hnt hv
  obtain ⟨rfl, hsz, hP, hK, hD0, hT⟩ := hv
  have hx := B.exec
  have hb := B.bytes
  have hr := B.returns
  have hts := atoms_spec (ws := wsX0_join) B.pre
  have hown : s.vm.findClass RX0 = some m.cls := findClass_of_methodNamed B.named
  have hlocks := B.notSynchronized
  have hl := lv_entry ([.ref h0, .int x, .int y, .int z]) (n := 4) (Nat.le_of_ble_eq_true rfl)
  rw [lg_entry_eq]
  generalize (lg_sl ([.ref h0, .int x, .int y, .int z]) ++ List.replicate (4 - (lg_sl ([.ref h0, .int x, .int y, .int z])).length) Slot.unset).toArray = ls at hl ⊢
  have hl : lv_has ls 4 [(0, .ref h0), (1, .int x), (2, .int y), (3, .int z)] := hl
  subst hsz
  have hD := hD0.self (sz := s.heap.size)
  generalize hAe : va_A (gW h0 cI n ad ar iv) s.heap.size = A at hD hT ⊢
  have hA : ∀ q : Nat, s.heap.size ≤ q → A q := fun q h => by rw [← hAe]; exact Or.inr h
  have hS : va_S A s.heap s.heap [] := va_S.rf
  have hnc := hok.nc
  have hct := hok.ct
  have hwf := hok.wf
  have h16 := hok.n16
  have hle := hct.2.1
  have hb9 := hct.2.2.1
  have hn9 : nc < 2 ^ 30 := by omega
  refine lv_aload_n hx hb dX0_join_0 rfl (lv_at hl 0 rfl) ?_
  refine lv_iload_n hx hb dX0_join_1 rfl (lv_at hl 2 rfl) ?_
  have hFc := va_free (wc := (gW h0 cI n ad ar iv)) hD hS hA [0, 1, 2, 3, 4, 5, 6, 7, 8] rfl
  refine vx_callv (vx_runV (As := [.int y]) (rest := []) ⟨hx, hb, hml, hown, hts⟩ (c_needLiteral l hl9 D h0 cI n ad ar iv s.heap.size y nc hnc hn9) (cwV 1 hts gX0_join_X0_needLiteral rfl rfl rfl (by decide +kernel) ⟨Nat.le_of_ble_eq_true rfl, Nat.le_of_ble_eq_true rfl⟩) (tP_V hK hP hD (va_recv hK hP (ci := 0) (q0 := 0) rfl rfl) hT hS hFc) rfl rfl hl.1 rfl (lv_room (Nat.le_of_ble_eq_true rfl)) dX0_join_2 ⟨by show _ + _ ≤ 3 + K; omega, by show _ + _ ≤ 18 + 16 * K; omega⟩) hS (fun q _ h => hFc q h) hFc (fun q _ h => hFc q h) (fun E ce q9 u t H1 locs ht hvm e2 hB hz1 hk1 hS hcell hcv hcl => ?_) (fun u t H1 locs ht hvm e2 hB hz1 hk1 hS => ?_)
  · obtain ⟨e2, rfl⟩ := e2
    obtain ⟨rfl, hP1, hK1, hD1⟩ := hB
    rw [ht] at hP1
    have hK := va_K.moved hvm.symm hK1
    have hD : va_D A (gW h0 cI n ad ar iv) := hD1.weaken (fun k q _ h => hFc q.1 h)
    exact vx_out (fun x h => (hnt x h).elim) hlocks hcell hcv hcl (fun t' ht' hvm' => ⟨(n, ad, ar, iv), ⟨(fun z => e2 z.2.1), rfl⟩, ⟨rfl, by rw [ht']; exact hP1, va_K.moved hvm' hK, hD⟩, hS.F ht'⟩) hS.2.2 (by omega) (by omega)
  · obtain ⟨e2, rfl⟩ := e2
    obtain ⟨hP1, hK1, hD1⟩ := hB
    rw [ht] at hP1
    have hK := va_K.moved hvm.symm hK1
    have hP : va_P D vwCl (gW h0 cI n ad ar iv) H1 := hP1
    have hD : va_D A (gW h0 cI n ad ar iv) := hD1.weaken (fun k q _ h => hFc q.1 h)
    clear hP1 hK1 hD1 hk1 hz1 hFc ht
    generalize H1 = H at hP hS ⊢
    refine lv_aload_n hx hb dX0_join_5 rfl (lv_at hl 0 rfl) ?_
    refine lv_iload_n hx hb dX0_join_6 rfl (lv_at hl 3 rfl) ?_
    have hFc := va_free (wc := (gW h0 cI n ad ar iv)) hD hS hA [0, 1, 2, 3, 4, 5, 6, 7, 8] rfl
    refine vx_callv (vx_runV (As := [.int z]) (rest := []) ⟨hx, hb, hml, hown, hts⟩ (c_needLiteral l hl9 D h0 cI n ad ar iv H.size z nc hnc hn9) (cwV 1 hts gX0_join_X0_needLiteral rfl rfl rfl (by decide +kernel) ⟨Nat.le_of_ble_eq_true rfl, Nat.le_of_ble_eq_true rfl⟩) (tP_V hK hP hD (va_recv hK hP (ci := 0) (q0 := 0) rfl rfl) hT hS hFc) rfl rfl hl.1 rfl (lv_room (Nat.le_of_ble_eq_true rfl)) dX0_join_7 ⟨by show _ + _ ≤ 3 + K; omega, by show _ + _ ≤ 18 + 16 * K; omega⟩) hS (fun q _ h => hFc q h) hFc (fun q _ h => hFc q h) (fun E ce q9 u t H1 locs ht hvm e7 hB hz1 hk1 hS hcell hcv hcl => ?_) (fun u t H1 locs ht hvm e7 hB hz1 hk1 hS => ?_)
    · obtain ⟨e7, rfl⟩ := e7
      obtain ⟨rfl, hP1, hK1, hD1⟩ := hB
      rw [ht] at hP1
      have hK := va_K.moved hvm.symm hK1
      have hD : va_D A (gW h0 cI n ad ar iv) := hD1.weaken (fun k q _ h => hFc q.1 h)
      exact vx_out (fun x h => (hnt x h).elim) hlocks hcell hcv hcl (fun t' ht' hvm' => ⟨(n, ad, ar, iv), ⟨(fun z => e7 z.2.2), rfl⟩, ⟨rfl, by rw [ht']; exact hP1, va_K.moved hvm' hK, hD⟩, hS.F ht'⟩) hS.2.2 (by omega) (by omega)
    · obtain ⟨e7, rfl⟩ := e7
      obtain ⟨hP1, hK1, hD1⟩ := hB
      rw [ht] at hP1
      have hK := va_K.moved hvm.symm hK1
      have hP : va_P D vwCl (gW h0 cI n ad ar iv) H1 := hP1
      have hD : va_D A (gW h0 cI n ad ar iv) := hD1.weaken (fun k q _ h => hFc q.1 h)
      clear hP1 hK1 hD1 hk1 hz1 hFc ht
      generalize H1 = H at hP hS ⊢
      have hya := ct_lit_n e2 hn9
      have hzb := ct_lit_n e7 hn9
      refine lv_iload_n hx hb dX0_join_10 rfl (lv_at hl 1 rfl) ?_
      refine lv_if_ne (tgt := 21) hx hb dX0_join_11 (by decide) (fun c11 => ?_) (fun c11 => ?_)
      · refine lv_iload_n hx hb dX0_join_21 rfl (lv_at hl 1 rfl) ?_
        refine lv_iconst (v := 1) hx hb dX0_join_22 (by decide) ?_
        refine lv_icmp_ne (tgt := 33) hx hb dX0_join_23 (by decide) (fun c23 => ?_) (fun c23 => ?_)
        · obtain ⟨sa, hsa⟩ := hT.2.2.2
          exact vx_throwS (cls := IAE) (names := iae_names) (A := A) hx hb hl9 hown (by decide) (by decide) (hts _ (mG wm_207)) (hts _ (mG wm_44)) (hsa (63, "no such kind of two literals") (List.mem_of_getElem? (i := 0) rfl)) (hT.hat hts) iae_ot hT.1 hT.2.1 hS (by rw [hml]; exact hl.1) dX0_join_33 dX0_join_36 dX0_join_37 dX0_join_39 dX0_join_42 (fun x h => (hnt x h).elim) (Nat.le_of_ble_eq_true rfl) (Nat.le_of_ble_eq_true rfl) (by show _ + 1 ≤ 3 + K; omega) (by show _ + 6 ≤ 18 + 16 * K; omega) hlocks (fun t hvm hz hk => ⟨(n, ad, ar, iv), ⟨(fun z => z.1.elim c11 c23), rfl⟩, ⟨rfl, gb_kept hP hk, va_K.moved hvm hK, hD⟩, gb_F hS hz hk⟩) hS.2.2 (by omega) (by omega)
        · have bdb1 : ct_bd nc 3 (ct_xo nc g (Int32.toNatClampNeg y) (Int32.toNatClampNeg z)) := ct_xo_b hwf hya.2 hzb.2
          have blb1 : (ct_xo nc g (Int32.toNatClampNeg y) (Int32.toNatClampNeg z)).1 < 2 * (ct_xo nc g (Int32.toNatClampNeg y) (Int32.toNatClampNeg z)).2.1 := bdb1.2.1
          have bgb1 : nc ≤ (ct_xo nc g (Int32.toNatClampNeg y) (Int32.toNatClampNeg z)).2.1 := bdb1.2.2.1
          have bhb1 : (ct_xo nc g (Int32.toNatClampNeg y) (Int32.toNatClampNeg z)).2.1 ≤ nc + 3 := bdb1.2.2.2
          have ckb1 : n ≤ gb_cap n (ct_xo nc g (Int32.toNatClampNeg y) (Int32.toNatClampNeg z)).2.1 := (gb_cap_n n _).1
          have hR : (ct_jn nc g x (Int32.toNatClampNeg y) (Int32.toNatClampNeg z)) = (ct_xo nc g (Int32.toNatClampNeg y) (Int32.toNatClampNeg z)) := if_neg c11
          have hKb := hKK (Or.inr c23) e2 e7
          rw [hR] at hKb
          refine lv_aload_n hx hb dX0_join_26 rfl (lv_at hl 0 rfl) ?_
          refine lv_iload_n hx hb dX0_join_27 rfl (lv_at hl 2 rfl) ?_
          refine lv_iload_n hx hb dX0_join_28 rfl (lv_at hl 3 rfl) ?_
          have hFc := va_free (wc := (gW h0 cI n ad ar iv)) hD hS hA [0, 1, 2, 3, 4, 5, 6, 7, 8] rfl
          refine va_calli (va_runV (As := [.int y, .int z]) (rest := []) ⟨hx, hb, hml, hown, hts⟩ (c_xorOf l D h0 cI n ad ar iv H.size y z (Int32.toNatClampNeg y) (Int32.toNatClampNeg z) nc ic g bv hya.1 hzb.1 hya.2 hzb.2 hok (by omega)) (cwV 2 hts gX0_join_X0_xorOf rfl rfl rfl (by decide +kernel) ⟨Nat.le_of_ble_eq_true rfl, Nat.le_of_ble_eq_true rfl⟩) (mP_V hK hP hD (va_recv hK hP (ci := 0) (q0 := 0) rfl rfl)) rfl rfl hl.1 rfl (lv_room (Nat.le_of_ble_eq_true rfl)) dX0_join_29 ⟨by show _ + _ ≤ 3 + K; omega, by show _ + _ ≤ 18 + 16 * K; omega⟩) hS (fun q _ h => hFc q h) hFc (fun r29 u t H1 locs ht hvm e29 hB hz1 hk1 hS => ?_)
          obtain ⟨n29, ad29, ar29, iv29⟩ := u
          obtain ⟨hP1, hK1, hD1⟩ := hB
          rw [ht] at hP1
          have hK := va_K.moved hvm.symm hK1
          have hP : va_P D vwCl (gW h0 cI n29 ad29 ar29 iv29) H1 := hP1
          have hD : va_D A (gW h0 cI n29 ad29 ar29 iv29) := hD1.weaken (fun k q _ h => hFc q.1 h)
          clear hP1 hK1 hD1 hk1 hz1 hFc ht
          generalize H1 = H at hP hS ⊢
          try dsimp only at e29
          have enb1 : n29 = gb_cap n (ct_xo nc g (Int32.toNatClampNeg y) (Int32.toNatClampNeg z)).2.1 := e29.2.1
          refine W.widen (k := 3 + K) (n := 18 + 16 * K) (by omega) (by omega) ?_
          refine vx_ret ?_
          exact W.iret (v := r29) hx hb hr (fun t ht hW => ⟨⟨r29, (n29, ad29, ar29, iv29), rfl, ⟨⟨Or.inr c23, e2, e7⟩, by rw [hR]; exact ⟨e29.1, enb1, e29.2.2⟩⟩, by rw [ht]; exact hP, va_K.moved hW.alike hK, hD⟩, hS.F ht⟩) hS.2.2 dX0_join_32
      · have bda1 : ct_bd nc 1 (ct_or nc g (Int32.toNatClampNeg y) (Int32.toNatClampNeg z)) := ct_or_b hwf hya.2 hzb.2
        have bla1 : (ct_or nc g (Int32.toNatClampNeg y) (Int32.toNatClampNeg z)).1 < 2 * (ct_or nc g (Int32.toNatClampNeg y) (Int32.toNatClampNeg z)).2.1 := bda1.2.1
        have bga1 : nc ≤ (ct_or nc g (Int32.toNatClampNeg y) (Int32.toNatClampNeg z)).2.1 := bda1.2.2.1
        have bha1 : (ct_or nc g (Int32.toNatClampNeg y) (Int32.toNatClampNeg z)).2.1 ≤ nc + 1 := bda1.2.2.2
        have cka1 : n ≤ gb_cap n (ct_or nc g (Int32.toNatClampNeg y) (Int32.toNatClampNeg z)).2.1 := (gb_cap_n n _).1
        have hR : (ct_jn nc g x (Int32.toNatClampNeg y) (Int32.toNatClampNeg z)) = (ct_or nc g (Int32.toNatClampNeg y) (Int32.toNatClampNeg z)) := if_pos c11
        have hKb := hKK (Or.inl c11) e2 e7
        rw [hR] at hKb
        refine lv_aload_n hx hb dX0_join_14 rfl (lv_at hl 0 rfl) ?_
        refine lv_iload_n hx hb dX0_join_15 rfl (lv_at hl 2 rfl) ?_
        refine lv_iload_n hx hb dX0_join_16 rfl (lv_at hl 3 rfl) ?_
        have hFc := va_free (wc := (gW h0 cI n ad ar iv)) hD hS hA [0, 1, 2, 3, 4, 5, 6, 7, 8] rfl
        refine va_calli (va_runV (As := [.int y, .int z]) (rest := []) ⟨hx, hb, hml, hown, hts⟩ (c_orOf l D h0 cI n ad ar iv H.size y z (Int32.toNatClampNeg y) (Int32.toNatClampNeg z) nc ic g bv hya.1 hzb.1 hya.2 hzb.2 hok (by omega)) (cwV 2 hts gX0_join_X0_orOf rfl rfl rfl (by decide +kernel) ⟨Nat.le_of_ble_eq_true rfl, Nat.le_of_ble_eq_true rfl⟩) (mP_V hK hP hD (va_recv hK hP (ci := 0) (q0 := 0) rfl rfl)) rfl rfl hl.1 rfl (lv_room (Nat.le_of_ble_eq_true rfl)) dX0_join_17 ⟨by show _ + _ ≤ 3 + K; omega, by show _ + _ ≤ 18 + 16 * K; omega⟩) hS (fun q _ h => hFc q h) hFc (fun r17 u t H1 locs ht hvm e17 hB hz1 hk1 hS => ?_)
        obtain ⟨n17, ad17, ar17, iv17⟩ := u
        obtain ⟨hP1, hK1, hD1⟩ := hB
        rw [ht] at hP1
        have hK := va_K.moved hvm.symm hK1
        have hP : va_P D vwCl (gW h0 cI n17 ad17 ar17 iv17) H1 := hP1
        have hD : va_D A (gW h0 cI n17 ad17 ar17 iv17) := hD1.weaken (fun k q _ h => hFc q.1 h)
        clear hP1 hK1 hD1 hk1 hz1 hFc ht
        generalize H1 = H at hP hS ⊢
        try dsimp only at e17
        have ena1 : n17 = gb_cap n (ct_or nc g (Int32.toNatClampNeg y) (Int32.toNatClampNeg z)).2.1 := e17.2.1
        refine W.widen (k := 3 + K) (n := 18 + 16 * K) (by omega) (by omega) ?_
        refine vx_ret ?_
        exact W.iret (v := r17) hx hb hr (fun t ht hW => ⟨⟨r17, (n17, ad17, ar17, iv17), rfl, ⟨⟨Or.inl c11, e2, e7⟩, by rw [hR]; exact ⟨e17.1, ena1, e17.2.2⟩⟩, by rw [ht]; exact hP, va_K.moved hW.alike hK, hD⟩, hS.F ht⟩) hS.2.2 dX0_join_20
set_option maxHeartbeats 4000000 in
set_option maxRecDepth 100000 in
/-- three -/
theorem c_three (l : Launch) (hl9 : l.stackTraces = false) (D : va_G) (h0 : Nat) (cI : ClassId) (n : Nat) (ad : Nat → Nat) (ar : Nat → Nat → Int32) (iv : Nat → Int32) (sz : Nat) (x : Int32) (y : Int32) (z : Int32) (w : Int32) (nc ic : Nat) (g : Ct) (bv : Nat → Bool) (hok : gb_ok n nc ic g bv ar iv) (K : Nat) (hmx : nc + 6 ≤ 20000) (hKK : (x = 0 ∨ x = 1 ∨ x = 2) → ct_lit nc y → ct_lit nc z → ct_lit nc w → gb_cap n (ct_th nc g x (Int32.toNatClampNeg y) (Int32.toNatClampNeg z) (Int32.toNatClampNeg w)).2.1 ≤ n + K) : vx_Met l yX0_three wsX0_three ({ frames := 8, cells := 4 + K, slots := 24 + 16 * K, locals := 202 }) (tP D (gW h0 cI n ad ar iv) [(cI, .int)] sz [.ref h0, .int x, .int y, .int z, .int w]) (va_Qi (fun (r : Int32) (u : GS) => (((x = 0 ∨ x = 1 ∨ x = 2) ∧ ct_lit nc y ∧ ct_lit nc z ∧ ct_lit nc w) ∧ gb_po n ic bv (ct_th nc g x (Int32.toNatClampNeg y) (Int32.toNatClampNeg z) (Int32.toNatClampNeg w)) r u)) (gb_at D cI (va_A (gW h0 cI n ad ar iv) sz) h0) (va_A (gW h0 cI n ad ar iv) sz)) (gb_xc D cI (va_A (gW h0 cI n ad ar iv) sz) h0 (n, ad, ar, iv) (¬ ((x = 0 ∨ x = 1 ∨ x = 2) ∧ ct_lit nc y ∧ ct_lit nc z ∧ ct_lit nc w))) (4 + K) (24 + 16 * K) (va_A (gW h0 cI n ad ar iv) sz) := by
  refine vx_ofW (cc := cX0_three) (maxL := 7) (ret := (some .int)) (by decide) rfl ?_
  intro p e s m args below meth c s₁ B hml hnt hv
  obtain ⟨rfl, hsz, hP, hK, hD0, hT⟩ := hv
  have hx := B.exec
  have hb := B.bytes
  have hr := B.returns
  have hts := atoms_spec (ws := wsX0_three) B.pre
  have hown : s.vm.findClass RX0 = some m.cls := findClass_of_methodNamed B.named
  have hlocks := B.notSynchronized
  have hl := lv_entry ([.ref h0, .int x, .int y, .int z, .int w]) (n := 7) (Nat.le_of_ble_eq_true rfl)
  rw [lg_entry_eq]
  generalize (lg_sl ([.ref h0, .int x, .int y, .int z, .int w]) ++ List.replicate (7 - (lg_sl ([.ref h0, .int x, .int y, .int z, .int w])).length) Slot.unset).toArray = ls at hl ⊢
  have hl : lv_has ls 7 [(0, .ref h0), (1, .int x), (2, .int y), (3, .int z), (4, .int w)] := hl
  subst hsz
  have hD := hD0.self (sz := s.heap.size)
  generalize hAe : va_A (gW h0 cI n ad ar iv) s.heap.size = A at hD hT ⊢
  have hA : ∀ q : Nat, s.heap.size ≤ q → A q := fun q h => by rw [← hAe]; exact Or.inr h
  have hS : va_S A s.heap s.heap [] := va_S.rf
  have hnc := hok.nc
  have hct := hok.ct
  have hwf := hok.wf
  have h16 := hok.n16
  have hle := hct.2.1
  have hb9 := hct.2.2.1
  have hn9 : nc < 2 ^ 30 := by omega
  refine lv_aload_n hx hb dX0_three_0 rfl (lv_at hl 0 rfl) ?_
  refine lv_iload_n hx hb dX0_three_1 rfl (lv_at hl 2 rfl) ?_
  have hFc := va_free (wc := (gW h0 cI n ad ar iv)) hD hS hA [0, 1, 2, 3, 4, 5, 6, 7, 8] rfl
  refine vx_callv (vx_runV (As := [.int y]) (rest := []) ⟨hx, hb, hml, hown, hts⟩ (c_needLiteral l hl9 D h0 cI n ad ar iv s.heap.size y nc hnc hn9) (cwV 1 hts gX0_three_X0_needLiteral rfl rfl rfl (by decide +kernel) ⟨Nat.le_of_ble_eq_true rfl, Nat.le_of_ble_eq_true rfl⟩) (tP_V hK hP hD (va_recv hK hP (ci := 0) (q0 := 0) rfl rfl) hT hS hFc) rfl rfl hl.1 rfl (lv_room (Nat.le_of_ble_eq_true rfl)) dX0_three_2 ⟨by show _ + _ ≤ 4 + K; omega, by show _ + _ ≤ 24 + 16 * K; omega⟩) hS (fun q _ h => hFc q h) hFc (fun q _ h => hFc q h) (fun E ce q9 u t H1 locs ht hvm e2 hB hz1 hk1 hS hcell hcv hcl => ?_) (fun u t H1 locs ht hvm e2 hB hz1 hk1 hS => ?_)
  · obtain ⟨e2, rfl⟩ := e2
    obtain ⟨rfl, hP1, hK1, hD1⟩ := hB
    rw [ht] at hP1
    have hK := va_K.moved hvm.symm hK1
    have hD : va_D A (gW h0 cI n ad ar iv) := hD1.weaken (fun k q _ h => hFc q.1 h)
    exact vx_out (fun x h => (hnt x h).elim) hlocks hcell hcv hcl (fun t' ht' hvm' => ⟨(n, ad, ar, iv), ⟨(fun z => e2 z.2.1), rfl⟩, ⟨rfl, by rw [ht']; exact hP1, va_K.moved hvm' hK, hD⟩, hS.F ht'⟩) hS.2.2 (by omega) (by omega)
  · obtain ⟨e2, rfl⟩ := e2
    obtain ⟨hP1, hK1, hD1⟩ := hB
    rw [ht] at hP1
    have hK := va_K.moved hvm.symm hK1
    have hP : va_P D vwCl (gW h0 cI n ad ar iv) H1 := hP1
    have hD : va_D A (gW h0 cI n ad ar iv) := hD1.weaken (fun k q _ h => hFc q.1 h)
    clear hP1 hK1 hD1 hk1 hz1 hFc ht
    generalize H1 = H at hP hS ⊢
    refine lv_aload_n hx hb dX0_three_5 rfl (lv_at hl 0 rfl) ?_
    refine lv_iload_n hx hb dX0_three_6 rfl (lv_at hl 3 rfl) ?_
    have hFc := va_free (wc := (gW h0 cI n ad ar iv)) hD hS hA [0, 1, 2, 3, 4, 5, 6, 7, 8] rfl
    refine vx_callv (vx_runV (As := [.int z]) (rest := []) ⟨hx, hb, hml, hown, hts⟩ (c_needLiteral l hl9 D h0 cI n ad ar iv H.size z nc hnc hn9) (cwV 1 hts gX0_three_X0_needLiteral rfl rfl rfl (by decide +kernel) ⟨Nat.le_of_ble_eq_true rfl, Nat.le_of_ble_eq_true rfl⟩) (tP_V hK hP hD (va_recv hK hP (ci := 0) (q0 := 0) rfl rfl) hT hS hFc) rfl rfl hl.1 rfl (lv_room (Nat.le_of_ble_eq_true rfl)) dX0_three_7 ⟨by show _ + _ ≤ 4 + K; omega, by show _ + _ ≤ 24 + 16 * K; omega⟩) hS (fun q _ h => hFc q h) hFc (fun q _ h => hFc q h) (fun E ce q9 u t H1 locs ht hvm e7 hB hz1 hk1 hS hcell hcv hcl => ?_) (fun u t H1 locs ht hvm e7 hB hz1 hk1 hS => ?_)
    · obtain ⟨e7, rfl⟩ := e7
      obtain ⟨rfl, hP1, hK1, hD1⟩ := hB
      rw [ht] at hP1
      have hK := va_K.moved hvm.symm hK1
      have hD : va_D A (gW h0 cI n ad ar iv) := hD1.weaken (fun k q _ h => hFc q.1 h)
      exact vx_out (fun x h => (hnt x h).elim) hlocks hcell hcv hcl (fun t' ht' hvm' => ⟨(n, ad, ar, iv), ⟨(fun z => e7 z.2.2.1), rfl⟩, ⟨rfl, by rw [ht']; exact hP1, va_K.moved hvm' hK, hD⟩, hS.F ht'⟩) hS.2.2 (by omega) (by omega)
    · obtain ⟨e7, rfl⟩ := e7
      obtain ⟨hP1, hK1, hD1⟩ := hB
      rw [ht] at hP1
      have hK := va_K.moved hvm.symm hK1
      have hP : va_P D vwCl (gW h0 cI n ad ar iv) H1 := hP1
      have hD : va_D A (gW h0 cI n ad ar iv) := hD1.weaken (fun k q _ h => hFc q.1 h)
      clear hP1 hK1 hD1 hk1 hz1 hFc ht
      generalize H1 = H at hP hS ⊢
      refine lv_aload_n hx hb dX0_three_10 rfl (lv_at hl 0 rfl) ?_
      refine lv_iload hx hb dX0_three_11 (lv_at hl 4 rfl) ?_
      have hFc := va_free (wc := (gW h0 cI n ad ar iv)) hD hS hA [0, 1, 2, 3, 4, 5, 6, 7, 8] rfl
      refine vx_callv (vx_runV (As := [.int w]) (rest := []) ⟨hx, hb, hml, hown, hts⟩ (c_needLiteral l hl9 D h0 cI n ad ar iv H.size w nc hnc hn9) (cwV 1 hts gX0_three_X0_needLiteral rfl rfl rfl (by decide +kernel) ⟨Nat.le_of_ble_eq_true rfl, Nat.le_of_ble_eq_true rfl⟩) (tP_V hK hP hD (va_recv hK hP (ci := 0) (q0 := 0) rfl rfl) hT hS hFc) rfl rfl hl.1 rfl (lv_room (Nat.le_of_ble_eq_true rfl)) dX0_three_13 ⟨by show _ + _ ≤ 4 + K; omega, by show _ + _ ≤ 24 + 16 * K; omega⟩) hS (fun q _ h => hFc q h) hFc (fun q _ h => hFc q h) (fun E ce q9 u t H1 locs ht hvm e13 hB hz1 hk1 hS hcell hcv hcl => ?_) (fun u t H1 locs ht hvm e13 hB hz1 hk1 hS => ?_)
      · obtain ⟨e13, rfl⟩ := e13
        obtain ⟨rfl, hP1, hK1, hD1⟩ := hB
        rw [ht] at hP1
        have hK := va_K.moved hvm.symm hK1
        have hD : va_D A (gW h0 cI n ad ar iv) := hD1.weaken (fun k q _ h => hFc q.1 h)
        exact vx_out (fun x h => (hnt x h).elim) hlocks hcell hcv hcl (fun t' ht' hvm' => ⟨(n, ad, ar, iv), ⟨(fun z => e13 z.2.2.2), rfl⟩, ⟨rfl, by rw [ht']; exact hP1, va_K.moved hvm' hK, hD⟩, hS.F ht'⟩) hS.2.2 (by omega) (by omega)
      · obtain ⟨e13, rfl⟩ := e13
        obtain ⟨hP1, hK1, hD1⟩ := hB
        rw [ht] at hP1
        have hK := va_K.moved hvm.symm hK1
        have hP : va_P D vwCl (gW h0 cI n ad ar iv) H1 := hP1
        have hD : va_D A (gW h0 cI n ad ar iv) := hD1.weaken (fun k q _ h => hFc q.1 h)
        clear hP1 hK1 hD1 hk1 hz1 hFc ht
        generalize H1 = H at hP hS ⊢
        have hya := ct_lit_n e2 hn9
        have hzb := ct_lit_n e7 hn9
        have hwc := ct_lit_n e13 hn9
        refine lv_iload_n hx hb dX0_three_16 rfl (lv_at hl 1 rfl) ?_
        refine lv_if_ne (tgt := 29) hx hb dX0_three_17 (by decide) (fun c17 => ?_) (fun c17 => ?_)
        · refine lv_iload_n hx hb dX0_three_29 rfl (lv_at hl 1 rfl) ?_
          refine lv_iconst (v := 1) hx hb dX0_three_30 (by decide) ?_
          refine lv_icmp_ne (tgt := 47) hx hb dX0_three_31 (by decide) (fun c31 => ?_) (fun c31 => ?_)
          · refine lv_iload_n hx hb dX0_three_47 rfl (lv_at hl 1 rfl) ?_
            refine lv_iconst (v := 2) hx hb dX0_three_48 (by decide) ?_
            refine lv_icmp_ne (tgt := 83) hx hb dX0_three_49 (by decide) (fun c49 => ?_) (fun c49 => ?_)
            · obtain ⟨sa, hsa⟩ := hT.2.2.2
              exact vx_throwS (cls := IAE) (names := iae_names) (A := A) hx hb hl9 hown (by decide) (by decide) (hts _ (mG wm_207)) (hts _ (mG wm_44)) (hsa (72, "no such kind of three literals") (List.mem_of_getElem? (i := 1) rfl)) (hT.hat hts) iae_ot hT.1 hT.2.1 hS (by rw [hml]; exact hl.1) dX0_three_83 dX0_three_86 dX0_three_87 dX0_three_89 dX0_three_92 (fun x h => (hnt x h).elim) (Nat.le_of_ble_eq_true rfl) (Nat.le_of_ble_eq_true rfl) (by show _ + 1 ≤ 4 + K; omega) (by show _ + 6 ≤ 24 + 16 * K; omega) hlocks (fun t hvm hz hk => ⟨(n, ad, ar, iv), ⟨(fun z => z.1.elim c17 (fun z => z.elim c31 c49)), rfl⟩, ⟨rfl, gb_kept hP hk, va_K.moved hvm hK, hD⟩, gb_F hS hz hk⟩) hS.2.2 (by omega) (by omega)
            · have bdc1 : ct_bd nc 1 (ct_an nc g (Int32.toNatClampNeg y) (Int32.toNatClampNeg z)) := ct_an_b hwf hya.2 hzb.2
              have blc1 : (ct_an nc g (Int32.toNatClampNeg y) (Int32.toNatClampNeg z)).1 < 2 * (ct_an nc g (Int32.toNatClampNeg y) (Int32.toNatClampNeg z)).2.1 := bdc1.2.1
              have bgc1 : nc ≤ (ct_an nc g (Int32.toNatClampNeg y) (Int32.toNatClampNeg z)).2.1 := bdc1.2.2.1
              have bhc1 : (ct_an nc g (Int32.toNatClampNeg y) (Int32.toNatClampNeg z)).2.1 ≤ nc + 1 := bdc1.2.2.2
              have ckc1 : n ≤ gb_cap n (ct_an nc g (Int32.toNatClampNeg y) (Int32.toNatClampNeg z)).2.1 := (gb_cap_n n _).1
              have bdc2 : ct_bd (ct_an nc g (Int32.toNatClampNeg y) (Int32.toNatClampNeg z)).2.1 3 (ct_xo (ct_an nc g (Int32.toNatClampNeg y) (Int32.toNatClampNeg z)).2.1 (ct_an nc g (Int32.toNatClampNeg y) (Int32.toNatClampNeg z)).2.2 (Int32.toNatClampNeg y) (Int32.toNatClampNeg z)) := ct_xo_b bdc1.1 (by omega) (by omega)
              have blc2 : (ct_xo (ct_an nc g (Int32.toNatClampNeg y) (Int32.toNatClampNeg z)).2.1 (ct_an nc g (Int32.toNatClampNeg y) (Int32.toNatClampNeg z)).2.2 (Int32.toNatClampNeg y) (Int32.toNatClampNeg z)).1 < 2 * (ct_xo (ct_an nc g (Int32.toNatClampNeg y) (Int32.toNatClampNeg z)).2.1 (ct_an nc g (Int32.toNatClampNeg y) (Int32.toNatClampNeg z)).2.2 (Int32.toNatClampNeg y) (Int32.toNatClampNeg z)).2.1 := bdc2.2.1
              have bgc2 : (ct_an nc g (Int32.toNatClampNeg y) (Int32.toNatClampNeg z)).2.1 ≤ (ct_xo (ct_an nc g (Int32.toNatClampNeg y) (Int32.toNatClampNeg z)).2.1 (ct_an nc g (Int32.toNatClampNeg y) (Int32.toNatClampNeg z)).2.2 (Int32.toNatClampNeg y) (Int32.toNatClampNeg z)).2.1 := bdc2.2.2.1
              have bhc2 : (ct_xo (ct_an nc g (Int32.toNatClampNeg y) (Int32.toNatClampNeg z)).2.1 (ct_an nc g (Int32.toNatClampNeg y) (Int32.toNatClampNeg z)).2.2 (Int32.toNatClampNeg y) (Int32.toNatClampNeg z)).2.1 ≤ (ct_an nc g (Int32.toNatClampNeg y) (Int32.toNatClampNeg z)).2.1 + 3 := bdc2.2.2.2
              have ckc2 : n ≤ gb_cap n (ct_xo (ct_an nc g (Int32.toNatClampNeg y) (Int32.toNatClampNeg z)).2.1 (ct_an nc g (Int32.toNatClampNeg y) (Int32.toNatClampNeg z)).2.2 (Int32.toNatClampNeg y) (Int32.toNatClampNeg z)).2.1 := (gb_cap_n n _).1
              have cmc2 : gb_cap n (ct_an nc g (Int32.toNatClampNeg y) (Int32.toNatClampNeg z)).2.1 ≤ gb_cap n (ct_xo (ct_an nc g (Int32.toNatClampNeg y) (Int32.toNatClampNeg z)).2.1 (ct_an nc g (Int32.toNatClampNeg y) (Int32.toNatClampNeg z)).2.2 (Int32.toNatClampNeg y) (Int32.toNatClampNeg z)).2.1 := gb_cap_mono bdc2.2.2.1
              have cxc2 : gb_cap (gb_cap n (ct_an nc g (Int32.toNatClampNeg y) (Int32.toNatClampNeg z)).2.1) (ct_xo (ct_an nc g (Int32.toNatClampNeg y) (Int32.toNatClampNeg z)).2.1 (ct_an nc g (Int32.toNatClampNeg y) (Int32.toNatClampNeg z)).2.2 (Int32.toNatClampNeg y) (Int32.toNatClampNeg z)).2.1 = gb_cap n (ct_xo (ct_an nc g (Int32.toNatClampNeg y) (Int32.toNatClampNeg z)).2.1 (ct_an nc g (Int32.toNatClampNeg y) (Int32.toNatClampNeg z)).2.2 (Int32.toNatClampNeg y) (Int32.toNatClampNeg z)).2.1 := gb_cap_cap bdc2.2.2.1 (by omega)
              have bdc3 : ct_bd (ct_xo (ct_an nc g (Int32.toNatClampNeg y) (Int32.toNatClampNeg z)).2.1 (ct_an nc g (Int32.toNatClampNeg y) (Int32.toNatClampNeg z)).2.2 (Int32.toNatClampNeg y) (Int32.toNatClampNeg z)).2.1 1 (ct_an (ct_xo (ct_an nc g (Int32.toNatClampNeg y) (Int32.toNatClampNeg z)).2.1 (ct_an nc g (Int32.toNatClampNeg y) (Int32.toNatClampNeg z)).2.2 (Int32.toNatClampNeg y) (Int32.toNatClampNeg z)).2.1 (ct_xo (ct_an nc g (Int32.toNatClampNeg y) (Int32.toNatClampNeg z)).2.1 (ct_an nc g (Int32.toNatClampNeg y) (Int32.toNatClampNeg z)).2.2 (Int32.toNatClampNeg y) (Int32.toNatClampNeg z)).2.2 (Int32.toNatClampNeg w) (ct_xo (ct_an nc g (Int32.toNatClampNeg y) (Int32.toNatClampNeg z)).2.1 (ct_an nc g (Int32.toNatClampNeg y) (Int32.toNatClampNeg z)).2.2 (Int32.toNatClampNeg y) (Int32.toNatClampNeg z)).1) := ct_an_b bdc2.1 (by omega) (by omega)
              have blc3 : (ct_an (ct_xo (ct_an nc g (Int32.toNatClampNeg y) (Int32.toNatClampNeg z)).2.1 (ct_an nc g (Int32.toNatClampNeg y) (Int32.toNatClampNeg z)).2.2 (Int32.toNatClampNeg y) (Int32.toNatClampNeg z)).2.1 (ct_xo (ct_an nc g (Int32.toNatClampNeg y) (Int32.toNatClampNeg z)).2.1 (ct_an nc g (Int32.toNatClampNeg y) (Int32.toNatClampNeg z)).2.2 (Int32.toNatClampNeg y) (Int32.toNatClampNeg z)).2.2 (Int32.toNatClampNeg w) (ct_xo (ct_an nc g (Int32.toNatClampNeg y) (Int32.toNatClampNeg z)).2.1 (ct_an nc g (Int32.toNatClampNeg y) (Int32.toNatClampNeg z)).2.2 (Int32.toNatClampNeg y) (Int32.toNatClampNeg z)).1).1 < 2 * (ct_an (ct_xo (ct_an nc g (Int32.toNatClampNeg y) (Int32.toNatClampNeg z)).2.1 (ct_an nc g (Int32.toNatClampNeg y) (Int32.toNatClampNeg z)).2.2 (Int32.toNatClampNeg y) (Int32.toNatClampNeg z)).2.1 (ct_xo (ct_an nc g (Int32.toNatClampNeg y) (Int32.toNatClampNeg z)).2.1 (ct_an nc g (Int32.toNatClampNeg y) (Int32.toNatClampNeg z)).2.2 (Int32.toNatClampNeg y) (Int32.toNatClampNeg z)).2.2 (Int32.toNatClampNeg w) (ct_xo (ct_an nc g (Int32.toNatClampNeg y) (Int32.toNatClampNeg z)).2.1 (ct_an nc g (Int32.toNatClampNeg y) (Int32.toNatClampNeg z)).2.2 (Int32.toNatClampNeg y) (Int32.toNatClampNeg z)).1).2.1 := bdc3.2.1
              have bgc3 : (ct_xo (ct_an nc g (Int32.toNatClampNeg y) (Int32.toNatClampNeg z)).2.1 (ct_an nc g (Int32.toNatClampNeg y) (Int32.toNatClampNeg z)).2.2 (Int32.toNatClampNeg y) (Int32.toNatClampNeg z)).2.1 ≤ (ct_an (ct_xo (ct_an nc g (Int32.toNatClampNeg y) (Int32.toNatClampNeg z)).2.1 (ct_an nc g (Int32.toNatClampNeg y) (Int32.toNatClampNeg z)).2.2 (Int32.toNatClampNeg y) (Int32.toNatClampNeg z)).2.1 (ct_xo (ct_an nc g (Int32.toNatClampNeg y) (Int32.toNatClampNeg z)).2.1 (ct_an nc g (Int32.toNatClampNeg y) (Int32.toNatClampNeg z)).2.2 (Int32.toNatClampNeg y) (Int32.toNatClampNeg z)).2.2 (Int32.toNatClampNeg w) (ct_xo (ct_an nc g (Int32.toNatClampNeg y) (Int32.toNatClampNeg z)).2.1 (ct_an nc g (Int32.toNatClampNeg y) (Int32.toNatClampNeg z)).2.2 (Int32.toNatClampNeg y) (Int32.toNatClampNeg z)).1).2.1 := bdc3.2.2.1
              have bhc3 : (ct_an (ct_xo (ct_an nc g (Int32.toNatClampNeg y) (Int32.toNatClampNeg z)).2.1 (ct_an nc g (Int32.toNatClampNeg y) (Int32.toNatClampNeg z)).2.2 (Int32.toNatClampNeg y) (Int32.toNatClampNeg z)).2.1 (ct_xo (ct_an nc g (Int32.toNatClampNeg y) (Int32.toNatClampNeg z)).2.1 (ct_an nc g (Int32.toNatClampNeg y) (Int32.toNatClampNeg z)).2.2 (Int32.toNatClampNeg y) (Int32.toNatClampNeg z)).2.2 (Int32.toNatClampNeg w) (ct_xo (ct_an nc g (Int32.toNatClampNeg y) (Int32.toNatClampNeg z)).2.1 (ct_an nc g (Int32.toNatClampNeg y) (Int32.toNatClampNeg z)).2.2 (Int32.toNatClampNeg y) (Int32.toNatClampNeg z)).1).2.1 ≤ (ct_xo (ct_an nc g (Int32.toNatClampNeg y) (Int32.toNatClampNeg z)).2.1 (ct_an nc g (Int32.toNatClampNeg y) (Int32.toNatClampNeg z)).2.2 (Int32.toNatClampNeg y) (Int32.toNatClampNeg z)).2.1 + 1 := bdc3.2.2.2
              have ckc3 : n ≤ gb_cap n (ct_an (ct_xo (ct_an nc g (Int32.toNatClampNeg y) (Int32.toNatClampNeg z)).2.1 (ct_an nc g (Int32.toNatClampNeg y) (Int32.toNatClampNeg z)).2.2 (Int32.toNatClampNeg y) (Int32.toNatClampNeg z)).2.1 (ct_xo (ct_an nc g (Int32.toNatClampNeg y) (Int32.toNatClampNeg z)).2.1 (ct_an nc g (Int32.toNatClampNeg y) (Int32.toNatClampNeg z)).2.2 (Int32.toNatClampNeg y) (Int32.toNatClampNeg z)).2.2 (Int32.toNatClampNeg w) (ct_xo (ct_an nc g (Int32.toNatClampNeg y) (Int32.toNatClampNeg z)).2.1 (ct_an nc g (Int32.toNatClampNeg y) (Int32.toNatClampNeg z)).2.2 (Int32.toNatClampNeg y) (Int32.toNatClampNeg z)).1).2.1 := (gb_cap_n n _).1
              have cmc3 : gb_cap n (ct_xo (ct_an nc g (Int32.toNatClampNeg y) (Int32.toNatClampNeg z)).2.1 (ct_an nc g (Int32.toNatClampNeg y) (Int32.toNatClampNeg z)).2.2 (Int32.toNatClampNeg y) (Int32.toNatClampNeg z)).2.1 ≤ gb_cap n (ct_an (ct_xo (ct_an nc g (Int32.toNatClampNeg y) (Int32.toNatClampNeg z)).2.1 (ct_an nc g (Int32.toNatClampNeg y) (Int32.toNatClampNeg z)).2.2 (Int32.toNatClampNeg y) (Int32.toNatClampNeg z)).2.1 (ct_xo (ct_an nc g (Int32.toNatClampNeg y) (Int32.toNatClampNeg z)).2.1 (ct_an nc g (Int32.toNatClampNeg y) (Int32.toNatClampNeg z)).2.2 (Int32.toNatClampNeg y) (Int32.toNatClampNeg z)).2.2 (Int32.toNatClampNeg w) (ct_xo (ct_an nc g (Int32.toNatClampNeg y) (Int32.toNatClampNeg z)).2.1 (ct_an nc g (Int32.toNatClampNeg y) (Int32.toNatClampNeg z)).2.2 (Int32.toNatClampNeg y) (Int32.toNatClampNeg z)).1).2.1 := gb_cap_mono bdc3.2.2.1
              have cxc3 : gb_cap (gb_cap n (ct_xo (ct_an nc g (Int32.toNatClampNeg y) (Int32.toNatClampNeg z)).2.1 (ct_an nc g (Int32.toNatClampNeg y) (Int32.toNatClampNeg z)).2.2 (Int32.toNatClampNeg y) (Int32.toNatClampNeg z)).2.1) (ct_an (ct_xo (ct_an nc g (Int32.toNatClampNeg y) (Int32.toNatClampNeg z)).2.1 (ct_an nc g (Int32.toNatClampNeg y) (Int32.toNatClampNeg z)).2.2 (Int32.toNatClampNeg y) (Int32.toNatClampNeg z)).2.1 (ct_xo (ct_an nc g (Int32.toNatClampNeg y) (Int32.toNatClampNeg z)).2.1 (ct_an nc g (Int32.toNatClampNeg y) (Int32.toNatClampNeg z)).2.2 (Int32.toNatClampNeg y) (Int32.toNatClampNeg z)).2.2 (Int32.toNatClampNeg w) (ct_xo (ct_an nc g (Int32.toNatClampNeg y) (Int32.toNatClampNeg z)).2.1 (ct_an nc g (Int32.toNatClampNeg y) (Int32.toNatClampNeg z)).2.2 (Int32.toNatClampNeg y) (Int32.toNatClampNeg z)).1).2.1 = gb_cap n (ct_an (ct_xo (ct_an nc g (Int32.toNatClampNeg y) (Int32.toNatClampNeg z)).2.1 (ct_an nc g (Int32.toNatClampNeg y) (Int32.toNatClampNeg z)).2.2 (Int32.toNatClampNeg y) (Int32.toNatClampNeg z)).2.1 (ct_xo (ct_an nc g (Int32.toNatClampNeg y) (Int32.toNatClampNeg z)).2.1 (ct_an nc g (Int32.toNatClampNeg y) (Int32.toNatClampNeg z)).2.2 (Int32.toNatClampNeg y) (Int32.toNatClampNeg z)).2.2 (Int32.toNatClampNeg w) (ct_xo (ct_an nc g (Int32.toNatClampNeg y) (Int32.toNatClampNeg z)).2.1 (ct_an nc g (Int32.toNatClampNeg y) (Int32.toNatClampNeg z)).2.2 (Int32.toNatClampNeg y) (Int32.toNatClampNeg z)).1).2.1 := gb_cap_cap bdc3.2.2.1 (by omega)
              have bdc4 : ct_bd (ct_an (ct_xo (ct_an nc g (Int32.toNatClampNeg y) (Int32.toNatClampNeg z)).2.1 (ct_an nc g (Int32.toNatClampNeg y) (Int32.toNatClampNeg z)).2.2 (Int32.toNatClampNeg y) (Int32.toNatClampNeg z)).2.1 (ct_xo (ct_an nc g (Int32.toNatClampNeg y) (Int32.toNatClampNeg z)).2.1 (ct_an nc g (Int32.toNatClampNeg y) (Int32.toNatClampNeg z)).2.2 (Int32.toNatClampNeg y) (Int32.toNatClampNeg z)).2.2 (Int32.toNatClampNeg w) (ct_xo (ct_an nc g (Int32.toNatClampNeg y) (Int32.toNatClampNeg z)).2.1 (ct_an nc g (Int32.toNatClampNeg y) (Int32.toNatClampNeg z)).2.2 (Int32.toNatClampNeg y) (Int32.toNatClampNeg z)).1).2.1 1 (ct_or (ct_an (ct_xo (ct_an nc g (Int32.toNatClampNeg y) (Int32.toNatClampNeg z)).2.1 (ct_an nc g (Int32.toNatClampNeg y) (Int32.toNatClampNeg z)).2.2 (Int32.toNatClampNeg y) (Int32.toNatClampNeg z)).2.1 (ct_xo (ct_an nc g (Int32.toNatClampNeg y) (Int32.toNatClampNeg z)).2.1 (ct_an nc g (Int32.toNatClampNeg y) (Int32.toNatClampNeg z)).2.2 (Int32.toNatClampNeg y) (Int32.toNatClampNeg z)).2.2 (Int32.toNatClampNeg w) (ct_xo (ct_an nc g (Int32.toNatClampNeg y) (Int32.toNatClampNeg z)).2.1 (ct_an nc g (Int32.toNatClampNeg y) (Int32.toNatClampNeg z)).2.2 (Int32.toNatClampNeg y) (Int32.toNatClampNeg z)).1).2.1 (ct_an (ct_xo (ct_an nc g (Int32.toNatClampNeg y) (Int32.toNatClampNeg z)).2.1 (ct_an nc g (Int32.toNatClampNeg y) (Int32.toNatClampNeg z)).2.2 (Int32.toNatClampNeg y) (Int32.toNatClampNeg z)).2.1 (ct_xo (ct_an nc g (Int32.toNatClampNeg y) (Int32.toNatClampNeg z)).2.1 (ct_an nc g (Int32.toNatClampNeg y) (Int32.toNatClampNeg z)).2.2 (Int32.toNatClampNeg y) (Int32.toNatClampNeg z)).2.2 (Int32.toNatClampNeg w) (ct_xo (ct_an nc g (Int32.toNatClampNeg y) (Int32.toNatClampNeg z)).2.1 (ct_an nc g (Int32.toNatClampNeg y) (Int32.toNatClampNeg z)).2.2 (Int32.toNatClampNeg y) (Int32.toNatClampNeg z)).1).2.2 (ct_an nc g (Int32.toNatClampNeg y) (Int32.toNatClampNeg z)).1 (ct_an (ct_xo (ct_an nc g (Int32.toNatClampNeg y) (Int32.toNatClampNeg z)).2.1 (ct_an nc g (Int32.toNatClampNeg y) (Int32.toNatClampNeg z)).2.2 (Int32.toNatClampNeg y) (Int32.toNatClampNeg z)).2.1 (ct_xo (ct_an nc g (Int32.toNatClampNeg y) (Int32.toNatClampNeg z)).2.1 (ct_an nc g (Int32.toNatClampNeg y) (Int32.toNatClampNeg z)).2.2 (Int32.toNatClampNeg y) (Int32.toNatClampNeg z)).2.2 (Int32.toNatClampNeg w) (ct_xo (ct_an nc g (Int32.toNatClampNeg y) (Int32.toNatClampNeg z)).2.1 (ct_an nc g (Int32.toNatClampNeg y) (Int32.toNatClampNeg z)).2.2 (Int32.toNatClampNeg y) (Int32.toNatClampNeg z)).1).1) := ct_or_b bdc3.1 (by omega) (by omega)
              have blc4 : (ct_or (ct_an (ct_xo (ct_an nc g (Int32.toNatClampNeg y) (Int32.toNatClampNeg z)).2.1 (ct_an nc g (Int32.toNatClampNeg y) (Int32.toNatClampNeg z)).2.2 (Int32.toNatClampNeg y) (Int32.toNatClampNeg z)).2.1 (ct_xo (ct_an nc g (Int32.toNatClampNeg y) (Int32.toNatClampNeg z)).2.1 (ct_an nc g (Int32.toNatClampNeg y) (Int32.toNatClampNeg z)).2.2 (Int32.toNatClampNeg y) (Int32.toNatClampNeg z)).2.2 (Int32.toNatClampNeg w) (ct_xo (ct_an nc g (Int32.toNatClampNeg y) (Int32.toNatClampNeg z)).2.1 (ct_an nc g (Int32.toNatClampNeg y) (Int32.toNatClampNeg z)).2.2 (Int32.toNatClampNeg y) (Int32.toNatClampNeg z)).1).2.1 (ct_an (ct_xo (ct_an nc g (Int32.toNatClampNeg y) (Int32.toNatClampNeg z)).2.1 (ct_an nc g (Int32.toNatClampNeg y) (Int32.toNatClampNeg z)).2.2 (Int32.toNatClampNeg y) (Int32.toNatClampNeg z)).2.1 (ct_xo (ct_an nc g (Int32.toNatClampNeg y) (Int32.toNatClampNeg z)).2.1 (ct_an nc g (Int32.toNatClampNeg y) (Int32.toNatClampNeg z)).2.2 (Int32.toNatClampNeg y) (Int32.toNatClampNeg z)).2.2 (Int32.toNatClampNeg w) (ct_xo (ct_an nc g (Int32.toNatClampNeg y) (Int32.toNatClampNeg z)).2.1 (ct_an nc g (Int32.toNatClampNeg y) (Int32.toNatClampNeg z)).2.2 (Int32.toNatClampNeg y) (Int32.toNatClampNeg z)).1).2.2 (ct_an nc g (Int32.toNatClampNeg y) (Int32.toNatClampNeg z)).1 (ct_an (ct_xo (ct_an nc g (Int32.toNatClampNeg y) (Int32.toNatClampNeg z)).2.1 (ct_an nc g (Int32.toNatClampNeg y) (Int32.toNatClampNeg z)).2.2 (Int32.toNatClampNeg y) (Int32.toNatClampNeg z)).2.1 (ct_xo (ct_an nc g (Int32.toNatClampNeg y) (Int32.toNatClampNeg z)).2.1 (ct_an nc g (Int32.toNatClampNeg y) (Int32.toNatClampNeg z)).2.2 (Int32.toNatClampNeg y) (Int32.toNatClampNeg z)).2.2 (Int32.toNatClampNeg w) (ct_xo (ct_an nc g (Int32.toNatClampNeg y) (Int32.toNatClampNeg z)).2.1 (ct_an nc g (Int32.toNatClampNeg y) (Int32.toNatClampNeg z)).2.2 (Int32.toNatClampNeg y) (Int32.toNatClampNeg z)).1).1).1 < 2 * (ct_or (ct_an (ct_xo (ct_an nc g (Int32.toNatClampNeg y) (Int32.toNatClampNeg z)).2.1 (ct_an nc g (Int32.toNatClampNeg y) (Int32.toNatClampNeg z)).2.2 (Int32.toNatClampNeg y) (Int32.toNatClampNeg z)).2.1 (ct_xo (ct_an nc g (Int32.toNatClampNeg y) (Int32.toNatClampNeg z)).2.1 (ct_an nc g (Int32.toNatClampNeg y) (Int32.toNatClampNeg z)).2.2 (Int32.toNatClampNeg y) (Int32.toNatClampNeg z)).2.2 (Int32.toNatClampNeg w) (ct_xo (ct_an nc g (Int32.toNatClampNeg y) (Int32.toNatClampNeg z)).2.1 (ct_an nc g (Int32.toNatClampNeg y) (Int32.toNatClampNeg z)).2.2 (Int32.toNatClampNeg y) (Int32.toNatClampNeg z)).1).2.1 (ct_an (ct_xo (ct_an nc g (Int32.toNatClampNeg y) (Int32.toNatClampNeg z)).2.1 (ct_an nc g (Int32.toNatClampNeg y) (Int32.toNatClampNeg z)).2.2 (Int32.toNatClampNeg y) (Int32.toNatClampNeg z)).2.1 (ct_xo (ct_an nc g (Int32.toNatClampNeg y) (Int32.toNatClampNeg z)).2.1 (ct_an nc g (Int32.toNatClampNeg y) (Int32.toNatClampNeg z)).2.2 (Int32.toNatClampNeg y) (Int32.toNatClampNeg z)).2.2 (Int32.toNatClampNeg w) (ct_xo (ct_an nc g (Int32.toNatClampNeg y) (Int32.toNatClampNeg z)).2.1 (ct_an nc g (Int32.toNatClampNeg y) (Int32.toNatClampNeg z)).2.2 (Int32.toNatClampNeg y) (Int32.toNatClampNeg z)).1).2.2 (ct_an nc g (Int32.toNatClampNeg y) (Int32.toNatClampNeg z)).1 (ct_an (ct_xo (ct_an nc g (Int32.toNatClampNeg y) (Int32.toNatClampNeg z)).2.1 (ct_an nc g (Int32.toNatClampNeg y) (Int32.toNatClampNeg z)).2.2 (Int32.toNatClampNeg y) (Int32.toNatClampNeg z)).2.1 (ct_xo (ct_an nc g (Int32.toNatClampNeg y) (Int32.toNatClampNeg z)).2.1 (ct_an nc g (Int32.toNatClampNeg y) (Int32.toNatClampNeg z)).2.2 (Int32.toNatClampNeg y) (Int32.toNatClampNeg z)).2.2 (Int32.toNatClampNeg w) (ct_xo (ct_an nc g (Int32.toNatClampNeg y) (Int32.toNatClampNeg z)).2.1 (ct_an nc g (Int32.toNatClampNeg y) (Int32.toNatClampNeg z)).2.2 (Int32.toNatClampNeg y) (Int32.toNatClampNeg z)).1).1).2.1 := bdc4.2.1
              have bgc4 : (ct_an (ct_xo (ct_an nc g (Int32.toNatClampNeg y) (Int32.toNatClampNeg z)).2.1 (ct_an nc g (Int32.toNatClampNeg y) (Int32.toNatClampNeg z)).2.2 (Int32.toNatClampNeg y) (Int32.toNatClampNeg z)).2.1 (ct_xo (ct_an nc g (Int32.toNatClampNeg y) (Int32.toNatClampNeg z)).2.1 (ct_an nc g (Int32.toNatClampNeg y) (Int32.toNatClampNeg z)).2.2 (Int32.toNatClampNeg y) (Int32.toNatClampNeg z)).2.2 (Int32.toNatClampNeg w) (ct_xo (ct_an nc g (Int32.toNatClampNeg y) (Int32.toNatClampNeg z)).2.1 (ct_an nc g (Int32.toNatClampNeg y) (Int32.toNatClampNeg z)).2.2 (Int32.toNatClampNeg y) (Int32.toNatClampNeg z)).1).2.1 ≤ (ct_or (ct_an (ct_xo (ct_an nc g (Int32.toNatClampNeg y) (Int32.toNatClampNeg z)).2.1 (ct_an nc g (Int32.toNatClampNeg y) (Int32.toNatClampNeg z)).2.2 (Int32.toNatClampNeg y) (Int32.toNatClampNeg z)).2.1 (ct_xo (ct_an nc g (Int32.toNatClampNeg y) (Int32.toNatClampNeg z)).2.1 (ct_an nc g (Int32.toNatClampNeg y) (Int32.toNatClampNeg z)).2.2 (Int32.toNatClampNeg y) (Int32.toNatClampNeg z)).2.2 (Int32.toNatClampNeg w) (ct_xo (ct_an nc g (Int32.toNatClampNeg y) (Int32.toNatClampNeg z)).2.1 (ct_an nc g (Int32.toNatClampNeg y) (Int32.toNatClampNeg z)).2.2 (Int32.toNatClampNeg y) (Int32.toNatClampNeg z)).1).2.1 (ct_an (ct_xo (ct_an nc g (Int32.toNatClampNeg y) (Int32.toNatClampNeg z)).2.1 (ct_an nc g (Int32.toNatClampNeg y) (Int32.toNatClampNeg z)).2.2 (Int32.toNatClampNeg y) (Int32.toNatClampNeg z)).2.1 (ct_xo (ct_an nc g (Int32.toNatClampNeg y) (Int32.toNatClampNeg z)).2.1 (ct_an nc g (Int32.toNatClampNeg y) (Int32.toNatClampNeg z)).2.2 (Int32.toNatClampNeg y) (Int32.toNatClampNeg z)).2.2 (Int32.toNatClampNeg w) (ct_xo (ct_an nc g (Int32.toNatClampNeg y) (Int32.toNatClampNeg z)).2.1 (ct_an nc g (Int32.toNatClampNeg y) (Int32.toNatClampNeg z)).2.2 (Int32.toNatClampNeg y) (Int32.toNatClampNeg z)).1).2.2 (ct_an nc g (Int32.toNatClampNeg y) (Int32.toNatClampNeg z)).1 (ct_an (ct_xo (ct_an nc g (Int32.toNatClampNeg y) (Int32.toNatClampNeg z)).2.1 (ct_an nc g (Int32.toNatClampNeg y) (Int32.toNatClampNeg z)).2.2 (Int32.toNatClampNeg y) (Int32.toNatClampNeg z)).2.1 (ct_xo (ct_an nc g (Int32.toNatClampNeg y) (Int32.toNatClampNeg z)).2.1 (ct_an nc g (Int32.toNatClampNeg y) (Int32.toNatClampNeg z)).2.2 (Int32.toNatClampNeg y) (Int32.toNatClampNeg z)).2.2 (Int32.toNatClampNeg w) (ct_xo (ct_an nc g (Int32.toNatClampNeg y) (Int32.toNatClampNeg z)).2.1 (ct_an nc g (Int32.toNatClampNeg y) (Int32.toNatClampNeg z)).2.2 (Int32.toNatClampNeg y) (Int32.toNatClampNeg z)).1).1).2.1 := bdc4.2.2.1
              have bhc4 : (ct_or (ct_an (ct_xo (ct_an nc g (Int32.toNatClampNeg y) (Int32.toNatClampNeg z)).2.1 (ct_an nc g (Int32.toNatClampNeg y) (Int32.toNatClampNeg z)).2.2 (Int32.toNatClampNeg y) (Int32.toNatClampNeg z)).2.1 (ct_xo (ct_an nc g (Int32.toNatClampNeg y) (Int32.toNatClampNeg z)).2.1 (ct_an nc g (Int32.toNatClampNeg y) (Int32.toNatClampNeg z)).2.2 (Int32.toNatClampNeg y) (Int32.toNatClampNeg z)).2.2 (Int32.toNatClampNeg w) (ct_xo (ct_an nc g (Int32.toNatClampNeg y) (Int32.toNatClampNeg z)).2.1 (ct_an nc g (Int32.toNatClampNeg y) (Int32.toNatClampNeg z)).2.2 (Int32.toNatClampNeg y) (Int32.toNatClampNeg z)).1).2.1 (ct_an (ct_xo (ct_an nc g (Int32.toNatClampNeg y) (Int32.toNatClampNeg z)).2.1 (ct_an nc g (Int32.toNatClampNeg y) (Int32.toNatClampNeg z)).2.2 (Int32.toNatClampNeg y) (Int32.toNatClampNeg z)).2.1 (ct_xo (ct_an nc g (Int32.toNatClampNeg y) (Int32.toNatClampNeg z)).2.1 (ct_an nc g (Int32.toNatClampNeg y) (Int32.toNatClampNeg z)).2.2 (Int32.toNatClampNeg y) (Int32.toNatClampNeg z)).2.2 (Int32.toNatClampNeg w) (ct_xo (ct_an nc g (Int32.toNatClampNeg y) (Int32.toNatClampNeg z)).2.1 (ct_an nc g (Int32.toNatClampNeg y) (Int32.toNatClampNeg z)).2.2 (Int32.toNatClampNeg y) (Int32.toNatClampNeg z)).1).2.2 (ct_an nc g (Int32.toNatClampNeg y) (Int32.toNatClampNeg z)).1 (ct_an (ct_xo (ct_an nc g (Int32.toNatClampNeg y) (Int32.toNatClampNeg z)).2.1 (ct_an nc g (Int32.toNatClampNeg y) (Int32.toNatClampNeg z)).2.2 (Int32.toNatClampNeg y) (Int32.toNatClampNeg z)).2.1 (ct_xo (ct_an nc g (Int32.toNatClampNeg y) (Int32.toNatClampNeg z)).2.1 (ct_an nc g (Int32.toNatClampNeg y) (Int32.toNatClampNeg z)).2.2 (Int32.toNatClampNeg y) (Int32.toNatClampNeg z)).2.2 (Int32.toNatClampNeg w) (ct_xo (ct_an nc g (Int32.toNatClampNeg y) (Int32.toNatClampNeg z)).2.1 (ct_an nc g (Int32.toNatClampNeg y) (Int32.toNatClampNeg z)).2.2 (Int32.toNatClampNeg y) (Int32.toNatClampNeg z)).1).1).2.1 ≤ (ct_an (ct_xo (ct_an nc g (Int32.toNatClampNeg y) (Int32.toNatClampNeg z)).2.1 (ct_an nc g (Int32.toNatClampNeg y) (Int32.toNatClampNeg z)).2.2 (Int32.toNatClampNeg y) (Int32.toNatClampNeg z)).2.1 (ct_xo (ct_an nc g (Int32.toNatClampNeg y) (Int32.toNatClampNeg z)).2.1 (ct_an nc g (Int32.toNatClampNeg y) (Int32.toNatClampNeg z)).2.2 (Int32.toNatClampNeg y) (Int32.toNatClampNeg z)).2.2 (Int32.toNatClampNeg w) (ct_xo (ct_an nc g (Int32.toNatClampNeg y) (Int32.toNatClampNeg z)).2.1 (ct_an nc g (Int32.toNatClampNeg y) (Int32.toNatClampNeg z)).2.2 (Int32.toNatClampNeg y) (Int32.toNatClampNeg z)).1).2.1 + 1 := bdc4.2.2.2
              have ckc4 : n ≤ gb_cap n (ct_or (ct_an (ct_xo (ct_an nc g (Int32.toNatClampNeg y) (Int32.toNatClampNeg z)).2.1 (ct_an nc g (Int32.toNatClampNeg y) (Int32.toNatClampNeg z)).2.2 (Int32.toNatClampNeg y) (Int32.toNatClampNeg z)).2.1 (ct_xo (ct_an nc g (Int32.toNatClampNeg y) (Int32.toNatClampNeg z)).2.1 (ct_an nc g (Int32.toNatClampNeg y) (Int32.toNatClampNeg z)).2.2 (Int32.toNatClampNeg y) (Int32.toNatClampNeg z)).2.2 (Int32.toNatClampNeg w) (ct_xo (ct_an nc g (Int32.toNatClampNeg y) (Int32.toNatClampNeg z)).2.1 (ct_an nc g (Int32.toNatClampNeg y) (Int32.toNatClampNeg z)).2.2 (Int32.toNatClampNeg y) (Int32.toNatClampNeg z)).1).2.1 (ct_an (ct_xo (ct_an nc g (Int32.toNatClampNeg y) (Int32.toNatClampNeg z)).2.1 (ct_an nc g (Int32.toNatClampNeg y) (Int32.toNatClampNeg z)).2.2 (Int32.toNatClampNeg y) (Int32.toNatClampNeg z)).2.1 (ct_xo (ct_an nc g (Int32.toNatClampNeg y) (Int32.toNatClampNeg z)).2.1 (ct_an nc g (Int32.toNatClampNeg y) (Int32.toNatClampNeg z)).2.2 (Int32.toNatClampNeg y) (Int32.toNatClampNeg z)).2.2 (Int32.toNatClampNeg w) (ct_xo (ct_an nc g (Int32.toNatClampNeg y) (Int32.toNatClampNeg z)).2.1 (ct_an nc g (Int32.toNatClampNeg y) (Int32.toNatClampNeg z)).2.2 (Int32.toNatClampNeg y) (Int32.toNatClampNeg z)).1).2.2 (ct_an nc g (Int32.toNatClampNeg y) (Int32.toNatClampNeg z)).1 (ct_an (ct_xo (ct_an nc g (Int32.toNatClampNeg y) (Int32.toNatClampNeg z)).2.1 (ct_an nc g (Int32.toNatClampNeg y) (Int32.toNatClampNeg z)).2.2 (Int32.toNatClampNeg y) (Int32.toNatClampNeg z)).2.1 (ct_xo (ct_an nc g (Int32.toNatClampNeg y) (Int32.toNatClampNeg z)).2.1 (ct_an nc g (Int32.toNatClampNeg y) (Int32.toNatClampNeg z)).2.2 (Int32.toNatClampNeg y) (Int32.toNatClampNeg z)).2.2 (Int32.toNatClampNeg w) (ct_xo (ct_an nc g (Int32.toNatClampNeg y) (Int32.toNatClampNeg z)).2.1 (ct_an nc g (Int32.toNatClampNeg y) (Int32.toNatClampNeg z)).2.2 (Int32.toNatClampNeg y) (Int32.toNatClampNeg z)).1).1).2.1 := (gb_cap_n n _).1
              have cmc4 : gb_cap n (ct_an (ct_xo (ct_an nc g (Int32.toNatClampNeg y) (Int32.toNatClampNeg z)).2.1 (ct_an nc g (Int32.toNatClampNeg y) (Int32.toNatClampNeg z)).2.2 (Int32.toNatClampNeg y) (Int32.toNatClampNeg z)).2.1 (ct_xo (ct_an nc g (Int32.toNatClampNeg y) (Int32.toNatClampNeg z)).2.1 (ct_an nc g (Int32.toNatClampNeg y) (Int32.toNatClampNeg z)).2.2 (Int32.toNatClampNeg y) (Int32.toNatClampNeg z)).2.2 (Int32.toNatClampNeg w) (ct_xo (ct_an nc g (Int32.toNatClampNeg y) (Int32.toNatClampNeg z)).2.1 (ct_an nc g (Int32.toNatClampNeg y) (Int32.toNatClampNeg z)).2.2 (Int32.toNatClampNeg y) (Int32.toNatClampNeg z)).1).2.1 ≤ gb_cap n (ct_or (ct_an (ct_xo (ct_an nc g (Int32.toNatClampNeg y) (Int32.toNatClampNeg z)).2.1 (ct_an nc g (Int32.toNatClampNeg y) (Int32.toNatClampNeg z)).2.2 (Int32.toNatClampNeg y) (Int32.toNatClampNeg z)).2.1 (ct_xo (ct_an nc g (Int32.toNatClampNeg y) (Int32.toNatClampNeg z)).2.1 (ct_an nc g (Int32.toNatClampNeg y) (Int32.toNatClampNeg z)).2.2 (Int32.toNatClampNeg y) (Int32.toNatClampNeg z)).2.2 (Int32.toNatClampNeg w) (ct_xo (ct_an nc g (Int32.toNatClampNeg y) (Int32.toNatClampNeg z)).2.1 (ct_an nc g (Int32.toNatClampNeg y) (Int32.toNatClampNeg z)).2.2 (Int32.toNatClampNeg y) (Int32.toNatClampNeg z)).1).2.1 (ct_an (ct_xo (ct_an nc g (Int32.toNatClampNeg y) (Int32.toNatClampNeg z)).2.1 (ct_an nc g (Int32.toNatClampNeg y) (Int32.toNatClampNeg z)).2.2 (Int32.toNatClampNeg y) (Int32.toNatClampNeg z)).2.1 (ct_xo (ct_an nc g (Int32.toNatClampNeg y) (Int32.toNatClampNeg z)).2.1 (ct_an nc g (Int32.toNatClampNeg y) (Int32.toNatClampNeg z)).2.2 (Int32.toNatClampNeg y) (Int32.toNatClampNeg z)).2.2 (Int32.toNatClampNeg w) (ct_xo (ct_an nc g (Int32.toNatClampNeg y) (Int32.toNatClampNeg z)).2.1 (ct_an nc g (Int32.toNatClampNeg y) (Int32.toNatClampNeg z)).2.2 (Int32.toNatClampNeg y) (Int32.toNatClampNeg z)).1).2.2 (ct_an nc g (Int32.toNatClampNeg y) (Int32.toNatClampNeg z)).1 (ct_an (ct_xo (ct_an nc g (Int32.toNatClampNeg y) (Int32.toNatClampNeg z)).2.1 (ct_an nc g (Int32.toNatClampNeg y) (Int32.toNatClampNeg z)).2.2 (Int32.toNatClampNeg y) (Int32.toNatClampNeg z)).2.1 (ct_xo (ct_an nc g (Int32.toNatClampNeg y) (Int32.toNatClampNeg z)).2.1 (ct_an nc g (Int32.toNatClampNeg y) (Int32.toNatClampNeg z)).2.2 (Int32.toNatClampNeg y) (Int32.toNatClampNeg z)).2.2 (Int32.toNatClampNeg w) (ct_xo (ct_an nc g (Int32.toNatClampNeg y) (Int32.toNatClampNeg z)).2.1 (ct_an nc g (Int32.toNatClampNeg y) (Int32.toNatClampNeg z)).2.2 (Int32.toNatClampNeg y) (Int32.toNatClampNeg z)).1).1).2.1 := gb_cap_mono bdc4.2.2.1
              have cxc4 : gb_cap (gb_cap n (ct_an (ct_xo (ct_an nc g (Int32.toNatClampNeg y) (Int32.toNatClampNeg z)).2.1 (ct_an nc g (Int32.toNatClampNeg y) (Int32.toNatClampNeg z)).2.2 (Int32.toNatClampNeg y) (Int32.toNatClampNeg z)).2.1 (ct_xo (ct_an nc g (Int32.toNatClampNeg y) (Int32.toNatClampNeg z)).2.1 (ct_an nc g (Int32.toNatClampNeg y) (Int32.toNatClampNeg z)).2.2 (Int32.toNatClampNeg y) (Int32.toNatClampNeg z)).2.2 (Int32.toNatClampNeg w) (ct_xo (ct_an nc g (Int32.toNatClampNeg y) (Int32.toNatClampNeg z)).2.1 (ct_an nc g (Int32.toNatClampNeg y) (Int32.toNatClampNeg z)).2.2 (Int32.toNatClampNeg y) (Int32.toNatClampNeg z)).1).2.1) (ct_or (ct_an (ct_xo (ct_an nc g (Int32.toNatClampNeg y) (Int32.toNatClampNeg z)).2.1 (ct_an nc g (Int32.toNatClampNeg y) (Int32.toNatClampNeg z)).2.2 (Int32.toNatClampNeg y) (Int32.toNatClampNeg z)).2.1 (ct_xo (ct_an nc g (Int32.toNatClampNeg y) (Int32.toNatClampNeg z)).2.1 (ct_an nc g (Int32.toNatClampNeg y) (Int32.toNatClampNeg z)).2.2 (Int32.toNatClampNeg y) (Int32.toNatClampNeg z)).2.2 (Int32.toNatClampNeg w) (ct_xo (ct_an nc g (Int32.toNatClampNeg y) (Int32.toNatClampNeg z)).2.1 (ct_an nc g (Int32.toNatClampNeg y) (Int32.toNatClampNeg z)).2.2 (Int32.toNatClampNeg y) (Int32.toNatClampNeg z)).1).2.1 (ct_an (ct_xo (ct_an nc g (Int32.toNatClampNeg y) (Int32.toNatClampNeg z)).2.1 (ct_an nc g (Int32.toNatClampNeg y) (Int32.toNatClampNeg z)).2.2 (Int32.toNatClampNeg y) (Int32.toNatClampNeg z)).2.1 (ct_xo (ct_an nc g (Int32.toNatClampNeg y) (Int32.toNatClampNeg z)).2.1 (ct_an nc g (Int32.toNatClampNeg y) (Int32.toNatClampNeg z)).2.2 (Int32.toNatClampNeg y) (Int32.toNatClampNeg z)).2.2 (Int32.toNatClampNeg w) (ct_xo (ct_an nc g (Int32.toNatClampNeg y) (Int32.toNatClampNeg z)).2.1 (ct_an nc g (Int32.toNatClampNeg y) (Int32.toNatClampNeg z)).2.2 (Int32.toNatClampNeg y) (Int32.toNatClampNeg z)).1).2.2 (ct_an nc g (Int32.toNatClampNeg y) (Int32.toNatClampNeg z)).1 (ct_an (ct_xo (ct_an nc g (Int32.toNatClampNeg y) (Int32.toNatClampNeg z)).2.1 (ct_an nc g (Int32.toNatClampNeg y) (Int32.toNatClampNeg z)).2.2 (Int32.toNatClampNeg y) (Int32.toNatClampNeg z)).2.1 (ct_xo (ct_an nc g (Int32.toNatClampNeg y) (Int32.toNatClampNeg z)).2.1 (ct_an nc g (Int32.toNatClampNeg y) (Int32.toNatClampNeg z)).2.2 (Int32.toNatClampNeg y) (Int32.toNatClampNeg z)).2.2 (Int32.toNatClampNeg w) (ct_xo (ct_an nc g (Int32.toNatClampNeg y) (Int32.toNatClampNeg z)).2.1 (ct_an nc g (Int32.toNatClampNeg y) (Int32.toNatClampNeg z)).2.2 (Int32.toNatClampNeg y) (Int32.toNatClampNeg z)).1).1).2.1 = gb_cap n (ct_or (ct_an (ct_xo (ct_an nc g (Int32.toNatClampNeg y) (Int32.toNatClampNeg z)).2.1 (ct_an nc g (Int32.toNatClampNeg y) (Int32.toNatClampNeg z)).2.2 (Int32.toNatClampNeg y) (Int32.toNatClampNeg z)).2.1 (ct_xo (ct_an nc g (Int32.toNatClampNeg y) (Int32.toNatClampNeg z)).2.1 (ct_an nc g (Int32.toNatClampNeg y) (Int32.toNatClampNeg z)).2.2 (Int32.toNatClampNeg y) (Int32.toNatClampNeg z)).2.2 (Int32.toNatClampNeg w) (ct_xo (ct_an nc g (Int32.toNatClampNeg y) (Int32.toNatClampNeg z)).2.1 (ct_an nc g (Int32.toNatClampNeg y) (Int32.toNatClampNeg z)).2.2 (Int32.toNatClampNeg y) (Int32.toNatClampNeg z)).1).2.1 (ct_an (ct_xo (ct_an nc g (Int32.toNatClampNeg y) (Int32.toNatClampNeg z)).2.1 (ct_an nc g (Int32.toNatClampNeg y) (Int32.toNatClampNeg z)).2.2 (Int32.toNatClampNeg y) (Int32.toNatClampNeg z)).2.1 (ct_xo (ct_an nc g (Int32.toNatClampNeg y) (Int32.toNatClampNeg z)).2.1 (ct_an nc g (Int32.toNatClampNeg y) (Int32.toNatClampNeg z)).2.2 (Int32.toNatClampNeg y) (Int32.toNatClampNeg z)).2.2 (Int32.toNatClampNeg w) (ct_xo (ct_an nc g (Int32.toNatClampNeg y) (Int32.toNatClampNeg z)).2.1 (ct_an nc g (Int32.toNatClampNeg y) (Int32.toNatClampNeg z)).2.2 (Int32.toNatClampNeg y) (Int32.toNatClampNeg z)).1).2.2 (ct_an nc g (Int32.toNatClampNeg y) (Int32.toNatClampNeg z)).1 (ct_an (ct_xo (ct_an nc g (Int32.toNatClampNeg y) (Int32.toNatClampNeg z)).2.1 (ct_an nc g (Int32.toNatClampNeg y) (Int32.toNatClampNeg z)).2.2 (Int32.toNatClampNeg y) (Int32.toNatClampNeg z)).2.1 (ct_xo (ct_an nc g (Int32.toNatClampNeg y) (Int32.toNatClampNeg z)).2.1 (ct_an nc g (Int32.toNatClampNeg y) (Int32.toNatClampNeg z)).2.2 (Int32.toNatClampNeg y) (Int32.toNatClampNeg z)).2.2 (Int32.toNatClampNeg w) (ct_xo (ct_an nc g (Int32.toNatClampNeg y) (Int32.toNatClampNeg z)).2.1 (ct_an nc g (Int32.toNatClampNeg y) (Int32.toNatClampNeg z)).2.2 (Int32.toNatClampNeg y) (Int32.toNatClampNeg z)).1).1).2.1 := gb_cap_cap bdc4.2.2.1 (by omega)
              have hR : (ct_th nc g x (Int32.toNatClampNeg y) (Int32.toNatClampNeg z) (Int32.toNatClampNeg w)) = (ct_or (ct_an (ct_xo (ct_an nc g (Int32.toNatClampNeg y) (Int32.toNatClampNeg z)).2.1 (ct_an nc g (Int32.toNatClampNeg y) (Int32.toNatClampNeg z)).2.2 (Int32.toNatClampNeg y) (Int32.toNatClampNeg z)).2.1 (ct_xo (ct_an nc g (Int32.toNatClampNeg y) (Int32.toNatClampNeg z)).2.1 (ct_an nc g (Int32.toNatClampNeg y) (Int32.toNatClampNeg z)).2.2 (Int32.toNatClampNeg y) (Int32.toNatClampNeg z)).2.2 (Int32.toNatClampNeg w) (ct_xo (ct_an nc g (Int32.toNatClampNeg y) (Int32.toNatClampNeg z)).2.1 (ct_an nc g (Int32.toNatClampNeg y) (Int32.toNatClampNeg z)).2.2 (Int32.toNatClampNeg y) (Int32.toNatClampNeg z)).1).2.1 (ct_an (ct_xo (ct_an nc g (Int32.toNatClampNeg y) (Int32.toNatClampNeg z)).2.1 (ct_an nc g (Int32.toNatClampNeg y) (Int32.toNatClampNeg z)).2.2 (Int32.toNatClampNeg y) (Int32.toNatClampNeg z)).2.1 (ct_xo (ct_an nc g (Int32.toNatClampNeg y) (Int32.toNatClampNeg z)).2.1 (ct_an nc g (Int32.toNatClampNeg y) (Int32.toNatClampNeg z)).2.2 (Int32.toNatClampNeg y) (Int32.toNatClampNeg z)).2.2 (Int32.toNatClampNeg w) (ct_xo (ct_an nc g (Int32.toNatClampNeg y) (Int32.toNatClampNeg z)).2.1 (ct_an nc g (Int32.toNatClampNeg y) (Int32.toNatClampNeg z)).2.2 (Int32.toNatClampNeg y) (Int32.toNatClampNeg z)).1).2.2 (ct_an nc g (Int32.toNatClampNeg y) (Int32.toNatClampNeg z)).1 (ct_an (ct_xo (ct_an nc g (Int32.toNatClampNeg y) (Int32.toNatClampNeg z)).2.1 (ct_an nc g (Int32.toNatClampNeg y) (Int32.toNatClampNeg z)).2.2 (Int32.toNatClampNeg y) (Int32.toNatClampNeg z)).2.1 (ct_xo (ct_an nc g (Int32.toNatClampNeg y) (Int32.toNatClampNeg z)).2.1 (ct_an nc g (Int32.toNatClampNeg y) (Int32.toNatClampNeg z)).2.2 (Int32.toNatClampNeg y) (Int32.toNatClampNeg z)).2.2 (Int32.toNatClampNeg w) (ct_xo (ct_an nc g (Int32.toNatClampNeg y) (Int32.toNatClampNeg z)).2.1 (ct_an nc g (Int32.toNatClampNeg y) (Int32.toNatClampNeg z)).2.2 (Int32.toNatClampNeg y) (Int32.toNatClampNeg z)).1).1) := (if_neg c17).trans (if_neg c31)
              have hKb := hKK (Or.inr (Or.inr c49)) e2 e7 e13
              rw [hR] at hKb
              refine lv_aload_n hx hb dX0_three_52 rfl (lv_at hl 0 rfl) ?_
              refine lv_iload_n hx hb dX0_three_53 rfl (lv_at hl 2 rfl) ?_
              refine lv_iload_n hx hb dX0_three_54 rfl (lv_at hl 3 rfl) ?_
              have hFc := va_free (wc := (gW h0 cI n ad ar iv)) hD hS hA [0, 1, 2, 3, 4, 5, 6, 7, 8] rfl
              refine va_calli (va_runV (As := [.int y, .int z]) (rest := []) ⟨hx, hb, hml, hown, hts⟩ (c_andOf l D h0 cI n ad ar iv H.size y z (Int32.toNatClampNeg y) (Int32.toNatClampNeg z) nc ic g bv hya.1 hzb.1 hya.2 hzb.2 hok (by omega)) (cwV 2 hts gX0_three_X0_andOf rfl rfl rfl (by decide +kernel) ⟨Nat.le_of_ble_eq_true rfl, Nat.le_of_ble_eq_true rfl⟩) (mP_V hK hP hD (va_recv hK hP (ci := 0) (q0 := 0) rfl rfl)) rfl rfl hl.1 rfl (lv_room (Nat.le_of_ble_eq_true rfl)) dX0_three_55 ⟨by show _ + _ ≤ 4 + K; omega, by show _ + _ ≤ 24 + 16 * K; omega⟩) hS (fun q _ h => hFc q h) hFc (fun r55 u t H1 locs ht hvm e55 hB hz1 hk1 hS => ?_)
              obtain ⟨n55, ad55, ar55, iv55⟩ := u
              obtain ⟨hP1, hK1, hD1⟩ := hB
              rw [ht] at hP1
              have hK := va_K.moved hvm.symm hK1
              have hP : va_P D vwCl (gW h0 cI n55 ad55 ar55 iv55) H1 := hP1
              have hD : va_D A (gW h0 cI n55 ad55 ar55 iv55) := hD1.weaken (fun k q _ h => hFc q.1 h)
              clear hP1 hK1 hD1 hk1 hz1 hFc ht
              generalize H1 = H at hP hS ⊢
              try dsimp only at e55
              have enc1 : n55 = gb_cap n (ct_an nc g (Int32.toNatClampNeg y) (Int32.toNatClampNeg z)).2.1 := e55.2.1
              refine lv_istore (lv' := [(5, .int r55), (0, .ref h0), (1, .int x), (2, .int y), (3, .int z), (4, .int w)]) hx hb dX0_three_58 hl (by decide) rfl (fun ls hl => ?_)
              refine lv_aload_n hx hb dX0_three_60 rfl (lv_at hl 1 rfl) ?_
              refine lv_iload_n hx hb dX0_three_61 rfl (lv_at hl 3 rfl) ?_
              refine lv_iload_n hx hb dX0_three_62 rfl (lv_at hl 4 rfl) ?_
              have cyc2 : gb_cap n55 (ct_xo (ct_an nc g (Int32.toNatClampNeg y) (Int32.toNatClampNeg z)).2.1 (ct_an nc g (Int32.toNatClampNeg y) (Int32.toNatClampNeg z)).2.2 (Int32.toNatClampNeg y) (Int32.toNatClampNeg z)).2.1 = gb_cap n (ct_xo (ct_an nc g (Int32.toNatClampNeg y) (Int32.toNatClampNeg z)).2.1 (ct_an nc g (Int32.toNatClampNeg y) (Int32.toNatClampNeg z)).2.2 (Int32.toNatClampNeg y) (Int32.toNatClampNeg z)).2.1 := by rw [enc1]; exact cxc2
              have hFc := va_free (wc := (gW h0 cI n55 ad55 ar55 iv55)) hD hS hA [0, 1, 2, 3, 4, 5, 6, 7, 8] rfl
              refine va_calli (va_runV (As := [.int y, .int z]) (rest := []) ⟨hx, hb, hml, hown, hts⟩ (c_xorOf l D h0 cI n55 ad55 ar55 iv55 H.size y z (Int32.toNatClampNeg y) (Int32.toNatClampNeg z) (ct_an nc g (Int32.toNatClampNeg y) (Int32.toNatClampNeg z)).2.1 ic (ct_an nc g (Int32.toNatClampNeg y) (Int32.toNatClampNeg z)).2.2 bv hya.1 hzb.1 (by omega) (by omega) e55.2.2 (by omega)) (cwV 2 hts gX0_three_X0_xorOf rfl rfl rfl (by decide +kernel) ⟨Nat.le_of_ble_eq_true rfl, Nat.le_of_ble_eq_true rfl⟩) (mP_V hK hP hD (va_recv hK hP (ci := 0) (q0 := 0) rfl rfl)) rfl rfl hl.1 rfl (lv_room (Nat.le_of_ble_eq_true rfl)) dX0_three_63 ⟨by show _ + _ ≤ 4 + K; omega, by show _ + _ ≤ 24 + 16 * K; omega⟩) hS (fun q _ h => hFc q h) hFc (fun r63 u t H1 locs ht hvm e63 hB hz1 hk1 hS => ?_)
              obtain ⟨n63, ad63, ar63, iv63⟩ := u
              obtain ⟨hP1, hK1, hD1⟩ := hB
              rw [ht] at hP1
              have hK := va_K.moved hvm.symm hK1
              have hP : va_P D vwCl (gW h0 cI n63 ad63 ar63 iv63) H1 := hP1
              have hD : va_D A (gW h0 cI n63 ad63 ar63 iv63) := hD1.weaken (fun k q _ h => hFc q.1 h)
              clear hP1 hK1 hD1 hk1 hz1 hFc ht
              generalize H1 = H at hP hS ⊢
              try dsimp only at e63
              have enc2 : n63 = gb_cap n (ct_xo (ct_an nc g (Int32.toNatClampNeg y) (Int32.toNatClampNeg z)).2.1 (ct_an nc g (Int32.toNatClampNeg y) (Int32.toNatClampNeg z)).2.2 (Int32.toNatClampNeg y) (Int32.toNatClampNeg z)).2.1 := e63.2.1.trans cyc2
              refine lv_istore (lv' := [(6, .int r63), (5, .int r55), (0, .ref h0), (1, .int x), (2, .int y), (3, .int z), (4, .int w)]) hx hb dX0_three_66 hl (by decide) rfl (fun ls hl => ?_)
              refine lv_aload_n hx hb dX0_three_68 rfl (lv_at hl 2 rfl) ?_
              refine lv_iload hx hb dX0_three_69 (lv_at hl 1 rfl) ?_
              refine lv_aload_n hx hb dX0_three_71 rfl (lv_at hl 2 rfl) ?_
              refine lv_iload hx hb dX0_three_72 (lv_at hl 6 rfl) ?_
              refine lv_iload hx hb dX0_three_74 (lv_at hl 0 rfl) ?_
              have cyc3 : gb_cap n63 (ct_an (ct_xo (ct_an nc g (Int32.toNatClampNeg y) (Int32.toNatClampNeg z)).2.1 (ct_an nc g (Int32.toNatClampNeg y) (Int32.toNatClampNeg z)).2.2 (Int32.toNatClampNeg y) (Int32.toNatClampNeg z)).2.1 (ct_xo (ct_an nc g (Int32.toNatClampNeg y) (Int32.toNatClampNeg z)).2.1 (ct_an nc g (Int32.toNatClampNeg y) (Int32.toNatClampNeg z)).2.2 (Int32.toNatClampNeg y) (Int32.toNatClampNeg z)).2.2 (Int32.toNatClampNeg w) (ct_xo (ct_an nc g (Int32.toNatClampNeg y) (Int32.toNatClampNeg z)).2.1 (ct_an nc g (Int32.toNatClampNeg y) (Int32.toNatClampNeg z)).2.2 (Int32.toNatClampNeg y) (Int32.toNatClampNeg z)).1).2.1 = gb_cap n (ct_an (ct_xo (ct_an nc g (Int32.toNatClampNeg y) (Int32.toNatClampNeg z)).2.1 (ct_an nc g (Int32.toNatClampNeg y) (Int32.toNatClampNeg z)).2.2 (Int32.toNatClampNeg y) (Int32.toNatClampNeg z)).2.1 (ct_xo (ct_an nc g (Int32.toNatClampNeg y) (Int32.toNatClampNeg z)).2.1 (ct_an nc g (Int32.toNatClampNeg y) (Int32.toNatClampNeg z)).2.2 (Int32.toNatClampNeg y) (Int32.toNatClampNeg z)).2.2 (Int32.toNatClampNeg w) (ct_xo (ct_an nc g (Int32.toNatClampNeg y) (Int32.toNatClampNeg z)).2.1 (ct_an nc g (Int32.toNatClampNeg y) (Int32.toNatClampNeg z)).2.2 (Int32.toNatClampNeg y) (Int32.toNatClampNeg z)).1).2.1 := by rw [enc2]; exact cxc3
              have hFc := va_free (wc := (gW h0 cI n63 ad63 ar63 iv63)) hD hS hA [0, 1, 2, 3, 4, 5, 6, 7, 8] rfl
              refine va_calli (va_runV (As := [.int w, .int r63]) (rest := [.int r55, .ref h0]) ⟨hx, hb, hml, hown, hts⟩ (c_andOf l D h0 cI n63 ad63 ar63 iv63 H.size w r63 (Int32.toNatClampNeg w) (ct_xo (ct_an nc g (Int32.toNatClampNeg y) (Int32.toNatClampNeg z)).2.1 (ct_an nc g (Int32.toNatClampNeg y) (Int32.toNatClampNeg z)).2.2 (Int32.toNatClampNeg y) (Int32.toNatClampNeg z)).1 (ct_xo (ct_an nc g (Int32.toNatClampNeg y) (Int32.toNatClampNeg z)).2.1 (ct_an nc g (Int32.toNatClampNeg y) (Int32.toNatClampNeg z)).2.2 (Int32.toNatClampNeg y) (Int32.toNatClampNeg z)).2.1 ic (ct_xo (ct_an nc g (Int32.toNatClampNeg y) (Int32.toNatClampNeg z)).2.1 (ct_an nc g (Int32.toNatClampNeg y) (Int32.toNatClampNeg z)).2.2 (Int32.toNatClampNeg y) (Int32.toNatClampNeg z)).2.2 bv hwc.1 e63.1 (by omega) (by omega) e63.2.2 (by omega)) (cwV 2 hts gX0_three_X0_andOf rfl rfl rfl (by decide +kernel) ⟨Nat.le_of_ble_eq_true rfl, Nat.le_of_ble_eq_true rfl⟩) (mP_V hK hP hD (va_recv hK hP (ci := 0) (q0 := 0) rfl rfl)) rfl rfl hl.1 rfl (lv_room (Nat.le_of_ble_eq_true rfl)) dX0_three_76 ⟨by show _ + _ ≤ 4 + K; omega, by show _ + _ ≤ 24 + 16 * K; omega⟩) hS (fun q _ h => hFc q h) hFc (fun r76 u t H1 locs ht hvm e76 hB hz1 hk1 hS => ?_)
              obtain ⟨n76, ad76, ar76, iv76⟩ := u
              obtain ⟨hP1, hK1, hD1⟩ := hB
              rw [ht] at hP1
              have hK := va_K.moved hvm.symm hK1
              have hP : va_P D vwCl (gW h0 cI n76 ad76 ar76 iv76) H1 := hP1
              have hD : va_D A (gW h0 cI n76 ad76 ar76 iv76) := hD1.weaken (fun k q _ h => hFc q.1 h)
              clear hP1 hK1 hD1 hk1 hz1 hFc ht
              generalize H1 = H at hP hS ⊢
              try dsimp only at e76
              have enc3 : n76 = gb_cap n (ct_an (ct_xo (ct_an nc g (Int32.toNatClampNeg y) (Int32.toNatClampNeg z)).2.1 (ct_an nc g (Int32.toNatClampNeg y) (Int32.toNatClampNeg z)).2.2 (Int32.toNatClampNeg y) (Int32.toNatClampNeg z)).2.1 (ct_xo (ct_an nc g (Int32.toNatClampNeg y) (Int32.toNatClampNeg z)).2.1 (ct_an nc g (Int32.toNatClampNeg y) (Int32.toNatClampNeg z)).2.2 (Int32.toNatClampNeg y) (Int32.toNatClampNeg z)).2.2 (Int32.toNatClampNeg w) (ct_xo (ct_an nc g (Int32.toNatClampNeg y) (Int32.toNatClampNeg z)).2.1 (ct_an nc g (Int32.toNatClampNeg y) (Int32.toNatClampNeg z)).2.2 (Int32.toNatClampNeg y) (Int32.toNatClampNeg z)).1).2.1 := e76.2.1.trans cyc3
              have cyc4 : gb_cap n76 (ct_or (ct_an (ct_xo (ct_an nc g (Int32.toNatClampNeg y) (Int32.toNatClampNeg z)).2.1 (ct_an nc g (Int32.toNatClampNeg y) (Int32.toNatClampNeg z)).2.2 (Int32.toNatClampNeg y) (Int32.toNatClampNeg z)).2.1 (ct_xo (ct_an nc g (Int32.toNatClampNeg y) (Int32.toNatClampNeg z)).2.1 (ct_an nc g (Int32.toNatClampNeg y) (Int32.toNatClampNeg z)).2.2 (Int32.toNatClampNeg y) (Int32.toNatClampNeg z)).2.2 (Int32.toNatClampNeg w) (ct_xo (ct_an nc g (Int32.toNatClampNeg y) (Int32.toNatClampNeg z)).2.1 (ct_an nc g (Int32.toNatClampNeg y) (Int32.toNatClampNeg z)).2.2 (Int32.toNatClampNeg y) (Int32.toNatClampNeg z)).1).2.1 (ct_an (ct_xo (ct_an nc g (Int32.toNatClampNeg y) (Int32.toNatClampNeg z)).2.1 (ct_an nc g (Int32.toNatClampNeg y) (Int32.toNatClampNeg z)).2.2 (Int32.toNatClampNeg y) (Int32.toNatClampNeg z)).2.1 (ct_xo (ct_an nc g (Int32.toNatClampNeg y) (Int32.toNatClampNeg z)).2.1 (ct_an nc g (Int32.toNatClampNeg y) (Int32.toNatClampNeg z)).2.2 (Int32.toNatClampNeg y) (Int32.toNatClampNeg z)).2.2 (Int32.toNatClampNeg w) (ct_xo (ct_an nc g (Int32.toNatClampNeg y) (Int32.toNatClampNeg z)).2.1 (ct_an nc g (Int32.toNatClampNeg y) (Int32.toNatClampNeg z)).2.2 (Int32.toNatClampNeg y) (Int32.toNatClampNeg z)).1).2.2 (ct_an nc g (Int32.toNatClampNeg y) (Int32.toNatClampNeg z)).1 (ct_an (ct_xo (ct_an nc g (Int32.toNatClampNeg y) (Int32.toNatClampNeg z)).2.1 (ct_an nc g (Int32.toNatClampNeg y) (Int32.toNatClampNeg z)).2.2 (Int32.toNatClampNeg y) (Int32.toNatClampNeg z)).2.1 (ct_xo (ct_an nc g (Int32.toNatClampNeg y) (Int32.toNatClampNeg z)).2.1 (ct_an nc g (Int32.toNatClampNeg y) (Int32.toNatClampNeg z)).2.2 (Int32.toNatClampNeg y) (Int32.toNatClampNeg z)).2.2 (Int32.toNatClampNeg w) (ct_xo (ct_an nc g (Int32.toNatClampNeg y) (Int32.toNatClampNeg z)).2.1 (ct_an nc g (Int32.toNatClampNeg y) (Int32.toNatClampNeg z)).2.2 (Int32.toNatClampNeg y) (Int32.toNatClampNeg z)).1).1).2.1 = gb_cap n (ct_or (ct_an (ct_xo (ct_an nc g (Int32.toNatClampNeg y) (Int32.toNatClampNeg z)).2.1 (ct_an nc g (Int32.toNatClampNeg y) (Int32.toNatClampNeg z)).2.2 (Int32.toNatClampNeg y) (Int32.toNatClampNeg z)).2.1 (ct_xo (ct_an nc g (Int32.toNatClampNeg y) (Int32.toNatClampNeg z)).2.1 (ct_an nc g (Int32.toNatClampNeg y) (Int32.toNatClampNeg z)).2.2 (Int32.toNatClampNeg y) (Int32.toNatClampNeg z)).2.2 (Int32.toNatClampNeg w) (ct_xo (ct_an nc g (Int32.toNatClampNeg y) (Int32.toNatClampNeg z)).2.1 (ct_an nc g (Int32.toNatClampNeg y) (Int32.toNatClampNeg z)).2.2 (Int32.toNatClampNeg y) (Int32.toNatClampNeg z)).1).2.1 (ct_an (ct_xo (ct_an nc g (Int32.toNatClampNeg y) (Int32.toNatClampNeg z)).2.1 (ct_an nc g (Int32.toNatClampNeg y) (Int32.toNatClampNeg z)).2.2 (Int32.toNatClampNeg y) (Int32.toNatClampNeg z)).2.1 (ct_xo (ct_an nc g (Int32.toNatClampNeg y) (Int32.toNatClampNeg z)).2.1 (ct_an nc g (Int32.toNatClampNeg y) (Int32.toNatClampNeg z)).2.2 (Int32.toNatClampNeg y) (Int32.toNatClampNeg z)).2.2 (Int32.toNatClampNeg w) (ct_xo (ct_an nc g (Int32.toNatClampNeg y) (Int32.toNatClampNeg z)).2.1 (ct_an nc g (Int32.toNatClampNeg y) (Int32.toNatClampNeg z)).2.2 (Int32.toNatClampNeg y) (Int32.toNatClampNeg z)).1).2.2 (ct_an nc g (Int32.toNatClampNeg y) (Int32.toNatClampNeg z)).1 (ct_an (ct_xo (ct_an nc g (Int32.toNatClampNeg y) (Int32.toNatClampNeg z)).2.1 (ct_an nc g (Int32.toNatClampNeg y) (Int32.toNatClampNeg z)).2.2 (Int32.toNatClampNeg y) (Int32.toNatClampNeg z)).2.1 (ct_xo (ct_an nc g (Int32.toNatClampNeg y) (Int32.toNatClampNeg z)).2.1 (ct_an nc g (Int32.toNatClampNeg y) (Int32.toNatClampNeg z)).2.2 (Int32.toNatClampNeg y) (Int32.toNatClampNeg z)).2.2 (Int32.toNatClampNeg w) (ct_xo (ct_an nc g (Int32.toNatClampNeg y) (Int32.toNatClampNeg z)).2.1 (ct_an nc g (Int32.toNatClampNeg y) (Int32.toNatClampNeg z)).2.2 (Int32.toNatClampNeg y) (Int32.toNatClampNeg z)).1).1).2.1 := by rw [enc3]; exact cxc4
              have hFc := va_free (wc := (gW h0 cI n76 ad76 ar76 iv76)) hD hS hA [0, 1, 2, 3, 4, 5, 6, 7, 8] rfl
              refine va_calli (va_runV (As := [.int r55, .int r76]) (rest := []) ⟨hx, hb, hml, hown, hts⟩ (c_orOf l D h0 cI n76 ad76 ar76 iv76 H.size r55 r76 (ct_an nc g (Int32.toNatClampNeg y) (Int32.toNatClampNeg z)).1 (ct_an (ct_xo (ct_an nc g (Int32.toNatClampNeg y) (Int32.toNatClampNeg z)).2.1 (ct_an nc g (Int32.toNatClampNeg y) (Int32.toNatClampNeg z)).2.2 (Int32.toNatClampNeg y) (Int32.toNatClampNeg z)).2.1 (ct_xo (ct_an nc g (Int32.toNatClampNeg y) (Int32.toNatClampNeg z)).2.1 (ct_an nc g (Int32.toNatClampNeg y) (Int32.toNatClampNeg z)).2.2 (Int32.toNatClampNeg y) (Int32.toNatClampNeg z)).2.2 (Int32.toNatClampNeg w) (ct_xo (ct_an nc g (Int32.toNatClampNeg y) (Int32.toNatClampNeg z)).2.1 (ct_an nc g (Int32.toNatClampNeg y) (Int32.toNatClampNeg z)).2.2 (Int32.toNatClampNeg y) (Int32.toNatClampNeg z)).1).1 (ct_an (ct_xo (ct_an nc g (Int32.toNatClampNeg y) (Int32.toNatClampNeg z)).2.1 (ct_an nc g (Int32.toNatClampNeg y) (Int32.toNatClampNeg z)).2.2 (Int32.toNatClampNeg y) (Int32.toNatClampNeg z)).2.1 (ct_xo (ct_an nc g (Int32.toNatClampNeg y) (Int32.toNatClampNeg z)).2.1 (ct_an nc g (Int32.toNatClampNeg y) (Int32.toNatClampNeg z)).2.2 (Int32.toNatClampNeg y) (Int32.toNatClampNeg z)).2.2 (Int32.toNatClampNeg w) (ct_xo (ct_an nc g (Int32.toNatClampNeg y) (Int32.toNatClampNeg z)).2.1 (ct_an nc g (Int32.toNatClampNeg y) (Int32.toNatClampNeg z)).2.2 (Int32.toNatClampNeg y) (Int32.toNatClampNeg z)).1).2.1 ic (ct_an (ct_xo (ct_an nc g (Int32.toNatClampNeg y) (Int32.toNatClampNeg z)).2.1 (ct_an nc g (Int32.toNatClampNeg y) (Int32.toNatClampNeg z)).2.2 (Int32.toNatClampNeg y) (Int32.toNatClampNeg z)).2.1 (ct_xo (ct_an nc g (Int32.toNatClampNeg y) (Int32.toNatClampNeg z)).2.1 (ct_an nc g (Int32.toNatClampNeg y) (Int32.toNatClampNeg z)).2.2 (Int32.toNatClampNeg y) (Int32.toNatClampNeg z)).2.2 (Int32.toNatClampNeg w) (ct_xo (ct_an nc g (Int32.toNatClampNeg y) (Int32.toNatClampNeg z)).2.1 (ct_an nc g (Int32.toNatClampNeg y) (Int32.toNatClampNeg z)).2.2 (Int32.toNatClampNeg y) (Int32.toNatClampNeg z)).1).2.2 bv e55.1 e76.1 (by omega) (by omega) e76.2.2 (by omega)) (cwV 2 hts gX0_three_X0_orOf rfl rfl rfl (by decide +kernel) ⟨Nat.le_of_ble_eq_true rfl, Nat.le_of_ble_eq_true rfl⟩) (mP_V hK hP hD (va_recv hK hP (ci := 0) (q0 := 0) rfl rfl)) rfl rfl hl.1 rfl (lv_room (Nat.le_of_ble_eq_true rfl)) dX0_three_79 ⟨by show _ + _ ≤ 4 + K; omega, by show _ + _ ≤ 24 + 16 * K; omega⟩) hS (fun q _ h => hFc q h) hFc (fun r79 u t H1 locs ht hvm e79 hB hz1 hk1 hS => ?_)
              obtain ⟨n79, ad79, ar79, iv79⟩ := u
              obtain ⟨hP1, hK1, hD1⟩ := hB
              rw [ht] at hP1
              have hK := va_K.moved hvm.symm hK1
              have hP : va_P D vwCl (gW h0 cI n79 ad79 ar79 iv79) H1 := hP1
              have hD : va_D A (gW h0 cI n79 ad79 ar79 iv79) := hD1.weaken (fun k q _ h => hFc q.1 h)
              clear hP1 hK1 hD1 hk1 hz1 hFc ht
              generalize H1 = H at hP hS ⊢
              try dsimp only at e79
              have enc4 : n79 = gb_cap n (ct_or (ct_an (ct_xo (ct_an nc g (Int32.toNatClampNeg y) (Int32.toNatClampNeg z)).2.1 (ct_an nc g (Int32.toNatClampNeg y) (Int32.toNatClampNeg z)).2.2 (Int32.toNatClampNeg y) (Int32.toNatClampNeg z)).2.1 (ct_xo (ct_an nc g (Int32.toNatClampNeg y) (Int32.toNatClampNeg z)).2.1 (ct_an nc g (Int32.toNatClampNeg y) (Int32.toNatClampNeg z)).2.2 (Int32.toNatClampNeg y) (Int32.toNatClampNeg z)).2.2 (Int32.toNatClampNeg w) (ct_xo (ct_an nc g (Int32.toNatClampNeg y) (Int32.toNatClampNeg z)).2.1 (ct_an nc g (Int32.toNatClampNeg y) (Int32.toNatClampNeg z)).2.2 (Int32.toNatClampNeg y) (Int32.toNatClampNeg z)).1).2.1 (ct_an (ct_xo (ct_an nc g (Int32.toNatClampNeg y) (Int32.toNatClampNeg z)).2.1 (ct_an nc g (Int32.toNatClampNeg y) (Int32.toNatClampNeg z)).2.2 (Int32.toNatClampNeg y) (Int32.toNatClampNeg z)).2.1 (ct_xo (ct_an nc g (Int32.toNatClampNeg y) (Int32.toNatClampNeg z)).2.1 (ct_an nc g (Int32.toNatClampNeg y) (Int32.toNatClampNeg z)).2.2 (Int32.toNatClampNeg y) (Int32.toNatClampNeg z)).2.2 (Int32.toNatClampNeg w) (ct_xo (ct_an nc g (Int32.toNatClampNeg y) (Int32.toNatClampNeg z)).2.1 (ct_an nc g (Int32.toNatClampNeg y) (Int32.toNatClampNeg z)).2.2 (Int32.toNatClampNeg y) (Int32.toNatClampNeg z)).1).2.2 (ct_an nc g (Int32.toNatClampNeg y) (Int32.toNatClampNeg z)).1 (ct_an (ct_xo (ct_an nc g (Int32.toNatClampNeg y) (Int32.toNatClampNeg z)).2.1 (ct_an nc g (Int32.toNatClampNeg y) (Int32.toNatClampNeg z)).2.2 (Int32.toNatClampNeg y) (Int32.toNatClampNeg z)).2.1 (ct_xo (ct_an nc g (Int32.toNatClampNeg y) (Int32.toNatClampNeg z)).2.1 (ct_an nc g (Int32.toNatClampNeg y) (Int32.toNatClampNeg z)).2.2 (Int32.toNatClampNeg y) (Int32.toNatClampNeg z)).2.2 (Int32.toNatClampNeg w) (ct_xo (ct_an nc g (Int32.toNatClampNeg y) (Int32.toNatClampNeg z)).2.1 (ct_an nc g (Int32.toNatClampNeg y) (Int32.toNatClampNeg z)).2.2 (Int32.toNatClampNeg y) (Int32.toNatClampNeg z)).1).1).2.1 := e79.2.1.trans cyc4
              refine W.widen (k := 4 + K) (n := 24 + 16 * K) (by omega) (by omega) ?_
              refine vx_ret ?_
              exact W.iret (v := r79) hx hb hr (fun t ht hW => ⟨⟨r79, (n79, ad79, ar79, iv79), rfl, ⟨⟨Or.inr (Or.inr c49), e2, e7, e13⟩, by rw [hR]; exact ⟨e79.1, enc4, e79.2.2⟩⟩, by rw [ht]; exact hP, va_K.moved hW.alike hK, hD⟩, hS.F ht⟩) hS.2.2 dX0_three_82
          · have bdb1 : ct_bd nc 3 (ct_xo nc g (Int32.toNatClampNeg y) (Int32.toNatClampNeg z)) := ct_xo_b hwf hya.2 hzb.2
            have blb1 : (ct_xo nc g (Int32.toNatClampNeg y) (Int32.toNatClampNeg z)).1 < 2 * (ct_xo nc g (Int32.toNatClampNeg y) (Int32.toNatClampNeg z)).2.1 := bdb1.2.1
            have bgb1 : nc ≤ (ct_xo nc g (Int32.toNatClampNeg y) (Int32.toNatClampNeg z)).2.1 := bdb1.2.2.1
            have bhb1 : (ct_xo nc g (Int32.toNatClampNeg y) (Int32.toNatClampNeg z)).2.1 ≤ nc + 3 := bdb1.2.2.2
            have ckb1 : n ≤ gb_cap n (ct_xo nc g (Int32.toNatClampNeg y) (Int32.toNatClampNeg z)).2.1 := (gb_cap_n n _).1
            have bdb2 : ct_bd (ct_xo nc g (Int32.toNatClampNeg y) (Int32.toNatClampNeg z)).2.1 3 (ct_xo (ct_xo nc g (Int32.toNatClampNeg y) (Int32.toNatClampNeg z)).2.1 (ct_xo nc g (Int32.toNatClampNeg y) (Int32.toNatClampNeg z)).2.2 (ct_xo nc g (Int32.toNatClampNeg y) (Int32.toNatClampNeg z)).1 (Int32.toNatClampNeg w)) := ct_xo_b bdb1.1 (by omega) (by omega)
            have blb2 : (ct_xo (ct_xo nc g (Int32.toNatClampNeg y) (Int32.toNatClampNeg z)).2.1 (ct_xo nc g (Int32.toNatClampNeg y) (Int32.toNatClampNeg z)).2.2 (ct_xo nc g (Int32.toNatClampNeg y) (Int32.toNatClampNeg z)).1 (Int32.toNatClampNeg w)).1 < 2 * (ct_xo (ct_xo nc g (Int32.toNatClampNeg y) (Int32.toNatClampNeg z)).2.1 (ct_xo nc g (Int32.toNatClampNeg y) (Int32.toNatClampNeg z)).2.2 (ct_xo nc g (Int32.toNatClampNeg y) (Int32.toNatClampNeg z)).1 (Int32.toNatClampNeg w)).2.1 := bdb2.2.1
            have bgb2 : (ct_xo nc g (Int32.toNatClampNeg y) (Int32.toNatClampNeg z)).2.1 ≤ (ct_xo (ct_xo nc g (Int32.toNatClampNeg y) (Int32.toNatClampNeg z)).2.1 (ct_xo nc g (Int32.toNatClampNeg y) (Int32.toNatClampNeg z)).2.2 (ct_xo nc g (Int32.toNatClampNeg y) (Int32.toNatClampNeg z)).1 (Int32.toNatClampNeg w)).2.1 := bdb2.2.2.1
            have bhb2 : (ct_xo (ct_xo nc g (Int32.toNatClampNeg y) (Int32.toNatClampNeg z)).2.1 (ct_xo nc g (Int32.toNatClampNeg y) (Int32.toNatClampNeg z)).2.2 (ct_xo nc g (Int32.toNatClampNeg y) (Int32.toNatClampNeg z)).1 (Int32.toNatClampNeg w)).2.1 ≤ (ct_xo nc g (Int32.toNatClampNeg y) (Int32.toNatClampNeg z)).2.1 + 3 := bdb2.2.2.2
            have ckb2 : n ≤ gb_cap n (ct_xo (ct_xo nc g (Int32.toNatClampNeg y) (Int32.toNatClampNeg z)).2.1 (ct_xo nc g (Int32.toNatClampNeg y) (Int32.toNatClampNeg z)).2.2 (ct_xo nc g (Int32.toNatClampNeg y) (Int32.toNatClampNeg z)).1 (Int32.toNatClampNeg w)).2.1 := (gb_cap_n n _).1
            have cmb2 : gb_cap n (ct_xo nc g (Int32.toNatClampNeg y) (Int32.toNatClampNeg z)).2.1 ≤ gb_cap n (ct_xo (ct_xo nc g (Int32.toNatClampNeg y) (Int32.toNatClampNeg z)).2.1 (ct_xo nc g (Int32.toNatClampNeg y) (Int32.toNatClampNeg z)).2.2 (ct_xo nc g (Int32.toNatClampNeg y) (Int32.toNatClampNeg z)).1 (Int32.toNatClampNeg w)).2.1 := gb_cap_mono bdb2.2.2.1
            have cxb2 : gb_cap (gb_cap n (ct_xo nc g (Int32.toNatClampNeg y) (Int32.toNatClampNeg z)).2.1) (ct_xo (ct_xo nc g (Int32.toNatClampNeg y) (Int32.toNatClampNeg z)).2.1 (ct_xo nc g (Int32.toNatClampNeg y) (Int32.toNatClampNeg z)).2.2 (ct_xo nc g (Int32.toNatClampNeg y) (Int32.toNatClampNeg z)).1 (Int32.toNatClampNeg w)).2.1 = gb_cap n (ct_xo (ct_xo nc g (Int32.toNatClampNeg y) (Int32.toNatClampNeg z)).2.1 (ct_xo nc g (Int32.toNatClampNeg y) (Int32.toNatClampNeg z)).2.2 (ct_xo nc g (Int32.toNatClampNeg y) (Int32.toNatClampNeg z)).1 (Int32.toNatClampNeg w)).2.1 := gb_cap_cap bdb2.2.2.1 (by omega)
            have hR : (ct_th nc g x (Int32.toNatClampNeg y) (Int32.toNatClampNeg z) (Int32.toNatClampNeg w)) = (ct_xo (ct_xo nc g (Int32.toNatClampNeg y) (Int32.toNatClampNeg z)).2.1 (ct_xo nc g (Int32.toNatClampNeg y) (Int32.toNatClampNeg z)).2.2 (ct_xo nc g (Int32.toNatClampNeg y) (Int32.toNatClampNeg z)).1 (Int32.toNatClampNeg w)) := (if_neg c17).trans (if_pos c31)
            have hKb := hKK (Or.inr (Or.inl c31)) e2 e7 e13
            rw [hR] at hKb
            refine lv_aload_n hx hb dX0_three_34 rfl (lv_at hl 0 rfl) ?_
            refine lv_aload_n hx hb dX0_three_35 rfl (lv_at hl 0 rfl) ?_
            refine lv_iload_n hx hb dX0_three_36 rfl (lv_at hl 2 rfl) ?_
            refine lv_iload_n hx hb dX0_three_37 rfl (lv_at hl 3 rfl) ?_
            have hFc := va_free (wc := (gW h0 cI n ad ar iv)) hD hS hA [0, 1, 2, 3, 4, 5, 6, 7, 8] rfl
            refine va_calli (va_runV (As := [.int y, .int z]) (rest := [.ref h0]) ⟨hx, hb, hml, hown, hts⟩ (c_xorOf l D h0 cI n ad ar iv H.size y z (Int32.toNatClampNeg y) (Int32.toNatClampNeg z) nc ic g bv hya.1 hzb.1 hya.2 hzb.2 hok (by omega)) (cwV 2 hts gX0_three_X0_xorOf rfl rfl rfl (by decide +kernel) ⟨Nat.le_of_ble_eq_true rfl, Nat.le_of_ble_eq_true rfl⟩) (mP_V hK hP hD (va_recv hK hP (ci := 0) (q0 := 0) rfl rfl)) rfl rfl hl.1 rfl (lv_room (Nat.le_of_ble_eq_true rfl)) dX0_three_38 ⟨by show _ + _ ≤ 4 + K; omega, by show _ + _ ≤ 24 + 16 * K; omega⟩) hS (fun q _ h => hFc q h) hFc (fun r38 u t H1 locs ht hvm e38 hB hz1 hk1 hS => ?_)
            obtain ⟨n38, ad38, ar38, iv38⟩ := u
            obtain ⟨hP1, hK1, hD1⟩ := hB
            rw [ht] at hP1
            have hK := va_K.moved hvm.symm hK1
            have hP : va_P D vwCl (gW h0 cI n38 ad38 ar38 iv38) H1 := hP1
            have hD : va_D A (gW h0 cI n38 ad38 ar38 iv38) := hD1.weaken (fun k q _ h => hFc q.1 h)
            clear hP1 hK1 hD1 hk1 hz1 hFc ht
            generalize H1 = H at hP hS ⊢
            try dsimp only at e38
            have enb1 : n38 = gb_cap n (ct_xo nc g (Int32.toNatClampNeg y) (Int32.toNatClampNeg z)).2.1 := e38.2.1
            refine lv_iload hx hb dX0_three_41 (lv_at hl 4 rfl) ?_
            have cyb2 : gb_cap n38 (ct_xo (ct_xo nc g (Int32.toNatClampNeg y) (Int32.toNatClampNeg z)).2.1 (ct_xo nc g (Int32.toNatClampNeg y) (Int32.toNatClampNeg z)).2.2 (ct_xo nc g (Int32.toNatClampNeg y) (Int32.toNatClampNeg z)).1 (Int32.toNatClampNeg w)).2.1 = gb_cap n (ct_xo (ct_xo nc g (Int32.toNatClampNeg y) (Int32.toNatClampNeg z)).2.1 (ct_xo nc g (Int32.toNatClampNeg y) (Int32.toNatClampNeg z)).2.2 (ct_xo nc g (Int32.toNatClampNeg y) (Int32.toNatClampNeg z)).1 (Int32.toNatClampNeg w)).2.1 := by rw [enb1]; exact cxb2
            have hFc := va_free (wc := (gW h0 cI n38 ad38 ar38 iv38)) hD hS hA [0, 1, 2, 3, 4, 5, 6, 7, 8] rfl
            refine va_calli (va_runV (As := [.int r38, .int w]) (rest := []) ⟨hx, hb, hml, hown, hts⟩ (c_xorOf l D h0 cI n38 ad38 ar38 iv38 H.size r38 w (ct_xo nc g (Int32.toNatClampNeg y) (Int32.toNatClampNeg z)).1 (Int32.toNatClampNeg w) (ct_xo nc g (Int32.toNatClampNeg y) (Int32.toNatClampNeg z)).2.1 ic (ct_xo nc g (Int32.toNatClampNeg y) (Int32.toNatClampNeg z)).2.2 bv e38.1 hwc.1 (by omega) (by omega) e38.2.2 (by omega)) (cwV 2 hts gX0_three_X0_xorOf rfl rfl rfl (by decide +kernel) ⟨Nat.le_of_ble_eq_true rfl, Nat.le_of_ble_eq_true rfl⟩) (mP_V hK hP hD (va_recv hK hP (ci := 0) (q0 := 0) rfl rfl)) rfl rfl hl.1 rfl (lv_room (Nat.le_of_ble_eq_true rfl)) dX0_three_43 ⟨by show _ + _ ≤ 4 + K; omega, by show _ + _ ≤ 24 + 16 * K; omega⟩) hS (fun q _ h => hFc q h) hFc (fun r43 u t H1 locs ht hvm e43 hB hz1 hk1 hS => ?_)
            obtain ⟨n43, ad43, ar43, iv43⟩ := u
            obtain ⟨hP1, hK1, hD1⟩ := hB
            rw [ht] at hP1
            have hK := va_K.moved hvm.symm hK1
            have hP : va_P D vwCl (gW h0 cI n43 ad43 ar43 iv43) H1 := hP1
            have hD : va_D A (gW h0 cI n43 ad43 ar43 iv43) := hD1.weaken (fun k q _ h => hFc q.1 h)
            clear hP1 hK1 hD1 hk1 hz1 hFc ht
            generalize H1 = H at hP hS ⊢
            try dsimp only at e43
            have enb2 : n43 = gb_cap n (ct_xo (ct_xo nc g (Int32.toNatClampNeg y) (Int32.toNatClampNeg z)).2.1 (ct_xo nc g (Int32.toNatClampNeg y) (Int32.toNatClampNeg z)).2.2 (ct_xo nc g (Int32.toNatClampNeg y) (Int32.toNatClampNeg z)).1 (Int32.toNatClampNeg w)).2.1 := e43.2.1.trans cyb2
            refine W.widen (k := 4 + K) (n := 24 + 16 * K) (by omega) (by omega) ?_
            refine vx_ret ?_
            exact W.iret (v := r43) hx hb hr (fun t ht hW => ⟨⟨r43, (n43, ad43, ar43, iv43), rfl, ⟨⟨Or.inr (Or.inl c31), e2, e7, e13⟩, by rw [hR]; exact ⟨e43.1, enb2, e43.2.2⟩⟩, by rw [ht]; exact hP, va_K.moved hW.alike hK, hD⟩, hS.F ht⟩) hS.2.2 dX0_three_46
        · have bda1 : ct_bd nc 3 (ct_ie nc g (Int32.toNatClampNeg y) (Int32.toNatClampNeg z) (Int32.toNatClampNeg w)) := ct_ie_b hwf hya.2 hzb.2 hwc.2
          have bla1 : (ct_ie nc g (Int32.toNatClampNeg y) (Int32.toNatClampNeg z) (Int32.toNatClampNeg w)).1 < 2 * (ct_ie nc g (Int32.toNatClampNeg y) (Int32.toNatClampNeg z) (Int32.toNatClampNeg w)).2.1 := bda1.2.1
          have bga1 : nc ≤ (ct_ie nc g (Int32.toNatClampNeg y) (Int32.toNatClampNeg z) (Int32.toNatClampNeg w)).2.1 := bda1.2.2.1
          have bha1 : (ct_ie nc g (Int32.toNatClampNeg y) (Int32.toNatClampNeg z) (Int32.toNatClampNeg w)).2.1 ≤ nc + 3 := bda1.2.2.2
          have cka1 : n ≤ gb_cap n (ct_ie nc g (Int32.toNatClampNeg y) (Int32.toNatClampNeg z) (Int32.toNatClampNeg w)).2.1 := (gb_cap_n n _).1
          have hR : (ct_th nc g x (Int32.toNatClampNeg y) (Int32.toNatClampNeg z) (Int32.toNatClampNeg w)) = (ct_ie nc g (Int32.toNatClampNeg y) (Int32.toNatClampNeg z) (Int32.toNatClampNeg w)) := if_pos c17
          have hKb := hKK (Or.inl c17) e2 e7 e13
          rw [hR] at hKb
          refine lv_aload_n hx hb dX0_three_20 rfl (lv_at hl 0 rfl) ?_
          refine lv_iload_n hx hb dX0_three_21 rfl (lv_at hl 2 rfl) ?_
          refine lv_iload_n hx hb dX0_three_22 rfl (lv_at hl 3 rfl) ?_
          refine lv_iload hx hb dX0_three_23 (lv_at hl 4 rfl) ?_
          have hFc := va_free (wc := (gW h0 cI n ad ar iv)) hD hS hA [0, 1, 2, 3, 4, 5, 6, 7, 8] rfl
          refine va_calli (va_runV (As := [.int y, .int z, .int w]) (rest := []) ⟨hx, hb, hml, hown, hts⟩ (c_ifOf l D h0 cI n ad ar iv H.size y z w (Int32.toNatClampNeg y) (Int32.toNatClampNeg z) (Int32.toNatClampNeg w) nc ic g bv hya.1 hzb.1 hwc.1 hya.2 hzb.2 hwc.2 hok (by omega)) (cwV 3 hts gX0_three_X0_ifOf rfl rfl rfl (by decide +kernel) ⟨Nat.le_of_ble_eq_true rfl, Nat.le_of_ble_eq_true rfl⟩) (mP_V hK hP hD (va_recv hK hP (ci := 0) (q0 := 0) rfl rfl)) rfl rfl hl.1 rfl (lv_room (Nat.le_of_ble_eq_true rfl)) dX0_three_25 ⟨by show _ + _ ≤ 4 + K; omega, by show _ + _ ≤ 24 + 16 * K; omega⟩) hS (fun q _ h => hFc q h) hFc (fun r25 u t H1 locs ht hvm e25 hB hz1 hk1 hS => ?_)
          obtain ⟨n25, ad25, ar25, iv25⟩ := u
          obtain ⟨hP1, hK1, hD1⟩ := hB
          rw [ht] at hP1
          have hK := va_K.moved hvm.symm hK1
          have hP : va_P D vwCl (gW h0 cI n25 ad25 ar25 iv25) H1 := hP1
          have hD : va_D A (gW h0 cI n25 ad25 ar25 iv25) := hD1.weaken (fun k q _ h => hFc q.1 h)
          clear hP1 hK1 hD1 hk1 hz1 hFc ht
          generalize H1 = H at hP hS ⊢
          try dsimp only at e25
          have ena1 : n25 = gb_cap n (ct_ie nc g (Int32.toNatClampNeg y) (Int32.toNatClampNeg z) (Int32.toNatClampNeg w)).2.1 := e25.2.1
          refine W.widen (k := 4 + K) (n := 24 + 16 * K) (by omega) (by omega) ?_
          refine vx_ret ?_
          exact W.iret (v := r25) hx hb hr (fun t ht hW => ⟨⟨r25, (n25, ad25, ar25, iv25), rfl, ⟨⟨Or.inl c17, e2, e7, e13⟩, by rw [hR]; exact ⟨e25.1, ena1, e25.2.2⟩⟩, by rw [ht]; exact hP, va_K.moved hW.alike hK, hD⟩, hS.F ht⟩) hS.2.2 dX0_three_28
end
section
-- ===== what the questions rest on =====
theorem ct_b_n1 {r : Int32} {b : Bool} (e : r = ct_b b) (h : ¬ r = 1) : (0 : Int32) = r := by
  cases b
  · exact e.symm
  · exact absurd e h
theorem ct_b_inj {a b : Bool} (h : ct_b a = ct_b b) : a = b := by
  cases a <;> cases b <;> first | rfl | exact absurd h (by decide)
theorem ct_nod_n {nc : Nat} {x : Int32} (h : ct_nod nc x) (hn : nc < 2 ^ 30) : x = nI x.toNatClampNeg ∧ x.toNatClampNeg < nc := by
  obtain ⟨a, ha, rfl⟩ := ct_nod_of h hn
  rw [nI_clamp (by omega)]
  exact ⟨rfl, ha⟩
def ct_kd (g : Ct) (a : Nat) : Int32 := if a = 0 then 0 else if g a = none then 1 else 2
def ct_nd (nc : Nat) (g : Ct) (a : Nat) (w : Int32) : Int32 := if w = 0 then ct_kd g a else if w = 1 then ct_f g a else if w = 2 then ct_s g a else nI (ct_us g nc a)
theorem gb_kind_n {n nc : Nat} {g : Ct} {ar : Nat → Nat → Int32} (h : ct_at n nc g ar) {a : Nat} (ha : a < nc) : gb_kind ar (nI a) = ct_kd g a := by
  have hn := h.2.1
  have h3 := h.2.2.1
  have e1 := gb_gate_n h ha
  have e2 : nI a = 0 ↔ a = 0 := nI_eq (a := a) (b := 0) (by omega) (by omega)
  unfold gb_kind ct_kd
  simp only [e1, e2]
theorem gb_kind_i {n nc : Nat} {g : Ct} {ar : Nat → Nat → Int32} (h : ct_at n nc g ar) {a : Nat} (ha : a < nc) (hk : gb_kind ar (nI a) = 1) : 0 < a ∧ g a = none := by
  rw [gb_kind_n h ha] at hk
  unfold ct_kd at hk
  split at hk
  · exact absurd hk (by decide)
  · split at hk
    · exact ⟨by omega, by assumption⟩
    · exact absurd hk (by decide)
theorem ct_up_same {bv : Nat → Bool} {a : Nat} {b : Bool} (h : bv a = b) : va_up bv a b = bv := by
  funext j
  by_cases e : j = a
  · rw [e, va_up_self, h]
  · rw [va_up_ne _ _ e]
theorem gb_ok_set {n nc ic a st : Nat} {g : Ct} {bv : Nat → Bool} {on : Bool} {ar ar' : Nat → Nat → Int32} {iv iv' : Nat → Int32} (h : gb_ok n nc ic g bv ar iv) (hg : g a = none) (h0 : 0 < a) (ha : a < nc)
    (e : ar' = va_up ar 4 (upd (ar 4) a (ct_b on))) (s2 : 1 ≤ st) (s3 : st ≤ nc) (s4 : ∀ i, i < st → ar 4 i = ct_b (ct_vl g bv i)) (e2 : iv' = va_up iv 2 (nI (min st (a + 1)))) : gb_ok n nc ic g (va_up bv a on) ar' iv' := by
  have hw := h.wf
  have hle := h.ct.2.1
  have hb9 := h.ct.2.2.1
  have r4 : ar' 4 = upd (ar 4) a (ct_b on) := by rw [e, va_up_self]
  have rk : ∀ k, k ≠ 4 → ar' k = ar k := fun k hk => by rw [e, va_up_ne _ _ hk]
  subst e2
  refine ⟨⟨h.ct.1, h.ct.2.1, h.ct.2.2.1, hw, fun i hi => ?_⟩, h.n16, by rw [va_up_ne _ _ (by decide)]; exact h.nc, by rw [va_up_ne _ _ (by decide)]; exact h.ic, by rw [va_up_ne _ _ (by omega)]; exact h.bv0, fun i hi => by rw [va_up_ne _ _ (by omega)]; exact h.bvn i hi, ?_, ?_, ?_, ?_, fun i hi hn => ?_, fun i hi => ?_, ?_⟩
  · rw [rk 0 (by decide), rk 1 (by decide)]; exact h.ct.2.2.2.2 i hi
  · rw [rk 2 (by decide)]; exact h.us
  · rw [rk 3 (by decide)]; exact h.dp
  · rw [rk 6 (by decide)]; exact h.nw
  · rw [rk 7 (by decide)]; exact h.nx
  · rw [r4]
    by_cases z : i = a
    · rw [z, pk_us, va_up_self]
    · rw [pk_un z, va_up_ne _ _ z]; exact h.vi i hi hn
  · rw [r4]
    by_cases z : i = a
    · rw [z, pk_us]; exact ⟨_, rfl⟩
    · rw [pk_un z]; exact h.vb i hi
  · refine ⟨min st (a + 1), va_up_self _ _ _, by omega, by omega, fun i hi => ?_⟩
    rw [r4]
    by_cases z : i = a
    · rw [z, pk_us, ct_vl_n hg, va_up_self]
    · rw [pk_un z, s4 i (by omega), ct_vl_ext hw (fun j hj => ⟨rfl, va_up_ne _ _ (by omega)⟩)]
theorem gb_ok_mark {n nc ic : Nat} {g : Ct} {bv : Nat → Bool} {ar ar' : Nat → Nat → Int32} {iv iv' : Nat → Int32} (h : gb_ok n nc ic g bv ar iv) (rk : ∀ k, k ≠ 5 → ar' k = ar k) (e : iv' = iv) : gb_ok n nc ic g bv ar' iv' := by
  subst e
  refine ⟨⟨h.ct.1, h.ct.2.1, h.ct.2.2.1, h.wf, fun i hi => ?_⟩, h.n16, h.nc, h.ic, h.bv0, h.bvn, ?_, ?_, ?_, ?_, ?_, ?_, ?_⟩
  · rw [rk 0 (by decide), rk 1 (by decide)]; exact h.ct.2.2.2.2 i hi
  · rw [rk 2 (by decide)]; exact h.us
  · rw [rk 3 (by decide)]; exact h.dp
  · rw [rk 6 (by decide)]; exact h.nw
  · rw [rk 7 (by decide)]; exact h.nx
  · rw [rk 4 (by decide)]; exact h.vi
  · rw [rk 4 (by decide)]; exact h.vb
  · rw [rk 4 (by decide)]; exact h.st
theorem ct_in_gt {nc : Nat} {g : Ct} (hw : ct_wf nc g) {t i : Nat} (h : t < i) : ct_in g t i = false := by
  cases e : ct_in g t i with
  | false => rfl
  | true =>
    have := ct_rc_cl (g := g) (P := fun j => j ≤ t) (fun j x y hj hp => by
      have h3 := hw.1 j x y hj
      omega) i (t + 1) t (Nat.le_refl t) e
    omega
end
section
set_option maxHeartbeats 4000000 in
set_option maxRecDepth 100000 in
/-- value -/
theorem c_value (l : Launch) (hl9 : l.stackTraces = false) (D : va_G) (h0 : Nat) (cI : ClassId) (n : Nat) (ad : Nat → Nat) (ar : Nat → Nat → Int32) (iv : Nat → Int32) (sz : Nat) (x : Int32) (nc ic : Nat) (g : Ct) (bv : Nat → Bool) (hok : gb_ok n nc ic g bv ar iv) (hmx : nc + 6 ≤ 20000) : vx_Met l yX0_value wsX0_value ({ frames := 7, cells := 1, slots := 6, locals := 111 }) (tP D (gW h0 cI n ad ar iv) [(cI, .int)] sz [.ref h0, .int x]) (va_Qi (fun (r : Int32) (u : GS) => (ct_lit nc x ∧ r = ct_b (ct_vl g bv ((Int32.toNatClampNeg x) / 2) ^^ decide ((Int32.toNatClampNeg x) % 2 = 1)) ∧ u.1 = n ∧ gb_ok n nc ic g bv u.2.2.1 u.2.2.2)) (gb_at D cI (va_A (gW h0 cI n ad ar iv) sz) h0) (va_A (gW h0 cI n ad ar iv) sz)) (gb_xc D cI (va_A (gW h0 cI n ad ar iv) sz) h0 (n, ad, ar, iv) (¬ ct_lit nc x)) (1) (6) (va_A (gW h0 cI n ad ar iv) sz) := by
  refine vx_ofW (cc := cX0_value) (maxL := 2) (ret := (some .boolean)) (by decide) rfl ?_
  intro p e s m args below meth c s₁ B hml hnt hv
  obtain ⟨rfl, hsz, hP, hK, hD0, hT⟩ := hv
  have hx := B.exec
  have hb := B.bytes
  have hr := B.returns
  have hts := atoms_spec (ws := wsX0_value) B.pre
  have hown : s.vm.findClass RX0 = some m.cls := findClass_of_methodNamed B.named
  have hlocks := B.notSynchronized
  have hl := lv_entry ([.ref h0, .int x]) (n := 2) (Nat.le_of_ble_eq_true rfl)
  rw [lg_entry_eq]
  generalize (lg_sl ([.ref h0, .int x]) ++ List.replicate (2 - (lg_sl ([.ref h0, .int x])).length) Slot.unset).toArray = ls at hl ⊢
  have hl : lv_has ls 2 [(0, .ref h0), (1, .int x)] := hl
  subst hsz
  have hD := hD0.self (sz := s.heap.size)
  generalize hAe : va_A (gW h0 cI n ad ar iv) s.heap.size = A at hD hT ⊢
  have hA : ∀ q : Nat, s.heap.size ≤ q → A q := fun q h => by rw [← hAe]; exact Or.inr h
  have hS : va_S A s.heap s.heap [] := va_S.rf
  have hnc := hok.nc
  have hct := hok.ct
  have hwf := hok.wf
  have h16 := hok.n16
  have hle := hct.2.1
  have hb9 := hct.2.2.1
  have hn9 : nc < 2 ^ 30 := by omega
  refine lv_aload_n hx hb dX0_value_0 rfl (lv_at hl 0 rfl) ?_
  refine lv_iload_n hx hb dX0_value_1 rfl (lv_at hl 1 rfl) ?_
  have hFc := va_free (wc := (gW h0 cI n ad ar iv)) hD hS hA [0, 1, 2, 3, 4, 5, 6, 7, 8] rfl
  refine vx_callv (vx_runV (As := [.int x]) (rest := []) ⟨hx, hb, hml, hown, hts⟩ (c_needLiteral l hl9 D h0 cI n ad ar iv s.heap.size x nc hnc hn9) (cwV 1 hts gX0_value_X0_needLiteral rfl rfl rfl (by decide +kernel) ⟨Nat.le_of_ble_eq_true rfl, Nat.le_of_ble_eq_true rfl⟩) (tP_V hK hP hD (va_recv hK hP (ci := 0) (q0 := 0) rfl rfl) hT hS hFc) rfl rfl hl.1 rfl (lv_room (Nat.le_of_ble_eq_true rfl)) dX0_value_2 ⟨by show _ + _ ≤ 1; omega, by show _ + _ ≤ 6; omega⟩) hS (fun q _ h => hFc q h) hFc (fun q _ h => hFc q h) (fun E ce q9 u t H1 locs ht hvm e2 hB hz1 hk1 hS hcell hcv hcl => ?_) (fun u t H1 locs ht hvm e2 hB hz1 hk1 hS => ?_)
  · obtain ⟨e2, rfl⟩ := e2
    obtain ⟨rfl, hP1, hK1, hD1⟩ := hB
    rw [ht] at hP1
    have hK := va_K.moved hvm.symm hK1
    have hD : va_D A (gW h0 cI n ad ar iv) := hD1.weaken (fun k q _ h => hFc q.1 h)
    exact vx_out (fun x h => (hnt x h).elim) hlocks hcell hcv hcl (fun t' ht' hvm' => ⟨(n, ad, ar, iv), ⟨e2, rfl⟩, ⟨rfl, by rw [ht']; exact hP1, va_K.moved hvm' hK, hD⟩, hS.F ht'⟩) hS.2.2 (by omega) (by omega)
  · obtain ⟨e2, rfl⟩ := e2
    obtain ⟨hP1, hK1, hD1⟩ := hB
    rw [ht] at hP1
    have hK := va_K.moved hvm.symm hK1
    have hP : va_P D vwCl (gW h0 cI n ad ar iv) H1 := hP1
    have hD : va_D A (gW h0 cI n ad ar iv) := hD1.weaken (fun k q _ h => hFc q.1 h)
    clear hP1 hK1 hD1 hk1 hz1 hFc ht
    generalize H1 = H at hP hS ⊢
    have hxa := ct_lit_n e2 hn9
    obtain ⟨top, htop⟩ : ∃ z : Nat, z = (Int32.toNatClampNeg x) / 2 := ⟨_, rfl⟩
    refine lv_aload_n hx hb dX0_value_5 rfl (lv_at hl 0 rfl) ?_
    refine lv_iload_n hx hb dX0_value_6 rfl (lv_at hl 1 rfl) ?_
    refine lv_iconst (v := 1) hx hb dX0_value_7 (by decide) ?_
    refine lv_ishr hx hb dX0_value_8 ?_
    refine lv_topi (fun v8 e8 => ?_)
    have e8 : v8 = nI top := by rw [e8, hxa.1, ct_shr (by omega), htop]
    have hFc := va_free (wc := (gW h0 cI n ad ar iv)) hD hS hA [0, 1, 2, 3, 4, 5, 6, 7, 8] rfl
    refine va_callv (va_runV (As := [.int v8]) (rest := []) ⟨hx, hb, hml, hown, hts⟩ (c_settle l D h0 cI n ad ar iv H.size v8 top nc ic g bv e8 (by omega) hok) (cwV 1 hts gX0_value_X0_settle rfl rfl rfl (by decide +kernel) ⟨Nat.le_of_ble_eq_true rfl, Nat.le_of_ble_eq_true rfl⟩) (mP_V hK hP hD (va_recv hK hP (ci := 0) (q0 := 0) rfl rfl)) rfl rfl hl.1 rfl (lv_room (Nat.le_of_ble_eq_true rfl)) dX0_value_9 ⟨by show _ + _ ≤ 1; omega, by show _ + _ ≤ 6; omega⟩) hS (fun q _ h => hFc q h) hFc (fun u t H1 locs ht hvm e9 hB hz1 hk1 hS => ?_)
    obtain ⟨n9, ad9, ar9, iv9⟩ := u
    obtain ⟨hP1, hK1, hD1⟩ := hB
    rw [ht] at hP1
    have hK := va_K.moved hvm.symm hK1
    have hP : va_P D vwCl (gW h0 cI n9 ad9 ar9 iv9) H1 := hP1
    have hD : va_D A (gW h0 cI n9 ad9 ar9 iv9) := hD1.weaken (fun k q _ h => hFc q.1 h)
    clear hP1 hK1 hD1 hk1 hz1 hFc ht
    generalize H1 = H at hP hS ⊢
    try dsimp only at e9
    have hc14 : vp_in (gb_sh x) n9 := by rw [e9.1, hxa.1, gb_sh_n (by omega)]; exact vp_in_nI (by omega) (by omega)
    refine lv_aload_n hx hb dX0_value_12 rfl (lv_at hl 0 rfl) ?_
    refine lv_iload_n hx hb dX0_value_13 rfl (lv_at hl 1 rfl) ?_
    refine vp_callSi (W.runV (As := [.int x]) (rest := []) ⟨hx, hb, hml, hown, hts⟩ (c_valueNow l D h0 cI n9 ad9 ar9 iv9 x hc14) (cwV 1 hts gX0_value_X0_valueNow rfl rfl rfl (by decide +kernel) ⟨Nat.le_of_ble_eq_true rfl, Nat.le_of_ble_eq_true rfl⟩) (rP_V hK hP (va_recv hK hP (ci := 0) (q0 := 0) rfl rfl)) rfl rfl hl.1 rfl (lv_room (Nat.le_of_ble_eq_true rfl)) dX0_value_14 ⟨by show _ + _ ≤ 1; omega, by show _ + _ ≤ 6; omega⟩) (fun r14 e14 => ?_)
    have e14 : r14 = ct_b (ct_vl g bv ((Int32.toNatClampNeg x) / 2) ^^ decide ((Int32.toNatClampNeg x) % 2 = 1)) := by
      have h9 := gb_val_n (ar := ar9) (a := (Int32.toNatClampNeg x)) (by omega) (e9.2.2 ((Int32.toNatClampNeg x) / 2) (by omega))
      rw [← hxa.1] at h9
      rw [e14]; exact h9
    refine lv_iconst (v := 1) hx hb dX0_value_17 (by decide) ?_
    refine lv_icmp_ne (tgt := 25) hx hb dX0_value_18 (by decide) (fun c18 => ?_) (fun c18 => ?_)
    · refine lv_iconst (v := 0) hx hb dX0_value_25 (by decide) ?_
      refine W.widen (k := 1) (n := 6) (by omega) (by omega) ?_
      refine vx_ret ?_
      exact W.zret (v := 0) hx hb hr (by decide) (fun t ht hW => ⟨⟨0, (n9, ad9, ar9, iv9), rfl, ⟨e2, by rw [← e14]; exact ct_b_n1 e14 c18, e9.1, e9.2.1⟩, by rw [ht]; exact hP, va_K.moved hW.alike hK, hD⟩, hS.F ht⟩) hS.2.2 dX0_value_26
    · refine lv_iconst (v := 1) hx hb dX0_value_21 (by decide) ?_
      refine lv_goto (tgt := 26) hx hb dX0_value_22 (by decide) ?_
      refine W.widen (k := 1) (n := 6) (by omega) (by omega) ?_
      refine vx_ret ?_
      exact W.zret (v := 1) hx hb hr (by decide) (fun t ht hW => ⟨⟨1, (n9, ad9, ar9, iv9), rfl, ⟨e2, by rw [← e14]; exact c18.symm, e9.1, e9.2.1⟩, by rw [ht]; exact hP, va_K.moved hW.alike hK, hD⟩, hS.F ht⟩) hS.2.2 dX0_value_26
set_option maxHeartbeats 4000000 in
set_option maxRecDepth 100000 in
/-- depth -/
theorem c_depth (l : Launch) (hl9 : l.stackTraces = false) (D : va_G) (h0 : Nat) (cI : ClassId) (n : Nat) (ad : Nat → Nat) (ar : Nat → Nat → Int32) (iv : Nat → Int32) (sz : Nat) (x : Int32) (nc ic : Nat) (g : Ct) (bv : Nat → Bool) (hok : gb_ok n nc ic g bv ar iv) (hmx : nc + 6 ≤ 20000) : vx_Met l yX0_depth wsX0_depth ({ frames := 7, cells := 1, slots := 6, locals := 111 }) (tP D (gW h0 cI n ad ar iv) [(cI, .int)] sz [.ref h0, .int x]) (va_Qi (fun (r : Int32) (u : GS) => (ct_lit nc x ∧ r = nI (ct_dp g ((Int32.toNatClampNeg x) / 2)) ∧ u = (n, ad, ar, iv))) (gb_at D cI (va_A (gW h0 cI n ad ar iv) sz) h0) (va_A (gW h0 cI n ad ar iv) sz)) (gb_xc D cI (va_A (gW h0 cI n ad ar iv) sz) h0 (n, ad, ar, iv) (¬ ct_lit nc x)) (1) (6) (va_A (gW h0 cI n ad ar iv) sz) := by
  refine vx_ofW (cc := cX0_depth) (maxL := 2) (ret := (some .int)) (by decide) rfl ?_
  intro p e s m args below meth c s₁ B hml hnt hv
  obtain ⟨rfl, hsz, hP, hK, hD0, hT⟩ := hv
  have hx := B.exec
  have hb := B.bytes
  have hr := B.returns
  have hts := atoms_spec (ws := wsX0_depth) B.pre
  have hown : s.vm.findClass RX0 = some m.cls := findClass_of_methodNamed B.named
  have hlocks := B.notSynchronized
  have hl := lv_entry ([.ref h0, .int x]) (n := 2) (Nat.le_of_ble_eq_true rfl)
  rw [lg_entry_eq]
  generalize (lg_sl ([.ref h0, .int x]) ++ List.replicate (2 - (lg_sl ([.ref h0, .int x])).length) Slot.unset).toArray = ls at hl ⊢
  have hl : lv_has ls 2 [(0, .ref h0), (1, .int x)] := hl
  subst hsz
  have hD := hD0.self (sz := s.heap.size)
  generalize hAe : va_A (gW h0 cI n ad ar iv) s.heap.size = A at hD hT ⊢
  have hA : ∀ q : Nat, s.heap.size ≤ q → A q := fun q h => by rw [← hAe]; exact Or.inr h
  have hS : va_S A s.heap s.heap [] := va_S.rf
  have hnc := hok.nc
  have hct := hok.ct
  have hwf := hok.wf
  have h16 := hok.n16
  have hle := hct.2.1
  have hb9 := hct.2.2.1
  have hn9 : nc < 2 ^ 30 := by omega
  refine lv_aload_n hx hb dX0_depth_0 rfl (lv_at hl 0 rfl) ?_
  refine lv_iload_n hx hb dX0_depth_1 rfl (lv_at hl 1 rfl) ?_
  have hFc := va_free (wc := (gW h0 cI n ad ar iv)) hD hS hA [0, 1, 2, 3, 4, 5, 6, 7, 8] rfl
  refine vx_callv (vx_runV (As := [.int x]) (rest := []) ⟨hx, hb, hml, hown, hts⟩ (c_needLiteral l hl9 D h0 cI n ad ar iv s.heap.size x nc hnc hn9) (cwV 1 hts gX0_depth_X0_needLiteral rfl rfl rfl (by decide +kernel) ⟨Nat.le_of_ble_eq_true rfl, Nat.le_of_ble_eq_true rfl⟩) (tP_V hK hP hD (va_recv hK hP (ci := 0) (q0 := 0) rfl rfl) hT hS hFc) rfl rfl hl.1 rfl (lv_room (Nat.le_of_ble_eq_true rfl)) dX0_depth_2 ⟨by show _ + _ ≤ 1; omega, by show _ + _ ≤ 6; omega⟩) hS (fun q _ h => hFc q h) hFc (fun q _ h => hFc q h) (fun E ce q9 u t H1 locs ht hvm e2 hB hz1 hk1 hS hcell hcv hcl => ?_) (fun u t H1 locs ht hvm e2 hB hz1 hk1 hS => ?_)
  · obtain ⟨e2, rfl⟩ := e2
    obtain ⟨rfl, hP1, hK1, hD1⟩ := hB
    rw [ht] at hP1
    have hK := va_K.moved hvm.symm hK1
    have hD : va_D A (gW h0 cI n ad ar iv) := hD1.weaken (fun k q _ h => hFc q.1 h)
    exact vx_out (fun x h => (hnt x h).elim) hlocks hcell hcv hcl (fun t' ht' hvm' => ⟨(n, ad, ar, iv), ⟨e2, rfl⟩, ⟨rfl, by rw [ht']; exact hP1, va_K.moved hvm' hK, hD⟩, hS.F ht'⟩) hS.2.2 (by omega) (by omega)
  · obtain ⟨e2, rfl⟩ := e2
    obtain ⟨hP1, hK1, hD1⟩ := hB
    rw [ht] at hP1
    have hK := va_K.moved hvm.symm hK1
    have hP : va_P D vwCl (gW h0 cI n ad ar iv) H1 := hP1
    have hD : va_D A (gW h0 cI n ad ar iv) := hD1.weaken (fun k q _ h => hFc q.1 h)
    clear hP1 hK1 hD1 hk1 hz1 hFc ht
    generalize H1 = H at hP hS ⊢
    have hxa := ct_lit_n e2 hn9
    refine lv_aload_n hx hb dX0_depth_5 rfl (lv_at hl 0 rfl) ?_
    refine va_get (D := D) (ci := 0) (v := .ref (ad 3)) (C := RX0) (T := TX0) (N := 11) hx hb hts inX0 hown hK hP 0 rfl rfl 3 (by decide) (hts _ (mG wm_56)) (fun _ h9 => h9) rfl dX0_depth_6 ?_
    refine lv_iload_n hx hb dX0_depth_9 rfl (lv_at hl 1 rfl) ?_
    refine lv_iconst (v := 1) hx hb dX0_depth_10 (by decide) ?_
    refine lv_ishr hx hb dX0_depth_11 ?_
    refine lv_topi (fun v11 e11 => ?_)
    have e11 : v11 = nI ((Int32.toNatClampNeg x) / 2) := by rw [e11, ← ct_shr (by omega), ← hxa.1]
    have hi12 : vp_in v11 n := by rw [e11]; exact vp_in_nI (by omega) (by omega)
    refine va_iald hx hb hK hP 4 0 rfl rfl hi12 dX0_depth_12 ?_
    refine lv_topi (fun v12 e12 => ?_)
    refine W.widen (k := 1) (n := 6) (by omega) (by omega) ?_
    refine vx_ret ?_
    exact W.iret (v := v12) hx hb hr (fun t ht hW => ⟨⟨v12, (n, ad, ar, iv), rfl, ⟨e2, by rw [e12, e11, nI_clamp (by omega)]; exact hok.dp _ (by omega), rfl⟩, by rw [ht]; exact hP, va_K.moved hW.alike hK, hD⟩, hS.F ht⟩) hS.2.2 dX0_depth_13
set_option maxHeartbeats 4000000 in
set_option maxRecDepth 100000 in
/-- node -/
theorem c_node (l : Launch) (hl9 : l.stackTraces = false) (D : va_G) (h0 : Nat) (cI : ClassId) (n : Nat) (ad : Nat → Nat) (ar : Nat → Nat → Int32) (iv : Nat → Int32) (sz : Nat) (x : Int32) (y : Int32) (nc ic : Nat) (g : Ct) (bv : Nat → Bool) (hok : gb_ok n nc ic g bv ar iv) (hmx : nc + 6 ≤ 20000) : vx_Met l yX0_node wsX0_node ({ frames := 7, cells := 2, slots := 12, locals := 111 }) (tP D (gW h0 cI n ad ar iv) [(cI, .int)] sz [.ref h0, .int x, .int y]) (va_Qi (fun (r : Int32) (u : GS) => ((ct_nod nc x ∧ (y = 0 ∨ y = 1 ∨ y = 2 ∨ y = 3)) ∧ r = ct_nd nc g (Int32.toNatClampNeg x) y ∧ u = (n, ad, ar, iv))) (gb_at D cI (va_A (gW h0 cI n ad ar iv) sz) h0) (va_A (gW h0 cI n ad ar iv) sz)) (gb_xc D cI (va_A (gW h0 cI n ad ar iv) sz) h0 (n, ad, ar, iv) (¬ (ct_nod nc x ∧ (y = 0 ∨ y = 1 ∨ y = 2 ∨ y = 3)))) (2) (12) (va_A (gW h0 cI n ad ar iv) sz) := by
  refine vx_ofW (cc := cX0_node) (maxL := 3) (ret := (some .int)) (by decide) rfl ?_
  intro p e s m args below meth c s₁ B hml hnt hv
  obtain ⟨rfl, hsz, hP, hK, hD0, hT⟩ := hv
  have hx := B.exec
  have hb := B.bytes
  have hr := B.returns
  have hts := atoms_spec (ws := wsX0_node) B.pre
  have hown : s.vm.findClass RX0 = some m.cls := findClass_of_methodNamed B.named
  have hlocks := B.notSynchronized
  have hl := lv_entry ([.ref h0, .int x, .int y]) (n := 3) (Nat.le_of_ble_eq_true rfl)
  rw [lg_entry_eq]
  generalize (lg_sl ([.ref h0, .int x, .int y]) ++ List.replicate (3 - (lg_sl ([.ref h0, .int x, .int y])).length) Slot.unset).toArray = ls at hl ⊢
  have hl : lv_has ls 3 [(0, .ref h0), (1, .int x), (2, .int y)] := hl
  subst hsz
  have hD := hD0.self (sz := s.heap.size)
  generalize hAe : va_A (gW h0 cI n ad ar iv) s.heap.size = A at hD hT ⊢
  have hA : ∀ q : Nat, s.heap.size ≤ q → A q := fun q h => by rw [← hAe]; exact Or.inr h
  have hS : va_S A s.heap s.heap [] := va_S.rf
  have hnc := hok.nc
  have hct := hok.ct
  have hwf := hok.wf
  have h16 := hok.n16
  have hle := hct.2.1
  have hb9 := hct.2.2.1
  have hn9 : nc < 2 ^ 30 := by omega
  refine lv_aload_n hx hb dX0_node_0 rfl (lv_at hl 0 rfl) ?_
  refine lv_iload_n hx hb dX0_node_1 rfl (lv_at hl 1 rfl) ?_
  have hFc := va_free (wc := (gW h0 cI n ad ar iv)) hD hS hA [0, 1, 2, 3, 4, 5, 6, 7, 8] rfl
  refine vx_callv (vx_runV (As := [.int x]) (rest := []) ⟨hx, hb, hml, hown, hts⟩ (c_needNode l hl9 D h0 cI n ad ar iv s.heap.size x nc hnc hn9) (cwV 1 hts gX0_node_X0_needNode rfl rfl rfl (by decide +kernel) ⟨Nat.le_of_ble_eq_true rfl, Nat.le_of_ble_eq_true rfl⟩) (tP_V hK hP hD (va_recv hK hP (ci := 0) (q0 := 0) rfl rfl) hT hS hFc) rfl rfl hl.1 rfl (lv_room (Nat.le_of_ble_eq_true rfl)) dX0_node_2 ⟨by show _ + _ ≤ 2; omega, by show _ + _ ≤ 12; omega⟩) hS (fun q _ h => hFc q h) hFc (fun q _ h => hFc q h) (fun E ce q9 u t H1 locs ht hvm e2 hB hz1 hk1 hS hcell hcv hcl => ?_) (fun u t H1 locs ht hvm e2 hB hz1 hk1 hS => ?_)
  · obtain ⟨e2, rfl⟩ := e2
    obtain ⟨rfl, hP1, hK1, hD1⟩ := hB
    rw [ht] at hP1
    have hK := va_K.moved hvm.symm hK1
    have hD : va_D A (gW h0 cI n ad ar iv) := hD1.weaken (fun k q _ h => hFc q.1 h)
    exact vx_out (fun x h => (hnt x h).elim) hlocks hcell hcv hcl (fun t' ht' hvm' => ⟨(n, ad, ar, iv), ⟨(fun z => e2 z.1), rfl⟩, ⟨rfl, by rw [ht']; exact hP1, va_K.moved hvm' hK, hD⟩, hS.F ht'⟩) hS.2.2 (by omega) (by omega)
  · obtain ⟨e2, rfl⟩ := e2
    obtain ⟨hP1, hK1, hD1⟩ := hB
    rw [ht] at hP1
    have hK := va_K.moved hvm.symm hK1
    have hP : va_P D vwCl (gW h0 cI n ad ar iv) H1 := hP1
    have hD : va_D A (gW h0 cI n ad ar iv) := hD1.weaken (fun k q _ h => hFc q.1 h)
    clear hP1 hK1 hD1 hk1 hz1 hFc ht
    generalize H1 = H at hP hS ⊢
    have hxa := ct_nod_n e2 hn9
    have hi25 : vp_in x n := ct_nod_in e2 hn9 hle hb9
    have hi37 := hi25
    have hi49 := hi25
    have hc11 := hi25
    refine lv_iload_n hx hb dX0_node_5 rfl (lv_at hl 2 rfl) ?_
    refine lv_if_ne (tgt := 15) hx hb dX0_node_6 (by decide) (fun c6 => ?_) (fun c6 => ?_)
    · refine lv_iload_n hx hb dX0_node_15 rfl (lv_at hl 2 rfl) ?_
      refine lv_iconst (v := 1) hx hb dX0_node_16 (by decide) ?_
      refine lv_icmp_ne (tgt := 27) hx hb dX0_node_17 (by decide) (fun c17 => ?_) (fun c17 => ?_)
      · refine lv_iload_n hx hb dX0_node_27 rfl (lv_at hl 2 rfl) ?_
        refine lv_iconst (v := 2) hx hb dX0_node_28 (by decide) ?_
        refine lv_icmp_ne (tgt := 39) hx hb dX0_node_29 (by decide) (fun c29 => ?_) (fun c29 => ?_)
        · refine lv_iload_n hx hb dX0_node_39 rfl (lv_at hl 2 rfl) ?_
          refine lv_iconst (v := 3) hx hb dX0_node_40 (by decide) ?_
          refine lv_icmp_ne (tgt := 51) hx hb dX0_node_41 (by decide) (fun c41 => ?_) (fun c41 => ?_)
          · obtain ⟨sa, hsa⟩ := hT.2.2.2
            exact vx_throwS (cls := IAE) (names := iae_names) (A := A) hx hb hl9 hown (by decide) (by decide) (hts _ (mG wm_207)) (hts _ (mG wm_44)) (hsa (95, "no such thing of a node") (List.mem_of_getElem? (i := 2) rfl)) (hT.hat hts) iae_ot hT.1 hT.2.1 hS (by rw [hml]; exact hl.1) dX0_node_51 dX0_node_54 dX0_node_55 dX0_node_57 dX0_node_60 (fun x h => (hnt x h).elim) (Nat.le_of_ble_eq_true rfl) (Nat.le_of_ble_eq_true rfl) (by show _ + 1 ≤ 2; omega) (by show _ + 6 ≤ 12; omega) hlocks (fun t hvm hz hk => ⟨(n, ad, ar, iv), ⟨(fun z => z.2.elim c6 (fun z => z.elim c17 (fun z => z.elim c29 c41))), rfl⟩, ⟨rfl, gb_kept hP hk, va_K.moved hvm hK, hD⟩, gb_F hS hz hk⟩) hS.2.2 (by omega) (by omega)
          · refine lv_aload_n hx hb dX0_node_44 rfl (lv_at hl 0 rfl) ?_
            refine va_get (D := D) (ci := 0) (v := .ref (ad 2)) (C := RX0) (T := TX0) (N := 11) hx hb hts inX0 hown hK hP 0 rfl rfl 2 (by decide) (hts _ (mG wm_55)) (fun _ h9 => h9) rfl dX0_node_45 ?_
            refine lv_iload_n hx hb dX0_node_48 rfl (lv_at hl 1 rfl) ?_
            refine va_iald hx hb hK hP 3 0 rfl rfl hi49 dX0_node_49 ?_
            refine lv_topi (fun v49 e49 => ?_)
            refine W.widen (k := 2) (n := 12) (by omega) (by omega) ?_
            refine vx_ret ?_
            exact W.iret (v := v49) hx hb hr (fun t ht hW => ⟨⟨v49, (n, ad, ar, iv), rfl, ⟨⟨e2, Or.inr (Or.inr (Or.inr c41))⟩, by rw [e49, ct_nd, if_neg c6, if_neg c17, if_neg c29]; exact hok.us _ (by omega), rfl⟩, by rw [ht]; exact hP, va_K.moved hW.alike hK, hD⟩, hS.F ht⟩) hS.2.2 dX0_node_50
        · refine lv_aload_n hx hb dX0_node_32 rfl (lv_at hl 0 rfl) ?_
          refine va_get (D := D) (ci := 0) (v := .ref (ad 1)) (C := RX0) (T := TX0) (N := 11) hx hb hts inX0 hown hK hP 0 rfl rfl 1 (by decide) (hts _ (mG wm_54)) (fun _ h9 => h9) rfl dX0_node_33 ?_
          refine lv_iload_n hx hb dX0_node_36 rfl (lv_at hl 1 rfl) ?_
          refine va_iald hx hb hK hP 2 0 rfl rfl hi37 dX0_node_37 ?_
          refine lv_topi (fun v37 e37 => ?_)
          refine W.widen (k := 2) (n := 12) (by omega) (by omega) ?_
          refine vx_ret ?_
          exact W.iret (v := v37) hx hb hr (fun t ht hW => ⟨⟨v37, (n, ad, ar, iv), rfl, ⟨⟨e2, Or.inr (Or.inr (Or.inl c29))⟩, by rw [e37, ct_nd, if_neg c6, if_neg c17, if_pos c29]; exact (hct.2.2.2.2 _ hxa.2).2, rfl⟩, by rw [ht]; exact hP, va_K.moved hW.alike hK, hD⟩, hS.F ht⟩) hS.2.2 dX0_node_38
      · refine lv_aload_n hx hb dX0_node_20 rfl (lv_at hl 0 rfl) ?_
        refine va_get (D := D) (ci := 0) (v := .ref (ad 0)) (C := RX0) (T := TX0) (N := 11) hx hb hts inX0 hown hK hP 0 rfl rfl 0 (by decide) (hts _ (mG wm_53)) (fun _ h9 => h9) rfl dX0_node_21 ?_
        refine lv_iload_n hx hb dX0_node_24 rfl (lv_at hl 1 rfl) ?_
        refine va_iald hx hb hK hP 1 0 rfl rfl hi25 dX0_node_25 ?_
        refine lv_topi (fun v25 e25 => ?_)
        refine W.widen (k := 2) (n := 12) (by omega) (by omega) ?_
        refine vx_ret ?_
        exact W.iret (v := v25) hx hb hr (fun t ht hW => ⟨⟨v25, (n, ad, ar, iv), rfl, ⟨⟨e2, Or.inr (Or.inl c17)⟩, by rw [e25, ct_nd, if_neg c6, if_pos c17]; exact (hct.2.2.2.2 _ hxa.2).1, rfl⟩, by rw [ht]; exact hP, va_K.moved hW.alike hK, hD⟩, hS.F ht⟩) hS.2.2 dX0_node_26
    · refine lv_aload_n hx hb dX0_node_9 rfl (lv_at hl 0 rfl) ?_
      refine lv_iload_n hx hb dX0_node_10 rfl (lv_at hl 1 rfl) ?_
      refine vp_callSi (W.runV (As := [.int x]) (rest := []) ⟨hx, hb, hml, hown, hts⟩ (c_kindOf l D h0 cI n ad ar iv x hc11) (cwV 1 hts gX0_node_X0_kindOf rfl rfl rfl (by decide +kernel) ⟨Nat.le_of_ble_eq_true rfl, Nat.le_of_ble_eq_true rfl⟩) (rP_V hK hP (va_recv hK hP (ci := 0) (q0 := 0) rfl rfl)) rfl rfl hl.1 rfl (lv_room (Nat.le_of_ble_eq_true rfl)) dX0_node_11 ⟨by show _ + _ ≤ 2; omega, by show _ + _ ≤ 12; omega⟩) (fun r11 e11 => ?_)
      refine W.widen (k := 2) (n := 12) (by omega) (by omega) ?_
      refine vx_ret ?_
      exact W.iret (v := r11) hx hb hr (fun t ht hW => ⟨⟨r11, (n, ad, ar, iv), rfl, ⟨⟨e2, Or.inl c6⟩, by rw [e11, ct_nd, if_pos c6, hxa.1, nI_clamp (by omega)]; exact gb_kind_n hct hxa.2, rfl⟩, by rw [ht]; exact hP, va_K.moved hW.alike hK, hD⟩, hS.F ht⟩) hS.2.2 dX0_node_14
set_option maxHeartbeats 4000000 in
set_option maxRecDepth 100000 in
/-- set -/
theorem c_set (l : Launch) (hl9 : l.stackTraces = false) (D : va_G) (h0 : Nat) (cI : ClassId) (n : Nat) (ad : Nat → Nat) (ar : Nat → Nat → Int32) (iv : Nat → Int32) (sz : Nat) (x : Int32) (y : Int32) (nc ic : Nat) (g : Ct) (bv : Nat → Bool) (hok : gb_ok n nc ic g bv ar iv) (hmx : nc + 6 ≤ 20000) : vx_Met l yX0_set wsX0_set ({ frames := 8, cells := 2, slots := 12, locals := 132 }) (tP D (gW h0 cI n ad ar iv) [(cI, .int)] sz [.ref h0, .int x, .int y]) (va_Qi (fun (r : Int32) (u : GS) => ((ct_nod nc x ∧ gb_kind ar x = 1) ∧ r = ct_b (bv (Int32.toNatClampNeg x) == decide (y ≠ 0)) ∧ u.1 = n ∧ gb_ok n nc ic g (va_up bv (Int32.toNatClampNeg x) (decide (y ≠ 0))) u.2.2.1 u.2.2.2)) (gb_at D cI (va_A (gW h0 cI n ad ar iv) sz) h0) (va_A (gW h0 cI n ad ar iv) sz)) (gb_xc D cI (va_A (gW h0 cI n ad ar iv) sz) h0 (n, ad, ar, iv) (¬ (ct_nod nc x ∧ gb_kind ar x = 1))) (2) (12) (va_A (gW h0 cI n ad ar iv) sz) := by
  refine vx_ofW (cc := cX0_set) (maxL := 4) (ret := (some .boolean)) (by decide) rfl ?_
  intro p e s m args below meth c s₁ B hml hnt hv
  obtain ⟨rfl, hsz, hP, hK, hD0, hT⟩ := hv
  have hx := B.exec
  have hb := B.bytes
  have hr := B.returns
  have hts := atoms_spec (ws := wsX0_set) B.pre
  have hown : s.vm.findClass RX0 = some m.cls := findClass_of_methodNamed B.named
  have hlocks := B.notSynchronized
  have hl := lv_entry ([.ref h0, .int x, .int y]) (n := 4) (Nat.le_of_ble_eq_true rfl)
  rw [lg_entry_eq]
  generalize (lg_sl ([.ref h0, .int x, .int y]) ++ List.replicate (4 - (lg_sl ([.ref h0, .int x, .int y])).length) Slot.unset).toArray = ls at hl ⊢
  have hl : lv_has ls 4 [(0, .ref h0), (1, .int x), (2, .int y)] := hl
  subst hsz
  have hD := hD0.self (sz := s.heap.size)
  generalize hAe : va_A (gW h0 cI n ad ar iv) s.heap.size = A at hD hT ⊢
  have hA : ∀ q : Nat, s.heap.size ≤ q → A q := fun q h => by rw [← hAe]; exact Or.inr h
  have hS : va_S A s.heap s.heap [] := va_S.rf
  have hnc := hok.nc
  have hct := hok.ct
  have hwf := hok.wf
  have h16 := hok.n16
  have hle := hct.2.1
  have hb9 := hct.2.2.1
  have hn9 : nc < 2 ^ 30 := by omega
  refine lv_aload_n hx hb dX0_set_0 rfl (lv_at hl 0 rfl) ?_
  refine lv_iload_n hx hb dX0_set_1 rfl (lv_at hl 1 rfl) ?_
  have hFc := va_free (wc := (gW h0 cI n ad ar iv)) hD hS hA [0, 1, 2, 3, 4, 5, 6, 7, 8] rfl
  refine vx_callv (vx_runV (As := [.int x]) (rest := []) ⟨hx, hb, hml, hown, hts⟩ (c_needInput l hl9 D h0 cI n ad ar iv s.heap.size x nc hnc hn9 hle hb9) (cwV 1 hts gX0_set_X0_needInput rfl rfl rfl (by decide +kernel) ⟨Nat.le_of_ble_eq_true rfl, Nat.le_of_ble_eq_true rfl⟩) (tP_V hK hP hD (va_recv hK hP (ci := 0) (q0 := 0) rfl rfl) hT hS hFc) rfl rfl hl.1 rfl (lv_room (Nat.le_of_ble_eq_true rfl)) dX0_set_2 ⟨by show _ + _ ≤ 2; omega, by show _ + _ ≤ 12; omega⟩) hS (fun q _ h => hFc q h) hFc (fun q _ h => hFc q h) (fun E ce q9 u t H1 locs ht hvm e2 hB hz1 hk1 hS hcell hcv hcl => ?_) (fun u t H1 locs ht hvm e2 hB hz1 hk1 hS => ?_)
  · obtain ⟨e2, rfl⟩ := e2
    obtain ⟨rfl, hP1, hK1, hD1⟩ := hB
    rw [ht] at hP1
    have hK := va_K.moved hvm.symm hK1
    have hD : va_D A (gW h0 cI n ad ar iv) := hD1.weaken (fun k q _ h => hFc q.1 h)
    exact vx_out (fun x h => (hnt x h).elim) hlocks hcell hcv hcl (fun t' ht' hvm' => ⟨(n, ad, ar, iv), ⟨e2, rfl⟩, ⟨rfl, by rw [ht']; exact hP1, va_K.moved hvm' hK, hD⟩, hS.F ht'⟩) hS.2.2 (by omega) (by omega)
  · obtain ⟨e2, rfl⟩ := e2
    obtain ⟨hP1, hK1, hD1⟩ := hB
    rw [ht] at hP1
    have hK := va_K.moved hvm.symm hK1
    have hP : va_P D vwCl (gW h0 cI n ad ar iv) H1 := hP1
    have hD : va_D A (gW h0 cI n ad ar iv) := hD1.weaken (fun k q _ h => hFc q.1 h)
    clear hP1 hK1 hD1 hk1 hz1 hFc ht
    generalize H1 = H at hP hS ⊢
    have hxa := ct_nod_n e2.1 hn9
    have hi20 : vp_in x n := ct_nod_in e2.1 hn9 hle hb9
    have hi33 := hi20
    have hkin := gb_kind_i hct hxa.2 (by rw [← hxa.1]; exact e2.2)
    have hx0 := hkin.1
    have hxi := hkin.2
    obtain ⟨st, s1, s2, s3, s4⟩ := hok.st
    refine lv_iload_n hx hb dX0_set_5 rfl (lv_at hl 2 rfl) ?_
    refine lv_if_eq (tgt := 13) hx hb dX0_set_6 (by decide) (fun c6 => ?_) (fun c6 => ?_)
    · refine lv_iconst (v := 0) hx hb dX0_set_13 (by decide) ?_
      have hon : ct_b (decide (y ≠ 0)) = 0 := by rw [c6]; rfl
      refine lv_istore_n (lv' := [(3, .int 0), (0, .ref h0), (1, .int x), (2, .int y)]) hx hb dX0_set_14 rfl hl (by decide) rfl (fun ls hl => ?_)
      refine lv_aload_n hx hb dX0_set_15 rfl (lv_at hl 1 rfl) ?_
      refine va_get (D := D) (ci := 0) (v := .ref (ad 4)) (C := RX0) (T := TX0) (N := 11) hx hb hts inX0 hown hK hP 0 rfl rfl 4 (by decide) (hts _ (mG wm_57)) (fun _ h9 => h9) rfl dX0_set_16 ?_
      refine lv_iload_n hx hb dX0_set_19 rfl (lv_at hl 2 rfl) ?_
      refine va_iald hx hb hK hP 5 0 rfl rfl hi20 dX0_set_20 ?_
      refine lv_topi (fun v20 e20 => ?_)
      have e20 : v20 = ct_b (bv (Int32.toNatClampNeg x)) := by rw [e20]; exact hok.vi _ (by omega) hxi
      refine lv_iload_n hx hb dX0_set_21 rfl (lv_at hl 0 rfl) ?_
      refine lv_icmp_ne (tgt := 27) hx hb dX0_set_22 (by decide) (fun c22 => ?_) (fun c22 => ?_)
      · have hbv : ¬ bv (Int32.toNatClampNeg x) = decide (y ≠ 0) := fun z => c22 (by rw [e20, z, hon])
        have hdiff : (0 : Int32) = ct_b (bv (Int32.toNatClampNeg x) == decide (y ≠ 0)) := by
          cases h1 : bv (Int32.toNatClampNeg x) <;> cases h2 : decide (y ≠ 0) <;> first | rfl | exact absurd (h1.trans h2.symm) hbv
        refine lv_aload_n hx hb dX0_set_27 rfl (lv_at hl 1 rfl) ?_
        refine va_get (D := D) (ci := 0) (v := .ref (ad 4)) (C := RX0) (T := TX0) (N := 11) hx hb hts inX0 hown hK hP 0 rfl rfl 4 (by decide) (hts _ (mG wm_57)) (fun _ h9 => h9) rfl dX0_set_28 ?_
        refine lv_iload_n hx hb dX0_set_31 rfl (lv_at hl 2 rfl) ?_
        refine lv_iload_n hx hb dX0_set_32 rfl (lv_at hl 0 rfl) ?_
        refine va_iast hx hb hK hP hD hS 5 0 rfl rfl hi33 dX0_set_33 (fun H locs hP hD hS => ?_)
        obtain ⟨ar33, e33⟩ : ∃ zz : Nat → Nat → Int32, zz = va_up ar 4 (upd (ar 4) (Int32.toNatClampNeg x) 0) := ⟨_, rfl⟩
        have hP : va_P D vwCl (gW h0 cI n ad ar33 iv) H := by rw [e33]; exact hP
        have hD : va_D A (gW h0 cI n ad ar33 iv) := by rw [e33]; exact hD
        rw [← hon] at e33
        refine lv_aload_n hx hb dX0_set_34 rfl (lv_at hl 1 rfl) ?_
        refine lv_aload_n hx hb dX0_set_35 rfl (lv_at hl 1 rfl) ?_
        refine va_get (D := D) (ci := 0) (v := .int (iv 2)) (C := RX0) (T := TX0) (N := 11) hx hb hts inX0 hown hK hP 0 rfl rfl 10 (by decide) (hts _ (mG wm_63)) (fun _ h9 => h9) rfl dX0_set_36 ?_
        refine lv_iload_n hx hb dX0_set_39 rfl (lv_at hl 2 rfl) ?_
        refine lv_iconst (v := 1) hx hb dX0_set_40 (by decide) ?_
        refine lv_iadd hx hb dX0_set_41 ?_
        refine lv_topi (fun v41 e41 => ?_)
        refine va_mmin hx hb (by rw [hml]; exact hl.1.symm) hown (hts _ (mG wm_227)) (hts _ (mG wm_190)) (hts _ (mG wm_42)) (hts _ (mG wm_191)) (Nat.le_of_ble_eq_true rfl) (Nat.le_of_ble_eq_true rfl) (by show _ ≤ 2; omega) (by show _ ≤ 12; omega) dX0_set_42 ?_
        refine lv_topi (fun v42 e42 => ?_)
        have e42 : v42 = nI (min st ((Int32.toNatClampNeg x) + 1)) := by rw [e42, s1, e41, hxa.1, nI_1, nI_clamp (by omega)]; exact ct_imin (by omega) (by omega)
        refine va_put (D := D) (ci := 0) (v := .int v42) (ty := .int) (C := RX0) (T := TX0) (N := 11) hx hb hts inX0 tyX0 tyX0_ok nmX0 hown hK hP hD hS 0 rfl rfl 10 (by decide) (hts _ (mG wm_63)) (fun _ h9 => h9) rfl (by decide +kernel) rfl rfl (Nat.le_of_ble_eq_true rfl) dX0_set_45 (fun H locs hP hD hS => ?_)
        obtain ⟨iv45, e45⟩ : ∃ zz : Nat → Int32, zz = va_up iv 2 v42 := ⟨_, rfl⟩
        have hP : va_P D vwCl (gW h0 cI n ad ar33 iv45) H := by rw [e45]; exact hP
        have hD : va_D A (gW h0 cI n ad ar33 iv45) := by rw [e45]; exact hD
        refine lv_iconst (v := 0) hx hb dX0_set_48 (by decide) ?_
        refine W.widen (k := 2) (n := 12) (by omega) (by omega) ?_
        refine vx_ret ?_
        exact W.zret (v := 0) hx hb hr (by decide) (fun t ht hW => ⟨⟨0, (n, ad, ar33, iv45), rfl, ⟨e2, hdiff, rfl, gb_ok_set hok hxi hx0 hxa.2 e33 s2 s3 s4 (by rw [e45, e42])⟩, by rw [ht]; exact hP, va_K.moved hW.alike hK, hD⟩, hS.F ht⟩) hS.2.2 dX0_set_49
      · have hbv : bv (Int32.toNatClampNeg x) = decide (y ≠ 0) := ct_b_inj (by rw [← e20, hon]; exact c22)
        have hsame : (1 : Int32) = ct_b (bv (Int32.toNatClampNeg x) == decide (y ≠ 0)) := by rw [hbv]; simp [ct_b]
        have hokS : gb_ok n nc ic g (va_up bv (Int32.toNatClampNeg x) (decide (y ≠ 0))) ar iv := by rw [ct_up_same hbv]; exact hok
        refine lv_iconst (v := 1) hx hb dX0_set_25 (by decide) ?_
        refine W.widen (k := 2) (n := 12) (by omega) (by omega) ?_
        refine vx_ret ?_
        exact W.zret (v := 1) hx hb hr (by decide) (fun t ht hW => ⟨⟨1, (n, ad, ar, iv), rfl, ⟨e2, hsame, rfl, hokS⟩, by rw [ht]; exact hP, va_K.moved hW.alike hK, hD⟩, hS.F ht⟩) hS.2.2 dX0_set_26
    · refine lv_iconst (v := 1) hx hb dX0_set_9 (by decide) ?_
      refine lv_goto (tgt := 14) hx hb dX0_set_10 (by decide) ?_
      have hon : ct_b (decide (y ≠ 0)) = 1 := by simp [c6, ct_b]
      refine lv_istore_n (lv' := [(3, .int 1), (0, .ref h0), (1, .int x), (2, .int y)]) hx hb dX0_set_14 rfl hl (by decide) rfl (fun ls hl => ?_)
      refine lv_aload_n hx hb dX0_set_15 rfl (lv_at hl 1 rfl) ?_
      refine va_get (D := D) (ci := 0) (v := .ref (ad 4)) (C := RX0) (T := TX0) (N := 11) hx hb hts inX0 hown hK hP 0 rfl rfl 4 (by decide) (hts _ (mG wm_57)) (fun _ h9 => h9) rfl dX0_set_16 ?_
      refine lv_iload_n hx hb dX0_set_19 rfl (lv_at hl 2 rfl) ?_
      refine va_iald hx hb hK hP 5 0 rfl rfl hi20 dX0_set_20 ?_
      refine lv_topi (fun v20 e20 => ?_)
      have e20 : v20 = ct_b (bv (Int32.toNatClampNeg x)) := by rw [e20]; exact hok.vi _ (by omega) hxi
      refine lv_iload_n hx hb dX0_set_21 rfl (lv_at hl 0 rfl) ?_
      refine lv_icmp_ne (tgt := 27) hx hb dX0_set_22 (by decide) (fun c22 => ?_) (fun c22 => ?_)
      · have hbv : ¬ bv (Int32.toNatClampNeg x) = decide (y ≠ 0) := fun z => c22 (by rw [e20, z, hon])
        have hdiff : (0 : Int32) = ct_b (bv (Int32.toNatClampNeg x) == decide (y ≠ 0)) := by
          cases h1 : bv (Int32.toNatClampNeg x) <;> cases h2 : decide (y ≠ 0) <;> first | rfl | exact absurd (h1.trans h2.symm) hbv
        refine lv_aload_n hx hb dX0_set_27 rfl (lv_at hl 1 rfl) ?_
        refine va_get (D := D) (ci := 0) (v := .ref (ad 4)) (C := RX0) (T := TX0) (N := 11) hx hb hts inX0 hown hK hP 0 rfl rfl 4 (by decide) (hts _ (mG wm_57)) (fun _ h9 => h9) rfl dX0_set_28 ?_
        refine lv_iload_n hx hb dX0_set_31 rfl (lv_at hl 2 rfl) ?_
        refine lv_iload_n hx hb dX0_set_32 rfl (lv_at hl 0 rfl) ?_
        refine va_iast hx hb hK hP hD hS 5 0 rfl rfl hi33 dX0_set_33 (fun H locs hP hD hS => ?_)
        obtain ⟨ar33, e33⟩ : ∃ zz : Nat → Nat → Int32, zz = va_up ar 4 (upd (ar 4) (Int32.toNatClampNeg x) 1) := ⟨_, rfl⟩
        have hP : va_P D vwCl (gW h0 cI n ad ar33 iv) H := by rw [e33]; exact hP
        have hD : va_D A (gW h0 cI n ad ar33 iv) := by rw [e33]; exact hD
        rw [← hon] at e33
        refine lv_aload_n hx hb dX0_set_34 rfl (lv_at hl 1 rfl) ?_
        refine lv_aload_n hx hb dX0_set_35 rfl (lv_at hl 1 rfl) ?_
        refine va_get (D := D) (ci := 0) (v := .int (iv 2)) (C := RX0) (T := TX0) (N := 11) hx hb hts inX0 hown hK hP 0 rfl rfl 10 (by decide) (hts _ (mG wm_63)) (fun _ h9 => h9) rfl dX0_set_36 ?_
        refine lv_iload_n hx hb dX0_set_39 rfl (lv_at hl 2 rfl) ?_
        refine lv_iconst (v := 1) hx hb dX0_set_40 (by decide) ?_
        refine lv_iadd hx hb dX0_set_41 ?_
        refine lv_topi (fun v41 e41 => ?_)
        refine va_mmin hx hb (by rw [hml]; exact hl.1.symm) hown (hts _ (mG wm_227)) (hts _ (mG wm_190)) (hts _ (mG wm_42)) (hts _ (mG wm_191)) (Nat.le_of_ble_eq_true rfl) (Nat.le_of_ble_eq_true rfl) (by show _ ≤ 2; omega) (by show _ ≤ 12; omega) dX0_set_42 ?_
        refine lv_topi (fun v42 e42 => ?_)
        have e42 : v42 = nI (min st ((Int32.toNatClampNeg x) + 1)) := by rw [e42, s1, e41, hxa.1, nI_1, nI_clamp (by omega)]; exact ct_imin (by omega) (by omega)
        refine va_put (D := D) (ci := 0) (v := .int v42) (ty := .int) (C := RX0) (T := TX0) (N := 11) hx hb hts inX0 tyX0 tyX0_ok nmX0 hown hK hP hD hS 0 rfl rfl 10 (by decide) (hts _ (mG wm_63)) (fun _ h9 => h9) rfl (by decide +kernel) rfl rfl (Nat.le_of_ble_eq_true rfl) dX0_set_45 (fun H locs hP hD hS => ?_)
        obtain ⟨iv45, e45⟩ : ∃ zz : Nat → Int32, zz = va_up iv 2 v42 := ⟨_, rfl⟩
        have hP : va_P D vwCl (gW h0 cI n ad ar33 iv45) H := by rw [e45]; exact hP
        have hD : va_D A (gW h0 cI n ad ar33 iv45) := by rw [e45]; exact hD
        refine lv_iconst (v := 0) hx hb dX0_set_48 (by decide) ?_
        refine W.widen (k := 2) (n := 12) (by omega) (by omega) ?_
        refine vx_ret ?_
        exact W.zret (v := 0) hx hb hr (by decide) (fun t ht hW => ⟨⟨0, (n, ad, ar33, iv45), rfl, ⟨e2, hdiff, rfl, gb_ok_set hok hxi hx0 hxa.2 e33 s2 s3 s4 (by rw [e45, e42])⟩, by rw [ht]; exact hP, va_K.moved hW.alike hK, hD⟩, hS.F ht⟩) hS.2.2 dX0_set_49
      · have hbv : bv (Int32.toNatClampNeg x) = decide (y ≠ 0) := ct_b_inj (by rw [← e20, hon]; exact c22)
        have hsame : (1 : Int32) = ct_b (bv (Int32.toNatClampNeg x) == decide (y ≠ 0)) := by rw [hbv]; simp [ct_b]
        have hokS : gb_ok n nc ic g (va_up bv (Int32.toNatClampNeg x) (decide (y ≠ 0))) ar iv := by rw [ct_up_same hbv]; exact hok
        refine lv_iconst (v := 1) hx hb dX0_set_25 (by decide) ?_
        refine W.widen (k := 2) (n := 12) (by omega) (by omega) ?_
        refine vx_ret ?_
        exact W.zret (v := 1) hx hb hr (by decide) (fun t ht hW => ⟨⟨1, (n, ad, ar, iv), rfl, ⟨e2, hsame, rfl, hokS⟩, by rw [ht]; exact hP, va_K.moved hW.alike hK, hD⟩, hS.F ht⟩) hS.2.2 dX0_set_26
set_option maxHeartbeats 4000000 in
set_option maxRecDepth 100000 in
/-- below -/
theorem c_below (l : Launch) (hl9 : l.stackTraces = false) (D : va_G) (h0 : Nat) (cI : ClassId) (n : Nat) (ad : Nat → Nat) (ar : Nat → Nat → Int32) (iv : Nat → Int32) (sz : Nat) (x : Int32) (y : Int32) (nc ic : Nat) (g : Ct) (bv : Nat → Bool) (hok : gb_ok n nc ic g bv ar iv) (hmx : nc + 6 ≤ 20000) : vx_Met l yX0_below wsX0_below ({ frames := 8, cells := 3, slots := 18, locals := 132 }) (tP D (gW h0 cI n ad ar iv) [(cI, .int)] sz [.ref h0, .int x, .int y]) (va_Qi (fun (r : Int32) (u : GS) => (((ct_nod nc x ∧ gb_kind ar x = 1) ∧ ct_lit nc y) ∧ r = ct_b (ct_in g ((Int32.toNatClampNeg y) / 2) (Int32.toNatClampNeg x)) ∧ u.1 = n ∧ gb_ok n nc ic g bv u.2.2.1 u.2.2.2)) (gb_at D cI (va_A (gW h0 cI n ad ar iv) sz) h0) (va_A (gW h0 cI n ad ar iv) sz)) (gb_xc D cI (va_A (gW h0 cI n ad ar iv) sz) h0 (n, ad, ar, iv) (¬ ((ct_nod nc x ∧ gb_kind ar x = 1) ∧ ct_lit nc y))) (3) (18) (va_A (gW h0 cI n ad ar iv) sz) := by
  refine vx_ofW (cc := cX0_below) (maxL := 4) (ret := (some .boolean)) (by decide) rfl ?_
  intro p e s m args below meth c s₁ B hml hnt hv
  obtain ⟨rfl, hsz, hP, hK, hD0, hT⟩ := hv
  have hx := B.exec
  have hb := B.bytes
  have hr := B.returns
  have hts := atoms_spec (ws := wsX0_below) B.pre
  have hown : s.vm.findClass RX0 = some m.cls := findClass_of_methodNamed B.named
  have hlocks := B.notSynchronized
  have hl := lv_entry ([.ref h0, .int x, .int y]) (n := 4) (Nat.le_of_ble_eq_true rfl)
  rw [lg_entry_eq]
  generalize (lg_sl ([.ref h0, .int x, .int y]) ++ List.replicate (4 - (lg_sl ([.ref h0, .int x, .int y])).length) Slot.unset).toArray = ls at hl ⊢
  have hl : lv_has ls 4 [(0, .ref h0), (1, .int x), (2, .int y)] := hl
  subst hsz
  have hD := hD0.self (sz := s.heap.size)
  generalize hAe : va_A (gW h0 cI n ad ar iv) s.heap.size = A at hD hT ⊢
  have hA : ∀ q : Nat, s.heap.size ≤ q → A q := fun q h => by rw [← hAe]; exact Or.inr h
  have hS : va_S A s.heap s.heap [] := va_S.rf
  have hnc := hok.nc
  have hct := hok.ct
  have hwf := hok.wf
  have h16 := hok.n16
  have hle := hct.2.1
  have hb9 := hct.2.2.1
  have hn9 : nc < 2 ^ 30 := by omega
  refine lv_aload_n hx hb dX0_below_0 rfl (lv_at hl 0 rfl) ?_
  refine lv_iload_n hx hb dX0_below_1 rfl (lv_at hl 1 rfl) ?_
  have hFc := va_free (wc := (gW h0 cI n ad ar iv)) hD hS hA [0, 1, 2, 3, 4, 5, 6, 7, 8] rfl
  refine vx_callv (vx_runV (As := [.int x]) (rest := []) ⟨hx, hb, hml, hown, hts⟩ (c_needInput l hl9 D h0 cI n ad ar iv s.heap.size x nc hnc hn9 hle hb9) (cwV 1 hts gX0_below_X0_needInput rfl rfl rfl (by decide +kernel) ⟨Nat.le_of_ble_eq_true rfl, Nat.le_of_ble_eq_true rfl⟩) (tP_V hK hP hD (va_recv hK hP (ci := 0) (q0 := 0) rfl rfl) hT hS hFc) rfl rfl hl.1 rfl (lv_room (Nat.le_of_ble_eq_true rfl)) dX0_below_2 ⟨by show _ + _ ≤ 3; omega, by show _ + _ ≤ 18; omega⟩) hS (fun q _ h => hFc q h) hFc (fun q _ h => hFc q h) (fun E ce q9 u t H1 locs ht hvm e2 hB hz1 hk1 hS hcell hcv hcl => ?_) (fun u t H1 locs ht hvm e2 hB hz1 hk1 hS => ?_)
  · obtain ⟨e2, rfl⟩ := e2
    obtain ⟨rfl, hP1, hK1, hD1⟩ := hB
    rw [ht] at hP1
    have hK := va_K.moved hvm.symm hK1
    have hD : va_D A (gW h0 cI n ad ar iv) := hD1.weaken (fun k q _ h => hFc q.1 h)
    exact vx_out (fun x h => (hnt x h).elim) hlocks hcell hcv hcl (fun t' ht' hvm' => ⟨(n, ad, ar, iv), ⟨(fun z => e2 z.1), rfl⟩, ⟨rfl, by rw [ht']; exact hP1, va_K.moved hvm' hK, hD⟩, hS.F ht'⟩) hS.2.2 (by omega) (by omega)
  · obtain ⟨e2, rfl⟩ := e2
    obtain ⟨hP1, hK1, hD1⟩ := hB
    rw [ht] at hP1
    have hK := va_K.moved hvm.symm hK1
    have hP : va_P D vwCl (gW h0 cI n ad ar iv) H1 := hP1
    have hD : va_D A (gW h0 cI n ad ar iv) := hD1.weaken (fun k q _ h => hFc q.1 h)
    clear hP1 hK1 hD1 hk1 hz1 hFc ht
    generalize H1 = H at hP hS ⊢
    refine lv_aload_n hx hb dX0_below_5 rfl (lv_at hl 0 rfl) ?_
    refine lv_iload_n hx hb dX0_below_6 rfl (lv_at hl 2 rfl) ?_
    have hFc := va_free (wc := (gW h0 cI n ad ar iv)) hD hS hA [0, 1, 2, 3, 4, 5, 6, 7, 8] rfl
    refine vx_callv (vx_runV (As := [.int y]) (rest := []) ⟨hx, hb, hml, hown, hts⟩ (c_needLiteral l hl9 D h0 cI n ad ar iv H.size y nc hnc hn9) (cwV 1 hts gX0_below_X0_needLiteral rfl rfl rfl (by decide +kernel) ⟨Nat.le_of_ble_eq_true rfl, Nat.le_of_ble_eq_true rfl⟩) (tP_V hK hP hD (va_recv hK hP (ci := 0) (q0 := 0) rfl rfl) hT hS hFc) rfl rfl hl.1 rfl (lv_room (Nat.le_of_ble_eq_true rfl)) dX0_below_7 ⟨by show _ + _ ≤ 3; omega, by show _ + _ ≤ 18; omega⟩) hS (fun q _ h => hFc q h) hFc (fun q _ h => hFc q h) (fun E ce q9 u t H1 locs ht hvm e7 hB hz1 hk1 hS hcell hcv hcl => ?_) (fun u t H1 locs ht hvm e7 hB hz1 hk1 hS => ?_)
    · obtain ⟨e7, rfl⟩ := e7
      obtain ⟨rfl, hP1, hK1, hD1⟩ := hB
      rw [ht] at hP1
      have hK := va_K.moved hvm.symm hK1
      have hD : va_D A (gW h0 cI n ad ar iv) := hD1.weaken (fun k q _ h => hFc q.1 h)
      exact vx_out (fun x h => (hnt x h).elim) hlocks hcell hcv hcl (fun t' ht' hvm' => ⟨(n, ad, ar, iv), ⟨(fun z => e7 z.2), rfl⟩, ⟨rfl, by rw [ht']; exact hP1, va_K.moved hvm' hK, hD⟩, hS.F ht'⟩) hS.2.2 (by omega) (by omega)
    · obtain ⟨e7, rfl⟩ := e7
      obtain ⟨hP1, hK1, hD1⟩ := hB
      rw [ht] at hP1
      have hK := va_K.moved hvm.symm hK1
      have hP : va_P D vwCl (gW h0 cI n ad ar iv) H1 := hP1
      have hD : va_D A (gW h0 cI n ad ar iv) := hD1.weaken (fun k q _ h => hFc q.1 h)
      clear hP1 hK1 hD1 hk1 hz1 hFc ht
      generalize H1 = H at hP hS ⊢
      have hxa := ct_nod_n e2.1 hn9
      have hya := ct_lit_n e7 hn9
      obtain ⟨top, htop⟩ : ∃ z : Nat, z = (Int32.toNatClampNeg y) / 2 := ⟨_, rfl⟩
      refine lv_iload_n hx hb dX0_below_10 rfl (lv_at hl 2 rfl) ?_
      refine lv_iconst (v := 1) hx hb dX0_below_11 (by decide) ?_
      refine lv_ishr hx hb dX0_below_12 ?_
      refine lv_topi (fun v12 e12 => ?_)
      have e12 : v12 = nI top := by rw [e12, hya.1, ct_shr (by omega), htop]
      refine lv_istore_n (lv' := [(3, .int v12), (0, .ref h0), (1, .int x), (2, .int y)]) hx hb dX0_below_13 rfl hl (by decide) rfl (fun ls hl => ?_)
      refine lv_iload_n hx hb dX0_below_14 rfl (lv_at hl 2 rfl) ?_
      refine lv_iload_n hx hb dX0_below_15 rfl (lv_at hl 0 rfl) ?_
      refine lv_icmp_le (tgt := 21) hx hb dX0_below_16 (by decide) (fun c16 => ?_) (fun c16 => ?_)
      · have c16 : (Int32.toNatClampNeg x) ≤ top := by
          rw [e12, hxa.1] at c16
          exact (nI_leI (by omega) (by omega)).mp c16
        have hxm := e12
        refine lv_aload_n hx hb dX0_below_21 rfl (lv_at hl 1 rfl) ?_
        refine lv_iload_n hx hb dX0_below_22 rfl (lv_at hl 0 rfl) ?_
        have hFc := va_free (wc := (gW h0 cI n ad ar iv)) hD hS hA [0, 1, 2, 3, 4, 5, 6, 7, 8] rfl
        refine va_callv (va_runV (As := [.int v12]) (rest := []) ⟨hx, hb, hml, hown, hts⟩ (c_markUnder l D h0 cI n ad ar iv H.size v12 top nc ic g bv hxm (by omega) hok) (cwV 1 hts gX0_below_X0_markUnder rfl rfl rfl (by decide +kernel) ⟨Nat.le_of_ble_eq_true rfl, Nat.le_of_ble_eq_true rfl⟩) (mP_V hK hP hD (va_recv hK hP (ci := 0) (q0 := 0) rfl rfl)) rfl rfl hl.1 rfl (lv_room (Nat.le_of_ble_eq_true rfl)) dX0_below_23 ⟨by show _ + _ ≤ 3; omega, by show _ + _ ≤ 18; omega⟩) hS (fun q _ h => hFc q h) hFc (fun u t H1 locs ht hvm e23 hB hz1 hk1 hS => ?_)
        obtain ⟨n23, ad23, ar23, iv23⟩ := u
        obtain ⟨hP1, hK1, hD1⟩ := hB
        rw [ht] at hP1
        have hK := va_K.moved hvm.symm hK1
        have hP : va_P D vwCl (gW h0 cI n23 ad23 ar23 iv23) H1 := hP1
        have hD : va_D A (gW h0 cI n23 ad23 ar23 iv23) := hD1.weaken (fun k q _ h => hFc q.1 h)
        clear hP1 hK1 hD1 hk1 hz1 hFc ht
        generalize H1 = H at hP hS ⊢
        try dsimp only at e23
        have hi31 : vp_in x n23 := by rw [e23.1, hxa.1]; exact vp_in_nI (by omega) (by omega)
        refine lv_aload_n hx hb dX0_below_26 rfl (lv_at hl 1 rfl) ?_
        refine va_get (D := D) (ci := 0) (v := .ref (ad23 5)) (C := RX0) (T := TX0) (N := 11) hx hb hts inX0 hown hK hP 0 rfl rfl 5 (by decide) (hts _ (mG wm_58)) (fun _ h9 => h9) rfl dX0_below_27 ?_
        refine lv_iload_n hx hb dX0_below_30 rfl (lv_at hl 2 rfl) ?_
        refine va_iald hx hb hK hP 6 0 rfl rfl hi31 dX0_below_31 ?_
        refine lv_topi (fun v31 e31 => ?_)
        have e31 : v31 = ct_b (ct_in g ((Int32.toNatClampNeg y) / 2) (Int32.toNatClampNeg x)) := by rw [e31, ← htop]; exact e23.2.2.2 _ c16
        refine lv_iconst (v := 1) hx hb dX0_below_32 (by decide) ?_
        refine lv_icmp_ne (tgt := 40) hx hb dX0_below_33 (by decide) (fun c33 => ?_) (fun c33 => ?_)
        · refine lv_iconst (v := 0) hx hb dX0_below_40 (by decide) ?_
          refine W.widen (k := 3) (n := 18) (by omega) (by omega) ?_
          refine vx_ret ?_
          exact W.zret (v := 0) hx hb hr (by decide) (fun t ht hW => ⟨⟨0, (n23, ad23, ar23, iv23), rfl, ⟨⟨e2, e7⟩, by rw [← e31]; exact ct_b_n1 e31 c33, e23.1, gb_ok_mark hok e23.2.2.1 e23.2.1⟩, by rw [ht]; exact hP, va_K.moved hW.alike hK, hD⟩, hS.F ht⟩) hS.2.2 dX0_below_41
        · refine lv_iconst (v := 1) hx hb dX0_below_36 (by decide) ?_
          refine lv_goto (tgt := 41) hx hb dX0_below_37 (by decide) ?_
          refine W.widen (k := 3) (n := 18) (by omega) (by omega) ?_
          refine vx_ret ?_
          exact W.zret (v := 1) hx hb hr (by decide) (fun t ht hW => ⟨⟨1, (n23, ad23, ar23, iv23), rfl, ⟨⟨e2, e7⟩, by rw [← e31]; exact c33.symm, e23.1, gb_ok_mark hok e23.2.2.1 e23.2.1⟩, by rw [ht]; exact hP, va_K.moved hW.alike hK, hD⟩, hS.F ht⟩) hS.2.2 dX0_below_41
      · have c16 : top < (Int32.toNatClampNeg x) := by
          rw [e12, hxa.1] at c16
          exact Nat.not_le.mp fun z => c16 (nI_le z (by omega))
        refine lv_iconst (v := 0) hx hb dX0_below_19 (by decide) ?_
        refine W.widen (k := 3) (n := 18) (by omega) (by omega) ?_
        refine vx_ret ?_
        exact W.zret (v := 0) hx hb hr (by decide) (fun t ht hW => ⟨⟨0, (n, ad, ar, iv), rfl, ⟨⟨e2, e7⟩, by rw [ct_in_gt hwf (by omega)]; rfl, rfl, hok⟩, by rw [ht]; exact hP, va_K.moved hW.alike hK, hD⟩, hS.F ht⟩) hS.2.2 dX0_below_20
set_option maxHeartbeats 4000000 in
set_option maxRecDepth 100000 in
/-- nodes -/
theorem c_nodes (l : Launch) (D : va_G) (h0 : Nat) (cI : ClassId) (n : Nat) (ad : Nat → Nat) (ar : Nat → Nat → Int32) (iv : Nat → Int32)   : Met l yX0_nodes wsX0_nodes ({ frames := 0, cells := 0, slots := 0, locals := 0 }) (rP D (gW h0 cI n ad ar iv) [(cI, .int)] [.ref h0]) (vp_Si (fun r => r = iv 0)) 0 0 (fun _ => False) := by
  refine Met.ofW (cc := cX0_nodes) (maxL := 1) (ret := (some .int)) (by decide) rfl ?_
  intro p e s m args below meth c s₁ B hml hv
  obtain ⟨rfl, hP, hK⟩ := hv
  have hx := B.exec
  have hb := B.bytes
  have hr := B.returns
  have hts := atoms_spec (ws := wsX0_nodes) B.pre
  have hown : s.vm.findClass RX0 = some m.cls := findClass_of_methodNamed B.named
  have hlocks := B.notSynchronized
  have hl := lv_entry ([.ref h0]) (n := 1) (Nat.le_of_ble_eq_true rfl)
  rw [lg_entry_eq]
  generalize (lg_sl ([.ref h0]) ++ List.replicate (1 - (lg_sl ([.ref h0])).length) Slot.unset).toArray = ls at hl ⊢
  have hl : lv_has ls 1 [(0, .ref h0)] := hl
  refine lv_aload_n hx hb dX0_nodes_0 rfl (lv_at hl 0 rfl) ?_
  refine va_get (D := D) (ci := 0) (v := .int (iv 0)) (C := RX0) (T := TX0) (N := 11) hx hb hts inX0 hown hK hP 0 rfl rfl 8 (by decide) (hts _ (mG wm_61)) (fun _ h9 => h9) rfl dX0_nodes_1 ?_
  exact W.iret (v := (iv 0)) hx hb hr (fun t ht hW => ⟨(iv 0), rfl, rfl, ht⟩) (fun _ h => nomatch h) dX0_nodes_4
set_option maxHeartbeats 4000000 in
set_option maxRecDepth 100000 in
/-- inputs -/
theorem c_inputs (l : Launch) (D : va_G) (h0 : Nat) (cI : ClassId) (n : Nat) (ad : Nat → Nat) (ar : Nat → Nat → Int32) (iv : Nat → Int32)   : Met l yX0_inputs wsX0_inputs ({ frames := 0, cells := 0, slots := 0, locals := 0 }) (rP D (gW h0 cI n ad ar iv) [(cI, .int)] [.ref h0]) (vp_Si (fun r => r = iv 1)) 0 0 (fun _ => False) := by
  refine Met.ofW (cc := cX0_inputs) (maxL := 1) (ret := (some .int)) (by decide) rfl ?_
  intro p e s m args below meth c s₁ B hml hv
  obtain ⟨rfl, hP, hK⟩ := hv
  have hx := B.exec
  have hb := B.bytes
  have hr := B.returns
  have hts := atoms_spec (ws := wsX0_inputs) B.pre
  have hown : s.vm.findClass RX0 = some m.cls := findClass_of_methodNamed B.named
  have hlocks := B.notSynchronized
  have hl := lv_entry ([.ref h0]) (n := 1) (Nat.le_of_ble_eq_true rfl)
  rw [lg_entry_eq]
  generalize (lg_sl ([.ref h0]) ++ List.replicate (1 - (lg_sl ([.ref h0])).length) Slot.unset).toArray = ls at hl ⊢
  have hl : lv_has ls 1 [(0, .ref h0)] := hl
  refine lv_aload_n hx hb dX0_inputs_0 rfl (lv_at hl 0 rfl) ?_
  refine va_get (D := D) (ci := 0) (v := .int (iv 1)) (C := RX0) (T := TX0) (N := 11) hx hb hts inX0 hown hK hP 0 rfl rfl 9 (by decide) (hts _ (mG wm_62)) (fun _ h9 => h9) rfl dX0_inputs_1 ?_
  exact W.iret (v := (iv 1)) hx hb hr (fun t ht hW => ⟨(iv 1), rfl, rfl, ht⟩) (fun _ h => nomatch h) dX0_inputs_4
set_option maxHeartbeats 4000000 in
set_option maxRecDepth 100000 in
/-- input -/
theorem c_input (l : Launch) (D : va_G) (h0 : Nat) (cI : ClassId) (n : Nat) (ad : Nat → Nat) (ar : Nat → Nat → Int32) (iv : Nat → Int32) (sz : Nat)  (nc ic : Nat) (g : Ct) (bv : Nat → Bool) (hok : gb_ok n nc ic g bv ar iv) (hmx : nc + 6 ≤ 20000) : Met l yX0_input wsX0_input ({ frames := 4, cells := gb_cap n (nc + 1) - n, slots := 16 * (gb_cap n (nc + 1) - n), locals := 106 }) (mP D (gW h0 cI n ad ar iv) [(cI, .int)] sz [.ref h0]) (va_Qi (fun (r : Int32) (u : GS) => gb_po n (ic + 1) bv (2 * nc, nc + 1, g) r u) (gb_at D cI (va_A (gW h0 cI n ad ar iv) sz) h0) (va_A (gW h0 cI n ad ar iv) sz)) (gb_cap n (nc + 1) - n) (16 * (gb_cap n (nc + 1) - n)) (va_A (gW h0 cI n ad ar iv) sz) := by
  refine Met.ofW (cc := cX0_input) (maxL := 2) (ret := (some .int)) (by decide) rfl ?_
  intro p e s m args below meth c s₁ B hml hv
  obtain ⟨rfl, hsz, hP, hK, hD0⟩ := hv
  have hx := B.exec
  have hb := B.bytes
  have hr := B.returns
  have hts := atoms_spec (ws := wsX0_input) B.pre
  have hown : s.vm.findClass RX0 = some m.cls := findClass_of_methodNamed B.named
  have hlocks := B.notSynchronized
  have hl := lv_entry ([.ref h0]) (n := 2) (Nat.le_of_ble_eq_true rfl)
  rw [lg_entry_eq]
  generalize (lg_sl ([.ref h0]) ++ List.replicate (2 - (lg_sl ([.ref h0])).length) Slot.unset).toArray = ls at hl ⊢
  have hl : lv_has ls 2 [(0, .ref h0)] := hl
  subst hsz
  have hD := hD0.self (sz := s.heap.size)
  generalize hAe : va_A (gW h0 cI n ad ar iv) s.heap.size = A at hD ⊢
  have hA : ∀ q : Nat, s.heap.size ≤ q → A q := fun q h => by rw [← hAe]; exact Or.inr h
  have hS : va_S A s.heap s.heap [] := va_S.rf
  have hnc := hok.nc
  have hct := hok.ct
  have hwf := hok.wf
  have h16 := hok.n16
  have hle := hct.2.1
  have hb9 := hct.2.2.1
  have hn9 : nc < 2 ^ 30 := by omega
  have hnc3 := hnc
  have hmx3 : nc < 20000 := by omega
  have hle3 := hle
  have h163 := h16
  have hb93 := hb9
  refine lv_aload_n hx hb dX0_input_0 rfl (lv_at hl 0 rfl) ?_
  refine lv_iconst (v := -1) hx hb dX0_input_1 (by decide) ?_
  refine lv_iconst (v := -1) hx hb dX0_input_2 (by decide) ?_
  have hFc := va_free (wc := (gW h0 cI n ad ar iv)) hD hS hA [0, 1, 2, 3, 4, 5, 6, 7, 8] rfl
  refine va_calli (va_runV (As := [.int (-1), .int (-1)]) (rest := []) ⟨hx, hb, hml, hown, hts⟩ (c_newNode l D h0 cI n ad ar iv s.heap.size (-1) (-1) nc hnc3 hmx3 hle3 h163 hb93) (cwV 2 hts gX0_input_X0_newNode rfl rfl rfl (by decide +kernel) ⟨Nat.le_of_ble_eq_true rfl, Nat.le_of_ble_eq_true rfl⟩) (mP_V hK hP hD (va_recv hK hP (ci := 0) (q0 := 0) rfl rfl)) rfl rfl hl.1 rfl (lv_room (Nat.le_of_ble_eq_true rfl)) dX0_input_3 ⟨by show 0 + (gb_cap n (nc + 1) - n) ≤ gb_cap n (nc + 1) - n; omega, by show 0 + 16 * (gb_cap n (nc + 1) - n) ≤ 16 * (gb_cap n (nc + 1) - n); omega⟩) hS (fun q _ h => hFc q h) hFc (fun r3 u t H1 locs ht hvm e3 hB hz1 hk1 hS => ?_)
  obtain ⟨n3, ad3, ar3, iv3⟩ := u
  obtain ⟨hP1, hK1, hD1⟩ := hB
  rw [ht] at hP1
  have hK := va_K.moved hvm.symm hK1
  have hP : va_P D vwCl (gW h0 cI n3 ad3 ar3 iv3) H1 := hP1
  have hD : va_D A (gW h0 cI n3 ad3 ar3 iv3) := hD1.weaken (fun k q _ h => hFc q.1 h)
  clear hP1 hK1 hD1 hk1 hz1 hFc ht
  generalize H1 = H at hP hS ⊢
  try dsimp only at e3
  refine lv_istore_n (lv' := [(1, .int r3), (0, .ref h0)]) hx hb dX0_input_6 rfl hl (by decide) rfl (fun ls hl => ?_)
  refine lv_aload_n hx hb dX0_input_7 rfl (lv_at hl 1 rfl) ?_
  refine lv_dup hx hb dX0_input_8 rfl ?_
  refine va_get (D := D) (ci := 0) (v := .int (iv3 1)) (C := RX0) (T := TX0) (N := 11) hx hb hts inX0 hown hK hP 0 rfl rfl 9 (by decide) (hts _ (mG wm_62)) (fun _ h9 => h9) rfl dX0_input_9 ?_
  refine lv_iconst (v := 1) hx hb dX0_input_12 (by decide) ?_
  refine lv_iadd hx hb dX0_input_13 ?_
  refine lv_topi (fun v13 e13 => ?_)
  refine va_put (D := D) (ci := 0) (v := .int v13) (ty := .int) (C := RX0) (T := TX0) (N := 11) hx hb hts inX0 tyX0 tyX0_ok nmX0 hown hK hP hD hS 0 rfl rfl 9 (by decide) (hts _ (mG wm_62)) (fun _ h9 => h9) rfl (by decide +kernel) rfl rfl (Nat.le_of_ble_eq_true rfl) dX0_input_14 (fun H locs hP hD hS => ?_)
  obtain ⟨iv14, e14⟩ : ∃ zz : Nat → Int32, zz = va_up iv3 1 v13 := ⟨_, rfl⟩
  have hP : va_P D vwCl (gW h0 cI n3 ad3 ar3 iv14) H := by rw [e14]; exact hP
  have hD : va_D A (gW h0 cI n3 ad3 ar3 iv14) := by rw [e14]; exact hD
  refine lv_iload_n hx hb dX0_input_17 rfl (lv_at hl 0 rfl) ?_
  refine lv_iconst (v := 1) hx hb dX0_input_18 (by decide) ?_
  refine lv_ishl hx hb dX0_input_19 ?_
  refine lv_topi (fun v19 e19 => ?_)
  refine W.widen (k := gb_cap n (nc + 1) - n) (n := 16 * (gb_cap n (nc + 1) - n)) (by omega) (by omega) ?_
  exact W.iret (v := v19) hx hb hr (fun t ht hW => ⟨⟨v19, (n3, ad3, ar3, iv14), rfl, ⟨by rw [e19, e3.1]; exact ct_shl (by omega), e3.2.1, by rw [e3.2.1]; exact gb_ok_input hok (by omega) (by rw [e14, e13, e3.2.2.1, va_up_ne _ _ (by decide), hok.ic]; exact congrArg (va_up _ 1) (nI_1 ic)) e3.2.2.2⟩, by rw [ht]; exact hP, va_K.moved hW.alike hK, hD⟩, hS.F ht⟩) hS.2.2 dX0_input_20
end
section
theorem ct_b_1 {b : Bool} (h : ct_b b = 1) : b = true := by
  cases b
  · exact absurd h (by decide)
  · rfl
theorem ct_cn_le {g : Ct} {t : Nat} : ∀ k, ct_cn g t k ≤ k := by
  intro k
  induction k with
  | zero => exact Nat.le_refl 0
  | succ k ih =>
    unfold ct_cn
    split <;> omega
theorem ct_cn_s (g : Ct) (t k : Nat) : ct_cn g t (k + 1) = ct_cn g t k + (if ct_in g t k = true ∧ g k ≠ none then 1 else 0) := rfl
theorem ct_cn_1 {nc : Nat} {g : Ct} (hw : ct_wf nc g) {t : Nat} : ct_cn g t 1 = 0 := by
  rw [ct_cn_s, if_neg (fun z => z.2 (ct_zero hw))]
  rfl
-- ===== a new bench =====
abbrev gb_ar0 : Nat → Nat → Int32 := fun k => match k with
  | 0 => upd (fun _ => 0) (Int32.toNatClampNeg 0) (-1)
  | 1 => upd (fun _ => 0) (Int32.toNatClampNeg 0) (-1)
  | _ => fun _ => 0
abbrev gb_iv0 : Nat → Int32 := fun k => match k with
  | 0 => 1
  | 1 => 0
  | _ => 1
theorem ct_wf_new : ct_wf 1 (fun _ => none) := ⟨fun i x y h => by simp at h, fun i j q h => by simp at h⟩
theorem ct_us_new : ∀ k i, ct_us (fun _ => none) k i = 0 := by
  intro k
  induction k with
  | zero => intro i; rfl
  | succ k ih => intro i; unfold ct_us; exact ih i
theorem ct_nw_new : ∀ k i, ct_nw (fun _ => none) k i = 0 := by
  intro k
  induction k with
  | zero => intro i; rfl
  | succ k ih => intro i; unfold ct_nw; exact ih i
theorem gb_ok_new : gb_ok 16 1 0 (fun _ => none) (fun _ => false) gb_ar0 gb_iv0 := by
  refine ⟨⟨by decide, by decide, by decide, ct_wf_new, fun i hi => ?_⟩, by decide, rfl, rfl, rfl, fun _ _ => rfl, fun i hi => ?_, fun i hi => ?_, fun i hi => ?_, fun j x y h => by simp at h, fun _ _ _ => rfl, fun _ _ => ⟨false, rfl⟩, 1, rfl, by decide, by decide, fun i hi => ?_⟩
  · have : i = 0 := by omega
    subst this
    exact ⟨rfl, rfl⟩
  · rw [ct_us_new]; rfl
  · rw [ct_dp_n rfl]; rfl
  · rw [ct_nw_new]; rfl
  · rw [ct_vl_n rfl]; rfl
end
section
set_option maxHeartbeats 4000000 in
set_option maxRecDepth 100000 in
/-- cone -/
theorem c_cone (l : Launch) (hl9 : l.stackTraces = false) (D : va_G) (h0 : Nat) (cI : ClassId) (n : Nat) (ad : Nat → Nat) (ar : Nat → Nat → Int32) (iv : Nat → Int32) (sz : Nat) (x : Int32) (nc ic : Nat) (g : Ct) (bv : Nat → Bool) (hok : gb_ok n nc ic g bv ar iv) (hmx : nc + 6 ≤ 20000) : vx_Met l yX0_cone wsX0_cone ({ frames := 7, cells := 1, slots := 6, locals := 111 }) (tP D (gW h0 cI n ad ar iv) [(cI, .int)] sz [.ref h0, .int x]) (va_Qi (fun (r : Int32) (u : GS) => (ct_lit nc x ∧ r = nI (ct_cn g ((Int32.toNatClampNeg x) / 2) ((Int32.toNatClampNeg x) / 2 + 1)) ∧ u.1 = n ∧ gb_ok n nc ic g bv u.2.2.1 u.2.2.2)) (gb_at D cI (va_A (gW h0 cI n ad ar iv) sz) h0) (va_A (gW h0 cI n ad ar iv) sz)) (gb_xc D cI (va_A (gW h0 cI n ad ar iv) sz) h0 (n, ad, ar, iv) (¬ ct_lit nc x)) (1) (6) (va_A (gW h0 cI n ad ar iv) sz) := by
  refine vx_ofW (cc := cX0_cone) (maxL := 5) (ret := (some .int)) (by decide) rfl ?_
  intro p e s m args below meth c s₁ B hml hnt hv
  obtain ⟨rfl, hsz, hP, hK, hD0, hT⟩ := hv
  have hx := B.exec
  have hb := B.bytes
  have hr := B.returns
  have hts := atoms_spec (ws := wsX0_cone) B.pre
  have hown : s.vm.findClass RX0 = some m.cls := findClass_of_methodNamed B.named
  have hlocks := B.notSynchronized
  have hl := lv_entry ([.ref h0, .int x]) (n := 5) (Nat.le_of_ble_eq_true rfl)
  rw [lg_entry_eq]
  generalize (lg_sl ([.ref h0, .int x]) ++ List.replicate (5 - (lg_sl ([.ref h0, .int x])).length) Slot.unset).toArray = ls at hl ⊢
  have hl : lv_has ls 5 [(0, .ref h0), (1, .int x)] := hl
  subst hsz
  have hD := hD0.self (sz := s.heap.size)
  generalize hAe : va_A (gW h0 cI n ad ar iv) s.heap.size = A at hD hT ⊢
  have hA : ∀ q : Nat, s.heap.size ≤ q → A q := fun q h => by rw [← hAe]; exact Or.inr h
  have hS : va_S A s.heap s.heap [] := va_S.rf
  have hnc := hok.nc
  have hct := hok.ct
  have hwf := hok.wf
  have h16 := hok.n16
  have hle := hct.2.1
  have hb9 := hct.2.2.1
  have hn9 : nc < 2 ^ 30 := by omega
  refine lv_aload_n hx hb dX0_cone_0 rfl (lv_at hl 0 rfl) ?_
  refine lv_iload_n hx hb dX0_cone_1 rfl (lv_at hl 1 rfl) ?_
  have hFc := va_free (wc := (gW h0 cI n ad ar iv)) hD hS hA [0, 1, 2, 3, 4, 5, 6, 7, 8] rfl
  refine vx_callv (vx_runV (As := [.int x]) (rest := []) ⟨hx, hb, hml, hown, hts⟩ (c_needLiteral l hl9 D h0 cI n ad ar iv s.heap.size x nc hnc hn9) (cwV 1 hts gX0_cone_X0_needLiteral rfl rfl rfl (by decide +kernel) ⟨Nat.le_of_ble_eq_true rfl, Nat.le_of_ble_eq_true rfl⟩) (tP_V hK hP hD (va_recv hK hP (ci := 0) (q0 := 0) rfl rfl) hT hS hFc) rfl rfl hl.1 rfl (lv_room (Nat.le_of_ble_eq_true rfl)) dX0_cone_2 ⟨by show _ + _ ≤ 1; omega, by show _ + _ ≤ 6; omega⟩) hS (fun q _ h => hFc q h) hFc (fun q _ h => hFc q h) (fun E ce q9 u t H1 locs ht hvm e2 hB hz1 hk1 hS hcell hcv hcl => ?_) (fun u t H1 locs ht hvm e2 hB hz1 hk1 hS => ?_)
  · obtain ⟨e2, rfl⟩ := e2
    obtain ⟨rfl, hP1, hK1, hD1⟩ := hB
    rw [ht] at hP1
    have hK := va_K.moved hvm.symm hK1
    have hD : va_D A (gW h0 cI n ad ar iv) := hD1.weaken (fun k q _ h => hFc q.1 h)
    exact vx_out (fun x h => (hnt x h).elim) hlocks hcell hcv hcl (fun t' ht' hvm' => ⟨(n, ad, ar, iv), ⟨e2, rfl⟩, ⟨rfl, by rw [ht']; exact hP1, va_K.moved hvm' hK, hD⟩, hS.F ht'⟩) hS.2.2 (by omega) (by omega)
  · obtain ⟨e2, rfl⟩ := e2
    obtain ⟨hP1, hK1, hD1⟩ := hB
    rw [ht] at hP1
    have hK := va_K.moved hvm.symm hK1
    have hP : va_P D vwCl (gW h0 cI n ad ar iv) H1 := hP1
    have hD : va_D A (gW h0 cI n ad ar iv) := hD1.weaken (fun k q _ h => hFc q.1 h)
    clear hP1 hK1 hD1 hk1 hz1 hFc ht
    generalize H1 = H at hP hS ⊢
    have hxa := ct_lit_n e2 hn9
    obtain ⟨top, htop⟩ : ∃ z : Nat, z = (Int32.toNatClampNeg x) / 2 := ⟨_, rfl⟩
    refine lv_iload_n hx hb dX0_cone_5 rfl (lv_at hl 1 rfl) ?_
    refine lv_iconst (v := 1) hx hb dX0_cone_6 (by decide) ?_
    refine lv_ishr hx hb dX0_cone_7 ?_
    refine lv_topi (fun v7 e7 => ?_)
    have e7 : v7 = nI top := by rw [e7, hxa.1, ct_shr (by omega), htop]
    have hxm := e7
    refine lv_istore_n (lv' := [(2, .int v7), (0, .ref h0), (1, .int x)]) hx hb dX0_cone_8 rfl hl (by decide) rfl (fun ls hl => ?_)
    refine lv_aload_n hx hb dX0_cone_9 rfl (lv_at hl 1 rfl) ?_
    refine lv_iload_n hx hb dX0_cone_10 rfl (lv_at hl 0 rfl) ?_
    have hFc := va_free (wc := (gW h0 cI n ad ar iv)) hD hS hA [0, 1, 2, 3, 4, 5, 6, 7, 8] rfl
    refine va_callv (va_runV (As := [.int v7]) (rest := []) ⟨hx, hb, hml, hown, hts⟩ (c_markUnder l D h0 cI n ad ar iv H.size v7 top nc ic g bv hxm (by omega) hok) (cwV 1 hts gX0_cone_X0_markUnder rfl rfl rfl (by decide +kernel) ⟨Nat.le_of_ble_eq_true rfl, Nat.le_of_ble_eq_true rfl⟩) (mP_V hK hP hD (va_recv hK hP (ci := 0) (q0 := 0) rfl rfl)) rfl rfl hl.1 rfl (lv_room (Nat.le_of_ble_eq_true rfl)) dX0_cone_11 ⟨by show _ + _ ≤ 1; omega, by show _ + _ ≤ 6; omega⟩) hS (fun q _ h => hFc q h) hFc (fun u t H1 locs ht hvm e11 hB hz1 hk1 hS => ?_)
    obtain ⟨n11, ad11, ar11, iv11⟩ := u
    obtain ⟨hP1, hK1, hD1⟩ := hB
    rw [ht] at hP1
    have hK := va_K.moved hvm.symm hK1
    have hP : va_P D vwCl (gW h0 cI n11 ad11 ar11 iv11) H1 := hP1
    have hD : va_D A (gW h0 cI n11 ad11 ar11 iv11) := hD1.weaken (fun k q _ h => hFc q.1 h)
    clear hP1 hK1 hD1 hk1 hz1 hFc ht
    generalize H1 = H at hP hS ⊢
    try dsimp only at e11
    have hct1 := (gb_ok_mark hok e11.2.2.1 e11.2.1).ct
    refine lv_iconst (v := 0) hx hb dX0_cone_14 (by decide) ?_
    refine lv_istore_n (lv' := [(3, .int 0), (2, .int v7), (0, .ref h0), (1, .int x)]) hx hb dX0_cone_15 rfl hl (by decide) rfl (fun ls hl => ?_)
    refine lv_iconst (v := 1) hx hb dX0_cone_16 (by decide) ?_
    refine lv_istore (lv' := [(4, .int 1), (3, .int 0), (2, .int v7), (0, .ref h0), (1, .int x)]) hx hb dX0_cone_17 hl (by decide) rfl (fun ls hl => ?_)
    refine W.widen (k := 1) (n := 6) (by omega) (by omega) ?_
    have hloop : ∀ (k : Nat) (q : Nat) (c0 : Nat) (ls : Array Slot), top + 1 - q < k → (1 ≤ q ∧ q ≤ top + 1 ∧ c0 = ct_cn g top q) → lv_has ls 5 [(4, .int (nI q)), (3, .int (nI c0)), (2, .int v7), (0, .ref h0), (1, .int x)] → W p l e (headSpec wsX0_cone ({ frames := 7, cells := 1, slots := 6, locals := 111 })).room s m ([.ref h0, .int x] : List Value).toArray below meth c H locs 1 6 (vx_MQ below (va_Qi (fun (r : Int32) (u : GS) => (ct_lit nc x ∧ r = nI (ct_cn g ((Int32.toNatClampNeg x) / 2) ((Int32.toNatClampNeg x) / 2 + 1)) ∧ u.1 = n ∧ gb_ok n nc ic g bv u.2.2.1 u.2.2.2)) (gb_at D cI A h0) A) (gb_xc D cI A h0 (n, ad, ar, iv) (¬ ct_lit nc x)) ([.ref h0, .int x] : List Value).toArray s 1 6 A) (F0 m 19 ls []) := by
      intro k
      induction k with
      | zero => intro q c0 ls h; omega
      | succ k ih =>
        intro q c0 ls hqk hinv hl
        obtain ⟨i1, i2, i3⟩ := hinv
        have i4 := ct_cn_le (g := g) (t := top) q
        refine lv_iload hx hb dX0_cone_19 (lv_at hl 0 rfl) ?_
        refine lv_iload_n hx hb dX0_cone_21 rfl (lv_at hl 2 rfl) ?_
        refine lv_icmp_gt (tgt := 54) hx hb dX0_cone_22 (by decide) (fun c22 => ?_) (fun c22 => ?_)
        · have c22 : q = top + 1 := by
            rw [e7] at c22
            have := (nI_ltI (by omega) (by omega)).mp c22
            omega
          refine lv_iload_n hx hb dX0_cone_54 rfl (lv_at hl 1 rfl) ?_
          refine W.widen (k := 1) (n := 6) (by omega) (by omega) ?_
          refine vx_ret ?_
          exact W.iret (v := (nI c0)) hx hb hr (fun t ht hW => ⟨⟨(nI c0), (n11, ad11, ar11, iv11), rfl, ⟨e2, by rw [← htop, i3, c22], e11.1, gb_ok_mark hok e11.2.2.1 e11.2.1⟩, by rw [ht]; exact hP, va_K.moved hW.alike hK, hD⟩, hS.F ht⟩) hS.2.2 dX0_cone_55
        · have c22 : q ≤ top := by
            rw [e7] at c22
            exact Nat.not_lt.mp fun z => c22 (nI_lt z (by omega))
          have hi31 : vp_in (nI q) n11 := by rw [e11.1]; exact vp_in_nI (by omega) (by omega)
          have hc39 := hi31
          have hcs := ct_cn_s g top q
          refine lv_aload_n hx hb dX0_cone_25 rfl (lv_at hl 3 rfl) ?_
          refine va_get (D := D) (ci := 0) (v := .ref (ad11 5)) (C := RX0) (T := TX0) (N := 11) hx hb hts inX0 hown hK hP 0 rfl rfl 5 (by decide) (hts _ (mG wm_58)) (fun _ h9 => h9) rfl dX0_cone_26 ?_
          refine lv_iload hx hb dX0_cone_29 (lv_at hl 0 rfl) ?_
          refine va_iald hx hb hK hP 6 0 rfl rfl hi31 dX0_cone_31 ?_
          refine lv_topi (fun v31 e31 => ?_)
          have e31 : v31 = ct_b (ct_in g top q) := by rw [e31, nI_clamp (by omega)]; exact e11.2.2.2 q c22
          refine lv_iconst (v := 1) hx hb dX0_cone_32 (by decide) ?_
          refine lv_icmp_ne (tgt := 48) hx hb dX0_cone_33 (by decide) (fun c33 => ?_) (fun c33 => ?_)
          · have c33 : ¬ ct_in g top q = true := fun z => c33 (by rw [e31, z]; rfl)
            rw [if_neg (fun z => c33 z.1)] at hcs
            have hcn : c0 = ct_cn g top (q + 1) := by omega
            obtain ⟨v48, e48⟩ : ∃ y : Int32, y = (nI q) + 1 := ⟨_, rfl⟩
            refine lv_iinc (v := v48) (lv' := [(4, .int v48), (3, .int (nI c0)), (2, .int v7), (0, .ref h0), (1, .int x)]) hx hb dX0_cone_48 hl (k := 0) rfl (by rw [e48]; rfl) (by decide) rfl (fun ls hl => ?_)
            refine lv_goto (tgt := 19) hx hb dX0_cone_51 (by decide) ?_
            exact ih (q + 1) c0 ls (by omega) ⟨by omega, by omega, hcn⟩ (by rw [← nI_1 q, ← e48]; exact lv_sub hl [0, 1, 2, 3, 4] rfl)
          · refine lv_aload_n hx hb dX0_cone_36 rfl (lv_at hl 3 rfl) ?_
            refine lv_iload hx hb dX0_cone_37 (lv_at hl 0 rfl) ?_
            refine vp_callSi (W.runV (As := [.int (nI q)]) (rest := []) ⟨hx, hb, hml, hown, hts⟩ (c_isGate l D h0 cI n11 ad11 ar11 iv11 (nI q) hc39) (cwV 1 hts gX0_cone_X0_isGate rfl rfl rfl (by decide +kernel) ⟨Nat.le_of_ble_eq_true rfl, Nat.le_of_ble_eq_true rfl⟩) (rP_V hK hP (va_recv hK hP (ci := 0) (q0 := 0) rfl rfl)) rfl rfl hl.1 rfl (lv_room (Nat.le_of_ble_eq_true rfl)) dX0_cone_39 ⟨by show _ + _ ≤ 1; omega, by show _ + _ ≤ 6; omega⟩) (fun r39 e39 => ?_)
            refine lv_if_eq (tgt := 48) hx hb dX0_cone_42 (by decide) (fun c42 => ?_) (fun c42 => ?_)
            · have c42 : g q = none := (gb_gate_n hct1 (by omega)).mp (by rw [← e39]; exact c42)
              rw [if_neg (fun z => z.2 c42)] at hcs
              have hcn : c0 = ct_cn g top (q + 1) := by omega
              obtain ⟨v48, e48⟩ : ∃ y : Int32, y = (nI q) + 1 := ⟨_, rfl⟩
              refine lv_iinc (v := v48) (lv' := [(4, .int v48), (3, .int (nI c0)), (2, .int v7), (0, .ref h0), (1, .int x)]) hx hb dX0_cone_48 hl (k := 0) rfl (by rw [e48]; rfl) (by decide) rfl (fun ls hl => ?_)
              refine lv_goto (tgt := 19) hx hb dX0_cone_51 (by decide) ?_
              exact ih (q + 1) c0 ls (by omega) ⟨by omega, by omega, hcn⟩ (by rw [← nI_1 q, ← e48]; exact lv_sub hl [0, 1, 2, 3, 4] rfl)
            · have c33 : ct_in g top q = true := ct_b_1 (by rw [← e31]; exact c33)
              have c42 : ¬ g q = none := fun z => c42 (by rw [e39]; exact (gb_gate_n hct1 (by omega)).mpr z)
              rw [if_pos ⟨c33, c42⟩] at hcs
              obtain ⟨v45, e45⟩ : ∃ y : Int32, y = (nI c0) + 1 := ⟨_, rfl⟩
              refine lv_iinc (v := v45) (lv' := [(3, .int v45), (4, .int (nI q)), (2, .int v7), (0, .ref h0), (1, .int x)]) hx hb dX0_cone_45 hl (k := 1) rfl (by rw [e45]; rfl) (by decide) rfl (fun ls hl => ?_)
              have e45 : v45 = nI (c0 + 1) := by rw [e45]; exact nI_1 c0
              have hcn : c0 + 1 = ct_cn g top (q + 1) := by omega
              obtain ⟨v48, e48⟩ : ∃ y : Int32, y = (nI q) + 1 := ⟨_, rfl⟩
              refine lv_iinc (v := v48) (lv' := [(4, .int v48), (3, .int v45), (2, .int v7), (0, .ref h0), (1, .int x)]) hx hb dX0_cone_48 hl (k := 1) rfl (by rw [e48]; rfl) (by decide) rfl (fun ls hl => ?_)
              refine lv_goto (tgt := 19) hx hb dX0_cone_51 (by decide) ?_
              exact ih (q + 1) (c0 + 1) ls (by omega) ⟨by omega, by omega, hcn⟩ (by rw [← nI_1 q, ← e45, ← e48]; exact lv_sub hl [0, 1, 2, 3, 4] rfl)
    exact hloop (top + 1) 1 0 ls (by omega) ⟨Nat.le_refl 1, by omega, (ct_cn_1 hwf).symm⟩ (by rw [nI_0]; exact hl)
set_option maxHeartbeats 4000000 in
set_option maxRecDepth 100000 in
/-- GateBench(): the constant alone -/
theorem c_init (l : Launch) (D : va_G) (h0 sz : Nat) : Met l yX0_init wsX0_init ({ frames := 1, cells := 8, slots := 128, locals := 12 }) (mP D [(h0, .inr (0, [.null, .null, .null, .null, .null, .null, .null, .null, .int 0, .int 0, .int 0]))] [] sz [.ref h0]) (va_Qv (fun u : ClassId × GS => u.2.1 = 16 ∧ gb_ok 16 1 0 (fun _ => none) (fun _ => false) u.2.2.2.1 u.2.2.2.2) (fun u t => gb_at D u.1 (va_A [(h0, .inr (0, [.null, .null, .null, .null, .null, .null, .null, .null, .int 0, .int 0, .int 0]))] sz) h0 u.2 t) (va_A [(h0, .inr (0, [.null, .null, .null, .null, .null, .null, .null, .null, .int 0, .int 0, .int 0]))] sz)) 8 128 (va_A [(h0, .inr (0, [.null, .null, .null, .null, .null, .null, .null, .null, .int 0, .int 0, .int 0]))] sz) := by
  refine Met.ofW (cc := cX0_init) (maxL := 1) (ret := none) (by decide) rfl ?_
  intro p e s m args below meth c s₁ B hml hv
  obtain ⟨rfl, hsz, hP, hK, hD0⟩ := hv
  have hx := B.exec
  have hb := B.bytes
  have hr := B.returns
  have hts := atoms_spec (ws := wsX0_init) B.pre
  have hown : s.vm.findClass RX0 = some m.cls := findClass_of_methodNamed B.named
  have hlocks := B.notSynchronized
  have hl := lv_entry ([.ref h0]) (n := 1) (Nat.le_of_ble_eq_true rfl)
  rw [lg_entry_eq]
  generalize (lg_sl ([.ref h0]) ++ List.replicate (1 - (lg_sl ([.ref h0])).length) Slot.unset).toArray = ls at hl ⊢
  have hl : lv_has ls 1 [(0, .ref h0)] := hl
  subst hsz
  have hD := hD0.self (sz := s.heap.size)
  generalize hAe : va_A [(h0, .inr (0, [.null, .null, .null, .null, .null, .null, .null, .null, .int 0, .int 0, .int 0]))] s.heap.size = A at hD ⊢
  have hA : ∀ q : Nat, s.heap.size ≤ q → A q := fun q h => by rw [← hAe]; exact Or.inr h
  have hS : va_S A s.heap s.heap [] := va_S.rf
  refine lv_aload_n hx hb dX0_init_0 rfl (lv_at hl 0 rfl) ?_
  refine W.objInit hx hb hown (hts _ (mG wm_50)) (hts _ (mG wm_51)) (hts _ (mG wm_52)) rfl (by rw [hml]; exact hl.1) rfl dX0_init_1 (Nat.le_of_ble_eq_true rfl) (Nat.le_of_ble_eq_true rfl) ?_
  refine W.eq (g2 := F0 m 4 ls []) rfl ?_
  refine lv_aload_n hx hb dX0_init_4 rfl (lv_at hl 0 rfl) ?_
  refine lv_bipush (v := 16) hx hb dX0_init_5 (by decide) ?_
  refine va_newa (atype := .int) (a0 := (16, .inl (fun _ => 0))) (ty := .int) hx hb (hts _ (mG wm_87)) rfl hK hP hD hS hA (fun _ => rfl) (by decide) (by decide) (by decide) (Nat.le_of_ble_eq_true rfl) (Nat.le_of_ble_eq_true rfl) dX0_init_7 (fun q0 cI H hK hP hD hS => ?_)
  have hP : va_P D vwCl [(h0, .inr (0, [.null, .null, .null, .null, .null, .null, .null, .null, .int 0, .int 0, .int 0])), (q0, .inl (cI, 16, .inl (fun _ => 0)))] H := hP
  have hD : va_D A [(h0, .inr (0, [.null, .null, .null, .null, .null, .null, .null, .null, .int 0, .int 0, .int 0])), (q0, .inl (cI, 16, .inl (fun _ => 0)))] := hD
  refine va_put (D := D) (ci := 0) (v := .ref q0) (ty := (.array .int)) (C := RX0) (T := TX0) (N := 11) hx hb hts inX0 tyX0 tyX0_ok nmX0 hown hK hP hD hS 0 rfl rfl 0 (by decide) (hts _ (mG wm_53)) (fun _ h9 => h9) rfl (by decide +kernel) rfl rfl (Nat.le_of_ble_eq_true rfl) dX0_init_9 (fun H locs hP hD hS => ?_)
  have hP : va_P D vwCl [(h0, .inr (0, [.ref q0, .null, .null, .null, .null, .null, .null, .null, .int 0, .int 0, .int 0])), (q0, .inl (cI, 16, .inl (fun _ => 0)))] H := hP
  have hD : va_D A [(h0, .inr (0, [.ref q0, .null, .null, .null, .null, .null, .null, .null, .int 0, .int 0, .int 0])), (q0, .inl (cI, 16, .inl (fun _ => 0)))] := hD
  refine lv_aload_n hx hb dX0_init_12 rfl (lv_at hl 0 rfl) ?_
  refine lv_bipush (v := 16) hx hb dX0_init_13 (by decide) ?_
  refine va_newa (atype := .int) (a0 := (16, .inl (fun _ => 0))) (ty := .int) hx hb (hts _ (mG wm_87)) rfl hK hP hD hS hA (fun _ => rfl) (by decide) (by decide) (by decide) (Nat.le_of_ble_eq_true rfl) (Nat.le_of_ble_eq_true rfl) dX0_init_15 (fun q1 cA H hK hP hD hS => ?_)
  have hcA : cI = cA := gb_cI hK (i := 0) (j := 1) rfl rfl
  subst hcA
  have hK := hK.sub (tys' := [(cI, .int)]) [0] rfl
  have hP : va_P D vwCl [(h0, .inr (0, [.ref q0, .null, .null, .null, .null, .null, .null, .null, .int 0, .int 0, .int 0])), (q0, .inl (cI, 16, .inl (fun _ => 0))), (q1, .inl (cI, 16, .inl (fun _ => 0)))] H := hP
  have hD : va_D A [(h0, .inr (0, [.ref q0, .null, .null, .null, .null, .null, .null, .null, .int 0, .int 0, .int 0])), (q0, .inl (cI, 16, .inl (fun _ => 0))), (q1, .inl (cI, 16, .inl (fun _ => 0)))] := hD
  refine va_put (D := D) (ci := 0) (v := .ref q1) (ty := (.array .int)) (C := RX0) (T := TX0) (N := 11) hx hb hts inX0 tyX0 tyX0_ok nmX0 hown hK hP hD hS 0 rfl rfl 1 (by decide) (hts _ (mG wm_54)) (fun _ h9 => h9) rfl (by decide +kernel) rfl rfl (Nat.le_of_ble_eq_true rfl) dX0_init_17 (fun H locs hP hD hS => ?_)
  have hP : va_P D vwCl [(h0, .inr (0, [.ref q0, .ref q1, .null, .null, .null, .null, .null, .null, .int 0, .int 0, .int 0])), (q0, .inl (cI, 16, .inl (fun _ => 0))), (q1, .inl (cI, 16, .inl (fun _ => 0)))] H := hP
  have hD : va_D A [(h0, .inr (0, [.ref q0, .ref q1, .null, .null, .null, .null, .null, .null, .int 0, .int 0, .int 0])), (q0, .inl (cI, 16, .inl (fun _ => 0))), (q1, .inl (cI, 16, .inl (fun _ => 0)))] := hD
  refine lv_aload_n hx hb dX0_init_20 rfl (lv_at hl 0 rfl) ?_
  refine lv_bipush (v := 16) hx hb dX0_init_21 (by decide) ?_
  refine va_newa (atype := .int) (a0 := (16, .inl (fun _ => 0))) (ty := .int) hx hb (hts _ (mG wm_87)) rfl hK hP hD hS hA (fun _ => rfl) (by decide) (by decide) (by decide) (Nat.le_of_ble_eq_true rfl) (Nat.le_of_ble_eq_true rfl) dX0_init_23 (fun q2 cA H hK hP hD hS => ?_)
  have hcA : cI = cA := gb_cI hK (i := 0) (j := 1) rfl rfl
  subst hcA
  have hK := hK.sub (tys' := [(cI, .int)]) [0] rfl
  have hP : va_P D vwCl [(h0, .inr (0, [.ref q0, .ref q1, .null, .null, .null, .null, .null, .null, .int 0, .int 0, .int 0])), (q0, .inl (cI, 16, .inl (fun _ => 0))), (q1, .inl (cI, 16, .inl (fun _ => 0))), (q2, .inl (cI, 16, .inl (fun _ => 0)))] H := hP
  have hD : va_D A [(h0, .inr (0, [.ref q0, .ref q1, .null, .null, .null, .null, .null, .null, .int 0, .int 0, .int 0])), (q0, .inl (cI, 16, .inl (fun _ => 0))), (q1, .inl (cI, 16, .inl (fun _ => 0))), (q2, .inl (cI, 16, .inl (fun _ => 0)))] := hD
  refine va_put (D := D) (ci := 0) (v := .ref q2) (ty := (.array .int)) (C := RX0) (T := TX0) (N := 11) hx hb hts inX0 tyX0 tyX0_ok nmX0 hown hK hP hD hS 0 rfl rfl 2 (by decide) (hts _ (mG wm_55)) (fun _ h9 => h9) rfl (by decide +kernel) rfl rfl (Nat.le_of_ble_eq_true rfl) dX0_init_25 (fun H locs hP hD hS => ?_)
  have hP : va_P D vwCl [(h0, .inr (0, [.ref q0, .ref q1, .ref q2, .null, .null, .null, .null, .null, .int 0, .int 0, .int 0])), (q0, .inl (cI, 16, .inl (fun _ => 0))), (q1, .inl (cI, 16, .inl (fun _ => 0))), (q2, .inl (cI, 16, .inl (fun _ => 0)))] H := hP
  have hD : va_D A [(h0, .inr (0, [.ref q0, .ref q1, .ref q2, .null, .null, .null, .null, .null, .int 0, .int 0, .int 0])), (q0, .inl (cI, 16, .inl (fun _ => 0))), (q1, .inl (cI, 16, .inl (fun _ => 0))), (q2, .inl (cI, 16, .inl (fun _ => 0)))] := hD
  refine lv_aload_n hx hb dX0_init_28 rfl (lv_at hl 0 rfl) ?_
  refine lv_bipush (v := 16) hx hb dX0_init_29 (by decide) ?_
  refine va_newa (atype := .int) (a0 := (16, .inl (fun _ => 0))) (ty := .int) hx hb (hts _ (mG wm_87)) rfl hK hP hD hS hA (fun _ => rfl) (by decide) (by decide) (by decide) (Nat.le_of_ble_eq_true rfl) (Nat.le_of_ble_eq_true rfl) dX0_init_31 (fun q3 cA H hK hP hD hS => ?_)
  have hcA : cI = cA := gb_cI hK (i := 0) (j := 1) rfl rfl
  subst hcA
  have hK := hK.sub (tys' := [(cI, .int)]) [0] rfl
  have hP : va_P D vwCl [(h0, .inr (0, [.ref q0, .ref q1, .ref q2, .null, .null, .null, .null, .null, .int 0, .int 0, .int 0])), (q0, .inl (cI, 16, .inl (fun _ => 0))), (q1, .inl (cI, 16, .inl (fun _ => 0))), (q2, .inl (cI, 16, .inl (fun _ => 0))), (q3, .inl (cI, 16, .inl (fun _ => 0)))] H := hP
  have hD : va_D A [(h0, .inr (0, [.ref q0, .ref q1, .ref q2, .null, .null, .null, .null, .null, .int 0, .int 0, .int 0])), (q0, .inl (cI, 16, .inl (fun _ => 0))), (q1, .inl (cI, 16, .inl (fun _ => 0))), (q2, .inl (cI, 16, .inl (fun _ => 0))), (q3, .inl (cI, 16, .inl (fun _ => 0)))] := hD
  refine va_put (D := D) (ci := 0) (v := .ref q3) (ty := (.array .int)) (C := RX0) (T := TX0) (N := 11) hx hb hts inX0 tyX0 tyX0_ok nmX0 hown hK hP hD hS 0 rfl rfl 3 (by decide) (hts _ (mG wm_56)) (fun _ h9 => h9) rfl (by decide +kernel) rfl rfl (Nat.le_of_ble_eq_true rfl) dX0_init_33 (fun H locs hP hD hS => ?_)
  have hP : va_P D vwCl [(h0, .inr (0, [.ref q0, .ref q1, .ref q2, .ref q3, .null, .null, .null, .null, .int 0, .int 0, .int 0])), (q0, .inl (cI, 16, .inl (fun _ => 0))), (q1, .inl (cI, 16, .inl (fun _ => 0))), (q2, .inl (cI, 16, .inl (fun _ => 0))), (q3, .inl (cI, 16, .inl (fun _ => 0)))] H := hP
  have hD : va_D A [(h0, .inr (0, [.ref q0, .ref q1, .ref q2, .ref q3, .null, .null, .null, .null, .int 0, .int 0, .int 0])), (q0, .inl (cI, 16, .inl (fun _ => 0))), (q1, .inl (cI, 16, .inl (fun _ => 0))), (q2, .inl (cI, 16, .inl (fun _ => 0))), (q3, .inl (cI, 16, .inl (fun _ => 0)))] := hD
  refine lv_aload_n hx hb dX0_init_36 rfl (lv_at hl 0 rfl) ?_
  refine lv_bipush (v := 16) hx hb dX0_init_37 (by decide) ?_
  refine va_newa (atype := .int) (a0 := (16, .inl (fun _ => 0))) (ty := .int) hx hb (hts _ (mG wm_87)) rfl hK hP hD hS hA (fun _ => rfl) (by decide) (by decide) (by decide) (Nat.le_of_ble_eq_true rfl) (Nat.le_of_ble_eq_true rfl) dX0_init_39 (fun q4 cA H hK hP hD hS => ?_)
  have hcA : cI = cA := gb_cI hK (i := 0) (j := 1) rfl rfl
  subst hcA
  have hK := hK.sub (tys' := [(cI, .int)]) [0] rfl
  have hP : va_P D vwCl [(h0, .inr (0, [.ref q0, .ref q1, .ref q2, .ref q3, .null, .null, .null, .null, .int 0, .int 0, .int 0])), (q0, .inl (cI, 16, .inl (fun _ => 0))), (q1, .inl (cI, 16, .inl (fun _ => 0))), (q2, .inl (cI, 16, .inl (fun _ => 0))), (q3, .inl (cI, 16, .inl (fun _ => 0))), (q4, .inl (cI, 16, .inl (fun _ => 0)))] H := hP
  have hD : va_D A [(h0, .inr (0, [.ref q0, .ref q1, .ref q2, .ref q3, .null, .null, .null, .null, .int 0, .int 0, .int 0])), (q0, .inl (cI, 16, .inl (fun _ => 0))), (q1, .inl (cI, 16, .inl (fun _ => 0))), (q2, .inl (cI, 16, .inl (fun _ => 0))), (q3, .inl (cI, 16, .inl (fun _ => 0))), (q4, .inl (cI, 16, .inl (fun _ => 0)))] := hD
  refine va_put (D := D) (ci := 0) (v := .ref q4) (ty := (.array .int)) (C := RX0) (T := TX0) (N := 11) hx hb hts inX0 tyX0 tyX0_ok nmX0 hown hK hP hD hS 0 rfl rfl 4 (by decide) (hts _ (mG wm_57)) (fun _ h9 => h9) rfl (by decide +kernel) rfl rfl (Nat.le_of_ble_eq_true rfl) dX0_init_41 (fun H locs hP hD hS => ?_)
  have hP : va_P D vwCl [(h0, .inr (0, [.ref q0, .ref q1, .ref q2, .ref q3, .ref q4, .null, .null, .null, .int 0, .int 0, .int 0])), (q0, .inl (cI, 16, .inl (fun _ => 0))), (q1, .inl (cI, 16, .inl (fun _ => 0))), (q2, .inl (cI, 16, .inl (fun _ => 0))), (q3, .inl (cI, 16, .inl (fun _ => 0))), (q4, .inl (cI, 16, .inl (fun _ => 0)))] H := hP
  have hD : va_D A [(h0, .inr (0, [.ref q0, .ref q1, .ref q2, .ref q3, .ref q4, .null, .null, .null, .int 0, .int 0, .int 0])), (q0, .inl (cI, 16, .inl (fun _ => 0))), (q1, .inl (cI, 16, .inl (fun _ => 0))), (q2, .inl (cI, 16, .inl (fun _ => 0))), (q3, .inl (cI, 16, .inl (fun _ => 0))), (q4, .inl (cI, 16, .inl (fun _ => 0)))] := hD
  refine lv_aload_n hx hb dX0_init_44 rfl (lv_at hl 0 rfl) ?_
  refine lv_bipush (v := 16) hx hb dX0_init_45 (by decide) ?_
  refine va_newa (atype := .int) (a0 := (16, .inl (fun _ => 0))) (ty := .int) hx hb (hts _ (mG wm_87)) rfl hK hP hD hS hA (fun _ => rfl) (by decide) (by decide) (by decide) (Nat.le_of_ble_eq_true rfl) (Nat.le_of_ble_eq_true rfl) dX0_init_47 (fun q5 cA H hK hP hD hS => ?_)
  have hcA : cI = cA := gb_cI hK (i := 0) (j := 1) rfl rfl
  subst hcA
  have hK := hK.sub (tys' := [(cI, .int)]) [0] rfl
  have hP : va_P D vwCl [(h0, .inr (0, [.ref q0, .ref q1, .ref q2, .ref q3, .ref q4, .null, .null, .null, .int 0, .int 0, .int 0])), (q0, .inl (cI, 16, .inl (fun _ => 0))), (q1, .inl (cI, 16, .inl (fun _ => 0))), (q2, .inl (cI, 16, .inl (fun _ => 0))), (q3, .inl (cI, 16, .inl (fun _ => 0))), (q4, .inl (cI, 16, .inl (fun _ => 0))), (q5, .inl (cI, 16, .inl (fun _ => 0)))] H := hP
  have hD : va_D A [(h0, .inr (0, [.ref q0, .ref q1, .ref q2, .ref q3, .ref q4, .null, .null, .null, .int 0, .int 0, .int 0])), (q0, .inl (cI, 16, .inl (fun _ => 0))), (q1, .inl (cI, 16, .inl (fun _ => 0))), (q2, .inl (cI, 16, .inl (fun _ => 0))), (q3, .inl (cI, 16, .inl (fun _ => 0))), (q4, .inl (cI, 16, .inl (fun _ => 0))), (q5, .inl (cI, 16, .inl (fun _ => 0)))] := hD
  refine va_put (D := D) (ci := 0) (v := .ref q5) (ty := (.array .int)) (C := RX0) (T := TX0) (N := 11) hx hb hts inX0 tyX0 tyX0_ok nmX0 hown hK hP hD hS 0 rfl rfl 5 (by decide) (hts _ (mG wm_58)) (fun _ h9 => h9) rfl (by decide +kernel) rfl rfl (Nat.le_of_ble_eq_true rfl) dX0_init_49 (fun H locs hP hD hS => ?_)
  have hP : va_P D vwCl [(h0, .inr (0, [.ref q0, .ref q1, .ref q2, .ref q3, .ref q4, .ref q5, .null, .null, .int 0, .int 0, .int 0])), (q0, .inl (cI, 16, .inl (fun _ => 0))), (q1, .inl (cI, 16, .inl (fun _ => 0))), (q2, .inl (cI, 16, .inl (fun _ => 0))), (q3, .inl (cI, 16, .inl (fun _ => 0))), (q4, .inl (cI, 16, .inl (fun _ => 0))), (q5, .inl (cI, 16, .inl (fun _ => 0)))] H := hP
  have hD : va_D A [(h0, .inr (0, [.ref q0, .ref q1, .ref q2, .ref q3, .ref q4, .ref q5, .null, .null, .int 0, .int 0, .int 0])), (q0, .inl (cI, 16, .inl (fun _ => 0))), (q1, .inl (cI, 16, .inl (fun _ => 0))), (q2, .inl (cI, 16, .inl (fun _ => 0))), (q3, .inl (cI, 16, .inl (fun _ => 0))), (q4, .inl (cI, 16, .inl (fun _ => 0))), (q5, .inl (cI, 16, .inl (fun _ => 0)))] := hD
  refine lv_aload_n hx hb dX0_init_52 rfl (lv_at hl 0 rfl) ?_
  refine lv_bipush (v := 16) hx hb dX0_init_53 (by decide) ?_
  refine va_newa (atype := .int) (a0 := (16, .inl (fun _ => 0))) (ty := .int) hx hb (hts _ (mG wm_87)) rfl hK hP hD hS hA (fun _ => rfl) (by decide) (by decide) (by decide) (Nat.le_of_ble_eq_true rfl) (Nat.le_of_ble_eq_true rfl) dX0_init_55 (fun q6 cA H hK hP hD hS => ?_)
  have hcA : cI = cA := gb_cI hK (i := 0) (j := 1) rfl rfl
  subst hcA
  have hK := hK.sub (tys' := [(cI, .int)]) [0] rfl
  have hP : va_P D vwCl [(h0, .inr (0, [.ref q0, .ref q1, .ref q2, .ref q3, .ref q4, .ref q5, .null, .null, .int 0, .int 0, .int 0])), (q0, .inl (cI, 16, .inl (fun _ => 0))), (q1, .inl (cI, 16, .inl (fun _ => 0))), (q2, .inl (cI, 16, .inl (fun _ => 0))), (q3, .inl (cI, 16, .inl (fun _ => 0))), (q4, .inl (cI, 16, .inl (fun _ => 0))), (q5, .inl (cI, 16, .inl (fun _ => 0))), (q6, .inl (cI, 16, .inl (fun _ => 0)))] H := hP
  have hD : va_D A [(h0, .inr (0, [.ref q0, .ref q1, .ref q2, .ref q3, .ref q4, .ref q5, .null, .null, .int 0, .int 0, .int 0])), (q0, .inl (cI, 16, .inl (fun _ => 0))), (q1, .inl (cI, 16, .inl (fun _ => 0))), (q2, .inl (cI, 16, .inl (fun _ => 0))), (q3, .inl (cI, 16, .inl (fun _ => 0))), (q4, .inl (cI, 16, .inl (fun _ => 0))), (q5, .inl (cI, 16, .inl (fun _ => 0))), (q6, .inl (cI, 16, .inl (fun _ => 0)))] := hD
  refine va_put (D := D) (ci := 0) (v := .ref q6) (ty := (.array .int)) (C := RX0) (T := TX0) (N := 11) hx hb hts inX0 tyX0 tyX0_ok nmX0 hown hK hP hD hS 0 rfl rfl 6 (by decide) (hts _ (mG wm_59)) (fun _ h9 => h9) rfl (by decide +kernel) rfl rfl (Nat.le_of_ble_eq_true rfl) dX0_init_57 (fun H locs hP hD hS => ?_)
  have hP : va_P D vwCl [(h0, .inr (0, [.ref q0, .ref q1, .ref q2, .ref q3, .ref q4, .ref q5, .ref q6, .null, .int 0, .int 0, .int 0])), (q0, .inl (cI, 16, .inl (fun _ => 0))), (q1, .inl (cI, 16, .inl (fun _ => 0))), (q2, .inl (cI, 16, .inl (fun _ => 0))), (q3, .inl (cI, 16, .inl (fun _ => 0))), (q4, .inl (cI, 16, .inl (fun _ => 0))), (q5, .inl (cI, 16, .inl (fun _ => 0))), (q6, .inl (cI, 16, .inl (fun _ => 0)))] H := hP
  have hD : va_D A [(h0, .inr (0, [.ref q0, .ref q1, .ref q2, .ref q3, .ref q4, .ref q5, .ref q6, .null, .int 0, .int 0, .int 0])), (q0, .inl (cI, 16, .inl (fun _ => 0))), (q1, .inl (cI, 16, .inl (fun _ => 0))), (q2, .inl (cI, 16, .inl (fun _ => 0))), (q3, .inl (cI, 16, .inl (fun _ => 0))), (q4, .inl (cI, 16, .inl (fun _ => 0))), (q5, .inl (cI, 16, .inl (fun _ => 0))), (q6, .inl (cI, 16, .inl (fun _ => 0)))] := hD
  refine lv_aload_n hx hb dX0_init_60 rfl (lv_at hl 0 rfl) ?_
  refine lv_bipush (v := 16) hx hb dX0_init_61 (by decide) ?_
  refine va_newa (atype := .int) (a0 := (16, .inl (fun _ => 0))) (ty := .int) hx hb (hts _ (mG wm_87)) rfl hK hP hD hS hA (fun _ => rfl) (by decide) (by decide) (by decide) (Nat.le_of_ble_eq_true rfl) (Nat.le_of_ble_eq_true rfl) dX0_init_63 (fun q7 cA H hK hP hD hS => ?_)
  have hcA : cI = cA := gb_cI hK (i := 0) (j := 1) rfl rfl
  subst hcA
  have hK := hK.sub (tys' := [(cI, .int)]) [0] rfl
  have hP : va_P D vwCl [(h0, .inr (0, [.ref q0, .ref q1, .ref q2, .ref q3, .ref q4, .ref q5, .ref q6, .null, .int 0, .int 0, .int 0])), (q0, .inl (cI, 16, .inl (fun _ => 0))), (q1, .inl (cI, 16, .inl (fun _ => 0))), (q2, .inl (cI, 16, .inl (fun _ => 0))), (q3, .inl (cI, 16, .inl (fun _ => 0))), (q4, .inl (cI, 16, .inl (fun _ => 0))), (q5, .inl (cI, 16, .inl (fun _ => 0))), (q6, .inl (cI, 16, .inl (fun _ => 0))), (q7, .inl (cI, 16, .inl (fun _ => 0)))] H := hP
  have hD : va_D A [(h0, .inr (0, [.ref q0, .ref q1, .ref q2, .ref q3, .ref q4, .ref q5, .ref q6, .null, .int 0, .int 0, .int 0])), (q0, .inl (cI, 16, .inl (fun _ => 0))), (q1, .inl (cI, 16, .inl (fun _ => 0))), (q2, .inl (cI, 16, .inl (fun _ => 0))), (q3, .inl (cI, 16, .inl (fun _ => 0))), (q4, .inl (cI, 16, .inl (fun _ => 0))), (q5, .inl (cI, 16, .inl (fun _ => 0))), (q6, .inl (cI, 16, .inl (fun _ => 0))), (q7, .inl (cI, 16, .inl (fun _ => 0)))] := hD
  refine va_put (D := D) (ci := 0) (v := .ref q7) (ty := (.array .int)) (C := RX0) (T := TX0) (N := 11) hx hb hts inX0 tyX0 tyX0_ok nmX0 hown hK hP hD hS 0 rfl rfl 7 (by decide) (hts _ (mG wm_60)) (fun _ h9 => h9) rfl (by decide +kernel) rfl rfl (Nat.le_of_ble_eq_true rfl) dX0_init_65 (fun H locs hP hD hS => ?_)
  have hP : va_P D vwCl [(h0, .inr (0, [.ref q0, .ref q1, .ref q2, .ref q3, .ref q4, .ref q5, .ref q6, .ref q7, .int 0, .int 0, .int 0])), (q0, .inl (cI, 16, .inl (fun _ => 0))), (q1, .inl (cI, 16, .inl (fun _ => 0))), (q2, .inl (cI, 16, .inl (fun _ => 0))), (q3, .inl (cI, 16, .inl (fun _ => 0))), (q4, .inl (cI, 16, .inl (fun _ => 0))), (q5, .inl (cI, 16, .inl (fun _ => 0))), (q6, .inl (cI, 16, .inl (fun _ => 0))), (q7, .inl (cI, 16, .inl (fun _ => 0)))] H := hP
  have hD : va_D A [(h0, .inr (0, [.ref q0, .ref q1, .ref q2, .ref q3, .ref q4, .ref q5, .ref q6, .ref q7, .int 0, .int 0, .int 0])), (q0, .inl (cI, 16, .inl (fun _ => 0))), (q1, .inl (cI, 16, .inl (fun _ => 0))), (q2, .inl (cI, 16, .inl (fun _ => 0))), (q3, .inl (cI, 16, .inl (fun _ => 0))), (q4, .inl (cI, 16, .inl (fun _ => 0))), (q5, .inl (cI, 16, .inl (fun _ => 0))), (q6, .inl (cI, 16, .inl (fun _ => 0))), (q7, .inl (cI, 16, .inl (fun _ => 0)))] := hD
  refine lv_aload_n hx hb dX0_init_68 rfl (lv_at hl 0 rfl) ?_
  refine va_get (D := D) (ci := 0) (v := .ref q0) (C := RX0) (T := TX0) (N := 11) hx hb hts inX0 hown hK hP 0 rfl rfl 0 (by decide) (hts _ (mG wm_53)) (fun _ h9 => h9) rfl dX0_init_69 ?_
  refine lv_iconst (v := 0) hx hb dX0_init_72 (by decide) ?_
  refine lv_iconst (v := -1) hx hb dX0_init_73 (by decide) ?_
  refine va_iast hx hb hK hP hD hS 1 0 rfl rfl (by unfold vp_in; decide) dX0_init_74 (fun H locs hP hD hS => ?_)
  have hP : va_P D vwCl [(h0, .inr (0, [.ref q0, .ref q1, .ref q2, .ref q3, .ref q4, .ref q5, .ref q6, .ref q7, .int 0, .int 0, .int 0])), (q0, .inl (cI, 16, .inl (upd (fun _ => 0) (Int32.toNatClampNeg 0) (-1)))), (q1, .inl (cI, 16, .inl (fun _ => 0))), (q2, .inl (cI, 16, .inl (fun _ => 0))), (q3, .inl (cI, 16, .inl (fun _ => 0))), (q4, .inl (cI, 16, .inl (fun _ => 0))), (q5, .inl (cI, 16, .inl (fun _ => 0))), (q6, .inl (cI, 16, .inl (fun _ => 0))), (q7, .inl (cI, 16, .inl (fun _ => 0)))] H := hP
  have hD : va_D A [(h0, .inr (0, [.ref q0, .ref q1, .ref q2, .ref q3, .ref q4, .ref q5, .ref q6, .ref q7, .int 0, .int 0, .int 0])), (q0, .inl (cI, 16, .inl (upd (fun _ => 0) (Int32.toNatClampNeg 0) (-1)))), (q1, .inl (cI, 16, .inl (fun _ => 0))), (q2, .inl (cI, 16, .inl (fun _ => 0))), (q3, .inl (cI, 16, .inl (fun _ => 0))), (q4, .inl (cI, 16, .inl (fun _ => 0))), (q5, .inl (cI, 16, .inl (fun _ => 0))), (q6, .inl (cI, 16, .inl (fun _ => 0))), (q7, .inl (cI, 16, .inl (fun _ => 0)))] := hD
  refine lv_aload_n hx hb dX0_init_75 rfl (lv_at hl 0 rfl) ?_
  refine va_get (D := D) (ci := 0) (v := .ref q1) (C := RX0) (T := TX0) (N := 11) hx hb hts inX0 hown hK hP 0 rfl rfl 1 (by decide) (hts _ (mG wm_54)) (fun _ h9 => h9) rfl dX0_init_76 ?_
  refine lv_iconst (v := 0) hx hb dX0_init_79 (by decide) ?_
  refine lv_iconst (v := -1) hx hb dX0_init_80 (by decide) ?_
  refine va_iast hx hb hK hP hD hS 2 0 rfl rfl (by unfold vp_in; decide) dX0_init_81 (fun H locs hP hD hS => ?_)
  have hP : va_P D vwCl [(h0, .inr (0, [.ref q0, .ref q1, .ref q2, .ref q3, .ref q4, .ref q5, .ref q6, .ref q7, .int 0, .int 0, .int 0])), (q0, .inl (cI, 16, .inl (upd (fun _ => 0) (Int32.toNatClampNeg 0) (-1)))), (q1, .inl (cI, 16, .inl (upd (fun _ => 0) (Int32.toNatClampNeg 0) (-1)))), (q2, .inl (cI, 16, .inl (fun _ => 0))), (q3, .inl (cI, 16, .inl (fun _ => 0))), (q4, .inl (cI, 16, .inl (fun _ => 0))), (q5, .inl (cI, 16, .inl (fun _ => 0))), (q6, .inl (cI, 16, .inl (fun _ => 0))), (q7, .inl (cI, 16, .inl (fun _ => 0)))] H := hP
  have hD : va_D A [(h0, .inr (0, [.ref q0, .ref q1, .ref q2, .ref q3, .ref q4, .ref q5, .ref q6, .ref q7, .int 0, .int 0, .int 0])), (q0, .inl (cI, 16, .inl (upd (fun _ => 0) (Int32.toNatClampNeg 0) (-1)))), (q1, .inl (cI, 16, .inl (upd (fun _ => 0) (Int32.toNatClampNeg 0) (-1)))), (q2, .inl (cI, 16, .inl (fun _ => 0))), (q3, .inl (cI, 16, .inl (fun _ => 0))), (q4, .inl (cI, 16, .inl (fun _ => 0))), (q5, .inl (cI, 16, .inl (fun _ => 0))), (q6, .inl (cI, 16, .inl (fun _ => 0))), (q7, .inl (cI, 16, .inl (fun _ => 0)))] := hD
  refine lv_aload_n hx hb dX0_init_82 rfl (lv_at hl 0 rfl) ?_
  refine lv_iconst (v := 1) hx hb dX0_init_83 (by decide) ?_
  refine va_put (D := D) (ci := 0) (v := .int 1) (ty := .int) (C := RX0) (T := TX0) (N := 11) hx hb hts inX0 tyX0 tyX0_ok nmX0 hown hK hP hD hS 0 rfl rfl 8 (by decide) (hts _ (mG wm_61)) (fun _ h9 => h9) rfl (by decide +kernel) rfl rfl (Nat.le_of_ble_eq_true rfl) dX0_init_84 (fun H locs hP hD hS => ?_)
  have hP : va_P D vwCl [(h0, .inr (0, [.ref q0, .ref q1, .ref q2, .ref q3, .ref q4, .ref q5, .ref q6, .ref q7, .int 1, .int 0, .int 0])), (q0, .inl (cI, 16, .inl (upd (fun _ => 0) (Int32.toNatClampNeg 0) (-1)))), (q1, .inl (cI, 16, .inl (upd (fun _ => 0) (Int32.toNatClampNeg 0) (-1)))), (q2, .inl (cI, 16, .inl (fun _ => 0))), (q3, .inl (cI, 16, .inl (fun _ => 0))), (q4, .inl (cI, 16, .inl (fun _ => 0))), (q5, .inl (cI, 16, .inl (fun _ => 0))), (q6, .inl (cI, 16, .inl (fun _ => 0))), (q7, .inl (cI, 16, .inl (fun _ => 0)))] H := hP
  have hD : va_D A [(h0, .inr (0, [.ref q0, .ref q1, .ref q2, .ref q3, .ref q4, .ref q5, .ref q6, .ref q7, .int 1, .int 0, .int 0])), (q0, .inl (cI, 16, .inl (upd (fun _ => 0) (Int32.toNatClampNeg 0) (-1)))), (q1, .inl (cI, 16, .inl (upd (fun _ => 0) (Int32.toNatClampNeg 0) (-1)))), (q2, .inl (cI, 16, .inl (fun _ => 0))), (q3, .inl (cI, 16, .inl (fun _ => 0))), (q4, .inl (cI, 16, .inl (fun _ => 0))), (q5, .inl (cI, 16, .inl (fun _ => 0))), (q6, .inl (cI, 16, .inl (fun _ => 0))), (q7, .inl (cI, 16, .inl (fun _ => 0)))] := hD
  refine lv_aload_n hx hb dX0_init_87 rfl (lv_at hl 0 rfl) ?_
  refine lv_iconst (v := 0) hx hb dX0_init_88 (by decide) ?_
  refine va_put (D := D) (ci := 0) (v := .int 0) (ty := .int) (C := RX0) (T := TX0) (N := 11) hx hb hts inX0 tyX0 tyX0_ok nmX0 hown hK hP hD hS 0 rfl rfl 9 (by decide) (hts _ (mG wm_62)) (fun _ h9 => h9) rfl (by decide +kernel) rfl rfl (Nat.le_of_ble_eq_true rfl) dX0_init_89 (fun H locs hP hD hS => ?_)
  have hP : va_P D vwCl [(h0, .inr (0, [.ref q0, .ref q1, .ref q2, .ref q3, .ref q4, .ref q5, .ref q6, .ref q7, .int 1, .int 0, .int 0])), (q0, .inl (cI, 16, .inl (upd (fun _ => 0) (Int32.toNatClampNeg 0) (-1)))), (q1, .inl (cI, 16, .inl (upd (fun _ => 0) (Int32.toNatClampNeg 0) (-1)))), (q2, .inl (cI, 16, .inl (fun _ => 0))), (q3, .inl (cI, 16, .inl (fun _ => 0))), (q4, .inl (cI, 16, .inl (fun _ => 0))), (q5, .inl (cI, 16, .inl (fun _ => 0))), (q6, .inl (cI, 16, .inl (fun _ => 0))), (q7, .inl (cI, 16, .inl (fun _ => 0)))] H := hP
  have hD : va_D A [(h0, .inr (0, [.ref q0, .ref q1, .ref q2, .ref q3, .ref q4, .ref q5, .ref q6, .ref q7, .int 1, .int 0, .int 0])), (q0, .inl (cI, 16, .inl (upd (fun _ => 0) (Int32.toNatClampNeg 0) (-1)))), (q1, .inl (cI, 16, .inl (upd (fun _ => 0) (Int32.toNatClampNeg 0) (-1)))), (q2, .inl (cI, 16, .inl (fun _ => 0))), (q3, .inl (cI, 16, .inl (fun _ => 0))), (q4, .inl (cI, 16, .inl (fun _ => 0))), (q5, .inl (cI, 16, .inl (fun _ => 0))), (q6, .inl (cI, 16, .inl (fun _ => 0))), (q7, .inl (cI, 16, .inl (fun _ => 0)))] := hD
  refine lv_aload_n hx hb dX0_init_92 rfl (lv_at hl 0 rfl) ?_
  refine lv_iconst (v := 1) hx hb dX0_init_93 (by decide) ?_
  refine va_put (D := D) (ci := 0) (v := .int 1) (ty := .int) (C := RX0) (T := TX0) (N := 11) hx hb hts inX0 tyX0 tyX0_ok nmX0 hown hK hP hD hS 0 rfl rfl 10 (by decide) (hts _ (mG wm_63)) (fun _ h9 => h9) rfl (by decide +kernel) rfl rfl (Nat.le_of_ble_eq_true rfl) dX0_init_94 (fun H locs hP hD hS => ?_)
  have hP : va_P D vwCl [(h0, .inr (0, [.ref q0, .ref q1, .ref q2, .ref q3, .ref q4, .ref q5, .ref q6, .ref q7, .int 1, .int 0, .int 1])), (q0, .inl (cI, 16, .inl (upd (fun _ => 0) (Int32.toNatClampNeg 0) (-1)))), (q1, .inl (cI, 16, .inl (upd (fun _ => 0) (Int32.toNatClampNeg 0) (-1)))), (q2, .inl (cI, 16, .inl (fun _ => 0))), (q3, .inl (cI, 16, .inl (fun _ => 0))), (q4, .inl (cI, 16, .inl (fun _ => 0))), (q5, .inl (cI, 16, .inl (fun _ => 0))), (q6, .inl (cI, 16, .inl (fun _ => 0))), (q7, .inl (cI, 16, .inl (fun _ => 0)))] H := hP
  have hD : va_D A [(h0, .inr (0, [.ref q0, .ref q1, .ref q2, .ref q3, .ref q4, .ref q5, .ref q6, .ref q7, .int 1, .int 0, .int 1])), (q0, .inl (cI, 16, .inl (upd (fun _ => 0) (Int32.toNatClampNeg 0) (-1)))), (q1, .inl (cI, 16, .inl (upd (fun _ => 0) (Int32.toNatClampNeg 0) (-1)))), (q2, .inl (cI, 16, .inl (fun _ => 0))), (q3, .inl (cI, 16, .inl (fun _ => 0))), (q4, .inl (cI, 16, .inl (fun _ => 0))), (q5, .inl (cI, 16, .inl (fun _ => 0))), (q6, .inl (cI, 16, .inl (fun _ => 0))), (q7, .inl (cI, 16, .inl (fun _ => 0)))] := hD
  refine W.widen (k := 8) (n := 128) (by omega) (by omega) ?_
  exact W.vret hx hb hr (fun t ht hW => ⟨⟨(cI, 16, (fun k => [q0, q1, q2, q3, q4, q5, q6, q7].getD k 0), gb_ar0, gb_iv0), rfl, ⟨rfl, gb_ok_new⟩, by rw [ht]; exact hP, va_K.moved hW.alike hK, hD⟩, hS.F ht⟩) hS.2.2 dX0_init_97
end
section
-- ===== the reference: one object, five rows of 20000, three numbers (code, count, inputs) =====
abbrev mW (h1 : Nat) (cI cB cZ : ClassId) (ad : Nat → Nat) (ar : Nat → Nat → Int32) (iv : Nat → Int32) : va_W := [(h1, .inr (1, [.ref (ad 0), .ref (ad 1), .ref (ad 2), .ref (ad 3), .ref (ad 4), .int (iv 0), .int (iv 1), .int (iv 2)])), (ad 0, .inl (cB, 20000, .inl (ar 0))), (ad 1, .inl (cI, 20000, .inl (ar 1))), (ad 2, .inl (cI, 20000, .inl (ar 2))), (ad 3, .inl (cZ, 20000, .inl (ar 3))), (ad 4, .inl (cI, 20000, .inl (ar 4)))]
abbrev MS : Type := (Nat → Nat → Int32) × (Nat → Int32)
abbrev mm_at (D : va_G) (cI cB cZ : ClassId) (ad : Nat → Nat) (A : Nat → Prop) (h1 : Nat) (u : MS) (t : State) : Prop := va_P D vwCl (mW h1 cI cB cZ ad u.1 u.2) t.heap ∧ va_K D vwCl [(cI, .int), (cB, .byte), (cZ, .boolean)] t ∧ va_D A (mW h1 cI cB cZ ad u.1 u.2)
-- ===== what its questions answer, in the machine's numbers =====
def mi_lit (iv : Nat → Int32) (x : Int32) : Int32 := if x < 0 then 0 else if 2 * iv 1 ≤ x then 0 else 1
def mi_inp (ar : Nat → Nat → Int32) (iv : Nat → Int32) (x : Int32) : Int32 := if x < 0 then 0 else if iv 1 ≤ x then 0 else if ar 0 x.toNatClampNeg = 1 then 1 else 0
def mi_gate (ar : Nat → Nat → Int32) (x y : Int32) : Int32 := if ar 0 (gb_sh x).toNatClampNeg = 2 then (if gb_neg x = y then 1 else 0) else 0
def mi_has (ar : Nat → Nat → Int32) (x y : Int32) : Int32 := if ar 1 (gb_sh x).toNatClampNeg = y ∨ ar 2 (gb_sh x).toNatClampNeg = y then 1 else 0
def mi_bes (ar : Nat → Nat → Int32) (x y : Int32) : Int32 := if ar 1 (gb_sh x).toNatClampNeg = y then ar 2 (gb_sh x).toNatClampNeg else ar 1 (gb_sh x).toNatClampNeg
def mi_is (ar : Nat → Nat → Int32) (x : Int32) : Int32 := if ar 3 (gb_sh x).toNatClampNeg = gb_neg x then 0 else 1
def mi_rule (ar : Nat → Nat → Int32) (k : Nat) (a b : Int32) : Int32 := match k with
  | 0 => if a = 0 then 0 else -1
  | 1 => if a = 1 then b else -1
  | 2 => if a = b then a else -1
  | 3 => if a = b ^^^ 1 then 0 else -1
  | 4 => if ¬ mi_gate ar a 0 = 0 ∧ ¬ mi_has ar a b = 0 then a else -1
  | 5 => if ¬ mi_gate ar a 0 = 0 ∧ ¬ mi_has ar a (b ^^^ 1) = 0 then 0 else -1
  | 6 => if ¬ mi_gate ar a 1 = 0 ∧ ¬ mi_has ar a (b ^^^ 1) = 0 then b else -1
  | _ => if ¬ mi_gate ar a 0 = 0 ∧ ¬ mi_gate ar b 0 = 0 ∧ (¬ mi_has ar a (ar 1 (gb_sh b).toNatClampNeg ^^^ 1) = 0 ∨ ¬ mi_has ar a (ar 2 (gb_sh b).toNatClampNeg ^^^ 1) = 0) then 0 else -1
def mi_add (ar : Nat → Nat → Int32) (nc : Nat) (k a b : Int32) : Nat → Nat → Int32 := va_up (va_up (va_up (va_up ar 0 (upd (ar 0) nc k)) 1 (upd (ar 1) nc a)) 2 (upd (ar 2) nc b)) 3 (upd (ar 3) nc (vp_nar .boolean 0))
theorem mi_in {iv : Nat → Int32} {nc : Nat} {x : Int32} (hnc : iv 1 = nI nc) (hmx : nc ≤ 20000) (h1 : ¬ x < 0) (h2 : ¬ iv 1 ≤ x) : vp_in x 20000 := by
  obtain ⟨j, hj, rfl⟩ := nI_of h1
  rw [hnc] at h2
  have : j < nc := Nat.not_le.mp fun z => h2 (nI_le z hj)
  exact vp_in_nI (by omega) (by omega)
end
section
set_option maxHeartbeats 4000000 in
set_option maxRecDepth 100000 in
/-- the reference: thrown -/
theorem m_thrown (l : Launch) (D : va_G) (h1 : Nat) (cI cB cZ : ClassId) (ad : Nat → Nat) (ar : Nat → Nat → Int32) (iv : Nat → Int32)   : Met l yX1_thrown wsX1_thrown ({ frames := 0, cells := 0, slots := 0, locals := 0 }) (rP D (mW h1 cI cB cZ ad ar iv) [(cI, .int), (cB, .byte), (cZ, .boolean)] [.ref h1]) (vp_Si (fun r => r = iv 0)) 0 0 (fun _ => False) := by
  refine Met.ofW (cc := cX1_thrown) (maxL := 1) (ret := (some .int)) (by decide) rfl ?_
  intro p e s m args below meth c s₁ B hml hv
  obtain ⟨rfl, hP, hK⟩ := hv
  have hx := B.exec
  have hb := B.bytes
  have hr := B.returns
  have hts := atoms_spec (ws := wsX1_thrown) B.pre
  have hown : s.vm.findClass RX1 = some m.cls := findClass_of_methodNamed B.named
  have hlocks := B.notSynchronized
  have hl := lv_entry ([.ref h1]) (n := 1) (Nat.le_of_ble_eq_true rfl)
  rw [lg_entry_eq]
  generalize (lg_sl ([.ref h1]) ++ List.replicate (1 - (lg_sl ([.ref h1])).length) Slot.unset).toArray = ls at hl ⊢
  have hl : lv_has ls 1 [(0, .ref h1)] := hl
  refine lv_aload_n hx hb dX1_thrown_0 rfl (lv_at hl 0 rfl) ?_
  refine va_get (D := D) (ci := 1) (v := .int (iv 0)) (C := RX1) (T := TX1) (N := 8) hx hb hts inX1 hown hK hP 0 rfl rfl 5 (by decide) (hts _ (mG wm_368)) (fun _ h9 => h9) rfl dX1_thrown_1 ?_
  exact W.iret (v := (iv 0)) hx hb hr (fun t ht hW => ⟨(iv 0), rfl, rfl, ht⟩) (fun _ h => nomatch h) dX1_thrown_4
set_option maxHeartbeats 4000000 in
set_option maxRecDepth 100000 in
/-- the reference: isLiteral -/
theorem m_isLiteral (l : Launch) (D : va_G) (h1 : Nat) (cI cB cZ : ClassId) (ad : Nat → Nat) (ar : Nat → Nat → Int32) (iv : Nat → Int32) (x : Int32)  : Met l yX1_isLiteral wsX1_isLiteral ({ frames := 0, cells := 0, slots := 0, locals := 0 }) (rP D (mW h1 cI cB cZ ad ar iv) [(cI, .int), (cB, .byte), (cZ, .boolean)] [.ref h1, .int x]) (vp_Si (fun r => r = mi_lit iv x)) 0 0 (fun _ => False) := by
  refine Met.ofW (cc := cX1_isLiteral) (maxL := 2) (ret := (some .boolean)) (by decide) rfl ?_
  intro p e s m args below meth c s₁ B hml hv
  obtain ⟨rfl, hP, hK⟩ := hv
  have hx := B.exec
  have hb := B.bytes
  have hr := B.returns
  have hts := atoms_spec (ws := wsX1_isLiteral) B.pre
  have hown : s.vm.findClass RX1 = some m.cls := findClass_of_methodNamed B.named
  have hlocks := B.notSynchronized
  have hl := lv_entry ([.ref h1, .int x]) (n := 2) (Nat.le_of_ble_eq_true rfl)
  rw [lg_entry_eq]
  generalize (lg_sl ([.ref h1, .int x]) ++ List.replicate (2 - (lg_sl ([.ref h1, .int x])).length) Slot.unset).toArray = ls at hl ⊢
  have hl : lv_has ls 2 [(0, .ref h1), (1, .int x)] := hl
  refine lv_iload_n hx hb dX1_isLiteral_0 rfl (lv_at hl 1 rfl) ?_
  refine lv_if_lt (tgt := 18) hx hb dX1_isLiteral_1 (by decide) (fun c1 => ?_) (fun c1 => ?_)
  · refine lv_iconst (v := 0) hx hb dX1_isLiteral_18 (by decide) ?_
    exact W.zret (v := 0) hx hb hr (by decide) (fun t ht hW => ⟨0, rfl, (by simp [mi_lit, c1]), ht⟩) (fun _ h => nomatch h) dX1_isLiteral_19
  · refine lv_iload_n hx hb dX1_isLiteral_4 rfl (lv_at hl 1 rfl) ?_
    refine lv_iconst (v := 2) hx hb dX1_isLiteral_5 (by decide) ?_
    refine lv_aload_n hx hb dX1_isLiteral_6 rfl (lv_at hl 0 rfl) ?_
    refine va_get (D := D) (ci := 1) (v := .int (iv 1)) (C := RX1) (T := TX1) (N := 8) hx hb hts inX1 hown hK hP 0 rfl rfl 6 (by decide) (hts _ (mG wm_369)) (fun _ h9 => h9) rfl dX1_isLiteral_7 ?_
    refine lv_imul hx hb dX1_isLiteral_10 ?_
    refine lv_topi (fun v10 e10 => ?_)
    refine lv_icmp_ge (tgt := 18) hx hb dX1_isLiteral_11 (by decide) (fun c11 => ?_) (fun c11 => ?_)
    · refine lv_iconst (v := 0) hx hb dX1_isLiteral_18 (by decide) ?_
      exact W.zret (v := 0) hx hb hr (by decide) (fun t ht hW => ⟨0, rfl, (by subst e10; simp [mi_lit, c1, c11]), ht⟩) (fun _ h => nomatch h) dX1_isLiteral_19
    · refine lv_iconst (v := 1) hx hb dX1_isLiteral_14 (by decide) ?_
      refine lv_goto (tgt := 19) hx hb dX1_isLiteral_15 (by decide) ?_
      exact W.zret (v := 1) hx hb hr (by decide) (fun t ht hW => ⟨1, rfl, (by subst e10; simp [mi_lit, c1, c11]), ht⟩) (fun _ h => nomatch h) dX1_isLiteral_19
set_option maxHeartbeats 4000000 in
set_option maxRecDepth 100000 in
/-- the reference: isInput -/
theorem m_isInput (l : Launch) (D : va_G) (h1 : Nat) (cI cB cZ : ClassId) (ad : Nat → Nat) (ar : Nat → Nat → Int32) (iv : Nat → Int32) (x : Int32) (nc : Nat) (hnc : iv 1 = nI nc) (hmx : nc ≤ 20000) : Met l yX1_isInput wsX1_isInput ({ frames := 0, cells := 0, slots := 0, locals := 0 }) (rP D (mW h1 cI cB cZ ad ar iv) [(cI, .int), (cB, .byte), (cZ, .boolean)] [.ref h1, .int x]) (vp_Si (fun r => r = mi_inp ar iv x)) 0 0 (fun _ => False) := by
  refine Met.ofW (cc := cX1_isInput) (maxL := 2) (ret := (some .boolean)) (by decide) rfl ?_
  intro p e s m args below meth c s₁ B hml hv
  obtain ⟨rfl, hP, hK⟩ := hv
  have hx := B.exec
  have hb := B.bytes
  have hr := B.returns
  have hts := atoms_spec (ws := wsX1_isInput) B.pre
  have hown : s.vm.findClass RX1 = some m.cls := findClass_of_methodNamed B.named
  have hlocks := B.notSynchronized
  have hl := lv_entry ([.ref h1, .int x]) (n := 2) (Nat.le_of_ble_eq_true rfl)
  rw [lg_entry_eq]
  generalize (lg_sl ([.ref h1, .int x]) ++ List.replicate (2 - (lg_sl ([.ref h1, .int x])).length) Slot.unset).toArray = ls at hl ⊢
  have hl : lv_has ls 2 [(0, .ref h1), (1, .int x)] := hl
  refine lv_iload_n hx hb dX1_isInput_0 rfl (lv_at hl 1 rfl) ?_
  refine lv_if_lt (tgt := 26) hx hb dX1_isInput_1 (by decide) (fun c1 => ?_) (fun c1 => ?_)
  · refine lv_iconst (v := 0) hx hb dX1_isInput_26 (by decide) ?_
    exact W.zret (v := 0) hx hb hr (by decide) (fun t ht hW => ⟨0, rfl, (by simp [mi_inp, c1]), ht⟩) (fun _ h => nomatch h) dX1_isInput_27
  · refine lv_iload_n hx hb dX1_isInput_4 rfl (lv_at hl 1 rfl) ?_
    refine lv_aload_n hx hb dX1_isInput_5 rfl (lv_at hl 0 rfl) ?_
    refine va_get (D := D) (ci := 1) (v := .int (iv 1)) (C := RX1) (T := TX1) (N := 8) hx hb hts inX1 hown hK hP 0 rfl rfl 6 (by decide) (hts _ (mG wm_369)) (fun _ h9 => h9) rfl dX1_isInput_6 ?_
    refine lv_icmp_ge (tgt := 26) hx hb dX1_isInput_9 (by decide) (fun c9 => ?_) (fun c9 => ?_)
    · refine lv_iconst (v := 0) hx hb dX1_isInput_26 (by decide) ?_
      exact W.zret (v := 0) hx hb hr (by decide) (fun t ht hW => ⟨0, rfl, (by simp [mi_inp, c1, c9]), ht⟩) (fun _ h => nomatch h) dX1_isInput_27
    · have hi17 : vp_in x 20000 := mi_in hnc hmx c1 c9
      refine lv_aload_n hx hb dX1_isInput_12 rfl (lv_at hl 0 rfl) ?_
      refine va_get (D := D) (ci := 1) (v := .ref (ad 0)) (C := RX1) (T := TX1) (N := 8) hx hb hts inX1 hown hK hP 0 rfl rfl 0 (by decide) (hts _ (mG wm_371)) (fun _ h9 => h9) rfl dX1_isInput_13 ?_
      refine lv_iload_n hx hb dX1_isInput_16 rfl (lv_at hl 1 rfl) ?_
      refine va_bald hx hb hK hP 1 1 rfl rfl hi17 dX1_isInput_17 ?_
      refine lv_topi (fun v17 e17 => ?_)
      refine lv_iconst (v := 1) hx hb dX1_isInput_18 (by decide) ?_
      refine lv_icmp_ne (tgt := 26) hx hb dX1_isInput_19 (by decide) (fun c19 => ?_) (fun c19 => ?_)
      · refine lv_iconst (v := 0) hx hb dX1_isInput_26 (by decide) ?_
        exact W.zret (v := 0) hx hb hr (by decide) (fun t ht hW => ⟨0, rfl, (by subst e17; simp [mi_inp, c1, c9, c19]), ht⟩) (fun _ h => nomatch h) dX1_isInput_27
      · refine lv_iconst (v := 1) hx hb dX1_isInput_22 (by decide) ?_
        refine lv_goto (tgt := 27) hx hb dX1_isInput_23 (by decide) ?_
        exact W.zret (v := 1) hx hb hr (by decide) (fun t ht hW => ⟨1, rfl, (by subst e17; simp [mi_inp, c1, c9, c19]), ht⟩) (fun _ h => nomatch h) dX1_isInput_27
set_option maxHeartbeats 4000000 in
set_option maxRecDepth 100000 in
/-- the reference: isGate -/
theorem m_isGate (l : Launch) (D : va_G) (h1 : Nat) (cI cB cZ : ClassId) (ad : Nat → Nat) (ar : Nat → Nat → Int32) (iv : Nat → Int32) (x : Int32) (y : Int32) (h2 : vp_in (gb_sh x) 20000) : Met l yX1_isGate wsX1_isGate ({ frames := 0, cells := 0, slots := 0, locals := 0 }) (rP D (mW h1 cI cB cZ ad ar iv) [(cI, .int), (cB, .byte), (cZ, .boolean)] [.ref h1, .int x, .int y]) (vp_Si (fun r => r = mi_gate ar x y)) 0 0 (fun _ => False) := by
  refine Met.ofW (cc := cX1_isGate) (maxL := 3) (ret := (some .boolean)) (by decide) rfl ?_
  intro p e s m args below meth c s₁ B hml hv
  obtain ⟨rfl, hP, hK⟩ := hv
  have hx := B.exec
  have hb := B.bytes
  have hr := B.returns
  have hts := atoms_spec (ws := wsX1_isGate) B.pre
  have hown : s.vm.findClass RX1 = some m.cls := findClass_of_methodNamed B.named
  have hlocks := B.notSynchronized
  have hl := lv_entry ([.ref h1, .int x, .int y]) (n := 3) (Nat.le_of_ble_eq_true rfl)
  rw [lg_entry_eq]
  generalize (lg_sl ([.ref h1, .int x, .int y]) ++ List.replicate (3 - (lg_sl ([.ref h1, .int x, .int y])).length) Slot.unset).toArray = ls at hl ⊢
  have hl : lv_has ls 3 [(0, .ref h1), (1, .int x), (2, .int y)] := hl
  refine lv_aload_n hx hb dX1_isGate_0 rfl (lv_at hl 0 rfl) ?_
  refine va_get (D := D) (ci := 1) (v := .ref (ad 0)) (C := RX1) (T := TX1) (N := 8) hx hb hts inX1 hown hK hP 0 rfl rfl 0 (by decide) (hts _ (mG wm_371)) (fun _ h9 => h9) rfl dX1_isGate_1 ?_
  refine lv_iload_n hx hb dX1_isGate_4 rfl (lv_at hl 1 rfl) ?_
  refine lv_iconst (v := 1) hx hb dX1_isGate_5 (by decide) ?_
  refine lv_ishr hx hb dX1_isGate_6 ?_
  refine lv_topi (fun v6 e6 => ?_)
  have e6 : v6 = gb_sh x := e6
  have hi7 : vp_in v6 20000 := by rw [e6]; exact h2
  refine va_bald hx hb hK hP 1 1 rfl rfl hi7 dX1_isGate_7 ?_
  refine lv_topi (fun v7 e7 => ?_)
  refine lv_iconst (v := 2) hx hb dX1_isGate_8 (by decide) ?_
  refine lv_icmp_ne (tgt := 32) hx hb dX1_isGate_9 (by decide) (fun c9 => ?_) (fun c9 => ?_)
  · refine lv_iconst (v := 0) hx hb dX1_isGate_32 (by decide) ?_
    exact W.zret (v := 0) hx hb hr (by decide) (fun t ht hW => ⟨0, rfl, (by subst e6 e7; rw [mi_gate]; first | rw [if_neg c9] | (rw [if_pos c9, gb_neg]; first | rw [if_pos c16, if_pos c25] | rw [if_pos c16, if_neg c25] | rw [if_neg c16, if_pos c25] | rw [if_neg c16, if_neg c25])), ht⟩) (fun _ h => nomatch h) dX1_isGate_33
  · refine lv_iload_n hx hb dX1_isGate_12 rfl (lv_at hl 1 rfl) ?_
    refine lv_iconst (v := 1) hx hb dX1_isGate_13 (by decide) ?_
    refine lv_iand hx hb dX1_isGate_14 ?_
    refine lv_topi (fun v14 e14 => ?_)
    refine lv_iconst (v := 1) hx hb dX1_isGate_15 (by decide) ?_
    refine lv_icmp_ne (tgt := 23) hx hb dX1_isGate_16 (by decide) (fun c16 => ?_) (fun c16 => ?_)
    · refine lv_iconst (v := 0) hx hb dX1_isGate_23 (by decide) ?_
      refine lv_iload_n hx hb dX1_isGate_24 rfl (lv_at hl 2 rfl) ?_
      refine lv_icmp_ne (tgt := 32) hx hb dX1_isGate_25 (by decide) (fun c25 => ?_) (fun c25 => ?_)
      · refine lv_iconst (v := 0) hx hb dX1_isGate_32 (by decide) ?_
        exact W.zret (v := 0) hx hb hr (by decide) (fun t ht hW => ⟨0, rfl, (by subst e6 e7 e14; rw [mi_gate]; first | rw [if_neg c9] | (rw [if_pos c9, gb_neg]; first | rw [if_pos c16, if_pos c25] | rw [if_pos c16, if_neg c25] | rw [if_neg c16, if_pos c25] | rw [if_neg c16, if_neg c25])), ht⟩) (fun _ h => nomatch h) dX1_isGate_33
      · refine lv_iconst (v := 1) hx hb dX1_isGate_28 (by decide) ?_
        refine lv_goto (tgt := 33) hx hb dX1_isGate_29 (by decide) ?_
        exact W.zret (v := 1) hx hb hr (by decide) (fun t ht hW => ⟨1, rfl, (by subst e6 e7 e14; rw [mi_gate]; first | rw [if_neg c9] | (rw [if_pos c9, gb_neg]; first | rw [if_pos c16, if_pos c25] | rw [if_pos c16, if_neg c25] | rw [if_neg c16, if_pos c25] | rw [if_neg c16, if_neg c25])), ht⟩) (fun _ h => nomatch h) dX1_isGate_33
    · refine lv_iconst (v := 1) hx hb dX1_isGate_19 (by decide) ?_
      refine lv_goto (tgt := 24) hx hb dX1_isGate_20 (by decide) ?_
      refine lv_iload_n hx hb dX1_isGate_24 rfl (lv_at hl 2 rfl) ?_
      refine lv_icmp_ne (tgt := 32) hx hb dX1_isGate_25 (by decide) (fun c25 => ?_) (fun c25 => ?_)
      · refine lv_iconst (v := 0) hx hb dX1_isGate_32 (by decide) ?_
        exact W.zret (v := 0) hx hb hr (by decide) (fun t ht hW => ⟨0, rfl, (by subst e6 e7 e14; rw [mi_gate]; first | rw [if_neg c9] | (rw [if_pos c9, gb_neg]; first | rw [if_pos c16, if_pos c25] | rw [if_pos c16, if_neg c25] | rw [if_neg c16, if_pos c25] | rw [if_neg c16, if_neg c25])), ht⟩) (fun _ h => nomatch h) dX1_isGate_33
      · refine lv_iconst (v := 1) hx hb dX1_isGate_28 (by decide) ?_
        refine lv_goto (tgt := 33) hx hb dX1_isGate_29 (by decide) ?_
        exact W.zret (v := 1) hx hb hr (by decide) (fun t ht hW => ⟨1, rfl, (by subst e6 e7 e14; rw [mi_gate]; first | rw [if_neg c9] | (rw [if_pos c9, gb_neg]; first | rw [if_pos c16, if_pos c25] | rw [if_pos c16, if_neg c25] | rw [if_neg c16, if_pos c25] | rw [if_neg c16, if_neg c25])), ht⟩) (fun _ h => nomatch h) dX1_isGate_33
set_option maxHeartbeats 4000000 in
set_option maxRecDepth 100000 in
/-- the reference: has -/
theorem m_has (l : Launch) (D : va_G) (h1 : Nat) (cI cB cZ : ClassId) (ad : Nat → Nat) (ar : Nat → Nat → Int32) (iv : Nat → Int32) (x : Int32) (y : Int32) (h2 : vp_in (gb_sh x) 20000) : Met l yX1_has wsX1_has ({ frames := 0, cells := 0, slots := 0, locals := 0 }) (rP D (mW h1 cI cB cZ ad ar iv) [(cI, .int), (cB, .byte), (cZ, .boolean)] [.ref h1, .int x, .int y]) (vp_Si (fun r => r = mi_has ar x y)) 0 0 (fun _ => False) := by
  refine Met.ofW (cc := cX1_has) (maxL := 3) (ret := (some .boolean)) (by decide) rfl ?_
  intro p e s m args below meth c s₁ B hml hv
  obtain ⟨rfl, hP, hK⟩ := hv
  have hx := B.exec
  have hb := B.bytes
  have hr := B.returns
  have hts := atoms_spec (ws := wsX1_has) B.pre
  have hown : s.vm.findClass RX1 = some m.cls := findClass_of_methodNamed B.named
  have hlocks := B.notSynchronized
  have hl := lv_entry ([.ref h1, .int x, .int y]) (n := 3) (Nat.le_of_ble_eq_true rfl)
  rw [lg_entry_eq]
  generalize (lg_sl ([.ref h1, .int x, .int y]) ++ List.replicate (3 - (lg_sl ([.ref h1, .int x, .int y])).length) Slot.unset).toArray = ls at hl ⊢
  have hl : lv_has ls 3 [(0, .ref h1), (1, .int x), (2, .int y)] := hl
  refine lv_aload_n hx hb dX1_has_0 rfl (lv_at hl 0 rfl) ?_
  refine va_get (D := D) (ci := 1) (v := .ref (ad 1)) (C := RX1) (T := TX1) (N := 8) hx hb hts inX1 hown hK hP 0 rfl rfl 1 (by decide) (hts _ (mG wm_372)) (fun _ h9 => h9) rfl dX1_has_1 ?_
  refine lv_iload_n hx hb dX1_has_4 rfl (lv_at hl 1 rfl) ?_
  refine lv_iconst (v := 1) hx hb dX1_has_5 (by decide) ?_
  refine lv_ishr hx hb dX1_has_6 ?_
  refine lv_topi (fun v6 e6 => ?_)
  have e6 : v6 = gb_sh x := e6
  have hi7 : vp_in v6 20000 := by rw [e6]; exact h2
  refine va_iald hx hb hK hP 2 0 rfl rfl hi7 dX1_has_7 ?_
  refine lv_topi (fun v7 e7 => ?_)
  refine lv_iload_n hx hb dX1_has_8 rfl (lv_at hl 2 rfl) ?_
  refine lv_icmp_eq (tgt := 24) hx hb dX1_has_9 (by decide) (fun c9 => ?_) (fun c9 => ?_)
  · refine lv_iconst (v := 1) hx hb dX1_has_24 (by decide) ?_
    refine lv_goto (tgt := 29) hx hb dX1_has_25 (by decide) ?_
    exact W.zret (v := 1) hx hb hr (by decide) (fun t ht hW => ⟨1, rfl, (by subst e6 e7; simp [mi_has, c9]), ht⟩) (fun _ h => nomatch h) dX1_has_29
  · refine lv_aload_n hx hb dX1_has_12 rfl (lv_at hl 0 rfl) ?_
    refine va_get (D := D) (ci := 1) (v := .ref (ad 2)) (C := RX1) (T := TX1) (N := 8) hx hb hts inX1 hown hK hP 0 rfl rfl 2 (by decide) (hts _ (mG wm_373)) (fun _ h9 => h9) rfl dX1_has_13 ?_
    refine lv_iload_n hx hb dX1_has_16 rfl (lv_at hl 1 rfl) ?_
    refine lv_iconst (v := 1) hx hb dX1_has_17 (by decide) ?_
    refine lv_ishr hx hb dX1_has_18 ?_
    refine lv_topi (fun v18 e18 => ?_)
    have e18 : v18 = gb_sh x := e18
    have hi19 : vp_in v18 20000 := by rw [e18]; exact h2
    refine va_iald hx hb hK hP 3 0 rfl rfl hi19 dX1_has_19 ?_
    refine lv_topi (fun v19 e19 => ?_)
    refine lv_iload_n hx hb dX1_has_20 rfl (lv_at hl 2 rfl) ?_
    refine lv_icmp_ne (tgt := 28) hx hb dX1_has_21 (by decide) (fun c21 => ?_) (fun c21 => ?_)
    · refine lv_iconst (v := 0) hx hb dX1_has_28 (by decide) ?_
      exact W.zret (v := 0) hx hb hr (by decide) (fun t ht hW => ⟨0, rfl, (by subst e6 e7 e18 e19; simp [mi_has, c9, c21]), ht⟩) (fun _ h => nomatch h) dX1_has_29
    · refine lv_iconst (v := 1) hx hb dX1_has_24 (by decide) ?_
      refine lv_goto (tgt := 29) hx hb dX1_has_25 (by decide) ?_
      exact W.zret (v := 1) hx hb hr (by decide) (fun t ht hW => ⟨1, rfl, (by subst e6 e7 e18 e19; simp [mi_has, c9, c21]), ht⟩) (fun _ h => nomatch h) dX1_has_29
set_option maxHeartbeats 4000000 in
set_option maxRecDepth 100000 in
/-- the reference: beside -/
theorem m_beside (l : Launch) (D : va_G) (h1 : Nat) (cI cB cZ : ClassId) (ad : Nat → Nat) (ar : Nat → Nat → Int32) (iv : Nat → Int32) (x : Int32) (y : Int32) (h2 : vp_in (gb_sh x) 20000) : Met l yX1_beside wsX1_beside ({ frames := 0, cells := 0, slots := 0, locals := 0 }) (rP D (mW h1 cI cB cZ ad ar iv) [(cI, .int), (cB, .byte), (cZ, .boolean)] [.ref h1, .int x, .int y]) (vp_Si (fun r => r = mi_bes ar x y)) 0 0 (fun _ => False) := by
  refine Met.ofW (cc := cX1_beside) (maxL := 3) (ret := (some .int)) (by decide) rfl ?_
  intro p e s m args below meth c s₁ B hml hv
  obtain ⟨rfl, hP, hK⟩ := hv
  have hx := B.exec
  have hb := B.bytes
  have hr := B.returns
  have hts := atoms_spec (ws := wsX1_beside) B.pre
  have hown : s.vm.findClass RX1 = some m.cls := findClass_of_methodNamed B.named
  have hlocks := B.notSynchronized
  have hl := lv_entry ([.ref h1, .int x, .int y]) (n := 3) (Nat.le_of_ble_eq_true rfl)
  rw [lg_entry_eq]
  generalize (lg_sl ([.ref h1, .int x, .int y]) ++ List.replicate (3 - (lg_sl ([.ref h1, .int x, .int y])).length) Slot.unset).toArray = ls at hl ⊢
  have hl : lv_has ls 3 [(0, .ref h1), (1, .int x), (2, .int y)] := hl
  refine lv_aload_n hx hb dX1_beside_0 rfl (lv_at hl 0 rfl) ?_
  refine va_get (D := D) (ci := 1) (v := .ref (ad 1)) (C := RX1) (T := TX1) (N := 8) hx hb hts inX1 hown hK hP 0 rfl rfl 1 (by decide) (hts _ (mG wm_372)) (fun _ h9 => h9) rfl dX1_beside_1 ?_
  refine lv_iload_n hx hb dX1_beside_4 rfl (lv_at hl 1 rfl) ?_
  refine lv_iconst (v := 1) hx hb dX1_beside_5 (by decide) ?_
  refine lv_ishr hx hb dX1_beside_6 ?_
  refine lv_topi (fun v6 e6 => ?_)
  have e6 : v6 = gb_sh x := e6
  have hi7 : vp_in v6 20000 := by rw [e6]; exact h2
  refine va_iald hx hb hK hP 2 0 rfl rfl hi7 dX1_beside_7 ?_
  refine lv_topi (fun v7 e7 => ?_)
  refine lv_iload_n hx hb dX1_beside_8 rfl (lv_at hl 2 rfl) ?_
  refine lv_icmp_ne (tgt := 23) hx hb dX1_beside_9 (by decide) (fun c9 => ?_) (fun c9 => ?_)
  · refine lv_aload_n hx hb dX1_beside_23 rfl (lv_at hl 0 rfl) ?_
    refine va_get (D := D) (ci := 1) (v := .ref (ad 1)) (C := RX1) (T := TX1) (N := 8) hx hb hts inX1 hown hK hP 0 rfl rfl 1 (by decide) (hts _ (mG wm_372)) (fun _ h9 => h9) rfl dX1_beside_24 ?_
    refine lv_iload_n hx hb dX1_beside_27 rfl (lv_at hl 1 rfl) ?_
    refine lv_iconst (v := 1) hx hb dX1_beside_28 (by decide) ?_
    refine lv_ishr hx hb dX1_beside_29 ?_
    refine lv_topi (fun v29 e29 => ?_)
    have e29 : v29 = gb_sh x := e29
    have hi30 : vp_in v29 20000 := by rw [e29]; exact h2
    refine va_iald hx hb hK hP 2 0 rfl rfl hi30 dX1_beside_30 ?_
    refine lv_topi (fun v30 e30 => ?_)
    exact W.iret (v := v30) hx hb hr (fun t ht hW => ⟨v30, rfl, (by subst e6 e7 e29 e30; simp [mi_bes, c9]), ht⟩) (fun _ h => nomatch h) dX1_beside_31
  · refine lv_aload_n hx hb dX1_beside_12 rfl (lv_at hl 0 rfl) ?_
    refine va_get (D := D) (ci := 1) (v := .ref (ad 2)) (C := RX1) (T := TX1) (N := 8) hx hb hts inX1 hown hK hP 0 rfl rfl 2 (by decide) (hts _ (mG wm_373)) (fun _ h9 => h9) rfl dX1_beside_13 ?_
    refine lv_iload_n hx hb dX1_beside_16 rfl (lv_at hl 1 rfl) ?_
    refine lv_iconst (v := 1) hx hb dX1_beside_17 (by decide) ?_
    refine lv_ishr hx hb dX1_beside_18 ?_
    refine lv_topi (fun v18 e18 => ?_)
    have e18 : v18 = gb_sh x := e18
    have hi19 : vp_in v18 20000 := by rw [e18]; exact h2
    refine va_iald hx hb hK hP 3 0 rfl rfl hi19 dX1_beside_19 ?_
    refine lv_topi (fun v19 e19 => ?_)
    refine lv_goto (tgt := 31) hx hb dX1_beside_20 (by decide) ?_
    exact W.iret (v := v19) hx hb hr (fun t ht hW => ⟨v19, rfl, (by subst e6 e7 e18 e19; simp [mi_bes, c9]), ht⟩) (fun _ h => nomatch h) dX1_beside_31
set_option maxHeartbeats 4000000 in
set_option maxRecDepth 100000 in
/-- the reference: is -/
theorem m_is (l : Launch) (D : va_G) (h1 : Nat) (cI cB cZ : ClassId) (ad : Nat → Nat) (ar : Nat → Nat → Int32) (iv : Nat → Int32) (x : Int32) (h2 : vp_in (gb_sh x) 20000) : Met l yX1_is wsX1_is ({ frames := 0, cells := 0, slots := 0, locals := 0 }) (rP D (mW h1 cI cB cZ ad ar iv) [(cI, .int), (cB, .byte), (cZ, .boolean)] [.ref h1, .int x]) (vp_Si (fun r => r = mi_is ar x)) 0 0 (fun _ => False) := by
  refine Met.ofW (cc := cX1_is) (maxL := 2) (ret := (some .boolean)) (by decide) rfl ?_
  intro p e s m args below meth c s₁ B hml hv
  obtain ⟨rfl, hP, hK⟩ := hv
  have hx := B.exec
  have hb := B.bytes
  have hr := B.returns
  have hts := atoms_spec (ws := wsX1_is) B.pre
  have hown : s.vm.findClass RX1 = some m.cls := findClass_of_methodNamed B.named
  have hlocks := B.notSynchronized
  have hl := lv_entry ([.ref h1, .int x]) (n := 2) (Nat.le_of_ble_eq_true rfl)
  rw [lg_entry_eq]
  generalize (lg_sl ([.ref h1, .int x]) ++ List.replicate (2 - (lg_sl ([.ref h1, .int x])).length) Slot.unset).toArray = ls at hl ⊢
  have hl : lv_has ls 2 [(0, .ref h1), (1, .int x)] := hl
  refine lv_aload_n hx hb dX1_is_0 rfl (lv_at hl 0 rfl) ?_
  refine va_get (D := D) (ci := 1) (v := .ref (ad 3)) (C := RX1) (T := TX1) (N := 8) hx hb hts inX1 hown hK hP 0 rfl rfl 3 (by decide) (hts _ (mG wm_374)) (fun _ h9 => h9) rfl dX1_is_1 ?_
  refine lv_iload_n hx hb dX1_is_4 rfl (lv_at hl 1 rfl) ?_
  refine lv_iconst (v := 1) hx hb dX1_is_5 (by decide) ?_
  refine lv_ishr hx hb dX1_is_6 ?_
  refine lv_topi (fun v6 e6 => ?_)
  have e6 : v6 = gb_sh x := e6
  have hi7 : vp_in v6 20000 := by rw [e6]; exact h2
  refine va_zald hx hb hK hP 4 2 rfl rfl hi7 dX1_is_7 ?_
  refine lv_topi (fun v7 e7 => ?_)
  refine lv_iload_n hx hb dX1_is_8 rfl (lv_at hl 1 rfl) ?_
  refine lv_iconst (v := 1) hx hb dX1_is_9 (by decide) ?_
  refine lv_iand hx hb dX1_is_10 ?_
  refine lv_topi (fun v10 e10 => ?_)
  refine lv_iconst (v := 1) hx hb dX1_is_11 (by decide) ?_
  refine lv_icmp_ne (tgt := 19) hx hb dX1_is_12 (by decide) (fun c12 => ?_) (fun c12 => ?_)
  · refine lv_iconst (v := 0) hx hb dX1_is_19 (by decide) ?_
    refine lv_icmp_eq (tgt := 27) hx hb dX1_is_20 (by decide) (fun c20 => ?_) (fun c20 => ?_)
    · refine lv_iconst (v := 0) hx hb dX1_is_27 (by decide) ?_
      exact W.zret (v := 0) hx hb hr (by decide) (fun t ht hW => ⟨0, rfl, (by subst e6 e7 e10; simp [mi_is, gb_neg, c12, c20]), ht⟩) (fun _ h => nomatch h) dX1_is_28
    · refine lv_iconst (v := 1) hx hb dX1_is_23 (by decide) ?_
      refine lv_goto (tgt := 28) hx hb dX1_is_24 (by decide) ?_
      exact W.zret (v := 1) hx hb hr (by decide) (fun t ht hW => ⟨1, rfl, (by subst e6 e7 e10; simp [mi_is, gb_neg, c12, c20]), ht⟩) (fun _ h => nomatch h) dX1_is_28
  · refine lv_iconst (v := 1) hx hb dX1_is_15 (by decide) ?_
    refine lv_goto (tgt := 20) hx hb dX1_is_16 (by decide) ?_
    refine lv_icmp_eq (tgt := 27) hx hb dX1_is_20 (by decide) (fun c20 => ?_) (fun c20 => ?_)
    · refine lv_iconst (v := 0) hx hb dX1_is_27 (by decide) ?_
      exact W.zret (v := 0) hx hb hr (by decide) (fun t ht hW => ⟨0, rfl, (by subst e6 e7 e10; simp [mi_is, gb_neg, c12, c20]), ht⟩) (fun _ h => nomatch h) dX1_is_28
    · refine lv_iconst (v := 1) hx hb dX1_is_23 (by decide) ?_
      refine lv_goto (tgt := 28) hx hb dX1_is_24 (by decide) ?_
      exact W.zret (v := 1) hx hb hr (by decide) (fun t ht hW => ⟨1, rfl, (by subst e6 e7 e10; simp [mi_is, gb_neg, c12, c20]), ht⟩) (fun _ h => nomatch h) dX1_is_28
set_option maxHeartbeats 4000000 in
set_option maxRecDepth 100000 in
/-- the reference: rule -/
theorem m_rule (l : Launch) (D : va_G) (h1 : Nat) (cI cB cZ : ClassId) (ad : Nat → Nat) (ar : Nat → Nat → Int32) (iv : Nat → Int32) (x y z : Int32) (k : Nat) (hk : k < 8) (hx0 : x = nI k) (h2 : vp_in (gb_sh y) 20000) (h3 : vp_in (gb_sh z) 20000) : Met l yX1_rule wsX1_rule ({ frames := 1, cells := 0, slots := 0, locals := 22 }) (rP D (mW h1 cI cB cZ ad ar iv) [(cI, .int), (cB, .byte), (cZ, .boolean)] [.ref h1, .int x, .int y, .int z]) (vp_Si (fun r => r = mi_rule ar k y z)) 0 0 (fun _ => False) := by
  refine Met.ofW (cc := cX1_rule) (maxL := 5) (ret := (some .int)) (by decide) rfl ?_
  intro p e s m args below meth c s₁ B hml hv
  obtain ⟨rfl, hP, hK⟩ := hv
  have hx := B.exec
  have hb := B.bytes
  have hr := B.returns
  have hts := atoms_spec (ws := wsX1_rule) B.pre
  have hown : s.vm.findClass RX1 = some m.cls := findClass_of_methodNamed B.named
  have hlocks := B.notSynchronized
  have hl := lv_entry ([.ref h1, .int x, .int y, .int z]) (n := 5) (Nat.le_of_ble_eq_true rfl)
  rw [lg_entry_eq]
  generalize (lg_sl ([.ref h1, .int x, .int y, .int z]) ++ List.replicate (5 - (lg_sl ([.ref h1, .int x, .int y, .int z])).length) Slot.unset).toArray = ls at hl ⊢
  have hl : lv_has ls 5 [(0, .ref h1), (1, .int x), (2, .int y), (3, .int z)] := hl
  refine lv_iload_n hx hb dX1_rule_0 rfl (lv_at hl 1 rfl) ?_
  rcases (show k = 0 ∨ k = 1 ∨ k = 2 ∨ k = 3 ∨ k = 4 ∨ k = 5 ∨ k = 6 ∨ k = 7 by omega) with rfl | rfl | rfl | rfl | rfl | rfl | rfl | rfl
  · refine lv_tableIn (tgt := 44) hx hb dX1_rule_1 (by rw [hx0]; decide) (by rw [hx0]; decide) (by rw [hx0]; rfl) (by decide) ?_
    refine lv_iload_n hx hb dX1_rule_44 rfl (lv_at hl 2 rfl) ?_
    refine lv_if_ne (tgt := 52) hx hb dX1_rule_45 (by decide) (fun c45 => ?_) (fun c45 => ?_)
    · refine lv_iconst (v := -1) hx hb dX1_rule_52 (by decide) ?_
      exact W.iret (v := (-1)) hx hb hr (fun t ht hW => ⟨(-1), rfl, (by simp [mi_rule, c45]), ht⟩) (fun _ h => nomatch h) dX1_rule_53
    · refine lv_iconst (v := 0) hx hb dX1_rule_48 (by decide) ?_
      refine lv_goto (tgt := 53) hx hb dX1_rule_49 (by decide) ?_
      exact W.iret (v := 0) hx hb hr (fun t ht hW => ⟨0, rfl, (by simp [mi_rule, c45]), ht⟩) (fun _ h => nomatch h) dX1_rule_53
  · refine lv_tableIn (tgt := 54) hx hb dX1_rule_1 (by rw [hx0]; decide) (by rw [hx0]; decide) (by rw [hx0]; rfl) (by decide) ?_
    refine lv_iload_n hx hb dX1_rule_54 rfl (lv_at hl 2 rfl) ?_
    refine lv_iconst (v := 1) hx hb dX1_rule_55 (by decide) ?_
    refine lv_icmp_ne (tgt := 63) hx hb dX1_rule_56 (by decide) (fun c56 => ?_) (fun c56 => ?_)
    · refine lv_iconst (v := -1) hx hb dX1_rule_63 (by decide) ?_
      exact W.iret (v := (-1)) hx hb hr (fun t ht hW => ⟨(-1), rfl, (by simp [mi_rule, c56]), ht⟩) (fun _ h => nomatch h) dX1_rule_64
    · refine lv_iload_n hx hb dX1_rule_59 rfl (lv_at hl 3 rfl) ?_
      refine lv_goto (tgt := 64) hx hb dX1_rule_60 (by decide) ?_
      exact W.iret (v := z) hx hb hr (fun t ht hW => ⟨z, rfl, (by simp [mi_rule, c56]), ht⟩) (fun _ h => nomatch h) dX1_rule_64
  · refine lv_tableIn (tgt := 65) hx hb dX1_rule_1 (by rw [hx0]; decide) (by rw [hx0]; decide) (by rw [hx0]; rfl) (by decide) ?_
    refine lv_iload_n hx hb dX1_rule_65 rfl (lv_at hl 2 rfl) ?_
    refine lv_iload_n hx hb dX1_rule_66 rfl (lv_at hl 3 rfl) ?_
    refine lv_icmp_ne (tgt := 74) hx hb dX1_rule_67 (by decide) (fun c67 => ?_) (fun c67 => ?_)
    · refine lv_iconst (v := -1) hx hb dX1_rule_74 (by decide) ?_
      exact W.iret (v := (-1)) hx hb hr (fun t ht hW => ⟨(-1), rfl, (by simp [mi_rule, c67]), ht⟩) (fun _ h => nomatch h) dX1_rule_75
    · refine lv_iload_n hx hb dX1_rule_70 rfl (lv_at hl 2 rfl) ?_
      refine lv_goto (tgt := 75) hx hb dX1_rule_71 (by decide) ?_
      exact W.iret (v := y) hx hb hr (fun t ht hW => ⟨y, rfl, (by simp [mi_rule, c67]), ht⟩) (fun _ h => nomatch h) dX1_rule_75
  · refine lv_tableIn (tgt := 76) hx hb dX1_rule_1 (by rw [hx0]; decide) (by rw [hx0]; decide) (by rw [hx0]; rfl) (by decide) ?_
    refine lv_iload_n hx hb dX1_rule_76 rfl (lv_at hl 2 rfl) ?_
    refine lv_iload_n hx hb dX1_rule_77 rfl (lv_at hl 3 rfl) ?_
    refine lv_iconst (v := 1) hx hb dX1_rule_78 (by decide) ?_
    refine lv_ixor hx hb dX1_rule_79 ?_
    refine lv_topi (fun v79 e79 => ?_)
    refine lv_icmp_ne (tgt := 87) hx hb dX1_rule_80 (by decide) (fun c80 => ?_) (fun c80 => ?_)
    · refine lv_iconst (v := -1) hx hb dX1_rule_87 (by decide) ?_
      exact W.iret (v := (-1)) hx hb hr (fun t ht hW => ⟨(-1), rfl, (by subst e79; simp [mi_rule, c80]), ht⟩) (fun _ h => nomatch h) dX1_rule_88
    · refine lv_iconst (v := 0) hx hb dX1_rule_83 (by decide) ?_
      refine lv_goto (tgt := 88) hx hb dX1_rule_84 (by decide) ?_
      exact W.iret (v := 0) hx hb hr (fun t ht hW => ⟨0, rfl, (by subst e79; simp [mi_rule, c80]), ht⟩) (fun _ h => nomatch h) dX1_rule_88
  · refine lv_tableIn (tgt := 89) hx hb dX1_rule_1 (by rw [hx0]; decide) (by rw [hx0]; decide) (by rw [hx0]; rfl) (by decide) ?_
    refine lv_aload_n hx hb dX1_rule_89 rfl (lv_at hl 0 rfl) ?_
    refine lv_iload_n hx hb dX1_rule_90 rfl (lv_at hl 2 rfl) ?_
    refine lv_iconst (v := 0) hx hb dX1_rule_91 (by decide) ?_
    have hc92 := h2
    refine vp_callSi (W.runV (As := [.int y, .int 0]) (rest := []) ⟨hx, hb, hml, hown, hts⟩ (m_isGate l D h1 cI cB cZ ad ar iv y 0 hc92) (cwV 2 hts gX1_rule_X1_isGate rfl rfl rfl (by decide +kernel) ⟨Nat.le_of_ble_eq_true rfl, Nat.le_of_ble_eq_true rfl⟩) (rP_V hK hP (va_recv hK hP (ci := 1) (q0 := 0) rfl rfl)) rfl rfl hl.1 rfl (lv_room (Nat.le_of_ble_eq_true rfl)) dX1_rule_92 ⟨Nat.zero_le _, Nat.zero_le _⟩) (fun r92 e92 => ?_)
    refine lv_if_eq (tgt := 111) hx hb dX1_rule_95 (by decide) (fun c95 => ?_) (fun c95 => ?_)
    · refine lv_iconst (v := -1) hx hb dX1_rule_111 (by decide) ?_
      exact W.iret (v := (-1)) hx hb hr (fun t ht hW => ⟨(-1), rfl, (by subst e92; simp [mi_rule, c95]), ht⟩) (fun _ h => nomatch h) dX1_rule_112
    · refine lv_aload_n hx hb dX1_rule_98 rfl (lv_at hl 0 rfl) ?_
      refine lv_iload_n hx hb dX1_rule_99 rfl (lv_at hl 2 rfl) ?_
      refine lv_iload_n hx hb dX1_rule_100 rfl (lv_at hl 3 rfl) ?_
      have hc101 := h2
      refine vp_callSi (W.runV (As := [.int y, .int z]) (rest := []) ⟨hx, hb, hml, hown, hts⟩ (m_has l D h1 cI cB cZ ad ar iv y z hc101) (cwV 2 hts gX1_rule_X1_has rfl rfl rfl (by decide +kernel) ⟨Nat.le_of_ble_eq_true rfl, Nat.le_of_ble_eq_true rfl⟩) (rP_V hK hP (va_recv hK hP (ci := 1) (q0 := 0) rfl rfl)) rfl rfl hl.1 rfl (lv_room (Nat.le_of_ble_eq_true rfl)) dX1_rule_101 ⟨Nat.zero_le _, Nat.zero_le _⟩) (fun r101 e101 => ?_)
      refine lv_if_eq (tgt := 111) hx hb dX1_rule_104 (by decide) (fun c104 => ?_) (fun c104 => ?_)
      · refine lv_iconst (v := -1) hx hb dX1_rule_111 (by decide) ?_
        exact W.iret (v := (-1)) hx hb hr (fun t ht hW => ⟨(-1), rfl, (by subst e92 e101; simp [mi_rule, c95, c104]), ht⟩) (fun _ h => nomatch h) dX1_rule_112
      · refine lv_iload_n hx hb dX1_rule_107 rfl (lv_at hl 2 rfl) ?_
        refine lv_goto (tgt := 112) hx hb dX1_rule_108 (by decide) ?_
        exact W.iret (v := y) hx hb hr (fun t ht hW => ⟨y, rfl, (by subst e92 e101; simp [mi_rule, c95, c104]), ht⟩) (fun _ h => nomatch h) dX1_rule_112
  · refine lv_tableIn (tgt := 113) hx hb dX1_rule_1 (by rw [hx0]; decide) (by rw [hx0]; decide) (by rw [hx0]; rfl) (by decide) ?_
    refine lv_aload_n hx hb dX1_rule_113 rfl (lv_at hl 0 rfl) ?_
    refine lv_iload_n hx hb dX1_rule_114 rfl (lv_at hl 2 rfl) ?_
    refine lv_iconst (v := 0) hx hb dX1_rule_115 (by decide) ?_
    have hc116 := h2
    refine vp_callSi (W.runV (As := [.int y, .int 0]) (rest := []) ⟨hx, hb, hml, hown, hts⟩ (m_isGate l D h1 cI cB cZ ad ar iv y 0 hc116) (cwV 2 hts gX1_rule_X1_isGate rfl rfl rfl (by decide +kernel) ⟨Nat.le_of_ble_eq_true rfl, Nat.le_of_ble_eq_true rfl⟩) (rP_V hK hP (va_recv hK hP (ci := 1) (q0 := 0) rfl rfl)) rfl rfl hl.1 rfl (lv_room (Nat.le_of_ble_eq_true rfl)) dX1_rule_116 ⟨Nat.zero_le _, Nat.zero_le _⟩) (fun r116 e116 => ?_)
    refine lv_if_eq (tgt := 137) hx hb dX1_rule_119 (by decide) (fun c119 => ?_) (fun c119 => ?_)
    · refine lv_iconst (v := -1) hx hb dX1_rule_137 (by decide) ?_
      exact W.iret (v := (-1)) hx hb hr (fun t ht hW => ⟨(-1), rfl, (by subst e116; simp [mi_rule, c119]), ht⟩) (fun _ h => nomatch h) dX1_rule_138
    · refine lv_aload_n hx hb dX1_rule_122 rfl (lv_at hl 0 rfl) ?_
      refine lv_iload_n hx hb dX1_rule_123 rfl (lv_at hl 2 rfl) ?_
      refine lv_iload_n hx hb dX1_rule_124 rfl (lv_at hl 3 rfl) ?_
      refine lv_iconst (v := 1) hx hb dX1_rule_125 (by decide) ?_
      refine lv_ixor hx hb dX1_rule_126 ?_
      refine lv_topi (fun v126 e126 => ?_)
      have hc127 := h2
      refine vp_callSi (W.runV (As := [.int y, .int v126]) (rest := []) ⟨hx, hb, hml, hown, hts⟩ (m_has l D h1 cI cB cZ ad ar iv y v126 hc127) (cwV 2 hts gX1_rule_X1_has rfl rfl rfl (by decide +kernel) ⟨Nat.le_of_ble_eq_true rfl, Nat.le_of_ble_eq_true rfl⟩) (rP_V hK hP (va_recv hK hP (ci := 1) (q0 := 0) rfl rfl)) rfl rfl hl.1 rfl (lv_room (Nat.le_of_ble_eq_true rfl)) dX1_rule_127 ⟨Nat.zero_le _, Nat.zero_le _⟩) (fun r127 e127 => ?_)
      refine lv_if_eq (tgt := 137) hx hb dX1_rule_130 (by decide) (fun c130 => ?_) (fun c130 => ?_)
      · refine lv_iconst (v := -1) hx hb dX1_rule_137 (by decide) ?_
        exact W.iret (v := (-1)) hx hb hr (fun t ht hW => ⟨(-1), rfl, (by subst e116 e126 e127; simp [mi_rule, c119, c130]), ht⟩) (fun _ h => nomatch h) dX1_rule_138
      · refine lv_iconst (v := 0) hx hb dX1_rule_133 (by decide) ?_
        refine lv_goto (tgt := 138) hx hb dX1_rule_134 (by decide) ?_
        exact W.iret (v := 0) hx hb hr (fun t ht hW => ⟨0, rfl, (by subst e116 e126 e127; simp [mi_rule, c119, c130]), ht⟩) (fun _ h => nomatch h) dX1_rule_138
  · refine lv_tableIn (tgt := 139) hx hb dX1_rule_1 (by rw [hx0]; decide) (by rw [hx0]; decide) (by rw [hx0]; rfl) (by decide) ?_
    refine lv_aload_n hx hb dX1_rule_139 rfl (lv_at hl 0 rfl) ?_
    refine lv_iload_n hx hb dX1_rule_140 rfl (lv_at hl 2 rfl) ?_
    refine lv_iconst (v := 1) hx hb dX1_rule_141 (by decide) ?_
    have hc142 := h2
    refine vp_callSi (W.runV (As := [.int y, .int 1]) (rest := []) ⟨hx, hb, hml, hown, hts⟩ (m_isGate l D h1 cI cB cZ ad ar iv y 1 hc142) (cwV 2 hts gX1_rule_X1_isGate rfl rfl rfl (by decide +kernel) ⟨Nat.le_of_ble_eq_true rfl, Nat.le_of_ble_eq_true rfl⟩) (rP_V hK hP (va_recv hK hP (ci := 1) (q0 := 0) rfl rfl)) rfl rfl hl.1 rfl (lv_room (Nat.le_of_ble_eq_true rfl)) dX1_rule_142 ⟨Nat.zero_le _, Nat.zero_le _⟩) (fun r142 e142 => ?_)
    refine lv_if_eq (tgt := 163) hx hb dX1_rule_145 (by decide) (fun c145 => ?_) (fun c145 => ?_)
    · refine lv_iconst (v := -1) hx hb dX1_rule_163 (by decide) ?_
      exact W.iret (v := (-1)) hx hb hr (fun t ht hW => ⟨(-1), rfl, (by subst e142; simp [mi_rule, c145]), ht⟩) (fun _ h => nomatch h) dX1_rule_164
    · refine lv_aload_n hx hb dX1_rule_148 rfl (lv_at hl 0 rfl) ?_
      refine lv_iload_n hx hb dX1_rule_149 rfl (lv_at hl 2 rfl) ?_
      refine lv_iload_n hx hb dX1_rule_150 rfl (lv_at hl 3 rfl) ?_
      refine lv_iconst (v := 1) hx hb dX1_rule_151 (by decide) ?_
      refine lv_ixor hx hb dX1_rule_152 ?_
      refine lv_topi (fun v152 e152 => ?_)
      have hc153 := h2
      refine vp_callSi (W.runV (As := [.int y, .int v152]) (rest := []) ⟨hx, hb, hml, hown, hts⟩ (m_has l D h1 cI cB cZ ad ar iv y v152 hc153) (cwV 2 hts gX1_rule_X1_has rfl rfl rfl (by decide +kernel) ⟨Nat.le_of_ble_eq_true rfl, Nat.le_of_ble_eq_true rfl⟩) (rP_V hK hP (va_recv hK hP (ci := 1) (q0 := 0) rfl rfl)) rfl rfl hl.1 rfl (lv_room (Nat.le_of_ble_eq_true rfl)) dX1_rule_153 ⟨Nat.zero_le _, Nat.zero_le _⟩) (fun r153 e153 => ?_)
      refine lv_if_eq (tgt := 163) hx hb dX1_rule_156 (by decide) (fun c156 => ?_) (fun c156 => ?_)
      · refine lv_iconst (v := -1) hx hb dX1_rule_163 (by decide) ?_
        exact W.iret (v := (-1)) hx hb hr (fun t ht hW => ⟨(-1), rfl, (by subst e142 e152 e153; simp [mi_rule, c145, c156]), ht⟩) (fun _ h => nomatch h) dX1_rule_164
      · refine lv_iload_n hx hb dX1_rule_159 rfl (lv_at hl 3 rfl) ?_
        refine lv_goto (tgt := 164) hx hb dX1_rule_160 (by decide) ?_
        exact W.iret (v := z) hx hb hr (fun t ht hW => ⟨z, rfl, (by subst e142 e152 e153; simp [mi_rule, c145, c156]), ht⟩) (fun _ h => nomatch h) dX1_rule_164
  · refine lv_tableOut (tgt := 165) hx hb dX1_rule_1 (by rw [hx0]; decide) (by decide) ?_
    refine lv_aload_n hx hb dX1_rule_165 rfl (lv_at hl 0 rfl) ?_
    refine lv_iload_n hx hb dX1_rule_166 rfl (lv_at hl 2 rfl) ?_
    refine lv_iconst (v := 0) hx hb dX1_rule_167 (by decide) ?_
    have hc168 := h2
    refine vp_callSi (W.runV (As := [.int y, .int 0]) (rest := []) ⟨hx, hb, hml, hown, hts⟩ (m_isGate l D h1 cI cB cZ ad ar iv y 0 hc168) (cwV 2 hts gX1_rule_X1_isGate rfl rfl rfl (by decide +kernel) ⟨Nat.le_of_ble_eq_true rfl, Nat.le_of_ble_eq_true rfl⟩) (rP_V hK hP (va_recv hK hP (ci := 1) (q0 := 0) rfl rfl)) rfl rfl hl.1 rfl (lv_room (Nat.le_of_ble_eq_true rfl)) dX1_rule_168 ⟨Nat.zero_le _, Nat.zero_le _⟩) (fun r168 e168 => ?_)
    refine lv_if_eq (tgt := 223) hx hb dX1_rule_171 (by decide) (fun c171 => ?_) (fun c171 => ?_)
    · refine lv_iconst (v := 0) hx hb dX1_rule_223 (by decide) ?_
      refine lv_istore (lv' := [(4, .int 0), (0, .ref h1), (1, .int x), (2, .int y), (3, .int z)]) hx hb dX1_rule_224 hl (by decide) rfl (fun ls hl => ?_)
      refine lv_iload hx hb dX1_rule_226 (lv_at hl 0 rfl) ?_
      refine lv_if_eq (tgt := 235) hx hb dX1_rule_228 (by decide) (fun c228 => ?_) (fun c228 => ?_)
      · refine lv_iconst (v := -1) hx hb dX1_rule_235 (by decide) ?_
        exact W.iret (v := (-1)) hx hb hr (fun t ht hW => ⟨(-1), rfl, (by subst e168; simp [mi_rule, c171, c228]), ht⟩) (fun _ h => nomatch h) dX1_rule_236
      · exact absurd c228 (by decide)
    · refine lv_aload_n hx hb dX1_rule_174 rfl (lv_at hl 0 rfl) ?_
      refine lv_iload_n hx hb dX1_rule_175 rfl (lv_at hl 3 rfl) ?_
      refine lv_iconst (v := 0) hx hb dX1_rule_176 (by decide) ?_
      have hc177 := h3
      refine vp_callSi (W.runV (As := [.int z, .int 0]) (rest := []) ⟨hx, hb, hml, hown, hts⟩ (m_isGate l D h1 cI cB cZ ad ar iv z 0 hc177) (cwV 2 hts gX1_rule_X1_isGate rfl rfl rfl (by decide +kernel) ⟨Nat.le_of_ble_eq_true rfl, Nat.le_of_ble_eq_true rfl⟩) (rP_V hK hP (va_recv hK hP (ci := 1) (q0 := 0) rfl rfl)) rfl rfl hl.1 rfl (lv_room (Nat.le_of_ble_eq_true rfl)) dX1_rule_177 ⟨Nat.zero_le _, Nat.zero_le _⟩) (fun r177 e177 => ?_)
      refine lv_if_eq (tgt := 223) hx hb dX1_rule_180 (by decide) (fun c180 => ?_) (fun c180 => ?_)
      · refine lv_iconst (v := 0) hx hb dX1_rule_223 (by decide) ?_
        refine lv_istore (lv' := [(4, .int 0), (0, .ref h1), (1, .int x), (2, .int y), (3, .int z)]) hx hb dX1_rule_224 hl (by decide) rfl (fun ls hl => ?_)
        refine lv_iload hx hb dX1_rule_226 (lv_at hl 0 rfl) ?_
        refine lv_if_eq (tgt := 235) hx hb dX1_rule_228 (by decide) (fun c228 => ?_) (fun c228 => ?_)
        · refine lv_iconst (v := -1) hx hb dX1_rule_235 (by decide) ?_
          exact W.iret (v := (-1)) hx hb hr (fun t ht hW => ⟨(-1), rfl, (by subst e168 e177; simp [mi_rule, c171, c180, c228]), ht⟩) (fun _ h => nomatch h) dX1_rule_236
        · exact absurd c228 (by decide)
      · refine lv_aload_n hx hb dX1_rule_183 rfl (lv_at hl 0 rfl) ?_
        refine lv_iload_n hx hb dX1_rule_184 rfl (lv_at hl 2 rfl) ?_
        refine lv_aload_n hx hb dX1_rule_185 rfl (lv_at hl 0 rfl) ?_
        refine va_get (D := D) (ci := 1) (v := .ref (ad 1)) (C := RX1) (T := TX1) (N := 8) hx hb hts inX1 hown hK hP 0 rfl rfl 1 (by decide) (hts _ (mG wm_372)) (fun _ h9 => h9) rfl dX1_rule_186 ?_
        refine lv_iload_n hx hb dX1_rule_189 rfl (lv_at hl 3 rfl) ?_
        refine lv_iconst (v := 1) hx hb dX1_rule_190 (by decide) ?_
        refine lv_ishr hx hb dX1_rule_191 ?_
        refine lv_topi (fun v191 e191 => ?_)
        have e191 : v191 = gb_sh z := e191
        have hi192 : vp_in v191 20000 := by rw [e191]; exact h3
        refine va_iald hx hb hK hP 2 0 rfl rfl hi192 dX1_rule_192 ?_
        refine lv_topi (fun v192 e192 => ?_)
        refine lv_iconst (v := 1) hx hb dX1_rule_193 (by decide) ?_
        refine lv_ixor hx hb dX1_rule_194 ?_
        refine lv_topi (fun v194 e194 => ?_)
        have hc195 := h2
        refine vp_callSi (W.runV (As := [.int y, .int v194]) (rest := []) ⟨hx, hb, hml, hown, hts⟩ (m_has l D h1 cI cB cZ ad ar iv y v194 hc195) (cwV 2 hts gX1_rule_X1_has rfl rfl rfl (by decide +kernel) ⟨Nat.le_of_ble_eq_true rfl, Nat.le_of_ble_eq_true rfl⟩) (rP_V hK hP (va_recv hK hP (ci := 1) (q0 := 0) rfl rfl)) rfl rfl hl.1 rfl (lv_room (Nat.le_of_ble_eq_true rfl)) dX1_rule_195 ⟨Nat.zero_le _, Nat.zero_le _⟩) (fun r195 e195 => ?_)
        refine lv_if_ne (tgt := 219) hx hb dX1_rule_198 (by decide) (fun c198 => ?_) (fun c198 => ?_)
        · refine lv_iconst (v := 1) hx hb dX1_rule_219 (by decide) ?_
          refine lv_goto (tgt := 224) hx hb dX1_rule_220 (by decide) ?_
          refine lv_istore (lv' := [(4, .int 1), (0, .ref h1), (1, .int x), (2, .int y), (3, .int z)]) hx hb dX1_rule_224 hl (by decide) rfl (fun ls hl => ?_)
          refine lv_iload hx hb dX1_rule_226 (lv_at hl 0 rfl) ?_
          refine lv_if_eq (tgt := 235) hx hb dX1_rule_228 (by decide) (fun c228 => ?_) (fun c228 => ?_)
          · exact absurd c228 (by decide)
          · refine lv_iconst (v := 0) hx hb dX1_rule_231 (by decide) ?_
            refine lv_goto (tgt := 236) hx hb dX1_rule_232 (by decide) ?_
            exact W.iret (v := 0) hx hb hr (fun t ht hW => ⟨0, rfl, (by subst e168 e177 e191 e192 e194 e195; simp [mi_rule, c171, c180, c198, c228]), ht⟩) (fun _ h => nomatch h) dX1_rule_236
        · refine lv_aload_n hx hb dX1_rule_201 rfl (lv_at hl 0 rfl) ?_
          refine lv_iload_n hx hb dX1_rule_202 rfl (lv_at hl 2 rfl) ?_
          refine lv_aload_n hx hb dX1_rule_203 rfl (lv_at hl 0 rfl) ?_
          refine va_get (D := D) (ci := 1) (v := .ref (ad 2)) (C := RX1) (T := TX1) (N := 8) hx hb hts inX1 hown hK hP 0 rfl rfl 2 (by decide) (hts _ (mG wm_373)) (fun _ h9 => h9) rfl dX1_rule_204 ?_
          refine lv_iload_n hx hb dX1_rule_207 rfl (lv_at hl 3 rfl) ?_
          refine lv_iconst (v := 1) hx hb dX1_rule_208 (by decide) ?_
          refine lv_ishr hx hb dX1_rule_209 ?_
          refine lv_topi (fun v209 e209 => ?_)
          have e209 : v209 = gb_sh z := e209
          have hi210 : vp_in v209 20000 := by rw [e209]; exact h3
          refine va_iald hx hb hK hP 3 0 rfl rfl hi210 dX1_rule_210 ?_
          refine lv_topi (fun v210 e210 => ?_)
          refine lv_iconst (v := 1) hx hb dX1_rule_211 (by decide) ?_
          refine lv_ixor hx hb dX1_rule_212 ?_
          refine lv_topi (fun v212 e212 => ?_)
          have hc213 := h2
          refine vp_callSi (W.runV (As := [.int y, .int v212]) (rest := []) ⟨hx, hb, hml, hown, hts⟩ (m_has l D h1 cI cB cZ ad ar iv y v212 hc213) (cwV 2 hts gX1_rule_X1_has rfl rfl rfl (by decide +kernel) ⟨Nat.le_of_ble_eq_true rfl, Nat.le_of_ble_eq_true rfl⟩) (rP_V hK hP (va_recv hK hP (ci := 1) (q0 := 0) rfl rfl)) rfl rfl hl.1 rfl (lv_room (Nat.le_of_ble_eq_true rfl)) dX1_rule_213 ⟨Nat.zero_le _, Nat.zero_le _⟩) (fun r213 e213 => ?_)
          refine lv_if_eq (tgt := 223) hx hb dX1_rule_216 (by decide) (fun c216 => ?_) (fun c216 => ?_)
          · refine lv_iconst (v := 0) hx hb dX1_rule_223 (by decide) ?_
            refine lv_istore (lv' := [(4, .int 0), (0, .ref h1), (1, .int x), (2, .int y), (3, .int z)]) hx hb dX1_rule_224 hl (by decide) rfl (fun ls hl => ?_)
            refine lv_iload hx hb dX1_rule_226 (lv_at hl 0 rfl) ?_
            refine lv_if_eq (tgt := 235) hx hb dX1_rule_228 (by decide) (fun c228 => ?_) (fun c228 => ?_)
            · refine lv_iconst (v := -1) hx hb dX1_rule_235 (by decide) ?_
              exact W.iret (v := (-1)) hx hb hr (fun t ht hW => ⟨(-1), rfl, (by subst e168 e177 e191 e192 e194 e195 e209 e210 e212 e213; simp [mi_rule, c171, c180, c198, c216, c228]), ht⟩) (fun _ h => nomatch h) dX1_rule_236
            · exact absurd c228 (by decide)
          · refine lv_iconst (v := 1) hx hb dX1_rule_219 (by decide) ?_
            refine lv_goto (tgt := 224) hx hb dX1_rule_220 (by decide) ?_
            refine lv_istore (lv' := [(4, .int 1), (0, .ref h1), (1, .int x), (2, .int y), (3, .int z)]) hx hb dX1_rule_224 hl (by decide) rfl (fun ls hl => ?_)
            refine lv_iload hx hb dX1_rule_226 (lv_at hl 0 rfl) ?_
            refine lv_if_eq (tgt := 235) hx hb dX1_rule_228 (by decide) (fun c228 => ?_) (fun c228 => ?_)
            · exact absurd c228 (by decide)
            · refine lv_iconst (v := 0) hx hb dX1_rule_231 (by decide) ?_
              refine lv_goto (tgt := 236) hx hb dX1_rule_232 (by decide) ?_
              exact W.iret (v := 0) hx hb hr (fun t ht hW => ⟨0, rfl, (by subst e168 e177 e191 e192 e194 e195 e209 e210 e212 e213; simp [mi_rule, c171, c180, c198, c216, c228]), ht⟩) (fun _ h => nomatch h) dX1_rule_236
set_option maxHeartbeats 4000000 in
set_option maxRecDepth 100000 in
/-- the reference: add -/
theorem m_add (l : Launch) (D : va_G) (h1 : Nat) (cI cB cZ : ClassId) (ad : Nat → Nat) (ar : Nat → Nat → Int32) (iv : Nat → Int32) (sz : Nat) (x : Int32) (y : Int32) (z : Int32) (nc : Nat) (hnc : iv 1 = nI nc) (hmx : nc < 20000) (hx8 : vp_nar .byte x.toInt8.toInt32 = x) : Met l yX1_add wsX1_add ({ frames := 0, cells := 0, slots := 0, locals := 0 }) (mP D (mW h1 cI cB cZ ad ar iv) [(cI, .int), (cB, .byte), (cZ, .boolean)] sz [.ref h1, .int x, .int y, .int z]) (va_Qi (fun (r : Int32) (u : MS) => r = nI nc ∧ u = (mi_add ar nc x y z, va_up iv 1 (nI (nc + 1)))) (mm_at D cI cB cZ ad (va_A (mW h1 cI cB cZ ad ar iv) sz) h1) (va_A (mW h1 cI cB cZ ad ar iv) sz)) 0 0 (va_A (mW h1 cI cB cZ ad ar iv) sz) := by
  refine Met.ofW (cc := cX1_add) (maxL := 4) (ret := (some .int)) (by decide) rfl ?_
  intro p e s m args below meth c s₁ B hml hv
  obtain ⟨rfl, hsz, hP, hK, hD0⟩ := hv
  have hx := B.exec
  have hb := B.bytes
  have hr := B.returns
  have hts := atoms_spec (ws := wsX1_add) B.pre
  have hown : s.vm.findClass RX1 = some m.cls := findClass_of_methodNamed B.named
  have hlocks := B.notSynchronized
  have hl := lv_entry ([.ref h1, .int x, .int y, .int z]) (n := 4) (Nat.le_of_ble_eq_true rfl)
  rw [lg_entry_eq]
  generalize (lg_sl ([.ref h1, .int x, .int y, .int z]) ++ List.replicate (4 - (lg_sl ([.ref h1, .int x, .int y, .int z])).length) Slot.unset).toArray = ls at hl ⊢
  have hl : lv_has ls 4 [(0, .ref h1), (1, .int x), (2, .int y), (3, .int z)] := hl
  subst hsz
  have hD := hD0.self (sz := s.heap.size)
  generalize hAe : va_A (mW h1 cI cB cZ ad ar iv) s.heap.size = A at hD ⊢
  have hA : ∀ q : Nat, s.heap.size ≤ q → A q := fun q h => by rw [← hAe]; exact Or.inr h
  have hS : va_S A s.heap s.heap [] := va_S.rf
  refine lv_aload_n hx hb dX1_add_0 rfl (lv_at hl 0 rfl) ?_
  refine va_get (D := D) (ci := 1) (v := .int (iv 1)) (C := RX1) (T := TX1) (N := 8) hx hb hts inX1 hown hK hP 0 rfl rfl 6 (by decide) (hts _ (mG wm_369)) (fun _ h9 => h9) rfl dX1_add_1 ?_
  refine lv_sipush (v := 20000) hx hb dX1_add_4 (by decide) ?_
  refine lv_icmp_ne (tgt := 17) hx hb dX1_add_7 (by decide) (fun c7 => ?_) (fun c7 => ?_)
  · have hi27 : vp_in (iv 1) 20000 := by rw [hnc]; exact vp_in_nI hmx (by omega)
    have hi37 := hi27
    have hi47 := hi27
    have hi57 := hi27
    refine lv_aload_n hx hb dX1_add_17 rfl (lv_at hl 0 rfl) ?_
    refine va_get (D := D) (ci := 1) (v := .ref (ad 0)) (C := RX1) (T := TX1) (N := 8) hx hb hts inX1 hown hK hP 0 rfl rfl 0 (by decide) (hts _ (mG wm_371)) (fun _ h9 => h9) rfl dX1_add_18 ?_
    refine lv_aload_n hx hb dX1_add_21 rfl (lv_at hl 0 rfl) ?_
    refine va_get (D := D) (ci := 1) (v := .int (iv 1)) (C := RX1) (T := TX1) (N := 8) hx hb hts inX1 hown hK hP 0 rfl rfl 6 (by decide) (hts _ (mG wm_369)) (fun _ h9 => h9) rfl dX1_add_22 ?_
    refine lv_iload_n hx hb dX1_add_25 rfl (lv_at hl 1 rfl) ?_
    obtain ⟨v26, e26⟩ : ∃ y : Int32, y = (x : Int32).toInt8.toInt32 := ⟨_, rfl⟩
    refine lv_i2b (v := v26) hx hb dX1_add_26 e26.symm ?_
    refine va_bast hx hb hK hP hD hS 1 1 rfl rfl hi27 dX1_add_27 (fun H locs hP hD hS => ?_)
    obtain ⟨ar27, e27⟩ : ∃ zz : Nat → Nat → Int32, zz = va_up ar 0 (upd (ar 0) (Int32.toNatClampNeg (iv 1)) (vp_nar .byte v26)) := ⟨_, rfl⟩
    have hP : va_P D vwCl (mW h1 cI cB cZ ad ar27 iv) H := by rw [e27]; exact hP
    have hD : va_D A (mW h1 cI cB cZ ad ar27 iv) := by rw [e27]; exact hD
    refine lv_aload_n hx hb dX1_add_28 rfl (lv_at hl 0 rfl) ?_
    refine va_get (D := D) (ci := 1) (v := .ref (ad 1)) (C := RX1) (T := TX1) (N := 8) hx hb hts inX1 hown hK hP 0 rfl rfl 1 (by decide) (hts _ (mG wm_372)) (fun _ h9 => h9) rfl dX1_add_29 ?_
    refine lv_aload_n hx hb dX1_add_32 rfl (lv_at hl 0 rfl) ?_
    refine va_get (D := D) (ci := 1) (v := .int (iv 1)) (C := RX1) (T := TX1) (N := 8) hx hb hts inX1 hown hK hP 0 rfl rfl 6 (by decide) (hts _ (mG wm_369)) (fun _ h9 => h9) rfl dX1_add_33 ?_
    refine lv_iload_n hx hb dX1_add_36 rfl (lv_at hl 2 rfl) ?_
    refine va_iast hx hb hK hP hD hS 2 0 rfl rfl hi37 dX1_add_37 (fun H locs hP hD hS => ?_)
    obtain ⟨ar37, e37⟩ : ∃ zz : Nat → Nat → Int32, zz = va_up ar27 1 (upd (ar27 1) (Int32.toNatClampNeg (iv 1)) y) := ⟨_, rfl⟩
    have hP : va_P D vwCl (mW h1 cI cB cZ ad ar37 iv) H := by rw [e37]; exact hP
    have hD : va_D A (mW h1 cI cB cZ ad ar37 iv) := by rw [e37]; exact hD
    refine lv_aload_n hx hb dX1_add_38 rfl (lv_at hl 0 rfl) ?_
    refine va_get (D := D) (ci := 1) (v := .ref (ad 2)) (C := RX1) (T := TX1) (N := 8) hx hb hts inX1 hown hK hP 0 rfl rfl 2 (by decide) (hts _ (mG wm_373)) (fun _ h9 => h9) rfl dX1_add_39 ?_
    refine lv_aload_n hx hb dX1_add_42 rfl (lv_at hl 0 rfl) ?_
    refine va_get (D := D) (ci := 1) (v := .int (iv 1)) (C := RX1) (T := TX1) (N := 8) hx hb hts inX1 hown hK hP 0 rfl rfl 6 (by decide) (hts _ (mG wm_369)) (fun _ h9 => h9) rfl dX1_add_43 ?_
    refine lv_iload_n hx hb dX1_add_46 rfl (lv_at hl 3 rfl) ?_
    refine va_iast hx hb hK hP hD hS 3 0 rfl rfl hi47 dX1_add_47 (fun H locs hP hD hS => ?_)
    obtain ⟨ar47, e47⟩ : ∃ zz : Nat → Nat → Int32, zz = va_up ar37 2 (upd (ar37 2) (Int32.toNatClampNeg (iv 1)) z) := ⟨_, rfl⟩
    have hP : va_P D vwCl (mW h1 cI cB cZ ad ar47 iv) H := by rw [e47]; exact hP
    have hD : va_D A (mW h1 cI cB cZ ad ar47 iv) := by rw [e47]; exact hD
    refine lv_aload_n hx hb dX1_add_48 rfl (lv_at hl 0 rfl) ?_
    refine va_get (D := D) (ci := 1) (v := .ref (ad 3)) (C := RX1) (T := TX1) (N := 8) hx hb hts inX1 hown hK hP 0 rfl rfl 3 (by decide) (hts _ (mG wm_374)) (fun _ h9 => h9) rfl dX1_add_49 ?_
    refine lv_aload_n hx hb dX1_add_52 rfl (lv_at hl 0 rfl) ?_
    refine va_get (D := D) (ci := 1) (v := .int (iv 1)) (C := RX1) (T := TX1) (N := 8) hx hb hts inX1 hown hK hP 0 rfl rfl 6 (by decide) (hts _ (mG wm_369)) (fun _ h9 => h9) rfl dX1_add_53 ?_
    refine lv_iconst (v := 0) hx hb dX1_add_56 (by decide) ?_
    refine va_zast hx hb hK hP hD hS 4 2 rfl rfl hi57 dX1_add_57 (fun H locs hP hD hS => ?_)
    obtain ⟨ar57, e57⟩ : ∃ zz : Nat → Nat → Int32, zz = va_up ar47 3 (upd (ar47 3) (Int32.toNatClampNeg (iv 1)) (vp_nar .boolean 0)) := ⟨_, rfl⟩
    have hP : va_P D vwCl (mW h1 cI cB cZ ad ar57 iv) H := by rw [e57]; exact hP
    have hD : va_D A (mW h1 cI cB cZ ad ar57 iv) := by rw [e57]; exact hD
    refine lv_aload_n hx hb dX1_add_58 rfl (lv_at hl 0 rfl) ?_
    refine lv_dup hx hb dX1_add_59 rfl ?_
    refine va_get (D := D) (ci := 1) (v := .int (iv 1)) (C := RX1) (T := TX1) (N := 8) hx hb hts inX1 hown hK hP 0 rfl rfl 6 (by decide) (hts _ (mG wm_369)) (fun _ h9 => h9) rfl dX1_add_60 ?_
    refine lv_iconst (v := 1) hx hb dX1_add_63 (by decide) ?_
    refine lv_iadd hx hb dX1_add_64 ?_
    refine lv_topi (fun v64 e64 => ?_)
    refine va_put (D := D) (ci := 1) (v := .int v64) (ty := .int) (C := RX1) (T := TX1) (N := 8) hx hb hts inX1 tyX1 tyX1_ok nmX1 hown hK hP hD hS 0 rfl rfl 6 (by decide) (hts _ (mG wm_369)) (fun _ h9 => h9) rfl (by decide +kernel) rfl rfl (Nat.le_of_ble_eq_true rfl) dX1_add_65 (fun H locs hP hD hS => ?_)
    obtain ⟨iv65, e65⟩ : ∃ zz : Nat → Int32, zz = va_up iv 1 v64 := ⟨_, rfl⟩
    have hP : va_P D vwCl (mW h1 cI cB cZ ad ar57 iv65) H := by rw [e65]; exact hP
    have hD : va_D A (mW h1 cI cB cZ ad ar57 iv65) := by rw [e65]; exact hD
    refine lv_aload_n hx hb dX1_add_68 rfl (lv_at hl 0 rfl) ?_
    refine va_get (D := D) (ci := 1) (v := .int (iv65 1)) (C := RX1) (T := TX1) (N := 8) hx hb hts inX1 hown hK hP 0 rfl rfl 6 (by decide) (hts _ (mG wm_369)) (fun _ h9 => h9) rfl dX1_add_69 ?_
    refine lv_iconst (v := 1) hx hb dX1_add_72 (by decide) ?_
    refine lv_isub hx hb dX1_add_73 ?_
    refine lv_topi (fun v73 e73 => ?_)
    exact W.iret (v := v73) hx hb hr (fun t ht hW => ⟨⟨v73, (ar57, iv65), rfl, ⟨by rw [e73, e65, va_up_self, e64, hnc, nI_1]; exact nI_pred nc, by rw [e65, e64, e57, e47, e37, e27, e26, hx8, hnc, nI_clamp (by omega), nI_1]; rfl⟩, by rw [ht]; exact hP, va_K.moved hW.alike hK, hD⟩, hS.F ht⟩) hS.2.2 dX1_add_74
  · exact absurd ((nI_eq (by omega) (by omega)).mp (show nI nc = nI 20000 by rw [← hnc]; exact c7)) (by omega)
end
section
-- ===== the reference's state, by the same circuit =====
def mm_ok (nc ic : Nat) (g : Ct) (bv : Nat → Bool) (ar : Nat → Nat → Int32) (iv : Nat → Int32) : Prop :=
  1 ≤ nc ∧ nc ≤ 20000 ∧ ct_wf nc g ∧ iv 1 = nI nc ∧ iv 2 = nI ic ∧ bv 0 = false ∧ (∀ i, nc ≤ i → bv i = false) ∧
  (∀ i, i < nc → ar 0 i = ct_kd g i) ∧ (∀ i x y, g i = some (x, y) → ar 1 i = nI x ∧ ar 2 i = nI y) ∧
  (∀ i, i < nc → g i = none → ar 3 i = ct_b (bv i)) ∧ (∀ i, i < nc → ∃ b, ar 3 i = ct_b b)
section MOK
variable {c9 i9 : Nat} {g : Ct} {bv : Nat → Bool} {ar : Nat → Nat → Int32} {iv : Nat → Int32}
theorem mm_ok.n1 (h : mm_ok c9 i9 g bv ar iv) : 1 ≤ c9 := h.1
theorem mm_ok.mx (h : mm_ok c9 i9 g bv ar iv) : c9 ≤ 20000 := h.2.1
theorem mm_ok.wf (h : mm_ok c9 i9 g bv ar iv) : ct_wf c9 g := h.2.2.1
theorem mm_ok.nc (h : mm_ok c9 i9 g bv ar iv) : iv 1 = nI c9 := h.2.2.2.1
theorem mm_ok.ic (h : mm_ok c9 i9 g bv ar iv) : iv 2 = nI i9 := h.2.2.2.2.1
theorem mm_ok.bv0 (h : mm_ok c9 i9 g bv ar iv) : bv 0 = false := h.2.2.2.2.2.1
theorem mm_ok.bvn (h : mm_ok c9 i9 g bv ar iv) : ∀ i, c9 ≤ i → bv i = false := h.2.2.2.2.2.2.1
theorem mm_ok.kd (h : mm_ok c9 i9 g bv ar iv) : ∀ i, i < c9 → ar 0 i = ct_kd g i := h.2.2.2.2.2.2.2.1
theorem mm_ok.fs (h : mm_ok c9 i9 g bv ar iv) : ∀ i x y, g i = some (x, y) → ar 1 i = nI x ∧ ar 2 i = nI y := h.2.2.2.2.2.2.2.2.1
theorem mm_ok.vi (h : mm_ok c9 i9 g bv ar iv) : ∀ i, i < c9 → g i = none → ar 3 i = ct_b (bv i) := h.2.2.2.2.2.2.2.2.2.1
theorem mm_ok.vb (h : mm_ok c9 i9 g bv ar iv) : ∀ i, i < c9 → ∃ b, ar 3 i = ct_b b := h.2.2.2.2.2.2.2.2.2.2
theorem mm_ok.lt (h : mm_ok c9 i9 g bv ar iv) {i x y : Nat} (hg : g i = some (x, y)) : i < c9 ∧ 2 ≤ x ∧ x < y ∧ x / 2 < y / 2 ∧ y / 2 < i ∧ x < 2 * c9 ∧ y < 2 * c9 := by
  have h1 := h.wf.1 i x y hg
  omega
end MOK
theorem ct_kd_2 {nc : Nat} {g : Ct} (hw : ct_wf nc g) (i : Nat) : ct_kd g i = 2 ↔ g i ≠ none := by
  unfold ct_kd
  by_cases h0 : i = 0
  · rw [if_pos h0, h0, ct_zero hw]; simp
  · rw [if_neg h0]
    by_cases h1 : g i = none
    · rw [if_pos h1]; simp [h1]
    · rw [if_neg h1]; simp [h1]
/-- is a a gate's literal, negated or not -/
def ct_gq (g : Ct) (a : Nat) (neg : Bool) : Bool := (g (a / 2)).isSome && (decide (a % 2 = 1) == neg)
def md_sh (g : Ct) (a b : Nat) : Bool := match g (b / 2) with
  | none => false
  | some q => ct_has g (a / 2) (ct_nt q.1) || ct_has g (a / 2) (ct_nt q.2)
def md_r (g : Ct) (k a b : Nat) : Option Nat := match k with
  | 0 => if a = 0 then some 0 else none
  | 1 => if a = 1 then some b else none
  | 2 => if a = b then some a else none
  | 3 => if a = ct_nt b then some 0 else none
  | 4 => if ct_gq g a false = true ∧ ct_has g (a / 2) b = true then some a else none
  | 5 => if ct_gq g a false = true ∧ ct_has g (a / 2) (ct_nt b) = true then some 0 else none
  | 6 => if ct_gq g a true = true ∧ ct_has g (a / 2) (ct_nt b) = true then some b else none
  | _ => if ct_gq g a false = true ∧ ct_gq g b false = true ∧ md_sh g a b = true then some 0 else none
section MI
variable {nc ic : Nat} {g : Ct} {bv : Nat → Bool} {ar : Nat → Nat → Int32} {iv : Nat → Int32}
theorem mm_gate (h : mm_ok nc ic g bv ar iv) {a : Nat} (ha : a < 2 * nc) (neg : Bool) : mi_gate ar (nI a) (ct_b neg) = 0 ↔ ct_gq g a neg = false := by
  have hm := h.mx
  have e1 := h.kd (a / 2) (by omega)
  have e2 := ct_kd_2 h.wf (a / 2)
  unfold mi_gate ct_gq
  rw [gb_sh_n (by omega), nI_clamp (by omega), e1]
  simp only [e2]
  have e3 : gb_neg (nI a) = ct_b (decide (a % 2 = 1)) := by
    unfold gb_neg
    rw [ct_and1 (by omega)]
    have h3 : a % 2 = 0 ∨ a % 2 = 1 := by omega
    rcases h3 with h3 | h3 <;> rw [h3] <;> decide
  rw [e3]
  cases hg : g (a / 2) with
  | none => simp
  | some q =>
    cases decide (a % 2 = 1) <;> cases neg <;> simp [ct_b]
theorem mm_has (h : mm_ok nc ic g bv ar iv) {a b : Nat} (ha : a < 2 * nc) (hb : b < 2 ^ 31) (hg : g (a / 2) ≠ none) : mi_has ar (nI a) (nI b) = 0 ↔ ct_has g (a / 2) b = false := by
  have hm := h.mx
  unfold mi_has ct_has
  rw [gb_sh_n (by omega), nI_clamp (by omega)]
  cases hg' : g (a / 2) with
  | none => exact absurd hg' hg
  | some q =>
    obtain ⟨x, y⟩ := q
    have h1 := h.lt hg'
    have h2 := h.fs _ _ _ hg'
    have e1 := nI_eq (a := x) (b := b) (by omega) hb
    have e2 := nI_eq (a := y) (b := b) (by omega) hb
    rw [h2.1, h2.2]
    simp only [e1, e2]
    by_cases e : x = b ∨ y = b
    · rw [if_pos e]
      rcases e with e | e <;> simp [e]
    · rw [if_neg e]
      simp only [true_iff, Bool.or_eq_false_iff, beq_eq_false_iff_ne, ne_eq]
      exact ⟨fun q => e (Or.inl q), fun q => e (Or.inr q)⟩
theorem ct_gq_some {a : Nat} {neg : Bool} (h : ct_gq g a neg = true) : g (a / 2) ≠ none := by
  unfold ct_gq at h
  cases hg : g (a / 2) with
  | none => simp [hg] at h
  | some q => simp
theorem mm_gh (h : mm_ok nc ic g bv ar iv) {a b : Nat} (ha : a < 2 * nc) (hb : b < 2 ^ 31) (neg : Bool) : (¬ mi_gate ar (nI a) (ct_b neg) = 0 ∧ ¬ mi_has ar (nI a) (nI b) = 0) ↔ (ct_gq g a neg = true ∧ ct_has g (a / 2) b = true) := by
  have e1 := mm_gate h ha neg
  rw [e1]
  cases hq : ct_gq g a neg with
  | false => simp
  | true =>
    have e2 := mm_has h ha hb (ct_gq_some hq)
    rw [e2]
    cases ct_has g (a / 2) b <;> simp
theorem mm_rule (h : mm_ok nc ic g bv ar iv) {k a b : Nat} (hk : k < 8) (ha : a < 2 * nc) (hb : b < 2 * nc) : mi_rule ar k (nI a) (nI b) = ct_i (md_r g k a b) := by
  have hm := h.mx
  have n4 := ct_nt_le a
  have n5 := ct_nt_le b
  have a0 : nI a = 0 ↔ a = 0 := nI_eq (a := a) (b := 0) (by omega) (by omega)
  have a1 : nI a = 1 ↔ a = 1 := nI_eq (a := a) (b := 1) (by omega) (by omega)
  have a2 := nI_eq (a := a) (b := b) (by omega) (by omega)
  have a3 := nI_eq (a := a) (b := ct_nt b) (by omega) (by omega)
  have b4 := mm_gh h ha (b := b) (by omega) false
  have b5 := mm_gh h ha (b := ct_nt b) (by omega) false
  have b6 := mm_gh h ha (b := ct_nt b) (by omega) true
  have c0 : ct_b false = 0 := rfl
  have c1 : ct_b true = 1 := rfl
  rw [c0] at b4 b5
  rw [c1] at b6
  rcases (show k = 0 ∨ k = 1 ∨ k = 2 ∨ k = 3 ∨ k = 4 ∨ k = 5 ∨ k = 6 ∨ k = 7 by omega) with rfl | rfl | rfl | rfl | rfl | rfl | rfl | rfl
  · simp only [mi_rule, md_r, a0]; split <;> rfl
  · simp only [mi_rule, md_r, a1]; split <;> rfl
  · simp only [mi_rule, md_r, a2]; split <;> rfl
  · simp only [mi_rule, md_r, ct_nIxor, a3]; split <;> rfl
  · simp only [mi_rule, md_r, b4]; split <;> rfl
  · simp only [mi_rule, md_r, ct_nIxor, b5]; split <;> rfl
  · simp only [mi_rule, md_r, ct_nIxor, b6]; split <;> rfl
  · simp only [mi_rule, md_r]
    have e1 := mm_gate h ha false
    have e2 := mm_gate h hb false
    rw [c0] at e1 e2
    have e3 : (¬ mi_gate ar (nI a) 0 = 0 ∧ ¬ mi_gate ar (nI b) 0 = 0 ∧ (¬ mi_has ar (nI a) (ar 1 (gb_sh (nI b)).toNatClampNeg ^^^ 1) = 0 ∨ ¬ mi_has ar (nI a) (ar 2 (gb_sh (nI b)).toNatClampNeg ^^^ 1) = 0)) ↔ (ct_gq g a false = true ∧ ct_gq g b false = true ∧ md_sh g a b = true) := by
      rw [e1, e2]
      cases q1 : ct_gq g a false with
      | false => simp
      | true =>
        cases q2 : ct_gq g b false with
        | false => simp
        | true =>
          have g2 := ct_gq_some q2
          unfold md_sh
          rw [gb_sh_n (by omega), nI_clamp (by omega)]
          cases hg : g (b / 2) with
          | none => exact absurd hg g2
          | some q =>
            obtain ⟨x, y⟩ := q
            have h1 := h.lt hg
            have h2 := h.fs _ _ _ hg
            have n6 := ct_nt_le x
            have n7 := ct_nt_le y
            rw [h2.1, h2.2, ct_nIxor, ct_nIxor]
            have e5 := mm_has h ha (b := ct_nt x) (by omega) (ct_gq_some q1)
            have e6 := mm_has h ha (b := ct_nt y) (by omega) (ct_gq_some q1)
            rw [e5, e6]
            dsimp only
            cases ct_has g (a / 2) (ct_nt x) <;> cases ct_has g (a / 2) (ct_nt y) <;> simp
    simp only [e3]
    split <;> rfl
end MI
-- ===== a pass of the rules over a pair, in any order, is that over the pair in order =====
def md_t (g : Ct) (k a b : Nat) : Option Nat := match md_r g k a b with
  | some v => some v
  | none => md_r g k b a
def md_f (g : Ct) (k lo hi : Nat) : Option Nat := match k with
  | 0 => if lo = 0 then some 0 else none
  | 1 => if lo = 1 then some hi else none
  | 2 => if lo = hi then some lo else none
  | 3 => if lo = ct_nt hi then some 0 else none
  | 4 => if ct_gq g hi false = true ∧ ct_has g (hi / 2) lo = true then some hi else none
  | 5 => if ct_gq g hi false = true ∧ ct_has g (hi / 2) (ct_nt lo) = true then some 0 else none
  | 6 => if ct_gq g hi true = true ∧ ct_has g (hi / 2) (ct_nt lo) = true then some lo else none
  | _ => if ct_gq g hi false = true ∧ ct_gq g lo false = true ∧ md_sh g hi lo = true then some 0 else none
theorem md_low {nc : Nat} {g : Ct} (hw : ct_wf nc g) {lo hi : Nat} (h : lo ≤ hi) : ct_has g (lo / 2) hi = false ∧ ct_has g (lo / 2) (ct_nt hi) = false := by
  unfold ct_has
  cases hg : g (lo / 2) with
  | none => exact ⟨rfl, rfl⟩
  | some q =>
    obtain ⟨x, y⟩ := q
    have h1 := hw.1 _ _ _ hg
    have h2 := ct_nt_div hi
    simp only [Bool.or_eq_false_iff, beq_eq_false_iff_ne, ne_eq]
    exact ⟨⟨by omega, by omega⟩, ⟨by omega, by omega⟩⟩
theorem ct_nt_sw {a b : Nat} : a = ct_nt b ↔ b = ct_nt a := by
  constructor
  · intro h; rw [h, ct_nt_nt]
  · intro h; rw [h, ct_nt_nt]
theorem md_sh_sw {g : Ct} {a b : Nat} (ha : g (a / 2) ≠ none) (hb : g (b / 2) ≠ none) : md_sh g a b = md_sh g b a := by
  unfold md_sh ct_has
  cases h1 : g (a / 2) with
  | none => exact absurd h1 ha
  | some q =>
    cases h2 : g (b / 2) with
    | none => exact absurd h2 hb
    | some r =>
      obtain ⟨x, y⟩ := q
      obtain ⟨u, v⟩ := r
      dsimp only
      have e1 : (x == ct_nt u) = (u == ct_nt x) := by rw [Bool.eq_iff_iff, beq_iff_eq, beq_iff_eq]; exact ct_nt_sw
      have e2 : (y == ct_nt u) = (u == ct_nt y) := by rw [Bool.eq_iff_iff, beq_iff_eq, beq_iff_eq]; exact ct_nt_sw
      have e3 : (x == ct_nt v) = (v == ct_nt x) := by rw [Bool.eq_iff_iff, beq_iff_eq, beq_iff_eq]; exact ct_nt_sw
      have e4 : (y == ct_nt v) = (v == ct_nt y) := by rw [Bool.eq_iff_iff, beq_iff_eq, beq_iff_eq]; exact ct_nt_sw
      rw [e1, e2, e3, e4]
      cases (u == ct_nt x) <;> cases (u == ct_nt y) <;> cases (v == ct_nt x) <;> cases (v == ct_nt y) <;> rfl
theorem md_t_f {nc : Nat} {g : Ct} (hw : ct_wf nc g) {lo hi k : Nat} (h : lo ≤ hi) (hk : k < 8) (h0 : k = 1 → lo ≠ 0) : md_t g k lo hi = md_f g k lo hi ∧ md_t g k hi lo = md_f g k lo hi := by
  have hl := md_low hw h
  rcases (show k = 0 ∨ k = 1 ∨ k = 2 ∨ k = 3 ∨ k = 4 ∨ k = 5 ∨ k = 6 ∨ k = 7 by omega) with rfl | rfl | rfl | rfl | rfl | rfl | rfl | rfl
  · simp only [md_t, md_r, md_f]
    by_cases c : lo = 0
    · simp [c]; split <;> simp_all
    · have : hi ≠ 0 := by omega
      simp [c, this]
  · have h1 := h0 rfl
    simp only [md_t, md_r, md_f]
    by_cases c : lo = 1
    · by_cases c2 : hi = 1
      · simp [c, c2]
      · simp [c, c2]
    · have : hi ≠ 1 := by omega
      simp [c, this]
  · simp only [md_t, md_r, md_f]
    by_cases c : lo = hi
    · simp [c]
    · have : hi ≠ lo := fun z => c z.symm
      simp [c, this]
  · simp only [md_t, md_r, md_f]
    by_cases c : lo = ct_nt hi
    · have : hi = ct_nt lo := ct_nt_sw.mp c
      constructor
      · rw [if_pos c]
      · rw [if_pos this, if_pos c]
    · have : ¬ hi = ct_nt lo := fun z => c (ct_nt_sw.mp z)
      constructor
      · rw [if_neg c, if_neg this]
      · rw [if_neg this, if_neg c]
  · simp only [md_t, md_r, md_f, hl.1]
    by_cases c : ct_gq g hi false = true ∧ ct_has g (hi / 2) lo = true
    · simp [c]
    · simp [c]
  · simp only [md_t, md_r, md_f, hl.2]
    by_cases c : ct_gq g hi false = true ∧ ct_has g (hi / 2) (ct_nt lo) = true
    · simp [c]
    · simp [c]
  · simp only [md_t, md_r, md_f, hl.2]
    by_cases c : ct_gq g hi true = true ∧ ct_has g (hi / 2) (ct_nt lo) = true
    · simp [c]
    · simp [c]
  · have e : (ct_gq g lo false = true ∧ ct_gq g hi false = true ∧ md_sh g lo hi = true) ↔ (ct_gq g hi false = true ∧ ct_gq g lo false = true ∧ md_sh g hi lo = true) := by
      constructor
      · rintro ⟨q1, q2, q3⟩
        exact ⟨q2, q1, by rw [md_sh_sw (ct_gq_some q2) (ct_gq_some q1)]; exact q3⟩
      · rintro ⟨q1, q2, q3⟩
        exact ⟨q2, q1, by rw [md_sh_sw (ct_gq_some q2) (ct_gq_some q1)]; exact q3⟩
    simp only [md_t, md_r, md_f, e]
    constructor <;> (split <;> simp_all)
theorem ct_gq_n {g : Ct} {a : Nat} {neg : Bool} : ct_gq g a neg = true ↔ g (a / 2) ≠ none ∧ (decide (a % 2 = 1) = neg) := by
  unfold ct_gq
  cases g (a / 2) <;> simp
/-- what is known when the first six kinds of rule say nothing -/
theorem md_none {g : Ct} {lo hi : Nat} (k : Nat) (h : ∀ j, j < k → md_f g j lo hi = none) :
    (0 < k → lo ≠ 0) ∧ (1 < k → lo ≠ 1) ∧ (2 < k → lo ≠ hi) ∧ (3 < k → lo ≠ ct_nt hi) ∧ (4 < k → ¬ (ct_gq g hi false = true ∧ ct_has g (hi / 2) lo = true)) ∧ (5 < k → ¬ (ct_gq g hi false = true ∧ ct_has g (hi / 2) (ct_nt lo) = true)) ∧ (6 < k → ¬ (ct_gq g hi true = true ∧ ct_has g (hi / 2) (ct_nt lo) = true)) := by
  refine ⟨fun q z => ?_, fun q z => ?_, fun q z => ?_, fun q z => ?_, fun q z => ?_, fun q z => ?_, fun q z => ?_⟩
  · have := h 0 q; simp only [md_f] at this; rw [if_pos z] at this; cases this
  · have := h 1 q; simp only [md_f] at this; rw [if_pos z] at this; cases this
  · have := h 2 q; simp only [md_f] at this; rw [if_pos z] at this; cases this
  · have := h 3 q; simp only [md_f] at this; rw [if_pos z] at this; cases this
  · have := h 4 q; simp only [md_f] at this; rw [if_pos z] at this; cases this
  · have := h 5 q; simp only [md_f] at this; rw [if_pos z] at this; cases this
  · have := h 6 q; simp only [md_f] at this; rw [if_pos z] at this; cases this
theorem ct_has_some {g : Ct} {i b : Nat} (h : ct_has g i b = true) : g i ≠ none := by
  unfold ct_has at h
  cases hg : g i with
  | none => simp [hg] at h
  | some q => simp
theorem ct_ag_sh {g : Ct} {lo hi : Nat} (h : g (hi / 2) ≠ none) : ct_ag g lo (hi / 2) = true ↔ ct_gq g lo false = true ∧ md_sh g hi lo = true := by
  unfold ct_ag ct_gq md_sh
  cases g (lo / 2) with
  | none => simp
  | some q =>
    cases hh : decide (lo % 2 = 1) <;> simp_all <;> omega
theorem md_kn {g : Ct} {lo hi k v : Nat} (h : ∀ j, j < k → md_f g j lo hi = none) (hk : k < 7) (he : md_f g k lo hi = some v) : ct_kn g lo hi = some v := by
  obtain ⟨n0, n1, n2, n3, n4, n5, -⟩ := md_none k h
  unfold ct_kn
  rcases (show k = 0 ∨ k = 1 ∨ k = 2 ∨ k = 3 ∨ k = 4 ∨ k = 5 ∨ k = 6 by omega) with rfl | rfl | rfl | rfl | rfl | rfl | rfl
  · simp only [md_f] at he
    split at he
    · rw [if_pos (Or.inl (by assumption))]; exact he
    · cases he
  · have m0 := n0 (by omega)
    simp only [md_f] at he
    split at he
    · rename_i c
      by_cases z : lo = ct_nt hi
      · have : hi = 0 := by rw [ct_nt_sw.mp z, c]; rfl
        rw [if_pos (Or.inr z)]; cases he; rw [this]
      · rw [if_neg (fun q => q.elim m0 z), if_pos c]; exact he
    · cases he
  · have m0 := n0 (by omega)
    have m1 := n1 (by omega)
    simp only [md_f] at he
    split at he
    · rename_i c
      have z : ¬ lo = ct_nt hi := by
        rw [c]
        unfold ct_nt
        split <;> omega
      rw [if_neg (fun q => q.elim m0 z), if_neg m1, if_pos c]; exact he
    · cases he
  · simp only [md_f] at he
    split at he
    · rw [if_pos (Or.inr (by assumption))]; exact he
    · cases he
  all_goals
    have m0 := n0 (by omega)
    have m1 := n1 (by omega)
    have m2 := n2 (by omega)
    have m3 := n3 (by omega)
    simp only [md_f] at he
    split at he
    rotate_left
    · cases he
    rename_i c
    rw [if_neg (fun q => q.elim m0 m3), if_neg m1, if_neg m2, if_neg (ct_gq_some c.1)]
    have d := (ct_gq_n.mp c.1).2
  · rw [if_neg (by simpa using d), if_pos c.2]; exact he
  · have m4 := n4 (by omega)
    rw [if_neg (by simpa using d), if_neg (fun q => m4 ⟨c.1, q⟩), if_pos (Or.inl c.2)]; exact he
  · rw [if_pos (by simpa using d), if_pos c.2]; exact he
theorem md_pass {g : Ct} {lo hi : Nat} (h : ∀ j, j < 7 → md_f g j lo hi = none) : (ct_gq g hi true = true ∧ ct_has g (hi / 2) lo = true → ct_kn g lo hi = none) ∧ (¬ (ct_gq g hi true = true ∧ ct_has g (hi / 2) lo = true) → ct_re g lo hi = none ∧ ∀ v, (md_f g 7 lo hi = some v → ct_kn g lo hi = some v) ∧ (md_f g 7 lo hi = none → ct_kn g lo hi = none)) := by
  obtain ⟨n0, n1, n2, n3, n4, n5, n6⟩ := md_none 7 h
  have m0 := n0 (by omega)
  have m1 := n1 (by omega)
  have m2 := n2 (by omega)
  have m3 := n3 (by omega)
  have m4 := n4 (by omega)
  have m5 := n5 (by omega)
  have m6 := n6 (by omega)
  constructor
  · rintro ⟨q1, q2⟩
    have d := (ct_gq_n.mp q1).2
    unfold ct_kn
    rw [if_neg (fun q => q.elim m0 m3), if_neg m1, if_neg m2, if_neg (ct_gq_some q1), if_pos (by simpa using d), if_neg (fun q => m6 ⟨q1, q⟩)]
  · intro q
    constructor
    · unfold ct_re
      cases hg : g (hi / 2) with
      | none => rfl
      | some r =>
        obtain ⟨x, y⟩ := r
        dsimp only
        by_cases c : hi % 2 = 0
        · rw [if_pos c]
        · rw [if_neg c]
          have d : ct_gq g hi true = true := ct_gq_n.mpr ⟨by rw [hg]; simp, by simp; omega⟩
          have e : ct_has g (hi / 2) lo = false := by
            cases z : ct_has g (hi / 2) lo with
            | false => rfl
            | true => exact absurd ⟨d, z⟩ q
          unfold ct_has at e
          rw [hg] at e
          simp only [Bool.or_eq_false_iff, beq_eq_false_iff_ne, ne_eq] at e
          rw [if_neg e.1, if_neg e.2]
    · intro v
      unfold ct_kn
      rw [if_neg (fun q => q.elim m0 m3), if_neg m1, if_neg m2]
      by_cases hg : g (hi / 2) = none
      · rw [if_pos hg]
        have : md_f g 7 lo hi = none := by
          simp only [md_f]
          rw [if_neg (fun z => ct_gq_some z.1 hg)]
        rw [this]
        exact ⟨fun z => (by cases z), fun _ => rfl⟩
      · rw [if_neg hg]
        by_cases c : hi % 2 = 1
        · have d : ct_gq g hi true = true := ct_gq_n.mpr ⟨hg, by simp [c]⟩
          have d2 : ¬ ct_gq g hi false = true := fun z => by
            have := (ct_gq_n.mp z).2
            simp [c] at this
          rw [if_pos c, if_neg (fun z => m6 ⟨d, z⟩)]
          have : md_f g 7 lo hi = none := by
            simp only [md_f]
            rw [if_neg (fun z => d2 z.1)]
          rw [this]
          exact ⟨fun z => (by cases z), fun _ => rfl⟩
        · have d : ct_gq g hi false = true := ct_gq_n.mpr ⟨hg, by simp; omega⟩
          rw [if_neg c, if_neg (fun z => m4 ⟨d, z⟩)]
          have e := ct_ag_sh (lo := lo) hg
          simp only [md_f]
          by_cases z : ct_gq g lo false = true ∧ md_sh g hi lo = true
          · rw [if_pos (Or.inr (e.mpr z)), if_pos ⟨d, z⟩]
            exact ⟨fun w => w, fun w => (by cases w)⟩
          · rw [if_neg (show ¬ (ct_has g (hi/2) (ct_nt lo) = true ∨ ct_ag g lo (hi/2) = true) from fun w => w.elim (fun w => m5 ⟨d, w⟩) (fun w => z (e.mp w))), if_neg (show ¬ (ct_gq g hi false = true ∧ ct_gq g lo false = true ∧ md_sh g hi lo = true) from fun w => z w.2)]
            exact ⟨fun w => (by cases w), fun _ => rfl⟩
end
