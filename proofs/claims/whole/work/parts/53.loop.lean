-- ===== what the tables give of the start =====
theorem law_gT {s : State} {b : Nat} (hts0 : ∀ w ∈ lw_tbl, w.before #[Value.ref b] s = true) (hgv : (Jvm.Cond.and given_1 narrow_1).before #[Value.ref b] s = true) : gT (fun q : Nat => s.heap.size ≤ q) s s.heap := by
  have hs := flat_of_before _ hgv
  have hA : ∀ a : Nat, a < s.heap.size → ¬ (fun q : Nat => s.heap.size ≤ q) a := fun a h => Nat.not_le.mpr h
  have hini := hts0 (.initialized "java/lang/Throwable") (by decide +kernel)
  have r1 := hs (.isRef (.static Bundle.tN "UNASSIGNED_STACK" Bundle.steD)) (by decide +kernel)
  have r2 := hs (.isRef (.static Bundle.tN "SUPPRESSED_SENTINEL" Bundle.listD)) (by decide +kernel)
  have l1 := hts0 (.laysStatic Bundle.tN "UNASSIGNED_STACK" Bundle.steD) (by decide +kernel)
  have l2 := hts0 (.laysStatic Bundle.tN "SUPPRESSED_SENTINEL" Bundle.listD) (by decide +kernel)
  refine ⟨vx_Zqof l1 hini r1 hA, vx_Zqof l2 hini r2 hA, ⟨va_Nw.of rfl (hts0 (.castable IAE IAE) (by decide +kernel)), va_Nw.of rfl (hts0 (iae_d "java/lang/RuntimeException") (by decide +kernel)), va_Nw.of rfl (hts0 (iae_d "java/lang/Exception") (by decide +kernel)), va_Nw.of rfl (hts0 (iae_d "java/lang/Throwable") (by decide +kernel))⟩, ?_⟩
  obtain ⟨s63, _, _, _, q63, _⟩ := Cond.exactly_spec (args := #[Value.ref b]) (first := s) (o := none) (s := s) (idx := []) (t := .string RX0 63) (cls := "java/lang/String") (hs (.exactly (.string RX0 63) "java/lang/String") (by decide +kernel))
  have p63 : vk_R RX0 63 "no such kind of two literals" s63 s := vk_R.of (hts0 (.stringRef RX0 63 "no such kind of two literals") (by decide +kernel)) q63
  obtain ⟨s72, _, _, _, q72, _⟩ := Cond.exactly_spec (args := #[Value.ref b]) (first := s) (o := none) (s := s) (idx := []) (t := .string RX0 72) (cls := "java/lang/String") (hs (.exactly (.string RX0 72) "java/lang/String") (by decide +kernel))
  have p72 : vk_R RX0 72 "no such kind of three literals" s72 s := vk_R.of (hts0 (.stringRef RX0 72 "no such kind of three literals") (by decide +kernel)) q72
  obtain ⟨s95, _, _, _, q95, _⟩ := Cond.exactly_spec (args := #[Value.ref b]) (first := s) (o := none) (s := s) (idx := []) (t := .string RX0 95) (cls := "java/lang/String") (hs (.exactly (.string RX0 95) "java/lang/String") (by decide +kernel))
  have p95 : vk_R RX0 95 "no such thing of a node" s95 s := vk_R.of (hts0 (.stringRef RX0 95 "no such thing of a node") (by decide +kernel)) q95
  obtain ⟨s104, _, _, _, q104, _⟩ := Cond.exactly_spec (args := #[Value.ref b]) (first := s) (o := none) (s := s) (idx := []) (t := .string RX0 104) (cls := "java/lang/String") (hs (.exactly (.string RX0 104) "java/lang/String") (by decide +kernel))
  have p104 : vk_R RX0 104 "no such node" s104 s := vk_R.of (hts0 (.stringRef RX0 104 "no such node") (by decide +kernel)) q104
  obtain ⟨s106, _, _, _, q106, _⟩ := Cond.exactly_spec (args := #[Value.ref b]) (first := s) (o := none) (s := s) (idx := []) (t := .string RX0 106) (cls := "java/lang/String") (hs (.exactly (.string RX0 106) "java/lang/String") (by decide +kernel))
  have p106 : vk_R RX0 106 "the node is no input" s106 s := vk_R.of (hts0 (.stringRef RX0 106 "the node is no input") (by decide +kernel)) q106
  obtain ⟨s108, _, _, _, q108, _⟩ := Cond.exactly_spec (args := #[Value.ref b]) (first := s) (o := none) (s := s) (idx := []) (t := .string RX0 108) (cls := "java/lang/String") (hs (.exactly (.string RX0 108) "java/lang/String") (by decide +kernel))
  have p108 : vk_R RX0 108 "no such literal" s108 s := vk_R.of (hts0 (.stringRef RX0 108 "no such literal") (by decide +kernel)) q108
  refine ⟨fun k => if k = 63 then s63 else if k = 72 then s72 else if k = 95 then s95 else if k = 104 then s104 else if k = 106 then s106 else s108, fun q hq => ?_⟩
  rcases List.mem_cons.mp hq with rfl | hq
  · exact p63
  rcases List.mem_cons.mp hq with rfl | hq
  · exact p72
  rcases List.mem_cons.mp hq with rfl | hq
  · exact p95
  rcases List.mem_cons.mp hq with rfl | hq
  · exact p104
  rcases List.mem_cons.mp hq with rfl | hq
  · exact p106
  rcases List.mem_cons.mp hq with rfl | hq
  · exact p108
  nomatch hq
set_option maxHeartbeats 4000000 in
set_option maxRecDepth 100000 in
theorem law_loop {p : Program} {l : Launch} {e : Env} {s : State} {m : MethodId} {below : List Frame} {meth : Method} {c : Code} (hl9 : l.stackTraces = false) {D : va_G} {b L : Nat} {xs : Nat → Int32} (hL : L ≤ 2560) (C0 : lw_At p s m meth c b L xs) (hT : gT (fun q : Nat => s.heap.size ≤ q) s s.heap) {h0 h1 qo : Nat} {cI cB cZ cL : ClassId} (hK : va_K D vwCl [(cI, .int), (cB, .byte), (cZ, .boolean), (cL, .long)] s) {am : Nat → Nat} :
    ∀ (k t : Nat), 513 ≤ t + k → 5 * t ≤ L → ∀ (n nc ic : Nat) (g : Ct) (bv : Nat → Bool) (ad : Nat → Nat) (ar : Nat → Nat → Int32) (iv : Nat → Int32) (f : Nat → Int64) (ar1 : Nat → Nat → Int32) (iv1 : Nat → Int32) (H : Heap) (locs : List Loc) (ls : Array Slot), gb_ok n nc ic g bv ar iv → mm_ok nc ic g bv ar1 iv1 → nc ≤ 1 + 6 * t → n ≤ 16 * nc → va_P D vwCl (lawW h0 h1 qo cI cB cZ cL n ad ar iv f am ar1 iv1) H → va_D (fun q : Nat => s.heap.size ≤ q) (lawW h0 h1 qo cI cB cZ cL n ad ar iv f am ar1 iv1) → va_S (fun q : Nat => s.heap.size ≤ q) s.heap H locs → lv_has ls 7 [(4, .int (nI (5 * t))), (0, .ref b), (1, .ref h0), (2, .ref h1), (3, .ref qo)] → W p l e room_1 s m #[Value.ref b] below meth c H locs (4 * t + n + 16) (24 * t + 16 * n + 100148) (lw_Z below #[Value.ref b] s) (F0 m 23 ls []) := by
  intro k
  induction k with
  | zero => intro t h1 h2; omega
  | succ k ih =>
    intro t hk5 ht5 n nc ic g bv ad ar iv f ar1 iv1 H locs ls hok hmm hnc hn16 hP hD hS hl
    obtain ⟨hx, hb, hr, hml, hown, hts0, hX, hbl, hlocks, hgv⟩ := id C0
    have hbA : ¬ (fun q : Nat => s.heap.size ≤ q) b := Nat.not_le.mpr hbl
    have h1c := hmm.n1
    refine lv_iload hx hb dL_law_23 (lv_at hl 0 rfl) ?_
    refine lv_aload_n hx hb dL_law_25 rfl (lv_at hl 1 rfl) ?_
    refine va_slen hx hb hX hbl hbA hS dL_law_26 ?_
    refine lv_iconst (v := 5) hx hb dL_law_27 (by decide) ?_
    refine lv_isub hx hb dL_law_28 ?_
    refine lv_icmp_gt (tgt := 825) hx hb dL_law_29 (by decide) (fun c29 => ?_) (fun c29 => ?_)
    · refine lv_iconst (v := 1) hx hb dL_law_825 (by decide) ?_
      refine va_forget (fun q hq => hS.2.2 q hq) ?_
      refine W.widen (k := 61024) (n := 8913034) (by omega) (by omega) ?_
      exact lw_ret hx hb hr hlocks dL_law_826
    · have hi5 : 5 * t + 5 ≤ L := la_go hL (by omega) c29
      have hnx : la_nx p l e s m below meth c b D h0 h1 qo cI cB cZ cL am (5 * t) n nc (4 * t + n + 16) (24 * t + 16 * n + 100148) := by
        intro u w f K H locs ls hf hP hD hS hl
        obtain ⟨nc', ic', g', bv', q1, q2, q3, q4, q5, q6⟩ := hf
        obtain ⟨v9, e9⟩ : ∃ y : Int32, y = nI (5 * t) + 5 := ⟨_, rfl⟩
        refine lv_iinc (v := v9) (lv' := [(4, .int v9), (0, .ref b), (1, .ref h0), (2, .ref h1), (3, .ref qo)]) hx hb dL_law_819 hl (k := 0) rfl (by rw [e9]; rfl) (by decide) rfl (fun ls hl => ?_)
        refine lv_goto (tgt := 23) hx hb dL_law_822 (by decide) ?_
        refine W.widen (k := 4 * (t + 1) + u.1 + 16) (n := 24 * (t + 1) + 16 * u.1 + 100148) (by omega) (by omega) ?_
        have e8 : v9 = nI (5 * (t + 1)) := by rw [e9, show 5 * (t + 1) = 5 * t + 5 by omega]; exact nI_add (5 * t) 5
        exact ih (t + 1) (by omega) (by omega) u.1 nc' ic' g' bv' u.2.1 u.2.2.1 u.2.2.2 f w.1 w.2 H locs ls q1 q2 (by omega) q6 hP hD hS (by rw [← e8]; exact hl)
      refine lv_aload_n hx hb dL_law_32 rfl (lv_at hl 1 rfl) ?_
      refine lv_iload hx hb dL_law_33 (lv_at hl 0 rfl) ?_
      refine va_sld hx hb hX hbl hbA hS (vp_in_nI (by omega) (by omega)) dL_law_35 ?_
      refine lv_topi (fun v35 e35 => ?_)
      refine lv_bipush (v := 15) hx hb dL_law_36 (by decide) ?_
      refine lv_iand hx hb dL_law_38 ?_
      refine lv_topi (fun v38 e38 => ?_)
      obtain ⟨j, hj, e37⟩ := pk_andE v35 (m := 15) 4 (by decide)
      have e38 := e38.trans e37
      have hj : j < 16 := hj
      rcases (show j = 0 ∨ j = 1 ∨ j = 2 ∨ j = 3 ∨ j = 4 ∨ j = 5 ∨ j = 6 ∨ j = 7 ∨ j = 8 ∨ j = 9 ∨ j = 10 ∨ j = 11 ∨ 12 ≤ j by omega) with rfl | rfl | rfl | rfl | rfl | rfl | rfl | rfl | rfl | rfl | rfl | rfl | hj12
      · refine lv_tableIn (tgt := 100) hx hb dL_law_39 (by rw [e38]; decide) (by rw [e38]; decide) (by rw [e38]; rfl) (by decide) ?_
        exact law_input hl9 hL C0 hT hK hi5 hok hmm (by omega) hn16 (by omega) (by omega) hP hD hS hl hnx
      · refine lv_tableIn (tgt := 144) hx hb dL_law_39 (by rw [e38]; decide) (by rw [e38]; decide) (by rw [e38]; rfl) (by decide) ?_
        exact law_and hl9 hL C0 hT hK hi5 hok hmm (by omega) hn16 (by omega) (by omega) hP hD hS hl hnx
      · refine lv_tableIn (tgt := 212) hx hb dL_law_39 (by rw [e38]; decide) (by rw [e38]; decide) (by rw [e38]; rfl) (by decide) ?_
        exact law_join hl9 hL C0 hT hK hi5 hok hmm (by omega) hn16 (by omega) (by omega) hP hD hS hl hnx
      · refine lv_tableIn (tgt := 292) hx hb dL_law_39 (by rw [e38]; decide) (by rw [e38]; decide) (by rw [e38]; rfl) (by decide) ?_
        exact law_three hl9 hL C0 hT hK hi5 hok hmm (by omega) hn16 (by omega) (by omega) hP hD hS hl hnx
      · refine lv_tableIn (tgt := 384) hx hb dL_law_39 (by rw [e38]; decide) (by rw [e38]; decide) (by rw [e38]; rfl) (by decide) ?_
        exact law_set hl9 hL C0 hT hK hi5 hok hmm (by omega) hn16 (by omega) (by omega) hP hD hS hl hnx
      · refine lv_tableIn (tgt := 475) hx hb dL_law_39 (by rw [e38]; decide) (by rw [e38]; decide) (by rw [e38]; rfl) (by decide) ?_
        exact law_value hl9 hL C0 hT hK hi5 hok hmm (by omega) hn16 (by omega) (by omega) hP hD hS hl hnx
      · refine lv_tableIn (tgt := 538) hx hb dL_law_39 (by rw [e38]; decide) (by rw [e38]; decide) (by rw [e38]; rfl) (by decide) ?_
        exact law_node hl9 hL C0 hT hK hi5 hok hmm (by omega) hn16 (by omega) (by omega) hP hD hS hl hnx
      · refine lv_tableIn (tgt := 606) hx hb dL_law_39 (by rw [e38]; decide) (by rw [e38]; decide) (by rw [e38]; rfl) (by decide) ?_
        exact law_cone hl9 hL C0 hT hK hi5 hok hmm (by omega) hn16 (by omega) (by omega) hP hD hS hl hnx
      · refine lv_tableIn (tgt := 662) hx hb dL_law_39 (by rw [e38]; decide) (by rw [e38]; decide) (by rw [e38]; rfl) (by decide) ?_
        exact law_below hl9 hL C0 hT hK hi5 hok hmm (by omega) hn16 (by omega) (by omega) hP hD hS hl hnx
      · refine lv_tableIn (tgt := 737) hx hb dL_law_39 (by rw [e38]; decide) (by rw [e38]; decide) (by rw [e38]; rfl) (by decide) ?_
        exact law_depth hl9 hL C0 hT hK hi5 hok hmm (by omega) hn16 (by omega) (by omega) hP hD hS hl hnx
      · refine lv_tableIn (tgt := 793) hx hb dL_law_39 (by rw [e38]; decide) (by rw [e38]; decide) (by rw [e38]; rfl) (by decide) ?_
        exact law_nodes hl9 hL C0 hT hK hi5 hok hmm (by omega) hn16 (by omega) (by omega) hP hD hS hl hnx
      · refine lv_tableIn (tgt := 806) hx hb dL_law_39 (by rw [e38]; decide) (by rw [e38]; decide) (by rw [e38]; rfl) (by decide) ?_
        exact law_inputs hl9 hL C0 hT hK hi5 hok hmm (by omega) hn16 (by omega) (by omega) hP hD hS hl hnx
      · refine lv_tableOut (tgt := 819) hx hb dL_law_39 (Or.inr (by rw [e38, nI_toInt (by omega)]; omega)) (by decide) ?_
        refine W.widen (k := 4 * t + n + 16 + 4 + 0) (n := 24 * t + 16 * n + 100148 + 24 + 16 * 0) (by omega) (by omega) ?_
        exact hnx (n, ad, ar, iv) (ar1, iv1) f 0 H locs ls ⟨nc, ic, g, bv, hok, hmm, Nat.le_refl _, by omega, rfl, hn16⟩ hP hD hS hl
