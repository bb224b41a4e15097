set_option maxHeartbeats 4000000 in
set_option maxRecDepth 100000 in
theorem law_back {p : Program} {e : Env} {s : State} {m : MethodId} {below : List Frame} {meth : Method} {c : Code} (l : Launch) {b L : Nat} {xs : Nat → Int32} (C0 : lw_At p s m meth c b L xs) {x0 m0 tk : Nat} {H : Heap} {locs : List Loc} {ls : Array Slot} (hl : lv_has ls 4 [(3, .int (nI (6 * tk))), (2, .ref m0), (1, .ref x0), (0, .ref b)]) {kc ks : Nat} (kk : ∀ ls : Array Slot, lv_has ls 4 [(3, .int (nI (6 * tk + 6))), (2, .ref m0), (1, .ref x0), (0, .ref b)] → W p l e room_1 s m #[Value.ref b] below meth c H locs kc ks (lw_Z below #[Value.ref b] s) (F0 m 18 ls [])) : W p l e room_1 s m #[Value.ref b] below meth c H locs kc ks (lw_Z below #[Value.ref b] s) (F0 m 1097 ls []) := by
  obtain ⟨hx, hb, hr, hml, hown, hts, hX, hbl, hlocks, hgv⟩ := id C0
  have hg := fun (w : Cond) (h : w ∈ gw_tbl) => hts w (gw_lw h)
  have hown : s.vm.findClass RL = some m.cls := hown
  have hbA : ¬ AA s b := Nat.not_le.mpr hbl
  have hA : ∀ q : Nat, s.heap.size ≤ q → AA s q := fun _ h => h
  refine lv_iinc (v := (nI (6 * tk + 6))) (lv' := [(3, .int (nI (6 * tk + 6))), (2, .ref m0), (1, .ref x0), (0, .ref b)]) hx hb dL_law_1097 hl (k := 0) rfl (nI_add (6 * tk) 6) (by decide) rfl (fun ls hl => ?_)
  refine lv_goto (tgt := 18) hx hb dL_law_1100 (by decide) ?_
  exact kk ls (lv_sub hl [0, 1, 2, 3] rfl)

theorem hd_go {tk L : Nat} {z : Int32} (hL : L ≤ 3072) (h : 6 * tk + 6 ≤ L) (e : z = nI L - 6) : ¬ z < nI (6 * tk) := by
  rw [fa_lt, e, show (6 : Int32) = nI 6 from rfl, pk_sub_toInt (by omega) (by decide), nI_toInt (by omega)]
  omega
theorem hd_no {tk L : Nat} {z : Int32} (hL : L ≤ 3072) (ht : 6 * tk ≤ L) (h : ¬ 6 * tk + 6 ≤ L) (e : z = nI L - 6) : z < nI (6 * tk) := by
  rw [fa_lt, e, show (6 : Int32) = nI 6 from rfl, pk_sub_toInt (by omega) (by decide), nI_toInt (by omega)]
  omega

set_option maxHeartbeats 4000000 in
set_option maxRecDepth 100000 in
theorem law_head {p : Program} {e : Env} {s : State} {m : MethodId} {below : List Frame} {meth : Method} {c : Code} (l : Launch) {b L : Nat} {xs : Nat → Int32} (hL : L ≤ 3072) (C0 : lw_At p s m meth c b L xs) (hN : nw_C s) (hI : ic_C s) {D : va_G} {cs : Nat → ClassId} (hK : va_K D vwCl (GT cs) s) {x0 m0 tk : Nat} (ht6 : 6 * tk + 6 ≤ L) {H : Heap} {locs : List Loc} (hV : INV D cs (AA s) x0 m0 H) (hS : va_S (AA s) s.heap H locs) {ls : Array Slot} (hl : lv_has ls 4 [(3, .int (nI (6 * tk))), (2, .ref m0), (1, .ref x0), (0, .ref b)]) {kc ks : Nat} (hc1 : kc + 8 ≤ 689804) (hc2 : ks + 8192 ≤ 7032836) (kk : ∀ (H : Heap) (locs : List Loc) (ls : Array Slot), INV D cs (AA s) x0 m0 H → va_S (AA s) s.heap H locs → lv_has ls 4 [(3, .int (nI (6 * tk))), (2, .ref m0), (1, .ref x0), (0, .ref b)] → W p l e room_1 s m #[Value.ref b] below meth c H locs (kc + 8) (ks + 8192) (lw_Z below #[Value.ref b] s) (F0 m 1097 ls [])) : W p l e room_1 s m #[Value.ref b] below meth c H locs kc ks (lw_Z below #[Value.ref b] s) (F0 m 18 ls []) := by
  obtain ⟨hx, hb, hr, hml, hown, hts, hX, hbl, hlocks, hgv⟩ := id C0
  have hg := fun (w : Cond) (h : w ∈ gw_tbl) => hts w (gw_lw h)
  have hown : s.vm.findClass RL = some m.cls := hown
  have hbA : ¬ AA s b := Nat.not_le.mpr hbl
  have hA : ∀ q : Nat, s.heap.size ≤ q → AA s q := fun _ h => h
  refine lv_iload_n hx hb dL_law_18 rfl (lv_at hl 0 rfl) ?_
  refine lv_aload_n hx hb dL_law_19 rfl (lv_at hl 3 rfl) ?_
  refine va_slen hx hb hX hbl hbA hS dL_law_20 ?_
  refine lv_bipush (v := 6) hx hb dL_law_21 (by decide) ?_
  refine lv_isub hx hb dL_law_23 ?_
  refine lv_topi (fun z_23 e_23 => ?_)
  refine lv_icmp_gt (tgt := 1103) hx hb dL_law_24 (by decide) (fun c_24 => absurd c_24 (hd_go hL ht6 e_23)) (fun c_24 => ?_)
  refine lv_aload_n hx hb dL_law_27 rfl (lv_at hl 3 rfl) ?_
  refine lv_iload_n hx hb dL_law_28 rfl (lv_at hl 0 rfl) ?_
  refine va_sld hx hb hX hbl hbA hS (vp_in_nI (show 6 * tk < L by omega) (by omega)) dL_law_29 ?_
  refine lv_topi (fun z_29 e_29 => ?_)
  refine lv_bipush (v := 31) hx hb dL_law_30 (by decide) ?_
  refine lv_iand hx hb dL_law_32 ?_
  refine lv_topi (fun z_32 e_32 => ?_)
  obtain ⟨j, hj, ej⟩ := pk_andE z_29 (m := 31) 5 rfl
  obtain rfl : z_32 = nI j := e_32.trans ej
  rcases lt32 hj with rfl | rfl | rfl | rfl | rfl | rfl | rfl | rfl | rfl | rfl | rfl | rfl | rfl | rfl | rfl | rfl | rfl | rfl | rfl | rfl | rfl | rfl | rfl | rfl | rfl | rfl | rfl | rfl | rfl | rfl | rfl | rfl
  · refine lv_tableIn (tgt := 156) hx hb dL_law_33 (by decide) (by decide) rfl (by decide) ?_
    exact law_case_0 l hL C0 hN hI hK ht6 hV hS (lv_sub hl [0, 1, 2, 3] rfl) hc1 hc2 kk
  · refine lv_tableIn (tgt := 209) hx hb dL_law_33 (by decide) (by decide) rfl (by decide) ?_
    exact law_case_1 l hL C0 hN hI hK ht6 hV hS (lv_sub hl [0, 1, 2, 3] rfl) hc1 hc2 kk
  · refine lv_tableIn (tgt := 222) hx hb dL_law_33 (by decide) (by decide) rfl (by decide) ?_
    exact law_case_2 l hL C0 hN hI hK ht6 hV hS (lv_sub hl [0, 1, 2, 3] rfl) hc1 hc2 kk
  · refine lv_tableIn (tgt := 235) hx hb dL_law_33 (by decide) (by decide) rfl (by decide) ?_
    exact law_case_3 l hL C0 hN hI hK ht6 hV hS (lv_sub hl [0, 1, 2, 3] rfl) hc1 hc2 kk
  · refine lv_tableIn (tgt := 248) hx hb dL_law_33 (by decide) (by decide) rfl (by decide) ?_
    exact law_case_4 l hL C0 hN hI hK ht6 hV hS (lv_sub hl [0, 1, 2, 3] rfl) hc1 hc2 kk
  · refine lv_tableIn (tgt := 281) hx hb dL_law_33 (by decide) (by decide) rfl (by decide) ?_
    exact law_case_5 l hL C0 hN hI hK ht6 hV hS (lv_sub hl [0, 1, 2, 3] rfl) hc1 hc2 kk
  · refine lv_tableIn (tgt := 314) hx hb dL_law_33 (by decide) (by decide) rfl (by decide) ?_
    exact law_case_6 l hL C0 hN hI hK ht6 hV hS (lv_sub hl [0, 1, 2, 3] rfl) hc1 hc2 kk
  · refine lv_tableIn (tgt := 367) hx hb dL_law_33 (by decide) (by decide) rfl (by decide) ?_
    exact law_case_7 l hL C0 hN hI hK ht6 hV hS (lv_sub hl [0, 1, 2, 3] rfl) hc1 hc2 kk
  · refine lv_tableIn (tgt := 430) hx hb dL_law_33 (by decide) (by decide) rfl (by decide) ?_
    exact law_case_8 l hL C0 hN hI hK ht6 hV hS (lv_sub hl [0, 1, 2, 3] rfl) hc1 hc2 kk
  · refine lv_tableIn (tgt := 463) hx hb dL_law_33 (by decide) (by decide) rfl (by decide) ?_
    exact law_case_9 l hL C0 hN hI hK ht6 hV hS (lv_sub hl [0, 1, 2, 3] rfl) hc1 hc2 kk
  · refine lv_tableIn (tgt := 496) hx hb dL_law_33 (by decide) (by decide) rfl (by decide) ?_
    exact law_case_10 l hL C0 hN hI hK ht6 hV hS (lv_sub hl [0, 1, 2, 3] rfl) hc1 hc2 kk
  · refine lv_tableIn (tgt := 539) hx hb dL_law_33 (by decide) (by decide) rfl (by decide) ?_
    exact law_case_11 l hL C0 hN hI hK ht6 hV hS (lv_sub hl [0, 1, 2, 3] rfl) hc1 hc2 kk
  · refine lv_tableIn (tgt := 592) hx hb dL_law_33 (by decide) (by decide) rfl (by decide) ?_
    exact law_case_12 l hL C0 hN hI hK ht6 hV hS (lv_sub hl [0, 1, 2, 3] rfl) hc1 hc2 kk
  · refine lv_tableIn (tgt := 635) hx hb dL_law_33 (by decide) (by decide) rfl (by decide) ?_
    exact law_case_13 l hL C0 hN hI hK ht6 hV hS (lv_sub hl [0, 1, 2, 3] rfl) hc1 hc2 kk
  · refine lv_tableIn (tgt := 688) hx hb dL_law_33 (by decide) (by decide) rfl (by decide) ?_
    exact law_case_14 l hL C0 hN hI hK ht6 hV hS (lv_sub hl [0, 1, 2, 3] rfl) hc1 hc2 kk
  · refine lv_tableIn (tgt := 721) hx hb dL_law_33 (by decide) (by decide) rfl (by decide) ?_
    exact law_case_15 l hL C0 hN hI hK ht6 hV hS (lv_sub hl [0, 1, 2, 3] rfl) hc1 hc2 kk
  · refine lv_tableIn (tgt := 764) hx hb dL_law_33 (by decide) (by decide) rfl (by decide) ?_
    exact law_case_16 l hL C0 hN hI hK ht6 hV hS (lv_sub hl [0, 1, 2, 3] rfl) hc1 hc2 kk
  · refine lv_tableIn (tgt := 807) hx hb dL_law_33 (by decide) (by decide) rfl (by decide) ?_
    exact law_case_17 l hL C0 hN hI hK ht6 hV hS (lv_sub hl [0, 1, 2, 3] rfl) hc1 hc2 kk
  · refine lv_tableIn (tgt := 830) hx hb dL_law_33 (by decide) (by decide) rfl (by decide) ?_
    exact law_case_18 l hL C0 hN hI hK ht6 hV hS (lv_sub hl [0, 1, 2, 3] rfl) hc1 hc2 kk
  · refine lv_tableIn (tgt := 843) hx hb dL_law_33 (by decide) (by decide) rfl (by decide) ?_
    exact law_case_19 l hL C0 hN hI hK ht6 hV hS (lv_sub hl [0, 1, 2, 3] rfl) hc1 hc2 kk
  · refine lv_tableIn (tgt := 866) hx hb dL_law_33 (by decide) (by decide) rfl (by decide) ?_
    exact law_case_20 l hL C0 hN hI hK ht6 hV hS (lv_sub hl [0, 1, 2, 3] rfl) hc1 hc2 kk
  · refine lv_tableIn (tgt := 889) hx hb dL_law_33 (by decide) (by decide) rfl (by decide) ?_
    exact law_case_21 l hL C0 hN hI hK ht6 hV hS (lv_sub hl [0, 1, 2, 3] rfl) hc1 hc2 kk
  · refine lv_tableIn (tgt := 922) hx hb dL_law_33 (by decide) (by decide) rfl (by decide) ?_
    exact law_case_22 l hL C0 hN hI hK ht6 hV hS (lv_sub hl [0, 1, 2, 3] rfl) hc1 hc2 kk
  · refine lv_tableIn (tgt := 985) hx hb dL_law_33 (by decide) (by decide) rfl (by decide) ?_
    exact law_case_23 l hL C0 hN hI hK ht6 hV hS (lv_sub hl [0, 1, 2, 3] rfl) hc1 hc2 kk
  · refine lv_tableIn (tgt := 1028) hx hb dL_law_33 (by decide) (by decide) rfl (by decide) ?_
    exact law_case_24 l hL C0 hN hI hK ht6 hV hS (lv_sub hl [0, 1, 2, 3] rfl) hc1 hc2 kk
  · refine lv_tableIn (tgt := 1061) hx hb dL_law_33 (by decide) (by decide) rfl (by decide) ?_
    exact law_case_25 l hL C0 hN hI hK ht6 hV hS (lv_sub hl [0, 1, 2, 3] rfl) hc1 hc2 kk
  · refine lv_tableIn (tgt := 1084) hx hb dL_law_33 (by decide) (by decide) rfl (by decide) ?_
    exact law_case_26 l hL C0 hN hI hK ht6 hV hS (lv_sub hl [0, 1, 2, 3] rfl) hc1 hc2 kk
  · refine lv_tableOut (tgt := 1097) hx hb dL_law_33 (Or.inr (by decide)) (by decide) ?_
    exact W.widen (k := kc + 8) (n := ks + 8192) (by omega) (by omega) (kk _ _ ls hV hS (lv_sub hl [0, 1, 2, 3] rfl))
  · refine lv_tableOut (tgt := 1097) hx hb dL_law_33 (Or.inr (by decide)) (by decide) ?_
    exact W.widen (k := kc + 8) (n := ks + 8192) (by omega) (by omega) (kk _ _ ls hV hS (lv_sub hl [0, 1, 2, 3] rfl))
  · refine lv_tableOut (tgt := 1097) hx hb dL_law_33 (Or.inr (by decide)) (by decide) ?_
    exact W.widen (k := kc + 8) (n := ks + 8192) (by omega) (by omega) (kk _ _ ls hV hS (lv_sub hl [0, 1, 2, 3] rfl))
  · refine lv_tableOut (tgt := 1097) hx hb dL_law_33 (Or.inr (by decide)) (by decide) ?_
    exact W.widen (k := kc + 8) (n := ks + 8192) (by omega) (by omega) (kk _ _ ls hV hS (lv_sub hl [0, 1, 2, 3] rfl))
  · refine lv_tableOut (tgt := 1097) hx hb dL_law_33 (Or.inr (by decide)) (by decide) ?_
    exact W.widen (k := kc + 8) (n := ks + 8192) (by omega) (by omega) (kk _ _ ls hV hS (lv_sub hl [0, 1, 2, 3] rfl))

set_option maxHeartbeats 4000000 in
set_option maxRecDepth 100000 in
theorem law_out {p : Program} {e : Env} {s : State} {m : MethodId} {below : List Frame} {meth : Method} {c : Code} (l : Launch) {b L : Nat} {xs : Nat → Int32} (hL : L ≤ 3072) (C0 : lw_At p s m meth c b L xs) {x0 m0 tk : Nat} (ht : 6 * tk ≤ L) (ht6 : ¬ 6 * tk + 6 ≤ L) {H : Heap} {locs : List Loc} (hS : va_S (AA s) s.heap H locs) {ls : Array Slot} (hl : lv_has ls 4 [(3, .int (nI (6 * tk))), (2, .ref m0), (1, .ref x0), (0, .ref b)]) {kc ks : Nat} (hc1 : kc ≤ 689804) (hc2 : ks ≤ 7032836) : W p l e room_1 s m #[Value.ref b] below meth c H locs kc ks (lw_Z below #[Value.ref b] s) (F0 m 18 ls []) := by
  obtain ⟨hx, hb, hr, hml, hown, hts, hX, hbl, hlocks, hgv⟩ := id C0
  have hg := fun (w : Cond) (h : w ∈ gw_tbl) => hts w (gw_lw h)
  have hown : s.vm.findClass RL = some m.cls := hown
  have hbA : ¬ AA s b := Nat.not_le.mpr hbl
  have hA : ∀ q : Nat, s.heap.size ≤ q → AA s q := fun _ h => h
  refine lv_iload_n hx hb dL_law_18 rfl (lv_at hl 0 rfl) ?_
  refine lv_aload_n hx hb dL_law_19 rfl (lv_at hl 3 rfl) ?_
  refine va_slen hx hb hX hbl hbA hS dL_law_20 ?_
  refine lv_bipush (v := 6) hx hb dL_law_21 (by decide) ?_
  refine lv_isub hx hb dL_law_23 ?_
  refine lv_topi (fun z_23 e_23 => ?_)
  refine lv_icmp_gt (tgt := 1103) hx hb dL_law_24 (by decide) (fun c_24 => ?_) (fun c_24 => absurd (hd_no hL ht ht6 e_23) c_24)
  exact law_end l C0 hS hc1 hc2

set_option maxHeartbeats 4000000 in
set_option maxRecDepth 100000 in
theorem law_loop {p : Program} {e : Env} {s : State} {m : MethodId} {below : List Frame} {meth : Method} {c : Code} (l : Launch) {b L : Nat} {xs : Nat → Int32} (hL : L ≤ 3072) (C0 : lw_At p s m meth c b L xs) (hN : nw_C s) (hI : ic_C s) {D : va_G} {cs : Nat → ClassId} (hK : va_K D vwCl (GT cs) s) {x0 m0 : Nat} : ∀ (n tk : Nat) (H : Heap) (locs : List Loc) (ls : Array Slot), 6 * tk ≤ L → L < 6 * tk + n → INV D cs (AA s) x0 m0 H → va_S (AA s) s.heap H locs → lv_has ls 4 [(3, .int (nI (6 * tk))), (2, .ref m0), (1, .ref x0), (0, .ref b)] → W p l e room_1 s m #[Value.ref b] below meth c H locs (62 + 8 * tk) (2530 + 8192 * tk) (lw_Z below #[Value.ref b] s) (F0 m 18 ls []) := by
  intro n
  induction n with
  | zero => intro tk H locs ls h1 h2; omega
  | succ n ih =>
    intro tk H locs ls h1 h2 hV hS hl
    by_cases ht6 : 6 * tk + 6 ≤ L
    · refine law_head l hL C0 hN hI hK ht6 hV hS hl (by omega) (by omega) (fun H locs ls hV hS hl => ?_)
      refine law_back l C0 hl (fun ls hl => ?_)
      have k := ih (tk + 1) H locs ls (by omega) (by omega) hV hS (by rw [show 6 * (tk + 1) = 6 * tk + 6 by omega]; exact hl)
      exact W.cs (by omega) (by omega) k
    · exact law_out l hL C0 h1 ht6 hS hl (by omega) (by omega)
