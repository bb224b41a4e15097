set_option maxHeartbeats 4000000 in
set_option maxRecDepth 100000 in
theorem law_head {p : Program} {e : Env} {s : State} {m : MethodId} {below : List Frame} {meth : Method} {c : Code} (l : Launch) {b : Nat} {xs : Nat → Int32} (C0 : lw_At p s m meth c b 6 xs) (hN : nw_C s) {D : va_G} (x0 : Nat) (pg : Nat) (rd : Nat) (aq : Nat) (py : Nat) (pl : Nat) (ch : Nat) (ro : Nat) (cd : Nat) (rw : Nat) (rc : Nat) (a1 : Nat) (a2 : Nat) (a3 : Nat) (a4 : Nat) (r1 : Nat) (r2 : Nat) (cI : ClassId) (cP : ClassId) (m0 : Nat) (mp : Nat) (mw : Nat) (mh : Nat) (mo : Nat) (m5 : Nat) (m6 : Nat) (m7 : Nat) (mk : Nat) (mn : Nat) (mq : Nat) (m8 : Nat) (m9 : Nat) (ma : Nat) (mb : Nat) (md : Nat) (cM : ClassId) (cK : ClassId) (cN : ClassId) {H : Heap} {locs : List Loc} (hK : va_K D vwCl [(cI, .int), (cP, .object RX3), (cM, .int), (cK, .int), (cN, .int)] s) (hP : va_P D vwCl [(x0, .inr (11, [.ref pg, .ref rd, .ref aq, .ref py, .ref pl, .ref ch, .ref ro, .int 0, .int 0])), (pg, .inr (2, [.ref cd, .int 0])), (cd, .inl (cI, 90, .inl (fun _ => 0))), (rd, .inr (7, [.ref rw, .ref rc, .int 0, .int 0, .int 0, .int 0, .int 0])), (aq, .inr (5, [.ref a1, .ref a2, .ref a3, .ref a4, .int 0, .int 0, .long 0])), (py, .inl (cP, 8, .inr (.inr (.inr (.inr (fun _ => none)))))), (ro, .inr (8, [.ref r1, .ref r2, .int 0])), (m0, .inr (12, [.ref mp, .int 0, .int 0, .int 0, .ref mw, .ref mh, .ref mo, .int 0, .int 0, .int 0, .int 0, .int 0, .int 0, .ref m5, .ref m6, .ref m7, .long 0, .int 0, .ref mk, .ref mn, .int 0, .ref mq, .ref m8, .ref m9, .int 0, .int 0, .int 0, .int 0, .ref ma, .int 0, .ref mb, .ref md, .long 0])), (mp, .inl (cM, 90, .inl (fun _ => 0))), (mk, .inl (cK, 8, .inl (fun _ => 0))), (mn, .inl (cN, 32, .inl (fun _ => 0)))] H) (hD : va_D (AA s) [(x0, .inr (11, [.ref pg, .ref rd, .ref aq, .ref py, .ref pl, .ref ch, .ref ro, .int 0, .int 0])), (pg, .inr (2, [.ref cd, .int 0])), (cd, .inl (cI, 90, .inl (fun _ => 0))), (rd, .inr (7, [.ref rw, .ref rc, .int 0, .int 0, .int 0, .int 0, .int 0])), (aq, .inr (5, [.ref a1, .ref a2, .ref a3, .ref a4, .int 0, .int 0, .long 0])), (py, .inl (cP, 8, .inr (.inr (.inr (.inr (fun _ => none)))))), (ro, .inr (8, [.ref r1, .ref r2, .int 0])), (m0, .inr (12, [.ref mp, .int 0, .int 0, .int 0, .ref mw, .ref mh, .ref mo, .int 0, .int 0, .int 0, .int 0, .int 0, .int 0, .ref m5, .ref m6, .ref m7, .long 0, .int 0, .ref mk, .ref mn, .int 0, .ref mq, .ref m8, .ref m9, .int 0, .int 0, .int 0, .int 0, .ref ma, .int 0, .ref mb, .ref md, .long 0])), (mp, .inl (cM, 90, .inl (fun _ => 0))), (mk, .inl (cK, 8, .inl (fun _ => 0))), (mn, .inl (cN, 32, .inl (fun _ => 0)))]) (hS : va_S (AA s) s.heap H locs) {ls : Array Slot} (hl : lv_has ls 4 [(3, .int 0), (2, .ref m0), (1, .ref x0), (0, .ref b)]) : W p l e room_1 s m #[Value.ref b] below meth c H locs 62 2530 (lw_Z below #[Value.ref b] s) (F0 m 18 ls []) := by
  obtain ⟨hx, hb, hr, hml, hown, hts, hX, hbl, hlocks, hgv⟩ := id C0
  have hg := fun (w : Cond) (h : w ∈ gw_tbl) => hts w (gw_lw h)
  have hown : s.vm.findClass RL = some m.cls := hown
  have hbA : ¬ AA s b := Nat.not_le.mpr hbl
  have hA : ∀ q : Nat, s.heap.size ≤ q → AA s q := fun _ h => h
  refine lv_iload_n hx hb dL_law_18 rfl (lv_at hl 0 rfl) ?_
  refine lv_aload_n hx hb dL_law_19 rfl (lv_at hl 3 rfl) ?_
  refine va_slen hx hb hX hbl hbA hS dL_law_20 ?_
  refine W.eq (g2 := F0 m 21 ls [.int 6, .int 0]) rfl ?_
  refine lv_bipush (v := 6) hx hb dL_law_21 (by decide) ?_
  refine lv_isub hx hb dL_law_23 ?_
  refine lv_topi (fun z_23 e_23 => ?_)
  obtain rfl : z_23 = (0 : Int32) := e_23.trans (by decide)
  refine lv_icmp_gt (tgt := 1107) hx hb dL_law_24 (by decide) (fun c_24 => absurd c_24 (by decide)) (fun c_24 => ?_)
  refine lv_aload_n hx hb dL_law_27 rfl (lv_at hl 3 rfl) ?_
  refine lv_iload_n hx hb dL_law_28 rfl (lv_at hl 0 rfl) ?_
  refine va_sld hx hb hX hbl hbA hS (show ¬ ((0 : Int32) < 0 ∨ 6 ≤ (0 : Int32).toNatClampNeg) by decide) dL_law_29 ?_
  refine W.eq (g2 := F0 m 30 ls (.int (xs 0) :: [])) rfl ?_
  refine lv_bipush (v := 31) hx hb dL_law_30 (by decide) ?_
  refine lv_iand hx hb dL_law_32 ?_
  refine lv_topi (fun z_32 e_32 => ?_)
  obtain ⟨j, hj, ej⟩ := pk_andE (xs 0) (m := 31) 5 rfl
  obtain rfl : z_32 = nI j := e_32.trans ej
  rcases lt32 hj with rfl | rfl | rfl | rfl | rfl | rfl | rfl | rfl | rfl | rfl | rfl | rfl | rfl | rfl | rfl | rfl | rfl | rfl | rfl | rfl | rfl | rfl | rfl | rfl | rfl | rfl | rfl | rfl | rfl | rfl | rfl | rfl
  · refine lv_tableIn (tgt := 156) hx hb dL_law_33 (by decide) (by decide) rfl (by decide) ?_
    exact law_case_0 l C0 hN x0 pg rd aq py pl ch ro cd rw rc a1 a2 a3 a4 r1 r2 cI cP m0 mp mw mh mo m5 m6 m7 mk mn mq m8 m9 ma mb md cM cK cN hK hP hD hS (lv_sub hl [0, 1, 2, 3] rfl)
  · refine lv_tableIn (tgt := 209) hx hb dL_law_33 (by decide) (by decide) rfl (by decide) ?_
    exact law_case_1 l C0 hN x0 pg rd aq py pl ch ro cd rw rc a1 a2 a3 a4 r1 r2 cI cP m0 mp mw mh mo m5 m6 m7 mk mn mq m8 m9 ma mb md cM cK cN hK hP hD hS (lv_sub hl [0, 1, 2, 3] rfl)
  · refine lv_tableIn (tgt := 222) hx hb dL_law_33 (by decide) (by decide) rfl (by decide) ?_
    exact law_case_2 l C0 hN x0 pg rd aq py pl ch ro cd rw rc a1 a2 a3 a4 r1 r2 cI cP m0 mp mw mh mo m5 m6 m7 mk mn mq m8 m9 ma mb md cM cK cN hK hP hD hS (lv_sub hl [0, 1, 2, 3] rfl)
  · refine lv_tableIn (tgt := 235) hx hb dL_law_33 (by decide) (by decide) rfl (by decide) ?_
    exact law_case_3 l C0 hN x0 pg rd aq py pl ch ro cd rw rc a1 a2 a3 a4 r1 r2 cI cP m0 mp mw mh mo m5 m6 m7 mk mn mq m8 m9 ma mb md cM cK cN hK hP hD hS (lv_sub hl [0, 1, 2, 3] rfl)
  · refine lv_tableIn (tgt := 248) hx hb dL_law_33 (by decide) (by decide) rfl (by decide) ?_
    exact law_case_4 l C0 hN x0 pg rd aq py pl ch ro cd rw rc a1 a2 a3 a4 r1 r2 cI cP m0 mp mw mh mo m5 m6 m7 mk mn mq m8 m9 ma mb md cM cK cN hK hP hD hS (lv_sub hl [0, 1, 2, 3] rfl)
  · refine lv_tableIn (tgt := 281) hx hb dL_law_33 (by decide) (by decide) rfl (by decide) ?_
    exact law_case_5 l C0 hN x0 pg rd aq py pl ch ro cd rw rc a1 a2 a3 a4 r1 r2 cI cP m0 mp mw mh mo m5 m6 m7 mk mn mq m8 m9 ma mb md cM cK cN hK hP hD hS (lv_sub hl [0, 1, 2, 3] rfl)
  · refine lv_tableIn (tgt := 314) hx hb dL_law_33 (by decide) (by decide) rfl (by decide) ?_
    exact law_case_6 l C0 hN x0 pg rd aq py pl ch ro cd rw rc a1 a2 a3 a4 r1 r2 cI cP m0 mp mw mh mo m5 m6 m7 mk mn mq m8 m9 ma mb md cM cK cN hK hP hD hS (lv_sub hl [0, 1, 2, 3] rfl)
  · refine lv_tableIn (tgt := 368) hx hb dL_law_33 (by decide) (by decide) rfl (by decide) ?_
    exact law_case_7 l C0 hN x0 pg rd aq py pl ch ro cd rw rc a1 a2 a3 a4 r1 r2 cI cP m0 mp mw mh mo m5 m6 m7 mk mn mq m8 m9 ma mb md cM cK cN hK hP hD hS (lv_sub hl [0, 1, 2, 3] rfl)
  · refine lv_tableIn (tgt := 431) hx hb dL_law_33 (by decide) (by decide) rfl (by decide) ?_
    exact law_case_8 l C0 hN x0 pg rd aq py pl ch ro cd rw rc a1 a2 a3 a4 r1 r2 cI cP m0 mp mw mh mo m5 m6 m7 mk mn mq m8 m9 ma mb md cM cK cN hK hP hD hS (lv_sub hl [0, 1, 2, 3] rfl)
  · refine lv_tableIn (tgt := 464) hx hb dL_law_33 (by decide) (by decide) rfl (by decide) ?_
    exact law_case_9 l C0 hN x0 pg rd aq py pl ch ro cd rw rc a1 a2 a3 a4 r1 r2 cI cP m0 mp mw mh mo m5 m6 m7 mk mn mq m8 m9 ma mb md cM cK cN hK hP hD hS (lv_sub hl [0, 1, 2, 3] rfl)
  · refine lv_tableIn (tgt := 497) hx hb dL_law_33 (by decide) (by decide) rfl (by decide) ?_
    exact law_case_10 l C0 hN x0 pg rd aq py pl ch ro cd rw rc a1 a2 a3 a4 r1 r2 cI cP m0 mp mw mh mo m5 m6 m7 mk mn mq m8 m9 ma mb md cM cK cN hK hP hD hS (lv_sub hl [0, 1, 2, 3] rfl)
  · refine lv_tableIn (tgt := 540) hx hb dL_law_33 (by decide) (by decide) rfl (by decide) ?_
    exact law_case_11 l C0 hN x0 pg rd aq py pl ch ro cd rw rc a1 a2 a3 a4 r1 r2 cI cP m0 mp mw mh mo m5 m6 m7 mk mn mq m8 m9 ma mb md cM cK cN hK hP hD hS (lv_sub hl [0, 1, 2, 3] rfl)
  · refine lv_tableIn (tgt := 594) hx hb dL_law_33 (by decide) (by decide) rfl (by decide) ?_
    exact law_case_12 l C0 hN x0 pg rd aq py pl ch ro cd rw rc a1 a2 a3 a4 r1 r2 cI cP m0 mp mw mh mo m5 m6 m7 mk mn mq m8 m9 ma mb md cM cK cN hK hP hD hS (lv_sub hl [0, 1, 2, 3] rfl)
  · refine lv_tableIn (tgt := 637) hx hb dL_law_33 (by decide) (by decide) rfl (by decide) ?_
    exact law_case_13 l C0 hN x0 pg rd aq py pl ch ro cd rw rc a1 a2 a3 a4 r1 r2 cI cP m0 mp mw mh mo m5 m6 m7 mk mn mq m8 m9 ma mb md cM cK cN hK hP hD hS (lv_sub hl [0, 1, 2, 3] rfl)
  · refine lv_tableIn (tgt := 691) hx hb dL_law_33 (by decide) (by decide) rfl (by decide) ?_
    exact law_case_14 l C0 hN x0 pg rd aq py pl ch ro cd rw rc a1 a2 a3 a4 r1 r2 cI cP m0 mp mw mh mo m5 m6 m7 mk mn mq m8 m9 ma mb md cM cK cN hK hP hD hS (lv_sub hl [0, 1, 2, 3] rfl)
  · refine lv_tableIn (tgt := 724) hx hb dL_law_33 (by decide) (by decide) rfl (by decide) ?_
    exact law_case_15 l C0 hN x0 pg rd aq py pl ch ro cd rw rc a1 a2 a3 a4 r1 r2 cI cP m0 mp mw mh mo m5 m6 m7 mk mn mq m8 m9 ma mb md cM cK cN hK hP hD hS (lv_sub hl [0, 1, 2, 3] rfl)
  · refine lv_tableIn (tgt := 767) hx hb dL_law_33 (by decide) (by decide) rfl (by decide) ?_
    exact law_case_16 l C0 hN x0 pg rd aq py pl ch ro cd rw rc a1 a2 a3 a4 r1 r2 cI cP m0 mp mw mh mo m5 m6 m7 mk mn mq m8 m9 ma mb md cM cK cN hK hP hD hS (lv_sub hl [0, 1, 2, 3] rfl)
  · refine lv_tableIn (tgt := 810) hx hb dL_law_33 (by decide) (by decide) rfl (by decide) ?_
    exact law_case_17 l C0 hN x0 pg rd aq py pl ch ro cd rw rc a1 a2 a3 a4 r1 r2 cI cP m0 mp mw mh mo m5 m6 m7 mk mn mq m8 m9 ma mb md cM cK cN hK hP hD hS (lv_sub hl [0, 1, 2, 3] rfl)
  · refine lv_tableIn (tgt := 833) hx hb dL_law_33 (by decide) (by decide) rfl (by decide) ?_
    exact law_case_18 l C0 hN x0 pg rd aq py pl ch ro cd rw rc a1 a2 a3 a4 r1 r2 cI cP m0 mp mw mh mo m5 m6 m7 mk mn mq m8 m9 ma mb md cM cK cN hK hP hD hS (lv_sub hl [0, 1, 2, 3] rfl)
  · refine lv_tableIn (tgt := 846) hx hb dL_law_33 (by decide) (by decide) rfl (by decide) ?_
    exact law_case_19 l C0 hN x0 pg rd aq py pl ch ro cd rw rc a1 a2 a3 a4 r1 r2 cI cP m0 mp mw mh mo m5 m6 m7 mk mn mq m8 m9 ma mb md cM cK cN hK hP hD hS (lv_sub hl [0, 1, 2, 3] rfl)
  · refine lv_tableIn (tgt := 869) hx hb dL_law_33 (by decide) (by decide) rfl (by decide) ?_
    exact law_case_20 l C0 hN x0 pg rd aq py pl ch ro cd rw rc a1 a2 a3 a4 r1 r2 cI cP m0 mp mw mh mo m5 m6 m7 mk mn mq m8 m9 ma mb md cM cK cN hK hP hD hS (lv_sub hl [0, 1, 2, 3] rfl)
  · refine lv_tableIn (tgt := 892) hx hb dL_law_33 (by decide) (by decide) rfl (by decide) ?_
    exact law_case_21 l C0 hN x0 pg rd aq py pl ch ro cd rw rc a1 a2 a3 a4 r1 r2 cI cP m0 mp mw mh mo m5 m6 m7 mk mn mq m8 m9 ma mb md cM cK cN hK hP hD hS (lv_sub hl [0, 1, 2, 3] rfl)
  · refine lv_tableIn (tgt := 925) hx hb dL_law_33 (by decide) (by decide) rfl (by decide) ?_
    exact law_case_22 l C0 hN x0 pg rd aq py pl ch ro cd rw rc a1 a2 a3 a4 r1 r2 cI cP m0 mp mw mh mo m5 m6 m7 mk mn mq m8 m9 ma mb md cM cK cN hK hP hD hS (lv_sub hl [0, 1, 2, 3] rfl)
  · refine lv_tableIn (tgt := 988) hx hb dL_law_33 (by decide) (by decide) rfl (by decide) ?_
    exact law_case_23 l C0 hN x0 pg rd aq py pl ch ro cd rw rc a1 a2 a3 a4 r1 r2 cI cP m0 mp mw mh mo m5 m6 m7 mk mn mq m8 m9 ma mb md cM cK cN hK hP hD hS (lv_sub hl [0, 1, 2, 3] rfl)
  · refine lv_tableIn (tgt := 1031) hx hb dL_law_33 (by decide) (by decide) rfl (by decide) ?_
    exact law_case_24 l C0 hN x0 pg rd aq py pl ch ro cd rw rc a1 a2 a3 a4 r1 r2 cI cP m0 mp mw mh mo m5 m6 m7 mk mn mq m8 m9 ma mb md cM cK cN hK hP hD hS (lv_sub hl [0, 1, 2, 3] rfl)
  · refine lv_tableIn (tgt := 1064) hx hb dL_law_33 (by decide) (by decide) rfl (by decide) ?_
    exact law_case_25 l C0 hN x0 pg rd aq py pl ch ro cd rw rc a1 a2 a3 a4 r1 r2 cI cP m0 mp mw mh mo m5 m6 m7 mk mn mq m8 m9 ma mb md cM cK cN hK hP hD hS (lv_sub hl [0, 1, 2, 3] rfl)
  · refine lv_tableIn (tgt := 1087) hx hb dL_law_33 (by decide) (by decide) rfl (by decide) ?_
    exact law_case_26 l C0 hN x0 pg rd aq py pl ch ro cd rw rc a1 a2 a3 a4 r1 r2 cI cP m0 mp mw mh mo m5 m6 m7 mk mn mq m8 m9 ma mb md cM cK cN hK hP hD hS (lv_sub hl [0, 1, 2, 3] rfl)
  · refine lv_tableOut (tgt := 1101) hx hb dL_law_33 (Or.inr (by decide)) (by decide) ?_
    exact law_end l C0 hS (lv_sub hl [0, 1, 2, 3] rfl) (Nat.le_of_ble_eq_true rfl) (Nat.le_of_ble_eq_true rfl)
  · refine lv_tableOut (tgt := 1101) hx hb dL_law_33 (Or.inr (by decide)) (by decide) ?_
    exact law_end l C0 hS (lv_sub hl [0, 1, 2, 3] rfl) (Nat.le_of_ble_eq_true rfl) (Nat.le_of_ble_eq_true rfl)
  · refine lv_tableOut (tgt := 1101) hx hb dL_law_33 (Or.inr (by decide)) (by decide) ?_
    exact law_end l C0 hS (lv_sub hl [0, 1, 2, 3] rfl) (Nat.le_of_ble_eq_true rfl) (Nat.le_of_ble_eq_true rfl)
  · refine lv_tableOut (tgt := 1101) hx hb dL_law_33 (Or.inr (by decide)) (by decide) ?_
    exact law_end l C0 hS (lv_sub hl [0, 1, 2, 3] rfl) (Nat.le_of_ble_eq_true rfl) (Nat.le_of_ble_eq_true rfl)
  · refine lv_tableOut (tgt := 1101) hx hb dL_law_33 (Or.inr (by decide)) (by decide) ?_
    exact law_end l C0 hS (lv_sub hl [0, 1, 2, 3] rfl) (Nat.le_of_ble_eq_true rfl) (Nat.le_of_ble_eq_true rfl)

set_option maxHeartbeats 4000000 in
set_option maxRecDepth 100000 in
theorem law_short {p : Program} {e : Env} {s : State} {m : MethodId} {below : List Frame} {meth : Method} {c : Code} (l : Launch) {b : Nat} {xs : Nat → Int32} {L : Nat} (hL6 : L < 6) (C0 : lw_At p s m meth c b L xs) {x0 m0 : Nat} {H : Heap} {locs : List Loc} (hS : va_S (AA s) s.heap H locs) {ls : Array Slot} (hl : lv_has ls 4 [(3, .int 0), (2, .ref m0), (1, .ref x0), (0, .ref b)]) {kc ks : Nat} (hc1 : kc ≤ 600000) (hc2 : ks ≤ 7302250) : W p l e room_1 s m #[Value.ref b] below meth c H locs kc ks (lw_Z below #[Value.ref b] s) (F0 m 18 ls []) := by
  obtain ⟨hx, hb, hr, hml, hown, hts, hX, hbl, hlocks, hgv⟩ := C0
  have hg := fun (w : Cond) (h : w ∈ gw_tbl) => hts w (gw_lw h)
  have hown : s.vm.findClass RL = some m.cls := hown
  have hbA : ¬ AA s b := Nat.not_le.mpr hbl
  have hA : ∀ q : Nat, s.heap.size ≤ q → AA s q := fun _ h => h
  refine lv_iload_n hx hb dL_law_18 rfl (lv_at hl 0 rfl) ?_
  refine lv_aload_n hx hb dL_law_19 rfl (lv_at hl 3 rfl) ?_
  refine va_slen hx hb hX hbl hbA hS dL_law_20 ?_
  refine lv_bipush (v := 6) hx hb dL_law_21 (by decide) ?_
  refine lv_isub hx hb dL_law_23 ?_
  refine lv_topi (fun z_23 e_23 => ?_)
  refine lv_icmp_gt (tgt := 1107) hx hb dL_law_24 (by decide) (fun c_24 => ?_) (fun c_24 => absurd (show z_23 < 0 from by rw [e_23]; exact pk_sneg (b := 6) (by decide) hL6) c_24)
  refine lv_iconst (v := 1) hx hb dL_law_1107 (by decide) ?_
  refine va_forget (fun q hq => hS.2.2 q hq) ?_
  refine W.widen (k := 600000) (n := 7302250) hc1 hc2 ?_
  exact lw_ret hx hb hr hlocks dL_law_1108
