theorem kw_345 : (.code yX11_about cX11_about 4 (some .int) : Cond) ∈ gw_tbl := gw_in (by decide +kernel) (by decide +kernel)
theorem kw_346 : (.methodLink RL 56 yX11_about : Cond) ∈ gw_tbl := gw_in (by decide +kernel) (by decide +kernel)
theorem kw_347 : (.instanceMethod yX11_about : Cond) ∈ gw_tbl := gw_in (by decide +kernel) (by decide +kernel)
theorem kw_348 : (.selects RX11 yX11_about yX11_about : Cond) ∈ gw_tbl := gw_in (by decide +kernel) (by decide +kernel)
theorem kw_349 : (.code yX12_about cX12_about 3 (some .int) : Cond) ∈ gw_tbl := gw_in (by decide +kernel) (by decide +kernel)
theorem kw_350 : (.methodLink RL 59 yX12_about : Cond) ∈ gw_tbl := gw_in (by decide +kernel) (by decide +kernel)
theorem kw_351 : (.instanceMethod yX12_about : Cond) ∈ gw_tbl := gw_in (by decide +kernel) (by decide +kernel)
theorem kw_352 : (.selects RX12 yX12_about yX12_about : Cond) ∈ gw_tbl := gw_in (by decide +kernel) (by decide +kernel)

set_option maxHeartbeats 4000000 in
set_option maxRecDepth 100000 in
theorem law_case_9 {p : Program} {e : Env} {s : State} {m : MethodId} {below : List Frame} {meth : Method} {c : Code} (l : Launch) {b : Nat} {xs : Nat → Int32} (C0 : lw_At p s m meth c b 6 xs) (hN : nw_C s) {D : va_G} (x0 : Nat) (pg : Nat) (rd : Nat) (aq : Nat) (py : Nat) (pl : Nat) (ch : Nat) (ro : Nat) (cd : Nat) (rw : Nat) (rc : Nat) (a1 : Nat) (a2 : Nat) (a3 : Nat) (a4 : Nat) (r1 : Nat) (r2 : Nat) (cI : ClassId) (cP : ClassId) (m0 : Nat) (mp : Nat) (mw : Nat) (mh : Nat) (mo : Nat) (m5 : Nat) (m6 : Nat) (m7 : Nat) (mk : Nat) (mn : Nat) (mq : Nat) (m8 : Nat) (m9 : Nat) (ma : Nat) (mb : Nat) (md : Nat) (cM : ClassId) (cK : ClassId) (cN : ClassId) {H : Heap} {locs : List Loc} (hK : va_K D vwCl [(cI, .int), (cP, .object RX3), (cM, .int), (cK, .int), (cN, .int)] s) (hP : va_P D vwCl [(x0, .inr (11, [.ref pg, .ref rd, .ref aq, .ref py, .ref pl, .ref ch, .ref ro, .int 0, .int 0])), (pg, .inr (2, [.ref cd, .int 0])), (cd, .inl (cI, 90, .inl (fun _ => 0))), (rd, .inr (7, [.ref rw, .ref rc, .int 0, .int 0, .int 0, .int 0, .int 0])), (aq, .inr (5, [.ref a1, .ref a2, .ref a3, .ref a4, .int 0, .int 0, .long 0])), (py, .inl (cP, 8, .inr (.inr (.inr (.inr (fun _ => none)))))), (ro, .inr (8, [.ref r1, .ref r2, .int 0])), (m0, .inr (12, [.ref mp, .int 0, .int 0, .int 0, .ref mw, .ref mh, .ref mo, .int 0, .int 0, .int 0, .int 0, .int 0, .int 0, .ref m5, .ref m6, .ref m7, .long 0, .int 0, .ref mk, .ref mn, .int 0, .ref mq, .ref m8, .ref m9, .int 0, .int 0, .int 0, .int 0, .ref ma, .int 0, .ref mb, .ref md, .long 0])), (mp, .inl (cM, 90, .inl (fun _ => 0))), (mk, .inl (cK, 8, .inl (fun _ => 0))), (mn, .inl (cN, 32, .inl (fun _ => 0)))] H) (hD : va_D (AA s) [(x0, .inr (11, [.ref pg, .ref rd, .ref aq, .ref py, .ref pl, .ref ch, .ref ro, .int 0, .int 0])), (pg, .inr (2, [.ref cd, .int 0])), (cd, .inl (cI, 90, .inl (fun _ => 0))), (rd, .inr (7, [.ref rw, .ref rc, .int 0, .int 0, .int 0, .int 0, .int 0])), (aq, .inr (5, [.ref a1, .ref a2, .ref a3, .ref a4, .int 0, .int 0, .long 0])), (py, .inl (cP, 8, .inr (.inr (.inr (.inr (fun _ => none)))))), (ro, .inr (8, [.ref r1, .ref r2, .int 0])), (m0, .inr (12, [.ref mp, .int 0, .int 0, .int 0, .ref mw, .ref mh, .ref mo, .int 0, .int 0, .int 0, .int 0, .int 0, .int 0, .ref m5, .ref m6, .ref m7, .long 0, .int 0, .ref mk, .ref mn, .int 0, .ref mq, .ref m8, .ref m9, .int 0, .int 0, .int 0, .int 0, .ref ma, .int 0, .ref mb, .ref md, .long 0])), (mp, .inl (cM, 90, .inl (fun _ => 0))), (mk, .inl (cK, 8, .inl (fun _ => 0))), (mn, .inl (cN, 32, .inl (fun _ => 0)))]) (hS : va_S (AA s) s.heap H locs) {ls : Array Slot} (hl : lv_has ls 4 [(3, .int 0), (2, .ref m0), (1, .ref x0), (0, .ref b)]) : W p l e room_1 s m #[Value.ref b] below meth c H locs 62 2530 (lw_Z below #[Value.ref b] s) (F0 m 464 ls []) := by
  obtain ⟨hx, hb, hr, hml, hown, hts, hX, hbl, hlocks, hgv⟩ := id C0
  have hg := fun (w : Cond) (h : w ∈ gw_tbl) => hts w (gw_lw h)
  have hown : s.vm.findClass RL = some m.cls := hown
  have hbA : ¬ AA s b := Nat.not_le.mpr hbl
  have hA : ∀ q : Nat, s.heap.size ≤ q → AA s q := fun _ h => h
  refine lv_aload_n hx hb dL_law_464 rfl (lv_at hl 2 rfl) ?_
  refine lv_aload_n hx hb dL_law_465 rfl (lv_at hl 3 rfl) ?_
  refine lv_iload_n hx hb dL_law_466 rfl (lv_at hl 0 rfl) ?_
  refine lv_iconst (v := 1) hx hb dL_law_467 (by decide) ?_
  refine lv_iadd hx hb dL_law_468 ?_
  refine lv_topi (fun z_468 e_468 => ?_)
  obtain rfl : z_468 = (1 : Int32) := e_468.trans (by decide)
  refine va_sld hx hb hX hbl hbA hS (show ¬ ((1 : Int32) < 0 ∨ 6 ≤ (1 : Int32).toNatClampNeg) by decide) dL_law_469 ?_
  refine W.eq (g2 := F0 m 470 ls (.int (xs 1) :: .ref x0 :: [])) rfl ?_
  refine lv_aload_n hx hb dL_law_470 rfl (lv_at hl 3 rfl) ?_
  refine lv_iload_n hx hb dL_law_471 rfl (lv_at hl 0 rfl) ?_
  refine lv_iconst (v := 2) hx hb dL_law_472 (by decide) ?_
  refine lv_iadd hx hb dL_law_473 ?_
  refine lv_topi (fun z_473 e_473 => ?_)
  obtain rfl : z_473 = (2 : Int32) := e_473.trans (by decide)
  refine va_sld hx hb hX hbl hbA hS (show ¬ ((2 : Int32) < 0 ∨ 6 ≤ (2 : Int32).toNatClampNeg) by decide) dL_law_474 ?_
  refine W.eq (g2 := F0 m 475 ls (.int (xs 2) :: .int (xs 1) :: .ref x0 :: [])) rfl ?_
  have hPc := hP.sub (ws' := [(x0, .inr (11, [.ref pg, .ref rd, .ref aq, .ref py, .ref pl, .ref ch, .ref ro, .int 0, .int 0]))]) [0] rfl
  have hKc := hK.sub (tys' := []) [] rfl
  refine vp_callSi (W.runV (As := [.int (xs 1), .int (xs 2)]) (rest := []) ⟨hx, hb, hml, hown, hg⟩ (x_about l D x0 pg rd aq py pl ch ro (xs 1) (xs 2)) (cwV 2 hg (gw_V kw_346 kw_347 kw_348 kw_6 kw_345) rfl rfl rfl (by decide +kernel) ⟨Nat.le_of_ble_eq_true rfl, Nat.le_of_ble_eq_true rfl⟩) (pr_SV (q := (RX11, TX11, 9)) 11 0 hKc hPc rfl rfl) rfl rfl hl.1 rfl (lv_room (Nat.le_of_ble_eq_true rfl)) dL_law_475 ⟨Nat.le_of_ble_eq_true rfl, Nat.le_of_ble_eq_true rfl⟩) (fun r_475 h_475 => ?_)
  obtain rfl : r_475 = ((-101) : Int32) := h_475
  refine lv_aload_n hx hb dL_law_478 rfl (lv_at hl 1 rfl) ?_
  refine lv_aload_n hx hb dL_law_479 rfl (lv_at hl 3 rfl) ?_
  refine lv_iload_n hx hb dL_law_480 rfl (lv_at hl 0 rfl) ?_
  refine lv_iconst (v := 1) hx hb dL_law_481 (by decide) ?_
  refine lv_iadd hx hb dL_law_482 ?_
  refine lv_topi (fun z_482 e_482 => ?_)
  obtain rfl : z_482 = (1 : Int32) := e_482.trans (by decide)
  refine va_sld hx hb hX hbl hbA hS (show ¬ ((1 : Int32) < 0 ∨ 6 ≤ (1 : Int32).toNatClampNeg) by decide) dL_law_483 ?_
  refine W.eq (g2 := F0 m 484 ls (.int (xs 1) :: .ref m0 :: .int (-101) :: [])) rfl ?_
  refine lv_aload_n hx hb dL_law_484 rfl (lv_at hl 3 rfl) ?_
  refine lv_iload_n hx hb dL_law_485 rfl (lv_at hl 0 rfl) ?_
  refine lv_iconst (v := 2) hx hb dL_law_486 (by decide) ?_
  refine lv_iadd hx hb dL_law_487 ?_
  refine lv_topi (fun z_487 e_487 => ?_)
  obtain rfl : z_487 = (2 : Int32) := e_487.trans (by decide)
  refine va_sld hx hb hX hbl hbA hS (show ¬ ((2 : Int32) < 0 ∨ 6 ≤ (2 : Int32).toNatClampNeg) by decide) dL_law_488 ?_
  refine W.eq (g2 := F0 m 489 ls (.int (xs 2) :: .int (xs 1) :: .ref m0 :: .int (-101) :: [])) rfl ?_
  have hPc := hP.sub (ws' := [(m0, .inr (12, [.ref mp, .int 0, .int 0, .int 0, .ref mw, .ref mh, .ref mo, .int 0, .int 0, .int 0, .int 0, .int 0, .int 0, .ref m5, .ref m6, .ref m7, .long 0, .int 0, .ref mk, .ref mn, .int 0, .ref mq, .ref m8, .ref m9, .int 0, .int 0, .int 0, .int 0, .ref ma, .int 0, .ref mb, .ref md, .long 0]))]) [7] rfl
  have hKc := hK.sub (tys' := []) [] rfl
  refine vp_callSi (W.runV (As := [.int (xs 1), .int (xs 2)]) (rest := [.int (-101)]) ⟨hx, hb, hml, hown, hg⟩ (m_about l D m0 mp mw mh mo m5 m6 m7 mk mn mq m8 m9 ma mb md (xs 1) (xs 2)) (cwV 2 hg (gw_V kw_350 kw_351 kw_352 kw_210 kw_349) rfl rfl rfl (by decide +kernel) ⟨Nat.le_of_ble_eq_true rfl, Nat.le_of_ble_eq_true rfl⟩) (pr_SV (q := (RX12, TX12, 33)) 12 0 hKc hPc rfl rfl) rfl rfl hl.1 rfl (lv_room (Nat.le_of_ble_eq_true rfl)) dL_law_489 ⟨Nat.le_of_ble_eq_true rfl, Nat.le_of_ble_eq_true rfl⟩) (fun r_489 h_489 => ?_)
  obtain rfl : r_489 = ((-101) : Int32) := h_489
  refine lv_icmp_eq (tgt := 1101) hx hb dL_law_492 (by decide) (fun c_492 => ?_) (fun c_492 => absurd c_492 (by decide))
  exact law_end l C0 hS (lv_sub hl [0, 1, 2, 3] rfl) (Nat.le_of_ble_eq_true rfl) (Nat.le_of_ble_eq_true rfl)

theorem kw_353 : (.code yX11_gets cX11_gets 7 (some .int) : Cond) ∈ gw_tbl := gw_in (by decide +kernel) (by decide +kernel)
theorem kw_354 : (.methodLink RL 60 yX11_gets : Cond) ∈ gw_tbl := gw_in (by decide +kernel) (by decide +kernel)
theorem kw_355 : (.instanceMethod yX11_gets : Cond) ∈ gw_tbl := gw_in (by decide +kernel) (by decide +kernel)
theorem kw_356 : (.selects RX11 yX11_gets yX11_gets : Cond) ∈ gw_tbl := gw_in (by decide +kernel) (by decide +kernel)
theorem kw_357 : (.code yX12_gets cX12_gets 4 (some .int) : Cond) ∈ gw_tbl := gw_in (by decide +kernel) (by decide +kernel)
theorem kw_358 : (.methodLink RL 64 yX12_gets : Cond) ∈ gw_tbl := gw_in (by decide +kernel) (by decide +kernel)
theorem kw_359 : (.instanceMethod yX12_gets : Cond) ∈ gw_tbl := gw_in (by decide +kernel) (by decide +kernel)
theorem kw_360 : (.selects RX12 yX12_gets yX12_gets : Cond) ∈ gw_tbl := gw_in (by decide +kernel) (by decide +kernel)

set_option maxHeartbeats 4000000 in
set_option maxRecDepth 100000 in
theorem law_case_10 {p : Program} {e : Env} {s : State} {m : MethodId} {below : List Frame} {meth : Method} {c : Code} (l : Launch) {b : Nat} {xs : Nat → Int32} (C0 : lw_At p s m meth c b 6 xs) (hN : nw_C s) {D : va_G} (x0 : Nat) (pg : Nat) (rd : Nat) (aq : Nat) (py : Nat) (pl : Nat) (ch : Nat) (ro : Nat) (cd : Nat) (rw : Nat) (rc : Nat) (a1 : Nat) (a2 : Nat) (a3 : Nat) (a4 : Nat) (r1 : Nat) (r2 : Nat) (cI : ClassId) (cP : ClassId) (m0 : Nat) (mp : Nat) (mw : Nat) (mh : Nat) (mo : Nat) (m5 : Nat) (m6 : Nat) (m7 : Nat) (mk : Nat) (mn : Nat) (mq : Nat) (m8 : Nat) (m9 : Nat) (ma : Nat) (mb : Nat) (md : Nat) (cM : ClassId) (cK : ClassId) (cN : ClassId) {H : Heap} {locs : List Loc} (hK : va_K D vwCl [(cI, .int), (cP, .object RX3), (cM, .int), (cK, .int), (cN, .int)] s) (hP : va_P D vwCl [(x0, .inr (11, [.ref pg, .ref rd, .ref aq, .ref py, .ref pl, .ref ch, .ref ro, .int 0, .int 0])), (pg, .inr (2, [.ref cd, .int 0])), (cd, .inl (cI, 90, .inl (fun _ => 0))), (rd, .inr (7, [.ref rw, .ref rc, .int 0, .int 0, .int 0, .int 0, .int 0])), (aq, .inr (5, [.ref a1, .ref a2, .ref a3, .ref a4, .int 0, .int 0, .long 0])), (py, .inl (cP, 8, .inr (.inr (.inr (.inr (fun _ => none)))))), (ro, .inr (8, [.ref r1, .ref r2, .int 0])), (m0, .inr (12, [.ref mp, .int 0, .int 0, .int 0, .ref mw, .ref mh, .ref mo, .int 0, .int 0, .int 0, .int 0, .int 0, .int 0, .ref m5, .ref m6, .ref m7, .long 0, .int 0, .ref mk, .ref mn, .int 0, .ref mq, .ref m8, .ref m9, .int 0, .int 0, .int 0, .int 0, .ref ma, .int 0, .ref mb, .ref md, .long 0])), (mp, .inl (cM, 90, .inl (fun _ => 0))), (mk, .inl (cK, 8, .inl (fun _ => 0))), (mn, .inl (cN, 32, .inl (fun _ => 0)))] H) (hD : va_D (AA s) [(x0, .inr (11, [.ref pg, .ref rd, .ref aq, .ref py, .ref pl, .ref ch, .ref ro, .int 0, .int 0])), (pg, .inr (2, [.ref cd, .int 0])), (cd, .inl (cI, 90, .inl (fun _ => 0))), (rd, .inr (7, [.ref rw, .ref rc, .int 0, .int 0, .int 0, .int 0, .int 0])), (aq, .inr (5, [.ref a1, .ref a2, .ref a3, .ref a4, .int 0, .int 0, .long 0])), (py, .inl (cP, 8, .inr (.inr (.inr (.inr (fun _ => none)))))), (ro, .inr (8, [.ref r1, .ref r2, .int 0])), (m0, .inr (12, [.ref mp, .int 0, .int 0, .int 0, .ref mw, .ref mh, .ref mo, .int 0, .int 0, .int 0, .int 0, .int 0, .int 0, .ref m5, .ref m6, .ref m7, .long 0, .int 0, .ref mk, .ref mn, .int 0, .ref mq, .ref m8, .ref m9, .int 0, .int 0, .int 0, .int 0, .ref ma, .int 0, .ref mb, .ref md, .long 0])), (mp, .inl (cM, 90, .inl (fun _ => 0))), (mk, .inl (cK, 8, .inl (fun _ => 0))), (mn, .inl (cN, 32, .inl (fun _ => 0)))]) (hS : va_S (AA s) s.heap H locs) {ls : Array Slot} (hl : lv_has ls 4 [(3, .int 0), (2, .ref m0), (1, .ref x0), (0, .ref b)]) : W p l e room_1 s m #[Value.ref b] below meth c H locs 62 2530 (lw_Z below #[Value.ref b] s) (F0 m 497 ls []) := by
  obtain ⟨hx, hb, hr, hml, hown, hts, hX, hbl, hlocks, hgv⟩ := id C0
  have hg := fun (w : Cond) (h : w ∈ gw_tbl) => hts w (gw_lw h)
  have hown : s.vm.findClass RL = some m.cls := hown
  have hbA : ¬ AA s b := Nat.not_le.mpr hbl
  have hA : ∀ q : Nat, s.heap.size ≤ q → AA s q := fun _ h => h
  refine lv_aload_n hx hb dL_law_497 rfl (lv_at hl 2 rfl) ?_
  refine lv_aload_n hx hb dL_law_498 rfl (lv_at hl 3 rfl) ?_
  refine lv_iload_n hx hb dL_law_499 rfl (lv_at hl 0 rfl) ?_
  refine lv_iconst (v := 1) hx hb dL_law_500 (by decide) ?_
  refine lv_iadd hx hb dL_law_501 ?_
  refine lv_topi (fun z_501 e_501 => ?_)
  obtain rfl : z_501 = (1 : Int32) := e_501.trans (by decide)
  refine va_sld hx hb hX hbl hbA hS (show ¬ ((1 : Int32) < 0 ∨ 6 ≤ (1 : Int32).toNatClampNeg) by decide) dL_law_502 ?_
  refine W.eq (g2 := F0 m 503 ls (.int (xs 1) :: .ref x0 :: [])) rfl ?_
  refine lv_aload_n hx hb dL_law_503 rfl (lv_at hl 3 rfl) ?_
  refine lv_iload_n hx hb dL_law_504 rfl (lv_at hl 0 rfl) ?_
  refine lv_iconst (v := 2) hx hb dL_law_505 (by decide) ?_
  refine lv_iadd hx hb dL_law_506 ?_
  refine lv_topi (fun z_506 e_506 => ?_)
  obtain rfl : z_506 = (2 : Int32) := e_506.trans (by decide)
  refine va_sld hx hb hX hbl hbA hS (show ¬ ((2 : Int32) < 0 ∨ 6 ≤ (2 : Int32).toNatClampNeg) by decide) dL_law_507 ?_
  refine W.eq (g2 := F0 m 508 ls (.int (xs 2) :: .int (xs 1) :: .ref x0 :: [])) rfl ?_
  refine lv_aload_n hx hb dL_law_508 rfl (lv_at hl 3 rfl) ?_
  refine lv_iload_n hx hb dL_law_509 rfl (lv_at hl 0 rfl) ?_
  refine lv_iconst (v := 3) hx hb dL_law_510 (by decide) ?_
  refine lv_iadd hx hb dL_law_511 ?_
  refine lv_topi (fun z_511 e_511 => ?_)
  obtain rfl : z_511 = (3 : Int32) := e_511.trans (by decide)
  refine va_sld hx hb hX hbl hbA hS (show ¬ ((3 : Int32) < 0 ∨ 6 ≤ (3 : Int32).toNatClampNeg) by decide) dL_law_512 ?_
  refine W.eq (g2 := F0 m 513 ls (.int (xs 3) :: .int (xs 2) :: .int (xs 1) :: .ref x0 :: [])) rfl ?_
  have hPc := hP.sub (ws' := [(x0, .inr (11, [.ref pg, .ref rd, .ref aq, .ref py, .ref pl, .ref ch, .ref ro, .int 0, .int 0]))]) [0] rfl
  have hKc := hK.sub (tys' := []) [] rfl
  refine vp_callSi (W.runV (As := [.int (xs 1), .int (xs 2), .int (xs 3)]) (rest := []) ⟨hx, hb, hml, hown, hg⟩ (x_gets l D x0 pg rd aq py pl ch ro (xs 1) (xs 2) (xs 3)) (cwV 3 hg (gw_V kw_354 kw_355 kw_356 kw_6 kw_353) rfl rfl rfl (by decide +kernel) ⟨Nat.le_of_ble_eq_true rfl, Nat.le_of_ble_eq_true rfl⟩) (pr_SV (q := (RX11, TX11, 9)) 11 0 hKc hPc rfl rfl) rfl rfl hl.1 rfl (lv_room (Nat.le_of_ble_eq_true rfl)) dL_law_513 ⟨Nat.le_of_ble_eq_true rfl, Nat.le_of_ble_eq_true rfl⟩) (fun r_513 h_513 => ?_)
  obtain rfl : r_513 = ((-101) : Int32) := h_513
  refine lv_aload_n hx hb dL_law_516 rfl (lv_at hl 1 rfl) ?_
  refine lv_aload_n hx hb dL_law_517 rfl (lv_at hl 3 rfl) ?_
  refine lv_iload_n hx hb dL_law_518 rfl (lv_at hl 0 rfl) ?_
  refine lv_iconst (v := 1) hx hb dL_law_519 (by decide) ?_
  refine lv_iadd hx hb dL_law_520 ?_
  refine lv_topi (fun z_520 e_520 => ?_)
  obtain rfl : z_520 = (1 : Int32) := e_520.trans (by decide)
  refine va_sld hx hb hX hbl hbA hS (show ¬ ((1 : Int32) < 0 ∨ 6 ≤ (1 : Int32).toNatClampNeg) by decide) dL_law_521 ?_
  refine W.eq (g2 := F0 m 522 ls (.int (xs 1) :: .ref m0 :: .int (-101) :: [])) rfl ?_
  refine lv_aload_n hx hb dL_law_522 rfl (lv_at hl 3 rfl) ?_
  refine lv_iload_n hx hb dL_law_523 rfl (lv_at hl 0 rfl) ?_
  refine lv_iconst (v := 2) hx hb dL_law_524 (by decide) ?_
  refine lv_iadd hx hb dL_law_525 ?_
  refine lv_topi (fun z_525 e_525 => ?_)
  obtain rfl : z_525 = (2 : Int32) := e_525.trans (by decide)
  refine va_sld hx hb hX hbl hbA hS (show ¬ ((2 : Int32) < 0 ∨ 6 ≤ (2 : Int32).toNatClampNeg) by decide) dL_law_526 ?_
  refine W.eq (g2 := F0 m 527 ls (.int (xs 2) :: .int (xs 1) :: .ref m0 :: .int (-101) :: [])) rfl ?_
  refine lv_aload_n hx hb dL_law_527 rfl (lv_at hl 3 rfl) ?_
  refine lv_iload_n hx hb dL_law_528 rfl (lv_at hl 0 rfl) ?_
  refine lv_iconst (v := 3) hx hb dL_law_529 (by decide) ?_
  refine lv_iadd hx hb dL_law_530 ?_
  refine lv_topi (fun z_530 e_530 => ?_)
  obtain rfl : z_530 = (3 : Int32) := e_530.trans (by decide)
  refine va_sld hx hb hX hbl hbA hS (show ¬ ((3 : Int32) < 0 ∨ 6 ≤ (3 : Int32).toNatClampNeg) by decide) dL_law_531 ?_
  refine W.eq (g2 := F0 m 532 ls (.int (xs 3) :: .int (xs 2) :: .int (xs 1) :: .ref m0 :: .int (-101) :: [])) rfl ?_
  have hPc := hP.sub (ws' := [(m0, .inr (12, [.ref mp, .int 0, .int 0, .int 0, .ref mw, .ref mh, .ref mo, .int 0, .int 0, .int 0, .int 0, .int 0, .int 0, .ref m5, .ref m6, .ref m7, .long 0, .int 0, .ref mk, .ref mn, .int 0, .ref mq, .ref m8, .ref m9, .int 0, .int 0, .int 0, .int 0, .ref ma, .int 0, .ref mb, .ref md, .long 0]))]) [7] rfl
  have hKc := hK.sub (tys' := []) [] rfl
  refine vp_callSi (W.runV (As := [.int (xs 1), .int (xs 2), .int (xs 3)]) (rest := [.int (-101)]) ⟨hx, hb, hml, hown, hg⟩ (m_gets l D m0 mp mw mh mo m5 m6 m7 mk mn mq m8 m9 ma mb md (xs 1) (xs 2) (xs 3)) (cwV 3 hg (gw_V kw_358 kw_359 kw_360 kw_210 kw_357) rfl rfl rfl (by decide +kernel) ⟨Nat.le_of_ble_eq_true rfl, Nat.le_of_ble_eq_true rfl⟩) (pr_SV (q := (RX12, TX12, 33)) 12 0 hKc hPc rfl rfl) rfl rfl hl.1 rfl (lv_room (Nat.le_of_ble_eq_true rfl)) dL_law_532 ⟨Nat.le_of_ble_eq_true rfl, Nat.le_of_ble_eq_true rfl⟩) (fun r_532 h_532 => ?_)
  obtain rfl : r_532 = ((-101) : Int32) := h_532
  refine lv_icmp_eq (tgt := 1101) hx hb dL_law_535 (by decide) (fun c_535 => ?_) (fun c_535 => absurd c_535 (by decide))
  exact law_end l C0 hS (lv_sub hl [0, 1, 2, 3] rfl) (Nat.le_of_ble_eq_true rfl) (Nat.le_of_ble_eq_true rfl)

theorem kw_361 : (.code yX11_worth cX11_worth 6 (some .long) : Cond) ∈ gw_tbl := gw_in (by decide +kernel) (by decide +kernel)
theorem kw_362 : (.methodLink RL 65 yX11_worth : Cond) ∈ gw_tbl := gw_in (by decide +kernel) (by decide +kernel)
theorem kw_363 : (.instanceMethod yX11_worth : Cond) ∈ gw_tbl := gw_in (by decide +kernel) (by decide +kernel)
theorem kw_364 : (.selects RX11 yX11_worth yX11_worth : Cond) ∈ gw_tbl := gw_in (by decide +kernel) (by decide +kernel)
theorem kw_365 : (.code yX12_worth cX12_worth 5 (some .long) : Cond) ∈ gw_tbl := gw_in (by decide +kernel) (by decide +kernel)
theorem kw_366 : (.methodLink RL 68 yX12_worth : Cond) ∈ gw_tbl := gw_in (by decide +kernel) (by decide +kernel)
theorem kw_367 : (.instanceMethod yX12_worth : Cond) ∈ gw_tbl := gw_in (by decide +kernel) (by decide +kernel)
theorem kw_368 : (.selects RX12 yX12_worth yX12_worth : Cond) ∈ gw_tbl := gw_in (by decide +kernel) (by decide +kernel)

set_option maxHeartbeats 4000000 in
set_option maxRecDepth 100000 in
theorem law_case_11 {p : Program} {e : Env} {s : State} {m : MethodId} {below : List Frame} {meth : Method} {c : Code} (l : Launch) {b : Nat} {xs : Nat → Int32} (C0 : lw_At p s m meth c b 6 xs) (hN : nw_C s) {D : va_G} (x0 : Nat) (pg : Nat) (rd : Nat) (aq : Nat) (py : Nat) (pl : Nat) (ch : Nat) (ro : Nat) (cd : Nat) (rw : Nat) (rc : Nat) (a1 : Nat) (a2 : Nat) (a3 : Nat) (a4 : Nat) (r1 : Nat) (r2 : Nat) (cI : ClassId) (cP : ClassId) (m0 : Nat) (mp : Nat) (mw : Nat) (mh : Nat) (mo : Nat) (m5 : Nat) (m6 : Nat) (m7 : Nat) (mk : Nat) (mn : Nat) (mq : Nat) (m8 : Nat) (m9 : Nat) (ma : Nat) (mb : Nat) (md : Nat) (cM : ClassId) (cK : ClassId) (cN : ClassId) {H : Heap} {locs : List Loc} (hK : va_K D vwCl [(cI, .int), (cP, .object RX3), (cM, .int), (cK, .int), (cN, .int)] s) (hP : va_P D vwCl [(x0, .inr (11, [.ref pg, .ref rd, .ref aq, .ref py, .ref pl, .ref ch, .ref ro, .int 0, .int 0])), (pg, .inr (2, [.ref cd, .int 0])), (cd, .inl (cI, 90, .inl (fun _ => 0))), (rd, .inr (7, [.ref rw, .ref rc, .int 0, .int 0, .int 0, .int 0, .int 0])), (aq, .inr (5, [.ref a1, .ref a2, .ref a3, .ref a4, .int 0, .int 0, .long 0])), (py, .inl (cP, 8, .inr (.inr (.inr (.inr (fun _ => none)))))), (ro, .inr (8, [.ref r1, .ref r2, .int 0])), (m0, .inr (12, [.ref mp, .int 0, .int 0, .int 0, .ref mw, .ref mh, .ref mo, .int 0, .int 0, .int 0, .int 0, .int 0, .int 0, .ref m5, .ref m6, .ref m7, .long 0, .int 0, .ref mk, .ref mn, .int 0, .ref mq, .ref m8, .ref m9, .int 0, .int 0, .int 0, .int 0, .ref ma, .int 0, .ref mb, .ref md, .long 0])), (mp, .inl (cM, 90, .inl (fun _ => 0))), (mk, .inl (cK, 8, .inl (fun _ => 0))), (mn, .inl (cN, 32, .inl (fun _ => 0)))] H) (hD : va_D (AA s) [(x0, .inr (11, [.ref pg, .ref rd, .ref aq, .ref py, .ref pl, .ref ch, .ref ro, .int 0, .int 0])), (pg, .inr (2, [.ref cd, .int 0])), (cd, .inl (cI, 90, .inl (fun _ => 0))), (rd, .inr (7, [.ref rw, .ref rc, .int 0, .int 0, .int 0, .int 0, .int 0])), (aq, .inr (5, [.ref a1, .ref a2, .ref a3, .ref a4, .int 0, .int 0, .long 0])), (py, .inl (cP, 8, .inr (.inr (.inr (.inr (fun _ => none)))))), (ro, .inr (8, [.ref r1, .ref r2, .int 0])), (m0, .inr (12, [.ref mp, .int 0, .int 0, .int 0, .ref mw, .ref mh, .ref mo, .int 0, .int 0, .int 0, .int 0, .int 0, .int 0, .ref m5, .ref m6, .ref m7, .long 0, .int 0, .ref mk, .ref mn, .int 0, .ref mq, .ref m8, .ref m9, .int 0, .int 0, .int 0, .int 0, .ref ma, .int 0, .ref mb, .ref md, .long 0])), (mp, .inl (cM, 90, .inl (fun _ => 0))), (mk, .inl (cK, 8, .inl (fun _ => 0))), (mn, .inl (cN, 32, .inl (fun _ => 0)))]) (hS : va_S (AA s) s.heap H locs) {ls : Array Slot} (hl : lv_has ls 4 [(3, .int 0), (2, .ref m0), (1, .ref x0), (0, .ref b)]) : W p l e room_1 s m #[Value.ref b] below meth c H locs 62 2530 (lw_Z below #[Value.ref b] s) (F0 m 540 ls []) := by
  obtain ⟨hx, hb, hr, hml, hown, hts, hX, hbl, hlocks, hgv⟩ := id C0
  have hg := fun (w : Cond) (h : w ∈ gw_tbl) => hts w (gw_lw h)
  have hown : s.vm.findClass RL = some m.cls := hown
  have hbA : ¬ AA s b := Nat.not_le.mpr hbl
  have hA : ∀ q : Nat, s.heap.size ≤ q → AA s q := fun _ h => h
  refine lv_aload_n hx hb dL_law_540 rfl (lv_at hl 2 rfl) ?_
  refine lv_aload_n hx hb dL_law_541 rfl (lv_at hl 3 rfl) ?_
  refine lv_iload_n hx hb dL_law_542 rfl (lv_at hl 0 rfl) ?_
  refine lv_iconst (v := 1) hx hb dL_law_543 (by decide) ?_
  refine lv_iadd hx hb dL_law_544 ?_
  refine lv_topi (fun z_544 e_544 => ?_)
  obtain rfl : z_544 = (1 : Int32) := e_544.trans (by decide)
  refine va_sld hx hb hX hbl hbA hS (show ¬ ((1 : Int32) < 0 ∨ 6 ≤ (1 : Int32).toNatClampNeg) by decide) dL_law_545 ?_
  refine W.eq (g2 := F0 m 546 ls (.int (xs 1) :: .ref x0 :: [])) rfl ?_
  refine lv_aload_n hx hb dL_law_546 rfl (lv_at hl 3 rfl) ?_
  refine lv_iload_n hx hb dL_law_547 rfl (lv_at hl 0 rfl) ?_
  refine lv_iconst (v := 2) hx hb dL_law_548 (by decide) ?_
  refine lv_iadd hx hb dL_law_549 ?_
  refine lv_topi (fun z_549 e_549 => ?_)
  obtain rfl : z_549 = (2 : Int32) := e_549.trans (by decide)
  refine va_sld hx hb hX hbl hbA hS (show ¬ ((2 : Int32) < 0 ∨ 6 ≤ (2 : Int32).toNatClampNeg) by decide) dL_law_550 ?_
  refine W.eq (g2 := F0 m 551 ls (.int (xs 2) :: .int (xs 1) :: .ref x0 :: [])) rfl ?_
  refine lv_aload_n hx hb dL_law_551 rfl (lv_at hl 3 rfl) ?_
  refine lv_iload_n hx hb dL_law_552 rfl (lv_at hl 0 rfl) ?_
  refine lv_iconst (v := 3) hx hb dL_law_553 (by decide) ?_
  refine lv_iadd hx hb dL_law_554 ?_
  refine lv_topi (fun z_554 e_554 => ?_)
  obtain rfl : z_554 = (3 : Int32) := e_554.trans (by decide)
  refine va_sld hx hb hX hbl hbA hS (show ¬ ((3 : Int32) < 0 ∨ 6 ≤ (3 : Int32).toNatClampNeg) by decide) dL_law_555 ?_
  refine W.eq (g2 := F0 m 556 ls (.int (xs 3) :: .int (xs 2) :: .int (xs 1) :: .ref x0 :: [])) rfl ?_
  refine lv_aload_n hx hb dL_law_556 rfl (lv_at hl 3 rfl) ?_
  refine lv_iload_n hx hb dL_law_557 rfl (lv_at hl 0 rfl) ?_
  refine lv_iconst (v := 4) hx hb dL_law_558 (by decide) ?_
  refine lv_iadd hx hb dL_law_559 ?_
  refine lv_topi (fun z_559 e_559 => ?_)
  obtain rfl : z_559 = (4 : Int32) := e_559.trans (by decide)
  refine va_sld hx hb hX hbl hbA hS (show ¬ ((4 : Int32) < 0 ∨ 6 ≤ (4 : Int32).toNatClampNeg) by decide) dL_law_560 ?_
  refine W.eq (g2 := F0 m 561 ls (.int (xs 4) :: .int (xs 3) :: .int (xs 2) :: .int (xs 1) :: .ref x0 :: [])) rfl ?_
  have hPc := hP.sub (ws' := [(x0, .inr (11, [.ref pg, .ref rd, .ref aq, .ref py, .ref pl, .ref ch, .ref ro, .int 0, .int 0]))]) [0] rfl
  have hKc := hK.sub (tys' := []) [] rfl
  refine vp_callSl (W.runV (As := [.int (xs 1), .int (xs 2), .int (xs 3), .int (xs 4)]) (rest := []) ⟨hx, hb, hml, hown, hg⟩ (x_worth l D x0 pg rd aq py pl ch ro (xs 1) (xs 2) (xs 3) (xs 4)) (cwV 4 hg (gw_V kw_362 kw_363 kw_364 kw_6 kw_361) rfl rfl rfl (by decide +kernel) ⟨Nat.le_of_ble_eq_true rfl, Nat.le_of_ble_eq_true rfl⟩) (pr_SV (q := (RX11, TX11, 9)) 11 0 hKc hPc rfl rfl) rfl rfl hl.1 rfl (lv_room (Nat.le_of_ble_eq_true rfl)) dL_law_561 ⟨Nat.le_of_ble_eq_true rfl, Nat.le_of_ble_eq_true rfl⟩) (fun r_561 h_561 => ?_)
  obtain rfl : r_561 = ((-2000000000000000001) : Int64) := h_561
  refine lv_aload_n hx hb dL_law_564 rfl (lv_at hl 1 rfl) ?_
  refine lv_aload_n hx hb dL_law_565 rfl (lv_at hl 3 rfl) ?_
  refine lv_iload_n hx hb dL_law_566 rfl (lv_at hl 0 rfl) ?_
  refine lv_iconst (v := 1) hx hb dL_law_567 (by decide) ?_
  refine lv_iadd hx hb dL_law_568 ?_
  refine lv_topi (fun z_568 e_568 => ?_)
  obtain rfl : z_568 = (1 : Int32) := e_568.trans (by decide)
  refine va_sld hx hb hX hbl hbA hS (show ¬ ((1 : Int32) < 0 ∨ 6 ≤ (1 : Int32).toNatClampNeg) by decide) dL_law_569 ?_
  refine W.eq (g2 := F0 m 570 ls (.int (xs 1) :: .ref m0 :: .long (-2000000000000000001) :: [])) rfl ?_
  refine lv_aload_n hx hb dL_law_570 rfl (lv_at hl 3 rfl) ?_
  refine lv_iload_n hx hb dL_law_571 rfl (lv_at hl 0 rfl) ?_
  refine lv_iconst (v := 2) hx hb dL_law_572 (by decide) ?_
  refine lv_iadd hx hb dL_law_573 ?_
  refine lv_topi (fun z_573 e_573 => ?_)
  obtain rfl : z_573 = (2 : Int32) := e_573.trans (by decide)
  refine va_sld hx hb hX hbl hbA hS (show ¬ ((2 : Int32) < 0 ∨ 6 ≤ (2 : Int32).toNatClampNeg) by decide) dL_law_574 ?_
  refine W.eq (g2 := F0 m 575 ls (.int (xs 2) :: .int (xs 1) :: .ref m0 :: .long (-2000000000000000001) :: [])) rfl ?_
  refine lv_aload_n hx hb dL_law_575 rfl (lv_at hl 3 rfl) ?_
  refine lv_iload_n hx hb dL_law_576 rfl (lv_at hl 0 rfl) ?_
  refine lv_iconst (v := 3) hx hb dL_law_577 (by decide) ?_
  refine lv_iadd hx hb dL_law_578 ?_
  refine lv_topi (fun z_578 e_578 => ?_)
  obtain rfl : z_578 = (3 : Int32) := e_578.trans (by decide)
  refine va_sld hx hb hX hbl hbA hS (show ¬ ((3 : Int32) < 0 ∨ 6 ≤ (3 : Int32).toNatClampNeg) by decide) dL_law_579 ?_
  refine W.eq (g2 := F0 m 580 ls (.int (xs 3) :: .int (xs 2) :: .int (xs 1) :: .ref m0 :: .long (-2000000000000000001) :: [])) rfl ?_
  refine lv_aload_n hx hb dL_law_580 rfl (lv_at hl 3 rfl) ?_
  refine lv_iload_n hx hb dL_law_581 rfl (lv_at hl 0 rfl) ?_
  refine lv_iconst (v := 4) hx hb dL_law_582 (by decide) ?_
  refine lv_iadd hx hb dL_law_583 ?_
  refine lv_topi (fun z_583 e_583 => ?_)
  obtain rfl : z_583 = (4 : Int32) := e_583.trans (by decide)
  refine va_sld hx hb hX hbl hbA hS (show ¬ ((4 : Int32) < 0 ∨ 6 ≤ (4 : Int32).toNatClampNeg) by decide) dL_law_584 ?_
  refine W.eq (g2 := F0 m 585 ls (.int (xs 4) :: .int (xs 3) :: .int (xs 2) :: .int (xs 1) :: .ref m0 :: .long (-2000000000000000001) :: [])) rfl ?_
  have hPc := hP.sub (ws' := [(m0, .inr (12, [.ref mp, .int 0, .int 0, .int 0, .ref mw, .ref mh, .ref mo, .int 0, .int 0, .int 0, .int 0, .int 0, .int 0, .ref m5, .ref m6, .ref m7, .long 0, .int 0, .ref mk, .ref mn, .int 0, .ref mq, .ref m8, .ref m9, .int 0, .int 0, .int 0, .int 0, .ref ma, .int 0, .ref mb, .ref md, .long 0]))]) [7] rfl
  have hKc := hK.sub (tys' := []) [] rfl
  refine vp_callSl (W.runV (As := [.int (xs 1), .int (xs 2), .int (xs 3), .int (xs 4)]) (rest := [.long (-2000000000000000001)]) ⟨hx, hb, hml, hown, hg⟩ (m_worth l D m0 mp mw mh mo m5 m6 m7 mk mn mq m8 m9 ma mb md (xs 1) (xs 2) (xs 3) (xs 4)) (cwV 4 hg (gw_V kw_366 kw_367 kw_368 kw_210 kw_365) rfl rfl rfl (by decide +kernel) ⟨Nat.le_of_ble_eq_true rfl, Nat.le_of_ble_eq_true rfl⟩) (pr_SV (q := (RX12, TX12, 33)) 12 0 hKc hPc rfl rfl) rfl rfl hl.1 rfl (lv_room (Nat.le_of_ble_eq_true rfl)) dL_law_585 ⟨Nat.le_of_ble_eq_true rfl, Nat.le_of_ble_eq_true rfl⟩) (fun r_585 h_585 => ?_)
  obtain rfl : r_585 = ((-2000000000000000001) : Int64) := h_585
  refine W.lcmp hx hb dL_law_588 ?_
  refine lv_topi (fun z_588 e_588 => ?_)
  obtain rfl : z_588 = (0 : Int32) := e_588.trans (by decide)
  refine lv_if_eq (tgt := 1101) hx hb dL_law_589 (by decide) (fun c_589 => ?_) (fun c_589 => absurd c_589 (by decide))
  exact law_end l C0 hS (lv_sub hl [0, 1, 2, 3] rfl) (Nat.le_of_ble_eq_true rfl) (Nat.le_of_ble_eq_true rfl)

theorem kw_369 : (.code yX11_rests cX11_rests 7 (some .int) : Cond) ∈ gw_tbl := gw_in (by decide +kernel) (by decide +kernel)
theorem kw_370 : (.methodLink RL 69 yX11_rests : Cond) ∈ gw_tbl := gw_in (by decide +kernel) (by decide +kernel)
theorem kw_371 : (.instanceMethod yX11_rests : Cond) ∈ gw_tbl := gw_in (by decide +kernel) (by decide +kernel)
theorem kw_372 : (.selects RX11 yX11_rests yX11_rests : Cond) ∈ gw_tbl := gw_in (by decide +kernel) (by decide +kernel)
theorem kw_373 : (.code yX12_rests cX12_rests 6 (some .int) : Cond) ∈ gw_tbl := gw_in (by decide +kernel) (by decide +kernel)
theorem kw_374 : (.methodLink RL 72 yX12_rests : Cond) ∈ gw_tbl := gw_in (by decide +kernel) (by decide +kernel)
theorem kw_375 : (.instanceMethod yX12_rests : Cond) ∈ gw_tbl := gw_in (by decide +kernel) (by decide +kernel)
theorem kw_376 : (.selects RX12 yX12_rests yX12_rests : Cond) ∈ gw_tbl := gw_in (by decide +kernel) (by decide +kernel)

set_option maxHeartbeats 4000000 in
set_option maxRecDepth 100000 in
theorem law_case_12 {p : Program} {e : Env} {s : State} {m : MethodId} {below : List Frame} {meth : Method} {c : Code} (l : Launch) {b : Nat} {xs : Nat → Int32} (C0 : lw_At p s m meth c b 6 xs) (hN : nw_C s) {D : va_G} (x0 : Nat) (pg : Nat) (rd : Nat) (aq : Nat) (py : Nat) (pl : Nat) (ch : Nat) (ro : Nat) (cd : Nat) (rw : Nat) (rc : Nat) (a1 : Nat) (a2 : Nat) (a3 : Nat) (a4 : Nat) (r1 : Nat) (r2 : Nat) (cI : ClassId) (cP : ClassId) (m0 : Nat) (mp : Nat) (mw : Nat) (mh : Nat) (mo : Nat) (m5 : Nat) (m6 : Nat) (m7 : Nat) (mk : Nat) (mn : Nat) (mq : Nat) (m8 : Nat) (m9 : Nat) (ma : Nat) (mb : Nat) (md : Nat) (cM : ClassId) (cK : ClassId) (cN : ClassId) {H : Heap} {locs : List Loc} (hK : va_K D vwCl [(cI, .int), (cP, .object RX3), (cM, .int), (cK, .int), (cN, .int)] s) (hP : va_P D vwCl [(x0, .inr (11, [.ref pg, .ref rd, .ref aq, .ref py, .ref pl, .ref ch, .ref ro, .int 0, .int 0])), (pg, .inr (2, [.ref cd, .int 0])), (cd, .inl (cI, 90, .inl (fun _ => 0))), (rd, .inr (7, [.ref rw, .ref rc, .int 0, .int 0, .int 0, .int 0, .int 0])), (aq, .inr (5, [.ref a1, .ref a2, .ref a3, .ref a4, .int 0, .int 0, .long 0])), (py, .inl (cP, 8, .inr (.inr (.inr (.inr (fun _ => none)))))), (ro, .inr (8, [.ref r1, .ref r2, .int 0])), (m0, .inr (12, [.ref mp, .int 0, .int 0, .int 0, .ref mw, .ref mh, .ref mo, .int 0, .int 0, .int 0, .int 0, .int 0, .int 0, .ref m5, .ref m6, .ref m7, .long 0, .int 0, .ref mk, .ref mn, .int 0, .ref mq, .ref m8, .ref m9, .int 0, .int 0, .int 0, .int 0, .ref ma, .int 0, .ref mb, .ref md, .long 0])), (mp, .inl (cM, 90, .inl (fun _ => 0))), (mk, .inl (cK, 8, .inl (fun _ => 0))), (mn, .inl (cN, 32, .inl (fun _ => 0)))] H) (hD : va_D (AA s) [(x0, .inr (11, [.ref pg, .ref rd, .ref aq, .ref py, .ref pl, .ref ch, .ref ro, .int 0, .int 0])), (pg, .inr (2, [.ref cd, .int 0])), (cd, .inl (cI, 90, .inl (fun _ => 0))), (rd, .inr (7, [.ref rw, .ref rc, .int 0, .int 0, .int 0, .int 0, .int 0])), (aq, .inr (5, [.ref a1, .ref a2, .ref a3, .ref a4, .int 0, .int 0, .long 0])), (py, .inl (cP, 8, .inr (.inr (.inr (.inr (fun _ => none)))))), (ro, .inr (8, [.ref r1, .ref r2, .int 0])), (m0, .inr (12, [.ref mp, .int 0, .int 0, .int 0, .ref mw, .ref mh, .ref mo, .int 0, .int 0, .int 0, .int 0, .int 0, .int 0, .ref m5, .ref m6, .ref m7, .long 0, .int 0, .ref mk, .ref mn, .int 0, .ref mq, .ref m8, .ref m9, .int 0, .int 0, .int 0, .int 0, .ref ma, .int 0, .ref mb, .ref md, .long 0])), (mp, .inl (cM, 90, .inl (fun _ => 0))), (mk, .inl (cK, 8, .inl (fun _ => 0))), (mn, .inl (cN, 32, .inl (fun _ => 0)))]) (hS : va_S (AA s) s.heap H locs) {ls : Array Slot} (hl : lv_has ls 4 [(3, .int 0), (2, .ref m0), (1, .ref x0), (0, .ref b)]) : W p l e room_1 s m #[Value.ref b] below meth c H locs 62 2530 (lw_Z below #[Value.ref b] s) (F0 m 594 ls []) := by
  obtain ⟨hx, hb, hr, hml, hown, hts, hX, hbl, hlocks, hgv⟩ := id C0
  have hg := fun (w : Cond) (h : w ∈ gw_tbl) => hts w (gw_lw h)
  have hown : s.vm.findClass RL = some m.cls := hown
  have hbA : ¬ AA s b := Nat.not_le.mpr hbl
  have hA : ∀ q : Nat, s.heap.size ≤ q → AA s q := fun _ h => h
  refine lv_aload_n hx hb dL_law_594 rfl (lv_at hl 2 rfl) ?_
  refine lv_aload_n hx hb dL_law_595 rfl (lv_at hl 3 rfl) ?_
  refine lv_iload_n hx hb dL_law_596 rfl (lv_at hl 0 rfl) ?_
  refine lv_iconst (v := 1) hx hb dL_law_597 (by decide) ?_
  refine lv_iadd hx hb dL_law_598 ?_
  refine lv_topi (fun z_598 e_598 => ?_)
  obtain rfl : z_598 = (1 : Int32) := e_598.trans (by decide)
  refine va_sld hx hb hX hbl hbA hS (show ¬ ((1 : Int32) < 0 ∨ 6 ≤ (1 : Int32).toNatClampNeg) by decide) dL_law_599 ?_
  refine W.eq (g2 := F0 m 600 ls (.int (xs 1) :: .ref x0 :: [])) rfl ?_
  refine lv_aload_n hx hb dL_law_600 rfl (lv_at hl 3 rfl) ?_
  refine lv_iload_n hx hb dL_law_601 rfl (lv_at hl 0 rfl) ?_
  refine lv_iconst (v := 2) hx hb dL_law_602 (by decide) ?_
  refine lv_iadd hx hb dL_law_603 ?_
  refine lv_topi (fun z_603 e_603 => ?_)
  obtain rfl : z_603 = (2 : Int32) := e_603.trans (by decide)
  refine va_sld hx hb hX hbl hbA hS (show ¬ ((2 : Int32) < 0 ∨ 6 ≤ (2 : Int32).toNatClampNeg) by decide) dL_law_604 ?_
  refine W.eq (g2 := F0 m 605 ls (.int (xs 2) :: .int (xs 1) :: .ref x0 :: [])) rfl ?_
  refine lv_aload_n hx hb dL_law_605 rfl (lv_at hl 3 rfl) ?_
  refine lv_iload_n hx hb dL_law_606 rfl (lv_at hl 0 rfl) ?_
  refine lv_iconst (v := 3) hx hb dL_law_607 (by decide) ?_
  refine lv_iadd hx hb dL_law_608 ?_
  refine lv_topi (fun z_608 e_608 => ?_)
  obtain rfl : z_608 = (3 : Int32) := e_608.trans (by decide)
  refine va_sld hx hb hX hbl hbA hS (show ¬ ((3 : Int32) < 0 ∨ 6 ≤ (3 : Int32).toNatClampNeg) by decide) dL_law_609 ?_
  refine W.eq (g2 := F0 m 610 ls (.int (xs 3) :: .int (xs 2) :: .int (xs 1) :: .ref x0 :: [])) rfl ?_
  have hPc := hP.sub (ws' := [(x0, .inr (11, [.ref pg, .ref rd, .ref aq, .ref py, .ref pl, .ref ch, .ref ro, .int 0, .int 0]))]) [0] rfl
  have hKc := hK.sub (tys' := []) [] rfl
  refine vp_callSi (W.runV (As := [.int (xs 1), .int (xs 2), .int (xs 3)]) (rest := []) ⟨hx, hb, hml, hown, hg⟩ (x_rests l D x0 pg rd aq py pl ch ro (xs 1) (xs 2) (xs 3)) (cwV 3 hg (gw_V kw_370 kw_371 kw_372 kw_6 kw_369) rfl rfl rfl (by decide +kernel) ⟨Nat.le_of_ble_eq_true rfl, Nat.le_of_ble_eq_true rfl⟩) (pr_SV (q := (RX11, TX11, 9)) 11 0 hKc hPc rfl rfl) rfl rfl hl.1 rfl (lv_room (Nat.le_of_ble_eq_true rfl)) dL_law_610 ⟨Nat.le_of_ble_eq_true rfl, Nat.le_of_ble_eq_true rfl⟩) (fun r_610 h_610 => ?_)
  obtain rfl : r_610 = ((-101) : Int32) := h_610
  refine lv_aload_n hx hb dL_law_613 rfl (lv_at hl 1 rfl) ?_
  refine lv_aload_n hx hb dL_law_614 rfl (lv_at hl 3 rfl) ?_
  refine lv_iload_n hx hb dL_law_615 rfl (lv_at hl 0 rfl) ?_
  refine lv_iconst (v := 1) hx hb dL_law_616 (by decide) ?_
  refine lv_iadd hx hb dL_law_617 ?_
  refine lv_topi (fun z_617 e_617 => ?_)
  obtain rfl : z_617 = (1 : Int32) := e_617.trans (by decide)
  refine va_sld hx hb hX hbl hbA hS (show ¬ ((1 : Int32) < 0 ∨ 6 ≤ (1 : Int32).toNatClampNeg) by decide) dL_law_618 ?_
  refine W.eq (g2 := F0 m 619 ls (.int (xs 1) :: .ref m0 :: .int (-101) :: [])) rfl ?_
  refine lv_aload_n hx hb dL_law_619 rfl (lv_at hl 3 rfl) ?_
  refine lv_iload_n hx hb dL_law_620 rfl (lv_at hl 0 rfl) ?_
  refine lv_iconst (v := 2) hx hb dL_law_621 (by decide) ?_
  refine lv_iadd hx hb dL_law_622 ?_
  refine lv_topi (fun z_622 e_622 => ?_)
  obtain rfl : z_622 = (2 : Int32) := e_622.trans (by decide)
  refine va_sld hx hb hX hbl hbA hS (show ¬ ((2 : Int32) < 0 ∨ 6 ≤ (2 : Int32).toNatClampNeg) by decide) dL_law_623 ?_
  refine W.eq (g2 := F0 m 624 ls (.int (xs 2) :: .int (xs 1) :: .ref m0 :: .int (-101) :: [])) rfl ?_
  refine lv_aload_n hx hb dL_law_624 rfl (lv_at hl 3 rfl) ?_
  refine lv_iload_n hx hb dL_law_625 rfl (lv_at hl 0 rfl) ?_
  refine lv_iconst (v := 3) hx hb dL_law_626 (by decide) ?_
  refine lv_iadd hx hb dL_law_627 ?_
  refine lv_topi (fun z_627 e_627 => ?_)
  obtain rfl : z_627 = (3 : Int32) := e_627.trans (by decide)
  refine va_sld hx hb hX hbl hbA hS (show ¬ ((3 : Int32) < 0 ∨ 6 ≤ (3 : Int32).toNatClampNeg) by decide) dL_law_628 ?_
  refine W.eq (g2 := F0 m 629 ls (.int (xs 3) :: .int (xs 2) :: .int (xs 1) :: .ref m0 :: .int (-101) :: [])) rfl ?_
  have hPc := hP.sub (ws' := [(m0, .inr (12, [.ref mp, .int 0, .int 0, .int 0, .ref mw, .ref mh, .ref mo, .int 0, .int 0, .int 0, .int 0, .int 0, .int 0, .ref m5, .ref m6, .ref m7, .long 0, .int 0, .ref mk, .ref mn, .int 0, .ref mq, .ref m8, .ref m9, .int 0, .int 0, .int 0, .int 0, .ref ma, .int 0, .ref mb, .ref md, .long 0]))]) [7] rfl
  have hKc := hK.sub (tys' := []) [] rfl
  refine vp_callSi (W.runV (As := [.int (xs 1), .int (xs 2), .int (xs 3)]) (rest := [.int (-101)]) ⟨hx, hb, hml, hown, hg⟩ (m_rests l D m0 mp mw mh mo m5 m6 m7 mk mn mq m8 m9 ma mb md (xs 1) (xs 2) (xs 3)) (cwV 3 hg (gw_V kw_374 kw_375 kw_376 kw_210 kw_373) rfl rfl rfl (by decide +kernel) ⟨Nat.le_of_ble_eq_true rfl, Nat.le_of_ble_eq_true rfl⟩) (pr_SV (q := (RX12, TX12, 33)) 12 0 hKc hPc rfl rfl) rfl rfl hl.1 rfl (lv_room (Nat.le_of_ble_eq_true rfl)) dL_law_629 ⟨Nat.le_of_ble_eq_true rfl, Nat.le_of_ble_eq_true rfl⟩) (fun r_629 h_629 => ?_)
  obtain rfl : r_629 = ((-101) : Int32) := h_629
  refine lv_icmp_eq (tgt := 1101) hx hb dL_law_632 (by decide) (fun c_632 => ?_) (fun c_632 => absurd c_632 (by decide))
  exact law_end l C0 hS (lv_sub hl [0, 1, 2, 3] rfl) (Nat.le_of_ble_eq_true rfl) (Nat.le_of_ble_eq_true rfl)

theorem kw_377 : (.code yX11_gain cX11_gain 6 (some .long) : Cond) ∈ gw_tbl := gw_in (by decide +kernel) (by decide +kernel)
theorem kw_378 : (.methodLink RL 73 yX11_gain : Cond) ∈ gw_tbl := gw_in (by decide +kernel) (by decide +kernel)
theorem kw_379 : (.instanceMethod yX11_gain : Cond) ∈ gw_tbl := gw_in (by decide +kernel) (by decide +kernel)
theorem kw_380 : (.selects RX11 yX11_gain yX11_gain : Cond) ∈ gw_tbl := gw_in (by decide +kernel) (by decide +kernel)
theorem kw_381 : (.code yX12_gain cX12_gain 5 (some .long) : Cond) ∈ gw_tbl := gw_in (by decide +kernel) (by decide +kernel)
theorem kw_382 : (.methodLink RL 76 yX12_gain : Cond) ∈ gw_tbl := gw_in (by decide +kernel) (by decide +kernel)
theorem kw_383 : (.instanceMethod yX12_gain : Cond) ∈ gw_tbl := gw_in (by decide +kernel) (by decide +kernel)
theorem kw_384 : (.selects RX12 yX12_gain yX12_gain : Cond) ∈ gw_tbl := gw_in (by decide +kernel) (by decide +kernel)

set_option maxHeartbeats 4000000 in
set_option maxRecDepth 100000 in
theorem law_case_13 {p : Program} {e : Env} {s : State} {m : MethodId} {below : List Frame} {meth : Method} {c : Code} (l : Launch) {b : Nat} {xs : Nat → Int32} (C0 : lw_At p s m meth c b 6 xs) (hN : nw_C s) {D : va_G} (x0 : Nat) (pg : Nat) (rd : Nat) (aq : Nat) (py : Nat) (pl : Nat) (ch : Nat) (ro : Nat) (cd : Nat) (rw : Nat) (rc : Nat) (a1 : Nat) (a2 : Nat) (a3 : Nat) (a4 : Nat) (r1 : Nat) (r2 : Nat) (cI : ClassId) (cP : ClassId) (m0 : Nat) (mp : Nat) (mw : Nat) (mh : Nat) (mo : Nat) (m5 : Nat) (m6 : Nat) (m7 : Nat) (mk : Nat) (mn : Nat) (mq : Nat) (m8 : Nat) (m9 : Nat) (ma : Nat) (mb : Nat) (md : Nat) (cM : ClassId) (cK : ClassId) (cN : ClassId) {H : Heap} {locs : List Loc} (hK : va_K D vwCl [(cI, .int), (cP, .object RX3), (cM, .int), (cK, .int), (cN, .int)] s) (hP : va_P D vwCl [(x0, .inr (11, [.ref pg, .ref rd, .ref aq, .ref py, .ref pl, .ref ch, .ref ro, .int 0, .int 0])), (pg, .inr (2, [.ref cd, .int 0])), (cd, .inl (cI, 90, .inl (fun _ => 0))), (rd, .inr (7, [.ref rw, .ref rc, .int 0, .int 0, .int 0, .int 0, .int 0])), (aq, .inr (5, [.ref a1, .ref a2, .ref a3, .ref a4, .int 0, .int 0, .long 0])), (py, .inl (cP, 8, .inr (.inr (.inr (.inr (fun _ => none)))))), (ro, .inr (8, [.ref r1, .ref r2, .int 0])), (m0, .inr (12, [.ref mp, .int 0, .int 0, .int 0, .ref mw, .ref mh, .ref mo, .int 0, .int 0, .int 0, .int 0, .int 0, .int 0, .ref m5, .ref m6, .ref m7, .long 0, .int 0, .ref mk, .ref mn, .int 0, .ref mq, .ref m8, .ref m9, .int 0, .int 0, .int 0, .int 0, .ref ma, .int 0, .ref mb, .ref md, .long 0])), (mp, .inl (cM, 90, .inl (fun _ => 0))), (mk, .inl (cK, 8, .inl (fun _ => 0))), (mn, .inl (cN, 32, .inl (fun _ => 0)))] H) (hD : va_D (AA s) [(x0, .inr (11, [.ref pg, .ref rd, .ref aq, .ref py, .ref pl, .ref ch, .ref ro, .int 0, .int 0])), (pg, .inr (2, [.ref cd, .int 0])), (cd, .inl (cI, 90, .inl (fun _ => 0))), (rd, .inr (7, [.ref rw, .ref rc, .int 0, .int 0, .int 0, .int 0, .int 0])), (aq, .inr (5, [.ref a1, .ref a2, .ref a3, .ref a4, .int 0, .int 0, .long 0])), (py, .inl (cP, 8, .inr (.inr (.inr (.inr (fun _ => none)))))), (ro, .inr (8, [.ref r1, .ref r2, .int 0])), (m0, .inr (12, [.ref mp, .int 0, .int 0, .int 0, .ref mw, .ref mh, .ref mo, .int 0, .int 0, .int 0, .int 0, .int 0, .int 0, .ref m5, .ref m6, .ref m7, .long 0, .int 0, .ref mk, .ref mn, .int 0, .ref mq, .ref m8, .ref m9, .int 0, .int 0, .int 0, .int 0, .ref ma, .int 0, .ref mb, .ref md, .long 0])), (mp, .inl (cM, 90, .inl (fun _ => 0))), (mk, .inl (cK, 8, .inl (fun _ => 0))), (mn, .inl (cN, 32, .inl (fun _ => 0)))]) (hS : va_S (AA s) s.heap H locs) {ls : Array Slot} (hl : lv_has ls 4 [(3, .int 0), (2, .ref m0), (1, .ref x0), (0, .ref b)]) : W p l e room_1 s m #[Value.ref b] below meth c H locs 62 2530 (lw_Z below #[Value.ref b] s) (F0 m 637 ls []) := by
  obtain ⟨hx, hb, hr, hml, hown, hts, hX, hbl, hlocks, hgv⟩ := id C0
  have hg := fun (w : Cond) (h : w ∈ gw_tbl) => hts w (gw_lw h)
  have hown : s.vm.findClass RL = some m.cls := hown
  have hbA : ¬ AA s b := Nat.not_le.mpr hbl
  have hA : ∀ q : Nat, s.heap.size ≤ q → AA s q := fun _ h => h
  refine lv_aload_n hx hb dL_law_637 rfl (lv_at hl 2 rfl) ?_
  refine lv_aload_n hx hb dL_law_638 rfl (lv_at hl 3 rfl) ?_
  refine lv_iload_n hx hb dL_law_639 rfl (lv_at hl 0 rfl) ?_
  refine lv_iconst (v := 1) hx hb dL_law_640 (by decide) ?_
  refine lv_iadd hx hb dL_law_641 ?_
  refine lv_topi (fun z_641 e_641 => ?_)
  obtain rfl : z_641 = (1 : Int32) := e_641.trans (by decide)
  refine va_sld hx hb hX hbl hbA hS (show ¬ ((1 : Int32) < 0 ∨ 6 ≤ (1 : Int32).toNatClampNeg) by decide) dL_law_642 ?_
  refine W.eq (g2 := F0 m 643 ls (.int (xs 1) :: .ref x0 :: [])) rfl ?_
  refine lv_aload_n hx hb dL_law_643 rfl (lv_at hl 3 rfl) ?_
  refine lv_iload_n hx hb dL_law_644 rfl (lv_at hl 0 rfl) ?_
  refine lv_iconst (v := 2) hx hb dL_law_645 (by decide) ?_
  refine lv_iadd hx hb dL_law_646 ?_
  refine lv_topi (fun z_646 e_646 => ?_)
  obtain rfl : z_646 = (2 : Int32) := e_646.trans (by decide)
  refine va_sld hx hb hX hbl hbA hS (show ¬ ((2 : Int32) < 0 ∨ 6 ≤ (2 : Int32).toNatClampNeg) by decide) dL_law_647 ?_
  refine W.eq (g2 := F0 m 648 ls (.int (xs 2) :: .int (xs 1) :: .ref x0 :: [])) rfl ?_
  refine lv_aload_n hx hb dL_law_648 rfl (lv_at hl 3 rfl) ?_
  refine lv_iload_n hx hb dL_law_649 rfl (lv_at hl 0 rfl) ?_
  refine lv_iconst (v := 3) hx hb dL_law_650 (by decide) ?_
  refine lv_iadd hx hb dL_law_651 ?_
  refine lv_topi (fun z_651 e_651 => ?_)
  obtain rfl : z_651 = (3 : Int32) := e_651.trans (by decide)
  refine va_sld hx hb hX hbl hbA hS (show ¬ ((3 : Int32) < 0 ∨ 6 ≤ (3 : Int32).toNatClampNeg) by decide) dL_law_652 ?_
  refine W.eq (g2 := F0 m 653 ls (.int (xs 3) :: .int (xs 2) :: .int (xs 1) :: .ref x0 :: [])) rfl ?_
  refine lv_aload_n hx hb dL_law_653 rfl (lv_at hl 3 rfl) ?_
  refine lv_iload_n hx hb dL_law_654 rfl (lv_at hl 0 rfl) ?_
  refine lv_iconst (v := 4) hx hb dL_law_655 (by decide) ?_
  refine lv_iadd hx hb dL_law_656 ?_
  refine lv_topi (fun z_656 e_656 => ?_)
  obtain rfl : z_656 = (4 : Int32) := e_656.trans (by decide)
  refine va_sld hx hb hX hbl hbA hS (show ¬ ((4 : Int32) < 0 ∨ 6 ≤ (4 : Int32).toNatClampNeg) by decide) dL_law_657 ?_
  refine W.eq (g2 := F0 m 658 ls (.int (xs 4) :: .int (xs 3) :: .int (xs 2) :: .int (xs 1) :: .ref x0 :: [])) rfl ?_
  have hPc := hP.sub (ws' := [(x0, .inr (11, [.ref pg, .ref rd, .ref aq, .ref py, .ref pl, .ref ch, .ref ro, .int 0, .int 0]))]) [0] rfl
  have hKc := hK.sub (tys' := []) [] rfl
  refine vp_callSl (W.runV (As := [.int (xs 1), .int (xs 2), .int (xs 3), .int (xs 4)]) (rest := []) ⟨hx, hb, hml, hown, hg⟩ (x_gain l D x0 pg rd aq py pl ch ro (xs 1) (xs 2) (xs 3) (xs 4)) (cwV 4 hg (gw_V kw_378 kw_379 kw_380 kw_6 kw_377) rfl rfl rfl (by decide +kernel) ⟨Nat.le_of_ble_eq_true rfl, Nat.le_of_ble_eq_true rfl⟩) (pr_SV (q := (RX11, TX11, 9)) 11 0 hKc hPc rfl rfl) rfl rfl hl.1 rfl (lv_room (Nat.le_of_ble_eq_true rfl)) dL_law_658 ⟨Nat.le_of_ble_eq_true rfl, Nat.le_of_ble_eq_true rfl⟩) (fun r_658 h_658 => ?_)
  obtain rfl : r_658 = ((-101) : Int64) := h_658
  refine lv_aload_n hx hb dL_law_661 rfl (lv_at hl 1 rfl) ?_
  refine lv_aload_n hx hb dL_law_662 rfl (lv_at hl 3 rfl) ?_
  refine lv_iload_n hx hb dL_law_663 rfl (lv_at hl 0 rfl) ?_
  refine lv_iconst (v := 1) hx hb dL_law_664 (by decide) ?_
  refine lv_iadd hx hb dL_law_665 ?_
  refine lv_topi (fun z_665 e_665 => ?_)
  obtain rfl : z_665 = (1 : Int32) := e_665.trans (by decide)
  refine va_sld hx hb hX hbl hbA hS (show ¬ ((1 : Int32) < 0 ∨ 6 ≤ (1 : Int32).toNatClampNeg) by decide) dL_law_666 ?_
  refine W.eq (g2 := F0 m 667 ls (.int (xs 1) :: .ref m0 :: .long (-101) :: [])) rfl ?_
  refine lv_aload_n hx hb dL_law_667 rfl (lv_at hl 3 rfl) ?_
  refine lv_iload_n hx hb dL_law_668 rfl (lv_at hl 0 rfl) ?_
  refine lv_iconst (v := 2) hx hb dL_law_669 (by decide) ?_
  refine lv_iadd hx hb dL_law_670 ?_
  refine lv_topi (fun z_670 e_670 => ?_)
  obtain rfl : z_670 = (2 : Int32) := e_670.trans (by decide)
  refine va_sld hx hb hX hbl hbA hS (show ¬ ((2 : Int32) < 0 ∨ 6 ≤ (2 : Int32).toNatClampNeg) by decide) dL_law_671 ?_
  refine W.eq (g2 := F0 m 672 ls (.int (xs 2) :: .int (xs 1) :: .ref m0 :: .long (-101) :: [])) rfl ?_
  refine lv_aload_n hx hb dL_law_672 rfl (lv_at hl 3 rfl) ?_
  refine lv_iload_n hx hb dL_law_673 rfl (lv_at hl 0 rfl) ?_
  refine lv_iconst (v := 3) hx hb dL_law_674 (by decide) ?_
  refine lv_iadd hx hb dL_law_675 ?_
  refine lv_topi (fun z_675 e_675 => ?_)
  obtain rfl : z_675 = (3 : Int32) := e_675.trans (by decide)
  refine va_sld hx hb hX hbl hbA hS (show ¬ ((3 : Int32) < 0 ∨ 6 ≤ (3 : Int32).toNatClampNeg) by decide) dL_law_676 ?_
  refine W.eq (g2 := F0 m 677 ls (.int (xs 3) :: .int (xs 2) :: .int (xs 1) :: .ref m0 :: .long (-101) :: [])) rfl ?_
  refine lv_aload_n hx hb dL_law_677 rfl (lv_at hl 3 rfl) ?_
  refine lv_iload_n hx hb dL_law_678 rfl (lv_at hl 0 rfl) ?_
  refine lv_iconst (v := 4) hx hb dL_law_679 (by decide) ?_
  refine lv_iadd hx hb dL_law_680 ?_
  refine lv_topi (fun z_680 e_680 => ?_)
  obtain rfl : z_680 = (4 : Int32) := e_680.trans (by decide)
  refine va_sld hx hb hX hbl hbA hS (show ¬ ((4 : Int32) < 0 ∨ 6 ≤ (4 : Int32).toNatClampNeg) by decide) dL_law_681 ?_
  refine W.eq (g2 := F0 m 682 ls (.int (xs 4) :: .int (xs 3) :: .int (xs 2) :: .int (xs 1) :: .ref m0 :: .long (-101) :: [])) rfl ?_
  have hPc := hP.sub (ws' := [(m0, .inr (12, [.ref mp, .int 0, .int 0, .int 0, .ref mw, .ref mh, .ref mo, .int 0, .int 0, .int 0, .int 0, .int 0, .int 0, .ref m5, .ref m6, .ref m7, .long 0, .int 0, .ref mk, .ref mn, .int 0, .ref mq, .ref m8, .ref m9, .int 0, .int 0, .int 0, .int 0, .ref ma, .int 0, .ref mb, .ref md, .long 0]))]) [7] rfl
  have hKc := hK.sub (tys' := []) [] rfl
  refine vp_callSl (W.runV (As := [.int (xs 1), .int (xs 2), .int (xs 3), .int (xs 4)]) (rest := [.long (-101)]) ⟨hx, hb, hml, hown, hg⟩ (m_gain l D m0 mp mw mh mo m5 m6 m7 mk mn mq m8 m9 ma mb md (xs 1) (xs 2) (xs 3) (xs 4)) (cwV 4 hg (gw_V kw_382 kw_383 kw_384 kw_210 kw_381) rfl rfl rfl (by decide +kernel) ⟨Nat.le_of_ble_eq_true rfl, Nat.le_of_ble_eq_true rfl⟩) (pr_SV (q := (RX12, TX12, 33)) 12 0 hKc hPc rfl rfl) rfl rfl hl.1 rfl (lv_room (Nat.le_of_ble_eq_true rfl)) dL_law_682 ⟨Nat.le_of_ble_eq_true rfl, Nat.le_of_ble_eq_true rfl⟩) (fun r_682 h_682 => ?_)
  obtain rfl : r_682 = ((-101) : Int64) := h_682
  refine W.lcmp hx hb dL_law_685 ?_
  refine lv_topi (fun z_685 e_685 => ?_)
  obtain rfl : z_685 = (0 : Int32) := e_685.trans (by decide)
  refine lv_if_eq (tgt := 1101) hx hb dL_law_686 (by decide) (fun c_686 => ?_) (fun c_686 => absurd c_686 (by decide))
  exact law_end l C0 hS (lv_sub hl [0, 1, 2, 3] rfl) (Nat.le_of_ble_eq_true rfl) (Nat.le_of_ble_eq_true rfl)

theorem kw_385 : (.code yX11_all cX11_all 4 (some .int) : Cond) ∈ gw_tbl := gw_in (by decide +kernel) (by decide +kernel)
theorem kw_386 : (.methodLink RL 77 yX11_all : Cond) ∈ gw_tbl := gw_in (by decide +kernel) (by decide +kernel)
theorem kw_387 : (.instanceMethod yX11_all : Cond) ∈ gw_tbl := gw_in (by decide +kernel) (by decide +kernel)
theorem kw_388 : (.selects RX11 yX11_all yX11_all : Cond) ∈ gw_tbl := gw_in (by decide +kernel) (by decide +kernel)
theorem kw_389 : (.code yX12_all cX12_all 4 (some .int) : Cond) ∈ gw_tbl := gw_in (by decide +kernel) (by decide +kernel)
theorem kw_390 : (.methodLink RL 80 yX12_all : Cond) ∈ gw_tbl := gw_in (by decide +kernel) (by decide +kernel)
theorem kw_391 : (.instanceMethod yX12_all : Cond) ∈ gw_tbl := gw_in (by decide +kernel) (by decide +kernel)
theorem kw_392 : (.selects RX12 yX12_all yX12_all : Cond) ∈ gw_tbl := gw_in (by decide +kernel) (by decide +kernel)

set_option maxHeartbeats 4000000 in
set_option maxRecDepth 100000 in
theorem law_case_14 {p : Program} {e : Env} {s : State} {m : MethodId} {below : List Frame} {meth : Method} {c : Code} (l : Launch) {b : Nat} {xs : Nat → Int32} (C0 : lw_At p s m meth c b 6 xs) (hN : nw_C s) {D : va_G} (x0 : Nat) (pg : Nat) (rd : Nat) (aq : Nat) (py : Nat) (pl : Nat) (ch : Nat) (ro : Nat) (cd : Nat) (rw : Nat) (rc : Nat) (a1 : Nat) (a2 : Nat) (a3 : Nat) (a4 : Nat) (r1 : Nat) (r2 : Nat) (cI : ClassId) (cP : ClassId) (m0 : Nat) (mp : Nat) (mw : Nat) (mh : Nat) (mo : Nat) (m5 : Nat) (m6 : Nat) (m7 : Nat) (mk : Nat) (mn : Nat) (mq : Nat) (m8 : Nat) (m9 : Nat) (ma : Nat) (mb : Nat) (md : Nat) (cM : ClassId) (cK : ClassId) (cN : ClassId) {H : Heap} {locs : List Loc} (hK : va_K D vwCl [(cI, .int), (cP, .object RX3), (cM, .int), (cK, .int), (cN, .int)] s) (hP : va_P D vwCl [(x0, .inr (11, [.ref pg, .ref rd, .ref aq, .ref py, .ref pl, .ref ch, .ref ro, .int 0, .int 0])), (pg, .inr (2, [.ref cd, .int 0])), (cd, .inl (cI, 90, .inl (fun _ => 0))), (rd, .inr (7, [.ref rw, .ref rc, .int 0, .int 0, .int 0, .int 0, .int 0])), (aq, .inr (5, [.ref a1, .ref a2, .ref a3, .ref a4, .int 0, .int 0, .long 0])), (py, .inl (cP, 8, .inr (.inr (.inr (.inr (fun _ => none)))))), (ro, .inr (8, [.ref r1, .ref r2, .int 0])), (m0, .inr (12, [.ref mp, .int 0, .int 0, .int 0, .ref mw, .ref mh, .ref mo, .int 0, .int 0, .int 0, .int 0, .int 0, .int 0, .ref m5, .ref m6, .ref m7, .long 0, .int 0, .ref mk, .ref mn, .int 0, .ref mq, .ref m8, .ref m9, .int 0, .int 0, .int 0, .int 0, .ref ma, .int 0, .ref mb, .ref md, .long 0])), (mp, .inl (cM, 90, .inl (fun _ => 0))), (mk, .inl (cK, 8, .inl (fun _ => 0))), (mn, .inl (cN, 32, .inl (fun _ => 0)))] H) (hD : va_D (AA s) [(x0, .inr (11, [.ref pg, .ref rd, .ref aq, .ref py, .ref pl, .ref ch, .ref ro, .int 0, .int 0])), (pg, .inr (2, [.ref cd, .int 0])), (cd, .inl (cI, 90, .inl (fun _ => 0))), (rd, .inr (7, [.ref rw, .ref rc, .int 0, .int 0, .int 0, .int 0, .int 0])), (aq, .inr (5, [.ref a1, .ref a2, .ref a3, .ref a4, .int 0, .int 0, .long 0])), (py, .inl (cP, 8, .inr (.inr (.inr (.inr (fun _ => none)))))), (ro, .inr (8, [.ref r1, .ref r2, .int 0])), (m0, .inr (12, [.ref mp, .int 0, .int 0, .int 0, .ref mw, .ref mh, .ref mo, .int 0, .int 0, .int 0, .int 0, .int 0, .int 0, .ref m5, .ref m6, .ref m7, .long 0, .int 0, .ref mk, .ref mn, .int 0, .ref mq, .ref m8, .ref m9, .int 0, .int 0, .int 0, .int 0, .ref ma, .int 0, .ref mb, .ref md, .long 0])), (mp, .inl (cM, 90, .inl (fun _ => 0))), (mk, .inl (cK, 8, .inl (fun _ => 0))), (mn, .inl (cN, 32, .inl (fun _ => 0)))]) (hS : va_S (AA s) s.heap H locs) {ls : Array Slot} (hl : lv_has ls 4 [(3, .int 0), (2, .ref m0), (1, .ref x0), (0, .ref b)]) : W p l e room_1 s m #[Value.ref b] below meth c H locs 62 2530 (lw_Z below #[Value.ref b] s) (F0 m 691 ls []) := by
  obtain ⟨hx, hb, hr, hml, hown, hts, hX, hbl, hlocks, hgv⟩ := id C0
  have hg := fun (w : Cond) (h : w ∈ gw_tbl) => hts w (gw_lw h)
  have hown : s.vm.findClass RL = some m.cls := hown
  have hbA : ¬ AA s b := Nat.not_le.mpr hbl
  have hA : ∀ q : Nat, s.heap.size ≤ q → AA s q := fun _ h => h
  refine lv_aload_n hx hb dL_law_691 rfl (lv_at hl 2 rfl) ?_
  refine lv_aload_n hx hb dL_law_692 rfl (lv_at hl 3 rfl) ?_
  refine lv_iload_n hx hb dL_law_693 rfl (lv_at hl 0 rfl) ?_
  refine lv_iconst (v := 1) hx hb dL_law_694 (by decide) ?_
  refine lv_iadd hx hb dL_law_695 ?_
  refine lv_topi (fun z_695 e_695 => ?_)
  obtain rfl : z_695 = (1 : Int32) := e_695.trans (by decide)
  refine va_sld hx hb hX hbl hbA hS (show ¬ ((1 : Int32) < 0 ∨ 6 ≤ (1 : Int32).toNatClampNeg) by decide) dL_law_696 ?_
  refine W.eq (g2 := F0 m 697 ls (.int (xs 1) :: .ref x0 :: [])) rfl ?_
  refine lv_aload_n hx hb dL_law_697 rfl (lv_at hl 3 rfl) ?_
  refine lv_iload_n hx hb dL_law_698 rfl (lv_at hl 0 rfl) ?_
  refine lv_iconst (v := 2) hx hb dL_law_699 (by decide) ?_
  refine lv_iadd hx hb dL_law_700 ?_
  refine lv_topi (fun z_700 e_700 => ?_)
  obtain rfl : z_700 = (2 : Int32) := e_700.trans (by decide)
  refine va_sld hx hb hX hbl hbA hS (show ¬ ((2 : Int32) < 0 ∨ 6 ≤ (2 : Int32).toNatClampNeg) by decide) dL_law_701 ?_
  refine W.eq (g2 := F0 m 702 ls (.int (xs 2) :: .int (xs 1) :: .ref x0 :: [])) rfl ?_
  have hPc := hP.sub (ws' := [(x0, .inr (11, [.ref pg, .ref rd, .ref aq, .ref py, .ref pl, .ref ch, .ref ro, .int 0, .int 0]))]) [0] rfl
  have hKc := hK.sub (tys' := []) [] rfl
  refine vp_callSi (W.runV (As := [.int (xs 1), .int (xs 2)]) (rest := []) ⟨hx, hb, hml, hown, hg⟩ (x_all l D x0 pg rd aq py pl ch ro (xs 1) (xs 2)) (cwV 2 hg (gw_V kw_386 kw_387 kw_388 kw_6 kw_385) rfl rfl rfl (by decide +kernel) ⟨Nat.le_of_ble_eq_true rfl, Nat.le_of_ble_eq_true rfl⟩) (pr_SV (q := (RX11, TX11, 9)) 11 0 hKc hPc rfl rfl) rfl rfl hl.1 rfl (lv_room (Nat.le_of_ble_eq_true rfl)) dL_law_702 ⟨Nat.le_of_ble_eq_true rfl, Nat.le_of_ble_eq_true rfl⟩) (fun r_702 h_702 => ?_)
  obtain rfl : r_702 = ((-101) : Int32) := h_702
  refine lv_aload_n hx hb dL_law_705 rfl (lv_at hl 1 rfl) ?_
  refine lv_aload_n hx hb dL_law_706 rfl (lv_at hl 3 rfl) ?_
  refine lv_iload_n hx hb dL_law_707 rfl (lv_at hl 0 rfl) ?_
  refine lv_iconst (v := 1) hx hb dL_law_708 (by decide) ?_
  refine lv_iadd hx hb dL_law_709 ?_
  refine lv_topi (fun z_709 e_709 => ?_)
  obtain rfl : z_709 = (1 : Int32) := e_709.trans (by decide)
  refine va_sld hx hb hX hbl hbA hS (show ¬ ((1 : Int32) < 0 ∨ 6 ≤ (1 : Int32).toNatClampNeg) by decide) dL_law_710 ?_
  refine W.eq (g2 := F0 m 711 ls (.int (xs 1) :: .ref m0 :: .int (-101) :: [])) rfl ?_
  refine lv_aload_n hx hb dL_law_711 rfl (lv_at hl 3 rfl) ?_
  refine lv_iload_n hx hb dL_law_712 rfl (lv_at hl 0 rfl) ?_
  refine lv_iconst (v := 2) hx hb dL_law_713 (by decide) ?_
  refine lv_iadd hx hb dL_law_714 ?_
  refine lv_topi (fun z_714 e_714 => ?_)
  obtain rfl : z_714 = (2 : Int32) := e_714.trans (by decide)
  refine va_sld hx hb hX hbl hbA hS (show ¬ ((2 : Int32) < 0 ∨ 6 ≤ (2 : Int32).toNatClampNeg) by decide) dL_law_715 ?_
  refine W.eq (g2 := F0 m 716 ls (.int (xs 2) :: .int (xs 1) :: .ref m0 :: .int (-101) :: [])) rfl ?_
  have hPc := hP.sub (ws' := [(m0, .inr (12, [.ref mp, .int 0, .int 0, .int 0, .ref mw, .ref mh, .ref mo, .int 0, .int 0, .int 0, .int 0, .int 0, .int 0, .ref m5, .ref m6, .ref m7, .long 0, .int 0, .ref mk, .ref mn, .int 0, .ref mq, .ref m8, .ref m9, .int 0, .int 0, .int 0, .int 0, .ref ma, .int 0, .ref mb, .ref md, .long 0]))]) [7] rfl
  have hKc := hK.sub (tys' := []) [] rfl
  refine vp_callSi (W.runV (As := [.int (xs 1), .int (xs 2)]) (rest := [.int (-101)]) ⟨hx, hb, hml, hown, hg⟩ (m_all l D m0 mp mw mh mo m5 m6 m7 mk mn mq m8 m9 ma mb md (xs 1) (xs 2)) (cwV 2 hg (gw_V kw_390 kw_391 kw_392 kw_210 kw_389) rfl rfl rfl (by decide +kernel) ⟨Nat.le_of_ble_eq_true rfl, Nat.le_of_ble_eq_true rfl⟩) (pr_SV (q := (RX12, TX12, 33)) 12 0 hKc hPc rfl rfl) rfl rfl hl.1 rfl (lv_room (Nat.le_of_ble_eq_true rfl)) dL_law_716 ⟨Nat.le_of_ble_eq_true rfl, Nat.le_of_ble_eq_true rfl⟩) (fun r_716 h_716 => ?_)
  obtain rfl : r_716 = ((-101) : Int32) := h_716
  refine lv_icmp_eq (tgt := 1101) hx hb dL_law_719 (by decide) (fun c_719 => ?_) (fun c_719 => absurd c_719 (by decide))
  exact law_end l C0 hS (lv_sub hl [0, 1, 2, 3] rfl) (Nat.le_of_ble_eq_true rfl) (Nat.le_of_ble_eq_true rfl)

theorem kw_393 : (.code yX11_group cX11_group 6 (some .int) : Cond) ∈ gw_tbl := gw_in (by decide +kernel) (by decide +kernel)
theorem kw_394 : (.methodLink RL 81 yX11_group : Cond) ∈ gw_tbl := gw_in (by decide +kernel) (by decide +kernel)
theorem kw_395 : (.instanceMethod yX11_group : Cond) ∈ gw_tbl := gw_in (by decide +kernel) (by decide +kernel)
theorem kw_396 : (.selects RX11 yX11_group yX11_group : Cond) ∈ gw_tbl := gw_in (by decide +kernel) (by decide +kernel)
theorem kw_397 : (.code yX12_group cX12_group 10 (some .int) : Cond) ∈ gw_tbl := gw_in (by decide +kernel) (by decide +kernel)
theorem kw_398 : (.methodLink RL 84 yX12_group : Cond) ∈ gw_tbl := gw_in (by decide +kernel) (by decide +kernel)
theorem kw_399 : (.instanceMethod yX12_group : Cond) ∈ gw_tbl := gw_in (by decide +kernel) (by decide +kernel)
theorem kw_400 : (.selects RX12 yX12_group yX12_group : Cond) ∈ gw_tbl := gw_in (by decide +kernel) (by decide +kernel)

set_option maxHeartbeats 4000000 in
set_option maxRecDepth 100000 in
theorem law_case_15 {p : Program} {e : Env} {s : State} {m : MethodId} {below : List Frame} {meth : Method} {c : Code} (l : Launch) {b : Nat} {xs : Nat → Int32} (C0 : lw_At p s m meth c b 6 xs) (hN : nw_C s) {D : va_G} (x0 : Nat) (pg : Nat) (rd : Nat) (aq : Nat) (py : Nat) (pl : Nat) (ch : Nat) (ro : Nat) (cd : Nat) (rw : Nat) (rc : Nat) (a1 : Nat) (a2 : Nat) (a3 : Nat) (a4 : Nat) (r1 : Nat) (r2 : Nat) (cI : ClassId) (cP : ClassId) (m0 : Nat) (mp : Nat) (mw : Nat) (mh : Nat) (mo : Nat) (m5 : Nat) (m6 : Nat) (m7 : Nat) (mk : Nat) (mn : Nat) (mq : Nat) (m8 : Nat) (m9 : Nat) (ma : Nat) (mb : Nat) (md : Nat) (cM : ClassId) (cK : ClassId) (cN : ClassId) {H : Heap} {locs : List Loc} (hK : va_K D vwCl [(cI, .int), (cP, .object RX3), (cM, .int), (cK, .int), (cN, .int)] s) (hP : va_P D vwCl [(x0, .inr (11, [.ref pg, .ref rd, .ref aq, .ref py, .ref pl, .ref ch, .ref ro, .int 0, .int 0])), (pg, .inr (2, [.ref cd, .int 0])), (cd, .inl (cI, 90, .inl (fun _ => 0))), (rd, .inr (7, [.ref rw, .ref rc, .int 0, .int 0, .int 0, .int 0, .int 0])), (aq, .inr (5, [.ref a1, .ref a2, .ref a3, .ref a4, .int 0, .int 0, .long 0])), (py, .inl (cP, 8, .inr (.inr (.inr (.inr (fun _ => none)))))), (ro, .inr (8, [.ref r1, .ref r2, .int 0])), (m0, .inr (12, [.ref mp, .int 0, .int 0, .int 0, .ref mw, .ref mh, .ref mo, .int 0, .int 0, .int 0, .int 0, .int 0, .int 0, .ref m5, .ref m6, .ref m7, .long 0, .int 0, .ref mk, .ref mn, .int 0, .ref mq, .ref m8, .ref m9, .int 0, .int 0, .int 0, .int 0, .ref ma, .int 0, .ref mb, .ref md, .long 0])), (mp, .inl (cM, 90, .inl (fun _ => 0))), (mk, .inl (cK, 8, .inl (fun _ => 0))), (mn, .inl (cN, 32, .inl (fun _ => 0)))] H) (hD : va_D (AA s) [(x0, .inr (11, [.ref pg, .ref rd, .ref aq, .ref py, .ref pl, .ref ch, .ref ro, .int 0, .int 0])), (pg, .inr (2, [.ref cd, .int 0])), (cd, .inl (cI, 90, .inl (fun _ => 0))), (rd, .inr (7, [.ref rw, .ref rc, .int 0, .int 0, .int 0, .int 0, .int 0])), (aq, .inr (5, [.ref a1, .ref a2, .ref a3, .ref a4, .int 0, .int 0, .long 0])), (py, .inl (cP, 8, .inr (.inr (.inr (.inr (fun _ => none)))))), (ro, .inr (8, [.ref r1, .ref r2, .int 0])), (m0, .inr (12, [.ref mp, .int 0, .int 0, .int 0, .ref mw, .ref mh, .ref mo, .int 0, .int 0, .int 0, .int 0, .int 0, .int 0, .ref m5, .ref m6, .ref m7, .long 0, .int 0, .ref mk, .ref mn, .int 0, .ref mq, .ref m8, .ref m9, .int 0, .int 0, .int 0, .int 0, .ref ma, .int 0, .ref mb, .ref md, .long 0])), (mp, .inl (cM, 90, .inl (fun _ => 0))), (mk, .inl (cK, 8, .inl (fun _ => 0))), (mn, .inl (cN, 32, .inl (fun _ => 0)))]) (hS : va_S (AA s) s.heap H locs) {ls : Array Slot} (hl : lv_has ls 4 [(3, .int 0), (2, .ref m0), (1, .ref x0), (0, .ref b)]) : W p l e room_1 s m #[Value.ref b] below meth c H locs 62 2530 (lw_Z below #[Value.ref b] s) (F0 m 724 ls []) := by
  obtain ⟨hx, hb, hr, hml, hown, hts, hX, hbl, hlocks, hgv⟩ := id C0
  have hg := fun (w : Cond) (h : w ∈ gw_tbl) => hts w (gw_lw h)
  have hown : s.vm.findClass RL = some m.cls := hown
  have hbA : ¬ AA s b := Nat.not_le.mpr hbl
  have hA : ∀ q : Nat, s.heap.size ≤ q → AA s q := fun _ h => h
  refine lv_aload_n hx hb dL_law_724 rfl (lv_at hl 2 rfl) ?_
  refine lv_aload_n hx hb dL_law_725 rfl (lv_at hl 3 rfl) ?_
  refine lv_iload_n hx hb dL_law_726 rfl (lv_at hl 0 rfl) ?_
  refine lv_iconst (v := 1) hx hb dL_law_727 (by decide) ?_
  refine lv_iadd hx hb dL_law_728 ?_
  refine lv_topi (fun z_728 e_728 => ?_)
  obtain rfl : z_728 = (1 : Int32) := e_728.trans (by decide)
  refine va_sld hx hb hX hbl hbA hS (show ¬ ((1 : Int32) < 0 ∨ 6 ≤ (1 : Int32).toNatClampNeg) by decide) dL_law_729 ?_
  refine W.eq (g2 := F0 m 730 ls (.int (xs 1) :: .ref x0 :: [])) rfl ?_
  refine lv_aload_n hx hb dL_law_730 rfl (lv_at hl 3 rfl) ?_
  refine lv_iload_n hx hb dL_law_731 rfl (lv_at hl 0 rfl) ?_
  refine lv_iconst (v := 2) hx hb dL_law_732 (by decide) ?_
  refine lv_iadd hx hb dL_law_733 ?_
  refine lv_topi (fun z_733 e_733 => ?_)
  obtain rfl : z_733 = (2 : Int32) := e_733.trans (by decide)
  refine va_sld hx hb hX hbl hbA hS (show ¬ ((2 : Int32) < 0 ∨ 6 ≤ (2 : Int32).toNatClampNeg) by decide) dL_law_734 ?_
  refine W.eq (g2 := F0 m 735 ls (.int (xs 2) :: .int (xs 1) :: .ref x0 :: [])) rfl ?_
  refine lv_aload_n hx hb dL_law_735 rfl (lv_at hl 3 rfl) ?_
  refine lv_iload_n hx hb dL_law_736 rfl (lv_at hl 0 rfl) ?_
  refine lv_iconst (v := 3) hx hb dL_law_737 (by decide) ?_
  refine lv_iadd hx hb dL_law_738 ?_
  refine lv_topi (fun z_738 e_738 => ?_)
  obtain rfl : z_738 = (3 : Int32) := e_738.trans (by decide)
  refine va_sld hx hb hX hbl hbA hS (show ¬ ((3 : Int32) < 0 ∨ 6 ≤ (3 : Int32).toNatClampNeg) by decide) dL_law_739 ?_
  refine W.eq (g2 := F0 m 740 ls (.int (xs 3) :: .int (xs 2) :: .int (xs 1) :: .ref x0 :: [])) rfl ?_
  have hPc := hP.sub (ws' := [(x0, .inr (11, [.ref pg, .ref rd, .ref aq, .ref py, .ref pl, .ref ch, .ref ro, .int 0, .int 0]))]) [0] rfl
  have hKc := hK.sub (tys' := []) [] rfl
  refine vp_callSi (W.runV (As := [.int (xs 1), .int (xs 2), .int (xs 3)]) (rest := []) ⟨hx, hb, hml, hown, hg⟩ (x_group l D x0 pg rd aq py pl ch ro (xs 1) (xs 2) (xs 3)) (cwV 3 hg (gw_V kw_394 kw_395 kw_396 kw_6 kw_393) rfl rfl rfl (by decide +kernel) ⟨Nat.le_of_ble_eq_true rfl, Nat.le_of_ble_eq_true rfl⟩) (pr_SV (q := (RX11, TX11, 9)) 11 0 hKc hPc rfl rfl) rfl rfl hl.1 rfl (lv_room (Nat.le_of_ble_eq_true rfl)) dL_law_740 ⟨Nat.le_of_ble_eq_true rfl, Nat.le_of_ble_eq_true rfl⟩) (fun r_740 h_740 => ?_)
  obtain rfl : r_740 = ((-101) : Int32) := h_740
  refine lv_aload_n hx hb dL_law_743 rfl (lv_at hl 1 rfl) ?_
  refine lv_aload_n hx hb dL_law_744 rfl (lv_at hl 3 rfl) ?_
  refine lv_iload_n hx hb dL_law_745 rfl (lv_at hl 0 rfl) ?_
  refine lv_iconst (v := 1) hx hb dL_law_746 (by decide) ?_
  refine lv_iadd hx hb dL_law_747 ?_
  refine lv_topi (fun z_747 e_747 => ?_)
  obtain rfl : z_747 = (1 : Int32) := e_747.trans (by decide)
  refine va_sld hx hb hX hbl hbA hS (show ¬ ((1 : Int32) < 0 ∨ 6 ≤ (1 : Int32).toNatClampNeg) by decide) dL_law_748 ?_
  refine W.eq (g2 := F0 m 749 ls (.int (xs 1) :: .ref m0 :: .int (-101) :: [])) rfl ?_
  refine lv_aload_n hx hb dL_law_749 rfl (lv_at hl 3 rfl) ?_
  refine lv_iload_n hx hb dL_law_750 rfl (lv_at hl 0 rfl) ?_
  refine lv_iconst (v := 2) hx hb dL_law_751 (by decide) ?_
  refine lv_iadd hx hb dL_law_752 ?_
  refine lv_topi (fun z_752 e_752 => ?_)
  obtain rfl : z_752 = (2 : Int32) := e_752.trans (by decide)
  refine va_sld hx hb hX hbl hbA hS (show ¬ ((2 : Int32) < 0 ∨ 6 ≤ (2 : Int32).toNatClampNeg) by decide) dL_law_753 ?_
  refine W.eq (g2 := F0 m 754 ls (.int (xs 2) :: .int (xs 1) :: .ref m0 :: .int (-101) :: [])) rfl ?_
  refine lv_aload_n hx hb dL_law_754 rfl (lv_at hl 3 rfl) ?_
  refine lv_iload_n hx hb dL_law_755 rfl (lv_at hl 0 rfl) ?_
  refine lv_iconst (v := 3) hx hb dL_law_756 (by decide) ?_
  refine lv_iadd hx hb dL_law_757 ?_
  refine lv_topi (fun z_757 e_757 => ?_)
  obtain rfl : z_757 = (3 : Int32) := e_757.trans (by decide)
  refine va_sld hx hb hX hbl hbA hS (show ¬ ((3 : Int32) < 0 ∨ 6 ≤ (3 : Int32).toNatClampNeg) by decide) dL_law_758 ?_
  refine W.eq (g2 := F0 m 759 ls (.int (xs 3) :: .int (xs 2) :: .int (xs 1) :: .ref m0 :: .int (-101) :: [])) rfl ?_
  have hPc := hP.sub (ws' := [(m0, .inr (12, [.ref mp, .int 0, .int 0, .int 0, .ref mw, .ref mh, .ref mo, .int 0, .int 0, .int 0, .int 0, .int 0, .int 0, .ref m5, .ref m6, .ref m7, .long 0, .int 0, .ref mk, .ref mn, .int 0, .ref mq, .ref m8, .ref m9, .int 0, .int 0, .int 0, .int 0, .ref ma, .int 0, .ref mb, .ref md, .long 0]))]) [7] rfl
  have hKc := hK.sub (tys' := []) [] rfl
  refine vp_callSi (W.runV (As := [.int (xs 1), .int (xs 2), .int (xs 3)]) (rest := [.int (-101)]) ⟨hx, hb, hml, hown, hg⟩ (m_group l D m0 mp mw mh mo m5 m6 m7 mk mn mq m8 m9 ma mb md (xs 1) (xs 2) (xs 3)) (cwV 3 hg (gw_V kw_398 kw_399 kw_400 kw_210 kw_397) rfl rfl rfl (by decide +kernel) ⟨Nat.le_of_ble_eq_true rfl, Nat.le_of_ble_eq_true rfl⟩) (pr_SV (q := (RX12, TX12, 33)) 12 0 hKc hPc rfl rfl) rfl rfl hl.1 rfl (lv_room (Nat.le_of_ble_eq_true rfl)) dL_law_759 ⟨Nat.le_of_ble_eq_true rfl, Nat.le_of_ble_eq_true rfl⟩) (fun r_759 h_759 => ?_)
  obtain rfl : r_759 = ((-101) : Int32) := h_759
  refine lv_icmp_eq (tgt := 1101) hx hb dL_law_762 (by decide) (fun c_762 => ?_) (fun c_762 => absurd c_762 (by decide))
  exact law_end l C0 hS (lv_sub hl [0, 1, 2, 3] rfl) (Nat.le_of_ble_eq_true rfl) (Nat.le_of_ble_eq_true rfl)

theorem kw_401 : (.code yX11_goes cX11_goes 6 (some .int) : Cond) ∈ gw_tbl := gw_in (by decide +kernel) (by decide +kernel)
theorem kw_402 : (.methodLink RL 85 yX11_goes : Cond) ∈ gw_tbl := gw_in (by decide +kernel) (by decide +kernel)
theorem kw_403 : (.instanceMethod yX11_goes : Cond) ∈ gw_tbl := gw_in (by decide +kernel) (by decide +kernel)
theorem kw_404 : (.selects RX11 yX11_goes yX11_goes : Cond) ∈ gw_tbl := gw_in (by decide +kernel) (by decide +kernel)
theorem kw_405 : (.code yX12_goes cX12_goes 5 (some .int) : Cond) ∈ gw_tbl := gw_in (by decide +kernel) (by decide +kernel)
theorem kw_406 : (.methodLink RL 88 yX12_goes : Cond) ∈ gw_tbl := gw_in (by decide +kernel) (by decide +kernel)
theorem kw_407 : (.instanceMethod yX12_goes : Cond) ∈ gw_tbl := gw_in (by decide +kernel) (by decide +kernel)
theorem kw_408 : (.selects RX12 yX12_goes yX12_goes : Cond) ∈ gw_tbl := gw_in (by decide +kernel) (by decide +kernel)

set_option maxHeartbeats 4000000 in
set_option maxRecDepth 100000 in
theorem law_case_16 {p : Program} {e : Env} {s : State} {m : MethodId} {below : List Frame} {meth : Method} {c : Code} (l : Launch) {b : Nat} {xs : Nat → Int32} (C0 : lw_At p s m meth c b 6 xs) (hN : nw_C s) {D : va_G} (x0 : Nat) (pg : Nat) (rd : Nat) (aq : Nat) (py : Nat) (pl : Nat) (ch : Nat) (ro : Nat) (cd : Nat) (rw : Nat) (rc : Nat) (a1 : Nat) (a2 : Nat) (a3 : Nat) (a4 : Nat) (r1 : Nat) (r2 : Nat) (cI : ClassId) (cP : ClassId) (m0 : Nat) (mp : Nat) (mw : Nat) (mh : Nat) (mo : Nat) (m5 : Nat) (m6 : Nat) (m7 : Nat) (mk : Nat) (mn : Nat) (mq : Nat) (m8 : Nat) (m9 : Nat) (ma : Nat) (mb : Nat) (md : Nat) (cM : ClassId) (cK : ClassId) (cN : ClassId) {H : Heap} {locs : List Loc} (hK : va_K D vwCl [(cI, .int), (cP, .object RX3), (cM, .int), (cK, .int), (cN, .int)] s) (hP : va_P D vwCl [(x0, .inr (11, [.ref pg, .ref rd, .ref aq, .ref py, .ref pl, .ref ch, .ref ro, .int 0, .int 0])), (pg, .inr (2, [.ref cd, .int 0])), (cd, .inl (cI, 90, .inl (fun _ => 0))), (rd, .inr (7, [.ref rw, .ref rc, .int 0, .int 0, .int 0, .int 0, .int 0])), (aq, .inr (5, [.ref a1, .ref a2, .ref a3, .ref a4, .int 0, .int 0, .long 0])), (py, .inl (cP, 8, .inr (.inr (.inr (.inr (fun _ => none)))))), (ro, .inr (8, [.ref r1, .ref r2, .int 0])), (m0, .inr (12, [.ref mp, .int 0, .int 0, .int 0, .ref mw, .ref mh, .ref mo, .int 0, .int 0, .int 0, .int 0, .int 0, .int 0, .ref m5, .ref m6, .ref m7, .long 0, .int 0, .ref mk, .ref mn, .int 0, .ref mq, .ref m8, .ref m9, .int 0, .int 0, .int 0, .int 0, .ref ma, .int 0, .ref mb, .ref md, .long 0])), (mp, .inl (cM, 90, .inl (fun _ => 0))), (mk, .inl (cK, 8, .inl (fun _ => 0))), (mn, .inl (cN, 32, .inl (fun _ => 0)))] H) (hD : va_D (AA s) [(x0, .inr (11, [.ref pg, .ref rd, .ref aq, .ref py, .ref pl, .ref ch, .ref ro, .int 0, .int 0])), (pg, .inr (2, [.ref cd, .int 0])), (cd, .inl (cI, 90, .inl (fun _ => 0))), (rd, .inr (7, [.ref rw, .ref rc, .int 0, .int 0, .int 0, .int 0, .int 0])), (aq, .inr (5, [.ref a1, .ref a2, .ref a3, .ref a4, .int 0, .int 0, .long 0])), (py, .inl (cP, 8, .inr (.inr (.inr (.inr (fun _ => none)))))), (ro, .inr (8, [.ref r1, .ref r2, .int 0])), (m0, .inr (12, [.ref mp, .int 0, .int 0, .int 0, .ref mw, .ref mh, .ref mo, .int 0, .int 0, .int 0, .int 0, .int 0, .int 0, .ref m5, .ref m6, .ref m7, .long 0, .int 0, .ref mk, .ref mn, .int 0, .ref mq, .ref m8, .ref m9, .int 0, .int 0, .int 0, .int 0, .ref ma, .int 0, .ref mb, .ref md, .long 0])), (mp, .inl (cM, 90, .inl (fun _ => 0))), (mk, .inl (cK, 8, .inl (fun _ => 0))), (mn, .inl (cN, 32, .inl (fun _ => 0)))]) (hS : va_S (AA s) s.heap H locs) {ls : Array Slot} (hl : lv_has ls 4 [(3, .int 0), (2, .ref m0), (1, .ref x0), (0, .ref b)]) : W p l e room_1 s m #[Value.ref b] below meth c H locs 62 2530 (lw_Z below #[Value.ref b] s) (F0 m 767 ls []) := by
  obtain ⟨hx, hb, hr, hml, hown, hts, hX, hbl, hlocks, hgv⟩ := id C0
  have hg := fun (w : Cond) (h : w ∈ gw_tbl) => hts w (gw_lw h)
  have hown : s.vm.findClass RL = some m.cls := hown
  have hbA : ¬ AA s b := Nat.not_le.mpr hbl
  have hA : ∀ q : Nat, s.heap.size ≤ q → AA s q := fun _ h => h
  refine lv_aload_n hx hb dL_law_767 rfl (lv_at hl 2 rfl) ?_
  refine lv_aload_n hx hb dL_law_768 rfl (lv_at hl 3 rfl) ?_
  refine lv_iload_n hx hb dL_law_769 rfl (lv_at hl 0 rfl) ?_
  refine lv_iconst (v := 1) hx hb dL_law_770 (by decide) ?_
  refine lv_iadd hx hb dL_law_771 ?_
  refine lv_topi (fun z_771 e_771 => ?_)
  obtain rfl : z_771 = (1 : Int32) := e_771.trans (by decide)
  refine va_sld hx hb hX hbl hbA hS (show ¬ ((1 : Int32) < 0 ∨ 6 ≤ (1 : Int32).toNatClampNeg) by decide) dL_law_772 ?_
  refine W.eq (g2 := F0 m 773 ls (.int (xs 1) :: .ref x0 :: [])) rfl ?_
  refine lv_aload_n hx hb dL_law_773 rfl (lv_at hl 3 rfl) ?_
  refine lv_iload_n hx hb dL_law_774 rfl (lv_at hl 0 rfl) ?_
  refine lv_iconst (v := 2) hx hb dL_law_775 (by decide) ?_
  refine lv_iadd hx hb dL_law_776 ?_
  refine lv_topi (fun z_776 e_776 => ?_)
  obtain rfl : z_776 = (2 : Int32) := e_776.trans (by decide)
  refine va_sld hx hb hX hbl hbA hS (show ¬ ((2 : Int32) < 0 ∨ 6 ≤ (2 : Int32).toNatClampNeg) by decide) dL_law_777 ?_
  refine W.eq (g2 := F0 m 778 ls (.int (xs 2) :: .int (xs 1) :: .ref x0 :: [])) rfl ?_
  refine lv_aload_n hx hb dL_law_778 rfl (lv_at hl 3 rfl) ?_
  refine lv_iload_n hx hb dL_law_779 rfl (lv_at hl 0 rfl) ?_
  refine lv_iconst (v := 3) hx hb dL_law_780 (by decide) ?_
  refine lv_iadd hx hb dL_law_781 ?_
  refine lv_topi (fun z_781 e_781 => ?_)
  obtain rfl : z_781 = (3 : Int32) := e_781.trans (by decide)
  refine va_sld hx hb hX hbl hbA hS (show ¬ ((3 : Int32) < 0 ∨ 6 ≤ (3 : Int32).toNatClampNeg) by decide) dL_law_782 ?_
  refine W.eq (g2 := F0 m 783 ls (.int (xs 3) :: .int (xs 2) :: .int (xs 1) :: .ref x0 :: [])) rfl ?_
  have hPc := hP.sub (ws' := [(x0, .inr (11, [.ref pg, .ref rd, .ref aq, .ref py, .ref pl, .ref ch, .ref ro, .int 0, .int 0]))]) [0] rfl
  have hKc := hK.sub (tys' := []) [] rfl
  refine vp_callSi (W.runV (As := [.int (xs 1), .int (xs 2), .int (xs 3)]) (rest := []) ⟨hx, hb, hml, hown, hg⟩ (x_goes l D x0 pg rd aq py pl ch ro (xs 1) (xs 2) (xs 3)) (cwV 3 hg (gw_V kw_402 kw_403 kw_404 kw_6 kw_401) rfl rfl rfl (by decide +kernel) ⟨Nat.le_of_ble_eq_true rfl, Nat.le_of_ble_eq_true rfl⟩) (pr_SV (q := (RX11, TX11, 9)) 11 0 hKc hPc rfl rfl) rfl rfl hl.1 rfl (lv_room (Nat.le_of_ble_eq_true rfl)) dL_law_783 ⟨Nat.le_of_ble_eq_true rfl, Nat.le_of_ble_eq_true rfl⟩) (fun r_783 h_783 => ?_)
  obtain rfl : r_783 = ((-101) : Int32) := h_783
  refine lv_aload_n hx hb dL_law_786 rfl (lv_at hl 1 rfl) ?_
  refine lv_aload_n hx hb dL_law_787 rfl (lv_at hl 3 rfl) ?_
  refine lv_iload_n hx hb dL_law_788 rfl (lv_at hl 0 rfl) ?_
  refine lv_iconst (v := 1) hx hb dL_law_789 (by decide) ?_
  refine lv_iadd hx hb dL_law_790 ?_
  refine lv_topi (fun z_790 e_790 => ?_)
  obtain rfl : z_790 = (1 : Int32) := e_790.trans (by decide)
  refine va_sld hx hb hX hbl hbA hS (show ¬ ((1 : Int32) < 0 ∨ 6 ≤ (1 : Int32).toNatClampNeg) by decide) dL_law_791 ?_
  refine W.eq (g2 := F0 m 792 ls (.int (xs 1) :: .ref m0 :: .int (-101) :: [])) rfl ?_
  refine lv_aload_n hx hb dL_law_792 rfl (lv_at hl 3 rfl) ?_
  refine lv_iload_n hx hb dL_law_793 rfl (lv_at hl 0 rfl) ?_
  refine lv_iconst (v := 2) hx hb dL_law_794 (by decide) ?_
  refine lv_iadd hx hb dL_law_795 ?_
  refine lv_topi (fun z_795 e_795 => ?_)
  obtain rfl : z_795 = (2 : Int32) := e_795.trans (by decide)
  refine va_sld hx hb hX hbl hbA hS (show ¬ ((2 : Int32) < 0 ∨ 6 ≤ (2 : Int32).toNatClampNeg) by decide) dL_law_796 ?_
  refine W.eq (g2 := F0 m 797 ls (.int (xs 2) :: .int (xs 1) :: .ref m0 :: .int (-101) :: [])) rfl ?_
  refine lv_aload_n hx hb dL_law_797 rfl (lv_at hl 3 rfl) ?_
  refine lv_iload_n hx hb dL_law_798 rfl (lv_at hl 0 rfl) ?_
  refine lv_iconst (v := 3) hx hb dL_law_799 (by decide) ?_
  refine lv_iadd hx hb dL_law_800 ?_
  refine lv_topi (fun z_800 e_800 => ?_)
  obtain rfl : z_800 = (3 : Int32) := e_800.trans (by decide)
  refine va_sld hx hb hX hbl hbA hS (show ¬ ((3 : Int32) < 0 ∨ 6 ≤ (3 : Int32).toNatClampNeg) by decide) dL_law_801 ?_
  refine W.eq (g2 := F0 m 802 ls (.int (xs 3) :: .int (xs 2) :: .int (xs 1) :: .ref m0 :: .int (-101) :: [])) rfl ?_
  have hPc := hP.sub (ws' := [(m0, .inr (12, [.ref mp, .int 0, .int 0, .int 0, .ref mw, .ref mh, .ref mo, .int 0, .int 0, .int 0, .int 0, .int 0, .int 0, .ref m5, .ref m6, .ref m7, .long 0, .int 0, .ref mk, .ref mn, .int 0, .ref mq, .ref m8, .ref m9, .int 0, .int 0, .int 0, .int 0, .ref ma, .int 0, .ref mb, .ref md, .long 0]))]) [7] rfl
  have hKc := hK.sub (tys' := []) [] rfl
  refine vp_callSi (W.runV (As := [.int (xs 1), .int (xs 2), .int (xs 3)]) (rest := [.int (-101)]) ⟨hx, hb, hml, hown, hg⟩ (m_goes l D m0 mp mw mh mo m5 m6 m7 mk mn mq m8 m9 ma mb md (xs 1) (xs 2) (xs 3)) (cwV 3 hg (gw_V kw_406 kw_407 kw_408 kw_210 kw_405) rfl rfl rfl (by decide +kernel) ⟨Nat.le_of_ble_eq_true rfl, Nat.le_of_ble_eq_true rfl⟩) (pr_SV (q := (RX12, TX12, 33)) 12 0 hKc hPc rfl rfl) rfl rfl hl.1 rfl (lv_room (Nat.le_of_ble_eq_true rfl)) dL_law_802 ⟨Nat.le_of_ble_eq_true rfl, Nat.le_of_ble_eq_true rfl⟩) (fun r_802 h_802 => ?_)
  obtain rfl : r_802 = ((-101) : Int32) := h_802
  refine lv_icmp_eq (tgt := 1101) hx hb dL_law_805 (by decide) (fun c_805 => ?_) (fun c_805 => absurd c_805 (by decide))
  exact law_end l C0 hS (lv_sub hl [0, 1, 2, 3] rfl) (Nat.le_of_ble_eq_true rfl) (Nat.le_of_ble_eq_true rfl)

theorem kw_409 : (.code yX11_drawn cX11_drawn 3 (some .int) : Cond) ∈ gw_tbl := gw_in (by decide +kernel) (by decide +kernel)
theorem kw_410 : (.methodLink RL 89 yX11_drawn : Cond) ∈ gw_tbl := gw_in (by decide +kernel) (by decide +kernel)
theorem kw_411 : (.instanceMethod yX11_drawn : Cond) ∈ gw_tbl := gw_in (by decide +kernel) (by decide +kernel)
theorem kw_412 : (.selects RX11 yX11_drawn yX11_drawn : Cond) ∈ gw_tbl := gw_in (by decide +kernel) (by decide +kernel)
theorem kw_413 : (.code yX12_drawn cX12_drawn 5 (some .int) : Cond) ∈ gw_tbl := gw_in (by decide +kernel) (by decide +kernel)
theorem kw_414 : (.methodLink RL 93 yX12_drawn : Cond) ∈ gw_tbl := gw_in (by decide +kernel) (by decide +kernel)
theorem kw_415 : (.instanceMethod yX12_drawn : Cond) ∈ gw_tbl := gw_in (by decide +kernel) (by decide +kernel)
theorem kw_416 : (.selects RX12 yX12_drawn yX12_drawn : Cond) ∈ gw_tbl := gw_in (by decide +kernel) (by decide +kernel)

set_option maxHeartbeats 4000000 in
set_option maxRecDepth 100000 in
theorem law_case_17 {p : Program} {e : Env} {s : State} {m : MethodId} {below : List Frame} {meth : Method} {c : Code} (l : Launch) {b : Nat} {xs : Nat → Int32} (C0 : lw_At p s m meth c b 6 xs) (hN : nw_C s) {D : va_G} (x0 : Nat) (pg : Nat) (rd : Nat) (aq : Nat) (py : Nat) (pl : Nat) (ch : Nat) (ro : Nat) (cd : Nat) (rw : Nat) (rc : Nat) (a1 : Nat) (a2 : Nat) (a3 : Nat) (a4 : Nat) (r1 : Nat) (r2 : Nat) (cI : ClassId) (cP : ClassId) (m0 : Nat) (mp : Nat) (mw : Nat) (mh : Nat) (mo : Nat) (m5 : Nat) (m6 : Nat) (m7 : Nat) (mk : Nat) (mn : Nat) (mq : Nat) (m8 : Nat) (m9 : Nat) (ma : Nat) (mb : Nat) (md : Nat) (cM : ClassId) (cK : ClassId) (cN : ClassId) {H : Heap} {locs : List Loc} (hK : va_K D vwCl [(cI, .int), (cP, .object RX3), (cM, .int), (cK, .int), (cN, .int)] s) (hP : va_P D vwCl [(x0, .inr (11, [.ref pg, .ref rd, .ref aq, .ref py, .ref pl, .ref ch, .ref ro, .int 0, .int 0])), (pg, .inr (2, [.ref cd, .int 0])), (cd, .inl (cI, 90, .inl (fun _ => 0))), (rd, .inr (7, [.ref rw, .ref rc, .int 0, .int 0, .int 0, .int 0, .int 0])), (aq, .inr (5, [.ref a1, .ref a2, .ref a3, .ref a4, .int 0, .int 0, .long 0])), (py, .inl (cP, 8, .inr (.inr (.inr (.inr (fun _ => none)))))), (ro, .inr (8, [.ref r1, .ref r2, .int 0])), (m0, .inr (12, [.ref mp, .int 0, .int 0, .int 0, .ref mw, .ref mh, .ref mo, .int 0, .int 0, .int 0, .int 0, .int 0, .int 0, .ref m5, .ref m6, .ref m7, .long 0, .int 0, .ref mk, .ref mn, .int 0, .ref mq, .ref m8, .ref m9, .int 0, .int 0, .int 0, .int 0, .ref ma, .int 0, .ref mb, .ref md, .long 0])), (mp, .inl (cM, 90, .inl (fun _ => 0))), (mk, .inl (cK, 8, .inl (fun _ => 0))), (mn, .inl (cN, 32, .inl (fun _ => 0)))] H) (hD : va_D (AA s) [(x0, .inr (11, [.ref pg, .ref rd, .ref aq, .ref py, .ref pl, .ref ch, .ref ro, .int 0, .int 0])), (pg, .inr (2, [.ref cd, .int 0])), (cd, .inl (cI, 90, .inl (fun _ => 0))), (rd, .inr (7, [.ref rw, .ref rc, .int 0, .int 0, .int 0, .int 0, .int 0])), (aq, .inr (5, [.ref a1, .ref a2, .ref a3, .ref a4, .int 0, .int 0, .long 0])), (py, .inl (cP, 8, .inr (.inr (.inr (.inr (fun _ => none)))))), (ro, .inr (8, [.ref r1, .ref r2, .int 0])), (m0, .inr (12, [.ref mp, .int 0, .int 0, .int 0, .ref mw, .ref mh, .ref mo, .int 0, .int 0, .int 0, .int 0, .int 0, .int 0, .ref m5, .ref m6, .ref m7, .long 0, .int 0, .ref mk, .ref mn, .int 0, .ref mq, .ref m8, .ref m9, .int 0, .int 0, .int 0, .int 0, .ref ma, .int 0, .ref mb, .ref md, .long 0])), (mp, .inl (cM, 90, .inl (fun _ => 0))), (mk, .inl (cK, 8, .inl (fun _ => 0))), (mn, .inl (cN, 32, .inl (fun _ => 0)))]) (hS : va_S (AA s) s.heap H locs) {ls : Array Slot} (hl : lv_has ls 4 [(3, .int 0), (2, .ref m0), (1, .ref x0), (0, .ref b)]) : W p l e room_1 s m #[Value.ref b] below meth c H locs 62 2530 (lw_Z below #[Value.ref b] s) (F0 m 810 ls []) := by
  obtain ⟨hx, hb, hr, hml, hown, hts, hX, hbl, hlocks, hgv⟩ := id C0
  have hg := fun (w : Cond) (h : w ∈ gw_tbl) => hts w (gw_lw h)
  have hown : s.vm.findClass RL = some m.cls := hown
  have hbA : ¬ AA s b := Nat.not_le.mpr hbl
  have hA : ∀ q : Nat, s.heap.size ≤ q → AA s q := fun _ h => h
  refine lv_aload_n hx hb dL_law_810 rfl (lv_at hl 2 rfl) ?_
  refine lv_aload_n hx hb dL_law_811 rfl (lv_at hl 3 rfl) ?_
  refine lv_iload_n hx hb dL_law_812 rfl (lv_at hl 0 rfl) ?_
  refine lv_iconst (v := 1) hx hb dL_law_813 (by decide) ?_
  refine lv_iadd hx hb dL_law_814 ?_
  refine lv_topi (fun z_814 e_814 => ?_)
  obtain rfl : z_814 = (1 : Int32) := e_814.trans (by decide)
  refine va_sld hx hb hX hbl hbA hS (show ¬ ((1 : Int32) < 0 ∨ 6 ≤ (1 : Int32).toNatClampNeg) by decide) dL_law_815 ?_
  refine W.eq (g2 := F0 m 816 ls (.int (xs 1) :: .ref x0 :: [])) rfl ?_
  have hPc := hP.sub (ws' := [(x0, .inr (11, [.ref pg, .ref rd, .ref aq, .ref py, .ref pl, .ref ch, .ref ro, .int 0, .int 0]))]) [0] rfl
  have hKc := hK.sub (tys' := []) [] rfl
  refine vp_callSi (W.runV (As := [.int (xs 1)]) (rest := []) ⟨hx, hb, hml, hown, hg⟩ (x_drawn l D x0 pg rd aq py pl ch ro (xs 1)) (cwV 1 hg (gw_V kw_410 kw_411 kw_412 kw_6 kw_409) rfl rfl rfl (by decide +kernel) ⟨Nat.le_of_ble_eq_true rfl, Nat.le_of_ble_eq_true rfl⟩) (pr_SV (q := (RX11, TX11, 9)) 11 0 hKc hPc rfl rfl) rfl rfl hl.1 rfl (lv_room (Nat.le_of_ble_eq_true rfl)) dL_law_816 ⟨Nat.le_of_ble_eq_true rfl, Nat.le_of_ble_eq_true rfl⟩) (fun r_816 h_816 => ?_)
  obtain rfl : r_816 = ((-101) : Int32) := h_816
  refine lv_aload_n hx hb dL_law_819 rfl (lv_at hl 1 rfl) ?_
  refine lv_aload_n hx hb dL_law_820 rfl (lv_at hl 3 rfl) ?_
  refine lv_iload_n hx hb dL_law_821 rfl (lv_at hl 0 rfl) ?_
  refine lv_iconst (v := 1) hx hb dL_law_822 (by decide) ?_
  refine lv_iadd hx hb dL_law_823 ?_
  refine lv_topi (fun z_823 e_823 => ?_)
  obtain rfl : z_823 = (1 : Int32) := e_823.trans (by decide)
  refine va_sld hx hb hX hbl hbA hS (show ¬ ((1 : Int32) < 0 ∨ 6 ≤ (1 : Int32).toNatClampNeg) by decide) dL_law_824 ?_
  refine W.eq (g2 := F0 m 825 ls (.int (xs 1) :: .ref m0 :: .int (-101) :: [])) rfl ?_
  have hPc := hP.sub (ws' := [(m0, .inr (12, [.ref mp, .int 0, .int 0, .int 0, .ref mw, .ref mh, .ref mo, .int 0, .int 0, .int 0, .int 0, .int 0, .int 0, .ref m5, .ref m6, .ref m7, .long 0, .int 0, .ref mk, .ref mn, .int 0, .ref mq, .ref m8, .ref m9, .int 0, .int 0, .int 0, .int 0, .ref ma, .int 0, .ref mb, .ref md, .long 0]))]) [7] rfl
  have hKc := hK.sub (tys' := []) [] rfl
  refine vp_callSi (W.runV (As := [.int (xs 1)]) (rest := [.int (-101)]) ⟨hx, hb, hml, hown, hg⟩ (m_drawn l D m0 mp mw mh mo m5 m6 m7 mk mn mq m8 m9 ma mb md (xs 1)) (cwV 1 hg (gw_V kw_414 kw_415 kw_416 kw_210 kw_413) rfl rfl rfl (by decide +kernel) ⟨Nat.le_of_ble_eq_true rfl, Nat.le_of_ble_eq_true rfl⟩) (pr_SV (q := (RX12, TX12, 33)) 12 0 hKc hPc rfl rfl) rfl rfl hl.1 rfl (lv_room (Nat.le_of_ble_eq_true rfl)) dL_law_825 ⟨Nat.le_of_ble_eq_true rfl, Nat.le_of_ble_eq_true rfl⟩) (fun r_825 h_825 => ?_)
  obtain rfl : r_825 = ((-101) : Int32) := h_825
  refine lv_icmp_eq (tgt := 1101) hx hb dL_law_828 (by decide) (fun c_828 => ?_) (fun c_828 => absurd c_828 (by decide))
  exact law_end l C0 hS (lv_sub hl [0, 1, 2, 3] rfl) (Nat.le_of_ble_eq_true rfl) (Nat.le_of_ble_eq_true rfl)
