theorem kw_417 : (.code yX11_leastSame cX11_leastSame 1 (some .int) : Cond) ∈ gw_tbl := gw_in (by decide +kernel) (by decide +kernel)
theorem kw_418 : (.methodLink RL 94 yX11_leastSame : Cond) ∈ gw_tbl := gw_in (by decide +kernel) (by decide +kernel)
theorem kw_419 : (.instanceMethod yX11_leastSame : Cond) ∈ gw_tbl := gw_in (by decide +kernel) (by decide +kernel)
theorem kw_420 : (.selects RX11 yX11_leastSame yX11_leastSame : Cond) ∈ gw_tbl := gw_in (by decide +kernel) (by decide +kernel)
theorem kw_421 : (.code yX12_leastSame cX12_leastSame 2 (some .int) : Cond) ∈ gw_tbl := gw_in (by decide +kernel) (by decide +kernel)
theorem kw_422 : (.methodLink RL 97 yX12_leastSame : Cond) ∈ gw_tbl := gw_in (by decide +kernel) (by decide +kernel)
theorem kw_423 : (.instanceMethod yX12_leastSame : Cond) ∈ gw_tbl := gw_in (by decide +kernel) (by decide +kernel)
theorem kw_424 : (.selects RX12 yX12_leastSame yX12_leastSame : Cond) ∈ gw_tbl := gw_in (by decide +kernel) (by decide +kernel)

set_option maxHeartbeats 4000000 in
set_option maxRecDepth 100000 in
theorem law_case_18 {p : Program} {e : Env} {s : State} {m : MethodId} {below : List Frame} {meth : Method} {c : Code} (l : Launch) {b : Nat} {xs : Nat → Int32} (C0 : lw_At p s m meth c b 6 xs) (hN : nw_C s) {D : va_G} (x0 : Nat) (pg : Nat) (rd : Nat) (aq : Nat) (py : Nat) (pl : Nat) (ch : Nat) (ro : Nat) (cd : Nat) (rw : Nat) (rc : Nat) (a1 : Nat) (a2 : Nat) (a3 : Nat) (a4 : Nat) (r1 : Nat) (r2 : Nat) (cI : ClassId) (cP : ClassId) (m0 : Nat) (mp : Nat) (mw : Nat) (mh : Nat) (mo : Nat) (m5 : Nat) (m6 : Nat) (m7 : Nat) (mk : Nat) (mn : Nat) (mq : Nat) (m8 : Nat) (m9 : Nat) (ma : Nat) (mb : Nat) (md : Nat) (cM : ClassId) (cK : ClassId) (cN : ClassId) {H : Heap} {locs : List Loc} (hK : va_K D vwCl [(cI, .int), (cP, .object RX3), (cM, .int), (cK, .int), (cN, .int)] s) (hP : va_P D vwCl [(x0, .inr (11, [.ref pg, .ref rd, .ref aq, .ref py, .ref pl, .ref ch, .ref ro, .int 0, .int 0])), (pg, .inr (2, [.ref cd, .int 0])), (cd, .inl (cI, 90, .inl (fun _ => 0))), (rd, .inr (7, [.ref rw, .ref rc, .int 0, .int 0, .int 0, .int 0, .int 0])), (aq, .inr (5, [.ref a1, .ref a2, .ref a3, .ref a4, .int 0, .int 0, .long 0])), (py, .inl (cP, 8, .inr (.inr (.inr (.inr (fun _ => none)))))), (ro, .inr (8, [.ref r1, .ref r2, .int 0])), (m0, .inr (12, [.ref mp, .int 0, .int 0, .int 0, .ref mw, .ref mh, .ref mo, .int 0, .int 0, .int 0, .int 0, .int 0, .int 0, .ref m5, .ref m6, .ref m7, .long 0, .int 0, .ref mk, .ref mn, .int 0, .ref mq, .ref m8, .ref m9, .int 0, .int 0, .int 0, .int 0, .ref ma, .int 0, .ref mb, .ref md, .long 0])), (mp, .inl (cM, 90, .inl (fun _ => 0))), (mk, .inl (cK, 8, .inl (fun _ => 0))), (mn, .inl (cN, 32, .inl (fun _ => 0)))] H) (hD : va_D (AA s) [(x0, .inr (11, [.ref pg, .ref rd, .ref aq, .ref py, .ref pl, .ref ch, .ref ro, .int 0, .int 0])), (pg, .inr (2, [.ref cd, .int 0])), (cd, .inl (cI, 90, .inl (fun _ => 0))), (rd, .inr (7, [.ref rw, .ref rc, .int 0, .int 0, .int 0, .int 0, .int 0])), (aq, .inr (5, [.ref a1, .ref a2, .ref a3, .ref a4, .int 0, .int 0, .long 0])), (py, .inl (cP, 8, .inr (.inr (.inr (.inr (fun _ => none)))))), (ro, .inr (8, [.ref r1, .ref r2, .int 0])), (m0, .inr (12, [.ref mp, .int 0, .int 0, .int 0, .ref mw, .ref mh, .ref mo, .int 0, .int 0, .int 0, .int 0, .int 0, .int 0, .ref m5, .ref m6, .ref m7, .long 0, .int 0, .ref mk, .ref mn, .int 0, .ref mq, .ref m8, .ref m9, .int 0, .int 0, .int 0, .int 0, .ref ma, .int 0, .ref mb, .ref md, .long 0])), (mp, .inl (cM, 90, .inl (fun _ => 0))), (mk, .inl (cK, 8, .inl (fun _ => 0))), (mn, .inl (cN, 32, .inl (fun _ => 0)))]) (hS : va_S (AA s) s.heap H locs) {ls : Array Slot} (hl : lv_has ls 4 [(3, .int 0), (2, .ref m0), (1, .ref x0), (0, .ref b)]) : W p l e room_1 s m #[Value.ref b] below meth c H locs 62 2530 (lw_Z below #[Value.ref b] s) (F0 m 833 ls []) := by
  obtain ⟨hx, hb, hr, hml, hown, hts, hX, hbl, hlocks, hgv⟩ := id C0
  have hg := fun (w : Cond) (h : w ∈ gw_tbl) => hts w (gw_lw h)
  have hown : s.vm.findClass RL = some m.cls := hown
  have hbA : ¬ AA s b := Nat.not_le.mpr hbl
  have hA : ∀ q : Nat, s.heap.size ≤ q → AA s q := fun _ h => h
  refine lv_aload_n hx hb dL_law_833 rfl (lv_at hl 2 rfl) ?_
  have hPc := hP.sub (ws' := [(x0, .inr (11, [.ref pg, .ref rd, .ref aq, .ref py, .ref pl, .ref ch, .ref ro, .int 0, .int 0])), (aq, .inr (5, [.ref a1, .ref a2, .ref a3, .ref a4, .int 0, .int 0, .long 0]))]) [0, 4] rfl
  have hKc := hK.sub (tys' := []) [] rfl
  refine vp_callSi (W.runV (As := []) (rest := []) ⟨hx, hb, hml, hown, hg⟩ (x_leastSame l D x0 pg rd aq py pl ch ro a1 a2 a3 a4) (cwV 0 hg (gw_V kw_418 kw_419 kw_420 kw_6 kw_417) rfl rfl rfl (by decide +kernel) ⟨Nat.le_of_ble_eq_true rfl, Nat.le_of_ble_eq_true rfl⟩) (pr_SV (q := (RX11, TX11, 9)) 11 0 hKc hPc rfl rfl) rfl rfl hl.1 rfl (lv_room (Nat.le_of_ble_eq_true rfl)) dL_law_834 ⟨Nat.le_of_ble_eq_true rfl, Nat.le_of_ble_eq_true rfl⟩) (fun r_834 h_834 => ?_)
  obtain rfl : r_834 = ((-103) : Int32) := h_834
  refine lv_aload_n hx hb dL_law_837 rfl (lv_at hl 1 rfl) ?_
  have hPc := hP.sub (ws' := [(m0, .inr (12, [.ref mp, .int 0, .int 0, .int 0, .ref mw, .ref mh, .ref mo, .int 0, .int 0, .int 0, .int 0, .int 0, .int 0, .ref m5, .ref m6, .ref m7, .long 0, .int 0, .ref mk, .ref mn, .int 0, .ref mq, .ref m8, .ref m9, .int 0, .int 0, .int 0, .int 0, .ref ma, .int 0, .ref mb, .ref md, .long 0]))]) [7] rfl
  have hKc := hK.sub (tys' := []) [] rfl
  refine vp_callSi (W.runV (As := []) (rest := [.int (-103)]) ⟨hx, hb, hml, hown, hg⟩ (m_leastSame l D m0 mp mw mh mo m5 m6 m7 mk mn mq m8 m9 ma mb md) (cwV 0 hg (gw_V kw_422 kw_423 kw_424 kw_210 kw_421) rfl rfl rfl (by decide +kernel) ⟨Nat.le_of_ble_eq_true rfl, Nat.le_of_ble_eq_true rfl⟩) (pr_SV (q := (RX12, TX12, 33)) 12 0 hKc hPc rfl rfl) rfl rfl hl.1 rfl (lv_room (Nat.le_of_ble_eq_true rfl)) dL_law_838 ⟨Nat.le_of_ble_eq_true rfl, Nat.le_of_ble_eq_true rfl⟩) (fun r_838 h_838 => ?_)
  obtain rfl : r_838 = ((-103) : Int32) := h_838
  refine lv_icmp_eq (tgt := 1101) hx hb dL_law_841 (by decide) (fun c_841 => ?_) (fun c_841 => absurd c_841 (by decide))
  exact law_end l C0 hS (lv_sub hl [0, 1, 2, 3] rfl) (Nat.le_of_ble_eq_true rfl) (Nat.le_of_ble_eq_true rfl)

theorem kw_425 : (.code yX11_leastTable cX11_leastTable 2 (some .int) : Cond) ∈ gw_tbl := gw_in (by decide +kernel) (by decide +kernel)
theorem kw_426 : (.methodLink RL 98 yX11_leastTable : Cond) ∈ gw_tbl := gw_in (by decide +kernel) (by decide +kernel)
theorem kw_427 : (.instanceMethod yX11_leastTable : Cond) ∈ gw_tbl := gw_in (by decide +kernel) (by decide +kernel)
theorem kw_428 : (.selects RX11 yX11_leastTable yX11_leastTable : Cond) ∈ gw_tbl := gw_in (by decide +kernel) (by decide +kernel)
theorem kw_429 : (.code yX12_leastTable cX12_leastTable 10 (some .int) : Cond) ∈ gw_tbl := gw_in (by decide +kernel) (by decide +kernel)
theorem kw_430 : (.methodLink RL 101 yX12_leastTable : Cond) ∈ gw_tbl := gw_in (by decide +kernel) (by decide +kernel)
theorem kw_431 : (.instanceMethod yX12_leastTable : Cond) ∈ gw_tbl := gw_in (by decide +kernel) (by decide +kernel)
theorem kw_432 : (.selects RX12 yX12_leastTable yX12_leastTable : Cond) ∈ gw_tbl := gw_in (by decide +kernel) (by decide +kernel)

set_option maxHeartbeats 4000000 in
set_option maxRecDepth 100000 in
theorem law_case_19 {p : Program} {e : Env} {s : State} {m : MethodId} {below : List Frame} {meth : Method} {c : Code} (l : Launch) {b : Nat} {xs : Nat → Int32} (C0 : lw_At p s m meth c b 6 xs) (hN : nw_C s) {D : va_G} (x0 : Nat) (pg : Nat) (rd : Nat) (aq : Nat) (py : Nat) (pl : Nat) (ch : Nat) (ro : Nat) (cd : Nat) (rw : Nat) (rc : Nat) (a1 : Nat) (a2 : Nat) (a3 : Nat) (a4 : Nat) (r1 : Nat) (r2 : Nat) (cI : ClassId) (cP : ClassId) (m0 : Nat) (mp : Nat) (mw : Nat) (mh : Nat) (mo : Nat) (m5 : Nat) (m6 : Nat) (m7 : Nat) (mk : Nat) (mn : Nat) (mq : Nat) (m8 : Nat) (m9 : Nat) (ma : Nat) (mb : Nat) (md : Nat) (cM : ClassId) (cK : ClassId) (cN : ClassId) {H : Heap} {locs : List Loc} (hK : va_K D vwCl [(cI, .int), (cP, .object RX3), (cM, .int), (cK, .int), (cN, .int)] s) (hP : va_P D vwCl [(x0, .inr (11, [.ref pg, .ref rd, .ref aq, .ref py, .ref pl, .ref ch, .ref ro, .int 0, .int 0])), (pg, .inr (2, [.ref cd, .int 0])), (cd, .inl (cI, 90, .inl (fun _ => 0))), (rd, .inr (7, [.ref rw, .ref rc, .int 0, .int 0, .int 0, .int 0, .int 0])), (aq, .inr (5, [.ref a1, .ref a2, .ref a3, .ref a4, .int 0, .int 0, .long 0])), (py, .inl (cP, 8, .inr (.inr (.inr (.inr (fun _ => none)))))), (ro, .inr (8, [.ref r1, .ref r2, .int 0])), (m0, .inr (12, [.ref mp, .int 0, .int 0, .int 0, .ref mw, .ref mh, .ref mo, .int 0, .int 0, .int 0, .int 0, .int 0, .int 0, .ref m5, .ref m6, .ref m7, .long 0, .int 0, .ref mk, .ref mn, .int 0, .ref mq, .ref m8, .ref m9, .int 0, .int 0, .int 0, .int 0, .ref ma, .int 0, .ref mb, .ref md, .long 0])), (mp, .inl (cM, 90, .inl (fun _ => 0))), (mk, .inl (cK, 8, .inl (fun _ => 0))), (mn, .inl (cN, 32, .inl (fun _ => 0)))] H) (hD : va_D (AA s) [(x0, .inr (11, [.ref pg, .ref rd, .ref aq, .ref py, .ref pl, .ref ch, .ref ro, .int 0, .int 0])), (pg, .inr (2, [.ref cd, .int 0])), (cd, .inl (cI, 90, .inl (fun _ => 0))), (rd, .inr (7, [.ref rw, .ref rc, .int 0, .int 0, .int 0, .int 0, .int 0])), (aq, .inr (5, [.ref a1, .ref a2, .ref a3, .ref a4, .int 0, .int 0, .long 0])), (py, .inl (cP, 8, .inr (.inr (.inr (.inr (fun _ => none)))))), (ro, .inr (8, [.ref r1, .ref r2, .int 0])), (m0, .inr (12, [.ref mp, .int 0, .int 0, .int 0, .ref mw, .ref mh, .ref mo, .int 0, .int 0, .int 0, .int 0, .int 0, .int 0, .ref m5, .ref m6, .ref m7, .long 0, .int 0, .ref mk, .ref mn, .int 0, .ref mq, .ref m8, .ref m9, .int 0, .int 0, .int 0, .int 0, .ref ma, .int 0, .ref mb, .ref md, .long 0])), (mp, .inl (cM, 90, .inl (fun _ => 0))), (mk, .inl (cK, 8, .inl (fun _ => 0))), (mn, .inl (cN, 32, .inl (fun _ => 0)))]) (hS : va_S (AA s) s.heap H locs) {ls : Array Slot} (hl : lv_has ls 4 [(3, .int 0), (2, .ref m0), (1, .ref x0), (0, .ref b)]) : W p l e room_1 s m #[Value.ref b] below meth c H locs 62 2530 (lw_Z below #[Value.ref b] s) (F0 m 846 ls []) := by
  obtain ⟨hx, hb, hr, hml, hown, hts, hX, hbl, hlocks, hgv⟩ := id C0
  have hg := fun (w : Cond) (h : w ∈ gw_tbl) => hts w (gw_lw h)
  have hown : s.vm.findClass RL = some m.cls := hown
  have hbA : ¬ AA s b := Nat.not_le.mpr hbl
  have hA : ∀ q : Nat, s.heap.size ≤ q → AA s q := fun _ h => h
  refine lv_aload_n hx hb dL_law_846 rfl (lv_at hl 2 rfl) ?_
  refine lv_aload_n hx hb dL_law_847 rfl (lv_at hl 3 rfl) ?_
  refine lv_iload_n hx hb dL_law_848 rfl (lv_at hl 0 rfl) ?_
  refine lv_iconst (v := 1) hx hb dL_law_849 (by decide) ?_
  refine lv_iadd hx hb dL_law_850 ?_
  refine lv_topi (fun z_850 e_850 => ?_)
  obtain rfl : z_850 = (1 : Int32) := e_850.trans (by decide)
  refine va_sld hx hb hX hbl hbA hS (show ¬ ((1 : Int32) < 0 ∨ 6 ≤ (1 : Int32).toNatClampNeg) by decide) dL_law_851 ?_
  refine W.eq (g2 := F0 m 852 ls (.int (xs 1) :: .ref x0 :: [])) rfl ?_
  have hPc := hP.sub (ws' := [(x0, .inr (11, [.ref pg, .ref rd, .ref aq, .ref py, .ref pl, .ref ch, .ref ro, .int 0, .int 0])), (aq, .inr (5, [.ref a1, .ref a2, .ref a3, .ref a4, .int 0, .int 0, .long 0]))]) [0, 4] rfl
  have hKc := hK.sub (tys' := []) [] rfl
  refine vp_callSi (W.runV (As := [.int (xs 1)]) (rest := []) ⟨hx, hb, hml, hown, hg⟩ (x_leastTable l D x0 pg rd aq py pl ch ro a1 a2 a3 a4 (xs 1)) (cwV 1 hg (gw_V kw_426 kw_427 kw_428 kw_6 kw_425) rfl rfl rfl (by decide +kernel) ⟨Nat.le_of_ble_eq_true rfl, Nat.le_of_ble_eq_true rfl⟩) (pr_SV (q := (RX11, TX11, 9)) 11 0 hKc hPc rfl rfl) rfl rfl hl.1 rfl (lv_room (Nat.le_of_ble_eq_true rfl)) dL_law_852 ⟨Nat.le_of_ble_eq_true rfl, Nat.le_of_ble_eq_true rfl⟩) (fun r_852 h_852 => ?_)
  obtain rfl : r_852 = ((-103) : Int32) := h_852
  refine lv_aload_n hx hb dL_law_855 rfl (lv_at hl 1 rfl) ?_
  refine lv_aload_n hx hb dL_law_856 rfl (lv_at hl 3 rfl) ?_
  refine lv_iload_n hx hb dL_law_857 rfl (lv_at hl 0 rfl) ?_
  refine lv_iconst (v := 1) hx hb dL_law_858 (by decide) ?_
  refine lv_iadd hx hb dL_law_859 ?_
  refine lv_topi (fun z_859 e_859 => ?_)
  obtain rfl : z_859 = (1 : Int32) := e_859.trans (by decide)
  refine va_sld hx hb hX hbl hbA hS (show ¬ ((1 : Int32) < 0 ∨ 6 ≤ (1 : Int32).toNatClampNeg) by decide) dL_law_860 ?_
  refine W.eq (g2 := F0 m 861 ls (.int (xs 1) :: .ref m0 :: .int (-103) :: [])) rfl ?_
  have hPc := hP.sub (ws' := [(m0, .inr (12, [.ref mp, .int 0, .int 0, .int 0, .ref mw, .ref mh, .ref mo, .int 0, .int 0, .int 0, .int 0, .int 0, .int 0, .ref m5, .ref m6, .ref m7, .long 0, .int 0, .ref mk, .ref mn, .int 0, .ref mq, .ref m8, .ref m9, .int 0, .int 0, .int 0, .int 0, .ref ma, .int 0, .ref mb, .ref md, .long 0]))]) [7] rfl
  have hKc := hK.sub (tys' := []) [] rfl
  refine vp_callSi (W.runV (As := [.int (xs 1)]) (rest := [.int (-103)]) ⟨hx, hb, hml, hown, hg⟩ (m_leastTable l D m0 mp mw mh mo m5 m6 m7 mk mn mq m8 m9 ma mb md (xs 1)) (cwV 1 hg (gw_V kw_430 kw_431 kw_432 kw_210 kw_429) rfl rfl rfl (by decide +kernel) ⟨Nat.le_of_ble_eq_true rfl, Nat.le_of_ble_eq_true rfl⟩) (pr_SV (q := (RX12, TX12, 33)) 12 0 hKc hPc rfl rfl) rfl rfl hl.1 rfl (lv_room (Nat.le_of_ble_eq_true rfl)) dL_law_861 ⟨Nat.le_of_ble_eq_true rfl, Nat.le_of_ble_eq_true rfl⟩) (fun r_861 h_861 => ?_)
  obtain rfl : r_861 = ((-103) : Int32) := h_861
  refine lv_icmp_eq (tgt := 1101) hx hb dL_law_864 (by decide) (fun c_864 => ?_) (fun c_864 => absurd c_864 (by decide))
  exact law_end l C0 hS (lv_sub hl [0, 1, 2, 3] rfl) (Nat.le_of_ble_eq_true rfl) (Nat.le_of_ble_eq_true rfl)

theorem kw_433 : (.code yX11_leastLook cX11_leastLook 3 (some .int) : Cond) ∈ gw_tbl := gw_in (by decide +kernel) (by decide +kernel)
theorem kw_434 : (.methodLink RL 102 yX11_leastLook : Cond) ∈ gw_tbl := gw_in (by decide +kernel) (by decide +kernel)
theorem kw_435 : (.instanceMethod yX11_leastLook : Cond) ∈ gw_tbl := gw_in (by decide +kernel) (by decide +kernel)
theorem kw_436 : (.selects RX11 yX11_leastLook yX11_leastLook : Cond) ∈ gw_tbl := gw_in (by decide +kernel) (by decide +kernel)
theorem kw_437 : (.code yX12_leastLook cX12_leastLook 3 (some .int) : Cond) ∈ gw_tbl := gw_in (by decide +kernel) (by decide +kernel)
theorem kw_438 : (.methodLink RL 105 yX12_leastLook : Cond) ∈ gw_tbl := gw_in (by decide +kernel) (by decide +kernel)
theorem kw_439 : (.instanceMethod yX12_leastLook : Cond) ∈ gw_tbl := gw_in (by decide +kernel) (by decide +kernel)
theorem kw_440 : (.selects RX12 yX12_leastLook yX12_leastLook : Cond) ∈ gw_tbl := gw_in (by decide +kernel) (by decide +kernel)

set_option maxHeartbeats 4000000 in
set_option maxRecDepth 100000 in
theorem law_case_20 {p : Program} {e : Env} {s : State} {m : MethodId} {below : List Frame} {meth : Method} {c : Code} (l : Launch) {b : Nat} {xs : Nat → Int32} (C0 : lw_At p s m meth c b 6 xs) (hN : nw_C s) {D : va_G} (x0 : Nat) (pg : Nat) (rd : Nat) (aq : Nat) (py : Nat) (pl : Nat) (ch : Nat) (ro : Nat) (cd : Nat) (rw : Nat) (rc : Nat) (a1 : Nat) (a2 : Nat) (a3 : Nat) (a4 : Nat) (r1 : Nat) (r2 : Nat) (cI : ClassId) (cP : ClassId) (m0 : Nat) (mp : Nat) (mw : Nat) (mh : Nat) (mo : Nat) (m5 : Nat) (m6 : Nat) (m7 : Nat) (mk : Nat) (mn : Nat) (mq : Nat) (m8 : Nat) (m9 : Nat) (ma : Nat) (mb : Nat) (md : Nat) (cM : ClassId) (cK : ClassId) (cN : ClassId) {H : Heap} {locs : List Loc} (hK : va_K D vwCl [(cI, .int), (cP, .object RX3), (cM, .int), (cK, .int), (cN, .int)] s) (hP : va_P D vwCl [(x0, .inr (11, [.ref pg, .ref rd, .ref aq, .ref py, .ref pl, .ref ch, .ref ro, .int 0, .int 0])), (pg, .inr (2, [.ref cd, .int 0])), (cd, .inl (cI, 90, .inl (fun _ => 0))), (rd, .inr (7, [.ref rw, .ref rc, .int 0, .int 0, .int 0, .int 0, .int 0])), (aq, .inr (5, [.ref a1, .ref a2, .ref a3, .ref a4, .int 0, .int 0, .long 0])), (py, .inl (cP, 8, .inr (.inr (.inr (.inr (fun _ => none)))))), (ro, .inr (8, [.ref r1, .ref r2, .int 0])), (m0, .inr (12, [.ref mp, .int 0, .int 0, .int 0, .ref mw, .ref mh, .ref mo, .int 0, .int 0, .int 0, .int 0, .int 0, .int 0, .ref m5, .ref m6, .ref m7, .long 0, .int 0, .ref mk, .ref mn, .int 0, .ref mq, .ref m8, .ref m9, .int 0, .int 0, .int 0, .int 0, .ref ma, .int 0, .ref mb, .ref md, .long 0])), (mp, .inl (cM, 90, .inl (fun _ => 0))), (mk, .inl (cK, 8, .inl (fun _ => 0))), (mn, .inl (cN, 32, .inl (fun _ => 0)))] H) (hD : va_D (AA s) [(x0, .inr (11, [.ref pg, .ref rd, .ref aq, .ref py, .ref pl, .ref ch, .ref ro, .int 0, .int 0])), (pg, .inr (2, [.ref cd, .int 0])), (cd, .inl (cI, 90, .inl (fun _ => 0))), (rd, .inr (7, [.ref rw, .ref rc, .int 0, .int 0, .int 0, .int 0, .int 0])), (aq, .inr (5, [.ref a1, .ref a2, .ref a3, .ref a4, .int 0, .int 0, .long 0])), (py, .inl (cP, 8, .inr (.inr (.inr (.inr (fun _ => none)))))), (ro, .inr (8, [.ref r1, .ref r2, .int 0])), (m0, .inr (12, [.ref mp, .int 0, .int 0, .int 0, .ref mw, .ref mh, .ref mo, .int 0, .int 0, .int 0, .int 0, .int 0, .int 0, .ref m5, .ref m6, .ref m7, .long 0, .int 0, .ref mk, .ref mn, .int 0, .ref mq, .ref m8, .ref m9, .int 0, .int 0, .int 0, .int 0, .ref ma, .int 0, .ref mb, .ref md, .long 0])), (mp, .inl (cM, 90, .inl (fun _ => 0))), (mk, .inl (cK, 8, .inl (fun _ => 0))), (mn, .inl (cN, 32, .inl (fun _ => 0)))]) (hS : va_S (AA s) s.heap H locs) {ls : Array Slot} (hl : lv_has ls 4 [(3, .int 0), (2, .ref m0), (1, .ref x0), (0, .ref b)]) : W p l e room_1 s m #[Value.ref b] below meth c H locs 62 2530 (lw_Z below #[Value.ref b] s) (F0 m 869 ls []) := by
  obtain ⟨hx, hb, hr, hml, hown, hts, hX, hbl, hlocks, hgv⟩ := id C0
  have hg := fun (w : Cond) (h : w ∈ gw_tbl) => hts w (gw_lw h)
  have hown : s.vm.findClass RL = some m.cls := hown
  have hbA : ¬ AA s b := Nat.not_le.mpr hbl
  have hA : ∀ q : Nat, s.heap.size ≤ q → AA s q := fun _ h => h
  refine lv_aload_n hx hb dL_law_869 rfl (lv_at hl 2 rfl) ?_
  refine lv_aload_n hx hb dL_law_870 rfl (lv_at hl 3 rfl) ?_
  refine lv_iload_n hx hb dL_law_871 rfl (lv_at hl 0 rfl) ?_
  refine lv_iconst (v := 1) hx hb dL_law_872 (by decide) ?_
  refine lv_iadd hx hb dL_law_873 ?_
  refine lv_topi (fun z_873 e_873 => ?_)
  obtain rfl : z_873 = (1 : Int32) := e_873.trans (by decide)
  refine va_sld hx hb hX hbl hbA hS (show ¬ ((1 : Int32) < 0 ∨ 6 ≤ (1 : Int32).toNatClampNeg) by decide) dL_law_874 ?_
  refine W.eq (g2 := F0 m 875 ls (.int (xs 1) :: .ref x0 :: [])) rfl ?_
  have hPc := hP.sub (ws' := [(x0, .inr (11, [.ref pg, .ref rd, .ref aq, .ref py, .ref pl, .ref ch, .ref ro, .int 0, .int 0]))]) [0] rfl
  have hKc := hK.sub (tys' := []) [] rfl
  refine vp_callSi (W.runV (As := [.int (xs 1)]) (rest := []) ⟨hx, hb, hml, hown, hg⟩ (x_leastLook l D x0 pg rd aq py pl ch ro (xs 1)) (cwV 1 hg (gw_V kw_434 kw_435 kw_436 kw_6 kw_433) rfl rfl rfl (by decide +kernel) ⟨Nat.le_of_ble_eq_true rfl, Nat.le_of_ble_eq_true rfl⟩) (pr_SV (q := (RX11, TX11, 9)) 11 0 hKc hPc rfl rfl) rfl rfl hl.1 rfl (lv_room (Nat.le_of_ble_eq_true rfl)) dL_law_875 ⟨Nat.le_of_ble_eq_true rfl, Nat.le_of_ble_eq_true rfl⟩) (fun r_875 h_875 => ?_)
  obtain rfl : r_875 = ((-101) : Int32) := h_875
  refine lv_aload_n hx hb dL_law_878 rfl (lv_at hl 1 rfl) ?_
  refine lv_aload_n hx hb dL_law_879 rfl (lv_at hl 3 rfl) ?_
  refine lv_iload_n hx hb dL_law_880 rfl (lv_at hl 0 rfl) ?_
  refine lv_iconst (v := 1) hx hb dL_law_881 (by decide) ?_
  refine lv_iadd hx hb dL_law_882 ?_
  refine lv_topi (fun z_882 e_882 => ?_)
  obtain rfl : z_882 = (1 : Int32) := e_882.trans (by decide)
  refine va_sld hx hb hX hbl hbA hS (show ¬ ((1 : Int32) < 0 ∨ 6 ≤ (1 : Int32).toNatClampNeg) by decide) dL_law_883 ?_
  refine W.eq (g2 := F0 m 884 ls (.int (xs 1) :: .ref m0 :: .int (-101) :: [])) rfl ?_
  have hPc := hP.sub (ws' := [(m0, .inr (12, [.ref mp, .int 0, .int 0, .int 0, .ref mw, .ref mh, .ref mo, .int 0, .int 0, .int 0, .int 0, .int 0, .int 0, .ref m5, .ref m6, .ref m7, .long 0, .int 0, .ref mk, .ref mn, .int 0, .ref mq, .ref m8, .ref m9, .int 0, .int 0, .int 0, .int 0, .ref ma, .int 0, .ref mb, .ref md, .long 0]))]) [7] rfl
  have hKc := hK.sub (tys' := []) [] rfl
  refine vp_callSi (W.runV (As := [.int (xs 1)]) (rest := [.int (-101)]) ⟨hx, hb, hml, hown, hg⟩ (m_leastLook l D m0 mp mw mh mo m5 m6 m7 mk mn mq m8 m9 ma mb md (xs 1)) (cwV 1 hg (gw_V kw_438 kw_439 kw_440 kw_210 kw_437) rfl rfl rfl (by decide +kernel) ⟨Nat.le_of_ble_eq_true rfl, Nat.le_of_ble_eq_true rfl⟩) (pr_SV (q := (RX12, TX12, 33)) 12 0 hKc hPc rfl rfl) rfl rfl hl.1 rfl (lv_room (Nat.le_of_ble_eq_true rfl)) dL_law_884 ⟨Nat.le_of_ble_eq_true rfl, Nat.le_of_ble_eq_true rfl⟩) (fun r_884 h_884 => ?_)
  obtain rfl : r_884 = ((-101) : Int32) := h_884
  refine lv_icmp_eq (tgt := 1101) hx hb dL_law_887 (by decide) (fun c_887 => ?_) (fun c_887 => absurd c_887 (by decide))
  exact law_end l C0 hS (lv_sub hl [0, 1, 2, 3] rfl) (Nat.le_of_ble_eq_true rfl) (Nat.le_of_ble_eq_true rfl)

theorem kw_441 : (.code yX11_mayBe cX11_mayBe 4 (some .int) : Cond) ∈ gw_tbl := gw_in (by decide +kernel) (by decide +kernel)
theorem kw_442 : (.methodLink RL 106 yX11_mayBe : Cond) ∈ gw_tbl := gw_in (by decide +kernel) (by decide +kernel)
theorem kw_443 : (.instanceMethod yX11_mayBe : Cond) ∈ gw_tbl := gw_in (by decide +kernel) (by decide +kernel)
theorem kw_444 : (.selects RX11 yX11_mayBe yX11_mayBe : Cond) ∈ gw_tbl := gw_in (by decide +kernel) (by decide +kernel)
theorem kw_445 : (.code yX12_mayBe cX12_mayBe 7 (some .int) : Cond) ∈ gw_tbl := gw_in (by decide +kernel) (by decide +kernel)
theorem kw_446 : (.methodLink RL 109 yX12_mayBe : Cond) ∈ gw_tbl := gw_in (by decide +kernel) (by decide +kernel)
theorem kw_447 : (.instanceMethod yX12_mayBe : Cond) ∈ gw_tbl := gw_in (by decide +kernel) (by decide +kernel)
theorem kw_448 : (.selects RX12 yX12_mayBe yX12_mayBe : Cond) ∈ gw_tbl := gw_in (by decide +kernel) (by decide +kernel)

set_option maxHeartbeats 4000000 in
set_option maxRecDepth 100000 in
theorem law_case_21 {p : Program} {e : Env} {s : State} {m : MethodId} {below : List Frame} {meth : Method} {c : Code} (l : Launch) {b : Nat} {xs : Nat → Int32} (C0 : lw_At p s m meth c b 6 xs) (hN : nw_C s) {D : va_G} (x0 : Nat) (pg : Nat) (rd : Nat) (aq : Nat) (py : Nat) (pl : Nat) (ch : Nat) (ro : Nat) (cd : Nat) (rw : Nat) (rc : Nat) (a1 : Nat) (a2 : Nat) (a3 : Nat) (a4 : Nat) (r1 : Nat) (r2 : Nat) (cI : ClassId) (cP : ClassId) (m0 : Nat) (mp : Nat) (mw : Nat) (mh : Nat) (mo : Nat) (m5 : Nat) (m6 : Nat) (m7 : Nat) (mk : Nat) (mn : Nat) (mq : Nat) (m8 : Nat) (m9 : Nat) (ma : Nat) (mb : Nat) (md : Nat) (cM : ClassId) (cK : ClassId) (cN : ClassId) {H : Heap} {locs : List Loc} (hK : va_K D vwCl [(cI, .int), (cP, .object RX3), (cM, .int), (cK, .int), (cN, .int)] s) (hP : va_P D vwCl [(x0, .inr (11, [.ref pg, .ref rd, .ref aq, .ref py, .ref pl, .ref ch, .ref ro, .int 0, .int 0])), (pg, .inr (2, [.ref cd, .int 0])), (cd, .inl (cI, 90, .inl (fun _ => 0))), (rd, .inr (7, [.ref rw, .ref rc, .int 0, .int 0, .int 0, .int 0, .int 0])), (aq, .inr (5, [.ref a1, .ref a2, .ref a3, .ref a4, .int 0, .int 0, .long 0])), (py, .inl (cP, 8, .inr (.inr (.inr (.inr (fun _ => none)))))), (ro, .inr (8, [.ref r1, .ref r2, .int 0])), (m0, .inr (12, [.ref mp, .int 0, .int 0, .int 0, .ref mw, .ref mh, .ref mo, .int 0, .int 0, .int 0, .int 0, .int 0, .int 0, .ref m5, .ref m6, .ref m7, .long 0, .int 0, .ref mk, .ref mn, .int 0, .ref mq, .ref m8, .ref m9, .int 0, .int 0, .int 0, .int 0, .ref ma, .int 0, .ref mb, .ref md, .long 0])), (mp, .inl (cM, 90, .inl (fun _ => 0))), (mk, .inl (cK, 8, .inl (fun _ => 0))), (mn, .inl (cN, 32, .inl (fun _ => 0)))] H) (hD : va_D (AA s) [(x0, .inr (11, [.ref pg, .ref rd, .ref aq, .ref py, .ref pl, .ref ch, .ref ro, .int 0, .int 0])), (pg, .inr (2, [.ref cd, .int 0])), (cd, .inl (cI, 90, .inl (fun _ => 0))), (rd, .inr (7, [.ref rw, .ref rc, .int 0, .int 0, .int 0, .int 0, .int 0])), (aq, .inr (5, [.ref a1, .ref a2, .ref a3, .ref a4, .int 0, .int 0, .long 0])), (py, .inl (cP, 8, .inr (.inr (.inr (.inr (fun _ => none)))))), (ro, .inr (8, [.ref r1, .ref r2, .int 0])), (m0, .inr (12, [.ref mp, .int 0, .int 0, .int 0, .ref mw, .ref mh, .ref mo, .int 0, .int 0, .int 0, .int 0, .int 0, .int 0, .ref m5, .ref m6, .ref m7, .long 0, .int 0, .ref mk, .ref mn, .int 0, .ref mq, .ref m8, .ref m9, .int 0, .int 0, .int 0, .int 0, .ref ma, .int 0, .ref mb, .ref md, .long 0])), (mp, .inl (cM, 90, .inl (fun _ => 0))), (mk, .inl (cK, 8, .inl (fun _ => 0))), (mn, .inl (cN, 32, .inl (fun _ => 0)))]) (hS : va_S (AA s) s.heap H locs) {ls : Array Slot} (hl : lv_has ls 4 [(3, .int 0), (2, .ref m0), (1, .ref x0), (0, .ref b)]) : W p l e room_1 s m #[Value.ref b] below meth c H locs 62 2530 (lw_Z below #[Value.ref b] s) (F0 m 892 ls []) := by
  obtain ⟨hx, hb, hr, hml, hown, hts, hX, hbl, hlocks, hgv⟩ := id C0
  have hg := fun (w : Cond) (h : w ∈ gw_tbl) => hts w (gw_lw h)
  have hown : s.vm.findClass RL = some m.cls := hown
  have hbA : ¬ AA s b := Nat.not_le.mpr hbl
  have hA : ∀ q : Nat, s.heap.size ≤ q → AA s q := fun _ h => h
  refine lv_aload_n hx hb dL_law_892 rfl (lv_at hl 2 rfl) ?_
  refine lv_aload_n hx hb dL_law_893 rfl (lv_at hl 3 rfl) ?_
  refine lv_iload_n hx hb dL_law_894 rfl (lv_at hl 0 rfl) ?_
  refine lv_iconst (v := 1) hx hb dL_law_895 (by decide) ?_
  refine lv_iadd hx hb dL_law_896 ?_
  refine lv_topi (fun z_896 e_896 => ?_)
  obtain rfl : z_896 = (1 : Int32) := e_896.trans (by decide)
  refine va_sld hx hb hX hbl hbA hS (show ¬ ((1 : Int32) < 0 ∨ 6 ≤ (1 : Int32).toNatClampNeg) by decide) dL_law_897 ?_
  refine W.eq (g2 := F0 m 898 ls (.int (xs 1) :: .ref x0 :: [])) rfl ?_
  refine lv_aload_n hx hb dL_law_898 rfl (lv_at hl 3 rfl) ?_
  refine lv_iload_n hx hb dL_law_899 rfl (lv_at hl 0 rfl) ?_
  refine lv_iconst (v := 2) hx hb dL_law_900 (by decide) ?_
  refine lv_iadd hx hb dL_law_901 ?_
  refine lv_topi (fun z_901 e_901 => ?_)
  obtain rfl : z_901 = (2 : Int32) := e_901.trans (by decide)
  refine va_sld hx hb hX hbl hbA hS (show ¬ ((2 : Int32) < 0 ∨ 6 ≤ (2 : Int32).toNatClampNeg) by decide) dL_law_902 ?_
  refine W.eq (g2 := F0 m 903 ls (.int (xs 2) :: .int (xs 1) :: .ref x0 :: [])) rfl ?_
  have hPc := hP.sub (ws' := [(x0, .inr (11, [.ref pg, .ref rd, .ref aq, .ref py, .ref pl, .ref ch, .ref ro, .int 0, .int 0]))]) [0] rfl
  have hKc := hK.sub (tys' := []) [] rfl
  refine vp_callSi (W.runV (As := [.int (xs 1), .int (xs 2)]) (rest := []) ⟨hx, hb, hml, hown, hg⟩ (x_mayBe l D x0 pg rd aq py pl ch ro (xs 1) (xs 2)) (cwV 2 hg (gw_V kw_442 kw_443 kw_444 kw_6 kw_441) rfl rfl rfl (by decide +kernel) ⟨Nat.le_of_ble_eq_true rfl, Nat.le_of_ble_eq_true rfl⟩) (pr_SV (q := (RX11, TX11, 9)) 11 0 hKc hPc rfl rfl) rfl rfl hl.1 rfl (lv_room (Nat.le_of_ble_eq_true rfl)) dL_law_903 ⟨Nat.le_of_ble_eq_true rfl, Nat.le_of_ble_eq_true rfl⟩) (fun r_903 h_903 => ?_)
  obtain rfl : r_903 = ((-101) : Int32) := h_903
  refine lv_aload_n hx hb dL_law_906 rfl (lv_at hl 1 rfl) ?_
  refine lv_aload_n hx hb dL_law_907 rfl (lv_at hl 3 rfl) ?_
  refine lv_iload_n hx hb dL_law_908 rfl (lv_at hl 0 rfl) ?_
  refine lv_iconst (v := 1) hx hb dL_law_909 (by decide) ?_
  refine lv_iadd hx hb dL_law_910 ?_
  refine lv_topi (fun z_910 e_910 => ?_)
  obtain rfl : z_910 = (1 : Int32) := e_910.trans (by decide)
  refine va_sld hx hb hX hbl hbA hS (show ¬ ((1 : Int32) < 0 ∨ 6 ≤ (1 : Int32).toNatClampNeg) by decide) dL_law_911 ?_
  refine W.eq (g2 := F0 m 912 ls (.int (xs 1) :: .ref m0 :: .int (-101) :: [])) rfl ?_
  refine lv_aload_n hx hb dL_law_912 rfl (lv_at hl 3 rfl) ?_
  refine lv_iload_n hx hb dL_law_913 rfl (lv_at hl 0 rfl) ?_
  refine lv_iconst (v := 2) hx hb dL_law_914 (by decide) ?_
  refine lv_iadd hx hb dL_law_915 ?_
  refine lv_topi (fun z_915 e_915 => ?_)
  obtain rfl : z_915 = (2 : Int32) := e_915.trans (by decide)
  refine va_sld hx hb hX hbl hbA hS (show ¬ ((2 : Int32) < 0 ∨ 6 ≤ (2 : Int32).toNatClampNeg) by decide) dL_law_916 ?_
  refine W.eq (g2 := F0 m 917 ls (.int (xs 2) :: .int (xs 1) :: .ref m0 :: .int (-101) :: [])) rfl ?_
  have hPc := hP.sub (ws' := [(m0, .inr (12, [.ref mp, .int 0, .int 0, .int 0, .ref mw, .ref mh, .ref mo, .int 0, .int 0, .int 0, .int 0, .int 0, .int 0, .ref m5, .ref m6, .ref m7, .long 0, .int 0, .ref mk, .ref mn, .int 0, .ref mq, .ref m8, .ref m9, .int 0, .int 0, .int 0, .int 0, .ref ma, .int 0, .ref mb, .ref md, .long 0]))]) [7] rfl
  have hKc := hK.sub (tys' := []) [] rfl
  refine vp_callSi (W.runV (As := [.int (xs 1), .int (xs 2)]) (rest := [.int (-101)]) ⟨hx, hb, hml, hown, hg⟩ (m_mayBe l D m0 mp mw mh mo m5 m6 m7 mk mn mq m8 m9 ma mb md (xs 1) (xs 2)) (cwV 2 hg (gw_V kw_446 kw_447 kw_448 kw_210 kw_445) rfl rfl rfl (by decide +kernel) ⟨Nat.le_of_ble_eq_true rfl, Nat.le_of_ble_eq_true rfl⟩) (pr_SV (q := (RX12, TX12, 33)) 12 0 hKc hPc rfl rfl) rfl rfl hl.1 rfl (lv_room (Nat.le_of_ble_eq_true rfl)) dL_law_917 ⟨Nat.le_of_ble_eq_true rfl, Nat.le_of_ble_eq_true rfl⟩) (fun r_917 h_917 => ?_)
  obtain rfl : r_917 = ((-101) : Int32) := h_917
  refine lv_icmp_eq (tgt := 1101) hx hb dL_law_920 (by decide) (fun c_920 => ?_) (fun c_920 => absurd c_920 (by decide))
  exact law_end l C0 hS (lv_sub hl [0, 1, 2, 3] rfl) (Nat.le_of_ble_eq_true rfl) (Nat.le_of_ble_eq_true rfl)

theorem kw_449 : (.code yX11_row cX11_row 4 (some .int) : Cond) ∈ gw_tbl := gw_in (by decide +kernel) (by decide +kernel)
theorem kw_450 : (.methodLink RL 110 yX11_row : Cond) ∈ gw_tbl := gw_in (by decide +kernel) (by decide +kernel)
theorem kw_451 : (.instanceMethod yX11_row : Cond) ∈ gw_tbl := gw_in (by decide +kernel) (by decide +kernel)
theorem kw_452 : (.selects RX11 yX11_row yX11_row : Cond) ∈ gw_tbl := gw_in (by decide +kernel) (by decide +kernel)
theorem kw_453 : (.code yX12_row cX12_row 8 (some .int) : Cond) ∈ gw_tbl := gw_in (by decide +kernel) (by decide +kernel)
theorem kw_454 : (.methodLink RL 114 yX12_row : Cond) ∈ gw_tbl := gw_in (by decide +kernel) (by decide +kernel)
theorem kw_455 : (.instanceMethod yX12_row : Cond) ∈ gw_tbl := gw_in (by decide +kernel) (by decide +kernel)
theorem kw_456 : (.selects RX12 yX12_row yX12_row : Cond) ∈ gw_tbl := gw_in (by decide +kernel) (by decide +kernel)

set_option maxHeartbeats 4000000 in
set_option maxRecDepth 100000 in
theorem law_case_22 {p : Program} {e : Env} {s : State} {m : MethodId} {below : List Frame} {meth : Method} {c : Code} (l : Launch) {b : Nat} {xs : Nat → Int32} (C0 : lw_At p s m meth c b 6 xs) (hN : nw_C s) {D : va_G} (x0 : Nat) (pg : Nat) (rd : Nat) (aq : Nat) (py : Nat) (pl : Nat) (ch : Nat) (ro : Nat) (cd : Nat) (rw : Nat) (rc : Nat) (a1 : Nat) (a2 : Nat) (a3 : Nat) (a4 : Nat) (r1 : Nat) (r2 : Nat) (cI : ClassId) (cP : ClassId) (m0 : Nat) (mp : Nat) (mw : Nat) (mh : Nat) (mo : Nat) (m5 : Nat) (m6 : Nat) (m7 : Nat) (mk : Nat) (mn : Nat) (mq : Nat) (m8 : Nat) (m9 : Nat) (ma : Nat) (mb : Nat) (md : Nat) (cM : ClassId) (cK : ClassId) (cN : ClassId) {H : Heap} {locs : List Loc} (hK : va_K D vwCl [(cI, .int), (cP, .object RX3), (cM, .int), (cK, .int), (cN, .int)] s) (hP : va_P D vwCl [(x0, .inr (11, [.ref pg, .ref rd, .ref aq, .ref py, .ref pl, .ref ch, .ref ro, .int 0, .int 0])), (pg, .inr (2, [.ref cd, .int 0])), (cd, .inl (cI, 90, .inl (fun _ => 0))), (rd, .inr (7, [.ref rw, .ref rc, .int 0, .int 0, .int 0, .int 0, .int 0])), (aq, .inr (5, [.ref a1, .ref a2, .ref a3, .ref a4, .int 0, .int 0, .long 0])), (py, .inl (cP, 8, .inr (.inr (.inr (.inr (fun _ => none)))))), (ro, .inr (8, [.ref r1, .ref r2, .int 0])), (m0, .inr (12, [.ref mp, .int 0, .int 0, .int 0, .ref mw, .ref mh, .ref mo, .int 0, .int 0, .int 0, .int 0, .int 0, .int 0, .ref m5, .ref m6, .ref m7, .long 0, .int 0, .ref mk, .ref mn, .int 0, .ref mq, .ref m8, .ref m9, .int 0, .int 0, .int 0, .int 0, .ref ma, .int 0, .ref mb, .ref md, .long 0])), (mp, .inl (cM, 90, .inl (fun _ => 0))), (mk, .inl (cK, 8, .inl (fun _ => 0))), (mn, .inl (cN, 32, .inl (fun _ => 0)))] H) (hD : va_D (AA s) [(x0, .inr (11, [.ref pg, .ref rd, .ref aq, .ref py, .ref pl, .ref ch, .ref ro, .int 0, .int 0])), (pg, .inr (2, [.ref cd, .int 0])), (cd, .inl (cI, 90, .inl (fun _ => 0))), (rd, .inr (7, [.ref rw, .ref rc, .int 0, .int 0, .int 0, .int 0, .int 0])), (aq, .inr (5, [.ref a1, .ref a2, .ref a3, .ref a4, .int 0, .int 0, .long 0])), (py, .inl (cP, 8, .inr (.inr (.inr (.inr (fun _ => none)))))), (ro, .inr (8, [.ref r1, .ref r2, .int 0])), (m0, .inr (12, [.ref mp, .int 0, .int 0, .int 0, .ref mw, .ref mh, .ref mo, .int 0, .int 0, .int 0, .int 0, .int 0, .int 0, .ref m5, .ref m6, .ref m7, .long 0, .int 0, .ref mk, .ref mn, .int 0, .ref mq, .ref m8, .ref m9, .int 0, .int 0, .int 0, .int 0, .ref ma, .int 0, .ref mb, .ref md, .long 0])), (mp, .inl (cM, 90, .inl (fun _ => 0))), (mk, .inl (cK, 8, .inl (fun _ => 0))), (mn, .inl (cN, 32, .inl (fun _ => 0)))]) (hS : va_S (AA s) s.heap H locs) {ls : Array Slot} (hl : lv_has ls 4 [(3, .int 0), (2, .ref m0), (1, .ref x0), (0, .ref b)]) : W p l e room_1 s m #[Value.ref b] below meth c H locs 62 2530 (lw_Z below #[Value.ref b] s) (F0 m 925 ls []) := by
  obtain ⟨hx, hb, hr, hml, hown, hts, hX, hbl, hlocks, hgv⟩ := id C0
  have hg := fun (w : Cond) (h : w ∈ gw_tbl) => hts w (gw_lw h)
  have hown : s.vm.findClass RL = some m.cls := hown
  have hbA : ¬ AA s b := Nat.not_le.mpr hbl
  have hA : ∀ q : Nat, s.heap.size ≤ q → AA s q := fun _ h => h
  refine lv_aload_n hx hb dL_law_925 rfl (lv_at hl 2 rfl) ?_
  refine lv_aload_n hx hb dL_law_926 rfl (lv_at hl 3 rfl) ?_
  refine lv_iload_n hx hb dL_law_927 rfl (lv_at hl 0 rfl) ?_
  refine lv_iconst (v := 1) hx hb dL_law_928 (by decide) ?_
  refine lv_iadd hx hb dL_law_929 ?_
  refine lv_topi (fun z_929 e_929 => ?_)
  obtain rfl : z_929 = (1 : Int32) := e_929.trans (by decide)
  refine va_sld hx hb hX hbl hbA hS (show ¬ ((1 : Int32) < 0 ∨ 6 ≤ (1 : Int32).toNatClampNeg) by decide) dL_law_930 ?_
  refine W.eq (g2 := F0 m 931 ls (.int (xs 1) :: .ref x0 :: [])) rfl ?_
  refine lv_aload_n hx hb dL_law_931 rfl (lv_at hl 3 rfl) ?_
  refine lv_iload_n hx hb dL_law_932 rfl (lv_at hl 0 rfl) ?_
  refine lv_iconst (v := 2) hx hb dL_law_933 (by decide) ?_
  refine lv_iadd hx hb dL_law_934 ?_
  refine lv_topi (fun z_934 e_934 => ?_)
  obtain rfl : z_934 = (2 : Int32) := e_934.trans (by decide)
  refine va_sld hx hb hX hbl hbA hS (show ¬ ((2 : Int32) < 0 ∨ 6 ≤ (2 : Int32).toNatClampNeg) by decide) dL_law_935 ?_
  refine W.eq (g2 := F0 m 936 ls (.int (xs 2) :: .int (xs 1) :: .ref x0 :: [])) rfl ?_
  refine lv_i2l hx hb dL_law_936 rfl ?_
  refine lv_topl (fun z_936 e_936 => ?_)
  refine lv_bipush (v := 32) hx hb dL_law_937 (by decide) ?_
  refine lv_lshl hx hb dL_law_939 rfl ?_
  refine lv_topl (fun z_939 e_939 => ?_)
  refine lv_aload_n hx hb dL_law_940 rfl (lv_at hl 3 rfl) ?_
  refine lv_iload_n hx hb dL_law_941 rfl (lv_at hl 0 rfl) ?_
  refine lv_iconst (v := 3) hx hb dL_law_942 (by decide) ?_
  refine lv_iadd hx hb dL_law_943 ?_
  refine lv_topi (fun z_943 e_943 => ?_)
  obtain rfl : z_943 = (3 : Int32) := e_943.trans (by decide)
  refine va_sld hx hb hX hbl hbA hS (show ¬ ((3 : Int32) < 0 ∨ 6 ≤ (3 : Int32).toNatClampNeg) by decide) dL_law_944 ?_
  refine W.eq (g2 := F0 m 945 ls (.int (xs 3) :: .long z_939 :: .int (xs 1) :: .ref x0 :: [])) rfl ?_
  refine lv_i2l hx hb dL_law_945 rfl ?_
  refine lv_topl (fun z_945 e_945 => ?_)
  refine lv_ldc2 hx hb hown (hg _ kw_272) dL_law_946 ?_
  refine lv_land hx hb dL_law_949 ?_
  refine lv_topl (fun z_949 e_949 => ?_)
  refine lv_lor hx hb dL_law_950 ?_
  refine lv_topl (fun z_950 e_950 => ?_)
  have hPc := hP.sub (ws' := [(x0, .inr (11, [.ref pg, .ref rd, .ref aq, .ref py, .ref pl, .ref ch, .ref ro, .int 0, .int 0])), (aq, .inr (5, [.ref a1, .ref a2, .ref a3, .ref a4, .int 0, .int 0, .long 0]))]) [0, 4] rfl
  have hKc := hK.sub (tys' := []) [] rfl
  refine vp_callSi (W.runV (As := [.int (xs 1), .long z_950]) (rest := []) ⟨hx, hb, hml, hown, hg⟩ (x_row l D x0 pg rd aq py pl ch ro a1 a2 a3 a4 (xs 1) z_950) (cwV 2 hg (gw_V kw_450 kw_451 kw_452 kw_6 kw_449) rfl rfl rfl (by decide +kernel) ⟨Nat.le_of_ble_eq_true rfl, Nat.le_of_ble_eq_true rfl⟩) (pr_SV (q := (RX11, TX11, 9)) 11 0 hKc hPc rfl rfl) rfl rfl hl.1 rfl (lv_room (Nat.le_of_ble_eq_true rfl)) dL_law_951 ⟨Nat.le_of_ble_eq_true rfl, Nat.le_of_ble_eq_true rfl⟩) (fun r_951 h_951 => ?_)
  obtain rfl : r_951 = ((-103) : Int32) := h_951
  refine lv_aload_n hx hb dL_law_954 rfl (lv_at hl 1 rfl) ?_
  refine lv_aload_n hx hb dL_law_955 rfl (lv_at hl 3 rfl) ?_
  refine lv_iload_n hx hb dL_law_956 rfl (lv_at hl 0 rfl) ?_
  refine lv_iconst (v := 1) hx hb dL_law_957 (by decide) ?_
  refine lv_iadd hx hb dL_law_958 ?_
  refine lv_topi (fun z_958 e_958 => ?_)
  obtain rfl : z_958 = (1 : Int32) := e_958.trans (by decide)
  refine va_sld hx hb hX hbl hbA hS (show ¬ ((1 : Int32) < 0 ∨ 6 ≤ (1 : Int32).toNatClampNeg) by decide) dL_law_959 ?_
  refine W.eq (g2 := F0 m 960 ls (.int (xs 1) :: .ref m0 :: .int (-103) :: [])) rfl ?_
  refine lv_aload_n hx hb dL_law_960 rfl (lv_at hl 3 rfl) ?_
  refine lv_iload_n hx hb dL_law_961 rfl (lv_at hl 0 rfl) ?_
  refine lv_iconst (v := 2) hx hb dL_law_962 (by decide) ?_
  refine lv_iadd hx hb dL_law_963 ?_
  refine lv_topi (fun z_963 e_963 => ?_)
  obtain rfl : z_963 = (2 : Int32) := e_963.trans (by decide)
  refine va_sld hx hb hX hbl hbA hS (show ¬ ((2 : Int32) < 0 ∨ 6 ≤ (2 : Int32).toNatClampNeg) by decide) dL_law_964 ?_
  refine W.eq (g2 := F0 m 965 ls (.int (xs 2) :: .int (xs 1) :: .ref m0 :: .int (-103) :: [])) rfl ?_
  refine lv_i2l hx hb dL_law_965 rfl ?_
  refine lv_topl (fun z_965 e_965 => ?_)
  refine lv_bipush (v := 32) hx hb dL_law_966 (by decide) ?_
  refine lv_lshl hx hb dL_law_968 rfl ?_
  refine lv_topl (fun z_968 e_968 => ?_)
  refine lv_aload_n hx hb dL_law_969 rfl (lv_at hl 3 rfl) ?_
  refine lv_iload_n hx hb dL_law_970 rfl (lv_at hl 0 rfl) ?_
  refine lv_iconst (v := 3) hx hb dL_law_971 (by decide) ?_
  refine lv_iadd hx hb dL_law_972 ?_
  refine lv_topi (fun z_972 e_972 => ?_)
  obtain rfl : z_972 = (3 : Int32) := e_972.trans (by decide)
  refine va_sld hx hb hX hbl hbA hS (show ¬ ((3 : Int32) < 0 ∨ 6 ≤ (3 : Int32).toNatClampNeg) by decide) dL_law_973 ?_
  refine W.eq (g2 := F0 m 974 ls (.int (xs 3) :: .long z_968 :: .int (xs 1) :: .ref m0 :: .int (-103) :: [])) rfl ?_
  refine lv_i2l hx hb dL_law_974 rfl ?_
  refine lv_topl (fun z_974 e_974 => ?_)
  refine lv_ldc2 hx hb hown (hg _ kw_272) dL_law_975 ?_
  refine lv_land hx hb dL_law_978 ?_
  refine lv_topl (fun z_978 e_978 => ?_)
  refine lv_lor hx hb dL_law_979 ?_
  refine lv_topl (fun z_979 e_979 => ?_)
  have hPc := hP.sub (ws' := [(m0, .inr (12, [.ref mp, .int 0, .int 0, .int 0, .ref mw, .ref mh, .ref mo, .int 0, .int 0, .int 0, .int 0, .int 0, .int 0, .ref m5, .ref m6, .ref m7, .long 0, .int 0, .ref mk, .ref mn, .int 0, .ref mq, .ref m8, .ref m9, .int 0, .int 0, .int 0, .int 0, .ref ma, .int 0, .ref mb, .ref md, .long 0]))]) [7] rfl
  have hKc := hK.sub (tys' := []) [] rfl
  refine vp_callSi (W.runV (As := [.int (xs 1), .long z_979]) (rest := [.int (-103)]) ⟨hx, hb, hml, hown, hg⟩ (m_row l D m0 mp mw mh mo m5 m6 m7 mk mn mq m8 m9 ma mb md (xs 1) z_979) (cwV 2 hg (gw_V kw_454 kw_455 kw_456 kw_210 kw_453) rfl rfl rfl (by decide +kernel) ⟨Nat.le_of_ble_eq_true rfl, Nat.le_of_ble_eq_true rfl⟩) (pr_SV (q := (RX12, TX12, 33)) 12 0 hKc hPc rfl rfl) rfl rfl hl.1 rfl (lv_room (Nat.le_of_ble_eq_true rfl)) dL_law_980 ⟨Nat.le_of_ble_eq_true rfl, Nat.le_of_ble_eq_true rfl⟩) (fun r_980 h_980 => ?_)
  obtain rfl : r_980 = ((-103) : Int32) := h_980
  refine lv_icmp_eq (tgt := 1101) hx hb dL_law_983 (by decide) (fun c_983 => ?_) (fun c_983 => absurd c_983 (by decide))
  exact law_end l C0 hS (lv_sub hl [0, 1, 2, 3] rfl) (Nat.le_of_ble_eq_true rfl) (Nat.le_of_ble_eq_true rfl)

theorem kw_457 : (.code yX11_alike cX11_alike 9 (some .int) : Cond) ∈ gw_tbl := gw_in (by decide +kernel) (by decide +kernel)
theorem kw_458 : (.methodLink RL 115 yX11_alike : Cond) ∈ gw_tbl := gw_in (by decide +kernel) (by decide +kernel)
theorem kw_459 : (.instanceMethod yX11_alike : Cond) ∈ gw_tbl := gw_in (by decide +kernel) (by decide +kernel)
theorem kw_460 : (.selects RX11 yX11_alike yX11_alike : Cond) ∈ gw_tbl := gw_in (by decide +kernel) (by decide +kernel)
theorem kw_461 : (.code yX12_alike cX12_alike 11 (some .int) : Cond) ∈ gw_tbl := gw_in (by decide +kernel) (by decide +kernel)
theorem kw_462 : (.methodLink RL 118 yX12_alike : Cond) ∈ gw_tbl := gw_in (by decide +kernel) (by decide +kernel)
theorem kw_463 : (.instanceMethod yX12_alike : Cond) ∈ gw_tbl := gw_in (by decide +kernel) (by decide +kernel)
theorem kw_464 : (.selects RX12 yX12_alike yX12_alike : Cond) ∈ gw_tbl := gw_in (by decide +kernel) (by decide +kernel)

set_option maxHeartbeats 4000000 in
set_option maxRecDepth 100000 in
theorem law_case_23 {p : Program} {e : Env} {s : State} {m : MethodId} {below : List Frame} {meth : Method} {c : Code} (l : Launch) {b : Nat} {xs : Nat → Int32} (C0 : lw_At p s m meth c b 6 xs) (hN : nw_C s) {D : va_G} (x0 : Nat) (pg : Nat) (rd : Nat) (aq : Nat) (py : Nat) (pl : Nat) (ch : Nat) (ro : Nat) (cd : Nat) (rw : Nat) (rc : Nat) (a1 : Nat) (a2 : Nat) (a3 : Nat) (a4 : Nat) (r1 : Nat) (r2 : Nat) (cI : ClassId) (cP : ClassId) (m0 : Nat) (mp : Nat) (mw : Nat) (mh : Nat) (mo : Nat) (m5 : Nat) (m6 : Nat) (m7 : Nat) (mk : Nat) (mn : Nat) (mq : Nat) (m8 : Nat) (m9 : Nat) (ma : Nat) (mb : Nat) (md : Nat) (cM : ClassId) (cK : ClassId) (cN : ClassId) {H : Heap} {locs : List Loc} (hK : va_K D vwCl [(cI, .int), (cP, .object RX3), (cM, .int), (cK, .int), (cN, .int)] s) (hP : va_P D vwCl [(x0, .inr (11, [.ref pg, .ref rd, .ref aq, .ref py, .ref pl, .ref ch, .ref ro, .int 0, .int 0])), (pg, .inr (2, [.ref cd, .int 0])), (cd, .inl (cI, 90, .inl (fun _ => 0))), (rd, .inr (7, [.ref rw, .ref rc, .int 0, .int 0, .int 0, .int 0, .int 0])), (aq, .inr (5, [.ref a1, .ref a2, .ref a3, .ref a4, .int 0, .int 0, .long 0])), (py, .inl (cP, 8, .inr (.inr (.inr (.inr (fun _ => none)))))), (ro, .inr (8, [.ref r1, .ref r2, .int 0])), (m0, .inr (12, [.ref mp, .int 0, .int 0, .int 0, .ref mw, .ref mh, .ref mo, .int 0, .int 0, .int 0, .int 0, .int 0, .int 0, .ref m5, .ref m6, .ref m7, .long 0, .int 0, .ref mk, .ref mn, .int 0, .ref mq, .ref m8, .ref m9, .int 0, .int 0, .int 0, .int 0, .ref ma, .int 0, .ref mb, .ref md, .long 0])), (mp, .inl (cM, 90, .inl (fun _ => 0))), (mk, .inl (cK, 8, .inl (fun _ => 0))), (mn, .inl (cN, 32, .inl (fun _ => 0)))] H) (hD : va_D (AA s) [(x0, .inr (11, [.ref pg, .ref rd, .ref aq, .ref py, .ref pl, .ref ch, .ref ro, .int 0, .int 0])), (pg, .inr (2, [.ref cd, .int 0])), (cd, .inl (cI, 90, .inl (fun _ => 0))), (rd, .inr (7, [.ref rw, .ref rc, .int 0, .int 0, .int 0, .int 0, .int 0])), (aq, .inr (5, [.ref a1, .ref a2, .ref a3, .ref a4, .int 0, .int 0, .long 0])), (py, .inl (cP, 8, .inr (.inr (.inr (.inr (fun _ => none)))))), (ro, .inr (8, [.ref r1, .ref r2, .int 0])), (m0, .inr (12, [.ref mp, .int 0, .int 0, .int 0, .ref mw, .ref mh, .ref mo, .int 0, .int 0, .int 0, .int 0, .int 0, .int 0, .ref m5, .ref m6, .ref m7, .long 0, .int 0, .ref mk, .ref mn, .int 0, .ref mq, .ref m8, .ref m9, .int 0, .int 0, .int 0, .int 0, .ref ma, .int 0, .ref mb, .ref md, .long 0])), (mp, .inl (cM, 90, .inl (fun _ => 0))), (mk, .inl (cK, 8, .inl (fun _ => 0))), (mn, .inl (cN, 32, .inl (fun _ => 0)))]) (hS : va_S (AA s) s.heap H locs) {ls : Array Slot} (hl : lv_has ls 4 [(3, .int 0), (2, .ref m0), (1, .ref x0), (0, .ref b)]) : W p l e room_1 s m #[Value.ref b] below meth c H locs 62 2530 (lw_Z below #[Value.ref b] s) (F0 m 988 ls []) := by
  obtain ⟨hx, hb, hr, hml, hown, hts, hX, hbl, hlocks, hgv⟩ := id C0
  have hg := fun (w : Cond) (h : w ∈ gw_tbl) => hts w (gw_lw h)
  have hown : s.vm.findClass RL = some m.cls := hown
  have hbA : ¬ AA s b := Nat.not_le.mpr hbl
  have hA : ∀ q : Nat, s.heap.size ≤ q → AA s q := fun _ h => h
  refine lv_aload_n hx hb dL_law_988 rfl (lv_at hl 2 rfl) ?_
  refine lv_aload_n hx hb dL_law_989 rfl (lv_at hl 3 rfl) ?_
  refine lv_iload_n hx hb dL_law_990 rfl (lv_at hl 0 rfl) ?_
  refine lv_iconst (v := 1) hx hb dL_law_991 (by decide) ?_
  refine lv_iadd hx hb dL_law_992 ?_
  refine lv_topi (fun z_992 e_992 => ?_)
  obtain rfl : z_992 = (1 : Int32) := e_992.trans (by decide)
  refine va_sld hx hb hX hbl hbA hS (show ¬ ((1 : Int32) < 0 ∨ 6 ≤ (1 : Int32).toNatClampNeg) by decide) dL_law_993 ?_
  refine W.eq (g2 := F0 m 994 ls (.int (xs 1) :: .ref x0 :: [])) rfl ?_
  refine lv_aload_n hx hb dL_law_994 rfl (lv_at hl 3 rfl) ?_
  refine lv_iload_n hx hb dL_law_995 rfl (lv_at hl 0 rfl) ?_
  refine lv_iconst (v := 2) hx hb dL_law_996 (by decide) ?_
  refine lv_iadd hx hb dL_law_997 ?_
  refine lv_topi (fun z_997 e_997 => ?_)
  obtain rfl : z_997 = (2 : Int32) := e_997.trans (by decide)
  refine va_sld hx hb hX hbl hbA hS (show ¬ ((2 : Int32) < 0 ∨ 6 ≤ (2 : Int32).toNatClampNeg) by decide) dL_law_998 ?_
  refine W.eq (g2 := F0 m 999 ls (.int (xs 2) :: .int (xs 1) :: .ref x0 :: [])) rfl ?_
  refine lv_aload_n hx hb dL_law_999 rfl (lv_at hl 3 rfl) ?_
  refine lv_iload_n hx hb dL_law_1000 rfl (lv_at hl 0 rfl) ?_
  refine lv_iconst (v := 3) hx hb dL_law_1001 (by decide) ?_
  refine lv_iadd hx hb dL_law_1002 ?_
  refine lv_topi (fun z_1002 e_1002 => ?_)
  obtain rfl : z_1002 = (3 : Int32) := e_1002.trans (by decide)
  refine va_sld hx hb hX hbl hbA hS (show ¬ ((3 : Int32) < 0 ∨ 6 ≤ (3 : Int32).toNatClampNeg) by decide) dL_law_1003 ?_
  refine W.eq (g2 := F0 m 1004 ls (.int (xs 3) :: .int (xs 2) :: .int (xs 1) :: .ref x0 :: [])) rfl ?_
  have hPc := hP.sub (ws' := [(x0, .inr (11, [.ref pg, .ref rd, .ref aq, .ref py, .ref pl, .ref ch, .ref ro, .int 0, .int 0])), (aq, .inr (5, [.ref a1, .ref a2, .ref a3, .ref a4, .int 0, .int 0, .long 0]))]) [0, 4] rfl
  have hKc := hK.sub (tys' := []) [] rfl
  refine vp_callSi (W.runV (As := [.int (xs 1), .int (xs 2), .int (xs 3)]) (rest := []) ⟨hx, hb, hml, hown, hg⟩ (x_alike l D x0 pg rd aq py pl ch ro a1 a2 a3 a4 (xs 1) (xs 2) (xs 3)) (cwV 3 hg (gw_V kw_458 kw_459 kw_460 kw_6 kw_457) rfl rfl rfl (by decide +kernel) ⟨Nat.le_of_ble_eq_true rfl, Nat.le_of_ble_eq_true rfl⟩) (pr_SV (q := (RX11, TX11, 9)) 11 0 hKc hPc rfl rfl) rfl rfl hl.1 rfl (lv_room (Nat.le_of_ble_eq_true rfl)) dL_law_1004 ⟨Nat.le_of_ble_eq_true rfl, Nat.le_of_ble_eq_true rfl⟩) (fun r_1004 h_1004 => ?_)
  obtain rfl : r_1004 = ((-1000001) : Int32) := h_1004
  refine lv_aload_n hx hb dL_law_1007 rfl (lv_at hl 1 rfl) ?_
  refine lv_aload_n hx hb dL_law_1008 rfl (lv_at hl 3 rfl) ?_
  refine lv_iload_n hx hb dL_law_1009 rfl (lv_at hl 0 rfl) ?_
  refine lv_iconst (v := 1) hx hb dL_law_1010 (by decide) ?_
  refine lv_iadd hx hb dL_law_1011 ?_
  refine lv_topi (fun z_1011 e_1011 => ?_)
  obtain rfl : z_1011 = (1 : Int32) := e_1011.trans (by decide)
  refine va_sld hx hb hX hbl hbA hS (show ¬ ((1 : Int32) < 0 ∨ 6 ≤ (1 : Int32).toNatClampNeg) by decide) dL_law_1012 ?_
  refine W.eq (g2 := F0 m 1013 ls (.int (xs 1) :: .ref m0 :: .int (-1000001) :: [])) rfl ?_
  refine lv_aload_n hx hb dL_law_1013 rfl (lv_at hl 3 rfl) ?_
  refine lv_iload_n hx hb dL_law_1014 rfl (lv_at hl 0 rfl) ?_
  refine lv_iconst (v := 2) hx hb dL_law_1015 (by decide) ?_
  refine lv_iadd hx hb dL_law_1016 ?_
  refine lv_topi (fun z_1016 e_1016 => ?_)
  obtain rfl : z_1016 = (2 : Int32) := e_1016.trans (by decide)
  refine va_sld hx hb hX hbl hbA hS (show ¬ ((2 : Int32) < 0 ∨ 6 ≤ (2 : Int32).toNatClampNeg) by decide) dL_law_1017 ?_
  refine W.eq (g2 := F0 m 1018 ls (.int (xs 2) :: .int (xs 1) :: .ref m0 :: .int (-1000001) :: [])) rfl ?_
  refine lv_aload_n hx hb dL_law_1018 rfl (lv_at hl 3 rfl) ?_
  refine lv_iload_n hx hb dL_law_1019 rfl (lv_at hl 0 rfl) ?_
  refine lv_iconst (v := 3) hx hb dL_law_1020 (by decide) ?_
  refine lv_iadd hx hb dL_law_1021 ?_
  refine lv_topi (fun z_1021 e_1021 => ?_)
  obtain rfl : z_1021 = (3 : Int32) := e_1021.trans (by decide)
  refine va_sld hx hb hX hbl hbA hS (show ¬ ((3 : Int32) < 0 ∨ 6 ≤ (3 : Int32).toNatClampNeg) by decide) dL_law_1022 ?_
  refine W.eq (g2 := F0 m 1023 ls (.int (xs 3) :: .int (xs 2) :: .int (xs 1) :: .ref m0 :: .int (-1000001) :: [])) rfl ?_
  have hPc := hP.sub (ws' := [(m0, .inr (12, [.ref mp, .int 0, .int 0, .int 0, .ref mw, .ref mh, .ref mo, .int 0, .int 0, .int 0, .int 0, .int 0, .int 0, .ref m5, .ref m6, .ref m7, .long 0, .int 0, .ref mk, .ref mn, .int 0, .ref mq, .ref m8, .ref m9, .int 0, .int 0, .int 0, .int 0, .ref ma, .int 0, .ref mb, .ref md, .long 0]))]) [7] rfl
  have hKc := hK.sub (tys' := []) [] rfl
  refine vp_callSi (W.runV (As := [.int (xs 1), .int (xs 2), .int (xs 3)]) (rest := [.int (-1000001)]) ⟨hx, hb, hml, hown, hg⟩ (m_alike l D m0 mp mw mh mo m5 m6 m7 mk mn mq m8 m9 ma mb md (xs 1) (xs 2) (xs 3)) (cwV 3 hg (gw_V kw_462 kw_463 kw_464 kw_210 kw_461) rfl rfl rfl (by decide +kernel) ⟨Nat.le_of_ble_eq_true rfl, Nat.le_of_ble_eq_true rfl⟩) (pr_SV (q := (RX12, TX12, 33)) 12 0 hKc hPc rfl rfl) rfl rfl hl.1 rfl (lv_room (Nat.le_of_ble_eq_true rfl)) dL_law_1023 ⟨Nat.le_of_ble_eq_true rfl, Nat.le_of_ble_eq_true rfl⟩) (fun r_1023 h_1023 => ?_)
  obtain rfl : r_1023 = ((-1000001) : Int32) := h_1023
  refine lv_icmp_eq (tgt := 1101) hx hb dL_law_1026 (by decide) (fun c_1026 => ?_) (fun c_1026 => absurd c_1026 (by decide))
  exact law_end l C0 hS (lv_sub hl [0, 1, 2, 3] rfl) (Nat.le_of_ble_eq_true rfl) (Nat.le_of_ble_eq_true rfl)

theorem kw_465 : (.code yX11_crowd cX11_crowd 3 (some .int) : Cond) ∈ gw_tbl := gw_in (by decide +kernel) (by decide +kernel)
theorem kw_466 : (.methodLink RL 119 yX11_crowd : Cond) ∈ gw_tbl := gw_in (by decide +kernel) (by decide +kernel)
theorem kw_467 : (.instanceMethod yX11_crowd : Cond) ∈ gw_tbl := gw_in (by decide +kernel) (by decide +kernel)
theorem kw_468 : (.selects RX11 yX11_crowd yX11_crowd : Cond) ∈ gw_tbl := gw_in (by decide +kernel) (by decide +kernel)
theorem kw_469 : (.code yX12_crowd cX12_crowd 3 (some .int) : Cond) ∈ gw_tbl := gw_in (by decide +kernel) (by decide +kernel)
theorem kw_470 : (.methodLink RL 122 yX12_crowd : Cond) ∈ gw_tbl := gw_in (by decide +kernel) (by decide +kernel)
theorem kw_471 : (.instanceMethod yX12_crowd : Cond) ∈ gw_tbl := gw_in (by decide +kernel) (by decide +kernel)
theorem kw_472 : (.selects RX12 yX12_crowd yX12_crowd : Cond) ∈ gw_tbl := gw_in (by decide +kernel) (by decide +kernel)

set_option maxHeartbeats 4000000 in
set_option maxRecDepth 100000 in
theorem law_case_24 {p : Program} {e : Env} {s : State} {m : MethodId} {below : List Frame} {meth : Method} {c : Code} (l : Launch) {b : Nat} {xs : Nat → Int32} (C0 : lw_At p s m meth c b 6 xs) (hN : nw_C s) {D : va_G} (x0 : Nat) (pg : Nat) (rd : Nat) (aq : Nat) (py : Nat) (pl : Nat) (ch : Nat) (ro : Nat) (cd : Nat) (rw : Nat) (rc : Nat) (a1 : Nat) (a2 : Nat) (a3 : Nat) (a4 : Nat) (r1 : Nat) (r2 : Nat) (cI : ClassId) (cP : ClassId) (m0 : Nat) (mp : Nat) (mw : Nat) (mh : Nat) (mo : Nat) (m5 : Nat) (m6 : Nat) (m7 : Nat) (mk : Nat) (mn : Nat) (mq : Nat) (m8 : Nat) (m9 : Nat) (ma : Nat) (mb : Nat) (md : Nat) (cM : ClassId) (cK : ClassId) (cN : ClassId) {H : Heap} {locs : List Loc} (hK : va_K D vwCl [(cI, .int), (cP, .object RX3), (cM, .int), (cK, .int), (cN, .int)] s) (hP : va_P D vwCl [(x0, .inr (11, [.ref pg, .ref rd, .ref aq, .ref py, .ref pl, .ref ch, .ref ro, .int 0, .int 0])), (pg, .inr (2, [.ref cd, .int 0])), (cd, .inl (cI, 90, .inl (fun _ => 0))), (rd, .inr (7, [.ref rw, .ref rc, .int 0, .int 0, .int 0, .int 0, .int 0])), (aq, .inr (5, [.ref a1, .ref a2, .ref a3, .ref a4, .int 0, .int 0, .long 0])), (py, .inl (cP, 8, .inr (.inr (.inr (.inr (fun _ => none)))))), (ro, .inr (8, [.ref r1, .ref r2, .int 0])), (m0, .inr (12, [.ref mp, .int 0, .int 0, .int 0, .ref mw, .ref mh, .ref mo, .int 0, .int 0, .int 0, .int 0, .int 0, .int 0, .ref m5, .ref m6, .ref m7, .long 0, .int 0, .ref mk, .ref mn, .int 0, .ref mq, .ref m8, .ref m9, .int 0, .int 0, .int 0, .int 0, .ref ma, .int 0, .ref mb, .ref md, .long 0])), (mp, .inl (cM, 90, .inl (fun _ => 0))), (mk, .inl (cK, 8, .inl (fun _ => 0))), (mn, .inl (cN, 32, .inl (fun _ => 0)))] H) (hD : va_D (AA s) [(x0, .inr (11, [.ref pg, .ref rd, .ref aq, .ref py, .ref pl, .ref ch, .ref ro, .int 0, .int 0])), (pg, .inr (2, [.ref cd, .int 0])), (cd, .inl (cI, 90, .inl (fun _ => 0))), (rd, .inr (7, [.ref rw, .ref rc, .int 0, .int 0, .int 0, .int 0, .int 0])), (aq, .inr (5, [.ref a1, .ref a2, .ref a3, .ref a4, .int 0, .int 0, .long 0])), (py, .inl (cP, 8, .inr (.inr (.inr (.inr (fun _ => none)))))), (ro, .inr (8, [.ref r1, .ref r2, .int 0])), (m0, .inr (12, [.ref mp, .int 0, .int 0, .int 0, .ref mw, .ref mh, .ref mo, .int 0, .int 0, .int 0, .int 0, .int 0, .int 0, .ref m5, .ref m6, .ref m7, .long 0, .int 0, .ref mk, .ref mn, .int 0, .ref mq, .ref m8, .ref m9, .int 0, .int 0, .int 0, .int 0, .ref ma, .int 0, .ref mb, .ref md, .long 0])), (mp, .inl (cM, 90, .inl (fun _ => 0))), (mk, .inl (cK, 8, .inl (fun _ => 0))), (mn, .inl (cN, 32, .inl (fun _ => 0)))]) (hS : va_S (AA s) s.heap H locs) {ls : Array Slot} (hl : lv_has ls 4 [(3, .int 0), (2, .ref m0), (1, .ref x0), (0, .ref b)]) : W p l e room_1 s m #[Value.ref b] below meth c H locs 62 2530 (lw_Z below #[Value.ref b] s) (F0 m 1031 ls []) := by
  obtain ⟨hx, hb, hr, hml, hown, hts, hX, hbl, hlocks, hgv⟩ := id C0
  have hg := fun (w : Cond) (h : w ∈ gw_tbl) => hts w (gw_lw h)
  have hown : s.vm.findClass RL = some m.cls := hown
  have hbA : ¬ AA s b := Nat.not_le.mpr hbl
  have hA : ∀ q : Nat, s.heap.size ≤ q → AA s q := fun _ h => h
  refine lv_aload_n hx hb dL_law_1031 rfl (lv_at hl 2 rfl) ?_
  refine lv_aload_n hx hb dL_law_1032 rfl (lv_at hl 3 rfl) ?_
  refine lv_iload_n hx hb dL_law_1033 rfl (lv_at hl 0 rfl) ?_
  refine lv_iconst (v := 1) hx hb dL_law_1034 (by decide) ?_
  refine lv_iadd hx hb dL_law_1035 ?_
  refine lv_topi (fun z_1035 e_1035 => ?_)
  obtain rfl : z_1035 = (1 : Int32) := e_1035.trans (by decide)
  refine va_sld hx hb hX hbl hbA hS (show ¬ ((1 : Int32) < 0 ∨ 6 ≤ (1 : Int32).toNatClampNeg) by decide) dL_law_1036 ?_
  refine W.eq (g2 := F0 m 1037 ls (.int (xs 1) :: .ref x0 :: [])) rfl ?_
  refine lv_aload_n hx hb dL_law_1037 rfl (lv_at hl 3 rfl) ?_
  refine lv_iload_n hx hb dL_law_1038 rfl (lv_at hl 0 rfl) ?_
  refine lv_iconst (v := 2) hx hb dL_law_1039 (by decide) ?_
  refine lv_iadd hx hb dL_law_1040 ?_
  refine lv_topi (fun z_1040 e_1040 => ?_)
  obtain rfl : z_1040 = (2 : Int32) := e_1040.trans (by decide)
  refine va_sld hx hb hX hbl hbA hS (show ¬ ((2 : Int32) < 0 ∨ 6 ≤ (2 : Int32).toNatClampNeg) by decide) dL_law_1041 ?_
  refine W.eq (g2 := F0 m 1042 ls (.int (xs 2) :: .int (xs 1) :: .ref x0 :: [])) rfl ?_
  have hPc := hP.sub (ws' := [(x0, .inr (11, [.ref pg, .ref rd, .ref aq, .ref py, .ref pl, .ref ch, .ref ro, .int 0, .int 0])), (ro, .inr (8, [.ref r1, .ref r2, .int 0]))]) [0, 6] rfl
  have hKc := hK.sub (tys' := []) [] rfl
  refine vp_callSi (W.runV (As := [.int (xs 1), .int (xs 2)]) (rest := []) ⟨hx, hb, hml, hown, hg⟩ (x_crowd l D x0 pg rd aq py pl ch ro r1 r2 (xs 1) (xs 2)) (cwV 2 hg (gw_V kw_466 kw_467 kw_468 kw_6 kw_465) rfl rfl rfl (by decide +kernel) ⟨Nat.le_of_ble_eq_true rfl, Nat.le_of_ble_eq_true rfl⟩) (pr_SV (q := (RX11, TX11, 9)) 11 0 hKc hPc rfl rfl) rfl rfl hl.1 rfl (lv_room (Nat.le_of_ble_eq_true rfl)) dL_law_1042 ⟨Nat.le_of_ble_eq_true rfl, Nat.le_of_ble_eq_true rfl⟩) (fun r_1042 h_1042 => ?_)
  obtain rfl : r_1042 = ((-101) : Int32) := h_1042
  refine lv_aload_n hx hb dL_law_1045 rfl (lv_at hl 1 rfl) ?_
  refine lv_aload_n hx hb dL_law_1046 rfl (lv_at hl 3 rfl) ?_
  refine lv_iload_n hx hb dL_law_1047 rfl (lv_at hl 0 rfl) ?_
  refine lv_iconst (v := 1) hx hb dL_law_1048 (by decide) ?_
  refine lv_iadd hx hb dL_law_1049 ?_
  refine lv_topi (fun z_1049 e_1049 => ?_)
  obtain rfl : z_1049 = (1 : Int32) := e_1049.trans (by decide)
  refine va_sld hx hb hX hbl hbA hS (show ¬ ((1 : Int32) < 0 ∨ 6 ≤ (1 : Int32).toNatClampNeg) by decide) dL_law_1050 ?_
  refine W.eq (g2 := F0 m 1051 ls (.int (xs 1) :: .ref m0 :: .int (-101) :: [])) rfl ?_
  refine lv_aload_n hx hb dL_law_1051 rfl (lv_at hl 3 rfl) ?_
  refine lv_iload_n hx hb dL_law_1052 rfl (lv_at hl 0 rfl) ?_
  refine lv_iconst (v := 2) hx hb dL_law_1053 (by decide) ?_
  refine lv_iadd hx hb dL_law_1054 ?_
  refine lv_topi (fun z_1054 e_1054 => ?_)
  obtain rfl : z_1054 = (2 : Int32) := e_1054.trans (by decide)
  refine va_sld hx hb hX hbl hbA hS (show ¬ ((2 : Int32) < 0 ∨ 6 ≤ (2 : Int32).toNatClampNeg) by decide) dL_law_1055 ?_
  refine W.eq (g2 := F0 m 1056 ls (.int (xs 2) :: .int (xs 1) :: .ref m0 :: .int (-101) :: [])) rfl ?_
  have hPc := hP.sub (ws' := [(m0, .inr (12, [.ref mp, .int 0, .int 0, .int 0, .ref mw, .ref mh, .ref mo, .int 0, .int 0, .int 0, .int 0, .int 0, .int 0, .ref m5, .ref m6, .ref m7, .long 0, .int 0, .ref mk, .ref mn, .int 0, .ref mq, .ref m8, .ref m9, .int 0, .int 0, .int 0, .int 0, .ref ma, .int 0, .ref mb, .ref md, .long 0]))]) [7] rfl
  have hKc := hK.sub (tys' := []) [] rfl
  refine vp_callSi (W.runV (As := [.int (xs 1), .int (xs 2)]) (rest := [.int (-101)]) ⟨hx, hb, hml, hown, hg⟩ (m_crowd l D m0 mp mw mh mo m5 m6 m7 mk mn mq m8 m9 ma mb md (xs 1) (xs 2)) (cwV 2 hg (gw_V kw_470 kw_471 kw_472 kw_210 kw_469) rfl rfl rfl (by decide +kernel) ⟨Nat.le_of_ble_eq_true rfl, Nat.le_of_ble_eq_true rfl⟩) (pr_SV (q := (RX12, TX12, 33)) 12 0 hKc hPc rfl rfl) rfl rfl hl.1 rfl (lv_room (Nat.le_of_ble_eq_true rfl)) dL_law_1056 ⟨Nat.le_of_ble_eq_true rfl, Nat.le_of_ble_eq_true rfl⟩) (fun r_1056 h_1056 => ?_)
  obtain rfl : r_1056 = ((-101) : Int32) := h_1056
  refine lv_icmp_eq (tgt := 1101) hx hb dL_law_1059 (by decide) (fun c_1059 => ?_) (fun c_1059 => absurd c_1059 (by decide))
  exact law_end l C0 hS (lv_sub hl [0, 1, 2, 3] rfl) (Nat.le_of_ble_eq_true rfl) (Nat.le_of_ble_eq_true rfl)

theorem kw_473 : (.methodLink RL 123 yX11_count : Cond) ∈ gw_tbl := gw_in (by decide +kernel) (by decide +kernel)
theorem kw_474 : (.code yX12_count cX12_count 2 (some .int) : Cond) ∈ gw_tbl := gw_in (by decide +kernel) (by decide +kernel)
theorem kw_475 : (.methodLink RL 126 yX12_count : Cond) ∈ gw_tbl := gw_in (by decide +kernel) (by decide +kernel)
theorem kw_476 : (.instanceMethod yX12_count : Cond) ∈ gw_tbl := gw_in (by decide +kernel) (by decide +kernel)
theorem kw_477 : (.selects RX12 yX12_count yX12_count : Cond) ∈ gw_tbl := gw_in (by decide +kernel) (by decide +kernel)

set_option maxHeartbeats 4000000 in
set_option maxRecDepth 100000 in
theorem law_case_25 {p : Program} {e : Env} {s : State} {m : MethodId} {below : List Frame} {meth : Method} {c : Code} (l : Launch) {b : Nat} {xs : Nat → Int32} (C0 : lw_At p s m meth c b 6 xs) (hN : nw_C s) {D : va_G} (x0 : Nat) (pg : Nat) (rd : Nat) (aq : Nat) (py : Nat) (pl : Nat) (ch : Nat) (ro : Nat) (cd : Nat) (rw : Nat) (rc : Nat) (a1 : Nat) (a2 : Nat) (a3 : Nat) (a4 : Nat) (r1 : Nat) (r2 : Nat) (cI : ClassId) (cP : ClassId) (m0 : Nat) (mp : Nat) (mw : Nat) (mh : Nat) (mo : Nat) (m5 : Nat) (m6 : Nat) (m7 : Nat) (mk : Nat) (mn : Nat) (mq : Nat) (m8 : Nat) (m9 : Nat) (ma : Nat) (mb : Nat) (md : Nat) (cM : ClassId) (cK : ClassId) (cN : ClassId) {H : Heap} {locs : List Loc} (hK : va_K D vwCl [(cI, .int), (cP, .object RX3), (cM, .int), (cK, .int), (cN, .int)] s) (hP : va_P D vwCl [(x0, .inr (11, [.ref pg, .ref rd, .ref aq, .ref py, .ref pl, .ref ch, .ref ro, .int 0, .int 0])), (pg, .inr (2, [.ref cd, .int 0])), (cd, .inl (cI, 90, .inl (fun _ => 0))), (rd, .inr (7, [.ref rw, .ref rc, .int 0, .int 0, .int 0, .int 0, .int 0])), (aq, .inr (5, [.ref a1, .ref a2, .ref a3, .ref a4, .int 0, .int 0, .long 0])), (py, .inl (cP, 8, .inr (.inr (.inr (.inr (fun _ => none)))))), (ro, .inr (8, [.ref r1, .ref r2, .int 0])), (m0, .inr (12, [.ref mp, .int 0, .int 0, .int 0, .ref mw, .ref mh, .ref mo, .int 0, .int 0, .int 0, .int 0, .int 0, .int 0, .ref m5, .ref m6, .ref m7, .long 0, .int 0, .ref mk, .ref mn, .int 0, .ref mq, .ref m8, .ref m9, .int 0, .int 0, .int 0, .int 0, .ref ma, .int 0, .ref mb, .ref md, .long 0])), (mp, .inl (cM, 90, .inl (fun _ => 0))), (mk, .inl (cK, 8, .inl (fun _ => 0))), (mn, .inl (cN, 32, .inl (fun _ => 0)))] H) (hD : va_D (AA s) [(x0, .inr (11, [.ref pg, .ref rd, .ref aq, .ref py, .ref pl, .ref ch, .ref ro, .int 0, .int 0])), (pg, .inr (2, [.ref cd, .int 0])), (cd, .inl (cI, 90, .inl (fun _ => 0))), (rd, .inr (7, [.ref rw, .ref rc, .int 0, .int 0, .int 0, .int 0, .int 0])), (aq, .inr (5, [.ref a1, .ref a2, .ref a3, .ref a4, .int 0, .int 0, .long 0])), (py, .inl (cP, 8, .inr (.inr (.inr (.inr (fun _ => none)))))), (ro, .inr (8, [.ref r1, .ref r2, .int 0])), (m0, .inr (12, [.ref mp, .int 0, .int 0, .int 0, .ref mw, .ref mh, .ref mo, .int 0, .int 0, .int 0, .int 0, .int 0, .int 0, .ref m5, .ref m6, .ref m7, .long 0, .int 0, .ref mk, .ref mn, .int 0, .ref mq, .ref m8, .ref m9, .int 0, .int 0, .int 0, .int 0, .ref ma, .int 0, .ref mb, .ref md, .long 0])), (mp, .inl (cM, 90, .inl (fun _ => 0))), (mk, .inl (cK, 8, .inl (fun _ => 0))), (mn, .inl (cN, 32, .inl (fun _ => 0)))]) (hS : va_S (AA s) s.heap H locs) {ls : Array Slot} (hl : lv_has ls 4 [(3, .int 0), (2, .ref m0), (1, .ref x0), (0, .ref b)]) : W p l e room_1 s m #[Value.ref b] below meth c H locs 62 2530 (lw_Z below #[Value.ref b] s) (F0 m 1064 ls []) := by
  obtain ⟨hx, hb, hr, hml, hown, hts, hX, hbl, hlocks, hgv⟩ := id C0
  have hg := fun (w : Cond) (h : w ∈ gw_tbl) => hts w (gw_lw h)
  have hown : s.vm.findClass RL = some m.cls := hown
  have hbA : ¬ AA s b := Nat.not_le.mpr hbl
  have hA : ∀ q : Nat, s.heap.size ≤ q → AA s q := fun _ h => h
  refine lv_aload_n hx hb dL_law_1064 rfl (lv_at hl 2 rfl) ?_
  refine lv_aload_n hx hb dL_law_1065 rfl (lv_at hl 3 rfl) ?_
  refine lv_iload_n hx hb dL_law_1066 rfl (lv_at hl 0 rfl) ?_
  refine lv_iconst (v := 1) hx hb dL_law_1067 (by decide) ?_
  refine lv_iadd hx hb dL_law_1068 ?_
  refine lv_topi (fun z_1068 e_1068 => ?_)
  obtain rfl : z_1068 = (1 : Int32) := e_1068.trans (by decide)
  refine va_sld hx hb hX hbl hbA hS (show ¬ ((1 : Int32) < 0 ∨ 6 ≤ (1 : Int32).toNatClampNeg) by decide) dL_law_1069 ?_
  refine W.eq (g2 := F0 m 1070 ls (.int (xs 1) :: .ref x0 :: [])) rfl ?_
  have hPc := hP.sub (ws' := [(x0, .inr (11, [.ref pg, .ref rd, .ref aq, .ref py, .ref pl, .ref ch, .ref ro, .int 0, .int 0])), (aq, .inr (5, [.ref a1, .ref a2, .ref a3, .ref a4, .int 0, .int 0, .long 0])), (ro, .inr (8, [.ref r1, .ref r2, .int 0])), (pg, .inr (2, [.ref cd, .int 0]))]) [0, 4, 6, 1] rfl
  have hKc := hK.sub (tys' := []) [] rfl
  refine vp_callSi (W.runV (As := [.int (xs 1)]) (rest := []) ⟨hx, hb, hml, hown, hg⟩ (x_count l D x0 pg rd aq py pl ch ro a1 a2 a3 a4 r1 r2 cd (xs 1)) (cwV 1 hg (gw_V kw_473 kw_55 kw_56 kw_6 kw_53) rfl rfl rfl (by decide +kernel) ⟨Nat.le_of_ble_eq_true rfl, Nat.le_of_ble_eq_true rfl⟩) (pr_SV (q := (RX11, TX11, 9)) 11 0 hKc hPc rfl rfl) rfl rfl hl.1 rfl (lv_room (Nat.le_of_ble_eq_true rfl)) dL_law_1070 ⟨Nat.le_of_ble_eq_true rfl, Nat.le_of_ble_eq_true rfl⟩) (fun r_1070 h_1070 => ?_)
  try dsimp only at h_1070
  refine lv_aload_n hx hb dL_law_1073 rfl (lv_at hl 1 rfl) ?_
  refine lv_aload_n hx hb dL_law_1074 rfl (lv_at hl 3 rfl) ?_
  refine lv_iload_n hx hb dL_law_1075 rfl (lv_at hl 0 rfl) ?_
  refine lv_iconst (v := 1) hx hb dL_law_1076 (by decide) ?_
  refine lv_iadd hx hb dL_law_1077 ?_
  refine lv_topi (fun z_1077 e_1077 => ?_)
  obtain rfl : z_1077 = (1 : Int32) := e_1077.trans (by decide)
  refine va_sld hx hb hX hbl hbA hS (show ¬ ((1 : Int32) < 0 ∨ 6 ≤ (1 : Int32).toNatClampNeg) by decide) dL_law_1078 ?_
  refine W.eq (g2 := F0 m 1079 ls (.int (xs 1) :: .ref m0 :: .int r_1070 :: [])) rfl ?_
  have hPc := hP.sub (ws' := [(m0, .inr (12, [.ref mp, .int 0, .int 0, .int 0, .ref mw, .ref mh, .ref mo, .int 0, .int 0, .int 0, .int 0, .int 0, .int 0, .ref m5, .ref m6, .ref m7, .long 0, .int 0, .ref mk, .ref mn, .int 0, .ref mq, .ref m8, .ref m9, .int 0, .int 0, .int 0, .int 0, .ref ma, .int 0, .ref mb, .ref md, .long 0]))]) [7] rfl
  have hKc := hK.sub (tys' := []) [] rfl
  refine vp_callSi (W.runV (As := [.int (xs 1)]) (rest := [.int r_1070]) ⟨hx, hb, hml, hown, hg⟩ (m_count l D m0 mp mw mh mo m5 m6 m7 mk mn mq m8 m9 ma mb md (xs 1)) (cwV 1 hg (gw_V kw_475 kw_476 kw_477 kw_210 kw_474) rfl rfl rfl (by decide +kernel) ⟨Nat.le_of_ble_eq_true rfl, Nat.le_of_ble_eq_true rfl⟩) (pr_SV (q := (RX12, TX12, 33)) 12 0 hKc hPc rfl rfl) rfl rfl hl.1 rfl (lv_room (Nat.le_of_ble_eq_true rfl)) dL_law_1079 ⟨Nat.le_of_ble_eq_true rfl, Nat.le_of_ble_eq_true rfl⟩) (fun r_1079 h_1079 => ?_)
  try dsimp only at h_1079
  refine lv_icmp_eq (tgt := 1101) hx hb dL_law_1082 (by decide) (fun c_1082 => ?_) (fun c_1082 => absurd (h_1070.trans h_1079.symm) c_1082)
  exact law_end l C0 hS (lv_sub hl [0, 1, 2, 3] rfl) (Nat.le_of_ble_eq_true rfl) (Nat.le_of_ble_eq_true rfl)

theorem kw_478 : (.code yX11_digest cX11_digest 4 (some .long) : Cond) ∈ gw_tbl := gw_in (by decide +kernel) (by decide +kernel)
theorem kw_479 : (.methodLink RL 127 yX11_digest : Cond) ∈ gw_tbl := gw_in (by decide +kernel) (by decide +kernel)
theorem kw_480 : (.instanceMethod yX11_digest : Cond) ∈ gw_tbl := gw_in (by decide +kernel) (by decide +kernel)
theorem kw_481 : (.selects RX11 yX11_digest yX11_digest : Cond) ∈ gw_tbl := gw_in (by decide +kernel) (by decide +kernel)
theorem kw_482 : (.code yX12_digest cX12_digest 3 (some .long) : Cond) ∈ gw_tbl := gw_in (by decide +kernel) (by decide +kernel)
theorem kw_483 : (.methodLink RL 131 yX12_digest : Cond) ∈ gw_tbl := gw_in (by decide +kernel) (by decide +kernel)
theorem kw_484 : (.instanceMethod yX12_digest : Cond) ∈ gw_tbl := gw_in (by decide +kernel) (by decide +kernel)
theorem kw_485 : (.selects RX12 yX12_digest yX12_digest : Cond) ∈ gw_tbl := gw_in (by decide +kernel) (by decide +kernel)

set_option maxHeartbeats 4000000 in
set_option maxRecDepth 100000 in
theorem law_case_26 {p : Program} {e : Env} {s : State} {m : MethodId} {below : List Frame} {meth : Method} {c : Code} (l : Launch) {b : Nat} {xs : Nat → Int32} (C0 : lw_At p s m meth c b 6 xs) (hN : nw_C s) {D : va_G} (x0 : Nat) (pg : Nat) (rd : Nat) (aq : Nat) (py : Nat) (pl : Nat) (ch : Nat) (ro : Nat) (cd : Nat) (rw : Nat) (rc : Nat) (a1 : Nat) (a2 : Nat) (a3 : Nat) (a4 : Nat) (r1 : Nat) (r2 : Nat) (cI : ClassId) (cP : ClassId) (m0 : Nat) (mp : Nat) (mw : Nat) (mh : Nat) (mo : Nat) (m5 : Nat) (m6 : Nat) (m7 : Nat) (mk : Nat) (mn : Nat) (mq : Nat) (m8 : Nat) (m9 : Nat) (ma : Nat) (mb : Nat) (md : Nat) (cM : ClassId) (cK : ClassId) (cN : ClassId) {H : Heap} {locs : List Loc} (hK : va_K D vwCl [(cI, .int), (cP, .object RX3), (cM, .int), (cK, .int), (cN, .int)] s) (hP : va_P D vwCl [(x0, .inr (11, [.ref pg, .ref rd, .ref aq, .ref py, .ref pl, .ref ch, .ref ro, .int 0, .int 0])), (pg, .inr (2, [.ref cd, .int 0])), (cd, .inl (cI, 90, .inl (fun _ => 0))), (rd, .inr (7, [.ref rw, .ref rc, .int 0, .int 0, .int 0, .int 0, .int 0])), (aq, .inr (5, [.ref a1, .ref a2, .ref a3, .ref a4, .int 0, .int 0, .long 0])), (py, .inl (cP, 8, .inr (.inr (.inr (.inr (fun _ => none)))))), (ro, .inr (8, [.ref r1, .ref r2, .int 0])), (m0, .inr (12, [.ref mp, .int 0, .int 0, .int 0, .ref mw, .ref mh, .ref mo, .int 0, .int 0, .int 0, .int 0, .int 0, .int 0, .ref m5, .ref m6, .ref m7, .long 0, .int 0, .ref mk, .ref mn, .int 0, .ref mq, .ref m8, .ref m9, .int 0, .int 0, .int 0, .int 0, .ref ma, .int 0, .ref mb, .ref md, .long 0])), (mp, .inl (cM, 90, .inl (fun _ => 0))), (mk, .inl (cK, 8, .inl (fun _ => 0))), (mn, .inl (cN, 32, .inl (fun _ => 0)))] H) (hD : va_D (AA s) [(x0, .inr (11, [.ref pg, .ref rd, .ref aq, .ref py, .ref pl, .ref ch, .ref ro, .int 0, .int 0])), (pg, .inr (2, [.ref cd, .int 0])), (cd, .inl (cI, 90, .inl (fun _ => 0))), (rd, .inr (7, [.ref rw, .ref rc, .int 0, .int 0, .int 0, .int 0, .int 0])), (aq, .inr (5, [.ref a1, .ref a2, .ref a3, .ref a4, .int 0, .int 0, .long 0])), (py, .inl (cP, 8, .inr (.inr (.inr (.inr (fun _ => none)))))), (ro, .inr (8, [.ref r1, .ref r2, .int 0])), (m0, .inr (12, [.ref mp, .int 0, .int 0, .int 0, .ref mw, .ref mh, .ref mo, .int 0, .int 0, .int 0, .int 0, .int 0, .int 0, .ref m5, .ref m6, .ref m7, .long 0, .int 0, .ref mk, .ref mn, .int 0, .ref mq, .ref m8, .ref m9, .int 0, .int 0, .int 0, .int 0, .ref ma, .int 0, .ref mb, .ref md, .long 0])), (mp, .inl (cM, 90, .inl (fun _ => 0))), (mk, .inl (cK, 8, .inl (fun _ => 0))), (mn, .inl (cN, 32, .inl (fun _ => 0)))]) (hS : va_S (AA s) s.heap H locs) {ls : Array Slot} (hl : lv_has ls 4 [(3, .int 0), (2, .ref m0), (1, .ref x0), (0, .ref b)]) : W p l e room_1 s m #[Value.ref b] below meth c H locs 62 2530 (lw_Z below #[Value.ref b] s) (F0 m 1087 ls []) := by
  obtain ⟨hx, hb, hr, hml, hown, hts, hX, hbl, hlocks, hgv⟩ := id C0
  have hg := fun (w : Cond) (h : w ∈ gw_tbl) => hts w (gw_lw h)
  have hown : s.vm.findClass RL = some m.cls := hown
  have hbA : ¬ AA s b := Nat.not_le.mpr hbl
  have hA : ∀ q : Nat, s.heap.size ≤ q → AA s q := fun _ h => h
  refine lv_aload_n hx hb dL_law_1087 rfl (lv_at hl 2 rfl) ?_
  have hPc := hP.sub (ws' := [(x0, .inr (11, [.ref pg, .ref rd, .ref aq, .ref py, .ref pl, .ref ch, .ref ro, .int 0, .int 0])), (aq, .inr (5, [.ref a1, .ref a2, .ref a3, .ref a4, .int 0, .int 0, .long 0])), (ro, .inr (8, [.ref r1, .ref r2, .int 0])), (pg, .inr (2, [.ref cd, .int 0]))]) [0, 4, 6, 1] rfl
  have hKc := hK.sub (tys' := []) [] rfl
  refine vp_callSl (W.runV (As := []) (rest := []) ⟨hx, hb, hml, hown, hg⟩ (x_digest l D x0 pg rd aq py pl ch ro a1 a2 a3 a4 r1 r2 cd) (cwV 0 hg (gw_V kw_479 kw_480 kw_481 kw_6 kw_478) rfl rfl rfl (by decide +kernel) ⟨Nat.le_of_ble_eq_true rfl, Nat.le_of_ble_eq_true rfl⟩) (pr_SV (q := (RX11, TX11, 9)) 11 0 hKc hPc rfl rfl) rfl rfl hl.1 rfl (lv_room (Nat.le_of_ble_eq_true rfl)) dL_law_1088 ⟨Nat.le_of_ble_eq_true rfl, Nat.le_of_ble_eq_true rfl⟩) (fun r_1088 h_1088 => ?_)
  obtain rfl : r_1088 = (307963777307 : Int64) := h_1088
  refine lv_aload_n hx hb dL_law_1091 rfl (lv_at hl 1 rfl) ?_
  have hPc := hP.sub (ws' := [(m0, .inr (12, [.ref mp, .int 0, .int 0, .int 0, .ref mw, .ref mh, .ref mo, .int 0, .int 0, .int 0, .int 0, .int 0, .int 0, .ref m5, .ref m6, .ref m7, .long 0, .int 0, .ref mk, .ref mn, .int 0, .ref mq, .ref m8, .ref m9, .int 0, .int 0, .int 0, .int 0, .ref ma, .int 0, .ref mb, .ref md, .long 0]))]) [7] rfl
  have hKc := hK.sub (tys' := []) [] rfl
  have hDc := hD.sub (ws' := [(m0, .inr (12, [.ref mp, .int 0, .int 0, .int 0, .ref mw, .ref mh, .ref mo, .int 0, .int 0, .int 0, .int 0, .int 0, .int 0, .ref m5, .ref m6, .ref m7, .long 0, .int 0, .ref mk, .ref mn, .int 0, .ref mq, .ref m8, .ref m9, .int 0, .int 0, .int 0, .int 0, .ref ma, .int 0, .ref mb, .ref md, .long 0]))]) [7] (by decide) rfl
  have hFc := va_free (wc := [(m0, .inr (12, [.ref mp, .int 0, .int 0, .int 0, .ref mw, .ref mh, .ref mo, .int 0, .int 0, .int 0, .int 0, .int 0, .int 0, .ref m5, .ref m6, .ref m7, .long 0, .int 0, .ref mk, .ref mn, .int 0, .ref mq, .ref m8, .ref m9, .int 0, .int 0, .int 0, .int 0, .ref ma, .int 0, .ref mb, .ref md, .long 0]))]) hD hS hA [7] rfl
  refine va_calll (va_runV (As := []) (rest := [.long 307963777307]) ⟨hx, hb, hml, hown, hg⟩ (m_digest l D m0 mp mw mh mo m5 m6 m7 mk mn mq m8 m9 ma mb md _) (cwV 0 hg (gw_V kw_483 kw_484 kw_485 kw_210 kw_482) rfl rfl rfl (by decide +kernel) ⟨Nat.le_of_ble_eq_true rfl, Nat.le_of_ble_eq_true rfl⟩) (pr_MV (q := (RX12, TX12, 33)) 12 0 hKc hPc hDc rfl rfl) rfl rfl hl.1 rfl (lv_room (Nat.le_of_ble_eq_true rfl)) dL_law_1092 ⟨Nat.le_of_ble_eq_true rfl, Nat.le_of_ble_eq_true rfl⟩) hS (fun q _ h => hFc q h) hFc (fun r_1092 u t H1 locs ht hvm h_1092 hB hz1 hk1 hS => ?_)
  have hP1 := p_nil (D := D) (H := H1)
  have hK1 := hK.sub (tys' := []) [] rfl
  obtain ⟨hP, hD⟩ := va_join (wr := [(x0, .inr (11, [.ref pg, .ref rd, .ref aq, .ref py, .ref pl, .ref ch, .ref ro, .int 0, .int 0])), (pg, .inr (2, [.ref cd, .int 0])), (cd, .inl (cI, 90, .inl (fun _ => 0))), (rd, .inr (7, [.ref rw, .ref rc, .int 0, .int 0, .int 0, .int 0, .int 0])), (aq, .inr (5, [.ref a1, .ref a2, .ref a3, .ref a4, .int 0, .int 0, .long 0])), (py, .inl (cP, 8, .inr (.inr (.inr (.inr (fun _ => none)))))), (ro, .inr (8, [.ref r1, .ref r2, .int 0])), (mp, .inl (cM, 90, .inl (fun _ => 0))), (mk, .inl (cK, 8, .inl (fun _ => 0))), (mn, .inl (cN, 32, .inl (fun _ => 0)))]) (w1 := []) hP hD [7] [0, 1, 2, 3, 4, 5, 6, 8, 9, 10] rfl rfl (by decide) (by decide) hk1 hFc hP1 d_nil
  have hK := hK.app hK1
  generalize H1 = H at hP hS ⊢
  have hP : va_P D vwCl [(x0, .inr (11, [.ref pg, .ref rd, .ref aq, .ref py, .ref pl, .ref ch, .ref ro, .int 0, .int 0])), (pg, .inr (2, [.ref cd, .int 0])), (cd, .inl (cI, 90, .inl (fun _ => 0))), (rd, .inr (7, [.ref rw, .ref rc, .int 0, .int 0, .int 0, .int 0, .int 0])), (aq, .inr (5, [.ref a1, .ref a2, .ref a3, .ref a4, .int 0, .int 0, .long 0])), (py, .inl (cP, 8, .inr (.inr (.inr (.inr (fun _ => none)))))), (ro, .inr (8, [.ref r1, .ref r2, .int 0])), (mp, .inl (cM, 90, .inl (fun _ => 0))), (mk, .inl (cK, 8, .inl (fun _ => 0))), (mn, .inl (cN, 32, .inl (fun _ => 0)))] H := hP
  have hD : va_D (AA s) [(x0, .inr (11, [.ref pg, .ref rd, .ref aq, .ref py, .ref pl, .ref ch, .ref ro, .int 0, .int 0])), (pg, .inr (2, [.ref cd, .int 0])), (cd, .inl (cI, 90, .inl (fun _ => 0))), (rd, .inr (7, [.ref rw, .ref rc, .int 0, .int 0, .int 0, .int 0, .int 0])), (aq, .inr (5, [.ref a1, .ref a2, .ref a3, .ref a4, .int 0, .int 0, .long 0])), (py, .inl (cP, 8, .inr (.inr (.inr (.inr (fun _ => none)))))), (ro, .inr (8, [.ref r1, .ref r2, .int 0])), (mp, .inl (cM, 90, .inl (fun _ => 0))), (mk, .inl (cK, 8, .inl (fun _ => 0))), (mn, .inl (cN, 32, .inl (fun _ => 0)))] := hD
  have hK : va_K D vwCl [(cI, .int), (cP, .object RX3), (cM, .int), (cK, .int), (cN, .int)] s := hK
  refine W.cs (cells' := 62) (slots' := 2530) rfl rfl ?_
  obtain rfl : r_1092 = (307963777307 : Int64) := h_1092
  refine W.lcmp hx hb dL_law_1095 ?_
  refine lv_topi (fun z_1095 e_1095 => ?_)
  obtain rfl : z_1095 = (0 : Int32) := e_1095.trans (by decide)
  refine lv_if_eq (tgt := 1101) hx hb dL_law_1096 (by decide) (fun c_1096 => ?_) (fun c_1096 => absurd c_1096 (by decide))
  exact law_end l C0 hS (lv_sub hl [0, 1, 2, 3] rfl) (Nat.le_of_ble_eq_true rfl) (Nat.le_of_ble_eq_true rfl)
