theorem dX5_hasCase_0 : decode cX5_hasCase 0 = .ok (.iload_n 1, 1) := by decide +kernel
theorem dX5_hasCase_1 : decode cX5_hasCase 1 = .ok (.ifCond .lt 15, 3) := by decide +kernel
theorem dX5_hasCase_4 : decode cX5_hasCase 4 = .ok (.iload_n 1, 1) := by decide +kernel
theorem dX5_hasCase_5 : decode cX5_hasCase 5 = .ok (.aload_n 0, 1) := by decide +kernel
theorem dX5_hasCase_6 : decode cX5_hasCase 6 = .ok (.getfield 33, 3) := by decide +kernel
theorem dX5_hasCase_9 : decode cX5_hasCase 9 = .ok (.if_icmp .ge 7, 3) := by decide +kernel
theorem dX5_hasCase_12 : decode cX5_hasCase 12 = .ok (.iconst 1, 1) := by decide +kernel
theorem dX5_hasCase_13 : decode cX5_hasCase 13 = .ok (.goto 4, 3) := by decide +kernel
theorem dX5_hasCase_16 : decode cX5_hasCase 16 = .ok (.iconst 0, 1) := by decide +kernel
theorem dX5_hasCase_17 : decode cX5_hasCase 17 = .ok (.ireturn, 1) := by decide +kernel
theorem kw_0 : (.fieldLink RX5 33 "NobodyChecks$Question" "cases" "I" : Cond) ∈ gw_tbl := gw_in (by decide +kernel) (by decide +kernel)

set_option maxHeartbeats 4000000 in
set_option maxRecDepth 100000 in
theorem q_hasCase (l : Launch) (D : va_G) (aq : Nat) (a1 : Nat) (a2 : Nat) (a3 : Nat) (a4 : Nat) (v : Int32) : Met l yX5_hasCase (Cond.code yX5_hasCase cX5_hasCase 2 (some .boolean) :: gw_tbl) ({ frames := 0, cells := 0, slots := 0, locals := 0 }) (pc_S D [] [(aq, .inr (5, [.ref a1, .ref a2, .ref a3, .ref a4, .int 0, .int 0, .long 0]))] [.ref aq, .int v]) (vp_Si (fun r => r = 0)) 0 0 (fun _ => False) := by
  refine Met.ofW (cc := cX5_hasCase) (maxL := 2) (ret := (some .boolean)) (by decide) rfl ?_
  intro p e s m args below meth c s₁ B hml hv
  obtain ⟨hargs, hP, hK⟩ := hv
  have hx := B.exec
  have hb := B.bytes
  have hr := B.returns
  have hts := atoms_spec (ws := Cond.code yX5_hasCase cX5_hasCase 2 (some .boolean) :: gw_tbl) B.pre
  have hg := fun (w : Cond) (h : w ∈ gw_tbl) => hts w (List.mem_cons_of_mem _ h)
  have hown : s.vm.findClass RX5 = some m.cls := findClass_of_methodNamed B.named
  have hlocks := B.notSynchronized
  have hl := lv_entry ([.ref aq, .int v]) (n := 2) (Nat.le_of_ble_eq_true rfl)
  rw [show entryFrame m args 2 = F0 m 0 (lg_sl ([.ref aq, .int v]) ++ List.replicate (2 - (lg_sl ([.ref aq, .int v])).length) Slot.unset).toArray [] from by rw [hargs]; exact lg_entry_eq ..]
  generalize (lg_sl ([.ref aq, .int v]) ++ List.replicate (2 - (lg_sl ([.ref aq, .int v])).length) Slot.unset).toArray = ls at hl ⊢
  have hl : lv_has ls 2 [(0, .ref aq), (1, .int v)] := hl
  refine W_genQ (fun Q hQ => ?_)
  refine lv_iload_n hx hb dX5_hasCase_0 rfl (lv_at hl 1 rfl) ?_
  refine lv_if_lt (tgt := 16) hx hb dX5_hasCase_1 (by decide) (fun c_1 => ?_) (fun c_1 => ?_)
  · refine lv_iconst (v := 0) hx hb dX5_hasCase_16 (by decide) ?_
    subst hQ
    exact W.zret (v := 0) hx hb hr (by decide) (fun t ht hW => ⟨0, rfl, rfl, ht⟩) (fun _ h => absurd h List.not_mem_nil) dX5_hasCase_17
  · refine lv_iload_n hx hb dX5_hasCase_4 rfl (lv_at hl 1 rfl) ?_
    refine lv_aload_n hx hb dX5_hasCase_5 rfl (lv_at hl 0 rfl) ?_
    refine va_get (D := D) (ci := 5) (v := .int 0) (C := RX5) (T := TX5) (N := 7) hx hb hg gwX5 hown hK hP 0 rfl rfl 4 (by decide) (hg _ kw_0) (fun _ h9 => h9) rfl dX5_hasCase_6 ?_
    refine lv_icmp_ge (tgt := 16) hx hb dX5_hasCase_9 (by decide) (fun c_9 => ?_) (fun c_9 => ?_)
    · refine lv_iconst (v := 0) hx hb dX5_hasCase_16 (by decide) ?_
      subst hQ
      exact W.zret (v := 0) hx hb hr (by decide) (fun t ht hW => ⟨0, rfl, rfl, ht⟩) (fun _ h => absurd h List.not_mem_nil) dX5_hasCase_17
    · refine lv_iconst (v := 1) hx hb dX5_hasCase_12 (by decide) ?_
      refine lv_goto (tgt := 17) hx hb dX5_hasCase_13 (by decide) ?_
      subst hQ
      exact W.zret (v := 1) hx hb hr (by decide) (fun t ht hW => ⟨1, rfl, (neg0 c_1 c_9), ht⟩) (fun _ h => absurd h List.not_mem_nil) dX5_hasCase_17

theorem dX5_hasPerson_0 : decode cX5_hasPerson 0 = .ok (.iload_n 1, 1) := by decide +kernel
theorem dX5_hasPerson_1 : decode cX5_hasPerson 1 = .ok (.ifCond .lt 15, 3) := by decide +kernel
theorem dX5_hasPerson_4 : decode cX5_hasPerson 4 = .ok (.iload_n 1, 1) := by decide +kernel
theorem dX5_hasPerson_5 : decode cX5_hasPerson 5 = .ok (.aload_n 0, 1) := by decide +kernel
theorem dX5_hasPerson_6 : decode cX5_hasPerson 6 = .ok (.getfield 37, 3) := by decide +kernel
theorem dX5_hasPerson_9 : decode cX5_hasPerson 9 = .ok (.if_icmp .ge 7, 3) := by decide +kernel
theorem dX5_hasPerson_12 : decode cX5_hasPerson 12 = .ok (.iconst 1, 1) := by decide +kernel
theorem dX5_hasPerson_13 : decode cX5_hasPerson 13 = .ok (.goto 4, 3) := by decide +kernel
theorem dX5_hasPerson_16 : decode cX5_hasPerson 16 = .ok (.iconst 0, 1) := by decide +kernel
theorem dX5_hasPerson_17 : decode cX5_hasPerson 17 = .ok (.ireturn, 1) := by decide +kernel
theorem kw_1 : (.fieldLink RX5 37 "NobodyChecks$Question" "persons" "I" : Cond) ∈ gw_tbl := gw_in (by decide +kernel) (by decide +kernel)

set_option maxHeartbeats 4000000 in
set_option maxRecDepth 100000 in
theorem q_hasPerson (l : Launch) (D : va_G) (aq : Nat) (a1 : Nat) (a2 : Nat) (a3 : Nat) (a4 : Nat) (v : Int32) : Met l yX5_hasPerson (Cond.code yX5_hasPerson cX5_hasPerson 2 (some .boolean) :: gw_tbl) ({ frames := 0, cells := 0, slots := 0, locals := 0 }) (pc_S D [] [(aq, .inr (5, [.ref a1, .ref a2, .ref a3, .ref a4, .int 0, .int 0, .long 0]))] [.ref aq, .int v]) (vp_Si (fun r => r = 0)) 0 0 (fun _ => False) := by
  refine Met.ofW (cc := cX5_hasPerson) (maxL := 2) (ret := (some .boolean)) (by decide) rfl ?_
  intro p e s m args below meth c s₁ B hml hv
  obtain ⟨hargs, hP, hK⟩ := hv
  have hx := B.exec
  have hb := B.bytes
  have hr := B.returns
  have hts := atoms_spec (ws := Cond.code yX5_hasPerson cX5_hasPerson 2 (some .boolean) :: gw_tbl) B.pre
  have hg := fun (w : Cond) (h : w ∈ gw_tbl) => hts w (List.mem_cons_of_mem _ h)
  have hown : s.vm.findClass RX5 = some m.cls := findClass_of_methodNamed B.named
  have hlocks := B.notSynchronized
  have hl := lv_entry ([.ref aq, .int v]) (n := 2) (Nat.le_of_ble_eq_true rfl)
  rw [show entryFrame m args 2 = F0 m 0 (lg_sl ([.ref aq, .int v]) ++ List.replicate (2 - (lg_sl ([.ref aq, .int v])).length) Slot.unset).toArray [] from by rw [hargs]; exact lg_entry_eq ..]
  generalize (lg_sl ([.ref aq, .int v]) ++ List.replicate (2 - (lg_sl ([.ref aq, .int v])).length) Slot.unset).toArray = ls at hl ⊢
  have hl : lv_has ls 2 [(0, .ref aq), (1, .int v)] := hl
  refine W_genQ (fun Q hQ => ?_)
  refine lv_iload_n hx hb dX5_hasPerson_0 rfl (lv_at hl 1 rfl) ?_
  refine lv_if_lt (tgt := 16) hx hb dX5_hasPerson_1 (by decide) (fun c_1 => ?_) (fun c_1 => ?_)
  · refine lv_iconst (v := 0) hx hb dX5_hasPerson_16 (by decide) ?_
    subst hQ
    exact W.zret (v := 0) hx hb hr (by decide) (fun t ht hW => ⟨0, rfl, rfl, ht⟩) (fun _ h => absurd h List.not_mem_nil) dX5_hasPerson_17
  · refine lv_iload_n hx hb dX5_hasPerson_4 rfl (lv_at hl 1 rfl) ?_
    refine lv_aload_n hx hb dX5_hasPerson_5 rfl (lv_at hl 0 rfl) ?_
    refine va_get (D := D) (ci := 5) (v := .int 0) (C := RX5) (T := TX5) (N := 7) hx hb hg gwX5 hown hK hP 0 rfl rfl 5 (by decide) (hg _ kw_1) (fun _ h9 => h9) rfl dX5_hasPerson_6 ?_
    refine lv_icmp_ge (tgt := 16) hx hb dX5_hasPerson_9 (by decide) (fun c_9 => ?_) (fun c_9 => ?_)
    · refine lv_iconst (v := 0) hx hb dX5_hasPerson_16 (by decide) ?_
      subst hQ
      exact W.zret (v := 0) hx hb hr (by decide) (fun t ht hW => ⟨0, rfl, rfl, ht⟩) (fun _ h => absurd h List.not_mem_nil) dX5_hasPerson_17
    · refine lv_iconst (v := 1) hx hb dX5_hasPerson_12 (by decide) ?_
      refine lv_goto (tgt := 17) hx hb dX5_hasPerson_13 (by decide) ?_
      subst hQ
      exact W.zret (v := 1) hx hb hr (by decide) (fun t ht hW => ⟨1, rfl, (neg0 c_1 c_9), ht⟩) (fun _ h => absurd h List.not_mem_nil) dX5_hasPerson_17

theorem dX5_stands_0 : decode cX5_stands 0 = .ok (.aload_n 0, 1) := by decide +kernel
theorem dX5_stands_1 : decode cX5_stands 1 = .ok (.getfield 33, 3) := by decide +kernel
theorem dX5_stands_4 : decode cX5_stands 4 = .ok (.ifCond .le 7, 3) := by decide +kernel
theorem dX5_stands_7 : decode cX5_stands 7 = .ok (.iconst 1, 1) := by decide +kernel
theorem dX5_stands_8 : decode cX5_stands 8 = .ok (.goto 4, 3) := by decide +kernel
theorem dX5_stands_11 : decode cX5_stands 11 = .ok (.iconst 0, 1) := by decide +kernel
theorem dX5_stands_12 : decode cX5_stands 12 = .ok (.ireturn, 1) := by decide +kernel

set_option maxHeartbeats 4000000 in
set_option maxRecDepth 100000 in
theorem q_stands (l : Launch) (D : va_G) (aq : Nat) (a1 : Nat) (a2 : Nat) (a3 : Nat) (a4 : Nat) : Met l yX5_stands (Cond.code yX5_stands cX5_stands 1 (some .boolean) :: gw_tbl) ({ frames := 0, cells := 0, slots := 0, locals := 0 }) (pc_S D [] [(aq, .inr (5, [.ref a1, .ref a2, .ref a3, .ref a4, .int 0, .int 0, .long 0]))] [.ref aq]) (vp_Si (fun r => r = 0)) 0 0 (fun _ => False) := by
  refine Met.ofW (cc := cX5_stands) (maxL := 1) (ret := (some .boolean)) (by decide) rfl ?_
  intro p e s m args below meth c s₁ B hml hv
  obtain ⟨hargs, hP, hK⟩ := hv
  have hx := B.exec
  have hb := B.bytes
  have hr := B.returns
  have hts := atoms_spec (ws := Cond.code yX5_stands cX5_stands 1 (some .boolean) :: gw_tbl) B.pre
  have hg := fun (w : Cond) (h : w ∈ gw_tbl) => hts w (List.mem_cons_of_mem _ h)
  have hown : s.vm.findClass RX5 = some m.cls := findClass_of_methodNamed B.named
  have hlocks := B.notSynchronized
  have hl := lv_entry ([.ref aq]) (n := 1) (Nat.le_of_ble_eq_true rfl)
  rw [show entryFrame m args 1 = F0 m 0 (lg_sl ([.ref aq]) ++ List.replicate (1 - (lg_sl ([.ref aq])).length) Slot.unset).toArray [] from by rw [hargs]; exact lg_entry_eq ..]
  generalize (lg_sl ([.ref aq]) ++ List.replicate (1 - (lg_sl ([.ref aq])).length) Slot.unset).toArray = ls at hl ⊢
  have hl : lv_has ls 1 [(0, .ref aq)] := hl
  refine W_genQ (fun Q hQ => ?_)
  refine lv_aload_n hx hb dX5_stands_0 rfl (lv_at hl 0 rfl) ?_
  refine va_get (D := D) (ci := 5) (v := .int 0) (C := RX5) (T := TX5) (N := 7) hx hb hg gwX5 hown hK hP 0 rfl rfl 4 (by decide) (hg _ kw_0) (fun _ h9 => h9) rfl dX5_stands_1 ?_
  refine lv_if_le (tgt := 11) hx hb dX5_stands_4 (by decide) (fun c_4 => ?_) (fun c_4 => absurd c_4 (by decide))
  refine lv_iconst (v := 0) hx hb dX5_stands_11 (by decide) ?_
  subst hQ
  exact W.zret (v := 0) hx hb hr (by decide) (fun t ht hW => ⟨0, rfl, rfl, ht⟩) (fun _ h => absurd h List.not_mem_nil) dX5_stands_12

theorem dX11_payOf_0 : decode cX11_payOf 0 = .ok (.iload_n 1, 1) := by decide +kernel
theorem dX11_payOf_1 : decode cX11_payOf 1 = .ok (.iconst 0, 1) := by decide +kernel
theorem dX11_payOf_2 : decode cX11_payOf 2 = .ok (.aload_n 0, 1) := by decide +kernel
theorem dX11_payOf_3 : decode cX11_payOf 3 = .ok (.getfield 134, 3) := by decide +kernel
theorem dX11_payOf_6 : decode cX11_payOf 6 = .ok (.iconst 1, 1) := by decide +kernel
theorem dX11_payOf_7 : decode cX11_payOf 7 = .ok (.isub, 1) := by decide +kernel
theorem dX11_payOf_8 : decode cX11_payOf 8 = .ok (.invokestatic 105, 3) := by decide +kernel
theorem dX11_payOf_11 : decode cX11_payOf 11 = .ok (.ifCond .eq 12, 3) := by decide +kernel
theorem dX11_payOf_14 : decode cX11_payOf 14 = .ok (.aload_n 0, 1) := by decide +kernel
theorem dX11_payOf_15 : decode cX11_payOf 15 = .ok (.getfield 32, 3) := by decide +kernel
theorem dX11_payOf_18 : decode cX11_payOf 18 = .ok (.iload_n 1, 1) := by decide +kernel
theorem dX11_payOf_19 : decode cX11_payOf 19 = .ok (.aaload, 1) := by decide +kernel
theorem dX11_payOf_20 : decode cX11_payOf 20 = .ok (.goto 4, 3) := by decide +kernel
theorem dX11_payOf_23 : decode cX11_payOf 23 = .ok (.aconst_null, 1) := by decide +kernel
theorem dX11_payOf_24 : decode cX11_payOf 24 = .ok (.areturn, 1) := by decide +kernel
theorem kw_2 : (.fieldLink RX11 134 "NobodyChecks" "payCount" "I" : Cond) ∈ gw_tbl := gw_in (by decide +kernel) (by decide +kernel)
theorem kw_3 : (.code yX11_isWithin cX11_isWithin 3 (some .boolean) : Cond) ∈ gw_tbl := gw_in (by decide +kernel) (by decide +kernel)
theorem kw_4 : (.methodLink RX11 105 yX11_isWithin : Cond) ∈ gw_tbl := gw_in (by decide +kernel) (by decide +kernel)
theorem kw_5 : (.static yX11_isWithin : Cond) ∈ gw_tbl := gw_in (by decide +kernel) (by decide +kernel)
theorem kw_6 : (.initialized RX11 : Cond) ∈ gw_tbl := gw_in (by decide +kernel) (by decide +kernel)

set_option maxHeartbeats 4000000 in
set_option maxRecDepth 100000 in
theorem x_payOf (l : Launch) (D : va_G) (x0 : Nat) (pg : Nat) (rd : Nat) (aq : Nat) (py : Nat) (pl : Nat) (ch : Nat) (ro : Nat) (v : Int32) : Met l yX11_payOf (Cond.code yX11_payOf cX11_payOf 2 (some (.object "NobodyChecks$Pay")) :: gw_tbl) ({ frames := 1, cells := 0, slots := 0, locals := 22 }) (pc_S D [] [(x0, .inr (11, [.ref pg, .ref rd, .ref aq, .ref py, .ref pl, .ref ch, .ref ro, .int 0, .int 0]))] [.ref x0, .int v]) (va_Sq (fun r => r = none)) 0 0 (fun _ => False) := by
  refine Met.ofW (cc := cX11_payOf) (maxL := 2) (ret := (some (.object "NobodyChecks$Pay"))) (by decide) rfl ?_
  intro p e s m args below meth c s₁ B hml hv
  obtain ⟨hargs, hP, hK⟩ := hv
  have hx := B.exec
  have hb := B.bytes
  have hr := B.returns
  have hts := atoms_spec (ws := Cond.code yX11_payOf cX11_payOf 2 (some (.object "NobodyChecks$Pay")) :: gw_tbl) B.pre
  have hg := fun (w : Cond) (h : w ∈ gw_tbl) => hts w (List.mem_cons_of_mem _ h)
  have hown : s.vm.findClass RX11 = some m.cls := findClass_of_methodNamed B.named
  have hlocks := B.notSynchronized
  have hl := lv_entry ([.ref x0, .int v]) (n := 2) (Nat.le_of_ble_eq_true rfl)
  rw [show entryFrame m args 2 = F0 m 0 (lg_sl ([.ref x0, .int v]) ++ List.replicate (2 - (lg_sl ([.ref x0, .int v])).length) Slot.unset).toArray [] from by rw [hargs]; exact lg_entry_eq ..]
  generalize (lg_sl ([.ref x0, .int v]) ++ List.replicate (2 - (lg_sl ([.ref x0, .int v])).length) Slot.unset).toArray = ls at hl ⊢
  have hl : lv_has ls 2 [(0, .ref x0), (1, .int v)] := hl
  refine W_genQ (fun Q hQ => ?_)
  refine lv_iload_n hx hb dX11_payOf_0 rfl (lv_at hl 1 rfl) ?_
  refine lv_iconst (v := 0) hx hb dX11_payOf_1 (by decide) ?_
  refine lv_aload_n hx hb dX11_payOf_2 rfl (lv_at hl 0 rfl) ?_
  refine va_get (D := D) (ci := 11) (v := .int 0) (C := RX11) (T := TX11) (N := 9) hx hb hg gwX11 hown hK hP 0 rfl rfl 7 (by decide) (hg _ kw_2) (fun _ h9 => h9) rfl dX11_payOf_3 ?_
  refine lv_iconst (v := 1) hx hb dX11_payOf_6 (by decide) ?_
  refine lv_isub hx hb dX11_payOf_7 ?_
  refine lv_topi (fun z_7 e_7 => ?_)
  obtain rfl : z_7 = ((-1) : Int32) := e_7.trans (by decide)
  refine vp_callSi (W.runS (As := [.int v, .int 0, .int (-1)]) (rest := []) ⟨hx, hb, hml, hown, hg⟩ (c_isWithin l v 0 (-1)) (va_cwS 3 hg (gw_S kw_4 kw_5 kw_6 kw_3) rfl rfl rfl (by decide +kernel) ⟨Nat.le_of_ble_eq_true rfl, Nat.le_of_ble_eq_true rfl⟩) pr_0 rfl rfl hl.1 rfl (lv_room (Nat.le_of_ble_eq_true rfl)) dX11_payOf_8 ⟨Nat.le_of_ble_eq_true rfl, Nat.le_of_ble_eq_true rfl⟩) (fun r_8 h_8 => ?_)
  obtain rfl : r_8 = (0 : Int32) := h_8.trans (iw_no (by decide))
  refine lv_if_eq (tgt := 23) hx hb dX11_payOf_11 (by decide) (fun c_11 => ?_) (fun c_11 => absurd c_11 (by decide))
  refine lv_null hx hb dX11_payOf_23 ?_
  subst hQ
  exact W.aret (v := .null) hx hb hr (Or.inl ⟨_, rfl⟩) (Or.inl rfl) (fun t ht hW => ⟨none, rfl, rfl, ht⟩) (fun _ h => absurd h List.not_mem_nil) dX11_payOf_24

theorem dX11_refusalOf_0 : decode cX11_refusalOf 0 = .ok (.aload_n 1, 1) := by decide +kernel
theorem dX11_refusalOf_1 : decode cX11_refusalOf 1 = .ok (.ifnonnull 6, 3) := by decide +kernel
theorem dX11_refusalOf_4 : decode cX11_refusalOf 4 = .ok (.bipush (-101), 2) := by decide +kernel
theorem dX11_refusalOf_6 : decode cX11_refusalOf 6 = .ok (.ireturn, 1) := by decide +kernel
theorem dX11_refusalOf_7 : decode cX11_refusalOf 7 = .ok (.aload_n 0, 1) := by decide +kernel
theorem dX11_refusalOf_8 : decode cX11_refusalOf 8 = .ok (.getfield 26, 3) := by decide +kernel
theorem dX11_refusalOf_11 : decode cX11_refusalOf 11 = .ok (.invokevirtual 204, 3) := by decide +kernel
theorem dX11_refusalOf_14 : decode cX11_refusalOf 14 = .ok (.ifCond .ne 6, 3) := by decide +kernel
theorem dX11_refusalOf_17 : decode cX11_refusalOf 17 = .ok (.bipush (-103), 2) := by decide +kernel
theorem dX11_refusalOf_19 : decode cX11_refusalOf 19 = .ok (.ireturn, 1) := by decide +kernel
theorem dX11_refusalOf_20 : decode cX11_refusalOf 20 = .ok (.aload_n 0, 1) := by decide +kernel
theorem dX11_refusalOf_21 : decode cX11_refusalOf 21 = .ok (.getfield 26, 3) := by decide +kernel
theorem dX11_refusalOf_24 : decode cX11_refusalOf 24 = .ok (.iload_n 2, 1) := by decide +kernel
theorem dX11_refusalOf_25 : decode cX11_refusalOf 25 = .ok (.invokevirtual 174, 3) := by decide +kernel
theorem dX11_refusalOf_28 : decode cX11_refusalOf 28 = .ok (.ifCond .eq 17, 3) := by decide +kernel
theorem dX11_refusalOf_31 : decode cX11_refusalOf 31 = .ok (.iload_n 3, 1) := by decide +kernel
theorem dX11_refusalOf_32 : decode cX11_refusalOf 32 = .ok (.iconst 0, 1) := by decide +kernel
theorem dX11_refusalOf_33 : decode cX11_refusalOf 33 = .ok (.iload 4, 2) := by decide +kernel
theorem dX11_refusalOf_35 : decode cX11_refusalOf 35 = .ok (.invokestatic 105, 3) := by decide +kernel
theorem dX11_refusalOf_38 : decode cX11_refusalOf 38 = .ok (.ifCond .eq 7, 3) := by decide +kernel
theorem dX11_refusalOf_41 : decode cX11_refusalOf 41 = .ok (.iconst 0, 1) := by decide +kernel
theorem dX11_refusalOf_42 : decode cX11_refusalOf 42 = .ok (.goto 5, 3) := by decide +kernel
theorem dX11_refusalOf_45 : decode cX11_refusalOf 45 = .ok (.bipush (-102), 2) := by decide +kernel
theorem dX11_refusalOf_47 : decode cX11_refusalOf 47 = .ok (.ireturn, 1) := by decide +kernel

set_option maxHeartbeats 4000000 in
set_option maxRecDepth 100000 in
theorem x_refusalOf (l : Launch) (D : va_G) (x0 : Nat) (pg : Nat) (rd : Nat) (aq : Nat) (py : Nat) (pl : Nat) (ch : Nat) (ro : Nat) (v : Int32) (v2 : Int32) (v3 : Int32) : Met l yX11_refusalOf (Cond.code yX11_refusalOf cX11_refusalOf 5 (some .int) :: gw_tbl) ({ frames := 0, cells := 0, slots := 0, locals := 0 }) (pc_S D [] [(x0, .inr (11, [.ref pg, .ref rd, .ref aq, .ref py, .ref pl, .ref ch, .ref ro, .int 0, .int 0]))] [.ref x0, .null, .int v, .int v2, .int v3]) (vp_Si (fun r => r = -101)) 0 0 (fun _ => False) := by
  refine Met.ofW (cc := cX11_refusalOf) (maxL := 5) (ret := (some .int)) (by decide) rfl ?_
  intro p e s m args below meth c s₁ B hml hv
  obtain ⟨hargs, hP, hK⟩ := hv
  have hx := B.exec
  have hb := B.bytes
  have hr := B.returns
  have hts := atoms_spec (ws := Cond.code yX11_refusalOf cX11_refusalOf 5 (some .int) :: gw_tbl) B.pre
  have hg := fun (w : Cond) (h : w ∈ gw_tbl) => hts w (List.mem_cons_of_mem _ h)
  have hown : s.vm.findClass RX11 = some m.cls := findClass_of_methodNamed B.named
  have hlocks := B.notSynchronized
  have hl := lv_entry ([.ref x0, .null, .int v, .int v2, .int v3]) (n := 5) (Nat.le_of_ble_eq_true rfl)
  rw [show entryFrame m args 5 = F0 m 0 (lg_sl ([.ref x0, .null, .int v, .int v2, .int v3]) ++ List.replicate (5 - (lg_sl ([.ref x0, .null, .int v, .int v2, .int v3])).length) Slot.unset).toArray [] from by rw [hargs]; exact lg_entry_eq ..]
  generalize (lg_sl ([.ref x0, .null, .int v, .int v2, .int v3]) ++ List.replicate (5 - (lg_sl ([.ref x0, .null, .int v, .int v2, .int v3])).length) Slot.unset).toArray = ls at hl ⊢
  have hl : lv_has ls 5 [(0, .ref x0), (1, .null), (2, .int v), (3, .int v2), (4, .int v3)] := hl
  refine W_genQ (fun Q hQ => ?_)
  refine lv_aload_nN hx hb dX11_refusalOf_0 rfl (lv_at hl 1 rfl) ?_
  refine lv_ifnonnullN hx hb dX11_refusalOf_1 ?_
  refine lv_bipush (v := (-101)) hx hb dX11_refusalOf_4 (by decide) ?_
  subst hQ
  exact W.iret (v := (-101)) hx hb hr (fun t ht hW => ⟨(-101), rfl, rfl, ht⟩) (fun _ h => absurd h List.not_mem_nil) dX11_refusalOf_6

theorem dX11_chance_0 : decode cX11_chance 0 = .ok (.aload_n 0, 1) := by decide +kernel
theorem dX11_chance_1 : decode cX11_chance 1 = .ok (.getfield 26, 3) := by decide +kernel
theorem dX11_chance_4 : decode cX11_chance 4 = .ok (.iload_n 1, 1) := by decide +kernel
theorem dX11_chance_5 : decode cX11_chance 5 = .ok (.invokevirtual 90, 3) := by decide +kernel
theorem dX11_chance_8 : decode cX11_chance 8 = .ok (.ifCond .ne 6, 3) := by decide +kernel
theorem dX11_chance_11 : decode cX11_chance 11 = .ok (.bipush (-101), 2) := by decide +kernel
theorem dX11_chance_13 : decode cX11_chance 13 = .ok (.ireturn, 1) := by decide +kernel
theorem dX11_chance_14 : decode cX11_chance 14 = .ok (.iload_n 2, 1) := by decide +kernel
theorem dX11_chance_15 : decode cX11_chance 15 = .ok (.iconst (-1), 1) := by decide +kernel
theorem dX11_chance_16 : decode cX11_chance 16 = .ok (.if_icmp .ne 13, 3) := by decide +kernel
theorem dX11_chance_19 : decode cX11_chance 19 = .ok (.aload_n 0, 1) := by decide +kernel
theorem dX11_chance_20 : decode cX11_chance 20 = .ok (.getfield 26, 3) := by decide +kernel
theorem dX11_chance_23 : decode cX11_chance 23 = .ok (.getfield 94, 3) := by decide +kernel
theorem dX11_chance_26 : decode cX11_chance 26 = .ok (.iload_n 1, 1) := by decide +kernel
theorem dX11_chance_27 : decode cX11_chance 27 = .ok (.iaload, 1) := by decide +kernel
theorem dX11_chance_28 : decode cX11_chance 28 = .ok (.ireturn, 1) := by decide +kernel
theorem dX11_chance_29 : decode cX11_chance 29 = .ok (.aload_n 0, 1) := by decide +kernel
theorem dX11_chance_30 : decode cX11_chance 30 = .ok (.getfield 26, 3) := by decide +kernel
theorem dX11_chance_33 : decode cX11_chance 33 = .ok (.iload_n 2, 1) := by decide +kernel
theorem dX11_chance_34 : decode cX11_chance 34 = .ok (.invokevirtual 98, 3) := by decide +kernel
theorem dX11_chance_37 : decode cX11_chance 37 = .ok (.ifCond .eq 17, 3) := by decide +kernel
theorem dX11_chance_40 : decode cX11_chance 40 = .ok (.aload_n 0, 1) := by decide +kernel
theorem dX11_chance_41 : decode cX11_chance 41 = .ok (.getfield 26, 3) := by decide +kernel
theorem dX11_chance_44 : decode cX11_chance 44 = .ok (.getfield 101, 3) := by decide +kernel
theorem dX11_chance_47 : decode cX11_chance 47 = .ok (.iload_n 1, 1) := by decide +kernel
theorem dX11_chance_48 : decode cX11_chance 48 = .ok (.aaload, 1) := by decide +kernel
theorem dX11_chance_49 : decode cX11_chance 49 = .ok (.iload_n 2, 1) := by decide +kernel
theorem dX11_chance_50 : decode cX11_chance 50 = .ok (.iaload, 1) := by decide +kernel
theorem dX11_chance_51 : decode cX11_chance 51 = .ok (.goto 5, 3) := by decide +kernel
theorem dX11_chance_54 : decode cX11_chance 54 = .ok (.bipush (-101), 2) := by decide +kernel
theorem dX11_chance_56 : decode cX11_chance 56 = .ok (.ireturn, 1) := by decide +kernel
theorem kw_7 : (.fieldLink RX11 26 "NobodyChecks" "asked" "LNobodyChecks$Question;" : Cond) ∈ gw_tbl := gw_in (by decide +kernel) (by decide +kernel)
theorem kw_8 : (.code yX5_hasCase cX5_hasCase 2 (some .boolean) : Cond) ∈ gw_tbl := gw_in (by decide +kernel) (by decide +kernel)
theorem kw_9 : (.methodLink RX11 90 yX5_hasCase : Cond) ∈ gw_tbl := gw_in (by decide +kernel) (by decide +kernel)
theorem kw_10 : (.instanceMethod yX5_hasCase : Cond) ∈ gw_tbl := gw_in (by decide +kernel) (by decide +kernel)
theorem kw_11 : (.selects RX5 yX5_hasCase yX5_hasCase : Cond) ∈ gw_tbl := gw_in (by decide +kernel) (by decide +kernel)
theorem kw_12 : (.initialized RX5 : Cond) ∈ gw_tbl := gw_in (by decide +kernel) (by decide +kernel)

set_option maxHeartbeats 4000000 in
set_option maxRecDepth 100000 in
theorem x_chance (l : Launch) (D : va_G) (x0 : Nat) (pg : Nat) (rd : Nat) (aq : Nat) (py : Nat) (pl : Nat) (ch : Nat) (ro : Nat) (a1 : Nat) (a2 : Nat) (a3 : Nat) (a4 : Nat) (p1 : Int32) (p2 : Int32) : Met l yX11_chance (Cond.code yX11_chance cX11_chance 3 (some .int) :: gw_tbl) ({ frames := 1, cells := 0, slots := 0, locals := 21 }) (pc_S D [] [(x0, .inr (11, [.ref pg, .ref rd, .ref aq, .ref py, .ref pl, .ref ch, .ref ro, .int 0, .int 0])), (aq, .inr (5, [.ref a1, .ref a2, .ref a3, .ref a4, .int 0, .int 0, .long 0]))] [.ref x0, .int p1, .int p2]) (vp_Si (fun r => r = (-101))) 0 0 (fun _ => False) := by
  refine Met.ofW (cc := cX11_chance) (maxL := 3) (ret := (some .int)) (by decide) rfl ?_
  intro p e s m args below meth c s₁ B hml hv
  obtain ⟨hargs, hP, hK⟩ := hv
  have hx := B.exec
  have hb := B.bytes
  have hr := B.returns
  have hts := atoms_spec (ws := Cond.code yX11_chance cX11_chance 3 (some .int) :: gw_tbl) B.pre
  have hg := fun (w : Cond) (h : w ∈ gw_tbl) => hts w (List.mem_cons_of_mem _ h)
  have hown : s.vm.findClass RX11 = some m.cls := findClass_of_methodNamed B.named
  have hlocks := B.notSynchronized
  have hl := lv_entry ([.ref x0, .int p1, .int p2]) (n := 3) (Nat.le_of_ble_eq_true rfl)
  rw [show entryFrame m args 3 = F0 m 0 (lg_sl ([.ref x0, .int p1, .int p2]) ++ List.replicate (3 - (lg_sl ([.ref x0, .int p1, .int p2])).length) Slot.unset).toArray [] from by rw [hargs]; exact lg_entry_eq ..]
  generalize (lg_sl ([.ref x0, .int p1, .int p2]) ++ List.replicate (3 - (lg_sl ([.ref x0, .int p1, .int p2])).length) Slot.unset).toArray = ls at hl ⊢
  have hl : lv_has ls 3 [(0, .ref x0), (1, .int p1), (2, .int p2)] := hl
  refine W_genQ (fun Q hQ => ?_)
  refine lv_aload_n hx hb dX11_chance_0 rfl (lv_at hl 0 rfl) ?_
  refine va_get (D := D) (ci := 11) (v := .ref aq) (C := RX11) (T := TX11) (N := 9) hx hb hg gwX11 hown hK hP 0 rfl rfl 2 (by decide) (hg _ kw_7) (fun _ h9 => h9) rfl dX11_chance_1 ?_
  refine lv_iload_n hx hb dX11_chance_4 rfl (lv_at hl 1 rfl) ?_
  have hPc := hP.sub (ws' := [(aq, .inr (5, [.ref a1, .ref a2, .ref a3, .ref a4, .int 0, .int 0, .long 0]))]) [1] rfl
  have hKc := hK.sub (tys' := []) [] rfl
  refine vp_callSi (W.runV (As := [.int p1]) (rest := []) ⟨hx, hb, hml, hown, hg⟩ (q_hasCase l D aq a1 a2 a3 a4 p1) (cwV 1 hg (gw_V kw_9 kw_10 kw_11 kw_12 kw_8) rfl rfl rfl (by decide +kernel) ⟨Nat.le_of_ble_eq_true rfl, Nat.le_of_ble_eq_true rfl⟩) (pr_SV (q := (RX5, TX5, 7)) 5 0 hKc hPc rfl rfl) rfl rfl hl.1 rfl (lv_room (Nat.le_of_ble_eq_true rfl)) dX11_chance_5 ⟨Nat.le_of_ble_eq_true rfl, Nat.le_of_ble_eq_true rfl⟩) (fun r_5 h_5 => ?_)
  obtain rfl : r_5 = (0 : Int32) := h_5
  refine lv_if_ne (tgt := 14) hx hb dX11_chance_8 (by decide) (fun c_8 => absurd c_8 (by decide)) (fun c_8 => ?_)
  refine lv_bipush (v := (-101)) hx hb dX11_chance_11 (by decide) ?_
  subst hQ
  exact W.iret (v := (-101)) hx hb hr (fun t ht hW => ⟨(-101), rfl, rfl, ht⟩) (fun _ h => absurd h List.not_mem_nil) dX11_chance_13

theorem dX11_cost_0 : decode cX11_cost 0 = .ok (.aload_n 0, 1) := by decide +kernel
theorem dX11_cost_1 : decode cX11_cost 1 = .ok (.getfield 26, 3) := by decide +kernel
theorem dX11_cost_4 : decode cX11_cost 4 = .ok (.iload_n 1, 1) := by decide +kernel
theorem dX11_cost_5 : decode cX11_cost 5 = .ok (.invokevirtual 98, 3) := by decide +kernel
theorem dX11_cost_8 : decode cX11_cost 8 = .ok (.ifCond .ne 6, 3) := by decide +kernel
theorem dX11_cost_11 : decode cX11_cost 11 = .ok (.bipush (-101), 2) := by decide +kernel
theorem dX11_cost_13 : decode cX11_cost 13 = .ok (.ireturn, 1) := by decide +kernel
theorem dX11_cost_14 : decode cX11_cost 14 = .ok (.iload_n 2, 1) := by decide +kernel
theorem dX11_cost_15 : decode cX11_cost 15 = .ok (.iconst 0, 1) := by decide +kernel
theorem dX11_cost_16 : decode cX11_cost 16 = .ok (.sipush 999, 3) := by decide +kernel
theorem dX11_cost_19 : decode cX11_cost 19 = .ok (.invokestatic 105, 3) := by decide +kernel
theorem dX11_cost_22 : decode cX11_cost 22 = .ok (.ifCond .ne 6, 3) := by decide +kernel
theorem dX11_cost_25 : decode cX11_cost 25 = .ok (.bipush (-102), 2) := by decide +kernel
theorem dX11_cost_27 : decode cX11_cost 27 = .ok (.ireturn, 1) := by decide +kernel
theorem dX11_cost_28 : decode cX11_cost 28 = .ok (.aload_n 0, 1) := by decide +kernel
theorem dX11_cost_29 : decode cX11_cost 29 = .ok (.getfield 26, 3) := by decide +kernel
theorem dX11_cost_32 : decode cX11_cost 32 = .ok (.getfield 109, 3) := by decide +kernel
theorem dX11_cost_35 : decode cX11_cost 35 = .ok (.iload_n 1, 1) := by decide +kernel
theorem dX11_cost_36 : decode cX11_cost 36 = .ok (.iaload, 1) := by decide +kernel
theorem dX11_cost_37 : decode cX11_cost 37 = .ok (.istore_n 3, 1) := by decide +kernel
theorem dX11_cost_38 : decode cX11_cost 38 = .ok (.aload_n 0, 1) := by decide +kernel
theorem dX11_cost_39 : decode cX11_cost 39 = .ok (.getfield 26, 3) := by decide +kernel
theorem dX11_cost_42 : decode cX11_cost 42 = .ok (.getfield 109, 3) := by decide +kernel
theorem dX11_cost_45 : decode cX11_cost 45 = .ok (.iload_n 1, 1) := by decide +kernel
theorem dX11_cost_46 : decode cX11_cost 46 = .ok (.iload_n 2, 1) := by decide +kernel
theorem dX11_cost_47 : decode cX11_cost 47 = .ok (.iastore, 1) := by decide +kernel
theorem dX11_cost_48 : decode cX11_cost 48 = .ok (.iload_n 3, 1) := by decide +kernel
theorem dX11_cost_49 : decode cX11_cost 49 = .ok (.ireturn, 1) := by decide +kernel
theorem kw_13 : (.code yX5_hasPerson cX5_hasPerson 2 (some .boolean) : Cond) ∈ gw_tbl := gw_in (by decide +kernel) (by decide +kernel)
theorem kw_14 : (.methodLink RX11 98 yX5_hasPerson : Cond) ∈ gw_tbl := gw_in (by decide +kernel) (by decide +kernel)
theorem kw_15 : (.instanceMethod yX5_hasPerson : Cond) ∈ gw_tbl := gw_in (by decide +kernel) (by decide +kernel)
theorem kw_16 : (.selects RX5 yX5_hasPerson yX5_hasPerson : Cond) ∈ gw_tbl := gw_in (by decide +kernel) (by decide +kernel)

set_option maxHeartbeats 4000000 in
set_option maxRecDepth 100000 in
theorem x_cost (l : Launch) (D : va_G) (x0 : Nat) (pg : Nat) (rd : Nat) (aq : Nat) (py : Nat) (pl : Nat) (ch : Nat) (ro : Nat) (a1 : Nat) (a2 : Nat) (a3 : Nat) (a4 : Nat) (p1 : Int32) (p2 : Int32) : Met l yX11_cost (Cond.code yX11_cost cX11_cost 4 (some .int) :: gw_tbl) ({ frames := 1, cells := 0, slots := 0, locals := 21 }) (pc_S D [] [(x0, .inr (11, [.ref pg, .ref rd, .ref aq, .ref py, .ref pl, .ref ch, .ref ro, .int 0, .int 0])), (aq, .inr (5, [.ref a1, .ref a2, .ref a3, .ref a4, .int 0, .int 0, .long 0]))] [.ref x0, .int p1, .int p2]) (vp_Si (fun r => r = (-101))) 0 0 (fun _ => False) := by
  refine Met.ofW (cc := cX11_cost) (maxL := 4) (ret := (some .int)) (by decide) rfl ?_
  intro p e s m args below meth c s₁ B hml hv
  obtain ⟨hargs, hP, hK⟩ := hv
  have hx := B.exec
  have hb := B.bytes
  have hr := B.returns
  have hts := atoms_spec (ws := Cond.code yX11_cost cX11_cost 4 (some .int) :: gw_tbl) B.pre
  have hg := fun (w : Cond) (h : w ∈ gw_tbl) => hts w (List.mem_cons_of_mem _ h)
  have hown : s.vm.findClass RX11 = some m.cls := findClass_of_methodNamed B.named
  have hlocks := B.notSynchronized
  have hl := lv_entry ([.ref x0, .int p1, .int p2]) (n := 4) (Nat.le_of_ble_eq_true rfl)
  rw [show entryFrame m args 4 = F0 m 0 (lg_sl ([.ref x0, .int p1, .int p2]) ++ List.replicate (4 - (lg_sl ([.ref x0, .int p1, .int p2])).length) Slot.unset).toArray [] from by rw [hargs]; exact lg_entry_eq ..]
  generalize (lg_sl ([.ref x0, .int p1, .int p2]) ++ List.replicate (4 - (lg_sl ([.ref x0, .int p1, .int p2])).length) Slot.unset).toArray = ls at hl ⊢
  have hl : lv_has ls 4 [(0, .ref x0), (1, .int p1), (2, .int p2)] := hl
  refine W_genQ (fun Q hQ => ?_)
  refine lv_aload_n hx hb dX11_cost_0 rfl (lv_at hl 0 rfl) ?_
  refine va_get (D := D) (ci := 11) (v := .ref aq) (C := RX11) (T := TX11) (N := 9) hx hb hg gwX11 hown hK hP 0 rfl rfl 2 (by decide) (hg _ kw_7) (fun _ h9 => h9) rfl dX11_cost_1 ?_
  refine lv_iload_n hx hb dX11_cost_4 rfl (lv_at hl 1 rfl) ?_
  have hPc := hP.sub (ws' := [(aq, .inr (5, [.ref a1, .ref a2, .ref a3, .ref a4, .int 0, .int 0, .long 0]))]) [1] rfl
  have hKc := hK.sub (tys' := []) [] rfl
  refine vp_callSi (W.runV (As := [.int p1]) (rest := []) ⟨hx, hb, hml, hown, hg⟩ (q_hasPerson l D aq a1 a2 a3 a4 p1) (cwV 1 hg (gw_V kw_14 kw_15 kw_16 kw_12 kw_13) rfl rfl rfl (by decide +kernel) ⟨Nat.le_of_ble_eq_true rfl, Nat.le_of_ble_eq_true rfl⟩) (pr_SV (q := (RX5, TX5, 7)) 5 0 hKc hPc rfl rfl) rfl rfl hl.1 rfl (lv_room (Nat.le_of_ble_eq_true rfl)) dX11_cost_5 ⟨Nat.le_of_ble_eq_true rfl, Nat.le_of_ble_eq_true rfl⟩) (fun r_5 h_5 => ?_)
  obtain rfl : r_5 = (0 : Int32) := h_5
  refine lv_if_ne (tgt := 14) hx hb dX11_cost_8 (by decide) (fun c_8 => absurd c_8 (by decide)) (fun c_8 => ?_)
  refine lv_bipush (v := (-101)) hx hb dX11_cost_11 (by decide) ?_
  subst hQ
  exact W.iret (v := (-101)) hx hb hr (fun t ht hW => ⟨(-101), rfl, rfl, ht⟩) (fun _ h => absurd h List.not_mem_nil) dX11_cost_13

theorem dX11_thinks_0 : decode cX11_thinks 0 = .ok (.aload_n 0, 1) := by decide +kernel
theorem dX11_thinks_1 : decode cX11_thinks 1 = .ok (.getfield 26, 3) := by decide +kernel
theorem dX11_thinks_4 : decode cX11_thinks 4 = .ok (.iload_n 1, 1) := by decide +kernel
theorem dX11_thinks_5 : decode cX11_thinks 5 = .ok (.invokevirtual 98, 3) := by decide +kernel
theorem dX11_thinks_8 : decode cX11_thinks 8 = .ok (.ifCond .eq 19, 3) := by decide +kernel
theorem dX11_thinks_11 : decode cX11_thinks 11 = .ok (.aload_n 0, 1) := by decide +kernel
theorem dX11_thinks_12 : decode cX11_thinks 12 = .ok (.getfield 26, 3) := by decide +kernel
theorem dX11_thinks_15 : decode cX11_thinks 15 = .ok (.iload_n 3, 1) := by decide +kernel
theorem dX11_thinks_16 : decode cX11_thinks 16 = .ok (.invokevirtual 98, 3) := by decide +kernel
theorem dX11_thinks_19 : decode cX11_thinks 19 = .ok (.ifCond .eq 8, 3) := by decide +kernel
theorem dX11_thinks_22 : decode cX11_thinks 22 = .ok (.iload_n 1, 1) := by decide +kernel
theorem dX11_thinks_23 : decode cX11_thinks 23 = .ok (.iload_n 3, 1) := by decide +kernel
theorem dX11_thinks_24 : decode cX11_thinks 24 = .ok (.if_icmp .ne 7, 3) := by decide +kernel
theorem dX11_thinks_27 : decode cX11_thinks 27 = .ok (.ldc2_w 112, 3) := by decide +kernel
theorem dX11_thinks_30 : decode cX11_thinks 30 = .ok (.lreturn, 1) := by decide +kernel
theorem dX11_thinks_31 : decode cX11_thinks 31 = .ok (.iload_n 2, 1) := by decide +kernel
theorem dX11_thinks_32 : decode cX11_thinks 32 = .ok (.iconst 0, 1) := by decide +kernel
theorem dX11_thinks_33 : decode cX11_thinks 33 = .ok (.iconst 1, 1) := by decide +kernel
theorem dX11_thinks_34 : decode cX11_thinks 34 = .ok (.invokestatic 105, 3) := by decide +kernel
theorem dX11_thinks_37 : decode cX11_thinks 37 = .ok (.ifCond .eq 13, 3) := by decide +kernel
theorem dX11_thinks_40 : decode cX11_thinks 40 = .ok (.iload 4, 2) := by decide +kernel
theorem dX11_thinks_42 : decode cX11_thinks 42 = .ok (.iconst 0, 1) := by decide +kernel
theorem dX11_thinks_43 : decode cX11_thinks 43 = .ok (.iconst 1, 1) := by decide +kernel
theorem dX11_thinks_44 : decode cX11_thinks 44 = .ok (.invokestatic 105, 3) := by decide +kernel
theorem dX11_thinks_47 : decode cX11_thinks 47 = .ok (.ifCond .ne 7, 3) := by decide +kernel
theorem dX11_thinks_50 : decode cX11_thinks 50 = .ok (.ldc2_w 114, 3) := by decide +kernel
theorem dX11_thinks_53 : decode cX11_thinks 53 = .ok (.lreturn, 1) := by decide +kernel
theorem dX11_thinks_54 : decode cX11_thinks 54 = .ok (.aload_n 0, 1) := by decide +kernel
theorem dX11_thinks_55 : decode cX11_thinks 55 = .ok (.getfield 26, 3) := by decide +kernel
theorem dX11_thinks_58 : decode cX11_thinks 58 = .ok (.iload_n 1, 1) := by decide +kernel
theorem dX11_thinks_59 : decode cX11_thinks 59 = .ok (.iload_n 2, 1) := by decide +kernel
theorem dX11_thinks_60 : decode cX11_thinks 60 = .ok (.invokevirtual 116, 3) := by decide +kernel
theorem dX11_thinks_63 : decode cX11_thinks 63 = .ok (.lstore 5, 2) := by decide +kernel
theorem dX11_thinks_65 : decode cX11_thinks 65 = .ok (.lload 5, 2) := by decide +kernel
theorem dX11_thinks_67 : decode cX11_thinks 67 = .ok (.lconst 0, 1) := by decide +kernel
theorem dX11_thinks_68 : decode cX11_thinks 68 = .ok (.lcmp, 1) := by decide +kernel
theorem dX11_thinks_69 : decode cX11_thinks 69 = .ok (.ifCond .ne 7, 3) := by decide +kernel
theorem dX11_thinks_72 : decode cX11_thinks 72 = .ok (.ldc2_w 120, 3) := by decide +kernel
theorem dX11_thinks_75 : decode cX11_thinks 75 = .ok (.lreturn, 1) := by decide +kernel
theorem dX11_thinks_76 : decode cX11_thinks 76 = .ok (.aload_n 0, 1) := by decide +kernel
theorem dX11_thinks_77 : decode cX11_thinks 77 = .ok (.getfield 26, 3) := by decide +kernel
theorem dX11_thinks_80 : decode cX11_thinks 80 = .ok (.iload_n 1, 1) := by decide +kernel
theorem dX11_thinks_81 : decode cX11_thinks 81 = .ok (.iload_n 2, 1) := by decide +kernel
theorem dX11_thinks_82 : decode cX11_thinks 82 = .ok (.iload_n 3, 1) := by decide +kernel
theorem dX11_thinks_83 : decode cX11_thinks 83 = .ok (.invokevirtual 122, 3) := by decide +kernel
theorem dX11_thinks_86 : decode cX11_thinks 86 = .ok (.lload 5, 2) := by decide +kernel
theorem dX11_thinks_88 : decode cX11_thinks 88 = .ok (.iload 4, 2) := by decide +kernel
theorem dX11_thinks_90 : decode cX11_thinks 90 = .ok (.invokestatic 126, 3) := by decide +kernel
theorem dX11_thinks_93 : decode cX11_thinks 93 = .ok (.lreturn, 1) := by decide +kernel
theorem kw_17 : (.constantLong RX11 112 (-101) : Cond) ∈ gw_tbl := gw_in (by decide +kernel) (by decide +kernel)

set_option maxHeartbeats 4000000 in
set_option maxRecDepth 100000 in
theorem x_thinks (l : Launch) (D : va_G) (x0 : Nat) (pg : Nat) (rd : Nat) (aq : Nat) (py : Nat) (pl : Nat) (ch : Nat) (ro : Nat) (a1 : Nat) (a2 : Nat) (a3 : Nat) (a4 : Nat) (p1 : Int32) (p2 : Int32) (p3 : Int32) (p4 : Int32) : Met l yX11_thinks (Cond.code yX11_thinks cX11_thinks 7 (some .long) :: gw_tbl) ({ frames := 1, cells := 0, slots := 0, locals := 21 }) (pc_S D [] [(x0, .inr (11, [.ref pg, .ref rd, .ref aq, .ref py, .ref pl, .ref ch, .ref ro, .int 0, .int 0])), (aq, .inr (5, [.ref a1, .ref a2, .ref a3, .ref a4, .int 0, .int 0, .long 0]))] [.ref x0, .int p1, .int p2, .int p3, .int p4]) (vp_Sl (fun r => r = (-101))) 0 0 (fun _ => False) := by
  refine Met.ofW (cc := cX11_thinks) (maxL := 7) (ret := (some .long)) (by decide) rfl ?_
  intro p e s m args below meth c s₁ B hml hv
  obtain ⟨hargs, hP, hK⟩ := hv
  have hx := B.exec
  have hb := B.bytes
  have hr := B.returns
  have hts := atoms_spec (ws := Cond.code yX11_thinks cX11_thinks 7 (some .long) :: gw_tbl) B.pre
  have hg := fun (w : Cond) (h : w ∈ gw_tbl) => hts w (List.mem_cons_of_mem _ h)
  have hown : s.vm.findClass RX11 = some m.cls := findClass_of_methodNamed B.named
  have hlocks := B.notSynchronized
  have hl := lv_entry ([.ref x0, .int p1, .int p2, .int p3, .int p4]) (n := 7) (Nat.le_of_ble_eq_true rfl)
  rw [show entryFrame m args 7 = F0 m 0 (lg_sl ([.ref x0, .int p1, .int p2, .int p3, .int p4]) ++ List.replicate (7 - (lg_sl ([.ref x0, .int p1, .int p2, .int p3, .int p4])).length) Slot.unset).toArray [] from by rw [hargs]; exact lg_entry_eq ..]
  generalize (lg_sl ([.ref x0, .int p1, .int p2, .int p3, .int p4]) ++ List.replicate (7 - (lg_sl ([.ref x0, .int p1, .int p2, .int p3, .int p4])).length) Slot.unset).toArray = ls at hl ⊢
  have hl : lv_has ls 7 [(0, .ref x0), (1, .int p1), (2, .int p2), (3, .int p3), (4, .int p4)] := hl
  refine W_genQ (fun Q hQ => ?_)
  refine lv_aload_n hx hb dX11_thinks_0 rfl (lv_at hl 0 rfl) ?_
  refine va_get (D := D) (ci := 11) (v := .ref aq) (C := RX11) (T := TX11) (N := 9) hx hb hg gwX11 hown hK hP 0 rfl rfl 2 (by decide) (hg _ kw_7) (fun _ h9 => h9) rfl dX11_thinks_1 ?_
  refine lv_iload_n hx hb dX11_thinks_4 rfl (lv_at hl 1 rfl) ?_
  have hPc := hP.sub (ws' := [(aq, .inr (5, [.ref a1, .ref a2, .ref a3, .ref a4, .int 0, .int 0, .long 0]))]) [1] rfl
  have hKc := hK.sub (tys' := []) [] rfl
  refine vp_callSi (W.runV (As := [.int p1]) (rest := []) ⟨hx, hb, hml, hown, hg⟩ (q_hasPerson l D aq a1 a2 a3 a4 p1) (cwV 1 hg (gw_V kw_14 kw_15 kw_16 kw_12 kw_13) rfl rfl rfl (by decide +kernel) ⟨Nat.le_of_ble_eq_true rfl, Nat.le_of_ble_eq_true rfl⟩) (pr_SV (q := (RX5, TX5, 7)) 5 0 hKc hPc rfl rfl) rfl rfl hl.1 rfl (lv_room (Nat.le_of_ble_eq_true rfl)) dX11_thinks_5 ⟨Nat.le_of_ble_eq_true rfl, Nat.le_of_ble_eq_true rfl⟩) (fun r_5 h_5 => ?_)
  obtain rfl : r_5 = (0 : Int32) := h_5
  refine lv_if_eq (tgt := 27) hx hb dX11_thinks_8 (by decide) (fun c_8 => ?_) (fun c_8 => absurd c_8 (by decide))
  refine lv_ldc2 hx hb hown (hg _ kw_17) dX11_thinks_27 ?_
  subst hQ
  exact W.lret (v := (-101)) hx hb hr (fun t ht hW => ⟨(-101), rfl, rfl, ht⟩) (fun _ h => absurd h List.not_mem_nil) dX11_thinks_30

theorem dX11_as_0 : decode cX11_as 0 = .ok (.aload_n 0, 1) := by decide +kernel
theorem dX11_as_1 : decode cX11_as 1 = .ok (.iload_n 1, 1) := by decide +kernel
theorem dX11_as_2 : decode cX11_as 2 = .ok (.invokevirtual 145, 3) := by decide +kernel
theorem dX11_as_5 : decode cX11_as 5 = .ok (.astore_n 3, 1) := by decide +kernel
theorem dX11_as_6 : decode cX11_as 6 = .ok (.aload_n 3, 1) := by decide +kernel
theorem dX11_as_7 : decode cX11_as 7 = .ok (.ifnonnull 6, 3) := by decide +kernel
theorem dX11_as_10 : decode cX11_as 10 = .ok (.bipush (-101), 2) := by decide +kernel
theorem dX11_as_12 : decode cX11_as 12 = .ok (.ireturn, 1) := by decide +kernel
theorem dX11_as_13 : decode cX11_as 13 = .ok (.iload_n 2, 1) := by decide +kernel
theorem dX11_as_14 : decode cX11_as 14 = .ok (.iconst 0, 1) := by decide +kernel
theorem dX11_as_15 : decode cX11_as 15 = .ok (.iconst 4, 1) := by decide +kernel
theorem dX11_as_16 : decode cX11_as 16 = .ok (.invokestatic 105, 3) := by decide +kernel
theorem dX11_as_19 : decode cX11_as 19 = .ok (.ifCond .ne 6, 3) := by decide +kernel
theorem dX11_as_22 : decode cX11_as 22 = .ok (.bipush (-102), 2) := by decide +kernel
theorem dX11_as_24 : decode cX11_as 24 = .ok (.ireturn, 1) := by decide +kernel
theorem dX11_as_25 : decode cX11_as 25 = .ok (.aload_n 3, 1) := by decide +kernel
theorem dX11_as_26 : decode cX11_as 26 = .ok (.iload_n 2, 1) := by decide +kernel
theorem dX11_as_27 : decode cX11_as 27 = .ok (.invokestatic 148, 3) := by decide +kernel
theorem dX11_as_30 : decode cX11_as 30 = .ok (.ifCond .eq 7, 3) := by decide +kernel
theorem dX11_as_33 : decode cX11_as 33 = .ok (.iload_n 1, 1) := by decide +kernel
theorem dX11_as_34 : decode cX11_as 34 = .ok (.goto 4, 3) := by decide +kernel
theorem dX11_as_37 : decode cX11_as 37 = .ok (.iconst (-1), 1) := by decide +kernel
theorem dX11_as_38 : decode cX11_as 38 = .ok (.ireturn, 1) := by decide +kernel
theorem kw_18 : (.code yX11_payOf cX11_payOf 2 (some (.object "NobodyChecks$Pay")) : Cond) ∈ gw_tbl := gw_in (by decide +kernel) (by decide +kernel)
theorem kw_19 : (.methodLink RX11 145 yX11_payOf : Cond) ∈ gw_tbl := gw_in (by decide +kernel) (by decide +kernel)
theorem kw_20 : (.instanceMethod yX11_payOf : Cond) ∈ gw_tbl := gw_in (by decide +kernel) (by decide +kernel)
theorem kw_21 : (.selects RX11 yX11_payOf yX11_payOf : Cond) ∈ gw_tbl := gw_in (by decide +kernel) (by decide +kernel)

set_option maxHeartbeats 4000000 in
set_option maxRecDepth 100000 in
theorem x_as (l : Launch) (D : va_G) (x0 : Nat) (pg : Nat) (rd : Nat) (aq : Nat) (py : Nat) (pl : Nat) (ch : Nat) (ro : Nat) (p1 : Int32) (p2 : Int32) : Met l yX11_as (Cond.code yX11_as cX11_as 4 (some .int) :: gw_tbl) ({ frames := 2, cells := 0, slots := 0, locals := 43 }) (pc_S D [] [(x0, .inr (11, [.ref pg, .ref rd, .ref aq, .ref py, .ref pl, .ref ch, .ref ro, .int 0, .int 0]))] [.ref x0, .int p1, .int p2]) (vp_Si (fun r => r = (-101))) 0 0 (fun _ => False) := by
  refine Met.ofW (cc := cX11_as) (maxL := 4) (ret := (some .int)) (by decide) rfl ?_
  intro p e s m args below meth c s₁ B hml hv
  obtain ⟨hargs, hP, hK⟩ := hv
  have hx := B.exec
  have hb := B.bytes
  have hr := B.returns
  have hts := atoms_spec (ws := Cond.code yX11_as cX11_as 4 (some .int) :: gw_tbl) B.pre
  have hg := fun (w : Cond) (h : w ∈ gw_tbl) => hts w (List.mem_cons_of_mem _ h)
  have hown : s.vm.findClass RX11 = some m.cls := findClass_of_methodNamed B.named
  have hlocks := B.notSynchronized
  have hl := lv_entry ([.ref x0, .int p1, .int p2]) (n := 4) (Nat.le_of_ble_eq_true rfl)
  rw [show entryFrame m args 4 = F0 m 0 (lg_sl ([.ref x0, .int p1, .int p2]) ++ List.replicate (4 - (lg_sl ([.ref x0, .int p1, .int p2])).length) Slot.unset).toArray [] from by rw [hargs]; exact lg_entry_eq ..]
  generalize (lg_sl ([.ref x0, .int p1, .int p2]) ++ List.replicate (4 - (lg_sl ([.ref x0, .int p1, .int p2])).length) Slot.unset).toArray = ls at hl ⊢
  have hl : lv_has ls 4 [(0, .ref x0), (1, .int p1), (2, .int p2)] := hl
  refine W_genQ (fun Q hQ => ?_)
  refine lv_aload_n hx hb dX11_as_0 rfl (lv_at hl 0 rfl) ?_
  refine lv_iload_n hx hb dX11_as_1 rfl (lv_at hl 1 rfl) ?_
  have hPc := hP.sub (ws' := [(x0, .inr (11, [.ref pg, .ref rd, .ref aq, .ref py, .ref pl, .ref ch, .ref ro, .int 0, .int 0]))]) [0] rfl
  have hKc := hK.sub (tys' := []) [] rfl
  refine va_csq (W.runV (As := [.int p1]) (rest := []) ⟨hx, hb, hml, hown, hg⟩ (x_payOf l D x0 pg rd aq py pl ch ro p1) (cwV 1 hg (gw_V kw_19 kw_20 kw_21 kw_6 kw_18) rfl rfl rfl (by decide +kernel) ⟨Nat.le_of_ble_eq_true rfl, Nat.le_of_ble_eq_true rfl⟩) (pr_SV (q := (RX11, TX11, 9)) 11 0 hKc hPc rfl rfl) rfl rfl hl.1 rfl (lv_room (Nat.le_of_ble_eq_true rfl)) dX11_as_2 ⟨Nat.le_of_ble_eq_true rfl, Nat.le_of_ble_eq_true rfl⟩) (fun r_2 h_2 => ?_)
  obtain rfl : r_2 = none := h_2
  refine W.eq (g2 := F0 m 5 ls [.null]) rfl ?_
  refine lv_astore_nN (lv' := [(3, .null), (0, .ref x0), (1, .int p1), (2, .int p2)]) hx hb dX11_as_5 rfl hl (by decide) rfl (fun ls hl => ?_)
  refine lv_aload_nN hx hb dX11_as_6 rfl (lv_at hl 0 rfl) ?_
  refine lv_ifnonnullN hx hb dX11_as_7 ?_
  refine lv_bipush (v := (-101)) hx hb dX11_as_10 (by decide) ?_
  subst hQ
  exact W.iret (v := (-101)) hx hb hr (fun t ht hW => ⟨(-101), rfl, rfl, ht⟩) (fun _ h => absurd h List.not_mem_nil) dX11_as_12

theorem dX11_about_0 : decode cX11_about 0 = .ok (.aload_n 0, 1) := by decide +kernel
theorem dX11_about_1 : decode cX11_about 1 = .ok (.iload_n 1, 1) := by decide +kernel
theorem dX11_about_2 : decode cX11_about 2 = .ok (.invokevirtual 145, 3) := by decide +kernel
theorem dX11_about_5 : decode cX11_about 5 = .ok (.astore_n 3, 1) := by decide +kernel
theorem dX11_about_6 : decode cX11_about 6 = .ok (.aload_n 3, 1) := by decide +kernel
theorem dX11_about_7 : decode cX11_about 7 = .ok (.ifnonnull 6, 3) := by decide +kernel
theorem dX11_about_10 : decode cX11_about 10 = .ok (.bipush (-101), 2) := by decide +kernel
theorem dX11_about_12 : decode cX11_about 12 = .ok (.ireturn, 1) := by decide +kernel
theorem dX11_about_13 : decode cX11_about 13 = .ok (.iload_n 2, 1) := by decide +kernel
theorem dX11_about_14 : decode cX11_about 14 = .ok (.iconst 0, 1) := by decide +kernel
theorem dX11_about_15 : decode cX11_about 15 = .ok (.iconst 4, 1) := by decide +kernel
theorem dX11_about_16 : decode cX11_about 16 = .ok (.invokestatic 105, 3) := by decide +kernel
theorem dX11_about_19 : decode cX11_about 19 = .ok (.ifCond .ne 6, 3) := by decide +kernel
theorem dX11_about_22 : decode cX11_about 22 = .ok (.bipush (-102), 2) := by decide +kernel
theorem dX11_about_24 : decode cX11_about 24 = .ok (.ireturn, 1) := by decide +kernel
theorem dX11_about_25 : decode cX11_about 25 = .ok (.iload_n 2, 1) := by decide +kernel
theorem dX11_about_26 : decode cX11_about 26 = .ok (.iconst 4, 1) := by decide +kernel
theorem dX11_about_27 : decode cX11_about 27 = .ok (.if_icmp .ne 10, 3) := by decide +kernel
theorem dX11_about_30 : decode cX11_about 30 = .ok (.aload_n 3, 1) := by decide +kernel
theorem dX11_about_31 : decode cX11_about 31 = .ok (.invokevirtual 152, 3) := by decide +kernel
theorem dX11_about_34 : decode cX11_about 34 = .ok (.goto 9, 3) := by decide +kernel
theorem dX11_about_37 : decode cX11_about 37 = .ok (.aload_n 3, 1) := by decide +kernel
theorem dX11_about_38 : decode cX11_about 38 = .ok (.getfield 156, 3) := by decide +kernel
theorem dX11_about_41 : decode cX11_about 41 = .ok (.iload_n 2, 1) := by decide +kernel
theorem dX11_about_42 : decode cX11_about 42 = .ok (.iaload, 1) := by decide +kernel
theorem dX11_about_43 : decode cX11_about 43 = .ok (.ireturn, 1) := by decide +kernel

set_option maxHeartbeats 4000000 in
set_option maxRecDepth 100000 in
theorem x_about (l : Launch) (D : va_G) (x0 : Nat) (pg : Nat) (rd : Nat) (aq : Nat) (py : Nat) (pl : Nat) (ch : Nat) (ro : Nat) (p1 : Int32) (p2 : Int32) : Met l yX11_about (Cond.code yX11_about cX11_about 4 (some .int) :: gw_tbl) ({ frames := 2, cells := 0, slots := 0, locals := 43 }) (pc_S D [] [(x0, .inr (11, [.ref pg, .ref rd, .ref aq, .ref py, .ref pl, .ref ch, .ref ro, .int 0, .int 0]))] [.ref x0, .int p1, .int p2]) (vp_Si (fun r => r = (-101))) 0 0 (fun _ => False) := by
  refine Met.ofW (cc := cX11_about) (maxL := 4) (ret := (some .int)) (by decide) rfl ?_
  intro p e s m args below meth c s₁ B hml hv
  obtain ⟨hargs, hP, hK⟩ := hv
  have hx := B.exec
  have hb := B.bytes
  have hr := B.returns
  have hts := atoms_spec (ws := Cond.code yX11_about cX11_about 4 (some .int) :: gw_tbl) B.pre
  have hg := fun (w : Cond) (h : w ∈ gw_tbl) => hts w (List.mem_cons_of_mem _ h)
  have hown : s.vm.findClass RX11 = some m.cls := findClass_of_methodNamed B.named
  have hlocks := B.notSynchronized
  have hl := lv_entry ([.ref x0, .int p1, .int p2]) (n := 4) (Nat.le_of_ble_eq_true rfl)
  rw [show entryFrame m args 4 = F0 m 0 (lg_sl ([.ref x0, .int p1, .int p2]) ++ List.replicate (4 - (lg_sl ([.ref x0, .int p1, .int p2])).length) Slot.unset).toArray [] from by rw [hargs]; exact lg_entry_eq ..]
  generalize (lg_sl ([.ref x0, .int p1, .int p2]) ++ List.replicate (4 - (lg_sl ([.ref x0, .int p1, .int p2])).length) Slot.unset).toArray = ls at hl ⊢
  have hl : lv_has ls 4 [(0, .ref x0), (1, .int p1), (2, .int p2)] := hl
  refine W_genQ (fun Q hQ => ?_)
  refine lv_aload_n hx hb dX11_about_0 rfl (lv_at hl 0 rfl) ?_
  refine lv_iload_n hx hb dX11_about_1 rfl (lv_at hl 1 rfl) ?_
  have hPc := hP.sub (ws' := [(x0, .inr (11, [.ref pg, .ref rd, .ref aq, .ref py, .ref pl, .ref ch, .ref ro, .int 0, .int 0]))]) [0] rfl
  have hKc := hK.sub (tys' := []) [] rfl
  refine va_csq (W.runV (As := [.int p1]) (rest := []) ⟨hx, hb, hml, hown, hg⟩ (x_payOf l D x0 pg rd aq py pl ch ro p1) (cwV 1 hg (gw_V kw_19 kw_20 kw_21 kw_6 kw_18) rfl rfl rfl (by decide +kernel) ⟨Nat.le_of_ble_eq_true rfl, Nat.le_of_ble_eq_true rfl⟩) (pr_SV (q := (RX11, TX11, 9)) 11 0 hKc hPc rfl rfl) rfl rfl hl.1 rfl (lv_room (Nat.le_of_ble_eq_true rfl)) dX11_about_2 ⟨Nat.le_of_ble_eq_true rfl, Nat.le_of_ble_eq_true rfl⟩) (fun r_2 h_2 => ?_)
  obtain rfl : r_2 = none := h_2
  refine W.eq (g2 := F0 m 5 ls [.null]) rfl ?_
  refine lv_astore_nN (lv' := [(3, .null), (0, .ref x0), (1, .int p1), (2, .int p2)]) hx hb dX11_about_5 rfl hl (by decide) rfl (fun ls hl => ?_)
  refine lv_aload_nN hx hb dX11_about_6 rfl (lv_at hl 0 rfl) ?_
  refine lv_ifnonnullN hx hb dX11_about_7 ?_
  refine lv_bipush (v := (-101)) hx hb dX11_about_10 (by decide) ?_
  subst hQ
  exact W.iret (v := (-101)) hx hb hr (fun t ht hW => ⟨(-101), rfl, rfl, ht⟩) (fun _ h => absurd h List.not_mem_nil) dX11_about_12

theorem dX11_gets_0 : decode cX11_gets 0 = .ok (.aload_n 0, 1) := by decide +kernel
theorem dX11_gets_1 : decode cX11_gets 1 = .ok (.iload_n 1, 1) := by decide +kernel
theorem dX11_gets_2 : decode cX11_gets 2 = .ok (.invokevirtual 145, 3) := by decide +kernel
theorem dX11_gets_5 : decode cX11_gets 5 = .ok (.astore 4, 2) := by decide +kernel
theorem dX11_gets_7 : decode cX11_gets 7 = .ok (.aload 4, 2) := by decide +kernel
theorem dX11_gets_9 : decode cX11_gets 9 = .ok (.ifnull 14, 3) := by decide +kernel
theorem dX11_gets_12 : decode cX11_gets 12 = .ok (.aload_n 0, 1) := by decide +kernel
theorem dX11_gets_13 : decode cX11_gets 13 = .ok (.getfield 26, 3) := by decide +kernel
theorem dX11_gets_16 : decode cX11_gets 16 = .ok (.iload_n 2, 1) := by decide +kernel
theorem dX11_gets_17 : decode cX11_gets 17 = .ok (.invokevirtual 98, 3) := by decide +kernel
theorem dX11_gets_20 : decode cX11_gets 20 = .ok (.ifCond .ne 6, 3) := by decide +kernel
theorem dX11_gets_23 : decode cX11_gets 23 = .ok (.bipush (-101), 2) := by decide +kernel
theorem dX11_gets_25 : decode cX11_gets 25 = .ok (.ireturn, 1) := by decide +kernel
theorem dX11_gets_26 : decode cX11_gets 26 = .ok (.iload_n 3, 1) := by decide +kernel
theorem dX11_gets_27 : decode cX11_gets 27 = .ok (.iconst 0, 1) := by decide +kernel
theorem dX11_gets_28 : decode cX11_gets 28 = .ok (.aload_n 0, 1) := by decide +kernel
theorem dX11_gets_29 : decode cX11_gets 29 = .ok (.getfield 26, 3) := by decide +kernel
theorem dX11_gets_32 : decode cX11_gets 32 = .ok (.invokevirtual 159, 3) := by decide +kernel
theorem dX11_gets_35 : decode cX11_gets 35 = .ok (.iconst 1, 1) := by decide +kernel
theorem dX11_gets_36 : decode cX11_gets 36 = .ok (.isub, 1) := by decide +kernel
theorem dX11_gets_37 : decode cX11_gets 37 = .ok (.invokestatic 105, 3) := by decide +kernel
theorem dX11_gets_40 : decode cX11_gets 40 = .ok (.ifCond .ne 6, 3) := by decide +kernel
theorem dX11_gets_43 : decode cX11_gets 43 = .ok (.bipush (-102), 2) := by decide +kernel
theorem dX11_gets_45 : decode cX11_gets 45 = .ok (.ireturn, 1) := by decide +kernel
theorem dX11_gets_46 : decode cX11_gets 46 = .ok (.iload_n 3, 1) := by decide +kernel
theorem dX11_gets_47 : decode cX11_gets 47 = .ok (.iload_n 2, 1) := by decide +kernel
theorem dX11_gets_48 : decode cX11_gets 48 = .ok (.ishr, 1) := by decide +kernel
theorem dX11_gets_49 : decode cX11_gets 49 = .ok (.iconst 1, 1) := by decide +kernel
theorem dX11_gets_50 : decode cX11_gets 50 = .ok (.iand, 1) := by decide +kernel
theorem dX11_gets_51 : decode cX11_gets 51 = .ok (.istore 5, 2) := by decide +kernel
theorem dX11_gets_53 : decode cX11_gets 53 = .ok (.iload_n 3, 1) := by decide +kernel
theorem dX11_gets_54 : decode cX11_gets 54 = .ok (.invokestatic 162, 3) := by decide +kernel
theorem dX11_gets_57 : decode cX11_gets 57 = .ok (.iload 5, 2) := by decide +kernel
theorem dX11_gets_59 : decode cX11_gets 59 = .ok (.isub, 1) := by decide +kernel
theorem dX11_gets_60 : decode cX11_gets 60 = .ok (.istore 6, 2) := by decide +kernel
theorem dX11_gets_62 : decode cX11_gets 62 = .ok (.aload 4, 2) := by decide +kernel
theorem dX11_gets_64 : decode cX11_gets 64 = .ok (.iload 5, 2) := by decide +kernel
theorem dX11_gets_66 : decode cX11_gets 66 = .ok (.aload_n 0, 1) := by decide +kernel
theorem dX11_gets_67 : decode cX11_gets 67 = .ok (.getfield 26, 3) := by decide +kernel
theorem dX11_gets_70 : decode cX11_gets 70 = .ok (.getfield 87, 3) := by decide +kernel
theorem dX11_gets_73 : decode cX11_gets 73 = .ok (.iconst 1, 1) := by decide +kernel
theorem dX11_gets_74 : decode cX11_gets 74 = .ok (.isub, 1) := by decide +kernel
theorem dX11_gets_75 : decode cX11_gets 75 = .ok (.iload 6, 2) := by decide +kernel
theorem dX11_gets_77 : decode cX11_gets 77 = .ok (.isub, 1) := by decide +kernel
theorem dX11_gets_78 : decode cX11_gets 78 = .ok (.iload 6, 2) := by decide +kernel
theorem dX11_gets_80 : decode cX11_gets 80 = .ok (.invokevirtual 168, 3) := by decide +kernel
theorem dX11_gets_83 : decode cX11_gets 83 = .ok (.ireturn, 1) := by decide +kernel

set_option maxHeartbeats 4000000 in
set_option maxRecDepth 100000 in
theorem x_gets (l : Launch) (D : va_G) (x0 : Nat) (pg : Nat) (rd : Nat) (aq : Nat) (py : Nat) (pl : Nat) (ch : Nat) (ro : Nat) (p1 : Int32) (p2 : Int32) (p3 : Int32) : Met l yX11_gets (Cond.code yX11_gets cX11_gets 7 (some .int) :: gw_tbl) ({ frames := 2, cells := 0, slots := 0, locals := 43 }) (pc_S D [] [(x0, .inr (11, [.ref pg, .ref rd, .ref aq, .ref py, .ref pl, .ref ch, .ref ro, .int 0, .int 0]))] [.ref x0, .int p1, .int p2, .int p3]) (vp_Si (fun r => r = (-101))) 0 0 (fun _ => False) := by
  refine Met.ofW (cc := cX11_gets) (maxL := 7) (ret := (some .int)) (by decide) rfl ?_
  intro p e s m args below meth c s₁ B hml hv
  obtain ⟨hargs, hP, hK⟩ := hv
  have hx := B.exec
  have hb := B.bytes
  have hr := B.returns
  have hts := atoms_spec (ws := Cond.code yX11_gets cX11_gets 7 (some .int) :: gw_tbl) B.pre
  have hg := fun (w : Cond) (h : w ∈ gw_tbl) => hts w (List.mem_cons_of_mem _ h)
  have hown : s.vm.findClass RX11 = some m.cls := findClass_of_methodNamed B.named
  have hlocks := B.notSynchronized
  have hl := lv_entry ([.ref x0, .int p1, .int p2, .int p3]) (n := 7) (Nat.le_of_ble_eq_true rfl)
  rw [show entryFrame m args 7 = F0 m 0 (lg_sl ([.ref x0, .int p1, .int p2, .int p3]) ++ List.replicate (7 - (lg_sl ([.ref x0, .int p1, .int p2, .int p3])).length) Slot.unset).toArray [] from by rw [hargs]; exact lg_entry_eq ..]
  generalize (lg_sl ([.ref x0, .int p1, .int p2, .int p3]) ++ List.replicate (7 - (lg_sl ([.ref x0, .int p1, .int p2, .int p3])).length) Slot.unset).toArray = ls at hl ⊢
  have hl : lv_has ls 7 [(0, .ref x0), (1, .int p1), (2, .int p2), (3, .int p3)] := hl
  refine W_genQ (fun Q hQ => ?_)
  refine lv_aload_n hx hb dX11_gets_0 rfl (lv_at hl 0 rfl) ?_
  refine lv_iload_n hx hb dX11_gets_1 rfl (lv_at hl 1 rfl) ?_
  have hPc := hP.sub (ws' := [(x0, .inr (11, [.ref pg, .ref rd, .ref aq, .ref py, .ref pl, .ref ch, .ref ro, .int 0, .int 0]))]) [0] rfl
  have hKc := hK.sub (tys' := []) [] rfl
  refine va_csq (W.runV (As := [.int p1]) (rest := []) ⟨hx, hb, hml, hown, hg⟩ (x_payOf l D x0 pg rd aq py pl ch ro p1) (cwV 1 hg (gw_V kw_19 kw_20 kw_21 kw_6 kw_18) rfl rfl rfl (by decide +kernel) ⟨Nat.le_of_ble_eq_true rfl, Nat.le_of_ble_eq_true rfl⟩) (pr_SV (q := (RX11, TX11, 9)) 11 0 hKc hPc rfl rfl) rfl rfl hl.1 rfl (lv_room (Nat.le_of_ble_eq_true rfl)) dX11_gets_2 ⟨Nat.le_of_ble_eq_true rfl, Nat.le_of_ble_eq_true rfl⟩) (fun r_2 h_2 => ?_)
  obtain rfl : r_2 = none := h_2
  refine W.eq (g2 := F0 m 5 ls [.null]) rfl ?_
  refine lv_astoreN (lv' := [(4, .null), (0, .ref x0), (1, .int p1), (2, .int p2), (3, .int p3)]) hx hb dX11_gets_5 hl (by decide) rfl (fun ls hl => ?_)
  refine lv_aloadN hx hb dX11_gets_7 (lv_at hl 0 rfl) ?_
  refine lv_ifnullN (tgt := 23) hx hb dX11_gets_9 (by decide) ?_
  refine lv_bipush (v := (-101)) hx hb dX11_gets_23 (by decide) ?_
  subst hQ
  exact W.iret (v := (-101)) hx hb hr (fun t ht hW => ⟨(-101), rfl, rfl, ht⟩) (fun _ h => absurd h List.not_mem_nil) dX11_gets_25

theorem dX11_worth_0 : decode cX11_worth 0 = .ok (.aload_n 0, 1) := by decide +kernel
theorem dX11_worth_1 : decode cX11_worth 1 = .ok (.iload_n 1, 1) := by decide +kernel
theorem dX11_worth_2 : decode cX11_worth 2 = .ok (.invokevirtual 145, 3) := by decide +kernel
theorem dX11_worth_5 : decode cX11_worth 5 = .ok (.astore 5, 2) := by decide +kernel
theorem dX11_worth_7 : decode cX11_worth 7 = .ok (.aload 5, 2) := by decide +kernel
theorem dX11_worth_9 : decode cX11_worth 9 = .ok (.ifnull 14, 3) := by decide +kernel
theorem dX11_worth_12 : decode cX11_worth 12 = .ok (.aload_n 0, 1) := by decide +kernel
theorem dX11_worth_13 : decode cX11_worth 13 = .ok (.getfield 26, 3) := by decide +kernel
theorem dX11_worth_16 : decode cX11_worth 16 = .ok (.iload_n 3, 1) := by decide +kernel
theorem dX11_worth_17 : decode cX11_worth 17 = .ok (.invokevirtual 98, 3) := by decide +kernel
theorem dX11_worth_20 : decode cX11_worth 20 = .ok (.ifCond .ne 7, 3) := by decide +kernel
theorem dX11_worth_23 : decode cX11_worth 23 = .ok (.ldc2_w 172, 3) := by decide +kernel
theorem dX11_worth_26 : decode cX11_worth 26 = .ok (.lreturn, 1) := by decide +kernel
theorem dX11_worth_27 : decode cX11_worth 27 = .ok (.aload_n 0, 1) := by decide +kernel
theorem dX11_worth_28 : decode cX11_worth 28 = .ok (.getfield 26, 3) := by decide +kernel
theorem dX11_worth_31 : decode cX11_worth 31 = .ok (.iload_n 2, 1) := by decide +kernel
theorem dX11_worth_32 : decode cX11_worth 32 = .ok (.invokevirtual 174, 3) := by decide +kernel
theorem dX11_worth_35 : decode cX11_worth 35 = .ok (.ifCond .eq 13, 3) := by decide +kernel
theorem dX11_worth_38 : decode cX11_worth 38 = .ok (.iload 4, 2) := by decide +kernel
theorem dX11_worth_40 : decode cX11_worth 40 = .ok (.iconst 0, 1) := by decide +kernel
theorem dX11_worth_41 : decode cX11_worth 41 = .ok (.iconst 1, 1) := by decide +kernel
theorem dX11_worth_42 : decode cX11_worth 42 = .ok (.invokestatic 105, 3) := by decide +kernel
theorem dX11_worth_45 : decode cX11_worth 45 = .ok (.ifCond .ne 7, 3) := by decide +kernel
theorem dX11_worth_48 : decode cX11_worth 48 = .ok (.ldc2_w 177, 3) := by decide +kernel
theorem dX11_worth_51 : decode cX11_worth 51 = .ok (.lreturn, 1) := by decide +kernel
theorem dX11_worth_52 : decode cX11_worth 52 = .ok (.aload_n 0, 1) := by decide +kernel
theorem dX11_worth_53 : decode cX11_worth 53 = .ok (.getfield 41, 3) := by decide +kernel
theorem dX11_worth_56 : decode cX11_worth 56 = .ok (.aload 5, 2) := by decide +kernel
theorem dX11_worth_58 : decode cX11_worth 58 = .ok (.invokevirtual 179, 3) := by decide +kernel
theorem dX11_worth_61 : decode cX11_worth 61 = .ok (.aload_n 0, 1) := by decide +kernel
theorem dX11_worth_62 : decode cX11_worth 62 = .ok (.getfield 41, 3) := by decide +kernel
theorem dX11_worth_65 : decode cX11_worth 65 = .ok (.iload_n 2, 1) := by decide +kernel
theorem dX11_worth_66 : decode cX11_worth 66 = .ok (.iload_n 3, 1) := by decide +kernel
theorem dX11_worth_67 : decode cX11_worth 67 = .ok (.invokevirtual 183, 3) := by decide +kernel
theorem dX11_worth_70 : decode cX11_worth 70 = .ok (.aload_n 0, 1) := by decide +kernel
theorem dX11_worth_71 : decode cX11_worth 71 = .ok (.getfield 41, 3) := by decide +kernel
theorem dX11_worth_74 : decode cX11_worth 74 = .ok (.getfield 186, 3) := by decide +kernel
theorem dX11_worth_77 : decode cX11_worth 77 = .ok (.iload 4, 2) := by decide +kernel
theorem dX11_worth_79 : decode cX11_worth 79 = .ok (.invokestatic 126, 3) := by decide +kernel
theorem dX11_worth_82 : decode cX11_worth 82 = .ok (.lreturn, 1) := by decide +kernel
theorem kw_22 : (.constantLong RX11 172 (-2000000000000000001) : Cond) ∈ gw_tbl := gw_in (by decide +kernel) (by decide +kernel)

set_option maxHeartbeats 4000000 in
set_option maxRecDepth 100000 in
theorem x_worth (l : Launch) (D : va_G) (x0 : Nat) (pg : Nat) (rd : Nat) (aq : Nat) (py : Nat) (pl : Nat) (ch : Nat) (ro : Nat) (p1 : Int32) (p2 : Int32) (p3 : Int32) (p4 : Int32) : Met l yX11_worth (Cond.code yX11_worth cX11_worth 6 (some .long) :: gw_tbl) ({ frames := 2, cells := 0, slots := 0, locals := 43 }) (pc_S D [] [(x0, .inr (11, [.ref pg, .ref rd, .ref aq, .ref py, .ref pl, .ref ch, .ref ro, .int 0, .int 0]))] [.ref x0, .int p1, .int p2, .int p3, .int p4]) (vp_Sl (fun r => r = (-2000000000000000001))) 0 0 (fun _ => False) := by
  refine Met.ofW (cc := cX11_worth) (maxL := 6) (ret := (some .long)) (by decide) rfl ?_
  intro p e s m args below meth c s₁ B hml hv
  obtain ⟨hargs, hP, hK⟩ := hv
  have hx := B.exec
  have hb := B.bytes
  have hr := B.returns
  have hts := atoms_spec (ws := Cond.code yX11_worth cX11_worth 6 (some .long) :: gw_tbl) B.pre
  have hg := fun (w : Cond) (h : w ∈ gw_tbl) => hts w (List.mem_cons_of_mem _ h)
  have hown : s.vm.findClass RX11 = some m.cls := findClass_of_methodNamed B.named
  have hlocks := B.notSynchronized
  have hl := lv_entry ([.ref x0, .int p1, .int p2, .int p3, .int p4]) (n := 6) (Nat.le_of_ble_eq_true rfl)
  rw [show entryFrame m args 6 = F0 m 0 (lg_sl ([.ref x0, .int p1, .int p2, .int p3, .int p4]) ++ List.replicate (6 - (lg_sl ([.ref x0, .int p1, .int p2, .int p3, .int p4])).length) Slot.unset).toArray [] from by rw [hargs]; exact lg_entry_eq ..]
  generalize (lg_sl ([.ref x0, .int p1, .int p2, .int p3, .int p4]) ++ List.replicate (6 - (lg_sl ([.ref x0, .int p1, .int p2, .int p3, .int p4])).length) Slot.unset).toArray = ls at hl ⊢
  have hl : lv_has ls 6 [(0, .ref x0), (1, .int p1), (2, .int p2), (3, .int p3), (4, .int p4)] := hl
  refine W_genQ (fun Q hQ => ?_)
  refine lv_aload_n hx hb dX11_worth_0 rfl (lv_at hl 0 rfl) ?_
  refine lv_iload_n hx hb dX11_worth_1 rfl (lv_at hl 1 rfl) ?_
  have hPc := hP.sub (ws' := [(x0, .inr (11, [.ref pg, .ref rd, .ref aq, .ref py, .ref pl, .ref ch, .ref ro, .int 0, .int 0]))]) [0] rfl
  have hKc := hK.sub (tys' := []) [] rfl
  refine va_csq (W.runV (As := [.int p1]) (rest := []) ⟨hx, hb, hml, hown, hg⟩ (x_payOf l D x0 pg rd aq py pl ch ro p1) (cwV 1 hg (gw_V kw_19 kw_20 kw_21 kw_6 kw_18) rfl rfl rfl (by decide +kernel) ⟨Nat.le_of_ble_eq_true rfl, Nat.le_of_ble_eq_true rfl⟩) (pr_SV (q := (RX11, TX11, 9)) 11 0 hKc hPc rfl rfl) rfl rfl hl.1 rfl (lv_room (Nat.le_of_ble_eq_true rfl)) dX11_worth_2 ⟨Nat.le_of_ble_eq_true rfl, Nat.le_of_ble_eq_true rfl⟩) (fun r_2 h_2 => ?_)
  obtain rfl : r_2 = none := h_2
  refine W.eq (g2 := F0 m 5 ls [.null]) rfl ?_
  refine lv_astoreN (lv' := [(5, .null), (0, .ref x0), (1, .int p1), (2, .int p2), (3, .int p3), (4, .int p4)]) hx hb dX11_worth_5 hl (by decide) rfl (fun ls hl => ?_)
  refine lv_aloadN hx hb dX11_worth_7 (lv_at hl 0 rfl) ?_
  refine lv_ifnullN (tgt := 23) hx hb dX11_worth_9 (by decide) ?_
  refine lv_ldc2 hx hb hown (hg _ kw_22) dX11_worth_23 ?_
  subst hQ
  exact W.lret (v := (-2000000000000000001)) hx hb hr (fun t ht hW => ⟨(-2000000000000000001), rfl, rfl, ht⟩) (fun _ h => absurd h List.not_mem_nil) dX11_worth_26

theorem dX11_rests_0 : decode cX11_rests 0 = .ok (.aload_n 0, 1) := by decide +kernel
theorem dX11_rests_1 : decode cX11_rests 1 = .ok (.iload_n 1, 1) := by decide +kernel
theorem dX11_rests_2 : decode cX11_rests 2 = .ok (.invokevirtual 145, 3) := by decide +kernel
theorem dX11_rests_5 : decode cX11_rests 5 = .ok (.astore 4, 2) := by decide +kernel
theorem dX11_rests_7 : decode cX11_rests 7 = .ok (.aload_n 0, 1) := by decide +kernel
theorem dX11_rests_8 : decode cX11_rests 8 = .ok (.aload 4, 2) := by decide +kernel
theorem dX11_rests_10 : decode cX11_rests 10 = .ok (.iload_n 2, 1) := by decide +kernel
theorem dX11_rests_11 : decode cX11_rests 11 = .ok (.iload_n 3, 1) := by decide +kernel
theorem dX11_rests_12 : decode cX11_rests 12 = .ok (.iconst 2, 1) := by decide +kernel
theorem dX11_rests_13 : decode cX11_rests 13 = .ok (.invokevirtual 190, 3) := by decide +kernel
theorem dX11_rests_16 : decode cX11_rests 16 = .ok (.istore 5, 2) := by decide +kernel
theorem dX11_rests_18 : decode cX11_rests 18 = .ok (.aload 4, 2) := by decide +kernel
theorem dX11_rests_20 : decode cX11_rests 20 = .ok (.ifnull 8, 3) := by decide +kernel
theorem dX11_rests_23 : decode cX11_rests 23 = .ok (.iload 5, 2) := by decide +kernel
theorem dX11_rests_25 : decode cX11_rests 25 = .ok (.ifCond .eq 6, 3) := by decide +kernel
theorem dX11_rests_28 : decode cX11_rests 28 = .ok (.iload 5, 2) := by decide +kernel
theorem dX11_rests_30 : decode cX11_rests 30 = .ok (.ireturn, 1) := by decide +kernel
theorem dX11_rests_31 : decode cX11_rests 31 = .ok (.aload_n 0, 1) := by decide +kernel
theorem dX11_rests_32 : decode cX11_rests 32 = .ok (.getfield 41, 3) := by decide +kernel
theorem dX11_rests_35 : decode cX11_rests 35 = .ok (.aload 4, 2) := by decide +kernel
theorem dX11_rests_37 : decode cX11_rests 37 = .ok (.invokevirtual 179, 3) := by decide +kernel
theorem dX11_rests_40 : decode cX11_rests 40 = .ok (.aload_n 0, 1) := by decide +kernel
theorem dX11_rests_41 : decode cX11_rests 41 = .ok (.getfield 41, 3) := by decide +kernel
theorem dX11_rests_44 : decode cX11_rests 44 = .ok (.iload_n 2, 1) := by decide +kernel
theorem dX11_rests_45 : decode cX11_rests 45 = .ok (.invokevirtual 194, 3) := by decide +kernel
theorem dX11_rests_48 : decode cX11_rests 48 = .ok (.istore 6, 2) := by decide +kernel
theorem dX11_rests_50 : decode cX11_rests 50 = .ok (.iload_n 3, 1) := by decide +kernel
theorem dX11_rests_51 : decode cX11_rests 51 = .ok (.ifCond .ne 15, 3) := by decide +kernel
theorem dX11_rests_54 : decode cX11_rests 54 = .ok (.iload 6, 2) := by decide +kernel
theorem dX11_rests_56 : decode cX11_rests 56 = .ok (.iconst (-1), 1) := by decide +kernel
theorem dX11_rests_57 : decode cX11_rests 57 = .ok (.if_icmp .ne 7, 3) := by decide +kernel
theorem dX11_rests_60 : decode cX11_rests 60 = .ok (.iconst 1, 1) := by decide +kernel
theorem dX11_rests_61 : decode cX11_rests 61 = .ok (.goto 4, 3) := by decide +kernel
theorem dX11_rests_64 : decode cX11_rests 64 = .ok (.iconst 0, 1) := by decide +kernel
theorem dX11_rests_65 : decode cX11_rests 65 = .ok (.ireturn, 1) := by decide +kernel
theorem dX11_rests_66 : decode cX11_rests 66 = .ok (.iload_n 3, 1) := by decide +kernel
theorem dX11_rests_67 : decode cX11_rests 67 = .ok (.iconst 1, 1) := by decide +kernel
theorem dX11_rests_68 : decode cX11_rests 68 = .ok (.if_icmp .eq 9, 3) := by decide +kernel
theorem dX11_rests_71 : decode cX11_rests 71 = .ok (.iload 6, 2) := by decide +kernel
theorem dX11_rests_73 : decode cX11_rests 73 = .ok (.iconst (-1), 1) := by decide +kernel
theorem dX11_rests_74 : decode cX11_rests 74 = .ok (.if_icmp .ne 8, 3) := by decide +kernel
theorem dX11_rests_77 : decode cX11_rests 77 = .ok (.iload 6, 2) := by decide +kernel
theorem dX11_rests_79 : decode cX11_rests 79 = .ok (.goto 13, 3) := by decide +kernel
theorem dX11_rests_82 : decode cX11_rests 82 = .ok (.aload_n 0, 1) := by decide +kernel
theorem dX11_rests_83 : decode cX11_rests 83 = .ok (.getfield 41, 3) := by decide +kernel
theorem dX11_rests_86 : decode cX11_rests 86 = .ok (.iload_n 2, 1) := by decide +kernel
theorem dX11_rests_87 : decode cX11_rests 87 = .ok (.iload 6, 2) := by decide +kernel
theorem dX11_rests_89 : decode cX11_rests 89 = .ok (.invokevirtual 197, 3) := by decide +kernel
theorem dX11_rests_92 : decode cX11_rests 92 = .ok (.ireturn, 1) := by decide +kernel
theorem kw_23 : (.code yX11_refusalOf cX11_refusalOf 5 (some .int) : Cond) ∈ gw_tbl := gw_in (by decide +kernel) (by decide +kernel)
theorem kw_24 : (.methodLink RX11 190 yX11_refusalOf : Cond) ∈ gw_tbl := gw_in (by decide +kernel) (by decide +kernel)
theorem kw_25 : (.instanceMethod yX11_refusalOf : Cond) ∈ gw_tbl := gw_in (by decide +kernel) (by decide +kernel)
theorem kw_26 : (.selects RX11 yX11_refusalOf yX11_refusalOf : Cond) ∈ gw_tbl := gw_in (by decide +kernel) (by decide +kernel)

set_option maxHeartbeats 4000000 in
set_option maxRecDepth 100000 in
theorem x_rests (l : Launch) (D : va_G) (x0 : Nat) (pg : Nat) (rd : Nat) (aq : Nat) (py : Nat) (pl : Nat) (ch : Nat) (ro : Nat) (p1 : Int32) (p2 : Int32) (p3 : Int32) : Met l yX11_rests (Cond.code yX11_rests cX11_rests 7 (some .int) :: gw_tbl) ({ frames := 2, cells := 0, slots := 0, locals := 43 }) (pc_S D [] [(x0, .inr (11, [.ref pg, .ref rd, .ref aq, .ref py, .ref pl, .ref ch, .ref ro, .int 0, .int 0]))] [.ref x0, .int p1, .int p2, .int p3]) (vp_Si (fun r => r = (-101))) 0 0 (fun _ => False) := by
  refine Met.ofW (cc := cX11_rests) (maxL := 7) (ret := (some .int)) (by decide) rfl ?_
  intro p e s m args below meth c s₁ B hml hv
  obtain ⟨hargs, hP, hK⟩ := hv
  have hx := B.exec
  have hb := B.bytes
  have hr := B.returns
  have hts := atoms_spec (ws := Cond.code yX11_rests cX11_rests 7 (some .int) :: gw_tbl) B.pre
  have hg := fun (w : Cond) (h : w ∈ gw_tbl) => hts w (List.mem_cons_of_mem _ h)
  have hown : s.vm.findClass RX11 = some m.cls := findClass_of_methodNamed B.named
  have hlocks := B.notSynchronized
  have hl := lv_entry ([.ref x0, .int p1, .int p2, .int p3]) (n := 7) (Nat.le_of_ble_eq_true rfl)
  rw [show entryFrame m args 7 = F0 m 0 (lg_sl ([.ref x0, .int p1, .int p2, .int p3]) ++ List.replicate (7 - (lg_sl ([.ref x0, .int p1, .int p2, .int p3])).length) Slot.unset).toArray [] from by rw [hargs]; exact lg_entry_eq ..]
  generalize (lg_sl ([.ref x0, .int p1, .int p2, .int p3]) ++ List.replicate (7 - (lg_sl ([.ref x0, .int p1, .int p2, .int p3])).length) Slot.unset).toArray = ls at hl ⊢
  have hl : lv_has ls 7 [(0, .ref x0), (1, .int p1), (2, .int p2), (3, .int p3)] := hl
  refine W_genQ (fun Q hQ => ?_)
  refine lv_aload_n hx hb dX11_rests_0 rfl (lv_at hl 0 rfl) ?_
  refine lv_iload_n hx hb dX11_rests_1 rfl (lv_at hl 1 rfl) ?_
  have hPc := hP.sub (ws' := [(x0, .inr (11, [.ref pg, .ref rd, .ref aq, .ref py, .ref pl, .ref ch, .ref ro, .int 0, .int 0]))]) [0] rfl
  have hKc := hK.sub (tys' := []) [] rfl
  refine va_csq (W.runV (As := [.int p1]) (rest := []) ⟨hx, hb, hml, hown, hg⟩ (x_payOf l D x0 pg rd aq py pl ch ro p1) (cwV 1 hg (gw_V kw_19 kw_20 kw_21 kw_6 kw_18) rfl rfl rfl (by decide +kernel) ⟨Nat.le_of_ble_eq_true rfl, Nat.le_of_ble_eq_true rfl⟩) (pr_SV (q := (RX11, TX11, 9)) 11 0 hKc hPc rfl rfl) rfl rfl hl.1 rfl (lv_room (Nat.le_of_ble_eq_true rfl)) dX11_rests_2 ⟨Nat.le_of_ble_eq_true rfl, Nat.le_of_ble_eq_true rfl⟩) (fun r_2 h_2 => ?_)
  obtain rfl : r_2 = none := h_2
  refine W.eq (g2 := F0 m 5 ls [.null]) rfl ?_
  refine lv_astoreN (lv' := [(4, .null), (0, .ref x0), (1, .int p1), (2, .int p2), (3, .int p3)]) hx hb dX11_rests_5 hl (by decide) rfl (fun ls hl => ?_)
  refine lv_aload_n hx hb dX11_rests_7 rfl (lv_at hl 1 rfl) ?_
  refine lv_aloadN hx hb dX11_rests_8 (lv_at hl 0 rfl) ?_
  refine lv_iload_n hx hb dX11_rests_10 rfl (lv_at hl 3 rfl) ?_
  refine lv_iload_n hx hb dX11_rests_11 rfl (lv_at hl 4 rfl) ?_
  refine lv_iconst (v := 2) hx hb dX11_rests_12 (by decide) ?_
  have hPc := hP.sub (ws' := [(x0, .inr (11, [.ref pg, .ref rd, .ref aq, .ref py, .ref pl, .ref ch, .ref ro, .int 0, .int 0]))]) [0] rfl
  have hKc := hK.sub (tys' := []) [] rfl
  refine vp_callSi (W.runV (As := [.null, .int p2, .int p3, .int 2]) (rest := []) ⟨hx, hb, hml, hown, hg⟩ (x_refusalOf l D x0 pg rd aq py pl ch ro p2 p3 2) (cwV 4 hg (gw_V kw_24 kw_25 kw_26 kw_6 kw_23) rfl rfl rfl (by decide +kernel) ⟨Nat.le_of_ble_eq_true rfl, Nat.le_of_ble_eq_true rfl⟩) (pr_SV (q := (RX11, TX11, 9)) 11 0 hKc hPc rfl rfl) rfl rfl hl.1 rfl (lv_room (Nat.le_of_ble_eq_true rfl)) dX11_rests_13 ⟨Nat.le_of_ble_eq_true rfl, Nat.le_of_ble_eq_true rfl⟩) (fun r_13 h_13 => ?_)
  obtain rfl : r_13 = ((-101) : Int32) := h_13
  refine lv_istore (lv' := [(5, .int (-101)), (4, .null), (0, .ref x0), (1, .int p1), (2, .int p2), (3, .int p3)]) hx hb dX11_rests_16 hl (by decide) rfl (fun ls hl => ?_)
  refine lv_aloadN hx hb dX11_rests_18 (lv_at hl 1 rfl) ?_
  refine lv_ifnullN (tgt := 28) hx hb dX11_rests_20 (by decide) ?_
  refine lv_iload hx hb dX11_rests_28 (lv_at hl 0 rfl) ?_
  subst hQ
  exact W.iret (v := (-101)) hx hb hr (fun t ht hW => ⟨(-101), rfl, rfl, ht⟩) (fun _ h => absurd h List.not_mem_nil) dX11_rests_30

theorem dX11_gain_0 : decode cX11_gain 0 = .ok (.aload_n 0, 1) := by decide +kernel
theorem dX11_gain_1 : decode cX11_gain 1 = .ok (.iload_n 1, 1) := by decide +kernel
theorem dX11_gain_2 : decode cX11_gain 2 = .ok (.invokevirtual 145, 3) := by decide +kernel
theorem dX11_gain_5 : decode cX11_gain 5 = .ok (.astore 5, 2) := by decide +kernel
theorem dX11_gain_7 : decode cX11_gain 7 = .ok (.aload 5, 2) := by decide +kernel
theorem dX11_gain_9 : decode cX11_gain 9 = .ok (.ifnull 14, 3) := by decide +kernel
theorem dX11_gain_12 : decode cX11_gain 12 = .ok (.aload_n 0, 1) := by decide +kernel
theorem dX11_gain_13 : decode cX11_gain 13 = .ok (.getfield 26, 3) := by decide +kernel
theorem dX11_gain_16 : decode cX11_gain 16 = .ok (.iload_n 3, 1) := by decide +kernel
theorem dX11_gain_17 : decode cX11_gain 17 = .ok (.invokevirtual 98, 3) := by decide +kernel
theorem dX11_gain_20 : decode cX11_gain 20 = .ok (.ifCond .ne 7, 3) := by decide +kernel
theorem dX11_gain_23 : decode cX11_gain 23 = .ok (.ldc2_w 112, 3) := by decide +kernel
theorem dX11_gain_26 : decode cX11_gain 26 = .ok (.lreturn, 1) := by decide +kernel
theorem dX11_gain_27 : decode cX11_gain 27 = .ok (.aload_n 0, 1) := by decide +kernel
theorem dX11_gain_28 : decode cX11_gain 28 = .ok (.getfield 26, 3) := by decide +kernel
theorem dX11_gain_31 : decode cX11_gain 31 = .ok (.iload_n 2, 1) := by decide +kernel
theorem dX11_gain_32 : decode cX11_gain 32 = .ok (.invokevirtual 174, 3) := by decide +kernel
theorem dX11_gain_35 : decode cX11_gain 35 = .ok (.ifCond .eq 13, 3) := by decide +kernel
theorem dX11_gain_38 : decode cX11_gain 38 = .ok (.iload 4, 2) := by decide +kernel
theorem dX11_gain_40 : decode cX11_gain 40 = .ok (.iconst 0, 1) := by decide +kernel
theorem dX11_gain_41 : decode cX11_gain 41 = .ok (.iconst 1, 1) := by decide +kernel
theorem dX11_gain_42 : decode cX11_gain 42 = .ok (.invokestatic 105, 3) := by decide +kernel
theorem dX11_gain_45 : decode cX11_gain 45 = .ok (.ifCond .ne 7, 3) := by decide +kernel
theorem dX11_gain_48 : decode cX11_gain 48 = .ok (.ldc2_w 114, 3) := by decide +kernel
theorem dX11_gain_51 : decode cX11_gain 51 = .ok (.lreturn, 1) := by decide +kernel
theorem dX11_gain_52 : decode cX11_gain 52 = .ok (.aload_n 0, 1) := by decide +kernel
theorem dX11_gain_53 : decode cX11_gain 53 = .ok (.getfield 41, 3) := by decide +kernel
theorem dX11_gain_56 : decode cX11_gain 56 = .ok (.aload 5, 2) := by decide +kernel
theorem dX11_gain_58 : decode cX11_gain 58 = .ok (.invokevirtual 179, 3) := by decide +kernel
theorem dX11_gain_61 : decode cX11_gain 61 = .ok (.aload_n 0, 1) := by decide +kernel
theorem dX11_gain_62 : decode cX11_gain 62 = .ok (.getfield 41, 3) := by decide +kernel
theorem dX11_gain_65 : decode cX11_gain 65 = .ok (.iload_n 2, 1) := by decide +kernel
theorem dX11_gain_66 : decode cX11_gain 66 = .ok (.iload_n 3, 1) := by decide +kernel
theorem dX11_gain_67 : decode cX11_gain 67 = .ok (.invokevirtual 201, 3) := by decide +kernel
theorem dX11_gain_70 : decode cX11_gain 70 = .ok (.aload_n 0, 1) := by decide +kernel
theorem dX11_gain_71 : decode cX11_gain 71 = .ok (.getfield 41, 3) := by decide +kernel
theorem dX11_gain_74 : decode cX11_gain 74 = .ok (.getfield 186, 3) := by decide +kernel
theorem dX11_gain_77 : decode cX11_gain 77 = .ok (.iload 4, 2) := by decide +kernel
theorem dX11_gain_79 : decode cX11_gain 79 = .ok (.invokestatic 126, 3) := by decide +kernel
theorem dX11_gain_82 : decode cX11_gain 82 = .ok (.lreturn, 1) := by decide +kernel

set_option maxHeartbeats 4000000 in
set_option maxRecDepth 100000 in
theorem x_gain (l : Launch) (D : va_G) (x0 : Nat) (pg : Nat) (rd : Nat) (aq : Nat) (py : Nat) (pl : Nat) (ch : Nat) (ro : Nat) (p1 : Int32) (p2 : Int32) (p3 : Int32) (p4 : Int32) : Met l yX11_gain (Cond.code yX11_gain cX11_gain 6 (some .long) :: gw_tbl) ({ frames := 2, cells := 0, slots := 0, locals := 43 }) (pc_S D [] [(x0, .inr (11, [.ref pg, .ref rd, .ref aq, .ref py, .ref pl, .ref ch, .ref ro, .int 0, .int 0]))] [.ref x0, .int p1, .int p2, .int p3, .int p4]) (vp_Sl (fun r => r = (-101))) 0 0 (fun _ => False) := by
  refine Met.ofW (cc := cX11_gain) (maxL := 6) (ret := (some .long)) (by decide) rfl ?_
  intro p e s m args below meth c s₁ B hml hv
  obtain ⟨hargs, hP, hK⟩ := hv
  have hx := B.exec
  have hb := B.bytes
  have hr := B.returns
  have hts := atoms_spec (ws := Cond.code yX11_gain cX11_gain 6 (some .long) :: gw_tbl) B.pre
  have hg := fun (w : Cond) (h : w ∈ gw_tbl) => hts w (List.mem_cons_of_mem _ h)
  have hown : s.vm.findClass RX11 = some m.cls := findClass_of_methodNamed B.named
  have hlocks := B.notSynchronized
  have hl := lv_entry ([.ref x0, .int p1, .int p2, .int p3, .int p4]) (n := 6) (Nat.le_of_ble_eq_true rfl)
  rw [show entryFrame m args 6 = F0 m 0 (lg_sl ([.ref x0, .int p1, .int p2, .int p3, .int p4]) ++ List.replicate (6 - (lg_sl ([.ref x0, .int p1, .int p2, .int p3, .int p4])).length) Slot.unset).toArray [] from by rw [hargs]; exact lg_entry_eq ..]
  generalize (lg_sl ([.ref x0, .int p1, .int p2, .int p3, .int p4]) ++ List.replicate (6 - (lg_sl ([.ref x0, .int p1, .int p2, .int p3, .int p4])).length) Slot.unset).toArray = ls at hl ⊢
  have hl : lv_has ls 6 [(0, .ref x0), (1, .int p1), (2, .int p2), (3, .int p3), (4, .int p4)] := hl
  refine W_genQ (fun Q hQ => ?_)
  refine lv_aload_n hx hb dX11_gain_0 rfl (lv_at hl 0 rfl) ?_
  refine lv_iload_n hx hb dX11_gain_1 rfl (lv_at hl 1 rfl) ?_
  have hPc := hP.sub (ws' := [(x0, .inr (11, [.ref pg, .ref rd, .ref aq, .ref py, .ref pl, .ref ch, .ref ro, .int 0, .int 0]))]) [0] rfl
  have hKc := hK.sub (tys' := []) [] rfl
  refine va_csq (W.runV (As := [.int p1]) (rest := []) ⟨hx, hb, hml, hown, hg⟩ (x_payOf l D x0 pg rd aq py pl ch ro p1) (cwV 1 hg (gw_V kw_19 kw_20 kw_21 kw_6 kw_18) rfl rfl rfl (by decide +kernel) ⟨Nat.le_of_ble_eq_true rfl, Nat.le_of_ble_eq_true rfl⟩) (pr_SV (q := (RX11, TX11, 9)) 11 0 hKc hPc rfl rfl) rfl rfl hl.1 rfl (lv_room (Nat.le_of_ble_eq_true rfl)) dX11_gain_2 ⟨Nat.le_of_ble_eq_true rfl, Nat.le_of_ble_eq_true rfl⟩) (fun r_2 h_2 => ?_)
  obtain rfl : r_2 = none := h_2
  refine W.eq (g2 := F0 m 5 ls [.null]) rfl ?_
  refine lv_astoreN (lv' := [(5, .null), (0, .ref x0), (1, .int p1), (2, .int p2), (3, .int p3), (4, .int p4)]) hx hb dX11_gain_5 hl (by decide) rfl (fun ls hl => ?_)
  refine lv_aloadN hx hb dX11_gain_7 (lv_at hl 0 rfl) ?_
  refine lv_ifnullN (tgt := 23) hx hb dX11_gain_9 (by decide) ?_
  refine lv_ldc2 hx hb hown (hg _ kw_17) dX11_gain_23 ?_
  subst hQ
  exact W.lret (v := (-101)) hx hb hr (fun t ht hW => ⟨(-101), rfl, rfl, ht⟩) (fun _ h => absurd h List.not_mem_nil) dX11_gain_26

theorem dX11_all_0 : decode cX11_all 0 = .ok (.aload_n 0, 1) := by decide +kernel
theorem dX11_all_1 : decode cX11_all 1 = .ok (.iload_n 1, 1) := by decide +kernel
theorem dX11_all_2 : decode cX11_all 2 = .ok (.invokevirtual 145, 3) := by decide +kernel
theorem dX11_all_5 : decode cX11_all 5 = .ok (.astore_n 3, 1) := by decide +kernel
theorem dX11_all_6 : decode cX11_all 6 = .ok (.aload_n 3, 1) := by decide +kernel
theorem dX11_all_7 : decode cX11_all 7 = .ok (.ifnonnull 6, 3) := by decide +kernel
theorem dX11_all_10 : decode cX11_all 10 = .ok (.bipush (-101), 2) := by decide +kernel
theorem dX11_all_12 : decode cX11_all 12 = .ok (.ireturn, 1) := by decide +kernel
theorem dX11_all_13 : decode cX11_all 13 = .ok (.aload_n 0, 1) := by decide +kernel
theorem dX11_all_14 : decode cX11_all 14 = .ok (.getfield 26, 3) := by decide +kernel
theorem dX11_all_17 : decode cX11_all 17 = .ok (.invokevirtual 204, 3) := by decide +kernel
theorem dX11_all_20 : decode cX11_all 20 = .ok (.ifCond .ne 6, 3) := by decide +kernel
theorem dX11_all_23 : decode cX11_all 23 = .ok (.bipush (-103), 2) := by decide +kernel
theorem dX11_all_25 : decode cX11_all 25 = .ok (.ireturn, 1) := by decide +kernel
theorem dX11_all_26 : decode cX11_all 26 = .ok (.iload_n 2, 1) := by decide +kernel
theorem dX11_all_27 : decode cX11_all 27 = .ok (.iconst 0, 1) := by decide +kernel
theorem dX11_all_28 : decode cX11_all 28 = .ok (.iconst 1, 1) := by decide +kernel
theorem dX11_all_29 : decode cX11_all 29 = .ok (.invokestatic 105, 3) := by decide +kernel
theorem dX11_all_32 : decode cX11_all 32 = .ok (.ifCond .ne 17, 3) := by decide +kernel
theorem dX11_all_35 : decode cX11_all 35 = .ok (.iload_n 2, 1) := by decide +kernel
theorem dX11_all_36 : decode cX11_all 36 = .ok (.bipush 10, 2) := by decide +kernel
theorem dX11_all_38 : decode cX11_all 38 = .ok (.bipush 99, 2) := by decide +kernel
theorem dX11_all_40 : decode cX11_all 40 = .ok (.invokestatic 105, 3) := by decide +kernel
theorem dX11_all_43 : decode cX11_all 43 = .ok (.ifCond .ne 6, 3) := by decide +kernel
theorem dX11_all_46 : decode cX11_all 46 = .ok (.bipush (-102), 2) := by decide +kernel
theorem dX11_all_48 : decode cX11_all 48 = .ok (.ireturn, 1) := by decide +kernel
theorem dX11_all_49 : decode cX11_all 49 = .ok (.aload_n 0, 1) := by decide +kernel
theorem dX11_all_50 : decode cX11_all 50 = .ok (.getfield 41, 3) := by decide +kernel
theorem dX11_all_53 : decode cX11_all 53 = .ok (.aload_n 3, 1) := by decide +kernel
theorem dX11_all_54 : decode cX11_all 54 = .ok (.invokevirtual 179, 3) := by decide +kernel
theorem dX11_all_57 : decode cX11_all 57 = .ok (.iload_n 2, 1) := by decide +kernel
theorem dX11_all_58 : decode cX11_all 58 = .ok (.ifCond .ne 11, 3) := by decide +kernel
theorem dX11_all_61 : decode cX11_all 61 = .ok (.aload_n 0, 1) := by decide +kernel
theorem dX11_all_62 : decode cX11_all 62 = .ok (.getfield 41, 3) := by decide +kernel
theorem dX11_all_65 : decode cX11_all 65 = .ok (.invokevirtual 207, 3) := by decide +kernel
theorem dX11_all_68 : decode cX11_all 68 = .ok (.ireturn, 1) := by decide +kernel
theorem dX11_all_69 : decode cX11_all 69 = .ok (.iload_n 2, 1) := by decide +kernel
theorem dX11_all_70 : decode cX11_all 70 = .ok (.iconst 1, 1) := by decide +kernel
theorem dX11_all_71 : decode cX11_all 71 = .ok (.if_icmp .ne 13, 3) := by decide +kernel
theorem dX11_all_74 : decode cX11_all 74 = .ok (.aload_n 0, 1) := by decide +kernel
theorem dX11_all_75 : decode cX11_all 75 = .ok (.getfield 41, 3) := by decide +kernel
theorem dX11_all_78 : decode cX11_all 78 = .ok (.invokevirtual 210, 3) := by decide +kernel
theorem dX11_all_81 : decode cX11_all 81 = .ok (.goto 14, 3) := by decide +kernel
theorem dX11_all_84 : decode cX11_all 84 = .ok (.aload_n 0, 1) := by decide +kernel
theorem dX11_all_85 : decode cX11_all 85 = .ok (.getfield 41, 3) := by decide +kernel
theorem dX11_all_88 : decode cX11_all 88 = .ok (.iload_n 2, 1) := by decide +kernel
theorem dX11_all_89 : decode cX11_all 89 = .ok (.bipush 10, 2) := by decide +kernel
theorem dX11_all_91 : decode cX11_all 91 = .ok (.isub, 1) := by decide +kernel
theorem dX11_all_92 : decode cX11_all 92 = .ok (.invokevirtual 213, 3) := by decide +kernel
theorem dX11_all_95 : decode cX11_all 95 = .ok (.ireturn, 1) := by decide +kernel

set_option maxHeartbeats 4000000 in
set_option maxRecDepth 100000 in
theorem x_all (l : Launch) (D : va_G) (x0 : Nat) (pg : Nat) (rd : Nat) (aq : Nat) (py : Nat) (pl : Nat) (ch : Nat) (ro : Nat) (p1 : Int32) (p2 : Int32) : Met l yX11_all (Cond.code yX11_all cX11_all 4 (some .int) :: gw_tbl) ({ frames := 2, cells := 0, slots := 0, locals := 43 }) (pc_S D [] [(x0, .inr (11, [.ref pg, .ref rd, .ref aq, .ref py, .ref pl, .ref ch, .ref ro, .int 0, .int 0]))] [.ref x0, .int p1, .int p2]) (vp_Si (fun r => r = (-101))) 0 0 (fun _ => False) := by
  refine Met.ofW (cc := cX11_all) (maxL := 4) (ret := (some .int)) (by decide) rfl ?_
  intro p e s m args below meth c s₁ B hml hv
  obtain ⟨hargs, hP, hK⟩ := hv
  have hx := B.exec
  have hb := B.bytes
  have hr := B.returns
  have hts := atoms_spec (ws := Cond.code yX11_all cX11_all 4 (some .int) :: gw_tbl) B.pre
  have hg := fun (w : Cond) (h : w ∈ gw_tbl) => hts w (List.mem_cons_of_mem _ h)
  have hown : s.vm.findClass RX11 = some m.cls := findClass_of_methodNamed B.named
  have hlocks := B.notSynchronized
  have hl := lv_entry ([.ref x0, .int p1, .int p2]) (n := 4) (Nat.le_of_ble_eq_true rfl)
  rw [show entryFrame m args 4 = F0 m 0 (lg_sl ([.ref x0, .int p1, .int p2]) ++ List.replicate (4 - (lg_sl ([.ref x0, .int p1, .int p2])).length) Slot.unset).toArray [] from by rw [hargs]; exact lg_entry_eq ..]
  generalize (lg_sl ([.ref x0, .int p1, .int p2]) ++ List.replicate (4 - (lg_sl ([.ref x0, .int p1, .int p2])).length) Slot.unset).toArray = ls at hl ⊢
  have hl : lv_has ls 4 [(0, .ref x0), (1, .int p1), (2, .int p2)] := hl
  refine W_genQ (fun Q hQ => ?_)
  refine lv_aload_n hx hb dX11_all_0 rfl (lv_at hl 0 rfl) ?_
  refine lv_iload_n hx hb dX11_all_1 rfl (lv_at hl 1 rfl) ?_
  have hPc := hP.sub (ws' := [(x0, .inr (11, [.ref pg, .ref rd, .ref aq, .ref py, .ref pl, .ref ch, .ref ro, .int 0, .int 0]))]) [0] rfl
  have hKc := hK.sub (tys' := []) [] rfl
  refine va_csq (W.runV (As := [.int p1]) (rest := []) ⟨hx, hb, hml, hown, hg⟩ (x_payOf l D x0 pg rd aq py pl ch ro p1) (cwV 1 hg (gw_V kw_19 kw_20 kw_21 kw_6 kw_18) rfl rfl rfl (by decide +kernel) ⟨Nat.le_of_ble_eq_true rfl, Nat.le_of_ble_eq_true rfl⟩) (pr_SV (q := (RX11, TX11, 9)) 11 0 hKc hPc rfl rfl) rfl rfl hl.1 rfl (lv_room (Nat.le_of_ble_eq_true rfl)) dX11_all_2 ⟨Nat.le_of_ble_eq_true rfl, Nat.le_of_ble_eq_true rfl⟩) (fun r_2 h_2 => ?_)
  obtain rfl : r_2 = none := h_2
  refine W.eq (g2 := F0 m 5 ls [.null]) rfl ?_
  refine lv_astore_nN (lv' := [(3, .null), (0, .ref x0), (1, .int p1), (2, .int p2)]) hx hb dX11_all_5 rfl hl (by decide) rfl (fun ls hl => ?_)
  refine lv_aload_nN hx hb dX11_all_6 rfl (lv_at hl 0 rfl) ?_
  refine lv_ifnonnullN hx hb dX11_all_7 ?_
  refine lv_bipush (v := (-101)) hx hb dX11_all_10 (by decide) ?_
  subst hQ
  exact W.iret (v := (-101)) hx hb hr (fun t ht hW => ⟨(-101), rfl, rfl, ht⟩) (fun _ h => absurd h List.not_mem_nil) dX11_all_12

theorem dX11_group_0 : decode cX11_group 0 = .ok (.aload_n 0, 1) := by decide +kernel
theorem dX11_group_1 : decode cX11_group 1 = .ok (.iload_n 1, 1) := by decide +kernel
theorem dX11_group_2 : decode cX11_group 2 = .ok (.invokevirtual 145, 3) := by decide +kernel
theorem dX11_group_5 : decode cX11_group 5 = .ok (.astore 4, 2) := by decide +kernel
theorem dX11_group_7 : decode cX11_group 7 = .ok (.aload_n 0, 1) := by decide +kernel
theorem dX11_group_8 : decode cX11_group 8 = .ok (.aload 4, 2) := by decide +kernel
theorem dX11_group_10 : decode cX11_group 10 = .ok (.iload_n 2, 1) := by decide +kernel
theorem dX11_group_11 : decode cX11_group 11 = .ok (.iload_n 3, 1) := by decide +kernel
theorem dX11_group_12 : decode cX11_group 12 = .ok (.iconst 1, 1) := by decide +kernel
theorem dX11_group_13 : decode cX11_group 13 = .ok (.invokevirtual 190, 3) := by decide +kernel
theorem dX11_group_16 : decode cX11_group 16 = .ok (.istore 5, 2) := by decide +kernel
theorem dX11_group_18 : decode cX11_group 18 = .ok (.aload 4, 2) := by decide +kernel
theorem dX11_group_20 : decode cX11_group 20 = .ok (.ifnull 8, 3) := by decide +kernel
theorem dX11_group_23 : decode cX11_group 23 = .ok (.iload 5, 2) := by decide +kernel
theorem dX11_group_25 : decode cX11_group 25 = .ok (.ifCond .eq 6, 3) := by decide +kernel
theorem dX11_group_28 : decode cX11_group 28 = .ok (.iload 5, 2) := by decide +kernel
theorem dX11_group_30 : decode cX11_group 30 = .ok (.ireturn, 1) := by decide +kernel
theorem dX11_group_31 : decode cX11_group 31 = .ok (.aload_n 0, 1) := by decide +kernel
theorem dX11_group_32 : decode cX11_group 32 = .ok (.getfield 41, 3) := by decide +kernel
theorem dX11_group_35 : decode cX11_group 35 = .ok (.aload 4, 2) := by decide +kernel
theorem dX11_group_37 : decode cX11_group 37 = .ok (.invokevirtual 179, 3) := by decide +kernel
theorem dX11_group_40 : decode cX11_group 40 = .ok (.aload_n 0, 1) := by decide +kernel
theorem dX11_group_41 : decode cX11_group 41 = .ok (.getfield 41, 3) := by decide +kernel
theorem dX11_group_44 : decode cX11_group 44 = .ok (.iload_n 2, 1) := by decide +kernel
theorem dX11_group_45 : decode cX11_group 45 = .ok (.invokevirtual 216, 3) := by decide +kernel
theorem dX11_group_48 : decode cX11_group 48 = .ok (.iload_n 3, 1) := by decide +kernel
theorem dX11_group_49 : decode cX11_group 49 = .ok (.ifCond .ne 13, 3) := by decide +kernel
theorem dX11_group_52 : decode cX11_group 52 = .ok (.aload_n 0, 1) := by decide +kernel
theorem dX11_group_53 : decode cX11_group 53 = .ok (.getfield 41, 3) := by decide +kernel
theorem dX11_group_56 : decode cX11_group 56 = .ok (.getfield 220, 3) := by decide +kernel
theorem dX11_group_59 : decode cX11_group 59 = .ok (.goto 10, 3) := by decide +kernel
theorem dX11_group_62 : decode cX11_group 62 = .ok (.aload_n 0, 1) := by decide +kernel
theorem dX11_group_63 : decode cX11_group 63 = .ok (.getfield 41, 3) := by decide +kernel
theorem dX11_group_66 : decode cX11_group 66 = .ok (.getfield 223, 3) := by decide +kernel
theorem dX11_group_69 : decode cX11_group 69 = .ok (.ireturn, 1) := by decide +kernel

set_option maxHeartbeats 4000000 in
set_option maxRecDepth 100000 in
theorem x_group (l : Launch) (D : va_G) (x0 : Nat) (pg : Nat) (rd : Nat) (aq : Nat) (py : Nat) (pl : Nat) (ch : Nat) (ro : Nat) (p1 : Int32) (p2 : Int32) (p3 : Int32) : Met l yX11_group (Cond.code yX11_group cX11_group 6 (some .int) :: gw_tbl) ({ frames := 2, cells := 0, slots := 0, locals := 43 }) (pc_S D [] [(x0, .inr (11, [.ref pg, .ref rd, .ref aq, .ref py, .ref pl, .ref ch, .ref ro, .int 0, .int 0]))] [.ref x0, .int p1, .int p2, .int p3]) (vp_Si (fun r => r = (-101))) 0 0 (fun _ => False) := by
  refine Met.ofW (cc := cX11_group) (maxL := 6) (ret := (some .int)) (by decide) rfl ?_
  intro p e s m args below meth c s₁ B hml hv
  obtain ⟨hargs, hP, hK⟩ := hv
  have hx := B.exec
  have hb := B.bytes
  have hr := B.returns
  have hts := atoms_spec (ws := Cond.code yX11_group cX11_group 6 (some .int) :: gw_tbl) B.pre
  have hg := fun (w : Cond) (h : w ∈ gw_tbl) => hts w (List.mem_cons_of_mem _ h)
  have hown : s.vm.findClass RX11 = some m.cls := findClass_of_methodNamed B.named
  have hlocks := B.notSynchronized
  have hl := lv_entry ([.ref x0, .int p1, .int p2, .int p3]) (n := 6) (Nat.le_of_ble_eq_true rfl)
  rw [show entryFrame m args 6 = F0 m 0 (lg_sl ([.ref x0, .int p1, .int p2, .int p3]) ++ List.replicate (6 - (lg_sl ([.ref x0, .int p1, .int p2, .int p3])).length) Slot.unset).toArray [] from by rw [hargs]; exact lg_entry_eq ..]
  generalize (lg_sl ([.ref x0, .int p1, .int p2, .int p3]) ++ List.replicate (6 - (lg_sl ([.ref x0, .int p1, .int p2, .int p3])).length) Slot.unset).toArray = ls at hl ⊢
  have hl : lv_has ls 6 [(0, .ref x0), (1, .int p1), (2, .int p2), (3, .int p3)] := hl
  refine W_genQ (fun Q hQ => ?_)
  refine lv_aload_n hx hb dX11_group_0 rfl (lv_at hl 0 rfl) ?_
  refine lv_iload_n hx hb dX11_group_1 rfl (lv_at hl 1 rfl) ?_
  have hPc := hP.sub (ws' := [(x0, .inr (11, [.ref pg, .ref rd, .ref aq, .ref py, .ref pl, .ref ch, .ref ro, .int 0, .int 0]))]) [0] rfl
  have hKc := hK.sub (tys' := []) [] rfl
  refine va_csq (W.runV (As := [.int p1]) (rest := []) ⟨hx, hb, hml, hown, hg⟩ (x_payOf l D x0 pg rd aq py pl ch ro p1) (cwV 1 hg (gw_V kw_19 kw_20 kw_21 kw_6 kw_18) rfl rfl rfl (by decide +kernel) ⟨Nat.le_of_ble_eq_true rfl, Nat.le_of_ble_eq_true rfl⟩) (pr_SV (q := (RX11, TX11, 9)) 11 0 hKc hPc rfl rfl) rfl rfl hl.1 rfl (lv_room (Nat.le_of_ble_eq_true rfl)) dX11_group_2 ⟨Nat.le_of_ble_eq_true rfl, Nat.le_of_ble_eq_true rfl⟩) (fun r_2 h_2 => ?_)
  obtain rfl : r_2 = none := h_2
  refine W.eq (g2 := F0 m 5 ls [.null]) rfl ?_
  refine lv_astoreN (lv' := [(4, .null), (0, .ref x0), (1, .int p1), (2, .int p2), (3, .int p3)]) hx hb dX11_group_5 hl (by decide) rfl (fun ls hl => ?_)
  refine lv_aload_n hx hb dX11_group_7 rfl (lv_at hl 1 rfl) ?_
  refine lv_aloadN hx hb dX11_group_8 (lv_at hl 0 rfl) ?_
  refine lv_iload_n hx hb dX11_group_10 rfl (lv_at hl 3 rfl) ?_
  refine lv_iload_n hx hb dX11_group_11 rfl (lv_at hl 4 rfl) ?_
  refine lv_iconst (v := 1) hx hb dX11_group_12 (by decide) ?_
  have hPc := hP.sub (ws' := [(x0, .inr (11, [.ref pg, .ref rd, .ref aq, .ref py, .ref pl, .ref ch, .ref ro, .int 0, .int 0]))]) [0] rfl
  have hKc := hK.sub (tys' := []) [] rfl
  refine vp_callSi (W.runV (As := [.null, .int p2, .int p3, .int 1]) (rest := []) ⟨hx, hb, hml, hown, hg⟩ (x_refusalOf l D x0 pg rd aq py pl ch ro p2 p3 1) (cwV 4 hg (gw_V kw_24 kw_25 kw_26 kw_6 kw_23) rfl rfl rfl (by decide +kernel) ⟨Nat.le_of_ble_eq_true rfl, Nat.le_of_ble_eq_true rfl⟩) (pr_SV (q := (RX11, TX11, 9)) 11 0 hKc hPc rfl rfl) rfl rfl hl.1 rfl (lv_room (Nat.le_of_ble_eq_true rfl)) dX11_group_13 ⟨Nat.le_of_ble_eq_true rfl, Nat.le_of_ble_eq_true rfl⟩) (fun r_13 h_13 => ?_)
  obtain rfl : r_13 = ((-101) : Int32) := h_13
  refine lv_istore (lv' := [(5, .int (-101)), (4, .null), (0, .ref x0), (1, .int p1), (2, .int p2), (3, .int p3)]) hx hb dX11_group_16 hl (by decide) rfl (fun ls hl => ?_)
  refine lv_aloadN hx hb dX11_group_18 (lv_at hl 1 rfl) ?_
  refine lv_ifnullN (tgt := 28) hx hb dX11_group_20 (by decide) ?_
  refine lv_iload hx hb dX11_group_28 (lv_at hl 0 rfl) ?_
  subst hQ
  exact W.iret (v := (-101)) hx hb hr (fun t ht hW => ⟨(-101), rfl, rfl, ht⟩) (fun _ h => absurd h List.not_mem_nil) dX11_group_30

theorem dX11_goes_0 : decode cX11_goes 0 = .ok (.aload_n 0, 1) := by decide +kernel
theorem dX11_goes_1 : decode cX11_goes 1 = .ok (.iload_n 1, 1) := by decide +kernel
theorem dX11_goes_2 : decode cX11_goes 2 = .ok (.invokevirtual 145, 3) := by decide +kernel
theorem dX11_goes_5 : decode cX11_goes 5 = .ok (.astore 4, 2) := by decide +kernel
theorem dX11_goes_7 : decode cX11_goes 7 = .ok (.aload_n 0, 1) := by decide +kernel
theorem dX11_goes_8 : decode cX11_goes 8 = .ok (.aload 4, 2) := by decide +kernel
theorem dX11_goes_10 : decode cX11_goes 10 = .ok (.iload_n 2, 1) := by decide +kernel
theorem dX11_goes_11 : decode cX11_goes 11 = .ok (.iload_n 3, 1) := by decide +kernel
theorem dX11_goes_12 : decode cX11_goes 12 = .ok (.iconst 2, 1) := by decide +kernel
theorem dX11_goes_13 : decode cX11_goes 13 = .ok (.invokevirtual 190, 3) := by decide +kernel
theorem dX11_goes_16 : decode cX11_goes 16 = .ok (.istore 5, 2) := by decide +kernel
theorem dX11_goes_18 : decode cX11_goes 18 = .ok (.aload 4, 2) := by decide +kernel
theorem dX11_goes_20 : decode cX11_goes 20 = .ok (.ifnull 8, 3) := by decide +kernel
theorem dX11_goes_23 : decode cX11_goes 23 = .ok (.iload 5, 2) := by decide +kernel
theorem dX11_goes_25 : decode cX11_goes 25 = .ok (.ifCond .eq 6, 3) := by decide +kernel
theorem dX11_goes_28 : decode cX11_goes 28 = .ok (.iload 5, 2) := by decide +kernel
theorem dX11_goes_30 : decode cX11_goes 30 = .ok (.ireturn, 1) := by decide +kernel
theorem dX11_goes_31 : decode cX11_goes 31 = .ok (.aload_n 0, 1) := by decide +kernel
theorem dX11_goes_32 : decode cX11_goes 32 = .ok (.getfield 41, 3) := by decide +kernel
theorem dX11_goes_35 : decode cX11_goes 35 = .ok (.aload 4, 2) := by decide +kernel
theorem dX11_goes_37 : decode cX11_goes 37 = .ok (.invokevirtual 179, 3) := by decide +kernel
theorem dX11_goes_40 : decode cX11_goes 40 = .ok (.aload_n 0, 1) := by decide +kernel
theorem dX11_goes_41 : decode cX11_goes 41 = .ok (.getfield 41, 3) := by decide +kernel
theorem dX11_goes_44 : decode cX11_goes 44 = .ok (.iload_n 2, 1) := by decide +kernel
theorem dX11_goes_45 : decode cX11_goes 45 = .ok (.invokevirtual 226, 3) := by decide +kernel
theorem dX11_goes_48 : decode cX11_goes 48 = .ok (.iload_n 3, 1) := by decide +kernel
theorem dX11_goes_49 : decode cX11_goes 49 = .ok (.ifCond .ne 11, 3) := by decide +kernel
theorem dX11_goes_52 : decode cX11_goes 52 = .ok (.aload_n 0, 1) := by decide +kernel
theorem dX11_goes_53 : decode cX11_goes 53 = .ok (.getfield 41, 3) := by decide +kernel
theorem dX11_goes_56 : decode cX11_goes 56 = .ok (.getfield 229, 3) := by decide +kernel
theorem dX11_goes_59 : decode cX11_goes 59 = .ok (.ireturn, 1) := by decide +kernel
theorem dX11_goes_60 : decode cX11_goes 60 = .ok (.iload_n 3, 1) := by decide +kernel
theorem dX11_goes_61 : decode cX11_goes 61 = .ok (.iconst 1, 1) := by decide +kernel
theorem dX11_goes_62 : decode cX11_goes 62 = .ok (.if_icmp .ne 13, 3) := by decide +kernel
theorem dX11_goes_65 : decode cX11_goes 65 = .ok (.aload_n 0, 1) := by decide +kernel
theorem dX11_goes_66 : decode cX11_goes 66 = .ok (.getfield 41, 3) := by decide +kernel
theorem dX11_goes_69 : decode cX11_goes 69 = .ok (.getfield 232, 3) := by decide +kernel
theorem dX11_goes_72 : decode cX11_goes 72 = .ok (.goto 10, 3) := by decide +kernel
theorem dX11_goes_75 : decode cX11_goes 75 = .ok (.aload_n 0, 1) := by decide +kernel
theorem dX11_goes_76 : decode cX11_goes 76 = .ok (.getfield 41, 3) := by decide +kernel
theorem dX11_goes_79 : decode cX11_goes 79 = .ok (.getfield 235, 3) := by decide +kernel
theorem dX11_goes_82 : decode cX11_goes 82 = .ok (.ireturn, 1) := by decide +kernel

set_option maxHeartbeats 4000000 in
set_option maxRecDepth 100000 in
theorem x_goes (l : Launch) (D : va_G) (x0 : Nat) (pg : Nat) (rd : Nat) (aq : Nat) (py : Nat) (pl : Nat) (ch : Nat) (ro : Nat) (p1 : Int32) (p2 : Int32) (p3 : Int32) : Met l yX11_goes (Cond.code yX11_goes cX11_goes 6 (some .int) :: gw_tbl) ({ frames := 2, cells := 0, slots := 0, locals := 43 }) (pc_S D [] [(x0, .inr (11, [.ref pg, .ref rd, .ref aq, .ref py, .ref pl, .ref ch, .ref ro, .int 0, .int 0]))] [.ref x0, .int p1, .int p2, .int p3]) (vp_Si (fun r => r = (-101))) 0 0 (fun _ => False) := by
  refine Met.ofW (cc := cX11_goes) (maxL := 6) (ret := (some .int)) (by decide) rfl ?_
  intro p e s m args below meth c s₁ B hml hv
  obtain ⟨hargs, hP, hK⟩ := hv
  have hx := B.exec
  have hb := B.bytes
  have hr := B.returns
  have hts := atoms_spec (ws := Cond.code yX11_goes cX11_goes 6 (some .int) :: gw_tbl) B.pre
  have hg := fun (w : Cond) (h : w ∈ gw_tbl) => hts w (List.mem_cons_of_mem _ h)
  have hown : s.vm.findClass RX11 = some m.cls := findClass_of_methodNamed B.named
  have hlocks := B.notSynchronized
  have hl := lv_entry ([.ref x0, .int p1, .int p2, .int p3]) (n := 6) (Nat.le_of_ble_eq_true rfl)
  rw [show entryFrame m args 6 = F0 m 0 (lg_sl ([.ref x0, .int p1, .int p2, .int p3]) ++ List.replicate (6 - (lg_sl ([.ref x0, .int p1, .int p2, .int p3])).length) Slot.unset).toArray [] from by rw [hargs]; exact lg_entry_eq ..]
  generalize (lg_sl ([.ref x0, .int p1, .int p2, .int p3]) ++ List.replicate (6 - (lg_sl ([.ref x0, .int p1, .int p2, .int p3])).length) Slot.unset).toArray = ls at hl ⊢
  have hl : lv_has ls 6 [(0, .ref x0), (1, .int p1), (2, .int p2), (3, .int p3)] := hl
  refine W_genQ (fun Q hQ => ?_)
  refine lv_aload_n hx hb dX11_goes_0 rfl (lv_at hl 0 rfl) ?_
  refine lv_iload_n hx hb dX11_goes_1 rfl (lv_at hl 1 rfl) ?_
  have hPc := hP.sub (ws' := [(x0, .inr (11, [.ref pg, .ref rd, .ref aq, .ref py, .ref pl, .ref ch, .ref ro, .int 0, .int 0]))]) [0] rfl
  have hKc := hK.sub (tys' := []) [] rfl
  refine va_csq (W.runV (As := [.int p1]) (rest := []) ⟨hx, hb, hml, hown, hg⟩ (x_payOf l D x0 pg rd aq py pl ch ro p1) (cwV 1 hg (gw_V kw_19 kw_20 kw_21 kw_6 kw_18) rfl rfl rfl (by decide +kernel) ⟨Nat.le_of_ble_eq_true rfl, Nat.le_of_ble_eq_true rfl⟩) (pr_SV (q := (RX11, TX11, 9)) 11 0 hKc hPc rfl rfl) rfl rfl hl.1 rfl (lv_room (Nat.le_of_ble_eq_true rfl)) dX11_goes_2 ⟨Nat.le_of_ble_eq_true rfl, Nat.le_of_ble_eq_true rfl⟩) (fun r_2 h_2 => ?_)
  obtain rfl : r_2 = none := h_2
  refine W.eq (g2 := F0 m 5 ls [.null]) rfl ?_
  refine lv_astoreN (lv' := [(4, .null), (0, .ref x0), (1, .int p1), (2, .int p2), (3, .int p3)]) hx hb dX11_goes_5 hl (by decide) rfl (fun ls hl => ?_)
  refine lv_aload_n hx hb dX11_goes_7 rfl (lv_at hl 1 rfl) ?_
  refine lv_aloadN hx hb dX11_goes_8 (lv_at hl 0 rfl) ?_
  refine lv_iload_n hx hb dX11_goes_10 rfl (lv_at hl 3 rfl) ?_
  refine lv_iload_n hx hb dX11_goes_11 rfl (lv_at hl 4 rfl) ?_
  refine lv_iconst (v := 2) hx hb dX11_goes_12 (by decide) ?_
  have hPc := hP.sub (ws' := [(x0, .inr (11, [.ref pg, .ref rd, .ref aq, .ref py, .ref pl, .ref ch, .ref ro, .int 0, .int 0]))]) [0] rfl
  have hKc := hK.sub (tys' := []) [] rfl
  refine vp_callSi (W.runV (As := [.null, .int p2, .int p3, .int 2]) (rest := []) ⟨hx, hb, hml, hown, hg⟩ (x_refusalOf l D x0 pg rd aq py pl ch ro p2 p3 2) (cwV 4 hg (gw_V kw_24 kw_25 kw_26 kw_6 kw_23) rfl rfl rfl (by decide +kernel) ⟨Nat.le_of_ble_eq_true rfl, Nat.le_of_ble_eq_true rfl⟩) (pr_SV (q := (RX11, TX11, 9)) 11 0 hKc hPc rfl rfl) rfl rfl hl.1 rfl (lv_room (Nat.le_of_ble_eq_true rfl)) dX11_goes_13 ⟨Nat.le_of_ble_eq_true rfl, Nat.le_of_ble_eq_true rfl⟩) (fun r_13 h_13 => ?_)
  obtain rfl : r_13 = ((-101) : Int32) := h_13
  refine lv_istore (lv' := [(5, .int (-101)), (4, .null), (0, .ref x0), (1, .int p1), (2, .int p2), (3, .int p3)]) hx hb dX11_goes_16 hl (by decide) rfl (fun ls hl => ?_)
  refine lv_aloadN hx hb dX11_goes_18 (lv_at hl 1 rfl) ?_
  refine lv_ifnullN (tgt := 28) hx hb dX11_goes_20 (by decide) ?_
  refine lv_iload hx hb dX11_goes_28 (lv_at hl 0 rfl) ?_
  subst hQ
  exact W.iret (v := (-101)) hx hb hr (fun t ht hW => ⟨(-101), rfl, rfl, ht⟩) (fun _ h => absurd h List.not_mem_nil) dX11_goes_30

theorem dX11_drawn_0 : decode cX11_drawn 0 = .ok (.aload_n 0, 1) := by decide +kernel
theorem dX11_drawn_1 : decode cX11_drawn 1 = .ok (.iload_n 1, 1) := by decide +kernel
theorem dX11_drawn_2 : decode cX11_drawn 2 = .ok (.invokevirtual 145, 3) := by decide +kernel
theorem dX11_drawn_5 : decode cX11_drawn 5 = .ok (.astore_n 2, 1) := by decide +kernel
theorem dX11_drawn_6 : decode cX11_drawn 6 = .ok (.aload_n 2, 1) := by decide +kernel
theorem dX11_drawn_7 : decode cX11_drawn 7 = .ok (.ifnonnull 6, 3) := by decide +kernel
theorem dX11_drawn_10 : decode cX11_drawn 10 = .ok (.bipush (-101), 2) := by decide +kernel
theorem dX11_drawn_12 : decode cX11_drawn 12 = .ok (.ireturn, 1) := by decide +kernel
theorem dX11_drawn_13 : decode cX11_drawn 13 = .ok (.aload_n 0, 1) := by decide +kernel
theorem dX11_drawn_14 : decode cX11_drawn 14 = .ok (.getfield 26, 3) := by decide +kernel
theorem dX11_drawn_17 : decode cX11_drawn 17 = .ok (.invokevirtual 204, 3) := by decide +kernel
theorem dX11_drawn_20 : decode cX11_drawn 20 = .ok (.ifCond .ne 6, 3) := by decide +kernel
theorem dX11_drawn_23 : decode cX11_drawn 23 = .ok (.bipush (-103), 2) := by decide +kernel
theorem dX11_drawn_25 : decode cX11_drawn 25 = .ok (.ireturn, 1) := by decide +kernel
theorem dX11_drawn_26 : decode cX11_drawn 26 = .ok (.aload_n 0, 1) := by decide +kernel
theorem dX11_drawn_27 : decode cX11_drawn 27 = .ok (.getfield 41, 3) := by decide +kernel
theorem dX11_drawn_30 : decode cX11_drawn 30 = .ok (.aload_n 2, 1) := by decide +kernel
theorem dX11_drawn_31 : decode cX11_drawn 31 = .ok (.invokevirtual 179, 3) := by decide +kernel
theorem dX11_drawn_34 : decode cX11_drawn 34 = .ok (.aload_n 0, 1) := by decide +kernel
theorem dX11_drawn_35 : decode cX11_drawn 35 = .ok (.getfield 41, 3) := by decide +kernel
theorem dX11_drawn_38 : decode cX11_drawn 38 = .ok (.invokevirtual 238, 3) := by decide +kernel
theorem dX11_drawn_41 : decode cX11_drawn 41 = .ok (.ireturn, 1) := by decide +kernel

set_option maxHeartbeats 4000000 in
set_option maxRecDepth 100000 in
theorem x_drawn (l : Launch) (D : va_G) (x0 : Nat) (pg : Nat) (rd : Nat) (aq : Nat) (py : Nat) (pl : Nat) (ch : Nat) (ro : Nat) (p1 : Int32) : Met l yX11_drawn (Cond.code yX11_drawn cX11_drawn 3 (some .int) :: gw_tbl) ({ frames := 2, cells := 0, slots := 0, locals := 43 }) (pc_S D [] [(x0, .inr (11, [.ref pg, .ref rd, .ref aq, .ref py, .ref pl, .ref ch, .ref ro, .int 0, .int 0]))] [.ref x0, .int p1]) (vp_Si (fun r => r = (-101))) 0 0 (fun _ => False) := by
  refine Met.ofW (cc := cX11_drawn) (maxL := 3) (ret := (some .int)) (by decide) rfl ?_
  intro p e s m args below meth c s₁ B hml hv
  obtain ⟨hargs, hP, hK⟩ := hv
  have hx := B.exec
  have hb := B.bytes
  have hr := B.returns
  have hts := atoms_spec (ws := Cond.code yX11_drawn cX11_drawn 3 (some .int) :: gw_tbl) B.pre
  have hg := fun (w : Cond) (h : w ∈ gw_tbl) => hts w (List.mem_cons_of_mem _ h)
  have hown : s.vm.findClass RX11 = some m.cls := findClass_of_methodNamed B.named
  have hlocks := B.notSynchronized
  have hl := lv_entry ([.ref x0, .int p1]) (n := 3) (Nat.le_of_ble_eq_true rfl)
  rw [show entryFrame m args 3 = F0 m 0 (lg_sl ([.ref x0, .int p1]) ++ List.replicate (3 - (lg_sl ([.ref x0, .int p1])).length) Slot.unset).toArray [] from by rw [hargs]; exact lg_entry_eq ..]
  generalize (lg_sl ([.ref x0, .int p1]) ++ List.replicate (3 - (lg_sl ([.ref x0, .int p1])).length) Slot.unset).toArray = ls at hl ⊢
  have hl : lv_has ls 3 [(0, .ref x0), (1, .int p1)] := hl
  refine W_genQ (fun Q hQ => ?_)
  refine lv_aload_n hx hb dX11_drawn_0 rfl (lv_at hl 0 rfl) ?_
  refine lv_iload_n hx hb dX11_drawn_1 rfl (lv_at hl 1 rfl) ?_
  have hPc := hP.sub (ws' := [(x0, .inr (11, [.ref pg, .ref rd, .ref aq, .ref py, .ref pl, .ref ch, .ref ro, .int 0, .int 0]))]) [0] rfl
  have hKc := hK.sub (tys' := []) [] rfl
  refine va_csq (W.runV (As := [.int p1]) (rest := []) ⟨hx, hb, hml, hown, hg⟩ (x_payOf l D x0 pg rd aq py pl ch ro p1) (cwV 1 hg (gw_V kw_19 kw_20 kw_21 kw_6 kw_18) rfl rfl rfl (by decide +kernel) ⟨Nat.le_of_ble_eq_true rfl, Nat.le_of_ble_eq_true rfl⟩) (pr_SV (q := (RX11, TX11, 9)) 11 0 hKc hPc rfl rfl) rfl rfl hl.1 rfl (lv_room (Nat.le_of_ble_eq_true rfl)) dX11_drawn_2 ⟨Nat.le_of_ble_eq_true rfl, Nat.le_of_ble_eq_true rfl⟩) (fun r_2 h_2 => ?_)
  obtain rfl : r_2 = none := h_2
  refine W.eq (g2 := F0 m 5 ls [.null]) rfl ?_
  refine lv_astore_nN (lv' := [(2, .null), (0, .ref x0), (1, .int p1)]) hx hb dX11_drawn_5 rfl hl (by decide) rfl (fun ls hl => ?_)
  refine lv_aload_nN hx hb dX11_drawn_6 rfl (lv_at hl 0 rfl) ?_
  refine lv_ifnonnullN hx hb dX11_drawn_7 ?_
  refine lv_bipush (v := (-101)) hx hb dX11_drawn_10 (by decide) ?_
  subst hQ
  exact W.iret (v := (-101)) hx hb hr (fun t ht hW => ⟨(-101), rfl, rfl, ht⟩) (fun _ h => absurd h List.not_mem_nil) dX11_drawn_12

theorem dX11_leastSame_0 : decode cX11_leastSame 0 = .ok (.aload_n 0, 1) := by decide +kernel
theorem dX11_leastSame_1 : decode cX11_leastSame 1 = .ok (.getfield 26, 3) := by decide +kernel
theorem dX11_leastSame_4 : decode cX11_leastSame 4 = .ok (.invokevirtual 204, 3) := by decide +kernel
theorem dX11_leastSame_7 : decode cX11_leastSame 7 = .ok (.ifCond .eq 13, 3) := by decide +kernel
theorem dX11_leastSame_10 : decode cX11_leastSame 10 = .ok (.aload_n 0, 1) := by decide +kernel
theorem dX11_leastSame_11 : decode cX11_leastSame 11 = .ok (.getfield 48, 3) := by decide +kernel
theorem dX11_leastSame_14 : decode cX11_leastSame 14 = .ok (.invokevirtual 241, 3) := by decide +kernel
theorem dX11_leastSame_17 : decode cX11_leastSame 17 = .ok (.goto 5, 3) := by decide +kernel
theorem dX11_leastSame_20 : decode cX11_leastSame 20 = .ok (.bipush (-103), 2) := by decide +kernel
theorem dX11_leastSame_22 : decode cX11_leastSame 22 = .ok (.ireturn, 1) := by decide +kernel
theorem kw_27 : (.code yX5_stands cX5_stands 1 (some .boolean) : Cond) ∈ gw_tbl := gw_in (by decide +kernel) (by decide +kernel)
theorem kw_28 : (.methodLink RX11 204 yX5_stands : Cond) ∈ gw_tbl := gw_in (by decide +kernel) (by decide +kernel)
theorem kw_29 : (.instanceMethod yX5_stands : Cond) ∈ gw_tbl := gw_in (by decide +kernel) (by decide +kernel)
theorem kw_30 : (.selects RX5 yX5_stands yX5_stands : Cond) ∈ gw_tbl := gw_in (by decide +kernel) (by decide +kernel)

set_option maxHeartbeats 4000000 in
set_option maxRecDepth 100000 in
theorem x_leastSame (l : Launch) (D : va_G) (x0 : Nat) (pg : Nat) (rd : Nat) (aq : Nat) (py : Nat) (pl : Nat) (ch : Nat) (ro : Nat) (a1 : Nat) (a2 : Nat) (a3 : Nat) (a4 : Nat) : Met l yX11_leastSame (Cond.code yX11_leastSame cX11_leastSame 1 (some .int) :: gw_tbl) ({ frames := 1, cells := 0, slots := 0, locals := 20 }) (pc_S D [] [(x0, .inr (11, [.ref pg, .ref rd, .ref aq, .ref py, .ref pl, .ref ch, .ref ro, .int 0, .int 0])), (aq, .inr (5, [.ref a1, .ref a2, .ref a3, .ref a4, .int 0, .int 0, .long 0]))] [.ref x0]) (vp_Si (fun r => r = (-103))) 0 0 (fun _ => False) := by
  refine Met.ofW (cc := cX11_leastSame) (maxL := 1) (ret := (some .int)) (by decide) rfl ?_
  intro p e s m args below meth c s₁ B hml hv
  obtain ⟨hargs, hP, hK⟩ := hv
  have hx := B.exec
  have hb := B.bytes
  have hr := B.returns
  have hts := atoms_spec (ws := Cond.code yX11_leastSame cX11_leastSame 1 (some .int) :: gw_tbl) B.pre
  have hg := fun (w : Cond) (h : w ∈ gw_tbl) => hts w (List.mem_cons_of_mem _ h)
  have hown : s.vm.findClass RX11 = some m.cls := findClass_of_methodNamed B.named
  have hlocks := B.notSynchronized
  have hl := lv_entry ([.ref x0]) (n := 1) (Nat.le_of_ble_eq_true rfl)
  rw [show entryFrame m args 1 = F0 m 0 (lg_sl ([.ref x0]) ++ List.replicate (1 - (lg_sl ([.ref x0])).length) Slot.unset).toArray [] from by rw [hargs]; exact lg_entry_eq ..]
  generalize (lg_sl ([.ref x0]) ++ List.replicate (1 - (lg_sl ([.ref x0])).length) Slot.unset).toArray = ls at hl ⊢
  have hl : lv_has ls 1 [(0, .ref x0)] := hl
  refine W_genQ (fun Q hQ => ?_)
  refine lv_aload_n hx hb dX11_leastSame_0 rfl (lv_at hl 0 rfl) ?_
  refine va_get (D := D) (ci := 11) (v := .ref aq) (C := RX11) (T := TX11) (N := 9) hx hb hg gwX11 hown hK hP 0 rfl rfl 2 (by decide) (hg _ kw_7) (fun _ h9 => h9) rfl dX11_leastSame_1 ?_
  have hPc := hP.sub (ws' := [(aq, .inr (5, [.ref a1, .ref a2, .ref a3, .ref a4, .int 0, .int 0, .long 0]))]) [1] rfl
  have hKc := hK.sub (tys' := []) [] rfl
  refine vp_callSi (W.runV (As := []) (rest := []) ⟨hx, hb, hml, hown, hg⟩ (q_stands l D aq a1 a2 a3 a4) (cwV 0 hg (gw_V kw_28 kw_29 kw_30 kw_12 kw_27) rfl rfl rfl (by decide +kernel) ⟨Nat.le_of_ble_eq_true rfl, Nat.le_of_ble_eq_true rfl⟩) (pr_SV (q := (RX5, TX5, 7)) 5 0 hKc hPc rfl rfl) rfl rfl hl.1 rfl (lv_room (Nat.le_of_ble_eq_true rfl)) dX11_leastSame_4 ⟨Nat.le_of_ble_eq_true rfl, Nat.le_of_ble_eq_true rfl⟩) (fun r_4 h_4 => ?_)
  obtain rfl : r_4 = (0 : Int32) := h_4
  refine lv_if_eq (tgt := 20) hx hb dX11_leastSame_7 (by decide) (fun c_7 => ?_) (fun c_7 => absurd c_7 (by decide))
  refine lv_bipush (v := (-103)) hx hb dX11_leastSame_20 (by decide) ?_
  subst hQ
  exact W.iret (v := (-103)) hx hb hr (fun t ht hW => ⟨(-103), rfl, rfl, ht⟩) (fun _ h => absurd h List.not_mem_nil) dX11_leastSame_22

theorem dX11_leastTable_0 : decode cX11_leastTable 0 = .ok (.aload_n 0, 1) := by decide +kernel
theorem dX11_leastTable_1 : decode cX11_leastTable 1 = .ok (.getfield 26, 3) := by decide +kernel
theorem dX11_leastTable_4 : decode cX11_leastTable 4 = .ok (.invokevirtual 204, 3) := by decide +kernel
theorem dX11_leastTable_7 : decode cX11_leastTable 7 = .ok (.ifCond .ne 6, 3) := by decide +kernel
theorem dX11_leastTable_10 : decode cX11_leastTable 10 = .ok (.bipush (-103), 2) := by decide +kernel
theorem dX11_leastTable_12 : decode cX11_leastTable 12 = .ok (.ireturn, 1) := by decide +kernel
theorem dX11_leastTable_13 : decode cX11_leastTable 13 = .ok (.iload_n 1, 1) := by decide +kernel
theorem dX11_leastTable_14 : decode cX11_leastTable 14 = .ok (.iconst 0, 1) := by decide +kernel
theorem dX11_leastTable_15 : decode cX11_leastTable 15 = .ok (.iconst 4, 1) := by decide +kernel
theorem dX11_leastTable_16 : decode cX11_leastTable 16 = .ok (.invokestatic 105, 3) := by decide +kernel
theorem dX11_leastTable_19 : decode cX11_leastTable 19 = .ok (.ifCond .ne 6, 3) := by decide +kernel
theorem dX11_leastTable_22 : decode cX11_leastTable 22 = .ok (.bipush (-102), 2) := by decide +kernel
theorem dX11_leastTable_24 : decode cX11_leastTable 24 = .ok (.ireturn, 1) := by decide +kernel
theorem dX11_leastTable_25 : decode cX11_leastTable 25 = .ok (.aload_n 0, 1) := by decide +kernel
theorem dX11_leastTable_26 : decode cX11_leastTable 26 = .ok (.getfield 244, 3) := by decide +kernel
theorem dX11_leastTable_29 : decode cX11_leastTable 29 = .ok (.bipush 10, 2) := by decide +kernel
theorem dX11_leastTable_31 : decode cX11_leastTable 31 = .ok (.if_icmp .lt 6, 3) := by decide +kernel
theorem dX11_leastTable_34 : decode cX11_leastTable 34 = .ok (.bipush (-103), 2) := by decide +kernel
theorem dX11_leastTable_36 : decode cX11_leastTable 36 = .ok (.ireturn, 1) := by decide +kernel
theorem dX11_leastTable_37 : decode cX11_leastTable 37 = .ok (.aload_n 0, 1) := by decide +kernel
theorem dX11_leastTable_38 : decode cX11_leastTable 38 = .ok (.dup, 1) := by decide +kernel
theorem dX11_leastTable_39 : decode cX11_leastTable 39 = .ok (.getfield 244, 3) := by decide +kernel
theorem dX11_leastTable_42 : decode cX11_leastTable 42 = .ok (.iconst 1, 1) := by decide +kernel
theorem dX11_leastTable_43 : decode cX11_leastTable 43 = .ok (.iadd, 1) := by decide +kernel
theorem dX11_leastTable_44 : decode cX11_leastTable 44 = .ok (.putfield 244, 3) := by decide +kernel
theorem dX11_leastTable_47 : decode cX11_leastTable 47 = .ok (.aload_n 0, 1) := by decide +kernel
theorem dX11_leastTable_48 : decode cX11_leastTable 48 = .ok (.getfield 48, 3) := by decide +kernel
theorem dX11_leastTable_51 : decode cX11_leastTable 51 = .ok (.invokevirtual 247, 3) := by decide +kernel
theorem dX11_leastTable_54 : decode cX11_leastTable 54 = .ok (.iload_n 1, 1) := by decide +kernel
theorem dX11_leastTable_55 : decode cX11_leastTable 55 = .ok (.iconst 4, 1) := by decide +kernel
theorem dX11_leastTable_56 : decode cX11_leastTable 56 = .ok (.if_icmp .ne 13, 3) := by decide +kernel
theorem dX11_leastTable_59 : decode cX11_leastTable 59 = .ok (.aload_n 0, 1) := by decide +kernel
theorem dX11_leastTable_60 : decode cX11_leastTable 60 = .ok (.getfield 48, 3) := by decide +kernel
theorem dX11_leastTable_63 : decode cX11_leastTable 63 = .ok (.getfield 250, 3) := by decide +kernel
theorem dX11_leastTable_66 : decode cX11_leastTable 66 = .ok (.goto 12, 3) := by decide +kernel
theorem dX11_leastTable_69 : decode cX11_leastTable 69 = .ok (.aload_n 0, 1) := by decide +kernel
theorem dX11_leastTable_70 : decode cX11_leastTable 70 = .ok (.getfield 48, 3) := by decide +kernel
theorem dX11_leastTable_73 : decode cX11_leastTable 73 = .ok (.getfield 253, 3) := by decide +kernel
theorem dX11_leastTable_76 : decode cX11_leastTable 76 = .ok (.iload_n 1, 1) := by decide +kernel
theorem dX11_leastTable_77 : decode cX11_leastTable 77 = .ok (.iaload, 1) := by decide +kernel
theorem dX11_leastTable_78 : decode cX11_leastTable 78 = .ok (.ireturn, 1) := by decide +kernel

set_option maxHeartbeats 4000000 in
set_option maxRecDepth 100000 in
theorem x_leastTable (l : Launch) (D : va_G) (x0 : Nat) (pg : Nat) (rd : Nat) (aq : Nat) (py : Nat) (pl : Nat) (ch : Nat) (ro : Nat) (a1 : Nat) (a2 : Nat) (a3 : Nat) (a4 : Nat) (p1 : Int32) : Met l yX11_leastTable (Cond.code yX11_leastTable cX11_leastTable 2 (some .int) :: gw_tbl) ({ frames := 1, cells := 0, slots := 0, locals := 20 }) (pc_S D [] [(x0, .inr (11, [.ref pg, .ref rd, .ref aq, .ref py, .ref pl, .ref ch, .ref ro, .int 0, .int 0])), (aq, .inr (5, [.ref a1, .ref a2, .ref a3, .ref a4, .int 0, .int 0, .long 0]))] [.ref x0, .int p1]) (vp_Si (fun r => r = (-103))) 0 0 (fun _ => False) := by
  refine Met.ofW (cc := cX11_leastTable) (maxL := 2) (ret := (some .int)) (by decide) rfl ?_
  intro p e s m args below meth c s₁ B hml hv
  obtain ⟨hargs, hP, hK⟩ := hv
  have hx := B.exec
  have hb := B.bytes
  have hr := B.returns
  have hts := atoms_spec (ws := Cond.code yX11_leastTable cX11_leastTable 2 (some .int) :: gw_tbl) B.pre
  have hg := fun (w : Cond) (h : w ∈ gw_tbl) => hts w (List.mem_cons_of_mem _ h)
  have hown : s.vm.findClass RX11 = some m.cls := findClass_of_methodNamed B.named
  have hlocks := B.notSynchronized
  have hl := lv_entry ([.ref x0, .int p1]) (n := 2) (Nat.le_of_ble_eq_true rfl)
  rw [show entryFrame m args 2 = F0 m 0 (lg_sl ([.ref x0, .int p1]) ++ List.replicate (2 - (lg_sl ([.ref x0, .int p1])).length) Slot.unset).toArray [] from by rw [hargs]; exact lg_entry_eq ..]
  generalize (lg_sl ([.ref x0, .int p1]) ++ List.replicate (2 - (lg_sl ([.ref x0, .int p1])).length) Slot.unset).toArray = ls at hl ⊢
  have hl : lv_has ls 2 [(0, .ref x0), (1, .int p1)] := hl
  refine W_genQ (fun Q hQ => ?_)
  refine lv_aload_n hx hb dX11_leastTable_0 rfl (lv_at hl 0 rfl) ?_
  refine va_get (D := D) (ci := 11) (v := .ref aq) (C := RX11) (T := TX11) (N := 9) hx hb hg gwX11 hown hK hP 0 rfl rfl 2 (by decide) (hg _ kw_7) (fun _ h9 => h9) rfl dX11_leastTable_1 ?_
  have hPc := hP.sub (ws' := [(aq, .inr (5, [.ref a1, .ref a2, .ref a3, .ref a4, .int 0, .int 0, .long 0]))]) [1] rfl
  have hKc := hK.sub (tys' := []) [] rfl
  refine vp_callSi (W.runV (As := []) (rest := []) ⟨hx, hb, hml, hown, hg⟩ (q_stands l D aq a1 a2 a3 a4) (cwV 0 hg (gw_V kw_28 kw_29 kw_30 kw_12 kw_27) rfl rfl rfl (by decide +kernel) ⟨Nat.le_of_ble_eq_true rfl, Nat.le_of_ble_eq_true rfl⟩) (pr_SV (q := (RX5, TX5, 7)) 5 0 hKc hPc rfl rfl) rfl rfl hl.1 rfl (lv_room (Nat.le_of_ble_eq_true rfl)) dX11_leastTable_4 ⟨Nat.le_of_ble_eq_true rfl, Nat.le_of_ble_eq_true rfl⟩) (fun r_4 h_4 => ?_)
  obtain rfl : r_4 = (0 : Int32) := h_4
  refine lv_if_ne (tgt := 13) hx hb dX11_leastTable_7 (by decide) (fun c_7 => absurd c_7 (by decide)) (fun c_7 => ?_)
  refine lv_bipush (v := (-103)) hx hb dX11_leastTable_10 (by decide) ?_
  subst hQ
  exact W.iret (v := (-103)) hx hb hr (fun t ht hW => ⟨(-103), rfl, rfl, ht⟩) (fun _ h => absurd h List.not_mem_nil) dX11_leastTable_12

theorem dX11_leastLook_0 : decode cX11_leastLook 0 = .ok (.aload_n 0, 1) := by decide +kernel
theorem dX11_leastLook_1 : decode cX11_leastLook 1 = .ok (.iload_n 1, 1) := by decide +kernel
theorem dX11_leastLook_2 : decode cX11_leastLook 2 = .ok (.invokevirtual 145, 3) := by decide +kernel
theorem dX11_leastLook_5 : decode cX11_leastLook 5 = .ok (.astore_n 2, 1) := by decide +kernel
theorem dX11_leastLook_6 : decode cX11_leastLook 6 = .ok (.aload_n 2, 1) := by decide +kernel
theorem dX11_leastLook_7 : decode cX11_leastLook 7 = .ok (.ifnonnull 6, 3) := by decide +kernel
theorem dX11_leastLook_10 : decode cX11_leastLook 10 = .ok (.bipush (-101), 2) := by decide +kernel
theorem dX11_leastLook_12 : decode cX11_leastLook 12 = .ok (.ireturn, 1) := by decide +kernel
theorem dX11_leastLook_13 : decode cX11_leastLook 13 = .ok (.aload_n 0, 1) := by decide +kernel
theorem dX11_leastLook_14 : decode cX11_leastLook 14 = .ok (.getfield 26, 3) := by decide +kernel
theorem dX11_leastLook_17 : decode cX11_leastLook 17 = .ok (.invokevirtual 204, 3) := by decide +kernel
theorem dX11_leastLook_20 : decode cX11_leastLook 20 = .ok (.ifCond .eq 11, 3) := by decide +kernel
theorem dX11_leastLook_23 : decode cX11_leastLook 23 = .ok (.aload_n 2, 1) := by decide +kernel
theorem dX11_leastLook_24 : decode cX11_leastLook 24 = .ok (.invokevirtual 152, 3) := by decide +kernel
theorem dX11_leastLook_27 : decode cX11_leastLook 27 = .ok (.iconst 4, 1) := by decide +kernel
theorem dX11_leastLook_28 : decode cX11_leastLook 28 = .ok (.if_icmp .eq 6, 3) := by decide +kernel
theorem dX11_leastLook_31 : decode cX11_leastLook 31 = .ok (.bipush (-103), 2) := by decide +kernel
theorem dX11_leastLook_33 : decode cX11_leastLook 33 = .ok (.ireturn, 1) := by decide +kernel
theorem dX11_leastLook_34 : decode cX11_leastLook 34 = .ok (.aload_n 0, 1) := by decide +kernel
theorem dX11_leastLook_35 : decode cX11_leastLook 35 = .ok (.getfield 48, 3) := by decide +kernel
theorem dX11_leastLook_38 : decode cX11_leastLook 38 = .ok (.aload_n 2, 1) := by decide +kernel
theorem dX11_leastLook_39 : decode cX11_leastLook 39 = .ok (.invokevirtual 256, 3) := by decide +kernel
theorem dX11_leastLook_42 : decode cX11_leastLook 42 = .ok (.ireturn, 1) := by decide +kernel

set_option maxHeartbeats 4000000 in
set_option maxRecDepth 100000 in
theorem x_leastLook (l : Launch) (D : va_G) (x0 : Nat) (pg : Nat) (rd : Nat) (aq : Nat) (py : Nat) (pl : Nat) (ch : Nat) (ro : Nat) (p1 : Int32) : Met l yX11_leastLook (Cond.code yX11_leastLook cX11_leastLook 3 (some .int) :: gw_tbl) ({ frames := 2, cells := 0, slots := 0, locals := 43 }) (pc_S D [] [(x0, .inr (11, [.ref pg, .ref rd, .ref aq, .ref py, .ref pl, .ref ch, .ref ro, .int 0, .int 0]))] [.ref x0, .int p1]) (vp_Si (fun r => r = (-101))) 0 0 (fun _ => False) := by
  refine Met.ofW (cc := cX11_leastLook) (maxL := 3) (ret := (some .int)) (by decide) rfl ?_
  intro p e s m args below meth c s₁ B hml hv
  obtain ⟨hargs, hP, hK⟩ := hv
  have hx := B.exec
  have hb := B.bytes
  have hr := B.returns
  have hts := atoms_spec (ws := Cond.code yX11_leastLook cX11_leastLook 3 (some .int) :: gw_tbl) B.pre
  have hg := fun (w : Cond) (h : w ∈ gw_tbl) => hts w (List.mem_cons_of_mem _ h)
  have hown : s.vm.findClass RX11 = some m.cls := findClass_of_methodNamed B.named
  have hlocks := B.notSynchronized
  have hl := lv_entry ([.ref x0, .int p1]) (n := 3) (Nat.le_of_ble_eq_true rfl)
  rw [show entryFrame m args 3 = F0 m 0 (lg_sl ([.ref x0, .int p1]) ++ List.replicate (3 - (lg_sl ([.ref x0, .int p1])).length) Slot.unset).toArray [] from by rw [hargs]; exact lg_entry_eq ..]
  generalize (lg_sl ([.ref x0, .int p1]) ++ List.replicate (3 - (lg_sl ([.ref x0, .int p1])).length) Slot.unset).toArray = ls at hl ⊢
  have hl : lv_has ls 3 [(0, .ref x0), (1, .int p1)] := hl
  refine W_genQ (fun Q hQ => ?_)
  refine lv_aload_n hx hb dX11_leastLook_0 rfl (lv_at hl 0 rfl) ?_
  refine lv_iload_n hx hb dX11_leastLook_1 rfl (lv_at hl 1 rfl) ?_
  have hPc := hP.sub (ws' := [(x0, .inr (11, [.ref pg, .ref rd, .ref aq, .ref py, .ref pl, .ref ch, .ref ro, .int 0, .int 0]))]) [0] rfl
  have hKc := hK.sub (tys' := []) [] rfl
  refine va_csq (W.runV (As := [.int p1]) (rest := []) ⟨hx, hb, hml, hown, hg⟩ (x_payOf l D x0 pg rd aq py pl ch ro p1) (cwV 1 hg (gw_V kw_19 kw_20 kw_21 kw_6 kw_18) rfl rfl rfl (by decide +kernel) ⟨Nat.le_of_ble_eq_true rfl, Nat.le_of_ble_eq_true rfl⟩) (pr_SV (q := (RX11, TX11, 9)) 11 0 hKc hPc rfl rfl) rfl rfl hl.1 rfl (lv_room (Nat.le_of_ble_eq_true rfl)) dX11_leastLook_2 ⟨Nat.le_of_ble_eq_true rfl, Nat.le_of_ble_eq_true rfl⟩) (fun r_2 h_2 => ?_)
  obtain rfl : r_2 = none := h_2
  refine W.eq (g2 := F0 m 5 ls [.null]) rfl ?_
  refine lv_astore_nN (lv' := [(2, .null), (0, .ref x0), (1, .int p1)]) hx hb dX11_leastLook_5 rfl hl (by decide) rfl (fun ls hl => ?_)
  refine lv_aload_nN hx hb dX11_leastLook_6 rfl (lv_at hl 0 rfl) ?_
  refine lv_ifnonnullN hx hb dX11_leastLook_7 ?_
  refine lv_bipush (v := (-101)) hx hb dX11_leastLook_10 (by decide) ?_
  subst hQ
  exact W.iret (v := (-101)) hx hb hr (fun t ht hW => ⟨(-101), rfl, rfl, ht⟩) (fun _ h => absurd h List.not_mem_nil) dX11_leastLook_12

theorem dX11_mayBe_0 : decode cX11_mayBe 0 = .ok (.aload_n 0, 1) := by decide +kernel
theorem dX11_mayBe_1 : decode cX11_mayBe 1 = .ok (.iload_n 1, 1) := by decide +kernel
theorem dX11_mayBe_2 : decode cX11_mayBe 2 = .ok (.invokevirtual 145, 3) := by decide +kernel
theorem dX11_mayBe_5 : decode cX11_mayBe 5 = .ok (.astore_n 3, 1) := by decide +kernel
theorem dX11_mayBe_6 : decode cX11_mayBe 6 = .ok (.aload_n 3, 1) := by decide +kernel
theorem dX11_mayBe_7 : decode cX11_mayBe 7 = .ok (.ifnonnull 6, 3) := by decide +kernel
theorem dX11_mayBe_10 : decode cX11_mayBe 10 = .ok (.bipush (-101), 2) := by decide +kernel
theorem dX11_mayBe_12 : decode cX11_mayBe 12 = .ok (.ireturn, 1) := by decide +kernel
theorem dX11_mayBe_13 : decode cX11_mayBe 13 = .ok (.aload_n 0, 1) := by decide +kernel
theorem dX11_mayBe_14 : decode cX11_mayBe 14 = .ok (.getfield 26, 3) := by decide +kernel
theorem dX11_mayBe_17 : decode cX11_mayBe 17 = .ok (.invokevirtual 204, 3) := by decide +kernel
theorem dX11_mayBe_20 : decode cX11_mayBe 20 = .ok (.ifCond .ne 6, 3) := by decide +kernel
theorem dX11_mayBe_23 : decode cX11_mayBe 23 = .ok (.bipush (-103), 2) := by decide +kernel
theorem dX11_mayBe_25 : decode cX11_mayBe 25 = .ok (.ireturn, 1) := by decide +kernel
theorem dX11_mayBe_26 : decode cX11_mayBe 26 = .ok (.iload_n 2, 1) := by decide +kernel
theorem dX11_mayBe_27 : decode cX11_mayBe 27 = .ok (.iconst 0, 1) := by decide +kernel
theorem dX11_mayBe_28 : decode cX11_mayBe 28 = .ok (.bipush 100, 2) := by decide +kernel
theorem dX11_mayBe_30 : decode cX11_mayBe 30 = .ok (.invokestatic 105, 3) := by decide +kernel
theorem dX11_mayBe_33 : decode cX11_mayBe 33 = .ok (.ifCond .eq 15, 3) := by decide +kernel
theorem dX11_mayBe_36 : decode cX11_mayBe 36 = .ok (.aload_n 0, 1) := by decide +kernel
theorem dX11_mayBe_37 : decode cX11_mayBe 37 = .ok (.getfield 48, 3) := by decide +kernel
theorem dX11_mayBe_40 : decode cX11_mayBe 40 = .ok (.aload_n 3, 1) := by decide +kernel
theorem dX11_mayBe_41 : decode cX11_mayBe 41 = .ok (.iload_n 2, 1) := by decide +kernel
theorem dX11_mayBe_42 : decode cX11_mayBe 42 = .ok (.invokevirtual 260, 3) := by decide +kernel
theorem dX11_mayBe_45 : decode cX11_mayBe 45 = .ok (.goto 5, 3) := by decide +kernel
theorem dX11_mayBe_48 : decode cX11_mayBe 48 = .ok (.bipush (-102), 2) := by decide +kernel
theorem dX11_mayBe_50 : decode cX11_mayBe 50 = .ok (.ireturn, 1) := by decide +kernel

set_option maxHeartbeats 4000000 in
set_option maxRecDepth 100000 in
theorem x_mayBe (l : Launch) (D : va_G) (x0 : Nat) (pg : Nat) (rd : Nat) (aq : Nat) (py : Nat) (pl : Nat) (ch : Nat) (ro : Nat) (p1 : Int32) (p2 : Int32) : Met l yX11_mayBe (Cond.code yX11_mayBe cX11_mayBe 4 (some .int) :: gw_tbl) ({ frames := 2, cells := 0, slots := 0, locals := 43 }) (pc_S D [] [(x0, .inr (11, [.ref pg, .ref rd, .ref aq, .ref py, .ref pl, .ref ch, .ref ro, .int 0, .int 0]))] [.ref x0, .int p1, .int p2]) (vp_Si (fun r => r = (-101))) 0 0 (fun _ => False) := by
  refine Met.ofW (cc := cX11_mayBe) (maxL := 4) (ret := (some .int)) (by decide) rfl ?_
  intro p e s m args below meth c s₁ B hml hv
  obtain ⟨hargs, hP, hK⟩ := hv
  have hx := B.exec
  have hb := B.bytes
  have hr := B.returns
  have hts := atoms_spec (ws := Cond.code yX11_mayBe cX11_mayBe 4 (some .int) :: gw_tbl) B.pre
  have hg := fun (w : Cond) (h : w ∈ gw_tbl) => hts w (List.mem_cons_of_mem _ h)
  have hown : s.vm.findClass RX11 = some m.cls := findClass_of_methodNamed B.named
  have hlocks := B.notSynchronized
  have hl := lv_entry ([.ref x0, .int p1, .int p2]) (n := 4) (Nat.le_of_ble_eq_true rfl)
  rw [show entryFrame m args 4 = F0 m 0 (lg_sl ([.ref x0, .int p1, .int p2]) ++ List.replicate (4 - (lg_sl ([.ref x0, .int p1, .int p2])).length) Slot.unset).toArray [] from by rw [hargs]; exact lg_entry_eq ..]
  generalize (lg_sl ([.ref x0, .int p1, .int p2]) ++ List.replicate (4 - (lg_sl ([.ref x0, .int p1, .int p2])).length) Slot.unset).toArray = ls at hl ⊢
  have hl : lv_has ls 4 [(0, .ref x0), (1, .int p1), (2, .int p2)] := hl
  refine W_genQ (fun Q hQ => ?_)
  refine lv_aload_n hx hb dX11_mayBe_0 rfl (lv_at hl 0 rfl) ?_
  refine lv_iload_n hx hb dX11_mayBe_1 rfl (lv_at hl 1 rfl) ?_
  have hPc := hP.sub (ws' := [(x0, .inr (11, [.ref pg, .ref rd, .ref aq, .ref py, .ref pl, .ref ch, .ref ro, .int 0, .int 0]))]) [0] rfl
  have hKc := hK.sub (tys' := []) [] rfl
  refine va_csq (W.runV (As := [.int p1]) (rest := []) ⟨hx, hb, hml, hown, hg⟩ (x_payOf l D x0 pg rd aq py pl ch ro p1) (cwV 1 hg (gw_V kw_19 kw_20 kw_21 kw_6 kw_18) rfl rfl rfl (by decide +kernel) ⟨Nat.le_of_ble_eq_true rfl, Nat.le_of_ble_eq_true rfl⟩) (pr_SV (q := (RX11, TX11, 9)) 11 0 hKc hPc rfl rfl) rfl rfl hl.1 rfl (lv_room (Nat.le_of_ble_eq_true rfl)) dX11_mayBe_2 ⟨Nat.le_of_ble_eq_true rfl, Nat.le_of_ble_eq_true rfl⟩) (fun r_2 h_2 => ?_)
  obtain rfl : r_2 = none := h_2
  refine W.eq (g2 := F0 m 5 ls [.null]) rfl ?_
  refine lv_astore_nN (lv' := [(3, .null), (0, .ref x0), (1, .int p1), (2, .int p2)]) hx hb dX11_mayBe_5 rfl hl (by decide) rfl (fun ls hl => ?_)
  refine lv_aload_nN hx hb dX11_mayBe_6 rfl (lv_at hl 0 rfl) ?_
  refine lv_ifnonnullN hx hb dX11_mayBe_7 ?_
  refine lv_bipush (v := (-101)) hx hb dX11_mayBe_10 (by decide) ?_
  subst hQ
  exact W.iret (v := (-101)) hx hb hr (fun t ht hW => ⟨(-101), rfl, rfl, ht⟩) (fun _ h => absurd h List.not_mem_nil) dX11_mayBe_12

theorem dX11_row_0 : decode cX11_row 0 = .ok (.aload_n 0, 1) := by decide +kernel
theorem dX11_row_1 : decode cX11_row 1 = .ok (.getfield 26, 3) := by decide +kernel
theorem dX11_row_4 : decode cX11_row 4 = .ok (.invokevirtual 204, 3) := by decide +kernel
theorem dX11_row_7 : decode cX11_row 7 = .ok (.ifCond .ne 6, 3) := by decide +kernel
theorem dX11_row_10 : decode cX11_row 10 = .ok (.bipush (-103), 2) := by decide +kernel
theorem dX11_row_12 : decode cX11_row 12 = .ok (.ireturn, 1) := by decide +kernel
theorem dX11_row_13 : decode cX11_row 13 = .ok (.iload_n 1, 1) := by decide +kernel
theorem dX11_row_14 : decode cX11_row 14 = .ok (.iconst 0, 1) := by decide +kernel
theorem dX11_row_15 : decode cX11_row 15 = .ok (.aload_n 0, 1) := by decide +kernel
theorem dX11_row_16 : decode cX11_row 16 = .ok (.getfield 26, 3) := by decide +kernel
theorem dX11_row_19 : decode cX11_row 19 = .ok (.getfield 87, 3) := by decide +kernel
theorem dX11_row_22 : decode cX11_row 22 = .ok (.invokestatic 264, 3) := by decide +kernel
theorem dX11_row_25 : decode cX11_row 25 = .ok (.iconst 1, 1) := by decide +kernel
theorem dX11_row_26 : decode cX11_row 26 = .ok (.isub, 1) := by decide +kernel
theorem dX11_row_27 : decode cX11_row 27 = .ok (.invokestatic 105, 3) := by decide +kernel
theorem dX11_row_30 : decode cX11_row 30 = .ok (.ifCond .ne 6, 3) := by decide +kernel
theorem dX11_row_33 : decode cX11_row 33 = .ok (.bipush (-102), 2) := by decide +kernel
theorem dX11_row_35 : decode cX11_row 35 = .ok (.ireturn, 1) := by decide +kernel
theorem dX11_row_36 : decode cX11_row 36 = .ok (.lload_n 2, 1) := by decide +kernel
theorem dX11_row_37 : decode cX11_row 37 = .ok (.ldc2_w 120, 3) := by decide +kernel
theorem dX11_row_40 : decode cX11_row 40 = .ok (.lcmp, 1) := by decide +kernel
theorem dX11_row_41 : decode cX11_row 41 = .ok (.ifCond .lt 18, 3) := by decide +kernel
theorem dX11_row_44 : decode cX11_row 44 = .ok (.lload_n 2, 1) := by decide +kernel
theorem dX11_row_45 : decode cX11_row 45 = .ok (.aload_n 0, 1) := by decide +kernel
theorem dX11_row_46 : decode cX11_row 46 = .ok (.getfield 26, 3) := by decide +kernel
theorem dX11_row_49 : decode cX11_row 49 = .ok (.getfield 87, 3) := by decide +kernel
theorem dX11_row_52 : decode cX11_row 52 = .ok (.invokestatic 267, 3) := by decide +kernel
theorem dX11_row_55 : decode cX11_row 55 = .ok (.lcmp, 1) := by decide +kernel
theorem dX11_row_56 : decode cX11_row 56 = .ok (.ifCond .lt 6, 3) := by decide +kernel
theorem dX11_row_59 : decode cX11_row 59 = .ok (.bipush (-102), 2) := by decide +kernel
theorem dX11_row_61 : decode cX11_row 61 = .ok (.ireturn, 1) := by decide +kernel
theorem dX11_row_62 : decode cX11_row 62 = .ok (.aload_n 0, 1) := by decide +kernel
theorem dX11_row_63 : decode cX11_row 63 = .ok (.getfield 55, 3) := by decide +kernel
theorem dX11_row_66 : decode cX11_row 66 = .ok (.getfield 83, 3) := by decide +kernel
theorem dX11_row_69 : decode cX11_row 69 = .ok (.bipush 24, 2) := by decide +kernel
theorem dX11_row_71 : decode cX11_row 71 = .ok (.if_icmp .lt 6, 3) := by decide +kernel
theorem dX11_row_74 : decode cX11_row 74 = .ok (.bipush (-104), 2) := by decide +kernel
theorem dX11_row_76 : decode cX11_row 76 = .ok (.ireturn, 1) := by decide +kernel
theorem dX11_row_77 : decode cX11_row 77 = .ok (.aload_n 0, 1) := by decide +kernel
theorem dX11_row_78 : decode cX11_row 78 = .ok (.getfield 55, 3) := by decide +kernel
theorem dX11_row_81 : decode cX11_row 81 = .ok (.iload_n 1, 1) := by decide +kernel
theorem dX11_row_82 : decode cX11_row 82 = .ok (.lload_n 2, 1) := by decide +kernel
theorem dX11_row_83 : decode cX11_row 83 = .ok (.invokevirtual 271, 3) := by decide +kernel
theorem dX11_row_86 : decode cX11_row 86 = .ok (.aload_n 0, 1) := by decide +kernel
theorem dX11_row_87 : decode cX11_row 87 = .ok (.getfield 55, 3) := by decide +kernel
theorem dX11_row_90 : decode cX11_row 90 = .ok (.getfield 83, 3) := by decide +kernel
theorem dX11_row_93 : decode cX11_row 93 = .ok (.ireturn, 1) := by decide +kernel

set_option maxHeartbeats 4000000 in
set_option maxRecDepth 100000 in
theorem x_row (l : Launch) (D : va_G) (x0 : Nat) (pg : Nat) (rd : Nat) (aq : Nat) (py : Nat) (pl : Nat) (ch : Nat) (ro : Nat) (a1 : Nat) (a2 : Nat) (a3 : Nat) (a4 : Nat) (p1 : Int32) (p2 : Int64) : Met l yX11_row (Cond.code yX11_row cX11_row 4 (some .int) :: gw_tbl) ({ frames := 1, cells := 0, slots := 0, locals := 20 }) (pc_S D [] [(x0, .inr (11, [.ref pg, .ref rd, .ref aq, .ref py, .ref pl, .ref ch, .ref ro, .int 0, .int 0])), (aq, .inr (5, [.ref a1, .ref a2, .ref a3, .ref a4, .int 0, .int 0, .long 0]))] [.ref x0, .int p1, .long p2]) (vp_Si (fun r => r = (-103))) 0 0 (fun _ => False) := by
  refine Met.ofW (cc := cX11_row) (maxL := 4) (ret := (some .int)) (by decide) rfl ?_
  intro p e s m args below meth c s₁ B hml hv
  obtain ⟨hargs, hP, hK⟩ := hv
  have hx := B.exec
  have hb := B.bytes
  have hr := B.returns
  have hts := atoms_spec (ws := Cond.code yX11_row cX11_row 4 (some .int) :: gw_tbl) B.pre
  have hg := fun (w : Cond) (h : w ∈ gw_tbl) => hts w (List.mem_cons_of_mem _ h)
  have hown : s.vm.findClass RX11 = some m.cls := findClass_of_methodNamed B.named
  have hlocks := B.notSynchronized
  have hl := lv_entry ([.ref x0, .int p1, .long p2]) (n := 4) (Nat.le_of_ble_eq_true rfl)
  rw [show entryFrame m args 4 = F0 m 0 (lg_sl ([.ref x0, .int p1, .long p2]) ++ List.replicate (4 - (lg_sl ([.ref x0, .int p1, .long p2])).length) Slot.unset).toArray [] from by rw [hargs]; exact lg_entry_eq ..]
  generalize (lg_sl ([.ref x0, .int p1, .long p2]) ++ List.replicate (4 - (lg_sl ([.ref x0, .int p1, .long p2])).length) Slot.unset).toArray = ls at hl ⊢
  have hl : lv_has ls 4 [(0, .ref x0), (1, .int p1), (2, .long p2)] := hl
  refine W_genQ (fun Q hQ => ?_)
  refine lv_aload_n hx hb dX11_row_0 rfl (lv_at hl 0 rfl) ?_
  refine va_get (D := D) (ci := 11) (v := .ref aq) (C := RX11) (T := TX11) (N := 9) hx hb hg gwX11 hown hK hP 0 rfl rfl 2 (by decide) (hg _ kw_7) (fun _ h9 => h9) rfl dX11_row_1 ?_
  have hPc := hP.sub (ws' := [(aq, .inr (5, [.ref a1, .ref a2, .ref a3, .ref a4, .int 0, .int 0, .long 0]))]) [1] rfl
  have hKc := hK.sub (tys' := []) [] rfl
  refine vp_callSi (W.runV (As := []) (rest := []) ⟨hx, hb, hml, hown, hg⟩ (q_stands l D aq a1 a2 a3 a4) (cwV 0 hg (gw_V kw_28 kw_29 kw_30 kw_12 kw_27) rfl rfl rfl (by decide +kernel) ⟨Nat.le_of_ble_eq_true rfl, Nat.le_of_ble_eq_true rfl⟩) (pr_SV (q := (RX5, TX5, 7)) 5 0 hKc hPc rfl rfl) rfl rfl hl.1 rfl (lv_room (Nat.le_of_ble_eq_true rfl)) dX11_row_4 ⟨Nat.le_of_ble_eq_true rfl, Nat.le_of_ble_eq_true rfl⟩) (fun r_4 h_4 => ?_)
  obtain rfl : r_4 = (0 : Int32) := h_4
  refine lv_if_ne (tgt := 13) hx hb dX11_row_7 (by decide) (fun c_7 => absurd c_7 (by decide)) (fun c_7 => ?_)
  refine lv_bipush (v := (-103)) hx hb dX11_row_10 (by decide) ?_
  subst hQ
  exact W.iret (v := (-103)) hx hb hr (fun t ht hW => ⟨(-103), rfl, rfl, ht⟩) (fun _ h => absurd h List.not_mem_nil) dX11_row_12

theorem dX11_alike_0 : decode cX11_alike 0 = .ok (.aload_n 0, 1) := by decide +kernel
theorem dX11_alike_1 : decode cX11_alike 1 = .ok (.getfield 26, 3) := by decide +kernel
theorem dX11_alike_4 : decode cX11_alike 4 = .ok (.iload_n 1, 1) := by decide +kernel
theorem dX11_alike_5 : decode cX11_alike 5 = .ok (.invokevirtual 98, 3) := by decide +kernel
theorem dX11_alike_8 : decode cX11_alike 8 = .ok (.ifCond .eq 19, 3) := by decide +kernel
theorem dX11_alike_11 : decode cX11_alike 11 = .ok (.aload_n 0, 1) := by decide +kernel
theorem dX11_alike_12 : decode cX11_alike 12 = .ok (.getfield 26, 3) := by decide +kernel
theorem dX11_alike_15 : decode cX11_alike 15 = .ok (.iload_n 2, 1) := by decide +kernel
theorem dX11_alike_16 : decode cX11_alike 16 = .ok (.invokevirtual 98, 3) := by decide +kernel
theorem dX11_alike_19 : decode cX11_alike 19 = .ok (.ifCond .eq 8, 3) := by decide +kernel
theorem dX11_alike_22 : decode cX11_alike 22 = .ok (.iload_n 1, 1) := by decide +kernel
theorem dX11_alike_23 : decode cX11_alike 23 = .ok (.iload_n 2, 1) := by decide +kernel
theorem dX11_alike_24 : decode cX11_alike 24 = .ok (.if_icmp .ne 7, 3) := by decide +kernel
theorem dX11_alike_27 : decode cX11_alike 27 = .ok (.ldc_w 274, 3) := by decide +kernel
theorem dX11_alike_30 : decode cX11_alike 30 = .ok (.ireturn, 1) := by decide +kernel
theorem dX11_alike_31 : decode cX11_alike 31 = .ok (.iload_n 3, 1) := by decide +kernel
theorem dX11_alike_32 : decode cX11_alike 32 = .ok (.iconst 0, 1) := by decide +kernel
theorem dX11_alike_33 : decode cX11_alike 33 = .ok (.iconst 3, 1) := by decide +kernel
theorem dX11_alike_34 : decode cX11_alike 34 = .ok (.invokestatic 105, 3) := by decide +kernel
theorem dX11_alike_37 : decode cX11_alike 37 = .ok (.ifCond .ne 7, 3) := by decide +kernel
theorem dX11_alike_40 : decode cX11_alike 40 = .ok (.ldc_w 275, 3) := by decide +kernel
theorem dX11_alike_43 : decode cX11_alike 43 = .ok (.ireturn, 1) := by decide +kernel
theorem dX11_alike_44 : decode cX11_alike 44 = .ok (.aload_n 0, 1) := by decide +kernel
theorem dX11_alike_45 : decode cX11_alike 45 = .ok (.getfield 55, 3) := by decide +kernel
theorem dX11_alike_48 : decode cX11_alike 48 = .ok (.iload_n 1, 1) := by decide +kernel
theorem dX11_alike_49 : decode cX11_alike 49 = .ok (.iload_n 2, 1) := by decide +kernel
theorem dX11_alike_50 : decode cX11_alike 50 = .ok (.invokevirtual 276, 3) := by decide +kernel
theorem dX11_alike_53 : decode cX11_alike 53 = .ok (.istore 4, 2) := by decide +kernel
theorem dX11_alike_55 : decode cX11_alike 55 = .ok (.iload_n 3, 1) := by decide +kernel
theorem dX11_alike_56 : decode cX11_alike 56 = .ok (.iconst 2, 1) := by decide +kernel
theorem dX11_alike_57 : decode cX11_alike 57 = .ok (.if_icmp .lt 7, 3) := by decide +kernel
theorem dX11_alike_60 : decode cX11_alike 60 = .ok (.iconst 1, 1) := by decide +kernel
theorem dX11_alike_61 : decode cX11_alike 61 = .ok (.goto 4, 3) := by decide +kernel
theorem dX11_alike_64 : decode cX11_alike 64 = .ok (.iconst 0, 1) := by decide +kernel
theorem dX11_alike_65 : decode cX11_alike 65 = .ok (.istore 5, 2) := by decide +kernel
theorem dX11_alike_67 : decode cX11_alike 67 = .ok (.iload 4, 2) := by decide +kernel
theorem dX11_alike_69 : decode cX11_alike 69 = .ok (.iload 5, 2) := by decide +kernel
theorem dX11_alike_71 : decode cX11_alike 71 = .ok (.ifCond .eq 7, 3) := by decide +kernel
theorem dX11_alike_74 : decode cX11_alike 74 = .ok (.iconst 2, 1) := by decide +kernel
theorem dX11_alike_75 : decode cX11_alike 75 = .ok (.goto 4, 3) := by decide +kernel
theorem dX11_alike_78 : decode cX11_alike 78 = .ok (.iconst 1, 1) := by decide +kernel
theorem dX11_alike_79 : decode cX11_alike 79 = .ok (.if_icmp .ge 7, 3) := by decide +kernel
theorem dX11_alike_82 : decode cX11_alike 82 = .ok (.ldc_w 279, 3) := by decide +kernel
theorem dX11_alike_85 : decode cX11_alike 85 = .ok (.ireturn, 1) := by decide +kernel
theorem dX11_alike_86 : decode cX11_alike 86 = .ok (.aload_n 0, 1) := by decide +kernel
theorem dX11_alike_87 : decode cX11_alike 87 = .ok (.getfield 55, 3) := by decide +kernel
theorem dX11_alike_90 : decode cX11_alike 90 = .ok (.iload_n 1, 1) := by decide +kernel
theorem dX11_alike_91 : decode cX11_alike 91 = .ok (.iload_n 2, 1) := by decide +kernel
theorem dX11_alike_92 : decode cX11_alike 92 = .ok (.invokevirtual 280, 3) := by decide +kernel
theorem dX11_alike_95 : decode cX11_alike 95 = .ok (.istore 6, 2) := by decide +kernel
theorem dX11_alike_97 : decode cX11_alike 97 = .ok (.iload 5, 2) := by decide +kernel
theorem dX11_alike_99 : decode cX11_alike 99 = .ok (.ifCond .ne 15, 3) := by decide +kernel
theorem dX11_alike_102 : decode cX11_alike 102 = .ok (.iload 6, 2) := by decide +kernel
theorem dX11_alike_104 : decode cX11_alike 104 = .ok (.i2l, 1) := by decide +kernel
theorem dX11_alike_105 : decode cX11_alike 105 = .ok (.iload 4, 2) := by decide +kernel
theorem dX11_alike_107 : decode cX11_alike 107 = .ok (.i2l, 1) := by decide +kernel
theorem dX11_alike_108 : decode cX11_alike 108 = .ok (.iload_n 3, 1) := by decide +kernel
theorem dX11_alike_109 : decode cX11_alike 109 = .ok (.invokestatic 126, 3) := by decide +kernel
theorem dX11_alike_112 : decode cX11_alike 112 = .ok (.l2i, 1) := by decide +kernel
theorem dX11_alike_113 : decode cX11_alike 113 = .ok (.ireturn, 1) := by decide +kernel
theorem dX11_alike_114 : decode cX11_alike 114 = .ok (.iload 4, 2) := by decide +kernel
theorem dX11_alike_116 : decode cX11_alike 116 = .ok (.iload 4, 2) := by decide +kernel
theorem dX11_alike_118 : decode cX11_alike 118 = .ok (.iconst 1, 1) := by decide +kernel
theorem dX11_alike_119 : decode cX11_alike 119 = .ok (.isub, 1) := by decide +kernel
theorem dX11_alike_120 : decode cX11_alike 120 = .ok (.imul, 1) := by decide +kernel
theorem dX11_alike_121 : decode cX11_alike 121 = .ok (.istore 7, 2) := by decide +kernel
theorem dX11_alike_123 : decode cX11_alike 123 = .ok (.iload 6, 2) := by decide +kernel
theorem dX11_alike_125 : decode cX11_alike 125 = .ok (.iload 4, 2) := by decide +kernel
theorem dX11_alike_127 : decode cX11_alike 127 = .ok (.iconst 1, 1) := by decide +kernel
theorem dX11_alike_128 : decode cX11_alike 128 = .ok (.isub, 1) := by decide +kernel
theorem dX11_alike_129 : decode cX11_alike 129 = .ok (.imul, 1) := by decide +kernel
theorem dX11_alike_130 : decode cX11_alike 130 = .ok (.aload_n 0, 1) := by decide +kernel
theorem dX11_alike_131 : decode cX11_alike 131 = .ok (.getfield 55, 3) := by decide +kernel
theorem dX11_alike_134 : decode cX11_alike 134 = .ok (.iload_n 1, 1) := by decide +kernel
theorem dX11_alike_135 : decode cX11_alike 135 = .ok (.iload_n 2, 1) := by decide +kernel
theorem dX11_alike_136 : decode cX11_alike 136 = .ok (.invokevirtual 283, 3) := by decide +kernel
theorem dX11_alike_139 : decode cX11_alike 139 = .ok (.isub, 1) := by decide +kernel
theorem dX11_alike_140 : decode cX11_alike 140 = .ok (.istore 8, 2) := by decide +kernel
theorem dX11_alike_142 : decode cX11_alike 142 = .ok (.iload 8, 2) := by decide +kernel
theorem dX11_alike_144 : decode cX11_alike 144 = .ok (.i2l, 1) := by decide +kernel
theorem dX11_alike_145 : decode cX11_alike 145 = .ok (.iload 7, 2) := by decide +kernel
theorem dX11_alike_147 : decode cX11_alike 147 = .ok (.i2l, 1) := by decide +kernel
theorem dX11_alike_148 : decode cX11_alike 148 = .ok (.iload_n 3, 1) := by decide +kernel
theorem dX11_alike_149 : decode cX11_alike 149 = .ok (.iconst 2, 1) := by decide +kernel
theorem dX11_alike_150 : decode cX11_alike 150 = .ok (.isub, 1) := by decide +kernel
theorem dX11_alike_151 : decode cX11_alike 151 = .ok (.invokestatic 126, 3) := by decide +kernel
theorem dX11_alike_154 : decode cX11_alike 154 = .ok (.l2i, 1) := by decide +kernel
theorem dX11_alike_155 : decode cX11_alike 155 = .ok (.ireturn, 1) := by decide +kernel
theorem kw_31 : (.constant RX11 274 (-1000001) : Cond) ∈ gw_tbl := gw_in (by decide +kernel) (by decide +kernel)

set_option maxHeartbeats 4000000 in
set_option maxRecDepth 100000 in
theorem x_alike (l : Launch) (D : va_G) (x0 : Nat) (pg : Nat) (rd : Nat) (aq : Nat) (py : Nat) (pl : Nat) (ch : Nat) (ro : Nat) (a1 : Nat) (a2 : Nat) (a3 : Nat) (a4 : Nat) (p1 : Int32) (p2 : Int32) (p3 : Int32) : Met l yX11_alike (Cond.code yX11_alike cX11_alike 9 (some .int) :: gw_tbl) ({ frames := 1, cells := 0, slots := 0, locals := 21 }) (pc_S D [] [(x0, .inr (11, [.ref pg, .ref rd, .ref aq, .ref py, .ref pl, .ref ch, .ref ro, .int 0, .int 0])), (aq, .inr (5, [.ref a1, .ref a2, .ref a3, .ref a4, .int 0, .int 0, .long 0]))] [.ref x0, .int p1, .int p2, .int p3]) (vp_Si (fun r => r = (-1000001))) 0 0 (fun _ => False) := by
  refine Met.ofW (cc := cX11_alike) (maxL := 9) (ret := (some .int)) (by decide) rfl ?_
  intro p e s m args below meth c s₁ B hml hv
  obtain ⟨hargs, hP, hK⟩ := hv
  have hx := B.exec
  have hb := B.bytes
  have hr := B.returns
  have hts := atoms_spec (ws := Cond.code yX11_alike cX11_alike 9 (some .int) :: gw_tbl) B.pre
  have hg := fun (w : Cond) (h : w ∈ gw_tbl) => hts w (List.mem_cons_of_mem _ h)
  have hown : s.vm.findClass RX11 = some m.cls := findClass_of_methodNamed B.named
  have hlocks := B.notSynchronized
  have hl := lv_entry ([.ref x0, .int p1, .int p2, .int p3]) (n := 9) (Nat.le_of_ble_eq_true rfl)
  rw [show entryFrame m args 9 = F0 m 0 (lg_sl ([.ref x0, .int p1, .int p2, .int p3]) ++ List.replicate (9 - (lg_sl ([.ref x0, .int p1, .int p2, .int p3])).length) Slot.unset).toArray [] from by rw [hargs]; exact lg_entry_eq ..]
  generalize (lg_sl ([.ref x0, .int p1, .int p2, .int p3]) ++ List.replicate (9 - (lg_sl ([.ref x0, .int p1, .int p2, .int p3])).length) Slot.unset).toArray = ls at hl ⊢
  have hl : lv_has ls 9 [(0, .ref x0), (1, .int p1), (2, .int p2), (3, .int p3)] := hl
  refine W_genQ (fun Q hQ => ?_)
  refine lv_aload_n hx hb dX11_alike_0 rfl (lv_at hl 0 rfl) ?_
  refine va_get (D := D) (ci := 11) (v := .ref aq) (C := RX11) (T := TX11) (N := 9) hx hb hg gwX11 hown hK hP 0 rfl rfl 2 (by decide) (hg _ kw_7) (fun _ h9 => h9) rfl dX11_alike_1 ?_
  refine lv_iload_n hx hb dX11_alike_4 rfl (lv_at hl 1 rfl) ?_
  have hPc := hP.sub (ws' := [(aq, .inr (5, [.ref a1, .ref a2, .ref a3, .ref a4, .int 0, .int 0, .long 0]))]) [1] rfl
  have hKc := hK.sub (tys' := []) [] rfl
  refine vp_callSi (W.runV (As := [.int p1]) (rest := []) ⟨hx, hb, hml, hown, hg⟩ (q_hasPerson l D aq a1 a2 a3 a4 p1) (cwV 1 hg (gw_V kw_14 kw_15 kw_16 kw_12 kw_13) rfl rfl rfl (by decide +kernel) ⟨Nat.le_of_ble_eq_true rfl, Nat.le_of_ble_eq_true rfl⟩) (pr_SV (q := (RX5, TX5, 7)) 5 0 hKc hPc rfl rfl) rfl rfl hl.1 rfl (lv_room (Nat.le_of_ble_eq_true rfl)) dX11_alike_5 ⟨Nat.le_of_ble_eq_true rfl, Nat.le_of_ble_eq_true rfl⟩) (fun r_5 h_5 => ?_)
  obtain rfl : r_5 = (0 : Int32) := h_5
  refine lv_if_eq (tgt := 27) hx hb dX11_alike_8 (by decide) (fun c_8 => ?_) (fun c_8 => absurd c_8 (by decide))
  refine lv_ldcw hx hb hown (hg _ kw_31) dX11_alike_27 ?_
  subst hQ
  exact W.iret (v := (-1000001)) hx hb hr (fun t ht hW => ⟨(-1000001), rfl, rfl, ht⟩) (fun _ h => absurd h List.not_mem_nil) dX11_alike_30

theorem dX11_crowd_0 : decode cX11_crowd 0 = .ok (.iload_n 1, 1) := by decide +kernel
theorem dX11_crowd_1 : decode cX11_crowd 1 = .ok (.iconst 0, 1) := by decide +kernel
theorem dX11_crowd_2 : decode cX11_crowd 2 = .ok (.aload_n 0, 1) := by decide +kernel
theorem dX11_crowd_3 : decode cX11_crowd 3 = .ok (.getfield 55, 3) := by decide +kernel
theorem dX11_crowd_6 : decode cX11_crowd 6 = .ok (.getfield 83, 3) := by decide +kernel
theorem dX11_crowd_9 : decode cX11_crowd 9 = .ok (.iconst 1, 1) := by decide +kernel
theorem dX11_crowd_10 : decode cX11_crowd 10 = .ok (.isub, 1) := by decide +kernel
theorem dX11_crowd_11 : decode cX11_crowd 11 = .ok (.invokestatic 105, 3) := by decide +kernel
theorem dX11_crowd_14 : decode cX11_crowd 14 = .ok (.ifCond .ne 6, 3) := by decide +kernel
theorem dX11_crowd_17 : decode cX11_crowd 17 = .ok (.bipush (-101), 2) := by decide +kernel
theorem dX11_crowd_19 : decode cX11_crowd 19 = .ok (.ireturn, 1) := by decide +kernel
theorem dX11_crowd_20 : decode cX11_crowd 20 = .ok (.iload_n 2, 1) := by decide +kernel
theorem dX11_crowd_21 : decode cX11_crowd 21 = .ok (.iconst 0, 1) := by decide +kernel
theorem dX11_crowd_22 : decode cX11_crowd 22 = .ok (.iconst 1, 1) := by decide +kernel
theorem dX11_crowd_23 : decode cX11_crowd 23 = .ok (.invokestatic 105, 3) := by decide +kernel
theorem dX11_crowd_26 : decode cX11_crowd 26 = .ok (.ifCond .ne 6, 3) := by decide +kernel
theorem dX11_crowd_29 : decode cX11_crowd 29 = .ok (.bipush (-102), 2) := by decide +kernel
theorem dX11_crowd_31 : decode cX11_crowd 31 = .ok (.ireturn, 1) := by decide +kernel
theorem dX11_crowd_32 : decode cX11_crowd 32 = .ok (.iload_n 2, 1) := by decide +kernel
theorem dX11_crowd_33 : decode cX11_crowd 33 = .ok (.ifCond .ne 21, 3) := by decide +kernel
theorem dX11_crowd_36 : decode cX11_crowd 36 = .ok (.aload_n 0, 1) := by decide +kernel
theorem dX11_crowd_37 : decode cX11_crowd 37 = .ok (.getfield 55, 3) := by decide +kernel
theorem dX11_crowd_40 : decode cX11_crowd 40 = .ok (.iload_n 1, 1) := by decide +kernel
theorem dX11_crowd_41 : decode cX11_crowd 41 = .ok (.aload_n 0, 1) := by decide +kernel
theorem dX11_crowd_42 : decode cX11_crowd 42 = .ok (.getfield 26, 3) := by decide +kernel
theorem dX11_crowd_45 : decode cX11_crowd 45 = .ok (.getfield 87, 3) := by decide +kernel
theorem dX11_crowd_48 : decode cX11_crowd 48 = .ok (.invokevirtual 286, 3) := by decide +kernel
theorem dX11_crowd_51 : decode cX11_crowd 51 = .ok (.goto 18, 3) := by decide +kernel
theorem dX11_crowd_54 : decode cX11_crowd 54 = .ok (.aload_n 0, 1) := by decide +kernel
theorem dX11_crowd_55 : decode cX11_crowd 55 = .ok (.getfield 55, 3) := by decide +kernel
theorem dX11_crowd_58 : decode cX11_crowd 58 = .ok (.iload_n 1, 1) := by decide +kernel
theorem dX11_crowd_59 : decode cX11_crowd 59 = .ok (.aload_n 0, 1) := by decide +kernel
theorem dX11_crowd_60 : decode cX11_crowd 60 = .ok (.getfield 26, 3) := by decide +kernel
theorem dX11_crowd_63 : decode cX11_crowd 63 = .ok (.getfield 87, 3) := by decide +kernel
theorem dX11_crowd_66 : decode cX11_crowd 66 = .ok (.invokevirtual 289, 3) := by decide +kernel
theorem dX11_crowd_69 : decode cX11_crowd 69 = .ok (.ireturn, 1) := by decide +kernel
theorem kw_32 : (.fieldLink RX11 55 "NobodyChecks" "rows" "LNobodyChecks$Rows;" : Cond) ∈ gw_tbl := gw_in (by decide +kernel) (by decide +kernel)
theorem kw_33 : (.fieldLink RX11 83 "NobodyChecks$Rows" "size" "I" : Cond) ∈ gw_tbl := gw_in (by decide +kernel) (by decide +kernel)

set_option maxHeartbeats 4000000 in
set_option maxRecDepth 100000 in
theorem x_crowd (l : Launch) (D : va_G) (x0 : Nat) (pg : Nat) (rd : Nat) (aq : Nat) (py : Nat) (pl : Nat) (ch : Nat) (ro : Nat) (r1 : Nat) (r2 : Nat) (p1 : Int32) (p2 : Int32) : Met l yX11_crowd (Cond.code yX11_crowd cX11_crowd 3 (some .int) :: gw_tbl) ({ frames := 1, cells := 0, slots := 0, locals := 22 }) (pc_S D [] [(x0, .inr (11, [.ref pg, .ref rd, .ref aq, .ref py, .ref pl, .ref ch, .ref ro, .int 0, .int 0])), (ro, .inr (8, [.ref r1, .ref r2, .int 0]))] [.ref x0, .int p1, .int p2]) (vp_Si (fun r => r = (-101))) 0 0 (fun _ => False) := by
  refine Met.ofW (cc := cX11_crowd) (maxL := 3) (ret := (some .int)) (by decide) rfl ?_
  intro p e s m args below meth c s₁ B hml hv
  obtain ⟨hargs, hP, hK⟩ := hv
  have hx := B.exec
  have hb := B.bytes
  have hr := B.returns
  have hts := atoms_spec (ws := Cond.code yX11_crowd cX11_crowd 3 (some .int) :: gw_tbl) B.pre
  have hg := fun (w : Cond) (h : w ∈ gw_tbl) => hts w (List.mem_cons_of_mem _ h)
  have hown : s.vm.findClass RX11 = some m.cls := findClass_of_methodNamed B.named
  have hlocks := B.notSynchronized
  have hl := lv_entry ([.ref x0, .int p1, .int p2]) (n := 3) (Nat.le_of_ble_eq_true rfl)
  rw [show entryFrame m args 3 = F0 m 0 (lg_sl ([.ref x0, .int p1, .int p2]) ++ List.replicate (3 - (lg_sl ([.ref x0, .int p1, .int p2])).length) Slot.unset).toArray [] from by rw [hargs]; exact lg_entry_eq ..]
  generalize (lg_sl ([.ref x0, .int p1, .int p2]) ++ List.replicate (3 - (lg_sl ([.ref x0, .int p1, .int p2])).length) Slot.unset).toArray = ls at hl ⊢
  have hl : lv_has ls 3 [(0, .ref x0), (1, .int p1), (2, .int p2)] := hl
  refine W_genQ (fun Q hQ => ?_)
  refine lv_iload_n hx hb dX11_crowd_0 rfl (lv_at hl 1 rfl) ?_
  refine lv_iconst (v := 0) hx hb dX11_crowd_1 (by decide) ?_
  refine lv_aload_n hx hb dX11_crowd_2 rfl (lv_at hl 0 rfl) ?_
  refine va_get (D := D) (ci := 11) (v := .ref ro) (C := RX11) (T := TX11) (N := 9) hx hb hg gwX11 hown hK hP 0 rfl rfl 6 (by decide) (hg _ kw_32) (fun _ h9 => h9) rfl dX11_crowd_3 ?_
  refine va_get (D := D) (ci := 8) (v := .int 0) (C := RX8) (T := TX8) (N := 3) hx hb hg gwX8 hown hK hP 1 rfl rfl 2 (by decide) (hg _ kw_33) (fun _ h9 => h9) rfl dX11_crowd_6 ?_
  refine lv_iconst (v := 1) hx hb dX11_crowd_9 (by decide) ?_
  refine lv_isub hx hb dX11_crowd_10 ?_
  refine lv_topi (fun z_10 e_10 => ?_)
  obtain rfl : z_10 = ((-1) : Int32) := e_10.trans (by decide)
  refine vp_callSi (W.runS (As := [.int p1, .int 0, .int (-1)]) (rest := []) ⟨hx, hb, hml, hown, hg⟩ (c_isWithin l p1 0 (-1)) (va_cwS 3 hg (gw_S kw_4 kw_5 kw_6 kw_3) rfl rfl rfl (by decide +kernel) ⟨Nat.le_of_ble_eq_true rfl, Nat.le_of_ble_eq_true rfl⟩) pr_0 rfl rfl hl.1 rfl (lv_room (Nat.le_of_ble_eq_true rfl)) dX11_crowd_11 ⟨Nat.le_of_ble_eq_true rfl, Nat.le_of_ble_eq_true rfl⟩) (fun r_11 h_11 => ?_)
  obtain rfl : r_11 = (0 : Int32) := h_11.trans (iw_no (by decide))
  refine lv_if_ne (tgt := 20) hx hb dX11_crowd_14 (by decide) (fun c_14 => absurd c_14 (by decide)) (fun c_14 => ?_)
  refine lv_bipush (v := (-101)) hx hb dX11_crowd_17 (by decide) ?_
  subst hQ
  exact W.iret (v := (-101)) hx hb hr (fun t ht hW => ⟨(-101), rfl, rfl, ht⟩) (fun _ h => absurd h List.not_mem_nil) dX11_crowd_19

theorem dX11_count_0 : decode cX11_count 0 = .ok (.iload_n 1, 1) := by decide +kernel
theorem dX11_count_1 : decode cX11_count 1 = .ok (.tableswitch 81 0 5 #[39, 47, 55, 60, 68, 76], 39) := by decide +kernel
theorem dX11_count_40 : decode cX11_count 40 = .ok (.aload_n 0, 1) := by decide +kernel
theorem dX11_count_41 : decode cX11_count 41 = .ok (.getfield 26, 3) := by decide +kernel
theorem dX11_count_44 : decode cX11_count 44 = .ok (.getfield 292, 3) := by decide +kernel
theorem dX11_count_47 : decode cX11_count 47 = .ok (.ireturn, 1) := by decide +kernel
theorem dX11_count_48 : decode cX11_count 48 = .ok (.aload_n 0, 1) := by decide +kernel
theorem dX11_count_49 : decode cX11_count 49 = .ok (.getfield 26, 3) := by decide +kernel
theorem dX11_count_52 : decode cX11_count 52 = .ok (.getfield 87, 3) := by decide +kernel
theorem dX11_count_55 : decode cX11_count 55 = .ok (.ireturn, 1) := by decide +kernel
theorem dX11_count_56 : decode cX11_count 56 = .ok (.aload_n 0, 1) := by decide +kernel
theorem dX11_count_57 : decode cX11_count 57 = .ok (.getfield 134, 3) := by decide +kernel
theorem dX11_count_60 : decode cX11_count 60 = .ok (.ireturn, 1) := by decide +kernel
theorem dX11_count_61 : decode cX11_count 61 = .ok (.aload_n 0, 1) := by decide +kernel
theorem dX11_count_62 : decode cX11_count 62 = .ok (.getfield 55, 3) := by decide +kernel
theorem dX11_count_65 : decode cX11_count 65 = .ok (.getfield 83, 3) := by decide +kernel
theorem dX11_count_68 : decode cX11_count 68 = .ok (.ireturn, 1) := by decide +kernel
theorem dX11_count_69 : decode cX11_count 69 = .ok (.aload_n 0, 1) := by decide +kernel
theorem dX11_count_70 : decode cX11_count 70 = .ok (.getfield 10, 3) := by decide +kernel
theorem dX11_count_73 : decode cX11_count 73 = .ok (.getfield 63, 3) := by decide +kernel
theorem dX11_count_76 : decode cX11_count 76 = .ok (.ireturn, 1) := by decide +kernel
theorem dX11_count_77 : decode cX11_count 77 = .ok (.aload_n 0, 1) := by decide +kernel
theorem dX11_count_78 : decode cX11_count 78 = .ok (.getfield 244, 3) := by decide +kernel
theorem dX11_count_81 : decode cX11_count 81 = .ok (.ireturn, 1) := by decide +kernel
theorem dX11_count_82 : decode cX11_count 82 = .ok (.bipush (-102), 2) := by decide +kernel
theorem dX11_count_84 : decode cX11_count 84 = .ok (.ireturn, 1) := by decide +kernel
theorem kw_34 : (.fieldLink RX11 292 "NobodyChecks$Question" "cases" "I" : Cond) ∈ gw_tbl := gw_in (by decide +kernel) (by decide +kernel)
theorem kw_35 : (.fieldLink RX11 87 "NobodyChecks$Question" "persons" "I" : Cond) ∈ gw_tbl := gw_in (by decide +kernel) (by decide +kernel)
theorem kw_36 : (.fieldLink RX11 10 "NobodyChecks" "page" "LNobodyChecks$Page;" : Cond) ∈ gw_tbl := gw_in (by decide +kernel) (by decide +kernel)
theorem kw_37 : (.fieldLink RX11 63 "NobodyChecks$Page" "size" "I" : Cond) ∈ gw_tbl := gw_in (by decide +kernel) (by decide +kernel)
theorem kw_38 : (.fieldLink RX11 244 "NobodyChecks" "tablesDone" "I" : Cond) ∈ gw_tbl := gw_in (by decide +kernel) (by decide +kernel)

set_option maxHeartbeats 4000000 in
set_option maxRecDepth 100000 in
theorem x_count (l : Launch) (D : va_G) (x0 : Nat) (pg : Nat) (rd : Nat) (aq : Nat) (py : Nat) (pl : Nat) (ch : Nat) (ro : Nat) (a1 : Nat) (a2 : Nat) (a3 : Nat) (a4 : Nat) (r1 : Nat) (r2 : Nat) (cd : Nat) (p1 : Int32) : Met l yX11_count (Cond.code yX11_count cX11_count 2 (some .int) :: gw_tbl) ({ frames := 0, cells := 0, slots := 0, locals := 0 }) (pc_S D [] [(x0, .inr (11, [.ref pg, .ref rd, .ref aq, .ref py, .ref pl, .ref ch, .ref ro, .int 0, .int 0])), (aq, .inr (5, [.ref a1, .ref a2, .ref a3, .ref a4, .int 0, .int 0, .long 0])), (ro, .inr (8, [.ref r1, .ref r2, .int 0])), (pg, .inr (2, [.ref cd, .int 0]))] [.ref x0, .int p1]) (vp_Si (fun r => r = cntf p1)) 0 0 (fun _ => False) := by
  refine Met.ofW (cc := cX11_count) (maxL := 2) (ret := (some .int)) (by decide) rfl ?_
  intro p e s m args below meth c s₁ B hml hv
  obtain ⟨hargs, hP, hK⟩ := hv
  have hx := B.exec
  have hb := B.bytes
  have hr := B.returns
  have hts := atoms_spec (ws := Cond.code yX11_count cX11_count 2 (some .int) :: gw_tbl) B.pre
  have hg := fun (w : Cond) (h : w ∈ gw_tbl) => hts w (List.mem_cons_of_mem _ h)
  have hown : s.vm.findClass RX11 = some m.cls := findClass_of_methodNamed B.named
  have hlocks := B.notSynchronized
  have hl := lv_entry ([.ref x0, .int p1]) (n := 2) (Nat.le_of_ble_eq_true rfl)
  rw [show entryFrame m args 2 = F0 m 0 (lg_sl ([.ref x0, .int p1]) ++ List.replicate (2 - (lg_sl ([.ref x0, .int p1])).length) Slot.unset).toArray [] from by rw [hargs]; exact lg_entry_eq ..]
  generalize (lg_sl ([.ref x0, .int p1]) ++ List.replicate (2 - (lg_sl ([.ref x0, .int p1])).length) Slot.unset).toArray = ls at hl ⊢
  have hl : lv_has ls 2 [(0, .ref x0), (1, .int p1)] := hl
  refine W_genQ (fun Q hQ => ?_)
  refine lv_iload_n hx hb dX11_count_0 rfl (lv_at hl 1 rfl) ?_
  by_cases t_1 : p1.toInt < 0 ∨ 5 < p1.toInt
  · refine lv_tableOut (tgt := 82) hx hb dX11_count_1 t_1 (by decide) ?_
    refine lv_bipush (v := (-102)) hx hb dX11_count_82 (by decide) ?_
    subst hQ
    exact W.iret (v := (-102)) hx hb hr (fun t ht hW => ⟨(-102), rfl, (if_pos t_1).symm, ht⟩) (fun _ h => absurd h List.not_mem_nil) dX11_count_84
  · rcases tw_5 t_1 with rfl | rfl | rfl | rfl | rfl | rfl
    · refine lv_tableIn (tgt := 40) hx hb dX11_count_1 (by decide) (by decide) rfl (by decide) ?_
      refine lv_aload_n hx hb dX11_count_40 rfl (lv_at hl 0 rfl) ?_
      refine va_get (D := D) (ci := 11) (v := .ref aq) (C := RX11) (T := TX11) (N := 9) hx hb hg gwX11 hown hK hP 0 rfl rfl 2 (by decide) (hg _ kw_7) (fun _ h9 => h9) rfl dX11_count_41 ?_
      refine va_get (D := D) (ci := 5) (v := .int 0) (C := RX5) (T := TX5) (N := 7) hx hb hg gwX5 hown hK hP 1 rfl rfl 4 (by decide) (hg _ kw_34) (fun _ h9 => h9) rfl dX11_count_44 ?_
      subst hQ
      exact W.iret (v := 0) hx hb hr (fun t ht hW => ⟨0, rfl, rfl, ht⟩) (fun _ h => absurd h List.not_mem_nil) dX11_count_47
    · refine lv_tableIn (tgt := 48) hx hb dX11_count_1 (by decide) (by decide) rfl (by decide) ?_
      refine lv_aload_n hx hb dX11_count_48 rfl (lv_at hl 0 rfl) ?_
      refine va_get (D := D) (ci := 11) (v := .ref aq) (C := RX11) (T := TX11) (N := 9) hx hb hg gwX11 hown hK hP 0 rfl rfl 2 (by decide) (hg _ kw_7) (fun _ h9 => h9) rfl dX11_count_49 ?_
      refine va_get (D := D) (ci := 5) (v := .int 0) (C := RX5) (T := TX5) (N := 7) hx hb hg gwX5 hown hK hP 1 rfl rfl 5 (by decide) (hg _ kw_35) (fun _ h9 => h9) rfl dX11_count_52 ?_
      subst hQ
      exact W.iret (v := 0) hx hb hr (fun t ht hW => ⟨0, rfl, rfl, ht⟩) (fun _ h => absurd h List.not_mem_nil) dX11_count_55
    · refine lv_tableIn (tgt := 56) hx hb dX11_count_1 (by decide) (by decide) rfl (by decide) ?_
      refine lv_aload_n hx hb dX11_count_56 rfl (lv_at hl 0 rfl) ?_
      refine va_get (D := D) (ci := 11) (v := .int 0) (C := RX11) (T := TX11) (N := 9) hx hb hg gwX11 hown hK hP 0 rfl rfl 7 (by decide) (hg _ kw_2) (fun _ h9 => h9) rfl dX11_count_57 ?_
      subst hQ
      exact W.iret (v := 0) hx hb hr (fun t ht hW => ⟨0, rfl, rfl, ht⟩) (fun _ h => absurd h List.not_mem_nil) dX11_count_60
    · refine lv_tableIn (tgt := 61) hx hb dX11_count_1 (by decide) (by decide) rfl (by decide) ?_
      refine lv_aload_n hx hb dX11_count_61 rfl (lv_at hl 0 rfl) ?_
      refine va_get (D := D) (ci := 11) (v := .ref ro) (C := RX11) (T := TX11) (N := 9) hx hb hg gwX11 hown hK hP 0 rfl rfl 6 (by decide) (hg _ kw_32) (fun _ h9 => h9) rfl dX11_count_62 ?_
      refine va_get (D := D) (ci := 8) (v := .int 0) (C := RX8) (T := TX8) (N := 3) hx hb hg gwX8 hown hK hP 2 rfl rfl 2 (by decide) (hg _ kw_33) (fun _ h9 => h9) rfl dX11_count_65 ?_
      subst hQ
      exact W.iret (v := 0) hx hb hr (fun t ht hW => ⟨0, rfl, rfl, ht⟩) (fun _ h => absurd h List.not_mem_nil) dX11_count_68
    · refine lv_tableIn (tgt := 69) hx hb dX11_count_1 (by decide) (by decide) rfl (by decide) ?_
      refine lv_aload_n hx hb dX11_count_69 rfl (lv_at hl 0 rfl) ?_
      refine va_get (D := D) (ci := 11) (v := .ref pg) (C := RX11) (T := TX11) (N := 9) hx hb hg gwX11 hown hK hP 0 rfl rfl 0 (by decide) (hg _ kw_36) (fun _ h9 => h9) rfl dX11_count_70 ?_
      refine va_get (D := D) (ci := 2) (v := .int 0) (C := RX2) (T := TX2) (N := 2) hx hb hg gwX2 hown hK hP 3 rfl rfl 1 (by decide) (hg _ kw_37) (fun _ h9 => h9) rfl dX11_count_73 ?_
      subst hQ
      exact W.iret (v := 0) hx hb hr (fun t ht hW => ⟨0, rfl, rfl, ht⟩) (fun _ h => absurd h List.not_mem_nil) dX11_count_76
    · refine lv_tableIn (tgt := 77) hx hb dX11_count_1 (by decide) (by decide) rfl (by decide) ?_
      refine lv_aload_n hx hb dX11_count_77 rfl (lv_at hl 0 rfl) ?_
      refine va_get (D := D) (ci := 11) (v := .int 0) (C := RX11) (T := TX11) (N := 9) hx hb hg gwX11 hown hK hP 0 rfl rfl 8 (by decide) (hg _ kw_38) (fun _ h9 => h9) rfl dX11_count_78 ?_
      subst hQ
      exact W.iret (v := 0) hx hb hr (fun t ht hW => ⟨0, rfl, rfl, ht⟩) (fun _ h => absurd h List.not_mem_nil) dX11_count_81

theorem dX11_mixed_0 : decode cX11_mixed 0 = .ok (.ldc2_w 328, 3) := by decide +kernel
theorem dX11_mixed_3 : decode cX11_mixed 3 = .ok (.lload_n 0, 1) := by decide +kernel
theorem dX11_mixed_4 : decode cX11_mixed 4 = .ok (.lmul, 1) := by decide +kernel
theorem dX11_mixed_5 : decode cX11_mixed 5 = .ok (.lload_n 2, 1) := by decide +kernel
theorem dX11_mixed_6 : decode cX11_mixed 6 = .ok (.ladd, 1) := by decide +kernel
theorem dX11_mixed_7 : decode cX11_mixed 7 = .ok (.lreturn, 1) := by decide +kernel
theorem kw_39 : (.constantLong RX11 328 (31) : Cond) ∈ gw_tbl := gw_in (by decide +kernel) (by decide +kernel)

set_option maxHeartbeats 4000000 in
set_option maxRecDepth 100000 in
theorem x_mixed (l : Launch) (v : Int64) (u : Int64) : Met l yX11_mixed (Cond.code yX11_mixed cX11_mixed 4 (some .long) :: gw_tbl) ({ frames := 0, cells := 0, slots := 0, locals := 0 }) (pc_0 [.long v, .long u]) (vp_Sl (fun r => r = 31 * v + u)) 0 0 (fun _ => False) := by
  refine Met.ofW (cc := cX11_mixed) (maxL := 4) (ret := (some .long)) (by decide) rfl ?_
  intro p e s m args below meth c s₁ B hml hv
  obtain ⟨hargs, -⟩ := hv
  have hx := B.exec
  have hb := B.bytes
  have hr := B.returns
  have hts := atoms_spec (ws := Cond.code yX11_mixed cX11_mixed 4 (some .long) :: gw_tbl) B.pre
  have hg := fun (w : Cond) (h : w ∈ gw_tbl) => hts w (List.mem_cons_of_mem _ h)
  have hown : s.vm.findClass RX11 = some m.cls := findClass_of_methodNamed B.named
  have hlocks := B.notSynchronized
  have hl := lv_entry ([.long v, .long u]) (n := 4) (Nat.le_of_ble_eq_true rfl)
  rw [show entryFrame m args 4 = F0 m 0 (lg_sl ([.long v, .long u]) ++ List.replicate (4 - (lg_sl ([.long v, .long u])).length) Slot.unset).toArray [] from by rw [hargs]; exact lg_entry_eq ..]
  generalize (lg_sl ([.long v, .long u]) ++ List.replicate (4 - (lg_sl ([.long v, .long u])).length) Slot.unset).toArray = ls at hl ⊢
  have hl : lv_has ls 4 [(0, .long v), (2, .long u)] := hl
  refine W_genQ (fun Q hQ => ?_)
  refine lv_ldc2 hx hb hown (hg _ kw_39) dX11_mixed_0 ?_
  refine lv_lload_n hx hb dX11_mixed_3 rfl (lv_at hl 0 rfl) ?_
  refine lv_lmul hx hb dX11_mixed_4 ?_
  refine lv_topl (fun z_4 e_4 => ?_)
  refine lv_lload_n hx hb dX11_mixed_5 rfl (lv_at hl 1 rfl) ?_
  refine lv_ladd hx hb dX11_mixed_6 ?_
  refine lv_topl (fun z_6 e_6 => ?_)
  subst hQ
  exact W.lret (v := z_6) hx hb hr (fun t ht hW => ⟨z_6, rfl, (by rw [e_6, e_4]), ht⟩) (fun _ h => absurd h List.not_mem_nil) dX11_mixed_7

theorem dX11_withQuestion_0 : decode cX11_withQuestion 0 = .ok (.lload_n 1, 1) := by decide +kernel
theorem dX11_withQuestion_1 : decode cX11_withQuestion 1 = .ok (.lstore_n 3, 1) := by decide +kernel
theorem dX11_withQuestion_2 : decode cX11_withQuestion 2 = .ok (.iconst 0, 1) := by decide +kernel
theorem dX11_withQuestion_3 : decode cX11_withQuestion 3 = .ok (.istore 5, 2) := by decide +kernel
theorem dX11_withQuestion_5 : decode cX11_withQuestion 5 = .ok (.iload 5, 2) := by decide +kernel
theorem dX11_withQuestion_7 : decode cX11_withQuestion 7 = .ok (.aload_n 0, 1) := by decide +kernel
theorem dX11_withQuestion_8 : decode cX11_withQuestion 8 = .ok (.getfield 26, 3) := by decide +kernel
theorem dX11_withQuestion_11 : decode cX11_withQuestion 11 = .ok (.getfield 292, 3) := by decide +kernel
theorem dX11_withQuestion_14 : decode cX11_withQuestion 14 = .ok (.if_icmp .ge 65, 3) := by decide +kernel
theorem dX11_withQuestion_17 : decode cX11_withQuestion 17 = .ok (.lload_n 3, 1) := by decide +kernel
theorem dX11_withQuestion_18 : decode cX11_withQuestion 18 = .ok (.aload_n 0, 1) := by decide +kernel
theorem dX11_withQuestion_19 : decode cX11_withQuestion 19 = .ok (.getfield 26, 3) := by decide +kernel
theorem dX11_withQuestion_22 : decode cX11_withQuestion 22 = .ok (.getfield 94, 3) := by decide +kernel
theorem dX11_withQuestion_25 : decode cX11_withQuestion 25 = .ok (.iload 5, 2) := by decide +kernel
theorem dX11_withQuestion_27 : decode cX11_withQuestion 27 = .ok (.iaload, 1) := by decide +kernel
theorem dX11_withQuestion_28 : decode cX11_withQuestion 28 = .ok (.i2l, 1) := by decide +kernel
theorem dX11_withQuestion_29 : decode cX11_withQuestion 29 = .ok (.invokestatic 310, 3) := by decide +kernel
theorem dX11_withQuestion_32 : decode cX11_withQuestion 32 = .ok (.lstore_n 3, 1) := by decide +kernel
theorem dX11_withQuestion_33 : decode cX11_withQuestion 33 = .ok (.iconst 0, 1) := by decide +kernel
theorem dX11_withQuestion_34 : decode cX11_withQuestion 34 = .ok (.istore 6, 2) := by decide +kernel
theorem dX11_withQuestion_36 : decode cX11_withQuestion 36 = .ok (.iload 6, 2) := by decide +kernel
theorem dX11_withQuestion_38 : decode cX11_withQuestion 38 = .ok (.aload_n 0, 1) := by decide +kernel
theorem dX11_withQuestion_39 : decode cX11_withQuestion 39 = .ok (.getfield 26, 3) := by decide +kernel
theorem dX11_withQuestion_42 : decode cX11_withQuestion 42 = .ok (.getfield 87, 3) := by decide +kernel
theorem dX11_withQuestion_45 : decode cX11_withQuestion 45 = .ok (.if_icmp .ge 28, 3) := by decide +kernel
theorem dX11_withQuestion_48 : decode cX11_withQuestion 48 = .ok (.lload_n 3, 1) := by decide +kernel
theorem dX11_withQuestion_49 : decode cX11_withQuestion 49 = .ok (.aload_n 0, 1) := by decide +kernel
theorem dX11_withQuestion_50 : decode cX11_withQuestion 50 = .ok (.getfield 26, 3) := by decide +kernel
theorem dX11_withQuestion_53 : decode cX11_withQuestion 53 = .ok (.getfield 101, 3) := by decide +kernel
theorem dX11_withQuestion_56 : decode cX11_withQuestion 56 = .ok (.iload 5, 2) := by decide +kernel
theorem dX11_withQuestion_58 : decode cX11_withQuestion 58 = .ok (.aaload, 1) := by decide +kernel
theorem dX11_withQuestion_59 : decode cX11_withQuestion 59 = .ok (.iload 6, 2) := by decide +kernel
theorem dX11_withQuestion_61 : decode cX11_withQuestion 61 = .ok (.iaload, 1) := by decide +kernel
theorem dX11_withQuestion_62 : decode cX11_withQuestion 62 = .ok (.i2l, 1) := by decide +kernel
theorem dX11_withQuestion_63 : decode cX11_withQuestion 63 = .ok (.invokestatic 310, 3) := by decide +kernel
theorem dX11_withQuestion_66 : decode cX11_withQuestion 66 = .ok (.lstore_n 3, 1) := by decide +kernel
theorem dX11_withQuestion_67 : decode cX11_withQuestion 67 = .ok (.iinc 6 1, 3) := by decide +kernel
theorem dX11_withQuestion_70 : decode cX11_withQuestion 70 = .ok (.goto (-34), 3) := by decide +kernel
theorem dX11_withQuestion_73 : decode cX11_withQuestion 73 = .ok (.iinc 5 1, 3) := by decide +kernel
theorem dX11_withQuestion_76 : decode cX11_withQuestion 76 = .ok (.goto (-71), 3) := by decide +kernel
theorem dX11_withQuestion_79 : decode cX11_withQuestion 79 = .ok (.iconst 0, 1) := by decide +kernel
theorem dX11_withQuestion_80 : decode cX11_withQuestion 80 = .ok (.istore 5, 2) := by decide +kernel
theorem dX11_withQuestion_82 : decode cX11_withQuestion 82 = .ok (.iload 5, 2) := by decide +kernel
theorem dX11_withQuestion_84 : decode cX11_withQuestion 84 = .ok (.aload_n 0, 1) := by decide +kernel
theorem dX11_withQuestion_85 : decode cX11_withQuestion 85 = .ok (.getfield 26, 3) := by decide +kernel
theorem dX11_withQuestion_88 : decode cX11_withQuestion 88 = .ok (.getfield 87, 3) := by decide +kernel
theorem dX11_withQuestion_91 : decode cX11_withQuestion 91 = .ok (.if_icmp .ge 25, 3) := by decide +kernel
theorem dX11_withQuestion_94 : decode cX11_withQuestion 94 = .ok (.lload_n 3, 1) := by decide +kernel
theorem dX11_withQuestion_95 : decode cX11_withQuestion 95 = .ok (.aload_n 0, 1) := by decide +kernel
theorem dX11_withQuestion_96 : decode cX11_withQuestion 96 = .ok (.getfield 26, 3) := by decide +kernel
theorem dX11_withQuestion_99 : decode cX11_withQuestion 99 = .ok (.getfield 109, 3) := by decide +kernel
theorem dX11_withQuestion_102 : decode cX11_withQuestion 102 = .ok (.iload 5, 2) := by decide +kernel
theorem dX11_withQuestion_104 : decode cX11_withQuestion 104 = .ok (.iaload, 1) := by decide +kernel
theorem dX11_withQuestion_105 : decode cX11_withQuestion 105 = .ok (.i2l, 1) := by decide +kernel
theorem dX11_withQuestion_106 : decode cX11_withQuestion 106 = .ok (.invokestatic 310, 3) := by decide +kernel
theorem dX11_withQuestion_109 : decode cX11_withQuestion 109 = .ok (.lstore_n 3, 1) := by decide +kernel
theorem dX11_withQuestion_110 : decode cX11_withQuestion 110 = .ok (.iinc 5 1, 3) := by decide +kernel
theorem dX11_withQuestion_113 : decode cX11_withQuestion 113 = .ok (.goto (-31), 3) := by decide +kernel
theorem dX11_withQuestion_116 : decode cX11_withQuestion 116 = .ok (.lload_n 3, 1) := by decide +kernel
theorem dX11_withQuestion_117 : decode cX11_withQuestion 117 = .ok (.lreturn, 1) := by decide +kernel

set_option maxHeartbeats 4000000 in
set_option maxRecDepth 100000 in
theorem x_withQuestion (l : Launch) (D : va_G) (x0 : Nat) (pg : Nat) (rd : Nat) (aq : Nat) (py : Nat) (pl : Nat) (ch : Nat) (ro : Nat) (a1 : Nat) (a2 : Nat) (a3 : Nat) (a4 : Nat) (v : Int64) : Met l yX11_withQuestion (Cond.code yX11_withQuestion cX11_withQuestion 7 (some .long) :: gw_tbl) ({ frames := 0, cells := 0, slots := 0, locals := 0 }) (pc_S D [] [(x0, .inr (11, [.ref pg, .ref rd, .ref aq, .ref py, .ref pl, .ref ch, .ref ro, .int 0, .int 0])), (aq, .inr (5, [.ref a1, .ref a2, .ref a3, .ref a4, .int 0, .int 0, .long 0]))] [.ref x0, .long v]) (vp_Sl (fun r => r = v)) 0 0 (fun _ => False) := by
  refine Met.ofW (cc := cX11_withQuestion) (maxL := 7) (ret := (some .long)) (by decide) rfl ?_
  intro p e s m args below meth c s₁ B hml hv
  obtain ⟨hargs, hP, hK⟩ := hv
  have hx := B.exec
  have hb := B.bytes
  have hr := B.returns
  have hts := atoms_spec (ws := Cond.code yX11_withQuestion cX11_withQuestion 7 (some .long) :: gw_tbl) B.pre
  have hg := fun (w : Cond) (h : w ∈ gw_tbl) => hts w (List.mem_cons_of_mem _ h)
  have hown : s.vm.findClass RX11 = some m.cls := findClass_of_methodNamed B.named
  have hlocks := B.notSynchronized
  have hl := lv_entry ([.ref x0, .long v]) (n := 7) (Nat.le_of_ble_eq_true rfl)
  rw [show entryFrame m args 7 = F0 m 0 (lg_sl ([.ref x0, .long v]) ++ List.replicate (7 - (lg_sl ([.ref x0, .long v])).length) Slot.unset).toArray [] from by rw [hargs]; exact lg_entry_eq ..]
  generalize (lg_sl ([.ref x0, .long v]) ++ List.replicate (7 - (lg_sl ([.ref x0, .long v])).length) Slot.unset).toArray = ls at hl ⊢
  have hl : lv_has ls 7 [(0, .ref x0), (1, .long v)] := hl
  refine W_genQ (fun Q hQ => ?_)
  refine lv_lload_n hx hb dX11_withQuestion_0 rfl (lv_at hl 1 rfl) ?_
  refine lv_lstore_n (lv' := [(3, .long v), (0, .ref x0), (1, .long v)]) hx hb dX11_withQuestion_1 rfl hl (by decide) rfl (fun ls hl => ?_)
  refine lv_iconst (v := 0) hx hb dX11_withQuestion_2 (by decide) ?_
  refine lv_istore (lv' := [(5, .int 0), (3, .long v), (0, .ref x0), (1, .long v)]) hx hb dX11_withQuestion_3 hl (by decide) rfl (fun ls hl => ?_)
  refine lv_iload hx hb dX11_withQuestion_5 (lv_at hl 0 rfl) ?_
  refine lv_aload_n hx hb dX11_withQuestion_7 rfl (lv_at hl 2 rfl) ?_
  refine va_get (D := D) (ci := 11) (v := .ref aq) (C := RX11) (T := TX11) (N := 9) hx hb hg gwX11 hown hK hP 0 rfl rfl 2 (by decide) (hg _ kw_7) (fun _ h9 => h9) rfl dX11_withQuestion_8 ?_
  refine va_get (D := D) (ci := 5) (v := .int 0) (C := RX5) (T := TX5) (N := 7) hx hb hg gwX5 hown hK hP 1 rfl rfl 4 (by decide) (hg _ kw_34) (fun _ h9 => h9) rfl dX11_withQuestion_11 ?_
  refine lv_icmp_ge (tgt := 79) hx hb dX11_withQuestion_14 (by decide) (fun c_14 => ?_) (fun c_14 => absurd c_14 (by decide))
  refine lv_iconst (v := 0) hx hb dX11_withQuestion_79 (by decide) ?_
  refine lv_istore (lv' := [(5, .int 0), (3, .long v), (0, .ref x0), (1, .long v)]) hx hb dX11_withQuestion_80 hl (by decide) rfl (fun ls hl => ?_)
  refine lv_iload hx hb dX11_withQuestion_82 (lv_at hl 0 rfl) ?_
  refine lv_aload_n hx hb dX11_withQuestion_84 rfl (lv_at hl 2 rfl) ?_
  refine va_get (D := D) (ci := 11) (v := .ref aq) (C := RX11) (T := TX11) (N := 9) hx hb hg gwX11 hown hK hP 0 rfl rfl 2 (by decide) (hg _ kw_7) (fun _ h9 => h9) rfl dX11_withQuestion_85 ?_
  refine va_get (D := D) (ci := 5) (v := .int 0) (C := RX5) (T := TX5) (N := 7) hx hb hg gwX5 hown hK hP 1 rfl rfl 5 (by decide) (hg _ kw_35) (fun _ h9 => h9) rfl dX11_withQuestion_88 ?_
  refine lv_icmp_ge (tgt := 116) hx hb dX11_withQuestion_91 (by decide) (fun c_91 => ?_) (fun c_91 => absurd c_91 (by decide))
  refine lv_lload_n hx hb dX11_withQuestion_116 rfl (lv_at hl 1 rfl) ?_
  subst hQ
  exact W.lret (v := v) hx hb hr (fun t ht hW => ⟨v, rfl, rfl, ht⟩) (fun _ h => absurd h List.not_mem_nil) dX11_withQuestion_117

theorem dX11_withPays_0 : decode cX11_withPays 0 = .ok (.lload_n 1, 1) := by decide +kernel
theorem dX11_withPays_1 : decode cX11_withPays 1 = .ok (.lstore_n 3, 1) := by decide +kernel
theorem dX11_withPays_2 : decode cX11_withPays 2 = .ok (.iconst 0, 1) := by decide +kernel
theorem dX11_withPays_3 : decode cX11_withPays 3 = .ok (.istore 5, 2) := by decide +kernel
theorem dX11_withPays_5 : decode cX11_withPays 5 = .ok (.iload 5, 2) := by decide +kernel
theorem dX11_withPays_7 : decode cX11_withPays 7 = .ok (.aload_n 0, 1) := by decide +kernel
theorem dX11_withPays_8 : decode cX11_withPays 8 = .ok (.getfield 134, 3) := by decide +kernel
theorem dX11_withPays_11 : decode cX11_withPays 11 = .ok (.if_icmp .ge 30, 3) := by decide +kernel
theorem dX11_withPays_14 : decode cX11_withPays 14 = .ok (.aload_n 0, 1) := by decide +kernel
theorem dX11_withPays_15 : decode cX11_withPays 15 = .ok (.iload 5, 2) := by decide +kernel
theorem dX11_withPays_17 : decode cX11_withPays 17 = .ok (.invokevirtual 145, 3) := by decide +kernel
theorem dX11_withPays_20 : decode cX11_withPays 20 = .ok (.astore 6, 2) := by decide +kernel
theorem dX11_withPays_22 : decode cX11_withPays 22 = .ok (.aload 6, 2) := by decide +kernel
theorem dX11_withPays_24 : decode cX11_withPays 24 = .ok (.ifnull 11, 3) := by decide +kernel
theorem dX11_withPays_27 : decode cX11_withPays 27 = .ok (.aload_n 0, 1) := by decide +kernel
theorem dX11_withPays_28 : decode cX11_withPays 28 = .ok (.lload_n 3, 1) := by decide +kernel
theorem dX11_withPays_29 : decode cX11_withPays 29 = .ok (.aload 6, 2) := by decide +kernel
theorem dX11_withPays_31 : decode cX11_withPays 31 = .ok (.invokevirtual 317, 3) := by decide +kernel
theorem dX11_withPays_34 : decode cX11_withPays 34 = .ok (.lstore_n 3, 1) := by decide +kernel
theorem dX11_withPays_35 : decode cX11_withPays 35 = .ok (.iinc 5 1, 3) := by decide +kernel
theorem dX11_withPays_38 : decode cX11_withPays 38 = .ok (.goto (-33), 3) := by decide +kernel
theorem dX11_withPays_41 : decode cX11_withPays 41 = .ok (.lload_n 3, 1) := by decide +kernel
theorem dX11_withPays_42 : decode cX11_withPays 42 = .ok (.lreturn, 1) := by decide +kernel

set_option maxHeartbeats 4000000 in
set_option maxRecDepth 100000 in
theorem x_withPays (l : Launch) (D : va_G) (x0 : Nat) (pg : Nat) (rd : Nat) (aq : Nat) (py : Nat) (pl : Nat) (ch : Nat) (ro : Nat) (v : Int64) : Met l yX11_withPays (Cond.code yX11_withPays cX11_withPays 7 (some .long) :: gw_tbl) ({ frames := 0, cells := 0, slots := 0, locals := 0 }) (pc_S D [] [(x0, .inr (11, [.ref pg, .ref rd, .ref aq, .ref py, .ref pl, .ref ch, .ref ro, .int 0, .int 0]))] [.ref x0, .long v]) (vp_Sl (fun r => r = v)) 0 0 (fun _ => False) := by
  refine Met.ofW (cc := cX11_withPays) (maxL := 7) (ret := (some .long)) (by decide) rfl ?_
  intro p e s m args below meth c s₁ B hml hv
  obtain ⟨hargs, hP, hK⟩ := hv
  have hx := B.exec
  have hb := B.bytes
  have hr := B.returns
  have hts := atoms_spec (ws := Cond.code yX11_withPays cX11_withPays 7 (some .long) :: gw_tbl) B.pre
  have hg := fun (w : Cond) (h : w ∈ gw_tbl) => hts w (List.mem_cons_of_mem _ h)
  have hown : s.vm.findClass RX11 = some m.cls := findClass_of_methodNamed B.named
  have hlocks := B.notSynchronized
  have hl := lv_entry ([.ref x0, .long v]) (n := 7) (Nat.le_of_ble_eq_true rfl)
  rw [show entryFrame m args 7 = F0 m 0 (lg_sl ([.ref x0, .long v]) ++ List.replicate (7 - (lg_sl ([.ref x0, .long v])).length) Slot.unset).toArray [] from by rw [hargs]; exact lg_entry_eq ..]
  generalize (lg_sl ([.ref x0, .long v]) ++ List.replicate (7 - (lg_sl ([.ref x0, .long v])).length) Slot.unset).toArray = ls at hl ⊢
  have hl : lv_has ls 7 [(0, .ref x0), (1, .long v)] := hl
  refine W_genQ (fun Q hQ => ?_)
  refine lv_lload_n hx hb dX11_withPays_0 rfl (lv_at hl 1 rfl) ?_
  refine lv_lstore_n (lv' := [(3, .long v), (0, .ref x0), (1, .long v)]) hx hb dX11_withPays_1 rfl hl (by decide) rfl (fun ls hl => ?_)
  refine lv_iconst (v := 0) hx hb dX11_withPays_2 (by decide) ?_
  refine lv_istore (lv' := [(5, .int 0), (3, .long v), (0, .ref x0), (1, .long v)]) hx hb dX11_withPays_3 hl (by decide) rfl (fun ls hl => ?_)
  refine lv_iload hx hb dX11_withPays_5 (lv_at hl 0 rfl) ?_
  refine lv_aload_n hx hb dX11_withPays_7 rfl (lv_at hl 2 rfl) ?_
  refine va_get (D := D) (ci := 11) (v := .int 0) (C := RX11) (T := TX11) (N := 9) hx hb hg gwX11 hown hK hP 0 rfl rfl 7 (by decide) (hg _ kw_2) (fun _ h9 => h9) rfl dX11_withPays_8 ?_
  refine lv_icmp_ge (tgt := 41) hx hb dX11_withPays_11 (by decide) (fun c_11 => ?_) (fun c_11 => absurd c_11 (by decide))
  refine lv_lload_n hx hb dX11_withPays_41 rfl (lv_at hl 1 rfl) ?_
  subst hQ
  exact W.lret (v := v) hx hb hr (fun t ht hW => ⟨v, rfl, rfl, ht⟩) (fun _ h => absurd h List.not_mem_nil) dX11_withPays_42

theorem dX11_withRows_0 : decode cX11_withRows 0 = .ok (.lload_n 1, 1) := by decide +kernel
theorem dX11_withRows_1 : decode cX11_withRows 1 = .ok (.lstore_n 3, 1) := by decide +kernel
theorem dX11_withRows_2 : decode cX11_withRows 2 = .ok (.iconst 0, 1) := by decide +kernel
theorem dX11_withRows_3 : decode cX11_withRows 3 = .ok (.istore 5, 2) := by decide +kernel
theorem dX11_withRows_5 : decode cX11_withRows 5 = .ok (.iload 5, 2) := by decide +kernel
theorem dX11_withRows_7 : decode cX11_withRows 7 = .ok (.aload_n 0, 1) := by decide +kernel
theorem dX11_withRows_8 : decode cX11_withRows 8 = .ok (.getfield 55, 3) := by decide +kernel
theorem dX11_withRows_11 : decode cX11_withRows 11 = .ok (.getfield 83, 3) := by decide +kernel
theorem dX11_withRows_14 : decode cX11_withRows 14 = .ok (.if_icmp .ge 84, 3) := by decide +kernel
theorem dX11_withRows_17 : decode cX11_withRows 17 = .ok (.lload_n 3, 1) := by decide +kernel
theorem dX11_withRows_18 : decode cX11_withRows 18 = .ok (.aload_n 0, 1) := by decide +kernel
theorem dX11_withRows_19 : decode cX11_withRows 19 = .ok (.getfield 55, 3) := by decide +kernel
theorem dX11_withRows_22 : decode cX11_withRows 22 = .ok (.getfield 321, 3) := by decide +kernel
theorem dX11_withRows_25 : decode cX11_withRows 25 = .ok (.iload 5, 2) := by decide +kernel
theorem dX11_withRows_27 : decode cX11_withRows 27 = .ok (.iaload, 1) := by decide +kernel
theorem dX11_withRows_28 : decode cX11_withRows 28 = .ok (.i2l, 1) := by decide +kernel
theorem dX11_withRows_29 : decode cX11_withRows 29 = .ok (.invokestatic 310, 3) := by decide +kernel
theorem dX11_withRows_32 : decode cX11_withRows 32 = .ok (.lstore_n 3, 1) := by decide +kernel
theorem dX11_withRows_33 : decode cX11_withRows 33 = .ok (.lload_n 3, 1) := by decide +kernel
theorem dX11_withRows_34 : decode cX11_withRows 34 = .ok (.aload_n 0, 1) := by decide +kernel
theorem dX11_withRows_35 : decode cX11_withRows 35 = .ok (.getfield 55, 3) := by decide +kernel
theorem dX11_withRows_38 : decode cX11_withRows 38 = .ok (.getfield 324, 3) := by decide +kernel
theorem dX11_withRows_41 : decode cX11_withRows 41 = .ok (.iload 5, 2) := by decide +kernel
theorem dX11_withRows_43 : decode cX11_withRows 43 = .ok (.laload, 1) := by decide +kernel
theorem dX11_withRows_44 : decode cX11_withRows 44 = .ok (.invokestatic 310, 3) := by decide +kernel
theorem dX11_withRows_47 : decode cX11_withRows 47 = .ok (.lstore_n 3, 1) := by decide +kernel
theorem dX11_withRows_48 : decode cX11_withRows 48 = .ok (.lload_n 3, 1) := by decide +kernel
theorem dX11_withRows_49 : decode cX11_withRows 49 = .ok (.aload_n 0, 1) := by decide +kernel
theorem dX11_withRows_50 : decode cX11_withRows 50 = .ok (.getfield 55, 3) := by decide +kernel
theorem dX11_withRows_53 : decode cX11_withRows 53 = .ok (.iload 5, 2) := by decide +kernel
theorem dX11_withRows_55 : decode cX11_withRows 55 = .ok (.aload_n 0, 1) := by decide +kernel
theorem dX11_withRows_56 : decode cX11_withRows 56 = .ok (.getfield 26, 3) := by decide +kernel
theorem dX11_withRows_59 : decode cX11_withRows 59 = .ok (.getfield 87, 3) := by decide +kernel
theorem dX11_withRows_62 : decode cX11_withRows 62 = .ok (.invokevirtual 286, 3) := by decide +kernel
theorem dX11_withRows_65 : decode cX11_withRows 65 = .ok (.i2l, 1) := by decide +kernel
theorem dX11_withRows_66 : decode cX11_withRows 66 = .ok (.invokestatic 310, 3) := by decide +kernel
theorem dX11_withRows_69 : decode cX11_withRows 69 = .ok (.lstore_n 3, 1) := by decide +kernel
theorem dX11_withRows_70 : decode cX11_withRows 70 = .ok (.lload_n 3, 1) := by decide +kernel
theorem dX11_withRows_71 : decode cX11_withRows 71 = .ok (.aload_n 0, 1) := by decide +kernel
theorem dX11_withRows_72 : decode cX11_withRows 72 = .ok (.getfield 55, 3) := by decide +kernel
theorem dX11_withRows_75 : decode cX11_withRows 75 = .ok (.iload 5, 2) := by decide +kernel
theorem dX11_withRows_77 : decode cX11_withRows 77 = .ok (.aload_n 0, 1) := by decide +kernel
theorem dX11_withRows_78 : decode cX11_withRows 78 = .ok (.getfield 26, 3) := by decide +kernel
theorem dX11_withRows_81 : decode cX11_withRows 81 = .ok (.getfield 87, 3) := by decide +kernel
theorem dX11_withRows_84 : decode cX11_withRows 84 = .ok (.invokevirtual 289, 3) := by decide +kernel
theorem dX11_withRows_87 : decode cX11_withRows 87 = .ok (.i2l, 1) := by decide +kernel
theorem dX11_withRows_88 : decode cX11_withRows 88 = .ok (.invokestatic 310, 3) := by decide +kernel
theorem dX11_withRows_91 : decode cX11_withRows 91 = .ok (.lstore_n 3, 1) := by decide +kernel
theorem dX11_withRows_92 : decode cX11_withRows 92 = .ok (.iinc 5 1, 3) := by decide +kernel
theorem dX11_withRows_95 : decode cX11_withRows 95 = .ok (.goto (-90), 3) := by decide +kernel
theorem dX11_withRows_98 : decode cX11_withRows 98 = .ok (.lload_n 3, 1) := by decide +kernel
theorem dX11_withRows_99 : decode cX11_withRows 99 = .ok (.lreturn, 1) := by decide +kernel

set_option maxHeartbeats 4000000 in
set_option maxRecDepth 100000 in
theorem x_withRows (l : Launch) (D : va_G) (x0 : Nat) (pg : Nat) (rd : Nat) (aq : Nat) (py : Nat) (pl : Nat) (ch : Nat) (ro : Nat) (r1 : Nat) (r2 : Nat) (v : Int64) : Met l yX11_withRows (Cond.code yX11_withRows cX11_withRows 6 (some .long) :: gw_tbl) ({ frames := 0, cells := 0, slots := 0, locals := 0 }) (pc_S D [] [(x0, .inr (11, [.ref pg, .ref rd, .ref aq, .ref py, .ref pl, .ref ch, .ref ro, .int 0, .int 0])), (ro, .inr (8, [.ref r1, .ref r2, .int 0]))] [.ref x0, .long v]) (vp_Sl (fun r => r = v)) 0 0 (fun _ => False) := by
  refine Met.ofW (cc := cX11_withRows) (maxL := 6) (ret := (some .long)) (by decide) rfl ?_
  intro p e s m args below meth c s₁ B hml hv
  obtain ⟨hargs, hP, hK⟩ := hv
  have hx := B.exec
  have hb := B.bytes
  have hr := B.returns
  have hts := atoms_spec (ws := Cond.code yX11_withRows cX11_withRows 6 (some .long) :: gw_tbl) B.pre
  have hg := fun (w : Cond) (h : w ∈ gw_tbl) => hts w (List.mem_cons_of_mem _ h)
  have hown : s.vm.findClass RX11 = some m.cls := findClass_of_methodNamed B.named
  have hlocks := B.notSynchronized
  have hl := lv_entry ([.ref x0, .long v]) (n := 6) (Nat.le_of_ble_eq_true rfl)
  rw [show entryFrame m args 6 = F0 m 0 (lg_sl ([.ref x0, .long v]) ++ List.replicate (6 - (lg_sl ([.ref x0, .long v])).length) Slot.unset).toArray [] from by rw [hargs]; exact lg_entry_eq ..]
  generalize (lg_sl ([.ref x0, .long v]) ++ List.replicate (6 - (lg_sl ([.ref x0, .long v])).length) Slot.unset).toArray = ls at hl ⊢
  have hl : lv_has ls 6 [(0, .ref x0), (1, .long v)] := hl
  refine W_genQ (fun Q hQ => ?_)
  refine lv_lload_n hx hb dX11_withRows_0 rfl (lv_at hl 1 rfl) ?_
  refine lv_lstore_n (lv' := [(3, .long v), (0, .ref x0), (1, .long v)]) hx hb dX11_withRows_1 rfl hl (by decide) rfl (fun ls hl => ?_)
  refine lv_iconst (v := 0) hx hb dX11_withRows_2 (by decide) ?_
  refine lv_istore (lv' := [(5, .int 0), (3, .long v), (0, .ref x0), (1, .long v)]) hx hb dX11_withRows_3 hl (by decide) rfl (fun ls hl => ?_)
  refine lv_iload hx hb dX11_withRows_5 (lv_at hl 0 rfl) ?_
  refine lv_aload_n hx hb dX11_withRows_7 rfl (lv_at hl 2 rfl) ?_
  refine va_get (D := D) (ci := 11) (v := .ref ro) (C := RX11) (T := TX11) (N := 9) hx hb hg gwX11 hown hK hP 0 rfl rfl 6 (by decide) (hg _ kw_32) (fun _ h9 => h9) rfl dX11_withRows_8 ?_
  refine va_get (D := D) (ci := 8) (v := .int 0) (C := RX8) (T := TX8) (N := 3) hx hb hg gwX8 hown hK hP 1 rfl rfl 2 (by decide) (hg _ kw_33) (fun _ h9 => h9) rfl dX11_withRows_11 ?_
  refine lv_icmp_ge (tgt := 98) hx hb dX11_withRows_14 (by decide) (fun c_14 => ?_) (fun c_14 => absurd c_14 (by decide))
  refine lv_lload_n hx hb dX11_withRows_98 rfl (lv_at hl 1 rfl) ?_
  subst hQ
  exact W.lret (v := v) hx hb hr (fun t ht hW => ⟨v, rfl, rfl, ht⟩) (fun _ h => absurd h List.not_mem_nil) dX11_withRows_99

theorem dX11_digest_0 : decode cX11_digest 0 = .ok (.aload_n 0, 1) := by decide +kernel
theorem dX11_digest_1 : decode cX11_digest 1 = .ok (.aload_n 0, 1) := by decide +kernel
theorem dX11_digest_2 : decode cX11_digest 2 = .ok (.aload_n 0, 1) := by decide +kernel
theorem dX11_digest_3 : decode cX11_digest 3 = .ok (.ldc2_w 295, 3) := by decide +kernel
theorem dX11_digest_6 : decode cX11_digest 6 = .ok (.invokevirtual 297, 3) := by decide +kernel
theorem dX11_digest_9 : decode cX11_digest 9 = .ok (.invokevirtual 301, 3) := by decide +kernel
theorem dX11_digest_12 : decode cX11_digest 12 = .ok (.invokevirtual 304, 3) := by decide +kernel
theorem dX11_digest_15 : decode cX11_digest 15 = .ok (.lstore_n 1, 1) := by decide +kernel
theorem dX11_digest_16 : decode cX11_digest 16 = .ok (.iconst 0, 1) := by decide +kernel
theorem dX11_digest_17 : decode cX11_digest 17 = .ok (.istore_n 3, 1) := by decide +kernel
theorem dX11_digest_18 : decode cX11_digest 18 = .ok (.iload_n 3, 1) := by decide +kernel
theorem dX11_digest_19 : decode cX11_digest 19 = .ok (.aload_n 0, 1) := by decide +kernel
theorem dX11_digest_20 : decode cX11_digest 20 = .ok (.getfield 10, 3) := by decide +kernel
theorem dX11_digest_23 : decode cX11_digest 23 = .ok (.getfield 63, 3) := by decide +kernel
theorem dX11_digest_26 : decode cX11_digest 26 = .ok (.if_icmp .ge 24, 3) := by decide +kernel
theorem dX11_digest_29 : decode cX11_digest 29 = .ok (.lload_n 1, 1) := by decide +kernel
theorem dX11_digest_30 : decode cX11_digest 30 = .ok (.aload_n 0, 1) := by decide +kernel
theorem dX11_digest_31 : decode cX11_digest 31 = .ok (.getfield 10, 3) := by decide +kernel
theorem dX11_digest_34 : decode cX11_digest 34 = .ok (.getfield 307, 3) := by decide +kernel
theorem dX11_digest_37 : decode cX11_digest 37 = .ok (.iload_n 3, 1) := by decide +kernel
theorem dX11_digest_38 : decode cX11_digest 38 = .ok (.iaload, 1) := by decide +kernel
theorem dX11_digest_39 : decode cX11_digest 39 = .ok (.i2l, 1) := by decide +kernel
theorem dX11_digest_40 : decode cX11_digest 40 = .ok (.invokestatic 310, 3) := by decide +kernel
theorem dX11_digest_43 : decode cX11_digest 43 = .ok (.lstore_n 1, 1) := by decide +kernel
theorem dX11_digest_44 : decode cX11_digest 44 = .ok (.iinc 3 1, 3) := by decide +kernel
theorem dX11_digest_47 : decode cX11_digest 47 = .ok (.goto (-29), 3) := by decide +kernel
theorem dX11_digest_50 : decode cX11_digest 50 = .ok (.iconst 0, 1) := by decide +kernel
theorem dX11_digest_51 : decode cX11_digest 51 = .ok (.istore_n 3, 1) := by decide +kernel
theorem dX11_digest_52 : decode cX11_digest 52 = .ok (.iload_n 3, 1) := by decide +kernel
theorem dX11_digest_53 : decode cX11_digest 53 = .ok (.iconst 5, 1) := by decide +kernel
theorem dX11_digest_54 : decode cX11_digest 54 = .ok (.if_icmp .gt 20, 3) := by decide +kernel
theorem dX11_digest_57 : decode cX11_digest 57 = .ok (.lload_n 1, 1) := by decide +kernel
theorem dX11_digest_58 : decode cX11_digest 58 = .ok (.aload_n 0, 1) := by decide +kernel
theorem dX11_digest_59 : decode cX11_digest 59 = .ok (.iload_n 3, 1) := by decide +kernel
theorem dX11_digest_60 : decode cX11_digest 60 = .ok (.invokevirtual 314, 3) := by decide +kernel
theorem dX11_digest_63 : decode cX11_digest 63 = .ok (.i2l, 1) := by decide +kernel
theorem dX11_digest_64 : decode cX11_digest 64 = .ok (.invokestatic 310, 3) := by decide +kernel
theorem dX11_digest_67 : decode cX11_digest 67 = .ok (.lstore_n 1, 1) := by decide +kernel
theorem dX11_digest_68 : decode cX11_digest 68 = .ok (.iinc 3 1, 3) := by decide +kernel
theorem dX11_digest_71 : decode cX11_digest 71 = .ok (.goto (-19), 3) := by decide +kernel
theorem dX11_digest_74 : decode cX11_digest 74 = .ok (.lload_n 1, 1) := by decide +kernel
theorem dX11_digest_75 : decode cX11_digest 75 = .ok (.lreturn, 1) := by decide +kernel
theorem kw_40 : (.constantLong RX11 295 (347) : Cond) ∈ gw_tbl := gw_in (by decide +kernel) (by decide +kernel)
theorem kw_41 : (.code yX11_withQuestion cX11_withQuestion 7 (some .long) : Cond) ∈ gw_tbl := gw_in (by decide +kernel) (by decide +kernel)
theorem kw_42 : (.methodLink RX11 297 yX11_withQuestion : Cond) ∈ gw_tbl := gw_in (by decide +kernel) (by decide +kernel)
theorem kw_43 : (.instanceMethod yX11_withQuestion : Cond) ∈ gw_tbl := gw_in (by decide +kernel) (by decide +kernel)
theorem kw_44 : (.selects RX11 yX11_withQuestion yX11_withQuestion : Cond) ∈ gw_tbl := gw_in (by decide +kernel) (by decide +kernel)
theorem kw_45 : (.code yX11_withPays cX11_withPays 7 (some .long) : Cond) ∈ gw_tbl := gw_in (by decide +kernel) (by decide +kernel)
theorem kw_46 : (.methodLink RX11 301 yX11_withPays : Cond) ∈ gw_tbl := gw_in (by decide +kernel) (by decide +kernel)
theorem kw_47 : (.instanceMethod yX11_withPays : Cond) ∈ gw_tbl := gw_in (by decide +kernel) (by decide +kernel)
theorem kw_48 : (.selects RX11 yX11_withPays yX11_withPays : Cond) ∈ gw_tbl := gw_in (by decide +kernel) (by decide +kernel)
theorem kw_49 : (.code yX11_withRows cX11_withRows 6 (some .long) : Cond) ∈ gw_tbl := gw_in (by decide +kernel) (by decide +kernel)
theorem kw_50 : (.methodLink RX11 304 yX11_withRows : Cond) ∈ gw_tbl := gw_in (by decide +kernel) (by decide +kernel)
theorem kw_51 : (.instanceMethod yX11_withRows : Cond) ∈ gw_tbl := gw_in (by decide +kernel) (by decide +kernel)
theorem kw_52 : (.selects RX11 yX11_withRows yX11_withRows : Cond) ∈ gw_tbl := gw_in (by decide +kernel) (by decide +kernel)
theorem kw_53 : (.code yX11_count cX11_count 2 (some .int) : Cond) ∈ gw_tbl := gw_in (by decide +kernel) (by decide +kernel)
theorem kw_54 : (.methodLink RX11 314 yX11_count : Cond) ∈ gw_tbl := gw_in (by decide +kernel) (by decide +kernel)
theorem kw_55 : (.instanceMethod yX11_count : Cond) ∈ gw_tbl := gw_in (by decide +kernel) (by decide +kernel)
theorem kw_56 : (.selects RX11 yX11_count yX11_count : Cond) ∈ gw_tbl := gw_in (by decide +kernel) (by decide +kernel)
theorem kw_57 : (.code yX11_mixed cX11_mixed 4 (some .long) : Cond) ∈ gw_tbl := gw_in (by decide +kernel) (by decide +kernel)
theorem kw_58 : (.methodLink RX11 310 yX11_mixed : Cond) ∈ gw_tbl := gw_in (by decide +kernel) (by decide +kernel)
theorem kw_59 : (.static yX11_mixed : Cond) ∈ gw_tbl := gw_in (by decide +kernel) (by decide +kernel)

set_option maxHeartbeats 4000000 in
set_option maxRecDepth 100000 in
theorem x_digest (l : Launch) (D : va_G) (x0 : Nat) (pg : Nat) (rd : Nat) (aq : Nat) (py : Nat) (pl : Nat) (ch : Nat) (ro : Nat) (a1 : Nat) (a2 : Nat) (a3 : Nat) (a4 : Nat) (r1 : Nat) (r2 : Nat) (cd : Nat) : Met l yX11_digest (Cond.code yX11_digest cX11_digest 4 (some .long) :: gw_tbl) ({ frames := 1, cells := 0, slots := 0, locals := 26 }) (pc_S D [] [(x0, .inr (11, [.ref pg, .ref rd, .ref aq, .ref py, .ref pl, .ref ch, .ref ro, .int 0, .int 0])), (aq, .inr (5, [.ref a1, .ref a2, .ref a3, .ref a4, .int 0, .int 0, .long 0])), (ro, .inr (8, [.ref r1, .ref r2, .int 0])), (pg, .inr (2, [.ref cd, .int 0]))] [.ref x0]) (vp_Sl (fun r => r = 307963777307)) 0 0 (fun _ => False) := by
  refine Met.ofW (cc := cX11_digest) (maxL := 4) (ret := (some .long)) (by decide) rfl ?_
  intro p e s m args below meth c s₁ B hml hv
  obtain ⟨hargs, hP, hK⟩ := hv
  have hx := B.exec
  have hb := B.bytes
  have hr := B.returns
  have hts := atoms_spec (ws := Cond.code yX11_digest cX11_digest 4 (some .long) :: gw_tbl) B.pre
  have hg := fun (w : Cond) (h : w ∈ gw_tbl) => hts w (List.mem_cons_of_mem _ h)
  have hown : s.vm.findClass RX11 = some m.cls := findClass_of_methodNamed B.named
  have hlocks := B.notSynchronized
  have hl := lv_entry ([.ref x0]) (n := 4) (Nat.le_of_ble_eq_true rfl)
  rw [show entryFrame m args 4 = F0 m 0 (lg_sl ([.ref x0]) ++ List.replicate (4 - (lg_sl ([.ref x0])).length) Slot.unset).toArray [] from by rw [hargs]; exact lg_entry_eq ..]
  generalize (lg_sl ([.ref x0]) ++ List.replicate (4 - (lg_sl ([.ref x0])).length) Slot.unset).toArray = ls at hl ⊢
  have hl : lv_has ls 4 [(0, .ref x0)] := hl
  refine W_genQ (fun Q hQ => ?_)
  refine lv_aload_n hx hb dX11_digest_0 rfl (lv_at hl 0 rfl) ?_
  refine lv_aload_n hx hb dX11_digest_1 rfl (lv_at hl 0 rfl) ?_
  refine lv_aload_n hx hb dX11_digest_2 rfl (lv_at hl 0 rfl) ?_
  refine lv_ldc2 hx hb hown (hg _ kw_40) dX11_digest_3 ?_
  have hPc := hP.sub (ws' := [(x0, .inr (11, [.ref pg, .ref rd, .ref aq, .ref py, .ref pl, .ref ch, .ref ro, .int 0, .int 0])), (aq, .inr (5, [.ref a1, .ref a2, .ref a3, .ref a4, .int 0, .int 0, .long 0]))]) [0, 1] rfl
  have hKc := hK.sub (tys' := []) [] rfl
  refine vp_callSl (W.runV (As := [.long 347]) (rest := [.ref x0, .ref x0]) ⟨hx, hb, hml, hown, hg⟩ (x_withQuestion l D x0 pg rd aq py pl ch ro a1 a2 a3 a4 347) (cwV 1 hg (gw_V kw_42 kw_43 kw_44 kw_6 kw_41) rfl rfl rfl (by decide +kernel) ⟨Nat.le_of_ble_eq_true rfl, Nat.le_of_ble_eq_true rfl⟩) (pr_SV (q := (RX11, TX11, 9)) 11 0 hKc hPc rfl rfl) rfl rfl hl.1 rfl (lv_room (Nat.le_of_ble_eq_true rfl)) dX11_digest_6 ⟨Nat.le_of_ble_eq_true rfl, Nat.le_of_ble_eq_true rfl⟩) (fun r_6 h_6 => ?_)
  obtain rfl : r_6 = 347 := h_6
  have hPc := hP.sub (ws' := [(x0, .inr (11, [.ref pg, .ref rd, .ref aq, .ref py, .ref pl, .ref ch, .ref ro, .int 0, .int 0]))]) [0] rfl
  have hKc := hK.sub (tys' := []) [] rfl
  refine vp_callSl (W.runV (As := [.long 347]) (rest := [.ref x0]) ⟨hx, hb, hml, hown, hg⟩ (x_withPays l D x0 pg rd aq py pl ch ro 347) (cwV 1 hg (gw_V kw_46 kw_47 kw_48 kw_6 kw_45) rfl rfl rfl (by decide +kernel) ⟨Nat.le_of_ble_eq_true rfl, Nat.le_of_ble_eq_true rfl⟩) (pr_SV (q := (RX11, TX11, 9)) 11 0 hKc hPc rfl rfl) rfl rfl hl.1 rfl (lv_room (Nat.le_of_ble_eq_true rfl)) dX11_digest_9 ⟨Nat.le_of_ble_eq_true rfl, Nat.le_of_ble_eq_true rfl⟩) (fun r_9 h_9 => ?_)
  obtain rfl : r_9 = 347 := h_9
  have hPc := hP.sub (ws' := [(x0, .inr (11, [.ref pg, .ref rd, .ref aq, .ref py, .ref pl, .ref ch, .ref ro, .int 0, .int 0])), (ro, .inr (8, [.ref r1, .ref r2, .int 0]))]) [0, 2] rfl
  have hKc := hK.sub (tys' := []) [] rfl
  refine vp_callSl (W.runV (As := [.long 347]) (rest := []) ⟨hx, hb, hml, hown, hg⟩ (x_withRows l D x0 pg rd aq py pl ch ro r1 r2 347) (cwV 1 hg (gw_V kw_50 kw_51 kw_52 kw_6 kw_49) rfl rfl rfl (by decide +kernel) ⟨Nat.le_of_ble_eq_true rfl, Nat.le_of_ble_eq_true rfl⟩) (pr_SV (q := (RX11, TX11, 9)) 11 0 hKc hPc rfl rfl) rfl rfl hl.1 rfl (lv_room (Nat.le_of_ble_eq_true rfl)) dX11_digest_12 ⟨Nat.le_of_ble_eq_true rfl, Nat.le_of_ble_eq_true rfl⟩) (fun r_12 h_12 => ?_)
  obtain rfl : r_12 = 347 := h_12
  refine lv_lstore_n (lv' := [(1, .long 347), (0, .ref x0)]) hx hb dX11_digest_15 rfl hl (by decide) rfl (fun ls hl => ?_)
  refine lv_iconst (v := 0) hx hb dX11_digest_16 (by decide) ?_
  refine lv_istore_n (lv' := [(3, .int 0), (1, .long 347), (0, .ref x0)]) hx hb dX11_digest_17 rfl hl (by decide) rfl (fun ls hl => ?_)
  refine lv_iload_n hx hb dX11_digest_18 rfl (lv_at hl 0 rfl) ?_
  refine lv_aload_n hx hb dX11_digest_19 rfl (lv_at hl 2 rfl) ?_
  refine va_get (D := D) (ci := 11) (v := .ref pg) (C := RX11) (T := TX11) (N := 9) hx hb hg gwX11 hown hK hP 0 rfl rfl 0 (by decide) (hg _ kw_36) (fun _ h9 => h9) rfl dX11_digest_20 ?_
  refine va_get (D := D) (ci := 2) (v := .int 0) (C := RX2) (T := TX2) (N := 2) hx hb hg gwX2 hown hK hP 3 rfl rfl 1 (by decide) (hg _ kw_37) (fun _ h9 => h9) rfl dX11_digest_23 ?_
  refine lv_icmp_ge (tgt := 50) hx hb dX11_digest_26 (by decide) (fun c_26 => ?_) (fun c_26 => absurd c_26 (by decide))
  refine lv_iconst (v := 0) hx hb dX11_digest_50 (by decide) ?_
  refine lv_istore_n (lv' := [(3, .int 0), (1, .long 347), (0, .ref x0)]) hx hb dX11_digest_51 rfl hl (by decide) rfl (fun ls hl => ?_)
  refine lv_iload_n hx hb dX11_digest_52 rfl (lv_at hl 0 rfl) ?_
  refine lv_iconst (v := 5) hx hb dX11_digest_53 (by decide) ?_
  refine lv_icmp_gt (tgt := 74) hx hb dX11_digest_54 (by decide) (fun c_54 => absurd c_54 (by decide)) (fun c_54 => ?_)
  refine lv_lload_n hx hb dX11_digest_57 rfl (lv_at hl 1 rfl) ?_
  refine lv_aload_n hx hb dX11_digest_58 rfl (lv_at hl 2 rfl) ?_
  refine lv_iload_n hx hb dX11_digest_59 rfl (lv_at hl 0 rfl) ?_
  have hPc := hP.sub (ws' := [(x0, .inr (11, [.ref pg, .ref rd, .ref aq, .ref py, .ref pl, .ref ch, .ref ro, .int 0, .int 0])), (aq, .inr (5, [.ref a1, .ref a2, .ref a3, .ref a4, .int 0, .int 0, .long 0])), (ro, .inr (8, [.ref r1, .ref r2, .int 0])), (pg, .inr (2, [.ref cd, .int 0]))]) [0, 1, 2, 3] rfl
  have hKc := hK.sub (tys' := []) [] rfl
  refine vp_callSi (W.runV (As := [.int 0]) (rest := [.long 347]) ⟨hx, hb, hml, hown, hg⟩ (x_count l D x0 pg rd aq py pl ch ro a1 a2 a3 a4 r1 r2 cd 0) (cwV 1 hg (gw_V kw_54 kw_55 kw_56 kw_6 kw_53) rfl rfl rfl (by decide +kernel) ⟨Nat.le_of_ble_eq_true rfl, Nat.le_of_ble_eq_true rfl⟩) (pr_SV (q := (RX11, TX11, 9)) 11 0 hKc hPc rfl rfl) rfl rfl hl.1 rfl (lv_room (Nat.le_of_ble_eq_true rfl)) dX11_digest_60 ⟨Nat.le_of_ble_eq_true rfl, Nat.le_of_ble_eq_true rfl⟩) (fun r_60 h_60 => ?_)
  obtain rfl : r_60 = (0 : Int32) := h_60.trans (by decide)
  refine lv_i2l hx hb dX11_digest_63 rfl ?_
  refine lv_topl (fun z_63 e_63 => ?_)
  obtain rfl : z_63 = (0 : Int64) := e_63.trans (by decide)
  refine vp_callSl (W.runS (As := [.long 347, .long 0]) (rest := []) ⟨hx, hb, hml, hown, hg⟩ (x_mixed l 347 0) (va_cwS 2 hg (gw_S kw_58 kw_59 kw_6 kw_57) rfl rfl rfl (by decide +kernel) ⟨Nat.le_of_ble_eq_true rfl, Nat.le_of_ble_eq_true rfl⟩) pr_0 rfl rfl hl.1 rfl (lv_room (Nat.le_of_ble_eq_true rfl)) dX11_digest_64 ⟨Nat.le_of_ble_eq_true rfl, Nat.le_of_ble_eq_true rfl⟩) (fun r_64 h_64 => ?_)
  obtain rfl : r_64 = (10757 : Int64) := h_64.trans (by decide)
  refine lv_lstore_n (lv' := [(1, .long 10757), (3, .int 0), (0, .ref x0)]) hx hb dX11_digest_67 rfl hl (by decide) rfl (fun ls hl => ?_)
  refine lv_iinc (v := 1) (lv' := [(3, .int 1), (1, .long 10757), (0, .ref x0)]) hx hb dX11_digest_68 hl (k := 1) rfl (by decide) (by decide) rfl (fun ls hl => ?_)
  refine lv_goto (tgt := 52) hx hb dX11_digest_71 (by decide) ?_
  refine lv_iload_n hx hb dX11_digest_52 rfl (lv_at hl 0 rfl) ?_
  refine lv_iconst (v := 5) hx hb dX11_digest_53 (by decide) ?_
  refine lv_icmp_gt (tgt := 74) hx hb dX11_digest_54 (by decide) (fun c_54 => absurd c_54 (by decide)) (fun c_54 => ?_)
  refine lv_lload_n hx hb dX11_digest_57 rfl (lv_at hl 1 rfl) ?_
  refine lv_aload_n hx hb dX11_digest_58 rfl (lv_at hl 2 rfl) ?_
  refine lv_iload_n hx hb dX11_digest_59 rfl (lv_at hl 0 rfl) ?_
  have hPc := hP.sub (ws' := [(x0, .inr (11, [.ref pg, .ref rd, .ref aq, .ref py, .ref pl, .ref ch, .ref ro, .int 0, .int 0])), (aq, .inr (5, [.ref a1, .ref a2, .ref a3, .ref a4, .int 0, .int 0, .long 0])), (ro, .inr (8, [.ref r1, .ref r2, .int 0])), (pg, .inr (2, [.ref cd, .int 0]))]) [0, 1, 2, 3] rfl
  have hKc := hK.sub (tys' := []) [] rfl
  refine vp_callSi (W.runV (As := [.int 1]) (rest := [.long 10757]) ⟨hx, hb, hml, hown, hg⟩ (x_count l D x0 pg rd aq py pl ch ro a1 a2 a3 a4 r1 r2 cd 1) (cwV 1 hg (gw_V kw_54 kw_55 kw_56 kw_6 kw_53) rfl rfl rfl (by decide +kernel) ⟨Nat.le_of_ble_eq_true rfl, Nat.le_of_ble_eq_true rfl⟩) (pr_SV (q := (RX11, TX11, 9)) 11 0 hKc hPc rfl rfl) rfl rfl hl.1 rfl (lv_room (Nat.le_of_ble_eq_true rfl)) dX11_digest_60 ⟨Nat.le_of_ble_eq_true rfl, Nat.le_of_ble_eq_true rfl⟩) (fun r_60 h_60 => ?_)
  obtain rfl : r_60 = (0 : Int32) := h_60.trans (by decide)
  refine lv_i2l hx hb dX11_digest_63 rfl ?_
  refine lv_topl (fun z_63 e_63 => ?_)
  obtain rfl : z_63 = (0 : Int64) := e_63.trans (by decide)
  refine vp_callSl (W.runS (As := [.long 10757, .long 0]) (rest := []) ⟨hx, hb, hml, hown, hg⟩ (x_mixed l 10757 0) (va_cwS 2 hg (gw_S kw_58 kw_59 kw_6 kw_57) rfl rfl rfl (by decide +kernel) ⟨Nat.le_of_ble_eq_true rfl, Nat.le_of_ble_eq_true rfl⟩) pr_0 rfl rfl hl.1 rfl (lv_room (Nat.le_of_ble_eq_true rfl)) dX11_digest_64 ⟨Nat.le_of_ble_eq_true rfl, Nat.le_of_ble_eq_true rfl⟩) (fun r_64 h_64 => ?_)
  obtain rfl : r_64 = (333467 : Int64) := h_64.trans (by decide)
  refine lv_lstore_n (lv' := [(1, .long 333467), (3, .int 1), (0, .ref x0)]) hx hb dX11_digest_67 rfl hl (by decide) rfl (fun ls hl => ?_)
  refine lv_iinc (v := 2) (lv' := [(3, .int 2), (1, .long 333467), (0, .ref x0)]) hx hb dX11_digest_68 hl (k := 1) rfl (by decide) (by decide) rfl (fun ls hl => ?_)
  refine lv_goto (tgt := 52) hx hb dX11_digest_71 (by decide) ?_
  refine lv_iload_n hx hb dX11_digest_52 rfl (lv_at hl 0 rfl) ?_
  refine lv_iconst (v := 5) hx hb dX11_digest_53 (by decide) ?_
  refine lv_icmp_gt (tgt := 74) hx hb dX11_digest_54 (by decide) (fun c_54 => absurd c_54 (by decide)) (fun c_54 => ?_)
  refine lv_lload_n hx hb dX11_digest_57 rfl (lv_at hl 1 rfl) ?_
  refine lv_aload_n hx hb dX11_digest_58 rfl (lv_at hl 2 rfl) ?_
  refine lv_iload_n hx hb dX11_digest_59 rfl (lv_at hl 0 rfl) ?_
  have hPc := hP.sub (ws' := [(x0, .inr (11, [.ref pg, .ref rd, .ref aq, .ref py, .ref pl, .ref ch, .ref ro, .int 0, .int 0])), (aq, .inr (5, [.ref a1, .ref a2, .ref a3, .ref a4, .int 0, .int 0, .long 0])), (ro, .inr (8, [.ref r1, .ref r2, .int 0])), (pg, .inr (2, [.ref cd, .int 0]))]) [0, 1, 2, 3] rfl
  have hKc := hK.sub (tys' := []) [] rfl
  refine vp_callSi (W.runV (As := [.int 2]) (rest := [.long 333467]) ⟨hx, hb, hml, hown, hg⟩ (x_count l D x0 pg rd aq py pl ch ro a1 a2 a3 a4 r1 r2 cd 2) (cwV 1 hg (gw_V kw_54 kw_55 kw_56 kw_6 kw_53) rfl rfl rfl (by decide +kernel) ⟨Nat.le_of_ble_eq_true rfl, Nat.le_of_ble_eq_true rfl⟩) (pr_SV (q := (RX11, TX11, 9)) 11 0 hKc hPc rfl rfl) rfl rfl hl.1 rfl (lv_room (Nat.le_of_ble_eq_true rfl)) dX11_digest_60 ⟨Nat.le_of_ble_eq_true rfl, Nat.le_of_ble_eq_true rfl⟩) (fun r_60 h_60 => ?_)
  obtain rfl : r_60 = (0 : Int32) := h_60.trans (by decide)
  refine lv_i2l hx hb dX11_digest_63 rfl ?_
  refine lv_topl (fun z_63 e_63 => ?_)
  obtain rfl : z_63 = (0 : Int64) := e_63.trans (by decide)
  refine vp_callSl (W.runS (As := [.long 333467, .long 0]) (rest := []) ⟨hx, hb, hml, hown, hg⟩ (x_mixed l 333467 0) (va_cwS 2 hg (gw_S kw_58 kw_59 kw_6 kw_57) rfl rfl rfl (by decide +kernel) ⟨Nat.le_of_ble_eq_true rfl, Nat.le_of_ble_eq_true rfl⟩) pr_0 rfl rfl hl.1 rfl (lv_room (Nat.le_of_ble_eq_true rfl)) dX11_digest_64 ⟨Nat.le_of_ble_eq_true rfl, Nat.le_of_ble_eq_true rfl⟩) (fun r_64 h_64 => ?_)
  obtain rfl : r_64 = (10337477 : Int64) := h_64.trans (by decide)
  refine lv_lstore_n (lv' := [(1, .long 10337477), (3, .int 2), (0, .ref x0)]) hx hb dX11_digest_67 rfl hl (by decide) rfl (fun ls hl => ?_)
  refine lv_iinc (v := 3) (lv' := [(3, .int 3), (1, .long 10337477), (0, .ref x0)]) hx hb dX11_digest_68 hl (k := 1) rfl (by decide) (by decide) rfl (fun ls hl => ?_)
  refine lv_goto (tgt := 52) hx hb dX11_digest_71 (by decide) ?_
  refine lv_iload_n hx hb dX11_digest_52 rfl (lv_at hl 0 rfl) ?_
  refine lv_iconst (v := 5) hx hb dX11_digest_53 (by decide) ?_
  refine lv_icmp_gt (tgt := 74) hx hb dX11_digest_54 (by decide) (fun c_54 => absurd c_54 (by decide)) (fun c_54 => ?_)
  refine lv_lload_n hx hb dX11_digest_57 rfl (lv_at hl 1 rfl) ?_
  refine lv_aload_n hx hb dX11_digest_58 rfl (lv_at hl 2 rfl) ?_
  refine lv_iload_n hx hb dX11_digest_59 rfl (lv_at hl 0 rfl) ?_
  have hPc := hP.sub (ws' := [(x0, .inr (11, [.ref pg, .ref rd, .ref aq, .ref py, .ref pl, .ref ch, .ref ro, .int 0, .int 0])), (aq, .inr (5, [.ref a1, .ref a2, .ref a3, .ref a4, .int 0, .int 0, .long 0])), (ro, .inr (8, [.ref r1, .ref r2, .int 0])), (pg, .inr (2, [.ref cd, .int 0]))]) [0, 1, 2, 3] rfl
  have hKc := hK.sub (tys' := []) [] rfl
  refine vp_callSi (W.runV (As := [.int 3]) (rest := [.long 10337477]) ⟨hx, hb, hml, hown, hg⟩ (x_count l D x0 pg rd aq py pl ch ro a1 a2 a3 a4 r1 r2 cd 3) (cwV 1 hg (gw_V kw_54 kw_55 kw_56 kw_6 kw_53) rfl rfl rfl (by decide +kernel) ⟨Nat.le_of_ble_eq_true rfl, Nat.le_of_ble_eq_true rfl⟩) (pr_SV (q := (RX11, TX11, 9)) 11 0 hKc hPc rfl rfl) rfl rfl hl.1 rfl (lv_room (Nat.le_of_ble_eq_true rfl)) dX11_digest_60 ⟨Nat.le_of_ble_eq_true rfl, Nat.le_of_ble_eq_true rfl⟩) (fun r_60 h_60 => ?_)
  obtain rfl : r_60 = (0 : Int32) := h_60.trans (by decide)
  refine lv_i2l hx hb dX11_digest_63 rfl ?_
  refine lv_topl (fun z_63 e_63 => ?_)
  obtain rfl : z_63 = (0 : Int64) := e_63.trans (by decide)
  refine vp_callSl (W.runS (As := [.long 10337477, .long 0]) (rest := []) ⟨hx, hb, hml, hown, hg⟩ (x_mixed l 10337477 0) (va_cwS 2 hg (gw_S kw_58 kw_59 kw_6 kw_57) rfl rfl rfl (by decide +kernel) ⟨Nat.le_of_ble_eq_true rfl, Nat.le_of_ble_eq_true rfl⟩) pr_0 rfl rfl hl.1 rfl (lv_room (Nat.le_of_ble_eq_true rfl)) dX11_digest_64 ⟨Nat.le_of_ble_eq_true rfl, Nat.le_of_ble_eq_true rfl⟩) (fun r_64 h_64 => ?_)
  obtain rfl : r_64 = (320461787 : Int64) := h_64.trans (by decide)
  refine lv_lstore_n (lv' := [(1, .long 320461787), (3, .int 3), (0, .ref x0)]) hx hb dX11_digest_67 rfl hl (by decide) rfl (fun ls hl => ?_)
  refine lv_iinc (v := 4) (lv' := [(3, .int 4), (1, .long 320461787), (0, .ref x0)]) hx hb dX11_digest_68 hl (k := 1) rfl (by decide) (by decide) rfl (fun ls hl => ?_)
  refine lv_goto (tgt := 52) hx hb dX11_digest_71 (by decide) ?_
  refine lv_iload_n hx hb dX11_digest_52 rfl (lv_at hl 0 rfl) ?_
  refine lv_iconst (v := 5) hx hb dX11_digest_53 (by decide) ?_
  refine lv_icmp_gt (tgt := 74) hx hb dX11_digest_54 (by decide) (fun c_54 => absurd c_54 (by decide)) (fun c_54 => ?_)
  refine lv_lload_n hx hb dX11_digest_57 rfl (lv_at hl 1 rfl) ?_
  refine lv_aload_n hx hb dX11_digest_58 rfl (lv_at hl 2 rfl) ?_
  refine lv_iload_n hx hb dX11_digest_59 rfl (lv_at hl 0 rfl) ?_
  have hPc := hP.sub (ws' := [(x0, .inr (11, [.ref pg, .ref rd, .ref aq, .ref py, .ref pl, .ref ch, .ref ro, .int 0, .int 0])), (aq, .inr (5, [.ref a1, .ref a2, .ref a3, .ref a4, .int 0, .int 0, .long 0])), (ro, .inr (8, [.ref r1, .ref r2, .int 0])), (pg, .inr (2, [.ref cd, .int 0]))]) [0, 1, 2, 3] rfl
  have hKc := hK.sub (tys' := []) [] rfl
  refine vp_callSi (W.runV (As := [.int 4]) (rest := [.long 320461787]) ⟨hx, hb, hml, hown, hg⟩ (x_count l D x0 pg rd aq py pl ch ro a1 a2 a3 a4 r1 r2 cd 4) (cwV 1 hg (gw_V kw_54 kw_55 kw_56 kw_6 kw_53) rfl rfl rfl (by decide +kernel) ⟨Nat.le_of_ble_eq_true rfl, Nat.le_of_ble_eq_true rfl⟩) (pr_SV (q := (RX11, TX11, 9)) 11 0 hKc hPc rfl rfl) rfl rfl hl.1 rfl (lv_room (Nat.le_of_ble_eq_true rfl)) dX11_digest_60 ⟨Nat.le_of_ble_eq_true rfl, Nat.le_of_ble_eq_true rfl⟩) (fun r_60 h_60 => ?_)
  obtain rfl : r_60 = (0 : Int32) := h_60.trans (by decide)
  refine lv_i2l hx hb dX11_digest_63 rfl ?_
  refine lv_topl (fun z_63 e_63 => ?_)
  obtain rfl : z_63 = (0 : Int64) := e_63.trans (by decide)
  refine vp_callSl (W.runS (As := [.long 320461787, .long 0]) (rest := []) ⟨hx, hb, hml, hown, hg⟩ (x_mixed l 320461787 0) (va_cwS 2 hg (gw_S kw_58 kw_59 kw_6 kw_57) rfl rfl rfl (by decide +kernel) ⟨Nat.le_of_ble_eq_true rfl, Nat.le_of_ble_eq_true rfl⟩) pr_0 rfl rfl hl.1 rfl (lv_room (Nat.le_of_ble_eq_true rfl)) dX11_digest_64 ⟨Nat.le_of_ble_eq_true rfl, Nat.le_of_ble_eq_true rfl⟩) (fun r_64 h_64 => ?_)
  obtain rfl : r_64 = (9934315397 : Int64) := h_64.trans (by decide)
  refine lv_lstore_n (lv' := [(1, .long 9934315397), (3, .int 4), (0, .ref x0)]) hx hb dX11_digest_67 rfl hl (by decide) rfl (fun ls hl => ?_)
  refine lv_iinc (v := 5) (lv' := [(3, .int 5), (1, .long 9934315397), (0, .ref x0)]) hx hb dX11_digest_68 hl (k := 1) rfl (by decide) (by decide) rfl (fun ls hl => ?_)
  refine lv_goto (tgt := 52) hx hb dX11_digest_71 (by decide) ?_
  refine lv_iload_n hx hb dX11_digest_52 rfl (lv_at hl 0 rfl) ?_
  refine lv_iconst (v := 5) hx hb dX11_digest_53 (by decide) ?_
  refine lv_icmp_gt (tgt := 74) hx hb dX11_digest_54 (by decide) (fun c_54 => absurd c_54 (by decide)) (fun c_54 => ?_)
  refine lv_lload_n hx hb dX11_digest_57 rfl (lv_at hl 1 rfl) ?_
  refine lv_aload_n hx hb dX11_digest_58 rfl (lv_at hl 2 rfl) ?_
  refine lv_iload_n hx hb dX11_digest_59 rfl (lv_at hl 0 rfl) ?_
  have hPc := hP.sub (ws' := [(x0, .inr (11, [.ref pg, .ref rd, .ref aq, .ref py, .ref pl, .ref ch, .ref ro, .int 0, .int 0])), (aq, .inr (5, [.ref a1, .ref a2, .ref a3, .ref a4, .int 0, .int 0, .long 0])), (ro, .inr (8, [.ref r1, .ref r2, .int 0])), (pg, .inr (2, [.ref cd, .int 0]))]) [0, 1, 2, 3] rfl
  have hKc := hK.sub (tys' := []) [] rfl
  refine vp_callSi (W.runV (As := [.int 5]) (rest := [.long 9934315397]) ⟨hx, hb, hml, hown, hg⟩ (x_count l D x0 pg rd aq py pl ch ro a1 a2 a3 a4 r1 r2 cd 5) (cwV 1 hg (gw_V kw_54 kw_55 kw_56 kw_6 kw_53) rfl rfl rfl (by decide +kernel) ⟨Nat.le_of_ble_eq_true rfl, Nat.le_of_ble_eq_true rfl⟩) (pr_SV (q := (RX11, TX11, 9)) 11 0 hKc hPc rfl rfl) rfl rfl hl.1 rfl (lv_room (Nat.le_of_ble_eq_true rfl)) dX11_digest_60 ⟨Nat.le_of_ble_eq_true rfl, Nat.le_of_ble_eq_true rfl⟩) (fun r_60 h_60 => ?_)
  obtain rfl : r_60 = (0 : Int32) := h_60.trans (by decide)
  refine lv_i2l hx hb dX11_digest_63 rfl ?_
  refine lv_topl (fun z_63 e_63 => ?_)
  obtain rfl : z_63 = (0 : Int64) := e_63.trans (by decide)
  refine vp_callSl (W.runS (As := [.long 9934315397, .long 0]) (rest := []) ⟨hx, hb, hml, hown, hg⟩ (x_mixed l 9934315397 0) (va_cwS 2 hg (gw_S kw_58 kw_59 kw_6 kw_57) rfl rfl rfl (by decide +kernel) ⟨Nat.le_of_ble_eq_true rfl, Nat.le_of_ble_eq_true rfl⟩) pr_0 rfl rfl hl.1 rfl (lv_room (Nat.le_of_ble_eq_true rfl)) dX11_digest_64 ⟨Nat.le_of_ble_eq_true rfl, Nat.le_of_ble_eq_true rfl⟩) (fun r_64 h_64 => ?_)
  obtain rfl : r_64 = (307963777307 : Int64) := h_64.trans (by decide)
  refine lv_lstore_n (lv' := [(1, .long 307963777307), (3, .int 5), (0, .ref x0)]) hx hb dX11_digest_67 rfl hl (by decide) rfl (fun ls hl => ?_)
  refine lv_iinc (v := 6) (lv' := [(3, .int 6), (1, .long 307963777307), (0, .ref x0)]) hx hb dX11_digest_68 hl (k := 1) rfl (by decide) (by decide) rfl (fun ls hl => ?_)
  refine lv_goto (tgt := 52) hx hb dX11_digest_71 (by decide) ?_
  refine lv_iload_n hx hb dX11_digest_52 rfl (lv_at hl 0 rfl) ?_
  refine lv_iconst (v := 5) hx hb dX11_digest_53 (by decide) ?_
  refine lv_icmp_gt (tgt := 74) hx hb dX11_digest_54 (by decide) (fun c_54 => ?_) (fun c_54 => absurd c_54 (by decide))
  refine lv_lload_n hx hb dX11_digest_74 rfl (lv_at hl 1 rfl) ?_
  subst hQ
  exact W.lret (v := 307963777307) hx hb hr (fun t ht hW => ⟨307963777307, rfl, rfl, ht⟩) (fun _ h => absurd h List.not_mem_nil) dX11_digest_75
