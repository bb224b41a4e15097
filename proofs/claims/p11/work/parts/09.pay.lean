theorem dX3_amount_0 : decode cX3_amount 0 = .ok (.aload_n 0, 1) := by decide +kernel
theorem dX3_amount_1 : decode cX3_amount 1 = .ok (.getfield 9, 3) := by decide +kernel
theorem dX3_amount_4 : decode cX3_amount 4 = .ok (.iconst 0, 1) := by decide +kernel
theorem dX3_amount_5 : decode cX3_amount 5 = .ok (.iaload, 1) := by decide +kernel
theorem dX3_amount_6 : decode cX3_amount 6 = .ok (.ireturn, 1) := by decide +kernel
theorem kw_122 : (.fieldLink RX3 9 "NobodyChecks$Pay" "numbers" "[I" : Cond) ∈ gw_tbl := gw_in (by decide +kernel) (by decide +kernel)

set_option maxHeartbeats 4000000 in
set_option maxRecDepth 100000 in
theorem p_amount_X3_3 (l : Launch) (D : va_G) (cs : Nat → ClassId) (h0 : Nat) (nq : Nat) (av : Value) (rk : Int32) (fq : Nat → Int32) (p1 : Int32) (p2 : Int32) (p3 : Int32) : Met l yX3_amount (Cond.code yX3_amount cX3_amount 4 (some .int) :: gw_tbl) ({ frames := 0, cells := 0, slots := 0, locals := 0 }) (pc_S D cs [(h0, .inr (3, [.ref nq, av, .int rk])), (nq, .inl (cs 0, 4, .inl fq))] [.ref h0, .int p1, .int p2, .int p3]) (vp_Si (fun r => True)) 0 0 (fun _ => False) := by
  refine Met.ofW (cc := cX3_amount) (maxL := 4) (ret := (some .int)) (by decide) rfl ?_
  intro p e s m args below meth c s₁ B hml hv
  obtain ⟨hargs, hP, hK⟩ := hv
  have hx := B.exec
  have hb := B.bytes
  have hr := B.returns
  have hts := atoms_spec (ws := Cond.code yX3_amount cX3_amount 4 (some .int) :: gw_tbl) B.pre
  have hg := fun (w : Cond) (h : w ∈ gw_tbl) => hts w (List.mem_cons_of_mem _ h)
  have hown : s.vm.findClass RX3 = some m.cls := findClass_of_methodNamed B.named
  have hlocks := B.notSynchronized
  have hl := lv_entry ([.ref h0, .int p1, .int p2, .int p3]) (n := 4) (Nat.le_of_ble_eq_true rfl)
  rw [show entryFrame m args 4 = F0 m 0 (lg_sl ([.ref h0, .int p1, .int p2, .int p3]) ++ List.replicate (4 - (lg_sl ([.ref h0, .int p1, .int p2, .int p3])).length) Slot.unset).toArray [] from by rw [hargs]; exact lg_entry_eq ..]
  generalize (lg_sl ([.ref h0, .int p1, .int p2, .int p3]) ++ List.replicate (4 - (lg_sl ([.ref h0, .int p1, .int p2, .int p3])).length) Slot.unset).toArray = ls at hl ⊢
  have hl : lv_has ls 4 [(0, .ref h0), (1, .int p1), (2, .int p2), (3, .int p3)] := hl
  refine W_genQ (fun Q hQ => ?_)
  refine lv_aload_n hx hb dX3_amount_0 rfl (lv_at hl 0 rfl) ?_
  refine va_get (D := D) (ci := 3) (v := .ref nq) (C := RX3) (T := TX3) (N := 3) hx hb hg gwX3 hown hK hP 0 rfl rfl 0 (by decide) (hg _ kw_122) (fun _ h9 => h9) rfl dX3_amount_1 ?_
  refine lv_iconst (v := 0) hx hb dX3_amount_4 (by decide) ?_
  refine va_iald hx hb hK hP 1 0 rfl rfl (show ¬ ((0 : Int32) < 0 ∨ 4 ≤ (0 : Int32).toNatClampNeg) by decide) dX3_amount_5 ?_
  refine lv_topi (fun z_5 e_5 => ?_)
  refine W_sQ hQ ?_
  exact W.iret (v := z_5) hx hb hr (fun t ht hW => ⟨z_5, rfl, trivial, ht⟩) (fun _ h => absurd h List.not_mem_nil) dX3_amount_6

theorem dX9_amount_0 : decode cX9_amount 0 = .ok (.aload_n 0, 1) := by decide +kernel
theorem dX9_amount_1 : decode cX9_amount 1 = .ok (.getfield 9, 3) := by decide +kernel
theorem dX9_amount_4 : decode cX9_amount 4 = .ok (.iconst 0, 1) := by decide +kernel
theorem dX9_amount_5 : decode cX9_amount 5 = .ok (.iaload, 1) := by decide +kernel
theorem dX9_amount_6 : decode cX9_amount 6 = .ok (.iload_n 1, 1) := by decide +kernel
theorem dX9_amount_7 : decode cX9_amount 7 = .ok (.ifCond .ne 7, 3) := by decide +kernel
theorem dX9_amount_10 : decode cX9_amount 10 = .ok (.iload_n 2, 1) := by decide +kernel
theorem dX9_amount_11 : decode cX9_amount 11 = .ok (.goto 4, 3) := by decide +kernel
theorem dX9_amount_14 : decode cX9_amount 14 = .ok (.iload_n 3, 1) := by decide +kernel
theorem dX9_amount_15 : decode cX9_amount 15 = .ok (.imul, 1) := by decide +kernel
theorem dX9_amount_16 : decode cX9_amount 16 = .ok (.ireturn, 1) := by decide +kernel
theorem kw_123 : (.fieldLink RX9 9 "NobodyChecks$Same" "numbers" "[I" : Cond) ∈ gw_tbl := gw_in (by decide +kernel) (by decide +kernel)
theorem kw_124 : (.sameField "NobodyChecks$Same" "NobodyChecks$Pay" "numbers" "[I" : Cond) ∈ gw_tbl := gw_in (by decide +kernel) (by decide +kernel)

set_option maxHeartbeats 4000000 in
set_option maxRecDepth 100000 in
theorem p_amount_X9_9 (l : Launch) (D : va_G) (cs : Nat → ClassId) (h0 : Nat) (nq : Nat) (av : Value) (rk : Int32) (fq : Nat → Int32) (p1 : Int32) (p2 : Int32) (p3 : Int32) : Met l yX9_amount (Cond.code yX9_amount cX9_amount 4 (some .int) :: gw_tbl) ({ frames := 0, cells := 0, slots := 0, locals := 0 }) (pc_S D cs [(h0, .inr (9, [.ref nq, av, .int rk])), (nq, .inl (cs 0, 4, .inl fq))] [.ref h0, .int p1, .int p2, .int p3]) (vp_Si (fun r => True)) 0 0 (fun _ => False) := by
  refine Met.ofW (cc := cX9_amount) (maxL := 4) (ret := (some .int)) (by decide) rfl ?_
  intro p e s m args below meth c s₁ B hml hv
  obtain ⟨hargs, hP, hK⟩ := hv
  have hx := B.exec
  have hb := B.bytes
  have hr := B.returns
  have hts := atoms_spec (ws := Cond.code yX9_amount cX9_amount 4 (some .int) :: gw_tbl) B.pre
  have hg := fun (w : Cond) (h : w ∈ gw_tbl) => hts w (List.mem_cons_of_mem _ h)
  have hown : s.vm.findClass RX9 = some m.cls := findClass_of_methodNamed B.named
  have hlocks := B.notSynchronized
  have hl := lv_entry ([.ref h0, .int p1, .int p2, .int p3]) (n := 4) (Nat.le_of_ble_eq_true rfl)
  rw [show entryFrame m args 4 = F0 m 0 (lg_sl ([.ref h0, .int p1, .int p2, .int p3]) ++ List.replicate (4 - (lg_sl ([.ref h0, .int p1, .int p2, .int p3])).length) Slot.unset).toArray [] from by rw [hargs]; exact lg_entry_eq ..]
  generalize (lg_sl ([.ref h0, .int p1, .int p2, .int p3]) ++ List.replicate (4 - (lg_sl ([.ref h0, .int p1, .int p2, .int p3])).length) Slot.unset).toArray = ls at hl ⊢
  have hl : lv_has ls 4 [(0, .ref h0), (1, .int p1), (2, .int p2), (3, .int p3)] := hl
  refine W_genQ (fun Q hQ => ?_)
  refine lv_aload_n hx hb dX9_amount_0 rfl (lv_at hl 0 rfl) ?_
  refine va_get (D := D) (ci := 9) (v := .ref nq) (C := RX9) (T := TX9) (N := 3) hx hb hg gwX9 hown hK hP 0 rfl rfl 0 (by decide) (hg _ kw_123) (fun x h9 => u_same (hg _ kw_124) x h9) rfl dX9_amount_1 ?_
  refine lv_iconst (v := 0) hx hb dX9_amount_4 (by decide) ?_
  refine va_iald hx hb hK hP 1 0 rfl rfl (show ¬ ((0 : Int32) < 0 ∨ 4 ≤ (0 : Int32).toNatClampNeg) by decide) dX9_amount_5 ?_
  refine lv_topi (fun z_5 e_5 => ?_)
  refine lv_iload_n hx hb dX9_amount_6 rfl (lv_at hl 1 rfl) ?_
  refine lv_if_ne (tgt := 14) hx hb dX9_amount_7 (by decide) (fun c_7 => ?_) (fun c_7 => ?_)
  · refine lv_iload_n hx hb dX9_amount_14 rfl (lv_at hl 3 rfl) ?_
    refine lv_imul hx hb dX9_amount_15 ?_
    refine lv_topi (fun z_15 e_15 => ?_)
    refine W_sQ hQ ?_
    exact W.iret (v := z_15) hx hb hr (fun t ht hW => ⟨z_15, rfl, trivial, ht⟩) (fun _ h => absurd h List.not_mem_nil) dX9_amount_16
  · subst c_7
    refine lv_iload_n hx hb dX9_amount_10 rfl (lv_at hl 2 rfl) ?_
    refine lv_goto (tgt := 15) hx hb dX9_amount_11 (by decide) ?_
    refine lv_imul hx hb dX9_amount_15 ?_
    refine lv_topi (fun z_15 e_15 => ?_)
    refine W_sQ hQ ?_
    exact W.iret (v := z_15) hx hb hr (fun t ht hW => ⟨z_15, rfl, trivial, ht⟩) (fun _ h => absurd h List.not_mem_nil) dX9_amount_16

set_option maxHeartbeats 4000000 in
set_option maxRecDepth 100000 in
theorem p_amount_X9_1 (l : Launch) (D : va_G) (cs : Nat → ClassId) (h0 : Nat) (nq : Nat) (av : Value) (rk : Int32) (fq : Nat → Int32) (p1 : Int32) (p2 : Int32) (p3 : Int32) : Met l yX9_amount (Cond.code yX9_amount cX9_amount 4 (some .int) :: gw_tbl) ({ frames := 0, cells := 0, slots := 0, locals := 0 }) (pc_S D cs [(h0, .inr (1, [.ref nq, av, .int rk])), (nq, .inl (cs 0, 4, .inl fq))] [.ref h0, .int p1, .int p2, .int p3]) (vp_Si (fun r => True)) 0 0 (fun _ => False) := by
  refine Met.ofW (cc := cX9_amount) (maxL := 4) (ret := (some .int)) (by decide) rfl ?_
  intro p e s m args below meth c s₁ B hml hv
  obtain ⟨hargs, hP, hK⟩ := hv
  have hx := B.exec
  have hb := B.bytes
  have hr := B.returns
  have hts := atoms_spec (ws := Cond.code yX9_amount cX9_amount 4 (some .int) :: gw_tbl) B.pre
  have hg := fun (w : Cond) (h : w ∈ gw_tbl) => hts w (List.mem_cons_of_mem _ h)
  have hown : s.vm.findClass RX9 = some m.cls := findClass_of_methodNamed B.named
  have hlocks := B.notSynchronized
  have hl := lv_entry ([.ref h0, .int p1, .int p2, .int p3]) (n := 4) (Nat.le_of_ble_eq_true rfl)
  rw [show entryFrame m args 4 = F0 m 0 (lg_sl ([.ref h0, .int p1, .int p2, .int p3]) ++ List.replicate (4 - (lg_sl ([.ref h0, .int p1, .int p2, .int p3])).length) Slot.unset).toArray [] from by rw [hargs]; exact lg_entry_eq ..]
  generalize (lg_sl ([.ref h0, .int p1, .int p2, .int p3]) ++ List.replicate (4 - (lg_sl ([.ref h0, .int p1, .int p2, .int p3])).length) Slot.unset).toArray = ls at hl ⊢
  have hl : lv_has ls 4 [(0, .ref h0), (1, .int p1), (2, .int p2), (3, .int p3)] := hl
  refine W_genQ (fun Q hQ => ?_)
  refine lv_aload_n hx hb dX9_amount_0 rfl (lv_at hl 0 rfl) ?_
  refine va_get (D := D) (ci := 1) (v := .ref nq) (C := RX1) (T := TX1) (N := 3) hx hb hg gwX1 hown hK hP 0 rfl rfl 0 (by decide) (hg _ kw_123) (fun x h9 => u_same (hg _ kw_124) x h9) rfl dX9_amount_1 ?_
  refine lv_iconst (v := 0) hx hb dX9_amount_4 (by decide) ?_
  refine va_iald hx hb hK hP 1 0 rfl rfl (show ¬ ((0 : Int32) < 0 ∨ 4 ≤ (0 : Int32).toNatClampNeg) by decide) dX9_amount_5 ?_
  refine lv_topi (fun z_5 e_5 => ?_)
  refine lv_iload_n hx hb dX9_amount_6 rfl (lv_at hl 1 rfl) ?_
  refine lv_if_ne (tgt := 14) hx hb dX9_amount_7 (by decide) (fun c_7 => ?_) (fun c_7 => ?_)
  · refine lv_iload_n hx hb dX9_amount_14 rfl (lv_at hl 3 rfl) ?_
    refine lv_imul hx hb dX9_amount_15 ?_
    refine lv_topi (fun z_15 e_15 => ?_)
    refine W_sQ hQ ?_
    exact W.iret (v := z_15) hx hb hr (fun t ht hW => ⟨z_15, rfl, trivial, ht⟩) (fun _ h => absurd h List.not_mem_nil) dX9_amount_16
  · subst c_7
    refine lv_iload_n hx hb dX9_amount_10 rfl (lv_at hl 2 rfl) ?_
    refine lv_goto (tgt := 15) hx hb dX9_amount_11 (by decide) ?_
    refine lv_imul hx hb dX9_amount_15 ?_
    refine lv_topi (fun z_15 e_15 => ?_)
    refine W_sQ hQ ?_
    exact W.iret (v := z_15) hx hb hr (fun t ht hW => ⟨z_15, rfl, trivial, ht⟩) (fun _ h => absurd h List.not_mem_nil) dX9_amount_16

theorem dX10_amount_0 : decode cX10_amount 0 = .ok (.iload_n 1, 1) := by decide +kernel
theorem dX10_amount_1 : decode cX10_amount 1 = .ok (.ifCond .ne 23, 3) := by decide +kernel
theorem dX10_amount_4 : decode cX10_amount 4 = .ok (.aload_n 0, 1) := by decide +kernel
theorem dX10_amount_5 : decode cX10_amount 5 = .ok (.getfield 9, 3) := by decide +kernel
theorem dX10_amount_8 : decode cX10_amount 8 = .ok (.iconst 0, 1) := by decide +kernel
theorem dX10_amount_9 : decode cX10_amount 9 = .ok (.iaload, 1) := by decide +kernel
theorem dX10_amount_10 : decode cX10_amount 10 = .ok (.iload_n 2, 1) := by decide +kernel
theorem dX10_amount_11 : decode cX10_amount 11 = .ok (.imul, 1) := by decide +kernel
theorem dX10_amount_12 : decode cX10_amount 12 = .ok (.aload_n 0, 1) := by decide +kernel
theorem dX10_amount_13 : decode cX10_amount 13 = .ok (.getfield 9, 3) := by decide +kernel
theorem dX10_amount_16 : decode cX10_amount 16 = .ok (.iconst 1, 1) := by decide +kernel
theorem dX10_amount_17 : decode cX10_amount 17 = .ok (.iaload, 1) := by decide +kernel
theorem dX10_amount_18 : decode cX10_amount 18 = .ok (.iload_n 3, 1) := by decide +kernel
theorem dX10_amount_19 : decode cX10_amount 19 = .ok (.imul, 1) := by decide +kernel
theorem dX10_amount_20 : decode cX10_amount 20 = .ok (.iadd, 1) := by decide +kernel
theorem dX10_amount_21 : decode cX10_amount 21 = .ok (.goto 20, 3) := by decide +kernel
theorem dX10_amount_24 : decode cX10_amount 24 = .ok (.aload_n 0, 1) := by decide +kernel
theorem dX10_amount_25 : decode cX10_amount 25 = .ok (.getfield 9, 3) := by decide +kernel
theorem dX10_amount_28 : decode cX10_amount 28 = .ok (.iconst 2, 1) := by decide +kernel
theorem dX10_amount_29 : decode cX10_amount 29 = .ok (.iaload, 1) := by decide +kernel
theorem dX10_amount_30 : decode cX10_amount 30 = .ok (.iload_n 2, 1) := by decide +kernel
theorem dX10_amount_31 : decode cX10_amount 31 = .ok (.imul, 1) := by decide +kernel
theorem dX10_amount_32 : decode cX10_amount 32 = .ok (.aload_n 0, 1) := by decide +kernel
theorem dX10_amount_33 : decode cX10_amount 33 = .ok (.getfield 9, 3) := by decide +kernel
theorem dX10_amount_36 : decode cX10_amount 36 = .ok (.iconst 3, 1) := by decide +kernel
theorem dX10_amount_37 : decode cX10_amount 37 = .ok (.iaload, 1) := by decide +kernel
theorem dX10_amount_38 : decode cX10_amount 38 = .ok (.iload_n 3, 1) := by decide +kernel
theorem dX10_amount_39 : decode cX10_amount 39 = .ok (.imul, 1) := by decide +kernel
theorem dX10_amount_40 : decode cX10_amount 40 = .ok (.iadd, 1) := by decide +kernel
theorem dX10_amount_41 : decode cX10_amount 41 = .ok (.ireturn, 1) := by decide +kernel
theorem kw_125 : (.fieldLink RX10 9 "NobodyChecks$Table" "numbers" "[I" : Cond) ∈ gw_tbl := gw_in (by decide +kernel) (by decide +kernel)
theorem kw_126 : (.sameField "NobodyChecks$Table" "NobodyChecks$Pay" "numbers" "[I" : Cond) ∈ gw_tbl := gw_in (by decide +kernel) (by decide +kernel)

set_option maxHeartbeats 4000000 in
set_option maxRecDepth 100000 in
theorem p_amount_X10_10 (l : Launch) (D : va_G) (cs : Nat → ClassId) (h0 : Nat) (nq : Nat) (av : Value) (rk : Int32) (fq : Nat → Int32) (p1 : Int32) (p2 : Int32) (p3 : Int32) : Met l yX10_amount (Cond.code yX10_amount cX10_amount 4 (some .int) :: gw_tbl) ({ frames := 0, cells := 0, slots := 0, locals := 0 }) (pc_S D cs [(h0, .inr (10, [.ref nq, av, .int rk])), (nq, .inl (cs 0, 4, .inl fq))] [.ref h0, .int p1, .int p2, .int p3]) (vp_Si (fun r => True)) 0 0 (fun _ => False) := by
  refine Met.ofW (cc := cX10_amount) (maxL := 4) (ret := (some .int)) (by decide) rfl ?_
  intro p e s m args below meth c s₁ B hml hv
  obtain ⟨hargs, hP, hK⟩ := hv
  have hx := B.exec
  have hb := B.bytes
  have hr := B.returns
  have hts := atoms_spec (ws := Cond.code yX10_amount cX10_amount 4 (some .int) :: gw_tbl) B.pre
  have hg := fun (w : Cond) (h : w ∈ gw_tbl) => hts w (List.mem_cons_of_mem _ h)
  have hown : s.vm.findClass RX10 = some m.cls := findClass_of_methodNamed B.named
  have hlocks := B.notSynchronized
  have hl := lv_entry ([.ref h0, .int p1, .int p2, .int p3]) (n := 4) (Nat.le_of_ble_eq_true rfl)
  rw [show entryFrame m args 4 = F0 m 0 (lg_sl ([.ref h0, .int p1, .int p2, .int p3]) ++ List.replicate (4 - (lg_sl ([.ref h0, .int p1, .int p2, .int p3])).length) Slot.unset).toArray [] from by rw [hargs]; exact lg_entry_eq ..]
  generalize (lg_sl ([.ref h0, .int p1, .int p2, .int p3]) ++ List.replicate (4 - (lg_sl ([.ref h0, .int p1, .int p2, .int p3])).length) Slot.unset).toArray = ls at hl ⊢
  have hl : lv_has ls 4 [(0, .ref h0), (1, .int p1), (2, .int p2), (3, .int p3)] := hl
  refine W_genQ (fun Q hQ => ?_)
  refine lv_iload_n hx hb dX10_amount_0 rfl (lv_at hl 1 rfl) ?_
  refine lv_if_ne (tgt := 24) hx hb dX10_amount_1 (by decide) (fun c_1 => ?_) (fun c_1 => ?_)
  · refine lv_aload_n hx hb dX10_amount_24 rfl (lv_at hl 0 rfl) ?_
    refine va_get (D := D) (ci := 10) (v := .ref nq) (C := RX10) (T := TX10) (N := 3) hx hb hg gwX10 hown hK hP 0 rfl rfl 0 (by decide) (hg _ kw_125) (fun x h9 => u_same (hg _ kw_126) x h9) rfl dX10_amount_25 ?_
    refine lv_iconst (v := 2) hx hb dX10_amount_28 (by decide) ?_
    refine va_iald hx hb hK hP 1 0 rfl rfl (show ¬ ((2 : Int32) < 0 ∨ 4 ≤ (2 : Int32).toNatClampNeg) by decide) dX10_amount_29 ?_
    refine lv_topi (fun z_29 e_29 => ?_)
    refine lv_iload_n hx hb dX10_amount_30 rfl (lv_at hl 2 rfl) ?_
    refine lv_imul hx hb dX10_amount_31 ?_
    refine lv_topi (fun z_31 e_31 => ?_)
    refine lv_aload_n hx hb dX10_amount_32 rfl (lv_at hl 0 rfl) ?_
    refine va_get (D := D) (ci := 10) (v := .ref nq) (C := RX10) (T := TX10) (N := 3) hx hb hg gwX10 hown hK hP 0 rfl rfl 0 (by decide) (hg _ kw_125) (fun x h9 => u_same (hg _ kw_126) x h9) rfl dX10_amount_33 ?_
    refine lv_iconst (v := 3) hx hb dX10_amount_36 (by decide) ?_
    refine va_iald hx hb hK hP 1 0 rfl rfl (show ¬ ((3 : Int32) < 0 ∨ 4 ≤ (3 : Int32).toNatClampNeg) by decide) dX10_amount_37 ?_
    refine lv_topi (fun z_37 e_37 => ?_)
    refine lv_iload_n hx hb dX10_amount_38 rfl (lv_at hl 3 rfl) ?_
    refine lv_imul hx hb dX10_amount_39 ?_
    refine lv_topi (fun z_39 e_39 => ?_)
    refine lv_iadd hx hb dX10_amount_40 ?_
    refine lv_topi (fun z_40 e_40 => ?_)
    refine W_sQ hQ ?_
    exact W.iret (v := z_40) hx hb hr (fun t ht hW => ⟨z_40, rfl, trivial, ht⟩) (fun _ h => absurd h List.not_mem_nil) dX10_amount_41
  · subst c_1
    refine lv_aload_n hx hb dX10_amount_4 rfl (lv_at hl 0 rfl) ?_
    refine va_get (D := D) (ci := 10) (v := .ref nq) (C := RX10) (T := TX10) (N := 3) hx hb hg gwX10 hown hK hP 0 rfl rfl 0 (by decide) (hg _ kw_125) (fun x h9 => u_same (hg _ kw_126) x h9) rfl dX10_amount_5 ?_
    refine lv_iconst (v := 0) hx hb dX10_amount_8 (by decide) ?_
    refine va_iald hx hb hK hP 1 0 rfl rfl (show ¬ ((0 : Int32) < 0 ∨ 4 ≤ (0 : Int32).toNatClampNeg) by decide) dX10_amount_9 ?_
    refine lv_topi (fun z_9 e_9 => ?_)
    refine lv_iload_n hx hb dX10_amount_10 rfl (lv_at hl 2 rfl) ?_
    refine lv_imul hx hb dX10_amount_11 ?_
    refine lv_topi (fun z_11 e_11 => ?_)
    refine lv_aload_n hx hb dX10_amount_12 rfl (lv_at hl 0 rfl) ?_
    refine va_get (D := D) (ci := 10) (v := .ref nq) (C := RX10) (T := TX10) (N := 3) hx hb hg gwX10 hown hK hP 0 rfl rfl 0 (by decide) (hg _ kw_125) (fun x h9 => u_same (hg _ kw_126) x h9) rfl dX10_amount_13 ?_
    refine lv_iconst (v := 1) hx hb dX10_amount_16 (by decide) ?_
    refine va_iald hx hb hK hP 1 0 rfl rfl (show ¬ ((1 : Int32) < 0 ∨ 4 ≤ (1 : Int32).toNatClampNeg) by decide) dX10_amount_17 ?_
    refine lv_topi (fun z_17 e_17 => ?_)
    refine lv_iload_n hx hb dX10_amount_18 rfl (lv_at hl 3 rfl) ?_
    refine lv_imul hx hb dX10_amount_19 ?_
    refine lv_topi (fun z_19 e_19 => ?_)
    refine lv_iadd hx hb dX10_amount_20 ?_
    refine lv_topi (fun z_20 e_20 => ?_)
    refine lv_goto (tgt := 41) hx hb dX10_amount_21 (by decide) ?_
    refine W_sQ hQ ?_
    exact W.iret (v := z_20) hx hb hr (fun t ht hW => ⟨z_20, rfl, trivial, ht⟩) (fun _ h => absurd h List.not_mem_nil) dX10_amount_41

set_option maxHeartbeats 4000000 in
set_option maxRecDepth 100000 in
theorem p_amount_X10_6 (l : Launch) (D : va_G) (cs : Nat → ClassId) (h0 : Nat) (nq : Nat) (av : Value) (rk : Int32) (fq : Nat → Int32) (p1 : Int32) (p2 : Int32) (p3 : Int32) : Met l yX10_amount (Cond.code yX10_amount cX10_amount 4 (some .int) :: gw_tbl) ({ frames := 0, cells := 0, slots := 0, locals := 0 }) (pc_S D cs [(h0, .inr (6, [.ref nq, av, .int rk])), (nq, .inl (cs 0, 4, .inl fq))] [.ref h0, .int p1, .int p2, .int p3]) (vp_Si (fun r => True)) 0 0 (fun _ => False) := by
  refine Met.ofW (cc := cX10_amount) (maxL := 4) (ret := (some .int)) (by decide) rfl ?_
  intro p e s m args below meth c s₁ B hml hv
  obtain ⟨hargs, hP, hK⟩ := hv
  have hx := B.exec
  have hb := B.bytes
  have hr := B.returns
  have hts := atoms_spec (ws := Cond.code yX10_amount cX10_amount 4 (some .int) :: gw_tbl) B.pre
  have hg := fun (w : Cond) (h : w ∈ gw_tbl) => hts w (List.mem_cons_of_mem _ h)
  have hown : s.vm.findClass RX10 = some m.cls := findClass_of_methodNamed B.named
  have hlocks := B.notSynchronized
  have hl := lv_entry ([.ref h0, .int p1, .int p2, .int p3]) (n := 4) (Nat.le_of_ble_eq_true rfl)
  rw [show entryFrame m args 4 = F0 m 0 (lg_sl ([.ref h0, .int p1, .int p2, .int p3]) ++ List.replicate (4 - (lg_sl ([.ref h0, .int p1, .int p2, .int p3])).length) Slot.unset).toArray [] from by rw [hargs]; exact lg_entry_eq ..]
  generalize (lg_sl ([.ref h0, .int p1, .int p2, .int p3]) ++ List.replicate (4 - (lg_sl ([.ref h0, .int p1, .int p2, .int p3])).length) Slot.unset).toArray = ls at hl ⊢
  have hl : lv_has ls 4 [(0, .ref h0), (1, .int p1), (2, .int p2), (3, .int p3)] := hl
  refine W_genQ (fun Q hQ => ?_)
  refine lv_iload_n hx hb dX10_amount_0 rfl (lv_at hl 1 rfl) ?_
  refine lv_if_ne (tgt := 24) hx hb dX10_amount_1 (by decide) (fun c_1 => ?_) (fun c_1 => ?_)
  · refine lv_aload_n hx hb dX10_amount_24 rfl (lv_at hl 0 rfl) ?_
    refine va_get (D := D) (ci := 6) (v := .ref nq) (C := RX6) (T := TX6) (N := 3) hx hb hg gwX6 hown hK hP 0 rfl rfl 0 (by decide) (hg _ kw_125) (fun x h9 => u_same (hg _ kw_126) x h9) rfl dX10_amount_25 ?_
    refine lv_iconst (v := 2) hx hb dX10_amount_28 (by decide) ?_
    refine va_iald hx hb hK hP 1 0 rfl rfl (show ¬ ((2 : Int32) < 0 ∨ 4 ≤ (2 : Int32).toNatClampNeg) by decide) dX10_amount_29 ?_
    refine lv_topi (fun z_29 e_29 => ?_)
    refine lv_iload_n hx hb dX10_amount_30 rfl (lv_at hl 2 rfl) ?_
    refine lv_imul hx hb dX10_amount_31 ?_
    refine lv_topi (fun z_31 e_31 => ?_)
    refine lv_aload_n hx hb dX10_amount_32 rfl (lv_at hl 0 rfl) ?_
    refine va_get (D := D) (ci := 6) (v := .ref nq) (C := RX6) (T := TX6) (N := 3) hx hb hg gwX6 hown hK hP 0 rfl rfl 0 (by decide) (hg _ kw_125) (fun x h9 => u_same (hg _ kw_126) x h9) rfl dX10_amount_33 ?_
    refine lv_iconst (v := 3) hx hb dX10_amount_36 (by decide) ?_
    refine va_iald hx hb hK hP 1 0 rfl rfl (show ¬ ((3 : Int32) < 0 ∨ 4 ≤ (3 : Int32).toNatClampNeg) by decide) dX10_amount_37 ?_
    refine lv_topi (fun z_37 e_37 => ?_)
    refine lv_iload_n hx hb dX10_amount_38 rfl (lv_at hl 3 rfl) ?_
    refine lv_imul hx hb dX10_amount_39 ?_
    refine lv_topi (fun z_39 e_39 => ?_)
    refine lv_iadd hx hb dX10_amount_40 ?_
    refine lv_topi (fun z_40 e_40 => ?_)
    refine W_sQ hQ ?_
    exact W.iret (v := z_40) hx hb hr (fun t ht hW => ⟨z_40, rfl, trivial, ht⟩) (fun _ h => absurd h List.not_mem_nil) dX10_amount_41
  · subst c_1
    refine lv_aload_n hx hb dX10_amount_4 rfl (lv_at hl 0 rfl) ?_
    refine va_get (D := D) (ci := 6) (v := .ref nq) (C := RX6) (T := TX6) (N := 3) hx hb hg gwX6 hown hK hP 0 rfl rfl 0 (by decide) (hg _ kw_125) (fun x h9 => u_same (hg _ kw_126) x h9) rfl dX10_amount_5 ?_
    refine lv_iconst (v := 0) hx hb dX10_amount_8 (by decide) ?_
    refine va_iald hx hb hK hP 1 0 rfl rfl (show ¬ ((0 : Int32) < 0 ∨ 4 ≤ (0 : Int32).toNatClampNeg) by decide) dX10_amount_9 ?_
    refine lv_topi (fun z_9 e_9 => ?_)
    refine lv_iload_n hx hb dX10_amount_10 rfl (lv_at hl 2 rfl) ?_
    refine lv_imul hx hb dX10_amount_11 ?_
    refine lv_topi (fun z_11 e_11 => ?_)
    refine lv_aload_n hx hb dX10_amount_12 rfl (lv_at hl 0 rfl) ?_
    refine va_get (D := D) (ci := 6) (v := .ref nq) (C := RX6) (T := TX6) (N := 3) hx hb hg gwX6 hown hK hP 0 rfl rfl 0 (by decide) (hg _ kw_125) (fun x h9 => u_same (hg _ kw_126) x h9) rfl dX10_amount_13 ?_
    refine lv_iconst (v := 1) hx hb dX10_amount_16 (by decide) ?_
    refine va_iald hx hb hK hP 1 0 rfl rfl (show ¬ ((1 : Int32) < 0 ∨ 4 ≤ (1 : Int32).toNatClampNeg) by decide) dX10_amount_17 ?_
    refine lv_topi (fun z_17 e_17 => ?_)
    refine lv_iload_n hx hb dX10_amount_18 rfl (lv_at hl 3 rfl) ?_
    refine lv_imul hx hb dX10_amount_19 ?_
    refine lv_topi (fun z_19 e_19 => ?_)
    refine lv_iadd hx hb dX10_amount_20 ?_
    refine lv_topi (fun z_20 e_20 => ?_)
    refine lv_goto (tgt := 41) hx hb dX10_amount_21 (by decide) ?_
    refine W_sQ hQ ?_
    exact W.iret (v := z_20) hx hb hr (fun t ht hW => ⟨z_20, rfl, trivial, ht⟩) (fun _ h => absurd h List.not_mem_nil) dX10_amount_41

theorem dX6_amount_0 : decode cX6_amount 0 = .ok (.iload_n 1, 1) := by decide +kernel
theorem dX6_amount_1 : decode cX6_amount 1 = .ok (.ifCond .ne 11, 3) := by decide +kernel
theorem dX6_amount_4 : decode cX6_amount 4 = .ok (.iload_n 3, 1) := by decide +kernel
theorem dX6_amount_5 : decode cX6_amount 5 = .ok (.iload_n 2, 1) := by decide +kernel
theorem dX6_amount_6 : decode cX6_amount 6 = .ok (.iconst 1, 1) := by decide +kernel
theorem dX6_amount_7 : decode cX6_amount 7 = .ok (.iadd, 1) := by decide +kernel
theorem dX6_amount_8 : decode cX6_amount 8 = .ok (.isub, 1) := by decide +kernel
theorem dX6_amount_9 : decode cX6_amount 9 = .ok (.goto 8, 3) := by decide +kernel
theorem dX6_amount_12 : decode cX6_amount 12 = .ok (.iload_n 2, 1) := by decide +kernel
theorem dX6_amount_13 : decode cX6_amount 13 = .ok (.iload_n 3, 1) := by decide +kernel
theorem dX6_amount_14 : decode cX6_amount 14 = .ok (.iconst 1, 1) := by decide +kernel
theorem dX6_amount_15 : decode cX6_amount 15 = .ok (.iadd, 1) := by decide +kernel
theorem dX6_amount_16 : decode cX6_amount 16 = .ok (.isub, 1) := by decide +kernel
theorem dX6_amount_17 : decode cX6_amount 17 = .ok (.istore 4, 2) := by decide +kernel
theorem dX6_amount_19 : decode cX6_amount 19 = .ok (.iload_n 1, 1) := by decide +kernel
theorem dX6_amount_20 : decode cX6_amount 20 = .ok (.ifCond .ne 12, 3) := by decide +kernel
theorem dX6_amount_23 : decode cX6_amount 23 = .ok (.aload_n 0, 1) := by decide +kernel
theorem dX6_amount_24 : decode cX6_amount 24 = .ok (.getfield 9, 3) := by decide +kernel
theorem dX6_amount_27 : decode cX6_amount 27 = .ok (.iconst 0, 1) := by decide +kernel
theorem dX6_amount_28 : decode cX6_amount 28 = .ok (.iaload, 1) := by decide +kernel
theorem dX6_amount_29 : decode cX6_amount 29 = .ok (.goto 9, 3) := by decide +kernel
theorem dX6_amount_32 : decode cX6_amount 32 = .ok (.aload_n 0, 1) := by decide +kernel
theorem dX6_amount_33 : decode cX6_amount 33 = .ok (.getfield 9, 3) := by decide +kernel
theorem dX6_amount_36 : decode cX6_amount 36 = .ok (.iconst 2, 1) := by decide +kernel
theorem dX6_amount_37 : decode cX6_amount 37 = .ok (.iaload, 1) := by decide +kernel
theorem dX6_amount_38 : decode cX6_amount 38 = .ok (.istore 5, 2) := by decide +kernel
theorem dX6_amount_40 : decode cX6_amount 40 = .ok (.aload_n 0, 1) := by decide +kernel
theorem dX6_amount_41 : decode cX6_amount 41 = .ok (.iload_n 1, 1) := by decide +kernel
theorem dX6_amount_42 : decode cX6_amount 42 = .ok (.iload_n 2, 1) := by decide +kernel
theorem dX6_amount_43 : decode cX6_amount 43 = .ok (.iload_n 3, 1) := by decide +kernel
theorem dX6_amount_44 : decode cX6_amount 44 = .ok (.invokespecial 15, 3) := by decide +kernel
theorem dX6_amount_47 : decode cX6_amount 47 = .ok (.iload 5, 2) := by decide +kernel
theorem dX6_amount_49 : decode cX6_amount 49 = .ok (.iconst 0, 1) := by decide +kernel
theorem dX6_amount_50 : decode cX6_amount 50 = .ok (.iload 4, 2) := by decide +kernel
theorem dX6_amount_52 : decode cX6_amount 52 = .ok (.invokestatic 19, 3) := by decide +kernel
theorem dX6_amount_55 : decode cX6_amount 55 = .ok (.imul, 1) := by decide +kernel
theorem dX6_amount_56 : decode cX6_amount 56 = .ok (.iadd, 1) := by decide +kernel
theorem dX6_amount_57 : decode cX6_amount 57 = .ok (.ireturn, 1) := by decide +kernel
theorem kw_127 : (.fieldLink RX6 9 "NobodyChecks$Rare" "numbers" "[I" : Cond) ∈ gw_tbl := gw_in (by decide +kernel) (by decide +kernel)
theorem kw_128 : (.sameField "NobodyChecks$Rare" "NobodyChecks$Pay" "numbers" "[I" : Cond) ∈ gw_tbl := gw_in (by decide +kernel) (by decide +kernel)
theorem kw_129 : (.code yX10_amount cX10_amount 4 (some .int) : Cond) ∈ gw_tbl := gw_in (by decide +kernel) (by decide +kernel)
theorem kw_130 : (.methodLink RX6 15 yX10_amount : Cond) ∈ gw_tbl := gw_in (by decide +kernel) (by decide +kernel)
theorem kw_131 : (.sameMethod yX10_amount.cls yX10_amount.cls yX10_amount.name yX10_amount.desc : Cond) ∈ gw_tbl := gw_in (by decide +kernel) (by decide +kernel)
theorem kw_132 : (.superclass RX6 RX10 : Cond) ∈ gw_tbl := gw_in (by decide +kernel) (by decide +kernel)
theorem kw_133 : (.instanceMethod yX10_amount : Cond) ∈ gw_tbl := gw_in (by decide +kernel) (by decide +kernel)
theorem kw_134 : (.initialized RX10 : Cond) ∈ gw_tbl := gw_in (by decide +kernel) (by decide +kernel)
theorem kw_135 : (.methodLink RX6 19 Lib.Math.max.name : Cond) ∈ gw_tbl := gw_in (by decide +kernel) (by decide +kernel)
theorem kw_136 : (.static Lib.Math.max.name : Cond) ∈ gw_tbl := gw_in (by decide +kernel) (by decide +kernel)
theorem kw_137 : (.code Lib.Math.max.name Lib.Math.max.code 2 (some .int) : Cond) ∈ gw_tbl := gw_in (by decide +kernel) (by decide +kernel)

set_option maxHeartbeats 4000000 in
set_option maxRecDepth 100000 in
theorem p_amount_X6_6 (l : Launch) (D : va_G) (cs : Nat → ClassId) (h0 : Nat) (nq : Nat) (av : Value) (rk : Int32) (fq : Nat → Int32) (p1 : Int32) (p2 : Int32) (p3 : Int32) : Met l yX6_amount (Cond.code yX6_amount cX6_amount 6 (some .int) :: gw_tbl) ({ frames := 1, cells := 0, slots := 0, locals := 23 }) (pc_S D cs [(h0, .inr (6, [.ref nq, av, .int rk])), (nq, .inl (cs 0, 4, .inl fq))] [.ref h0, .int p1, .int p2, .int p3]) (vp_Si (fun r => True)) 0 0 (fun _ => False) := by
  refine Met.ofW (cc := cX6_amount) (maxL := 6) (ret := (some .int)) (by decide) rfl ?_
  intro p e s m args below meth c s₁ B hml hv
  obtain ⟨hargs, hP, hK⟩ := hv
  have hx := B.exec
  have hb := B.bytes
  have hr := B.returns
  have hts := atoms_spec (ws := Cond.code yX6_amount cX6_amount 6 (some .int) :: gw_tbl) B.pre
  have hg := fun (w : Cond) (h : w ∈ gw_tbl) => hts w (List.mem_cons_of_mem _ h)
  have hown : s.vm.findClass RX6 = some m.cls := findClass_of_methodNamed B.named
  have hlocks := B.notSynchronized
  have hl := lv_entry ([.ref h0, .int p1, .int p2, .int p3]) (n := 6) (Nat.le_of_ble_eq_true rfl)
  rw [show entryFrame m args 6 = F0 m 0 (lg_sl ([.ref h0, .int p1, .int p2, .int p3]) ++ List.replicate (6 - (lg_sl ([.ref h0, .int p1, .int p2, .int p3])).length) Slot.unset).toArray [] from by rw [hargs]; exact lg_entry_eq ..]
  generalize (lg_sl ([.ref h0, .int p1, .int p2, .int p3]) ++ List.replicate (6 - (lg_sl ([.ref h0, .int p1, .int p2, .int p3])).length) Slot.unset).toArray = ls at hl ⊢
  have hl : lv_has ls 6 [(0, .ref h0), (1, .int p1), (2, .int p2), (3, .int p3)] := hl
  refine W_genQ (fun Q hQ => ?_)
  refine lv_iload_n hx hb dX6_amount_0 rfl (lv_at hl 1 rfl) ?_
  refine lv_if_ne (tgt := 12) hx hb dX6_amount_1 (by decide) (fun c_1 => ?_) (fun c_1 => ?_)
  · refine lv_iload_n hx hb dX6_amount_12 rfl (lv_at hl 2 rfl) ?_
    refine lv_iload_n hx hb dX6_amount_13 rfl (lv_at hl 3 rfl) ?_
    refine lv_iconst (v := 1) hx hb dX6_amount_14 (by decide) ?_
    refine lv_iadd hx hb dX6_amount_15 ?_
    refine lv_topi (fun z_15 e_15 => ?_)
    refine lv_isub hx hb dX6_amount_16 ?_
    refine lv_topi (fun z_16 e_16 => ?_)
    refine lv_istore (lv' := [(4, .int z_16), (0, .ref h0), (1, .int p1), (2, .int p2), (3, .int p3)]) hx hb dX6_amount_17 hl (by decide) rfl (fun ls hl => ?_)
    refine lv_iload_n hx hb dX6_amount_19 rfl (lv_at hl 2 rfl) ?_
    refine lv_if_ne (tgt := 32) hx hb dX6_amount_20 (by decide) (fun c_20 => ?_) (fun c_20 => ?_)
    · refine lv_aload_n hx hb dX6_amount_32 rfl (lv_at hl 1 rfl) ?_
      refine va_get (D := D) (ci := 6) (v := .ref nq) (C := RX6) (T := TX6) (N := 3) hx hb hg gwX6 hown hK hP 0 rfl rfl 0 (by decide) (hg _ kw_127) (fun x h9 => u_same (hg _ kw_128) x h9) rfl dX6_amount_33 ?_
      refine lv_iconst (v := 2) hx hb dX6_amount_36 (by decide) ?_
      refine va_iald hx hb hK hP 1 0 rfl rfl (show ¬ ((2 : Int32) < 0 ∨ 4 ≤ (2 : Int32).toNatClampNeg) by decide) dX6_amount_37 ?_
      refine lv_topi (fun z_37 e_37 => ?_)
      refine lv_istore (lv' := [(5, .int z_37), (4, .int z_16), (0, .ref h0), (1, .int p1), (2, .int p2), (3, .int p3)]) hx hb dX6_amount_38 hl (by decide) rfl (fun ls hl => ?_)
      refine lv_aload_n hx hb dX6_amount_40 rfl (lv_at hl 2 rfl) ?_
      refine lv_iload_n hx hb dX6_amount_41 rfl (lv_at hl 3 rfl) ?_
      refine lv_iload_n hx hb dX6_amount_42 rfl (lv_at hl 4 rfl) ?_
      refine lv_iload_n hx hb dX6_amount_43 rfl (lv_at hl 5 rfl) ?_
      have hPc := hP.sub (ws' := [(h0, .inr (6, [.ref nq, av, .int rk])), (nq, .inl (cs 0, 4, .inl fq))]) [0, 1] rfl
      refine vp_callSi (va_Run.run (va_runSU (As := [.int p1, .int p2, .int p3]) (rest := []) (hK.1 6 (RX6, TX6, 3) rfl).2 ⟨hx, hb, hml, hown, hg⟩ (p_amount_X10_6 l D cs h0 nq av rk fq p1 p2 p3) (va_cwSU 3 hg (gw_SU kw_130 kw_131 kw_132 kw_133 kw_134 kw_129) rfl rfl rfl (by decide +kernel) ⟨(Nat.le_of_ble_eq_true rfl), (Nat.le_of_ble_eq_true rfl)⟩) (pr_SV (q := (RX6, TX6, 3)) 6 0 hK hPc rfl rfl) rfl rfl hl.1 rfl (lv_room (Nat.le_of_ble_eq_true rfl)) dX6_amount_44 ⟨(Nat.le_of_ble_eq_true rfl), (Nat.le_of_ble_eq_true rfl)⟩)) (fun r_44 h_44 => ?_)
      clear h_44
      refine lv_iload hx hb dX6_amount_47 (lv_at hl 0 rfl) ?_
      refine lv_iconst (v := 0) hx hb dX6_amount_49 (by decide) ?_
      refine lv_iload hx hb dX6_amount_50 (lv_at hl 1 rfl) ?_
      refine va_mmax hx hb (hml.trans hl.1.symm) hown (hg _ kw_135) (hg _ kw_136) (hg _ kw_7) (hg _ kw_137) (Nat.le_of_ble_eq_true rfl) (Nat.le_of_ble_eq_true rfl) (Nat.le_of_ble_eq_true rfl) (Nat.le_of_ble_eq_true rfl) dX6_amount_52 ?_
      refine lv_topi (fun z_52 e_52 => ?_)
      refine lv_imul hx hb dX6_amount_55 ?_
      refine lv_topi (fun z_55 e_55 => ?_)
      refine lv_iadd hx hb dX6_amount_56 ?_
      refine lv_topi (fun z_56 e_56 => ?_)
      refine W_sQ hQ ?_
      exact W.iret (v := z_56) hx hb hr (fun t ht hW => ⟨z_56, rfl, trivial, ht⟩) (fun _ h => absurd h List.not_mem_nil) dX6_amount_57
    · subst c_20
      refine lv_aload_n hx hb dX6_amount_23 rfl (lv_at hl 1 rfl) ?_
      refine va_get (D := D) (ci := 6) (v := .ref nq) (C := RX6) (T := TX6) (N := 3) hx hb hg gwX6 hown hK hP 0 rfl rfl 0 (by decide) (hg _ kw_127) (fun x h9 => u_same (hg _ kw_128) x h9) rfl dX6_amount_24 ?_
      refine lv_iconst (v := 0) hx hb dX6_amount_27 (by decide) ?_
      refine va_iald hx hb hK hP 1 0 rfl rfl (show ¬ ((0 : Int32) < 0 ∨ 4 ≤ (0 : Int32).toNatClampNeg) by decide) dX6_amount_28 ?_
      refine lv_topi (fun z_28 e_28 => ?_)
      refine lv_goto (tgt := 38) hx hb dX6_amount_29 (by decide) ?_
      refine lv_istore (lv' := [(5, .int z_28), (4, .int z_16), (0, .ref h0), (1, .int 0), (2, .int p2), (3, .int p3)]) hx hb dX6_amount_38 hl (by decide) rfl (fun ls hl => ?_)
      refine lv_aload_n hx hb dX6_amount_40 rfl (lv_at hl 2 rfl) ?_
      refine lv_iload_n hx hb dX6_amount_41 rfl (lv_at hl 3 rfl) ?_
      refine lv_iload_n hx hb dX6_amount_42 rfl (lv_at hl 4 rfl) ?_
      refine lv_iload_n hx hb dX6_amount_43 rfl (lv_at hl 5 rfl) ?_
      have hPc := hP.sub (ws' := [(h0, .inr (6, [.ref nq, av, .int rk])), (nq, .inl (cs 0, 4, .inl fq))]) [0, 1] rfl
      refine vp_callSi (va_Run.run (va_runSU (As := [.int 0, .int p2, .int p3]) (rest := []) (hK.1 6 (RX6, TX6, 3) rfl).2 ⟨hx, hb, hml, hown, hg⟩ (p_amount_X10_6 l D cs h0 nq av rk fq 0 p2 p3) (va_cwSU 3 hg (gw_SU kw_130 kw_131 kw_132 kw_133 kw_134 kw_129) rfl rfl rfl (by decide +kernel) ⟨(Nat.le_of_ble_eq_true rfl), (Nat.le_of_ble_eq_true rfl)⟩) (pr_SV (q := (RX6, TX6, 3)) 6 0 hK hPc rfl rfl) rfl rfl hl.1 rfl (lv_room (Nat.le_of_ble_eq_true rfl)) dX6_amount_44 ⟨(Nat.le_of_ble_eq_true rfl), (Nat.le_of_ble_eq_true rfl)⟩)) (fun r_44 h_44 => ?_)
      clear h_44
      refine lv_iload hx hb dX6_amount_47 (lv_at hl 0 rfl) ?_
      refine lv_iconst (v := 0) hx hb dX6_amount_49 (by decide) ?_
      refine lv_iload hx hb dX6_amount_50 (lv_at hl 1 rfl) ?_
      refine va_mmax hx hb (hml.trans hl.1.symm) hown (hg _ kw_135) (hg _ kw_136) (hg _ kw_7) (hg _ kw_137) (Nat.le_of_ble_eq_true rfl) (Nat.le_of_ble_eq_true rfl) (Nat.le_of_ble_eq_true rfl) (Nat.le_of_ble_eq_true rfl) dX6_amount_52 ?_
      refine lv_topi (fun z_52 e_52 => ?_)
      refine lv_imul hx hb dX6_amount_55 ?_
      refine lv_topi (fun z_55 e_55 => ?_)
      refine lv_iadd hx hb dX6_amount_56 ?_
      refine lv_topi (fun z_56 e_56 => ?_)
      refine W_sQ hQ ?_
      exact W.iret (v := z_56) hx hb hr (fun t ht hW => ⟨z_56, rfl, trivial, ht⟩) (fun _ h => absurd h List.not_mem_nil) dX6_amount_57
  · subst c_1
    refine lv_iload_n hx hb dX6_amount_4 rfl (lv_at hl 3 rfl) ?_
    refine lv_iload_n hx hb dX6_amount_5 rfl (lv_at hl 2 rfl) ?_
    refine lv_iconst (v := 1) hx hb dX6_amount_6 (by decide) ?_
    refine lv_iadd hx hb dX6_amount_7 ?_
    refine lv_topi (fun z_7 e_7 => ?_)
    refine lv_isub hx hb dX6_amount_8 ?_
    refine lv_topi (fun z_8 e_8 => ?_)
    refine lv_goto (tgt := 17) hx hb dX6_amount_9 (by decide) ?_
    refine lv_istore (lv' := [(4, .int z_8), (0, .ref h0), (1, .int 0), (2, .int p2), (3, .int p3)]) hx hb dX6_amount_17 hl (by decide) rfl (fun ls hl => ?_)
    refine lv_iload_n hx hb dX6_amount_19 rfl (lv_at hl 2 rfl) ?_
    refine lv_if_ne (tgt := 32) hx hb dX6_amount_20 (by decide) (fun c_20 => absurd c_20 (by decide)) (fun c_20 => ?_)
    refine lv_aload_n hx hb dX6_amount_23 rfl (lv_at hl 1 rfl) ?_
    refine va_get (D := D) (ci := 6) (v := .ref nq) (C := RX6) (T := TX6) (N := 3) hx hb hg gwX6 hown hK hP 0 rfl rfl 0 (by decide) (hg _ kw_127) (fun x h9 => u_same (hg _ kw_128) x h9) rfl dX6_amount_24 ?_
    refine lv_iconst (v := 0) hx hb dX6_amount_27 (by decide) ?_
    refine va_iald hx hb hK hP 1 0 rfl rfl (show ¬ ((0 : Int32) < 0 ∨ 4 ≤ (0 : Int32).toNatClampNeg) by decide) dX6_amount_28 ?_
    refine lv_topi (fun z_28 e_28 => ?_)
    refine lv_goto (tgt := 38) hx hb dX6_amount_29 (by decide) ?_
    refine lv_istore (lv' := [(5, .int z_28), (4, .int z_8), (0, .ref h0), (1, .int 0), (2, .int p2), (3, .int p3)]) hx hb dX6_amount_38 hl (by decide) rfl (fun ls hl => ?_)
    refine lv_aload_n hx hb dX6_amount_40 rfl (lv_at hl 2 rfl) ?_
    refine lv_iload_n hx hb dX6_amount_41 rfl (lv_at hl 3 rfl) ?_
    refine lv_iload_n hx hb dX6_amount_42 rfl (lv_at hl 4 rfl) ?_
    refine lv_iload_n hx hb dX6_amount_43 rfl (lv_at hl 5 rfl) ?_
    have hPc := hP.sub (ws' := [(h0, .inr (6, [.ref nq, av, .int rk])), (nq, .inl (cs 0, 4, .inl fq))]) [0, 1] rfl
    refine vp_callSi (va_Run.run (va_runSU (As := [.int 0, .int p2, .int p3]) (rest := []) (hK.1 6 (RX6, TX6, 3) rfl).2 ⟨hx, hb, hml, hown, hg⟩ (p_amount_X10_6 l D cs h0 nq av rk fq 0 p2 p3) (va_cwSU 3 hg (gw_SU kw_130 kw_131 kw_132 kw_133 kw_134 kw_129) rfl rfl rfl (by decide +kernel) ⟨(Nat.le_of_ble_eq_true rfl), (Nat.le_of_ble_eq_true rfl)⟩) (pr_SV (q := (RX6, TX6, 3)) 6 0 hK hPc rfl rfl) rfl rfl hl.1 rfl (lv_room (Nat.le_of_ble_eq_true rfl)) dX6_amount_44 ⟨(Nat.le_of_ble_eq_true rfl), (Nat.le_of_ble_eq_true rfl)⟩)) (fun r_44 h_44 => ?_)
    clear h_44
    refine lv_iload hx hb dX6_amount_47 (lv_at hl 0 rfl) ?_
    refine lv_iconst (v := 0) hx hb dX6_amount_49 (by decide) ?_
    refine lv_iload hx hb dX6_amount_50 (lv_at hl 1 rfl) ?_
    refine va_mmax hx hb (hml.trans hl.1.symm) hown (hg _ kw_135) (hg _ kw_136) (hg _ kw_7) (hg _ kw_137) (Nat.le_of_ble_eq_true rfl) (Nat.le_of_ble_eq_true rfl) (Nat.le_of_ble_eq_true rfl) (Nat.le_of_ble_eq_true rfl) dX6_amount_52 ?_
    refine lv_topi (fun z_52 e_52 => ?_)
    refine lv_imul hx hb dX6_amount_55 ?_
    refine lv_topi (fun z_55 e_55 => ?_)
    refine lv_iadd hx hb dX6_amount_56 ?_
    refine lv_topi (fun z_56 e_56 => ?_)
    refine W_sQ hQ ?_
    exact W.iret (v := z_56) hx hb hr (fun t ht hW => ⟨z_56, rfl, trivial, ht⟩) (fun _ h => absurd h List.not_mem_nil) dX6_amount_57

theorem dX3_kind_0 : decode cX3_kind 0 = .ok (.iconst 0, 1) := by decide +kernel
theorem dX3_kind_1 : decode cX3_kind 1 = .ok (.ireturn, 1) := by decide +kernel

set_option maxHeartbeats 4000000 in
set_option maxRecDepth 100000 in
theorem p_kind_X3_3 (l : Launch) (D : va_G) (cs : Nat → ClassId) (h0 : Nat) (nq : Nat) (av : Value) (rk : Int32) : Met l yX3_kind (Cond.code yX3_kind cX3_kind 1 (some .int) :: gw_tbl) ({ frames := 0, cells := 0, slots := 0, locals := 0 }) (pc_S D cs [(h0, .inr (3, [.ref nq, av, .int rk]))] [.ref h0]) (vp_Si (fun r => r = kdo 3)) 0 0 (fun _ => False) := by
  refine Met.ofW (cc := cX3_kind) (maxL := 1) (ret := (some .int)) (by decide) rfl ?_
  intro p e s m args below meth c s₁ B hml hv
  obtain ⟨hargs, hP, hK⟩ := hv
  have hx := B.exec
  have hb := B.bytes
  have hr := B.returns
  have hts := atoms_spec (ws := Cond.code yX3_kind cX3_kind 1 (some .int) :: gw_tbl) B.pre
  have hg := fun (w : Cond) (h : w ∈ gw_tbl) => hts w (List.mem_cons_of_mem _ h)
  have hown : s.vm.findClass RX3 = some m.cls := findClass_of_methodNamed B.named
  have hlocks := B.notSynchronized
  have hl := lv_entry ([.ref h0]) (n := 1) (Nat.le_of_ble_eq_true rfl)
  rw [show entryFrame m args 1 = F0 m 0 (lg_sl ([.ref h0]) ++ List.replicate (1 - (lg_sl ([.ref h0])).length) Slot.unset).toArray [] from by rw [hargs]; exact lg_entry_eq ..]
  generalize (lg_sl ([.ref h0]) ++ List.replicate (1 - (lg_sl ([.ref h0])).length) Slot.unset).toArray = ls at hl ⊢
  have hl : lv_has ls 1 [(0, .ref h0)] := hl
  refine W_genQ (fun Q hQ => ?_)
  refine lv_iconst (v := 0) hx hb dX3_kind_0 (by decide) ?_
  refine W_sQ hQ ?_
  exact W.iret (v := 0) hx hb hr (fun t ht hW => ⟨0, rfl, (by decide), ht⟩) (fun _ h => absurd h List.not_mem_nil) dX3_kind_1

theorem dX9_kind_0 : decode cX9_kind 0 = .ok (.iconst 1, 1) := by decide +kernel
theorem dX9_kind_1 : decode cX9_kind 1 = .ok (.ireturn, 1) := by decide +kernel

set_option maxHeartbeats 4000000 in
set_option maxRecDepth 100000 in
theorem p_kind_X9_9 (l : Launch) (D : va_G) (cs : Nat → ClassId) (h0 : Nat) (nq : Nat) (av : Value) (rk : Int32) : Met l yX9_kind (Cond.code yX9_kind cX9_kind 1 (some .int) :: gw_tbl) ({ frames := 0, cells := 0, slots := 0, locals := 0 }) (pc_S D cs [(h0, .inr (9, [.ref nq, av, .int rk]))] [.ref h0]) (vp_Si (fun r => r = kdo 9)) 0 0 (fun _ => False) := by
  refine Met.ofW (cc := cX9_kind) (maxL := 1) (ret := (some .int)) (by decide) rfl ?_
  intro p e s m args below meth c s₁ B hml hv
  obtain ⟨hargs, hP, hK⟩ := hv
  have hx := B.exec
  have hb := B.bytes
  have hr := B.returns
  have hts := atoms_spec (ws := Cond.code yX9_kind cX9_kind 1 (some .int) :: gw_tbl) B.pre
  have hg := fun (w : Cond) (h : w ∈ gw_tbl) => hts w (List.mem_cons_of_mem _ h)
  have hown : s.vm.findClass RX9 = some m.cls := findClass_of_methodNamed B.named
  have hlocks := B.notSynchronized
  have hl := lv_entry ([.ref h0]) (n := 1) (Nat.le_of_ble_eq_true rfl)
  rw [show entryFrame m args 1 = F0 m 0 (lg_sl ([.ref h0]) ++ List.replicate (1 - (lg_sl ([.ref h0])).length) Slot.unset).toArray [] from by rw [hargs]; exact lg_entry_eq ..]
  generalize (lg_sl ([.ref h0]) ++ List.replicate (1 - (lg_sl ([.ref h0])).length) Slot.unset).toArray = ls at hl ⊢
  have hl : lv_has ls 1 [(0, .ref h0)] := hl
  refine W_genQ (fun Q hQ => ?_)
  refine lv_iconst (v := 1) hx hb dX9_kind_0 (by decide) ?_
  refine W_sQ hQ ?_
  exact W.iret (v := 1) hx hb hr (fun t ht hW => ⟨1, rfl, (by decide), ht⟩) (fun _ h => absurd h List.not_mem_nil) dX9_kind_1

theorem dX10_kind_0 : decode cX10_kind 0 = .ok (.iconst 2, 1) := by decide +kernel
theorem dX10_kind_1 : decode cX10_kind 1 = .ok (.ireturn, 1) := by decide +kernel

set_option maxHeartbeats 4000000 in
set_option maxRecDepth 100000 in
theorem p_kind_X10_10 (l : Launch) (D : va_G) (cs : Nat → ClassId) (h0 : Nat) (nq : Nat) (av : Value) (rk : Int32) : Met l yX10_kind (Cond.code yX10_kind cX10_kind 1 (some .int) :: gw_tbl) ({ frames := 0, cells := 0, slots := 0, locals := 0 }) (pc_S D cs [(h0, .inr (10, [.ref nq, av, .int rk]))] [.ref h0]) (vp_Si (fun r => r = kdo 10)) 0 0 (fun _ => False) := by
  refine Met.ofW (cc := cX10_kind) (maxL := 1) (ret := (some .int)) (by decide) rfl ?_
  intro p e s m args below meth c s₁ B hml hv
  obtain ⟨hargs, hP, hK⟩ := hv
  have hx := B.exec
  have hb := B.bytes
  have hr := B.returns
  have hts := atoms_spec (ws := Cond.code yX10_kind cX10_kind 1 (some .int) :: gw_tbl) B.pre
  have hg := fun (w : Cond) (h : w ∈ gw_tbl) => hts w (List.mem_cons_of_mem _ h)
  have hown : s.vm.findClass RX10 = some m.cls := findClass_of_methodNamed B.named
  have hlocks := B.notSynchronized
  have hl := lv_entry ([.ref h0]) (n := 1) (Nat.le_of_ble_eq_true rfl)
  rw [show entryFrame m args 1 = F0 m 0 (lg_sl ([.ref h0]) ++ List.replicate (1 - (lg_sl ([.ref h0])).length) Slot.unset).toArray [] from by rw [hargs]; exact lg_entry_eq ..]
  generalize (lg_sl ([.ref h0]) ++ List.replicate (1 - (lg_sl ([.ref h0])).length) Slot.unset).toArray = ls at hl ⊢
  have hl : lv_has ls 1 [(0, .ref h0)] := hl
  refine W_genQ (fun Q hQ => ?_)
  refine lv_iconst (v := 2) hx hb dX10_kind_0 (by decide) ?_
  refine W_sQ hQ ?_
  exact W.iret (v := 2) hx hb hr (fun t ht hW => ⟨2, rfl, (by decide), ht⟩) (fun _ h => absurd h List.not_mem_nil) dX10_kind_1

theorem dX6_kind_0 : decode cX6_kind 0 = .ok (.iconst 3, 1) := by decide +kernel
theorem dX6_kind_1 : decode cX6_kind 1 = .ok (.ireturn, 1) := by decide +kernel

set_option maxHeartbeats 4000000 in
set_option maxRecDepth 100000 in
theorem p_kind_X6_6 (l : Launch) (D : va_G) (cs : Nat → ClassId) (h0 : Nat) (nq : Nat) (av : Value) (rk : Int32) : Met l yX6_kind (Cond.code yX6_kind cX6_kind 1 (some .int) :: gw_tbl) ({ frames := 0, cells := 0, slots := 0, locals := 0 }) (pc_S D cs [(h0, .inr (6, [.ref nq, av, .int rk]))] [.ref h0]) (vp_Si (fun r => r = kdo 6)) 0 0 (fun _ => False) := by
  refine Met.ofW (cc := cX6_kind) (maxL := 1) (ret := (some .int)) (by decide) rfl ?_
  intro p e s m args below meth c s₁ B hml hv
  obtain ⟨hargs, hP, hK⟩ := hv
  have hx := B.exec
  have hb := B.bytes
  have hr := B.returns
  have hts := atoms_spec (ws := Cond.code yX6_kind cX6_kind 1 (some .int) :: gw_tbl) B.pre
  have hg := fun (w : Cond) (h : w ∈ gw_tbl) => hts w (List.mem_cons_of_mem _ h)
  have hown : s.vm.findClass RX6 = some m.cls := findClass_of_methodNamed B.named
  have hlocks := B.notSynchronized
  have hl := lv_entry ([.ref h0]) (n := 1) (Nat.le_of_ble_eq_true rfl)
  rw [show entryFrame m args 1 = F0 m 0 (lg_sl ([.ref h0]) ++ List.replicate (1 - (lg_sl ([.ref h0])).length) Slot.unset).toArray [] from by rw [hargs]; exact lg_entry_eq ..]
  generalize (lg_sl ([.ref h0]) ++ List.replicate (1 - (lg_sl ([.ref h0])).length) Slot.unset).toArray = ls at hl ⊢
  have hl : lv_has ls 1 [(0, .ref h0)] := hl
  refine W_genQ (fun Q hQ => ?_)
  refine lv_iconst (v := 3) hx hb dX6_kind_0 (by decide) ?_
  refine W_sQ hQ ?_
  exact W.iret (v := 3) hx hb hr (fun t ht hW => ⟨3, rfl, (by decide), ht⟩) (fun _ h => absurd h List.not_mem_nil) dX6_kind_1

theorem dX1_kind_0 : decode cX1_kind 0 = .ok (.iconst 4, 1) := by decide +kernel
theorem dX1_kind_1 : decode cX1_kind 1 = .ok (.ireturn, 1) := by decide +kernel

set_option maxHeartbeats 4000000 in
set_option maxRecDepth 100000 in
theorem p_kind_X1_1 (l : Launch) (D : va_G) (cs : Nat → ClassId) (h0 : Nat) (nq : Nat) (av : Value) (rk : Int32) : Met l yX1_kind (Cond.code yX1_kind cX1_kind 1 (some .int) :: gw_tbl) ({ frames := 0, cells := 0, slots := 0, locals := 0 }) (pc_S D cs [(h0, .inr (1, [.ref nq, av, .int rk]))] [.ref h0]) (vp_Si (fun r => r = kdo 1)) 0 0 (fun _ => False) := by
  refine Met.ofW (cc := cX1_kind) (maxL := 1) (ret := (some .int)) (by decide) rfl ?_
  intro p e s m args below meth c s₁ B hml hv
  obtain ⟨hargs, hP, hK⟩ := hv
  have hx := B.exec
  have hb := B.bytes
  have hr := B.returns
  have hts := atoms_spec (ws := Cond.code yX1_kind cX1_kind 1 (some .int) :: gw_tbl) B.pre
  have hg := fun (w : Cond) (h : w ∈ gw_tbl) => hts w (List.mem_cons_of_mem _ h)
  have hown : s.vm.findClass RX1 = some m.cls := findClass_of_methodNamed B.named
  have hlocks := B.notSynchronized
  have hl := lv_entry ([.ref h0]) (n := 1) (Nat.le_of_ble_eq_true rfl)
  rw [show entryFrame m args 1 = F0 m 0 (lg_sl ([.ref h0]) ++ List.replicate (1 - (lg_sl ([.ref h0])).length) Slot.unset).toArray [] from by rw [hargs]; exact lg_entry_eq ..]
  generalize (lg_sl ([.ref h0]) ++ List.replicate (1 - (lg_sl ([.ref h0])).length) Slot.unset).toArray = ls at hl ⊢
  have hl : lv_has ls 1 [(0, .ref h0)] := hl
  refine W_genQ (fun Q hQ => ?_)
  refine lv_iconst (v := 4) hx hb dX1_kind_0 (by decide) ?_
  refine W_sQ hQ ?_
  exact W.iret (v := 4) hx hb hr (fun t ht hW => ⟨4, rfl, (by decide), ht⟩) (fun _ h => absurd h List.not_mem_nil) dX1_kind_1

theorem dX3_unit_0 : decode cX3_unit 0 = .ok (.iconst 1, 1) := by decide +kernel
theorem dX3_unit_1 : decode cX3_unit 1 = .ok (.ireturn, 1) := by decide +kernel

set_option maxHeartbeats 4000000 in
set_option maxRecDepth 100000 in
theorem p_unit_X3_3 (l : Launch) (D : va_G) (cs : Nat → ClassId) (h0 : Nat) (nq : Nat) (av : Value) (rk : Int32) : Met l yX3_unit (Cond.code yX3_unit cX3_unit 1 (some .int) :: gw_tbl) ({ frames := 0, cells := 0, slots := 0, locals := 0 }) (pc_S D cs [(h0, .inr (3, [.ref nq, av, .int rk]))] [.ref h0]) (vp_Si (fun r => True)) 0 0 (fun _ => False) := by
  refine Met.ofW (cc := cX3_unit) (maxL := 1) (ret := (some .int)) (by decide) rfl ?_
  intro p e s m args below meth c s₁ B hml hv
  obtain ⟨hargs, hP, hK⟩ := hv
  have hx := B.exec
  have hb := B.bytes
  have hr := B.returns
  have hts := atoms_spec (ws := Cond.code yX3_unit cX3_unit 1 (some .int) :: gw_tbl) B.pre
  have hg := fun (w : Cond) (h : w ∈ gw_tbl) => hts w (List.mem_cons_of_mem _ h)
  have hown : s.vm.findClass RX3 = some m.cls := findClass_of_methodNamed B.named
  have hlocks := B.notSynchronized
  have hl := lv_entry ([.ref h0]) (n := 1) (Nat.le_of_ble_eq_true rfl)
  rw [show entryFrame m args 1 = F0 m 0 (lg_sl ([.ref h0]) ++ List.replicate (1 - (lg_sl ([.ref h0])).length) Slot.unset).toArray [] from by rw [hargs]; exact lg_entry_eq ..]
  generalize (lg_sl ([.ref h0]) ++ List.replicate (1 - (lg_sl ([.ref h0])).length) Slot.unset).toArray = ls at hl ⊢
  have hl : lv_has ls 1 [(0, .ref h0)] := hl
  refine W_genQ (fun Q hQ => ?_)
  refine lv_iconst (v := 1) hx hb dX3_unit_0 (by decide) ?_
  refine W_sQ hQ ?_
  exact W.iret (v := 1) hx hb hr (fun t ht hW => ⟨1, rfl, trivial, ht⟩) (fun _ h => absurd h List.not_mem_nil) dX3_unit_1

theorem dX3_added_0 : decode cX3_added 0 = .ok (.iconst 0, 1) := by decide +kernel
theorem dX3_added_1 : decode cX3_added 1 = .ok (.ireturn, 1) := by decide +kernel

set_option maxHeartbeats 4000000 in
set_option maxRecDepth 100000 in
theorem p_added_X3_3 (l : Launch) (D : va_G) (cs : Nat → ClassId) (h0 : Nat) (nq : Nat) (av : Value) (rk : Int32) (fq : Nat → Int32) (p1 : Int32) (p2 : Int32) : Met l yX3_added (Cond.code yX3_added cX3_added 3 (some .int) :: gw_tbl) ({ frames := 0, cells := 0, slots := 0, locals := 0 }) (pc_S D cs [(h0, .inr (3, [.ref nq, av, .int rk])), (nq, .inl (cs 0, 4, .inl fq))] [.ref h0, .int p1, .int p2]) (vp_Si (fun r => True)) 0 0 (fun _ => False) := by
  refine Met.ofW (cc := cX3_added) (maxL := 3) (ret := (some .int)) (by decide) rfl ?_
  intro p e s m args below meth c s₁ B hml hv
  obtain ⟨hargs, hP, hK⟩ := hv
  have hx := B.exec
  have hb := B.bytes
  have hr := B.returns
  have hts := atoms_spec (ws := Cond.code yX3_added cX3_added 3 (some .int) :: gw_tbl) B.pre
  have hg := fun (w : Cond) (h : w ∈ gw_tbl) => hts w (List.mem_cons_of_mem _ h)
  have hown : s.vm.findClass RX3 = some m.cls := findClass_of_methodNamed B.named
  have hlocks := B.notSynchronized
  have hl := lv_entry ([.ref h0, .int p1, .int p2]) (n := 3) (Nat.le_of_ble_eq_true rfl)
  rw [show entryFrame m args 3 = F0 m 0 (lg_sl ([.ref h0, .int p1, .int p2]) ++ List.replicate (3 - (lg_sl ([.ref h0, .int p1, .int p2])).length) Slot.unset).toArray [] from by rw [hargs]; exact lg_entry_eq ..]
  generalize (lg_sl ([.ref h0, .int p1, .int p2]) ++ List.replicate (3 - (lg_sl ([.ref h0, .int p1, .int p2])).length) Slot.unset).toArray = ls at hl ⊢
  have hl : lv_has ls 3 [(0, .ref h0), (1, .int p1), (2, .int p2)] := hl
  refine W_genQ (fun Q hQ => ?_)
  refine lv_iconst (v := 0) hx hb dX3_added_0 (by decide) ?_
  refine W_sQ hQ ?_
  exact W.iret (v := 0) hx hb hr (fun t ht hW => ⟨0, rfl, trivial, ht⟩) (fun _ h => absurd h List.not_mem_nil) dX3_added_1

set_option maxHeartbeats 4000000 in
set_option maxRecDepth 100000 in
theorem p_unit_X3_9 (l : Launch) (D : va_G) (cs : Nat → ClassId) (h0 : Nat) (nq : Nat) (av : Value) (rk : Int32) : Met l yX3_unit (Cond.code yX3_unit cX3_unit 1 (some .int) :: gw_tbl) ({ frames := 0, cells := 0, slots := 0, locals := 0 }) (pc_S D cs [(h0, .inr (9, [.ref nq, av, .int rk]))] [.ref h0]) (vp_Si (fun r => True)) 0 0 (fun _ => False) := by
  refine Met.ofW (cc := cX3_unit) (maxL := 1) (ret := (some .int)) (by decide) rfl ?_
  intro p e s m args below meth c s₁ B hml hv
  obtain ⟨hargs, hP, hK⟩ := hv
  have hx := B.exec
  have hb := B.bytes
  have hr := B.returns
  have hts := atoms_spec (ws := Cond.code yX3_unit cX3_unit 1 (some .int) :: gw_tbl) B.pre
  have hg := fun (w : Cond) (h : w ∈ gw_tbl) => hts w (List.mem_cons_of_mem _ h)
  have hown : s.vm.findClass RX3 = some m.cls := findClass_of_methodNamed B.named
  have hlocks := B.notSynchronized
  have hl := lv_entry ([.ref h0]) (n := 1) (Nat.le_of_ble_eq_true rfl)
  rw [show entryFrame m args 1 = F0 m 0 (lg_sl ([.ref h0]) ++ List.replicate (1 - (lg_sl ([.ref h0])).length) Slot.unset).toArray [] from by rw [hargs]; exact lg_entry_eq ..]
  generalize (lg_sl ([.ref h0]) ++ List.replicate (1 - (lg_sl ([.ref h0])).length) Slot.unset).toArray = ls at hl ⊢
  have hl : lv_has ls 1 [(0, .ref h0)] := hl
  refine W_genQ (fun Q hQ => ?_)
  refine lv_iconst (v := 1) hx hb dX3_unit_0 (by decide) ?_
  refine W_sQ hQ ?_
  exact W.iret (v := 1) hx hb hr (fun t ht hW => ⟨1, rfl, trivial, ht⟩) (fun _ h => absurd h List.not_mem_nil) dX3_unit_1

set_option maxHeartbeats 4000000 in
set_option maxRecDepth 100000 in
theorem p_added_X3_9 (l : Launch) (D : va_G) (cs : Nat → ClassId) (h0 : Nat) (nq : Nat) (av : Value) (rk : Int32) (fq : Nat → Int32) (p1 : Int32) (p2 : Int32) : Met l yX3_added (Cond.code yX3_added cX3_added 3 (some .int) :: gw_tbl) ({ frames := 0, cells := 0, slots := 0, locals := 0 }) (pc_S D cs [(h0, .inr (9, [.ref nq, av, .int rk])), (nq, .inl (cs 0, 4, .inl fq))] [.ref h0, .int p1, .int p2]) (vp_Si (fun r => True)) 0 0 (fun _ => False) := by
  refine Met.ofW (cc := cX3_added) (maxL := 3) (ret := (some .int)) (by decide) rfl ?_
  intro p e s m args below meth c s₁ B hml hv
  obtain ⟨hargs, hP, hK⟩ := hv
  have hx := B.exec
  have hb := B.bytes
  have hr := B.returns
  have hts := atoms_spec (ws := Cond.code yX3_added cX3_added 3 (some .int) :: gw_tbl) B.pre
  have hg := fun (w : Cond) (h : w ∈ gw_tbl) => hts w (List.mem_cons_of_mem _ h)
  have hown : s.vm.findClass RX3 = some m.cls := findClass_of_methodNamed B.named
  have hlocks := B.notSynchronized
  have hl := lv_entry ([.ref h0, .int p1, .int p2]) (n := 3) (Nat.le_of_ble_eq_true rfl)
  rw [show entryFrame m args 3 = F0 m 0 (lg_sl ([.ref h0, .int p1, .int p2]) ++ List.replicate (3 - (lg_sl ([.ref h0, .int p1, .int p2])).length) Slot.unset).toArray [] from by rw [hargs]; exact lg_entry_eq ..]
  generalize (lg_sl ([.ref h0, .int p1, .int p2]) ++ List.replicate (3 - (lg_sl ([.ref h0, .int p1, .int p2])).length) Slot.unset).toArray = ls at hl ⊢
  have hl : lv_has ls 3 [(0, .ref h0), (1, .int p1), (2, .int p2)] := hl
  refine W_genQ (fun Q hQ => ?_)
  refine lv_iconst (v := 0) hx hb dX3_added_0 (by decide) ?_
  refine W_sQ hQ ?_
  exact W.iret (v := 0) hx hb hr (fun t ht hW => ⟨0, rfl, trivial, ht⟩) (fun _ h => absurd h List.not_mem_nil) dX3_added_1

set_option maxHeartbeats 4000000 in
set_option maxRecDepth 100000 in
theorem p_unit_X3_10 (l : Launch) (D : va_G) (cs : Nat → ClassId) (h0 : Nat) (nq : Nat) (av : Value) (rk : Int32) : Met l yX3_unit (Cond.code yX3_unit cX3_unit 1 (some .int) :: gw_tbl) ({ frames := 0, cells := 0, slots := 0, locals := 0 }) (pc_S D cs [(h0, .inr (10, [.ref nq, av, .int rk]))] [.ref h0]) (vp_Si (fun r => True)) 0 0 (fun _ => False) := by
  refine Met.ofW (cc := cX3_unit) (maxL := 1) (ret := (some .int)) (by decide) rfl ?_
  intro p e s m args below meth c s₁ B hml hv
  obtain ⟨hargs, hP, hK⟩ := hv
  have hx := B.exec
  have hb := B.bytes
  have hr := B.returns
  have hts := atoms_spec (ws := Cond.code yX3_unit cX3_unit 1 (some .int) :: gw_tbl) B.pre
  have hg := fun (w : Cond) (h : w ∈ gw_tbl) => hts w (List.mem_cons_of_mem _ h)
  have hown : s.vm.findClass RX3 = some m.cls := findClass_of_methodNamed B.named
  have hlocks := B.notSynchronized
  have hl := lv_entry ([.ref h0]) (n := 1) (Nat.le_of_ble_eq_true rfl)
  rw [show entryFrame m args 1 = F0 m 0 (lg_sl ([.ref h0]) ++ List.replicate (1 - (lg_sl ([.ref h0])).length) Slot.unset).toArray [] from by rw [hargs]; exact lg_entry_eq ..]
  generalize (lg_sl ([.ref h0]) ++ List.replicate (1 - (lg_sl ([.ref h0])).length) Slot.unset).toArray = ls at hl ⊢
  have hl : lv_has ls 1 [(0, .ref h0)] := hl
  refine W_genQ (fun Q hQ => ?_)
  refine lv_iconst (v := 1) hx hb dX3_unit_0 (by decide) ?_
  refine W_sQ hQ ?_
  exact W.iret (v := 1) hx hb hr (fun t ht hW => ⟨1, rfl, trivial, ht⟩) (fun _ h => absurd h List.not_mem_nil) dX3_unit_1

set_option maxHeartbeats 4000000 in
set_option maxRecDepth 100000 in
theorem p_added_X3_10 (l : Launch) (D : va_G) (cs : Nat → ClassId) (h0 : Nat) (nq : Nat) (av : Value) (rk : Int32) (fq : Nat → Int32) (p1 : Int32) (p2 : Int32) : Met l yX3_added (Cond.code yX3_added cX3_added 3 (some .int) :: gw_tbl) ({ frames := 0, cells := 0, slots := 0, locals := 0 }) (pc_S D cs [(h0, .inr (10, [.ref nq, av, .int rk])), (nq, .inl (cs 0, 4, .inl fq))] [.ref h0, .int p1, .int p2]) (vp_Si (fun r => True)) 0 0 (fun _ => False) := by
  refine Met.ofW (cc := cX3_added) (maxL := 3) (ret := (some .int)) (by decide) rfl ?_
  intro p e s m args below meth c s₁ B hml hv
  obtain ⟨hargs, hP, hK⟩ := hv
  have hx := B.exec
  have hb := B.bytes
  have hr := B.returns
  have hts := atoms_spec (ws := Cond.code yX3_added cX3_added 3 (some .int) :: gw_tbl) B.pre
  have hg := fun (w : Cond) (h : w ∈ gw_tbl) => hts w (List.mem_cons_of_mem _ h)
  have hown : s.vm.findClass RX3 = some m.cls := findClass_of_methodNamed B.named
  have hlocks := B.notSynchronized
  have hl := lv_entry ([.ref h0, .int p1, .int p2]) (n := 3) (Nat.le_of_ble_eq_true rfl)
  rw [show entryFrame m args 3 = F0 m 0 (lg_sl ([.ref h0, .int p1, .int p2]) ++ List.replicate (3 - (lg_sl ([.ref h0, .int p1, .int p2])).length) Slot.unset).toArray [] from by rw [hargs]; exact lg_entry_eq ..]
  generalize (lg_sl ([.ref h0, .int p1, .int p2]) ++ List.replicate (3 - (lg_sl ([.ref h0, .int p1, .int p2])).length) Slot.unset).toArray = ls at hl ⊢
  have hl : lv_has ls 3 [(0, .ref h0), (1, .int p1), (2, .int p2)] := hl
  refine W_genQ (fun Q hQ => ?_)
  refine lv_iconst (v := 0) hx hb dX3_added_0 (by decide) ?_
  refine W_sQ hQ ?_
  exact W.iret (v := 0) hx hb hr (fun t ht hW => ⟨0, rfl, trivial, ht⟩) (fun _ h => absurd h List.not_mem_nil) dX3_added_1

set_option maxHeartbeats 4000000 in
set_option maxRecDepth 100000 in
theorem p_unit_X3_6 (l : Launch) (D : va_G) (cs : Nat → ClassId) (h0 : Nat) (nq : Nat) (av : Value) (rk : Int32) : Met l yX3_unit (Cond.code yX3_unit cX3_unit 1 (some .int) :: gw_tbl) ({ frames := 0, cells := 0, slots := 0, locals := 0 }) (pc_S D cs [(h0, .inr (6, [.ref nq, av, .int rk]))] [.ref h0]) (vp_Si (fun r => True)) 0 0 (fun _ => False) := by
  refine Met.ofW (cc := cX3_unit) (maxL := 1) (ret := (some .int)) (by decide) rfl ?_
  intro p e s m args below meth c s₁ B hml hv
  obtain ⟨hargs, hP, hK⟩ := hv
  have hx := B.exec
  have hb := B.bytes
  have hr := B.returns
  have hts := atoms_spec (ws := Cond.code yX3_unit cX3_unit 1 (some .int) :: gw_tbl) B.pre
  have hg := fun (w : Cond) (h : w ∈ gw_tbl) => hts w (List.mem_cons_of_mem _ h)
  have hown : s.vm.findClass RX3 = some m.cls := findClass_of_methodNamed B.named
  have hlocks := B.notSynchronized
  have hl := lv_entry ([.ref h0]) (n := 1) (Nat.le_of_ble_eq_true rfl)
  rw [show entryFrame m args 1 = F0 m 0 (lg_sl ([.ref h0]) ++ List.replicate (1 - (lg_sl ([.ref h0])).length) Slot.unset).toArray [] from by rw [hargs]; exact lg_entry_eq ..]
  generalize (lg_sl ([.ref h0]) ++ List.replicate (1 - (lg_sl ([.ref h0])).length) Slot.unset).toArray = ls at hl ⊢
  have hl : lv_has ls 1 [(0, .ref h0)] := hl
  refine W_genQ (fun Q hQ => ?_)
  refine lv_iconst (v := 1) hx hb dX3_unit_0 (by decide) ?_
  refine W_sQ hQ ?_
  exact W.iret (v := 1) hx hb hr (fun t ht hW => ⟨1, rfl, trivial, ht⟩) (fun _ h => absurd h List.not_mem_nil) dX3_unit_1

set_option maxHeartbeats 4000000 in
set_option maxRecDepth 100000 in
theorem p_added_X3_6 (l : Launch) (D : va_G) (cs : Nat → ClassId) (h0 : Nat) (nq : Nat) (av : Value) (rk : Int32) (fq : Nat → Int32) (p1 : Int32) (p2 : Int32) : Met l yX3_added (Cond.code yX3_added cX3_added 3 (some .int) :: gw_tbl) ({ frames := 0, cells := 0, slots := 0, locals := 0 }) (pc_S D cs [(h0, .inr (6, [.ref nq, av, .int rk])), (nq, .inl (cs 0, 4, .inl fq))] [.ref h0, .int p1, .int p2]) (vp_Si (fun r => True)) 0 0 (fun _ => False) := by
  refine Met.ofW (cc := cX3_added) (maxL := 3) (ret := (some .int)) (by decide) rfl ?_
  intro p e s m args below meth c s₁ B hml hv
  obtain ⟨hargs, hP, hK⟩ := hv
  have hx := B.exec
  have hb := B.bytes
  have hr := B.returns
  have hts := atoms_spec (ws := Cond.code yX3_added cX3_added 3 (some .int) :: gw_tbl) B.pre
  have hg := fun (w : Cond) (h : w ∈ gw_tbl) => hts w (List.mem_cons_of_mem _ h)
  have hown : s.vm.findClass RX3 = some m.cls := findClass_of_methodNamed B.named
  have hlocks := B.notSynchronized
  have hl := lv_entry ([.ref h0, .int p1, .int p2]) (n := 3) (Nat.le_of_ble_eq_true rfl)
  rw [show entryFrame m args 3 = F0 m 0 (lg_sl ([.ref h0, .int p1, .int p2]) ++ List.replicate (3 - (lg_sl ([.ref h0, .int p1, .int p2])).length) Slot.unset).toArray [] from by rw [hargs]; exact lg_entry_eq ..]
  generalize (lg_sl ([.ref h0, .int p1, .int p2]) ++ List.replicate (3 - (lg_sl ([.ref h0, .int p1, .int p2])).length) Slot.unset).toArray = ls at hl ⊢
  have hl : lv_has ls 3 [(0, .ref h0), (1, .int p1), (2, .int p2)] := hl
  refine W_genQ (fun Q hQ => ?_)
  refine lv_iconst (v := 0) hx hb dX3_added_0 (by decide) ?_
  refine W_sQ hQ ?_
  exact W.iret (v := 0) hx hb hr (fun t ht hW => ⟨0, rfl, trivial, ht⟩) (fun _ h => absurd h List.not_mem_nil) dX3_added_1

theorem dX1_unit_0 : decode cX1_unit 0 = .ok (.sipush 10000, 3) := by decide +kernel
theorem dX1_unit_3 : decode cX1_unit 3 = .ok (.ireturn, 1) := by decide +kernel

set_option maxHeartbeats 4000000 in
set_option maxRecDepth 100000 in
theorem p_unit_X1_1 (l : Launch) (D : va_G) (cs : Nat → ClassId) (h0 : Nat) (nq : Nat) (av : Value) (rk : Int32) : Met l yX1_unit (Cond.code yX1_unit cX1_unit 1 (some .int) :: gw_tbl) ({ frames := 0, cells := 0, slots := 0, locals := 0 }) (pc_S D cs [(h0, .inr (1, [.ref nq, av, .int rk]))] [.ref h0]) (vp_Si (fun r => True)) 0 0 (fun _ => False) := by
  refine Met.ofW (cc := cX1_unit) (maxL := 1) (ret := (some .int)) (by decide) rfl ?_
  intro p e s m args below meth c s₁ B hml hv
  obtain ⟨hargs, hP, hK⟩ := hv
  have hx := B.exec
  have hb := B.bytes
  have hr := B.returns
  have hts := atoms_spec (ws := Cond.code yX1_unit cX1_unit 1 (some .int) :: gw_tbl) B.pre
  have hg := fun (w : Cond) (h : w ∈ gw_tbl) => hts w (List.mem_cons_of_mem _ h)
  have hown : s.vm.findClass RX1 = some m.cls := findClass_of_methodNamed B.named
  have hlocks := B.notSynchronized
  have hl := lv_entry ([.ref h0]) (n := 1) (Nat.le_of_ble_eq_true rfl)
  rw [show entryFrame m args 1 = F0 m 0 (lg_sl ([.ref h0]) ++ List.replicate (1 - (lg_sl ([.ref h0])).length) Slot.unset).toArray [] from by rw [hargs]; exact lg_entry_eq ..]
  generalize (lg_sl ([.ref h0]) ++ List.replicate (1 - (lg_sl ([.ref h0])).length) Slot.unset).toArray = ls at hl ⊢
  have hl : lv_has ls 1 [(0, .ref h0)] := hl
  refine W_genQ (fun Q hQ => ?_)
  refine lv_sipush (v := 10000) hx hb dX1_unit_0 (by decide) ?_
  refine W_sQ hQ ?_
  exact W.iret (v := 10000) hx hb hr (fun t ht hW => ⟨10000, rfl, trivial, ht⟩) (fun _ h => absurd h List.not_mem_nil) dX1_unit_3

theorem dX1_added_0 : decode cX1_added 0 = .ok (.iload_n 2, 1) := by decide +kernel
theorem dX1_added_1 : decode cX1_added 1 = .ok (.ifCond .eq 12, 3) := by decide +kernel
theorem dX1_added_4 : decode cX1_added 4 = .ok (.aload_n 0, 1) := by decide +kernel
theorem dX1_added_5 : decode cX1_added 5 = .ok (.getfield 9, 3) := by decide +kernel
theorem dX1_added_8 : decode cX1_added 8 = .ok (.iconst 3, 1) := by decide +kernel
theorem dX1_added_9 : decode cX1_added 9 = .ok (.iaload, 1) := by decide +kernel
theorem dX1_added_10 : decode cX1_added 10 = .ok (.goto 12, 3) := by decide +kernel
theorem dX1_added_13 : decode cX1_added 13 = .ok (.bipush 100, 2) := by decide +kernel
theorem dX1_added_15 : decode cX1_added 15 = .ok (.aload_n 0, 1) := by decide +kernel
theorem dX1_added_16 : decode cX1_added 16 = .ok (.getfield 9, 3) := by decide +kernel
theorem dX1_added_19 : decode cX1_added 19 = .ok (.iconst 3, 1) := by decide +kernel
theorem dX1_added_20 : decode cX1_added 20 = .ok (.iaload, 1) := by decide +kernel
theorem dX1_added_21 : decode cX1_added 21 = .ok (.isub, 1) := by decide +kernel
theorem dX1_added_22 : decode cX1_added 22 = .ok (.istore_n 3, 1) := by decide +kernel
theorem dX1_added_23 : decode cX1_added 23 = .ok (.aload_n 0, 1) := by decide +kernel
theorem dX1_added_24 : decode cX1_added 24 = .ok (.getfield 9, 3) := by decide +kernel
theorem dX1_added_27 : decode cX1_added 27 = .ok (.iconst 1, 1) := by decide +kernel
theorem dX1_added_28 : decode cX1_added 28 = .ok (.iaload, 1) := by decide +kernel
theorem dX1_added_29 : decode cX1_added 29 = .ok (.aload_n 0, 1) := by decide +kernel
theorem dX1_added_30 : decode cX1_added 30 = .ok (.getfield 9, 3) := by decide +kernel
theorem dX1_added_33 : decode cX1_added 33 = .ok (.iconst 2, 1) := by decide +kernel
theorem dX1_added_34 : decode cX1_added 34 = .ok (.iaload, 1) := by decide +kernel
theorem dX1_added_35 : decode cX1_added 35 = .ok (.imul, 1) := by decide +kernel
theorem dX1_added_36 : decode cX1_added 36 = .ok (.iload_n 1, 1) := by decide +kernel
theorem dX1_added_37 : decode cX1_added 37 = .ok (.iconst 1, 1) := by decide +kernel
theorem dX1_added_38 : decode cX1_added 38 = .ok (.if_icmp .ne 7, 3) := by decide +kernel
theorem dX1_added_41 : decode cX1_added 41 = .ok (.iload_n 3, 1) := by decide +kernel
theorem dX1_added_42 : decode cX1_added 42 = .ok (.goto 7, 3) := by decide +kernel
theorem dX1_added_45 : decode cX1_added 45 = .ok (.bipush 100, 2) := by decide +kernel
theorem dX1_added_47 : decode cX1_added 47 = .ok (.iload_n 3, 1) := by decide +kernel
theorem dX1_added_48 : decode cX1_added 48 = .ok (.isub, 1) := by decide +kernel
theorem dX1_added_49 : decode cX1_added 49 = .ok (.imul, 1) := by decide +kernel
theorem dX1_added_50 : decode cX1_added 50 = .ok (.ireturn, 1) := by decide +kernel
theorem kw_138 : (.fieldLink RX1 9 "NobodyChecks$Check" "numbers" "[I" : Cond) ∈ gw_tbl := gw_in (by decide +kernel) (by decide +kernel)
theorem kw_139 : (.sameField "NobodyChecks$Check" "NobodyChecks$Pay" "numbers" "[I" : Cond) ∈ gw_tbl := gw_in (by decide +kernel) (by decide +kernel)

set_option maxHeartbeats 4000000 in
set_option maxRecDepth 100000 in
theorem p_added_X1_1 (l : Launch) (D : va_G) (cs : Nat → ClassId) (h0 : Nat) (nq : Nat) (av : Value) (rk : Int32) (fq : Nat → Int32) (p1 : Int32) (p2 : Int32) : Met l yX1_added (Cond.code yX1_added cX1_added 4 (some .int) :: gw_tbl) ({ frames := 0, cells := 0, slots := 0, locals := 0 }) (pc_S D cs [(h0, .inr (1, [.ref nq, av, .int rk])), (nq, .inl (cs 0, 4, .inl fq))] [.ref h0, .int p1, .int p2]) (vp_Si (fun r => True)) 0 0 (fun _ => False) := by
  refine Met.ofW (cc := cX1_added) (maxL := 4) (ret := (some .int)) (by decide) rfl ?_
  intro p e s m args below meth c s₁ B hml hv
  obtain ⟨hargs, hP, hK⟩ := hv
  have hx := B.exec
  have hb := B.bytes
  have hr := B.returns
  have hts := atoms_spec (ws := Cond.code yX1_added cX1_added 4 (some .int) :: gw_tbl) B.pre
  have hg := fun (w : Cond) (h : w ∈ gw_tbl) => hts w (List.mem_cons_of_mem _ h)
  have hown : s.vm.findClass RX1 = some m.cls := findClass_of_methodNamed B.named
  have hlocks := B.notSynchronized
  have hl := lv_entry ([.ref h0, .int p1, .int p2]) (n := 4) (Nat.le_of_ble_eq_true rfl)
  rw [show entryFrame m args 4 = F0 m 0 (lg_sl ([.ref h0, .int p1, .int p2]) ++ List.replicate (4 - (lg_sl ([.ref h0, .int p1, .int p2])).length) Slot.unset).toArray [] from by rw [hargs]; exact lg_entry_eq ..]
  generalize (lg_sl ([.ref h0, .int p1, .int p2]) ++ List.replicate (4 - (lg_sl ([.ref h0, .int p1, .int p2])).length) Slot.unset).toArray = ls at hl ⊢
  have hl : lv_has ls 4 [(0, .ref h0), (1, .int p1), (2, .int p2)] := hl
  refine W_genQ (fun Q hQ => ?_)
  refine lv_iload_n hx hb dX1_added_0 rfl (lv_at hl 2 rfl) ?_
  refine lv_if_eq (tgt := 13) hx hb dX1_added_1 (by decide) (fun c_1 => ?_) (fun c_1 => ?_)
  · subst c_1
    refine lv_bipush (v := 100) hx hb dX1_added_13 (by decide) ?_
    refine lv_aload_n hx hb dX1_added_15 rfl (lv_at hl 0 rfl) ?_
    refine va_get (D := D) (ci := 1) (v := .ref nq) (C := RX1) (T := TX1) (N := 3) hx hb hg gwX1 hown hK hP 0 rfl rfl 0 (by decide) (hg _ kw_138) (fun x h9 => u_same (hg _ kw_139) x h9) rfl dX1_added_16 ?_
    refine lv_iconst (v := 3) hx hb dX1_added_19 (by decide) ?_
    refine va_iald hx hb hK hP 1 0 rfl rfl (show ¬ ((3 : Int32) < 0 ∨ 4 ≤ (3 : Int32).toNatClampNeg) by decide) dX1_added_20 ?_
    refine lv_topi (fun z_20 e_20 => ?_)
    refine lv_isub hx hb dX1_added_21 ?_
    refine lv_topi (fun z_21 e_21 => ?_)
    refine lv_istore_n (lv' := [(3, .int z_21), (0, .ref h0), (1, .int p1), (2, .int 0)]) hx hb dX1_added_22 rfl hl (by decide) rfl (fun ls hl => ?_)
    refine lv_aload_n hx hb dX1_added_23 rfl (lv_at hl 1 rfl) ?_
    refine va_get (D := D) (ci := 1) (v := .ref nq) (C := RX1) (T := TX1) (N := 3) hx hb hg gwX1 hown hK hP 0 rfl rfl 0 (by decide) (hg _ kw_138) (fun x h9 => u_same (hg _ kw_139) x h9) rfl dX1_added_24 ?_
    refine lv_iconst (v := 1) hx hb dX1_added_27 (by decide) ?_
    refine va_iald hx hb hK hP 1 0 rfl rfl (show ¬ ((1 : Int32) < 0 ∨ 4 ≤ (1 : Int32).toNatClampNeg) by decide) dX1_added_28 ?_
    refine lv_topi (fun z_28 e_28 => ?_)
    refine lv_aload_n hx hb dX1_added_29 rfl (lv_at hl 1 rfl) ?_
    refine va_get (D := D) (ci := 1) (v := .ref nq) (C := RX1) (T := TX1) (N := 3) hx hb hg gwX1 hown hK hP 0 rfl rfl 0 (by decide) (hg _ kw_138) (fun x h9 => u_same (hg _ kw_139) x h9) rfl dX1_added_30 ?_
    refine lv_iconst (v := 2) hx hb dX1_added_33 (by decide) ?_
    refine va_iald hx hb hK hP 1 0 rfl rfl (show ¬ ((2 : Int32) < 0 ∨ 4 ≤ (2 : Int32).toNatClampNeg) by decide) dX1_added_34 ?_
    refine lv_topi (fun z_34 e_34 => ?_)
    refine lv_imul hx hb dX1_added_35 ?_
    refine lv_topi (fun z_35 e_35 => ?_)
    refine lv_iload_n hx hb dX1_added_36 rfl (lv_at hl 2 rfl) ?_
    refine lv_iconst (v := 1) hx hb dX1_added_37 (by decide) ?_
    refine lv_icmp_ne (tgt := 45) hx hb dX1_added_38 (by decide) (fun c_38 => ?_) (fun c_38 => ?_)
    · refine lv_bipush (v := 100) hx hb dX1_added_45 (by decide) ?_
      refine lv_iload_n hx hb dX1_added_47 rfl (lv_at hl 0 rfl) ?_
      refine lv_isub hx hb dX1_added_48 ?_
      refine lv_topi (fun z_48 e_48 => ?_)
      refine lv_imul hx hb dX1_added_49 ?_
      refine lv_topi (fun z_49 e_49 => ?_)
      refine W_sQ hQ ?_
      exact W.iret (v := z_49) hx hb hr (fun t ht hW => ⟨z_49, rfl, trivial, ht⟩) (fun _ h => absurd h List.not_mem_nil) dX1_added_50
    · subst c_38
      refine lv_iload_n hx hb dX1_added_41 rfl (lv_at hl 0 rfl) ?_
      refine lv_goto (tgt := 49) hx hb dX1_added_42 (by decide) ?_
      refine lv_imul hx hb dX1_added_49 ?_
      refine lv_topi (fun z_49 e_49 => ?_)
      refine W_sQ hQ ?_
      exact W.iret (v := z_49) hx hb hr (fun t ht hW => ⟨z_49, rfl, trivial, ht⟩) (fun _ h => absurd h List.not_mem_nil) dX1_added_50
  · refine lv_aload_n hx hb dX1_added_4 rfl (lv_at hl 0 rfl) ?_
    refine va_get (D := D) (ci := 1) (v := .ref nq) (C := RX1) (T := TX1) (N := 3) hx hb hg gwX1 hown hK hP 0 rfl rfl 0 (by decide) (hg _ kw_138) (fun x h9 => u_same (hg _ kw_139) x h9) rfl dX1_added_5 ?_
    refine lv_iconst (v := 3) hx hb dX1_added_8 (by decide) ?_
    refine va_iald hx hb hK hP 1 0 rfl rfl (show ¬ ((3 : Int32) < 0 ∨ 4 ≤ (3 : Int32).toNatClampNeg) by decide) dX1_added_9 ?_
    refine lv_topi (fun z_9 e_9 => ?_)
    refine lv_goto (tgt := 22) hx hb dX1_added_10 (by decide) ?_
    refine lv_istore_n (lv' := [(3, .int z_9), (0, .ref h0), (1, .int p1), (2, .int p2)]) hx hb dX1_added_22 rfl hl (by decide) rfl (fun ls hl => ?_)
    refine lv_aload_n hx hb dX1_added_23 rfl (lv_at hl 1 rfl) ?_
    refine va_get (D := D) (ci := 1) (v := .ref nq) (C := RX1) (T := TX1) (N := 3) hx hb hg gwX1 hown hK hP 0 rfl rfl 0 (by decide) (hg _ kw_138) (fun x h9 => u_same (hg _ kw_139) x h9) rfl dX1_added_24 ?_
    refine lv_iconst (v := 1) hx hb dX1_added_27 (by decide) ?_
    refine va_iald hx hb hK hP 1 0 rfl rfl (show ¬ ((1 : Int32) < 0 ∨ 4 ≤ (1 : Int32).toNatClampNeg) by decide) dX1_added_28 ?_
    refine lv_topi (fun z_28 e_28 => ?_)
    refine lv_aload_n hx hb dX1_added_29 rfl (lv_at hl 1 rfl) ?_
    refine va_get (D := D) (ci := 1) (v := .ref nq) (C := RX1) (T := TX1) (N := 3) hx hb hg gwX1 hown hK hP 0 rfl rfl 0 (by decide) (hg _ kw_138) (fun x h9 => u_same (hg _ kw_139) x h9) rfl dX1_added_30 ?_
    refine lv_iconst (v := 2) hx hb dX1_added_33 (by decide) ?_
    refine va_iald hx hb hK hP 1 0 rfl rfl (show ¬ ((2 : Int32) < 0 ∨ 4 ≤ (2 : Int32).toNatClampNeg) by decide) dX1_added_34 ?_
    refine lv_topi (fun z_34 e_34 => ?_)
    refine lv_imul hx hb dX1_added_35 ?_
    refine lv_topi (fun z_35 e_35 => ?_)
    refine lv_iload_n hx hb dX1_added_36 rfl (lv_at hl 2 rfl) ?_
    refine lv_iconst (v := 1) hx hb dX1_added_37 (by decide) ?_
    refine lv_icmp_ne (tgt := 45) hx hb dX1_added_38 (by decide) (fun c_38 => ?_) (fun c_38 => ?_)
    · refine lv_bipush (v := 100) hx hb dX1_added_45 (by decide) ?_
      refine lv_iload_n hx hb dX1_added_47 rfl (lv_at hl 0 rfl) ?_
      refine lv_isub hx hb dX1_added_48 ?_
      refine lv_topi (fun z_48 e_48 => ?_)
      refine lv_imul hx hb dX1_added_49 ?_
      refine lv_topi (fun z_49 e_49 => ?_)
      refine W_sQ hQ ?_
      exact W.iret (v := z_49) hx hb hr (fun t ht hW => ⟨z_49, rfl, trivial, ht⟩) (fun _ h => absurd h List.not_mem_nil) dX1_added_50
    · subst c_38
      refine lv_iload_n hx hb dX1_added_41 rfl (lv_at hl 0 rfl) ?_
      refine lv_goto (tgt := 49) hx hb dX1_added_42 (by decide) ?_
      refine lv_imul hx hb dX1_added_49 ?_
      refine lv_topi (fun z_49 e_49 => ?_)
      refine W_sQ hQ ?_
      exact W.iret (v := z_49) hx hb hr (fun t ht hW => ⟨z_49, rfl, trivial, ht⟩) (fun _ h => absurd h List.not_mem_nil) dX1_added_50

theorem dX3_become_0 : decode cX3_become 0 = .ok (.aload_n 0, 1) := by decide +kernel
theorem dX3_become_1 : decode cX3_become 1 = .ok (.getfield 9, 3) := by decide +kernel
theorem dX3_become_4 : decode cX3_become 4 = .ok (.iconst 0, 1) := by decide +kernel
theorem dX3_become_5 : decode cX3_become 5 = .ok (.iload_n 1, 1) := by decide +kernel
theorem dX3_become_6 : decode cX3_become 6 = .ok (.iastore, 1) := by decide +kernel
theorem dX3_become_7 : decode cX3_become 7 = .ok (.aload_n 0, 1) := by decide +kernel
theorem dX3_become_8 : decode cX3_become 8 = .ok (.getfield 9, 3) := by decide +kernel
theorem dX3_become_11 : decode cX3_become 11 = .ok (.iconst 1, 1) := by decide +kernel
theorem dX3_become_12 : decode cX3_become 12 = .ok (.iload_n 2, 1) := by decide +kernel
theorem dX3_become_13 : decode cX3_become 13 = .ok (.iastore, 1) := by decide +kernel
theorem dX3_become_14 : decode cX3_become 14 = .ok (.aload_n 0, 1) := by decide +kernel
theorem dX3_become_15 : decode cX3_become 15 = .ok (.getfield 9, 3) := by decide +kernel
theorem dX3_become_18 : decode cX3_become 18 = .ok (.iconst 2, 1) := by decide +kernel
theorem dX3_become_19 : decode cX3_become 19 = .ok (.iload_n 3, 1) := by decide +kernel
theorem dX3_become_20 : decode cX3_become 20 = .ok (.iastore, 1) := by decide +kernel
theorem dX3_become_21 : decode cX3_become 21 = .ok (.aload_n 0, 1) := by decide +kernel
theorem dX3_become_22 : decode cX3_become 22 = .ok (.getfield 9, 3) := by decide +kernel
theorem dX3_become_25 : decode cX3_become 25 = .ok (.iconst 3, 1) := by decide +kernel
theorem dX3_become_26 : decode cX3_become 26 = .ok (.iload 4, 2) := by decide +kernel
theorem dX3_become_28 : decode cX3_become 28 = .ok (.iastore, 1) := by decide +kernel
theorem dX3_become_29 : decode cX3_become 29 = .ok (.return_, 1) := by decide +kernel

set_option maxHeartbeats 4000000 in
set_option maxRecDepth 100000 in
theorem p_become_3 (l : Launch) (D : va_G) (cs : Nat → ClassId) (h0 : Nat) (nq : Nat) (av : Value) (rk : Int32) (fq : Nat → Int32) (p1 : Int32) (p2 : Int32) (p3 : Int32) (p4 : Int32) (sz : Nat) : Met l yX3_become (Cond.code yX3_become cX3_become 5 none :: gw_tbl) ({ frames := 0, cells := 0, slots := 0, locals := 0 }) (pc_M D cs [(h0, .inr (3, [.ref nq, av, .int rk])), (nq, .inl (cs 0, 4, .inl fq))] sz [.ref h0, .int p1, .int p2, .int p3, .int p4]) (va_Qv (fun (u : Unit) => True) (fun u t => ∃ (fq2 : Nat → Int32), (fq2 0 = p1 ∧ fq2 1 = p2 ∧ fq2 2 = p3 ∧ fq2 3 = p4) ∧ va_P D vwCl [(h0, .inr (3, [.ref nq, av, .int rk])), (nq, .inl (cs 0, 4, .inl fq2))] t.heap ∧ va_D (va_A [(h0, .inr (3, [.ref nq, av, .int rk])), (nq, .inl (cs 0, 4, .inl fq))] sz) [(h0, .inr (3, [.ref nq, av, .int rk])), (nq, .inl (cs 0, 4, .inl fq2))]) (va_A [(h0, .inr (3, [.ref nq, av, .int rk])), (nq, .inl (cs 0, 4, .inl fq))] sz)) 0 0 (va_A [(h0, .inr (3, [.ref nq, av, .int rk])), (nq, .inl (cs 0, 4, .inl fq))] sz) := by
  refine Met.ofW (cc := cX3_become) (maxL := 5) (ret := none) (by decide) rfl ?_
  intro p e s m args below meth c s₁ B hml hv
  obtain ⟨hargs, hsz, hP, hK, hD0⟩ := hv
  have hx := B.exec
  have hb := B.bytes
  have hr := B.returns
  have hts := atoms_spec (ws := Cond.code yX3_become cX3_become 5 none :: gw_tbl) B.pre
  have hg := fun (w : Cond) (h : w ∈ gw_tbl) => hts w (List.mem_cons_of_mem _ h)
  have hown : s.vm.findClass RX3 = some m.cls := findClass_of_methodNamed B.named
  have hlocks := B.notSynchronized
  subst hsz
  have hD := hD0.self (sz := s.heap.size)
  generalize hAe : va_A [(h0, .inr (3, [.ref nq, av, .int rk])), (nq, .inl (cs 0, 4, .inl fq))] s.heap.size = A at hD ⊢
  have hA : ∀ q : Nat, s.heap.size ≤ q → A q := fun q h => by rw [← hAe]; exact Or.inr h
  have hS : va_S A s.heap s.heap [] := va_S.rf
  have hP : va_P D vwCl [(h0, .inr (3, [.ref nq, av, .int rk])), (nq, .inl (cs 0, 4, .inl fq))] s.heap := hP
  have hl := lv_entry ([.ref h0, .int p1, .int p2, .int p3, .int p4]) (n := 5) (Nat.le_of_ble_eq_true rfl)
  rw [show entryFrame m args 5 = F0 m 0 (lg_sl ([.ref h0, .int p1, .int p2, .int p3, .int p4]) ++ List.replicate (5 - (lg_sl ([.ref h0, .int p1, .int p2, .int p3, .int p4])).length) Slot.unset).toArray [] from by rw [hargs]; exact lg_entry_eq ..]
  generalize (lg_sl ([.ref h0, .int p1, .int p2, .int p3, .int p4]) ++ List.replicate (5 - (lg_sl ([.ref h0, .int p1, .int p2, .int p3, .int p4])).length) Slot.unset).toArray = ls at hl ⊢
  have hl : lv_has ls 5 [(0, .ref h0), (1, .int p1), (2, .int p2), (3, .int p3), (4, .int p4)] := hl
  refine W_genQ (fun Q hQ => ?_)
  refine lv_aload_n hx hb dX3_become_0 rfl (lv_at hl 0 rfl) ?_
  refine va_get (D := D) (ci := 3) (v := .ref nq) (C := RX3) (T := TX3) (N := 3) hx hb hg gwX3 hown hK hP 0 rfl rfl 0 (by decide) (hg _ kw_122) (fun _ h9 => h9) rfl dX3_become_1 ?_
  refine lv_iconst (v := 0) hx hb dX3_become_4 (by decide) ?_
  refine lv_iload_n hx hb dX3_become_5 rfl (lv_at hl 1 rfl) ?_
  refine va_iast hx hb hK hP hD hS 1 0 rfl rfl (show ¬ ((0 : Int32) < 0 ∨ 4 ≤ (0 : Int32).toNatClampNeg) by decide) dX3_become_6 (fun H locs hP hD hS => ?_)
  obtain ⟨f_6, hf_6⟩ : ∃ f9, f9 = (upd fq (0 : Int32).toNatClampNeg p1) := ⟨_, rfl⟩
  rw [← hf_6] at hP hD
  have hP : va_P D vwCl [(h0, .inr (3, [.ref nq, av, .int rk])), (nq, .inl (cs 0, 4, .inl f_6))] H := hP
  have hD : va_D A [(h0, .inr (3, [.ref nq, av, .int rk])), (nq, .inl (cs 0, 4, .inl f_6))] := hD
  refine lv_aload_n hx hb dX3_become_7 rfl (lv_at hl 0 rfl) ?_
  refine va_get (D := D) (ci := 3) (v := .ref nq) (C := RX3) (T := TX3) (N := 3) hx hb hg gwX3 hown hK hP 0 rfl rfl 0 (by decide) (hg _ kw_122) (fun _ h9 => h9) rfl dX3_become_8 ?_
  refine lv_iconst (v := 1) hx hb dX3_become_11 (by decide) ?_
  refine lv_iload_n hx hb dX3_become_12 rfl (lv_at hl 2 rfl) ?_
  refine va_iast hx hb hK hP hD hS 1 0 rfl rfl (show ¬ ((1 : Int32) < 0 ∨ 4 ≤ (1 : Int32).toNatClampNeg) by decide) dX3_become_13 (fun H locs hP hD hS => ?_)
  obtain ⟨f_13, hf_13⟩ : ∃ f9, f9 = (upd f_6 (1 : Int32).toNatClampNeg p2) := ⟨_, rfl⟩
  rw [← hf_13] at hP hD
  have hP : va_P D vwCl [(h0, .inr (3, [.ref nq, av, .int rk])), (nq, .inl (cs 0, 4, .inl f_13))] H := hP
  have hD : va_D A [(h0, .inr (3, [.ref nq, av, .int rk])), (nq, .inl (cs 0, 4, .inl f_13))] := hD
  refine lv_aload_n hx hb dX3_become_14 rfl (lv_at hl 0 rfl) ?_
  refine va_get (D := D) (ci := 3) (v := .ref nq) (C := RX3) (T := TX3) (N := 3) hx hb hg gwX3 hown hK hP 0 rfl rfl 0 (by decide) (hg _ kw_122) (fun _ h9 => h9) rfl dX3_become_15 ?_
  refine lv_iconst (v := 2) hx hb dX3_become_18 (by decide) ?_
  refine lv_iload_n hx hb dX3_become_19 rfl (lv_at hl 3 rfl) ?_
  refine va_iast hx hb hK hP hD hS 1 0 rfl rfl (show ¬ ((2 : Int32) < 0 ∨ 4 ≤ (2 : Int32).toNatClampNeg) by decide) dX3_become_20 (fun H locs hP hD hS => ?_)
  obtain ⟨f_20, hf_20⟩ : ∃ f9, f9 = (upd f_13 (2 : Int32).toNatClampNeg p3) := ⟨_, rfl⟩
  rw [← hf_20] at hP hD
  have hP : va_P D vwCl [(h0, .inr (3, [.ref nq, av, .int rk])), (nq, .inl (cs 0, 4, .inl f_20))] H := hP
  have hD : va_D A [(h0, .inr (3, [.ref nq, av, .int rk])), (nq, .inl (cs 0, 4, .inl f_20))] := hD
  refine lv_aload_n hx hb dX3_become_21 rfl (lv_at hl 0 rfl) ?_
  refine va_get (D := D) (ci := 3) (v := .ref nq) (C := RX3) (T := TX3) (N := 3) hx hb hg gwX3 hown hK hP 0 rfl rfl 0 (by decide) (hg _ kw_122) (fun _ h9 => h9) rfl dX3_become_22 ?_
  refine lv_iconst (v := 3) hx hb dX3_become_25 (by decide) ?_
  refine lv_iload hx hb dX3_become_26 (lv_at hl 4 rfl) ?_
  refine va_iast hx hb hK hP hD hS 1 0 rfl rfl (show ¬ ((3 : Int32) < 0 ∨ 4 ≤ (3 : Int32).toNatClampNeg) by decide) dX3_become_28 (fun H locs hP hD hS => ?_)
  obtain ⟨f_28, hf_28⟩ : ∃ f9, f9 = (upd f_20 (3 : Int32).toNatClampNeg p4) := ⟨_, rfl⟩
  rw [← hf_28] at hP hD
  have hP : va_P D vwCl [(h0, .inr (3, [.ref nq, av, .int rk])), (nq, .inl (cs 0, 4, .inl f_28))] H := hP
  have hD : va_D A [(h0, .inr (3, [.ref nq, av, .int rk])), (nq, .inl (cs 0, 4, .inl f_28))] := hD
  refine W_sQ hQ ?_
  refine W.widen (k := 0) (n := 0) (Nat.le_of_ble_eq_true rfl) (Nat.le_of_ble_eq_true rfl) ?_
  have hP9 := hP.sub (ws' := [(h0, .inr (3, [.ref nq, av, .int rk])), (nq, .inl (cs 0, 4, .inl f_28))]) [0, 1] rfl
  have hD9 := hD.sub (ws' := [(h0, .inr (3, [.ref nq, av, .int rk])), (nq, .inl (cs 0, 4, .inl f_28))]) [0, 1] (by decide) rfl
  exact W.vret hx hb hr (fun t ht hW => ⟨⟨(), rfl, trivial, ⟨f_28, (by subst hf_6 hf_13 hf_20 hf_28; exact ⟨rfl, rfl, rfl, rfl⟩), by rw [ht]; exact hP9, hD9⟩⟩, hS.F ht⟩) hS.2.2 dX3_become_29

set_option maxHeartbeats 4000000 in
set_option maxRecDepth 100000 in
theorem p_become_9 (l : Launch) (D : va_G) (cs : Nat → ClassId) (h0 : Nat) (nq : Nat) (av : Value) (rk : Int32) (fq : Nat → Int32) (p1 : Int32) (p2 : Int32) (p3 : Int32) (p4 : Int32) (sz : Nat) : Met l yX3_become (Cond.code yX3_become cX3_become 5 none :: gw_tbl) ({ frames := 0, cells := 0, slots := 0, locals := 0 }) (pc_M D cs [(h0, .inr (9, [.ref nq, av, .int rk])), (nq, .inl (cs 0, 4, .inl fq))] sz [.ref h0, .int p1, .int p2, .int p3, .int p4]) (va_Qv (fun (u : Unit) => True) (fun u t => ∃ (fq2 : Nat → Int32), (fq2 0 = p1 ∧ fq2 1 = p2 ∧ fq2 2 = p3 ∧ fq2 3 = p4) ∧ va_P D vwCl [(h0, .inr (9, [.ref nq, av, .int rk])), (nq, .inl (cs 0, 4, .inl fq2))] t.heap ∧ va_D (va_A [(h0, .inr (9, [.ref nq, av, .int rk])), (nq, .inl (cs 0, 4, .inl fq))] sz) [(h0, .inr (9, [.ref nq, av, .int rk])), (nq, .inl (cs 0, 4, .inl fq2))]) (va_A [(h0, .inr (9, [.ref nq, av, .int rk])), (nq, .inl (cs 0, 4, .inl fq))] sz)) 0 0 (va_A [(h0, .inr (9, [.ref nq, av, .int rk])), (nq, .inl (cs 0, 4, .inl fq))] sz) := by
  refine Met.ofW (cc := cX3_become) (maxL := 5) (ret := none) (by decide) rfl ?_
  intro p e s m args below meth c s₁ B hml hv
  obtain ⟨hargs, hsz, hP, hK, hD0⟩ := hv
  have hx := B.exec
  have hb := B.bytes
  have hr := B.returns
  have hts := atoms_spec (ws := Cond.code yX3_become cX3_become 5 none :: gw_tbl) B.pre
  have hg := fun (w : Cond) (h : w ∈ gw_tbl) => hts w (List.mem_cons_of_mem _ h)
  have hown : s.vm.findClass RX3 = some m.cls := findClass_of_methodNamed B.named
  have hlocks := B.notSynchronized
  subst hsz
  have hD := hD0.self (sz := s.heap.size)
  generalize hAe : va_A [(h0, .inr (9, [.ref nq, av, .int rk])), (nq, .inl (cs 0, 4, .inl fq))] s.heap.size = A at hD ⊢
  have hA : ∀ q : Nat, s.heap.size ≤ q → A q := fun q h => by rw [← hAe]; exact Or.inr h
  have hS : va_S A s.heap s.heap [] := va_S.rf
  have hP : va_P D vwCl [(h0, .inr (9, [.ref nq, av, .int rk])), (nq, .inl (cs 0, 4, .inl fq))] s.heap := hP
  have hl := lv_entry ([.ref h0, .int p1, .int p2, .int p3, .int p4]) (n := 5) (Nat.le_of_ble_eq_true rfl)
  rw [show entryFrame m args 5 = F0 m 0 (lg_sl ([.ref h0, .int p1, .int p2, .int p3, .int p4]) ++ List.replicate (5 - (lg_sl ([.ref h0, .int p1, .int p2, .int p3, .int p4])).length) Slot.unset).toArray [] from by rw [hargs]; exact lg_entry_eq ..]
  generalize (lg_sl ([.ref h0, .int p1, .int p2, .int p3, .int p4]) ++ List.replicate (5 - (lg_sl ([.ref h0, .int p1, .int p2, .int p3, .int p4])).length) Slot.unset).toArray = ls at hl ⊢
  have hl : lv_has ls 5 [(0, .ref h0), (1, .int p1), (2, .int p2), (3, .int p3), (4, .int p4)] := hl
  refine W_genQ (fun Q hQ => ?_)
  refine lv_aload_n hx hb dX3_become_0 rfl (lv_at hl 0 rfl) ?_
  refine va_get (D := D) (ci := 9) (v := .ref nq) (C := RX9) (T := TX9) (N := 3) hx hb hg gwX9 hown hK hP 0 rfl rfl 0 (by decide) (hg _ kw_122) (fun _ h9 => h9) rfl dX3_become_1 ?_
  refine lv_iconst (v := 0) hx hb dX3_become_4 (by decide) ?_
  refine lv_iload_n hx hb dX3_become_5 rfl (lv_at hl 1 rfl) ?_
  refine va_iast hx hb hK hP hD hS 1 0 rfl rfl (show ¬ ((0 : Int32) < 0 ∨ 4 ≤ (0 : Int32).toNatClampNeg) by decide) dX3_become_6 (fun H locs hP hD hS => ?_)
  obtain ⟨f_6, hf_6⟩ : ∃ f9, f9 = (upd fq (0 : Int32).toNatClampNeg p1) := ⟨_, rfl⟩
  rw [← hf_6] at hP hD
  have hP : va_P D vwCl [(h0, .inr (9, [.ref nq, av, .int rk])), (nq, .inl (cs 0, 4, .inl f_6))] H := hP
  have hD : va_D A [(h0, .inr (9, [.ref nq, av, .int rk])), (nq, .inl (cs 0, 4, .inl f_6))] := hD
  refine lv_aload_n hx hb dX3_become_7 rfl (lv_at hl 0 rfl) ?_
  refine va_get (D := D) (ci := 9) (v := .ref nq) (C := RX9) (T := TX9) (N := 3) hx hb hg gwX9 hown hK hP 0 rfl rfl 0 (by decide) (hg _ kw_122) (fun _ h9 => h9) rfl dX3_become_8 ?_
  refine lv_iconst (v := 1) hx hb dX3_become_11 (by decide) ?_
  refine lv_iload_n hx hb dX3_become_12 rfl (lv_at hl 2 rfl) ?_
  refine va_iast hx hb hK hP hD hS 1 0 rfl rfl (show ¬ ((1 : Int32) < 0 ∨ 4 ≤ (1 : Int32).toNatClampNeg) by decide) dX3_become_13 (fun H locs hP hD hS => ?_)
  obtain ⟨f_13, hf_13⟩ : ∃ f9, f9 = (upd f_6 (1 : Int32).toNatClampNeg p2) := ⟨_, rfl⟩
  rw [← hf_13] at hP hD
  have hP : va_P D vwCl [(h0, .inr (9, [.ref nq, av, .int rk])), (nq, .inl (cs 0, 4, .inl f_13))] H := hP
  have hD : va_D A [(h0, .inr (9, [.ref nq, av, .int rk])), (nq, .inl (cs 0, 4, .inl f_13))] := hD
  refine lv_aload_n hx hb dX3_become_14 rfl (lv_at hl 0 rfl) ?_
  refine va_get (D := D) (ci := 9) (v := .ref nq) (C := RX9) (T := TX9) (N := 3) hx hb hg gwX9 hown hK hP 0 rfl rfl 0 (by decide) (hg _ kw_122) (fun _ h9 => h9) rfl dX3_become_15 ?_
  refine lv_iconst (v := 2) hx hb dX3_become_18 (by decide) ?_
  refine lv_iload_n hx hb dX3_become_19 rfl (lv_at hl 3 rfl) ?_
  refine va_iast hx hb hK hP hD hS 1 0 rfl rfl (show ¬ ((2 : Int32) < 0 ∨ 4 ≤ (2 : Int32).toNatClampNeg) by decide) dX3_become_20 (fun H locs hP hD hS => ?_)
  obtain ⟨f_20, hf_20⟩ : ∃ f9, f9 = (upd f_13 (2 : Int32).toNatClampNeg p3) := ⟨_, rfl⟩
  rw [← hf_20] at hP hD
  have hP : va_P D vwCl [(h0, .inr (9, [.ref nq, av, .int rk])), (nq, .inl (cs 0, 4, .inl f_20))] H := hP
  have hD : va_D A [(h0, .inr (9, [.ref nq, av, .int rk])), (nq, .inl (cs 0, 4, .inl f_20))] := hD
  refine lv_aload_n hx hb dX3_become_21 rfl (lv_at hl 0 rfl) ?_
  refine va_get (D := D) (ci := 9) (v := .ref nq) (C := RX9) (T := TX9) (N := 3) hx hb hg gwX9 hown hK hP 0 rfl rfl 0 (by decide) (hg _ kw_122) (fun _ h9 => h9) rfl dX3_become_22 ?_
  refine lv_iconst (v := 3) hx hb dX3_become_25 (by decide) ?_
  refine lv_iload hx hb dX3_become_26 (lv_at hl 4 rfl) ?_
  refine va_iast hx hb hK hP hD hS 1 0 rfl rfl (show ¬ ((3 : Int32) < 0 ∨ 4 ≤ (3 : Int32).toNatClampNeg) by decide) dX3_become_28 (fun H locs hP hD hS => ?_)
  obtain ⟨f_28, hf_28⟩ : ∃ f9, f9 = (upd f_20 (3 : Int32).toNatClampNeg p4) := ⟨_, rfl⟩
  rw [← hf_28] at hP hD
  have hP : va_P D vwCl [(h0, .inr (9, [.ref nq, av, .int rk])), (nq, .inl (cs 0, 4, .inl f_28))] H := hP
  have hD : va_D A [(h0, .inr (9, [.ref nq, av, .int rk])), (nq, .inl (cs 0, 4, .inl f_28))] := hD
  refine W_sQ hQ ?_
  refine W.widen (k := 0) (n := 0) (Nat.le_of_ble_eq_true rfl) (Nat.le_of_ble_eq_true rfl) ?_
  have hP9 := hP.sub (ws' := [(h0, .inr (9, [.ref nq, av, .int rk])), (nq, .inl (cs 0, 4, .inl f_28))]) [0, 1] rfl
  have hD9 := hD.sub (ws' := [(h0, .inr (9, [.ref nq, av, .int rk])), (nq, .inl (cs 0, 4, .inl f_28))]) [0, 1] (by decide) rfl
  exact W.vret hx hb hr (fun t ht hW => ⟨⟨(), rfl, trivial, ⟨f_28, (by subst hf_6 hf_13 hf_20 hf_28; exact ⟨rfl, rfl, rfl, rfl⟩), by rw [ht]; exact hP9, hD9⟩⟩, hS.F ht⟩) hS.2.2 dX3_become_29

set_option maxHeartbeats 4000000 in
set_option maxRecDepth 100000 in
theorem p_become_10 (l : Launch) (D : va_G) (cs : Nat → ClassId) (h0 : Nat) (nq : Nat) (av : Value) (rk : Int32) (fq : Nat → Int32) (p1 : Int32) (p2 : Int32) (p3 : Int32) (p4 : Int32) (sz : Nat) : Met l yX3_become (Cond.code yX3_become cX3_become 5 none :: gw_tbl) ({ frames := 0, cells := 0, slots := 0, locals := 0 }) (pc_M D cs [(h0, .inr (10, [.ref nq, av, .int rk])), (nq, .inl (cs 0, 4, .inl fq))] sz [.ref h0, .int p1, .int p2, .int p3, .int p4]) (va_Qv (fun (u : Unit) => True) (fun u t => ∃ (fq2 : Nat → Int32), (fq2 0 = p1 ∧ fq2 1 = p2 ∧ fq2 2 = p3 ∧ fq2 3 = p4) ∧ va_P D vwCl [(h0, .inr (10, [.ref nq, av, .int rk])), (nq, .inl (cs 0, 4, .inl fq2))] t.heap ∧ va_D (va_A [(h0, .inr (10, [.ref nq, av, .int rk])), (nq, .inl (cs 0, 4, .inl fq))] sz) [(h0, .inr (10, [.ref nq, av, .int rk])), (nq, .inl (cs 0, 4, .inl fq2))]) (va_A [(h0, .inr (10, [.ref nq, av, .int rk])), (nq, .inl (cs 0, 4, .inl fq))] sz)) 0 0 (va_A [(h0, .inr (10, [.ref nq, av, .int rk])), (nq, .inl (cs 0, 4, .inl fq))] sz) := by
  refine Met.ofW (cc := cX3_become) (maxL := 5) (ret := none) (by decide) rfl ?_
  intro p e s m args below meth c s₁ B hml hv
  obtain ⟨hargs, hsz, hP, hK, hD0⟩ := hv
  have hx := B.exec
  have hb := B.bytes
  have hr := B.returns
  have hts := atoms_spec (ws := Cond.code yX3_become cX3_become 5 none :: gw_tbl) B.pre
  have hg := fun (w : Cond) (h : w ∈ gw_tbl) => hts w (List.mem_cons_of_mem _ h)
  have hown : s.vm.findClass RX3 = some m.cls := findClass_of_methodNamed B.named
  have hlocks := B.notSynchronized
  subst hsz
  have hD := hD0.self (sz := s.heap.size)
  generalize hAe : va_A [(h0, .inr (10, [.ref nq, av, .int rk])), (nq, .inl (cs 0, 4, .inl fq))] s.heap.size = A at hD ⊢
  have hA : ∀ q : Nat, s.heap.size ≤ q → A q := fun q h => by rw [← hAe]; exact Or.inr h
  have hS : va_S A s.heap s.heap [] := va_S.rf
  have hP : va_P D vwCl [(h0, .inr (10, [.ref nq, av, .int rk])), (nq, .inl (cs 0, 4, .inl fq))] s.heap := hP
  have hl := lv_entry ([.ref h0, .int p1, .int p2, .int p3, .int p4]) (n := 5) (Nat.le_of_ble_eq_true rfl)
  rw [show entryFrame m args 5 = F0 m 0 (lg_sl ([.ref h0, .int p1, .int p2, .int p3, .int p4]) ++ List.replicate (5 - (lg_sl ([.ref h0, .int p1, .int p2, .int p3, .int p4])).length) Slot.unset).toArray [] from by rw [hargs]; exact lg_entry_eq ..]
  generalize (lg_sl ([.ref h0, .int p1, .int p2, .int p3, .int p4]) ++ List.replicate (5 - (lg_sl ([.ref h0, .int p1, .int p2, .int p3, .int p4])).length) Slot.unset).toArray = ls at hl ⊢
  have hl : lv_has ls 5 [(0, .ref h0), (1, .int p1), (2, .int p2), (3, .int p3), (4, .int p4)] := hl
  refine W_genQ (fun Q hQ => ?_)
  refine lv_aload_n hx hb dX3_become_0 rfl (lv_at hl 0 rfl) ?_
  refine va_get (D := D) (ci := 10) (v := .ref nq) (C := RX10) (T := TX10) (N := 3) hx hb hg gwX10 hown hK hP 0 rfl rfl 0 (by decide) (hg _ kw_122) (fun _ h9 => h9) rfl dX3_become_1 ?_
  refine lv_iconst (v := 0) hx hb dX3_become_4 (by decide) ?_
  refine lv_iload_n hx hb dX3_become_5 rfl (lv_at hl 1 rfl) ?_
  refine va_iast hx hb hK hP hD hS 1 0 rfl rfl (show ¬ ((0 : Int32) < 0 ∨ 4 ≤ (0 : Int32).toNatClampNeg) by decide) dX3_become_6 (fun H locs hP hD hS => ?_)
  obtain ⟨f_6, hf_6⟩ : ∃ f9, f9 = (upd fq (0 : Int32).toNatClampNeg p1) := ⟨_, rfl⟩
  rw [← hf_6] at hP hD
  have hP : va_P D vwCl [(h0, .inr (10, [.ref nq, av, .int rk])), (nq, .inl (cs 0, 4, .inl f_6))] H := hP
  have hD : va_D A [(h0, .inr (10, [.ref nq, av, .int rk])), (nq, .inl (cs 0, 4, .inl f_6))] := hD
  refine lv_aload_n hx hb dX3_become_7 rfl (lv_at hl 0 rfl) ?_
  refine va_get (D := D) (ci := 10) (v := .ref nq) (C := RX10) (T := TX10) (N := 3) hx hb hg gwX10 hown hK hP 0 rfl rfl 0 (by decide) (hg _ kw_122) (fun _ h9 => h9) rfl dX3_become_8 ?_
  refine lv_iconst (v := 1) hx hb dX3_become_11 (by decide) ?_
  refine lv_iload_n hx hb dX3_become_12 rfl (lv_at hl 2 rfl) ?_
  refine va_iast hx hb hK hP hD hS 1 0 rfl rfl (show ¬ ((1 : Int32) < 0 ∨ 4 ≤ (1 : Int32).toNatClampNeg) by decide) dX3_become_13 (fun H locs hP hD hS => ?_)
  obtain ⟨f_13, hf_13⟩ : ∃ f9, f9 = (upd f_6 (1 : Int32).toNatClampNeg p2) := ⟨_, rfl⟩
  rw [← hf_13] at hP hD
  have hP : va_P D vwCl [(h0, .inr (10, [.ref nq, av, .int rk])), (nq, .inl (cs 0, 4, .inl f_13))] H := hP
  have hD : va_D A [(h0, .inr (10, [.ref nq, av, .int rk])), (nq, .inl (cs 0, 4, .inl f_13))] := hD
  refine lv_aload_n hx hb dX3_become_14 rfl (lv_at hl 0 rfl) ?_
  refine va_get (D := D) (ci := 10) (v := .ref nq) (C := RX10) (T := TX10) (N := 3) hx hb hg gwX10 hown hK hP 0 rfl rfl 0 (by decide) (hg _ kw_122) (fun _ h9 => h9) rfl dX3_become_15 ?_
  refine lv_iconst (v := 2) hx hb dX3_become_18 (by decide) ?_
  refine lv_iload_n hx hb dX3_become_19 rfl (lv_at hl 3 rfl) ?_
  refine va_iast hx hb hK hP hD hS 1 0 rfl rfl (show ¬ ((2 : Int32) < 0 ∨ 4 ≤ (2 : Int32).toNatClampNeg) by decide) dX3_become_20 (fun H locs hP hD hS => ?_)
  obtain ⟨f_20, hf_20⟩ : ∃ f9, f9 = (upd f_13 (2 : Int32).toNatClampNeg p3) := ⟨_, rfl⟩
  rw [← hf_20] at hP hD
  have hP : va_P D vwCl [(h0, .inr (10, [.ref nq, av, .int rk])), (nq, .inl (cs 0, 4, .inl f_20))] H := hP
  have hD : va_D A [(h0, .inr (10, [.ref nq, av, .int rk])), (nq, .inl (cs 0, 4, .inl f_20))] := hD
  refine lv_aload_n hx hb dX3_become_21 rfl (lv_at hl 0 rfl) ?_
  refine va_get (D := D) (ci := 10) (v := .ref nq) (C := RX10) (T := TX10) (N := 3) hx hb hg gwX10 hown hK hP 0 rfl rfl 0 (by decide) (hg _ kw_122) (fun _ h9 => h9) rfl dX3_become_22 ?_
  refine lv_iconst (v := 3) hx hb dX3_become_25 (by decide) ?_
  refine lv_iload hx hb dX3_become_26 (lv_at hl 4 rfl) ?_
  refine va_iast hx hb hK hP hD hS 1 0 rfl rfl (show ¬ ((3 : Int32) < 0 ∨ 4 ≤ (3 : Int32).toNatClampNeg) by decide) dX3_become_28 (fun H locs hP hD hS => ?_)
  obtain ⟨f_28, hf_28⟩ : ∃ f9, f9 = (upd f_20 (3 : Int32).toNatClampNeg p4) := ⟨_, rfl⟩
  rw [← hf_28] at hP hD
  have hP : va_P D vwCl [(h0, .inr (10, [.ref nq, av, .int rk])), (nq, .inl (cs 0, 4, .inl f_28))] H := hP
  have hD : va_D A [(h0, .inr (10, [.ref nq, av, .int rk])), (nq, .inl (cs 0, 4, .inl f_28))] := hD
  refine W_sQ hQ ?_
  refine W.widen (k := 0) (n := 0) (Nat.le_of_ble_eq_true rfl) (Nat.le_of_ble_eq_true rfl) ?_
  have hP9 := hP.sub (ws' := [(h0, .inr (10, [.ref nq, av, .int rk])), (nq, .inl (cs 0, 4, .inl f_28))]) [0, 1] rfl
  have hD9 := hD.sub (ws' := [(h0, .inr (10, [.ref nq, av, .int rk])), (nq, .inl (cs 0, 4, .inl f_28))]) [0, 1] (by decide) rfl
  exact W.vret hx hb hr (fun t ht hW => ⟨⟨(), rfl, trivial, ⟨f_28, (by subst hf_6 hf_13 hf_20 hf_28; exact ⟨rfl, rfl, rfl, rfl⟩), by rw [ht]; exact hP9, hD9⟩⟩, hS.F ht⟩) hS.2.2 dX3_become_29

set_option maxHeartbeats 4000000 in
set_option maxRecDepth 100000 in
theorem p_become_6 (l : Launch) (D : va_G) (cs : Nat → ClassId) (h0 : Nat) (nq : Nat) (av : Value) (rk : Int32) (fq : Nat → Int32) (p1 : Int32) (p2 : Int32) (p3 : Int32) (p4 : Int32) (sz : Nat) : Met l yX3_become (Cond.code yX3_become cX3_become 5 none :: gw_tbl) ({ frames := 0, cells := 0, slots := 0, locals := 0 }) (pc_M D cs [(h0, .inr (6, [.ref nq, av, .int rk])), (nq, .inl (cs 0, 4, .inl fq))] sz [.ref h0, .int p1, .int p2, .int p3, .int p4]) (va_Qv (fun (u : Unit) => True) (fun u t => ∃ (fq2 : Nat → Int32), (fq2 0 = p1 ∧ fq2 1 = p2 ∧ fq2 2 = p3 ∧ fq2 3 = p4) ∧ va_P D vwCl [(h0, .inr (6, [.ref nq, av, .int rk])), (nq, .inl (cs 0, 4, .inl fq2))] t.heap ∧ va_D (va_A [(h0, .inr (6, [.ref nq, av, .int rk])), (nq, .inl (cs 0, 4, .inl fq))] sz) [(h0, .inr (6, [.ref nq, av, .int rk])), (nq, .inl (cs 0, 4, .inl fq2))]) (va_A [(h0, .inr (6, [.ref nq, av, .int rk])), (nq, .inl (cs 0, 4, .inl fq))] sz)) 0 0 (va_A [(h0, .inr (6, [.ref nq, av, .int rk])), (nq, .inl (cs 0, 4, .inl fq))] sz) := by
  refine Met.ofW (cc := cX3_become) (maxL := 5) (ret := none) (by decide) rfl ?_
  intro p e s m args below meth c s₁ B hml hv
  obtain ⟨hargs, hsz, hP, hK, hD0⟩ := hv
  have hx := B.exec
  have hb := B.bytes
  have hr := B.returns
  have hts := atoms_spec (ws := Cond.code yX3_become cX3_become 5 none :: gw_tbl) B.pre
  have hg := fun (w : Cond) (h : w ∈ gw_tbl) => hts w (List.mem_cons_of_mem _ h)
  have hown : s.vm.findClass RX3 = some m.cls := findClass_of_methodNamed B.named
  have hlocks := B.notSynchronized
  subst hsz
  have hD := hD0.self (sz := s.heap.size)
  generalize hAe : va_A [(h0, .inr (6, [.ref nq, av, .int rk])), (nq, .inl (cs 0, 4, .inl fq))] s.heap.size = A at hD ⊢
  have hA : ∀ q : Nat, s.heap.size ≤ q → A q := fun q h => by rw [← hAe]; exact Or.inr h
  have hS : va_S A s.heap s.heap [] := va_S.rf
  have hP : va_P D vwCl [(h0, .inr (6, [.ref nq, av, .int rk])), (nq, .inl (cs 0, 4, .inl fq))] s.heap := hP
  have hl := lv_entry ([.ref h0, .int p1, .int p2, .int p3, .int p4]) (n := 5) (Nat.le_of_ble_eq_true rfl)
  rw [show entryFrame m args 5 = F0 m 0 (lg_sl ([.ref h0, .int p1, .int p2, .int p3, .int p4]) ++ List.replicate (5 - (lg_sl ([.ref h0, .int p1, .int p2, .int p3, .int p4])).length) Slot.unset).toArray [] from by rw [hargs]; exact lg_entry_eq ..]
  generalize (lg_sl ([.ref h0, .int p1, .int p2, .int p3, .int p4]) ++ List.replicate (5 - (lg_sl ([.ref h0, .int p1, .int p2, .int p3, .int p4])).length) Slot.unset).toArray = ls at hl ⊢
  have hl : lv_has ls 5 [(0, .ref h0), (1, .int p1), (2, .int p2), (3, .int p3), (4, .int p4)] := hl
  refine W_genQ (fun Q hQ => ?_)
  refine lv_aload_n hx hb dX3_become_0 rfl (lv_at hl 0 rfl) ?_
  refine va_get (D := D) (ci := 6) (v := .ref nq) (C := RX6) (T := TX6) (N := 3) hx hb hg gwX6 hown hK hP 0 rfl rfl 0 (by decide) (hg _ kw_122) (fun _ h9 => h9) rfl dX3_become_1 ?_
  refine lv_iconst (v := 0) hx hb dX3_become_4 (by decide) ?_
  refine lv_iload_n hx hb dX3_become_5 rfl (lv_at hl 1 rfl) ?_
  refine va_iast hx hb hK hP hD hS 1 0 rfl rfl (show ¬ ((0 : Int32) < 0 ∨ 4 ≤ (0 : Int32).toNatClampNeg) by decide) dX3_become_6 (fun H locs hP hD hS => ?_)
  obtain ⟨f_6, hf_6⟩ : ∃ f9, f9 = (upd fq (0 : Int32).toNatClampNeg p1) := ⟨_, rfl⟩
  rw [← hf_6] at hP hD
  have hP : va_P D vwCl [(h0, .inr (6, [.ref nq, av, .int rk])), (nq, .inl (cs 0, 4, .inl f_6))] H := hP
  have hD : va_D A [(h0, .inr (6, [.ref nq, av, .int rk])), (nq, .inl (cs 0, 4, .inl f_6))] := hD
  refine lv_aload_n hx hb dX3_become_7 rfl (lv_at hl 0 rfl) ?_
  refine va_get (D := D) (ci := 6) (v := .ref nq) (C := RX6) (T := TX6) (N := 3) hx hb hg gwX6 hown hK hP 0 rfl rfl 0 (by decide) (hg _ kw_122) (fun _ h9 => h9) rfl dX3_become_8 ?_
  refine lv_iconst (v := 1) hx hb dX3_become_11 (by decide) ?_
  refine lv_iload_n hx hb dX3_become_12 rfl (lv_at hl 2 rfl) ?_
  refine va_iast hx hb hK hP hD hS 1 0 rfl rfl (show ¬ ((1 : Int32) < 0 ∨ 4 ≤ (1 : Int32).toNatClampNeg) by decide) dX3_become_13 (fun H locs hP hD hS => ?_)
  obtain ⟨f_13, hf_13⟩ : ∃ f9, f9 = (upd f_6 (1 : Int32).toNatClampNeg p2) := ⟨_, rfl⟩
  rw [← hf_13] at hP hD
  have hP : va_P D vwCl [(h0, .inr (6, [.ref nq, av, .int rk])), (nq, .inl (cs 0, 4, .inl f_13))] H := hP
  have hD : va_D A [(h0, .inr (6, [.ref nq, av, .int rk])), (nq, .inl (cs 0, 4, .inl f_13))] := hD
  refine lv_aload_n hx hb dX3_become_14 rfl (lv_at hl 0 rfl) ?_
  refine va_get (D := D) (ci := 6) (v := .ref nq) (C := RX6) (T := TX6) (N := 3) hx hb hg gwX6 hown hK hP 0 rfl rfl 0 (by decide) (hg _ kw_122) (fun _ h9 => h9) rfl dX3_become_15 ?_
  refine lv_iconst (v := 2) hx hb dX3_become_18 (by decide) ?_
  refine lv_iload_n hx hb dX3_become_19 rfl (lv_at hl 3 rfl) ?_
  refine va_iast hx hb hK hP hD hS 1 0 rfl rfl (show ¬ ((2 : Int32) < 0 ∨ 4 ≤ (2 : Int32).toNatClampNeg) by decide) dX3_become_20 (fun H locs hP hD hS => ?_)
  obtain ⟨f_20, hf_20⟩ : ∃ f9, f9 = (upd f_13 (2 : Int32).toNatClampNeg p3) := ⟨_, rfl⟩
  rw [← hf_20] at hP hD
  have hP : va_P D vwCl [(h0, .inr (6, [.ref nq, av, .int rk])), (nq, .inl (cs 0, 4, .inl f_20))] H := hP
  have hD : va_D A [(h0, .inr (6, [.ref nq, av, .int rk])), (nq, .inl (cs 0, 4, .inl f_20))] := hD
  refine lv_aload_n hx hb dX3_become_21 rfl (lv_at hl 0 rfl) ?_
  refine va_get (D := D) (ci := 6) (v := .ref nq) (C := RX6) (T := TX6) (N := 3) hx hb hg gwX6 hown hK hP 0 rfl rfl 0 (by decide) (hg _ kw_122) (fun _ h9 => h9) rfl dX3_become_22 ?_
  refine lv_iconst (v := 3) hx hb dX3_become_25 (by decide) ?_
  refine lv_iload hx hb dX3_become_26 (lv_at hl 4 rfl) ?_
  refine va_iast hx hb hK hP hD hS 1 0 rfl rfl (show ¬ ((3 : Int32) < 0 ∨ 4 ≤ (3 : Int32).toNatClampNeg) by decide) dX3_become_28 (fun H locs hP hD hS => ?_)
  obtain ⟨f_28, hf_28⟩ : ∃ f9, f9 = (upd f_20 (3 : Int32).toNatClampNeg p4) := ⟨_, rfl⟩
  rw [← hf_28] at hP hD
  have hP : va_P D vwCl [(h0, .inr (6, [.ref nq, av, .int rk])), (nq, .inl (cs 0, 4, .inl f_28))] H := hP
  have hD : va_D A [(h0, .inr (6, [.ref nq, av, .int rk])), (nq, .inl (cs 0, 4, .inl f_28))] := hD
  refine W_sQ hQ ?_
  refine W.widen (k := 0) (n := 0) (Nat.le_of_ble_eq_true rfl) (Nat.le_of_ble_eq_true rfl) ?_
  have hP9 := hP.sub (ws' := [(h0, .inr (6, [.ref nq, av, .int rk])), (nq, .inl (cs 0, 4, .inl f_28))]) [0, 1] rfl
  have hD9 := hD.sub (ws' := [(h0, .inr (6, [.ref nq, av, .int rk])), (nq, .inl (cs 0, 4, .inl f_28))]) [0, 1] (by decide) rfl
  exact W.vret hx hb hr (fun t ht hW => ⟨⟨(), rfl, trivial, ⟨f_28, (by subst hf_6 hf_13 hf_20 hf_28; exact ⟨rfl, rfl, rfl, rfl⟩), by rw [ht]; exact hP9, hD9⟩⟩, hS.F ht⟩) hS.2.2 dX3_become_29

set_option maxHeartbeats 4000000 in
set_option maxRecDepth 100000 in
theorem p_become_1 (l : Launch) (D : va_G) (cs : Nat → ClassId) (h0 : Nat) (nq : Nat) (av : Value) (rk : Int32) (fq : Nat → Int32) (p1 : Int32) (p2 : Int32) (p3 : Int32) (p4 : Int32) (sz : Nat) : Met l yX3_become (Cond.code yX3_become cX3_become 5 none :: gw_tbl) ({ frames := 0, cells := 0, slots := 0, locals := 0 }) (pc_M D cs [(h0, .inr (1, [.ref nq, av, .int rk])), (nq, .inl (cs 0, 4, .inl fq))] sz [.ref h0, .int p1, .int p2, .int p3, .int p4]) (va_Qv (fun (u : Unit) => True) (fun u t => ∃ (fq2 : Nat → Int32), (fq2 0 = p1 ∧ fq2 1 = p2 ∧ fq2 2 = p3 ∧ fq2 3 = p4) ∧ va_P D vwCl [(h0, .inr (1, [.ref nq, av, .int rk])), (nq, .inl (cs 0, 4, .inl fq2))] t.heap ∧ va_D (va_A [(h0, .inr (1, [.ref nq, av, .int rk])), (nq, .inl (cs 0, 4, .inl fq))] sz) [(h0, .inr (1, [.ref nq, av, .int rk])), (nq, .inl (cs 0, 4, .inl fq2))]) (va_A [(h0, .inr (1, [.ref nq, av, .int rk])), (nq, .inl (cs 0, 4, .inl fq))] sz)) 0 0 (va_A [(h0, .inr (1, [.ref nq, av, .int rk])), (nq, .inl (cs 0, 4, .inl fq))] sz) := by
  refine Met.ofW (cc := cX3_become) (maxL := 5) (ret := none) (by decide) rfl ?_
  intro p e s m args below meth c s₁ B hml hv
  obtain ⟨hargs, hsz, hP, hK, hD0⟩ := hv
  have hx := B.exec
  have hb := B.bytes
  have hr := B.returns
  have hts := atoms_spec (ws := Cond.code yX3_become cX3_become 5 none :: gw_tbl) B.pre
  have hg := fun (w : Cond) (h : w ∈ gw_tbl) => hts w (List.mem_cons_of_mem _ h)
  have hown : s.vm.findClass RX3 = some m.cls := findClass_of_methodNamed B.named
  have hlocks := B.notSynchronized
  subst hsz
  have hD := hD0.self (sz := s.heap.size)
  generalize hAe : va_A [(h0, .inr (1, [.ref nq, av, .int rk])), (nq, .inl (cs 0, 4, .inl fq))] s.heap.size = A at hD ⊢
  have hA : ∀ q : Nat, s.heap.size ≤ q → A q := fun q h => by rw [← hAe]; exact Or.inr h
  have hS : va_S A s.heap s.heap [] := va_S.rf
  have hP : va_P D vwCl [(h0, .inr (1, [.ref nq, av, .int rk])), (nq, .inl (cs 0, 4, .inl fq))] s.heap := hP
  have hl := lv_entry ([.ref h0, .int p1, .int p2, .int p3, .int p4]) (n := 5) (Nat.le_of_ble_eq_true rfl)
  rw [show entryFrame m args 5 = F0 m 0 (lg_sl ([.ref h0, .int p1, .int p2, .int p3, .int p4]) ++ List.replicate (5 - (lg_sl ([.ref h0, .int p1, .int p2, .int p3, .int p4])).length) Slot.unset).toArray [] from by rw [hargs]; exact lg_entry_eq ..]
  generalize (lg_sl ([.ref h0, .int p1, .int p2, .int p3, .int p4]) ++ List.replicate (5 - (lg_sl ([.ref h0, .int p1, .int p2, .int p3, .int p4])).length) Slot.unset).toArray = ls at hl ⊢
  have hl : lv_has ls 5 [(0, .ref h0), (1, .int p1), (2, .int p2), (3, .int p3), (4, .int p4)] := hl
  refine W_genQ (fun Q hQ => ?_)
  refine lv_aload_n hx hb dX3_become_0 rfl (lv_at hl 0 rfl) ?_
  refine va_get (D := D) (ci := 1) (v := .ref nq) (C := RX1) (T := TX1) (N := 3) hx hb hg gwX1 hown hK hP 0 rfl rfl 0 (by decide) (hg _ kw_122) (fun _ h9 => h9) rfl dX3_become_1 ?_
  refine lv_iconst (v := 0) hx hb dX3_become_4 (by decide) ?_
  refine lv_iload_n hx hb dX3_become_5 rfl (lv_at hl 1 rfl) ?_
  refine va_iast hx hb hK hP hD hS 1 0 rfl rfl (show ¬ ((0 : Int32) < 0 ∨ 4 ≤ (0 : Int32).toNatClampNeg) by decide) dX3_become_6 (fun H locs hP hD hS => ?_)
  obtain ⟨f_6, hf_6⟩ : ∃ f9, f9 = (upd fq (0 : Int32).toNatClampNeg p1) := ⟨_, rfl⟩
  rw [← hf_6] at hP hD
  have hP : va_P D vwCl [(h0, .inr (1, [.ref nq, av, .int rk])), (nq, .inl (cs 0, 4, .inl f_6))] H := hP
  have hD : va_D A [(h0, .inr (1, [.ref nq, av, .int rk])), (nq, .inl (cs 0, 4, .inl f_6))] := hD
  refine lv_aload_n hx hb dX3_become_7 rfl (lv_at hl 0 rfl) ?_
  refine va_get (D := D) (ci := 1) (v := .ref nq) (C := RX1) (T := TX1) (N := 3) hx hb hg gwX1 hown hK hP 0 rfl rfl 0 (by decide) (hg _ kw_122) (fun _ h9 => h9) rfl dX3_become_8 ?_
  refine lv_iconst (v := 1) hx hb dX3_become_11 (by decide) ?_
  refine lv_iload_n hx hb dX3_become_12 rfl (lv_at hl 2 rfl) ?_
  refine va_iast hx hb hK hP hD hS 1 0 rfl rfl (show ¬ ((1 : Int32) < 0 ∨ 4 ≤ (1 : Int32).toNatClampNeg) by decide) dX3_become_13 (fun H locs hP hD hS => ?_)
  obtain ⟨f_13, hf_13⟩ : ∃ f9, f9 = (upd f_6 (1 : Int32).toNatClampNeg p2) := ⟨_, rfl⟩
  rw [← hf_13] at hP hD
  have hP : va_P D vwCl [(h0, .inr (1, [.ref nq, av, .int rk])), (nq, .inl (cs 0, 4, .inl f_13))] H := hP
  have hD : va_D A [(h0, .inr (1, [.ref nq, av, .int rk])), (nq, .inl (cs 0, 4, .inl f_13))] := hD
  refine lv_aload_n hx hb dX3_become_14 rfl (lv_at hl 0 rfl) ?_
  refine va_get (D := D) (ci := 1) (v := .ref nq) (C := RX1) (T := TX1) (N := 3) hx hb hg gwX1 hown hK hP 0 rfl rfl 0 (by decide) (hg _ kw_122) (fun _ h9 => h9) rfl dX3_become_15 ?_
  refine lv_iconst (v := 2) hx hb dX3_become_18 (by decide) ?_
  refine lv_iload_n hx hb dX3_become_19 rfl (lv_at hl 3 rfl) ?_
  refine va_iast hx hb hK hP hD hS 1 0 rfl rfl (show ¬ ((2 : Int32) < 0 ∨ 4 ≤ (2 : Int32).toNatClampNeg) by decide) dX3_become_20 (fun H locs hP hD hS => ?_)
  obtain ⟨f_20, hf_20⟩ : ∃ f9, f9 = (upd f_13 (2 : Int32).toNatClampNeg p3) := ⟨_, rfl⟩
  rw [← hf_20] at hP hD
  have hP : va_P D vwCl [(h0, .inr (1, [.ref nq, av, .int rk])), (nq, .inl (cs 0, 4, .inl f_20))] H := hP
  have hD : va_D A [(h0, .inr (1, [.ref nq, av, .int rk])), (nq, .inl (cs 0, 4, .inl f_20))] := hD
  refine lv_aload_n hx hb dX3_become_21 rfl (lv_at hl 0 rfl) ?_
  refine va_get (D := D) (ci := 1) (v := .ref nq) (C := RX1) (T := TX1) (N := 3) hx hb hg gwX1 hown hK hP 0 rfl rfl 0 (by decide) (hg _ kw_122) (fun _ h9 => h9) rfl dX3_become_22 ?_
  refine lv_iconst (v := 3) hx hb dX3_become_25 (by decide) ?_
  refine lv_iload hx hb dX3_become_26 (lv_at hl 4 rfl) ?_
  refine va_iast hx hb hK hP hD hS 1 0 rfl rfl (show ¬ ((3 : Int32) < 0 ∨ 4 ≤ (3 : Int32).toNatClampNeg) by decide) dX3_become_28 (fun H locs hP hD hS => ?_)
  obtain ⟨f_28, hf_28⟩ : ∃ f9, f9 = (upd f_20 (3 : Int32).toNatClampNeg p4) := ⟨_, rfl⟩
  rw [← hf_28] at hP hD
  have hP : va_P D vwCl [(h0, .inr (1, [.ref nq, av, .int rk])), (nq, .inl (cs 0, 4, .inl f_28))] H := hP
  have hD : va_D A [(h0, .inr (1, [.ref nq, av, .int rk])), (nq, .inl (cs 0, 4, .inl f_28))] := hD
  refine W_sQ hQ ?_
  refine W.widen (k := 0) (n := 0) (Nat.le_of_ble_eq_true rfl) (Nat.le_of_ble_eq_true rfl) ?_
  have hP9 := hP.sub (ws' := [(h0, .inr (1, [.ref nq, av, .int rk])), (nq, .inl (cs 0, 4, .inl f_28))]) [0, 1] rfl
  have hD9 := hD.sub (ws' := [(h0, .inr (1, [.ref nq, av, .int rk])), (nq, .inl (cs 0, 4, .inl f_28))]) [0, 1] (by decide) rfl
  exact W.vret hx hb hr (fun t ht hW => ⟨⟨(), rfl, trivial, ⟨f_28, (by subst hf_6 hf_13 hf_20 hf_28; exact ⟨rfl, rfl, rfl, rfl⟩), by rw [ht]; exact hP9, hD9⟩⟩, hS.F ht⟩) hS.2.2 dX3_become_29
