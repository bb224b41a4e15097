theorem dX11_blank_0 : decode cX11_blank 0 = .ok (.aload_n 0, 1) := by decide +kernel
theorem dX11_blank_1 : decode cX11_blank 1 = .ok (.getfield 10, 3) := by decide +kernel
theorem dX11_blank_4 : decode cX11_blank 4 = .ok (.getfield 63, 3) := by decide +kernel
theorem dX11_blank_7 : decode cX11_blank 7 = .ok (.istore_n 1, 1) := by decide +kernel
theorem dX11_blank_8 : decode cX11_blank 8 = .ok (.aload_n 0, 1) := by decide +kernel
theorem dX11_blank_9 : decode cX11_blank 9 = .ok (.getfield 10, 3) := by decide +kernel
theorem dX11_blank_12 : decode cX11_blank 12 = .ok (.iconst 0, 1) := by decide +kernel
theorem dX11_blank_13 : decode cX11_blank 13 = .ok (.putfield 63, 3) := by decide +kernel
theorem dX11_blank_16 : decode cX11_blank 16 = .ok (.iload_n 1, 1) := by decide +kernel
theorem dX11_blank_17 : decode cX11_blank 17 = .ok (.ireturn, 1) := by decide +kernel

set_option maxHeartbeats 4000000 in
set_option maxRecDepth 100000 in
theorem x_blank (l : Launch) (D : va_G) (x0 : Nat) (pg : Nat) (rd : Nat) (aq : Nat) (py : Nat) (pl : Nat) (ch : Nat) (ro : Nat) (cd : Nat) (sz : Nat) : Met l yX11_blank (Cond.code yX11_blank cX11_blank 2 (some .int) :: gw_tbl) ({ frames := 0, cells := 0, slots := 0, locals := 0 }) (pc_M D [] [(x0, .inr (11, [.ref pg, .ref rd, .ref aq, .ref py, .ref pl, .ref ch, .ref ro, .int 0, .int 0])), (pg, .inr (2, [.ref cd, .int 0]))] sz [.ref x0]) (va_Qi (fun (r : Int32) (u : Unit) => r = 0) (fun _ _ => True) (va_A [(x0, .inr (11, [.ref pg, .ref rd, .ref aq, .ref py, .ref pl, .ref ch, .ref ro, .int 0, .int 0])), (pg, .inr (2, [.ref cd, .int 0]))] sz)) 0 0 (va_A [(x0, .inr (11, [.ref pg, .ref rd, .ref aq, .ref py, .ref pl, .ref ch, .ref ro, .int 0, .int 0])), (pg, .inr (2, [.ref cd, .int 0]))] sz) := by
  refine Met.ofW (cc := cX11_blank) (maxL := 2) (ret := (some .int)) (by decide) rfl ?_
  intro p e s m args below meth c s₁ B hml hv
  obtain ⟨hargs, hsz, hP, hK, hD0⟩ := hv
  have hx := B.exec
  have hb := B.bytes
  have hr := B.returns
  have hts := atoms_spec (ws := Cond.code yX11_blank cX11_blank 2 (some .int) :: gw_tbl) B.pre
  have hg := fun (w : Cond) (h : w ∈ gw_tbl) => hts w (List.mem_cons_of_mem _ h)
  have hown : s.vm.findClass RX11 = some m.cls := findClass_of_methodNamed B.named
  have hlocks := B.notSynchronized
  subst hsz
  have hD := hD0.self (sz := s.heap.size)
  generalize hAe : va_A [(x0, .inr (11, [.ref pg, .ref rd, .ref aq, .ref py, .ref pl, .ref ch, .ref ro, .int 0, .int 0])), (pg, .inr (2, [.ref cd, .int 0]))] s.heap.size = A at hD ⊢
  have hA : ∀ q : Nat, s.heap.size ≤ q → A q := fun q h => by rw [← hAe]; exact Or.inr h
  have hS : va_S A s.heap s.heap [] := va_S.rf
  have hP : va_P D vwCl [(x0, .inr (11, [.ref pg, .ref rd, .ref aq, .ref py, .ref pl, .ref ch, .ref ro, .int 0, .int 0])), (pg, .inr (2, [.ref cd, .int 0]))] s.heap := hP
  have hl := lv_entry ([.ref x0]) (n := 2) (Nat.le_of_ble_eq_true rfl)
  rw [show entryFrame m args 2 = F0 m 0 (lg_sl ([.ref x0]) ++ List.replicate (2 - (lg_sl ([.ref x0])).length) Slot.unset).toArray [] from by rw [hargs]; exact lg_entry_eq ..]
  generalize (lg_sl ([.ref x0]) ++ List.replicate (2 - (lg_sl ([.ref x0])).length) Slot.unset).toArray = ls at hl ⊢
  have hl : lv_has ls 2 [(0, .ref x0)] := hl
  refine W_genQ (fun Q hQ => ?_)
  refine lv_aload_n hx hb dX11_blank_0 rfl (lv_at hl 0 rfl) ?_
  refine va_get (D := D) (ci := 11) (v := .ref pg) (C := RX11) (T := TX11) (N := 9) hx hb hg gwX11 hown hK hP 0 rfl rfl 0 (by decide) (hg _ kw_36) (fun _ h9 => h9) rfl dX11_blank_1 ?_
  refine va_get (D := D) (ci := 2) (v := .int 0) (C := RX2) (T := TX2) (N := 2) hx hb hg gwX2 hown hK hP 1 rfl rfl 1 (by decide) (hg _ kw_37) (fun _ h9 => h9) rfl dX11_blank_4 ?_
  refine lv_istore_n (lv' := [(1, .int 0), (0, .ref x0)]) hx hb dX11_blank_7 rfl hl (by decide) rfl (fun ls hl => ?_)
  refine lv_aload_n hx hb dX11_blank_8 rfl (lv_at hl 1 rfl) ?_
  refine va_get (D := D) (ci := 11) (v := .ref pg) (C := RX11) (T := TX11) (N := 9) hx hb hg gwX11 hown hK hP 0 rfl rfl 0 (by decide) (hg _ kw_36) (fun _ h9 => h9) rfl dX11_blank_9 ?_
  refine lv_iconst (v := 0) hx hb dX11_blank_12 (by decide) ?_
  refine va_put (D := D) (ci := 2) (v := .int 0) (ty := .int) (C := RX2) (T := TX2) (N := 2) hx hb hg gwX2 tyX2 tyX2_ok nmX2 hown hK hP hD hS 1 rfl rfl 1 (by decide) (hg _ kw_37) (fun _ h9 => h9) rfl (by decide +kernel) rfl rfl (Nat.le_of_ble_eq_true rfl) dX11_blank_13 (fun H locs hP hD hS => ?_)
  have hP : va_P D vwCl [(x0, .inr (11, [.ref pg, .ref rd, .ref aq, .ref py, .ref pl, .ref ch, .ref ro, .int 0, .int 0])), (pg, .inr (2, [.ref cd, .int 0]))] H := hP
  have hD : va_D A [(x0, .inr (11, [.ref pg, .ref rd, .ref aq, .ref py, .ref pl, .ref ch, .ref ro, .int 0, .int 0])), (pg, .inr (2, [.ref cd, .int 0]))] := hD
  refine lv_iload_n hx hb dX11_blank_16 rfl (lv_at hl 0 rfl) ?_
  subst hQ
  refine W.widen (k := 0) (n := 0) (Nat.le_of_ble_eq_true rfl) (Nat.le_of_ble_eq_true rfl) ?_
  exact W.iret (v := 0) hx hb hr (fun t ht hW => ⟨⟨0, (), rfl, rfl, trivial⟩, hS.F ht⟩) hS.2.2 dX11_blank_17

theorem dX7_beginCase_0 : decode cX7_beginCase 0 = .ok (.aload_n 0, 1) := by decide +kernel
theorem dX7_beginCase_1 : decode cX7_beginCase 1 = .ok (.dup, 1) := by decide +kernel
theorem dX7_beginCase_2 : decode cX7_beginCase 2 = .ok (.getfield 24, 3) := by decide +kernel
theorem dX7_beginCase_5 : decode cX7_beginCase 5 = .ok (.iconst 1, 1) := by decide +kernel
theorem dX7_beginCase_6 : decode cX7_beginCase 6 = .ok (.iadd, 1) := by decide +kernel
theorem dX7_beginCase_7 : decode cX7_beginCase 7 = .ok (.putfield 24, 3) := by decide +kernel
theorem dX7_beginCase_10 : decode cX7_beginCase 10 = .ok (.aload_n 0, 1) := by decide +kernel
theorem dX7_beginCase_11 : decode cX7_beginCase 11 = .ok (.iconst 0, 1) := by decide +kernel
theorem dX7_beginCase_12 : decode cX7_beginCase 12 = .ok (.putfield 42, 3) := by decide +kernel
theorem dX7_beginCase_15 : decode cX7_beginCase 15 = .ok (.aload_n 0, 1) := by decide +kernel
theorem dX7_beginCase_16 : decode cX7_beginCase 16 = .ok (.iconst 0, 1) := by decide +kernel
theorem dX7_beginCase_17 : decode cX7_beginCase 17 = .ok (.putfield 45, 3) := by decide +kernel
theorem dX7_beginCase_20 : decode cX7_beginCase 20 = .ok (.aload_n 0, 1) := by decide +kernel
theorem dX7_beginCase_21 : decode cX7_beginCase 21 = .ok (.iconst 0, 1) := by decide +kernel
theorem dX7_beginCase_22 : decode cX7_beginCase 22 = .ok (.putfield 67, 3) := by decide +kernel
theorem dX7_beginCase_25 : decode cX7_beginCase 25 = .ok (.return_, 1) := by decide +kernel
theorem kw_60 : (.fieldLink RX7 24 "NobodyChecks$Reader" "cases" "I" : Cond) ∈ gw_tbl := gw_in (by decide +kernel) (by decide +kernel)
theorem kw_61 : (.fieldLink RX7 42 "NobodyChecks$Reader" "persons" "I" : Cond) ∈ gw_tbl := gw_in (by decide +kernel) (by decide +kernel)
theorem kw_62 : (.fieldLink RX7 45 "NobodyChecks$Reader" "digits" "I" : Cond) ∈ gw_tbl := gw_in (by decide +kernel) (by decide +kernel)
theorem kw_63 : (.fieldLink RX7 67 "NobodyChecks$Reader" "value" "I" : Cond) ∈ gw_tbl := gw_in (by decide +kernel) (by decide +kernel)

set_option maxHeartbeats 4000000 in
set_option maxRecDepth 100000 in
theorem r_beginCase (l : Launch) (D : va_G) (rd : Nat) (rw : Nat) (rc : Nat) (sz : Nat) : Met l yX7_beginCase (Cond.code yX7_beginCase cX7_beginCase 1 none :: gw_tbl) ({ frames := 0, cells := 0, slots := 0, locals := 0 }) (pc_M D [] [(rd, .inr (7, [.ref rw, .ref rc, .int 0, .int 0, .int 0, .int 0, .int 0]))] sz [.ref rd]) (va_Qv (fun (u : Unit) => True) (fun _ t => va_P D vwCl [(rd, .inr (7, [.ref rw, .ref rc, .int 1, .int 0, .int 0, .int 0, .int 0]))] t.heap ∧ va_K D vwCl [] t ∧ va_D (va_A [(rd, .inr (7, [.ref rw, .ref rc, .int 0, .int 0, .int 0, .int 0, .int 0]))] sz) [(rd, .inr (7, [.ref rw, .ref rc, .int 1, .int 0, .int 0, .int 0, .int 0]))]) (va_A [(rd, .inr (7, [.ref rw, .ref rc, .int 0, .int 0, .int 0, .int 0, .int 0]))] sz)) 0 0 (va_A [(rd, .inr (7, [.ref rw, .ref rc, .int 0, .int 0, .int 0, .int 0, .int 0]))] sz) := by
  refine Met.ofW (cc := cX7_beginCase) (maxL := 1) (ret := none) (by decide) rfl ?_
  intro p e s m args below meth c s₁ B hml hv
  obtain ⟨hargs, hsz, hP, hK, hD0⟩ := hv
  have hx := B.exec
  have hb := B.bytes
  have hr := B.returns
  have hts := atoms_spec (ws := Cond.code yX7_beginCase cX7_beginCase 1 none :: gw_tbl) B.pre
  have hg := fun (w : Cond) (h : w ∈ gw_tbl) => hts w (List.mem_cons_of_mem _ h)
  have hown : s.vm.findClass RX7 = some m.cls := findClass_of_methodNamed B.named
  have hlocks := B.notSynchronized
  subst hsz
  have hD := hD0.self (sz := s.heap.size)
  generalize hAe : va_A [(rd, .inr (7, [.ref rw, .ref rc, .int 0, .int 0, .int 0, .int 0, .int 0]))] s.heap.size = A at hD ⊢
  have hA : ∀ q : Nat, s.heap.size ≤ q → A q := fun q h => by rw [← hAe]; exact Or.inr h
  have hS : va_S A s.heap s.heap [] := va_S.rf
  have hP : va_P D vwCl [(rd, .inr (7, [.ref rw, .ref rc, .int 0, .int 0, .int 0, .int 0, .int 0]))] s.heap := hP
  have hl := lv_entry ([.ref rd]) (n := 1) (Nat.le_of_ble_eq_true rfl)
  rw [show entryFrame m args 1 = F0 m 0 (lg_sl ([.ref rd]) ++ List.replicate (1 - (lg_sl ([.ref rd])).length) Slot.unset).toArray [] from by rw [hargs]; exact lg_entry_eq ..]
  generalize (lg_sl ([.ref rd]) ++ List.replicate (1 - (lg_sl ([.ref rd])).length) Slot.unset).toArray = ls at hl ⊢
  have hl : lv_has ls 1 [(0, .ref rd)] := hl
  refine W_genQ (fun Q hQ => ?_)
  refine lv_aload_n hx hb dX7_beginCase_0 rfl (lv_at hl 0 rfl) ?_
  refine lv_dup hx hb dX7_beginCase_1 rfl ?_
  refine va_get (D := D) (ci := 7) (v := .int 0) (C := RX7) (T := TX7) (N := 7) hx hb hg gwX7 hown hK hP 0 rfl rfl 2 (by decide) (hg _ kw_60) (fun _ h9 => h9) rfl dX7_beginCase_2 ?_
  refine lv_iconst (v := 1) hx hb dX7_beginCase_5 (by decide) ?_
  refine lv_iadd hx hb dX7_beginCase_6 ?_
  refine lv_topi (fun z_6 e_6 => ?_)
  obtain rfl : z_6 = (1 : Int32) := e_6.trans (by decide)
  refine va_put (D := D) (ci := 7) (v := .int 1) (ty := .int) (C := RX7) (T := TX7) (N := 7) hx hb hg gwX7 tyX7 tyX7_ok nmX7 hown hK hP hD hS 0 rfl rfl 2 (by decide) (hg _ kw_60) (fun _ h9 => h9) rfl (by decide +kernel) rfl rfl (Nat.le_of_ble_eq_true rfl) dX7_beginCase_7 (fun H locs hP hD hS => ?_)
  have hP : va_P D vwCl [(rd, .inr (7, [.ref rw, .ref rc, .int 1, .int 0, .int 0, .int 0, .int 0]))] H := hP
  have hD : va_D A [(rd, .inr (7, [.ref rw, .ref rc, .int 1, .int 0, .int 0, .int 0, .int 0]))] := hD
  refine lv_aload_n hx hb dX7_beginCase_10 rfl (lv_at hl 0 rfl) ?_
  refine lv_iconst (v := 0) hx hb dX7_beginCase_11 (by decide) ?_
  refine va_put (D := D) (ci := 7) (v := .int 0) (ty := .int) (C := RX7) (T := TX7) (N := 7) hx hb hg gwX7 tyX7 tyX7_ok nmX7 hown hK hP hD hS 0 rfl rfl 3 (by decide) (hg _ kw_61) (fun _ h9 => h9) rfl (by decide +kernel) rfl rfl (Nat.le_of_ble_eq_true rfl) dX7_beginCase_12 (fun H locs hP hD hS => ?_)
  have hP : va_P D vwCl [(rd, .inr (7, [.ref rw, .ref rc, .int 1, .int 0, .int 0, .int 0, .int 0]))] H := hP
  have hD : va_D A [(rd, .inr (7, [.ref rw, .ref rc, .int 1, .int 0, .int 0, .int 0, .int 0]))] := hD
  refine lv_aload_n hx hb dX7_beginCase_15 rfl (lv_at hl 0 rfl) ?_
  refine lv_iconst (v := 0) hx hb dX7_beginCase_16 (by decide) ?_
  refine va_put (D := D) (ci := 7) (v := .int 0) (ty := .int) (C := RX7) (T := TX7) (N := 7) hx hb hg gwX7 tyX7 tyX7_ok nmX7 hown hK hP hD hS 0 rfl rfl 5 (by decide) (hg _ kw_62) (fun _ h9 => h9) rfl (by decide +kernel) rfl rfl (Nat.le_of_ble_eq_true rfl) dX7_beginCase_17 (fun H locs hP hD hS => ?_)
  have hP : va_P D vwCl [(rd, .inr (7, [.ref rw, .ref rc, .int 1, .int 0, .int 0, .int 0, .int 0]))] H := hP
  have hD : va_D A [(rd, .inr (7, [.ref rw, .ref rc, .int 1, .int 0, .int 0, .int 0, .int 0]))] := hD
  refine lv_aload_n hx hb dX7_beginCase_20 rfl (lv_at hl 0 rfl) ?_
  refine lv_iconst (v := 0) hx hb dX7_beginCase_21 (by decide) ?_
  refine va_put (D := D) (ci := 7) (v := .int 0) (ty := .int) (C := RX7) (T := TX7) (N := 7) hx hb hg gwX7 tyX7 tyX7_ok nmX7 hown hK hP hD hS 0 rfl rfl 6 (by decide) (hg _ kw_63) (fun _ h9 => h9) rfl (by decide +kernel) rfl rfl (Nat.le_of_ble_eq_true rfl) dX7_beginCase_22 (fun H locs hP hD hS => ?_)
  have hP : va_P D vwCl [(rd, .inr (7, [.ref rw, .ref rc, .int 1, .int 0, .int 0, .int 0, .int 0]))] H := hP
  have hD : va_D A [(rd, .inr (7, [.ref rw, .ref rc, .int 1, .int 0, .int 0, .int 0, .int 0]))] := hD
  subst hQ
  refine W.widen (k := 0) (n := 0) (Nat.le_of_ble_eq_true rfl) (Nat.le_of_ble_eq_true rfl) ?_
  have hP9 := hP.sub (ws' := [(rd, .inr (7, [.ref rw, .ref rc, .int 1, .int 0, .int 0, .int 0, .int 0]))]) [0] rfl
  have hD9 := hD.sub (ws' := [(rd, .inr (7, [.ref rw, .ref rc, .int 1, .int 0, .int 0, .int 0, .int 0]))]) [0] (by decide) rfl
  have hK9 := hK.sub (tys' := []) [] rfl
  exact W.vret hx hb hr (fun t ht hW => ⟨⟨(), rfl, trivial, ⟨by rw [ht]; exact hP9, va_K.moved hW.alike hK9, hD9⟩⟩, hS.F ht⟩) hS.2.2 dX7_beginCase_25

theorem dX7_readUntilFault_0 : decode cX7_readUntilFault 0 = .ok (.aload_n 0, 1) := by decide +kernel
theorem dX7_readUntilFault_1 : decode cX7_readUntilFault 1 = .ok (.iconst 0, 1) := by decide +kernel
theorem dX7_readUntilFault_2 : decode cX7_readUntilFault 2 = .ok (.putfield 20, 3) := by decide +kernel
theorem dX7_readUntilFault_5 : decode cX7_readUntilFault 5 = .ok (.aload_n 0, 1) := by decide +kernel
theorem dX7_readUntilFault_6 : decode cX7_readUntilFault 6 = .ok (.iconst 0, 1) := by decide +kernel
theorem dX7_readUntilFault_7 : decode cX7_readUntilFault 7 = .ok (.putfield 24, 3) := by decide +kernel
theorem dX7_readUntilFault_10 : decode cX7_readUntilFault 10 = .ok (.aload_n 0, 1) := by decide +kernel
theorem dX7_readUntilFault_11 : decode cX7_readUntilFault 11 = .ok (.invokevirtual 27, 3) := by decide +kernel
theorem dX7_readUntilFault_14 : decode cX7_readUntilFault 14 = .ok (.iconst 0, 1) := by decide +kernel
theorem dX7_readUntilFault_15 : decode cX7_readUntilFault 15 = .ok (.istore_n 2, 1) := by decide +kernel
theorem dX7_readUntilFault_16 : decode cX7_readUntilFault 16 = .ok (.iload_n 2, 1) := by decide +kernel
theorem dX7_readUntilFault_17 : decode cX7_readUntilFault 17 = .ok (.aload_n 1, 1) := by decide +kernel
theorem dX7_readUntilFault_18 : decode cX7_readUntilFault 18 = .ok (.getfield 30, 3) := by decide +kernel
theorem dX7_readUntilFault_21 : decode cX7_readUntilFault 21 = .ok (.if_icmp .ge 24, 3) := by decide +kernel
theorem dX7_readUntilFault_24 : decode cX7_readUntilFault 24 = .ok (.aload_n 0, 1) := by decide +kernel
theorem dX7_readUntilFault_25 : decode cX7_readUntilFault 25 = .ok (.aload_n 1, 1) := by decide +kernel
theorem dX7_readUntilFault_26 : decode cX7_readUntilFault 26 = .ok (.getfield 35, 3) := by decide +kernel
theorem dX7_readUntilFault_29 : decode cX7_readUntilFault 29 = .ok (.iload_n 2, 1) := by decide +kernel
theorem dX7_readUntilFault_30 : decode cX7_readUntilFault 30 = .ok (.iaload, 1) := by decide +kernel
theorem dX7_readUntilFault_31 : decode cX7_readUntilFault 31 = .ok (.invokevirtual 38, 3) := by decide +kernel
theorem dX7_readUntilFault_34 : decode cX7_readUntilFault 34 = .ok (.ifCond .ne 5, 3) := by decide +kernel
theorem dX7_readUntilFault_37 : decode cX7_readUntilFault 37 = .ok (.iload_n 2, 1) := by decide +kernel
theorem dX7_readUntilFault_38 : decode cX7_readUntilFault 38 = .ok (.ireturn, 1) := by decide +kernel
theorem dX7_readUntilFault_39 : decode cX7_readUntilFault 39 = .ok (.iinc 2 1, 3) := by decide +kernel
theorem dX7_readUntilFault_42 : decode cX7_readUntilFault 42 = .ok (.goto (-26), 3) := by decide +kernel
theorem dX7_readUntilFault_45 : decode cX7_readUntilFault 45 = .ok (.aload_n 1, 1) := by decide +kernel
theorem dX7_readUntilFault_46 : decode cX7_readUntilFault 46 = .ok (.getfield 30, 3) := by decide +kernel
theorem dX7_readUntilFault_49 : decode cX7_readUntilFault 49 = .ok (.ireturn, 1) := by decide +kernel
theorem kw_64 : (.fieldLink RX7 20 "NobodyChecks$Reader" "agreed" "I" : Cond) ∈ gw_tbl := gw_in (by decide +kernel) (by decide +kernel)
theorem kw_65 : (.code yX7_beginCase cX7_beginCase 1 none : Cond) ∈ gw_tbl := gw_in (by decide +kernel) (by decide +kernel)
theorem kw_66 : (.methodLink RX7 27 yX7_beginCase : Cond) ∈ gw_tbl := gw_in (by decide +kernel) (by decide +kernel)
theorem kw_67 : (.instanceMethod yX7_beginCase : Cond) ∈ gw_tbl := gw_in (by decide +kernel) (by decide +kernel)
theorem kw_68 : (.selects RX7 yX7_beginCase yX7_beginCase : Cond) ∈ gw_tbl := gw_in (by decide +kernel) (by decide +kernel)
theorem kw_69 : (.initialized RX7 : Cond) ∈ gw_tbl := gw_in (by decide +kernel) (by decide +kernel)
theorem kw_70 : (.fieldLink RX7 30 "NobodyChecks$Page" "size" "I" : Cond) ∈ gw_tbl := gw_in (by decide +kernel) (by decide +kernel)

set_option maxHeartbeats 4000000 in
set_option maxRecDepth 100000 in
theorem r_readUntilFault (l : Launch) (D : va_G) (rd : Nat) (rw : Nat) (rc : Nat) (pg : Nat) (cd : Nat) (sz : Nat) : Met l yX7_readUntilFault (Cond.code yX7_readUntilFault cX7_readUntilFault 3 (some .int) :: gw_tbl) ({ frames := 1, cells := 0, slots := 0, locals := 20 }) (pc_M D [] [(rd, .inr (7, [.ref rw, .ref rc, .int 0, .int 0, .int 0, .int 0, .int 0])), (pg, .inr (2, [.ref cd, .int 0]))] sz [.ref rd, .ref pg]) (va_Qi (fun (r : Int32) (u : Unit) => r = 0) (fun _ t => va_P D vwCl [(rd, .inr (7, [.ref rw, .ref rc, .int 1, .int 0, .int 0, .int 0, .int 0])), (pg, .inr (2, [.ref cd, .int 0]))] t.heap ∧ va_K D vwCl [] t ∧ va_D (va_A [(rd, .inr (7, [.ref rw, .ref rc, .int 0, .int 0, .int 0, .int 0, .int 0])), (pg, .inr (2, [.ref cd, .int 0]))] sz) [(rd, .inr (7, [.ref rw, .ref rc, .int 1, .int 0, .int 0, .int 0, .int 0])), (pg, .inr (2, [.ref cd, .int 0]))]) (va_A [(rd, .inr (7, [.ref rw, .ref rc, .int 0, .int 0, .int 0, .int 0, .int 0])), (pg, .inr (2, [.ref cd, .int 0]))] sz)) 0 0 (va_A [(rd, .inr (7, [.ref rw, .ref rc, .int 0, .int 0, .int 0, .int 0, .int 0])), (pg, .inr (2, [.ref cd, .int 0]))] sz) := by
  refine Met.ofW (cc := cX7_readUntilFault) (maxL := 3) (ret := (some .int)) (by decide) rfl ?_
  intro p e s m args below meth c s₁ B hml hv
  obtain ⟨hargs, hsz, hP, hK, hD0⟩ := hv
  have hx := B.exec
  have hb := B.bytes
  have hr := B.returns
  have hts := atoms_spec (ws := Cond.code yX7_readUntilFault cX7_readUntilFault 3 (some .int) :: gw_tbl) B.pre
  have hg := fun (w : Cond) (h : w ∈ gw_tbl) => hts w (List.mem_cons_of_mem _ h)
  have hown : s.vm.findClass RX7 = some m.cls := findClass_of_methodNamed B.named
  have hlocks := B.notSynchronized
  subst hsz
  have hD := hD0.self (sz := s.heap.size)
  generalize hAe : va_A [(rd, .inr (7, [.ref rw, .ref rc, .int 0, .int 0, .int 0, .int 0, .int 0])), (pg, .inr (2, [.ref cd, .int 0]))] s.heap.size = A at hD ⊢
  have hA : ∀ q : Nat, s.heap.size ≤ q → A q := fun q h => by rw [← hAe]; exact Or.inr h
  have hS : va_S A s.heap s.heap [] := va_S.rf
  have hP : va_P D vwCl [(rd, .inr (7, [.ref rw, .ref rc, .int 0, .int 0, .int 0, .int 0, .int 0])), (pg, .inr (2, [.ref cd, .int 0]))] s.heap := hP
  have hl := lv_entry ([.ref rd, .ref pg]) (n := 3) (Nat.le_of_ble_eq_true rfl)
  rw [show entryFrame m args 3 = F0 m 0 (lg_sl ([.ref rd, .ref pg]) ++ List.replicate (3 - (lg_sl ([.ref rd, .ref pg])).length) Slot.unset).toArray [] from by rw [hargs]; exact lg_entry_eq ..]
  generalize (lg_sl ([.ref rd, .ref pg]) ++ List.replicate (3 - (lg_sl ([.ref rd, .ref pg])).length) Slot.unset).toArray = ls at hl ⊢
  have hl : lv_has ls 3 [(0, .ref rd), (1, .ref pg)] := hl
  refine W_genQ (fun Q hQ => ?_)
  refine lv_aload_n hx hb dX7_readUntilFault_0 rfl (lv_at hl 0 rfl) ?_
  refine lv_iconst (v := 0) hx hb dX7_readUntilFault_1 (by decide) ?_
  refine va_put (D := D) (ci := 7) (v := .int 0) (ty := .int) (C := RX7) (T := TX7) (N := 7) hx hb hg gwX7 tyX7 tyX7_ok nmX7 hown hK hP hD hS 0 rfl rfl 4 (by decide) (hg _ kw_64) (fun _ h9 => h9) rfl (by decide +kernel) rfl rfl (Nat.le_of_ble_eq_true rfl) dX7_readUntilFault_2 (fun H locs hP hD hS => ?_)
  have hP : va_P D vwCl [(rd, .inr (7, [.ref rw, .ref rc, .int 0, .int 0, .int 0, .int 0, .int 0])), (pg, .inr (2, [.ref cd, .int 0]))] H := hP
  have hD : va_D A [(rd, .inr (7, [.ref rw, .ref rc, .int 0, .int 0, .int 0, .int 0, .int 0])), (pg, .inr (2, [.ref cd, .int 0]))] := hD
  refine lv_aload_n hx hb dX7_readUntilFault_5 rfl (lv_at hl 0 rfl) ?_
  refine lv_iconst (v := 0) hx hb dX7_readUntilFault_6 (by decide) ?_
  refine va_put (D := D) (ci := 7) (v := .int 0) (ty := .int) (C := RX7) (T := TX7) (N := 7) hx hb hg gwX7 tyX7 tyX7_ok nmX7 hown hK hP hD hS 0 rfl rfl 2 (by decide) (hg _ kw_60) (fun _ h9 => h9) rfl (by decide +kernel) rfl rfl (Nat.le_of_ble_eq_true rfl) dX7_readUntilFault_7 (fun H locs hP hD hS => ?_)
  have hP : va_P D vwCl [(rd, .inr (7, [.ref rw, .ref rc, .int 0, .int 0, .int 0, .int 0, .int 0])), (pg, .inr (2, [.ref cd, .int 0]))] H := hP
  have hD : va_D A [(rd, .inr (7, [.ref rw, .ref rc, .int 0, .int 0, .int 0, .int 0, .int 0])), (pg, .inr (2, [.ref cd, .int 0]))] := hD
  refine lv_aload_n hx hb dX7_readUntilFault_10 rfl (lv_at hl 0 rfl) ?_
  have hPc := hP.sub (ws' := [(rd, .inr (7, [.ref rw, .ref rc, .int 0, .int 0, .int 0, .int 0, .int 0]))]) [0] rfl
  have hKc := hK.sub (tys' := []) [] rfl
  have hDc := hD.sub (ws' := [(rd, .inr (7, [.ref rw, .ref rc, .int 0, .int 0, .int 0, .int 0, .int 0]))]) [0] (by decide) rfl
  have hFc := va_free (wc := [(rd, .inr (7, [.ref rw, .ref rc, .int 0, .int 0, .int 0, .int 0, .int 0]))]) hD hS hA [0] rfl
  refine va_callv (va_runV (As := []) (rest := []) ⟨hx, hb, hml, hown, hg⟩ (r_beginCase l D rd rw rc _) (cwV 0 hg (gw_V kw_66 kw_67 kw_68 kw_69 kw_65) rfl rfl rfl (by decide +kernel) ⟨Nat.le_of_ble_eq_true rfl, Nat.le_of_ble_eq_true rfl⟩) (pr_MV (q := (RX7, TX7, 7)) 7 0 hKc hPc hDc rfl rfl) rfl rfl hl.1 rfl (lv_room (Nat.le_of_ble_eq_true rfl)) dX7_readUntilFault_11 ⟨Nat.le_of_ble_eq_true rfl, Nat.le_of_ble_eq_true rfl⟩) hS (fun q _ h => hFc q h) hFc (fun u t H1 locs ht hvm h_11 hB hz1 hk1 hS => ?_)
  obtain ⟨hP1, hK1, hD1⟩ := hB
  rw [ht] at hP1
  have hK1 := va_K.moved hvm.symm hK1
  obtain ⟨hP, hD⟩ := va_join (wr := [(pg, .inr (2, [.ref cd, .int 0]))]) (w1 := [(rd, .inr (7, [.ref rw, .ref rc, .int 1, .int 0, .int 0, .int 0, .int 0]))]) hP hD [0] [1] rfl rfl (by decide) (by decide) hk1 hFc hP1 hD1
  have hK := hK.app hK1
  generalize H1 = H at hP hS ⊢
  have hP : va_P D vwCl [(pg, .inr (2, [.ref cd, .int 0])), (rd, .inr (7, [.ref rw, .ref rc, .int 1, .int 0, .int 0, .int 0, .int 0]))] H := hP
  have hD : va_D A [(pg, .inr (2, [.ref cd, .int 0])), (rd, .inr (7, [.ref rw, .ref rc, .int 1, .int 0, .int 0, .int 0, .int 0]))] := hD
  have hK : va_K D vwCl [] s := hK
  refine W.cs (cells' := 0) (slots' := 0) rfl rfl ?_
  try dsimp only at h_11
  refine lv_iconst (v := 0) hx hb dX7_readUntilFault_14 (by decide) ?_
  refine lv_istore_n (lv' := [(2, .int 0), (0, .ref rd), (1, .ref pg)]) hx hb dX7_readUntilFault_15 rfl hl (by decide) rfl (fun ls hl => ?_)
  refine lv_iload_n hx hb dX7_readUntilFault_16 rfl (lv_at hl 0 rfl) ?_
  refine lv_aload_n hx hb dX7_readUntilFault_17 rfl (lv_at hl 2 rfl) ?_
  refine va_get (D := D) (ci := 2) (v := .int 0) (C := RX2) (T := TX2) (N := 2) hx hb hg gwX2 hown hK hP 0 rfl rfl 1 (by decide) (hg _ kw_70) (fun _ h9 => h9) rfl dX7_readUntilFault_18 ?_
  refine lv_icmp_ge (tgt := 45) hx hb dX7_readUntilFault_21 (by decide) (fun c_21 => ?_) (fun c_21 => absurd c_21 (by decide))
  refine lv_aload_n hx hb dX7_readUntilFault_45 rfl (lv_at hl 2 rfl) ?_
  refine va_get (D := D) (ci := 2) (v := .int 0) (C := RX2) (T := TX2) (N := 2) hx hb hg gwX2 hown hK hP 0 rfl rfl 1 (by decide) (hg _ kw_70) (fun _ h9 => h9) rfl dX7_readUntilFault_46 ?_
  subst hQ
  refine W.widen (k := 0) (n := 0) (Nat.le_of_ble_eq_true rfl) (Nat.le_of_ble_eq_true rfl) ?_
  have hP9 := hP.sub (ws' := [(rd, .inr (7, [.ref rw, .ref rc, .int 1, .int 0, .int 0, .int 0, .int 0])), (pg, .inr (2, [.ref cd, .int 0]))]) [1, 0] rfl
  have hD9 := hD.sub (ws' := [(rd, .inr (7, [.ref rw, .ref rc, .int 1, .int 0, .int 0, .int 0, .int 0])), (pg, .inr (2, [.ref cd, .int 0]))]) [1, 0] (by decide) rfl
  have hK9 := hK.sub (tys' := []) [] rfl
  exact W.iret (v := 0) hx hb hr (fun t ht hW => ⟨⟨0, (), rfl, rfl, ⟨by rw [ht]; exact hP9, va_K.moved hW.alike hK9, hD9⟩⟩, hS.F ht⟩) hS.2.2 dX7_readUntilFault_49

theorem dX11_fault_0 : decode cX11_fault 0 = .ok (.aload_n 0, 1) := by decide +kernel
theorem dX11_fault_1 : decode cX11_fault 1 = .ok (.getfield 19, 3) := by decide +kernel
theorem dX11_fault_4 : decode cX11_fault 4 = .ok (.aload_n 0, 1) := by decide +kernel
theorem dX11_fault_5 : decode cX11_fault 5 = .ok (.getfield 10, 3) := by decide +kernel
theorem dX11_fault_8 : decode cX11_fault 8 = .ok (.invokevirtual 71, 3) := by decide +kernel
theorem dX11_fault_11 : decode cX11_fault 11 = .ok (.ireturn, 1) := by decide +kernel
theorem kw_71 : (.fieldLink RX11 19 "NobodyChecks" "reader" "LNobodyChecks$Reader;" : Cond) ∈ gw_tbl := gw_in (by decide +kernel) (by decide +kernel)
theorem kw_72 : (.code yX7_readUntilFault cX7_readUntilFault 3 (some .int) : Cond) ∈ gw_tbl := gw_in (by decide +kernel) (by decide +kernel)
theorem kw_73 : (.methodLink RX11 71 yX7_readUntilFault : Cond) ∈ gw_tbl := gw_in (by decide +kernel) (by decide +kernel)
theorem kw_74 : (.instanceMethod yX7_readUntilFault : Cond) ∈ gw_tbl := gw_in (by decide +kernel) (by decide +kernel)
theorem kw_75 : (.selects RX7 yX7_readUntilFault yX7_readUntilFault : Cond) ∈ gw_tbl := gw_in (by decide +kernel) (by decide +kernel)

set_option maxHeartbeats 4000000 in
set_option maxRecDepth 100000 in
theorem x_fault (l : Launch) (D : va_G) (x0 : Nat) (pg : Nat) (rd : Nat) (aq : Nat) (py : Nat) (pl : Nat) (ch : Nat) (ro : Nat) (rw : Nat) (rc : Nat) (cd : Nat) (sz : Nat) : Met l yX11_fault (Cond.code yX11_fault cX11_fault 1 (some .int) :: gw_tbl) ({ frames := 2, cells := 0, slots := 0, locals := 42 }) (pc_M D [] [(x0, .inr (11, [.ref pg, .ref rd, .ref aq, .ref py, .ref pl, .ref ch, .ref ro, .int 0, .int 0])), (rd, .inr (7, [.ref rw, .ref rc, .int 0, .int 0, .int 0, .int 0, .int 0])), (pg, .inr (2, [.ref cd, .int 0]))] sz [.ref x0]) (va_Qi (fun (r : Int32) (u : Unit) => r = 0) (fun _ _ => True) (va_A [(x0, .inr (11, [.ref pg, .ref rd, .ref aq, .ref py, .ref pl, .ref ch, .ref ro, .int 0, .int 0])), (rd, .inr (7, [.ref rw, .ref rc, .int 0, .int 0, .int 0, .int 0, .int 0])), (pg, .inr (2, [.ref cd, .int 0]))] sz)) 0 0 (va_A [(x0, .inr (11, [.ref pg, .ref rd, .ref aq, .ref py, .ref pl, .ref ch, .ref ro, .int 0, .int 0])), (rd, .inr (7, [.ref rw, .ref rc, .int 0, .int 0, .int 0, .int 0, .int 0])), (pg, .inr (2, [.ref cd, .int 0]))] sz) := by
  refine Met.ofW (cc := cX11_fault) (maxL := 1) (ret := (some .int)) (by decide) rfl ?_
  intro p e s m args below meth c s₁ B hml hv
  obtain ⟨hargs, hsz, hP, hK, hD0⟩ := hv
  have hx := B.exec
  have hb := B.bytes
  have hr := B.returns
  have hts := atoms_spec (ws := Cond.code yX11_fault cX11_fault 1 (some .int) :: gw_tbl) B.pre
  have hg := fun (w : Cond) (h : w ∈ gw_tbl) => hts w (List.mem_cons_of_mem _ h)
  have hown : s.vm.findClass RX11 = some m.cls := findClass_of_methodNamed B.named
  have hlocks := B.notSynchronized
  subst hsz
  have hD := hD0.self (sz := s.heap.size)
  generalize hAe : va_A [(x0, .inr (11, [.ref pg, .ref rd, .ref aq, .ref py, .ref pl, .ref ch, .ref ro, .int 0, .int 0])), (rd, .inr (7, [.ref rw, .ref rc, .int 0, .int 0, .int 0, .int 0, .int 0])), (pg, .inr (2, [.ref cd, .int 0]))] s.heap.size = A at hD ⊢
  have hA : ∀ q : Nat, s.heap.size ≤ q → A q := fun q h => by rw [← hAe]; exact Or.inr h
  have hS : va_S A s.heap s.heap [] := va_S.rf
  have hP : va_P D vwCl [(x0, .inr (11, [.ref pg, .ref rd, .ref aq, .ref py, .ref pl, .ref ch, .ref ro, .int 0, .int 0])), (rd, .inr (7, [.ref rw, .ref rc, .int 0, .int 0, .int 0, .int 0, .int 0])), (pg, .inr (2, [.ref cd, .int 0]))] s.heap := hP
  have hl := lv_entry ([.ref x0]) (n := 1) (Nat.le_of_ble_eq_true rfl)
  rw [show entryFrame m args 1 = F0 m 0 (lg_sl ([.ref x0]) ++ List.replicate (1 - (lg_sl ([.ref x0])).length) Slot.unset).toArray [] from by rw [hargs]; exact lg_entry_eq ..]
  generalize (lg_sl ([.ref x0]) ++ List.replicate (1 - (lg_sl ([.ref x0])).length) Slot.unset).toArray = ls at hl ⊢
  have hl : lv_has ls 1 [(0, .ref x0)] := hl
  refine W_genQ (fun Q hQ => ?_)
  refine lv_aload_n hx hb dX11_fault_0 rfl (lv_at hl 0 rfl) ?_
  refine va_get (D := D) (ci := 11) (v := .ref rd) (C := RX11) (T := TX11) (N := 9) hx hb hg gwX11 hown hK hP 0 rfl rfl 1 (by decide) (hg _ kw_71) (fun _ h9 => h9) rfl dX11_fault_1 ?_
  refine lv_aload_n hx hb dX11_fault_4 rfl (lv_at hl 0 rfl) ?_
  refine va_get (D := D) (ci := 11) (v := .ref pg) (C := RX11) (T := TX11) (N := 9) hx hb hg gwX11 hown hK hP 0 rfl rfl 0 (by decide) (hg _ kw_36) (fun _ h9 => h9) rfl dX11_fault_5 ?_
  have hPc := hP.sub (ws' := [(rd, .inr (7, [.ref rw, .ref rc, .int 0, .int 0, .int 0, .int 0, .int 0])), (pg, .inr (2, [.ref cd, .int 0]))]) [1, 2] rfl
  have hKc := hK.sub (tys' := []) [] rfl
  have hDc := hD.sub (ws' := [(rd, .inr (7, [.ref rw, .ref rc, .int 0, .int 0, .int 0, .int 0, .int 0])), (pg, .inr (2, [.ref cd, .int 0]))]) [1, 2] (by decide) rfl
  have hFc := va_free (wc := [(rd, .inr (7, [.ref rw, .ref rc, .int 0, .int 0, .int 0, .int 0, .int 0])), (pg, .inr (2, [.ref cd, .int 0]))]) hD hS hA [1, 2] rfl
  refine va_calli (va_runV (As := [.ref pg]) (rest := []) ⟨hx, hb, hml, hown, hg⟩ (r_readUntilFault l D rd rw rc pg cd _) (cwV 1 hg (gw_V kw_73 kw_74 kw_75 kw_69 kw_72) rfl rfl rfl (by decide +kernel) ⟨Nat.le_of_ble_eq_true rfl, Nat.le_of_ble_eq_true rfl⟩) (pr_MV (q := (RX7, TX7, 7)) 7 0 hKc hPc hDc rfl rfl) rfl rfl hl.1 rfl (lv_room (Nat.le_of_ble_eq_true rfl)) dX11_fault_8 ⟨Nat.le_of_ble_eq_true rfl, Nat.le_of_ble_eq_true rfl⟩) hS (fun q _ h => hFc q h) hFc (fun r_8 u t H1 locs ht hvm h_8 hB hz1 hk1 hS => ?_)
  obtain ⟨hP1, hK1, hD1⟩ := hB
  rw [ht] at hP1
  have hK1 := va_K.moved hvm.symm hK1
  obtain ⟨hP, hD⟩ := va_join (wr := [(x0, .inr (11, [.ref pg, .ref rd, .ref aq, .ref py, .ref pl, .ref ch, .ref ro, .int 0, .int 0]))]) (w1 := [(rd, .inr (7, [.ref rw, .ref rc, .int 1, .int 0, .int 0, .int 0, .int 0])), (pg, .inr (2, [.ref cd, .int 0]))]) hP hD [1, 2] [0] rfl rfl (by decide) (by decide) hk1 hFc hP1 hD1
  have hK := hK.app hK1
  generalize H1 = H at hP hS ⊢
  have hP : va_P D vwCl [(x0, .inr (11, [.ref pg, .ref rd, .ref aq, .ref py, .ref pl, .ref ch, .ref ro, .int 0, .int 0])), (rd, .inr (7, [.ref rw, .ref rc, .int 1, .int 0, .int 0, .int 0, .int 0])), (pg, .inr (2, [.ref cd, .int 0]))] H := hP
  have hD : va_D A [(x0, .inr (11, [.ref pg, .ref rd, .ref aq, .ref py, .ref pl, .ref ch, .ref ro, .int 0, .int 0])), (rd, .inr (7, [.ref rw, .ref rc, .int 1, .int 0, .int 0, .int 0, .int 0])), (pg, .inr (2, [.ref cd, .int 0]))] := hD
  have hK : va_K D vwCl [] s := hK
  refine W.cs (cells' := 0) (slots' := 0) rfl rfl ?_
  obtain rfl : r_8 = (0 : Int32) := h_8
  subst hQ
  refine W.widen (k := 0) (n := 0) (Nat.le_of_ble_eq_true rfl) (Nat.le_of_ble_eq_true rfl) ?_
  exact W.iret (v := 0) hx hb hr (fun t ht hW => ⟨⟨0, (), rfl, rfl, trivial⟩, hS.F ht⟩) hS.2.2 dX11_fault_11

theorem dX7_isWhole_0 : decode cX7_isWhole 0 = .ok (.aload_n 0, 1) := by decide +kernel
theorem dX7_isWhole_1 : decode cX7_isWhole 1 = .ok (.getfield 42, 3) := by decide +kernel
theorem dX7_isWhole_4 : decode cX7_isWhole 4 = .ok (.ifCond .le 21, 3) := by decide +kernel
theorem dX7_isWhole_7 : decode cX7_isWhole 7 = .ok (.aload_n 0, 1) := by decide +kernel
theorem dX7_isWhole_8 : decode cX7_isWhole 8 = .ok (.getfield 45, 3) := by decide +kernel
theorem dX7_isWhole_11 : decode cX7_isWhole 11 = .ok (.ifCond .le 14, 3) := by decide +kernel
theorem dX7_isWhole_14 : decode cX7_isWhole 14 = .ok (.aload_n 0, 1) := by decide +kernel
theorem dX7_isWhole_15 : decode cX7_isWhole 15 = .ok (.invokevirtual 48, 3) := by decide +kernel
theorem dX7_isWhole_18 : decode cX7_isWhole 18 = .ok (.ifCond .eq 7, 3) := by decide +kernel
theorem dX7_isWhole_21 : decode cX7_isWhole 21 = .ok (.iconst 1, 1) := by decide +kernel
theorem dX7_isWhole_22 : decode cX7_isWhole 22 = .ok (.goto 4, 3) := by decide +kernel
theorem dX7_isWhole_25 : decode cX7_isWhole 25 = .ok (.iconst 0, 1) := by decide +kernel
theorem dX7_isWhole_26 : decode cX7_isWhole 26 = .ok (.ireturn, 1) := by decide +kernel

set_option maxHeartbeats 4000000 in
set_option maxRecDepth 100000 in
theorem r_isWhole (l : Launch) (D : va_G) (rd : Nat) (rw : Nat) (rc : Nat) : Met l yX7_isWhole (Cond.code yX7_isWhole cX7_isWhole 1 (some .boolean) :: gw_tbl) ({ frames := 0, cells := 0, slots := 0, locals := 0 }) (pc_S D [] [(rd, .inr (7, [.ref rw, .ref rc, .int 1, .int 0, .int 0, .int 0, .int 0]))] [.ref rd]) (vp_Si (fun r => r = 0)) 0 0 (fun _ => False) := by
  refine Met.ofW (cc := cX7_isWhole) (maxL := 1) (ret := (some .boolean)) (by decide) rfl ?_
  intro p e s m args below meth c s₁ B hml hv
  obtain ⟨hargs, hP, hK⟩ := hv
  have hx := B.exec
  have hb := B.bytes
  have hr := B.returns
  have hts := atoms_spec (ws := Cond.code yX7_isWhole cX7_isWhole 1 (some .boolean) :: gw_tbl) B.pre
  have hg := fun (w : Cond) (h : w ∈ gw_tbl) => hts w (List.mem_cons_of_mem _ h)
  have hown : s.vm.findClass RX7 = some m.cls := findClass_of_methodNamed B.named
  have hlocks := B.notSynchronized
  have hl := lv_entry ([.ref rd]) (n := 1) (Nat.le_of_ble_eq_true rfl)
  rw [show entryFrame m args 1 = F0 m 0 (lg_sl ([.ref rd]) ++ List.replicate (1 - (lg_sl ([.ref rd])).length) Slot.unset).toArray [] from by rw [hargs]; exact lg_entry_eq ..]
  generalize (lg_sl ([.ref rd]) ++ List.replicate (1 - (lg_sl ([.ref rd])).length) Slot.unset).toArray = ls at hl ⊢
  have hl : lv_has ls 1 [(0, .ref rd)] := hl
  refine W_genQ (fun Q hQ => ?_)
  refine lv_aload_n hx hb dX7_isWhole_0 rfl (lv_at hl 0 rfl) ?_
  refine va_get (D := D) (ci := 7) (v := .int 0) (C := RX7) (T := TX7) (N := 7) hx hb hg gwX7 hown hK hP 0 rfl rfl 3 (by decide) (hg _ kw_61) (fun _ h9 => h9) rfl dX7_isWhole_1 ?_
  refine lv_if_le (tgt := 25) hx hb dX7_isWhole_4 (by decide) (fun c_4 => ?_) (fun c_4 => absurd c_4 (by decide))
  refine lv_iconst (v := 0) hx hb dX7_isWhole_25 (by decide) ?_
  subst hQ
  exact W.zret (v := 0) hx hb hr (by decide) (fun t ht hW => ⟨0, rfl, rfl, ht⟩) (fun _ h => absurd h List.not_mem_nil) dX7_isWhole_26

theorem dX11_question_0 : decode cX11_question 0 = .ok (.aload_n 0, 1) := by decide +kernel
theorem dX11_question_1 : decode cX11_question 1 = .ok (.getfield 19, 3) := by decide +kernel
theorem dX11_question_4 : decode cX11_question 4 = .ok (.aload_n 0, 1) := by decide +kernel
theorem dX11_question_5 : decode cX11_question 5 = .ok (.getfield 10, 3) := by decide +kernel
theorem dX11_question_8 : decode cX11_question 8 = .ok (.invokevirtual 71, 3) := by decide +kernel
theorem dX11_question_11 : decode cX11_question 11 = .ok (.istore_n 1, 1) := by decide +kernel
theorem dX11_question_12 : decode cX11_question 12 = .ok (.iload_n 1, 1) := by decide +kernel
theorem dX11_question_13 : decode cX11_question 13 = .ok (.aload_n 0, 1) := by decide +kernel
theorem dX11_question_14 : decode cX11_question 14 = .ok (.getfield 10, 3) := by decide +kernel
theorem dX11_question_17 : decode cX11_question 17 = .ok (.getfield 63, 3) := by decide +kernel
theorem dX11_question_20 : decode cX11_question 20 = .ok (.if_icmp .lt 13, 3) := by decide +kernel
theorem dX11_question_23 : decode cX11_question 23 = .ok (.aload_n 0, 1) := by decide +kernel
theorem dX11_question_24 : decode cX11_question 24 = .ok (.getfield 19, 3) := by decide +kernel
theorem dX11_question_27 : decode cX11_question 27 = .ok (.invokevirtual 75, 3) := by decide +kernel
theorem dX11_question_30 : decode cX11_question 30 = .ok (.ifCond .ne 6, 3) := by decide +kernel
theorem dX11_question_33 : decode cX11_question 33 = .ok (.bipush (-103), 2) := by decide +kernel
theorem dX11_question_35 : decode cX11_question 35 = .ok (.ireturn, 1) := by decide +kernel
theorem dX11_question_36 : decode cX11_question 36 = .ok (.aload_n 0, 1) := by decide +kernel
theorem dX11_question_37 : decode cX11_question 37 = .ok (.getfield 26, 3) := by decide +kernel
theorem dX11_question_40 : decode cX11_question 40 = .ok (.aload_n 0, 1) := by decide +kernel
theorem dX11_question_41 : decode cX11_question 41 = .ok (.getfield 19, 3) := by decide +kernel
theorem dX11_question_44 : decode cX11_question 44 = .ok (.invokevirtual 79, 3) := by decide +kernel
theorem dX11_question_47 : decode cX11_question 47 = .ok (.aload_n 0, 1) := by decide +kernel
theorem dX11_question_48 : decode cX11_question 48 = .ok (.getfield 55, 3) := by decide +kernel
theorem dX11_question_51 : decode cX11_question 51 = .ok (.iconst 0, 1) := by decide +kernel
theorem dX11_question_52 : decode cX11_question 52 = .ok (.putfield 83, 3) := by decide +kernel
theorem dX11_question_55 : decode cX11_question 55 = .ok (.aload_n 0, 1) := by decide +kernel
theorem dX11_question_56 : decode cX11_question 56 = .ok (.getfield 10, 3) := by decide +kernel
theorem dX11_question_59 : decode cX11_question 59 = .ok (.iconst 0, 1) := by decide +kernel
theorem dX11_question_60 : decode cX11_question 60 = .ok (.putfield 63, 3) := by decide +kernel
theorem dX11_question_63 : decode cX11_question 63 = .ok (.aload_n 0, 1) := by decide +kernel
theorem dX11_question_64 : decode cX11_question 64 = .ok (.invokevirtual 84, 3) := by decide +kernel
theorem dX11_question_67 : decode cX11_question 67 = .ok (.aload_n 0, 1) := by decide +kernel
theorem dX11_question_68 : decode cX11_question 68 = .ok (.getfield 26, 3) := by decide +kernel
theorem dX11_question_71 : decode cX11_question 71 = .ok (.getfield 87, 3) := by decide +kernel
theorem dX11_question_74 : decode cX11_question 74 = .ok (.ireturn, 1) := by decide +kernel
theorem kw_76 : (.code yX7_isWhole cX7_isWhole 1 (some .boolean) : Cond) ∈ gw_tbl := gw_in (by decide +kernel) (by decide +kernel)
theorem kw_77 : (.methodLink RX11 75 yX7_isWhole : Cond) ∈ gw_tbl := gw_in (by decide +kernel) (by decide +kernel)
theorem kw_78 : (.instanceMethod yX7_isWhole : Cond) ∈ gw_tbl := gw_in (by decide +kernel) (by decide +kernel)
theorem kw_79 : (.selects RX7 yX7_isWhole yX7_isWhole : Cond) ∈ gw_tbl := gw_in (by decide +kernel) (by decide +kernel)

set_option maxHeartbeats 4000000 in
set_option maxRecDepth 100000 in
theorem x_question (l : Launch) (D : va_G) (x0 : Nat) (pg : Nat) (rd : Nat) (aq : Nat) (py : Nat) (pl : Nat) (ch : Nat) (ro : Nat) (rw : Nat) (rc : Nat) (cd : Nat) (sz : Nat) : Met l yX11_question (Cond.code yX11_question cX11_question 2 (some .int) :: gw_tbl) ({ frames := 2, cells := 0, slots := 0, locals := 42 }) (pc_M D [] [(x0, .inr (11, [.ref pg, .ref rd, .ref aq, .ref py, .ref pl, .ref ch, .ref ro, .int 0, .int 0])), (rd, .inr (7, [.ref rw, .ref rc, .int 0, .int 0, .int 0, .int 0, .int 0])), (pg, .inr (2, [.ref cd, .int 0]))] sz [.ref x0]) (va_Qi (fun (r : Int32) (u : Unit) => r = -103) (fun _ _ => True) (va_A [(x0, .inr (11, [.ref pg, .ref rd, .ref aq, .ref py, .ref pl, .ref ch, .ref ro, .int 0, .int 0])), (rd, .inr (7, [.ref rw, .ref rc, .int 0, .int 0, .int 0, .int 0, .int 0])), (pg, .inr (2, [.ref cd, .int 0]))] sz)) 0 0 (va_A [(x0, .inr (11, [.ref pg, .ref rd, .ref aq, .ref py, .ref pl, .ref ch, .ref ro, .int 0, .int 0])), (rd, .inr (7, [.ref rw, .ref rc, .int 0, .int 0, .int 0, .int 0, .int 0])), (pg, .inr (2, [.ref cd, .int 0]))] sz) := by
  refine Met.ofW (cc := cX11_question) (maxL := 2) (ret := (some .int)) (by decide) rfl ?_
  intro p e s m args below meth c s₁ B hml hv
  obtain ⟨hargs, hsz, hP, hK, hD0⟩ := hv
  have hx := B.exec
  have hb := B.bytes
  have hr := B.returns
  have hts := atoms_spec (ws := Cond.code yX11_question cX11_question 2 (some .int) :: gw_tbl) B.pre
  have hg := fun (w : Cond) (h : w ∈ gw_tbl) => hts w (List.mem_cons_of_mem _ h)
  have hown : s.vm.findClass RX11 = some m.cls := findClass_of_methodNamed B.named
  have hlocks := B.notSynchronized
  subst hsz
  have hD := hD0.self (sz := s.heap.size)
  generalize hAe : va_A [(x0, .inr (11, [.ref pg, .ref rd, .ref aq, .ref py, .ref pl, .ref ch, .ref ro, .int 0, .int 0])), (rd, .inr (7, [.ref rw, .ref rc, .int 0, .int 0, .int 0, .int 0, .int 0])), (pg, .inr (2, [.ref cd, .int 0]))] s.heap.size = A at hD ⊢
  have hA : ∀ q : Nat, s.heap.size ≤ q → A q := fun q h => by rw [← hAe]; exact Or.inr h
  have hS : va_S A s.heap s.heap [] := va_S.rf
  have hP : va_P D vwCl [(x0, .inr (11, [.ref pg, .ref rd, .ref aq, .ref py, .ref pl, .ref ch, .ref ro, .int 0, .int 0])), (rd, .inr (7, [.ref rw, .ref rc, .int 0, .int 0, .int 0, .int 0, .int 0])), (pg, .inr (2, [.ref cd, .int 0]))] s.heap := hP
  have hl := lv_entry ([.ref x0]) (n := 2) (Nat.le_of_ble_eq_true rfl)
  rw [show entryFrame m args 2 = F0 m 0 (lg_sl ([.ref x0]) ++ List.replicate (2 - (lg_sl ([.ref x0])).length) Slot.unset).toArray [] from by rw [hargs]; exact lg_entry_eq ..]
  generalize (lg_sl ([.ref x0]) ++ List.replicate (2 - (lg_sl ([.ref x0])).length) Slot.unset).toArray = ls at hl ⊢
  have hl : lv_has ls 2 [(0, .ref x0)] := hl
  refine W_genQ (fun Q hQ => ?_)
  refine lv_aload_n hx hb dX11_question_0 rfl (lv_at hl 0 rfl) ?_
  refine va_get (D := D) (ci := 11) (v := .ref rd) (C := RX11) (T := TX11) (N := 9) hx hb hg gwX11 hown hK hP 0 rfl rfl 1 (by decide) (hg _ kw_71) (fun _ h9 => h9) rfl dX11_question_1 ?_
  refine lv_aload_n hx hb dX11_question_4 rfl (lv_at hl 0 rfl) ?_
  refine va_get (D := D) (ci := 11) (v := .ref pg) (C := RX11) (T := TX11) (N := 9) hx hb hg gwX11 hown hK hP 0 rfl rfl 0 (by decide) (hg _ kw_36) (fun _ h9 => h9) rfl dX11_question_5 ?_
  have hPc := hP.sub (ws' := [(rd, .inr (7, [.ref rw, .ref rc, .int 0, .int 0, .int 0, .int 0, .int 0])), (pg, .inr (2, [.ref cd, .int 0]))]) [1, 2] rfl
  have hKc := hK.sub (tys' := []) [] rfl
  have hDc := hD.sub (ws' := [(rd, .inr (7, [.ref rw, .ref rc, .int 0, .int 0, .int 0, .int 0, .int 0])), (pg, .inr (2, [.ref cd, .int 0]))]) [1, 2] (by decide) rfl
  have hFc := va_free (wc := [(rd, .inr (7, [.ref rw, .ref rc, .int 0, .int 0, .int 0, .int 0, .int 0])), (pg, .inr (2, [.ref cd, .int 0]))]) hD hS hA [1, 2] rfl
  refine va_calli (va_runV (As := [.ref pg]) (rest := []) ⟨hx, hb, hml, hown, hg⟩ (r_readUntilFault l D rd rw rc pg cd _) (cwV 1 hg (gw_V kw_73 kw_74 kw_75 kw_69 kw_72) rfl rfl rfl (by decide +kernel) ⟨Nat.le_of_ble_eq_true rfl, Nat.le_of_ble_eq_true rfl⟩) (pr_MV (q := (RX7, TX7, 7)) 7 0 hKc hPc hDc rfl rfl) rfl rfl hl.1 rfl (lv_room (Nat.le_of_ble_eq_true rfl)) dX11_question_8 ⟨Nat.le_of_ble_eq_true rfl, Nat.le_of_ble_eq_true rfl⟩) hS (fun q _ h => hFc q h) hFc (fun r_8 u t H1 locs ht hvm h_8 hB hz1 hk1 hS => ?_)
  obtain ⟨hP1, hK1, hD1⟩ := hB
  rw [ht] at hP1
  have hK1 := va_K.moved hvm.symm hK1
  obtain ⟨hP, hD⟩ := va_join (wr := [(x0, .inr (11, [.ref pg, .ref rd, .ref aq, .ref py, .ref pl, .ref ch, .ref ro, .int 0, .int 0]))]) (w1 := [(rd, .inr (7, [.ref rw, .ref rc, .int 1, .int 0, .int 0, .int 0, .int 0])), (pg, .inr (2, [.ref cd, .int 0]))]) hP hD [1, 2] [0] rfl rfl (by decide) (by decide) hk1 hFc hP1 hD1
  have hK := hK.app hK1
  generalize H1 = H at hP hS ⊢
  have hP : va_P D vwCl [(x0, .inr (11, [.ref pg, .ref rd, .ref aq, .ref py, .ref pl, .ref ch, .ref ro, .int 0, .int 0])), (rd, .inr (7, [.ref rw, .ref rc, .int 1, .int 0, .int 0, .int 0, .int 0])), (pg, .inr (2, [.ref cd, .int 0]))] H := hP
  have hD : va_D A [(x0, .inr (11, [.ref pg, .ref rd, .ref aq, .ref py, .ref pl, .ref ch, .ref ro, .int 0, .int 0])), (rd, .inr (7, [.ref rw, .ref rc, .int 1, .int 0, .int 0, .int 0, .int 0])), (pg, .inr (2, [.ref cd, .int 0]))] := hD
  have hK : va_K D vwCl [] s := hK
  refine W.cs (cells' := 0) (slots' := 0) rfl rfl ?_
  obtain rfl : r_8 = (0 : Int32) := h_8
  refine lv_istore_n (lv' := [(1, .int 0), (0, .ref x0)]) hx hb dX11_question_11 rfl hl (by decide) rfl (fun ls hl => ?_)
  refine lv_iload_n hx hb dX11_question_12 rfl (lv_at hl 0 rfl) ?_
  refine lv_aload_n hx hb dX11_question_13 rfl (lv_at hl 1 rfl) ?_
  refine va_get (D := D) (ci := 11) (v := .ref pg) (C := RX11) (T := TX11) (N := 9) hx hb hg gwX11 hown hK hP 0 rfl rfl 0 (by decide) (hg _ kw_36) (fun _ h9 => h9) rfl dX11_question_14 ?_
  refine va_get (D := D) (ci := 2) (v := .int 0) (C := RX2) (T := TX2) (N := 2) hx hb hg gwX2 hown hK hP 2 rfl rfl 1 (by decide) (hg _ kw_37) (fun _ h9 => h9) rfl dX11_question_17 ?_
  refine lv_icmp_lt (tgt := 33) hx hb dX11_question_20 (by decide) (fun c_20 => absurd c_20 (by decide)) (fun c_20 => ?_)
  refine lv_aload_n hx hb dX11_question_23 rfl (lv_at hl 1 rfl) ?_
  refine va_get (D := D) (ci := 11) (v := .ref rd) (C := RX11) (T := TX11) (N := 9) hx hb hg gwX11 hown hK hP 0 rfl rfl 1 (by decide) (hg _ kw_71) (fun _ h9 => h9) rfl dX11_question_24 ?_
  have hPc := hP.sub (ws' := [(rd, .inr (7, [.ref rw, .ref rc, .int 1, .int 0, .int 0, .int 0, .int 0]))]) [1] rfl
  have hKc := hK.sub (tys' := []) [] rfl
  refine vp_callSi (W.runV (As := []) (rest := []) ⟨hx, hb, hml, hown, hg⟩ (r_isWhole l D rd rw rc) (cwV 0 hg (gw_V kw_77 kw_78 kw_79 kw_69 kw_76) rfl rfl rfl (by decide +kernel) ⟨Nat.le_of_ble_eq_true rfl, Nat.le_of_ble_eq_true rfl⟩) (pr_SV (q := (RX7, TX7, 7)) 7 0 hKc hPc rfl rfl) rfl rfl hl.1 rfl (lv_room (Nat.le_of_ble_eq_true rfl)) dX11_question_27 ⟨Nat.le_of_ble_eq_true rfl, Nat.le_of_ble_eq_true rfl⟩) (fun r_27 h_27 => ?_)
  obtain rfl : r_27 = (0 : Int32) := h_27
  refine lv_if_ne (tgt := 36) hx hb dX11_question_30 (by decide) (fun c_30 => absurd c_30 (by decide)) (fun c_30 => ?_)
  refine lv_bipush (v := (-103)) hx hb dX11_question_33 (by decide) ?_
  subst hQ
  refine W.widen (k := 0) (n := 0) (Nat.le_of_ble_eq_true rfl) (Nat.le_of_ble_eq_true rfl) ?_
  exact W.iret (v := (-103)) hx hb hr (fun t ht hW => ⟨⟨(-103), (), rfl, rfl, trivial⟩, hS.F ht⟩) hS.2.2 dX11_question_35

theorem dX2_codeAt_0 : decode cX2_codeAt 0 = .ok (.lload_n 0, 1) := by decide +kernel
theorem dX2_codeAt_1 : decode cX2_codeAt 1 = .ok (.bipush 8, 2) := by decide +kernel
theorem dX2_codeAt_3 : decode cX2_codeAt 3 = .ok (.iload_n 2, 1) := by decide +kernel
theorem dX2_codeAt_4 : decode cX2_codeAt 4 = .ok (.imul, 1) := by decide +kernel
theorem dX2_codeAt_5 : decode cX2_codeAt 5 = .ok (.lushr, 1) := by decide +kernel
theorem dX2_codeAt_6 : decode cX2_codeAt 6 = .ok (.l2i, 1) := by decide +kernel
theorem dX2_codeAt_7 : decode cX2_codeAt 7 = .ok (.sipush 255, 3) := by decide +kernel
theorem dX2_codeAt_10 : decode cX2_codeAt 10 = .ok (.iand, 1) := by decide +kernel
theorem dX2_codeAt_11 : decode cX2_codeAt 11 = .ok (.ireturn, 1) := by decide +kernel

set_option maxHeartbeats 4000000 in
set_option maxRecDepth 100000 in
theorem g_codeAt (l : Launch) (n0 : Nat) (hn0 : n0 < 2 ^ 64) (k : Nat) (hk : k < 8) : Met l yX2_codeAt (Cond.code yX2_codeAt cX2_codeAt 3 (some .int) :: gw_tbl) ({ frames := 0, cells := 0, slots := 0, locals := 0 }) (pc_0 [.long (lN n0), .int (nI k)]) (vp_Si (fun r => r = by8 n0 k)) 0 0 (fun _ => False) := by
  refine Met.ofW (cc := cX2_codeAt) (maxL := 3) (ret := (some .int)) (by decide) rfl ?_
  intro p e s m args below meth c s₁ B hml hv
  obtain ⟨hargs, -⟩ := hv
  have hx := B.exec
  have hb := B.bytes
  have hr := B.returns
  have hts := atoms_spec (ws := Cond.code yX2_codeAt cX2_codeAt 3 (some .int) :: gw_tbl) B.pre
  have hg := fun (w : Cond) (h : w ∈ gw_tbl) => hts w (List.mem_cons_of_mem _ h)
  have hown : s.vm.findClass RX2 = some m.cls := findClass_of_methodNamed B.named
  have hlocks := B.notSynchronized
  have hl := lv_entry ([.long (lN n0), .int (nI k)]) (n := 3) (Nat.le_of_ble_eq_true rfl)
  rw [show entryFrame m args 3 = F0 m 0 (lg_sl ([.long (lN n0), .int (nI k)]) ++ List.replicate (3 - (lg_sl ([.long (lN n0), .int (nI k)])).length) Slot.unset).toArray [] from by rw [hargs]; exact lg_entry_eq ..]
  generalize (lg_sl ([.long (lN n0), .int (nI k)]) ++ List.replicate (3 - (lg_sl ([.long (lN n0), .int (nI k)])).length) Slot.unset).toArray = ls at hl ⊢
  have hl : lv_has ls 3 [(0, .long (lN n0)), (2, .int (nI k))] := hl
  refine W_genQ (fun Q hQ => ?_)
  refine lv_lload_n hx hb dX2_codeAt_0 rfl (lv_at hl 0 rfl) ?_
  refine lv_bipush (v := 8) hx hb dX2_codeAt_1 (by decide) ?_
  refine lv_iload_n hx hb dX2_codeAt_3 rfl (lv_at hl 1 rfl) ?_
  refine lv_imul hx hb dX2_codeAt_4 ?_
  refine lv_topi (fun z_4 e_4 => ?_)
  refine lv_lushr hx hb dX2_codeAt_5 rfl ?_
  refine lv_topl (fun z_5 e_5 => ?_)
  refine lv_l2i hx hb dX2_codeAt_6 rfl ?_
  refine lv_topi (fun z_6 e_6 => ?_)
  refine lv_sipush (v := 255) hx hb dX2_codeAt_7 (by decide) ?_
  refine lv_iand hx hb dX2_codeAt_10 ?_
  refine lv_topi (fun z_10 e_10 => ?_)
  subst hQ
  exact W.iret (v := z_10) hx hb hr (fun t ht hW => ⟨z_10, rfl, (ca_eq hn0 hk e_4 e_5 e_6 e_10), ht⟩) (fun _ h => absurd h List.not_mem_nil) dX2_codeAt_11

theorem dX2_toldBy_0 : decode cX2_toldBy 0 = .ok (.iconst 0, 1) := by decide +kernel
theorem dX2_toldBy_1 : decode cX2_toldBy 1 = .ok (.istore_n 2, 1) := by decide +kernel
theorem dX2_toldBy_2 : decode cX2_toldBy 2 = .ok (.iconst 0, 1) := by decide +kernel
theorem dX2_toldBy_3 : decode cX2_toldBy 3 = .ok (.istore_n 3, 1) := by decide +kernel
theorem dX2_toldBy_4 : decode cX2_toldBy 4 = .ok (.iconst 0, 1) := by decide +kernel
theorem dX2_toldBy_5 : decode cX2_toldBy 5 = .ok (.istore 4, 2) := by decide +kernel
theorem dX2_toldBy_7 : decode cX2_toldBy 7 = .ok (.iload 4, 2) := by decide +kernel
theorem dX2_toldBy_9 : decode cX2_toldBy 9 = .ok (.bipush 8, 2) := by decide +kernel
theorem dX2_toldBy_11 : decode cX2_toldBy 11 = .ok (.if_icmp .ge 48, 3) := by decide +kernel
theorem dX2_toldBy_14 : decode cX2_toldBy 14 = .ok (.lload_n 0, 1) := by decide +kernel
theorem dX2_toldBy_15 : decode cX2_toldBy 15 = .ok (.iload 4, 2) := by decide +kernel
theorem dX2_toldBy_17 : decode cX2_toldBy 17 = .ok (.invokestatic 15, 3) := by decide +kernel
theorem dX2_toldBy_20 : decode cX2_toldBy 20 = .ok (.istore 5, 2) := by decide +kernel
theorem dX2_toldBy_22 : decode cX2_toldBy 22 = .ok (.iload 5, 2) := by decide +kernel
theorem dX2_toldBy_24 : decode cX2_toldBy 24 = .ok (.bipush 126, 2) := by decide +kernel
theorem dX2_toldBy_26 : decode cX2_toldBy 26 = .ok (.if_icmp .gt 12, 3) := by decide +kernel
theorem dX2_toldBy_29 : decode cX2_toldBy 29 = .ok (.iload_n 3, 1) := by decide +kernel
theorem dX2_toldBy_30 : decode cX2_toldBy 30 = .ok (.ifCond .eq 10, 3) := by decide +kernel
theorem dX2_toldBy_33 : decode cX2_toldBy 33 = .ok (.iload 5, 2) := by decide +kernel
theorem dX2_toldBy_35 : decode cX2_toldBy 35 = .ok (.ifCond .eq 5, 3) := by decide +kernel
theorem dX2_toldBy_38 : decode cX2_toldBy 38 = .ok (.iconst (-1), 1) := by decide +kernel
theorem dX2_toldBy_39 : decode cX2_toldBy 39 = .ok (.ireturn, 1) := by decide +kernel
theorem dX2_toldBy_40 : decode cX2_toldBy 40 = .ok (.iload 5, 2) := by decide +kernel
theorem dX2_toldBy_42 : decode cX2_toldBy 42 = .ok (.ifCond .ne 8, 3) := by decide +kernel
theorem dX2_toldBy_45 : decode cX2_toldBy 45 = .ok (.iconst 1, 1) := by decide +kernel
theorem dX2_toldBy_46 : decode cX2_toldBy 46 = .ok (.istore_n 3, 1) := by decide +kernel
theorem dX2_toldBy_47 : decode cX2_toldBy 47 = .ok (.goto 6, 3) := by decide +kernel
theorem dX2_toldBy_50 : decode cX2_toldBy 50 = .ok (.iinc 2 1, 3) := by decide +kernel
theorem dX2_toldBy_53 : decode cX2_toldBy 53 = .ok (.iinc 4 1, 3) := by decide +kernel
theorem dX2_toldBy_56 : decode cX2_toldBy 56 = .ok (.goto (-49), 3) := by decide +kernel
theorem dX2_toldBy_59 : decode cX2_toldBy 59 = .ok (.iload_n 2, 1) := by decide +kernel
theorem dX2_toldBy_60 : decode cX2_toldBy 60 = .ok (.ireturn, 1) := by decide +kernel
theorem kw_80 : (.code yX2_codeAt cX2_codeAt 3 (some .int) : Cond) ∈ gw_tbl := gw_in (by decide +kernel) (by decide +kernel)
theorem kw_81 : (.methodLink RX2 15 yX2_codeAt : Cond) ∈ gw_tbl := gw_in (by decide +kernel) (by decide +kernel)
theorem kw_82 : (.static yX2_codeAt : Cond) ∈ gw_tbl := gw_in (by decide +kernel) (by decide +kernel)
theorem kw_83 : (.initialized RX2 : Cond) ∈ gw_tbl := gw_in (by decide +kernel) (by decide +kernel)

set_option maxHeartbeats 4000000 in
set_option maxRecDepth 100000 in
theorem g_toldBy (l : Launch) (n0 : Nat) (hn0 : n0 < 2 ^ 64) : Met l yX2_toldBy (Cond.code yX2_toldBy cX2_toldBy 6 (some .int) :: gw_tbl) ({ frames := 1, cells := 0, slots := 0, locals := 22 }) (pc_0 [.long (lN n0)]) (vp_Si (fun r => r = sp_told n0)) 0 0 (fun _ => False) := by
  refine Met.ofW (cc := cX2_toldBy) (maxL := 6) (ret := (some .int)) (by decide) rfl ?_
  intro p e s m args below meth c s₁ B hml hv
  obtain ⟨hargs, -⟩ := hv
  have hx := B.exec
  have hb := B.bytes
  have hr := B.returns
  have hts := atoms_spec (ws := Cond.code yX2_toldBy cX2_toldBy 6 (some .int) :: gw_tbl) B.pre
  have hg := fun (w : Cond) (h : w ∈ gw_tbl) => hts w (List.mem_cons_of_mem _ h)
  have hown : s.vm.findClass RX2 = some m.cls := findClass_of_methodNamed B.named
  have hlocks := B.notSynchronized
  have hl := lv_entry ([.long (lN n0)]) (n := 6) (Nat.le_of_ble_eq_true rfl)
  rw [show entryFrame m args 6 = F0 m 0 (lg_sl ([.long (lN n0)]) ++ List.replicate (6 - (lg_sl ([.long (lN n0)])).length) Slot.unset).toArray [] from by rw [hargs]; exact lg_entry_eq ..]
  generalize (lg_sl ([.long (lN n0)]) ++ List.replicate (6 - (lg_sl ([.long (lN n0)])).length) Slot.unset).toArray = ls at hl ⊢
  have hl : lv_has ls 6 [(0, .long (lN n0))] := hl
  refine W_genQ (fun Q hQ => ?_)
  refine lv_iconst (v := 0) hx hb dX2_toldBy_0 (by decide) ?_
  refine lv_istore_n (lv' := [(2, .int 0), (0, .long (lN n0))]) hx hb dX2_toldBy_1 rfl hl (by decide) rfl (fun ls hl => ?_)
  refine lv_iconst (v := 0) hx hb dX2_toldBy_2 (by decide) ?_
  refine lv_istore_n (lv' := [(3, .int 0), (2, .int 0), (0, .long (lN n0))]) hx hb dX2_toldBy_3 rfl hl (by decide) rfl (fun ls hl => ?_)
  refine lv_iconst (v := 0) hx hb dX2_toldBy_4 (by decide) ?_
  refine lv_istore (lv' := [(4, .int 0), (3, .int 0), (2, .int 0), (0, .long (lN n0))]) hx hb dX2_toldBy_5 hl (by decide) rfl (fun ls hl => ?_)
  have LOOP7 : ∀ (n : Nat) (k : Nat) (told : Int32) (en : Int32), k ≤ 8 → 9 ≤ k + n → tb_go n0 (8 - k) k told en = sp_told n0 → ∀ (ls : Array Slot), lv_has ls 6 [(4, .int (nI k)), (3, .int en), (2, .int told), (0, .long (lN n0))] → W p l e ({ frames := 1, cells := 0, slots := 0, locals := 22 } : Room) s m args below meth c s.heap [] 0 0 Q (F0 m 7 ls []) := by
    intro n
    induction n with
    | zero =>
      intro k told en hk hn hI ls hl
      exact absurd hn (by omega)
    | succ n ih7 =>
      intro k told en hk hn hI ls hl
      refine lv_iload hx hb dX2_toldBy_7 (lv_at hl 0 rfl) ?_
      refine lv_bipush (v := 8) hx hb dX2_toldBy_9 (by decide) ?_
      refine lv_icmp_ge (tgt := 59) hx hb dX2_toldBy_11 (by decide) (fun c_11 => ?_) (fun c_11 => ?_)
      · refine lv_iload_n hx hb dX2_toldBy_59 rfl (lv_at hl 2 rfl) ?_
        rw [tb_e (show ¬ k < 8 from fun q => absurd c_11 (nI_ge (b := 8) q (by decide)))] at hI
        subst hQ
        exact W.iret (v := told) hx hb hr (fun t ht hW => ⟨told, rfl, hI, ht⟩) (fun _ h => absurd h List.not_mem_nil) dX2_toldBy_60
      · have hk8 : k < 8 := by
          rcases Nat.lt_or_ge k 8 with q | q
          · exact q
          · exact absurd (show (8 : Int32) ≤ nI k from nI_le (a := 8) q (by omega)) c_11
        refine lv_lload_n hx hb dX2_toldBy_14 rfl (lv_at hl 3 rfl) ?_
        refine lv_iload hx hb dX2_toldBy_15 (lv_at hl 0 rfl) ?_
        refine vp_callSi (W.runS (As := [.long (lN n0), .int (nI k)]) (rest := []) ⟨hx, hb, hml, hown, hg⟩ (g_codeAt l n0 hn0 k hk8) (va_cwS 2 hg (gw_S kw_81 kw_82 kw_83 kw_80) rfl rfl rfl (by decide +kernel) ⟨Nat.le_of_ble_eq_true rfl, Nat.le_of_ble_eq_true rfl⟩) pr_0 rfl rfl hl.1 rfl (lv_room (Nat.le_of_ble_eq_true rfl)) dX2_toldBy_17 ⟨Nat.le_of_ble_eq_true rfl, Nat.le_of_ble_eq_true rfl⟩) (fun r_17 h_17 => ?_)
        try dsimp only at h_17
        refine lv_istore (lv' := [(5, .int r_17), (4, .int (nI k)), (3, .int en), (2, .int told), (0, .long (lN n0))]) hx hb dX2_toldBy_20 hl (by decide) rfl (fun ls hl => ?_)
        refine lv_iload hx hb dX2_toldBy_22 (lv_at hl 0 rfl) ?_
        refine lv_bipush (v := 126) hx hb dX2_toldBy_24 (by decide) ?_
        refine lv_icmp_gt (tgt := 38) hx hb dX2_toldBy_26 (by decide) (fun c_26 => ?_) (fun c_26 => ?_)
        · refine lv_iconst (v := (-1)) hx hb dX2_toldBy_38 (by decide) ?_
          rw [tb_x hk8] at hI
          rw [if_pos (Or.inl (show 126 < by8 n0 k from h_17 ▸ c_26))] at hI
          subst hQ
          exact W.iret (v := (-1)) hx hb hr (fun t ht hW => ⟨(-1), rfl, hI, ht⟩) (fun _ h => absurd h List.not_mem_nil) dX2_toldBy_39
        · refine lv_iload_n hx hb dX2_toldBy_29 rfl (lv_at hl 2 rfl) ?_
          refine lv_if_eq (tgt := 40) hx hb dX2_toldBy_30 (by decide) (fun c_30 => ?_) (fun c_30 => ?_)
          · refine lv_iload hx hb dX2_toldBy_40 (lv_at hl 0 rfl) ?_
            refine lv_if_ne (tgt := 50) hx hb dX2_toldBy_42 (by decide) (fun c_42 => ?_) (fun c_42 => ?_)
            · obtain ⟨z_50, e_50⟩ : ∃ y : Int32, y = told + 1 := ⟨_, rfl⟩
              refine lv_iinc (v := z_50) (lv' := [(2, .int z_50), (5, .int r_17), (4, .int (nI k)), (3, .int en), (0, .long (lN n0))]) hx hb dX2_toldBy_50 hl (k := 3) rfl (by rw [e_50]; rfl) (by decide) rfl (fun ls hl => ?_)
              obtain ⟨z_53, e_53⟩ : ∃ y : Int32, y = (nI k) + 1 := ⟨_, rfl⟩
              refine lv_iinc (v := z_53) (lv' := [(4, .int z_53), (2, .int z_50), (5, .int r_17), (3, .int en), (0, .long (lN n0))]) hx hb dX2_toldBy_53 hl (k := 2) rfl (by rw [e_53]; rfl) (by decide) rfl (fun ls hl => ?_)
              refine lv_goto (tgt := 7) hx hb dX2_toldBy_56 (by decide) ?_
              obtain rfl : z_53 = nI (k + 1) := e_53.trans (nI_1 k)
              rw [tb_x hk8] at hI
              have hnr : ¬ (126 < by8 n0 k ∨ (¬ en = 0 ∧ ¬ by8 n0 k = 0)) := by
                rintro (q | q); · exact c_26 (h_17 ▸ q)
                · exact q.1 c_30
              rw [if_neg hnr] at hI
              rw [if_neg (show ¬ by8 n0 k = 0 from h_17 ▸ c_42)] at hI
              exact ih7 (k + 1) z_50 en (by omega) (by omega) (by rw [e_50]; exact hI) ls (lv_sub hl [0, 3, 1, 4] rfl)
            · refine lv_iconst (v := 1) hx hb dX2_toldBy_45 (by decide) ?_
              refine lv_istore_n (lv' := [(3, .int 1), (5, .int r_17), (4, .int (nI k)), (2, .int told), (0, .long (lN n0))]) hx hb dX2_toldBy_46 rfl hl (by decide) rfl (fun ls hl => ?_)
              refine lv_goto (tgt := 53) hx hb dX2_toldBy_47 (by decide) ?_
              obtain ⟨z_53, e_53⟩ : ∃ y : Int32, y = (nI k) + 1 := ⟨_, rfl⟩
              refine lv_iinc (v := z_53) (lv' := [(4, .int z_53), (3, .int 1), (5, .int r_17), (2, .int told), (0, .long (lN n0))]) hx hb dX2_toldBy_53 hl (k := 2) rfl (by rw [e_53]; rfl) (by decide) rfl (fun ls hl => ?_)
              refine lv_goto (tgt := 7) hx hb dX2_toldBy_56 (by decide) ?_
              obtain rfl : z_53 = nI (k + 1) := e_53.trans (nI_1 k)
              rw [tb_x hk8] at hI
              have hnr : ¬ (126 < by8 n0 k ∨ (¬ en = 0 ∧ ¬ by8 n0 k = 0)) := by
                rintro (q | q); · exact c_26 (h_17 ▸ q)
                · exact q.1 c_30
              rw [if_neg hnr] at hI
              rw [if_pos (show by8 n0 k = 0 from h_17 ▸ c_42)] at hI
              exact ih7 (k + 1) told 1 (by omega) (by omega) hI ls (lv_sub hl [0, 1, 3, 4] rfl)
          · refine lv_iload hx hb dX2_toldBy_33 (lv_at hl 0 rfl) ?_
            refine lv_if_eq (tgt := 40) hx hb dX2_toldBy_35 (by decide) (fun c_35 => ?_) (fun c_35 => ?_)
            · refine lv_iload hx hb dX2_toldBy_40 (lv_at hl 0 rfl) ?_
              refine lv_if_ne (tgt := 50) hx hb dX2_toldBy_42 (by decide) (fun c_42 => ?_) (fun c_42 => ?_)
              · obtain ⟨z_50, e_50⟩ : ∃ y : Int32, y = told + 1 := ⟨_, rfl⟩
                refine lv_iinc (v := z_50) (lv' := [(2, .int z_50), (5, .int r_17), (4, .int (nI k)), (3, .int en), (0, .long (lN n0))]) hx hb dX2_toldBy_50 hl (k := 3) rfl (by rw [e_50]; rfl) (by decide) rfl (fun ls hl => ?_)
                obtain ⟨z_53, e_53⟩ : ∃ y : Int32, y = (nI k) + 1 := ⟨_, rfl⟩
                refine lv_iinc (v := z_53) (lv' := [(4, .int z_53), (2, .int z_50), (5, .int r_17), (3, .int en), (0, .long (lN n0))]) hx hb dX2_toldBy_53 hl (k := 2) rfl (by rw [e_53]; rfl) (by decide) rfl (fun ls hl => ?_)
                refine lv_goto (tgt := 7) hx hb dX2_toldBy_56 (by decide) ?_
                obtain rfl : z_53 = nI (k + 1) := e_53.trans (nI_1 k)
                rw [tb_x hk8] at hI
                have hnr : ¬ (126 < by8 n0 k ∨ (¬ en = 0 ∧ ¬ by8 n0 k = 0)) := by
                  rintro (q | q); · exact c_26 (h_17 ▸ q)
                  · exact q.2 (h_17 ▸ c_35)
                rw [if_neg hnr] at hI
                rw [if_neg (show ¬ by8 n0 k = 0 from h_17 ▸ c_42)] at hI
                exact ih7 (k + 1) z_50 en (by omega) (by omega) (by rw [e_50]; exact hI) ls (lv_sub hl [0, 3, 1, 4] rfl)
              · refine lv_iconst (v := 1) hx hb dX2_toldBy_45 (by decide) ?_
                refine lv_istore_n (lv' := [(3, .int 1), (5, .int r_17), (4, .int (nI k)), (2, .int told), (0, .long (lN n0))]) hx hb dX2_toldBy_46 rfl hl (by decide) rfl (fun ls hl => ?_)
                refine lv_goto (tgt := 53) hx hb dX2_toldBy_47 (by decide) ?_
                obtain ⟨z_53, e_53⟩ : ∃ y : Int32, y = (nI k) + 1 := ⟨_, rfl⟩
                refine lv_iinc (v := z_53) (lv' := [(4, .int z_53), (3, .int 1), (5, .int r_17), (2, .int told), (0, .long (lN n0))]) hx hb dX2_toldBy_53 hl (k := 2) rfl (by rw [e_53]; rfl) (by decide) rfl (fun ls hl => ?_)
                refine lv_goto (tgt := 7) hx hb dX2_toldBy_56 (by decide) ?_
                obtain rfl : z_53 = nI (k + 1) := e_53.trans (nI_1 k)
                rw [tb_x hk8] at hI
                have hnr : ¬ (126 < by8 n0 k ∨ (¬ en = 0 ∧ ¬ by8 n0 k = 0)) := by
                  rintro (q | q); · exact c_26 (h_17 ▸ q)
                  · exact q.2 (h_17 ▸ c_35)
                rw [if_neg hnr] at hI
                rw [if_pos (show by8 n0 k = 0 from h_17 ▸ c_42)] at hI
                exact ih7 (k + 1) told 1 (by omega) (by omega) hI ls (lv_sub hl [0, 1, 3, 4] rfl)
            · refine lv_iconst (v := (-1)) hx hb dX2_toldBy_38 (by decide) ?_
              rw [tb_x hk8] at hI
              rw [if_pos (Or.inr ⟨c_30, show ¬ by8 n0 k = 0 from h_17 ▸ c_35⟩)] at hI
              subst hQ
              exact W.iret (v := (-1)) hx hb hr (fun t ht hW => ⟨(-1), rfl, hI, ht⟩) (fun _ h => absurd h List.not_mem_nil) dX2_toldBy_39
  exact LOOP7 9 0 0 0 (by omega) (by omega) rfl ls (lv_sub hl [0, 1, 2, 3] rfl)

theorem dX2_append_0 : decode cX2_append 0 = .ok (.iconst 0, 1) := by decide +kernel
theorem dX2_append_1 : decode cX2_append 1 = .ok (.istore 4, 2) := by decide +kernel
theorem dX2_append_3 : decode cX2_append 3 = .ok (.iload 4, 2) := by decide +kernel
theorem dX2_append_5 : decode cX2_append 5 = .ok (.iload_n 3, 1) := by decide +kernel
theorem dX2_append_6 : decode cX2_append 6 = .ok (.if_icmp .ge 43, 3) := by decide +kernel
theorem dX2_append_9 : decode cX2_append 9 = .ok (.aload_n 0, 1) := by decide +kernel
theorem dX2_append_10 : decode cX2_append 10 = .ok (.getfield 19, 3) := by decide +kernel
theorem dX2_append_13 : decode cX2_append 13 = .ok (.bipush 90, 2) := by decide +kernel
theorem dX2_append_15 : decode cX2_append 15 = .ok (.if_icmp .ge 34, 3) := by decide +kernel
theorem dX2_append_18 : decode cX2_append 18 = .ok (.aload_n 0, 1) := by decide +kernel
theorem dX2_append_19 : decode cX2_append 19 = .ok (.getfield 9, 3) := by decide +kernel
theorem dX2_append_22 : decode cX2_append 22 = .ok (.aload_n 0, 1) := by decide +kernel
theorem dX2_append_23 : decode cX2_append 23 = .ok (.getfield 19, 3) := by decide +kernel
theorem dX2_append_26 : decode cX2_append 26 = .ok (.lload_n 1, 1) := by decide +kernel
theorem dX2_append_27 : decode cX2_append 27 = .ok (.iload 4, 2) := by decide +kernel
theorem dX2_append_29 : decode cX2_append 29 = .ok (.invokestatic 15, 3) := by decide +kernel
theorem dX2_append_32 : decode cX2_append 32 = .ok (.iastore, 1) := by decide +kernel
theorem dX2_append_33 : decode cX2_append 33 = .ok (.aload_n 0, 1) := by decide +kernel
theorem dX2_append_34 : decode cX2_append 34 = .ok (.dup, 1) := by decide +kernel
theorem dX2_append_35 : decode cX2_append 35 = .ok (.getfield 19, 3) := by decide +kernel
theorem dX2_append_38 : decode cX2_append 38 = .ok (.iconst 1, 1) := by decide +kernel
theorem dX2_append_39 : decode cX2_append 39 = .ok (.iadd, 1) := by decide +kernel
theorem dX2_append_40 : decode cX2_append 40 = .ok (.putfield 19, 3) := by decide +kernel
theorem dX2_append_43 : decode cX2_append 43 = .ok (.iinc 4 1, 3) := by decide +kernel
theorem dX2_append_46 : decode cX2_append 46 = .ok (.goto (-43), 3) := by decide +kernel
theorem dX2_append_49 : decode cX2_append 49 = .ok (.return_, 1) := by decide +kernel
theorem kw_84 : (.fieldLink RX2 19 "NobodyChecks$Page" "size" "I" : Cond) ∈ gw_tbl := gw_in (by decide +kernel) (by decide +kernel)
theorem kw_85 : (.fieldLink RX2 9 "NobodyChecks$Page" "codes" "[I" : Cond) ∈ gw_tbl := gw_in (by decide +kernel) (by decide +kernel)

set_option maxHeartbeats 4000000 in
set_option maxRecDepth 100000 in
theorem g_append (l : Launch) (D : va_G) (pg : Nat) (cd : Nat) (cI : ClassId) (cf : Nat → Int32) (n0 : Nat) (hn0 : n0 < 2 ^ 64) (tt : Nat) (ht8 : tt ≤ 8) (sz : Nat) : Met l yX2_append (Cond.code yX2_append cX2_append 5 none :: gw_tbl) ({ frames := 1, cells := 0, slots := 0, locals := 22 }) (pc_M D [(cI, .int)] [(pg, .inr (2, [.ref cd, .int 0])), (cd, .inl (cI, 90, .inl cf))] sz [.ref pg, .long (lN n0), .int (nI tt)]) (va_Qv (fun (u : Unit) => True) (fun _ t => va_P D vwCl [(pg, .inr (2, [.ref cd, .int (nI tt)]))] t.heap ∧ va_K D vwCl [] t ∧ va_D (va_A [(pg, .inr (2, [.ref cd, .int 0])), (cd, .inl (cI, 90, .inl cf))] sz) [(pg, .inr (2, [.ref cd, .int (nI tt)]))]) (va_A [(pg, .inr (2, [.ref cd, .int 0])), (cd, .inl (cI, 90, .inl cf))] sz)) 0 0 (va_A [(pg, .inr (2, [.ref cd, .int 0])), (cd, .inl (cI, 90, .inl cf))] sz) := by
  refine Met.ofW (cc := cX2_append) (maxL := 5) (ret := none) (by decide) rfl ?_
  intro p e s m args below meth c s₁ B hml hv
  obtain ⟨hargs, hsz, hP, hK, hD0⟩ := hv
  have hx := B.exec
  have hb := B.bytes
  have hr := B.returns
  have hts := atoms_spec (ws := Cond.code yX2_append cX2_append 5 none :: gw_tbl) B.pre
  have hg := fun (w : Cond) (h : w ∈ gw_tbl) => hts w (List.mem_cons_of_mem _ h)
  have hown : s.vm.findClass RX2 = some m.cls := findClass_of_methodNamed B.named
  have hlocks := B.notSynchronized
  subst hsz
  have hD := hD0.self (sz := s.heap.size)
  generalize hAe : va_A [(pg, .inr (2, [.ref cd, .int 0])), (cd, .inl (cI, 90, .inl cf))] s.heap.size = A at hD ⊢
  have hA : ∀ q : Nat, s.heap.size ≤ q → A q := fun q h => by rw [← hAe]; exact Or.inr h
  have hS : va_S A s.heap s.heap [] := va_S.rf
  have hP : va_P D vwCl [(pg, .inr (2, [.ref cd, .int 0])), (cd, .inl (cI, 90, .inl cf))] s.heap := hP
  have hl := lv_entry ([.ref pg, .long (lN n0), .int (nI tt)]) (n := 5) (Nat.le_of_ble_eq_true rfl)
  rw [show entryFrame m args 5 = F0 m 0 (lg_sl ([.ref pg, .long (lN n0), .int (nI tt)]) ++ List.replicate (5 - (lg_sl ([.ref pg, .long (lN n0), .int (nI tt)])).length) Slot.unset).toArray [] from by rw [hargs]; exact lg_entry_eq ..]
  generalize (lg_sl ([.ref pg, .long (lN n0), .int (nI tt)]) ++ List.replicate (5 - (lg_sl ([.ref pg, .long (lN n0), .int (nI tt)])).length) Slot.unset).toArray = ls at hl ⊢
  have hl : lv_has ls 5 [(0, .ref pg), (1, .long (lN n0)), (3, .int (nI tt))] := hl
  refine W_genQ (fun Q hQ => ?_)
  refine lv_iconst (v := 0) hx hb dX2_append_0 (by decide) ?_
  refine lv_istore (lv' := [(4, .int 0), (0, .ref pg), (1, .long (lN n0)), (3, .int (nI tt))]) hx hb dX2_append_1 hl (by decide) rfl (fun ls hl => ?_)
  have LOOP3 : ∀ (n : Nat) (j : Nat) (cf : Nat → Int32), j ≤ tt → tt + 1 ≤ j + n → ∀ (H : Heap) (locs : List Loc) (ls : Array Slot), va_P D vwCl [(pg, .inr (2, [.ref cd, .int (nI j)])), (cd, .inl (cI, 90, .inl cf))] H → va_D A [(pg, .inr (2, [.ref cd, .int (nI j)])), (cd, .inl (cI, 90, .inl cf))] → va_S A s.heap H locs → lv_has ls 5 [(4, .int (nI j)), (0, .ref pg), (1, .long (lN n0)), (3, .int (nI tt))] → W p l e ({ frames := 1, cells := 0, slots := 0, locals := 22 } : Room) s m args below meth c H locs 0 0 Q (F0 m 3 ls []) := by
    intro n
    induction n with
    | zero =>
      intro j cf hj hn H locs ls hP hD hS hl
      exact absurd hn (by omega)
    | succ n ih3 =>
      intro j cf hj hn H locs ls hP hD hS hl
      refine lv_iload hx hb dX2_append_3 (lv_at hl 0 rfl) ?_
      refine lv_iload_n hx hb dX2_append_5 rfl (lv_at hl 3 rfl) ?_
      refine lv_icmp_ge (tgt := 49) hx hb dX2_append_6 (by decide) (fun c_6 => ?_) (fun c_6 => ?_)
      · have hjt : tt = j := by
          rcases Nat.lt_or_ge j tt with q | q
          · exact absurd c_6 (nI_ge q (by omega))
          · omega
        subst hjt
        subst hQ
        refine W.widen (k := 0) (n := 0) (Nat.le_of_ble_eq_true rfl) (Nat.le_of_ble_eq_true rfl) ?_
        have hP9 := hP.sub (ws' := [(pg, .inr (2, [.ref cd, .int (nI tt)]))]) [0] rfl
        have hD9 := hD.sub (ws' := [(pg, .inr (2, [.ref cd, .int (nI tt)]))]) [0] (by decide) rfl
        have hK9 := hK.sub (tys' := []) [] rfl
        exact W.vret hx hb hr (fun t ht hW => ⟨⟨(), rfl, trivial, ⟨by rw [ht]; exact hP9, va_K.moved hW.alike hK9, hD9⟩⟩, hS.F ht⟩) hS.2.2 dX2_append_49
      · have hjt : j < tt := by
          rcases Nat.lt_or_ge j tt with q | q
          · exact q
          · exact absurd (nI_le q (by omega)) c_6
        refine lv_aload_n hx hb dX2_append_9 rfl (lv_at hl 1 rfl) ?_
        refine va_get (D := D) (ci := 2) (v := .int (nI j)) (C := RX2) (T := TX2) (N := 2) hx hb hg gwX2 hown hK hP 0 rfl rfl 1 (by decide) (hg _ kw_84) (fun _ h9 => h9) rfl dX2_append_10 ?_
        refine lv_bipush (v := 90) hx hb dX2_append_13 (by decide) ?_
        refine lv_icmp_ge (tgt := 49) hx hb dX2_append_15 (by decide) (fun c_15 => absurd c_15 (nI_ge (b := 90) (show j < 90 by omega) (by decide))) (fun c_15 => ?_)
        refine lv_aload_n hx hb dX2_append_18 rfl (lv_at hl 1 rfl) ?_
        refine va_get (D := D) (ci := 2) (v := .ref cd) (C := RX2) (T := TX2) (N := 2) hx hb hg gwX2 hown hK hP 0 rfl rfl 0 (by decide) (hg _ kw_85) (fun _ h9 => h9) rfl dX2_append_19 ?_
        refine lv_aload_n hx hb dX2_append_22 rfl (lv_at hl 1 rfl) ?_
        refine va_get (D := D) (ci := 2) (v := .int (nI j)) (C := RX2) (T := TX2) (N := 2) hx hb hg gwX2 hown hK hP 0 rfl rfl 1 (by decide) (hg _ kw_84) (fun _ h9 => h9) rfl dX2_append_23 ?_
        refine lv_lload_n hx hb dX2_append_26 rfl (lv_at hl 2 rfl) ?_
        refine lv_iload hx hb dX2_append_27 (lv_at hl 0 rfl) ?_
        refine vp_callSi (W.runS (As := [.long (lN n0), .int (nI j)]) (rest := [.int (nI j), .ref cd]) ⟨hx, hb, hml, hown, hg⟩ (g_codeAt l n0 hn0 j (by omega)) (va_cwS 2 hg (gw_S kw_81 kw_82 kw_83 kw_80) rfl rfl rfl (by decide +kernel) ⟨Nat.le_of_ble_eq_true rfl, Nat.le_of_ble_eq_true rfl⟩) pr_0 rfl rfl hl.1 rfl (lv_room (Nat.le_of_ble_eq_true rfl)) dX2_append_29 ⟨Nat.le_of_ble_eq_true rfl, Nat.le_of_ble_eq_true rfl⟩) (fun r_29 h_29 => ?_)
        try dsimp only at h_29
        refine va_iast hx hb hK hP hD hS 1 0 rfl rfl (vp_in_nI (show j < 90 by omega) (by decide)) dX2_append_32 (fun H locs hP hD hS => ?_)
        generalize (upd cf (nI j).toNatClampNeg r_29) = f_32 at hP hD
        have hP : va_P D vwCl [(pg, .inr (2, [.ref cd, .int (nI j)])), (cd, .inl (cI, 90, .inl f_32))] H := hP
        have hD : va_D A [(pg, .inr (2, [.ref cd, .int (nI j)])), (cd, .inl (cI, 90, .inl f_32))] := hD
        refine lv_aload_n hx hb dX2_append_33 rfl (lv_at hl 1 rfl) ?_
        refine lv_dup hx hb dX2_append_34 rfl ?_
        refine va_get (D := D) (ci := 2) (v := .int (nI j)) (C := RX2) (T := TX2) (N := 2) hx hb hg gwX2 hown hK hP 0 rfl rfl 1 (by decide) (hg _ kw_84) (fun _ h9 => h9) rfl dX2_append_35 ?_
        refine lv_iconst (v := 1) hx hb dX2_append_38 (by decide) ?_
        refine lv_iadd hx hb dX2_append_39 ?_
        refine lv_topi (fun z_39 e_39 => ?_)
        refine va_put (D := D) (ci := 2) (v := .int z_39) (ty := .int) (C := RX2) (T := TX2) (N := 2) hx hb hg gwX2 tyX2 tyX2_ok nmX2 hown hK hP hD hS 0 rfl rfl 1 (by decide) (hg _ kw_84) (fun _ h9 => h9) rfl (by decide +kernel) rfl rfl (Nat.le_of_ble_eq_true rfl) dX2_append_40 (fun H locs hP hD hS => ?_)
        have hP : va_P D vwCl [(pg, .inr (2, [.ref cd, .int z_39])), (cd, .inl (cI, 90, .inl f_32))] H := hP
        have hD : va_D A [(pg, .inr (2, [.ref cd, .int z_39])), (cd, .inl (cI, 90, .inl f_32))] := hD
        obtain ⟨z_43, e_43⟩ : ∃ y : Int32, y = (nI j) + 1 := ⟨_, rfl⟩
        refine lv_iinc (v := z_43) (lv' := [(4, .int z_43), (0, .ref pg), (1, .long (lN n0)), (3, .int (nI tt))]) hx hb dX2_append_43 hl (k := 0) rfl (by rw [e_43]; rfl) (by decide) rfl (fun ls hl => ?_)
        refine lv_goto (tgt := 3) hx hb dX2_append_46 (by decide) ?_
        obtain rfl : z_43 = nI (j + 1) := e_43.trans (nI_1 j)
        obtain rfl : z_39 = nI (j + 1) := e_39.trans (nI_1 j)
        exact ih3 (j + 1) f_32 (by omega) (by omega) _ _ ls hP hD hS (lv_sub hl [0, 1, 2, 3] rfl)
  exact LOOP3 (tt + 1) 0 cf (by omega) (by omega) _ _ ls hP hD hS (lv_sub hl [0, 1, 2, 3] rfl)

theorem dX11_letters_0 : decode cX11_letters 0 = .ok (.lload_n 1, 1) := by decide +kernel
theorem dX11_letters_1 : decode cX11_letters 1 = .ok (.invokestatic 59, 3) := by decide +kernel
theorem dX11_letters_4 : decode cX11_letters 4 = .ok (.istore_n 3, 1) := by decide +kernel
theorem dX11_letters_5 : decode cX11_letters 5 = .ok (.iload_n 3, 1) := by decide +kernel
theorem dX11_letters_6 : decode cX11_letters 6 = .ok (.iconst (-1), 1) := by decide +kernel
theorem dX11_letters_7 : decode cX11_letters 7 = .ok (.if_icmp .ne 6, 3) := by decide +kernel
theorem dX11_letters_10 : decode cX11_letters 10 = .ok (.bipush (-102), 2) := by decide +kernel
theorem dX11_letters_12 : decode cX11_letters 12 = .ok (.ireturn, 1) := by decide +kernel
theorem dX11_letters_13 : decode cX11_letters 13 = .ok (.aload_n 0, 1) := by decide +kernel
theorem dX11_letters_14 : decode cX11_letters 14 = .ok (.getfield 10, 3) := by decide +kernel
theorem dX11_letters_17 : decode cX11_letters 17 = .ok (.getfield 63, 3) := by decide +kernel
theorem dX11_letters_20 : decode cX11_letters 20 = .ok (.iload_n 3, 1) := by decide +kernel
theorem dX11_letters_21 : decode cX11_letters 21 = .ok (.iadd, 1) := by decide +kernel
theorem dX11_letters_22 : decode cX11_letters 22 = .ok (.bipush 90, 2) := by decide +kernel
theorem dX11_letters_24 : decode cX11_letters 24 = .ok (.if_icmp .le 6, 3) := by decide +kernel
theorem dX11_letters_27 : decode cX11_letters 27 = .ok (.bipush (-104), 2) := by decide +kernel
theorem dX11_letters_29 : decode cX11_letters 29 = .ok (.ireturn, 1) := by decide +kernel
theorem dX11_letters_30 : decode cX11_letters 30 = .ok (.aload_n 0, 1) := by decide +kernel
theorem dX11_letters_31 : decode cX11_letters 31 = .ok (.getfield 10, 3) := by decide +kernel
theorem dX11_letters_34 : decode cX11_letters 34 = .ok (.lload_n 1, 1) := by decide +kernel
theorem dX11_letters_35 : decode cX11_letters 35 = .ok (.iload_n 3, 1) := by decide +kernel
theorem dX11_letters_36 : decode cX11_letters 36 = .ok (.invokevirtual 67, 3) := by decide +kernel
theorem dX11_letters_39 : decode cX11_letters 39 = .ok (.aload_n 0, 1) := by decide +kernel
theorem dX11_letters_40 : decode cX11_letters 40 = .ok (.getfield 10, 3) := by decide +kernel
theorem dX11_letters_43 : decode cX11_letters 43 = .ok (.getfield 63, 3) := by decide +kernel
theorem dX11_letters_46 : decode cX11_letters 46 = .ok (.ireturn, 1) := by decide +kernel
theorem kw_86 : (.code yX2_toldBy cX2_toldBy 6 (some .int) : Cond) ∈ gw_tbl := gw_in (by decide +kernel) (by decide +kernel)
theorem kw_87 : (.methodLink RX11 59 yX2_toldBy : Cond) ∈ gw_tbl := gw_in (by decide +kernel) (by decide +kernel)
theorem kw_88 : (.static yX2_toldBy : Cond) ∈ gw_tbl := gw_in (by decide +kernel) (by decide +kernel)
theorem kw_89 : (.code yX2_append cX2_append 5 none : Cond) ∈ gw_tbl := gw_in (by decide +kernel) (by decide +kernel)
theorem kw_90 : (.methodLink RX11 67 yX2_append : Cond) ∈ gw_tbl := gw_in (by decide +kernel) (by decide +kernel)
theorem kw_91 : (.instanceMethod yX2_append : Cond) ∈ gw_tbl := gw_in (by decide +kernel) (by decide +kernel)
theorem kw_92 : (.selects RX2 yX2_append yX2_append : Cond) ∈ gw_tbl := gw_in (by decide +kernel) (by decide +kernel)

set_option maxHeartbeats 4000000 in
set_option maxRecDepth 100000 in
theorem x_letters (l : Launch) (D : va_G) (x0 : Nat) (pg : Nat) (rd : Nat) (aq : Nat) (py : Nat) (pl : Nat) (ch : Nat) (ro : Nat) (cd : Nat) (cI : ClassId) (cf : Nat → Int32) (n0 : Nat) (hn0 : n0 < 2 ^ 64) (sz : Nat) : Met l yX11_letters (Cond.code yX11_letters cX11_letters 4 (some .int) :: gw_tbl) ({ frames := 2, cells := 0, slots := 0, locals := 47 }) (pc_M D [(cI, .int)] [(x0, .inr (11, [.ref pg, .ref rd, .ref aq, .ref py, .ref pl, .ref ch, .ref ro, .int 0, .int 0])), (pg, .inr (2, [.ref cd, .int 0])), (cd, .inl (cI, 90, .inl cf))] sz [.ref x0, .long (lN n0)]) (va_Qi (fun (r : Int32) (u : Unit) => r = sp_let n0) (fun _ _ => True) (va_A [(x0, .inr (11, [.ref pg, .ref rd, .ref aq, .ref py, .ref pl, .ref ch, .ref ro, .int 0, .int 0])), (pg, .inr (2, [.ref cd, .int 0])), (cd, .inl (cI, 90, .inl cf))] sz)) 0 0 (va_A [(x0, .inr (11, [.ref pg, .ref rd, .ref aq, .ref py, .ref pl, .ref ch, .ref ro, .int 0, .int 0])), (pg, .inr (2, [.ref cd, .int 0])), (cd, .inl (cI, 90, .inl cf))] sz) := by
  refine Met.ofW (cc := cX11_letters) (maxL := 4) (ret := (some .int)) (by decide) rfl ?_
  intro p e s m args below meth c s₁ B hml hv
  obtain ⟨hargs, hsz, hP, hK, hD0⟩ := hv
  have hx := B.exec
  have hb := B.bytes
  have hr := B.returns
  have hts := atoms_spec (ws := Cond.code yX11_letters cX11_letters 4 (some .int) :: gw_tbl) B.pre
  have hg := fun (w : Cond) (h : w ∈ gw_tbl) => hts w (List.mem_cons_of_mem _ h)
  have hown : s.vm.findClass RX11 = some m.cls := findClass_of_methodNamed B.named
  have hlocks := B.notSynchronized
  subst hsz
  have hD := hD0.self (sz := s.heap.size)
  generalize hAe : va_A [(x0, .inr (11, [.ref pg, .ref rd, .ref aq, .ref py, .ref pl, .ref ch, .ref ro, .int 0, .int 0])), (pg, .inr (2, [.ref cd, .int 0])), (cd, .inl (cI, 90, .inl cf))] s.heap.size = A at hD ⊢
  have hA : ∀ q : Nat, s.heap.size ≤ q → A q := fun q h => by rw [← hAe]; exact Or.inr h
  have hS : va_S A s.heap s.heap [] := va_S.rf
  have hP : va_P D vwCl [(x0, .inr (11, [.ref pg, .ref rd, .ref aq, .ref py, .ref pl, .ref ch, .ref ro, .int 0, .int 0])), (pg, .inr (2, [.ref cd, .int 0])), (cd, .inl (cI, 90, .inl cf))] s.heap := hP
  have hl := lv_entry ([.ref x0, .long (lN n0)]) (n := 4) (Nat.le_of_ble_eq_true rfl)
  rw [show entryFrame m args 4 = F0 m 0 (lg_sl ([.ref x0, .long (lN n0)]) ++ List.replicate (4 - (lg_sl ([.ref x0, .long (lN n0)])).length) Slot.unset).toArray [] from by rw [hargs]; exact lg_entry_eq ..]
  generalize (lg_sl ([.ref x0, .long (lN n0)]) ++ List.replicate (4 - (lg_sl ([.ref x0, .long (lN n0)])).length) Slot.unset).toArray = ls at hl ⊢
  have hl : lv_has ls 4 [(0, .ref x0), (1, .long (lN n0))] := hl
  refine W_genQ (fun Q hQ => ?_)
  refine lv_lload_n hx hb dX11_letters_0 rfl (lv_at hl 1 rfl) ?_
  refine vp_callSi (W.runS (As := [.long (lN n0)]) (rest := []) ⟨hx, hb, hml, hown, hg⟩ (g_toldBy l n0 hn0) (va_cwS 1 hg (gw_S kw_87 kw_88 kw_83 kw_86) rfl rfl rfl (by decide +kernel) ⟨Nat.le_of_ble_eq_true rfl, Nat.le_of_ble_eq_true rfl⟩) pr_0 rfl rfl hl.1 rfl (lv_room (Nat.le_of_ble_eq_true rfl)) dX11_letters_1 ⟨Nat.le_of_ble_eq_true rfl, Nat.le_of_ble_eq_true rfl⟩) (fun r_1 h_1 => ?_)
  try dsimp only at h_1
  refine lv_istore_n (lv' := [(3, .int r_1), (0, .ref x0), (1, .long (lN n0))]) hx hb dX11_letters_4 rfl hl (by decide) rfl (fun ls hl => ?_)
  refine lv_iload_n hx hb dX11_letters_5 rfl (lv_at hl 0 rfl) ?_
  refine lv_iconst (v := (-1)) hx hb dX11_letters_6 (by decide) ?_
  refine lv_icmp_ne (tgt := 13) hx hb dX11_letters_7 (by decide) (fun c_7 => ?_) (fun c_7 => ?_)
  · rw [h_1] at c_7
    obtain ⟨tt, ht8, et, el⟩ := sp_rng c_7
    obtain rfl : r_1 = nI tt := h_1.trans et
    refine lv_aload_n hx hb dX11_letters_13 rfl (lv_at hl 1 rfl) ?_
    refine va_get (D := D) (ci := 11) (v := .ref pg) (C := RX11) (T := TX11) (N := 9) hx hb hg gwX11 hown hK hP 0 rfl rfl 0 (by decide) (hg _ kw_36) (fun _ h9 => h9) rfl dX11_letters_14 ?_
    refine va_get (D := D) (ci := 2) (v := .int 0) (C := RX2) (T := TX2) (N := 2) hx hb hg gwX2 hown hK hP 1 rfl rfl 1 (by decide) (hg _ kw_37) (fun _ h9 => h9) rfl dX11_letters_17 ?_
    refine lv_iload_n hx hb dX11_letters_20 rfl (lv_at hl 0 rfl) ?_
    refine lv_iadd hx hb dX11_letters_21 ?_
    refine lv_topi (fun z_21 e_21 => ?_)
    refine lv_bipush (v := 90) hx hb dX11_letters_22 (by decide) ?_
    refine lv_icmp_le (tgt := 30) hx hb dX11_letters_24 (by decide) (fun c_24 => ?_) (fun c_24 => absurd (le90 ht8 e_21) c_24)
    refine lv_aload_n hx hb dX11_letters_30 rfl (lv_at hl 1 rfl) ?_
    refine va_get (D := D) (ci := 11) (v := .ref pg) (C := RX11) (T := TX11) (N := 9) hx hb hg gwX11 hown hK hP 0 rfl rfl 0 (by decide) (hg _ kw_36) (fun _ h9 => h9) rfl dX11_letters_31 ?_
    refine lv_lload_n hx hb dX11_letters_34 rfl (lv_at hl 2 rfl) ?_
    refine lv_iload_n hx hb dX11_letters_35 rfl (lv_at hl 0 rfl) ?_
    have hPc := hP.sub (ws' := [(pg, .inr (2, [.ref cd, .int 0])), (cd, .inl (cI, 90, .inl cf))]) [1, 2] rfl
    have hKc := hK.sub (tys' := [(cI, .int)]) [0] rfl
    have hDc := hD.sub (ws' := [(pg, .inr (2, [.ref cd, .int 0])), (cd, .inl (cI, 90, .inl cf))]) [1, 2] (by decide) rfl
    have hFc := va_free (wc := [(pg, .inr (2, [.ref cd, .int 0])), (cd, .inl (cI, 90, .inl cf))]) hD hS hA [1, 2] rfl
    refine va_callv (va_runV (As := [.long (lN n0), .int (nI tt)]) (rest := []) ⟨hx, hb, hml, hown, hg⟩ (g_append l D pg cd cI cf n0 hn0 tt ht8 _) (cwV 2 hg (gw_V kw_90 kw_91 kw_92 kw_83 kw_89) rfl rfl rfl (by decide +kernel) ⟨Nat.le_of_ble_eq_true rfl, Nat.le_of_ble_eq_true rfl⟩) (pr_MV (q := (RX2, TX2, 2)) 2 0 hKc hPc hDc rfl rfl) rfl rfl hl.1 rfl (lv_room (Nat.le_of_ble_eq_true rfl)) dX11_letters_36 ⟨Nat.le_of_ble_eq_true rfl, Nat.le_of_ble_eq_true rfl⟩) hS (fun q _ h => hFc q h) hFc (fun u t H1 locs ht hvm h_36 hB hz1 hk1 hS => ?_)
    obtain ⟨hP1, hK1, hD1⟩ := hB
    rw [ht] at hP1
    have hK1 := va_K.moved hvm.symm hK1
    obtain ⟨hP, hD⟩ := va_join (wr := [(x0, .inr (11, [.ref pg, .ref rd, .ref aq, .ref py, .ref pl, .ref ch, .ref ro, .int 0, .int 0]))]) (w1 := [(pg, .inr (2, [.ref cd, .int (nI tt)]))]) hP hD [1, 2] [0] rfl rfl (by decide) (by decide) hk1 hFc hP1 hD1
    have hK := hK.app hK1
    generalize H1 = H at hP hS ⊢
    have hP : va_P D vwCl [(x0, .inr (11, [.ref pg, .ref rd, .ref aq, .ref py, .ref pl, .ref ch, .ref ro, .int 0, .int 0])), (pg, .inr (2, [.ref cd, .int (nI tt)]))] H := hP
    have hD : va_D A [(x0, .inr (11, [.ref pg, .ref rd, .ref aq, .ref py, .ref pl, .ref ch, .ref ro, .int 0, .int 0])), (pg, .inr (2, [.ref cd, .int (nI tt)]))] := hD
    have hK : va_K D vwCl [(cI, .int)] s := hK
    refine W.cs (cells' := 0) (slots' := 0) rfl rfl ?_
    try dsimp only at h_36
    refine lv_aload_n hx hb dX11_letters_39 rfl (lv_at hl 1 rfl) ?_
    refine va_get (D := D) (ci := 11) (v := .ref pg) (C := RX11) (T := TX11) (N := 9) hx hb hg gwX11 hown hK hP 0 rfl rfl 0 (by decide) (hg _ kw_36) (fun _ h9 => h9) rfl dX11_letters_40 ?_
    refine va_get (D := D) (ci := 2) (v := .int (nI tt)) (C := RX2) (T := TX2) (N := 2) hx hb hg gwX2 hown hK hP 1 rfl rfl 1 (by decide) (hg _ kw_37) (fun _ h9 => h9) rfl dX11_letters_43 ?_
    subst hQ
    refine W.widen (k := 0) (n := 0) (Nat.le_of_ble_eq_true rfl) (Nat.le_of_ble_eq_true rfl) ?_
    exact W.iret (v := (nI tt)) hx hb hr (fun t ht hW => ⟨⟨(nI tt), (), rfl, el, trivial⟩, hS.F ht⟩) hS.2.2 dX11_letters_46
  · refine lv_bipush (v := (-102)) hx hb dX11_letters_10 (by decide) ?_
    subst hQ
    refine W.widen (k := 0) (n := 0) (Nat.le_of_ble_eq_true rfl) (Nat.le_of_ble_eq_true rfl) ?_
    exact W.iret (v := (-102)) hx hb hr (fun t ht hW => ⟨⟨(-102), (), rfl, (sp_bad h_1 c_7), trivial⟩, hS.F ht⟩) hS.2.2 dX11_letters_12
