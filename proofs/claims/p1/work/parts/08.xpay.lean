theorem dX3_init_0 : decode cX3_init 0 = .ok (.aload_n 0, 1) := by decide +kernel
theorem dX3_init_1 : decode cX3_init 1 = .ok (.invokespecial 3, 3) := by decide +kernel
theorem dX3_init_4 : decode cX3_init 4 = .ok (.aload_n 0, 1) := by decide +kernel
theorem dX3_init_5 : decode cX3_init 5 = .ok (.iconst 4, 1) := by decide +kernel
theorem dX3_init_6 : decode cX3_init 6 = .ok (.newarray .int, 2) := by decide +kernel
theorem dX3_init_8 : decode cX3_init 8 = .ok (.putfield 9, 3) := by decide +kernel
theorem dX3_init_11 : decode cX3_init 11 = .ok (.return_, 1) := by decide +kernel
theorem kw_93 : (.methodLink RX3 3 objectInit : Cond) ∈ gw_tbl := gw_in (by decide +kernel) (by decide +kernel)
theorem kw_94 : (.instanceMethod objectInit : Cond) ∈ gw_tbl := gw_in (by decide +kernel) (by decide +kernel)
theorem kw_95 : (.code objectInit ⟨#[0xb1]⟩ 1 none : Cond) ∈ gw_tbl := gw_in (by decide +kernel) (by decide +kernel)
theorem kw_96 : (.arrayClass .int : Cond) ∈ gw_tbl := gw_in (by decide +kernel) (by decide +kernel)
theorem kw_97 : (.fieldLink RX3 9 "NobodyChecks$Pay" "numbers" "[I" : Cond) ∈ gw_tbl := gw_in (by decide +kernel) (by decide +kernel)

set_option maxHeartbeats 4000000 in
set_option maxRecDepth 100000 in
theorem i_X3_3 (l : Launch) (D : va_G) (h0 : Nat) (sz : Nat) : Met l yX3_init (Cond.code yX3_init cX3_init 1 none :: gw_tbl) ({ frames := 1, cells := 1, slots := 4, locals := 12 }) (pc_C D [] [(h0, .inr (3, [.null, .null, .int 0]))] sz [.ref h0]) (va_Qv (fun (u : Unit) => True) (fun _ t => ∃ (nq : Nat), ∃ (cQ : ClassId), va_P D vwCl [(h0, .inr (3, [.ref nq, .null, .int 0])), (nq, .inl (cQ, 4, .inl (fun _ => 0)))] t.heap ∧ va_K D vwCl [(cQ, .int)] t ∧ va_D (va_A [(h0, .inr (3, [.null, .null, .int 0]))] sz) [(h0, .inr (3, [.ref nq, .null, .int 0])), (nq, .inl (cQ, 4, .inl (fun _ => 0)))]) (va_A [(h0, .inr (3, [.null, .null, .int 0]))] sz)) 1 4 (va_A [(h0, .inr (3, [.null, .null, .int 0]))] sz) := by
  refine Met.ofW (cc := cX3_init) (maxL := 1) (ret := none) (by decide) rfl ?_
  intro p e s m args below meth c s₁ B hml hv
  obtain ⟨hargs, hsz, hP, hK, hD0, hN⟩ := hv
  have hx := B.exec
  have hb := B.bytes
  have hr := B.returns
  have hts := atoms_spec (ws := Cond.code yX3_init cX3_init 1 none :: gw_tbl) B.pre
  have hg := fun (w : Cond) (h : w ∈ gw_tbl) => hts w (List.mem_cons_of_mem _ h)
  have hown : s.vm.findClass RX3 = some m.cls := findClass_of_methodNamed B.named
  have hlocks := B.notSynchronized
  have hin : meth.name = "<init>" := (name_of_methodNamed B.named B.method).1
  subst hsz
  have hD := hD0.self (sz := s.heap.size)
  generalize hAe : va_A [(h0, .inr (3, [.null, .null, .int 0]))] s.heap.size = A at hD ⊢
  have hA : ∀ q : Nat, s.heap.size ≤ q → A q := fun q h => by rw [← hAe]; exact Or.inr h
  have hS : va_S A s.heap s.heap [] := va_S.rf
  have hP : va_P D vwCl [(h0, .inr (3, [.null, .null, .int 0]))] s.heap := hP
  have hl := lv_entry ([.ref h0]) (n := 1) (Nat.le_of_ble_eq_true rfl)
  rw [show entryFrame m args 1 = F0 m 0 (lg_sl ([.ref h0]) ++ List.replicate (1 - (lg_sl ([.ref h0])).length) Slot.unset).toArray [] from by rw [hargs]; exact lg_entry_eq ..]
  generalize (lg_sl ([.ref h0]) ++ List.replicate (1 - (lg_sl ([.ref h0])).length) Slot.unset).toArray = ls at hl ⊢
  have hl : lv_has ls 1 [(0, .ref h0)] := hl
  refine W_genQ (fun Q hQ => ?_)
  refine lv_aload_n hx hb dX3_init_0 rfl (lv_at hl 0 rfl) ?_
  refine W.objInit hx hb hown (hg _ kw_93) (hg _ kw_94) (hg _ kw_95) rfl (by rw [hml]; exact hl.1) rfl dX3_init_1 (Nat.le_of_ble_eq_true rfl) (Nat.le_of_ble_eq_true rfl) ?_
  refine W.eq (g2 := F0 m 4 ls []) rfl ?_
  refine lv_aload_n hx hb dX3_init_4 rfl (lv_at hl 0 rfl) ?_
  refine lv_iconst (v := 4) hx hb dX3_init_5 (by decide) ?_
  refine va_newa (atype := .int) (ty := .int) (N' := 4) (a0 := (4, .inl (fun _ => 0))) hx hb (hg _ kw_96) rfl hK hP hD hS hA (fun _ => rfl) (by decide) (by decide) (by decide) (Nat.le_of_ble_eq_true rfl) (Nat.le_of_ble_eq_true rfl) dX3_init_6 (fun q_6 cA_6 H hK hP hD hS => ?_)
  have hP : va_P D vwCl [(h0, .inr (3, [.null, .null, .int 0])), (q_6, .inl (cA_6, 4, .inl (fun _ => 0)))] H := hP
  have hD : va_D A [(h0, .inr (3, [.null, .null, .int 0])), (q_6, .inl (cA_6, 4, .inl (fun _ => 0)))] := hD
  have hK : va_K D vwCl [(cA_6, .int)] s := hK
  refine W.cs (cells' := 1) (slots' := 4) rfl rfl ?_
  refine va_putF (D := D) (ci := 3) (v := .ref q_6) (ty := .array .int) (C := RX3) (T := TX3) (N := 3) hx hb hg gwX3 tyX3 tyX3_ok nmX3 hown hK hP hD hS 0 rfl rfl 0 (by decide) (hg _ kw_97) (fun _ h9 => h9) rfl hin rfl (by decide +kernel) rfl rfl (Nat.le_of_ble_eq_true rfl) dX3_init_8 (fun H locs hP hD hS => ?_)
  have hP : va_P D vwCl [(h0, .inr (3, [.ref q_6, .null, .int 0])), (q_6, .inl (cA_6, 4, .inl (fun _ => 0)))] H := hP
  have hD : va_D A [(h0, .inr (3, [.ref q_6, .null, .int 0])), (q_6, .inl (cA_6, 4, .inl (fun _ => 0)))] := hD
  subst hQ
  refine W.widen (k := 1) (n := 4) (Nat.le_of_ble_eq_true rfl) (Nat.le_of_ble_eq_true rfl) ?_
  have hP9 := hP.sub (ws' := [(h0, .inr (3, [.ref q_6, .null, .int 0])), (q_6, .inl (cA_6, 4, .inl (fun _ => 0)))]) [0, 1] rfl
  have hD9 := hD.sub (ws' := [(h0, .inr (3, [.ref q_6, .null, .int 0])), (q_6, .inl (cA_6, 4, .inl (fun _ => 0)))]) [0, 1] (by decide) rfl
  have hK9 := hK.sub (tys' := [(cA_6, .int)]) [0] rfl
  exact W.vret hx hb hr (fun t ht hW => ⟨⟨(), rfl, trivial, ⟨q_6, cA_6, by rw [ht]; exact hP9, va_K.moved hW.alike hK9, hD9⟩⟩, hS.F ht⟩) hS.2.2 dX3_init_11

set_option maxHeartbeats 4000000 in
set_option maxRecDepth 100000 in
theorem i_X3_9 (l : Launch) (D : va_G) (h0 : Nat) (sz : Nat) : Met l yX3_init (Cond.code yX3_init cX3_init 1 none :: gw_tbl) ({ frames := 1, cells := 1, slots := 4, locals := 12 }) (pc_C D [] [(h0, .inr (9, [.null, .null, .int 0]))] sz [.ref h0]) (va_Qv (fun (u : Unit) => True) (fun _ t => ∃ (nq : Nat), ∃ (cQ : ClassId), va_P D vwCl [(h0, .inr (9, [.ref nq, .null, .int 0])), (nq, .inl (cQ, 4, .inl (fun _ => 0)))] t.heap ∧ va_K D vwCl [(cQ, .int)] t ∧ va_D (va_A [(h0, .inr (9, [.null, .null, .int 0]))] sz) [(h0, .inr (9, [.ref nq, .null, .int 0])), (nq, .inl (cQ, 4, .inl (fun _ => 0)))]) (va_A [(h0, .inr (9, [.null, .null, .int 0]))] sz)) 1 4 (va_A [(h0, .inr (9, [.null, .null, .int 0]))] sz) := by
  refine Met.ofW (cc := cX3_init) (maxL := 1) (ret := none) (by decide) rfl ?_
  intro p e s m args below meth c s₁ B hml hv
  obtain ⟨hargs, hsz, hP, hK, hD0, hN⟩ := hv
  have hx := B.exec
  have hb := B.bytes
  have hr := B.returns
  have hts := atoms_spec (ws := Cond.code yX3_init cX3_init 1 none :: gw_tbl) B.pre
  have hg := fun (w : Cond) (h : w ∈ gw_tbl) => hts w (List.mem_cons_of_mem _ h)
  have hown : s.vm.findClass RX3 = some m.cls := findClass_of_methodNamed B.named
  have hlocks := B.notSynchronized
  have hin : meth.name = "<init>" := (name_of_methodNamed B.named B.method).1
  subst hsz
  have hD := hD0.self (sz := s.heap.size)
  generalize hAe : va_A [(h0, .inr (9, [.null, .null, .int 0]))] s.heap.size = A at hD ⊢
  have hA : ∀ q : Nat, s.heap.size ≤ q → A q := fun q h => by rw [← hAe]; exact Or.inr h
  have hS : va_S A s.heap s.heap [] := va_S.rf
  have hP : va_P D vwCl [(h0, .inr (9, [.null, .null, .int 0]))] s.heap := hP
  have hl := lv_entry ([.ref h0]) (n := 1) (Nat.le_of_ble_eq_true rfl)
  rw [show entryFrame m args 1 = F0 m 0 (lg_sl ([.ref h0]) ++ List.replicate (1 - (lg_sl ([.ref h0])).length) Slot.unset).toArray [] from by rw [hargs]; exact lg_entry_eq ..]
  generalize (lg_sl ([.ref h0]) ++ List.replicate (1 - (lg_sl ([.ref h0])).length) Slot.unset).toArray = ls at hl ⊢
  have hl : lv_has ls 1 [(0, .ref h0)] := hl
  refine W_genQ (fun Q hQ => ?_)
  refine lv_aload_n hx hb dX3_init_0 rfl (lv_at hl 0 rfl) ?_
  refine W.objInit hx hb hown (hg _ kw_93) (hg _ kw_94) (hg _ kw_95) rfl (by rw [hml]; exact hl.1) rfl dX3_init_1 (Nat.le_of_ble_eq_true rfl) (Nat.le_of_ble_eq_true rfl) ?_
  refine W.eq (g2 := F0 m 4 ls []) rfl ?_
  refine lv_aload_n hx hb dX3_init_4 rfl (lv_at hl 0 rfl) ?_
  refine lv_iconst (v := 4) hx hb dX3_init_5 (by decide) ?_
  refine va_newa (atype := .int) (ty := .int) (N' := 4) (a0 := (4, .inl (fun _ => 0))) hx hb (hg _ kw_96) rfl hK hP hD hS hA (fun _ => rfl) (by decide) (by decide) (by decide) (Nat.le_of_ble_eq_true rfl) (Nat.le_of_ble_eq_true rfl) dX3_init_6 (fun q_6 cA_6 H hK hP hD hS => ?_)
  have hP : va_P D vwCl [(h0, .inr (9, [.null, .null, .int 0])), (q_6, .inl (cA_6, 4, .inl (fun _ => 0)))] H := hP
  have hD : va_D A [(h0, .inr (9, [.null, .null, .int 0])), (q_6, .inl (cA_6, 4, .inl (fun _ => 0)))] := hD
  have hK : va_K D vwCl [(cA_6, .int)] s := hK
  refine W.cs (cells' := 1) (slots' := 4) rfl rfl ?_
  refine va_putF (D := D) (ci := 9) (v := .ref q_6) (ty := .array .int) (C := RX9) (T := TX9) (N := 3) hx hb hg gwX9 tyX9 tyX9_ok nmX9 hown hK hP hD hS 0 rfl rfl 0 (by decide) (hg _ kw_97) (fun _ h9 => h9) rfl hin rfl (by decide +kernel) rfl rfl (Nat.le_of_ble_eq_true rfl) dX3_init_8 (fun H locs hP hD hS => ?_)
  have hP : va_P D vwCl [(h0, .inr (9, [.ref q_6, .null, .int 0])), (q_6, .inl (cA_6, 4, .inl (fun _ => 0)))] H := hP
  have hD : va_D A [(h0, .inr (9, [.ref q_6, .null, .int 0])), (q_6, .inl (cA_6, 4, .inl (fun _ => 0)))] := hD
  subst hQ
  refine W.widen (k := 1) (n := 4) (Nat.le_of_ble_eq_true rfl) (Nat.le_of_ble_eq_true rfl) ?_
  have hP9 := hP.sub (ws' := [(h0, .inr (9, [.ref q_6, .null, .int 0])), (q_6, .inl (cA_6, 4, .inl (fun _ => 0)))]) [0, 1] rfl
  have hD9 := hD.sub (ws' := [(h0, .inr (9, [.ref q_6, .null, .int 0])), (q_6, .inl (cA_6, 4, .inl (fun _ => 0)))]) [0, 1] (by decide) rfl
  have hK9 := hK.sub (tys' := [(cA_6, .int)]) [0] rfl
  exact W.vret hx hb hr (fun t ht hW => ⟨⟨(), rfl, trivial, ⟨q_6, cA_6, by rw [ht]; exact hP9, va_K.moved hW.alike hK9, hD9⟩⟩, hS.F ht⟩) hS.2.2 dX3_init_11

set_option maxHeartbeats 4000000 in
set_option maxRecDepth 100000 in
theorem i_X3_10 (l : Launch) (D : va_G) (h0 : Nat) (sz : Nat) : Met l yX3_init (Cond.code yX3_init cX3_init 1 none :: gw_tbl) ({ frames := 1, cells := 1, slots := 4, locals := 12 }) (pc_C D [] [(h0, .inr (10, [.null, .null, .int 0]))] sz [.ref h0]) (va_Qv (fun (u : Unit) => True) (fun _ t => ∃ (nq : Nat), ∃ (cQ : ClassId), va_P D vwCl [(h0, .inr (10, [.ref nq, .null, .int 0])), (nq, .inl (cQ, 4, .inl (fun _ => 0)))] t.heap ∧ va_K D vwCl [(cQ, .int)] t ∧ va_D (va_A [(h0, .inr (10, [.null, .null, .int 0]))] sz) [(h0, .inr (10, [.ref nq, .null, .int 0])), (nq, .inl (cQ, 4, .inl (fun _ => 0)))]) (va_A [(h0, .inr (10, [.null, .null, .int 0]))] sz)) 1 4 (va_A [(h0, .inr (10, [.null, .null, .int 0]))] sz) := by
  refine Met.ofW (cc := cX3_init) (maxL := 1) (ret := none) (by decide) rfl ?_
  intro p e s m args below meth c s₁ B hml hv
  obtain ⟨hargs, hsz, hP, hK, hD0, hN⟩ := hv
  have hx := B.exec
  have hb := B.bytes
  have hr := B.returns
  have hts := atoms_spec (ws := Cond.code yX3_init cX3_init 1 none :: gw_tbl) B.pre
  have hg := fun (w : Cond) (h : w ∈ gw_tbl) => hts w (List.mem_cons_of_mem _ h)
  have hown : s.vm.findClass RX3 = some m.cls := findClass_of_methodNamed B.named
  have hlocks := B.notSynchronized
  have hin : meth.name = "<init>" := (name_of_methodNamed B.named B.method).1
  subst hsz
  have hD := hD0.self (sz := s.heap.size)
  generalize hAe : va_A [(h0, .inr (10, [.null, .null, .int 0]))] s.heap.size = A at hD ⊢
  have hA : ∀ q : Nat, s.heap.size ≤ q → A q := fun q h => by rw [← hAe]; exact Or.inr h
  have hS : va_S A s.heap s.heap [] := va_S.rf
  have hP : va_P D vwCl [(h0, .inr (10, [.null, .null, .int 0]))] s.heap := hP
  have hl := lv_entry ([.ref h0]) (n := 1) (Nat.le_of_ble_eq_true rfl)
  rw [show entryFrame m args 1 = F0 m 0 (lg_sl ([.ref h0]) ++ List.replicate (1 - (lg_sl ([.ref h0])).length) Slot.unset).toArray [] from by rw [hargs]; exact lg_entry_eq ..]
  generalize (lg_sl ([.ref h0]) ++ List.replicate (1 - (lg_sl ([.ref h0])).length) Slot.unset).toArray = ls at hl ⊢
  have hl : lv_has ls 1 [(0, .ref h0)] := hl
  refine W_genQ (fun Q hQ => ?_)
  refine lv_aload_n hx hb dX3_init_0 rfl (lv_at hl 0 rfl) ?_
  refine W.objInit hx hb hown (hg _ kw_93) (hg _ kw_94) (hg _ kw_95) rfl (by rw [hml]; exact hl.1) rfl dX3_init_1 (Nat.le_of_ble_eq_true rfl) (Nat.le_of_ble_eq_true rfl) ?_
  refine W.eq (g2 := F0 m 4 ls []) rfl ?_
  refine lv_aload_n hx hb dX3_init_4 rfl (lv_at hl 0 rfl) ?_
  refine lv_iconst (v := 4) hx hb dX3_init_5 (by decide) ?_
  refine va_newa (atype := .int) (ty := .int) (N' := 4) (a0 := (4, .inl (fun _ => 0))) hx hb (hg _ kw_96) rfl hK hP hD hS hA (fun _ => rfl) (by decide) (by decide) (by decide) (Nat.le_of_ble_eq_true rfl) (Nat.le_of_ble_eq_true rfl) dX3_init_6 (fun q_6 cA_6 H hK hP hD hS => ?_)
  have hP : va_P D vwCl [(h0, .inr (10, [.null, .null, .int 0])), (q_6, .inl (cA_6, 4, .inl (fun _ => 0)))] H := hP
  have hD : va_D A [(h0, .inr (10, [.null, .null, .int 0])), (q_6, .inl (cA_6, 4, .inl (fun _ => 0)))] := hD
  have hK : va_K D vwCl [(cA_6, .int)] s := hK
  refine W.cs (cells' := 1) (slots' := 4) rfl rfl ?_
  refine va_putF (D := D) (ci := 10) (v := .ref q_6) (ty := .array .int) (C := RX10) (T := TX10) (N := 3) hx hb hg gwX10 tyX10 tyX10_ok nmX10 hown hK hP hD hS 0 rfl rfl 0 (by decide) (hg _ kw_97) (fun _ h9 => h9) rfl hin rfl (by decide +kernel) rfl rfl (Nat.le_of_ble_eq_true rfl) dX3_init_8 (fun H locs hP hD hS => ?_)
  have hP : va_P D vwCl [(h0, .inr (10, [.ref q_6, .null, .int 0])), (q_6, .inl (cA_6, 4, .inl (fun _ => 0)))] H := hP
  have hD : va_D A [(h0, .inr (10, [.ref q_6, .null, .int 0])), (q_6, .inl (cA_6, 4, .inl (fun _ => 0)))] := hD
  subst hQ
  refine W.widen (k := 1) (n := 4) (Nat.le_of_ble_eq_true rfl) (Nat.le_of_ble_eq_true rfl) ?_
  have hP9 := hP.sub (ws' := [(h0, .inr (10, [.ref q_6, .null, .int 0])), (q_6, .inl (cA_6, 4, .inl (fun _ => 0)))]) [0, 1] rfl
  have hD9 := hD.sub (ws' := [(h0, .inr (10, [.ref q_6, .null, .int 0])), (q_6, .inl (cA_6, 4, .inl (fun _ => 0)))]) [0, 1] (by decide) rfl
  have hK9 := hK.sub (tys' := [(cA_6, .int)]) [0] rfl
  exact W.vret hx hb hr (fun t ht hW => ⟨⟨(), rfl, trivial, ⟨q_6, cA_6, by rw [ht]; exact hP9, va_K.moved hW.alike hK9, hD9⟩⟩, hS.F ht⟩) hS.2.2 dX3_init_11

set_option maxHeartbeats 4000000 in
set_option maxRecDepth 100000 in
theorem i_X3_6 (l : Launch) (D : va_G) (h0 : Nat) (sz : Nat) : Met l yX3_init (Cond.code yX3_init cX3_init 1 none :: gw_tbl) ({ frames := 1, cells := 1, slots := 4, locals := 12 }) (pc_C D [] [(h0, .inr (6, [.null, .null, .int 0]))] sz [.ref h0]) (va_Qv (fun (u : Unit) => True) (fun _ t => ∃ (nq : Nat), ∃ (cQ : ClassId), va_P D vwCl [(h0, .inr (6, [.ref nq, .null, .int 0])), (nq, .inl (cQ, 4, .inl (fun _ => 0)))] t.heap ∧ va_K D vwCl [(cQ, .int)] t ∧ va_D (va_A [(h0, .inr (6, [.null, .null, .int 0]))] sz) [(h0, .inr (6, [.ref nq, .null, .int 0])), (nq, .inl (cQ, 4, .inl (fun _ => 0)))]) (va_A [(h0, .inr (6, [.null, .null, .int 0]))] sz)) 1 4 (va_A [(h0, .inr (6, [.null, .null, .int 0]))] sz) := by
  refine Met.ofW (cc := cX3_init) (maxL := 1) (ret := none) (by decide) rfl ?_
  intro p e s m args below meth c s₁ B hml hv
  obtain ⟨hargs, hsz, hP, hK, hD0, hN⟩ := hv
  have hx := B.exec
  have hb := B.bytes
  have hr := B.returns
  have hts := atoms_spec (ws := Cond.code yX3_init cX3_init 1 none :: gw_tbl) B.pre
  have hg := fun (w : Cond) (h : w ∈ gw_tbl) => hts w (List.mem_cons_of_mem _ h)
  have hown : s.vm.findClass RX3 = some m.cls := findClass_of_methodNamed B.named
  have hlocks := B.notSynchronized
  have hin : meth.name = "<init>" := (name_of_methodNamed B.named B.method).1
  subst hsz
  have hD := hD0.self (sz := s.heap.size)
  generalize hAe : va_A [(h0, .inr (6, [.null, .null, .int 0]))] s.heap.size = A at hD ⊢
  have hA : ∀ q : Nat, s.heap.size ≤ q → A q := fun q h => by rw [← hAe]; exact Or.inr h
  have hS : va_S A s.heap s.heap [] := va_S.rf
  have hP : va_P D vwCl [(h0, .inr (6, [.null, .null, .int 0]))] s.heap := hP
  have hl := lv_entry ([.ref h0]) (n := 1) (Nat.le_of_ble_eq_true rfl)
  rw [show entryFrame m args 1 = F0 m 0 (lg_sl ([.ref h0]) ++ List.replicate (1 - (lg_sl ([.ref h0])).length) Slot.unset).toArray [] from by rw [hargs]; exact lg_entry_eq ..]
  generalize (lg_sl ([.ref h0]) ++ List.replicate (1 - (lg_sl ([.ref h0])).length) Slot.unset).toArray = ls at hl ⊢
  have hl : lv_has ls 1 [(0, .ref h0)] := hl
  refine W_genQ (fun Q hQ => ?_)
  refine lv_aload_n hx hb dX3_init_0 rfl (lv_at hl 0 rfl) ?_
  refine W.objInit hx hb hown (hg _ kw_93) (hg _ kw_94) (hg _ kw_95) rfl (by rw [hml]; exact hl.1) rfl dX3_init_1 (Nat.le_of_ble_eq_true rfl) (Nat.le_of_ble_eq_true rfl) ?_
  refine W.eq (g2 := F0 m 4 ls []) rfl ?_
  refine lv_aload_n hx hb dX3_init_4 rfl (lv_at hl 0 rfl) ?_
  refine lv_iconst (v := 4) hx hb dX3_init_5 (by decide) ?_
  refine va_newa (atype := .int) (ty := .int) (N' := 4) (a0 := (4, .inl (fun _ => 0))) hx hb (hg _ kw_96) rfl hK hP hD hS hA (fun _ => rfl) (by decide) (by decide) (by decide) (Nat.le_of_ble_eq_true rfl) (Nat.le_of_ble_eq_true rfl) dX3_init_6 (fun q_6 cA_6 H hK hP hD hS => ?_)
  have hP : va_P D vwCl [(h0, .inr (6, [.null, .null, .int 0])), (q_6, .inl (cA_6, 4, .inl (fun _ => 0)))] H := hP
  have hD : va_D A [(h0, .inr (6, [.null, .null, .int 0])), (q_6, .inl (cA_6, 4, .inl (fun _ => 0)))] := hD
  have hK : va_K D vwCl [(cA_6, .int)] s := hK
  refine W.cs (cells' := 1) (slots' := 4) rfl rfl ?_
  refine va_putF (D := D) (ci := 6) (v := .ref q_6) (ty := .array .int) (C := RX6) (T := TX6) (N := 3) hx hb hg gwX6 tyX6 tyX6_ok nmX6 hown hK hP hD hS 0 rfl rfl 0 (by decide) (hg _ kw_97) (fun _ h9 => h9) rfl hin rfl (by decide +kernel) rfl rfl (Nat.le_of_ble_eq_true rfl) dX3_init_8 (fun H locs hP hD hS => ?_)
  have hP : va_P D vwCl [(h0, .inr (6, [.ref q_6, .null, .int 0])), (q_6, .inl (cA_6, 4, .inl (fun _ => 0)))] H := hP
  have hD : va_D A [(h0, .inr (6, [.ref q_6, .null, .int 0])), (q_6, .inl (cA_6, 4, .inl (fun _ => 0)))] := hD
  subst hQ
  refine W.widen (k := 1) (n := 4) (Nat.le_of_ble_eq_true rfl) (Nat.le_of_ble_eq_true rfl) ?_
  have hP9 := hP.sub (ws' := [(h0, .inr (6, [.ref q_6, .null, .int 0])), (q_6, .inl (cA_6, 4, .inl (fun _ => 0)))]) [0, 1] rfl
  have hD9 := hD.sub (ws' := [(h0, .inr (6, [.ref q_6, .null, .int 0])), (q_6, .inl (cA_6, 4, .inl (fun _ => 0)))]) [0, 1] (by decide) rfl
  have hK9 := hK.sub (tys' := [(cA_6, .int)]) [0] rfl
  exact W.vret hx hb hr (fun t ht hW => ⟨⟨(), rfl, trivial, ⟨q_6, cA_6, by rw [ht]; exact hP9, va_K.moved hW.alike hK9, hD9⟩⟩, hS.F ht⟩) hS.2.2 dX3_init_11

set_option maxHeartbeats 4000000 in
set_option maxRecDepth 100000 in
theorem i_X3_1 (l : Launch) (D : va_G) (h0 : Nat) (sz : Nat) : Met l yX3_init (Cond.code yX3_init cX3_init 1 none :: gw_tbl) ({ frames := 1, cells := 1, slots := 4, locals := 12 }) (pc_C D [] [(h0, .inr (1, [.null, .null, .int 0]))] sz [.ref h0]) (va_Qv (fun (u : Unit) => True) (fun _ t => ∃ (nq : Nat), ∃ (cQ : ClassId), va_P D vwCl [(h0, .inr (1, [.ref nq, .null, .int 0])), (nq, .inl (cQ, 4, .inl (fun _ => 0)))] t.heap ∧ va_K D vwCl [(cQ, .int)] t ∧ va_D (va_A [(h0, .inr (1, [.null, .null, .int 0]))] sz) [(h0, .inr (1, [.ref nq, .null, .int 0])), (nq, .inl (cQ, 4, .inl (fun _ => 0)))]) (va_A [(h0, .inr (1, [.null, .null, .int 0]))] sz)) 1 4 (va_A [(h0, .inr (1, [.null, .null, .int 0]))] sz) := by
  refine Met.ofW (cc := cX3_init) (maxL := 1) (ret := none) (by decide) rfl ?_
  intro p e s m args below meth c s₁ B hml hv
  obtain ⟨hargs, hsz, hP, hK, hD0, hN⟩ := hv
  have hx := B.exec
  have hb := B.bytes
  have hr := B.returns
  have hts := atoms_spec (ws := Cond.code yX3_init cX3_init 1 none :: gw_tbl) B.pre
  have hg := fun (w : Cond) (h : w ∈ gw_tbl) => hts w (List.mem_cons_of_mem _ h)
  have hown : s.vm.findClass RX3 = some m.cls := findClass_of_methodNamed B.named
  have hlocks := B.notSynchronized
  have hin : meth.name = "<init>" := (name_of_methodNamed B.named B.method).1
  subst hsz
  have hD := hD0.self (sz := s.heap.size)
  generalize hAe : va_A [(h0, .inr (1, [.null, .null, .int 0]))] s.heap.size = A at hD ⊢
  have hA : ∀ q : Nat, s.heap.size ≤ q → A q := fun q h => by rw [← hAe]; exact Or.inr h
  have hS : va_S A s.heap s.heap [] := va_S.rf
  have hP : va_P D vwCl [(h0, .inr (1, [.null, .null, .int 0]))] s.heap := hP
  have hl := lv_entry ([.ref h0]) (n := 1) (Nat.le_of_ble_eq_true rfl)
  rw [show entryFrame m args 1 = F0 m 0 (lg_sl ([.ref h0]) ++ List.replicate (1 - (lg_sl ([.ref h0])).length) Slot.unset).toArray [] from by rw [hargs]; exact lg_entry_eq ..]
  generalize (lg_sl ([.ref h0]) ++ List.replicate (1 - (lg_sl ([.ref h0])).length) Slot.unset).toArray = ls at hl ⊢
  have hl : lv_has ls 1 [(0, .ref h0)] := hl
  refine W_genQ (fun Q hQ => ?_)
  refine lv_aload_n hx hb dX3_init_0 rfl (lv_at hl 0 rfl) ?_
  refine W.objInit hx hb hown (hg _ kw_93) (hg _ kw_94) (hg _ kw_95) rfl (by rw [hml]; exact hl.1) rfl dX3_init_1 (Nat.le_of_ble_eq_true rfl) (Nat.le_of_ble_eq_true rfl) ?_
  refine W.eq (g2 := F0 m 4 ls []) rfl ?_
  refine lv_aload_n hx hb dX3_init_4 rfl (lv_at hl 0 rfl) ?_
  refine lv_iconst (v := 4) hx hb dX3_init_5 (by decide) ?_
  refine va_newa (atype := .int) (ty := .int) (N' := 4) (a0 := (4, .inl (fun _ => 0))) hx hb (hg _ kw_96) rfl hK hP hD hS hA (fun _ => rfl) (by decide) (by decide) (by decide) (Nat.le_of_ble_eq_true rfl) (Nat.le_of_ble_eq_true rfl) dX3_init_6 (fun q_6 cA_6 H hK hP hD hS => ?_)
  have hP : va_P D vwCl [(h0, .inr (1, [.null, .null, .int 0])), (q_6, .inl (cA_6, 4, .inl (fun _ => 0)))] H := hP
  have hD : va_D A [(h0, .inr (1, [.null, .null, .int 0])), (q_6, .inl (cA_6, 4, .inl (fun _ => 0)))] := hD
  have hK : va_K D vwCl [(cA_6, .int)] s := hK
  refine W.cs (cells' := 1) (slots' := 4) rfl rfl ?_
  refine va_putF (D := D) (ci := 1) (v := .ref q_6) (ty := .array .int) (C := RX1) (T := TX1) (N := 3) hx hb hg gwX1 tyX1 tyX1_ok nmX1 hown hK hP hD hS 0 rfl rfl 0 (by decide) (hg _ kw_97) (fun _ h9 => h9) rfl hin rfl (by decide +kernel) rfl rfl (Nat.le_of_ble_eq_true rfl) dX3_init_8 (fun H locs hP hD hS => ?_)
  have hP : va_P D vwCl [(h0, .inr (1, [.ref q_6, .null, .int 0])), (q_6, .inl (cA_6, 4, .inl (fun _ => 0)))] H := hP
  have hD : va_D A [(h0, .inr (1, [.ref q_6, .null, .int 0])), (q_6, .inl (cA_6, 4, .inl (fun _ => 0)))] := hD
  subst hQ
  refine W.widen (k := 1) (n := 4) (Nat.le_of_ble_eq_true rfl) (Nat.le_of_ble_eq_true rfl) ?_
  have hP9 := hP.sub (ws' := [(h0, .inr (1, [.ref q_6, .null, .int 0])), (q_6, .inl (cA_6, 4, .inl (fun _ => 0)))]) [0, 1] rfl
  have hD9 := hD.sub (ws' := [(h0, .inr (1, [.ref q_6, .null, .int 0])), (q_6, .inl (cA_6, 4, .inl (fun _ => 0)))]) [0, 1] (by decide) rfl
  have hK9 := hK.sub (tys' := [(cA_6, .int)]) [0] rfl
  exact W.vret hx hb hr (fun t ht hW => ⟨⟨(), rfl, trivial, ⟨q_6, cA_6, by rw [ht]; exact hP9, va_K.moved hW.alike hK9, hD9⟩⟩, hS.F ht⟩) hS.2.2 dX3_init_11

theorem dX9_init_0 : decode cX9_init 0 = .ok (.aload_n 0, 1) := by decide +kernel
theorem dX9_init_1 : decode cX9_init 1 = .ok (.invokespecial 3, 3) := by decide +kernel
theorem dX9_init_4 : decode cX9_init 4 = .ok (.return_, 1) := by decide +kernel
theorem kw_98 : (.code yX3_init cX3_init 1 none : Cond) ∈ gw_tbl := gw_in (by decide +kernel) (by decide +kernel)
theorem kw_99 : (.initialized RX3 : Cond) ∈ gw_tbl := gw_in (by decide +kernel) (by decide +kernel)
theorem kw_100 : (.instanceMethod yX3_init : Cond) ∈ gw_tbl := gw_in (by decide +kernel) (by decide +kernel)

set_option maxHeartbeats 4000000 in
set_option maxRecDepth 100000 in
theorem i_X9_9 (l : Launch) (D : va_G) (h0 : Nat) (sz : Nat) : Met l yX9_init (Cond.code yX9_init cX9_init 1 none :: gw_tbl) ({ frames := 2, cells := 1, slots := 4, locals := 32 }) (pc_C D [] [(h0, .inr (9, [.null, .null, .int 0]))] sz [.ref h0]) (va_Qv (fun (u : Unit) => True) (fun _ t => ∃ (nq : Nat), ∃ (cQ : ClassId), va_P D vwCl [(h0, .inr (9, [.ref nq, .null, .int 0])), (nq, .inl (cQ, 4, .inl (fun _ => 0)))] t.heap ∧ va_K D vwCl [(cQ, .int)] t ∧ va_D (va_A [(h0, .inr (9, [.null, .null, .int 0]))] sz) [(h0, .inr (9, [.ref nq, .null, .int 0])), (nq, .inl (cQ, 4, .inl (fun _ => 0)))]) (va_A [(h0, .inr (9, [.null, .null, .int 0]))] sz)) 1 4 (va_A [(h0, .inr (9, [.null, .null, .int 0]))] sz) := by
  refine Met.ofW (cc := cX9_init) (maxL := 1) (ret := none) (by decide) rfl ?_
  intro p e s m args below meth c s₁ B hml hv
  obtain ⟨hargs, hsz, hP, hK, hD0, hN⟩ := hv
  have hx := B.exec
  have hb := B.bytes
  have hr := B.returns
  have hts := atoms_spec (ws := Cond.code yX9_init cX9_init 1 none :: gw_tbl) B.pre
  have hg := fun (w : Cond) (h : w ∈ gw_tbl) => hts w (List.mem_cons_of_mem _ h)
  have hown : s.vm.findClass RX9 = some m.cls := findClass_of_methodNamed B.named
  have hlocks := B.notSynchronized
  have hin : meth.name = "<init>" := (name_of_methodNamed B.named B.method).1
  subst hsz
  have hD := hD0.self (sz := s.heap.size)
  generalize hAe : va_A [(h0, .inr (9, [.null, .null, .int 0]))] s.heap.size = A at hD ⊢
  have hA : ∀ q : Nat, s.heap.size ≤ q → A q := fun q h => by rw [← hAe]; exact Or.inr h
  have hS : va_S A s.heap s.heap [] := va_S.rf
  have hP : va_P D vwCl [(h0, .inr (9, [.null, .null, .int 0]))] s.heap := hP
  have hl := lv_entry ([.ref h0]) (n := 1) (Nat.le_of_ble_eq_true rfl)
  rw [show entryFrame m args 1 = F0 m 0 (lg_sl ([.ref h0]) ++ List.replicate (1 - (lg_sl ([.ref h0])).length) Slot.unset).toArray [] from by rw [hargs]; exact lg_entry_eq ..]
  generalize (lg_sl ([.ref h0]) ++ List.replicate (1 - (lg_sl ([.ref h0])).length) Slot.unset).toArray = ls at hl ⊢
  have hl : lv_has ls 1 [(0, .ref h0)] := hl
  refine W_genQ (fun Q hQ => ?_)
  refine lv_aload_n hx hb dX9_init_0 rfl (lv_at hl 0 rfl) ?_
  have hPc := hP.sub (ws' := [(h0, .inr (9, [.null, .null, .int 0]))]) [0] rfl
  have hKc := hK.sub (tys' := []) [] rfl
  have hDc := hD.sub (ws' := [(h0, .inr (9, [.null, .null, .int 0]))]) [0] (by decide) rfl
  have hFc := va_free (wc := [(h0, .inr (9, [.null, .null, .int 0]))]) hD hS hA [0] rfl
  refine va_callv (va_runIN (As := []) (rest := []) ⟨hx, hb, hml, hown, hg⟩ (i_X3_9 l D h0 _) ⟨va_cnB 0 hg (gw_I kw_98) rfl rfl rfl (hN.1 (RX9, 3, yX3_init) (by decide +kernel)) (hg _ kw_99) (by decide +kernel) ⟨Nat.le_of_ble_eq_true rfl, Nat.le_of_ble_eq_true rfl⟩, rfl, hg _ kw_100⟩ (pr_C hKc hPc hDc hN) rfl rfl hl.1 rfl (lv_room (Nat.le_of_ble_eq_true rfl)) dX9_init_1 ⟨Nat.le_of_ble_eq_true rfl, Nat.le_of_ble_eq_true rfl⟩) hS (fun q _ h => hFc q h) hFc (fun u t H1 locs ht hvm h_1 hB hz1 hk1 hS => ?_)
  obtain ⟨nq_1, cQ_1, hP1, hK1, hD1⟩ := hB
  rw [ht] at hP1
  have hK1 := va_K.moved hvm.symm hK1
  obtain ⟨hP, hD⟩ := va_join (wr := []) (w1 := [(h0, .inr (9, [.ref nq_1, .null, .int 0])), (nq_1, .inl (cQ_1, 4, .inl (fun _ => 0)))]) hP hD [0] [] rfl rfl (by decide) (by decide) hk1 hFc hP1 hD1
  have hK := hK.app hK1
  generalize H1 = H at hP hS ⊢
  have hP : va_P D vwCl [(h0, .inr (9, [.ref nq_1, .null, .int 0])), (nq_1, .inl (cQ_1, 4, .inl (fun _ => 0)))] H := hP
  have hD : va_D A [(h0, .inr (9, [.ref nq_1, .null, .int 0])), (nq_1, .inl (cQ_1, 4, .inl (fun _ => 0)))] := hD
  have hK : va_K D vwCl [(cQ_1, .int)] s := hK
  refine W.cs (cells' := 1) (slots' := 4) rfl rfl ?_
  try dsimp only at h_1
  subst hQ
  refine W.widen (k := 1) (n := 4) (Nat.le_of_ble_eq_true rfl) (Nat.le_of_ble_eq_true rfl) ?_
  have hP9 := hP.sub (ws' := [(h0, .inr (9, [.ref nq_1, .null, .int 0])), (nq_1, .inl (cQ_1, 4, .inl (fun _ => 0)))]) [0, 1] rfl
  have hD9 := hD.sub (ws' := [(h0, .inr (9, [.ref nq_1, .null, .int 0])), (nq_1, .inl (cQ_1, 4, .inl (fun _ => 0)))]) [0, 1] (by decide) rfl
  have hK9 := hK.sub (tys' := [(cQ_1, .int)]) [0] rfl
  exact W.vret hx hb hr (fun t ht hW => ⟨⟨(), rfl, trivial, ⟨nq_1, cQ_1, by rw [ht]; exact hP9, va_K.moved hW.alike hK9, hD9⟩⟩, hS.F ht⟩) hS.2.2 dX9_init_4

set_option maxHeartbeats 4000000 in
set_option maxRecDepth 100000 in
theorem i_X9_1 (l : Launch) (D : va_G) (h0 : Nat) (sz : Nat) : Met l yX9_init (Cond.code yX9_init cX9_init 1 none :: gw_tbl) ({ frames := 2, cells := 1, slots := 4, locals := 32 }) (pc_C D [] [(h0, .inr (1, [.null, .null, .int 0]))] sz [.ref h0]) (va_Qv (fun (u : Unit) => True) (fun _ t => ∃ (nq : Nat), ∃ (cQ : ClassId), va_P D vwCl [(h0, .inr (1, [.ref nq, .null, .int 0])), (nq, .inl (cQ, 4, .inl (fun _ => 0)))] t.heap ∧ va_K D vwCl [(cQ, .int)] t ∧ va_D (va_A [(h0, .inr (1, [.null, .null, .int 0]))] sz) [(h0, .inr (1, [.ref nq, .null, .int 0])), (nq, .inl (cQ, 4, .inl (fun _ => 0)))]) (va_A [(h0, .inr (1, [.null, .null, .int 0]))] sz)) 1 4 (va_A [(h0, .inr (1, [.null, .null, .int 0]))] sz) := by
  refine Met.ofW (cc := cX9_init) (maxL := 1) (ret := none) (by decide) rfl ?_
  intro p e s m args below meth c s₁ B hml hv
  obtain ⟨hargs, hsz, hP, hK, hD0, hN⟩ := hv
  have hx := B.exec
  have hb := B.bytes
  have hr := B.returns
  have hts := atoms_spec (ws := Cond.code yX9_init cX9_init 1 none :: gw_tbl) B.pre
  have hg := fun (w : Cond) (h : w ∈ gw_tbl) => hts w (List.mem_cons_of_mem _ h)
  have hown : s.vm.findClass RX9 = some m.cls := findClass_of_methodNamed B.named
  have hlocks := B.notSynchronized
  have hin : meth.name = "<init>" := (name_of_methodNamed B.named B.method).1
  subst hsz
  have hD := hD0.self (sz := s.heap.size)
  generalize hAe : va_A [(h0, .inr (1, [.null, .null, .int 0]))] s.heap.size = A at hD ⊢
  have hA : ∀ q : Nat, s.heap.size ≤ q → A q := fun q h => by rw [← hAe]; exact Or.inr h
  have hS : va_S A s.heap s.heap [] := va_S.rf
  have hP : va_P D vwCl [(h0, .inr (1, [.null, .null, .int 0]))] s.heap := hP
  have hl := lv_entry ([.ref h0]) (n := 1) (Nat.le_of_ble_eq_true rfl)
  rw [show entryFrame m args 1 = F0 m 0 (lg_sl ([.ref h0]) ++ List.replicate (1 - (lg_sl ([.ref h0])).length) Slot.unset).toArray [] from by rw [hargs]; exact lg_entry_eq ..]
  generalize (lg_sl ([.ref h0]) ++ List.replicate (1 - (lg_sl ([.ref h0])).length) Slot.unset).toArray = ls at hl ⊢
  have hl : lv_has ls 1 [(0, .ref h0)] := hl
  refine W_genQ (fun Q hQ => ?_)
  refine lv_aload_n hx hb dX9_init_0 rfl (lv_at hl 0 rfl) ?_
  have hPc := hP.sub (ws' := [(h0, .inr (1, [.null, .null, .int 0]))]) [0] rfl
  have hKc := hK.sub (tys' := []) [] rfl
  have hDc := hD.sub (ws' := [(h0, .inr (1, [.null, .null, .int 0]))]) [0] (by decide) rfl
  have hFc := va_free (wc := [(h0, .inr (1, [.null, .null, .int 0]))]) hD hS hA [0] rfl
  refine va_callv (va_runIN (As := []) (rest := []) ⟨hx, hb, hml, hown, hg⟩ (i_X3_1 l D h0 _) ⟨va_cnB 0 hg (gw_I kw_98) rfl rfl rfl (hN.1 (RX9, 3, yX3_init) (by decide +kernel)) (hg _ kw_99) (by decide +kernel) ⟨Nat.le_of_ble_eq_true rfl, Nat.le_of_ble_eq_true rfl⟩, rfl, hg _ kw_100⟩ (pr_C hKc hPc hDc hN) rfl rfl hl.1 rfl (lv_room (Nat.le_of_ble_eq_true rfl)) dX9_init_1 ⟨Nat.le_of_ble_eq_true rfl, Nat.le_of_ble_eq_true rfl⟩) hS (fun q _ h => hFc q h) hFc (fun u t H1 locs ht hvm h_1 hB hz1 hk1 hS => ?_)
  obtain ⟨nq_1, cQ_1, hP1, hK1, hD1⟩ := hB
  rw [ht] at hP1
  have hK1 := va_K.moved hvm.symm hK1
  obtain ⟨hP, hD⟩ := va_join (wr := []) (w1 := [(h0, .inr (1, [.ref nq_1, .null, .int 0])), (nq_1, .inl (cQ_1, 4, .inl (fun _ => 0)))]) hP hD [0] [] rfl rfl (by decide) (by decide) hk1 hFc hP1 hD1
  have hK := hK.app hK1
  generalize H1 = H at hP hS ⊢
  have hP : va_P D vwCl [(h0, .inr (1, [.ref nq_1, .null, .int 0])), (nq_1, .inl (cQ_1, 4, .inl (fun _ => 0)))] H := hP
  have hD : va_D A [(h0, .inr (1, [.ref nq_1, .null, .int 0])), (nq_1, .inl (cQ_1, 4, .inl (fun _ => 0)))] := hD
  have hK : va_K D vwCl [(cQ_1, .int)] s := hK
  refine W.cs (cells' := 1) (slots' := 4) rfl rfl ?_
  try dsimp only at h_1
  subst hQ
  refine W.widen (k := 1) (n := 4) (Nat.le_of_ble_eq_true rfl) (Nat.le_of_ble_eq_true rfl) ?_
  have hP9 := hP.sub (ws' := [(h0, .inr (1, [.ref nq_1, .null, .int 0])), (nq_1, .inl (cQ_1, 4, .inl (fun _ => 0)))]) [0, 1] rfl
  have hD9 := hD.sub (ws' := [(h0, .inr (1, [.ref nq_1, .null, .int 0])), (nq_1, .inl (cQ_1, 4, .inl (fun _ => 0)))]) [0, 1] (by decide) rfl
  have hK9 := hK.sub (tys' := [(cQ_1, .int)]) [0] rfl
  exact W.vret hx hb hr (fun t ht hW => ⟨⟨(), rfl, trivial, ⟨nq_1, cQ_1, by rw [ht]; exact hP9, va_K.moved hW.alike hK9, hD9⟩⟩, hS.F ht⟩) hS.2.2 dX9_init_4

theorem dX10_init_0 : decode cX10_init 0 = .ok (.aload_n 0, 1) := by decide +kernel
theorem dX10_init_1 : decode cX10_init 1 = .ok (.invokespecial 3, 3) := by decide +kernel
theorem dX10_init_4 : decode cX10_init 4 = .ok (.return_, 1) := by decide +kernel

set_option maxHeartbeats 4000000 in
set_option maxRecDepth 100000 in
theorem i_X10_10 (l : Launch) (D : va_G) (h0 : Nat) (sz : Nat) : Met l yX10_init (Cond.code yX10_init cX10_init 1 none :: gw_tbl) ({ frames := 2, cells := 1, slots := 4, locals := 32 }) (pc_C D [] [(h0, .inr (10, [.null, .null, .int 0]))] sz [.ref h0]) (va_Qv (fun (u : Unit) => True) (fun _ t => ∃ (nq : Nat), ∃ (cQ : ClassId), va_P D vwCl [(h0, .inr (10, [.ref nq, .null, .int 0])), (nq, .inl (cQ, 4, .inl (fun _ => 0)))] t.heap ∧ va_K D vwCl [(cQ, .int)] t ∧ va_D (va_A [(h0, .inr (10, [.null, .null, .int 0]))] sz) [(h0, .inr (10, [.ref nq, .null, .int 0])), (nq, .inl (cQ, 4, .inl (fun _ => 0)))]) (va_A [(h0, .inr (10, [.null, .null, .int 0]))] sz)) 1 4 (va_A [(h0, .inr (10, [.null, .null, .int 0]))] sz) := by
  refine Met.ofW (cc := cX10_init) (maxL := 1) (ret := none) (by decide) rfl ?_
  intro p e s m args below meth c s₁ B hml hv
  obtain ⟨hargs, hsz, hP, hK, hD0, hN⟩ := hv
  have hx := B.exec
  have hb := B.bytes
  have hr := B.returns
  have hts := atoms_spec (ws := Cond.code yX10_init cX10_init 1 none :: gw_tbl) B.pre
  have hg := fun (w : Cond) (h : w ∈ gw_tbl) => hts w (List.mem_cons_of_mem _ h)
  have hown : s.vm.findClass RX10 = some m.cls := findClass_of_methodNamed B.named
  have hlocks := B.notSynchronized
  have hin : meth.name = "<init>" := (name_of_methodNamed B.named B.method).1
  subst hsz
  have hD := hD0.self (sz := s.heap.size)
  generalize hAe : va_A [(h0, .inr (10, [.null, .null, .int 0]))] s.heap.size = A at hD ⊢
  have hA : ∀ q : Nat, s.heap.size ≤ q → A q := fun q h => by rw [← hAe]; exact Or.inr h
  have hS : va_S A s.heap s.heap [] := va_S.rf
  have hP : va_P D vwCl [(h0, .inr (10, [.null, .null, .int 0]))] s.heap := hP
  have hl := lv_entry ([.ref h0]) (n := 1) (Nat.le_of_ble_eq_true rfl)
  rw [show entryFrame m args 1 = F0 m 0 (lg_sl ([.ref h0]) ++ List.replicate (1 - (lg_sl ([.ref h0])).length) Slot.unset).toArray [] from by rw [hargs]; exact lg_entry_eq ..]
  generalize (lg_sl ([.ref h0]) ++ List.replicate (1 - (lg_sl ([.ref h0])).length) Slot.unset).toArray = ls at hl ⊢
  have hl : lv_has ls 1 [(0, .ref h0)] := hl
  refine W_genQ (fun Q hQ => ?_)
  refine lv_aload_n hx hb dX10_init_0 rfl (lv_at hl 0 rfl) ?_
  have hPc := hP.sub (ws' := [(h0, .inr (10, [.null, .null, .int 0]))]) [0] rfl
  have hKc := hK.sub (tys' := []) [] rfl
  have hDc := hD.sub (ws' := [(h0, .inr (10, [.null, .null, .int 0]))]) [0] (by decide) rfl
  have hFc := va_free (wc := [(h0, .inr (10, [.null, .null, .int 0]))]) hD hS hA [0] rfl
  refine va_callv (va_runIN (As := []) (rest := []) ⟨hx, hb, hml, hown, hg⟩ (i_X3_10 l D h0 _) ⟨va_cnB 0 hg (gw_I kw_98) rfl rfl rfl (hN.1 (RX10, 3, yX3_init) (by decide +kernel)) (hg _ kw_99) (by decide +kernel) ⟨Nat.le_of_ble_eq_true rfl, Nat.le_of_ble_eq_true rfl⟩, rfl, hg _ kw_100⟩ (pr_C hKc hPc hDc hN) rfl rfl hl.1 rfl (lv_room (Nat.le_of_ble_eq_true rfl)) dX10_init_1 ⟨Nat.le_of_ble_eq_true rfl, Nat.le_of_ble_eq_true rfl⟩) hS (fun q _ h => hFc q h) hFc (fun u t H1 locs ht hvm h_1 hB hz1 hk1 hS => ?_)
  obtain ⟨nq_1, cQ_1, hP1, hK1, hD1⟩ := hB
  rw [ht] at hP1
  have hK1 := va_K.moved hvm.symm hK1
  obtain ⟨hP, hD⟩ := va_join (wr := []) (w1 := [(h0, .inr (10, [.ref nq_1, .null, .int 0])), (nq_1, .inl (cQ_1, 4, .inl (fun _ => 0)))]) hP hD [0] [] rfl rfl (by decide) (by decide) hk1 hFc hP1 hD1
  have hK := hK.app hK1
  generalize H1 = H at hP hS ⊢
  have hP : va_P D vwCl [(h0, .inr (10, [.ref nq_1, .null, .int 0])), (nq_1, .inl (cQ_1, 4, .inl (fun _ => 0)))] H := hP
  have hD : va_D A [(h0, .inr (10, [.ref nq_1, .null, .int 0])), (nq_1, .inl (cQ_1, 4, .inl (fun _ => 0)))] := hD
  have hK : va_K D vwCl [(cQ_1, .int)] s := hK
  refine W.cs (cells' := 1) (slots' := 4) rfl rfl ?_
  try dsimp only at h_1
  subst hQ
  refine W.widen (k := 1) (n := 4) (Nat.le_of_ble_eq_true rfl) (Nat.le_of_ble_eq_true rfl) ?_
  have hP9 := hP.sub (ws' := [(h0, .inr (10, [.ref nq_1, .null, .int 0])), (nq_1, .inl (cQ_1, 4, .inl (fun _ => 0)))]) [0, 1] rfl
  have hD9 := hD.sub (ws' := [(h0, .inr (10, [.ref nq_1, .null, .int 0])), (nq_1, .inl (cQ_1, 4, .inl (fun _ => 0)))]) [0, 1] (by decide) rfl
  have hK9 := hK.sub (tys' := [(cQ_1, .int)]) [0] rfl
  exact W.vret hx hb hr (fun t ht hW => ⟨⟨(), rfl, trivial, ⟨nq_1, cQ_1, by rw [ht]; exact hP9, va_K.moved hW.alike hK9, hD9⟩⟩, hS.F ht⟩) hS.2.2 dX10_init_4

set_option maxHeartbeats 4000000 in
set_option maxRecDepth 100000 in
theorem i_X10_6 (l : Launch) (D : va_G) (h0 : Nat) (sz : Nat) : Met l yX10_init (Cond.code yX10_init cX10_init 1 none :: gw_tbl) ({ frames := 2, cells := 1, slots := 4, locals := 32 }) (pc_C D [] [(h0, .inr (6, [.null, .null, .int 0]))] sz [.ref h0]) (va_Qv (fun (u : Unit) => True) (fun _ t => ∃ (nq : Nat), ∃ (cQ : ClassId), va_P D vwCl [(h0, .inr (6, [.ref nq, .null, .int 0])), (nq, .inl (cQ, 4, .inl (fun _ => 0)))] t.heap ∧ va_K D vwCl [(cQ, .int)] t ∧ va_D (va_A [(h0, .inr (6, [.null, .null, .int 0]))] sz) [(h0, .inr (6, [.ref nq, .null, .int 0])), (nq, .inl (cQ, 4, .inl (fun _ => 0)))]) (va_A [(h0, .inr (6, [.null, .null, .int 0]))] sz)) 1 4 (va_A [(h0, .inr (6, [.null, .null, .int 0]))] sz) := by
  refine Met.ofW (cc := cX10_init) (maxL := 1) (ret := none) (by decide) rfl ?_
  intro p e s m args below meth c s₁ B hml hv
  obtain ⟨hargs, hsz, hP, hK, hD0, hN⟩ := hv
  have hx := B.exec
  have hb := B.bytes
  have hr := B.returns
  have hts := atoms_spec (ws := Cond.code yX10_init cX10_init 1 none :: gw_tbl) B.pre
  have hg := fun (w : Cond) (h : w ∈ gw_tbl) => hts w (List.mem_cons_of_mem _ h)
  have hown : s.vm.findClass RX10 = some m.cls := findClass_of_methodNamed B.named
  have hlocks := B.notSynchronized
  have hin : meth.name = "<init>" := (name_of_methodNamed B.named B.method).1
  subst hsz
  have hD := hD0.self (sz := s.heap.size)
  generalize hAe : va_A [(h0, .inr (6, [.null, .null, .int 0]))] s.heap.size = A at hD ⊢
  have hA : ∀ q : Nat, s.heap.size ≤ q → A q := fun q h => by rw [← hAe]; exact Or.inr h
  have hS : va_S A s.heap s.heap [] := va_S.rf
  have hP : va_P D vwCl [(h0, .inr (6, [.null, .null, .int 0]))] s.heap := hP
  have hl := lv_entry ([.ref h0]) (n := 1) (Nat.le_of_ble_eq_true rfl)
  rw [show entryFrame m args 1 = F0 m 0 (lg_sl ([.ref h0]) ++ List.replicate (1 - (lg_sl ([.ref h0])).length) Slot.unset).toArray [] from by rw [hargs]; exact lg_entry_eq ..]
  generalize (lg_sl ([.ref h0]) ++ List.replicate (1 - (lg_sl ([.ref h0])).length) Slot.unset).toArray = ls at hl ⊢
  have hl : lv_has ls 1 [(0, .ref h0)] := hl
  refine W_genQ (fun Q hQ => ?_)
  refine lv_aload_n hx hb dX10_init_0 rfl (lv_at hl 0 rfl) ?_
  have hPc := hP.sub (ws' := [(h0, .inr (6, [.null, .null, .int 0]))]) [0] rfl
  have hKc := hK.sub (tys' := []) [] rfl
  have hDc := hD.sub (ws' := [(h0, .inr (6, [.null, .null, .int 0]))]) [0] (by decide) rfl
  have hFc := va_free (wc := [(h0, .inr (6, [.null, .null, .int 0]))]) hD hS hA [0] rfl
  refine va_callv (va_runIN (As := []) (rest := []) ⟨hx, hb, hml, hown, hg⟩ (i_X3_6 l D h0 _) ⟨va_cnB 0 hg (gw_I kw_98) rfl rfl rfl (hN.1 (RX10, 3, yX3_init) (by decide +kernel)) (hg _ kw_99) (by decide +kernel) ⟨Nat.le_of_ble_eq_true rfl, Nat.le_of_ble_eq_true rfl⟩, rfl, hg _ kw_100⟩ (pr_C hKc hPc hDc hN) rfl rfl hl.1 rfl (lv_room (Nat.le_of_ble_eq_true rfl)) dX10_init_1 ⟨Nat.le_of_ble_eq_true rfl, Nat.le_of_ble_eq_true rfl⟩) hS (fun q _ h => hFc q h) hFc (fun u t H1 locs ht hvm h_1 hB hz1 hk1 hS => ?_)
  obtain ⟨nq_1, cQ_1, hP1, hK1, hD1⟩ := hB
  rw [ht] at hP1
  have hK1 := va_K.moved hvm.symm hK1
  obtain ⟨hP, hD⟩ := va_join (wr := []) (w1 := [(h0, .inr (6, [.ref nq_1, .null, .int 0])), (nq_1, .inl (cQ_1, 4, .inl (fun _ => 0)))]) hP hD [0] [] rfl rfl (by decide) (by decide) hk1 hFc hP1 hD1
  have hK := hK.app hK1
  generalize H1 = H at hP hS ⊢
  have hP : va_P D vwCl [(h0, .inr (6, [.ref nq_1, .null, .int 0])), (nq_1, .inl (cQ_1, 4, .inl (fun _ => 0)))] H := hP
  have hD : va_D A [(h0, .inr (6, [.ref nq_1, .null, .int 0])), (nq_1, .inl (cQ_1, 4, .inl (fun _ => 0)))] := hD
  have hK : va_K D vwCl [(cQ_1, .int)] s := hK
  refine W.cs (cells' := 1) (slots' := 4) rfl rfl ?_
  try dsimp only at h_1
  subst hQ
  refine W.widen (k := 1) (n := 4) (Nat.le_of_ble_eq_true rfl) (Nat.le_of_ble_eq_true rfl) ?_
  have hP9 := hP.sub (ws' := [(h0, .inr (6, [.ref nq_1, .null, .int 0])), (nq_1, .inl (cQ_1, 4, .inl (fun _ => 0)))]) [0, 1] rfl
  have hD9 := hD.sub (ws' := [(h0, .inr (6, [.ref nq_1, .null, .int 0])), (nq_1, .inl (cQ_1, 4, .inl (fun _ => 0)))]) [0, 1] (by decide) rfl
  have hK9 := hK.sub (tys' := [(cQ_1, .int)]) [0] rfl
  exact W.vret hx hb hr (fun t ht hW => ⟨⟨(), rfl, trivial, ⟨nq_1, cQ_1, by rw [ht]; exact hP9, va_K.moved hW.alike hK9, hD9⟩⟩, hS.F ht⟩) hS.2.2 dX10_init_4

theorem dX1_init_0 : decode cX1_init 0 = .ok (.aload_n 0, 1) := by decide +kernel
theorem dX1_init_1 : decode cX1_init 1 = .ok (.invokespecial 3, 3) := by decide +kernel
theorem dX1_init_4 : decode cX1_init 4 = .ok (.return_, 1) := by decide +kernel
theorem kw_101 : (.code yX9_init cX9_init 1 none : Cond) ∈ gw_tbl := gw_in (by decide +kernel) (by decide +kernel)
theorem kw_102 : (.initialized RX9 : Cond) ∈ gw_tbl := gw_in (by decide +kernel) (by decide +kernel)
theorem kw_103 : (.instanceMethod yX9_init : Cond) ∈ gw_tbl := gw_in (by decide +kernel) (by decide +kernel)

set_option maxHeartbeats 4000000 in
set_option maxRecDepth 100000 in
theorem i_X1_1 (l : Launch) (D : va_G) (h0 : Nat) (sz : Nat) : Met l yX1_init (Cond.code yX1_init cX1_init 1 none :: gw_tbl) ({ frames := 3, cells := 1, slots := 4, locals := 52 }) (pc_C D [] [(h0, .inr (1, [.null, .null, .int 0]))] sz [.ref h0]) (va_Qv (fun (u : Unit) => True) (fun _ t => ∃ (nq : Nat), ∃ (cQ : ClassId), va_P D vwCl [(h0, .inr (1, [.ref nq, .null, .int 0])), (nq, .inl (cQ, 4, .inl (fun _ => 0)))] t.heap ∧ va_K D vwCl [(cQ, .int)] t ∧ va_D (va_A [(h0, .inr (1, [.null, .null, .int 0]))] sz) [(h0, .inr (1, [.ref nq, .null, .int 0])), (nq, .inl (cQ, 4, .inl (fun _ => 0)))]) (va_A [(h0, .inr (1, [.null, .null, .int 0]))] sz)) 1 4 (va_A [(h0, .inr (1, [.null, .null, .int 0]))] sz) := by
  refine Met.ofW (cc := cX1_init) (maxL := 1) (ret := none) (by decide) rfl ?_
  intro p e s m args below meth c s₁ B hml hv
  obtain ⟨hargs, hsz, hP, hK, hD0, hN⟩ := hv
  have hx := B.exec
  have hb := B.bytes
  have hr := B.returns
  have hts := atoms_spec (ws := Cond.code yX1_init cX1_init 1 none :: gw_tbl) B.pre
  have hg := fun (w : Cond) (h : w ∈ gw_tbl) => hts w (List.mem_cons_of_mem _ h)
  have hown : s.vm.findClass RX1 = some m.cls := findClass_of_methodNamed B.named
  have hlocks := B.notSynchronized
  have hin : meth.name = "<init>" := (name_of_methodNamed B.named B.method).1
  subst hsz
  have hD := hD0.self (sz := s.heap.size)
  generalize hAe : va_A [(h0, .inr (1, [.null, .null, .int 0]))] s.heap.size = A at hD ⊢
  have hA : ∀ q : Nat, s.heap.size ≤ q → A q := fun q h => by rw [← hAe]; exact Or.inr h
  have hS : va_S A s.heap s.heap [] := va_S.rf
  have hP : va_P D vwCl [(h0, .inr (1, [.null, .null, .int 0]))] s.heap := hP
  have hl := lv_entry ([.ref h0]) (n := 1) (Nat.le_of_ble_eq_true rfl)
  rw [show entryFrame m args 1 = F0 m 0 (lg_sl ([.ref h0]) ++ List.replicate (1 - (lg_sl ([.ref h0])).length) Slot.unset).toArray [] from by rw [hargs]; exact lg_entry_eq ..]
  generalize (lg_sl ([.ref h0]) ++ List.replicate (1 - (lg_sl ([.ref h0])).length) Slot.unset).toArray = ls at hl ⊢
  have hl : lv_has ls 1 [(0, .ref h0)] := hl
  refine W_genQ (fun Q hQ => ?_)
  refine lv_aload_n hx hb dX1_init_0 rfl (lv_at hl 0 rfl) ?_
  have hPc := hP.sub (ws' := [(h0, .inr (1, [.null, .null, .int 0]))]) [0] rfl
  have hKc := hK.sub (tys' := []) [] rfl
  have hDc := hD.sub (ws' := [(h0, .inr (1, [.null, .null, .int 0]))]) [0] (by decide) rfl
  have hFc := va_free (wc := [(h0, .inr (1, [.null, .null, .int 0]))]) hD hS hA [0] rfl
  refine va_callv (va_runIN (As := []) (rest := []) ⟨hx, hb, hml, hown, hg⟩ (i_X9_1 l D h0 _) ⟨va_cnB 0 hg (gw_I kw_101) rfl rfl rfl (hN.1 (RX1, 3, yX9_init) (by decide +kernel)) (hg _ kw_102) (by decide +kernel) ⟨Nat.le_of_ble_eq_true rfl, Nat.le_of_ble_eq_true rfl⟩, rfl, hg _ kw_103⟩ (pr_C hKc hPc hDc hN) rfl rfl hl.1 rfl (lv_room (Nat.le_of_ble_eq_true rfl)) dX1_init_1 ⟨Nat.le_of_ble_eq_true rfl, Nat.le_of_ble_eq_true rfl⟩) hS (fun q _ h => hFc q h) hFc (fun u t H1 locs ht hvm h_1 hB hz1 hk1 hS => ?_)
  obtain ⟨nq_1, cQ_1, hP1, hK1, hD1⟩ := hB
  rw [ht] at hP1
  have hK1 := va_K.moved hvm.symm hK1
  obtain ⟨hP, hD⟩ := va_join (wr := []) (w1 := [(h0, .inr (1, [.ref nq_1, .null, .int 0])), (nq_1, .inl (cQ_1, 4, .inl (fun _ => 0)))]) hP hD [0] [] rfl rfl (by decide) (by decide) hk1 hFc hP1 hD1
  have hK := hK.app hK1
  generalize H1 = H at hP hS ⊢
  have hP : va_P D vwCl [(h0, .inr (1, [.ref nq_1, .null, .int 0])), (nq_1, .inl (cQ_1, 4, .inl (fun _ => 0)))] H := hP
  have hD : va_D A [(h0, .inr (1, [.ref nq_1, .null, .int 0])), (nq_1, .inl (cQ_1, 4, .inl (fun _ => 0)))] := hD
  have hK : va_K D vwCl [(cQ_1, .int)] s := hK
  refine W.cs (cells' := 1) (slots' := 4) rfl rfl ?_
  try dsimp only at h_1
  subst hQ
  refine W.widen (k := 1) (n := 4) (Nat.le_of_ble_eq_true rfl) (Nat.le_of_ble_eq_true rfl) ?_
  have hP9 := hP.sub (ws' := [(h0, .inr (1, [.ref nq_1, .null, .int 0])), (nq_1, .inl (cQ_1, 4, .inl (fun _ => 0)))]) [0, 1] rfl
  have hD9 := hD.sub (ws' := [(h0, .inr (1, [.ref nq_1, .null, .int 0])), (nq_1, .inl (cQ_1, 4, .inl (fun _ => 0)))]) [0, 1] (by decide) rfl
  have hK9 := hK.sub (tys' := [(cQ_1, .int)]) [0] rfl
  exact W.vret hx hb hr (fun t ht hW => ⟨⟨(), rfl, trivial, ⟨nq_1, cQ_1, by rw [ht]; exact hP9, va_K.moved hW.alike hK9, hD9⟩⟩, hS.F ht⟩) hS.2.2 dX1_init_4

theorem dX6_init_0 : decode cX6_init 0 = .ok (.aload_n 0, 1) := by decide +kernel
theorem dX6_init_1 : decode cX6_init 1 = .ok (.invokespecial 3, 3) := by decide +kernel
theorem dX6_init_4 : decode cX6_init 4 = .ok (.return_, 1) := by decide +kernel
theorem kw_104 : (.code yX10_init cX10_init 1 none : Cond) ∈ gw_tbl := gw_in (by decide +kernel) (by decide +kernel)
theorem kw_105 : (.initialized RX10 : Cond) ∈ gw_tbl := gw_in (by decide +kernel) (by decide +kernel)
theorem kw_106 : (.instanceMethod yX10_init : Cond) ∈ gw_tbl := gw_in (by decide +kernel) (by decide +kernel)

set_option maxHeartbeats 4000000 in
set_option maxRecDepth 100000 in
theorem i_X6_6 (l : Launch) (D : va_G) (h0 : Nat) (sz : Nat) : Met l yX6_init (Cond.code yX6_init cX6_init 1 none :: gw_tbl) ({ frames := 3, cells := 1, slots := 4, locals := 52 }) (pc_C D [] [(h0, .inr (6, [.null, .null, .int 0]))] sz [.ref h0]) (va_Qv (fun (u : Unit) => True) (fun _ t => ∃ (nq : Nat), ∃ (cQ : ClassId), va_P D vwCl [(h0, .inr (6, [.ref nq, .null, .int 0])), (nq, .inl (cQ, 4, .inl (fun _ => 0)))] t.heap ∧ va_K D vwCl [(cQ, .int)] t ∧ va_D (va_A [(h0, .inr (6, [.null, .null, .int 0]))] sz) [(h0, .inr (6, [.ref nq, .null, .int 0])), (nq, .inl (cQ, 4, .inl (fun _ => 0)))]) (va_A [(h0, .inr (6, [.null, .null, .int 0]))] sz)) 1 4 (va_A [(h0, .inr (6, [.null, .null, .int 0]))] sz) := by
  refine Met.ofW (cc := cX6_init) (maxL := 1) (ret := none) (by decide) rfl ?_
  intro p e s m args below meth c s₁ B hml hv
  obtain ⟨hargs, hsz, hP, hK, hD0, hN⟩ := hv
  have hx := B.exec
  have hb := B.bytes
  have hr := B.returns
  have hts := atoms_spec (ws := Cond.code yX6_init cX6_init 1 none :: gw_tbl) B.pre
  have hg := fun (w : Cond) (h : w ∈ gw_tbl) => hts w (List.mem_cons_of_mem _ h)
  have hown : s.vm.findClass RX6 = some m.cls := findClass_of_methodNamed B.named
  have hlocks := B.notSynchronized
  have hin : meth.name = "<init>" := (name_of_methodNamed B.named B.method).1
  subst hsz
  have hD := hD0.self (sz := s.heap.size)
  generalize hAe : va_A [(h0, .inr (6, [.null, .null, .int 0]))] s.heap.size = A at hD ⊢
  have hA : ∀ q : Nat, s.heap.size ≤ q → A q := fun q h => by rw [← hAe]; exact Or.inr h
  have hS : va_S A s.heap s.heap [] := va_S.rf
  have hP : va_P D vwCl [(h0, .inr (6, [.null, .null, .int 0]))] s.heap := hP
  have hl := lv_entry ([.ref h0]) (n := 1) (Nat.le_of_ble_eq_true rfl)
  rw [show entryFrame m args 1 = F0 m 0 (lg_sl ([.ref h0]) ++ List.replicate (1 - (lg_sl ([.ref h0])).length) Slot.unset).toArray [] from by rw [hargs]; exact lg_entry_eq ..]
  generalize (lg_sl ([.ref h0]) ++ List.replicate (1 - (lg_sl ([.ref h0])).length) Slot.unset).toArray = ls at hl ⊢
  have hl : lv_has ls 1 [(0, .ref h0)] := hl
  refine W_genQ (fun Q hQ => ?_)
  refine lv_aload_n hx hb dX6_init_0 rfl (lv_at hl 0 rfl) ?_
  have hPc := hP.sub (ws' := [(h0, .inr (6, [.null, .null, .int 0]))]) [0] rfl
  have hKc := hK.sub (tys' := []) [] rfl
  have hDc := hD.sub (ws' := [(h0, .inr (6, [.null, .null, .int 0]))]) [0] (by decide) rfl
  have hFc := va_free (wc := [(h0, .inr (6, [.null, .null, .int 0]))]) hD hS hA [0] rfl
  refine va_callv (va_runIN (As := []) (rest := []) ⟨hx, hb, hml, hown, hg⟩ (i_X10_6 l D h0 _) ⟨va_cnB 0 hg (gw_I kw_104) rfl rfl rfl (hN.1 (RX6, 3, yX10_init) (by decide +kernel)) (hg _ kw_105) (by decide +kernel) ⟨Nat.le_of_ble_eq_true rfl, Nat.le_of_ble_eq_true rfl⟩, rfl, hg _ kw_106⟩ (pr_C hKc hPc hDc hN) rfl rfl hl.1 rfl (lv_room (Nat.le_of_ble_eq_true rfl)) dX6_init_1 ⟨Nat.le_of_ble_eq_true rfl, Nat.le_of_ble_eq_true rfl⟩) hS (fun q _ h => hFc q h) hFc (fun u t H1 locs ht hvm h_1 hB hz1 hk1 hS => ?_)
  obtain ⟨nq_1, cQ_1, hP1, hK1, hD1⟩ := hB
  rw [ht] at hP1
  have hK1 := va_K.moved hvm.symm hK1
  obtain ⟨hP, hD⟩ := va_join (wr := []) (w1 := [(h0, .inr (6, [.ref nq_1, .null, .int 0])), (nq_1, .inl (cQ_1, 4, .inl (fun _ => 0)))]) hP hD [0] [] rfl rfl (by decide) (by decide) hk1 hFc hP1 hD1
  have hK := hK.app hK1
  generalize H1 = H at hP hS ⊢
  have hP : va_P D vwCl [(h0, .inr (6, [.ref nq_1, .null, .int 0])), (nq_1, .inl (cQ_1, 4, .inl (fun _ => 0)))] H := hP
  have hD : va_D A [(h0, .inr (6, [.ref nq_1, .null, .int 0])), (nq_1, .inl (cQ_1, 4, .inl (fun _ => 0)))] := hD
  have hK : va_K D vwCl [(cQ_1, .int)] s := hK
  refine W.cs (cells' := 1) (slots' := 4) rfl rfl ?_
  try dsimp only at h_1
  subst hQ
  refine W.widen (k := 1) (n := 4) (Nat.le_of_ble_eq_true rfl) (Nat.le_of_ble_eq_true rfl) ?_
  have hP9 := hP.sub (ws' := [(h0, .inr (6, [.ref nq_1, .null, .int 0])), (nq_1, .inl (cQ_1, 4, .inl (fun _ => 0)))]) [0, 1] rfl
  have hD9 := hD.sub (ws' := [(h0, .inr (6, [.ref nq_1, .null, .int 0])), (nq_1, .inl (cQ_1, 4, .inl (fun _ => 0)))]) [0, 1] (by decide) rfl
  have hK9 := hK.sub (tys' := [(cQ_1, .int)]) [0] rfl
  exact W.vret hx hb hr (fun t ht hW => ⟨⟨(), rfl, trivial, ⟨nq_1, cQ_1, by rw [ht]; exact hP9, va_K.moved hW.alike hK9, hD9⟩⟩, hS.F ht⟩) hS.2.2 dX6_init_4

theorem dX11_madeOf_0 : decode cX11_madeOf 0 = .ok (.iload_n 0, 1) := by decide +kernel
theorem dX11_madeOf_1 : decode cX11_madeOf 1 = .ok (.tableswitch 63 1 4 #[31, 39, 47, 55], 31) := by decide +kernel
theorem dX11_madeOf_32 : decode cX11_madeOf 32 = .ok (.new 334, 3) := by decide +kernel
theorem dX11_madeOf_35 : decode cX11_madeOf 35 = .ok (.dup, 1) := by decide +kernel
theorem dX11_madeOf_36 : decode cX11_madeOf 36 = .ok (.invokespecial 336, 3) := by decide +kernel
theorem dX11_madeOf_39 : decode cX11_madeOf 39 = .ok (.areturn, 1) := by decide +kernel
theorem dX11_madeOf_40 : decode cX11_madeOf 40 = .ok (.new 337, 3) := by decide +kernel
theorem dX11_madeOf_43 : decode cX11_madeOf 43 = .ok (.dup, 1) := by decide +kernel
theorem dX11_madeOf_44 : decode cX11_madeOf 44 = .ok (.invokespecial 339, 3) := by decide +kernel
theorem dX11_madeOf_47 : decode cX11_madeOf 47 = .ok (.areturn, 1) := by decide +kernel
theorem dX11_madeOf_48 : decode cX11_madeOf 48 = .ok (.new 340, 3) := by decide +kernel
theorem dX11_madeOf_51 : decode cX11_madeOf 51 = .ok (.dup, 1) := by decide +kernel
theorem dX11_madeOf_52 : decode cX11_madeOf 52 = .ok (.invokespecial 342, 3) := by decide +kernel
theorem dX11_madeOf_55 : decode cX11_madeOf 55 = .ok (.areturn, 1) := by decide +kernel
theorem dX11_madeOf_56 : decode cX11_madeOf 56 = .ok (.new 343, 3) := by decide +kernel
theorem dX11_madeOf_59 : decode cX11_madeOf 59 = .ok (.dup, 1) := by decide +kernel
theorem dX11_madeOf_60 : decode cX11_madeOf 60 = .ok (.invokespecial 345, 3) := by decide +kernel
theorem dX11_madeOf_63 : decode cX11_madeOf 63 = .ok (.areturn, 1) := by decide +kernel
theorem dX11_madeOf_64 : decode cX11_madeOf 64 = .ok (.new 30, 3) := by decide +kernel
theorem dX11_madeOf_67 : decode cX11_madeOf 67 = .ok (.dup, 1) := by decide +kernel
theorem dX11_madeOf_68 : decode cX11_madeOf 68 = .ok (.invokespecial 346, 3) := by decide +kernel
theorem dX11_madeOf_71 : decode cX11_madeOf 71 = .ok (.areturn, 1) := by decide +kernel
theorem kw_107 : (.classLink RX11 30 RX3 : Cond) ∈ gw_tbl := gw_in (by decide +kernel) (by decide +kernel)
theorem kw_108 : (.instantiable RX3 3 : Cond) ∈ gw_tbl := gw_in (by decide +kernel) (by decide +kernel)

set_option maxHeartbeats 4000000 in
set_option maxRecDepth 100000 in
theorem x_madeOf_0 (l : Launch) (D : va_G) (sz : Nat) : Met l yX11_madeOf (Cond.code yX11_madeOf cX11_madeOf 1 (some (.object "NobodyChecks$Pay")) :: gw_tbl) ({ frames := 2, cells := 2, slots := 7, locals := 32 }) (pc_C D [] [] sz [.int 0]) (va_Qr (fun (u : Unit) => True) (fun _ ra t => ∃ (nq : Nat), ∃ (cQ : ClassId), va_P D vwCl [(ra, .inr (3, [.ref nq, .null, .int 0])), (nq, .inl (cQ, 4, .inl (fun _ => 0)))] t.heap ∧ va_K D vwCl [(cQ, .int)] t ∧ va_D (va_A [] sz) [(ra, .inr (3, [.ref nq, .null, .int 0])), (nq, .inl (cQ, 4, .inl (fun _ => 0)))]) (va_A [] sz)) 2 7 (va_A [] sz) := by
  refine Met.ofW (cc := cX11_madeOf) (maxL := 1) (ret := (some (.object "NobodyChecks$Pay"))) (by decide) rfl ?_
  intro p e s m args below meth c s₁ B hml hv
  obtain ⟨hargs, hsz, hP, hK, hD0, hN⟩ := hv
  have hx := B.exec
  have hb := B.bytes
  have hr := B.returns
  have hts := atoms_spec (ws := Cond.code yX11_madeOf cX11_madeOf 1 (some (.object "NobodyChecks$Pay")) :: gw_tbl) B.pre
  have hg := fun (w : Cond) (h : w ∈ gw_tbl) => hts w (List.mem_cons_of_mem _ h)
  have hown : s.vm.findClass RX11 = some m.cls := findClass_of_methodNamed B.named
  have hlocks := B.notSynchronized
  subst hsz
  have hD := hD0.self (sz := s.heap.size)
  generalize hAe : va_A [] s.heap.size = A at hD ⊢
  have hA : ∀ q : Nat, s.heap.size ≤ q → A q := fun q h => by rw [← hAe]; exact Or.inr h
  have hS : va_S A s.heap s.heap [] := va_S.rf
  have hP : va_P D vwCl [] s.heap := hP
  have hl := lv_entry ([.int 0]) (n := 1) (Nat.le_of_ble_eq_true rfl)
  rw [show entryFrame m args 1 = F0 m 0 (lg_sl ([.int 0]) ++ List.replicate (1 - (lg_sl ([.int 0])).length) Slot.unset).toArray [] from by rw [hargs]; exact lg_entry_eq ..]
  generalize (lg_sl ([.int 0]) ++ List.replicate (1 - (lg_sl ([.int 0])).length) Slot.unset).toArray = ls at hl ⊢
  have hl : lv_has ls 1 [(0, .int 0)] := hl
  refine W_genQ (fun Q hQ => ?_)
  refine lv_iload_n hx hb dX11_madeOf_0 rfl (lv_at hl 0 rfl) ?_
  refine lv_tableOut (tgt := 64) hx hb dX11_madeOf_1 (by decide) (by decide) ?_
  refine va_new (ci := 3) (fs := [.null, .null, .int 0]) (C := RX3) (T := TX3) (N := 3) hx hb hg gwX3 tyX3 tyX3_ok hown (hg _ kw_107) (hg _ kw_108) (hg _ kw_99) hK hP hD hS hA rfl (by decide +kernel) (Nat.le_of_ble_eq_true rfl) (Nat.le_of_ble_eq_true rfl) dX11_madeOf_64 (fun q_64 H hP hD hS => ?_)
  have hP : va_P D vwCl [(q_64, .inr (3, [.null, .null, .int 0]))] H := hP
  have hD : va_D A [(q_64, .inr (3, [.null, .null, .int 0]))] := hD
  refine W.cs (cells' := 1) (slots' := 3) rfl rfl ?_
  refine lv_dup hx hb dX11_madeOf_67 rfl ?_
  have hPc := hP.sub (ws' := [(q_64, .inr (3, [.null, .null, .int 0]))]) [0] rfl
  have hKc := hK.sub (tys' := []) [] rfl
  have hDc := hD.sub (ws' := [(q_64, .inr (3, [.null, .null, .int 0]))]) [0] (by decide) rfl
  have hFc := va_free (wc := [(q_64, .inr (3, [.null, .null, .int 0]))]) hD hS hA [0] rfl
  refine va_callv (va_runIN (As := []) (rest := [.ref q_64]) ⟨hx, hb, hml, hown, hg⟩ (i_X3_3 l D q_64 _) ⟨va_cnB 0 hg (gw_I kw_98) rfl rfl rfl (hN.1 (RX11, 346, yX3_init) (by decide +kernel)) (hg _ kw_99) (by decide +kernel) ⟨Nat.le_of_ble_eq_true rfl, Nat.le_of_ble_eq_true rfl⟩, rfl, hg _ kw_100⟩ (pr_C hKc hPc hDc hN) rfl rfl hl.1 rfl (lv_room (Nat.le_of_ble_eq_true rfl)) dX11_madeOf_68 ⟨Nat.le_of_ble_eq_true rfl, Nat.le_of_ble_eq_true rfl⟩) hS (fun q _ h => hFc q h) hFc (fun u t H1 locs ht hvm h_68 hB hz1 hk1 hS => ?_)
  obtain ⟨nq_68, cQ_68, hP1, hK1, hD1⟩ := hB
  rw [ht] at hP1
  have hK1 := va_K.moved hvm.symm hK1
  obtain ⟨hP, hD⟩ := va_join (wr := []) (w1 := [(q_64, .inr (3, [.ref nq_68, .null, .int 0])), (nq_68, .inl (cQ_68, 4, .inl (fun _ => 0)))]) hP hD [0] [] rfl rfl (by decide) (by decide) hk1 hFc hP1 hD1
  have hK := hK.app hK1
  generalize H1 = H at hP hS ⊢
  have hP : va_P D vwCl [(q_64, .inr (3, [.ref nq_68, .null, .int 0])), (nq_68, .inl (cQ_68, 4, .inl (fun _ => 0)))] H := hP
  have hD : va_D A [(q_64, .inr (3, [.ref nq_68, .null, .int 0])), (nq_68, .inl (cQ_68, 4, .inl (fun _ => 0)))] := hD
  have hK : va_K D vwCl [(cQ_68, .int)] s := hK
  refine W.cs (cells' := 2) (slots' := 7) rfl rfl ?_
  try dsimp only at h_68
  subst hQ
  refine W.widen (k := 2) (n := 7) (Nat.le_of_ble_eq_true rfl) (Nat.le_of_ble_eq_true rfl) ?_
  have hP9 := hP.sub (ws' := [(q_64, .inr (3, [.ref nq_68, .null, .int 0])), (nq_68, .inl (cQ_68, 4, .inl (fun _ => 0)))]) [0, 1] rfl
  have hD9 := hD.sub (ws' := [(q_64, .inr (3, [.ref nq_68, .null, .int 0])), (nq_68, .inl (cQ_68, 4, .inl (fun _ => 0)))]) [0, 1] (by decide) rfl
  have hK9 := hK.sub (tys' := [(cQ_68, .int)]) [0] rfl
  exact W.aret (v := .ref q_64) hx hb hr (Or.inl ⟨_, rfl⟩) (Or.inr ⟨_, rfl⟩) (fun t ht hW => ⟨⟨(), q_64, rfl, trivial, ⟨nq_68, cQ_68, by rw [ht]; exact hP9, va_K.moved hW.alike hK9, hD9⟩⟩, hS.F ht⟩) hS.2.2 dX11_madeOf_71

theorem dX3_become_0 : decode cX3_become 0 = .ok (.aload_n 0, 1) := by decide +kernel
theorem dX3_become_1 : decode cX3_become 1 = .ok (.getfield 9, 3) := by decide +kernel
theorem dX3_become_4 : decode cX3_become 4 = .ok (.iconst 0, 1) := by decide +kernel
theorem dX3_become_5 : decode cX3_become 5 = .ok (.iload_n 1, 1) := by decide +kernel
theorem dX3_become_6 : decode cX3_become 6 = .ok (.iastore, 1) := by decide +kernel
theorem dX3_become_7 : decode cX3_become 7 = .ok (.aload_n 0, 1) := by decide +kernel
theorem dX3_become_8 : decode cX3_become 8 = .ok (.getfield 9, 3) := by decide +kernel
theorem dX3_become_11 : decode cX3_become 11 = .ok (.iconst 1, 1) := by decide +kernel
theorem dX3_become_12 : decode cX3_become 12 = .ok (.iload_n 2, 1) := by decide +kernel
theorem dX3_become_13 : decode cX3_become 13 = .ok (.iastore, 1) := by decide +kernel
theorem dX3_become_14 : decode cX3_become 14 = .ok (.aload_n 0, 1) := by decide +kernel
theorem dX3_become_15 : decode cX3_become 15 = .ok (.getfield 9, 3) := by decide +kernel
theorem dX3_become_18 : decode cX3_become 18 = .ok (.iconst 2, 1) := by decide +kernel
theorem dX3_become_19 : decode cX3_become 19 = .ok (.iload_n 3, 1) := by decide +kernel
theorem dX3_become_20 : decode cX3_become 20 = .ok (.iastore, 1) := by decide +kernel
theorem dX3_become_21 : decode cX3_become 21 = .ok (.aload_n 0, 1) := by decide +kernel
theorem dX3_become_22 : decode cX3_become 22 = .ok (.getfield 9, 3) := by decide +kernel
theorem dX3_become_25 : decode cX3_become 25 = .ok (.iconst 3, 1) := by decide +kernel
theorem dX3_become_26 : decode cX3_become 26 = .ok (.iload 4, 2) := by decide +kernel
theorem dX3_become_28 : decode cX3_become 28 = .ok (.iastore, 1) := by decide +kernel
theorem dX3_become_29 : decode cX3_become 29 = .ok (.return_, 1) := by decide +kernel

set_option maxHeartbeats 4000000 in
set_option maxRecDepth 100000 in
theorem p_become_3 (l : Launch) (D : va_G) (h0 : Nat) (nq : Nat) (cQ : ClassId) (nf : Nat → Int32) (p1 : Int32) (p2 : Int32) (p3 : Int32) (p4 : Int32) (sz : Nat) : Met l yX3_become (Cond.code yX3_become cX3_become 5 none :: gw_tbl) ({ frames := 0, cells := 0, slots := 0, locals := 0 }) (pc_M D [(cQ, .int)] [(h0, .inr (3, [.ref nq, .null, .int 0])), (nq, .inl (cQ, 4, .inl nf))] sz [.ref h0, .int p1, .int p2, .int p3, .int p4]) (va_Qv (fun (u : Unit) => True) (fun _ t => ∃ (nf2 : Nat → Int32), va_P D vwCl [(h0, .inr (3, [.ref nq, .null, .int 0])), (nq, .inl (cQ, 4, .inl nf2))] t.heap ∧ va_K D vwCl [] t ∧ va_D (va_A [(h0, .inr (3, [.ref nq, .null, .int 0])), (nq, .inl (cQ, 4, .inl nf))] sz) [(h0, .inr (3, [.ref nq, .null, .int 0])), (nq, .inl (cQ, 4, .inl nf2))]) (va_A [(h0, .inr (3, [.ref nq, .null, .int 0])), (nq, .inl (cQ, 4, .inl nf))] sz)) 0 0 (va_A [(h0, .inr (3, [.ref nq, .null, .int 0])), (nq, .inl (cQ, 4, .inl nf))] sz) := by
  refine Met.ofW (cc := cX3_become) (maxL := 5) (ret := none) (by decide) rfl ?_
  intro p e s m args below meth c s₁ B hml hv
  obtain ⟨hargs, hsz, hP, hK, hD0⟩ := hv
  have hx := B.exec
  have hb := B.bytes
  have hr := B.returns
  have hts := atoms_spec (ws := Cond.code yX3_become cX3_become 5 none :: gw_tbl) B.pre
  have hg := fun (w : Cond) (h : w ∈ gw_tbl) => hts w (List.mem_cons_of_mem _ h)
  have hown : s.vm.findClass RX3 = some m.cls := findClass_of_methodNamed B.named
  have hlocks := B.notSynchronized
  subst hsz
  have hD := hD0.self (sz := s.heap.size)
  generalize hAe : va_A [(h0, .inr (3, [.ref nq, .null, .int 0])), (nq, .inl (cQ, 4, .inl nf))] s.heap.size = A at hD ⊢
  have hA : ∀ q : Nat, s.heap.size ≤ q → A q := fun q h => by rw [← hAe]; exact Or.inr h
  have hS : va_S A s.heap s.heap [] := va_S.rf
  have hP : va_P D vwCl [(h0, .inr (3, [.ref nq, .null, .int 0])), (nq, .inl (cQ, 4, .inl nf))] s.heap := hP
  have hl := lv_entry ([.ref h0, .int p1, .int p2, .int p3, .int p4]) (n := 5) (Nat.le_of_ble_eq_true rfl)
  rw [show entryFrame m args 5 = F0 m 0 (lg_sl ([.ref h0, .int p1, .int p2, .int p3, .int p4]) ++ List.replicate (5 - (lg_sl ([.ref h0, .int p1, .int p2, .int p3, .int p4])).length) Slot.unset).toArray [] from by rw [hargs]; exact lg_entry_eq ..]
  generalize (lg_sl ([.ref h0, .int p1, .int p2, .int p3, .int p4]) ++ List.replicate (5 - (lg_sl ([.ref h0, .int p1, .int p2, .int p3, .int p4])).length) Slot.unset).toArray = ls at hl ⊢
  have hl : lv_has ls 5 [(0, .ref h0), (1, .int p1), (2, .int p2), (3, .int p3), (4, .int p4)] := hl
  refine W_genQ (fun Q hQ => ?_)
  refine lv_aload_n hx hb dX3_become_0 rfl (lv_at hl 0 rfl) ?_
  refine va_get (D := D) (ci := 3) (v := .ref nq) (C := RX3) (T := TX3) (N := 3) hx hb hg gwX3 hown hK hP 0 rfl rfl 0 (by decide) (hg _ kw_97) (fun _ h9 => h9) rfl dX3_become_1 ?_
  refine lv_iconst (v := 0) hx hb dX3_become_4 (by decide) ?_
  refine lv_iload_n hx hb dX3_become_5 rfl (lv_at hl 1 rfl) ?_
  refine va_iast hx hb hK hP hD hS 1 0 rfl rfl (show ¬ ((0 : Int32) < 0 ∨ 4 ≤ (0 : Int32).toNatClampNeg) by decide) dX3_become_6 (fun H locs hP hD hS => ?_)
  generalize (upd nf (0 : Int32).toNatClampNeg p1) = f_6 at hP hD
  have hP : va_P D vwCl [(h0, .inr (3, [.ref nq, .null, .int 0])), (nq, .inl (cQ, 4, .inl f_6))] H := hP
  have hD : va_D A [(h0, .inr (3, [.ref nq, .null, .int 0])), (nq, .inl (cQ, 4, .inl f_6))] := hD
  refine lv_aload_n hx hb dX3_become_7 rfl (lv_at hl 0 rfl) ?_
  refine va_get (D := D) (ci := 3) (v := .ref nq) (C := RX3) (T := TX3) (N := 3) hx hb hg gwX3 hown hK hP 0 rfl rfl 0 (by decide) (hg _ kw_97) (fun _ h9 => h9) rfl dX3_become_8 ?_
  refine lv_iconst (v := 1) hx hb dX3_become_11 (by decide) ?_
  refine lv_iload_n hx hb dX3_become_12 rfl (lv_at hl 2 rfl) ?_
  refine va_iast hx hb hK hP hD hS 1 0 rfl rfl (show ¬ ((1 : Int32) < 0 ∨ 4 ≤ (1 : Int32).toNatClampNeg) by decide) dX3_become_13 (fun H locs hP hD hS => ?_)
  generalize (upd f_6 (1 : Int32).toNatClampNeg p2) = f_13 at hP hD
  have hP : va_P D vwCl [(h0, .inr (3, [.ref nq, .null, .int 0])), (nq, .inl (cQ, 4, .inl f_13))] H := hP
  have hD : va_D A [(h0, .inr (3, [.ref nq, .null, .int 0])), (nq, .inl (cQ, 4, .inl f_13))] := hD
  refine lv_aload_n hx hb dX3_become_14 rfl (lv_at hl 0 rfl) ?_
  refine va_get (D := D) (ci := 3) (v := .ref nq) (C := RX3) (T := TX3) (N := 3) hx hb hg gwX3 hown hK hP 0 rfl rfl 0 (by decide) (hg _ kw_97) (fun _ h9 => h9) rfl dX3_become_15 ?_
  refine lv_iconst (v := 2) hx hb dX3_become_18 (by decide) ?_
  refine lv_iload_n hx hb dX3_become_19 rfl (lv_at hl 3 rfl) ?_
  refine va_iast hx hb hK hP hD hS 1 0 rfl rfl (show ¬ ((2 : Int32) < 0 ∨ 4 ≤ (2 : Int32).toNatClampNeg) by decide) dX3_become_20 (fun H locs hP hD hS => ?_)
  generalize (upd f_13 (2 : Int32).toNatClampNeg p3) = f_20 at hP hD
  have hP : va_P D vwCl [(h0, .inr (3, [.ref nq, .null, .int 0])), (nq, .inl (cQ, 4, .inl f_20))] H := hP
  have hD : va_D A [(h0, .inr (3, [.ref nq, .null, .int 0])), (nq, .inl (cQ, 4, .inl f_20))] := hD
  refine lv_aload_n hx hb dX3_become_21 rfl (lv_at hl 0 rfl) ?_
  refine va_get (D := D) (ci := 3) (v := .ref nq) (C := RX3) (T := TX3) (N := 3) hx hb hg gwX3 hown hK hP 0 rfl rfl 0 (by decide) (hg _ kw_97) (fun _ h9 => h9) rfl dX3_become_22 ?_
  refine lv_iconst (v := 3) hx hb dX3_become_25 (by decide) ?_
  refine lv_iload hx hb dX3_become_26 (lv_at hl 4 rfl) ?_
  refine va_iast hx hb hK hP hD hS 1 0 rfl rfl (show ¬ ((3 : Int32) < 0 ∨ 4 ≤ (3 : Int32).toNatClampNeg) by decide) dX3_become_28 (fun H locs hP hD hS => ?_)
  generalize (upd f_20 (3 : Int32).toNatClampNeg p4) = f_28 at hP hD
  have hP : va_P D vwCl [(h0, .inr (3, [.ref nq, .null, .int 0])), (nq, .inl (cQ, 4, .inl f_28))] H := hP
  have hD : va_D A [(h0, .inr (3, [.ref nq, .null, .int 0])), (nq, .inl (cQ, 4, .inl f_28))] := hD
  subst hQ
  refine W.widen (k := 0) (n := 0) (Nat.le_of_ble_eq_true rfl) (Nat.le_of_ble_eq_true rfl) ?_
  have hP9 := hP.sub (ws' := [(h0, .inr (3, [.ref nq, .null, .int 0])), (nq, .inl (cQ, 4, .inl f_28))]) [0, 1] rfl
  have hD9 := hD.sub (ws' := [(h0, .inr (3, [.ref nq, .null, .int 0])), (nq, .inl (cQ, 4, .inl f_28))]) [0, 1] (by decide) rfl
  have hK9 := hK.sub (tys' := []) [] rfl
  exact W.vret hx hb hr (fun t ht hW => ⟨⟨(), rfl, trivial, ⟨f_28, by rw [ht]; exact hP9, va_K.moved hW.alike hK9, hD9⟩⟩, hS.F ht⟩) hS.2.2 dX3_become_29

theorem kw_109 : (.classLink RX11 334 RX9 : Cond) ∈ gw_tbl := gw_in (by decide +kernel) (by decide +kernel)
theorem kw_110 : (.instantiable RX9 3 : Cond) ∈ gw_tbl := gw_in (by decide +kernel) (by decide +kernel)

set_option maxHeartbeats 4000000 in
set_option maxRecDepth 100000 in
theorem x_madeOf_1 (l : Launch) (D : va_G) (sz : Nat) : Met l yX11_madeOf (Cond.code yX11_madeOf cX11_madeOf 1 (some (.object "NobodyChecks$Pay")) :: gw_tbl) ({ frames := 3, cells := 2, slots := 7, locals := 52 }) (pc_C D [] [] sz [.int 1]) (va_Qr (fun (u : Unit) => True) (fun _ ra t => ∃ (nq : Nat), ∃ (cQ : ClassId), va_P D vwCl [(ra, .inr (9, [.ref nq, .null, .int 0])), (nq, .inl (cQ, 4, .inl (fun _ => 0)))] t.heap ∧ va_K D vwCl [(cQ, .int)] t ∧ va_D (va_A [] sz) [(ra, .inr (9, [.ref nq, .null, .int 0])), (nq, .inl (cQ, 4, .inl (fun _ => 0)))]) (va_A [] sz)) 2 7 (va_A [] sz) := by
  refine Met.ofW (cc := cX11_madeOf) (maxL := 1) (ret := (some (.object "NobodyChecks$Pay"))) (by decide) rfl ?_
  intro p e s m args below meth c s₁ B hml hv
  obtain ⟨hargs, hsz, hP, hK, hD0, hN⟩ := hv
  have hx := B.exec
  have hb := B.bytes
  have hr := B.returns
  have hts := atoms_spec (ws := Cond.code yX11_madeOf cX11_madeOf 1 (some (.object "NobodyChecks$Pay")) :: gw_tbl) B.pre
  have hg := fun (w : Cond) (h : w ∈ gw_tbl) => hts w (List.mem_cons_of_mem _ h)
  have hown : s.vm.findClass RX11 = some m.cls := findClass_of_methodNamed B.named
  have hlocks := B.notSynchronized
  subst hsz
  have hD := hD0.self (sz := s.heap.size)
  generalize hAe : va_A [] s.heap.size = A at hD ⊢
  have hA : ∀ q : Nat, s.heap.size ≤ q → A q := fun q h => by rw [← hAe]; exact Or.inr h
  have hS : va_S A s.heap s.heap [] := va_S.rf
  have hP : va_P D vwCl [] s.heap := hP
  have hl := lv_entry ([.int 1]) (n := 1) (Nat.le_of_ble_eq_true rfl)
  rw [show entryFrame m args 1 = F0 m 0 (lg_sl ([.int 1]) ++ List.replicate (1 - (lg_sl ([.int 1])).length) Slot.unset).toArray [] from by rw [hargs]; exact lg_entry_eq ..]
  generalize (lg_sl ([.int 1]) ++ List.replicate (1 - (lg_sl ([.int 1])).length) Slot.unset).toArray = ls at hl ⊢
  have hl : lv_has ls 1 [(0, .int 1)] := hl
  refine W_genQ (fun Q hQ => ?_)
  refine lv_iload_n hx hb dX11_madeOf_0 rfl (lv_at hl 0 rfl) ?_
  refine lv_tableIn (tgt := 32) hx hb dX11_madeOf_1 (by decide) (by decide) rfl (by decide) ?_
  refine va_new (ci := 9) (fs := [.null, .null, .int 0]) (C := RX9) (T := TX9) (N := 3) hx hb hg gwX9 tyX9 tyX9_ok hown (hg _ kw_109) (hg _ kw_110) (hg _ kw_102) hK hP hD hS hA rfl (by decide +kernel) (Nat.le_of_ble_eq_true rfl) (Nat.le_of_ble_eq_true rfl) dX11_madeOf_32 (fun q_32 H hP hD hS => ?_)
  have hP : va_P D vwCl [(q_32, .inr (9, [.null, .null, .int 0]))] H := hP
  have hD : va_D A [(q_32, .inr (9, [.null, .null, .int 0]))] := hD
  refine W.cs (cells' := 1) (slots' := 3) rfl rfl ?_
  refine lv_dup hx hb dX11_madeOf_35 rfl ?_
  have hPc := hP.sub (ws' := [(q_32, .inr (9, [.null, .null, .int 0]))]) [0] rfl
  have hKc := hK.sub (tys' := []) [] rfl
  have hDc := hD.sub (ws' := [(q_32, .inr (9, [.null, .null, .int 0]))]) [0] (by decide) rfl
  have hFc := va_free (wc := [(q_32, .inr (9, [.null, .null, .int 0]))]) hD hS hA [0] rfl
  refine va_callv (va_runIN (As := []) (rest := [.ref q_32]) ⟨hx, hb, hml, hown, hg⟩ (i_X9_9 l D q_32 _) ⟨va_cnB 0 hg (gw_I kw_101) rfl rfl rfl (hN.1 (RX11, 336, yX9_init) (by decide +kernel)) (hg _ kw_102) (by decide +kernel) ⟨Nat.le_of_ble_eq_true rfl, Nat.le_of_ble_eq_true rfl⟩, rfl, hg _ kw_103⟩ (pr_C hKc hPc hDc hN) rfl rfl hl.1 rfl (lv_room (Nat.le_of_ble_eq_true rfl)) dX11_madeOf_36 ⟨Nat.le_of_ble_eq_true rfl, Nat.le_of_ble_eq_true rfl⟩) hS (fun q _ h => hFc q h) hFc (fun u t H1 locs ht hvm h_36 hB hz1 hk1 hS => ?_)
  obtain ⟨nq_36, cQ_36, hP1, hK1, hD1⟩ := hB
  rw [ht] at hP1
  have hK1 := va_K.moved hvm.symm hK1
  obtain ⟨hP, hD⟩ := va_join (wr := []) (w1 := [(q_32, .inr (9, [.ref nq_36, .null, .int 0])), (nq_36, .inl (cQ_36, 4, .inl (fun _ => 0)))]) hP hD [0] [] rfl rfl (by decide) (by decide) hk1 hFc hP1 hD1
  have hK := hK.app hK1
  generalize H1 = H at hP hS ⊢
  have hP : va_P D vwCl [(q_32, .inr (9, [.ref nq_36, .null, .int 0])), (nq_36, .inl (cQ_36, 4, .inl (fun _ => 0)))] H := hP
  have hD : va_D A [(q_32, .inr (9, [.ref nq_36, .null, .int 0])), (nq_36, .inl (cQ_36, 4, .inl (fun _ => 0)))] := hD
  have hK : va_K D vwCl [(cQ_36, .int)] s := hK
  refine W.cs (cells' := 2) (slots' := 7) rfl rfl ?_
  try dsimp only at h_36
  subst hQ
  refine W.widen (k := 2) (n := 7) (Nat.le_of_ble_eq_true rfl) (Nat.le_of_ble_eq_true rfl) ?_
  have hP9 := hP.sub (ws' := [(q_32, .inr (9, [.ref nq_36, .null, .int 0])), (nq_36, .inl (cQ_36, 4, .inl (fun _ => 0)))]) [0, 1] rfl
  have hD9 := hD.sub (ws' := [(q_32, .inr (9, [.ref nq_36, .null, .int 0])), (nq_36, .inl (cQ_36, 4, .inl (fun _ => 0)))]) [0, 1] (by decide) rfl
  have hK9 := hK.sub (tys' := [(cQ_36, .int)]) [0] rfl
  exact W.aret (v := .ref q_32) hx hb hr (Or.inl ⟨_, rfl⟩) (Or.inr ⟨_, rfl⟩) (fun t ht hW => ⟨⟨(), q_32, rfl, trivial, ⟨nq_36, cQ_36, by rw [ht]; exact hP9, va_K.moved hW.alike hK9, hD9⟩⟩, hS.F ht⟩) hS.2.2 dX11_madeOf_39

set_option maxHeartbeats 4000000 in
set_option maxRecDepth 100000 in
theorem p_become_9 (l : Launch) (D : va_G) (h0 : Nat) (nq : Nat) (cQ : ClassId) (nf : Nat → Int32) (p1 : Int32) (p2 : Int32) (p3 : Int32) (p4 : Int32) (sz : Nat) : Met l yX3_become (Cond.code yX3_become cX3_become 5 none :: gw_tbl) ({ frames := 0, cells := 0, slots := 0, locals := 0 }) (pc_M D [(cQ, .int)] [(h0, .inr (9, [.ref nq, .null, .int 0])), (nq, .inl (cQ, 4, .inl nf))] sz [.ref h0, .int p1, .int p2, .int p3, .int p4]) (va_Qv (fun (u : Unit) => True) (fun _ t => ∃ (nf2 : Nat → Int32), va_P D vwCl [(h0, .inr (9, [.ref nq, .null, .int 0])), (nq, .inl (cQ, 4, .inl nf2))] t.heap ∧ va_K D vwCl [] t ∧ va_D (va_A [(h0, .inr (9, [.ref nq, .null, .int 0])), (nq, .inl (cQ, 4, .inl nf))] sz) [(h0, .inr (9, [.ref nq, .null, .int 0])), (nq, .inl (cQ, 4, .inl nf2))]) (va_A [(h0, .inr (9, [.ref nq, .null, .int 0])), (nq, .inl (cQ, 4, .inl nf))] sz)) 0 0 (va_A [(h0, .inr (9, [.ref nq, .null, .int 0])), (nq, .inl (cQ, 4, .inl nf))] sz) := by
  refine Met.ofW (cc := cX3_become) (maxL := 5) (ret := none) (by decide) rfl ?_
  intro p e s m args below meth c s₁ B hml hv
  obtain ⟨hargs, hsz, hP, hK, hD0⟩ := hv
  have hx := B.exec
  have hb := B.bytes
  have hr := B.returns
  have hts := atoms_spec (ws := Cond.code yX3_become cX3_become 5 none :: gw_tbl) B.pre
  have hg := fun (w : Cond) (h : w ∈ gw_tbl) => hts w (List.mem_cons_of_mem _ h)
  have hown : s.vm.findClass RX3 = some m.cls := findClass_of_methodNamed B.named
  have hlocks := B.notSynchronized
  subst hsz
  have hD := hD0.self (sz := s.heap.size)
  generalize hAe : va_A [(h0, .inr (9, [.ref nq, .null, .int 0])), (nq, .inl (cQ, 4, .inl nf))] s.heap.size = A at hD ⊢
  have hA : ∀ q : Nat, s.heap.size ≤ q → A q := fun q h => by rw [← hAe]; exact Or.inr h
  have hS : va_S A s.heap s.heap [] := va_S.rf
  have hP : va_P D vwCl [(h0, .inr (9, [.ref nq, .null, .int 0])), (nq, .inl (cQ, 4, .inl nf))] s.heap := hP
  have hl := lv_entry ([.ref h0, .int p1, .int p2, .int p3, .int p4]) (n := 5) (Nat.le_of_ble_eq_true rfl)
  rw [show entryFrame m args 5 = F0 m 0 (lg_sl ([.ref h0, .int p1, .int p2, .int p3, .int p4]) ++ List.replicate (5 - (lg_sl ([.ref h0, .int p1, .int p2, .int p3, .int p4])).length) Slot.unset).toArray [] from by rw [hargs]; exact lg_entry_eq ..]
  generalize (lg_sl ([.ref h0, .int p1, .int p2, .int p3, .int p4]) ++ List.replicate (5 - (lg_sl ([.ref h0, .int p1, .int p2, .int p3, .int p4])).length) Slot.unset).toArray = ls at hl ⊢
  have hl : lv_has ls 5 [(0, .ref h0), (1, .int p1), (2, .int p2), (3, .int p3), (4, .int p4)] := hl
  refine W_genQ (fun Q hQ => ?_)
  refine lv_aload_n hx hb dX3_become_0 rfl (lv_at hl 0 rfl) ?_
  refine va_get (D := D) (ci := 9) (v := .ref nq) (C := RX9) (T := TX9) (N := 3) hx hb hg gwX9 hown hK hP 0 rfl rfl 0 (by decide) (hg _ kw_97) (fun _ h9 => h9) rfl dX3_become_1 ?_
  refine lv_iconst (v := 0) hx hb dX3_become_4 (by decide) ?_
  refine lv_iload_n hx hb dX3_become_5 rfl (lv_at hl 1 rfl) ?_
  refine va_iast hx hb hK hP hD hS 1 0 rfl rfl (show ¬ ((0 : Int32) < 0 ∨ 4 ≤ (0 : Int32).toNatClampNeg) by decide) dX3_become_6 (fun H locs hP hD hS => ?_)
  generalize (upd nf (0 : Int32).toNatClampNeg p1) = f_6 at hP hD
  have hP : va_P D vwCl [(h0, .inr (9, [.ref nq, .null, .int 0])), (nq, .inl (cQ, 4, .inl f_6))] H := hP
  have hD : va_D A [(h0, .inr (9, [.ref nq, .null, .int 0])), (nq, .inl (cQ, 4, .inl f_6))] := hD
  refine lv_aload_n hx hb dX3_become_7 rfl (lv_at hl 0 rfl) ?_
  refine va_get (D := D) (ci := 9) (v := .ref nq) (C := RX9) (T := TX9) (N := 3) hx hb hg gwX9 hown hK hP 0 rfl rfl 0 (by decide) (hg _ kw_97) (fun _ h9 => h9) rfl dX3_become_8 ?_
  refine lv_iconst (v := 1) hx hb dX3_become_11 (by decide) ?_
  refine lv_iload_n hx hb dX3_become_12 rfl (lv_at hl 2 rfl) ?_
  refine va_iast hx hb hK hP hD hS 1 0 rfl rfl (show ¬ ((1 : Int32) < 0 ∨ 4 ≤ (1 : Int32).toNatClampNeg) by decide) dX3_become_13 (fun H locs hP hD hS => ?_)
  generalize (upd f_6 (1 : Int32).toNatClampNeg p2) = f_13 at hP hD
  have hP : va_P D vwCl [(h0, .inr (9, [.ref nq, .null, .int 0])), (nq, .inl (cQ, 4, .inl f_13))] H := hP
  have hD : va_D A [(h0, .inr (9, [.ref nq, .null, .int 0])), (nq, .inl (cQ, 4, .inl f_13))] := hD
  refine lv_aload_n hx hb dX3_become_14 rfl (lv_at hl 0 rfl) ?_
  refine va_get (D := D) (ci := 9) (v := .ref nq) (C := RX9) (T := TX9) (N := 3) hx hb hg gwX9 hown hK hP 0 rfl rfl 0 (by decide) (hg _ kw_97) (fun _ h9 => h9) rfl dX3_become_15 ?_
  refine lv_iconst (v := 2) hx hb dX3_become_18 (by decide) ?_
  refine lv_iload_n hx hb dX3_become_19 rfl (lv_at hl 3 rfl) ?_
  refine va_iast hx hb hK hP hD hS 1 0 rfl rfl (show ¬ ((2 : Int32) < 0 ∨ 4 ≤ (2 : Int32).toNatClampNeg) by decide) dX3_become_20 (fun H locs hP hD hS => ?_)
  generalize (upd f_13 (2 : Int32).toNatClampNeg p3) = f_20 at hP hD
  have hP : va_P D vwCl [(h0, .inr (9, [.ref nq, .null, .int 0])), (nq, .inl (cQ, 4, .inl f_20))] H := hP
  have hD : va_D A [(h0, .inr (9, [.ref nq, .null, .int 0])), (nq, .inl (cQ, 4, .inl f_20))] := hD
  refine lv_aload_n hx hb dX3_become_21 rfl (lv_at hl 0 rfl) ?_
  refine va_get (D := D) (ci := 9) (v := .ref nq) (C := RX9) (T := TX9) (N := 3) hx hb hg gwX9 hown hK hP 0 rfl rfl 0 (by decide) (hg _ kw_97) (fun _ h9 => h9) rfl dX3_become_22 ?_
  refine lv_iconst (v := 3) hx hb dX3_become_25 (by decide) ?_
  refine lv_iload hx hb dX3_become_26 (lv_at hl 4 rfl) ?_
  refine va_iast hx hb hK hP hD hS 1 0 rfl rfl (show ¬ ((3 : Int32) < 0 ∨ 4 ≤ (3 : Int32).toNatClampNeg) by decide) dX3_become_28 (fun H locs hP hD hS => ?_)
  generalize (upd f_20 (3 : Int32).toNatClampNeg p4) = f_28 at hP hD
  have hP : va_P D vwCl [(h0, .inr (9, [.ref nq, .null, .int 0])), (nq, .inl (cQ, 4, .inl f_28))] H := hP
  have hD : va_D A [(h0, .inr (9, [.ref nq, .null, .int 0])), (nq, .inl (cQ, 4, .inl f_28))] := hD
  subst hQ
  refine W.widen (k := 0) (n := 0) (Nat.le_of_ble_eq_true rfl) (Nat.le_of_ble_eq_true rfl) ?_
  have hP9 := hP.sub (ws' := [(h0, .inr (9, [.ref nq, .null, .int 0])), (nq, .inl (cQ, 4, .inl f_28))]) [0, 1] rfl
  have hD9 := hD.sub (ws' := [(h0, .inr (9, [.ref nq, .null, .int 0])), (nq, .inl (cQ, 4, .inl f_28))]) [0, 1] (by decide) rfl
  have hK9 := hK.sub (tys' := []) [] rfl
  exact W.vret hx hb hr (fun t ht hW => ⟨⟨(), rfl, trivial, ⟨f_28, by rw [ht]; exact hP9, va_K.moved hW.alike hK9, hD9⟩⟩, hS.F ht⟩) hS.2.2 dX3_become_29

theorem kw_111 : (.classLink RX11 337 RX10 : Cond) ∈ gw_tbl := gw_in (by decide +kernel) (by decide +kernel)
theorem kw_112 : (.instantiable RX10 3 : Cond) ∈ gw_tbl := gw_in (by decide +kernel) (by decide +kernel)

set_option maxHeartbeats 4000000 in
set_option maxRecDepth 100000 in
theorem x_madeOf_2 (l : Launch) (D : va_G) (sz : Nat) : Met l yX11_madeOf (Cond.code yX11_madeOf cX11_madeOf 1 (some (.object "NobodyChecks$Pay")) :: gw_tbl) ({ frames := 3, cells := 2, slots := 7, locals := 52 }) (pc_C D [] [] sz [.int 2]) (va_Qr (fun (u : Unit) => True) (fun _ ra t => ∃ (nq : Nat), ∃ (cQ : ClassId), va_P D vwCl [(ra, .inr (10, [.ref nq, .null, .int 0])), (nq, .inl (cQ, 4, .inl (fun _ => 0)))] t.heap ∧ va_K D vwCl [(cQ, .int)] t ∧ va_D (va_A [] sz) [(ra, .inr (10, [.ref nq, .null, .int 0])), (nq, .inl (cQ, 4, .inl (fun _ => 0)))]) (va_A [] sz)) 2 7 (va_A [] sz) := by
  refine Met.ofW (cc := cX11_madeOf) (maxL := 1) (ret := (some (.object "NobodyChecks$Pay"))) (by decide) rfl ?_
  intro p e s m args below meth c s₁ B hml hv
  obtain ⟨hargs, hsz, hP, hK, hD0, hN⟩ := hv
  have hx := B.exec
  have hb := B.bytes
  have hr := B.returns
  have hts := atoms_spec (ws := Cond.code yX11_madeOf cX11_madeOf 1 (some (.object "NobodyChecks$Pay")) :: gw_tbl) B.pre
  have hg := fun (w : Cond) (h : w ∈ gw_tbl) => hts w (List.mem_cons_of_mem _ h)
  have hown : s.vm.findClass RX11 = some m.cls := findClass_of_methodNamed B.named
  have hlocks := B.notSynchronized
  subst hsz
  have hD := hD0.self (sz := s.heap.size)
  generalize hAe : va_A [] s.heap.size = A at hD ⊢
  have hA : ∀ q : Nat, s.heap.size ≤ q → A q := fun q h => by rw [← hAe]; exact Or.inr h
  have hS : va_S A s.heap s.heap [] := va_S.rf
  have hP : va_P D vwCl [] s.heap := hP
  have hl := lv_entry ([.int 2]) (n := 1) (Nat.le_of_ble_eq_true rfl)
  rw [show entryFrame m args 1 = F0 m 0 (lg_sl ([.int 2]) ++ List.replicate (1 - (lg_sl ([.int 2])).length) Slot.unset).toArray [] from by rw [hargs]; exact lg_entry_eq ..]
  generalize (lg_sl ([.int 2]) ++ List.replicate (1 - (lg_sl ([.int 2])).length) Slot.unset).toArray = ls at hl ⊢
  have hl : lv_has ls 1 [(0, .int 2)] := hl
  refine W_genQ (fun Q hQ => ?_)
  refine lv_iload_n hx hb dX11_madeOf_0 rfl (lv_at hl 0 rfl) ?_
  refine lv_tableIn (tgt := 40) hx hb dX11_madeOf_1 (by decide) (by decide) rfl (by decide) ?_
  refine va_new (ci := 10) (fs := [.null, .null, .int 0]) (C := RX10) (T := TX10) (N := 3) hx hb hg gwX10 tyX10 tyX10_ok hown (hg _ kw_111) (hg _ kw_112) (hg _ kw_105) hK hP hD hS hA rfl (by decide +kernel) (Nat.le_of_ble_eq_true rfl) (Nat.le_of_ble_eq_true rfl) dX11_madeOf_40 (fun q_40 H hP hD hS => ?_)
  have hP : va_P D vwCl [(q_40, .inr (10, [.null, .null, .int 0]))] H := hP
  have hD : va_D A [(q_40, .inr (10, [.null, .null, .int 0]))] := hD
  refine W.cs (cells' := 1) (slots' := 3) rfl rfl ?_
  refine lv_dup hx hb dX11_madeOf_43 rfl ?_
  have hPc := hP.sub (ws' := [(q_40, .inr (10, [.null, .null, .int 0]))]) [0] rfl
  have hKc := hK.sub (tys' := []) [] rfl
  have hDc := hD.sub (ws' := [(q_40, .inr (10, [.null, .null, .int 0]))]) [0] (by decide) rfl
  have hFc := va_free (wc := [(q_40, .inr (10, [.null, .null, .int 0]))]) hD hS hA [0] rfl
  refine va_callv (va_runIN (As := []) (rest := [.ref q_40]) ⟨hx, hb, hml, hown, hg⟩ (i_X10_10 l D q_40 _) ⟨va_cnB 0 hg (gw_I kw_104) rfl rfl rfl (hN.1 (RX11, 339, yX10_init) (by decide +kernel)) (hg _ kw_105) (by decide +kernel) ⟨Nat.le_of_ble_eq_true rfl, Nat.le_of_ble_eq_true rfl⟩, rfl, hg _ kw_106⟩ (pr_C hKc hPc hDc hN) rfl rfl hl.1 rfl (lv_room (Nat.le_of_ble_eq_true rfl)) dX11_madeOf_44 ⟨Nat.le_of_ble_eq_true rfl, Nat.le_of_ble_eq_true rfl⟩) hS (fun q _ h => hFc q h) hFc (fun u t H1 locs ht hvm h_44 hB hz1 hk1 hS => ?_)
  obtain ⟨nq_44, cQ_44, hP1, hK1, hD1⟩ := hB
  rw [ht] at hP1
  have hK1 := va_K.moved hvm.symm hK1
  obtain ⟨hP, hD⟩ := va_join (wr := []) (w1 := [(q_40, .inr (10, [.ref nq_44, .null, .int 0])), (nq_44, .inl (cQ_44, 4, .inl (fun _ => 0)))]) hP hD [0] [] rfl rfl (by decide) (by decide) hk1 hFc hP1 hD1
  have hK := hK.app hK1
  generalize H1 = H at hP hS ⊢
  have hP : va_P D vwCl [(q_40, .inr (10, [.ref nq_44, .null, .int 0])), (nq_44, .inl (cQ_44, 4, .inl (fun _ => 0)))] H := hP
  have hD : va_D A [(q_40, .inr (10, [.ref nq_44, .null, .int 0])), (nq_44, .inl (cQ_44, 4, .inl (fun _ => 0)))] := hD
  have hK : va_K D vwCl [(cQ_44, .int)] s := hK
  refine W.cs (cells' := 2) (slots' := 7) rfl rfl ?_
  try dsimp only at h_44
  subst hQ
  refine W.widen (k := 2) (n := 7) (Nat.le_of_ble_eq_true rfl) (Nat.le_of_ble_eq_true rfl) ?_
  have hP9 := hP.sub (ws' := [(q_40, .inr (10, [.ref nq_44, .null, .int 0])), (nq_44, .inl (cQ_44, 4, .inl (fun _ => 0)))]) [0, 1] rfl
  have hD9 := hD.sub (ws' := [(q_40, .inr (10, [.ref nq_44, .null, .int 0])), (nq_44, .inl (cQ_44, 4, .inl (fun _ => 0)))]) [0, 1] (by decide) rfl
  have hK9 := hK.sub (tys' := [(cQ_44, .int)]) [0] rfl
  exact W.aret (v := .ref q_40) hx hb hr (Or.inl ⟨_, rfl⟩) (Or.inr ⟨_, rfl⟩) (fun t ht hW => ⟨⟨(), q_40, rfl, trivial, ⟨nq_44, cQ_44, by rw [ht]; exact hP9, va_K.moved hW.alike hK9, hD9⟩⟩, hS.F ht⟩) hS.2.2 dX11_madeOf_47

set_option maxHeartbeats 4000000 in
set_option maxRecDepth 100000 in
theorem p_become_10 (l : Launch) (D : va_G) (h0 : Nat) (nq : Nat) (cQ : ClassId) (nf : Nat → Int32) (p1 : Int32) (p2 : Int32) (p3 : Int32) (p4 : Int32) (sz : Nat) : Met l yX3_become (Cond.code yX3_become cX3_become 5 none :: gw_tbl) ({ frames := 0, cells := 0, slots := 0, locals := 0 }) (pc_M D [(cQ, .int)] [(h0, .inr (10, [.ref nq, .null, .int 0])), (nq, .inl (cQ, 4, .inl nf))] sz [.ref h0, .int p1, .int p2, .int p3, .int p4]) (va_Qv (fun (u : Unit) => True) (fun _ t => ∃ (nf2 : Nat → Int32), va_P D vwCl [(h0, .inr (10, [.ref nq, .null, .int 0])), (nq, .inl (cQ, 4, .inl nf2))] t.heap ∧ va_K D vwCl [] t ∧ va_D (va_A [(h0, .inr (10, [.ref nq, .null, .int 0])), (nq, .inl (cQ, 4, .inl nf))] sz) [(h0, .inr (10, [.ref nq, .null, .int 0])), (nq, .inl (cQ, 4, .inl nf2))]) (va_A [(h0, .inr (10, [.ref nq, .null, .int 0])), (nq, .inl (cQ, 4, .inl nf))] sz)) 0 0 (va_A [(h0, .inr (10, [.ref nq, .null, .int 0])), (nq, .inl (cQ, 4, .inl nf))] sz) := by
  refine Met.ofW (cc := cX3_become) (maxL := 5) (ret := none) (by decide) rfl ?_
  intro p e s m args below meth c s₁ B hml hv
  obtain ⟨hargs, hsz, hP, hK, hD0⟩ := hv
  have hx := B.exec
  have hb := B.bytes
  have hr := B.returns
  have hts := atoms_spec (ws := Cond.code yX3_become cX3_become 5 none :: gw_tbl) B.pre
  have hg := fun (w : Cond) (h : w ∈ gw_tbl) => hts w (List.mem_cons_of_mem _ h)
  have hown : s.vm.findClass RX3 = some m.cls := findClass_of_methodNamed B.named
  have hlocks := B.notSynchronized
  subst hsz
  have hD := hD0.self (sz := s.heap.size)
  generalize hAe : va_A [(h0, .inr (10, [.ref nq, .null, .int 0])), (nq, .inl (cQ, 4, .inl nf))] s.heap.size = A at hD ⊢
  have hA : ∀ q : Nat, s.heap.size ≤ q → A q := fun q h => by rw [← hAe]; exact Or.inr h
  have hS : va_S A s.heap s.heap [] := va_S.rf
  have hP : va_P D vwCl [(h0, .inr (10, [.ref nq, .null, .int 0])), (nq, .inl (cQ, 4, .inl nf))] s.heap := hP
  have hl := lv_entry ([.ref h0, .int p1, .int p2, .int p3, .int p4]) (n := 5) (Nat.le_of_ble_eq_true rfl)
  rw [show entryFrame m args 5 = F0 m 0 (lg_sl ([.ref h0, .int p1, .int p2, .int p3, .int p4]) ++ List.replicate (5 - (lg_sl ([.ref h0, .int p1, .int p2, .int p3, .int p4])).length) Slot.unset).toArray [] from by rw [hargs]; exact lg_entry_eq ..]
  generalize (lg_sl ([.ref h0, .int p1, .int p2, .int p3, .int p4]) ++ List.replicate (5 - (lg_sl ([.ref h0, .int p1, .int p2, .int p3, .int p4])).length) Slot.unset).toArray = ls at hl ⊢
  have hl : lv_has ls 5 [(0, .ref h0), (1, .int p1), (2, .int p2), (3, .int p3), (4, .int p4)] := hl
  refine W_genQ (fun Q hQ => ?_)
  refine lv_aload_n hx hb dX3_become_0 rfl (lv_at hl 0 rfl) ?_
  refine va_get (D := D) (ci := 10) (v := .ref nq) (C := RX10) (T := TX10) (N := 3) hx hb hg gwX10 hown hK hP 0 rfl rfl 0 (by decide) (hg _ kw_97) (fun _ h9 => h9) rfl dX3_become_1 ?_
  refine lv_iconst (v := 0) hx hb dX3_become_4 (by decide) ?_
  refine lv_iload_n hx hb dX3_become_5 rfl (lv_at hl 1 rfl) ?_
  refine va_iast hx hb hK hP hD hS 1 0 rfl rfl (show ¬ ((0 : Int32) < 0 ∨ 4 ≤ (0 : Int32).toNatClampNeg) by decide) dX3_become_6 (fun H locs hP hD hS => ?_)
  generalize (upd nf (0 : Int32).toNatClampNeg p1) = f_6 at hP hD
  have hP : va_P D vwCl [(h0, .inr (10, [.ref nq, .null, .int 0])), (nq, .inl (cQ, 4, .inl f_6))] H := hP
  have hD : va_D A [(h0, .inr (10, [.ref nq, .null, .int 0])), (nq, .inl (cQ, 4, .inl f_6))] := hD
  refine lv_aload_n hx hb dX3_become_7 rfl (lv_at hl 0 rfl) ?_
  refine va_get (D := D) (ci := 10) (v := .ref nq) (C := RX10) (T := TX10) (N := 3) hx hb hg gwX10 hown hK hP 0 rfl rfl 0 (by decide) (hg _ kw_97) (fun _ h9 => h9) rfl dX3_become_8 ?_
  refine lv_iconst (v := 1) hx hb dX3_become_11 (by decide) ?_
  refine lv_iload_n hx hb dX3_become_12 rfl (lv_at hl 2 rfl) ?_
  refine va_iast hx hb hK hP hD hS 1 0 rfl rfl (show ¬ ((1 : Int32) < 0 ∨ 4 ≤ (1 : Int32).toNatClampNeg) by decide) dX3_become_13 (fun H locs hP hD hS => ?_)
  generalize (upd f_6 (1 : Int32).toNatClampNeg p2) = f_13 at hP hD
  have hP : va_P D vwCl [(h0, .inr (10, [.ref nq, .null, .int 0])), (nq, .inl (cQ, 4, .inl f_13))] H := hP
  have hD : va_D A [(h0, .inr (10, [.ref nq, .null, .int 0])), (nq, .inl (cQ, 4, .inl f_13))] := hD
  refine lv_aload_n hx hb dX3_become_14 rfl (lv_at hl 0 rfl) ?_
  refine va_get (D := D) (ci := 10) (v := .ref nq) (C := RX10) (T := TX10) (N := 3) hx hb hg gwX10 hown hK hP 0 rfl rfl 0 (by decide) (hg _ kw_97) (fun _ h9 => h9) rfl dX3_become_15 ?_
  refine lv_iconst (v := 2) hx hb dX3_become_18 (by decide) ?_
  refine lv_iload_n hx hb dX3_become_19 rfl (lv_at hl 3 rfl) ?_
  refine va_iast hx hb hK hP hD hS 1 0 rfl rfl (show ¬ ((2 : Int32) < 0 ∨ 4 ≤ (2 : Int32).toNatClampNeg) by decide) dX3_become_20 (fun H locs hP hD hS => ?_)
  generalize (upd f_13 (2 : Int32).toNatClampNeg p3) = f_20 at hP hD
  have hP : va_P D vwCl [(h0, .inr (10, [.ref nq, .null, .int 0])), (nq, .inl (cQ, 4, .inl f_20))] H := hP
  have hD : va_D A [(h0, .inr (10, [.ref nq, .null, .int 0])), (nq, .inl (cQ, 4, .inl f_20))] := hD
  refine lv_aload_n hx hb dX3_become_21 rfl (lv_at hl 0 rfl) ?_
  refine va_get (D := D) (ci := 10) (v := .ref nq) (C := RX10) (T := TX10) (N := 3) hx hb hg gwX10 hown hK hP 0 rfl rfl 0 (by decide) (hg _ kw_97) (fun _ h9 => h9) rfl dX3_become_22 ?_
  refine lv_iconst (v := 3) hx hb dX3_become_25 (by decide) ?_
  refine lv_iload hx hb dX3_become_26 (lv_at hl 4 rfl) ?_
  refine va_iast hx hb hK hP hD hS 1 0 rfl rfl (show ¬ ((3 : Int32) < 0 ∨ 4 ≤ (3 : Int32).toNatClampNeg) by decide) dX3_become_28 (fun H locs hP hD hS => ?_)
  generalize (upd f_20 (3 : Int32).toNatClampNeg p4) = f_28 at hP hD
  have hP : va_P D vwCl [(h0, .inr (10, [.ref nq, .null, .int 0])), (nq, .inl (cQ, 4, .inl f_28))] H := hP
  have hD : va_D A [(h0, .inr (10, [.ref nq, .null, .int 0])), (nq, .inl (cQ, 4, .inl f_28))] := hD
  subst hQ
  refine W.widen (k := 0) (n := 0) (Nat.le_of_ble_eq_true rfl) (Nat.le_of_ble_eq_true rfl) ?_
  have hP9 := hP.sub (ws' := [(h0, .inr (10, [.ref nq, .null, .int 0])), (nq, .inl (cQ, 4, .inl f_28))]) [0, 1] rfl
  have hD9 := hD.sub (ws' := [(h0, .inr (10, [.ref nq, .null, .int 0])), (nq, .inl (cQ, 4, .inl f_28))]) [0, 1] (by decide) rfl
  have hK9 := hK.sub (tys' := []) [] rfl
  exact W.vret hx hb hr (fun t ht hW => ⟨⟨(), rfl, trivial, ⟨f_28, by rw [ht]; exact hP9, va_K.moved hW.alike hK9, hD9⟩⟩, hS.F ht⟩) hS.2.2 dX3_become_29

theorem kw_113 : (.classLink RX11 340 RX6 : Cond) ∈ gw_tbl := gw_in (by decide +kernel) (by decide +kernel)
theorem kw_114 : (.instantiable RX6 3 : Cond) ∈ gw_tbl := gw_in (by decide +kernel) (by decide +kernel)
theorem kw_115 : (.initialized RX6 : Cond) ∈ gw_tbl := gw_in (by decide +kernel) (by decide +kernel)
theorem kw_116 : (.code yX6_init cX6_init 1 none : Cond) ∈ gw_tbl := gw_in (by decide +kernel) (by decide +kernel)
theorem kw_117 : (.instanceMethod yX6_init : Cond) ∈ gw_tbl := gw_in (by decide +kernel) (by decide +kernel)

set_option maxHeartbeats 4000000 in
set_option maxRecDepth 100000 in
theorem x_madeOf_3 (l : Launch) (D : va_G) (sz : Nat) : Met l yX11_madeOf (Cond.code yX11_madeOf cX11_madeOf 1 (some (.object "NobodyChecks$Pay")) :: gw_tbl) ({ frames := 4, cells := 2, slots := 7, locals := 72 }) (pc_C D [] [] sz [.int 3]) (va_Qr (fun (u : Unit) => True) (fun _ ra t => ∃ (nq : Nat), ∃ (cQ : ClassId), va_P D vwCl [(ra, .inr (6, [.ref nq, .null, .int 0])), (nq, .inl (cQ, 4, .inl (fun _ => 0)))] t.heap ∧ va_K D vwCl [(cQ, .int)] t ∧ va_D (va_A [] sz) [(ra, .inr (6, [.ref nq, .null, .int 0])), (nq, .inl (cQ, 4, .inl (fun _ => 0)))]) (va_A [] sz)) 2 7 (va_A [] sz) := by
  refine Met.ofW (cc := cX11_madeOf) (maxL := 1) (ret := (some (.object "NobodyChecks$Pay"))) (by decide) rfl ?_
  intro p e s m args below meth c s₁ B hml hv
  obtain ⟨hargs, hsz, hP, hK, hD0, hN⟩ := hv
  have hx := B.exec
  have hb := B.bytes
  have hr := B.returns
  have hts := atoms_spec (ws := Cond.code yX11_madeOf cX11_madeOf 1 (some (.object "NobodyChecks$Pay")) :: gw_tbl) B.pre
  have hg := fun (w : Cond) (h : w ∈ gw_tbl) => hts w (List.mem_cons_of_mem _ h)
  have hown : s.vm.findClass RX11 = some m.cls := findClass_of_methodNamed B.named
  have hlocks := B.notSynchronized
  subst hsz
  have hD := hD0.self (sz := s.heap.size)
  generalize hAe : va_A [] s.heap.size = A at hD ⊢
  have hA : ∀ q : Nat, s.heap.size ≤ q → A q := fun q h => by rw [← hAe]; exact Or.inr h
  have hS : va_S A s.heap s.heap [] := va_S.rf
  have hP : va_P D vwCl [] s.heap := hP
  have hl := lv_entry ([.int 3]) (n := 1) (Nat.le_of_ble_eq_true rfl)
  rw [show entryFrame m args 1 = F0 m 0 (lg_sl ([.int 3]) ++ List.replicate (1 - (lg_sl ([.int 3])).length) Slot.unset).toArray [] from by rw [hargs]; exact lg_entry_eq ..]
  generalize (lg_sl ([.int 3]) ++ List.replicate (1 - (lg_sl ([.int 3])).length) Slot.unset).toArray = ls at hl ⊢
  have hl : lv_has ls 1 [(0, .int 3)] := hl
  refine W_genQ (fun Q hQ => ?_)
  refine lv_iload_n hx hb dX11_madeOf_0 rfl (lv_at hl 0 rfl) ?_
  refine lv_tableIn (tgt := 48) hx hb dX11_madeOf_1 (by decide) (by decide) rfl (by decide) ?_
  refine va_new (ci := 6) (fs := [.null, .null, .int 0]) (C := RX6) (T := TX6) (N := 3) hx hb hg gwX6 tyX6 tyX6_ok hown (hg _ kw_113) (hg _ kw_114) (hg _ kw_115) hK hP hD hS hA rfl (by decide +kernel) (Nat.le_of_ble_eq_true rfl) (Nat.le_of_ble_eq_true rfl) dX11_madeOf_48 (fun q_48 H hP hD hS => ?_)
  have hP : va_P D vwCl [(q_48, .inr (6, [.null, .null, .int 0]))] H := hP
  have hD : va_D A [(q_48, .inr (6, [.null, .null, .int 0]))] := hD
  refine W.cs (cells' := 1) (slots' := 3) rfl rfl ?_
  refine lv_dup hx hb dX11_madeOf_51 rfl ?_
  have hPc := hP.sub (ws' := [(q_48, .inr (6, [.null, .null, .int 0]))]) [0] rfl
  have hKc := hK.sub (tys' := []) [] rfl
  have hDc := hD.sub (ws' := [(q_48, .inr (6, [.null, .null, .int 0]))]) [0] (by decide) rfl
  have hFc := va_free (wc := [(q_48, .inr (6, [.null, .null, .int 0]))]) hD hS hA [0] rfl
  refine va_callv (va_runIN (As := []) (rest := [.ref q_48]) ⟨hx, hb, hml, hown, hg⟩ (i_X6_6 l D q_48 _) ⟨va_cnB 0 hg (gw_I kw_116) rfl rfl rfl (hN.1 (RX11, 342, yX6_init) (by decide +kernel)) (hg _ kw_115) (by decide +kernel) ⟨Nat.le_of_ble_eq_true rfl, Nat.le_of_ble_eq_true rfl⟩, rfl, hg _ kw_117⟩ (pr_C hKc hPc hDc hN) rfl rfl hl.1 rfl (lv_room (Nat.le_of_ble_eq_true rfl)) dX11_madeOf_52 ⟨Nat.le_of_ble_eq_true rfl, Nat.le_of_ble_eq_true rfl⟩) hS (fun q _ h => hFc q h) hFc (fun u t H1 locs ht hvm h_52 hB hz1 hk1 hS => ?_)
  obtain ⟨nq_52, cQ_52, hP1, hK1, hD1⟩ := hB
  rw [ht] at hP1
  have hK1 := va_K.moved hvm.symm hK1
  obtain ⟨hP, hD⟩ := va_join (wr := []) (w1 := [(q_48, .inr (6, [.ref nq_52, .null, .int 0])), (nq_52, .inl (cQ_52, 4, .inl (fun _ => 0)))]) hP hD [0] [] rfl rfl (by decide) (by decide) hk1 hFc hP1 hD1
  have hK := hK.app hK1
  generalize H1 = H at hP hS ⊢
  have hP : va_P D vwCl [(q_48, .inr (6, [.ref nq_52, .null, .int 0])), (nq_52, .inl (cQ_52, 4, .inl (fun _ => 0)))] H := hP
  have hD : va_D A [(q_48, .inr (6, [.ref nq_52, .null, .int 0])), (nq_52, .inl (cQ_52, 4, .inl (fun _ => 0)))] := hD
  have hK : va_K D vwCl [(cQ_52, .int)] s := hK
  refine W.cs (cells' := 2) (slots' := 7) rfl rfl ?_
  try dsimp only at h_52
  subst hQ
  refine W.widen (k := 2) (n := 7) (Nat.le_of_ble_eq_true rfl) (Nat.le_of_ble_eq_true rfl) ?_
  have hP9 := hP.sub (ws' := [(q_48, .inr (6, [.ref nq_52, .null, .int 0])), (nq_52, .inl (cQ_52, 4, .inl (fun _ => 0)))]) [0, 1] rfl
  have hD9 := hD.sub (ws' := [(q_48, .inr (6, [.ref nq_52, .null, .int 0])), (nq_52, .inl (cQ_52, 4, .inl (fun _ => 0)))]) [0, 1] (by decide) rfl
  have hK9 := hK.sub (tys' := [(cQ_52, .int)]) [0] rfl
  exact W.aret (v := .ref q_48) hx hb hr (Or.inl ⟨_, rfl⟩) (Or.inr ⟨_, rfl⟩) (fun t ht hW => ⟨⟨(), q_48, rfl, trivial, ⟨nq_52, cQ_52, by rw [ht]; exact hP9, va_K.moved hW.alike hK9, hD9⟩⟩, hS.F ht⟩) hS.2.2 dX11_madeOf_55

set_option maxHeartbeats 4000000 in
set_option maxRecDepth 100000 in
theorem p_become_6 (l : Launch) (D : va_G) (h0 : Nat) (nq : Nat) (cQ : ClassId) (nf : Nat → Int32) (p1 : Int32) (p2 : Int32) (p3 : Int32) (p4 : Int32) (sz : Nat) : Met l yX3_become (Cond.code yX3_become cX3_become 5 none :: gw_tbl) ({ frames := 0, cells := 0, slots := 0, locals := 0 }) (pc_M D [(cQ, .int)] [(h0, .inr (6, [.ref nq, .null, .int 0])), (nq, .inl (cQ, 4, .inl nf))] sz [.ref h0, .int p1, .int p2, .int p3, .int p4]) (va_Qv (fun (u : Unit) => True) (fun _ t => ∃ (nf2 : Nat → Int32), va_P D vwCl [(h0, .inr (6, [.ref nq, .null, .int 0])), (nq, .inl (cQ, 4, .inl nf2))] t.heap ∧ va_K D vwCl [] t ∧ va_D (va_A [(h0, .inr (6, [.ref nq, .null, .int 0])), (nq, .inl (cQ, 4, .inl nf))] sz) [(h0, .inr (6, [.ref nq, .null, .int 0])), (nq, .inl (cQ, 4, .inl nf2))]) (va_A [(h0, .inr (6, [.ref nq, .null, .int 0])), (nq, .inl (cQ, 4, .inl nf))] sz)) 0 0 (va_A [(h0, .inr (6, [.ref nq, .null, .int 0])), (nq, .inl (cQ, 4, .inl nf))] sz) := by
  refine Met.ofW (cc := cX3_become) (maxL := 5) (ret := none) (by decide) rfl ?_
  intro p e s m args below meth c s₁ B hml hv
  obtain ⟨hargs, hsz, hP, hK, hD0⟩ := hv
  have hx := B.exec
  have hb := B.bytes
  have hr := B.returns
  have hts := atoms_spec (ws := Cond.code yX3_become cX3_become 5 none :: gw_tbl) B.pre
  have hg := fun (w : Cond) (h : w ∈ gw_tbl) => hts w (List.mem_cons_of_mem _ h)
  have hown : s.vm.findClass RX3 = some m.cls := findClass_of_methodNamed B.named
  have hlocks := B.notSynchronized
  subst hsz
  have hD := hD0.self (sz := s.heap.size)
  generalize hAe : va_A [(h0, .inr (6, [.ref nq, .null, .int 0])), (nq, .inl (cQ, 4, .inl nf))] s.heap.size = A at hD ⊢
  have hA : ∀ q : Nat, s.heap.size ≤ q → A q := fun q h => by rw [← hAe]; exact Or.inr h
  have hS : va_S A s.heap s.heap [] := va_S.rf
  have hP : va_P D vwCl [(h0, .inr (6, [.ref nq, .null, .int 0])), (nq, .inl (cQ, 4, .inl nf))] s.heap := hP
  have hl := lv_entry ([.ref h0, .int p1, .int p2, .int p3, .int p4]) (n := 5) (Nat.le_of_ble_eq_true rfl)
  rw [show entryFrame m args 5 = F0 m 0 (lg_sl ([.ref h0, .int p1, .int p2, .int p3, .int p4]) ++ List.replicate (5 - (lg_sl ([.ref h0, .int p1, .int p2, .int p3, .int p4])).length) Slot.unset).toArray [] from by rw [hargs]; exact lg_entry_eq ..]
  generalize (lg_sl ([.ref h0, .int p1, .int p2, .int p3, .int p4]) ++ List.replicate (5 - (lg_sl ([.ref h0, .int p1, .int p2, .int p3, .int p4])).length) Slot.unset).toArray = ls at hl ⊢
  have hl : lv_has ls 5 [(0, .ref h0), (1, .int p1), (2, .int p2), (3, .int p3), (4, .int p4)] := hl
  refine W_genQ (fun Q hQ => ?_)
  refine lv_aload_n hx hb dX3_become_0 rfl (lv_at hl 0 rfl) ?_
  refine va_get (D := D) (ci := 6) (v := .ref nq) (C := RX6) (T := TX6) (N := 3) hx hb hg gwX6 hown hK hP 0 rfl rfl 0 (by decide) (hg _ kw_97) (fun _ h9 => h9) rfl dX3_become_1 ?_
  refine lv_iconst (v := 0) hx hb dX3_become_4 (by decide) ?_
  refine lv_iload_n hx hb dX3_become_5 rfl (lv_at hl 1 rfl) ?_
  refine va_iast hx hb hK hP hD hS 1 0 rfl rfl (show ¬ ((0 : Int32) < 0 ∨ 4 ≤ (0 : Int32).toNatClampNeg) by decide) dX3_become_6 (fun H locs hP hD hS => ?_)
  generalize (upd nf (0 : Int32).toNatClampNeg p1) = f_6 at hP hD
  have hP : va_P D vwCl [(h0, .inr (6, [.ref nq, .null, .int 0])), (nq, .inl (cQ, 4, .inl f_6))] H := hP
  have hD : va_D A [(h0, .inr (6, [.ref nq, .null, .int 0])), (nq, .inl (cQ, 4, .inl f_6))] := hD
  refine lv_aload_n hx hb dX3_become_7 rfl (lv_at hl 0 rfl) ?_
  refine va_get (D := D) (ci := 6) (v := .ref nq) (C := RX6) (T := TX6) (N := 3) hx hb hg gwX6 hown hK hP 0 rfl rfl 0 (by decide) (hg _ kw_97) (fun _ h9 => h9) rfl dX3_become_8 ?_
  refine lv_iconst (v := 1) hx hb dX3_become_11 (by decide) ?_
  refine lv_iload_n hx hb dX3_become_12 rfl (lv_at hl 2 rfl) ?_
  refine va_iast hx hb hK hP hD hS 1 0 rfl rfl (show ¬ ((1 : Int32) < 0 ∨ 4 ≤ (1 : Int32).toNatClampNeg) by decide) dX3_become_13 (fun H locs hP hD hS => ?_)
  generalize (upd f_6 (1 : Int32).toNatClampNeg p2) = f_13 at hP hD
  have hP : va_P D vwCl [(h0, .inr (6, [.ref nq, .null, .int 0])), (nq, .inl (cQ, 4, .inl f_13))] H := hP
  have hD : va_D A [(h0, .inr (6, [.ref nq, .null, .int 0])), (nq, .inl (cQ, 4, .inl f_13))] := hD
  refine lv_aload_n hx hb dX3_become_14 rfl (lv_at hl 0 rfl) ?_
  refine va_get (D := D) (ci := 6) (v := .ref nq) (C := RX6) (T := TX6) (N := 3) hx hb hg gwX6 hown hK hP 0 rfl rfl 0 (by decide) (hg _ kw_97) (fun _ h9 => h9) rfl dX3_become_15 ?_
  refine lv_iconst (v := 2) hx hb dX3_become_18 (by decide) ?_
  refine lv_iload_n hx hb dX3_become_19 rfl (lv_at hl 3 rfl) ?_
  refine va_iast hx hb hK hP hD hS 1 0 rfl rfl (show ¬ ((2 : Int32) < 0 ∨ 4 ≤ (2 : Int32).toNatClampNeg) by decide) dX3_become_20 (fun H locs hP hD hS => ?_)
  generalize (upd f_13 (2 : Int32).toNatClampNeg p3) = f_20 at hP hD
  have hP : va_P D vwCl [(h0, .inr (6, [.ref nq, .null, .int 0])), (nq, .inl (cQ, 4, .inl f_20))] H := hP
  have hD : va_D A [(h0, .inr (6, [.ref nq, .null, .int 0])), (nq, .inl (cQ, 4, .inl f_20))] := hD
  refine lv_aload_n hx hb dX3_become_21 rfl (lv_at hl 0 rfl) ?_
  refine va_get (D := D) (ci := 6) (v := .ref nq) (C := RX6) (T := TX6) (N := 3) hx hb hg gwX6 hown hK hP 0 rfl rfl 0 (by decide) (hg _ kw_97) (fun _ h9 => h9) rfl dX3_become_22 ?_
  refine lv_iconst (v := 3) hx hb dX3_become_25 (by decide) ?_
  refine lv_iload hx hb dX3_become_26 (lv_at hl 4 rfl) ?_
  refine va_iast hx hb hK hP hD hS 1 0 rfl rfl (show ¬ ((3 : Int32) < 0 ∨ 4 ≤ (3 : Int32).toNatClampNeg) by decide) dX3_become_28 (fun H locs hP hD hS => ?_)
  generalize (upd f_20 (3 : Int32).toNatClampNeg p4) = f_28 at hP hD
  have hP : va_P D vwCl [(h0, .inr (6, [.ref nq, .null, .int 0])), (nq, .inl (cQ, 4, .inl f_28))] H := hP
  have hD : va_D A [(h0, .inr (6, [.ref nq, .null, .int 0])), (nq, .inl (cQ, 4, .inl f_28))] := hD
  subst hQ
  refine W.widen (k := 0) (n := 0) (Nat.le_of_ble_eq_true rfl) (Nat.le_of_ble_eq_true rfl) ?_
  have hP9 := hP.sub (ws' := [(h0, .inr (6, [.ref nq, .null, .int 0])), (nq, .inl (cQ, 4, .inl f_28))]) [0, 1] rfl
  have hD9 := hD.sub (ws' := [(h0, .inr (6, [.ref nq, .null, .int 0])), (nq, .inl (cQ, 4, .inl f_28))]) [0, 1] (by decide) rfl
  have hK9 := hK.sub (tys' := []) [] rfl
  exact W.vret hx hb hr (fun t ht hW => ⟨⟨(), rfl, trivial, ⟨f_28, by rw [ht]; exact hP9, va_K.moved hW.alike hK9, hD9⟩⟩, hS.F ht⟩) hS.2.2 dX3_become_29

theorem kw_118 : (.classLink RX11 343 RX1 : Cond) ∈ gw_tbl := gw_in (by decide +kernel) (by decide +kernel)
theorem kw_119 : (.instantiable RX1 3 : Cond) ∈ gw_tbl := gw_in (by decide +kernel) (by decide +kernel)
theorem kw_120 : (.initialized RX1 : Cond) ∈ gw_tbl := gw_in (by decide +kernel) (by decide +kernel)
theorem kw_121 : (.code yX1_init cX1_init 1 none : Cond) ∈ gw_tbl := gw_in (by decide +kernel) (by decide +kernel)
theorem kw_122 : (.instanceMethod yX1_init : Cond) ∈ gw_tbl := gw_in (by decide +kernel) (by decide +kernel)

set_option maxHeartbeats 4000000 in
set_option maxRecDepth 100000 in
theorem x_madeOf_4 (l : Launch) (D : va_G) (sz : Nat) : Met l yX11_madeOf (Cond.code yX11_madeOf cX11_madeOf 1 (some (.object "NobodyChecks$Pay")) :: gw_tbl) ({ frames := 4, cells := 2, slots := 7, locals := 72 }) (pc_C D [] [] sz [.int 4]) (va_Qr (fun (u : Unit) => True) (fun _ ra t => ∃ (nq : Nat), ∃ (cQ : ClassId), va_P D vwCl [(ra, .inr (1, [.ref nq, .null, .int 0])), (nq, .inl (cQ, 4, .inl (fun _ => 0)))] t.heap ∧ va_K D vwCl [(cQ, .int)] t ∧ va_D (va_A [] sz) [(ra, .inr (1, [.ref nq, .null, .int 0])), (nq, .inl (cQ, 4, .inl (fun _ => 0)))]) (va_A [] sz)) 2 7 (va_A [] sz) := by
  refine Met.ofW (cc := cX11_madeOf) (maxL := 1) (ret := (some (.object "NobodyChecks$Pay"))) (by decide) rfl ?_
  intro p e s m args below meth c s₁ B hml hv
  obtain ⟨hargs, hsz, hP, hK, hD0, hN⟩ := hv
  have hx := B.exec
  have hb := B.bytes
  have hr := B.returns
  have hts := atoms_spec (ws := Cond.code yX11_madeOf cX11_madeOf 1 (some (.object "NobodyChecks$Pay")) :: gw_tbl) B.pre
  have hg := fun (w : Cond) (h : w ∈ gw_tbl) => hts w (List.mem_cons_of_mem _ h)
  have hown : s.vm.findClass RX11 = some m.cls := findClass_of_methodNamed B.named
  have hlocks := B.notSynchronized
  subst hsz
  have hD := hD0.self (sz := s.heap.size)
  generalize hAe : va_A [] s.heap.size = A at hD ⊢
  have hA : ∀ q : Nat, s.heap.size ≤ q → A q := fun q h => by rw [← hAe]; exact Or.inr h
  have hS : va_S A s.heap s.heap [] := va_S.rf
  have hP : va_P D vwCl [] s.heap := hP
  have hl := lv_entry ([.int 4]) (n := 1) (Nat.le_of_ble_eq_true rfl)
  rw [show entryFrame m args 1 = F0 m 0 (lg_sl ([.int 4]) ++ List.replicate (1 - (lg_sl ([.int 4])).length) Slot.unset).toArray [] from by rw [hargs]; exact lg_entry_eq ..]
  generalize (lg_sl ([.int 4]) ++ List.replicate (1 - (lg_sl ([.int 4])).length) Slot.unset).toArray = ls at hl ⊢
  have hl : lv_has ls 1 [(0, .int 4)] := hl
  refine W_genQ (fun Q hQ => ?_)
  refine lv_iload_n hx hb dX11_madeOf_0 rfl (lv_at hl 0 rfl) ?_
  refine lv_tableIn (tgt := 56) hx hb dX11_madeOf_1 (by decide) (by decide) rfl (by decide) ?_
  refine va_new (ci := 1) (fs := [.null, .null, .int 0]) (C := RX1) (T := TX1) (N := 3) hx hb hg gwX1 tyX1 tyX1_ok hown (hg _ kw_118) (hg _ kw_119) (hg _ kw_120) hK hP hD hS hA rfl (by decide +kernel) (Nat.le_of_ble_eq_true rfl) (Nat.le_of_ble_eq_true rfl) dX11_madeOf_56 (fun q_56 H hP hD hS => ?_)
  have hP : va_P D vwCl [(q_56, .inr (1, [.null, .null, .int 0]))] H := hP
  have hD : va_D A [(q_56, .inr (1, [.null, .null, .int 0]))] := hD
  refine W.cs (cells' := 1) (slots' := 3) rfl rfl ?_
  refine lv_dup hx hb dX11_madeOf_59 rfl ?_
  have hPc := hP.sub (ws' := [(q_56, .inr (1, [.null, .null, .int 0]))]) [0] rfl
  have hKc := hK.sub (tys' := []) [] rfl
  have hDc := hD.sub (ws' := [(q_56, .inr (1, [.null, .null, .int 0]))]) [0] (by decide) rfl
  have hFc := va_free (wc := [(q_56, .inr (1, [.null, .null, .int 0]))]) hD hS hA [0] rfl
  refine va_callv (va_runIN (As := []) (rest := [.ref q_56]) ⟨hx, hb, hml, hown, hg⟩ (i_X1_1 l D q_56 _) ⟨va_cnB 0 hg (gw_I kw_121) rfl rfl rfl (hN.1 (RX11, 345, yX1_init) (by decide +kernel)) (hg _ kw_120) (by decide +kernel) ⟨Nat.le_of_ble_eq_true rfl, Nat.le_of_ble_eq_true rfl⟩, rfl, hg _ kw_122⟩ (pr_C hKc hPc hDc hN) rfl rfl hl.1 rfl (lv_room (Nat.le_of_ble_eq_true rfl)) dX11_madeOf_60 ⟨Nat.le_of_ble_eq_true rfl, Nat.le_of_ble_eq_true rfl⟩) hS (fun q _ h => hFc q h) hFc (fun u t H1 locs ht hvm h_60 hB hz1 hk1 hS => ?_)
  obtain ⟨nq_60, cQ_60, hP1, hK1, hD1⟩ := hB
  rw [ht] at hP1
  have hK1 := va_K.moved hvm.symm hK1
  obtain ⟨hP, hD⟩ := va_join (wr := []) (w1 := [(q_56, .inr (1, [.ref nq_60, .null, .int 0])), (nq_60, .inl (cQ_60, 4, .inl (fun _ => 0)))]) hP hD [0] [] rfl rfl (by decide) (by decide) hk1 hFc hP1 hD1
  have hK := hK.app hK1
  generalize H1 = H at hP hS ⊢
  have hP : va_P D vwCl [(q_56, .inr (1, [.ref nq_60, .null, .int 0])), (nq_60, .inl (cQ_60, 4, .inl (fun _ => 0)))] H := hP
  have hD : va_D A [(q_56, .inr (1, [.ref nq_60, .null, .int 0])), (nq_60, .inl (cQ_60, 4, .inl (fun _ => 0)))] := hD
  have hK : va_K D vwCl [(cQ_60, .int)] s := hK
  refine W.cs (cells' := 2) (slots' := 7) rfl rfl ?_
  try dsimp only at h_60
  subst hQ
  refine W.widen (k := 2) (n := 7) (Nat.le_of_ble_eq_true rfl) (Nat.le_of_ble_eq_true rfl) ?_
  have hP9 := hP.sub (ws' := [(q_56, .inr (1, [.ref nq_60, .null, .int 0])), (nq_60, .inl (cQ_60, 4, .inl (fun _ => 0)))]) [0, 1] rfl
  have hD9 := hD.sub (ws' := [(q_56, .inr (1, [.ref nq_60, .null, .int 0])), (nq_60, .inl (cQ_60, 4, .inl (fun _ => 0)))]) [0, 1] (by decide) rfl
  have hK9 := hK.sub (tys' := [(cQ_60, .int)]) [0] rfl
  exact W.aret (v := .ref q_56) hx hb hr (Or.inl ⟨_, rfl⟩) (Or.inr ⟨_, rfl⟩) (fun t ht hW => ⟨⟨(), q_56, rfl, trivial, ⟨nq_60, cQ_60, by rw [ht]; exact hP9, va_K.moved hW.alike hK9, hD9⟩⟩, hS.F ht⟩) hS.2.2 dX11_madeOf_63

set_option maxHeartbeats 4000000 in
set_option maxRecDepth 100000 in
theorem p_become_1 (l : Launch) (D : va_G) (h0 : Nat) (nq : Nat) (cQ : ClassId) (nf : Nat → Int32) (p1 : Int32) (p2 : Int32) (p3 : Int32) (p4 : Int32) (sz : Nat) : Met l yX3_become (Cond.code yX3_become cX3_become 5 none :: gw_tbl) ({ frames := 0, cells := 0, slots := 0, locals := 0 }) (pc_M D [(cQ, .int)] [(h0, .inr (1, [.ref nq, .null, .int 0])), (nq, .inl (cQ, 4, .inl nf))] sz [.ref h0, .int p1, .int p2, .int p3, .int p4]) (va_Qv (fun (u : Unit) => True) (fun _ t => ∃ (nf2 : Nat → Int32), va_P D vwCl [(h0, .inr (1, [.ref nq, .null, .int 0])), (nq, .inl (cQ, 4, .inl nf2))] t.heap ∧ va_K D vwCl [] t ∧ va_D (va_A [(h0, .inr (1, [.ref nq, .null, .int 0])), (nq, .inl (cQ, 4, .inl nf))] sz) [(h0, .inr (1, [.ref nq, .null, .int 0])), (nq, .inl (cQ, 4, .inl nf2))]) (va_A [(h0, .inr (1, [.ref nq, .null, .int 0])), (nq, .inl (cQ, 4, .inl nf))] sz)) 0 0 (va_A [(h0, .inr (1, [.ref nq, .null, .int 0])), (nq, .inl (cQ, 4, .inl nf))] sz) := by
  refine Met.ofW (cc := cX3_become) (maxL := 5) (ret := none) (by decide) rfl ?_
  intro p e s m args below meth c s₁ B hml hv
  obtain ⟨hargs, hsz, hP, hK, hD0⟩ := hv
  have hx := B.exec
  have hb := B.bytes
  have hr := B.returns
  have hts := atoms_spec (ws := Cond.code yX3_become cX3_become 5 none :: gw_tbl) B.pre
  have hg := fun (w : Cond) (h : w ∈ gw_tbl) => hts w (List.mem_cons_of_mem _ h)
  have hown : s.vm.findClass RX3 = some m.cls := findClass_of_methodNamed B.named
  have hlocks := B.notSynchronized
  subst hsz
  have hD := hD0.self (sz := s.heap.size)
  generalize hAe : va_A [(h0, .inr (1, [.ref nq, .null, .int 0])), (nq, .inl (cQ, 4, .inl nf))] s.heap.size = A at hD ⊢
  have hA : ∀ q : Nat, s.heap.size ≤ q → A q := fun q h => by rw [← hAe]; exact Or.inr h
  have hS : va_S A s.heap s.heap [] := va_S.rf
  have hP : va_P D vwCl [(h0, .inr (1, [.ref nq, .null, .int 0])), (nq, .inl (cQ, 4, .inl nf))] s.heap := hP
  have hl := lv_entry ([.ref h0, .int p1, .int p2, .int p3, .int p4]) (n := 5) (Nat.le_of_ble_eq_true rfl)
  rw [show entryFrame m args 5 = F0 m 0 (lg_sl ([.ref h0, .int p1, .int p2, .int p3, .int p4]) ++ List.replicate (5 - (lg_sl ([.ref h0, .int p1, .int p2, .int p3, .int p4])).length) Slot.unset).toArray [] from by rw [hargs]; exact lg_entry_eq ..]
  generalize (lg_sl ([.ref h0, .int p1, .int p2, .int p3, .int p4]) ++ List.replicate (5 - (lg_sl ([.ref h0, .int p1, .int p2, .int p3, .int p4])).length) Slot.unset).toArray = ls at hl ⊢
  have hl : lv_has ls 5 [(0, .ref h0), (1, .int p1), (2, .int p2), (3, .int p3), (4, .int p4)] := hl
  refine W_genQ (fun Q hQ => ?_)
  refine lv_aload_n hx hb dX3_become_0 rfl (lv_at hl 0 rfl) ?_
  refine va_get (D := D) (ci := 1) (v := .ref nq) (C := RX1) (T := TX1) (N := 3) hx hb hg gwX1 hown hK hP 0 rfl rfl 0 (by decide) (hg _ kw_97) (fun _ h9 => h9) rfl dX3_become_1 ?_
  refine lv_iconst (v := 0) hx hb dX3_become_4 (by decide) ?_
  refine lv_iload_n hx hb dX3_become_5 rfl (lv_at hl 1 rfl) ?_
  refine va_iast hx hb hK hP hD hS 1 0 rfl rfl (show ¬ ((0 : Int32) < 0 ∨ 4 ≤ (0 : Int32).toNatClampNeg) by decide) dX3_become_6 (fun H locs hP hD hS => ?_)
  generalize (upd nf (0 : Int32).toNatClampNeg p1) = f_6 at hP hD
  have hP : va_P D vwCl [(h0, .inr (1, [.ref nq, .null, .int 0])), (nq, .inl (cQ, 4, .inl f_6))] H := hP
  have hD : va_D A [(h0, .inr (1, [.ref nq, .null, .int 0])), (nq, .inl (cQ, 4, .inl f_6))] := hD
  refine lv_aload_n hx hb dX3_become_7 rfl (lv_at hl 0 rfl) ?_
  refine va_get (D := D) (ci := 1) (v := .ref nq) (C := RX1) (T := TX1) (N := 3) hx hb hg gwX1 hown hK hP 0 rfl rfl 0 (by decide) (hg _ kw_97) (fun _ h9 => h9) rfl dX3_become_8 ?_
  refine lv_iconst (v := 1) hx hb dX3_become_11 (by decide) ?_
  refine lv_iload_n hx hb dX3_become_12 rfl (lv_at hl 2 rfl) ?_
  refine va_iast hx hb hK hP hD hS 1 0 rfl rfl (show ¬ ((1 : Int32) < 0 ∨ 4 ≤ (1 : Int32).toNatClampNeg) by decide) dX3_become_13 (fun H locs hP hD hS => ?_)
  generalize (upd f_6 (1 : Int32).toNatClampNeg p2) = f_13 at hP hD
  have hP : va_P D vwCl [(h0, .inr (1, [.ref nq, .null, .int 0])), (nq, .inl (cQ, 4, .inl f_13))] H := hP
  have hD : va_D A [(h0, .inr (1, [.ref nq, .null, .int 0])), (nq, .inl (cQ, 4, .inl f_13))] := hD
  refine lv_aload_n hx hb dX3_become_14 rfl (lv_at hl 0 rfl) ?_
  refine va_get (D := D) (ci := 1) (v := .ref nq) (C := RX1) (T := TX1) (N := 3) hx hb hg gwX1 hown hK hP 0 rfl rfl 0 (by decide) (hg _ kw_97) (fun _ h9 => h9) rfl dX3_become_15 ?_
  refine lv_iconst (v := 2) hx hb dX3_become_18 (by decide) ?_
  refine lv_iload_n hx hb dX3_become_19 rfl (lv_at hl 3 rfl) ?_
  refine va_iast hx hb hK hP hD hS 1 0 rfl rfl (show ¬ ((2 : Int32) < 0 ∨ 4 ≤ (2 : Int32).toNatClampNeg) by decide) dX3_become_20 (fun H locs hP hD hS => ?_)
  generalize (upd f_13 (2 : Int32).toNatClampNeg p3) = f_20 at hP hD
  have hP : va_P D vwCl [(h0, .inr (1, [.ref nq, .null, .int 0])), (nq, .inl (cQ, 4, .inl f_20))] H := hP
  have hD : va_D A [(h0, .inr (1, [.ref nq, .null, .int 0])), (nq, .inl (cQ, 4, .inl f_20))] := hD
  refine lv_aload_n hx hb dX3_become_21 rfl (lv_at hl 0 rfl) ?_
  refine va_get (D := D) (ci := 1) (v := .ref nq) (C := RX1) (T := TX1) (N := 3) hx hb hg gwX1 hown hK hP 0 rfl rfl 0 (by decide) (hg _ kw_97) (fun _ h9 => h9) rfl dX3_become_22 ?_
  refine lv_iconst (v := 3) hx hb dX3_become_25 (by decide) ?_
  refine lv_iload hx hb dX3_become_26 (lv_at hl 4 rfl) ?_
  refine va_iast hx hb hK hP hD hS 1 0 rfl rfl (show ¬ ((3 : Int32) < 0 ∨ 4 ≤ (3 : Int32).toNatClampNeg) by decide) dX3_become_28 (fun H locs hP hD hS => ?_)
  generalize (upd f_20 (3 : Int32).toNatClampNeg p4) = f_28 at hP hD
  have hP : va_P D vwCl [(h0, .inr (1, [.ref nq, .null, .int 0])), (nq, .inl (cQ, 4, .inl f_28))] H := hP
  have hD : va_D A [(h0, .inr (1, [.ref nq, .null, .int 0])), (nq, .inl (cQ, 4, .inl f_28))] := hD
  subst hQ
  refine W.widen (k := 0) (n := 0) (Nat.le_of_ble_eq_true rfl) (Nat.le_of_ble_eq_true rfl) ?_
  have hP9 := hP.sub (ws' := [(h0, .inr (1, [.ref nq, .null, .int 0])), (nq, .inl (cQ, 4, .inl f_28))]) [0, 1] rfl
  have hD9 := hD.sub (ws' := [(h0, .inr (1, [.ref nq, .null, .int 0])), (nq, .inl (cQ, 4, .inl f_28))]) [0, 1] (by decide) rfl
  have hK9 := hK.sub (tys' := []) [] rfl
  exact W.vret hx hb hr (fun t ht hW => ⟨⟨(), rfl, trivial, ⟨f_28, by rw [ht]; exact hP9, va_K.moved hW.alike hK9, hD9⟩⟩, hS.F ht⟩) hS.2.2 dX3_become_29

theorem dX11_areNumbers_0 : decode cX11_areNumbers 0 = .ok (.iload_n 0, 1) := by decide +kernel
theorem dX11_areNumbers_1 : decode cX11_areNumbers 1 = .ok (.iconst 4, 1) := by decide +kernel
theorem dX11_areNumbers_2 : decode cX11_areNumbers 2 = .ok (.if_icmp .ne 8, 3) := by decide +kernel
theorem dX11_areNumbers_5 : decode cX11_areNumbers 5 = .ok (.bipush 100, 2) := by decide +kernel
theorem dX11_areNumbers_7 : decode cX11_areNumbers 7 = .ok (.goto 6, 3) := by decide +kernel
theorem dX11_areNumbers_10 : decode cX11_areNumbers 10 = .ok (.sipush 999, 3) := by decide +kernel
theorem dX11_areNumbers_13 : decode cX11_areNumbers 13 = .ok (.istore 5, 2) := by decide +kernel
theorem dX11_areNumbers_15 : decode cX11_areNumbers 15 = .ok (.iload_n 1, 1) := by decide +kernel
theorem dX11_areNumbers_16 : decode cX11_areNumbers 16 = .ok (.iconst 0, 1) := by decide +kernel
theorem dX11_areNumbers_17 : decode cX11_areNumbers 17 = .ok (.sipush 999, 3) := by decide +kernel
theorem dX11_areNumbers_20 : decode cX11_areNumbers 20 = .ok (.invokestatic 105, 3) := by decide +kernel
theorem dX11_areNumbers_23 : decode cX11_areNumbers 23 = .ok (.ifCond .eq 39, 3) := by decide +kernel
theorem dX11_areNumbers_26 : decode cX11_areNumbers 26 = .ok (.iload_n 2, 1) := by decide +kernel
theorem dX11_areNumbers_27 : decode cX11_areNumbers 27 = .ok (.iconst 0, 1) := by decide +kernel
theorem dX11_areNumbers_28 : decode cX11_areNumbers 28 = .ok (.iload 5, 2) := by decide +kernel
theorem dX11_areNumbers_30 : decode cX11_areNumbers 30 = .ok (.invokestatic 105, 3) := by decide +kernel
theorem dX11_areNumbers_33 : decode cX11_areNumbers 33 = .ok (.ifCond .eq 29, 3) := by decide +kernel
theorem dX11_areNumbers_36 : decode cX11_areNumbers 36 = .ok (.iload_n 3, 1) := by decide +kernel
theorem dX11_areNumbers_37 : decode cX11_areNumbers 37 = .ok (.iconst 0, 1) := by decide +kernel
theorem dX11_areNumbers_38 : decode cX11_areNumbers 38 = .ok (.sipush 999, 3) := by decide +kernel
theorem dX11_areNumbers_41 : decode cX11_areNumbers 41 = .ok (.invokestatic 105, 3) := by decide +kernel
theorem dX11_areNumbers_44 : decode cX11_areNumbers 44 = .ok (.ifCond .eq 18, 3) := by decide +kernel
theorem dX11_areNumbers_47 : decode cX11_areNumbers 47 = .ok (.iload 4, 2) := by decide +kernel
theorem dX11_areNumbers_49 : decode cX11_areNumbers 49 = .ok (.iconst 0, 1) := by decide +kernel
theorem dX11_areNumbers_50 : decode cX11_areNumbers 50 = .ok (.iload 5, 2) := by decide +kernel
theorem dX11_areNumbers_52 : decode cX11_areNumbers 52 = .ok (.invokestatic 105, 3) := by decide +kernel
theorem dX11_areNumbers_55 : decode cX11_areNumbers 55 = .ok (.ifCond .eq 7, 3) := by decide +kernel
theorem dX11_areNumbers_58 : decode cX11_areNumbers 58 = .ok (.iconst 1, 1) := by decide +kernel
theorem dX11_areNumbers_59 : decode cX11_areNumbers 59 = .ok (.goto 4, 3) := by decide +kernel
theorem dX11_areNumbers_62 : decode cX11_areNumbers 62 = .ok (.iconst 0, 1) := by decide +kernel
theorem dX11_areNumbers_63 : decode cX11_areNumbers 63 = .ok (.ireturn, 1) := by decide +kernel

set_option maxHeartbeats 4000000 in
set_option maxRecDepth 100000 in
theorem x_areNumbers (l : Launch) (p1 : Int32) (p2 : Int32) (p3 : Int32) (p4 : Int32) (p5 : Int32) : Met l yX11_areNumbers (Cond.code yX11_areNumbers cX11_areNumbers 6 (some .boolean) :: gw_tbl) ({ frames := 1, cells := 0, slots := 0, locals := 22 }) (pc_0 [.int p1, .int p2, .int p3, .int p4, .int p5]) (vp_Si (fun r => r = anf p1 p2 p3 p4 p5)) 0 0 (fun _ => False) := by
  refine Met.ofW (cc := cX11_areNumbers) (maxL := 6) (ret := (some .boolean)) (by decide) rfl ?_
  intro p e s m args below meth c s₁ B hml hv
  obtain ⟨hargs, -⟩ := hv
  have hx := B.exec
  have hb := B.bytes
  have hr := B.returns
  have hts := atoms_spec (ws := Cond.code yX11_areNumbers cX11_areNumbers 6 (some .boolean) :: gw_tbl) B.pre
  have hg := fun (w : Cond) (h : w ∈ gw_tbl) => hts w (List.mem_cons_of_mem _ h)
  have hown : s.vm.findClass RX11 = some m.cls := findClass_of_methodNamed B.named
  have hlocks := B.notSynchronized
  have hl := lv_entry ([.int p1, .int p2, .int p3, .int p4, .int p5]) (n := 6) (Nat.le_of_ble_eq_true rfl)
  rw [show entryFrame m args 6 = F0 m 0 (lg_sl ([.int p1, .int p2, .int p3, .int p4, .int p5]) ++ List.replicate (6 - (lg_sl ([.int p1, .int p2, .int p3, .int p4, .int p5])).length) Slot.unset).toArray [] from by rw [hargs]; exact lg_entry_eq ..]
  generalize (lg_sl ([.int p1, .int p2, .int p3, .int p4, .int p5]) ++ List.replicate (6 - (lg_sl ([.int p1, .int p2, .int p3, .int p4, .int p5])).length) Slot.unset).toArray = ls at hl ⊢
  have hl : lv_has ls 6 [(0, .int p1), (1, .int p2), (2, .int p3), (3, .int p4), (4, .int p5)] := hl
  refine W_genQ (fun Q hQ => ?_)
  refine lv_iload_n hx hb dX11_areNumbers_0 rfl (lv_at hl 0 rfl) ?_
  refine lv_iconst (v := 4) hx hb dX11_areNumbers_1 (by decide) ?_
  refine lv_icmp_ne (tgt := 10) hx hb dX11_areNumbers_2 (by decide) (fun c_2 => ?_) (fun c_2 => ?_)
  · refine lv_sipush (v := 999) hx hb dX11_areNumbers_10 (by decide) ?_
    refine lv_istore (lv' := [(5, .int 999), (0, .int p1), (1, .int p2), (2, .int p3), (3, .int p4), (4, .int p5)]) hx hb dX11_areNumbers_13 hl (by decide) rfl (fun ls hl => ?_)
    refine lv_iload_n hx hb dX11_areNumbers_15 rfl (lv_at hl 2 rfl) ?_
    refine lv_iconst (v := 0) hx hb dX11_areNumbers_16 (by decide) ?_
    refine lv_sipush (v := 999) hx hb dX11_areNumbers_17 (by decide) ?_
    refine vp_callSi (W.runS (As := [.int p2, .int 0, .int 999]) (rest := []) ⟨hx, hb, hml, hown, hg⟩ (c_isWithin l p2 0 999) (va_cwS 3 hg (gw_S kw_4 kw_5 kw_6 kw_3) rfl rfl rfl (by decide +kernel) ⟨Nat.le_of_ble_eq_true rfl, Nat.le_of_ble_eq_true rfl⟩) pr_0 rfl rfl hl.1 rfl (lv_room (Nat.le_of_ble_eq_true rfl)) dX11_areNumbers_20 ⟨Nat.le_of_ble_eq_true rfl, Nat.le_of_ble_eq_true rfl⟩) (fun r_20 h_20 => ?_)
    try dsimp only at h_20
    refine lv_if_eq (tgt := 62) hx hb dX11_areNumbers_23 (by decide) (fun c_23 => ?_) (fun c_23 => ?_)
    · refine lv_iconst (v := 0) hx hb dX11_areNumbers_62 (by decide) ?_
      have hq : ¬ okq p1 p2 p3 p4 p5 := fun q => by
        replace q := q.1
        exact iw_n h_20 c_23 q
      subst hQ
      exact W.zret (v := 0) hx hb hr (by decide) (fun t ht hW => ⟨0, rfl, (an_0 hq), ht⟩) (fun _ h => absurd h List.not_mem_nil) dX11_areNumbers_63
    · refine lv_iload_n hx hb dX11_areNumbers_26 rfl (lv_at hl 3 rfl) ?_
      refine lv_iconst (v := 0) hx hb dX11_areNumbers_27 (by decide) ?_
      refine lv_iload hx hb dX11_areNumbers_28 (lv_at hl 0 rfl) ?_
      refine vp_callSi (W.runS (As := [.int p3, .int 0, .int 999]) (rest := []) ⟨hx, hb, hml, hown, hg⟩ (c_isWithin l p3 0 999) (va_cwS 3 hg (gw_S kw_4 kw_5 kw_6 kw_3) rfl rfl rfl (by decide +kernel) ⟨Nat.le_of_ble_eq_true rfl, Nat.le_of_ble_eq_true rfl⟩) pr_0 rfl rfl hl.1 rfl (lv_room (Nat.le_of_ble_eq_true rfl)) dX11_areNumbers_30 ⟨Nat.le_of_ble_eq_true rfl, Nat.le_of_ble_eq_true rfl⟩) (fun r_30 h_30 => ?_)
      try dsimp only at h_30
      refine lv_if_eq (tgt := 62) hx hb dX11_areNumbers_33 (by decide) (fun c_33 => ?_) (fun c_33 => ?_)
      · refine lv_iconst (v := 0) hx hb dX11_areNumbers_62 (by decide) ?_
        have hq : ¬ okq p1 p2 p3 p4 p5 := fun q => by
          replace q := q.2.1
          rw [ms4_n c_2] at q
          exact iw_n h_30 c_33 q
        subst hQ
        exact W.zret (v := 0) hx hb hr (by decide) (fun t ht hW => ⟨0, rfl, (an_0 hq), ht⟩) (fun _ h => absurd h List.not_mem_nil) dX11_areNumbers_63
      · refine lv_iload_n hx hb dX11_areNumbers_36 rfl (lv_at hl 4 rfl) ?_
        refine lv_iconst (v := 0) hx hb dX11_areNumbers_37 (by decide) ?_
        refine lv_sipush (v := 999) hx hb dX11_areNumbers_38 (by decide) ?_
        refine vp_callSi (W.runS (As := [.int p4, .int 0, .int 999]) (rest := []) ⟨hx, hb, hml, hown, hg⟩ (c_isWithin l p4 0 999) (va_cwS 3 hg (gw_S kw_4 kw_5 kw_6 kw_3) rfl rfl rfl (by decide +kernel) ⟨Nat.le_of_ble_eq_true rfl, Nat.le_of_ble_eq_true rfl⟩) pr_0 rfl rfl hl.1 rfl (lv_room (Nat.le_of_ble_eq_true rfl)) dX11_areNumbers_41 ⟨Nat.le_of_ble_eq_true rfl, Nat.le_of_ble_eq_true rfl⟩) (fun r_41 h_41 => ?_)
        try dsimp only at h_41
        refine lv_if_eq (tgt := 62) hx hb dX11_areNumbers_44 (by decide) (fun c_44 => ?_) (fun c_44 => ?_)
        · refine lv_iconst (v := 0) hx hb dX11_areNumbers_62 (by decide) ?_
          have hq : ¬ okq p1 p2 p3 p4 p5 := fun q => by
            replace q := q.2.2.1
            exact iw_n h_41 c_44 q
          subst hQ
          exact W.zret (v := 0) hx hb hr (by decide) (fun t ht hW => ⟨0, rfl, (an_0 hq), ht⟩) (fun _ h => absurd h List.not_mem_nil) dX11_areNumbers_63
        · refine lv_iload hx hb dX11_areNumbers_47 (lv_at hl 5 rfl) ?_
          refine lv_iconst (v := 0) hx hb dX11_areNumbers_49 (by decide) ?_
          refine lv_iload hx hb dX11_areNumbers_50 (lv_at hl 0 rfl) ?_
          refine vp_callSi (W.runS (As := [.int p5, .int 0, .int 999]) (rest := []) ⟨hx, hb, hml, hown, hg⟩ (c_isWithin l p5 0 999) (va_cwS 3 hg (gw_S kw_4 kw_5 kw_6 kw_3) rfl rfl rfl (by decide +kernel) ⟨Nat.le_of_ble_eq_true rfl, Nat.le_of_ble_eq_true rfl⟩) pr_0 rfl rfl hl.1 rfl (lv_room (Nat.le_of_ble_eq_true rfl)) dX11_areNumbers_52 ⟨Nat.le_of_ble_eq_true rfl, Nat.le_of_ble_eq_true rfl⟩) (fun r_52 h_52 => ?_)
          try dsimp only at h_52
          refine lv_if_eq (tgt := 62) hx hb dX11_areNumbers_55 (by decide) (fun c_55 => ?_) (fun c_55 => ?_)
          · refine lv_iconst (v := 0) hx hb dX11_areNumbers_62 (by decide) ?_
            have hq : ¬ okq p1 p2 p3 p4 p5 := fun q => by
              replace q := q.2.2.2
              rw [ms4_n c_2] at q
              exact iw_n h_52 c_55 q
            subst hQ
            exact W.zret (v := 0) hx hb hr (by decide) (fun t ht hW => ⟨0, rfl, (an_0 hq), ht⟩) (fun _ h => absurd h List.not_mem_nil) dX11_areNumbers_63
          · refine lv_iconst (v := 1) hx hb dX11_areNumbers_58 (by decide) ?_
            refine lv_goto (tgt := 63) hx hb dX11_areNumbers_59 (by decide) ?_
            have hq : okq p1 p2 p3 p4 p5 := ⟨iw_y h_20 c_23, by rw [ms4_n c_2]; exact iw_y h_30 c_33, iw_y h_41 c_44, by rw [ms4_n c_2]; exact iw_y h_52 c_55⟩
            subst hQ
            exact W.zret (v := 1) hx hb hr (by decide) (fun t ht hW => ⟨1, rfl, (an_1 hq), ht⟩) (fun _ h => absurd h List.not_mem_nil) dX11_areNumbers_63
  · refine lv_bipush (v := 100) hx hb dX11_areNumbers_5 (by decide) ?_
    refine lv_goto (tgt := 13) hx hb dX11_areNumbers_7 (by decide) ?_
    refine lv_istore (lv' := [(5, .int 100), (0, .int p1), (1, .int p2), (2, .int p3), (3, .int p4), (4, .int p5)]) hx hb dX11_areNumbers_13 hl (by decide) rfl (fun ls hl => ?_)
    refine lv_iload_n hx hb dX11_areNumbers_15 rfl (lv_at hl 2 rfl) ?_
    refine lv_iconst (v := 0) hx hb dX11_areNumbers_16 (by decide) ?_
    refine lv_sipush (v := 999) hx hb dX11_areNumbers_17 (by decide) ?_
    refine vp_callSi (W.runS (As := [.int p2, .int 0, .int 999]) (rest := []) ⟨hx, hb, hml, hown, hg⟩ (c_isWithin l p2 0 999) (va_cwS 3 hg (gw_S kw_4 kw_5 kw_6 kw_3) rfl rfl rfl (by decide +kernel) ⟨Nat.le_of_ble_eq_true rfl, Nat.le_of_ble_eq_true rfl⟩) pr_0 rfl rfl hl.1 rfl (lv_room (Nat.le_of_ble_eq_true rfl)) dX11_areNumbers_20 ⟨Nat.le_of_ble_eq_true rfl, Nat.le_of_ble_eq_true rfl⟩) (fun r_20 h_20 => ?_)
    try dsimp only at h_20
    refine lv_if_eq (tgt := 62) hx hb dX11_areNumbers_23 (by decide) (fun c_23 => ?_) (fun c_23 => ?_)
    · refine lv_iconst (v := 0) hx hb dX11_areNumbers_62 (by decide) ?_
      have hq : ¬ okq p1 p2 p3 p4 p5 := fun q => by
        replace q := q.1
        exact iw_n h_20 c_23 q
      subst hQ
      exact W.zret (v := 0) hx hb hr (by decide) (fun t ht hW => ⟨0, rfl, (an_0 hq), ht⟩) (fun _ h => absurd h List.not_mem_nil) dX11_areNumbers_63
    · refine lv_iload_n hx hb dX11_areNumbers_26 rfl (lv_at hl 3 rfl) ?_
      refine lv_iconst (v := 0) hx hb dX11_areNumbers_27 (by decide) ?_
      refine lv_iload hx hb dX11_areNumbers_28 (lv_at hl 0 rfl) ?_
      refine vp_callSi (W.runS (As := [.int p3, .int 0, .int 100]) (rest := []) ⟨hx, hb, hml, hown, hg⟩ (c_isWithin l p3 0 100) (va_cwS 3 hg (gw_S kw_4 kw_5 kw_6 kw_3) rfl rfl rfl (by decide +kernel) ⟨Nat.le_of_ble_eq_true rfl, Nat.le_of_ble_eq_true rfl⟩) pr_0 rfl rfl hl.1 rfl (lv_room (Nat.le_of_ble_eq_true rfl)) dX11_areNumbers_30 ⟨Nat.le_of_ble_eq_true rfl, Nat.le_of_ble_eq_true rfl⟩) (fun r_30 h_30 => ?_)
      try dsimp only at h_30
      refine lv_if_eq (tgt := 62) hx hb dX11_areNumbers_33 (by decide) (fun c_33 => ?_) (fun c_33 => ?_)
      · refine lv_iconst (v := 0) hx hb dX11_areNumbers_62 (by decide) ?_
        have hq : ¬ okq p1 p2 p3 p4 p5 := fun q => by
          replace q := q.2.1
          rw [ms4_y c_2] at q
          exact iw_n h_30 c_33 q
        subst hQ
        exact W.zret (v := 0) hx hb hr (by decide) (fun t ht hW => ⟨0, rfl, (an_0 hq), ht⟩) (fun _ h => absurd h List.not_mem_nil) dX11_areNumbers_63
      · refine lv_iload_n hx hb dX11_areNumbers_36 rfl (lv_at hl 4 rfl) ?_
        refine lv_iconst (v := 0) hx hb dX11_areNumbers_37 (by decide) ?_
        refine lv_sipush (v := 999) hx hb dX11_areNumbers_38 (by decide) ?_
        refine vp_callSi (W.runS (As := [.int p4, .int 0, .int 999]) (rest := []) ⟨hx, hb, hml, hown, hg⟩ (c_isWithin l p4 0 999) (va_cwS 3 hg (gw_S kw_4 kw_5 kw_6 kw_3) rfl rfl rfl (by decide +kernel) ⟨Nat.le_of_ble_eq_true rfl, Nat.le_of_ble_eq_true rfl⟩) pr_0 rfl rfl hl.1 rfl (lv_room (Nat.le_of_ble_eq_true rfl)) dX11_areNumbers_41 ⟨Nat.le_of_ble_eq_true rfl, Nat.le_of_ble_eq_true rfl⟩) (fun r_41 h_41 => ?_)
        try dsimp only at h_41
        refine lv_if_eq (tgt := 62) hx hb dX11_areNumbers_44 (by decide) (fun c_44 => ?_) (fun c_44 => ?_)
        · refine lv_iconst (v := 0) hx hb dX11_areNumbers_62 (by decide) ?_
          have hq : ¬ okq p1 p2 p3 p4 p5 := fun q => by
            replace q := q.2.2.1
            exact iw_n h_41 c_44 q
          subst hQ
          exact W.zret (v := 0) hx hb hr (by decide) (fun t ht hW => ⟨0, rfl, (an_0 hq), ht⟩) (fun _ h => absurd h List.not_mem_nil) dX11_areNumbers_63
        · refine lv_iload hx hb dX11_areNumbers_47 (lv_at hl 5 rfl) ?_
          refine lv_iconst (v := 0) hx hb dX11_areNumbers_49 (by decide) ?_
          refine lv_iload hx hb dX11_areNumbers_50 (lv_at hl 0 rfl) ?_
          refine vp_callSi (W.runS (As := [.int p5, .int 0, .int 100]) (rest := []) ⟨hx, hb, hml, hown, hg⟩ (c_isWithin l p5 0 100) (va_cwS 3 hg (gw_S kw_4 kw_5 kw_6 kw_3) rfl rfl rfl (by decide +kernel) ⟨Nat.le_of_ble_eq_true rfl, Nat.le_of_ble_eq_true rfl⟩) pr_0 rfl rfl hl.1 rfl (lv_room (Nat.le_of_ble_eq_true rfl)) dX11_areNumbers_52 ⟨Nat.le_of_ble_eq_true rfl, Nat.le_of_ble_eq_true rfl⟩) (fun r_52 h_52 => ?_)
          try dsimp only at h_52
          refine lv_if_eq (tgt := 62) hx hb dX11_areNumbers_55 (by decide) (fun c_55 => ?_) (fun c_55 => ?_)
          · refine lv_iconst (v := 0) hx hb dX11_areNumbers_62 (by decide) ?_
            have hq : ¬ okq p1 p2 p3 p4 p5 := fun q => by
              replace q := q.2.2.2
              rw [ms4_y c_2] at q
              exact iw_n h_52 c_55 q
            subst hQ
            exact W.zret (v := 0) hx hb hr (by decide) (fun t ht hW => ⟨0, rfl, (an_0 hq), ht⟩) (fun _ h => absurd h List.not_mem_nil) dX11_areNumbers_63
          · refine lv_iconst (v := 1) hx hb dX11_areNumbers_58 (by decide) ?_
            refine lv_goto (tgt := 63) hx hb dX11_areNumbers_59 (by decide) ?_
            have hq : okq p1 p2 p3 p4 p5 := ⟨iw_y h_20 c_23, by rw [ms4_y c_2]; exact iw_y h_30 c_33, iw_y h_41 c_44, by rw [ms4_y c_2]; exact iw_y h_52 c_55⟩
            subst hQ
            exact W.zret (v := 1) hx hb hr (by decide) (fun t ht hW => ⟨1, rfl, (an_1 hq), ht⟩) (fun _ h => absurd h List.not_mem_nil) dX11_areNumbers_63

theorem dX11_pay_0 : decode cX11_pay 0 = .ok (.iload_n 1, 1) := by decide +kernel
theorem dX11_pay_1 : decode cX11_pay 1 = .ok (.iconst 0, 1) := by decide +kernel
theorem dX11_pay_2 : decode cX11_pay 2 = .ok (.iconst 4, 1) := by decide +kernel
theorem dX11_pay_3 : decode cX11_pay 3 = .ok (.invokestatic 105, 3) := by decide +kernel
theorem dX11_pay_6 : decode cX11_pay 6 = .ok (.ifCond .eq 16, 3) := by decide +kernel
theorem dX11_pay_9 : decode cX11_pay 9 = .ok (.iload_n 1, 1) := by decide +kernel
theorem dX11_pay_10 : decode cX11_pay 10 = .ok (.iload_n 2, 1) := by decide +kernel
theorem dX11_pay_11 : decode cX11_pay 11 = .ok (.iload_n 3, 1) := by decide +kernel
theorem dX11_pay_12 : decode cX11_pay 12 = .ok (.iload 4, 2) := by decide +kernel
theorem dX11_pay_14 : decode cX11_pay 14 = .ok (.iload 5, 2) := by decide +kernel
theorem dX11_pay_16 : decode cX11_pay 16 = .ok (.invokestatic 130, 3) := by decide +kernel
theorem dX11_pay_19 : decode cX11_pay 19 = .ok (.ifCond .ne 6, 3) := by decide +kernel
theorem dX11_pay_22 : decode cX11_pay 22 = .ok (.bipush (-102), 2) := by decide +kernel
theorem dX11_pay_24 : decode cX11_pay 24 = .ok (.ireturn, 1) := by decide +kernel
theorem dX11_pay_25 : decode cX11_pay 25 = .ok (.aload_n 0, 1) := by decide +kernel
theorem dX11_pay_26 : decode cX11_pay 26 = .ok (.getfield 134, 3) := by decide +kernel
theorem dX11_pay_29 : decode cX11_pay 29 = .ok (.bipush 8, 2) := by decide +kernel
theorem dX11_pay_31 : decode cX11_pay 31 = .ok (.if_icmp .lt 6, 3) := by decide +kernel
theorem dX11_pay_34 : decode cX11_pay 34 = .ok (.bipush (-104), 2) := by decide +kernel
theorem dX11_pay_36 : decode cX11_pay 36 = .ok (.ireturn, 1) := by decide +kernel
theorem dX11_pay_37 : decode cX11_pay 37 = .ok (.iload_n 1, 1) := by decide +kernel
theorem dX11_pay_38 : decode cX11_pay 38 = .ok (.invokestatic 137, 3) := by decide +kernel
theorem dX11_pay_41 : decode cX11_pay 41 = .ok (.astore 6, 2) := by decide +kernel
theorem dX11_pay_43 : decode cX11_pay 43 = .ok (.aload 6, 2) := by decide +kernel
theorem dX11_pay_45 : decode cX11_pay 45 = .ok (.iload_n 2, 1) := by decide +kernel
theorem dX11_pay_46 : decode cX11_pay 46 = .ok (.iload_n 3, 1) := by decide +kernel
theorem dX11_pay_47 : decode cX11_pay 47 = .ok (.iload 4, 2) := by decide +kernel
theorem dX11_pay_49 : decode cX11_pay 49 = .ok (.iload 5, 2) := by decide +kernel
theorem dX11_pay_51 : decode cX11_pay 51 = .ok (.invokevirtual 141, 3) := by decide +kernel
theorem dX11_pay_54 : decode cX11_pay 54 = .ok (.aload_n 0, 1) := by decide +kernel
theorem dX11_pay_55 : decode cX11_pay 55 = .ok (.getfield 32, 3) := by decide +kernel
theorem dX11_pay_58 : decode cX11_pay 58 = .ok (.aload_n 0, 1) := by decide +kernel
theorem dX11_pay_59 : decode cX11_pay 59 = .ok (.getfield 134, 3) := by decide +kernel
theorem dX11_pay_62 : decode cX11_pay 62 = .ok (.aload 6, 2) := by decide +kernel
theorem dX11_pay_64 : decode cX11_pay 64 = .ok (.aastore, 1) := by decide +kernel
theorem dX11_pay_65 : decode cX11_pay 65 = .ok (.aload_n 0, 1) := by decide +kernel
theorem dX11_pay_66 : decode cX11_pay 66 = .ok (.dup, 1) := by decide +kernel
theorem dX11_pay_67 : decode cX11_pay 67 = .ok (.getfield 134, 3) := by decide +kernel
theorem dX11_pay_70 : decode cX11_pay 70 = .ok (.iconst 1, 1) := by decide +kernel
theorem dX11_pay_71 : decode cX11_pay 71 = .ok (.iadd, 1) := by decide +kernel
theorem dX11_pay_72 : decode cX11_pay 72 = .ok (.putfield 134, 3) := by decide +kernel
theorem dX11_pay_75 : decode cX11_pay 75 = .ok (.aload_n 0, 1) := by decide +kernel
theorem dX11_pay_76 : decode cX11_pay 76 = .ok (.getfield 134, 3) := by decide +kernel
theorem dX11_pay_79 : decode cX11_pay 79 = .ok (.iconst 1, 1) := by decide +kernel
theorem dX11_pay_80 : decode cX11_pay 80 = .ok (.isub, 1) := by decide +kernel
theorem dX11_pay_81 : decode cX11_pay 81 = .ok (.ireturn, 1) := by decide +kernel
theorem kw_123 : (.code yX11_areNumbers cX11_areNumbers 6 (some .boolean) : Cond) ∈ gw_tbl := gw_in (by decide +kernel) (by decide +kernel)
theorem kw_124 : (.methodLink RX11 130 yX11_areNumbers : Cond) ∈ gw_tbl := gw_in (by decide +kernel) (by decide +kernel)
theorem kw_125 : (.static yX11_areNumbers : Cond) ∈ gw_tbl := gw_in (by decide +kernel) (by decide +kernel)
theorem kw_126 : (.code yX11_madeOf cX11_madeOf 1 (some (.object "NobodyChecks$Pay")) : Cond) ∈ gw_tbl := gw_in (by decide +kernel) (by decide +kernel)
theorem kw_127 : (.methodLink RX11 137 yX11_madeOf : Cond) ∈ gw_tbl := gw_in (by decide +kernel) (by decide +kernel)
theorem kw_128 : (.static yX11_madeOf : Cond) ∈ gw_tbl := gw_in (by decide +kernel) (by decide +kernel)
theorem kw_129 : (.code yX3_become cX3_become 5 none : Cond) ∈ gw_tbl := gw_in (by decide +kernel) (by decide +kernel)
theorem kw_130 : (.methodLink RX11 141 yX3_become : Cond) ∈ gw_tbl := gw_in (by decide +kernel) (by decide +kernel)
theorem kw_131 : (.instanceMethod yX3_become : Cond) ∈ gw_tbl := gw_in (by decide +kernel) (by decide +kernel)
theorem kw_132 : (.selects RX3 yX3_become yX3_become : Cond) ∈ gw_tbl := gw_in (by decide +kernel) (by decide +kernel)
theorem kw_133 : (.fieldLink RX11 32 "NobodyChecks" "pays" "[LNobodyChecks$Pay;" : Cond) ∈ gw_tbl := gw_in (by decide +kernel) (by decide +kernel)
theorem kw_134 : (.sameMethod yX3_become.cls "NobodyChecks$Pay" yX3_become.name yX3_become.desc : Cond) ∈ gw_tbl := gw_in (by decide +kernel) (by decide +kernel)
theorem kw_135 : (.selects RX9 yX3_become yX3_become : Cond) ∈ gw_tbl := gw_in (by decide +kernel) (by decide +kernel)
theorem kw_136 : (.selects RX10 yX3_become yX3_become : Cond) ∈ gw_tbl := gw_in (by decide +kernel) (by decide +kernel)
theorem kw_137 : (.selects RX6 yX3_become yX3_become : Cond) ∈ gw_tbl := gw_in (by decide +kernel) (by decide +kernel)
theorem kw_138 : (.selects RX1 yX3_become yX3_become : Cond) ∈ gw_tbl := gw_in (by decide +kernel) (by decide +kernel)

set_option maxHeartbeats 4000000 in
set_option maxRecDepth 100000 in
theorem x_pay (l : Launch) (D : va_G) (x0 : Nat) (pg : Nat) (rd : Nat) (aq : Nat) (py : Nat) (pl : Nat) (ch : Nat) (ro : Nat) (cP : ClassId) (p1 : Int32) (p2 : Int32) (p3 : Int32) (p4 : Int32) (p5 : Int32) (sz : Nat) : Met l yX11_pay (Cond.code yX11_pay cX11_pay 7 (some .int) :: gw_tbl) ({ frames := 5, cells := 2, slots := 7, locals := 92 }) (pc_C D [(cP, .object RX3)] [(x0, .inr (11, [.ref pg, .ref rd, .ref aq, .ref py, .ref pl, .ref ch, .ref ro, .int 0, .int 0])), (py, .inl (cP, 8, .inr (.inr (.inr (.inr (fun _ => none))))))] sz [.ref x0, .int p1, .int p2, .int p3, .int p4, .int p5]) (va_Qi (fun (r : Int32) (u : Unit) => r = spay p1 p2 p3 p4 p5) (fun _ _ => True) (va_A [(x0, .inr (11, [.ref pg, .ref rd, .ref aq, .ref py, .ref pl, .ref ch, .ref ro, .int 0, .int 0])), (py, .inl (cP, 8, .inr (.inr (.inr (.inr (fun _ => none))))))] sz)) 2 7 (va_A [(x0, .inr (11, [.ref pg, .ref rd, .ref aq, .ref py, .ref pl, .ref ch, .ref ro, .int 0, .int 0])), (py, .inl (cP, 8, .inr (.inr (.inr (.inr (fun _ => none))))))] sz) := by
  refine Met.ofW (cc := cX11_pay) (maxL := 7) (ret := (some .int)) (by decide) rfl ?_
  intro p e s m args below meth c s₁ B hml hv
  obtain ⟨hargs, hsz, hP, hK, hD0, hN⟩ := hv
  have hx := B.exec
  have hb := B.bytes
  have hr := B.returns
  have hts := atoms_spec (ws := Cond.code yX11_pay cX11_pay 7 (some .int) :: gw_tbl) B.pre
  have hg := fun (w : Cond) (h : w ∈ gw_tbl) => hts w (List.mem_cons_of_mem _ h)
  have hown : s.vm.findClass RX11 = some m.cls := findClass_of_methodNamed B.named
  have hlocks := B.notSynchronized
  subst hsz
  have hD := hD0.self (sz := s.heap.size)
  generalize hAe : va_A [(x0, .inr (11, [.ref pg, .ref rd, .ref aq, .ref py, .ref pl, .ref ch, .ref ro, .int 0, .int 0])), (py, .inl (cP, 8, .inr (.inr (.inr (.inr (fun _ => none))))))] s.heap.size = A at hD ⊢
  have hA : ∀ q : Nat, s.heap.size ≤ q → A q := fun q h => by rw [← hAe]; exact Or.inr h
  have hS : va_S A s.heap s.heap [] := va_S.rf
  have hP : va_P D vwCl [(x0, .inr (11, [.ref pg, .ref rd, .ref aq, .ref py, .ref pl, .ref ch, .ref ro, .int 0, .int 0])), (py, .inl (cP, 8, .inr (.inr (.inr (.inr (fun _ => none))))))] s.heap := hP
  have hl := lv_entry ([.ref x0, .int p1, .int p2, .int p3, .int p4, .int p5]) (n := 7) (Nat.le_of_ble_eq_true rfl)
  rw [show entryFrame m args 7 = F0 m 0 (lg_sl ([.ref x0, .int p1, .int p2, .int p3, .int p4, .int p5]) ++ List.replicate (7 - (lg_sl ([.ref x0, .int p1, .int p2, .int p3, .int p4, .int p5])).length) Slot.unset).toArray [] from by rw [hargs]; exact lg_entry_eq ..]
  generalize (lg_sl ([.ref x0, .int p1, .int p2, .int p3, .int p4, .int p5]) ++ List.replicate (7 - (lg_sl ([.ref x0, .int p1, .int p2, .int p3, .int p4, .int p5])).length) Slot.unset).toArray = ls at hl ⊢
  have hl : lv_has ls 7 [(0, .ref x0), (1, .int p1), (2, .int p2), (3, .int p3), (4, .int p4), (5, .int p5)] := hl
  refine W_genQ (fun Q hQ => ?_)
  refine lv_iload_n hx hb dX11_pay_0 rfl (lv_at hl 1 rfl) ?_
  refine lv_iconst (v := 0) hx hb dX11_pay_1 (by decide) ?_
  refine lv_iconst (v := 4) hx hb dX11_pay_2 (by decide) ?_
  refine vp_callSi (W.runS (As := [.int p1, .int 0, .int 4]) (rest := []) ⟨hx, hb, hml, hown, hg⟩ (c_isWithin l p1 0 4) (va_cwS 3 hg (gw_S kw_4 kw_5 kw_6 kw_3) rfl rfl rfl (by decide +kernel) ⟨Nat.le_of_ble_eq_true rfl, Nat.le_of_ble_eq_true rfl⟩) pr_0 rfl rfl hl.1 rfl (lv_room (Nat.le_of_ble_eq_true rfl)) dX11_pay_3 ⟨Nat.le_of_ble_eq_true rfl, Nat.le_of_ble_eq_true rfl⟩) (fun r_3 h_3 => ?_)
  try dsimp only at h_3
  refine lv_if_eq (tgt := 22) hx hb dX11_pay_6 (by decide) (fun c_6 => ?_) (fun c_6 => ?_)
  · refine lv_bipush (v := (-102)) hx hb dX11_pay_22 (by decide) ?_
    subst hQ
    refine W.widen (k := 2) (n := 7) (Nat.le_of_ble_eq_true rfl) (Nat.le_of_ble_eq_true rfl) ?_
    exact W.iret (v := (-102)) hx hb hr (fun t ht hW => ⟨⟨(-102), (), rfl, (sp_n1 h_3 c_6), trivial⟩, hS.F ht⟩) hS.2.2 dX11_pay_24
  · refine lv_iload_n hx hb dX11_pay_9 rfl (lv_at hl 1 rfl) ?_
    refine lv_iload_n hx hb dX11_pay_10 rfl (lv_at hl 2 rfl) ?_
    refine lv_iload_n hx hb dX11_pay_11 rfl (lv_at hl 3 rfl) ?_
    refine lv_iload hx hb dX11_pay_12 (lv_at hl 4 rfl) ?_
    refine lv_iload hx hb dX11_pay_14 (lv_at hl 5 rfl) ?_
    refine vp_callSi (W.runS (As := [.int p1, .int p2, .int p3, .int p4, .int p5]) (rest := []) ⟨hx, hb, hml, hown, hg⟩ (x_areNumbers l p1 p2 p3 p4 p5) (va_cwS 5 hg (gw_S kw_124 kw_125 kw_6 kw_123) rfl rfl rfl (by decide +kernel) ⟨Nat.le_of_ble_eq_true rfl, Nat.le_of_ble_eq_true rfl⟩) pr_0 rfl rfl hl.1 rfl (lv_room (Nat.le_of_ble_eq_true rfl)) dX11_pay_16 ⟨Nat.le_of_ble_eq_true rfl, Nat.le_of_ble_eq_true rfl⟩) (fun r_16 h_16 => ?_)
    try dsimp only at h_16
    refine lv_if_ne (tgt := 25) hx hb dX11_pay_19 (by decide) (fun c_19 => ?_) (fun c_19 => ?_)
    · refine lv_aload_n hx hb dX11_pay_25 rfl (lv_at hl 0 rfl) ?_
      refine va_get (D := D) (ci := 11) (v := .int 0) (C := RX11) (T := TX11) (N := 9) hx hb hg gwX11 hown hK hP 0 rfl rfl 7 (by decide) (hg _ kw_2) (fun _ h9 => h9) rfl dX11_pay_26 ?_
      refine lv_bipush (v := 8) hx hb dX11_pay_29 (by decide) ?_
      refine lv_icmp_lt (tgt := 37) hx hb dX11_pay_31 (by decide) (fun c_31 => ?_) (fun c_31 => absurd c_31 (by decide))
      refine lv_iload_n hx hb dX11_pay_37 rfl (lv_at hl 1 rfl) ?_
      have hkd := iw_y h_3 c_6
      have ha1 := an_y h_16 c_19
      rcases kd4 hkd with rfl | rfl | rfl | rfl | rfl
      · have hPc := hP.sub (ws' := []) [] rfl
        have hKc := hK.sub (tys' := []) [] rfl
        have hDc := hD.sub (ws' := []) [] (by decide) rfl
        have hFc := va_free (wc := []) hD hS hA [] rfl
        refine va_callr (va_runS (As := [.int 0]) (rest := []) ⟨hx, hb, hml, hown, hg⟩ (x_madeOf_0 l D _) (va_cwS 1 hg (gw_S kw_127 kw_128 kw_6 kw_126) rfl rfl rfl (by decide +kernel) ⟨Nat.le_of_ble_eq_true rfl, Nat.le_of_ble_eq_true rfl⟩) (pr_C hKc hPc hDc hN) rfl rfl hl.1 rfl (lv_room (Nat.le_of_ble_eq_true rfl)) dX11_pay_38 ⟨Nat.le_of_ble_eq_true rfl, Nat.le_of_ble_eq_true rfl⟩) hS (fun q _ h => hFc q h) hFc (fun u r_38 t H1 locs ht hvm h_38 hB hz1 hk1 hS => ?_)
        obtain ⟨nq_38, cQ_38, hP1, hK1, hD1⟩ := hB
        rw [ht] at hP1
        have hK1 := va_K.moved hvm.symm hK1
        obtain ⟨hP, hD⟩ := va_join (wr := [(x0, .inr (11, [.ref pg, .ref rd, .ref aq, .ref py, .ref pl, .ref ch, .ref ro, .int 0, .int 0])), (py, .inl (cP, 8, .inr (.inr (.inr (.inr (fun _ => none))))))]) (w1 := [(r_38, .inr (3, [.ref nq_38, .null, .int 0])), (nq_38, .inl (cQ_38, 4, .inl (fun _ => 0)))]) hP hD [] [0, 1] rfl rfl (by decide) (by decide) hk1 hFc hP1 hD1
        have hK := hK.app hK1
        generalize H1 = H at hP hS ⊢
        have hP : va_P D vwCl [(x0, .inr (11, [.ref pg, .ref rd, .ref aq, .ref py, .ref pl, .ref ch, .ref ro, .int 0, .int 0])), (py, .inl (cP, 8, .inr (.inr (.inr (.inr (fun _ => none)))))), (r_38, .inr (3, [.ref nq_38, .null, .int 0])), (nq_38, .inl (cQ_38, 4, .inl (fun _ => 0)))] H := hP
        have hD : va_D A [(x0, .inr (11, [.ref pg, .ref rd, .ref aq, .ref py, .ref pl, .ref ch, .ref ro, .int 0, .int 0])), (py, .inl (cP, 8, .inr (.inr (.inr (.inr (fun _ => none)))))), (r_38, .inr (3, [.ref nq_38, .null, .int 0])), (nq_38, .inl (cQ_38, 4, .inl (fun _ => 0)))] := hD
        have hK : va_K D vwCl [(cP, .object RX3), (cQ_38, .int)] s := hK
        refine W.cs (cells' := 2) (slots' := 7) rfl rfl ?_
        try dsimp only at h_38
        refine lv_astore (lv' := [(6, .ref r_38), (0, .ref x0), (1, .int 0), (2, .int p2), (3, .int p3), (4, .int p4), (5, .int p5)]) hx hb dX11_pay_41 hl (by decide) rfl (fun ls hl => ?_)
        refine lv_aload hx hb dX11_pay_43 (lv_at hl 0 rfl) ?_
        refine lv_iload_n hx hb dX11_pay_45 rfl (lv_at hl 3 rfl) ?_
        refine lv_iload_n hx hb dX11_pay_46 rfl (lv_at hl 4 rfl) ?_
        refine lv_iload hx hb dX11_pay_47 (lv_at hl 5 rfl) ?_
        refine lv_iload hx hb dX11_pay_49 (lv_at hl 6 rfl) ?_
        have hPc := hP.sub (ws' := [(r_38, .inr (3, [.ref nq_38, .null, .int 0])), (nq_38, .inl (cQ_38, 4, .inl (fun _ => 0)))]) [2, 3] rfl
        have hKc := hK.sub (tys' := [(cQ_38, .int)]) [1] rfl
        have hDc := hD.sub (ws' := [(r_38, .inr (3, [.ref nq_38, .null, .int 0])), (nq_38, .inl (cQ_38, 4, .inl (fun _ => 0)))]) [2, 3] (by decide) rfl
        have hFc := va_free (wc := [(r_38, .inr (3, [.ref nq_38, .null, .int 0])), (nq_38, .inl (cQ_38, 4, .inl (fun _ => 0)))]) hD hS hA [2, 3] rfl
        refine va_callv (va_runV (As := [.int p2, .int p3, .int p4, .int p5]) (rest := []) ⟨hx, hb, hml, hown, hg⟩ (p_become_3 l D r_38 nq_38 cQ_38 (fun _ => 0) p2 p3 p4 p5 _) (cwV 4 hg (gw_V kw_130 kw_131 kw_132 kw_99 kw_129) rfl rfl rfl (by decide +kernel) ⟨Nat.le_of_ble_eq_true rfl, Nat.le_of_ble_eq_true rfl⟩) (pr_MV (q := (RX3, TX3, 3)) 3 0 hKc hPc hDc rfl rfl) rfl rfl hl.1 rfl (lv_room (Nat.le_of_ble_eq_true rfl)) dX11_pay_51 ⟨Nat.le_of_ble_eq_true rfl, Nat.le_of_ble_eq_true rfl⟩) hS (fun q _ h => hFc q h) hFc (fun u t H1 locs ht hvm h_51 hB hz1 hk1 hS => ?_)
        obtain ⟨nf2_51, hP1, hK1, hD1⟩ := hB
        rw [ht] at hP1
        have hK1 := va_K.moved hvm.symm hK1
        obtain ⟨hP, hD⟩ := va_join (wr := [(x0, .inr (11, [.ref pg, .ref rd, .ref aq, .ref py, .ref pl, .ref ch, .ref ro, .int 0, .int 0])), (py, .inl (cP, 8, .inr (.inr (.inr (.inr (fun _ => none))))))]) (w1 := [(r_38, .inr (3, [.ref nq_38, .null, .int 0])), (nq_38, .inl (cQ_38, 4, .inl nf2_51))]) hP hD [2, 3] [0, 1] rfl rfl (by decide) (by decide) hk1 hFc hP1 hD1
        have hK := hK.app hK1
        generalize H1 = H at hP hS ⊢
        have hP : va_P D vwCl [(x0, .inr (11, [.ref pg, .ref rd, .ref aq, .ref py, .ref pl, .ref ch, .ref ro, .int 0, .int 0])), (py, .inl (cP, 8, .inr (.inr (.inr (.inr (fun _ => none)))))), (r_38, .inr (3, [.ref nq_38, .null, .int 0])), (nq_38, .inl (cQ_38, 4, .inl nf2_51))] H := hP
        have hD : va_D A [(x0, .inr (11, [.ref pg, .ref rd, .ref aq, .ref py, .ref pl, .ref ch, .ref ro, .int 0, .int 0])), (py, .inl (cP, 8, .inr (.inr (.inr (.inr (fun _ => none)))))), (r_38, .inr (3, [.ref nq_38, .null, .int 0])), (nq_38, .inl (cQ_38, 4, .inl nf2_51))] := hD
        have hK : va_K D vwCl [(cP, .object RX3), (cQ_38, .int)] s := hK
        refine W.cs (cells' := 2) (slots' := 7) rfl rfl ?_
        try dsimp only at h_51
        refine lv_aload_n hx hb dX11_pay_54 rfl (lv_at hl 1 rfl) ?_
        refine va_get (D := D) (ci := 11) (v := .ref py) (C := RX11) (T := TX11) (N := 9) hx hb hg gwX11 hown hK hP 0 rfl rfl 3 (by decide) (hg _ kw_133) (fun _ h9 => h9) rfl dX11_pay_55 ?_
        refine lv_aload_n hx hb dX11_pay_58 rfl (lv_at hl 1 rfl) ?_
        refine va_get (D := D) (ci := 11) (v := .int 0) (C := RX11) (T := TX11) (N := 9) hx hb hg gwX11 hown hK hP 0 rfl rfl 7 (by decide) (hg _ kw_2) (fun _ h9 => h9) rfl dX11_pay_59 ?_
        refine lv_aload hx hb dX11_pay_62 (lv_at hl 0 rfl) ?_
        refine va_astq (r := (RX3, TX3, 3)) hx hb hK hP hD hS 1 0 2 3 rfl rfl rfl rfl (show ¬ ((0 : Int32) < 0 ∨ 8 ≤ (0 : Int32).toNatClampNeg) by decide) dX11_pay_64 (fun H locs hP hD hS => ?_)
        generalize (va_up (fun _ => none) (0 : Int32).toNatClampNeg (some r_38)) = f_64 at hP hD
        have hP : va_P D vwCl [(x0, .inr (11, [.ref pg, .ref rd, .ref aq, .ref py, .ref pl, .ref ch, .ref ro, .int 0, .int 0])), (py, .inl (cP, 8, .inr (.inr (.inr (.inr f_64))))), (r_38, .inr (3, [.ref nq_38, .null, .int 0])), (nq_38, .inl (cQ_38, 4, .inl nf2_51))] H := hP
        have hD : va_D A [(x0, .inr (11, [.ref pg, .ref rd, .ref aq, .ref py, .ref pl, .ref ch, .ref ro, .int 0, .int 0])), (py, .inl (cP, 8, .inr (.inr (.inr (.inr f_64))))), (r_38, .inr (3, [.ref nq_38, .null, .int 0])), (nq_38, .inl (cQ_38, 4, .inl nf2_51))] := hD
        refine lv_aload_n hx hb dX11_pay_65 rfl (lv_at hl 1 rfl) ?_
        refine lv_dup hx hb dX11_pay_66 rfl ?_
        refine va_get (D := D) (ci := 11) (v := .int 0) (C := RX11) (T := TX11) (N := 9) hx hb hg gwX11 hown hK hP 0 rfl rfl 7 (by decide) (hg _ kw_2) (fun _ h9 => h9) rfl dX11_pay_67 ?_
        refine lv_iconst (v := 1) hx hb dX11_pay_70 (by decide) ?_
        refine lv_iadd hx hb dX11_pay_71 ?_
        refine lv_topi (fun z_71 e_71 => ?_)
        obtain rfl : z_71 = (1 : Int32) := e_71.trans (by decide)
        refine va_put (D := D) (ci := 11) (v := .int 1) (ty := .int) (C := RX11) (T := TX11) (N := 9) hx hb hg gwX11 tyX11 tyX11_ok nmX11 hown hK hP hD hS 0 rfl rfl 7 (by decide) (hg _ kw_2) (fun _ h9 => h9) rfl (by decide +kernel) rfl rfl (Nat.le_of_ble_eq_true rfl) dX11_pay_72 (fun H locs hP hD hS => ?_)
        have hP : va_P D vwCl [(x0, .inr (11, [.ref pg, .ref rd, .ref aq, .ref py, .ref pl, .ref ch, .ref ro, .int 1, .int 0])), (py, .inl (cP, 8, .inr (.inr (.inr (.inr f_64))))), (r_38, .inr (3, [.ref nq_38, .null, .int 0])), (nq_38, .inl (cQ_38, 4, .inl nf2_51))] H := hP
        have hD : va_D A [(x0, .inr (11, [.ref pg, .ref rd, .ref aq, .ref py, .ref pl, .ref ch, .ref ro, .int 1, .int 0])), (py, .inl (cP, 8, .inr (.inr (.inr (.inr f_64))))), (r_38, .inr (3, [.ref nq_38, .null, .int 0])), (nq_38, .inl (cQ_38, 4, .inl nf2_51))] := hD
        refine lv_aload_n hx hb dX11_pay_75 rfl (lv_at hl 1 rfl) ?_
        refine va_get (D := D) (ci := 11) (v := .int 1) (C := RX11) (T := TX11) (N := 9) hx hb hg gwX11 hown hK hP 0 rfl rfl 7 (by decide) (hg _ kw_2) (fun _ h9 => h9) rfl dX11_pay_76 ?_
        refine lv_iconst (v := 1) hx hb dX11_pay_79 (by decide) ?_
        refine lv_isub hx hb dX11_pay_80 ?_
        refine lv_topi (fun z_80 e_80 => ?_)
        obtain rfl : z_80 = (0 : Int32) := e_80.trans (by decide)
        subst hQ
        refine W.widen (k := 2) (n := 7) (Nat.le_of_ble_eq_true rfl) (Nat.le_of_ble_eq_true rfl) ?_
        exact W.iret (v := 0) hx hb hr (fun t ht hW => ⟨⟨0, (), rfl, (sp_y hkd ha1), trivial⟩, hS.F ht⟩) hS.2.2 dX11_pay_81
      · have hPc := hP.sub (ws' := []) [] rfl
        have hKc := hK.sub (tys' := []) [] rfl
        have hDc := hD.sub (ws' := []) [] (by decide) rfl
        have hFc := va_free (wc := []) hD hS hA [] rfl
        refine va_callr (va_runS (As := [.int 1]) (rest := []) ⟨hx, hb, hml, hown, hg⟩ (x_madeOf_1 l D _) (va_cwS 1 hg (gw_S kw_127 kw_128 kw_6 kw_126) rfl rfl rfl (by decide +kernel) ⟨Nat.le_of_ble_eq_true rfl, Nat.le_of_ble_eq_true rfl⟩) (pr_C hKc hPc hDc hN) rfl rfl hl.1 rfl (lv_room (Nat.le_of_ble_eq_true rfl)) dX11_pay_38 ⟨Nat.le_of_ble_eq_true rfl, Nat.le_of_ble_eq_true rfl⟩) hS (fun q _ h => hFc q h) hFc (fun u r_38 t H1 locs ht hvm h_38 hB hz1 hk1 hS => ?_)
        obtain ⟨nq_38, cQ_38, hP1, hK1, hD1⟩ := hB
        rw [ht] at hP1
        have hK1 := va_K.moved hvm.symm hK1
        obtain ⟨hP, hD⟩ := va_join (wr := [(x0, .inr (11, [.ref pg, .ref rd, .ref aq, .ref py, .ref pl, .ref ch, .ref ro, .int 0, .int 0])), (py, .inl (cP, 8, .inr (.inr (.inr (.inr (fun _ => none))))))]) (w1 := [(r_38, .inr (9, [.ref nq_38, .null, .int 0])), (nq_38, .inl (cQ_38, 4, .inl (fun _ => 0)))]) hP hD [] [0, 1] rfl rfl (by decide) (by decide) hk1 hFc hP1 hD1
        have hK := hK.app hK1
        generalize H1 = H at hP hS ⊢
        have hP : va_P D vwCl [(x0, .inr (11, [.ref pg, .ref rd, .ref aq, .ref py, .ref pl, .ref ch, .ref ro, .int 0, .int 0])), (py, .inl (cP, 8, .inr (.inr (.inr (.inr (fun _ => none)))))), (r_38, .inr (9, [.ref nq_38, .null, .int 0])), (nq_38, .inl (cQ_38, 4, .inl (fun _ => 0)))] H := hP
        have hD : va_D A [(x0, .inr (11, [.ref pg, .ref rd, .ref aq, .ref py, .ref pl, .ref ch, .ref ro, .int 0, .int 0])), (py, .inl (cP, 8, .inr (.inr (.inr (.inr (fun _ => none)))))), (r_38, .inr (9, [.ref nq_38, .null, .int 0])), (nq_38, .inl (cQ_38, 4, .inl (fun _ => 0)))] := hD
        have hK : va_K D vwCl [(cP, .object RX3), (cQ_38, .int)] s := hK
        refine W.cs (cells' := 2) (slots' := 7) rfl rfl ?_
        try dsimp only at h_38
        refine lv_astore (lv' := [(6, .ref r_38), (0, .ref x0), (1, .int 1), (2, .int p2), (3, .int p3), (4, .int p4), (5, .int p5)]) hx hb dX11_pay_41 hl (by decide) rfl (fun ls hl => ?_)
        refine lv_aload hx hb dX11_pay_43 (lv_at hl 0 rfl) ?_
        refine lv_iload_n hx hb dX11_pay_45 rfl (lv_at hl 3 rfl) ?_
        refine lv_iload_n hx hb dX11_pay_46 rfl (lv_at hl 4 rfl) ?_
        refine lv_iload hx hb dX11_pay_47 (lv_at hl 5 rfl) ?_
        refine lv_iload hx hb dX11_pay_49 (lv_at hl 6 rfl) ?_
        have hPc := hP.sub (ws' := [(r_38, .inr (9, [.ref nq_38, .null, .int 0])), (nq_38, .inl (cQ_38, 4, .inl (fun _ => 0)))]) [2, 3] rfl
        have hKc := hK.sub (tys' := [(cQ_38, .int)]) [1] rfl
        have hDc := hD.sub (ws' := [(r_38, .inr (9, [.ref nq_38, .null, .int 0])), (nq_38, .inl (cQ_38, 4, .inl (fun _ => 0)))]) [2, 3] (by decide) rfl
        have hFc := va_free (wc := [(r_38, .inr (9, [.ref nq_38, .null, .int 0])), (nq_38, .inl (cQ_38, 4, .inl (fun _ => 0)))]) hD hS hA [2, 3] rfl
        refine va_callv (va_runU (As := [.int p2, .int p3, .int p4, .int p5]) (rest := []) ⟨hx, hb, hml, hown, hg⟩ (p_become_9 l D r_38 nq_38 cQ_38 (fun _ => 0) p2 p3 p4 p5 _) (va_cwU (owner := "NobodyChecks$Pay") (x := yX3_become) 4 hg (gw_U kw_130 kw_134 kw_135 kw_131 kw_99 kw_129) rfl rfl rfl rfl (by decide +kernel) ⟨Nat.le_of_ble_eq_true rfl, Nat.le_of_ble_eq_true rfl⟩) (pr_MV (q := (RX9, TX9, 3)) 9 0 hKc hPc hDc rfl rfl) rfl rfl hl.1 rfl (lv_room (Nat.le_of_ble_eq_true rfl)) dX11_pay_51 ⟨Nat.le_of_ble_eq_true rfl, Nat.le_of_ble_eq_true rfl⟩) hS (fun q _ h => hFc q h) hFc (fun u t H1 locs ht hvm h_51 hB hz1 hk1 hS => ?_)
        obtain ⟨nf2_51, hP1, hK1, hD1⟩ := hB
        rw [ht] at hP1
        have hK1 := va_K.moved hvm.symm hK1
        obtain ⟨hP, hD⟩ := va_join (wr := [(x0, .inr (11, [.ref pg, .ref rd, .ref aq, .ref py, .ref pl, .ref ch, .ref ro, .int 0, .int 0])), (py, .inl (cP, 8, .inr (.inr (.inr (.inr (fun _ => none))))))]) (w1 := [(r_38, .inr (9, [.ref nq_38, .null, .int 0])), (nq_38, .inl (cQ_38, 4, .inl nf2_51))]) hP hD [2, 3] [0, 1] rfl rfl (by decide) (by decide) hk1 hFc hP1 hD1
        have hK := hK.app hK1
        generalize H1 = H at hP hS ⊢
        have hP : va_P D vwCl [(x0, .inr (11, [.ref pg, .ref rd, .ref aq, .ref py, .ref pl, .ref ch, .ref ro, .int 0, .int 0])), (py, .inl (cP, 8, .inr (.inr (.inr (.inr (fun _ => none)))))), (r_38, .inr (9, [.ref nq_38, .null, .int 0])), (nq_38, .inl (cQ_38, 4, .inl nf2_51))] H := hP
        have hD : va_D A [(x0, .inr (11, [.ref pg, .ref rd, .ref aq, .ref py, .ref pl, .ref ch, .ref ro, .int 0, .int 0])), (py, .inl (cP, 8, .inr (.inr (.inr (.inr (fun _ => none)))))), (r_38, .inr (9, [.ref nq_38, .null, .int 0])), (nq_38, .inl (cQ_38, 4, .inl nf2_51))] := hD
        have hK : va_K D vwCl [(cP, .object RX3), (cQ_38, .int)] s := hK
        refine W.cs (cells' := 2) (slots' := 7) rfl rfl ?_
        try dsimp only at h_51
        refine lv_aload_n hx hb dX11_pay_54 rfl (lv_at hl 1 rfl) ?_
        refine va_get (D := D) (ci := 11) (v := .ref py) (C := RX11) (T := TX11) (N := 9) hx hb hg gwX11 hown hK hP 0 rfl rfl 3 (by decide) (hg _ kw_133) (fun _ h9 => h9) rfl dX11_pay_55 ?_
        refine lv_aload_n hx hb dX11_pay_58 rfl (lv_at hl 1 rfl) ?_
        refine va_get (D := D) (ci := 11) (v := .int 0) (C := RX11) (T := TX11) (N := 9) hx hb hg gwX11 hown hK hP 0 rfl rfl 7 (by decide) (hg _ kw_2) (fun _ h9 => h9) rfl dX11_pay_59 ?_
        refine lv_aload hx hb dX11_pay_62 (lv_at hl 0 rfl) ?_
        refine va_astqO (E := RX3) (r := (RX9, TX9, 3)) hx hb hK hP hD hS 1 0 2 9 rfl rfl (hN.2.2.2.2 RX9 (by decide +kernel)) rfl rfl (show ¬ ((0 : Int32) < 0 ∨ 8 ≤ (0 : Int32).toNatClampNeg) by decide) dX11_pay_64 (fun H locs hP hD hS => ?_)
        generalize (va_up (fun _ => none) (0 : Int32).toNatClampNeg (some r_38)) = f_64 at hP hD
        have hP : va_P D vwCl [(x0, .inr (11, [.ref pg, .ref rd, .ref aq, .ref py, .ref pl, .ref ch, .ref ro, .int 0, .int 0])), (py, .inl (cP, 8, .inr (.inr (.inr (.inr f_64))))), (r_38, .inr (9, [.ref nq_38, .null, .int 0])), (nq_38, .inl (cQ_38, 4, .inl nf2_51))] H := hP
        have hD : va_D A [(x0, .inr (11, [.ref pg, .ref rd, .ref aq, .ref py, .ref pl, .ref ch, .ref ro, .int 0, .int 0])), (py, .inl (cP, 8, .inr (.inr (.inr (.inr f_64))))), (r_38, .inr (9, [.ref nq_38, .null, .int 0])), (nq_38, .inl (cQ_38, 4, .inl nf2_51))] := hD
        refine lv_aload_n hx hb dX11_pay_65 rfl (lv_at hl 1 rfl) ?_
        refine lv_dup hx hb dX11_pay_66 rfl ?_
        refine va_get (D := D) (ci := 11) (v := .int 0) (C := RX11) (T := TX11) (N := 9) hx hb hg gwX11 hown hK hP 0 rfl rfl 7 (by decide) (hg _ kw_2) (fun _ h9 => h9) rfl dX11_pay_67 ?_
        refine lv_iconst (v := 1) hx hb dX11_pay_70 (by decide) ?_
        refine lv_iadd hx hb dX11_pay_71 ?_
        refine lv_topi (fun z_71 e_71 => ?_)
        obtain rfl : z_71 = (1 : Int32) := e_71.trans (by decide)
        refine va_put (D := D) (ci := 11) (v := .int 1) (ty := .int) (C := RX11) (T := TX11) (N := 9) hx hb hg gwX11 tyX11 tyX11_ok nmX11 hown hK hP hD hS 0 rfl rfl 7 (by decide) (hg _ kw_2) (fun _ h9 => h9) rfl (by decide +kernel) rfl rfl (Nat.le_of_ble_eq_true rfl) dX11_pay_72 (fun H locs hP hD hS => ?_)
        have hP : va_P D vwCl [(x0, .inr (11, [.ref pg, .ref rd, .ref aq, .ref py, .ref pl, .ref ch, .ref ro, .int 1, .int 0])), (py, .inl (cP, 8, .inr (.inr (.inr (.inr f_64))))), (r_38, .inr (9, [.ref nq_38, .null, .int 0])), (nq_38, .inl (cQ_38, 4, .inl nf2_51))] H := hP
        have hD : va_D A [(x0, .inr (11, [.ref pg, .ref rd, .ref aq, .ref py, .ref pl, .ref ch, .ref ro, .int 1, .int 0])), (py, .inl (cP, 8, .inr (.inr (.inr (.inr f_64))))), (r_38, .inr (9, [.ref nq_38, .null, .int 0])), (nq_38, .inl (cQ_38, 4, .inl nf2_51))] := hD
        refine lv_aload_n hx hb dX11_pay_75 rfl (lv_at hl 1 rfl) ?_
        refine va_get (D := D) (ci := 11) (v := .int 1) (C := RX11) (T := TX11) (N := 9) hx hb hg gwX11 hown hK hP 0 rfl rfl 7 (by decide) (hg _ kw_2) (fun _ h9 => h9) rfl dX11_pay_76 ?_
        refine lv_iconst (v := 1) hx hb dX11_pay_79 (by decide) ?_
        refine lv_isub hx hb dX11_pay_80 ?_
        refine lv_topi (fun z_80 e_80 => ?_)
        obtain rfl : z_80 = (0 : Int32) := e_80.trans (by decide)
        subst hQ
        refine W.widen (k := 2) (n := 7) (Nat.le_of_ble_eq_true rfl) (Nat.le_of_ble_eq_true rfl) ?_
        exact W.iret (v := 0) hx hb hr (fun t ht hW => ⟨⟨0, (), rfl, (sp_y hkd ha1), trivial⟩, hS.F ht⟩) hS.2.2 dX11_pay_81
      · have hPc := hP.sub (ws' := []) [] rfl
        have hKc := hK.sub (tys' := []) [] rfl
        have hDc := hD.sub (ws' := []) [] (by decide) rfl
        have hFc := va_free (wc := []) hD hS hA [] rfl
        refine va_callr (va_runS (As := [.int 2]) (rest := []) ⟨hx, hb, hml, hown, hg⟩ (x_madeOf_2 l D _) (va_cwS 1 hg (gw_S kw_127 kw_128 kw_6 kw_126) rfl rfl rfl (by decide +kernel) ⟨Nat.le_of_ble_eq_true rfl, Nat.le_of_ble_eq_true rfl⟩) (pr_C hKc hPc hDc hN) rfl rfl hl.1 rfl (lv_room (Nat.le_of_ble_eq_true rfl)) dX11_pay_38 ⟨Nat.le_of_ble_eq_true rfl, Nat.le_of_ble_eq_true rfl⟩) hS (fun q _ h => hFc q h) hFc (fun u r_38 t H1 locs ht hvm h_38 hB hz1 hk1 hS => ?_)
        obtain ⟨nq_38, cQ_38, hP1, hK1, hD1⟩ := hB
        rw [ht] at hP1
        have hK1 := va_K.moved hvm.symm hK1
        obtain ⟨hP, hD⟩ := va_join (wr := [(x0, .inr (11, [.ref pg, .ref rd, .ref aq, .ref py, .ref pl, .ref ch, .ref ro, .int 0, .int 0])), (py, .inl (cP, 8, .inr (.inr (.inr (.inr (fun _ => none))))))]) (w1 := [(r_38, .inr (10, [.ref nq_38, .null, .int 0])), (nq_38, .inl (cQ_38, 4, .inl (fun _ => 0)))]) hP hD [] [0, 1] rfl rfl (by decide) (by decide) hk1 hFc hP1 hD1
        have hK := hK.app hK1
        generalize H1 = H at hP hS ⊢
        have hP : va_P D vwCl [(x0, .inr (11, [.ref pg, .ref rd, .ref aq, .ref py, .ref pl, .ref ch, .ref ro, .int 0, .int 0])), (py, .inl (cP, 8, .inr (.inr (.inr (.inr (fun _ => none)))))), (r_38, .inr (10, [.ref nq_38, .null, .int 0])), (nq_38, .inl (cQ_38, 4, .inl (fun _ => 0)))] H := hP
        have hD : va_D A [(x0, .inr (11, [.ref pg, .ref rd, .ref aq, .ref py, .ref pl, .ref ch, .ref ro, .int 0, .int 0])), (py, .inl (cP, 8, .inr (.inr (.inr (.inr (fun _ => none)))))), (r_38, .inr (10, [.ref nq_38, .null, .int 0])), (nq_38, .inl (cQ_38, 4, .inl (fun _ => 0)))] := hD
        have hK : va_K D vwCl [(cP, .object RX3), (cQ_38, .int)] s := hK
        refine W.cs (cells' := 2) (slots' := 7) rfl rfl ?_
        try dsimp only at h_38
        refine lv_astore (lv' := [(6, .ref r_38), (0, .ref x0), (1, .int 2), (2, .int p2), (3, .int p3), (4, .int p4), (5, .int p5)]) hx hb dX11_pay_41 hl (by decide) rfl (fun ls hl => ?_)
        refine lv_aload hx hb dX11_pay_43 (lv_at hl 0 rfl) ?_
        refine lv_iload_n hx hb dX11_pay_45 rfl (lv_at hl 3 rfl) ?_
        refine lv_iload_n hx hb dX11_pay_46 rfl (lv_at hl 4 rfl) ?_
        refine lv_iload hx hb dX11_pay_47 (lv_at hl 5 rfl) ?_
        refine lv_iload hx hb dX11_pay_49 (lv_at hl 6 rfl) ?_
        have hPc := hP.sub (ws' := [(r_38, .inr (10, [.ref nq_38, .null, .int 0])), (nq_38, .inl (cQ_38, 4, .inl (fun _ => 0)))]) [2, 3] rfl
        have hKc := hK.sub (tys' := [(cQ_38, .int)]) [1] rfl
        have hDc := hD.sub (ws' := [(r_38, .inr (10, [.ref nq_38, .null, .int 0])), (nq_38, .inl (cQ_38, 4, .inl (fun _ => 0)))]) [2, 3] (by decide) rfl
        have hFc := va_free (wc := [(r_38, .inr (10, [.ref nq_38, .null, .int 0])), (nq_38, .inl (cQ_38, 4, .inl (fun _ => 0)))]) hD hS hA [2, 3] rfl
        refine va_callv (va_runU (As := [.int p2, .int p3, .int p4, .int p5]) (rest := []) ⟨hx, hb, hml, hown, hg⟩ (p_become_10 l D r_38 nq_38 cQ_38 (fun _ => 0) p2 p3 p4 p5 _) (va_cwU (owner := "NobodyChecks$Pay") (x := yX3_become) 4 hg (gw_U kw_130 kw_134 kw_136 kw_131 kw_99 kw_129) rfl rfl rfl rfl (by decide +kernel) ⟨Nat.le_of_ble_eq_true rfl, Nat.le_of_ble_eq_true rfl⟩) (pr_MV (q := (RX10, TX10, 3)) 10 0 hKc hPc hDc rfl rfl) rfl rfl hl.1 rfl (lv_room (Nat.le_of_ble_eq_true rfl)) dX11_pay_51 ⟨Nat.le_of_ble_eq_true rfl, Nat.le_of_ble_eq_true rfl⟩) hS (fun q _ h => hFc q h) hFc (fun u t H1 locs ht hvm h_51 hB hz1 hk1 hS => ?_)
        obtain ⟨nf2_51, hP1, hK1, hD1⟩ := hB
        rw [ht] at hP1
        have hK1 := va_K.moved hvm.symm hK1
        obtain ⟨hP, hD⟩ := va_join (wr := [(x0, .inr (11, [.ref pg, .ref rd, .ref aq, .ref py, .ref pl, .ref ch, .ref ro, .int 0, .int 0])), (py, .inl (cP, 8, .inr (.inr (.inr (.inr (fun _ => none))))))]) (w1 := [(r_38, .inr (10, [.ref nq_38, .null, .int 0])), (nq_38, .inl (cQ_38, 4, .inl nf2_51))]) hP hD [2, 3] [0, 1] rfl rfl (by decide) (by decide) hk1 hFc hP1 hD1
        have hK := hK.app hK1
        generalize H1 = H at hP hS ⊢
        have hP : va_P D vwCl [(x0, .inr (11, [.ref pg, .ref rd, .ref aq, .ref py, .ref pl, .ref ch, .ref ro, .int 0, .int 0])), (py, .inl (cP, 8, .inr (.inr (.inr (.inr (fun _ => none)))))), (r_38, .inr (10, [.ref nq_38, .null, .int 0])), (nq_38, .inl (cQ_38, 4, .inl nf2_51))] H := hP
        have hD : va_D A [(x0, .inr (11, [.ref pg, .ref rd, .ref aq, .ref py, .ref pl, .ref ch, .ref ro, .int 0, .int 0])), (py, .inl (cP, 8, .inr (.inr (.inr (.inr (fun _ => none)))))), (r_38, .inr (10, [.ref nq_38, .null, .int 0])), (nq_38, .inl (cQ_38, 4, .inl nf2_51))] := hD
        have hK : va_K D vwCl [(cP, .object RX3), (cQ_38, .int)] s := hK
        refine W.cs (cells' := 2) (slots' := 7) rfl rfl ?_
        try dsimp only at h_51
        refine lv_aload_n hx hb dX11_pay_54 rfl (lv_at hl 1 rfl) ?_
        refine va_get (D := D) (ci := 11) (v := .ref py) (C := RX11) (T := TX11) (N := 9) hx hb hg gwX11 hown hK hP 0 rfl rfl 3 (by decide) (hg _ kw_133) (fun _ h9 => h9) rfl dX11_pay_55 ?_
        refine lv_aload_n hx hb dX11_pay_58 rfl (lv_at hl 1 rfl) ?_
        refine va_get (D := D) (ci := 11) (v := .int 0) (C := RX11) (T := TX11) (N := 9) hx hb hg gwX11 hown hK hP 0 rfl rfl 7 (by decide) (hg _ kw_2) (fun _ h9 => h9) rfl dX11_pay_59 ?_
        refine lv_aload hx hb dX11_pay_62 (lv_at hl 0 rfl) ?_
        refine va_astqO (E := RX3) (r := (RX10, TX10, 3)) hx hb hK hP hD hS 1 0 2 10 rfl rfl (hN.2.2.2.2 RX10 (by decide +kernel)) rfl rfl (show ¬ ((0 : Int32) < 0 ∨ 8 ≤ (0 : Int32).toNatClampNeg) by decide) dX11_pay_64 (fun H locs hP hD hS => ?_)
        generalize (va_up (fun _ => none) (0 : Int32).toNatClampNeg (some r_38)) = f_64 at hP hD
        have hP : va_P D vwCl [(x0, .inr (11, [.ref pg, .ref rd, .ref aq, .ref py, .ref pl, .ref ch, .ref ro, .int 0, .int 0])), (py, .inl (cP, 8, .inr (.inr (.inr (.inr f_64))))), (r_38, .inr (10, [.ref nq_38, .null, .int 0])), (nq_38, .inl (cQ_38, 4, .inl nf2_51))] H := hP
        have hD : va_D A [(x0, .inr (11, [.ref pg, .ref rd, .ref aq, .ref py, .ref pl, .ref ch, .ref ro, .int 0, .int 0])), (py, .inl (cP, 8, .inr (.inr (.inr (.inr f_64))))), (r_38, .inr (10, [.ref nq_38, .null, .int 0])), (nq_38, .inl (cQ_38, 4, .inl nf2_51))] := hD
        refine lv_aload_n hx hb dX11_pay_65 rfl (lv_at hl 1 rfl) ?_
        refine lv_dup hx hb dX11_pay_66 rfl ?_
        refine va_get (D := D) (ci := 11) (v := .int 0) (C := RX11) (T := TX11) (N := 9) hx hb hg gwX11 hown hK hP 0 rfl rfl 7 (by decide) (hg _ kw_2) (fun _ h9 => h9) rfl dX11_pay_67 ?_
        refine lv_iconst (v := 1) hx hb dX11_pay_70 (by decide) ?_
        refine lv_iadd hx hb dX11_pay_71 ?_
        refine lv_topi (fun z_71 e_71 => ?_)
        obtain rfl : z_71 = (1 : Int32) := e_71.trans (by decide)
        refine va_put (D := D) (ci := 11) (v := .int 1) (ty := .int) (C := RX11) (T := TX11) (N := 9) hx hb hg gwX11 tyX11 tyX11_ok nmX11 hown hK hP hD hS 0 rfl rfl 7 (by decide) (hg _ kw_2) (fun _ h9 => h9) rfl (by decide +kernel) rfl rfl (Nat.le_of_ble_eq_true rfl) dX11_pay_72 (fun H locs hP hD hS => ?_)
        have hP : va_P D vwCl [(x0, .inr (11, [.ref pg, .ref rd, .ref aq, .ref py, .ref pl, .ref ch, .ref ro, .int 1, .int 0])), (py, .inl (cP, 8, .inr (.inr (.inr (.inr f_64))))), (r_38, .inr (10, [.ref nq_38, .null, .int 0])), (nq_38, .inl (cQ_38, 4, .inl nf2_51))] H := hP
        have hD : va_D A [(x0, .inr (11, [.ref pg, .ref rd, .ref aq, .ref py, .ref pl, .ref ch, .ref ro, .int 1, .int 0])), (py, .inl (cP, 8, .inr (.inr (.inr (.inr f_64))))), (r_38, .inr (10, [.ref nq_38, .null, .int 0])), (nq_38, .inl (cQ_38, 4, .inl nf2_51))] := hD
        refine lv_aload_n hx hb dX11_pay_75 rfl (lv_at hl 1 rfl) ?_
        refine va_get (D := D) (ci := 11) (v := .int 1) (C := RX11) (T := TX11) (N := 9) hx hb hg gwX11 hown hK hP 0 rfl rfl 7 (by decide) (hg _ kw_2) (fun _ h9 => h9) rfl dX11_pay_76 ?_
        refine lv_iconst (v := 1) hx hb dX11_pay_79 (by decide) ?_
        refine lv_isub hx hb dX11_pay_80 ?_
        refine lv_topi (fun z_80 e_80 => ?_)
        obtain rfl : z_80 = (0 : Int32) := e_80.trans (by decide)
        subst hQ
        refine W.widen (k := 2) (n := 7) (Nat.le_of_ble_eq_true rfl) (Nat.le_of_ble_eq_true rfl) ?_
        exact W.iret (v := 0) hx hb hr (fun t ht hW => ⟨⟨0, (), rfl, (sp_y hkd ha1), trivial⟩, hS.F ht⟩) hS.2.2 dX11_pay_81
      · have hPc := hP.sub (ws' := []) [] rfl
        have hKc := hK.sub (tys' := []) [] rfl
        have hDc := hD.sub (ws' := []) [] (by decide) rfl
        have hFc := va_free (wc := []) hD hS hA [] rfl
        refine va_callr (va_runS (As := [.int 3]) (rest := []) ⟨hx, hb, hml, hown, hg⟩ (x_madeOf_3 l D _) (va_cwS 1 hg (gw_S kw_127 kw_128 kw_6 kw_126) rfl rfl rfl (by decide +kernel) ⟨Nat.le_of_ble_eq_true rfl, Nat.le_of_ble_eq_true rfl⟩) (pr_C hKc hPc hDc hN) rfl rfl hl.1 rfl (lv_room (Nat.le_of_ble_eq_true rfl)) dX11_pay_38 ⟨Nat.le_of_ble_eq_true rfl, Nat.le_of_ble_eq_true rfl⟩) hS (fun q _ h => hFc q h) hFc (fun u r_38 t H1 locs ht hvm h_38 hB hz1 hk1 hS => ?_)
        obtain ⟨nq_38, cQ_38, hP1, hK1, hD1⟩ := hB
        rw [ht] at hP1
        have hK1 := va_K.moved hvm.symm hK1
        obtain ⟨hP, hD⟩ := va_join (wr := [(x0, .inr (11, [.ref pg, .ref rd, .ref aq, .ref py, .ref pl, .ref ch, .ref ro, .int 0, .int 0])), (py, .inl (cP, 8, .inr (.inr (.inr (.inr (fun _ => none))))))]) (w1 := [(r_38, .inr (6, [.ref nq_38, .null, .int 0])), (nq_38, .inl (cQ_38, 4, .inl (fun _ => 0)))]) hP hD [] [0, 1] rfl rfl (by decide) (by decide) hk1 hFc hP1 hD1
        have hK := hK.app hK1
        generalize H1 = H at hP hS ⊢
        have hP : va_P D vwCl [(x0, .inr (11, [.ref pg, .ref rd, .ref aq, .ref py, .ref pl, .ref ch, .ref ro, .int 0, .int 0])), (py, .inl (cP, 8, .inr (.inr (.inr (.inr (fun _ => none)))))), (r_38, .inr (6, [.ref nq_38, .null, .int 0])), (nq_38, .inl (cQ_38, 4, .inl (fun _ => 0)))] H := hP
        have hD : va_D A [(x0, .inr (11, [.ref pg, .ref rd, .ref aq, .ref py, .ref pl, .ref ch, .ref ro, .int 0, .int 0])), (py, .inl (cP, 8, .inr (.inr (.inr (.inr (fun _ => none)))))), (r_38, .inr (6, [.ref nq_38, .null, .int 0])), (nq_38, .inl (cQ_38, 4, .inl (fun _ => 0)))] := hD
        have hK : va_K D vwCl [(cP, .object RX3), (cQ_38, .int)] s := hK
        refine W.cs (cells' := 2) (slots' := 7) rfl rfl ?_
        try dsimp only at h_38
        refine lv_astore (lv' := [(6, .ref r_38), (0, .ref x0), (1, .int 3), (2, .int p2), (3, .int p3), (4, .int p4), (5, .int p5)]) hx hb dX11_pay_41 hl (by decide) rfl (fun ls hl => ?_)
        refine lv_aload hx hb dX11_pay_43 (lv_at hl 0 rfl) ?_
        refine lv_iload_n hx hb dX11_pay_45 rfl (lv_at hl 3 rfl) ?_
        refine lv_iload_n hx hb dX11_pay_46 rfl (lv_at hl 4 rfl) ?_
        refine lv_iload hx hb dX11_pay_47 (lv_at hl 5 rfl) ?_
        refine lv_iload hx hb dX11_pay_49 (lv_at hl 6 rfl) ?_
        have hPc := hP.sub (ws' := [(r_38, .inr (6, [.ref nq_38, .null, .int 0])), (nq_38, .inl (cQ_38, 4, .inl (fun _ => 0)))]) [2, 3] rfl
        have hKc := hK.sub (tys' := [(cQ_38, .int)]) [1] rfl
        have hDc := hD.sub (ws' := [(r_38, .inr (6, [.ref nq_38, .null, .int 0])), (nq_38, .inl (cQ_38, 4, .inl (fun _ => 0)))]) [2, 3] (by decide) rfl
        have hFc := va_free (wc := [(r_38, .inr (6, [.ref nq_38, .null, .int 0])), (nq_38, .inl (cQ_38, 4, .inl (fun _ => 0)))]) hD hS hA [2, 3] rfl
        refine va_callv (va_runU (As := [.int p2, .int p3, .int p4, .int p5]) (rest := []) ⟨hx, hb, hml, hown, hg⟩ (p_become_6 l D r_38 nq_38 cQ_38 (fun _ => 0) p2 p3 p4 p5 _) (va_cwU (owner := "NobodyChecks$Pay") (x := yX3_become) 4 hg (gw_U kw_130 kw_134 kw_137 kw_131 kw_99 kw_129) rfl rfl rfl rfl (by decide +kernel) ⟨Nat.le_of_ble_eq_true rfl, Nat.le_of_ble_eq_true rfl⟩) (pr_MV (q := (RX6, TX6, 3)) 6 0 hKc hPc hDc rfl rfl) rfl rfl hl.1 rfl (lv_room (Nat.le_of_ble_eq_true rfl)) dX11_pay_51 ⟨Nat.le_of_ble_eq_true rfl, Nat.le_of_ble_eq_true rfl⟩) hS (fun q _ h => hFc q h) hFc (fun u t H1 locs ht hvm h_51 hB hz1 hk1 hS => ?_)
        obtain ⟨nf2_51, hP1, hK1, hD1⟩ := hB
        rw [ht] at hP1
        have hK1 := va_K.moved hvm.symm hK1
        obtain ⟨hP, hD⟩ := va_join (wr := [(x0, .inr (11, [.ref pg, .ref rd, .ref aq, .ref py, .ref pl, .ref ch, .ref ro, .int 0, .int 0])), (py, .inl (cP, 8, .inr (.inr (.inr (.inr (fun _ => none))))))]) (w1 := [(r_38, .inr (6, [.ref nq_38, .null, .int 0])), (nq_38, .inl (cQ_38, 4, .inl nf2_51))]) hP hD [2, 3] [0, 1] rfl rfl (by decide) (by decide) hk1 hFc hP1 hD1
        have hK := hK.app hK1
        generalize H1 = H at hP hS ⊢
        have hP : va_P D vwCl [(x0, .inr (11, [.ref pg, .ref rd, .ref aq, .ref py, .ref pl, .ref ch, .ref ro, .int 0, .int 0])), (py, .inl (cP, 8, .inr (.inr (.inr (.inr (fun _ => none)))))), (r_38, .inr (6, [.ref nq_38, .null, .int 0])), (nq_38, .inl (cQ_38, 4, .inl nf2_51))] H := hP
        have hD : va_D A [(x0, .inr (11, [.ref pg, .ref rd, .ref aq, .ref py, .ref pl, .ref ch, .ref ro, .int 0, .int 0])), (py, .inl (cP, 8, .inr (.inr (.inr (.inr (fun _ => none)))))), (r_38, .inr (6, [.ref nq_38, .null, .int 0])), (nq_38, .inl (cQ_38, 4, .inl nf2_51))] := hD
        have hK : va_K D vwCl [(cP, .object RX3), (cQ_38, .int)] s := hK
        refine W.cs (cells' := 2) (slots' := 7) rfl rfl ?_
        try dsimp only at h_51
        refine lv_aload_n hx hb dX11_pay_54 rfl (lv_at hl 1 rfl) ?_
        refine va_get (D := D) (ci := 11) (v := .ref py) (C := RX11) (T := TX11) (N := 9) hx hb hg gwX11 hown hK hP 0 rfl rfl 3 (by decide) (hg _ kw_133) (fun _ h9 => h9) rfl dX11_pay_55 ?_
        refine lv_aload_n hx hb dX11_pay_58 rfl (lv_at hl 1 rfl) ?_
        refine va_get (D := D) (ci := 11) (v := .int 0) (C := RX11) (T := TX11) (N := 9) hx hb hg gwX11 hown hK hP 0 rfl rfl 7 (by decide) (hg _ kw_2) (fun _ h9 => h9) rfl dX11_pay_59 ?_
        refine lv_aload hx hb dX11_pay_62 (lv_at hl 0 rfl) ?_
        refine va_astqO (E := RX3) (r := (RX6, TX6, 3)) hx hb hK hP hD hS 1 0 2 6 rfl rfl (hN.2.2.2.2 RX6 (by decide +kernel)) rfl rfl (show ¬ ((0 : Int32) < 0 ∨ 8 ≤ (0 : Int32).toNatClampNeg) by decide) dX11_pay_64 (fun H locs hP hD hS => ?_)
        generalize (va_up (fun _ => none) (0 : Int32).toNatClampNeg (some r_38)) = f_64 at hP hD
        have hP : va_P D vwCl [(x0, .inr (11, [.ref pg, .ref rd, .ref aq, .ref py, .ref pl, .ref ch, .ref ro, .int 0, .int 0])), (py, .inl (cP, 8, .inr (.inr (.inr (.inr f_64))))), (r_38, .inr (6, [.ref nq_38, .null, .int 0])), (nq_38, .inl (cQ_38, 4, .inl nf2_51))] H := hP
        have hD : va_D A [(x0, .inr (11, [.ref pg, .ref rd, .ref aq, .ref py, .ref pl, .ref ch, .ref ro, .int 0, .int 0])), (py, .inl (cP, 8, .inr (.inr (.inr (.inr f_64))))), (r_38, .inr (6, [.ref nq_38, .null, .int 0])), (nq_38, .inl (cQ_38, 4, .inl nf2_51))] := hD
        refine lv_aload_n hx hb dX11_pay_65 rfl (lv_at hl 1 rfl) ?_
        refine lv_dup hx hb dX11_pay_66 rfl ?_
        refine va_get (D := D) (ci := 11) (v := .int 0) (C := RX11) (T := TX11) (N := 9) hx hb hg gwX11 hown hK hP 0 rfl rfl 7 (by decide) (hg _ kw_2) (fun _ h9 => h9) rfl dX11_pay_67 ?_
        refine lv_iconst (v := 1) hx hb dX11_pay_70 (by decide) ?_
        refine lv_iadd hx hb dX11_pay_71 ?_
        refine lv_topi (fun z_71 e_71 => ?_)
        obtain rfl : z_71 = (1 : Int32) := e_71.trans (by decide)
        refine va_put (D := D) (ci := 11) (v := .int 1) (ty := .int) (C := RX11) (T := TX11) (N := 9) hx hb hg gwX11 tyX11 tyX11_ok nmX11 hown hK hP hD hS 0 rfl rfl 7 (by decide) (hg _ kw_2) (fun _ h9 => h9) rfl (by decide +kernel) rfl rfl (Nat.le_of_ble_eq_true rfl) dX11_pay_72 (fun H locs hP hD hS => ?_)
        have hP : va_P D vwCl [(x0, .inr (11, [.ref pg, .ref rd, .ref aq, .ref py, .ref pl, .ref ch, .ref ro, .int 1, .int 0])), (py, .inl (cP, 8, .inr (.inr (.inr (.inr f_64))))), (r_38, .inr (6, [.ref nq_38, .null, .int 0])), (nq_38, .inl (cQ_38, 4, .inl nf2_51))] H := hP
        have hD : va_D A [(x0, .inr (11, [.ref pg, .ref rd, .ref aq, .ref py, .ref pl, .ref ch, .ref ro, .int 1, .int 0])), (py, .inl (cP, 8, .inr (.inr (.inr (.inr f_64))))), (r_38, .inr (6, [.ref nq_38, .null, .int 0])), (nq_38, .inl (cQ_38, 4, .inl nf2_51))] := hD
        refine lv_aload_n hx hb dX11_pay_75 rfl (lv_at hl 1 rfl) ?_
        refine va_get (D := D) (ci := 11) (v := .int 1) (C := RX11) (T := TX11) (N := 9) hx hb hg gwX11 hown hK hP 0 rfl rfl 7 (by decide) (hg _ kw_2) (fun _ h9 => h9) rfl dX11_pay_76 ?_
        refine lv_iconst (v := 1) hx hb dX11_pay_79 (by decide) ?_
        refine lv_isub hx hb dX11_pay_80 ?_
        refine lv_topi (fun z_80 e_80 => ?_)
        obtain rfl : z_80 = (0 : Int32) := e_80.trans (by decide)
        subst hQ
        refine W.widen (k := 2) (n := 7) (Nat.le_of_ble_eq_true rfl) (Nat.le_of_ble_eq_true rfl) ?_
        exact W.iret (v := 0) hx hb hr (fun t ht hW => ⟨⟨0, (), rfl, (sp_y hkd ha1), trivial⟩, hS.F ht⟩) hS.2.2 dX11_pay_81
      · have hPc := hP.sub (ws' := []) [] rfl
        have hKc := hK.sub (tys' := []) [] rfl
        have hDc := hD.sub (ws' := []) [] (by decide) rfl
        have hFc := va_free (wc := []) hD hS hA [] rfl
        refine va_callr (va_runS (As := [.int 4]) (rest := []) ⟨hx, hb, hml, hown, hg⟩ (x_madeOf_4 l D _) (va_cwS 1 hg (gw_S kw_127 kw_128 kw_6 kw_126) rfl rfl rfl (by decide +kernel) ⟨Nat.le_of_ble_eq_true rfl, Nat.le_of_ble_eq_true rfl⟩) (pr_C hKc hPc hDc hN) rfl rfl hl.1 rfl (lv_room (Nat.le_of_ble_eq_true rfl)) dX11_pay_38 ⟨Nat.le_of_ble_eq_true rfl, Nat.le_of_ble_eq_true rfl⟩) hS (fun q _ h => hFc q h) hFc (fun u r_38 t H1 locs ht hvm h_38 hB hz1 hk1 hS => ?_)
        obtain ⟨nq_38, cQ_38, hP1, hK1, hD1⟩ := hB
        rw [ht] at hP1
        have hK1 := va_K.moved hvm.symm hK1
        obtain ⟨hP, hD⟩ := va_join (wr := [(x0, .inr (11, [.ref pg, .ref rd, .ref aq, .ref py, .ref pl, .ref ch, .ref ro, .int 0, .int 0])), (py, .inl (cP, 8, .inr (.inr (.inr (.inr (fun _ => none))))))]) (w1 := [(r_38, .inr (1, [.ref nq_38, .null, .int 0])), (nq_38, .inl (cQ_38, 4, .inl (fun _ => 0)))]) hP hD [] [0, 1] rfl rfl (by decide) (by decide) hk1 hFc hP1 hD1
        have hK := hK.app hK1
        generalize H1 = H at hP hS ⊢
        have hP : va_P D vwCl [(x0, .inr (11, [.ref pg, .ref rd, .ref aq, .ref py, .ref pl, .ref ch, .ref ro, .int 0, .int 0])), (py, .inl (cP, 8, .inr (.inr (.inr (.inr (fun _ => none)))))), (r_38, .inr (1, [.ref nq_38, .null, .int 0])), (nq_38, .inl (cQ_38, 4, .inl (fun _ => 0)))] H := hP
        have hD : va_D A [(x0, .inr (11, [.ref pg, .ref rd, .ref aq, .ref py, .ref pl, .ref ch, .ref ro, .int 0, .int 0])), (py, .inl (cP, 8, .inr (.inr (.inr (.inr (fun _ => none)))))), (r_38, .inr (1, [.ref nq_38, .null, .int 0])), (nq_38, .inl (cQ_38, 4, .inl (fun _ => 0)))] := hD
        have hK : va_K D vwCl [(cP, .object RX3), (cQ_38, .int)] s := hK
        refine W.cs (cells' := 2) (slots' := 7) rfl rfl ?_
        try dsimp only at h_38
        refine lv_astore (lv' := [(6, .ref r_38), (0, .ref x0), (1, .int 4), (2, .int p2), (3, .int p3), (4, .int p4), (5, .int p5)]) hx hb dX11_pay_41 hl (by decide) rfl (fun ls hl => ?_)
        refine lv_aload hx hb dX11_pay_43 (lv_at hl 0 rfl) ?_
        refine lv_iload_n hx hb dX11_pay_45 rfl (lv_at hl 3 rfl) ?_
        refine lv_iload_n hx hb dX11_pay_46 rfl (lv_at hl 4 rfl) ?_
        refine lv_iload hx hb dX11_pay_47 (lv_at hl 5 rfl) ?_
        refine lv_iload hx hb dX11_pay_49 (lv_at hl 6 rfl) ?_
        have hPc := hP.sub (ws' := [(r_38, .inr (1, [.ref nq_38, .null, .int 0])), (nq_38, .inl (cQ_38, 4, .inl (fun _ => 0)))]) [2, 3] rfl
        have hKc := hK.sub (tys' := [(cQ_38, .int)]) [1] rfl
        have hDc := hD.sub (ws' := [(r_38, .inr (1, [.ref nq_38, .null, .int 0])), (nq_38, .inl (cQ_38, 4, .inl (fun _ => 0)))]) [2, 3] (by decide) rfl
        have hFc := va_free (wc := [(r_38, .inr (1, [.ref nq_38, .null, .int 0])), (nq_38, .inl (cQ_38, 4, .inl (fun _ => 0)))]) hD hS hA [2, 3] rfl
        refine va_callv (va_runU (As := [.int p2, .int p3, .int p4, .int p5]) (rest := []) ⟨hx, hb, hml, hown, hg⟩ (p_become_1 l D r_38 nq_38 cQ_38 (fun _ => 0) p2 p3 p4 p5 _) (va_cwU (owner := "NobodyChecks$Pay") (x := yX3_become) 4 hg (gw_U kw_130 kw_134 kw_138 kw_131 kw_99 kw_129) rfl rfl rfl rfl (by decide +kernel) ⟨Nat.le_of_ble_eq_true rfl, Nat.le_of_ble_eq_true rfl⟩) (pr_MV (q := (RX1, TX1, 3)) 1 0 hKc hPc hDc rfl rfl) rfl rfl hl.1 rfl (lv_room (Nat.le_of_ble_eq_true rfl)) dX11_pay_51 ⟨Nat.le_of_ble_eq_true rfl, Nat.le_of_ble_eq_true rfl⟩) hS (fun q _ h => hFc q h) hFc (fun u t H1 locs ht hvm h_51 hB hz1 hk1 hS => ?_)
        obtain ⟨nf2_51, hP1, hK1, hD1⟩ := hB
        rw [ht] at hP1
        have hK1 := va_K.moved hvm.symm hK1
        obtain ⟨hP, hD⟩ := va_join (wr := [(x0, .inr (11, [.ref pg, .ref rd, .ref aq, .ref py, .ref pl, .ref ch, .ref ro, .int 0, .int 0])), (py, .inl (cP, 8, .inr (.inr (.inr (.inr (fun _ => none))))))]) (w1 := [(r_38, .inr (1, [.ref nq_38, .null, .int 0])), (nq_38, .inl (cQ_38, 4, .inl nf2_51))]) hP hD [2, 3] [0, 1] rfl rfl (by decide) (by decide) hk1 hFc hP1 hD1
        have hK := hK.app hK1
        generalize H1 = H at hP hS ⊢
        have hP : va_P D vwCl [(x0, .inr (11, [.ref pg, .ref rd, .ref aq, .ref py, .ref pl, .ref ch, .ref ro, .int 0, .int 0])), (py, .inl (cP, 8, .inr (.inr (.inr (.inr (fun _ => none)))))), (r_38, .inr (1, [.ref nq_38, .null, .int 0])), (nq_38, .inl (cQ_38, 4, .inl nf2_51))] H := hP
        have hD : va_D A [(x0, .inr (11, [.ref pg, .ref rd, .ref aq, .ref py, .ref pl, .ref ch, .ref ro, .int 0, .int 0])), (py, .inl (cP, 8, .inr (.inr (.inr (.inr (fun _ => none)))))), (r_38, .inr (1, [.ref nq_38, .null, .int 0])), (nq_38, .inl (cQ_38, 4, .inl nf2_51))] := hD
        have hK : va_K D vwCl [(cP, .object RX3), (cQ_38, .int)] s := hK
        refine W.cs (cells' := 2) (slots' := 7) rfl rfl ?_
        try dsimp only at h_51
        refine lv_aload_n hx hb dX11_pay_54 rfl (lv_at hl 1 rfl) ?_
        refine va_get (D := D) (ci := 11) (v := .ref py) (C := RX11) (T := TX11) (N := 9) hx hb hg gwX11 hown hK hP 0 rfl rfl 3 (by decide) (hg _ kw_133) (fun _ h9 => h9) rfl dX11_pay_55 ?_
        refine lv_aload_n hx hb dX11_pay_58 rfl (lv_at hl 1 rfl) ?_
        refine va_get (D := D) (ci := 11) (v := .int 0) (C := RX11) (T := TX11) (N := 9) hx hb hg gwX11 hown hK hP 0 rfl rfl 7 (by decide) (hg _ kw_2) (fun _ h9 => h9) rfl dX11_pay_59 ?_
        refine lv_aload hx hb dX11_pay_62 (lv_at hl 0 rfl) ?_
        refine va_astqO (E := RX3) (r := (RX1, TX1, 3)) hx hb hK hP hD hS 1 0 2 1 rfl rfl (hN.2.2.2.2 RX1 (by decide +kernel)) rfl rfl (show ¬ ((0 : Int32) < 0 ∨ 8 ≤ (0 : Int32).toNatClampNeg) by decide) dX11_pay_64 (fun H locs hP hD hS => ?_)
        generalize (va_up (fun _ => none) (0 : Int32).toNatClampNeg (some r_38)) = f_64 at hP hD
        have hP : va_P D vwCl [(x0, .inr (11, [.ref pg, .ref rd, .ref aq, .ref py, .ref pl, .ref ch, .ref ro, .int 0, .int 0])), (py, .inl (cP, 8, .inr (.inr (.inr (.inr f_64))))), (r_38, .inr (1, [.ref nq_38, .null, .int 0])), (nq_38, .inl (cQ_38, 4, .inl nf2_51))] H := hP
        have hD : va_D A [(x0, .inr (11, [.ref pg, .ref rd, .ref aq, .ref py, .ref pl, .ref ch, .ref ro, .int 0, .int 0])), (py, .inl (cP, 8, .inr (.inr (.inr (.inr f_64))))), (r_38, .inr (1, [.ref nq_38, .null, .int 0])), (nq_38, .inl (cQ_38, 4, .inl nf2_51))] := hD
        refine lv_aload_n hx hb dX11_pay_65 rfl (lv_at hl 1 rfl) ?_
        refine lv_dup hx hb dX11_pay_66 rfl ?_
        refine va_get (D := D) (ci := 11) (v := .int 0) (C := RX11) (T := TX11) (N := 9) hx hb hg gwX11 hown hK hP 0 rfl rfl 7 (by decide) (hg _ kw_2) (fun _ h9 => h9) rfl dX11_pay_67 ?_
        refine lv_iconst (v := 1) hx hb dX11_pay_70 (by decide) ?_
        refine lv_iadd hx hb dX11_pay_71 ?_
        refine lv_topi (fun z_71 e_71 => ?_)
        obtain rfl : z_71 = (1 : Int32) := e_71.trans (by decide)
        refine va_put (D := D) (ci := 11) (v := .int 1) (ty := .int) (C := RX11) (T := TX11) (N := 9) hx hb hg gwX11 tyX11 tyX11_ok nmX11 hown hK hP hD hS 0 rfl rfl 7 (by decide) (hg _ kw_2) (fun _ h9 => h9) rfl (by decide +kernel) rfl rfl (Nat.le_of_ble_eq_true rfl) dX11_pay_72 (fun H locs hP hD hS => ?_)
        have hP : va_P D vwCl [(x0, .inr (11, [.ref pg, .ref rd, .ref aq, .ref py, .ref pl, .ref ch, .ref ro, .int 1, .int 0])), (py, .inl (cP, 8, .inr (.inr (.inr (.inr f_64))))), (r_38, .inr (1, [.ref nq_38, .null, .int 0])), (nq_38, .inl (cQ_38, 4, .inl nf2_51))] H := hP
        have hD : va_D A [(x0, .inr (11, [.ref pg, .ref rd, .ref aq, .ref py, .ref pl, .ref ch, .ref ro, .int 1, .int 0])), (py, .inl (cP, 8, .inr (.inr (.inr (.inr f_64))))), (r_38, .inr (1, [.ref nq_38, .null, .int 0])), (nq_38, .inl (cQ_38, 4, .inl nf2_51))] := hD
        refine lv_aload_n hx hb dX11_pay_75 rfl (lv_at hl 1 rfl) ?_
        refine va_get (D := D) (ci := 11) (v := .int 1) (C := RX11) (T := TX11) (N := 9) hx hb hg gwX11 hown hK hP 0 rfl rfl 7 (by decide) (hg _ kw_2) (fun _ h9 => h9) rfl dX11_pay_76 ?_
        refine lv_iconst (v := 1) hx hb dX11_pay_79 (by decide) ?_
        refine lv_isub hx hb dX11_pay_80 ?_
        refine lv_topi (fun z_80 e_80 => ?_)
        obtain rfl : z_80 = (0 : Int32) := e_80.trans (by decide)
        subst hQ
        refine W.widen (k := 2) (n := 7) (Nat.le_of_ble_eq_true rfl) (Nat.le_of_ble_eq_true rfl) ?_
        exact W.iret (v := 0) hx hb hr (fun t ht hW => ⟨⟨0, (), rfl, (sp_y hkd ha1), trivial⟩, hS.F ht⟩) hS.2.2 dX11_pay_81
    · refine lv_bipush (v := (-102)) hx hb dX11_pay_22 (by decide) ?_
      subst hQ
      refine W.widen (k := 2) (n := 7) (Nat.le_of_ble_eq_true rfl) (Nat.le_of_ble_eq_true rfl) ?_
      exact W.iret (v := (-102)) hx hb hr (fun t ht hW => ⟨⟨(-102), (), rfl, (sp_n2 h_16 c_19), trivial⟩, hS.F ht⟩) hS.2.2 dX11_pay_24
