theorem dX2_init_0 : decode cX2_init 0 = .ok (.aload_n 0, 1) := by decide +kernel
theorem dX2_init_1 : decode cX2_init 1 = .ok (.invokespecial 3, 3) := by decide +kernel
theorem dX2_init_4 : decode cX2_init 4 = .ok (.aload_n 0, 1) := by decide +kernel
theorem dX2_init_5 : decode cX2_init 5 = .ok (.bipush 90, 2) := by decide +kernel
theorem dX2_init_7 : decode cX2_init 7 = .ok (.newarray .int, 2) := by decide +kernel
theorem dX2_init_9 : decode cX2_init 9 = .ok (.putfield 9, 3) := by decide +kernel
theorem dX2_init_12 : decode cX2_init 12 = .ok (.return_, 1) := by decide +kernel
theorem kw_139 : (.methodLink RX2 3 objectInit : Cond) ∈ gw_tbl := gw_in (by decide +kernel) (by decide +kernel)

set_option maxHeartbeats 4000000 in
set_option maxRecDepth 100000 in
theorem i_page (l : Launch) (D : va_G) (h0 : Nat) (sz : Nat) : Met l yX2_init (Cond.code yX2_init cX2_init 1 none :: gw_tbl) ({ frames := 1, cells := 1, slots := 90, locals := 12 }) (pc_C D [] [(h0, .inr (2, [.null, .int 0]))] sz [.ref h0]) (va_Qv (fun (u : Unit) => True) (fun _ t => ∃ (cd : Nat), ∃ (cI : ClassId), va_P D vwCl [(h0, .inr (2, [.ref cd, .int 0])), (cd, .inl (cI, 90, .inl (fun _ => 0)))] t.heap ∧ va_K D vwCl [(cI, .int)] t ∧ va_D (va_A [(h0, .inr (2, [.null, .int 0]))] sz) [(h0, .inr (2, [.ref cd, .int 0])), (cd, .inl (cI, 90, .inl (fun _ => 0)))]) (va_A [(h0, .inr (2, [.null, .int 0]))] sz)) 1 90 (va_A [(h0, .inr (2, [.null, .int 0]))] sz) := by
  refine Met.ofW (cc := cX2_init) (maxL := 1) (ret := none) (by decide) rfl ?_
  intro p e s m args below meth c s₁ B hml hv
  obtain ⟨hargs, hsz, hP, hK, hD0, hN⟩ := hv
  have hx := B.exec
  have hb := B.bytes
  have hr := B.returns
  have hts := atoms_spec (ws := Cond.code yX2_init cX2_init 1 none :: gw_tbl) B.pre
  have hg := fun (w : Cond) (h : w ∈ gw_tbl) => hts w (List.mem_cons_of_mem _ h)
  have hown : s.vm.findClass RX2 = some m.cls := findClass_of_methodNamed B.named
  have hlocks := B.notSynchronized
  have hin : meth.name = "<init>" := (name_of_methodNamed B.named B.method).1
  subst hsz
  have hD := hD0.self (sz := s.heap.size)
  generalize hAe : va_A [(h0, .inr (2, [.null, .int 0]))] s.heap.size = A at hD ⊢
  have hA : ∀ q : Nat, s.heap.size ≤ q → A q := fun q h => by rw [← hAe]; exact Or.inr h
  have hS : va_S A s.heap s.heap [] := va_S.rf
  have hP : va_P D vwCl [(h0, .inr (2, [.null, .int 0]))] s.heap := hP
  have hl := lv_entry ([.ref h0]) (n := 1) (Nat.le_of_ble_eq_true rfl)
  rw [show entryFrame m args 1 = F0 m 0 (lg_sl ([.ref h0]) ++ List.replicate (1 - (lg_sl ([.ref h0])).length) Slot.unset).toArray [] from by rw [hargs]; exact lg_entry_eq ..]
  generalize (lg_sl ([.ref h0]) ++ List.replicate (1 - (lg_sl ([.ref h0])).length) Slot.unset).toArray = ls at hl ⊢
  have hl : lv_has ls 1 [(0, .ref h0)] := hl
  refine W_genQ (fun Q hQ => ?_)
  refine lv_aload_n hx hb dX2_init_0 rfl (lv_at hl 0 rfl) ?_
  refine W.objInit hx hb hown (hg _ kw_139) (hg _ kw_94) (hg _ kw_95) rfl (by rw [hml]; exact hl.1) rfl dX2_init_1 (Nat.le_of_ble_eq_true rfl) (Nat.le_of_ble_eq_true rfl) ?_
  refine W.eq (g2 := F0 m 4 ls []) rfl ?_
  refine lv_aload_n hx hb dX2_init_4 rfl (lv_at hl 0 rfl) ?_
  refine lv_bipush (v := 90) hx hb dX2_init_5 (by decide) ?_
  refine va_newa (atype := .int) (ty := .int) (N' := 90) (a0 := (90, .inl (fun _ => 0))) hx hb (hg _ kw_96) rfl hK hP hD hS hA (fun _ => rfl) (by decide) (by decide) (by decide) (Nat.le_of_ble_eq_true rfl) (Nat.le_of_ble_eq_true rfl) dX2_init_7 (fun q_7 cA_7 H hK hP hD hS => ?_)
  have hP : va_P D vwCl [(h0, .inr (2, [.null, .int 0])), (q_7, .inl (cA_7, 90, .inl (fun _ => 0)))] H := hP
  have hD : va_D A [(h0, .inr (2, [.null, .int 0])), (q_7, .inl (cA_7, 90, .inl (fun _ => 0)))] := hD
  have hK : va_K D vwCl [(cA_7, .int)] s := hK
  refine W.cs (cells' := 1) (slots' := 90) rfl rfl ?_
  refine va_putF (D := D) (ci := 2) (v := .ref q_7) (ty := .array .int) (C := RX2) (T := TX2) (N := 2) hx hb hg gwX2 tyX2 tyX2_ok nmX2 hown hK hP hD hS 0 rfl rfl 0 (by decide) (hg _ kw_85) (fun _ h9 => h9) rfl hin rfl (by decide +kernel) rfl rfl (Nat.le_of_ble_eq_true rfl) dX2_init_9 (fun H locs hP hD hS => ?_)
  have hP : va_P D vwCl [(h0, .inr (2, [.ref q_7, .int 0])), (q_7, .inl (cA_7, 90, .inl (fun _ => 0)))] H := hP
  have hD : va_D A [(h0, .inr (2, [.ref q_7, .int 0])), (q_7, .inl (cA_7, 90, .inl (fun _ => 0)))] := hD
  subst hQ
  refine W.widen (k := 1) (n := 90) (Nat.le_of_ble_eq_true rfl) (Nat.le_of_ble_eq_true rfl) ?_
  have hP9 := hP.sub (ws' := [(h0, .inr (2, [.ref q_7, .int 0])), (q_7, .inl (cA_7, 90, .inl (fun _ => 0)))]) [0, 1] rfl
  have hD9 := hD.sub (ws' := [(h0, .inr (2, [.ref q_7, .int 0])), (q_7, .inl (cA_7, 90, .inl (fun _ => 0)))]) [0, 1] (by decide) rfl
  have hK9 := hK.sub (tys' := [(cA_7, .int)]) [0] rfl
  exact W.vret hx hb hr (fun t ht hW => ⟨⟨(), rfl, trivial, ⟨q_7, cA_7, by rw [ht]; exact hP9, va_K.moved hW.alike hK9, hD9⟩⟩, hS.F ht⟩) hS.2.2 dX2_init_12

theorem dX7_init_0 : decode cX7_init 0 = .ok (.aload_n 0, 1) := by decide +kernel
theorem dX7_init_1 : decode cX7_init 1 = .ok (.invokespecial 3, 3) := by decide +kernel
theorem dX7_init_4 : decode cX7_init 4 = .ok (.aload_n 0, 1) := by decide +kernel
theorem dX7_init_5 : decode cX7_init 5 = .ok (.iconst 5, 1) := by decide +kernel
theorem dX7_init_6 : decode cX7_init 6 = .ok (.newarray .int, 2) := by decide +kernel
theorem dX7_init_8 : decode cX7_init 8 = .ok (.putfield 9, 3) := by decide +kernel
theorem dX7_init_11 : decode cX7_init 11 = .ok (.aload_n 0, 1) := by decide +kernel
theorem dX7_init_12 : decode cX7_init 12 = .ok (.iconst 5, 1) := by decide +kernel
theorem dX7_init_13 : decode cX7_init 13 = .ok (.iconst 4, 1) := by decide +kernel
theorem dX7_init_14 : decode cX7_init 14 = .ok (.multianewarray 15 2, 4) := by decide +kernel
theorem dX7_init_18 : decode cX7_init 18 = .ok (.putfield 17, 3) := by decide +kernel
theorem dX7_init_21 : decode cX7_init 21 = .ok (.return_, 1) := by decide +kernel
theorem kw_140 : (.methodLink RX7 3 objectInit : Cond) ∈ gw_tbl := gw_in (by decide +kernel) (by decide +kernel)
theorem kw_141 : (.fieldLink RX7 9 "NobodyChecks$Reader" "weights" "[I" : Cond) ∈ gw_tbl := gw_in (by decide +kernel) (by decide +kernel)
theorem kw_142 : (.classLink RX7 15 "[[I" : Cond) ∈ gw_tbl := gw_in (by decide +kernel) (by decide +kernel)
theorem kw_143 : (.fieldLink RX7 17 "NobodyChecks$Reader" "chances" "[[I" : Cond) ∈ gw_tbl := gw_in (by decide +kernel) (by decide +kernel)

set_option maxHeartbeats 4000000 in
set_option maxRecDepth 100000 in
theorem i_reader (l : Launch) (D : va_G) (h0 : Nat) (sz : Nat) : Met l yX7_init (Cond.code yX7_init cX7_init 1 none :: gw_tbl) ({ frames := 1, cells := 7, slots := 30, locals := 12 }) (pc_C D [] [(h0, .inr (7, [.null, .null, .int 0, .int 0, .int 0, .int 0, .int 0]))] sz [.ref h0]) (va_Qv (fun (u : Unit) => True) (fun _ t => ∃ (rw : Nat), ∃ (rc : Nat), va_P D vwCl [(h0, .inr (7, [.ref rw, .ref rc, .int 0, .int 0, .int 0, .int 0, .int 0]))] t.heap ∧ va_K D vwCl [] t ∧ va_D (va_A [(h0, .inr (7, [.null, .null, .int 0, .int 0, .int 0, .int 0, .int 0]))] sz) [(h0, .inr (7, [.ref rw, .ref rc, .int 0, .int 0, .int 0, .int 0, .int 0]))]) (va_A [(h0, .inr (7, [.null, .null, .int 0, .int 0, .int 0, .int 0, .int 0]))] sz)) 7 30 (va_A [(h0, .inr (7, [.null, .null, .int 0, .int 0, .int 0, .int 0, .int 0]))] sz) := by
  refine Met.ofW (cc := cX7_init) (maxL := 1) (ret := none) (by decide) rfl ?_
  intro p e s m args below meth c s₁ B hml hv
  obtain ⟨hargs, hsz, hP, hK, hD0, hN⟩ := hv
  have hx := B.exec
  have hb := B.bytes
  have hr := B.returns
  have hts := atoms_spec (ws := Cond.code yX7_init cX7_init 1 none :: gw_tbl) B.pre
  have hg := fun (w : Cond) (h : w ∈ gw_tbl) => hts w (List.mem_cons_of_mem _ h)
  have hown : s.vm.findClass RX7 = some m.cls := findClass_of_methodNamed B.named
  have hlocks := B.notSynchronized
  have hin : meth.name = "<init>" := (name_of_methodNamed B.named B.method).1
  subst hsz
  have hD := hD0.self (sz := s.heap.size)
  generalize hAe : va_A [(h0, .inr (7, [.null, .null, .int 0, .int 0, .int 0, .int 0, .int 0]))] s.heap.size = A at hD ⊢
  have hA : ∀ q : Nat, s.heap.size ≤ q → A q := fun q h => by rw [← hAe]; exact Or.inr h
  have hS : va_S A s.heap s.heap [] := va_S.rf
  have hP : va_P D vwCl [(h0, .inr (7, [.null, .null, .int 0, .int 0, .int 0, .int 0, .int 0]))] s.heap := hP
  have hl := lv_entry ([.ref h0]) (n := 1) (Nat.le_of_ble_eq_true rfl)
  rw [show entryFrame m args 1 = F0 m 0 (lg_sl ([.ref h0]) ++ List.replicate (1 - (lg_sl ([.ref h0])).length) Slot.unset).toArray [] from by rw [hargs]; exact lg_entry_eq ..]
  generalize (lg_sl ([.ref h0]) ++ List.replicate (1 - (lg_sl ([.ref h0])).length) Slot.unset).toArray = ls at hl ⊢
  have hl : lv_has ls 1 [(0, .ref h0)] := hl
  refine W_genQ (fun Q hQ => ?_)
  refine lv_aload_n hx hb dX7_init_0 rfl (lv_at hl 0 rfl) ?_
  refine W.objInit hx hb hown (hg _ kw_140) (hg _ kw_94) (hg _ kw_95) rfl (by rw [hml]; exact hl.1) rfl dX7_init_1 (Nat.le_of_ble_eq_true rfl) (Nat.le_of_ble_eq_true rfl) ?_
  refine W.eq (g2 := F0 m 4 ls []) rfl ?_
  refine lv_aload_n hx hb dX7_init_4 rfl (lv_at hl 0 rfl) ?_
  refine lv_iconst (v := 5) hx hb dX7_init_5 (by decide) ?_
  refine va_newa (atype := .int) (ty := .int) (N' := 5) (a0 := (5, .inl (fun _ => 0))) hx hb (hg _ kw_96) rfl hK hP hD hS hA (fun _ => rfl) (by decide) (by decide) (by decide) (Nat.le_of_ble_eq_true rfl) (Nat.le_of_ble_eq_true rfl) dX7_init_6 (fun q_6 cA_6 H hK hP hD hS => ?_)
  have hP : va_P D vwCl [(h0, .inr (7, [.null, .null, .int 0, .int 0, .int 0, .int 0, .int 0])), (q_6, .inl (cA_6, 5, .inl (fun _ => 0)))] H := hP
  have hD : va_D A [(h0, .inr (7, [.null, .null, .int 0, .int 0, .int 0, .int 0, .int 0])), (q_6, .inl (cA_6, 5, .inl (fun _ => 0)))] := hD
  have hK : va_K D vwCl [(cA_6, .int)] s := hK
  refine W.cs (cells' := 1) (slots' := 5) rfl rfl ?_
  refine va_putF (D := D) (ci := 7) (v := .ref q_6) (ty := .array .int) (C := RX7) (T := TX7) (N := 7) hx hb hg gwX7 tyX7 tyX7_ok nmX7 hown hK hP hD hS 0 rfl rfl 0 (by decide) (hg _ kw_141) (fun _ h9 => h9) rfl hin rfl (by decide +kernel) rfl rfl (Nat.le_of_ble_eq_true rfl) dX7_init_8 (fun H locs hP hD hS => ?_)
  have hP : va_P D vwCl [(h0, .inr (7, [.ref q_6, .null, .int 0, .int 0, .int 0, .int 0, .int 0])), (q_6, .inl (cA_6, 5, .inl (fun _ => 0)))] H := hP
  have hD : va_D A [(h0, .inr (7, [.ref q_6, .null, .int 0, .int 0, .int 0, .int 0, .int 0])), (q_6, .inl (cA_6, 5, .inl (fun _ => 0)))] := hD
  refine lv_aload_n hx hb dX7_init_11 rfl (lv_at hl 0 rfl) ?_
  refine lv_iconst (v := 5) hx hb dX7_init_12 (by decide) ?_
  refine lv_iconst (v := 4) hx hb dX7_init_13 (by decide) ?_
  refine mm_mna (ty := .int) (N' := 5) (K' := 4) hx hb hown (hg _ kw_142) hN.2.2.1 (hg _ kw_96) hP hS (by decide) (by decide) (by decide) (by decide) (by decide) (by decide) (by decide) rfl rfl (Nat.le_of_ble_eq_true rfl) (Nat.le_of_ble_eq_true rfl) dX7_init_14 (fun q_14 H hP hS => ?_)
  refine W.cs (cells' := 7) (slots' := 30) rfl rfl ?_
  refine va_putF (D := D) (ci := 7) (v := .ref q_14) (ty := .array (.array .int)) (C := RX7) (T := TX7) (N := 7) hx hb hg gwX7 tyX7 tyX7_ok nmX7 hown hK hP hD hS 0 rfl rfl 1 (by decide) (hg _ kw_143) (fun _ h9 => h9) rfl hin rfl (by decide +kernel) rfl rfl (Nat.le_of_ble_eq_true rfl) dX7_init_18 (fun H locs hP hD hS => ?_)
  have hP : va_P D vwCl [(h0, .inr (7, [.ref q_6, .ref q_14, .int 0, .int 0, .int 0, .int 0, .int 0])), (q_6, .inl (cA_6, 5, .inl (fun _ => 0)))] H := hP
  have hD : va_D A [(h0, .inr (7, [.ref q_6, .ref q_14, .int 0, .int 0, .int 0, .int 0, .int 0])), (q_6, .inl (cA_6, 5, .inl (fun _ => 0)))] := hD
  subst hQ
  refine W.widen (k := 7) (n := 30) (Nat.le_of_ble_eq_true rfl) (Nat.le_of_ble_eq_true rfl) ?_
  have hP9 := hP.sub (ws' := [(h0, .inr (7, [.ref q_6, .ref q_14, .int 0, .int 0, .int 0, .int 0, .int 0]))]) [0] rfl
  have hD9 := hD.sub (ws' := [(h0, .inr (7, [.ref q_6, .ref q_14, .int 0, .int 0, .int 0, .int 0, .int 0]))]) [0] (by decide) rfl
  have hK9 := hK.sub (tys' := []) [] rfl
  exact W.vret hx hb hr (fun t ht hW => ⟨⟨(), rfl, trivial, ⟨q_6, q_14, by rw [ht]; exact hP9, va_K.moved hW.alike hK9, hD9⟩⟩, hS.F ht⟩) hS.2.2 dX7_init_21

theorem dX5_init_0 : decode cX5_init 0 = .ok (.aload_n 0, 1) := by decide +kernel
theorem dX5_init_1 : decode cX5_init 1 = .ok (.invokespecial 3, 3) := by decide +kernel
theorem dX5_init_4 : decode cX5_init 4 = .ok (.aload_n 0, 1) := by decide +kernel
theorem dX5_init_5 : decode cX5_init 5 = .ok (.iconst 5, 1) := by decide +kernel
theorem dX5_init_6 : decode cX5_init 6 = .ok (.newarray .int, 2) := by decide +kernel
theorem dX5_init_8 : decode cX5_init 8 = .ok (.putfield 9, 3) := by decide +kernel
theorem dX5_init_11 : decode cX5_init 11 = .ok (.aload_n 0, 1) := by decide +kernel
theorem dX5_init_12 : decode cX5_init 12 = .ok (.iconst 5, 1) := by decide +kernel
theorem dX5_init_13 : decode cX5_init 13 = .ok (.iconst 4, 1) := by decide +kernel
theorem dX5_init_14 : decode cX5_init 14 = .ok (.multianewarray 15 2, 4) := by decide +kernel
theorem dX5_init_18 : decode cX5_init 18 = .ok (.putfield 17, 3) := by decide +kernel
theorem dX5_init_21 : decode cX5_init 21 = .ok (.aload_n 0, 1) := by decide +kernel
theorem dX5_init_22 : decode cX5_init 22 = .ok (.iconst 4, 1) := by decide +kernel
theorem dX5_init_23 : decode cX5_init 23 = .ok (.newarray .int, 2) := by decide +kernel
theorem dX5_init_25 : decode cX5_init 25 = .ok (.putfield 20, 3) := by decide +kernel
theorem dX5_init_28 : decode cX5_init 28 = .ok (.aload_n 0, 1) := by decide +kernel
theorem dX5_init_29 : decode cX5_init 29 = .ok (.bipush 16, 2) := by decide +kernel
theorem dX5_init_31 : decode cX5_init 31 = .ok (.newarray .long, 2) := by decide +kernel
theorem dX5_init_33 : decode cX5_init 33 = .ok (.putfield 23, 3) := by decide +kernel
theorem dX5_init_36 : decode cX5_init 36 = .ok (.return_, 1) := by decide +kernel
theorem kw_144 : (.methodLink RX5 3 objectInit : Cond) ∈ gw_tbl := gw_in (by decide +kernel) (by decide +kernel)
theorem kw_145 : (.fieldLink RX5 9 "NobodyChecks$Question" "weights" "[I" : Cond) ∈ gw_tbl := gw_in (by decide +kernel) (by decide +kernel)
theorem kw_146 : (.classLink RX5 15 "[[I" : Cond) ∈ gw_tbl := gw_in (by decide +kernel) (by decide +kernel)
theorem kw_147 : (.fieldLink RX5 17 "NobodyChecks$Question" "chances" "[[I" : Cond) ∈ gw_tbl := gw_in (by decide +kernel) (by decide +kernel)
theorem kw_148 : (.fieldLink RX5 20 "NobodyChecks$Question" "costs" "[I" : Cond) ∈ gw_tbl := gw_in (by decide +kernel) (by decide +kernel)
theorem kw_149 : (.arrayClass .long : Cond) ∈ gw_tbl := gw_in (by decide +kernel) (by decide +kernel)
theorem kw_150 : (.fieldLink RX5 23 "NobodyChecks$Question" "mass" "[J" : Cond) ∈ gw_tbl := gw_in (by decide +kernel) (by decide +kernel)

set_option maxHeartbeats 4000000 in
set_option maxRecDepth 100000 in
theorem i_question (l : Launch) (D : va_G) (h0 : Nat) (sz : Nat) : Met l yX5_init (Cond.code yX5_init cX5_init 1 none :: gw_tbl) ({ frames := 1, cells := 9, slots := 50, locals := 12 }) (pc_C D [] [(h0, .inr (5, [.null, .null, .null, .null, .int 0, .int 0, .long 0]))] sz [.ref h0]) (va_Qv (fun (u : Unit) => True) (fun _ t => ∃ (a1 : Nat), ∃ (a2 : Nat), ∃ (a3 : Nat), ∃ (a4 : Nat), va_P D vwCl [(h0, .inr (5, [.ref a1, .ref a2, .ref a3, .ref a4, .int 0, .int 0, .long 0]))] t.heap ∧ va_K D vwCl [] t ∧ va_D (va_A [(h0, .inr (5, [.null, .null, .null, .null, .int 0, .int 0, .long 0]))] sz) [(h0, .inr (5, [.ref a1, .ref a2, .ref a3, .ref a4, .int 0, .int 0, .long 0]))]) (va_A [(h0, .inr (5, [.null, .null, .null, .null, .int 0, .int 0, .long 0]))] sz)) 9 50 (va_A [(h0, .inr (5, [.null, .null, .null, .null, .int 0, .int 0, .long 0]))] sz) := by
  refine Met.ofW (cc := cX5_init) (maxL := 1) (ret := none) (by decide) rfl ?_
  intro p e s m args below meth c s₁ B hml hv
  obtain ⟨hargs, hsz, hP, hK, hD0, hN⟩ := hv
  have hx := B.exec
  have hb := B.bytes
  have hr := B.returns
  have hts := atoms_spec (ws := Cond.code yX5_init cX5_init 1 none :: gw_tbl) B.pre
  have hg := fun (w : Cond) (h : w ∈ gw_tbl) => hts w (List.mem_cons_of_mem _ h)
  have hown : s.vm.findClass RX5 = some m.cls := findClass_of_methodNamed B.named
  have hlocks := B.notSynchronized
  have hin : meth.name = "<init>" := (name_of_methodNamed B.named B.method).1
  subst hsz
  have hD := hD0.self (sz := s.heap.size)
  generalize hAe : va_A [(h0, .inr (5, [.null, .null, .null, .null, .int 0, .int 0, .long 0]))] s.heap.size = A at hD ⊢
  have hA : ∀ q : Nat, s.heap.size ≤ q → A q := fun q h => by rw [← hAe]; exact Or.inr h
  have hS : va_S A s.heap s.heap [] := va_S.rf
  have hP : va_P D vwCl [(h0, .inr (5, [.null, .null, .null, .null, .int 0, .int 0, .long 0]))] s.heap := hP
  have hl := lv_entry ([.ref h0]) (n := 1) (Nat.le_of_ble_eq_true rfl)
  rw [show entryFrame m args 1 = F0 m 0 (lg_sl ([.ref h0]) ++ List.replicate (1 - (lg_sl ([.ref h0])).length) Slot.unset).toArray [] from by rw [hargs]; exact lg_entry_eq ..]
  generalize (lg_sl ([.ref h0]) ++ List.replicate (1 - (lg_sl ([.ref h0])).length) Slot.unset).toArray = ls at hl ⊢
  have hl : lv_has ls 1 [(0, .ref h0)] := hl
  refine W_genQ (fun Q hQ => ?_)
  refine lv_aload_n hx hb dX5_init_0 rfl (lv_at hl 0 rfl) ?_
  refine W.objInit hx hb hown (hg _ kw_144) (hg _ kw_94) (hg _ kw_95) rfl (by rw [hml]; exact hl.1) rfl dX5_init_1 (Nat.le_of_ble_eq_true rfl) (Nat.le_of_ble_eq_true rfl) ?_
  refine W.eq (g2 := F0 m 4 ls []) rfl ?_
  refine lv_aload_n hx hb dX5_init_4 rfl (lv_at hl 0 rfl) ?_
  refine lv_iconst (v := 5) hx hb dX5_init_5 (by decide) ?_
  refine va_newa (atype := .int) (ty := .int) (N' := 5) (a0 := (5, .inl (fun _ => 0))) hx hb (hg _ kw_96) rfl hK hP hD hS hA (fun _ => rfl) (by decide) (by decide) (by decide) (Nat.le_of_ble_eq_true rfl) (Nat.le_of_ble_eq_true rfl) dX5_init_6 (fun q_6 cA_6 H hK hP hD hS => ?_)
  have hP : va_P D vwCl [(h0, .inr (5, [.null, .null, .null, .null, .int 0, .int 0, .long 0])), (q_6, .inl (cA_6, 5, .inl (fun _ => 0)))] H := hP
  have hD : va_D A [(h0, .inr (5, [.null, .null, .null, .null, .int 0, .int 0, .long 0])), (q_6, .inl (cA_6, 5, .inl (fun _ => 0)))] := hD
  have hK : va_K D vwCl [(cA_6, .int)] s := hK
  refine W.cs (cells' := 1) (slots' := 5) rfl rfl ?_
  refine va_putF (D := D) (ci := 5) (v := .ref q_6) (ty := .array .int) (C := RX5) (T := TX5) (N := 7) hx hb hg gwX5 tyX5 tyX5_ok nmX5 hown hK hP hD hS 0 rfl rfl 0 (by decide) (hg _ kw_145) (fun _ h9 => h9) rfl hin rfl (by decide +kernel) rfl rfl (Nat.le_of_ble_eq_true rfl) dX5_init_8 (fun H locs hP hD hS => ?_)
  have hP : va_P D vwCl [(h0, .inr (5, [.ref q_6, .null, .null, .null, .int 0, .int 0, .long 0])), (q_6, .inl (cA_6, 5, .inl (fun _ => 0)))] H := hP
  have hD : va_D A [(h0, .inr (5, [.ref q_6, .null, .null, .null, .int 0, .int 0, .long 0])), (q_6, .inl (cA_6, 5, .inl (fun _ => 0)))] := hD
  refine lv_aload_n hx hb dX5_init_11 rfl (lv_at hl 0 rfl) ?_
  refine lv_iconst (v := 5) hx hb dX5_init_12 (by decide) ?_
  refine lv_iconst (v := 4) hx hb dX5_init_13 (by decide) ?_
  refine mm_mna (ty := .int) (N' := 5) (K' := 4) hx hb hown (hg _ kw_146) hN.2.2.1 (hg _ kw_96) hP hS (by decide) (by decide) (by decide) (by decide) (by decide) (by decide) (by decide) rfl rfl (Nat.le_of_ble_eq_true rfl) (Nat.le_of_ble_eq_true rfl) dX5_init_14 (fun q_14 H hP hS => ?_)
  refine W.cs (cells' := 7) (slots' := 30) rfl rfl ?_
  refine va_putF (D := D) (ci := 5) (v := .ref q_14) (ty := .array (.array .int)) (C := RX5) (T := TX5) (N := 7) hx hb hg gwX5 tyX5 tyX5_ok nmX5 hown hK hP hD hS 0 rfl rfl 1 (by decide) (hg _ kw_147) (fun _ h9 => h9) rfl hin rfl (by decide +kernel) rfl rfl (Nat.le_of_ble_eq_true rfl) dX5_init_18 (fun H locs hP hD hS => ?_)
  have hP : va_P D vwCl [(h0, .inr (5, [.ref q_6, .ref q_14, .null, .null, .int 0, .int 0, .long 0])), (q_6, .inl (cA_6, 5, .inl (fun _ => 0)))] H := hP
  have hD : va_D A [(h0, .inr (5, [.ref q_6, .ref q_14, .null, .null, .int 0, .int 0, .long 0])), (q_6, .inl (cA_6, 5, .inl (fun _ => 0)))] := hD
  refine lv_aload_n hx hb dX5_init_21 rfl (lv_at hl 0 rfl) ?_
  refine lv_iconst (v := 4) hx hb dX5_init_22 (by decide) ?_
  refine va_newa (atype := .int) (ty := .int) (N' := 4) (a0 := (4, .inl (fun _ => 0))) hx hb (hg _ kw_96) rfl hK hP hD hS hA (fun _ => rfl) (by decide) (by decide) (by decide) (Nat.le_of_ble_eq_true rfl) (Nat.le_of_ble_eq_true rfl) dX5_init_23 (fun q_23 cA_23 H hK hP hD hS => ?_)
  have hP : va_P D vwCl [(h0, .inr (5, [.ref q_6, .ref q_14, .null, .null, .int 0, .int 0, .long 0])), (q_6, .inl (cA_6, 5, .inl (fun _ => 0))), (q_23, .inl (cA_23, 4, .inl (fun _ => 0)))] H := hP
  have hD : va_D A [(h0, .inr (5, [.ref q_6, .ref q_14, .null, .null, .int 0, .int 0, .long 0])), (q_6, .inl (cA_6, 5, .inl (fun _ => 0))), (q_23, .inl (cA_23, 4, .inl (fun _ => 0)))] := hD
  have hK : va_K D vwCl [(cA_6, .int), (cA_23, .int)] s := hK
  refine W.cs (cells' := 8) (slots' := 34) rfl rfl ?_
  refine va_putF (D := D) (ci := 5) (v := .ref q_23) (ty := .array .int) (C := RX5) (T := TX5) (N := 7) hx hb hg gwX5 tyX5 tyX5_ok nmX5 hown hK hP hD hS 0 rfl rfl 2 (by decide) (hg _ kw_148) (fun _ h9 => h9) rfl hin rfl (by decide +kernel) rfl rfl (Nat.le_of_ble_eq_true rfl) dX5_init_25 (fun H locs hP hD hS => ?_)
  have hP : va_P D vwCl [(h0, .inr (5, [.ref q_6, .ref q_14, .ref q_23, .null, .int 0, .int 0, .long 0])), (q_6, .inl (cA_6, 5, .inl (fun _ => 0))), (q_23, .inl (cA_23, 4, .inl (fun _ => 0)))] H := hP
  have hD : va_D A [(h0, .inr (5, [.ref q_6, .ref q_14, .ref q_23, .null, .int 0, .int 0, .long 0])), (q_6, .inl (cA_6, 5, .inl (fun _ => 0))), (q_23, .inl (cA_23, 4, .inl (fun _ => 0)))] := hD
  refine lv_aload_n hx hb dX5_init_28 rfl (lv_at hl 0 rfl) ?_
  refine lv_bipush (v := 16) hx hb dX5_init_29 (by decide) ?_
  refine va_newa (atype := .long) (ty := .long) (N' := 16) (a0 := (16, .inr (.inl (fun _ => 0)))) hx hb (hg _ kw_149) rfl hK hP hD hS hA (fun _ => rfl) (by decide) (by decide) (by decide) (Nat.le_of_ble_eq_true rfl) (Nat.le_of_ble_eq_true rfl) dX5_init_31 (fun q_31 cA_31 H hK hP hD hS => ?_)
  have hP : va_P D vwCl [(h0, .inr (5, [.ref q_6, .ref q_14, .ref q_23, .null, .int 0, .int 0, .long 0])), (q_6, .inl (cA_6, 5, .inl (fun _ => 0))), (q_23, .inl (cA_23, 4, .inl (fun _ => 0))), (q_31, .inl (cA_31, 16, .inr (.inl (fun _ => 0))))] H := hP
  have hD : va_D A [(h0, .inr (5, [.ref q_6, .ref q_14, .ref q_23, .null, .int 0, .int 0, .long 0])), (q_6, .inl (cA_6, 5, .inl (fun _ => 0))), (q_23, .inl (cA_23, 4, .inl (fun _ => 0))), (q_31, .inl (cA_31, 16, .inr (.inl (fun _ => 0))))] := hD
  have hK : va_K D vwCl [(cA_6, .int), (cA_23, .int), (cA_31, .long)] s := hK
  refine W.cs (cells' := 9) (slots' := 50) rfl rfl ?_
  refine va_putF (D := D) (ci := 5) (v := .ref q_31) (ty := .array .long) (C := RX5) (T := TX5) (N := 7) hx hb hg gwX5 tyX5 tyX5_ok nmX5 hown hK hP hD hS 0 rfl rfl 3 (by decide) (hg _ kw_150) (fun _ h9 => h9) rfl hin rfl (by decide +kernel) rfl rfl (Nat.le_of_ble_eq_true rfl) dX5_init_33 (fun H locs hP hD hS => ?_)
  have hP : va_P D vwCl [(h0, .inr (5, [.ref q_6, .ref q_14, .ref q_23, .ref q_31, .int 0, .int 0, .long 0])), (q_6, .inl (cA_6, 5, .inl (fun _ => 0))), (q_23, .inl (cA_23, 4, .inl (fun _ => 0))), (q_31, .inl (cA_31, 16, .inr (.inl (fun _ => 0))))] H := hP
  have hD : va_D A [(h0, .inr (5, [.ref q_6, .ref q_14, .ref q_23, .ref q_31, .int 0, .int 0, .long 0])), (q_6, .inl (cA_6, 5, .inl (fun _ => 0))), (q_23, .inl (cA_23, 4, .inl (fun _ => 0))), (q_31, .inl (cA_31, 16, .inr (.inl (fun _ => 0))))] := hD
  subst hQ
  refine W.widen (k := 9) (n := 50) (Nat.le_of_ble_eq_true rfl) (Nat.le_of_ble_eq_true rfl) ?_
  have hP9 := hP.sub (ws' := [(h0, .inr (5, [.ref q_6, .ref q_14, .ref q_23, .ref q_31, .int 0, .int 0, .long 0]))]) [0] rfl
  have hD9 := hD.sub (ws' := [(h0, .inr (5, [.ref q_6, .ref q_14, .ref q_23, .ref q_31, .int 0, .int 0, .long 0]))]) [0] (by decide) rfl
  have hK9 := hK.sub (tys' := []) [] rfl
  exact W.vret hx hb hr (fun t ht hW => ⟨⟨(), rfl, trivial, ⟨q_6, q_14, q_23, q_31, by rw [ht]; exact hP9, va_K.moved hW.alike hK9, hD9⟩⟩, hS.F ht⟩) hS.2.2 dX5_init_36

theorem dX8_init_0 : decode cX8_init 0 = .ok (.aload_n 0, 1) := by decide +kernel
theorem dX8_init_1 : decode cX8_init 1 = .ok (.invokespecial 3, 3) := by decide +kernel
theorem dX8_init_4 : decode cX8_init 4 = .ok (.aload_n 0, 1) := by decide +kernel
theorem dX8_init_5 : decode cX8_init 5 = .ok (.bipush 24, 2) := by decide +kernel
theorem dX8_init_7 : decode cX8_init 7 = .ok (.newarray .int, 2) := by decide +kernel
theorem dX8_init_9 : decode cX8_init 9 = .ok (.putfield 9, 3) := by decide +kernel
theorem dX8_init_12 : decode cX8_init 12 = .ok (.aload_n 0, 1) := by decide +kernel
theorem dX8_init_13 : decode cX8_init 13 = .ok (.bipush 24, 2) := by decide +kernel
theorem dX8_init_15 : decode cX8_init 15 = .ok (.newarray .long, 2) := by decide +kernel
theorem dX8_init_17 : decode cX8_init 17 = .ok (.putfield 15, 3) := by decide +kernel
theorem dX8_init_20 : decode cX8_init 20 = .ok (.return_, 1) := by decide +kernel
theorem kw_151 : (.methodLink RX8 3 objectInit : Cond) ∈ gw_tbl := gw_in (by decide +kernel) (by decide +kernel)
theorem kw_152 : (.fieldLink RX8 9 "NobodyChecks$Rows" "answers" "[I" : Cond) ∈ gw_tbl := gw_in (by decide +kernel) (by decide +kernel)
theorem kw_153 : (.fieldLink RX8 15 "NobodyChecks$Rows" "guesses" "[J" : Cond) ∈ gw_tbl := gw_in (by decide +kernel) (by decide +kernel)

set_option maxHeartbeats 4000000 in
set_option maxRecDepth 100000 in
theorem i_rows (l : Launch) (D : va_G) (h0 : Nat) (sz : Nat) : Met l yX8_init (Cond.code yX8_init cX8_init 1 none :: gw_tbl) ({ frames := 1, cells := 2, slots := 48, locals := 12 }) (pc_C D [] [(h0, .inr (8, [.null, .null, .int 0]))] sz [.ref h0]) (va_Qv (fun (u : Unit) => True) (fun _ t => ∃ (r1 : Nat), ∃ (r2 : Nat), va_P D vwCl [(h0, .inr (8, [.ref r1, .ref r2, .int 0]))] t.heap ∧ va_K D vwCl [] t ∧ va_D (va_A [(h0, .inr (8, [.null, .null, .int 0]))] sz) [(h0, .inr (8, [.ref r1, .ref r2, .int 0]))]) (va_A [(h0, .inr (8, [.null, .null, .int 0]))] sz)) 2 48 (va_A [(h0, .inr (8, [.null, .null, .int 0]))] sz) := by
  refine Met.ofW (cc := cX8_init) (maxL := 1) (ret := none) (by decide) rfl ?_
  intro p e s m args below meth c s₁ B hml hv
  obtain ⟨hargs, hsz, hP, hK, hD0, hN⟩ := hv
  have hx := B.exec
  have hb := B.bytes
  have hr := B.returns
  have hts := atoms_spec (ws := Cond.code yX8_init cX8_init 1 none :: gw_tbl) B.pre
  have hg := fun (w : Cond) (h : w ∈ gw_tbl) => hts w (List.mem_cons_of_mem _ h)
  have hown : s.vm.findClass RX8 = some m.cls := findClass_of_methodNamed B.named
  have hlocks := B.notSynchronized
  have hin : meth.name = "<init>" := (name_of_methodNamed B.named B.method).1
  subst hsz
  have hD := hD0.self (sz := s.heap.size)
  generalize hAe : va_A [(h0, .inr (8, [.null, .null, .int 0]))] s.heap.size = A at hD ⊢
  have hA : ∀ q : Nat, s.heap.size ≤ q → A q := fun q h => by rw [← hAe]; exact Or.inr h
  have hS : va_S A s.heap s.heap [] := va_S.rf
  have hP : va_P D vwCl [(h0, .inr (8, [.null, .null, .int 0]))] s.heap := hP
  have hl := lv_entry ([.ref h0]) (n := 1) (Nat.le_of_ble_eq_true rfl)
  rw [show entryFrame m args 1 = F0 m 0 (lg_sl ([.ref h0]) ++ List.replicate (1 - (lg_sl ([.ref h0])).length) Slot.unset).toArray [] from by rw [hargs]; exact lg_entry_eq ..]
  generalize (lg_sl ([.ref h0]) ++ List.replicate (1 - (lg_sl ([.ref h0])).length) Slot.unset).toArray = ls at hl ⊢
  have hl : lv_has ls 1 [(0, .ref h0)] := hl
  refine W_genQ (fun Q hQ => ?_)
  refine lv_aload_n hx hb dX8_init_0 rfl (lv_at hl 0 rfl) ?_
  refine W.objInit hx hb hown (hg _ kw_151) (hg _ kw_94) (hg _ kw_95) rfl (by rw [hml]; exact hl.1) rfl dX8_init_1 (Nat.le_of_ble_eq_true rfl) (Nat.le_of_ble_eq_true rfl) ?_
  refine W.eq (g2 := F0 m 4 ls []) rfl ?_
  refine lv_aload_n hx hb dX8_init_4 rfl (lv_at hl 0 rfl) ?_
  refine lv_bipush (v := 24) hx hb dX8_init_5 (by decide) ?_
  refine va_newa (atype := .int) (ty := .int) (N' := 24) (a0 := (24, .inl (fun _ => 0))) hx hb (hg _ kw_96) rfl hK hP hD hS hA (fun _ => rfl) (by decide) (by decide) (by decide) (Nat.le_of_ble_eq_true rfl) (Nat.le_of_ble_eq_true rfl) dX8_init_7 (fun q_7 cA_7 H hK hP hD hS => ?_)
  have hP : va_P D vwCl [(h0, .inr (8, [.null, .null, .int 0])), (q_7, .inl (cA_7, 24, .inl (fun _ => 0)))] H := hP
  have hD : va_D A [(h0, .inr (8, [.null, .null, .int 0])), (q_7, .inl (cA_7, 24, .inl (fun _ => 0)))] := hD
  have hK : va_K D vwCl [(cA_7, .int)] s := hK
  refine W.cs (cells' := 1) (slots' := 24) rfl rfl ?_
  refine va_putF (D := D) (ci := 8) (v := .ref q_7) (ty := .array .int) (C := RX8) (T := TX8) (N := 3) hx hb hg gwX8 tyX8 tyX8_ok nmX8 hown hK hP hD hS 0 rfl rfl 0 (by decide) (hg _ kw_152) (fun _ h9 => h9) rfl hin rfl (by decide +kernel) rfl rfl (Nat.le_of_ble_eq_true rfl) dX8_init_9 (fun H locs hP hD hS => ?_)
  have hP : va_P D vwCl [(h0, .inr (8, [.ref q_7, .null, .int 0])), (q_7, .inl (cA_7, 24, .inl (fun _ => 0)))] H := hP
  have hD : va_D A [(h0, .inr (8, [.ref q_7, .null, .int 0])), (q_7, .inl (cA_7, 24, .inl (fun _ => 0)))] := hD
  refine lv_aload_n hx hb dX8_init_12 rfl (lv_at hl 0 rfl) ?_
  refine lv_bipush (v := 24) hx hb dX8_init_13 (by decide) ?_
  refine va_newa (atype := .long) (ty := .long) (N' := 24) (a0 := (24, .inr (.inl (fun _ => 0)))) hx hb (hg _ kw_149) rfl hK hP hD hS hA (fun _ => rfl) (by decide) (by decide) (by decide) (Nat.le_of_ble_eq_true rfl) (Nat.le_of_ble_eq_true rfl) dX8_init_15 (fun q_15 cA_15 H hK hP hD hS => ?_)
  have hP : va_P D vwCl [(h0, .inr (8, [.ref q_7, .null, .int 0])), (q_7, .inl (cA_7, 24, .inl (fun _ => 0))), (q_15, .inl (cA_15, 24, .inr (.inl (fun _ => 0))))] H := hP
  have hD : va_D A [(h0, .inr (8, [.ref q_7, .null, .int 0])), (q_7, .inl (cA_7, 24, .inl (fun _ => 0))), (q_15, .inl (cA_15, 24, .inr (.inl (fun _ => 0))))] := hD
  have hK : va_K D vwCl [(cA_7, .int), (cA_15, .long)] s := hK
  refine W.cs (cells' := 2) (slots' := 48) rfl rfl ?_
  refine va_putF (D := D) (ci := 8) (v := .ref q_15) (ty := .array .long) (C := RX8) (T := TX8) (N := 3) hx hb hg gwX8 tyX8 tyX8_ok nmX8 hown hK hP hD hS 0 rfl rfl 1 (by decide) (hg _ kw_153) (fun _ h9 => h9) rfl hin rfl (by decide +kernel) rfl rfl (Nat.le_of_ble_eq_true rfl) dX8_init_17 (fun H locs hP hD hS => ?_)
  have hP : va_P D vwCl [(h0, .inr (8, [.ref q_7, .ref q_15, .int 0])), (q_7, .inl (cA_7, 24, .inl (fun _ => 0))), (q_15, .inl (cA_15, 24, .inr (.inl (fun _ => 0))))] H := hP
  have hD : va_D A [(h0, .inr (8, [.ref q_7, .ref q_15, .int 0])), (q_7, .inl (cA_7, 24, .inl (fun _ => 0))), (q_15, .inl (cA_15, 24, .inr (.inl (fun _ => 0))))] := hD
  subst hQ
  refine W.widen (k := 2) (n := 48) (Nat.le_of_ble_eq_true rfl) (Nat.le_of_ble_eq_true rfl) ?_
  have hP9 := hP.sub (ws' := [(h0, .inr (8, [.ref q_7, .ref q_15, .int 0]))]) [0] rfl
  have hD9 := hD.sub (ws' := [(h0, .inr (8, [.ref q_7, .ref q_15, .int 0]))]) [0] (by decide) rfl
  have hK9 := hK.sub (tys' := []) [] rfl
  exact W.vret hx hb hr (fun t ht hW => ⟨⟨(), rfl, trivial, ⟨q_7, q_15, by rw [ht]; exact hP9, va_K.moved hW.alike hK9, hD9⟩⟩, hS.F ht⟩) hS.2.2 dX8_init_20

theorem dX4_init_0 : decode cX4_init 0 = .ok (.aload_n 0, 1) := by decide +kernel
theorem dX4_init_1 : decode cX4_init 1 = .ok (.invokespecial 3, 3) := by decide +kernel
theorem dX4_init_4 : decode cX4_init 4 = .ok (.aload_n 0, 1) := by decide +kernel
theorem dX4_init_5 : decode cX4_init 5 = .ok (.sipush 256, 3) := by decide +kernel
theorem dX4_init_8 : decode cX4_init 8 = .ok (.newarray .int, 2) := by decide +kernel
theorem dX4_init_10 : decode cX4_init 10 = .ok (.putfield 9, 3) := by decide +kernel
theorem dX4_init_13 : decode cX4_init 13 = .ok (.aload_n 0, 1) := by decide +kernel
theorem dX4_init_14 : decode cX4_init 14 = .ok (.sipush 256, 3) := by decide +kernel
theorem dX4_init_17 : decode cX4_init 17 = .ok (.newarray .int, 2) := by decide +kernel
theorem dX4_init_19 : decode cX4_init 19 = .ok (.putfield 15, 3) := by decide +kernel
theorem dX4_init_22 : decode cX4_init 22 = .ok (.aload_n 0, 1) := by decide +kernel
theorem dX4_init_23 : decode cX4_init 23 = .ok (.iconst 0, 1) := by decide +kernel
theorem dX4_init_24 : decode cX4_init 24 = .ok (.newarray .long, 2) := by decide +kernel
theorem dX4_init_26 : decode cX4_init 26 = .ok (.putfield 18, 3) := by decide +kernel
theorem dX4_init_29 : decode cX4_init 29 = .ok (.aload_n 0, 1) := by decide +kernel
theorem dX4_init_30 : decode cX4_init 30 = .ok (.aload_n 1, 1) := by decide +kernel
theorem dX4_init_31 : decode cX4_init 31 = .ok (.putfield 22, 3) := by decide +kernel
theorem dX4_init_34 : decode cX4_init 34 = .ok (.return_, 1) := by decide +kernel
theorem kw_154 : (.methodLink RX4 3 objectInit : Cond) ∈ gw_tbl := gw_in (by decide +kernel) (by decide +kernel)
theorem kw_155 : (.fieldLink RX4 9 "NobodyChecks$Play" "next" "[I" : Cond) ∈ gw_tbl := gw_in (by decide +kernel) (by decide +kernel)
theorem kw_156 : (.fieldLink RX4 15 "NobodyChecks$Play" "seen" "[I" : Cond) ∈ gw_tbl := gw_in (by decide +kernel) (by decide +kernel)
theorem kw_157 : (.fieldLink RX4 18 "NobodyChecks$Play" "averages" "[J" : Cond) ∈ gw_tbl := gw_in (by decide +kernel) (by decide +kernel)
theorem kw_158 : (.fieldLink RX4 22 "NobodyChecks$Play" "asked" "LNobodyChecks$Question;" : Cond) ∈ gw_tbl := gw_in (by decide +kernel) (by decide +kernel)

set_option maxHeartbeats 4000000 in
set_option maxRecDepth 100000 in
theorem i_play (l : Launch) (D : va_G) (h0 : Nat) (aq : Nat) (sz : Nat) : Met l yX4_init (Cond.code yX4_init cX4_init 2 none :: gw_tbl) ({ frames := 1, cells := 3, slots := 512, locals := 12 }) (pc_C D [] [(h0, .inr (4, [.null, .null, .null, .null, .long 0, .int 0, .int 0, .int 0, .int 0, .int 0]))] sz [.ref h0, .ref aq]) (va_Qv (fun (u : Unit) => True) (fun _ t => va_P D vwCl [] t.heap ∧ va_K D vwCl [] t ∧ va_D (va_A [(h0, .inr (4, [.null, .null, .null, .null, .long 0, .int 0, .int 0, .int 0, .int 0, .int 0]))] sz) []) (va_A [(h0, .inr (4, [.null, .null, .null, .null, .long 0, .int 0, .int 0, .int 0, .int 0, .int 0]))] sz)) 3 512 (va_A [(h0, .inr (4, [.null, .null, .null, .null, .long 0, .int 0, .int 0, .int 0, .int 0, .int 0]))] sz) := by
  refine Met.ofW (cc := cX4_init) (maxL := 2) (ret := none) (by decide) rfl ?_
  intro p e s m args below meth c s₁ B hml hv
  obtain ⟨hargs, hsz, hP, hK, hD0, hN⟩ := hv
  have hx := B.exec
  have hb := B.bytes
  have hr := B.returns
  have hts := atoms_spec (ws := Cond.code yX4_init cX4_init 2 none :: gw_tbl) B.pre
  have hg := fun (w : Cond) (h : w ∈ gw_tbl) => hts w (List.mem_cons_of_mem _ h)
  have hown : s.vm.findClass RX4 = some m.cls := findClass_of_methodNamed B.named
  have hlocks := B.notSynchronized
  have hin : meth.name = "<init>" := (name_of_methodNamed B.named B.method).1
  subst hsz
  have hD := hD0.self (sz := s.heap.size)
  generalize hAe : va_A [(h0, .inr (4, [.null, .null, .null, .null, .long 0, .int 0, .int 0, .int 0, .int 0, .int 0]))] s.heap.size = A at hD ⊢
  have hA : ∀ q : Nat, s.heap.size ≤ q → A q := fun q h => by rw [← hAe]; exact Or.inr h
  have hS : va_S A s.heap s.heap [] := va_S.rf
  have hP : va_P D vwCl [(h0, .inr (4, [.null, .null, .null, .null, .long 0, .int 0, .int 0, .int 0, .int 0, .int 0]))] s.heap := hP
  have hl := lv_entry ([.ref h0, .ref aq]) (n := 2) (Nat.le_of_ble_eq_true rfl)
  rw [show entryFrame m args 2 = F0 m 0 (lg_sl ([.ref h0, .ref aq]) ++ List.replicate (2 - (lg_sl ([.ref h0, .ref aq])).length) Slot.unset).toArray [] from by rw [hargs]; exact lg_entry_eq ..]
  generalize (lg_sl ([.ref h0, .ref aq]) ++ List.replicate (2 - (lg_sl ([.ref h0, .ref aq])).length) Slot.unset).toArray = ls at hl ⊢
  have hl : lv_has ls 2 [(0, .ref h0), (1, .ref aq)] := hl
  refine W_genQ (fun Q hQ => ?_)
  refine lv_aload_n hx hb dX4_init_0 rfl (lv_at hl 0 rfl) ?_
  refine W.objInit hx hb hown (hg _ kw_154) (hg _ kw_94) (hg _ kw_95) rfl (by rw [hml]; exact hl.1) rfl dX4_init_1 (Nat.le_of_ble_eq_true rfl) (Nat.le_of_ble_eq_true rfl) ?_
  refine W.eq (g2 := F0 m 4 ls []) rfl ?_
  refine lv_aload_n hx hb dX4_init_4 rfl (lv_at hl 0 rfl) ?_
  refine lv_sipush (v := 256) hx hb dX4_init_5 (by decide) ?_
  refine va_newa (atype := .int) (ty := .int) (N' := 256) (a0 := (256, .inl (fun _ => 0))) hx hb (hg _ kw_96) rfl hK hP hD hS hA (fun _ => rfl) (by decide) (by decide) (by decide) (Nat.le_of_ble_eq_true rfl) (Nat.le_of_ble_eq_true rfl) dX4_init_8 (fun q_8 cA_8 H hK hP hD hS => ?_)
  have hP : va_P D vwCl [(h0, .inr (4, [.null, .null, .null, .null, .long 0, .int 0, .int 0, .int 0, .int 0, .int 0])), (q_8, .inl (cA_8, 256, .inl (fun _ => 0)))] H := hP
  have hD : va_D A [(h0, .inr (4, [.null, .null, .null, .null, .long 0, .int 0, .int 0, .int 0, .int 0, .int 0])), (q_8, .inl (cA_8, 256, .inl (fun _ => 0)))] := hD
  have hK : va_K D vwCl [(cA_8, .int)] s := hK
  refine W.cs (cells' := 1) (slots' := 256) rfl rfl ?_
  refine va_putF (D := D) (ci := 4) (v := .ref q_8) (ty := .array .int) (C := RX4) (T := TX4) (N := 10) hx hb hg gwX4 tyX4 tyX4_ok nmX4 hown hK hP hD hS 0 rfl rfl 1 (by decide) (hg _ kw_155) (fun _ h9 => h9) rfl hin rfl (by decide +kernel) rfl rfl (Nat.le_of_ble_eq_true rfl) dX4_init_10 (fun H locs hP hD hS => ?_)
  have hP : va_P D vwCl [(h0, .inr (4, [.null, .ref q_8, .null, .null, .long 0, .int 0, .int 0, .int 0, .int 0, .int 0])), (q_8, .inl (cA_8, 256, .inl (fun _ => 0)))] H := hP
  have hD : va_D A [(h0, .inr (4, [.null, .ref q_8, .null, .null, .long 0, .int 0, .int 0, .int 0, .int 0, .int 0])), (q_8, .inl (cA_8, 256, .inl (fun _ => 0)))] := hD
  refine lv_aload_n hx hb dX4_init_13 rfl (lv_at hl 0 rfl) ?_
  refine lv_sipush (v := 256) hx hb dX4_init_14 (by decide) ?_
  refine va_newa (atype := .int) (ty := .int) (N' := 256) (a0 := (256, .inl (fun _ => 0))) hx hb (hg _ kw_96) rfl hK hP hD hS hA (fun _ => rfl) (by decide) (by decide) (by decide) (Nat.le_of_ble_eq_true rfl) (Nat.le_of_ble_eq_true rfl) dX4_init_17 (fun q_17 cA_17 H hK hP hD hS => ?_)
  have hP : va_P D vwCl [(h0, .inr (4, [.null, .ref q_8, .null, .null, .long 0, .int 0, .int 0, .int 0, .int 0, .int 0])), (q_8, .inl (cA_8, 256, .inl (fun _ => 0))), (q_17, .inl (cA_17, 256, .inl (fun _ => 0)))] H := hP
  have hD : va_D A [(h0, .inr (4, [.null, .ref q_8, .null, .null, .long 0, .int 0, .int 0, .int 0, .int 0, .int 0])), (q_8, .inl (cA_8, 256, .inl (fun _ => 0))), (q_17, .inl (cA_17, 256, .inl (fun _ => 0)))] := hD
  have hK : va_K D vwCl [(cA_8, .int), (cA_17, .int)] s := hK
  refine W.cs (cells' := 2) (slots' := 512) rfl rfl ?_
  refine va_putF (D := D) (ci := 4) (v := .ref q_17) (ty := .array .int) (C := RX4) (T := TX4) (N := 10) hx hb hg gwX4 tyX4 tyX4_ok nmX4 hown hK hP hD hS 0 rfl rfl 2 (by decide) (hg _ kw_156) (fun _ h9 => h9) rfl hin rfl (by decide +kernel) rfl rfl (Nat.le_of_ble_eq_true rfl) dX4_init_19 (fun H locs hP hD hS => ?_)
  have hP : va_P D vwCl [(h0, .inr (4, [.null, .ref q_8, .ref q_17, .null, .long 0, .int 0, .int 0, .int 0, .int 0, .int 0])), (q_8, .inl (cA_8, 256, .inl (fun _ => 0))), (q_17, .inl (cA_17, 256, .inl (fun _ => 0)))] H := hP
  have hD : va_D A [(h0, .inr (4, [.null, .ref q_8, .ref q_17, .null, .long 0, .int 0, .int 0, .int 0, .int 0, .int 0])), (q_8, .inl (cA_8, 256, .inl (fun _ => 0))), (q_17, .inl (cA_17, 256, .inl (fun _ => 0)))] := hD
  refine lv_aload_n hx hb dX4_init_22 rfl (lv_at hl 0 rfl) ?_
  refine lv_iconst (v := 0) hx hb dX4_init_23 (by decide) ?_
  refine va_newa (atype := .long) (ty := .long) (N' := 0) (a0 := (0, .inr (.inl (fun _ => 0)))) hx hb (hg _ kw_149) rfl hK hP hD hS hA (fun _ => rfl) (by decide) (by decide) (by decide) (Nat.le_of_ble_eq_true rfl) (Nat.le_of_ble_eq_true rfl) dX4_init_24 (fun q_24 cA_24 H hK hP hD hS => ?_)
  have hP : va_P D vwCl [(h0, .inr (4, [.null, .ref q_8, .ref q_17, .null, .long 0, .int 0, .int 0, .int 0, .int 0, .int 0])), (q_8, .inl (cA_8, 256, .inl (fun _ => 0))), (q_17, .inl (cA_17, 256, .inl (fun _ => 0))), (q_24, .inl (cA_24, 0, .inr (.inl (fun _ => 0))))] H := hP
  have hD : va_D A [(h0, .inr (4, [.null, .ref q_8, .ref q_17, .null, .long 0, .int 0, .int 0, .int 0, .int 0, .int 0])), (q_8, .inl (cA_8, 256, .inl (fun _ => 0))), (q_17, .inl (cA_17, 256, .inl (fun _ => 0))), (q_24, .inl (cA_24, 0, .inr (.inl (fun _ => 0))))] := hD
  have hK : va_K D vwCl [(cA_8, .int), (cA_17, .int), (cA_24, .long)] s := hK
  refine W.cs (cells' := 3) (slots' := 512) rfl rfl ?_
  refine va_put (D := D) (ci := 4) (v := .ref q_24) (ty := .array .long) (C := RX4) (T := TX4) (N := 10) hx hb hg gwX4 tyX4 tyX4_ok nmX4 hown hK hP hD hS 0 rfl rfl 3 (by decide) (hg _ kw_157) (fun _ h9 => h9) rfl (by decide +kernel) rfl rfl (Nat.le_of_ble_eq_true rfl) dX4_init_26 (fun H locs hP hD hS => ?_)
  have hP : va_P D vwCl [(h0, .inr (4, [.null, .ref q_8, .ref q_17, .ref q_24, .long 0, .int 0, .int 0, .int 0, .int 0, .int 0])), (q_8, .inl (cA_8, 256, .inl (fun _ => 0))), (q_17, .inl (cA_17, 256, .inl (fun _ => 0))), (q_24, .inl (cA_24, 0, .inr (.inl (fun _ => 0))))] H := hP
  have hD : va_D A [(h0, .inr (4, [.null, .ref q_8, .ref q_17, .ref q_24, .long 0, .int 0, .int 0, .int 0, .int 0, .int 0])), (q_8, .inl (cA_8, 256, .inl (fun _ => 0))), (q_17, .inl (cA_17, 256, .inl (fun _ => 0))), (q_24, .inl (cA_24, 0, .inr (.inl (fun _ => 0))))] := hD
  refine lv_aload_n hx hb dX4_init_29 rfl (lv_at hl 0 rfl) ?_
  refine lv_aload_n hx hb dX4_init_30 rfl (lv_at hl 1 rfl) ?_
  refine va_putF (D := D) (ci := 4) (v := .ref aq) (ty := .object "NobodyChecks$Question") (C := RX4) (T := TX4) (N := 10) hx hb hg gwX4 tyX4 tyX4_ok nmX4 hown hK hP hD hS 0 rfl rfl 0 (by decide) (hg _ kw_158) (fun _ h9 => h9) rfl hin rfl (by decide +kernel) rfl rfl (Nat.le_of_ble_eq_true rfl) dX4_init_31 (fun H locs hP hD hS => ?_)
  have hP : va_P D vwCl [(h0, .inr (4, [.ref aq, .ref q_8, .ref q_17, .ref q_24, .long 0, .int 0, .int 0, .int 0, .int 0, .int 0])), (q_8, .inl (cA_8, 256, .inl (fun _ => 0))), (q_17, .inl (cA_17, 256, .inl (fun _ => 0))), (q_24, .inl (cA_24, 0, .inr (.inl (fun _ => 0))))] H := hP
  have hD : va_D A [(h0, .inr (4, [.ref aq, .ref q_8, .ref q_17, .ref q_24, .long 0, .int 0, .int 0, .int 0, .int 0, .int 0])), (q_8, .inl (cA_8, 256, .inl (fun _ => 0))), (q_17, .inl (cA_17, 256, .inl (fun _ => 0))), (q_24, .inl (cA_24, 0, .inr (.inl (fun _ => 0))))] := hD
  subst hQ
  refine W.widen (k := 3) (n := 512) (Nat.le_of_ble_eq_true rfl) (Nat.le_of_ble_eq_true rfl) ?_
  have hP9 := hP.sub (ws' := []) [] rfl
  have hD9 := hD.sub (ws' := []) [] (by decide) rfl
  have hK9 := hK.sub (tys' := []) [] rfl
  exact W.vret hx hb hr (fun t ht hW => ⟨⟨(), rfl, trivial, ⟨by rw [ht]; exact hP9, va_K.moved hW.alike hK9, hD9⟩⟩, hS.F ht⟩) hS.2.2 dX4_init_34

theorem dX0_init_0 : decode cX0_init 0 = .ok (.aload_n 0, 1) := by decide +kernel
theorem dX0_init_1 : decode cX0_init 1 = .ok (.invokespecial 5, 3) := by decide +kernel
theorem dX0_init_4 : decode cX0_init 4 = .ok (.aload_n 0, 1) := by decide +kernel
theorem dX0_init_5 : decode cX0_init 5 = .ok (.new 11, 3) := by decide +kernel
theorem dX0_init_8 : decode cX0_init 8 = .ok (.dup, 1) := by decide +kernel
theorem dX0_init_9 : decode cX0_init 9 = .ok (.invokespecial 13, 3) := by decide +kernel
theorem dX0_init_12 : decode cX0_init 12 = .ok (.putfield 14, 3) := by decide +kernel
theorem dX0_init_15 : decode cX0_init 15 = .ok (.aload_n 0, 1) := by decide +kernel
theorem dX0_init_16 : decode cX0_init 16 = .ok (.new 18, 3) := by decide +kernel
theorem dX0_init_19 : decode cX0_init 19 = .ok (.dup, 1) := by decide +kernel
theorem dX0_init_20 : decode cX0_init 20 = .ok (.invokespecial 20, 3) := by decide +kernel
theorem dX0_init_23 : decode cX0_init 23 = .ok (.putfield 21, 3) := by decide +kernel
theorem dX0_init_26 : decode cX0_init 26 = .ok (.aload_n 0, 1) := by decide +kernel
theorem dX0_init_27 : decode cX0_init 27 = .ok (.new 25, 3) := by decide +kernel
theorem dX0_init_30 : decode cX0_init 30 = .ok (.dup, 1) := by decide +kernel
theorem dX0_init_31 : decode cX0_init 31 = .ok (.invokespecial 27, 3) := by decide +kernel
theorem dX0_init_34 : decode cX0_init 34 = .ok (.putfield 28, 3) := by decide +kernel
theorem dX0_init_37 : decode cX0_init 37 = .ok (.aload_n 0, 1) := by decide +kernel
theorem dX0_init_38 : decode cX0_init 38 = .ok (.bipush 16, 2) := by decide +kernel
theorem dX0_init_40 : decode cX0_init 40 = .ok (.newarray .long, 2) := by decide +kernel
theorem dX0_init_42 : decode cX0_init 42 = .ok (.putfield 32, 3) := by decide +kernel
theorem dX0_init_45 : decode cX0_init 45 = .ok (.aload_n 0, 1) := by decide +kernel
theorem dX0_init_46 : decode cX0_init 46 = .ok (.iconst 4, 1) := by decide +kernel
theorem dX0_init_47 : decode cX0_init 47 = .ok (.bipush 12, 2) := by decide +kernel
theorem dX0_init_49 : decode cX0_init 49 = .ok (.multianewarray 36 2, 4) := by decide +kernel
theorem dX0_init_53 : decode cX0_init 53 = .ok (.putfield 38, 3) := by decide +kernel
theorem dX0_init_56 : decode cX0_init 56 = .ok (.aload_n 0, 1) := by decide +kernel
theorem dX0_init_57 : decode cX0_init 57 = .ok (.bipush 12, 2) := by decide +kernel
theorem dX0_init_59 : decode cX0_init 59 = .ok (.newarray .long, 2) := by decide +kernel
theorem dX0_init_61 : decode cX0_init 61 = .ok (.putfield 41, 3) := by decide +kernel
theorem dX0_init_64 : decode cX0_init 64 = .ok (.aload_n 0, 1) := by decide +kernel
theorem dX0_init_65 : decode cX0_init 65 = .ok (.iconst 4, 1) := by decide +kernel
theorem dX0_init_66 : decode cX0_init 66 = .ok (.newarray .long, 2) := by decide +kernel
theorem dX0_init_68 : decode cX0_init 68 = .ok (.putfield 44, 3) := by decide +kernel
theorem dX0_init_71 : decode cX0_init 71 = .ok (.aload_n 0, 1) := by decide +kernel
theorem dX0_init_72 : decode cX0_init 72 = .ok (.iconst 4, 1) := by decide +kernel
theorem dX0_init_73 : decode cX0_init 73 = .ok (.newarray .int, 2) := by decide +kernel
theorem dX0_init_75 : decode cX0_init 75 = .ok (.putfield 47, 3) := by decide +kernel
theorem dX0_init_78 : decode cX0_init 78 = .ok (.aload_n 0, 1) := by decide +kernel
theorem dX0_init_79 : decode cX0_init 79 = .ok (.iconst 4, 1) := by decide +kernel
theorem dX0_init_80 : decode cX0_init 80 = .ok (.newarray .int, 2) := by decide +kernel
theorem dX0_init_82 : decode cX0_init 82 = .ok (.putfield 51, 3) := by decide +kernel
theorem dX0_init_85 : decode cX0_init 85 = .ok (.aload_n 0, 1) := by decide +kernel
theorem dX0_init_86 : decode cX0_init 86 = .ok (.aload_n 1, 1) := by decide +kernel
theorem dX0_init_87 : decode cX0_init 87 = .ok (.putfield 54, 3) := by decide +kernel
theorem dX0_init_90 : decode cX0_init 90 = .ok (.return_, 1) := by decide +kernel
theorem kw_159 : (.methodLink RX0 5 objectInit : Cond) ∈ gw_tbl := gw_in (by decide +kernel) (by decide +kernel)
theorem kw_160 : (.classLink RX0 11 RX9 : Cond) ∈ gw_tbl := gw_in (by decide +kernel) (by decide +kernel)
theorem kw_161 : (.fieldLink RX0 14 "NobodyChecks$Cheapest" "same" "LNobodyChecks$Same;" : Cond) ∈ gw_tbl := gw_in (by decide +kernel) (by decide +kernel)
theorem kw_162 : (.classLink RX0 18 RX10 : Cond) ∈ gw_tbl := gw_in (by decide +kernel) (by decide +kernel)
theorem kw_163 : (.fieldLink RX0 21 "NobodyChecks$Cheapest" "table" "LNobodyChecks$Table;" : Cond) ∈ gw_tbl := gw_in (by decide +kernel) (by decide +kernel)
theorem kw_164 : (.classLink RX0 25 RX1 : Cond) ∈ gw_tbl := gw_in (by decide +kernel) (by decide +kernel)
theorem kw_165 : (.fieldLink RX0 28 "NobodyChecks$Cheapest" "check" "LNobodyChecks$Check;" : Cond) ∈ gw_tbl := gw_in (by decide +kernel) (by decide +kernel)
theorem kw_166 : (.fieldLink RX0 32 "NobodyChecks$Cheapest" "changedMass" "[J" : Cond) ∈ gw_tbl := gw_in (by decide +kernel) (by decide +kernel)
theorem kw_167 : (.classLink RX0 36 "[[J" : Cond) ∈ gw_tbl := gw_in (by decide +kernel) (by decide +kernel)
theorem kw_168 : (.fieldLink RX0 38 "NobodyChecks$Cheapest" "leads" "[[J" : Cond) ∈ gw_tbl := gw_in (by decide +kernel) (by decide +kernel)
theorem kw_169 : (.fieldLink RX0 41 "NobodyChecks$Cheapest" "needs" "[J" : Cond) ∈ gw_tbl := gw_in (by decide +kernel) (by decide +kernel)
theorem kw_170 : (.fieldLink RX0 44 "NobodyChecks$Cheapest" "prices" "[J" : Cond) ∈ gw_tbl := gw_in (by decide +kernel) (by decide +kernel)
theorem kw_171 : (.fieldLink RX0 47 "NobodyChecks$Cheapest" "tried" "[I" : Cond) ∈ gw_tbl := gw_in (by decide +kernel) (by decide +kernel)
theorem kw_172 : (.fieldLink RX0 51 "NobodyChecks$Cheapest" "leastNumbers" "[I" : Cond) ∈ gw_tbl := gw_in (by decide +kernel) (by decide +kernel)
theorem kw_173 : (.fieldLink RX0 54 "NobodyChecks$Cheapest" "asked" "LNobodyChecks$Question;" : Cond) ∈ gw_tbl := gw_in (by decide +kernel) (by decide +kernel)

set_option maxHeartbeats 4000000 in
set_option maxRecDepth 100000 in
theorem i_cheapest (l : Launch) (D : va_G) (h0 : Nat) (aq : Nat) (sz : Nat) : Met l yX0_init (Cond.code yX0_init cX0_init 2 none :: gw_tbl) ({ frames := 4, cells := 16, slots := 113, locals := 72 }) (pc_C D [] [(h0, .inr (0, [.null, .null, .null, .null, .null, .null, .null, .null, .null, .null, .int 0, .long 0]))] sz [.ref h0, .ref aq]) (va_Qv (fun (u : Unit) => True) (fun _ t => va_P D vwCl [] t.heap ∧ va_K D vwCl [] t ∧ va_D (va_A [(h0, .inr (0, [.null, .null, .null, .null, .null, .null, .null, .null, .null, .null, .int 0, .long 0]))] sz) []) (va_A [(h0, .inr (0, [.null, .null, .null, .null, .null, .null, .null, .null, .null, .null, .int 0, .long 0]))] sz)) 16 113 (va_A [(h0, .inr (0, [.null, .null, .null, .null, .null, .null, .null, .null, .null, .null, .int 0, .long 0]))] sz) := by
  refine Met.ofW (cc := cX0_init) (maxL := 2) (ret := none) (by decide) rfl ?_
  intro p e s m args below meth c s₁ B hml hv
  obtain ⟨hargs, hsz, hP, hK, hD0, hN⟩ := hv
  have hx := B.exec
  have hb := B.bytes
  have hr := B.returns
  have hts := atoms_spec (ws := Cond.code yX0_init cX0_init 2 none :: gw_tbl) B.pre
  have hg := fun (w : Cond) (h : w ∈ gw_tbl) => hts w (List.mem_cons_of_mem _ h)
  have hown : s.vm.findClass RX0 = some m.cls := findClass_of_methodNamed B.named
  have hlocks := B.notSynchronized
  have hin : meth.name = "<init>" := (name_of_methodNamed B.named B.method).1
  subst hsz
  have hD := hD0.self (sz := s.heap.size)
  generalize hAe : va_A [(h0, .inr (0, [.null, .null, .null, .null, .null, .null, .null, .null, .null, .null, .int 0, .long 0]))] s.heap.size = A at hD ⊢
  have hA : ∀ q : Nat, s.heap.size ≤ q → A q := fun q h => by rw [← hAe]; exact Or.inr h
  have hS : va_S A s.heap s.heap [] := va_S.rf
  have hP : va_P D vwCl [(h0, .inr (0, [.null, .null, .null, .null, .null, .null, .null, .null, .null, .null, .int 0, .long 0]))] s.heap := hP
  have hl := lv_entry ([.ref h0, .ref aq]) (n := 2) (Nat.le_of_ble_eq_true rfl)
  rw [show entryFrame m args 2 = F0 m 0 (lg_sl ([.ref h0, .ref aq]) ++ List.replicate (2 - (lg_sl ([.ref h0, .ref aq])).length) Slot.unset).toArray [] from by rw [hargs]; exact lg_entry_eq ..]
  generalize (lg_sl ([.ref h0, .ref aq]) ++ List.replicate (2 - (lg_sl ([.ref h0, .ref aq])).length) Slot.unset).toArray = ls at hl ⊢
  have hl : lv_has ls 2 [(0, .ref h0), (1, .ref aq)] := hl
  refine W_genQ (fun Q hQ => ?_)
  refine lv_aload_n hx hb dX0_init_0 rfl (lv_at hl 0 rfl) ?_
  refine W.objInit hx hb hown (hg _ kw_159) (hg _ kw_94) (hg _ kw_95) rfl (by rw [hml]; exact hl.1) rfl dX0_init_1 (Nat.le_of_ble_eq_true rfl) (Nat.le_of_ble_eq_true rfl) ?_
  refine W.eq (g2 := F0 m 4 ls []) rfl ?_
  refine lv_aload_n hx hb dX0_init_4 rfl (lv_at hl 0 rfl) ?_
  refine va_new (ci := 9) (fs := [.null, .null, .int 0]) (C := RX9) (T := TX9) (N := 3) hx hb hg gwX9 tyX9 tyX9_ok hown (hg _ kw_160) (hg _ kw_110) (hg _ kw_102) hK hP hD hS hA rfl (by decide +kernel) (Nat.le_of_ble_eq_true rfl) (Nat.le_of_ble_eq_true rfl) dX0_init_5 (fun q_5 H hP hD hS => ?_)
  have hP : va_P D vwCl [(h0, .inr (0, [.null, .null, .null, .null, .null, .null, .null, .null, .null, .null, .int 0, .long 0])), (q_5, .inr (9, [.null, .null, .int 0]))] H := hP
  have hD : va_D A [(h0, .inr (0, [.null, .null, .null, .null, .null, .null, .null, .null, .null, .null, .int 0, .long 0])), (q_5, .inr (9, [.null, .null, .int 0]))] := hD
  refine W.cs (cells' := 1) (slots' := 3) rfl rfl ?_
  refine lv_dup hx hb dX0_init_8 rfl ?_
  have hPc := hP.sub (ws' := [(q_5, .inr (9, [.null, .null, .int 0]))]) [1] rfl
  have hKc := hK.sub (tys' := []) [] rfl
  have hDc := hD.sub (ws' := [(q_5, .inr (9, [.null, .null, .int 0]))]) [1] (by decide) rfl
  have hFc := va_free (wc := [(q_5, .inr (9, [.null, .null, .int 0]))]) hD hS hA [1] rfl
  refine va_callv (va_runIN (As := []) (rest := [.ref q_5, .ref h0]) ⟨hx, hb, hml, hown, hg⟩ (i_X9_9 l D q_5 _) ⟨va_cnB 0 hg (gw_I kw_101) rfl rfl rfl (hN.1 (RX0, 13, yX9_init) (by decide +kernel)) (hg _ kw_102) (by decide +kernel) ⟨Nat.le_of_ble_eq_true rfl, Nat.le_of_ble_eq_true rfl⟩, rfl, hg _ kw_103⟩ (pr_C hKc hPc hDc hN) rfl rfl hl.1 rfl (lv_room (Nat.le_of_ble_eq_true rfl)) dX0_init_9 ⟨Nat.le_of_ble_eq_true rfl, Nat.le_of_ble_eq_true rfl⟩) hS (fun q _ h => hFc q h) hFc (fun u t H1 locs ht hvm h_9 hB hz1 hk1 hS => ?_)
  obtain ⟨nq_9, cQ_9, hP1, hK1, hD1⟩ := hB
  rw [ht] at hP1
  have hK1 := va_K.moved hvm.symm hK1
  obtain ⟨hP, hD⟩ := va_join (wr := [(h0, .inr (0, [.null, .null, .null, .null, .null, .null, .null, .null, .null, .null, .int 0, .long 0]))]) (w1 := [(q_5, .inr (9, [.ref nq_9, .null, .int 0])), (nq_9, .inl (cQ_9, 4, .inl (fun _ => 0)))]) hP hD [1] [0] rfl rfl (by decide) (by decide) hk1 hFc hP1 hD1
  have hK := hK.app hK1
  generalize H1 = H at hP hS ⊢
  have hP : va_P D vwCl [(h0, .inr (0, [.null, .null, .null, .null, .null, .null, .null, .null, .null, .null, .int 0, .long 0])), (q_5, .inr (9, [.ref nq_9, .null, .int 0])), (nq_9, .inl (cQ_9, 4, .inl (fun _ => 0)))] H := hP
  have hD : va_D A [(h0, .inr (0, [.null, .null, .null, .null, .null, .null, .null, .null, .null, .null, .int 0, .long 0])), (q_5, .inr (9, [.ref nq_9, .null, .int 0])), (nq_9, .inl (cQ_9, 4, .inl (fun _ => 0)))] := hD
  have hK : va_K D vwCl [(cQ_9, .int)] s := hK
  refine W.cs (cells' := 2) (slots' := 7) rfl rfl ?_
  try dsimp only at h_9
  refine va_putF (D := D) (ci := 0) (v := .ref q_5) (ty := .object "NobodyChecks$Same") (C := RX0) (T := TX0) (N := 12) hx hb hg gwX0 tyX0 tyX0_ok nmX0 hown hK hP hD hS 0 rfl rfl 1 (by decide) (hg _ kw_161) (fun _ h9 => h9) rfl hin rfl (by decide +kernel) rfl rfl (Nat.le_of_ble_eq_true rfl) dX0_init_12 (fun H locs hP hD hS => ?_)
  have hP : va_P D vwCl [(h0, .inr (0, [.null, .ref q_5, .null, .null, .null, .null, .null, .null, .null, .null, .int 0, .long 0])), (q_5, .inr (9, [.ref nq_9, .null, .int 0])), (nq_9, .inl (cQ_9, 4, .inl (fun _ => 0)))] H := hP
  have hD : va_D A [(h0, .inr (0, [.null, .ref q_5, .null, .null, .null, .null, .null, .null, .null, .null, .int 0, .long 0])), (q_5, .inr (9, [.ref nq_9, .null, .int 0])), (nq_9, .inl (cQ_9, 4, .inl (fun _ => 0)))] := hD
  refine lv_aload_n hx hb dX0_init_15 rfl (lv_at hl 0 rfl) ?_
  refine va_new (ci := 10) (fs := [.null, .null, .int 0]) (C := RX10) (T := TX10) (N := 3) hx hb hg gwX10 tyX10 tyX10_ok hown (hg _ kw_162) (hg _ kw_112) (hg _ kw_105) hK hP hD hS hA rfl (by decide +kernel) (Nat.le_of_ble_eq_true rfl) (Nat.le_of_ble_eq_true rfl) dX0_init_16 (fun q_16 H hP hD hS => ?_)
  have hP : va_P D vwCl [(h0, .inr (0, [.null, .ref q_5, .null, .null, .null, .null, .null, .null, .null, .null, .int 0, .long 0])), (q_5, .inr (9, [.ref nq_9, .null, .int 0])), (nq_9, .inl (cQ_9, 4, .inl (fun _ => 0))), (q_16, .inr (10, [.null, .null, .int 0]))] H := hP
  have hD : va_D A [(h0, .inr (0, [.null, .ref q_5, .null, .null, .null, .null, .null, .null, .null, .null, .int 0, .long 0])), (q_5, .inr (9, [.ref nq_9, .null, .int 0])), (nq_9, .inl (cQ_9, 4, .inl (fun _ => 0))), (q_16, .inr (10, [.null, .null, .int 0]))] := hD
  refine W.cs (cells' := 3) (slots' := 10) rfl rfl ?_
  refine lv_dup hx hb dX0_init_19 rfl ?_
  have hPc := hP.sub (ws' := [(q_16, .inr (10, [.null, .null, .int 0]))]) [3] rfl
  have hKc := hK.sub (tys' := []) [] rfl
  have hDc := hD.sub (ws' := [(q_16, .inr (10, [.null, .null, .int 0]))]) [3] (by decide) rfl
  have hFc := va_free (wc := [(q_16, .inr (10, [.null, .null, .int 0]))]) hD hS hA [3] rfl
  refine va_callv (va_runIN (As := []) (rest := [.ref q_16, .ref h0]) ⟨hx, hb, hml, hown, hg⟩ (i_X10_10 l D q_16 _) ⟨va_cnB 0 hg (gw_I kw_104) rfl rfl rfl (hN.1 (RX0, 20, yX10_init) (by decide +kernel)) (hg _ kw_105) (by decide +kernel) ⟨Nat.le_of_ble_eq_true rfl, Nat.le_of_ble_eq_true rfl⟩, rfl, hg _ kw_106⟩ (pr_C hKc hPc hDc hN) rfl rfl hl.1 rfl (lv_room (Nat.le_of_ble_eq_true rfl)) dX0_init_20 ⟨Nat.le_of_ble_eq_true rfl, Nat.le_of_ble_eq_true rfl⟩) hS (fun q _ h => hFc q h) hFc (fun u t H1 locs ht hvm h_20 hB hz1 hk1 hS => ?_)
  obtain ⟨nq_20, cQ_20, hP1, hK1, hD1⟩ := hB
  rw [ht] at hP1
  have hK1 := va_K.moved hvm.symm hK1
  obtain ⟨hP, hD⟩ := va_join (wr := [(h0, .inr (0, [.null, .ref q_5, .null, .null, .null, .null, .null, .null, .null, .null, .int 0, .long 0])), (q_5, .inr (9, [.ref nq_9, .null, .int 0])), (nq_9, .inl (cQ_9, 4, .inl (fun _ => 0)))]) (w1 := [(q_16, .inr (10, [.ref nq_20, .null, .int 0])), (nq_20, .inl (cQ_20, 4, .inl (fun _ => 0)))]) hP hD [3] [0, 1, 2] rfl rfl (by decide) (by decide) hk1 hFc hP1 hD1
  have hK := hK.app hK1
  generalize H1 = H at hP hS ⊢
  have hP : va_P D vwCl [(h0, .inr (0, [.null, .ref q_5, .null, .null, .null, .null, .null, .null, .null, .null, .int 0, .long 0])), (q_5, .inr (9, [.ref nq_9, .null, .int 0])), (nq_9, .inl (cQ_9, 4, .inl (fun _ => 0))), (q_16, .inr (10, [.ref nq_20, .null, .int 0])), (nq_20, .inl (cQ_20, 4, .inl (fun _ => 0)))] H := hP
  have hD : va_D A [(h0, .inr (0, [.null, .ref q_5, .null, .null, .null, .null, .null, .null, .null, .null, .int 0, .long 0])), (q_5, .inr (9, [.ref nq_9, .null, .int 0])), (nq_9, .inl (cQ_9, 4, .inl (fun _ => 0))), (q_16, .inr (10, [.ref nq_20, .null, .int 0])), (nq_20, .inl (cQ_20, 4, .inl (fun _ => 0)))] := hD
  have hK : va_K D vwCl [(cQ_9, .int), (cQ_20, .int)] s := hK
  refine W.cs (cells' := 4) (slots' := 14) rfl rfl ?_
  try dsimp only at h_20
  refine va_putF (D := D) (ci := 0) (v := .ref q_16) (ty := .object "NobodyChecks$Table") (C := RX0) (T := TX0) (N := 12) hx hb hg gwX0 tyX0 tyX0_ok nmX0 hown hK hP hD hS 0 rfl rfl 2 (by decide) (hg _ kw_163) (fun _ h9 => h9) rfl hin rfl (by decide +kernel) rfl rfl (Nat.le_of_ble_eq_true rfl) dX0_init_23 (fun H locs hP hD hS => ?_)
  have hP : va_P D vwCl [(h0, .inr (0, [.null, .ref q_5, .ref q_16, .null, .null, .null, .null, .null, .null, .null, .int 0, .long 0])), (q_5, .inr (9, [.ref nq_9, .null, .int 0])), (nq_9, .inl (cQ_9, 4, .inl (fun _ => 0))), (q_16, .inr (10, [.ref nq_20, .null, .int 0])), (nq_20, .inl (cQ_20, 4, .inl (fun _ => 0)))] H := hP
  have hD : va_D A [(h0, .inr (0, [.null, .ref q_5, .ref q_16, .null, .null, .null, .null, .null, .null, .null, .int 0, .long 0])), (q_5, .inr (9, [.ref nq_9, .null, .int 0])), (nq_9, .inl (cQ_9, 4, .inl (fun _ => 0))), (q_16, .inr (10, [.ref nq_20, .null, .int 0])), (nq_20, .inl (cQ_20, 4, .inl (fun _ => 0)))] := hD
  refine lv_aload_n hx hb dX0_init_26 rfl (lv_at hl 0 rfl) ?_
  refine va_new (ci := 1) (fs := [.null, .null, .int 0]) (C := RX1) (T := TX1) (N := 3) hx hb hg gwX1 tyX1 tyX1_ok hown (hg _ kw_164) (hg _ kw_119) (hg _ kw_120) hK hP hD hS hA rfl (by decide +kernel) (Nat.le_of_ble_eq_true rfl) (Nat.le_of_ble_eq_true rfl) dX0_init_27 (fun q_27 H hP hD hS => ?_)
  have hP : va_P D vwCl [(h0, .inr (0, [.null, .ref q_5, .ref q_16, .null, .null, .null, .null, .null, .null, .null, .int 0, .long 0])), (q_5, .inr (9, [.ref nq_9, .null, .int 0])), (nq_9, .inl (cQ_9, 4, .inl (fun _ => 0))), (q_16, .inr (10, [.ref nq_20, .null, .int 0])), (nq_20, .inl (cQ_20, 4, .inl (fun _ => 0))), (q_27, .inr (1, [.null, .null, .int 0]))] H := hP
  have hD : va_D A [(h0, .inr (0, [.null, .ref q_5, .ref q_16, .null, .null, .null, .null, .null, .null, .null, .int 0, .long 0])), (q_5, .inr (9, [.ref nq_9, .null, .int 0])), (nq_9, .inl (cQ_9, 4, .inl (fun _ => 0))), (q_16, .inr (10, [.ref nq_20, .null, .int 0])), (nq_20, .inl (cQ_20, 4, .inl (fun _ => 0))), (q_27, .inr (1, [.null, .null, .int 0]))] := hD
  refine W.cs (cells' := 5) (slots' := 17) rfl rfl ?_
  refine lv_dup hx hb dX0_init_30 rfl ?_
  have hPc := hP.sub (ws' := [(q_27, .inr (1, [.null, .null, .int 0]))]) [5] rfl
  have hKc := hK.sub (tys' := []) [] rfl
  have hDc := hD.sub (ws' := [(q_27, .inr (1, [.null, .null, .int 0]))]) [5] (by decide) rfl
  have hFc := va_free (wc := [(q_27, .inr (1, [.null, .null, .int 0]))]) hD hS hA [5] rfl
  refine va_callv (va_runIN (As := []) (rest := [.ref q_27, .ref h0]) ⟨hx, hb, hml, hown, hg⟩ (i_X1_1 l D q_27 _) ⟨va_cnB 0 hg (gw_I kw_121) rfl rfl rfl (hN.1 (RX0, 27, yX1_init) (by decide +kernel)) (hg _ kw_120) (by decide +kernel) ⟨Nat.le_of_ble_eq_true rfl, Nat.le_of_ble_eq_true rfl⟩, rfl, hg _ kw_122⟩ (pr_C hKc hPc hDc hN) rfl rfl hl.1 rfl (lv_room (Nat.le_of_ble_eq_true rfl)) dX0_init_31 ⟨Nat.le_of_ble_eq_true rfl, Nat.le_of_ble_eq_true rfl⟩) hS (fun q _ h => hFc q h) hFc (fun u t H1 locs ht hvm h_31 hB hz1 hk1 hS => ?_)
  obtain ⟨nq_31, cQ_31, hP1, hK1, hD1⟩ := hB
  rw [ht] at hP1
  have hK1 := va_K.moved hvm.symm hK1
  obtain ⟨hP, hD⟩ := va_join (wr := [(h0, .inr (0, [.null, .ref q_5, .ref q_16, .null, .null, .null, .null, .null, .null, .null, .int 0, .long 0])), (q_5, .inr (9, [.ref nq_9, .null, .int 0])), (nq_9, .inl (cQ_9, 4, .inl (fun _ => 0))), (q_16, .inr (10, [.ref nq_20, .null, .int 0])), (nq_20, .inl (cQ_20, 4, .inl (fun _ => 0)))]) (w1 := [(q_27, .inr (1, [.ref nq_31, .null, .int 0])), (nq_31, .inl (cQ_31, 4, .inl (fun _ => 0)))]) hP hD [5] [0, 1, 2, 3, 4] rfl rfl (by decide) (by decide) hk1 hFc hP1 hD1
  have hK := hK.app hK1
  generalize H1 = H at hP hS ⊢
  have hP : va_P D vwCl [(h0, .inr (0, [.null, .ref q_5, .ref q_16, .null, .null, .null, .null, .null, .null, .null, .int 0, .long 0])), (q_5, .inr (9, [.ref nq_9, .null, .int 0])), (nq_9, .inl (cQ_9, 4, .inl (fun _ => 0))), (q_16, .inr (10, [.ref nq_20, .null, .int 0])), (nq_20, .inl (cQ_20, 4, .inl (fun _ => 0))), (q_27, .inr (1, [.ref nq_31, .null, .int 0])), (nq_31, .inl (cQ_31, 4, .inl (fun _ => 0)))] H := hP
  have hD : va_D A [(h0, .inr (0, [.null, .ref q_5, .ref q_16, .null, .null, .null, .null, .null, .null, .null, .int 0, .long 0])), (q_5, .inr (9, [.ref nq_9, .null, .int 0])), (nq_9, .inl (cQ_9, 4, .inl (fun _ => 0))), (q_16, .inr (10, [.ref nq_20, .null, .int 0])), (nq_20, .inl (cQ_20, 4, .inl (fun _ => 0))), (q_27, .inr (1, [.ref nq_31, .null, .int 0])), (nq_31, .inl (cQ_31, 4, .inl (fun _ => 0)))] := hD
  have hK : va_K D vwCl [(cQ_9, .int), (cQ_20, .int), (cQ_31, .int)] s := hK
  refine W.cs (cells' := 6) (slots' := 21) rfl rfl ?_
  try dsimp only at h_31
  refine va_putF (D := D) (ci := 0) (v := .ref q_27) (ty := .object "NobodyChecks$Check") (C := RX0) (T := TX0) (N := 12) hx hb hg gwX0 tyX0 tyX0_ok nmX0 hown hK hP hD hS 0 rfl rfl 3 (by decide) (hg _ kw_165) (fun _ h9 => h9) rfl hin rfl (by decide +kernel) rfl rfl (Nat.le_of_ble_eq_true rfl) dX0_init_34 (fun H locs hP hD hS => ?_)
  have hP : va_P D vwCl [(h0, .inr (0, [.null, .ref q_5, .ref q_16, .ref q_27, .null, .null, .null, .null, .null, .null, .int 0, .long 0])), (q_5, .inr (9, [.ref nq_9, .null, .int 0])), (nq_9, .inl (cQ_9, 4, .inl (fun _ => 0))), (q_16, .inr (10, [.ref nq_20, .null, .int 0])), (nq_20, .inl (cQ_20, 4, .inl (fun _ => 0))), (q_27, .inr (1, [.ref nq_31, .null, .int 0])), (nq_31, .inl (cQ_31, 4, .inl (fun _ => 0)))] H := hP
  have hD : va_D A [(h0, .inr (0, [.null, .ref q_5, .ref q_16, .ref q_27, .null, .null, .null, .null, .null, .null, .int 0, .long 0])), (q_5, .inr (9, [.ref nq_9, .null, .int 0])), (nq_9, .inl (cQ_9, 4, .inl (fun _ => 0))), (q_16, .inr (10, [.ref nq_20, .null, .int 0])), (nq_20, .inl (cQ_20, 4, .inl (fun _ => 0))), (q_27, .inr (1, [.ref nq_31, .null, .int 0])), (nq_31, .inl (cQ_31, 4, .inl (fun _ => 0)))] := hD
  refine lv_aload_n hx hb dX0_init_37 rfl (lv_at hl 0 rfl) ?_
  refine lv_bipush (v := 16) hx hb dX0_init_38 (by decide) ?_
  refine va_newa (atype := .long) (ty := .long) (N' := 16) (a0 := (16, .inr (.inl (fun _ => 0)))) hx hb (hg _ kw_149) rfl hK hP hD hS hA (fun _ => rfl) (by decide) (by decide) (by decide) (Nat.le_of_ble_eq_true rfl) (Nat.le_of_ble_eq_true rfl) dX0_init_40 (fun q_40 cA_40 H hK hP hD hS => ?_)
  have hP : va_P D vwCl [(h0, .inr (0, [.null, .ref q_5, .ref q_16, .ref q_27, .null, .null, .null, .null, .null, .null, .int 0, .long 0])), (q_5, .inr (9, [.ref nq_9, .null, .int 0])), (nq_9, .inl (cQ_9, 4, .inl (fun _ => 0))), (q_16, .inr (10, [.ref nq_20, .null, .int 0])), (nq_20, .inl (cQ_20, 4, .inl (fun _ => 0))), (q_27, .inr (1, [.ref nq_31, .null, .int 0])), (nq_31, .inl (cQ_31, 4, .inl (fun _ => 0))), (q_40, .inl (cA_40, 16, .inr (.inl (fun _ => 0))))] H := hP
  have hD : va_D A [(h0, .inr (0, [.null, .ref q_5, .ref q_16, .ref q_27, .null, .null, .null, .null, .null, .null, .int 0, .long 0])), (q_5, .inr (9, [.ref nq_9, .null, .int 0])), (nq_9, .inl (cQ_9, 4, .inl (fun _ => 0))), (q_16, .inr (10, [.ref nq_20, .null, .int 0])), (nq_20, .inl (cQ_20, 4, .inl (fun _ => 0))), (q_27, .inr (1, [.ref nq_31, .null, .int 0])), (nq_31, .inl (cQ_31, 4, .inl (fun _ => 0))), (q_40, .inl (cA_40, 16, .inr (.inl (fun _ => 0))))] := hD
  have hK : va_K D vwCl [(cQ_9, .int), (cQ_20, .int), (cQ_31, .int), (cA_40, .long)] s := hK
  refine W.cs (cells' := 7) (slots' := 37) rfl rfl ?_
  refine va_putF (D := D) (ci := 0) (v := .ref q_40) (ty := .array .long) (C := RX0) (T := TX0) (N := 12) hx hb hg gwX0 tyX0 tyX0_ok nmX0 hown hK hP hD hS 0 rfl rfl 4 (by decide) (hg _ kw_166) (fun _ h9 => h9) rfl hin rfl (by decide +kernel) rfl rfl (Nat.le_of_ble_eq_true rfl) dX0_init_42 (fun H locs hP hD hS => ?_)
  have hP : va_P D vwCl [(h0, .inr (0, [.null, .ref q_5, .ref q_16, .ref q_27, .ref q_40, .null, .null, .null, .null, .null, .int 0, .long 0])), (q_5, .inr (9, [.ref nq_9, .null, .int 0])), (nq_9, .inl (cQ_9, 4, .inl (fun _ => 0))), (q_16, .inr (10, [.ref nq_20, .null, .int 0])), (nq_20, .inl (cQ_20, 4, .inl (fun _ => 0))), (q_27, .inr (1, [.ref nq_31, .null, .int 0])), (nq_31, .inl (cQ_31, 4, .inl (fun _ => 0))), (q_40, .inl (cA_40, 16, .inr (.inl (fun _ => 0))))] H := hP
  have hD : va_D A [(h0, .inr (0, [.null, .ref q_5, .ref q_16, .ref q_27, .ref q_40, .null, .null, .null, .null, .null, .int 0, .long 0])), (q_5, .inr (9, [.ref nq_9, .null, .int 0])), (nq_9, .inl (cQ_9, 4, .inl (fun _ => 0))), (q_16, .inr (10, [.ref nq_20, .null, .int 0])), (nq_20, .inl (cQ_20, 4, .inl (fun _ => 0))), (q_27, .inr (1, [.ref nq_31, .null, .int 0])), (nq_31, .inl (cQ_31, 4, .inl (fun _ => 0))), (q_40, .inl (cA_40, 16, .inr (.inl (fun _ => 0))))] := hD
  refine lv_aload_n hx hb dX0_init_45 rfl (lv_at hl 0 rfl) ?_
  refine lv_iconst (v := 4) hx hb dX0_init_46 (by decide) ?_
  refine lv_bipush (v := 12) hx hb dX0_init_47 (by decide) ?_
  refine mm_mna (ty := .long) (N' := 4) (K' := 12) hx hb hown (hg _ kw_167) hN.2.2.2.1 (hg _ kw_149) hP hS (by decide) (by decide) (by decide) (by decide) (by decide) (by decide) (by decide) rfl rfl (Nat.le_of_ble_eq_true rfl) (Nat.le_of_ble_eq_true rfl) dX0_init_49 (fun q_49 H hP hS => ?_)
  refine W.cs (cells' := 12) (slots' := 89) rfl rfl ?_
  refine va_putF (D := D) (ci := 0) (v := .ref q_49) (ty := .array (.array .long)) (C := RX0) (T := TX0) (N := 12) hx hb hg gwX0 tyX0 tyX0_ok nmX0 hown hK hP hD hS 0 rfl rfl 5 (by decide) (hg _ kw_168) (fun _ h9 => h9) rfl hin rfl (by decide +kernel) rfl rfl (Nat.le_of_ble_eq_true rfl) dX0_init_53 (fun H locs hP hD hS => ?_)
  have hP : va_P D vwCl [(h0, .inr (0, [.null, .ref q_5, .ref q_16, .ref q_27, .ref q_40, .ref q_49, .null, .null, .null, .null, .int 0, .long 0])), (q_5, .inr (9, [.ref nq_9, .null, .int 0])), (nq_9, .inl (cQ_9, 4, .inl (fun _ => 0))), (q_16, .inr (10, [.ref nq_20, .null, .int 0])), (nq_20, .inl (cQ_20, 4, .inl (fun _ => 0))), (q_27, .inr (1, [.ref nq_31, .null, .int 0])), (nq_31, .inl (cQ_31, 4, .inl (fun _ => 0))), (q_40, .inl (cA_40, 16, .inr (.inl (fun _ => 0))))] H := hP
  have hD : va_D A [(h0, .inr (0, [.null, .ref q_5, .ref q_16, .ref q_27, .ref q_40, .ref q_49, .null, .null, .null, .null, .int 0, .long 0])), (q_5, .inr (9, [.ref nq_9, .null, .int 0])), (nq_9, .inl (cQ_9, 4, .inl (fun _ => 0))), (q_16, .inr (10, [.ref nq_20, .null, .int 0])), (nq_20, .inl (cQ_20, 4, .inl (fun _ => 0))), (q_27, .inr (1, [.ref nq_31, .null, .int 0])), (nq_31, .inl (cQ_31, 4, .inl (fun _ => 0))), (q_40, .inl (cA_40, 16, .inr (.inl (fun _ => 0))))] := hD
  refine lv_aload_n hx hb dX0_init_56 rfl (lv_at hl 0 rfl) ?_
  refine lv_bipush (v := 12) hx hb dX0_init_57 (by decide) ?_
  refine va_newa (atype := .long) (ty := .long) (N' := 12) (a0 := (12, .inr (.inl (fun _ => 0)))) hx hb (hg _ kw_149) rfl hK hP hD hS hA (fun _ => rfl) (by decide) (by decide) (by decide) (Nat.le_of_ble_eq_true rfl) (Nat.le_of_ble_eq_true rfl) dX0_init_59 (fun q_59 cA_59 H hK hP hD hS => ?_)
  have hP : va_P D vwCl [(h0, .inr (0, [.null, .ref q_5, .ref q_16, .ref q_27, .ref q_40, .ref q_49, .null, .null, .null, .null, .int 0, .long 0])), (q_5, .inr (9, [.ref nq_9, .null, .int 0])), (nq_9, .inl (cQ_9, 4, .inl (fun _ => 0))), (q_16, .inr (10, [.ref nq_20, .null, .int 0])), (nq_20, .inl (cQ_20, 4, .inl (fun _ => 0))), (q_27, .inr (1, [.ref nq_31, .null, .int 0])), (nq_31, .inl (cQ_31, 4, .inl (fun _ => 0))), (q_40, .inl (cA_40, 16, .inr (.inl (fun _ => 0)))), (q_59, .inl (cA_59, 12, .inr (.inl (fun _ => 0))))] H := hP
  have hD : va_D A [(h0, .inr (0, [.null, .ref q_5, .ref q_16, .ref q_27, .ref q_40, .ref q_49, .null, .null, .null, .null, .int 0, .long 0])), (q_5, .inr (9, [.ref nq_9, .null, .int 0])), (nq_9, .inl (cQ_9, 4, .inl (fun _ => 0))), (q_16, .inr (10, [.ref nq_20, .null, .int 0])), (nq_20, .inl (cQ_20, 4, .inl (fun _ => 0))), (q_27, .inr (1, [.ref nq_31, .null, .int 0])), (nq_31, .inl (cQ_31, 4, .inl (fun _ => 0))), (q_40, .inl (cA_40, 16, .inr (.inl (fun _ => 0)))), (q_59, .inl (cA_59, 12, .inr (.inl (fun _ => 0))))] := hD
  have hK : va_K D vwCl [(cQ_9, .int), (cQ_20, .int), (cQ_31, .int), (cA_40, .long), (cA_59, .long)] s := hK
  refine W.cs (cells' := 13) (slots' := 101) rfl rfl ?_
  refine va_putF (D := D) (ci := 0) (v := .ref q_59) (ty := .array .long) (C := RX0) (T := TX0) (N := 12) hx hb hg gwX0 tyX0 tyX0_ok nmX0 hown hK hP hD hS 0 rfl rfl 6 (by decide) (hg _ kw_169) (fun _ h9 => h9) rfl hin rfl (by decide +kernel) rfl rfl (Nat.le_of_ble_eq_true rfl) dX0_init_61 (fun H locs hP hD hS => ?_)
  have hP : va_P D vwCl [(h0, .inr (0, [.null, .ref q_5, .ref q_16, .ref q_27, .ref q_40, .ref q_49, .ref q_59, .null, .null, .null, .int 0, .long 0])), (q_5, .inr (9, [.ref nq_9, .null, .int 0])), (nq_9, .inl (cQ_9, 4, .inl (fun _ => 0))), (q_16, .inr (10, [.ref nq_20, .null, .int 0])), (nq_20, .inl (cQ_20, 4, .inl (fun _ => 0))), (q_27, .inr (1, [.ref nq_31, .null, .int 0])), (nq_31, .inl (cQ_31, 4, .inl (fun _ => 0))), (q_40, .inl (cA_40, 16, .inr (.inl (fun _ => 0)))), (q_59, .inl (cA_59, 12, .inr (.inl (fun _ => 0))))] H := hP
  have hD : va_D A [(h0, .inr (0, [.null, .ref q_5, .ref q_16, .ref q_27, .ref q_40, .ref q_49, .ref q_59, .null, .null, .null, .int 0, .long 0])), (q_5, .inr (9, [.ref nq_9, .null, .int 0])), (nq_9, .inl (cQ_9, 4, .inl (fun _ => 0))), (q_16, .inr (10, [.ref nq_20, .null, .int 0])), (nq_20, .inl (cQ_20, 4, .inl (fun _ => 0))), (q_27, .inr (1, [.ref nq_31, .null, .int 0])), (nq_31, .inl (cQ_31, 4, .inl (fun _ => 0))), (q_40, .inl (cA_40, 16, .inr (.inl (fun _ => 0)))), (q_59, .inl (cA_59, 12, .inr (.inl (fun _ => 0))))] := hD
  refine lv_aload_n hx hb dX0_init_64 rfl (lv_at hl 0 rfl) ?_
  refine lv_iconst (v := 4) hx hb dX0_init_65 (by decide) ?_
  refine va_newa (atype := .long) (ty := .long) (N' := 4) (a0 := (4, .inr (.inl (fun _ => 0)))) hx hb (hg _ kw_149) rfl hK hP hD hS hA (fun _ => rfl) (by decide) (by decide) (by decide) (Nat.le_of_ble_eq_true rfl) (Nat.le_of_ble_eq_true rfl) dX0_init_66 (fun q_66 cA_66 H hK hP hD hS => ?_)
  have hP : va_P D vwCl [(h0, .inr (0, [.null, .ref q_5, .ref q_16, .ref q_27, .ref q_40, .ref q_49, .ref q_59, .null, .null, .null, .int 0, .long 0])), (q_5, .inr (9, [.ref nq_9, .null, .int 0])), (nq_9, .inl (cQ_9, 4, .inl (fun _ => 0))), (q_16, .inr (10, [.ref nq_20, .null, .int 0])), (nq_20, .inl (cQ_20, 4, .inl (fun _ => 0))), (q_27, .inr (1, [.ref nq_31, .null, .int 0])), (nq_31, .inl (cQ_31, 4, .inl (fun _ => 0))), (q_40, .inl (cA_40, 16, .inr (.inl (fun _ => 0)))), (q_59, .inl (cA_59, 12, .inr (.inl (fun _ => 0)))), (q_66, .inl (cA_66, 4, .inr (.inl (fun _ => 0))))] H := hP
  have hD : va_D A [(h0, .inr (0, [.null, .ref q_5, .ref q_16, .ref q_27, .ref q_40, .ref q_49, .ref q_59, .null, .null, .null, .int 0, .long 0])), (q_5, .inr (9, [.ref nq_9, .null, .int 0])), (nq_9, .inl (cQ_9, 4, .inl (fun _ => 0))), (q_16, .inr (10, [.ref nq_20, .null, .int 0])), (nq_20, .inl (cQ_20, 4, .inl (fun _ => 0))), (q_27, .inr (1, [.ref nq_31, .null, .int 0])), (nq_31, .inl (cQ_31, 4, .inl (fun _ => 0))), (q_40, .inl (cA_40, 16, .inr (.inl (fun _ => 0)))), (q_59, .inl (cA_59, 12, .inr (.inl (fun _ => 0)))), (q_66, .inl (cA_66, 4, .inr (.inl (fun _ => 0))))] := hD
  have hK : va_K D vwCl [(cQ_9, .int), (cQ_20, .int), (cQ_31, .int), (cA_40, .long), (cA_59, .long), (cA_66, .long)] s := hK
  refine W.cs (cells' := 14) (slots' := 105) rfl rfl ?_
  refine va_putF (D := D) (ci := 0) (v := .ref q_66) (ty := .array .long) (C := RX0) (T := TX0) (N := 12) hx hb hg gwX0 tyX0 tyX0_ok nmX0 hown hK hP hD hS 0 rfl rfl 7 (by decide) (hg _ kw_170) (fun _ h9 => h9) rfl hin rfl (by decide +kernel) rfl rfl (Nat.le_of_ble_eq_true rfl) dX0_init_68 (fun H locs hP hD hS => ?_)
  have hP : va_P D vwCl [(h0, .inr (0, [.null, .ref q_5, .ref q_16, .ref q_27, .ref q_40, .ref q_49, .ref q_59, .ref q_66, .null, .null, .int 0, .long 0])), (q_5, .inr (9, [.ref nq_9, .null, .int 0])), (nq_9, .inl (cQ_9, 4, .inl (fun _ => 0))), (q_16, .inr (10, [.ref nq_20, .null, .int 0])), (nq_20, .inl (cQ_20, 4, .inl (fun _ => 0))), (q_27, .inr (1, [.ref nq_31, .null, .int 0])), (nq_31, .inl (cQ_31, 4, .inl (fun _ => 0))), (q_40, .inl (cA_40, 16, .inr (.inl (fun _ => 0)))), (q_59, .inl (cA_59, 12, .inr (.inl (fun _ => 0)))), (q_66, .inl (cA_66, 4, .inr (.inl (fun _ => 0))))] H := hP
  have hD : va_D A [(h0, .inr (0, [.null, .ref q_5, .ref q_16, .ref q_27, .ref q_40, .ref q_49, .ref q_59, .ref q_66, .null, .null, .int 0, .long 0])), (q_5, .inr (9, [.ref nq_9, .null, .int 0])), (nq_9, .inl (cQ_9, 4, .inl (fun _ => 0))), (q_16, .inr (10, [.ref nq_20, .null, .int 0])), (nq_20, .inl (cQ_20, 4, .inl (fun _ => 0))), (q_27, .inr (1, [.ref nq_31, .null, .int 0])), (nq_31, .inl (cQ_31, 4, .inl (fun _ => 0))), (q_40, .inl (cA_40, 16, .inr (.inl (fun _ => 0)))), (q_59, .inl (cA_59, 12, .inr (.inl (fun _ => 0)))), (q_66, .inl (cA_66, 4, .inr (.inl (fun _ => 0))))] := hD
  refine lv_aload_n hx hb dX0_init_71 rfl (lv_at hl 0 rfl) ?_
  refine lv_iconst (v := 4) hx hb dX0_init_72 (by decide) ?_
  refine va_newa (atype := .int) (ty := .int) (N' := 4) (a0 := (4, .inl (fun _ => 0))) hx hb (hg _ kw_96) rfl hK hP hD hS hA (fun _ => rfl) (by decide) (by decide) (by decide) (Nat.le_of_ble_eq_true rfl) (Nat.le_of_ble_eq_true rfl) dX0_init_73 (fun q_73 cA_73 H hK hP hD hS => ?_)
  have hP : va_P D vwCl [(h0, .inr (0, [.null, .ref q_5, .ref q_16, .ref q_27, .ref q_40, .ref q_49, .ref q_59, .ref q_66, .null, .null, .int 0, .long 0])), (q_5, .inr (9, [.ref nq_9, .null, .int 0])), (nq_9, .inl (cQ_9, 4, .inl (fun _ => 0))), (q_16, .inr (10, [.ref nq_20, .null, .int 0])), (nq_20, .inl (cQ_20, 4, .inl (fun _ => 0))), (q_27, .inr (1, [.ref nq_31, .null, .int 0])), (nq_31, .inl (cQ_31, 4, .inl (fun _ => 0))), (q_40, .inl (cA_40, 16, .inr (.inl (fun _ => 0)))), (q_59, .inl (cA_59, 12, .inr (.inl (fun _ => 0)))), (q_66, .inl (cA_66, 4, .inr (.inl (fun _ => 0)))), (q_73, .inl (cA_73, 4, .inl (fun _ => 0)))] H := hP
  have hD : va_D A [(h0, .inr (0, [.null, .ref q_5, .ref q_16, .ref q_27, .ref q_40, .ref q_49, .ref q_59, .ref q_66, .null, .null, .int 0, .long 0])), (q_5, .inr (9, [.ref nq_9, .null, .int 0])), (nq_9, .inl (cQ_9, 4, .inl (fun _ => 0))), (q_16, .inr (10, [.ref nq_20, .null, .int 0])), (nq_20, .inl (cQ_20, 4, .inl (fun _ => 0))), (q_27, .inr (1, [.ref nq_31, .null, .int 0])), (nq_31, .inl (cQ_31, 4, .inl (fun _ => 0))), (q_40, .inl (cA_40, 16, .inr (.inl (fun _ => 0)))), (q_59, .inl (cA_59, 12, .inr (.inl (fun _ => 0)))), (q_66, .inl (cA_66, 4, .inr (.inl (fun _ => 0)))), (q_73, .inl (cA_73, 4, .inl (fun _ => 0)))] := hD
  have hK : va_K D vwCl [(cQ_9, .int), (cQ_20, .int), (cQ_31, .int), (cA_40, .long), (cA_59, .long), (cA_66, .long), (cA_73, .int)] s := hK
  refine W.cs (cells' := 15) (slots' := 109) rfl rfl ?_
  refine va_putF (D := D) (ci := 0) (v := .ref q_73) (ty := .array .int) (C := RX0) (T := TX0) (N := 12) hx hb hg gwX0 tyX0 tyX0_ok nmX0 hown hK hP hD hS 0 rfl rfl 8 (by decide) (hg _ kw_171) (fun _ h9 => h9) rfl hin rfl (by decide +kernel) rfl rfl (Nat.le_of_ble_eq_true rfl) dX0_init_75 (fun H locs hP hD hS => ?_)
  have hP : va_P D vwCl [(h0, .inr (0, [.null, .ref q_5, .ref q_16, .ref q_27, .ref q_40, .ref q_49, .ref q_59, .ref q_66, .ref q_73, .null, .int 0, .long 0])), (q_5, .inr (9, [.ref nq_9, .null, .int 0])), (nq_9, .inl (cQ_9, 4, .inl (fun _ => 0))), (q_16, .inr (10, [.ref nq_20, .null, .int 0])), (nq_20, .inl (cQ_20, 4, .inl (fun _ => 0))), (q_27, .inr (1, [.ref nq_31, .null, .int 0])), (nq_31, .inl (cQ_31, 4, .inl (fun _ => 0))), (q_40, .inl (cA_40, 16, .inr (.inl (fun _ => 0)))), (q_59, .inl (cA_59, 12, .inr (.inl (fun _ => 0)))), (q_66, .inl (cA_66, 4, .inr (.inl (fun _ => 0)))), (q_73, .inl (cA_73, 4, .inl (fun _ => 0)))] H := hP
  have hD : va_D A [(h0, .inr (0, [.null, .ref q_5, .ref q_16, .ref q_27, .ref q_40, .ref q_49, .ref q_59, .ref q_66, .ref q_73, .null, .int 0, .long 0])), (q_5, .inr (9, [.ref nq_9, .null, .int 0])), (nq_9, .inl (cQ_9, 4, .inl (fun _ => 0))), (q_16, .inr (10, [.ref nq_20, .null, .int 0])), (nq_20, .inl (cQ_20, 4, .inl (fun _ => 0))), (q_27, .inr (1, [.ref nq_31, .null, .int 0])), (nq_31, .inl (cQ_31, 4, .inl (fun _ => 0))), (q_40, .inl (cA_40, 16, .inr (.inl (fun _ => 0)))), (q_59, .inl (cA_59, 12, .inr (.inl (fun _ => 0)))), (q_66, .inl (cA_66, 4, .inr (.inl (fun _ => 0)))), (q_73, .inl (cA_73, 4, .inl (fun _ => 0)))] := hD
  refine lv_aload_n hx hb dX0_init_78 rfl (lv_at hl 0 rfl) ?_
  refine lv_iconst (v := 4) hx hb dX0_init_79 (by decide) ?_
  refine va_newa (atype := .int) (ty := .int) (N' := 4) (a0 := (4, .inl (fun _ => 0))) hx hb (hg _ kw_96) rfl hK hP hD hS hA (fun _ => rfl) (by decide) (by decide) (by decide) (Nat.le_of_ble_eq_true rfl) (Nat.le_of_ble_eq_true rfl) dX0_init_80 (fun q_80 cA_80 H hK hP hD hS => ?_)
  have hP : va_P D vwCl [(h0, .inr (0, [.null, .ref q_5, .ref q_16, .ref q_27, .ref q_40, .ref q_49, .ref q_59, .ref q_66, .ref q_73, .null, .int 0, .long 0])), (q_5, .inr (9, [.ref nq_9, .null, .int 0])), (nq_9, .inl (cQ_9, 4, .inl (fun _ => 0))), (q_16, .inr (10, [.ref nq_20, .null, .int 0])), (nq_20, .inl (cQ_20, 4, .inl (fun _ => 0))), (q_27, .inr (1, [.ref nq_31, .null, .int 0])), (nq_31, .inl (cQ_31, 4, .inl (fun _ => 0))), (q_40, .inl (cA_40, 16, .inr (.inl (fun _ => 0)))), (q_59, .inl (cA_59, 12, .inr (.inl (fun _ => 0)))), (q_66, .inl (cA_66, 4, .inr (.inl (fun _ => 0)))), (q_73, .inl (cA_73, 4, .inl (fun _ => 0))), (q_80, .inl (cA_80, 4, .inl (fun _ => 0)))] H := hP
  have hD : va_D A [(h0, .inr (0, [.null, .ref q_5, .ref q_16, .ref q_27, .ref q_40, .ref q_49, .ref q_59, .ref q_66, .ref q_73, .null, .int 0, .long 0])), (q_5, .inr (9, [.ref nq_9, .null, .int 0])), (nq_9, .inl (cQ_9, 4, .inl (fun _ => 0))), (q_16, .inr (10, [.ref nq_20, .null, .int 0])), (nq_20, .inl (cQ_20, 4, .inl (fun _ => 0))), (q_27, .inr (1, [.ref nq_31, .null, .int 0])), (nq_31, .inl (cQ_31, 4, .inl (fun _ => 0))), (q_40, .inl (cA_40, 16, .inr (.inl (fun _ => 0)))), (q_59, .inl (cA_59, 12, .inr (.inl (fun _ => 0)))), (q_66, .inl (cA_66, 4, .inr (.inl (fun _ => 0)))), (q_73, .inl (cA_73, 4, .inl (fun _ => 0))), (q_80, .inl (cA_80, 4, .inl (fun _ => 0)))] := hD
  have hK : va_K D vwCl [(cQ_9, .int), (cQ_20, .int), (cQ_31, .int), (cA_40, .long), (cA_59, .long), (cA_66, .long), (cA_73, .int), (cA_80, .int)] s := hK
  refine W.cs (cells' := 16) (slots' := 113) rfl rfl ?_
  refine va_putF (D := D) (ci := 0) (v := .ref q_80) (ty := .array .int) (C := RX0) (T := TX0) (N := 12) hx hb hg gwX0 tyX0 tyX0_ok nmX0 hown hK hP hD hS 0 rfl rfl 9 (by decide) (hg _ kw_172) (fun _ h9 => h9) rfl hin rfl (by decide +kernel) rfl rfl (Nat.le_of_ble_eq_true rfl) dX0_init_82 (fun H locs hP hD hS => ?_)
  have hP : va_P D vwCl [(h0, .inr (0, [.null, .ref q_5, .ref q_16, .ref q_27, .ref q_40, .ref q_49, .ref q_59, .ref q_66, .ref q_73, .ref q_80, .int 0, .long 0])), (q_5, .inr (9, [.ref nq_9, .null, .int 0])), (nq_9, .inl (cQ_9, 4, .inl (fun _ => 0))), (q_16, .inr (10, [.ref nq_20, .null, .int 0])), (nq_20, .inl (cQ_20, 4, .inl (fun _ => 0))), (q_27, .inr (1, [.ref nq_31, .null, .int 0])), (nq_31, .inl (cQ_31, 4, .inl (fun _ => 0))), (q_40, .inl (cA_40, 16, .inr (.inl (fun _ => 0)))), (q_59, .inl (cA_59, 12, .inr (.inl (fun _ => 0)))), (q_66, .inl (cA_66, 4, .inr (.inl (fun _ => 0)))), (q_73, .inl (cA_73, 4, .inl (fun _ => 0))), (q_80, .inl (cA_80, 4, .inl (fun _ => 0)))] H := hP
  have hD : va_D A [(h0, .inr (0, [.null, .ref q_5, .ref q_16, .ref q_27, .ref q_40, .ref q_49, .ref q_59, .ref q_66, .ref q_73, .ref q_80, .int 0, .long 0])), (q_5, .inr (9, [.ref nq_9, .null, .int 0])), (nq_9, .inl (cQ_9, 4, .inl (fun _ => 0))), (q_16, .inr (10, [.ref nq_20, .null, .int 0])), (nq_20, .inl (cQ_20, 4, .inl (fun _ => 0))), (q_27, .inr (1, [.ref nq_31, .null, .int 0])), (nq_31, .inl (cQ_31, 4, .inl (fun _ => 0))), (q_40, .inl (cA_40, 16, .inr (.inl (fun _ => 0)))), (q_59, .inl (cA_59, 12, .inr (.inl (fun _ => 0)))), (q_66, .inl (cA_66, 4, .inr (.inl (fun _ => 0)))), (q_73, .inl (cA_73, 4, .inl (fun _ => 0))), (q_80, .inl (cA_80, 4, .inl (fun _ => 0)))] := hD
  refine lv_aload_n hx hb dX0_init_85 rfl (lv_at hl 0 rfl) ?_
  refine lv_aload_n hx hb dX0_init_86 rfl (lv_at hl 1 rfl) ?_
  refine va_putF (D := D) (ci := 0) (v := .ref aq) (ty := .object "NobodyChecks$Question") (C := RX0) (T := TX0) (N := 12) hx hb hg gwX0 tyX0 tyX0_ok nmX0 hown hK hP hD hS 0 rfl rfl 0 (by decide) (hg _ kw_173) (fun _ h9 => h9) rfl hin rfl (by decide +kernel) rfl rfl (Nat.le_of_ble_eq_true rfl) dX0_init_87 (fun H locs hP hD hS => ?_)
  have hP : va_P D vwCl [(h0, .inr (0, [.ref aq, .ref q_5, .ref q_16, .ref q_27, .ref q_40, .ref q_49, .ref q_59, .ref q_66, .ref q_73, .ref q_80, .int 0, .long 0])), (q_5, .inr (9, [.ref nq_9, .null, .int 0])), (nq_9, .inl (cQ_9, 4, .inl (fun _ => 0))), (q_16, .inr (10, [.ref nq_20, .null, .int 0])), (nq_20, .inl (cQ_20, 4, .inl (fun _ => 0))), (q_27, .inr (1, [.ref nq_31, .null, .int 0])), (nq_31, .inl (cQ_31, 4, .inl (fun _ => 0))), (q_40, .inl (cA_40, 16, .inr (.inl (fun _ => 0)))), (q_59, .inl (cA_59, 12, .inr (.inl (fun _ => 0)))), (q_66, .inl (cA_66, 4, .inr (.inl (fun _ => 0)))), (q_73, .inl (cA_73, 4, .inl (fun _ => 0))), (q_80, .inl (cA_80, 4, .inl (fun _ => 0)))] H := hP
  have hD : va_D A [(h0, .inr (0, [.ref aq, .ref q_5, .ref q_16, .ref q_27, .ref q_40, .ref q_49, .ref q_59, .ref q_66, .ref q_73, .ref q_80, .int 0, .long 0])), (q_5, .inr (9, [.ref nq_9, .null, .int 0])), (nq_9, .inl (cQ_9, 4, .inl (fun _ => 0))), (q_16, .inr (10, [.ref nq_20, .null, .int 0])), (nq_20, .inl (cQ_20, 4, .inl (fun _ => 0))), (q_27, .inr (1, [.ref nq_31, .null, .int 0])), (nq_31, .inl (cQ_31, 4, .inl (fun _ => 0))), (q_40, .inl (cA_40, 16, .inr (.inl (fun _ => 0)))), (q_59, .inl (cA_59, 12, .inr (.inl (fun _ => 0)))), (q_66, .inl (cA_66, 4, .inr (.inl (fun _ => 0)))), (q_73, .inl (cA_73, 4, .inl (fun _ => 0))), (q_80, .inl (cA_80, 4, .inl (fun _ => 0)))] := hD
  subst hQ
  refine W.widen (k := 16) (n := 113) (Nat.le_of_ble_eq_true rfl) (Nat.le_of_ble_eq_true rfl) ?_
  have hP9 := hP.sub (ws' := []) [] rfl
  have hD9 := hD.sub (ws' := []) [] (by decide) rfl
  have hK9 := hK.sub (tys' := []) [] rfl
  exact W.vret hx hb hr (fun t ht hW => ⟨⟨(), rfl, trivial, ⟨by rw [ht]; exact hP9, va_K.moved hW.alike hK9, hD9⟩⟩, hS.F ht⟩) hS.2.2 dX0_init_90

theorem dX11_init_0 : decode cX11_init 0 = .ok (.aload_n 0, 1) := by decide +kernel
theorem dX11_init_1 : decode cX11_init 1 = .ok (.invokespecial 1, 3) := by decide +kernel
theorem dX11_init_4 : decode cX11_init 4 = .ok (.aload_n 0, 1) := by decide +kernel
theorem dX11_init_5 : decode cX11_init 5 = .ok (.new 7, 3) := by decide +kernel
theorem dX11_init_8 : decode cX11_init 8 = .ok (.dup, 1) := by decide +kernel
theorem dX11_init_9 : decode cX11_init 9 = .ok (.invokespecial 9, 3) := by decide +kernel
theorem dX11_init_12 : decode cX11_init 12 = .ok (.putfield 10, 3) := by decide +kernel
theorem dX11_init_15 : decode cX11_init 15 = .ok (.aload_n 0, 1) := by decide +kernel
theorem dX11_init_16 : decode cX11_init 16 = .ok (.new 16, 3) := by decide +kernel
theorem dX11_init_19 : decode cX11_init 19 = .ok (.dup, 1) := by decide +kernel
theorem dX11_init_20 : decode cX11_init 20 = .ok (.invokespecial 18, 3) := by decide +kernel
theorem dX11_init_23 : decode cX11_init 23 = .ok (.putfield 19, 3) := by decide +kernel
theorem dX11_init_26 : decode cX11_init 26 = .ok (.aload_n 0, 1) := by decide +kernel
theorem dX11_init_27 : decode cX11_init 27 = .ok (.new 23, 3) := by decide +kernel
theorem dX11_init_30 : decode cX11_init 30 = .ok (.dup, 1) := by decide +kernel
theorem dX11_init_31 : decode cX11_init 31 = .ok (.invokespecial 25, 3) := by decide +kernel
theorem dX11_init_34 : decode cX11_init 34 = .ok (.putfield 26, 3) := by decide +kernel
theorem dX11_init_37 : decode cX11_init 37 = .ok (.aload_n 0, 1) := by decide +kernel
theorem dX11_init_38 : decode cX11_init 38 = .ok (.bipush 8, 2) := by decide +kernel
theorem dX11_init_40 : decode cX11_init 40 = .ok (.anewarray 30, 3) := by decide +kernel
theorem dX11_init_43 : decode cX11_init 43 = .ok (.putfield 32, 3) := by decide +kernel
theorem dX11_init_46 : decode cX11_init 46 = .ok (.aload_n 0, 1) := by decide +kernel
theorem dX11_init_47 : decode cX11_init 47 = .ok (.new 36, 3) := by decide +kernel
theorem dX11_init_50 : decode cX11_init 50 = .ok (.dup, 1) := by decide +kernel
theorem dX11_init_51 : decode cX11_init 51 = .ok (.aload_n 0, 1) := by decide +kernel
theorem dX11_init_52 : decode cX11_init 52 = .ok (.getfield 26, 3) := by decide +kernel
theorem dX11_init_55 : decode cX11_init 55 = .ok (.invokespecial 38, 3) := by decide +kernel
theorem dX11_init_58 : decode cX11_init 58 = .ok (.putfield 41, 3) := by decide +kernel
theorem dX11_init_61 : decode cX11_init 61 = .ok (.aload_n 0, 1) := by decide +kernel
theorem dX11_init_62 : decode cX11_init 62 = .ok (.new 45, 3) := by decide +kernel
theorem dX11_init_65 : decode cX11_init 65 = .ok (.dup, 1) := by decide +kernel
theorem dX11_init_66 : decode cX11_init 66 = .ok (.aload_n 0, 1) := by decide +kernel
theorem dX11_init_67 : decode cX11_init 67 = .ok (.getfield 26, 3) := by decide +kernel
theorem dX11_init_70 : decode cX11_init 70 = .ok (.invokespecial 47, 3) := by decide +kernel
theorem dX11_init_73 : decode cX11_init 73 = .ok (.putfield 48, 3) := by decide +kernel
theorem dX11_init_76 : decode cX11_init 76 = .ok (.aload_n 0, 1) := by decide +kernel
theorem dX11_init_77 : decode cX11_init 77 = .ok (.new 52, 3) := by decide +kernel
theorem dX11_init_80 : decode cX11_init 80 = .ok (.dup, 1) := by decide +kernel
theorem dX11_init_81 : decode cX11_init 81 = .ok (.invokespecial 54, 3) := by decide +kernel
theorem dX11_init_84 : decode cX11_init 84 = .ok (.putfield 55, 3) := by decide +kernel
theorem dX11_init_87 : decode cX11_init 87 = .ok (.return_, 1) := by decide +kernel
theorem kw_174 : (.methodLink RX11 1 objectInit : Cond) ∈ gw_tbl := gw_in (by decide +kernel) (by decide +kernel)
theorem kw_175 : (.classLink RX11 7 RX2 : Cond) ∈ gw_tbl := gw_in (by decide +kernel) (by decide +kernel)
theorem kw_176 : (.instantiable RX2 2 : Cond) ∈ gw_tbl := gw_in (by decide +kernel) (by decide +kernel)
theorem kw_177 : (.code yX2_init cX2_init 1 none : Cond) ∈ gw_tbl := gw_in (by decide +kernel) (by decide +kernel)
theorem kw_178 : (.instanceMethod yX2_init : Cond) ∈ gw_tbl := gw_in (by decide +kernel) (by decide +kernel)
theorem kw_179 : (.classLink RX11 16 RX7 : Cond) ∈ gw_tbl := gw_in (by decide +kernel) (by decide +kernel)
theorem kw_180 : (.instantiable RX7 7 : Cond) ∈ gw_tbl := gw_in (by decide +kernel) (by decide +kernel)
theorem kw_181 : (.code yX7_init cX7_init 1 none : Cond) ∈ gw_tbl := gw_in (by decide +kernel) (by decide +kernel)
theorem kw_182 : (.instanceMethod yX7_init : Cond) ∈ gw_tbl := gw_in (by decide +kernel) (by decide +kernel)
theorem kw_183 : (.classLink RX11 23 RX5 : Cond) ∈ gw_tbl := gw_in (by decide +kernel) (by decide +kernel)
theorem kw_184 : (.instantiable RX5 7 : Cond) ∈ gw_tbl := gw_in (by decide +kernel) (by decide +kernel)
theorem kw_185 : (.code yX5_init cX5_init 1 none : Cond) ∈ gw_tbl := gw_in (by decide +kernel) (by decide +kernel)
theorem kw_186 : (.instanceMethod yX5_init : Cond) ∈ gw_tbl := gw_in (by decide +kernel) (by decide +kernel)
theorem kw_187 : (.classLink RX11 36 RX4 : Cond) ∈ gw_tbl := gw_in (by decide +kernel) (by decide +kernel)
theorem kw_188 : (.instantiable RX4 10 : Cond) ∈ gw_tbl := gw_in (by decide +kernel) (by decide +kernel)
theorem kw_189 : (.initialized RX4 : Cond) ∈ gw_tbl := gw_in (by decide +kernel) (by decide +kernel)
theorem kw_190 : (.code yX4_init cX4_init 2 none : Cond) ∈ gw_tbl := gw_in (by decide +kernel) (by decide +kernel)
theorem kw_191 : (.methodLink RX11 38 yX4_init : Cond) ∈ gw_tbl := gw_in (by decide +kernel) (by decide +kernel)
theorem kw_192 : (.instanceMethod yX4_init : Cond) ∈ gw_tbl := gw_in (by decide +kernel) (by decide +kernel)
theorem kw_193 : (.fieldLink RX11 41 "NobodyChecks" "play" "LNobodyChecks$Play;" : Cond) ∈ gw_tbl := gw_in (by decide +kernel) (by decide +kernel)
theorem kw_194 : (.classLink RX11 45 RX0 : Cond) ∈ gw_tbl := gw_in (by decide +kernel) (by decide +kernel)
theorem kw_195 : (.instantiable RX0 12 : Cond) ∈ gw_tbl := gw_in (by decide +kernel) (by decide +kernel)
theorem kw_196 : (.initialized RX0 : Cond) ∈ gw_tbl := gw_in (by decide +kernel) (by decide +kernel)
theorem kw_197 : (.code yX0_init cX0_init 2 none : Cond) ∈ gw_tbl := gw_in (by decide +kernel) (by decide +kernel)
theorem kw_198 : (.methodLink RX11 47 yX0_init : Cond) ∈ gw_tbl := gw_in (by decide +kernel) (by decide +kernel)
theorem kw_199 : (.instanceMethod yX0_init : Cond) ∈ gw_tbl := gw_in (by decide +kernel) (by decide +kernel)
theorem kw_200 : (.fieldLink RX11 48 "NobodyChecks" "cheapest" "LNobodyChecks$Cheapest;" : Cond) ∈ gw_tbl := gw_in (by decide +kernel) (by decide +kernel)
theorem kw_201 : (.classLink RX11 52 RX8 : Cond) ∈ gw_tbl := gw_in (by decide +kernel) (by decide +kernel)
theorem kw_202 : (.instantiable RX8 3 : Cond) ∈ gw_tbl := gw_in (by decide +kernel) (by decide +kernel)
theorem kw_203 : (.initialized RX8 : Cond) ∈ gw_tbl := gw_in (by decide +kernel) (by decide +kernel)
theorem kw_204 : (.code yX8_init cX8_init 1 none : Cond) ∈ gw_tbl := gw_in (by decide +kernel) (by decide +kernel)
theorem kw_205 : (.instanceMethod yX8_init : Cond) ∈ gw_tbl := gw_in (by decide +kernel) (by decide +kernel)

set_option maxHeartbeats 4000000 in
set_option maxRecDepth 100000 in
theorem i_nobody (l : Launch) (D : va_G) (x0 : Nat) (sz : Nat) : Met l yX11_init (Cond.code yX11_init cX11_init 1 none :: gw_tbl) ({ frames := 5, cells := 45, slots := 892, locals := 93 }) (pc_C D [] [(x0, .inr (11, [.null, .null, .null, .null, .null, .null, .null, .int 0, .int 0]))] sz [.ref x0]) (va_Qv (fun (u : Unit) => True) (fun _ t => ∃ (pg : Nat), ∃ (rd : Nat), ∃ (aq : Nat), ∃ (py : Nat), ∃ (pl : Nat), ∃ (ch : Nat), ∃ (ro : Nat), ∃ (cd : Nat), ∃ (rw : Nat), ∃ (rc : Nat), ∃ (a1 : Nat), ∃ (a2 : Nat), ∃ (a3 : Nat), ∃ (a4 : Nat), ∃ (r1 : Nat), ∃ (r2 : Nat), ∃ (cI : ClassId), ∃ (cP : ClassId), va_P D vwCl [(x0, .inr (11, [.ref pg, .ref rd, .ref aq, .ref py, .ref pl, .ref ch, .ref ro, .int 0, .int 0])), (pg, .inr (2, [.ref cd, .int 0])), (cd, .inl (cI, 90, .inl (fun _ => 0))), (rd, .inr (7, [.ref rw, .ref rc, .int 0, .int 0, .int 0, .int 0, .int 0])), (aq, .inr (5, [.ref a1, .ref a2, .ref a3, .ref a4, .int 0, .int 0, .long 0])), (py, .inl (cP, 8, .inr (.inr (.inr (.inr (fun _ => none)))))), (ro, .inr (8, [.ref r1, .ref r2, .int 0]))] t.heap ∧ va_K D vwCl [(cI, .int), (cP, .object RX3)] t ∧ va_D (va_A [(x0, .inr (11, [.null, .null, .null, .null, .null, .null, .null, .int 0, .int 0]))] sz) [(x0, .inr (11, [.ref pg, .ref rd, .ref aq, .ref py, .ref pl, .ref ch, .ref ro, .int 0, .int 0])), (pg, .inr (2, [.ref cd, .int 0])), (cd, .inl (cI, 90, .inl (fun _ => 0))), (rd, .inr (7, [.ref rw, .ref rc, .int 0, .int 0, .int 0, .int 0, .int 0])), (aq, .inr (5, [.ref a1, .ref a2, .ref a3, .ref a4, .int 0, .int 0, .long 0])), (py, .inl (cP, 8, .inr (.inr (.inr (.inr (fun _ => none)))))), (ro, .inr (8, [.ref r1, .ref r2, .int 0]))]) (va_A [(x0, .inr (11, [.null, .null, .null, .null, .null, .null, .null, .int 0, .int 0]))] sz)) 45 892 (va_A [(x0, .inr (11, [.null, .null, .null, .null, .null, .null, .null, .int 0, .int 0]))] sz) := by
  refine Met.ofW (cc := cX11_init) (maxL := 1) (ret := none) (by decide) rfl ?_
  intro p e s m args below meth c s₁ B hml hv
  obtain ⟨hargs, hsz, hP, hK, hD0, hN⟩ := hv
  have hx := B.exec
  have hb := B.bytes
  have hr := B.returns
  have hts := atoms_spec (ws := Cond.code yX11_init cX11_init 1 none :: gw_tbl) B.pre
  have hg := fun (w : Cond) (h : w ∈ gw_tbl) => hts w (List.mem_cons_of_mem _ h)
  have hown : s.vm.findClass RX11 = some m.cls := findClass_of_methodNamed B.named
  have hlocks := B.notSynchronized
  have hin : meth.name = "<init>" := (name_of_methodNamed B.named B.method).1
  subst hsz
  have hD := hD0.self (sz := s.heap.size)
  generalize hAe : va_A [(x0, .inr (11, [.null, .null, .null, .null, .null, .null, .null, .int 0, .int 0]))] s.heap.size = A at hD ⊢
  have hA : ∀ q : Nat, s.heap.size ≤ q → A q := fun q h => by rw [← hAe]; exact Or.inr h
  have hS : va_S A s.heap s.heap [] := va_S.rf
  have hP : va_P D vwCl [(x0, .inr (11, [.null, .null, .null, .null, .null, .null, .null, .int 0, .int 0]))] s.heap := hP
  have hl := lv_entry ([.ref x0]) (n := 1) (Nat.le_of_ble_eq_true rfl)
  rw [show entryFrame m args 1 = F0 m 0 (lg_sl ([.ref x0]) ++ List.replicate (1 - (lg_sl ([.ref x0])).length) Slot.unset).toArray [] from by rw [hargs]; exact lg_entry_eq ..]
  generalize (lg_sl ([.ref x0]) ++ List.replicate (1 - (lg_sl ([.ref x0])).length) Slot.unset).toArray = ls at hl ⊢
  have hl : lv_has ls 1 [(0, .ref x0)] := hl
  refine W_genQ (fun Q hQ => ?_)
  refine lv_aload_n hx hb dX11_init_0 rfl (lv_at hl 0 rfl) ?_
  refine W.objInit hx hb hown (hg _ kw_174) (hg _ kw_94) (hg _ kw_95) rfl (by rw [hml]; exact hl.1) rfl dX11_init_1 (Nat.le_of_ble_eq_true rfl) (Nat.le_of_ble_eq_true rfl) ?_
  refine W.eq (g2 := F0 m 4 ls []) rfl ?_
  refine lv_aload_n hx hb dX11_init_4 rfl (lv_at hl 0 rfl) ?_
  refine va_new (ci := 2) (fs := [.null, .int 0]) (C := RX2) (T := TX2) (N := 2) hx hb hg gwX2 tyX2 tyX2_ok hown (hg _ kw_175) (hg _ kw_176) (hg _ kw_83) hK hP hD hS hA rfl (by decide +kernel) (Nat.le_of_ble_eq_true rfl) (Nat.le_of_ble_eq_true rfl) dX11_init_5 (fun q_5 H hP hD hS => ?_)
  have hP : va_P D vwCl [(x0, .inr (11, [.null, .null, .null, .null, .null, .null, .null, .int 0, .int 0])), (q_5, .inr (2, [.null, .int 0]))] H := hP
  have hD : va_D A [(x0, .inr (11, [.null, .null, .null, .null, .null, .null, .null, .int 0, .int 0])), (q_5, .inr (2, [.null, .int 0]))] := hD
  refine W.cs (cells' := 1) (slots' := 2) rfl rfl ?_
  refine lv_dup hx hb dX11_init_8 rfl ?_
  have hPc := hP.sub (ws' := [(q_5, .inr (2, [.null, .int 0]))]) [1] rfl
  have hKc := hK.sub (tys' := []) [] rfl
  have hDc := hD.sub (ws' := [(q_5, .inr (2, [.null, .int 0]))]) [1] (by decide) rfl
  have hFc := va_free (wc := [(q_5, .inr (2, [.null, .int 0]))]) hD hS hA [1] rfl
  refine va_callv (va_runIN (As := []) (rest := [.ref q_5, .ref x0]) ⟨hx, hb, hml, hown, hg⟩ (i_page l D q_5 _) ⟨va_cnB 0 hg (gw_I kw_177) rfl rfl rfl (hN.1 (RX11, 9, yX2_init) (by decide +kernel)) (hg _ kw_83) (by decide +kernel) ⟨Nat.le_of_ble_eq_true rfl, Nat.le_of_ble_eq_true rfl⟩, rfl, hg _ kw_178⟩ (pr_C hKc hPc hDc hN) rfl rfl hl.1 rfl (lv_room (Nat.le_of_ble_eq_true rfl)) dX11_init_9 ⟨Nat.le_of_ble_eq_true rfl, Nat.le_of_ble_eq_true rfl⟩) hS (fun q _ h => hFc q h) hFc (fun u t H1 locs ht hvm h_9 hB hz1 hk1 hS => ?_)
  obtain ⟨cd_9, cI_9, hP1, hK1, hD1⟩ := hB
  rw [ht] at hP1
  have hK1 := va_K.moved hvm.symm hK1
  obtain ⟨hP, hD⟩ := va_join (wr := [(x0, .inr (11, [.null, .null, .null, .null, .null, .null, .null, .int 0, .int 0]))]) (w1 := [(q_5, .inr (2, [.ref cd_9, .int 0])), (cd_9, .inl (cI_9, 90, .inl (fun _ => 0)))]) hP hD [1] [0] rfl rfl (by decide) (by decide) hk1 hFc hP1 hD1
  have hK := hK.app hK1
  generalize H1 = H at hP hS ⊢
  have hP : va_P D vwCl [(x0, .inr (11, [.null, .null, .null, .null, .null, .null, .null, .int 0, .int 0])), (q_5, .inr (2, [.ref cd_9, .int 0])), (cd_9, .inl (cI_9, 90, .inl (fun _ => 0)))] H := hP
  have hD : va_D A [(x0, .inr (11, [.null, .null, .null, .null, .null, .null, .null, .int 0, .int 0])), (q_5, .inr (2, [.ref cd_9, .int 0])), (cd_9, .inl (cI_9, 90, .inl (fun _ => 0)))] := hD
  have hK : va_K D vwCl [(cI_9, .int)] s := hK
  refine W.cs (cells' := 2) (slots' := 92) rfl rfl ?_
  try dsimp only at h_9
  refine va_putF (D := D) (ci := 11) (v := .ref q_5) (ty := .object "NobodyChecks$Page") (C := RX11) (T := TX11) (N := 9) hx hb hg gwX11 tyX11 tyX11_ok nmX11 hown hK hP hD hS 0 rfl rfl 0 (by decide) (hg _ kw_36) (fun _ h9 => h9) rfl hin rfl (by decide +kernel) rfl rfl (Nat.le_of_ble_eq_true rfl) dX11_init_12 (fun H locs hP hD hS => ?_)
  have hP : va_P D vwCl [(x0, .inr (11, [.ref q_5, .null, .null, .null, .null, .null, .null, .int 0, .int 0])), (q_5, .inr (2, [.ref cd_9, .int 0])), (cd_9, .inl (cI_9, 90, .inl (fun _ => 0)))] H := hP
  have hD : va_D A [(x0, .inr (11, [.ref q_5, .null, .null, .null, .null, .null, .null, .int 0, .int 0])), (q_5, .inr (2, [.ref cd_9, .int 0])), (cd_9, .inl (cI_9, 90, .inl (fun _ => 0)))] := hD
  refine lv_aload_n hx hb dX11_init_15 rfl (lv_at hl 0 rfl) ?_
  refine va_new (ci := 7) (fs := [.null, .null, .int 0, .int 0, .int 0, .int 0, .int 0]) (C := RX7) (T := TX7) (N := 7) hx hb hg gwX7 tyX7 tyX7_ok hown (hg _ kw_179) (hg _ kw_180) (hg _ kw_69) hK hP hD hS hA rfl (by decide +kernel) (Nat.le_of_ble_eq_true rfl) (Nat.le_of_ble_eq_true rfl) dX11_init_16 (fun q_16 H hP hD hS => ?_)
  have hP : va_P D vwCl [(x0, .inr (11, [.ref q_5, .null, .null, .null, .null, .null, .null, .int 0, .int 0])), (q_5, .inr (2, [.ref cd_9, .int 0])), (cd_9, .inl (cI_9, 90, .inl (fun _ => 0))), (q_16, .inr (7, [.null, .null, .int 0, .int 0, .int 0, .int 0, .int 0]))] H := hP
  have hD : va_D A [(x0, .inr (11, [.ref q_5, .null, .null, .null, .null, .null, .null, .int 0, .int 0])), (q_5, .inr (2, [.ref cd_9, .int 0])), (cd_9, .inl (cI_9, 90, .inl (fun _ => 0))), (q_16, .inr (7, [.null, .null, .int 0, .int 0, .int 0, .int 0, .int 0]))] := hD
  refine W.cs (cells' := 3) (slots' := 99) rfl rfl ?_
  refine lv_dup hx hb dX11_init_19 rfl ?_
  have hPc := hP.sub (ws' := [(q_16, .inr (7, [.null, .null, .int 0, .int 0, .int 0, .int 0, .int 0]))]) [3] rfl
  have hKc := hK.sub (tys' := []) [] rfl
  have hDc := hD.sub (ws' := [(q_16, .inr (7, [.null, .null, .int 0, .int 0, .int 0, .int 0, .int 0]))]) [3] (by decide) rfl
  have hFc := va_free (wc := [(q_16, .inr (7, [.null, .null, .int 0, .int 0, .int 0, .int 0, .int 0]))]) hD hS hA [3] rfl
  refine va_callv (va_runIN (As := []) (rest := [.ref q_16, .ref x0]) ⟨hx, hb, hml, hown, hg⟩ (i_reader l D q_16 _) ⟨va_cnB 0 hg (gw_I kw_181) rfl rfl rfl (hN.1 (RX11, 18, yX7_init) (by decide +kernel)) (hg _ kw_69) (by decide +kernel) ⟨Nat.le_of_ble_eq_true rfl, Nat.le_of_ble_eq_true rfl⟩, rfl, hg _ kw_182⟩ (pr_C hKc hPc hDc hN) rfl rfl hl.1 rfl (lv_room (Nat.le_of_ble_eq_true rfl)) dX11_init_20 ⟨Nat.le_of_ble_eq_true rfl, Nat.le_of_ble_eq_true rfl⟩) hS (fun q _ h => hFc q h) hFc (fun u t H1 locs ht hvm h_20 hB hz1 hk1 hS => ?_)
  obtain ⟨rw_20, rc_20, hP1, hK1, hD1⟩ := hB
  rw [ht] at hP1
  have hK1 := va_K.moved hvm.symm hK1
  obtain ⟨hP, hD⟩ := va_join (wr := [(x0, .inr (11, [.ref q_5, .null, .null, .null, .null, .null, .null, .int 0, .int 0])), (q_5, .inr (2, [.ref cd_9, .int 0])), (cd_9, .inl (cI_9, 90, .inl (fun _ => 0)))]) (w1 := [(q_16, .inr (7, [.ref rw_20, .ref rc_20, .int 0, .int 0, .int 0, .int 0, .int 0]))]) hP hD [3] [0, 1, 2] rfl rfl (by decide) (by decide) hk1 hFc hP1 hD1
  have hK := hK.app hK1
  generalize H1 = H at hP hS ⊢
  have hP : va_P D vwCl [(x0, .inr (11, [.ref q_5, .null, .null, .null, .null, .null, .null, .int 0, .int 0])), (q_5, .inr (2, [.ref cd_9, .int 0])), (cd_9, .inl (cI_9, 90, .inl (fun _ => 0))), (q_16, .inr (7, [.ref rw_20, .ref rc_20, .int 0, .int 0, .int 0, .int 0, .int 0]))] H := hP
  have hD : va_D A [(x0, .inr (11, [.ref q_5, .null, .null, .null, .null, .null, .null, .int 0, .int 0])), (q_5, .inr (2, [.ref cd_9, .int 0])), (cd_9, .inl (cI_9, 90, .inl (fun _ => 0))), (q_16, .inr (7, [.ref rw_20, .ref rc_20, .int 0, .int 0, .int 0, .int 0, .int 0]))] := hD
  have hK : va_K D vwCl [(cI_9, .int)] s := hK
  refine W.cs (cells' := 10) (slots' := 129) rfl rfl ?_
  try dsimp only at h_20
  refine va_putF (D := D) (ci := 11) (v := .ref q_16) (ty := .object "NobodyChecks$Reader") (C := RX11) (T := TX11) (N := 9) hx hb hg gwX11 tyX11 tyX11_ok nmX11 hown hK hP hD hS 0 rfl rfl 1 (by decide) (hg _ kw_71) (fun _ h9 => h9) rfl hin rfl (by decide +kernel) rfl rfl (Nat.le_of_ble_eq_true rfl) dX11_init_23 (fun H locs hP hD hS => ?_)
  have hP : va_P D vwCl [(x0, .inr (11, [.ref q_5, .ref q_16, .null, .null, .null, .null, .null, .int 0, .int 0])), (q_5, .inr (2, [.ref cd_9, .int 0])), (cd_9, .inl (cI_9, 90, .inl (fun _ => 0))), (q_16, .inr (7, [.ref rw_20, .ref rc_20, .int 0, .int 0, .int 0, .int 0, .int 0]))] H := hP
  have hD : va_D A [(x0, .inr (11, [.ref q_5, .ref q_16, .null, .null, .null, .null, .null, .int 0, .int 0])), (q_5, .inr (2, [.ref cd_9, .int 0])), (cd_9, .inl (cI_9, 90, .inl (fun _ => 0))), (q_16, .inr (7, [.ref rw_20, .ref rc_20, .int 0, .int 0, .int 0, .int 0, .int 0]))] := hD
  refine lv_aload_n hx hb dX11_init_26 rfl (lv_at hl 0 rfl) ?_
  refine va_new (ci := 5) (fs := [.null, .null, .null, .null, .int 0, .int 0, .long 0]) (C := RX5) (T := TX5) (N := 7) hx hb hg gwX5 tyX5 tyX5_ok hown (hg _ kw_183) (hg _ kw_184) (hg _ kw_12) hK hP hD hS hA rfl (by decide +kernel) (Nat.le_of_ble_eq_true rfl) (Nat.le_of_ble_eq_true rfl) dX11_init_27 (fun q_27 H hP hD hS => ?_)
  have hP : va_P D vwCl [(x0, .inr (11, [.ref q_5, .ref q_16, .null, .null, .null, .null, .null, .int 0, .int 0])), (q_5, .inr (2, [.ref cd_9, .int 0])), (cd_9, .inl (cI_9, 90, .inl (fun _ => 0))), (q_16, .inr (7, [.ref rw_20, .ref rc_20, .int 0, .int 0, .int 0, .int 0, .int 0])), (q_27, .inr (5, [.null, .null, .null, .null, .int 0, .int 0, .long 0]))] H := hP
  have hD : va_D A [(x0, .inr (11, [.ref q_5, .ref q_16, .null, .null, .null, .null, .null, .int 0, .int 0])), (q_5, .inr (2, [.ref cd_9, .int 0])), (cd_9, .inl (cI_9, 90, .inl (fun _ => 0))), (q_16, .inr (7, [.ref rw_20, .ref rc_20, .int 0, .int 0, .int 0, .int 0, .int 0])), (q_27, .inr (5, [.null, .null, .null, .null, .int 0, .int 0, .long 0]))] := hD
  refine W.cs (cells' := 11) (slots' := 136) rfl rfl ?_
  refine lv_dup hx hb dX11_init_30 rfl ?_
  have hPc := hP.sub (ws' := [(q_27, .inr (5, [.null, .null, .null, .null, .int 0, .int 0, .long 0]))]) [4] rfl
  have hKc := hK.sub (tys' := []) [] rfl
  have hDc := hD.sub (ws' := [(q_27, .inr (5, [.null, .null, .null, .null, .int 0, .int 0, .long 0]))]) [4] (by decide) rfl
  have hFc := va_free (wc := [(q_27, .inr (5, [.null, .null, .null, .null, .int 0, .int 0, .long 0]))]) hD hS hA [4] rfl
  refine va_callv (va_runIN (As := []) (rest := [.ref q_27, .ref x0]) ⟨hx, hb, hml, hown, hg⟩ (i_question l D q_27 _) ⟨va_cnB 0 hg (gw_I kw_185) rfl rfl rfl (hN.1 (RX11, 25, yX5_init) (by decide +kernel)) (hg _ kw_12) (by decide +kernel) ⟨Nat.le_of_ble_eq_true rfl, Nat.le_of_ble_eq_true rfl⟩, rfl, hg _ kw_186⟩ (pr_C hKc hPc hDc hN) rfl rfl hl.1 rfl (lv_room (Nat.le_of_ble_eq_true rfl)) dX11_init_31 ⟨Nat.le_of_ble_eq_true rfl, Nat.le_of_ble_eq_true rfl⟩) hS (fun q _ h => hFc q h) hFc (fun u t H1 locs ht hvm h_31 hB hz1 hk1 hS => ?_)
  obtain ⟨a1_31, a2_31, a3_31, a4_31, hP1, hK1, hD1⟩ := hB
  rw [ht] at hP1
  have hK1 := va_K.moved hvm.symm hK1
  obtain ⟨hP, hD⟩ := va_join (wr := [(x0, .inr (11, [.ref q_5, .ref q_16, .null, .null, .null, .null, .null, .int 0, .int 0])), (q_5, .inr (2, [.ref cd_9, .int 0])), (cd_9, .inl (cI_9, 90, .inl (fun _ => 0))), (q_16, .inr (7, [.ref rw_20, .ref rc_20, .int 0, .int 0, .int 0, .int 0, .int 0]))]) (w1 := [(q_27, .inr (5, [.ref a1_31, .ref a2_31, .ref a3_31, .ref a4_31, .int 0, .int 0, .long 0]))]) hP hD [4] [0, 1, 2, 3] rfl rfl (by decide) (by decide) hk1 hFc hP1 hD1
  have hK := hK.app hK1
  generalize H1 = H at hP hS ⊢
  have hP : va_P D vwCl [(x0, .inr (11, [.ref q_5, .ref q_16, .null, .null, .null, .null, .null, .int 0, .int 0])), (q_5, .inr (2, [.ref cd_9, .int 0])), (cd_9, .inl (cI_9, 90, .inl (fun _ => 0))), (q_16, .inr (7, [.ref rw_20, .ref rc_20, .int 0, .int 0, .int 0, .int 0, .int 0])), (q_27, .inr (5, [.ref a1_31, .ref a2_31, .ref a3_31, .ref a4_31, .int 0, .int 0, .long 0]))] H := hP
  have hD : va_D A [(x0, .inr (11, [.ref q_5, .ref q_16, .null, .null, .null, .null, .null, .int 0, .int 0])), (q_5, .inr (2, [.ref cd_9, .int 0])), (cd_9, .inl (cI_9, 90, .inl (fun _ => 0))), (q_16, .inr (7, [.ref rw_20, .ref rc_20, .int 0, .int 0, .int 0, .int 0, .int 0])), (q_27, .inr (5, [.ref a1_31, .ref a2_31, .ref a3_31, .ref a4_31, .int 0, .int 0, .long 0]))] := hD
  have hK : va_K D vwCl [(cI_9, .int)] s := hK
  refine W.cs (cells' := 20) (slots' := 186) rfl rfl ?_
  try dsimp only at h_31
  refine va_putF (D := D) (ci := 11) (v := .ref q_27) (ty := .object "NobodyChecks$Question") (C := RX11) (T := TX11) (N := 9) hx hb hg gwX11 tyX11 tyX11_ok nmX11 hown hK hP hD hS 0 rfl rfl 2 (by decide) (hg _ kw_7) (fun _ h9 => h9) rfl hin rfl (by decide +kernel) rfl rfl (Nat.le_of_ble_eq_true rfl) dX11_init_34 (fun H locs hP hD hS => ?_)
  have hP : va_P D vwCl [(x0, .inr (11, [.ref q_5, .ref q_16, .ref q_27, .null, .null, .null, .null, .int 0, .int 0])), (q_5, .inr (2, [.ref cd_9, .int 0])), (cd_9, .inl (cI_9, 90, .inl (fun _ => 0))), (q_16, .inr (7, [.ref rw_20, .ref rc_20, .int 0, .int 0, .int 0, .int 0, .int 0])), (q_27, .inr (5, [.ref a1_31, .ref a2_31, .ref a3_31, .ref a4_31, .int 0, .int 0, .long 0]))] H := hP
  have hD : va_D A [(x0, .inr (11, [.ref q_5, .ref q_16, .ref q_27, .null, .null, .null, .null, .int 0, .int 0])), (q_5, .inr (2, [.ref cd_9, .int 0])), (cd_9, .inl (cI_9, 90, .inl (fun _ => 0))), (q_16, .inr (7, [.ref rw_20, .ref rc_20, .int 0, .int 0, .int 0, .int 0, .int 0])), (q_27, .inr (5, [.ref a1_31, .ref a2_31, .ref a3_31, .ref a4_31, .int 0, .int 0, .long 0]))] := hD
  refine lv_aload_n hx hb dX11_init_37 rfl (lv_at hl 0 rfl) ?_
  refine lv_bipush (v := 8) hx hb dX11_init_38 (by decide) ?_
  refine va_newq (C := RX3) (N' := 8) hx hb hown (hg _ kw_107) (hN.2.1) hK hP hD hS hA (by decide) (by decide) (by decide) (Nat.le_of_ble_eq_true rfl) (Nat.le_of_ble_eq_true rfl) dX11_init_40 (fun q_40 cA_40 H hK hP hD hS => ?_)
  have hP : va_P D vwCl [(x0, .inr (11, [.ref q_5, .ref q_16, .ref q_27, .null, .null, .null, .null, .int 0, .int 0])), (q_5, .inr (2, [.ref cd_9, .int 0])), (cd_9, .inl (cI_9, 90, .inl (fun _ => 0))), (q_16, .inr (7, [.ref rw_20, .ref rc_20, .int 0, .int 0, .int 0, .int 0, .int 0])), (q_27, .inr (5, [.ref a1_31, .ref a2_31, .ref a3_31, .ref a4_31, .int 0, .int 0, .long 0])), (q_40, .inl (cA_40, 8, .inr (.inr (.inr (.inr (fun _ => none))))))] H := hP
  have hD : va_D A [(x0, .inr (11, [.ref q_5, .ref q_16, .ref q_27, .null, .null, .null, .null, .int 0, .int 0])), (q_5, .inr (2, [.ref cd_9, .int 0])), (cd_9, .inl (cI_9, 90, .inl (fun _ => 0))), (q_16, .inr (7, [.ref rw_20, .ref rc_20, .int 0, .int 0, .int 0, .int 0, .int 0])), (q_27, .inr (5, [.ref a1_31, .ref a2_31, .ref a3_31, .ref a4_31, .int 0, .int 0, .long 0])), (q_40, .inl (cA_40, 8, .inr (.inr (.inr (.inr (fun _ => none))))))] := hD
  have hK : va_K D vwCl [(cI_9, .int), (cA_40, .object RX3)] s := hK
  refine W.cs (cells' := 21) (slots' := 194) rfl rfl ?_
  refine va_putF (D := D) (ci := 11) (v := .ref q_40) (ty := .array (.object "NobodyChecks$Pay")) (C := RX11) (T := TX11) (N := 9) hx hb hg gwX11 tyX11 tyX11_ok nmX11 hown hK hP hD hS 0 rfl rfl 3 (by decide) (hg _ kw_133) (fun _ h9 => h9) rfl hin rfl (by decide +kernel) rfl rfl (Nat.le_of_ble_eq_true rfl) dX11_init_43 (fun H locs hP hD hS => ?_)
  have hP : va_P D vwCl [(x0, .inr (11, [.ref q_5, .ref q_16, .ref q_27, .ref q_40, .null, .null, .null, .int 0, .int 0])), (q_5, .inr (2, [.ref cd_9, .int 0])), (cd_9, .inl (cI_9, 90, .inl (fun _ => 0))), (q_16, .inr (7, [.ref rw_20, .ref rc_20, .int 0, .int 0, .int 0, .int 0, .int 0])), (q_27, .inr (5, [.ref a1_31, .ref a2_31, .ref a3_31, .ref a4_31, .int 0, .int 0, .long 0])), (q_40, .inl (cA_40, 8, .inr (.inr (.inr (.inr (fun _ => none))))))] H := hP
  have hD : va_D A [(x0, .inr (11, [.ref q_5, .ref q_16, .ref q_27, .ref q_40, .null, .null, .null, .int 0, .int 0])), (q_5, .inr (2, [.ref cd_9, .int 0])), (cd_9, .inl (cI_9, 90, .inl (fun _ => 0))), (q_16, .inr (7, [.ref rw_20, .ref rc_20, .int 0, .int 0, .int 0, .int 0, .int 0])), (q_27, .inr (5, [.ref a1_31, .ref a2_31, .ref a3_31, .ref a4_31, .int 0, .int 0, .long 0])), (q_40, .inl (cA_40, 8, .inr (.inr (.inr (.inr (fun _ => none))))))] := hD
  refine lv_aload_n hx hb dX11_init_46 rfl (lv_at hl 0 rfl) ?_
  refine va_new (ci := 4) (fs := [.null, .null, .null, .null, .long 0, .int 0, .int 0, .int 0, .int 0, .int 0]) (C := RX4) (T := TX4) (N := 10) hx hb hg gwX4 tyX4 tyX4_ok hown (hg _ kw_187) (hg _ kw_188) (hg _ kw_189) hK hP hD hS hA rfl (by decide +kernel) (Nat.le_of_ble_eq_true rfl) (Nat.le_of_ble_eq_true rfl) dX11_init_47 (fun q_47 H hP hD hS => ?_)
  have hP : va_P D vwCl [(x0, .inr (11, [.ref q_5, .ref q_16, .ref q_27, .ref q_40, .null, .null, .null, .int 0, .int 0])), (q_5, .inr (2, [.ref cd_9, .int 0])), (cd_9, .inl (cI_9, 90, .inl (fun _ => 0))), (q_16, .inr (7, [.ref rw_20, .ref rc_20, .int 0, .int 0, .int 0, .int 0, .int 0])), (q_27, .inr (5, [.ref a1_31, .ref a2_31, .ref a3_31, .ref a4_31, .int 0, .int 0, .long 0])), (q_40, .inl (cA_40, 8, .inr (.inr (.inr (.inr (fun _ => none)))))), (q_47, .inr (4, [.null, .null, .null, .null, .long 0, .int 0, .int 0, .int 0, .int 0, .int 0]))] H := hP
  have hD : va_D A [(x0, .inr (11, [.ref q_5, .ref q_16, .ref q_27, .ref q_40, .null, .null, .null, .int 0, .int 0])), (q_5, .inr (2, [.ref cd_9, .int 0])), (cd_9, .inl (cI_9, 90, .inl (fun _ => 0))), (q_16, .inr (7, [.ref rw_20, .ref rc_20, .int 0, .int 0, .int 0, .int 0, .int 0])), (q_27, .inr (5, [.ref a1_31, .ref a2_31, .ref a3_31, .ref a4_31, .int 0, .int 0, .long 0])), (q_40, .inl (cA_40, 8, .inr (.inr (.inr (.inr (fun _ => none)))))), (q_47, .inr (4, [.null, .null, .null, .null, .long 0, .int 0, .int 0, .int 0, .int 0, .int 0]))] := hD
  refine W.cs (cells' := 22) (slots' := 204) rfl rfl ?_
  refine lv_dup hx hb dX11_init_50 rfl ?_
  refine lv_aload_n hx hb dX11_init_51 rfl (lv_at hl 0 rfl) ?_
  refine va_get (D := D) (ci := 11) (v := .ref q_27) (C := RX11) (T := TX11) (N := 9) hx hb hg gwX11 hown hK hP 0 rfl rfl 2 (by decide) (hg _ kw_7) (fun _ h9 => h9) rfl dX11_init_52 ?_
  have hPc := hP.sub (ws' := [(q_47, .inr (4, [.null, .null, .null, .null, .long 0, .int 0, .int 0, .int 0, .int 0, .int 0]))]) [6] rfl
  have hKc := hK.sub (tys' := []) [] rfl
  have hDc := hD.sub (ws' := [(q_47, .inr (4, [.null, .null, .null, .null, .long 0, .int 0, .int 0, .int 0, .int 0, .int 0]))]) [6] (by decide) rfl
  have hFc := va_free (wc := [(q_47, .inr (4, [.null, .null, .null, .null, .long 0, .int 0, .int 0, .int 0, .int 0, .int 0]))]) hD hS hA [6] rfl
  refine va_callv (va_runI (As := [.ref q_27]) (rest := [.ref q_47, .ref x0]) ⟨hx, hb, hml, hown, hg⟩ (i_play l D q_47 q_27 _) (cwI 1 hg (gw_I kw_190) rfl rfl rfl (hg _ kw_189) (hg _ kw_191) (hg _ kw_192) rfl (by decide +kernel) ⟨Nat.le_of_ble_eq_true rfl, Nat.le_of_ble_eq_true rfl⟩) (pr_C hKc hPc hDc hN) rfl rfl hl.1 rfl (lv_room (Nat.le_of_ble_eq_true rfl)) dX11_init_55 ⟨Nat.le_of_ble_eq_true rfl, Nat.le_of_ble_eq_true rfl⟩) hS (fun q _ h => hFc q h) hFc (fun u t H1 locs ht hvm h_55 hB hz1 hk1 hS => ?_)
  obtain ⟨hP1, hK1, hD1⟩ := hB
  rw [ht] at hP1
  have hK1 := va_K.moved hvm.symm hK1
  obtain ⟨hP, hD⟩ := va_join (wr := [(x0, .inr (11, [.ref q_5, .ref q_16, .ref q_27, .ref q_40, .null, .null, .null, .int 0, .int 0])), (q_5, .inr (2, [.ref cd_9, .int 0])), (cd_9, .inl (cI_9, 90, .inl (fun _ => 0))), (q_16, .inr (7, [.ref rw_20, .ref rc_20, .int 0, .int 0, .int 0, .int 0, .int 0])), (q_27, .inr (5, [.ref a1_31, .ref a2_31, .ref a3_31, .ref a4_31, .int 0, .int 0, .long 0])), (q_40, .inl (cA_40, 8, .inr (.inr (.inr (.inr (fun _ => none))))))]) (w1 := []) hP hD [6] [0, 1, 2, 3, 4, 5] rfl rfl (by decide) (by decide) hk1 hFc hP1 hD1
  have hK := hK.app hK1
  generalize H1 = H at hP hS ⊢
  have hP : va_P D vwCl [(x0, .inr (11, [.ref q_5, .ref q_16, .ref q_27, .ref q_40, .null, .null, .null, .int 0, .int 0])), (q_5, .inr (2, [.ref cd_9, .int 0])), (cd_9, .inl (cI_9, 90, .inl (fun _ => 0))), (q_16, .inr (7, [.ref rw_20, .ref rc_20, .int 0, .int 0, .int 0, .int 0, .int 0])), (q_27, .inr (5, [.ref a1_31, .ref a2_31, .ref a3_31, .ref a4_31, .int 0, .int 0, .long 0])), (q_40, .inl (cA_40, 8, .inr (.inr (.inr (.inr (fun _ => none))))))] H := hP
  have hD : va_D A [(x0, .inr (11, [.ref q_5, .ref q_16, .ref q_27, .ref q_40, .null, .null, .null, .int 0, .int 0])), (q_5, .inr (2, [.ref cd_9, .int 0])), (cd_9, .inl (cI_9, 90, .inl (fun _ => 0))), (q_16, .inr (7, [.ref rw_20, .ref rc_20, .int 0, .int 0, .int 0, .int 0, .int 0])), (q_27, .inr (5, [.ref a1_31, .ref a2_31, .ref a3_31, .ref a4_31, .int 0, .int 0, .long 0])), (q_40, .inl (cA_40, 8, .inr (.inr (.inr (.inr (fun _ => none))))))] := hD
  have hK : va_K D vwCl [(cI_9, .int), (cA_40, .object RX3)] s := hK
  refine W.cs (cells' := 25) (slots' := 716) rfl rfl ?_
  try dsimp only at h_55
  refine va_putF (D := D) (ci := 11) (v := .ref q_47) (ty := .object "NobodyChecks$Play") (C := RX11) (T := TX11) (N := 9) hx hb hg gwX11 tyX11 tyX11_ok nmX11 hown hK hP hD hS 0 rfl rfl 4 (by decide) (hg _ kw_193) (fun _ h9 => h9) rfl hin rfl (by decide +kernel) rfl rfl (Nat.le_of_ble_eq_true rfl) dX11_init_58 (fun H locs hP hD hS => ?_)
  have hP : va_P D vwCl [(x0, .inr (11, [.ref q_5, .ref q_16, .ref q_27, .ref q_40, .ref q_47, .null, .null, .int 0, .int 0])), (q_5, .inr (2, [.ref cd_9, .int 0])), (cd_9, .inl (cI_9, 90, .inl (fun _ => 0))), (q_16, .inr (7, [.ref rw_20, .ref rc_20, .int 0, .int 0, .int 0, .int 0, .int 0])), (q_27, .inr (5, [.ref a1_31, .ref a2_31, .ref a3_31, .ref a4_31, .int 0, .int 0, .long 0])), (q_40, .inl (cA_40, 8, .inr (.inr (.inr (.inr (fun _ => none))))))] H := hP
  have hD : va_D A [(x0, .inr (11, [.ref q_5, .ref q_16, .ref q_27, .ref q_40, .ref q_47, .null, .null, .int 0, .int 0])), (q_5, .inr (2, [.ref cd_9, .int 0])), (cd_9, .inl (cI_9, 90, .inl (fun _ => 0))), (q_16, .inr (7, [.ref rw_20, .ref rc_20, .int 0, .int 0, .int 0, .int 0, .int 0])), (q_27, .inr (5, [.ref a1_31, .ref a2_31, .ref a3_31, .ref a4_31, .int 0, .int 0, .long 0])), (q_40, .inl (cA_40, 8, .inr (.inr (.inr (.inr (fun _ => none))))))] := hD
  refine lv_aload_n hx hb dX11_init_61 rfl (lv_at hl 0 rfl) ?_
  refine va_new (ci := 0) (fs := [.null, .null, .null, .null, .null, .null, .null, .null, .null, .null, .int 0, .long 0]) (C := RX0) (T := TX0) (N := 12) hx hb hg gwX0 tyX0 tyX0_ok hown (hg _ kw_194) (hg _ kw_195) (hg _ kw_196) hK hP hD hS hA rfl (by decide +kernel) (Nat.le_of_ble_eq_true rfl) (Nat.le_of_ble_eq_true rfl) dX11_init_62 (fun q_62 H hP hD hS => ?_)
  have hP : va_P D vwCl [(x0, .inr (11, [.ref q_5, .ref q_16, .ref q_27, .ref q_40, .ref q_47, .null, .null, .int 0, .int 0])), (q_5, .inr (2, [.ref cd_9, .int 0])), (cd_9, .inl (cI_9, 90, .inl (fun _ => 0))), (q_16, .inr (7, [.ref rw_20, .ref rc_20, .int 0, .int 0, .int 0, .int 0, .int 0])), (q_27, .inr (5, [.ref a1_31, .ref a2_31, .ref a3_31, .ref a4_31, .int 0, .int 0, .long 0])), (q_40, .inl (cA_40, 8, .inr (.inr (.inr (.inr (fun _ => none)))))), (q_62, .inr (0, [.null, .null, .null, .null, .null, .null, .null, .null, .null, .null, .int 0, .long 0]))] H := hP
  have hD : va_D A [(x0, .inr (11, [.ref q_5, .ref q_16, .ref q_27, .ref q_40, .ref q_47, .null, .null, .int 0, .int 0])), (q_5, .inr (2, [.ref cd_9, .int 0])), (cd_9, .inl (cI_9, 90, .inl (fun _ => 0))), (q_16, .inr (7, [.ref rw_20, .ref rc_20, .int 0, .int 0, .int 0, .int 0, .int 0])), (q_27, .inr (5, [.ref a1_31, .ref a2_31, .ref a3_31, .ref a4_31, .int 0, .int 0, .long 0])), (q_40, .inl (cA_40, 8, .inr (.inr (.inr (.inr (fun _ => none)))))), (q_62, .inr (0, [.null, .null, .null, .null, .null, .null, .null, .null, .null, .null, .int 0, .long 0]))] := hD
  refine W.cs (cells' := 26) (slots' := 728) rfl rfl ?_
  refine lv_dup hx hb dX11_init_65 rfl ?_
  refine lv_aload_n hx hb dX11_init_66 rfl (lv_at hl 0 rfl) ?_
  refine va_get (D := D) (ci := 11) (v := .ref q_27) (C := RX11) (T := TX11) (N := 9) hx hb hg gwX11 hown hK hP 0 rfl rfl 2 (by decide) (hg _ kw_7) (fun _ h9 => h9) rfl dX11_init_67 ?_
  have hPc := hP.sub (ws' := [(q_62, .inr (0, [.null, .null, .null, .null, .null, .null, .null, .null, .null, .null, .int 0, .long 0]))]) [6] rfl
  have hKc := hK.sub (tys' := []) [] rfl
  have hDc := hD.sub (ws' := [(q_62, .inr (0, [.null, .null, .null, .null, .null, .null, .null, .null, .null, .null, .int 0, .long 0]))]) [6] (by decide) rfl
  have hFc := va_free (wc := [(q_62, .inr (0, [.null, .null, .null, .null, .null, .null, .null, .null, .null, .null, .int 0, .long 0]))]) hD hS hA [6] rfl
  refine va_callv (va_runI (As := [.ref q_27]) (rest := [.ref q_62, .ref x0]) ⟨hx, hb, hml, hown, hg⟩ (i_cheapest l D q_62 q_27 _) (cwI 1 hg (gw_I kw_197) rfl rfl rfl (hg _ kw_196) (hg _ kw_198) (hg _ kw_199) rfl (by decide +kernel) ⟨Nat.le_of_ble_eq_true rfl, Nat.le_of_ble_eq_true rfl⟩) (pr_C hKc hPc hDc hN) rfl rfl hl.1 rfl (lv_room (Nat.le_of_ble_eq_true rfl)) dX11_init_70 ⟨Nat.le_of_ble_eq_true rfl, Nat.le_of_ble_eq_true rfl⟩) hS (fun q _ h => hFc q h) hFc (fun u t H1 locs ht hvm h_70 hB hz1 hk1 hS => ?_)
  obtain ⟨hP1, hK1, hD1⟩ := hB
  rw [ht] at hP1
  have hK1 := va_K.moved hvm.symm hK1
  obtain ⟨hP, hD⟩ := va_join (wr := [(x0, .inr (11, [.ref q_5, .ref q_16, .ref q_27, .ref q_40, .ref q_47, .null, .null, .int 0, .int 0])), (q_5, .inr (2, [.ref cd_9, .int 0])), (cd_9, .inl (cI_9, 90, .inl (fun _ => 0))), (q_16, .inr (7, [.ref rw_20, .ref rc_20, .int 0, .int 0, .int 0, .int 0, .int 0])), (q_27, .inr (5, [.ref a1_31, .ref a2_31, .ref a3_31, .ref a4_31, .int 0, .int 0, .long 0])), (q_40, .inl (cA_40, 8, .inr (.inr (.inr (.inr (fun _ => none))))))]) (w1 := []) hP hD [6] [0, 1, 2, 3, 4, 5] rfl rfl (by decide) (by decide) hk1 hFc hP1 hD1
  have hK := hK.app hK1
  generalize H1 = H at hP hS ⊢
  have hP : va_P D vwCl [(x0, .inr (11, [.ref q_5, .ref q_16, .ref q_27, .ref q_40, .ref q_47, .null, .null, .int 0, .int 0])), (q_5, .inr (2, [.ref cd_9, .int 0])), (cd_9, .inl (cI_9, 90, .inl (fun _ => 0))), (q_16, .inr (7, [.ref rw_20, .ref rc_20, .int 0, .int 0, .int 0, .int 0, .int 0])), (q_27, .inr (5, [.ref a1_31, .ref a2_31, .ref a3_31, .ref a4_31, .int 0, .int 0, .long 0])), (q_40, .inl (cA_40, 8, .inr (.inr (.inr (.inr (fun _ => none))))))] H := hP
  have hD : va_D A [(x0, .inr (11, [.ref q_5, .ref q_16, .ref q_27, .ref q_40, .ref q_47, .null, .null, .int 0, .int 0])), (q_5, .inr (2, [.ref cd_9, .int 0])), (cd_9, .inl (cI_9, 90, .inl (fun _ => 0))), (q_16, .inr (7, [.ref rw_20, .ref rc_20, .int 0, .int 0, .int 0, .int 0, .int 0])), (q_27, .inr (5, [.ref a1_31, .ref a2_31, .ref a3_31, .ref a4_31, .int 0, .int 0, .long 0])), (q_40, .inl (cA_40, 8, .inr (.inr (.inr (.inr (fun _ => none))))))] := hD
  have hK : va_K D vwCl [(cI_9, .int), (cA_40, .object RX3)] s := hK
  refine W.cs (cells' := 42) (slots' := 841) rfl rfl ?_
  try dsimp only at h_70
  refine va_putF (D := D) (ci := 11) (v := .ref q_62) (ty := .object "NobodyChecks$Cheapest") (C := RX11) (T := TX11) (N := 9) hx hb hg gwX11 tyX11 tyX11_ok nmX11 hown hK hP hD hS 0 rfl rfl 5 (by decide) (hg _ kw_200) (fun _ h9 => h9) rfl hin rfl (by decide +kernel) rfl rfl (Nat.le_of_ble_eq_true rfl) dX11_init_73 (fun H locs hP hD hS => ?_)
  have hP : va_P D vwCl [(x0, .inr (11, [.ref q_5, .ref q_16, .ref q_27, .ref q_40, .ref q_47, .ref q_62, .null, .int 0, .int 0])), (q_5, .inr (2, [.ref cd_9, .int 0])), (cd_9, .inl (cI_9, 90, .inl (fun _ => 0))), (q_16, .inr (7, [.ref rw_20, .ref rc_20, .int 0, .int 0, .int 0, .int 0, .int 0])), (q_27, .inr (5, [.ref a1_31, .ref a2_31, .ref a3_31, .ref a4_31, .int 0, .int 0, .long 0])), (q_40, .inl (cA_40, 8, .inr (.inr (.inr (.inr (fun _ => none))))))] H := hP
  have hD : va_D A [(x0, .inr (11, [.ref q_5, .ref q_16, .ref q_27, .ref q_40, .ref q_47, .ref q_62, .null, .int 0, .int 0])), (q_5, .inr (2, [.ref cd_9, .int 0])), (cd_9, .inl (cI_9, 90, .inl (fun _ => 0))), (q_16, .inr (7, [.ref rw_20, .ref rc_20, .int 0, .int 0, .int 0, .int 0, .int 0])), (q_27, .inr (5, [.ref a1_31, .ref a2_31, .ref a3_31, .ref a4_31, .int 0, .int 0, .long 0])), (q_40, .inl (cA_40, 8, .inr (.inr (.inr (.inr (fun _ => none))))))] := hD
  refine lv_aload_n hx hb dX11_init_76 rfl (lv_at hl 0 rfl) ?_
  refine va_new (ci := 8) (fs := [.null, .null, .int 0]) (C := RX8) (T := TX8) (N := 3) hx hb hg gwX8 tyX8 tyX8_ok hown (hg _ kw_201) (hg _ kw_202) (hg _ kw_203) hK hP hD hS hA rfl (by decide +kernel) (Nat.le_of_ble_eq_true rfl) (Nat.le_of_ble_eq_true rfl) dX11_init_77 (fun q_77 H hP hD hS => ?_)
  have hP : va_P D vwCl [(x0, .inr (11, [.ref q_5, .ref q_16, .ref q_27, .ref q_40, .ref q_47, .ref q_62, .null, .int 0, .int 0])), (q_5, .inr (2, [.ref cd_9, .int 0])), (cd_9, .inl (cI_9, 90, .inl (fun _ => 0))), (q_16, .inr (7, [.ref rw_20, .ref rc_20, .int 0, .int 0, .int 0, .int 0, .int 0])), (q_27, .inr (5, [.ref a1_31, .ref a2_31, .ref a3_31, .ref a4_31, .int 0, .int 0, .long 0])), (q_40, .inl (cA_40, 8, .inr (.inr (.inr (.inr (fun _ => none)))))), (q_77, .inr (8, [.null, .null, .int 0]))] H := hP
  have hD : va_D A [(x0, .inr (11, [.ref q_5, .ref q_16, .ref q_27, .ref q_40, .ref q_47, .ref q_62, .null, .int 0, .int 0])), (q_5, .inr (2, [.ref cd_9, .int 0])), (cd_9, .inl (cI_9, 90, .inl (fun _ => 0))), (q_16, .inr (7, [.ref rw_20, .ref rc_20, .int 0, .int 0, .int 0, .int 0, .int 0])), (q_27, .inr (5, [.ref a1_31, .ref a2_31, .ref a3_31, .ref a4_31, .int 0, .int 0, .long 0])), (q_40, .inl (cA_40, 8, .inr (.inr (.inr (.inr (fun _ => none)))))), (q_77, .inr (8, [.null, .null, .int 0]))] := hD
  refine W.cs (cells' := 43) (slots' := 844) rfl rfl ?_
  refine lv_dup hx hb dX11_init_80 rfl ?_
  have hPc := hP.sub (ws' := [(q_77, .inr (8, [.null, .null, .int 0]))]) [6] rfl
  have hKc := hK.sub (tys' := []) [] rfl
  have hDc := hD.sub (ws' := [(q_77, .inr (8, [.null, .null, .int 0]))]) [6] (by decide) rfl
  have hFc := va_free (wc := [(q_77, .inr (8, [.null, .null, .int 0]))]) hD hS hA [6] rfl
  refine va_callv (va_runIN (As := []) (rest := [.ref q_77, .ref x0]) ⟨hx, hb, hml, hown, hg⟩ (i_rows l D q_77 _) ⟨va_cnB 0 hg (gw_I kw_204) rfl rfl rfl (hN.1 (RX11, 54, yX8_init) (by decide +kernel)) (hg _ kw_203) (by decide +kernel) ⟨Nat.le_of_ble_eq_true rfl, Nat.le_of_ble_eq_true rfl⟩, rfl, hg _ kw_205⟩ (pr_C hKc hPc hDc hN) rfl rfl hl.1 rfl (lv_room (Nat.le_of_ble_eq_true rfl)) dX11_init_81 ⟨Nat.le_of_ble_eq_true rfl, Nat.le_of_ble_eq_true rfl⟩) hS (fun q _ h => hFc q h) hFc (fun u t H1 locs ht hvm h_81 hB hz1 hk1 hS => ?_)
  obtain ⟨r1_81, r2_81, hP1, hK1, hD1⟩ := hB
  rw [ht] at hP1
  have hK1 := va_K.moved hvm.symm hK1
  obtain ⟨hP, hD⟩ := va_join (wr := [(x0, .inr (11, [.ref q_5, .ref q_16, .ref q_27, .ref q_40, .ref q_47, .ref q_62, .null, .int 0, .int 0])), (q_5, .inr (2, [.ref cd_9, .int 0])), (cd_9, .inl (cI_9, 90, .inl (fun _ => 0))), (q_16, .inr (7, [.ref rw_20, .ref rc_20, .int 0, .int 0, .int 0, .int 0, .int 0])), (q_27, .inr (5, [.ref a1_31, .ref a2_31, .ref a3_31, .ref a4_31, .int 0, .int 0, .long 0])), (q_40, .inl (cA_40, 8, .inr (.inr (.inr (.inr (fun _ => none))))))]) (w1 := [(q_77, .inr (8, [.ref r1_81, .ref r2_81, .int 0]))]) hP hD [6] [0, 1, 2, 3, 4, 5] rfl rfl (by decide) (by decide) hk1 hFc hP1 hD1
  have hK := hK.app hK1
  generalize H1 = H at hP hS ⊢
  have hP : va_P D vwCl [(x0, .inr (11, [.ref q_5, .ref q_16, .ref q_27, .ref q_40, .ref q_47, .ref q_62, .null, .int 0, .int 0])), (q_5, .inr (2, [.ref cd_9, .int 0])), (cd_9, .inl (cI_9, 90, .inl (fun _ => 0))), (q_16, .inr (7, [.ref rw_20, .ref rc_20, .int 0, .int 0, .int 0, .int 0, .int 0])), (q_27, .inr (5, [.ref a1_31, .ref a2_31, .ref a3_31, .ref a4_31, .int 0, .int 0, .long 0])), (q_40, .inl (cA_40, 8, .inr (.inr (.inr (.inr (fun _ => none)))))), (q_77, .inr (8, [.ref r1_81, .ref r2_81, .int 0]))] H := hP
  have hD : va_D A [(x0, .inr (11, [.ref q_5, .ref q_16, .ref q_27, .ref q_40, .ref q_47, .ref q_62, .null, .int 0, .int 0])), (q_5, .inr (2, [.ref cd_9, .int 0])), (cd_9, .inl (cI_9, 90, .inl (fun _ => 0))), (q_16, .inr (7, [.ref rw_20, .ref rc_20, .int 0, .int 0, .int 0, .int 0, .int 0])), (q_27, .inr (5, [.ref a1_31, .ref a2_31, .ref a3_31, .ref a4_31, .int 0, .int 0, .long 0])), (q_40, .inl (cA_40, 8, .inr (.inr (.inr (.inr (fun _ => none)))))), (q_77, .inr (8, [.ref r1_81, .ref r2_81, .int 0]))] := hD
  have hK : va_K D vwCl [(cI_9, .int), (cA_40, .object RX3)] s := hK
  refine W.cs (cells' := 45) (slots' := 892) rfl rfl ?_
  try dsimp only at h_81
  refine va_putF (D := D) (ci := 11) (v := .ref q_77) (ty := .object "NobodyChecks$Rows") (C := RX11) (T := TX11) (N := 9) hx hb hg gwX11 tyX11 tyX11_ok nmX11 hown hK hP hD hS 0 rfl rfl 6 (by decide) (hg _ kw_32) (fun _ h9 => h9) rfl hin rfl (by decide +kernel) rfl rfl (Nat.le_of_ble_eq_true rfl) dX11_init_84 (fun H locs hP hD hS => ?_)
  have hP : va_P D vwCl [(x0, .inr (11, [.ref q_5, .ref q_16, .ref q_27, .ref q_40, .ref q_47, .ref q_62, .ref q_77, .int 0, .int 0])), (q_5, .inr (2, [.ref cd_9, .int 0])), (cd_9, .inl (cI_9, 90, .inl (fun _ => 0))), (q_16, .inr (7, [.ref rw_20, .ref rc_20, .int 0, .int 0, .int 0, .int 0, .int 0])), (q_27, .inr (5, [.ref a1_31, .ref a2_31, .ref a3_31, .ref a4_31, .int 0, .int 0, .long 0])), (q_40, .inl (cA_40, 8, .inr (.inr (.inr (.inr (fun _ => none)))))), (q_77, .inr (8, [.ref r1_81, .ref r2_81, .int 0]))] H := hP
  have hD : va_D A [(x0, .inr (11, [.ref q_5, .ref q_16, .ref q_27, .ref q_40, .ref q_47, .ref q_62, .ref q_77, .int 0, .int 0])), (q_5, .inr (2, [.ref cd_9, .int 0])), (cd_9, .inl (cI_9, 90, .inl (fun _ => 0))), (q_16, .inr (7, [.ref rw_20, .ref rc_20, .int 0, .int 0, .int 0, .int 0, .int 0])), (q_27, .inr (5, [.ref a1_31, .ref a2_31, .ref a3_31, .ref a4_31, .int 0, .int 0, .long 0])), (q_40, .inl (cA_40, 8, .inr (.inr (.inr (.inr (fun _ => none)))))), (q_77, .inr (8, [.ref r1_81, .ref r2_81, .int 0]))] := hD
  subst hQ
  refine W.widen (k := 45) (n := 892) (Nat.le_of_ble_eq_true rfl) (Nat.le_of_ble_eq_true rfl) ?_
  have hP9 := hP.sub (ws' := [(x0, .inr (11, [.ref q_5, .ref q_16, .ref q_27, .ref q_40, .ref q_47, .ref q_62, .ref q_77, .int 0, .int 0])), (q_5, .inr (2, [.ref cd_9, .int 0])), (cd_9, .inl (cI_9, 90, .inl (fun _ => 0))), (q_16, .inr (7, [.ref rw_20, .ref rc_20, .int 0, .int 0, .int 0, .int 0, .int 0])), (q_27, .inr (5, [.ref a1_31, .ref a2_31, .ref a3_31, .ref a4_31, .int 0, .int 0, .long 0])), (q_40, .inl (cA_40, 8, .inr (.inr (.inr (.inr (fun _ => none)))))), (q_77, .inr (8, [.ref r1_81, .ref r2_81, .int 0]))]) [0, 1, 2, 3, 4, 5, 6] rfl
  have hD9 := hD.sub (ws' := [(x0, .inr (11, [.ref q_5, .ref q_16, .ref q_27, .ref q_40, .ref q_47, .ref q_62, .ref q_77, .int 0, .int 0])), (q_5, .inr (2, [.ref cd_9, .int 0])), (cd_9, .inl (cI_9, 90, .inl (fun _ => 0))), (q_16, .inr (7, [.ref rw_20, .ref rc_20, .int 0, .int 0, .int 0, .int 0, .int 0])), (q_27, .inr (5, [.ref a1_31, .ref a2_31, .ref a3_31, .ref a4_31, .int 0, .int 0, .long 0])), (q_40, .inl (cA_40, 8, .inr (.inr (.inr (.inr (fun _ => none)))))), (q_77, .inr (8, [.ref r1_81, .ref r2_81, .int 0]))]) [0, 1, 2, 3, 4, 5, 6] (by decide) rfl
  have hK9 := hK.sub (tys' := [(cI_9, .int), (cA_40, .object RX3)]) [0, 1] rfl
  exact W.vret hx hb hr (fun t ht hW => ⟨⟨(), rfl, trivial, ⟨q_5, q_16, q_27, q_40, q_47, q_62, q_77, cd_9, rw_20, rc_20, a1_31, a2_31, a3_31, a4_31, r1_81, r2_81, cI_9, cA_40, by rw [ht]; exact hP9, va_K.moved hW.alike hK9, hD9⟩⟩, hS.F ht⟩) hS.2.2 dX11_init_87
