theorem dX12_blank_0 : decode cX12_blank 0 = .ok (.aload_n 0, 1) := by decide +kernel
theorem dX12_blank_1 : decode cX12_blank 1 = .ok (.getfield 63, 3) := by decide +kernel
theorem dX12_blank_4 : decode cX12_blank 4 = .ok (.istore_n 1, 1) := by decide +kernel
theorem dX12_blank_5 : decode cX12_blank 5 = .ok (.aload_n 0, 1) := by decide +kernel
theorem dX12_blank_6 : decode cX12_blank 6 = .ok (.iconst 0, 1) := by decide +kernel
theorem dX12_blank_7 : decode cX12_blank 7 = .ok (.putfield 63, 3) := by decide +kernel
theorem dX12_blank_10 : decode cX12_blank 10 = .ok (.iload_n 1, 1) := by decide +kernel
theorem dX12_blank_11 : decode cX12_blank 11 = .ok (.ireturn, 1) := by decide +kernel

set_option maxHeartbeats 4000000 in
set_option maxRecDepth 100000 in
theorem m_blank (l : Launch) (D : va_G) (m0 : Nat) (mp : Nat) (mw : Nat) (mh : Nat) (mo : Nat) (m5 : Nat) (m6 : Nat) (m7 : Nat) (mk : Nat) (mn : Nat) (mq : Nat) (m8 : Nat) (m9 : Nat) (ma : Nat) (mb : Nat) (md : Nat) (sz : Nat) : Met l yX12_blank (Cond.code yX12_blank cX12_blank 2 (some .int) :: gw_tbl) ({ frames := 0, cells := 0, slots := 0, locals := 0 }) (pc_M D [] [(m0, .inr (12, [.ref mp, .int 0, .int 0, .int 0, .ref mw, .ref mh, .ref mo, .int 0, .int 0, .int 0, .int 0, .int 0, .int 0, .ref m5, .ref m6, .ref m7, .long 0, .int 0, .ref mk, .ref mn, .int 0, .ref mq, .ref m8, .ref m9, .int 0, .int 0, .int 0, .int 0, .ref ma, .int 0, .ref mb, .ref md, .long 0]))] sz [.ref m0]) (va_Qi (fun (r : Int32) (u : Unit) => r = 0) (fun _ _ => True) (va_A [(m0, .inr (12, [.ref mp, .int 0, .int 0, .int 0, .ref mw, .ref mh, .ref mo, .int 0, .int 0, .int 0, .int 0, .int 0, .int 0, .ref m5, .ref m6, .ref m7, .long 0, .int 0, .ref mk, .ref mn, .int 0, .ref mq, .ref m8, .ref m9, .int 0, .int 0, .int 0, .int 0, .ref ma, .int 0, .ref mb, .ref md, .long 0]))] sz)) 0 0 (va_A [(m0, .inr (12, [.ref mp, .int 0, .int 0, .int 0, .ref mw, .ref mh, .ref mo, .int 0, .int 0, .int 0, .int 0, .int 0, .int 0, .ref m5, .ref m6, .ref m7, .long 0, .int 0, .ref mk, .ref mn, .int 0, .ref mq, .ref m8, .ref m9, .int 0, .int 0, .int 0, .int 0, .ref ma, .int 0, .ref mb, .ref md, .long 0]))] sz) := by
  refine Met.ofW (cc := cX12_blank) (maxL := 2) (ret := (some .int)) (by decide) rfl ?_
  intro p e s m args below meth c s₁ B hml hv
  obtain ⟨hargs, hsz, hP, hK, hD0⟩ := hv
  have hx := B.exec
  have hb := B.bytes
  have hr := B.returns
  have hts := atoms_spec (ws := Cond.code yX12_blank cX12_blank 2 (some .int) :: gw_tbl) B.pre
  have hg := fun (w : Cond) (h : w ∈ gw_tbl) => hts w (List.mem_cons_of_mem _ h)
  have hown : s.vm.findClass RX12 = some m.cls := findClass_of_methodNamed B.named
  have hlocks := B.notSynchronized
  subst hsz
  have hD := hD0.self (sz := s.heap.size)
  generalize hAe : va_A [(m0, .inr (12, [.ref mp, .int 0, .int 0, .int 0, .ref mw, .ref mh, .ref mo, .int 0, .int 0, .int 0, .int 0, .int 0, .int 0, .ref m5, .ref m6, .ref m7, .long 0, .int 0, .ref mk, .ref mn, .int 0, .ref mq, .ref m8, .ref m9, .int 0, .int 0, .int 0, .int 0, .ref ma, .int 0, .ref mb, .ref md, .long 0]))] s.heap.size = A at hD ⊢
  have hA : ∀ q : Nat, s.heap.size ≤ q → A q := fun q h => by rw [← hAe]; exact Or.inr h
  have hS : va_S A s.heap s.heap [] := va_S.rf
  have hP : va_P D vwCl [(m0, .inr (12, [.ref mp, .int 0, .int 0, .int 0, .ref mw, .ref mh, .ref mo, .int 0, .int 0, .int 0, .int 0, .int 0, .int 0, .ref m5, .ref m6, .ref m7, .long 0, .int 0, .ref mk, .ref mn, .int 0, .ref mq, .ref m8, .ref m9, .int 0, .int 0, .int 0, .int 0, .ref ma, .int 0, .ref mb, .ref md, .long 0]))] s.heap := hP
  have hl := lv_entry ([.ref m0]) (n := 2) (Nat.le_of_ble_eq_true rfl)
  rw [show entryFrame m args 2 = F0 m 0 (lg_sl ([.ref m0]) ++ List.replicate (2 - (lg_sl ([.ref m0])).length) Slot.unset).toArray [] from by rw [hargs]; exact lg_entry_eq ..]
  generalize (lg_sl ([.ref m0]) ++ List.replicate (2 - (lg_sl ([.ref m0])).length) Slot.unset).toArray = ls at hl ⊢
  have hl : lv_has ls 2 [(0, .ref m0)] := hl
  refine W_genQ (fun Q hQ => ?_)
  refine lv_aload_n hx hb dX12_blank_0 rfl (lv_at hl 0 rfl) ?_
  refine va_get (D := D) (ci := 12) (v := .int 0) (C := RX12) (T := TX12) (N := 33) hx hb hg gwX12 hown hK hP 0 rfl rfl 1 (by decide) (hg _ kw_232) (fun _ h9 => h9) rfl dX12_blank_1 ?_
  refine lv_istore_n (lv' := [(1, .int 0), (0, .ref m0)]) hx hb dX12_blank_4 rfl hl (by decide) rfl (fun ls hl => ?_)
  refine lv_aload_n hx hb dX12_blank_5 rfl (lv_at hl 1 rfl) ?_
  refine lv_iconst (v := 0) hx hb dX12_blank_6 (by decide) ?_
  refine va_put (D := D) (ci := 12) (v := .int 0) (ty := .int) (C := RX12) (T := TX12) (N := 33) hx hb hg gwX12 tyX12 tyX12_ok nmX12 hown hK hP hD hS 0 rfl rfl 1 (by decide) (hg _ kw_232) (fun _ h9 => h9) rfl (by decide +kernel) rfl rfl (Nat.le_of_ble_eq_true rfl) dX12_blank_7 (fun H locs hP hD hS => ?_)
  have hP : va_P D vwCl [(m0, .inr (12, [.ref mp, .int 0, .int 0, .int 0, .ref mw, .ref mh, .ref mo, .int 0, .int 0, .int 0, .int 0, .int 0, .int 0, .ref m5, .ref m6, .ref m7, .long 0, .int 0, .ref mk, .ref mn, .int 0, .ref mq, .ref m8, .ref m9, .int 0, .int 0, .int 0, .int 0, .ref ma, .int 0, .ref mb, .ref md, .long 0]))] H := hP
  have hD : va_D A [(m0, .inr (12, [.ref mp, .int 0, .int 0, .int 0, .ref mw, .ref mh, .ref mo, .int 0, .int 0, .int 0, .int 0, .int 0, .int 0, .ref m5, .ref m6, .ref m7, .long 0, .int 0, .ref mk, .ref mn, .int 0, .ref mq, .ref m8, .ref m9, .int 0, .int 0, .int 0, .int 0, .ref ma, .int 0, .ref mb, .ref md, .long 0]))] := hD
  refine lv_iload_n hx hb dX12_blank_10 rfl (lv_at hl 0 rfl) ?_
  subst hQ
  refine W.widen (k := 0) (n := 0) (Nat.le_of_ble_eq_true rfl) (Nat.le_of_ble_eq_true rfl) ?_
  exact W.iret (v := 0) hx hb hr (fun t ht hW => ⟨⟨0, (), rfl, rfl, trivial⟩, hS.F ht⟩) hS.2.2 dX12_blank_11

theorem dX12_faultOf_0 : decode cX12_faultOf 0 = .ok (.aload_n 0, 1) := by decide +kernel
theorem dX12_faultOf_1 : decode cX12_faultOf 1 = .ok (.iconst 0, 1) := by decide +kernel
theorem dX12_faultOf_2 : decode cX12_faultOf 2 = .ok (.putfield 86, 3) := by decide +kernel
theorem dX12_faultOf_5 : decode cX12_faultOf 5 = .ok (.aload_n 0, 1) := by decide +kernel
theorem dX12_faultOf_6 : decode cX12_faultOf 6 = .ok (.iconst 0, 1) := by decide +kernel
theorem dX12_faultOf_7 : decode cX12_faultOf 7 = .ok (.putfield 80, 3) := by decide +kernel
theorem dX12_faultOf_10 : decode cX12_faultOf 10 = .ok (.aload_n 0, 1) := by decide +kernel
theorem dX12_faultOf_11 : decode cX12_faultOf 11 = .ok (.iconst 0, 1) := by decide +kernel
theorem dX12_faultOf_12 : decode cX12_faultOf 12 = .ok (.putfield 89, 3) := by decide +kernel
theorem dX12_faultOf_15 : decode cX12_faultOf 15 = .ok (.iconst 0, 1) := by decide +kernel
theorem dX12_faultOf_16 : decode cX12_faultOf 16 = .ok (.istore_n 1, 1) := by decide +kernel
theorem dX12_faultOf_17 : decode cX12_faultOf 17 = .ok (.iload_n 1, 1) := by decide +kernel
theorem dX12_faultOf_18 : decode cX12_faultOf 18 = .ok (.aload_n 0, 1) := by decide +kernel
theorem dX12_faultOf_19 : decode cX12_faultOf 19 = .ok (.getfield 63, 3) := by decide +kernel
theorem dX12_faultOf_22 : decode cX12_faultOf 22 = .ok (.if_icmp .ge 22, 3) := by decide +kernel
theorem dX12_faultOf_25 : decode cX12_faultOf 25 = .ok (.aload_n 0, 1) := by decide +kernel
theorem dX12_faultOf_26 : decode cX12_faultOf 26 = .ok (.aload_n 0, 1) := by decide +kernel
theorem dX12_faultOf_27 : decode cX12_faultOf 27 = .ok (.getfield 7, 3) := by decide +kernel
theorem dX12_faultOf_30 : decode cX12_faultOf 30 = .ok (.iload_n 1, 1) := by decide +kernel
theorem dX12_faultOf_31 : decode cX12_faultOf 31 = .ok (.iaload, 1) := by decide +kernel
theorem dX12_faultOf_32 : decode cX12_faultOf 32 = .ok (.invokevirtual 96, 3) := by decide +kernel
theorem dX12_faultOf_35 : decode cX12_faultOf 35 = .ok (.ifCond .eq 9, 3) := by decide +kernel
theorem dX12_faultOf_38 : decode cX12_faultOf 38 = .ok (.iinc 1 1, 3) := by decide +kernel
theorem dX12_faultOf_41 : decode cX12_faultOf 41 = .ok (.goto (-24), 3) := by decide +kernel
theorem dX12_faultOf_44 : decode cX12_faultOf 44 = .ok (.iload_n 1, 1) := by decide +kernel
theorem dX12_faultOf_45 : decode cX12_faultOf 45 = .ok (.ireturn, 1) := by decide +kernel
theorem kw_238 : (.fieldLink RX12 86 "NobodyChecksModel" "state" "I" : Cond) ∈ gw_tbl := gw_in (by decide +kernel) (by decide +kernel)
theorem kw_239 : (.fieldLink RX12 80 "NobodyChecksModel" "readCases" "I" : Cond) ∈ gw_tbl := gw_in (by decide +kernel) (by decide +kernel)
theorem kw_240 : (.fieldLink RX12 89 "NobodyChecksModel" "readPersons" "I" : Cond) ∈ gw_tbl := gw_in (by decide +kernel) (by decide +kernel)

set_option maxHeartbeats 4000000 in
set_option maxRecDepth 100000 in
theorem m_faultOf (l : Launch) (D : va_G) (m0 : Nat) (mp : Nat) (mw : Nat) (mh : Nat) (mo : Nat) (m5 : Nat) (m6 : Nat) (m7 : Nat) (mk : Nat) (mn : Nat) (mq : Nat) (m8 : Nat) (m9 : Nat) (ma : Nat) (mb : Nat) (md : Nat) (sz : Nat) : Met l yX12_faultOf (Cond.code yX12_faultOf cX12_faultOf 2 (some .int) :: gw_tbl) ({ frames := 0, cells := 0, slots := 0, locals := 0 }) (pc_M D [] [(m0, .inr (12, [.ref mp, .int 0, .int 0, .int 0, .ref mw, .ref mh, .ref mo, .int 0, .int 0, .int 0, .int 0, .int 0, .int 0, .ref m5, .ref m6, .ref m7, .long 0, .int 0, .ref mk, .ref mn, .int 0, .ref mq, .ref m8, .ref m9, .int 0, .int 0, .int 0, .int 0, .ref ma, .int 0, .ref mb, .ref md, .long 0]))] sz [.ref m0]) (va_Qi (fun (r : Int32) (u : Unit) => r = 0) (fun _ t => va_P D vwCl [(m0, .inr (12, [.ref mp, .int 0, .int 0, .int 0, .ref mw, .ref mh, .ref mo, .int 0, .int 0, .int 0, .int 0, .int 0, .int 0, .ref m5, .ref m6, .ref m7, .long 0, .int 0, .ref mk, .ref mn, .int 0, .ref mq, .ref m8, .ref m9, .int 0, .int 0, .int 0, .int 0, .ref ma, .int 0, .ref mb, .ref md, .long 0]))] t.heap ∧ va_K D vwCl [] t ∧ va_D (va_A [(m0, .inr (12, [.ref mp, .int 0, .int 0, .int 0, .ref mw, .ref mh, .ref mo, .int 0, .int 0, .int 0, .int 0, .int 0, .int 0, .ref m5, .ref m6, .ref m7, .long 0, .int 0, .ref mk, .ref mn, .int 0, .ref mq, .ref m8, .ref m9, .int 0, .int 0, .int 0, .int 0, .ref ma, .int 0, .ref mb, .ref md, .long 0]))] sz) [(m0, .inr (12, [.ref mp, .int 0, .int 0, .int 0, .ref mw, .ref mh, .ref mo, .int 0, .int 0, .int 0, .int 0, .int 0, .int 0, .ref m5, .ref m6, .ref m7, .long 0, .int 0, .ref mk, .ref mn, .int 0, .ref mq, .ref m8, .ref m9, .int 0, .int 0, .int 0, .int 0, .ref ma, .int 0, .ref mb, .ref md, .long 0]))]) (va_A [(m0, .inr (12, [.ref mp, .int 0, .int 0, .int 0, .ref mw, .ref mh, .ref mo, .int 0, .int 0, .int 0, .int 0, .int 0, .int 0, .ref m5, .ref m6, .ref m7, .long 0, .int 0, .ref mk, .ref mn, .int 0, .ref mq, .ref m8, .ref m9, .int 0, .int 0, .int 0, .int 0, .ref ma, .int 0, .ref mb, .ref md, .long 0]))] sz)) 0 0 (va_A [(m0, .inr (12, [.ref mp, .int 0, .int 0, .int 0, .ref mw, .ref mh, .ref mo, .int 0, .int 0, .int 0, .int 0, .int 0, .int 0, .ref m5, .ref m6, .ref m7, .long 0, .int 0, .ref mk, .ref mn, .int 0, .ref mq, .ref m8, .ref m9, .int 0, .int 0, .int 0, .int 0, .ref ma, .int 0, .ref mb, .ref md, .long 0]))] sz) := by
  refine Met.ofW (cc := cX12_faultOf) (maxL := 2) (ret := (some .int)) (by decide) rfl ?_
  intro p e s m args below meth c s₁ B hml hv
  obtain ⟨hargs, hsz, hP, hK, hD0⟩ := hv
  have hx := B.exec
  have hb := B.bytes
  have hr := B.returns
  have hts := atoms_spec (ws := Cond.code yX12_faultOf cX12_faultOf 2 (some .int) :: gw_tbl) B.pre
  have hg := fun (w : Cond) (h : w ∈ gw_tbl) => hts w (List.mem_cons_of_mem _ h)
  have hown : s.vm.findClass RX12 = some m.cls := findClass_of_methodNamed B.named
  have hlocks := B.notSynchronized
  subst hsz
  have hD := hD0.self (sz := s.heap.size)
  generalize hAe : va_A [(m0, .inr (12, [.ref mp, .int 0, .int 0, .int 0, .ref mw, .ref mh, .ref mo, .int 0, .int 0, .int 0, .int 0, .int 0, .int 0, .ref m5, .ref m6, .ref m7, .long 0, .int 0, .ref mk, .ref mn, .int 0, .ref mq, .ref m8, .ref m9, .int 0, .int 0, .int 0, .int 0, .ref ma, .int 0, .ref mb, .ref md, .long 0]))] s.heap.size = A at hD ⊢
  have hA : ∀ q : Nat, s.heap.size ≤ q → A q := fun q h => by rw [← hAe]; exact Or.inr h
  have hS : va_S A s.heap s.heap [] := va_S.rf
  have hP : va_P D vwCl [(m0, .inr (12, [.ref mp, .int 0, .int 0, .int 0, .ref mw, .ref mh, .ref mo, .int 0, .int 0, .int 0, .int 0, .int 0, .int 0, .ref m5, .ref m6, .ref m7, .long 0, .int 0, .ref mk, .ref mn, .int 0, .ref mq, .ref m8, .ref m9, .int 0, .int 0, .int 0, .int 0, .ref ma, .int 0, .ref mb, .ref md, .long 0]))] s.heap := hP
  have hl := lv_entry ([.ref m0]) (n := 2) (Nat.le_of_ble_eq_true rfl)
  rw [show entryFrame m args 2 = F0 m 0 (lg_sl ([.ref m0]) ++ List.replicate (2 - (lg_sl ([.ref m0])).length) Slot.unset).toArray [] from by rw [hargs]; exact lg_entry_eq ..]
  generalize (lg_sl ([.ref m0]) ++ List.replicate (2 - (lg_sl ([.ref m0])).length) Slot.unset).toArray = ls at hl ⊢
  have hl : lv_has ls 2 [(0, .ref m0)] := hl
  refine W_genQ (fun Q hQ => ?_)
  refine lv_aload_n hx hb dX12_faultOf_0 rfl (lv_at hl 0 rfl) ?_
  refine lv_iconst (v := 0) hx hb dX12_faultOf_1 (by decide) ?_
  refine va_put (D := D) (ci := 12) (v := .int 0) (ty := .int) (C := RX12) (T := TX12) (N := 33) hx hb hg gwX12 tyX12 tyX12_ok nmX12 hown hK hP hD hS 0 rfl rfl 7 (by decide) (hg _ kw_238) (fun _ h9 => h9) rfl (by decide +kernel) rfl rfl (Nat.le_of_ble_eq_true rfl) dX12_faultOf_2 (fun H locs hP hD hS => ?_)
  have hP : va_P D vwCl [(m0, .inr (12, [.ref mp, .int 0, .int 0, .int 0, .ref mw, .ref mh, .ref mo, .int 0, .int 0, .int 0, .int 0, .int 0, .int 0, .ref m5, .ref m6, .ref m7, .long 0, .int 0, .ref mk, .ref mn, .int 0, .ref mq, .ref m8, .ref m9, .int 0, .int 0, .int 0, .int 0, .ref ma, .int 0, .ref mb, .ref md, .long 0]))] H := hP
  have hD : va_D A [(m0, .inr (12, [.ref mp, .int 0, .int 0, .int 0, .ref mw, .ref mh, .ref mo, .int 0, .int 0, .int 0, .int 0, .int 0, .int 0, .ref m5, .ref m6, .ref m7, .long 0, .int 0, .ref mk, .ref mn, .int 0, .ref mq, .ref m8, .ref m9, .int 0, .int 0, .int 0, .int 0, .ref ma, .int 0, .ref mb, .ref md, .long 0]))] := hD
  refine lv_aload_n hx hb dX12_faultOf_5 rfl (lv_at hl 0 rfl) ?_
  refine lv_iconst (v := 0) hx hb dX12_faultOf_6 (by decide) ?_
  refine va_put (D := D) (ci := 12) (v := .int 0) (ty := .int) (C := RX12) (T := TX12) (N := 33) hx hb hg gwX12 tyX12 tyX12_ok nmX12 hown hK hP hD hS 0 rfl rfl 10 (by decide) (hg _ kw_239) (fun _ h9 => h9) rfl (by decide +kernel) rfl rfl (Nat.le_of_ble_eq_true rfl) dX12_faultOf_7 (fun H locs hP hD hS => ?_)
  have hP : va_P D vwCl [(m0, .inr (12, [.ref mp, .int 0, .int 0, .int 0, .ref mw, .ref mh, .ref mo, .int 0, .int 0, .int 0, .int 0, .int 0, .int 0, .ref m5, .ref m6, .ref m7, .long 0, .int 0, .ref mk, .ref mn, .int 0, .ref mq, .ref m8, .ref m9, .int 0, .int 0, .int 0, .int 0, .ref ma, .int 0, .ref mb, .ref md, .long 0]))] H := hP
  have hD : va_D A [(m0, .inr (12, [.ref mp, .int 0, .int 0, .int 0, .ref mw, .ref mh, .ref mo, .int 0, .int 0, .int 0, .int 0, .int 0, .int 0, .ref m5, .ref m6, .ref m7, .long 0, .int 0, .ref mk, .ref mn, .int 0, .ref mq, .ref m8, .ref m9, .int 0, .int 0, .int 0, .int 0, .ref ma, .int 0, .ref mb, .ref md, .long 0]))] := hD
  refine lv_aload_n hx hb dX12_faultOf_10 rfl (lv_at hl 0 rfl) ?_
  refine lv_iconst (v := 0) hx hb dX12_faultOf_11 (by decide) ?_
  refine va_put (D := D) (ci := 12) (v := .int 0) (ty := .int) (C := RX12) (T := TX12) (N := 33) hx hb hg gwX12 tyX12 tyX12_ok nmX12 hown hK hP hD hS 0 rfl rfl 11 (by decide) (hg _ kw_240) (fun _ h9 => h9) rfl (by decide +kernel) rfl rfl (Nat.le_of_ble_eq_true rfl) dX12_faultOf_12 (fun H locs hP hD hS => ?_)
  have hP : va_P D vwCl [(m0, .inr (12, [.ref mp, .int 0, .int 0, .int 0, .ref mw, .ref mh, .ref mo, .int 0, .int 0, .int 0, .int 0, .int 0, .int 0, .ref m5, .ref m6, .ref m7, .long 0, .int 0, .ref mk, .ref mn, .int 0, .ref mq, .ref m8, .ref m9, .int 0, .int 0, .int 0, .int 0, .ref ma, .int 0, .ref mb, .ref md, .long 0]))] H := hP
  have hD : va_D A [(m0, .inr (12, [.ref mp, .int 0, .int 0, .int 0, .ref mw, .ref mh, .ref mo, .int 0, .int 0, .int 0, .int 0, .int 0, .int 0, .ref m5, .ref m6, .ref m7, .long 0, .int 0, .ref mk, .ref mn, .int 0, .ref mq, .ref m8, .ref m9, .int 0, .int 0, .int 0, .int 0, .ref ma, .int 0, .ref mb, .ref md, .long 0]))] := hD
  refine lv_iconst (v := 0) hx hb dX12_faultOf_15 (by decide) ?_
  refine lv_istore_n (lv' := [(1, .int 0), (0, .ref m0)]) hx hb dX12_faultOf_16 rfl hl (by decide) rfl (fun ls hl => ?_)
  refine lv_iload_n hx hb dX12_faultOf_17 rfl (lv_at hl 0 rfl) ?_
  refine lv_aload_n hx hb dX12_faultOf_18 rfl (lv_at hl 1 rfl) ?_
  refine va_get (D := D) (ci := 12) (v := .int 0) (C := RX12) (T := TX12) (N := 33) hx hb hg gwX12 hown hK hP 0 rfl rfl 1 (by decide) (hg _ kw_232) (fun _ h9 => h9) rfl dX12_faultOf_19 ?_
  refine lv_icmp_ge (tgt := 44) hx hb dX12_faultOf_22 (by decide) (fun c_22 => ?_) (fun c_22 => absurd c_22 (by decide))
  refine lv_iload_n hx hb dX12_faultOf_44 rfl (lv_at hl 0 rfl) ?_
  subst hQ
  refine W.widen (k := 0) (n := 0) (Nat.le_of_ble_eq_true rfl) (Nat.le_of_ble_eq_true rfl) ?_
  have hP9 := hP.sub (ws' := [(m0, .inr (12, [.ref mp, .int 0, .int 0, .int 0, .ref mw, .ref mh, .ref mo, .int 0, .int 0, .int 0, .int 0, .int 0, .int 0, .ref m5, .ref m6, .ref m7, .long 0, .int 0, .ref mk, .ref mn, .int 0, .ref mq, .ref m8, .ref m9, .int 0, .int 0, .int 0, .int 0, .ref ma, .int 0, .ref mb, .ref md, .long 0]))]) [0] rfl
  have hD9 := hD.sub (ws' := [(m0, .inr (12, [.ref mp, .int 0, .int 0, .int 0, .ref mw, .ref mh, .ref mo, .int 0, .int 0, .int 0, .int 0, .int 0, .int 0, .ref m5, .ref m6, .ref m7, .long 0, .int 0, .ref mk, .ref mn, .int 0, .ref mq, .ref m8, .ref m9, .int 0, .int 0, .int 0, .int 0, .ref ma, .int 0, .ref mb, .ref md, .long 0]))]) [0] (by decide) rfl
  have hK9 := hK.sub (tys' := []) [] rfl
  exact W.iret (v := 0) hx hb hr (fun t ht hW => ⟨⟨0, (), rfl, rfl, ⟨by rw [ht]; exact hP9, va_K.moved hW.alike hK9, hD9⟩⟩, hS.F ht⟩) hS.2.2 dX12_faultOf_45

theorem dX12_fault_0 : decode cX12_fault 0 = .ok (.aload_n 0, 1) := by decide +kernel
theorem dX12_fault_1 : decode cX12_fault 1 = .ok (.invokevirtual 99, 3) := by decide +kernel
theorem dX12_fault_4 : decode cX12_fault 4 = .ok (.ireturn, 1) := by decide +kernel
theorem kw_241 : (.code yX12_faultOf cX12_faultOf 2 (some .int) : Cond) ∈ gw_tbl := gw_in (by decide +kernel) (by decide +kernel)
theorem kw_242 : (.methodLink RX12 99 yX12_faultOf : Cond) ∈ gw_tbl := gw_in (by decide +kernel) (by decide +kernel)
theorem kw_243 : (.instanceMethod yX12_faultOf : Cond) ∈ gw_tbl := gw_in (by decide +kernel) (by decide +kernel)
theorem kw_244 : (.selects RX12 yX12_faultOf yX12_faultOf : Cond) ∈ gw_tbl := gw_in (by decide +kernel) (by decide +kernel)

set_option maxHeartbeats 4000000 in
set_option maxRecDepth 100000 in
theorem m_fault (l : Launch) (D : va_G) (m0 : Nat) (mp : Nat) (mw : Nat) (mh : Nat) (mo : Nat) (m5 : Nat) (m6 : Nat) (m7 : Nat) (mk : Nat) (mn : Nat) (mq : Nat) (m8 : Nat) (m9 : Nat) (ma : Nat) (mb : Nat) (md : Nat) (sz : Nat) : Met l yX12_fault (Cond.code yX12_fault cX12_fault 1 (some .int) :: gw_tbl) ({ frames := 1, cells := 0, slots := 0, locals := 21 }) (pc_M D [] [(m0, .inr (12, [.ref mp, .int 0, .int 0, .int 0, .ref mw, .ref mh, .ref mo, .int 0, .int 0, .int 0, .int 0, .int 0, .int 0, .ref m5, .ref m6, .ref m7, .long 0, .int 0, .ref mk, .ref mn, .int 0, .ref mq, .ref m8, .ref m9, .int 0, .int 0, .int 0, .int 0, .ref ma, .int 0, .ref mb, .ref md, .long 0]))] sz [.ref m0]) (va_Qi (fun (r : Int32) (u : Unit) => r = 0) (fun _ _ => True) (va_A [(m0, .inr (12, [.ref mp, .int 0, .int 0, .int 0, .ref mw, .ref mh, .ref mo, .int 0, .int 0, .int 0, .int 0, .int 0, .int 0, .ref m5, .ref m6, .ref m7, .long 0, .int 0, .ref mk, .ref mn, .int 0, .ref mq, .ref m8, .ref m9, .int 0, .int 0, .int 0, .int 0, .ref ma, .int 0, .ref mb, .ref md, .long 0]))] sz)) 0 0 (va_A [(m0, .inr (12, [.ref mp, .int 0, .int 0, .int 0, .ref mw, .ref mh, .ref mo, .int 0, .int 0, .int 0, .int 0, .int 0, .int 0, .ref m5, .ref m6, .ref m7, .long 0, .int 0, .ref mk, .ref mn, .int 0, .ref mq, .ref m8, .ref m9, .int 0, .int 0, .int 0, .int 0, .ref ma, .int 0, .ref mb, .ref md, .long 0]))] sz) := by
  refine Met.ofW (cc := cX12_fault) (maxL := 1) (ret := (some .int)) (by decide) rfl ?_
  intro p e s m args below meth c s₁ B hml hv
  obtain ⟨hargs, hsz, hP, hK, hD0⟩ := hv
  have hx := B.exec
  have hb := B.bytes
  have hr := B.returns
  have hts := atoms_spec (ws := Cond.code yX12_fault cX12_fault 1 (some .int) :: gw_tbl) B.pre
  have hg := fun (w : Cond) (h : w ∈ gw_tbl) => hts w (List.mem_cons_of_mem _ h)
  have hown : s.vm.findClass RX12 = some m.cls := findClass_of_methodNamed B.named
  have hlocks := B.notSynchronized
  subst hsz
  have hD := hD0.self (sz := s.heap.size)
  generalize hAe : va_A [(m0, .inr (12, [.ref mp, .int 0, .int 0, .int 0, .ref mw, .ref mh, .ref mo, .int 0, .int 0, .int 0, .int 0, .int 0, .int 0, .ref m5, .ref m6, .ref m7, .long 0, .int 0, .ref mk, .ref mn, .int 0, .ref mq, .ref m8, .ref m9, .int 0, .int 0, .int 0, .int 0, .ref ma, .int 0, .ref mb, .ref md, .long 0]))] s.heap.size = A at hD ⊢
  have hA : ∀ q : Nat, s.heap.size ≤ q → A q := fun q h => by rw [← hAe]; exact Or.inr h
  have hS : va_S A s.heap s.heap [] := va_S.rf
  have hP : va_P D vwCl [(m0, .inr (12, [.ref mp, .int 0, .int 0, .int 0, .ref mw, .ref mh, .ref mo, .int 0, .int 0, .int 0, .int 0, .int 0, .int 0, .ref m5, .ref m6, .ref m7, .long 0, .int 0, .ref mk, .ref mn, .int 0, .ref mq, .ref m8, .ref m9, .int 0, .int 0, .int 0, .int 0, .ref ma, .int 0, .ref mb, .ref md, .long 0]))] s.heap := hP
  have hl := lv_entry ([.ref m0]) (n := 1) (Nat.le_of_ble_eq_true rfl)
  rw [show entryFrame m args 1 = F0 m 0 (lg_sl ([.ref m0]) ++ List.replicate (1 - (lg_sl ([.ref m0])).length) Slot.unset).toArray [] from by rw [hargs]; exact lg_entry_eq ..]
  generalize (lg_sl ([.ref m0]) ++ List.replicate (1 - (lg_sl ([.ref m0])).length) Slot.unset).toArray = ls at hl ⊢
  have hl : lv_has ls 1 [(0, .ref m0)] := hl
  refine W_genQ (fun Q hQ => ?_)
  refine lv_aload_n hx hb dX12_fault_0 rfl (lv_at hl 0 rfl) ?_
  have hPc := hP.sub (ws' := [(m0, .inr (12, [.ref mp, .int 0, .int 0, .int 0, .ref mw, .ref mh, .ref mo, .int 0, .int 0, .int 0, .int 0, .int 0, .int 0, .ref m5, .ref m6, .ref m7, .long 0, .int 0, .ref mk, .ref mn, .int 0, .ref mq, .ref m8, .ref m9, .int 0, .int 0, .int 0, .int 0, .ref ma, .int 0, .ref mb, .ref md, .long 0]))]) [0] rfl
  have hKc := hK.sub (tys' := []) [] rfl
  have hDc := hD.sub (ws' := [(m0, .inr (12, [.ref mp, .int 0, .int 0, .int 0, .ref mw, .ref mh, .ref mo, .int 0, .int 0, .int 0, .int 0, .int 0, .int 0, .ref m5, .ref m6, .ref m7, .long 0, .int 0, .ref mk, .ref mn, .int 0, .ref mq, .ref m8, .ref m9, .int 0, .int 0, .int 0, .int 0, .ref ma, .int 0, .ref mb, .ref md, .long 0]))]) [0] (by decide) rfl
  have hFc := va_free (wc := [(m0, .inr (12, [.ref mp, .int 0, .int 0, .int 0, .ref mw, .ref mh, .ref mo, .int 0, .int 0, .int 0, .int 0, .int 0, .int 0, .ref m5, .ref m6, .ref m7, .long 0, .int 0, .ref mk, .ref mn, .int 0, .ref mq, .ref m8, .ref m9, .int 0, .int 0, .int 0, .int 0, .ref ma, .int 0, .ref mb, .ref md, .long 0]))]) hD hS hA [0] rfl
  refine va_calli (va_runV (As := []) (rest := []) ⟨hx, hb, hml, hown, hg⟩ (m_faultOf l D m0 mp mw mh mo m5 m6 m7 mk mn mq m8 m9 ma mb md _) (cwV 0 hg (gw_V kw_242 kw_243 kw_244 kw_210 kw_241) rfl rfl rfl (by decide +kernel) ⟨Nat.le_of_ble_eq_true rfl, Nat.le_of_ble_eq_true rfl⟩) (pr_MV (q := (RX12, TX12, 33)) 12 0 hKc hPc hDc rfl rfl) rfl rfl hl.1 rfl (lv_room (Nat.le_of_ble_eq_true rfl)) dX12_fault_1 ⟨Nat.le_of_ble_eq_true rfl, Nat.le_of_ble_eq_true rfl⟩) hS (fun q _ h => hFc q h) hFc (fun r_1 u t H1 locs ht hvm h_1 hB hz1 hk1 hS => ?_)
  obtain ⟨hP1, hK1, hD1⟩ := hB
  rw [ht] at hP1
  have hK1 := va_K.moved hvm.symm hK1
  obtain ⟨hP, hD⟩ := va_join (wr := []) (w1 := [(m0, .inr (12, [.ref mp, .int 0, .int 0, .int 0, .ref mw, .ref mh, .ref mo, .int 0, .int 0, .int 0, .int 0, .int 0, .int 0, .ref m5, .ref m6, .ref m7, .long 0, .int 0, .ref mk, .ref mn, .int 0, .ref mq, .ref m8, .ref m9, .int 0, .int 0, .int 0, .int 0, .ref ma, .int 0, .ref mb, .ref md, .long 0]))]) hP hD [0] [] rfl rfl (by decide) (by decide) hk1 hFc hP1 hD1
  have hK := hK.app hK1
  generalize H1 = H at hP hS ⊢
  have hP : va_P D vwCl [(m0, .inr (12, [.ref mp, .int 0, .int 0, .int 0, .ref mw, .ref mh, .ref mo, .int 0, .int 0, .int 0, .int 0, .int 0, .int 0, .ref m5, .ref m6, .ref m7, .long 0, .int 0, .ref mk, .ref mn, .int 0, .ref mq, .ref m8, .ref m9, .int 0, .int 0, .int 0, .int 0, .ref ma, .int 0, .ref mb, .ref md, .long 0]))] H := hP
  have hD : va_D A [(m0, .inr (12, [.ref mp, .int 0, .int 0, .int 0, .ref mw, .ref mh, .ref mo, .int 0, .int 0, .int 0, .int 0, .int 0, .int 0, .ref m5, .ref m6, .ref m7, .long 0, .int 0, .ref mk, .ref mn, .int 0, .ref mq, .ref m8, .ref m9, .int 0, .int 0, .int 0, .int 0, .ref ma, .int 0, .ref mb, .ref md, .long 0]))] := hD
  have hK : va_K D vwCl [] s := hK
  refine W.cs (cells' := 0) (slots' := 0) rfl rfl ?_
  obtain rfl : r_1 = (0 : Int32) := h_1
  subst hQ
  refine W.widen (k := 0) (n := 0) (Nat.le_of_ble_eq_true rfl) (Nat.le_of_ble_eq_true rfl) ?_
  exact W.iret (v := 0) hx hb hr (fun t ht hW => ⟨⟨0, (), rfl, rfl, trivial⟩, hS.F ht⟩) hS.2.2 dX12_fault_4

theorem dX12_question_0 : decode cX12_question 0 = .ok (.aload_n 0, 1) := by decide +kernel
theorem dX12_question_1 : decode cX12_question 1 = .ok (.invokevirtual 99, 3) := by decide +kernel
theorem dX12_question_4 : decode cX12_question 4 = .ok (.aload_n 0, 1) := by decide +kernel
theorem dX12_question_5 : decode cX12_question 5 = .ok (.getfield 63, 3) := by decide +kernel
theorem dX12_question_8 : decode cX12_question 8 = .ok (.if_icmp .ne 15, 3) := by decide +kernel
theorem dX12_question_11 : decode cX12_question 11 = .ok (.aload_n 0, 1) := by decide +kernel
theorem dX12_question_12 : decode cX12_question 12 = .ok (.getfield 86, 3) := by decide +kernel
theorem dX12_question_15 : decode cX12_question 15 = .ok (.iconst 4, 1) := by decide +kernel
theorem dX12_question_16 : decode cX12_question 16 = .ok (.if_icmp .ne 7, 3) := by decide +kernel
theorem dX12_question_19 : decode cX12_question 19 = .ok (.iconst 1, 1) := by decide +kernel
theorem dX12_question_20 : decode cX12_question 20 = .ok (.goto 4, 3) := by decide +kernel
theorem dX12_question_23 : decode cX12_question 23 = .ok (.iconst 0, 1) := by decide +kernel
theorem dX12_question_24 : decode cX12_question 24 = .ok (.istore_n 1, 1) := by decide +kernel
theorem dX12_question_25 : decode cX12_question 25 = .ok (.iload_n 1, 1) := by decide +kernel
theorem dX12_question_26 : decode cX12_question 26 = .ok (.ifCond .eq 37, 3) := by decide +kernel
theorem dX12_question_29 : decode cX12_question 29 = .ok (.aload_n 0, 1) := by decide +kernel
theorem dX12_question_30 : decode cX12_question 30 = .ok (.getfield 80, 3) := by decide +kernel
theorem dX12_question_33 : decode cX12_question 33 = .ok (.ifCond .ne 13, 3) := by decide +kernel
theorem dX12_question_36 : decode cX12_question 36 = .ok (.aload_n 0, 1) := by decide +kernel
theorem dX12_question_37 : decode cX12_question 37 = .ok (.getfield 83, 3) := by decide +kernel
theorem dX12_question_40 : decode cX12_question 40 = .ok (.ifCond .le 23, 3) := by decide +kernel
theorem dX12_question_43 : decode cX12_question 43 = .ok (.goto 16, 3) := by decide +kernel
theorem dX12_question_46 : decode cX12_question 46 = .ok (.aload_n 0, 1) := by decide +kernel
theorem dX12_question_47 : decode cX12_question 47 = .ok (.getfield 83, 3) := by decide +kernel
theorem dX12_question_50 : decode cX12_question 50 = .ok (.aload_n 0, 1) := by decide +kernel
theorem dX12_question_51 : decode cX12_question 51 = .ok (.getfield 89, 3) := by decide +kernel
theorem dX12_question_54 : decode cX12_question 54 = .ok (.iconst 1, 1) := by decide +kernel
theorem dX12_question_55 : decode cX12_question 55 = .ok (.isub, 1) := by decide +kernel
theorem dX12_question_56 : decode cX12_question 56 = .ok (.if_icmp .ne 7, 3) := by decide +kernel
theorem dX12_question_59 : decode cX12_question 59 = .ok (.iconst 1, 1) := by decide +kernel
theorem dX12_question_60 : decode cX12_question 60 = .ok (.goto 4, 3) := by decide +kernel
theorem dX12_question_63 : decode cX12_question 63 = .ok (.iconst 0, 1) := by decide +kernel
theorem dX12_question_64 : decode cX12_question 64 = .ok (.istore_n 1, 1) := by decide +kernel
theorem dX12_question_65 : decode cX12_question 65 = .ok (.iload_n 1, 1) := by decide +kernel
theorem dX12_question_66 : decode cX12_question 66 = .ok (.ifCond .ne 6, 3) := by decide +kernel
theorem dX12_question_69 : decode cX12_question 69 = .ok (.bipush (-103), 2) := by decide +kernel
theorem dX12_question_71 : decode cX12_question 71 = .ok (.ireturn, 1) := by decide +kernel
theorem dX12_question_72 : decode cX12_question 72 = .ok (.aload_n 0, 1) := by decide +kernel
theorem dX12_question_73 : decode cX12_question 73 = .ok (.getfield 25, 3) := by decide +kernel
theorem dX12_question_76 : decode cX12_question 76 = .ok (.iconst 4, 1) := by decide +kernel
theorem dX12_question_77 : decode cX12_question 77 = .ok (.aload_n 0, 1) := by decide +kernel
theorem dX12_question_78 : decode cX12_question 78 = .ok (.getfield 80, 3) := by decide +kernel
theorem dX12_question_81 : decode cX12_question 81 = .ok (.imul, 1) := by decide +kernel
theorem dX12_question_82 : decode cX12_question 82 = .ok (.aload_n 0, 1) := by decide +kernel
theorem dX12_question_83 : decode cX12_question 83 = .ok (.getfield 83, 3) := by decide +kernel
theorem dX12_question_86 : decode cX12_question 86 = .ok (.iadd, 1) := by decide +kernel
theorem dX12_question_87 : decode cX12_question 87 = .ok (.aload_n 0, 1) := by decide +kernel
theorem dX12_question_88 : decode cX12_question 88 = .ok (.getfield 77, 3) := by decide +kernel
theorem dX12_question_91 : decode cX12_question 91 = .ok (.iastore, 1) := by decide +kernel
theorem dX12_question_92 : decode cX12_question 92 = .ok (.aload_n 0, 1) := by decide +kernel
theorem dX12_question_93 : decode cX12_question 93 = .ok (.aload_n 0, 1) := by decide +kernel
theorem dX12_question_94 : decode cX12_question 94 = .ok (.getfield 83, 3) := by decide +kernel
theorem dX12_question_97 : decode cX12_question 97 = .ok (.iconst 1, 1) := by decide +kernel
theorem dX12_question_98 : decode cX12_question 98 = .ok (.iadd, 1) := by decide +kernel
theorem dX12_question_99 : decode cX12_question 99 = .ok (.putfield 57, 3) := by decide +kernel
theorem dX12_question_102 : decode cX12_question 102 = .ok (.aload_n 0, 1) := by decide +kernel
theorem dX12_question_103 : decode cX12_question 103 = .ok (.aload_n 0, 1) := by decide +kernel
theorem dX12_question_104 : decode cX12_question 104 = .ok (.getfield 80, 3) := by decide +kernel
theorem dX12_question_107 : decode cX12_question 107 = .ok (.iconst 1, 1) := by decide +kernel
theorem dX12_question_108 : decode cX12_question 108 = .ok (.iadd, 1) := by decide +kernel
theorem dX12_question_109 : decode cX12_question 109 = .ok (.putfield 103, 3) := by decide +kernel
theorem dX12_question_112 : decode cX12_question 112 = .ok (.iconst 0, 1) := by decide +kernel
theorem dX12_question_113 : decode cX12_question 113 = .ok (.istore_n 2, 1) := by decide +kernel
theorem dX12_question_114 : decode cX12_question 114 = .ok (.iload_n 2, 1) := by decide +kernel
theorem dX12_question_115 : decode cX12_question 115 = .ok (.iconst 5, 1) := by decide +kernel
theorem dX12_question_116 : decode cX12_question 116 = .ok (.if_icmp .ge 21, 3) := by decide +kernel
theorem dX12_question_119 : decode cX12_question 119 = .ok (.aload_n 0, 1) := by decide +kernel
theorem dX12_question_120 : decode cX12_question 120 = .ok (.getfield 13, 3) := by decide +kernel
theorem dX12_question_123 : decode cX12_question 123 = .ok (.iload_n 2, 1) := by decide +kernel
theorem dX12_question_124 : decode cX12_question 124 = .ok (.aload_n 0, 1) := by decide +kernel
theorem dX12_question_125 : decode cX12_question 125 = .ok (.getfield 22, 3) := by decide +kernel
theorem dX12_question_128 : decode cX12_question 128 = .ok (.iload_n 2, 1) := by decide +kernel
theorem dX12_question_129 : decode cX12_question 129 = .ok (.iaload, 1) := by decide +kernel
theorem dX12_question_130 : decode cX12_question 130 = .ok (.iastore, 1) := by decide +kernel
theorem dX12_question_131 : decode cX12_question 131 = .ok (.iinc 2 1, 3) := by decide +kernel
theorem dX12_question_134 : decode cX12_question 134 = .ok (.goto (-20), 3) := by decide +kernel
theorem dX12_question_137 : decode cX12_question 137 = .ok (.iconst 0, 1) := by decide +kernel
theorem dX12_question_138 : decode cX12_question 138 = .ok (.istore_n 2, 1) := by decide +kernel
theorem dX12_question_139 : decode cX12_question 139 = .ok (.iload_n 2, 1) := by decide +kernel
theorem dX12_question_140 : decode cX12_question 140 = .ok (.bipush 20, 2) := by decide +kernel
theorem dX12_question_142 : decode cX12_question 142 = .ok (.if_icmp .ge 21, 3) := by decide +kernel
theorem dX12_question_145 : decode cX12_question 145 = .ok (.aload_n 0, 1) := by decide +kernel
theorem dX12_question_146 : decode cX12_question 146 = .ok (.getfield 16, 3) := by decide +kernel
theorem dX12_question_149 : decode cX12_question 149 = .ok (.iload_n 2, 1) := by decide +kernel
theorem dX12_question_150 : decode cX12_question 150 = .ok (.aload_n 0, 1) := by decide +kernel
theorem dX12_question_151 : decode cX12_question 151 = .ok (.getfield 25, 3) := by decide +kernel
theorem dX12_question_154 : decode cX12_question 154 = .ok (.iload_n 2, 1) := by decide +kernel
theorem dX12_question_155 : decode cX12_question 155 = .ok (.iaload, 1) := by decide +kernel
theorem dX12_question_156 : decode cX12_question 156 = .ok (.iastore, 1) := by decide +kernel
theorem dX12_question_157 : decode cX12_question 157 = .ok (.iinc 2 1, 3) := by decide +kernel
theorem dX12_question_160 : decode cX12_question 160 = .ok (.goto (-21), 3) := by decide +kernel
theorem dX12_question_163 : decode cX12_question 163 = .ok (.iconst 0, 1) := by decide +kernel
theorem dX12_question_164 : decode cX12_question 164 = .ok (.istore_n 2, 1) := by decide +kernel
theorem dX12_question_165 : decode cX12_question 165 = .ok (.iload_n 2, 1) := by decide +kernel
theorem dX12_question_166 : decode cX12_question 166 = .ok (.iconst 4, 1) := by decide +kernel
theorem dX12_question_167 : decode cX12_question 167 = .ok (.if_icmp .ge 16, 3) := by decide +kernel
theorem dX12_question_170 : decode cX12_question 170 = .ok (.aload_n 0, 1) := by decide +kernel
theorem dX12_question_171 : decode cX12_question 171 = .ok (.getfield 19, 3) := by decide +kernel
theorem dX12_question_174 : decode cX12_question 174 = .ok (.iload_n 2, 1) := by decide +kernel
theorem dX12_question_175 : decode cX12_question 175 = .ok (.iconst 0, 1) := by decide +kernel
theorem dX12_question_176 : decode cX12_question 176 = .ok (.iastore, 1) := by decide +kernel
theorem dX12_question_177 : decode cX12_question 177 = .ok (.iinc 2 1, 3) := by decide +kernel
theorem dX12_question_180 : decode cX12_question 180 = .ok (.goto (-15), 3) := by decide +kernel
theorem dX12_question_183 : decode cX12_question 183 = .ok (.aload_n 0, 1) := by decide +kernel
theorem dX12_question_184 : decode cX12_question 184 = .ok (.iconst 0, 1) := by decide +kernel
theorem dX12_question_185 : decode cX12_question 185 = .ok (.putfield 106, 3) := by decide +kernel
theorem dX12_question_188 : decode cX12_question 188 = .ok (.aload_n 0, 1) := by decide +kernel
theorem dX12_question_189 : decode cX12_question 189 = .ok (.iconst 0, 1) := by decide +kernel
theorem dX12_question_190 : decode cX12_question 190 = .ok (.putfield 63, 3) := by decide +kernel
theorem dX12_question_193 : decode cX12_question 193 = .ok (.aload_n 0, 1) := by decide +kernel
theorem dX12_question_194 : decode cX12_question 194 = .ok (.invokevirtual 109, 3) := by decide +kernel
theorem dX12_question_197 : decode cX12_question 197 = .ok (.aload_n 0, 1) := by decide +kernel
theorem dX12_question_198 : decode cX12_question 198 = .ok (.getfield 57, 3) := by decide +kernel
theorem dX12_question_201 : decode cX12_question 201 = .ok (.ireturn, 1) := by decide +kernel

set_option maxHeartbeats 4000000 in
set_option maxRecDepth 100000 in
theorem m_question (l : Launch) (D : va_G) (m0 : Nat) (mp : Nat) (mw : Nat) (mh : Nat) (mo : Nat) (m5 : Nat) (m6 : Nat) (m7 : Nat) (mk : Nat) (mn : Nat) (mq : Nat) (m8 : Nat) (m9 : Nat) (ma : Nat) (mb : Nat) (md : Nat) (sz : Nat) : Met l yX12_question (Cond.code yX12_question cX12_question 3 (some .int) :: gw_tbl) ({ frames := 1, cells := 0, slots := 0, locals := 21 }) (pc_M D [] [(m0, .inr (12, [.ref mp, .int 0, .int 0, .int 0, .ref mw, .ref mh, .ref mo, .int 0, .int 0, .int 0, .int 0, .int 0, .int 0, .ref m5, .ref m6, .ref m7, .long 0, .int 0, .ref mk, .ref mn, .int 0, .ref mq, .ref m8, .ref m9, .int 0, .int 0, .int 0, .int 0, .ref ma, .int 0, .ref mb, .ref md, .long 0]))] sz [.ref m0]) (va_Qi (fun (r : Int32) (u : Unit) => r = -103) (fun _ _ => True) (va_A [(m0, .inr (12, [.ref mp, .int 0, .int 0, .int 0, .ref mw, .ref mh, .ref mo, .int 0, .int 0, .int 0, .int 0, .int 0, .int 0, .ref m5, .ref m6, .ref m7, .long 0, .int 0, .ref mk, .ref mn, .int 0, .ref mq, .ref m8, .ref m9, .int 0, .int 0, .int 0, .int 0, .ref ma, .int 0, .ref mb, .ref md, .long 0]))] sz)) 0 0 (va_A [(m0, .inr (12, [.ref mp, .int 0, .int 0, .int 0, .ref mw, .ref mh, .ref mo, .int 0, .int 0, .int 0, .int 0, .int 0, .int 0, .ref m5, .ref m6, .ref m7, .long 0, .int 0, .ref mk, .ref mn, .int 0, .ref mq, .ref m8, .ref m9, .int 0, .int 0, .int 0, .int 0, .ref ma, .int 0, .ref mb, .ref md, .long 0]))] sz) := by
  refine Met.ofW (cc := cX12_question) (maxL := 3) (ret := (some .int)) (by decide) rfl ?_
  intro p e s m args below meth c s₁ B hml hv
  obtain ⟨hargs, hsz, hP, hK, hD0⟩ := hv
  have hx := B.exec
  have hb := B.bytes
  have hr := B.returns
  have hts := atoms_spec (ws := Cond.code yX12_question cX12_question 3 (some .int) :: gw_tbl) B.pre
  have hg := fun (w : Cond) (h : w ∈ gw_tbl) => hts w (List.mem_cons_of_mem _ h)
  have hown : s.vm.findClass RX12 = some m.cls := findClass_of_methodNamed B.named
  have hlocks := B.notSynchronized
  subst hsz
  have hD := hD0.self (sz := s.heap.size)
  generalize hAe : va_A [(m0, .inr (12, [.ref mp, .int 0, .int 0, .int 0, .ref mw, .ref mh, .ref mo, .int 0, .int 0, .int 0, .int 0, .int 0, .int 0, .ref m5, .ref m6, .ref m7, .long 0, .int 0, .ref mk, .ref mn, .int 0, .ref mq, .ref m8, .ref m9, .int 0, .int 0, .int 0, .int 0, .ref ma, .int 0, .ref mb, .ref md, .long 0]))] s.heap.size = A at hD ⊢
  have hA : ∀ q : Nat, s.heap.size ≤ q → A q := fun q h => by rw [← hAe]; exact Or.inr h
  have hS : va_S A s.heap s.heap [] := va_S.rf
  have hP : va_P D vwCl [(m0, .inr (12, [.ref mp, .int 0, .int 0, .int 0, .ref mw, .ref mh, .ref mo, .int 0, .int 0, .int 0, .int 0, .int 0, .int 0, .ref m5, .ref m6, .ref m7, .long 0, .int 0, .ref mk, .ref mn, .int 0, .ref mq, .ref m8, .ref m9, .int 0, .int 0, .int 0, .int 0, .ref ma, .int 0, .ref mb, .ref md, .long 0]))] s.heap := hP
  have hl := lv_entry ([.ref m0]) (n := 3) (Nat.le_of_ble_eq_true rfl)
  rw [show entryFrame m args 3 = F0 m 0 (lg_sl ([.ref m0]) ++ List.replicate (3 - (lg_sl ([.ref m0])).length) Slot.unset).toArray [] from by rw [hargs]; exact lg_entry_eq ..]
  generalize (lg_sl ([.ref m0]) ++ List.replicate (3 - (lg_sl ([.ref m0])).length) Slot.unset).toArray = ls at hl ⊢
  have hl : lv_has ls 3 [(0, .ref m0)] := hl
  refine W_genQ (fun Q hQ => ?_)
  refine lv_aload_n hx hb dX12_question_0 rfl (lv_at hl 0 rfl) ?_
  have hPc := hP.sub (ws' := [(m0, .inr (12, [.ref mp, .int 0, .int 0, .int 0, .ref mw, .ref mh, .ref mo, .int 0, .int 0, .int 0, .int 0, .int 0, .int 0, .ref m5, .ref m6, .ref m7, .long 0, .int 0, .ref mk, .ref mn, .int 0, .ref mq, .ref m8, .ref m9, .int 0, .int 0, .int 0, .int 0, .ref ma, .int 0, .ref mb, .ref md, .long 0]))]) [0] rfl
  have hKc := hK.sub (tys' := []) [] rfl
  have hDc := hD.sub (ws' := [(m0, .inr (12, [.ref mp, .int 0, .int 0, .int 0, .ref mw, .ref mh, .ref mo, .int 0, .int 0, .int 0, .int 0, .int 0, .int 0, .ref m5, .ref m6, .ref m7, .long 0, .int 0, .ref mk, .ref mn, .int 0, .ref mq, .ref m8, .ref m9, .int 0, .int 0, .int 0, .int 0, .ref ma, .int 0, .ref mb, .ref md, .long 0]))]) [0] (by decide) rfl
  have hFc := va_free (wc := [(m0, .inr (12, [.ref mp, .int 0, .int 0, .int 0, .ref mw, .ref mh, .ref mo, .int 0, .int 0, .int 0, .int 0, .int 0, .int 0, .ref m5, .ref m6, .ref m7, .long 0, .int 0, .ref mk, .ref mn, .int 0, .ref mq, .ref m8, .ref m9, .int 0, .int 0, .int 0, .int 0, .ref ma, .int 0, .ref mb, .ref md, .long 0]))]) hD hS hA [0] rfl
  refine va_calli (va_runV (As := []) (rest := []) ⟨hx, hb, hml, hown, hg⟩ (m_faultOf l D m0 mp mw mh mo m5 m6 m7 mk mn mq m8 m9 ma mb md _) (cwV 0 hg (gw_V kw_242 kw_243 kw_244 kw_210 kw_241) rfl rfl rfl (by decide +kernel) ⟨Nat.le_of_ble_eq_true rfl, Nat.le_of_ble_eq_true rfl⟩) (pr_MV (q := (RX12, TX12, 33)) 12 0 hKc hPc hDc rfl rfl) rfl rfl hl.1 rfl (lv_room (Nat.le_of_ble_eq_true rfl)) dX12_question_1 ⟨Nat.le_of_ble_eq_true rfl, Nat.le_of_ble_eq_true rfl⟩) hS (fun q _ h => hFc q h) hFc (fun r_1 u t H1 locs ht hvm h_1 hB hz1 hk1 hS => ?_)
  obtain ⟨hP1, hK1, hD1⟩ := hB
  rw [ht] at hP1
  have hK1 := va_K.moved hvm.symm hK1
  obtain ⟨hP, hD⟩ := va_join (wr := []) (w1 := [(m0, .inr (12, [.ref mp, .int 0, .int 0, .int 0, .ref mw, .ref mh, .ref mo, .int 0, .int 0, .int 0, .int 0, .int 0, .int 0, .ref m5, .ref m6, .ref m7, .long 0, .int 0, .ref mk, .ref mn, .int 0, .ref mq, .ref m8, .ref m9, .int 0, .int 0, .int 0, .int 0, .ref ma, .int 0, .ref mb, .ref md, .long 0]))]) hP hD [0] [] rfl rfl (by decide) (by decide) hk1 hFc hP1 hD1
  have hK := hK.app hK1
  generalize H1 = H at hP hS ⊢
  have hP : va_P D vwCl [(m0, .inr (12, [.ref mp, .int 0, .int 0, .int 0, .ref mw, .ref mh, .ref mo, .int 0, .int 0, .int 0, .int 0, .int 0, .int 0, .ref m5, .ref m6, .ref m7, .long 0, .int 0, .ref mk, .ref mn, .int 0, .ref mq, .ref m8, .ref m9, .int 0, .int 0, .int 0, .int 0, .ref ma, .int 0, .ref mb, .ref md, .long 0]))] H := hP
  have hD : va_D A [(m0, .inr (12, [.ref mp, .int 0, .int 0, .int 0, .ref mw, .ref mh, .ref mo, .int 0, .int 0, .int 0, .int 0, .int 0, .int 0, .ref m5, .ref m6, .ref m7, .long 0, .int 0, .ref mk, .ref mn, .int 0, .ref mq, .ref m8, .ref m9, .int 0, .int 0, .int 0, .int 0, .ref ma, .int 0, .ref mb, .ref md, .long 0]))] := hD
  have hK : va_K D vwCl [] s := hK
  refine W.cs (cells' := 0) (slots' := 0) rfl rfl ?_
  obtain rfl : r_1 = (0 : Int32) := h_1
  refine lv_aload_n hx hb dX12_question_4 rfl (lv_at hl 0 rfl) ?_
  refine va_get (D := D) (ci := 12) (v := .int 0) (C := RX12) (T := TX12) (N := 33) hx hb hg gwX12 hown hK hP 0 rfl rfl 1 (by decide) (hg _ kw_232) (fun _ h9 => h9) rfl dX12_question_5 ?_
  refine lv_icmp_ne (tgt := 23) hx hb dX12_question_8 (by decide) (fun c_8 => absurd c_8 (by decide)) (fun c_8 => ?_)
  refine lv_aload_n hx hb dX12_question_11 rfl (lv_at hl 0 rfl) ?_
  refine va_get (D := D) (ci := 12) (v := .int 0) (C := RX12) (T := TX12) (N := 33) hx hb hg gwX12 hown hK hP 0 rfl rfl 7 (by decide) (hg _ kw_238) (fun _ h9 => h9) rfl dX12_question_12 ?_
  refine lv_iconst (v := 4) hx hb dX12_question_15 (by decide) ?_
  refine lv_icmp_ne (tgt := 23) hx hb dX12_question_16 (by decide) (fun c_16 => ?_) (fun c_16 => absurd c_16 (by decide))
  refine lv_iconst (v := 0) hx hb dX12_question_23 (by decide) ?_
  refine lv_istore_n (lv' := [(1, .int 0), (0, .ref m0)]) hx hb dX12_question_24 rfl hl (by decide) rfl (fun ls hl => ?_)
  refine lv_iload_n hx hb dX12_question_25 rfl (lv_at hl 0 rfl) ?_
  refine lv_if_eq (tgt := 63) hx hb dX12_question_26 (by decide) (fun c_26 => ?_) (fun c_26 => absurd c_26 (by decide))
  refine lv_iconst (v := 0) hx hb dX12_question_63 (by decide) ?_
  refine lv_istore_n (lv' := [(1, .int 0), (0, .ref m0)]) hx hb dX12_question_64 rfl hl (by decide) rfl (fun ls hl => ?_)
  refine lv_iload_n hx hb dX12_question_65 rfl (lv_at hl 0 rfl) ?_
  refine lv_if_ne (tgt := 72) hx hb dX12_question_66 (by decide) (fun c_66 => absurd c_66 (by decide)) (fun c_66 => ?_)
  refine lv_bipush (v := (-103)) hx hb dX12_question_69 (by decide) ?_
  subst hQ
  refine W.widen (k := 0) (n := 0) (Nat.le_of_ble_eq_true rfl) (Nat.le_of_ble_eq_true rfl) ?_
  exact W.iret (v := (-103)) hx hb hr (fun t ht hW => ⟨⟨(-103), (), rfl, rfl, trivial⟩, hS.F ht⟩) hS.2.2 dX12_question_71

theorem dX12_tell_0 : decode cX12_tell 0 = .ok (.aload_n 0, 1) := by decide +kernel
theorem dX12_tell_1 : decode cX12_tell 1 = .ok (.ldc2_w 267, 3) := by decide +kernel
theorem dX12_tell_4 : decode cX12_tell 4 = .ok (.aload_n 0, 1) := by decide +kernel
theorem dX12_tell_5 : decode cX12_tell 5 = .ok (.getfield 269, 3) := by decide +kernel
theorem dX12_tell_8 : decode cX12_tell 8 = .ok (.lmul, 1) := by decide +kernel
theorem dX12_tell_9 : decode cX12_tell 9 = .ok (.lload_n 1, 1) := by decide +kernel
theorem dX12_tell_10 : decode cX12_tell 10 = .ok (.ladd, 1) := by decide +kernel
theorem dX12_tell_11 : decode cX12_tell 11 = .ok (.putfield 269, 3) := by decide +kernel
theorem dX12_tell_14 : decode cX12_tell 14 = .ok (.return_, 1) := by decide +kernel
theorem kw_245 : (.constantLong RX12 267 (31) : Cond) ∈ gw_tbl := gw_in (by decide +kernel) (by decide +kernel)
theorem kw_246 : (.fieldLink RX12 269 "NobodyChecksModel" "hash" "J" : Cond) ∈ gw_tbl := gw_in (by decide +kernel) (by decide +kernel)

set_option maxHeartbeats 4000000 in
set_option maxRecDepth 100000 in
theorem m_tell (l : Launch) (D : va_G) (m0 : Nat) (mp : Nat) (mw : Nat) (mh : Nat) (mo : Nat) (m5 : Nat) (m6 : Nat) (m7 : Nat) (mk : Nat) (mn : Nat) (mq : Nat) (m8 : Nat) (m9 : Nat) (ma : Nat) (mb : Nat) (md : Nat) (hv : Int64) (v : Int64) (sz : Nat) : Met l yX12_tell (Cond.code yX12_tell cX12_tell 3 none :: gw_tbl) ({ frames := 0, cells := 0, slots := 0, locals := 0 }) (pc_M D [] [(m0, .inr (12, [.ref mp, .int 0, .int 0, .int 0, .ref mw, .ref mh, .ref mo, .int 0, .int 0, .int 0, .int 0, .int 0, .int 0, .ref m5, .ref m6, .ref m7, .long 0, .int 0, .ref mk, .ref mn, .int 0, .ref mq, .ref m8, .ref m9, .int 0, .int 0, .int 0, .int 0, .ref ma, .int 0, .ref mb, .ref md, .long hv]))] sz [.ref m0, .long v]) (va_Qv (fun (u : Unit) => True) (fun _ t => va_P D vwCl [(m0, .inr (12, [.ref mp, .int 0, .int 0, .int 0, .ref mw, .ref mh, .ref mo, .int 0, .int 0, .int 0, .int 0, .int 0, .int 0, .ref m5, .ref m6, .ref m7, .long 0, .int 0, .ref mk, .ref mn, .int 0, .ref mq, .ref m8, .ref m9, .int 0, .int 0, .int 0, .int 0, .ref ma, .int 0, .ref mb, .ref md, .long (31 * hv + v)]))] t.heap ∧ va_K D vwCl [] t ∧ va_D (va_A [(m0, .inr (12, [.ref mp, .int 0, .int 0, .int 0, .ref mw, .ref mh, .ref mo, .int 0, .int 0, .int 0, .int 0, .int 0, .int 0, .ref m5, .ref m6, .ref m7, .long 0, .int 0, .ref mk, .ref mn, .int 0, .ref mq, .ref m8, .ref m9, .int 0, .int 0, .int 0, .int 0, .ref ma, .int 0, .ref mb, .ref md, .long hv]))] sz) [(m0, .inr (12, [.ref mp, .int 0, .int 0, .int 0, .ref mw, .ref mh, .ref mo, .int 0, .int 0, .int 0, .int 0, .int 0, .int 0, .ref m5, .ref m6, .ref m7, .long 0, .int 0, .ref mk, .ref mn, .int 0, .ref mq, .ref m8, .ref m9, .int 0, .int 0, .int 0, .int 0, .ref ma, .int 0, .ref mb, .ref md, .long (31 * hv + v)]))]) (va_A [(m0, .inr (12, [.ref mp, .int 0, .int 0, .int 0, .ref mw, .ref mh, .ref mo, .int 0, .int 0, .int 0, .int 0, .int 0, .int 0, .ref m5, .ref m6, .ref m7, .long 0, .int 0, .ref mk, .ref mn, .int 0, .ref mq, .ref m8, .ref m9, .int 0, .int 0, .int 0, .int 0, .ref ma, .int 0, .ref mb, .ref md, .long hv]))] sz)) 0 0 (va_A [(m0, .inr (12, [.ref mp, .int 0, .int 0, .int 0, .ref mw, .ref mh, .ref mo, .int 0, .int 0, .int 0, .int 0, .int 0, .int 0, .ref m5, .ref m6, .ref m7, .long 0, .int 0, .ref mk, .ref mn, .int 0, .ref mq, .ref m8, .ref m9, .int 0, .int 0, .int 0, .int 0, .ref ma, .int 0, .ref mb, .ref md, .long hv]))] sz) := by
  refine Met.ofW (cc := cX12_tell) (maxL := 3) (ret := none) (by decide) rfl ?_
  intro p e s m args below meth c s₁ B hml hv
  obtain ⟨hargs, hsz, hP, hK, hD0⟩ := hv
  have hx := B.exec
  have hb := B.bytes
  have hr := B.returns
  have hts := atoms_spec (ws := Cond.code yX12_tell cX12_tell 3 none :: gw_tbl) B.pre
  have hg := fun (w : Cond) (h : w ∈ gw_tbl) => hts w (List.mem_cons_of_mem _ h)
  have hown : s.vm.findClass RX12 = some m.cls := findClass_of_methodNamed B.named
  have hlocks := B.notSynchronized
  subst hsz
  have hD := hD0.self (sz := s.heap.size)
  generalize hAe : va_A [(m0, .inr (12, [.ref mp, .int 0, .int 0, .int 0, .ref mw, .ref mh, .ref mo, .int 0, .int 0, .int 0, .int 0, .int 0, .int 0, .ref m5, .ref m6, .ref m7, .long 0, .int 0, .ref mk, .ref mn, .int 0, .ref mq, .ref m8, .ref m9, .int 0, .int 0, .int 0, .int 0, .ref ma, .int 0, .ref mb, .ref md, .long hv]))] s.heap.size = A at hD ⊢
  have hA : ∀ q : Nat, s.heap.size ≤ q → A q := fun q h => by rw [← hAe]; exact Or.inr h
  have hS : va_S A s.heap s.heap [] := va_S.rf
  have hP : va_P D vwCl [(m0, .inr (12, [.ref mp, .int 0, .int 0, .int 0, .ref mw, .ref mh, .ref mo, .int 0, .int 0, .int 0, .int 0, .int 0, .int 0, .ref m5, .ref m6, .ref m7, .long 0, .int 0, .ref mk, .ref mn, .int 0, .ref mq, .ref m8, .ref m9, .int 0, .int 0, .int 0, .int 0, .ref ma, .int 0, .ref mb, .ref md, .long hv]))] s.heap := hP
  have hl := lv_entry ([.ref m0, .long v]) (n := 3) (Nat.le_of_ble_eq_true rfl)
  rw [show entryFrame m args 3 = F0 m 0 (lg_sl ([.ref m0, .long v]) ++ List.replicate (3 - (lg_sl ([.ref m0, .long v])).length) Slot.unset).toArray [] from by rw [hargs]; exact lg_entry_eq ..]
  generalize (lg_sl ([.ref m0, .long v]) ++ List.replicate (3 - (lg_sl ([.ref m0, .long v])).length) Slot.unset).toArray = ls at hl ⊢
  have hl : lv_has ls 3 [(0, .ref m0), (1, .long v)] := hl
  refine W_genQ (fun Q hQ => ?_)
  refine lv_aload_n hx hb dX12_tell_0 rfl (lv_at hl 0 rfl) ?_
  refine lv_ldc2 hx hb hown (hg _ kw_245) dX12_tell_1 ?_
  refine lv_aload_n hx hb dX12_tell_4 rfl (lv_at hl 0 rfl) ?_
  refine va_get (D := D) (ci := 12) (v := .long hv) (C := RX12) (T := TX12) (N := 33) hx hb hg gwX12 hown hK hP 0 rfl rfl 32 (by decide) (hg _ kw_246) (fun _ h9 => h9) rfl dX12_tell_5 ?_
  refine lv_lmul hx hb dX12_tell_8 ?_
  refine lv_topl (fun z_8 e_8 => ?_)
  refine lv_lload_n hx hb dX12_tell_9 rfl (lv_at hl 1 rfl) ?_
  refine lv_ladd hx hb dX12_tell_10 ?_
  refine lv_topl (fun z_10 e_10 => ?_)
  refine va_put (D := D) (ci := 12) (v := .long z_10) (ty := .long) (C := RX12) (T := TX12) (N := 33) hx hb hg gwX12 tyX12 tyX12_ok nmX12 hown hK hP hD hS 0 rfl rfl 32 (by decide) (hg _ kw_246) (fun _ h9 => h9) rfl (by decide +kernel) rfl rfl (Nat.le_of_ble_eq_true rfl) dX12_tell_11 (fun H locs hP hD hS => ?_)
  have hP : va_P D vwCl [(m0, .inr (12, [.ref mp, .int 0, .int 0, .int 0, .ref mw, .ref mh, .ref mo, .int 0, .int 0, .int 0, .int 0, .int 0, .int 0, .ref m5, .ref m6, .ref m7, .long 0, .int 0, .ref mk, .ref mn, .int 0, .ref mq, .ref m8, .ref m9, .int 0, .int 0, .int 0, .int 0, .ref ma, .int 0, .ref mb, .ref md, .long z_10]))] H := hP
  have hD : va_D A [(m0, .inr (12, [.ref mp, .int 0, .int 0, .int 0, .ref mw, .ref mh, .ref mo, .int 0, .int 0, .int 0, .int 0, .int 0, .int 0, .ref m5, .ref m6, .ref m7, .long 0, .int 0, .ref mk, .ref mn, .int 0, .ref mq, .ref m8, .ref m9, .int 0, .int 0, .int 0, .int 0, .ref ma, .int 0, .ref mb, .ref md, .long z_10]))] := hD
  obtain rfl : z_10 = 31 * hv + v := by rw [e_10, e_8]
  subst hQ
  refine W.widen (k := 0) (n := 0) (Nat.le_of_ble_eq_true rfl) (Nat.le_of_ble_eq_true rfl) ?_
  have hP9 := hP.sub (ws' := [(m0, .inr (12, [.ref mp, .int 0, .int 0, .int 0, .ref mw, .ref mh, .ref mo, .int 0, .int 0, .int 0, .int 0, .int 0, .int 0, .ref m5, .ref m6, .ref m7, .long 0, .int 0, .ref mk, .ref mn, .int 0, .ref mq, .ref m8, .ref m9, .int 0, .int 0, .int 0, .int 0, .ref ma, .int 0, .ref mb, .ref md, .long (31 * hv + v)]))]) [0] rfl
  have hD9 := hD.sub (ws' := [(m0, .inr (12, [.ref mp, .int 0, .int 0, .int 0, .ref mw, .ref mh, .ref mo, .int 0, .int 0, .int 0, .int 0, .int 0, .int 0, .ref m5, .ref m6, .ref m7, .long 0, .int 0, .ref mk, .ref mn, .int 0, .ref mq, .ref m8, .ref m9, .int 0, .int 0, .int 0, .int 0, .ref ma, .int 0, .ref mb, .ref md, .long (31 * hv + v)]))]) [0] (by decide) rfl
  have hK9 := hK.sub (tys' := []) [] rfl
  exact W.vret hx hb hr (fun t ht hW => ⟨⟨(), rfl, trivial, ⟨by rw [ht]; exact hP9, va_K.moved hW.alike hK9, hD9⟩⟩, hS.F ht⟩) hS.2.2 dX12_tell_14

theorem dX12_digest_0 : decode cX12_digest 0 = .ok (.aload_n 0, 1) := by decide +kernel
theorem dX12_digest_1 : decode cX12_digest 1 = .ok (.ldc2_w 276, 3) := by decide +kernel
theorem dX12_digest_4 : decode cX12_digest 4 = .ok (.putfield 269, 3) := by decide +kernel
theorem dX12_digest_7 : decode cX12_digest 7 = .ok (.iconst 0, 1) := by decide +kernel
theorem dX12_digest_8 : decode cX12_digest 8 = .ok (.istore_n 1, 1) := by decide +kernel
theorem dX12_digest_9 : decode cX12_digest 9 = .ok (.iload_n 1, 1) := by decide +kernel
theorem dX12_digest_10 : decode cX12_digest 10 = .ok (.aload_n 0, 1) := by decide +kernel
theorem dX12_digest_11 : decode cX12_digest 11 = .ok (.getfield 103, 3) := by decide +kernel
theorem dX12_digest_14 : decode cX12_digest 14 = .ok (.if_icmp .ge 51, 3) := by decide +kernel
theorem dX12_digest_17 : decode cX12_digest 17 = .ok (.aload_n 0, 1) := by decide +kernel
theorem dX12_digest_18 : decode cX12_digest 18 = .ok (.aload_n 0, 1) := by decide +kernel
theorem dX12_digest_19 : decode cX12_digest 19 = .ok (.getfield 13, 3) := by decide +kernel
theorem dX12_digest_22 : decode cX12_digest 22 = .ok (.iload_n 1, 1) := by decide +kernel
theorem dX12_digest_23 : decode cX12_digest 23 = .ok (.iaload, 1) := by decide +kernel
theorem dX12_digest_24 : decode cX12_digest 24 = .ok (.i2l, 1) := by decide +kernel
theorem dX12_digest_25 : decode cX12_digest 25 = .ok (.invokevirtual 272, 3) := by decide +kernel
theorem dX12_digest_28 : decode cX12_digest 28 = .ok (.iconst 0, 1) := by decide +kernel
theorem dX12_digest_29 : decode cX12_digest 29 = .ok (.istore_n 2, 1) := by decide +kernel
theorem dX12_digest_30 : decode cX12_digest 30 = .ok (.iload_n 2, 1) := by decide +kernel
theorem dX12_digest_31 : decode cX12_digest 31 = .ok (.aload_n 0, 1) := by decide +kernel
theorem dX12_digest_32 : decode cX12_digest 32 = .ok (.getfield 57, 3) := by decide +kernel
theorem dX12_digest_35 : decode cX12_digest 35 = .ok (.if_icmp .ge 24, 3) := by decide +kernel
theorem dX12_digest_38 : decode cX12_digest 38 = .ok (.aload_n 0, 1) := by decide +kernel
theorem dX12_digest_39 : decode cX12_digest 39 = .ok (.aload_n 0, 1) := by decide +kernel
theorem dX12_digest_40 : decode cX12_digest 40 = .ok (.getfield 16, 3) := by decide +kernel
theorem dX12_digest_43 : decode cX12_digest 43 = .ok (.iconst 4, 1) := by decide +kernel
theorem dX12_digest_44 : decode cX12_digest 44 = .ok (.iload_n 1, 1) := by decide +kernel
theorem dX12_digest_45 : decode cX12_digest 45 = .ok (.imul, 1) := by decide +kernel
theorem dX12_digest_46 : decode cX12_digest 46 = .ok (.iload_n 2, 1) := by decide +kernel
theorem dX12_digest_47 : decode cX12_digest 47 = .ok (.iadd, 1) := by decide +kernel
theorem dX12_digest_48 : decode cX12_digest 48 = .ok (.iaload, 1) := by decide +kernel
theorem dX12_digest_49 : decode cX12_digest 49 = .ok (.i2l, 1) := by decide +kernel
theorem dX12_digest_50 : decode cX12_digest 50 = .ok (.invokevirtual 272, 3) := by decide +kernel
theorem dX12_digest_53 : decode cX12_digest 53 = .ok (.iinc 2 1, 3) := by decide +kernel
theorem dX12_digest_56 : decode cX12_digest 56 = .ok (.goto (-26), 3) := by decide +kernel
theorem dX12_digest_59 : decode cX12_digest 59 = .ok (.iinc 1 1, 3) := by decide +kernel
theorem dX12_digest_62 : decode cX12_digest 62 = .ok (.goto (-53), 3) := by decide +kernel
theorem dX12_digest_65 : decode cX12_digest 65 = .ok (.iconst 0, 1) := by decide +kernel
theorem dX12_digest_66 : decode cX12_digest 66 = .ok (.istore_n 1, 1) := by decide +kernel
theorem dX12_digest_67 : decode cX12_digest 67 = .ok (.iload_n 1, 1) := by decide +kernel
theorem dX12_digest_68 : decode cX12_digest 68 = .ok (.aload_n 0, 1) := by decide +kernel
theorem dX12_digest_69 : decode cX12_digest 69 = .ok (.getfield 57, 3) := by decide +kernel
theorem dX12_digest_72 : decode cX12_digest 72 = .ok (.if_icmp .ge 20, 3) := by decide +kernel
theorem dX12_digest_75 : decode cX12_digest 75 = .ok (.aload_n 0, 1) := by decide +kernel
theorem dX12_digest_76 : decode cX12_digest 76 = .ok (.aload_n 0, 1) := by decide +kernel
theorem dX12_digest_77 : decode cX12_digest 77 = .ok (.getfield 19, 3) := by decide +kernel
theorem dX12_digest_80 : decode cX12_digest 80 = .ok (.iload_n 1, 1) := by decide +kernel
theorem dX12_digest_81 : decode cX12_digest 81 = .ok (.iaload, 1) := by decide +kernel
theorem dX12_digest_82 : decode cX12_digest 82 = .ok (.i2l, 1) := by decide +kernel
theorem dX12_digest_83 : decode cX12_digest 83 = .ok (.invokevirtual 272, 3) := by decide +kernel
theorem dX12_digest_86 : decode cX12_digest 86 = .ok (.iinc 1 1, 3) := by decide +kernel
theorem dX12_digest_89 : decode cX12_digest 89 = .ok (.goto (-22), 3) := by decide +kernel
theorem dX12_digest_92 : decode cX12_digest 92 = .ok (.iconst 0, 1) := by decide +kernel
theorem dX12_digest_93 : decode cX12_digest 93 = .ok (.istore_n 1, 1) := by decide +kernel
theorem dX12_digest_94 : decode cX12_digest 94 = .ok (.iload_n 1, 1) := by decide +kernel
theorem dX12_digest_95 : decode cX12_digest 95 = .ok (.aload_n 0, 1) := by decide +kernel
theorem dX12_digest_96 : decode cX12_digest 96 = .ok (.getfield 139, 3) := by decide +kernel
theorem dX12_digest_99 : decode cX12_digest 99 = .ok (.if_icmp .ge 14, 3) := by decide +kernel
theorem dX12_digest_102 : decode cX12_digest 102 = .ok (.aload_n 0, 1) := by decide +kernel
theorem dX12_digest_103 : decode cX12_digest 103 = .ok (.iload_n 1, 1) := by decide +kernel
theorem dX12_digest_104 : decode cX12_digest 104 = .ok (.invokevirtual 278, 3) := by decide +kernel
theorem dX12_digest_107 : decode cX12_digest 107 = .ok (.iinc 1 1, 3) := by decide +kernel
theorem dX12_digest_110 : decode cX12_digest 110 = .ok (.goto (-16), 3) := by decide +kernel
theorem dX12_digest_113 : decode cX12_digest 113 = .ok (.iconst 0, 1) := by decide +kernel
theorem dX12_digest_114 : decode cX12_digest 114 = .ok (.istore_n 1, 1) := by decide +kernel
theorem dX12_digest_115 : decode cX12_digest 115 = .ok (.iload_n 1, 1) := by decide +kernel
theorem dX12_digest_116 : decode cX12_digest 116 = .ok (.aload_n 0, 1) := by decide +kernel
theorem dX12_digest_117 : decode cX12_digest 117 = .ok (.getfield 106, 3) := by decide +kernel
theorem dX12_digest_120 : decode cX12_digest 120 = .ok (.if_icmp .ge 52, 3) := by decide +kernel
theorem dX12_digest_123 : decode cX12_digest 123 = .ok (.aload_n 0, 1) := by decide +kernel
theorem dX12_digest_124 : decode cX12_digest 124 = .ok (.aload_n 0, 1) := by decide +kernel
theorem dX12_digest_125 : decode cX12_digest 125 = .ok (.getfield 51, 3) := by decide +kernel
theorem dX12_digest_128 : decode cX12_digest 128 = .ok (.iload_n 1, 1) := by decide +kernel
theorem dX12_digest_129 : decode cX12_digest 129 = .ok (.iaload, 1) := by decide +kernel
theorem dX12_digest_130 : decode cX12_digest 130 = .ok (.i2l, 1) := by decide +kernel
theorem dX12_digest_131 : decode cX12_digest 131 = .ok (.invokevirtual 272, 3) := by decide +kernel
theorem dX12_digest_134 : decode cX12_digest 134 = .ok (.aload_n 0, 1) := by decide +kernel
theorem dX12_digest_135 : decode cX12_digest 135 = .ok (.aload_n 0, 1) := by decide +kernel
theorem dX12_digest_136 : decode cX12_digest 136 = .ok (.getfield 54, 3) := by decide +kernel
theorem dX12_digest_139 : decode cX12_digest 139 = .ok (.iload_n 1, 1) := by decide +kernel
theorem dX12_digest_140 : decode cX12_digest 140 = .ok (.laload, 1) := by decide +kernel
theorem dX12_digest_141 : decode cX12_digest 141 = .ok (.invokevirtual 272, 3) := by decide +kernel
theorem dX12_digest_144 : decode cX12_digest 144 = .ok (.aload_n 0, 1) := by decide +kernel
theorem dX12_digest_145 : decode cX12_digest 145 = .ok (.aload_n 0, 1) := by decide +kernel
theorem dX12_digest_146 : decode cX12_digest 146 = .ok (.iload_n 1, 1) := by decide +kernel
theorem dX12_digest_147 : decode cX12_digest 147 = .ok (.iconst 0, 1) := by decide +kernel
theorem dX12_digest_148 : decode cX12_digest 148 = .ok (.invokevirtual 261, 3) := by decide +kernel
theorem dX12_digest_151 : decode cX12_digest 151 = .ok (.i2l, 1) := by decide +kernel
theorem dX12_digest_152 : decode cX12_digest 152 = .ok (.invokevirtual 272, 3) := by decide +kernel
theorem dX12_digest_155 : decode cX12_digest 155 = .ok (.aload_n 0, 1) := by decide +kernel
theorem dX12_digest_156 : decode cX12_digest 156 = .ok (.aload_n 0, 1) := by decide +kernel
theorem dX12_digest_157 : decode cX12_digest 157 = .ok (.iload_n 1, 1) := by decide +kernel
theorem dX12_digest_158 : decode cX12_digest 158 = .ok (.iconst 1, 1) := by decide +kernel
theorem dX12_digest_159 : decode cX12_digest 159 = .ok (.invokevirtual 261, 3) := by decide +kernel
theorem dX12_digest_162 : decode cX12_digest 162 = .ok (.i2l, 1) := by decide +kernel
theorem dX12_digest_163 : decode cX12_digest 163 = .ok (.invokevirtual 272, 3) := by decide +kernel
theorem dX12_digest_166 : decode cX12_digest 166 = .ok (.iinc 1 1, 3) := by decide +kernel
theorem dX12_digest_169 : decode cX12_digest 169 = .ok (.goto (-54), 3) := by decide +kernel
theorem dX12_digest_172 : decode cX12_digest 172 = .ok (.iconst 0, 1) := by decide +kernel
theorem dX12_digest_173 : decode cX12_digest 173 = .ok (.istore_n 1, 1) := by decide +kernel
theorem dX12_digest_174 : decode cX12_digest 174 = .ok (.iload_n 1, 1) := by decide +kernel
theorem dX12_digest_175 : decode cX12_digest 175 = .ok (.aload_n 0, 1) := by decide +kernel
theorem dX12_digest_176 : decode cX12_digest 176 = .ok (.getfield 63, 3) := by decide +kernel
theorem dX12_digest_179 : decode cX12_digest 179 = .ok (.if_icmp .ge 20, 3) := by decide +kernel
theorem dX12_digest_182 : decode cX12_digest 182 = .ok (.aload_n 0, 1) := by decide +kernel
theorem dX12_digest_183 : decode cX12_digest 183 = .ok (.aload_n 0, 1) := by decide +kernel
theorem dX12_digest_184 : decode cX12_digest 184 = .ok (.getfield 7, 3) := by decide +kernel
theorem dX12_digest_187 : decode cX12_digest 187 = .ok (.iload_n 1, 1) := by decide +kernel
theorem dX12_digest_188 : decode cX12_digest 188 = .ok (.iaload, 1) := by decide +kernel
theorem dX12_digest_189 : decode cX12_digest 189 = .ok (.i2l, 1) := by decide +kernel
theorem dX12_digest_190 : decode cX12_digest 190 = .ok (.invokevirtual 272, 3) := by decide +kernel
theorem dX12_digest_193 : decode cX12_digest 193 = .ok (.iinc 1 1, 3) := by decide +kernel
theorem dX12_digest_196 : decode cX12_digest 196 = .ok (.goto (-22), 3) := by decide +kernel
theorem dX12_digest_199 : decode cX12_digest 199 = .ok (.iconst 0, 1) := by decide +kernel
theorem dX12_digest_200 : decode cX12_digest 200 = .ok (.istore_n 1, 1) := by decide +kernel
theorem dX12_digest_201 : decode cX12_digest 201 = .ok (.iload_n 1, 1) := by decide +kernel
theorem dX12_digest_202 : decode cX12_digest 202 = .ok (.bipush 6, 2) := by decide +kernel
theorem dX12_digest_204 : decode cX12_digest 204 = .ok (.if_icmp .ge 19, 3) := by decide +kernel
theorem dX12_digest_207 : decode cX12_digest 207 = .ok (.aload_n 0, 1) := by decide +kernel
theorem dX12_digest_208 : decode cX12_digest 208 = .ok (.aload_n 0, 1) := by decide +kernel
theorem dX12_digest_209 : decode cX12_digest 209 = .ok (.iload_n 1, 1) := by decide +kernel
theorem dX12_digest_210 : decode cX12_digest 210 = .ok (.invokevirtual 264, 3) := by decide +kernel
theorem dX12_digest_213 : decode cX12_digest 213 = .ok (.i2l, 1) := by decide +kernel
theorem dX12_digest_214 : decode cX12_digest 214 = .ok (.invokevirtual 272, 3) := by decide +kernel
theorem dX12_digest_217 : decode cX12_digest 217 = .ok (.iinc 1 1, 3) := by decide +kernel
theorem dX12_digest_220 : decode cX12_digest 220 = .ok (.goto (-19), 3) := by decide +kernel
theorem dX12_digest_223 : decode cX12_digest 223 = .ok (.aload_n 0, 1) := by decide +kernel
theorem dX12_digest_224 : decode cX12_digest 224 = .ok (.getfield 269, 3) := by decide +kernel
theorem dX12_digest_227 : decode cX12_digest 227 = .ok (.lreturn, 1) := by decide +kernel
theorem kw_247 : (.constantLong RX12 276 (347) : Cond) ∈ gw_tbl := gw_in (by decide +kernel) (by decide +kernel)
theorem kw_248 : (.code yX12_tell cX12_tell 3 none : Cond) ∈ gw_tbl := gw_in (by decide +kernel) (by decide +kernel)
theorem kw_249 : (.methodLink RX12 272 yX12_tell : Cond) ∈ gw_tbl := gw_in (by decide +kernel) (by decide +kernel)
theorem kw_250 : (.instanceMethod yX12_tell : Cond) ∈ gw_tbl := gw_in (by decide +kernel) (by decide +kernel)
theorem kw_251 : (.selects RX12 yX12_tell yX12_tell : Cond) ∈ gw_tbl := gw_in (by decide +kernel) (by decide +kernel)

set_option maxHeartbeats 4000000 in
set_option maxRecDepth 100000 in
theorem m_digest (l : Launch) (D : va_G) (m0 : Nat) (mp : Nat) (mw : Nat) (mh : Nat) (mo : Nat) (m5 : Nat) (m6 : Nat) (m7 : Nat) (mk : Nat) (mn : Nat) (mq : Nat) (m8 : Nat) (m9 : Nat) (ma : Nat) (mb : Nat) (md : Nat) (sz : Nat) : Met l yX12_digest (Cond.code yX12_digest cX12_digest 3 (some .long) :: gw_tbl) ({ frames := 1, cells := 0, slots := 0, locals := 22 }) (pc_M D [] [(m0, .inr (12, [.ref mp, .int 0, .int 0, .int 0, .ref mw, .ref mh, .ref mo, .int 0, .int 0, .int 0, .int 0, .int 0, .int 0, .ref m5, .ref m6, .ref m7, .long 0, .int 0, .ref mk, .ref mn, .int 0, .ref mq, .ref m8, .ref m9, .int 0, .int 0, .int 0, .int 0, .ref ma, .int 0, .ref mb, .ref md, .long 0]))] sz [.ref m0]) (va_Ql (fun (r : Int64) (u : Unit) => r = 307963777307) (fun _ _ => True) (va_A [(m0, .inr (12, [.ref mp, .int 0, .int 0, .int 0, .ref mw, .ref mh, .ref mo, .int 0, .int 0, .int 0, .int 0, .int 0, .int 0, .ref m5, .ref m6, .ref m7, .long 0, .int 0, .ref mk, .ref mn, .int 0, .ref mq, .ref m8, .ref m9, .int 0, .int 0, .int 0, .int 0, .ref ma, .int 0, .ref mb, .ref md, .long 0]))] sz)) 0 0 (va_A [(m0, .inr (12, [.ref mp, .int 0, .int 0, .int 0, .ref mw, .ref mh, .ref mo, .int 0, .int 0, .int 0, .int 0, .int 0, .int 0, .ref m5, .ref m6, .ref m7, .long 0, .int 0, .ref mk, .ref mn, .int 0, .ref mq, .ref m8, .ref m9, .int 0, .int 0, .int 0, .int 0, .ref ma, .int 0, .ref mb, .ref md, .long 0]))] sz) := by
  refine Met.ofW (cc := cX12_digest) (maxL := 3) (ret := (some .long)) (by decide) rfl ?_
  intro p e s m args below meth c s₁ B hml hv
  obtain ⟨hargs, hsz, hP, hK, hD0⟩ := hv
  have hx := B.exec
  have hb := B.bytes
  have hr := B.returns
  have hts := atoms_spec (ws := Cond.code yX12_digest cX12_digest 3 (some .long) :: gw_tbl) B.pre
  have hg := fun (w : Cond) (h : w ∈ gw_tbl) => hts w (List.mem_cons_of_mem _ h)
  have hown : s.vm.findClass RX12 = some m.cls := findClass_of_methodNamed B.named
  have hlocks := B.notSynchronized
  subst hsz
  have hD := hD0.self (sz := s.heap.size)
  generalize hAe : va_A [(m0, .inr (12, [.ref mp, .int 0, .int 0, .int 0, .ref mw, .ref mh, .ref mo, .int 0, .int 0, .int 0, .int 0, .int 0, .int 0, .ref m5, .ref m6, .ref m7, .long 0, .int 0, .ref mk, .ref mn, .int 0, .ref mq, .ref m8, .ref m9, .int 0, .int 0, .int 0, .int 0, .ref ma, .int 0, .ref mb, .ref md, .long 0]))] s.heap.size = A at hD ⊢
  have hA : ∀ q : Nat, s.heap.size ≤ q → A q := fun q h => by rw [← hAe]; exact Or.inr h
  have hS : va_S A s.heap s.heap [] := va_S.rf
  have hP : va_P D vwCl [(m0, .inr (12, [.ref mp, .int 0, .int 0, .int 0, .ref mw, .ref mh, .ref mo, .int 0, .int 0, .int 0, .int 0, .int 0, .int 0, .ref m5, .ref m6, .ref m7, .long 0, .int 0, .ref mk, .ref mn, .int 0, .ref mq, .ref m8, .ref m9, .int 0, .int 0, .int 0, .int 0, .ref ma, .int 0, .ref mb, .ref md, .long 0]))] s.heap := hP
  have hl := lv_entry ([.ref m0]) (n := 3) (Nat.le_of_ble_eq_true rfl)
  rw [show entryFrame m args 3 = F0 m 0 (lg_sl ([.ref m0]) ++ List.replicate (3 - (lg_sl ([.ref m0])).length) Slot.unset).toArray [] from by rw [hargs]; exact lg_entry_eq ..]
  generalize (lg_sl ([.ref m0]) ++ List.replicate (3 - (lg_sl ([.ref m0])).length) Slot.unset).toArray = ls at hl ⊢
  have hl : lv_has ls 3 [(0, .ref m0)] := hl
  refine W_genQ (fun Q hQ => ?_)
  refine lv_aload_n hx hb dX12_digest_0 rfl (lv_at hl 0 rfl) ?_
  refine lv_ldc2 hx hb hown (hg _ kw_247) dX12_digest_1 ?_
  refine va_put (D := D) (ci := 12) (v := .long 347) (ty := .long) (C := RX12) (T := TX12) (N := 33) hx hb hg gwX12 tyX12 tyX12_ok nmX12 hown hK hP hD hS 0 rfl rfl 32 (by decide) (hg _ kw_246) (fun _ h9 => h9) rfl (by decide +kernel) rfl rfl (Nat.le_of_ble_eq_true rfl) dX12_digest_4 (fun H locs hP hD hS => ?_)
  have hP : va_P D vwCl [(m0, .inr (12, [.ref mp, .int 0, .int 0, .int 0, .ref mw, .ref mh, .ref mo, .int 0, .int 0, .int 0, .int 0, .int 0, .int 0, .ref m5, .ref m6, .ref m7, .long 0, .int 0, .ref mk, .ref mn, .int 0, .ref mq, .ref m8, .ref m9, .int 0, .int 0, .int 0, .int 0, .ref ma, .int 0, .ref mb, .ref md, .long 347]))] H := hP
  have hD : va_D A [(m0, .inr (12, [.ref mp, .int 0, .int 0, .int 0, .ref mw, .ref mh, .ref mo, .int 0, .int 0, .int 0, .int 0, .int 0, .int 0, .ref m5, .ref m6, .ref m7, .long 0, .int 0, .ref mk, .ref mn, .int 0, .ref mq, .ref m8, .ref m9, .int 0, .int 0, .int 0, .int 0, .ref ma, .int 0, .ref mb, .ref md, .long 347]))] := hD
  refine lv_iconst (v := 0) hx hb dX12_digest_7 (by decide) ?_
  refine lv_istore_n (lv' := [(1, .int 0), (0, .ref m0)]) hx hb dX12_digest_8 rfl hl (by decide) rfl (fun ls hl => ?_)
  refine lv_iload_n hx hb dX12_digest_9 rfl (lv_at hl 0 rfl) ?_
  refine lv_aload_n hx hb dX12_digest_10 rfl (lv_at hl 1 rfl) ?_
  refine va_get (D := D) (ci := 12) (v := .int 0) (C := RX12) (T := TX12) (N := 33) hx hb hg gwX12 hown hK hP 0 rfl rfl 2 (by decide) (hg _ kw_216) (fun _ h9 => h9) rfl dX12_digest_11 ?_
  refine lv_icmp_ge (tgt := 65) hx hb dX12_digest_14 (by decide) (fun c_14 => ?_) (fun c_14 => absurd c_14 (by decide))
  refine lv_iconst (v := 0) hx hb dX12_digest_65 (by decide) ?_
  refine lv_istore_n (lv' := [(1, .int 0), (0, .ref m0)]) hx hb dX12_digest_66 rfl hl (by decide) rfl (fun ls hl => ?_)
  refine lv_iload_n hx hb dX12_digest_67 rfl (lv_at hl 0 rfl) ?_
  refine lv_aload_n hx hb dX12_digest_68 rfl (lv_at hl 1 rfl) ?_
  refine va_get (D := D) (ci := 12) (v := .int 0) (C := RX12) (T := TX12) (N := 33) hx hb hg gwX12 hown hK hP 0 rfl rfl 3 (by decide) (hg _ kw_206) (fun _ h9 => h9) rfl dX12_digest_69 ?_
  refine lv_icmp_ge (tgt := 92) hx hb dX12_digest_72 (by decide) (fun c_72 => ?_) (fun c_72 => absurd c_72 (by decide))
  refine lv_iconst (v := 0) hx hb dX12_digest_92 (by decide) ?_
  refine lv_istore_n (lv' := [(1, .int 0), (0, .ref m0)]) hx hb dX12_digest_93 rfl hl (by decide) rfl (fun ls hl => ?_)
  refine lv_iload_n hx hb dX12_digest_94 rfl (lv_at hl 0 rfl) ?_
  refine lv_aload_n hx hb dX12_digest_95 rfl (lv_at hl 1 rfl) ?_
  refine va_get (D := D) (ci := 12) (v := .int 0) (C := RX12) (T := TX12) (N := 33) hx hb hg gwX12 hown hK hP 0 rfl rfl 17 (by decide) (hg _ kw_211) (fun _ h9 => h9) rfl dX12_digest_96 ?_
  refine lv_icmp_ge (tgt := 113) hx hb dX12_digest_99 (by decide) (fun c_99 => ?_) (fun c_99 => absurd c_99 (by decide))
  refine lv_iconst (v := 0) hx hb dX12_digest_113 (by decide) ?_
  refine lv_istore_n (lv' := [(1, .int 0), (0, .ref m0)]) hx hb dX12_digest_114 rfl hl (by decide) rfl (fun ls hl => ?_)
  refine lv_iload_n hx hb dX12_digest_115 rfl (lv_at hl 0 rfl) ?_
  refine lv_aload_n hx hb dX12_digest_116 rfl (lv_at hl 1 rfl) ?_
  refine va_get (D := D) (ci := 12) (v := .int 0) (C := RX12) (T := TX12) (N := 33) hx hb hg gwX12 hown hK hP 0 rfl rfl 29 (by decide) (hg _ kw_231) (fun _ h9 => h9) rfl dX12_digest_117 ?_
  refine lv_icmp_ge (tgt := 172) hx hb dX12_digest_120 (by decide) (fun c_120 => ?_) (fun c_120 => absurd c_120 (by decide))
  refine lv_iconst (v := 0) hx hb dX12_digest_172 (by decide) ?_
  refine lv_istore_n (lv' := [(1, .int 0), (0, .ref m0)]) hx hb dX12_digest_173 rfl hl (by decide) rfl (fun ls hl => ?_)
  refine lv_iload_n hx hb dX12_digest_174 rfl (lv_at hl 0 rfl) ?_
  refine lv_aload_n hx hb dX12_digest_175 rfl (lv_at hl 1 rfl) ?_
  refine va_get (D := D) (ci := 12) (v := .int 0) (C := RX12) (T := TX12) (N := 33) hx hb hg gwX12 hown hK hP 0 rfl rfl 1 (by decide) (hg _ kw_232) (fun _ h9 => h9) rfl dX12_digest_176 ?_
  refine lv_icmp_ge (tgt := 199) hx hb dX12_digest_179 (by decide) (fun c_179 => ?_) (fun c_179 => absurd c_179 (by decide))
  refine lv_iconst (v := 0) hx hb dX12_digest_199 (by decide) ?_
  refine lv_istore_n (lv' := [(1, .int 0), (0, .ref m0)]) hx hb dX12_digest_200 rfl hl (by decide) rfl (fun ls hl => ?_)
  refine lv_iload_n hx hb dX12_digest_201 rfl (lv_at hl 0 rfl) ?_
  refine lv_bipush (v := 6) hx hb dX12_digest_202 (by decide) ?_
  refine lv_icmp_ge (tgt := 223) hx hb dX12_digest_204 (by decide) (fun c_204 => absurd c_204 (by decide)) (fun c_204 => ?_)
  refine lv_aload_n hx hb dX12_digest_207 rfl (lv_at hl 1 rfl) ?_
  refine lv_aload_n hx hb dX12_digest_208 rfl (lv_at hl 1 rfl) ?_
  refine lv_iload_n hx hb dX12_digest_209 rfl (lv_at hl 0 rfl) ?_
  have hPc := hP.sub (ws' := [(m0, .inr (12, [.ref mp, .int 0, .int 0, .int 0, .ref mw, .ref mh, .ref mo, .int 0, .int 0, .int 0, .int 0, .int 0, .int 0, .ref m5, .ref m6, .ref m7, .long 0, .int 0, .ref mk, .ref mn, .int 0, .ref mq, .ref m8, .ref m9, .int 0, .int 0, .int 0, .int 0, .ref ma, .int 0, .ref mb, .ref md, .long 347]))]) [0] rfl
  have hKc := hK.sub (tys' := []) [] rfl
  refine vp_callSi (W.runV (As := [.int 0]) (rest := [.ref m0]) ⟨hx, hb, hml, hown, hg⟩ (m_countOf l D m0 mp mw mh mo m5 m6 m7 mk mn mq m8 m9 ma mb md 347 0) (cwV 1 hg (gw_V kw_235 kw_236 kw_237 kw_210 kw_234) rfl rfl rfl (by decide +kernel) ⟨Nat.le_of_ble_eq_true rfl, Nat.le_of_ble_eq_true rfl⟩) (pr_SV (q := (RX12, TX12, 33)) 12 0 hKc hPc rfl rfl) rfl rfl hl.1 rfl (lv_room (Nat.le_of_ble_eq_true rfl)) dX12_digest_210 ⟨Nat.le_of_ble_eq_true rfl, Nat.le_of_ble_eq_true rfl⟩) (fun r_210 h_210 => ?_)
  obtain rfl : r_210 = (0 : Int32) := h_210.trans (by decide)
  refine lv_i2l hx hb dX12_digest_213 rfl ?_
  refine lv_topl (fun z_213 e_213 => ?_)
  obtain rfl : z_213 = (0 : Int64) := e_213.trans (by decide)
  have hPc := hP.sub (ws' := [(m0, .inr (12, [.ref mp, .int 0, .int 0, .int 0, .ref mw, .ref mh, .ref mo, .int 0, .int 0, .int 0, .int 0, .int 0, .int 0, .ref m5, .ref m6, .ref m7, .long 0, .int 0, .ref mk, .ref mn, .int 0, .ref mq, .ref m8, .ref m9, .int 0, .int 0, .int 0, .int 0, .ref ma, .int 0, .ref mb, .ref md, .long 347]))]) [0] rfl
  have hKc := hK.sub (tys' := []) [] rfl
  have hDc := hD.sub (ws' := [(m0, .inr (12, [.ref mp, .int 0, .int 0, .int 0, .ref mw, .ref mh, .ref mo, .int 0, .int 0, .int 0, .int 0, .int 0, .int 0, .ref m5, .ref m6, .ref m7, .long 0, .int 0, .ref mk, .ref mn, .int 0, .ref mq, .ref m8, .ref m9, .int 0, .int 0, .int 0, .int 0, .ref ma, .int 0, .ref mb, .ref md, .long 347]))]) [0] (by decide) rfl
  have hFc := va_free (wc := [(m0, .inr (12, [.ref mp, .int 0, .int 0, .int 0, .ref mw, .ref mh, .ref mo, .int 0, .int 0, .int 0, .int 0, .int 0, .int 0, .ref m5, .ref m6, .ref m7, .long 0, .int 0, .ref mk, .ref mn, .int 0, .ref mq, .ref m8, .ref m9, .int 0, .int 0, .int 0, .int 0, .ref ma, .int 0, .ref mb, .ref md, .long 347]))]) hD hS hA [0] rfl
  refine va_callv (va_runV (As := [.long 0]) (rest := []) ⟨hx, hb, hml, hown, hg⟩ (m_tell l D m0 mp mw mh mo m5 m6 m7 mk mn mq m8 m9 ma mb md 347 0 _) (cwV 1 hg (gw_V kw_249 kw_250 kw_251 kw_210 kw_248) rfl rfl rfl (by decide +kernel) ⟨Nat.le_of_ble_eq_true rfl, Nat.le_of_ble_eq_true rfl⟩) (pr_MV (q := (RX12, TX12, 33)) 12 0 hKc hPc hDc rfl rfl) rfl rfl hl.1 rfl (lv_room (Nat.le_of_ble_eq_true rfl)) dX12_digest_214 ⟨Nat.le_of_ble_eq_true rfl, Nat.le_of_ble_eq_true rfl⟩) hS (fun q _ h => hFc q h) hFc (fun u t H1 locs ht hvm h_214 hB hz1 hk1 hS => ?_)
  obtain ⟨hP1, hK1, hD1⟩ := hB
  rw [ht] at hP1
  have hK1 := va_K.moved hvm.symm hK1
  obtain ⟨hP, hD⟩ := va_join (wr := []) (w1 := [(m0, .inr (12, [.ref mp, .int 0, .int 0, .int 0, .ref mw, .ref mh, .ref mo, .int 0, .int 0, .int 0, .int 0, .int 0, .int 0, .ref m5, .ref m6, .ref m7, .long 0, .int 0, .ref mk, .ref mn, .int 0, .ref mq, .ref m8, .ref m9, .int 0, .int 0, .int 0, .int 0, .ref ma, .int 0, .ref mb, .ref md, .long (31 * 347 + 0)]))]) hP hD [0] [] rfl rfl (by decide) (by decide) hk1 hFc hP1 hD1
  have hK := hK.app hK1
  generalize H1 = H at hP hS ⊢
  have hP : va_P D vwCl [(m0, .inr (12, [.ref mp, .int 0, .int 0, .int 0, .ref mw, .ref mh, .ref mo, .int 0, .int 0, .int 0, .int 0, .int 0, .int 0, .ref m5, .ref m6, .ref m7, .long 0, .int 0, .ref mk, .ref mn, .int 0, .ref mq, .ref m8, .ref m9, .int 0, .int 0, .int 0, .int 0, .ref ma, .int 0, .ref mb, .ref md, .long (31 * 347 + 0)]))] H := hP
  have hD : va_D A [(m0, .inr (12, [.ref mp, .int 0, .int 0, .int 0, .ref mw, .ref mh, .ref mo, .int 0, .int 0, .int 0, .int 0, .int 0, .int 0, .ref m5, .ref m6, .ref m7, .long 0, .int 0, .ref mk, .ref mn, .int 0, .ref mq, .ref m8, .ref m9, .int 0, .int 0, .int 0, .int 0, .ref ma, .int 0, .ref mb, .ref md, .long (31 * 347 + 0)]))] := hD
  have hK : va_K D vwCl [] s := hK
  refine W.cs (cells' := 0) (slots' := 0) rfl rfl ?_
  rw [show (31 * 347 + 0 : Int64) = 10757 from by decide] at hP hD
  have hP : va_P D vwCl [(m0, .inr (12, [.ref mp, .int 0, .int 0, .int 0, .ref mw, .ref mh, .ref mo, .int 0, .int 0, .int 0, .int 0, .int 0, .int 0, .ref m5, .ref m6, .ref m7, .long 0, .int 0, .ref mk, .ref mn, .int 0, .ref mq, .ref m8, .ref m9, .int 0, .int 0, .int 0, .int 0, .ref ma, .int 0, .ref mb, .ref md, .long 10757]))] H := hP
  have hD : va_D A [(m0, .inr (12, [.ref mp, .int 0, .int 0, .int 0, .ref mw, .ref mh, .ref mo, .int 0, .int 0, .int 0, .int 0, .int 0, .int 0, .ref m5, .ref m6, .ref m7, .long 0, .int 0, .ref mk, .ref mn, .int 0, .ref mq, .ref m8, .ref m9, .int 0, .int 0, .int 0, .int 0, .ref ma, .int 0, .ref mb, .ref md, .long 10757]))] := hD
  refine lv_iinc (v := 1) (lv' := [(1, .int 1), (0, .ref m0)]) hx hb dX12_digest_217 hl (k := 0) rfl (by decide) (by decide) rfl (fun ls hl => ?_)
  refine lv_goto (tgt := 201) hx hb dX12_digest_220 (by decide) ?_
  refine lv_iload_n hx hb dX12_digest_201 rfl (lv_at hl 0 rfl) ?_
  refine lv_bipush (v := 6) hx hb dX12_digest_202 (by decide) ?_
  refine lv_icmp_ge (tgt := 223) hx hb dX12_digest_204 (by decide) (fun c_204 => absurd c_204 (by decide)) (fun c_204 => ?_)
  refine lv_aload_n hx hb dX12_digest_207 rfl (lv_at hl 1 rfl) ?_
  refine lv_aload_n hx hb dX12_digest_208 rfl (lv_at hl 1 rfl) ?_
  refine lv_iload_n hx hb dX12_digest_209 rfl (lv_at hl 0 rfl) ?_
  have hPc := hP.sub (ws' := [(m0, .inr (12, [.ref mp, .int 0, .int 0, .int 0, .ref mw, .ref mh, .ref mo, .int 0, .int 0, .int 0, .int 0, .int 0, .int 0, .ref m5, .ref m6, .ref m7, .long 0, .int 0, .ref mk, .ref mn, .int 0, .ref mq, .ref m8, .ref m9, .int 0, .int 0, .int 0, .int 0, .ref ma, .int 0, .ref mb, .ref md, .long 10757]))]) [0] rfl
  have hKc := hK.sub (tys' := []) [] rfl
  refine vp_callSi (W.runV (As := [.int 1]) (rest := [.ref m0]) ⟨hx, hb, hml, hown, hg⟩ (m_countOf l D m0 mp mw mh mo m5 m6 m7 mk mn mq m8 m9 ma mb md 10757 1) (cwV 1 hg (gw_V kw_235 kw_236 kw_237 kw_210 kw_234) rfl rfl rfl (by decide +kernel) ⟨Nat.le_of_ble_eq_true rfl, Nat.le_of_ble_eq_true rfl⟩) (pr_SV (q := (RX12, TX12, 33)) 12 0 hKc hPc rfl rfl) rfl rfl hl.1 rfl (lv_room (Nat.le_of_ble_eq_true rfl)) dX12_digest_210 ⟨Nat.le_of_ble_eq_true rfl, Nat.le_of_ble_eq_true rfl⟩) (fun r_210 h_210 => ?_)
  obtain rfl : r_210 = (0 : Int32) := h_210.trans (by decide)
  refine lv_i2l hx hb dX12_digest_213 rfl ?_
  refine lv_topl (fun z_213 e_213 => ?_)
  obtain rfl : z_213 = (0 : Int64) := e_213.trans (by decide)
  have hPc := hP.sub (ws' := [(m0, .inr (12, [.ref mp, .int 0, .int 0, .int 0, .ref mw, .ref mh, .ref mo, .int 0, .int 0, .int 0, .int 0, .int 0, .int 0, .ref m5, .ref m6, .ref m7, .long 0, .int 0, .ref mk, .ref mn, .int 0, .ref mq, .ref m8, .ref m9, .int 0, .int 0, .int 0, .int 0, .ref ma, .int 0, .ref mb, .ref md, .long 10757]))]) [0] rfl
  have hKc := hK.sub (tys' := []) [] rfl
  have hDc := hD.sub (ws' := [(m0, .inr (12, [.ref mp, .int 0, .int 0, .int 0, .ref mw, .ref mh, .ref mo, .int 0, .int 0, .int 0, .int 0, .int 0, .int 0, .ref m5, .ref m6, .ref m7, .long 0, .int 0, .ref mk, .ref mn, .int 0, .ref mq, .ref m8, .ref m9, .int 0, .int 0, .int 0, .int 0, .ref ma, .int 0, .ref mb, .ref md, .long 10757]))]) [0] (by decide) rfl
  have hFc := va_free (wc := [(m0, .inr (12, [.ref mp, .int 0, .int 0, .int 0, .ref mw, .ref mh, .ref mo, .int 0, .int 0, .int 0, .int 0, .int 0, .int 0, .ref m5, .ref m6, .ref m7, .long 0, .int 0, .ref mk, .ref mn, .int 0, .ref mq, .ref m8, .ref m9, .int 0, .int 0, .int 0, .int 0, .ref ma, .int 0, .ref mb, .ref md, .long 10757]))]) hD hS hA [0] rfl
  refine va_callv (va_runV (As := [.long 0]) (rest := []) ⟨hx, hb, hml, hown, hg⟩ (m_tell l D m0 mp mw mh mo m5 m6 m7 mk mn mq m8 m9 ma mb md 10757 0 _) (cwV 1 hg (gw_V kw_249 kw_250 kw_251 kw_210 kw_248) rfl rfl rfl (by decide +kernel) ⟨Nat.le_of_ble_eq_true rfl, Nat.le_of_ble_eq_true rfl⟩) (pr_MV (q := (RX12, TX12, 33)) 12 0 hKc hPc hDc rfl rfl) rfl rfl hl.1 rfl (lv_room (Nat.le_of_ble_eq_true rfl)) dX12_digest_214 ⟨Nat.le_of_ble_eq_true rfl, Nat.le_of_ble_eq_true rfl⟩) hS (fun q _ h => hFc q h) hFc (fun u t H1 locs ht hvm h_214 hB hz1 hk1 hS => ?_)
  obtain ⟨hP1, hK1, hD1⟩ := hB
  rw [ht] at hP1
  have hK1 := va_K.moved hvm.symm hK1
  obtain ⟨hP, hD⟩ := va_join (wr := []) (w1 := [(m0, .inr (12, [.ref mp, .int 0, .int 0, .int 0, .ref mw, .ref mh, .ref mo, .int 0, .int 0, .int 0, .int 0, .int 0, .int 0, .ref m5, .ref m6, .ref m7, .long 0, .int 0, .ref mk, .ref mn, .int 0, .ref mq, .ref m8, .ref m9, .int 0, .int 0, .int 0, .int 0, .ref ma, .int 0, .ref mb, .ref md, .long (31 * 10757 + 0)]))]) hP hD [0] [] rfl rfl (by decide) (by decide) hk1 hFc hP1 hD1
  have hK := hK.app hK1
  generalize H1 = H at hP hS ⊢
  have hP : va_P D vwCl [(m0, .inr (12, [.ref mp, .int 0, .int 0, .int 0, .ref mw, .ref mh, .ref mo, .int 0, .int 0, .int 0, .int 0, .int 0, .int 0, .ref m5, .ref m6, .ref m7, .long 0, .int 0, .ref mk, .ref mn, .int 0, .ref mq, .ref m8, .ref m9, .int 0, .int 0, .int 0, .int 0, .ref ma, .int 0, .ref mb, .ref md, .long (31 * 10757 + 0)]))] H := hP
  have hD : va_D A [(m0, .inr (12, [.ref mp, .int 0, .int 0, .int 0, .ref mw, .ref mh, .ref mo, .int 0, .int 0, .int 0, .int 0, .int 0, .int 0, .ref m5, .ref m6, .ref m7, .long 0, .int 0, .ref mk, .ref mn, .int 0, .ref mq, .ref m8, .ref m9, .int 0, .int 0, .int 0, .int 0, .ref ma, .int 0, .ref mb, .ref md, .long (31 * 10757 + 0)]))] := hD
  have hK : va_K D vwCl [] s := hK
  refine W.cs (cells' := 0) (slots' := 0) rfl rfl ?_
  rw [show (31 * 10757 + 0 : Int64) = 333467 from by decide] at hP hD
  have hP : va_P D vwCl [(m0, .inr (12, [.ref mp, .int 0, .int 0, .int 0, .ref mw, .ref mh, .ref mo, .int 0, .int 0, .int 0, .int 0, .int 0, .int 0, .ref m5, .ref m6, .ref m7, .long 0, .int 0, .ref mk, .ref mn, .int 0, .ref mq, .ref m8, .ref m9, .int 0, .int 0, .int 0, .int 0, .ref ma, .int 0, .ref mb, .ref md, .long 333467]))] H := hP
  have hD : va_D A [(m0, .inr (12, [.ref mp, .int 0, .int 0, .int 0, .ref mw, .ref mh, .ref mo, .int 0, .int 0, .int 0, .int 0, .int 0, .int 0, .ref m5, .ref m6, .ref m7, .long 0, .int 0, .ref mk, .ref mn, .int 0, .ref mq, .ref m8, .ref m9, .int 0, .int 0, .int 0, .int 0, .ref ma, .int 0, .ref mb, .ref md, .long 333467]))] := hD
  refine lv_iinc (v := 2) (lv' := [(1, .int 2), (0, .ref m0)]) hx hb dX12_digest_217 hl (k := 0) rfl (by decide) (by decide) rfl (fun ls hl => ?_)
  refine lv_goto (tgt := 201) hx hb dX12_digest_220 (by decide) ?_
  refine lv_iload_n hx hb dX12_digest_201 rfl (lv_at hl 0 rfl) ?_
  refine lv_bipush (v := 6) hx hb dX12_digest_202 (by decide) ?_
  refine lv_icmp_ge (tgt := 223) hx hb dX12_digest_204 (by decide) (fun c_204 => absurd c_204 (by decide)) (fun c_204 => ?_)
  refine lv_aload_n hx hb dX12_digest_207 rfl (lv_at hl 1 rfl) ?_
  refine lv_aload_n hx hb dX12_digest_208 rfl (lv_at hl 1 rfl) ?_
  refine lv_iload_n hx hb dX12_digest_209 rfl (lv_at hl 0 rfl) ?_
  have hPc := hP.sub (ws' := [(m0, .inr (12, [.ref mp, .int 0, .int 0, .int 0, .ref mw, .ref mh, .ref mo, .int 0, .int 0, .int 0, .int 0, .int 0, .int 0, .ref m5, .ref m6, .ref m7, .long 0, .int 0, .ref mk, .ref mn, .int 0, .ref mq, .ref m8, .ref m9, .int 0, .int 0, .int 0, .int 0, .ref ma, .int 0, .ref mb, .ref md, .long 333467]))]) [0] rfl
  have hKc := hK.sub (tys' := []) [] rfl
  refine vp_callSi (W.runV (As := [.int 2]) (rest := [.ref m0]) ⟨hx, hb, hml, hown, hg⟩ (m_countOf l D m0 mp mw mh mo m5 m6 m7 mk mn mq m8 m9 ma mb md 333467 2) (cwV 1 hg (gw_V kw_235 kw_236 kw_237 kw_210 kw_234) rfl rfl rfl (by decide +kernel) ⟨Nat.le_of_ble_eq_true rfl, Nat.le_of_ble_eq_true rfl⟩) (pr_SV (q := (RX12, TX12, 33)) 12 0 hKc hPc rfl rfl) rfl rfl hl.1 rfl (lv_room (Nat.le_of_ble_eq_true rfl)) dX12_digest_210 ⟨Nat.le_of_ble_eq_true rfl, Nat.le_of_ble_eq_true rfl⟩) (fun r_210 h_210 => ?_)
  obtain rfl : r_210 = (0 : Int32) := h_210.trans (by decide)
  refine lv_i2l hx hb dX12_digest_213 rfl ?_
  refine lv_topl (fun z_213 e_213 => ?_)
  obtain rfl : z_213 = (0 : Int64) := e_213.trans (by decide)
  have hPc := hP.sub (ws' := [(m0, .inr (12, [.ref mp, .int 0, .int 0, .int 0, .ref mw, .ref mh, .ref mo, .int 0, .int 0, .int 0, .int 0, .int 0, .int 0, .ref m5, .ref m6, .ref m7, .long 0, .int 0, .ref mk, .ref mn, .int 0, .ref mq, .ref m8, .ref m9, .int 0, .int 0, .int 0, .int 0, .ref ma, .int 0, .ref mb, .ref md, .long 333467]))]) [0] rfl
  have hKc := hK.sub (tys' := []) [] rfl
  have hDc := hD.sub (ws' := [(m0, .inr (12, [.ref mp, .int 0, .int 0, .int 0, .ref mw, .ref mh, .ref mo, .int 0, .int 0, .int 0, .int 0, .int 0, .int 0, .ref m5, .ref m6, .ref m7, .long 0, .int 0, .ref mk, .ref mn, .int 0, .ref mq, .ref m8, .ref m9, .int 0, .int 0, .int 0, .int 0, .ref ma, .int 0, .ref mb, .ref md, .long 333467]))]) [0] (by decide) rfl
  have hFc := va_free (wc := [(m0, .inr (12, [.ref mp, .int 0, .int 0, .int 0, .ref mw, .ref mh, .ref mo, .int 0, .int 0, .int 0, .int 0, .int 0, .int 0, .ref m5, .ref m6, .ref m7, .long 0, .int 0, .ref mk, .ref mn, .int 0, .ref mq, .ref m8, .ref m9, .int 0, .int 0, .int 0, .int 0, .ref ma, .int 0, .ref mb, .ref md, .long 333467]))]) hD hS hA [0] rfl
  refine va_callv (va_runV (As := [.long 0]) (rest := []) ⟨hx, hb, hml, hown, hg⟩ (m_tell l D m0 mp mw mh mo m5 m6 m7 mk mn mq m8 m9 ma mb md 333467 0 _) (cwV 1 hg (gw_V kw_249 kw_250 kw_251 kw_210 kw_248) rfl rfl rfl (by decide +kernel) ⟨Nat.le_of_ble_eq_true rfl, Nat.le_of_ble_eq_true rfl⟩) (pr_MV (q := (RX12, TX12, 33)) 12 0 hKc hPc hDc rfl rfl) rfl rfl hl.1 rfl (lv_room (Nat.le_of_ble_eq_true rfl)) dX12_digest_214 ⟨Nat.le_of_ble_eq_true rfl, Nat.le_of_ble_eq_true rfl⟩) hS (fun q _ h => hFc q h) hFc (fun u t H1 locs ht hvm h_214 hB hz1 hk1 hS => ?_)
  obtain ⟨hP1, hK1, hD1⟩ := hB
  rw [ht] at hP1
  have hK1 := va_K.moved hvm.symm hK1
  obtain ⟨hP, hD⟩ := va_join (wr := []) (w1 := [(m0, .inr (12, [.ref mp, .int 0, .int 0, .int 0, .ref mw, .ref mh, .ref mo, .int 0, .int 0, .int 0, .int 0, .int 0, .int 0, .ref m5, .ref m6, .ref m7, .long 0, .int 0, .ref mk, .ref mn, .int 0, .ref mq, .ref m8, .ref m9, .int 0, .int 0, .int 0, .int 0, .ref ma, .int 0, .ref mb, .ref md, .long (31 * 333467 + 0)]))]) hP hD [0] [] rfl rfl (by decide) (by decide) hk1 hFc hP1 hD1
  have hK := hK.app hK1
  generalize H1 = H at hP hS ⊢
  have hP : va_P D vwCl [(m0, .inr (12, [.ref mp, .int 0, .int 0, .int 0, .ref mw, .ref mh, .ref mo, .int 0, .int 0, .int 0, .int 0, .int 0, .int 0, .ref m5, .ref m6, .ref m7, .long 0, .int 0, .ref mk, .ref mn, .int 0, .ref mq, .ref m8, .ref m9, .int 0, .int 0, .int 0, .int 0, .ref ma, .int 0, .ref mb, .ref md, .long (31 * 333467 + 0)]))] H := hP
  have hD : va_D A [(m0, .inr (12, [.ref mp, .int 0, .int 0, .int 0, .ref mw, .ref mh, .ref mo, .int 0, .int 0, .int 0, .int 0, .int 0, .int 0, .ref m5, .ref m6, .ref m7, .long 0, .int 0, .ref mk, .ref mn, .int 0, .ref mq, .ref m8, .ref m9, .int 0, .int 0, .int 0, .int 0, .ref ma, .int 0, .ref mb, .ref md, .long (31 * 333467 + 0)]))] := hD
  have hK : va_K D vwCl [] s := hK
  refine W.cs (cells' := 0) (slots' := 0) rfl rfl ?_
  rw [show (31 * 333467 + 0 : Int64) = 10337477 from by decide] at hP hD
  have hP : va_P D vwCl [(m0, .inr (12, [.ref mp, .int 0, .int 0, .int 0, .ref mw, .ref mh, .ref mo, .int 0, .int 0, .int 0, .int 0, .int 0, .int 0, .ref m5, .ref m6, .ref m7, .long 0, .int 0, .ref mk, .ref mn, .int 0, .ref mq, .ref m8, .ref m9, .int 0, .int 0, .int 0, .int 0, .ref ma, .int 0, .ref mb, .ref md, .long 10337477]))] H := hP
  have hD : va_D A [(m0, .inr (12, [.ref mp, .int 0, .int 0, .int 0, .ref mw, .ref mh, .ref mo, .int 0, .int 0, .int 0, .int 0, .int 0, .int 0, .ref m5, .ref m6, .ref m7, .long 0, .int 0, .ref mk, .ref mn, .int 0, .ref mq, .ref m8, .ref m9, .int 0, .int 0, .int 0, .int 0, .ref ma, .int 0, .ref mb, .ref md, .long 10337477]))] := hD
  refine lv_iinc (v := 3) (lv' := [(1, .int 3), (0, .ref m0)]) hx hb dX12_digest_217 hl (k := 0) rfl (by decide) (by decide) rfl (fun ls hl => ?_)
  refine lv_goto (tgt := 201) hx hb dX12_digest_220 (by decide) ?_
  refine lv_iload_n hx hb dX12_digest_201 rfl (lv_at hl 0 rfl) ?_
  refine lv_bipush (v := 6) hx hb dX12_digest_202 (by decide) ?_
  refine lv_icmp_ge (tgt := 223) hx hb dX12_digest_204 (by decide) (fun c_204 => absurd c_204 (by decide)) (fun c_204 => ?_)
  refine lv_aload_n hx hb dX12_digest_207 rfl (lv_at hl 1 rfl) ?_
  refine lv_aload_n hx hb dX12_digest_208 rfl (lv_at hl 1 rfl) ?_
  refine lv_iload_n hx hb dX12_digest_209 rfl (lv_at hl 0 rfl) ?_
  have hPc := hP.sub (ws' := [(m0, .inr (12, [.ref mp, .int 0, .int 0, .int 0, .ref mw, .ref mh, .ref mo, .int 0, .int 0, .int 0, .int 0, .int 0, .int 0, .ref m5, .ref m6, .ref m7, .long 0, .int 0, .ref mk, .ref mn, .int 0, .ref mq, .ref m8, .ref m9, .int 0, .int 0, .int 0, .int 0, .ref ma, .int 0, .ref mb, .ref md, .long 10337477]))]) [0] rfl
  have hKc := hK.sub (tys' := []) [] rfl
  refine vp_callSi (W.runV (As := [.int 3]) (rest := [.ref m0]) ⟨hx, hb, hml, hown, hg⟩ (m_countOf l D m0 mp mw mh mo m5 m6 m7 mk mn mq m8 m9 ma mb md 10337477 3) (cwV 1 hg (gw_V kw_235 kw_236 kw_237 kw_210 kw_234) rfl rfl rfl (by decide +kernel) ⟨Nat.le_of_ble_eq_true rfl, Nat.le_of_ble_eq_true rfl⟩) (pr_SV (q := (RX12, TX12, 33)) 12 0 hKc hPc rfl rfl) rfl rfl hl.1 rfl (lv_room (Nat.le_of_ble_eq_true rfl)) dX12_digest_210 ⟨Nat.le_of_ble_eq_true rfl, Nat.le_of_ble_eq_true rfl⟩) (fun r_210 h_210 => ?_)
  obtain rfl : r_210 = (0 : Int32) := h_210.trans (by decide)
  refine lv_i2l hx hb dX12_digest_213 rfl ?_
  refine lv_topl (fun z_213 e_213 => ?_)
  obtain rfl : z_213 = (0 : Int64) := e_213.trans (by decide)
  have hPc := hP.sub (ws' := [(m0, .inr (12, [.ref mp, .int 0, .int 0, .int 0, .ref mw, .ref mh, .ref mo, .int 0, .int 0, .int 0, .int 0, .int 0, .int 0, .ref m5, .ref m6, .ref m7, .long 0, .int 0, .ref mk, .ref mn, .int 0, .ref mq, .ref m8, .ref m9, .int 0, .int 0, .int 0, .int 0, .ref ma, .int 0, .ref mb, .ref md, .long 10337477]))]) [0] rfl
  have hKc := hK.sub (tys' := []) [] rfl
  have hDc := hD.sub (ws' := [(m0, .inr (12, [.ref mp, .int 0, .int 0, .int 0, .ref mw, .ref mh, .ref mo, .int 0, .int 0, .int 0, .int 0, .int 0, .int 0, .ref m5, .ref m6, .ref m7, .long 0, .int 0, .ref mk, .ref mn, .int 0, .ref mq, .ref m8, .ref m9, .int 0, .int 0, .int 0, .int 0, .ref ma, .int 0, .ref mb, .ref md, .long 10337477]))]) [0] (by decide) rfl
  have hFc := va_free (wc := [(m0, .inr (12, [.ref mp, .int 0, .int 0, .int 0, .ref mw, .ref mh, .ref mo, .int 0, .int 0, .int 0, .int 0, .int 0, .int 0, .ref m5, .ref m6, .ref m7, .long 0, .int 0, .ref mk, .ref mn, .int 0, .ref mq, .ref m8, .ref m9, .int 0, .int 0, .int 0, .int 0, .ref ma, .int 0, .ref mb, .ref md, .long 10337477]))]) hD hS hA [0] rfl
  refine va_callv (va_runV (As := [.long 0]) (rest := []) ⟨hx, hb, hml, hown, hg⟩ (m_tell l D m0 mp mw mh mo m5 m6 m7 mk mn mq m8 m9 ma mb md 10337477 0 _) (cwV 1 hg (gw_V kw_249 kw_250 kw_251 kw_210 kw_248) rfl rfl rfl (by decide +kernel) ⟨Nat.le_of_ble_eq_true rfl, Nat.le_of_ble_eq_true rfl⟩) (pr_MV (q := (RX12, TX12, 33)) 12 0 hKc hPc hDc rfl rfl) rfl rfl hl.1 rfl (lv_room (Nat.le_of_ble_eq_true rfl)) dX12_digest_214 ⟨Nat.le_of_ble_eq_true rfl, Nat.le_of_ble_eq_true rfl⟩) hS (fun q _ h => hFc q h) hFc (fun u t H1 locs ht hvm h_214 hB hz1 hk1 hS => ?_)
  obtain ⟨hP1, hK1, hD1⟩ := hB
  rw [ht] at hP1
  have hK1 := va_K.moved hvm.symm hK1
  obtain ⟨hP, hD⟩ := va_join (wr := []) (w1 := [(m0, .inr (12, [.ref mp, .int 0, .int 0, .int 0, .ref mw, .ref mh, .ref mo, .int 0, .int 0, .int 0, .int 0, .int 0, .int 0, .ref m5, .ref m6, .ref m7, .long 0, .int 0, .ref mk, .ref mn, .int 0, .ref mq, .ref m8, .ref m9, .int 0, .int 0, .int 0, .int 0, .ref ma, .int 0, .ref mb, .ref md, .long (31 * 10337477 + 0)]))]) hP hD [0] [] rfl rfl (by decide) (by decide) hk1 hFc hP1 hD1
  have hK := hK.app hK1
  generalize H1 = H at hP hS ⊢
  have hP : va_P D vwCl [(m0, .inr (12, [.ref mp, .int 0, .int 0, .int 0, .ref mw, .ref mh, .ref mo, .int 0, .int 0, .int 0, .int 0, .int 0, .int 0, .ref m5, .ref m6, .ref m7, .long 0, .int 0, .ref mk, .ref mn, .int 0, .ref mq, .ref m8, .ref m9, .int 0, .int 0, .int 0, .int 0, .ref ma, .int 0, .ref mb, .ref md, .long (31 * 10337477 + 0)]))] H := hP
  have hD : va_D A [(m0, .inr (12, [.ref mp, .int 0, .int 0, .int 0, .ref mw, .ref mh, .ref mo, .int 0, .int 0, .int 0, .int 0, .int 0, .int 0, .ref m5, .ref m6, .ref m7, .long 0, .int 0, .ref mk, .ref mn, .int 0, .ref mq, .ref m8, .ref m9, .int 0, .int 0, .int 0, .int 0, .ref ma, .int 0, .ref mb, .ref md, .long (31 * 10337477 + 0)]))] := hD
  have hK : va_K D vwCl [] s := hK
  refine W.cs (cells' := 0) (slots' := 0) rfl rfl ?_
  rw [show (31 * 10337477 + 0 : Int64) = 320461787 from by decide] at hP hD
  have hP : va_P D vwCl [(m0, .inr (12, [.ref mp, .int 0, .int 0, .int 0, .ref mw, .ref mh, .ref mo, .int 0, .int 0, .int 0, .int 0, .int 0, .int 0, .ref m5, .ref m6, .ref m7, .long 0, .int 0, .ref mk, .ref mn, .int 0, .ref mq, .ref m8, .ref m9, .int 0, .int 0, .int 0, .int 0, .ref ma, .int 0, .ref mb, .ref md, .long 320461787]))] H := hP
  have hD : va_D A [(m0, .inr (12, [.ref mp, .int 0, .int 0, .int 0, .ref mw, .ref mh, .ref mo, .int 0, .int 0, .int 0, .int 0, .int 0, .int 0, .ref m5, .ref m6, .ref m7, .long 0, .int 0, .ref mk, .ref mn, .int 0, .ref mq, .ref m8, .ref m9, .int 0, .int 0, .int 0, .int 0, .ref ma, .int 0, .ref mb, .ref md, .long 320461787]))] := hD
  refine lv_iinc (v := 4) (lv' := [(1, .int 4), (0, .ref m0)]) hx hb dX12_digest_217 hl (k := 0) rfl (by decide) (by decide) rfl (fun ls hl => ?_)
  refine lv_goto (tgt := 201) hx hb dX12_digest_220 (by decide) ?_
  refine lv_iload_n hx hb dX12_digest_201 rfl (lv_at hl 0 rfl) ?_
  refine lv_bipush (v := 6) hx hb dX12_digest_202 (by decide) ?_
  refine lv_icmp_ge (tgt := 223) hx hb dX12_digest_204 (by decide) (fun c_204 => absurd c_204 (by decide)) (fun c_204 => ?_)
  refine lv_aload_n hx hb dX12_digest_207 rfl (lv_at hl 1 rfl) ?_
  refine lv_aload_n hx hb dX12_digest_208 rfl (lv_at hl 1 rfl) ?_
  refine lv_iload_n hx hb dX12_digest_209 rfl (lv_at hl 0 rfl) ?_
  have hPc := hP.sub (ws' := [(m0, .inr (12, [.ref mp, .int 0, .int 0, .int 0, .ref mw, .ref mh, .ref mo, .int 0, .int 0, .int 0, .int 0, .int 0, .int 0, .ref m5, .ref m6, .ref m7, .long 0, .int 0, .ref mk, .ref mn, .int 0, .ref mq, .ref m8, .ref m9, .int 0, .int 0, .int 0, .int 0, .ref ma, .int 0, .ref mb, .ref md, .long 320461787]))]) [0] rfl
  have hKc := hK.sub (tys' := []) [] rfl
  refine vp_callSi (W.runV (As := [.int 4]) (rest := [.ref m0]) ⟨hx, hb, hml, hown, hg⟩ (m_countOf l D m0 mp mw mh mo m5 m6 m7 mk mn mq m8 m9 ma mb md 320461787 4) (cwV 1 hg (gw_V kw_235 kw_236 kw_237 kw_210 kw_234) rfl rfl rfl (by decide +kernel) ⟨Nat.le_of_ble_eq_true rfl, Nat.le_of_ble_eq_true rfl⟩) (pr_SV (q := (RX12, TX12, 33)) 12 0 hKc hPc rfl rfl) rfl rfl hl.1 rfl (lv_room (Nat.le_of_ble_eq_true rfl)) dX12_digest_210 ⟨Nat.le_of_ble_eq_true rfl, Nat.le_of_ble_eq_true rfl⟩) (fun r_210 h_210 => ?_)
  obtain rfl : r_210 = (0 : Int32) := h_210.trans (by decide)
  refine lv_i2l hx hb dX12_digest_213 rfl ?_
  refine lv_topl (fun z_213 e_213 => ?_)
  obtain rfl : z_213 = (0 : Int64) := e_213.trans (by decide)
  have hPc := hP.sub (ws' := [(m0, .inr (12, [.ref mp, .int 0, .int 0, .int 0, .ref mw, .ref mh, .ref mo, .int 0, .int 0, .int 0, .int 0, .int 0, .int 0, .ref m5, .ref m6, .ref m7, .long 0, .int 0, .ref mk, .ref mn, .int 0, .ref mq, .ref m8, .ref m9, .int 0, .int 0, .int 0, .int 0, .ref ma, .int 0, .ref mb, .ref md, .long 320461787]))]) [0] rfl
  have hKc := hK.sub (tys' := []) [] rfl
  have hDc := hD.sub (ws' := [(m0, .inr (12, [.ref mp, .int 0, .int 0, .int 0, .ref mw, .ref mh, .ref mo, .int 0, .int 0, .int 0, .int 0, .int 0, .int 0, .ref m5, .ref m6, .ref m7, .long 0, .int 0, .ref mk, .ref mn, .int 0, .ref mq, .ref m8, .ref m9, .int 0, .int 0, .int 0, .int 0, .ref ma, .int 0, .ref mb, .ref md, .long 320461787]))]) [0] (by decide) rfl
  have hFc := va_free (wc := [(m0, .inr (12, [.ref mp, .int 0, .int 0, .int 0, .ref mw, .ref mh, .ref mo, .int 0, .int 0, .int 0, .int 0, .int 0, .int 0, .ref m5, .ref m6, .ref m7, .long 0, .int 0, .ref mk, .ref mn, .int 0, .ref mq, .ref m8, .ref m9, .int 0, .int 0, .int 0, .int 0, .ref ma, .int 0, .ref mb, .ref md, .long 320461787]))]) hD hS hA [0] rfl
  refine va_callv (va_runV (As := [.long 0]) (rest := []) ⟨hx, hb, hml, hown, hg⟩ (m_tell l D m0 mp mw mh mo m5 m6 m7 mk mn mq m8 m9 ma mb md 320461787 0 _) (cwV 1 hg (gw_V kw_249 kw_250 kw_251 kw_210 kw_248) rfl rfl rfl (by decide +kernel) ⟨Nat.le_of_ble_eq_true rfl, Nat.le_of_ble_eq_true rfl⟩) (pr_MV (q := (RX12, TX12, 33)) 12 0 hKc hPc hDc rfl rfl) rfl rfl hl.1 rfl (lv_room (Nat.le_of_ble_eq_true rfl)) dX12_digest_214 ⟨Nat.le_of_ble_eq_true rfl, Nat.le_of_ble_eq_true rfl⟩) hS (fun q _ h => hFc q h) hFc (fun u t H1 locs ht hvm h_214 hB hz1 hk1 hS => ?_)
  obtain ⟨hP1, hK1, hD1⟩ := hB
  rw [ht] at hP1
  have hK1 := va_K.moved hvm.symm hK1
  obtain ⟨hP, hD⟩ := va_join (wr := []) (w1 := [(m0, .inr (12, [.ref mp, .int 0, .int 0, .int 0, .ref mw, .ref mh, .ref mo, .int 0, .int 0, .int 0, .int 0, .int 0, .int 0, .ref m5, .ref m6, .ref m7, .long 0, .int 0, .ref mk, .ref mn, .int 0, .ref mq, .ref m8, .ref m9, .int 0, .int 0, .int 0, .int 0, .ref ma, .int 0, .ref mb, .ref md, .long (31 * 320461787 + 0)]))]) hP hD [0] [] rfl rfl (by decide) (by decide) hk1 hFc hP1 hD1
  have hK := hK.app hK1
  generalize H1 = H at hP hS ⊢
  have hP : va_P D vwCl [(m0, .inr (12, [.ref mp, .int 0, .int 0, .int 0, .ref mw, .ref mh, .ref mo, .int 0, .int 0, .int 0, .int 0, .int 0, .int 0, .ref m5, .ref m6, .ref m7, .long 0, .int 0, .ref mk, .ref mn, .int 0, .ref mq, .ref m8, .ref m9, .int 0, .int 0, .int 0, .int 0, .ref ma, .int 0, .ref mb, .ref md, .long (31 * 320461787 + 0)]))] H := hP
  have hD : va_D A [(m0, .inr (12, [.ref mp, .int 0, .int 0, .int 0, .ref mw, .ref mh, .ref mo, .int 0, .int 0, .int 0, .int 0, .int 0, .int 0, .ref m5, .ref m6, .ref m7, .long 0, .int 0, .ref mk, .ref mn, .int 0, .ref mq, .ref m8, .ref m9, .int 0, .int 0, .int 0, .int 0, .ref ma, .int 0, .ref mb, .ref md, .long (31 * 320461787 + 0)]))] := hD
  have hK : va_K D vwCl [] s := hK
  refine W.cs (cells' := 0) (slots' := 0) rfl rfl ?_
  rw [show (31 * 320461787 + 0 : Int64) = 9934315397 from by decide] at hP hD
  have hP : va_P D vwCl [(m0, .inr (12, [.ref mp, .int 0, .int 0, .int 0, .ref mw, .ref mh, .ref mo, .int 0, .int 0, .int 0, .int 0, .int 0, .int 0, .ref m5, .ref m6, .ref m7, .long 0, .int 0, .ref mk, .ref mn, .int 0, .ref mq, .ref m8, .ref m9, .int 0, .int 0, .int 0, .int 0, .ref ma, .int 0, .ref mb, .ref md, .long 9934315397]))] H := hP
  have hD : va_D A [(m0, .inr (12, [.ref mp, .int 0, .int 0, .int 0, .ref mw, .ref mh, .ref mo, .int 0, .int 0, .int 0, .int 0, .int 0, .int 0, .ref m5, .ref m6, .ref m7, .long 0, .int 0, .ref mk, .ref mn, .int 0, .ref mq, .ref m8, .ref m9, .int 0, .int 0, .int 0, .int 0, .ref ma, .int 0, .ref mb, .ref md, .long 9934315397]))] := hD
  refine lv_iinc (v := 5) (lv' := [(1, .int 5), (0, .ref m0)]) hx hb dX12_digest_217 hl (k := 0) rfl (by decide) (by decide) rfl (fun ls hl => ?_)
  refine lv_goto (tgt := 201) hx hb dX12_digest_220 (by decide) ?_
  refine lv_iload_n hx hb dX12_digest_201 rfl (lv_at hl 0 rfl) ?_
  refine lv_bipush (v := 6) hx hb dX12_digest_202 (by decide) ?_
  refine lv_icmp_ge (tgt := 223) hx hb dX12_digest_204 (by decide) (fun c_204 => absurd c_204 (by decide)) (fun c_204 => ?_)
  refine lv_aload_n hx hb dX12_digest_207 rfl (lv_at hl 1 rfl) ?_
  refine lv_aload_n hx hb dX12_digest_208 rfl (lv_at hl 1 rfl) ?_
  refine lv_iload_n hx hb dX12_digest_209 rfl (lv_at hl 0 rfl) ?_
  have hPc := hP.sub (ws' := [(m0, .inr (12, [.ref mp, .int 0, .int 0, .int 0, .ref mw, .ref mh, .ref mo, .int 0, .int 0, .int 0, .int 0, .int 0, .int 0, .ref m5, .ref m6, .ref m7, .long 0, .int 0, .ref mk, .ref mn, .int 0, .ref mq, .ref m8, .ref m9, .int 0, .int 0, .int 0, .int 0, .ref ma, .int 0, .ref mb, .ref md, .long 9934315397]))]) [0] rfl
  have hKc := hK.sub (tys' := []) [] rfl
  refine vp_callSi (W.runV (As := [.int 5]) (rest := [.ref m0]) ⟨hx, hb, hml, hown, hg⟩ (m_countOf l D m0 mp mw mh mo m5 m6 m7 mk mn mq m8 m9 ma mb md 9934315397 5) (cwV 1 hg (gw_V kw_235 kw_236 kw_237 kw_210 kw_234) rfl rfl rfl (by decide +kernel) ⟨Nat.le_of_ble_eq_true rfl, Nat.le_of_ble_eq_true rfl⟩) (pr_SV (q := (RX12, TX12, 33)) 12 0 hKc hPc rfl rfl) rfl rfl hl.1 rfl (lv_room (Nat.le_of_ble_eq_true rfl)) dX12_digest_210 ⟨Nat.le_of_ble_eq_true rfl, Nat.le_of_ble_eq_true rfl⟩) (fun r_210 h_210 => ?_)
  obtain rfl : r_210 = (0 : Int32) := h_210.trans (by decide)
  refine lv_i2l hx hb dX12_digest_213 rfl ?_
  refine lv_topl (fun z_213 e_213 => ?_)
  obtain rfl : z_213 = (0 : Int64) := e_213.trans (by decide)
  have hPc := hP.sub (ws' := [(m0, .inr (12, [.ref mp, .int 0, .int 0, .int 0, .ref mw, .ref mh, .ref mo, .int 0, .int 0, .int 0, .int 0, .int 0, .int 0, .ref m5, .ref m6, .ref m7, .long 0, .int 0, .ref mk, .ref mn, .int 0, .ref mq, .ref m8, .ref m9, .int 0, .int 0, .int 0, .int 0, .ref ma, .int 0, .ref mb, .ref md, .long 9934315397]))]) [0] rfl
  have hKc := hK.sub (tys' := []) [] rfl
  have hDc := hD.sub (ws' := [(m0, .inr (12, [.ref mp, .int 0, .int 0, .int 0, .ref mw, .ref mh, .ref mo, .int 0, .int 0, .int 0, .int 0, .int 0, .int 0, .ref m5, .ref m6, .ref m7, .long 0, .int 0, .ref mk, .ref mn, .int 0, .ref mq, .ref m8, .ref m9, .int 0, .int 0, .int 0, .int 0, .ref ma, .int 0, .ref mb, .ref md, .long 9934315397]))]) [0] (by decide) rfl
  have hFc := va_free (wc := [(m0, .inr (12, [.ref mp, .int 0, .int 0, .int 0, .ref mw, .ref mh, .ref mo, .int 0, .int 0, .int 0, .int 0, .int 0, .int 0, .ref m5, .ref m6, .ref m7, .long 0, .int 0, .ref mk, .ref mn, .int 0, .ref mq, .ref m8, .ref m9, .int 0, .int 0, .int 0, .int 0, .ref ma, .int 0, .ref mb, .ref md, .long 9934315397]))]) hD hS hA [0] rfl
  refine va_callv (va_runV (As := [.long 0]) (rest := []) ⟨hx, hb, hml, hown, hg⟩ (m_tell l D m0 mp mw mh mo m5 m6 m7 mk mn mq m8 m9 ma mb md 9934315397 0 _) (cwV 1 hg (gw_V kw_249 kw_250 kw_251 kw_210 kw_248) rfl rfl rfl (by decide +kernel) ⟨Nat.le_of_ble_eq_true rfl, Nat.le_of_ble_eq_true rfl⟩) (pr_MV (q := (RX12, TX12, 33)) 12 0 hKc hPc hDc rfl rfl) rfl rfl hl.1 rfl (lv_room (Nat.le_of_ble_eq_true rfl)) dX12_digest_214 ⟨Nat.le_of_ble_eq_true rfl, Nat.le_of_ble_eq_true rfl⟩) hS (fun q _ h => hFc q h) hFc (fun u t H1 locs ht hvm h_214 hB hz1 hk1 hS => ?_)
  obtain ⟨hP1, hK1, hD1⟩ := hB
  rw [ht] at hP1
  have hK1 := va_K.moved hvm.symm hK1
  obtain ⟨hP, hD⟩ := va_join (wr := []) (w1 := [(m0, .inr (12, [.ref mp, .int 0, .int 0, .int 0, .ref mw, .ref mh, .ref mo, .int 0, .int 0, .int 0, .int 0, .int 0, .int 0, .ref m5, .ref m6, .ref m7, .long 0, .int 0, .ref mk, .ref mn, .int 0, .ref mq, .ref m8, .ref m9, .int 0, .int 0, .int 0, .int 0, .ref ma, .int 0, .ref mb, .ref md, .long (31 * 9934315397 + 0)]))]) hP hD [0] [] rfl rfl (by decide) (by decide) hk1 hFc hP1 hD1
  have hK := hK.app hK1
  generalize H1 = H at hP hS ⊢
  have hP : va_P D vwCl [(m0, .inr (12, [.ref mp, .int 0, .int 0, .int 0, .ref mw, .ref mh, .ref mo, .int 0, .int 0, .int 0, .int 0, .int 0, .int 0, .ref m5, .ref m6, .ref m7, .long 0, .int 0, .ref mk, .ref mn, .int 0, .ref mq, .ref m8, .ref m9, .int 0, .int 0, .int 0, .int 0, .ref ma, .int 0, .ref mb, .ref md, .long (31 * 9934315397 + 0)]))] H := hP
  have hD : va_D A [(m0, .inr (12, [.ref mp, .int 0, .int 0, .int 0, .ref mw, .ref mh, .ref mo, .int 0, .int 0, .int 0, .int 0, .int 0, .int 0, .ref m5, .ref m6, .ref m7, .long 0, .int 0, .ref mk, .ref mn, .int 0, .ref mq, .ref m8, .ref m9, .int 0, .int 0, .int 0, .int 0, .ref ma, .int 0, .ref mb, .ref md, .long (31 * 9934315397 + 0)]))] := hD
  have hK : va_K D vwCl [] s := hK
  refine W.cs (cells' := 0) (slots' := 0) rfl rfl ?_
  rw [show (31 * 9934315397 + 0 : Int64) = 307963777307 from by decide] at hP hD
  have hP : va_P D vwCl [(m0, .inr (12, [.ref mp, .int 0, .int 0, .int 0, .ref mw, .ref mh, .ref mo, .int 0, .int 0, .int 0, .int 0, .int 0, .int 0, .ref m5, .ref m6, .ref m7, .long 0, .int 0, .ref mk, .ref mn, .int 0, .ref mq, .ref m8, .ref m9, .int 0, .int 0, .int 0, .int 0, .ref ma, .int 0, .ref mb, .ref md, .long 307963777307]))] H := hP
  have hD : va_D A [(m0, .inr (12, [.ref mp, .int 0, .int 0, .int 0, .ref mw, .ref mh, .ref mo, .int 0, .int 0, .int 0, .int 0, .int 0, .int 0, .ref m5, .ref m6, .ref m7, .long 0, .int 0, .ref mk, .ref mn, .int 0, .ref mq, .ref m8, .ref m9, .int 0, .int 0, .int 0, .int 0, .ref ma, .int 0, .ref mb, .ref md, .long 307963777307]))] := hD
  refine lv_iinc (v := 6) (lv' := [(1, .int 6), (0, .ref m0)]) hx hb dX12_digest_217 hl (k := 0) rfl (by decide) (by decide) rfl (fun ls hl => ?_)
  refine lv_goto (tgt := 201) hx hb dX12_digest_220 (by decide) ?_
  refine lv_iload_n hx hb dX12_digest_201 rfl (lv_at hl 0 rfl) ?_
  refine lv_bipush (v := 6) hx hb dX12_digest_202 (by decide) ?_
  refine lv_icmp_ge (tgt := 223) hx hb dX12_digest_204 (by decide) (fun c_204 => ?_) (fun c_204 => absurd c_204 (by decide))
  refine lv_aload_n hx hb dX12_digest_223 rfl (lv_at hl 1 rfl) ?_
  refine va_get (D := D) (ci := 12) (v := .long 307963777307) (C := RX12) (T := TX12) (N := 33) hx hb hg gwX12 hown hK hP 0 rfl rfl 32 (by decide) (hg _ kw_246) (fun _ h9 => h9) rfl dX12_digest_224 ?_
  subst hQ
  refine W.widen (k := 0) (n := 0) (Nat.le_of_ble_eq_true rfl) (Nat.le_of_ble_eq_true rfl) ?_
  exact W.lret (v := 307963777307) hx hb hr (fun t ht hW => ⟨⟨307963777307, (), rfl, rfl, trivial⟩, hS.F ht⟩) hS.2.2 dX12_digest_227

theorem il_iw {v a b : Int32} {A B : Int64} (ha : A = a.toInt64) (hb : B = b.toInt64) : il v.toInt64 A B = iw v a b := by
  subst ha; subst hb
  have e : ∀ x y : Int32, x.toInt64 ≤ y.toInt64 ↔ x ≤ y := fun x y => by
    rw [fa_le64, fa_le, Int32.toInt_toInt64, Int32.toInt_toInt64]
  unfold il iw
  simp only [e]

theorem dX12_pay_0 : decode cX12_pay 0 = .ok (.iload_n 1, 1) := by decide +kernel
theorem dX12_pay_1 : decode cX12_pay 1 = .ok (.iconst 4, 1) := by decide +kernel
theorem dX12_pay_2 : decode cX12_pay 2 = .ok (.if_icmp .ne 8, 3) := by decide +kernel
theorem dX12_pay_5 : decode cX12_pay 5 = .ok (.bipush 100, 2) := by decide +kernel
theorem dX12_pay_7 : decode cX12_pay 7 = .ok (.goto 6, 3) := by decide +kernel
theorem dX12_pay_10 : decode cX12_pay 10 = .ok (.sipush 999, 3) := by decide +kernel
theorem dX12_pay_13 : decode cX12_pay 13 = .ok (.istore 6, 2) := by decide +kernel
theorem dX12_pay_15 : decode cX12_pay 15 = .ok (.iload_n 1, 1) := by decide +kernel
theorem dX12_pay_16 : decode cX12_pay 16 = .ok (.i2l, 1) := by decide +kernel
theorem dX12_pay_17 : decode cX12_pay 17 = .ok (.lconst 0, 1) := by decide +kernel
theorem dX12_pay_18 : decode cX12_pay 18 = .ok (.ldc2_w 137, 3) := by decide +kernel
theorem dX12_pay_21 : decode cX12_pay 21 = .ok (.invokestatic 70, 3) := by decide +kernel
theorem dX12_pay_24 : decode cX12_pay 24 = .ok (.ifCond .eq 53, 3) := by decide +kernel
theorem dX12_pay_27 : decode cX12_pay 27 = .ok (.iload_n 2, 1) := by decide +kernel
theorem dX12_pay_28 : decode cX12_pay 28 = .ok (.i2l, 1) := by decide +kernel
theorem dX12_pay_29 : decode cX12_pay 29 = .ok (.lconst 0, 1) := by decide +kernel
theorem dX12_pay_30 : decode cX12_pay 30 = .ok (.ldc2_w 115, 3) := by decide +kernel
theorem dX12_pay_33 : decode cX12_pay 33 = .ok (.invokestatic 70, 3) := by decide +kernel
theorem dX12_pay_36 : decode cX12_pay 36 = .ok (.ifCond .eq 41, 3) := by decide +kernel
theorem dX12_pay_39 : decode cX12_pay 39 = .ok (.iload_n 3, 1) := by decide +kernel
theorem dX12_pay_40 : decode cX12_pay 40 = .ok (.i2l, 1) := by decide +kernel
theorem dX12_pay_41 : decode cX12_pay 41 = .ok (.lconst 0, 1) := by decide +kernel
theorem dX12_pay_42 : decode cX12_pay 42 = .ok (.iload 6, 2) := by decide +kernel
theorem dX12_pay_44 : decode cX12_pay 44 = .ok (.i2l, 1) := by decide +kernel
theorem dX12_pay_45 : decode cX12_pay 45 = .ok (.invokestatic 70, 3) := by decide +kernel
theorem dX12_pay_48 : decode cX12_pay 48 = .ok (.ifCond .eq 29, 3) := by decide +kernel
theorem dX12_pay_51 : decode cX12_pay 51 = .ok (.iload 4, 2) := by decide +kernel
theorem dX12_pay_53 : decode cX12_pay 53 = .ok (.i2l, 1) := by decide +kernel
theorem dX12_pay_54 : decode cX12_pay 54 = .ok (.lconst 0, 1) := by decide +kernel
theorem dX12_pay_55 : decode cX12_pay 55 = .ok (.ldc2_w 115, 3) := by decide +kernel
theorem dX12_pay_58 : decode cX12_pay 58 = .ok (.invokestatic 70, 3) := by decide +kernel
theorem dX12_pay_61 : decode cX12_pay 61 = .ok (.ifCond .eq 16, 3) := by decide +kernel
theorem dX12_pay_64 : decode cX12_pay 64 = .ok (.iload 5, 2) := by decide +kernel
theorem dX12_pay_66 : decode cX12_pay 66 = .ok (.i2l, 1) := by decide +kernel
theorem dX12_pay_67 : decode cX12_pay 67 = .ok (.lconst 0, 1) := by decide +kernel
theorem dX12_pay_68 : decode cX12_pay 68 = .ok (.iload 6, 2) := by decide +kernel
theorem dX12_pay_70 : decode cX12_pay 70 = .ok (.i2l, 1) := by decide +kernel
theorem dX12_pay_71 : decode cX12_pay 71 = .ok (.invokestatic 70, 3) := by decide +kernel
theorem dX12_pay_74 : decode cX12_pay 74 = .ok (.ifCond .ne 6, 3) := by decide +kernel
theorem dX12_pay_77 : decode cX12_pay 77 = .ok (.bipush (-102), 2) := by decide +kernel
theorem dX12_pay_79 : decode cX12_pay 79 = .ok (.ireturn, 1) := by decide +kernel
theorem dX12_pay_80 : decode cX12_pay 80 = .ok (.aload_n 0, 1) := by decide +kernel
theorem dX12_pay_81 : decode cX12_pay 81 = .ok (.getfield 139, 3) := by decide +kernel
theorem dX12_pay_84 : decode cX12_pay 84 = .ok (.bipush 8, 2) := by decide +kernel
theorem dX12_pay_86 : decode cX12_pay 86 = .ok (.if_icmp .ne 6, 3) := by decide +kernel
theorem dX12_pay_89 : decode cX12_pay 89 = .ok (.bipush (-104), 2) := by decide +kernel
theorem dX12_pay_91 : decode cX12_pay 91 = .ok (.ireturn, 1) := by decide +kernel
theorem dX12_pay_92 : decode cX12_pay 92 = .ok (.aload_n 0, 1) := by decide +kernel
theorem dX12_pay_93 : decode cX12_pay 93 = .ok (.getfield 32, 3) := by decide +kernel
theorem dX12_pay_96 : decode cX12_pay 96 = .ok (.aload_n 0, 1) := by decide +kernel
theorem dX12_pay_97 : decode cX12_pay 97 = .ok (.getfield 139, 3) := by decide +kernel
theorem dX12_pay_100 : decode cX12_pay 100 = .ok (.iload_n 1, 1) := by decide +kernel
theorem dX12_pay_101 : decode cX12_pay 101 = .ok (.iastore, 1) := by decide +kernel
theorem dX12_pay_102 : decode cX12_pay 102 = .ok (.aload_n 0, 1) := by decide +kernel
theorem dX12_pay_103 : decode cX12_pay 103 = .ok (.getfield 35, 3) := by decide +kernel
theorem dX12_pay_106 : decode cX12_pay 106 = .ok (.iconst 4, 1) := by decide +kernel
theorem dX12_pay_107 : decode cX12_pay 107 = .ok (.aload_n 0, 1) := by decide +kernel
theorem dX12_pay_108 : decode cX12_pay 108 = .ok (.getfield 139, 3) := by decide +kernel
theorem dX12_pay_111 : decode cX12_pay 111 = .ok (.imul, 1) := by decide +kernel
theorem dX12_pay_112 : decode cX12_pay 112 = .ok (.iload_n 2, 1) := by decide +kernel
theorem dX12_pay_113 : decode cX12_pay 113 = .ok (.iastore, 1) := by decide +kernel
theorem dX12_pay_114 : decode cX12_pay 114 = .ok (.aload_n 0, 1) := by decide +kernel
theorem dX12_pay_115 : decode cX12_pay 115 = .ok (.getfield 35, 3) := by decide +kernel
theorem dX12_pay_118 : decode cX12_pay 118 = .ok (.iconst 4, 1) := by decide +kernel
theorem dX12_pay_119 : decode cX12_pay 119 = .ok (.aload_n 0, 1) := by decide +kernel
theorem dX12_pay_120 : decode cX12_pay 120 = .ok (.getfield 139, 3) := by decide +kernel
theorem dX12_pay_123 : decode cX12_pay 123 = .ok (.imul, 1) := by decide +kernel
theorem dX12_pay_124 : decode cX12_pay 124 = .ok (.iconst 1, 1) := by decide +kernel
theorem dX12_pay_125 : decode cX12_pay 125 = .ok (.iadd, 1) := by decide +kernel
theorem dX12_pay_126 : decode cX12_pay 126 = .ok (.iload_n 3, 1) := by decide +kernel
theorem dX12_pay_127 : decode cX12_pay 127 = .ok (.iastore, 1) := by decide +kernel
theorem dX12_pay_128 : decode cX12_pay 128 = .ok (.aload_n 0, 1) := by decide +kernel
theorem dX12_pay_129 : decode cX12_pay 129 = .ok (.getfield 35, 3) := by decide +kernel
theorem dX12_pay_132 : decode cX12_pay 132 = .ok (.iconst 4, 1) := by decide +kernel
theorem dX12_pay_133 : decode cX12_pay 133 = .ok (.aload_n 0, 1) := by decide +kernel
theorem dX12_pay_134 : decode cX12_pay 134 = .ok (.getfield 139, 3) := by decide +kernel
theorem dX12_pay_137 : decode cX12_pay 137 = .ok (.imul, 1) := by decide +kernel
theorem dX12_pay_138 : decode cX12_pay 138 = .ok (.iconst 2, 1) := by decide +kernel
theorem dX12_pay_139 : decode cX12_pay 139 = .ok (.iadd, 1) := by decide +kernel
theorem dX12_pay_140 : decode cX12_pay 140 = .ok (.iload 4, 2) := by decide +kernel
theorem dX12_pay_142 : decode cX12_pay 142 = .ok (.iastore, 1) := by decide +kernel
theorem dX12_pay_143 : decode cX12_pay 143 = .ok (.aload_n 0, 1) := by decide +kernel
theorem dX12_pay_144 : decode cX12_pay 144 = .ok (.getfield 35, 3) := by decide +kernel
theorem dX12_pay_147 : decode cX12_pay 147 = .ok (.iconst 4, 1) := by decide +kernel
theorem dX12_pay_148 : decode cX12_pay 148 = .ok (.aload_n 0, 1) := by decide +kernel
theorem dX12_pay_149 : decode cX12_pay 149 = .ok (.getfield 139, 3) := by decide +kernel
theorem dX12_pay_152 : decode cX12_pay 152 = .ok (.imul, 1) := by decide +kernel
theorem dX12_pay_153 : decode cX12_pay 153 = .ok (.iconst 3, 1) := by decide +kernel
theorem dX12_pay_154 : decode cX12_pay 154 = .ok (.iadd, 1) := by decide +kernel
theorem dX12_pay_155 : decode cX12_pay 155 = .ok (.iload 5, 2) := by decide +kernel
theorem dX12_pay_157 : decode cX12_pay 157 = .ok (.iastore, 1) := by decide +kernel
theorem dX12_pay_158 : decode cX12_pay 158 = .ok (.aload_n 0, 1) := by decide +kernel
theorem dX12_pay_159 : decode cX12_pay 159 = .ok (.dup, 1) := by decide +kernel
theorem dX12_pay_160 : decode cX12_pay 160 = .ok (.getfield 139, 3) := by decide +kernel
theorem dX12_pay_163 : decode cX12_pay 163 = .ok (.iconst 1, 1) := by decide +kernel
theorem dX12_pay_164 : decode cX12_pay 164 = .ok (.iadd, 1) := by decide +kernel
theorem dX12_pay_165 : decode cX12_pay 165 = .ok (.putfield 139, 3) := by decide +kernel
theorem dX12_pay_168 : decode cX12_pay 168 = .ok (.aload_n 0, 1) := by decide +kernel
theorem dX12_pay_169 : decode cX12_pay 169 = .ok (.getfield 139, 3) := by decide +kernel
theorem dX12_pay_172 : decode cX12_pay 172 = .ok (.iconst 1, 1) := by decide +kernel
theorem dX12_pay_173 : decode cX12_pay 173 = .ok (.isub, 1) := by decide +kernel
theorem dX12_pay_174 : decode cX12_pay 174 = .ok (.ireturn, 1) := by decide +kernel
theorem kw_252 : (.constantLong RX12 137 (4) : Cond) ∈ gw_tbl := gw_in (by decide +kernel) (by decide +kernel)
theorem kw_253 : (.constantLong RX12 115 (999) : Cond) ∈ gw_tbl := gw_in (by decide +kernel) (by decide +kernel)
theorem kw_254 : (.fieldLink RX12 32 "NobodyChecksModel" "payKind" "[I" : Cond) ∈ gw_tbl := gw_in (by decide +kernel) (by decide +kernel)
theorem kw_255 : (.fieldLink RX12 35 "NobodyChecksModel" "payNumbers" "[I" : Cond) ∈ gw_tbl := gw_in (by decide +kernel) (by decide +kernel)

set_option maxHeartbeats 4000000 in
set_option maxRecDepth 100000 in
theorem m_pay (l : Launch) (D : va_G) (m0 : Nat) (mp : Nat) (mw : Nat) (mh : Nat) (mo : Nat) (m5 : Nat) (m6 : Nat) (m7 : Nat) (mk : Nat) (mn : Nat) (mq : Nat) (m8 : Nat) (m9 : Nat) (ma : Nat) (mb : Nat) (md : Nat) (cK : ClassId) (cN : ClassId) (kf : Nat → Int32) (nf : Nat → Int32) (p1 : Int32) (p2 : Int32) (p3 : Int32) (p4 : Int32) (p5 : Int32) (sz : Nat) : Met l yX12_pay (Cond.code yX12_pay cX12_pay 7 (some .int) :: gw_tbl) ({ frames := 1, cells := 0, slots := 0, locals := 25 }) (pc_M D [(cK, .int), (cN, .int)] [(m0, .inr (12, [.ref mp, .int 0, .int 0, .int 0, .ref mw, .ref mh, .ref mo, .int 0, .int 0, .int 0, .int 0, .int 0, .int 0, .ref m5, .ref m6, .ref m7, .long 0, .int 0, .ref mk, .ref mn, .int 0, .ref mq, .ref m8, .ref m9, .int 0, .int 0, .int 0, .int 0, .ref ma, .int 0, .ref mb, .ref md, .long 0])), (mk, .inl (cK, 8, .inl kf)), (mn, .inl (cN, 32, .inl nf))] sz [.ref m0, .int p1, .int p2, .int p3, .int p4, .int p5]) (va_Qi (fun (r : Int32) (u : Unit) => r = spay p1 p2 p3 p4 p5) (fun _ _ => True) (va_A [(m0, .inr (12, [.ref mp, .int 0, .int 0, .int 0, .ref mw, .ref mh, .ref mo, .int 0, .int 0, .int 0, .int 0, .int 0, .int 0, .ref m5, .ref m6, .ref m7, .long 0, .int 0, .ref mk, .ref mn, .int 0, .ref mq, .ref m8, .ref m9, .int 0, .int 0, .int 0, .int 0, .ref ma, .int 0, .ref mb, .ref md, .long 0])), (mk, .inl (cK, 8, .inl kf)), (mn, .inl (cN, 32, .inl nf))] sz)) 0 0 (va_A [(m0, .inr (12, [.ref mp, .int 0, .int 0, .int 0, .ref mw, .ref mh, .ref mo, .int 0, .int 0, .int 0, .int 0, .int 0, .int 0, .ref m5, .ref m6, .ref m7, .long 0, .int 0, .ref mk, .ref mn, .int 0, .ref mq, .ref m8, .ref m9, .int 0, .int 0, .int 0, .int 0, .ref ma, .int 0, .ref mb, .ref md, .long 0])), (mk, .inl (cK, 8, .inl kf)), (mn, .inl (cN, 32, .inl nf))] sz) := by
  refine Met.ofW (cc := cX12_pay) (maxL := 7) (ret := (some .int)) (by decide) rfl ?_
  intro p e s m args below meth c s₁ B hml hv
  obtain ⟨hargs, hsz, hP, hK, hD0⟩ := hv
  have hx := B.exec
  have hb := B.bytes
  have hr := B.returns
  have hts := atoms_spec (ws := Cond.code yX12_pay cX12_pay 7 (some .int) :: gw_tbl) B.pre
  have hg := fun (w : Cond) (h : w ∈ gw_tbl) => hts w (List.mem_cons_of_mem _ h)
  have hown : s.vm.findClass RX12 = some m.cls := findClass_of_methodNamed B.named
  have hlocks := B.notSynchronized
  subst hsz
  have hD := hD0.self (sz := s.heap.size)
  generalize hAe : va_A [(m0, .inr (12, [.ref mp, .int 0, .int 0, .int 0, .ref mw, .ref mh, .ref mo, .int 0, .int 0, .int 0, .int 0, .int 0, .int 0, .ref m5, .ref m6, .ref m7, .long 0, .int 0, .ref mk, .ref mn, .int 0, .ref mq, .ref m8, .ref m9, .int 0, .int 0, .int 0, .int 0, .ref ma, .int 0, .ref mb, .ref md, .long 0])), (mk, .inl (cK, 8, .inl kf)), (mn, .inl (cN, 32, .inl nf))] s.heap.size = A at hD ⊢
  have hA : ∀ q : Nat, s.heap.size ≤ q → A q := fun q h => by rw [← hAe]; exact Or.inr h
  have hS : va_S A s.heap s.heap [] := va_S.rf
  have hP : va_P D vwCl [(m0, .inr (12, [.ref mp, .int 0, .int 0, .int 0, .ref mw, .ref mh, .ref mo, .int 0, .int 0, .int 0, .int 0, .int 0, .int 0, .ref m5, .ref m6, .ref m7, .long 0, .int 0, .ref mk, .ref mn, .int 0, .ref mq, .ref m8, .ref m9, .int 0, .int 0, .int 0, .int 0, .ref ma, .int 0, .ref mb, .ref md, .long 0])), (mk, .inl (cK, 8, .inl kf)), (mn, .inl (cN, 32, .inl nf))] s.heap := hP
  have hl := lv_entry ([.ref m0, .int p1, .int p2, .int p3, .int p4, .int p5]) (n := 7) (Nat.le_of_ble_eq_true rfl)
  rw [show entryFrame m args 7 = F0 m 0 (lg_sl ([.ref m0, .int p1, .int p2, .int p3, .int p4, .int p5]) ++ List.replicate (7 - (lg_sl ([.ref m0, .int p1, .int p2, .int p3, .int p4, .int p5])).length) Slot.unset).toArray [] from by rw [hargs]; exact lg_entry_eq ..]
  generalize (lg_sl ([.ref m0, .int p1, .int p2, .int p3, .int p4, .int p5]) ++ List.replicate (7 - (lg_sl ([.ref m0, .int p1, .int p2, .int p3, .int p4, .int p5])).length) Slot.unset).toArray = ls at hl ⊢
  have hl : lv_has ls 7 [(0, .ref m0), (1, .int p1), (2, .int p2), (3, .int p3), (4, .int p4), (5, .int p5)] := hl
  refine W_genQ (fun Q hQ => ?_)
  refine lv_iload_n hx hb dX12_pay_0 rfl (lv_at hl 1 rfl) ?_
  refine lv_iconst (v := 4) hx hb dX12_pay_1 (by decide) ?_
  refine lv_icmp_ne (tgt := 10) hx hb dX12_pay_2 (by decide) (fun c_2 => ?_) (fun c_2 => ?_)
  · refine lv_sipush (v := 999) hx hb dX12_pay_10 (by decide) ?_
    refine lv_istore (lv' := [(6, .int 999), (0, .ref m0), (1, .int p1), (2, .int p2), (3, .int p3), (4, .int p4), (5, .int p5)]) hx hb dX12_pay_13 hl (by decide) rfl (fun ls hl => ?_)
    refine lv_iload_n hx hb dX12_pay_15 rfl (lv_at hl 2 rfl) ?_
    refine lv_i2l hx hb dX12_pay_16 rfl ?_
    refine lv_topl (fun z_16 e_16 => ?_)
    refine lv_lconst (v := 0) hx hb dX12_pay_17 (by decide) ?_
    refine lv_ldc2 hx hb hown (hg _ kw_252) dX12_pay_18 ?_
    refine vp_callSi (W.runS (As := [.long z_16, .long 0, .long 4]) (rest := []) ⟨hx, hb, hml, hown, hg⟩ (c_in l z_16 0 4) (va_cwS 3 hg (gw_S kw_208 kw_209 kw_210 kw_207) rfl rfl rfl (by decide +kernel) ⟨Nat.le_of_ble_eq_true rfl, Nat.le_of_ble_eq_true rfl⟩) pr_0 rfl rfl hl.1 rfl (lv_room (Nat.le_of_ble_eq_true rfl)) dX12_pay_21 ⟨Nat.le_of_ble_eq_true rfl, Nat.le_of_ble_eq_true rfl⟩) (fun r_21 h_21 => ?_)
    have g_21 : r_21 = iw p1 0 4 := by rw [h_21, e_16]; exact il_iw (by decide) (by decide)
    refine lv_if_eq (tgt := 77) hx hb dX12_pay_24 (by decide) (fun c_24 => ?_) (fun c_24 => ?_)
    · refine lv_bipush (v := (-102)) hx hb dX12_pay_77 (by decide) ?_
      subst hQ
      refine W.widen (k := 0) (n := 0) (Nat.le_of_ble_eq_true rfl) (Nat.le_of_ble_eq_true rfl) ?_
      exact W.iret (v := (-102)) hx hb hr (fun t ht hW => ⟨⟨(-102), (), rfl, (sp_n1 g_21 c_24), trivial⟩, hS.F ht⟩) hS.2.2 dX12_pay_79
    · refine lv_iload_n hx hb dX12_pay_27 rfl (lv_at hl 3 rfl) ?_
      refine lv_i2l hx hb dX12_pay_28 rfl ?_
      refine lv_topl (fun z_28 e_28 => ?_)
      refine lv_lconst (v := 0) hx hb dX12_pay_29 (by decide) ?_
      refine lv_ldc2 hx hb hown (hg _ kw_253) dX12_pay_30 ?_
      refine vp_callSi (W.runS (As := [.long z_28, .long 0, .long 999]) (rest := []) ⟨hx, hb, hml, hown, hg⟩ (c_in l z_28 0 999) (va_cwS 3 hg (gw_S kw_208 kw_209 kw_210 kw_207) rfl rfl rfl (by decide +kernel) ⟨Nat.le_of_ble_eq_true rfl, Nat.le_of_ble_eq_true rfl⟩) pr_0 rfl rfl hl.1 rfl (lv_room (Nat.le_of_ble_eq_true rfl)) dX12_pay_33 ⟨Nat.le_of_ble_eq_true rfl, Nat.le_of_ble_eq_true rfl⟩) (fun r_33 h_33 => ?_)
      have g_33 : r_33 = iw p2 0 999 := by rw [h_33, e_28]; exact il_iw (by decide) (by decide)
      refine lv_if_eq (tgt := 77) hx hb dX12_pay_36 (by decide) (fun c_36 => ?_) (fun c_36 => ?_)
      · refine lv_bipush (v := (-102)) hx hb dX12_pay_77 (by decide) ?_
        have hq : ¬ okq p1 p2 p3 p4 p5 := fun q => by
          replace q := q.1
          exact iw_n g_33 c_36 q
        subst hQ
        refine W.widen (k := 0) (n := 0) (Nat.le_of_ble_eq_true rfl) (Nat.le_of_ble_eq_true rfl) ?_
        exact W.iret (v := (-102)) hx hb hr (fun t ht hW => ⟨⟨(-102), (), rfl, (sp_n2 (an_0 hq) rfl), trivial⟩, hS.F ht⟩) hS.2.2 dX12_pay_79
      · refine lv_iload_n hx hb dX12_pay_39 rfl (lv_at hl 4 rfl) ?_
        refine lv_i2l hx hb dX12_pay_40 rfl ?_
        refine lv_topl (fun z_40 e_40 => ?_)
        refine lv_lconst (v := 0) hx hb dX12_pay_41 (by decide) ?_
        refine lv_iload hx hb dX12_pay_42 (lv_at hl 0 rfl) ?_
        refine lv_i2l hx hb dX12_pay_44 rfl ?_
        refine lv_topl (fun z_44 e_44 => ?_)
        obtain rfl : z_44 = (999 : Int64) := e_44.trans (by decide)
        refine vp_callSi (W.runS (As := [.long z_40, .long 0, .long 999]) (rest := []) ⟨hx, hb, hml, hown, hg⟩ (c_in l z_40 0 999) (va_cwS 3 hg (gw_S kw_208 kw_209 kw_210 kw_207) rfl rfl rfl (by decide +kernel) ⟨Nat.le_of_ble_eq_true rfl, Nat.le_of_ble_eq_true rfl⟩) pr_0 rfl rfl hl.1 rfl (lv_room (Nat.le_of_ble_eq_true rfl)) dX12_pay_45 ⟨Nat.le_of_ble_eq_true rfl, Nat.le_of_ble_eq_true rfl⟩) (fun r_45 h_45 => ?_)
        have g_45 : r_45 = iw p3 0 999 := by rw [h_45, e_40]; exact il_iw (by decide) (by decide)
        refine lv_if_eq (tgt := 77) hx hb dX12_pay_48 (by decide) (fun c_48 => ?_) (fun c_48 => ?_)
        · refine lv_bipush (v := (-102)) hx hb dX12_pay_77 (by decide) ?_
          have hq : ¬ okq p1 p2 p3 p4 p5 := fun q => by
            replace q := q.2.1
            rw [ms4_n c_2] at q
            exact iw_n g_45 c_48 q
          subst hQ
          refine W.widen (k := 0) (n := 0) (Nat.le_of_ble_eq_true rfl) (Nat.le_of_ble_eq_true rfl) ?_
          exact W.iret (v := (-102)) hx hb hr (fun t ht hW => ⟨⟨(-102), (), rfl, (sp_n2 (an_0 hq) rfl), trivial⟩, hS.F ht⟩) hS.2.2 dX12_pay_79
        · refine lv_iload hx hb dX12_pay_51 (lv_at hl 5 rfl) ?_
          refine lv_i2l hx hb dX12_pay_53 rfl ?_
          refine lv_topl (fun z_53 e_53 => ?_)
          refine lv_lconst (v := 0) hx hb dX12_pay_54 (by decide) ?_
          refine lv_ldc2 hx hb hown (hg _ kw_253) dX12_pay_55 ?_
          refine vp_callSi (W.runS (As := [.long z_53, .long 0, .long 999]) (rest := []) ⟨hx, hb, hml, hown, hg⟩ (c_in l z_53 0 999) (va_cwS 3 hg (gw_S kw_208 kw_209 kw_210 kw_207) rfl rfl rfl (by decide +kernel) ⟨Nat.le_of_ble_eq_true rfl, Nat.le_of_ble_eq_true rfl⟩) pr_0 rfl rfl hl.1 rfl (lv_room (Nat.le_of_ble_eq_true rfl)) dX12_pay_58 ⟨Nat.le_of_ble_eq_true rfl, Nat.le_of_ble_eq_true rfl⟩) (fun r_58 h_58 => ?_)
          have g_58 : r_58 = iw p4 0 999 := by rw [h_58, e_53]; exact il_iw (by decide) (by decide)
          refine lv_if_eq (tgt := 77) hx hb dX12_pay_61 (by decide) (fun c_61 => ?_) (fun c_61 => ?_)
          · refine lv_bipush (v := (-102)) hx hb dX12_pay_77 (by decide) ?_
            have hq : ¬ okq p1 p2 p3 p4 p5 := fun q => by
              replace q := q.2.2.1
              exact iw_n g_58 c_61 q
            subst hQ
            refine W.widen (k := 0) (n := 0) (Nat.le_of_ble_eq_true rfl) (Nat.le_of_ble_eq_true rfl) ?_
            exact W.iret (v := (-102)) hx hb hr (fun t ht hW => ⟨⟨(-102), (), rfl, (sp_n2 (an_0 hq) rfl), trivial⟩, hS.F ht⟩) hS.2.2 dX12_pay_79
          · refine lv_iload hx hb dX12_pay_64 (lv_at hl 6 rfl) ?_
            refine lv_i2l hx hb dX12_pay_66 rfl ?_
            refine lv_topl (fun z_66 e_66 => ?_)
            refine lv_lconst (v := 0) hx hb dX12_pay_67 (by decide) ?_
            refine lv_iload hx hb dX12_pay_68 (lv_at hl 0 rfl) ?_
            refine lv_i2l hx hb dX12_pay_70 rfl ?_
            refine lv_topl (fun z_70 e_70 => ?_)
            obtain rfl : z_70 = (999 : Int64) := e_70.trans (by decide)
            refine vp_callSi (W.runS (As := [.long z_66, .long 0, .long 999]) (rest := []) ⟨hx, hb, hml, hown, hg⟩ (c_in l z_66 0 999) (va_cwS 3 hg (gw_S kw_208 kw_209 kw_210 kw_207) rfl rfl rfl (by decide +kernel) ⟨Nat.le_of_ble_eq_true rfl, Nat.le_of_ble_eq_true rfl⟩) pr_0 rfl rfl hl.1 rfl (lv_room (Nat.le_of_ble_eq_true rfl)) dX12_pay_71 ⟨Nat.le_of_ble_eq_true rfl, Nat.le_of_ble_eq_true rfl⟩) (fun r_71 h_71 => ?_)
            have g_71 : r_71 = iw p5 0 999 := by rw [h_71, e_66]; exact il_iw (by decide) (by decide)
            refine lv_if_ne (tgt := 80) hx hb dX12_pay_74 (by decide) (fun c_74 => ?_) (fun c_74 => ?_)
            · refine lv_aload_n hx hb dX12_pay_80 rfl (lv_at hl 1 rfl) ?_
              refine va_get (D := D) (ci := 12) (v := .int 0) (C := RX12) (T := TX12) (N := 33) hx hb hg gwX12 hown hK hP 0 rfl rfl 17 (by decide) (hg _ kw_211) (fun _ h9 => h9) rfl dX12_pay_81 ?_
              refine lv_bipush (v := 8) hx hb dX12_pay_84 (by decide) ?_
              refine lv_icmp_ne (tgt := 92) hx hb dX12_pay_86 (by decide) (fun c_86 => ?_) (fun c_86 => absurd c_86 (by decide))
              refine lv_aload_n hx hb dX12_pay_92 rfl (lv_at hl 1 rfl) ?_
              refine va_get (D := D) (ci := 12) (v := .ref mk) (C := RX12) (T := TX12) (N := 33) hx hb hg gwX12 hown hK hP 0 rfl rfl 18 (by decide) (hg _ kw_254) (fun _ h9 => h9) rfl dX12_pay_93 ?_
              refine lv_aload_n hx hb dX12_pay_96 rfl (lv_at hl 1 rfl) ?_
              refine va_get (D := D) (ci := 12) (v := .int 0) (C := RX12) (T := TX12) (N := 33) hx hb hg gwX12 hown hK hP 0 rfl rfl 17 (by decide) (hg _ kw_211) (fun _ h9 => h9) rfl dX12_pay_97 ?_
              refine lv_iload_n hx hb dX12_pay_100 rfl (lv_at hl 2 rfl) ?_
              refine va_iast hx hb hK hP hD hS 1 0 rfl rfl (show ¬ ((0 : Int32) < 0 ∨ 8 ≤ (0 : Int32).toNatClampNeg) by decide) dX12_pay_101 (fun H locs hP hD hS => ?_)
              generalize (upd kf (0 : Int32).toNatClampNeg p1) = f_101 at hP hD
              have hP : va_P D vwCl [(m0, .inr (12, [.ref mp, .int 0, .int 0, .int 0, .ref mw, .ref mh, .ref mo, .int 0, .int 0, .int 0, .int 0, .int 0, .int 0, .ref m5, .ref m6, .ref m7, .long 0, .int 0, .ref mk, .ref mn, .int 0, .ref mq, .ref m8, .ref m9, .int 0, .int 0, .int 0, .int 0, .ref ma, .int 0, .ref mb, .ref md, .long 0])), (mk, .inl (cK, 8, .inl f_101)), (mn, .inl (cN, 32, .inl nf))] H := hP
              have hD : va_D A [(m0, .inr (12, [.ref mp, .int 0, .int 0, .int 0, .ref mw, .ref mh, .ref mo, .int 0, .int 0, .int 0, .int 0, .int 0, .int 0, .ref m5, .ref m6, .ref m7, .long 0, .int 0, .ref mk, .ref mn, .int 0, .ref mq, .ref m8, .ref m9, .int 0, .int 0, .int 0, .int 0, .ref ma, .int 0, .ref mb, .ref md, .long 0])), (mk, .inl (cK, 8, .inl f_101)), (mn, .inl (cN, 32, .inl nf))] := hD
              refine lv_aload_n hx hb dX12_pay_102 rfl (lv_at hl 1 rfl) ?_
              refine va_get (D := D) (ci := 12) (v := .ref mn) (C := RX12) (T := TX12) (N := 33) hx hb hg gwX12 hown hK hP 0 rfl rfl 19 (by decide) (hg _ kw_255) (fun _ h9 => h9) rfl dX12_pay_103 ?_
              refine lv_iconst (v := 4) hx hb dX12_pay_106 (by decide) ?_
              refine lv_aload_n hx hb dX12_pay_107 rfl (lv_at hl 1 rfl) ?_
              refine va_get (D := D) (ci := 12) (v := .int 0) (C := RX12) (T := TX12) (N := 33) hx hb hg gwX12 hown hK hP 0 rfl rfl 17 (by decide) (hg _ kw_211) (fun _ h9 => h9) rfl dX12_pay_108 ?_
              refine lv_imul hx hb dX12_pay_111 ?_
              refine lv_topi (fun z_111 e_111 => ?_)
              obtain rfl : z_111 = (0 : Int32) := e_111.trans (by decide)
              refine lv_iload_n hx hb dX12_pay_112 rfl (lv_at hl 3 rfl) ?_
              refine va_iast hx hb hK hP hD hS 2 1 rfl rfl (show ¬ ((0 : Int32) < 0 ∨ 32 ≤ (0 : Int32).toNatClampNeg) by decide) dX12_pay_113 (fun H locs hP hD hS => ?_)
              generalize (upd nf (0 : Int32).toNatClampNeg p2) = f_113 at hP hD
              have hP : va_P D vwCl [(m0, .inr (12, [.ref mp, .int 0, .int 0, .int 0, .ref mw, .ref mh, .ref mo, .int 0, .int 0, .int 0, .int 0, .int 0, .int 0, .ref m5, .ref m6, .ref m7, .long 0, .int 0, .ref mk, .ref mn, .int 0, .ref mq, .ref m8, .ref m9, .int 0, .int 0, .int 0, .int 0, .ref ma, .int 0, .ref mb, .ref md, .long 0])), (mk, .inl (cK, 8, .inl f_101)), (mn, .inl (cN, 32, .inl f_113))] H := hP
              have hD : va_D A [(m0, .inr (12, [.ref mp, .int 0, .int 0, .int 0, .ref mw, .ref mh, .ref mo, .int 0, .int 0, .int 0, .int 0, .int 0, .int 0, .ref m5, .ref m6, .ref m7, .long 0, .int 0, .ref mk, .ref mn, .int 0, .ref mq, .ref m8, .ref m9, .int 0, .int 0, .int 0, .int 0, .ref ma, .int 0, .ref mb, .ref md, .long 0])), (mk, .inl (cK, 8, .inl f_101)), (mn, .inl (cN, 32, .inl f_113))] := hD
              refine lv_aload_n hx hb dX12_pay_114 rfl (lv_at hl 1 rfl) ?_
              refine va_get (D := D) (ci := 12) (v := .ref mn) (C := RX12) (T := TX12) (N := 33) hx hb hg gwX12 hown hK hP 0 rfl rfl 19 (by decide) (hg _ kw_255) (fun _ h9 => h9) rfl dX12_pay_115 ?_
              refine lv_iconst (v := 4) hx hb dX12_pay_118 (by decide) ?_
              refine lv_aload_n hx hb dX12_pay_119 rfl (lv_at hl 1 rfl) ?_
              refine va_get (D := D) (ci := 12) (v := .int 0) (C := RX12) (T := TX12) (N := 33) hx hb hg gwX12 hown hK hP 0 rfl rfl 17 (by decide) (hg _ kw_211) (fun _ h9 => h9) rfl dX12_pay_120 ?_
              refine lv_imul hx hb dX12_pay_123 ?_
              refine lv_topi (fun z_123 e_123 => ?_)
              obtain rfl : z_123 = (0 : Int32) := e_123.trans (by decide)
              refine lv_iconst (v := 1) hx hb dX12_pay_124 (by decide) ?_
              refine lv_iadd hx hb dX12_pay_125 ?_
              refine lv_topi (fun z_125 e_125 => ?_)
              obtain rfl : z_125 = (1 : Int32) := e_125.trans (by decide)
              refine lv_iload_n hx hb dX12_pay_126 rfl (lv_at hl 4 rfl) ?_
              refine va_iast hx hb hK hP hD hS 2 1 rfl rfl (show ¬ ((1 : Int32) < 0 ∨ 32 ≤ (1 : Int32).toNatClampNeg) by decide) dX12_pay_127 (fun H locs hP hD hS => ?_)
              generalize (upd f_113 (1 : Int32).toNatClampNeg p3) = f_127 at hP hD
              have hP : va_P D vwCl [(m0, .inr (12, [.ref mp, .int 0, .int 0, .int 0, .ref mw, .ref mh, .ref mo, .int 0, .int 0, .int 0, .int 0, .int 0, .int 0, .ref m5, .ref m6, .ref m7, .long 0, .int 0, .ref mk, .ref mn, .int 0, .ref mq, .ref m8, .ref m9, .int 0, .int 0, .int 0, .int 0, .ref ma, .int 0, .ref mb, .ref md, .long 0])), (mk, .inl (cK, 8, .inl f_101)), (mn, .inl (cN, 32, .inl f_127))] H := hP
              have hD : va_D A [(m0, .inr (12, [.ref mp, .int 0, .int 0, .int 0, .ref mw, .ref mh, .ref mo, .int 0, .int 0, .int 0, .int 0, .int 0, .int 0, .ref m5, .ref m6, .ref m7, .long 0, .int 0, .ref mk, .ref mn, .int 0, .ref mq, .ref m8, .ref m9, .int 0, .int 0, .int 0, .int 0, .ref ma, .int 0, .ref mb, .ref md, .long 0])), (mk, .inl (cK, 8, .inl f_101)), (mn, .inl (cN, 32, .inl f_127))] := hD
              refine lv_aload_n hx hb dX12_pay_128 rfl (lv_at hl 1 rfl) ?_
              refine va_get (D := D) (ci := 12) (v := .ref mn) (C := RX12) (T := TX12) (N := 33) hx hb hg gwX12 hown hK hP 0 rfl rfl 19 (by decide) (hg _ kw_255) (fun _ h9 => h9) rfl dX12_pay_129 ?_
              refine lv_iconst (v := 4) hx hb dX12_pay_132 (by decide) ?_
              refine lv_aload_n hx hb dX12_pay_133 rfl (lv_at hl 1 rfl) ?_
              refine va_get (D := D) (ci := 12) (v := .int 0) (C := RX12) (T := TX12) (N := 33) hx hb hg gwX12 hown hK hP 0 rfl rfl 17 (by decide) (hg _ kw_211) (fun _ h9 => h9) rfl dX12_pay_134 ?_
              refine lv_imul hx hb dX12_pay_137 ?_
              refine lv_topi (fun z_137 e_137 => ?_)
              obtain rfl : z_137 = (0 : Int32) := e_137.trans (by decide)
              refine lv_iconst (v := 2) hx hb dX12_pay_138 (by decide) ?_
              refine lv_iadd hx hb dX12_pay_139 ?_
              refine lv_topi (fun z_139 e_139 => ?_)
              obtain rfl : z_139 = (2 : Int32) := e_139.trans (by decide)
              refine lv_iload hx hb dX12_pay_140 (lv_at hl 5 rfl) ?_
              refine va_iast hx hb hK hP hD hS 2 1 rfl rfl (show ¬ ((2 : Int32) < 0 ∨ 32 ≤ (2 : Int32).toNatClampNeg) by decide) dX12_pay_142 (fun H locs hP hD hS => ?_)
              generalize (upd f_127 (2 : Int32).toNatClampNeg p4) = f_142 at hP hD
              have hP : va_P D vwCl [(m0, .inr (12, [.ref mp, .int 0, .int 0, .int 0, .ref mw, .ref mh, .ref mo, .int 0, .int 0, .int 0, .int 0, .int 0, .int 0, .ref m5, .ref m6, .ref m7, .long 0, .int 0, .ref mk, .ref mn, .int 0, .ref mq, .ref m8, .ref m9, .int 0, .int 0, .int 0, .int 0, .ref ma, .int 0, .ref mb, .ref md, .long 0])), (mk, .inl (cK, 8, .inl f_101)), (mn, .inl (cN, 32, .inl f_142))] H := hP
              have hD : va_D A [(m0, .inr (12, [.ref mp, .int 0, .int 0, .int 0, .ref mw, .ref mh, .ref mo, .int 0, .int 0, .int 0, .int 0, .int 0, .int 0, .ref m5, .ref m6, .ref m7, .long 0, .int 0, .ref mk, .ref mn, .int 0, .ref mq, .ref m8, .ref m9, .int 0, .int 0, .int 0, .int 0, .ref ma, .int 0, .ref mb, .ref md, .long 0])), (mk, .inl (cK, 8, .inl f_101)), (mn, .inl (cN, 32, .inl f_142))] := hD
              refine lv_aload_n hx hb dX12_pay_143 rfl (lv_at hl 1 rfl) ?_
              refine va_get (D := D) (ci := 12) (v := .ref mn) (C := RX12) (T := TX12) (N := 33) hx hb hg gwX12 hown hK hP 0 rfl rfl 19 (by decide) (hg _ kw_255) (fun _ h9 => h9) rfl dX12_pay_144 ?_
              refine lv_iconst (v := 4) hx hb dX12_pay_147 (by decide) ?_
              refine lv_aload_n hx hb dX12_pay_148 rfl (lv_at hl 1 rfl) ?_
              refine va_get (D := D) (ci := 12) (v := .int 0) (C := RX12) (T := TX12) (N := 33) hx hb hg gwX12 hown hK hP 0 rfl rfl 17 (by decide) (hg _ kw_211) (fun _ h9 => h9) rfl dX12_pay_149 ?_
              refine lv_imul hx hb dX12_pay_152 ?_
              refine lv_topi (fun z_152 e_152 => ?_)
              obtain rfl : z_152 = (0 : Int32) := e_152.trans (by decide)
              refine lv_iconst (v := 3) hx hb dX12_pay_153 (by decide) ?_
              refine lv_iadd hx hb dX12_pay_154 ?_
              refine lv_topi (fun z_154 e_154 => ?_)
              obtain rfl : z_154 = (3 : Int32) := e_154.trans (by decide)
              refine lv_iload hx hb dX12_pay_155 (lv_at hl 6 rfl) ?_
              refine va_iast hx hb hK hP hD hS 2 1 rfl rfl (show ¬ ((3 : Int32) < 0 ∨ 32 ≤ (3 : Int32).toNatClampNeg) by decide) dX12_pay_157 (fun H locs hP hD hS => ?_)
              generalize (upd f_142 (3 : Int32).toNatClampNeg p5) = f_157 at hP hD
              have hP : va_P D vwCl [(m0, .inr (12, [.ref mp, .int 0, .int 0, .int 0, .ref mw, .ref mh, .ref mo, .int 0, .int 0, .int 0, .int 0, .int 0, .int 0, .ref m5, .ref m6, .ref m7, .long 0, .int 0, .ref mk, .ref mn, .int 0, .ref mq, .ref m8, .ref m9, .int 0, .int 0, .int 0, .int 0, .ref ma, .int 0, .ref mb, .ref md, .long 0])), (mk, .inl (cK, 8, .inl f_101)), (mn, .inl (cN, 32, .inl f_157))] H := hP
              have hD : va_D A [(m0, .inr (12, [.ref mp, .int 0, .int 0, .int 0, .ref mw, .ref mh, .ref mo, .int 0, .int 0, .int 0, .int 0, .int 0, .int 0, .ref m5, .ref m6, .ref m7, .long 0, .int 0, .ref mk, .ref mn, .int 0, .ref mq, .ref m8, .ref m9, .int 0, .int 0, .int 0, .int 0, .ref ma, .int 0, .ref mb, .ref md, .long 0])), (mk, .inl (cK, 8, .inl f_101)), (mn, .inl (cN, 32, .inl f_157))] := hD
              refine lv_aload_n hx hb dX12_pay_158 rfl (lv_at hl 1 rfl) ?_
              refine lv_dup hx hb dX12_pay_159 rfl ?_
              refine va_get (D := D) (ci := 12) (v := .int 0) (C := RX12) (T := TX12) (N := 33) hx hb hg gwX12 hown hK hP 0 rfl rfl 17 (by decide) (hg _ kw_211) (fun _ h9 => h9) rfl dX12_pay_160 ?_
              refine lv_iconst (v := 1) hx hb dX12_pay_163 (by decide) ?_
              refine lv_iadd hx hb dX12_pay_164 ?_
              refine lv_topi (fun z_164 e_164 => ?_)
              obtain rfl : z_164 = (1 : Int32) := e_164.trans (by decide)
              refine va_put (D := D) (ci := 12) (v := .int 1) (ty := .int) (C := RX12) (T := TX12) (N := 33) hx hb hg gwX12 tyX12 tyX12_ok nmX12 hown hK hP hD hS 0 rfl rfl 17 (by decide) (hg _ kw_211) (fun _ h9 => h9) rfl (by decide +kernel) rfl rfl (Nat.le_of_ble_eq_true rfl) dX12_pay_165 (fun H locs hP hD hS => ?_)
              have hP : va_P D vwCl [(m0, .inr (12, [.ref mp, .int 0, .int 0, .int 0, .ref mw, .ref mh, .ref mo, .int 0, .int 0, .int 0, .int 0, .int 0, .int 0, .ref m5, .ref m6, .ref m7, .long 0, .int 1, .ref mk, .ref mn, .int 0, .ref mq, .ref m8, .ref m9, .int 0, .int 0, .int 0, .int 0, .ref ma, .int 0, .ref mb, .ref md, .long 0])), (mk, .inl (cK, 8, .inl f_101)), (mn, .inl (cN, 32, .inl f_157))] H := hP
              have hD : va_D A [(m0, .inr (12, [.ref mp, .int 0, .int 0, .int 0, .ref mw, .ref mh, .ref mo, .int 0, .int 0, .int 0, .int 0, .int 0, .int 0, .ref m5, .ref m6, .ref m7, .long 0, .int 1, .ref mk, .ref mn, .int 0, .ref mq, .ref m8, .ref m9, .int 0, .int 0, .int 0, .int 0, .ref ma, .int 0, .ref mb, .ref md, .long 0])), (mk, .inl (cK, 8, .inl f_101)), (mn, .inl (cN, 32, .inl f_157))] := hD
              refine lv_aload_n hx hb dX12_pay_168 rfl (lv_at hl 1 rfl) ?_
              refine va_get (D := D) (ci := 12) (v := .int 1) (C := RX12) (T := TX12) (N := 33) hx hb hg gwX12 hown hK hP 0 rfl rfl 17 (by decide) (hg _ kw_211) (fun _ h9 => h9) rfl dX12_pay_169 ?_
              refine lv_iconst (v := 1) hx hb dX12_pay_172 (by decide) ?_
              refine lv_isub hx hb dX12_pay_173 ?_
              refine lv_topi (fun z_173 e_173 => ?_)
              obtain rfl : z_173 = (0 : Int32) := e_173.trans (by decide)
              have hq : okq p1 p2 p3 p4 p5 := ⟨iw_y g_33 c_36, by rw [ms4_n c_2]; exact iw_y g_45 c_48, iw_y g_58 c_61, by rw [ms4_n c_2]; exact iw_y g_71 c_74⟩
              subst hQ
              refine W.widen (k := 0) (n := 0) (Nat.le_of_ble_eq_true rfl) (Nat.le_of_ble_eq_true rfl) ?_
              exact W.iret (v := 0) hx hb hr (fun t ht hW => ⟨⟨0, (), rfl, (sp_y (iw_y g_21 c_24) (an_1 hq).symm), trivial⟩, hS.F ht⟩) hS.2.2 dX12_pay_174
            · refine lv_bipush (v := (-102)) hx hb dX12_pay_77 (by decide) ?_
              have hq : ¬ okq p1 p2 p3 p4 p5 := fun q => by
                replace q := q.2.2.2
                rw [ms4_n c_2] at q
                exact iw_n g_71 c_74 q
              subst hQ
              refine W.widen (k := 0) (n := 0) (Nat.le_of_ble_eq_true rfl) (Nat.le_of_ble_eq_true rfl) ?_
              exact W.iret (v := (-102)) hx hb hr (fun t ht hW => ⟨⟨(-102), (), rfl, (sp_n2 (an_0 hq) rfl), trivial⟩, hS.F ht⟩) hS.2.2 dX12_pay_79
  · refine lv_bipush (v := 100) hx hb dX12_pay_5 (by decide) ?_
    refine lv_goto (tgt := 13) hx hb dX12_pay_7 (by decide) ?_
    refine lv_istore (lv' := [(6, .int 100), (0, .ref m0), (1, .int p1), (2, .int p2), (3, .int p3), (4, .int p4), (5, .int p5)]) hx hb dX12_pay_13 hl (by decide) rfl (fun ls hl => ?_)
    refine lv_iload_n hx hb dX12_pay_15 rfl (lv_at hl 2 rfl) ?_
    refine lv_i2l hx hb dX12_pay_16 rfl ?_
    refine lv_topl (fun z_16 e_16 => ?_)
    refine lv_lconst (v := 0) hx hb dX12_pay_17 (by decide) ?_
    refine lv_ldc2 hx hb hown (hg _ kw_252) dX12_pay_18 ?_
    refine vp_callSi (W.runS (As := [.long z_16, .long 0, .long 4]) (rest := []) ⟨hx, hb, hml, hown, hg⟩ (c_in l z_16 0 4) (va_cwS 3 hg (gw_S kw_208 kw_209 kw_210 kw_207) rfl rfl rfl (by decide +kernel) ⟨Nat.le_of_ble_eq_true rfl, Nat.le_of_ble_eq_true rfl⟩) pr_0 rfl rfl hl.1 rfl (lv_room (Nat.le_of_ble_eq_true rfl)) dX12_pay_21 ⟨Nat.le_of_ble_eq_true rfl, Nat.le_of_ble_eq_true rfl⟩) (fun r_21 h_21 => ?_)
    have g_21 : r_21 = iw p1 0 4 := by rw [h_21, e_16]; exact il_iw (by decide) (by decide)
    refine lv_if_eq (tgt := 77) hx hb dX12_pay_24 (by decide) (fun c_24 => ?_) (fun c_24 => ?_)
    · refine lv_bipush (v := (-102)) hx hb dX12_pay_77 (by decide) ?_
      subst hQ
      refine W.widen (k := 0) (n := 0) (Nat.le_of_ble_eq_true rfl) (Nat.le_of_ble_eq_true rfl) ?_
      exact W.iret (v := (-102)) hx hb hr (fun t ht hW => ⟨⟨(-102), (), rfl, (sp_n1 g_21 c_24), trivial⟩, hS.F ht⟩) hS.2.2 dX12_pay_79
    · refine lv_iload_n hx hb dX12_pay_27 rfl (lv_at hl 3 rfl) ?_
      refine lv_i2l hx hb dX12_pay_28 rfl ?_
      refine lv_topl (fun z_28 e_28 => ?_)
      refine lv_lconst (v := 0) hx hb dX12_pay_29 (by decide) ?_
      refine lv_ldc2 hx hb hown (hg _ kw_253) dX12_pay_30 ?_
      refine vp_callSi (W.runS (As := [.long z_28, .long 0, .long 999]) (rest := []) ⟨hx, hb, hml, hown, hg⟩ (c_in l z_28 0 999) (va_cwS 3 hg (gw_S kw_208 kw_209 kw_210 kw_207) rfl rfl rfl (by decide +kernel) ⟨Nat.le_of_ble_eq_true rfl, Nat.le_of_ble_eq_true rfl⟩) pr_0 rfl rfl hl.1 rfl (lv_room (Nat.le_of_ble_eq_true rfl)) dX12_pay_33 ⟨Nat.le_of_ble_eq_true rfl, Nat.le_of_ble_eq_true rfl⟩) (fun r_33 h_33 => ?_)
      have g_33 : r_33 = iw p2 0 999 := by rw [h_33, e_28]; exact il_iw (by decide) (by decide)
      refine lv_if_eq (tgt := 77) hx hb dX12_pay_36 (by decide) (fun c_36 => ?_) (fun c_36 => ?_)
      · refine lv_bipush (v := (-102)) hx hb dX12_pay_77 (by decide) ?_
        have hq : ¬ okq p1 p2 p3 p4 p5 := fun q => by
          replace q := q.1
          exact iw_n g_33 c_36 q
        subst hQ
        refine W.widen (k := 0) (n := 0) (Nat.le_of_ble_eq_true rfl) (Nat.le_of_ble_eq_true rfl) ?_
        exact W.iret (v := (-102)) hx hb hr (fun t ht hW => ⟨⟨(-102), (), rfl, (sp_n2 (an_0 hq) rfl), trivial⟩, hS.F ht⟩) hS.2.2 dX12_pay_79
      · refine lv_iload_n hx hb dX12_pay_39 rfl (lv_at hl 4 rfl) ?_
        refine lv_i2l hx hb dX12_pay_40 rfl ?_
        refine lv_topl (fun z_40 e_40 => ?_)
        refine lv_lconst (v := 0) hx hb dX12_pay_41 (by decide) ?_
        refine lv_iload hx hb dX12_pay_42 (lv_at hl 0 rfl) ?_
        refine lv_i2l hx hb dX12_pay_44 rfl ?_
        refine lv_topl (fun z_44 e_44 => ?_)
        obtain rfl : z_44 = (100 : Int64) := e_44.trans (by decide)
        refine vp_callSi (W.runS (As := [.long z_40, .long 0, .long 100]) (rest := []) ⟨hx, hb, hml, hown, hg⟩ (c_in l z_40 0 100) (va_cwS 3 hg (gw_S kw_208 kw_209 kw_210 kw_207) rfl rfl rfl (by decide +kernel) ⟨Nat.le_of_ble_eq_true rfl, Nat.le_of_ble_eq_true rfl⟩) pr_0 rfl rfl hl.1 rfl (lv_room (Nat.le_of_ble_eq_true rfl)) dX12_pay_45 ⟨Nat.le_of_ble_eq_true rfl, Nat.le_of_ble_eq_true rfl⟩) (fun r_45 h_45 => ?_)
        have g_45 : r_45 = iw p3 0 100 := by rw [h_45, e_40]; exact il_iw (by decide) (by decide)
        refine lv_if_eq (tgt := 77) hx hb dX12_pay_48 (by decide) (fun c_48 => ?_) (fun c_48 => ?_)
        · refine lv_bipush (v := (-102)) hx hb dX12_pay_77 (by decide) ?_
          have hq : ¬ okq p1 p2 p3 p4 p5 := fun q => by
            replace q := q.2.1
            rw [ms4_y c_2] at q
            exact iw_n g_45 c_48 q
          subst hQ
          refine W.widen (k := 0) (n := 0) (Nat.le_of_ble_eq_true rfl) (Nat.le_of_ble_eq_true rfl) ?_
          exact W.iret (v := (-102)) hx hb hr (fun t ht hW => ⟨⟨(-102), (), rfl, (sp_n2 (an_0 hq) rfl), trivial⟩, hS.F ht⟩) hS.2.2 dX12_pay_79
        · refine lv_iload hx hb dX12_pay_51 (lv_at hl 5 rfl) ?_
          refine lv_i2l hx hb dX12_pay_53 rfl ?_
          refine lv_topl (fun z_53 e_53 => ?_)
          refine lv_lconst (v := 0) hx hb dX12_pay_54 (by decide) ?_
          refine lv_ldc2 hx hb hown (hg _ kw_253) dX12_pay_55 ?_
          refine vp_callSi (W.runS (As := [.long z_53, .long 0, .long 999]) (rest := []) ⟨hx, hb, hml, hown, hg⟩ (c_in l z_53 0 999) (va_cwS 3 hg (gw_S kw_208 kw_209 kw_210 kw_207) rfl rfl rfl (by decide +kernel) ⟨Nat.le_of_ble_eq_true rfl, Nat.le_of_ble_eq_true rfl⟩) pr_0 rfl rfl hl.1 rfl (lv_room (Nat.le_of_ble_eq_true rfl)) dX12_pay_58 ⟨Nat.le_of_ble_eq_true rfl, Nat.le_of_ble_eq_true rfl⟩) (fun r_58 h_58 => ?_)
          have g_58 : r_58 = iw p4 0 999 := by rw [h_58, e_53]; exact il_iw (by decide) (by decide)
          refine lv_if_eq (tgt := 77) hx hb dX12_pay_61 (by decide) (fun c_61 => ?_) (fun c_61 => ?_)
          · refine lv_bipush (v := (-102)) hx hb dX12_pay_77 (by decide) ?_
            have hq : ¬ okq p1 p2 p3 p4 p5 := fun q => by
              replace q := q.2.2.1
              exact iw_n g_58 c_61 q
            subst hQ
            refine W.widen (k := 0) (n := 0) (Nat.le_of_ble_eq_true rfl) (Nat.le_of_ble_eq_true rfl) ?_
            exact W.iret (v := (-102)) hx hb hr (fun t ht hW => ⟨⟨(-102), (), rfl, (sp_n2 (an_0 hq) rfl), trivial⟩, hS.F ht⟩) hS.2.2 dX12_pay_79
          · refine lv_iload hx hb dX12_pay_64 (lv_at hl 6 rfl) ?_
            refine lv_i2l hx hb dX12_pay_66 rfl ?_
            refine lv_topl (fun z_66 e_66 => ?_)
            refine lv_lconst (v := 0) hx hb dX12_pay_67 (by decide) ?_
            refine lv_iload hx hb dX12_pay_68 (lv_at hl 0 rfl) ?_
            refine lv_i2l hx hb dX12_pay_70 rfl ?_
            refine lv_topl (fun z_70 e_70 => ?_)
            obtain rfl : z_70 = (100 : Int64) := e_70.trans (by decide)
            refine vp_callSi (W.runS (As := [.long z_66, .long 0, .long 100]) (rest := []) ⟨hx, hb, hml, hown, hg⟩ (c_in l z_66 0 100) (va_cwS 3 hg (gw_S kw_208 kw_209 kw_210 kw_207) rfl rfl rfl (by decide +kernel) ⟨Nat.le_of_ble_eq_true rfl, Nat.le_of_ble_eq_true rfl⟩) pr_0 rfl rfl hl.1 rfl (lv_room (Nat.le_of_ble_eq_true rfl)) dX12_pay_71 ⟨Nat.le_of_ble_eq_true rfl, Nat.le_of_ble_eq_true rfl⟩) (fun r_71 h_71 => ?_)
            have g_71 : r_71 = iw p5 0 100 := by rw [h_71, e_66]; exact il_iw (by decide) (by decide)
            refine lv_if_ne (tgt := 80) hx hb dX12_pay_74 (by decide) (fun c_74 => ?_) (fun c_74 => ?_)
            · refine lv_aload_n hx hb dX12_pay_80 rfl (lv_at hl 1 rfl) ?_
              refine va_get (D := D) (ci := 12) (v := .int 0) (C := RX12) (T := TX12) (N := 33) hx hb hg gwX12 hown hK hP 0 rfl rfl 17 (by decide) (hg _ kw_211) (fun _ h9 => h9) rfl dX12_pay_81 ?_
              refine lv_bipush (v := 8) hx hb dX12_pay_84 (by decide) ?_
              refine lv_icmp_ne (tgt := 92) hx hb dX12_pay_86 (by decide) (fun c_86 => ?_) (fun c_86 => absurd c_86 (by decide))
              refine lv_aload_n hx hb dX12_pay_92 rfl (lv_at hl 1 rfl) ?_
              refine va_get (D := D) (ci := 12) (v := .ref mk) (C := RX12) (T := TX12) (N := 33) hx hb hg gwX12 hown hK hP 0 rfl rfl 18 (by decide) (hg _ kw_254) (fun _ h9 => h9) rfl dX12_pay_93 ?_
              refine lv_aload_n hx hb dX12_pay_96 rfl (lv_at hl 1 rfl) ?_
              refine va_get (D := D) (ci := 12) (v := .int 0) (C := RX12) (T := TX12) (N := 33) hx hb hg gwX12 hown hK hP 0 rfl rfl 17 (by decide) (hg _ kw_211) (fun _ h9 => h9) rfl dX12_pay_97 ?_
              refine lv_iload_n hx hb dX12_pay_100 rfl (lv_at hl 2 rfl) ?_
              refine va_iast hx hb hK hP hD hS 1 0 rfl rfl (show ¬ ((0 : Int32) < 0 ∨ 8 ≤ (0 : Int32).toNatClampNeg) by decide) dX12_pay_101 (fun H locs hP hD hS => ?_)
              generalize (upd kf (0 : Int32).toNatClampNeg p1) = f_101 at hP hD
              have hP : va_P D vwCl [(m0, .inr (12, [.ref mp, .int 0, .int 0, .int 0, .ref mw, .ref mh, .ref mo, .int 0, .int 0, .int 0, .int 0, .int 0, .int 0, .ref m5, .ref m6, .ref m7, .long 0, .int 0, .ref mk, .ref mn, .int 0, .ref mq, .ref m8, .ref m9, .int 0, .int 0, .int 0, .int 0, .ref ma, .int 0, .ref mb, .ref md, .long 0])), (mk, .inl (cK, 8, .inl f_101)), (mn, .inl (cN, 32, .inl nf))] H := hP
              have hD : va_D A [(m0, .inr (12, [.ref mp, .int 0, .int 0, .int 0, .ref mw, .ref mh, .ref mo, .int 0, .int 0, .int 0, .int 0, .int 0, .int 0, .ref m5, .ref m6, .ref m7, .long 0, .int 0, .ref mk, .ref mn, .int 0, .ref mq, .ref m8, .ref m9, .int 0, .int 0, .int 0, .int 0, .ref ma, .int 0, .ref mb, .ref md, .long 0])), (mk, .inl (cK, 8, .inl f_101)), (mn, .inl (cN, 32, .inl nf))] := hD
              refine lv_aload_n hx hb dX12_pay_102 rfl (lv_at hl 1 rfl) ?_
              refine va_get (D := D) (ci := 12) (v := .ref mn) (C := RX12) (T := TX12) (N := 33) hx hb hg gwX12 hown hK hP 0 rfl rfl 19 (by decide) (hg _ kw_255) (fun _ h9 => h9) rfl dX12_pay_103 ?_
              refine lv_iconst (v := 4) hx hb dX12_pay_106 (by decide) ?_
              refine lv_aload_n hx hb dX12_pay_107 rfl (lv_at hl 1 rfl) ?_
              refine va_get (D := D) (ci := 12) (v := .int 0) (C := RX12) (T := TX12) (N := 33) hx hb hg gwX12 hown hK hP 0 rfl rfl 17 (by decide) (hg _ kw_211) (fun _ h9 => h9) rfl dX12_pay_108 ?_
              refine lv_imul hx hb dX12_pay_111 ?_
              refine lv_topi (fun z_111 e_111 => ?_)
              obtain rfl : z_111 = (0 : Int32) := e_111.trans (by decide)
              refine lv_iload_n hx hb dX12_pay_112 rfl (lv_at hl 3 rfl) ?_
              refine va_iast hx hb hK hP hD hS 2 1 rfl rfl (show ¬ ((0 : Int32) < 0 ∨ 32 ≤ (0 : Int32).toNatClampNeg) by decide) dX12_pay_113 (fun H locs hP hD hS => ?_)
              generalize (upd nf (0 : Int32).toNatClampNeg p2) = f_113 at hP hD
              have hP : va_P D vwCl [(m0, .inr (12, [.ref mp, .int 0, .int 0, .int 0, .ref mw, .ref mh, .ref mo, .int 0, .int 0, .int 0, .int 0, .int 0, .int 0, .ref m5, .ref m6, .ref m7, .long 0, .int 0, .ref mk, .ref mn, .int 0, .ref mq, .ref m8, .ref m9, .int 0, .int 0, .int 0, .int 0, .ref ma, .int 0, .ref mb, .ref md, .long 0])), (mk, .inl (cK, 8, .inl f_101)), (mn, .inl (cN, 32, .inl f_113))] H := hP
              have hD : va_D A [(m0, .inr (12, [.ref mp, .int 0, .int 0, .int 0, .ref mw, .ref mh, .ref mo, .int 0, .int 0, .int 0, .int 0, .int 0, .int 0, .ref m5, .ref m6, .ref m7, .long 0, .int 0, .ref mk, .ref mn, .int 0, .ref mq, .ref m8, .ref m9, .int 0, .int 0, .int 0, .int 0, .ref ma, .int 0, .ref mb, .ref md, .long 0])), (mk, .inl (cK, 8, .inl f_101)), (mn, .inl (cN, 32, .inl f_113))] := hD
              refine lv_aload_n hx hb dX12_pay_114 rfl (lv_at hl 1 rfl) ?_
              refine va_get (D := D) (ci := 12) (v := .ref mn) (C := RX12) (T := TX12) (N := 33) hx hb hg gwX12 hown hK hP 0 rfl rfl 19 (by decide) (hg _ kw_255) (fun _ h9 => h9) rfl dX12_pay_115 ?_
              refine lv_iconst (v := 4) hx hb dX12_pay_118 (by decide) ?_
              refine lv_aload_n hx hb dX12_pay_119 rfl (lv_at hl 1 rfl) ?_
              refine va_get (D := D) (ci := 12) (v := .int 0) (C := RX12) (T := TX12) (N := 33) hx hb hg gwX12 hown hK hP 0 rfl rfl 17 (by decide) (hg _ kw_211) (fun _ h9 => h9) rfl dX12_pay_120 ?_
              refine lv_imul hx hb dX12_pay_123 ?_
              refine lv_topi (fun z_123 e_123 => ?_)
              obtain rfl : z_123 = (0 : Int32) := e_123.trans (by decide)
              refine lv_iconst (v := 1) hx hb dX12_pay_124 (by decide) ?_
              refine lv_iadd hx hb dX12_pay_125 ?_
              refine lv_topi (fun z_125 e_125 => ?_)
              obtain rfl : z_125 = (1 : Int32) := e_125.trans (by decide)
              refine lv_iload_n hx hb dX12_pay_126 rfl (lv_at hl 4 rfl) ?_
              refine va_iast hx hb hK hP hD hS 2 1 rfl rfl (show ¬ ((1 : Int32) < 0 ∨ 32 ≤ (1 : Int32).toNatClampNeg) by decide) dX12_pay_127 (fun H locs hP hD hS => ?_)
              generalize (upd f_113 (1 : Int32).toNatClampNeg p3) = f_127 at hP hD
              have hP : va_P D vwCl [(m0, .inr (12, [.ref mp, .int 0, .int 0, .int 0, .ref mw, .ref mh, .ref mo, .int 0, .int 0, .int 0, .int 0, .int 0, .int 0, .ref m5, .ref m6, .ref m7, .long 0, .int 0, .ref mk, .ref mn, .int 0, .ref mq, .ref m8, .ref m9, .int 0, .int 0, .int 0, .int 0, .ref ma, .int 0, .ref mb, .ref md, .long 0])), (mk, .inl (cK, 8, .inl f_101)), (mn, .inl (cN, 32, .inl f_127))] H := hP
              have hD : va_D A [(m0, .inr (12, [.ref mp, .int 0, .int 0, .int 0, .ref mw, .ref mh, .ref mo, .int 0, .int 0, .int 0, .int 0, .int 0, .int 0, .ref m5, .ref m6, .ref m7, .long 0, .int 0, .ref mk, .ref mn, .int 0, .ref mq, .ref m8, .ref m9, .int 0, .int 0, .int 0, .int 0, .ref ma, .int 0, .ref mb, .ref md, .long 0])), (mk, .inl (cK, 8, .inl f_101)), (mn, .inl (cN, 32, .inl f_127))] := hD
              refine lv_aload_n hx hb dX12_pay_128 rfl (lv_at hl 1 rfl) ?_
              refine va_get (D := D) (ci := 12) (v := .ref mn) (C := RX12) (T := TX12) (N := 33) hx hb hg gwX12 hown hK hP 0 rfl rfl 19 (by decide) (hg _ kw_255) (fun _ h9 => h9) rfl dX12_pay_129 ?_
              refine lv_iconst (v := 4) hx hb dX12_pay_132 (by decide) ?_
              refine lv_aload_n hx hb dX12_pay_133 rfl (lv_at hl 1 rfl) ?_
              refine va_get (D := D) (ci := 12) (v := .int 0) (C := RX12) (T := TX12) (N := 33) hx hb hg gwX12 hown hK hP 0 rfl rfl 17 (by decide) (hg _ kw_211) (fun _ h9 => h9) rfl dX12_pay_134 ?_
              refine lv_imul hx hb dX12_pay_137 ?_
              refine lv_topi (fun z_137 e_137 => ?_)
              obtain rfl : z_137 = (0 : Int32) := e_137.trans (by decide)
              refine lv_iconst (v := 2) hx hb dX12_pay_138 (by decide) ?_
              refine lv_iadd hx hb dX12_pay_139 ?_
              refine lv_topi (fun z_139 e_139 => ?_)
              obtain rfl : z_139 = (2 : Int32) := e_139.trans (by decide)
              refine lv_iload hx hb dX12_pay_140 (lv_at hl 5 rfl) ?_
              refine va_iast hx hb hK hP hD hS 2 1 rfl rfl (show ¬ ((2 : Int32) < 0 ∨ 32 ≤ (2 : Int32).toNatClampNeg) by decide) dX12_pay_142 (fun H locs hP hD hS => ?_)
              generalize (upd f_127 (2 : Int32).toNatClampNeg p4) = f_142 at hP hD
              have hP : va_P D vwCl [(m0, .inr (12, [.ref mp, .int 0, .int 0, .int 0, .ref mw, .ref mh, .ref mo, .int 0, .int 0, .int 0, .int 0, .int 0, .int 0, .ref m5, .ref m6, .ref m7, .long 0, .int 0, .ref mk, .ref mn, .int 0, .ref mq, .ref m8, .ref m9, .int 0, .int 0, .int 0, .int 0, .ref ma, .int 0, .ref mb, .ref md, .long 0])), (mk, .inl (cK, 8, .inl f_101)), (mn, .inl (cN, 32, .inl f_142))] H := hP
              have hD : va_D A [(m0, .inr (12, [.ref mp, .int 0, .int 0, .int 0, .ref mw, .ref mh, .ref mo, .int 0, .int 0, .int 0, .int 0, .int 0, .int 0, .ref m5, .ref m6, .ref m7, .long 0, .int 0, .ref mk, .ref mn, .int 0, .ref mq, .ref m8, .ref m9, .int 0, .int 0, .int 0, .int 0, .ref ma, .int 0, .ref mb, .ref md, .long 0])), (mk, .inl (cK, 8, .inl f_101)), (mn, .inl (cN, 32, .inl f_142))] := hD
              refine lv_aload_n hx hb dX12_pay_143 rfl (lv_at hl 1 rfl) ?_
              refine va_get (D := D) (ci := 12) (v := .ref mn) (C := RX12) (T := TX12) (N := 33) hx hb hg gwX12 hown hK hP 0 rfl rfl 19 (by decide) (hg _ kw_255) (fun _ h9 => h9) rfl dX12_pay_144 ?_
              refine lv_iconst (v := 4) hx hb dX12_pay_147 (by decide) ?_
              refine lv_aload_n hx hb dX12_pay_148 rfl (lv_at hl 1 rfl) ?_
              refine va_get (D := D) (ci := 12) (v := .int 0) (C := RX12) (T := TX12) (N := 33) hx hb hg gwX12 hown hK hP 0 rfl rfl 17 (by decide) (hg _ kw_211) (fun _ h9 => h9) rfl dX12_pay_149 ?_
              refine lv_imul hx hb dX12_pay_152 ?_
              refine lv_topi (fun z_152 e_152 => ?_)
              obtain rfl : z_152 = (0 : Int32) := e_152.trans (by decide)
              refine lv_iconst (v := 3) hx hb dX12_pay_153 (by decide) ?_
              refine lv_iadd hx hb dX12_pay_154 ?_
              refine lv_topi (fun z_154 e_154 => ?_)
              obtain rfl : z_154 = (3 : Int32) := e_154.trans (by decide)
              refine lv_iload hx hb dX12_pay_155 (lv_at hl 6 rfl) ?_
              refine va_iast hx hb hK hP hD hS 2 1 rfl rfl (show ¬ ((3 : Int32) < 0 ∨ 32 ≤ (3 : Int32).toNatClampNeg) by decide) dX12_pay_157 (fun H locs hP hD hS => ?_)
              generalize (upd f_142 (3 : Int32).toNatClampNeg p5) = f_157 at hP hD
              have hP : va_P D vwCl [(m0, .inr (12, [.ref mp, .int 0, .int 0, .int 0, .ref mw, .ref mh, .ref mo, .int 0, .int 0, .int 0, .int 0, .int 0, .int 0, .ref m5, .ref m6, .ref m7, .long 0, .int 0, .ref mk, .ref mn, .int 0, .ref mq, .ref m8, .ref m9, .int 0, .int 0, .int 0, .int 0, .ref ma, .int 0, .ref mb, .ref md, .long 0])), (mk, .inl (cK, 8, .inl f_101)), (mn, .inl (cN, 32, .inl f_157))] H := hP
              have hD : va_D A [(m0, .inr (12, [.ref mp, .int 0, .int 0, .int 0, .ref mw, .ref mh, .ref mo, .int 0, .int 0, .int 0, .int 0, .int 0, .int 0, .ref m5, .ref m6, .ref m7, .long 0, .int 0, .ref mk, .ref mn, .int 0, .ref mq, .ref m8, .ref m9, .int 0, .int 0, .int 0, .int 0, .ref ma, .int 0, .ref mb, .ref md, .long 0])), (mk, .inl (cK, 8, .inl f_101)), (mn, .inl (cN, 32, .inl f_157))] := hD
              refine lv_aload_n hx hb dX12_pay_158 rfl (lv_at hl 1 rfl) ?_
              refine lv_dup hx hb dX12_pay_159 rfl ?_
              refine va_get (D := D) (ci := 12) (v := .int 0) (C := RX12) (T := TX12) (N := 33) hx hb hg gwX12 hown hK hP 0 rfl rfl 17 (by decide) (hg _ kw_211) (fun _ h9 => h9) rfl dX12_pay_160 ?_
              refine lv_iconst (v := 1) hx hb dX12_pay_163 (by decide) ?_
              refine lv_iadd hx hb dX12_pay_164 ?_
              refine lv_topi (fun z_164 e_164 => ?_)
              obtain rfl : z_164 = (1 : Int32) := e_164.trans (by decide)
              refine va_put (D := D) (ci := 12) (v := .int 1) (ty := .int) (C := RX12) (T := TX12) (N := 33) hx hb hg gwX12 tyX12 tyX12_ok nmX12 hown hK hP hD hS 0 rfl rfl 17 (by decide) (hg _ kw_211) (fun _ h9 => h9) rfl (by decide +kernel) rfl rfl (Nat.le_of_ble_eq_true rfl) dX12_pay_165 (fun H locs hP hD hS => ?_)
              have hP : va_P D vwCl [(m0, .inr (12, [.ref mp, .int 0, .int 0, .int 0, .ref mw, .ref mh, .ref mo, .int 0, .int 0, .int 0, .int 0, .int 0, .int 0, .ref m5, .ref m6, .ref m7, .long 0, .int 1, .ref mk, .ref mn, .int 0, .ref mq, .ref m8, .ref m9, .int 0, .int 0, .int 0, .int 0, .ref ma, .int 0, .ref mb, .ref md, .long 0])), (mk, .inl (cK, 8, .inl f_101)), (mn, .inl (cN, 32, .inl f_157))] H := hP
              have hD : va_D A [(m0, .inr (12, [.ref mp, .int 0, .int 0, .int 0, .ref mw, .ref mh, .ref mo, .int 0, .int 0, .int 0, .int 0, .int 0, .int 0, .ref m5, .ref m6, .ref m7, .long 0, .int 1, .ref mk, .ref mn, .int 0, .ref mq, .ref m8, .ref m9, .int 0, .int 0, .int 0, .int 0, .ref ma, .int 0, .ref mb, .ref md, .long 0])), (mk, .inl (cK, 8, .inl f_101)), (mn, .inl (cN, 32, .inl f_157))] := hD
              refine lv_aload_n hx hb dX12_pay_168 rfl (lv_at hl 1 rfl) ?_
              refine va_get (D := D) (ci := 12) (v := .int 1) (C := RX12) (T := TX12) (N := 33) hx hb hg gwX12 hown hK hP 0 rfl rfl 17 (by decide) (hg _ kw_211) (fun _ h9 => h9) rfl dX12_pay_169 ?_
              refine lv_iconst (v := 1) hx hb dX12_pay_172 (by decide) ?_
              refine lv_isub hx hb dX12_pay_173 ?_
              refine lv_topi (fun z_173 e_173 => ?_)
              obtain rfl : z_173 = (0 : Int32) := e_173.trans (by decide)
              have hq : okq p1 p2 p3 p4 p5 := ⟨iw_y g_33 c_36, by rw [ms4_y c_2]; exact iw_y g_45 c_48, iw_y g_58 c_61, by rw [ms4_y c_2]; exact iw_y g_71 c_74⟩
              subst hQ
              refine W.widen (k := 0) (n := 0) (Nat.le_of_ble_eq_true rfl) (Nat.le_of_ble_eq_true rfl) ?_
              exact W.iret (v := 0) hx hb hr (fun t ht hW => ⟨⟨0, (), rfl, (sp_y (iw_y g_21 c_24) (an_1 hq).symm), trivial⟩, hS.F ht⟩) hS.2.2 dX12_pay_174
            · refine lv_bipush (v := (-102)) hx hb dX12_pay_77 (by decide) ?_
              have hq : ¬ okq p1 p2 p3 p4 p5 := fun q => by
                replace q := q.2.2.2
                rw [ms4_y c_2] at q
                exact iw_n g_71 c_74 q
              subst hQ
              refine W.widen (k := 0) (n := 0) (Nat.le_of_ble_eq_true rfl) (Nat.le_of_ble_eq_true rfl) ?_
              exact W.iret (v := (-102)) hx hb hr (fun t ht hW => ⟨⟨(-102), (), rfl, (sp_n2 (an_0 hq) rfl), trivial⟩, hS.F ht⟩) hS.2.2 dX12_pay_79

theorem dX12_letters_0 : decode cX12_letters 0 = .ok (.iconst 0, 1) := by decide +kernel
theorem dX12_letters_1 : decode cX12_letters 1 = .ok (.istore_n 3, 1) := by decide +kernel
theorem dX12_letters_2 : decode cX12_letters 2 = .ok (.iconst 1, 1) := by decide +kernel
theorem dX12_letters_3 : decode cX12_letters 3 = .ok (.istore 4, 2) := by decide +kernel
theorem dX12_letters_5 : decode cX12_letters 5 = .ok (.lload_n 1, 1) := by decide +kernel
theorem dX12_letters_6 : decode cX12_letters 6 = .ok (.lstore 5, 2) := by decide +kernel
theorem dX12_letters_8 : decode cX12_letters 8 = .ok (.iconst 0, 1) := by decide +kernel
theorem dX12_letters_9 : decode cX12_letters 9 = .ok (.istore 7, 2) := by decide +kernel
theorem dX12_letters_11 : decode cX12_letters 11 = .ok (.iload 7, 2) := by decide +kernel
theorem dX12_letters_13 : decode cX12_letters 13 = .ok (.bipush 8, 2) := by decide +kernel
theorem dX12_letters_15 : decode cX12_letters 15 = .ok (.if_icmp .ge 68, 3) := by decide +kernel
theorem dX12_letters_18 : decode cX12_letters 18 = .ok (.lload 5, 2) := by decide +kernel
theorem dX12_letters_20 : decode cX12_letters 20 = .ok (.ldc2_w 61, 3) := by decide +kernel
theorem dX12_letters_23 : decode cX12_letters 23 = .ok (.land, 1) := by decide +kernel
theorem dX12_letters_24 : decode cX12_letters 24 = .ok (.l2i, 1) := by decide +kernel
theorem dX12_letters_25 : decode cX12_letters 25 = .ok (.istore 8, 2) := by decide +kernel
theorem dX12_letters_27 : decode cX12_letters 27 = .ok (.lload 5, 2) := by decide +kernel
theorem dX12_letters_29 : decode cX12_letters 29 = .ok (.bipush 8, 2) := by decide +kernel
theorem dX12_letters_31 : decode cX12_letters 31 = .ok (.lushr, 1) := by decide +kernel
theorem dX12_letters_32 : decode cX12_letters 32 = .ok (.lstore 5, 2) := by decide +kernel
theorem dX12_letters_34 : decode cX12_letters 34 = .ok (.iload 4, 2) := by decide +kernel
theorem dX12_letters_36 : decode cX12_letters 36 = .ok (.ifCond .eq 25, 3) := by decide +kernel
theorem dX12_letters_39 : decode cX12_letters 39 = .ok (.iload 8, 2) := by decide +kernel
theorem dX12_letters_41 : decode cX12_letters 41 = .ok (.bipush 126, 2) := by decide +kernel
theorem dX12_letters_43 : decode cX12_letters 43 = .ok (.if_icmp .gt 18, 3) := by decide +kernel
theorem dX12_letters_46 : decode cX12_letters 46 = .ok (.iload 8, 2) := by decide +kernel
theorem dX12_letters_48 : decode cX12_letters 48 = .ok (.ifCond .eq 9, 3) := by decide +kernel
theorem dX12_letters_51 : decode cX12_letters 51 = .ok (.iload_n 3, 1) := by decide +kernel
theorem dX12_letters_52 : decode cX12_letters 52 = .ok (.iload 7, 2) := by decide +kernel
theorem dX12_letters_54 : decode cX12_letters 54 = .ok (.if_icmp .ne 7, 3) := by decide +kernel
theorem dX12_letters_57 : decode cX12_letters 57 = .ok (.iconst 1, 1) := by decide +kernel
theorem dX12_letters_58 : decode cX12_letters 58 = .ok (.goto 4, 3) := by decide +kernel
theorem dX12_letters_61 : decode cX12_letters 61 = .ok (.iconst 0, 1) := by decide +kernel
theorem dX12_letters_62 : decode cX12_letters 62 = .ok (.istore 4, 2) := by decide +kernel
theorem dX12_letters_64 : decode cX12_letters 64 = .ok (.iload_n 3, 1) := by decide +kernel
theorem dX12_letters_65 : decode cX12_letters 65 = .ok (.iload 8, 2) := by decide +kernel
theorem dX12_letters_67 : decode cX12_letters 67 = .ok (.ifCond .le 7, 3) := by decide +kernel
theorem dX12_letters_70 : decode cX12_letters 70 = .ok (.iconst 1, 1) := by decide +kernel
theorem dX12_letters_71 : decode cX12_letters 71 = .ok (.goto 4, 3) := by decide +kernel
theorem dX12_letters_74 : decode cX12_letters 74 = .ok (.iconst 0, 1) := by decide +kernel
theorem dX12_letters_75 : decode cX12_letters 75 = .ok (.iadd, 1) := by decide +kernel
theorem dX12_letters_76 : decode cX12_letters 76 = .ok (.istore_n 3, 1) := by decide +kernel
theorem dX12_letters_77 : decode cX12_letters 77 = .ok (.iinc 7 1, 3) := by decide +kernel
theorem dX12_letters_80 : decode cX12_letters 80 = .ok (.goto (-69), 3) := by decide +kernel
theorem dX12_letters_83 : decode cX12_letters 83 = .ok (.iload 4, 2) := by decide +kernel
theorem dX12_letters_85 : decode cX12_letters 85 = .ok (.ifCond .ne 6, 3) := by decide +kernel
theorem dX12_letters_88 : decode cX12_letters 88 = .ok (.bipush (-102), 2) := by decide +kernel
theorem dX12_letters_90 : decode cX12_letters 90 = .ok (.ireturn, 1) := by decide +kernel
theorem dX12_letters_91 : decode cX12_letters 91 = .ok (.aload_n 0, 1) := by decide +kernel
theorem dX12_letters_92 : decode cX12_letters 92 = .ok (.getfield 63, 3) := by decide +kernel
theorem dX12_letters_95 : decode cX12_letters 95 = .ok (.iload_n 3, 1) := by decide +kernel
theorem dX12_letters_96 : decode cX12_letters 96 = .ok (.iadd, 1) := by decide +kernel
theorem dX12_letters_97 : decode cX12_letters 97 = .ok (.bipush 90, 2) := by decide +kernel
theorem dX12_letters_99 : decode cX12_letters 99 = .ok (.if_icmp .le 6, 3) := by decide +kernel
theorem dX12_letters_102 : decode cX12_letters 102 = .ok (.bipush (-104), 2) := by decide +kernel
theorem dX12_letters_104 : decode cX12_letters 104 = .ok (.ireturn, 1) := by decide +kernel
theorem dX12_letters_105 : decode cX12_letters 105 = .ok (.iconst 0, 1) := by decide +kernel
theorem dX12_letters_106 : decode cX12_letters 106 = .ok (.istore 7, 2) := by decide +kernel
theorem dX12_letters_108 : decode cX12_letters 108 = .ok (.iload 7, 2) := by decide +kernel
theorem dX12_letters_110 : decode cX12_letters 110 = .ok (.iload_n 3, 1) := by decide +kernel
theorem dX12_letters_111 : decode cX12_letters 111 = .ok (.if_icmp .ge 40, 3) := by decide +kernel
theorem dX12_letters_114 : decode cX12_letters 114 = .ok (.aload_n 0, 1) := by decide +kernel
theorem dX12_letters_115 : decode cX12_letters 115 = .ok (.getfield 7, 3) := by decide +kernel
theorem dX12_letters_118 : decode cX12_letters 118 = .ok (.aload_n 0, 1) := by decide +kernel
theorem dX12_letters_119 : decode cX12_letters 119 = .ok (.getfield 63, 3) := by decide +kernel
theorem dX12_letters_122 : decode cX12_letters 122 = .ok (.lload_n 1, 1) := by decide +kernel
theorem dX12_letters_123 : decode cX12_letters 123 = .ok (.bipush 8, 2) := by decide +kernel
theorem dX12_letters_125 : decode cX12_letters 125 = .ok (.iload 7, 2) := by decide +kernel
theorem dX12_letters_127 : decode cX12_letters 127 = .ok (.imul, 1) := by decide +kernel
theorem dX12_letters_128 : decode cX12_letters 128 = .ok (.lushr, 1) := by decide +kernel
theorem dX12_letters_129 : decode cX12_letters 129 = .ok (.ldc2_w 61, 3) := by decide +kernel
theorem dX12_letters_132 : decode cX12_letters 132 = .ok (.land, 1) := by decide +kernel
theorem dX12_letters_133 : decode cX12_letters 133 = .ok (.l2i, 1) := by decide +kernel
theorem dX12_letters_134 : decode cX12_letters 134 = .ok (.iastore, 1) := by decide +kernel
theorem dX12_letters_135 : decode cX12_letters 135 = .ok (.aload_n 0, 1) := by decide +kernel
theorem dX12_letters_136 : decode cX12_letters 136 = .ok (.dup, 1) := by decide +kernel
theorem dX12_letters_137 : decode cX12_letters 137 = .ok (.getfield 63, 3) := by decide +kernel
theorem dX12_letters_140 : decode cX12_letters 140 = .ok (.iconst 1, 1) := by decide +kernel
theorem dX12_letters_141 : decode cX12_letters 141 = .ok (.iadd, 1) := by decide +kernel
theorem dX12_letters_142 : decode cX12_letters 142 = .ok (.putfield 63, 3) := by decide +kernel
theorem dX12_letters_145 : decode cX12_letters 145 = .ok (.iinc 7 1, 3) := by decide +kernel
theorem dX12_letters_148 : decode cX12_letters 148 = .ok (.goto (-40), 3) := by decide +kernel
theorem dX12_letters_151 : decode cX12_letters 151 = .ok (.aload_n 0, 1) := by decide +kernel
theorem dX12_letters_152 : decode cX12_letters 152 = .ok (.getfield 63, 3) := by decide +kernel
theorem dX12_letters_155 : decode cX12_letters 155 = .ok (.ireturn, 1) := by decide +kernel
theorem kw_256 : (.fieldLink RX12 7 "NobodyChecksModel" "page" "[I" : Cond) ∈ gw_tbl := gw_in (by decide +kernel) (by decide +kernel)
theorem kw_257 : (.constantLong RX12 61 (255) : Cond) ∈ gw_tbl := gw_in (by decide +kernel) (by decide +kernel)

set_option maxHeartbeats 4000000 in
set_option maxRecDepth 100000 in
theorem m_letters (l : Launch) (D : va_G) (m0 : Nat) (mp : Nat) (mw : Nat) (mh : Nat) (mo : Nat) (m5 : Nat) (m6 : Nat) (m7 : Nat) (mk : Nat) (mn : Nat) (mq : Nat) (m8 : Nat) (m9 : Nat) (ma : Nat) (mb : Nat) (md : Nat) (cM : ClassId) (cf : Nat → Int32) (n0 : Nat) (hn0 : n0 < 2 ^ 64) (sz : Nat) : Met l yX12_letters (Cond.code yX12_letters cX12_letters 9 (some .int) :: gw_tbl) ({ frames := 0, cells := 0, slots := 0, locals := 0 }) (pc_M D [(cM, .int)] [(m0, .inr (12, [.ref mp, .int 0, .int 0, .int 0, .ref mw, .ref mh, .ref mo, .int 0, .int 0, .int 0, .int 0, .int 0, .int 0, .ref m5, .ref m6, .ref m7, .long 0, .int 0, .ref mk, .ref mn, .int 0, .ref mq, .ref m8, .ref m9, .int 0, .int 0, .int 0, .int 0, .ref ma, .int 0, .ref mb, .ref md, .long 0])), (mp, .inl (cM, 90, .inl cf))] sz [.ref m0, .long (lN n0)]) (va_Qi (fun (r : Int32) (u : Unit) => r = sp_let n0) (fun _ _ => True) (va_A [(m0, .inr (12, [.ref mp, .int 0, .int 0, .int 0, .ref mw, .ref mh, .ref mo, .int 0, .int 0, .int 0, .int 0, .int 0, .int 0, .ref m5, .ref m6, .ref m7, .long 0, .int 0, .ref mk, .ref mn, .int 0, .ref mq, .ref m8, .ref m9, .int 0, .int 0, .int 0, .int 0, .ref ma, .int 0, .ref mb, .ref md, .long 0])), (mp, .inl (cM, 90, .inl cf))] sz)) 0 0 (va_A [(m0, .inr (12, [.ref mp, .int 0, .int 0, .int 0, .ref mw, .ref mh, .ref mo, .int 0, .int 0, .int 0, .int 0, .int 0, .int 0, .ref m5, .ref m6, .ref m7, .long 0, .int 0, .ref mk, .ref mn, .int 0, .ref mq, .ref m8, .ref m9, .int 0, .int 0, .int 0, .int 0, .ref ma, .int 0, .ref mb, .ref md, .long 0])), (mp, .inl (cM, 90, .inl cf))] sz) := by
  refine Met.ofW (cc := cX12_letters) (maxL := 9) (ret := (some .int)) (by decide) rfl ?_
  intro p e s m args below meth c s₁ B hml hv
  obtain ⟨hargs, hsz, hP, hK, hD0⟩ := hv
  have hx := B.exec
  have hb := B.bytes
  have hr := B.returns
  have hts := atoms_spec (ws := Cond.code yX12_letters cX12_letters 9 (some .int) :: gw_tbl) B.pre
  have hg := fun (w : Cond) (h : w ∈ gw_tbl) => hts w (List.mem_cons_of_mem _ h)
  have hown : s.vm.findClass RX12 = some m.cls := findClass_of_methodNamed B.named
  have hlocks := B.notSynchronized
  subst hsz
  have hD := hD0.self (sz := s.heap.size)
  generalize hAe : va_A [(m0, .inr (12, [.ref mp, .int 0, .int 0, .int 0, .ref mw, .ref mh, .ref mo, .int 0, .int 0, .int 0, .int 0, .int 0, .int 0, .ref m5, .ref m6, .ref m7, .long 0, .int 0, .ref mk, .ref mn, .int 0, .ref mq, .ref m8, .ref m9, .int 0, .int 0, .int 0, .int 0, .ref ma, .int 0, .ref mb, .ref md, .long 0])), (mp, .inl (cM, 90, .inl cf))] s.heap.size = A at hD ⊢
  have hA : ∀ q : Nat, s.heap.size ≤ q → A q := fun q h => by rw [← hAe]; exact Or.inr h
  have hS : va_S A s.heap s.heap [] := va_S.rf
  have hP : va_P D vwCl [(m0, .inr (12, [.ref mp, .int 0, .int 0, .int 0, .ref mw, .ref mh, .ref mo, .int 0, .int 0, .int 0, .int 0, .int 0, .int 0, .ref m5, .ref m6, .ref m7, .long 0, .int 0, .ref mk, .ref mn, .int 0, .ref mq, .ref m8, .ref m9, .int 0, .int 0, .int 0, .int 0, .ref ma, .int 0, .ref mb, .ref md, .long 0])), (mp, .inl (cM, 90, .inl cf))] s.heap := hP
  have hl := lv_entry ([.ref m0, .long (lN n0)]) (n := 9) (Nat.le_of_ble_eq_true rfl)
  rw [show entryFrame m args 9 = F0 m 0 (lg_sl ([.ref m0, .long (lN n0)]) ++ List.replicate (9 - (lg_sl ([.ref m0, .long (lN n0)])).length) Slot.unset).toArray [] from by rw [hargs]; exact lg_entry_eq ..]
  generalize (lg_sl ([.ref m0, .long (lN n0)]) ++ List.replicate (9 - (lg_sl ([.ref m0, .long (lN n0)])).length) Slot.unset).toArray = ls at hl ⊢
  have hl : lv_has ls 9 [(0, .ref m0), (1, .long (lN n0))] := hl
  refine W_genQ (fun Q hQ => ?_)
  refine lv_iconst (v := 0) hx hb dX12_letters_0 (by decide) ?_
  refine lv_istore_n (lv' := [(3, .int 0), (0, .ref m0), (1, .long (lN n0))]) hx hb dX12_letters_1 rfl hl (by decide) rfl (fun ls hl => ?_)
  refine lv_iconst (v := 1) hx hb dX12_letters_2 (by decide) ?_
  refine lv_istore (lv' := [(4, .int 1), (3, .int 0), (0, .ref m0), (1, .long (lN n0))]) hx hb dX12_letters_3 hl (by decide) rfl (fun ls hl => ?_)
  refine lv_lload_n hx hb dX12_letters_5 rfl (lv_at hl 3 rfl) ?_
  refine lv_lstore (lv' := [(5, .long (lN n0)), (4, .int 1), (3, .int 0), (0, .ref m0), (1, .long (lN n0))]) hx hb dX12_letters_6 hl (by decide) rfl (fun ls hl => ?_)
  refine lv_iconst (v := 0) hx hb dX12_letters_8 (by decide) ?_
  refine lv_istore (lv' := [(7, .int 0), (5, .long (lN n0)), (4, .int 1), (3, .int 0), (0, .ref m0), (1, .long (lN n0))]) hx hb dX12_letters_9 hl (by decide) rfl (fun ls hl => ?_)
  have LOOP11 : ∀ (n : Nat) (k : Nat) (good : Int32) (many : Int32), k ≤ 8 → 9 ≤ k + n → ml_go n0 (8 - k) k good many = ml_go n0 8 0 1 0 → ∀ (H : Heap) (locs : List Loc) (ls : Array Slot), va_P D vwCl [(m0, .inr (12, [.ref mp, .int 0, .int 0, .int 0, .ref mw, .ref mh, .ref mo, .int 0, .int 0, .int 0, .int 0, .int 0, .int 0, .ref m5, .ref m6, .ref m7, .long 0, .int 0, .ref mk, .ref mn, .int 0, .ref mq, .ref m8, .ref m9, .int 0, .int 0, .int 0, .int 0, .ref ma, .int 0, .ref mb, .ref md, .long 0])), (mp, .inl (cM, 90, .inl cf))] H → va_D A [(m0, .inr (12, [.ref mp, .int 0, .int 0, .int 0, .ref mw, .ref mh, .ref mo, .int 0, .int 0, .int 0, .int 0, .int 0, .int 0, .ref m5, .ref m6, .ref m7, .long 0, .int 0, .ref mk, .ref mn, .int 0, .ref mq, .ref m8, .ref m9, .int 0, .int 0, .int 0, .int 0, .ref ma, .int 0, .ref mb, .ref md, .long 0])), (mp, .inl (cM, 90, .inl cf))] → va_S A s.heap H locs → lv_has ls 9 [(7, .int (nI k)), (5, .long (lN (n0 / 2 ^ (8 * k)))), (4, .int good), (3, .int many), (0, .ref m0), (1, .long (lN n0))] → W p l e ({ frames := 0, cells := 0, slots := 0, locals := 0 } : Room) s m args below meth c H locs 0 0 Q (F0 m 11 ls []) := by
    intro n
    induction n with
    | zero =>
      intro k good many hk hn hI H locs ls hP hD hS hl
      exact absurd hn (by omega)
    | succ n ih11 =>
      intro k good many hk hn hI H locs ls hP hD hS hl
      refine lv_iload hx hb dX12_letters_11 (lv_at hl 0 rfl) ?_
      refine lv_bipush (v := 8) hx hb dX12_letters_13 (by decide) ?_
      refine lv_icmp_ge (tgt := 83) hx hb dX12_letters_15 (by decide) (fun c_15 => ?_) (fun c_15 => ?_)
      · rw [ml_e (show ¬ k < 8 from fun q => absurd c_15 (nI_ge (b := 8) q (by decide)))] at hI
        have hg1 : (ml_go n0 8 0 1 0).1 = good := by rw [← hI]
        have hm1 : (ml_go n0 8 0 1 0).2 = many := by rw [← hI]
        refine lv_iload hx hb dX12_letters_83 (lv_at hl 2 rfl) ?_
        refine lv_if_ne (tgt := 91) hx hb dX12_letters_85 (by decide) (fun c_85 => ?_) (fun c_85 => ?_)
        · obtain ⟨tt, ht8, et, el⟩ := ml_fine (n := n0) (by rw [hg1]; exact c_85)
          obtain rfl : many = nI tt := hm1.symm.trans et
          refine lv_aload_n hx hb dX12_letters_91 rfl (lv_at hl 4 rfl) ?_
          refine va_get (D := D) (ci := 12) (v := .int 0) (C := RX12) (T := TX12) (N := 33) hx hb hg gwX12 hown hK hP 0 rfl rfl 1 (by decide) (hg _ kw_232) (fun _ h9 => h9) rfl dX12_letters_92 ?_
          refine lv_iload_n hx hb dX12_letters_95 rfl (lv_at hl 3 rfl) ?_
          refine lv_iadd hx hb dX12_letters_96 ?_
          refine lv_topi (fun z_96 e_96 => ?_)
          refine lv_bipush (v := 90) hx hb dX12_letters_97 (by decide) ?_
          refine lv_icmp_le (tgt := 105) hx hb dX12_letters_99 (by decide) (fun c_99 => ?_) (fun c_99 => absurd (le90 ht8 e_96) c_99)
          refine lv_iconst (v := 0) hx hb dX12_letters_105 (by decide) ?_
          refine lv_istore (lv' := [(7, .int 0), (5, .long (lN (n0 / 2 ^ (8 * k)))), (4, .int good), (3, .int (nI tt)), (0, .ref m0), (1, .long (lN n0))]) hx hb dX12_letters_106 hl (by decide) rfl (fun ls hl => ?_)
          have LOOP108 : ∀ (n : Nat) (j : Nat) (cf : Nat → Int32), j ≤ tt → tt + 1 ≤ j + n → ∀ (H : Heap) (locs : List Loc) (ls : Array Slot), va_P D vwCl [(m0, .inr (12, [.ref mp, .int (nI j), .int 0, .int 0, .ref mw, .ref mh, .ref mo, .int 0, .int 0, .int 0, .int 0, .int 0, .int 0, .ref m5, .ref m6, .ref m7, .long 0, .int 0, .ref mk, .ref mn, .int 0, .ref mq, .ref m8, .ref m9, .int 0, .int 0, .int 0, .int 0, .ref ma, .int 0, .ref mb, .ref md, .long 0])), (mp, .inl (cM, 90, .inl cf))] H → va_D A [(m0, .inr (12, [.ref mp, .int (nI j), .int 0, .int 0, .ref mw, .ref mh, .ref mo, .int 0, .int 0, .int 0, .int 0, .int 0, .int 0, .ref m5, .ref m6, .ref m7, .long 0, .int 0, .ref mk, .ref mn, .int 0, .ref mq, .ref m8, .ref m9, .int 0, .int 0, .int 0, .int 0, .ref ma, .int 0, .ref mb, .ref md, .long 0])), (mp, .inl (cM, 90, .inl cf))] → va_S A s.heap H locs → lv_has ls 9 [(7, .int (nI j)), (3, .int (nI tt)), (0, .ref m0), (1, .long (lN n0))] → W p l e ({ frames := 0, cells := 0, slots := 0, locals := 0 } : Room) s m args below meth c H locs 0 0 Q (F0 m 108 ls []) := by
            intro n
            induction n with
            | zero =>
              intro j cf hj hn H locs ls hP hD hS hl
              exact absurd hn (by omega)
            | succ n ih108 =>
              intro j cf hj hn H locs ls hP hD hS hl
              refine lv_iload hx hb dX12_letters_108 (lv_at hl 0 rfl) ?_
              refine lv_iload_n hx hb dX12_letters_110 rfl (lv_at hl 1 rfl) ?_
              refine lv_icmp_ge (tgt := 151) hx hb dX12_letters_111 (by decide) (fun c_111 => ?_) (fun c_111 => ?_)
              · refine lv_aload_n hx hb dX12_letters_151 rfl (lv_at hl 2 rfl) ?_
                refine va_get (D := D) (ci := 12) (v := .int (nI j)) (C := RX12) (T := TX12) (N := 33) hx hb hg gwX12 hown hK hP 0 rfl rfl 1 (by decide) (hg _ kw_232) (fun _ h9 => h9) rfl dX12_letters_152 ?_
                obtain rfl : j = tt := by
                  rcases Nat.lt_or_ge j tt with q | q
                  · exact absurd c_111 (nI_ge q (by omega))
                  · omega
                subst hQ
                refine W.widen (k := 0) (n := 0) (Nat.le_of_ble_eq_true rfl) (Nat.le_of_ble_eq_true rfl) ?_
                exact W.iret (v := (nI j)) hx hb hr (fun t ht hW => ⟨⟨(nI j), (), rfl, el, trivial⟩, hS.F ht⟩) hS.2.2 dX12_letters_155
              · have hjt : j < tt := by
                  rcases Nat.lt_or_ge j tt with q | q
                  · exact q
                  · exact absurd (nI_le q (by omega)) c_111
                refine lv_aload_n hx hb dX12_letters_114 rfl (lv_at hl 2 rfl) ?_
                refine va_get (D := D) (ci := 12) (v := .ref mp) (C := RX12) (T := TX12) (N := 33) hx hb hg gwX12 hown hK hP 0 rfl rfl 0 (by decide) (hg _ kw_256) (fun _ h9 => h9) rfl dX12_letters_115 ?_
                refine lv_aload_n hx hb dX12_letters_118 rfl (lv_at hl 2 rfl) ?_
                refine va_get (D := D) (ci := 12) (v := .int (nI j)) (C := RX12) (T := TX12) (N := 33) hx hb hg gwX12 hown hK hP 0 rfl rfl 1 (by decide) (hg _ kw_232) (fun _ h9 => h9) rfl dX12_letters_119 ?_
                refine lv_lload_n hx hb dX12_letters_122 rfl (lv_at hl 3 rfl) ?_
                refine lv_bipush (v := 8) hx hb dX12_letters_123 (by decide) ?_
                refine lv_iload hx hb dX12_letters_125 (lv_at hl 0 rfl) ?_
                refine lv_imul hx hb dX12_letters_127 ?_
                refine lv_topi (fun z_127 e_127 => ?_)
                refine lv_lushr hx hb dX12_letters_128 rfl ?_
                refine lv_topl (fun z_128 e_128 => ?_)
                refine lv_ldc2 hx hb hown (hg _ kw_257) dX12_letters_129 ?_
                refine lv_land hx hb dX12_letters_132 ?_
                refine lv_topl (fun z_132 e_132 => ?_)
                refine lv_l2i hx hb dX12_letters_133 rfl ?_
                refine lv_topi (fun z_133 e_133 => ?_)
                refine va_iast hx hb hK hP hD hS 1 0 rfl rfl (vp_in_nI (show j < 90 by omega) (by decide)) dX12_letters_134 (fun H locs hP hD hS => ?_)
                generalize (upd cf (nI j).toNatClampNeg z_133) = f_134 at hP hD
                have hP : va_P D vwCl [(m0, .inr (12, [.ref mp, .int (nI j), .int 0, .int 0, .ref mw, .ref mh, .ref mo, .int 0, .int 0, .int 0, .int 0, .int 0, .int 0, .ref m5, .ref m6, .ref m7, .long 0, .int 0, .ref mk, .ref mn, .int 0, .ref mq, .ref m8, .ref m9, .int 0, .int 0, .int 0, .int 0, .ref ma, .int 0, .ref mb, .ref md, .long 0])), (mp, .inl (cM, 90, .inl f_134))] H := hP
                have hD : va_D A [(m0, .inr (12, [.ref mp, .int (nI j), .int 0, .int 0, .ref mw, .ref mh, .ref mo, .int 0, .int 0, .int 0, .int 0, .int 0, .int 0, .ref m5, .ref m6, .ref m7, .long 0, .int 0, .ref mk, .ref mn, .int 0, .ref mq, .ref m8, .ref m9, .int 0, .int 0, .int 0, .int 0, .ref ma, .int 0, .ref mb, .ref md, .long 0])), (mp, .inl (cM, 90, .inl f_134))] := hD
                refine lv_aload_n hx hb dX12_letters_135 rfl (lv_at hl 2 rfl) ?_
                refine lv_dup hx hb dX12_letters_136 rfl ?_
                refine va_get (D := D) (ci := 12) (v := .int (nI j)) (C := RX12) (T := TX12) (N := 33) hx hb hg gwX12 hown hK hP 0 rfl rfl 1 (by decide) (hg _ kw_232) (fun _ h9 => h9) rfl dX12_letters_137 ?_
                refine lv_iconst (v := 1) hx hb dX12_letters_140 (by decide) ?_
                refine lv_iadd hx hb dX12_letters_141 ?_
                refine lv_topi (fun z_141 e_141 => ?_)
                refine va_put (D := D) (ci := 12) (v := .int z_141) (ty := .int) (C := RX12) (T := TX12) (N := 33) hx hb hg gwX12 tyX12 tyX12_ok nmX12 hown hK hP hD hS 0 rfl rfl 1 (by decide) (hg _ kw_232) (fun _ h9 => h9) rfl (by decide +kernel) rfl rfl (Nat.le_of_ble_eq_true rfl) dX12_letters_142 (fun H locs hP hD hS => ?_)
                have hP : va_P D vwCl [(m0, .inr (12, [.ref mp, .int z_141, .int 0, .int 0, .ref mw, .ref mh, .ref mo, .int 0, .int 0, .int 0, .int 0, .int 0, .int 0, .ref m5, .ref m6, .ref m7, .long 0, .int 0, .ref mk, .ref mn, .int 0, .ref mq, .ref m8, .ref m9, .int 0, .int 0, .int 0, .int 0, .ref ma, .int 0, .ref mb, .ref md, .long 0])), (mp, .inl (cM, 90, .inl f_134))] H := hP
                have hD : va_D A [(m0, .inr (12, [.ref mp, .int z_141, .int 0, .int 0, .ref mw, .ref mh, .ref mo, .int 0, .int 0, .int 0, .int 0, .int 0, .int 0, .ref m5, .ref m6, .ref m7, .long 0, .int 0, .ref mk, .ref mn, .int 0, .ref mq, .ref m8, .ref m9, .int 0, .int 0, .int 0, .int 0, .ref ma, .int 0, .ref mb, .ref md, .long 0])), (mp, .inl (cM, 90, .inl f_134))] := hD
                obtain ⟨z_145, e_145⟩ : ∃ y : Int32, y = (nI j) + 1 := ⟨_, rfl⟩
                refine lv_iinc (v := z_145) (lv' := [(7, .int z_145), (3, .int (nI tt)), (0, .ref m0), (1, .long (lN n0))]) hx hb dX12_letters_145 hl (k := 0) rfl (by rw [e_145]; rfl) (by decide) rfl (fun ls hl => ?_)
                refine lv_goto (tgt := 108) hx hb dX12_letters_148 (by decide) ?_
                obtain rfl : z_145 = nI (j + 1) := e_145.trans (nI_1 j)
                obtain rfl : z_141 = nI (j + 1) := e_141.trans (nI_1 j)
                exact ih108 (j + 1) f_134 (by omega) (by omega) _ _ ls hP hD hS (lv_sub hl [0, 1, 2, 3] rfl)
          exact LOOP108 (tt + 1) 0 cf (by omega) (by omega) _ _ ls hP hD hS (lv_sub hl [0, 3, 4, 5] rfl)
        · refine lv_bipush (v := (-102)) hx hb dX12_letters_88 (by decide) ?_
          subst hQ
          refine W.widen (k := 0) (n := 0) (Nat.le_of_ble_eq_true rfl) (Nat.le_of_ble_eq_true rfl) ?_
          exact W.iret (v := (-102)) hx hb hr (fun t ht hW => ⟨⟨(-102), (), rfl, (ml_bad (hg1.trans c_85)), trivial⟩, hS.F ht⟩) hS.2.2 dX12_letters_90
      · have hk8 : k < 8 := by
          rcases Nat.lt_or_ge k 8 with q | q
          · exact q
          · exact absurd (show (8 : Int32) ≤ nI k from nI_le (a := 8) q (by omega)) c_15
        refine lv_lload hx hb dX12_letters_18 (lv_at hl 1 rfl) ?_
        refine lv_ldc2 hx hb hown (hg _ kw_257) dX12_letters_20 ?_
        refine lv_land hx hb dX12_letters_23 ?_
        refine lv_topl (fun z_23 e_23 => ?_)
        refine lv_l2i hx hb dX12_letters_24 rfl ?_
        refine lv_topi (fun z_24 e_24 => ?_)
        refine lv_istore (lv' := [(8, .int z_24), (7, .int (nI k)), (5, .long (lN (n0 / 2 ^ (8 * k)))), (4, .int good), (3, .int many), (0, .ref m0), (1, .long (lN n0))]) hx hb dX12_letters_25 hl (by decide) rfl (fun ls hl => ?_)
        refine lv_lload hx hb dX12_letters_27 (lv_at hl 2 rfl) ?_
        refine lv_bipush (v := 8) hx hb dX12_letters_29 (by decide) ?_
        refine lv_lushr hx hb dX12_letters_31 rfl ?_
        refine lv_topl (fun z_31 e_31 => ?_)
        refine lv_lstore (lv' := [(5, .long z_31), (8, .int z_24), (7, .int (nI k)), (4, .int good), (3, .int many), (0, .ref m0), (1, .long (lN n0))]) hx hb dX12_letters_32 hl (by decide) rfl (fun ls hl => ?_)
        refine lv_iload hx hb dX12_letters_34 (lv_at hl 3 rfl) ?_
        refine lv_if_eq (tgt := 61) hx hb dX12_letters_36 (by decide) (fun c_36 => ?_) (fun c_36 => ?_)
        · refine lv_iconst (v := 0) hx hb dX12_letters_61 (by decide) ?_
          refine lv_istore (lv' := [(4, .int 0), (5, .long z_31), (8, .int z_24), (7, .int (nI k)), (3, .int many), (0, .ref m0), (1, .long (lN n0))]) hx hb dX12_letters_62 hl (by decide) rfl (fun ls hl => ?_)
          refine lv_iload_n hx hb dX12_letters_64 rfl (lv_at hl 4 rfl) ?_
          refine lv_iload hx hb dX12_letters_65 (lv_at hl 2 rfl) ?_
          refine lv_if_le (tgt := 74) hx hb dX12_letters_67 (by decide) (fun c_67 => ?_) (fun c_67 => ?_)
          · refine lv_iconst (v := 0) hx hb dX12_letters_74 (by decide) ?_
            refine lv_iadd hx hb dX12_letters_75 ?_
            refine lv_topi (fun z_75 e_75 => ?_)
            refine lv_istore_n (lv' := [(3, .int z_75), (4, .int 0), (5, .long z_31), (8, .int z_24), (7, .int (nI k)), (0, .ref m0), (1, .long (lN n0))]) hx hb dX12_letters_76 rfl hl (by decide) rfl (fun ls hl => ?_)
            obtain ⟨z_77, e_77⟩ : ∃ y : Int32, y = (nI k) + 1 := ⟨_, rfl⟩
            refine lv_iinc (v := z_77) (lv' := [(7, .int z_77), (3, .int z_75), (4, .int 0), (5, .long z_31), (8, .int z_24), (0, .ref m0), (1, .long (lN n0))]) hx hb dX12_letters_77 hl (k := 4) rfl (by rw [e_77]; rfl) (by decide) rfl (fun ls hl => ?_)
            refine lv_goto (tgt := 11) hx hb dX12_letters_80 (by decide) ?_
            obtain rfl : z_77 = nI (k + 1) := e_77.trans (nI_1 k)
            obtain rfl : z_31 = lN (n0 / 2 ^ (8 * (k + 1))) := ms_eq hn0 e_31
            have hb8 := ma_eq hn0 e_23 e_24
            have hg : (if ¬ good = 0 ∧ by8 n0 k ≤ 126 ∧ (by8 n0 k = 0 ∨ many = nI k) then (1 : Int32) else 0) = 0 := by
              exact if_neg (fun q => q.1 c_36)
            have hm : (many + if 0 < by8 n0 k then (1 : Int32) else 0) = z_75 := by
              rw [e_75, if_neg]; intro q; rw [← hb8, fa_lt] at q; rw [fa_le] at c_67; omega
            rw [ml_x hk8, hg, hm] at hI
            exact ih11 (k + 1) 0 z_75 (by omega) (by omega) hI _ _ ls hP hD hS (lv_sub hl [0, 3, 2, 1, 5, 6] rfl)
          · refine lv_iconst (v := 1) hx hb dX12_letters_70 (by decide) ?_
            refine lv_goto (tgt := 75) hx hb dX12_letters_71 (by decide) ?_
            refine lv_iadd hx hb dX12_letters_75 ?_
            refine lv_topi (fun z_75 e_75 => ?_)
            refine lv_istore_n (lv' := [(3, .int z_75), (4, .int 0), (5, .long z_31), (8, .int z_24), (7, .int (nI k)), (0, .ref m0), (1, .long (lN n0))]) hx hb dX12_letters_76 rfl hl (by decide) rfl (fun ls hl => ?_)
            obtain ⟨z_77, e_77⟩ : ∃ y : Int32, y = (nI k) + 1 := ⟨_, rfl⟩
            refine lv_iinc (v := z_77) (lv' := [(7, .int z_77), (3, .int z_75), (4, .int 0), (5, .long z_31), (8, .int z_24), (0, .ref m0), (1, .long (lN n0))]) hx hb dX12_letters_77 hl (k := 4) rfl (by rw [e_77]; rfl) (by decide) rfl (fun ls hl => ?_)
            refine lv_goto (tgt := 11) hx hb dX12_letters_80 (by decide) ?_
            obtain rfl : z_77 = nI (k + 1) := e_77.trans (nI_1 k)
            obtain rfl : z_31 = lN (n0 / 2 ^ (8 * (k + 1))) := ms_eq hn0 e_31
            have hb8 := ma_eq hn0 e_23 e_24
            have hg : (if ¬ good = 0 ∧ by8 n0 k ≤ 126 ∧ (by8 n0 k = 0 ∨ many = nI k) then (1 : Int32) else 0) = 0 := by
              exact if_neg (fun q => q.1 c_36)
            have hm : (many + if 0 < by8 n0 k then (1 : Int32) else 0) = z_75 := by
              rw [e_75, if_pos]; rw [← hb8, fa_lt]; rw [fa_le] at c_67; omega
            rw [ml_x hk8, hg, hm] at hI
            exact ih11 (k + 1) 0 z_75 (by omega) (by omega) hI _ _ ls hP hD hS (lv_sub hl [0, 3, 2, 1, 5, 6] rfl)
        · refine lv_iload hx hb dX12_letters_39 (lv_at hl 1 rfl) ?_
          refine lv_bipush (v := 126) hx hb dX12_letters_41 (by decide) ?_
          refine lv_icmp_gt (tgt := 61) hx hb dX12_letters_43 (by decide) (fun c_43 => ?_) (fun c_43 => ?_)
          · refine lv_iconst (v := 0) hx hb dX12_letters_61 (by decide) ?_
            refine lv_istore (lv' := [(4, .int 0), (5, .long z_31), (8, .int z_24), (7, .int (nI k)), (3, .int many), (0, .ref m0), (1, .long (lN n0))]) hx hb dX12_letters_62 hl (by decide) rfl (fun ls hl => ?_)
            refine lv_iload_n hx hb dX12_letters_64 rfl (lv_at hl 4 rfl) ?_
            refine lv_iload hx hb dX12_letters_65 (lv_at hl 2 rfl) ?_
            refine lv_if_le (tgt := 74) hx hb dX12_letters_67 (by decide) (fun c_67 => ?_) (fun c_67 => ?_)
            · refine lv_iconst (v := 0) hx hb dX12_letters_74 (by decide) ?_
              refine lv_iadd hx hb dX12_letters_75 ?_
              refine lv_topi (fun z_75 e_75 => ?_)
              refine lv_istore_n (lv' := [(3, .int z_75), (4, .int 0), (5, .long z_31), (8, .int z_24), (7, .int (nI k)), (0, .ref m0), (1, .long (lN n0))]) hx hb dX12_letters_76 rfl hl (by decide) rfl (fun ls hl => ?_)
              obtain ⟨z_77, e_77⟩ : ∃ y : Int32, y = (nI k) + 1 := ⟨_, rfl⟩
              refine lv_iinc (v := z_77) (lv' := [(7, .int z_77), (3, .int z_75), (4, .int 0), (5, .long z_31), (8, .int z_24), (0, .ref m0), (1, .long (lN n0))]) hx hb dX12_letters_77 hl (k := 4) rfl (by rw [e_77]; rfl) (by decide) rfl (fun ls hl => ?_)
              refine lv_goto (tgt := 11) hx hb dX12_letters_80 (by decide) ?_
              obtain rfl : z_77 = nI (k + 1) := e_77.trans (nI_1 k)
              obtain rfl : z_31 = lN (n0 / 2 ^ (8 * (k + 1))) := ms_eq hn0 e_31
              have hb8 := ma_eq hn0 e_23 e_24
              have hg : (if ¬ good = 0 ∧ by8 n0 k ≤ 126 ∧ (by8 n0 k = 0 ∨ many = nI k) then (1 : Int32) else 0) = 0 := by
                refine if_neg (fun q => ?_)
                have q2 := q.2.1; rw [← hb8, fa_le] at q2; rw [fa_lt] at c_43; omega
              have hm : (many + if 0 < by8 n0 k then (1 : Int32) else 0) = z_75 := by
                rw [e_75, if_neg]; intro q; rw [← hb8, fa_lt] at q; rw [fa_le] at c_67; omega
              rw [ml_x hk8, hg, hm] at hI
              exact ih11 (k + 1) 0 z_75 (by omega) (by omega) hI _ _ ls hP hD hS (lv_sub hl [0, 3, 2, 1, 5, 6] rfl)
            · refine lv_iconst (v := 1) hx hb dX12_letters_70 (by decide) ?_
              refine lv_goto (tgt := 75) hx hb dX12_letters_71 (by decide) ?_
              refine lv_iadd hx hb dX12_letters_75 ?_
              refine lv_topi (fun z_75 e_75 => ?_)
              refine lv_istore_n (lv' := [(3, .int z_75), (4, .int 0), (5, .long z_31), (8, .int z_24), (7, .int (nI k)), (0, .ref m0), (1, .long (lN n0))]) hx hb dX12_letters_76 rfl hl (by decide) rfl (fun ls hl => ?_)
              obtain ⟨z_77, e_77⟩ : ∃ y : Int32, y = (nI k) + 1 := ⟨_, rfl⟩
              refine lv_iinc (v := z_77) (lv' := [(7, .int z_77), (3, .int z_75), (4, .int 0), (5, .long z_31), (8, .int z_24), (0, .ref m0), (1, .long (lN n0))]) hx hb dX12_letters_77 hl (k := 4) rfl (by rw [e_77]; rfl) (by decide) rfl (fun ls hl => ?_)
              refine lv_goto (tgt := 11) hx hb dX12_letters_80 (by decide) ?_
              obtain rfl : z_77 = nI (k + 1) := e_77.trans (nI_1 k)
              obtain rfl : z_31 = lN (n0 / 2 ^ (8 * (k + 1))) := ms_eq hn0 e_31
              have hb8 := ma_eq hn0 e_23 e_24
              have hg : (if ¬ good = 0 ∧ by8 n0 k ≤ 126 ∧ (by8 n0 k = 0 ∨ many = nI k) then (1 : Int32) else 0) = 0 := by
                refine if_neg (fun q => ?_)
                have q2 := q.2.1; rw [← hb8, fa_le] at q2; rw [fa_lt] at c_43; omega
              have hm : (many + if 0 < by8 n0 k then (1 : Int32) else 0) = z_75 := by
                rw [e_75, if_pos]; rw [← hb8, fa_lt]; rw [fa_le] at c_67; omega
              rw [ml_x hk8, hg, hm] at hI
              exact ih11 (k + 1) 0 z_75 (by omega) (by omega) hI _ _ ls hP hD hS (lv_sub hl [0, 3, 2, 1, 5, 6] rfl)
          · refine lv_iload hx hb dX12_letters_46 (lv_at hl 1 rfl) ?_
            refine lv_if_eq (tgt := 57) hx hb dX12_letters_48 (by decide) (fun c_48 => ?_) (fun c_48 => ?_)
            · refine lv_iconst (v := 1) hx hb dX12_letters_57 (by decide) ?_
              refine lv_goto (tgt := 62) hx hb dX12_letters_58 (by decide) ?_
              refine lv_istore (lv' := [(4, .int 1), (5, .long z_31), (8, .int z_24), (7, .int (nI k)), (3, .int many), (0, .ref m0), (1, .long (lN n0))]) hx hb dX12_letters_62 hl (by decide) rfl (fun ls hl => ?_)
              refine lv_iload_n hx hb dX12_letters_64 rfl (lv_at hl 4 rfl) ?_
              refine lv_iload hx hb dX12_letters_65 (lv_at hl 2 rfl) ?_
              refine lv_if_le (tgt := 74) hx hb dX12_letters_67 (by decide) (fun c_67 => ?_) (fun c_67 => ?_)
              · refine lv_iconst (v := 0) hx hb dX12_letters_74 (by decide) ?_
                refine lv_iadd hx hb dX12_letters_75 ?_
                refine lv_topi (fun z_75 e_75 => ?_)
                refine lv_istore_n (lv' := [(3, .int z_75), (4, .int 1), (5, .long z_31), (8, .int z_24), (7, .int (nI k)), (0, .ref m0), (1, .long (lN n0))]) hx hb dX12_letters_76 rfl hl (by decide) rfl (fun ls hl => ?_)
                obtain ⟨z_77, e_77⟩ : ∃ y : Int32, y = (nI k) + 1 := ⟨_, rfl⟩
                refine lv_iinc (v := z_77) (lv' := [(7, .int z_77), (3, .int z_75), (4, .int 1), (5, .long z_31), (8, .int z_24), (0, .ref m0), (1, .long (lN n0))]) hx hb dX12_letters_77 hl (k := 4) rfl (by rw [e_77]; rfl) (by decide) rfl (fun ls hl => ?_)
                refine lv_goto (tgt := 11) hx hb dX12_letters_80 (by decide) ?_
                obtain rfl : z_77 = nI (k + 1) := e_77.trans (nI_1 k)
                obtain rfl : z_31 = lN (n0 / 2 ^ (8 * (k + 1))) := ms_eq hn0 e_31
                have hb8 := ma_eq hn0 e_23 e_24
                have hg : (if ¬ good = 0 ∧ by8 n0 k ≤ 126 ∧ (by8 n0 k = 0 ∨ many = nI k) then (1 : Int32) else 0) = 1 := by
                  refine if_pos ⟨c_36, ?_, Or.inl (hb8 ▸ c_48)⟩
                  rw [← hb8, fa_le]; rw [fa_lt] at c_43; omega
                have hm : (many + if 0 < by8 n0 k then (1 : Int32) else 0) = z_75 := by
                  rw [e_75, if_neg]; intro q; rw [← hb8, fa_lt] at q; rw [fa_le] at c_67; omega
                rw [ml_x hk8, hg, hm] at hI
                exact ih11 (k + 1) 1 z_75 (by omega) (by omega) hI _ _ ls hP hD hS (lv_sub hl [0, 3, 2, 1, 5, 6] rfl)
              · refine lv_iconst (v := 1) hx hb dX12_letters_70 (by decide) ?_
                refine lv_goto (tgt := 75) hx hb dX12_letters_71 (by decide) ?_
                refine lv_iadd hx hb dX12_letters_75 ?_
                refine lv_topi (fun z_75 e_75 => ?_)
                refine lv_istore_n (lv' := [(3, .int z_75), (4, .int 1), (5, .long z_31), (8, .int z_24), (7, .int (nI k)), (0, .ref m0), (1, .long (lN n0))]) hx hb dX12_letters_76 rfl hl (by decide) rfl (fun ls hl => ?_)
                obtain ⟨z_77, e_77⟩ : ∃ y : Int32, y = (nI k) + 1 := ⟨_, rfl⟩
                refine lv_iinc (v := z_77) (lv' := [(7, .int z_77), (3, .int z_75), (4, .int 1), (5, .long z_31), (8, .int z_24), (0, .ref m0), (1, .long (lN n0))]) hx hb dX12_letters_77 hl (k := 4) rfl (by rw [e_77]; rfl) (by decide) rfl (fun ls hl => ?_)
                refine lv_goto (tgt := 11) hx hb dX12_letters_80 (by decide) ?_
                obtain rfl : z_77 = nI (k + 1) := e_77.trans (nI_1 k)
                obtain rfl : z_31 = lN (n0 / 2 ^ (8 * (k + 1))) := ms_eq hn0 e_31
                have hb8 := ma_eq hn0 e_23 e_24
                have hg : (if ¬ good = 0 ∧ by8 n0 k ≤ 126 ∧ (by8 n0 k = 0 ∨ many = nI k) then (1 : Int32) else 0) = 1 := by
                  refine if_pos ⟨c_36, ?_, Or.inl (hb8 ▸ c_48)⟩
                  rw [← hb8, fa_le]; rw [fa_lt] at c_43; omega
                have hm : (many + if 0 < by8 n0 k then (1 : Int32) else 0) = z_75 := by
                  rw [e_75, if_pos]; rw [← hb8, fa_lt]; rw [fa_le] at c_67; omega
                rw [ml_x hk8, hg, hm] at hI
                exact ih11 (k + 1) 1 z_75 (by omega) (by omega) hI _ _ ls hP hD hS (lv_sub hl [0, 3, 2, 1, 5, 6] rfl)
            · refine lv_iload_n hx hb dX12_letters_51 rfl (lv_at hl 4 rfl) ?_
              refine lv_iload hx hb dX12_letters_52 (lv_at hl 2 rfl) ?_
              refine lv_icmp_ne (tgt := 61) hx hb dX12_letters_54 (by decide) (fun c_54 => ?_) (fun c_54 => ?_)
              · refine lv_iconst (v := 0) hx hb dX12_letters_61 (by decide) ?_
                refine lv_istore (lv' := [(4, .int 0), (5, .long z_31), (8, .int z_24), (7, .int (nI k)), (3, .int many), (0, .ref m0), (1, .long (lN n0))]) hx hb dX12_letters_62 hl (by decide) rfl (fun ls hl => ?_)
                refine lv_iload_n hx hb dX12_letters_64 rfl (lv_at hl 4 rfl) ?_
                refine lv_iload hx hb dX12_letters_65 (lv_at hl 2 rfl) ?_
                refine lv_if_le (tgt := 74) hx hb dX12_letters_67 (by decide) (fun c_67 => ?_) (fun c_67 => ?_)
                · refine lv_iconst (v := 0) hx hb dX12_letters_74 (by decide) ?_
                  refine lv_iadd hx hb dX12_letters_75 ?_
                  refine lv_topi (fun z_75 e_75 => ?_)
                  refine lv_istore_n (lv' := [(3, .int z_75), (4, .int 0), (5, .long z_31), (8, .int z_24), (7, .int (nI k)), (0, .ref m0), (1, .long (lN n0))]) hx hb dX12_letters_76 rfl hl (by decide) rfl (fun ls hl => ?_)
                  obtain ⟨z_77, e_77⟩ : ∃ y : Int32, y = (nI k) + 1 := ⟨_, rfl⟩
                  refine lv_iinc (v := z_77) (lv' := [(7, .int z_77), (3, .int z_75), (4, .int 0), (5, .long z_31), (8, .int z_24), (0, .ref m0), (1, .long (lN n0))]) hx hb dX12_letters_77 hl (k := 4) rfl (by rw [e_77]; rfl) (by decide) rfl (fun ls hl => ?_)
                  refine lv_goto (tgt := 11) hx hb dX12_letters_80 (by decide) ?_
                  obtain rfl : z_77 = nI (k + 1) := e_77.trans (nI_1 k)
                  obtain rfl : z_31 = lN (n0 / 2 ^ (8 * (k + 1))) := ms_eq hn0 e_31
                  have hb8 := ma_eq hn0 e_23 e_24
                  have hg : (if ¬ good = 0 ∧ by8 n0 k ≤ 126 ∧ (by8 n0 k = 0 ∨ many = nI k) then (1 : Int32) else 0) = 0 := by
                    exact if_neg (fun q => q.2.2.elim (fun q => c_48 (hb8 ▸ q)) c_54)
                  have hm : (many + if 0 < by8 n0 k then (1 : Int32) else 0) = z_75 := by
                    rw [e_75, if_neg]; intro q; rw [← hb8, fa_lt] at q; rw [fa_le] at c_67; omega
                  rw [ml_x hk8, hg, hm] at hI
                  exact ih11 (k + 1) 0 z_75 (by omega) (by omega) hI _ _ ls hP hD hS (lv_sub hl [0, 3, 2, 1, 5, 6] rfl)
                · refine lv_iconst (v := 1) hx hb dX12_letters_70 (by decide) ?_
                  refine lv_goto (tgt := 75) hx hb dX12_letters_71 (by decide) ?_
                  refine lv_iadd hx hb dX12_letters_75 ?_
                  refine lv_topi (fun z_75 e_75 => ?_)
                  refine lv_istore_n (lv' := [(3, .int z_75), (4, .int 0), (5, .long z_31), (8, .int z_24), (7, .int (nI k)), (0, .ref m0), (1, .long (lN n0))]) hx hb dX12_letters_76 rfl hl (by decide) rfl (fun ls hl => ?_)
                  obtain ⟨z_77, e_77⟩ : ∃ y : Int32, y = (nI k) + 1 := ⟨_, rfl⟩
                  refine lv_iinc (v := z_77) (lv' := [(7, .int z_77), (3, .int z_75), (4, .int 0), (5, .long z_31), (8, .int z_24), (0, .ref m0), (1, .long (lN n0))]) hx hb dX12_letters_77 hl (k := 4) rfl (by rw [e_77]; rfl) (by decide) rfl (fun ls hl => ?_)
                  refine lv_goto (tgt := 11) hx hb dX12_letters_80 (by decide) ?_
                  obtain rfl : z_77 = nI (k + 1) := e_77.trans (nI_1 k)
                  obtain rfl : z_31 = lN (n0 / 2 ^ (8 * (k + 1))) := ms_eq hn0 e_31
                  have hb8 := ma_eq hn0 e_23 e_24
                  have hg : (if ¬ good = 0 ∧ by8 n0 k ≤ 126 ∧ (by8 n0 k = 0 ∨ many = nI k) then (1 : Int32) else 0) = 0 := by
                    exact if_neg (fun q => q.2.2.elim (fun q => c_48 (hb8 ▸ q)) c_54)
                  have hm : (many + if 0 < by8 n0 k then (1 : Int32) else 0) = z_75 := by
                    rw [e_75, if_pos]; rw [← hb8, fa_lt]; rw [fa_le] at c_67; omega
                  rw [ml_x hk8, hg, hm] at hI
                  exact ih11 (k + 1) 0 z_75 (by omega) (by omega) hI _ _ ls hP hD hS (lv_sub hl [0, 3, 2, 1, 5, 6] rfl)
              · refine lv_iconst (v := 1) hx hb dX12_letters_57 (by decide) ?_
                refine lv_goto (tgt := 62) hx hb dX12_letters_58 (by decide) ?_
                refine lv_istore (lv' := [(4, .int 1), (5, .long z_31), (8, .int z_24), (7, .int (nI k)), (3, .int many), (0, .ref m0), (1, .long (lN n0))]) hx hb dX12_letters_62 hl (by decide) rfl (fun ls hl => ?_)
                refine lv_iload_n hx hb dX12_letters_64 rfl (lv_at hl 4 rfl) ?_
                refine lv_iload hx hb dX12_letters_65 (lv_at hl 2 rfl) ?_
                refine lv_if_le (tgt := 74) hx hb dX12_letters_67 (by decide) (fun c_67 => ?_) (fun c_67 => ?_)
                · refine lv_iconst (v := 0) hx hb dX12_letters_74 (by decide) ?_
                  refine lv_iadd hx hb dX12_letters_75 ?_
                  refine lv_topi (fun z_75 e_75 => ?_)
                  refine lv_istore_n (lv' := [(3, .int z_75), (4, .int 1), (5, .long z_31), (8, .int z_24), (7, .int (nI k)), (0, .ref m0), (1, .long (lN n0))]) hx hb dX12_letters_76 rfl hl (by decide) rfl (fun ls hl => ?_)
                  obtain ⟨z_77, e_77⟩ : ∃ y : Int32, y = (nI k) + 1 := ⟨_, rfl⟩
                  refine lv_iinc (v := z_77) (lv' := [(7, .int z_77), (3, .int z_75), (4, .int 1), (5, .long z_31), (8, .int z_24), (0, .ref m0), (1, .long (lN n0))]) hx hb dX12_letters_77 hl (k := 4) rfl (by rw [e_77]; rfl) (by decide) rfl (fun ls hl => ?_)
                  refine lv_goto (tgt := 11) hx hb dX12_letters_80 (by decide) ?_
                  obtain rfl : z_77 = nI (k + 1) := e_77.trans (nI_1 k)
                  obtain rfl : z_31 = lN (n0 / 2 ^ (8 * (k + 1))) := ms_eq hn0 e_31
                  have hb8 := ma_eq hn0 e_23 e_24
                  have hg : (if ¬ good = 0 ∧ by8 n0 k ≤ 126 ∧ (by8 n0 k = 0 ∨ many = nI k) then (1 : Int32) else 0) = 1 := by
                    refine if_pos ⟨c_36, ?_, Or.inr c_54⟩
                    rw [← hb8, fa_le]; rw [fa_lt] at c_43; omega
                  have hm : (many + if 0 < by8 n0 k then (1 : Int32) else 0) = z_75 := by
                    rw [e_75, if_neg]; intro q; rw [← hb8, fa_lt] at q; rw [fa_le] at c_67; omega
                  rw [ml_x hk8, hg, hm] at hI
                  exact ih11 (k + 1) 1 z_75 (by omega) (by omega) hI _ _ ls hP hD hS (lv_sub hl [0, 3, 2, 1, 5, 6] rfl)
                · refine lv_iconst (v := 1) hx hb dX12_letters_70 (by decide) ?_
                  refine lv_goto (tgt := 75) hx hb dX12_letters_71 (by decide) ?_
                  refine lv_iadd hx hb dX12_letters_75 ?_
                  refine lv_topi (fun z_75 e_75 => ?_)
                  refine lv_istore_n (lv' := [(3, .int z_75), (4, .int 1), (5, .long z_31), (8, .int z_24), (7, .int (nI k)), (0, .ref m0), (1, .long (lN n0))]) hx hb dX12_letters_76 rfl hl (by decide) rfl (fun ls hl => ?_)
                  obtain ⟨z_77, e_77⟩ : ∃ y : Int32, y = (nI k) + 1 := ⟨_, rfl⟩
                  refine lv_iinc (v := z_77) (lv' := [(7, .int z_77), (3, .int z_75), (4, .int 1), (5, .long z_31), (8, .int z_24), (0, .ref m0), (1, .long (lN n0))]) hx hb dX12_letters_77 hl (k := 4) rfl (by rw [e_77]; rfl) (by decide) rfl (fun ls hl => ?_)
                  refine lv_goto (tgt := 11) hx hb dX12_letters_80 (by decide) ?_
                  obtain rfl : z_77 = nI (k + 1) := e_77.trans (nI_1 k)
                  obtain rfl : z_31 = lN (n0 / 2 ^ (8 * (k + 1))) := ms_eq hn0 e_31
                  have hb8 := ma_eq hn0 e_23 e_24
                  have hg : (if ¬ good = 0 ∧ by8 n0 k ≤ 126 ∧ (by8 n0 k = 0 ∨ many = nI k) then (1 : Int32) else 0) = 1 := by
                    refine if_pos ⟨c_36, ?_, Or.inr c_54⟩
                    rw [← hb8, fa_le]; rw [fa_lt] at c_43; omega
                  have hm : (many + if 0 < by8 n0 k then (1 : Int32) else 0) = z_75 := by
                    rw [e_75, if_pos]; rw [← hb8, fa_lt]; rw [fa_le] at c_67; omega
                  rw [ml_x hk8, hg, hm] at hI
                  exact ih11 (k + 1) 1 z_75 (by omega) (by omega) hI _ _ ls hP hD hS (lv_sub hl [0, 3, 2, 1, 5, 6] rfl)
  exact LOOP11 9 0 1 0 (by omega) (by omega) rfl _ _ ls hP hD hS (by rw [show n0 / 2 ^ (8 * 0) = n0 from Nat.div_one n0]; exact lv_sub hl [0, 1, 2, 3, 4, 5] rfl)
