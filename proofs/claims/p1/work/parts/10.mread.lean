theorem dX12_isPerson_0 : decode cX12_isPerson 0 = .ok (.iload_n 1, 1) := by decide +kernel
theorem dX12_isPerson_1 : decode cX12_isPerson 1 = .ok (.i2l, 1) := by decide +kernel
theorem dX12_isPerson_2 : decode cX12_isPerson 2 = .ok (.lconst 0, 1) := by decide +kernel
theorem dX12_isPerson_3 : decode cX12_isPerson 3 = .ok (.aload_n 0, 1) := by decide +kernel
theorem dX12_isPerson_4 : decode cX12_isPerson 4 = .ok (.getfield 57, 3) := by decide +kernel
theorem dX12_isPerson_7 : decode cX12_isPerson 7 = .ok (.iconst 1, 1) := by decide +kernel
theorem dX12_isPerson_8 : decode cX12_isPerson 8 = .ok (.isub, 1) := by decide +kernel
theorem dX12_isPerson_9 : decode cX12_isPerson 9 = .ok (.i2l, 1) := by decide +kernel
theorem dX12_isPerson_10 : decode cX12_isPerson 10 = .ok (.invokestatic 70, 3) := by decide +kernel
theorem dX12_isPerson_13 : decode cX12_isPerson 13 = .ok (.ireturn, 1) := by decide +kernel
theorem kw_206 : (.fieldLink RX12 57 "NobodyChecksModel" "persons" "I" : Cond) ∈ gw_tbl := gw_in (by decide +kernel) (by decide +kernel)
theorem kw_207 : (.code yX12_in cX12_in 6 (some .boolean) : Cond) ∈ gw_tbl := gw_in (by decide +kernel) (by decide +kernel)
theorem kw_208 : (.methodLink RX12 70 yX12_in : Cond) ∈ gw_tbl := gw_in (by decide +kernel) (by decide +kernel)
theorem kw_209 : (.static yX12_in : Cond) ∈ gw_tbl := gw_in (by decide +kernel) (by decide +kernel)
theorem kw_210 : (.initialized RX12 : Cond) ∈ gw_tbl := gw_in (by decide +kernel) (by decide +kernel)

set_option maxHeartbeats 4000000 in
set_option maxRecDepth 100000 in
theorem m_isPerson (l : Launch) (D : va_G) (m0 : Nat) (mp : Nat) (mw : Nat) (mh : Nat) (mo : Nat) (m5 : Nat) (m6 : Nat) (m7 : Nat) (mk : Nat) (mn : Nat) (mq : Nat) (m8 : Nat) (m9 : Nat) (ma : Nat) (mb : Nat) (md : Nat) (v : Int32) : Met l yX12_isPerson (Cond.code yX12_isPerson cX12_isPerson 2 (some .boolean) :: gw_tbl) ({ frames := 1, cells := 0, slots := 0, locals := 25 }) (pc_S D [] [(m0, .inr (12, [.ref mp, .int 0, .int 0, .int 0, .ref mw, .ref mh, .ref mo, .int 0, .int 0, .int 0, .int 0, .int 0, .int 0, .ref m5, .ref m6, .ref m7, .long 0, .int 0, .ref mk, .ref mn, .int 0, .ref mq, .ref m8, .ref m9, .int 0, .int 0, .int 0, .int 0, .ref ma, .int 0, .ref mb, .ref md, .long 0]))] [.ref m0, .int v]) (vp_Si (fun r => r = 0)) 0 0 (fun _ => False) := by
  refine Met.ofW (cc := cX12_isPerson) (maxL := 2) (ret := (some .boolean)) (by decide) rfl ?_
  intro p e s m args below meth c s₁ B hml hv
  obtain ⟨hargs, hP, hK⟩ := hv
  have hx := B.exec
  have hb := B.bytes
  have hr := B.returns
  have hts := atoms_spec (ws := Cond.code yX12_isPerson cX12_isPerson 2 (some .boolean) :: gw_tbl) B.pre
  have hg := fun (w : Cond) (h : w ∈ gw_tbl) => hts w (List.mem_cons_of_mem _ h)
  have hown : s.vm.findClass RX12 = some m.cls := findClass_of_methodNamed B.named
  have hlocks := B.notSynchronized
  have hl := lv_entry ([.ref m0, .int v]) (n := 2) (Nat.le_of_ble_eq_true rfl)
  rw [show entryFrame m args 2 = F0 m 0 (lg_sl ([.ref m0, .int v]) ++ List.replicate (2 - (lg_sl ([.ref m0, .int v])).length) Slot.unset).toArray [] from by rw [hargs]; exact lg_entry_eq ..]
  generalize (lg_sl ([.ref m0, .int v]) ++ List.replicate (2 - (lg_sl ([.ref m0, .int v])).length) Slot.unset).toArray = ls at hl ⊢
  have hl : lv_has ls 2 [(0, .ref m0), (1, .int v)] := hl
  refine W_genQ (fun Q hQ => ?_)
  refine lv_iload_n hx hb dX12_isPerson_0 rfl (lv_at hl 1 rfl) ?_
  refine lv_i2l hx hb dX12_isPerson_1 rfl ?_
  refine lv_topl (fun z_1 e_1 => ?_)
  refine lv_lconst (v := 0) hx hb dX12_isPerson_2 (by decide) ?_
  refine lv_aload_n hx hb dX12_isPerson_3 rfl (lv_at hl 0 rfl) ?_
  refine va_get (D := D) (ci := 12) (v := .int 0) (C := RX12) (T := TX12) (N := 33) hx hb hg gwX12 hown hK hP 0 rfl rfl 3 (by decide) (hg _ kw_206) (fun _ h9 => h9) rfl dX12_isPerson_4 ?_
  refine lv_iconst (v := 1) hx hb dX12_isPerson_7 (by decide) ?_
  refine lv_isub hx hb dX12_isPerson_8 ?_
  refine lv_topi (fun z_8 e_8 => ?_)
  obtain rfl : z_8 = ((-1) : Int32) := e_8.trans (by decide)
  refine lv_i2l hx hb dX12_isPerson_9 rfl ?_
  refine lv_topl (fun z_9 e_9 => ?_)
  obtain rfl : z_9 = ((-1) : Int64) := e_9.trans (by decide)
  refine vp_callSi (W.runS (As := [.long z_1, .long 0, .long (-1)]) (rest := []) ⟨hx, hb, hml, hown, hg⟩ (c_in l z_1 0 (-1)) (va_cwS 3 hg (gw_S kw_208 kw_209 kw_210 kw_207) rfl rfl rfl (by decide +kernel) ⟨Nat.le_of_ble_eq_true rfl, Nat.le_of_ble_eq_true rfl⟩) pr_0 rfl rfl hl.1 rfl (lv_room (Nat.le_of_ble_eq_true rfl)) dX12_isPerson_10 ⟨Nat.le_of_ble_eq_true rfl, Nat.le_of_ble_eq_true rfl⟩) (fun r_10 h_10 => ?_)
  obtain rfl : r_10 = (0 : Int32) := h_10.trans (il_no (by decide))
  subst hQ
  exact W.zret (v := 0) hx hb hr (by decide) (fun t ht hW => ⟨0, rfl, rfl, ht⟩) (fun _ h => absurd h List.not_mem_nil) dX12_isPerson_13

theorem dX12_isPay_0 : decode cX12_isPay 0 = .ok (.iload_n 1, 1) := by decide +kernel
theorem dX12_isPay_1 : decode cX12_isPay 1 = .ok (.i2l, 1) := by decide +kernel
theorem dX12_isPay_2 : decode cX12_isPay 2 = .ok (.lconst 0, 1) := by decide +kernel
theorem dX12_isPay_3 : decode cX12_isPay 3 = .ok (.aload_n 0, 1) := by decide +kernel
theorem dX12_isPay_4 : decode cX12_isPay 4 = .ok (.getfield 139, 3) := by decide +kernel
theorem dX12_isPay_7 : decode cX12_isPay 7 = .ok (.iconst 1, 1) := by decide +kernel
theorem dX12_isPay_8 : decode cX12_isPay 8 = .ok (.isub, 1) := by decide +kernel
theorem dX12_isPay_9 : decode cX12_isPay 9 = .ok (.i2l, 1) := by decide +kernel
theorem dX12_isPay_10 : decode cX12_isPay 10 = .ok (.invokestatic 70, 3) := by decide +kernel
theorem dX12_isPay_13 : decode cX12_isPay 13 = .ok (.ireturn, 1) := by decide +kernel
theorem kw_211 : (.fieldLink RX12 139 "NobodyChecksModel" "pays" "I" : Cond) ∈ gw_tbl := gw_in (by decide +kernel) (by decide +kernel)

set_option maxHeartbeats 4000000 in
set_option maxRecDepth 100000 in
theorem m_isPay (l : Launch) (D : va_G) (m0 : Nat) (mp : Nat) (mw : Nat) (mh : Nat) (mo : Nat) (m5 : Nat) (m6 : Nat) (m7 : Nat) (mk : Nat) (mn : Nat) (mq : Nat) (m8 : Nat) (m9 : Nat) (ma : Nat) (mb : Nat) (md : Nat) (v : Int32) : Met l yX12_isPay (Cond.code yX12_isPay cX12_isPay 2 (some .boolean) :: gw_tbl) ({ frames := 1, cells := 0, slots := 0, locals := 25 }) (pc_S D [] [(m0, .inr (12, [.ref mp, .int 0, .int 0, .int 0, .ref mw, .ref mh, .ref mo, .int 0, .int 0, .int 0, .int 0, .int 0, .int 0, .ref m5, .ref m6, .ref m7, .long 0, .int 0, .ref mk, .ref mn, .int 0, .ref mq, .ref m8, .ref m9, .int 0, .int 0, .int 0, .int 0, .ref ma, .int 0, .ref mb, .ref md, .long 0]))] [.ref m0, .int v]) (vp_Si (fun r => r = 0)) 0 0 (fun _ => False) := by
  refine Met.ofW (cc := cX12_isPay) (maxL := 2) (ret := (some .boolean)) (by decide) rfl ?_
  intro p e s m args below meth c s₁ B hml hv
  obtain ⟨hargs, hP, hK⟩ := hv
  have hx := B.exec
  have hb := B.bytes
  have hr := B.returns
  have hts := atoms_spec (ws := Cond.code yX12_isPay cX12_isPay 2 (some .boolean) :: gw_tbl) B.pre
  have hg := fun (w : Cond) (h : w ∈ gw_tbl) => hts w (List.mem_cons_of_mem _ h)
  have hown : s.vm.findClass RX12 = some m.cls := findClass_of_methodNamed B.named
  have hlocks := B.notSynchronized
  have hl := lv_entry ([.ref m0, .int v]) (n := 2) (Nat.le_of_ble_eq_true rfl)
  rw [show entryFrame m args 2 = F0 m 0 (lg_sl ([.ref m0, .int v]) ++ List.replicate (2 - (lg_sl ([.ref m0, .int v])).length) Slot.unset).toArray [] from by rw [hargs]; exact lg_entry_eq ..]
  generalize (lg_sl ([.ref m0, .int v]) ++ List.replicate (2 - (lg_sl ([.ref m0, .int v])).length) Slot.unset).toArray = ls at hl ⊢
  have hl : lv_has ls 2 [(0, .ref m0), (1, .int v)] := hl
  refine W_genQ (fun Q hQ => ?_)
  refine lv_iload_n hx hb dX12_isPay_0 rfl (lv_at hl 1 rfl) ?_
  refine lv_i2l hx hb dX12_isPay_1 rfl ?_
  refine lv_topl (fun z_1 e_1 => ?_)
  refine lv_lconst (v := 0) hx hb dX12_isPay_2 (by decide) ?_
  refine lv_aload_n hx hb dX12_isPay_3 rfl (lv_at hl 0 rfl) ?_
  refine va_get (D := D) (ci := 12) (v := .int 0) (C := RX12) (T := TX12) (N := 33) hx hb hg gwX12 hown hK hP 0 rfl rfl 17 (by decide) (hg _ kw_211) (fun _ h9 => h9) rfl dX12_isPay_4 ?_
  refine lv_iconst (v := 1) hx hb dX12_isPay_7 (by decide) ?_
  refine lv_isub hx hb dX12_isPay_8 ?_
  refine lv_topi (fun z_8 e_8 => ?_)
  obtain rfl : z_8 = ((-1) : Int32) := e_8.trans (by decide)
  refine lv_i2l hx hb dX12_isPay_9 rfl ?_
  refine lv_topl (fun z_9 e_9 => ?_)
  obtain rfl : z_9 = ((-1) : Int64) := e_9.trans (by decide)
  refine vp_callSi (W.runS (As := [.long z_1, .long 0, .long (-1)]) (rest := []) ⟨hx, hb, hml, hown, hg⟩ (c_in l z_1 0 (-1)) (va_cwS 3 hg (gw_S kw_208 kw_209 kw_210 kw_207) rfl rfl rfl (by decide +kernel) ⟨Nat.le_of_ble_eq_true rfl, Nat.le_of_ble_eq_true rfl⟩) pr_0 rfl rfl hl.1 rfl (lv_room (Nat.le_of_ble_eq_true rfl)) dX12_isPay_10 ⟨Nat.le_of_ble_eq_true rfl, Nat.le_of_ble_eq_true rfl⟩) (fun r_10 h_10 => ?_)
  obtain rfl : r_10 = (0 : Int32) := h_10.trans (il_no (by decide))
  subst hQ
  exact W.zret (v := 0) hx hb hr (by decide) (fun t ht hW => ⟨0, rfl, rfl, ht⟩) (fun _ h => absurd h List.not_mem_nil) dX12_isPay_13

theorem dX12_refusal_0 : decode cX12_refusal 0 = .ok (.aload_n 0, 1) := by decide +kernel
theorem dX12_refusal_1 : decode cX12_refusal 1 = .ok (.iload_n 1, 1) := by decide +kernel
theorem dX12_refusal_2 : decode cX12_refusal 2 = .ok (.invokevirtual 142, 3) := by decide +kernel
theorem dX12_refusal_5 : decode cX12_refusal 5 = .ok (.ifCond .ne 6, 3) := by decide +kernel
theorem dX12_refusal_8 : decode cX12_refusal 8 = .ok (.bipush (-101), 2) := by decide +kernel
theorem dX12_refusal_10 : decode cX12_refusal 10 = .ok (.ireturn, 1) := by decide +kernel
theorem dX12_refusal_11 : decode cX12_refusal 11 = .ok (.aload_n 0, 1) := by decide +kernel
theorem dX12_refusal_12 : decode cX12_refusal 12 = .ok (.getfield 57, 3) := by decide +kernel
theorem dX12_refusal_15 : decode cX12_refusal 15 = .ok (.ifCond .ne 6, 3) := by decide +kernel
theorem dX12_refusal_18 : decode cX12_refusal 18 = .ok (.bipush (-103), 2) := by decide +kernel
theorem dX12_refusal_20 : decode cX12_refusal 20 = .ok (.ireturn, 1) := by decide +kernel
theorem dX12_refusal_21 : decode cX12_refusal 21 = .ok (.iload_n 2, 1) := by decide +kernel
theorem dX12_refusal_22 : decode cX12_refusal 22 = .ok (.i2l, 1) := by decide +kernel
theorem dX12_refusal_23 : decode cX12_refusal 23 = .ok (.lconst 0, 1) := by decide +kernel
theorem dX12_refusal_24 : decode cX12_refusal 24 = .ok (.aload_n 0, 1) := by decide +kernel
theorem dX12_refusal_25 : decode cX12_refusal 25 = .ok (.invokevirtual 172, 3) := by decide +kernel
theorem dX12_refusal_28 : decode cX12_refusal 28 = .ok (.iconst 1, 1) := by decide +kernel
theorem dX12_refusal_29 : decode cX12_refusal 29 = .ok (.isub, 1) := by decide +kernel
theorem dX12_refusal_30 : decode cX12_refusal 30 = .ok (.i2l, 1) := by decide +kernel
theorem dX12_refusal_31 : decode cX12_refusal 31 = .ok (.invokestatic 70, 3) := by decide +kernel
theorem dX12_refusal_34 : decode cX12_refusal 34 = .ok (.ifCond .eq 11, 3) := by decide +kernel
theorem dX12_refusal_37 : decode cX12_refusal 37 = .ok (.iload_n 3, 1) := by decide +kernel
theorem dX12_refusal_38 : decode cX12_refusal 38 = .ok (.ifCond .eq 7, 3) := by decide +kernel
theorem dX12_refusal_41 : decode cX12_refusal 41 = .ok (.iconst 0, 1) := by decide +kernel
theorem dX12_refusal_42 : decode cX12_refusal 42 = .ok (.goto 5, 3) := by decide +kernel
theorem dX12_refusal_45 : decode cX12_refusal 45 = .ok (.bipush (-102), 2) := by decide +kernel
theorem dX12_refusal_47 : decode cX12_refusal 47 = .ok (.ireturn, 1) := by decide +kernel
theorem kw_212 : (.code yX12_isPay cX12_isPay 2 (some .boolean) : Cond) ∈ gw_tbl := gw_in (by decide +kernel) (by decide +kernel)
theorem kw_213 : (.methodLink RX12 142 yX12_isPay : Cond) ∈ gw_tbl := gw_in (by decide +kernel) (by decide +kernel)
theorem kw_214 : (.instanceMethod yX12_isPay : Cond) ∈ gw_tbl := gw_in (by decide +kernel) (by decide +kernel)
theorem kw_215 : (.selects RX12 yX12_isPay yX12_isPay : Cond) ∈ gw_tbl := gw_in (by decide +kernel) (by decide +kernel)

set_option maxHeartbeats 4000000 in
set_option maxRecDepth 100000 in
theorem m_refusal (l : Launch) (D : va_G) (m0 : Nat) (mp : Nat) (mw : Nat) (mh : Nat) (mo : Nat) (m5 : Nat) (m6 : Nat) (m7 : Nat) (mk : Nat) (mn : Nat) (mq : Nat) (m8 : Nat) (m9 : Nat) (ma : Nat) (mb : Nat) (md : Nat) (p1 : Int32) (p2 : Int32) (p3 : Int32) : Met l yX12_refusal (Cond.code yX12_refusal cX12_refusal 4 (some .int) :: gw_tbl) ({ frames := 2, cells := 0, slots := 0, locals := 46 }) (pc_S D [] [(m0, .inr (12, [.ref mp, .int 0, .int 0, .int 0, .ref mw, .ref mh, .ref mo, .int 0, .int 0, .int 0, .int 0, .int 0, .int 0, .ref m5, .ref m6, .ref m7, .long 0, .int 0, .ref mk, .ref mn, .int 0, .ref mq, .ref m8, .ref m9, .int 0, .int 0, .int 0, .int 0, .ref ma, .int 0, .ref mb, .ref md, .long 0]))] [.ref m0, .int p1, .int p2, .int p3]) (vp_Si (fun r => r = -101)) 0 0 (fun _ => False) := by
  refine Met.ofW (cc := cX12_refusal) (maxL := 4) (ret := (some .int)) (by decide) rfl ?_
  intro p e s m args below meth c s₁ B hml hv
  obtain ⟨hargs, hP, hK⟩ := hv
  have hx := B.exec
  have hb := B.bytes
  have hr := B.returns
  have hts := atoms_spec (ws := Cond.code yX12_refusal cX12_refusal 4 (some .int) :: gw_tbl) B.pre
  have hg := fun (w : Cond) (h : w ∈ gw_tbl) => hts w (List.mem_cons_of_mem _ h)
  have hown : s.vm.findClass RX12 = some m.cls := findClass_of_methodNamed B.named
  have hlocks := B.notSynchronized
  have hl := lv_entry ([.ref m0, .int p1, .int p2, .int p3]) (n := 4) (Nat.le_of_ble_eq_true rfl)
  rw [show entryFrame m args 4 = F0 m 0 (lg_sl ([.ref m0, .int p1, .int p2, .int p3]) ++ List.replicate (4 - (lg_sl ([.ref m0, .int p1, .int p2, .int p3])).length) Slot.unset).toArray [] from by rw [hargs]; exact lg_entry_eq ..]
  generalize (lg_sl ([.ref m0, .int p1, .int p2, .int p3]) ++ List.replicate (4 - (lg_sl ([.ref m0, .int p1, .int p2, .int p3])).length) Slot.unset).toArray = ls at hl ⊢
  have hl : lv_has ls 4 [(0, .ref m0), (1, .int p1), (2, .int p2), (3, .int p3)] := hl
  refine W_genQ (fun Q hQ => ?_)
  refine lv_aload_n hx hb dX12_refusal_0 rfl (lv_at hl 0 rfl) ?_
  refine lv_iload_n hx hb dX12_refusal_1 rfl (lv_at hl 1 rfl) ?_
  have hPc := hP.sub (ws' := [(m0, .inr (12, [.ref mp, .int 0, .int 0, .int 0, .ref mw, .ref mh, .ref mo, .int 0, .int 0, .int 0, .int 0, .int 0, .int 0, .ref m5, .ref m6, .ref m7, .long 0, .int 0, .ref mk, .ref mn, .int 0, .ref mq, .ref m8, .ref m9, .int 0, .int 0, .int 0, .int 0, .ref ma, .int 0, .ref mb, .ref md, .long 0]))]) [0] rfl
  have hKc := hK.sub (tys' := []) [] rfl
  refine vp_callSi (W.runV (As := [.int p1]) (rest := []) ⟨hx, hb, hml, hown, hg⟩ (m_isPay l D m0 mp mw mh mo m5 m6 m7 mk mn mq m8 m9 ma mb md p1) (cwV 1 hg (gw_V kw_213 kw_214 kw_215 kw_210 kw_212) rfl rfl rfl (by decide +kernel) ⟨Nat.le_of_ble_eq_true rfl, Nat.le_of_ble_eq_true rfl⟩) (pr_SV (q := (RX12, TX12, 33)) 12 0 hKc hPc rfl rfl) rfl rfl hl.1 rfl (lv_room (Nat.le_of_ble_eq_true rfl)) dX12_refusal_2 ⟨Nat.le_of_ble_eq_true rfl, Nat.le_of_ble_eq_true rfl⟩) (fun r_2 h_2 => ?_)
  obtain rfl : r_2 = (0 : Int32) := h_2
  refine lv_if_ne (tgt := 11) hx hb dX12_refusal_5 (by decide) (fun c_5 => absurd c_5 (by decide)) (fun c_5 => ?_)
  refine lv_bipush (v := (-101)) hx hb dX12_refusal_8 (by decide) ?_
  subst hQ
  exact W.iret (v := (-101)) hx hb hr (fun t ht hW => ⟨(-101), rfl, rfl, ht⟩) (fun _ h => absurd h List.not_mem_nil) dX12_refusal_10

theorem dX12_chance_0 : decode cX12_chance 0 = .ok (.iload_n 1, 1) := by decide +kernel
theorem dX12_chance_1 : decode cX12_chance 1 = .ok (.i2l, 1) := by decide +kernel
theorem dX12_chance_2 : decode cX12_chance 2 = .ok (.lconst 0, 1) := by decide +kernel
theorem dX12_chance_3 : decode cX12_chance 3 = .ok (.aload_n 0, 1) := by decide +kernel
theorem dX12_chance_4 : decode cX12_chance 4 = .ok (.getfield 103, 3) := by decide +kernel
theorem dX12_chance_7 : decode cX12_chance 7 = .ok (.iconst 1, 1) := by decide +kernel
theorem dX12_chance_8 : decode cX12_chance 8 = .ok (.isub, 1) := by decide +kernel
theorem dX12_chance_9 : decode cX12_chance 9 = .ok (.i2l, 1) := by decide +kernel
theorem dX12_chance_10 : decode cX12_chance 10 = .ok (.invokestatic 70, 3) := by decide +kernel
theorem dX12_chance_13 : decode cX12_chance 13 = .ok (.ifCond .eq 16, 3) := by decide +kernel
theorem dX12_chance_16 : decode cX12_chance 16 = .ok (.iload_n 2, 1) := by decide +kernel
theorem dX12_chance_17 : decode cX12_chance 17 = .ok (.iconst (-1), 1) := by decide +kernel
theorem dX12_chance_18 : decode cX12_chance 18 = .ok (.if_icmp .eq 14, 3) := by decide +kernel
theorem dX12_chance_21 : decode cX12_chance 21 = .ok (.aload_n 0, 1) := by decide +kernel
theorem dX12_chance_22 : decode cX12_chance 22 = .ok (.iload_n 2, 1) := by decide +kernel
theorem dX12_chance_23 : decode cX12_chance 23 = .ok (.invokevirtual 112, 3) := by decide +kernel
theorem dX12_chance_26 : decode cX12_chance 26 = .ok (.ifCond .ne 6, 3) := by decide +kernel
theorem dX12_chance_29 : decode cX12_chance 29 = .ok (.bipush (-101), 2) := by decide +kernel
theorem dX12_chance_31 : decode cX12_chance 31 = .ok (.ireturn, 1) := by decide +kernel
theorem dX12_chance_32 : decode cX12_chance 32 = .ok (.iload_n 2, 1) := by decide +kernel
theorem dX12_chance_33 : decode cX12_chance 33 = .ok (.iconst (-1), 1) := by decide +kernel
theorem dX12_chance_34 : decode cX12_chance 34 = .ok (.if_icmp .ne 12, 3) := by decide +kernel
theorem dX12_chance_37 : decode cX12_chance 37 = .ok (.aload_n 0, 1) := by decide +kernel
theorem dX12_chance_38 : decode cX12_chance 38 = .ok (.getfield 13, 3) := by decide +kernel
theorem dX12_chance_41 : decode cX12_chance 41 = .ok (.iload_n 1, 1) := by decide +kernel
theorem dX12_chance_42 : decode cX12_chance 42 = .ok (.iaload, 1) := by decide +kernel
theorem dX12_chance_43 : decode cX12_chance 43 = .ok (.goto 13, 3) := by decide +kernel
theorem dX12_chance_46 : decode cX12_chance 46 = .ok (.aload_n 0, 1) := by decide +kernel
theorem dX12_chance_47 : decode cX12_chance 47 = .ok (.getfield 16, 3) := by decide +kernel
theorem dX12_chance_50 : decode cX12_chance 50 = .ok (.iconst 4, 1) := by decide +kernel
theorem dX12_chance_51 : decode cX12_chance 51 = .ok (.iload_n 1, 1) := by decide +kernel
theorem dX12_chance_52 : decode cX12_chance 52 = .ok (.imul, 1) := by decide +kernel
theorem dX12_chance_53 : decode cX12_chance 53 = .ok (.iload_n 2, 1) := by decide +kernel
theorem dX12_chance_54 : decode cX12_chance 54 = .ok (.iadd, 1) := by decide +kernel
theorem dX12_chance_55 : decode cX12_chance 55 = .ok (.iaload, 1) := by decide +kernel
theorem dX12_chance_56 : decode cX12_chance 56 = .ok (.ireturn, 1) := by decide +kernel
theorem kw_216 : (.fieldLink RX12 103 "NobodyChecksModel" "cases" "I" : Cond) ∈ gw_tbl := gw_in (by decide +kernel) (by decide +kernel)

set_option maxHeartbeats 4000000 in
set_option maxRecDepth 100000 in
theorem m_chance (l : Launch) (D : va_G) (m0 : Nat) (mp : Nat) (mw : Nat) (mh : Nat) (mo : Nat) (m5 : Nat) (m6 : Nat) (m7 : Nat) (mk : Nat) (mn : Nat) (mq : Nat) (m8 : Nat) (m9 : Nat) (ma : Nat) (mb : Nat) (md : Nat) (p1 : Int32) (p2 : Int32) : Met l yX12_chance (Cond.code yX12_chance cX12_chance 3 (some .int) :: gw_tbl) ({ frames := 1, cells := 0, slots := 0, locals := 25 }) (pc_S D [] [(m0, .inr (12, [.ref mp, .int 0, .int 0, .int 0, .ref mw, .ref mh, .ref mo, .int 0, .int 0, .int 0, .int 0, .int 0, .int 0, .ref m5, .ref m6, .ref m7, .long 0, .int 0, .ref mk, .ref mn, .int 0, .ref mq, .ref m8, .ref m9, .int 0, .int 0, .int 0, .int 0, .ref ma, .int 0, .ref mb, .ref md, .long 0]))] [.ref m0, .int p1, .int p2]) (vp_Si (fun r => r = (-101))) 0 0 (fun _ => False) := by
  refine Met.ofW (cc := cX12_chance) (maxL := 3) (ret := (some .int)) (by decide) rfl ?_
  intro p e s m args below meth c s₁ B hml hv
  obtain ⟨hargs, hP, hK⟩ := hv
  have hx := B.exec
  have hb := B.bytes
  have hr := B.returns
  have hts := atoms_spec (ws := Cond.code yX12_chance cX12_chance 3 (some .int) :: gw_tbl) B.pre
  have hg := fun (w : Cond) (h : w ∈ gw_tbl) => hts w (List.mem_cons_of_mem _ h)
  have hown : s.vm.findClass RX12 = some m.cls := findClass_of_methodNamed B.named
  have hlocks := B.notSynchronized
  have hl := lv_entry ([.ref m0, .int p1, .int p2]) (n := 3) (Nat.le_of_ble_eq_true rfl)
  rw [show entryFrame m args 3 = F0 m 0 (lg_sl ([.ref m0, .int p1, .int p2]) ++ List.replicate (3 - (lg_sl ([.ref m0, .int p1, .int p2])).length) Slot.unset).toArray [] from by rw [hargs]; exact lg_entry_eq ..]
  generalize (lg_sl ([.ref m0, .int p1, .int p2]) ++ List.replicate (3 - (lg_sl ([.ref m0, .int p1, .int p2])).length) Slot.unset).toArray = ls at hl ⊢
  have hl : lv_has ls 3 [(0, .ref m0), (1, .int p1), (2, .int p2)] := hl
  refine W_genQ (fun Q hQ => ?_)
  refine lv_iload_n hx hb dX12_chance_0 rfl (lv_at hl 1 rfl) ?_
  refine lv_i2l hx hb dX12_chance_1 rfl ?_
  refine lv_topl (fun z_1 e_1 => ?_)
  refine lv_lconst (v := 0) hx hb dX12_chance_2 (by decide) ?_
  refine lv_aload_n hx hb dX12_chance_3 rfl (lv_at hl 0 rfl) ?_
  refine va_get (D := D) (ci := 12) (v := .int 0) (C := RX12) (T := TX12) (N := 33) hx hb hg gwX12 hown hK hP 0 rfl rfl 2 (by decide) (hg _ kw_216) (fun _ h9 => h9) rfl dX12_chance_4 ?_
  refine lv_iconst (v := 1) hx hb dX12_chance_7 (by decide) ?_
  refine lv_isub hx hb dX12_chance_8 ?_
  refine lv_topi (fun z_8 e_8 => ?_)
  obtain rfl : z_8 = ((-1) : Int32) := e_8.trans (by decide)
  refine lv_i2l hx hb dX12_chance_9 rfl ?_
  refine lv_topl (fun z_9 e_9 => ?_)
  obtain rfl : z_9 = ((-1) : Int64) := e_9.trans (by decide)
  refine vp_callSi (W.runS (As := [.long z_1, .long 0, .long (-1)]) (rest := []) ⟨hx, hb, hml, hown, hg⟩ (c_in l z_1 0 (-1)) (va_cwS 3 hg (gw_S kw_208 kw_209 kw_210 kw_207) rfl rfl rfl (by decide +kernel) ⟨Nat.le_of_ble_eq_true rfl, Nat.le_of_ble_eq_true rfl⟩) pr_0 rfl rfl hl.1 rfl (lv_room (Nat.le_of_ble_eq_true rfl)) dX12_chance_10 ⟨Nat.le_of_ble_eq_true rfl, Nat.le_of_ble_eq_true rfl⟩) (fun r_10 h_10 => ?_)
  obtain rfl : r_10 = (0 : Int32) := h_10.trans (il_no (by decide))
  refine lv_if_eq (tgt := 29) hx hb dX12_chance_13 (by decide) (fun c_13 => ?_) (fun c_13 => absurd c_13 (by decide))
  refine lv_bipush (v := (-101)) hx hb dX12_chance_29 (by decide) ?_
  subst hQ
  exact W.iret (v := (-101)) hx hb hr (fun t ht hW => ⟨(-101), rfl, rfl, ht⟩) (fun _ h => absurd h List.not_mem_nil) dX12_chance_31

theorem dX12_cost_0 : decode cX12_cost 0 = .ok (.aload_n 0, 1) := by decide +kernel
theorem dX12_cost_1 : decode cX12_cost 1 = .ok (.iload_n 1, 1) := by decide +kernel
theorem dX12_cost_2 : decode cX12_cost 2 = .ok (.invokevirtual 112, 3) := by decide +kernel
theorem dX12_cost_5 : decode cX12_cost 5 = .ok (.ifCond .ne 6, 3) := by decide +kernel
theorem dX12_cost_8 : decode cX12_cost 8 = .ok (.bipush (-101), 2) := by decide +kernel
theorem dX12_cost_10 : decode cX12_cost 10 = .ok (.ireturn, 1) := by decide +kernel
theorem dX12_cost_11 : decode cX12_cost 11 = .ok (.iload_n 2, 1) := by decide +kernel
theorem dX12_cost_12 : decode cX12_cost 12 = .ok (.i2l, 1) := by decide +kernel
theorem dX12_cost_13 : decode cX12_cost 13 = .ok (.lconst 0, 1) := by decide +kernel
theorem dX12_cost_14 : decode cX12_cost 14 = .ok (.ldc2_w 115, 3) := by decide +kernel
theorem dX12_cost_17 : decode cX12_cost 17 = .ok (.invokestatic 70, 3) := by decide +kernel
theorem dX12_cost_20 : decode cX12_cost 20 = .ok (.ifCond .ne 6, 3) := by decide +kernel
theorem dX12_cost_23 : decode cX12_cost 23 = .ok (.bipush (-102), 2) := by decide +kernel
theorem dX12_cost_25 : decode cX12_cost 25 = .ok (.ireturn, 1) := by decide +kernel
theorem dX12_cost_26 : decode cX12_cost 26 = .ok (.aload_n 0, 1) := by decide +kernel
theorem dX12_cost_27 : decode cX12_cost 27 = .ok (.getfield 19, 3) := by decide +kernel
theorem dX12_cost_30 : decode cX12_cost 30 = .ok (.iload_n 1, 1) := by decide +kernel
theorem dX12_cost_31 : decode cX12_cost 31 = .ok (.iaload, 1) := by decide +kernel
theorem dX12_cost_32 : decode cX12_cost 32 = .ok (.istore_n 3, 1) := by decide +kernel
theorem dX12_cost_33 : decode cX12_cost 33 = .ok (.aload_n 0, 1) := by decide +kernel
theorem dX12_cost_34 : decode cX12_cost 34 = .ok (.getfield 19, 3) := by decide +kernel
theorem dX12_cost_37 : decode cX12_cost 37 = .ok (.iload_n 1, 1) := by decide +kernel
theorem dX12_cost_38 : decode cX12_cost 38 = .ok (.iload_n 2, 1) := by decide +kernel
theorem dX12_cost_39 : decode cX12_cost 39 = .ok (.iastore, 1) := by decide +kernel
theorem dX12_cost_40 : decode cX12_cost 40 = .ok (.iload_n 3, 1) := by decide +kernel
theorem dX12_cost_41 : decode cX12_cost 41 = .ok (.ireturn, 1) := by decide +kernel
theorem kw_217 : (.code yX12_isPerson cX12_isPerson 2 (some .boolean) : Cond) ∈ gw_tbl := gw_in (by decide +kernel) (by decide +kernel)
theorem kw_218 : (.methodLink RX12 112 yX12_isPerson : Cond) ∈ gw_tbl := gw_in (by decide +kernel) (by decide +kernel)
theorem kw_219 : (.instanceMethod yX12_isPerson : Cond) ∈ gw_tbl := gw_in (by decide +kernel) (by decide +kernel)
theorem kw_220 : (.selects RX12 yX12_isPerson yX12_isPerson : Cond) ∈ gw_tbl := gw_in (by decide +kernel) (by decide +kernel)

set_option maxHeartbeats 4000000 in
set_option maxRecDepth 100000 in
theorem m_cost (l : Launch) (D : va_G) (m0 : Nat) (mp : Nat) (mw : Nat) (mh : Nat) (mo : Nat) (m5 : Nat) (m6 : Nat) (m7 : Nat) (mk : Nat) (mn : Nat) (mq : Nat) (m8 : Nat) (m9 : Nat) (ma : Nat) (mb : Nat) (md : Nat) (p1 : Int32) (p2 : Int32) : Met l yX12_cost (Cond.code yX12_cost cX12_cost 4 (some .int) :: gw_tbl) ({ frames := 2, cells := 0, slots := 0, locals := 46 }) (pc_S D [] [(m0, .inr (12, [.ref mp, .int 0, .int 0, .int 0, .ref mw, .ref mh, .ref mo, .int 0, .int 0, .int 0, .int 0, .int 0, .int 0, .ref m5, .ref m6, .ref m7, .long 0, .int 0, .ref mk, .ref mn, .int 0, .ref mq, .ref m8, .ref m9, .int 0, .int 0, .int 0, .int 0, .ref ma, .int 0, .ref mb, .ref md, .long 0]))] [.ref m0, .int p1, .int p2]) (vp_Si (fun r => r = (-101))) 0 0 (fun _ => False) := by
  refine Met.ofW (cc := cX12_cost) (maxL := 4) (ret := (some .int)) (by decide) rfl ?_
  intro p e s m args below meth c s₁ B hml hv
  obtain ⟨hargs, hP, hK⟩ := hv
  have hx := B.exec
  have hb := B.bytes
  have hr := B.returns
  have hts := atoms_spec (ws := Cond.code yX12_cost cX12_cost 4 (some .int) :: gw_tbl) B.pre
  have hg := fun (w : Cond) (h : w ∈ gw_tbl) => hts w (List.mem_cons_of_mem _ h)
  have hown : s.vm.findClass RX12 = some m.cls := findClass_of_methodNamed B.named
  have hlocks := B.notSynchronized
  have hl := lv_entry ([.ref m0, .int p1, .int p2]) (n := 4) (Nat.le_of_ble_eq_true rfl)
  rw [show entryFrame m args 4 = F0 m 0 (lg_sl ([.ref m0, .int p1, .int p2]) ++ List.replicate (4 - (lg_sl ([.ref m0, .int p1, .int p2])).length) Slot.unset).toArray [] from by rw [hargs]; exact lg_entry_eq ..]
  generalize (lg_sl ([.ref m0, .int p1, .int p2]) ++ List.replicate (4 - (lg_sl ([.ref m0, .int p1, .int p2])).length) Slot.unset).toArray = ls at hl ⊢
  have hl : lv_has ls 4 [(0, .ref m0), (1, .int p1), (2, .int p2)] := hl
  refine W_genQ (fun Q hQ => ?_)
  refine lv_aload_n hx hb dX12_cost_0 rfl (lv_at hl 0 rfl) ?_
  refine lv_iload_n hx hb dX12_cost_1 rfl (lv_at hl 1 rfl) ?_
  have hPc := hP.sub (ws' := [(m0, .inr (12, [.ref mp, .int 0, .int 0, .int 0, .ref mw, .ref mh, .ref mo, .int 0, .int 0, .int 0, .int 0, .int 0, .int 0, .ref m5, .ref m6, .ref m7, .long 0, .int 0, .ref mk, .ref mn, .int 0, .ref mq, .ref m8, .ref m9, .int 0, .int 0, .int 0, .int 0, .ref ma, .int 0, .ref mb, .ref md, .long 0]))]) [0] rfl
  have hKc := hK.sub (tys' := []) [] rfl
  refine vp_callSi (W.runV (As := [.int p1]) (rest := []) ⟨hx, hb, hml, hown, hg⟩ (m_isPerson l D m0 mp mw mh mo m5 m6 m7 mk mn mq m8 m9 ma mb md p1) (cwV 1 hg (gw_V kw_218 kw_219 kw_220 kw_210 kw_217) rfl rfl rfl (by decide +kernel) ⟨Nat.le_of_ble_eq_true rfl, Nat.le_of_ble_eq_true rfl⟩) (pr_SV (q := (RX12, TX12, 33)) 12 0 hKc hPc rfl rfl) rfl rfl hl.1 rfl (lv_room (Nat.le_of_ble_eq_true rfl)) dX12_cost_2 ⟨Nat.le_of_ble_eq_true rfl, Nat.le_of_ble_eq_true rfl⟩) (fun r_2 h_2 => ?_)
  obtain rfl : r_2 = (0 : Int32) := h_2
  refine lv_if_ne (tgt := 11) hx hb dX12_cost_5 (by decide) (fun c_5 => absurd c_5 (by decide)) (fun c_5 => ?_)
  refine lv_bipush (v := (-101)) hx hb dX12_cost_8 (by decide) ?_
  subst hQ
  exact W.iret (v := (-101)) hx hb hr (fun t ht hW => ⟨(-101), rfl, rfl, ht⟩) (fun _ h => absurd h List.not_mem_nil) dX12_cost_10

theorem dX12_thinks_0 : decode cX12_thinks 0 = .ok (.aload_n 0, 1) := by decide +kernel
theorem dX12_thinks_1 : decode cX12_thinks 1 = .ok (.iload_n 1, 1) := by decide +kernel
theorem dX12_thinks_2 : decode cX12_thinks 2 = .ok (.invokevirtual 112, 3) := by decide +kernel
theorem dX12_thinks_5 : decode cX12_thinks 5 = .ok (.ifCond .eq 16, 3) := by decide +kernel
theorem dX12_thinks_8 : decode cX12_thinks 8 = .ok (.aload_n 0, 1) := by decide +kernel
theorem dX12_thinks_9 : decode cX12_thinks 9 = .ok (.iload_n 3, 1) := by decide +kernel
theorem dX12_thinks_10 : decode cX12_thinks 10 = .ok (.invokevirtual 112, 3) := by decide +kernel
theorem dX12_thinks_13 : decode cX12_thinks 13 = .ok (.ifCond .eq 8, 3) := by decide +kernel
theorem dX12_thinks_16 : decode cX12_thinks 16 = .ok (.iload_n 1, 1) := by decide +kernel
theorem dX12_thinks_17 : decode cX12_thinks 17 = .ok (.iload_n 3, 1) := by decide +kernel
theorem dX12_thinks_18 : decode cX12_thinks 18 = .ok (.if_icmp .ne 7, 3) := by decide +kernel
theorem dX12_thinks_21 : decode cX12_thinks 21 = .ok (.ldc2_w 127, 3) := by decide +kernel
theorem dX12_thinks_24 : decode cX12_thinks 24 = .ok (.lreturn, 1) := by decide +kernel
theorem dX12_thinks_25 : decode cX12_thinks 25 = .ok (.iload_n 2, 1) := by decide +kernel
theorem dX12_thinks_26 : decode cX12_thinks 26 = .ok (.i2l, 1) := by decide +kernel
theorem dX12_thinks_27 : decode cX12_thinks 27 = .ok (.lconst 0, 1) := by decide +kernel
theorem dX12_thinks_28 : decode cX12_thinks 28 = .ok (.lconst 1, 1) := by decide +kernel
theorem dX12_thinks_29 : decode cX12_thinks 29 = .ok (.invokestatic 70, 3) := by decide +kernel
theorem dX12_thinks_32 : decode cX12_thinks 32 = .ok (.ifCond .eq 14, 3) := by decide +kernel
theorem dX12_thinks_35 : decode cX12_thinks 35 = .ok (.iload 4, 2) := by decide +kernel
theorem dX12_thinks_37 : decode cX12_thinks 37 = .ok (.i2l, 1) := by decide +kernel
theorem dX12_thinks_38 : decode cX12_thinks 38 = .ok (.lconst 0, 1) := by decide +kernel
theorem dX12_thinks_39 : decode cX12_thinks 39 = .ok (.lconst 1, 1) := by decide +kernel
theorem dX12_thinks_40 : decode cX12_thinks 40 = .ok (.invokestatic 70, 3) := by decide +kernel
theorem dX12_thinks_43 : decode cX12_thinks 43 = .ok (.ifCond .ne 7, 3) := by decide +kernel
theorem dX12_thinks_46 : decode cX12_thinks 46 = .ok (.ldc2_w 129, 3) := by decide +kernel
theorem dX12_thinks_49 : decode cX12_thinks 49 = .ok (.lreturn, 1) := by decide +kernel
theorem dX12_thinks_50 : decode cX12_thinks 50 = .ok (.lconst 0, 1) := by decide +kernel
theorem dX12_thinks_51 : decode cX12_thinks 51 = .ok (.lstore 5, 2) := by decide +kernel
theorem dX12_thinks_53 : decode cX12_thinks 53 = .ok (.lconst 0, 1) := by decide +kernel
theorem dX12_thinks_54 : decode cX12_thinks 54 = .ok (.lstore 7, 2) := by decide +kernel
theorem dX12_thinks_56 : decode cX12_thinks 56 = .ok (.iconst 0, 1) := by decide +kernel
theorem dX12_thinks_57 : decode cX12_thinks 57 = .ok (.istore 9, 2) := by decide +kernel
theorem dX12_thinks_59 : decode cX12_thinks 59 = .ok (.iload 9, 2) := by decide +kernel
theorem dX12_thinks_61 : decode cX12_thinks 61 = .ok (.bipush 16, 2) := by decide +kernel
theorem dX12_thinks_63 : decode cX12_thinks 63 = .ok (.if_icmp .ge 57, 3) := by decide +kernel
theorem dX12_thinks_66 : decode cX12_thinks 66 = .ok (.iload 9, 2) := by decide +kernel
theorem dX12_thinks_68 : decode cX12_thinks 68 = .ok (.iload_n 1, 1) := by decide +kernel
theorem dX12_thinks_69 : decode cX12_thinks 69 = .ok (.ishr, 1) := by decide +kernel
theorem dX12_thinks_70 : decode cX12_thinks 70 = .ok (.iconst 1, 1) := by decide +kernel
theorem dX12_thinks_71 : decode cX12_thinks 71 = .ok (.iand, 1) := by decide +kernel
theorem dX12_thinks_72 : decode cX12_thinks 72 = .ok (.iload_n 2, 1) := by decide +kernel
theorem dX12_thinks_73 : decode cX12_thinks 73 = .ok (.if_icmp .ne 41, 3) := by decide +kernel
theorem dX12_thinks_76 : decode cX12_thinks 76 = .ok (.lload 7, 2) := by decide +kernel
theorem dX12_thinks_78 : decode cX12_thinks 78 = .ok (.aload_n 0, 1) := by decide +kernel
theorem dX12_thinks_79 : decode cX12_thinks 79 = .ok (.getfield 28, 3) := by decide +kernel
theorem dX12_thinks_82 : decode cX12_thinks 82 = .ok (.iload 9, 2) := by decide +kernel
theorem dX12_thinks_84 : decode cX12_thinks 84 = .ok (.laload, 1) := by decide +kernel
theorem dX12_thinks_85 : decode cX12_thinks 85 = .ok (.ladd, 1) := by decide +kernel
theorem dX12_thinks_86 : decode cX12_thinks 86 = .ok (.lstore 7, 2) := by decide +kernel
theorem dX12_thinks_88 : decode cX12_thinks 88 = .ok (.lload 5, 2) := by decide +kernel
theorem dX12_thinks_90 : decode cX12_thinks 90 = .ok (.iload 9, 2) := by decide +kernel
theorem dX12_thinks_92 : decode cX12_thinks 92 = .ok (.iload_n 3, 1) := by decide +kernel
theorem dX12_thinks_93 : decode cX12_thinks 93 = .ok (.ishr, 1) := by decide +kernel
theorem dX12_thinks_94 : decode cX12_thinks 94 = .ok (.iconst 1, 1) := by decide +kernel
theorem dX12_thinks_95 : decode cX12_thinks 95 = .ok (.iand, 1) := by decide +kernel
theorem dX12_thinks_96 : decode cX12_thinks 96 = .ok (.iconst 1, 1) := by decide +kernel
theorem dX12_thinks_97 : decode cX12_thinks 97 = .ok (.if_icmp .ne 13, 3) := by decide +kernel
theorem dX12_thinks_100 : decode cX12_thinks 100 = .ok (.aload_n 0, 1) := by decide +kernel
theorem dX12_thinks_101 : decode cX12_thinks 101 = .ok (.getfield 28, 3) := by decide +kernel
theorem dX12_thinks_104 : decode cX12_thinks 104 = .ok (.iload 9, 2) := by decide +kernel
theorem dX12_thinks_106 : decode cX12_thinks 106 = .ok (.laload, 1) := by decide +kernel
theorem dX12_thinks_107 : decode cX12_thinks 107 = .ok (.goto 4, 3) := by decide +kernel
theorem dX12_thinks_110 : decode cX12_thinks 110 = .ok (.lconst 0, 1) := by decide +kernel
theorem dX12_thinks_111 : decode cX12_thinks 111 = .ok (.ladd, 1) := by decide +kernel
theorem dX12_thinks_112 : decode cX12_thinks 112 = .ok (.lstore 5, 2) := by decide +kernel
theorem dX12_thinks_114 : decode cX12_thinks 114 = .ok (.iinc 9 1, 3) := by decide +kernel
theorem dX12_thinks_117 : decode cX12_thinks 117 = .ok (.goto (-58), 3) := by decide +kernel
theorem dX12_thinks_120 : decode cX12_thinks 120 = .ok (.lload 7, 2) := by decide +kernel
theorem dX12_thinks_122 : decode cX12_thinks 122 = .ok (.lconst 0, 1) := by decide +kernel
theorem dX12_thinks_123 : decode cX12_thinks 123 = .ok (.lcmp, 1) := by decide +kernel
theorem dX12_thinks_124 : decode cX12_thinks 124 = .ok (.ifCond .ne 9, 3) := by decide +kernel
theorem dX12_thinks_127 : decode cX12_thinks 127 = .ok (.ldc2_w 131, 3) := by decide +kernel
theorem dX12_thinks_130 : decode cX12_thinks 130 = .ok (.goto 12, 3) := by decide +kernel
theorem dX12_thinks_133 : decode cX12_thinks 133 = .ok (.lload 5, 2) := by decide +kernel
theorem dX12_thinks_135 : decode cX12_thinks 135 = .ok (.lload 7, 2) := by decide +kernel
theorem dX12_thinks_137 : decode cX12_thinks 137 = .ok (.iload 4, 2) := by decide +kernel
theorem dX12_thinks_139 : decode cX12_thinks 139 = .ok (.invokestatic 133, 3) := by decide +kernel
theorem dX12_thinks_142 : decode cX12_thinks 142 = .ok (.lreturn, 1) := by decide +kernel
theorem kw_221 : (.constantLong RX12 127 (-101) : Cond) ∈ gw_tbl := gw_in (by decide +kernel) (by decide +kernel)

set_option maxHeartbeats 4000000 in
set_option maxRecDepth 100000 in
theorem m_thinks (l : Launch) (D : va_G) (m0 : Nat) (mp : Nat) (mw : Nat) (mh : Nat) (mo : Nat) (m5 : Nat) (m6 : Nat) (m7 : Nat) (mk : Nat) (mn : Nat) (mq : Nat) (m8 : Nat) (m9 : Nat) (ma : Nat) (mb : Nat) (md : Nat) (p1 : Int32) (p2 : Int32) (p3 : Int32) (p4 : Int32) : Met l yX12_thinks (Cond.code yX12_thinks cX12_thinks 10 (some .long) :: gw_tbl) ({ frames := 2, cells := 0, slots := 0, locals := 46 }) (pc_S D [] [(m0, .inr (12, [.ref mp, .int 0, .int 0, .int 0, .ref mw, .ref mh, .ref mo, .int 0, .int 0, .int 0, .int 0, .int 0, .int 0, .ref m5, .ref m6, .ref m7, .long 0, .int 0, .ref mk, .ref mn, .int 0, .ref mq, .ref m8, .ref m9, .int 0, .int 0, .int 0, .int 0, .ref ma, .int 0, .ref mb, .ref md, .long 0]))] [.ref m0, .int p1, .int p2, .int p3, .int p4]) (vp_Sl (fun r => r = (-101))) 0 0 (fun _ => False) := by
  refine Met.ofW (cc := cX12_thinks) (maxL := 10) (ret := (some .long)) (by decide) rfl ?_
  intro p e s m args below meth c s₁ B hml hv
  obtain ⟨hargs, hP, hK⟩ := hv
  have hx := B.exec
  have hb := B.bytes
  have hr := B.returns
  have hts := atoms_spec (ws := Cond.code yX12_thinks cX12_thinks 10 (some .long) :: gw_tbl) B.pre
  have hg := fun (w : Cond) (h : w ∈ gw_tbl) => hts w (List.mem_cons_of_mem _ h)
  have hown : s.vm.findClass RX12 = some m.cls := findClass_of_methodNamed B.named
  have hlocks := B.notSynchronized
  have hl := lv_entry ([.ref m0, .int p1, .int p2, .int p3, .int p4]) (n := 10) (Nat.le_of_ble_eq_true rfl)
  rw [show entryFrame m args 10 = F0 m 0 (lg_sl ([.ref m0, .int p1, .int p2, .int p3, .int p4]) ++ List.replicate (10 - (lg_sl ([.ref m0, .int p1, .int p2, .int p3, .int p4])).length) Slot.unset).toArray [] from by rw [hargs]; exact lg_entry_eq ..]
  generalize (lg_sl ([.ref m0, .int p1, .int p2, .int p3, .int p4]) ++ List.replicate (10 - (lg_sl ([.ref m0, .int p1, .int p2, .int p3, .int p4])).length) Slot.unset).toArray = ls at hl ⊢
  have hl : lv_has ls 10 [(0, .ref m0), (1, .int p1), (2, .int p2), (3, .int p3), (4, .int p4)] := hl
  refine W_genQ (fun Q hQ => ?_)
  refine lv_aload_n hx hb dX12_thinks_0 rfl (lv_at hl 0 rfl) ?_
  refine lv_iload_n hx hb dX12_thinks_1 rfl (lv_at hl 1 rfl) ?_
  have hPc := hP.sub (ws' := [(m0, .inr (12, [.ref mp, .int 0, .int 0, .int 0, .ref mw, .ref mh, .ref mo, .int 0, .int 0, .int 0, .int 0, .int 0, .int 0, .ref m5, .ref m6, .ref m7, .long 0, .int 0, .ref mk, .ref mn, .int 0, .ref mq, .ref m8, .ref m9, .int 0, .int 0, .int 0, .int 0, .ref ma, .int 0, .ref mb, .ref md, .long 0]))]) [0] rfl
  have hKc := hK.sub (tys' := []) [] rfl
  refine vp_callSi (W.runV (As := [.int p1]) (rest := []) ⟨hx, hb, hml, hown, hg⟩ (m_isPerson l D m0 mp mw mh mo m5 m6 m7 mk mn mq m8 m9 ma mb md p1) (cwV 1 hg (gw_V kw_218 kw_219 kw_220 kw_210 kw_217) rfl rfl rfl (by decide +kernel) ⟨Nat.le_of_ble_eq_true rfl, Nat.le_of_ble_eq_true rfl⟩) (pr_SV (q := (RX12, TX12, 33)) 12 0 hKc hPc rfl rfl) rfl rfl hl.1 rfl (lv_room (Nat.le_of_ble_eq_true rfl)) dX12_thinks_2 ⟨Nat.le_of_ble_eq_true rfl, Nat.le_of_ble_eq_true rfl⟩) (fun r_2 h_2 => ?_)
  obtain rfl : r_2 = (0 : Int32) := h_2
  refine lv_if_eq (tgt := 21) hx hb dX12_thinks_5 (by decide) (fun c_5 => ?_) (fun c_5 => absurd c_5 (by decide))
  refine lv_ldc2 hx hb hown (hg _ kw_221) dX12_thinks_21 ?_
  subst hQ
  exact W.lret (v := (-101)) hx hb hr (fun t ht hW => ⟨(-101), rfl, rfl, ht⟩) (fun _ h => absurd h List.not_mem_nil) dX12_thinks_24

theorem dX12_as_0 : decode cX12_as 0 = .ok (.aload_n 0, 1) := by decide +kernel
theorem dX12_as_1 : decode cX12_as 1 = .ok (.iload_n 1, 1) := by decide +kernel
theorem dX12_as_2 : decode cX12_as 2 = .ok (.invokevirtual 142, 3) := by decide +kernel
theorem dX12_as_5 : decode cX12_as 5 = .ok (.ifCond .ne 6, 3) := by decide +kernel
theorem dX12_as_8 : decode cX12_as 8 = .ok (.bipush (-101), 2) := by decide +kernel
theorem dX12_as_10 : decode cX12_as 10 = .ok (.ireturn, 1) := by decide +kernel
theorem dX12_as_11 : decode cX12_as 11 = .ok (.iload_n 2, 1) := by decide +kernel
theorem dX12_as_12 : decode cX12_as 12 = .ok (.i2l, 1) := by decide +kernel
theorem dX12_as_13 : decode cX12_as 13 = .ok (.lconst 0, 1) := by decide +kernel
theorem dX12_as_14 : decode cX12_as 14 = .ok (.ldc2_w 137, 3) := by decide +kernel
theorem dX12_as_17 : decode cX12_as 17 = .ok (.invokestatic 70, 3) := by decide +kernel
theorem dX12_as_20 : decode cX12_as 20 = .ok (.ifCond .ne 6, 3) := by decide +kernel
theorem dX12_as_23 : decode cX12_as 23 = .ok (.bipush (-102), 2) := by decide +kernel
theorem dX12_as_25 : decode cX12_as 25 = .ok (.ireturn, 1) := by decide +kernel
theorem dX12_as_26 : decode cX12_as 26 = .ok (.iload_n 2, 1) := by decide +kernel
theorem dX12_as_27 : decode cX12_as 27 = .ok (.ifCond .eq 43, 3) := by decide +kernel
theorem dX12_as_30 : decode cX12_as 30 = .ok (.iload_n 2, 1) := by decide +kernel
theorem dX12_as_31 : decode cX12_as 31 = .ok (.aload_n 0, 1) := by decide +kernel
theorem dX12_as_32 : decode cX12_as 32 = .ok (.getfield 32, 3) := by decide +kernel
theorem dX12_as_35 : decode cX12_as 35 = .ok (.iload_n 1, 1) := by decide +kernel
theorem dX12_as_36 : decode cX12_as 36 = .ok (.iaload, 1) := by decide +kernel
theorem dX12_as_37 : decode cX12_as 37 = .ok (.if_icmp .eq 33, 3) := by decide +kernel
theorem dX12_as_40 : decode cX12_as 40 = .ok (.iload_n 2, 1) := by decide +kernel
theorem dX12_as_41 : decode cX12_as 41 = .ok (.iconst 2, 1) := by decide +kernel
theorem dX12_as_42 : decode cX12_as 42 = .ok (.if_icmp .ne 13, 3) := by decide +kernel
theorem dX12_as_45 : decode cX12_as 45 = .ok (.aload_n 0, 1) := by decide +kernel
theorem dX12_as_46 : decode cX12_as 46 = .ok (.getfield 32, 3) := by decide +kernel
theorem dX12_as_49 : decode cX12_as 49 = .ok (.iload_n 1, 1) := by decide +kernel
theorem dX12_as_50 : decode cX12_as 50 = .ok (.iaload, 1) := by decide +kernel
theorem dX12_as_51 : decode cX12_as 51 = .ok (.iconst 3, 1) := by decide +kernel
theorem dX12_as_52 : decode cX12_as 52 = .ok (.if_icmp .eq 18, 3) := by decide +kernel
theorem dX12_as_55 : decode cX12_as 55 = .ok (.iload_n 2, 1) := by decide +kernel
theorem dX12_as_56 : decode cX12_as 56 = .ok (.iconst 1, 1) := by decide +kernel
theorem dX12_as_57 : decode cX12_as 57 = .ok (.if_icmp .ne 17, 3) := by decide +kernel
theorem dX12_as_60 : decode cX12_as 60 = .ok (.aload_n 0, 1) := by decide +kernel
theorem dX12_as_61 : decode cX12_as 61 = .ok (.getfield 32, 3) := by decide +kernel
theorem dX12_as_64 : decode cX12_as 64 = .ok (.iload_n 1, 1) := by decide +kernel
theorem dX12_as_65 : decode cX12_as 65 = .ok (.iaload, 1) := by decide +kernel
theorem dX12_as_66 : decode cX12_as 66 = .ok (.iconst 4, 1) := by decide +kernel
theorem dX12_as_67 : decode cX12_as 67 = .ok (.if_icmp .ne 7, 3) := by decide +kernel
theorem dX12_as_70 : decode cX12_as 70 = .ok (.iconst 1, 1) := by decide +kernel
theorem dX12_as_71 : decode cX12_as 71 = .ok (.goto 4, 3) := by decide +kernel
theorem dX12_as_74 : decode cX12_as 74 = .ok (.iconst 0, 1) := by decide +kernel
theorem dX12_as_75 : decode cX12_as 75 = .ok (.istore_n 3, 1) := by decide +kernel
theorem dX12_as_76 : decode cX12_as 76 = .ok (.iload_n 3, 1) := by decide +kernel
theorem dX12_as_77 : decode cX12_as 77 = .ok (.ifCond .eq 7, 3) := by decide +kernel
theorem dX12_as_80 : decode cX12_as 80 = .ok (.iload_n 1, 1) := by decide +kernel
theorem dX12_as_81 : decode cX12_as 81 = .ok (.goto 4, 3) := by decide +kernel
theorem dX12_as_84 : decode cX12_as 84 = .ok (.iconst (-1), 1) := by decide +kernel
theorem dX12_as_85 : decode cX12_as 85 = .ok (.ireturn, 1) := by decide +kernel

set_option maxHeartbeats 4000000 in
set_option maxRecDepth 100000 in
theorem m_as (l : Launch) (D : va_G) (m0 : Nat) (mp : Nat) (mw : Nat) (mh : Nat) (mo : Nat) (m5 : Nat) (m6 : Nat) (m7 : Nat) (mk : Nat) (mn : Nat) (mq : Nat) (m8 : Nat) (m9 : Nat) (ma : Nat) (mb : Nat) (md : Nat) (p1 : Int32) (p2 : Int32) : Met l yX12_as (Cond.code yX12_as cX12_as 4 (some .int) :: gw_tbl) ({ frames := 2, cells := 0, slots := 0, locals := 46 }) (pc_S D [] [(m0, .inr (12, [.ref mp, .int 0, .int 0, .int 0, .ref mw, .ref mh, .ref mo, .int 0, .int 0, .int 0, .int 0, .int 0, .int 0, .ref m5, .ref m6, .ref m7, .long 0, .int 0, .ref mk, .ref mn, .int 0, .ref mq, .ref m8, .ref m9, .int 0, .int 0, .int 0, .int 0, .ref ma, .int 0, .ref mb, .ref md, .long 0]))] [.ref m0, .int p1, .int p2]) (vp_Si (fun r => r = (-101))) 0 0 (fun _ => False) := by
  refine Met.ofW (cc := cX12_as) (maxL := 4) (ret := (some .int)) (by decide) rfl ?_
  intro p e s m args below meth c s₁ B hml hv
  obtain ⟨hargs, hP, hK⟩ := hv
  have hx := B.exec
  have hb := B.bytes
  have hr := B.returns
  have hts := atoms_spec (ws := Cond.code yX12_as cX12_as 4 (some .int) :: gw_tbl) B.pre
  have hg := fun (w : Cond) (h : w ∈ gw_tbl) => hts w (List.mem_cons_of_mem _ h)
  have hown : s.vm.findClass RX12 = some m.cls := findClass_of_methodNamed B.named
  have hlocks := B.notSynchronized
  have hl := lv_entry ([.ref m0, .int p1, .int p2]) (n := 4) (Nat.le_of_ble_eq_true rfl)
  rw [show entryFrame m args 4 = F0 m 0 (lg_sl ([.ref m0, .int p1, .int p2]) ++ List.replicate (4 - (lg_sl ([.ref m0, .int p1, .int p2])).length) Slot.unset).toArray [] from by rw [hargs]; exact lg_entry_eq ..]
  generalize (lg_sl ([.ref m0, .int p1, .int p2]) ++ List.replicate (4 - (lg_sl ([.ref m0, .int p1, .int p2])).length) Slot.unset).toArray = ls at hl ⊢
  have hl : lv_has ls 4 [(0, .ref m0), (1, .int p1), (2, .int p2)] := hl
  refine W_genQ (fun Q hQ => ?_)
  refine lv_aload_n hx hb dX12_as_0 rfl (lv_at hl 0 rfl) ?_
  refine lv_iload_n hx hb dX12_as_1 rfl (lv_at hl 1 rfl) ?_
  have hPc := hP.sub (ws' := [(m0, .inr (12, [.ref mp, .int 0, .int 0, .int 0, .ref mw, .ref mh, .ref mo, .int 0, .int 0, .int 0, .int 0, .int 0, .int 0, .ref m5, .ref m6, .ref m7, .long 0, .int 0, .ref mk, .ref mn, .int 0, .ref mq, .ref m8, .ref m9, .int 0, .int 0, .int 0, .int 0, .ref ma, .int 0, .ref mb, .ref md, .long 0]))]) [0] rfl
  have hKc := hK.sub (tys' := []) [] rfl
  refine vp_callSi (W.runV (As := [.int p1]) (rest := []) ⟨hx, hb, hml, hown, hg⟩ (m_isPay l D m0 mp mw mh mo m5 m6 m7 mk mn mq m8 m9 ma mb md p1) (cwV 1 hg (gw_V kw_213 kw_214 kw_215 kw_210 kw_212) rfl rfl rfl (by decide +kernel) ⟨Nat.le_of_ble_eq_true rfl, Nat.le_of_ble_eq_true rfl⟩) (pr_SV (q := (RX12, TX12, 33)) 12 0 hKc hPc rfl rfl) rfl rfl hl.1 rfl (lv_room (Nat.le_of_ble_eq_true rfl)) dX12_as_2 ⟨Nat.le_of_ble_eq_true rfl, Nat.le_of_ble_eq_true rfl⟩) (fun r_2 h_2 => ?_)
  obtain rfl : r_2 = (0 : Int32) := h_2
  refine lv_if_ne (tgt := 11) hx hb dX12_as_5 (by decide) (fun c_5 => absurd c_5 (by decide)) (fun c_5 => ?_)
  refine lv_bipush (v := (-101)) hx hb dX12_as_8 (by decide) ?_
  subst hQ
  exact W.iret (v := (-101)) hx hb hr (fun t ht hW => ⟨(-101), rfl, rfl, ht⟩) (fun _ h => absurd h List.not_mem_nil) dX12_as_10

theorem dX12_about_0 : decode cX12_about 0 = .ok (.aload_n 0, 1) := by decide +kernel
theorem dX12_about_1 : decode cX12_about 1 = .ok (.iload_n 1, 1) := by decide +kernel
theorem dX12_about_2 : decode cX12_about 2 = .ok (.invokevirtual 142, 3) := by decide +kernel
theorem dX12_about_5 : decode cX12_about 5 = .ok (.ifCond .ne 6, 3) := by decide +kernel
theorem dX12_about_8 : decode cX12_about 8 = .ok (.bipush (-101), 2) := by decide +kernel
theorem dX12_about_10 : decode cX12_about 10 = .ok (.ireturn, 1) := by decide +kernel
theorem dX12_about_11 : decode cX12_about 11 = .ok (.iload_n 2, 1) := by decide +kernel
theorem dX12_about_12 : decode cX12_about 12 = .ok (.i2l, 1) := by decide +kernel
theorem dX12_about_13 : decode cX12_about 13 = .ok (.lconst 0, 1) := by decide +kernel
theorem dX12_about_14 : decode cX12_about 14 = .ok (.ldc2_w 145, 3) := by decide +kernel
theorem dX12_about_17 : decode cX12_about 17 = .ok (.invokestatic 70, 3) := by decide +kernel
theorem dX12_about_20 : decode cX12_about 20 = .ok (.ifCond .eq 16, 3) := by decide +kernel
theorem dX12_about_23 : decode cX12_about 23 = .ok (.aload_n 0, 1) := by decide +kernel
theorem dX12_about_24 : decode cX12_about 24 = .ok (.getfield 35, 3) := by decide +kernel
theorem dX12_about_27 : decode cX12_about 27 = .ok (.iconst 4, 1) := by decide +kernel
theorem dX12_about_28 : decode cX12_about 28 = .ok (.iload_n 1, 1) := by decide +kernel
theorem dX12_about_29 : decode cX12_about 29 = .ok (.imul, 1) := by decide +kernel
theorem dX12_about_30 : decode cX12_about 30 = .ok (.iload_n 2, 1) := by decide +kernel
theorem dX12_about_31 : decode cX12_about 31 = .ok (.iadd, 1) := by decide +kernel
theorem dX12_about_32 : decode cX12_about 32 = .ok (.iaload, 1) := by decide +kernel
theorem dX12_about_33 : decode cX12_about 33 = .ok (.goto 19, 3) := by decide +kernel
theorem dX12_about_36 : decode cX12_about 36 = .ok (.iload_n 2, 1) := by decide +kernel
theorem dX12_about_37 : decode cX12_about 37 = .ok (.iconst 4, 1) := by decide +kernel
theorem dX12_about_38 : decode cX12_about 38 = .ok (.if_icmp .ne 12, 3) := by decide +kernel
theorem dX12_about_41 : decode cX12_about 41 = .ok (.aload_n 0, 1) := by decide +kernel
theorem dX12_about_42 : decode cX12_about 42 = .ok (.getfield 32, 3) := by decide +kernel
theorem dX12_about_45 : decode cX12_about 45 = .ok (.iload_n 1, 1) := by decide +kernel
theorem dX12_about_46 : decode cX12_about 46 = .ok (.iaload, 1) := by decide +kernel
theorem dX12_about_47 : decode cX12_about 47 = .ok (.goto 5, 3) := by decide +kernel
theorem dX12_about_50 : decode cX12_about 50 = .ok (.bipush (-102), 2) := by decide +kernel
theorem dX12_about_52 : decode cX12_about 52 = .ok (.ireturn, 1) := by decide +kernel

set_option maxHeartbeats 4000000 in
set_option maxRecDepth 100000 in
theorem m_about (l : Launch) (D : va_G) (m0 : Nat) (mp : Nat) (mw : Nat) (mh : Nat) (mo : Nat) (m5 : Nat) (m6 : Nat) (m7 : Nat) (mk : Nat) (mn : Nat) (mq : Nat) (m8 : Nat) (m9 : Nat) (ma : Nat) (mb : Nat) (md : Nat) (p1 : Int32) (p2 : Int32) : Met l yX12_about (Cond.code yX12_about cX12_about 3 (some .int) :: gw_tbl) ({ frames := 2, cells := 0, slots := 0, locals := 46 }) (pc_S D [] [(m0, .inr (12, [.ref mp, .int 0, .int 0, .int 0, .ref mw, .ref mh, .ref mo, .int 0, .int 0, .int 0, .int 0, .int 0, .int 0, .ref m5, .ref m6, .ref m7, .long 0, .int 0, .ref mk, .ref mn, .int 0, .ref mq, .ref m8, .ref m9, .int 0, .int 0, .int 0, .int 0, .ref ma, .int 0, .ref mb, .ref md, .long 0]))] [.ref m0, .int p1, .int p2]) (vp_Si (fun r => r = (-101))) 0 0 (fun _ => False) := by
  refine Met.ofW (cc := cX12_about) (maxL := 3) (ret := (some .int)) (by decide) rfl ?_
  intro p e s m args below meth c s₁ B hml hv
  obtain ⟨hargs, hP, hK⟩ := hv
  have hx := B.exec
  have hb := B.bytes
  have hr := B.returns
  have hts := atoms_spec (ws := Cond.code yX12_about cX12_about 3 (some .int) :: gw_tbl) B.pre
  have hg := fun (w : Cond) (h : w ∈ gw_tbl) => hts w (List.mem_cons_of_mem _ h)
  have hown : s.vm.findClass RX12 = some m.cls := findClass_of_methodNamed B.named
  have hlocks := B.notSynchronized
  have hl := lv_entry ([.ref m0, .int p1, .int p2]) (n := 3) (Nat.le_of_ble_eq_true rfl)
  rw [show entryFrame m args 3 = F0 m 0 (lg_sl ([.ref m0, .int p1, .int p2]) ++ List.replicate (3 - (lg_sl ([.ref m0, .int p1, .int p2])).length) Slot.unset).toArray [] from by rw [hargs]; exact lg_entry_eq ..]
  generalize (lg_sl ([.ref m0, .int p1, .int p2]) ++ List.replicate (3 - (lg_sl ([.ref m0, .int p1, .int p2])).length) Slot.unset).toArray = ls at hl ⊢
  have hl : lv_has ls 3 [(0, .ref m0), (1, .int p1), (2, .int p2)] := hl
  refine W_genQ (fun Q hQ => ?_)
  refine lv_aload_n hx hb dX12_about_0 rfl (lv_at hl 0 rfl) ?_
  refine lv_iload_n hx hb dX12_about_1 rfl (lv_at hl 1 rfl) ?_
  have hPc := hP.sub (ws' := [(m0, .inr (12, [.ref mp, .int 0, .int 0, .int 0, .ref mw, .ref mh, .ref mo, .int 0, .int 0, .int 0, .int 0, .int 0, .int 0, .ref m5, .ref m6, .ref m7, .long 0, .int 0, .ref mk, .ref mn, .int 0, .ref mq, .ref m8, .ref m9, .int 0, .int 0, .int 0, .int 0, .ref ma, .int 0, .ref mb, .ref md, .long 0]))]) [0] rfl
  have hKc := hK.sub (tys' := []) [] rfl
  refine vp_callSi (W.runV (As := [.int p1]) (rest := []) ⟨hx, hb, hml, hown, hg⟩ (m_isPay l D m0 mp mw mh mo m5 m6 m7 mk mn mq m8 m9 ma mb md p1) (cwV 1 hg (gw_V kw_213 kw_214 kw_215 kw_210 kw_212) rfl rfl rfl (by decide +kernel) ⟨Nat.le_of_ble_eq_true rfl, Nat.le_of_ble_eq_true rfl⟩) (pr_SV (q := (RX12, TX12, 33)) 12 0 hKc hPc rfl rfl) rfl rfl hl.1 rfl (lv_room (Nat.le_of_ble_eq_true rfl)) dX12_about_2 ⟨Nat.le_of_ble_eq_true rfl, Nat.le_of_ble_eq_true rfl⟩) (fun r_2 h_2 => ?_)
  obtain rfl : r_2 = (0 : Int32) := h_2
  refine lv_if_ne (tgt := 11) hx hb dX12_about_5 (by decide) (fun c_5 => absurd c_5 (by decide)) (fun c_5 => ?_)
  refine lv_bipush (v := (-101)) hx hb dX12_about_8 (by decide) ?_
  subst hQ
  exact W.iret (v := (-101)) hx hb hr (fun t ht hW => ⟨(-101), rfl, rfl, ht⟩) (fun _ h => absurd h List.not_mem_nil) dX12_about_10

theorem dX12_gets_0 : decode cX12_gets 0 = .ok (.aload_n 0, 1) := by decide +kernel
theorem dX12_gets_1 : decode cX12_gets 1 = .ok (.iload_n 1, 1) := by decide +kernel
theorem dX12_gets_2 : decode cX12_gets 2 = .ok (.invokevirtual 142, 3) := by decide +kernel
theorem dX12_gets_5 : decode cX12_gets 5 = .ok (.ifCond .eq 11, 3) := by decide +kernel
theorem dX12_gets_8 : decode cX12_gets 8 = .ok (.aload_n 0, 1) := by decide +kernel
theorem dX12_gets_9 : decode cX12_gets 9 = .ok (.iload_n 2, 1) := by decide +kernel
theorem dX12_gets_10 : decode cX12_gets 10 = .ok (.invokevirtual 112, 3) := by decide +kernel
theorem dX12_gets_13 : decode cX12_gets 13 = .ok (.ifCond .ne 6, 3) := by decide +kernel
theorem dX12_gets_16 : decode cX12_gets 16 = .ok (.bipush (-101), 2) := by decide +kernel
theorem dX12_gets_18 : decode cX12_gets 18 = .ok (.ireturn, 1) := by decide +kernel
theorem dX12_gets_19 : decode cX12_gets 19 = .ok (.iload_n 3, 1) := by decide +kernel
theorem dX12_gets_20 : decode cX12_gets 20 = .ok (.i2l, 1) := by decide +kernel
theorem dX12_gets_21 : decode cX12_gets 21 = .ok (.lconst 0, 1) := by decide +kernel
theorem dX12_gets_22 : decode cX12_gets 22 = .ok (.iconst 1, 1) := by decide +kernel
theorem dX12_gets_23 : decode cX12_gets 23 = .ok (.aload_n 0, 1) := by decide +kernel
theorem dX12_gets_24 : decode cX12_gets 24 = .ok (.getfield 57, 3) := by decide +kernel
theorem dX12_gets_27 : decode cX12_gets 27 = .ok (.ishl, 1) := by decide +kernel
theorem dX12_gets_28 : decode cX12_gets 28 = .ok (.iconst 1, 1) := by decide +kernel
theorem dX12_gets_29 : decode cX12_gets 29 = .ok (.isub, 1) := by decide +kernel
theorem dX12_gets_30 : decode cX12_gets 30 = .ok (.i2l, 1) := by decide +kernel
theorem dX12_gets_31 : decode cX12_gets 31 = .ok (.invokestatic 70, 3) := by decide +kernel
theorem dX12_gets_34 : decode cX12_gets 34 = .ok (.ifCond .ne 6, 3) := by decide +kernel
theorem dX12_gets_37 : decode cX12_gets 37 = .ok (.bipush (-102), 2) := by decide +kernel
theorem dX12_gets_39 : decode cX12_gets 39 = .ok (.ireturn, 1) := by decide +kernel
theorem dX12_gets_40 : decode cX12_gets 40 = .ok (.aload_n 0, 1) := by decide +kernel
theorem dX12_gets_41 : decode cX12_gets 41 = .ok (.iload_n 1, 1) := by decide +kernel
theorem dX12_gets_42 : decode cX12_gets 42 = .ok (.invokevirtual 154, 3) := by decide +kernel
theorem dX12_gets_45 : decode cX12_gets 45 = .ok (.aload_n 0, 1) := by decide +kernel
theorem dX12_gets_46 : decode cX12_gets 46 = .ok (.iload_n 2, 1) := by decide +kernel
theorem dX12_gets_47 : decode cX12_gets 47 = .ok (.iload_n 3, 1) := by decide +kernel
theorem dX12_gets_48 : decode cX12_gets 48 = .ok (.invokevirtual 158, 3) := by decide +kernel
theorem dX12_gets_51 : decode cX12_gets 51 = .ok (.ireturn, 1) := by decide +kernel

set_option maxHeartbeats 4000000 in
set_option maxRecDepth 100000 in
theorem m_gets (l : Launch) (D : va_G) (m0 : Nat) (mp : Nat) (mw : Nat) (mh : Nat) (mo : Nat) (m5 : Nat) (m6 : Nat) (m7 : Nat) (mk : Nat) (mn : Nat) (mq : Nat) (m8 : Nat) (m9 : Nat) (ma : Nat) (mb : Nat) (md : Nat) (p1 : Int32) (p2 : Int32) (p3 : Int32) : Met l yX12_gets (Cond.code yX12_gets cX12_gets 4 (some .int) :: gw_tbl) ({ frames := 2, cells := 0, slots := 0, locals := 46 }) (pc_S D [] [(m0, .inr (12, [.ref mp, .int 0, .int 0, .int 0, .ref mw, .ref mh, .ref mo, .int 0, .int 0, .int 0, .int 0, .int 0, .int 0, .ref m5, .ref m6, .ref m7, .long 0, .int 0, .ref mk, .ref mn, .int 0, .ref mq, .ref m8, .ref m9, .int 0, .int 0, .int 0, .int 0, .ref ma, .int 0, .ref mb, .ref md, .long 0]))] [.ref m0, .int p1, .int p2, .int p3]) (vp_Si (fun r => r = (-101))) 0 0 (fun _ => False) := by
  refine Met.ofW (cc := cX12_gets) (maxL := 4) (ret := (some .int)) (by decide) rfl ?_
  intro p e s m args below meth c s₁ B hml hv
  obtain ⟨hargs, hP, hK⟩ := hv
  have hx := B.exec
  have hb := B.bytes
  have hr := B.returns
  have hts := atoms_spec (ws := Cond.code yX12_gets cX12_gets 4 (some .int) :: gw_tbl) B.pre
  have hg := fun (w : Cond) (h : w ∈ gw_tbl) => hts w (List.mem_cons_of_mem _ h)
  have hown : s.vm.findClass RX12 = some m.cls := findClass_of_methodNamed B.named
  have hlocks := B.notSynchronized
  have hl := lv_entry ([.ref m0, .int p1, .int p2, .int p3]) (n := 4) (Nat.le_of_ble_eq_true rfl)
  rw [show entryFrame m args 4 = F0 m 0 (lg_sl ([.ref m0, .int p1, .int p2, .int p3]) ++ List.replicate (4 - (lg_sl ([.ref m0, .int p1, .int p2, .int p3])).length) Slot.unset).toArray [] from by rw [hargs]; exact lg_entry_eq ..]
  generalize (lg_sl ([.ref m0, .int p1, .int p2, .int p3]) ++ List.replicate (4 - (lg_sl ([.ref m0, .int p1, .int p2, .int p3])).length) Slot.unset).toArray = ls at hl ⊢
  have hl : lv_has ls 4 [(0, .ref m0), (1, .int p1), (2, .int p2), (3, .int p3)] := hl
  refine W_genQ (fun Q hQ => ?_)
  refine lv_aload_n hx hb dX12_gets_0 rfl (lv_at hl 0 rfl) ?_
  refine lv_iload_n hx hb dX12_gets_1 rfl (lv_at hl 1 rfl) ?_
  have hPc := hP.sub (ws' := [(m0, .inr (12, [.ref mp, .int 0, .int 0, .int 0, .ref mw, .ref mh, .ref mo, .int 0, .int 0, .int 0, .int 0, .int 0, .int 0, .ref m5, .ref m6, .ref m7, .long 0, .int 0, .ref mk, .ref mn, .int 0, .ref mq, .ref m8, .ref m9, .int 0, .int 0, .int 0, .int 0, .ref ma, .int 0, .ref mb, .ref md, .long 0]))]) [0] rfl
  have hKc := hK.sub (tys' := []) [] rfl
  refine vp_callSi (W.runV (As := [.int p1]) (rest := []) ⟨hx, hb, hml, hown, hg⟩ (m_isPay l D m0 mp mw mh mo m5 m6 m7 mk mn mq m8 m9 ma mb md p1) (cwV 1 hg (gw_V kw_213 kw_214 kw_215 kw_210 kw_212) rfl rfl rfl (by decide +kernel) ⟨Nat.le_of_ble_eq_true rfl, Nat.le_of_ble_eq_true rfl⟩) (pr_SV (q := (RX12, TX12, 33)) 12 0 hKc hPc rfl rfl) rfl rfl hl.1 rfl (lv_room (Nat.le_of_ble_eq_true rfl)) dX12_gets_2 ⟨Nat.le_of_ble_eq_true rfl, Nat.le_of_ble_eq_true rfl⟩) (fun r_2 h_2 => ?_)
  obtain rfl : r_2 = (0 : Int32) := h_2
  refine lv_if_eq (tgt := 16) hx hb dX12_gets_5 (by decide) (fun c_5 => ?_) (fun c_5 => absurd c_5 (by decide))
  refine lv_bipush (v := (-101)) hx hb dX12_gets_16 (by decide) ?_
  subst hQ
  exact W.iret (v := (-101)) hx hb hr (fun t ht hW => ⟨(-101), rfl, rfl, ht⟩) (fun _ h => absurd h List.not_mem_nil) dX12_gets_18

theorem dX12_worth_0 : decode cX12_worth 0 = .ok (.aload_n 0, 1) := by decide +kernel
theorem dX12_worth_1 : decode cX12_worth 1 = .ok (.iload_n 1, 1) := by decide +kernel
theorem dX12_worth_2 : decode cX12_worth 2 = .ok (.invokevirtual 142, 3) := by decide +kernel
theorem dX12_worth_5 : decode cX12_worth 5 = .ok (.ifCond .eq 11, 3) := by decide +kernel
theorem dX12_worth_8 : decode cX12_worth 8 = .ok (.aload_n 0, 1) := by decide +kernel
theorem dX12_worth_9 : decode cX12_worth 9 = .ok (.iload_n 3, 1) := by decide +kernel
theorem dX12_worth_10 : decode cX12_worth 10 = .ok (.invokevirtual 112, 3) := by decide +kernel
theorem dX12_worth_13 : decode cX12_worth 13 = .ok (.ifCond .ne 7, 3) := by decide +kernel
theorem dX12_worth_16 : decode cX12_worth 16 = .ok (.ldc2_w 170, 3) := by decide +kernel
theorem dX12_worth_19 : decode cX12_worth 19 = .ok (.lreturn, 1) := by decide +kernel
theorem dX12_worth_20 : decode cX12_worth 20 = .ok (.iload_n 2, 1) := by decide +kernel
theorem dX12_worth_21 : decode cX12_worth 21 = .ok (.i2l, 1) := by decide +kernel
theorem dX12_worth_22 : decode cX12_worth 22 = .ok (.lconst 0, 1) := by decide +kernel
theorem dX12_worth_23 : decode cX12_worth 23 = .ok (.aload_n 0, 1) := by decide +kernel
theorem dX12_worth_24 : decode cX12_worth 24 = .ok (.invokevirtual 172, 3) := by decide +kernel
theorem dX12_worth_27 : decode cX12_worth 27 = .ok (.iconst 1, 1) := by decide +kernel
theorem dX12_worth_28 : decode cX12_worth 28 = .ok (.isub, 1) := by decide +kernel
theorem dX12_worth_29 : decode cX12_worth 29 = .ok (.i2l, 1) := by decide +kernel
theorem dX12_worth_30 : decode cX12_worth 30 = .ok (.invokestatic 70, 3) := by decide +kernel
theorem dX12_worth_33 : decode cX12_worth 33 = .ok (.ifCond .eq 14, 3) := by decide +kernel
theorem dX12_worth_36 : decode cX12_worth 36 = .ok (.iload 4, 2) := by decide +kernel
theorem dX12_worth_38 : decode cX12_worth 38 = .ok (.i2l, 1) := by decide +kernel
theorem dX12_worth_39 : decode cX12_worth 39 = .ok (.lconst 0, 1) := by decide +kernel
theorem dX12_worth_40 : decode cX12_worth 40 = .ok (.lconst 1, 1) := by decide +kernel
theorem dX12_worth_41 : decode cX12_worth 41 = .ok (.invokestatic 70, 3) := by decide +kernel
theorem dX12_worth_44 : decode cX12_worth 44 = .ok (.ifCond .ne 7, 3) := by decide +kernel
theorem dX12_worth_47 : decode cX12_worth 47 = .ok (.ldc2_w 175, 3) := by decide +kernel
theorem dX12_worth_50 : decode cX12_worth 50 = .ok (.lreturn, 1) := by decide +kernel
theorem dX12_worth_51 : decode cX12_worth 51 = .ok (.aload_n 0, 1) := by decide +kernel
theorem dX12_worth_52 : decode cX12_worth 52 = .ok (.iload_n 1, 1) := by decide +kernel
theorem dX12_worth_53 : decode cX12_worth 53 = .ok (.invokevirtual 154, 3) := by decide +kernel
theorem dX12_worth_56 : decode cX12_worth 56 = .ok (.aload_n 0, 1) := by decide +kernel
theorem dX12_worth_57 : decode cX12_worth 57 = .ok (.iload_n 2, 1) := by decide +kernel
theorem dX12_worth_58 : decode cX12_worth 58 = .ok (.iload_n 3, 1) := by decide +kernel
theorem dX12_worth_59 : decode cX12_worth 59 = .ok (.invokevirtual 177, 3) := by decide +kernel
theorem dX12_worth_62 : decode cX12_worth 62 = .ok (.ldc2_w 168, 3) := by decide +kernel
theorem dX12_worth_65 : decode cX12_worth 65 = .ok (.aload_n 0, 1) := by decide +kernel
theorem dX12_worth_66 : decode cX12_worth 66 = .ok (.getfield 117, 3) := by decide +kernel
theorem dX12_worth_69 : decode cX12_worth 69 = .ok (.lmul, 1) := by decide +kernel
theorem dX12_worth_70 : decode cX12_worth 70 = .ok (.iload 4, 2) := by decide +kernel
theorem dX12_worth_72 : decode cX12_worth 72 = .ok (.invokestatic 133, 3) := by decide +kernel
theorem dX12_worth_75 : decode cX12_worth 75 = .ok (.lreturn, 1) := by decide +kernel
theorem kw_222 : (.constantLong RX12 170 (-2000000000000000001) : Cond) ∈ gw_tbl := gw_in (by decide +kernel) (by decide +kernel)

set_option maxHeartbeats 4000000 in
set_option maxRecDepth 100000 in
theorem m_worth (l : Launch) (D : va_G) (m0 : Nat) (mp : Nat) (mw : Nat) (mh : Nat) (mo : Nat) (m5 : Nat) (m6 : Nat) (m7 : Nat) (mk : Nat) (mn : Nat) (mq : Nat) (m8 : Nat) (m9 : Nat) (ma : Nat) (mb : Nat) (md : Nat) (p1 : Int32) (p2 : Int32) (p3 : Int32) (p4 : Int32) : Met l yX12_worth (Cond.code yX12_worth cX12_worth 5 (some .long) :: gw_tbl) ({ frames := 2, cells := 0, slots := 0, locals := 46 }) (pc_S D [] [(m0, .inr (12, [.ref mp, .int 0, .int 0, .int 0, .ref mw, .ref mh, .ref mo, .int 0, .int 0, .int 0, .int 0, .int 0, .int 0, .ref m5, .ref m6, .ref m7, .long 0, .int 0, .ref mk, .ref mn, .int 0, .ref mq, .ref m8, .ref m9, .int 0, .int 0, .int 0, .int 0, .ref ma, .int 0, .ref mb, .ref md, .long 0]))] [.ref m0, .int p1, .int p2, .int p3, .int p4]) (vp_Sl (fun r => r = (-2000000000000000001))) 0 0 (fun _ => False) := by
  refine Met.ofW (cc := cX12_worth) (maxL := 5) (ret := (some .long)) (by decide) rfl ?_
  intro p e s m args below meth c s₁ B hml hv
  obtain ⟨hargs, hP, hK⟩ := hv
  have hx := B.exec
  have hb := B.bytes
  have hr := B.returns
  have hts := atoms_spec (ws := Cond.code yX12_worth cX12_worth 5 (some .long) :: gw_tbl) B.pre
  have hg := fun (w : Cond) (h : w ∈ gw_tbl) => hts w (List.mem_cons_of_mem _ h)
  have hown : s.vm.findClass RX12 = some m.cls := findClass_of_methodNamed B.named
  have hlocks := B.notSynchronized
  have hl := lv_entry ([.ref m0, .int p1, .int p2, .int p3, .int p4]) (n := 5) (Nat.le_of_ble_eq_true rfl)
  rw [show entryFrame m args 5 = F0 m 0 (lg_sl ([.ref m0, .int p1, .int p2, .int p3, .int p4]) ++ List.replicate (5 - (lg_sl ([.ref m0, .int p1, .int p2, .int p3, .int p4])).length) Slot.unset).toArray [] from by rw [hargs]; exact lg_entry_eq ..]
  generalize (lg_sl ([.ref m0, .int p1, .int p2, .int p3, .int p4]) ++ List.replicate (5 - (lg_sl ([.ref m0, .int p1, .int p2, .int p3, .int p4])).length) Slot.unset).toArray = ls at hl ⊢
  have hl : lv_has ls 5 [(0, .ref m0), (1, .int p1), (2, .int p2), (3, .int p3), (4, .int p4)] := hl
  refine W_genQ (fun Q hQ => ?_)
  refine lv_aload_n hx hb dX12_worth_0 rfl (lv_at hl 0 rfl) ?_
  refine lv_iload_n hx hb dX12_worth_1 rfl (lv_at hl 1 rfl) ?_
  have hPc := hP.sub (ws' := [(m0, .inr (12, [.ref mp, .int 0, .int 0, .int 0, .ref mw, .ref mh, .ref mo, .int 0, .int 0, .int 0, .int 0, .int 0, .int 0, .ref m5, .ref m6, .ref m7, .long 0, .int 0, .ref mk, .ref mn, .int 0, .ref mq, .ref m8, .ref m9, .int 0, .int 0, .int 0, .int 0, .ref ma, .int 0, .ref mb, .ref md, .long 0]))]) [0] rfl
  have hKc := hK.sub (tys' := []) [] rfl
  refine vp_callSi (W.runV (As := [.int p1]) (rest := []) ⟨hx, hb, hml, hown, hg⟩ (m_isPay l D m0 mp mw mh mo m5 m6 m7 mk mn mq m8 m9 ma mb md p1) (cwV 1 hg (gw_V kw_213 kw_214 kw_215 kw_210 kw_212) rfl rfl rfl (by decide +kernel) ⟨Nat.le_of_ble_eq_true rfl, Nat.le_of_ble_eq_true rfl⟩) (pr_SV (q := (RX12, TX12, 33)) 12 0 hKc hPc rfl rfl) rfl rfl hl.1 rfl (lv_room (Nat.le_of_ble_eq_true rfl)) dX12_worth_2 ⟨Nat.le_of_ble_eq_true rfl, Nat.le_of_ble_eq_true rfl⟩) (fun r_2 h_2 => ?_)
  obtain rfl : r_2 = (0 : Int32) := h_2
  refine lv_if_eq (tgt := 16) hx hb dX12_worth_5 (by decide) (fun c_5 => ?_) (fun c_5 => absurd c_5 (by decide))
  refine lv_ldc2 hx hb hown (hg _ kw_222) dX12_worth_16 ?_
  subst hQ
  exact W.lret (v := (-2000000000000000001)) hx hb hr (fun t ht hW => ⟨(-2000000000000000001), rfl, rfl, ht⟩) (fun _ h => absurd h List.not_mem_nil) dX12_worth_19

theorem dX12_rests_0 : decode cX12_rests 0 = .ok (.aload_n 0, 1) := by decide +kernel
theorem dX12_rests_1 : decode cX12_rests 1 = .ok (.iload_n 1, 1) := by decide +kernel
theorem dX12_rests_2 : decode cX12_rests 2 = .ok (.iload_n 2, 1) := by decide +kernel
theorem dX12_rests_3 : decode cX12_rests 3 = .ok (.iload_n 3, 1) := by decide +kernel
theorem dX12_rests_4 : decode cX12_rests 4 = .ok (.i2l, 1) := by decide +kernel
theorem dX12_rests_5 : decode cX12_rests 5 = .ok (.lconst 0, 1) := by decide +kernel
theorem dX12_rests_6 : decode cX12_rests 6 = .ok (.ldc2_w 191, 3) := by decide +kernel
theorem dX12_rests_9 : decode cX12_rests 9 = .ok (.invokestatic 70, 3) := by decide +kernel
theorem dX12_rests_12 : decode cX12_rests 12 = .ok (.invokevirtual 193, 3) := by decide +kernel
theorem dX12_rests_15 : decode cX12_rests 15 = .ok (.istore 4, 2) := by decide +kernel
theorem dX12_rests_17 : decode cX12_rests 17 = .ok (.iload 4, 2) := by decide +kernel
theorem dX12_rests_19 : decode cX12_rests 19 = .ok (.ifCond .eq 6, 3) := by decide +kernel
theorem dX12_rests_22 : decode cX12_rests 22 = .ok (.iload 4, 2) := by decide +kernel
theorem dX12_rests_24 : decode cX12_rests 24 = .ok (.ireturn, 1) := by decide +kernel
theorem dX12_rests_25 : decode cX12_rests 25 = .ok (.aload_n 0, 1) := by decide +kernel
theorem dX12_rests_26 : decode cX12_rests 26 = .ok (.iload_n 1, 1) := by decide +kernel
theorem dX12_rests_27 : decode cX12_rests 27 = .ok (.invokevirtual 197, 3) := by decide +kernel
theorem dX12_rests_30 : decode cX12_rests 30 = .ok (.aload_n 0, 1) := by decide +kernel
theorem dX12_rests_31 : decode cX12_rests 31 = .ok (.iload_n 2, 1) := by decide +kernel
theorem dX12_rests_32 : decode cX12_rests 32 = .ok (.invokevirtual 200, 3) := by decide +kernel
theorem dX12_rests_35 : decode cX12_rests 35 = .ok (.istore 5, 2) := by decide +kernel
theorem dX12_rests_37 : decode cX12_rests 37 = .ok (.iload_n 3, 1) := by decide +kernel
theorem dX12_rests_38 : decode cX12_rests 38 = .ok (.ifCond .ne 17, 3) := by decide +kernel
theorem dX12_rests_41 : decode cX12_rests 41 = .ok (.iload 5, 2) := by decide +kernel
theorem dX12_rests_43 : decode cX12_rests 43 = .ok (.iconst (-1), 1) := by decide +kernel
theorem dX12_rests_44 : decode cX12_rests 44 = .ok (.if_icmp .ne 7, 3) := by decide +kernel
theorem dX12_rests_47 : decode cX12_rests 47 = .ok (.iconst 1, 1) := by decide +kernel
theorem dX12_rests_48 : decode cX12_rests 48 = .ok (.goto 30, 3) := by decide +kernel
theorem dX12_rests_51 : decode cX12_rests 51 = .ok (.iconst 0, 1) := by decide +kernel
theorem dX12_rests_52 : decode cX12_rests 52 = .ok (.goto 26, 3) := by decide +kernel
theorem dX12_rests_55 : decode cX12_rests 55 = .ok (.iload_n 3, 1) := by decide +kernel
theorem dX12_rests_56 : decode cX12_rests 56 = .ok (.iconst 1, 1) := by decide +kernel
theorem dX12_rests_57 : decode cX12_rests 57 = .ok (.if_icmp .eq 9, 3) := by decide +kernel
theorem dX12_rests_60 : decode cX12_rests 60 = .ok (.iload 5, 2) := by decide +kernel
theorem dX12_rests_62 : decode cX12_rests 62 = .ok (.iconst (-1), 1) := by decide +kernel
theorem dX12_rests_63 : decode cX12_rests 63 = .ok (.if_icmp .ne 8, 3) := by decide +kernel
theorem dX12_rests_66 : decode cX12_rests 66 = .ok (.iload 5, 2) := by decide +kernel
theorem dX12_rests_68 : decode cX12_rests 68 = .ok (.goto 10, 3) := by decide +kernel
theorem dX12_rests_71 : decode cX12_rests 71 = .ok (.aload_n 0, 1) := by decide +kernel
theorem dX12_rests_72 : decode cX12_rests 72 = .ok (.iload_n 2, 1) := by decide +kernel
theorem dX12_rests_73 : decode cX12_rests 73 = .ok (.iload 5, 2) := by decide +kernel
theorem dX12_rests_75 : decode cX12_rests 75 = .ok (.invokevirtual 185, 3) := by decide +kernel
theorem dX12_rests_78 : decode cX12_rests 78 = .ok (.ireturn, 1) := by decide +kernel
theorem kw_223 : (.constantLong RX12 191 (2) : Cond) ∈ gw_tbl := gw_in (by decide +kernel) (by decide +kernel)
theorem kw_224 : (.code yX12_refusal cX12_refusal 4 (some .int) : Cond) ∈ gw_tbl := gw_in (by decide +kernel) (by decide +kernel)
theorem kw_225 : (.methodLink RX12 193 yX12_refusal : Cond) ∈ gw_tbl := gw_in (by decide +kernel) (by decide +kernel)
theorem kw_226 : (.instanceMethod yX12_refusal : Cond) ∈ gw_tbl := gw_in (by decide +kernel) (by decide +kernel)
theorem kw_227 : (.selects RX12 yX12_refusal yX12_refusal : Cond) ∈ gw_tbl := gw_in (by decide +kernel) (by decide +kernel)

set_option maxHeartbeats 4000000 in
set_option maxRecDepth 100000 in
theorem m_rests (l : Launch) (D : va_G) (m0 : Nat) (mp : Nat) (mw : Nat) (mh : Nat) (mo : Nat) (m5 : Nat) (m6 : Nat) (m7 : Nat) (mk : Nat) (mn : Nat) (mq : Nat) (m8 : Nat) (m9 : Nat) (ma : Nat) (mb : Nat) (md : Nat) (p1 : Int32) (p2 : Int32) (p3 : Int32) : Met l yX12_rests (Cond.code yX12_rests cX12_rests 6 (some .int) :: gw_tbl) ({ frames := 3, cells := 0, slots := 0, locals := 69 }) (pc_S D [] [(m0, .inr (12, [.ref mp, .int 0, .int 0, .int 0, .ref mw, .ref mh, .ref mo, .int 0, .int 0, .int 0, .int 0, .int 0, .int 0, .ref m5, .ref m6, .ref m7, .long 0, .int 0, .ref mk, .ref mn, .int 0, .ref mq, .ref m8, .ref m9, .int 0, .int 0, .int 0, .int 0, .ref ma, .int 0, .ref mb, .ref md, .long 0]))] [.ref m0, .int p1, .int p2, .int p3]) (vp_Si (fun r => r = (-101))) 0 0 (fun _ => False) := by
  refine Met.ofW (cc := cX12_rests) (maxL := 6) (ret := (some .int)) (by decide) rfl ?_
  intro p e s m args below meth c s₁ B hml hv
  obtain ⟨hargs, hP, hK⟩ := hv
  have hx := B.exec
  have hb := B.bytes
  have hr := B.returns
  have hts := atoms_spec (ws := Cond.code yX12_rests cX12_rests 6 (some .int) :: gw_tbl) B.pre
  have hg := fun (w : Cond) (h : w ∈ gw_tbl) => hts w (List.mem_cons_of_mem _ h)
  have hown : s.vm.findClass RX12 = some m.cls := findClass_of_methodNamed B.named
  have hlocks := B.notSynchronized
  have hl := lv_entry ([.ref m0, .int p1, .int p2, .int p3]) (n := 6) (Nat.le_of_ble_eq_true rfl)
  rw [show entryFrame m args 6 = F0 m 0 (lg_sl ([.ref m0, .int p1, .int p2, .int p3]) ++ List.replicate (6 - (lg_sl ([.ref m0, .int p1, .int p2, .int p3])).length) Slot.unset).toArray [] from by rw [hargs]; exact lg_entry_eq ..]
  generalize (lg_sl ([.ref m0, .int p1, .int p2, .int p3]) ++ List.replicate (6 - (lg_sl ([.ref m0, .int p1, .int p2, .int p3])).length) Slot.unset).toArray = ls at hl ⊢
  have hl : lv_has ls 6 [(0, .ref m0), (1, .int p1), (2, .int p2), (3, .int p3)] := hl
  refine W_genQ (fun Q hQ => ?_)
  refine lv_aload_n hx hb dX12_rests_0 rfl (lv_at hl 0 rfl) ?_
  refine lv_iload_n hx hb dX12_rests_1 rfl (lv_at hl 1 rfl) ?_
  refine lv_iload_n hx hb dX12_rests_2 rfl (lv_at hl 2 rfl) ?_
  refine lv_iload_n hx hb dX12_rests_3 rfl (lv_at hl 3 rfl) ?_
  refine lv_i2l hx hb dX12_rests_4 rfl ?_
  refine lv_topl (fun z_4 e_4 => ?_)
  refine lv_lconst (v := 0) hx hb dX12_rests_5 (by decide) ?_
  refine lv_ldc2 hx hb hown (hg _ kw_223) dX12_rests_6 ?_
  refine vp_callSi (W.runS (As := [.long z_4, .long 0, .long 2]) (rest := [.int p2, .int p1, .ref m0]) ⟨hx, hb, hml, hown, hg⟩ (c_in l z_4 0 2) (va_cwS 3 hg (gw_S kw_208 kw_209 kw_210 kw_207) rfl rfl rfl (by decide +kernel) ⟨Nat.le_of_ble_eq_true rfl, Nat.le_of_ble_eq_true rfl⟩) pr_0 rfl rfl hl.1 rfl (lv_room (Nat.le_of_ble_eq_true rfl)) dX12_rests_9 ⟨Nat.le_of_ble_eq_true rfl, Nat.le_of_ble_eq_true rfl⟩) (fun r_9 h_9 => ?_)
  try dsimp only at h_9
  have hPc := hP.sub (ws' := [(m0, .inr (12, [.ref mp, .int 0, .int 0, .int 0, .ref mw, .ref mh, .ref mo, .int 0, .int 0, .int 0, .int 0, .int 0, .int 0, .ref m5, .ref m6, .ref m7, .long 0, .int 0, .ref mk, .ref mn, .int 0, .ref mq, .ref m8, .ref m9, .int 0, .int 0, .int 0, .int 0, .ref ma, .int 0, .ref mb, .ref md, .long 0]))]) [0] rfl
  have hKc := hK.sub (tys' := []) [] rfl
  refine vp_callSi (W.runV (As := [.int p1, .int p2, .int r_9]) (rest := []) ⟨hx, hb, hml, hown, hg⟩ (m_refusal l D m0 mp mw mh mo m5 m6 m7 mk mn mq m8 m9 ma mb md p1 p2 r_9) (cwV 3 hg (gw_V kw_225 kw_226 kw_227 kw_210 kw_224) rfl rfl rfl (by decide +kernel) ⟨Nat.le_of_ble_eq_true rfl, Nat.le_of_ble_eq_true rfl⟩) (pr_SV (q := (RX12, TX12, 33)) 12 0 hKc hPc rfl rfl) rfl rfl hl.1 rfl (lv_room (Nat.le_of_ble_eq_true rfl)) dX12_rests_12 ⟨Nat.le_of_ble_eq_true rfl, Nat.le_of_ble_eq_true rfl⟩) (fun r_12 h_12 => ?_)
  obtain rfl : r_12 = ((-101) : Int32) := h_12
  refine lv_istore (lv' := [(4, .int (-101)), (0, .ref m0), (1, .int p1), (2, .int p2), (3, .int p3)]) hx hb dX12_rests_15 hl (by decide) rfl (fun ls hl => ?_)
  refine lv_iload hx hb dX12_rests_17 (lv_at hl 0 rfl) ?_
  refine lv_if_eq (tgt := 25) hx hb dX12_rests_19 (by decide) (fun c_19 => absurd c_19 (by decide)) (fun c_19 => ?_)
  refine lv_iload hx hb dX12_rests_22 (lv_at hl 0 rfl) ?_
  subst hQ
  exact W.iret (v := (-101)) hx hb hr (fun t ht hW => ⟨(-101), rfl, rfl, ht⟩) (fun _ h => absurd h List.not_mem_nil) dX12_rests_24

theorem dX12_gain_0 : decode cX12_gain 0 = .ok (.aload_n 0, 1) := by decide +kernel
theorem dX12_gain_1 : decode cX12_gain 1 = .ok (.iload_n 1, 1) := by decide +kernel
theorem dX12_gain_2 : decode cX12_gain 2 = .ok (.invokevirtual 142, 3) := by decide +kernel
theorem dX12_gain_5 : decode cX12_gain 5 = .ok (.ifCond .eq 11, 3) := by decide +kernel
theorem dX12_gain_8 : decode cX12_gain 8 = .ok (.aload_n 0, 1) := by decide +kernel
theorem dX12_gain_9 : decode cX12_gain 9 = .ok (.iload_n 3, 1) := by decide +kernel
theorem dX12_gain_10 : decode cX12_gain 10 = .ok (.invokevirtual 112, 3) := by decide +kernel
theorem dX12_gain_13 : decode cX12_gain 13 = .ok (.ifCond .ne 7, 3) := by decide +kernel
theorem dX12_gain_16 : decode cX12_gain 16 = .ok (.ldc2_w 127, 3) := by decide +kernel
theorem dX12_gain_19 : decode cX12_gain 19 = .ok (.lreturn, 1) := by decide +kernel
theorem dX12_gain_20 : decode cX12_gain 20 = .ok (.iload_n 2, 1) := by decide +kernel
theorem dX12_gain_21 : decode cX12_gain 21 = .ok (.i2l, 1) := by decide +kernel
theorem dX12_gain_22 : decode cX12_gain 22 = .ok (.lconst 0, 1) := by decide +kernel
theorem dX12_gain_23 : decode cX12_gain 23 = .ok (.aload_n 0, 1) := by decide +kernel
theorem dX12_gain_24 : decode cX12_gain 24 = .ok (.invokevirtual 172, 3) := by decide +kernel
theorem dX12_gain_27 : decode cX12_gain 27 = .ok (.iconst 1, 1) := by decide +kernel
theorem dX12_gain_28 : decode cX12_gain 28 = .ok (.isub, 1) := by decide +kernel
theorem dX12_gain_29 : decode cX12_gain 29 = .ok (.i2l, 1) := by decide +kernel
theorem dX12_gain_30 : decode cX12_gain 30 = .ok (.invokestatic 70, 3) := by decide +kernel
theorem dX12_gain_33 : decode cX12_gain 33 = .ok (.ifCond .eq 14, 3) := by decide +kernel
theorem dX12_gain_36 : decode cX12_gain 36 = .ok (.iload 4, 2) := by decide +kernel
theorem dX12_gain_38 : decode cX12_gain 38 = .ok (.i2l, 1) := by decide +kernel
theorem dX12_gain_39 : decode cX12_gain 39 = .ok (.lconst 0, 1) := by decide +kernel
theorem dX12_gain_40 : decode cX12_gain 40 = .ok (.lconst 1, 1) := by decide +kernel
theorem dX12_gain_41 : decode cX12_gain 41 = .ok (.invokestatic 70, 3) := by decide +kernel
theorem dX12_gain_44 : decode cX12_gain 44 = .ok (.ifCond .ne 7, 3) := by decide +kernel
theorem dX12_gain_47 : decode cX12_gain 47 = .ok (.ldc2_w 129, 3) := by decide +kernel
theorem dX12_gain_50 : decode cX12_gain 50 = .ok (.lreturn, 1) := by decide +kernel
theorem dX12_gain_51 : decode cX12_gain 51 = .ok (.aload_n 0, 1) := by decide +kernel
theorem dX12_gain_52 : decode cX12_gain 52 = .ok (.iload_n 1, 1) := by decide +kernel
theorem dX12_gain_53 : decode cX12_gain 53 = .ok (.invokevirtual 197, 3) := by decide +kernel
theorem dX12_gain_56 : decode cX12_gain 56 = .ok (.aload_n 0, 1) := by decide +kernel
theorem dX12_gain_57 : decode cX12_gain 57 = .ok (.iload_n 2, 1) := by decide +kernel
theorem dX12_gain_58 : decode cX12_gain 58 = .ok (.iload_n 3, 1) := by decide +kernel
theorem dX12_gain_59 : decode cX12_gain 59 = .ok (.invokevirtual 188, 3) := by decide +kernel
theorem dX12_gain_62 : decode cX12_gain 62 = .ok (.ldc2_w 168, 3) := by decide +kernel
theorem dX12_gain_65 : decode cX12_gain 65 = .ok (.aload_n 0, 1) := by decide +kernel
theorem dX12_gain_66 : decode cX12_gain 66 = .ok (.getfield 117, 3) := by decide +kernel
theorem dX12_gain_69 : decode cX12_gain 69 = .ok (.lmul, 1) := by decide +kernel
theorem dX12_gain_70 : decode cX12_gain 70 = .ok (.iload 4, 2) := by decide +kernel
theorem dX12_gain_72 : decode cX12_gain 72 = .ok (.invokestatic 133, 3) := by decide +kernel
theorem dX12_gain_75 : decode cX12_gain 75 = .ok (.lreturn, 1) := by decide +kernel

set_option maxHeartbeats 4000000 in
set_option maxRecDepth 100000 in
theorem m_gain (l : Launch) (D : va_G) (m0 : Nat) (mp : Nat) (mw : Nat) (mh : Nat) (mo : Nat) (m5 : Nat) (m6 : Nat) (m7 : Nat) (mk : Nat) (mn : Nat) (mq : Nat) (m8 : Nat) (m9 : Nat) (ma : Nat) (mb : Nat) (md : Nat) (p1 : Int32) (p2 : Int32) (p3 : Int32) (p4 : Int32) : Met l yX12_gain (Cond.code yX12_gain cX12_gain 5 (some .long) :: gw_tbl) ({ frames := 2, cells := 0, slots := 0, locals := 46 }) (pc_S D [] [(m0, .inr (12, [.ref mp, .int 0, .int 0, .int 0, .ref mw, .ref mh, .ref mo, .int 0, .int 0, .int 0, .int 0, .int 0, .int 0, .ref m5, .ref m6, .ref m7, .long 0, .int 0, .ref mk, .ref mn, .int 0, .ref mq, .ref m8, .ref m9, .int 0, .int 0, .int 0, .int 0, .ref ma, .int 0, .ref mb, .ref md, .long 0]))] [.ref m0, .int p1, .int p2, .int p3, .int p4]) (vp_Sl (fun r => r = (-101))) 0 0 (fun _ => False) := by
  refine Met.ofW (cc := cX12_gain) (maxL := 5) (ret := (some .long)) (by decide) rfl ?_
  intro p e s m args below meth c s₁ B hml hv
  obtain ⟨hargs, hP, hK⟩ := hv
  have hx := B.exec
  have hb := B.bytes
  have hr := B.returns
  have hts := atoms_spec (ws := Cond.code yX12_gain cX12_gain 5 (some .long) :: gw_tbl) B.pre
  have hg := fun (w : Cond) (h : w ∈ gw_tbl) => hts w (List.mem_cons_of_mem _ h)
  have hown : s.vm.findClass RX12 = some m.cls := findClass_of_methodNamed B.named
  have hlocks := B.notSynchronized
  have hl := lv_entry ([.ref m0, .int p1, .int p2, .int p3, .int p4]) (n := 5) (Nat.le_of_ble_eq_true rfl)
  rw [show entryFrame m args 5 = F0 m 0 (lg_sl ([.ref m0, .int p1, .int p2, .int p3, .int p4]) ++ List.replicate (5 - (lg_sl ([.ref m0, .int p1, .int p2, .int p3, .int p4])).length) Slot.unset).toArray [] from by rw [hargs]; exact lg_entry_eq ..]
  generalize (lg_sl ([.ref m0, .int p1, .int p2, .int p3, .int p4]) ++ List.replicate (5 - (lg_sl ([.ref m0, .int p1, .int p2, .int p3, .int p4])).length) Slot.unset).toArray = ls at hl ⊢
  have hl : lv_has ls 5 [(0, .ref m0), (1, .int p1), (2, .int p2), (3, .int p3), (4, .int p4)] := hl
  refine W_genQ (fun Q hQ => ?_)
  refine lv_aload_n hx hb dX12_gain_0 rfl (lv_at hl 0 rfl) ?_
  refine lv_iload_n hx hb dX12_gain_1 rfl (lv_at hl 1 rfl) ?_
  have hPc := hP.sub (ws' := [(m0, .inr (12, [.ref mp, .int 0, .int 0, .int 0, .ref mw, .ref mh, .ref mo, .int 0, .int 0, .int 0, .int 0, .int 0, .int 0, .ref m5, .ref m6, .ref m7, .long 0, .int 0, .ref mk, .ref mn, .int 0, .ref mq, .ref m8, .ref m9, .int 0, .int 0, .int 0, .int 0, .ref ma, .int 0, .ref mb, .ref md, .long 0]))]) [0] rfl
  have hKc := hK.sub (tys' := []) [] rfl
  refine vp_callSi (W.runV (As := [.int p1]) (rest := []) ⟨hx, hb, hml, hown, hg⟩ (m_isPay l D m0 mp mw mh mo m5 m6 m7 mk mn mq m8 m9 ma mb md p1) (cwV 1 hg (gw_V kw_213 kw_214 kw_215 kw_210 kw_212) rfl rfl rfl (by decide +kernel) ⟨Nat.le_of_ble_eq_true rfl, Nat.le_of_ble_eq_true rfl⟩) (pr_SV (q := (RX12, TX12, 33)) 12 0 hKc hPc rfl rfl) rfl rfl hl.1 rfl (lv_room (Nat.le_of_ble_eq_true rfl)) dX12_gain_2 ⟨Nat.le_of_ble_eq_true rfl, Nat.le_of_ble_eq_true rfl⟩) (fun r_2 h_2 => ?_)
  obtain rfl : r_2 = (0 : Int32) := h_2
  refine lv_if_eq (tgt := 16) hx hb dX12_gain_5 (by decide) (fun c_5 => ?_) (fun c_5 => absurd c_5 (by decide))
  refine lv_ldc2 hx hb hown (hg _ kw_221) dX12_gain_16 ?_
  subst hQ
  exact W.lret (v := (-101)) hx hb hr (fun t ht hW => ⟨(-101), rfl, rfl, ht⟩) (fun _ h => absurd h List.not_mem_nil) dX12_gain_19

theorem dX12_all_0 : decode cX12_all 0 = .ok (.aload_n 0, 1) := by decide +kernel
theorem dX12_all_1 : decode cX12_all 1 = .ok (.iload_n 1, 1) := by decide +kernel
theorem dX12_all_2 : decode cX12_all 2 = .ok (.iconst 0, 1) := by decide +kernel
theorem dX12_all_3 : decode cX12_all 3 = .ok (.iload_n 2, 1) := by decide +kernel
theorem dX12_all_4 : decode cX12_all 4 = .ok (.i2l, 1) := by decide +kernel
theorem dX12_all_5 : decode cX12_all 5 = .ok (.lconst 0, 1) := by decide +kernel
theorem dX12_all_6 : decode cX12_all 6 = .ok (.lconst 1, 1) := by decide +kernel
theorem dX12_all_7 : decode cX12_all 7 = .ok (.invokestatic 70, 3) := by decide +kernel
theorem dX12_all_10 : decode cX12_all 10 = .ok (.ifCond .ne 17, 3) := by decide +kernel
theorem dX12_all_13 : decode cX12_all 13 = .ok (.iload_n 2, 1) := by decide +kernel
theorem dX12_all_14 : decode cX12_all 14 = .ok (.i2l, 1) := by decide +kernel
theorem dX12_all_15 : decode cX12_all 15 = .ok (.ldc2_w 207, 3) := by decide +kernel
theorem dX12_all_18 : decode cX12_all 18 = .ok (.ldc2_w 209, 3) := by decide +kernel
theorem dX12_all_21 : decode cX12_all 21 = .ok (.invokestatic 70, 3) := by decide +kernel
theorem dX12_all_24 : decode cX12_all 24 = .ok (.ifCond .eq 7, 3) := by decide +kernel
theorem dX12_all_27 : decode cX12_all 27 = .ok (.iconst 1, 1) := by decide +kernel
theorem dX12_all_28 : decode cX12_all 28 = .ok (.goto 4, 3) := by decide +kernel
theorem dX12_all_31 : decode cX12_all 31 = .ok (.iconst 0, 1) := by decide +kernel
theorem dX12_all_32 : decode cX12_all 32 = .ok (.invokevirtual 193, 3) := by decide +kernel
theorem dX12_all_35 : decode cX12_all 35 = .ok (.istore_n 3, 1) := by decide +kernel
theorem dX12_all_36 : decode cX12_all 36 = .ok (.iload_n 3, 1) := by decide +kernel
theorem dX12_all_37 : decode cX12_all 37 = .ok (.ifCond .eq 7, 3) := by decide +kernel
theorem dX12_all_40 : decode cX12_all 40 = .ok (.iload_n 3, 1) := by decide +kernel
theorem dX12_all_41 : decode cX12_all 41 = .ok (.goto 9, 3) := by decide +kernel
theorem dX12_all_44 : decode cX12_all 44 = .ok (.aload_n 0, 1) := by decide +kernel
theorem dX12_all_45 : decode cX12_all 45 = .ok (.iload_n 1, 1) := by decide +kernel
theorem dX12_all_46 : decode cX12_all 46 = .ok (.iload_n 2, 1) := by decide +kernel
theorem dX12_all_47 : decode cX12_all 47 = .ok (.invokevirtual 211, 3) := by decide +kernel
theorem dX12_all_50 : decode cX12_all 50 = .ok (.ireturn, 1) := by decide +kernel
theorem kw_228 : (.constantLong RX12 207 (10) : Cond) ∈ gw_tbl := gw_in (by decide +kernel) (by decide +kernel)
theorem kw_229 : (.constantLong RX12 209 (99) : Cond) ∈ gw_tbl := gw_in (by decide +kernel) (by decide +kernel)

set_option maxHeartbeats 4000000 in
set_option maxRecDepth 100000 in
theorem m_all (l : Launch) (D : va_G) (m0 : Nat) (mp : Nat) (mw : Nat) (mh : Nat) (mo : Nat) (m5 : Nat) (m6 : Nat) (m7 : Nat) (mk : Nat) (mn : Nat) (mq : Nat) (m8 : Nat) (m9 : Nat) (ma : Nat) (mb : Nat) (md : Nat) (p1 : Int32) (p2 : Int32) : Met l yX12_all (Cond.code yX12_all cX12_all 4 (some .int) :: gw_tbl) ({ frames := 3, cells := 0, slots := 0, locals := 69 }) (pc_S D [] [(m0, .inr (12, [.ref mp, .int 0, .int 0, .int 0, .ref mw, .ref mh, .ref mo, .int 0, .int 0, .int 0, .int 0, .int 0, .int 0, .ref m5, .ref m6, .ref m7, .long 0, .int 0, .ref mk, .ref mn, .int 0, .ref mq, .ref m8, .ref m9, .int 0, .int 0, .int 0, .int 0, .ref ma, .int 0, .ref mb, .ref md, .long 0]))] [.ref m0, .int p1, .int p2]) (vp_Si (fun r => r = (-101))) 0 0 (fun _ => False) := by
  refine Met.ofW (cc := cX12_all) (maxL := 4) (ret := (some .int)) (by decide) rfl ?_
  intro p e s m args below meth c s₁ B hml hv
  obtain ⟨hargs, hP, hK⟩ := hv
  have hx := B.exec
  have hb := B.bytes
  have hr := B.returns
  have hts := atoms_spec (ws := Cond.code yX12_all cX12_all 4 (some .int) :: gw_tbl) B.pre
  have hg := fun (w : Cond) (h : w ∈ gw_tbl) => hts w (List.mem_cons_of_mem _ h)
  have hown : s.vm.findClass RX12 = some m.cls := findClass_of_methodNamed B.named
  have hlocks := B.notSynchronized
  have hl := lv_entry ([.ref m0, .int p1, .int p2]) (n := 4) (Nat.le_of_ble_eq_true rfl)
  rw [show entryFrame m args 4 = F0 m 0 (lg_sl ([.ref m0, .int p1, .int p2]) ++ List.replicate (4 - (lg_sl ([.ref m0, .int p1, .int p2])).length) Slot.unset).toArray [] from by rw [hargs]; exact lg_entry_eq ..]
  generalize (lg_sl ([.ref m0, .int p1, .int p2]) ++ List.replicate (4 - (lg_sl ([.ref m0, .int p1, .int p2])).length) Slot.unset).toArray = ls at hl ⊢
  have hl : lv_has ls 4 [(0, .ref m0), (1, .int p1), (2, .int p2)] := hl
  refine W_genQ (fun Q hQ => ?_)
  refine lv_aload_n hx hb dX12_all_0 rfl (lv_at hl 0 rfl) ?_
  refine lv_iload_n hx hb dX12_all_1 rfl (lv_at hl 1 rfl) ?_
  refine lv_iconst (v := 0) hx hb dX12_all_2 (by decide) ?_
  refine lv_iload_n hx hb dX12_all_3 rfl (lv_at hl 2 rfl) ?_
  refine lv_i2l hx hb dX12_all_4 rfl ?_
  refine lv_topl (fun z_4 e_4 => ?_)
  refine lv_lconst (v := 0) hx hb dX12_all_5 (by decide) ?_
  refine lv_lconst (v := 1) hx hb dX12_all_6 (by decide) ?_
  refine vp_callSi (W.runS (As := [.long z_4, .long 0, .long 1]) (rest := [.int 0, .int p1, .ref m0]) ⟨hx, hb, hml, hown, hg⟩ (c_in l z_4 0 1) (va_cwS 3 hg (gw_S kw_208 kw_209 kw_210 kw_207) rfl rfl rfl (by decide +kernel) ⟨Nat.le_of_ble_eq_true rfl, Nat.le_of_ble_eq_true rfl⟩) pr_0 rfl rfl hl.1 rfl (lv_room (Nat.le_of_ble_eq_true rfl)) dX12_all_7 ⟨Nat.le_of_ble_eq_true rfl, Nat.le_of_ble_eq_true rfl⟩) (fun r_7 h_7 => ?_)
  try dsimp only at h_7
  refine lv_if_ne (tgt := 27) hx hb dX12_all_10 (by decide) (fun c_10 => ?_) (fun c_10 => ?_)
  · refine lv_iconst (v := 1) hx hb dX12_all_27 (by decide) ?_
    refine lv_goto (tgt := 32) hx hb dX12_all_28 (by decide) ?_
    have hPc := hP.sub (ws' := [(m0, .inr (12, [.ref mp, .int 0, .int 0, .int 0, .ref mw, .ref mh, .ref mo, .int 0, .int 0, .int 0, .int 0, .int 0, .int 0, .ref m5, .ref m6, .ref m7, .long 0, .int 0, .ref mk, .ref mn, .int 0, .ref mq, .ref m8, .ref m9, .int 0, .int 0, .int 0, .int 0, .ref ma, .int 0, .ref mb, .ref md, .long 0]))]) [0] rfl
    have hKc := hK.sub (tys' := []) [] rfl
    refine vp_callSi (W.runV (As := [.int p1, .int 0, .int 1]) (rest := []) ⟨hx, hb, hml, hown, hg⟩ (m_refusal l D m0 mp mw mh mo m5 m6 m7 mk mn mq m8 m9 ma mb md p1 0 1) (cwV 3 hg (gw_V kw_225 kw_226 kw_227 kw_210 kw_224) rfl rfl rfl (by decide +kernel) ⟨Nat.le_of_ble_eq_true rfl, Nat.le_of_ble_eq_true rfl⟩) (pr_SV (q := (RX12, TX12, 33)) 12 0 hKc hPc rfl rfl) rfl rfl hl.1 rfl (lv_room (Nat.le_of_ble_eq_true rfl)) dX12_all_32 ⟨Nat.le_of_ble_eq_true rfl, Nat.le_of_ble_eq_true rfl⟩) (fun r_32 h_32 => ?_)
    obtain rfl : r_32 = ((-101) : Int32) := h_32
    refine lv_istore_n (lv' := [(3, .int (-101)), (0, .ref m0), (1, .int p1), (2, .int p2)]) hx hb dX12_all_35 rfl hl (by decide) rfl (fun ls hl => ?_)
    refine lv_iload_n hx hb dX12_all_36 rfl (lv_at hl 0 rfl) ?_
    refine lv_if_eq (tgt := 44) hx hb dX12_all_37 (by decide) (fun c_37 => absurd c_37 (by decide)) (fun c_37 => ?_)
    refine lv_iload_n hx hb dX12_all_40 rfl (lv_at hl 0 rfl) ?_
    refine lv_goto (tgt := 50) hx hb dX12_all_41 (by decide) ?_
    subst hQ
    exact W.iret (v := (-101)) hx hb hr (fun t ht hW => ⟨(-101), rfl, rfl, ht⟩) (fun _ h => absurd h List.not_mem_nil) dX12_all_50
  · refine lv_iload_n hx hb dX12_all_13 rfl (lv_at hl 2 rfl) ?_
    refine lv_i2l hx hb dX12_all_14 rfl ?_
    refine lv_topl (fun z_14 e_14 => ?_)
    refine lv_ldc2 hx hb hown (hg _ kw_228) dX12_all_15 ?_
    refine lv_ldc2 hx hb hown (hg _ kw_229) dX12_all_18 ?_
    refine vp_callSi (W.runS (As := [.long z_14, .long 10, .long 99]) (rest := [.int 0, .int p1, .ref m0]) ⟨hx, hb, hml, hown, hg⟩ (c_in l z_14 10 99) (va_cwS 3 hg (gw_S kw_208 kw_209 kw_210 kw_207) rfl rfl rfl (by decide +kernel) ⟨Nat.le_of_ble_eq_true rfl, Nat.le_of_ble_eq_true rfl⟩) pr_0 rfl rfl hl.1 rfl (lv_room (Nat.le_of_ble_eq_true rfl)) dX12_all_21 ⟨Nat.le_of_ble_eq_true rfl, Nat.le_of_ble_eq_true rfl⟩) (fun r_21 h_21 => ?_)
    try dsimp only at h_21
    refine lv_if_eq (tgt := 31) hx hb dX12_all_24 (by decide) (fun c_24 => ?_) (fun c_24 => ?_)
    · refine lv_iconst (v := 0) hx hb dX12_all_31 (by decide) ?_
      have hPc := hP.sub (ws' := [(m0, .inr (12, [.ref mp, .int 0, .int 0, .int 0, .ref mw, .ref mh, .ref mo, .int 0, .int 0, .int 0, .int 0, .int 0, .int 0, .ref m5, .ref m6, .ref m7, .long 0, .int 0, .ref mk, .ref mn, .int 0, .ref mq, .ref m8, .ref m9, .int 0, .int 0, .int 0, .int 0, .ref ma, .int 0, .ref mb, .ref md, .long 0]))]) [0] rfl
      have hKc := hK.sub (tys' := []) [] rfl
      refine vp_callSi (W.runV (As := [.int p1, .int 0, .int 0]) (rest := []) ⟨hx, hb, hml, hown, hg⟩ (m_refusal l D m0 mp mw mh mo m5 m6 m7 mk mn mq m8 m9 ma mb md p1 0 0) (cwV 3 hg (gw_V kw_225 kw_226 kw_227 kw_210 kw_224) rfl rfl rfl (by decide +kernel) ⟨Nat.le_of_ble_eq_true rfl, Nat.le_of_ble_eq_true rfl⟩) (pr_SV (q := (RX12, TX12, 33)) 12 0 hKc hPc rfl rfl) rfl rfl hl.1 rfl (lv_room (Nat.le_of_ble_eq_true rfl)) dX12_all_32 ⟨Nat.le_of_ble_eq_true rfl, Nat.le_of_ble_eq_true rfl⟩) (fun r_32 h_32 => ?_)
      obtain rfl : r_32 = ((-101) : Int32) := h_32
      refine lv_istore_n (lv' := [(3, .int (-101)), (0, .ref m0), (1, .int p1), (2, .int p2)]) hx hb dX12_all_35 rfl hl (by decide) rfl (fun ls hl => ?_)
      refine lv_iload_n hx hb dX12_all_36 rfl (lv_at hl 0 rfl) ?_
      refine lv_if_eq (tgt := 44) hx hb dX12_all_37 (by decide) (fun c_37 => absurd c_37 (by decide)) (fun c_37 => ?_)
      refine lv_iload_n hx hb dX12_all_40 rfl (lv_at hl 0 rfl) ?_
      refine lv_goto (tgt := 50) hx hb dX12_all_41 (by decide) ?_
      subst hQ
      exact W.iret (v := (-101)) hx hb hr (fun t ht hW => ⟨(-101), rfl, rfl, ht⟩) (fun _ h => absurd h List.not_mem_nil) dX12_all_50
    · refine lv_iconst (v := 1) hx hb dX12_all_27 (by decide) ?_
      refine lv_goto (tgt := 32) hx hb dX12_all_28 (by decide) ?_
      have hPc := hP.sub (ws' := [(m0, .inr (12, [.ref mp, .int 0, .int 0, .int 0, .ref mw, .ref mh, .ref mo, .int 0, .int 0, .int 0, .int 0, .int 0, .int 0, .ref m5, .ref m6, .ref m7, .long 0, .int 0, .ref mk, .ref mn, .int 0, .ref mq, .ref m8, .ref m9, .int 0, .int 0, .int 0, .int 0, .ref ma, .int 0, .ref mb, .ref md, .long 0]))]) [0] rfl
      have hKc := hK.sub (tys' := []) [] rfl
      refine vp_callSi (W.runV (As := [.int p1, .int 0, .int 1]) (rest := []) ⟨hx, hb, hml, hown, hg⟩ (m_refusal l D m0 mp mw mh mo m5 m6 m7 mk mn mq m8 m9 ma mb md p1 0 1) (cwV 3 hg (gw_V kw_225 kw_226 kw_227 kw_210 kw_224) rfl rfl rfl (by decide +kernel) ⟨Nat.le_of_ble_eq_true rfl, Nat.le_of_ble_eq_true rfl⟩) (pr_SV (q := (RX12, TX12, 33)) 12 0 hKc hPc rfl rfl) rfl rfl hl.1 rfl (lv_room (Nat.le_of_ble_eq_true rfl)) dX12_all_32 ⟨Nat.le_of_ble_eq_true rfl, Nat.le_of_ble_eq_true rfl⟩) (fun r_32 h_32 => ?_)
      obtain rfl : r_32 = ((-101) : Int32) := h_32
      refine lv_istore_n (lv' := [(3, .int (-101)), (0, .ref m0), (1, .int p1), (2, .int p2)]) hx hb dX12_all_35 rfl hl (by decide) rfl (fun ls hl => ?_)
      refine lv_iload_n hx hb dX12_all_36 rfl (lv_at hl 0 rfl) ?_
      refine lv_if_eq (tgt := 44) hx hb dX12_all_37 (by decide) (fun c_37 => absurd c_37 (by decide)) (fun c_37 => ?_)
      refine lv_iload_n hx hb dX12_all_40 rfl (lv_at hl 0 rfl) ?_
      refine lv_goto (tgt := 50) hx hb dX12_all_41 (by decide) ?_
      subst hQ
      exact W.iret (v := (-101)) hx hb hr (fun t ht hW => ⟨(-101), rfl, rfl, ht⟩) (fun _ h => absurd h List.not_mem_nil) dX12_all_50

theorem dX12_group_0 : decode cX12_group 0 = .ok (.aload_n 0, 1) := by decide +kernel
theorem dX12_group_1 : decode cX12_group 1 = .ok (.iload_n 1, 1) := by decide +kernel
theorem dX12_group_2 : decode cX12_group 2 = .ok (.iload_n 2, 1) := by decide +kernel
theorem dX12_group_3 : decode cX12_group 3 = .ok (.iload_n 3, 1) := by decide +kernel
theorem dX12_group_4 : decode cX12_group 4 = .ok (.i2l, 1) := by decide +kernel
theorem dX12_group_5 : decode cX12_group 5 = .ok (.lconst 0, 1) := by decide +kernel
theorem dX12_group_6 : decode cX12_group 6 = .ok (.lconst 1, 1) := by decide +kernel
theorem dX12_group_7 : decode cX12_group 7 = .ok (.invokestatic 70, 3) := by decide +kernel
theorem dX12_group_10 : decode cX12_group 10 = .ok (.invokevirtual 193, 3) := by decide +kernel
theorem dX12_group_13 : decode cX12_group 13 = .ok (.istore 4, 2) := by decide +kernel
theorem dX12_group_15 : decode cX12_group 15 = .ok (.iload 4, 2) := by decide +kernel
theorem dX12_group_17 : decode cX12_group 17 = .ok (.ifCond .eq 6, 3) := by decide +kernel
theorem dX12_group_20 : decode cX12_group 20 = .ok (.iload 4, 2) := by decide +kernel
theorem dX12_group_22 : decode cX12_group 22 = .ok (.ireturn, 1) := by decide +kernel
theorem dX12_group_23 : decode cX12_group 23 = .ok (.aload_n 0, 1) := by decide +kernel
theorem dX12_group_24 : decode cX12_group 24 = .ok (.iload_n 1, 1) := by decide +kernel
theorem dX12_group_25 : decode cX12_group 25 = .ok (.invokevirtual 197, 3) := by decide +kernel
theorem dX12_group_28 : decode cX12_group 28 = .ok (.iconst (-1), 1) := by decide +kernel
theorem dX12_group_29 : decode cX12_group 29 = .ok (.istore 5, 2) := by decide +kernel
theorem dX12_group_31 : decode cX12_group 31 = .ok (.iconst (-1), 1) := by decide +kernel
theorem dX12_group_32 : decode cX12_group 32 = .ok (.istore 6, 2) := by decide +kernel
theorem dX12_group_34 : decode cX12_group 34 = .ok (.iconst 1, 1) := by decide +kernel
theorem dX12_group_35 : decode cX12_group 35 = .ok (.istore 7, 2) := by decide +kernel
theorem dX12_group_37 : decode cX12_group 37 = .ok (.iload 7, 2) := by decide +kernel
theorem dX12_group_39 : decode cX12_group 39 = .ok (.iconst 1, 1) := by decide +kernel
theorem dX12_group_40 : decode cX12_group 40 = .ok (.aload_n 0, 1) := by decide +kernel
theorem dX12_group_41 : decode cX12_group 41 = .ok (.getfield 57, 3) := by decide +kernel
theorem dX12_group_44 : decode cX12_group 44 = .ok (.ishl, 1) := by decide +kernel
theorem dX12_group_45 : decode cX12_group 45 = .ok (.if_icmp .ge 101, 3) := by decide +kernel
theorem dX12_group_48 : decode cX12_group 48 = .ok (.iload 5, 2) := by decide +kernel
theorem dX12_group_50 : decode cX12_group 50 = .ok (.iconst (-1), 1) := by decide +kernel
theorem dX12_group_51 : decode cX12_group 51 = .ok (.if_icmp .eq 16, 3) := by decide +kernel
theorem dX12_group_54 : decode cX12_group 54 = .ok (.iload 7, 2) := by decide +kernel
theorem dX12_group_56 : decode cX12_group 56 = .ok (.invokestatic 150, 3) := by decide +kernel
theorem dX12_group_59 : decode cX12_group 59 = .ok (.iload 5, 2) := by decide +kernel
theorem dX12_group_61 : decode cX12_group 61 = .ok (.invokestatic 150, 3) := by decide +kernel
theorem dX12_group_64 : decode cX12_group 64 = .ok (.if_icmp .ge 76, 3) := by decide +kernel
theorem dX12_group_67 : decode cX12_group 67 = .ok (.iconst (-1), 1) := by decide +kernel
theorem dX12_group_68 : decode cX12_group 68 = .ok (.istore 8, 2) := by decide +kernel
theorem dX12_group_70 : decode cX12_group 70 = .ok (.aload_n 0, 1) := by decide +kernel
theorem dX12_group_71 : decode cX12_group 71 = .ok (.invokevirtual 172, 3) := by decide +kernel
theorem dX12_group_74 : decode cX12_group 74 = .ok (.iconst 1, 1) := by decide +kernel
theorem dX12_group_75 : decode cX12_group 75 = .ok (.isub, 1) := by decide +kernel
theorem dX12_group_76 : decode cX12_group 76 = .ok (.istore 9, 2) := by decide +kernel
theorem dX12_group_78 : decode cX12_group 78 = .ok (.iload 9, 2) := by decide +kernel
theorem dX12_group_80 : decode cX12_group 80 = .ok (.ifCond .lt 30, 3) := by decide +kernel
theorem dX12_group_83 : decode cX12_group 83 = .ok (.aload_n 0, 1) := by decide +kernel
theorem dX12_group_84 : decode cX12_group 84 = .ok (.iload_n 2, 1) := by decide +kernel
theorem dX12_group_85 : decode cX12_group 85 = .ok (.iload 9, 2) := by decide +kernel
theorem dX12_group_87 : decode cX12_group 87 = .ok (.iload 7, 2) := by decide +kernel
theorem dX12_group_89 : decode cX12_group 89 = .ok (.invokevirtual 214, 3) := by decide +kernel
theorem dX12_group_92 : decode cX12_group 92 = .ok (.ifCond .eq 8, 3) := by decide +kernel
theorem dX12_group_95 : decode cX12_group 95 = .ok (.iload 9, 2) := by decide +kernel
theorem dX12_group_97 : decode cX12_group 97 = .ok (.goto 5, 3) := by decide +kernel
theorem dX12_group_100 : decode cX12_group 100 = .ok (.iload 8, 2) := by decide +kernel
theorem dX12_group_102 : decode cX12_group 102 = .ok (.istore 8, 2) := by decide +kernel
theorem dX12_group_104 : decode cX12_group 104 = .ok (.iinc 9 (-1), 3) := by decide +kernel
theorem dX12_group_107 : decode cX12_group 107 = .ok (.goto (-29), 3) := by decide +kernel
theorem dX12_group_110 : decode cX12_group 110 = .ok (.iload 8, 2) := by decide +kernel
theorem dX12_group_112 : decode cX12_group 112 = .ok (.iconst (-1), 1) := by decide +kernel
theorem dX12_group_113 : decode cX12_group 113 = .ok (.if_icmp .eq 8, 3) := by decide +kernel
theorem dX12_group_116 : decode cX12_group 116 = .ok (.iload 7, 2) := by decide +kernel
theorem dX12_group_118 : decode cX12_group 118 = .ok (.goto 5, 3) := by decide +kernel
theorem dX12_group_121 : decode cX12_group 121 = .ok (.iload 5, 2) := by decide +kernel
theorem dX12_group_123 : decode cX12_group 123 = .ok (.istore 5, 2) := by decide +kernel
theorem dX12_group_125 : decode cX12_group 125 = .ok (.iload 8, 2) := by decide +kernel
theorem dX12_group_127 : decode cX12_group 127 = .ok (.iconst (-1), 1) := by decide +kernel
theorem dX12_group_128 : decode cX12_group 128 = .ok (.if_icmp .eq 8, 3) := by decide +kernel
theorem dX12_group_131 : decode cX12_group 131 = .ok (.iload 8, 2) := by decide +kernel
theorem dX12_group_133 : decode cX12_group 133 = .ok (.goto 5, 3) := by decide +kernel
theorem dX12_group_136 : decode cX12_group 136 = .ok (.iload 6, 2) := by decide +kernel
theorem dX12_group_138 : decode cX12_group 138 = .ok (.istore 6, 2) := by decide +kernel
theorem dX12_group_140 : decode cX12_group 140 = .ok (.iinc 7 1, 3) := by decide +kernel
theorem dX12_group_143 : decode cX12_group 143 = .ok (.goto (-106), 3) := by decide +kernel
theorem dX12_group_146 : decode cX12_group 146 = .ok (.iload_n 3, 1) := by decide +kernel
theorem dX12_group_147 : decode cX12_group 147 = .ok (.ifCond .ne 8, 3) := by decide +kernel
theorem dX12_group_150 : decode cX12_group 150 = .ok (.iload 5, 2) := by decide +kernel
theorem dX12_group_152 : decode cX12_group 152 = .ok (.goto 5, 3) := by decide +kernel
theorem dX12_group_155 : decode cX12_group 155 = .ok (.iload 6, 2) := by decide +kernel
theorem dX12_group_157 : decode cX12_group 157 = .ok (.ireturn, 1) := by decide +kernel

set_option maxHeartbeats 4000000 in
set_option maxRecDepth 100000 in
theorem m_group (l : Launch) (D : va_G) (m0 : Nat) (mp : Nat) (mw : Nat) (mh : Nat) (mo : Nat) (m5 : Nat) (m6 : Nat) (m7 : Nat) (mk : Nat) (mn : Nat) (mq : Nat) (m8 : Nat) (m9 : Nat) (ma : Nat) (mb : Nat) (md : Nat) (p1 : Int32) (p2 : Int32) (p3 : Int32) : Met l yX12_group (Cond.code yX12_group cX12_group 10 (some .int) :: gw_tbl) ({ frames := 3, cells := 0, slots := 0, locals := 69 }) (pc_S D [] [(m0, .inr (12, [.ref mp, .int 0, .int 0, .int 0, .ref mw, .ref mh, .ref mo, .int 0, .int 0, .int 0, .int 0, .int 0, .int 0, .ref m5, .ref m6, .ref m7, .long 0, .int 0, .ref mk, .ref mn, .int 0, .ref mq, .ref m8, .ref m9, .int 0, .int 0, .int 0, .int 0, .ref ma, .int 0, .ref mb, .ref md, .long 0]))] [.ref m0, .int p1, .int p2, .int p3]) (vp_Si (fun r => r = (-101))) 0 0 (fun _ => False) := by
  refine Met.ofW (cc := cX12_group) (maxL := 10) (ret := (some .int)) (by decide) rfl ?_
  intro p e s m args below meth c s₁ B hml hv
  obtain ⟨hargs, hP, hK⟩ := hv
  have hx := B.exec
  have hb := B.bytes
  have hr := B.returns
  have hts := atoms_spec (ws := Cond.code yX12_group cX12_group 10 (some .int) :: gw_tbl) B.pre
  have hg := fun (w : Cond) (h : w ∈ gw_tbl) => hts w (List.mem_cons_of_mem _ h)
  have hown : s.vm.findClass RX12 = some m.cls := findClass_of_methodNamed B.named
  have hlocks := B.notSynchronized
  have hl := lv_entry ([.ref m0, .int p1, .int p2, .int p3]) (n := 10) (Nat.le_of_ble_eq_true rfl)
  rw [show entryFrame m args 10 = F0 m 0 (lg_sl ([.ref m0, .int p1, .int p2, .int p3]) ++ List.replicate (10 - (lg_sl ([.ref m0, .int p1, .int p2, .int p3])).length) Slot.unset).toArray [] from by rw [hargs]; exact lg_entry_eq ..]
  generalize (lg_sl ([.ref m0, .int p1, .int p2, .int p3]) ++ List.replicate (10 - (lg_sl ([.ref m0, .int p1, .int p2, .int p3])).length) Slot.unset).toArray = ls at hl ⊢
  have hl : lv_has ls 10 [(0, .ref m0), (1, .int p1), (2, .int p2), (3, .int p3)] := hl
  refine W_genQ (fun Q hQ => ?_)
  refine lv_aload_n hx hb dX12_group_0 rfl (lv_at hl 0 rfl) ?_
  refine lv_iload_n hx hb dX12_group_1 rfl (lv_at hl 1 rfl) ?_
  refine lv_iload_n hx hb dX12_group_2 rfl (lv_at hl 2 rfl) ?_
  refine lv_iload_n hx hb dX12_group_3 rfl (lv_at hl 3 rfl) ?_
  refine lv_i2l hx hb dX12_group_4 rfl ?_
  refine lv_topl (fun z_4 e_4 => ?_)
  refine lv_lconst (v := 0) hx hb dX12_group_5 (by decide) ?_
  refine lv_lconst (v := 1) hx hb dX12_group_6 (by decide) ?_
  refine vp_callSi (W.runS (As := [.long z_4, .long 0, .long 1]) (rest := [.int p2, .int p1, .ref m0]) ⟨hx, hb, hml, hown, hg⟩ (c_in l z_4 0 1) (va_cwS 3 hg (gw_S kw_208 kw_209 kw_210 kw_207) rfl rfl rfl (by decide +kernel) ⟨Nat.le_of_ble_eq_true rfl, Nat.le_of_ble_eq_true rfl⟩) pr_0 rfl rfl hl.1 rfl (lv_room (Nat.le_of_ble_eq_true rfl)) dX12_group_7 ⟨Nat.le_of_ble_eq_true rfl, Nat.le_of_ble_eq_true rfl⟩) (fun r_7 h_7 => ?_)
  try dsimp only at h_7
  have hPc := hP.sub (ws' := [(m0, .inr (12, [.ref mp, .int 0, .int 0, .int 0, .ref mw, .ref mh, .ref mo, .int 0, .int 0, .int 0, .int 0, .int 0, .int 0, .ref m5, .ref m6, .ref m7, .long 0, .int 0, .ref mk, .ref mn, .int 0, .ref mq, .ref m8, .ref m9, .int 0, .int 0, .int 0, .int 0, .ref ma, .int 0, .ref mb, .ref md, .long 0]))]) [0] rfl
  have hKc := hK.sub (tys' := []) [] rfl
  refine vp_callSi (W.runV (As := [.int p1, .int p2, .int r_7]) (rest := []) ⟨hx, hb, hml, hown, hg⟩ (m_refusal l D m0 mp mw mh mo m5 m6 m7 mk mn mq m8 m9 ma mb md p1 p2 r_7) (cwV 3 hg (gw_V kw_225 kw_226 kw_227 kw_210 kw_224) rfl rfl rfl (by decide +kernel) ⟨Nat.le_of_ble_eq_true rfl, Nat.le_of_ble_eq_true rfl⟩) (pr_SV (q := (RX12, TX12, 33)) 12 0 hKc hPc rfl rfl) rfl rfl hl.1 rfl (lv_room (Nat.le_of_ble_eq_true rfl)) dX12_group_10 ⟨Nat.le_of_ble_eq_true rfl, Nat.le_of_ble_eq_true rfl⟩) (fun r_10 h_10 => ?_)
  obtain rfl : r_10 = ((-101) : Int32) := h_10
  refine lv_istore (lv' := [(4, .int (-101)), (0, .ref m0), (1, .int p1), (2, .int p2), (3, .int p3)]) hx hb dX12_group_13 hl (by decide) rfl (fun ls hl => ?_)
  refine lv_iload hx hb dX12_group_15 (lv_at hl 0 rfl) ?_
  refine lv_if_eq (tgt := 23) hx hb dX12_group_17 (by decide) (fun c_17 => absurd c_17 (by decide)) (fun c_17 => ?_)
  refine lv_iload hx hb dX12_group_20 (lv_at hl 0 rfl) ?_
  subst hQ
  exact W.iret (v := (-101)) hx hb hr (fun t ht hW => ⟨(-101), rfl, rfl, ht⟩) (fun _ h => absurd h List.not_mem_nil) dX12_group_22

theorem dX12_goes_0 : decode cX12_goes 0 = .ok (.aload_n 0, 1) := by decide +kernel
theorem dX12_goes_1 : decode cX12_goes 1 = .ok (.iload_n 1, 1) := by decide +kernel
theorem dX12_goes_2 : decode cX12_goes 2 = .ok (.iload_n 2, 1) := by decide +kernel
theorem dX12_goes_3 : decode cX12_goes 3 = .ok (.iload_n 3, 1) := by decide +kernel
theorem dX12_goes_4 : decode cX12_goes 4 = .ok (.i2l, 1) := by decide +kernel
theorem dX12_goes_5 : decode cX12_goes 5 = .ok (.lconst 0, 1) := by decide +kernel
theorem dX12_goes_6 : decode cX12_goes 6 = .ok (.ldc2_w 191, 3) := by decide +kernel
theorem dX12_goes_9 : decode cX12_goes 9 = .ok (.invokestatic 70, 3) := by decide +kernel
theorem dX12_goes_12 : decode cX12_goes 12 = .ok (.invokevirtual 193, 3) := by decide +kernel
theorem dX12_goes_15 : decode cX12_goes 15 = .ok (.istore 4, 2) := by decide +kernel
theorem dX12_goes_17 : decode cX12_goes 17 = .ok (.iload 4, 2) := by decide +kernel
theorem dX12_goes_19 : decode cX12_goes 19 = .ok (.ifCond .eq 6, 3) := by decide +kernel
theorem dX12_goes_22 : decode cX12_goes 22 = .ok (.iload 4, 2) := by decide +kernel
theorem dX12_goes_24 : decode cX12_goes 24 = .ok (.ireturn, 1) := by decide +kernel
theorem dX12_goes_25 : decode cX12_goes 25 = .ok (.aload_n 0, 1) := by decide +kernel
theorem dX12_goes_26 : decode cX12_goes 26 = .ok (.iload_n 1, 1) := by decide +kernel
theorem dX12_goes_27 : decode cX12_goes 27 = .ok (.invokevirtual 197, 3) := by decide +kernel
theorem dX12_goes_30 : decode cX12_goes 30 = .ok (.aload_n 0, 1) := by decide +kernel
theorem dX12_goes_31 : decode cX12_goes 31 = .ok (.iload_n 2, 1) := by decide +kernel
theorem dX12_goes_32 : decode cX12_goes 32 = .ok (.invokevirtual 228, 3) := by decide +kernel
theorem dX12_goes_35 : decode cX12_goes 35 = .ok (.iload_n 3, 1) := by decide +kernel
theorem dX12_goes_36 : decode cX12_goes 36 = .ok (.ifCond .ne 10, 3) := by decide +kernel
theorem dX12_goes_39 : decode cX12_goes 39 = .ok (.aload_n 0, 1) := by decide +kernel
theorem dX12_goes_40 : decode cX12_goes 40 = .ok (.getfield 218, 3) := by decide +kernel
theorem dX12_goes_43 : decode cX12_goes 43 = .ok (.goto 27, 3) := by decide +kernel
theorem dX12_goes_46 : decode cX12_goes 46 = .ok (.iload_n 3, 1) := by decide +kernel
theorem dX12_goes_47 : decode cX12_goes 47 = .ok (.iconst 1, 1) := by decide +kernel
theorem dX12_goes_48 : decode cX12_goes 48 = .ok (.if_icmp .ne 10, 3) := by decide +kernel
theorem dX12_goes_51 : decode cX12_goes 51 = .ok (.aload_n 0, 1) := by decide +kernel
theorem dX12_goes_52 : decode cX12_goes 52 = .ok (.getfield 221, 3) := by decide +kernel
theorem dX12_goes_55 : decode cX12_goes 55 = .ok (.goto 15, 3) := by decide +kernel
theorem dX12_goes_58 : decode cX12_goes 58 = .ok (.aload_n 0, 1) := by decide +kernel
theorem dX12_goes_59 : decode cX12_goes 59 = .ok (.getfield 224, 3) := by decide +kernel
theorem dX12_goes_62 : decode cX12_goes 62 = .ok (.ifCond .eq 7, 3) := by decide +kernel
theorem dX12_goes_65 : decode cX12_goes 65 = .ok (.iconst 1, 1) := by decide +kernel
theorem dX12_goes_66 : decode cX12_goes 66 = .ok (.goto 4, 3) := by decide +kernel
theorem dX12_goes_69 : decode cX12_goes 69 = .ok (.iconst 0, 1) := by decide +kernel
theorem dX12_goes_70 : decode cX12_goes 70 = .ok (.ireturn, 1) := by decide +kernel

set_option maxHeartbeats 4000000 in
set_option maxRecDepth 100000 in
theorem m_goes (l : Launch) (D : va_G) (m0 : Nat) (mp : Nat) (mw : Nat) (mh : Nat) (mo : Nat) (m5 : Nat) (m6 : Nat) (m7 : Nat) (mk : Nat) (mn : Nat) (mq : Nat) (m8 : Nat) (m9 : Nat) (ma : Nat) (mb : Nat) (md : Nat) (p1 : Int32) (p2 : Int32) (p3 : Int32) : Met l yX12_goes (Cond.code yX12_goes cX12_goes 5 (some .int) :: gw_tbl) ({ frames := 3, cells := 0, slots := 0, locals := 69 }) (pc_S D [] [(m0, .inr (12, [.ref mp, .int 0, .int 0, .int 0, .ref mw, .ref mh, .ref mo, .int 0, .int 0, .int 0, .int 0, .int 0, .int 0, .ref m5, .ref m6, .ref m7, .long 0, .int 0, .ref mk, .ref mn, .int 0, .ref mq, .ref m8, .ref m9, .int 0, .int 0, .int 0, .int 0, .ref ma, .int 0, .ref mb, .ref md, .long 0]))] [.ref m0, .int p1, .int p2, .int p3]) (vp_Si (fun r => r = (-101))) 0 0 (fun _ => False) := by
  refine Met.ofW (cc := cX12_goes) (maxL := 5) (ret := (some .int)) (by decide) rfl ?_
  intro p e s m args below meth c s₁ B hml hv
  obtain ⟨hargs, hP, hK⟩ := hv
  have hx := B.exec
  have hb := B.bytes
  have hr := B.returns
  have hts := atoms_spec (ws := Cond.code yX12_goes cX12_goes 5 (some .int) :: gw_tbl) B.pre
  have hg := fun (w : Cond) (h : w ∈ gw_tbl) => hts w (List.mem_cons_of_mem _ h)
  have hown : s.vm.findClass RX12 = some m.cls := findClass_of_methodNamed B.named
  have hlocks := B.notSynchronized
  have hl := lv_entry ([.ref m0, .int p1, .int p2, .int p3]) (n := 5) (Nat.le_of_ble_eq_true rfl)
  rw [show entryFrame m args 5 = F0 m 0 (lg_sl ([.ref m0, .int p1, .int p2, .int p3]) ++ List.replicate (5 - (lg_sl ([.ref m0, .int p1, .int p2, .int p3])).length) Slot.unset).toArray [] from by rw [hargs]; exact lg_entry_eq ..]
  generalize (lg_sl ([.ref m0, .int p1, .int p2, .int p3]) ++ List.replicate (5 - (lg_sl ([.ref m0, .int p1, .int p2, .int p3])).length) Slot.unset).toArray = ls at hl ⊢
  have hl : lv_has ls 5 [(0, .ref m0), (1, .int p1), (2, .int p2), (3, .int p3)] := hl
  refine W_genQ (fun Q hQ => ?_)
  refine lv_aload_n hx hb dX12_goes_0 rfl (lv_at hl 0 rfl) ?_
  refine lv_iload_n hx hb dX12_goes_1 rfl (lv_at hl 1 rfl) ?_
  refine lv_iload_n hx hb dX12_goes_2 rfl (lv_at hl 2 rfl) ?_
  refine lv_iload_n hx hb dX12_goes_3 rfl (lv_at hl 3 rfl) ?_
  refine lv_i2l hx hb dX12_goes_4 rfl ?_
  refine lv_topl (fun z_4 e_4 => ?_)
  refine lv_lconst (v := 0) hx hb dX12_goes_5 (by decide) ?_
  refine lv_ldc2 hx hb hown (hg _ kw_223) dX12_goes_6 ?_
  refine vp_callSi (W.runS (As := [.long z_4, .long 0, .long 2]) (rest := [.int p2, .int p1, .ref m0]) ⟨hx, hb, hml, hown, hg⟩ (c_in l z_4 0 2) (va_cwS 3 hg (gw_S kw_208 kw_209 kw_210 kw_207) rfl rfl rfl (by decide +kernel) ⟨Nat.le_of_ble_eq_true rfl, Nat.le_of_ble_eq_true rfl⟩) pr_0 rfl rfl hl.1 rfl (lv_room (Nat.le_of_ble_eq_true rfl)) dX12_goes_9 ⟨Nat.le_of_ble_eq_true rfl, Nat.le_of_ble_eq_true rfl⟩) (fun r_9 h_9 => ?_)
  try dsimp only at h_9
  have hPc := hP.sub (ws' := [(m0, .inr (12, [.ref mp, .int 0, .int 0, .int 0, .ref mw, .ref mh, .ref mo, .int 0, .int 0, .int 0, .int 0, .int 0, .int 0, .ref m5, .ref m6, .ref m7, .long 0, .int 0, .ref mk, .ref mn, .int 0, .ref mq, .ref m8, .ref m9, .int 0, .int 0, .int 0, .int 0, .ref ma, .int 0, .ref mb, .ref md, .long 0]))]) [0] rfl
  have hKc := hK.sub (tys' := []) [] rfl
  refine vp_callSi (W.runV (As := [.int p1, .int p2, .int r_9]) (rest := []) ⟨hx, hb, hml, hown, hg⟩ (m_refusal l D m0 mp mw mh mo m5 m6 m7 mk mn mq m8 m9 ma mb md p1 p2 r_9) (cwV 3 hg (gw_V kw_225 kw_226 kw_227 kw_210 kw_224) rfl rfl rfl (by decide +kernel) ⟨Nat.le_of_ble_eq_true rfl, Nat.le_of_ble_eq_true rfl⟩) (pr_SV (q := (RX12, TX12, 33)) 12 0 hKc hPc rfl rfl) rfl rfl hl.1 rfl (lv_room (Nat.le_of_ble_eq_true rfl)) dX12_goes_12 ⟨Nat.le_of_ble_eq_true rfl, Nat.le_of_ble_eq_true rfl⟩) (fun r_12 h_12 => ?_)
  obtain rfl : r_12 = ((-101) : Int32) := h_12
  refine lv_istore (lv' := [(4, .int (-101)), (0, .ref m0), (1, .int p1), (2, .int p2), (3, .int p3)]) hx hb dX12_goes_15 hl (by decide) rfl (fun ls hl => ?_)
  refine lv_iload hx hb dX12_goes_17 (lv_at hl 0 rfl) ?_
  refine lv_if_eq (tgt := 25) hx hb dX12_goes_19 (by decide) (fun c_19 => absurd c_19 (by decide)) (fun c_19 => ?_)
  refine lv_iload hx hb dX12_goes_22 (lv_at hl 0 rfl) ?_
  subst hQ
  exact W.iret (v := (-101)) hx hb hr (fun t ht hW => ⟨(-101), rfl, rfl, ht⟩) (fun _ h => absurd h List.not_mem_nil) dX12_goes_24

theorem dX12_drawn_0 : decode cX12_drawn 0 = .ok (.aload_n 0, 1) := by decide +kernel
theorem dX12_drawn_1 : decode cX12_drawn 1 = .ok (.iload_n 1, 1) := by decide +kernel
theorem dX12_drawn_2 : decode cX12_drawn 2 = .ok (.iconst 0, 1) := by decide +kernel
theorem dX12_drawn_3 : decode cX12_drawn 3 = .ok (.iconst 1, 1) := by decide +kernel
theorem dX12_drawn_4 : decode cX12_drawn 4 = .ok (.invokevirtual 193, 3) := by decide +kernel
theorem dX12_drawn_7 : decode cX12_drawn 7 = .ok (.istore_n 2, 1) := by decide +kernel
theorem dX12_drawn_8 : decode cX12_drawn 8 = .ok (.iload_n 2, 1) := by decide +kernel
theorem dX12_drawn_9 : decode cX12_drawn 9 = .ok (.ifCond .eq 5, 3) := by decide +kernel
theorem dX12_drawn_12 : decode cX12_drawn 12 = .ok (.iload_n 2, 1) := by decide +kernel
theorem dX12_drawn_13 : decode cX12_drawn 13 = .ok (.ireturn, 1) := by decide +kernel
theorem dX12_drawn_14 : decode cX12_drawn 14 = .ok (.aload_n 0, 1) := by decide +kernel
theorem dX12_drawn_15 : decode cX12_drawn 15 = .ok (.iload_n 1, 1) := by decide +kernel
theorem dX12_drawn_16 : decode cX12_drawn 16 = .ok (.invokevirtual 197, 3) := by decide +kernel
theorem dX12_drawn_19 : decode cX12_drawn 19 = .ok (.iconst 0, 1) := by decide +kernel
theorem dX12_drawn_20 : decode cX12_drawn 20 = .ok (.istore_n 3, 1) := by decide +kernel
theorem dX12_drawn_21 : decode cX12_drawn 21 = .ok (.iconst 0, 1) := by decide +kernel
theorem dX12_drawn_22 : decode cX12_drawn 22 = .ok (.istore 4, 2) := by decide +kernel
theorem dX12_drawn_24 : decode cX12_drawn 24 = .ok (.iload 4, 2) := by decide +kernel
theorem dX12_drawn_26 : decode cX12_drawn 26 = .ok (.aload_n 0, 1) := by decide +kernel
theorem dX12_drawn_27 : decode cX12_drawn 27 = .ok (.invokevirtual 172, 3) := by decide +kernel
theorem dX12_drawn_30 : decode cX12_drawn 30 = .ok (.if_icmp .ge 37, 3) := by decide +kernel
theorem dX12_drawn_33 : decode cX12_drawn 33 = .ok (.aload_n 0, 1) := by decide +kernel
theorem dX12_drawn_34 : decode cX12_drawn 34 = .ok (.iload 4, 2) := by decide +kernel
theorem dX12_drawn_36 : decode cX12_drawn 36 = .ok (.invokevirtual 228, 3) := by decide +kernel
theorem dX12_drawn_39 : decode cX12_drawn 39 = .ok (.iload_n 3, 1) := by decide +kernel
theorem dX12_drawn_40 : decode cX12_drawn 40 = .ok (.aload_n 0, 1) := by decide +kernel
theorem dX12_drawn_41 : decode cX12_drawn 41 = .ok (.getfield 218, 3) := by decide +kernel
theorem dX12_drawn_44 : decode cX12_drawn 44 = .ok (.ifCond .ne 14, 3) := by decide +kernel
theorem dX12_drawn_47 : decode cX12_drawn 47 = .ok (.aload_n 0, 1) := by decide +kernel
theorem dX12_drawn_48 : decode cX12_drawn 48 = .ok (.getfield 224, 3) := by decide +kernel
theorem dX12_drawn_51 : decode cX12_drawn 51 = .ok (.ifCond .ne 7, 3) := by decide +kernel
theorem dX12_drawn_54 : decode cX12_drawn 54 = .ok (.iconst 1, 1) := by decide +kernel
theorem dX12_drawn_55 : decode cX12_drawn 55 = .ok (.goto 4, 3) := by decide +kernel
theorem dX12_drawn_58 : decode cX12_drawn 58 = .ok (.iconst 0, 1) := by decide +kernel
theorem dX12_drawn_59 : decode cX12_drawn 59 = .ok (.iadd, 1) := by decide +kernel
theorem dX12_drawn_60 : decode cX12_drawn 60 = .ok (.istore_n 3, 1) := by decide +kernel
theorem dX12_drawn_61 : decode cX12_drawn 61 = .ok (.iinc 4 1, 3) := by decide +kernel
theorem dX12_drawn_64 : decode cX12_drawn 64 = .ok (.goto (-40), 3) := by decide +kernel
theorem dX12_drawn_67 : decode cX12_drawn 67 = .ok (.iload_n 3, 1) := by decide +kernel
theorem dX12_drawn_68 : decode cX12_drawn 68 = .ok (.ireturn, 1) := by decide +kernel

set_option maxHeartbeats 4000000 in
set_option maxRecDepth 100000 in
theorem m_drawn (l : Launch) (D : va_G) (m0 : Nat) (mp : Nat) (mw : Nat) (mh : Nat) (mo : Nat) (m5 : Nat) (m6 : Nat) (m7 : Nat) (mk : Nat) (mn : Nat) (mq : Nat) (m8 : Nat) (m9 : Nat) (ma : Nat) (mb : Nat) (md : Nat) (p1 : Int32) : Met l yX12_drawn (Cond.code yX12_drawn cX12_drawn 5 (some .int) :: gw_tbl) ({ frames := 3, cells := 0, slots := 0, locals := 69 }) (pc_S D [] [(m0, .inr (12, [.ref mp, .int 0, .int 0, .int 0, .ref mw, .ref mh, .ref mo, .int 0, .int 0, .int 0, .int 0, .int 0, .int 0, .ref m5, .ref m6, .ref m7, .long 0, .int 0, .ref mk, .ref mn, .int 0, .ref mq, .ref m8, .ref m9, .int 0, .int 0, .int 0, .int 0, .ref ma, .int 0, .ref mb, .ref md, .long 0]))] [.ref m0, .int p1]) (vp_Si (fun r => r = (-101))) 0 0 (fun _ => False) := by
  refine Met.ofW (cc := cX12_drawn) (maxL := 5) (ret := (some .int)) (by decide) rfl ?_
  intro p e s m args below meth c s₁ B hml hv
  obtain ⟨hargs, hP, hK⟩ := hv
  have hx := B.exec
  have hb := B.bytes
  have hr := B.returns
  have hts := atoms_spec (ws := Cond.code yX12_drawn cX12_drawn 5 (some .int) :: gw_tbl) B.pre
  have hg := fun (w : Cond) (h : w ∈ gw_tbl) => hts w (List.mem_cons_of_mem _ h)
  have hown : s.vm.findClass RX12 = some m.cls := findClass_of_methodNamed B.named
  have hlocks := B.notSynchronized
  have hl := lv_entry ([.ref m0, .int p1]) (n := 5) (Nat.le_of_ble_eq_true rfl)
  rw [show entryFrame m args 5 = F0 m 0 (lg_sl ([.ref m0, .int p1]) ++ List.replicate (5 - (lg_sl ([.ref m0, .int p1])).length) Slot.unset).toArray [] from by rw [hargs]; exact lg_entry_eq ..]
  generalize (lg_sl ([.ref m0, .int p1]) ++ List.replicate (5 - (lg_sl ([.ref m0, .int p1])).length) Slot.unset).toArray = ls at hl ⊢
  have hl : lv_has ls 5 [(0, .ref m0), (1, .int p1)] := hl
  refine W_genQ (fun Q hQ => ?_)
  refine lv_aload_n hx hb dX12_drawn_0 rfl (lv_at hl 0 rfl) ?_
  refine lv_iload_n hx hb dX12_drawn_1 rfl (lv_at hl 1 rfl) ?_
  refine lv_iconst (v := 0) hx hb dX12_drawn_2 (by decide) ?_
  refine lv_iconst (v := 1) hx hb dX12_drawn_3 (by decide) ?_
  have hPc := hP.sub (ws' := [(m0, .inr (12, [.ref mp, .int 0, .int 0, .int 0, .ref mw, .ref mh, .ref mo, .int 0, .int 0, .int 0, .int 0, .int 0, .int 0, .ref m5, .ref m6, .ref m7, .long 0, .int 0, .ref mk, .ref mn, .int 0, .ref mq, .ref m8, .ref m9, .int 0, .int 0, .int 0, .int 0, .ref ma, .int 0, .ref mb, .ref md, .long 0]))]) [0] rfl
  have hKc := hK.sub (tys' := []) [] rfl
  refine vp_callSi (W.runV (As := [.int p1, .int 0, .int 1]) (rest := []) ⟨hx, hb, hml, hown, hg⟩ (m_refusal l D m0 mp mw mh mo m5 m6 m7 mk mn mq m8 m9 ma mb md p1 0 1) (cwV 3 hg (gw_V kw_225 kw_226 kw_227 kw_210 kw_224) rfl rfl rfl (by decide +kernel) ⟨Nat.le_of_ble_eq_true rfl, Nat.le_of_ble_eq_true rfl⟩) (pr_SV (q := (RX12, TX12, 33)) 12 0 hKc hPc rfl rfl) rfl rfl hl.1 rfl (lv_room (Nat.le_of_ble_eq_true rfl)) dX12_drawn_4 ⟨Nat.le_of_ble_eq_true rfl, Nat.le_of_ble_eq_true rfl⟩) (fun r_4 h_4 => ?_)
  obtain rfl : r_4 = ((-101) : Int32) := h_4
  refine lv_istore_n (lv' := [(2, .int (-101)), (0, .ref m0), (1, .int p1)]) hx hb dX12_drawn_7 rfl hl (by decide) rfl (fun ls hl => ?_)
  refine lv_iload_n hx hb dX12_drawn_8 rfl (lv_at hl 0 rfl) ?_
  refine lv_if_eq (tgt := 14) hx hb dX12_drawn_9 (by decide) (fun c_9 => absurd c_9 (by decide)) (fun c_9 => ?_)
  refine lv_iload_n hx hb dX12_drawn_12 rfl (lv_at hl 0 rfl) ?_
  subst hQ
  exact W.iret (v := (-101)) hx hb hr (fun t ht hW => ⟨(-101), rfl, rfl, ht⟩) (fun _ h => absurd h List.not_mem_nil) dX12_drawn_13

theorem dX12_leastSame_0 : decode cX12_leastSame 0 = .ok (.aload_n 0, 1) := by decide +kernel
theorem dX12_leastSame_1 : decode cX12_leastSame 1 = .ok (.getfield 57, 3) := by decide +kernel
theorem dX12_leastSame_4 : decode cX12_leastSame 4 = .ok (.ifCond .ne 6, 3) := by decide +kernel
theorem dX12_leastSame_7 : decode cX12_leastSame 7 = .ok (.bipush (-103), 2) := by decide +kernel
theorem dX12_leastSame_9 : decode cX12_leastSame 9 = .ok (.ireturn, 1) := by decide +kernel
theorem dX12_leastSame_10 : decode cX12_leastSame 10 = .ok (.aload_n 0, 1) := by decide +kernel
theorem dX12_leastSame_11 : decode cX12_leastSame 11 = .ok (.iconst 1, 1) := by decide +kernel
theorem dX12_leastSame_12 : decode cX12_leastSame 12 = .ok (.putfield 147, 3) := by decide +kernel
theorem dX12_leastSame_15 : decode cX12_leastSame 15 = .ok (.iconst 0, 1) := by decide +kernel
theorem dX12_leastSame_16 : decode cX12_leastSame 16 = .ok (.istore_n 1, 1) := by decide +kernel
theorem dX12_leastSame_17 : decode cX12_leastSame 17 = .ok (.iload_n 1, 1) := by decide +kernel
theorem dX12_leastSame_18 : decode cX12_leastSame 18 = .ok (.sipush 1000, 3) := by decide +kernel
theorem dX12_leastSame_21 : decode cX12_leastSame 21 = .ok (.if_icmp .ge 25, 3) := by decide +kernel
theorem dX12_leastSame_24 : decode cX12_leastSame 24 = .ok (.aload_n 0, 1) := by decide +kernel
theorem dX12_leastSame_25 : decode cX12_leastSame 25 = .ok (.getfield 38, 3) := by decide +kernel
theorem dX12_leastSame_28 : decode cX12_leastSame 28 = .ok (.iconst 0, 1) := by decide +kernel
theorem dX12_leastSame_29 : decode cX12_leastSame 29 = .ok (.iload_n 1, 1) := by decide +kernel
theorem dX12_leastSame_30 : decode cX12_leastSame 30 = .ok (.iastore, 1) := by decide +kernel
theorem dX12_leastSame_31 : decode cX12_leastSame 31 = .ok (.aload_n 0, 1) := by decide +kernel
theorem dX12_leastSame_32 : decode cX12_leastSame 32 = .ok (.invokevirtual 231, 3) := by decide +kernel
theorem dX12_leastSame_35 : decode cX12_leastSame 35 = .ok (.ifCond .eq 5, 3) := by decide +kernel
theorem dX12_leastSame_38 : decode cX12_leastSame 38 = .ok (.iload_n 1, 1) := by decide +kernel
theorem dX12_leastSame_39 : decode cX12_leastSame 39 = .ok (.ireturn, 1) := by decide +kernel
theorem dX12_leastSame_40 : decode cX12_leastSame 40 = .ok (.iinc 1 1, 3) := by decide +kernel
theorem dX12_leastSame_43 : decode cX12_leastSame 43 = .ok (.goto (-26), 3) := by decide +kernel
theorem dX12_leastSame_46 : decode cX12_leastSame 46 = .ok (.iconst (-1), 1) := by decide +kernel
theorem dX12_leastSame_47 : decode cX12_leastSame 47 = .ok (.ireturn, 1) := by decide +kernel

set_option maxHeartbeats 4000000 in
set_option maxRecDepth 100000 in
theorem m_leastSame (l : Launch) (D : va_G) (m0 : Nat) (mp : Nat) (mw : Nat) (mh : Nat) (mo : Nat) (m5 : Nat) (m6 : Nat) (m7 : Nat) (mk : Nat) (mn : Nat) (mq : Nat) (m8 : Nat) (m9 : Nat) (ma : Nat) (mb : Nat) (md : Nat) : Met l yX12_leastSame (Cond.code yX12_leastSame cX12_leastSame 2 (some .int) :: gw_tbl) ({ frames := 0, cells := 0, slots := 0, locals := 0 }) (pc_S D [] [(m0, .inr (12, [.ref mp, .int 0, .int 0, .int 0, .ref mw, .ref mh, .ref mo, .int 0, .int 0, .int 0, .int 0, .int 0, .int 0, .ref m5, .ref m6, .ref m7, .long 0, .int 0, .ref mk, .ref mn, .int 0, .ref mq, .ref m8, .ref m9, .int 0, .int 0, .int 0, .int 0, .ref ma, .int 0, .ref mb, .ref md, .long 0]))] [.ref m0]) (vp_Si (fun r => r = (-103))) 0 0 (fun _ => False) := by
  refine Met.ofW (cc := cX12_leastSame) (maxL := 2) (ret := (some .int)) (by decide) rfl ?_
  intro p e s m args below meth c s₁ B hml hv
  obtain ⟨hargs, hP, hK⟩ := hv
  have hx := B.exec
  have hb := B.bytes
  have hr := B.returns
  have hts := atoms_spec (ws := Cond.code yX12_leastSame cX12_leastSame 2 (some .int) :: gw_tbl) B.pre
  have hg := fun (w : Cond) (h : w ∈ gw_tbl) => hts w (List.mem_cons_of_mem _ h)
  have hown : s.vm.findClass RX12 = some m.cls := findClass_of_methodNamed B.named
  have hlocks := B.notSynchronized
  have hl := lv_entry ([.ref m0]) (n := 2) (Nat.le_of_ble_eq_true rfl)
  rw [show entryFrame m args 2 = F0 m 0 (lg_sl ([.ref m0]) ++ List.replicate (2 - (lg_sl ([.ref m0])).length) Slot.unset).toArray [] from by rw [hargs]; exact lg_entry_eq ..]
  generalize (lg_sl ([.ref m0]) ++ List.replicate (2 - (lg_sl ([.ref m0])).length) Slot.unset).toArray = ls at hl ⊢
  have hl : lv_has ls 2 [(0, .ref m0)] := hl
  refine W_genQ (fun Q hQ => ?_)
  refine lv_aload_n hx hb dX12_leastSame_0 rfl (lv_at hl 0 rfl) ?_
  refine va_get (D := D) (ci := 12) (v := .int 0) (C := RX12) (T := TX12) (N := 33) hx hb hg gwX12 hown hK hP 0 rfl rfl 3 (by decide) (hg _ kw_206) (fun _ h9 => h9) rfl dX12_leastSame_1 ?_
  refine lv_if_ne (tgt := 10) hx hb dX12_leastSame_4 (by decide) (fun c_4 => absurd c_4 (by decide)) (fun c_4 => ?_)
  refine lv_bipush (v := (-103)) hx hb dX12_leastSame_7 (by decide) ?_
  subst hQ
  exact W.iret (v := (-103)) hx hb hr (fun t ht hW => ⟨(-103), rfl, rfl, ht⟩) (fun _ h => absurd h List.not_mem_nil) dX12_leastSame_9

theorem dX12_leastTable_0 : decode cX12_leastTable 0 = .ok (.aload_n 0, 1) := by decide +kernel
theorem dX12_leastTable_1 : decode cX12_leastTable 1 = .ok (.getfield 57, 3) := by decide +kernel
theorem dX12_leastTable_4 : decode cX12_leastTable 4 = .ok (.ifCond .ne 6, 3) := by decide +kernel
theorem dX12_leastTable_7 : decode cX12_leastTable 7 = .ok (.bipush (-103), 2) := by decide +kernel
theorem dX12_leastTable_9 : decode cX12_leastTable 9 = .ok (.ireturn, 1) := by decide +kernel
theorem dX12_leastTable_10 : decode cX12_leastTable 10 = .ok (.iload_n 1, 1) := by decide +kernel
theorem dX12_leastTable_11 : decode cX12_leastTable 11 = .ok (.i2l, 1) := by decide +kernel
theorem dX12_leastTable_12 : decode cX12_leastTable 12 = .ok (.lconst 0, 1) := by decide +kernel
theorem dX12_leastTable_13 : decode cX12_leastTable 13 = .ok (.ldc2_w 137, 3) := by decide +kernel
theorem dX12_leastTable_16 : decode cX12_leastTable 16 = .ok (.invokestatic 70, 3) := by decide +kernel
theorem dX12_leastTable_19 : decode cX12_leastTable 19 = .ok (.ifCond .ne 6, 3) := by decide +kernel
theorem dX12_leastTable_22 : decode cX12_leastTable 22 = .ok (.bipush (-102), 2) := by decide +kernel
theorem dX12_leastTable_24 : decode cX12_leastTable 24 = .ok (.ireturn, 1) := by decide +kernel
theorem dX12_leastTable_25 : decode cX12_leastTable 25 = .ok (.aload_n 0, 1) := by decide +kernel
theorem dX12_leastTable_26 : decode cX12_leastTable 26 = .ok (.getfield 241, 3) := by decide +kernel
theorem dX12_leastTable_29 : decode cX12_leastTable 29 = .ok (.bipush 10, 2) := by decide +kernel
theorem dX12_leastTable_31 : decode cX12_leastTable 31 = .ok (.if_icmp .ne 6, 3) := by decide +kernel
theorem dX12_leastTable_34 : decode cX12_leastTable 34 = .ok (.bipush (-103), 2) := by decide +kernel
theorem dX12_leastTable_36 : decode cX12_leastTable 36 = .ok (.ireturn, 1) := by decide +kernel
theorem dX12_leastTable_37 : decode cX12_leastTable 37 = .ok (.aload_n 0, 1) := by decide +kernel
theorem dX12_leastTable_38 : decode cX12_leastTable 38 = .ok (.dup, 1) := by decide +kernel
theorem dX12_leastTable_39 : decode cX12_leastTable 39 = .ok (.getfield 241, 3) := by decide +kernel
theorem dX12_leastTable_42 : decode cX12_leastTable 42 = .ok (.iconst 1, 1) := by decide +kernel
theorem dX12_leastTable_43 : decode cX12_leastTable 43 = .ok (.iadd, 1) := by decide +kernel
theorem dX12_leastTable_44 : decode cX12_leastTable 44 = .ok (.putfield 241, 3) := by decide +kernel
theorem dX12_leastTable_47 : decode cX12_leastTable 47 = .ok (.aload_n 0, 1) := by decide +kernel
theorem dX12_leastTable_48 : decode cX12_leastTable 48 = .ok (.invokevirtual 244, 3) := by decide +kernel
theorem dX12_leastTable_51 : decode cX12_leastTable 51 = .ok (.iconst (-1), 1) := by decide +kernel
theorem dX12_leastTable_52 : decode cX12_leastTable 52 = .ok (.istore_n 2, 1) := by decide +kernel
theorem dX12_leastTable_53 : decode cX12_leastTable 53 = .ok (.iconst 0, 1) := by decide +kernel
theorem dX12_leastTable_54 : decode cX12_leastTable 54 = .ok (.istore_n 3, 1) := by decide +kernel
theorem dX12_leastTable_55 : decode cX12_leastTable 55 = .ok (.lconst 0, 1) := by decide +kernel
theorem dX12_leastTable_56 : decode cX12_leastTable 56 = .ok (.lstore 4, 2) := by decide +kernel
theorem dX12_leastTable_58 : decode cX12_leastTable 58 = .ok (.iconst 0, 1) := by decide +kernel
theorem dX12_leastTable_59 : decode cX12_leastTable 59 = .ok (.istore 6, 2) := by decide +kernel
theorem dX12_leastTable_61 : decode cX12_leastTable 61 = .ok (.iload 6, 2) := by decide +kernel
theorem dX12_leastTable_63 : decode cX12_leastTable 63 = .ok (.sipush 10000, 3) := by decide +kernel
theorem dX12_leastTable_66 : decode cX12_leastTable 66 = .ok (.if_icmp .ge 114, 3) := by decide +kernel
theorem dX12_leastTable_69 : decode cX12_leastTable 69 = .ok (.aload_n 0, 1) := by decide +kernel
theorem dX12_leastTable_70 : decode cX12_leastTable 70 = .ok (.iload 6, 2) := by decide +kernel
theorem dX12_leastTable_72 : decode cX12_leastTable 72 = .ok (.invokevirtual 247, 3) := by decide +kernel
theorem dX12_leastTable_75 : decode cX12_leastTable 75 = .ok (.ifCond .eq 99, 3) := by decide +kernel
theorem dX12_leastTable_78 : decode cX12_leastTable 78 = .ok (.lconst 0, 1) := by decide +kernel
theorem dX12_leastTable_79 : decode cX12_leastTable 79 = .ok (.lstore 7, 2) := by decide +kernel
theorem dX12_leastTable_81 : decode cX12_leastTable 81 = .ok (.iconst 0, 1) := by decide +kernel
theorem dX12_leastTable_82 : decode cX12_leastTable 82 = .ok (.istore 9, 2) := by decide +kernel
theorem dX12_leastTable_84 : decode cX12_leastTable 84 = .ok (.iload 9, 2) := by decide +kernel
theorem dX12_leastTable_86 : decode cX12_leastTable 86 = .ok (.aload_n 0, 1) := by decide +kernel
theorem dX12_leastTable_87 : decode cX12_leastTable 87 = .ok (.getfield 57, 3) := by decide +kernel
theorem dX12_leastTable_90 : decode cX12_leastTable 90 = .ok (.if_icmp .ge 41, 3) := by decide +kernel
theorem dX12_leastTable_93 : decode cX12_leastTable 93 = .ok (.lload 7, 2) := by decide +kernel
theorem dX12_leastTable_95 : decode cX12_leastTable 95 = .ok (.aload_n 0, 1) := by decide +kernel
theorem dX12_leastTable_96 : decode cX12_leastTable 96 = .ok (.iload 9, 2) := by decide +kernel
theorem dX12_leastTable_98 : decode cX12_leastTable 98 = .ok (.iconst 0, 1) := by decide +kernel
theorem dX12_leastTable_99 : decode cX12_leastTable 99 = .ok (.iload 6, 2) := by decide +kernel
theorem dX12_leastTable_101 : decode cX12_leastTable 101 = .ok (.invokevirtual 237, 3) := by decide +kernel
theorem dX12_leastTable_104 : decode cX12_leastTable 104 = .ok (.ldc2_w 168, 3) := by decide +kernel
theorem dX12_leastTable_107 : decode cX12_leastTable 107 = .ok (.aload_n 0, 1) := by decide +kernel
theorem dX12_leastTable_108 : decode cX12_leastTable 108 = .ok (.getfield 117, 3) := by decide +kernel
theorem dX12_leastTable_111 : decode cX12_leastTable 111 = .ok (.lmul, 1) := by decide +kernel
theorem dX12_leastTable_112 : decode cX12_leastTable 112 = .ok (.aload_n 0, 1) := by decide +kernel
theorem dX12_leastTable_113 : decode cX12_leastTable 113 = .ok (.getfield 19, 3) := by decide +kernel
theorem dX12_leastTable_116 : decode cX12_leastTable 116 = .ok (.iload 9, 2) := by decide +kernel
theorem dX12_leastTable_118 : decode cX12_leastTable 118 = .ok (.iaload, 1) := by decide +kernel
theorem dX12_leastTable_119 : decode cX12_leastTable 119 = .ok (.i2l, 1) := by decide +kernel
theorem dX12_leastTable_120 : decode cX12_leastTable 120 = .ok (.lmul, 1) := by decide +kernel
theorem dX12_leastTable_121 : decode cX12_leastTable 121 = .ok (.ladd, 1) := by decide +kernel
theorem dX12_leastTable_122 : decode cX12_leastTable 122 = .ok (.ladd, 1) := by decide +kernel
theorem dX12_leastTable_123 : decode cX12_leastTable 123 = .ok (.lstore 7, 2) := by decide +kernel
theorem dX12_leastTable_125 : decode cX12_leastTable 125 = .ok (.iinc 9 1, 3) := by decide +kernel
theorem dX12_leastTable_128 : decode cX12_leastTable 128 = .ok (.goto (-44), 3) := by decide +kernel
theorem dX12_leastTable_131 : decode cX12_leastTable 131 = .ok (.iload_n 3, 1) := by decide +kernel
theorem dX12_leastTable_132 : decode cX12_leastTable 132 = .ok (.ifCond .eq 11, 3) := by decide +kernel
theorem dX12_leastTable_135 : decode cX12_leastTable 135 = .ok (.lload 7, 2) := by decide +kernel
theorem dX12_leastTable_137 : decode cX12_leastTable 137 = .ok (.lload 4, 2) := by decide +kernel
theorem dX12_leastTable_139 : decode cX12_leastTable 139 = .ok (.lcmp, 1) := by decide +kernel
theorem dX12_leastTable_140 : decode cX12_leastTable 140 = .ok (.ifCond .ge 8, 3) := by decide +kernel
theorem dX12_leastTable_143 : decode cX12_leastTable 143 = .ok (.iload 6, 2) := by decide +kernel
theorem dX12_leastTable_145 : decode cX12_leastTable 145 = .ok (.goto 4, 3) := by decide +kernel
theorem dX12_leastTable_148 : decode cX12_leastTable 148 = .ok (.iload_n 2, 1) := by decide +kernel
theorem dX12_leastTable_149 : decode cX12_leastTable 149 = .ok (.istore_n 2, 1) := by decide +kernel
theorem dX12_leastTable_150 : decode cX12_leastTable 150 = .ok (.iload_n 3, 1) := by decide +kernel
theorem dX12_leastTable_151 : decode cX12_leastTable 151 = .ok (.ifCond .eq 11, 3) := by decide +kernel
theorem dX12_leastTable_154 : decode cX12_leastTable 154 = .ok (.lload 7, 2) := by decide +kernel
theorem dX12_leastTable_156 : decode cX12_leastTable 156 = .ok (.lload 4, 2) := by decide +kernel
theorem dX12_leastTable_158 : decode cX12_leastTable 158 = .ok (.lcmp, 1) := by decide +kernel
theorem dX12_leastTable_159 : decode cX12_leastTable 159 = .ok (.ifCond .ge 8, 3) := by decide +kernel
theorem dX12_leastTable_162 : decode cX12_leastTable 162 = .ok (.lload 7, 2) := by decide +kernel
theorem dX12_leastTable_164 : decode cX12_leastTable 164 = .ok (.goto 5, 3) := by decide +kernel
theorem dX12_leastTable_167 : decode cX12_leastTable 167 = .ok (.lload 4, 2) := by decide +kernel
theorem dX12_leastTable_169 : decode cX12_leastTable 169 = .ok (.lstore 4, 2) := by decide +kernel
theorem dX12_leastTable_171 : decode cX12_leastTable 171 = .ok (.iinc 3 1, 3) := by decide +kernel
theorem dX12_leastTable_174 : decode cX12_leastTable 174 = .ok (.iinc 6 1, 3) := by decide +kernel
theorem dX12_leastTable_177 : decode cX12_leastTable 177 = .ok (.goto (-116), 3) := by decide +kernel
theorem dX12_leastTable_180 : decode cX12_leastTable 180 = .ok (.iload_n 1, 1) := by decide +kernel
theorem dX12_leastTable_181 : decode cX12_leastTable 181 = .ok (.iconst 4, 1) := by decide +kernel
theorem dX12_leastTable_182 : decode cX12_leastTable 182 = .ok (.if_icmp .ne 5, 3) := by decide +kernel
theorem dX12_leastTable_185 : decode cX12_leastTable 185 = .ok (.iload_n 3, 1) := by decide +kernel
theorem dX12_leastTable_186 : decode cX12_leastTable 186 = .ok (.ireturn, 1) := by decide +kernel
theorem dX12_leastTable_187 : decode cX12_leastTable 187 = .ok (.iload_n 2, 1) := by decide +kernel
theorem dX12_leastTable_188 : decode cX12_leastTable 188 = .ok (.istore 6, 2) := by decide +kernel
theorem dX12_leastTable_190 : decode cX12_leastTable 190 = .ok (.iconst 3, 1) := by decide +kernel
theorem dX12_leastTable_191 : decode cX12_leastTable 191 = .ok (.istore 7, 2) := by decide +kernel
theorem dX12_leastTable_193 : decode cX12_leastTable 193 = .ok (.iload 7, 2) := by decide +kernel
theorem dX12_leastTable_195 : decode cX12_leastTable 195 = .ok (.iload_n 1, 1) := by decide +kernel
theorem dX12_leastTable_196 : decode cX12_leastTable 196 = .ok (.if_icmp .le 21, 3) := by decide +kernel
theorem dX12_leastTable_199 : decode cX12_leastTable 199 = .ok (.iload_n 2, 1) := by decide +kernel
theorem dX12_leastTable_200 : decode cX12_leastTable 200 = .ok (.iconst (-1), 1) := by decide +kernel
theorem dX12_leastTable_201 : decode cX12_leastTable 201 = .ok (.if_icmp .eq 16, 3) := by decide +kernel
theorem dX12_leastTable_204 : decode cX12_leastTable 204 = .ok (.iload 6, 2) := by decide +kernel
theorem dX12_leastTable_206 : decode cX12_leastTable 206 = .ok (.bipush 10, 2) := by decide +kernel
theorem dX12_leastTable_208 : decode cX12_leastTable 208 = .ok (.idiv, 1) := by decide +kernel
theorem dX12_leastTable_209 : decode cX12_leastTable 209 = .ok (.istore 6, 2) := by decide +kernel
theorem dX12_leastTable_211 : decode cX12_leastTable 211 = .ok (.iinc 7 (-1), 3) := by decide +kernel
theorem dX12_leastTable_214 : decode cX12_leastTable 214 = .ok (.goto (-21), 3) := by decide +kernel
theorem dX12_leastTable_217 : decode cX12_leastTable 217 = .ok (.iload_n 2, 1) := by decide +kernel
theorem dX12_leastTable_218 : decode cX12_leastTable 218 = .ok (.iconst (-1), 1) := by decide +kernel
theorem dX12_leastTable_219 : decode cX12_leastTable 219 = .ok (.if_icmp .ne 7, 3) := by decide +kernel
theorem dX12_leastTable_222 : decode cX12_leastTable 222 = .ok (.iconst (-1), 1) := by decide +kernel
theorem dX12_leastTable_223 : decode cX12_leastTable 223 = .ok (.goto 8, 3) := by decide +kernel
theorem dX12_leastTable_226 : decode cX12_leastTable 226 = .ok (.iload 6, 2) := by decide +kernel
theorem dX12_leastTable_228 : decode cX12_leastTable 228 = .ok (.bipush 10, 2) := by decide +kernel
theorem dX12_leastTable_230 : decode cX12_leastTable 230 = .ok (.irem, 1) := by decide +kernel
theorem dX12_leastTable_231 : decode cX12_leastTable 231 = .ok (.ireturn, 1) := by decide +kernel

set_option maxHeartbeats 4000000 in
set_option maxRecDepth 100000 in
theorem m_leastTable (l : Launch) (D : va_G) (m0 : Nat) (mp : Nat) (mw : Nat) (mh : Nat) (mo : Nat) (m5 : Nat) (m6 : Nat) (m7 : Nat) (mk : Nat) (mn : Nat) (mq : Nat) (m8 : Nat) (m9 : Nat) (ma : Nat) (mb : Nat) (md : Nat) (p1 : Int32) : Met l yX12_leastTable (Cond.code yX12_leastTable cX12_leastTable 10 (some .int) :: gw_tbl) ({ frames := 0, cells := 0, slots := 0, locals := 0 }) (pc_S D [] [(m0, .inr (12, [.ref mp, .int 0, .int 0, .int 0, .ref mw, .ref mh, .ref mo, .int 0, .int 0, .int 0, .int 0, .int 0, .int 0, .ref m5, .ref m6, .ref m7, .long 0, .int 0, .ref mk, .ref mn, .int 0, .ref mq, .ref m8, .ref m9, .int 0, .int 0, .int 0, .int 0, .ref ma, .int 0, .ref mb, .ref md, .long 0]))] [.ref m0, .int p1]) (vp_Si (fun r => r = (-103))) 0 0 (fun _ => False) := by
  refine Met.ofW (cc := cX12_leastTable) (maxL := 10) (ret := (some .int)) (by decide) rfl ?_
  intro p e s m args below meth c s₁ B hml hv
  obtain ⟨hargs, hP, hK⟩ := hv
  have hx := B.exec
  have hb := B.bytes
  have hr := B.returns
  have hts := atoms_spec (ws := Cond.code yX12_leastTable cX12_leastTable 10 (some .int) :: gw_tbl) B.pre
  have hg := fun (w : Cond) (h : w ∈ gw_tbl) => hts w (List.mem_cons_of_mem _ h)
  have hown : s.vm.findClass RX12 = some m.cls := findClass_of_methodNamed B.named
  have hlocks := B.notSynchronized
  have hl := lv_entry ([.ref m0, .int p1]) (n := 10) (Nat.le_of_ble_eq_true rfl)
  rw [show entryFrame m args 10 = F0 m 0 (lg_sl ([.ref m0, .int p1]) ++ List.replicate (10 - (lg_sl ([.ref m0, .int p1])).length) Slot.unset).toArray [] from by rw [hargs]; exact lg_entry_eq ..]
  generalize (lg_sl ([.ref m0, .int p1]) ++ List.replicate (10 - (lg_sl ([.ref m0, .int p1])).length) Slot.unset).toArray = ls at hl ⊢
  have hl : lv_has ls 10 [(0, .ref m0), (1, .int p1)] := hl
  refine W_genQ (fun Q hQ => ?_)
  refine lv_aload_n hx hb dX12_leastTable_0 rfl (lv_at hl 0 rfl) ?_
  refine va_get (D := D) (ci := 12) (v := .int 0) (C := RX12) (T := TX12) (N := 33) hx hb hg gwX12 hown hK hP 0 rfl rfl 3 (by decide) (hg _ kw_206) (fun _ h9 => h9) rfl dX12_leastTable_1 ?_
  refine lv_if_ne (tgt := 10) hx hb dX12_leastTable_4 (by decide) (fun c_4 => absurd c_4 (by decide)) (fun c_4 => ?_)
  refine lv_bipush (v := (-103)) hx hb dX12_leastTable_7 (by decide) ?_
  subst hQ
  exact W.iret (v := (-103)) hx hb hr (fun t ht hW => ⟨(-103), rfl, rfl, ht⟩) (fun _ h => absurd h List.not_mem_nil) dX12_leastTable_9

theorem dX12_leastLook_0 : decode cX12_leastLook 0 = .ok (.aload_n 0, 1) := by decide +kernel
theorem dX12_leastLook_1 : decode cX12_leastLook 1 = .ok (.iload_n 1, 1) := by decide +kernel
theorem dX12_leastLook_2 : decode cX12_leastLook 2 = .ok (.invokevirtual 142, 3) := by decide +kernel
theorem dX12_leastLook_5 : decode cX12_leastLook 5 = .ok (.ifCond .ne 6, 3) := by decide +kernel
theorem dX12_leastLook_8 : decode cX12_leastLook 8 = .ok (.bipush (-101), 2) := by decide +kernel
theorem dX12_leastLook_10 : decode cX12_leastLook 10 = .ok (.ireturn, 1) := by decide +kernel
theorem dX12_leastLook_11 : decode cX12_leastLook 11 = .ok (.aload_n 0, 1) := by decide +kernel
theorem dX12_leastLook_12 : decode cX12_leastLook 12 = .ok (.getfield 57, 3) := by decide +kernel
theorem dX12_leastLook_15 : decode cX12_leastLook 15 = .ok (.ifCond .eq 13, 3) := by decide +kernel
theorem dX12_leastLook_18 : decode cX12_leastLook 18 = .ok (.aload_n 0, 1) := by decide +kernel
theorem dX12_leastLook_19 : decode cX12_leastLook 19 = .ok (.getfield 32, 3) := by decide +kernel
theorem dX12_leastLook_22 : decode cX12_leastLook 22 = .ok (.iload_n 1, 1) := by decide +kernel
theorem dX12_leastLook_23 : decode cX12_leastLook 23 = .ok (.iaload, 1) := by decide +kernel
theorem dX12_leastLook_24 : decode cX12_leastLook 24 = .ok (.iconst 4, 1) := by decide +kernel
theorem dX12_leastLook_25 : decode cX12_leastLook 25 = .ok (.if_icmp .eq 6, 3) := by decide +kernel
theorem dX12_leastLook_28 : decode cX12_leastLook 28 = .ok (.bipush (-103), 2) := by decide +kernel
theorem dX12_leastLook_30 : decode cX12_leastLook 30 = .ok (.ireturn, 1) := by decide +kernel
theorem dX12_leastLook_31 : decode cX12_leastLook 31 = .ok (.aload_n 0, 1) := by decide +kernel
theorem dX12_leastLook_32 : decode cX12_leastLook 32 = .ok (.iload_n 1, 1) := by decide +kernel
theorem dX12_leastLook_33 : decode cX12_leastLook 33 = .ok (.invokevirtual 154, 3) := by decide +kernel
theorem dX12_leastLook_36 : decode cX12_leastLook 36 = .ok (.iconst 0, 1) := by decide +kernel
theorem dX12_leastLook_37 : decode cX12_leastLook 37 = .ok (.istore_n 2, 1) := by decide +kernel
theorem dX12_leastLook_38 : decode cX12_leastLook 38 = .ok (.iload_n 2, 1) := by decide +kernel
theorem dX12_leastLook_39 : decode cX12_leastLook 39 = .ok (.bipush 101, 2) := by decide +kernel
theorem dX12_leastLook_41 : decode cX12_leastLook 41 = .ok (.if_icmp .ge 25, 3) := by decide +kernel
theorem dX12_leastLook_44 : decode cX12_leastLook 44 = .ok (.aload_n 0, 1) := by decide +kernel
theorem dX12_leastLook_45 : decode cX12_leastLook 45 = .ok (.getfield 38, 3) := by decide +kernel
theorem dX12_leastLook_48 : decode cX12_leastLook 48 = .ok (.iconst 1, 1) := by decide +kernel
theorem dX12_leastLook_49 : decode cX12_leastLook 49 = .ok (.iload_n 2, 1) := by decide +kernel
theorem dX12_leastLook_50 : decode cX12_leastLook 50 = .ok (.iastore, 1) := by decide +kernel
theorem dX12_leastLook_51 : decode cX12_leastLook 51 = .ok (.aload_n 0, 1) := by decide +kernel
theorem dX12_leastLook_52 : decode cX12_leastLook 52 = .ok (.invokevirtual 231, 3) := by decide +kernel
theorem dX12_leastLook_55 : decode cX12_leastLook 55 = .ok (.ifCond .eq 5, 3) := by decide +kernel
theorem dX12_leastLook_58 : decode cX12_leastLook 58 = .ok (.iload_n 2, 1) := by decide +kernel
theorem dX12_leastLook_59 : decode cX12_leastLook 59 = .ok (.ireturn, 1) := by decide +kernel
theorem dX12_leastLook_60 : decode cX12_leastLook 60 = .ok (.iinc 2 1, 3) := by decide +kernel
theorem dX12_leastLook_63 : decode cX12_leastLook 63 = .ok (.goto (-25), 3) := by decide +kernel
theorem dX12_leastLook_66 : decode cX12_leastLook 66 = .ok (.iconst (-1), 1) := by decide +kernel
theorem dX12_leastLook_67 : decode cX12_leastLook 67 = .ok (.ireturn, 1) := by decide +kernel

set_option maxHeartbeats 4000000 in
set_option maxRecDepth 100000 in
theorem m_leastLook (l : Launch) (D : va_G) (m0 : Nat) (mp : Nat) (mw : Nat) (mh : Nat) (mo : Nat) (m5 : Nat) (m6 : Nat) (m7 : Nat) (mk : Nat) (mn : Nat) (mq : Nat) (m8 : Nat) (m9 : Nat) (ma : Nat) (mb : Nat) (md : Nat) (p1 : Int32) : Met l yX12_leastLook (Cond.code yX12_leastLook cX12_leastLook 3 (some .int) :: gw_tbl) ({ frames := 2, cells := 0, slots := 0, locals := 46 }) (pc_S D [] [(m0, .inr (12, [.ref mp, .int 0, .int 0, .int 0, .ref mw, .ref mh, .ref mo, .int 0, .int 0, .int 0, .int 0, .int 0, .int 0, .ref m5, .ref m6, .ref m7, .long 0, .int 0, .ref mk, .ref mn, .int 0, .ref mq, .ref m8, .ref m9, .int 0, .int 0, .int 0, .int 0, .ref ma, .int 0, .ref mb, .ref md, .long 0]))] [.ref m0, .int p1]) (vp_Si (fun r => r = (-101))) 0 0 (fun _ => False) := by
  refine Met.ofW (cc := cX12_leastLook) (maxL := 3) (ret := (some .int)) (by decide) rfl ?_
  intro p e s m args below meth c s₁ B hml hv
  obtain ⟨hargs, hP, hK⟩ := hv
  have hx := B.exec
  have hb := B.bytes
  have hr := B.returns
  have hts := atoms_spec (ws := Cond.code yX12_leastLook cX12_leastLook 3 (some .int) :: gw_tbl) B.pre
  have hg := fun (w : Cond) (h : w ∈ gw_tbl) => hts w (List.mem_cons_of_mem _ h)
  have hown : s.vm.findClass RX12 = some m.cls := findClass_of_methodNamed B.named
  have hlocks := B.notSynchronized
  have hl := lv_entry ([.ref m0, .int p1]) (n := 3) (Nat.le_of_ble_eq_true rfl)
  rw [show entryFrame m args 3 = F0 m 0 (lg_sl ([.ref m0, .int p1]) ++ List.replicate (3 - (lg_sl ([.ref m0, .int p1])).length) Slot.unset).toArray [] from by rw [hargs]; exact lg_entry_eq ..]
  generalize (lg_sl ([.ref m0, .int p1]) ++ List.replicate (3 - (lg_sl ([.ref m0, .int p1])).length) Slot.unset).toArray = ls at hl ⊢
  have hl : lv_has ls 3 [(0, .ref m0), (1, .int p1)] := hl
  refine W_genQ (fun Q hQ => ?_)
  refine lv_aload_n hx hb dX12_leastLook_0 rfl (lv_at hl 0 rfl) ?_
  refine lv_iload_n hx hb dX12_leastLook_1 rfl (lv_at hl 1 rfl) ?_
  have hPc := hP.sub (ws' := [(m0, .inr (12, [.ref mp, .int 0, .int 0, .int 0, .ref mw, .ref mh, .ref mo, .int 0, .int 0, .int 0, .int 0, .int 0, .int 0, .ref m5, .ref m6, .ref m7, .long 0, .int 0, .ref mk, .ref mn, .int 0, .ref mq, .ref m8, .ref m9, .int 0, .int 0, .int 0, .int 0, .ref ma, .int 0, .ref mb, .ref md, .long 0]))]) [0] rfl
  have hKc := hK.sub (tys' := []) [] rfl
  refine vp_callSi (W.runV (As := [.int p1]) (rest := []) ⟨hx, hb, hml, hown, hg⟩ (m_isPay l D m0 mp mw mh mo m5 m6 m7 mk mn mq m8 m9 ma mb md p1) (cwV 1 hg (gw_V kw_213 kw_214 kw_215 kw_210 kw_212) rfl rfl rfl (by decide +kernel) ⟨Nat.le_of_ble_eq_true rfl, Nat.le_of_ble_eq_true rfl⟩) (pr_SV (q := (RX12, TX12, 33)) 12 0 hKc hPc rfl rfl) rfl rfl hl.1 rfl (lv_room (Nat.le_of_ble_eq_true rfl)) dX12_leastLook_2 ⟨Nat.le_of_ble_eq_true rfl, Nat.le_of_ble_eq_true rfl⟩) (fun r_2 h_2 => ?_)
  obtain rfl : r_2 = (0 : Int32) := h_2
  refine lv_if_ne (tgt := 11) hx hb dX12_leastLook_5 (by decide) (fun c_5 => absurd c_5 (by decide)) (fun c_5 => ?_)
  refine lv_bipush (v := (-101)) hx hb dX12_leastLook_8 (by decide) ?_
  subst hQ
  exact W.iret (v := (-101)) hx hb hr (fun t ht hW => ⟨(-101), rfl, rfl, ht⟩) (fun _ h => absurd h List.not_mem_nil) dX12_leastLook_10

theorem dX12_mayBe_0 : decode cX12_mayBe 0 = .ok (.aload_n 0, 1) := by decide +kernel
theorem dX12_mayBe_1 : decode cX12_mayBe 1 = .ok (.iload_n 1, 1) := by decide +kernel
theorem dX12_mayBe_2 : decode cX12_mayBe 2 = .ok (.invokevirtual 142, 3) := by decide +kernel
theorem dX12_mayBe_5 : decode cX12_mayBe 5 = .ok (.ifCond .ne 6, 3) := by decide +kernel
theorem dX12_mayBe_8 : decode cX12_mayBe 8 = .ok (.bipush (-101), 2) := by decide +kernel
theorem dX12_mayBe_10 : decode cX12_mayBe 10 = .ok (.ireturn, 1) := by decide +kernel
theorem dX12_mayBe_11 : decode cX12_mayBe 11 = .ok (.aload_n 0, 1) := by decide +kernel
theorem dX12_mayBe_12 : decode cX12_mayBe 12 = .ok (.getfield 57, 3) := by decide +kernel
theorem dX12_mayBe_15 : decode cX12_mayBe 15 = .ok (.ifCond .ne 6, 3) := by decide +kernel
theorem dX12_mayBe_18 : decode cX12_mayBe 18 = .ok (.bipush (-103), 2) := by decide +kernel
theorem dX12_mayBe_20 : decode cX12_mayBe 20 = .ok (.ireturn, 1) := by decide +kernel
theorem dX12_mayBe_21 : decode cX12_mayBe 21 = .ok (.iload_n 2, 1) := by decide +kernel
theorem dX12_mayBe_22 : decode cX12_mayBe 22 = .ok (.i2l, 1) := by decide +kernel
theorem dX12_mayBe_23 : decode cX12_mayBe 23 = .ok (.lconst 0, 1) := by decide +kernel
theorem dX12_mayBe_24 : decode cX12_mayBe 24 = .ok (.ldc2_w 121, 3) := by decide +kernel
theorem dX12_mayBe_27 : decode cX12_mayBe 27 = .ok (.invokestatic 70, 3) := by decide +kernel
theorem dX12_mayBe_30 : decode cX12_mayBe 30 = .ok (.ifCond .ne 6, 3) := by decide +kernel
theorem dX12_mayBe_33 : decode cX12_mayBe 33 = .ok (.bipush (-102), 2) := by decide +kernel
theorem dX12_mayBe_35 : decode cX12_mayBe 35 = .ok (.ireturn, 1) := by decide +kernel
theorem dX12_mayBe_36 : decode cX12_mayBe 36 = .ok (.aload_n 0, 1) := by decide +kernel
theorem dX12_mayBe_37 : decode cX12_mayBe 37 = .ok (.iload_n 1, 1) := by decide +kernel
theorem dX12_mayBe_38 : decode cX12_mayBe 38 = .ok (.invokevirtual 154, 3) := by decide +kernel
theorem dX12_mayBe_41 : decode cX12_mayBe 41 = .ok (.aload_n 0, 1) := by decide +kernel
theorem dX12_mayBe_42 : decode cX12_mayBe 42 = .ok (.invokevirtual 231, 3) := by decide +kernel
theorem dX12_mayBe_45 : decode cX12_mayBe 45 = .ok (.ifCond .eq 7, 3) := by decide +kernel
theorem dX12_mayBe_48 : decode cX12_mayBe 48 = .ok (.iconst 1, 1) := by decide +kernel
theorem dX12_mayBe_49 : decode cX12_mayBe 49 = .ok (.goto 4, 3) := by decide +kernel
theorem dX12_mayBe_52 : decode cX12_mayBe 52 = .ok (.iconst 0, 1) := by decide +kernel
theorem dX12_mayBe_53 : decode cX12_mayBe 53 = .ok (.istore_n 3, 1) := by decide +kernel
theorem dX12_mayBe_54 : decode cX12_mayBe 54 = .ok (.iconst 0, 1) := by decide +kernel
theorem dX12_mayBe_55 : decode cX12_mayBe 55 = .ok (.istore 4, 2) := by decide +kernel
theorem dX12_mayBe_57 : decode cX12_mayBe 57 = .ok (.iload 4, 2) := by decide +kernel
theorem dX12_mayBe_59 : decode cX12_mayBe 59 = .ok (.aload_n 0, 1) := by decide +kernel
theorem dX12_mayBe_60 : decode cX12_mayBe 60 = .ok (.getfield 103, 3) := by decide +kernel
theorem dX12_mayBe_63 : decode cX12_mayBe 63 = .ok (.if_icmp .ge 149, 3) := by decide +kernel
theorem dX12_mayBe_66 : decode cX12_mayBe 66 = .ok (.iconst 0, 1) := by decide +kernel
theorem dX12_mayBe_67 : decode cX12_mayBe 67 = .ok (.istore 5, 2) := by decide +kernel
theorem dX12_mayBe_69 : decode cX12_mayBe 69 = .ok (.iload 5, 2) := by decide +kernel
theorem dX12_mayBe_71 : decode cX12_mayBe 71 = .ok (.aload_n 0, 1) := by decide +kernel
theorem dX12_mayBe_72 : decode cX12_mayBe 72 = .ok (.getfield 57, 3) := by decide +kernel
theorem dX12_mayBe_75 : decode cX12_mayBe 75 = .ok (.if_icmp .ge 131, 3) := by decide +kernel
theorem dX12_mayBe_78 : decode cX12_mayBe 78 = .ok (.aload_n 0, 1) := by decide +kernel
theorem dX12_mayBe_79 : decode cX12_mayBe 79 = .ok (.getfield 16, 3) := by decide +kernel
theorem dX12_mayBe_82 : decode cX12_mayBe 82 = .ok (.iconst 4, 1) := by decide +kernel
theorem dX12_mayBe_83 : decode cX12_mayBe 83 = .ok (.iload 4, 2) := by decide +kernel
theorem dX12_mayBe_85 : decode cX12_mayBe 85 = .ok (.imul, 1) := by decide +kernel
theorem dX12_mayBe_86 : decode cX12_mayBe 86 = .ok (.iload 5, 2) := by decide +kernel
theorem dX12_mayBe_88 : decode cX12_mayBe 88 = .ok (.iadd, 1) := by decide +kernel
theorem dX12_mayBe_89 : decode cX12_mayBe 89 = .ok (.iaload, 1) := by decide +kernel
theorem dX12_mayBe_90 : decode cX12_mayBe 90 = .ok (.istore 6, 2) := by decide +kernel
theorem dX12_mayBe_92 : decode cX12_mayBe 92 = .ok (.aload_n 0, 1) := by decide +kernel
theorem dX12_mayBe_93 : decode cX12_mayBe 93 = .ok (.getfield 16, 3) := by decide +kernel
theorem dX12_mayBe_96 : decode cX12_mayBe 96 = .ok (.iconst 4, 1) := by decide +kernel
theorem dX12_mayBe_97 : decode cX12_mayBe 97 = .ok (.iload 4, 2) := by decide +kernel
theorem dX12_mayBe_99 : decode cX12_mayBe 99 = .ok (.imul, 1) := by decide +kernel
theorem dX12_mayBe_100 : decode cX12_mayBe 100 = .ok (.iload 5, 2) := by decide +kernel
theorem dX12_mayBe_102 : decode cX12_mayBe 102 = .ok (.iadd, 1) := by decide +kernel
theorem dX12_mayBe_103 : decode cX12_mayBe 103 = .ok (.iload 6, 2) := by decide +kernel
theorem dX12_mayBe_105 : decode cX12_mayBe 105 = .ok (.iload_n 2, 1) := by decide +kernel
theorem dX12_mayBe_106 : decode cX12_mayBe 106 = .ok (.if_icmp .ge 7, 3) := by decide +kernel
theorem dX12_mayBe_109 : decode cX12_mayBe 109 = .ok (.iconst 0, 1) := by decide +kernel
theorem dX12_mayBe_110 : decode cX12_mayBe 110 = .ok (.goto 7, 3) := by decide +kernel
theorem dX12_mayBe_113 : decode cX12_mayBe 113 = .ok (.iload 6, 2) := by decide +kernel
theorem dX12_mayBe_115 : decode cX12_mayBe 115 = .ok (.iload_n 2, 1) := by decide +kernel
theorem dX12_mayBe_116 : decode cX12_mayBe 116 = .ok (.isub, 1) := by decide +kernel
theorem dX12_mayBe_117 : decode cX12_mayBe 117 = .ok (.iastore, 1) := by decide +kernel
theorem dX12_mayBe_118 : decode cX12_mayBe 118 = .ok (.aload_n 0, 1) := by decide +kernel
theorem dX12_mayBe_119 : decode cX12_mayBe 119 = .ok (.invokevirtual 109, 3) := by decide +kernel
theorem dX12_mayBe_122 : decode cX12_mayBe 122 = .ok (.iload_n 3, 1) := by decide +kernel
theorem dX12_mayBe_123 : decode cX12_mayBe 123 = .ok (.aload_n 0, 1) := by decide +kernel
theorem dX12_mayBe_124 : decode cX12_mayBe 124 = .ok (.invokevirtual 231, 3) := by decide +kernel
theorem dX12_mayBe_127 : decode cX12_mayBe 127 = .ok (.ifCond .eq 7, 3) := by decide +kernel
theorem dX12_mayBe_130 : decode cX12_mayBe 130 = .ok (.iconst 1, 1) := by decide +kernel
theorem dX12_mayBe_131 : decode cX12_mayBe 131 = .ok (.goto 4, 3) := by decide +kernel
theorem dX12_mayBe_134 : decode cX12_mayBe 134 = .ok (.iconst 0, 1) := by decide +kernel
theorem dX12_mayBe_135 : decode cX12_mayBe 135 = .ok (.iadd, 1) := by decide +kernel
theorem dX12_mayBe_136 : decode cX12_mayBe 136 = .ok (.istore_n 3, 1) := by decide +kernel
theorem dX12_mayBe_137 : decode cX12_mayBe 137 = .ok (.aload_n 0, 1) := by decide +kernel
theorem dX12_mayBe_138 : decode cX12_mayBe 138 = .ok (.getfield 16, 3) := by decide +kernel
theorem dX12_mayBe_141 : decode cX12_mayBe 141 = .ok (.iconst 4, 1) := by decide +kernel
theorem dX12_mayBe_142 : decode cX12_mayBe 142 = .ok (.iload 4, 2) := by decide +kernel
theorem dX12_mayBe_144 : decode cX12_mayBe 144 = .ok (.imul, 1) := by decide +kernel
theorem dX12_mayBe_145 : decode cX12_mayBe 145 = .ok (.iload 5, 2) := by decide +kernel
theorem dX12_mayBe_147 : decode cX12_mayBe 147 = .ok (.iadd, 1) := by decide +kernel
theorem dX12_mayBe_148 : decode cX12_mayBe 148 = .ok (.iload 6, 2) := by decide +kernel
theorem dX12_mayBe_150 : decode cX12_mayBe 150 = .ok (.iload_n 2, 1) := by decide +kernel
theorem dX12_mayBe_151 : decode cX12_mayBe 151 = .ok (.iadd, 1) := by decide +kernel
theorem dX12_mayBe_152 : decode cX12_mayBe 152 = .ok (.bipush 100, 2) := by decide +kernel
theorem dX12_mayBe_154 : decode cX12_mayBe 154 = .ok (.if_icmp .le 8, 3) := by decide +kernel
theorem dX12_mayBe_157 : decode cX12_mayBe 157 = .ok (.bipush 100, 2) := by decide +kernel
theorem dX12_mayBe_159 : decode cX12_mayBe 159 = .ok (.goto 7, 3) := by decide +kernel
theorem dX12_mayBe_162 : decode cX12_mayBe 162 = .ok (.iload 6, 2) := by decide +kernel
theorem dX12_mayBe_164 : decode cX12_mayBe 164 = .ok (.iload_n 2, 1) := by decide +kernel
theorem dX12_mayBe_165 : decode cX12_mayBe 165 = .ok (.iadd, 1) := by decide +kernel
theorem dX12_mayBe_166 : decode cX12_mayBe 166 = .ok (.iastore, 1) := by decide +kernel
theorem dX12_mayBe_167 : decode cX12_mayBe 167 = .ok (.aload_n 0, 1) := by decide +kernel
theorem dX12_mayBe_168 : decode cX12_mayBe 168 = .ok (.invokevirtual 109, 3) := by decide +kernel
theorem dX12_mayBe_171 : decode cX12_mayBe 171 = .ok (.iload_n 3, 1) := by decide +kernel
theorem dX12_mayBe_172 : decode cX12_mayBe 172 = .ok (.aload_n 0, 1) := by decide +kernel
theorem dX12_mayBe_173 : decode cX12_mayBe 173 = .ok (.invokevirtual 231, 3) := by decide +kernel
theorem dX12_mayBe_176 : decode cX12_mayBe 176 = .ok (.ifCond .eq 7, 3) := by decide +kernel
theorem dX12_mayBe_179 : decode cX12_mayBe 179 = .ok (.iconst 1, 1) := by decide +kernel
theorem dX12_mayBe_180 : decode cX12_mayBe 180 = .ok (.goto 4, 3) := by decide +kernel
theorem dX12_mayBe_183 : decode cX12_mayBe 183 = .ok (.iconst 0, 1) := by decide +kernel
theorem dX12_mayBe_184 : decode cX12_mayBe 184 = .ok (.iadd, 1) := by decide +kernel
theorem dX12_mayBe_185 : decode cX12_mayBe 185 = .ok (.istore_n 3, 1) := by decide +kernel
theorem dX12_mayBe_186 : decode cX12_mayBe 186 = .ok (.aload_n 0, 1) := by decide +kernel
theorem dX12_mayBe_187 : decode cX12_mayBe 187 = .ok (.getfield 16, 3) := by decide +kernel
theorem dX12_mayBe_190 : decode cX12_mayBe 190 = .ok (.iconst 4, 1) := by decide +kernel
theorem dX12_mayBe_191 : decode cX12_mayBe 191 = .ok (.iload 4, 2) := by decide +kernel
theorem dX12_mayBe_193 : decode cX12_mayBe 193 = .ok (.imul, 1) := by decide +kernel
theorem dX12_mayBe_194 : decode cX12_mayBe 194 = .ok (.iload 5, 2) := by decide +kernel
theorem dX12_mayBe_196 : decode cX12_mayBe 196 = .ok (.iadd, 1) := by decide +kernel
theorem dX12_mayBe_197 : decode cX12_mayBe 197 = .ok (.iload 6, 2) := by decide +kernel
theorem dX12_mayBe_199 : decode cX12_mayBe 199 = .ok (.iastore, 1) := by decide +kernel
theorem dX12_mayBe_200 : decode cX12_mayBe 200 = .ok (.iinc 5 1, 3) := by decide +kernel
theorem dX12_mayBe_203 : decode cX12_mayBe 203 = .ok (.goto (-134), 3) := by decide +kernel
theorem dX12_mayBe_206 : decode cX12_mayBe 206 = .ok (.iinc 4 1, 3) := by decide +kernel
theorem dX12_mayBe_209 : decode cX12_mayBe 209 = .ok (.goto (-152), 3) := by decide +kernel
theorem dX12_mayBe_212 : decode cX12_mayBe 212 = .ok (.aload_n 0, 1) := by decide +kernel
theorem dX12_mayBe_213 : decode cX12_mayBe 213 = .ok (.invokevirtual 109, 3) := by decide +kernel
theorem dX12_mayBe_216 : decode cX12_mayBe 216 = .ok (.iload_n 3, 1) := by decide +kernel
theorem dX12_mayBe_217 : decode cX12_mayBe 217 = .ok (.ireturn, 1) := by decide +kernel

set_option maxHeartbeats 4000000 in
set_option maxRecDepth 100000 in
theorem m_mayBe (l : Launch) (D : va_G) (m0 : Nat) (mp : Nat) (mw : Nat) (mh : Nat) (mo : Nat) (m5 : Nat) (m6 : Nat) (m7 : Nat) (mk : Nat) (mn : Nat) (mq : Nat) (m8 : Nat) (m9 : Nat) (ma : Nat) (mb : Nat) (md : Nat) (p1 : Int32) (p2 : Int32) : Met l yX12_mayBe (Cond.code yX12_mayBe cX12_mayBe 7 (some .int) :: gw_tbl) ({ frames := 2, cells := 0, slots := 0, locals := 46 }) (pc_S D [] [(m0, .inr (12, [.ref mp, .int 0, .int 0, .int 0, .ref mw, .ref mh, .ref mo, .int 0, .int 0, .int 0, .int 0, .int 0, .int 0, .ref m5, .ref m6, .ref m7, .long 0, .int 0, .ref mk, .ref mn, .int 0, .ref mq, .ref m8, .ref m9, .int 0, .int 0, .int 0, .int 0, .ref ma, .int 0, .ref mb, .ref md, .long 0]))] [.ref m0, .int p1, .int p2]) (vp_Si (fun r => r = (-101))) 0 0 (fun _ => False) := by
  refine Met.ofW (cc := cX12_mayBe) (maxL := 7) (ret := (some .int)) (by decide) rfl ?_
  intro p e s m args below meth c s₁ B hml hv
  obtain ⟨hargs, hP, hK⟩ := hv
  have hx := B.exec
  have hb := B.bytes
  have hr := B.returns
  have hts := atoms_spec (ws := Cond.code yX12_mayBe cX12_mayBe 7 (some .int) :: gw_tbl) B.pre
  have hg := fun (w : Cond) (h : w ∈ gw_tbl) => hts w (List.mem_cons_of_mem _ h)
  have hown : s.vm.findClass RX12 = some m.cls := findClass_of_methodNamed B.named
  have hlocks := B.notSynchronized
  have hl := lv_entry ([.ref m0, .int p1, .int p2]) (n := 7) (Nat.le_of_ble_eq_true rfl)
  rw [show entryFrame m args 7 = F0 m 0 (lg_sl ([.ref m0, .int p1, .int p2]) ++ List.replicate (7 - (lg_sl ([.ref m0, .int p1, .int p2])).length) Slot.unset).toArray [] from by rw [hargs]; exact lg_entry_eq ..]
  generalize (lg_sl ([.ref m0, .int p1, .int p2]) ++ List.replicate (7 - (lg_sl ([.ref m0, .int p1, .int p2])).length) Slot.unset).toArray = ls at hl ⊢
  have hl : lv_has ls 7 [(0, .ref m0), (1, .int p1), (2, .int p2)] := hl
  refine W_genQ (fun Q hQ => ?_)
  refine lv_aload_n hx hb dX12_mayBe_0 rfl (lv_at hl 0 rfl) ?_
  refine lv_iload_n hx hb dX12_mayBe_1 rfl (lv_at hl 1 rfl) ?_
  have hPc := hP.sub (ws' := [(m0, .inr (12, [.ref mp, .int 0, .int 0, .int 0, .ref mw, .ref mh, .ref mo, .int 0, .int 0, .int 0, .int 0, .int 0, .int 0, .ref m5, .ref m6, .ref m7, .long 0, .int 0, .ref mk, .ref mn, .int 0, .ref mq, .ref m8, .ref m9, .int 0, .int 0, .int 0, .int 0, .ref ma, .int 0, .ref mb, .ref md, .long 0]))]) [0] rfl
  have hKc := hK.sub (tys' := []) [] rfl
  refine vp_callSi (W.runV (As := [.int p1]) (rest := []) ⟨hx, hb, hml, hown, hg⟩ (m_isPay l D m0 mp mw mh mo m5 m6 m7 mk mn mq m8 m9 ma mb md p1) (cwV 1 hg (gw_V kw_213 kw_214 kw_215 kw_210 kw_212) rfl rfl rfl (by decide +kernel) ⟨Nat.le_of_ble_eq_true rfl, Nat.le_of_ble_eq_true rfl⟩) (pr_SV (q := (RX12, TX12, 33)) 12 0 hKc hPc rfl rfl) rfl rfl hl.1 rfl (lv_room (Nat.le_of_ble_eq_true rfl)) dX12_mayBe_2 ⟨Nat.le_of_ble_eq_true rfl, Nat.le_of_ble_eq_true rfl⟩) (fun r_2 h_2 => ?_)
  obtain rfl : r_2 = (0 : Int32) := h_2
  refine lv_if_ne (tgt := 11) hx hb dX12_mayBe_5 (by decide) (fun c_5 => absurd c_5 (by decide)) (fun c_5 => ?_)
  refine lv_bipush (v := (-101)) hx hb dX12_mayBe_8 (by decide) ?_
  subst hQ
  exact W.iret (v := (-101)) hx hb hr (fun t ht hW => ⟨(-101), rfl, rfl, ht⟩) (fun _ h => absurd h List.not_mem_nil) dX12_mayBe_10

theorem dX12_row_0 : decode cX12_row 0 = .ok (.aload_n 0, 1) := by decide +kernel
theorem dX12_row_1 : decode cX12_row 1 = .ok (.getfield 57, 3) := by decide +kernel
theorem dX12_row_4 : decode cX12_row 4 = .ok (.ifCond .ne 6, 3) := by decide +kernel
theorem dX12_row_7 : decode cX12_row 7 = .ok (.bipush (-103), 2) := by decide +kernel
theorem dX12_row_9 : decode cX12_row 9 = .ok (.ireturn, 1) := by decide +kernel
theorem dX12_row_10 : decode cX12_row 10 = .ok (.iconst 1, 1) := by decide +kernel
theorem dX12_row_11 : decode cX12_row 11 = .ok (.istore 4, 2) := by decide +kernel
theorem dX12_row_13 : decode cX12_row 13 = .ok (.lconst 1, 1) := by decide +kernel
theorem dX12_row_14 : decode cX12_row 14 = .ok (.lstore 5, 2) := by decide +kernel
theorem dX12_row_16 : decode cX12_row 16 = .ok (.iconst 0, 1) := by decide +kernel
theorem dX12_row_17 : decode cX12_row 17 = .ok (.istore 7, 2) := by decide +kernel
theorem dX12_row_19 : decode cX12_row 19 = .ok (.iload 7, 2) := by decide +kernel
theorem dX12_row_21 : decode cX12_row 21 = .ok (.aload_n 0, 1) := by decide +kernel
theorem dX12_row_22 : decode cX12_row 22 = .ok (.getfield 57, 3) := by decide +kernel
theorem dX12_row_25 : decode cX12_row 25 = .ok (.if_icmp .ge 23, 3) := by decide +kernel
theorem dX12_row_28 : decode cX12_row 28 = .ok (.iload 4, 2) := by decide +kernel
theorem dX12_row_30 : decode cX12_row 30 = .ok (.iconst 3, 1) := by decide +kernel
theorem dX12_row_31 : decode cX12_row 31 = .ok (.imul, 1) := by decide +kernel
theorem dX12_row_32 : decode cX12_row 32 = .ok (.istore 4, 2) := by decide +kernel
theorem dX12_row_34 : decode cX12_row 34 = .ok (.lload 5, 2) := by decide +kernel
theorem dX12_row_36 : decode cX12_row 36 = .ok (.ldc2_w 250, 3) := by decide +kernel
theorem dX12_row_39 : decode cX12_row 39 = .ok (.lmul, 1) := by decide +kernel
theorem dX12_row_40 : decode cX12_row 40 = .ok (.lstore 5, 2) := by decide +kernel
theorem dX12_row_42 : decode cX12_row 42 = .ok (.iinc 7 1, 3) := by decide +kernel
theorem dX12_row_45 : decode cX12_row 45 = .ok (.goto (-26), 3) := by decide +kernel
theorem dX12_row_48 : decode cX12_row 48 = .ok (.iload_n 1, 1) := by decide +kernel
theorem dX12_row_49 : decode cX12_row 49 = .ok (.i2l, 1) := by decide +kernel
theorem dX12_row_50 : decode cX12_row 50 = .ok (.lconst 0, 1) := by decide +kernel
theorem dX12_row_51 : decode cX12_row 51 = .ok (.iload 4, 2) := by decide +kernel
theorem dX12_row_53 : decode cX12_row 53 = .ok (.iconst 1, 1) := by decide +kernel
theorem dX12_row_54 : decode cX12_row 54 = .ok (.isub, 1) := by decide +kernel
theorem dX12_row_55 : decode cX12_row 55 = .ok (.i2l, 1) := by decide +kernel
theorem dX12_row_56 : decode cX12_row 56 = .ok (.invokestatic 70, 3) := by decide +kernel
theorem dX12_row_59 : decode cX12_row 59 = .ok (.ifCond .eq 23, 3) := by decide +kernel
theorem dX12_row_62 : decode cX12_row 62 = .ok (.lload_n 2, 1) := by decide +kernel
theorem dX12_row_63 : decode cX12_row 63 = .ok (.ldc2_w 131, 3) := by decide +kernel
theorem dX12_row_66 : decode cX12_row 66 = .ok (.lcmp, 1) := by decide +kernel
theorem dX12_row_67 : decode cX12_row 67 = .ok (.ifCond .eq 18, 3) := by decide +kernel
theorem dX12_row_70 : decode cX12_row 70 = .ok (.lload_n 2, 1) := by decide +kernel
theorem dX12_row_71 : decode cX12_row 71 = .ok (.lconst 0, 1) := by decide +kernel
theorem dX12_row_72 : decode cX12_row 72 = .ok (.lload 5, 2) := by decide +kernel
theorem dX12_row_74 : decode cX12_row 74 = .ok (.lconst 1, 1) := by decide +kernel
theorem dX12_row_75 : decode cX12_row 75 = .ok (.lsub, 1) := by decide +kernel
theorem dX12_row_76 : decode cX12_row 76 = .ok (.invokestatic 70, 3) := by decide +kernel
theorem dX12_row_79 : decode cX12_row 79 = .ok (.ifCond .ne 6, 3) := by decide +kernel
theorem dX12_row_82 : decode cX12_row 82 = .ok (.bipush (-102), 2) := by decide +kernel
theorem dX12_row_84 : decode cX12_row 84 = .ok (.ireturn, 1) := by decide +kernel
theorem dX12_row_85 : decode cX12_row 85 = .ok (.aload_n 0, 1) := by decide +kernel
theorem dX12_row_86 : decode cX12_row 86 = .ok (.getfield 106, 3) := by decide +kernel
theorem dX12_row_89 : decode cX12_row 89 = .ok (.bipush 24, 2) := by decide +kernel
theorem dX12_row_91 : decode cX12_row 91 = .ok (.if_icmp .ne 6, 3) := by decide +kernel
theorem dX12_row_94 : decode cX12_row 94 = .ok (.bipush (-104), 2) := by decide +kernel
theorem dX12_row_96 : decode cX12_row 96 = .ok (.ireturn, 1) := by decide +kernel
theorem dX12_row_97 : decode cX12_row 97 = .ok (.aload_n 0, 1) := by decide +kernel
theorem dX12_row_98 : decode cX12_row 98 = .ok (.getfield 51, 3) := by decide +kernel
theorem dX12_row_101 : decode cX12_row 101 = .ok (.aload_n 0, 1) := by decide +kernel
theorem dX12_row_102 : decode cX12_row 102 = .ok (.getfield 106, 3) := by decide +kernel
theorem dX12_row_105 : decode cX12_row 105 = .ok (.iload_n 1, 1) := by decide +kernel
theorem dX12_row_106 : decode cX12_row 106 = .ok (.iastore, 1) := by decide +kernel
theorem dX12_row_107 : decode cX12_row 107 = .ok (.aload_n 0, 1) := by decide +kernel
theorem dX12_row_108 : decode cX12_row 108 = .ok (.getfield 54, 3) := by decide +kernel
theorem dX12_row_111 : decode cX12_row 111 = .ok (.aload_n 0, 1) := by decide +kernel
theorem dX12_row_112 : decode cX12_row 112 = .ok (.getfield 106, 3) := by decide +kernel
theorem dX12_row_115 : decode cX12_row 115 = .ok (.lload_n 2, 1) := by decide +kernel
theorem dX12_row_116 : decode cX12_row 116 = .ok (.lastore, 1) := by decide +kernel
theorem dX12_row_117 : decode cX12_row 117 = .ok (.aload_n 0, 1) := by decide +kernel
theorem dX12_row_118 : decode cX12_row 118 = .ok (.dup, 1) := by decide +kernel
theorem dX12_row_119 : decode cX12_row 119 = .ok (.getfield 106, 3) := by decide +kernel
theorem dX12_row_122 : decode cX12_row 122 = .ok (.iconst 1, 1) := by decide +kernel
theorem dX12_row_123 : decode cX12_row 123 = .ok (.iadd, 1) := by decide +kernel
theorem dX12_row_124 : decode cX12_row 124 = .ok (.putfield 106, 3) := by decide +kernel
theorem dX12_row_127 : decode cX12_row 127 = .ok (.aload_n 0, 1) := by decide +kernel
theorem dX12_row_128 : decode cX12_row 128 = .ok (.getfield 106, 3) := by decide +kernel
theorem dX12_row_131 : decode cX12_row 131 = .ok (.ireturn, 1) := by decide +kernel

set_option maxHeartbeats 4000000 in
set_option maxRecDepth 100000 in
theorem m_row (l : Launch) (D : va_G) (m0 : Nat) (mp : Nat) (mw : Nat) (mh : Nat) (mo : Nat) (m5 : Nat) (m6 : Nat) (m7 : Nat) (mk : Nat) (mn : Nat) (mq : Nat) (m8 : Nat) (m9 : Nat) (ma : Nat) (mb : Nat) (md : Nat) (p1 : Int32) (p2 : Int64) : Met l yX12_row (Cond.code yX12_row cX12_row 8 (some .int) :: gw_tbl) ({ frames := 0, cells := 0, slots := 0, locals := 0 }) (pc_S D [] [(m0, .inr (12, [.ref mp, .int 0, .int 0, .int 0, .ref mw, .ref mh, .ref mo, .int 0, .int 0, .int 0, .int 0, .int 0, .int 0, .ref m5, .ref m6, .ref m7, .long 0, .int 0, .ref mk, .ref mn, .int 0, .ref mq, .ref m8, .ref m9, .int 0, .int 0, .int 0, .int 0, .ref ma, .int 0, .ref mb, .ref md, .long 0]))] [.ref m0, .int p1, .long p2]) (vp_Si (fun r => r = (-103))) 0 0 (fun _ => False) := by
  refine Met.ofW (cc := cX12_row) (maxL := 8) (ret := (some .int)) (by decide) rfl ?_
  intro p e s m args below meth c s₁ B hml hv
  obtain ⟨hargs, hP, hK⟩ := hv
  have hx := B.exec
  have hb := B.bytes
  have hr := B.returns
  have hts := atoms_spec (ws := Cond.code yX12_row cX12_row 8 (some .int) :: gw_tbl) B.pre
  have hg := fun (w : Cond) (h : w ∈ gw_tbl) => hts w (List.mem_cons_of_mem _ h)
  have hown : s.vm.findClass RX12 = some m.cls := findClass_of_methodNamed B.named
  have hlocks := B.notSynchronized
  have hl := lv_entry ([.ref m0, .int p1, .long p2]) (n := 8) (Nat.le_of_ble_eq_true rfl)
  rw [show entryFrame m args 8 = F0 m 0 (lg_sl ([.ref m0, .int p1, .long p2]) ++ List.replicate (8 - (lg_sl ([.ref m0, .int p1, .long p2])).length) Slot.unset).toArray [] from by rw [hargs]; exact lg_entry_eq ..]
  generalize (lg_sl ([.ref m0, .int p1, .long p2]) ++ List.replicate (8 - (lg_sl ([.ref m0, .int p1, .long p2])).length) Slot.unset).toArray = ls at hl ⊢
  have hl : lv_has ls 8 [(0, .ref m0), (1, .int p1), (2, .long p2)] := hl
  refine W_genQ (fun Q hQ => ?_)
  refine lv_aload_n hx hb dX12_row_0 rfl (lv_at hl 0 rfl) ?_
  refine va_get (D := D) (ci := 12) (v := .int 0) (C := RX12) (T := TX12) (N := 33) hx hb hg gwX12 hown hK hP 0 rfl rfl 3 (by decide) (hg _ kw_206) (fun _ h9 => h9) rfl dX12_row_1 ?_
  refine lv_if_ne (tgt := 10) hx hb dX12_row_4 (by decide) (fun c_4 => absurd c_4 (by decide)) (fun c_4 => ?_)
  refine lv_bipush (v := (-103)) hx hb dX12_row_7 (by decide) ?_
  subst hQ
  exact W.iret (v := (-103)) hx hb hr (fun t ht hW => ⟨(-103), rfl, rfl, ht⟩) (fun _ h => absurd h List.not_mem_nil) dX12_row_9

theorem dX12_alike_0 : decode cX12_alike 0 = .ok (.aload_n 0, 1) := by decide +kernel
theorem dX12_alike_1 : decode cX12_alike 1 = .ok (.iload_n 1, 1) := by decide +kernel
theorem dX12_alike_2 : decode cX12_alike 2 = .ok (.invokevirtual 112, 3) := by decide +kernel
theorem dX12_alike_5 : decode cX12_alike 5 = .ok (.ifCond .eq 16, 3) := by decide +kernel
theorem dX12_alike_8 : decode cX12_alike 8 = .ok (.aload_n 0, 1) := by decide +kernel
theorem dX12_alike_9 : decode cX12_alike 9 = .ok (.iload_n 2, 1) := by decide +kernel
theorem dX12_alike_10 : decode cX12_alike 10 = .ok (.invokevirtual 112, 3) := by decide +kernel
theorem dX12_alike_13 : decode cX12_alike 13 = .ok (.ifCond .eq 8, 3) := by decide +kernel
theorem dX12_alike_16 : decode cX12_alike 16 = .ok (.iload_n 1, 1) := by decide +kernel
theorem dX12_alike_17 : decode cX12_alike 17 = .ok (.iload_n 2, 1) := by decide +kernel
theorem dX12_alike_18 : decode cX12_alike 18 = .ok (.if_icmp .ne 6, 3) := by decide +kernel
theorem dX12_alike_21 : decode cX12_alike 21 = .ok (.ldc 255, 2) := by decide +kernel
theorem dX12_alike_23 : decode cX12_alike 23 = .ok (.ireturn, 1) := by decide +kernel
theorem dX12_alike_24 : decode cX12_alike 24 = .ok (.iload_n 3, 1) := by decide +kernel
theorem dX12_alike_25 : decode cX12_alike 25 = .ok (.i2l, 1) := by decide +kernel
theorem dX12_alike_26 : decode cX12_alike 26 = .ok (.lconst 0, 1) := by decide +kernel
theorem dX12_alike_27 : decode cX12_alike 27 = .ok (.ldc2_w 145, 3) := by decide +kernel
theorem dX12_alike_30 : decode cX12_alike 30 = .ok (.invokestatic 70, 3) := by decide +kernel
theorem dX12_alike_33 : decode cX12_alike 33 = .ok (.ifCond .ne 7, 3) := by decide +kernel
theorem dX12_alike_36 : decode cX12_alike 36 = .ok (.ldc_w 256, 3) := by decide +kernel
theorem dX12_alike_39 : decode cX12_alike 39 = .ok (.ireturn, 1) := by decide +kernel
theorem dX12_alike_40 : decode cX12_alike 40 = .ok (.iconst 0, 1) := by decide +kernel
theorem dX12_alike_41 : decode cX12_alike 41 = .ok (.istore 4, 2) := by decide +kernel
theorem dX12_alike_43 : decode cX12_alike 43 = .ok (.iconst 0, 1) := by decide +kernel
theorem dX12_alike_44 : decode cX12_alike 44 = .ok (.istore 5, 2) := by decide +kernel
theorem dX12_alike_46 : decode cX12_alike 46 = .ok (.iconst 0, 1) := by decide +kernel
theorem dX12_alike_47 : decode cX12_alike 47 = .ok (.istore 6, 2) := by decide +kernel
theorem dX12_alike_49 : decode cX12_alike 49 = .ok (.iconst 0, 1) := by decide +kernel
theorem dX12_alike_50 : decode cX12_alike 50 = .ok (.istore 7, 2) := by decide +kernel
theorem dX12_alike_52 : decode cX12_alike 52 = .ok (.iload 7, 2) := by decide +kernel
theorem dX12_alike_54 : decode cX12_alike 54 = .ok (.aload_n 0, 1) := by decide +kernel
theorem dX12_alike_55 : decode cX12_alike 55 = .ok (.getfield 106, 3) := by decide +kernel
theorem dX12_alike_58 : decode cX12_alike 58 = .ok (.if_icmp .ge 113, 3) := by decide +kernel
theorem dX12_alike_61 : decode cX12_alike 61 = .ok (.aload_n 0, 1) := by decide +kernel
theorem dX12_alike_62 : decode cX12_alike 62 = .ok (.iload 7, 2) := by decide +kernel
theorem dX12_alike_64 : decode cX12_alike 64 = .ok (.iload_n 1, 1) := by decide +kernel
theorem dX12_alike_65 : decode cX12_alike 65 = .ok (.iload_n 2, 1) := by decide +kernel
theorem dX12_alike_66 : decode cX12_alike 66 = .ok (.invokevirtual 257, 3) := by decide +kernel
theorem dX12_alike_69 : decode cX12_alike 69 = .ok (.ifCond .eq 96, 3) := by decide +kernel
theorem dX12_alike_72 : decode cX12_alike 72 = .ok (.iinc 4 1, 3) := by decide +kernel
theorem dX12_alike_75 : decode cX12_alike 75 = .ok (.iload 5, 2) := by decide +kernel
theorem dX12_alike_77 : decode cX12_alike 77 = .ok (.aload_n 0, 1) := by decide +kernel
theorem dX12_alike_78 : decode cX12_alike 78 = .ok (.iload 7, 2) := by decide +kernel
theorem dX12_alike_80 : decode cX12_alike 80 = .ok (.iload_n 1, 1) := by decide +kernel
theorem dX12_alike_81 : decode cX12_alike 81 = .ok (.invokevirtual 252, 3) := by decide +kernel
theorem dX12_alike_84 : decode cX12_alike 84 = .ok (.aload_n 0, 1) := by decide +kernel
theorem dX12_alike_85 : decode cX12_alike 85 = .ok (.iload 7, 2) := by decide +kernel
theorem dX12_alike_87 : decode cX12_alike 87 = .ok (.iload_n 2, 1) := by decide +kernel
theorem dX12_alike_88 : decode cX12_alike 88 = .ok (.invokevirtual 252, 3) := by decide +kernel
theorem dX12_alike_91 : decode cX12_alike 91 = .ok (.if_icmp .ne 7, 3) := by decide +kernel
theorem dX12_alike_94 : decode cX12_alike 94 = .ok (.iconst 1, 1) := by decide +kernel
theorem dX12_alike_95 : decode cX12_alike 95 = .ok (.goto 4, 3) := by decide +kernel
theorem dX12_alike_98 : decode cX12_alike 98 = .ok (.iconst 0, 1) := by decide +kernel
theorem dX12_alike_99 : decode cX12_alike 99 = .ok (.iadd, 1) := by decide +kernel
theorem dX12_alike_100 : decode cX12_alike 100 = .ok (.istore 5, 2) := by decide +kernel
theorem dX12_alike_102 : decode cX12_alike 102 = .ok (.iconst 0, 1) := by decide +kernel
theorem dX12_alike_103 : decode cX12_alike 103 = .ok (.istore 8, 2) := by decide +kernel
theorem dX12_alike_105 : decode cX12_alike 105 = .ok (.iload 8, 2) := by decide +kernel
theorem dX12_alike_107 : decode cX12_alike 107 = .ok (.aload_n 0, 1) := by decide +kernel
theorem dX12_alike_108 : decode cX12_alike 108 = .ok (.getfield 106, 3) := by decide +kernel
theorem dX12_alike_111 : decode cX12_alike 111 = .ok (.if_icmp .ge 54, 3) := by decide +kernel
theorem dX12_alike_114 : decode cX12_alike 114 = .ok (.iload 6, 2) := by decide +kernel
theorem dX12_alike_116 : decode cX12_alike 116 = .ok (.iload 8, 2) := by decide +kernel
theorem dX12_alike_118 : decode cX12_alike 118 = .ok (.iload 7, 2) := by decide +kernel
theorem dX12_alike_120 : decode cX12_alike 120 = .ok (.if_icmp .eq 35, 3) := by decide +kernel
theorem dX12_alike_123 : decode cX12_alike 123 = .ok (.aload_n 0, 1) := by decide +kernel
theorem dX12_alike_124 : decode cX12_alike 124 = .ok (.iload 8, 2) := by decide +kernel
theorem dX12_alike_126 : decode cX12_alike 126 = .ok (.iload_n 1, 1) := by decide +kernel
theorem dX12_alike_127 : decode cX12_alike 127 = .ok (.iload_n 2, 1) := by decide +kernel
theorem dX12_alike_128 : decode cX12_alike 128 = .ok (.invokevirtual 257, 3) := by decide +kernel
theorem dX12_alike_131 : decode cX12_alike 131 = .ok (.ifCond .eq 24, 3) := by decide +kernel
theorem dX12_alike_134 : decode cX12_alike 134 = .ok (.aload_n 0, 1) := by decide +kernel
theorem dX12_alike_135 : decode cX12_alike 135 = .ok (.iload 7, 2) := by decide +kernel
theorem dX12_alike_137 : decode cX12_alike 137 = .ok (.iload_n 1, 1) := by decide +kernel
theorem dX12_alike_138 : decode cX12_alike 138 = .ok (.invokevirtual 252, 3) := by decide +kernel
theorem dX12_alike_141 : decode cX12_alike 141 = .ok (.aload_n 0, 1) := by decide +kernel
theorem dX12_alike_142 : decode cX12_alike 142 = .ok (.iload 8, 2) := by decide +kernel
theorem dX12_alike_144 : decode cX12_alike 144 = .ok (.iload_n 2, 1) := by decide +kernel
theorem dX12_alike_145 : decode cX12_alike 145 = .ok (.invokevirtual 252, 3) := by decide +kernel
theorem dX12_alike_148 : decode cX12_alike 148 = .ok (.if_icmp .ne 7, 3) := by decide +kernel
theorem dX12_alike_151 : decode cX12_alike 151 = .ok (.iconst 1, 1) := by decide +kernel
theorem dX12_alike_152 : decode cX12_alike 152 = .ok (.goto 4, 3) := by decide +kernel
theorem dX12_alike_155 : decode cX12_alike 155 = .ok (.iconst 0, 1) := by decide +kernel
theorem dX12_alike_156 : decode cX12_alike 156 = .ok (.iadd, 1) := by decide +kernel
theorem dX12_alike_157 : decode cX12_alike 157 = .ok (.istore 6, 2) := by decide +kernel
theorem dX12_alike_159 : decode cX12_alike 159 = .ok (.iinc 8 1, 3) := by decide +kernel
theorem dX12_alike_162 : decode cX12_alike 162 = .ok (.goto (-57), 3) := by decide +kernel
theorem dX12_alike_165 : decode cX12_alike 165 = .ok (.iinc 7 1, 3) := by decide +kernel
theorem dX12_alike_168 : decode cX12_alike 168 = .ok (.goto (-116), 3) := by decide +kernel
theorem dX12_alike_171 : decode cX12_alike 171 = .ok (.iload 4, 2) := by decide +kernel
theorem dX12_alike_173 : decode cX12_alike 173 = .ok (.iload_n 3, 1) := by decide +kernel
theorem dX12_alike_174 : decode cX12_alike 174 = .ok (.iconst 2, 1) := by decide +kernel
theorem dX12_alike_175 : decode cX12_alike 175 = .ok (.if_icmp .ge 7, 3) := by decide +kernel
theorem dX12_alike_178 : decode cX12_alike 178 = .ok (.iconst 1, 1) := by decide +kernel
theorem dX12_alike_179 : decode cX12_alike 179 = .ok (.goto 4, 3) := by decide +kernel
theorem dX12_alike_182 : decode cX12_alike 182 = .ok (.iconst 2, 1) := by decide +kernel
theorem dX12_alike_183 : decode cX12_alike 183 = .ok (.if_icmp .ge 7, 3) := by decide +kernel
theorem dX12_alike_186 : decode cX12_alike 186 = .ok (.ldc_w 260, 3) := by decide +kernel
theorem dX12_alike_189 : decode cX12_alike 189 = .ok (.ireturn, 1) := by decide +kernel
theorem dX12_alike_190 : decode cX12_alike 190 = .ok (.iload_n 3, 1) := by decide +kernel
theorem dX12_alike_191 : decode cX12_alike 191 = .ok (.iconst 2, 1) := by decide +kernel
theorem dX12_alike_192 : decode cX12_alike 192 = .ok (.if_icmp .ge 9, 3) := by decide +kernel
theorem dX12_alike_195 : decode cX12_alike 195 = .ok (.iload 5, 2) := by decide +kernel
theorem dX12_alike_197 : decode cX12_alike 197 = .ok (.i2l, 1) := by decide +kernel
theorem dX12_alike_198 : decode cX12_alike 198 = .ok (.goto 14, 3) := by decide +kernel
theorem dX12_alike_201 : decode cX12_alike 201 = .ok (.iload 5, 2) := by decide +kernel
theorem dX12_alike_203 : decode cX12_alike 203 = .ok (.iload 4, 2) := by decide +kernel
theorem dX12_alike_205 : decode cX12_alike 205 = .ok (.iconst 1, 1) := by decide +kernel
theorem dX12_alike_206 : decode cX12_alike 206 = .ok (.isub, 1) := by decide +kernel
theorem dX12_alike_207 : decode cX12_alike 207 = .ok (.imul, 1) := by decide +kernel
theorem dX12_alike_208 : decode cX12_alike 208 = .ok (.iload 6, 2) := by decide +kernel
theorem dX12_alike_210 : decode cX12_alike 210 = .ok (.isub, 1) := by decide +kernel
theorem dX12_alike_211 : decode cX12_alike 211 = .ok (.i2l, 1) := by decide +kernel
theorem dX12_alike_212 : decode cX12_alike 212 = .ok (.lstore 7, 2) := by decide +kernel
theorem dX12_alike_214 : decode cX12_alike 214 = .ok (.iload_n 3, 1) := by decide +kernel
theorem dX12_alike_215 : decode cX12_alike 215 = .ok (.iconst 2, 1) := by decide +kernel
theorem dX12_alike_216 : decode cX12_alike 216 = .ok (.if_icmp .ge 9, 3) := by decide +kernel
theorem dX12_alike_219 : decode cX12_alike 219 = .ok (.iload 4, 2) := by decide +kernel
theorem dX12_alike_221 : decode cX12_alike 221 = .ok (.i2l, 1) := by decide +kernel
theorem dX12_alike_222 : decode cX12_alike 222 = .ok (.goto 12, 3) := by decide +kernel
theorem dX12_alike_225 : decode cX12_alike 225 = .ok (.iload 4, 2) := by decide +kernel
theorem dX12_alike_227 : decode cX12_alike 227 = .ok (.i2l, 1) := by decide +kernel
theorem dX12_alike_228 : decode cX12_alike 228 = .ok (.iload 4, 2) := by decide +kernel
theorem dX12_alike_230 : decode cX12_alike 230 = .ok (.iconst 1, 1) := by decide +kernel
theorem dX12_alike_231 : decode cX12_alike 231 = .ok (.isub, 1) := by decide +kernel
theorem dX12_alike_232 : decode cX12_alike 232 = .ok (.i2l, 1) := by decide +kernel
theorem dX12_alike_233 : decode cX12_alike 233 = .ok (.lmul, 1) := by decide +kernel
theorem dX12_alike_234 : decode cX12_alike 234 = .ok (.lstore 9, 2) := by decide +kernel
theorem dX12_alike_236 : decode cX12_alike 236 = .ok (.lload 7, 2) := by decide +kernel
theorem dX12_alike_238 : decode cX12_alike 238 = .ok (.lload 9, 2) := by decide +kernel
theorem dX12_alike_240 : decode cX12_alike 240 = .ok (.iload_n 3, 1) := by decide +kernel
theorem dX12_alike_241 : decode cX12_alike 241 = .ok (.iconst 2, 1) := by decide +kernel
theorem dX12_alike_242 : decode cX12_alike 242 = .ok (.irem, 1) := by decide +kernel
theorem dX12_alike_243 : decode cX12_alike 243 = .ok (.invokestatic 133, 3) := by decide +kernel
theorem dX12_alike_246 : decode cX12_alike 246 = .ok (.l2i, 1) := by decide +kernel
theorem dX12_alike_247 : decode cX12_alike 247 = .ok (.ireturn, 1) := by decide +kernel
theorem kw_230 : (.constant RX12 255 (-1000001) : Cond) ∈ gw_tbl := gw_in (by decide +kernel) (by decide +kernel)

set_option maxHeartbeats 4000000 in
set_option maxRecDepth 100000 in
theorem m_alike (l : Launch) (D : va_G) (m0 : Nat) (mp : Nat) (mw : Nat) (mh : Nat) (mo : Nat) (m5 : Nat) (m6 : Nat) (m7 : Nat) (mk : Nat) (mn : Nat) (mq : Nat) (m8 : Nat) (m9 : Nat) (ma : Nat) (mb : Nat) (md : Nat) (p1 : Int32) (p2 : Int32) (p3 : Int32) : Met l yX12_alike (Cond.code yX12_alike cX12_alike 11 (some .int) :: gw_tbl) ({ frames := 2, cells := 0, slots := 0, locals := 46 }) (pc_S D [] [(m0, .inr (12, [.ref mp, .int 0, .int 0, .int 0, .ref mw, .ref mh, .ref mo, .int 0, .int 0, .int 0, .int 0, .int 0, .int 0, .ref m5, .ref m6, .ref m7, .long 0, .int 0, .ref mk, .ref mn, .int 0, .ref mq, .ref m8, .ref m9, .int 0, .int 0, .int 0, .int 0, .ref ma, .int 0, .ref mb, .ref md, .long 0]))] [.ref m0, .int p1, .int p2, .int p3]) (vp_Si (fun r => r = (-1000001))) 0 0 (fun _ => False) := by
  refine Met.ofW (cc := cX12_alike) (maxL := 11) (ret := (some .int)) (by decide) rfl ?_
  intro p e s m args below meth c s₁ B hml hv
  obtain ⟨hargs, hP, hK⟩ := hv
  have hx := B.exec
  have hb := B.bytes
  have hr := B.returns
  have hts := atoms_spec (ws := Cond.code yX12_alike cX12_alike 11 (some .int) :: gw_tbl) B.pre
  have hg := fun (w : Cond) (h : w ∈ gw_tbl) => hts w (List.mem_cons_of_mem _ h)
  have hown : s.vm.findClass RX12 = some m.cls := findClass_of_methodNamed B.named
  have hlocks := B.notSynchronized
  have hl := lv_entry ([.ref m0, .int p1, .int p2, .int p3]) (n := 11) (Nat.le_of_ble_eq_true rfl)
  rw [show entryFrame m args 11 = F0 m 0 (lg_sl ([.ref m0, .int p1, .int p2, .int p3]) ++ List.replicate (11 - (lg_sl ([.ref m0, .int p1, .int p2, .int p3])).length) Slot.unset).toArray [] from by rw [hargs]; exact lg_entry_eq ..]
  generalize (lg_sl ([.ref m0, .int p1, .int p2, .int p3]) ++ List.replicate (11 - (lg_sl ([.ref m0, .int p1, .int p2, .int p3])).length) Slot.unset).toArray = ls at hl ⊢
  have hl : lv_has ls 11 [(0, .ref m0), (1, .int p1), (2, .int p2), (3, .int p3)] := hl
  refine W_genQ (fun Q hQ => ?_)
  refine lv_aload_n hx hb dX12_alike_0 rfl (lv_at hl 0 rfl) ?_
  refine lv_iload_n hx hb dX12_alike_1 rfl (lv_at hl 1 rfl) ?_
  have hPc := hP.sub (ws' := [(m0, .inr (12, [.ref mp, .int 0, .int 0, .int 0, .ref mw, .ref mh, .ref mo, .int 0, .int 0, .int 0, .int 0, .int 0, .int 0, .ref m5, .ref m6, .ref m7, .long 0, .int 0, .ref mk, .ref mn, .int 0, .ref mq, .ref m8, .ref m9, .int 0, .int 0, .int 0, .int 0, .ref ma, .int 0, .ref mb, .ref md, .long 0]))]) [0] rfl
  have hKc := hK.sub (tys' := []) [] rfl
  refine vp_callSi (W.runV (As := [.int p1]) (rest := []) ⟨hx, hb, hml, hown, hg⟩ (m_isPerson l D m0 mp mw mh mo m5 m6 m7 mk mn mq m8 m9 ma mb md p1) (cwV 1 hg (gw_V kw_218 kw_219 kw_220 kw_210 kw_217) rfl rfl rfl (by decide +kernel) ⟨Nat.le_of_ble_eq_true rfl, Nat.le_of_ble_eq_true rfl⟩) (pr_SV (q := (RX12, TX12, 33)) 12 0 hKc hPc rfl rfl) rfl rfl hl.1 rfl (lv_room (Nat.le_of_ble_eq_true rfl)) dX12_alike_2 ⟨Nat.le_of_ble_eq_true rfl, Nat.le_of_ble_eq_true rfl⟩) (fun r_2 h_2 => ?_)
  obtain rfl : r_2 = (0 : Int32) := h_2
  refine lv_if_eq (tgt := 21) hx hb dX12_alike_5 (by decide) (fun c_5 => ?_) (fun c_5 => absurd c_5 (by decide))
  refine lv_ldc hx hb hown (hg _ kw_230) dX12_alike_21 ?_
  subst hQ
  exact W.iret (v := (-1000001)) hx hb hr (fun t ht hW => ⟨(-1000001), rfl, rfl, ht⟩) (fun _ h => absurd h List.not_mem_nil) dX12_alike_23

theorem dX12_crowd_0 : decode cX12_crowd 0 = .ok (.iload_n 1, 1) := by decide +kernel
theorem dX12_crowd_1 : decode cX12_crowd 1 = .ok (.i2l, 1) := by decide +kernel
theorem dX12_crowd_2 : decode cX12_crowd 2 = .ok (.lconst 0, 1) := by decide +kernel
theorem dX12_crowd_3 : decode cX12_crowd 3 = .ok (.aload_n 0, 1) := by decide +kernel
theorem dX12_crowd_4 : decode cX12_crowd 4 = .ok (.getfield 106, 3) := by decide +kernel
theorem dX12_crowd_7 : decode cX12_crowd 7 = .ok (.iconst 1, 1) := by decide +kernel
theorem dX12_crowd_8 : decode cX12_crowd 8 = .ok (.isub, 1) := by decide +kernel
theorem dX12_crowd_9 : decode cX12_crowd 9 = .ok (.i2l, 1) := by decide +kernel
theorem dX12_crowd_10 : decode cX12_crowd 10 = .ok (.invokestatic 70, 3) := by decide +kernel
theorem dX12_crowd_13 : decode cX12_crowd 13 = .ok (.ifCond .ne 6, 3) := by decide +kernel
theorem dX12_crowd_16 : decode cX12_crowd 16 = .ok (.bipush (-101), 2) := by decide +kernel
theorem dX12_crowd_18 : decode cX12_crowd 18 = .ok (.ireturn, 1) := by decide +kernel
theorem dX12_crowd_19 : decode cX12_crowd 19 = .ok (.iload_n 2, 1) := by decide +kernel
theorem dX12_crowd_20 : decode cX12_crowd 20 = .ok (.i2l, 1) := by decide +kernel
theorem dX12_crowd_21 : decode cX12_crowd 21 = .ok (.lconst 0, 1) := by decide +kernel
theorem dX12_crowd_22 : decode cX12_crowd 22 = .ok (.lconst 1, 1) := by decide +kernel
theorem dX12_crowd_23 : decode cX12_crowd 23 = .ok (.invokestatic 70, 3) := by decide +kernel
theorem dX12_crowd_26 : decode cX12_crowd 26 = .ok (.ifCond .eq 12, 3) := by decide +kernel
theorem dX12_crowd_29 : decode cX12_crowd 29 = .ok (.aload_n 0, 1) := by decide +kernel
theorem dX12_crowd_30 : decode cX12_crowd 30 = .ok (.iload_n 1, 1) := by decide +kernel
theorem dX12_crowd_31 : decode cX12_crowd 31 = .ok (.iload_n 2, 1) := by decide +kernel
theorem dX12_crowd_32 : decode cX12_crowd 32 = .ok (.invokevirtual 261, 3) := by decide +kernel
theorem dX12_crowd_35 : decode cX12_crowd 35 = .ok (.goto 5, 3) := by decide +kernel
theorem dX12_crowd_38 : decode cX12_crowd 38 = .ok (.bipush (-102), 2) := by decide +kernel
theorem dX12_crowd_40 : decode cX12_crowd 40 = .ok (.ireturn, 1) := by decide +kernel
theorem kw_231 : (.fieldLink RX12 106 "NobodyChecksModel" "rows" "I" : Cond) ∈ gw_tbl := gw_in (by decide +kernel) (by decide +kernel)

set_option maxHeartbeats 4000000 in
set_option maxRecDepth 100000 in
theorem m_crowd (l : Launch) (D : va_G) (m0 : Nat) (mp : Nat) (mw : Nat) (mh : Nat) (mo : Nat) (m5 : Nat) (m6 : Nat) (m7 : Nat) (mk : Nat) (mn : Nat) (mq : Nat) (m8 : Nat) (m9 : Nat) (ma : Nat) (mb : Nat) (md : Nat) (p1 : Int32) (p2 : Int32) : Met l yX12_crowd (Cond.code yX12_crowd cX12_crowd 3 (some .int) :: gw_tbl) ({ frames := 1, cells := 0, slots := 0, locals := 25 }) (pc_S D [] [(m0, .inr (12, [.ref mp, .int 0, .int 0, .int 0, .ref mw, .ref mh, .ref mo, .int 0, .int 0, .int 0, .int 0, .int 0, .int 0, .ref m5, .ref m6, .ref m7, .long 0, .int 0, .ref mk, .ref mn, .int 0, .ref mq, .ref m8, .ref m9, .int 0, .int 0, .int 0, .int 0, .ref ma, .int 0, .ref mb, .ref md, .long 0]))] [.ref m0, .int p1, .int p2]) (vp_Si (fun r => r = (-101))) 0 0 (fun _ => False) := by
  refine Met.ofW (cc := cX12_crowd) (maxL := 3) (ret := (some .int)) (by decide) rfl ?_
  intro p e s m args below meth c s₁ B hml hv
  obtain ⟨hargs, hP, hK⟩ := hv
  have hx := B.exec
  have hb := B.bytes
  have hr := B.returns
  have hts := atoms_spec (ws := Cond.code yX12_crowd cX12_crowd 3 (some .int) :: gw_tbl) B.pre
  have hg := fun (w : Cond) (h : w ∈ gw_tbl) => hts w (List.mem_cons_of_mem _ h)
  have hown : s.vm.findClass RX12 = some m.cls := findClass_of_methodNamed B.named
  have hlocks := B.notSynchronized
  have hl := lv_entry ([.ref m0, .int p1, .int p2]) (n := 3) (Nat.le_of_ble_eq_true rfl)
  rw [show entryFrame m args 3 = F0 m 0 (lg_sl ([.ref m0, .int p1, .int p2]) ++ List.replicate (3 - (lg_sl ([.ref m0, .int p1, .int p2])).length) Slot.unset).toArray [] from by rw [hargs]; exact lg_entry_eq ..]
  generalize (lg_sl ([.ref m0, .int p1, .int p2]) ++ List.replicate (3 - (lg_sl ([.ref m0, .int p1, .int p2])).length) Slot.unset).toArray = ls at hl ⊢
  have hl : lv_has ls 3 [(0, .ref m0), (1, .int p1), (2, .int p2)] := hl
  refine W_genQ (fun Q hQ => ?_)
  refine lv_iload_n hx hb dX12_crowd_0 rfl (lv_at hl 1 rfl) ?_
  refine lv_i2l hx hb dX12_crowd_1 rfl ?_
  refine lv_topl (fun z_1 e_1 => ?_)
  refine lv_lconst (v := 0) hx hb dX12_crowd_2 (by decide) ?_
  refine lv_aload_n hx hb dX12_crowd_3 rfl (lv_at hl 0 rfl) ?_
  refine va_get (D := D) (ci := 12) (v := .int 0) (C := RX12) (T := TX12) (N := 33) hx hb hg gwX12 hown hK hP 0 rfl rfl 29 (by decide) (hg _ kw_231) (fun _ h9 => h9) rfl dX12_crowd_4 ?_
  refine lv_iconst (v := 1) hx hb dX12_crowd_7 (by decide) ?_
  refine lv_isub hx hb dX12_crowd_8 ?_
  refine lv_topi (fun z_8 e_8 => ?_)
  obtain rfl : z_8 = ((-1) : Int32) := e_8.trans (by decide)
  refine lv_i2l hx hb dX12_crowd_9 rfl ?_
  refine lv_topl (fun z_9 e_9 => ?_)
  obtain rfl : z_9 = ((-1) : Int64) := e_9.trans (by decide)
  refine vp_callSi (W.runS (As := [.long z_1, .long 0, .long (-1)]) (rest := []) ⟨hx, hb, hml, hown, hg⟩ (c_in l z_1 0 (-1)) (va_cwS 3 hg (gw_S kw_208 kw_209 kw_210 kw_207) rfl rfl rfl (by decide +kernel) ⟨Nat.le_of_ble_eq_true rfl, Nat.le_of_ble_eq_true rfl⟩) pr_0 rfl rfl hl.1 rfl (lv_room (Nat.le_of_ble_eq_true rfl)) dX12_crowd_10 ⟨Nat.le_of_ble_eq_true rfl, Nat.le_of_ble_eq_true rfl⟩) (fun r_10 h_10 => ?_)
  obtain rfl : r_10 = (0 : Int32) := h_10.trans (il_no (by decide))
  refine lv_if_ne (tgt := 19) hx hb dX12_crowd_13 (by decide) (fun c_13 => absurd c_13 (by decide)) (fun c_13 => ?_)
  refine lv_bipush (v := (-101)) hx hb dX12_crowd_16 (by decide) ?_
  subst hQ
  exact W.iret (v := (-101)) hx hb hr (fun t ht hW => ⟨(-101), rfl, rfl, ht⟩) (fun _ h => absurd h List.not_mem_nil) dX12_crowd_18

theorem dX12_countOf_0 : decode cX12_countOf 0 = .ok (.iload_n 1, 1) := by decide +kernel
theorem dX12_countOf_1 : decode cX12_countOf 1 = .ok (.tableswitch 69 0 5 #[39, 44, 49, 54, 59, 64], 39) := by decide +kernel
theorem dX12_countOf_40 : decode cX12_countOf 40 = .ok (.aload_n 0, 1) := by decide +kernel
theorem dX12_countOf_41 : decode cX12_countOf 41 = .ok (.getfield 103, 3) := by decide +kernel
theorem dX12_countOf_44 : decode cX12_countOf 44 = .ok (.ireturn, 1) := by decide +kernel
theorem dX12_countOf_45 : decode cX12_countOf 45 = .ok (.aload_n 0, 1) := by decide +kernel
theorem dX12_countOf_46 : decode cX12_countOf 46 = .ok (.getfield 57, 3) := by decide +kernel
theorem dX12_countOf_49 : decode cX12_countOf 49 = .ok (.ireturn, 1) := by decide +kernel
theorem dX12_countOf_50 : decode cX12_countOf 50 = .ok (.aload_n 0, 1) := by decide +kernel
theorem dX12_countOf_51 : decode cX12_countOf 51 = .ok (.getfield 139, 3) := by decide +kernel
theorem dX12_countOf_54 : decode cX12_countOf 54 = .ok (.ireturn, 1) := by decide +kernel
theorem dX12_countOf_55 : decode cX12_countOf 55 = .ok (.aload_n 0, 1) := by decide +kernel
theorem dX12_countOf_56 : decode cX12_countOf 56 = .ok (.getfield 106, 3) := by decide +kernel
theorem dX12_countOf_59 : decode cX12_countOf 59 = .ok (.ireturn, 1) := by decide +kernel
theorem dX12_countOf_60 : decode cX12_countOf 60 = .ok (.aload_n 0, 1) := by decide +kernel
theorem dX12_countOf_61 : decode cX12_countOf 61 = .ok (.getfield 63, 3) := by decide +kernel
theorem dX12_countOf_64 : decode cX12_countOf 64 = .ok (.ireturn, 1) := by decide +kernel
theorem dX12_countOf_65 : decode cX12_countOf 65 = .ok (.aload_n 0, 1) := by decide +kernel
theorem dX12_countOf_66 : decode cX12_countOf 66 = .ok (.getfield 241, 3) := by decide +kernel
theorem dX12_countOf_69 : decode cX12_countOf 69 = .ok (.ireturn, 1) := by decide +kernel
theorem dX12_countOf_70 : decode cX12_countOf 70 = .ok (.bipush (-102), 2) := by decide +kernel
theorem dX12_countOf_72 : decode cX12_countOf 72 = .ok (.ireturn, 1) := by decide +kernel
theorem kw_232 : (.fieldLink RX12 63 "NobodyChecksModel" "pageMany" "I" : Cond) ∈ gw_tbl := gw_in (by decide +kernel) (by decide +kernel)
theorem kw_233 : (.fieldLink RX12 241 "NobodyChecksModel" "tablesDone" "I" : Cond) ∈ gw_tbl := gw_in (by decide +kernel) (by decide +kernel)

set_option maxHeartbeats 4000000 in
set_option maxRecDepth 100000 in
theorem m_countOf (l : Launch) (D : va_G) (m0 : Nat) (mp : Nat) (mw : Nat) (mh : Nat) (mo : Nat) (m5 : Nat) (m6 : Nat) (m7 : Nat) (mk : Nat) (mn : Nat) (mq : Nat) (m8 : Nat) (m9 : Nat) (ma : Nat) (mb : Nat) (md : Nat) (hv : Int64) (p1 : Int32) : Met l yX12_countOf (Cond.code yX12_countOf cX12_countOf 2 (some .int) :: gw_tbl) ({ frames := 0, cells := 0, slots := 0, locals := 0 }) (pc_S D [] [(m0, .inr (12, [.ref mp, .int 0, .int 0, .int 0, .ref mw, .ref mh, .ref mo, .int 0, .int 0, .int 0, .int 0, .int 0, .int 0, .ref m5, .ref m6, .ref m7, .long 0, .int 0, .ref mk, .ref mn, .int 0, .ref mq, .ref m8, .ref m9, .int 0, .int 0, .int 0, .int 0, .ref ma, .int 0, .ref mb, .ref md, .long hv]))] [.ref m0, .int p1]) (vp_Si (fun r => r = cntf p1)) 0 0 (fun _ => False) := by
  refine Met.ofW (cc := cX12_countOf) (maxL := 2) (ret := (some .int)) (by decide) rfl ?_
  intro p e s m args below meth c s₁ B hml hv
  obtain ⟨hargs, hP, hK⟩ := hv
  have hx := B.exec
  have hb := B.bytes
  have hr := B.returns
  have hts := atoms_spec (ws := Cond.code yX12_countOf cX12_countOf 2 (some .int) :: gw_tbl) B.pre
  have hg := fun (w : Cond) (h : w ∈ gw_tbl) => hts w (List.mem_cons_of_mem _ h)
  have hown : s.vm.findClass RX12 = some m.cls := findClass_of_methodNamed B.named
  have hlocks := B.notSynchronized
  have hl := lv_entry ([.ref m0, .int p1]) (n := 2) (Nat.le_of_ble_eq_true rfl)
  rw [show entryFrame m args 2 = F0 m 0 (lg_sl ([.ref m0, .int p1]) ++ List.replicate (2 - (lg_sl ([.ref m0, .int p1])).length) Slot.unset).toArray [] from by rw [hargs]; exact lg_entry_eq ..]
  generalize (lg_sl ([.ref m0, .int p1]) ++ List.replicate (2 - (lg_sl ([.ref m0, .int p1])).length) Slot.unset).toArray = ls at hl ⊢
  have hl : lv_has ls 2 [(0, .ref m0), (1, .int p1)] := hl
  refine W_genQ (fun Q hQ => ?_)
  refine lv_iload_n hx hb dX12_countOf_0 rfl (lv_at hl 1 rfl) ?_
  by_cases t_1 : p1.toInt < 0 ∨ 5 < p1.toInt
  · refine lv_tableOut (tgt := 70) hx hb dX12_countOf_1 t_1 (by decide) ?_
    refine lv_bipush (v := (-102)) hx hb dX12_countOf_70 (by decide) ?_
    subst hQ
    exact W.iret (v := (-102)) hx hb hr (fun t ht hW => ⟨(-102), rfl, (if_pos t_1).symm, ht⟩) (fun _ h => absurd h List.not_mem_nil) dX12_countOf_72
  · rcases tw_5 t_1 with rfl | rfl | rfl | rfl | rfl | rfl
    · refine lv_tableIn (tgt := 40) hx hb dX12_countOf_1 (by decide) (by decide) rfl (by decide) ?_
      refine lv_aload_n hx hb dX12_countOf_40 rfl (lv_at hl 0 rfl) ?_
      refine va_get (D := D) (ci := 12) (v := .int 0) (C := RX12) (T := TX12) (N := 33) hx hb hg gwX12 hown hK hP 0 rfl rfl 2 (by decide) (hg _ kw_216) (fun _ h9 => h9) rfl dX12_countOf_41 ?_
      subst hQ
      exact W.iret (v := 0) hx hb hr (fun t ht hW => ⟨0, rfl, rfl, ht⟩) (fun _ h => absurd h List.not_mem_nil) dX12_countOf_44
    · refine lv_tableIn (tgt := 45) hx hb dX12_countOf_1 (by decide) (by decide) rfl (by decide) ?_
      refine lv_aload_n hx hb dX12_countOf_45 rfl (lv_at hl 0 rfl) ?_
      refine va_get (D := D) (ci := 12) (v := .int 0) (C := RX12) (T := TX12) (N := 33) hx hb hg gwX12 hown hK hP 0 rfl rfl 3 (by decide) (hg _ kw_206) (fun _ h9 => h9) rfl dX12_countOf_46 ?_
      subst hQ
      exact W.iret (v := 0) hx hb hr (fun t ht hW => ⟨0, rfl, rfl, ht⟩) (fun _ h => absurd h List.not_mem_nil) dX12_countOf_49
    · refine lv_tableIn (tgt := 50) hx hb dX12_countOf_1 (by decide) (by decide) rfl (by decide) ?_
      refine lv_aload_n hx hb dX12_countOf_50 rfl (lv_at hl 0 rfl) ?_
      refine va_get (D := D) (ci := 12) (v := .int 0) (C := RX12) (T := TX12) (N := 33) hx hb hg gwX12 hown hK hP 0 rfl rfl 17 (by decide) (hg _ kw_211) (fun _ h9 => h9) rfl dX12_countOf_51 ?_
      subst hQ
      exact W.iret (v := 0) hx hb hr (fun t ht hW => ⟨0, rfl, rfl, ht⟩) (fun _ h => absurd h List.not_mem_nil) dX12_countOf_54
    · refine lv_tableIn (tgt := 55) hx hb dX12_countOf_1 (by decide) (by decide) rfl (by decide) ?_
      refine lv_aload_n hx hb dX12_countOf_55 rfl (lv_at hl 0 rfl) ?_
      refine va_get (D := D) (ci := 12) (v := .int 0) (C := RX12) (T := TX12) (N := 33) hx hb hg gwX12 hown hK hP 0 rfl rfl 29 (by decide) (hg _ kw_231) (fun _ h9 => h9) rfl dX12_countOf_56 ?_
      subst hQ
      exact W.iret (v := 0) hx hb hr (fun t ht hW => ⟨0, rfl, rfl, ht⟩) (fun _ h => absurd h List.not_mem_nil) dX12_countOf_59
    · refine lv_tableIn (tgt := 60) hx hb dX12_countOf_1 (by decide) (by decide) rfl (by decide) ?_
      refine lv_aload_n hx hb dX12_countOf_60 rfl (lv_at hl 0 rfl) ?_
      refine va_get (D := D) (ci := 12) (v := .int 0) (C := RX12) (T := TX12) (N := 33) hx hb hg gwX12 hown hK hP 0 rfl rfl 1 (by decide) (hg _ kw_232) (fun _ h9 => h9) rfl dX12_countOf_61 ?_
      subst hQ
      exact W.iret (v := 0) hx hb hr (fun t ht hW => ⟨0, rfl, rfl, ht⟩) (fun _ h => absurd h List.not_mem_nil) dX12_countOf_64
    · refine lv_tableIn (tgt := 65) hx hb dX12_countOf_1 (by decide) (by decide) rfl (by decide) ?_
      refine lv_aload_n hx hb dX12_countOf_65 rfl (lv_at hl 0 rfl) ?_
      refine va_get (D := D) (ci := 12) (v := .int 0) (C := RX12) (T := TX12) (N := 33) hx hb hg gwX12 hown hK hP 0 rfl rfl 27 (by decide) (hg _ kw_233) (fun _ h9 => h9) rfl dX12_countOf_66 ?_
      subst hQ
      exact W.iret (v := 0) hx hb hr (fun t ht hW => ⟨0, rfl, rfl, ht⟩) (fun _ h => absurd h List.not_mem_nil) dX12_countOf_69

theorem dX12_count_0 : decode cX12_count 0 = .ok (.aload_n 0, 1) := by decide +kernel
theorem dX12_count_1 : decode cX12_count 1 = .ok (.iload_n 1, 1) := by decide +kernel
theorem dX12_count_2 : decode cX12_count 2 = .ok (.invokevirtual 264, 3) := by decide +kernel
theorem dX12_count_5 : decode cX12_count 5 = .ok (.ireturn, 1) := by decide +kernel
theorem kw_234 : (.code yX12_countOf cX12_countOf 2 (some .int) : Cond) ∈ gw_tbl := gw_in (by decide +kernel) (by decide +kernel)
theorem kw_235 : (.methodLink RX12 264 yX12_countOf : Cond) ∈ gw_tbl := gw_in (by decide +kernel) (by decide +kernel)
theorem kw_236 : (.instanceMethod yX12_countOf : Cond) ∈ gw_tbl := gw_in (by decide +kernel) (by decide +kernel)
theorem kw_237 : (.selects RX12 yX12_countOf yX12_countOf : Cond) ∈ gw_tbl := gw_in (by decide +kernel) (by decide +kernel)

set_option maxHeartbeats 4000000 in
set_option maxRecDepth 100000 in
theorem m_count (l : Launch) (D : va_G) (m0 : Nat) (mp : Nat) (mw : Nat) (mh : Nat) (mo : Nat) (m5 : Nat) (m6 : Nat) (m7 : Nat) (mk : Nat) (mn : Nat) (mq : Nat) (m8 : Nat) (m9 : Nat) (ma : Nat) (mb : Nat) (md : Nat) (p1 : Int32) : Met l yX12_count (Cond.code yX12_count cX12_count 2 (some .int) :: gw_tbl) ({ frames := 1, cells := 0, slots := 0, locals := 21 }) (pc_S D [] [(m0, .inr (12, [.ref mp, .int 0, .int 0, .int 0, .ref mw, .ref mh, .ref mo, .int 0, .int 0, .int 0, .int 0, .int 0, .int 0, .ref m5, .ref m6, .ref m7, .long 0, .int 0, .ref mk, .ref mn, .int 0, .ref mq, .ref m8, .ref m9, .int 0, .int 0, .int 0, .int 0, .ref ma, .int 0, .ref mb, .ref md, .long 0]))] [.ref m0, .int p1]) (vp_Si (fun r => r = cntf p1)) 0 0 (fun _ => False) := by
  refine Met.ofW (cc := cX12_count) (maxL := 2) (ret := (some .int)) (by decide) rfl ?_
  intro p e s m args below meth c s₁ B hml hv
  obtain ⟨hargs, hP, hK⟩ := hv
  have hx := B.exec
  have hb := B.bytes
  have hr := B.returns
  have hts := atoms_spec (ws := Cond.code yX12_count cX12_count 2 (some .int) :: gw_tbl) B.pre
  have hg := fun (w : Cond) (h : w ∈ gw_tbl) => hts w (List.mem_cons_of_mem _ h)
  have hown : s.vm.findClass RX12 = some m.cls := findClass_of_methodNamed B.named
  have hlocks := B.notSynchronized
  have hl := lv_entry ([.ref m0, .int p1]) (n := 2) (Nat.le_of_ble_eq_true rfl)
  rw [show entryFrame m args 2 = F0 m 0 (lg_sl ([.ref m0, .int p1]) ++ List.replicate (2 - (lg_sl ([.ref m0, .int p1])).length) Slot.unset).toArray [] from by rw [hargs]; exact lg_entry_eq ..]
  generalize (lg_sl ([.ref m0, .int p1]) ++ List.replicate (2 - (lg_sl ([.ref m0, .int p1])).length) Slot.unset).toArray = ls at hl ⊢
  have hl : lv_has ls 2 [(0, .ref m0), (1, .int p1)] := hl
  refine W_genQ (fun Q hQ => ?_)
  refine lv_aload_n hx hb dX12_count_0 rfl (lv_at hl 0 rfl) ?_
  refine lv_iload_n hx hb dX12_count_1 rfl (lv_at hl 1 rfl) ?_
  have hPc := hP.sub (ws' := [(m0, .inr (12, [.ref mp, .int 0, .int 0, .int 0, .ref mw, .ref mh, .ref mo, .int 0, .int 0, .int 0, .int 0, .int 0, .int 0, .ref m5, .ref m6, .ref m7, .long 0, .int 0, .ref mk, .ref mn, .int 0, .ref mq, .ref m8, .ref m9, .int 0, .int 0, .int 0, .int 0, .ref ma, .int 0, .ref mb, .ref md, .long 0]))]) [0] rfl
  have hKc := hK.sub (tys' := []) [] rfl
  refine vp_callSi (W.runV (As := [.int p1]) (rest := []) ⟨hx, hb, hml, hown, hg⟩ (m_countOf l D m0 mp mw mh mo m5 m6 m7 mk mn mq m8 m9 ma mb md 0 p1) (cwV 1 hg (gw_V kw_235 kw_236 kw_237 kw_210 kw_234) rfl rfl rfl (by decide +kernel) ⟨Nat.le_of_ble_eq_true rfl, Nat.le_of_ble_eq_true rfl⟩) (pr_SV (q := (RX12, TX12, 33)) 12 0 hKc hPc rfl rfl) rfl rfl hl.1 rfl (lv_room (Nat.le_of_ble_eq_true rfl)) dX12_count_2 ⟨Nat.le_of_ble_eq_true rfl, Nat.le_of_ble_eq_true rfl⟩) (fun r_2 h_2 => ?_)
  try dsimp only at h_2
  subst hQ
  exact W.iret (v := r_2) hx hb hr (fun t ht hW => ⟨r_2, rfl, h_2, ht⟩) (fun _ h => absurd h List.not_mem_nil) dX12_count_5
