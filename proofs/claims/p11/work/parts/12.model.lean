theorem tw_0_5 {x : Int32} (h : ¬ (x.toInt < 0 ∨ 5 < x.toInt)) : x = 0 ∨ x = 1 ∨ x = 2 ∨ x = 3 ∨ x = 4 ∨ x = 5 := by
  have e0 : (0 : Int32).toInt = 0 := rfl
  have e1 : (1 : Int32).toInt = 1 := rfl
  have e2 : (2 : Int32).toInt = 2 := rfl
  have e3 : (3 : Int32).toInt = 3 := rfl
  have e4 : (4 : Int32).toInt = 4 := rfl
  have e5 : (5 : Int32).toInt = 5 := rfl
  simp only [fa_eq, e0, e1, e2, e3, e4, e5]
  omega

theorem z_nar {v : Int32} (h : v = 0 ∨ v = 1) : narrow .boolean (.int v) = .int v := by
  rcases h with rfl | rfl <;> decide
theorem z_fit {v : Int32} (h : v = 0 ∨ v = 1) : fits .boolean (.int v) = true := by
  rcases h with rfl | rfl <;> decide

theorem dX12_isPerson_0 : decode cX12_isPerson 0 = .ok (.iload_n 1, 1) := by decide +kernel
theorem dX12_isPerson_1 : decode cX12_isPerson 1 = .ok (.i2l, 1) := by decide +kernel
theorem dX12_isPerson_2 : decode cX12_isPerson 2 = .ok (.lconst 0, 1) := by decide +kernel
theorem dX12_isPerson_3 : decode cX12_isPerson 3 = .ok (.aload_n 0, 1) := by decide +kernel
theorem dX12_isPerson_4 : decode cX12_isPerson 4 = .ok (.getfield 57, 3) := by decide +kernel
theorem dX12_isPerson_7 : decode cX12_isPerson 7 = .ok (.iconst 1, 1) := by decide +kernel
theorem dX12_isPerson_8 : decode cX12_isPerson 8 = .ok (.isub, 1) := by decide +kernel
theorem dX12_isPerson_9 : decode cX12_isPerson 9 = .ok (.i2l, 1) := by decide +kernel
theorem dX12_isPerson_10 : decode cX12_isPerson 10 = .ok (.invokestatic 70, 3) := by decide +kernel
theorem dX12_isPerson_13 : decode cX12_isPerson 13 = .ok (.ireturn, 1) := by decide +kernel
theorem kw_315 : (.fieldLink RX12 57 "NobodyChecksModel" "persons" "I" : Cond) ∈ gw_tbl := gw_in (by decide +kernel) (by decide +kernel)
theorem kw_316 : (.code yX12_in cX12_in 6 (some .boolean) : Cond) ∈ gw_tbl := gw_in (by decide +kernel) (by decide +kernel)
theorem kw_317 : (.methodLink RX12 70 yX12_in : Cond) ∈ gw_tbl := gw_in (by decide +kernel) (by decide +kernel)
theorem kw_318 : (.static yX12_in : Cond) ∈ gw_tbl := gw_in (by decide +kernel) (by decide +kernel)
theorem kw_319 : (.initialized RX12 : Cond) ∈ gw_tbl := gw_in (by decide +kernel) (by decide +kernel)

set_option maxHeartbeats 4000000 in
set_option maxRecDepth 100000 in
theorem m_isPerson (l : Launch) (D : va_G) (cs : Nat → ClassId) (m0 : Nat) (mp : Nat) (mw : Nat) (mh : Nat) (mo : Nat) (m5 : Nat) (m6 : Nat) (m7 : Nat) (mk : Nat) (mn : Nat) (mq : Nat) (m8 : Nat) (m9 : Nat) (mz : Nat) (mb : Nat) (md : Nat) (ms : Nat) (C : Nat) (P : Nat) (mpn : Nat) (mrs : Nat) (sS : Nat) (rc : Nat) (rp : Nat) (ic : Nat) (hms : ms ≤ 90) (hC5 : C ≤ 5) (hP4 : P ≤ 4) (hmpn : mpn ≤ 8) (hmrs : mrs ≤ 24) (hsS : sS ≤ 4) (hrc : rc ≤ 5) (hrp : rp ≤ 4) (hic : ic ≤ 4) (x_value : Int32) (x_digits : Int32) (x_all : Int64) (x_kind : Int32) (x_last : Int32) (x_steps : Int32) (x_isRound : Int32) (x_tablesDone : Int32) (x_hash : Int64) (v : Int32) : Met l yX12_isPerson (Cond.code yX12_isPerson cX12_isPerson 2 (some .boolean) :: gw_tbl) ({ frames := 1, cells := 0, slots := 0, locals := 25 }) (pc_S D cs [(m0, .inr (12, [.ref mp, .int (nI ms), .int (nI C), .int (nI P), .ref mw, .ref mh, .ref mo, .int (nI sS), .int x_value, .int x_digits, .int (nI rc), .int (nI rp), .int (nI ic), .ref m5, .ref m6, .ref m7, .long x_all, .int (nI mpn), .ref mk, .ref mn, .int x_kind, .ref mq, .ref m8, .ref m9, .int x_last, .int x_steps, .int x_isRound, .int x_tablesDone, .ref mz, .int (nI mrs), .ref mb, .ref md, .long x_hash]))] [.ref m0, .int v]) (vp_Si (fun r => r = 0 ∨ (r = 1 ∧ ∃ k : Nat, k < P ∧ v = nI k))) 0 0 (fun _ => False) := by
  refine Met.ofW (cc := cX12_isPerson) (maxL := 2) (ret := (some .boolean)) (by decide) rfl ?_
  intro p e s m args below meth c s₁ B hml hv
  obtain ⟨hargs, hP, hK⟩ := hv
  have hx := B.exec
  have hb := B.bytes
  have hr := B.returns
  have hts := atoms_spec (ws := Cond.code yX12_isPerson cX12_isPerson 2 (some .boolean) :: gw_tbl) B.pre
  have hg := fun (w : Cond) (h : w ∈ gw_tbl) => hts w (List.mem_cons_of_mem _ h)
  have hown : s.vm.findClass RX12 = some m.cls := findClass_of_methodNamed B.named
  have hlocks := B.notSynchronized
  have hl := lv_entry ([.ref m0, .int v]) (n := 2) (Nat.le_of_ble_eq_true rfl)
  rw [show entryFrame m args 2 = F0 m 0 (lg_sl ([.ref m0, .int v]) ++ List.replicate (2 - (lg_sl ([.ref m0, .int v])).length) Slot.unset).toArray [] from by rw [hargs]; exact lg_entry_eq ..]
  generalize (lg_sl ([.ref m0, .int v]) ++ List.replicate (2 - (lg_sl ([.ref m0, .int v])).length) Slot.unset).toArray = ls at hl ⊢
  have hl : lv_has ls 2 [(0, .ref m0), (1, .int v)] := hl
  refine W_genQ (fun Q hQ => ?_)
  have hlm := lim_le hP4
  have hlq := lim_pos P
  have hsg := sgn_le hP4
  refine lv_iload_n hx hb dX12_isPerson_0 rfl (lv_at hl 1 rfl) ?_
  refine lv_i2l hx hb dX12_isPerson_1 rfl ?_
  refine lv_topl (fun z_1 e_1 => ?_)
  refine lv_lconst (v := 0) hx hb dX12_isPerson_2 (by decide) ?_
  refine lv_aload_n hx hb dX12_isPerson_3 rfl (lv_at hl 0 rfl) ?_
  refine va_get (D := D) (ci := 12) (v := .int (nI P)) (C := RX12) (T := TX12) (N := 33) hx hb hg gwX12 hown hK hP 0 rfl rfl 3 (by decide) (hg _ kw_315) (fun _ h9 => h9) rfl dX12_isPerson_4 ?_
  refine lv_iconst (v := 1) hx hb dX12_isPerson_7 (by decide) ?_
  refine lv_isub hx hb dX12_isPerson_8 ?_
  refine lv_topi (fun z_8 e_8 => ?_)
  refine lv_i2l hx hb dX12_isPerson_9 rfl ?_
  refine lv_topl (fun z_9 e_9 => ?_)
  refine vp_callSi (W.runS (As := [.long z_1, .long 0, .long z_9]) (rest := []) ⟨hx, hb, hml, hown, hg⟩ (c_in l z_1 0 z_9) (va_cwS 3 hg (gw_S kw_317 kw_318 kw_319 kw_316) rfl rfl rfl (by decide +kernel) ⟨(Nat.le_of_ble_eq_true rfl), (Nat.le_of_ble_eq_true rfl)⟩) pr_0 rfl rfl hl.1 rfl (lv_room (Nat.le_of_ble_eq_true rfl)) dX12_isPerson_10 ⟨(Nat.le_of_ble_eq_true rfl), (Nat.le_of_ble_eq_true rfl)⟩) (fun r_10 h_10 => ?_)
  replace h_10 := in_m (by omega) e_1 e_8 e_9 h_10
  rcases h_10 with rfl | ⟨rfl, k_10, hk_10, rfl⟩
  · refine W_sQ hQ ?_
    exact W.zret (v := 0) hx hb hr (by decide) (fun t ht hW => ⟨0, rfl, (Or.inl rfl), ht⟩) (fun _ h => absurd h List.not_mem_nil) dX12_isPerson_13
  · refine W_sQ hQ ?_
    exact W.zret (v := 1) hx hb hr (by decide) (fun t ht hW => ⟨1, rfl, (Or.inr ⟨rfl, _, by assumption, rfl⟩), ht⟩) (fun _ h => absurd h List.not_mem_nil) dX12_isPerson_13

theorem dX12_isPay_0 : decode cX12_isPay 0 = .ok (.iload_n 1, 1) := by decide +kernel
theorem dX12_isPay_1 : decode cX12_isPay 1 = .ok (.i2l, 1) := by decide +kernel
theorem dX12_isPay_2 : decode cX12_isPay 2 = .ok (.lconst 0, 1) := by decide +kernel
theorem dX12_isPay_3 : decode cX12_isPay 3 = .ok (.aload_n 0, 1) := by decide +kernel
theorem dX12_isPay_4 : decode cX12_isPay 4 = .ok (.getfield 139, 3) := by decide +kernel
theorem dX12_isPay_7 : decode cX12_isPay 7 = .ok (.iconst 1, 1) := by decide +kernel
theorem dX12_isPay_8 : decode cX12_isPay 8 = .ok (.isub, 1) := by decide +kernel
theorem dX12_isPay_9 : decode cX12_isPay 9 = .ok (.i2l, 1) := by decide +kernel
theorem dX12_isPay_10 : decode cX12_isPay 10 = .ok (.invokestatic 70, 3) := by decide +kernel
theorem dX12_isPay_13 : decode cX12_isPay 13 = .ok (.ireturn, 1) := by decide +kernel
theorem kw_320 : (.fieldLink RX12 139 "NobodyChecksModel" "pays" "I" : Cond) ∈ gw_tbl := gw_in (by decide +kernel) (by decide +kernel)

set_option maxHeartbeats 4000000 in
set_option maxRecDepth 100000 in
theorem m_isPay (l : Launch) (D : va_G) (cs : Nat → ClassId) (m0 : Nat) (mp : Nat) (mw : Nat) (mh : Nat) (mo : Nat) (m5 : Nat) (m6 : Nat) (m7 : Nat) (mk : Nat) (mn : Nat) (mq : Nat) (m8 : Nat) (m9 : Nat) (mz : Nat) (mb : Nat) (md : Nat) (ms : Nat) (C : Nat) (P : Nat) (mpn : Nat) (mrs : Nat) (sS : Nat) (rc : Nat) (rp : Nat) (ic : Nat) (hms : ms ≤ 90) (hC5 : C ≤ 5) (hP4 : P ≤ 4) (hmpn : mpn ≤ 8) (hmrs : mrs ≤ 24) (hsS : sS ≤ 4) (hrc : rc ≤ 5) (hrp : rp ≤ 4) (hic : ic ≤ 4) (x_value : Int32) (x_digits : Int32) (x_all : Int64) (x_kind : Int32) (x_last : Int32) (x_steps : Int32) (x_isRound : Int32) (x_tablesDone : Int32) (x_hash : Int64) (v : Int32) : Met l yX12_isPay (Cond.code yX12_isPay cX12_isPay 2 (some .boolean) :: gw_tbl) ({ frames := 1, cells := 0, slots := 0, locals := 25 }) (pc_S D cs [(m0, .inr (12, [.ref mp, .int (nI ms), .int (nI C), .int (nI P), .ref mw, .ref mh, .ref mo, .int (nI sS), .int x_value, .int x_digits, .int (nI rc), .int (nI rp), .int (nI ic), .ref m5, .ref m6, .ref m7, .long x_all, .int (nI mpn), .ref mk, .ref mn, .int x_kind, .ref mq, .ref m8, .ref m9, .int x_last, .int x_steps, .int x_isRound, .int x_tablesDone, .ref mz, .int (nI mrs), .ref mb, .ref md, .long x_hash]))] [.ref m0, .int v]) (vp_Si (fun r => r = 0 ∨ (r = 1 ∧ ∃ k : Nat, k < mpn ∧ v = nI k))) 0 0 (fun _ => False) := by
  refine Met.ofW (cc := cX12_isPay) (maxL := 2) (ret := (some .boolean)) (by decide) rfl ?_
  intro p e s m args below meth c s₁ B hml hv
  obtain ⟨hargs, hP, hK⟩ := hv
  have hx := B.exec
  have hb := B.bytes
  have hr := B.returns
  have hts := atoms_spec (ws := Cond.code yX12_isPay cX12_isPay 2 (some .boolean) :: gw_tbl) B.pre
  have hg := fun (w : Cond) (h : w ∈ gw_tbl) => hts w (List.mem_cons_of_mem _ h)
  have hown : s.vm.findClass RX12 = some m.cls := findClass_of_methodNamed B.named
  have hlocks := B.notSynchronized
  have hl := lv_entry ([.ref m0, .int v]) (n := 2) (Nat.le_of_ble_eq_true rfl)
  rw [show entryFrame m args 2 = F0 m 0 (lg_sl ([.ref m0, .int v]) ++ List.replicate (2 - (lg_sl ([.ref m0, .int v])).length) Slot.unset).toArray [] from by rw [hargs]; exact lg_entry_eq ..]
  generalize (lg_sl ([.ref m0, .int v]) ++ List.replicate (2 - (lg_sl ([.ref m0, .int v])).length) Slot.unset).toArray = ls at hl ⊢
  have hl : lv_has ls 2 [(0, .ref m0), (1, .int v)] := hl
  refine W_genQ (fun Q hQ => ?_)
  have hlm := lim_le hP4
  have hlq := lim_pos P
  have hsg := sgn_le hP4
  refine lv_iload_n hx hb dX12_isPay_0 rfl (lv_at hl 1 rfl) ?_
  refine lv_i2l hx hb dX12_isPay_1 rfl ?_
  refine lv_topl (fun z_1 e_1 => ?_)
  refine lv_lconst (v := 0) hx hb dX12_isPay_2 (by decide) ?_
  refine lv_aload_n hx hb dX12_isPay_3 rfl (lv_at hl 0 rfl) ?_
  refine va_get (D := D) (ci := 12) (v := .int (nI mpn)) (C := RX12) (T := TX12) (N := 33) hx hb hg gwX12 hown hK hP 0 rfl rfl 17 (by decide) (hg _ kw_320) (fun _ h9 => h9) rfl dX12_isPay_4 ?_
  refine lv_iconst (v := 1) hx hb dX12_isPay_7 (by decide) ?_
  refine lv_isub hx hb dX12_isPay_8 ?_
  refine lv_topi (fun z_8 e_8 => ?_)
  refine lv_i2l hx hb dX12_isPay_9 rfl ?_
  refine lv_topl (fun z_9 e_9 => ?_)
  refine vp_callSi (W.runS (As := [.long z_1, .long 0, .long z_9]) (rest := []) ⟨hx, hb, hml, hown, hg⟩ (c_in l z_1 0 z_9) (va_cwS 3 hg (gw_S kw_317 kw_318 kw_319 kw_316) rfl rfl rfl (by decide +kernel) ⟨(Nat.le_of_ble_eq_true rfl), (Nat.le_of_ble_eq_true rfl)⟩) pr_0 rfl rfl hl.1 rfl (lv_room (Nat.le_of_ble_eq_true rfl)) dX12_isPay_10 ⟨(Nat.le_of_ble_eq_true rfl), (Nat.le_of_ble_eq_true rfl)⟩) (fun r_10 h_10 => ?_)
  replace h_10 := in_m (by omega) e_1 e_8 e_9 h_10
  rcases h_10 with rfl | ⟨rfl, k_10, hk_10, rfl⟩
  · refine W_sQ hQ ?_
    exact W.zret (v := 0) hx hb hr (by decide) (fun t ht hW => ⟨0, rfl, (Or.inl rfl), ht⟩) (fun _ h => absurd h List.not_mem_nil) dX12_isPay_13
  · refine W_sQ hQ ?_
    exact W.zret (v := 1) hx hb hr (by decide) (fun t ht hW => ⟨1, rfl, (Or.inr ⟨rfl, _, by assumption, rfl⟩), ht⟩) (fun _ h => absurd h List.not_mem_nil) dX12_isPay_13

theorem dX12_common_0 : decode cX12_common 0 = .ok (.lload_n 0, 1) := by decide +kernel
theorem dX12_common_1 : decode cX12_common 1 = .ok (.lconst 0, 1) := by decide +kernel
theorem dX12_common_2 : decode cX12_common 2 = .ok (.lcmp, 1) := by decide +kernel
theorem dX12_common_3 : decode cX12_common 3 = .ok (.ifCond .ge 8, 3) := by decide +kernel
theorem dX12_common_6 : decode cX12_common 6 = .ok (.lload_n 0, 1) := by decide +kernel
theorem dX12_common_7 : decode cX12_common 7 = .ok (.lneg, 1) := by decide +kernel
theorem dX12_common_8 : decode cX12_common 8 = .ok (.goto 4, 3) := by decide +kernel
theorem dX12_common_11 : decode cX12_common 11 = .ok (.lload_n 0, 1) := by decide +kernel
theorem dX12_common_12 : decode cX12_common 12 = .ok (.lstore 4, 2) := by decide +kernel
theorem dX12_common_14 : decode cX12_common 14 = .ok (.lload_n 2, 1) := by decide +kernel
theorem dX12_common_15 : decode cX12_common 15 = .ok (.lstore 6, 2) := by decide +kernel
theorem dX12_common_17 : decode cX12_common 17 = .ok (.lload 4, 2) := by decide +kernel
theorem dX12_common_19 : decode cX12_common 19 = .ok (.lconst 0, 1) := by decide +kernel
theorem dX12_common_20 : decode cX12_common 20 = .ok (.lcmp, 1) := by decide +kernel
theorem dX12_common_21 : decode cX12_common 21 = .ok (.ifCond .eq 21, 3) := by decide +kernel
theorem dX12_common_24 : decode cX12_common 24 = .ok (.lload 6, 2) := by decide +kernel
theorem dX12_common_26 : decode cX12_common 26 = .ok (.lload 4, 2) := by decide +kernel
theorem dX12_common_28 : decode cX12_common 28 = .ok (.lrem, 1) := by decide +kernel
theorem dX12_common_29 : decode cX12_common 29 = .ok (.lstore 8, 2) := by decide +kernel
theorem dX12_common_31 : decode cX12_common 31 = .ok (.lload 4, 2) := by decide +kernel
theorem dX12_common_33 : decode cX12_common 33 = .ok (.lstore 6, 2) := by decide +kernel
theorem dX12_common_35 : decode cX12_common 35 = .ok (.lload 8, 2) := by decide +kernel
theorem dX12_common_37 : decode cX12_common 37 = .ok (.lstore 4, 2) := by decide +kernel
theorem dX12_common_39 : decode cX12_common 39 = .ok (.goto (-22), 3) := by decide +kernel
theorem dX12_common_42 : decode cX12_common 42 = .ok (.lload 6, 2) := by decide +kernel
theorem dX12_common_44 : decode cX12_common 44 = .ok (.lreturn, 1) := by decide +kernel

set_option maxHeartbeats 4000000 in
set_option maxRecDepth 100000 in
theorem m_common (l : Launch) (v : Int64) (u : Int64) : Met l yX12_common (Cond.code yX12_common cX12_common 10 (some .long) :: gw_tbl) ({ frames := 0, cells := 0, slots := 0, locals := 0 }) (pc_0 [.long v, .long u]) (vp_Sl (fun r => ¬ u = 0 → ¬ r = 0)) 0 0 (fun _ => False) := by
  refine Met.ofW (cc := cX12_common) (maxL := 10) (ret := (some .long)) (by decide) rfl ?_
  intro p e s m args below meth c s₁ B hml hv
  obtain ⟨hargs, -⟩ := hv
  have hx := B.exec
  have hb := B.bytes
  have hr := B.returns
  have hts := atoms_spec (ws := Cond.code yX12_common cX12_common 10 (some .long) :: gw_tbl) B.pre
  have hg := fun (w : Cond) (h : w ∈ gw_tbl) => hts w (List.mem_cons_of_mem _ h)
  have hown : s.vm.findClass RX12 = some m.cls := findClass_of_methodNamed B.named
  have hlocks := B.notSynchronized
  have hl := lv_entry ([.long v, .long u]) (n := 10) (Nat.le_of_ble_eq_true rfl)
  rw [show entryFrame m args 10 = F0 m 0 (lg_sl ([.long v, .long u]) ++ List.replicate (10 - (lg_sl ([.long v, .long u])).length) Slot.unset).toArray [] from by rw [hargs]; exact lg_entry_eq ..]
  generalize (lg_sl ([.long v, .long u]) ++ List.replicate (10 - (lg_sl ([.long v, .long u])).length) Slot.unset).toArray = ls at hl ⊢
  have hl : lv_has ls 10 [(0, .long v), (2, .long u)] := hl
  refine W_genQ (fun Q hQ => ?_)
  refine lv_lload_n hx hb dX12_common_0 rfl (lv_at hl 0 rfl) ?_
  refine lv_lconst (v := 0) hx hb dX12_common_1 (by decide) ?_
  refine W.lcmp hx hb dX12_common_2 ?_
  refine lv_topi (fun z_2 e_2 => ?_)
  refine lv_if_ge (tgt := 11) hx hb dX12_common_3 (by decide) (fun c_3 => ?_) (fun c_3 => ?_)
  · refine lv_lload_n hx hb dX12_common_11 rfl (lv_at hl 0 rfl) ?_
    refine lv_lstore (lv' := [(4, .long v), (0, .long v), (2, .long u)]) hx hb dX12_common_12 hl (by decide) rfl (fun ls hl => ?_)
    refine lv_lload_n hx hb dX12_common_14 rfl (lv_at hl 2 rfl) ?_
    refine lv_lstore (lv' := [(6, .long u), (4, .long v), (0, .long v), (2, .long u)]) hx hb dX12_common_15 hl (by decide) rfl (fun ls hl => ?_)
    have LOOP17 : ∀ (n17 : Nat) (u4_17 : Int64) (u6_17 : Int64), (¬ u = 0 → ¬ u6_17 = 0) → sz64 u4_17 < n17 → ∀ (ls : Array Slot), lv_has ls 10 [(0, .long v), (2, .long u), (4, .long u4_17), (6, .long u6_17)] → W p l e ({ frames := 0, cells := 0, slots := 0, locals := 0 } : Room) s m args below meth c s.heap [] 0 0 Q (F0 m 17 ls []) := by
      intro n17
      induction n17 with
      | zero =>
        intro u4_17 u6_17 hr9 hn17 ls hl
        exact absurd hn17 (Nat.not_lt_zero _)
      | succ n17 ih17 =>
        intro u4_17 u6_17 hr9 hn17 ls hl
        refine lv_lload hx hb dX12_common_17 (lv_at hl 2 rfl) ?_
        refine lv_lconst (v := 0) hx hb dX12_common_19 (by decide) ?_
        refine W.lcmp hx hb dX12_common_20 ?_
        refine lv_topi (fun z_20 e_20 => ?_)
        refine lv_if_eq (tgt := 42) hx hb dX12_common_21 (by decide) (fun c_21 => ?_) (fun c_21 => ?_)
        · refine lv_lload hx hb dX12_common_42 (lv_at hl 3 rfl) ?_
          refine W_sQ hQ ?_
          exact W.lret (v := u6_17) hx hb hr (fun t ht hW => ⟨u6_17, rfl, hr9, ht⟩) (fun _ h => absurd h List.not_mem_nil) dX12_common_44
        · have hx0 : ¬ u4_17 = 0 := fun q9 => c_21 (by rw [e_20, q9]; decide)
          refine lv_lload hx hb dX12_common_24 (lv_at hl 3 rfl) ?_
          refine lv_lload hx hb dX12_common_26 (lv_at hl 2 rfl) ?_
          refine lv_lrem hx hb dX12_common_28 hx0 ?_
          refine lv_topl (fun z_28 e_28 => ?_)
          refine lv_lstore (lv' := [(8, .long z_28), (0, .long v), (2, .long u), (4, .long u4_17), (6, .long u6_17)]) hx hb dX12_common_29 hl (by decide) rfl (fun ls hl => ?_)
          refine lv_lload hx hb dX12_common_31 (lv_at hl 3 rfl) ?_
          refine lv_lstore (lv' := [(6, .long u4_17), (8, .long z_28), (0, .long v), (2, .long u), (4, .long u4_17)]) hx hb dX12_common_33 hl (by decide) rfl (fun ls hl => ?_)
          refine lv_lload hx hb dX12_common_35 (lv_at hl 1 rfl) ?_
          refine lv_lstore (lv' := [(4, .long z_28), (6, .long u4_17), (8, .long z_28), (0, .long v), (2, .long u)]) hx hb dX12_common_37 hl (by decide) rfl (fun ls hl => ?_)
          refine lv_goto (tgt := 17) hx hb dX12_common_39 (by decide) ?_
          exact ih17 z_28 u4_17 (fun _ => hx0) (Nat.lt_of_lt_of_le (by rw [e_28]; exact sz_rem hx0) (Nat.le_of_lt_succ hn17)) ls (lv_sub hl [3, 4, 0, 1] rfl)
    exact LOOP17 (sz64 v + 1) v u id (Nat.lt_succ_self _) ls (lv_sub hl [2, 3, 1, 0] rfl)
  · refine lv_lload_n hx hb dX12_common_6 rfl (lv_at hl 0 rfl) ?_
    refine lv_lneg hx hb dX12_common_7 ?_
    refine lv_topl (fun z_7 e_7 => ?_)
    refine lv_goto (tgt := 12) hx hb dX12_common_8 (by decide) ?_
    refine lv_lstore (lv' := [(4, .long z_7), (0, .long v), (2, .long u)]) hx hb dX12_common_12 hl (by decide) rfl (fun ls hl => ?_)
    refine lv_lload_n hx hb dX12_common_14 rfl (lv_at hl 2 rfl) ?_
    refine lv_lstore (lv' := [(6, .long u), (4, .long z_7), (0, .long v), (2, .long u)]) hx hb dX12_common_15 hl (by decide) rfl (fun ls hl => ?_)
    have LOOP17 : ∀ (n17 : Nat) (u4_17 : Int64) (u6_17 : Int64), (¬ u = 0 → ¬ u6_17 = 0) → sz64 u4_17 < n17 → ∀ (ls : Array Slot), lv_has ls 10 [(0, .long v), (2, .long u), (4, .long u4_17), (6, .long u6_17)] → W p l e ({ frames := 0, cells := 0, slots := 0, locals := 0 } : Room) s m args below meth c s.heap [] 0 0 Q (F0 m 17 ls []) := by
      intro n17
      induction n17 with
      | zero =>
        intro u4_17 u6_17 hr9 hn17 ls hl
        exact absurd hn17 (Nat.not_lt_zero _)
      | succ n17 ih17 =>
        intro u4_17 u6_17 hr9 hn17 ls hl
        refine lv_lload hx hb dX12_common_17 (lv_at hl 2 rfl) ?_
        refine lv_lconst (v := 0) hx hb dX12_common_19 (by decide) ?_
        refine W.lcmp hx hb dX12_common_20 ?_
        refine lv_topi (fun z_20 e_20 => ?_)
        refine lv_if_eq (tgt := 42) hx hb dX12_common_21 (by decide) (fun c_21 => ?_) (fun c_21 => ?_)
        · refine lv_lload hx hb dX12_common_42 (lv_at hl 3 rfl) ?_
          refine W_sQ hQ ?_
          exact W.lret (v := u6_17) hx hb hr (fun t ht hW => ⟨u6_17, rfl, hr9, ht⟩) (fun _ h => absurd h List.not_mem_nil) dX12_common_44
        · have hx0 : ¬ u4_17 = 0 := fun q9 => c_21 (by rw [e_20, q9]; decide)
          refine lv_lload hx hb dX12_common_24 (lv_at hl 3 rfl) ?_
          refine lv_lload hx hb dX12_common_26 (lv_at hl 2 rfl) ?_
          refine lv_lrem hx hb dX12_common_28 hx0 ?_
          refine lv_topl (fun z_28 e_28 => ?_)
          refine lv_lstore (lv' := [(8, .long z_28), (0, .long v), (2, .long u), (4, .long u4_17), (6, .long u6_17)]) hx hb dX12_common_29 hl (by decide) rfl (fun ls hl => ?_)
          refine lv_lload hx hb dX12_common_31 (lv_at hl 3 rfl) ?_
          refine lv_lstore (lv' := [(6, .long u4_17), (8, .long z_28), (0, .long v), (2, .long u), (4, .long u4_17)]) hx hb dX12_common_33 hl (by decide) rfl (fun ls hl => ?_)
          refine lv_lload hx hb dX12_common_35 (lv_at hl 1 rfl) ?_
          refine lv_lstore (lv' := [(4, .long z_28), (6, .long u4_17), (8, .long z_28), (0, .long v), (2, .long u)]) hx hb dX12_common_37 hl (by decide) rfl (fun ls hl => ?_)
          refine lv_goto (tgt := 17) hx hb dX12_common_39 (by decide) ?_
          exact ih17 z_28 u4_17 (fun _ => hx0) (Nat.lt_of_lt_of_le (by rw [e_28]; exact sz_rem hx0) (Nat.le_of_lt_succ hn17)) ls (lv_sub hl [3, 4, 0, 1] rfl)
    exact LOOP17 (sz64 z_7 + 1) z_7 u id (Nat.lt_succ_self _) ls (lv_sub hl [2, 3, 1, 0] rfl)

theorem dX12_part_0 : decode cX12_part 0 = .ok (.lload_n 0, 1) := by decide +kernel
theorem dX12_part_1 : decode cX12_part 1 = .ok (.lload_n 2, 1) := by decide +kernel
theorem dX12_part_2 : decode cX12_part 2 = .ok (.invokestatic 123, 3) := by decide +kernel
theorem dX12_part_5 : decode cX12_part 5 = .ok (.lstore 5, 2) := by decide +kernel
theorem dX12_part_7 : decode cX12_part 7 = .ok (.iload 4, 2) := by decide +kernel
theorem dX12_part_9 : decode cX12_part 9 = .ok (.ifCond .ne 10, 3) := by decide +kernel
theorem dX12_part_12 : decode cX12_part 12 = .ok (.lload_n 0, 1) := by decide +kernel
theorem dX12_part_13 : decode cX12_part 13 = .ok (.lload 5, 2) := by decide +kernel
theorem dX12_part_15 : decode cX12_part 15 = .ok (.ldiv, 1) := by decide +kernel
theorem dX12_part_16 : decode cX12_part 16 = .ok (.goto 7, 3) := by decide +kernel
theorem dX12_part_19 : decode cX12_part 19 = .ok (.lload_n 2, 1) := by decide +kernel
theorem dX12_part_20 : decode cX12_part 20 = .ok (.lload 5, 2) := by decide +kernel
theorem dX12_part_22 : decode cX12_part 22 = .ok (.ldiv, 1) := by decide +kernel
theorem dX12_part_23 : decode cX12_part 23 = .ok (.lreturn, 1) := by decide +kernel
theorem kw_321 : (.code yX12_common cX12_common 10 (some .long) : Cond) ∈ gw_tbl := gw_in (by decide +kernel) (by decide +kernel)
theorem kw_322 : (.methodLink RX12 123 yX12_common : Cond) ∈ gw_tbl := gw_in (by decide +kernel) (by decide +kernel)
theorem kw_323 : (.static yX12_common : Cond) ∈ gw_tbl := gw_in (by decide +kernel) (by decide +kernel)

set_option maxHeartbeats 4000000 in
set_option maxRecDepth 100000 in
theorem m_part (l : Launch) (v : Int64) (u : Int64) (hu : ¬ u = 0) (k : Int32) : Met l yX12_part (Cond.code yX12_part cX12_part 7 (some .long) :: gw_tbl) ({ frames := 1, cells := 0, slots := 0, locals := 29 }) (pc_0 [.long v, .long u, .int k]) (vp_Sl (fun r => True)) 0 0 (fun _ => False) := by
  refine Met.ofW (cc := cX12_part) (maxL := 7) (ret := (some .long)) (by decide) rfl ?_
  intro p e s m args below meth c s₁ B hml hv
  obtain ⟨hargs, -⟩ := hv
  have hx := B.exec
  have hb := B.bytes
  have hr := B.returns
  have hts := atoms_spec (ws := Cond.code yX12_part cX12_part 7 (some .long) :: gw_tbl) B.pre
  have hg := fun (w : Cond) (h : w ∈ gw_tbl) => hts w (List.mem_cons_of_mem _ h)
  have hown : s.vm.findClass RX12 = some m.cls := findClass_of_methodNamed B.named
  have hlocks := B.notSynchronized
  have hl := lv_entry ([.long v, .long u, .int k]) (n := 7) (Nat.le_of_ble_eq_true rfl)
  rw [show entryFrame m args 7 = F0 m 0 (lg_sl ([.long v, .long u, .int k]) ++ List.replicate (7 - (lg_sl ([.long v, .long u, .int k])).length) Slot.unset).toArray [] from by rw [hargs]; exact lg_entry_eq ..]
  generalize (lg_sl ([.long v, .long u, .int k]) ++ List.replicate (7 - (lg_sl ([.long v, .long u, .int k])).length) Slot.unset).toArray = ls at hl ⊢
  have hl : lv_has ls 7 [(0, .long v), (2, .long u), (4, .int k)] := hl
  refine W_genQ (fun Q hQ => ?_)
  refine lv_lload_n hx hb dX12_part_0 rfl (lv_at hl 0 rfl) ?_
  refine lv_lload_n hx hb dX12_part_1 rfl (lv_at hl 1 rfl) ?_
  refine vp_callSl (W.runS (As := [.long v, .long u]) (rest := []) ⟨hx, hb, hml, hown, hg⟩ (m_common l v u) (va_cwS 2 hg (gw_S kw_322 kw_323 kw_319 kw_321) rfl rfl rfl (by decide +kernel) ⟨(Nat.le_of_ble_eq_true rfl), (Nat.le_of_ble_eq_true rfl)⟩) pr_0 rfl rfl hl.1 rfl (lv_room (Nat.le_of_ble_eq_true rfl)) dX12_part_2 ⟨(Nat.le_of_ble_eq_true rfl), (Nat.le_of_ble_eq_true rfl)⟩) (fun r_2 h_2 => ?_)
  replace h_2 := h_2 hu
  refine lv_lstore (lv' := [(5, .long r_2), (0, .long v), (2, .long u), (4, .int k)]) hx hb dX12_part_5 hl (by decide) rfl (fun ls hl => ?_)
  refine lv_iload hx hb dX12_part_7 (lv_at hl 3 rfl) ?_
  refine lv_if_ne (tgt := 19) hx hb dX12_part_9 (by decide) (fun c_9 => ?_) (fun c_9 => ?_)
  · refine lv_lload_n hx hb dX12_part_19 rfl (lv_at hl 2 rfl) ?_
    refine lv_lload hx hb dX12_part_20 (lv_at hl 0 rfl) ?_
    refine lv_ldiv hx hb dX12_part_22 h_2 ?_
    refine lv_topl (fun z_22 e_22 => ?_)
    refine W_sQ hQ ?_
    exact W.lret (v := z_22) hx hb hr (fun t ht hW => ⟨z_22, rfl, trivial, ht⟩) (fun _ h => absurd h List.not_mem_nil) dX12_part_23
  · refine lv_lload_n hx hb dX12_part_12 rfl (lv_at hl 1 rfl) ?_
    refine lv_lload hx hb dX12_part_13 (lv_at hl 0 rfl) ?_
    refine lv_ldiv hx hb dX12_part_15 h_2 ?_
    refine lv_topl (fun z_15 e_15 => ?_)
    refine lv_goto (tgt := 23) hx hb dX12_part_16 (by decide) ?_
    refine W_sQ hQ ?_
    exact W.lret (v := z_15) hx hb hr (fun t ht hW => ⟨z_15, rfl, trivial, ht⟩) (fun _ h => absurd h List.not_mem_nil) dX12_part_23

theorem dX12_bitsOf_0 : decode cX12_bitsOf 0 = .ok (.iload_n 0, 1) := by decide +kernel
theorem dX12_bitsOf_1 : decode cX12_bitsOf 1 = .ok (.iconst 1, 1) := by decide +kernel
theorem dX12_bitsOf_2 : decode cX12_bitsOf 2 = .ok (.iand, 1) := by decide +kernel
theorem dX12_bitsOf_3 : decode cX12_bitsOf 3 = .ok (.iload_n 0, 1) := by decide +kernel
theorem dX12_bitsOf_4 : decode cX12_bitsOf 4 = .ok (.iconst 1, 1) := by decide +kernel
theorem dX12_bitsOf_5 : decode cX12_bitsOf 5 = .ok (.ishr, 1) := by decide +kernel
theorem dX12_bitsOf_6 : decode cX12_bitsOf 6 = .ok (.iconst 1, 1) := by decide +kernel
theorem dX12_bitsOf_7 : decode cX12_bitsOf 7 = .ok (.iand, 1) := by decide +kernel
theorem dX12_bitsOf_8 : decode cX12_bitsOf 8 = .ok (.iadd, 1) := by decide +kernel
theorem dX12_bitsOf_9 : decode cX12_bitsOf 9 = .ok (.iload_n 0, 1) := by decide +kernel
theorem dX12_bitsOf_10 : decode cX12_bitsOf 10 = .ok (.iconst 2, 1) := by decide +kernel
theorem dX12_bitsOf_11 : decode cX12_bitsOf 11 = .ok (.ishr, 1) := by decide +kernel
theorem dX12_bitsOf_12 : decode cX12_bitsOf 12 = .ok (.iconst 1, 1) := by decide +kernel
theorem dX12_bitsOf_13 : decode cX12_bitsOf 13 = .ok (.iand, 1) := by decide +kernel
theorem dX12_bitsOf_14 : decode cX12_bitsOf 14 = .ok (.iadd, 1) := by decide +kernel
theorem dX12_bitsOf_15 : decode cX12_bitsOf 15 = .ok (.iload_n 0, 1) := by decide +kernel
theorem dX12_bitsOf_16 : decode cX12_bitsOf 16 = .ok (.iconst 3, 1) := by decide +kernel
theorem dX12_bitsOf_17 : decode cX12_bitsOf 17 = .ok (.ishr, 1) := by decide +kernel
theorem dX12_bitsOf_18 : decode cX12_bitsOf 18 = .ok (.iconst 1, 1) := by decide +kernel
theorem dX12_bitsOf_19 : decode cX12_bitsOf 19 = .ok (.iand, 1) := by decide +kernel
theorem dX12_bitsOf_20 : decode cX12_bitsOf 20 = .ok (.iadd, 1) := by decide +kernel
theorem dX12_bitsOf_21 : decode cX12_bitsOf 21 = .ok (.ireturn, 1) := by decide +kernel

set_option maxHeartbeats 4000000 in
set_option maxRecDepth 100000 in
theorem m_bitsOf (l : Launch) (v : Int32) : Met l yX12_bitsOf (Cond.code yX12_bitsOf cX12_bitsOf 1 (some .int) :: gw_tbl) ({ frames := 0, cells := 0, slots := 0, locals := 0 }) (pc_0 [.int v]) (vp_Si (fun r => True)) 0 0 (fun _ => False) := by
  refine Met.ofW (cc := cX12_bitsOf) (maxL := 1) (ret := (some .int)) (by decide) rfl ?_
  intro p e s m args below meth c s₁ B hml hv
  obtain ⟨hargs, -⟩ := hv
  have hx := B.exec
  have hb := B.bytes
  have hr := B.returns
  have hts := atoms_spec (ws := Cond.code yX12_bitsOf cX12_bitsOf 1 (some .int) :: gw_tbl) B.pre
  have hg := fun (w : Cond) (h : w ∈ gw_tbl) => hts w (List.mem_cons_of_mem _ h)
  have hown : s.vm.findClass RX12 = some m.cls := findClass_of_methodNamed B.named
  have hlocks := B.notSynchronized
  have hl := lv_entry ([.int v]) (n := 1) (Nat.le_of_ble_eq_true rfl)
  rw [show entryFrame m args 1 = F0 m 0 (lg_sl ([.int v]) ++ List.replicate (1 - (lg_sl ([.int v])).length) Slot.unset).toArray [] from by rw [hargs]; exact lg_entry_eq ..]
  generalize (lg_sl ([.int v]) ++ List.replicate (1 - (lg_sl ([.int v])).length) Slot.unset).toArray = ls at hl ⊢
  have hl : lv_has ls 1 [(0, .int v)] := hl
  refine W_genQ (fun Q hQ => ?_)
  refine lv_iload_n hx hb dX12_bitsOf_0 rfl (lv_at hl 0 rfl) ?_
  refine lv_iconst (v := 1) hx hb dX12_bitsOf_1 (by decide) ?_
  refine lv_iand hx hb dX12_bitsOf_2 ?_
  refine lv_topi (fun z_2 e_2 => ?_)
  obtain ⟨j_2, hj_2, ee_2⟩ := pk_andE v (m := 1) 1 rfl
  obtain rfl : z_2 = nI j_2 := e_2.trans ee_2
  have hj_2 : j_2 < 2 := hj_2
  refine lv_iload_n hx hb dX12_bitsOf_3 rfl (lv_at hl 0 rfl) ?_
  refine lv_iconst (v := 1) hx hb dX12_bitsOf_4 (by decide) ?_
  refine lv_ishr hx hb dX12_bitsOf_5 ?_
  refine lv_topi (fun z_5 e_5 => ?_)
  refine lv_iconst (v := 1) hx hb dX12_bitsOf_6 (by decide) ?_
  refine lv_iand hx hb dX12_bitsOf_7 ?_
  refine lv_topi (fun z_7 e_7 => ?_)
  obtain ⟨j_7, hj_7, ee_7⟩ := pk_andE z_5 (m := 1) 1 rfl
  obtain rfl : z_7 = nI j_7 := e_7.trans ee_7
  have hj_7 : j_7 < 2 := hj_7
  refine lv_iadd hx hb dX12_bitsOf_8 ?_
  refine lv_topi (fun z_8 e_8 => ?_)
  obtain rfl : z_8 = nI (j_2 + j_7) := e_8.trans (nI_add _ _)
  refine lv_iload_n hx hb dX12_bitsOf_9 rfl (lv_at hl 0 rfl) ?_
  refine lv_iconst (v := 2) hx hb dX12_bitsOf_10 (by decide) ?_
  refine lv_ishr hx hb dX12_bitsOf_11 ?_
  refine lv_topi (fun z_11 e_11 => ?_)
  refine lv_iconst (v := 1) hx hb dX12_bitsOf_12 (by decide) ?_
  refine lv_iand hx hb dX12_bitsOf_13 ?_
  refine lv_topi (fun z_13 e_13 => ?_)
  obtain ⟨j_13, hj_13, ee_13⟩ := pk_andE z_11 (m := 1) 1 rfl
  obtain rfl : z_13 = nI j_13 := e_13.trans ee_13
  have hj_13 : j_13 < 2 := hj_13
  refine lv_iadd hx hb dX12_bitsOf_14 ?_
  refine lv_topi (fun z_14 e_14 => ?_)
  obtain rfl : z_14 = nI (j_2 + j_7 + j_13) := e_14.trans (nI_add _ _)
  refine lv_iload_n hx hb dX12_bitsOf_15 rfl (lv_at hl 0 rfl) ?_
  refine lv_iconst (v := 3) hx hb dX12_bitsOf_16 (by decide) ?_
  refine lv_ishr hx hb dX12_bitsOf_17 ?_
  refine lv_topi (fun z_17 e_17 => ?_)
  refine lv_iconst (v := 1) hx hb dX12_bitsOf_18 (by decide) ?_
  refine lv_iand hx hb dX12_bitsOf_19 ?_
  refine lv_topi (fun z_19 e_19 => ?_)
  obtain ⟨j_19, hj_19, ee_19⟩ := pk_andE z_17 (m := 1) 1 rfl
  obtain rfl : z_19 = nI j_19 := e_19.trans ee_19
  have hj_19 : j_19 < 2 := hj_19
  refine lv_iadd hx hb dX12_bitsOf_20 ?_
  refine lv_topi (fun z_20 e_20 => ?_)
  obtain rfl : z_20 = nI (j_2 + j_7 + j_13 + j_19) := e_20.trans (nI_add _ _)
  refine W_sQ hQ ?_
  exact W.iret (v := (nI (j_2 + j_7 + j_13 + j_19))) hx hb hr (fun t ht hW => ⟨(nI (j_2 + j_7 + j_13 + j_19)), rfl, trivial, ht⟩) (fun _ h => absurd h List.not_mem_nil) dX12_bitsOf_21

theorem dX12_answer_0 : decode cX12_answer 0 = .ok (.iload_n 0, 1) := by decide +kernel
theorem dX12_answer_1 : decode cX12_answer 1 = .ok (.ifCond .ne 7, 3) := by decide +kernel
theorem dX12_answer_4 : decode cX12_answer 4 = .ok (.iload_n 1, 1) := by decide +kernel
theorem dX12_answer_5 : decode cX12_answer 5 = .ok (.goto 17, 3) := by decide +kernel
theorem dX12_answer_8 : decode cX12_answer 8 = .ok (.iload_n 0, 1) := by decide +kernel
theorem dX12_answer_9 : decode cX12_answer 9 = .ok (.iconst 1, 1) := by decide +kernel
theorem dX12_answer_10 : decode cX12_answer 10 = .ok (.if_icmp .ne 9, 3) := by decide +kernel
theorem dX12_answer_13 : decode cX12_answer 13 = .ok (.iconst 1, 1) := by decide +kernel
theorem dX12_answer_14 : decode cX12_answer 14 = .ok (.iload_n 1, 1) := by decide +kernel
theorem dX12_answer_15 : decode cX12_answer 15 = .ok (.isub, 1) := by decide +kernel
theorem dX12_answer_16 : decode cX12_answer 16 = .ok (.goto 6, 3) := by decide +kernel
theorem dX12_answer_19 : decode cX12_answer 19 = .ok (.iload_n 0, 1) := by decide +kernel
theorem dX12_answer_20 : decode cX12_answer 20 = .ok (.iconst 2, 1) := by decide +kernel
theorem dX12_answer_21 : decode cX12_answer 21 = .ok (.isub, 1) := by decide +kernel
theorem dX12_answer_22 : decode cX12_answer 22 = .ok (.ireturn, 1) := by decide +kernel

set_option maxHeartbeats 4000000 in
set_option maxRecDepth 100000 in
theorem m_answer (l : Launch) (v : Int32) (u : Int32) : Met l yX12_answer (Cond.code yX12_answer cX12_answer 2 (some .int) :: gw_tbl) ({ frames := 0, cells := 0, slots := 0, locals := 0 }) (pc_0 [.int v, .int u]) (vp_Si (fun r => True)) 0 0 (fun _ => False) := by
  refine Met.ofW (cc := cX12_answer) (maxL := 2) (ret := (some .int)) (by decide) rfl ?_
  intro p e s m args below meth c s₁ B hml hv
  obtain ⟨hargs, -⟩ := hv
  have hx := B.exec
  have hb := B.bytes
  have hr := B.returns
  have hts := atoms_spec (ws := Cond.code yX12_answer cX12_answer 2 (some .int) :: gw_tbl) B.pre
  have hg := fun (w : Cond) (h : w ∈ gw_tbl) => hts w (List.mem_cons_of_mem _ h)
  have hown : s.vm.findClass RX12 = some m.cls := findClass_of_methodNamed B.named
  have hlocks := B.notSynchronized
  have hl := lv_entry ([.int v, .int u]) (n := 2) (Nat.le_of_ble_eq_true rfl)
  rw [show entryFrame m args 2 = F0 m 0 (lg_sl ([.int v, .int u]) ++ List.replicate (2 - (lg_sl ([.int v, .int u])).length) Slot.unset).toArray [] from by rw [hargs]; exact lg_entry_eq ..]
  generalize (lg_sl ([.int v, .int u]) ++ List.replicate (2 - (lg_sl ([.int v, .int u])).length) Slot.unset).toArray = ls at hl ⊢
  have hl : lv_has ls 2 [(0, .int v), (1, .int u)] := hl
  refine W_genQ (fun Q hQ => ?_)
  refine lv_iload_n hx hb dX12_answer_0 rfl (lv_at hl 0 rfl) ?_
  refine lv_if_ne (tgt := 8) hx hb dX12_answer_1 (by decide) (fun c_1 => ?_) (fun c_1 => ?_)
  · refine lv_iload_n hx hb dX12_answer_8 rfl (lv_at hl 0 rfl) ?_
    refine lv_iconst (v := 1) hx hb dX12_answer_9 (by decide) ?_
    refine lv_icmp_ne (tgt := 19) hx hb dX12_answer_10 (by decide) (fun c_10 => ?_) (fun c_10 => ?_)
    · refine lv_iload_n hx hb dX12_answer_19 rfl (lv_at hl 0 rfl) ?_
      refine lv_iconst (v := 2) hx hb dX12_answer_20 (by decide) ?_
      refine lv_isub hx hb dX12_answer_21 ?_
      refine lv_topi (fun z_21 e_21 => ?_)
      refine W_sQ hQ ?_
      exact W.iret (v := z_21) hx hb hr (fun t ht hW => ⟨z_21, rfl, trivial, ht⟩) (fun _ h => absurd h List.not_mem_nil) dX12_answer_22
    · refine lv_iconst (v := 1) hx hb dX12_answer_13 (by decide) ?_
      refine lv_iload_n hx hb dX12_answer_14 rfl (lv_at hl 1 rfl) ?_
      refine lv_isub hx hb dX12_answer_15 ?_
      refine lv_topi (fun z_15 e_15 => ?_)
      refine lv_goto (tgt := 22) hx hb dX12_answer_16 (by decide) ?_
      refine W_sQ hQ ?_
      exact W.iret (v := z_15) hx hb hr (fun t ht hW => ⟨z_15, rfl, trivial, ht⟩) (fun _ h => absurd h List.not_mem_nil) dX12_answer_22
  · refine lv_iload_n hx hb dX12_answer_4 rfl (lv_at hl 1 rfl) ?_
    refine lv_goto (tgt := 22) hx hb dX12_answer_5 (by decide) ?_
    refine W_sQ hQ ?_
    exact W.iret (v := u) hx hb hr (fun t ht hW => ⟨u, rfl, trivial, ht⟩) (fun _ h => absurd h List.not_mem_nil) dX12_answer_22

theorem dX12_wayOf_0 : decode cX12_wayOf 0 = .ok (.iload_n 0, 1) := by decide +kernel
theorem dX12_wayOf_1 : decode cX12_wayOf 1 = .ok (.iconst 2, 1) := by decide +kernel
theorem dX12_wayOf_2 : decode cX12_wayOf 2 = .ok (.iload_n 1, 1) := by decide +kernel
theorem dX12_wayOf_3 : decode cX12_wayOf 3 = .ok (.imul, 1) := by decide +kernel
theorem dX12_wayOf_4 : decode cX12_wayOf 4 = .ok (.ishr, 1) := by decide +kernel
theorem dX12_wayOf_5 : decode cX12_wayOf 5 = .ok (.iconst 3, 1) := by decide +kernel
theorem dX12_wayOf_6 : decode cX12_wayOf 6 = .ok (.iand, 1) := by decide +kernel
theorem dX12_wayOf_7 : decode cX12_wayOf 7 = .ok (.ireturn, 1) := by decide +kernel

set_option maxHeartbeats 4000000 in
set_option maxRecDepth 100000 in
theorem m_wayOf (l : Launch) (v : Int32) (u : Int32) : Met l yX12_wayOf (Cond.code yX12_wayOf cX12_wayOf 2 (some .int) :: gw_tbl) ({ frames := 0, cells := 0, slots := 0, locals := 0 }) (pc_0 [.int v, .int u]) (vp_Si (fun r => True)) 0 0 (fun _ => False) := by
  refine Met.ofW (cc := cX12_wayOf) (maxL := 2) (ret := (some .int)) (by decide) rfl ?_
  intro p e s m args below meth c s₁ B hml hv
  obtain ⟨hargs, -⟩ := hv
  have hx := B.exec
  have hb := B.bytes
  have hr := B.returns
  have hts := atoms_spec (ws := Cond.code yX12_wayOf cX12_wayOf 2 (some .int) :: gw_tbl) B.pre
  have hg := fun (w : Cond) (h : w ∈ gw_tbl) => hts w (List.mem_cons_of_mem _ h)
  have hown : s.vm.findClass RX12 = some m.cls := findClass_of_methodNamed B.named
  have hlocks := B.notSynchronized
  have hl := lv_entry ([.int v, .int u]) (n := 2) (Nat.le_of_ble_eq_true rfl)
  rw [show entryFrame m args 2 = F0 m 0 (lg_sl ([.int v, .int u]) ++ List.replicate (2 - (lg_sl ([.int v, .int u])).length) Slot.unset).toArray [] from by rw [hargs]; exact lg_entry_eq ..]
  generalize (lg_sl ([.int v, .int u]) ++ List.replicate (2 - (lg_sl ([.int v, .int u])).length) Slot.unset).toArray = ls at hl ⊢
  have hl : lv_has ls 2 [(0, .int v), (1, .int u)] := hl
  refine W_genQ (fun Q hQ => ?_)
  refine lv_iload_n hx hb dX12_wayOf_0 rfl (lv_at hl 0 rfl) ?_
  refine lv_iconst (v := 2) hx hb dX12_wayOf_1 (by decide) ?_
  refine lv_iload_n hx hb dX12_wayOf_2 rfl (lv_at hl 1 rfl) ?_
  refine lv_imul hx hb dX12_wayOf_3 ?_
  refine lv_topi (fun z_3 e_3 => ?_)
  refine lv_ishr hx hb dX12_wayOf_4 ?_
  refine lv_topi (fun z_4 e_4 => ?_)
  refine lv_iconst (v := 3) hx hb dX12_wayOf_5 (by decide) ?_
  refine lv_iand hx hb dX12_wayOf_6 ?_
  refine lv_topi (fun z_6 e_6 => ?_)
  obtain ⟨j_6, hj_6, ee_6⟩ := pk_andE z_4 (m := 3) 2 rfl
  obtain rfl : z_6 = nI j_6 := e_6.trans ee_6
  have hj_6 : j_6 < 4 := hj_6
  refine W_sQ hQ ?_
  exact W.iret (v := (nI j_6)) hx hb hr (fun t ht hW => ⟨(nI j_6), rfl, trivial, ht⟩) (fun _ h => absurd h List.not_mem_nil) dX12_wayOf_7

theorem dX12_profiles_0 : decode cX12_profiles 0 = .ok (.iconst 1, 1) := by decide +kernel
theorem dX12_profiles_1 : decode cX12_profiles 1 = .ok (.iconst 2, 1) := by decide +kernel
theorem dX12_profiles_2 : decode cX12_profiles 2 = .ok (.aload_n 0, 1) := by decide +kernel
theorem dX12_profiles_3 : decode cX12_profiles 3 = .ok (.getfield 57, 3) := by decide +kernel
theorem dX12_profiles_6 : decode cX12_profiles 6 = .ok (.imul, 1) := by decide +kernel
theorem dX12_profiles_7 : decode cX12_profiles 7 = .ok (.ishl, 1) := by decide +kernel
theorem dX12_profiles_8 : decode cX12_profiles 8 = .ok (.ireturn, 1) := by decide +kernel

set_option maxHeartbeats 4000000 in
set_option maxRecDepth 100000 in
theorem m_profiles (l : Launch) (D : va_G) (cs : Nat → ClassId) (m0 : Nat) (mp : Nat) (mw : Nat) (mh : Nat) (mo : Nat) (m5 : Nat) (m6 : Nat) (m7 : Nat) (mk : Nat) (mn : Nat) (mq : Nat) (m8 : Nat) (m9 : Nat) (mz : Nat) (mb : Nat) (md : Nat) (ms : Nat) (C : Nat) (P : Nat) (mpn : Nat) (mrs : Nat) (sS : Nat) (rc : Nat) (rp : Nat) (ic : Nat) (hms : ms ≤ 90) (hC5 : C ≤ 5) (hP4 : P ≤ 4) (hmpn : mpn ≤ 8) (hmrs : mrs ≤ 24) (hsS : sS ≤ 4) (hrc : rc ≤ 5) (hrp : rp ≤ 4) (hic : ic ≤ 4) (x_value : Int32) (x_digits : Int32) (x_all : Int64) (x_kind : Int32) (x_last : Int32) (x_steps : Int32) (x_isRound : Int32) (x_tablesDone : Int32) (x_hash : Int64) : Met l yX12_profiles (Cond.code yX12_profiles cX12_profiles 1 (some .int) :: gw_tbl) ({ frames := 0, cells := 0, slots := 0, locals := 0 }) (pc_S D cs [(m0, .inr (12, [.ref mp, .int (nI ms), .int (nI C), .int (nI P), .ref mw, .ref mh, .ref mo, .int (nI sS), .int x_value, .int x_digits, .int (nI rc), .int (nI rp), .int (nI ic), .ref m5, .ref m6, .ref m7, .long x_all, .int (nI mpn), .ref mk, .ref mn, .int x_kind, .ref mq, .ref m8, .ref m9, .int x_last, .int x_steps, .int x_isRound, .int x_tablesDone, .ref mz, .int (nI mrs), .ref mb, .ref md, .long x_hash]))] [.ref m0]) (vp_Si (fun r => r = nI (lim P))) 0 0 (fun _ => False) := by
  refine Met.ofW (cc := cX12_profiles) (maxL := 1) (ret := (some .int)) (by decide) rfl ?_
  intro p e s m args below meth c s₁ B hml hv
  obtain ⟨hargs, hP, hK⟩ := hv
  have hx := B.exec
  have hb := B.bytes
  have hr := B.returns
  have hts := atoms_spec (ws := Cond.code yX12_profiles cX12_profiles 1 (some .int) :: gw_tbl) B.pre
  have hg := fun (w : Cond) (h : w ∈ gw_tbl) => hts w (List.mem_cons_of_mem _ h)
  have hown : s.vm.findClass RX12 = some m.cls := findClass_of_methodNamed B.named
  have hlocks := B.notSynchronized
  have hl := lv_entry ([.ref m0]) (n := 1) (Nat.le_of_ble_eq_true rfl)
  rw [show entryFrame m args 1 = F0 m 0 (lg_sl ([.ref m0]) ++ List.replicate (1 - (lg_sl ([.ref m0])).length) Slot.unset).toArray [] from by rw [hargs]; exact lg_entry_eq ..]
  generalize (lg_sl ([.ref m0]) ++ List.replicate (1 - (lg_sl ([.ref m0])).length) Slot.unset).toArray = ls at hl ⊢
  have hl : lv_has ls 1 [(0, .ref m0)] := hl
  refine W_genQ (fun Q hQ => ?_)
  have hlm := lim_le hP4
  have hlq := lim_pos P
  have hsg := sgn_le hP4
  refine lv_iconst (v := 1) hx hb dX12_profiles_0 (by decide) ?_
  refine lv_iconst (v := 2) hx hb dX12_profiles_1 (by decide) ?_
  refine lv_aload_n hx hb dX12_profiles_2 rfl (lv_at hl 0 rfl) ?_
  refine va_get (D := D) (ci := 12) (v := .int (nI P)) (C := RX12) (T := TX12) (N := 33) hx hb hg gwX12 hown hK hP 0 rfl rfl 3 (by decide) (hg _ kw_315) (fun _ h9 => h9) rfl dX12_profiles_3 ?_
  refine lv_imul hx hb dX12_profiles_6 ?_
  refine lv_topi (fun z_6 e_6 => ?_)
  obtain rfl : z_6 = nI (2 * P) := e_6.trans (pk_mul _ _)
  refine lv_ishl hx hb dX12_profiles_7 ?_
  refine lv_topi (fun z_7 e_7 => ?_)
  refine W_sQ hQ ?_
  exact W.iret (v := z_7) hx hb hr (fun t ht hW => ⟨z_7, rfl, (e_7.trans (li_eq hP4)), ht⟩) (fun _ h => absurd h List.not_mem_nil) dX12_profiles_8

theorem dX12_takePay_0 : decode cX12_takePay 0 = .ok (.aload_n 0, 1) := by decide +kernel
theorem dX12_takePay_1 : decode cX12_takePay 1 = .ok (.aload_n 0, 1) := by decide +kernel
theorem dX12_takePay_2 : decode cX12_takePay 2 = .ok (.getfield 32, 3) := by decide +kernel
theorem dX12_takePay_5 : decode cX12_takePay 5 = .ok (.iload_n 1, 1) := by decide +kernel
theorem dX12_takePay_6 : decode cX12_takePay 6 = .ok (.iaload, 1) := by decide +kernel
theorem dX12_takePay_7 : decode cX12_takePay 7 = .ok (.putfield 147, 3) := by decide +kernel
theorem dX12_takePay_10 : decode cX12_takePay 10 = .ok (.iconst 0, 1) := by decide +kernel
theorem dX12_takePay_11 : decode cX12_takePay 11 = .ok (.istore_n 2, 1) := by decide +kernel
theorem dX12_takePay_12 : decode cX12_takePay 12 = .ok (.iload_n 2, 1) := by decide +kernel
theorem dX12_takePay_13 : decode cX12_takePay 13 = .ok (.iconst 4, 1) := by decide +kernel
theorem dX12_takePay_14 : decode cX12_takePay 14 = .ok (.if_icmp .ge 25, 3) := by decide +kernel
theorem dX12_takePay_17 : decode cX12_takePay 17 = .ok (.aload_n 0, 1) := by decide +kernel
theorem dX12_takePay_18 : decode cX12_takePay 18 = .ok (.getfield 38, 3) := by decide +kernel
theorem dX12_takePay_21 : decode cX12_takePay 21 = .ok (.iload_n 2, 1) := by decide +kernel
theorem dX12_takePay_22 : decode cX12_takePay 22 = .ok (.aload_n 0, 1) := by decide +kernel
theorem dX12_takePay_23 : decode cX12_takePay 23 = .ok (.getfield 35, 3) := by decide +kernel
theorem dX12_takePay_26 : decode cX12_takePay 26 = .ok (.iconst 4, 1) := by decide +kernel
theorem dX12_takePay_27 : decode cX12_takePay 27 = .ok (.iload_n 1, 1) := by decide +kernel
theorem dX12_takePay_28 : decode cX12_takePay 28 = .ok (.imul, 1) := by decide +kernel
theorem dX12_takePay_29 : decode cX12_takePay 29 = .ok (.iload_n 2, 1) := by decide +kernel
theorem dX12_takePay_30 : decode cX12_takePay 30 = .ok (.iadd, 1) := by decide +kernel
theorem dX12_takePay_31 : decode cX12_takePay 31 = .ok (.iaload, 1) := by decide +kernel
theorem dX12_takePay_32 : decode cX12_takePay 32 = .ok (.iastore, 1) := by decide +kernel
theorem dX12_takePay_33 : decode cX12_takePay 33 = .ok (.iinc 2 1, 3) := by decide +kernel
theorem dX12_takePay_36 : decode cX12_takePay 36 = .ok (.goto (-24), 3) := by decide +kernel
theorem dX12_takePay_39 : decode cX12_takePay 39 = .ok (.return_, 1) := by decide +kernel
theorem kw_324 : (.fieldLink RX12 32 "NobodyChecksModel" "payKind" "[I" : Cond) ∈ gw_tbl := gw_in (by decide +kernel) (by decide +kernel)
theorem kw_325 : (.fieldLink RX12 147 "NobodyChecksModel" "kind" "I" : Cond) ∈ gw_tbl := gw_in (by decide +kernel) (by decide +kernel)
theorem kw_326 : (.fieldLink RX12 38 "NobodyChecksModel" "q" "[I" : Cond) ∈ gw_tbl := gw_in (by decide +kernel) (by decide +kernel)
theorem kw_327 : (.fieldLink RX12 35 "NobodyChecksModel" "payNumbers" "[I" : Cond) ∈ gw_tbl := gw_in (by decide +kernel) (by decide +kernel)

set_option maxHeartbeats 4000000 in
set_option maxRecDepth 100000 in
theorem m_takePay (l : Launch) (D : va_G) (cs : Nat → ClassId) (m0 : Nat) (mp : Nat) (mw : Nat) (mh : Nat) (mo : Nat) (m5 : Nat) (m6 : Nat) (m7 : Nat) (mk : Nat) (mn : Nat) (mq : Nat) (m8 : Nat) (m9 : Nat) (mz : Nat) (mb : Nat) (md : Nat) (ms : Nat) (C : Nat) (P : Nat) (mpn : Nat) (mrs : Nat) (sS : Nat) (rc : Nat) (rp : Nat) (ic : Nat) (hms : ms ≤ 90) (hC5 : C ≤ 5) (hP4 : P ≤ 4) (hmpn : mpn ≤ 8) (hmrs : mrs ≤ 24) (hsS : sS ≤ 4) (hrc : rc ≤ 5) (hrp : rp ≤ 4) (hic : ic ≤ 4) (x_value : Int32) (x_digits : Int32) (x_all : Int64) (x_kind : Int32) (x_last : Int32) (x_steps : Int32) (x_isRound : Int32) (x_tablesDone : Int32) (x_hash : Int64) (fmk : Nat → Int32) (fmn : Nat → Int32) (fmq : Nat → Int32) (pk : Nat) (hpk : pk < mpn) (sz : Nat) : Met l yX12_takePay (Cond.code yX12_takePay cX12_takePay 3 none :: gw_tbl) ({ frames := 0, cells := 0, slots := 0, locals := 0 }) (pc_M D cs [(m0, .inr (12, [.ref mp, .int (nI ms), .int (nI C), .int (nI P), .ref mw, .ref mh, .ref mo, .int (nI sS), .int x_value, .int x_digits, .int (nI rc), .int (nI rp), .int (nI ic), .ref m5, .ref m6, .ref m7, .long x_all, .int (nI mpn), .ref mk, .ref mn, .int x_kind, .ref mq, .ref m8, .ref m9, .int x_last, .int x_steps, .int x_isRound, .int x_tablesDone, .ref mz, .int (nI mrs), .ref mb, .ref md, .long x_hash])), (mk, .inl (cs 0, 8, .inl fmk)), (mn, .inl (cs 0, 32, .inl fmn)), (mq, .inl (cs 0, 4, .inl fmq))] sz [.ref m0, .int (nI pk)]) (va_Qv (fun (u : Unit) => True) (fun u t => ∃ (kd2 : Int32), ∃ (fmq2 : Nat → Int32), va_P D vwCl [(m0, .inr (12, [.ref mp, .int (nI ms), .int (nI C), .int (nI P), .ref mw, .ref mh, .ref mo, .int (nI sS), .int x_value, .int x_digits, .int (nI rc), .int (nI rp), .int (nI ic), .ref m5, .ref m6, .ref m7, .long x_all, .int (nI mpn), .ref mk, .ref mn, .int kd2, .ref mq, .ref m8, .ref m9, .int x_last, .int x_steps, .int x_isRound, .int x_tablesDone, .ref mz, .int (nI mrs), .ref mb, .ref md, .long x_hash])), (mk, .inl (cs 0, 8, .inl fmk)), (mn, .inl (cs 0, 32, .inl fmn)), (mq, .inl (cs 0, 4, .inl fmq2))] t.heap ∧ va_D (va_A [(m0, .inr (12, [.ref mp, .int (nI ms), .int (nI C), .int (nI P), .ref mw, .ref mh, .ref mo, .int (nI sS), .int x_value, .int x_digits, .int (nI rc), .int (nI rp), .int (nI ic), .ref m5, .ref m6, .ref m7, .long x_all, .int (nI mpn), .ref mk, .ref mn, .int x_kind, .ref mq, .ref m8, .ref m9, .int x_last, .int x_steps, .int x_isRound, .int x_tablesDone, .ref mz, .int (nI mrs), .ref mb, .ref md, .long x_hash])), (mk, .inl (cs 0, 8, .inl fmk)), (mn, .inl (cs 0, 32, .inl fmn)), (mq, .inl (cs 0, 4, .inl fmq))] sz) [(m0, .inr (12, [.ref mp, .int (nI ms), .int (nI C), .int (nI P), .ref mw, .ref mh, .ref mo, .int (nI sS), .int x_value, .int x_digits, .int (nI rc), .int (nI rp), .int (nI ic), .ref m5, .ref m6, .ref m7, .long x_all, .int (nI mpn), .ref mk, .ref mn, .int kd2, .ref mq, .ref m8, .ref m9, .int x_last, .int x_steps, .int x_isRound, .int x_tablesDone, .ref mz, .int (nI mrs), .ref mb, .ref md, .long x_hash])), (mk, .inl (cs 0, 8, .inl fmk)), (mn, .inl (cs 0, 32, .inl fmn)), (mq, .inl (cs 0, 4, .inl fmq2))]) (va_A [(m0, .inr (12, [.ref mp, .int (nI ms), .int (nI C), .int (nI P), .ref mw, .ref mh, .ref mo, .int (nI sS), .int x_value, .int x_digits, .int (nI rc), .int (nI rp), .int (nI ic), .ref m5, .ref m6, .ref m7, .long x_all, .int (nI mpn), .ref mk, .ref mn, .int x_kind, .ref mq, .ref m8, .ref m9, .int x_last, .int x_steps, .int x_isRound, .int x_tablesDone, .ref mz, .int (nI mrs), .ref mb, .ref md, .long x_hash])), (mk, .inl (cs 0, 8, .inl fmk)), (mn, .inl (cs 0, 32, .inl fmn)), (mq, .inl (cs 0, 4, .inl fmq))] sz)) 0 0 (va_A [(m0, .inr (12, [.ref mp, .int (nI ms), .int (nI C), .int (nI P), .ref mw, .ref mh, .ref mo, .int (nI sS), .int x_value, .int x_digits, .int (nI rc), .int (nI rp), .int (nI ic), .ref m5, .ref m6, .ref m7, .long x_all, .int (nI mpn), .ref mk, .ref mn, .int x_kind, .ref mq, .ref m8, .ref m9, .int x_last, .int x_steps, .int x_isRound, .int x_tablesDone, .ref mz, .int (nI mrs), .ref mb, .ref md, .long x_hash])), (mk, .inl (cs 0, 8, .inl fmk)), (mn, .inl (cs 0, 32, .inl fmn)), (mq, .inl (cs 0, 4, .inl fmq))] sz) := by
  refine Met.ofW (cc := cX12_takePay) (maxL := 3) (ret := none) (by decide) rfl ?_
  intro p e s m args below meth c s₁ B hml hv
  obtain ⟨hargs, hsz, hP, hK, hD0⟩ := hv
  have hx := B.exec
  have hb := B.bytes
  have hr := B.returns
  have hts := atoms_spec (ws := Cond.code yX12_takePay cX12_takePay 3 none :: gw_tbl) B.pre
  have hg := fun (w : Cond) (h : w ∈ gw_tbl) => hts w (List.mem_cons_of_mem _ h)
  have hown : s.vm.findClass RX12 = some m.cls := findClass_of_methodNamed B.named
  have hlocks := B.notSynchronized
  subst hsz
  have hD := hD0.self (sz := s.heap.size)
  generalize hAe : va_A [(m0, .inr (12, [.ref mp, .int (nI ms), .int (nI C), .int (nI P), .ref mw, .ref mh, .ref mo, .int (nI sS), .int x_value, .int x_digits, .int (nI rc), .int (nI rp), .int (nI ic), .ref m5, .ref m6, .ref m7, .long x_all, .int (nI mpn), .ref mk, .ref mn, .int x_kind, .ref mq, .ref m8, .ref m9, .int x_last, .int x_steps, .int x_isRound, .int x_tablesDone, .ref mz, .int (nI mrs), .ref mb, .ref md, .long x_hash])), (mk, .inl (cs 0, 8, .inl fmk)), (mn, .inl (cs 0, 32, .inl fmn)), (mq, .inl (cs 0, 4, .inl fmq))] s.heap.size = A at hD ⊢
  have hA : ∀ q : Nat, s.heap.size ≤ q → A q := fun q h => by rw [← hAe]; exact Or.inr h
  have hS : va_S A s.heap s.heap [] := va_S.rf
  have hP : va_P D vwCl [(m0, .inr (12, [.ref mp, .int (nI ms), .int (nI C), .int (nI P), .ref mw, .ref mh, .ref mo, .int (nI sS), .int x_value, .int x_digits, .int (nI rc), .int (nI rp), .int (nI ic), .ref m5, .ref m6, .ref m7, .long x_all, .int (nI mpn), .ref mk, .ref mn, .int x_kind, .ref mq, .ref m8, .ref m9, .int x_last, .int x_steps, .int x_isRound, .int x_tablesDone, .ref mz, .int (nI mrs), .ref mb, .ref md, .long x_hash])), (mk, .inl (cs 0, 8, .inl fmk)), (mn, .inl (cs 0, 32, .inl fmn)), (mq, .inl (cs 0, 4, .inl fmq))] s.heap := hP
  have hl := lv_entry ([.ref m0, .int (nI pk)]) (n := 3) (Nat.le_of_ble_eq_true rfl)
  rw [show entryFrame m args 3 = F0 m 0 (lg_sl ([.ref m0, .int (nI pk)]) ++ List.replicate (3 - (lg_sl ([.ref m0, .int (nI pk)])).length) Slot.unset).toArray [] from by rw [hargs]; exact lg_entry_eq ..]
  generalize (lg_sl ([.ref m0, .int (nI pk)]) ++ List.replicate (3 - (lg_sl ([.ref m0, .int (nI pk)])).length) Slot.unset).toArray = ls at hl ⊢
  have hl : lv_has ls 3 [(0, .ref m0), (1, .int (nI pk))] := hl
  refine W_genQ (fun Q hQ => ?_)
  have hlm := lim_le hP4
  have hlq := lim_pos P
  have hsg := sgn_le hP4
  refine lv_aload_n hx hb dX12_takePay_0 rfl (lv_at hl 0 rfl) ?_
  refine lv_aload_n hx hb dX12_takePay_1 rfl (lv_at hl 0 rfl) ?_
  refine va_get (D := D) (ci := 12) (v := .ref mk) (C := RX12) (T := TX12) (N := 33) hx hb hg gwX12 hown hK hP 0 rfl rfl 18 (by decide) (hg _ kw_324) (fun _ h9 => h9) rfl dX12_takePay_2 ?_
  refine lv_iload_n hx hb dX12_takePay_5 rfl (lv_at hl 1 rfl) ?_
  refine va_iald hx hb hK hP 1 0 rfl rfl (vp_in_nI (show pk < 8 by omega) (by decide)) dX12_takePay_6 ?_
  refine lv_topi (fun z_6 e_6 => ?_)
  refine va_put (D := D) (ci := 12) (v := .int z_6) (ty := .int) (C := RX12) (T := TX12) (N := 33) hx hb hg gwX12 tyX12 tyX12_ok nmX12 hown hK hP hD hS 0 rfl rfl 20 (by decide) (hg _ kw_325) (fun _ h9 => h9) rfl (by decide +kernel) rfl rfl (Nat.le_of_ble_eq_true rfl) dX12_takePay_7 (fun H locs hP hD hS => ?_)
  have hP : va_P D vwCl [(m0, .inr (12, [.ref mp, .int (nI ms), .int (nI C), .int (nI P), .ref mw, .ref mh, .ref mo, .int (nI sS), .int x_value, .int x_digits, .int (nI rc), .int (nI rp), .int (nI ic), .ref m5, .ref m6, .ref m7, .long x_all, .int (nI mpn), .ref mk, .ref mn, .int z_6, .ref mq, .ref m8, .ref m9, .int x_last, .int x_steps, .int x_isRound, .int x_tablesDone, .ref mz, .int (nI mrs), .ref mb, .ref md, .long x_hash])), (mk, .inl (cs 0, 8, .inl fmk)), (mn, .inl (cs 0, 32, .inl fmn)), (mq, .inl (cs 0, 4, .inl fmq))] H := hP
  have hD : va_D A [(m0, .inr (12, [.ref mp, .int (nI ms), .int (nI C), .int (nI P), .ref mw, .ref mh, .ref mo, .int (nI sS), .int x_value, .int x_digits, .int (nI rc), .int (nI rp), .int (nI ic), .ref m5, .ref m6, .ref m7, .long x_all, .int (nI mpn), .ref mk, .ref mn, .int z_6, .ref mq, .ref m8, .ref m9, .int x_last, .int x_steps, .int x_isRound, .int x_tablesDone, .ref mz, .int (nI mrs), .ref mb, .ref md, .long x_hash])), (mk, .inl (cs 0, 8, .inl fmk)), (mn, .inl (cs 0, 32, .inl fmn)), (mq, .inl (cs 0, 4, .inl fmq))] := hD
  refine lv_iconst (v := 0) hx hb dX12_takePay_10 (by decide) ?_
  refine lv_istore_n (lv' := [(2, .int 0), (0, .ref m0), (1, .int (nI pk))]) hx hb dX12_takePay_11 rfl hl (by decide) rfl (fun ls hl => ?_)
  have LOOP12 : ∀ (n12 : Nat) (k : Nat) (fmq_12 : Nat → Int32), k ≤ 4 → 4 - k < n12 → ∀ (H : Heap) (locs : List Loc) (ls : Array Slot), va_P D vwCl [(m0, .inr (12, [.ref mp, .int (nI ms), .int (nI C), .int (nI P), .ref mw, .ref mh, .ref mo, .int (nI sS), .int x_value, .int x_digits, .int (nI rc), .int (nI rp), .int (nI ic), .ref m5, .ref m6, .ref m7, .long x_all, .int (nI mpn), .ref mk, .ref mn, .int z_6, .ref mq, .ref m8, .ref m9, .int x_last, .int x_steps, .int x_isRound, .int x_tablesDone, .ref mz, .int (nI mrs), .ref mb, .ref md, .long x_hash])), (mk, .inl (cs 0, 8, .inl fmk)), (mn, .inl (cs 0, 32, .inl fmn)), (mq, .inl (cs 0, 4, .inl fmq_12))] H → va_D A [(m0, .inr (12, [.ref mp, .int (nI ms), .int (nI C), .int (nI P), .ref mw, .ref mh, .ref mo, .int (nI sS), .int x_value, .int x_digits, .int (nI rc), .int (nI rp), .int (nI ic), .ref m5, .ref m6, .ref m7, .long x_all, .int (nI mpn), .ref mk, .ref mn, .int z_6, .ref mq, .ref m8, .ref m9, .int x_last, .int x_steps, .int x_isRound, .int x_tablesDone, .ref mz, .int (nI mrs), .ref mb, .ref md, .long x_hash])), (mk, .inl (cs 0, 8, .inl fmk)), (mn, .inl (cs 0, 32, .inl fmn)), (mq, .inl (cs 0, 4, .inl fmq_12))] → va_S A s.heap H locs → lv_has ls 3 [(0, .ref m0), (1, .int (nI pk)), (2, .int (nI k))] → W p l e ({ frames := 0, cells := 0, slots := 0, locals := 0 } : Room) s m args below meth c H locs 0 0 Q (F0 m 12 ls []) := by
    intro n12
    induction n12 with
    | zero =>
      intro k fmq_12 hk hn12 H locs ls hP hD hS hl
      exact absurd hn12 (Nat.not_lt_zero _)
    | succ n12 ih12 =>
      intro k fmq_12 hk hn12 H locs ls hP hD hS hl
      refine lv_iload_n hx hb dX12_takePay_12 rfl (lv_at hl 2 rfl) ?_
      refine lv_iconst (v := 4) hx hb dX12_takePay_13 (by decide) ?_
      refine lv_icmp_ge (tgt := 39) hx hb dX12_takePay_14 (by decide) (fun c_14 => ?_) (fun c_14 => ?_)
      · have n_14 : 4 ≤ k := b_le_t (by omega) (by omega) c_14
        refine W_sQ hQ ?_
        refine W.widen (k := 0) (n := 0) (Nat.le_of_ble_eq_true rfl) (Nat.le_of_ble_eq_true rfl) ?_
        have hP9 := hP.sub (ws' := [(m0, .inr (12, [.ref mp, .int (nI ms), .int (nI C), .int (nI P), .ref mw, .ref mh, .ref mo, .int (nI sS), .int x_value, .int x_digits, .int (nI rc), .int (nI rp), .int (nI ic), .ref m5, .ref m6, .ref m7, .long x_all, .int (nI mpn), .ref mk, .ref mn, .int z_6, .ref mq, .ref m8, .ref m9, .int x_last, .int x_steps, .int x_isRound, .int x_tablesDone, .ref mz, .int (nI mrs), .ref mb, .ref md, .long x_hash])), (mk, .inl (cs 0, 8, .inl fmk)), (mn, .inl (cs 0, 32, .inl fmn)), (mq, .inl (cs 0, 4, .inl fmq_12))]) [0, 1, 2, 3] rfl
        have hD9 := hD.sub (ws' := [(m0, .inr (12, [.ref mp, .int (nI ms), .int (nI C), .int (nI P), .ref mw, .ref mh, .ref mo, .int (nI sS), .int x_value, .int x_digits, .int (nI rc), .int (nI rp), .int (nI ic), .ref m5, .ref m6, .ref m7, .long x_all, .int (nI mpn), .ref mk, .ref mn, .int z_6, .ref mq, .ref m8, .ref m9, .int x_last, .int x_steps, .int x_isRound, .int x_tablesDone, .ref mz, .int (nI mrs), .ref mb, .ref md, .long x_hash])), (mk, .inl (cs 0, 8, .inl fmk)), (mn, .inl (cs 0, 32, .inl fmn)), (mq, .inl (cs 0, 4, .inl fmq_12))]) [0, 1, 2, 3] (by decide) rfl
        exact W.vret hx hb hr (fun t ht hW => ⟨⟨(), rfl, trivial, ⟨z_6, fmq_12, by rw [ht]; exact hP9, hD9⟩⟩, hS.F ht⟩) hS.2.2 dX12_takePay_39
      · have n_14 : k < 4 := b_le_f (by omega) (by omega) c_14
        refine lv_aload_n hx hb dX12_takePay_17 rfl (lv_at hl 0 rfl) ?_
        refine va_get (D := D) (ci := 12) (v := .ref mq) (C := RX12) (T := TX12) (N := 33) hx hb hg gwX12 hown hK hP 0 rfl rfl 21 (by decide) (hg _ kw_326) (fun _ h9 => h9) rfl dX12_takePay_18 ?_
        refine lv_iload_n hx hb dX12_takePay_21 rfl (lv_at hl 2 rfl) ?_
        refine lv_aload_n hx hb dX12_takePay_22 rfl (lv_at hl 0 rfl) ?_
        refine va_get (D := D) (ci := 12) (v := .ref mn) (C := RX12) (T := TX12) (N := 33) hx hb hg gwX12 hown hK hP 0 rfl rfl 19 (by decide) (hg _ kw_327) (fun _ h9 => h9) rfl dX12_takePay_23 ?_
        refine lv_iconst (v := 4) hx hb dX12_takePay_26 (by decide) ?_
        refine lv_iload_n hx hb dX12_takePay_27 rfl (lv_at hl 1 rfl) ?_
        refine lv_imul hx hb dX12_takePay_28 ?_
        refine lv_topi (fun z_28 e_28 => ?_)
        obtain rfl : z_28 = nI (4 * pk) := e_28.trans (pk_mul _ _)
        refine lv_iload_n hx hb dX12_takePay_29 rfl (lv_at hl 2 rfl) ?_
        refine lv_iadd hx hb dX12_takePay_30 ?_
        refine lv_topi (fun z_30 e_30 => ?_)
        obtain rfl : z_30 = nI (4 * pk + k) := e_30.trans (nI_add _ _)
        refine va_iald hx hb hK hP 2 0 rfl rfl (vp_in_nI (show 4 * pk + k < 32 by omega) (by decide)) dX12_takePay_31 ?_
        refine lv_topi (fun z_31 e_31 => ?_)
        refine va_iast hx hb hK hP hD hS 3 0 rfl rfl (vp_in_nI (show k < 4 by omega) (by decide)) dX12_takePay_32 (fun H locs hP hD hS => ?_)
        obtain ⟨f_32, hf_32⟩ : ∃ f9, f9 = (upd fmq_12 (nI k).toNatClampNeg z_31) := ⟨_, rfl⟩
        rw [← hf_32] at hP hD
        have hP : va_P D vwCl [(m0, .inr (12, [.ref mp, .int (nI ms), .int (nI C), .int (nI P), .ref mw, .ref mh, .ref mo, .int (nI sS), .int x_value, .int x_digits, .int (nI rc), .int (nI rp), .int (nI ic), .ref m5, .ref m6, .ref m7, .long x_all, .int (nI mpn), .ref mk, .ref mn, .int z_6, .ref mq, .ref m8, .ref m9, .int x_last, .int x_steps, .int x_isRound, .int x_tablesDone, .ref mz, .int (nI mrs), .ref mb, .ref md, .long x_hash])), (mk, .inl (cs 0, 8, .inl fmk)), (mn, .inl (cs 0, 32, .inl fmn)), (mq, .inl (cs 0, 4, .inl f_32))] H := hP
        have hD : va_D A [(m0, .inr (12, [.ref mp, .int (nI ms), .int (nI C), .int (nI P), .ref mw, .ref mh, .ref mo, .int (nI sS), .int x_value, .int x_digits, .int (nI rc), .int (nI rp), .int (nI ic), .ref m5, .ref m6, .ref m7, .long x_all, .int (nI mpn), .ref mk, .ref mn, .int z_6, .ref mq, .ref m8, .ref m9, .int x_last, .int x_steps, .int x_isRound, .int x_tablesDone, .ref mz, .int (nI mrs), .ref mb, .ref md, .long x_hash])), (mk, .inl (cs 0, 8, .inl fmk)), (mn, .inl (cs 0, 32, .inl fmn)), (mq, .inl (cs 0, 4, .inl f_32))] := hD
        refine lv_iinc (v := (nI (k + 1))) (lv' := [(2, .int (nI (k + 1))), (0, .ref m0), (1, .int (nI pk))]) hx hb dX12_takePay_33 hl (k := 2) rfl (nI_add k 1) (by decide) rfl (fun ls hl => ?_)
        refine lv_goto (tgt := 12) hx hb dX12_takePay_36 (by decide) ?_
        exact ih12 (k + 1) f_32 (by omega) (by omega) _ _ ls hP hD hS (lv_sub hl [1, 2, 0] rfl)
  exact LOOP12 (4 - 0 + 1) 0 fmq (by omega) (Nat.lt_succ_self _) _ _ ls hP hD hS (lv_sub hl [1, 2, 0] rfl)

theorem dX12_getsOf_0 : decode cX12_getsOf 0 = .ok (.iload_n 2, 1) := by decide +kernel
theorem dX12_getsOf_1 : decode cX12_getsOf 1 = .ok (.iload_n 1, 1) := by decide +kernel
theorem dX12_getsOf_2 : decode cX12_getsOf 2 = .ok (.ishr, 1) := by decide +kernel
theorem dX12_getsOf_3 : decode cX12_getsOf 3 = .ok (.iconst 1, 1) := by decide +kernel
theorem dX12_getsOf_4 : decode cX12_getsOf 4 = .ok (.iand, 1) := by decide +kernel
theorem dX12_getsOf_5 : decode cX12_getsOf 5 = .ok (.istore_n 3, 1) := by decide +kernel
theorem dX12_getsOf_6 : decode cX12_getsOf 6 = .ok (.iload_n 2, 1) := by decide +kernel
theorem dX12_getsOf_7 : decode cX12_getsOf 7 = .ok (.invokestatic 150, 3) := by decide +kernel
theorem dX12_getsOf_10 : decode cX12_getsOf 10 = .ok (.istore 4, 2) := by decide +kernel
theorem dX12_getsOf_12 : decode cX12_getsOf 12 = .ok (.iload_n 3, 1) := by decide +kernel
theorem dX12_getsOf_13 : decode cX12_getsOf 13 = .ok (.iconst 1, 1) := by decide +kernel
theorem dX12_getsOf_14 : decode cX12_getsOf 14 = .ok (.if_icmp .ne 8, 3) := by decide +kernel
theorem dX12_getsOf_17 : decode cX12_getsOf 17 = .ok (.iload 4, 2) := by decide +kernel
theorem dX12_getsOf_19 : decode cX12_getsOf 19 = .ok (.goto 10, 3) := by decide +kernel
theorem dX12_getsOf_22 : decode cX12_getsOf 22 = .ok (.aload_n 0, 1) := by decide +kernel
theorem dX12_getsOf_23 : decode cX12_getsOf 23 = .ok (.getfield 57, 3) := by decide +kernel
theorem dX12_getsOf_26 : decode cX12_getsOf 26 = .ok (.iload 4, 2) := by decide +kernel
theorem dX12_getsOf_28 : decode cX12_getsOf 28 = .ok (.isub, 1) := by decide +kernel
theorem dX12_getsOf_29 : decode cX12_getsOf 29 = .ok (.istore 5, 2) := by decide +kernel
theorem dX12_getsOf_31 : decode cX12_getsOf 31 = .ok (.aload_n 0, 1) := by decide +kernel
theorem dX12_getsOf_32 : decode cX12_getsOf 32 = .ok (.getfield 57, 3) := by decide +kernel
theorem dX12_getsOf_35 : decode cX12_getsOf 35 = .ok (.iload 5, 2) := by decide +kernel
theorem dX12_getsOf_37 : decode cX12_getsOf 37 = .ok (.isub, 1) := by decide +kernel
theorem dX12_getsOf_38 : decode cX12_getsOf 38 = .ok (.istore 6, 2) := by decide +kernel
theorem dX12_getsOf_40 : decode cX12_getsOf 40 = .ok (.aload_n 0, 1) := by decide +kernel
theorem dX12_getsOf_41 : decode cX12_getsOf 41 = .ok (.getfield 147, 3) := by decide +kernel
theorem dX12_getsOf_44 : decode cX12_getsOf 44 = .ok (.ifCond .ne 10, 3) := by decide +kernel
theorem dX12_getsOf_47 : decode cX12_getsOf 47 = .ok (.aload_n 0, 1) := by decide +kernel
theorem dX12_getsOf_48 : decode cX12_getsOf 48 = .ok (.getfield 38, 3) := by decide +kernel
theorem dX12_getsOf_51 : decode cX12_getsOf 51 = .ok (.iconst 0, 1) := by decide +kernel
theorem dX12_getsOf_52 : decode cX12_getsOf 52 = .ok (.iaload, 1) := by decide +kernel
theorem dX12_getsOf_53 : decode cX12_getsOf 53 = .ok (.ireturn, 1) := by decide +kernel
theorem dX12_getsOf_54 : decode cX12_getsOf 54 = .ok (.aload_n 0, 1) := by decide +kernel
theorem dX12_getsOf_55 : decode cX12_getsOf 55 = .ok (.getfield 147, 3) := by decide +kernel
theorem dX12_getsOf_58 : decode cX12_getsOf 58 = .ok (.iconst 1, 1) := by decide +kernel
theorem dX12_getsOf_59 : decode cX12_getsOf 59 = .ok (.if_icmp .eq 11, 3) := by decide +kernel
theorem dX12_getsOf_62 : decode cX12_getsOf 62 = .ok (.aload_n 0, 1) := by decide +kernel
theorem dX12_getsOf_63 : decode cX12_getsOf 63 = .ok (.getfield 147, 3) := by decide +kernel
theorem dX12_getsOf_66 : decode cX12_getsOf 66 = .ok (.iconst 4, 1) := by decide +kernel
theorem dX12_getsOf_67 : decode cX12_getsOf 67 = .ok (.if_icmp .ne 15, 3) := by decide +kernel
theorem dX12_getsOf_70 : decode cX12_getsOf 70 = .ok (.aload_n 0, 1) := by decide +kernel
theorem dX12_getsOf_71 : decode cX12_getsOf 71 = .ok (.getfield 38, 3) := by decide +kernel
theorem dX12_getsOf_74 : decode cX12_getsOf 74 = .ok (.iconst 0, 1) := by decide +kernel
theorem dX12_getsOf_75 : decode cX12_getsOf 75 = .ok (.iaload, 1) := by decide +kernel
theorem dX12_getsOf_76 : decode cX12_getsOf 76 = .ok (.iload 5, 2) := by decide +kernel
theorem dX12_getsOf_78 : decode cX12_getsOf 78 = .ok (.iconst 1, 1) := by decide +kernel
theorem dX12_getsOf_79 : decode cX12_getsOf 79 = .ok (.isub, 1) := by decide +kernel
theorem dX12_getsOf_80 : decode cX12_getsOf 80 = .ok (.imul, 1) := by decide +kernel
theorem dX12_getsOf_81 : decode cX12_getsOf 81 = .ok (.ireturn, 1) := by decide +kernel
theorem dX12_getsOf_82 : decode cX12_getsOf 82 = .ok (.aload_n 0, 1) := by decide +kernel
theorem dX12_getsOf_83 : decode cX12_getsOf 83 = .ok (.getfield 38, 3) := by decide +kernel
theorem dX12_getsOf_86 : decode cX12_getsOf 86 = .ok (.iconst 2, 1) := by decide +kernel
theorem dX12_getsOf_87 : decode cX12_getsOf 87 = .ok (.iload_n 3, 1) := by decide +kernel
theorem dX12_getsOf_88 : decode cX12_getsOf 88 = .ok (.imul, 1) := by decide +kernel
theorem dX12_getsOf_89 : decode cX12_getsOf 89 = .ok (.iload_n 3, 1) := by decide +kernel
theorem dX12_getsOf_90 : decode cX12_getsOf 90 = .ok (.iadd, 1) := by decide +kernel
theorem dX12_getsOf_91 : decode cX12_getsOf 91 = .ok (.iaload, 1) := by decide +kernel
theorem dX12_getsOf_92 : decode cX12_getsOf 92 = .ok (.iload 5, 2) := by decide +kernel
theorem dX12_getsOf_94 : decode cX12_getsOf 94 = .ok (.iconst 1, 1) := by decide +kernel
theorem dX12_getsOf_95 : decode cX12_getsOf 95 = .ok (.isub, 1) := by decide +kernel
theorem dX12_getsOf_96 : decode cX12_getsOf 96 = .ok (.imul, 1) := by decide +kernel
theorem dX12_getsOf_97 : decode cX12_getsOf 97 = .ok (.aload_n 0, 1) := by decide +kernel
theorem dX12_getsOf_98 : decode cX12_getsOf 98 = .ok (.getfield 38, 3) := by decide +kernel
theorem dX12_getsOf_101 : decode cX12_getsOf 101 = .ok (.iconst 2, 1) := by decide +kernel
theorem dX12_getsOf_102 : decode cX12_getsOf 102 = .ok (.iload_n 3, 1) := by decide +kernel
theorem dX12_getsOf_103 : decode cX12_getsOf 103 = .ok (.imul, 1) := by decide +kernel
theorem dX12_getsOf_104 : decode cX12_getsOf 104 = .ok (.iconst 1, 1) := by decide +kernel
theorem dX12_getsOf_105 : decode cX12_getsOf 105 = .ok (.iadd, 1) := by decide +kernel
theorem dX12_getsOf_106 : decode cX12_getsOf 106 = .ok (.iload_n 3, 1) := by decide +kernel
theorem dX12_getsOf_107 : decode cX12_getsOf 107 = .ok (.isub, 1) := by decide +kernel
theorem dX12_getsOf_108 : decode cX12_getsOf 108 = .ok (.iaload, 1) := by decide +kernel
theorem dX12_getsOf_109 : decode cX12_getsOf 109 = .ok (.iload 6, 2) := by decide +kernel
theorem dX12_getsOf_111 : decode cX12_getsOf 111 = .ok (.imul, 1) := by decide +kernel
theorem dX12_getsOf_112 : decode cX12_getsOf 112 = .ok (.iadd, 1) := by decide +kernel
theorem dX12_getsOf_113 : decode cX12_getsOf 113 = .ok (.istore 7, 2) := by decide +kernel
theorem dX12_getsOf_115 : decode cX12_getsOf 115 = .ok (.aload_n 0, 1) := by decide +kernel
theorem dX12_getsOf_116 : decode cX12_getsOf 116 = .ok (.getfield 147, 3) := by decide +kernel
theorem dX12_getsOf_119 : decode cX12_getsOf 119 = .ok (.iconst 3, 1) := by decide +kernel
theorem dX12_getsOf_120 : decode cX12_getsOf 120 = .ok (.if_icmp .ne 30, 3) := by decide +kernel
theorem dX12_getsOf_123 : decode cX12_getsOf 123 = .ok (.iload 6, 2) := by decide +kernel
theorem dX12_getsOf_125 : decode cX12_getsOf 125 = .ok (.iload 5, 2) := by decide +kernel
theorem dX12_getsOf_127 : decode cX12_getsOf 127 = .ok (.if_icmp .le 23, 3) := by decide +kernel
theorem dX12_getsOf_130 : decode cX12_getsOf 130 = .ok (.iload 7, 2) := by decide +kernel
theorem dX12_getsOf_132 : decode cX12_getsOf 132 = .ok (.aload_n 0, 1) := by decide +kernel
theorem dX12_getsOf_133 : decode cX12_getsOf 133 = .ok (.getfield 38, 3) := by decide +kernel
theorem dX12_getsOf_136 : decode cX12_getsOf 136 = .ok (.iconst 2, 1) := by decide +kernel
theorem dX12_getsOf_137 : decode cX12_getsOf 137 = .ok (.iload_n 3, 1) := by decide +kernel
theorem dX12_getsOf_138 : decode cX12_getsOf 138 = .ok (.imul, 1) := by decide +kernel
theorem dX12_getsOf_139 : decode cX12_getsOf 139 = .ok (.iaload, 1) := by decide +kernel
theorem dX12_getsOf_140 : decode cX12_getsOf 140 = .ok (.iload 6, 2) := by decide +kernel
theorem dX12_getsOf_142 : decode cX12_getsOf 142 = .ok (.iload 5, 2) := by decide +kernel
theorem dX12_getsOf_144 : decode cX12_getsOf 144 = .ok (.isub, 1) := by decide +kernel
theorem dX12_getsOf_145 : decode cX12_getsOf 145 = .ok (.imul, 1) := by decide +kernel
theorem dX12_getsOf_146 : decode cX12_getsOf 146 = .ok (.iadd, 1) := by decide +kernel
theorem dX12_getsOf_147 : decode cX12_getsOf 147 = .ok (.goto 5, 3) := by decide +kernel
theorem dX12_getsOf_150 : decode cX12_getsOf 150 = .ok (.iload 7, 2) := by decide +kernel
theorem dX12_getsOf_152 : decode cX12_getsOf 152 = .ok (.ireturn, 1) := by decide +kernel
theorem kw_328 : (.code yX12_bitsOf cX12_bitsOf 1 (some .int) : Cond) ∈ gw_tbl := gw_in (by decide +kernel) (by decide +kernel)
theorem kw_329 : (.methodLink RX12 150 yX12_bitsOf : Cond) ∈ gw_tbl := gw_in (by decide +kernel) (by decide +kernel)
theorem kw_330 : (.static yX12_bitsOf : Cond) ∈ gw_tbl := gw_in (by decide +kernel) (by decide +kernel)

set_option maxHeartbeats 4000000 in
set_option maxRecDepth 100000 in
theorem m_getsOf (l : Launch) (D : va_G) (cs : Nat → ClassId) (m0 : Nat) (mp : Nat) (mw : Nat) (mh : Nat) (mo : Nat) (m5 : Nat) (m6 : Nat) (m7 : Nat) (mk : Nat) (mn : Nat) (mq : Nat) (m8 : Nat) (m9 : Nat) (mz : Nat) (mb : Nat) (md : Nat) (ms : Nat) (C : Nat) (P : Nat) (mpn : Nat) (mrs : Nat) (sS : Nat) (rc : Nat) (rp : Nat) (ic : Nat) (hms : ms ≤ 90) (hC5 : C ≤ 5) (hP4 : P ≤ 4) (hmpn : mpn ≤ 8) (hmrs : mrs ≤ 24) (hsS : sS ≤ 4) (hrc : rc ≤ 5) (hrp : rp ≤ 4) (hic : ic ≤ 4) (x_value : Int32) (x_digits : Int32) (x_all : Int64) (x_kind : Int32) (x_last : Int32) (x_steps : Int32) (x_isRound : Int32) (x_tablesDone : Int32) (x_hash : Int64) (fmq : Nat → Int32) (pe : Nat) (hpe : pe < P) (an : Int32) : Met l yX12_getsOf (Cond.code yX12_getsOf cX12_getsOf 8 (some .int) :: gw_tbl) ({ frames := 1, cells := 0, slots := 0, locals := 20 }) (pc_S D cs [(m0, .inr (12, [.ref mp, .int (nI ms), .int (nI C), .int (nI P), .ref mw, .ref mh, .ref mo, .int (nI sS), .int x_value, .int x_digits, .int (nI rc), .int (nI rp), .int (nI ic), .ref m5, .ref m6, .ref m7, .long x_all, .int (nI mpn), .ref mk, .ref mn, .int x_kind, .ref mq, .ref m8, .ref m9, .int x_last, .int x_steps, .int x_isRound, .int x_tablesDone, .ref mz, .int (nI mrs), .ref mb, .ref md, .long x_hash])), (mq, .inl (cs 0, 4, .inl fmq))] [.ref m0, .int (nI pe), .int an]) (vp_Si (fun r => True)) 0 0 (fun _ => False) := by
  refine Met.ofW (cc := cX12_getsOf) (maxL := 8) (ret := (some .int)) (by decide) rfl ?_
  intro p e s m args below meth c s₁ B hml hv
  obtain ⟨hargs, hP, hK⟩ := hv
  have hx := B.exec
  have hb := B.bytes
  have hr := B.returns
  have hts := atoms_spec (ws := Cond.code yX12_getsOf cX12_getsOf 8 (some .int) :: gw_tbl) B.pre
  have hg := fun (w : Cond) (h : w ∈ gw_tbl) => hts w (List.mem_cons_of_mem _ h)
  have hown : s.vm.findClass RX12 = some m.cls := findClass_of_methodNamed B.named
  have hlocks := B.notSynchronized
  have hl := lv_entry ([.ref m0, .int (nI pe), .int an]) (n := 8) (Nat.le_of_ble_eq_true rfl)
  rw [show entryFrame m args 8 = F0 m 0 (lg_sl ([.ref m0, .int (nI pe), .int an]) ++ List.replicate (8 - (lg_sl ([.ref m0, .int (nI pe), .int an])).length) Slot.unset).toArray [] from by rw [hargs]; exact lg_entry_eq ..]
  generalize (lg_sl ([.ref m0, .int (nI pe), .int an]) ++ List.replicate (8 - (lg_sl ([.ref m0, .int (nI pe), .int an])).length) Slot.unset).toArray = ls at hl ⊢
  have hl : lv_has ls 8 [(0, .ref m0), (1, .int (nI pe)), (2, .int an)] := hl
  refine W_genQ (fun Q hQ => ?_)
  have hlm := lim_le hP4
  have hlq := lim_pos P
  have hsg := sgn_le hP4
  refine lv_iload_n hx hb dX12_getsOf_0 rfl (lv_at hl 2 rfl) ?_
  refine lv_iload_n hx hb dX12_getsOf_1 rfl (lv_at hl 1 rfl) ?_
  refine lv_ishr hx hb dX12_getsOf_2 ?_
  refine lv_topi (fun z_2 e_2 => ?_)
  refine lv_iconst (v := 1) hx hb dX12_getsOf_3 (by decide) ?_
  refine lv_iand hx hb dX12_getsOf_4 ?_
  refine lv_topi (fun z_4 e_4 => ?_)
  obtain ⟨j_4, hj_4, ee_4⟩ := pk_andE z_2 (m := 1) 1 rfl
  obtain rfl : z_4 = nI j_4 := e_4.trans ee_4
  have hj_4 : j_4 < 2 := hj_4
  refine lv_istore_n (lv' := [(3, .int (nI j_4)), (0, .ref m0), (1, .int (nI pe)), (2, .int an)]) hx hb dX12_getsOf_5 rfl hl (by decide) rfl (fun ls hl => ?_)
  refine lv_iload_n hx hb dX12_getsOf_6 rfl (lv_at hl 3 rfl) ?_
  refine vp_callSi (W.runS (As := [.int an]) (rest := []) ⟨hx, hb, hml, hown, hg⟩ (m_bitsOf l an) (va_cwS 1 hg (gw_S kw_329 kw_330 kw_319 kw_328) rfl rfl rfl (by decide +kernel) ⟨(Nat.le_of_ble_eq_true rfl), (Nat.le_of_ble_eq_true rfl)⟩) pr_0 rfl rfl hl.1 rfl (lv_room (Nat.le_of_ble_eq_true rfl)) dX12_getsOf_7 ⟨(Nat.le_of_ble_eq_true rfl), (Nat.le_of_ble_eq_true rfl)⟩) (fun r_7 h_7 => ?_)
  clear h_7
  refine lv_istore (lv' := [(4, .int r_7), (3, .int (nI j_4)), (0, .ref m0), (1, .int (nI pe)), (2, .int an)]) hx hb dX12_getsOf_10 hl (by decide) rfl (fun ls hl => ?_)
  refine lv_iload_n hx hb dX12_getsOf_12 rfl (lv_at hl 1 rfl) ?_
  refine lv_iconst (v := 1) hx hb dX12_getsOf_13 (by decide) ?_
  refine lv_icmp_ne (tgt := 22) hx hb dX12_getsOf_14 (by decide) (fun c_14 => ?_) (fun c_14 => ?_)
  · have n_14 : ¬ j_4 = 1 := b_eq_f (by omega) (by omega) c_14
    refine lv_aload_n hx hb dX12_getsOf_22 rfl (lv_at hl 2 rfl) ?_
    refine va_get (D := D) (ci := 12) (v := .int (nI P)) (C := RX12) (T := TX12) (N := 33) hx hb hg gwX12 hown hK hP 0 rfl rfl 3 (by decide) (hg _ kw_315) (fun _ h9 => h9) rfl dX12_getsOf_23 ?_
    refine lv_iload hx hb dX12_getsOf_26 (lv_at hl 0 rfl) ?_
    refine lv_isub hx hb dX12_getsOf_28 ?_
    refine lv_topi (fun z_28 e_28 => ?_)
    refine lv_istore (lv' := [(5, .int z_28), (4, .int r_7), (3, .int (nI j_4)), (0, .ref m0), (1, .int (nI pe)), (2, .int an)]) hx hb dX12_getsOf_29 hl (by decide) rfl (fun ls hl => ?_)
    refine lv_aload_n hx hb dX12_getsOf_31 rfl (lv_at hl 3 rfl) ?_
    refine va_get (D := D) (ci := 12) (v := .int (nI P)) (C := RX12) (T := TX12) (N := 33) hx hb hg gwX12 hown hK hP 0 rfl rfl 3 (by decide) (hg _ kw_315) (fun _ h9 => h9) rfl dX12_getsOf_32 ?_
    refine lv_iload hx hb dX12_getsOf_35 (lv_at hl 0 rfl) ?_
    refine lv_isub hx hb dX12_getsOf_37 ?_
    refine lv_topi (fun z_37 e_37 => ?_)
    refine lv_istore (lv' := [(6, .int z_37), (5, .int z_28), (4, .int r_7), (3, .int (nI j_4)), (0, .ref m0), (1, .int (nI pe)), (2, .int an)]) hx hb dX12_getsOf_38 hl (by decide) rfl (fun ls hl => ?_)
    refine lv_aload_n hx hb dX12_getsOf_40 rfl (lv_at hl 4 rfl) ?_
    refine va_get (D := D) (ci := 12) (v := .int x_kind) (C := RX12) (T := TX12) (N := 33) hx hb hg gwX12 hown hK hP 0 rfl rfl 20 (by decide) (hg _ kw_325) (fun _ h9 => h9) rfl dX12_getsOf_41 ?_
    refine lv_if_ne (tgt := 54) hx hb dX12_getsOf_44 (by decide) (fun c_44 => ?_) (fun c_44 => ?_)
    · refine lv_aload_n hx hb dX12_getsOf_54 rfl (lv_at hl 4 rfl) ?_
      refine va_get (D := D) (ci := 12) (v := .int x_kind) (C := RX12) (T := TX12) (N := 33) hx hb hg gwX12 hown hK hP 0 rfl rfl 20 (by decide) (hg _ kw_325) (fun _ h9 => h9) rfl dX12_getsOf_55 ?_
      refine lv_iconst (v := 1) hx hb dX12_getsOf_58 (by decide) ?_
      refine lv_icmp_eq (tgt := 70) hx hb dX12_getsOf_59 (by decide) (fun c_59 => ?_) (fun c_59 => ?_)
      · refine lv_aload_n hx hb dX12_getsOf_70 rfl (lv_at hl 4 rfl) ?_
        refine va_get (D := D) (ci := 12) (v := .ref mq) (C := RX12) (T := TX12) (N := 33) hx hb hg gwX12 hown hK hP 0 rfl rfl 21 (by decide) (hg _ kw_326) (fun _ h9 => h9) rfl dX12_getsOf_71 ?_
        refine lv_iconst (v := 0) hx hb dX12_getsOf_74 (by decide) ?_
        refine va_iald hx hb hK hP 1 0 rfl rfl (show ¬ ((0 : Int32) < 0 ∨ 4 ≤ (0 : Int32).toNatClampNeg) by decide) dX12_getsOf_75 ?_
        refine lv_topi (fun z_75 e_75 => ?_)
        refine lv_iload hx hb dX12_getsOf_76 (lv_at hl 1 rfl) ?_
        refine lv_iconst (v := 1) hx hb dX12_getsOf_78 (by decide) ?_
        refine lv_isub hx hb dX12_getsOf_79 ?_
        refine lv_topi (fun z_79 e_79 => ?_)
        refine lv_imul hx hb dX12_getsOf_80 ?_
        refine lv_topi (fun z_80 e_80 => ?_)
        refine W_sQ hQ ?_
        exact W.iret (v := z_80) hx hb hr (fun t ht hW => ⟨z_80, rfl, trivial, ht⟩) (fun _ h => absurd h List.not_mem_nil) dX12_getsOf_81
      · refine lv_aload_n hx hb dX12_getsOf_62 rfl (lv_at hl 4 rfl) ?_
        refine va_get (D := D) (ci := 12) (v := .int x_kind) (C := RX12) (T := TX12) (N := 33) hx hb hg gwX12 hown hK hP 0 rfl rfl 20 (by decide) (hg _ kw_325) (fun _ h9 => h9) rfl dX12_getsOf_63 ?_
        refine lv_iconst (v := 4) hx hb dX12_getsOf_66 (by decide) ?_
        refine lv_icmp_ne (tgt := 82) hx hb dX12_getsOf_67 (by decide) (fun c_67 => ?_) (fun c_67 => ?_)
        · refine lv_aload_n hx hb dX12_getsOf_82 rfl (lv_at hl 4 rfl) ?_
          refine va_get (D := D) (ci := 12) (v := .ref mq) (C := RX12) (T := TX12) (N := 33) hx hb hg gwX12 hown hK hP 0 rfl rfl 21 (by decide) (hg _ kw_326) (fun _ h9 => h9) rfl dX12_getsOf_83 ?_
          refine lv_iconst (v := 2) hx hb dX12_getsOf_86 (by decide) ?_
          refine lv_iload_n hx hb dX12_getsOf_87 rfl (lv_at hl 3 rfl) ?_
          refine lv_imul hx hb dX12_getsOf_88 ?_
          refine lv_topi (fun z_88 e_88 => ?_)
          obtain rfl : z_88 = nI (2 * j_4) := e_88.trans (pk_mul _ _)
          refine lv_iload_n hx hb dX12_getsOf_89 rfl (lv_at hl 3 rfl) ?_
          refine lv_iadd hx hb dX12_getsOf_90 ?_
          refine lv_topi (fun z_90 e_90 => ?_)
          obtain rfl : z_90 = nI (2 * j_4 + j_4) := e_90.trans (nI_add _ _)
          refine va_iald hx hb hK hP 1 0 rfl rfl (vp_in_nI (show 2 * j_4 + j_4 < 4 by omega) (by decide)) dX12_getsOf_91 ?_
          refine lv_topi (fun z_91 e_91 => ?_)
          refine lv_iload hx hb dX12_getsOf_92 (lv_at hl 1 rfl) ?_
          refine lv_iconst (v := 1) hx hb dX12_getsOf_94 (by decide) ?_
          refine lv_isub hx hb dX12_getsOf_95 ?_
          refine lv_topi (fun z_95 e_95 => ?_)
          refine lv_imul hx hb dX12_getsOf_96 ?_
          refine lv_topi (fun z_96 e_96 => ?_)
          refine lv_aload_n hx hb dX12_getsOf_97 rfl (lv_at hl 4 rfl) ?_
          refine va_get (D := D) (ci := 12) (v := .ref mq) (C := RX12) (T := TX12) (N := 33) hx hb hg gwX12 hown hK hP 0 rfl rfl 21 (by decide) (hg _ kw_326) (fun _ h9 => h9) rfl dX12_getsOf_98 ?_
          refine lv_iconst (v := 2) hx hb dX12_getsOf_101 (by decide) ?_
          refine lv_iload_n hx hb dX12_getsOf_102 rfl (lv_at hl 3 rfl) ?_
          refine lv_imul hx hb dX12_getsOf_103 ?_
          refine lv_topi (fun z_103 e_103 => ?_)
          obtain rfl : z_103 = nI (2 * j_4) := e_103.trans (pk_mul _ _)
          refine lv_iconst (v := 1) hx hb dX12_getsOf_104 (by decide) ?_
          refine lv_iadd hx hb dX12_getsOf_105 ?_
          refine lv_topi (fun z_105 e_105 => ?_)
          obtain rfl : z_105 = nI (2 * j_4 + 1) := e_105.trans (nI_add _ _)
          refine lv_iload_n hx hb dX12_getsOf_106 rfl (lv_at hl 3 rfl) ?_
          refine lv_isub hx hb dX12_getsOf_107 ?_
          refine lv_topi (fun z_107 e_107 => ?_)
          obtain rfl : z_107 = nI (2 * j_4 + 1 - j_4) := e_107.trans (pk_sub (by omega))
          refine va_iald hx hb hK hP 1 0 rfl rfl (vp_in_nI (show 2 * j_4 + 1 - j_4 < 4 by omega) (by decide)) dX12_getsOf_108 ?_
          refine lv_topi (fun z_108 e_108 => ?_)
          refine lv_iload hx hb dX12_getsOf_109 (lv_at hl 0 rfl) ?_
          refine lv_imul hx hb dX12_getsOf_111 ?_
          refine lv_topi (fun z_111 e_111 => ?_)
          refine lv_iadd hx hb dX12_getsOf_112 ?_
          refine lv_topi (fun z_112 e_112 => ?_)
          refine lv_istore (lv' := [(7, .int z_112), (6, .int z_37), (5, .int z_28), (4, .int r_7), (3, .int (nI j_4)), (0, .ref m0), (1, .int (nI pe)), (2, .int an)]) hx hb dX12_getsOf_113 hl (by decide) rfl (fun ls hl => ?_)
          refine lv_aload_n hx hb dX12_getsOf_115 rfl (lv_at hl 5 rfl) ?_
          refine va_get (D := D) (ci := 12) (v := .int x_kind) (C := RX12) (T := TX12) (N := 33) hx hb hg gwX12 hown hK hP 0 rfl rfl 20 (by decide) (hg _ kw_325) (fun _ h9 => h9) rfl dX12_getsOf_116 ?_
          refine lv_iconst (v := 3) hx hb dX12_getsOf_119 (by decide) ?_
          refine lv_icmp_ne (tgt := 150) hx hb dX12_getsOf_120 (by decide) (fun c_120 => ?_) (fun c_120 => ?_)
          · refine lv_iload hx hb dX12_getsOf_150 (lv_at hl 0 rfl) ?_
            refine W_sQ hQ ?_
            exact W.iret (v := z_112) hx hb hr (fun t ht hW => ⟨z_112, rfl, trivial, ht⟩) (fun _ h => absurd h List.not_mem_nil) dX12_getsOf_152
          · refine lv_iload hx hb dX12_getsOf_123 (lv_at hl 1 rfl) ?_
            refine lv_iload hx hb dX12_getsOf_125 (lv_at hl 2 rfl) ?_
            refine lv_icmp_le (tgt := 150) hx hb dX12_getsOf_127 (by decide) (fun c_127 => ?_) (fun c_127 => ?_)
            · refine lv_iload hx hb dX12_getsOf_150 (lv_at hl 0 rfl) ?_
              refine W_sQ hQ ?_
              exact W.iret (v := z_112) hx hb hr (fun t ht hW => ⟨z_112, rfl, trivial, ht⟩) (fun _ h => absurd h List.not_mem_nil) dX12_getsOf_152
            · refine lv_iload hx hb dX12_getsOf_130 (lv_at hl 0 rfl) ?_
              refine lv_aload_n hx hb dX12_getsOf_132 rfl (lv_at hl 5 rfl) ?_
              refine va_get (D := D) (ci := 12) (v := .ref mq) (C := RX12) (T := TX12) (N := 33) hx hb hg gwX12 hown hK hP 0 rfl rfl 21 (by decide) (hg _ kw_326) (fun _ h9 => h9) rfl dX12_getsOf_133 ?_
              refine lv_iconst (v := 2) hx hb dX12_getsOf_136 (by decide) ?_
              refine lv_iload_n hx hb dX12_getsOf_137 rfl (lv_at hl 4 rfl) ?_
              refine lv_imul hx hb dX12_getsOf_138 ?_
              refine lv_topi (fun z_138 e_138 => ?_)
              obtain rfl : z_138 = nI (2 * j_4) := e_138.trans (pk_mul _ _)
              refine va_iald hx hb hK hP 1 0 rfl rfl (vp_in_nI (show 2 * j_4 < 4 by omega) (by decide)) dX12_getsOf_139 ?_
              refine lv_topi (fun z_139 e_139 => ?_)
              refine lv_iload hx hb dX12_getsOf_140 (lv_at hl 1 rfl) ?_
              refine lv_iload hx hb dX12_getsOf_142 (lv_at hl 2 rfl) ?_
              refine lv_isub hx hb dX12_getsOf_144 ?_
              refine lv_topi (fun z_144 e_144 => ?_)
              refine lv_imul hx hb dX12_getsOf_145 ?_
              refine lv_topi (fun z_145 e_145 => ?_)
              refine lv_iadd hx hb dX12_getsOf_146 ?_
              refine lv_topi (fun z_146 e_146 => ?_)
              refine lv_goto (tgt := 152) hx hb dX12_getsOf_147 (by decide) ?_
              refine W_sQ hQ ?_
              exact W.iret (v := z_146) hx hb hr (fun t ht hW => ⟨z_146, rfl, trivial, ht⟩) (fun _ h => absurd h List.not_mem_nil) dX12_getsOf_152
        · refine lv_aload_n hx hb dX12_getsOf_70 rfl (lv_at hl 4 rfl) ?_
          refine va_get (D := D) (ci := 12) (v := .ref mq) (C := RX12) (T := TX12) (N := 33) hx hb hg gwX12 hown hK hP 0 rfl rfl 21 (by decide) (hg _ kw_326) (fun _ h9 => h9) rfl dX12_getsOf_71 ?_
          refine lv_iconst (v := 0) hx hb dX12_getsOf_74 (by decide) ?_
          refine va_iald hx hb hK hP 1 0 rfl rfl (show ¬ ((0 : Int32) < 0 ∨ 4 ≤ (0 : Int32).toNatClampNeg) by decide) dX12_getsOf_75 ?_
          refine lv_topi (fun z_75 e_75 => ?_)
          refine lv_iload hx hb dX12_getsOf_76 (lv_at hl 1 rfl) ?_
          refine lv_iconst (v := 1) hx hb dX12_getsOf_78 (by decide) ?_
          refine lv_isub hx hb dX12_getsOf_79 ?_
          refine lv_topi (fun z_79 e_79 => ?_)
          refine lv_imul hx hb dX12_getsOf_80 ?_
          refine lv_topi (fun z_80 e_80 => ?_)
          refine W_sQ hQ ?_
          exact W.iret (v := z_80) hx hb hr (fun t ht hW => ⟨z_80, rfl, trivial, ht⟩) (fun _ h => absurd h List.not_mem_nil) dX12_getsOf_81
    · refine lv_aload_n hx hb dX12_getsOf_47 rfl (lv_at hl 4 rfl) ?_
      refine va_get (D := D) (ci := 12) (v := .ref mq) (C := RX12) (T := TX12) (N := 33) hx hb hg gwX12 hown hK hP 0 rfl rfl 21 (by decide) (hg _ kw_326) (fun _ h9 => h9) rfl dX12_getsOf_48 ?_
      refine lv_iconst (v := 0) hx hb dX12_getsOf_51 (by decide) ?_
      refine va_iald hx hb hK hP 1 0 rfl rfl (show ¬ ((0 : Int32) < 0 ∨ 4 ≤ (0 : Int32).toNatClampNeg) by decide) dX12_getsOf_52 ?_
      refine lv_topi (fun z_52 e_52 => ?_)
      refine W_sQ hQ ?_
      exact W.iret (v := z_52) hx hb hr (fun t ht hW => ⟨z_52, rfl, trivial, ht⟩) (fun _ h => absurd h List.not_mem_nil) dX12_getsOf_53
  · have n_14 : j_4 = 1 := b_eq_t (by omega) (by omega) c_14
    refine lv_iload hx hb dX12_getsOf_17 (lv_at hl 0 rfl) ?_
    refine lv_goto (tgt := 29) hx hb dX12_getsOf_19 (by decide) ?_
    refine lv_istore (lv' := [(5, .int r_7), (4, .int r_7), (3, .int (nI j_4)), (0, .ref m0), (1, .int (nI pe)), (2, .int an)]) hx hb dX12_getsOf_29 hl (by decide) rfl (fun ls hl => ?_)
    refine lv_aload_n hx hb dX12_getsOf_31 rfl (lv_at hl 3 rfl) ?_
    refine va_get (D := D) (ci := 12) (v := .int (nI P)) (C := RX12) (T := TX12) (N := 33) hx hb hg gwX12 hown hK hP 0 rfl rfl 3 (by decide) (hg _ kw_315) (fun _ h9 => h9) rfl dX12_getsOf_32 ?_
    refine lv_iload hx hb dX12_getsOf_35 (lv_at hl 0 rfl) ?_
    refine lv_isub hx hb dX12_getsOf_37 ?_
    refine lv_topi (fun z_37 e_37 => ?_)
    refine lv_istore (lv' := [(6, .int z_37), (5, .int r_7), (4, .int r_7), (3, .int (nI j_4)), (0, .ref m0), (1, .int (nI pe)), (2, .int an)]) hx hb dX12_getsOf_38 hl (by decide) rfl (fun ls hl => ?_)
    refine lv_aload_n hx hb dX12_getsOf_40 rfl (lv_at hl 4 rfl) ?_
    refine va_get (D := D) (ci := 12) (v := .int x_kind) (C := RX12) (T := TX12) (N := 33) hx hb hg gwX12 hown hK hP 0 rfl rfl 20 (by decide) (hg _ kw_325) (fun _ h9 => h9) rfl dX12_getsOf_41 ?_
    refine lv_if_ne (tgt := 54) hx hb dX12_getsOf_44 (by decide) (fun c_44 => ?_) (fun c_44 => ?_)
    · refine lv_aload_n hx hb dX12_getsOf_54 rfl (lv_at hl 4 rfl) ?_
      refine va_get (D := D) (ci := 12) (v := .int x_kind) (C := RX12) (T := TX12) (N := 33) hx hb hg gwX12 hown hK hP 0 rfl rfl 20 (by decide) (hg _ kw_325) (fun _ h9 => h9) rfl dX12_getsOf_55 ?_
      refine lv_iconst (v := 1) hx hb dX12_getsOf_58 (by decide) ?_
      refine lv_icmp_eq (tgt := 70) hx hb dX12_getsOf_59 (by decide) (fun c_59 => ?_) (fun c_59 => ?_)
      · refine lv_aload_n hx hb dX12_getsOf_70 rfl (lv_at hl 4 rfl) ?_
        refine va_get (D := D) (ci := 12) (v := .ref mq) (C := RX12) (T := TX12) (N := 33) hx hb hg gwX12 hown hK hP 0 rfl rfl 21 (by decide) (hg _ kw_326) (fun _ h9 => h9) rfl dX12_getsOf_71 ?_
        refine lv_iconst (v := 0) hx hb dX12_getsOf_74 (by decide) ?_
        refine va_iald hx hb hK hP 1 0 rfl rfl (show ¬ ((0 : Int32) < 0 ∨ 4 ≤ (0 : Int32).toNatClampNeg) by decide) dX12_getsOf_75 ?_
        refine lv_topi (fun z_75 e_75 => ?_)
        refine lv_iload hx hb dX12_getsOf_76 (lv_at hl 1 rfl) ?_
        refine lv_iconst (v := 1) hx hb dX12_getsOf_78 (by decide) ?_
        refine lv_isub hx hb dX12_getsOf_79 ?_
        refine lv_topi (fun z_79 e_79 => ?_)
        refine lv_imul hx hb dX12_getsOf_80 ?_
        refine lv_topi (fun z_80 e_80 => ?_)
        refine W_sQ hQ ?_
        exact W.iret (v := z_80) hx hb hr (fun t ht hW => ⟨z_80, rfl, trivial, ht⟩) (fun _ h => absurd h List.not_mem_nil) dX12_getsOf_81
      · refine lv_aload_n hx hb dX12_getsOf_62 rfl (lv_at hl 4 rfl) ?_
        refine va_get (D := D) (ci := 12) (v := .int x_kind) (C := RX12) (T := TX12) (N := 33) hx hb hg gwX12 hown hK hP 0 rfl rfl 20 (by decide) (hg _ kw_325) (fun _ h9 => h9) rfl dX12_getsOf_63 ?_
        refine lv_iconst (v := 4) hx hb dX12_getsOf_66 (by decide) ?_
        refine lv_icmp_ne (tgt := 82) hx hb dX12_getsOf_67 (by decide) (fun c_67 => ?_) (fun c_67 => ?_)
        · refine lv_aload_n hx hb dX12_getsOf_82 rfl (lv_at hl 4 rfl) ?_
          refine va_get (D := D) (ci := 12) (v := .ref mq) (C := RX12) (T := TX12) (N := 33) hx hb hg gwX12 hown hK hP 0 rfl rfl 21 (by decide) (hg _ kw_326) (fun _ h9 => h9) rfl dX12_getsOf_83 ?_
          refine lv_iconst (v := 2) hx hb dX12_getsOf_86 (by decide) ?_
          refine lv_iload_n hx hb dX12_getsOf_87 rfl (lv_at hl 3 rfl) ?_
          refine lv_imul hx hb dX12_getsOf_88 ?_
          refine lv_topi (fun z_88 e_88 => ?_)
          obtain rfl : z_88 = nI (2 * j_4) := e_88.trans (pk_mul _ _)
          refine lv_iload_n hx hb dX12_getsOf_89 rfl (lv_at hl 3 rfl) ?_
          refine lv_iadd hx hb dX12_getsOf_90 ?_
          refine lv_topi (fun z_90 e_90 => ?_)
          obtain rfl : z_90 = nI (2 * j_4 + j_4) := e_90.trans (nI_add _ _)
          refine va_iald hx hb hK hP 1 0 rfl rfl (vp_in_nI (show 2 * j_4 + j_4 < 4 by omega) (by decide)) dX12_getsOf_91 ?_
          refine lv_topi (fun z_91 e_91 => ?_)
          refine lv_iload hx hb dX12_getsOf_92 (lv_at hl 1 rfl) ?_
          refine lv_iconst (v := 1) hx hb dX12_getsOf_94 (by decide) ?_
          refine lv_isub hx hb dX12_getsOf_95 ?_
          refine lv_topi (fun z_95 e_95 => ?_)
          refine lv_imul hx hb dX12_getsOf_96 ?_
          refine lv_topi (fun z_96 e_96 => ?_)
          refine lv_aload_n hx hb dX12_getsOf_97 rfl (lv_at hl 4 rfl) ?_
          refine va_get (D := D) (ci := 12) (v := .ref mq) (C := RX12) (T := TX12) (N := 33) hx hb hg gwX12 hown hK hP 0 rfl rfl 21 (by decide) (hg _ kw_326) (fun _ h9 => h9) rfl dX12_getsOf_98 ?_
          refine lv_iconst (v := 2) hx hb dX12_getsOf_101 (by decide) ?_
          refine lv_iload_n hx hb dX12_getsOf_102 rfl (lv_at hl 3 rfl) ?_
          refine lv_imul hx hb dX12_getsOf_103 ?_
          refine lv_topi (fun z_103 e_103 => ?_)
          obtain rfl : z_103 = nI (2 * j_4) := e_103.trans (pk_mul _ _)
          refine lv_iconst (v := 1) hx hb dX12_getsOf_104 (by decide) ?_
          refine lv_iadd hx hb dX12_getsOf_105 ?_
          refine lv_topi (fun z_105 e_105 => ?_)
          obtain rfl : z_105 = nI (2 * j_4 + 1) := e_105.trans (nI_add _ _)
          refine lv_iload_n hx hb dX12_getsOf_106 rfl (lv_at hl 3 rfl) ?_
          refine lv_isub hx hb dX12_getsOf_107 ?_
          refine lv_topi (fun z_107 e_107 => ?_)
          obtain rfl : z_107 = nI (2 * j_4 + 1 - j_4) := e_107.trans (pk_sub (by omega))
          refine va_iald hx hb hK hP 1 0 rfl rfl (vp_in_nI (show 2 * j_4 + 1 - j_4 < 4 by omega) (by decide)) dX12_getsOf_108 ?_
          refine lv_topi (fun z_108 e_108 => ?_)
          refine lv_iload hx hb dX12_getsOf_109 (lv_at hl 0 rfl) ?_
          refine lv_imul hx hb dX12_getsOf_111 ?_
          refine lv_topi (fun z_111 e_111 => ?_)
          refine lv_iadd hx hb dX12_getsOf_112 ?_
          refine lv_topi (fun z_112 e_112 => ?_)
          refine lv_istore (lv' := [(7, .int z_112), (6, .int z_37), (5, .int r_7), (4, .int r_7), (3, .int (nI j_4)), (0, .ref m0), (1, .int (nI pe)), (2, .int an)]) hx hb dX12_getsOf_113 hl (by decide) rfl (fun ls hl => ?_)
          refine lv_aload_n hx hb dX12_getsOf_115 rfl (lv_at hl 5 rfl) ?_
          refine va_get (D := D) (ci := 12) (v := .int x_kind) (C := RX12) (T := TX12) (N := 33) hx hb hg gwX12 hown hK hP 0 rfl rfl 20 (by decide) (hg _ kw_325) (fun _ h9 => h9) rfl dX12_getsOf_116 ?_
          refine lv_iconst (v := 3) hx hb dX12_getsOf_119 (by decide) ?_
          refine lv_icmp_ne (tgt := 150) hx hb dX12_getsOf_120 (by decide) (fun c_120 => ?_) (fun c_120 => ?_)
          · refine lv_iload hx hb dX12_getsOf_150 (lv_at hl 0 rfl) ?_
            refine W_sQ hQ ?_
            exact W.iret (v := z_112) hx hb hr (fun t ht hW => ⟨z_112, rfl, trivial, ht⟩) (fun _ h => absurd h List.not_mem_nil) dX12_getsOf_152
          · refine lv_iload hx hb dX12_getsOf_123 (lv_at hl 1 rfl) ?_
            refine lv_iload hx hb dX12_getsOf_125 (lv_at hl 2 rfl) ?_
            refine lv_icmp_le (tgt := 150) hx hb dX12_getsOf_127 (by decide) (fun c_127 => ?_) (fun c_127 => ?_)
            · refine lv_iload hx hb dX12_getsOf_150 (lv_at hl 0 rfl) ?_
              refine W_sQ hQ ?_
              exact W.iret (v := z_112) hx hb hr (fun t ht hW => ⟨z_112, rfl, trivial, ht⟩) (fun _ h => absurd h List.not_mem_nil) dX12_getsOf_152
            · refine lv_iload hx hb dX12_getsOf_130 (lv_at hl 0 rfl) ?_
              refine lv_aload_n hx hb dX12_getsOf_132 rfl (lv_at hl 5 rfl) ?_
              refine va_get (D := D) (ci := 12) (v := .ref mq) (C := RX12) (T := TX12) (N := 33) hx hb hg gwX12 hown hK hP 0 rfl rfl 21 (by decide) (hg _ kw_326) (fun _ h9 => h9) rfl dX12_getsOf_133 ?_
              refine lv_iconst (v := 2) hx hb dX12_getsOf_136 (by decide) ?_
              refine lv_iload_n hx hb dX12_getsOf_137 rfl (lv_at hl 4 rfl) ?_
              refine lv_imul hx hb dX12_getsOf_138 ?_
              refine lv_topi (fun z_138 e_138 => ?_)
              obtain rfl : z_138 = nI (2 * j_4) := e_138.trans (pk_mul _ _)
              refine va_iald hx hb hK hP 1 0 rfl rfl (vp_in_nI (show 2 * j_4 < 4 by omega) (by decide)) dX12_getsOf_139 ?_
              refine lv_topi (fun z_139 e_139 => ?_)
              refine lv_iload hx hb dX12_getsOf_140 (lv_at hl 1 rfl) ?_
              refine lv_iload hx hb dX12_getsOf_142 (lv_at hl 2 rfl) ?_
              refine lv_isub hx hb dX12_getsOf_144 ?_
              refine lv_topi (fun z_144 e_144 => ?_)
              refine lv_imul hx hb dX12_getsOf_145 ?_
              refine lv_topi (fun z_145 e_145 => ?_)
              refine lv_iadd hx hb dX12_getsOf_146 ?_
              refine lv_topi (fun z_146 e_146 => ?_)
              refine lv_goto (tgt := 152) hx hb dX12_getsOf_147 (by decide) ?_
              refine W_sQ hQ ?_
              exact W.iret (v := z_146) hx hb hr (fun t ht hW => ⟨z_146, rfl, trivial, ht⟩) (fun _ h => absurd h List.not_mem_nil) dX12_getsOf_152
        · refine lv_aload_n hx hb dX12_getsOf_70 rfl (lv_at hl 4 rfl) ?_
          refine va_get (D := D) (ci := 12) (v := .ref mq) (C := RX12) (T := TX12) (N := 33) hx hb hg gwX12 hown hK hP 0 rfl rfl 21 (by decide) (hg _ kw_326) (fun _ h9 => h9) rfl dX12_getsOf_71 ?_
          refine lv_iconst (v := 0) hx hb dX12_getsOf_74 (by decide) ?_
          refine va_iald hx hb hK hP 1 0 rfl rfl (show ¬ ((0 : Int32) < 0 ∨ 4 ≤ (0 : Int32).toNatClampNeg) by decide) dX12_getsOf_75 ?_
          refine lv_topi (fun z_75 e_75 => ?_)
          refine lv_iload hx hb dX12_getsOf_76 (lv_at hl 1 rfl) ?_
          refine lv_iconst (v := 1) hx hb dX12_getsOf_78 (by decide) ?_
          refine lv_isub hx hb dX12_getsOf_79 ?_
          refine lv_topi (fun z_79 e_79 => ?_)
          refine lv_imul hx hb dX12_getsOf_80 ?_
          refine lv_topi (fun z_80 e_80 => ?_)
          refine W_sQ hQ ?_
          exact W.iret (v := z_80) hx hb hr (fun t ht hW => ⟨z_80, rfl, trivial, ht⟩) (fun _ h => absurd h List.not_mem_nil) dX12_getsOf_81
    · refine lv_aload_n hx hb dX12_getsOf_47 rfl (lv_at hl 4 rfl) ?_
      refine va_get (D := D) (ci := 12) (v := .ref mq) (C := RX12) (T := TX12) (N := 33) hx hb hg gwX12 hown hK hP 0 rfl rfl 21 (by decide) (hg _ kw_326) (fun _ h9 => h9) rfl dX12_getsOf_48 ?_
      refine lv_iconst (v := 0) hx hb dX12_getsOf_51 (by decide) ?_
      refine va_iald hx hb hK hP 1 0 rfl rfl (show ¬ ((0 : Int32) < 0 ∨ 4 ≤ (0 : Int32).toNatClampNeg) by decide) dX12_getsOf_52 ?_
      refine lv_topi (fun z_52 e_52 => ?_)
      refine W_sQ hQ ?_
      exact W.iret (v := z_52) hx hb hr (fun t ht hW => ⟨z_52, rfl, trivial, ht⟩) (fun _ h => absurd h List.not_mem_nil) dX12_getsOf_53

theorem dX12_worthOf_0 : decode cX12_worthOf 0 = .ok (.lconst 0, 1) := by decide +kernel
theorem dX12_worthOf_1 : decode cX12_worthOf 1 = .ok (.lstore_n 3, 1) := by decide +kernel
theorem dX12_worthOf_2 : decode cX12_worthOf 2 = .ok (.iconst 0, 1) := by decide +kernel
theorem dX12_worthOf_3 : decode cX12_worthOf 3 = .ok (.istore 5, 2) := by decide +kernel
theorem dX12_worthOf_5 : decode cX12_worthOf 5 = .ok (.iload 5, 2) := by decide +kernel
theorem dX12_worthOf_7 : decode cX12_worthOf 7 = .ok (.iconst 1, 1) := by decide +kernel
theorem dX12_worthOf_8 : decode cX12_worthOf 8 = .ok (.aload_n 0, 1) := by decide +kernel
theorem dX12_worthOf_9 : decode cX12_worthOf 9 = .ok (.getfield 57, 3) := by decide +kernel
theorem dX12_worthOf_12 : decode cX12_worthOf 12 = .ok (.ishl, 1) := by decide +kernel
theorem dX12_worthOf_13 : decode cX12_worthOf 13 = .ok (.if_icmp .ge 165, 3) := by decide +kernel
theorem dX12_worthOf_16 : decode cX12_worthOf 16 = .ok (.iconst 0, 1) := by decide +kernel
theorem dX12_worthOf_17 : decode cX12_worthOf 17 = .ok (.istore 6, 2) := by decide +kernel
theorem dX12_worthOf_19 : decode cX12_worthOf 19 = .ok (.iconst 0, 1) := by decide +kernel
theorem dX12_worthOf_20 : decode cX12_worthOf 20 = .ok (.istore 7, 2) := by decide +kernel
theorem dX12_worthOf_22 : decode cX12_worthOf 22 = .ok (.iload 7, 2) := by decide +kernel
theorem dX12_worthOf_24 : decode cX12_worthOf 24 = .ok (.aload_n 0, 1) := by decide +kernel
theorem dX12_worthOf_25 : decode cX12_worthOf 25 = .ok (.getfield 57, 3) := by decide +kernel
theorem dX12_worthOf_28 : decode cX12_worthOf 28 = .ok (.if_icmp .ge 33, 3) := by decide +kernel
theorem dX12_worthOf_31 : decode cX12_worthOf 31 = .ok (.iload 6, 2) := by decide +kernel
theorem dX12_worthOf_33 : decode cX12_worthOf 33 = .ok (.iload_n 1, 1) := by decide +kernel
theorem dX12_worthOf_34 : decode cX12_worthOf 34 = .ok (.iload 7, 2) := by decide +kernel
theorem dX12_worthOf_36 : decode cX12_worthOf 36 = .ok (.invokestatic 162, 3) := by decide +kernel
theorem dX12_worthOf_39 : decode cX12_worthOf 39 = .ok (.iload 5, 2) := by decide +kernel
theorem dX12_worthOf_41 : decode cX12_worthOf 41 = .ok (.iload 7, 2) := by decide +kernel
theorem dX12_worthOf_43 : decode cX12_worthOf 43 = .ok (.ishr, 1) := by decide +kernel
theorem dX12_worthOf_44 : decode cX12_worthOf 44 = .ok (.iconst 1, 1) := by decide +kernel
theorem dX12_worthOf_45 : decode cX12_worthOf 45 = .ok (.iand, 1) := by decide +kernel
theorem dX12_worthOf_46 : decode cX12_worthOf 46 = .ok (.invokestatic 165, 3) := by decide +kernel
theorem dX12_worthOf_49 : decode cX12_worthOf 49 = .ok (.iload 7, 2) := by decide +kernel
theorem dX12_worthOf_51 : decode cX12_worthOf 51 = .ok (.ishl, 1) := by decide +kernel
theorem dX12_worthOf_52 : decode cX12_worthOf 52 = .ok (.ior, 1) := by decide +kernel
theorem dX12_worthOf_53 : decode cX12_worthOf 53 = .ok (.istore 6, 2) := by decide +kernel
theorem dX12_worthOf_55 : decode cX12_worthOf 55 = .ok (.iinc 7 1, 3) := by decide +kernel
theorem dX12_worthOf_58 : decode cX12_worthOf 58 = .ok (.goto (-36), 3) := by decide +kernel
theorem dX12_worthOf_61 : decode cX12_worthOf 61 = .ok (.ldc2_w 168, 3) := by decide +kernel
theorem dX12_worthOf_64 : decode cX12_worthOf 64 = .ok (.aload_n 0, 1) := by decide +kernel
theorem dX12_worthOf_65 : decode cX12_worthOf 65 = .ok (.iload_n 2, 1) := by decide +kernel
theorem dX12_worthOf_66 : decode cX12_worthOf 66 = .ok (.iload 6, 2) := by decide +kernel
theorem dX12_worthOf_68 : decode cX12_worthOf 68 = .ok (.invokevirtual 158, 3) := by decide +kernel
theorem dX12_worthOf_71 : decode cX12_worthOf 71 = .ok (.i2l, 1) := by decide +kernel
theorem dX12_worthOf_72 : decode cX12_worthOf 72 = .ok (.lmul, 1) := by decide +kernel
theorem dX12_worthOf_73 : decode cX12_worthOf 73 = .ok (.lstore 7, 2) := by decide +kernel
theorem dX12_worthOf_75 : decode cX12_worthOf 75 = .ok (.aload_n 0, 1) := by decide +kernel
theorem dX12_worthOf_76 : decode cX12_worthOf 76 = .ok (.getfield 147, 3) := by decide +kernel
theorem dX12_worthOf_79 : decode cX12_worthOf 79 = .ok (.iconst 4, 1) := by decide +kernel
theorem dX12_worthOf_80 : decode cX12_worthOf 80 = .ok (.if_icmp .ne 79, 3) := by decide +kernel
theorem dX12_worthOf_83 : decode cX12_worthOf 83 = .ok (.iconst 2, 1) := by decide +kernel
theorem dX12_worthOf_84 : decode cX12_worthOf 84 = .ok (.iload 5, 2) := by decide +kernel
theorem dX12_worthOf_86 : decode cX12_worthOf 86 = .ok (.invokestatic 150, 3) := by decide +kernel
theorem dX12_worthOf_89 : decode cX12_worthOf 89 = .ok (.imul, 1) := by decide +kernel
theorem dX12_worthOf_90 : decode cX12_worthOf 90 = .ok (.aload_n 0, 1) := by decide +kernel
theorem dX12_worthOf_91 : decode cX12_worthOf 91 = .ok (.getfield 57, 3) := by decide +kernel
theorem dX12_worthOf_94 : decode cX12_worthOf 94 = .ok (.if_icmp .le 12, 3) := by decide +kernel
theorem dX12_worthOf_97 : decode cX12_worthOf 97 = .ok (.aload_n 0, 1) := by decide +kernel
theorem dX12_worthOf_98 : decode cX12_worthOf 98 = .ok (.getfield 38, 3) := by decide +kernel
theorem dX12_worthOf_101 : decode cX12_worthOf 101 = .ok (.iconst 3, 1) := by decide +kernel
theorem dX12_worthOf_102 : decode cX12_worthOf 102 = .ok (.iaload, 1) := by decide +kernel
theorem dX12_worthOf_103 : decode cX12_worthOf 103 = .ok (.goto 12, 3) := by decide +kernel
theorem dX12_worthOf_106 : decode cX12_worthOf 106 = .ok (.bipush 100, 2) := by decide +kernel
theorem dX12_worthOf_108 : decode cX12_worthOf 108 = .ok (.aload_n 0, 1) := by decide +kernel
theorem dX12_worthOf_109 : decode cX12_worthOf 109 = .ok (.getfield 38, 3) := by decide +kernel
theorem dX12_worthOf_112 : decode cX12_worthOf 112 = .ok (.iconst 3, 1) := by decide +kernel
theorem dX12_worthOf_113 : decode cX12_worthOf 113 = .ok (.iaload, 1) := by decide +kernel
theorem dX12_worthOf_114 : decode cX12_worthOf 114 = .ok (.isub, 1) := by decide +kernel
theorem dX12_worthOf_115 : decode cX12_worthOf 115 = .ok (.istore 9, 2) := by decide +kernel
theorem dX12_worthOf_117 : decode cX12_worthOf 117 = .ok (.lload 7, 2) := by decide +kernel
theorem dX12_worthOf_119 : decode cX12_worthOf 119 = .ok (.aload_n 0, 1) := by decide +kernel
theorem dX12_worthOf_120 : decode cX12_worthOf 120 = .ok (.getfield 38, 3) := by decide +kernel
theorem dX12_worthOf_123 : decode cX12_worthOf 123 = .ok (.iconst 1, 1) := by decide +kernel
theorem dX12_worthOf_124 : decode cX12_worthOf 124 = .ok (.iaload, 1) := by decide +kernel
theorem dX12_worthOf_125 : decode cX12_worthOf 125 = .ok (.i2l, 1) := by decide +kernel
theorem dX12_worthOf_126 : decode cX12_worthOf 126 = .ok (.aload_n 0, 1) := by decide +kernel
theorem dX12_worthOf_127 : decode cX12_worthOf 127 = .ok (.getfield 38, 3) := by decide +kernel
theorem dX12_worthOf_130 : decode cX12_worthOf 130 = .ok (.iconst 2, 1) := by decide +kernel
theorem dX12_worthOf_131 : decode cX12_worthOf 131 = .ok (.iaload, 1) := by decide +kernel
theorem dX12_worthOf_132 : decode cX12_worthOf 132 = .ok (.i2l, 1) := by decide +kernel
theorem dX12_worthOf_133 : decode cX12_worthOf 133 = .ok (.lmul, 1) := by decide +kernel
theorem dX12_worthOf_134 : decode cX12_worthOf 134 = .ok (.iload 6, 2) := by decide +kernel
theorem dX12_worthOf_136 : decode cX12_worthOf 136 = .ok (.iload_n 2, 1) := by decide +kernel
theorem dX12_worthOf_137 : decode cX12_worthOf 137 = .ok (.ishr, 1) := by decide +kernel
theorem dX12_worthOf_138 : decode cX12_worthOf 138 = .ok (.iconst 1, 1) := by decide +kernel
theorem dX12_worthOf_139 : decode cX12_worthOf 139 = .ok (.iand, 1) := by decide +kernel
theorem dX12_worthOf_140 : decode cX12_worthOf 140 = .ok (.iconst 1, 1) := by decide +kernel
theorem dX12_worthOf_141 : decode cX12_worthOf 141 = .ok (.if_icmp .ne 8, 3) := by decide +kernel
theorem dX12_worthOf_144 : decode cX12_worthOf 144 = .ok (.iload 9, 2) := by decide +kernel
theorem dX12_worthOf_146 : decode cX12_worthOf 146 = .ok (.goto 8, 3) := by decide +kernel
theorem dX12_worthOf_149 : decode cX12_worthOf 149 = .ok (.bipush 100, 2) := by decide +kernel
theorem dX12_worthOf_151 : decode cX12_worthOf 151 = .ok (.iload 9, 2) := by decide +kernel
theorem dX12_worthOf_153 : decode cX12_worthOf 153 = .ok (.isub, 1) := by decide +kernel
theorem dX12_worthOf_154 : decode cX12_worthOf 154 = .ok (.i2l, 1) := by decide +kernel
theorem dX12_worthOf_155 : decode cX12_worthOf 155 = .ok (.lmul, 1) := by decide +kernel
theorem dX12_worthOf_156 : decode cX12_worthOf 156 = .ok (.ladd, 1) := by decide +kernel
theorem dX12_worthOf_157 : decode cX12_worthOf 157 = .ok (.lstore 7, 2) := by decide +kernel
theorem dX12_worthOf_159 : decode cX12_worthOf 159 = .ok (.lload_n 3, 1) := by decide +kernel
theorem dX12_worthOf_160 : decode cX12_worthOf 160 = .ok (.aload_n 0, 1) := by decide +kernel
theorem dX12_worthOf_161 : decode cX12_worthOf 161 = .ok (.getfield 28, 3) := by decide +kernel
theorem dX12_worthOf_164 : decode cX12_worthOf 164 = .ok (.iload 5, 2) := by decide +kernel
theorem dX12_worthOf_166 : decode cX12_worthOf 166 = .ok (.laload, 1) := by decide +kernel
theorem dX12_worthOf_167 : decode cX12_worthOf 167 = .ok (.lload 7, 2) := by decide +kernel
theorem dX12_worthOf_169 : decode cX12_worthOf 169 = .ok (.lmul, 1) := by decide +kernel
theorem dX12_worthOf_170 : decode cX12_worthOf 170 = .ok (.ladd, 1) := by decide +kernel
theorem dX12_worthOf_171 : decode cX12_worthOf 171 = .ok (.lstore_n 3, 1) := by decide +kernel
theorem dX12_worthOf_172 : decode cX12_worthOf 172 = .ok (.iinc 5 1, 3) := by decide +kernel
theorem dX12_worthOf_175 : decode cX12_worthOf 175 = .ok (.goto (-170), 3) := by decide +kernel
theorem dX12_worthOf_178 : decode cX12_worthOf 178 = .ok (.lload_n 3, 1) := by decide +kernel
theorem dX12_worthOf_179 : decode cX12_worthOf 179 = .ok (.iload_n 1, 1) := by decide +kernel
theorem dX12_worthOf_180 : decode cX12_worthOf 180 = .ok (.iload_n 2, 1) := by decide +kernel
theorem dX12_worthOf_181 : decode cX12_worthOf 181 = .ok (.invokestatic 162, 3) := by decide +kernel
theorem dX12_worthOf_184 : decode cX12_worthOf 184 = .ok (.iconst 2, 1) := by decide +kernel
theorem dX12_worthOf_185 : decode cX12_worthOf 185 = .ok (.if_icmp .ge 22, 3) := by decide +kernel
theorem dX12_worthOf_188 : decode cX12_worthOf 188 = .ok (.ldc2_w 168, 3) := by decide +kernel
theorem dX12_worthOf_191 : decode cX12_worthOf 191 = .ok (.aload_n 0, 1) := by decide +kernel
theorem dX12_worthOf_192 : decode cX12_worthOf 192 = .ok (.getfield 117, 3) := by decide +kernel
theorem dX12_worthOf_195 : decode cX12_worthOf 195 = .ok (.lmul, 1) := by decide +kernel
theorem dX12_worthOf_196 : decode cX12_worthOf 196 = .ok (.aload_n 0, 1) := by decide +kernel
theorem dX12_worthOf_197 : decode cX12_worthOf 197 = .ok (.getfield 19, 3) := by decide +kernel
theorem dX12_worthOf_200 : decode cX12_worthOf 200 = .ok (.iload_n 2, 1) := by decide +kernel
theorem dX12_worthOf_201 : decode cX12_worthOf 201 = .ok (.iaload, 1) := by decide +kernel
theorem dX12_worthOf_202 : decode cX12_worthOf 202 = .ok (.i2l, 1) := by decide +kernel
theorem dX12_worthOf_203 : decode cX12_worthOf 203 = .ok (.lmul, 1) := by decide +kernel
theorem dX12_worthOf_204 : decode cX12_worthOf 204 = .ok (.goto 4, 3) := by decide +kernel
theorem dX12_worthOf_207 : decode cX12_worthOf 207 = .ok (.lconst 0, 1) := by decide +kernel
theorem dX12_worthOf_208 : decode cX12_worthOf 208 = .ok (.lsub, 1) := by decide +kernel
theorem dX12_worthOf_209 : decode cX12_worthOf 209 = .ok (.lreturn, 1) := by decide +kernel
theorem kw_331 : (.code yX12_wayOf cX12_wayOf 2 (some .int) : Cond) ∈ gw_tbl := gw_in (by decide +kernel) (by decide +kernel)
theorem kw_332 : (.methodLink RX12 162 yX12_wayOf : Cond) ∈ gw_tbl := gw_in (by decide +kernel) (by decide +kernel)
theorem kw_333 : (.static yX12_wayOf : Cond) ∈ gw_tbl := gw_in (by decide +kernel) (by decide +kernel)
theorem kw_334 : (.constantLong RX12 168 (10000) : Cond) ∈ gw_tbl := gw_in (by decide +kernel) (by decide +kernel)
theorem kw_335 : (.fieldLink RX12 117 "NobodyChecksModel" "all" "J" : Cond) ∈ gw_tbl := gw_in (by decide +kernel) (by decide +kernel)
theorem kw_336 : (.fieldLink RX12 19 "NobodyChecksModel" "costs" "[I" : Cond) ∈ gw_tbl := gw_in (by decide +kernel) (by decide +kernel)
theorem kw_337 : (.code yX12_getsOf cX12_getsOf 8 (some .int) : Cond) ∈ gw_tbl := gw_in (by decide +kernel) (by decide +kernel)
theorem kw_338 : (.methodLink RX12 158 yX12_getsOf : Cond) ∈ gw_tbl := gw_in (by decide +kernel) (by decide +kernel)
theorem kw_339 : (.instanceMethod yX12_getsOf : Cond) ∈ gw_tbl := gw_in (by decide +kernel) (by decide +kernel)
theorem kw_340 : (.selects RX12 yX12_getsOf yX12_getsOf : Cond) ∈ gw_tbl := gw_in (by decide +kernel) (by decide +kernel)
theorem kw_341 : (.fieldLink RX12 28 "NobodyChecksModel" "likely" "[J" : Cond) ∈ gw_tbl := gw_in (by decide +kernel) (by decide +kernel)
theorem kw_342 : (.code yX12_answer cX12_answer 2 (some .int) : Cond) ∈ gw_tbl := gw_in (by decide +kernel) (by decide +kernel)
theorem kw_343 : (.methodLink RX12 165 yX12_answer : Cond) ∈ gw_tbl := gw_in (by decide +kernel) (by decide +kernel)
theorem kw_344 : (.static yX12_answer : Cond) ∈ gw_tbl := gw_in (by decide +kernel) (by decide +kernel)

set_option maxHeartbeats 4000000 in
set_option maxRecDepth 100000 in
theorem m_worthOf (l : Launch) (D : va_G) (cs : Nat → ClassId) (m0 : Nat) (mp : Nat) (mw : Nat) (mh : Nat) (mo : Nat) (m5 : Nat) (m6 : Nat) (m7 : Nat) (mk : Nat) (mn : Nat) (mq : Nat) (m8 : Nat) (m9 : Nat) (mz : Nat) (mb : Nat) (md : Nat) (ms : Nat) (C : Nat) (P : Nat) (mpn : Nat) (mrs : Nat) (sS : Nat) (rc : Nat) (rp : Nat) (ic : Nat) (hms : ms ≤ 90) (hC5 : C ≤ 5) (hP4 : P ≤ 4) (hmpn : mpn ≤ 8) (hmrs : mrs ≤ 24) (hsS : sS ≤ 4) (hrc : rc ≤ 5) (hrp : rp ≤ 4) (hic : ic ≤ 4) (x_value : Int32) (x_digits : Int32) (x_all : Int64) (x_kind : Int32) (x_last : Int32) (x_steps : Int32) (x_isRound : Int32) (x_tablesDone : Int32) (x_hash : Int64) (fmo : Nat → Int32) (fm7 : Nat → Int64) (fmq : Nat → Int32) (prf : Int32) (pe : Nat) (hpe : pe < P) : Met l yX12_worthOf (Cond.code yX12_worthOf cX12_worthOf 10 (some .long) :: gw_tbl) ({ frames := 2, cells := 0, slots := 0, locals := 47 }) (pc_S D cs [(m0, .inr (12, [.ref mp, .int (nI ms), .int (nI C), .int (nI P), .ref mw, .ref mh, .ref mo, .int (nI sS), .int x_value, .int x_digits, .int (nI rc), .int (nI rp), .int (nI ic), .ref m5, .ref m6, .ref m7, .long x_all, .int (nI mpn), .ref mk, .ref mn, .int x_kind, .ref mq, .ref m8, .ref m9, .int x_last, .int x_steps, .int x_isRound, .int x_tablesDone, .ref mz, .int (nI mrs), .ref mb, .ref md, .long x_hash])), (mo, .inl (cs 0, 4, .inl fmo)), (m7, .inl (cs 1, 16, .inr (.inl fm7))), (mq, .inl (cs 0, 4, .inl fmq))] [.ref m0, .int prf, .int (nI pe)]) (vp_Sl (fun r => True)) 0 0 (fun _ => False) := by
  refine Met.ofW (cc := cX12_worthOf) (maxL := 10) (ret := (some .long)) (by decide) rfl ?_
  intro p e s m args below meth c s₁ B hml hv
  obtain ⟨hargs, hP, hK⟩ := hv
  have hx := B.exec
  have hb := B.bytes
  have hr := B.returns
  have hts := atoms_spec (ws := Cond.code yX12_worthOf cX12_worthOf 10 (some .long) :: gw_tbl) B.pre
  have hg := fun (w : Cond) (h : w ∈ gw_tbl) => hts w (List.mem_cons_of_mem _ h)
  have hown : s.vm.findClass RX12 = some m.cls := findClass_of_methodNamed B.named
  have hlocks := B.notSynchronized
  have hl := lv_entry ([.ref m0, .int prf, .int (nI pe)]) (n := 10) (Nat.le_of_ble_eq_true rfl)
  rw [show entryFrame m args 10 = F0 m 0 (lg_sl ([.ref m0, .int prf, .int (nI pe)]) ++ List.replicate (10 - (lg_sl ([.ref m0, .int prf, .int (nI pe)])).length) Slot.unset).toArray [] from by rw [hargs]; exact lg_entry_eq ..]
  generalize (lg_sl ([.ref m0, .int prf, .int (nI pe)]) ++ List.replicate (10 - (lg_sl ([.ref m0, .int prf, .int (nI pe)])).length) Slot.unset).toArray = ls at hl ⊢
  have hl : lv_has ls 10 [(0, .ref m0), (1, .int prf), (2, .int (nI pe))] := hl
  refine W_genQ (fun Q hQ => ?_)
  have hlm := lim_le hP4
  have hlq := lim_pos P
  have hsg := sgn_le hP4
  refine lv_lconst (v := 0) hx hb dX12_worthOf_0 (by decide) ?_
  refine lv_lstore_n (lv' := [(3, .long 0), (0, .ref m0), (1, .int prf), (2, .int (nI pe))]) hx hb dX12_worthOf_1 rfl hl (by decide) rfl (fun ls hl => ?_)
  refine lv_iconst (v := 0) hx hb dX12_worthOf_2 (by decide) ?_
  refine lv_istore (lv' := [(5, .int 0), (3, .long 0), (0, .ref m0), (1, .int prf), (2, .int (nI pe))]) hx hb dX12_worthOf_3 hl (by decide) rfl (fun ls hl => ?_)
  have LOOP5 : ∀ (n5 : Nat) (u3_5 : Int64) (sg : Nat), sg ≤ sgn P → sgn P - sg < n5 → ∀ (ls : Array Slot), lv_has ls 10 [(0, .ref m0), (1, .int prf), (2, .int (nI pe)), (3, .long u3_5), (5, .int (nI sg))] → W p l e ({ frames := 2, cells := 0, slots := 0, locals := 47 } : Room) s m args below meth c s.heap [] 0 0 Q (F0 m 5 ls []) := by
    intro n5
    induction n5 with
    | zero =>
      intro u3_5 sg hsg2 hn5 ls hl
      exact absurd hn5 (Nat.not_lt_zero _)
    | succ n5 ih5 =>
      intro u3_5 sg hsg2 hn5 ls hl
      refine lv_iload hx hb dX12_worthOf_5 (lv_at hl 4 rfl) ?_
      refine lv_iconst (v := 1) hx hb dX12_worthOf_7 (by decide) ?_
      refine lv_aload_n hx hb dX12_worthOf_8 rfl (lv_at hl 0 rfl) ?_
      refine va_get (D := D) (ci := 12) (v := .int (nI P)) (C := RX12) (T := TX12) (N := 33) hx hb hg gwX12 hown hK hP 0 rfl rfl 3 (by decide) (hg _ kw_315) (fun _ h9 => h9) rfl dX12_worthOf_9 ?_
      refine lv_ishl hx hb dX12_worthOf_12 ?_
      refine lv_topi (fun z_12 e_12 => ?_)
      obtain rfl : z_12 = nI (sgn P) := e_12.trans (sg_eq hP4)
      refine lv_icmp_ge (tgt := 178) hx hb dX12_worthOf_13 (by decide) (fun c_13 => ?_) (fun c_13 => ?_)
      · have n_13 : sgn P ≤ sg := b_le_t (by omega) (by omega) c_13
        refine lv_lload_n hx hb dX12_worthOf_178 rfl (lv_at hl 3 rfl) ?_
        refine lv_iload_n hx hb dX12_worthOf_179 rfl (lv_at hl 1 rfl) ?_
        refine lv_iload_n hx hb dX12_worthOf_180 rfl (lv_at hl 2 rfl) ?_
        refine vp_callSi (W.runS (As := [.int prf, .int (nI pe)]) (rest := [.long u3_5]) ⟨hx, hb, hml, hown, hg⟩ (m_wayOf l prf (nI pe)) (va_cwS 2 hg (gw_S kw_332 kw_333 kw_319 kw_331) rfl rfl rfl (by decide +kernel) ⟨(Nat.le_of_ble_eq_true rfl), (Nat.le_of_ble_eq_true rfl)⟩) pr_0 rfl rfl hl.1 rfl (lv_room (Nat.le_of_ble_eq_true rfl)) dX12_worthOf_181 ⟨(Nat.le_of_ble_eq_true rfl), (Nat.le_of_ble_eq_true rfl)⟩) (fun r_181 h_181 => ?_)
        clear h_181
        refine lv_iconst (v := 2) hx hb dX12_worthOf_184 (by decide) ?_
        refine lv_icmp_ge (tgt := 207) hx hb dX12_worthOf_185 (by decide) (fun c_185 => ?_) (fun c_185 => ?_)
        · refine lv_lconst (v := 0) hx hb dX12_worthOf_207 (by decide) ?_
          refine lv_lsub hx hb dX12_worthOf_208 ?_
          refine lv_topl (fun z_208 e_208 => ?_)
          refine W_sQ hQ ?_
          exact W.lret (v := z_208) hx hb hr (fun t ht hW => ⟨z_208, rfl, trivial, ht⟩) (fun _ h => absurd h List.not_mem_nil) dX12_worthOf_209
        · refine lv_ldc2 hx hb hown (hg _ kw_334) dX12_worthOf_188 ?_
          refine lv_aload_n hx hb dX12_worthOf_191 rfl (lv_at hl 0 rfl) ?_
          refine va_get (D := D) (ci := 12) (v := .long x_all) (C := RX12) (T := TX12) (N := 33) hx hb hg gwX12 hown hK hP 0 rfl rfl 16 (by decide) (hg _ kw_335) (fun _ h9 => h9) rfl dX12_worthOf_192 ?_
          refine lv_lmul hx hb dX12_worthOf_195 ?_
          refine lv_topl (fun z_195 e_195 => ?_)
          refine lv_aload_n hx hb dX12_worthOf_196 rfl (lv_at hl 0 rfl) ?_
          refine va_get (D := D) (ci := 12) (v := .ref mo) (C := RX12) (T := TX12) (N := 33) hx hb hg gwX12 hown hK hP 0 rfl rfl 6 (by decide) (hg _ kw_336) (fun _ h9 => h9) rfl dX12_worthOf_197 ?_
          refine lv_iload_n hx hb dX12_worthOf_200 rfl (lv_at hl 2 rfl) ?_
          refine va_iald hx hb hK hP 1 0 rfl rfl (vp_in_nI (show pe < 4 by omega) (by decide)) dX12_worthOf_201 ?_
          refine lv_topi (fun z_201 e_201 => ?_)
          refine lv_i2l hx hb dX12_worthOf_202 rfl ?_
          refine lv_topl (fun z_202 e_202 => ?_)
          refine lv_lmul hx hb dX12_worthOf_203 ?_
          refine lv_topl (fun z_203 e_203 => ?_)
          refine lv_goto (tgt := 208) hx hb dX12_worthOf_204 (by decide) ?_
          refine lv_lsub hx hb dX12_worthOf_208 ?_
          refine lv_topl (fun z_208 e_208 => ?_)
          refine W_sQ hQ ?_
          exact W.lret (v := z_208) hx hb hr (fun t ht hW => ⟨z_208, rfl, trivial, ht⟩) (fun _ h => absurd h List.not_mem_nil) dX12_worthOf_209
      · have n_13 : sg < sgn P := b_le_f (by omega) (by omega) c_13
        refine lv_iconst (v := 0) hx hb dX12_worthOf_16 (by decide) ?_
        refine lv_istore (lv' := [(6, .int 0), (0, .ref m0), (1, .int prf), (2, .int (nI pe)), (3, .long u3_5), (5, .int (nI sg))]) hx hb dX12_worthOf_17 hl (by decide) rfl (fun ls hl => ?_)
        refine lv_iconst (v := 0) hx hb dX12_worthOf_19 (by decide) ?_
        refine lv_istore (lv' := [(7, .int 0), (6, .int 0), (0, .ref m0), (1, .int prf), (2, .int (nI pe)), (3, .long u3_5), (5, .int (nI sg))]) hx hb dX12_worthOf_20 hl (by decide) rfl (fun ls hl => ?_)
        have LOOP22 : ∀ (n22 : Nat) (u6_22 : Int32) (k : Nat), k ≤ P → P - k < n22 → ∀ (ls : Array Slot), lv_has ls 10 [(0, .ref m0), (1, .int prf), (2, .int (nI pe)), (3, .long u3_5), (5, .int (nI sg)), (6, .int u6_22), (7, .int (nI k))] → W p l e ({ frames := 2, cells := 0, slots := 0, locals := 47 } : Room) s m args below meth c s.heap [] 0 0 Q (F0 m 22 ls []) := by
          intro n22
          induction n22 with
          | zero =>
            intro u6_22 k hk hn22 ls hl
            exact absurd hn22 (Nat.not_lt_zero _)
          | succ n22 ih22 =>
            intro u6_22 k hk hn22 ls hl
            refine lv_iload hx hb dX12_worthOf_22 (lv_at hl 6 rfl) ?_
            refine lv_aload_n hx hb dX12_worthOf_24 rfl (lv_at hl 0 rfl) ?_
            refine va_get (D := D) (ci := 12) (v := .int (nI P)) (C := RX12) (T := TX12) (N := 33) hx hb hg gwX12 hown hK hP 0 rfl rfl 3 (by decide) (hg _ kw_315) (fun _ h9 => h9) rfl dX12_worthOf_25 ?_
            refine lv_icmp_ge (tgt := 61) hx hb dX12_worthOf_28 (by decide) (fun c_28 => ?_) (fun c_28 => ?_)
            · have n_28 : P ≤ k := b_le_t (by omega) (by omega) c_28
              refine lv_ldc2 hx hb hown (hg _ kw_334) dX12_worthOf_61 ?_
              refine lv_aload_n hx hb dX12_worthOf_64 rfl (lv_at hl 0 rfl) ?_
              refine lv_iload_n hx hb dX12_worthOf_65 rfl (lv_at hl 2 rfl) ?_
              refine lv_iload hx hb dX12_worthOf_66 (lv_at hl 5 rfl) ?_
              have hPc := hP.sub (ws' := [(m0, .inr (12, [.ref mp, .int (nI ms), .int (nI C), .int (nI P), .ref mw, .ref mh, .ref mo, .int (nI sS), .int x_value, .int x_digits, .int (nI rc), .int (nI rp), .int (nI ic), .ref m5, .ref m6, .ref m7, .long x_all, .int (nI mpn), .ref mk, .ref mn, .int x_kind, .ref mq, .ref m8, .ref m9, .int x_last, .int x_steps, .int x_isRound, .int x_tablesDone, .ref mz, .int (nI mrs), .ref mb, .ref md, .long x_hash])), (mq, .inl (cs 0, 4, .inl fmq))]) [0, 3] rfl
              refine vp_callSi (W.runV (As := [.int (nI pe), .int u6_22]) (rest := [.long 10000]) ⟨hx, hb, hml, hown, hg⟩ (m_getsOf l D cs m0 mp mw mh mo m5 m6 m7 mk mn mq m8 m9 mz mb md ms C P mpn mrs sS rc rp ic (by omega) (by omega) (by omega) (by omega) (by omega) (by omega) (by omega) (by omega) (by omega) x_value x_digits x_all x_kind x_last x_steps x_isRound x_tablesDone x_hash fmq pe (by omega) u6_22) (cwV 2 hg (gw_V kw_338 kw_339 kw_340 kw_319 kw_337) rfl rfl rfl (by decide +kernel) ⟨(Nat.le_of_ble_eq_true rfl), (Nat.le_of_ble_eq_true rfl)⟩) (pr_SV (q := (RX12, TX12, 33)) 12 0 hK hPc rfl rfl) rfl rfl hl.1 rfl (lv_room (Nat.le_of_ble_eq_true rfl)) dX12_worthOf_68 ⟨(Nat.le_of_ble_eq_true rfl), (Nat.le_of_ble_eq_true rfl)⟩) (fun r_68 h_68 => ?_)
              clear h_68
              refine lv_i2l hx hb dX12_worthOf_71 rfl ?_
              refine lv_topl (fun z_71 e_71 => ?_)
              refine lv_lmul hx hb dX12_worthOf_72 ?_
              refine lv_topl (fun z_72 e_72 => ?_)
              refine lv_lstore (lv' := [(7, .long z_72), (0, .ref m0), (1, .int prf), (2, .int (nI pe)), (3, .long u3_5), (5, .int (nI sg)), (6, .int u6_22)]) hx hb dX12_worthOf_73 hl (by decide) rfl (fun ls hl => ?_)
              refine lv_aload_n hx hb dX12_worthOf_75 rfl (lv_at hl 1 rfl) ?_
              refine va_get (D := D) (ci := 12) (v := .int x_kind) (C := RX12) (T := TX12) (N := 33) hx hb hg gwX12 hown hK hP 0 rfl rfl 20 (by decide) (hg _ kw_325) (fun _ h9 => h9) rfl dX12_worthOf_76 ?_
              refine lv_iconst (v := 4) hx hb dX12_worthOf_79 (by decide) ?_
              refine lv_icmp_ne (tgt := 159) hx hb dX12_worthOf_80 (by decide) (fun c_80 => ?_) (fun c_80 => ?_)
              · refine lv_lload_n hx hb dX12_worthOf_159 rfl (lv_at hl 4 rfl) ?_
                refine lv_aload_n hx hb dX12_worthOf_160 rfl (lv_at hl 1 rfl) ?_
                refine va_get (D := D) (ci := 12) (v := .ref m7) (C := RX12) (T := TX12) (N := 33) hx hb hg gwX12 hown hK hP 0 rfl rfl 15 (by decide) (hg _ kw_341) (fun _ h9 => h9) rfl dX12_worthOf_161 ?_
                refine lv_iload hx hb dX12_worthOf_164 (lv_at hl 5 rfl) ?_
                refine va_lald hx hb hK hP 2 1 rfl rfl (vp_in_nI (show sg < 16 by omega) (by decide)) dX12_worthOf_166 ?_
                refine lv_topl (fun z_166 e_166 => ?_)
                refine lv_lload hx hb dX12_worthOf_167 (lv_at hl 0 rfl) ?_
                refine lv_lmul hx hb dX12_worthOf_169 ?_
                refine lv_topl (fun z_169 e_169 => ?_)
                refine lv_ladd hx hb dX12_worthOf_170 ?_
                refine lv_topl (fun z_170 e_170 => ?_)
                refine lv_lstore_n (lv' := [(3, .long z_170), (7, .long z_72), (0, .ref m0), (1, .int prf), (2, .int (nI pe)), (5, .int (nI sg)), (6, .int u6_22)]) hx hb dX12_worthOf_171 rfl hl (by decide) rfl (fun ls hl => ?_)
                refine lv_iinc (v := (nI (sg + 1))) (lv' := [(5, .int (nI (sg + 1))), (3, .long z_170), (7, .long z_72), (0, .ref m0), (1, .int prf), (2, .int (nI pe)), (6, .int u6_22)]) hx hb dX12_worthOf_172 hl (k := 5) rfl (nI_add sg 1) (by decide) rfl (fun ls hl => ?_)
                refine lv_goto (tgt := 5) hx hb dX12_worthOf_175 (by decide) ?_
                exact ih5 z_170 (sg + 1) (by omega) (by omega) ls (lv_sub hl [3, 4, 5, 1, 0] rfl)
              · refine lv_iconst (v := 2) hx hb dX12_worthOf_83 (by decide) ?_
                refine lv_iload hx hb dX12_worthOf_84 (lv_at hl 5 rfl) ?_
                refine vp_callSi (W.runS (As := [.int (nI sg)]) (rest := [.int 2]) ⟨hx, hb, hml, hown, hg⟩ (m_bitsOf l (nI sg)) (va_cwS 1 hg (gw_S kw_329 kw_330 kw_319 kw_328) rfl rfl rfl (by decide +kernel) ⟨(Nat.le_of_ble_eq_true rfl), (Nat.le_of_ble_eq_true rfl)⟩) pr_0 rfl rfl hl.1 rfl (lv_room (Nat.le_of_ble_eq_true rfl)) dX12_worthOf_86 ⟨(Nat.le_of_ble_eq_true rfl), (Nat.le_of_ble_eq_true rfl)⟩) (fun r_86 h_86 => ?_)
                clear h_86
                refine lv_imul hx hb dX12_worthOf_89 ?_
                refine lv_topi (fun z_89 e_89 => ?_)
                refine lv_aload_n hx hb dX12_worthOf_90 rfl (lv_at hl 1 rfl) ?_
                refine va_get (D := D) (ci := 12) (v := .int (nI P)) (C := RX12) (T := TX12) (N := 33) hx hb hg gwX12 hown hK hP 0 rfl rfl 3 (by decide) (hg _ kw_315) (fun _ h9 => h9) rfl dX12_worthOf_91 ?_
                refine lv_icmp_le (tgt := 106) hx hb dX12_worthOf_94 (by decide) (fun c_94 => ?_) (fun c_94 => ?_)
                · refine lv_bipush (v := 100) hx hb dX12_worthOf_106 (by decide) ?_
                  refine lv_aload_n hx hb dX12_worthOf_108 rfl (lv_at hl 1 rfl) ?_
                  refine va_get (D := D) (ci := 12) (v := .ref mq) (C := RX12) (T := TX12) (N := 33) hx hb hg gwX12 hown hK hP 0 rfl rfl 21 (by decide) (hg _ kw_326) (fun _ h9 => h9) rfl dX12_worthOf_109 ?_
                  refine lv_iconst (v := 3) hx hb dX12_worthOf_112 (by decide) ?_
                  refine va_iald hx hb hK hP 3 0 rfl rfl (show ¬ ((3 : Int32) < 0 ∨ 4 ≤ (3 : Int32).toNatClampNeg) by decide) dX12_worthOf_113 ?_
                  refine lv_topi (fun z_113 e_113 => ?_)
                  refine lv_isub hx hb dX12_worthOf_114 ?_
                  refine lv_topi (fun z_114 e_114 => ?_)
                  refine lv_istore (lv' := [(9, .int z_114), (7, .long z_72), (0, .ref m0), (1, .int prf), (2, .int (nI pe)), (3, .long u3_5), (5, .int (nI sg)), (6, .int u6_22)]) hx hb dX12_worthOf_115 hl (by decide) rfl (fun ls hl => ?_)
                  refine lv_lload hx hb dX12_worthOf_117 (lv_at hl 1 rfl) ?_
                  refine lv_aload_n hx hb dX12_worthOf_119 rfl (lv_at hl 2 rfl) ?_
                  refine va_get (D := D) (ci := 12) (v := .ref mq) (C := RX12) (T := TX12) (N := 33) hx hb hg gwX12 hown hK hP 0 rfl rfl 21 (by decide) (hg _ kw_326) (fun _ h9 => h9) rfl dX12_worthOf_120 ?_
                  refine lv_iconst (v := 1) hx hb dX12_worthOf_123 (by decide) ?_
                  refine va_iald hx hb hK hP 3 0 rfl rfl (show ¬ ((1 : Int32) < 0 ∨ 4 ≤ (1 : Int32).toNatClampNeg) by decide) dX12_worthOf_124 ?_
                  refine lv_topi (fun z_124 e_124 => ?_)
                  refine lv_i2l hx hb dX12_worthOf_125 rfl ?_
                  refine lv_topl (fun z_125 e_125 => ?_)
                  refine lv_aload_n hx hb dX12_worthOf_126 rfl (lv_at hl 2 rfl) ?_
                  refine va_get (D := D) (ci := 12) (v := .ref mq) (C := RX12) (T := TX12) (N := 33) hx hb hg gwX12 hown hK hP 0 rfl rfl 21 (by decide) (hg _ kw_326) (fun _ h9 => h9) rfl dX12_worthOf_127 ?_
                  refine lv_iconst (v := 2) hx hb dX12_worthOf_130 (by decide) ?_
                  refine va_iald hx hb hK hP 3 0 rfl rfl (show ¬ ((2 : Int32) < 0 ∨ 4 ≤ (2 : Int32).toNatClampNeg) by decide) dX12_worthOf_131 ?_
                  refine lv_topi (fun z_131 e_131 => ?_)
                  refine lv_i2l hx hb dX12_worthOf_132 rfl ?_
                  refine lv_topl (fun z_132 e_132 => ?_)
                  refine lv_lmul hx hb dX12_worthOf_133 ?_
                  refine lv_topl (fun z_133 e_133 => ?_)
                  refine lv_iload hx hb dX12_worthOf_134 (lv_at hl 7 rfl) ?_
                  refine lv_iload_n hx hb dX12_worthOf_136 rfl (lv_at hl 4 rfl) ?_
                  refine lv_ishr hx hb dX12_worthOf_137 ?_
                  refine lv_topi (fun z_137 e_137 => ?_)
                  refine lv_iconst (v := 1) hx hb dX12_worthOf_138 (by decide) ?_
                  refine lv_iand hx hb dX12_worthOf_139 ?_
                  refine lv_topi (fun z_139 e_139 => ?_)
                  obtain ⟨j_139, hj_139, ee_139⟩ := pk_andE z_137 (m := 1) 1 rfl
                  obtain rfl : z_139 = nI j_139 := e_139.trans ee_139
                  have hj_139 : j_139 < 2 := hj_139
                  refine lv_iconst (v := 1) hx hb dX12_worthOf_140 (by decide) ?_
                  refine lv_icmp_ne (tgt := 149) hx hb dX12_worthOf_141 (by decide) (fun c_141 => ?_) (fun c_141 => ?_)
                  · have n_141 : ¬ j_139 = 1 := b_eq_f (by omega) (by omega) c_141
                    refine lv_bipush (v := 100) hx hb dX12_worthOf_149 (by decide) ?_
                    refine lv_iload hx hb dX12_worthOf_151 (lv_at hl 0 rfl) ?_
                    refine lv_isub hx hb dX12_worthOf_153 ?_
                    refine lv_topi (fun z_153 e_153 => ?_)
                    refine lv_i2l hx hb dX12_worthOf_154 rfl ?_
                    refine lv_topl (fun z_154 e_154 => ?_)
                    refine lv_lmul hx hb dX12_worthOf_155 ?_
                    refine lv_topl (fun z_155 e_155 => ?_)
                    refine lv_ladd hx hb dX12_worthOf_156 ?_
                    refine lv_topl (fun z_156 e_156 => ?_)
                    refine lv_lstore (lv' := [(7, .long z_156), (9, .int z_114), (0, .ref m0), (1, .int prf), (2, .int (nI pe)), (3, .long u3_5), (5, .int (nI sg)), (6, .int u6_22)]) hx hb dX12_worthOf_157 hl (by decide) rfl (fun ls hl => ?_)
                    refine lv_lload_n hx hb dX12_worthOf_159 rfl (lv_at hl 5 rfl) ?_
                    refine lv_aload_n hx hb dX12_worthOf_160 rfl (lv_at hl 2 rfl) ?_
                    refine va_get (D := D) (ci := 12) (v := .ref m7) (C := RX12) (T := TX12) (N := 33) hx hb hg gwX12 hown hK hP 0 rfl rfl 15 (by decide) (hg _ kw_341) (fun _ h9 => h9) rfl dX12_worthOf_161 ?_
                    refine lv_iload hx hb dX12_worthOf_164 (lv_at hl 6 rfl) ?_
                    refine va_lald hx hb hK hP 2 1 rfl rfl (vp_in_nI (show sg < 16 by omega) (by decide)) dX12_worthOf_166 ?_
                    refine lv_topl (fun z_166 e_166 => ?_)
                    refine lv_lload hx hb dX12_worthOf_167 (lv_at hl 0 rfl) ?_
                    refine lv_lmul hx hb dX12_worthOf_169 ?_
                    refine lv_topl (fun z_169 e_169 => ?_)
                    refine lv_ladd hx hb dX12_worthOf_170 ?_
                    refine lv_topl (fun z_170 e_170 => ?_)
                    refine lv_lstore_n (lv' := [(3, .long z_170), (7, .long z_156), (9, .int z_114), (0, .ref m0), (1, .int prf), (2, .int (nI pe)), (5, .int (nI sg)), (6, .int u6_22)]) hx hb dX12_worthOf_171 rfl hl (by decide) rfl (fun ls hl => ?_)
                    refine lv_iinc (v := (nI (sg + 1))) (lv' := [(5, .int (nI (sg + 1))), (3, .long z_170), (7, .long z_156), (9, .int z_114), (0, .ref m0), (1, .int prf), (2, .int (nI pe)), (6, .int u6_22)]) hx hb dX12_worthOf_172 hl (k := 6) rfl (nI_add sg 1) (by decide) rfl (fun ls hl => ?_)
                    refine lv_goto (tgt := 5) hx hb dX12_worthOf_175 (by decide) ?_
                    exact ih5 z_170 (sg + 1) (by omega) (by omega) ls (lv_sub hl [4, 5, 6, 1, 0] rfl)
                  · have n_141 : j_139 = 1 := b_eq_t (by omega) (by omega) c_141
                    refine lv_iload hx hb dX12_worthOf_144 (lv_at hl 0 rfl) ?_
                    refine lv_goto (tgt := 154) hx hb dX12_worthOf_146 (by decide) ?_
                    refine lv_i2l hx hb dX12_worthOf_154 rfl ?_
                    refine lv_topl (fun z_154 e_154 => ?_)
                    refine lv_lmul hx hb dX12_worthOf_155 ?_
                    refine lv_topl (fun z_155 e_155 => ?_)
                    refine lv_ladd hx hb dX12_worthOf_156 ?_
                    refine lv_topl (fun z_156 e_156 => ?_)
                    refine lv_lstore (lv' := [(7, .long z_156), (9, .int z_114), (0, .ref m0), (1, .int prf), (2, .int (nI pe)), (3, .long u3_5), (5, .int (nI sg)), (6, .int u6_22)]) hx hb dX12_worthOf_157 hl (by decide) rfl (fun ls hl => ?_)
                    refine lv_lload_n hx hb dX12_worthOf_159 rfl (lv_at hl 5 rfl) ?_
                    refine lv_aload_n hx hb dX12_worthOf_160 rfl (lv_at hl 2 rfl) ?_
                    refine va_get (D := D) (ci := 12) (v := .ref m7) (C := RX12) (T := TX12) (N := 33) hx hb hg gwX12 hown hK hP 0 rfl rfl 15 (by decide) (hg _ kw_341) (fun _ h9 => h9) rfl dX12_worthOf_161 ?_
                    refine lv_iload hx hb dX12_worthOf_164 (lv_at hl 6 rfl) ?_
                    refine va_lald hx hb hK hP 2 1 rfl rfl (vp_in_nI (show sg < 16 by omega) (by decide)) dX12_worthOf_166 ?_
                    refine lv_topl (fun z_166 e_166 => ?_)
                    refine lv_lload hx hb dX12_worthOf_167 (lv_at hl 0 rfl) ?_
                    refine lv_lmul hx hb dX12_worthOf_169 ?_
                    refine lv_topl (fun z_169 e_169 => ?_)
                    refine lv_ladd hx hb dX12_worthOf_170 ?_
                    refine lv_topl (fun z_170 e_170 => ?_)
                    refine lv_lstore_n (lv' := [(3, .long z_170), (7, .long z_156), (9, .int z_114), (0, .ref m0), (1, .int prf), (2, .int (nI pe)), (5, .int (nI sg)), (6, .int u6_22)]) hx hb dX12_worthOf_171 rfl hl (by decide) rfl (fun ls hl => ?_)
                    refine lv_iinc (v := (nI (sg + 1))) (lv' := [(5, .int (nI (sg + 1))), (3, .long z_170), (7, .long z_156), (9, .int z_114), (0, .ref m0), (1, .int prf), (2, .int (nI pe)), (6, .int u6_22)]) hx hb dX12_worthOf_172 hl (k := 6) rfl (nI_add sg 1) (by decide) rfl (fun ls hl => ?_)
                    refine lv_goto (tgt := 5) hx hb dX12_worthOf_175 (by decide) ?_
                    exact ih5 z_170 (sg + 1) (by omega) (by omega) ls (lv_sub hl [4, 5, 6, 1, 0] rfl)
                · refine lv_aload_n hx hb dX12_worthOf_97 rfl (lv_at hl 1 rfl) ?_
                  refine va_get (D := D) (ci := 12) (v := .ref mq) (C := RX12) (T := TX12) (N := 33) hx hb hg gwX12 hown hK hP 0 rfl rfl 21 (by decide) (hg _ kw_326) (fun _ h9 => h9) rfl dX12_worthOf_98 ?_
                  refine lv_iconst (v := 3) hx hb dX12_worthOf_101 (by decide) ?_
                  refine va_iald hx hb hK hP 3 0 rfl rfl (show ¬ ((3 : Int32) < 0 ∨ 4 ≤ (3 : Int32).toNatClampNeg) by decide) dX12_worthOf_102 ?_
                  refine lv_topi (fun z_102 e_102 => ?_)
                  refine lv_goto (tgt := 115) hx hb dX12_worthOf_103 (by decide) ?_
                  refine lv_istore (lv' := [(9, .int z_102), (7, .long z_72), (0, .ref m0), (1, .int prf), (2, .int (nI pe)), (3, .long u3_5), (5, .int (nI sg)), (6, .int u6_22)]) hx hb dX12_worthOf_115 hl (by decide) rfl (fun ls hl => ?_)
                  refine lv_lload hx hb dX12_worthOf_117 (lv_at hl 1 rfl) ?_
                  refine lv_aload_n hx hb dX12_worthOf_119 rfl (lv_at hl 2 rfl) ?_
                  refine va_get (D := D) (ci := 12) (v := .ref mq) (C := RX12) (T := TX12) (N := 33) hx hb hg gwX12 hown hK hP 0 rfl rfl 21 (by decide) (hg _ kw_326) (fun _ h9 => h9) rfl dX12_worthOf_120 ?_
                  refine lv_iconst (v := 1) hx hb dX12_worthOf_123 (by decide) ?_
                  refine va_iald hx hb hK hP 3 0 rfl rfl (show ¬ ((1 : Int32) < 0 ∨ 4 ≤ (1 : Int32).toNatClampNeg) by decide) dX12_worthOf_124 ?_
                  refine lv_topi (fun z_124 e_124 => ?_)
                  refine lv_i2l hx hb dX12_worthOf_125 rfl ?_
                  refine lv_topl (fun z_125 e_125 => ?_)
                  refine lv_aload_n hx hb dX12_worthOf_126 rfl (lv_at hl 2 rfl) ?_
                  refine va_get (D := D) (ci := 12) (v := .ref mq) (C := RX12) (T := TX12) (N := 33) hx hb hg gwX12 hown hK hP 0 rfl rfl 21 (by decide) (hg _ kw_326) (fun _ h9 => h9) rfl dX12_worthOf_127 ?_
                  refine lv_iconst (v := 2) hx hb dX12_worthOf_130 (by decide) ?_
                  refine va_iald hx hb hK hP 3 0 rfl rfl (show ¬ ((2 : Int32) < 0 ∨ 4 ≤ (2 : Int32).toNatClampNeg) by decide) dX12_worthOf_131 ?_
                  refine lv_topi (fun z_131 e_131 => ?_)
                  refine lv_i2l hx hb dX12_worthOf_132 rfl ?_
                  refine lv_topl (fun z_132 e_132 => ?_)
                  refine lv_lmul hx hb dX12_worthOf_133 ?_
                  refine lv_topl (fun z_133 e_133 => ?_)
                  refine lv_iload hx hb dX12_worthOf_134 (lv_at hl 7 rfl) ?_
                  refine lv_iload_n hx hb dX12_worthOf_136 rfl (lv_at hl 4 rfl) ?_
                  refine lv_ishr hx hb dX12_worthOf_137 ?_
                  refine lv_topi (fun z_137 e_137 => ?_)
                  refine lv_iconst (v := 1) hx hb dX12_worthOf_138 (by decide) ?_
                  refine lv_iand hx hb dX12_worthOf_139 ?_
                  refine lv_topi (fun z_139 e_139 => ?_)
                  obtain ⟨j_139, hj_139, ee_139⟩ := pk_andE z_137 (m := 1) 1 rfl
                  obtain rfl : z_139 = nI j_139 := e_139.trans ee_139
                  have hj_139 : j_139 < 2 := hj_139
                  refine lv_iconst (v := 1) hx hb dX12_worthOf_140 (by decide) ?_
                  refine lv_icmp_ne (tgt := 149) hx hb dX12_worthOf_141 (by decide) (fun c_141 => ?_) (fun c_141 => ?_)
                  · have n_141 : ¬ j_139 = 1 := b_eq_f (by omega) (by omega) c_141
                    refine lv_bipush (v := 100) hx hb dX12_worthOf_149 (by decide) ?_
                    refine lv_iload hx hb dX12_worthOf_151 (lv_at hl 0 rfl) ?_
                    refine lv_isub hx hb dX12_worthOf_153 ?_
                    refine lv_topi (fun z_153 e_153 => ?_)
                    refine lv_i2l hx hb dX12_worthOf_154 rfl ?_
                    refine lv_topl (fun z_154 e_154 => ?_)
                    refine lv_lmul hx hb dX12_worthOf_155 ?_
                    refine lv_topl (fun z_155 e_155 => ?_)
                    refine lv_ladd hx hb dX12_worthOf_156 ?_
                    refine lv_topl (fun z_156 e_156 => ?_)
                    refine lv_lstore (lv' := [(7, .long z_156), (9, .int z_102), (0, .ref m0), (1, .int prf), (2, .int (nI pe)), (3, .long u3_5), (5, .int (nI sg)), (6, .int u6_22)]) hx hb dX12_worthOf_157 hl (by decide) rfl (fun ls hl => ?_)
                    refine lv_lload_n hx hb dX12_worthOf_159 rfl (lv_at hl 5 rfl) ?_
                    refine lv_aload_n hx hb dX12_worthOf_160 rfl (lv_at hl 2 rfl) ?_
                    refine va_get (D := D) (ci := 12) (v := .ref m7) (C := RX12) (T := TX12) (N := 33) hx hb hg gwX12 hown hK hP 0 rfl rfl 15 (by decide) (hg _ kw_341) (fun _ h9 => h9) rfl dX12_worthOf_161 ?_
                    refine lv_iload hx hb dX12_worthOf_164 (lv_at hl 6 rfl) ?_
                    refine va_lald hx hb hK hP 2 1 rfl rfl (vp_in_nI (show sg < 16 by omega) (by decide)) dX12_worthOf_166 ?_
                    refine lv_topl (fun z_166 e_166 => ?_)
                    refine lv_lload hx hb dX12_worthOf_167 (lv_at hl 0 rfl) ?_
                    refine lv_lmul hx hb dX12_worthOf_169 ?_
                    refine lv_topl (fun z_169 e_169 => ?_)
                    refine lv_ladd hx hb dX12_worthOf_170 ?_
                    refine lv_topl (fun z_170 e_170 => ?_)
                    refine lv_lstore_n (lv' := [(3, .long z_170), (7, .long z_156), (9, .int z_102), (0, .ref m0), (1, .int prf), (2, .int (nI pe)), (5, .int (nI sg)), (6, .int u6_22)]) hx hb dX12_worthOf_171 rfl hl (by decide) rfl (fun ls hl => ?_)
                    refine lv_iinc (v := (nI (sg + 1))) (lv' := [(5, .int (nI (sg + 1))), (3, .long z_170), (7, .long z_156), (9, .int z_102), (0, .ref m0), (1, .int prf), (2, .int (nI pe)), (6, .int u6_22)]) hx hb dX12_worthOf_172 hl (k := 6) rfl (nI_add sg 1) (by decide) rfl (fun ls hl => ?_)
                    refine lv_goto (tgt := 5) hx hb dX12_worthOf_175 (by decide) ?_
                    exact ih5 z_170 (sg + 1) (by omega) (by omega) ls (lv_sub hl [4, 5, 6, 1, 0] rfl)
                  · have n_141 : j_139 = 1 := b_eq_t (by omega) (by omega) c_141
                    refine lv_iload hx hb dX12_worthOf_144 (lv_at hl 0 rfl) ?_
                    refine lv_goto (tgt := 154) hx hb dX12_worthOf_146 (by decide) ?_
                    refine lv_i2l hx hb dX12_worthOf_154 rfl ?_
                    refine lv_topl (fun z_154 e_154 => ?_)
                    refine lv_lmul hx hb dX12_worthOf_155 ?_
                    refine lv_topl (fun z_155 e_155 => ?_)
                    refine lv_ladd hx hb dX12_worthOf_156 ?_
                    refine lv_topl (fun z_156 e_156 => ?_)
                    refine lv_lstore (lv' := [(7, .long z_156), (9, .int z_102), (0, .ref m0), (1, .int prf), (2, .int (nI pe)), (3, .long u3_5), (5, .int (nI sg)), (6, .int u6_22)]) hx hb dX12_worthOf_157 hl (by decide) rfl (fun ls hl => ?_)
                    refine lv_lload_n hx hb dX12_worthOf_159 rfl (lv_at hl 5 rfl) ?_
                    refine lv_aload_n hx hb dX12_worthOf_160 rfl (lv_at hl 2 rfl) ?_
                    refine va_get (D := D) (ci := 12) (v := .ref m7) (C := RX12) (T := TX12) (N := 33) hx hb hg gwX12 hown hK hP 0 rfl rfl 15 (by decide) (hg _ kw_341) (fun _ h9 => h9) rfl dX12_worthOf_161 ?_
                    refine lv_iload hx hb dX12_worthOf_164 (lv_at hl 6 rfl) ?_
                    refine va_lald hx hb hK hP 2 1 rfl rfl (vp_in_nI (show sg < 16 by omega) (by decide)) dX12_worthOf_166 ?_
                    refine lv_topl (fun z_166 e_166 => ?_)
                    refine lv_lload hx hb dX12_worthOf_167 (lv_at hl 0 rfl) ?_
                    refine lv_lmul hx hb dX12_worthOf_169 ?_
                    refine lv_topl (fun z_169 e_169 => ?_)
                    refine lv_ladd hx hb dX12_worthOf_170 ?_
                    refine lv_topl (fun z_170 e_170 => ?_)
                    refine lv_lstore_n (lv' := [(3, .long z_170), (7, .long z_156), (9, .int z_102), (0, .ref m0), (1, .int prf), (2, .int (nI pe)), (5, .int (nI sg)), (6, .int u6_22)]) hx hb dX12_worthOf_171 rfl hl (by decide) rfl (fun ls hl => ?_)
                    refine lv_iinc (v := (nI (sg + 1))) (lv' := [(5, .int (nI (sg + 1))), (3, .long z_170), (7, .long z_156), (9, .int z_102), (0, .ref m0), (1, .int prf), (2, .int (nI pe)), (6, .int u6_22)]) hx hb dX12_worthOf_172 hl (k := 6) rfl (nI_add sg 1) (by decide) rfl (fun ls hl => ?_)
                    refine lv_goto (tgt := 5) hx hb dX12_worthOf_175 (by decide) ?_
                    exact ih5 z_170 (sg + 1) (by omega) (by omega) ls (lv_sub hl [4, 5, 6, 1, 0] rfl)
            · have n_28 : k < P := b_le_f (by omega) (by omega) c_28
              refine lv_iload hx hb dX12_worthOf_31 (lv_at hl 5 rfl) ?_
              refine lv_iload_n hx hb dX12_worthOf_33 rfl (lv_at hl 1 rfl) ?_
              refine lv_iload hx hb dX12_worthOf_34 (lv_at hl 6 rfl) ?_
              refine vp_callSi (W.runS (As := [.int prf, .int (nI k)]) (rest := [.int u6_22]) ⟨hx, hb, hml, hown, hg⟩ (m_wayOf l prf (nI k)) (va_cwS 2 hg (gw_S kw_332 kw_333 kw_319 kw_331) rfl rfl rfl (by decide +kernel) ⟨(Nat.le_of_ble_eq_true rfl), (Nat.le_of_ble_eq_true rfl)⟩) pr_0 rfl rfl hl.1 rfl (lv_room (Nat.le_of_ble_eq_true rfl)) dX12_worthOf_36 ⟨(Nat.le_of_ble_eq_true rfl), (Nat.le_of_ble_eq_true rfl)⟩) (fun r_36 h_36 => ?_)
              clear h_36
              refine lv_iload hx hb dX12_worthOf_39 (lv_at hl 4 rfl) ?_
              refine lv_iload hx hb dX12_worthOf_41 (lv_at hl 6 rfl) ?_
              refine lv_ishr hx hb dX12_worthOf_43 ?_
              refine lv_topi (fun z_43 e_43 => ?_)
              refine lv_iconst (v := 1) hx hb dX12_worthOf_44 (by decide) ?_
              refine lv_iand hx hb dX12_worthOf_45 ?_
              refine lv_topi (fun z_45 e_45 => ?_)
              obtain ⟨j_45, hj_45, ee_45⟩ := pk_andE z_43 (m := 1) 1 rfl
              obtain rfl : z_45 = nI j_45 := e_45.trans ee_45
              have hj_45 : j_45 < 2 := hj_45
              refine vp_callSi (W.runS (As := [.int r_36, .int (nI j_45)]) (rest := [.int u6_22]) ⟨hx, hb, hml, hown, hg⟩ (m_answer l r_36 (nI j_45)) (va_cwS 2 hg (gw_S kw_343 kw_344 kw_319 kw_342) rfl rfl rfl (by decide +kernel) ⟨(Nat.le_of_ble_eq_true rfl), (Nat.le_of_ble_eq_true rfl)⟩) pr_0 rfl rfl hl.1 rfl (lv_room (Nat.le_of_ble_eq_true rfl)) dX12_worthOf_46 ⟨(Nat.le_of_ble_eq_true rfl), (Nat.le_of_ble_eq_true rfl)⟩) (fun r_46 h_46 => ?_)
              clear h_46
              refine lv_iload hx hb dX12_worthOf_49 (lv_at hl 6 rfl) ?_
              refine lv_ishl hx hb dX12_worthOf_51 ?_
              refine lv_topi (fun z_51 e_51 => ?_)
              refine lv_ior hx hb dX12_worthOf_52 ?_
              refine lv_topi (fun z_52 e_52 => ?_)
              refine lv_istore (lv' := [(6, .int z_52), (0, .ref m0), (1, .int prf), (2, .int (nI pe)), (3, .long u3_5), (5, .int (nI sg)), (7, .int (nI k))]) hx hb dX12_worthOf_53 hl (by decide) rfl (fun ls hl => ?_)
              refine lv_iinc (v := (nI (k + 1))) (lv' := [(7, .int (nI (k + 1))), (6, .int z_52), (0, .ref m0), (1, .int prf), (2, .int (nI pe)), (3, .long u3_5), (5, .int (nI sg))]) hx hb dX12_worthOf_55 hl (k := 6) rfl (nI_add k 1) (by decide) rfl (fun ls hl => ?_)
              refine lv_goto (tgt := 22) hx hb dX12_worthOf_58 (by decide) ?_
              exact ih22 z_52 (k + 1) (by omega) (by omega) ls (lv_sub hl [2, 3, 4, 5, 6, 1, 0] rfl)
        exact LOOP22 (P - 0 + 1) 0 0 (by omega) (Nat.lt_succ_self _) ls (lv_sub hl [2, 3, 4, 5, 6, 1, 0] rfl)
  exact LOOP5 (sgn P - 0 + 1) 0 0 (by omega) (Nat.lt_succ_self _) ls (lv_sub hl [2, 3, 4, 1, 0] rfl)

theorem dX12_layWorths_0 : decode cX12_layWorths 0 = .ok (.aload_n 0, 1) := by decide +kernel
theorem dX12_layWorths_1 : decode cX12_layWorths 1 = .ok (.iload_n 1, 1) := by decide +kernel
theorem dX12_layWorths_2 : decode cX12_layWorths 2 = .ok (.invokevirtual 154, 3) := by decide +kernel
theorem dX12_layWorths_5 : decode cX12_layWorths 5 = .ok (.iconst 0, 1) := by decide +kernel
theorem dX12_layWorths_6 : decode cX12_layWorths 6 = .ok (.istore_n 2, 1) := by decide +kernel
theorem dX12_layWorths_7 : decode cX12_layWorths 7 = .ok (.iload_n 2, 1) := by decide +kernel
theorem dX12_layWorths_8 : decode cX12_layWorths 8 = .ok (.aload_n 0, 1) := by decide +kernel
theorem dX12_layWorths_9 : decode cX12_layWorths 9 = .ok (.invokevirtual 172, 3) := by decide +kernel
theorem dX12_layWorths_12 : decode cX12_layWorths 12 = .ok (.if_icmp .ge 41, 3) := by decide +kernel
theorem dX12_layWorths_15 : decode cX12_layWorths 15 = .ok (.iconst 0, 1) := by decide +kernel
theorem dX12_layWorths_16 : decode cX12_layWorths 16 = .ok (.istore_n 3, 1) := by decide +kernel
theorem dX12_layWorths_17 : decode cX12_layWorths 17 = .ok (.iload_n 3, 1) := by decide +kernel
theorem dX12_layWorths_18 : decode cX12_layWorths 18 = .ok (.aload_n 0, 1) := by decide +kernel
theorem dX12_layWorths_19 : decode cX12_layWorths 19 = .ok (.getfield 57, 3) := by decide +kernel
theorem dX12_layWorths_22 : decode cX12_layWorths 22 = .ok (.if_icmp .ge 25, 3) := by decide +kernel
theorem dX12_layWorths_25 : decode cX12_layWorths 25 = .ok (.aload_n 0, 1) := by decide +kernel
theorem dX12_layWorths_26 : decode cX12_layWorths 26 = .ok (.getfield 41, 3) := by decide +kernel
theorem dX12_layWorths_29 : decode cX12_layWorths 29 = .ok (.iconst 4, 1) := by decide +kernel
theorem dX12_layWorths_30 : decode cX12_layWorths 30 = .ok (.iload_n 2, 1) := by decide +kernel
theorem dX12_layWorths_31 : decode cX12_layWorths 31 = .ok (.imul, 1) := by decide +kernel
theorem dX12_layWorths_32 : decode cX12_layWorths 32 = .ok (.iload_n 3, 1) := by decide +kernel
theorem dX12_layWorths_33 : decode cX12_layWorths 33 = .ok (.iadd, 1) := by decide +kernel
theorem dX12_layWorths_34 : decode cX12_layWorths 34 = .ok (.aload_n 0, 1) := by decide +kernel
theorem dX12_layWorths_35 : decode cX12_layWorths 35 = .ok (.iload_n 2, 1) := by decide +kernel
theorem dX12_layWorths_36 : decode cX12_layWorths 36 = .ok (.iload_n 3, 1) := by decide +kernel
theorem dX12_layWorths_37 : decode cX12_layWorths 37 = .ok (.invokevirtual 177, 3) := by decide +kernel
theorem dX12_layWorths_40 : decode cX12_layWorths 40 = .ok (.lastore, 1) := by decide +kernel
theorem dX12_layWorths_41 : decode cX12_layWorths 41 = .ok (.iinc 3 1, 3) := by decide +kernel
theorem dX12_layWorths_44 : decode cX12_layWorths 44 = .ok (.goto (-27), 3) := by decide +kernel
theorem dX12_layWorths_47 : decode cX12_layWorths 47 = .ok (.iinc 2 1, 3) := by decide +kernel
theorem dX12_layWorths_50 : decode cX12_layWorths 50 = .ok (.goto (-43), 3) := by decide +kernel
theorem dX12_layWorths_53 : decode cX12_layWorths 53 = .ok (.return_, 1) := by decide +kernel
theorem kw_345 : (.code yX12_takePay cX12_takePay 3 none : Cond) ∈ gw_tbl := gw_in (by decide +kernel) (by decide +kernel)
theorem kw_346 : (.methodLink RX12 154 yX12_takePay : Cond) ∈ gw_tbl := gw_in (by decide +kernel) (by decide +kernel)
theorem kw_347 : (.instanceMethod yX12_takePay : Cond) ∈ gw_tbl := gw_in (by decide +kernel) (by decide +kernel)
theorem kw_348 : (.selects RX12 yX12_takePay yX12_takePay : Cond) ∈ gw_tbl := gw_in (by decide +kernel) (by decide +kernel)
theorem kw_349 : (.code yX12_profiles cX12_profiles 1 (some .int) : Cond) ∈ gw_tbl := gw_in (by decide +kernel) (by decide +kernel)
theorem kw_350 : (.methodLink RX12 172 yX12_profiles : Cond) ∈ gw_tbl := gw_in (by decide +kernel) (by decide +kernel)
theorem kw_351 : (.instanceMethod yX12_profiles : Cond) ∈ gw_tbl := gw_in (by decide +kernel) (by decide +kernel)
theorem kw_352 : (.selects RX12 yX12_profiles yX12_profiles : Cond) ∈ gw_tbl := gw_in (by decide +kernel) (by decide +kernel)
theorem kw_353 : (.fieldLink RX12 41 "NobodyChecksModel" "worths" "[J" : Cond) ∈ gw_tbl := gw_in (by decide +kernel) (by decide +kernel)
theorem kw_354 : (.code yX12_worthOf cX12_worthOf 10 (some .long) : Cond) ∈ gw_tbl := gw_in (by decide +kernel) (by decide +kernel)
theorem kw_355 : (.methodLink RX12 177 yX12_worthOf : Cond) ∈ gw_tbl := gw_in (by decide +kernel) (by decide +kernel)
theorem kw_356 : (.instanceMethod yX12_worthOf : Cond) ∈ gw_tbl := gw_in (by decide +kernel) (by decide +kernel)
theorem kw_357 : (.selects RX12 yX12_worthOf yX12_worthOf : Cond) ∈ gw_tbl := gw_in (by decide +kernel) (by decide +kernel)

set_option maxHeartbeats 4000000 in
set_option maxRecDepth 100000 in
theorem m_layWorths (l : Launch) (D : va_G) (cs : Nat → ClassId) (m0 : Nat) (mp : Nat) (mw : Nat) (mh : Nat) (mo : Nat) (m5 : Nat) (m6 : Nat) (m7 : Nat) (mk : Nat) (mn : Nat) (mq : Nat) (m8 : Nat) (m9 : Nat) (mz : Nat) (mb : Nat) (md : Nat) (ms : Nat) (C : Nat) (P : Nat) (mpn : Nat) (mrs : Nat) (sS : Nat) (rc : Nat) (rp : Nat) (ic : Nat) (hms : ms ≤ 90) (hC5 : C ≤ 5) (hP4 : P ≤ 4) (hmpn : mpn ≤ 8) (hmrs : mrs ≤ 24) (hsS : sS ≤ 4) (hrc : rc ≤ 5) (hrp : rp ≤ 4) (hic : ic ≤ 4) (x_value : Int32) (x_digits : Int32) (x_all : Int64) (x_kind : Int32) (x_last : Int32) (x_steps : Int32) (x_isRound : Int32) (x_tablesDone : Int32) (x_hash : Int64) (fmk : Nat → Int32) (fmn : Nat → Int32) (fmq : Nat → Int32) (fmo : Nat → Int32) (fm7 : Nat → Int64) (fm8 : Nat → Int64) (pk : Nat) (hpk : pk < mpn) (sz : Nat) : Met l yX12_layWorths (Cond.code yX12_layWorths cX12_layWorths 4 none :: gw_tbl) ({ frames := 3, cells := 0, slots := 0, locals := 76 }) (pc_M D cs [(m0, .inr (12, [.ref mp, .int (nI ms), .int (nI C), .int (nI P), .ref mw, .ref mh, .ref mo, .int (nI sS), .int x_value, .int x_digits, .int (nI rc), .int (nI rp), .int (nI ic), .ref m5, .ref m6, .ref m7, .long x_all, .int (nI mpn), .ref mk, .ref mn, .int x_kind, .ref mq, .ref m8, .ref m9, .int x_last, .int x_steps, .int x_isRound, .int x_tablesDone, .ref mz, .int (nI mrs), .ref mb, .ref md, .long x_hash])), (mk, .inl (cs 0, 8, .inl fmk)), (mn, .inl (cs 0, 32, .inl fmn)), (mq, .inl (cs 0, 4, .inl fmq)), (mo, .inl (cs 0, 4, .inl fmo)), (m7, .inl (cs 1, 16, .inr (.inl fm7))), (m8, .inl (cs 1, 1024, .inr (.inl fm8)))] sz [.ref m0, .int (nI pk)]) (va_Qv (fun (u : Unit) => True) (fun u t => ∃ (kd2 : Int32), ∃ (fmq2 : Nat → Int32), ∃ (fm82 : Nat → Int64), va_P D vwCl [(m0, .inr (12, [.ref mp, .int (nI ms), .int (nI C), .int (nI P), .ref mw, .ref mh, .ref mo, .int (nI sS), .int x_value, .int x_digits, .int (nI rc), .int (nI rp), .int (nI ic), .ref m5, .ref m6, .ref m7, .long x_all, .int (nI mpn), .ref mk, .ref mn, .int kd2, .ref mq, .ref m8, .ref m9, .int x_last, .int x_steps, .int x_isRound, .int x_tablesDone, .ref mz, .int (nI mrs), .ref mb, .ref md, .long x_hash])), (mk, .inl (cs 0, 8, .inl fmk)), (mn, .inl (cs 0, 32, .inl fmn)), (mq, .inl (cs 0, 4, .inl fmq2)), (mo, .inl (cs 0, 4, .inl fmo)), (m7, .inl (cs 1, 16, .inr (.inl fm7))), (m8, .inl (cs 1, 1024, .inr (.inl fm82)))] t.heap ∧ va_D (va_A [(m0, .inr (12, [.ref mp, .int (nI ms), .int (nI C), .int (nI P), .ref mw, .ref mh, .ref mo, .int (nI sS), .int x_value, .int x_digits, .int (nI rc), .int (nI rp), .int (nI ic), .ref m5, .ref m6, .ref m7, .long x_all, .int (nI mpn), .ref mk, .ref mn, .int x_kind, .ref mq, .ref m8, .ref m9, .int x_last, .int x_steps, .int x_isRound, .int x_tablesDone, .ref mz, .int (nI mrs), .ref mb, .ref md, .long x_hash])), (mk, .inl (cs 0, 8, .inl fmk)), (mn, .inl (cs 0, 32, .inl fmn)), (mq, .inl (cs 0, 4, .inl fmq)), (mo, .inl (cs 0, 4, .inl fmo)), (m7, .inl (cs 1, 16, .inr (.inl fm7))), (m8, .inl (cs 1, 1024, .inr (.inl fm8)))] sz) [(m0, .inr (12, [.ref mp, .int (nI ms), .int (nI C), .int (nI P), .ref mw, .ref mh, .ref mo, .int (nI sS), .int x_value, .int x_digits, .int (nI rc), .int (nI rp), .int (nI ic), .ref m5, .ref m6, .ref m7, .long x_all, .int (nI mpn), .ref mk, .ref mn, .int kd2, .ref mq, .ref m8, .ref m9, .int x_last, .int x_steps, .int x_isRound, .int x_tablesDone, .ref mz, .int (nI mrs), .ref mb, .ref md, .long x_hash])), (mk, .inl (cs 0, 8, .inl fmk)), (mn, .inl (cs 0, 32, .inl fmn)), (mq, .inl (cs 0, 4, .inl fmq2)), (mo, .inl (cs 0, 4, .inl fmo)), (m7, .inl (cs 1, 16, .inr (.inl fm7))), (m8, .inl (cs 1, 1024, .inr (.inl fm82)))]) (va_A [(m0, .inr (12, [.ref mp, .int (nI ms), .int (nI C), .int (nI P), .ref mw, .ref mh, .ref mo, .int (nI sS), .int x_value, .int x_digits, .int (nI rc), .int (nI rp), .int (nI ic), .ref m5, .ref m6, .ref m7, .long x_all, .int (nI mpn), .ref mk, .ref mn, .int x_kind, .ref mq, .ref m8, .ref m9, .int x_last, .int x_steps, .int x_isRound, .int x_tablesDone, .ref mz, .int (nI mrs), .ref mb, .ref md, .long x_hash])), (mk, .inl (cs 0, 8, .inl fmk)), (mn, .inl (cs 0, 32, .inl fmn)), (mq, .inl (cs 0, 4, .inl fmq)), (mo, .inl (cs 0, 4, .inl fmo)), (m7, .inl (cs 1, 16, .inr (.inl fm7))), (m8, .inl (cs 1, 1024, .inr (.inl fm8)))] sz)) 0 0 (va_A [(m0, .inr (12, [.ref mp, .int (nI ms), .int (nI C), .int (nI P), .ref mw, .ref mh, .ref mo, .int (nI sS), .int x_value, .int x_digits, .int (nI rc), .int (nI rp), .int (nI ic), .ref m5, .ref m6, .ref m7, .long x_all, .int (nI mpn), .ref mk, .ref mn, .int x_kind, .ref mq, .ref m8, .ref m9, .int x_last, .int x_steps, .int x_isRound, .int x_tablesDone, .ref mz, .int (nI mrs), .ref mb, .ref md, .long x_hash])), (mk, .inl (cs 0, 8, .inl fmk)), (mn, .inl (cs 0, 32, .inl fmn)), (mq, .inl (cs 0, 4, .inl fmq)), (mo, .inl (cs 0, 4, .inl fmo)), (m7, .inl (cs 1, 16, .inr (.inl fm7))), (m8, .inl (cs 1, 1024, .inr (.inl fm8)))] sz) := by
  refine Met.ofW (cc := cX12_layWorths) (maxL := 4) (ret := none) (by decide) rfl ?_
  intro p e s m args below meth c s₁ B hml hv
  obtain ⟨hargs, hsz, hP, hK, hD0⟩ := hv
  have hx := B.exec
  have hb := B.bytes
  have hr := B.returns
  have hts := atoms_spec (ws := Cond.code yX12_layWorths cX12_layWorths 4 none :: gw_tbl) B.pre
  have hg := fun (w : Cond) (h : w ∈ gw_tbl) => hts w (List.mem_cons_of_mem _ h)
  have hown : s.vm.findClass RX12 = some m.cls := findClass_of_methodNamed B.named
  have hlocks := B.notSynchronized
  subst hsz
  have hD := hD0.self (sz := s.heap.size)
  generalize hAe : va_A [(m0, .inr (12, [.ref mp, .int (nI ms), .int (nI C), .int (nI P), .ref mw, .ref mh, .ref mo, .int (nI sS), .int x_value, .int x_digits, .int (nI rc), .int (nI rp), .int (nI ic), .ref m5, .ref m6, .ref m7, .long x_all, .int (nI mpn), .ref mk, .ref mn, .int x_kind, .ref mq, .ref m8, .ref m9, .int x_last, .int x_steps, .int x_isRound, .int x_tablesDone, .ref mz, .int (nI mrs), .ref mb, .ref md, .long x_hash])), (mk, .inl (cs 0, 8, .inl fmk)), (mn, .inl (cs 0, 32, .inl fmn)), (mq, .inl (cs 0, 4, .inl fmq)), (mo, .inl (cs 0, 4, .inl fmo)), (m7, .inl (cs 1, 16, .inr (.inl fm7))), (m8, .inl (cs 1, 1024, .inr (.inl fm8)))] s.heap.size = A at hD ⊢
  have hA : ∀ q : Nat, s.heap.size ≤ q → A q := fun q h => by rw [← hAe]; exact Or.inr h
  have hS : va_S A s.heap s.heap [] := va_S.rf
  have hP : va_P D vwCl [(m0, .inr (12, [.ref mp, .int (nI ms), .int (nI C), .int (nI P), .ref mw, .ref mh, .ref mo, .int (nI sS), .int x_value, .int x_digits, .int (nI rc), .int (nI rp), .int (nI ic), .ref m5, .ref m6, .ref m7, .long x_all, .int (nI mpn), .ref mk, .ref mn, .int x_kind, .ref mq, .ref m8, .ref m9, .int x_last, .int x_steps, .int x_isRound, .int x_tablesDone, .ref mz, .int (nI mrs), .ref mb, .ref md, .long x_hash])), (mk, .inl (cs 0, 8, .inl fmk)), (mn, .inl (cs 0, 32, .inl fmn)), (mq, .inl (cs 0, 4, .inl fmq)), (mo, .inl (cs 0, 4, .inl fmo)), (m7, .inl (cs 1, 16, .inr (.inl fm7))), (m8, .inl (cs 1, 1024, .inr (.inl fm8)))] s.heap := hP
  have hl := lv_entry ([.ref m0, .int (nI pk)]) (n := 4) (Nat.le_of_ble_eq_true rfl)
  rw [show entryFrame m args 4 = F0 m 0 (lg_sl ([.ref m0, .int (nI pk)]) ++ List.replicate (4 - (lg_sl ([.ref m0, .int (nI pk)])).length) Slot.unset).toArray [] from by rw [hargs]; exact lg_entry_eq ..]
  generalize (lg_sl ([.ref m0, .int (nI pk)]) ++ List.replicate (4 - (lg_sl ([.ref m0, .int (nI pk)])).length) Slot.unset).toArray = ls at hl ⊢
  have hl : lv_has ls 4 [(0, .ref m0), (1, .int (nI pk))] := hl
  refine W_genQ (fun Q hQ => ?_)
  have hlm := lim_le hP4
  have hlq := lim_pos P
  have hsg := sgn_le hP4
  refine lv_aload_n hx hb dX12_layWorths_0 rfl (lv_at hl 0 rfl) ?_
  refine lv_iload_n hx hb dX12_layWorths_1 rfl (lv_at hl 1 rfl) ?_
  have hPc := hP.sub (ws' := [(m0, .inr (12, [.ref mp, .int (nI ms), .int (nI C), .int (nI P), .ref mw, .ref mh, .ref mo, .int (nI sS), .int x_value, .int x_digits, .int (nI rc), .int (nI rp), .int (nI ic), .ref m5, .ref m6, .ref m7, .long x_all, .int (nI mpn), .ref mk, .ref mn, .int x_kind, .ref mq, .ref m8, .ref m9, .int x_last, .int x_steps, .int x_isRound, .int x_tablesDone, .ref mz, .int (nI mrs), .ref mb, .ref md, .long x_hash])), (mk, .inl (cs 0, 8, .inl fmk)), (mn, .inl (cs 0, 32, .inl fmn)), (mq, .inl (cs 0, 4, .inl fmq))]) [0, 1, 2, 3] rfl
  have hDc := hD.sub (ws' := [(m0, .inr (12, [.ref mp, .int (nI ms), .int (nI C), .int (nI P), .ref mw, .ref mh, .ref mo, .int (nI sS), .int x_value, .int x_digits, .int (nI rc), .int (nI rp), .int (nI ic), .ref m5, .ref m6, .ref m7, .long x_all, .int (nI mpn), .ref mk, .ref mn, .int x_kind, .ref mq, .ref m8, .ref m9, .int x_last, .int x_steps, .int x_isRound, .int x_tablesDone, .ref mz, .int (nI mrs), .ref mb, .ref md, .long x_hash])), (mk, .inl (cs 0, 8, .inl fmk)), (mn, .inl (cs 0, 32, .inl fmn)), (mq, .inl (cs 0, 4, .inl fmq))]) [0, 1, 2, 3] (by decide) rfl
  have hFc := va_free (wc := [(m0, .inr (12, [.ref mp, .int (nI ms), .int (nI C), .int (nI P), .ref mw, .ref mh, .ref mo, .int (nI sS), .int x_value, .int x_digits, .int (nI rc), .int (nI rp), .int (nI ic), .ref m5, .ref m6, .ref m7, .long x_all, .int (nI mpn), .ref mk, .ref mn, .int x_kind, .ref mq, .ref m8, .ref m9, .int x_last, .int x_steps, .int x_isRound, .int x_tablesDone, .ref mz, .int (nI mrs), .ref mb, .ref md, .long x_hash])), (mk, .inl (cs 0, 8, .inl fmk)), (mn, .inl (cs 0, 32, .inl fmn)), (mq, .inl (cs 0, 4, .inl fmq))]) hD hS hA [0, 1, 2, 3] rfl
  refine va_callv (va_runV (As := [.int (nI pk)]) (rest := []) ⟨hx, hb, hml, hown, hg⟩ (m_takePay l D cs m0 mp mw mh mo m5 m6 m7 mk mn mq m8 m9 mz mb md ms C P mpn mrs sS rc rp ic (by omega) (by omega) (by omega) (by omega) (by omega) (by omega) (by omega) (by omega) (by omega) x_value x_digits x_all x_kind x_last x_steps x_isRound x_tablesDone x_hash fmk fmn fmq pk (by omega) _) (cwV 1 hg (gw_V kw_346 kw_347 kw_348 kw_319 kw_345) rfl rfl rfl (by decide +kernel) ⟨(Nat.le_of_ble_eq_true rfl), (Nat.le_of_ble_eq_true rfl)⟩) (pr_MV (q := (RX12, TX12, 33)) 12 0 hK hPc hDc rfl rfl) rfl rfl hl.1 rfl (lv_room (Nat.le_of_ble_eq_true rfl)) dX12_layWorths_2 ⟨(Nat.le_of_ble_eq_true rfl), (Nat.le_of_ble_eq_true rfl)⟩) hS (fun q _ h => hFc q h) hFc (fun u t H1 locs ht hvm h_2 hB hz1 hk1 hS => ?_)
  obtain ⟨kd2_2, fmq2_2, hP1, hD1⟩ := hB
  rw [ht] at hP1
  obtain ⟨hP, hD⟩ := va_join (wr := [(mo, .inl (cs 0, 4, .inl fmo)), (m7, .inl (cs 1, 16, .inr (.inl fm7))), (m8, .inl (cs 1, 1024, .inr (.inl fm8)))]) (w1 := [(m0, .inr (12, [.ref mp, .int (nI ms), .int (nI C), .int (nI P), .ref mw, .ref mh, .ref mo, .int (nI sS), .int x_value, .int x_digits, .int (nI rc), .int (nI rp), .int (nI ic), .ref m5, .ref m6, .ref m7, .long x_all, .int (nI mpn), .ref mk, .ref mn, .int kd2_2, .ref mq, .ref m8, .ref m9, .int x_last, .int x_steps, .int x_isRound, .int x_tablesDone, .ref mz, .int (nI mrs), .ref mb, .ref md, .long x_hash])), (mk, .inl (cs 0, 8, .inl fmk)), (mn, .inl (cs 0, 32, .inl fmn)), (mq, .inl (cs 0, 4, .inl fmq2_2))]) hP hD [0, 1, 2, 3] [4, 5, 6] rfl rfl (by decide) (by decide) hk1 hFc hP1 hD1
  generalize H1 = H at hP hS ⊢
  have hP : va_P D vwCl [(mo, .inl (cs 0, 4, .inl fmo)), (m7, .inl (cs 1, 16, .inr (.inl fm7))), (m8, .inl (cs 1, 1024, .inr (.inl fm8))), (m0, .inr (12, [.ref mp, .int (nI ms), .int (nI C), .int (nI P), .ref mw, .ref mh, .ref mo, .int (nI sS), .int x_value, .int x_digits, .int (nI rc), .int (nI rp), .int (nI ic), .ref m5, .ref m6, .ref m7, .long x_all, .int (nI mpn), .ref mk, .ref mn, .int kd2_2, .ref mq, .ref m8, .ref m9, .int x_last, .int x_steps, .int x_isRound, .int x_tablesDone, .ref mz, .int (nI mrs), .ref mb, .ref md, .long x_hash])), (mk, .inl (cs 0, 8, .inl fmk)), (mn, .inl (cs 0, 32, .inl fmn)), (mq, .inl (cs 0, 4, .inl fmq2_2))] H := hP
  have hD : va_D A [(mo, .inl (cs 0, 4, .inl fmo)), (m7, .inl (cs 1, 16, .inr (.inl fm7))), (m8, .inl (cs 1, 1024, .inr (.inl fm8))), (m0, .inr (12, [.ref mp, .int (nI ms), .int (nI C), .int (nI P), .ref mw, .ref mh, .ref mo, .int (nI sS), .int x_value, .int x_digits, .int (nI rc), .int (nI rp), .int (nI ic), .ref m5, .ref m6, .ref m7, .long x_all, .int (nI mpn), .ref mk, .ref mn, .int kd2_2, .ref mq, .ref m8, .ref m9, .int x_last, .int x_steps, .int x_isRound, .int x_tablesDone, .ref mz, .int (nI mrs), .ref mb, .ref md, .long x_hash])), (mk, .inl (cs 0, 8, .inl fmk)), (mn, .inl (cs 0, 32, .inl fmn)), (mq, .inl (cs 0, 4, .inl fmq2_2))] := hD
  refine W.cs (cells' := 0) (slots' := 0) rfl rfl ?_
  refine lv_iconst (v := 0) hx hb dX12_layWorths_5 (by decide) ?_
  refine lv_istore_n (lv' := [(2, .int 0), (0, .ref m0), (1, .int (nI pk))]) hx hb dX12_layWorths_6 rfl hl (by decide) rfl (fun ls hl => ?_)
  have LOOP7 : ∀ (n7 : Nat) (x_ : Nat) (fm8_7 : Nat → Int64), x_ ≤ lim P → lim P - x_ < n7 → ∀ (H : Heap) (locs : List Loc) (ls : Array Slot), va_P D vwCl [(mo, .inl (cs 0, 4, .inl fmo)), (m7, .inl (cs 1, 16, .inr (.inl fm7))), (m8, .inl (cs 1, 1024, .inr (.inl fm8_7))), (m0, .inr (12, [.ref mp, .int (nI ms), .int (nI C), .int (nI P), .ref mw, .ref mh, .ref mo, .int (nI sS), .int x_value, .int x_digits, .int (nI rc), .int (nI rp), .int (nI ic), .ref m5, .ref m6, .ref m7, .long x_all, .int (nI mpn), .ref mk, .ref mn, .int kd2_2, .ref mq, .ref m8, .ref m9, .int x_last, .int x_steps, .int x_isRound, .int x_tablesDone, .ref mz, .int (nI mrs), .ref mb, .ref md, .long x_hash])), (mk, .inl (cs 0, 8, .inl fmk)), (mn, .inl (cs 0, 32, .inl fmn)), (mq, .inl (cs 0, 4, .inl fmq2_2))] H → va_D A [(mo, .inl (cs 0, 4, .inl fmo)), (m7, .inl (cs 1, 16, .inr (.inl fm7))), (m8, .inl (cs 1, 1024, .inr (.inl fm8_7))), (m0, .inr (12, [.ref mp, .int (nI ms), .int (nI C), .int (nI P), .ref mw, .ref mh, .ref mo, .int (nI sS), .int x_value, .int x_digits, .int (nI rc), .int (nI rp), .int (nI ic), .ref m5, .ref m6, .ref m7, .long x_all, .int (nI mpn), .ref mk, .ref mn, .int kd2_2, .ref mq, .ref m8, .ref m9, .int x_last, .int x_steps, .int x_isRound, .int x_tablesDone, .ref mz, .int (nI mrs), .ref mb, .ref md, .long x_hash])), (mk, .inl (cs 0, 8, .inl fmk)), (mn, .inl (cs 0, 32, .inl fmn)), (mq, .inl (cs 0, 4, .inl fmq2_2))] → va_S A s.heap H locs → lv_has ls 4 [(0, .ref m0), (1, .int (nI pk)), (2, .int (nI x_))] → W p l e ({ frames := 3, cells := 0, slots := 0, locals := 76 } : Room) s m args below meth c H locs 0 0 Q (F0 m 7 ls []) := by
    intro n7
    induction n7 with
    | zero =>
      intro x_ fm8_7 hx_ hn7 H locs ls hP hD hS hl
      exact absurd hn7 (Nat.not_lt_zero _)
    | succ n7 ih7 =>
      intro x_ fm8_7 hx_ hn7 H locs ls hP hD hS hl
      refine lv_iload_n hx hb dX12_layWorths_7 rfl (lv_at hl 2 rfl) ?_
      refine lv_aload_n hx hb dX12_layWorths_8 rfl (lv_at hl 0 rfl) ?_
      have hPc := hP.sub (ws' := [(m0, .inr (12, [.ref mp, .int (nI ms), .int (nI C), .int (nI P), .ref mw, .ref mh, .ref mo, .int (nI sS), .int x_value, .int x_digits, .int (nI rc), .int (nI rp), .int (nI ic), .ref m5, .ref m6, .ref m7, .long x_all, .int (nI mpn), .ref mk, .ref mn, .int kd2_2, .ref mq, .ref m8, .ref m9, .int x_last, .int x_steps, .int x_isRound, .int x_tablesDone, .ref mz, .int (nI mrs), .ref mb, .ref md, .long x_hash]))]) [3] rfl
      refine vp_callSi (W.runV (As := []) (rest := [.int (nI x_)]) ⟨hx, hb, hml, hown, hg⟩ (m_profiles l D cs m0 mp mw mh mo m5 m6 m7 mk mn mq m8 m9 mz mb md ms C P mpn mrs sS rc rp ic (by omega) (by omega) (by omega) (by omega) (by omega) (by omega) (by omega) (by omega) (by omega) x_value x_digits x_all kd2_2 x_last x_steps x_isRound x_tablesDone x_hash) (cwV 0 hg (gw_V kw_350 kw_351 kw_352 kw_319 kw_349) rfl rfl rfl (by decide +kernel) ⟨(Nat.le_of_ble_eq_true rfl), (Nat.le_of_ble_eq_true rfl)⟩) (pr_SV (q := (RX12, TX12, 33)) 12 0 hK hPc rfl rfl) rfl rfl hl.1 rfl (lv_room (Nat.le_of_ble_eq_true rfl)) dX12_layWorths_9 ⟨(Nat.le_of_ble_eq_true rfl), (Nat.le_of_ble_eq_true rfl)⟩) (fun r_9 h_9 => ?_)
      obtain rfl : r_9 = nI (lim P) := h_9
      refine lv_icmp_ge (tgt := 53) hx hb dX12_layWorths_12 (by decide) (fun c_12 => ?_) (fun c_12 => ?_)
      · have n_12 : lim P ≤ x_ := b_le_t (by omega) (by omega) c_12
        refine W_sQ hQ ?_
        refine W.widen (k := 0) (n := 0) (Nat.le_of_ble_eq_true rfl) (Nat.le_of_ble_eq_true rfl) ?_
        have hP9 := hP.sub (ws' := [(m0, .inr (12, [.ref mp, .int (nI ms), .int (nI C), .int (nI P), .ref mw, .ref mh, .ref mo, .int (nI sS), .int x_value, .int x_digits, .int (nI rc), .int (nI rp), .int (nI ic), .ref m5, .ref m6, .ref m7, .long x_all, .int (nI mpn), .ref mk, .ref mn, .int kd2_2, .ref mq, .ref m8, .ref m9, .int x_last, .int x_steps, .int x_isRound, .int x_tablesDone, .ref mz, .int (nI mrs), .ref mb, .ref md, .long x_hash])), (mk, .inl (cs 0, 8, .inl fmk)), (mn, .inl (cs 0, 32, .inl fmn)), (mq, .inl (cs 0, 4, .inl fmq2_2)), (mo, .inl (cs 0, 4, .inl fmo)), (m7, .inl (cs 1, 16, .inr (.inl fm7))), (m8, .inl (cs 1, 1024, .inr (.inl fm8_7)))]) [3, 4, 5, 6, 0, 1, 2] rfl
        have hD9 := hD.sub (ws' := [(m0, .inr (12, [.ref mp, .int (nI ms), .int (nI C), .int (nI P), .ref mw, .ref mh, .ref mo, .int (nI sS), .int x_value, .int x_digits, .int (nI rc), .int (nI rp), .int (nI ic), .ref m5, .ref m6, .ref m7, .long x_all, .int (nI mpn), .ref mk, .ref mn, .int kd2_2, .ref mq, .ref m8, .ref m9, .int x_last, .int x_steps, .int x_isRound, .int x_tablesDone, .ref mz, .int (nI mrs), .ref mb, .ref md, .long x_hash])), (mk, .inl (cs 0, 8, .inl fmk)), (mn, .inl (cs 0, 32, .inl fmn)), (mq, .inl (cs 0, 4, .inl fmq2_2)), (mo, .inl (cs 0, 4, .inl fmo)), (m7, .inl (cs 1, 16, .inr (.inl fm7))), (m8, .inl (cs 1, 1024, .inr (.inl fm8_7)))]) [3, 4, 5, 6, 0, 1, 2] (by decide) rfl
        exact W.vret hx hb hr (fun t ht hW => ⟨⟨(), rfl, trivial, ⟨kd2_2, fmq2_2, fm8_7, by rw [ht]; exact hP9, hD9⟩⟩, hS.F ht⟩) hS.2.2 dX12_layWorths_53
      · have n_12 : x_ < lim P := b_le_f (by omega) (by omega) c_12
        refine lv_iconst (v := 0) hx hb dX12_layWorths_15 (by decide) ?_
        refine lv_istore_n (lv' := [(3, .int 0), (0, .ref m0), (1, .int (nI pk)), (2, .int (nI x_))]) hx hb dX12_layWorths_16 rfl hl (by decide) rfl (fun ls hl => ?_)
        have LOOP17 : ∀ (n17 : Nat) (pe : Nat) (fm8_17 : Nat → Int64), pe ≤ P → P - pe < n17 → ∀ (H : Heap) (locs : List Loc) (ls : Array Slot), va_P D vwCl [(mo, .inl (cs 0, 4, .inl fmo)), (m7, .inl (cs 1, 16, .inr (.inl fm7))), (m8, .inl (cs 1, 1024, .inr (.inl fm8_17))), (m0, .inr (12, [.ref mp, .int (nI ms), .int (nI C), .int (nI P), .ref mw, .ref mh, .ref mo, .int (nI sS), .int x_value, .int x_digits, .int (nI rc), .int (nI rp), .int (nI ic), .ref m5, .ref m6, .ref m7, .long x_all, .int (nI mpn), .ref mk, .ref mn, .int kd2_2, .ref mq, .ref m8, .ref m9, .int x_last, .int x_steps, .int x_isRound, .int x_tablesDone, .ref mz, .int (nI mrs), .ref mb, .ref md, .long x_hash])), (mk, .inl (cs 0, 8, .inl fmk)), (mn, .inl (cs 0, 32, .inl fmn)), (mq, .inl (cs 0, 4, .inl fmq2_2))] H → va_D A [(mo, .inl (cs 0, 4, .inl fmo)), (m7, .inl (cs 1, 16, .inr (.inl fm7))), (m8, .inl (cs 1, 1024, .inr (.inl fm8_17))), (m0, .inr (12, [.ref mp, .int (nI ms), .int (nI C), .int (nI P), .ref mw, .ref mh, .ref mo, .int (nI sS), .int x_value, .int x_digits, .int (nI rc), .int (nI rp), .int (nI ic), .ref m5, .ref m6, .ref m7, .long x_all, .int (nI mpn), .ref mk, .ref mn, .int kd2_2, .ref mq, .ref m8, .ref m9, .int x_last, .int x_steps, .int x_isRound, .int x_tablesDone, .ref mz, .int (nI mrs), .ref mb, .ref md, .long x_hash])), (mk, .inl (cs 0, 8, .inl fmk)), (mn, .inl (cs 0, 32, .inl fmn)), (mq, .inl (cs 0, 4, .inl fmq2_2))] → va_S A s.heap H locs → lv_has ls 4 [(0, .ref m0), (1, .int (nI pk)), (2, .int (nI x_)), (3, .int (nI pe))] → W p l e ({ frames := 3, cells := 0, slots := 0, locals := 76 } : Room) s m args below meth c H locs 0 0 Q (F0 m 17 ls []) := by
          intro n17
          induction n17 with
          | zero =>
            intro pe fm8_17 hpe hn17 H locs ls hP hD hS hl
            exact absurd hn17 (Nat.not_lt_zero _)
          | succ n17 ih17 =>
            intro pe fm8_17 hpe hn17 H locs ls hP hD hS hl
            refine lv_iload_n hx hb dX12_layWorths_17 rfl (lv_at hl 3 rfl) ?_
            refine lv_aload_n hx hb dX12_layWorths_18 rfl (lv_at hl 0 rfl) ?_
            refine va_get (D := D) (ci := 12) (v := .int (nI P)) (C := RX12) (T := TX12) (N := 33) hx hb hg gwX12 hown hK hP 3 rfl rfl 3 (by decide) (hg _ kw_315) (fun _ h9 => h9) rfl dX12_layWorths_19 ?_
            refine lv_icmp_ge (tgt := 47) hx hb dX12_layWorths_22 (by decide) (fun c_22 => ?_) (fun c_22 => ?_)
            · have n_22 : P ≤ pe := b_le_t (by omega) (by omega) c_22
              refine lv_iinc (v := (nI (x_ + 1))) (lv' := [(2, .int (nI (x_ + 1))), (0, .ref m0), (1, .int (nI pk)), (3, .int (nI pe))]) hx hb dX12_layWorths_47 hl (k := 2) rfl (nI_add x_ 1) (by decide) rfl (fun ls hl => ?_)
              refine lv_goto (tgt := 7) hx hb dX12_layWorths_50 (by decide) ?_
              exact ih7 (x_ + 1) fm8_17 (by omega) (by omega) _ _ ls hP hD hS (lv_sub hl [1, 2, 0] rfl)
            · have n_22 : pe < P := b_le_f (by omega) (by omega) c_22
              refine lv_aload_n hx hb dX12_layWorths_25 rfl (lv_at hl 0 rfl) ?_
              refine va_get (D := D) (ci := 12) (v := .ref m8) (C := RX12) (T := TX12) (N := 33) hx hb hg gwX12 hown hK hP 3 rfl rfl 22 (by decide) (hg _ kw_353) (fun _ h9 => h9) rfl dX12_layWorths_26 ?_
              refine lv_iconst (v := 4) hx hb dX12_layWorths_29 (by decide) ?_
              refine lv_iload_n hx hb dX12_layWorths_30 rfl (lv_at hl 2 rfl) ?_
              refine lv_imul hx hb dX12_layWorths_31 ?_
              refine lv_topi (fun z_31 e_31 => ?_)
              obtain rfl : z_31 = nI (4 * x_) := e_31.trans (pk_mul _ _)
              refine lv_iload_n hx hb dX12_layWorths_32 rfl (lv_at hl 3 rfl) ?_
              refine lv_iadd hx hb dX12_layWorths_33 ?_
              refine lv_topi (fun z_33 e_33 => ?_)
              obtain rfl : z_33 = nI (4 * x_ + pe) := e_33.trans (nI_add _ _)
              refine lv_aload_n hx hb dX12_layWorths_34 rfl (lv_at hl 0 rfl) ?_
              refine lv_iload_n hx hb dX12_layWorths_35 rfl (lv_at hl 2 rfl) ?_
              refine lv_iload_n hx hb dX12_layWorths_36 rfl (lv_at hl 3 rfl) ?_
              have hPc := hP.sub (ws' := [(m0, .inr (12, [.ref mp, .int (nI ms), .int (nI C), .int (nI P), .ref mw, .ref mh, .ref mo, .int (nI sS), .int x_value, .int x_digits, .int (nI rc), .int (nI rp), .int (nI ic), .ref m5, .ref m6, .ref m7, .long x_all, .int (nI mpn), .ref mk, .ref mn, .int kd2_2, .ref mq, .ref m8, .ref m9, .int x_last, .int x_steps, .int x_isRound, .int x_tablesDone, .ref mz, .int (nI mrs), .ref mb, .ref md, .long x_hash])), (mo, .inl (cs 0, 4, .inl fmo)), (m7, .inl (cs 1, 16, .inr (.inl fm7))), (mq, .inl (cs 0, 4, .inl fmq2_2))]) [3, 0, 1, 6] rfl
              refine vp_callSl (W.runV (As := [.int (nI x_), .int (nI pe)]) (rest := [.int (nI (4 * x_ + pe)), .ref m8]) ⟨hx, hb, hml, hown, hg⟩ (m_worthOf l D cs m0 mp mw mh mo m5 m6 m7 mk mn mq m8 m9 mz mb md ms C P mpn mrs sS rc rp ic (by omega) (by omega) (by omega) (by omega) (by omega) (by omega) (by omega) (by omega) (by omega) x_value x_digits x_all kd2_2 x_last x_steps x_isRound x_tablesDone x_hash fmo fm7 fmq2_2 (nI x_) pe (by omega)) (cwV 2 hg (gw_V kw_355 kw_356 kw_357 kw_319 kw_354) rfl rfl rfl (by decide +kernel) ⟨(Nat.le_of_ble_eq_true rfl), (Nat.le_of_ble_eq_true rfl)⟩) (pr_SV (q := (RX12, TX12, 33)) 12 0 hK hPc rfl rfl) rfl rfl hl.1 rfl (lv_room (Nat.le_of_ble_eq_true rfl)) dX12_layWorths_37 ⟨(Nat.le_of_ble_eq_true rfl), (Nat.le_of_ble_eq_true rfl)⟩) (fun r_37 h_37 => ?_)
              clear h_37
              refine va_last hx hb hK hP hD hS 2 1 rfl rfl (vp_in_nI (show 4 * x_ + pe < 1024 by omega) (by decide)) dX12_layWorths_40 (fun H locs hP hD hS => ?_)
              obtain ⟨f_40, hf_40⟩ : ∃ f9, f9 = (vp_updL fm8_17 (nI (4 * x_ + pe)).toNatClampNeg r_37) := ⟨_, rfl⟩
              rw [← hf_40] at hP hD
              have hP : va_P D vwCl [(mo, .inl (cs 0, 4, .inl fmo)), (m7, .inl (cs 1, 16, .inr (.inl fm7))), (m8, .inl (cs 1, 1024, .inr (.inl f_40))), (m0, .inr (12, [.ref mp, .int (nI ms), .int (nI C), .int (nI P), .ref mw, .ref mh, .ref mo, .int (nI sS), .int x_value, .int x_digits, .int (nI rc), .int (nI rp), .int (nI ic), .ref m5, .ref m6, .ref m7, .long x_all, .int (nI mpn), .ref mk, .ref mn, .int kd2_2, .ref mq, .ref m8, .ref m9, .int x_last, .int x_steps, .int x_isRound, .int x_tablesDone, .ref mz, .int (nI mrs), .ref mb, .ref md, .long x_hash])), (mk, .inl (cs 0, 8, .inl fmk)), (mn, .inl (cs 0, 32, .inl fmn)), (mq, .inl (cs 0, 4, .inl fmq2_2))] H := hP
              have hD : va_D A [(mo, .inl (cs 0, 4, .inl fmo)), (m7, .inl (cs 1, 16, .inr (.inl fm7))), (m8, .inl (cs 1, 1024, .inr (.inl f_40))), (m0, .inr (12, [.ref mp, .int (nI ms), .int (nI C), .int (nI P), .ref mw, .ref mh, .ref mo, .int (nI sS), .int x_value, .int x_digits, .int (nI rc), .int (nI rp), .int (nI ic), .ref m5, .ref m6, .ref m7, .long x_all, .int (nI mpn), .ref mk, .ref mn, .int kd2_2, .ref mq, .ref m8, .ref m9, .int x_last, .int x_steps, .int x_isRound, .int x_tablesDone, .ref mz, .int (nI mrs), .ref mb, .ref md, .long x_hash])), (mk, .inl (cs 0, 8, .inl fmk)), (mn, .inl (cs 0, 32, .inl fmn)), (mq, .inl (cs 0, 4, .inl fmq2_2))] := hD
              refine lv_iinc (v := (nI (pe + 1))) (lv' := [(3, .int (nI (pe + 1))), (0, .ref m0), (1, .int (nI pk)), (2, .int (nI x_))]) hx hb dX12_layWorths_41 hl (k := 3) rfl (nI_add pe 1) (by decide) rfl (fun ls hl => ?_)
              refine lv_goto (tgt := 17) hx hb dX12_layWorths_44 (by decide) ?_
              exact ih17 (pe + 1) f_40 (by omega) (by omega) _ _ ls hP hD hS (lv_sub hl [1, 2, 3, 0] rfl)
        exact LOOP17 (P - 0 + 1) 0 fm8_7 (by omega) (Nat.lt_succ_self _) _ _ ls hP hD hS (lv_sub hl [1, 2, 3, 0] rfl)
  exact LOOP7 (lim P - 0 + 1) 0 fm8 (by omega) (Nat.lt_succ_self _) _ _ ls hP hD hS (lv_sub hl [1, 2, 0] rfl)

theorem dX12_bestWay_0 : decode cX12_bestWay 0 = .ok (.iconst 0, 1) := by decide +kernel
theorem dX12_bestWay_1 : decode cX12_bestWay 1 = .ok (.istore_n 3, 1) := by decide +kernel
theorem dX12_bestWay_2 : decode cX12_bestWay 2 = .ok (.iconst 1, 1) := by decide +kernel
theorem dX12_bestWay_3 : decode cX12_bestWay 3 = .ok (.istore 4, 2) := by decide +kernel
theorem dX12_bestWay_5 : decode cX12_bestWay 5 = .ok (.iload 4, 2) := by decide +kernel
theorem dX12_bestWay_7 : decode cX12_bestWay 7 = .ok (.iconst 4, 1) := by decide +kernel
theorem dX12_bestWay_8 : decode cX12_bestWay 8 = .ok (.if_icmp .ge 51, 3) := by decide +kernel
theorem dX12_bestWay_11 : decode cX12_bestWay 11 = .ok (.aload_n 0, 1) := by decide +kernel
theorem dX12_bestWay_12 : decode cX12_bestWay 12 = .ok (.getfield 41, 3) := by decide +kernel
theorem dX12_bestWay_15 : decode cX12_bestWay 15 = .ok (.iconst 4, 1) := by decide +kernel
theorem dX12_bestWay_16 : decode cX12_bestWay 16 = .ok (.iload_n 1, 1) := by decide +kernel
theorem dX12_bestWay_17 : decode cX12_bestWay 17 = .ok (.iload_n 2, 1) := by decide +kernel
theorem dX12_bestWay_18 : decode cX12_bestWay 18 = .ok (.iload 4, 2) := by decide +kernel
theorem dX12_bestWay_20 : decode cX12_bestWay 20 = .ok (.invokestatic 181, 3) := by decide +kernel
theorem dX12_bestWay_23 : decode cX12_bestWay 23 = .ok (.imul, 1) := by decide +kernel
theorem dX12_bestWay_24 : decode cX12_bestWay 24 = .ok (.iload_n 2, 1) := by decide +kernel
theorem dX12_bestWay_25 : decode cX12_bestWay 25 = .ok (.iadd, 1) := by decide +kernel
theorem dX12_bestWay_26 : decode cX12_bestWay 26 = .ok (.laload, 1) := by decide +kernel
theorem dX12_bestWay_27 : decode cX12_bestWay 27 = .ok (.aload_n 0, 1) := by decide +kernel
theorem dX12_bestWay_28 : decode cX12_bestWay 28 = .ok (.getfield 41, 3) := by decide +kernel
theorem dX12_bestWay_31 : decode cX12_bestWay 31 = .ok (.iconst 4, 1) := by decide +kernel
theorem dX12_bestWay_32 : decode cX12_bestWay 32 = .ok (.iload_n 1, 1) := by decide +kernel
theorem dX12_bestWay_33 : decode cX12_bestWay 33 = .ok (.iload_n 2, 1) := by decide +kernel
theorem dX12_bestWay_34 : decode cX12_bestWay 34 = .ok (.iload_n 3, 1) := by decide +kernel
theorem dX12_bestWay_35 : decode cX12_bestWay 35 = .ok (.invokestatic 181, 3) := by decide +kernel
theorem dX12_bestWay_38 : decode cX12_bestWay 38 = .ok (.imul, 1) := by decide +kernel
theorem dX12_bestWay_39 : decode cX12_bestWay 39 = .ok (.iload_n 2, 1) := by decide +kernel
theorem dX12_bestWay_40 : decode cX12_bestWay 40 = .ok (.iadd, 1) := by decide +kernel
theorem dX12_bestWay_41 : decode cX12_bestWay 41 = .ok (.laload, 1) := by decide +kernel
theorem dX12_bestWay_42 : decode cX12_bestWay 42 = .ok (.lcmp, 1) := by decide +kernel
theorem dX12_bestWay_43 : decode cX12_bestWay 43 = .ok (.ifCond .le 8, 3) := by decide +kernel
theorem dX12_bestWay_46 : decode cX12_bestWay 46 = .ok (.iload 4, 2) := by decide +kernel
theorem dX12_bestWay_48 : decode cX12_bestWay 48 = .ok (.goto 4, 3) := by decide +kernel
theorem dX12_bestWay_51 : decode cX12_bestWay 51 = .ok (.iload_n 3, 1) := by decide +kernel
theorem dX12_bestWay_52 : decode cX12_bestWay 52 = .ok (.istore_n 3, 1) := by decide +kernel
theorem dX12_bestWay_53 : decode cX12_bestWay 53 = .ok (.iinc 4 1, 3) := by decide +kernel
theorem dX12_bestWay_56 : decode cX12_bestWay 56 = .ok (.goto (-51), 3) := by decide +kernel
theorem dX12_bestWay_59 : decode cX12_bestWay 59 = .ok (.iload_n 3, 1) := by decide +kernel
theorem dX12_bestWay_60 : decode cX12_bestWay 60 = .ok (.ireturn, 1) := by decide +kernel
theorem kw_358 : (.code yX12_with cX12_with 3 (some .int) : Cond) ∈ gw_tbl := gw_in (by decide +kernel) (by decide +kernel)
theorem kw_359 : (.methodLink RX12 181 yX12_with : Cond) ∈ gw_tbl := gw_in (by decide +kernel) (by decide +kernel)
theorem kw_360 : (.static yX12_with : Cond) ∈ gw_tbl := gw_in (by decide +kernel) (by decide +kernel)

set_option maxHeartbeats 4000000 in
set_option maxRecDepth 100000 in
theorem m_bestWay (l : Launch) (D : va_G) (cs : Nat → ClassId) (m0 : Nat) (mp : Nat) (mw : Nat) (mh : Nat) (mo : Nat) (m5 : Nat) (m6 : Nat) (m7 : Nat) (mk : Nat) (mn : Nat) (mq : Nat) (m8 : Nat) (m9 : Nat) (mz : Nat) (mb : Nat) (md : Nat) (ms : Nat) (C : Nat) (P : Nat) (mpn : Nat) (mrs : Nat) (sS : Nat) (rc : Nat) (rp : Nat) (ic : Nat) (hms : ms ≤ 90) (hC5 : C ≤ 5) (hP4 : P ≤ 4) (hmpn : mpn ≤ 8) (hmrs : mrs ≤ 24) (hsS : sS ≤ 4) (hrc : rc ≤ 5) (hrp : rp ≤ 4) (hic : ic ≤ 4) (x_value : Int32) (x_digits : Int32) (x_all : Int64) (x_kind : Int32) (x_last : Int32) (x_steps : Int32) (x_isRound : Int32) (x_tablesDone : Int32) (x_hash : Int64) (fm8 : Nat → Int64) (a_ : Nat) (ha_ : a_ < lim P) (pe : Nat) (hpe : pe < P) : Met l yX12_bestWay (Cond.code yX12_bestWay cX12_bestWay 5 (some .int) :: gw_tbl) ({ frames := 1, cells := 0, slots := 0, locals := 22 }) (pc_S D cs [(m0, .inr (12, [.ref mp, .int (nI ms), .int (nI C), .int (nI P), .ref mw, .ref mh, .ref mo, .int (nI sS), .int x_value, .int x_digits, .int (nI rc), .int (nI rp), .int (nI ic), .ref m5, .ref m6, .ref m7, .long x_all, .int (nI mpn), .ref mk, .ref mn, .int x_kind, .ref mq, .ref m8, .ref m9, .int x_last, .int x_steps, .int x_isRound, .int x_tablesDone, .ref mz, .int (nI mrs), .ref mb, .ref md, .long x_hash])), (m8, .inl (cs 1, 1024, .inr (.inl fm8)))] [.ref m0, .int (nI a_), .int (nI pe)]) (vp_Si (fun r => ∃ k : Nat, r = nI k ∧ k < 4)) 0 0 (fun _ => False) := by
  refine Met.ofW (cc := cX12_bestWay) (maxL := 5) (ret := (some .int)) (by decide) rfl ?_
  intro p e s m args below meth c s₁ B hml hv
  obtain ⟨hargs, hP, hK⟩ := hv
  have hx := B.exec
  have hb := B.bytes
  have hr := B.returns
  have hts := atoms_spec (ws := Cond.code yX12_bestWay cX12_bestWay 5 (some .int) :: gw_tbl) B.pre
  have hg := fun (w : Cond) (h : w ∈ gw_tbl) => hts w (List.mem_cons_of_mem _ h)
  have hown : s.vm.findClass RX12 = some m.cls := findClass_of_methodNamed B.named
  have hlocks := B.notSynchronized
  have hl := lv_entry ([.ref m0, .int (nI a_), .int (nI pe)]) (n := 5) (Nat.le_of_ble_eq_true rfl)
  rw [show entryFrame m args 5 = F0 m 0 (lg_sl ([.ref m0, .int (nI a_), .int (nI pe)]) ++ List.replicate (5 - (lg_sl ([.ref m0, .int (nI a_), .int (nI pe)])).length) Slot.unset).toArray [] from by rw [hargs]; exact lg_entry_eq ..]
  generalize (lg_sl ([.ref m0, .int (nI a_), .int (nI pe)]) ++ List.replicate (5 - (lg_sl ([.ref m0, .int (nI a_), .int (nI pe)])).length) Slot.unset).toArray = ls at hl ⊢
  have hl : lv_has ls 5 [(0, .ref m0), (1, .int (nI a_)), (2, .int (nI pe))] := hl
  refine W_genQ (fun Q hQ => ?_)
  have hlm := lim_le hP4
  have hlq := lim_pos P
  have hsg := sgn_le hP4
  refine lv_iconst (v := 0) hx hb dX12_bestWay_0 (by decide) ?_
  refine lv_istore_n (lv' := [(3, .int 0), (0, .ref m0), (1, .int (nI a_)), (2, .int (nI pe))]) hx hb dX12_bestWay_1 rfl hl (by decide) rfl (fun ls hl => ?_)
  refine lv_iconst (v := 1) hx hb dX12_bestWay_2 (by decide) ?_
  refine lv_istore (lv' := [(4, .int 1), (3, .int 0), (0, .ref m0), (1, .int (nI a_)), (2, .int (nI pe))]) hx hb dX12_bestWay_3 hl (by decide) rfl (fun ls hl => ?_)
  have LOOP5 : ∀ (n5 : Nat) (bw : Nat) (wy : Nat), wy ≤ 4 → bw < 4 → 4 - wy < n5 → ∀ (ls : Array Slot), lv_has ls 5 [(0, .ref m0), (1, .int (nI a_)), (2, .int (nI pe)), (3, .int (nI bw)), (4, .int (nI wy))] → W p l e ({ frames := 1, cells := 0, slots := 0, locals := 22 } : Room) s m args below meth c s.heap [] 0 0 Q (F0 m 5 ls []) := by
    intro n5
    induction n5 with
    | zero =>
      intro bw wy hwy hbw hn5 ls hl
      exact absurd hn5 (Nat.not_lt_zero _)
    | succ n5 ih5 =>
      intro bw wy hwy hbw hn5 ls hl
      refine lv_iload hx hb dX12_bestWay_5 (lv_at hl 4 rfl) ?_
      refine lv_iconst (v := 4) hx hb dX12_bestWay_7 (by decide) ?_
      refine lv_icmp_ge (tgt := 59) hx hb dX12_bestWay_8 (by decide) (fun c_8 => ?_) (fun c_8 => ?_)
      · have n_8 : 4 ≤ wy := b_le_t (by omega) (by omega) c_8
        refine lv_iload_n hx hb dX12_bestWay_59 rfl (lv_at hl 3 rfl) ?_
        refine W_sQ hQ ?_
        exact W.iret (v := (nI bw)) hx hb hr (fun t ht hW => ⟨(nI bw), rfl, ⟨_, rfl, by omega⟩, ht⟩) (fun _ h => absurd h List.not_mem_nil) dX12_bestWay_60
      · have n_8 : wy < 4 := b_le_f (by omega) (by omega) c_8
        refine lv_aload_n hx hb dX12_bestWay_11 rfl (lv_at hl 0 rfl) ?_
        refine va_get (D := D) (ci := 12) (v := .ref m8) (C := RX12) (T := TX12) (N := 33) hx hb hg gwX12 hown hK hP 0 rfl rfl 22 (by decide) (hg _ kw_353) (fun _ h9 => h9) rfl dX12_bestWay_12 ?_
        refine lv_iconst (v := 4) hx hb dX12_bestWay_15 (by decide) ?_
        refine lv_iload_n hx hb dX12_bestWay_16 rfl (lv_at hl 1 rfl) ?_
        refine lv_iload_n hx hb dX12_bestWay_17 rfl (lv_at hl 2 rfl) ?_
        refine lv_iload hx hb dX12_bestWay_18 (lv_at hl 4 rfl) ?_
        refine vp_callSi (W.runS (As := [.int (nI a_), .int (nI pe), .int (nI wy)]) (rest := [.int 4, .ref m8]) ⟨hx, hb, hml, hown, hg⟩ (c_with l a_ pe wy P (by omega) (by omega) (by omega) (by omega)) (va_cwS 3 hg (gw_S kw_359 kw_360 kw_319 kw_358) rfl rfl rfl (by decide +kernel) ⟨(Nat.le_of_ble_eq_true rfl), (Nat.le_of_ble_eq_true rfl)⟩) pr_0 rfl rfl hl.1 rfl (lv_room (Nat.le_of_ble_eq_true rfl)) dX12_bestWay_20 ⟨(Nat.le_of_ble_eq_true rfl), (Nat.le_of_ble_eq_true rfl)⟩) (fun r_20 h_20 => ?_)
        obtain ⟨k_20, rfl, hk_20⟩ := h_20
        refine lv_imul hx hb dX12_bestWay_23 ?_
        refine lv_topi (fun z_23 e_23 => ?_)
        obtain rfl : z_23 = nI (4 * k_20) := e_23.trans (pk_mul _ _)
        refine lv_iload_n hx hb dX12_bestWay_24 rfl (lv_at hl 2 rfl) ?_
        refine lv_iadd hx hb dX12_bestWay_25 ?_
        refine lv_topi (fun z_25 e_25 => ?_)
        obtain rfl : z_25 = nI (4 * k_20 + pe) := e_25.trans (nI_add _ _)
        refine va_lald hx hb hK hP 1 1 rfl rfl (vp_in_nI (show 4 * k_20 + pe < 1024 by omega) (by decide)) dX12_bestWay_26 ?_
        refine lv_topl (fun z_26 e_26 => ?_)
        refine lv_aload_n hx hb dX12_bestWay_27 rfl (lv_at hl 0 rfl) ?_
        refine va_get (D := D) (ci := 12) (v := .ref m8) (C := RX12) (T := TX12) (N := 33) hx hb hg gwX12 hown hK hP 0 rfl rfl 22 (by decide) (hg _ kw_353) (fun _ h9 => h9) rfl dX12_bestWay_28 ?_
        refine lv_iconst (v := 4) hx hb dX12_bestWay_31 (by decide) ?_
        refine lv_iload_n hx hb dX12_bestWay_32 rfl (lv_at hl 1 rfl) ?_
        refine lv_iload_n hx hb dX12_bestWay_33 rfl (lv_at hl 2 rfl) ?_
        refine lv_iload_n hx hb dX12_bestWay_34 rfl (lv_at hl 3 rfl) ?_
        refine vp_callSi (W.runS (As := [.int (nI a_), .int (nI pe), .int (nI bw)]) (rest := [.int 4, .ref m8, .long z_26]) ⟨hx, hb, hml, hown, hg⟩ (c_with l a_ pe bw P (by omega) (by omega) (by omega) (by omega)) (va_cwS 3 hg (gw_S kw_359 kw_360 kw_319 kw_358) rfl rfl rfl (by decide +kernel) ⟨(Nat.le_of_ble_eq_true rfl), (Nat.le_of_ble_eq_true rfl)⟩) pr_0 rfl rfl hl.1 rfl (lv_room (Nat.le_of_ble_eq_true rfl)) dX12_bestWay_35 ⟨(Nat.le_of_ble_eq_true rfl), (Nat.le_of_ble_eq_true rfl)⟩) (fun r_35 h_35 => ?_)
        obtain ⟨k_35, rfl, hk_35⟩ := h_35
        refine lv_imul hx hb dX12_bestWay_38 ?_
        refine lv_topi (fun z_38 e_38 => ?_)
        obtain rfl : z_38 = nI (4 * k_35) := e_38.trans (pk_mul _ _)
        refine lv_iload_n hx hb dX12_bestWay_39 rfl (lv_at hl 2 rfl) ?_
        refine lv_iadd hx hb dX12_bestWay_40 ?_
        refine lv_topi (fun z_40 e_40 => ?_)
        obtain rfl : z_40 = nI (4 * k_35 + pe) := e_40.trans (nI_add _ _)
        refine va_lald hx hb hK hP 1 1 rfl rfl (vp_in_nI (show 4 * k_35 + pe < 1024 by omega) (by decide)) dX12_bestWay_41 ?_
        refine lv_topl (fun z_41 e_41 => ?_)
        refine W.lcmp hx hb dX12_bestWay_42 ?_
        refine lv_topi (fun z_42 e_42 => ?_)
        refine lv_if_le (tgt := 51) hx hb dX12_bestWay_43 (by decide) (fun c_43 => ?_) (fun c_43 => ?_)
        · refine lv_iload_n hx hb dX12_bestWay_51 rfl (lv_at hl 3 rfl) ?_
          refine lv_istore_n (lv' := [(3, .int (nI bw)), (0, .ref m0), (1, .int (nI a_)), (2, .int (nI pe)), (4, .int (nI wy))]) hx hb dX12_bestWay_52 rfl hl (by decide) rfl (fun ls hl => ?_)
          refine lv_iinc (v := (nI (wy + 1))) (lv' := [(4, .int (nI (wy + 1))), (3, .int (nI bw)), (0, .ref m0), (1, .int (nI a_)), (2, .int (nI pe))]) hx hb dX12_bestWay_53 hl (k := 4) rfl (nI_add wy 1) (by decide) rfl (fun ls hl => ?_)
          refine lv_goto (tgt := 5) hx hb dX12_bestWay_56 (by decide) ?_
          exact ih5 bw (wy + 1) (by omega) (by omega) (by omega) ls (lv_sub hl [2, 3, 4, 1, 0] rfl)
        · refine lv_iload hx hb dX12_bestWay_46 (lv_at hl 4 rfl) ?_
          refine lv_goto (tgt := 52) hx hb dX12_bestWay_48 (by decide) ?_
          refine lv_istore_n (lv' := [(3, .int (nI wy)), (0, .ref m0), (1, .int (nI a_)), (2, .int (nI pe)), (4, .int (nI wy))]) hx hb dX12_bestWay_52 rfl hl (by decide) rfl (fun ls hl => ?_)
          refine lv_iinc (v := (nI (wy + 1))) (lv' := [(4, .int (nI (wy + 1))), (3, .int (nI wy)), (0, .ref m0), (1, .int (nI a_)), (2, .int (nI pe))]) hx hb dX12_bestWay_53 hl (k := 4) rfl (nI_add wy 1) (by decide) rfl (fun ls hl => ?_)
          refine lv_goto (tgt := 5) hx hb dX12_bestWay_56 (by decide) ?_
          exact ih5 wy (wy + 1) (by omega) (by omega) (by omega) ls (lv_sub hl [2, 3, 4, 1, 0] rfl)
  exact LOOP5 (4 - 1 + 1) 0 1 (by omega) (by omega) (Nat.lt_succ_self _) ls (lv_sub hl [2, 3, 4, 1, 0] rfl)

theorem dX12_gainOf_0 : decode cX12_gainOf 0 = .ok (.aload_n 0, 1) := by decide +kernel
theorem dX12_gainOf_1 : decode cX12_gainOf 1 = .ok (.getfield 41, 3) := by decide +kernel
theorem dX12_gainOf_4 : decode cX12_gainOf 4 = .ok (.iconst 4, 1) := by decide +kernel
theorem dX12_gainOf_5 : decode cX12_gainOf 5 = .ok (.iload_n 1, 1) := by decide +kernel
theorem dX12_gainOf_6 : decode cX12_gainOf 6 = .ok (.iload_n 2, 1) := by decide +kernel
theorem dX12_gainOf_7 : decode cX12_gainOf 7 = .ok (.aload_n 0, 1) := by decide +kernel
theorem dX12_gainOf_8 : decode cX12_gainOf 8 = .ok (.iload_n 1, 1) := by decide +kernel
theorem dX12_gainOf_9 : decode cX12_gainOf 9 = .ok (.iload_n 2, 1) := by decide +kernel
theorem dX12_gainOf_10 : decode cX12_gainOf 10 = .ok (.invokevirtual 185, 3) := by decide +kernel
theorem dX12_gainOf_13 : decode cX12_gainOf 13 = .ok (.invokestatic 181, 3) := by decide +kernel
theorem dX12_gainOf_16 : decode cX12_gainOf 16 = .ok (.imul, 1) := by decide +kernel
theorem dX12_gainOf_17 : decode cX12_gainOf 17 = .ok (.iload_n 2, 1) := by decide +kernel
theorem dX12_gainOf_18 : decode cX12_gainOf 18 = .ok (.iadd, 1) := by decide +kernel
theorem dX12_gainOf_19 : decode cX12_gainOf 19 = .ok (.laload, 1) := by decide +kernel
theorem dX12_gainOf_20 : decode cX12_gainOf 20 = .ok (.aload_n 0, 1) := by decide +kernel
theorem dX12_gainOf_21 : decode cX12_gainOf 21 = .ok (.getfield 41, 3) := by decide +kernel
theorem dX12_gainOf_24 : decode cX12_gainOf 24 = .ok (.iconst 4, 1) := by decide +kernel
theorem dX12_gainOf_25 : decode cX12_gainOf 25 = .ok (.iload_n 1, 1) := by decide +kernel
theorem dX12_gainOf_26 : decode cX12_gainOf 26 = .ok (.imul, 1) := by decide +kernel
theorem dX12_gainOf_27 : decode cX12_gainOf 27 = .ok (.iload_n 2, 1) := by decide +kernel
theorem dX12_gainOf_28 : decode cX12_gainOf 28 = .ok (.iadd, 1) := by decide +kernel
theorem dX12_gainOf_29 : decode cX12_gainOf 29 = .ok (.laload, 1) := by decide +kernel
theorem dX12_gainOf_30 : decode cX12_gainOf 30 = .ok (.lsub, 1) := by decide +kernel
theorem dX12_gainOf_31 : decode cX12_gainOf 31 = .ok (.lreturn, 1) := by decide +kernel
theorem kw_361 : (.code yX12_bestWay cX12_bestWay 5 (some .int) : Cond) ∈ gw_tbl := gw_in (by decide +kernel) (by decide +kernel)
theorem kw_362 : (.methodLink RX12 185 yX12_bestWay : Cond) ∈ gw_tbl := gw_in (by decide +kernel) (by decide +kernel)
theorem kw_363 : (.instanceMethod yX12_bestWay : Cond) ∈ gw_tbl := gw_in (by decide +kernel) (by decide +kernel)
theorem kw_364 : (.selects RX12 yX12_bestWay yX12_bestWay : Cond) ∈ gw_tbl := gw_in (by decide +kernel) (by decide +kernel)

set_option maxHeartbeats 4000000 in
set_option maxRecDepth 100000 in
theorem m_gainOf (l : Launch) (D : va_G) (cs : Nat → ClassId) (m0 : Nat) (mp : Nat) (mw : Nat) (mh : Nat) (mo : Nat) (m5 : Nat) (m6 : Nat) (m7 : Nat) (mk : Nat) (mn : Nat) (mq : Nat) (m8 : Nat) (m9 : Nat) (mz : Nat) (mb : Nat) (md : Nat) (ms : Nat) (C : Nat) (P : Nat) (mpn : Nat) (mrs : Nat) (sS : Nat) (rc : Nat) (rp : Nat) (ic : Nat) (hms : ms ≤ 90) (hC5 : C ≤ 5) (hP4 : P ≤ 4) (hmpn : mpn ≤ 8) (hmrs : mrs ≤ 24) (hsS : sS ≤ 4) (hrc : rc ≤ 5) (hrp : rp ≤ 4) (hic : ic ≤ 4) (x_value : Int32) (x_digits : Int32) (x_all : Int64) (x_kind : Int32) (x_last : Int32) (x_steps : Int32) (x_isRound : Int32) (x_tablesDone : Int32) (x_hash : Int64) (fm8 : Nat → Int64) (a_ : Nat) (ha_ : a_ < lim P) (pe : Nat) (hpe : pe < P) : Met l yX12_gainOf (Cond.code yX12_gainOf cX12_gainOf 3 (some .long) :: gw_tbl) ({ frames := 2, cells := 0, slots := 0, locals := 46 }) (pc_S D cs [(m0, .inr (12, [.ref mp, .int (nI ms), .int (nI C), .int (nI P), .ref mw, .ref mh, .ref mo, .int (nI sS), .int x_value, .int x_digits, .int (nI rc), .int (nI rp), .int (nI ic), .ref m5, .ref m6, .ref m7, .long x_all, .int (nI mpn), .ref mk, .ref mn, .int x_kind, .ref mq, .ref m8, .ref m9, .int x_last, .int x_steps, .int x_isRound, .int x_tablesDone, .ref mz, .int (nI mrs), .ref mb, .ref md, .long x_hash])), (m8, .inl (cs 1, 1024, .inr (.inl fm8)))] [.ref m0, .int (nI a_), .int (nI pe)]) (vp_Sl (fun r => True)) 0 0 (fun _ => False) := by
  refine Met.ofW (cc := cX12_gainOf) (maxL := 3) (ret := (some .long)) (by decide) rfl ?_
  intro p e s m args below meth c s₁ B hml hv
  obtain ⟨hargs, hP, hK⟩ := hv
  have hx := B.exec
  have hb := B.bytes
  have hr := B.returns
  have hts := atoms_spec (ws := Cond.code yX12_gainOf cX12_gainOf 3 (some .long) :: gw_tbl) B.pre
  have hg := fun (w : Cond) (h : w ∈ gw_tbl) => hts w (List.mem_cons_of_mem _ h)
  have hown : s.vm.findClass RX12 = some m.cls := findClass_of_methodNamed B.named
  have hlocks := B.notSynchronized
  have hl := lv_entry ([.ref m0, .int (nI a_), .int (nI pe)]) (n := 3) (Nat.le_of_ble_eq_true rfl)
  rw [show entryFrame m args 3 = F0 m 0 (lg_sl ([.ref m0, .int (nI a_), .int (nI pe)]) ++ List.replicate (3 - (lg_sl ([.ref m0, .int (nI a_), .int (nI pe)])).length) Slot.unset).toArray [] from by rw [hargs]; exact lg_entry_eq ..]
  generalize (lg_sl ([.ref m0, .int (nI a_), .int (nI pe)]) ++ List.replicate (3 - (lg_sl ([.ref m0, .int (nI a_), .int (nI pe)])).length) Slot.unset).toArray = ls at hl ⊢
  have hl : lv_has ls 3 [(0, .ref m0), (1, .int (nI a_)), (2, .int (nI pe))] := hl
  refine W_genQ (fun Q hQ => ?_)
  have hlm := lim_le hP4
  have hlq := lim_pos P
  have hsg := sgn_le hP4
  refine lv_aload_n hx hb dX12_gainOf_0 rfl (lv_at hl 0 rfl) ?_
  refine va_get (D := D) (ci := 12) (v := .ref m8) (C := RX12) (T := TX12) (N := 33) hx hb hg gwX12 hown hK hP 0 rfl rfl 22 (by decide) (hg _ kw_353) (fun _ h9 => h9) rfl dX12_gainOf_1 ?_
  refine lv_iconst (v := 4) hx hb dX12_gainOf_4 (by decide) ?_
  refine lv_iload_n hx hb dX12_gainOf_5 rfl (lv_at hl 1 rfl) ?_
  refine lv_iload_n hx hb dX12_gainOf_6 rfl (lv_at hl 2 rfl) ?_
  refine lv_aload_n hx hb dX12_gainOf_7 rfl (lv_at hl 0 rfl) ?_
  refine lv_iload_n hx hb dX12_gainOf_8 rfl (lv_at hl 1 rfl) ?_
  refine lv_iload_n hx hb dX12_gainOf_9 rfl (lv_at hl 2 rfl) ?_
  have hPc := hP.sub (ws' := [(m0, .inr (12, [.ref mp, .int (nI ms), .int (nI C), .int (nI P), .ref mw, .ref mh, .ref mo, .int (nI sS), .int x_value, .int x_digits, .int (nI rc), .int (nI rp), .int (nI ic), .ref m5, .ref m6, .ref m7, .long x_all, .int (nI mpn), .ref mk, .ref mn, .int x_kind, .ref mq, .ref m8, .ref m9, .int x_last, .int x_steps, .int x_isRound, .int x_tablesDone, .ref mz, .int (nI mrs), .ref mb, .ref md, .long x_hash])), (m8, .inl (cs 1, 1024, .inr (.inl fm8)))]) [0, 1] rfl
  refine vp_callSi (W.runV (As := [.int (nI a_), .int (nI pe)]) (rest := [.int (nI pe), .int (nI a_), .int 4, .ref m8]) ⟨hx, hb, hml, hown, hg⟩ (m_bestWay l D cs m0 mp mw mh mo m5 m6 m7 mk mn mq m8 m9 mz mb md ms C P mpn mrs sS rc rp ic (by omega) (by omega) (by omega) (by omega) (by omega) (by omega) (by omega) (by omega) (by omega) x_value x_digits x_all x_kind x_last x_steps x_isRound x_tablesDone x_hash fm8 a_ (by omega) pe (by omega)) (cwV 2 hg (gw_V kw_362 kw_363 kw_364 kw_319 kw_361) rfl rfl rfl (by decide +kernel) ⟨(Nat.le_of_ble_eq_true rfl), (Nat.le_of_ble_eq_true rfl)⟩) (pr_SV (q := (RX12, TX12, 33)) 12 0 hK hPc rfl rfl) rfl rfl hl.1 rfl (lv_room (Nat.le_of_ble_eq_true rfl)) dX12_gainOf_10 ⟨(Nat.le_of_ble_eq_true rfl), (Nat.le_of_ble_eq_true rfl)⟩) (fun r_10 h_10 => ?_)
  obtain ⟨k_10, rfl, hk_10⟩ := h_10
  refine vp_callSi (W.runS (As := [.int (nI a_), .int (nI pe), .int (nI k_10)]) (rest := [.int 4, .ref m8]) ⟨hx, hb, hml, hown, hg⟩ (c_with l a_ pe k_10 P (by omega) (by omega) (by omega) (by omega)) (va_cwS 3 hg (gw_S kw_359 kw_360 kw_319 kw_358) rfl rfl rfl (by decide +kernel) ⟨(Nat.le_of_ble_eq_true rfl), (Nat.le_of_ble_eq_true rfl)⟩) pr_0 rfl rfl hl.1 rfl (lv_room (Nat.le_of_ble_eq_true rfl)) dX12_gainOf_13 ⟨(Nat.le_of_ble_eq_true rfl), (Nat.le_of_ble_eq_true rfl)⟩) (fun r_13 h_13 => ?_)
  obtain ⟨k_13, rfl, hk_13⟩ := h_13
  refine lv_imul hx hb dX12_gainOf_16 ?_
  refine lv_topi (fun z_16 e_16 => ?_)
  obtain rfl : z_16 = nI (4 * k_13) := e_16.trans (pk_mul _ _)
  refine lv_iload_n hx hb dX12_gainOf_17 rfl (lv_at hl 2 rfl) ?_
  refine lv_iadd hx hb dX12_gainOf_18 ?_
  refine lv_topi (fun z_18 e_18 => ?_)
  obtain rfl : z_18 = nI (4 * k_13 + pe) := e_18.trans (nI_add _ _)
  refine va_lald hx hb hK hP 1 1 rfl rfl (vp_in_nI (show 4 * k_13 + pe < 1024 by omega) (by decide)) dX12_gainOf_19 ?_
  refine lv_topl (fun z_19 e_19 => ?_)
  refine lv_aload_n hx hb dX12_gainOf_20 rfl (lv_at hl 0 rfl) ?_
  refine va_get (D := D) (ci := 12) (v := .ref m8) (C := RX12) (T := TX12) (N := 33) hx hb hg gwX12 hown hK hP 0 rfl rfl 22 (by decide) (hg _ kw_353) (fun _ h9 => h9) rfl dX12_gainOf_21 ?_
  refine lv_iconst (v := 4) hx hb dX12_gainOf_24 (by decide) ?_
  refine lv_iload_n hx hb dX12_gainOf_25 rfl (lv_at hl 1 rfl) ?_
  refine lv_imul hx hb dX12_gainOf_26 ?_
  refine lv_topi (fun z_26 e_26 => ?_)
  obtain rfl : z_26 = nI (4 * a_) := e_26.trans (pk_mul _ _)
  refine lv_iload_n hx hb dX12_gainOf_27 rfl (lv_at hl 2 rfl) ?_
  refine lv_iadd hx hb dX12_gainOf_28 ?_
  refine lv_topi (fun z_28 e_28 => ?_)
  obtain rfl : z_28 = nI (4 * a_ + pe) := e_28.trans (nI_add _ _)
  refine va_lald hx hb hK hP 1 1 rfl rfl (vp_in_nI (show 4 * a_ + pe < 1024 by omega) (by decide)) dX12_gainOf_29 ?_
  refine lv_topl (fun z_29 e_29 => ?_)
  refine lv_lsub hx hb dX12_gainOf_30 ?_
  refine lv_topl (fun z_30 e_30 => ?_)
  refine W_sQ hQ ?_
  exact W.lret (v := z_30) hx hb hr (fun t ht hW => ⟨z_30, rfl, trivial, ht⟩) (fun _ h => absurd h List.not_mem_nil) dX12_gainOf_31

theorem dX12_firstOf_0 : decode cX12_firstOf 0 = .ok (.iconst 0, 1) := by decide +kernel
theorem dX12_firstOf_1 : decode cX12_firstOf 1 = .ok (.istore_n 2, 1) := by decide +kernel
theorem dX12_firstOf_2 : decode cX12_firstOf 2 = .ok (.iload_n 2, 1) := by decide +kernel
theorem dX12_firstOf_3 : decode cX12_firstOf 3 = .ok (.aload_n 0, 1) := by decide +kernel
theorem dX12_firstOf_4 : decode cX12_firstOf 4 = .ok (.getfield 57, 3) := by decide +kernel
theorem dX12_firstOf_7 : decode cX12_firstOf 7 = .ok (.if_icmp .ge 22, 3) := by decide +kernel
theorem dX12_firstOf_10 : decode cX12_firstOf 10 = .ok (.aload_n 0, 1) := by decide +kernel
theorem dX12_firstOf_11 : decode cX12_firstOf 11 = .ok (.iload_n 1, 1) := by decide +kernel
theorem dX12_firstOf_12 : decode cX12_firstOf 12 = .ok (.iload_n 2, 1) := by decide +kernel
theorem dX12_firstOf_13 : decode cX12_firstOf 13 = .ok (.invokevirtual 188, 3) := by decide +kernel
theorem dX12_firstOf_16 : decode cX12_firstOf 16 = .ok (.lconst 0, 1) := by decide +kernel
theorem dX12_firstOf_17 : decode cX12_firstOf 17 = .ok (.lcmp, 1) := by decide +kernel
theorem dX12_firstOf_18 : decode cX12_firstOf 18 = .ok (.ifCond .le 5, 3) := by decide +kernel
theorem dX12_firstOf_21 : decode cX12_firstOf 21 = .ok (.iload_n 2, 1) := by decide +kernel
theorem dX12_firstOf_22 : decode cX12_firstOf 22 = .ok (.ireturn, 1) := by decide +kernel
theorem dX12_firstOf_23 : decode cX12_firstOf 23 = .ok (.iinc 2 1, 3) := by decide +kernel
theorem dX12_firstOf_26 : decode cX12_firstOf 26 = .ok (.goto (-24), 3) := by decide +kernel
theorem dX12_firstOf_29 : decode cX12_firstOf 29 = .ok (.iconst (-1), 1) := by decide +kernel
theorem dX12_firstOf_30 : decode cX12_firstOf 30 = .ok (.ireturn, 1) := by decide +kernel
theorem kw_365 : (.code yX12_gainOf cX12_gainOf 3 (some .long) : Cond) ∈ gw_tbl := gw_in (by decide +kernel) (by decide +kernel)
theorem kw_366 : (.methodLink RX12 188 yX12_gainOf : Cond) ∈ gw_tbl := gw_in (by decide +kernel) (by decide +kernel)
theorem kw_367 : (.instanceMethod yX12_gainOf : Cond) ∈ gw_tbl := gw_in (by decide +kernel) (by decide +kernel)
theorem kw_368 : (.selects RX12 yX12_gainOf yX12_gainOf : Cond) ∈ gw_tbl := gw_in (by decide +kernel) (by decide +kernel)

set_option maxHeartbeats 4000000 in
set_option maxRecDepth 100000 in
theorem m_firstOf (l : Launch) (D : va_G) (cs : Nat → ClassId) (m0 : Nat) (mp : Nat) (mw : Nat) (mh : Nat) (mo : Nat) (m5 : Nat) (m6 : Nat) (m7 : Nat) (mk : Nat) (mn : Nat) (mq : Nat) (m8 : Nat) (m9 : Nat) (mz : Nat) (mb : Nat) (md : Nat) (ms : Nat) (C : Nat) (P : Nat) (mpn : Nat) (mrs : Nat) (sS : Nat) (rc : Nat) (rp : Nat) (ic : Nat) (hms : ms ≤ 90) (hC5 : C ≤ 5) (hP4 : P ≤ 4) (hmpn : mpn ≤ 8) (hmrs : mrs ≤ 24) (hsS : sS ≤ 4) (hrc : rc ≤ 5) (hrp : rp ≤ 4) (hic : ic ≤ 4) (x_value : Int32) (x_digits : Int32) (x_all : Int64) (x_kind : Int32) (x_last : Int32) (x_steps : Int32) (x_isRound : Int32) (x_tablesDone : Int32) (x_hash : Int64) (fm8 : Nat → Int64) (a_ : Nat) (ha_ : a_ < lim P) : Met l yX12_firstOf (Cond.code yX12_firstOf cX12_firstOf 3 (some .int) :: gw_tbl) ({ frames := 3, cells := 0, slots := 0, locals := 68 }) (pc_S D cs [(m0, .inr (12, [.ref mp, .int (nI ms), .int (nI C), .int (nI P), .ref mw, .ref mh, .ref mo, .int (nI sS), .int x_value, .int x_digits, .int (nI rc), .int (nI rp), .int (nI ic), .ref m5, .ref m6, .ref m7, .long x_all, .int (nI mpn), .ref mk, .ref mn, .int x_kind, .ref mq, .ref m8, .ref m9, .int x_last, .int x_steps, .int x_isRound, .int x_tablesDone, .ref mz, .int (nI mrs), .ref mb, .ref md, .long x_hash])), (m8, .inl (cs 1, 1024, .inr (.inl fm8)))] [.ref m0, .int (nI a_)]) (vp_Si (fun r => r = -1 ∨ ∃ k : Nat, r = nI k ∧ k < P)) 0 0 (fun _ => False) := by
  refine Met.ofW (cc := cX12_firstOf) (maxL := 3) (ret := (some .int)) (by decide) rfl ?_
  intro p e s m args below meth c s₁ B hml hv
  obtain ⟨hargs, hP, hK⟩ := hv
  have hx := B.exec
  have hb := B.bytes
  have hr := B.returns
  have hts := atoms_spec (ws := Cond.code yX12_firstOf cX12_firstOf 3 (some .int) :: gw_tbl) B.pre
  have hg := fun (w : Cond) (h : w ∈ gw_tbl) => hts w (List.mem_cons_of_mem _ h)
  have hown : s.vm.findClass RX12 = some m.cls := findClass_of_methodNamed B.named
  have hlocks := B.notSynchronized
  have hl := lv_entry ([.ref m0, .int (nI a_)]) (n := 3) (Nat.le_of_ble_eq_true rfl)
  rw [show entryFrame m args 3 = F0 m 0 (lg_sl ([.ref m0, .int (nI a_)]) ++ List.replicate (3 - (lg_sl ([.ref m0, .int (nI a_)])).length) Slot.unset).toArray [] from by rw [hargs]; exact lg_entry_eq ..]
  generalize (lg_sl ([.ref m0, .int (nI a_)]) ++ List.replicate (3 - (lg_sl ([.ref m0, .int (nI a_)])).length) Slot.unset).toArray = ls at hl ⊢
  have hl : lv_has ls 3 [(0, .ref m0), (1, .int (nI a_))] := hl
  refine W_genQ (fun Q hQ => ?_)
  have hlm := lim_le hP4
  have hlq := lim_pos P
  have hsg := sgn_le hP4
  refine lv_iconst (v := 0) hx hb dX12_firstOf_0 (by decide) ?_
  refine lv_istore_n (lv' := [(2, .int 0), (0, .ref m0), (1, .int (nI a_))]) hx hb dX12_firstOf_1 rfl hl (by decide) rfl (fun ls hl => ?_)
  have LOOP2 : ∀ (n2 : Nat) (pe : Nat), pe ≤ P → P - pe < n2 → ∀ (ls : Array Slot), lv_has ls 3 [(0, .ref m0), (1, .int (nI a_)), (2, .int (nI pe))] → W p l e ({ frames := 3, cells := 0, slots := 0, locals := 68 } : Room) s m args below meth c s.heap [] 0 0 Q (F0 m 2 ls []) := by
    intro n2
    induction n2 with
    | zero =>
      intro pe hpe hn2 ls hl
      exact absurd hn2 (Nat.not_lt_zero _)
    | succ n2 ih2 =>
      intro pe hpe hn2 ls hl
      refine lv_iload_n hx hb dX12_firstOf_2 rfl (lv_at hl 2 rfl) ?_
      refine lv_aload_n hx hb dX12_firstOf_3 rfl (lv_at hl 0 rfl) ?_
      refine va_get (D := D) (ci := 12) (v := .int (nI P)) (C := RX12) (T := TX12) (N := 33) hx hb hg gwX12 hown hK hP 0 rfl rfl 3 (by decide) (hg _ kw_315) (fun _ h9 => h9) rfl dX12_firstOf_4 ?_
      refine lv_icmp_ge (tgt := 29) hx hb dX12_firstOf_7 (by decide) (fun c_7 => ?_) (fun c_7 => ?_)
      · have n_7 : P ≤ pe := b_le_t (by omega) (by omega) c_7
        refine lv_iconst (v := (-1)) hx hb dX12_firstOf_29 (by decide) ?_
        refine W_sQ hQ ?_
        exact W.iret (v := (-1)) hx hb hr (fun t ht hW => ⟨(-1), rfl, (Or.inl rfl), ht⟩) (fun _ h => absurd h List.not_mem_nil) dX12_firstOf_30
      · have n_7 : pe < P := b_le_f (by omega) (by omega) c_7
        refine lv_aload_n hx hb dX12_firstOf_10 rfl (lv_at hl 0 rfl) ?_
        refine lv_iload_n hx hb dX12_firstOf_11 rfl (lv_at hl 1 rfl) ?_
        refine lv_iload_n hx hb dX12_firstOf_12 rfl (lv_at hl 2 rfl) ?_
        have hPc := hP.sub (ws' := [(m0, .inr (12, [.ref mp, .int (nI ms), .int (nI C), .int (nI P), .ref mw, .ref mh, .ref mo, .int (nI sS), .int x_value, .int x_digits, .int (nI rc), .int (nI rp), .int (nI ic), .ref m5, .ref m6, .ref m7, .long x_all, .int (nI mpn), .ref mk, .ref mn, .int x_kind, .ref mq, .ref m8, .ref m9, .int x_last, .int x_steps, .int x_isRound, .int x_tablesDone, .ref mz, .int (nI mrs), .ref mb, .ref md, .long x_hash])), (m8, .inl (cs 1, 1024, .inr (.inl fm8)))]) [0, 1] rfl
        refine vp_callSl (W.runV (As := [.int (nI a_), .int (nI pe)]) (rest := []) ⟨hx, hb, hml, hown, hg⟩ (m_gainOf l D cs m0 mp mw mh mo m5 m6 m7 mk mn mq m8 m9 mz mb md ms C P mpn mrs sS rc rp ic (by omega) (by omega) (by omega) (by omega) (by omega) (by omega) (by omega) (by omega) (by omega) x_value x_digits x_all x_kind x_last x_steps x_isRound x_tablesDone x_hash fm8 a_ (by omega) pe (by omega)) (cwV 2 hg (gw_V kw_366 kw_367 kw_368 kw_319 kw_365) rfl rfl rfl (by decide +kernel) ⟨(Nat.le_of_ble_eq_true rfl), (Nat.le_of_ble_eq_true rfl)⟩) (pr_SV (q := (RX12, TX12, 33)) 12 0 hK hPc rfl rfl) rfl rfl hl.1 rfl (lv_room (Nat.le_of_ble_eq_true rfl)) dX12_firstOf_13 ⟨(Nat.le_of_ble_eq_true rfl), (Nat.le_of_ble_eq_true rfl)⟩) (fun r_13 h_13 => ?_)
        clear h_13
        refine lv_lconst (v := 0) hx hb dX12_firstOf_16 (by decide) ?_
        refine W.lcmp hx hb dX12_firstOf_17 ?_
        refine lv_topi (fun z_17 e_17 => ?_)
        refine lv_if_le (tgt := 23) hx hb dX12_firstOf_18 (by decide) (fun c_18 => ?_) (fun c_18 => ?_)
        · refine lv_iinc (v := (nI (pe + 1))) (lv' := [(2, .int (nI (pe + 1))), (0, .ref m0), (1, .int (nI a_))]) hx hb dX12_firstOf_23 hl (k := 2) rfl (nI_add pe 1) (by decide) rfl (fun ls hl => ?_)
          refine lv_goto (tgt := 2) hx hb dX12_firstOf_26 (by decide) ?_
          exact ih2 (pe + 1) (by omega) (by omega) ls (lv_sub hl [1, 2, 0] rfl)
        · refine lv_iload_n hx hb dX12_firstOf_21 rfl (lv_at hl 2 rfl) ?_
          refine W_sQ hQ ?_
          exact W.iret (v := (nI pe)) hx hb hr (fun t ht hW => ⟨(nI pe), rfl, (Or.inr ⟨_, rfl, by omega⟩), ht⟩) (fun _ h => absurd h List.not_mem_nil) dX12_firstOf_22
  exact LOOP2 (P - 0 + 1) 0 (by omega) (Nat.lt_succ_self _) ls (lv_sub hl [1, 2, 0] rfl)

theorem dX12_together_0 : decode cX12_together 0 = .ok (.lconst 0, 1) := by decide +kernel
theorem dX12_together_1 : decode cX12_together 1 = .ok (.lstore_n 2, 1) := by decide +kernel
theorem dX12_together_2 : decode cX12_together 2 = .ok (.iconst 0, 1) := by decide +kernel
theorem dX12_together_3 : decode cX12_together 3 = .ok (.istore 4, 2) := by decide +kernel
theorem dX12_together_5 : decode cX12_together 5 = .ok (.iload 4, 2) := by decide +kernel
theorem dX12_together_7 : decode cX12_together 7 = .ok (.aload_n 0, 1) := by decide +kernel
theorem dX12_together_8 : decode cX12_together 8 = .ok (.getfield 57, 3) := by decide +kernel
theorem dX12_together_11 : decode cX12_together 11 = .ok (.if_icmp .ge 23, 3) := by decide +kernel
theorem dX12_together_14 : decode cX12_together 14 = .ok (.lload_n 2, 1) := by decide +kernel
theorem dX12_together_15 : decode cX12_together 15 = .ok (.aload_n 0, 1) := by decide +kernel
theorem dX12_together_16 : decode cX12_together 16 = .ok (.getfield 41, 3) := by decide +kernel
theorem dX12_together_19 : decode cX12_together 19 = .ok (.iconst 4, 1) := by decide +kernel
theorem dX12_together_20 : decode cX12_together 20 = .ok (.iload_n 1, 1) := by decide +kernel
theorem dX12_together_21 : decode cX12_together 21 = .ok (.imul, 1) := by decide +kernel
theorem dX12_together_22 : decode cX12_together 22 = .ok (.iload 4, 2) := by decide +kernel
theorem dX12_together_24 : decode cX12_together 24 = .ok (.iadd, 1) := by decide +kernel
theorem dX12_together_25 : decode cX12_together 25 = .ok (.laload, 1) := by decide +kernel
theorem dX12_together_26 : decode cX12_together 26 = .ok (.ladd, 1) := by decide +kernel
theorem dX12_together_27 : decode cX12_together 27 = .ok (.lstore_n 2, 1) := by decide +kernel
theorem dX12_together_28 : decode cX12_together 28 = .ok (.iinc 4 1, 3) := by decide +kernel
theorem dX12_together_31 : decode cX12_together 31 = .ok (.goto (-26), 3) := by decide +kernel
theorem dX12_together_34 : decode cX12_together 34 = .ok (.lload_n 2, 1) := by decide +kernel
theorem dX12_together_35 : decode cX12_together 35 = .ok (.lreturn, 1) := by decide +kernel

set_option maxHeartbeats 4000000 in
set_option maxRecDepth 100000 in
theorem m_together (l : Launch) (D : va_G) (cs : Nat → ClassId) (m0 : Nat) (mp : Nat) (mw : Nat) (mh : Nat) (mo : Nat) (m5 : Nat) (m6 : Nat) (m7 : Nat) (mk : Nat) (mn : Nat) (mq : Nat) (m8 : Nat) (m9 : Nat) (mz : Nat) (mb : Nat) (md : Nat) (ms : Nat) (C : Nat) (P : Nat) (mpn : Nat) (mrs : Nat) (sS : Nat) (rc : Nat) (rp : Nat) (ic : Nat) (hms : ms ≤ 90) (hC5 : C ≤ 5) (hP4 : P ≤ 4) (hmpn : mpn ≤ 8) (hmrs : mrs ≤ 24) (hsS : sS ≤ 4) (hrc : rc ≤ 5) (hrp : rp ≤ 4) (hic : ic ≤ 4) (x_value : Int32) (x_digits : Int32) (x_all : Int64) (x_kind : Int32) (x_last : Int32) (x_steps : Int32) (x_isRound : Int32) (x_tablesDone : Int32) (x_hash : Int64) (fm8 : Nat → Int64) (a_ : Nat) (ha_ : a_ < lim P) : Met l yX12_together (Cond.code yX12_together cX12_together 5 (some .long) :: gw_tbl) ({ frames := 0, cells := 0, slots := 0, locals := 0 }) (pc_S D cs [(m0, .inr (12, [.ref mp, .int (nI ms), .int (nI C), .int (nI P), .ref mw, .ref mh, .ref mo, .int (nI sS), .int x_value, .int x_digits, .int (nI rc), .int (nI rp), .int (nI ic), .ref m5, .ref m6, .ref m7, .long x_all, .int (nI mpn), .ref mk, .ref mn, .int x_kind, .ref mq, .ref m8, .ref m9, .int x_last, .int x_steps, .int x_isRound, .int x_tablesDone, .ref mz, .int (nI mrs), .ref mb, .ref md, .long x_hash])), (m8, .inl (cs 1, 1024, .inr (.inl fm8)))] [.ref m0, .int (nI a_)]) (vp_Sl (fun r => True)) 0 0 (fun _ => False) := by
  refine Met.ofW (cc := cX12_together) (maxL := 5) (ret := (some .long)) (by decide) rfl ?_
  intro p e s m args below meth c s₁ B hml hv
  obtain ⟨hargs, hP, hK⟩ := hv
  have hx := B.exec
  have hb := B.bytes
  have hr := B.returns
  have hts := atoms_spec (ws := Cond.code yX12_together cX12_together 5 (some .long) :: gw_tbl) B.pre
  have hg := fun (w : Cond) (h : w ∈ gw_tbl) => hts w (List.mem_cons_of_mem _ h)
  have hown : s.vm.findClass RX12 = some m.cls := findClass_of_methodNamed B.named
  have hlocks := B.notSynchronized
  have hl := lv_entry ([.ref m0, .int (nI a_)]) (n := 5) (Nat.le_of_ble_eq_true rfl)
  rw [show entryFrame m args 5 = F0 m 0 (lg_sl ([.ref m0, .int (nI a_)]) ++ List.replicate (5 - (lg_sl ([.ref m0, .int (nI a_)])).length) Slot.unset).toArray [] from by rw [hargs]; exact lg_entry_eq ..]
  generalize (lg_sl ([.ref m0, .int (nI a_)]) ++ List.replicate (5 - (lg_sl ([.ref m0, .int (nI a_)])).length) Slot.unset).toArray = ls at hl ⊢
  have hl : lv_has ls 5 [(0, .ref m0), (1, .int (nI a_))] := hl
  refine W_genQ (fun Q hQ => ?_)
  have hlm := lim_le hP4
  have hlq := lim_pos P
  have hsg := sgn_le hP4
  refine lv_lconst (v := 0) hx hb dX12_together_0 (by decide) ?_
  refine lv_lstore_n (lv' := [(2, .long 0), (0, .ref m0), (1, .int (nI a_))]) hx hb dX12_together_1 rfl hl (by decide) rfl (fun ls hl => ?_)
  refine lv_iconst (v := 0) hx hb dX12_together_2 (by decide) ?_
  refine lv_istore (lv' := [(4, .int 0), (2, .long 0), (0, .ref m0), (1, .int (nI a_))]) hx hb dX12_together_3 hl (by decide) rfl (fun ls hl => ?_)
  have LOOP5 : ∀ (n5 : Nat) (u2_5 : Int64) (pe : Nat), pe ≤ P → P - pe < n5 → ∀ (ls : Array Slot), lv_has ls 5 [(0, .ref m0), (1, .int (nI a_)), (2, .long u2_5), (4, .int (nI pe))] → W p l e ({ frames := 0, cells := 0, slots := 0, locals := 0 } : Room) s m args below meth c s.heap [] 0 0 Q (F0 m 5 ls []) := by
    intro n5
    induction n5 with
    | zero =>
      intro u2_5 pe hpe hn5 ls hl
      exact absurd hn5 (Nat.not_lt_zero _)
    | succ n5 ih5 =>
      intro u2_5 pe hpe hn5 ls hl
      refine lv_iload hx hb dX12_together_5 (lv_at hl 3 rfl) ?_
      refine lv_aload_n hx hb dX12_together_7 rfl (lv_at hl 0 rfl) ?_
      refine va_get (D := D) (ci := 12) (v := .int (nI P)) (C := RX12) (T := TX12) (N := 33) hx hb hg gwX12 hown hK hP 0 rfl rfl 3 (by decide) (hg _ kw_315) (fun _ h9 => h9) rfl dX12_together_8 ?_
      refine lv_icmp_ge (tgt := 34) hx hb dX12_together_11 (by decide) (fun c_11 => ?_) (fun c_11 => ?_)
      · have n_11 : P ≤ pe := b_le_t (by omega) (by omega) c_11
        refine lv_lload_n hx hb dX12_together_34 rfl (lv_at hl 2 rfl) ?_
        refine W_sQ hQ ?_
        exact W.lret (v := u2_5) hx hb hr (fun t ht hW => ⟨u2_5, rfl, trivial, ht⟩) (fun _ h => absurd h List.not_mem_nil) dX12_together_35
      · have n_11 : pe < P := b_le_f (by omega) (by omega) c_11
        refine lv_lload_n hx hb dX12_together_14 rfl (lv_at hl 2 rfl) ?_
        refine lv_aload_n hx hb dX12_together_15 rfl (lv_at hl 0 rfl) ?_
        refine va_get (D := D) (ci := 12) (v := .ref m8) (C := RX12) (T := TX12) (N := 33) hx hb hg gwX12 hown hK hP 0 rfl rfl 22 (by decide) (hg _ kw_353) (fun _ h9 => h9) rfl dX12_together_16 ?_
        refine lv_iconst (v := 4) hx hb dX12_together_19 (by decide) ?_
        refine lv_iload_n hx hb dX12_together_20 rfl (lv_at hl 1 rfl) ?_
        refine lv_imul hx hb dX12_together_21 ?_
        refine lv_topi (fun z_21 e_21 => ?_)
        obtain rfl : z_21 = nI (4 * a_) := e_21.trans (pk_mul _ _)
        refine lv_iload hx hb dX12_together_22 (lv_at hl 3 rfl) ?_
        refine lv_iadd hx hb dX12_together_24 ?_
        refine lv_topi (fun z_24 e_24 => ?_)
        obtain rfl : z_24 = nI (4 * a_ + pe) := e_24.trans (nI_add _ _)
        refine va_lald hx hb hK hP 1 1 rfl rfl (vp_in_nI (show 4 * a_ + pe < 1024 by omega) (by decide)) dX12_together_25 ?_
        refine lv_topl (fun z_25 e_25 => ?_)
        refine lv_ladd hx hb dX12_together_26 ?_
        refine lv_topl (fun z_26 e_26 => ?_)
        refine lv_lstore_n (lv' := [(2, .long z_26), (0, .ref m0), (1, .int (nI a_)), (4, .int (nI pe))]) hx hb dX12_together_27 rfl hl (by decide) rfl (fun ls hl => ?_)
        refine lv_iinc (v := (nI (pe + 1))) (lv' := [(4, .int (nI (pe + 1))), (2, .long z_26), (0, .ref m0), (1, .int (nI a_))]) hx hb dX12_together_28 hl (k := 3) rfl (nI_add pe 1) (by decide) rfl (fun ls hl => ?_)
        refine lv_goto (tgt := 5) hx hb dX12_together_31 (by decide) ?_
        exact ih5 z_26 (pe + 1) (by omega) (by omega) ls (lv_sub hl [2, 3, 1, 0] rfl)
  exact LOOP5 (P - 0 + 1) 0 0 (by omega) (Nat.lt_succ_self _) ls (lv_sub hl [2, 3, 1, 0] rfl)

theorem dX12_allOf_0 : decode cX12_allOf 0 = .ok (.aload_n 0, 1) := by decide +kernel
theorem dX12_allOf_1 : decode cX12_allOf 1 = .ok (.iload_n 1, 1) := by decide +kernel
theorem dX12_allOf_2 : decode cX12_allOf 2 = .ok (.invokevirtual 197, 3) := by decide +kernel
theorem dX12_allOf_5 : decode cX12_allOf 5 = .ok (.iconst 0, 1) := by decide +kernel
theorem dX12_allOf_6 : decode cX12_allOf 6 = .ok (.istore_n 3, 1) := by decide +kernel
theorem dX12_allOf_7 : decode cX12_allOf 7 = .ok (.iconst 0, 1) := by decide +kernel
theorem dX12_allOf_8 : decode cX12_allOf 8 = .ok (.istore 4, 2) := by decide +kernel
theorem dX12_allOf_10 : decode cX12_allOf 10 = .ok (.iconst (-1), 1) := by decide +kernel
theorem dX12_allOf_11 : decode cX12_allOf 11 = .ok (.istore 5, 2) := by decide +kernel
theorem dX12_allOf_13 : decode cX12_allOf 13 = .ok (.iconst 0, 1) := by decide +kernel
theorem dX12_allOf_14 : decode cX12_allOf 14 = .ok (.istore 6, 2) := by decide +kernel
theorem dX12_allOf_16 : decode cX12_allOf 16 = .ok (.iload 6, 2) := by decide +kernel
theorem dX12_allOf_18 : decode cX12_allOf 18 = .ok (.aload_n 0, 1) := by decide +kernel
theorem dX12_allOf_19 : decode cX12_allOf 19 = .ok (.invokevirtual 172, 3) := by decide +kernel
theorem dX12_allOf_22 : decode cX12_allOf 22 = .ok (.if_icmp .ge 64, 3) := by decide +kernel
theorem dX12_allOf_25 : decode cX12_allOf 25 = .ok (.aload_n 0, 1) := by decide +kernel
theorem dX12_allOf_26 : decode cX12_allOf 26 = .ok (.iload 6, 2) := by decide +kernel
theorem dX12_allOf_28 : decode cX12_allOf 28 = .ok (.invokevirtual 200, 3) := by decide +kernel
theorem dX12_allOf_31 : decode cX12_allOf 31 = .ok (.iconst (-1), 1) := by decide +kernel
theorem dX12_allOf_32 : decode cX12_allOf 32 = .ok (.if_icmp .ne 48, 3) := by decide +kernel
theorem dX12_allOf_35 : decode cX12_allOf 35 = .ok (.iload_n 3, 1) := by decide +kernel
theorem dX12_allOf_36 : decode cX12_allOf 36 = .ok (.iload_n 2, 1) := by decide +kernel
theorem dX12_allOf_37 : decode cX12_allOf 37 = .ok (.bipush 10, 2) := by decide +kernel
theorem dX12_allOf_39 : decode cX12_allOf 39 = .ok (.isub, 1) := by decide +kernel
theorem dX12_allOf_40 : decode cX12_allOf 40 = .ok (.if_icmp .ne 8, 3) := by decide +kernel
theorem dX12_allOf_43 : decode cX12_allOf 43 = .ok (.iload 6, 2) := by decide +kernel
theorem dX12_allOf_45 : decode cX12_allOf 45 = .ok (.goto 5, 3) := by decide +kernel
theorem dX12_allOf_48 : decode cX12_allOf 48 = .ok (.iload 5, 2) := by decide +kernel
theorem dX12_allOf_50 : decode cX12_allOf 50 = .ok (.istore 5, 2) := by decide +kernel
theorem dX12_allOf_52 : decode cX12_allOf 52 = .ok (.iload 4, 2) := by decide +kernel
theorem dX12_allOf_54 : decode cX12_allOf 54 = .ok (.aload_n 0, 1) := by decide +kernel
theorem dX12_allOf_55 : decode cX12_allOf 55 = .ok (.iload 6, 2) := by decide +kernel
theorem dX12_allOf_57 : decode cX12_allOf 57 = .ok (.invokevirtual 203, 3) := by decide +kernel
theorem dX12_allOf_60 : decode cX12_allOf 60 = .ok (.aload_n 0, 1) := by decide +kernel
theorem dX12_allOf_61 : decode cX12_allOf 61 = .ok (.iconst 0, 1) := by decide +kernel
theorem dX12_allOf_62 : decode cX12_allOf 62 = .ok (.invokevirtual 203, 3) := by decide +kernel
theorem dX12_allOf_65 : decode cX12_allOf 65 = .ok (.lcmp, 1) := by decide +kernel
theorem dX12_allOf_66 : decode cX12_allOf 66 = .ok (.ifCond .le 7, 3) := by decide +kernel
theorem dX12_allOf_69 : decode cX12_allOf 69 = .ok (.iconst 1, 1) := by decide +kernel
theorem dX12_allOf_70 : decode cX12_allOf 70 = .ok (.goto 4, 3) := by decide +kernel
theorem dX12_allOf_73 : decode cX12_allOf 73 = .ok (.iconst 0, 1) := by decide +kernel
theorem dX12_allOf_74 : decode cX12_allOf 74 = .ok (.iadd, 1) := by decide +kernel
theorem dX12_allOf_75 : decode cX12_allOf 75 = .ok (.istore 4, 2) := by decide +kernel
theorem dX12_allOf_77 : decode cX12_allOf 77 = .ok (.iinc 3 1, 3) := by decide +kernel
theorem dX12_allOf_80 : decode cX12_allOf 80 = .ok (.iinc 6 1, 3) := by decide +kernel
theorem dX12_allOf_83 : decode cX12_allOf 83 = .ok (.goto (-67), 3) := by decide +kernel
theorem dX12_allOf_86 : decode cX12_allOf 86 = .ok (.iload_n 2, 1) := by decide +kernel
theorem dX12_allOf_87 : decode cX12_allOf 87 = .ok (.ifCond .ne 7, 3) := by decide +kernel
theorem dX12_allOf_90 : decode cX12_allOf 90 = .ok (.iload_n 3, 1) := by decide +kernel
theorem dX12_allOf_91 : decode cX12_allOf 91 = .ok (.goto 15, 3) := by decide +kernel
theorem dX12_allOf_94 : decode cX12_allOf 94 = .ok (.iload_n 2, 1) := by decide +kernel
theorem dX12_allOf_95 : decode cX12_allOf 95 = .ok (.iconst 1, 1) := by decide +kernel
theorem dX12_allOf_96 : decode cX12_allOf 96 = .ok (.if_icmp .ne 8, 3) := by decide +kernel
theorem dX12_allOf_99 : decode cX12_allOf 99 = .ok (.iload 4, 2) := by decide +kernel
theorem dX12_allOf_101 : decode cX12_allOf 101 = .ok (.goto 5, 3) := by decide +kernel
theorem dX12_allOf_104 : decode cX12_allOf 104 = .ok (.iload 5, 2) := by decide +kernel
theorem dX12_allOf_106 : decode cX12_allOf 106 = .ok (.ireturn, 1) := by decide +kernel
theorem kw_369 : (.code yX12_layWorths cX12_layWorths 4 none : Cond) ∈ gw_tbl := gw_in (by decide +kernel) (by decide +kernel)
theorem kw_370 : (.methodLink RX12 197 yX12_layWorths : Cond) ∈ gw_tbl := gw_in (by decide +kernel) (by decide +kernel)
theorem kw_371 : (.instanceMethod yX12_layWorths : Cond) ∈ gw_tbl := gw_in (by decide +kernel) (by decide +kernel)
theorem kw_372 : (.selects RX12 yX12_layWorths yX12_layWorths : Cond) ∈ gw_tbl := gw_in (by decide +kernel) (by decide +kernel)
theorem kw_373 : (.code yX12_firstOf cX12_firstOf 3 (some .int) : Cond) ∈ gw_tbl := gw_in (by decide +kernel) (by decide +kernel)
theorem kw_374 : (.methodLink RX12 200 yX12_firstOf : Cond) ∈ gw_tbl := gw_in (by decide +kernel) (by decide +kernel)
theorem kw_375 : (.instanceMethod yX12_firstOf : Cond) ∈ gw_tbl := gw_in (by decide +kernel) (by decide +kernel)
theorem kw_376 : (.selects RX12 yX12_firstOf yX12_firstOf : Cond) ∈ gw_tbl := gw_in (by decide +kernel) (by decide +kernel)
theorem kw_377 : (.code yX12_together cX12_together 5 (some .long) : Cond) ∈ gw_tbl := gw_in (by decide +kernel) (by decide +kernel)
theorem kw_378 : (.methodLink RX12 203 yX12_together : Cond) ∈ gw_tbl := gw_in (by decide +kernel) (by decide +kernel)
theorem kw_379 : (.instanceMethod yX12_together : Cond) ∈ gw_tbl := gw_in (by decide +kernel) (by decide +kernel)
theorem kw_380 : (.selects RX12 yX12_together yX12_together : Cond) ∈ gw_tbl := gw_in (by decide +kernel) (by decide +kernel)

set_option maxHeartbeats 4000000 in
set_option maxRecDepth 100000 in
theorem m_allOf (l : Launch) (D : va_G) (cs : Nat → ClassId) (m0 : Nat) (mp : Nat) (mw : Nat) (mh : Nat) (mo : Nat) (m5 : Nat) (m6 : Nat) (m7 : Nat) (mk : Nat) (mn : Nat) (mq : Nat) (m8 : Nat) (m9 : Nat) (mz : Nat) (mb : Nat) (md : Nat) (ms : Nat) (C : Nat) (P : Nat) (mpn : Nat) (mrs : Nat) (sS : Nat) (rc : Nat) (rp : Nat) (ic : Nat) (hms : ms ≤ 90) (hC5 : C ≤ 5) (hP4 : P ≤ 4) (hmpn : mpn ≤ 8) (hmrs : mrs ≤ 24) (hsS : sS ≤ 4) (hrc : rc ≤ 5) (hrp : rp ≤ 4) (hic : ic ≤ 4) (x_value : Int32) (x_digits : Int32) (x_all : Int64) (x_kind : Int32) (x_last : Int32) (x_steps : Int32) (x_isRound : Int32) (x_tablesDone : Int32) (x_hash : Int64) (fmk : Nat → Int32) (fmn : Nat → Int32) (fmq : Nat → Int32) (fmo : Nat → Int32) (fm7 : Nat → Int64) (fm8 : Nat → Int64) (pk : Nat) (hpk : pk < mpn) (p1 : Int32) (sz : Nat) : Met l yX12_allOf (Cond.code yX12_allOf cX12_allOf 7 (some .int) :: gw_tbl) ({ frames := 4, cells := 0, slots := 0, locals := 99 }) (pc_M D cs [(m0, .inr (12, [.ref mp, .int (nI ms), .int (nI C), .int (nI P), .ref mw, .ref mh, .ref mo, .int (nI sS), .int x_value, .int x_digits, .int (nI rc), .int (nI rp), .int (nI ic), .ref m5, .ref m6, .ref m7, .long x_all, .int (nI mpn), .ref mk, .ref mn, .int x_kind, .ref mq, .ref m8, .ref m9, .int x_last, .int x_steps, .int x_isRound, .int x_tablesDone, .ref mz, .int (nI mrs), .ref mb, .ref md, .long x_hash])), (mk, .inl (cs 0, 8, .inl fmk)), (mn, .inl (cs 0, 32, .inl fmn)), (mq, .inl (cs 0, 4, .inl fmq)), (mo, .inl (cs 0, 4, .inl fmo)), (m7, .inl (cs 1, 16, .inr (.inl fm7))), (m8, .inl (cs 1, 1024, .inr (.inl fm8)))] sz [.ref m0, .int (nI pk), .int p1]) (va_Qi (fun (r : Int32) (u : Unit) => True) (fun u t => ∃ (kd2 : Int32), ∃ (fmq2 : Nat → Int32), ∃ (fm82 : Nat → Int64), va_P D vwCl [(m0, .inr (12, [.ref mp, .int (nI ms), .int (nI C), .int (nI P), .ref mw, .ref mh, .ref mo, .int (nI sS), .int x_value, .int x_digits, .int (nI rc), .int (nI rp), .int (nI ic), .ref m5, .ref m6, .ref m7, .long x_all, .int (nI mpn), .ref mk, .ref mn, .int kd2, .ref mq, .ref m8, .ref m9, .int x_last, .int x_steps, .int x_isRound, .int x_tablesDone, .ref mz, .int (nI mrs), .ref mb, .ref md, .long x_hash])), (mk, .inl (cs 0, 8, .inl fmk)), (mn, .inl (cs 0, 32, .inl fmn)), (mq, .inl (cs 0, 4, .inl fmq2)), (mo, .inl (cs 0, 4, .inl fmo)), (m7, .inl (cs 1, 16, .inr (.inl fm7))), (m8, .inl (cs 1, 1024, .inr (.inl fm82)))] t.heap ∧ va_D (va_A [(m0, .inr (12, [.ref mp, .int (nI ms), .int (nI C), .int (nI P), .ref mw, .ref mh, .ref mo, .int (nI sS), .int x_value, .int x_digits, .int (nI rc), .int (nI rp), .int (nI ic), .ref m5, .ref m6, .ref m7, .long x_all, .int (nI mpn), .ref mk, .ref mn, .int x_kind, .ref mq, .ref m8, .ref m9, .int x_last, .int x_steps, .int x_isRound, .int x_tablesDone, .ref mz, .int (nI mrs), .ref mb, .ref md, .long x_hash])), (mk, .inl (cs 0, 8, .inl fmk)), (mn, .inl (cs 0, 32, .inl fmn)), (mq, .inl (cs 0, 4, .inl fmq)), (mo, .inl (cs 0, 4, .inl fmo)), (m7, .inl (cs 1, 16, .inr (.inl fm7))), (m8, .inl (cs 1, 1024, .inr (.inl fm8)))] sz) [(m0, .inr (12, [.ref mp, .int (nI ms), .int (nI C), .int (nI P), .ref mw, .ref mh, .ref mo, .int (nI sS), .int x_value, .int x_digits, .int (nI rc), .int (nI rp), .int (nI ic), .ref m5, .ref m6, .ref m7, .long x_all, .int (nI mpn), .ref mk, .ref mn, .int kd2, .ref mq, .ref m8, .ref m9, .int x_last, .int x_steps, .int x_isRound, .int x_tablesDone, .ref mz, .int (nI mrs), .ref mb, .ref md, .long x_hash])), (mk, .inl (cs 0, 8, .inl fmk)), (mn, .inl (cs 0, 32, .inl fmn)), (mq, .inl (cs 0, 4, .inl fmq2)), (mo, .inl (cs 0, 4, .inl fmo)), (m7, .inl (cs 1, 16, .inr (.inl fm7))), (m8, .inl (cs 1, 1024, .inr (.inl fm82)))]) (va_A [(m0, .inr (12, [.ref mp, .int (nI ms), .int (nI C), .int (nI P), .ref mw, .ref mh, .ref mo, .int (nI sS), .int x_value, .int x_digits, .int (nI rc), .int (nI rp), .int (nI ic), .ref m5, .ref m6, .ref m7, .long x_all, .int (nI mpn), .ref mk, .ref mn, .int x_kind, .ref mq, .ref m8, .ref m9, .int x_last, .int x_steps, .int x_isRound, .int x_tablesDone, .ref mz, .int (nI mrs), .ref mb, .ref md, .long x_hash])), (mk, .inl (cs 0, 8, .inl fmk)), (mn, .inl (cs 0, 32, .inl fmn)), (mq, .inl (cs 0, 4, .inl fmq)), (mo, .inl (cs 0, 4, .inl fmo)), (m7, .inl (cs 1, 16, .inr (.inl fm7))), (m8, .inl (cs 1, 1024, .inr (.inl fm8)))] sz)) 0 0 (va_A [(m0, .inr (12, [.ref mp, .int (nI ms), .int (nI C), .int (nI P), .ref mw, .ref mh, .ref mo, .int (nI sS), .int x_value, .int x_digits, .int (nI rc), .int (nI rp), .int (nI ic), .ref m5, .ref m6, .ref m7, .long x_all, .int (nI mpn), .ref mk, .ref mn, .int x_kind, .ref mq, .ref m8, .ref m9, .int x_last, .int x_steps, .int x_isRound, .int x_tablesDone, .ref mz, .int (nI mrs), .ref mb, .ref md, .long x_hash])), (mk, .inl (cs 0, 8, .inl fmk)), (mn, .inl (cs 0, 32, .inl fmn)), (mq, .inl (cs 0, 4, .inl fmq)), (mo, .inl (cs 0, 4, .inl fmo)), (m7, .inl (cs 1, 16, .inr (.inl fm7))), (m8, .inl (cs 1, 1024, .inr (.inl fm8)))] sz) := by
  refine Met.ofW (cc := cX12_allOf) (maxL := 7) (ret := (some .int)) (by decide) rfl ?_
  intro p e s m args below meth c s₁ B hml hv
  obtain ⟨hargs, hsz, hP, hK, hD0⟩ := hv
  have hx := B.exec
  have hb := B.bytes
  have hr := B.returns
  have hts := atoms_spec (ws := Cond.code yX12_allOf cX12_allOf 7 (some .int) :: gw_tbl) B.pre
  have hg := fun (w : Cond) (h : w ∈ gw_tbl) => hts w (List.mem_cons_of_mem _ h)
  have hown : s.vm.findClass RX12 = some m.cls := findClass_of_methodNamed B.named
  have hlocks := B.notSynchronized
  subst hsz
  have hD := hD0.self (sz := s.heap.size)
  generalize hAe : va_A [(m0, .inr (12, [.ref mp, .int (nI ms), .int (nI C), .int (nI P), .ref mw, .ref mh, .ref mo, .int (nI sS), .int x_value, .int x_digits, .int (nI rc), .int (nI rp), .int (nI ic), .ref m5, .ref m6, .ref m7, .long x_all, .int (nI mpn), .ref mk, .ref mn, .int x_kind, .ref mq, .ref m8, .ref m9, .int x_last, .int x_steps, .int x_isRound, .int x_tablesDone, .ref mz, .int (nI mrs), .ref mb, .ref md, .long x_hash])), (mk, .inl (cs 0, 8, .inl fmk)), (mn, .inl (cs 0, 32, .inl fmn)), (mq, .inl (cs 0, 4, .inl fmq)), (mo, .inl (cs 0, 4, .inl fmo)), (m7, .inl (cs 1, 16, .inr (.inl fm7))), (m8, .inl (cs 1, 1024, .inr (.inl fm8)))] s.heap.size = A at hD ⊢
  have hA : ∀ q : Nat, s.heap.size ≤ q → A q := fun q h => by rw [← hAe]; exact Or.inr h
  have hS : va_S A s.heap s.heap [] := va_S.rf
  have hP : va_P D vwCl [(m0, .inr (12, [.ref mp, .int (nI ms), .int (nI C), .int (nI P), .ref mw, .ref mh, .ref mo, .int (nI sS), .int x_value, .int x_digits, .int (nI rc), .int (nI rp), .int (nI ic), .ref m5, .ref m6, .ref m7, .long x_all, .int (nI mpn), .ref mk, .ref mn, .int x_kind, .ref mq, .ref m8, .ref m9, .int x_last, .int x_steps, .int x_isRound, .int x_tablesDone, .ref mz, .int (nI mrs), .ref mb, .ref md, .long x_hash])), (mk, .inl (cs 0, 8, .inl fmk)), (mn, .inl (cs 0, 32, .inl fmn)), (mq, .inl (cs 0, 4, .inl fmq)), (mo, .inl (cs 0, 4, .inl fmo)), (m7, .inl (cs 1, 16, .inr (.inl fm7))), (m8, .inl (cs 1, 1024, .inr (.inl fm8)))] s.heap := hP
  have hl := lv_entry ([.ref m0, .int (nI pk), .int p1]) (n := 7) (Nat.le_of_ble_eq_true rfl)
  rw [show entryFrame m args 7 = F0 m 0 (lg_sl ([.ref m0, .int (nI pk), .int p1]) ++ List.replicate (7 - (lg_sl ([.ref m0, .int (nI pk), .int p1])).length) Slot.unset).toArray [] from by rw [hargs]; exact lg_entry_eq ..]
  generalize (lg_sl ([.ref m0, .int (nI pk), .int p1]) ++ List.replicate (7 - (lg_sl ([.ref m0, .int (nI pk), .int p1])).length) Slot.unset).toArray = ls at hl ⊢
  have hl : lv_has ls 7 [(0, .ref m0), (1, .int (nI pk)), (2, .int p1)] := hl
  refine W_genQ (fun Q hQ => ?_)
  have hlm := lim_le hP4
  have hlq := lim_pos P
  have hsg := sgn_le hP4
  refine lv_aload_n hx hb dX12_allOf_0 rfl (lv_at hl 0 rfl) ?_
  refine lv_iload_n hx hb dX12_allOf_1 rfl (lv_at hl 1 rfl) ?_
  have hPc := hP.sub (ws' := [(m0, .inr (12, [.ref mp, .int (nI ms), .int (nI C), .int (nI P), .ref mw, .ref mh, .ref mo, .int (nI sS), .int x_value, .int x_digits, .int (nI rc), .int (nI rp), .int (nI ic), .ref m5, .ref m6, .ref m7, .long x_all, .int (nI mpn), .ref mk, .ref mn, .int x_kind, .ref mq, .ref m8, .ref m9, .int x_last, .int x_steps, .int x_isRound, .int x_tablesDone, .ref mz, .int (nI mrs), .ref mb, .ref md, .long x_hash])), (mk, .inl (cs 0, 8, .inl fmk)), (mn, .inl (cs 0, 32, .inl fmn)), (mq, .inl (cs 0, 4, .inl fmq)), (mo, .inl (cs 0, 4, .inl fmo)), (m7, .inl (cs 1, 16, .inr (.inl fm7))), (m8, .inl (cs 1, 1024, .inr (.inl fm8)))]) [0, 1, 2, 3, 4, 5, 6] rfl
  have hDc := hD.sub (ws' := [(m0, .inr (12, [.ref mp, .int (nI ms), .int (nI C), .int (nI P), .ref mw, .ref mh, .ref mo, .int (nI sS), .int x_value, .int x_digits, .int (nI rc), .int (nI rp), .int (nI ic), .ref m5, .ref m6, .ref m7, .long x_all, .int (nI mpn), .ref mk, .ref mn, .int x_kind, .ref mq, .ref m8, .ref m9, .int x_last, .int x_steps, .int x_isRound, .int x_tablesDone, .ref mz, .int (nI mrs), .ref mb, .ref md, .long x_hash])), (mk, .inl (cs 0, 8, .inl fmk)), (mn, .inl (cs 0, 32, .inl fmn)), (mq, .inl (cs 0, 4, .inl fmq)), (mo, .inl (cs 0, 4, .inl fmo)), (m7, .inl (cs 1, 16, .inr (.inl fm7))), (m8, .inl (cs 1, 1024, .inr (.inl fm8)))]) [0, 1, 2, 3, 4, 5, 6] (by decide) rfl
  have hFc := va_free (wc := [(m0, .inr (12, [.ref mp, .int (nI ms), .int (nI C), .int (nI P), .ref mw, .ref mh, .ref mo, .int (nI sS), .int x_value, .int x_digits, .int (nI rc), .int (nI rp), .int (nI ic), .ref m5, .ref m6, .ref m7, .long x_all, .int (nI mpn), .ref mk, .ref mn, .int x_kind, .ref mq, .ref m8, .ref m9, .int x_last, .int x_steps, .int x_isRound, .int x_tablesDone, .ref mz, .int (nI mrs), .ref mb, .ref md, .long x_hash])), (mk, .inl (cs 0, 8, .inl fmk)), (mn, .inl (cs 0, 32, .inl fmn)), (mq, .inl (cs 0, 4, .inl fmq)), (mo, .inl (cs 0, 4, .inl fmo)), (m7, .inl (cs 1, 16, .inr (.inl fm7))), (m8, .inl (cs 1, 1024, .inr (.inl fm8)))]) hD hS hA [0, 1, 2, 3, 4, 5, 6] rfl
  refine va_callv (va_runV (As := [.int (nI pk)]) (rest := []) ⟨hx, hb, hml, hown, hg⟩ (m_layWorths l D cs m0 mp mw mh mo m5 m6 m7 mk mn mq m8 m9 mz mb md ms C P mpn mrs sS rc rp ic (by omega) (by omega) (by omega) (by omega) (by omega) (by omega) (by omega) (by omega) (by omega) x_value x_digits x_all x_kind x_last x_steps x_isRound x_tablesDone x_hash fmk fmn fmq fmo fm7 fm8 pk (by omega) _) (cwV 1 hg (gw_V kw_370 kw_371 kw_372 kw_319 kw_369) rfl rfl rfl (by decide +kernel) ⟨(Nat.le_of_ble_eq_true rfl), (Nat.le_of_ble_eq_true rfl)⟩) (pr_MV (q := (RX12, TX12, 33)) 12 0 hK hPc hDc rfl rfl) rfl rfl hl.1 rfl (lv_room (Nat.le_of_ble_eq_true rfl)) dX12_allOf_2 ⟨(Nat.le_of_ble_eq_true rfl), (Nat.le_of_ble_eq_true rfl)⟩) hS (fun q _ h => hFc q h) hFc (fun u t H1 locs ht hvm h_2 hB hz1 hk1 hS => ?_)
  obtain ⟨kd2_2, fmq2_2, fm82_2, hP1, hD1⟩ := hB
  rw [ht] at hP1
  obtain ⟨hP, hD⟩ := va_join (wr := []) (w1 := [(m0, .inr (12, [.ref mp, .int (nI ms), .int (nI C), .int (nI P), .ref mw, .ref mh, .ref mo, .int (nI sS), .int x_value, .int x_digits, .int (nI rc), .int (nI rp), .int (nI ic), .ref m5, .ref m6, .ref m7, .long x_all, .int (nI mpn), .ref mk, .ref mn, .int kd2_2, .ref mq, .ref m8, .ref m9, .int x_last, .int x_steps, .int x_isRound, .int x_tablesDone, .ref mz, .int (nI mrs), .ref mb, .ref md, .long x_hash])), (mk, .inl (cs 0, 8, .inl fmk)), (mn, .inl (cs 0, 32, .inl fmn)), (mq, .inl (cs 0, 4, .inl fmq2_2)), (mo, .inl (cs 0, 4, .inl fmo)), (m7, .inl (cs 1, 16, .inr (.inl fm7))), (m8, .inl (cs 1, 1024, .inr (.inl fm82_2)))]) hP hD [0, 1, 2, 3, 4, 5, 6] [] rfl rfl (by decide) (by decide) hk1 hFc hP1 hD1
  generalize H1 = H at hP hS ⊢
  have hP : va_P D vwCl [(m0, .inr (12, [.ref mp, .int (nI ms), .int (nI C), .int (nI P), .ref mw, .ref mh, .ref mo, .int (nI sS), .int x_value, .int x_digits, .int (nI rc), .int (nI rp), .int (nI ic), .ref m5, .ref m6, .ref m7, .long x_all, .int (nI mpn), .ref mk, .ref mn, .int kd2_2, .ref mq, .ref m8, .ref m9, .int x_last, .int x_steps, .int x_isRound, .int x_tablesDone, .ref mz, .int (nI mrs), .ref mb, .ref md, .long x_hash])), (mk, .inl (cs 0, 8, .inl fmk)), (mn, .inl (cs 0, 32, .inl fmn)), (mq, .inl (cs 0, 4, .inl fmq2_2)), (mo, .inl (cs 0, 4, .inl fmo)), (m7, .inl (cs 1, 16, .inr (.inl fm7))), (m8, .inl (cs 1, 1024, .inr (.inl fm82_2)))] H := hP
  have hD : va_D A [(m0, .inr (12, [.ref mp, .int (nI ms), .int (nI C), .int (nI P), .ref mw, .ref mh, .ref mo, .int (nI sS), .int x_value, .int x_digits, .int (nI rc), .int (nI rp), .int (nI ic), .ref m5, .ref m6, .ref m7, .long x_all, .int (nI mpn), .ref mk, .ref mn, .int kd2_2, .ref mq, .ref m8, .ref m9, .int x_last, .int x_steps, .int x_isRound, .int x_tablesDone, .ref mz, .int (nI mrs), .ref mb, .ref md, .long x_hash])), (mk, .inl (cs 0, 8, .inl fmk)), (mn, .inl (cs 0, 32, .inl fmn)), (mq, .inl (cs 0, 4, .inl fmq2_2)), (mo, .inl (cs 0, 4, .inl fmo)), (m7, .inl (cs 1, 16, .inr (.inl fm7))), (m8, .inl (cs 1, 1024, .inr (.inl fm82_2)))] := hD
  refine W.cs (cells' := 0) (slots' := 0) rfl rfl ?_
  refine lv_iconst (v := 0) hx hb dX12_allOf_5 (by decide) ?_
  refine lv_istore_n (lv' := [(3, .int 0), (0, .ref m0), (1, .int (nI pk)), (2, .int p1)]) hx hb dX12_allOf_6 rfl hl (by decide) rfl (fun ls hl => ?_)
  refine lv_iconst (v := 0) hx hb dX12_allOf_7 (by decide) ?_
  refine lv_istore (lv' := [(4, .int 0), (3, .int 0), (0, .ref m0), (1, .int (nI pk)), (2, .int p1)]) hx hb dX12_allOf_8 hl (by decide) rfl (fun ls hl => ?_)
  refine lv_iconst (v := (-1)) hx hb dX12_allOf_10 (by decide) ?_
  refine lv_istore (lv' := [(5, .int (-1)), (4, .int 0), (3, .int 0), (0, .ref m0), (1, .int (nI pk)), (2, .int p1)]) hx hb dX12_allOf_11 hl (by decide) rfl (fun ls hl => ?_)
  refine lv_iconst (v := 0) hx hb dX12_allOf_13 (by decide) ?_
  refine lv_istore (lv' := [(6, .int 0), (5, .int (-1)), (4, .int 0), (3, .int 0), (0, .ref m0), (1, .int (nI pk)), (2, .int p1)]) hx hb dX12_allOf_14 hl (by decide) rfl (fun ls hl => ?_)
  have LOOP16 : ∀ (n16 : Nat) (u3_16 : Int32) (u4_16 : Int32) (u5_16 : Int32) (x_ : Nat), x_ ≤ lim P → lim P - x_ < n16 → ∀ (H : Heap) (locs : List Loc) (ls : Array Slot), va_P D vwCl [(m0, .inr (12, [.ref mp, .int (nI ms), .int (nI C), .int (nI P), .ref mw, .ref mh, .ref mo, .int (nI sS), .int x_value, .int x_digits, .int (nI rc), .int (nI rp), .int (nI ic), .ref m5, .ref m6, .ref m7, .long x_all, .int (nI mpn), .ref mk, .ref mn, .int kd2_2, .ref mq, .ref m8, .ref m9, .int x_last, .int x_steps, .int x_isRound, .int x_tablesDone, .ref mz, .int (nI mrs), .ref mb, .ref md, .long x_hash])), (mk, .inl (cs 0, 8, .inl fmk)), (mn, .inl (cs 0, 32, .inl fmn)), (mq, .inl (cs 0, 4, .inl fmq2_2)), (mo, .inl (cs 0, 4, .inl fmo)), (m7, .inl (cs 1, 16, .inr (.inl fm7))), (m8, .inl (cs 1, 1024, .inr (.inl fm82_2)))] H → va_D A [(m0, .inr (12, [.ref mp, .int (nI ms), .int (nI C), .int (nI P), .ref mw, .ref mh, .ref mo, .int (nI sS), .int x_value, .int x_digits, .int (nI rc), .int (nI rp), .int (nI ic), .ref m5, .ref m6, .ref m7, .long x_all, .int (nI mpn), .ref mk, .ref mn, .int kd2_2, .ref mq, .ref m8, .ref m9, .int x_last, .int x_steps, .int x_isRound, .int x_tablesDone, .ref mz, .int (nI mrs), .ref mb, .ref md, .long x_hash])), (mk, .inl (cs 0, 8, .inl fmk)), (mn, .inl (cs 0, 32, .inl fmn)), (mq, .inl (cs 0, 4, .inl fmq2_2)), (mo, .inl (cs 0, 4, .inl fmo)), (m7, .inl (cs 1, 16, .inr (.inl fm7))), (m8, .inl (cs 1, 1024, .inr (.inl fm82_2)))] → va_S A s.heap H locs → lv_has ls 7 [(0, .ref m0), (1, .int (nI pk)), (2, .int p1), (3, .int u3_16), (4, .int u4_16), (5, .int u5_16), (6, .int (nI x_))] → W p l e ({ frames := 4, cells := 0, slots := 0, locals := 99 } : Room) s m args below meth c H locs 0 0 Q (F0 m 16 ls []) := by
    intro n16
    induction n16 with
    | zero =>
      intro u3_16 u4_16 u5_16 x_ hx_ hn16 H locs ls hP hD hS hl
      exact absurd hn16 (Nat.not_lt_zero _)
    | succ n16 ih16 =>
      intro u3_16 u4_16 u5_16 x_ hx_ hn16 H locs ls hP hD hS hl
      refine lv_iload hx hb dX12_allOf_16 (lv_at hl 6 rfl) ?_
      refine lv_aload_n hx hb dX12_allOf_18 rfl (lv_at hl 0 rfl) ?_
      have hPc := hP.sub (ws' := [(m0, .inr (12, [.ref mp, .int (nI ms), .int (nI C), .int (nI P), .ref mw, .ref mh, .ref mo, .int (nI sS), .int x_value, .int x_digits, .int (nI rc), .int (nI rp), .int (nI ic), .ref m5, .ref m6, .ref m7, .long x_all, .int (nI mpn), .ref mk, .ref mn, .int kd2_2, .ref mq, .ref m8, .ref m9, .int x_last, .int x_steps, .int x_isRound, .int x_tablesDone, .ref mz, .int (nI mrs), .ref mb, .ref md, .long x_hash]))]) [0] rfl
      refine vp_callSi (W.runV (As := []) (rest := [.int (nI x_)]) ⟨hx, hb, hml, hown, hg⟩ (m_profiles l D cs m0 mp mw mh mo m5 m6 m7 mk mn mq m8 m9 mz mb md ms C P mpn mrs sS rc rp ic (by omega) (by omega) (by omega) (by omega) (by omega) (by omega) (by omega) (by omega) (by omega) x_value x_digits x_all kd2_2 x_last x_steps x_isRound x_tablesDone x_hash) (cwV 0 hg (gw_V kw_350 kw_351 kw_352 kw_319 kw_349) rfl rfl rfl (by decide +kernel) ⟨(Nat.le_of_ble_eq_true rfl), (Nat.le_of_ble_eq_true rfl)⟩) (pr_SV (q := (RX12, TX12, 33)) 12 0 hK hPc rfl rfl) rfl rfl hl.1 rfl (lv_room (Nat.le_of_ble_eq_true rfl)) dX12_allOf_19 ⟨(Nat.le_of_ble_eq_true rfl), (Nat.le_of_ble_eq_true rfl)⟩) (fun r_19 h_19 => ?_)
      obtain rfl : r_19 = nI (lim P) := h_19
      refine lv_icmp_ge (tgt := 86) hx hb dX12_allOf_22 (by decide) (fun c_22 => ?_) (fun c_22 => ?_)
      · have n_22 : lim P ≤ x_ := b_le_t (by omega) (by omega) c_22
        refine lv_iload_n hx hb dX12_allOf_86 rfl (lv_at hl 2 rfl) ?_
        refine lv_if_ne (tgt := 94) hx hb dX12_allOf_87 (by decide) (fun c_87 => ?_) (fun c_87 => ?_)
        · refine lv_iload_n hx hb dX12_allOf_94 rfl (lv_at hl 2 rfl) ?_
          refine lv_iconst (v := 1) hx hb dX12_allOf_95 (by decide) ?_
          refine lv_icmp_ne (tgt := 104) hx hb dX12_allOf_96 (by decide) (fun c_96 => ?_) (fun c_96 => ?_)
          · refine lv_iload hx hb dX12_allOf_104 (lv_at hl 5 rfl) ?_
            refine W_sQ hQ ?_
            refine W.widen (k := 0) (n := 0) (Nat.le_of_ble_eq_true rfl) (Nat.le_of_ble_eq_true rfl) ?_
            have hP9 := hP.sub (ws' := [(m0, .inr (12, [.ref mp, .int (nI ms), .int (nI C), .int (nI P), .ref mw, .ref mh, .ref mo, .int (nI sS), .int x_value, .int x_digits, .int (nI rc), .int (nI rp), .int (nI ic), .ref m5, .ref m6, .ref m7, .long x_all, .int (nI mpn), .ref mk, .ref mn, .int kd2_2, .ref mq, .ref m8, .ref m9, .int x_last, .int x_steps, .int x_isRound, .int x_tablesDone, .ref mz, .int (nI mrs), .ref mb, .ref md, .long x_hash])), (mk, .inl (cs 0, 8, .inl fmk)), (mn, .inl (cs 0, 32, .inl fmn)), (mq, .inl (cs 0, 4, .inl fmq2_2)), (mo, .inl (cs 0, 4, .inl fmo)), (m7, .inl (cs 1, 16, .inr (.inl fm7))), (m8, .inl (cs 1, 1024, .inr (.inl fm82_2)))]) [0, 1, 2, 3, 4, 5, 6] rfl
            have hD9 := hD.sub (ws' := [(m0, .inr (12, [.ref mp, .int (nI ms), .int (nI C), .int (nI P), .ref mw, .ref mh, .ref mo, .int (nI sS), .int x_value, .int x_digits, .int (nI rc), .int (nI rp), .int (nI ic), .ref m5, .ref m6, .ref m7, .long x_all, .int (nI mpn), .ref mk, .ref mn, .int kd2_2, .ref mq, .ref m8, .ref m9, .int x_last, .int x_steps, .int x_isRound, .int x_tablesDone, .ref mz, .int (nI mrs), .ref mb, .ref md, .long x_hash])), (mk, .inl (cs 0, 8, .inl fmk)), (mn, .inl (cs 0, 32, .inl fmn)), (mq, .inl (cs 0, 4, .inl fmq2_2)), (mo, .inl (cs 0, 4, .inl fmo)), (m7, .inl (cs 1, 16, .inr (.inl fm7))), (m8, .inl (cs 1, 1024, .inr (.inl fm82_2)))]) [0, 1, 2, 3, 4, 5, 6] (by decide) rfl
            exact W.iret (v := u5_16) hx hb hr (fun t ht hW => ⟨⟨u5_16, (), rfl, trivial, ⟨kd2_2, fmq2_2, fm82_2, by rw [ht]; exact hP9, hD9⟩⟩, hS.F ht⟩) hS.2.2 dX12_allOf_106
          · subst c_96
            refine lv_iload hx hb dX12_allOf_99 (lv_at hl 4 rfl) ?_
            refine lv_goto (tgt := 106) hx hb dX12_allOf_101 (by decide) ?_
            refine W_sQ hQ ?_
            refine W.widen (k := 0) (n := 0) (Nat.le_of_ble_eq_true rfl) (Nat.le_of_ble_eq_true rfl) ?_
            have hP9 := hP.sub (ws' := [(m0, .inr (12, [.ref mp, .int (nI ms), .int (nI C), .int (nI P), .ref mw, .ref mh, .ref mo, .int (nI sS), .int x_value, .int x_digits, .int (nI rc), .int (nI rp), .int (nI ic), .ref m5, .ref m6, .ref m7, .long x_all, .int (nI mpn), .ref mk, .ref mn, .int kd2_2, .ref mq, .ref m8, .ref m9, .int x_last, .int x_steps, .int x_isRound, .int x_tablesDone, .ref mz, .int (nI mrs), .ref mb, .ref md, .long x_hash])), (mk, .inl (cs 0, 8, .inl fmk)), (mn, .inl (cs 0, 32, .inl fmn)), (mq, .inl (cs 0, 4, .inl fmq2_2)), (mo, .inl (cs 0, 4, .inl fmo)), (m7, .inl (cs 1, 16, .inr (.inl fm7))), (m8, .inl (cs 1, 1024, .inr (.inl fm82_2)))]) [0, 1, 2, 3, 4, 5, 6] rfl
            have hD9 := hD.sub (ws' := [(m0, .inr (12, [.ref mp, .int (nI ms), .int (nI C), .int (nI P), .ref mw, .ref mh, .ref mo, .int (nI sS), .int x_value, .int x_digits, .int (nI rc), .int (nI rp), .int (nI ic), .ref m5, .ref m6, .ref m7, .long x_all, .int (nI mpn), .ref mk, .ref mn, .int kd2_2, .ref mq, .ref m8, .ref m9, .int x_last, .int x_steps, .int x_isRound, .int x_tablesDone, .ref mz, .int (nI mrs), .ref mb, .ref md, .long x_hash])), (mk, .inl (cs 0, 8, .inl fmk)), (mn, .inl (cs 0, 32, .inl fmn)), (mq, .inl (cs 0, 4, .inl fmq2_2)), (mo, .inl (cs 0, 4, .inl fmo)), (m7, .inl (cs 1, 16, .inr (.inl fm7))), (m8, .inl (cs 1, 1024, .inr (.inl fm82_2)))]) [0, 1, 2, 3, 4, 5, 6] (by decide) rfl
            exact W.iret (v := u4_16) hx hb hr (fun t ht hW => ⟨⟨u4_16, (), rfl, trivial, ⟨kd2_2, fmq2_2, fm82_2, by rw [ht]; exact hP9, hD9⟩⟩, hS.F ht⟩) hS.2.2 dX12_allOf_106
        · subst c_87
          refine lv_iload_n hx hb dX12_allOf_90 rfl (lv_at hl 3 rfl) ?_
          refine lv_goto (tgt := 106) hx hb dX12_allOf_91 (by decide) ?_
          refine W_sQ hQ ?_
          refine W.widen (k := 0) (n := 0) (Nat.le_of_ble_eq_true rfl) (Nat.le_of_ble_eq_true rfl) ?_
          have hP9 := hP.sub (ws' := [(m0, .inr (12, [.ref mp, .int (nI ms), .int (nI C), .int (nI P), .ref mw, .ref mh, .ref mo, .int (nI sS), .int x_value, .int x_digits, .int (nI rc), .int (nI rp), .int (nI ic), .ref m5, .ref m6, .ref m7, .long x_all, .int (nI mpn), .ref mk, .ref mn, .int kd2_2, .ref mq, .ref m8, .ref m9, .int x_last, .int x_steps, .int x_isRound, .int x_tablesDone, .ref mz, .int (nI mrs), .ref mb, .ref md, .long x_hash])), (mk, .inl (cs 0, 8, .inl fmk)), (mn, .inl (cs 0, 32, .inl fmn)), (mq, .inl (cs 0, 4, .inl fmq2_2)), (mo, .inl (cs 0, 4, .inl fmo)), (m7, .inl (cs 1, 16, .inr (.inl fm7))), (m8, .inl (cs 1, 1024, .inr (.inl fm82_2)))]) [0, 1, 2, 3, 4, 5, 6] rfl
          have hD9 := hD.sub (ws' := [(m0, .inr (12, [.ref mp, .int (nI ms), .int (nI C), .int (nI P), .ref mw, .ref mh, .ref mo, .int (nI sS), .int x_value, .int x_digits, .int (nI rc), .int (nI rp), .int (nI ic), .ref m5, .ref m6, .ref m7, .long x_all, .int (nI mpn), .ref mk, .ref mn, .int kd2_2, .ref mq, .ref m8, .ref m9, .int x_last, .int x_steps, .int x_isRound, .int x_tablesDone, .ref mz, .int (nI mrs), .ref mb, .ref md, .long x_hash])), (mk, .inl (cs 0, 8, .inl fmk)), (mn, .inl (cs 0, 32, .inl fmn)), (mq, .inl (cs 0, 4, .inl fmq2_2)), (mo, .inl (cs 0, 4, .inl fmo)), (m7, .inl (cs 1, 16, .inr (.inl fm7))), (m8, .inl (cs 1, 1024, .inr (.inl fm82_2)))]) [0, 1, 2, 3, 4, 5, 6] (by decide) rfl
          exact W.iret (v := u3_16) hx hb hr (fun t ht hW => ⟨⟨u3_16, (), rfl, trivial, ⟨kd2_2, fmq2_2, fm82_2, by rw [ht]; exact hP9, hD9⟩⟩, hS.F ht⟩) hS.2.2 dX12_allOf_106
      · have n_22 : x_ < lim P := b_le_f (by omega) (by omega) c_22
        refine lv_aload_n hx hb dX12_allOf_25 rfl (lv_at hl 0 rfl) ?_
        refine lv_iload hx hb dX12_allOf_26 (lv_at hl 6 rfl) ?_
        have hPc := hP.sub (ws' := [(m0, .inr (12, [.ref mp, .int (nI ms), .int (nI C), .int (nI P), .ref mw, .ref mh, .ref mo, .int (nI sS), .int x_value, .int x_digits, .int (nI rc), .int (nI rp), .int (nI ic), .ref m5, .ref m6, .ref m7, .long x_all, .int (nI mpn), .ref mk, .ref mn, .int kd2_2, .ref mq, .ref m8, .ref m9, .int x_last, .int x_steps, .int x_isRound, .int x_tablesDone, .ref mz, .int (nI mrs), .ref mb, .ref md, .long x_hash])), (m8, .inl (cs 1, 1024, .inr (.inl fm82_2)))]) [0, 6] rfl
        refine vp_callSi (W.runV (As := [.int (nI x_)]) (rest := []) ⟨hx, hb, hml, hown, hg⟩ (m_firstOf l D cs m0 mp mw mh mo m5 m6 m7 mk mn mq m8 m9 mz mb md ms C P mpn mrs sS rc rp ic (by omega) (by omega) (by omega) (by omega) (by omega) (by omega) (by omega) (by omega) (by omega) x_value x_digits x_all kd2_2 x_last x_steps x_isRound x_tablesDone x_hash fm82_2 x_ (by omega)) (cwV 1 hg (gw_V kw_374 kw_375 kw_376 kw_319 kw_373) rfl rfl rfl (by decide +kernel) ⟨(Nat.le_of_ble_eq_true rfl), (Nat.le_of_ble_eq_true rfl)⟩) (pr_SV (q := (RX12, TX12, 33)) 12 0 hK hPc rfl rfl) rfl rfl hl.1 rfl (lv_room (Nat.le_of_ble_eq_true rfl)) dX12_allOf_28 ⟨(Nat.le_of_ble_eq_true rfl), (Nat.le_of_ble_eq_true rfl)⟩) (fun r_28 h_28 => ?_)
        rcases h_28 with rfl | ⟨k_28, rfl, hk_28⟩
        · refine lv_iconst (v := (-1)) hx hb dX12_allOf_31 (by decide) ?_
          refine lv_icmp_ne (tgt := 80) hx hb dX12_allOf_32 (by decide) (fun c_32 => absurd c_32 (by decide)) (fun c_32 => ?_)
          refine lv_iload_n hx hb dX12_allOf_35 rfl (lv_at hl 3 rfl) ?_
          refine lv_iload_n hx hb dX12_allOf_36 rfl (lv_at hl 2 rfl) ?_
          refine lv_bipush (v := 10) hx hb dX12_allOf_37 (by decide) ?_
          refine lv_isub hx hb dX12_allOf_39 ?_
          refine lv_topi (fun z_39 e_39 => ?_)
          refine lv_icmp_ne (tgt := 48) hx hb dX12_allOf_40 (by decide) (fun c_40 => ?_) (fun c_40 => ?_)
          · refine lv_iload hx hb dX12_allOf_48 (lv_at hl 5 rfl) ?_
            refine lv_istore (lv' := [(5, .int u5_16), (0, .ref m0), (1, .int (nI pk)), (2, .int p1), (3, .int u3_16), (4, .int u4_16), (6, .int (nI x_))]) hx hb dX12_allOf_50 hl (by decide) rfl (fun ls hl => ?_)
            refine lv_iload hx hb dX12_allOf_52 (lv_at hl 5 rfl) ?_
            refine lv_aload_n hx hb dX12_allOf_54 rfl (lv_at hl 1 rfl) ?_
            refine lv_iload hx hb dX12_allOf_55 (lv_at hl 6 rfl) ?_
            have hPc := hP.sub (ws' := [(m0, .inr (12, [.ref mp, .int (nI ms), .int (nI C), .int (nI P), .ref mw, .ref mh, .ref mo, .int (nI sS), .int x_value, .int x_digits, .int (nI rc), .int (nI rp), .int (nI ic), .ref m5, .ref m6, .ref m7, .long x_all, .int (nI mpn), .ref mk, .ref mn, .int kd2_2, .ref mq, .ref m8, .ref m9, .int x_last, .int x_steps, .int x_isRound, .int x_tablesDone, .ref mz, .int (nI mrs), .ref mb, .ref md, .long x_hash])), (m8, .inl (cs 1, 1024, .inr (.inl fm82_2)))]) [0, 6] rfl
            refine vp_callSl (W.runV (As := [.int (nI x_)]) (rest := [.int u4_16]) ⟨hx, hb, hml, hown, hg⟩ (m_together l D cs m0 mp mw mh mo m5 m6 m7 mk mn mq m8 m9 mz mb md ms C P mpn mrs sS rc rp ic (by omega) (by omega) (by omega) (by omega) (by omega) (by omega) (by omega) (by omega) (by omega) x_value x_digits x_all kd2_2 x_last x_steps x_isRound x_tablesDone x_hash fm82_2 x_ (by omega)) (cwV 1 hg (gw_V kw_378 kw_379 kw_380 kw_319 kw_377) rfl rfl rfl (by decide +kernel) ⟨(Nat.le_of_ble_eq_true rfl), (Nat.le_of_ble_eq_true rfl)⟩) (pr_SV (q := (RX12, TX12, 33)) 12 0 hK hPc rfl rfl) rfl rfl hl.1 rfl (lv_room (Nat.le_of_ble_eq_true rfl)) dX12_allOf_57 ⟨(Nat.le_of_ble_eq_true rfl), (Nat.le_of_ble_eq_true rfl)⟩) (fun r_57 h_57 => ?_)
            clear h_57
            refine lv_aload_n hx hb dX12_allOf_60 rfl (lv_at hl 1 rfl) ?_
            refine lv_iconst (v := 0) hx hb dX12_allOf_61 (by decide) ?_
            have hPc := hP.sub (ws' := [(m0, .inr (12, [.ref mp, .int (nI ms), .int (nI C), .int (nI P), .ref mw, .ref mh, .ref mo, .int (nI sS), .int x_value, .int x_digits, .int (nI rc), .int (nI rp), .int (nI ic), .ref m5, .ref m6, .ref m7, .long x_all, .int (nI mpn), .ref mk, .ref mn, .int kd2_2, .ref mq, .ref m8, .ref m9, .int x_last, .int x_steps, .int x_isRound, .int x_tablesDone, .ref mz, .int (nI mrs), .ref mb, .ref md, .long x_hash])), (m8, .inl (cs 1, 1024, .inr (.inl fm82_2)))]) [0, 6] rfl
            refine vp_callSl (W.runV (As := [.int 0]) (rest := [.long r_57, .int u4_16]) ⟨hx, hb, hml, hown, hg⟩ (m_together l D cs m0 mp mw mh mo m5 m6 m7 mk mn mq m8 m9 mz mb md ms C P mpn mrs sS rc rp ic (by omega) (by omega) (by omega) (by omega) (by omega) (by omega) (by omega) (by omega) (by omega) x_value x_digits x_all kd2_2 x_last x_steps x_isRound x_tablesDone x_hash fm82_2 0 (by omega)) (cwV 1 hg (gw_V kw_378 kw_379 kw_380 kw_319 kw_377) rfl rfl rfl (by decide +kernel) ⟨(Nat.le_of_ble_eq_true rfl), (Nat.le_of_ble_eq_true rfl)⟩) (pr_SV (q := (RX12, TX12, 33)) 12 0 hK hPc rfl rfl) rfl rfl hl.1 rfl (lv_room (Nat.le_of_ble_eq_true rfl)) dX12_allOf_62 ⟨(Nat.le_of_ble_eq_true rfl), (Nat.le_of_ble_eq_true rfl)⟩) (fun r_62 h_62 => ?_)
            clear h_62
            refine W.lcmp hx hb dX12_allOf_65 ?_
            refine lv_topi (fun z_65 e_65 => ?_)
            refine lv_if_le (tgt := 73) hx hb dX12_allOf_66 (by decide) (fun c_66 => ?_) (fun c_66 => ?_)
            · refine lv_iconst (v := 0) hx hb dX12_allOf_73 (by decide) ?_
              refine lv_iadd hx hb dX12_allOf_74 ?_
              refine lv_topi (fun z_74 e_74 => ?_)
              refine lv_istore (lv' := [(4, .int z_74), (5, .int u5_16), (0, .ref m0), (1, .int (nI pk)), (2, .int p1), (3, .int u3_16), (6, .int (nI x_))]) hx hb dX12_allOf_75 hl (by decide) rfl (fun ls hl => ?_)
              obtain ⟨z_77, e_77⟩ : ∃ y : Int32, y = u3_16 + 1 := ⟨_, rfl⟩
              refine lv_iinc (v := z_77) (lv' := [(3, .int z_77), (4, .int z_74), (5, .int u5_16), (0, .ref m0), (1, .int (nI pk)), (2, .int p1), (6, .int (nI x_))]) hx hb dX12_allOf_77 hl (k := 5) rfl (by rw [e_77]; rfl) (by decide) rfl (fun ls hl => ?_)
              refine lv_iinc (v := (nI (x_ + 1))) (lv' := [(6, .int (nI (x_ + 1))), (3, .int z_77), (4, .int z_74), (5, .int u5_16), (0, .ref m0), (1, .int (nI pk)), (2, .int p1)]) hx hb dX12_allOf_80 hl (k := 6) rfl (nI_add x_ 1) (by decide) rfl (fun ls hl => ?_)
              refine lv_goto (tgt := 16) hx hb dX12_allOf_83 (by decide) ?_
              exact ih16 z_77 z_74 u5_16 (x_ + 1) (by omega) (by omega) _ _ ls hP hD hS (lv_sub hl [4, 5, 6, 1, 2, 3, 0] rfl)
            · refine lv_iconst (v := 1) hx hb dX12_allOf_69 (by decide) ?_
              refine lv_goto (tgt := 74) hx hb dX12_allOf_70 (by decide) ?_
              refine lv_iadd hx hb dX12_allOf_74 ?_
              refine lv_topi (fun z_74 e_74 => ?_)
              refine lv_istore (lv' := [(4, .int z_74), (5, .int u5_16), (0, .ref m0), (1, .int (nI pk)), (2, .int p1), (3, .int u3_16), (6, .int (nI x_))]) hx hb dX12_allOf_75 hl (by decide) rfl (fun ls hl => ?_)
              obtain ⟨z_77, e_77⟩ : ∃ y : Int32, y = u3_16 + 1 := ⟨_, rfl⟩
              refine lv_iinc (v := z_77) (lv' := [(3, .int z_77), (4, .int z_74), (5, .int u5_16), (0, .ref m0), (1, .int (nI pk)), (2, .int p1), (6, .int (nI x_))]) hx hb dX12_allOf_77 hl (k := 5) rfl (by rw [e_77]; rfl) (by decide) rfl (fun ls hl => ?_)
              refine lv_iinc (v := (nI (x_ + 1))) (lv' := [(6, .int (nI (x_ + 1))), (3, .int z_77), (4, .int z_74), (5, .int u5_16), (0, .ref m0), (1, .int (nI pk)), (2, .int p1)]) hx hb dX12_allOf_80 hl (k := 6) rfl (nI_add x_ 1) (by decide) rfl (fun ls hl => ?_)
              refine lv_goto (tgt := 16) hx hb dX12_allOf_83 (by decide) ?_
              exact ih16 z_77 z_74 u5_16 (x_ + 1) (by omega) (by omega) _ _ ls hP hD hS (lv_sub hl [4, 5, 6, 1, 2, 3, 0] rfl)
          · refine lv_iload hx hb dX12_allOf_43 (lv_at hl 6 rfl) ?_
            refine lv_goto (tgt := 50) hx hb dX12_allOf_45 (by decide) ?_
            refine lv_istore (lv' := [(5, .int (nI x_)), (0, .ref m0), (1, .int (nI pk)), (2, .int p1), (3, .int u3_16), (4, .int u4_16), (6, .int (nI x_))]) hx hb dX12_allOf_50 hl (by decide) rfl (fun ls hl => ?_)
            refine lv_iload hx hb dX12_allOf_52 (lv_at hl 5 rfl) ?_
            refine lv_aload_n hx hb dX12_allOf_54 rfl (lv_at hl 1 rfl) ?_
            refine lv_iload hx hb dX12_allOf_55 (lv_at hl 6 rfl) ?_
            have hPc := hP.sub (ws' := [(m0, .inr (12, [.ref mp, .int (nI ms), .int (nI C), .int (nI P), .ref mw, .ref mh, .ref mo, .int (nI sS), .int x_value, .int x_digits, .int (nI rc), .int (nI rp), .int (nI ic), .ref m5, .ref m6, .ref m7, .long x_all, .int (nI mpn), .ref mk, .ref mn, .int kd2_2, .ref mq, .ref m8, .ref m9, .int x_last, .int x_steps, .int x_isRound, .int x_tablesDone, .ref mz, .int (nI mrs), .ref mb, .ref md, .long x_hash])), (m8, .inl (cs 1, 1024, .inr (.inl fm82_2)))]) [0, 6] rfl
            refine vp_callSl (W.runV (As := [.int (nI x_)]) (rest := [.int u4_16]) ⟨hx, hb, hml, hown, hg⟩ (m_together l D cs m0 mp mw mh mo m5 m6 m7 mk mn mq m8 m9 mz mb md ms C P mpn mrs sS rc rp ic (by omega) (by omega) (by omega) (by omega) (by omega) (by omega) (by omega) (by omega) (by omega) x_value x_digits x_all kd2_2 x_last x_steps x_isRound x_tablesDone x_hash fm82_2 x_ (by omega)) (cwV 1 hg (gw_V kw_378 kw_379 kw_380 kw_319 kw_377) rfl rfl rfl (by decide +kernel) ⟨(Nat.le_of_ble_eq_true rfl), (Nat.le_of_ble_eq_true rfl)⟩) (pr_SV (q := (RX12, TX12, 33)) 12 0 hK hPc rfl rfl) rfl rfl hl.1 rfl (lv_room (Nat.le_of_ble_eq_true rfl)) dX12_allOf_57 ⟨(Nat.le_of_ble_eq_true rfl), (Nat.le_of_ble_eq_true rfl)⟩) (fun r_57 h_57 => ?_)
            clear h_57
            refine lv_aload_n hx hb dX12_allOf_60 rfl (lv_at hl 1 rfl) ?_
            refine lv_iconst (v := 0) hx hb dX12_allOf_61 (by decide) ?_
            have hPc := hP.sub (ws' := [(m0, .inr (12, [.ref mp, .int (nI ms), .int (nI C), .int (nI P), .ref mw, .ref mh, .ref mo, .int (nI sS), .int x_value, .int x_digits, .int (nI rc), .int (nI rp), .int (nI ic), .ref m5, .ref m6, .ref m7, .long x_all, .int (nI mpn), .ref mk, .ref mn, .int kd2_2, .ref mq, .ref m8, .ref m9, .int x_last, .int x_steps, .int x_isRound, .int x_tablesDone, .ref mz, .int (nI mrs), .ref mb, .ref md, .long x_hash])), (m8, .inl (cs 1, 1024, .inr (.inl fm82_2)))]) [0, 6] rfl
            refine vp_callSl (W.runV (As := [.int 0]) (rest := [.long r_57, .int u4_16]) ⟨hx, hb, hml, hown, hg⟩ (m_together l D cs m0 mp mw mh mo m5 m6 m7 mk mn mq m8 m9 mz mb md ms C P mpn mrs sS rc rp ic (by omega) (by omega) (by omega) (by omega) (by omega) (by omega) (by omega) (by omega) (by omega) x_value x_digits x_all kd2_2 x_last x_steps x_isRound x_tablesDone x_hash fm82_2 0 (by omega)) (cwV 1 hg (gw_V kw_378 kw_379 kw_380 kw_319 kw_377) rfl rfl rfl (by decide +kernel) ⟨(Nat.le_of_ble_eq_true rfl), (Nat.le_of_ble_eq_true rfl)⟩) (pr_SV (q := (RX12, TX12, 33)) 12 0 hK hPc rfl rfl) rfl rfl hl.1 rfl (lv_room (Nat.le_of_ble_eq_true rfl)) dX12_allOf_62 ⟨(Nat.le_of_ble_eq_true rfl), (Nat.le_of_ble_eq_true rfl)⟩) (fun r_62 h_62 => ?_)
            clear h_62
            refine W.lcmp hx hb dX12_allOf_65 ?_
            refine lv_topi (fun z_65 e_65 => ?_)
            refine lv_if_le (tgt := 73) hx hb dX12_allOf_66 (by decide) (fun c_66 => ?_) (fun c_66 => ?_)
            · refine lv_iconst (v := 0) hx hb dX12_allOf_73 (by decide) ?_
              refine lv_iadd hx hb dX12_allOf_74 ?_
              refine lv_topi (fun z_74 e_74 => ?_)
              refine lv_istore (lv' := [(4, .int z_74), (5, .int (nI x_)), (0, .ref m0), (1, .int (nI pk)), (2, .int p1), (3, .int u3_16), (6, .int (nI x_))]) hx hb dX12_allOf_75 hl (by decide) rfl (fun ls hl => ?_)
              obtain ⟨z_77, e_77⟩ : ∃ y : Int32, y = u3_16 + 1 := ⟨_, rfl⟩
              refine lv_iinc (v := z_77) (lv' := [(3, .int z_77), (4, .int z_74), (5, .int (nI x_)), (0, .ref m0), (1, .int (nI pk)), (2, .int p1), (6, .int (nI x_))]) hx hb dX12_allOf_77 hl (k := 5) rfl (by rw [e_77]; rfl) (by decide) rfl (fun ls hl => ?_)
              refine lv_iinc (v := (nI (x_ + 1))) (lv' := [(6, .int (nI (x_ + 1))), (3, .int z_77), (4, .int z_74), (5, .int (nI x_)), (0, .ref m0), (1, .int (nI pk)), (2, .int p1)]) hx hb dX12_allOf_80 hl (k := 6) rfl (nI_add x_ 1) (by decide) rfl (fun ls hl => ?_)
              refine lv_goto (tgt := 16) hx hb dX12_allOf_83 (by decide) ?_
              exact ih16 z_77 z_74 (nI x_) (x_ + 1) (by omega) (by omega) _ _ ls hP hD hS (lv_sub hl [4, 5, 6, 1, 2, 3, 0] rfl)
            · refine lv_iconst (v := 1) hx hb dX12_allOf_69 (by decide) ?_
              refine lv_goto (tgt := 74) hx hb dX12_allOf_70 (by decide) ?_
              refine lv_iadd hx hb dX12_allOf_74 ?_
              refine lv_topi (fun z_74 e_74 => ?_)
              refine lv_istore (lv' := [(4, .int z_74), (5, .int (nI x_)), (0, .ref m0), (1, .int (nI pk)), (2, .int p1), (3, .int u3_16), (6, .int (nI x_))]) hx hb dX12_allOf_75 hl (by decide) rfl (fun ls hl => ?_)
              obtain ⟨z_77, e_77⟩ : ∃ y : Int32, y = u3_16 + 1 := ⟨_, rfl⟩
              refine lv_iinc (v := z_77) (lv' := [(3, .int z_77), (4, .int z_74), (5, .int (nI x_)), (0, .ref m0), (1, .int (nI pk)), (2, .int p1), (6, .int (nI x_))]) hx hb dX12_allOf_77 hl (k := 5) rfl (by rw [e_77]; rfl) (by decide) rfl (fun ls hl => ?_)
              refine lv_iinc (v := (nI (x_ + 1))) (lv' := [(6, .int (nI (x_ + 1))), (3, .int z_77), (4, .int z_74), (5, .int (nI x_)), (0, .ref m0), (1, .int (nI pk)), (2, .int p1)]) hx hb dX12_allOf_80 hl (k := 6) rfl (nI_add x_ 1) (by decide) rfl (fun ls hl => ?_)
              refine lv_goto (tgt := 16) hx hb dX12_allOf_83 (by decide) ?_
              exact ih16 z_77 z_74 (nI x_) (x_ + 1) (by omega) (by omega) _ _ ls hP hD hS (lv_sub hl [4, 5, 6, 1, 2, 3, 0] rfl)
        · refine lv_iconst (v := (-1)) hx hb dX12_allOf_31 (by decide) ?_
          refine lv_icmp_ne (tgt := 80) hx hb dX12_allOf_32 (by decide) (fun c_32 => ?_) (fun c_32 => absurd c_32 (nI_nm (by omega)))
          refine lv_iinc (v := (nI (x_ + 1))) (lv' := [(6, .int (nI (x_ + 1))), (0, .ref m0), (1, .int (nI pk)), (2, .int p1), (3, .int u3_16), (4, .int u4_16), (5, .int u5_16)]) hx hb dX12_allOf_80 hl (k := 6) rfl (nI_add x_ 1) (by decide) rfl (fun ls hl => ?_)
          refine lv_goto (tgt := 16) hx hb dX12_allOf_83 (by decide) ?_
          exact ih16 u3_16 u4_16 u5_16 (x_ + 1) (by omega) (by omega) _ _ ls hP hD hS (lv_sub hl [1, 2, 3, 4, 5, 6, 0] rfl)
  exact LOOP16 (lim P - 0 + 1) 0 0 (-1) 0 (by omega) (Nat.lt_succ_self _) _ _ ls hP hD hS (lv_sub hl [4, 5, 6, 3, 2, 1, 0] rfl)

theorem dX12_gains_0 : decode cX12_gains 0 = .ok (.iconst 1, 1) := by decide +kernel
theorem dX12_gains_1 : decode cX12_gains 1 = .ok (.istore 4, 2) := by decide +kernel
theorem dX12_gains_3 : decode cX12_gains 3 = .ok (.iconst 0, 1) := by decide +kernel
theorem dX12_gains_4 : decode cX12_gains 4 = .ok (.istore 5, 2) := by decide +kernel
theorem dX12_gains_6 : decode cX12_gains 6 = .ok (.iload 5, 2) := by decide +kernel
theorem dX12_gains_8 : decode cX12_gains 8 = .ok (.aload_n 0, 1) := by decide +kernel
theorem dX12_gains_9 : decode cX12_gains 9 = .ok (.getfield 57, 3) := by decide +kernel
theorem dX12_gains_12 : decode cX12_gains 12 = .ok (.if_icmp .ge 98, 3) := by decide +kernel
theorem dX12_gains_15 : decode cX12_gains 15 = .ok (.iload_n 1, 1) := by decide +kernel
theorem dX12_gains_16 : decode cX12_gains 16 = .ok (.iload 5, 2) := by decide +kernel
theorem dX12_gains_18 : decode cX12_gains 18 = .ok (.invokestatic 162, 3) := by decide +kernel
theorem dX12_gains_21 : decode cX12_gains 21 = .ok (.iload_n 2, 1) := by decide +kernel
theorem dX12_gains_22 : decode cX12_gains 22 = .ok (.iload 5, 2) := by decide +kernel
theorem dX12_gains_24 : decode cX12_gains 24 = .ok (.invokestatic 162, 3) := by decide +kernel
theorem dX12_gains_27 : decode cX12_gains 27 = .ok (.if_icmp .eq 7, 3) := by decide +kernel
theorem dX12_gains_30 : decode cX12_gains 30 = .ok (.iconst 1, 1) := by decide +kernel
theorem dX12_gains_31 : decode cX12_gains 31 = .ok (.goto 4, 3) := by decide +kernel
theorem dX12_gains_34 : decode cX12_gains 34 = .ok (.iconst 0, 1) := by decide +kernel
theorem dX12_gains_35 : decode cX12_gains 35 = .ok (.istore 6, 2) := by decide +kernel
theorem dX12_gains_37 : decode cX12_gains 37 = .ok (.iload_n 3, 1) := by decide +kernel
theorem dX12_gains_38 : decode cX12_gains 38 = .ok (.iload 5, 2) := by decide +kernel
theorem dX12_gains_40 : decode cX12_gains 40 = .ok (.ishr, 1) := by decide +kernel
theorem dX12_gains_41 : decode cX12_gains 41 = .ok (.iconst 1, 1) := by decide +kernel
theorem dX12_gains_42 : decode cX12_gains 42 = .ok (.iand, 1) := by decide +kernel
theorem dX12_gains_43 : decode cX12_gains 43 = .ok (.iconst 1, 1) := by decide +kernel
theorem dX12_gains_44 : decode cX12_gains 44 = .ok (.if_icmp .ne 7, 3) := by decide +kernel
theorem dX12_gains_47 : decode cX12_gains 47 = .ok (.iconst 1, 1) := by decide +kernel
theorem dX12_gains_48 : decode cX12_gains 48 = .ok (.goto 4, 3) := by decide +kernel
theorem dX12_gains_51 : decode cX12_gains 51 = .ok (.iconst 0, 1) := by decide +kernel
theorem dX12_gains_52 : decode cX12_gains 52 = .ok (.istore 7, 2) := by decide +kernel
theorem dX12_gains_54 : decode cX12_gains 54 = .ok (.iload 4, 2) := by decide +kernel
theorem dX12_gains_56 : decode cX12_gains 56 = .ok (.ifCond .eq 45, 3) := by decide +kernel
theorem dX12_gains_59 : decode cX12_gains 59 = .ok (.iload 6, 2) := by decide +kernel
theorem dX12_gains_61 : decode cX12_gains 61 = .ok (.iload 7, 2) := by decide +kernel
theorem dX12_gains_63 : decode cX12_gains 63 = .ok (.if_icmp .ne 38, 3) := by decide +kernel
theorem dX12_gains_66 : decode cX12_gains 66 = .ok (.iload 7, 2) := by decide +kernel
theorem dX12_gains_68 : decode cX12_gains 68 = .ok (.ifCond .eq 29, 3) := by decide +kernel
theorem dX12_gains_71 : decode cX12_gains 71 = .ok (.aload_n 0, 1) := by decide +kernel
theorem dX12_gains_72 : decode cX12_gains 72 = .ok (.getfield 41, 3) := by decide +kernel
theorem dX12_gains_75 : decode cX12_gains 75 = .ok (.iconst 4, 1) := by decide +kernel
theorem dX12_gains_76 : decode cX12_gains 76 = .ok (.iload_n 2, 1) := by decide +kernel
theorem dX12_gains_77 : decode cX12_gains 77 = .ok (.imul, 1) := by decide +kernel
theorem dX12_gains_78 : decode cX12_gains 78 = .ok (.iload 5, 2) := by decide +kernel
theorem dX12_gains_80 : decode cX12_gains 80 = .ok (.iadd, 1) := by decide +kernel
theorem dX12_gains_81 : decode cX12_gains 81 = .ok (.laload, 1) := by decide +kernel
theorem dX12_gains_82 : decode cX12_gains 82 = .ok (.aload_n 0, 1) := by decide +kernel
theorem dX12_gains_83 : decode cX12_gains 83 = .ok (.getfield 41, 3) := by decide +kernel
theorem dX12_gains_86 : decode cX12_gains 86 = .ok (.iconst 4, 1) := by decide +kernel
theorem dX12_gains_87 : decode cX12_gains 87 = .ok (.iload_n 1, 1) := by decide +kernel
theorem dX12_gains_88 : decode cX12_gains 88 = .ok (.imul, 1) := by decide +kernel
theorem dX12_gains_89 : decode cX12_gains 89 = .ok (.iload 5, 2) := by decide +kernel
theorem dX12_gains_91 : decode cX12_gains 91 = .ok (.iadd, 1) := by decide +kernel
theorem dX12_gains_92 : decode cX12_gains 92 = .ok (.laload, 1) := by decide +kernel
theorem dX12_gains_93 : decode cX12_gains 93 = .ok (.lcmp, 1) := by decide +kernel
theorem dX12_gains_94 : decode cX12_gains 94 = .ok (.ifCond .le 7, 3) := by decide +kernel
theorem dX12_gains_97 : decode cX12_gains 97 = .ok (.iconst 1, 1) := by decide +kernel
theorem dX12_gains_98 : decode cX12_gains 98 = .ok (.goto 4, 3) := by decide +kernel
theorem dX12_gains_101 : decode cX12_gains 101 = .ok (.iconst 0, 1) := by decide +kernel
theorem dX12_gains_102 : decode cX12_gains 102 = .ok (.istore 4, 2) := by decide +kernel
theorem dX12_gains_104 : decode cX12_gains 104 = .ok (.iinc 5 1, 3) := by decide +kernel
theorem dX12_gains_107 : decode cX12_gains 107 = .ok (.goto (-101), 3) := by decide +kernel
theorem dX12_gains_110 : decode cX12_gains 110 = .ok (.iload 4, 2) := by decide +kernel
theorem dX12_gains_112 : decode cX12_gains 112 = .ok (.ireturn, 1) := by decide +kernel

set_option maxHeartbeats 4000000 in
set_option maxRecDepth 100000 in
theorem m_gains (l : Launch) (D : va_G) (cs : Nat → ClassId) (m0 : Nat) (mp : Nat) (mw : Nat) (mh : Nat) (mo : Nat) (m5 : Nat) (m6 : Nat) (m7 : Nat) (mk : Nat) (mn : Nat) (mq : Nat) (m8 : Nat) (m9 : Nat) (mz : Nat) (mb : Nat) (md : Nat) (ms : Nat) (C : Nat) (P : Nat) (mpn : Nat) (mrs : Nat) (sS : Nat) (rc : Nat) (rp : Nat) (ic : Nat) (hms : ms ≤ 90) (hC5 : C ≤ 5) (hP4 : P ≤ 4) (hmpn : mpn ≤ 8) (hmrs : mrs ≤ 24) (hsS : sS ≤ 4) (hrc : rc ≤ 5) (hrp : rp ≤ 4) (hic : ic ≤ 4) (x_value : Int32) (x_digits : Int32) (x_all : Int64) (x_kind : Int32) (x_last : Int32) (x_steps : Int32) (x_isRound : Int32) (x_tablesDone : Int32) (x_hash : Int64) (fm8 : Nat → Int64) (a_ : Nat) (ha_ : a_ < lim P) (b_ : Nat) (hb_ : b_ < lim P) (set : Int32) : Met l yX12_gains (Cond.code yX12_gains cX12_gains 8 (some .boolean) :: gw_tbl) ({ frames := 1, cells := 0, slots := 0, locals := 21 }) (pc_S D cs [(m0, .inr (12, [.ref mp, .int (nI ms), .int (nI C), .int (nI P), .ref mw, .ref mh, .ref mo, .int (nI sS), .int x_value, .int x_digits, .int (nI rc), .int (nI rp), .int (nI ic), .ref m5, .ref m6, .ref m7, .long x_all, .int (nI mpn), .ref mk, .ref mn, .int x_kind, .ref mq, .ref m8, .ref m9, .int x_last, .int x_steps, .int x_isRound, .int x_tablesDone, .ref mz, .int (nI mrs), .ref mb, .ref md, .long x_hash])), (m8, .inl (cs 1, 1024, .inr (.inl fm8)))] [.ref m0, .int (nI a_), .int (nI b_), .int set]) (vp_Si (fun r => r = 0 ∨ r = 1)) 0 0 (fun _ => False) := by
  refine Met.ofW (cc := cX12_gains) (maxL := 8) (ret := (some .boolean)) (by decide) rfl ?_
  intro p e s m args below meth c s₁ B hml hv
  obtain ⟨hargs, hP, hK⟩ := hv
  have hx := B.exec
  have hb := B.bytes
  have hr := B.returns
  have hts := atoms_spec (ws := Cond.code yX12_gains cX12_gains 8 (some .boolean) :: gw_tbl) B.pre
  have hg := fun (w : Cond) (h : w ∈ gw_tbl) => hts w (List.mem_cons_of_mem _ h)
  have hown : s.vm.findClass RX12 = some m.cls := findClass_of_methodNamed B.named
  have hlocks := B.notSynchronized
  have hl := lv_entry ([.ref m0, .int (nI a_), .int (nI b_), .int set]) (n := 8) (Nat.le_of_ble_eq_true rfl)
  rw [show entryFrame m args 8 = F0 m 0 (lg_sl ([.ref m0, .int (nI a_), .int (nI b_), .int set]) ++ List.replicate (8 - (lg_sl ([.ref m0, .int (nI a_), .int (nI b_), .int set])).length) Slot.unset).toArray [] from by rw [hargs]; exact lg_entry_eq ..]
  generalize (lg_sl ([.ref m0, .int (nI a_), .int (nI b_), .int set]) ++ List.replicate (8 - (lg_sl ([.ref m0, .int (nI a_), .int (nI b_), .int set])).length) Slot.unset).toArray = ls at hl ⊢
  have hl : lv_has ls 8 [(0, .ref m0), (1, .int (nI a_)), (2, .int (nI b_)), (3, .int set)] := hl
  refine W_genQ (fun Q hQ => ?_)
  have hlm := lim_le hP4
  have hlq := lim_pos P
  have hsg := sgn_le hP4
  refine lv_iconst (v := 1) hx hb dX12_gains_0 (by decide) ?_
  refine lv_istore (lv' := [(4, .int 1), (0, .ref m0), (1, .int (nI a_)), (2, .int (nI b_)), (3, .int set)]) hx hb dX12_gains_1 hl (by decide) rfl (fun ls hl => ?_)
  refine lv_iconst (v := 0) hx hb dX12_gains_3 (by decide) ?_
  refine lv_istore (lv' := [(5, .int 0), (4, .int 1), (0, .ref m0), (1, .int (nI a_)), (2, .int (nI b_)), (3, .int set)]) hx hb dX12_gains_4 hl (by decide) rfl (fun ls hl => ?_)
  have LOOP6 : ∀ (n6 : Nat) (u4_6 : Int32) (pe : Nat), pe ≤ P → u4_6 = 0 ∨ u4_6 = 1 → P - pe < n6 → ∀ (ls : Array Slot), lv_has ls 8 [(0, .ref m0), (1, .int (nI a_)), (2, .int (nI b_)), (3, .int set), (4, .int u4_6), (5, .int (nI pe))] → W p l e ({ frames := 1, cells := 0, slots := 0, locals := 21 } : Room) s m args below meth c s.heap [] 0 0 Q (F0 m 6 ls []) := by
    intro n6
    induction n6 with
    | zero =>
      intro u4_6 pe hpe hz_6 hn6 ls hl
      exact absurd hn6 (Nat.not_lt_zero _)
    | succ n6 ih6 =>
      intro u4_6 pe hpe hz_6 hn6 ls hl
      refine lv_iload hx hb dX12_gains_6 (lv_at hl 5 rfl) ?_
      refine lv_aload_n hx hb dX12_gains_8 rfl (lv_at hl 0 rfl) ?_
      refine va_get (D := D) (ci := 12) (v := .int (nI P)) (C := RX12) (T := TX12) (N := 33) hx hb hg gwX12 hown hK hP 0 rfl rfl 3 (by decide) (hg _ kw_315) (fun _ h9 => h9) rfl dX12_gains_9 ?_
      refine lv_icmp_ge (tgt := 110) hx hb dX12_gains_12 (by decide) (fun c_12 => ?_) (fun c_12 => ?_)
      · have n_12 : P ≤ pe := b_le_t (by omega) (by omega) c_12
        refine lv_iload hx hb dX12_gains_110 (lv_at hl 4 rfl) ?_
        refine W_sQ hQ ?_
        exact W.zret (v := u4_6) hx hb hr (z_nar hz_6) (fun t ht hW => ⟨u4_6, rfl, hz_6, ht⟩) (fun _ h => absurd h List.not_mem_nil) dX12_gains_112
      · have n_12 : pe < P := b_le_f (by omega) (by omega) c_12
        refine lv_iload_n hx hb dX12_gains_15 rfl (lv_at hl 1 rfl) ?_
        refine lv_iload hx hb dX12_gains_16 (lv_at hl 5 rfl) ?_
        refine vp_callSi (W.runS (As := [.int (nI a_), .int (nI pe)]) (rest := []) ⟨hx, hb, hml, hown, hg⟩ (m_wayOf l (nI a_) (nI pe)) (va_cwS 2 hg (gw_S kw_332 kw_333 kw_319 kw_331) rfl rfl rfl (by decide +kernel) ⟨(Nat.le_of_ble_eq_true rfl), (Nat.le_of_ble_eq_true rfl)⟩) pr_0 rfl rfl hl.1 rfl (lv_room (Nat.le_of_ble_eq_true rfl)) dX12_gains_18 ⟨(Nat.le_of_ble_eq_true rfl), (Nat.le_of_ble_eq_true rfl)⟩) (fun r_18 h_18 => ?_)
        clear h_18
        refine lv_iload_n hx hb dX12_gains_21 rfl (lv_at hl 2 rfl) ?_
        refine lv_iload hx hb dX12_gains_22 (lv_at hl 5 rfl) ?_
        refine vp_callSi (W.runS (As := [.int (nI b_), .int (nI pe)]) (rest := [.int r_18]) ⟨hx, hb, hml, hown, hg⟩ (m_wayOf l (nI b_) (nI pe)) (va_cwS 2 hg (gw_S kw_332 kw_333 kw_319 kw_331) rfl rfl rfl (by decide +kernel) ⟨(Nat.le_of_ble_eq_true rfl), (Nat.le_of_ble_eq_true rfl)⟩) pr_0 rfl rfl hl.1 rfl (lv_room (Nat.le_of_ble_eq_true rfl)) dX12_gains_24 ⟨(Nat.le_of_ble_eq_true rfl), (Nat.le_of_ble_eq_true rfl)⟩) (fun r_24 h_24 => ?_)
        clear h_24
        refine lv_icmp_eq (tgt := 34) hx hb dX12_gains_27 (by decide) (fun c_27 => ?_) (fun c_27 => ?_)
        · refine lv_iconst (v := 0) hx hb dX12_gains_34 (by decide) ?_
          refine lv_istore (lv' := [(6, .int 0), (0, .ref m0), (1, .int (nI a_)), (2, .int (nI b_)), (3, .int set), (4, .int u4_6), (5, .int (nI pe))]) hx hb dX12_gains_35 hl (by decide) rfl (fun ls hl => ?_)
          refine lv_iload_n hx hb dX12_gains_37 rfl (lv_at hl 4 rfl) ?_
          refine lv_iload hx hb dX12_gains_38 (lv_at hl 6 rfl) ?_
          refine lv_ishr hx hb dX12_gains_40 ?_
          refine lv_topi (fun z_40 e_40 => ?_)
          refine lv_iconst (v := 1) hx hb dX12_gains_41 (by decide) ?_
          refine lv_iand hx hb dX12_gains_42 ?_
          refine lv_topi (fun z_42 e_42 => ?_)
          obtain ⟨j_42, hj_42, ee_42⟩ := pk_andE z_40 (m := 1) 1 rfl
          obtain rfl : z_42 = nI j_42 := e_42.trans ee_42
          have hj_42 : j_42 < 2 := hj_42
          refine lv_iconst (v := 1) hx hb dX12_gains_43 (by decide) ?_
          refine lv_icmp_ne (tgt := 51) hx hb dX12_gains_44 (by decide) (fun c_44 => ?_) (fun c_44 => ?_)
          · have n_44 : ¬ j_42 = 1 := b_eq_f (by omega) (by omega) c_44
            refine lv_iconst (v := 0) hx hb dX12_gains_51 (by decide) ?_
            refine lv_istore (lv' := [(7, .int 0), (6, .int 0), (0, .ref m0), (1, .int (nI a_)), (2, .int (nI b_)), (3, .int set), (4, .int u4_6), (5, .int (nI pe))]) hx hb dX12_gains_52 hl (by decide) rfl (fun ls hl => ?_)
            refine lv_iload hx hb dX12_gains_54 (lv_at hl 6 rfl) ?_
            refine lv_if_eq (tgt := 101) hx hb dX12_gains_56 (by decide) (fun c_56 => ?_) (fun c_56 => ?_)
            · refine lv_iconst (v := 0) hx hb dX12_gains_101 (by decide) ?_
              refine lv_istore (lv' := [(4, .int 0), (7, .int 0), (6, .int 0), (0, .ref m0), (1, .int (nI a_)), (2, .int (nI b_)), (3, .int set), (5, .int (nI pe))]) hx hb dX12_gains_102 hl (by decide) rfl (fun ls hl => ?_)
              refine lv_iinc (v := (nI (pe + 1))) (lv' := [(5, .int (nI (pe + 1))), (4, .int 0), (7, .int 0), (6, .int 0), (0, .ref m0), (1, .int (nI a_)), (2, .int (nI b_)), (3, .int set)]) hx hb dX12_gains_104 hl (k := 7) rfl (nI_add pe 1) (by decide) rfl (fun ls hl => ?_)
              refine lv_goto (tgt := 6) hx hb dX12_gains_107 (by decide) ?_
              exact ih6 0 (pe + 1) (by omega) (Or.inl rfl) (by omega) ls (lv_sub hl [4, 5, 6, 7, 1, 0] rfl)
            · refine lv_iload hx hb dX12_gains_59 (lv_at hl 1 rfl) ?_
              refine lv_iload hx hb dX12_gains_61 (lv_at hl 0 rfl) ?_
              refine lv_icmp_ne (tgt := 101) hx hb dX12_gains_63 (by decide) (fun c_63 => absurd c_63 (by decide)) (fun c_63 => ?_)
              refine lv_iload hx hb dX12_gains_66 (lv_at hl 0 rfl) ?_
              refine lv_if_eq (tgt := 97) hx hb dX12_gains_68 (by decide) (fun c_68 => ?_) (fun c_68 => absurd c_68 (by decide))
              refine lv_iconst (v := 1) hx hb dX12_gains_97 (by decide) ?_
              refine lv_goto (tgt := 102) hx hb dX12_gains_98 (by decide) ?_
              refine lv_istore (lv' := [(4, .int 1), (7, .int 0), (6, .int 0), (0, .ref m0), (1, .int (nI a_)), (2, .int (nI b_)), (3, .int set), (5, .int (nI pe))]) hx hb dX12_gains_102 hl (by decide) rfl (fun ls hl => ?_)
              refine lv_iinc (v := (nI (pe + 1))) (lv' := [(5, .int (nI (pe + 1))), (4, .int 1), (7, .int 0), (6, .int 0), (0, .ref m0), (1, .int (nI a_)), (2, .int (nI b_)), (3, .int set)]) hx hb dX12_gains_104 hl (k := 7) rfl (nI_add pe 1) (by decide) rfl (fun ls hl => ?_)
              refine lv_goto (tgt := 6) hx hb dX12_gains_107 (by decide) ?_
              exact ih6 1 (pe + 1) (by omega) (Or.inr rfl) (by omega) ls (lv_sub hl [4, 5, 6, 7, 1, 0] rfl)
          · have n_44 : j_42 = 1 := b_eq_t (by omega) (by omega) c_44
            refine lv_iconst (v := 1) hx hb dX12_gains_47 (by decide) ?_
            refine lv_goto (tgt := 52) hx hb dX12_gains_48 (by decide) ?_
            refine lv_istore (lv' := [(7, .int 1), (6, .int 0), (0, .ref m0), (1, .int (nI a_)), (2, .int (nI b_)), (3, .int set), (4, .int u4_6), (5, .int (nI pe))]) hx hb dX12_gains_52 hl (by decide) rfl (fun ls hl => ?_)
            refine lv_iload hx hb dX12_gains_54 (lv_at hl 6 rfl) ?_
            refine lv_if_eq (tgt := 101) hx hb dX12_gains_56 (by decide) (fun c_56 => ?_) (fun c_56 => ?_)
            · refine lv_iconst (v := 0) hx hb dX12_gains_101 (by decide) ?_
              refine lv_istore (lv' := [(4, .int 0), (7, .int 1), (6, .int 0), (0, .ref m0), (1, .int (nI a_)), (2, .int (nI b_)), (3, .int set), (5, .int (nI pe))]) hx hb dX12_gains_102 hl (by decide) rfl (fun ls hl => ?_)
              refine lv_iinc (v := (nI (pe + 1))) (lv' := [(5, .int (nI (pe + 1))), (4, .int 0), (7, .int 1), (6, .int 0), (0, .ref m0), (1, .int (nI a_)), (2, .int (nI b_)), (3, .int set)]) hx hb dX12_gains_104 hl (k := 7) rfl (nI_add pe 1) (by decide) rfl (fun ls hl => ?_)
              refine lv_goto (tgt := 6) hx hb dX12_gains_107 (by decide) ?_
              exact ih6 0 (pe + 1) (by omega) (Or.inl rfl) (by omega) ls (lv_sub hl [4, 5, 6, 7, 1, 0] rfl)
            · refine lv_iload hx hb dX12_gains_59 (lv_at hl 1 rfl) ?_
              refine lv_iload hx hb dX12_gains_61 (lv_at hl 0 rfl) ?_
              refine lv_icmp_ne (tgt := 101) hx hb dX12_gains_63 (by decide) (fun c_63 => ?_) (fun c_63 => absurd c_63 (by decide))
              refine lv_iconst (v := 0) hx hb dX12_gains_101 (by decide) ?_
              refine lv_istore (lv' := [(4, .int 0), (7, .int 1), (6, .int 0), (0, .ref m0), (1, .int (nI a_)), (2, .int (nI b_)), (3, .int set), (5, .int (nI pe))]) hx hb dX12_gains_102 hl (by decide) rfl (fun ls hl => ?_)
              refine lv_iinc (v := (nI (pe + 1))) (lv' := [(5, .int (nI (pe + 1))), (4, .int 0), (7, .int 1), (6, .int 0), (0, .ref m0), (1, .int (nI a_)), (2, .int (nI b_)), (3, .int set)]) hx hb dX12_gains_104 hl (k := 7) rfl (nI_add pe 1) (by decide) rfl (fun ls hl => ?_)
              refine lv_goto (tgt := 6) hx hb dX12_gains_107 (by decide) ?_
              exact ih6 0 (pe + 1) (by omega) (Or.inl rfl) (by omega) ls (lv_sub hl [4, 5, 6, 7, 1, 0] rfl)
        · refine lv_iconst (v := 1) hx hb dX12_gains_30 (by decide) ?_
          refine lv_goto (tgt := 35) hx hb dX12_gains_31 (by decide) ?_
          refine lv_istore (lv' := [(6, .int 1), (0, .ref m0), (1, .int (nI a_)), (2, .int (nI b_)), (3, .int set), (4, .int u4_6), (5, .int (nI pe))]) hx hb dX12_gains_35 hl (by decide) rfl (fun ls hl => ?_)
          refine lv_iload_n hx hb dX12_gains_37 rfl (lv_at hl 4 rfl) ?_
          refine lv_iload hx hb dX12_gains_38 (lv_at hl 6 rfl) ?_
          refine lv_ishr hx hb dX12_gains_40 ?_
          refine lv_topi (fun z_40 e_40 => ?_)
          refine lv_iconst (v := 1) hx hb dX12_gains_41 (by decide) ?_
          refine lv_iand hx hb dX12_gains_42 ?_
          refine lv_topi (fun z_42 e_42 => ?_)
          obtain ⟨j_42, hj_42, ee_42⟩ := pk_andE z_40 (m := 1) 1 rfl
          obtain rfl : z_42 = nI j_42 := e_42.trans ee_42
          have hj_42 : j_42 < 2 := hj_42
          refine lv_iconst (v := 1) hx hb dX12_gains_43 (by decide) ?_
          refine lv_icmp_ne (tgt := 51) hx hb dX12_gains_44 (by decide) (fun c_44 => ?_) (fun c_44 => ?_)
          · have n_44 : ¬ j_42 = 1 := b_eq_f (by omega) (by omega) c_44
            refine lv_iconst (v := 0) hx hb dX12_gains_51 (by decide) ?_
            refine lv_istore (lv' := [(7, .int 0), (6, .int 1), (0, .ref m0), (1, .int (nI a_)), (2, .int (nI b_)), (3, .int set), (4, .int u4_6), (5, .int (nI pe))]) hx hb dX12_gains_52 hl (by decide) rfl (fun ls hl => ?_)
            refine lv_iload hx hb dX12_gains_54 (lv_at hl 6 rfl) ?_
            refine lv_if_eq (tgt := 101) hx hb dX12_gains_56 (by decide) (fun c_56 => ?_) (fun c_56 => ?_)
            · refine lv_iconst (v := 0) hx hb dX12_gains_101 (by decide) ?_
              refine lv_istore (lv' := [(4, .int 0), (7, .int 0), (6, .int 1), (0, .ref m0), (1, .int (nI a_)), (2, .int (nI b_)), (3, .int set), (5, .int (nI pe))]) hx hb dX12_gains_102 hl (by decide) rfl (fun ls hl => ?_)
              refine lv_iinc (v := (nI (pe + 1))) (lv' := [(5, .int (nI (pe + 1))), (4, .int 0), (7, .int 0), (6, .int 1), (0, .ref m0), (1, .int (nI a_)), (2, .int (nI b_)), (3, .int set)]) hx hb dX12_gains_104 hl (k := 7) rfl (nI_add pe 1) (by decide) rfl (fun ls hl => ?_)
              refine lv_goto (tgt := 6) hx hb dX12_gains_107 (by decide) ?_
              exact ih6 0 (pe + 1) (by omega) (Or.inl rfl) (by omega) ls (lv_sub hl [4, 5, 6, 7, 1, 0] rfl)
            · refine lv_iload hx hb dX12_gains_59 (lv_at hl 1 rfl) ?_
              refine lv_iload hx hb dX12_gains_61 (lv_at hl 0 rfl) ?_
              refine lv_icmp_ne (tgt := 101) hx hb dX12_gains_63 (by decide) (fun c_63 => ?_) (fun c_63 => absurd c_63 (by decide))
              refine lv_iconst (v := 0) hx hb dX12_gains_101 (by decide) ?_
              refine lv_istore (lv' := [(4, .int 0), (7, .int 0), (6, .int 1), (0, .ref m0), (1, .int (nI a_)), (2, .int (nI b_)), (3, .int set), (5, .int (nI pe))]) hx hb dX12_gains_102 hl (by decide) rfl (fun ls hl => ?_)
              refine lv_iinc (v := (nI (pe + 1))) (lv' := [(5, .int (nI (pe + 1))), (4, .int 0), (7, .int 0), (6, .int 1), (0, .ref m0), (1, .int (nI a_)), (2, .int (nI b_)), (3, .int set)]) hx hb dX12_gains_104 hl (k := 7) rfl (nI_add pe 1) (by decide) rfl (fun ls hl => ?_)
              refine lv_goto (tgt := 6) hx hb dX12_gains_107 (by decide) ?_
              exact ih6 0 (pe + 1) (by omega) (Or.inl rfl) (by omega) ls (lv_sub hl [4, 5, 6, 7, 1, 0] rfl)
          · have n_44 : j_42 = 1 := b_eq_t (by omega) (by omega) c_44
            refine lv_iconst (v := 1) hx hb dX12_gains_47 (by decide) ?_
            refine lv_goto (tgt := 52) hx hb dX12_gains_48 (by decide) ?_
            refine lv_istore (lv' := [(7, .int 1), (6, .int 1), (0, .ref m0), (1, .int (nI a_)), (2, .int (nI b_)), (3, .int set), (4, .int u4_6), (5, .int (nI pe))]) hx hb dX12_gains_52 hl (by decide) rfl (fun ls hl => ?_)
            refine lv_iload hx hb dX12_gains_54 (lv_at hl 6 rfl) ?_
            refine lv_if_eq (tgt := 101) hx hb dX12_gains_56 (by decide) (fun c_56 => ?_) (fun c_56 => ?_)
            · refine lv_iconst (v := 0) hx hb dX12_gains_101 (by decide) ?_
              refine lv_istore (lv' := [(4, .int 0), (7, .int 1), (6, .int 1), (0, .ref m0), (1, .int (nI a_)), (2, .int (nI b_)), (3, .int set), (5, .int (nI pe))]) hx hb dX12_gains_102 hl (by decide) rfl (fun ls hl => ?_)
              refine lv_iinc (v := (nI (pe + 1))) (lv' := [(5, .int (nI (pe + 1))), (4, .int 0), (7, .int 1), (6, .int 1), (0, .ref m0), (1, .int (nI a_)), (2, .int (nI b_)), (3, .int set)]) hx hb dX12_gains_104 hl (k := 7) rfl (nI_add pe 1) (by decide) rfl (fun ls hl => ?_)
              refine lv_goto (tgt := 6) hx hb dX12_gains_107 (by decide) ?_
              exact ih6 0 (pe + 1) (by omega) (Or.inl rfl) (by omega) ls (lv_sub hl [4, 5, 6, 7, 1, 0] rfl)
            · refine lv_iload hx hb dX12_gains_59 (lv_at hl 1 rfl) ?_
              refine lv_iload hx hb dX12_gains_61 (lv_at hl 0 rfl) ?_
              refine lv_icmp_ne (tgt := 101) hx hb dX12_gains_63 (by decide) (fun c_63 => absurd c_63 (by decide)) (fun c_63 => ?_)
              refine lv_iload hx hb dX12_gains_66 (lv_at hl 0 rfl) ?_
              refine lv_if_eq (tgt := 97) hx hb dX12_gains_68 (by decide) (fun c_68 => absurd c_68 (by decide)) (fun c_68 => ?_)
              refine lv_aload_n hx hb dX12_gains_71 rfl (lv_at hl 2 rfl) ?_
              refine va_get (D := D) (ci := 12) (v := .ref m8) (C := RX12) (T := TX12) (N := 33) hx hb hg gwX12 hown hK hP 0 rfl rfl 22 (by decide) (hg _ kw_353) (fun _ h9 => h9) rfl dX12_gains_72 ?_
              refine lv_iconst (v := 4) hx hb dX12_gains_75 (by decide) ?_
              refine lv_iload_n hx hb dX12_gains_76 rfl (lv_at hl 4 rfl) ?_
              refine lv_imul hx hb dX12_gains_77 ?_
              refine lv_topi (fun z_77 e_77 => ?_)
              obtain rfl : z_77 = nI (4 * b_) := e_77.trans (pk_mul _ _)
              refine lv_iload hx hb dX12_gains_78 (lv_at hl 7 rfl) ?_
              refine lv_iadd hx hb dX12_gains_80 ?_
              refine lv_topi (fun z_80 e_80 => ?_)
              obtain rfl : z_80 = nI (4 * b_ + pe) := e_80.trans (nI_add _ _)
              refine va_lald hx hb hK hP 1 1 rfl rfl (vp_in_nI (show 4 * b_ + pe < 1024 by omega) (by decide)) dX12_gains_81 ?_
              refine lv_topl (fun z_81 e_81 => ?_)
              refine lv_aload_n hx hb dX12_gains_82 rfl (lv_at hl 2 rfl) ?_
              refine va_get (D := D) (ci := 12) (v := .ref m8) (C := RX12) (T := TX12) (N := 33) hx hb hg gwX12 hown hK hP 0 rfl rfl 22 (by decide) (hg _ kw_353) (fun _ h9 => h9) rfl dX12_gains_83 ?_
              refine lv_iconst (v := 4) hx hb dX12_gains_86 (by decide) ?_
              refine lv_iload_n hx hb dX12_gains_87 rfl (lv_at hl 3 rfl) ?_
              refine lv_imul hx hb dX12_gains_88 ?_
              refine lv_topi (fun z_88 e_88 => ?_)
              obtain rfl : z_88 = nI (4 * a_) := e_88.trans (pk_mul _ _)
              refine lv_iload hx hb dX12_gains_89 (lv_at hl 7 rfl) ?_
              refine lv_iadd hx hb dX12_gains_91 ?_
              refine lv_topi (fun z_91 e_91 => ?_)
              obtain rfl : z_91 = nI (4 * a_ + pe) := e_91.trans (nI_add _ _)
              refine va_lald hx hb hK hP 1 1 rfl rfl (vp_in_nI (show 4 * a_ + pe < 1024 by omega) (by decide)) dX12_gains_92 ?_
              refine lv_topl (fun z_92 e_92 => ?_)
              refine W.lcmp hx hb dX12_gains_93 ?_
              refine lv_topi (fun z_93 e_93 => ?_)
              refine lv_if_le (tgt := 101) hx hb dX12_gains_94 (by decide) (fun c_94 => ?_) (fun c_94 => ?_)
              · refine lv_iconst (v := 0) hx hb dX12_gains_101 (by decide) ?_
                refine lv_istore (lv' := [(4, .int 0), (7, .int 1), (6, .int 1), (0, .ref m0), (1, .int (nI a_)), (2, .int (nI b_)), (3, .int set), (5, .int (nI pe))]) hx hb dX12_gains_102 hl (by decide) rfl (fun ls hl => ?_)
                refine lv_iinc (v := (nI (pe + 1))) (lv' := [(5, .int (nI (pe + 1))), (4, .int 0), (7, .int 1), (6, .int 1), (0, .ref m0), (1, .int (nI a_)), (2, .int (nI b_)), (3, .int set)]) hx hb dX12_gains_104 hl (k := 7) rfl (nI_add pe 1) (by decide) rfl (fun ls hl => ?_)
                refine lv_goto (tgt := 6) hx hb dX12_gains_107 (by decide) ?_
                exact ih6 0 (pe + 1) (by omega) (Or.inl rfl) (by omega) ls (lv_sub hl [4, 5, 6, 7, 1, 0] rfl)
              · refine lv_iconst (v := 1) hx hb dX12_gains_97 (by decide) ?_
                refine lv_goto (tgt := 102) hx hb dX12_gains_98 (by decide) ?_
                refine lv_istore (lv' := [(4, .int 1), (7, .int 1), (6, .int 1), (0, .ref m0), (1, .int (nI a_)), (2, .int (nI b_)), (3, .int set), (5, .int (nI pe))]) hx hb dX12_gains_102 hl (by decide) rfl (fun ls hl => ?_)
                refine lv_iinc (v := (nI (pe + 1))) (lv' := [(5, .int (nI (pe + 1))), (4, .int 1), (7, .int 1), (6, .int 1), (0, .ref m0), (1, .int (nI a_)), (2, .int (nI b_)), (3, .int set)]) hx hb dX12_gains_104 hl (k := 7) rfl (nI_add pe 1) (by decide) rfl (fun ls hl => ?_)
                refine lv_goto (tgt := 6) hx hb dX12_gains_107 (by decide) ?_
                exact ih6 1 (pe + 1) (by omega) (Or.inr rfl) (by omega) ls (lv_sub hl [4, 5, 6, 7, 1, 0] rfl)
  exact LOOP6 (P - 0 + 1) 1 0 (by omega) (Or.inr rfl) (Nat.lt_succ_self _) ls (lv_sub hl [2, 3, 4, 5, 1, 0] rfl)

theorem dX12_tableWorth_0 : decode cX12_tableWorth 0 = .ok (.iload_n 2, 1) := by decide +kernel
theorem dX12_tableWorth_1 : decode cX12_tableWorth 1 = .ok (.iconst 2, 1) := by decide +kernel
theorem dX12_tableWorth_2 : decode cX12_tableWorth 2 = .ok (.if_icmp .ge 22, 3) := by decide +kernel
theorem dX12_tableWorth_5 : decode cX12_tableWorth 5 = .ok (.ldc2_w 235, 3) := by decide +kernel
theorem dX12_tableWorth_8 : decode cX12_tableWorth 8 = .ok (.aload_n 0, 1) := by decide +kernel
theorem dX12_tableWorth_9 : decode cX12_tableWorth 9 = .ok (.getfield 117, 3) := by decide +kernel
theorem dX12_tableWorth_12 : decode cX12_tableWorth 12 = .ok (.lmul, 1) := by decide +kernel
theorem dX12_tableWorth_13 : decode cX12_tableWorth 13 = .ok (.aload_n 0, 1) := by decide +kernel
theorem dX12_tableWorth_14 : decode cX12_tableWorth 14 = .ok (.getfield 19, 3) := by decide +kernel
theorem dX12_tableWorth_17 : decode cX12_tableWorth 17 = .ok (.iload_n 1, 1) := by decide +kernel
theorem dX12_tableWorth_18 : decode cX12_tableWorth 18 = .ok (.iaload, 1) := by decide +kernel
theorem dX12_tableWorth_19 : decode cX12_tableWorth 19 = .ok (.i2l, 1) := by decide +kernel
theorem dX12_tableWorth_20 : decode cX12_tableWorth 20 = .ok (.lmul, 1) := by decide +kernel
theorem dX12_tableWorth_21 : decode cX12_tableWorth 21 = .ok (.goto 4, 3) := by decide +kernel
theorem dX12_tableWorth_24 : decode cX12_tableWorth 24 = .ok (.lconst 0, 1) := by decide +kernel
theorem dX12_tableWorth_25 : decode cX12_tableWorth 25 = .ok (.lstore 4, 2) := by decide +kernel
theorem dX12_tableWorth_27 : decode cX12_tableWorth 27 = .ok (.iload_n 3, 1) := by decide +kernel
theorem dX12_tableWorth_28 : decode cX12_tableWorth 28 = .ok (.istore 6, 2) := by decide +kernel
theorem dX12_tableWorth_30 : decode cX12_tableWorth 30 = .ok (.iconst 3, 1) := by decide +kernel
theorem dX12_tableWorth_31 : decode cX12_tableWorth 31 = .ok (.istore 7, 2) := by decide +kernel
theorem dX12_tableWorth_33 : decode cX12_tableWorth 33 = .ok (.iload 7, 2) := by decide +kernel
theorem dX12_tableWorth_35 : decode cX12_tableWorth 35 = .ok (.ifCond .lt 44, 3) := by decide +kernel
theorem dX12_tableWorth_38 : decode cX12_tableWorth 38 = .ok (.lload 4, 2) := by decide +kernel
theorem dX12_tableWorth_40 : decode cX12_tableWorth 40 = .ok (.aload_n 0, 1) := by decide +kernel
theorem dX12_tableWorth_41 : decode cX12_tableWorth 41 = .ok (.getfield 48, 3) := by decide +kernel
theorem dX12_tableWorth_44 : decode cX12_tableWorth 44 = .ok (.bipush 16, 2) := by decide +kernel
theorem dX12_tableWorth_46 : decode cX12_tableWorth 46 = .ok (.iload_n 1, 1) := by decide +kernel
theorem dX12_tableWorth_47 : decode cX12_tableWorth 47 = .ok (.imul, 1) := by decide +kernel
theorem dX12_tableWorth_48 : decode cX12_tableWorth 48 = .ok (.iconst 4, 1) := by decide +kernel
theorem dX12_tableWorth_49 : decode cX12_tableWorth 49 = .ok (.iload_n 2, 1) := by decide +kernel
theorem dX12_tableWorth_50 : decode cX12_tableWorth 50 = .ok (.imul, 1) := by decide +kernel
theorem dX12_tableWorth_51 : decode cX12_tableWorth 51 = .ok (.iadd, 1) := by decide +kernel
theorem dX12_tableWorth_52 : decode cX12_tableWorth 52 = .ok (.iload 7, 2) := by decide +kernel
theorem dX12_tableWorth_54 : decode cX12_tableWorth 54 = .ok (.iadd, 1) := by decide +kernel
theorem dX12_tableWorth_55 : decode cX12_tableWorth 55 = .ok (.laload, 1) := by decide +kernel
theorem dX12_tableWorth_56 : decode cX12_tableWorth 56 = .ok (.iload 6, 2) := by decide +kernel
theorem dX12_tableWorth_58 : decode cX12_tableWorth 58 = .ok (.bipush 10, 2) := by decide +kernel
theorem dX12_tableWorth_60 : decode cX12_tableWorth 60 = .ok (.irem, 1) := by decide +kernel
theorem dX12_tableWorth_61 : decode cX12_tableWorth 61 = .ok (.i2l, 1) := by decide +kernel
theorem dX12_tableWorth_62 : decode cX12_tableWorth 62 = .ok (.lmul, 1) := by decide +kernel
theorem dX12_tableWorth_63 : decode cX12_tableWorth 63 = .ok (.ladd, 1) := by decide +kernel
theorem dX12_tableWorth_64 : decode cX12_tableWorth 64 = .ok (.lstore 4, 2) := by decide +kernel
theorem dX12_tableWorth_66 : decode cX12_tableWorth 66 = .ok (.iload 6, 2) := by decide +kernel
theorem dX12_tableWorth_68 : decode cX12_tableWorth 68 = .ok (.bipush 10, 2) := by decide +kernel
theorem dX12_tableWorth_70 : decode cX12_tableWorth 70 = .ok (.idiv, 1) := by decide +kernel
theorem dX12_tableWorth_71 : decode cX12_tableWorth 71 = .ok (.istore 6, 2) := by decide +kernel
theorem dX12_tableWorth_73 : decode cX12_tableWorth 73 = .ok (.iinc 7 (-1), 3) := by decide +kernel
theorem dX12_tableWorth_76 : decode cX12_tableWorth 76 = .ok (.goto (-43), 3) := by decide +kernel
theorem dX12_tableWorth_79 : decode cX12_tableWorth 79 = .ok (.lload 4, 2) := by decide +kernel
theorem dX12_tableWorth_81 : decode cX12_tableWorth 81 = .ok (.lreturn, 1) := by decide +kernel
theorem kw_381 : (.fieldLink RX12 48 "NobodyChecksModel" "often" "[J" : Cond) ∈ gw_tbl := gw_in (by decide +kernel) (by decide +kernel)
theorem kw_382 : (.constantLong RX12 235 (-10000) : Cond) ∈ gw_tbl := gw_in (by decide +kernel) (by decide +kernel)

set_option maxHeartbeats 4000000 in
set_option maxRecDepth 100000 in
theorem m_tableWorth (l : Launch) (D : va_G) (cs : Nat → ClassId) (m0 : Nat) (mp : Nat) (mw : Nat) (mh : Nat) (mo : Nat) (m5 : Nat) (m6 : Nat) (m7 : Nat) (mk : Nat) (mn : Nat) (mq : Nat) (m8 : Nat) (m9 : Nat) (mz : Nat) (mb : Nat) (md : Nat) (ms : Nat) (C : Nat) (P : Nat) (mpn : Nat) (mrs : Nat) (sS : Nat) (rc : Nat) (rp : Nat) (ic : Nat) (hms : ms ≤ 90) (hC5 : C ≤ 5) (hP4 : P ≤ 4) (hmpn : mpn ≤ 8) (hmrs : mrs ≤ 24) (hsS : sS ≤ 4) (hrc : rc ≤ 5) (hrp : rp ≤ 4) (hic : ic ≤ 4) (x_value : Int32) (x_digits : Int32) (x_all : Int64) (x_kind : Int32) (x_last : Int32) (x_steps : Int32) (x_isRound : Int32) (x_tablesDone : Int32) (x_hash : Int64) (fmo : Nat → Int32) (fmz : Nat → Int64) (pe : Nat) (hpe : pe < P) (wy : Nat) (hwy : wy < 4) (tb_ : Int32) : Met l yX12_tableWorth (Cond.code yX12_tableWorth cX12_tableWorth 8 (some .long) :: gw_tbl) ({ frames := 0, cells := 0, slots := 0, locals := 0 }) (pc_S D cs [(m0, .inr (12, [.ref mp, .int (nI ms), .int (nI C), .int (nI P), .ref mw, .ref mh, .ref mo, .int (nI sS), .int x_value, .int x_digits, .int (nI rc), .int (nI rp), .int (nI ic), .ref m5, .ref m6, .ref m7, .long x_all, .int (nI mpn), .ref mk, .ref mn, .int x_kind, .ref mq, .ref m8, .ref m9, .int x_last, .int x_steps, .int x_isRound, .int x_tablesDone, .ref mz, .int (nI mrs), .ref mb, .ref md, .long x_hash])), (mo, .inl (cs 0, 4, .inl fmo)), (mz, .inl (cs 1, 64, .inr (.inl fmz)))] [.ref m0, .int (nI pe), .int (nI wy), .int tb_]) (vp_Sl (fun r => True)) 0 0 (fun _ => False) := by
  refine Met.ofW (cc := cX12_tableWorth) (maxL := 8) (ret := (some .long)) (by decide) rfl ?_
  intro p e s m args below meth c s₁ B hml hv
  obtain ⟨hargs, hP, hK⟩ := hv
  have hx := B.exec
  have hb := B.bytes
  have hr := B.returns
  have hts := atoms_spec (ws := Cond.code yX12_tableWorth cX12_tableWorth 8 (some .long) :: gw_tbl) B.pre
  have hg := fun (w : Cond) (h : w ∈ gw_tbl) => hts w (List.mem_cons_of_mem _ h)
  have hown : s.vm.findClass RX12 = some m.cls := findClass_of_methodNamed B.named
  have hlocks := B.notSynchronized
  have hl := lv_entry ([.ref m0, .int (nI pe), .int (nI wy), .int tb_]) (n := 8) (Nat.le_of_ble_eq_true rfl)
  rw [show entryFrame m args 8 = F0 m 0 (lg_sl ([.ref m0, .int (nI pe), .int (nI wy), .int tb_]) ++ List.replicate (8 - (lg_sl ([.ref m0, .int (nI pe), .int (nI wy), .int tb_])).length) Slot.unset).toArray [] from by rw [hargs]; exact lg_entry_eq ..]
  generalize (lg_sl ([.ref m0, .int (nI pe), .int (nI wy), .int tb_]) ++ List.replicate (8 - (lg_sl ([.ref m0, .int (nI pe), .int (nI wy), .int tb_])).length) Slot.unset).toArray = ls at hl ⊢
  have hl : lv_has ls 8 [(0, .ref m0), (1, .int (nI pe)), (2, .int (nI wy)), (3, .int tb_)] := hl
  refine W_genQ (fun Q hQ => ?_)
  have hlm := lim_le hP4
  have hlq := lim_pos P
  have hsg := sgn_le hP4
  refine lv_iload_n hx hb dX12_tableWorth_0 rfl (lv_at hl 2 rfl) ?_
  refine lv_iconst (v := 2) hx hb dX12_tableWorth_1 (by decide) ?_
  refine lv_icmp_ge (tgt := 24) hx hb dX12_tableWorth_2 (by decide) (fun c_2 => ?_) (fun c_2 => ?_)
  · have n_2 : 2 ≤ wy := b_le_t (by omega) (by omega) c_2
    refine lv_lconst (v := 0) hx hb dX12_tableWorth_24 (by decide) ?_
    refine lv_lstore (lv' := [(4, .long 0), (0, .ref m0), (1, .int (nI pe)), (2, .int (nI wy)), (3, .int tb_)]) hx hb dX12_tableWorth_25 hl (by decide) rfl (fun ls hl => ?_)
    refine lv_iload_n hx hb dX12_tableWorth_27 rfl (lv_at hl 4 rfl) ?_
    refine lv_istore (lv' := [(6, .int tb_), (4, .long 0), (0, .ref m0), (1, .int (nI pe)), (2, .int (nI wy)), (3, .int tb_)]) hx hb dX12_tableWorth_28 hl (by decide) rfl (fun ls hl => ?_)
    refine lv_iconst (v := 3) hx hb dX12_tableWorth_30 (by decide) ?_
    refine lv_istore (lv' := [(7, .int 3), (6, .int tb_), (4, .long 0), (0, .ref m0), (1, .int (nI pe)), (2, .int (nI wy)), (3, .int tb_)]) hx hb dX12_tableWorth_31 hl (by decide) rfl (fun ls hl => ?_)
    refine lv_iload hx hb dX12_tableWorth_33 (lv_at hl 0 rfl) ?_
    refine lv_if_lt (tgt := 79) hx hb dX12_tableWorth_35 (by decide) (fun c_35 => absurd c_35 (by decide)) (fun c_35 => ?_)
    refine lv_lload hx hb dX12_tableWorth_38 (lv_at hl 2 rfl) ?_
    refine lv_aload_n hx hb dX12_tableWorth_40 rfl (lv_at hl 3 rfl) ?_
    refine va_get (D := D) (ci := 12) (v := .ref mz) (C := RX12) (T := TX12) (N := 33) hx hb hg gwX12 hown hK hP 0 rfl rfl 28 (by decide) (hg _ kw_381) (fun _ h9 => h9) rfl dX12_tableWorth_41 ?_
    refine lv_bipush (v := 16) hx hb dX12_tableWorth_44 (by decide) ?_
    refine lv_iload_n hx hb dX12_tableWorth_46 rfl (lv_at hl 4 rfl) ?_
    refine lv_imul hx hb dX12_tableWorth_47 ?_
    refine lv_topi (fun z_47 e_47 => ?_)
    obtain rfl : z_47 = nI (16 * pe) := e_47.trans (pk_mul _ _)
    refine lv_iconst (v := 4) hx hb dX12_tableWorth_48 (by decide) ?_
    refine lv_iload_n hx hb dX12_tableWorth_49 rfl (lv_at hl 5 rfl) ?_
    refine lv_imul hx hb dX12_tableWorth_50 ?_
    refine lv_topi (fun z_50 e_50 => ?_)
    obtain rfl : z_50 = nI (4 * wy) := e_50.trans (pk_mul _ _)
    refine lv_iadd hx hb dX12_tableWorth_51 ?_
    refine lv_topi (fun z_51 e_51 => ?_)
    obtain rfl : z_51 = nI (16 * pe + 4 * wy) := e_51.trans (nI_add _ _)
    refine lv_iload hx hb dX12_tableWorth_52 (lv_at hl 0 rfl) ?_
    refine lv_iadd hx hb dX12_tableWorth_54 ?_
    refine lv_topi (fun z_54 e_54 => ?_)
    obtain rfl : z_54 = nI (16 * pe + 4 * wy + 3) := e_54.trans (nI_add _ _)
    refine va_lald hx hb hK hP 2 1 rfl rfl (vp_in_nI (show 16 * pe + 4 * wy + 3 < 64 by omega) (by decide)) dX12_tableWorth_55 ?_
    refine lv_topl (fun z_55 e_55 => ?_)
    refine lv_iload hx hb dX12_tableWorth_56 (lv_at hl 1 rfl) ?_
    refine lv_bipush (v := 10) hx hb dX12_tableWorth_58 (by decide) ?_
    refine lv_irem hx hb dX12_tableWorth_60 (by decide) ?_
    refine lv_topi (fun z_60 e_60 => ?_)
    refine lv_i2l hx hb dX12_tableWorth_61 rfl ?_
    refine lv_topl (fun z_61 e_61 => ?_)
    refine lv_lmul hx hb dX12_tableWorth_62 ?_
    refine lv_topl (fun z_62 e_62 => ?_)
    refine lv_ladd hx hb dX12_tableWorth_63 ?_
    refine lv_topl (fun z_63 e_63 => ?_)
    refine lv_lstore (lv' := [(4, .long z_63), (7, .int 3), (6, .int tb_), (0, .ref m0), (1, .int (nI pe)), (2, .int (nI wy)), (3, .int tb_)]) hx hb dX12_tableWorth_64 hl (by decide) rfl (fun ls hl => ?_)
    refine lv_iload hx hb dX12_tableWorth_66 (lv_at hl 2 rfl) ?_
    refine lv_bipush (v := 10) hx hb dX12_tableWorth_68 (by decide) ?_
    refine lv_idiv hx hb dX12_tableWorth_70 (by decide) ?_
    refine lv_topi (fun z_70 e_70 => ?_)
    refine lv_istore (lv' := [(6, .int z_70), (4, .long z_63), (7, .int 3), (0, .ref m0), (1, .int (nI pe)), (2, .int (nI wy)), (3, .int tb_)]) hx hb dX12_tableWorth_71 hl (by decide) rfl (fun ls hl => ?_)
    refine lv_iinc (v := 2) (lv' := [(7, .int 2), (6, .int z_70), (4, .long z_63), (0, .ref m0), (1, .int (nI pe)), (2, .int (nI wy)), (3, .int tb_)]) hx hb dX12_tableWorth_73 hl (k := 2) rfl (by decide) (by decide) rfl (fun ls hl => ?_)
    refine lv_goto (tgt := 33) hx hb dX12_tableWorth_76 (by decide) ?_
    refine lv_iload hx hb dX12_tableWorth_33 (lv_at hl 0 rfl) ?_
    refine lv_if_lt (tgt := 79) hx hb dX12_tableWorth_35 (by decide) (fun c_35 => absurd c_35 (by decide)) (fun c_35 => ?_)
    refine lv_lload hx hb dX12_tableWorth_38 (lv_at hl 2 rfl) ?_
    refine lv_aload_n hx hb dX12_tableWorth_40 rfl (lv_at hl 3 rfl) ?_
    refine va_get (D := D) (ci := 12) (v := .ref mz) (C := RX12) (T := TX12) (N := 33) hx hb hg gwX12 hown hK hP 0 rfl rfl 28 (by decide) (hg _ kw_381) (fun _ h9 => h9) rfl dX12_tableWorth_41 ?_
    refine lv_bipush (v := 16) hx hb dX12_tableWorth_44 (by decide) ?_
    refine lv_iload_n hx hb dX12_tableWorth_46 rfl (lv_at hl 4 rfl) ?_
    refine lv_imul hx hb dX12_tableWorth_47 ?_
    refine lv_topi (fun z_47 e_47 => ?_)
    obtain rfl : z_47 = nI (16 * pe) := e_47.trans (pk_mul _ _)
    refine lv_iconst (v := 4) hx hb dX12_tableWorth_48 (by decide) ?_
    refine lv_iload_n hx hb dX12_tableWorth_49 rfl (lv_at hl 5 rfl) ?_
    refine lv_imul hx hb dX12_tableWorth_50 ?_
    refine lv_topi (fun z_50 e_50 => ?_)
    obtain rfl : z_50 = nI (4 * wy) := e_50.trans (pk_mul _ _)
    refine lv_iadd hx hb dX12_tableWorth_51 ?_
    refine lv_topi (fun z_51 e_51 => ?_)
    obtain rfl : z_51 = nI (16 * pe + 4 * wy) := e_51.trans (nI_add _ _)
    refine lv_iload hx hb dX12_tableWorth_52 (lv_at hl 0 rfl) ?_
    refine lv_iadd hx hb dX12_tableWorth_54 ?_
    refine lv_topi (fun z_54 e_54 => ?_)
    obtain rfl : z_54 = nI (16 * pe + 4 * wy + 2) := e_54.trans (nI_add _ _)
    refine va_lald hx hb hK hP 2 1 rfl rfl (vp_in_nI (show 16 * pe + 4 * wy + 2 < 64 by omega) (by decide)) dX12_tableWorth_55 ?_
    refine lv_topl (fun z_55 e_55 => ?_)
    refine lv_iload hx hb dX12_tableWorth_56 (lv_at hl 1 rfl) ?_
    refine lv_bipush (v := 10) hx hb dX12_tableWorth_58 (by decide) ?_
    refine lv_irem hx hb dX12_tableWorth_60 (by decide) ?_
    refine lv_topi (fun z_60 e_60 => ?_)
    refine lv_i2l hx hb dX12_tableWorth_61 rfl ?_
    refine lv_topl (fun z_61 e_61 => ?_)
    refine lv_lmul hx hb dX12_tableWorth_62 ?_
    refine lv_topl (fun z_62 e_62 => ?_)
    refine lv_ladd hx hb dX12_tableWorth_63 ?_
    refine lv_topl (fun z_63 e_63 => ?_)
    refine lv_lstore (lv' := [(4, .long z_63), (7, .int 2), (6, .int z_70), (0, .ref m0), (1, .int (nI pe)), (2, .int (nI wy)), (3, .int tb_)]) hx hb dX12_tableWorth_64 hl (by decide) rfl (fun ls hl => ?_)
    refine lv_iload hx hb dX12_tableWorth_66 (lv_at hl 2 rfl) ?_
    refine lv_bipush (v := 10) hx hb dX12_tableWorth_68 (by decide) ?_
    refine lv_idiv hx hb dX12_tableWorth_70 (by decide) ?_
    refine lv_topi (fun z_70 e_70 => ?_)
    refine lv_istore (lv' := [(6, .int z_70), (4, .long z_63), (7, .int 2), (0, .ref m0), (1, .int (nI pe)), (2, .int (nI wy)), (3, .int tb_)]) hx hb dX12_tableWorth_71 hl (by decide) rfl (fun ls hl => ?_)
    refine lv_iinc (v := 1) (lv' := [(7, .int 1), (6, .int z_70), (4, .long z_63), (0, .ref m0), (1, .int (nI pe)), (2, .int (nI wy)), (3, .int tb_)]) hx hb dX12_tableWorth_73 hl (k := 2) rfl (by decide) (by decide) rfl (fun ls hl => ?_)
    refine lv_goto (tgt := 33) hx hb dX12_tableWorth_76 (by decide) ?_
    refine lv_iload hx hb dX12_tableWorth_33 (lv_at hl 0 rfl) ?_
    refine lv_if_lt (tgt := 79) hx hb dX12_tableWorth_35 (by decide) (fun c_35 => absurd c_35 (by decide)) (fun c_35 => ?_)
    refine lv_lload hx hb dX12_tableWorth_38 (lv_at hl 2 rfl) ?_
    refine lv_aload_n hx hb dX12_tableWorth_40 rfl (lv_at hl 3 rfl) ?_
    refine va_get (D := D) (ci := 12) (v := .ref mz) (C := RX12) (T := TX12) (N := 33) hx hb hg gwX12 hown hK hP 0 rfl rfl 28 (by decide) (hg _ kw_381) (fun _ h9 => h9) rfl dX12_tableWorth_41 ?_
    refine lv_bipush (v := 16) hx hb dX12_tableWorth_44 (by decide) ?_
    refine lv_iload_n hx hb dX12_tableWorth_46 rfl (lv_at hl 4 rfl) ?_
    refine lv_imul hx hb dX12_tableWorth_47 ?_
    refine lv_topi (fun z_47 e_47 => ?_)
    obtain rfl : z_47 = nI (16 * pe) := e_47.trans (pk_mul _ _)
    refine lv_iconst (v := 4) hx hb dX12_tableWorth_48 (by decide) ?_
    refine lv_iload_n hx hb dX12_tableWorth_49 rfl (lv_at hl 5 rfl) ?_
    refine lv_imul hx hb dX12_tableWorth_50 ?_
    refine lv_topi (fun z_50 e_50 => ?_)
    obtain rfl : z_50 = nI (4 * wy) := e_50.trans (pk_mul _ _)
    refine lv_iadd hx hb dX12_tableWorth_51 ?_
    refine lv_topi (fun z_51 e_51 => ?_)
    obtain rfl : z_51 = nI (16 * pe + 4 * wy) := e_51.trans (nI_add _ _)
    refine lv_iload hx hb dX12_tableWorth_52 (lv_at hl 0 rfl) ?_
    refine lv_iadd hx hb dX12_tableWorth_54 ?_
    refine lv_topi (fun z_54 e_54 => ?_)
    obtain rfl : z_54 = nI (16 * pe + 4 * wy + 1) := e_54.trans (nI_add _ _)
    refine va_lald hx hb hK hP 2 1 rfl rfl (vp_in_nI (show 16 * pe + 4 * wy + 1 < 64 by omega) (by decide)) dX12_tableWorth_55 ?_
    refine lv_topl (fun z_55 e_55 => ?_)
    refine lv_iload hx hb dX12_tableWorth_56 (lv_at hl 1 rfl) ?_
    refine lv_bipush (v := 10) hx hb dX12_tableWorth_58 (by decide) ?_
    refine lv_irem hx hb dX12_tableWorth_60 (by decide) ?_
    refine lv_topi (fun z_60 e_60 => ?_)
    refine lv_i2l hx hb dX12_tableWorth_61 rfl ?_
    refine lv_topl (fun z_61 e_61 => ?_)
    refine lv_lmul hx hb dX12_tableWorth_62 ?_
    refine lv_topl (fun z_62 e_62 => ?_)
    refine lv_ladd hx hb dX12_tableWorth_63 ?_
    refine lv_topl (fun z_63 e_63 => ?_)
    refine lv_lstore (lv' := [(4, .long z_63), (7, .int 1), (6, .int z_70), (0, .ref m0), (1, .int (nI pe)), (2, .int (nI wy)), (3, .int tb_)]) hx hb dX12_tableWorth_64 hl (by decide) rfl (fun ls hl => ?_)
    refine lv_iload hx hb dX12_tableWorth_66 (lv_at hl 2 rfl) ?_
    refine lv_bipush (v := 10) hx hb dX12_tableWorth_68 (by decide) ?_
    refine lv_idiv hx hb dX12_tableWorth_70 (by decide) ?_
    refine lv_topi (fun z_70 e_70 => ?_)
    refine lv_istore (lv' := [(6, .int z_70), (4, .long z_63), (7, .int 1), (0, .ref m0), (1, .int (nI pe)), (2, .int (nI wy)), (3, .int tb_)]) hx hb dX12_tableWorth_71 hl (by decide) rfl (fun ls hl => ?_)
    refine lv_iinc (v := 0) (lv' := [(7, .int 0), (6, .int z_70), (4, .long z_63), (0, .ref m0), (1, .int (nI pe)), (2, .int (nI wy)), (3, .int tb_)]) hx hb dX12_tableWorth_73 hl (k := 2) rfl (by decide) (by decide) rfl (fun ls hl => ?_)
    refine lv_goto (tgt := 33) hx hb dX12_tableWorth_76 (by decide) ?_
    refine lv_iload hx hb dX12_tableWorth_33 (lv_at hl 0 rfl) ?_
    refine lv_if_lt (tgt := 79) hx hb dX12_tableWorth_35 (by decide) (fun c_35 => absurd c_35 (by decide)) (fun c_35 => ?_)
    refine lv_lload hx hb dX12_tableWorth_38 (lv_at hl 2 rfl) ?_
    refine lv_aload_n hx hb dX12_tableWorth_40 rfl (lv_at hl 3 rfl) ?_
    refine va_get (D := D) (ci := 12) (v := .ref mz) (C := RX12) (T := TX12) (N := 33) hx hb hg gwX12 hown hK hP 0 rfl rfl 28 (by decide) (hg _ kw_381) (fun _ h9 => h9) rfl dX12_tableWorth_41 ?_
    refine lv_bipush (v := 16) hx hb dX12_tableWorth_44 (by decide) ?_
    refine lv_iload_n hx hb dX12_tableWorth_46 rfl (lv_at hl 4 rfl) ?_
    refine lv_imul hx hb dX12_tableWorth_47 ?_
    refine lv_topi (fun z_47 e_47 => ?_)
    obtain rfl : z_47 = nI (16 * pe) := e_47.trans (pk_mul _ _)
    refine lv_iconst (v := 4) hx hb dX12_tableWorth_48 (by decide) ?_
    refine lv_iload_n hx hb dX12_tableWorth_49 rfl (lv_at hl 5 rfl) ?_
    refine lv_imul hx hb dX12_tableWorth_50 ?_
    refine lv_topi (fun z_50 e_50 => ?_)
    obtain rfl : z_50 = nI (4 * wy) := e_50.trans (pk_mul _ _)
    refine lv_iadd hx hb dX12_tableWorth_51 ?_
    refine lv_topi (fun z_51 e_51 => ?_)
    obtain rfl : z_51 = nI (16 * pe + 4 * wy) := e_51.trans (nI_add _ _)
    refine lv_iload hx hb dX12_tableWorth_52 (lv_at hl 0 rfl) ?_
    refine lv_iadd hx hb dX12_tableWorth_54 ?_
    refine lv_topi (fun z_54 e_54 => ?_)
    obtain rfl : z_54 = nI (16 * pe + 4 * wy + 0) := e_54.trans (nI_add _ _)
    refine va_lald hx hb hK hP 2 1 rfl rfl (vp_in_nI (show 16 * pe + 4 * wy + 0 < 64 by omega) (by decide)) dX12_tableWorth_55 ?_
    refine lv_topl (fun z_55 e_55 => ?_)
    refine lv_iload hx hb dX12_tableWorth_56 (lv_at hl 1 rfl) ?_
    refine lv_bipush (v := 10) hx hb dX12_tableWorth_58 (by decide) ?_
    refine lv_irem hx hb dX12_tableWorth_60 (by decide) ?_
    refine lv_topi (fun z_60 e_60 => ?_)
    refine lv_i2l hx hb dX12_tableWorth_61 rfl ?_
    refine lv_topl (fun z_61 e_61 => ?_)
    refine lv_lmul hx hb dX12_tableWorth_62 ?_
    refine lv_topl (fun z_62 e_62 => ?_)
    refine lv_ladd hx hb dX12_tableWorth_63 ?_
    refine lv_topl (fun z_63 e_63 => ?_)
    refine lv_lstore (lv' := [(4, .long z_63), (7, .int 0), (6, .int z_70), (0, .ref m0), (1, .int (nI pe)), (2, .int (nI wy)), (3, .int tb_)]) hx hb dX12_tableWorth_64 hl (by decide) rfl (fun ls hl => ?_)
    refine lv_iload hx hb dX12_tableWorth_66 (lv_at hl 2 rfl) ?_
    refine lv_bipush (v := 10) hx hb dX12_tableWorth_68 (by decide) ?_
    refine lv_idiv hx hb dX12_tableWorth_70 (by decide) ?_
    refine lv_topi (fun z_70 e_70 => ?_)
    refine lv_istore (lv' := [(6, .int z_70), (4, .long z_63), (7, .int 0), (0, .ref m0), (1, .int (nI pe)), (2, .int (nI wy)), (3, .int tb_)]) hx hb dX12_tableWorth_71 hl (by decide) rfl (fun ls hl => ?_)
    refine lv_iinc (v := (-1)) (lv' := [(7, .int (-1)), (6, .int z_70), (4, .long z_63), (0, .ref m0), (1, .int (nI pe)), (2, .int (nI wy)), (3, .int tb_)]) hx hb dX12_tableWorth_73 hl (k := 2) rfl (by decide) (by decide) rfl (fun ls hl => ?_)
    refine lv_goto (tgt := 33) hx hb dX12_tableWorth_76 (by decide) ?_
    refine lv_iload hx hb dX12_tableWorth_33 (lv_at hl 0 rfl) ?_
    refine lv_if_lt (tgt := 79) hx hb dX12_tableWorth_35 (by decide) (fun c_35 => ?_) (fun c_35 => absurd c_35 (by decide))
    refine lv_lload hx hb dX12_tableWorth_79 (lv_at hl 2 rfl) ?_
    refine W_sQ hQ ?_
    exact W.lret (v := z_63) hx hb hr (fun t ht hW => ⟨z_63, rfl, trivial, ht⟩) (fun _ h => absurd h List.not_mem_nil) dX12_tableWorth_81
  · have n_2 : wy < 2 := b_le_f (by omega) (by omega) c_2
    refine lv_ldc2 hx hb hown (hg _ kw_382) dX12_tableWorth_5 ?_
    refine lv_aload_n hx hb dX12_tableWorth_8 rfl (lv_at hl 0 rfl) ?_
    refine va_get (D := D) (ci := 12) (v := .long x_all) (C := RX12) (T := TX12) (N := 33) hx hb hg gwX12 hown hK hP 0 rfl rfl 16 (by decide) (hg _ kw_335) (fun _ h9 => h9) rfl dX12_tableWorth_9 ?_
    refine lv_lmul hx hb dX12_tableWorth_12 ?_
    refine lv_topl (fun z_12 e_12 => ?_)
    refine lv_aload_n hx hb dX12_tableWorth_13 rfl (lv_at hl 0 rfl) ?_
    refine va_get (D := D) (ci := 12) (v := .ref mo) (C := RX12) (T := TX12) (N := 33) hx hb hg gwX12 hown hK hP 0 rfl rfl 6 (by decide) (hg _ kw_336) (fun _ h9 => h9) rfl dX12_tableWorth_14 ?_
    refine lv_iload_n hx hb dX12_tableWorth_17 rfl (lv_at hl 1 rfl) ?_
    refine va_iald hx hb hK hP 1 0 rfl rfl (vp_in_nI (show pe < 4 by omega) (by decide)) dX12_tableWorth_18 ?_
    refine lv_topi (fun z_18 e_18 => ?_)
    refine lv_i2l hx hb dX12_tableWorth_19 rfl ?_
    refine lv_topl (fun z_19 e_19 => ?_)
    refine lv_lmul hx hb dX12_tableWorth_20 ?_
    refine lv_topl (fun z_20 e_20 => ?_)
    refine lv_goto (tgt := 25) hx hb dX12_tableWorth_21 (by decide) ?_
    refine lv_lstore (lv' := [(4, .long z_20), (0, .ref m0), (1, .int (nI pe)), (2, .int (nI wy)), (3, .int tb_)]) hx hb dX12_tableWorth_25 hl (by decide) rfl (fun ls hl => ?_)
    refine lv_iload_n hx hb dX12_tableWorth_27 rfl (lv_at hl 4 rfl) ?_
    refine lv_istore (lv' := [(6, .int tb_), (4, .long z_20), (0, .ref m0), (1, .int (nI pe)), (2, .int (nI wy)), (3, .int tb_)]) hx hb dX12_tableWorth_28 hl (by decide) rfl (fun ls hl => ?_)
    refine lv_iconst (v := 3) hx hb dX12_tableWorth_30 (by decide) ?_
    refine lv_istore (lv' := [(7, .int 3), (6, .int tb_), (4, .long z_20), (0, .ref m0), (1, .int (nI pe)), (2, .int (nI wy)), (3, .int tb_)]) hx hb dX12_tableWorth_31 hl (by decide) rfl (fun ls hl => ?_)
    refine lv_iload hx hb dX12_tableWorth_33 (lv_at hl 0 rfl) ?_
    refine lv_if_lt (tgt := 79) hx hb dX12_tableWorth_35 (by decide) (fun c_35 => absurd c_35 (by decide)) (fun c_35 => ?_)
    refine lv_lload hx hb dX12_tableWorth_38 (lv_at hl 2 rfl) ?_
    refine lv_aload_n hx hb dX12_tableWorth_40 rfl (lv_at hl 3 rfl) ?_
    refine va_get (D := D) (ci := 12) (v := .ref mz) (C := RX12) (T := TX12) (N := 33) hx hb hg gwX12 hown hK hP 0 rfl rfl 28 (by decide) (hg _ kw_381) (fun _ h9 => h9) rfl dX12_tableWorth_41 ?_
    refine lv_bipush (v := 16) hx hb dX12_tableWorth_44 (by decide) ?_
    refine lv_iload_n hx hb dX12_tableWorth_46 rfl (lv_at hl 4 rfl) ?_
    refine lv_imul hx hb dX12_tableWorth_47 ?_
    refine lv_topi (fun z_47 e_47 => ?_)
    obtain rfl : z_47 = nI (16 * pe) := e_47.trans (pk_mul _ _)
    refine lv_iconst (v := 4) hx hb dX12_tableWorth_48 (by decide) ?_
    refine lv_iload_n hx hb dX12_tableWorth_49 rfl (lv_at hl 5 rfl) ?_
    refine lv_imul hx hb dX12_tableWorth_50 ?_
    refine lv_topi (fun z_50 e_50 => ?_)
    obtain rfl : z_50 = nI (4 * wy) := e_50.trans (pk_mul _ _)
    refine lv_iadd hx hb dX12_tableWorth_51 ?_
    refine lv_topi (fun z_51 e_51 => ?_)
    obtain rfl : z_51 = nI (16 * pe + 4 * wy) := e_51.trans (nI_add _ _)
    refine lv_iload hx hb dX12_tableWorth_52 (lv_at hl 0 rfl) ?_
    refine lv_iadd hx hb dX12_tableWorth_54 ?_
    refine lv_topi (fun z_54 e_54 => ?_)
    obtain rfl : z_54 = nI (16 * pe + 4 * wy + 3) := e_54.trans (nI_add _ _)
    refine va_lald hx hb hK hP 2 1 rfl rfl (vp_in_nI (show 16 * pe + 4 * wy + 3 < 64 by omega) (by decide)) dX12_tableWorth_55 ?_
    refine lv_topl (fun z_55 e_55 => ?_)
    refine lv_iload hx hb dX12_tableWorth_56 (lv_at hl 1 rfl) ?_
    refine lv_bipush (v := 10) hx hb dX12_tableWorth_58 (by decide) ?_
    refine lv_irem hx hb dX12_tableWorth_60 (by decide) ?_
    refine lv_topi (fun z_60 e_60 => ?_)
    refine lv_i2l hx hb dX12_tableWorth_61 rfl ?_
    refine lv_topl (fun z_61 e_61 => ?_)
    refine lv_lmul hx hb dX12_tableWorth_62 ?_
    refine lv_topl (fun z_62 e_62 => ?_)
    refine lv_ladd hx hb dX12_tableWorth_63 ?_
    refine lv_topl (fun z_63 e_63 => ?_)
    refine lv_lstore (lv' := [(4, .long z_63), (7, .int 3), (6, .int tb_), (0, .ref m0), (1, .int (nI pe)), (2, .int (nI wy)), (3, .int tb_)]) hx hb dX12_tableWorth_64 hl (by decide) rfl (fun ls hl => ?_)
    refine lv_iload hx hb dX12_tableWorth_66 (lv_at hl 2 rfl) ?_
    refine lv_bipush (v := 10) hx hb dX12_tableWorth_68 (by decide) ?_
    refine lv_idiv hx hb dX12_tableWorth_70 (by decide) ?_
    refine lv_topi (fun z_70 e_70 => ?_)
    refine lv_istore (lv' := [(6, .int z_70), (4, .long z_63), (7, .int 3), (0, .ref m0), (1, .int (nI pe)), (2, .int (nI wy)), (3, .int tb_)]) hx hb dX12_tableWorth_71 hl (by decide) rfl (fun ls hl => ?_)
    refine lv_iinc (v := 2) (lv' := [(7, .int 2), (6, .int z_70), (4, .long z_63), (0, .ref m0), (1, .int (nI pe)), (2, .int (nI wy)), (3, .int tb_)]) hx hb dX12_tableWorth_73 hl (k := 2) rfl (by decide) (by decide) rfl (fun ls hl => ?_)
    refine lv_goto (tgt := 33) hx hb dX12_tableWorth_76 (by decide) ?_
    refine lv_iload hx hb dX12_tableWorth_33 (lv_at hl 0 rfl) ?_
    refine lv_if_lt (tgt := 79) hx hb dX12_tableWorth_35 (by decide) (fun c_35 => absurd c_35 (by decide)) (fun c_35 => ?_)
    refine lv_lload hx hb dX12_tableWorth_38 (lv_at hl 2 rfl) ?_
    refine lv_aload_n hx hb dX12_tableWorth_40 rfl (lv_at hl 3 rfl) ?_
    refine va_get (D := D) (ci := 12) (v := .ref mz) (C := RX12) (T := TX12) (N := 33) hx hb hg gwX12 hown hK hP 0 rfl rfl 28 (by decide) (hg _ kw_381) (fun _ h9 => h9) rfl dX12_tableWorth_41 ?_
    refine lv_bipush (v := 16) hx hb dX12_tableWorth_44 (by decide) ?_
    refine lv_iload_n hx hb dX12_tableWorth_46 rfl (lv_at hl 4 rfl) ?_
    refine lv_imul hx hb dX12_tableWorth_47 ?_
    refine lv_topi (fun z_47 e_47 => ?_)
    obtain rfl : z_47 = nI (16 * pe) := e_47.trans (pk_mul _ _)
    refine lv_iconst (v := 4) hx hb dX12_tableWorth_48 (by decide) ?_
    refine lv_iload_n hx hb dX12_tableWorth_49 rfl (lv_at hl 5 rfl) ?_
    refine lv_imul hx hb dX12_tableWorth_50 ?_
    refine lv_topi (fun z_50 e_50 => ?_)
    obtain rfl : z_50 = nI (4 * wy) := e_50.trans (pk_mul _ _)
    refine lv_iadd hx hb dX12_tableWorth_51 ?_
    refine lv_topi (fun z_51 e_51 => ?_)
    obtain rfl : z_51 = nI (16 * pe + 4 * wy) := e_51.trans (nI_add _ _)
    refine lv_iload hx hb dX12_tableWorth_52 (lv_at hl 0 rfl) ?_
    refine lv_iadd hx hb dX12_tableWorth_54 ?_
    refine lv_topi (fun z_54 e_54 => ?_)
    obtain rfl : z_54 = nI (16 * pe + 4 * wy + 2) := e_54.trans (nI_add _ _)
    refine va_lald hx hb hK hP 2 1 rfl rfl (vp_in_nI (show 16 * pe + 4 * wy + 2 < 64 by omega) (by decide)) dX12_tableWorth_55 ?_
    refine lv_topl (fun z_55 e_55 => ?_)
    refine lv_iload hx hb dX12_tableWorth_56 (lv_at hl 1 rfl) ?_
    refine lv_bipush (v := 10) hx hb dX12_tableWorth_58 (by decide) ?_
    refine lv_irem hx hb dX12_tableWorth_60 (by decide) ?_
    refine lv_topi (fun z_60 e_60 => ?_)
    refine lv_i2l hx hb dX12_tableWorth_61 rfl ?_
    refine lv_topl (fun z_61 e_61 => ?_)
    refine lv_lmul hx hb dX12_tableWorth_62 ?_
    refine lv_topl (fun z_62 e_62 => ?_)
    refine lv_ladd hx hb dX12_tableWorth_63 ?_
    refine lv_topl (fun z_63 e_63 => ?_)
    refine lv_lstore (lv' := [(4, .long z_63), (7, .int 2), (6, .int z_70), (0, .ref m0), (1, .int (nI pe)), (2, .int (nI wy)), (3, .int tb_)]) hx hb dX12_tableWorth_64 hl (by decide) rfl (fun ls hl => ?_)
    refine lv_iload hx hb dX12_tableWorth_66 (lv_at hl 2 rfl) ?_
    refine lv_bipush (v := 10) hx hb dX12_tableWorth_68 (by decide) ?_
    refine lv_idiv hx hb dX12_tableWorth_70 (by decide) ?_
    refine lv_topi (fun z_70 e_70 => ?_)
    refine lv_istore (lv' := [(6, .int z_70), (4, .long z_63), (7, .int 2), (0, .ref m0), (1, .int (nI pe)), (2, .int (nI wy)), (3, .int tb_)]) hx hb dX12_tableWorth_71 hl (by decide) rfl (fun ls hl => ?_)
    refine lv_iinc (v := 1) (lv' := [(7, .int 1), (6, .int z_70), (4, .long z_63), (0, .ref m0), (1, .int (nI pe)), (2, .int (nI wy)), (3, .int tb_)]) hx hb dX12_tableWorth_73 hl (k := 2) rfl (by decide) (by decide) rfl (fun ls hl => ?_)
    refine lv_goto (tgt := 33) hx hb dX12_tableWorth_76 (by decide) ?_
    refine lv_iload hx hb dX12_tableWorth_33 (lv_at hl 0 rfl) ?_
    refine lv_if_lt (tgt := 79) hx hb dX12_tableWorth_35 (by decide) (fun c_35 => absurd c_35 (by decide)) (fun c_35 => ?_)
    refine lv_lload hx hb dX12_tableWorth_38 (lv_at hl 2 rfl) ?_
    refine lv_aload_n hx hb dX12_tableWorth_40 rfl (lv_at hl 3 rfl) ?_
    refine va_get (D := D) (ci := 12) (v := .ref mz) (C := RX12) (T := TX12) (N := 33) hx hb hg gwX12 hown hK hP 0 rfl rfl 28 (by decide) (hg _ kw_381) (fun _ h9 => h9) rfl dX12_tableWorth_41 ?_
    refine lv_bipush (v := 16) hx hb dX12_tableWorth_44 (by decide) ?_
    refine lv_iload_n hx hb dX12_tableWorth_46 rfl (lv_at hl 4 rfl) ?_
    refine lv_imul hx hb dX12_tableWorth_47 ?_
    refine lv_topi (fun z_47 e_47 => ?_)
    obtain rfl : z_47 = nI (16 * pe) := e_47.trans (pk_mul _ _)
    refine lv_iconst (v := 4) hx hb dX12_tableWorth_48 (by decide) ?_
    refine lv_iload_n hx hb dX12_tableWorth_49 rfl (lv_at hl 5 rfl) ?_
    refine lv_imul hx hb dX12_tableWorth_50 ?_
    refine lv_topi (fun z_50 e_50 => ?_)
    obtain rfl : z_50 = nI (4 * wy) := e_50.trans (pk_mul _ _)
    refine lv_iadd hx hb dX12_tableWorth_51 ?_
    refine lv_topi (fun z_51 e_51 => ?_)
    obtain rfl : z_51 = nI (16 * pe + 4 * wy) := e_51.trans (nI_add _ _)
    refine lv_iload hx hb dX12_tableWorth_52 (lv_at hl 0 rfl) ?_
    refine lv_iadd hx hb dX12_tableWorth_54 ?_
    refine lv_topi (fun z_54 e_54 => ?_)
    obtain rfl : z_54 = nI (16 * pe + 4 * wy + 1) := e_54.trans (nI_add _ _)
    refine va_lald hx hb hK hP 2 1 rfl rfl (vp_in_nI (show 16 * pe + 4 * wy + 1 < 64 by omega) (by decide)) dX12_tableWorth_55 ?_
    refine lv_topl (fun z_55 e_55 => ?_)
    refine lv_iload hx hb dX12_tableWorth_56 (lv_at hl 1 rfl) ?_
    refine lv_bipush (v := 10) hx hb dX12_tableWorth_58 (by decide) ?_
    refine lv_irem hx hb dX12_tableWorth_60 (by decide) ?_
    refine lv_topi (fun z_60 e_60 => ?_)
    refine lv_i2l hx hb dX12_tableWorth_61 rfl ?_
    refine lv_topl (fun z_61 e_61 => ?_)
    refine lv_lmul hx hb dX12_tableWorth_62 ?_
    refine lv_topl (fun z_62 e_62 => ?_)
    refine lv_ladd hx hb dX12_tableWorth_63 ?_
    refine lv_topl (fun z_63 e_63 => ?_)
    refine lv_lstore (lv' := [(4, .long z_63), (7, .int 1), (6, .int z_70), (0, .ref m0), (1, .int (nI pe)), (2, .int (nI wy)), (3, .int tb_)]) hx hb dX12_tableWorth_64 hl (by decide) rfl (fun ls hl => ?_)
    refine lv_iload hx hb dX12_tableWorth_66 (lv_at hl 2 rfl) ?_
    refine lv_bipush (v := 10) hx hb dX12_tableWorth_68 (by decide) ?_
    refine lv_idiv hx hb dX12_tableWorth_70 (by decide) ?_
    refine lv_topi (fun z_70 e_70 => ?_)
    refine lv_istore (lv' := [(6, .int z_70), (4, .long z_63), (7, .int 1), (0, .ref m0), (1, .int (nI pe)), (2, .int (nI wy)), (3, .int tb_)]) hx hb dX12_tableWorth_71 hl (by decide) rfl (fun ls hl => ?_)
    refine lv_iinc (v := 0) (lv' := [(7, .int 0), (6, .int z_70), (4, .long z_63), (0, .ref m0), (1, .int (nI pe)), (2, .int (nI wy)), (3, .int tb_)]) hx hb dX12_tableWorth_73 hl (k := 2) rfl (by decide) (by decide) rfl (fun ls hl => ?_)
    refine lv_goto (tgt := 33) hx hb dX12_tableWorth_76 (by decide) ?_
    refine lv_iload hx hb dX12_tableWorth_33 (lv_at hl 0 rfl) ?_
    refine lv_if_lt (tgt := 79) hx hb dX12_tableWorth_35 (by decide) (fun c_35 => absurd c_35 (by decide)) (fun c_35 => ?_)
    refine lv_lload hx hb dX12_tableWorth_38 (lv_at hl 2 rfl) ?_
    refine lv_aload_n hx hb dX12_tableWorth_40 rfl (lv_at hl 3 rfl) ?_
    refine va_get (D := D) (ci := 12) (v := .ref mz) (C := RX12) (T := TX12) (N := 33) hx hb hg gwX12 hown hK hP 0 rfl rfl 28 (by decide) (hg _ kw_381) (fun _ h9 => h9) rfl dX12_tableWorth_41 ?_
    refine lv_bipush (v := 16) hx hb dX12_tableWorth_44 (by decide) ?_
    refine lv_iload_n hx hb dX12_tableWorth_46 rfl (lv_at hl 4 rfl) ?_
    refine lv_imul hx hb dX12_tableWorth_47 ?_
    refine lv_topi (fun z_47 e_47 => ?_)
    obtain rfl : z_47 = nI (16 * pe) := e_47.trans (pk_mul _ _)
    refine lv_iconst (v := 4) hx hb dX12_tableWorth_48 (by decide) ?_
    refine lv_iload_n hx hb dX12_tableWorth_49 rfl (lv_at hl 5 rfl) ?_
    refine lv_imul hx hb dX12_tableWorth_50 ?_
    refine lv_topi (fun z_50 e_50 => ?_)
    obtain rfl : z_50 = nI (4 * wy) := e_50.trans (pk_mul _ _)
    refine lv_iadd hx hb dX12_tableWorth_51 ?_
    refine lv_topi (fun z_51 e_51 => ?_)
    obtain rfl : z_51 = nI (16 * pe + 4 * wy) := e_51.trans (nI_add _ _)
    refine lv_iload hx hb dX12_tableWorth_52 (lv_at hl 0 rfl) ?_
    refine lv_iadd hx hb dX12_tableWorth_54 ?_
    refine lv_topi (fun z_54 e_54 => ?_)
    obtain rfl : z_54 = nI (16 * pe + 4 * wy + 0) := e_54.trans (nI_add _ _)
    refine va_lald hx hb hK hP 2 1 rfl rfl (vp_in_nI (show 16 * pe + 4 * wy + 0 < 64 by omega) (by decide)) dX12_tableWorth_55 ?_
    refine lv_topl (fun z_55 e_55 => ?_)
    refine lv_iload hx hb dX12_tableWorth_56 (lv_at hl 1 rfl) ?_
    refine lv_bipush (v := 10) hx hb dX12_tableWorth_58 (by decide) ?_
    refine lv_irem hx hb dX12_tableWorth_60 (by decide) ?_
    refine lv_topi (fun z_60 e_60 => ?_)
    refine lv_i2l hx hb dX12_tableWorth_61 rfl ?_
    refine lv_topl (fun z_61 e_61 => ?_)
    refine lv_lmul hx hb dX12_tableWorth_62 ?_
    refine lv_topl (fun z_62 e_62 => ?_)
    refine lv_ladd hx hb dX12_tableWorth_63 ?_
    refine lv_topl (fun z_63 e_63 => ?_)
    refine lv_lstore (lv' := [(4, .long z_63), (7, .int 0), (6, .int z_70), (0, .ref m0), (1, .int (nI pe)), (2, .int (nI wy)), (3, .int tb_)]) hx hb dX12_tableWorth_64 hl (by decide) rfl (fun ls hl => ?_)
    refine lv_iload hx hb dX12_tableWorth_66 (lv_at hl 2 rfl) ?_
    refine lv_bipush (v := 10) hx hb dX12_tableWorth_68 (by decide) ?_
    refine lv_idiv hx hb dX12_tableWorth_70 (by decide) ?_
    refine lv_topi (fun z_70 e_70 => ?_)
    refine lv_istore (lv' := [(6, .int z_70), (4, .long z_63), (7, .int 0), (0, .ref m0), (1, .int (nI pe)), (2, .int (nI wy)), (3, .int tb_)]) hx hb dX12_tableWorth_71 hl (by decide) rfl (fun ls hl => ?_)
    refine lv_iinc (v := (-1)) (lv' := [(7, .int (-1)), (6, .int z_70), (4, .long z_63), (0, .ref m0), (1, .int (nI pe)), (2, .int (nI wy)), (3, .int tb_)]) hx hb dX12_tableWorth_73 hl (k := 2) rfl (by decide) (by decide) rfl (fun ls hl => ?_)
    refine lv_goto (tgt := 33) hx hb dX12_tableWorth_76 (by decide) ?_
    refine lv_iload hx hb dX12_tableWorth_33 (lv_at hl 0 rfl) ?_
    refine lv_if_lt (tgt := 79) hx hb dX12_tableWorth_35 (by decide) (fun c_35 => ?_) (fun c_35 => absurd c_35 (by decide))
    refine lv_lload hx hb dX12_tableWorth_79 (lv_at hl 2 rfl) ?_
    refine W_sQ hQ ?_
    exact W.lret (v := z_63) hx hb hr (fun t ht hW => ⟨z_63, rfl, trivial, ht⟩) (fun _ h => absurd h List.not_mem_nil) dX12_tableWorth_81

theorem dX12_tableRests_0 : decode cX12_tableRests 0 = .ok (.iconst 1, 1) := by decide +kernel
theorem dX12_tableRests_1 : decode cX12_tableRests 1 = .ok (.istore_n 2, 1) := by decide +kernel
theorem dX12_tableRests_2 : decode cX12_tableRests 2 = .ok (.iconst 0, 1) := by decide +kernel
theorem dX12_tableRests_3 : decode cX12_tableRests 3 = .ok (.istore_n 3, 1) := by decide +kernel
theorem dX12_tableRests_4 : decode cX12_tableRests 4 = .ok (.iload_n 3, 1) := by decide +kernel
theorem dX12_tableRests_5 : decode cX12_tableRests 5 = .ok (.aload_n 0, 1) := by decide +kernel
theorem dX12_tableRests_6 : decode cX12_tableRests 6 = .ok (.getfield 57, 3) := by decide +kernel
theorem dX12_tableRests_9 : decode cX12_tableRests 9 = .ok (.if_icmp .ge 61, 3) := by decide +kernel
theorem dX12_tableRests_12 : decode cX12_tableRests 12 = .ok (.iload_n 2, 1) := by decide +kernel
theorem dX12_tableRests_13 : decode cX12_tableRests 13 = .ok (.ifCond .eq 57, 3) := by decide +kernel
theorem dX12_tableRests_16 : decode cX12_tableRests 16 = .ok (.aload_n 0, 1) := by decide +kernel
theorem dX12_tableRests_17 : decode cX12_tableRests 17 = .ok (.iload_n 3, 1) := by decide +kernel
theorem dX12_tableRests_18 : decode cX12_tableRests 18 = .ok (.iconst 0, 1) := by decide +kernel
theorem dX12_tableRests_19 : decode cX12_tableRests 19 = .ok (.iload_n 1, 1) := by decide +kernel
theorem dX12_tableRests_20 : decode cX12_tableRests 20 = .ok (.invokevirtual 237, 3) := by decide +kernel
theorem dX12_tableRests_23 : decode cX12_tableRests 23 = .ok (.lstore 4, 2) := by decide +kernel
theorem dX12_tableRests_25 : decode cX12_tableRests 25 = .ok (.iconst 1, 1) := by decide +kernel
theorem dX12_tableRests_26 : decode cX12_tableRests 26 = .ok (.istore 6, 2) := by decide +kernel
theorem dX12_tableRests_28 : decode cX12_tableRests 28 = .ok (.iload 6, 2) := by decide +kernel
theorem dX12_tableRests_30 : decode cX12_tableRests 30 = .ok (.iconst 4, 1) := by decide +kernel
theorem dX12_tableRests_31 : decode cX12_tableRests 31 = .ok (.if_icmp .ge 33, 3) := by decide +kernel
theorem dX12_tableRests_34 : decode cX12_tableRests 34 = .ok (.iload_n 2, 1) := by decide +kernel
theorem dX12_tableRests_35 : decode cX12_tableRests 35 = .ok (.ifCond .eq 21, 3) := by decide +kernel
theorem dX12_tableRests_38 : decode cX12_tableRests 38 = .ok (.aload_n 0, 1) := by decide +kernel
theorem dX12_tableRests_39 : decode cX12_tableRests 39 = .ok (.iload_n 3, 1) := by decide +kernel
theorem dX12_tableRests_40 : decode cX12_tableRests 40 = .ok (.iload 6, 2) := by decide +kernel
theorem dX12_tableRests_42 : decode cX12_tableRests 42 = .ok (.iload_n 1, 1) := by decide +kernel
theorem dX12_tableRests_43 : decode cX12_tableRests 43 = .ok (.invokevirtual 237, 3) := by decide +kernel
theorem dX12_tableRests_46 : decode cX12_tableRests 46 = .ok (.lload 4, 2) := by decide +kernel
theorem dX12_tableRests_48 : decode cX12_tableRests 48 = .ok (.lcmp, 1) := by decide +kernel
theorem dX12_tableRests_49 : decode cX12_tableRests 49 = .ok (.ifCond .gt 7, 3) := by decide +kernel
theorem dX12_tableRests_52 : decode cX12_tableRests 52 = .ok (.iconst 1, 1) := by decide +kernel
theorem dX12_tableRests_53 : decode cX12_tableRests 53 = .ok (.goto 4, 3) := by decide +kernel
theorem dX12_tableRests_56 : decode cX12_tableRests 56 = .ok (.iconst 0, 1) := by decide +kernel
theorem dX12_tableRests_57 : decode cX12_tableRests 57 = .ok (.istore_n 2, 1) := by decide +kernel
theorem dX12_tableRests_58 : decode cX12_tableRests 58 = .ok (.iinc 6 1, 3) := by decide +kernel
theorem dX12_tableRests_61 : decode cX12_tableRests 61 = .ok (.goto (-33), 3) := by decide +kernel
theorem dX12_tableRests_64 : decode cX12_tableRests 64 = .ok (.iinc 3 1, 3) := by decide +kernel
theorem dX12_tableRests_67 : decode cX12_tableRests 67 = .ok (.goto (-63), 3) := by decide +kernel
theorem dX12_tableRests_70 : decode cX12_tableRests 70 = .ok (.iload_n 2, 1) := by decide +kernel
theorem dX12_tableRests_71 : decode cX12_tableRests 71 = .ok (.ireturn, 1) := by decide +kernel
theorem kw_383 : (.code yX12_tableWorth cX12_tableWorth 8 (some .long) : Cond) ∈ gw_tbl := gw_in (by decide +kernel) (by decide +kernel)
theorem kw_384 : (.methodLink RX12 237 yX12_tableWorth : Cond) ∈ gw_tbl := gw_in (by decide +kernel) (by decide +kernel)
theorem kw_385 : (.instanceMethod yX12_tableWorth : Cond) ∈ gw_tbl := gw_in (by decide +kernel) (by decide +kernel)
theorem kw_386 : (.selects RX12 yX12_tableWorth yX12_tableWorth : Cond) ∈ gw_tbl := gw_in (by decide +kernel) (by decide +kernel)

set_option maxHeartbeats 4000000 in
set_option maxRecDepth 100000 in
theorem m_tableRests (l : Launch) (D : va_G) (cs : Nat → ClassId) (m0 : Nat) (mp : Nat) (mw : Nat) (mh : Nat) (mo : Nat) (m5 : Nat) (m6 : Nat) (m7 : Nat) (mk : Nat) (mn : Nat) (mq : Nat) (m8 : Nat) (m9 : Nat) (mz : Nat) (mb : Nat) (md : Nat) (ms : Nat) (C : Nat) (P : Nat) (mpn : Nat) (mrs : Nat) (sS : Nat) (rc : Nat) (rp : Nat) (ic : Nat) (hms : ms ≤ 90) (hC5 : C ≤ 5) (hP4 : P ≤ 4) (hmpn : mpn ≤ 8) (hmrs : mrs ≤ 24) (hsS : sS ≤ 4) (hrc : rc ≤ 5) (hrp : rp ≤ 4) (hic : ic ≤ 4) (x_value : Int32) (x_digits : Int32) (x_all : Int64) (x_kind : Int32) (x_last : Int32) (x_steps : Int32) (x_isRound : Int32) (x_tablesDone : Int32) (x_hash : Int64) (fmo : Nat → Int32) (fmz : Nat → Int64) (tb_ : Int32) : Met l yX12_tableRests (Cond.code yX12_tableRests cX12_tableRests 7 (some .boolean) :: gw_tbl) ({ frames := 1, cells := 0, slots := 0, locals := 27 }) (pc_S D cs [(m0, .inr (12, [.ref mp, .int (nI ms), .int (nI C), .int (nI P), .ref mw, .ref mh, .ref mo, .int (nI sS), .int x_value, .int x_digits, .int (nI rc), .int (nI rp), .int (nI ic), .ref m5, .ref m6, .ref m7, .long x_all, .int (nI mpn), .ref mk, .ref mn, .int x_kind, .ref mq, .ref m8, .ref m9, .int x_last, .int x_steps, .int x_isRound, .int x_tablesDone, .ref mz, .int (nI mrs), .ref mb, .ref md, .long x_hash])), (mo, .inl (cs 0, 4, .inl fmo)), (mz, .inl (cs 1, 64, .inr (.inl fmz)))] [.ref m0, .int tb_]) (vp_Si (fun r => r = 0 ∨ r = 1)) 0 0 (fun _ => False) := by
  refine Met.ofW (cc := cX12_tableRests) (maxL := 7) (ret := (some .boolean)) (by decide) rfl ?_
  intro p e s m args below meth c s₁ B hml hv
  obtain ⟨hargs, hP, hK⟩ := hv
  have hx := B.exec
  have hb := B.bytes
  have hr := B.returns
  have hts := atoms_spec (ws := Cond.code yX12_tableRests cX12_tableRests 7 (some .boolean) :: gw_tbl) B.pre
  have hg := fun (w : Cond) (h : w ∈ gw_tbl) => hts w (List.mem_cons_of_mem _ h)
  have hown : s.vm.findClass RX12 = some m.cls := findClass_of_methodNamed B.named
  have hlocks := B.notSynchronized
  have hl := lv_entry ([.ref m0, .int tb_]) (n := 7) (Nat.le_of_ble_eq_true rfl)
  rw [show entryFrame m args 7 = F0 m 0 (lg_sl ([.ref m0, .int tb_]) ++ List.replicate (7 - (lg_sl ([.ref m0, .int tb_])).length) Slot.unset).toArray [] from by rw [hargs]; exact lg_entry_eq ..]
  generalize (lg_sl ([.ref m0, .int tb_]) ++ List.replicate (7 - (lg_sl ([.ref m0, .int tb_])).length) Slot.unset).toArray = ls at hl ⊢
  have hl : lv_has ls 7 [(0, .ref m0), (1, .int tb_)] := hl
  refine W_genQ (fun Q hQ => ?_)
  have hlm := lim_le hP4
  have hlq := lim_pos P
  have hsg := sgn_le hP4
  refine lv_iconst (v := 1) hx hb dX12_tableRests_0 (by decide) ?_
  refine lv_istore_n (lv' := [(2, .int 1), (0, .ref m0), (1, .int tb_)]) hx hb dX12_tableRests_1 rfl hl (by decide) rfl (fun ls hl => ?_)
  refine lv_iconst (v := 0) hx hb dX12_tableRests_2 (by decide) ?_
  refine lv_istore_n (lv' := [(3, .int 0), (2, .int 1), (0, .ref m0), (1, .int tb_)]) hx hb dX12_tableRests_3 rfl hl (by decide) rfl (fun ls hl => ?_)
  have LOOP4 : ∀ (n4 : Nat) (u2_4 : Int32) (pe : Nat), pe ≤ P → u2_4 = 0 ∨ u2_4 = 1 → P - pe < n4 → ∀ (ls : Array Slot), lv_has ls 7 [(0, .ref m0), (1, .int tb_), (2, .int u2_4), (3, .int (nI pe))] → W p l e ({ frames := 1, cells := 0, slots := 0, locals := 27 } : Room) s m args below meth c s.heap [] 0 0 Q (F0 m 4 ls []) := by
    intro n4
    induction n4 with
    | zero =>
      intro u2_4 pe hpe hz_4 hn4 ls hl
      exact absurd hn4 (Nat.not_lt_zero _)
    | succ n4 ih4 =>
      intro u2_4 pe hpe hz_4 hn4 ls hl
      refine lv_iload_n hx hb dX12_tableRests_4 rfl (lv_at hl 3 rfl) ?_
      refine lv_aload_n hx hb dX12_tableRests_5 rfl (lv_at hl 0 rfl) ?_
      refine va_get (D := D) (ci := 12) (v := .int (nI P)) (C := RX12) (T := TX12) (N := 33) hx hb hg gwX12 hown hK hP 0 rfl rfl 3 (by decide) (hg _ kw_315) (fun _ h9 => h9) rfl dX12_tableRests_6 ?_
      refine lv_icmp_ge (tgt := 70) hx hb dX12_tableRests_9 (by decide) (fun c_9 => ?_) (fun c_9 => ?_)
      · have n_9 : P ≤ pe := b_le_t (by omega) (by omega) c_9
        refine lv_iload_n hx hb dX12_tableRests_70 rfl (lv_at hl 2 rfl) ?_
        refine W_sQ hQ ?_
        exact W.zret (v := u2_4) hx hb hr (z_nar hz_4) (fun t ht hW => ⟨u2_4, rfl, hz_4, ht⟩) (fun _ h => absurd h List.not_mem_nil) dX12_tableRests_71
      · have n_9 : pe < P := b_le_f (by omega) (by omega) c_9
        refine lv_iload_n hx hb dX12_tableRests_12 rfl (lv_at hl 2 rfl) ?_
        refine lv_if_eq (tgt := 70) hx hb dX12_tableRests_13 (by decide) (fun c_13 => ?_) (fun c_13 => ?_)
        · refine lv_iload_n hx hb dX12_tableRests_70 rfl (lv_at hl 2 rfl) ?_
          refine W_sQ hQ ?_
          exact W.zret (v := u2_4) hx hb hr (z_nar hz_4) (fun t ht hW => ⟨u2_4, rfl, hz_4, ht⟩) (fun _ h => absurd h List.not_mem_nil) dX12_tableRests_71
        · refine lv_aload_n hx hb dX12_tableRests_16 rfl (lv_at hl 0 rfl) ?_
          refine lv_iload_n hx hb dX12_tableRests_17 rfl (lv_at hl 3 rfl) ?_
          refine lv_iconst (v := 0) hx hb dX12_tableRests_18 (by decide) ?_
          refine lv_iload_n hx hb dX12_tableRests_19 rfl (lv_at hl 1 rfl) ?_
          have hPc := hP.sub (ws' := [(m0, .inr (12, [.ref mp, .int (nI ms), .int (nI C), .int (nI P), .ref mw, .ref mh, .ref mo, .int (nI sS), .int x_value, .int x_digits, .int (nI rc), .int (nI rp), .int (nI ic), .ref m5, .ref m6, .ref m7, .long x_all, .int (nI mpn), .ref mk, .ref mn, .int x_kind, .ref mq, .ref m8, .ref m9, .int x_last, .int x_steps, .int x_isRound, .int x_tablesDone, .ref mz, .int (nI mrs), .ref mb, .ref md, .long x_hash])), (mo, .inl (cs 0, 4, .inl fmo)), (mz, .inl (cs 1, 64, .inr (.inl fmz)))]) [0, 1, 2] rfl
          refine vp_callSl (W.runV (As := [.int (nI pe), .int 0, .int tb_]) (rest := []) ⟨hx, hb, hml, hown, hg⟩ (m_tableWorth l D cs m0 mp mw mh mo m5 m6 m7 mk mn mq m8 m9 mz mb md ms C P mpn mrs sS rc rp ic (by omega) (by omega) (by omega) (by omega) (by omega) (by omega) (by omega) (by omega) (by omega) x_value x_digits x_all x_kind x_last x_steps x_isRound x_tablesDone x_hash fmo fmz pe (by omega) 0 (by omega) tb_) (cwV 3 hg (gw_V kw_384 kw_385 kw_386 kw_319 kw_383) rfl rfl rfl (by decide +kernel) ⟨(Nat.le_of_ble_eq_true rfl), (Nat.le_of_ble_eq_true rfl)⟩) (pr_SV (q := (RX12, TX12, 33)) 12 0 hK hPc rfl rfl) rfl rfl hl.1 rfl (lv_room (Nat.le_of_ble_eq_true rfl)) dX12_tableRests_20 ⟨(Nat.le_of_ble_eq_true rfl), (Nat.le_of_ble_eq_true rfl)⟩) (fun r_20 h_20 => ?_)
          clear h_20
          refine lv_lstore (lv' := [(4, .long r_20), (0, .ref m0), (1, .int tb_), (2, .int u2_4), (3, .int (nI pe))]) hx hb dX12_tableRests_23 hl (by decide) rfl (fun ls hl => ?_)
          refine lv_iconst (v := 1) hx hb dX12_tableRests_25 (by decide) ?_
          refine lv_istore (lv' := [(6, .int 1), (4, .long r_20), (0, .ref m0), (1, .int tb_), (2, .int u2_4), (3, .int (nI pe))]) hx hb dX12_tableRests_26 hl (by decide) rfl (fun ls hl => ?_)
          have LOOP28 : ∀ (n28 : Nat) (u2_28 : Int32) (wy : Nat), wy ≤ 4 → u2_28 = 0 ∨ u2_28 = 1 → 4 - wy < n28 → ∀ (ls : Array Slot), lv_has ls 7 [(0, .ref m0), (1, .int tb_), (2, .int u2_28), (3, .int (nI pe)), (4, .long r_20), (6, .int (nI wy))] → W p l e ({ frames := 1, cells := 0, slots := 0, locals := 27 } : Room) s m args below meth c s.heap [] 0 0 Q (F0 m 28 ls []) := by
            intro n28
            induction n28 with
            | zero =>
              intro u2_28 wy hwy hz_28 hn28 ls hl
              exact absurd hn28 (Nat.not_lt_zero _)
            | succ n28 ih28 =>
              intro u2_28 wy hwy hz_28 hn28 ls hl
              refine lv_iload hx hb dX12_tableRests_28 (lv_at hl 5 rfl) ?_
              refine lv_iconst (v := 4) hx hb dX12_tableRests_30 (by decide) ?_
              refine lv_icmp_ge (tgt := 64) hx hb dX12_tableRests_31 (by decide) (fun c_31 => ?_) (fun c_31 => ?_)
              · have n_31 : 4 ≤ wy := b_le_t (by omega) (by omega) c_31
                refine lv_iinc (v := (nI (pe + 1))) (lv' := [(3, .int (nI (pe + 1))), (0, .ref m0), (1, .int tb_), (2, .int u2_28), (4, .long r_20), (6, .int (nI wy))]) hx hb dX12_tableRests_64 hl (k := 3) rfl (nI_add pe 1) (by decide) rfl (fun ls hl => ?_)
                refine lv_goto (tgt := 4) hx hb dX12_tableRests_67 (by decide) ?_
                exact ih4 u2_28 (pe + 1) (by omega) hz_28 (by omega) ls (lv_sub hl [1, 2, 3, 0] rfl)
              · have n_31 : wy < 4 := b_le_f (by omega) (by omega) c_31
                refine lv_iload_n hx hb dX12_tableRests_34 rfl (lv_at hl 2 rfl) ?_
                refine lv_if_eq (tgt := 56) hx hb dX12_tableRests_35 (by decide) (fun c_35 => ?_) (fun c_35 => ?_)
                · refine lv_iconst (v := 0) hx hb dX12_tableRests_56 (by decide) ?_
                  refine lv_istore_n (lv' := [(2, .int 0), (0, .ref m0), (1, .int tb_), (3, .int (nI pe)), (4, .long r_20), (6, .int (nI wy))]) hx hb dX12_tableRests_57 rfl hl (by decide) rfl (fun ls hl => ?_)
                  refine lv_iinc (v := (nI (wy + 1))) (lv' := [(6, .int (nI (wy + 1))), (2, .int 0), (0, .ref m0), (1, .int tb_), (3, .int (nI pe)), (4, .long r_20)]) hx hb dX12_tableRests_58 hl (k := 5) rfl (nI_add wy 1) (by decide) rfl (fun ls hl => ?_)
                  refine lv_goto (tgt := 28) hx hb dX12_tableRests_61 (by decide) ?_
                  exact ih28 0 (wy + 1) (by omega) (Or.inl rfl) (by omega) ls (lv_sub hl [2, 3, 1, 4, 5, 0] rfl)
                · refine lv_aload_n hx hb dX12_tableRests_38 rfl (lv_at hl 0 rfl) ?_
                  refine lv_iload_n hx hb dX12_tableRests_39 rfl (lv_at hl 3 rfl) ?_
                  refine lv_iload hx hb dX12_tableRests_40 (lv_at hl 5 rfl) ?_
                  refine lv_iload_n hx hb dX12_tableRests_42 rfl (lv_at hl 1 rfl) ?_
                  have hPc := hP.sub (ws' := [(m0, .inr (12, [.ref mp, .int (nI ms), .int (nI C), .int (nI P), .ref mw, .ref mh, .ref mo, .int (nI sS), .int x_value, .int x_digits, .int (nI rc), .int (nI rp), .int (nI ic), .ref m5, .ref m6, .ref m7, .long x_all, .int (nI mpn), .ref mk, .ref mn, .int x_kind, .ref mq, .ref m8, .ref m9, .int x_last, .int x_steps, .int x_isRound, .int x_tablesDone, .ref mz, .int (nI mrs), .ref mb, .ref md, .long x_hash])), (mo, .inl (cs 0, 4, .inl fmo)), (mz, .inl (cs 1, 64, .inr (.inl fmz)))]) [0, 1, 2] rfl
                  refine vp_callSl (W.runV (As := [.int (nI pe), .int (nI wy), .int tb_]) (rest := []) ⟨hx, hb, hml, hown, hg⟩ (m_tableWorth l D cs m0 mp mw mh mo m5 m6 m7 mk mn mq m8 m9 mz mb md ms C P mpn mrs sS rc rp ic (by omega) (by omega) (by omega) (by omega) (by omega) (by omega) (by omega) (by omega) (by omega) x_value x_digits x_all x_kind x_last x_steps x_isRound x_tablesDone x_hash fmo fmz pe (by omega) wy (by omega) tb_) (cwV 3 hg (gw_V kw_384 kw_385 kw_386 kw_319 kw_383) rfl rfl rfl (by decide +kernel) ⟨(Nat.le_of_ble_eq_true rfl), (Nat.le_of_ble_eq_true rfl)⟩) (pr_SV (q := (RX12, TX12, 33)) 12 0 hK hPc rfl rfl) rfl rfl hl.1 rfl (lv_room (Nat.le_of_ble_eq_true rfl)) dX12_tableRests_43 ⟨(Nat.le_of_ble_eq_true rfl), (Nat.le_of_ble_eq_true rfl)⟩) (fun r_43 h_43 => ?_)
                  clear h_43
                  refine lv_lload hx hb dX12_tableRests_46 (lv_at hl 4 rfl) ?_
                  refine W.lcmp hx hb dX12_tableRests_48 ?_
                  refine lv_topi (fun z_48 e_48 => ?_)
                  refine lv_if_gt (tgt := 56) hx hb dX12_tableRests_49 (by decide) (fun c_49 => ?_) (fun c_49 => ?_)
                  · refine lv_iconst (v := 0) hx hb dX12_tableRests_56 (by decide) ?_
                    refine lv_istore_n (lv' := [(2, .int 0), (0, .ref m0), (1, .int tb_), (3, .int (nI pe)), (4, .long r_20), (6, .int (nI wy))]) hx hb dX12_tableRests_57 rfl hl (by decide) rfl (fun ls hl => ?_)
                    refine lv_iinc (v := (nI (wy + 1))) (lv' := [(6, .int (nI (wy + 1))), (2, .int 0), (0, .ref m0), (1, .int tb_), (3, .int (nI pe)), (4, .long r_20)]) hx hb dX12_tableRests_58 hl (k := 5) rfl (nI_add wy 1) (by decide) rfl (fun ls hl => ?_)
                    refine lv_goto (tgt := 28) hx hb dX12_tableRests_61 (by decide) ?_
                    exact ih28 0 (wy + 1) (by omega) (Or.inl rfl) (by omega) ls (lv_sub hl [2, 3, 1, 4, 5, 0] rfl)
                  · refine lv_iconst (v := 1) hx hb dX12_tableRests_52 (by decide) ?_
                    refine lv_goto (tgt := 57) hx hb dX12_tableRests_53 (by decide) ?_
                    refine lv_istore_n (lv' := [(2, .int 1), (0, .ref m0), (1, .int tb_), (3, .int (nI pe)), (4, .long r_20), (6, .int (nI wy))]) hx hb dX12_tableRests_57 rfl hl (by decide) rfl (fun ls hl => ?_)
                    refine lv_iinc (v := (nI (wy + 1))) (lv' := [(6, .int (nI (wy + 1))), (2, .int 1), (0, .ref m0), (1, .int tb_), (3, .int (nI pe)), (4, .long r_20)]) hx hb dX12_tableRests_58 hl (k := 5) rfl (nI_add wy 1) (by decide) rfl (fun ls hl => ?_)
                    refine lv_goto (tgt := 28) hx hb dX12_tableRests_61 (by decide) ?_
                    exact ih28 1 (wy + 1) (by omega) (Or.inr rfl) (by omega) ls (lv_sub hl [2, 3, 1, 4, 5, 0] rfl)
          exact LOOP28 (4 - 1 + 1) u2_4 1 (by omega) hz_4 (Nat.lt_succ_self _) ls (lv_sub hl [2, 3, 4, 5, 1, 0] rfl)
  exact LOOP4 (P - 0 + 1) 1 0 (by omega) (Or.inr rfl) (Nat.lt_succ_self _) ls (lv_sub hl [2, 3, 1, 0] rfl)

theorem dX12_truthRests_0 : decode cX12_truthRests 0 = .ok (.iconst 1, 1) := by decide +kernel
theorem dX12_truthRests_1 : decode cX12_truthRests 1 = .ok (.istore_n 1, 1) := by decide +kernel
theorem dX12_truthRests_2 : decode cX12_truthRests 2 = .ok (.iconst 0, 1) := by decide +kernel
theorem dX12_truthRests_3 : decode cX12_truthRests 3 = .ok (.istore_n 2, 1) := by decide +kernel
theorem dX12_truthRests_4 : decode cX12_truthRests 4 = .ok (.iload_n 2, 1) := by decide +kernel
theorem dX12_truthRests_5 : decode cX12_truthRests 5 = .ok (.aload_n 0, 1) := by decide +kernel
theorem dX12_truthRests_6 : decode cX12_truthRests 6 = .ok (.getfield 57, 3) := by decide +kernel
theorem dX12_truthRests_9 : decode cX12_truthRests 9 = .ok (.if_icmp .ge 62, 3) := by decide +kernel
theorem dX12_truthRests_12 : decode cX12_truthRests 12 = .ok (.iload_n 1, 1) := by decide +kernel
theorem dX12_truthRests_13 : decode cX12_truthRests 13 = .ok (.ifCond .eq 58, 3) := by decide +kernel
theorem dX12_truthRests_16 : decode cX12_truthRests 16 = .ok (.aload_n 0, 1) := by decide +kernel
theorem dX12_truthRests_17 : decode cX12_truthRests 17 = .ok (.iconst 0, 1) := by decide +kernel
theorem dX12_truthRests_18 : decode cX12_truthRests 18 = .ok (.iload_n 2, 1) := by decide +kernel
theorem dX12_truthRests_19 : decode cX12_truthRests 19 = .ok (.invokevirtual 177, 3) := by decide +kernel
theorem dX12_truthRests_22 : decode cX12_truthRests 22 = .ok (.lstore_n 3, 1) := by decide +kernel
theorem dX12_truthRests_23 : decode cX12_truthRests 23 = .ok (.iconst 1, 1) := by decide +kernel
theorem dX12_truthRests_24 : decode cX12_truthRests 24 = .ok (.istore 5, 2) := by decide +kernel
theorem dX12_truthRests_26 : decode cX12_truthRests 26 = .ok (.iload 5, 2) := by decide +kernel
theorem dX12_truthRests_28 : decode cX12_truthRests 28 = .ok (.iconst 4, 1) := by decide +kernel
theorem dX12_truthRests_29 : decode cX12_truthRests 29 = .ok (.if_icmp .ge 36, 3) := by decide +kernel
theorem dX12_truthRests_32 : decode cX12_truthRests 32 = .ok (.iload_n 1, 1) := by decide +kernel
theorem dX12_truthRests_33 : decode cX12_truthRests 33 = .ok (.ifCond .eq 24, 3) := by decide +kernel
theorem dX12_truthRests_36 : decode cX12_truthRests 36 = .ok (.aload_n 0, 1) := by decide +kernel
theorem dX12_truthRests_37 : decode cX12_truthRests 37 = .ok (.iconst 0, 1) := by decide +kernel
theorem dX12_truthRests_38 : decode cX12_truthRests 38 = .ok (.iload_n 2, 1) := by decide +kernel
theorem dX12_truthRests_39 : decode cX12_truthRests 39 = .ok (.iload 5, 2) := by decide +kernel
theorem dX12_truthRests_41 : decode cX12_truthRests 41 = .ok (.invokestatic 181, 3) := by decide +kernel
theorem dX12_truthRests_44 : decode cX12_truthRests 44 = .ok (.iload_n 2, 1) := by decide +kernel
theorem dX12_truthRests_45 : decode cX12_truthRests 45 = .ok (.invokevirtual 177, 3) := by decide +kernel
theorem dX12_truthRests_48 : decode cX12_truthRests 48 = .ok (.lload_n 3, 1) := by decide +kernel
theorem dX12_truthRests_49 : decode cX12_truthRests 49 = .ok (.lcmp, 1) := by decide +kernel
theorem dX12_truthRests_50 : decode cX12_truthRests 50 = .ok (.ifCond .gt 7, 3) := by decide +kernel
theorem dX12_truthRests_53 : decode cX12_truthRests 53 = .ok (.iconst 1, 1) := by decide +kernel
theorem dX12_truthRests_54 : decode cX12_truthRests 54 = .ok (.goto 4, 3) := by decide +kernel
theorem dX12_truthRests_57 : decode cX12_truthRests 57 = .ok (.iconst 0, 1) := by decide +kernel
theorem dX12_truthRests_58 : decode cX12_truthRests 58 = .ok (.istore_n 1, 1) := by decide +kernel
theorem dX12_truthRests_59 : decode cX12_truthRests 59 = .ok (.iinc 5 1, 3) := by decide +kernel
theorem dX12_truthRests_62 : decode cX12_truthRests 62 = .ok (.goto (-36), 3) := by decide +kernel
theorem dX12_truthRests_65 : decode cX12_truthRests 65 = .ok (.iinc 2 1, 3) := by decide +kernel
theorem dX12_truthRests_68 : decode cX12_truthRests 68 = .ok (.goto (-64), 3) := by decide +kernel
theorem dX12_truthRests_71 : decode cX12_truthRests 71 = .ok (.iload_n 1, 1) := by decide +kernel
theorem dX12_truthRests_72 : decode cX12_truthRests 72 = .ok (.ireturn, 1) := by decide +kernel

set_option maxHeartbeats 4000000 in
set_option maxRecDepth 100000 in
theorem m_truthRests (l : Launch) (D : va_G) (cs : Nat → ClassId) (m0 : Nat) (mp : Nat) (mw : Nat) (mh : Nat) (mo : Nat) (m5 : Nat) (m6 : Nat) (m7 : Nat) (mk : Nat) (mn : Nat) (mq : Nat) (m8 : Nat) (m9 : Nat) (mz : Nat) (mb : Nat) (md : Nat) (ms : Nat) (C : Nat) (P : Nat) (mpn : Nat) (mrs : Nat) (sS : Nat) (rc : Nat) (rp : Nat) (ic : Nat) (hms : ms ≤ 90) (hC5 : C ≤ 5) (hP4 : P ≤ 4) (hmpn : mpn ≤ 8) (hmrs : mrs ≤ 24) (hsS : sS ≤ 4) (hrc : rc ≤ 5) (hrp : rp ≤ 4) (hic : ic ≤ 4) (x_value : Int32) (x_digits : Int32) (x_all : Int64) (x_kind : Int32) (x_last : Int32) (x_steps : Int32) (x_isRound : Int32) (x_tablesDone : Int32) (x_hash : Int64) (fmo : Nat → Int32) (fm7 : Nat → Int64) (fmq : Nat → Int32) : Met l yX12_truthRests (Cond.code yX12_truthRests cX12_truthRests 6 (some .boolean) :: gw_tbl) ({ frames := 3, cells := 0, slots := 0, locals := 76 }) (pc_S D cs [(m0, .inr (12, [.ref mp, .int (nI ms), .int (nI C), .int (nI P), .ref mw, .ref mh, .ref mo, .int (nI sS), .int x_value, .int x_digits, .int (nI rc), .int (nI rp), .int (nI ic), .ref m5, .ref m6, .ref m7, .long x_all, .int (nI mpn), .ref mk, .ref mn, .int x_kind, .ref mq, .ref m8, .ref m9, .int x_last, .int x_steps, .int x_isRound, .int x_tablesDone, .ref mz, .int (nI mrs), .ref mb, .ref md, .long x_hash])), (mo, .inl (cs 0, 4, .inl fmo)), (m7, .inl (cs 1, 16, .inr (.inl fm7))), (mq, .inl (cs 0, 4, .inl fmq))] [.ref m0]) (vp_Si (fun r => r = 0 ∨ r = 1)) 0 0 (fun _ => False) := by
  refine Met.ofW (cc := cX12_truthRests) (maxL := 6) (ret := (some .boolean)) (by decide) rfl ?_
  intro p e s m args below meth c s₁ B hml hv
  obtain ⟨hargs, hP, hK⟩ := hv
  have hx := B.exec
  have hb := B.bytes
  have hr := B.returns
  have hts := atoms_spec (ws := Cond.code yX12_truthRests cX12_truthRests 6 (some .boolean) :: gw_tbl) B.pre
  have hg := fun (w : Cond) (h : w ∈ gw_tbl) => hts w (List.mem_cons_of_mem _ h)
  have hown : s.vm.findClass RX12 = some m.cls := findClass_of_methodNamed B.named
  have hlocks := B.notSynchronized
  have hl := lv_entry ([.ref m0]) (n := 6) (Nat.le_of_ble_eq_true rfl)
  rw [show entryFrame m args 6 = F0 m 0 (lg_sl ([.ref m0]) ++ List.replicate (6 - (lg_sl ([.ref m0])).length) Slot.unset).toArray [] from by rw [hargs]; exact lg_entry_eq ..]
  generalize (lg_sl ([.ref m0]) ++ List.replicate (6 - (lg_sl ([.ref m0])).length) Slot.unset).toArray = ls at hl ⊢
  have hl : lv_has ls 6 [(0, .ref m0)] := hl
  refine W_genQ (fun Q hQ => ?_)
  have hlm := lim_le hP4
  have hlq := lim_pos P
  have hsg := sgn_le hP4
  refine lv_iconst (v := 1) hx hb dX12_truthRests_0 (by decide) ?_
  refine lv_istore_n (lv' := [(1, .int 1), (0, .ref m0)]) hx hb dX12_truthRests_1 rfl hl (by decide) rfl (fun ls hl => ?_)
  refine lv_iconst (v := 0) hx hb dX12_truthRests_2 (by decide) ?_
  refine lv_istore_n (lv' := [(2, .int 0), (1, .int 1), (0, .ref m0)]) hx hb dX12_truthRests_3 rfl hl (by decide) rfl (fun ls hl => ?_)
  have LOOP4 : ∀ (n4 : Nat) (u1_4 : Int32) (pe : Nat), pe ≤ P → u1_4 = 0 ∨ u1_4 = 1 → P - pe < n4 → ∀ (ls : Array Slot), lv_has ls 6 [(0, .ref m0), (1, .int u1_4), (2, .int (nI pe))] → W p l e ({ frames := 3, cells := 0, slots := 0, locals := 76 } : Room) s m args below meth c s.heap [] 0 0 Q (F0 m 4 ls []) := by
    intro n4
    induction n4 with
    | zero =>
      intro u1_4 pe hpe hz_4 hn4 ls hl
      exact absurd hn4 (Nat.not_lt_zero _)
    | succ n4 ih4 =>
      intro u1_4 pe hpe hz_4 hn4 ls hl
      refine lv_iload_n hx hb dX12_truthRests_4 rfl (lv_at hl 2 rfl) ?_
      refine lv_aload_n hx hb dX12_truthRests_5 rfl (lv_at hl 0 rfl) ?_
      refine va_get (D := D) (ci := 12) (v := .int (nI P)) (C := RX12) (T := TX12) (N := 33) hx hb hg gwX12 hown hK hP 0 rfl rfl 3 (by decide) (hg _ kw_315) (fun _ h9 => h9) rfl dX12_truthRests_6 ?_
      refine lv_icmp_ge (tgt := 71) hx hb dX12_truthRests_9 (by decide) (fun c_9 => ?_) (fun c_9 => ?_)
      · have n_9 : P ≤ pe := b_le_t (by omega) (by omega) c_9
        refine lv_iload_n hx hb dX12_truthRests_71 rfl (lv_at hl 1 rfl) ?_
        refine W_sQ hQ ?_
        exact W.zret (v := u1_4) hx hb hr (z_nar hz_4) (fun t ht hW => ⟨u1_4, rfl, hz_4, ht⟩) (fun _ h => absurd h List.not_mem_nil) dX12_truthRests_72
      · have n_9 : pe < P := b_le_f (by omega) (by omega) c_9
        refine lv_iload_n hx hb dX12_truthRests_12 rfl (lv_at hl 1 rfl) ?_
        refine lv_if_eq (tgt := 71) hx hb dX12_truthRests_13 (by decide) (fun c_13 => ?_) (fun c_13 => ?_)
        · refine lv_iload_n hx hb dX12_truthRests_71 rfl (lv_at hl 1 rfl) ?_
          refine W_sQ hQ ?_
          exact W.zret (v := u1_4) hx hb hr (z_nar hz_4) (fun t ht hW => ⟨u1_4, rfl, hz_4, ht⟩) (fun _ h => absurd h List.not_mem_nil) dX12_truthRests_72
        · refine lv_aload_n hx hb dX12_truthRests_16 rfl (lv_at hl 0 rfl) ?_
          refine lv_iconst (v := 0) hx hb dX12_truthRests_17 (by decide) ?_
          refine lv_iload_n hx hb dX12_truthRests_18 rfl (lv_at hl 2 rfl) ?_
          have hPc := hP.sub (ws' := [(m0, .inr (12, [.ref mp, .int (nI ms), .int (nI C), .int (nI P), .ref mw, .ref mh, .ref mo, .int (nI sS), .int x_value, .int x_digits, .int (nI rc), .int (nI rp), .int (nI ic), .ref m5, .ref m6, .ref m7, .long x_all, .int (nI mpn), .ref mk, .ref mn, .int x_kind, .ref mq, .ref m8, .ref m9, .int x_last, .int x_steps, .int x_isRound, .int x_tablesDone, .ref mz, .int (nI mrs), .ref mb, .ref md, .long x_hash])), (mo, .inl (cs 0, 4, .inl fmo)), (m7, .inl (cs 1, 16, .inr (.inl fm7))), (mq, .inl (cs 0, 4, .inl fmq))]) [0, 1, 2, 3] rfl
          refine vp_callSl (W.runV (As := [.int 0, .int (nI pe)]) (rest := []) ⟨hx, hb, hml, hown, hg⟩ (m_worthOf l D cs m0 mp mw mh mo m5 m6 m7 mk mn mq m8 m9 mz mb md ms C P mpn mrs sS rc rp ic (by omega) (by omega) (by omega) (by omega) (by omega) (by omega) (by omega) (by omega) (by omega) x_value x_digits x_all x_kind x_last x_steps x_isRound x_tablesDone x_hash fmo fm7 fmq 0 pe (by omega)) (cwV 2 hg (gw_V kw_355 kw_356 kw_357 kw_319 kw_354) rfl rfl rfl (by decide +kernel) ⟨(Nat.le_of_ble_eq_true rfl), (Nat.le_of_ble_eq_true rfl)⟩) (pr_SV (q := (RX12, TX12, 33)) 12 0 hK hPc rfl rfl) rfl rfl hl.1 rfl (lv_room (Nat.le_of_ble_eq_true rfl)) dX12_truthRests_19 ⟨(Nat.le_of_ble_eq_true rfl), (Nat.le_of_ble_eq_true rfl)⟩) (fun r_19 h_19 => ?_)
          clear h_19
          refine lv_lstore_n (lv' := [(3, .long r_19), (0, .ref m0), (1, .int u1_4), (2, .int (nI pe))]) hx hb dX12_truthRests_22 rfl hl (by decide) rfl (fun ls hl => ?_)
          refine lv_iconst (v := 1) hx hb dX12_truthRests_23 (by decide) ?_
          refine lv_istore (lv' := [(5, .int 1), (3, .long r_19), (0, .ref m0), (1, .int u1_4), (2, .int (nI pe))]) hx hb dX12_truthRests_24 hl (by decide) rfl (fun ls hl => ?_)
          have LOOP26 : ∀ (n26 : Nat) (u1_26 : Int32) (wy : Nat), wy ≤ 4 → u1_26 = 0 ∨ u1_26 = 1 → 4 - wy < n26 → ∀ (ls : Array Slot), lv_has ls 6 [(0, .ref m0), (1, .int u1_26), (2, .int (nI pe)), (3, .long r_19), (5, .int (nI wy))] → W p l e ({ frames := 3, cells := 0, slots := 0, locals := 76 } : Room) s m args below meth c s.heap [] 0 0 Q (F0 m 26 ls []) := by
            intro n26
            induction n26 with
            | zero =>
              intro u1_26 wy hwy hz_26 hn26 ls hl
              exact absurd hn26 (Nat.not_lt_zero _)
            | succ n26 ih26 =>
              intro u1_26 wy hwy hz_26 hn26 ls hl
              refine lv_iload hx hb dX12_truthRests_26 (lv_at hl 4 rfl) ?_
              refine lv_iconst (v := 4) hx hb dX12_truthRests_28 (by decide) ?_
              refine lv_icmp_ge (tgt := 65) hx hb dX12_truthRests_29 (by decide) (fun c_29 => ?_) (fun c_29 => ?_)
              · have n_29 : 4 ≤ wy := b_le_t (by omega) (by omega) c_29
                refine lv_iinc (v := (nI (pe + 1))) (lv' := [(2, .int (nI (pe + 1))), (0, .ref m0), (1, .int u1_26), (3, .long r_19), (5, .int (nI wy))]) hx hb dX12_truthRests_65 hl (k := 2) rfl (nI_add pe 1) (by decide) rfl (fun ls hl => ?_)
                refine lv_goto (tgt := 4) hx hb dX12_truthRests_68 (by decide) ?_
                exact ih4 u1_26 (pe + 1) (by omega) hz_26 (by omega) ls (lv_sub hl [1, 2, 0] rfl)
              · have n_29 : wy < 4 := b_le_f (by omega) (by omega) c_29
                refine lv_iload_n hx hb dX12_truthRests_32 rfl (lv_at hl 1 rfl) ?_
                refine lv_if_eq (tgt := 57) hx hb dX12_truthRests_33 (by decide) (fun c_33 => ?_) (fun c_33 => ?_)
                · refine lv_iconst (v := 0) hx hb dX12_truthRests_57 (by decide) ?_
                  refine lv_istore_n (lv' := [(1, .int 0), (0, .ref m0), (2, .int (nI pe)), (3, .long r_19), (5, .int (nI wy))]) hx hb dX12_truthRests_58 rfl hl (by decide) rfl (fun ls hl => ?_)
                  refine lv_iinc (v := (nI (wy + 1))) (lv' := [(5, .int (nI (wy + 1))), (1, .int 0), (0, .ref m0), (2, .int (nI pe)), (3, .long r_19)]) hx hb dX12_truthRests_59 hl (k := 4) rfl (nI_add wy 1) (by decide) rfl (fun ls hl => ?_)
                  refine lv_goto (tgt := 26) hx hb dX12_truthRests_62 (by decide) ?_
                  exact ih26 0 (wy + 1) (by omega) (Or.inl rfl) (by omega) ls (lv_sub hl [2, 1, 3, 4, 0] rfl)
                · refine lv_aload_n hx hb dX12_truthRests_36 rfl (lv_at hl 0 rfl) ?_
                  refine lv_iconst (v := 0) hx hb dX12_truthRests_37 (by decide) ?_
                  refine lv_iload_n hx hb dX12_truthRests_38 rfl (lv_at hl 2 rfl) ?_
                  refine lv_iload hx hb dX12_truthRests_39 (lv_at hl 4 rfl) ?_
                  refine vp_callSi (W.runS (As := [.int 0, .int (nI pe), .int (nI wy)]) (rest := [.ref m0]) ⟨hx, hb, hml, hown, hg⟩ (c_with l 0 pe wy P (by omega) (by omega) (by omega) (by omega)) (va_cwS 3 hg (gw_S kw_359 kw_360 kw_319 kw_358) rfl rfl rfl (by decide +kernel) ⟨(Nat.le_of_ble_eq_true rfl), (Nat.le_of_ble_eq_true rfl)⟩) pr_0 rfl rfl hl.1 rfl (lv_room (Nat.le_of_ble_eq_true rfl)) dX12_truthRests_41 ⟨(Nat.le_of_ble_eq_true rfl), (Nat.le_of_ble_eq_true rfl)⟩) (fun r_41 h_41 => ?_)
                  obtain ⟨k_41, rfl, hk_41⟩ := h_41
                  refine lv_iload_n hx hb dX12_truthRests_44 rfl (lv_at hl 2 rfl) ?_
                  have hPc := hP.sub (ws' := [(m0, .inr (12, [.ref mp, .int (nI ms), .int (nI C), .int (nI P), .ref mw, .ref mh, .ref mo, .int (nI sS), .int x_value, .int x_digits, .int (nI rc), .int (nI rp), .int (nI ic), .ref m5, .ref m6, .ref m7, .long x_all, .int (nI mpn), .ref mk, .ref mn, .int x_kind, .ref mq, .ref m8, .ref m9, .int x_last, .int x_steps, .int x_isRound, .int x_tablesDone, .ref mz, .int (nI mrs), .ref mb, .ref md, .long x_hash])), (mo, .inl (cs 0, 4, .inl fmo)), (m7, .inl (cs 1, 16, .inr (.inl fm7))), (mq, .inl (cs 0, 4, .inl fmq))]) [0, 1, 2, 3] rfl
                  refine vp_callSl (W.runV (As := [.int (nI k_41), .int (nI pe)]) (rest := []) ⟨hx, hb, hml, hown, hg⟩ (m_worthOf l D cs m0 mp mw mh mo m5 m6 m7 mk mn mq m8 m9 mz mb md ms C P mpn mrs sS rc rp ic (by omega) (by omega) (by omega) (by omega) (by omega) (by omega) (by omega) (by omega) (by omega) x_value x_digits x_all x_kind x_last x_steps x_isRound x_tablesDone x_hash fmo fm7 fmq (nI k_41) pe (by omega)) (cwV 2 hg (gw_V kw_355 kw_356 kw_357 kw_319 kw_354) rfl rfl rfl (by decide +kernel) ⟨(Nat.le_of_ble_eq_true rfl), (Nat.le_of_ble_eq_true rfl)⟩) (pr_SV (q := (RX12, TX12, 33)) 12 0 hK hPc rfl rfl) rfl rfl hl.1 rfl (lv_room (Nat.le_of_ble_eq_true rfl)) dX12_truthRests_45 ⟨(Nat.le_of_ble_eq_true rfl), (Nat.le_of_ble_eq_true rfl)⟩) (fun r_45 h_45 => ?_)
                  clear h_45
                  refine lv_lload_n hx hb dX12_truthRests_48 rfl (lv_at hl 3 rfl) ?_
                  refine W.lcmp hx hb dX12_truthRests_49 ?_
                  refine lv_topi (fun z_49 e_49 => ?_)
                  refine lv_if_gt (tgt := 57) hx hb dX12_truthRests_50 (by decide) (fun c_50 => ?_) (fun c_50 => ?_)
                  · refine lv_iconst (v := 0) hx hb dX12_truthRests_57 (by decide) ?_
                    refine lv_istore_n (lv' := [(1, .int 0), (0, .ref m0), (2, .int (nI pe)), (3, .long r_19), (5, .int (nI wy))]) hx hb dX12_truthRests_58 rfl hl (by decide) rfl (fun ls hl => ?_)
                    refine lv_iinc (v := (nI (wy + 1))) (lv' := [(5, .int (nI (wy + 1))), (1, .int 0), (0, .ref m0), (2, .int (nI pe)), (3, .long r_19)]) hx hb dX12_truthRests_59 hl (k := 4) rfl (nI_add wy 1) (by decide) rfl (fun ls hl => ?_)
                    refine lv_goto (tgt := 26) hx hb dX12_truthRests_62 (by decide) ?_
                    exact ih26 0 (wy + 1) (by omega) (Or.inl rfl) (by omega) ls (lv_sub hl [2, 1, 3, 4, 0] rfl)
                  · refine lv_iconst (v := 1) hx hb dX12_truthRests_53 (by decide) ?_
                    refine lv_goto (tgt := 58) hx hb dX12_truthRests_54 (by decide) ?_
                    refine lv_istore_n (lv' := [(1, .int 1), (0, .ref m0), (2, .int (nI pe)), (3, .long r_19), (5, .int (nI wy))]) hx hb dX12_truthRests_58 rfl hl (by decide) rfl (fun ls hl => ?_)
                    refine lv_iinc (v := (nI (wy + 1))) (lv' := [(5, .int (nI (wy + 1))), (1, .int 1), (0, .ref m0), (2, .int (nI pe)), (3, .long r_19)]) hx hb dX12_truthRests_59 hl (k := 4) rfl (nI_add wy 1) (by decide) rfl (fun ls hl => ?_)
                    refine lv_goto (tgt := 26) hx hb dX12_truthRests_62 (by decide) ?_
                    exact ih26 1 (wy + 1) (by omega) (Or.inr rfl) (by omega) ls (lv_sub hl [2, 1, 3, 4, 0] rfl)
          exact LOOP26 (4 - 1 + 1) u1_4 1 (by omega) hz_4 (Nat.lt_succ_self _) ls (lv_sub hl [2, 3, 4, 1, 0] rfl)
  exact LOOP4 (P - 0 + 1) 1 0 (by omega) (Or.inr rfl) (Nat.lt_succ_self _) ls (lv_sub hl [2, 1, 0] rfl)

theorem dX12_answerOf_0 : decode cX12_answerOf 0 = .ok (.aload_n 0, 1) := by decide +kernel
theorem dX12_answerOf_1 : decode cX12_answerOf 1 = .ok (.getfield 51, 3) := by decide +kernel
theorem dX12_answerOf_4 : decode cX12_answerOf 4 = .ok (.iload_n 1, 1) := by decide +kernel
theorem dX12_answerOf_5 : decode cX12_answerOf 5 = .ok (.iaload, 1) := by decide +kernel
theorem dX12_answerOf_6 : decode cX12_answerOf 6 = .ok (.istore_n 3, 1) := by decide +kernel
theorem dX12_answerOf_7 : decode cX12_answerOf 7 = .ok (.iconst 0, 1) := by decide +kernel
theorem dX12_answerOf_8 : decode cX12_answerOf 8 = .ok (.istore 4, 2) := by decide +kernel
theorem dX12_answerOf_10 : decode cX12_answerOf 10 = .ok (.iload 4, 2) := by decide +kernel
theorem dX12_answerOf_12 : decode cX12_answerOf 12 = .ok (.iload_n 2, 1) := by decide +kernel
theorem dX12_answerOf_13 : decode cX12_answerOf 13 = .ok (.if_icmp .ge 13, 3) := by decide +kernel
theorem dX12_answerOf_16 : decode cX12_answerOf 16 = .ok (.iload_n 3, 1) := by decide +kernel
theorem dX12_answerOf_17 : decode cX12_answerOf 17 = .ok (.iconst 3, 1) := by decide +kernel
theorem dX12_answerOf_18 : decode cX12_answerOf 18 = .ok (.idiv, 1) := by decide +kernel
theorem dX12_answerOf_19 : decode cX12_answerOf 19 = .ok (.istore_n 3, 1) := by decide +kernel
theorem dX12_answerOf_20 : decode cX12_answerOf 20 = .ok (.iinc 4 1, 3) := by decide +kernel
theorem dX12_answerOf_23 : decode cX12_answerOf 23 = .ok (.goto (-13), 3) := by decide +kernel
theorem dX12_answerOf_26 : decode cX12_answerOf 26 = .ok (.iload_n 3, 1) := by decide +kernel
theorem dX12_answerOf_27 : decode cX12_answerOf 27 = .ok (.iconst 3, 1) := by decide +kernel
theorem dX12_answerOf_28 : decode cX12_answerOf 28 = .ok (.irem, 1) := by decide +kernel
theorem dX12_answerOf_29 : decode cX12_answerOf 29 = .ok (.ireturn, 1) := by decide +kernel
theorem kw_387 : (.fieldLink RX12 51 "NobodyChecksModel" "rowAnswers" "[I" : Cond) ∈ gw_tbl := gw_in (by decide +kernel) (by decide +kernel)

set_option maxHeartbeats 4000000 in
set_option maxRecDepth 100000 in
theorem m_answerOf (l : Launch) (D : va_G) (cs : Nat → ClassId) (m0 : Nat) (mp : Nat) (mw : Nat) (mh : Nat) (mo : Nat) (m5 : Nat) (m6 : Nat) (m7 : Nat) (mk : Nat) (mn : Nat) (mq : Nat) (m8 : Nat) (m9 : Nat) (mz : Nat) (mb : Nat) (md : Nat) (ms : Nat) (C : Nat) (P : Nat) (mpn : Nat) (mrs : Nat) (sS : Nat) (rc : Nat) (rp : Nat) (ic : Nat) (hms : ms ≤ 90) (hC5 : C ≤ 5) (hP4 : P ≤ 4) (hmpn : mpn ≤ 8) (hmrs : mrs ≤ 24) (hsS : sS ≤ 4) (hrc : rc ≤ 5) (hrp : rp ≤ 4) (hic : ic ≤ 4) (x_value : Int32) (x_digits : Int32) (x_all : Int64) (x_kind : Int32) (x_last : Int32) (x_steps : Int32) (x_isRound : Int32) (x_tablesDone : Int32) (x_hash : Int64) (fmb : Nat → Int32) (rw_ : Nat) (hrw : rw_ < 24) (pe : Nat) (hpe : pe ≤ 4) : Met l yX12_answerOf (Cond.code yX12_answerOf cX12_answerOf 5 (some .int) :: gw_tbl) ({ frames := 0, cells := 0, slots := 0, locals := 0 }) (pc_S D cs [(m0, .inr (12, [.ref mp, .int (nI ms), .int (nI C), .int (nI P), .ref mw, .ref mh, .ref mo, .int (nI sS), .int x_value, .int x_digits, .int (nI rc), .int (nI rp), .int (nI ic), .ref m5, .ref m6, .ref m7, .long x_all, .int (nI mpn), .ref mk, .ref mn, .int x_kind, .ref mq, .ref m8, .ref m9, .int x_last, .int x_steps, .int x_isRound, .int x_tablesDone, .ref mz, .int (nI mrs), .ref mb, .ref md, .long x_hash])), (mb, .inl (cs 0, 24, .inl fmb))] [.ref m0, .int (nI rw_), .int (nI pe)]) (vp_Si (fun r => True)) 0 0 (fun _ => False) := by
  refine Met.ofW (cc := cX12_answerOf) (maxL := 5) (ret := (some .int)) (by decide) rfl ?_
  intro p e s m args below meth c s₁ B hml hv
  obtain ⟨hargs, hP, hK⟩ := hv
  have hx := B.exec
  have hb := B.bytes
  have hr := B.returns
  have hts := atoms_spec (ws := Cond.code yX12_answerOf cX12_answerOf 5 (some .int) :: gw_tbl) B.pre
  have hg := fun (w : Cond) (h : w ∈ gw_tbl) => hts w (List.mem_cons_of_mem _ h)
  have hown : s.vm.findClass RX12 = some m.cls := findClass_of_methodNamed B.named
  have hlocks := B.notSynchronized
  have hl := lv_entry ([.ref m0, .int (nI rw_), .int (nI pe)]) (n := 5) (Nat.le_of_ble_eq_true rfl)
  rw [show entryFrame m args 5 = F0 m 0 (lg_sl ([.ref m0, .int (nI rw_), .int (nI pe)]) ++ List.replicate (5 - (lg_sl ([.ref m0, .int (nI rw_), .int (nI pe)])).length) Slot.unset).toArray [] from by rw [hargs]; exact lg_entry_eq ..]
  generalize (lg_sl ([.ref m0, .int (nI rw_), .int (nI pe)]) ++ List.replicate (5 - (lg_sl ([.ref m0, .int (nI rw_), .int (nI pe)])).length) Slot.unset).toArray = ls at hl ⊢
  have hl : lv_has ls 5 [(0, .ref m0), (1, .int (nI rw_)), (2, .int (nI pe))] := hl
  refine W_genQ (fun Q hQ => ?_)
  have hlm := lim_le hP4
  have hlq := lim_pos P
  have hsg := sgn_le hP4
  refine lv_aload_n hx hb dX12_answerOf_0 rfl (lv_at hl 0 rfl) ?_
  refine va_get (D := D) (ci := 12) (v := .ref mb) (C := RX12) (T := TX12) (N := 33) hx hb hg gwX12 hown hK hP 0 rfl rfl 30 (by decide) (hg _ kw_387) (fun _ h9 => h9) rfl dX12_answerOf_1 ?_
  refine lv_iload_n hx hb dX12_answerOf_4 rfl (lv_at hl 1 rfl) ?_
  refine va_iald hx hb hK hP 1 0 rfl rfl (vp_in_nI (show rw_ < 24 by omega) (by decide)) dX12_answerOf_5 ?_
  refine lv_topi (fun z_5 e_5 => ?_)
  refine lv_istore_n (lv' := [(3, .int z_5), (0, .ref m0), (1, .int (nI rw_)), (2, .int (nI pe))]) hx hb dX12_answerOf_6 rfl hl (by decide) rfl (fun ls hl => ?_)
  refine lv_iconst (v := 0) hx hb dX12_answerOf_7 (by decide) ?_
  refine lv_istore (lv' := [(4, .int 0), (3, .int z_5), (0, .ref m0), (1, .int (nI rw_)), (2, .int (nI pe))]) hx hb dX12_answerOf_8 hl (by decide) rfl (fun ls hl => ?_)
  have LOOP10 : ∀ (n10 : Nat) (u3_10 : Int32) (k : Nat), k ≤ pe → pe - k < n10 → ∀ (ls : Array Slot), lv_has ls 5 [(0, .ref m0), (1, .int (nI rw_)), (2, .int (nI pe)), (3, .int u3_10), (4, .int (nI k))] → W p l e ({ frames := 0, cells := 0, slots := 0, locals := 0 } : Room) s m args below meth c s.heap [] 0 0 Q (F0 m 10 ls []) := by
    intro n10
    induction n10 with
    | zero =>
      intro u3_10 k hk hn10 ls hl
      exact absurd hn10 (Nat.not_lt_zero _)
    | succ n10 ih10 =>
      intro u3_10 k hk hn10 ls hl
      refine lv_iload hx hb dX12_answerOf_10 (lv_at hl 4 rfl) ?_
      refine lv_iload_n hx hb dX12_answerOf_12 rfl (lv_at hl 2 rfl) ?_
      refine lv_icmp_ge (tgt := 26) hx hb dX12_answerOf_13 (by decide) (fun c_13 => ?_) (fun c_13 => ?_)
      · have n_13 : pe ≤ k := b_le_t (by omega) (by omega) c_13
        refine lv_iload_n hx hb dX12_answerOf_26 rfl (lv_at hl 3 rfl) ?_
        refine lv_iconst (v := 3) hx hb dX12_answerOf_27 (by decide) ?_
        refine lv_irem hx hb dX12_answerOf_28 (by decide) ?_
        refine lv_topi (fun z_28 e_28 => ?_)
        refine W_sQ hQ ?_
        exact W.iret (v := z_28) hx hb hr (fun t ht hW => ⟨z_28, rfl, trivial, ht⟩) (fun _ h => absurd h List.not_mem_nil) dX12_answerOf_29
      · have n_13 : k < pe := b_le_f (by omega) (by omega) c_13
        refine lv_iload_n hx hb dX12_answerOf_16 rfl (lv_at hl 3 rfl) ?_
        refine lv_iconst (v := 3) hx hb dX12_answerOf_17 (by decide) ?_
        refine lv_idiv hx hb dX12_answerOf_18 (by decide) ?_
        refine lv_topi (fun z_18 e_18 => ?_)
        refine lv_istore_n (lv' := [(3, .int z_18), (0, .ref m0), (1, .int (nI rw_)), (2, .int (nI pe)), (4, .int (nI k))]) hx hb dX12_answerOf_19 rfl hl (by decide) rfl (fun ls hl => ?_)
        refine lv_iinc (v := (nI (k + 1))) (lv' := [(4, .int (nI (k + 1))), (3, .int z_18), (0, .ref m0), (1, .int (nI rw_)), (2, .int (nI pe))]) hx hb dX12_answerOf_20 hl (k := 4) rfl (nI_add k 1) (by decide) rfl (fun ls hl => ?_)
        refine lv_goto (tgt := 10) hx hb dX12_answerOf_23 (by decide) ?_
        exact ih10 z_18 (k + 1) (by omega) (by omega) ls (lv_sub hl [2, 3, 4, 1, 0] rfl)
  exact LOOP10 (pe - 0 + 1) z_5 0 (by omega) (Nat.lt_succ_self _) ls (lv_sub hl [2, 3, 4, 1, 0] rfl)

theorem dX12_bothAnswered_0 : decode cX12_bothAnswered 0 = .ok (.aload_n 0, 1) := by decide +kernel
theorem dX12_bothAnswered_1 : decode cX12_bothAnswered 1 = .ok (.iload_n 1, 1) := by decide +kernel
theorem dX12_bothAnswered_2 : decode cX12_bothAnswered 2 = .ok (.iload_n 2, 1) := by decide +kernel
theorem dX12_bothAnswered_3 : decode cX12_bothAnswered 3 = .ok (.invokevirtual 252, 3) := by decide +kernel
theorem dX12_bothAnswered_6 : decode cX12_bothAnswered 6 = .ok (.iconst 2, 1) := by decide +kernel
theorem dX12_bothAnswered_7 : decode cX12_bothAnswered 7 = .ok (.if_icmp .ge 17, 3) := by decide +kernel
theorem dX12_bothAnswered_10 : decode cX12_bothAnswered 10 = .ok (.aload_n 0, 1) := by decide +kernel
theorem dX12_bothAnswered_11 : decode cX12_bothAnswered 11 = .ok (.iload_n 1, 1) := by decide +kernel
theorem dX12_bothAnswered_12 : decode cX12_bothAnswered 12 = .ok (.iload_n 3, 1) := by decide +kernel
theorem dX12_bothAnswered_13 : decode cX12_bothAnswered 13 = .ok (.invokevirtual 252, 3) := by decide +kernel
theorem dX12_bothAnswered_16 : decode cX12_bothAnswered 16 = .ok (.iconst 2, 1) := by decide +kernel
theorem dX12_bothAnswered_17 : decode cX12_bothAnswered 17 = .ok (.if_icmp .ge 7, 3) := by decide +kernel
theorem dX12_bothAnswered_20 : decode cX12_bothAnswered 20 = .ok (.iconst 1, 1) := by decide +kernel
theorem dX12_bothAnswered_21 : decode cX12_bothAnswered 21 = .ok (.goto 4, 3) := by decide +kernel
theorem dX12_bothAnswered_24 : decode cX12_bothAnswered 24 = .ok (.iconst 0, 1) := by decide +kernel
theorem dX12_bothAnswered_25 : decode cX12_bothAnswered 25 = .ok (.ireturn, 1) := by decide +kernel
theorem kw_388 : (.code yX12_answerOf cX12_answerOf 5 (some .int) : Cond) ∈ gw_tbl := gw_in (by decide +kernel) (by decide +kernel)
theorem kw_389 : (.methodLink RX12 252 yX12_answerOf : Cond) ∈ gw_tbl := gw_in (by decide +kernel) (by decide +kernel)
theorem kw_390 : (.instanceMethod yX12_answerOf : Cond) ∈ gw_tbl := gw_in (by decide +kernel) (by decide +kernel)
theorem kw_391 : (.selects RX12 yX12_answerOf yX12_answerOf : Cond) ∈ gw_tbl := gw_in (by decide +kernel) (by decide +kernel)

set_option maxHeartbeats 4000000 in
set_option maxRecDepth 100000 in
theorem m_bothAnswered (l : Launch) (D : va_G) (cs : Nat → ClassId) (m0 : Nat) (mp : Nat) (mw : Nat) (mh : Nat) (mo : Nat) (m5 : Nat) (m6 : Nat) (m7 : Nat) (mk : Nat) (mn : Nat) (mq : Nat) (m8 : Nat) (m9 : Nat) (mz : Nat) (mb : Nat) (md : Nat) (ms : Nat) (C : Nat) (P : Nat) (mpn : Nat) (mrs : Nat) (sS : Nat) (rc : Nat) (rp : Nat) (ic : Nat) (hms : ms ≤ 90) (hC5 : C ≤ 5) (hP4 : P ≤ 4) (hmpn : mpn ≤ 8) (hmrs : mrs ≤ 24) (hsS : sS ≤ 4) (hrc : rc ≤ 5) (hrp : rp ≤ 4) (hic : ic ≤ 4) (x_value : Int32) (x_digits : Int32) (x_all : Int64) (x_kind : Int32) (x_last : Int32) (x_steps : Int32) (x_isRound : Int32) (x_tablesDone : Int32) (x_hash : Int64) (fmb : Nat → Int32) (rw_ : Nat) (hrw : rw_ < 24) (i_ : Nat) (j_ : Nat) (hi_ : i_ ≤ 4) (hj_ : j_ ≤ 4) : Met l yX12_bothAnswered (Cond.code yX12_bothAnswered cX12_bothAnswered 4 (some .boolean) :: gw_tbl) ({ frames := 1, cells := 0, slots := 0, locals := 24 }) (pc_S D cs [(m0, .inr (12, [.ref mp, .int (nI ms), .int (nI C), .int (nI P), .ref mw, .ref mh, .ref mo, .int (nI sS), .int x_value, .int x_digits, .int (nI rc), .int (nI rp), .int (nI ic), .ref m5, .ref m6, .ref m7, .long x_all, .int (nI mpn), .ref mk, .ref mn, .int x_kind, .ref mq, .ref m8, .ref m9, .int x_last, .int x_steps, .int x_isRound, .int x_tablesDone, .ref mz, .int (nI mrs), .ref mb, .ref md, .long x_hash])), (mb, .inl (cs 0, 24, .inl fmb))] [.ref m0, .int (nI rw_), .int (nI i_), .int (nI j_)]) (vp_Si (fun r => r = 0 ∨ r = 1)) 0 0 (fun _ => False) := by
  refine Met.ofW (cc := cX12_bothAnswered) (maxL := 4) (ret := (some .boolean)) (by decide) rfl ?_
  intro p e s m args below meth c s₁ B hml hv
  obtain ⟨hargs, hP, hK⟩ := hv
  have hx := B.exec
  have hb := B.bytes
  have hr := B.returns
  have hts := atoms_spec (ws := Cond.code yX12_bothAnswered cX12_bothAnswered 4 (some .boolean) :: gw_tbl) B.pre
  have hg := fun (w : Cond) (h : w ∈ gw_tbl) => hts w (List.mem_cons_of_mem _ h)
  have hown : s.vm.findClass RX12 = some m.cls := findClass_of_methodNamed B.named
  have hlocks := B.notSynchronized
  have hl := lv_entry ([.ref m0, .int (nI rw_), .int (nI i_), .int (nI j_)]) (n := 4) (Nat.le_of_ble_eq_true rfl)
  rw [show entryFrame m args 4 = F0 m 0 (lg_sl ([.ref m0, .int (nI rw_), .int (nI i_), .int (nI j_)]) ++ List.replicate (4 - (lg_sl ([.ref m0, .int (nI rw_), .int (nI i_), .int (nI j_)])).length) Slot.unset).toArray [] from by rw [hargs]; exact lg_entry_eq ..]
  generalize (lg_sl ([.ref m0, .int (nI rw_), .int (nI i_), .int (nI j_)]) ++ List.replicate (4 - (lg_sl ([.ref m0, .int (nI rw_), .int (nI i_), .int (nI j_)])).length) Slot.unset).toArray = ls at hl ⊢
  have hl : lv_has ls 4 [(0, .ref m0), (1, .int (nI rw_)), (2, .int (nI i_)), (3, .int (nI j_))] := hl
  refine W_genQ (fun Q hQ => ?_)
  have hlm := lim_le hP4
  have hlq := lim_pos P
  have hsg := sgn_le hP4
  refine lv_aload_n hx hb dX12_bothAnswered_0 rfl (lv_at hl 0 rfl) ?_
  refine lv_iload_n hx hb dX12_bothAnswered_1 rfl (lv_at hl 1 rfl) ?_
  refine lv_iload_n hx hb dX12_bothAnswered_2 rfl (lv_at hl 2 rfl) ?_
  have hPc := hP.sub (ws' := [(m0, .inr (12, [.ref mp, .int (nI ms), .int (nI C), .int (nI P), .ref mw, .ref mh, .ref mo, .int (nI sS), .int x_value, .int x_digits, .int (nI rc), .int (nI rp), .int (nI ic), .ref m5, .ref m6, .ref m7, .long x_all, .int (nI mpn), .ref mk, .ref mn, .int x_kind, .ref mq, .ref m8, .ref m9, .int x_last, .int x_steps, .int x_isRound, .int x_tablesDone, .ref mz, .int (nI mrs), .ref mb, .ref md, .long x_hash])), (mb, .inl (cs 0, 24, .inl fmb))]) [0, 1] rfl
  refine vp_callSi (W.runV (As := [.int (nI rw_), .int (nI i_)]) (rest := []) ⟨hx, hb, hml, hown, hg⟩ (m_answerOf l D cs m0 mp mw mh mo m5 m6 m7 mk mn mq m8 m9 mz mb md ms C P mpn mrs sS rc rp ic (by omega) (by omega) (by omega) (by omega) (by omega) (by omega) (by omega) (by omega) (by omega) x_value x_digits x_all x_kind x_last x_steps x_isRound x_tablesDone x_hash fmb rw_ (by omega) i_ (by omega)) (cwV 2 hg (gw_V kw_389 kw_390 kw_391 kw_319 kw_388) rfl rfl rfl (by decide +kernel) ⟨(Nat.le_of_ble_eq_true rfl), (Nat.le_of_ble_eq_true rfl)⟩) (pr_SV (q := (RX12, TX12, 33)) 12 0 hK hPc rfl rfl) rfl rfl hl.1 rfl (lv_room (Nat.le_of_ble_eq_true rfl)) dX12_bothAnswered_3 ⟨(Nat.le_of_ble_eq_true rfl), (Nat.le_of_ble_eq_true rfl)⟩) (fun r_3 h_3 => ?_)
  clear h_3
  refine lv_iconst (v := 2) hx hb dX12_bothAnswered_6 (by decide) ?_
  refine lv_icmp_ge (tgt := 24) hx hb dX12_bothAnswered_7 (by decide) (fun c_7 => ?_) (fun c_7 => ?_)
  · refine lv_iconst (v := 0) hx hb dX12_bothAnswered_24 (by decide) ?_
    refine W_sQ hQ ?_
    exact W.zret (v := 0) hx hb hr (by decide) (fun t ht hW => ⟨0, rfl, (Or.inl rfl), ht⟩) (fun _ h => absurd h List.not_mem_nil) dX12_bothAnswered_25
  · refine lv_aload_n hx hb dX12_bothAnswered_10 rfl (lv_at hl 0 rfl) ?_
    refine lv_iload_n hx hb dX12_bothAnswered_11 rfl (lv_at hl 1 rfl) ?_
    refine lv_iload_n hx hb dX12_bothAnswered_12 rfl (lv_at hl 3 rfl) ?_
    have hPc := hP.sub (ws' := [(m0, .inr (12, [.ref mp, .int (nI ms), .int (nI C), .int (nI P), .ref mw, .ref mh, .ref mo, .int (nI sS), .int x_value, .int x_digits, .int (nI rc), .int (nI rp), .int (nI ic), .ref m5, .ref m6, .ref m7, .long x_all, .int (nI mpn), .ref mk, .ref mn, .int x_kind, .ref mq, .ref m8, .ref m9, .int x_last, .int x_steps, .int x_isRound, .int x_tablesDone, .ref mz, .int (nI mrs), .ref mb, .ref md, .long x_hash])), (mb, .inl (cs 0, 24, .inl fmb))]) [0, 1] rfl
    refine vp_callSi (W.runV (As := [.int (nI rw_), .int (nI j_)]) (rest := []) ⟨hx, hb, hml, hown, hg⟩ (m_answerOf l D cs m0 mp mw mh mo m5 m6 m7 mk mn mq m8 m9 mz mb md ms C P mpn mrs sS rc rp ic (by omega) (by omega) (by omega) (by omega) (by omega) (by omega) (by omega) (by omega) (by omega) x_value x_digits x_all x_kind x_last x_steps x_isRound x_tablesDone x_hash fmb rw_ (by omega) j_ (by omega)) (cwV 2 hg (gw_V kw_389 kw_390 kw_391 kw_319 kw_388) rfl rfl rfl (by decide +kernel) ⟨(Nat.le_of_ble_eq_true rfl), (Nat.le_of_ble_eq_true rfl)⟩) (pr_SV (q := (RX12, TX12, 33)) 12 0 hK hPc rfl rfl) rfl rfl hl.1 rfl (lv_room (Nat.le_of_ble_eq_true rfl)) dX12_bothAnswered_13 ⟨(Nat.le_of_ble_eq_true rfl), (Nat.le_of_ble_eq_true rfl)⟩) (fun r_13 h_13 => ?_)
    clear h_13
    refine lv_iconst (v := 2) hx hb dX12_bothAnswered_16 (by decide) ?_
    refine lv_icmp_ge (tgt := 24) hx hb dX12_bothAnswered_17 (by decide) (fun c_17 => ?_) (fun c_17 => ?_)
    · refine lv_iconst (v := 0) hx hb dX12_bothAnswered_24 (by decide) ?_
      refine W_sQ hQ ?_
      exact W.zret (v := 0) hx hb hr (by decide) (fun t ht hW => ⟨0, rfl, (Or.inl rfl), ht⟩) (fun _ h => absurd h List.not_mem_nil) dX12_bothAnswered_25
    · refine lv_iconst (v := 1) hx hb dX12_bothAnswered_20 (by decide) ?_
      refine lv_goto (tgt := 25) hx hb dX12_bothAnswered_21 (by decide) ?_
      refine W_sQ hQ ?_
      exact W.zret (v := 1) hx hb hr (by decide) (fun t ht hW => ⟨1, rfl, (Or.inr rfl), ht⟩) (fun _ h => absurd h List.not_mem_nil) dX12_bothAnswered_25

theorem dX12_crowdOf_0 : decode cX12_crowdOf 0 = .ok (.iconst 0, 1) := by decide +kernel
theorem dX12_crowdOf_1 : decode cX12_crowdOf 1 = .ok (.istore_n 3, 1) := by decide +kernel
theorem dX12_crowdOf_2 : decode cX12_crowdOf 2 = .ok (.iconst 0, 1) := by decide +kernel
theorem dX12_crowdOf_3 : decode cX12_crowdOf 3 = .ok (.istore 4, 2) := by decide +kernel
theorem dX12_crowdOf_5 : decode cX12_crowdOf 5 = .ok (.iconst 0, 1) := by decide +kernel
theorem dX12_crowdOf_6 : decode cX12_crowdOf 6 = .ok (.istore 5, 2) := by decide +kernel
theorem dX12_crowdOf_8 : decode cX12_crowdOf 8 = .ok (.aload_n 0, 1) := by decide +kernel
theorem dX12_crowdOf_9 : decode cX12_crowdOf 9 = .ok (.getfield 54, 3) := by decide +kernel
theorem dX12_crowdOf_12 : decode cX12_crowdOf 12 = .ok (.iload_n 1, 1) := by decide +kernel
theorem dX12_crowdOf_13 : decode cX12_crowdOf 13 = .ok (.laload, 1) := by decide +kernel
theorem dX12_crowdOf_14 : decode cX12_crowdOf 14 = .ok (.lstore 6, 2) := by decide +kernel
theorem dX12_crowdOf_16 : decode cX12_crowdOf 16 = .ok (.iconst 0, 1) := by decide +kernel
theorem dX12_crowdOf_17 : decode cX12_crowdOf 17 = .ok (.istore 8, 2) := by decide +kernel
theorem dX12_crowdOf_19 : decode cX12_crowdOf 19 = .ok (.iload 8, 2) := by decide +kernel
theorem dX12_crowdOf_21 : decode cX12_crowdOf 21 = .ok (.aload_n 0, 1) := by decide +kernel
theorem dX12_crowdOf_22 : decode cX12_crowdOf 22 = .ok (.getfield 57, 3) := by decide +kernel
theorem dX12_crowdOf_25 : decode cX12_crowdOf 25 = .ok (.if_icmp .ge 78, 3) := by decide +kernel
theorem dX12_crowdOf_28 : decode cX12_crowdOf 28 = .ok (.aload_n 0, 1) := by decide +kernel
theorem dX12_crowdOf_29 : decode cX12_crowdOf 29 = .ok (.iload_n 1, 1) := by decide +kernel
theorem dX12_crowdOf_30 : decode cX12_crowdOf 30 = .ok (.iload 8, 2) := by decide +kernel
theorem dX12_crowdOf_32 : decode cX12_crowdOf 32 = .ok (.invokevirtual 252, 3) := by decide +kernel
theorem dX12_crowdOf_35 : decode cX12_crowdOf 35 = .ok (.istore 9, 2) := by decide +kernel
theorem dX12_crowdOf_37 : decode cX12_crowdOf 37 = .ok (.iload_n 3, 1) := by decide +kernel
theorem dX12_crowdOf_38 : decode cX12_crowdOf 38 = .ok (.iload 9, 2) := by decide +kernel
theorem dX12_crowdOf_40 : decode cX12_crowdOf 40 = .ok (.iconst 1, 1) := by decide +kernel
theorem dX12_crowdOf_41 : decode cX12_crowdOf 41 = .ok (.if_icmp .ne 7, 3) := by decide +kernel
theorem dX12_crowdOf_44 : decode cX12_crowdOf 44 = .ok (.iconst 1, 1) := by decide +kernel
theorem dX12_crowdOf_45 : decode cX12_crowdOf 45 = .ok (.goto 4, 3) := by decide +kernel
theorem dX12_crowdOf_48 : decode cX12_crowdOf 48 = .ok (.iconst 0, 1) := by decide +kernel
theorem dX12_crowdOf_49 : decode cX12_crowdOf 49 = .ok (.iadd, 1) := by decide +kernel
theorem dX12_crowdOf_50 : decode cX12_crowdOf 50 = .ok (.istore_n 3, 1) := by decide +kernel
theorem dX12_crowdOf_51 : decode cX12_crowdOf 51 = .ok (.iload 4, 2) := by decide +kernel
theorem dX12_crowdOf_53 : decode cX12_crowdOf 53 = .ok (.iload 9, 2) := by decide +kernel
theorem dX12_crowdOf_55 : decode cX12_crowdOf 55 = .ok (.iconst 2, 1) := by decide +kernel
theorem dX12_crowdOf_56 : decode cX12_crowdOf 56 = .ok (.if_icmp .ge 7, 3) := by decide +kernel
theorem dX12_crowdOf_59 : decode cX12_crowdOf 59 = .ok (.iconst 1, 1) := by decide +kernel
theorem dX12_crowdOf_60 : decode cX12_crowdOf 60 = .ok (.goto 4, 3) := by decide +kernel
theorem dX12_crowdOf_63 : decode cX12_crowdOf 63 = .ok (.iconst 0, 1) := by decide +kernel
theorem dX12_crowdOf_64 : decode cX12_crowdOf 64 = .ok (.iadd, 1) := by decide +kernel
theorem dX12_crowdOf_65 : decode cX12_crowdOf 65 = .ok (.istore 4, 2) := by decide +kernel
theorem dX12_crowdOf_67 : decode cX12_crowdOf 67 = .ok (.iload 5, 2) := by decide +kernel
theorem dX12_crowdOf_69 : decode cX12_crowdOf 69 = .ok (.iload 9, 2) := by decide +kernel
theorem dX12_crowdOf_71 : decode cX12_crowdOf 71 = .ok (.iconst 2, 1) := by decide +kernel
theorem dX12_crowdOf_72 : decode cX12_crowdOf 72 = .ok (.if_icmp .ge 13, 3) := by decide +kernel
theorem dX12_crowdOf_75 : decode cX12_crowdOf 75 = .ok (.lload 6, 2) := by decide +kernel
theorem dX12_crowdOf_77 : decode cX12_crowdOf 77 = .ok (.ldc2_w 250, 3) := by decide +kernel
theorem dX12_crowdOf_80 : decode cX12_crowdOf 80 = .ok (.lrem, 1) := by decide +kernel
theorem dX12_crowdOf_81 : decode cX12_crowdOf 81 = .ok (.l2i, 1) := by decide +kernel
theorem dX12_crowdOf_82 : decode cX12_crowdOf 82 = .ok (.goto 4, 3) := by decide +kernel
theorem dX12_crowdOf_85 : decode cX12_crowdOf 85 = .ok (.iconst 0, 1) := by decide +kernel
theorem dX12_crowdOf_86 : decode cX12_crowdOf 86 = .ok (.iadd, 1) := by decide +kernel
theorem dX12_crowdOf_87 : decode cX12_crowdOf 87 = .ok (.istore 5, 2) := by decide +kernel
theorem dX12_crowdOf_89 : decode cX12_crowdOf 89 = .ok (.lload 6, 2) := by decide +kernel
theorem dX12_crowdOf_91 : decode cX12_crowdOf 91 = .ok (.ldc2_w 250, 3) := by decide +kernel
theorem dX12_crowdOf_94 : decode cX12_crowdOf 94 = .ok (.ldiv, 1) := by decide +kernel
theorem dX12_crowdOf_95 : decode cX12_crowdOf 95 = .ok (.lstore 6, 2) := by decide +kernel
theorem dX12_crowdOf_97 : decode cX12_crowdOf 97 = .ok (.iinc 8 1, 3) := by decide +kernel
theorem dX12_crowdOf_100 : decode cX12_crowdOf 100 = .ok (.goto (-81), 3) := by decide +kernel
theorem dX12_crowdOf_103 : decode cX12_crowdOf 103 = .ok (.iload_n 2, 1) := by decide +kernel
theorem dX12_crowdOf_104 : decode cX12_crowdOf 104 = .ok (.ifCond .ne 12, 3) := by decide +kernel
theorem dX12_crowdOf_107 : decode cX12_crowdOf 107 = .ok (.iconst 2, 1) := by decide +kernel
theorem dX12_crowdOf_108 : decode cX12_crowdOf 108 = .ok (.iload_n 3, 1) := by decide +kernel
theorem dX12_crowdOf_109 : decode cX12_crowdOf 109 = .ok (.imul, 1) := by decide +kernel
theorem dX12_crowdOf_110 : decode cX12_crowdOf 110 = .ok (.iload 4, 2) := by decide +kernel
theorem dX12_crowdOf_112 : decode cX12_crowdOf 112 = .ok (.isub, 1) := by decide +kernel
theorem dX12_crowdOf_113 : decode cX12_crowdOf 113 = .ok (.goto 10, 3) := by decide +kernel
theorem dX12_crowdOf_116 : decode cX12_crowdOf 116 = .ok (.bipush 100, 2) := by decide +kernel
theorem dX12_crowdOf_118 : decode cX12_crowdOf 118 = .ok (.iload_n 3, 1) := by decide +kernel
theorem dX12_crowdOf_119 : decode cX12_crowdOf 119 = .ok (.imul, 1) := by decide +kernel
theorem dX12_crowdOf_120 : decode cX12_crowdOf 120 = .ok (.iload 5, 2) := by decide +kernel
theorem dX12_crowdOf_122 : decode cX12_crowdOf 122 = .ok (.isub, 1) := by decide +kernel
theorem dX12_crowdOf_123 : decode cX12_crowdOf 123 = .ok (.istore 8, 2) := by decide +kernel
theorem dX12_crowdOf_125 : decode cX12_crowdOf 125 = .ok (.iload 8, 2) := by decide +kernel
theorem dX12_crowdOf_127 : decode cX12_crowdOf 127 = .ok (.ifCond .eq 21, 3) := by decide +kernel
theorem dX12_crowdOf_130 : decode cX12_crowdOf 130 = .ok (.iload_n 2, 1) := by decide +kernel
theorem dX12_crowdOf_131 : decode cX12_crowdOf 131 = .ok (.iconst 1, 1) := by decide +kernel
theorem dX12_crowdOf_132 : decode cX12_crowdOf 132 = .ok (.if_icmp .ne 20, 3) := by decide +kernel
theorem dX12_crowdOf_135 : decode cX12_crowdOf 135 = .ok (.aload_n 0, 1) := by decide +kernel
theorem dX12_crowdOf_136 : decode cX12_crowdOf 136 = .ok (.getfield 54, 3) := by decide +kernel
theorem dX12_crowdOf_139 : decode cX12_crowdOf 139 = .ok (.iload_n 1, 1) := by decide +kernel
theorem dX12_crowdOf_140 : decode cX12_crowdOf 140 = .ok (.laload, 1) := by decide +kernel
theorem dX12_crowdOf_141 : decode cX12_crowdOf 141 = .ok (.ldc2_w 131, 3) := by decide +kernel
theorem dX12_crowdOf_144 : decode cX12_crowdOf 144 = .ok (.lcmp, 1) := by decide +kernel
theorem dX12_crowdOf_145 : decode cX12_crowdOf 145 = .ok (.ifCond .ne 7, 3) := by decide +kernel
theorem dX12_crowdOf_148 : decode cX12_crowdOf 148 = .ok (.iconst 1, 1) := by decide +kernel
theorem dX12_crowdOf_149 : decode cX12_crowdOf 149 = .ok (.goto 4, 3) := by decide +kernel
theorem dX12_crowdOf_152 : decode cX12_crowdOf 152 = .ok (.iconst 0, 1) := by decide +kernel
theorem dX12_crowdOf_153 : decode cX12_crowdOf 153 = .ok (.istore 9, 2) := by decide +kernel
theorem dX12_crowdOf_155 : decode cX12_crowdOf 155 = .ok (.iload 9, 2) := by decide +kernel
theorem dX12_crowdOf_157 : decode cX12_crowdOf 157 = .ok (.ifCond .eq 7, 3) := by decide +kernel
theorem dX12_crowdOf_160 : decode cX12_crowdOf 160 = .ok (.iconst (-1), 1) := by decide +kernel
theorem dX12_crowdOf_161 : decode cX12_crowdOf 161 = .ok (.goto 13, 3) := by decide +kernel
theorem dX12_crowdOf_164 : decode cX12_crowdOf 164 = .ok (.iload 8, 2) := by decide +kernel
theorem dX12_crowdOf_166 : decode cX12_crowdOf 166 = .ok (.ifCond .le 7, 3) := by decide +kernel
theorem dX12_crowdOf_169 : decode cX12_crowdOf 169 = .ok (.iconst 1, 1) := by decide +kernel
theorem dX12_crowdOf_170 : decode cX12_crowdOf 170 = .ok (.goto 4, 3) := by decide +kernel
theorem dX12_crowdOf_173 : decode cX12_crowdOf 173 = .ok (.iconst 0, 1) := by decide +kernel
theorem dX12_crowdOf_174 : decode cX12_crowdOf 174 = .ok (.ireturn, 1) := by decide +kernel
theorem kw_392 : (.fieldLink RX12 54 "NobodyChecksModel" "rowGuesses" "[J" : Cond) ∈ gw_tbl := gw_in (by decide +kernel) (by decide +kernel)
theorem kw_393 : (.constantLong RX12 131 (-1) : Cond) ∈ gw_tbl := gw_in (by decide +kernel) (by decide +kernel)
theorem kw_394 : (.constantLong RX12 250 (101) : Cond) ∈ gw_tbl := gw_in (by decide +kernel) (by decide +kernel)

set_option maxHeartbeats 4000000 in
set_option maxRecDepth 100000 in
theorem m_crowdOf (l : Launch) (D : va_G) (cs : Nat → ClassId) (m0 : Nat) (mp : Nat) (mw : Nat) (mh : Nat) (mo : Nat) (m5 : Nat) (m6 : Nat) (m7 : Nat) (mk : Nat) (mn : Nat) (mq : Nat) (m8 : Nat) (m9 : Nat) (mz : Nat) (mb : Nat) (md : Nat) (ms : Nat) (C : Nat) (P : Nat) (mpn : Nat) (mrs : Nat) (sS : Nat) (rc : Nat) (rp : Nat) (ic : Nat) (hms : ms ≤ 90) (hC5 : C ≤ 5) (hP4 : P ≤ 4) (hmpn : mpn ≤ 8) (hmrs : mrs ≤ 24) (hsS : sS ≤ 4) (hrc : rc ≤ 5) (hrp : rp ≤ 4) (hic : ic ≤ 4) (x_value : Int32) (x_digits : Int32) (x_all : Int64) (x_kind : Int32) (x_last : Int32) (x_steps : Int32) (x_isRound : Int32) (x_tablesDone : Int32) (x_hash : Int64) (fmb : Nat → Int32) (fmd : Nat → Int64) (rw_ : Nat) (hrw : rw_ < 24) (p1 : Int32) : Met l yX12_crowdOf (Cond.code yX12_crowdOf cX12_crowdOf 10 (some .int) :: gw_tbl) ({ frames := 1, cells := 0, slots := 0, locals := 24 }) (pc_S D cs [(m0, .inr (12, [.ref mp, .int (nI ms), .int (nI C), .int (nI P), .ref mw, .ref mh, .ref mo, .int (nI sS), .int x_value, .int x_digits, .int (nI rc), .int (nI rp), .int (nI ic), .ref m5, .ref m6, .ref m7, .long x_all, .int (nI mpn), .ref mk, .ref mn, .int x_kind, .ref mq, .ref m8, .ref m9, .int x_last, .int x_steps, .int x_isRound, .int x_tablesDone, .ref mz, .int (nI mrs), .ref mb, .ref md, .long x_hash])), (mb, .inl (cs 0, 24, .inl fmb)), (md, .inl (cs 1, 24, .inr (.inl fmd)))] [.ref m0, .int (nI rw_), .int p1]) (vp_Si (fun r => True)) 0 0 (fun _ => False) := by
  refine Met.ofW (cc := cX12_crowdOf) (maxL := 10) (ret := (some .int)) (by decide) rfl ?_
  intro p e s m args below meth c s₁ B hml hv
  obtain ⟨hargs, hP, hK⟩ := hv
  have hx := B.exec
  have hb := B.bytes
  have hr := B.returns
  have hts := atoms_spec (ws := Cond.code yX12_crowdOf cX12_crowdOf 10 (some .int) :: gw_tbl) B.pre
  have hg := fun (w : Cond) (h : w ∈ gw_tbl) => hts w (List.mem_cons_of_mem _ h)
  have hown : s.vm.findClass RX12 = some m.cls := findClass_of_methodNamed B.named
  have hlocks := B.notSynchronized
  have hl := lv_entry ([.ref m0, .int (nI rw_), .int p1]) (n := 10) (Nat.le_of_ble_eq_true rfl)
  rw [show entryFrame m args 10 = F0 m 0 (lg_sl ([.ref m0, .int (nI rw_), .int p1]) ++ List.replicate (10 - (lg_sl ([.ref m0, .int (nI rw_), .int p1])).length) Slot.unset).toArray [] from by rw [hargs]; exact lg_entry_eq ..]
  generalize (lg_sl ([.ref m0, .int (nI rw_), .int p1]) ++ List.replicate (10 - (lg_sl ([.ref m0, .int (nI rw_), .int p1])).length) Slot.unset).toArray = ls at hl ⊢
  have hl : lv_has ls 10 [(0, .ref m0), (1, .int (nI rw_)), (2, .int p1)] := hl
  refine W_genQ (fun Q hQ => ?_)
  have hlm := lim_le hP4
  have hlq := lim_pos P
  have hsg := sgn_le hP4
  refine lv_iconst (v := 0) hx hb dX12_crowdOf_0 (by decide) ?_
  refine lv_istore_n (lv' := [(3, .int 0), (0, .ref m0), (1, .int (nI rw_)), (2, .int p1)]) hx hb dX12_crowdOf_1 rfl hl (by decide) rfl (fun ls hl => ?_)
  refine lv_iconst (v := 0) hx hb dX12_crowdOf_2 (by decide) ?_
  refine lv_istore (lv' := [(4, .int 0), (3, .int 0), (0, .ref m0), (1, .int (nI rw_)), (2, .int p1)]) hx hb dX12_crowdOf_3 hl (by decide) rfl (fun ls hl => ?_)
  refine lv_iconst (v := 0) hx hb dX12_crowdOf_5 (by decide) ?_
  refine lv_istore (lv' := [(5, .int 0), (4, .int 0), (3, .int 0), (0, .ref m0), (1, .int (nI rw_)), (2, .int p1)]) hx hb dX12_crowdOf_6 hl (by decide) rfl (fun ls hl => ?_)
  refine lv_aload_n hx hb dX12_crowdOf_8 rfl (lv_at hl 3 rfl) ?_
  refine va_get (D := D) (ci := 12) (v := .ref md) (C := RX12) (T := TX12) (N := 33) hx hb hg gwX12 hown hK hP 0 rfl rfl 31 (by decide) (hg _ kw_392) (fun _ h9 => h9) rfl dX12_crowdOf_9 ?_
  refine lv_iload_n hx hb dX12_crowdOf_12 rfl (lv_at hl 4 rfl) ?_
  refine va_lald hx hb hK hP 2 1 rfl rfl (vp_in_nI (show rw_ < 24 by omega) (by decide)) dX12_crowdOf_13 ?_
  refine lv_topl (fun z_13 e_13 => ?_)
  refine lv_lstore (lv' := [(6, .long z_13), (5, .int 0), (4, .int 0), (3, .int 0), (0, .ref m0), (1, .int (nI rw_)), (2, .int p1)]) hx hb dX12_crowdOf_14 hl (by decide) rfl (fun ls hl => ?_)
  refine lv_iconst (v := 0) hx hb dX12_crowdOf_16 (by decide) ?_
  refine lv_istore (lv' := [(8, .int 0), (6, .long z_13), (5, .int 0), (4, .int 0), (3, .int 0), (0, .ref m0), (1, .int (nI rw_)), (2, .int p1)]) hx hb dX12_crowdOf_17 hl (by decide) rfl (fun ls hl => ?_)
  have LOOP19 : ∀ (n19 : Nat) (u3_19 : Int32) (u4_19 : Int32) (u5_19 : Int32) (u6_19 : Int64) (k : Nat), k ≤ P → P - k < n19 → ∀ (ls : Array Slot), lv_has ls 10 [(0, .ref m0), (1, .int (nI rw_)), (2, .int p1), (3, .int u3_19), (4, .int u4_19), (5, .int u5_19), (6, .long u6_19), (8, .int (nI k))] → W p l e ({ frames := 1, cells := 0, slots := 0, locals := 24 } : Room) s m args below meth c s.heap [] 0 0 Q (F0 m 19 ls []) := by
    intro n19
    induction n19 with
    | zero =>
      intro u3_19 u4_19 u5_19 u6_19 k hk hn19 ls hl
      exact absurd hn19 (Nat.not_lt_zero _)
    | succ n19 ih19 =>
      intro u3_19 u4_19 u5_19 u6_19 k hk hn19 ls hl
      refine lv_iload hx hb dX12_crowdOf_19 (lv_at hl 7 rfl) ?_
      refine lv_aload_n hx hb dX12_crowdOf_21 rfl (lv_at hl 0 rfl) ?_
      refine va_get (D := D) (ci := 12) (v := .int (nI P)) (C := RX12) (T := TX12) (N := 33) hx hb hg gwX12 hown hK hP 0 rfl rfl 3 (by decide) (hg _ kw_315) (fun _ h9 => h9) rfl dX12_crowdOf_22 ?_
      refine lv_icmp_ge (tgt := 103) hx hb dX12_crowdOf_25 (by decide) (fun c_25 => ?_) (fun c_25 => ?_)
      · have n_25 : P ≤ k := b_le_t (by omega) (by omega) c_25
        refine lv_iload_n hx hb dX12_crowdOf_103 rfl (lv_at hl 2 rfl) ?_
        refine lv_if_ne (tgt := 116) hx hb dX12_crowdOf_104 (by decide) (fun c_104 => ?_) (fun c_104 => ?_)
        · refine lv_bipush (v := 100) hx hb dX12_crowdOf_116 (by decide) ?_
          refine lv_iload_n hx hb dX12_crowdOf_118 rfl (lv_at hl 3 rfl) ?_
          refine lv_imul hx hb dX12_crowdOf_119 ?_
          refine lv_topi (fun z_119 e_119 => ?_)
          refine lv_iload hx hb dX12_crowdOf_120 (lv_at hl 5 rfl) ?_
          refine lv_isub hx hb dX12_crowdOf_122 ?_
          refine lv_topi (fun z_122 e_122 => ?_)
          refine lv_istore (lv' := [(8, .int z_122), (0, .ref m0), (1, .int (nI rw_)), (2, .int p1), (3, .int u3_19), (4, .int u4_19), (5, .int u5_19), (6, .long u6_19)]) hx hb dX12_crowdOf_123 hl (by decide) rfl (fun ls hl => ?_)
          refine lv_iload hx hb dX12_crowdOf_125 (lv_at hl 0 rfl) ?_
          refine lv_if_eq (tgt := 148) hx hb dX12_crowdOf_127 (by decide) (fun c_127 => ?_) (fun c_127 => ?_)
          · refine lv_iconst (v := 1) hx hb dX12_crowdOf_148 (by decide) ?_
            refine lv_goto (tgt := 153) hx hb dX12_crowdOf_149 (by decide) ?_
            refine lv_istore (lv' := [(9, .int 1), (8, .int z_122), (0, .ref m0), (1, .int (nI rw_)), (2, .int p1), (3, .int u3_19), (4, .int u4_19), (5, .int u5_19), (6, .long u6_19)]) hx hb dX12_crowdOf_153 hl (by decide) rfl (fun ls hl => ?_)
            refine lv_iload hx hb dX12_crowdOf_155 (lv_at hl 0 rfl) ?_
            refine lv_if_eq (tgt := 164) hx hb dX12_crowdOf_157 (by decide) (fun c_157 => absurd c_157 (by decide)) (fun c_157 => ?_)
            refine lv_iconst (v := (-1)) hx hb dX12_crowdOf_160 (by decide) ?_
            refine lv_goto (tgt := 174) hx hb dX12_crowdOf_161 (by decide) ?_
            refine W_sQ hQ ?_
            exact W.iret (v := (-1)) hx hb hr (fun t ht hW => ⟨(-1), rfl, trivial, ht⟩) (fun _ h => absurd h List.not_mem_nil) dX12_crowdOf_174
          · refine lv_iload_n hx hb dX12_crowdOf_130 rfl (lv_at hl 3 rfl) ?_
            refine lv_iconst (v := 1) hx hb dX12_crowdOf_131 (by decide) ?_
            refine lv_icmp_ne (tgt := 152) hx hb dX12_crowdOf_132 (by decide) (fun c_132 => ?_) (fun c_132 => ?_)
            · refine lv_iconst (v := 0) hx hb dX12_crowdOf_152 (by decide) ?_
              refine lv_istore (lv' := [(9, .int 0), (8, .int z_122), (0, .ref m0), (1, .int (nI rw_)), (2, .int p1), (3, .int u3_19), (4, .int u4_19), (5, .int u5_19), (6, .long u6_19)]) hx hb dX12_crowdOf_153 hl (by decide) rfl (fun ls hl => ?_)
              refine lv_iload hx hb dX12_crowdOf_155 (lv_at hl 0 rfl) ?_
              refine lv_if_eq (tgt := 164) hx hb dX12_crowdOf_157 (by decide) (fun c_157 => ?_) (fun c_157 => absurd c_157 (by decide))
              refine lv_iload hx hb dX12_crowdOf_164 (lv_at hl 1 rfl) ?_
              refine lv_if_le (tgt := 173) hx hb dX12_crowdOf_166 (by decide) (fun c_166 => ?_) (fun c_166 => ?_)
              · refine lv_iconst (v := 0) hx hb dX12_crowdOf_173 (by decide) ?_
                refine W_sQ hQ ?_
                exact W.iret (v := 0) hx hb hr (fun t ht hW => ⟨0, rfl, trivial, ht⟩) (fun _ h => absurd h List.not_mem_nil) dX12_crowdOf_174
              · refine lv_iconst (v := 1) hx hb dX12_crowdOf_169 (by decide) ?_
                refine lv_goto (tgt := 174) hx hb dX12_crowdOf_170 (by decide) ?_
                refine W_sQ hQ ?_
                exact W.iret (v := 1) hx hb hr (fun t ht hW => ⟨1, rfl, trivial, ht⟩) (fun _ h => absurd h List.not_mem_nil) dX12_crowdOf_174
            · subst c_132
              refine lv_aload_n hx hb dX12_crowdOf_135 rfl (lv_at hl 1 rfl) ?_
              refine va_get (D := D) (ci := 12) (v := .ref md) (C := RX12) (T := TX12) (N := 33) hx hb hg gwX12 hown hK hP 0 rfl rfl 31 (by decide) (hg _ kw_392) (fun _ h9 => h9) rfl dX12_crowdOf_136 ?_
              refine lv_iload_n hx hb dX12_crowdOf_139 rfl (lv_at hl 2 rfl) ?_
              refine va_lald hx hb hK hP 2 1 rfl rfl (vp_in_nI (show rw_ < 24 by omega) (by decide)) dX12_crowdOf_140 ?_
              refine lv_topl (fun z_140 e_140 => ?_)
              refine lv_ldc2 hx hb hown (hg _ kw_393) dX12_crowdOf_141 ?_
              refine W.lcmp hx hb dX12_crowdOf_144 ?_
              refine lv_topi (fun z_144 e_144 => ?_)
              refine lv_if_ne (tgt := 152) hx hb dX12_crowdOf_145 (by decide) (fun c_145 => ?_) (fun c_145 => ?_)
              · refine lv_iconst (v := 0) hx hb dX12_crowdOf_152 (by decide) ?_
                refine lv_istore (lv' := [(9, .int 0), (8, .int z_122), (0, .ref m0), (1, .int (nI rw_)), (2, .int 1), (3, .int u3_19), (4, .int u4_19), (5, .int u5_19), (6, .long u6_19)]) hx hb dX12_crowdOf_153 hl (by decide) rfl (fun ls hl => ?_)
                refine lv_iload hx hb dX12_crowdOf_155 (lv_at hl 0 rfl) ?_
                refine lv_if_eq (tgt := 164) hx hb dX12_crowdOf_157 (by decide) (fun c_157 => ?_) (fun c_157 => absurd c_157 (by decide))
                refine lv_iload hx hb dX12_crowdOf_164 (lv_at hl 1 rfl) ?_
                refine lv_if_le (tgt := 173) hx hb dX12_crowdOf_166 (by decide) (fun c_166 => ?_) (fun c_166 => ?_)
                · refine lv_iconst (v := 0) hx hb dX12_crowdOf_173 (by decide) ?_
                  refine W_sQ hQ ?_
                  exact W.iret (v := 0) hx hb hr (fun t ht hW => ⟨0, rfl, trivial, ht⟩) (fun _ h => absurd h List.not_mem_nil) dX12_crowdOf_174
                · refine lv_iconst (v := 1) hx hb dX12_crowdOf_169 (by decide) ?_
                  refine lv_goto (tgt := 174) hx hb dX12_crowdOf_170 (by decide) ?_
                  refine W_sQ hQ ?_
                  exact W.iret (v := 1) hx hb hr (fun t ht hW => ⟨1, rfl, trivial, ht⟩) (fun _ h => absurd h List.not_mem_nil) dX12_crowdOf_174
              · refine lv_iconst (v := 1) hx hb dX12_crowdOf_148 (by decide) ?_
                refine lv_goto (tgt := 153) hx hb dX12_crowdOf_149 (by decide) ?_
                refine lv_istore (lv' := [(9, .int 1), (8, .int z_122), (0, .ref m0), (1, .int (nI rw_)), (2, .int 1), (3, .int u3_19), (4, .int u4_19), (5, .int u5_19), (6, .long u6_19)]) hx hb dX12_crowdOf_153 hl (by decide) rfl (fun ls hl => ?_)
                refine lv_iload hx hb dX12_crowdOf_155 (lv_at hl 0 rfl) ?_
                refine lv_if_eq (tgt := 164) hx hb dX12_crowdOf_157 (by decide) (fun c_157 => absurd c_157 (by decide)) (fun c_157 => ?_)
                refine lv_iconst (v := (-1)) hx hb dX12_crowdOf_160 (by decide) ?_
                refine lv_goto (tgt := 174) hx hb dX12_crowdOf_161 (by decide) ?_
                refine W_sQ hQ ?_
                exact W.iret (v := (-1)) hx hb hr (fun t ht hW => ⟨(-1), rfl, trivial, ht⟩) (fun _ h => absurd h List.not_mem_nil) dX12_crowdOf_174
        · subst c_104
          refine lv_iconst (v := 2) hx hb dX12_crowdOf_107 (by decide) ?_
          refine lv_iload_n hx hb dX12_crowdOf_108 rfl (lv_at hl 3 rfl) ?_
          refine lv_imul hx hb dX12_crowdOf_109 ?_
          refine lv_topi (fun z_109 e_109 => ?_)
          refine lv_iload hx hb dX12_crowdOf_110 (lv_at hl 4 rfl) ?_
          refine lv_isub hx hb dX12_crowdOf_112 ?_
          refine lv_topi (fun z_112 e_112 => ?_)
          refine lv_goto (tgt := 123) hx hb dX12_crowdOf_113 (by decide) ?_
          refine lv_istore (lv' := [(8, .int z_112), (0, .ref m0), (1, .int (nI rw_)), (2, .int 0), (3, .int u3_19), (4, .int u4_19), (5, .int u5_19), (6, .long u6_19)]) hx hb dX12_crowdOf_123 hl (by decide) rfl (fun ls hl => ?_)
          refine lv_iload hx hb dX12_crowdOf_125 (lv_at hl 0 rfl) ?_
          refine lv_if_eq (tgt := 148) hx hb dX12_crowdOf_127 (by decide) (fun c_127 => ?_) (fun c_127 => ?_)
          · refine lv_iconst (v := 1) hx hb dX12_crowdOf_148 (by decide) ?_
            refine lv_goto (tgt := 153) hx hb dX12_crowdOf_149 (by decide) ?_
            refine lv_istore (lv' := [(9, .int 1), (8, .int z_112), (0, .ref m0), (1, .int (nI rw_)), (2, .int 0), (3, .int u3_19), (4, .int u4_19), (5, .int u5_19), (6, .long u6_19)]) hx hb dX12_crowdOf_153 hl (by decide) rfl (fun ls hl => ?_)
            refine lv_iload hx hb dX12_crowdOf_155 (lv_at hl 0 rfl) ?_
            refine lv_if_eq (tgt := 164) hx hb dX12_crowdOf_157 (by decide) (fun c_157 => absurd c_157 (by decide)) (fun c_157 => ?_)
            refine lv_iconst (v := (-1)) hx hb dX12_crowdOf_160 (by decide) ?_
            refine lv_goto (tgt := 174) hx hb dX12_crowdOf_161 (by decide) ?_
            refine W_sQ hQ ?_
            exact W.iret (v := (-1)) hx hb hr (fun t ht hW => ⟨(-1), rfl, trivial, ht⟩) (fun _ h => absurd h List.not_mem_nil) dX12_crowdOf_174
          · refine lv_iload_n hx hb dX12_crowdOf_130 rfl (lv_at hl 3 rfl) ?_
            refine lv_iconst (v := 1) hx hb dX12_crowdOf_131 (by decide) ?_
            refine lv_icmp_ne (tgt := 152) hx hb dX12_crowdOf_132 (by decide) (fun c_132 => ?_) (fun c_132 => absurd c_132 (by decide))
            refine lv_iconst (v := 0) hx hb dX12_crowdOf_152 (by decide) ?_
            refine lv_istore (lv' := [(9, .int 0), (8, .int z_112), (0, .ref m0), (1, .int (nI rw_)), (2, .int 0), (3, .int u3_19), (4, .int u4_19), (5, .int u5_19), (6, .long u6_19)]) hx hb dX12_crowdOf_153 hl (by decide) rfl (fun ls hl => ?_)
            refine lv_iload hx hb dX12_crowdOf_155 (lv_at hl 0 rfl) ?_
            refine lv_if_eq (tgt := 164) hx hb dX12_crowdOf_157 (by decide) (fun c_157 => ?_) (fun c_157 => absurd c_157 (by decide))
            refine lv_iload hx hb dX12_crowdOf_164 (lv_at hl 1 rfl) ?_
            refine lv_if_le (tgt := 173) hx hb dX12_crowdOf_166 (by decide) (fun c_166 => ?_) (fun c_166 => ?_)
            · refine lv_iconst (v := 0) hx hb dX12_crowdOf_173 (by decide) ?_
              refine W_sQ hQ ?_
              exact W.iret (v := 0) hx hb hr (fun t ht hW => ⟨0, rfl, trivial, ht⟩) (fun _ h => absurd h List.not_mem_nil) dX12_crowdOf_174
            · refine lv_iconst (v := 1) hx hb dX12_crowdOf_169 (by decide) ?_
              refine lv_goto (tgt := 174) hx hb dX12_crowdOf_170 (by decide) ?_
              refine W_sQ hQ ?_
              exact W.iret (v := 1) hx hb hr (fun t ht hW => ⟨1, rfl, trivial, ht⟩) (fun _ h => absurd h List.not_mem_nil) dX12_crowdOf_174
      · have n_25 : k < P := b_le_f (by omega) (by omega) c_25
        refine lv_aload_n hx hb dX12_crowdOf_28 rfl (lv_at hl 0 rfl) ?_
        refine lv_iload_n hx hb dX12_crowdOf_29 rfl (lv_at hl 1 rfl) ?_
        refine lv_iload hx hb dX12_crowdOf_30 (lv_at hl 7 rfl) ?_
        have hPc := hP.sub (ws' := [(m0, .inr (12, [.ref mp, .int (nI ms), .int (nI C), .int (nI P), .ref mw, .ref mh, .ref mo, .int (nI sS), .int x_value, .int x_digits, .int (nI rc), .int (nI rp), .int (nI ic), .ref m5, .ref m6, .ref m7, .long x_all, .int (nI mpn), .ref mk, .ref mn, .int x_kind, .ref mq, .ref m8, .ref m9, .int x_last, .int x_steps, .int x_isRound, .int x_tablesDone, .ref mz, .int (nI mrs), .ref mb, .ref md, .long x_hash])), (mb, .inl (cs 0, 24, .inl fmb))]) [0, 1] rfl
        refine vp_callSi (W.runV (As := [.int (nI rw_), .int (nI k)]) (rest := []) ⟨hx, hb, hml, hown, hg⟩ (m_answerOf l D cs m0 mp mw mh mo m5 m6 m7 mk mn mq m8 m9 mz mb md ms C P mpn mrs sS rc rp ic (by omega) (by omega) (by omega) (by omega) (by omega) (by omega) (by omega) (by omega) (by omega) x_value x_digits x_all x_kind x_last x_steps x_isRound x_tablesDone x_hash fmb rw_ (by omega) k (by omega)) (cwV 2 hg (gw_V kw_389 kw_390 kw_391 kw_319 kw_388) rfl rfl rfl (by decide +kernel) ⟨(Nat.le_of_ble_eq_true rfl), (Nat.le_of_ble_eq_true rfl)⟩) (pr_SV (q := (RX12, TX12, 33)) 12 0 hK hPc rfl rfl) rfl rfl hl.1 rfl (lv_room (Nat.le_of_ble_eq_true rfl)) dX12_crowdOf_32 ⟨(Nat.le_of_ble_eq_true rfl), (Nat.le_of_ble_eq_true rfl)⟩) (fun r_32 h_32 => ?_)
        clear h_32
        refine lv_istore (lv' := [(9, .int r_32), (0, .ref m0), (1, .int (nI rw_)), (2, .int p1), (3, .int u3_19), (4, .int u4_19), (5, .int u5_19), (6, .long u6_19), (8, .int (nI k))]) hx hb dX12_crowdOf_35 hl (by decide) rfl (fun ls hl => ?_)
        refine lv_iload_n hx hb dX12_crowdOf_37 rfl (lv_at hl 4 rfl) ?_
        refine lv_iload hx hb dX12_crowdOf_38 (lv_at hl 0 rfl) ?_
        refine lv_iconst (v := 1) hx hb dX12_crowdOf_40 (by decide) ?_
        refine lv_icmp_ne (tgt := 48) hx hb dX12_crowdOf_41 (by decide) (fun c_41 => ?_) (fun c_41 => ?_)
        · refine lv_iconst (v := 0) hx hb dX12_crowdOf_48 (by decide) ?_
          refine lv_iadd hx hb dX12_crowdOf_49 ?_
          refine lv_topi (fun z_49 e_49 => ?_)
          refine lv_istore_n (lv' := [(3, .int z_49), (9, .int r_32), (0, .ref m0), (1, .int (nI rw_)), (2, .int p1), (4, .int u4_19), (5, .int u5_19), (6, .long u6_19), (8, .int (nI k))]) hx hb dX12_crowdOf_50 rfl hl (by decide) rfl (fun ls hl => ?_)
          refine lv_iload hx hb dX12_crowdOf_51 (lv_at hl 5 rfl) ?_
          refine lv_iload hx hb dX12_crowdOf_53 (lv_at hl 1 rfl) ?_
          refine lv_iconst (v := 2) hx hb dX12_crowdOf_55 (by decide) ?_
          refine lv_icmp_ge (tgt := 63) hx hb dX12_crowdOf_56 (by decide) (fun c_56 => ?_) (fun c_56 => ?_)
          · refine lv_iconst (v := 0) hx hb dX12_crowdOf_63 (by decide) ?_
            refine lv_iadd hx hb dX12_crowdOf_64 ?_
            refine lv_topi (fun z_64 e_64 => ?_)
            refine lv_istore (lv' := [(4, .int z_64), (3, .int z_49), (9, .int r_32), (0, .ref m0), (1, .int (nI rw_)), (2, .int p1), (5, .int u5_19), (6, .long u6_19), (8, .int (nI k))]) hx hb dX12_crowdOf_65 hl (by decide) rfl (fun ls hl => ?_)
            refine lv_iload hx hb dX12_crowdOf_67 (lv_at hl 6 rfl) ?_
            refine lv_iload hx hb dX12_crowdOf_69 (lv_at hl 2 rfl) ?_
            refine lv_iconst (v := 2) hx hb dX12_crowdOf_71 (by decide) ?_
            refine lv_icmp_ge (tgt := 85) hx hb dX12_crowdOf_72 (by decide) (fun c_72 => ?_) (fun c_72 => ?_)
            · refine lv_iconst (v := 0) hx hb dX12_crowdOf_85 (by decide) ?_
              refine lv_iadd hx hb dX12_crowdOf_86 ?_
              refine lv_topi (fun z_86 e_86 => ?_)
              refine lv_istore (lv' := [(5, .int z_86), (4, .int z_64), (3, .int z_49), (9, .int r_32), (0, .ref m0), (1, .int (nI rw_)), (2, .int p1), (6, .long u6_19), (8, .int (nI k))]) hx hb dX12_crowdOf_87 hl (by decide) rfl (fun ls hl => ?_)
              refine lv_lload hx hb dX12_crowdOf_89 (lv_at hl 7 rfl) ?_
              refine lv_ldc2 hx hb hown (hg _ kw_394) dX12_crowdOf_91 ?_
              refine lv_ldiv hx hb dX12_crowdOf_94 (by decide) ?_
              refine lv_topl (fun z_94 e_94 => ?_)
              refine lv_lstore (lv' := [(6, .long z_94), (5, .int z_86), (4, .int z_64), (3, .int z_49), (9, .int r_32), (0, .ref m0), (1, .int (nI rw_)), (2, .int p1), (8, .int (nI k))]) hx hb dX12_crowdOf_95 hl (by decide) rfl (fun ls hl => ?_)
              refine lv_iinc (v := (nI (k + 1))) (lv' := [(8, .int (nI (k + 1))), (6, .long z_94), (5, .int z_86), (4, .int z_64), (3, .int z_49), (9, .int r_32), (0, .ref m0), (1, .int (nI rw_)), (2, .int p1)]) hx hb dX12_crowdOf_97 hl (k := 8) rfl (nI_add k 1) (by decide) rfl (fun ls hl => ?_)
              refine lv_goto (tgt := 19) hx hb dX12_crowdOf_100 (by decide) ?_
              exact ih19 z_49 z_64 z_86 z_94 (k + 1) (by omega) (by omega) ls (lv_sub hl [6, 7, 8, 4, 3, 2, 1, 0] rfl)
            · refine lv_lload hx hb dX12_crowdOf_75 (lv_at hl 7 rfl) ?_
              refine lv_ldc2 hx hb hown (hg _ kw_394) dX12_crowdOf_77 ?_
              refine lv_lrem hx hb dX12_crowdOf_80 (by decide) ?_
              refine lv_topl (fun z_80 e_80 => ?_)
              refine lv_l2i hx hb dX12_crowdOf_81 rfl ?_
              refine lv_topi (fun z_81 e_81 => ?_)
              refine lv_goto (tgt := 86) hx hb dX12_crowdOf_82 (by decide) ?_
              refine lv_iadd hx hb dX12_crowdOf_86 ?_
              refine lv_topi (fun z_86 e_86 => ?_)
              refine lv_istore (lv' := [(5, .int z_86), (4, .int z_64), (3, .int z_49), (9, .int r_32), (0, .ref m0), (1, .int (nI rw_)), (2, .int p1), (6, .long u6_19), (8, .int (nI k))]) hx hb dX12_crowdOf_87 hl (by decide) rfl (fun ls hl => ?_)
              refine lv_lload hx hb dX12_crowdOf_89 (lv_at hl 7 rfl) ?_
              refine lv_ldc2 hx hb hown (hg _ kw_394) dX12_crowdOf_91 ?_
              refine lv_ldiv hx hb dX12_crowdOf_94 (by decide) ?_
              refine lv_topl (fun z_94 e_94 => ?_)
              refine lv_lstore (lv' := [(6, .long z_94), (5, .int z_86), (4, .int z_64), (3, .int z_49), (9, .int r_32), (0, .ref m0), (1, .int (nI rw_)), (2, .int p1), (8, .int (nI k))]) hx hb dX12_crowdOf_95 hl (by decide) rfl (fun ls hl => ?_)
              refine lv_iinc (v := (nI (k + 1))) (lv' := [(8, .int (nI (k + 1))), (6, .long z_94), (5, .int z_86), (4, .int z_64), (3, .int z_49), (9, .int r_32), (0, .ref m0), (1, .int (nI rw_)), (2, .int p1)]) hx hb dX12_crowdOf_97 hl (k := 8) rfl (nI_add k 1) (by decide) rfl (fun ls hl => ?_)
              refine lv_goto (tgt := 19) hx hb dX12_crowdOf_100 (by decide) ?_
              exact ih19 z_49 z_64 z_86 z_94 (k + 1) (by omega) (by omega) ls (lv_sub hl [6, 7, 8, 4, 3, 2, 1, 0] rfl)
          · refine lv_iconst (v := 1) hx hb dX12_crowdOf_59 (by decide) ?_
            refine lv_goto (tgt := 64) hx hb dX12_crowdOf_60 (by decide) ?_
            refine lv_iadd hx hb dX12_crowdOf_64 ?_
            refine lv_topi (fun z_64 e_64 => ?_)
            refine lv_istore (lv' := [(4, .int z_64), (3, .int z_49), (9, .int r_32), (0, .ref m0), (1, .int (nI rw_)), (2, .int p1), (5, .int u5_19), (6, .long u6_19), (8, .int (nI k))]) hx hb dX12_crowdOf_65 hl (by decide) rfl (fun ls hl => ?_)
            refine lv_iload hx hb dX12_crowdOf_67 (lv_at hl 6 rfl) ?_
            refine lv_iload hx hb dX12_crowdOf_69 (lv_at hl 2 rfl) ?_
            refine lv_iconst (v := 2) hx hb dX12_crowdOf_71 (by decide) ?_
            refine lv_icmp_ge (tgt := 85) hx hb dX12_crowdOf_72 (by decide) (fun c_72 => ?_) (fun c_72 => ?_)
            · refine lv_iconst (v := 0) hx hb dX12_crowdOf_85 (by decide) ?_
              refine lv_iadd hx hb dX12_crowdOf_86 ?_
              refine lv_topi (fun z_86 e_86 => ?_)
              refine lv_istore (lv' := [(5, .int z_86), (4, .int z_64), (3, .int z_49), (9, .int r_32), (0, .ref m0), (1, .int (nI rw_)), (2, .int p1), (6, .long u6_19), (8, .int (nI k))]) hx hb dX12_crowdOf_87 hl (by decide) rfl (fun ls hl => ?_)
              refine lv_lload hx hb dX12_crowdOf_89 (lv_at hl 7 rfl) ?_
              refine lv_ldc2 hx hb hown (hg _ kw_394) dX12_crowdOf_91 ?_
              refine lv_ldiv hx hb dX12_crowdOf_94 (by decide) ?_
              refine lv_topl (fun z_94 e_94 => ?_)
              refine lv_lstore (lv' := [(6, .long z_94), (5, .int z_86), (4, .int z_64), (3, .int z_49), (9, .int r_32), (0, .ref m0), (1, .int (nI rw_)), (2, .int p1), (8, .int (nI k))]) hx hb dX12_crowdOf_95 hl (by decide) rfl (fun ls hl => ?_)
              refine lv_iinc (v := (nI (k + 1))) (lv' := [(8, .int (nI (k + 1))), (6, .long z_94), (5, .int z_86), (4, .int z_64), (3, .int z_49), (9, .int r_32), (0, .ref m0), (1, .int (nI rw_)), (2, .int p1)]) hx hb dX12_crowdOf_97 hl (k := 8) rfl (nI_add k 1) (by decide) rfl (fun ls hl => ?_)
              refine lv_goto (tgt := 19) hx hb dX12_crowdOf_100 (by decide) ?_
              exact ih19 z_49 z_64 z_86 z_94 (k + 1) (by omega) (by omega) ls (lv_sub hl [6, 7, 8, 4, 3, 2, 1, 0] rfl)
            · refine lv_lload hx hb dX12_crowdOf_75 (lv_at hl 7 rfl) ?_
              refine lv_ldc2 hx hb hown (hg _ kw_394) dX12_crowdOf_77 ?_
              refine lv_lrem hx hb dX12_crowdOf_80 (by decide) ?_
              refine lv_topl (fun z_80 e_80 => ?_)
              refine lv_l2i hx hb dX12_crowdOf_81 rfl ?_
              refine lv_topi (fun z_81 e_81 => ?_)
              refine lv_goto (tgt := 86) hx hb dX12_crowdOf_82 (by decide) ?_
              refine lv_iadd hx hb dX12_crowdOf_86 ?_
              refine lv_topi (fun z_86 e_86 => ?_)
              refine lv_istore (lv' := [(5, .int z_86), (4, .int z_64), (3, .int z_49), (9, .int r_32), (0, .ref m0), (1, .int (nI rw_)), (2, .int p1), (6, .long u6_19), (8, .int (nI k))]) hx hb dX12_crowdOf_87 hl (by decide) rfl (fun ls hl => ?_)
              refine lv_lload hx hb dX12_crowdOf_89 (lv_at hl 7 rfl) ?_
              refine lv_ldc2 hx hb hown (hg _ kw_394) dX12_crowdOf_91 ?_
              refine lv_ldiv hx hb dX12_crowdOf_94 (by decide) ?_
              refine lv_topl (fun z_94 e_94 => ?_)
              refine lv_lstore (lv' := [(6, .long z_94), (5, .int z_86), (4, .int z_64), (3, .int z_49), (9, .int r_32), (0, .ref m0), (1, .int (nI rw_)), (2, .int p1), (8, .int (nI k))]) hx hb dX12_crowdOf_95 hl (by decide) rfl (fun ls hl => ?_)
              refine lv_iinc (v := (nI (k + 1))) (lv' := [(8, .int (nI (k + 1))), (6, .long z_94), (5, .int z_86), (4, .int z_64), (3, .int z_49), (9, .int r_32), (0, .ref m0), (1, .int (nI rw_)), (2, .int p1)]) hx hb dX12_crowdOf_97 hl (k := 8) rfl (nI_add k 1) (by decide) rfl (fun ls hl => ?_)
              refine lv_goto (tgt := 19) hx hb dX12_crowdOf_100 (by decide) ?_
              exact ih19 z_49 z_64 z_86 z_94 (k + 1) (by omega) (by omega) ls (lv_sub hl [6, 7, 8, 4, 3, 2, 1, 0] rfl)
        · refine lv_iconst (v := 1) hx hb dX12_crowdOf_44 (by decide) ?_
          refine lv_goto (tgt := 49) hx hb dX12_crowdOf_45 (by decide) ?_
          refine lv_iadd hx hb dX12_crowdOf_49 ?_
          refine lv_topi (fun z_49 e_49 => ?_)
          refine lv_istore_n (lv' := [(3, .int z_49), (9, .int r_32), (0, .ref m0), (1, .int (nI rw_)), (2, .int p1), (4, .int u4_19), (5, .int u5_19), (6, .long u6_19), (8, .int (nI k))]) hx hb dX12_crowdOf_50 rfl hl (by decide) rfl (fun ls hl => ?_)
          refine lv_iload hx hb dX12_crowdOf_51 (lv_at hl 5 rfl) ?_
          refine lv_iload hx hb dX12_crowdOf_53 (lv_at hl 1 rfl) ?_
          refine lv_iconst (v := 2) hx hb dX12_crowdOf_55 (by decide) ?_
          refine lv_icmp_ge (tgt := 63) hx hb dX12_crowdOf_56 (by decide) (fun c_56 => ?_) (fun c_56 => ?_)
          · refine lv_iconst (v := 0) hx hb dX12_crowdOf_63 (by decide) ?_
            refine lv_iadd hx hb dX12_crowdOf_64 ?_
            refine lv_topi (fun z_64 e_64 => ?_)
            refine lv_istore (lv' := [(4, .int z_64), (3, .int z_49), (9, .int r_32), (0, .ref m0), (1, .int (nI rw_)), (2, .int p1), (5, .int u5_19), (6, .long u6_19), (8, .int (nI k))]) hx hb dX12_crowdOf_65 hl (by decide) rfl (fun ls hl => ?_)
            refine lv_iload hx hb dX12_crowdOf_67 (lv_at hl 6 rfl) ?_
            refine lv_iload hx hb dX12_crowdOf_69 (lv_at hl 2 rfl) ?_
            refine lv_iconst (v := 2) hx hb dX12_crowdOf_71 (by decide) ?_
            refine lv_icmp_ge (tgt := 85) hx hb dX12_crowdOf_72 (by decide) (fun c_72 => ?_) (fun c_72 => ?_)
            · refine lv_iconst (v := 0) hx hb dX12_crowdOf_85 (by decide) ?_
              refine lv_iadd hx hb dX12_crowdOf_86 ?_
              refine lv_topi (fun z_86 e_86 => ?_)
              refine lv_istore (lv' := [(5, .int z_86), (4, .int z_64), (3, .int z_49), (9, .int r_32), (0, .ref m0), (1, .int (nI rw_)), (2, .int p1), (6, .long u6_19), (8, .int (nI k))]) hx hb dX12_crowdOf_87 hl (by decide) rfl (fun ls hl => ?_)
              refine lv_lload hx hb dX12_crowdOf_89 (lv_at hl 7 rfl) ?_
              refine lv_ldc2 hx hb hown (hg _ kw_394) dX12_crowdOf_91 ?_
              refine lv_ldiv hx hb dX12_crowdOf_94 (by decide) ?_
              refine lv_topl (fun z_94 e_94 => ?_)
              refine lv_lstore (lv' := [(6, .long z_94), (5, .int z_86), (4, .int z_64), (3, .int z_49), (9, .int r_32), (0, .ref m0), (1, .int (nI rw_)), (2, .int p1), (8, .int (nI k))]) hx hb dX12_crowdOf_95 hl (by decide) rfl (fun ls hl => ?_)
              refine lv_iinc (v := (nI (k + 1))) (lv' := [(8, .int (nI (k + 1))), (6, .long z_94), (5, .int z_86), (4, .int z_64), (3, .int z_49), (9, .int r_32), (0, .ref m0), (1, .int (nI rw_)), (2, .int p1)]) hx hb dX12_crowdOf_97 hl (k := 8) rfl (nI_add k 1) (by decide) rfl (fun ls hl => ?_)
              refine lv_goto (tgt := 19) hx hb dX12_crowdOf_100 (by decide) ?_
              exact ih19 z_49 z_64 z_86 z_94 (k + 1) (by omega) (by omega) ls (lv_sub hl [6, 7, 8, 4, 3, 2, 1, 0] rfl)
            · refine lv_lload hx hb dX12_crowdOf_75 (lv_at hl 7 rfl) ?_
              refine lv_ldc2 hx hb hown (hg _ kw_394) dX12_crowdOf_77 ?_
              refine lv_lrem hx hb dX12_crowdOf_80 (by decide) ?_
              refine lv_topl (fun z_80 e_80 => ?_)
              refine lv_l2i hx hb dX12_crowdOf_81 rfl ?_
              refine lv_topi (fun z_81 e_81 => ?_)
              refine lv_goto (tgt := 86) hx hb dX12_crowdOf_82 (by decide) ?_
              refine lv_iadd hx hb dX12_crowdOf_86 ?_
              refine lv_topi (fun z_86 e_86 => ?_)
              refine lv_istore (lv' := [(5, .int z_86), (4, .int z_64), (3, .int z_49), (9, .int r_32), (0, .ref m0), (1, .int (nI rw_)), (2, .int p1), (6, .long u6_19), (8, .int (nI k))]) hx hb dX12_crowdOf_87 hl (by decide) rfl (fun ls hl => ?_)
              refine lv_lload hx hb dX12_crowdOf_89 (lv_at hl 7 rfl) ?_
              refine lv_ldc2 hx hb hown (hg _ kw_394) dX12_crowdOf_91 ?_
              refine lv_ldiv hx hb dX12_crowdOf_94 (by decide) ?_
              refine lv_topl (fun z_94 e_94 => ?_)
              refine lv_lstore (lv' := [(6, .long z_94), (5, .int z_86), (4, .int z_64), (3, .int z_49), (9, .int r_32), (0, .ref m0), (1, .int (nI rw_)), (2, .int p1), (8, .int (nI k))]) hx hb dX12_crowdOf_95 hl (by decide) rfl (fun ls hl => ?_)
              refine lv_iinc (v := (nI (k + 1))) (lv' := [(8, .int (nI (k + 1))), (6, .long z_94), (5, .int z_86), (4, .int z_64), (3, .int z_49), (9, .int r_32), (0, .ref m0), (1, .int (nI rw_)), (2, .int p1)]) hx hb dX12_crowdOf_97 hl (k := 8) rfl (nI_add k 1) (by decide) rfl (fun ls hl => ?_)
              refine lv_goto (tgt := 19) hx hb dX12_crowdOf_100 (by decide) ?_
              exact ih19 z_49 z_64 z_86 z_94 (k + 1) (by omega) (by omega) ls (lv_sub hl [6, 7, 8, 4, 3, 2, 1, 0] rfl)
          · refine lv_iconst (v := 1) hx hb dX12_crowdOf_59 (by decide) ?_
            refine lv_goto (tgt := 64) hx hb dX12_crowdOf_60 (by decide) ?_
            refine lv_iadd hx hb dX12_crowdOf_64 ?_
            refine lv_topi (fun z_64 e_64 => ?_)
            refine lv_istore (lv' := [(4, .int z_64), (3, .int z_49), (9, .int r_32), (0, .ref m0), (1, .int (nI rw_)), (2, .int p1), (5, .int u5_19), (6, .long u6_19), (8, .int (nI k))]) hx hb dX12_crowdOf_65 hl (by decide) rfl (fun ls hl => ?_)
            refine lv_iload hx hb dX12_crowdOf_67 (lv_at hl 6 rfl) ?_
            refine lv_iload hx hb dX12_crowdOf_69 (lv_at hl 2 rfl) ?_
            refine lv_iconst (v := 2) hx hb dX12_crowdOf_71 (by decide) ?_
            refine lv_icmp_ge (tgt := 85) hx hb dX12_crowdOf_72 (by decide) (fun c_72 => ?_) (fun c_72 => ?_)
            · refine lv_iconst (v := 0) hx hb dX12_crowdOf_85 (by decide) ?_
              refine lv_iadd hx hb dX12_crowdOf_86 ?_
              refine lv_topi (fun z_86 e_86 => ?_)
              refine lv_istore (lv' := [(5, .int z_86), (4, .int z_64), (3, .int z_49), (9, .int r_32), (0, .ref m0), (1, .int (nI rw_)), (2, .int p1), (6, .long u6_19), (8, .int (nI k))]) hx hb dX12_crowdOf_87 hl (by decide) rfl (fun ls hl => ?_)
              refine lv_lload hx hb dX12_crowdOf_89 (lv_at hl 7 rfl) ?_
              refine lv_ldc2 hx hb hown (hg _ kw_394) dX12_crowdOf_91 ?_
              refine lv_ldiv hx hb dX12_crowdOf_94 (by decide) ?_
              refine lv_topl (fun z_94 e_94 => ?_)
              refine lv_lstore (lv' := [(6, .long z_94), (5, .int z_86), (4, .int z_64), (3, .int z_49), (9, .int r_32), (0, .ref m0), (1, .int (nI rw_)), (2, .int p1), (8, .int (nI k))]) hx hb dX12_crowdOf_95 hl (by decide) rfl (fun ls hl => ?_)
              refine lv_iinc (v := (nI (k + 1))) (lv' := [(8, .int (nI (k + 1))), (6, .long z_94), (5, .int z_86), (4, .int z_64), (3, .int z_49), (9, .int r_32), (0, .ref m0), (1, .int (nI rw_)), (2, .int p1)]) hx hb dX12_crowdOf_97 hl (k := 8) rfl (nI_add k 1) (by decide) rfl (fun ls hl => ?_)
              refine lv_goto (tgt := 19) hx hb dX12_crowdOf_100 (by decide) ?_
              exact ih19 z_49 z_64 z_86 z_94 (k + 1) (by omega) (by omega) ls (lv_sub hl [6, 7, 8, 4, 3, 2, 1, 0] rfl)
            · refine lv_lload hx hb dX12_crowdOf_75 (lv_at hl 7 rfl) ?_
              refine lv_ldc2 hx hb hown (hg _ kw_394) dX12_crowdOf_77 ?_
              refine lv_lrem hx hb dX12_crowdOf_80 (by decide) ?_
              refine lv_topl (fun z_80 e_80 => ?_)
              refine lv_l2i hx hb dX12_crowdOf_81 rfl ?_
              refine lv_topi (fun z_81 e_81 => ?_)
              refine lv_goto (tgt := 86) hx hb dX12_crowdOf_82 (by decide) ?_
              refine lv_iadd hx hb dX12_crowdOf_86 ?_
              refine lv_topi (fun z_86 e_86 => ?_)
              refine lv_istore (lv' := [(5, .int z_86), (4, .int z_64), (3, .int z_49), (9, .int r_32), (0, .ref m0), (1, .int (nI rw_)), (2, .int p1), (6, .long u6_19), (8, .int (nI k))]) hx hb dX12_crowdOf_87 hl (by decide) rfl (fun ls hl => ?_)
              refine lv_lload hx hb dX12_crowdOf_89 (lv_at hl 7 rfl) ?_
              refine lv_ldc2 hx hb hown (hg _ kw_394) dX12_crowdOf_91 ?_
              refine lv_ldiv hx hb dX12_crowdOf_94 (by decide) ?_
              refine lv_topl (fun z_94 e_94 => ?_)
              refine lv_lstore (lv' := [(6, .long z_94), (5, .int z_86), (4, .int z_64), (3, .int z_49), (9, .int r_32), (0, .ref m0), (1, .int (nI rw_)), (2, .int p1), (8, .int (nI k))]) hx hb dX12_crowdOf_95 hl (by decide) rfl (fun ls hl => ?_)
              refine lv_iinc (v := (nI (k + 1))) (lv' := [(8, .int (nI (k + 1))), (6, .long z_94), (5, .int z_86), (4, .int z_64), (3, .int z_49), (9, .int r_32), (0, .ref m0), (1, .int (nI rw_)), (2, .int p1)]) hx hb dX12_crowdOf_97 hl (k := 8) rfl (nI_add k 1) (by decide) rfl (fun ls hl => ?_)
              refine lv_goto (tgt := 19) hx hb dX12_crowdOf_100 (by decide) ?_
              exact ih19 z_49 z_64 z_86 z_94 (k + 1) (by omega) (by omega) ls (lv_sub hl [6, 7, 8, 4, 3, 2, 1, 0] rfl)
  exact LOOP19 (P - 0 + 1) 0 0 0 z_13 0 (by omega) (Nat.lt_succ_self _) ls (lv_sub hl [5, 6, 7, 4, 3, 2, 1, 0] rfl)

theorem dX12_countOf_0 : decode cX12_countOf 0 = .ok (.iload_n 1, 1) := by decide +kernel
theorem dX12_countOf_1 : decode cX12_countOf 1 = .ok (.tableswitch 69 0 5 #[39, 44, 49, 54, 59, 64], 39) := by decide +kernel
theorem dX12_countOf_40 : decode cX12_countOf 40 = .ok (.aload_n 0, 1) := by decide +kernel
theorem dX12_countOf_41 : decode cX12_countOf 41 = .ok (.getfield 103, 3) := by decide +kernel
theorem dX12_countOf_44 : decode cX12_countOf 44 = .ok (.ireturn, 1) := by decide +kernel
theorem dX12_countOf_45 : decode cX12_countOf 45 = .ok (.aload_n 0, 1) := by decide +kernel
theorem dX12_countOf_46 : decode cX12_countOf 46 = .ok (.getfield 57, 3) := by decide +kernel
theorem dX12_countOf_49 : decode cX12_countOf 49 = .ok (.ireturn, 1) := by decide +kernel
theorem dX12_countOf_50 : decode cX12_countOf 50 = .ok (.aload_n 0, 1) := by decide +kernel
theorem dX12_countOf_51 : decode cX12_countOf 51 = .ok (.getfield 139, 3) := by decide +kernel
theorem dX12_countOf_54 : decode cX12_countOf 54 = .ok (.ireturn, 1) := by decide +kernel
theorem dX12_countOf_55 : decode cX12_countOf 55 = .ok (.aload_n 0, 1) := by decide +kernel
theorem dX12_countOf_56 : decode cX12_countOf 56 = .ok (.getfield 106, 3) := by decide +kernel
theorem dX12_countOf_59 : decode cX12_countOf 59 = .ok (.ireturn, 1) := by decide +kernel
theorem dX12_countOf_60 : decode cX12_countOf 60 = .ok (.aload_n 0, 1) := by decide +kernel
theorem dX12_countOf_61 : decode cX12_countOf 61 = .ok (.getfield 63, 3) := by decide +kernel
theorem dX12_countOf_64 : decode cX12_countOf 64 = .ok (.ireturn, 1) := by decide +kernel
theorem dX12_countOf_65 : decode cX12_countOf 65 = .ok (.aload_n 0, 1) := by decide +kernel
theorem dX12_countOf_66 : decode cX12_countOf 66 = .ok (.getfield 241, 3) := by decide +kernel
theorem dX12_countOf_69 : decode cX12_countOf 69 = .ok (.ireturn, 1) := by decide +kernel
theorem dX12_countOf_70 : decode cX12_countOf 70 = .ok (.bipush (-102), 2) := by decide +kernel
theorem dX12_countOf_72 : decode cX12_countOf 72 = .ok (.ireturn, 1) := by decide +kernel
theorem kw_395 : (.fieldLink RX12 103 "NobodyChecksModel" "cases" "I" : Cond) ∈ gw_tbl := gw_in (by decide +kernel) (by decide +kernel)
theorem kw_396 : (.fieldLink RX12 106 "NobodyChecksModel" "rows" "I" : Cond) ∈ gw_tbl := gw_in (by decide +kernel) (by decide +kernel)
theorem kw_397 : (.fieldLink RX12 63 "NobodyChecksModel" "pageMany" "I" : Cond) ∈ gw_tbl := gw_in (by decide +kernel) (by decide +kernel)
theorem kw_398 : (.fieldLink RX12 241 "NobodyChecksModel" "tablesDone" "I" : Cond) ∈ gw_tbl := gw_in (by decide +kernel) (by decide +kernel)

set_option maxHeartbeats 4000000 in
set_option maxRecDepth 100000 in
theorem m_countOf (l : Launch) (D : va_G) (cs : Nat → ClassId) (m0 : Nat) (mp : Nat) (mw : Nat) (mh : Nat) (mo : Nat) (m5 : Nat) (m6 : Nat) (m7 : Nat) (mk : Nat) (mn : Nat) (mq : Nat) (m8 : Nat) (m9 : Nat) (mz : Nat) (mb : Nat) (md : Nat) (ms : Nat) (C : Nat) (P : Nat) (mpn : Nat) (mrs : Nat) (sS : Nat) (rc : Nat) (rp : Nat) (ic : Nat) (hms : ms ≤ 90) (hC5 : C ≤ 5) (hP4 : P ≤ 4) (hmpn : mpn ≤ 8) (hmrs : mrs ≤ 24) (hsS : sS ≤ 4) (hrc : rc ≤ 5) (hrp : rp ≤ 4) (hic : ic ≤ 4) (x_value : Int32) (x_digits : Int32) (x_all : Int64) (x_kind : Int32) (x_last : Int32) (x_steps : Int32) (x_isRound : Int32) (x_tablesDone : Int32) (x_hash : Int64) (p1 : Int32) : Met l yX12_countOf (Cond.code yX12_countOf cX12_countOf 2 (some .int) :: gw_tbl) ({ frames := 0, cells := 0, slots := 0, locals := 0 }) (pc_S D cs [(m0, .inr (12, [.ref mp, .int (nI ms), .int (nI C), .int (nI P), .ref mw, .ref mh, .ref mo, .int (nI sS), .int x_value, .int x_digits, .int (nI rc), .int (nI rp), .int (nI ic), .ref m5, .ref m6, .ref m7, .long x_all, .int (nI mpn), .ref mk, .ref mn, .int x_kind, .ref mq, .ref m8, .ref m9, .int x_last, .int x_steps, .int x_isRound, .int x_tablesDone, .ref mz, .int (nI mrs), .ref mb, .ref md, .long x_hash]))] [.ref m0, .int p1]) (vp_Si (fun r => True)) 0 0 (fun _ => False) := by
  refine Met.ofW (cc := cX12_countOf) (maxL := 2) (ret := (some .int)) (by decide) rfl ?_
  intro p e s m args below meth c s₁ B hml hv
  obtain ⟨hargs, hP, hK⟩ := hv
  have hx := B.exec
  have hb := B.bytes
  have hr := B.returns
  have hts := atoms_spec (ws := Cond.code yX12_countOf cX12_countOf 2 (some .int) :: gw_tbl) B.pre
  have hg := fun (w : Cond) (h : w ∈ gw_tbl) => hts w (List.mem_cons_of_mem _ h)
  have hown : s.vm.findClass RX12 = some m.cls := findClass_of_methodNamed B.named
  have hlocks := B.notSynchronized
  have hl := lv_entry ([.ref m0, .int p1]) (n := 2) (Nat.le_of_ble_eq_true rfl)
  rw [show entryFrame m args 2 = F0 m 0 (lg_sl ([.ref m0, .int p1]) ++ List.replicate (2 - (lg_sl ([.ref m0, .int p1])).length) Slot.unset).toArray [] from by rw [hargs]; exact lg_entry_eq ..]
  generalize (lg_sl ([.ref m0, .int p1]) ++ List.replicate (2 - (lg_sl ([.ref m0, .int p1])).length) Slot.unset).toArray = ls at hl ⊢
  have hl : lv_has ls 2 [(0, .ref m0), (1, .int p1)] := hl
  refine W_genQ (fun Q hQ => ?_)
  have hlm := lim_le hP4
  have hlq := lim_pos P
  have hsg := sgn_le hP4
  refine lv_iload_n hx hb dX12_countOf_0 rfl (lv_at hl 1 rfl) ?_
  by_cases t_1 : p1.toInt < 0 ∨ 5 < p1.toInt
  · refine lv_tableOut (tgt := 70) hx hb dX12_countOf_1 t_1 (by decide) ?_
    refine lv_bipush (v := (-102)) hx hb dX12_countOf_70 (by decide) ?_
    refine W_sQ hQ ?_
    exact W.iret (v := (-102)) hx hb hr (fun t ht hW => ⟨(-102), rfl, trivial, ht⟩) (fun _ h => absurd h List.not_mem_nil) dX12_countOf_72
  · rcases tw_0_5 t_1 with rfl | rfl | rfl | rfl | rfl | rfl
    · refine lv_tableIn (tgt := 40) hx hb dX12_countOf_1 (by decide) (by decide) rfl (by decide) ?_
      refine lv_aload_n hx hb dX12_countOf_40 rfl (lv_at hl 0 rfl) ?_
      refine va_get (D := D) (ci := 12) (v := .int (nI C)) (C := RX12) (T := TX12) (N := 33) hx hb hg gwX12 hown hK hP 0 rfl rfl 2 (by decide) (hg _ kw_395) (fun _ h9 => h9) rfl dX12_countOf_41 ?_
      refine W_sQ hQ ?_
      exact W.iret (v := (nI C)) hx hb hr (fun t ht hW => ⟨(nI C), rfl, trivial, ht⟩) (fun _ h => absurd h List.not_mem_nil) dX12_countOf_44
    · refine lv_tableIn (tgt := 45) hx hb dX12_countOf_1 (by decide) (by decide) rfl (by decide) ?_
      refine lv_aload_n hx hb dX12_countOf_45 rfl (lv_at hl 0 rfl) ?_
      refine va_get (D := D) (ci := 12) (v := .int (nI P)) (C := RX12) (T := TX12) (N := 33) hx hb hg gwX12 hown hK hP 0 rfl rfl 3 (by decide) (hg _ kw_315) (fun _ h9 => h9) rfl dX12_countOf_46 ?_
      refine W_sQ hQ ?_
      exact W.iret (v := (nI P)) hx hb hr (fun t ht hW => ⟨(nI P), rfl, trivial, ht⟩) (fun _ h => absurd h List.not_mem_nil) dX12_countOf_49
    · refine lv_tableIn (tgt := 50) hx hb dX12_countOf_1 (by decide) (by decide) rfl (by decide) ?_
      refine lv_aload_n hx hb dX12_countOf_50 rfl (lv_at hl 0 rfl) ?_
      refine va_get (D := D) (ci := 12) (v := .int (nI mpn)) (C := RX12) (T := TX12) (N := 33) hx hb hg gwX12 hown hK hP 0 rfl rfl 17 (by decide) (hg _ kw_320) (fun _ h9 => h9) rfl dX12_countOf_51 ?_
      refine W_sQ hQ ?_
      exact W.iret (v := (nI mpn)) hx hb hr (fun t ht hW => ⟨(nI mpn), rfl, trivial, ht⟩) (fun _ h => absurd h List.not_mem_nil) dX12_countOf_54
    · refine lv_tableIn (tgt := 55) hx hb dX12_countOf_1 (by decide) (by decide) rfl (by decide) ?_
      refine lv_aload_n hx hb dX12_countOf_55 rfl (lv_at hl 0 rfl) ?_
      refine va_get (D := D) (ci := 12) (v := .int (nI mrs)) (C := RX12) (T := TX12) (N := 33) hx hb hg gwX12 hown hK hP 0 rfl rfl 29 (by decide) (hg _ kw_396) (fun _ h9 => h9) rfl dX12_countOf_56 ?_
      refine W_sQ hQ ?_
      exact W.iret (v := (nI mrs)) hx hb hr (fun t ht hW => ⟨(nI mrs), rfl, trivial, ht⟩) (fun _ h => absurd h List.not_mem_nil) dX12_countOf_59
    · refine lv_tableIn (tgt := 60) hx hb dX12_countOf_1 (by decide) (by decide) rfl (by decide) ?_
      refine lv_aload_n hx hb dX12_countOf_60 rfl (lv_at hl 0 rfl) ?_
      refine va_get (D := D) (ci := 12) (v := .int (nI ms)) (C := RX12) (T := TX12) (N := 33) hx hb hg gwX12 hown hK hP 0 rfl rfl 1 (by decide) (hg _ kw_397) (fun _ h9 => h9) rfl dX12_countOf_61 ?_
      refine W_sQ hQ ?_
      exact W.iret (v := (nI ms)) hx hb hr (fun t ht hW => ⟨(nI ms), rfl, trivial, ht⟩) (fun _ h => absurd h List.not_mem_nil) dX12_countOf_64
    · refine lv_tableIn (tgt := 65) hx hb dX12_countOf_1 (by decide) (by decide) rfl (by decide) ?_
      refine lv_aload_n hx hb dX12_countOf_65 rfl (lv_at hl 0 rfl) ?_
      refine va_get (D := D) (ci := 12) (v := .int x_tablesDone) (C := RX12) (T := TX12) (N := 33) hx hb hg gwX12 hown hK hP 0 rfl rfl 27 (by decide) (hg _ kw_398) (fun _ h9 => h9) rfl dX12_countOf_66 ?_
      refine W_sQ hQ ?_
      exact W.iret (v := x_tablesDone) hx hb hr (fun t ht hW => ⟨x_tablesDone, rfl, trivial, ht⟩) (fun _ h => absurd h List.not_mem_nil) dX12_countOf_69

theorem dX12_tell_0 : decode cX12_tell 0 = .ok (.aload_n 0, 1) := by decide +kernel
theorem dX12_tell_1 : decode cX12_tell 1 = .ok (.ldc2_w 267, 3) := by decide +kernel
theorem dX12_tell_4 : decode cX12_tell 4 = .ok (.aload_n 0, 1) := by decide +kernel
theorem dX12_tell_5 : decode cX12_tell 5 = .ok (.getfield 269, 3) := by decide +kernel
theorem dX12_tell_8 : decode cX12_tell 8 = .ok (.lmul, 1) := by decide +kernel
theorem dX12_tell_9 : decode cX12_tell 9 = .ok (.lload_n 1, 1) := by decide +kernel
theorem dX12_tell_10 : decode cX12_tell 10 = .ok (.ladd, 1) := by decide +kernel
theorem dX12_tell_11 : decode cX12_tell 11 = .ok (.putfield 269, 3) := by decide +kernel
theorem dX12_tell_14 : decode cX12_tell 14 = .ok (.return_, 1) := by decide +kernel
theorem kw_399 : (.constantLong RX12 267 (31) : Cond) ∈ gw_tbl := gw_in (by decide +kernel) (by decide +kernel)
theorem kw_400 : (.fieldLink RX12 269 "NobodyChecksModel" "hash" "J" : Cond) ∈ gw_tbl := gw_in (by decide +kernel) (by decide +kernel)

set_option maxHeartbeats 4000000 in
set_option maxRecDepth 100000 in
theorem m_tell (l : Launch) (D : va_G) (cs : Nat → ClassId) (m0 : Nat) (mp : Nat) (mw : Nat) (mh : Nat) (mo : Nat) (m5 : Nat) (m6 : Nat) (m7 : Nat) (mk : Nat) (mn : Nat) (mq : Nat) (m8 : Nat) (m9 : Nat) (mz : Nat) (mb : Nat) (md : Nat) (ms : Nat) (C : Nat) (P : Nat) (mpn : Nat) (mrs : Nat) (sS : Nat) (rc : Nat) (rp : Nat) (ic : Nat) (hms : ms ≤ 90) (hC5 : C ≤ 5) (hP4 : P ≤ 4) (hmpn : mpn ≤ 8) (hmrs : mrs ≤ 24) (hsS : sS ≤ 4) (hrc : rc ≤ 5) (hrp : rp ≤ 4) (hic : ic ≤ 4) (x_value : Int32) (x_digits : Int32) (x_all : Int64) (x_kind : Int32) (x_last : Int32) (x_steps : Int32) (x_isRound : Int32) (x_tablesDone : Int32) (x_hash : Int64) (v : Int64) (sz : Nat) : Met l yX12_tell (Cond.code yX12_tell cX12_tell 3 none :: gw_tbl) ({ frames := 0, cells := 0, slots := 0, locals := 0 }) (pc_M D cs [(m0, .inr (12, [.ref mp, .int (nI ms), .int (nI C), .int (nI P), .ref mw, .ref mh, .ref mo, .int (nI sS), .int x_value, .int x_digits, .int (nI rc), .int (nI rp), .int (nI ic), .ref m5, .ref m6, .ref m7, .long x_all, .int (nI mpn), .ref mk, .ref mn, .int x_kind, .ref mq, .ref m8, .ref m9, .int x_last, .int x_steps, .int x_isRound, .int x_tablesDone, .ref mz, .int (nI mrs), .ref mb, .ref md, .long x_hash]))] sz [.ref m0, .long v]) (va_Qv (fun (u : Unit) => True) (fun u t => ∃ (h2 : Int64), va_P D vwCl [(m0, .inr (12, [.ref mp, .int (nI ms), .int (nI C), .int (nI P), .ref mw, .ref mh, .ref mo, .int (nI sS), .int x_value, .int x_digits, .int (nI rc), .int (nI rp), .int (nI ic), .ref m5, .ref m6, .ref m7, .long x_all, .int (nI mpn), .ref mk, .ref mn, .int x_kind, .ref mq, .ref m8, .ref m9, .int x_last, .int x_steps, .int x_isRound, .int x_tablesDone, .ref mz, .int (nI mrs), .ref mb, .ref md, .long h2]))] t.heap ∧ va_D (va_A [(m0, .inr (12, [.ref mp, .int (nI ms), .int (nI C), .int (nI P), .ref mw, .ref mh, .ref mo, .int (nI sS), .int x_value, .int x_digits, .int (nI rc), .int (nI rp), .int (nI ic), .ref m5, .ref m6, .ref m7, .long x_all, .int (nI mpn), .ref mk, .ref mn, .int x_kind, .ref mq, .ref m8, .ref m9, .int x_last, .int x_steps, .int x_isRound, .int x_tablesDone, .ref mz, .int (nI mrs), .ref mb, .ref md, .long x_hash]))] sz) [(m0, .inr (12, [.ref mp, .int (nI ms), .int (nI C), .int (nI P), .ref mw, .ref mh, .ref mo, .int (nI sS), .int x_value, .int x_digits, .int (nI rc), .int (nI rp), .int (nI ic), .ref m5, .ref m6, .ref m7, .long x_all, .int (nI mpn), .ref mk, .ref mn, .int x_kind, .ref mq, .ref m8, .ref m9, .int x_last, .int x_steps, .int x_isRound, .int x_tablesDone, .ref mz, .int (nI mrs), .ref mb, .ref md, .long h2]))]) (va_A [(m0, .inr (12, [.ref mp, .int (nI ms), .int (nI C), .int (nI P), .ref mw, .ref mh, .ref mo, .int (nI sS), .int x_value, .int x_digits, .int (nI rc), .int (nI rp), .int (nI ic), .ref m5, .ref m6, .ref m7, .long x_all, .int (nI mpn), .ref mk, .ref mn, .int x_kind, .ref mq, .ref m8, .ref m9, .int x_last, .int x_steps, .int x_isRound, .int x_tablesDone, .ref mz, .int (nI mrs), .ref mb, .ref md, .long x_hash]))] sz)) 0 0 (va_A [(m0, .inr (12, [.ref mp, .int (nI ms), .int (nI C), .int (nI P), .ref mw, .ref mh, .ref mo, .int (nI sS), .int x_value, .int x_digits, .int (nI rc), .int (nI rp), .int (nI ic), .ref m5, .ref m6, .ref m7, .long x_all, .int (nI mpn), .ref mk, .ref mn, .int x_kind, .ref mq, .ref m8, .ref m9, .int x_last, .int x_steps, .int x_isRound, .int x_tablesDone, .ref mz, .int (nI mrs), .ref mb, .ref md, .long x_hash]))] sz) := by
  refine Met.ofW (cc := cX12_tell) (maxL := 3) (ret := none) (by decide) rfl ?_
  intro p e s m args below meth c s₁ B hml hv
  obtain ⟨hargs, hsz, hP, hK, hD0⟩ := hv
  have hx := B.exec
  have hb := B.bytes
  have hr := B.returns
  have hts := atoms_spec (ws := Cond.code yX12_tell cX12_tell 3 none :: gw_tbl) B.pre
  have hg := fun (w : Cond) (h : w ∈ gw_tbl) => hts w (List.mem_cons_of_mem _ h)
  have hown : s.vm.findClass RX12 = some m.cls := findClass_of_methodNamed B.named
  have hlocks := B.notSynchronized
  subst hsz
  have hD := hD0.self (sz := s.heap.size)
  generalize hAe : va_A [(m0, .inr (12, [.ref mp, .int (nI ms), .int (nI C), .int (nI P), .ref mw, .ref mh, .ref mo, .int (nI sS), .int x_value, .int x_digits, .int (nI rc), .int (nI rp), .int (nI ic), .ref m5, .ref m6, .ref m7, .long x_all, .int (nI mpn), .ref mk, .ref mn, .int x_kind, .ref mq, .ref m8, .ref m9, .int x_last, .int x_steps, .int x_isRound, .int x_tablesDone, .ref mz, .int (nI mrs), .ref mb, .ref md, .long x_hash]))] s.heap.size = A at hD ⊢
  have hA : ∀ q : Nat, s.heap.size ≤ q → A q := fun q h => by rw [← hAe]; exact Or.inr h
  have hS : va_S A s.heap s.heap [] := va_S.rf
  have hP : va_P D vwCl [(m0, .inr (12, [.ref mp, .int (nI ms), .int (nI C), .int (nI P), .ref mw, .ref mh, .ref mo, .int (nI sS), .int x_value, .int x_digits, .int (nI rc), .int (nI rp), .int (nI ic), .ref m5, .ref m6, .ref m7, .long x_all, .int (nI mpn), .ref mk, .ref mn, .int x_kind, .ref mq, .ref m8, .ref m9, .int x_last, .int x_steps, .int x_isRound, .int x_tablesDone, .ref mz, .int (nI mrs), .ref mb, .ref md, .long x_hash]))] s.heap := hP
  have hl := lv_entry ([.ref m0, .long v]) (n := 3) (Nat.le_of_ble_eq_true rfl)
  rw [show entryFrame m args 3 = F0 m 0 (lg_sl ([.ref m0, .long v]) ++ List.replicate (3 - (lg_sl ([.ref m0, .long v])).length) Slot.unset).toArray [] from by rw [hargs]; exact lg_entry_eq ..]
  generalize (lg_sl ([.ref m0, .long v]) ++ List.replicate (3 - (lg_sl ([.ref m0, .long v])).length) Slot.unset).toArray = ls at hl ⊢
  have hl : lv_has ls 3 [(0, .ref m0), (1, .long v)] := hl
  refine W_genQ (fun Q hQ => ?_)
  have hlm := lim_le hP4
  have hlq := lim_pos P
  have hsg := sgn_le hP4
  refine lv_aload_n hx hb dX12_tell_0 rfl (lv_at hl 0 rfl) ?_
  refine lv_ldc2 hx hb hown (hg _ kw_399) dX12_tell_1 ?_
  refine lv_aload_n hx hb dX12_tell_4 rfl (lv_at hl 0 rfl) ?_
  refine va_get (D := D) (ci := 12) (v := .long x_hash) (C := RX12) (T := TX12) (N := 33) hx hb hg gwX12 hown hK hP 0 rfl rfl 32 (by decide) (hg _ kw_400) (fun _ h9 => h9) rfl dX12_tell_5 ?_
  refine lv_lmul hx hb dX12_tell_8 ?_
  refine lv_topl (fun z_8 e_8 => ?_)
  refine lv_lload_n hx hb dX12_tell_9 rfl (lv_at hl 1 rfl) ?_
  refine lv_ladd hx hb dX12_tell_10 ?_
  refine lv_topl (fun z_10 e_10 => ?_)
  refine va_put (D := D) (ci := 12) (v := .long z_10) (ty := .long) (C := RX12) (T := TX12) (N := 33) hx hb hg gwX12 tyX12 tyX12_ok nmX12 hown hK hP hD hS 0 rfl rfl 32 (by decide) (hg _ kw_400) (fun _ h9 => h9) rfl (by decide +kernel) rfl rfl (Nat.le_of_ble_eq_true rfl) dX12_tell_11 (fun H locs hP hD hS => ?_)
  have hP : va_P D vwCl [(m0, .inr (12, [.ref mp, .int (nI ms), .int (nI C), .int (nI P), .ref mw, .ref mh, .ref mo, .int (nI sS), .int x_value, .int x_digits, .int (nI rc), .int (nI rp), .int (nI ic), .ref m5, .ref m6, .ref m7, .long x_all, .int (nI mpn), .ref mk, .ref mn, .int x_kind, .ref mq, .ref m8, .ref m9, .int x_last, .int x_steps, .int x_isRound, .int x_tablesDone, .ref mz, .int (nI mrs), .ref mb, .ref md, .long z_10]))] H := hP
  have hD : va_D A [(m0, .inr (12, [.ref mp, .int (nI ms), .int (nI C), .int (nI P), .ref mw, .ref mh, .ref mo, .int (nI sS), .int x_value, .int x_digits, .int (nI rc), .int (nI rp), .int (nI ic), .ref m5, .ref m6, .ref m7, .long x_all, .int (nI mpn), .ref mk, .ref mn, .int x_kind, .ref mq, .ref m8, .ref m9, .int x_last, .int x_steps, .int x_isRound, .int x_tablesDone, .ref mz, .int (nI mrs), .ref mb, .ref md, .long z_10]))] := hD
  refine W_sQ hQ ?_
  refine W.widen (k := 0) (n := 0) (Nat.le_of_ble_eq_true rfl) (Nat.le_of_ble_eq_true rfl) ?_
  have hP9 := hP.sub (ws' := [(m0, .inr (12, [.ref mp, .int (nI ms), .int (nI C), .int (nI P), .ref mw, .ref mh, .ref mo, .int (nI sS), .int x_value, .int x_digits, .int (nI rc), .int (nI rp), .int (nI ic), .ref m5, .ref m6, .ref m7, .long x_all, .int (nI mpn), .ref mk, .ref mn, .int x_kind, .ref mq, .ref m8, .ref m9, .int x_last, .int x_steps, .int x_isRound, .int x_tablesDone, .ref mz, .int (nI mrs), .ref mb, .ref md, .long z_10]))]) [0] rfl
  have hD9 := hD.sub (ws' := [(m0, .inr (12, [.ref mp, .int (nI ms), .int (nI C), .int (nI P), .ref mw, .ref mh, .ref mo, .int (nI sS), .int x_value, .int x_digits, .int (nI rc), .int (nI rp), .int (nI ic), .ref m5, .ref m6, .ref m7, .long x_all, .int (nI mpn), .ref mk, .ref mn, .int x_kind, .ref mq, .ref m8, .ref m9, .int x_last, .int x_steps, .int x_isRound, .int x_tablesDone, .ref mz, .int (nI mrs), .ref mb, .ref md, .long z_10]))]) [0] (by decide) rfl
  exact W.vret hx hb hr (fun t ht hW => ⟨⟨(), rfl, trivial, ⟨z_10, by rw [ht]; exact hP9, hD9⟩⟩, hS.F ht⟩) hS.2.2 dX12_tell_14
