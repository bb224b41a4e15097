theorem dX11_letters_0 : decode cX11_letters 0 = .ok (.lload_n 1, 1) := by decide +kernel
theorem dX11_letters_1 : decode cX11_letters 1 = .ok (.invokestatic 59, 3) := by decide +kernel
theorem dX11_letters_4 : decode cX11_letters 4 = .ok (.istore_n 3, 1) := by decide +kernel
theorem dX11_letters_5 : decode cX11_letters 5 = .ok (.iload_n 3, 1) := by decide +kernel
theorem dX11_letters_6 : decode cX11_letters 6 = .ok (.iconst (-1), 1) := by decide +kernel
theorem dX11_letters_7 : decode cX11_letters 7 = .ok (.if_icmp .ne 6, 3) := by decide +kernel
theorem dX11_letters_10 : decode cX11_letters 10 = .ok (.bipush (-102), 2) := by decide +kernel
theorem dX11_letters_12 : decode cX11_letters 12 = .ok (.ireturn, 1) := by decide +kernel
theorem dX11_letters_13 : decode cX11_letters 13 = .ok (.aload_n 0, 1) := by decide +kernel
theorem dX11_letters_14 : decode cX11_letters 14 = .ok (.getfield 10, 3) := by decide +kernel
theorem dX11_letters_17 : decode cX11_letters 17 = .ok (.getfield 63, 3) := by decide +kernel
theorem dX11_letters_20 : decode cX11_letters 20 = .ok (.iload_n 3, 1) := by decide +kernel
theorem dX11_letters_21 : decode cX11_letters 21 = .ok (.iadd, 1) := by decide +kernel
theorem dX11_letters_22 : decode cX11_letters 22 = .ok (.bipush 90, 2) := by decide +kernel
theorem dX11_letters_24 : decode cX11_letters 24 = .ok (.if_icmp .le 6, 3) := by decide +kernel
theorem dX11_letters_27 : decode cX11_letters 27 = .ok (.bipush (-104), 2) := by decide +kernel
theorem dX11_letters_29 : decode cX11_letters 29 = .ok (.ireturn, 1) := by decide +kernel
theorem dX11_letters_30 : decode cX11_letters 30 = .ok (.aload_n 0, 1) := by decide +kernel
theorem dX11_letters_31 : decode cX11_letters 31 = .ok (.getfield 10, 3) := by decide +kernel
theorem dX11_letters_34 : decode cX11_letters 34 = .ok (.lload_n 1, 1) := by decide +kernel
theorem dX11_letters_35 : decode cX11_letters 35 = .ok (.iload_n 3, 1) := by decide +kernel
theorem dX11_letters_36 : decode cX11_letters 36 = .ok (.invokevirtual 67, 3) := by decide +kernel
theorem dX11_letters_39 : decode cX11_letters 39 = .ok (.aload_n 0, 1) := by decide +kernel
theorem dX11_letters_40 : decode cX11_letters 40 = .ok (.getfield 10, 3) := by decide +kernel
theorem dX11_letters_43 : decode cX11_letters 43 = .ok (.getfield 63, 3) := by decide +kernel
theorem dX11_letters_46 : decode cX11_letters 46 = .ok (.ireturn, 1) := by decide +kernel
theorem kw_509 : (.code yX2_toldBy cX2_toldBy 6 (some .int) : Cond) ∈ gw_tbl := gw_in (by decide +kernel) (by decide +kernel)
theorem kw_510 : (.methodLink RX11 59 yX2_toldBy : Cond) ∈ gw_tbl := gw_in (by decide +kernel) (by decide +kernel)
theorem kw_511 : (.static yX2_toldBy : Cond) ∈ gw_tbl := gw_in (by decide +kernel) (by decide +kernel)
theorem kw_512 : (.fieldLink RX11 10 "NobodyChecks" "page" "LNobodyChecks$Page;" : Cond) ∈ gw_tbl := gw_in (by decide +kernel) (by decide +kernel)
theorem kw_513 : (.fieldLink RX11 63 "NobodyChecks$Page" "size" "I" : Cond) ∈ gw_tbl := gw_in (by decide +kernel) (by decide +kernel)
theorem kw_514 : (.code yX2_append cX2_append 5 none : Cond) ∈ gw_tbl := gw_in (by decide +kernel) (by decide +kernel)
theorem kw_515 : (.methodLink RX11 67 yX2_append : Cond) ∈ gw_tbl := gw_in (by decide +kernel) (by decide +kernel)
theorem kw_516 : (.instanceMethod yX2_append : Cond) ∈ gw_tbl := gw_in (by decide +kernel) (by decide +kernel)
theorem kw_517 : (.selects RX2 yX2_append yX2_append : Cond) ∈ gw_tbl := gw_in (by decide +kernel) (by decide +kernel)

set_option maxHeartbeats 4000000 in
set_option maxRecDepth 100000 in
theorem x_letters (l : Launch) (D : va_G) (cs : Nat → ClassId) (x0 : Nat) (py : Nat) (pn : Nat) (hpn : pn ≤ 8) (td : Int32) (rd : Nat) (aq : Nat) (pl : Nat) (ch : Nat) (ro : Nat) (pg : Nat) (cd : Nat) (ps : Nat) (hps : ps ≤ 90) (fcd : Nat → Int32) (v : Int64) (sz : Nat) : Met l yX11_letters (Cond.code yX11_letters cX11_letters 4 (some .int) :: gw_tbl) ({ frames := 2, cells := 0, slots := 0, locals := 47 }) (pc_M D cs [(x0, .inr (11, [.ref pg, .ref rd, .ref aq, .ref py, .ref pl, .ref ch, .ref ro, .int (nI pn), .int td])), (pg, .inr (2, [.ref cd, .int (nI ps)])), (cd, .inl (cs 0, 90, .inl fcd))] sz [.ref x0, .long v]) (va_Qi (fun (r : Int32) (u : Unit) => True) (fun u t => ∃ (ps2 : Nat), ∃ (fcd2 : Nat → Int32), (ps2 ≤ 90) ∧ va_P D vwCl [(x0, .inr (11, [.ref pg, .ref rd, .ref aq, .ref py, .ref pl, .ref ch, .ref ro, .int (nI pn), .int td])), (pg, .inr (2, [.ref cd, .int (nI ps2)])), (cd, .inl (cs 0, 90, .inl fcd2))] t.heap ∧ va_D (va_A [(x0, .inr (11, [.ref pg, .ref rd, .ref aq, .ref py, .ref pl, .ref ch, .ref ro, .int (nI pn), .int td])), (pg, .inr (2, [.ref cd, .int (nI ps)])), (cd, .inl (cs 0, 90, .inl fcd))] sz) [(x0, .inr (11, [.ref pg, .ref rd, .ref aq, .ref py, .ref pl, .ref ch, .ref ro, .int (nI pn), .int td])), (pg, .inr (2, [.ref cd, .int (nI ps2)])), (cd, .inl (cs 0, 90, .inl fcd2))]) (va_A [(x0, .inr (11, [.ref pg, .ref rd, .ref aq, .ref py, .ref pl, .ref ch, .ref ro, .int (nI pn), .int td])), (pg, .inr (2, [.ref cd, .int (nI ps)])), (cd, .inl (cs 0, 90, .inl fcd))] sz)) 0 0 (va_A [(x0, .inr (11, [.ref pg, .ref rd, .ref aq, .ref py, .ref pl, .ref ch, .ref ro, .int (nI pn), .int td])), (pg, .inr (2, [.ref cd, .int (nI ps)])), (cd, .inl (cs 0, 90, .inl fcd))] sz) := by
  refine Met.ofW (cc := cX11_letters) (maxL := 4) (ret := (some .int)) (by decide) rfl ?_
  intro p e s m args below meth c s₁ B hml hv
  obtain ⟨hargs, hsz, hP, hK, hD0⟩ := hv
  have hx := B.exec
  have hb := B.bytes
  have hr := B.returns
  have hts := atoms_spec (ws := Cond.code yX11_letters cX11_letters 4 (some .int) :: gw_tbl) B.pre
  have hg := fun (w : Cond) (h : w ∈ gw_tbl) => hts w (List.mem_cons_of_mem _ h)
  have hown : s.vm.findClass RX11 = some m.cls := findClass_of_methodNamed B.named
  have hlocks := B.notSynchronized
  subst hsz
  have hD := hD0.self (sz := s.heap.size)
  generalize hAe : va_A [(x0, .inr (11, [.ref pg, .ref rd, .ref aq, .ref py, .ref pl, .ref ch, .ref ro, .int (nI pn), .int td])), (pg, .inr (2, [.ref cd, .int (nI ps)])), (cd, .inl (cs 0, 90, .inl fcd))] s.heap.size = A at hD ⊢
  have hA : ∀ q : Nat, s.heap.size ≤ q → A q := fun q h => by rw [← hAe]; exact Or.inr h
  have hS : va_S A s.heap s.heap [] := va_S.rf
  have hP : va_P D vwCl [(x0, .inr (11, [.ref pg, .ref rd, .ref aq, .ref py, .ref pl, .ref ch, .ref ro, .int (nI pn), .int td])), (pg, .inr (2, [.ref cd, .int (nI ps)])), (cd, .inl (cs 0, 90, .inl fcd))] s.heap := hP
  have hl := lv_entry ([.ref x0, .long v]) (n := 4) (Nat.le_of_ble_eq_true rfl)
  rw [show entryFrame m args 4 = F0 m 0 (lg_sl ([.ref x0, .long v]) ++ List.replicate (4 - (lg_sl ([.ref x0, .long v])).length) Slot.unset).toArray [] from by rw [hargs]; exact lg_entry_eq ..]
  generalize (lg_sl ([.ref x0, .long v]) ++ List.replicate (4 - (lg_sl ([.ref x0, .long v])).length) Slot.unset).toArray = ls at hl ⊢
  have hl : lv_has ls 4 [(0, .ref x0), (1, .long v)] := hl
  refine W_genQ (fun Q hQ => ?_)
  refine lv_lload_n hx hb dX11_letters_0 rfl (lv_at hl 1 rfl) ?_
  refine vp_callSi (W.runS (As := [.long v]) (rest := []) ⟨hx, hb, hml, hown, hg⟩ (g_toldBy l v) (va_cwS 1 hg (gw_S kw_510 kw_511 kw_45 kw_509) rfl rfl rfl (by decide +kernel) ⟨(Nat.le_of_ble_eq_true rfl), (Nat.le_of_ble_eq_true rfl)⟩) pr_0 rfl rfl hl.1 rfl (lv_room (Nat.le_of_ble_eq_true rfl)) dX11_letters_1 ⟨(Nat.le_of_ble_eq_true rfl), (Nat.le_of_ble_eq_true rfl)⟩) (fun r_1 h_1 => ?_)
  clear h_1
  refine lv_istore_n (lv' := [(3, .int r_1), (0, .ref x0), (1, .long v)]) hx hb dX11_letters_4 rfl hl (by decide) rfl (fun ls hl => ?_)
  refine lv_iload_n hx hb dX11_letters_5 rfl (lv_at hl 0 rfl) ?_
  refine lv_iconst (v := (-1)) hx hb dX11_letters_6 (by decide) ?_
  refine lv_icmp_ne (tgt := 13) hx hb dX11_letters_7 (by decide) (fun c_7 => ?_) (fun c_7 => ?_)
  · refine lv_aload_n hx hb dX11_letters_13 rfl (lv_at hl 1 rfl) ?_
    refine va_get (D := D) (ci := 11) (v := .ref pg) (C := RX11) (T := TX11) (N := 9) hx hb hg gwX11 hown hK hP 0 rfl rfl 0 (by decide) (hg _ kw_512) (fun _ h9 => h9) rfl dX11_letters_14 ?_
    refine va_get (D := D) (ci := 2) (v := .int (nI ps)) (C := RX2) (T := TX2) (N := 2) hx hb hg gwX2 hown hK hP 1 rfl rfl 1 (by decide) (hg _ kw_513) (fun _ h9 => h9) rfl dX11_letters_17 ?_
    refine lv_iload_n hx hb dX11_letters_20 rfl (lv_at hl 0 rfl) ?_
    refine lv_iadd hx hb dX11_letters_21 ?_
    refine lv_topi (fun z_21 e_21 => ?_)
    refine lv_bipush (v := 90) hx hb dX11_letters_22 (by decide) ?_
    refine lv_icmp_le (tgt := 30) hx hb dX11_letters_24 (by decide) (fun c_24 => ?_) (fun c_24 => ?_)
    · refine lv_aload_n hx hb dX11_letters_30 rfl (lv_at hl 1 rfl) ?_
      refine va_get (D := D) (ci := 11) (v := .ref pg) (C := RX11) (T := TX11) (N := 9) hx hb hg gwX11 hown hK hP 0 rfl rfl 0 (by decide) (hg _ kw_512) (fun _ h9 => h9) rfl dX11_letters_31 ?_
      refine lv_lload_n hx hb dX11_letters_34 rfl (lv_at hl 2 rfl) ?_
      refine lv_iload_n hx hb dX11_letters_35 rfl (lv_at hl 0 rfl) ?_
      have hPc := hP.sub (ws' := [(pg, .inr (2, [.ref cd, .int (nI ps)])), (cd, .inl (cs 0, 90, .inl fcd))]) [1, 2] rfl
      have hDc := hD.sub (ws' := [(pg, .inr (2, [.ref cd, .int (nI ps)])), (cd, .inl (cs 0, 90, .inl fcd))]) [1, 2] (by decide) rfl
      have hFc := va_free (wc := [(pg, .inr (2, [.ref cd, .int (nI ps)])), (cd, .inl (cs 0, 90, .inl fcd))]) hD hS hA [1, 2] rfl
      refine va_callv (va_runV (As := [.long v, .int r_1]) (rest := []) ⟨hx, hb, hml, hown, hg⟩ (g_append l D cs pg cd ps (by omega) fcd v r_1 _) (cwV 2 hg (gw_V kw_515 kw_516 kw_517 kw_45 kw_514) rfl rfl rfl (by decide +kernel) ⟨(Nat.le_of_ble_eq_true rfl), (Nat.le_of_ble_eq_true rfl)⟩) (pr_MV (q := (RX2, TX2, 2)) 2 0 hK hPc hDc rfl rfl) rfl rfl hl.1 rfl (lv_room (Nat.le_of_ble_eq_true rfl)) dX11_letters_36 ⟨(Nat.le_of_ble_eq_true rfl), (Nat.le_of_ble_eq_true rfl)⟩) hS (fun q _ h => hFc q h) hFc (fun u t H1 locs ht hvm h_36 hB hz1 hk1 hS => ?_)
      obtain ⟨ps2_36, fcd2_36, hps2_36, hP1, hD1⟩ := hB
      rw [ht] at hP1
      obtain ⟨hP, hD⟩ := va_join (wr := [(x0, .inr (11, [.ref pg, .ref rd, .ref aq, .ref py, .ref pl, .ref ch, .ref ro, .int (nI pn), .int td]))]) (w1 := [(pg, .inr (2, [.ref cd, .int (nI ps2_36)])), (cd, .inl (cs 0, 90, .inl fcd2_36))]) hP hD [1, 2] [0] rfl rfl (by decide) (by decide) hk1 hFc hP1 hD1
      generalize H1 = H at hP hS ⊢
      have hP : va_P D vwCl [(x0, .inr (11, [.ref pg, .ref rd, .ref aq, .ref py, .ref pl, .ref ch, .ref ro, .int (nI pn), .int td])), (pg, .inr (2, [.ref cd, .int (nI ps2_36)])), (cd, .inl (cs 0, 90, .inl fcd2_36))] H := hP
      have hD : va_D A [(x0, .inr (11, [.ref pg, .ref rd, .ref aq, .ref py, .ref pl, .ref ch, .ref ro, .int (nI pn), .int td])), (pg, .inr (2, [.ref cd, .int (nI ps2_36)])), (cd, .inl (cs 0, 90, .inl fcd2_36))] := hD
      refine W.cs (cells' := 0) (slots' := 0) rfl rfl ?_
      refine lv_aload_n hx hb dX11_letters_39 rfl (lv_at hl 1 rfl) ?_
      refine va_get (D := D) (ci := 11) (v := .ref pg) (C := RX11) (T := TX11) (N := 9) hx hb hg gwX11 hown hK hP 0 rfl rfl 0 (by decide) (hg _ kw_512) (fun _ h9 => h9) rfl dX11_letters_40 ?_
      refine va_get (D := D) (ci := 2) (v := .int (nI ps2_36)) (C := RX2) (T := TX2) (N := 2) hx hb hg gwX2 hown hK hP 1 rfl rfl 1 (by decide) (hg _ kw_513) (fun _ h9 => h9) rfl dX11_letters_43 ?_
      refine W_sQ hQ ?_
      refine W.widen (k := 0) (n := 0) (Nat.le_of_ble_eq_true rfl) (Nat.le_of_ble_eq_true rfl) ?_
      have hP9 := hP.sub (ws' := [(x0, .inr (11, [.ref pg, .ref rd, .ref aq, .ref py, .ref pl, .ref ch, .ref ro, .int (nI pn), .int td])), (pg, .inr (2, [.ref cd, .int (nI ps2_36)])), (cd, .inl (cs 0, 90, .inl fcd2_36))]) [0, 1, 2] rfl
      have hD9 := hD.sub (ws' := [(x0, .inr (11, [.ref pg, .ref rd, .ref aq, .ref py, .ref pl, .ref ch, .ref ro, .int (nI pn), .int td])), (pg, .inr (2, [.ref cd, .int (nI ps2_36)])), (cd, .inl (cs 0, 90, .inl fcd2_36))]) [0, 1, 2] (by decide) rfl
      exact W.iret (v := (nI ps2_36)) hx hb hr (fun t ht hW => ⟨⟨(nI ps2_36), (), rfl, trivial, ⟨ps2_36, fcd2_36, (by omega), by rw [ht]; exact hP9, hD9⟩⟩, hS.F ht⟩) hS.2.2 dX11_letters_46
    · refine lv_bipush (v := (-104)) hx hb dX11_letters_27 (by decide) ?_
      refine W_sQ hQ ?_
      refine W.widen (k := 0) (n := 0) (Nat.le_of_ble_eq_true rfl) (Nat.le_of_ble_eq_true rfl) ?_
      have hP9 := hP.sub (ws' := [(x0, .inr (11, [.ref pg, .ref rd, .ref aq, .ref py, .ref pl, .ref ch, .ref ro, .int (nI pn), .int td])), (pg, .inr (2, [.ref cd, .int (nI ps)])), (cd, .inl (cs 0, 90, .inl fcd))]) [0, 1, 2] rfl
      have hD9 := hD.sub (ws' := [(x0, .inr (11, [.ref pg, .ref rd, .ref aq, .ref py, .ref pl, .ref ch, .ref ro, .int (nI pn), .int td])), (pg, .inr (2, [.ref cd, .int (nI ps)])), (cd, .inl (cs 0, 90, .inl fcd))]) [0, 1, 2] (by decide) rfl
      exact W.iret (v := (-104)) hx hb hr (fun t ht hW => ⟨⟨(-104), (), rfl, trivial, ⟨ps, fcd, (by omega), by rw [ht]; exact hP9, hD9⟩⟩, hS.F ht⟩) hS.2.2 dX11_letters_29
  · refine lv_bipush (v := (-102)) hx hb dX11_letters_10 (by decide) ?_
    refine W_sQ hQ ?_
    refine W.widen (k := 0) (n := 0) (Nat.le_of_ble_eq_true rfl) (Nat.le_of_ble_eq_true rfl) ?_
    have hP9 := hP.sub (ws' := [(x0, .inr (11, [.ref pg, .ref rd, .ref aq, .ref py, .ref pl, .ref ch, .ref ro, .int (nI pn), .int td])), (pg, .inr (2, [.ref cd, .int (nI ps)])), (cd, .inl (cs 0, 90, .inl fcd))]) [0, 1, 2] rfl
    have hD9 := hD.sub (ws' := [(x0, .inr (11, [.ref pg, .ref rd, .ref aq, .ref py, .ref pl, .ref ch, .ref ro, .int (nI pn), .int td])), (pg, .inr (2, [.ref cd, .int (nI ps)])), (cd, .inl (cs 0, 90, .inl fcd))]) [0, 1, 2] (by decide) rfl
    exact W.iret (v := (-102)) hx hb hr (fun t ht hW => ⟨⟨(-102), (), rfl, trivial, ⟨ps, fcd, (by omega), by rw [ht]; exact hP9, hD9⟩⟩, hS.F ht⟩) hS.2.2 dX11_letters_12

theorem dX11_blank_0 : decode cX11_blank 0 = .ok (.aload_n 0, 1) := by decide +kernel
theorem dX11_blank_1 : decode cX11_blank 1 = .ok (.getfield 10, 3) := by decide +kernel
theorem dX11_blank_4 : decode cX11_blank 4 = .ok (.getfield 63, 3) := by decide +kernel
theorem dX11_blank_7 : decode cX11_blank 7 = .ok (.istore_n 1, 1) := by decide +kernel
theorem dX11_blank_8 : decode cX11_blank 8 = .ok (.aload_n 0, 1) := by decide +kernel
theorem dX11_blank_9 : decode cX11_blank 9 = .ok (.getfield 10, 3) := by decide +kernel
theorem dX11_blank_12 : decode cX11_blank 12 = .ok (.iconst 0, 1) := by decide +kernel
theorem dX11_blank_13 : decode cX11_blank 13 = .ok (.putfield 63, 3) := by decide +kernel
theorem dX11_blank_16 : decode cX11_blank 16 = .ok (.iload_n 1, 1) := by decide +kernel
theorem dX11_blank_17 : decode cX11_blank 17 = .ok (.ireturn, 1) := by decide +kernel

set_option maxHeartbeats 4000000 in
set_option maxRecDepth 100000 in
theorem x_blank (l : Launch) (D : va_G) (cs : Nat → ClassId) (x0 : Nat) (py : Nat) (pn : Nat) (hpn : pn ≤ 8) (td : Int32) (rd : Nat) (aq : Nat) (pl : Nat) (ch : Nat) (ro : Nat) (pg : Nat) (cd : Nat) (ps : Nat) (hps : ps ≤ 90) (fcd : Nat → Int32) (sz : Nat) : Met l yX11_blank (Cond.code yX11_blank cX11_blank 2 (some .int) :: gw_tbl) ({ frames := 0, cells := 0, slots := 0, locals := 0 }) (pc_M D cs [(x0, .inr (11, [.ref pg, .ref rd, .ref aq, .ref py, .ref pl, .ref ch, .ref ro, .int (nI pn), .int td])), (pg, .inr (2, [.ref cd, .int (nI ps)])), (cd, .inl (cs 0, 90, .inl fcd))] sz [.ref x0]) (va_Qi (fun (r : Int32) (u : Unit) => True) (fun u t => va_P D vwCl [(x0, .inr (11, [.ref pg, .ref rd, .ref aq, .ref py, .ref pl, .ref ch, .ref ro, .int (nI pn), .int td])), (pg, .inr (2, [.ref cd, .int (nI 0)])), (cd, .inl (cs 0, 90, .inl fcd))] t.heap ∧ va_D (va_A [(x0, .inr (11, [.ref pg, .ref rd, .ref aq, .ref py, .ref pl, .ref ch, .ref ro, .int (nI pn), .int td])), (pg, .inr (2, [.ref cd, .int (nI ps)])), (cd, .inl (cs 0, 90, .inl fcd))] sz) [(x0, .inr (11, [.ref pg, .ref rd, .ref aq, .ref py, .ref pl, .ref ch, .ref ro, .int (nI pn), .int td])), (pg, .inr (2, [.ref cd, .int (nI 0)])), (cd, .inl (cs 0, 90, .inl fcd))]) (va_A [(x0, .inr (11, [.ref pg, .ref rd, .ref aq, .ref py, .ref pl, .ref ch, .ref ro, .int (nI pn), .int td])), (pg, .inr (2, [.ref cd, .int (nI ps)])), (cd, .inl (cs 0, 90, .inl fcd))] sz)) 0 0 (va_A [(x0, .inr (11, [.ref pg, .ref rd, .ref aq, .ref py, .ref pl, .ref ch, .ref ro, .int (nI pn), .int td])), (pg, .inr (2, [.ref cd, .int (nI ps)])), (cd, .inl (cs 0, 90, .inl fcd))] sz) := by
  refine Met.ofW (cc := cX11_blank) (maxL := 2) (ret := (some .int)) (by decide) rfl ?_
  intro p e s m args below meth c s₁ B hml hv
  obtain ⟨hargs, hsz, hP, hK, hD0⟩ := hv
  have hx := B.exec
  have hb := B.bytes
  have hr := B.returns
  have hts := atoms_spec (ws := Cond.code yX11_blank cX11_blank 2 (some .int) :: gw_tbl) B.pre
  have hg := fun (w : Cond) (h : w ∈ gw_tbl) => hts w (List.mem_cons_of_mem _ h)
  have hown : s.vm.findClass RX11 = some m.cls := findClass_of_methodNamed B.named
  have hlocks := B.notSynchronized
  subst hsz
  have hD := hD0.self (sz := s.heap.size)
  generalize hAe : va_A [(x0, .inr (11, [.ref pg, .ref rd, .ref aq, .ref py, .ref pl, .ref ch, .ref ro, .int (nI pn), .int td])), (pg, .inr (2, [.ref cd, .int (nI ps)])), (cd, .inl (cs 0, 90, .inl fcd))] s.heap.size = A at hD ⊢
  have hA : ∀ q : Nat, s.heap.size ≤ q → A q := fun q h => by rw [← hAe]; exact Or.inr h
  have hS : va_S A s.heap s.heap [] := va_S.rf
  have hP : va_P D vwCl [(x0, .inr (11, [.ref pg, .ref rd, .ref aq, .ref py, .ref pl, .ref ch, .ref ro, .int (nI pn), .int td])), (pg, .inr (2, [.ref cd, .int (nI ps)])), (cd, .inl (cs 0, 90, .inl fcd))] s.heap := hP
  have hl := lv_entry ([.ref x0]) (n := 2) (Nat.le_of_ble_eq_true rfl)
  rw [show entryFrame m args 2 = F0 m 0 (lg_sl ([.ref x0]) ++ List.replicate (2 - (lg_sl ([.ref x0])).length) Slot.unset).toArray [] from by rw [hargs]; exact lg_entry_eq ..]
  generalize (lg_sl ([.ref x0]) ++ List.replicate (2 - (lg_sl ([.ref x0])).length) Slot.unset).toArray = ls at hl ⊢
  have hl : lv_has ls 2 [(0, .ref x0)] := hl
  refine W_genQ (fun Q hQ => ?_)
  refine lv_aload_n hx hb dX11_blank_0 rfl (lv_at hl 0 rfl) ?_
  refine va_get (D := D) (ci := 11) (v := .ref pg) (C := RX11) (T := TX11) (N := 9) hx hb hg gwX11 hown hK hP 0 rfl rfl 0 (by decide) (hg _ kw_512) (fun _ h9 => h9) rfl dX11_blank_1 ?_
  refine va_get (D := D) (ci := 2) (v := .int (nI ps)) (C := RX2) (T := TX2) (N := 2) hx hb hg gwX2 hown hK hP 1 rfl rfl 1 (by decide) (hg _ kw_513) (fun _ h9 => h9) rfl dX11_blank_4 ?_
  refine lv_istore_n (lv' := [(1, .int (nI ps)), (0, .ref x0)]) hx hb dX11_blank_7 rfl hl (by decide) rfl (fun ls hl => ?_)
  refine lv_aload_n hx hb dX11_blank_8 rfl (lv_at hl 1 rfl) ?_
  refine va_get (D := D) (ci := 11) (v := .ref pg) (C := RX11) (T := TX11) (N := 9) hx hb hg gwX11 hown hK hP 0 rfl rfl 0 (by decide) (hg _ kw_512) (fun _ h9 => h9) rfl dX11_blank_9 ?_
  refine lv_iconst (v := 0) hx hb dX11_blank_12 (by decide) ?_
  refine va_put (D := D) (ci := 2) (v := .int 0) (ty := .int) (C := RX2) (T := TX2) (N := 2) hx hb hg gwX2 tyX2 tyX2_ok nmX2 hown hK hP hD hS 1 rfl rfl 1 (by decide) (hg _ kw_513) (fun _ h9 => h9) rfl (by decide +kernel) rfl rfl (Nat.le_of_ble_eq_true rfl) dX11_blank_13 (fun H locs hP hD hS => ?_)
  have hP : va_P D vwCl [(x0, .inr (11, [.ref pg, .ref rd, .ref aq, .ref py, .ref pl, .ref ch, .ref ro, .int (nI pn), .int td])), (pg, .inr (2, [.ref cd, .int 0])), (cd, .inl (cs 0, 90, .inl fcd))] H := hP
  have hD : va_D A [(x0, .inr (11, [.ref pg, .ref rd, .ref aq, .ref py, .ref pl, .ref ch, .ref ro, .int (nI pn), .int td])), (pg, .inr (2, [.ref cd, .int 0])), (cd, .inl (cs 0, 90, .inl fcd))] := hD
  refine lv_iload_n hx hb dX11_blank_16 rfl (lv_at hl 0 rfl) ?_
  refine W_sQ hQ ?_
  refine W.widen (k := 0) (n := 0) (Nat.le_of_ble_eq_true rfl) (Nat.le_of_ble_eq_true rfl) ?_
  have hP9 := hP.sub (ws' := [(x0, .inr (11, [.ref pg, .ref rd, .ref aq, .ref py, .ref pl, .ref ch, .ref ro, .int (nI pn), .int td])), (pg, .inr (2, [.ref cd, .int 0])), (cd, .inl (cs 0, 90, .inl fcd))]) [0, 1, 2] rfl
  have hD9 := hD.sub (ws' := [(x0, .inr (11, [.ref pg, .ref rd, .ref aq, .ref py, .ref pl, .ref ch, .ref ro, .int (nI pn), .int td])), (pg, .inr (2, [.ref cd, .int 0])), (cd, .inl (cs 0, 90, .inl fcd))]) [0, 1, 2] (by decide) rfl
  exact W.iret (v := (nI ps)) hx hb hr (fun t ht hW => ⟨⟨(nI ps), (), rfl, trivial, ⟨by rw [ht]; exact hP9, hD9⟩⟩, hS.F ht⟩) hS.2.2 dX11_blank_17

theorem dX11_fault_0 : decode cX11_fault 0 = .ok (.aload_n 0, 1) := by decide +kernel
theorem dX11_fault_1 : decode cX11_fault 1 = .ok (.getfield 19, 3) := by decide +kernel
theorem dX11_fault_4 : decode cX11_fault 4 = .ok (.aload_n 0, 1) := by decide +kernel
theorem dX11_fault_5 : decode cX11_fault 5 = .ok (.getfield 10, 3) := by decide +kernel
theorem dX11_fault_8 : decode cX11_fault 8 = .ok (.invokevirtual 71, 3) := by decide +kernel
theorem dX11_fault_11 : decode cX11_fault 11 = .ok (.ireturn, 1) := by decide +kernel
theorem kw_518 : (.fieldLink RX11 19 "NobodyChecks" "reader" "LNobodyChecks$Reader;" : Cond) ∈ gw_tbl := gw_in (by decide +kernel) (by decide +kernel)
theorem kw_519 : (.code yX7_readUntilFault cX7_readUntilFault 3 (some .int) : Cond) ∈ gw_tbl := gw_in (by decide +kernel) (by decide +kernel)
theorem kw_520 : (.methodLink RX11 71 yX7_readUntilFault : Cond) ∈ gw_tbl := gw_in (by decide +kernel) (by decide +kernel)
theorem kw_521 : (.instanceMethod yX7_readUntilFault : Cond) ∈ gw_tbl := gw_in (by decide +kernel) (by decide +kernel)
theorem kw_522 : (.selects RX7 yX7_readUntilFault yX7_readUntilFault : Cond) ∈ gw_tbl := gw_in (by decide +kernel) (by decide +kernel)

set_option maxHeartbeats 4000000 in
set_option maxRecDepth 100000 in
theorem x_fault (l : Launch) (D : va_G) (cs : Nat → ClassId) (x0 : Nat) (py : Nat) (pn : Nat) (hpn : pn ≤ 8) (td : Int32) (aq : Nat) (pl : Nat) (ch : Nat) (ro : Nat) (rd : Nat) (rw : Nat) (rc : Nat) (aC : Int32) (aP : Int32) (aA : Int32) (rD : Int32) (rV : Int32) (rr : Nat → Nat) (frr : Nat → Nat → Int32) (frw : Nat → Int32) (pg : Nat) (cd : Nat) (ps : Nat) (hps : ps ≤ 90) (fcd : Nat → Int32) (sz : Nat) : Met l yX11_fault (Cond.code yX11_fault cX11_fault 1 (some .int) :: gw_tbl) ({ frames := 4, cells := 0, slots := 0, locals := 86 }) (pc_M D cs [(x0, .inr (11, [.ref pg, .ref rd, .ref aq, .ref py, .ref pl, .ref ch, .ref ro, .int (nI pn), .int td])), (rd, .inr (7, [.ref rw, .ref rc, .int aC, .int aP, .int aA, .int rD, .int rV])), (rw, .inl (cs 0, 5, .inl frw)), (rc, .inl (cs 4, 5, .inr (.inr (.inr (.inr (rowsF 5 rr)))))), ((rr 0), .inl (cs 0, 4, .inl (frr 0))), ((rr 1), .inl (cs 0, 4, .inl (frr 1))), ((rr 2), .inl (cs 0, 4, .inl (frr 2))), ((rr 3), .inl (cs 0, 4, .inl (frr 3))), ((rr 4), .inl (cs 0, 4, .inl (frr 4))), (pg, .inr (2, [.ref cd, .int (nI ps)])), (cd, .inl (cs 0, 90, .inl fcd))] sz [.ref x0]) (va_Qi (fun (r : Int32) (u : Unit) => True) (fun u t => ∃ (c2 : Nat), ∃ (rP2 : Nat), ∃ (rA2 : Nat), ∃ (rD2 : Int32), ∃ (rV2 : Int32), ∃ (frw2 : Nat → Int32), ∃ (frr2 : Nat → Nat → Int32), (c2 ≤ 4) ∧ (rP2 ≤ 4) ∧ (rA2 ≤ 4) ∧ va_P D vwCl [(x0, .inr (11, [.ref pg, .ref rd, .ref aq, .ref py, .ref pl, .ref ch, .ref ro, .int (nI pn), .int td])), (rd, .inr (7, [.ref rw, .ref rc, .int (nI (c2 + 1)), .int (nI rP2), .int (nI rA2), .int rD2, .int rV2])), (rw, .inl (cs 0, 5, .inl frw2)), (rc, .inl (cs 4, 5, .inr (.inr (.inr (.inr (rowsF 5 rr)))))), ((rr 0), .inl (cs 0, 4, .inl (frr2 0))), ((rr 1), .inl (cs 0, 4, .inl (frr2 1))), ((rr 2), .inl (cs 0, 4, .inl (frr2 2))), ((rr 3), .inl (cs 0, 4, .inl (frr2 3))), ((rr 4), .inl (cs 0, 4, .inl (frr2 4))), (pg, .inr (2, [.ref cd, .int (nI ps)])), (cd, .inl (cs 0, 90, .inl fcd))] t.heap ∧ va_D (va_A [(x0, .inr (11, [.ref pg, .ref rd, .ref aq, .ref py, .ref pl, .ref ch, .ref ro, .int (nI pn), .int td])), (rd, .inr (7, [.ref rw, .ref rc, .int aC, .int aP, .int aA, .int rD, .int rV])), (rw, .inl (cs 0, 5, .inl frw)), (rc, .inl (cs 4, 5, .inr (.inr (.inr (.inr (rowsF 5 rr)))))), ((rr 0), .inl (cs 0, 4, .inl (frr 0))), ((rr 1), .inl (cs 0, 4, .inl (frr 1))), ((rr 2), .inl (cs 0, 4, .inl (frr 2))), ((rr 3), .inl (cs 0, 4, .inl (frr 3))), ((rr 4), .inl (cs 0, 4, .inl (frr 4))), (pg, .inr (2, [.ref cd, .int (nI ps)])), (cd, .inl (cs 0, 90, .inl fcd))] sz) [(x0, .inr (11, [.ref pg, .ref rd, .ref aq, .ref py, .ref pl, .ref ch, .ref ro, .int (nI pn), .int td])), (rd, .inr (7, [.ref rw, .ref rc, .int (nI (c2 + 1)), .int (nI rP2), .int (nI rA2), .int rD2, .int rV2])), (rw, .inl (cs 0, 5, .inl frw2)), (rc, .inl (cs 4, 5, .inr (.inr (.inr (.inr (rowsF 5 rr)))))), ((rr 0), .inl (cs 0, 4, .inl (frr2 0))), ((rr 1), .inl (cs 0, 4, .inl (frr2 1))), ((rr 2), .inl (cs 0, 4, .inl (frr2 2))), ((rr 3), .inl (cs 0, 4, .inl (frr2 3))), ((rr 4), .inl (cs 0, 4, .inl (frr2 4))), (pg, .inr (2, [.ref cd, .int (nI ps)])), (cd, .inl (cs 0, 90, .inl fcd))]) (va_A [(x0, .inr (11, [.ref pg, .ref rd, .ref aq, .ref py, .ref pl, .ref ch, .ref ro, .int (nI pn), .int td])), (rd, .inr (7, [.ref rw, .ref rc, .int aC, .int aP, .int aA, .int rD, .int rV])), (rw, .inl (cs 0, 5, .inl frw)), (rc, .inl (cs 4, 5, .inr (.inr (.inr (.inr (rowsF 5 rr)))))), ((rr 0), .inl (cs 0, 4, .inl (frr 0))), ((rr 1), .inl (cs 0, 4, .inl (frr 1))), ((rr 2), .inl (cs 0, 4, .inl (frr 2))), ((rr 3), .inl (cs 0, 4, .inl (frr 3))), ((rr 4), .inl (cs 0, 4, .inl (frr 4))), (pg, .inr (2, [.ref cd, .int (nI ps)])), (cd, .inl (cs 0, 90, .inl fcd))] sz)) 0 0 (va_A [(x0, .inr (11, [.ref pg, .ref rd, .ref aq, .ref py, .ref pl, .ref ch, .ref ro, .int (nI pn), .int td])), (rd, .inr (7, [.ref rw, .ref rc, .int aC, .int aP, .int aA, .int rD, .int rV])), (rw, .inl (cs 0, 5, .inl frw)), (rc, .inl (cs 4, 5, .inr (.inr (.inr (.inr (rowsF 5 rr)))))), ((rr 0), .inl (cs 0, 4, .inl (frr 0))), ((rr 1), .inl (cs 0, 4, .inl (frr 1))), ((rr 2), .inl (cs 0, 4, .inl (frr 2))), ((rr 3), .inl (cs 0, 4, .inl (frr 3))), ((rr 4), .inl (cs 0, 4, .inl (frr 4))), (pg, .inr (2, [.ref cd, .int (nI ps)])), (cd, .inl (cs 0, 90, .inl fcd))] sz) := by
  refine Met.ofW (cc := cX11_fault) (maxL := 1) (ret := (some .int)) (by decide) rfl ?_
  intro p e s m args below meth c s₁ B hml hv
  obtain ⟨hargs, hsz, hP, hK, hD0⟩ := hv
  have hx := B.exec
  have hb := B.bytes
  have hr := B.returns
  have hts := atoms_spec (ws := Cond.code yX11_fault cX11_fault 1 (some .int) :: gw_tbl) B.pre
  have hg := fun (w : Cond) (h : w ∈ gw_tbl) => hts w (List.mem_cons_of_mem _ h)
  have hown : s.vm.findClass RX11 = some m.cls := findClass_of_methodNamed B.named
  have hlocks := B.notSynchronized
  subst hsz
  have hD := hD0.self (sz := s.heap.size)
  generalize hAe : va_A [(x0, .inr (11, [.ref pg, .ref rd, .ref aq, .ref py, .ref pl, .ref ch, .ref ro, .int (nI pn), .int td])), (rd, .inr (7, [.ref rw, .ref rc, .int aC, .int aP, .int aA, .int rD, .int rV])), (rw, .inl (cs 0, 5, .inl frw)), (rc, .inl (cs 4, 5, .inr (.inr (.inr (.inr (rowsF 5 rr)))))), ((rr 0), .inl (cs 0, 4, .inl (frr 0))), ((rr 1), .inl (cs 0, 4, .inl (frr 1))), ((rr 2), .inl (cs 0, 4, .inl (frr 2))), ((rr 3), .inl (cs 0, 4, .inl (frr 3))), ((rr 4), .inl (cs 0, 4, .inl (frr 4))), (pg, .inr (2, [.ref cd, .int (nI ps)])), (cd, .inl (cs 0, 90, .inl fcd))] s.heap.size = A at hD ⊢
  have hA : ∀ q : Nat, s.heap.size ≤ q → A q := fun q h => by rw [← hAe]; exact Or.inr h
  have hS : va_S A s.heap s.heap [] := va_S.rf
  have hP : va_P D vwCl [(x0, .inr (11, [.ref pg, .ref rd, .ref aq, .ref py, .ref pl, .ref ch, .ref ro, .int (nI pn), .int td])), (rd, .inr (7, [.ref rw, .ref rc, .int aC, .int aP, .int aA, .int rD, .int rV])), (rw, .inl (cs 0, 5, .inl frw)), (rc, .inl (cs 4, 5, .inr (.inr (.inr (.inr (rowsF 5 rr)))))), ((rr 0), .inl (cs 0, 4, .inl (frr 0))), ((rr 1), .inl (cs 0, 4, .inl (frr 1))), ((rr 2), .inl (cs 0, 4, .inl (frr 2))), ((rr 3), .inl (cs 0, 4, .inl (frr 3))), ((rr 4), .inl (cs 0, 4, .inl (frr 4))), (pg, .inr (2, [.ref cd, .int (nI ps)])), (cd, .inl (cs 0, 90, .inl fcd))] s.heap := hP
  have hl := lv_entry ([.ref x0]) (n := 1) (Nat.le_of_ble_eq_true rfl)
  rw [show entryFrame m args 1 = F0 m 0 (lg_sl ([.ref x0]) ++ List.replicate (1 - (lg_sl ([.ref x0])).length) Slot.unset).toArray [] from by rw [hargs]; exact lg_entry_eq ..]
  generalize (lg_sl ([.ref x0]) ++ List.replicate (1 - (lg_sl ([.ref x0])).length) Slot.unset).toArray = ls at hl ⊢
  have hl : lv_has ls 1 [(0, .ref x0)] := hl
  refine W_genQ (fun Q hQ => ?_)
  refine lv_aload_n hx hb dX11_fault_0 rfl (lv_at hl 0 rfl) ?_
  refine va_get (D := D) (ci := 11) (v := .ref rd) (C := RX11) (T := TX11) (N := 9) hx hb hg gwX11 hown hK hP 0 rfl rfl 1 (by decide) (hg _ kw_518) (fun _ h9 => h9) rfl dX11_fault_1 ?_
  refine lv_aload_n hx hb dX11_fault_4 rfl (lv_at hl 0 rfl) ?_
  refine va_get (D := D) (ci := 11) (v := .ref pg) (C := RX11) (T := TX11) (N := 9) hx hb hg gwX11 hown hK hP 0 rfl rfl 0 (by decide) (hg _ kw_512) (fun _ h9 => h9) rfl dX11_fault_5 ?_
  have hPc := hP.sub (ws' := [(rd, .inr (7, [.ref rw, .ref rc, .int aC, .int aP, .int aA, .int rD, .int rV])), (rw, .inl (cs 0, 5, .inl frw)), (rc, .inl (cs 4, 5, .inr (.inr (.inr (.inr (rowsF 5 rr)))))), ((rr 0), .inl (cs 0, 4, .inl (frr 0))), ((rr 1), .inl (cs 0, 4, .inl (frr 1))), ((rr 2), .inl (cs 0, 4, .inl (frr 2))), ((rr 3), .inl (cs 0, 4, .inl (frr 3))), ((rr 4), .inl (cs 0, 4, .inl (frr 4))), (pg, .inr (2, [.ref cd, .int (nI ps)])), (cd, .inl (cs 0, 90, .inl fcd))]) [1, 2, 3, 4, 5, 6, 7, 8, 9, 10] rfl
  have hDc := hD.sub (ws' := [(rd, .inr (7, [.ref rw, .ref rc, .int aC, .int aP, .int aA, .int rD, .int rV])), (rw, .inl (cs 0, 5, .inl frw)), (rc, .inl (cs 4, 5, .inr (.inr (.inr (.inr (rowsF 5 rr)))))), ((rr 0), .inl (cs 0, 4, .inl (frr 0))), ((rr 1), .inl (cs 0, 4, .inl (frr 1))), ((rr 2), .inl (cs 0, 4, .inl (frr 2))), ((rr 3), .inl (cs 0, 4, .inl (frr 3))), ((rr 4), .inl (cs 0, 4, .inl (frr 4))), (pg, .inr (2, [.ref cd, .int (nI ps)])), (cd, .inl (cs 0, 90, .inl fcd))]) [1, 2, 3, 4, 5, 6, 7, 8, 9, 10] (by decide) rfl
  have hFc := va_free (wc := [(rd, .inr (7, [.ref rw, .ref rc, .int aC, .int aP, .int aA, .int rD, .int rV])), (rw, .inl (cs 0, 5, .inl frw)), (rc, .inl (cs 4, 5, .inr (.inr (.inr (.inr (rowsF 5 rr)))))), ((rr 0), .inl (cs 0, 4, .inl (frr 0))), ((rr 1), .inl (cs 0, 4, .inl (frr 1))), ((rr 2), .inl (cs 0, 4, .inl (frr 2))), ((rr 3), .inl (cs 0, 4, .inl (frr 3))), ((rr 4), .inl (cs 0, 4, .inl (frr 4))), (pg, .inr (2, [.ref cd, .int (nI ps)])), (cd, .inl (cs 0, 90, .inl fcd))]) hD hS hA [1, 2, 3, 4, 5, 6, 7, 8, 9, 10] rfl
  refine va_calli (va_runV (As := [.ref pg]) (rest := []) ⟨hx, hb, hml, hown, hg⟩ (r_readUntilFault l D cs rd rw rc aC aP aA rD rV rr frr frw pg cd ps (by omega) fcd _) (cwV 1 hg (gw_V kw_520 kw_521 kw_522 kw_54 kw_519) rfl rfl rfl (by decide +kernel) ⟨(Nat.le_of_ble_eq_true rfl), (Nat.le_of_ble_eq_true rfl)⟩) (pr_MV (q := (RX7, TX7, 7)) 7 0 hK hPc hDc rfl rfl) rfl rfl hl.1 rfl (lv_room (Nat.le_of_ble_eq_true rfl)) dX11_fault_8 ⟨(Nat.le_of_ble_eq_true rfl), (Nat.le_of_ble_eq_true rfl)⟩) hS (fun q _ h => hFc q h) hFc (fun r_8 u t H1 locs ht hvm h_8 hB hz1 hk1 hS => ?_)
  obtain ⟨c2_8, rP2_8, rA2_8, rD2_8, rV2_8, frw2_8, frr2_8, hc2_8, hrP2_8, hrA2_8, hP1, hD1⟩ := hB
  rw [ht] at hP1
  obtain ⟨hP, hD⟩ := va_join (wr := [(x0, .inr (11, [.ref pg, .ref rd, .ref aq, .ref py, .ref pl, .ref ch, .ref ro, .int (nI pn), .int td]))]) (w1 := [(rd, .inr (7, [.ref rw, .ref rc, .int (nI (c2_8 + 1)), .int (nI rP2_8), .int (nI rA2_8), .int rD2_8, .int rV2_8])), (rw, .inl (cs 0, 5, .inl frw2_8)), (rc, .inl (cs 4, 5, .inr (.inr (.inr (.inr (rowsF 5 rr)))))), ((rr 0), .inl (cs 0, 4, .inl (frr2_8 0))), ((rr 1), .inl (cs 0, 4, .inl (frr2_8 1))), ((rr 2), .inl (cs 0, 4, .inl (frr2_8 2))), ((rr 3), .inl (cs 0, 4, .inl (frr2_8 3))), ((rr 4), .inl (cs 0, 4, .inl (frr2_8 4))), (pg, .inr (2, [.ref cd, .int (nI ps)])), (cd, .inl (cs 0, 90, .inl fcd))]) hP hD [1, 2, 3, 4, 5, 6, 7, 8, 9, 10] [0] rfl rfl (by decide) (by decide) hk1 hFc hP1 hD1
  generalize H1 = H at hP hS ⊢
  have hP : va_P D vwCl [(x0, .inr (11, [.ref pg, .ref rd, .ref aq, .ref py, .ref pl, .ref ch, .ref ro, .int (nI pn), .int td])), (rd, .inr (7, [.ref rw, .ref rc, .int (nI (c2_8 + 1)), .int (nI rP2_8), .int (nI rA2_8), .int rD2_8, .int rV2_8])), (rw, .inl (cs 0, 5, .inl frw2_8)), (rc, .inl (cs 4, 5, .inr (.inr (.inr (.inr (rowsF 5 rr)))))), ((rr 0), .inl (cs 0, 4, .inl (frr2_8 0))), ((rr 1), .inl (cs 0, 4, .inl (frr2_8 1))), ((rr 2), .inl (cs 0, 4, .inl (frr2_8 2))), ((rr 3), .inl (cs 0, 4, .inl (frr2_8 3))), ((rr 4), .inl (cs 0, 4, .inl (frr2_8 4))), (pg, .inr (2, [.ref cd, .int (nI ps)])), (cd, .inl (cs 0, 90, .inl fcd))] H := hP
  have hD : va_D A [(x0, .inr (11, [.ref pg, .ref rd, .ref aq, .ref py, .ref pl, .ref ch, .ref ro, .int (nI pn), .int td])), (rd, .inr (7, [.ref rw, .ref rc, .int (nI (c2_8 + 1)), .int (nI rP2_8), .int (nI rA2_8), .int rD2_8, .int rV2_8])), (rw, .inl (cs 0, 5, .inl frw2_8)), (rc, .inl (cs 4, 5, .inr (.inr (.inr (.inr (rowsF 5 rr)))))), ((rr 0), .inl (cs 0, 4, .inl (frr2_8 0))), ((rr 1), .inl (cs 0, 4, .inl (frr2_8 1))), ((rr 2), .inl (cs 0, 4, .inl (frr2_8 2))), ((rr 3), .inl (cs 0, 4, .inl (frr2_8 3))), ((rr 4), .inl (cs 0, 4, .inl (frr2_8 4))), (pg, .inr (2, [.ref cd, .int (nI ps)])), (cd, .inl (cs 0, 90, .inl fcd))] := hD
  refine W.cs (cells' := 0) (slots' := 0) rfl rfl ?_
  refine W_sQ hQ ?_
  refine W.widen (k := 0) (n := 0) (Nat.le_of_ble_eq_true rfl) (Nat.le_of_ble_eq_true rfl) ?_
  have hP9 := hP.sub (ws' := [(x0, .inr (11, [.ref pg, .ref rd, .ref aq, .ref py, .ref pl, .ref ch, .ref ro, .int (nI pn), .int td])), (rd, .inr (7, [.ref rw, .ref rc, .int (nI (c2_8 + 1)), .int (nI rP2_8), .int (nI rA2_8), .int rD2_8, .int rV2_8])), (rw, .inl (cs 0, 5, .inl frw2_8)), (rc, .inl (cs 4, 5, .inr (.inr (.inr (.inr (rowsF 5 rr)))))), ((rr 0), .inl (cs 0, 4, .inl (frr2_8 0))), ((rr 1), .inl (cs 0, 4, .inl (frr2_8 1))), ((rr 2), .inl (cs 0, 4, .inl (frr2_8 2))), ((rr 3), .inl (cs 0, 4, .inl (frr2_8 3))), ((rr 4), .inl (cs 0, 4, .inl (frr2_8 4))), (pg, .inr (2, [.ref cd, .int (nI ps)])), (cd, .inl (cs 0, 90, .inl fcd))]) [0, 1, 2, 3, 4, 5, 6, 7, 8, 9, 10] rfl
  have hD9 := hD.sub (ws' := [(x0, .inr (11, [.ref pg, .ref rd, .ref aq, .ref py, .ref pl, .ref ch, .ref ro, .int (nI pn), .int td])), (rd, .inr (7, [.ref rw, .ref rc, .int (nI (c2_8 + 1)), .int (nI rP2_8), .int (nI rA2_8), .int rD2_8, .int rV2_8])), (rw, .inl (cs 0, 5, .inl frw2_8)), (rc, .inl (cs 4, 5, .inr (.inr (.inr (.inr (rowsF 5 rr)))))), ((rr 0), .inl (cs 0, 4, .inl (frr2_8 0))), ((rr 1), .inl (cs 0, 4, .inl (frr2_8 1))), ((rr 2), .inl (cs 0, 4, .inl (frr2_8 2))), ((rr 3), .inl (cs 0, 4, .inl (frr2_8 3))), ((rr 4), .inl (cs 0, 4, .inl (frr2_8 4))), (pg, .inr (2, [.ref cd, .int (nI ps)])), (cd, .inl (cs 0, 90, .inl fcd))]) [0, 1, 2, 3, 4, 5, 6, 7, 8, 9, 10] (by decide) rfl
  exact W.iret (v := r_8) hx hb hr (fun t ht hW => ⟨⟨r_8, (), rfl, trivial, ⟨c2_8, rP2_8, rA2_8, rD2_8, rV2_8, frw2_8, frr2_8, (by omega), (by omega), (by omega), by rw [ht]; exact hP9, hD9⟩⟩, hS.F ht⟩) hS.2.2 dX11_fault_11

theorem dX11_chance_0 : decode cX11_chance 0 = .ok (.aload_n 0, 1) := by decide +kernel
theorem dX11_chance_1 : decode cX11_chance 1 = .ok (.getfield 26, 3) := by decide +kernel
theorem dX11_chance_4 : decode cX11_chance 4 = .ok (.iload_n 1, 1) := by decide +kernel
theorem dX11_chance_5 : decode cX11_chance 5 = .ok (.invokevirtual 90, 3) := by decide +kernel
theorem dX11_chance_8 : decode cX11_chance 8 = .ok (.ifCond .ne 6, 3) := by decide +kernel
theorem dX11_chance_11 : decode cX11_chance 11 = .ok (.bipush (-101), 2) := by decide +kernel
theorem dX11_chance_13 : decode cX11_chance 13 = .ok (.ireturn, 1) := by decide +kernel
theorem dX11_chance_14 : decode cX11_chance 14 = .ok (.iload_n 2, 1) := by decide +kernel
theorem dX11_chance_15 : decode cX11_chance 15 = .ok (.iconst (-1), 1) := by decide +kernel
theorem dX11_chance_16 : decode cX11_chance 16 = .ok (.if_icmp .ne 13, 3) := by decide +kernel
theorem dX11_chance_19 : decode cX11_chance 19 = .ok (.aload_n 0, 1) := by decide +kernel
theorem dX11_chance_20 : decode cX11_chance 20 = .ok (.getfield 26, 3) := by decide +kernel
theorem dX11_chance_23 : decode cX11_chance 23 = .ok (.getfield 94, 3) := by decide +kernel
theorem dX11_chance_26 : decode cX11_chance 26 = .ok (.iload_n 1, 1) := by decide +kernel
theorem dX11_chance_27 : decode cX11_chance 27 = .ok (.iaload, 1) := by decide +kernel
theorem dX11_chance_28 : decode cX11_chance 28 = .ok (.ireturn, 1) := by decide +kernel
theorem dX11_chance_29 : decode cX11_chance 29 = .ok (.aload_n 0, 1) := by decide +kernel
theorem dX11_chance_30 : decode cX11_chance 30 = .ok (.getfield 26, 3) := by decide +kernel
theorem dX11_chance_33 : decode cX11_chance 33 = .ok (.iload_n 2, 1) := by decide +kernel
theorem dX11_chance_34 : decode cX11_chance 34 = .ok (.invokevirtual 98, 3) := by decide +kernel
theorem dX11_chance_37 : decode cX11_chance 37 = .ok (.ifCond .eq 17, 3) := by decide +kernel
theorem dX11_chance_40 : decode cX11_chance 40 = .ok (.aload_n 0, 1) := by decide +kernel
theorem dX11_chance_41 : decode cX11_chance 41 = .ok (.getfield 26, 3) := by decide +kernel
theorem dX11_chance_44 : decode cX11_chance 44 = .ok (.getfield 101, 3) := by decide +kernel
theorem dX11_chance_47 : decode cX11_chance 47 = .ok (.iload_n 1, 1) := by decide +kernel
theorem dX11_chance_48 : decode cX11_chance 48 = .ok (.aaload, 1) := by decide +kernel
theorem dX11_chance_49 : decode cX11_chance 49 = .ok (.iload_n 2, 1) := by decide +kernel
theorem dX11_chance_50 : decode cX11_chance 50 = .ok (.iaload, 1) := by decide +kernel
theorem dX11_chance_51 : decode cX11_chance 51 = .ok (.goto 5, 3) := by decide +kernel
theorem dX11_chance_54 : decode cX11_chance 54 = .ok (.bipush (-101), 2) := by decide +kernel
theorem dX11_chance_56 : decode cX11_chance 56 = .ok (.ireturn, 1) := by decide +kernel
theorem kw_523 : (.fieldLink RX11 26 "NobodyChecks" "asked" "LNobodyChecks$Question;" : Cond) ∈ gw_tbl := gw_in (by decide +kernel) (by decide +kernel)
theorem kw_524 : (.code yX5_hasCase cX5_hasCase 2 (some .boolean) : Cond) ∈ gw_tbl := gw_in (by decide +kernel) (by decide +kernel)
theorem kw_525 : (.methodLink RX11 90 yX5_hasCase : Cond) ∈ gw_tbl := gw_in (by decide +kernel) (by decide +kernel)
theorem kw_526 : (.instanceMethod yX5_hasCase : Cond) ∈ gw_tbl := gw_in (by decide +kernel) (by decide +kernel)
theorem kw_527 : (.selects RX5 yX5_hasCase yX5_hasCase : Cond) ∈ gw_tbl := gw_in (by decide +kernel) (by decide +kernel)
theorem kw_528 : (.code yX5_hasPerson cX5_hasPerson 2 (some .boolean) : Cond) ∈ gw_tbl := gw_in (by decide +kernel) (by decide +kernel)
theorem kw_529 : (.methodLink RX11 98 yX5_hasPerson : Cond) ∈ gw_tbl := gw_in (by decide +kernel) (by decide +kernel)
theorem kw_530 : (.instanceMethod yX5_hasPerson : Cond) ∈ gw_tbl := gw_in (by decide +kernel) (by decide +kernel)
theorem kw_531 : (.selects RX5 yX5_hasPerson yX5_hasPerson : Cond) ∈ gw_tbl := gw_in (by decide +kernel) (by decide +kernel)
theorem kw_532 : (.fieldLink RX11 101 "NobodyChecks$Question" "chances" "[[I" : Cond) ∈ gw_tbl := gw_in (by decide +kernel) (by decide +kernel)
theorem kw_533 : (.fieldLink RX11 94 "NobodyChecks$Question" "weights" "[I" : Cond) ∈ gw_tbl := gw_in (by decide +kernel) (by decide +kernel)

set_option maxHeartbeats 4000000 in
set_option maxRecDepth 100000 in
theorem x_chance (l : Launch) (D : va_G) (cs : Nat → ClassId) (x0 : Nat) (py : Nat) (pn : Nat) (hpn : pn ≤ 8) (td : Int32) (pg : Nat) (rd : Nat) (pl : Nat) (ch : Nat) (ro : Nat) (aq : Nat) (aw : Nat) (ac : Nat) (ao : Nat) (am : Nat) (C : Nat) (hC5 : C ≤ 5) (P : Nat) (hP4 : P ≤ 4) (tot : Int64) (faw : Nat → Int32) (ar : Nat → Nat) (far : Nat → Nat → Int32) (p1 : Int32) (p2 : Int32) : Met l yX11_chance (Cond.code yX11_chance cX11_chance 3 (some .int) :: gw_tbl) ({ frames := 1, cells := 0, slots := 0, locals := 21 }) (pc_S D cs [(x0, .inr (11, [.ref pg, .ref rd, .ref aq, .ref py, .ref pl, .ref ch, .ref ro, .int (nI pn), .int td])), (aq, .inr (5, [.ref aw, .ref ac, .ref ao, .ref am, .int (nI C), .int (nI P), .long tot])), (aw, .inl (cs 0, 5, .inl faw)), (ac, .inl (cs 4, 5, .inr (.inr (.inr (.inr (rowsF 5 ar)))))), ((ar 0), .inl (cs 0, 4, .inl (far 0))), ((ar 1), .inl (cs 0, 4, .inl (far 1))), ((ar 2), .inl (cs 0, 4, .inl (far 2))), ((ar 3), .inl (cs 0, 4, .inl (far 3))), ((ar 4), .inl (cs 0, 4, .inl (far 4)))] [.ref x0, .int p1, .int p2]) (vp_Si (fun r => True)) 0 0 (fun _ => False) := by
  refine Met.ofW (cc := cX11_chance) (maxL := 3) (ret := (some .int)) (by decide) rfl ?_
  intro p e s m args below meth c s₁ B hml hv
  obtain ⟨hargs, hP, hK⟩ := hv
  have hx := B.exec
  have hb := B.bytes
  have hr := B.returns
  have hts := atoms_spec (ws := Cond.code yX11_chance cX11_chance 3 (some .int) :: gw_tbl) B.pre
  have hg := fun (w : Cond) (h : w ∈ gw_tbl) => hts w (List.mem_cons_of_mem _ h)
  have hown : s.vm.findClass RX11 = some m.cls := findClass_of_methodNamed B.named
  have hlocks := B.notSynchronized
  have hl := lv_entry ([.ref x0, .int p1, .int p2]) (n := 3) (Nat.le_of_ble_eq_true rfl)
  rw [show entryFrame m args 3 = F0 m 0 (lg_sl ([.ref x0, .int p1, .int p2]) ++ List.replicate (3 - (lg_sl ([.ref x0, .int p1, .int p2])).length) Slot.unset).toArray [] from by rw [hargs]; exact lg_entry_eq ..]
  generalize (lg_sl ([.ref x0, .int p1, .int p2]) ++ List.replicate (3 - (lg_sl ([.ref x0, .int p1, .int p2])).length) Slot.unset).toArray = ls at hl ⊢
  have hl : lv_has ls 3 [(0, .ref x0), (1, .int p1), (2, .int p2)] := hl
  refine W_genQ (fun Q hQ => ?_)
  have hlm := lim_le hP4
  have hlq := lim_pos P
  have hsg := sgn_le hP4
  refine lv_aload_n hx hb dX11_chance_0 rfl (lv_at hl 0 rfl) ?_
  refine va_get (D := D) (ci := 11) (v := .ref aq) (C := RX11) (T := TX11) (N := 9) hx hb hg gwX11 hown hK hP 0 rfl rfl 2 (by decide) (hg _ kw_523) (fun _ h9 => h9) rfl dX11_chance_1 ?_
  refine lv_iload_n hx hb dX11_chance_4 rfl (lv_at hl 1 rfl) ?_
  have hPc := hP.sub (ws' := [(aq, .inr (5, [.ref aw, .ref ac, .ref ao, .ref am, .int (nI C), .int (nI P), .long tot]))]) [1] rfl
  refine vp_callSi (W.runV (As := [.int p1]) (rest := []) ⟨hx, hb, hml, hown, hg⟩ (q_hasCase l D cs aq aw ac ao am C (by omega) P (by omega) tot p1) (cwV 1 hg (gw_V kw_525 kw_526 kw_527 kw_19 kw_524) rfl rfl rfl (by decide +kernel) ⟨(Nat.le_of_ble_eq_true rfl), (Nat.le_of_ble_eq_true rfl)⟩) (pr_SV (q := (RX5, TX5, 7)) 5 0 hK hPc rfl rfl) rfl rfl hl.1 rfl (lv_room (Nat.le_of_ble_eq_true rfl)) dX11_chance_5 ⟨(Nat.le_of_ble_eq_true rfl), (Nat.le_of_ble_eq_true rfl)⟩) (fun r_5 h_5 => ?_)
  rcases h_5 with rfl | ⟨rfl, k_5, hk_5, rfl⟩
  · refine lv_if_ne (tgt := 14) hx hb dX11_chance_8 (by decide) (fun c_8 => absurd c_8 (by decide)) (fun c_8 => ?_)
    refine lv_bipush (v := (-101)) hx hb dX11_chance_11 (by decide) ?_
    refine W_sQ hQ ?_
    exact W.iret (v := (-101)) hx hb hr (fun t ht hW => ⟨(-101), rfl, trivial, ht⟩) (fun _ h => absurd h List.not_mem_nil) dX11_chance_13
  · refine lv_if_ne (tgt := 14) hx hb dX11_chance_8 (by decide) (fun c_8 => ?_) (fun c_8 => absurd c_8 (by decide))
    refine lv_iload_n hx hb dX11_chance_14 rfl (lv_at hl 2 rfl) ?_
    refine lv_iconst (v := (-1)) hx hb dX11_chance_15 (by decide) ?_
    refine lv_icmp_ne (tgt := 29) hx hb dX11_chance_16 (by decide) (fun c_16 => ?_) (fun c_16 => ?_)
    · refine lv_aload_n hx hb dX11_chance_29 rfl (lv_at hl 0 rfl) ?_
      refine va_get (D := D) (ci := 11) (v := .ref aq) (C := RX11) (T := TX11) (N := 9) hx hb hg gwX11 hown hK hP 0 rfl rfl 2 (by decide) (hg _ kw_523) (fun _ h9 => h9) rfl dX11_chance_30 ?_
      refine lv_iload_n hx hb dX11_chance_33 rfl (lv_at hl 2 rfl) ?_
      have hPc := hP.sub (ws' := [(aq, .inr (5, [.ref aw, .ref ac, .ref ao, .ref am, .int (nI C), .int (nI P), .long tot]))]) [1] rfl
      refine vp_callSi (W.runV (As := [.int p2]) (rest := []) ⟨hx, hb, hml, hown, hg⟩ (q_hasPerson l D cs aq aw ac ao am C (by omega) P (by omega) tot p2) (cwV 1 hg (gw_V kw_529 kw_530 kw_531 kw_19 kw_528) rfl rfl rfl (by decide +kernel) ⟨(Nat.le_of_ble_eq_true rfl), (Nat.le_of_ble_eq_true rfl)⟩) (pr_SV (q := (RX5, TX5, 7)) 5 0 hK hPc rfl rfl) rfl rfl hl.1 rfl (lv_room (Nat.le_of_ble_eq_true rfl)) dX11_chance_34 ⟨(Nat.le_of_ble_eq_true rfl), (Nat.le_of_ble_eq_true rfl)⟩) (fun r_34 h_34 => ?_)
      rcases h_34 with rfl | ⟨rfl, k_34, hk_34, rfl⟩
      · refine lv_if_eq (tgt := 54) hx hb dX11_chance_37 (by decide) (fun c_37 => ?_) (fun c_37 => absurd c_37 (by decide))
        refine lv_bipush (v := (-101)) hx hb dX11_chance_54 (by decide) ?_
        refine W_sQ hQ ?_
        exact W.iret (v := (-101)) hx hb hr (fun t ht hW => ⟨(-101), rfl, trivial, ht⟩) (fun _ h => absurd h List.not_mem_nil) dX11_chance_56
      · refine lv_if_eq (tgt := 54) hx hb dX11_chance_37 (by decide) (fun c_37 => absurd c_37 (by decide)) (fun c_37 => ?_)
        refine lv_aload_n hx hb dX11_chance_40 rfl (lv_at hl 0 rfl) ?_
        refine va_get (D := D) (ci := 11) (v := .ref aq) (C := RX11) (T := TX11) (N := 9) hx hb hg gwX11 hown hK hP 0 rfl rfl 2 (by decide) (hg _ kw_523) (fun _ h9 => h9) rfl dX11_chance_41 ?_
        refine va_get (D := D) (ci := 5) (v := .ref ac) (C := RX5) (T := TX5) (N := 7) hx hb hg gwX5 hown hK hP 1 rfl rfl 1 (by decide) (hg _ kw_532) (fun _ h9 => h9) rfl dX11_chance_44 ?_
        refine lv_iload_n hx hb dX11_chance_47 rfl (lv_at hl 1 rfl) ?_
        refine va_aldR (k := k_5) hx hb hK hP 3 4 rfl rfl (show k_5 < 5 by omega) (by decide) dX11_chance_48 ?_
        refine lv_iload_n hx hb dX11_chance_49 rfl (lv_at hl 2 rfl) ?_
        refine va_iald hx hb hK hP (4 + k_5) 0 (rat_5 (g := fun j9 => (ar j9, .inl (cs 0, 4, .inl (far j9)))) (show k_5 < 5 by omega) ⟨rfl, rfl, rfl, rfl, rfl⟩) rfl (vp_in_nI (show k_34 < 4 by omega) (by decide)) dX11_chance_50 ?_
        refine lv_topi (fun z_50 e_50 => ?_)
        refine lv_goto (tgt := 56) hx hb dX11_chance_51 (by decide) ?_
        refine W_sQ hQ ?_
        exact W.iret (v := z_50) hx hb hr (fun t ht hW => ⟨z_50, rfl, trivial, ht⟩) (fun _ h => absurd h List.not_mem_nil) dX11_chance_56
    · subst c_16
      refine lv_aload_n hx hb dX11_chance_19 rfl (lv_at hl 0 rfl) ?_
      refine va_get (D := D) (ci := 11) (v := .ref aq) (C := RX11) (T := TX11) (N := 9) hx hb hg gwX11 hown hK hP 0 rfl rfl 2 (by decide) (hg _ kw_523) (fun _ h9 => h9) rfl dX11_chance_20 ?_
      refine va_get (D := D) (ci := 5) (v := .ref aw) (C := RX5) (T := TX5) (N := 7) hx hb hg gwX5 hown hK hP 1 rfl rfl 0 (by decide) (hg _ kw_533) (fun _ h9 => h9) rfl dX11_chance_23 ?_
      refine lv_iload_n hx hb dX11_chance_26 rfl (lv_at hl 1 rfl) ?_
      refine va_iald hx hb hK hP 2 0 rfl rfl (vp_in_nI (show k_5 < 5 by omega) (by decide)) dX11_chance_27 ?_
      refine lv_topi (fun z_27 e_27 => ?_)
      refine W_sQ hQ ?_
      exact W.iret (v := z_27) hx hb hr (fun t ht hW => ⟨z_27, rfl, trivial, ht⟩) (fun _ h => absurd h List.not_mem_nil) dX11_chance_28

theorem dX11_cost_0 : decode cX11_cost 0 = .ok (.aload_n 0, 1) := by decide +kernel
theorem dX11_cost_1 : decode cX11_cost 1 = .ok (.getfield 26, 3) := by decide +kernel
theorem dX11_cost_4 : decode cX11_cost 4 = .ok (.iload_n 1, 1) := by decide +kernel
theorem dX11_cost_5 : decode cX11_cost 5 = .ok (.invokevirtual 98, 3) := by decide +kernel
theorem dX11_cost_8 : decode cX11_cost 8 = .ok (.ifCond .ne 6, 3) := by decide +kernel
theorem dX11_cost_11 : decode cX11_cost 11 = .ok (.bipush (-101), 2) := by decide +kernel
theorem dX11_cost_13 : decode cX11_cost 13 = .ok (.ireturn, 1) := by decide +kernel
theorem dX11_cost_14 : decode cX11_cost 14 = .ok (.iload_n 2, 1) := by decide +kernel
theorem dX11_cost_15 : decode cX11_cost 15 = .ok (.iconst 0, 1) := by decide +kernel
theorem dX11_cost_16 : decode cX11_cost 16 = .ok (.sipush 999, 3) := by decide +kernel
theorem dX11_cost_19 : decode cX11_cost 19 = .ok (.invokestatic 105, 3) := by decide +kernel
theorem dX11_cost_22 : decode cX11_cost 22 = .ok (.ifCond .ne 6, 3) := by decide +kernel
theorem dX11_cost_25 : decode cX11_cost 25 = .ok (.bipush (-102), 2) := by decide +kernel
theorem dX11_cost_27 : decode cX11_cost 27 = .ok (.ireturn, 1) := by decide +kernel
theorem dX11_cost_28 : decode cX11_cost 28 = .ok (.aload_n 0, 1) := by decide +kernel
theorem dX11_cost_29 : decode cX11_cost 29 = .ok (.getfield 26, 3) := by decide +kernel
theorem dX11_cost_32 : decode cX11_cost 32 = .ok (.getfield 109, 3) := by decide +kernel
theorem dX11_cost_35 : decode cX11_cost 35 = .ok (.iload_n 1, 1) := by decide +kernel
theorem dX11_cost_36 : decode cX11_cost 36 = .ok (.iaload, 1) := by decide +kernel
theorem dX11_cost_37 : decode cX11_cost 37 = .ok (.istore_n 3, 1) := by decide +kernel
theorem dX11_cost_38 : decode cX11_cost 38 = .ok (.aload_n 0, 1) := by decide +kernel
theorem dX11_cost_39 : decode cX11_cost 39 = .ok (.getfield 26, 3) := by decide +kernel
theorem dX11_cost_42 : decode cX11_cost 42 = .ok (.getfield 109, 3) := by decide +kernel
theorem dX11_cost_45 : decode cX11_cost 45 = .ok (.iload_n 1, 1) := by decide +kernel
theorem dX11_cost_46 : decode cX11_cost 46 = .ok (.iload_n 2, 1) := by decide +kernel
theorem dX11_cost_47 : decode cX11_cost 47 = .ok (.iastore, 1) := by decide +kernel
theorem dX11_cost_48 : decode cX11_cost 48 = .ok (.iload_n 3, 1) := by decide +kernel
theorem dX11_cost_49 : decode cX11_cost 49 = .ok (.ireturn, 1) := by decide +kernel
theorem kw_534 : (.code yX11_isWithin cX11_isWithin 3 (some .boolean) : Cond) ∈ gw_tbl := gw_in (by decide +kernel) (by decide +kernel)
theorem kw_535 : (.methodLink RX11 105 yX11_isWithin : Cond) ∈ gw_tbl := gw_in (by decide +kernel) (by decide +kernel)
theorem kw_536 : (.static yX11_isWithin : Cond) ∈ gw_tbl := gw_in (by decide +kernel) (by decide +kernel)
theorem kw_537 : (.fieldLink RX11 109 "NobodyChecks$Question" "costs" "[I" : Cond) ∈ gw_tbl := gw_in (by decide +kernel) (by decide +kernel)

set_option maxHeartbeats 4000000 in
set_option maxRecDepth 100000 in
theorem x_cost (l : Launch) (D : va_G) (cs : Nat → ClassId) (x0 : Nat) (py : Nat) (pn : Nat) (hpn : pn ≤ 8) (td : Int32) (pg : Nat) (rd : Nat) (pl : Nat) (ch : Nat) (ro : Nat) (aq : Nat) (aw : Nat) (ac : Nat) (ao : Nat) (am : Nat) (C : Nat) (hC5 : C ≤ 5) (P : Nat) (hP4 : P ≤ 4) (tot : Int64) (fao : Nat → Int32) (p1 : Int32) (p2 : Int32) (sz : Nat) : Met l yX11_cost (Cond.code yX11_cost cX11_cost 4 (some .int) :: gw_tbl) ({ frames := 1, cells := 0, slots := 0, locals := 22 }) (pc_M D cs [(x0, .inr (11, [.ref pg, .ref rd, .ref aq, .ref py, .ref pl, .ref ch, .ref ro, .int (nI pn), .int td])), (aq, .inr (5, [.ref aw, .ref ac, .ref ao, .ref am, .int (nI C), .int (nI P), .long tot])), (ao, .inl (cs 0, 4, .inl fao))] sz [.ref x0, .int p1, .int p2]) (va_Qi (fun (r : Int32) (u : Unit) => True) (fun u t => ∃ (fao2 : Nat → Int32), va_P D vwCl [(x0, .inr (11, [.ref pg, .ref rd, .ref aq, .ref py, .ref pl, .ref ch, .ref ro, .int (nI pn), .int td])), (aq, .inr (5, [.ref aw, .ref ac, .ref ao, .ref am, .int (nI C), .int (nI P), .long tot])), (ao, .inl (cs 0, 4, .inl fao2))] t.heap ∧ va_D (va_A [(x0, .inr (11, [.ref pg, .ref rd, .ref aq, .ref py, .ref pl, .ref ch, .ref ro, .int (nI pn), .int td])), (aq, .inr (5, [.ref aw, .ref ac, .ref ao, .ref am, .int (nI C), .int (nI P), .long tot])), (ao, .inl (cs 0, 4, .inl fao))] sz) [(x0, .inr (11, [.ref pg, .ref rd, .ref aq, .ref py, .ref pl, .ref ch, .ref ro, .int (nI pn), .int td])), (aq, .inr (5, [.ref aw, .ref ac, .ref ao, .ref am, .int (nI C), .int (nI P), .long tot])), (ao, .inl (cs 0, 4, .inl fao2))]) (va_A [(x0, .inr (11, [.ref pg, .ref rd, .ref aq, .ref py, .ref pl, .ref ch, .ref ro, .int (nI pn), .int td])), (aq, .inr (5, [.ref aw, .ref ac, .ref ao, .ref am, .int (nI C), .int (nI P), .long tot])), (ao, .inl (cs 0, 4, .inl fao))] sz)) 0 0 (va_A [(x0, .inr (11, [.ref pg, .ref rd, .ref aq, .ref py, .ref pl, .ref ch, .ref ro, .int (nI pn), .int td])), (aq, .inr (5, [.ref aw, .ref ac, .ref ao, .ref am, .int (nI C), .int (nI P), .long tot])), (ao, .inl (cs 0, 4, .inl fao))] sz) := by
  refine Met.ofW (cc := cX11_cost) (maxL := 4) (ret := (some .int)) (by decide) rfl ?_
  intro p e s m args below meth c s₁ B hml hv
  obtain ⟨hargs, hsz, hP, hK, hD0⟩ := hv
  have hx := B.exec
  have hb := B.bytes
  have hr := B.returns
  have hts := atoms_spec (ws := Cond.code yX11_cost cX11_cost 4 (some .int) :: gw_tbl) B.pre
  have hg := fun (w : Cond) (h : w ∈ gw_tbl) => hts w (List.mem_cons_of_mem _ h)
  have hown : s.vm.findClass RX11 = some m.cls := findClass_of_methodNamed B.named
  have hlocks := B.notSynchronized
  subst hsz
  have hD := hD0.self (sz := s.heap.size)
  generalize hAe : va_A [(x0, .inr (11, [.ref pg, .ref rd, .ref aq, .ref py, .ref pl, .ref ch, .ref ro, .int (nI pn), .int td])), (aq, .inr (5, [.ref aw, .ref ac, .ref ao, .ref am, .int (nI C), .int (nI P), .long tot])), (ao, .inl (cs 0, 4, .inl fao))] s.heap.size = A at hD ⊢
  have hA : ∀ q : Nat, s.heap.size ≤ q → A q := fun q h => by rw [← hAe]; exact Or.inr h
  have hS : va_S A s.heap s.heap [] := va_S.rf
  have hP : va_P D vwCl [(x0, .inr (11, [.ref pg, .ref rd, .ref aq, .ref py, .ref pl, .ref ch, .ref ro, .int (nI pn), .int td])), (aq, .inr (5, [.ref aw, .ref ac, .ref ao, .ref am, .int (nI C), .int (nI P), .long tot])), (ao, .inl (cs 0, 4, .inl fao))] s.heap := hP
  have hl := lv_entry ([.ref x0, .int p1, .int p2]) (n := 4) (Nat.le_of_ble_eq_true rfl)
  rw [show entryFrame m args 4 = F0 m 0 (lg_sl ([.ref x0, .int p1, .int p2]) ++ List.replicate (4 - (lg_sl ([.ref x0, .int p1, .int p2])).length) Slot.unset).toArray [] from by rw [hargs]; exact lg_entry_eq ..]
  generalize (lg_sl ([.ref x0, .int p1, .int p2]) ++ List.replicate (4 - (lg_sl ([.ref x0, .int p1, .int p2])).length) Slot.unset).toArray = ls at hl ⊢
  have hl : lv_has ls 4 [(0, .ref x0), (1, .int p1), (2, .int p2)] := hl
  refine W_genQ (fun Q hQ => ?_)
  have hlm := lim_le hP4
  have hlq := lim_pos P
  have hsg := sgn_le hP4
  refine lv_aload_n hx hb dX11_cost_0 rfl (lv_at hl 0 rfl) ?_
  refine va_get (D := D) (ci := 11) (v := .ref aq) (C := RX11) (T := TX11) (N := 9) hx hb hg gwX11 hown hK hP 0 rfl rfl 2 (by decide) (hg _ kw_523) (fun _ h9 => h9) rfl dX11_cost_1 ?_
  refine lv_iload_n hx hb dX11_cost_4 rfl (lv_at hl 1 rfl) ?_
  have hPc := hP.sub (ws' := [(aq, .inr (5, [.ref aw, .ref ac, .ref ao, .ref am, .int (nI C), .int (nI P), .long tot]))]) [1] rfl
  refine vp_callSi (W.runV (As := [.int p1]) (rest := []) ⟨hx, hb, hml, hown, hg⟩ (q_hasPerson l D cs aq aw ac ao am C (by omega) P (by omega) tot p1) (cwV 1 hg (gw_V kw_529 kw_530 kw_531 kw_19 kw_528) rfl rfl rfl (by decide +kernel) ⟨(Nat.le_of_ble_eq_true rfl), (Nat.le_of_ble_eq_true rfl)⟩) (pr_SV (q := (RX5, TX5, 7)) 5 0 hK hPc rfl rfl) rfl rfl hl.1 rfl (lv_room (Nat.le_of_ble_eq_true rfl)) dX11_cost_5 ⟨(Nat.le_of_ble_eq_true rfl), (Nat.le_of_ble_eq_true rfl)⟩) (fun r_5 h_5 => ?_)
  rcases h_5 with rfl | ⟨rfl, k_5, hk_5, rfl⟩
  · refine lv_if_ne (tgt := 14) hx hb dX11_cost_8 (by decide) (fun c_8 => absurd c_8 (by decide)) (fun c_8 => ?_)
    refine lv_bipush (v := (-101)) hx hb dX11_cost_11 (by decide) ?_
    refine W_sQ hQ ?_
    refine W.widen (k := 0) (n := 0) (Nat.le_of_ble_eq_true rfl) (Nat.le_of_ble_eq_true rfl) ?_
    have hP9 := hP.sub (ws' := [(x0, .inr (11, [.ref pg, .ref rd, .ref aq, .ref py, .ref pl, .ref ch, .ref ro, .int (nI pn), .int td])), (aq, .inr (5, [.ref aw, .ref ac, .ref ao, .ref am, .int (nI C), .int (nI P), .long tot])), (ao, .inl (cs 0, 4, .inl fao))]) [0, 1, 2] rfl
    have hD9 := hD.sub (ws' := [(x0, .inr (11, [.ref pg, .ref rd, .ref aq, .ref py, .ref pl, .ref ch, .ref ro, .int (nI pn), .int td])), (aq, .inr (5, [.ref aw, .ref ac, .ref ao, .ref am, .int (nI C), .int (nI P), .long tot])), (ao, .inl (cs 0, 4, .inl fao))]) [0, 1, 2] (by decide) rfl
    exact W.iret (v := (-101)) hx hb hr (fun t ht hW => ⟨⟨(-101), (), rfl, trivial, ⟨fao, by rw [ht]; exact hP9, hD9⟩⟩, hS.F ht⟩) hS.2.2 dX11_cost_13
  · refine lv_if_ne (tgt := 14) hx hb dX11_cost_8 (by decide) (fun c_8 => ?_) (fun c_8 => absurd c_8 (by decide))
    refine lv_iload_n hx hb dX11_cost_14 rfl (lv_at hl 2 rfl) ?_
    refine lv_iconst (v := 0) hx hb dX11_cost_15 (by decide) ?_
    refine lv_sipush (v := 999) hx hb dX11_cost_16 (by decide) ?_
    refine vp_callSi (W.runS (As := [.int p2, .int 0, .int 999]) (rest := []) ⟨hx, hb, hml, hown, hg⟩ (c_isWithin l p2 0 999) (va_cwS 3 hg (gw_S kw_535 kw_536 kw_12 kw_534) rfl rfl rfl (by decide +kernel) ⟨(Nat.le_of_ble_eq_true rfl), (Nat.le_of_ble_eq_true rfl)⟩) pr_0 rfl rfl hl.1 rfl (lv_room (Nat.le_of_ble_eq_true rfl)) dX11_cost_19 ⟨(Nat.le_of_ble_eq_true rfl), (Nat.le_of_ble_eq_true rfl)⟩) (fun r_19 h_19 => ?_)
    replace h_19 := iw_s (n := 999) (by decide) h_19
    rcases h_19 with rfl | ⟨rfl, k_19, hk_19, rfl⟩
    · refine lv_if_ne (tgt := 28) hx hb dX11_cost_22 (by decide) (fun c_22 => absurd c_22 (by decide)) (fun c_22 => ?_)
      refine lv_bipush (v := (-102)) hx hb dX11_cost_25 (by decide) ?_
      refine W_sQ hQ ?_
      refine W.widen (k := 0) (n := 0) (Nat.le_of_ble_eq_true rfl) (Nat.le_of_ble_eq_true rfl) ?_
      have hP9 := hP.sub (ws' := [(x0, .inr (11, [.ref pg, .ref rd, .ref aq, .ref py, .ref pl, .ref ch, .ref ro, .int (nI pn), .int td])), (aq, .inr (5, [.ref aw, .ref ac, .ref ao, .ref am, .int (nI C), .int (nI P), .long tot])), (ao, .inl (cs 0, 4, .inl fao))]) [0, 1, 2] rfl
      have hD9 := hD.sub (ws' := [(x0, .inr (11, [.ref pg, .ref rd, .ref aq, .ref py, .ref pl, .ref ch, .ref ro, .int (nI pn), .int td])), (aq, .inr (5, [.ref aw, .ref ac, .ref ao, .ref am, .int (nI C), .int (nI P), .long tot])), (ao, .inl (cs 0, 4, .inl fao))]) [0, 1, 2] (by decide) rfl
      exact W.iret (v := (-102)) hx hb hr (fun t ht hW => ⟨⟨(-102), (), rfl, trivial, ⟨fao, by rw [ht]; exact hP9, hD9⟩⟩, hS.F ht⟩) hS.2.2 dX11_cost_27
    · refine lv_if_ne (tgt := 28) hx hb dX11_cost_22 (by decide) (fun c_22 => ?_) (fun c_22 => absurd c_22 (by decide))
      refine lv_aload_n hx hb dX11_cost_28 rfl (lv_at hl 0 rfl) ?_
      refine va_get (D := D) (ci := 11) (v := .ref aq) (C := RX11) (T := TX11) (N := 9) hx hb hg gwX11 hown hK hP 0 rfl rfl 2 (by decide) (hg _ kw_523) (fun _ h9 => h9) rfl dX11_cost_29 ?_
      refine va_get (D := D) (ci := 5) (v := .ref ao) (C := RX5) (T := TX5) (N := 7) hx hb hg gwX5 hown hK hP 1 rfl rfl 2 (by decide) (hg _ kw_537) (fun _ h9 => h9) rfl dX11_cost_32 ?_
      refine lv_iload_n hx hb dX11_cost_35 rfl (lv_at hl 1 rfl) ?_
      refine va_iald hx hb hK hP 2 0 rfl rfl (vp_in_nI (show k_5 < 4 by omega) (by decide)) dX11_cost_36 ?_
      refine lv_topi (fun z_36 e_36 => ?_)
      refine lv_istore_n (lv' := [(3, .int z_36), (0, .ref x0), (1, .int (nI k_5)), (2, .int (nI k_19))]) hx hb dX11_cost_37 rfl hl (by decide) rfl (fun ls hl => ?_)
      refine lv_aload_n hx hb dX11_cost_38 rfl (lv_at hl 1 rfl) ?_
      refine va_get (D := D) (ci := 11) (v := .ref aq) (C := RX11) (T := TX11) (N := 9) hx hb hg gwX11 hown hK hP 0 rfl rfl 2 (by decide) (hg _ kw_523) (fun _ h9 => h9) rfl dX11_cost_39 ?_
      refine va_get (D := D) (ci := 5) (v := .ref ao) (C := RX5) (T := TX5) (N := 7) hx hb hg gwX5 hown hK hP 1 rfl rfl 2 (by decide) (hg _ kw_537) (fun _ h9 => h9) rfl dX11_cost_42 ?_
      refine lv_iload_n hx hb dX11_cost_45 rfl (lv_at hl 2 rfl) ?_
      refine lv_iload_n hx hb dX11_cost_46 rfl (lv_at hl 3 rfl) ?_
      refine va_iast hx hb hK hP hD hS 2 0 rfl rfl (vp_in_nI (show k_5 < 4 by omega) (by decide)) dX11_cost_47 (fun H locs hP hD hS => ?_)
      obtain ⟨f_47, hf_47⟩ : ∃ f9, f9 = (upd fao (nI k_5).toNatClampNeg (nI k_19)) := ⟨_, rfl⟩
      rw [← hf_47] at hP hD
      have hP : va_P D vwCl [(x0, .inr (11, [.ref pg, .ref rd, .ref aq, .ref py, .ref pl, .ref ch, .ref ro, .int (nI pn), .int td])), (aq, .inr (5, [.ref aw, .ref ac, .ref ao, .ref am, .int (nI C), .int (nI P), .long tot])), (ao, .inl (cs 0, 4, .inl f_47))] H := hP
      have hD : va_D A [(x0, .inr (11, [.ref pg, .ref rd, .ref aq, .ref py, .ref pl, .ref ch, .ref ro, .int (nI pn), .int td])), (aq, .inr (5, [.ref aw, .ref ac, .ref ao, .ref am, .int (nI C), .int (nI P), .long tot])), (ao, .inl (cs 0, 4, .inl f_47))] := hD
      refine lv_iload_n hx hb dX11_cost_48 rfl (lv_at hl 0 rfl) ?_
      refine W_sQ hQ ?_
      refine W.widen (k := 0) (n := 0) (Nat.le_of_ble_eq_true rfl) (Nat.le_of_ble_eq_true rfl) ?_
      have hP9 := hP.sub (ws' := [(x0, .inr (11, [.ref pg, .ref rd, .ref aq, .ref py, .ref pl, .ref ch, .ref ro, .int (nI pn), .int td])), (aq, .inr (5, [.ref aw, .ref ac, .ref ao, .ref am, .int (nI C), .int (nI P), .long tot])), (ao, .inl (cs 0, 4, .inl f_47))]) [0, 1, 2] rfl
      have hD9 := hD.sub (ws' := [(x0, .inr (11, [.ref pg, .ref rd, .ref aq, .ref py, .ref pl, .ref ch, .ref ro, .int (nI pn), .int td])), (aq, .inr (5, [.ref aw, .ref ac, .ref ao, .ref am, .int (nI C), .int (nI P), .long tot])), (ao, .inl (cs 0, 4, .inl f_47))]) [0, 1, 2] (by decide) rfl
      exact W.iret (v := z_36) hx hb hr (fun t ht hW => ⟨⟨z_36, (), rfl, trivial, ⟨f_47, by rw [ht]; exact hP9, hD9⟩⟩, hS.F ht⟩) hS.2.2 dX11_cost_49

theorem dX11_thinks_0 : decode cX11_thinks 0 = .ok (.aload_n 0, 1) := by decide +kernel
theorem dX11_thinks_1 : decode cX11_thinks 1 = .ok (.getfield 26, 3) := by decide +kernel
theorem dX11_thinks_4 : decode cX11_thinks 4 = .ok (.iload_n 1, 1) := by decide +kernel
theorem dX11_thinks_5 : decode cX11_thinks 5 = .ok (.invokevirtual 98, 3) := by decide +kernel
theorem dX11_thinks_8 : decode cX11_thinks 8 = .ok (.ifCond .eq 19, 3) := by decide +kernel
theorem dX11_thinks_11 : decode cX11_thinks 11 = .ok (.aload_n 0, 1) := by decide +kernel
theorem dX11_thinks_12 : decode cX11_thinks 12 = .ok (.getfield 26, 3) := by decide +kernel
theorem dX11_thinks_15 : decode cX11_thinks 15 = .ok (.iload_n 3, 1) := by decide +kernel
theorem dX11_thinks_16 : decode cX11_thinks 16 = .ok (.invokevirtual 98, 3) := by decide +kernel
theorem dX11_thinks_19 : decode cX11_thinks 19 = .ok (.ifCond .eq 8, 3) := by decide +kernel
theorem dX11_thinks_22 : decode cX11_thinks 22 = .ok (.iload_n 1, 1) := by decide +kernel
theorem dX11_thinks_23 : decode cX11_thinks 23 = .ok (.iload_n 3, 1) := by decide +kernel
theorem dX11_thinks_24 : decode cX11_thinks 24 = .ok (.if_icmp .ne 7, 3) := by decide +kernel
theorem dX11_thinks_27 : decode cX11_thinks 27 = .ok (.ldc2_w 112, 3) := by decide +kernel
theorem dX11_thinks_30 : decode cX11_thinks 30 = .ok (.lreturn, 1) := by decide +kernel
theorem dX11_thinks_31 : decode cX11_thinks 31 = .ok (.iload_n 2, 1) := by decide +kernel
theorem dX11_thinks_32 : decode cX11_thinks 32 = .ok (.iconst 0, 1) := by decide +kernel
theorem dX11_thinks_33 : decode cX11_thinks 33 = .ok (.iconst 1, 1) := by decide +kernel
theorem dX11_thinks_34 : decode cX11_thinks 34 = .ok (.invokestatic 105, 3) := by decide +kernel
theorem dX11_thinks_37 : decode cX11_thinks 37 = .ok (.ifCond .eq 13, 3) := by decide +kernel
theorem dX11_thinks_40 : decode cX11_thinks 40 = .ok (.iload 4, 2) := by decide +kernel
theorem dX11_thinks_42 : decode cX11_thinks 42 = .ok (.iconst 0, 1) := by decide +kernel
theorem dX11_thinks_43 : decode cX11_thinks 43 = .ok (.iconst 1, 1) := by decide +kernel
theorem dX11_thinks_44 : decode cX11_thinks 44 = .ok (.invokestatic 105, 3) := by decide +kernel
theorem dX11_thinks_47 : decode cX11_thinks 47 = .ok (.ifCond .ne 7, 3) := by decide +kernel
theorem dX11_thinks_50 : decode cX11_thinks 50 = .ok (.ldc2_w 114, 3) := by decide +kernel
theorem dX11_thinks_53 : decode cX11_thinks 53 = .ok (.lreturn, 1) := by decide +kernel
theorem dX11_thinks_54 : decode cX11_thinks 54 = .ok (.aload_n 0, 1) := by decide +kernel
theorem dX11_thinks_55 : decode cX11_thinks 55 = .ok (.getfield 26, 3) := by decide +kernel
theorem dX11_thinks_58 : decode cX11_thinks 58 = .ok (.iload_n 1, 1) := by decide +kernel
theorem dX11_thinks_59 : decode cX11_thinks 59 = .ok (.iload_n 2, 1) := by decide +kernel
theorem dX11_thinks_60 : decode cX11_thinks 60 = .ok (.invokevirtual 116, 3) := by decide +kernel
theorem dX11_thinks_63 : decode cX11_thinks 63 = .ok (.lstore 5, 2) := by decide +kernel
theorem dX11_thinks_65 : decode cX11_thinks 65 = .ok (.lload 5, 2) := by decide +kernel
theorem dX11_thinks_67 : decode cX11_thinks 67 = .ok (.lconst 0, 1) := by decide +kernel
theorem dX11_thinks_68 : decode cX11_thinks 68 = .ok (.lcmp, 1) := by decide +kernel
theorem dX11_thinks_69 : decode cX11_thinks 69 = .ok (.ifCond .ne 7, 3) := by decide +kernel
theorem dX11_thinks_72 : decode cX11_thinks 72 = .ok (.ldc2_w 120, 3) := by decide +kernel
theorem dX11_thinks_75 : decode cX11_thinks 75 = .ok (.lreturn, 1) := by decide +kernel
theorem dX11_thinks_76 : decode cX11_thinks 76 = .ok (.aload_n 0, 1) := by decide +kernel
theorem dX11_thinks_77 : decode cX11_thinks 77 = .ok (.getfield 26, 3) := by decide +kernel
theorem dX11_thinks_80 : decode cX11_thinks 80 = .ok (.iload_n 1, 1) := by decide +kernel
theorem dX11_thinks_81 : decode cX11_thinks 81 = .ok (.iload_n 2, 1) := by decide +kernel
theorem dX11_thinks_82 : decode cX11_thinks 82 = .ok (.iload_n 3, 1) := by decide +kernel
theorem dX11_thinks_83 : decode cX11_thinks 83 = .ok (.invokevirtual 122, 3) := by decide +kernel
theorem dX11_thinks_86 : decode cX11_thinks 86 = .ok (.lload 5, 2) := by decide +kernel
theorem dX11_thinks_88 : decode cX11_thinks 88 = .ok (.iload 4, 2) := by decide +kernel
theorem dX11_thinks_90 : decode cX11_thinks 90 = .ok (.invokestatic 126, 3) := by decide +kernel
theorem dX11_thinks_93 : decode cX11_thinks 93 = .ok (.lreturn, 1) := by decide +kernel
theorem kw_538 : (.constantLong RX11 112 (-101) : Cond) ∈ gw_tbl := gw_in (by decide +kernel) (by decide +kernel)
theorem kw_539 : (.constantLong RX11 114 (-102) : Cond) ∈ gw_tbl := gw_in (by decide +kernel) (by decide +kernel)
theorem kw_540 : (.code yX5_seenBelow cX5_seenBelow 6 (some .long) : Cond) ∈ gw_tbl := gw_in (by decide +kernel) (by decide +kernel)
theorem kw_541 : (.methodLink RX11 116 yX5_seenBelow : Cond) ∈ gw_tbl := gw_in (by decide +kernel) (by decide +kernel)
theorem kw_542 : (.instanceMethod yX5_seenBelow : Cond) ∈ gw_tbl := gw_in (by decide +kernel) (by decide +kernel)
theorem kw_543 : (.selects RX5 yX5_seenBelow yX5_seenBelow : Cond) ∈ gw_tbl := gw_in (by decide +kernel) (by decide +kernel)
theorem kw_544 : (.code yX5_seenAbove cX5_seenAbove 7 (some .long) : Cond) ∈ gw_tbl := gw_in (by decide +kernel) (by decide +kernel)
theorem kw_545 : (.methodLink RX11 122 yX5_seenAbove : Cond) ∈ gw_tbl := gw_in (by decide +kernel) (by decide +kernel)
theorem kw_546 : (.instanceMethod yX5_seenAbove : Cond) ∈ gw_tbl := gw_in (by decide +kernel) (by decide +kernel)
theorem kw_547 : (.selects RX5 yX5_seenAbove yX5_seenAbove : Cond) ∈ gw_tbl := gw_in (by decide +kernel) (by decide +kernel)
theorem kw_548 : (.code yX11_inLowestTerms cX11_inLowestTerms 9 (some .long) : Cond) ∈ gw_tbl := gw_in (by decide +kernel) (by decide +kernel)
theorem kw_549 : (.methodLink RX11 126 yX11_inLowestTerms : Cond) ∈ gw_tbl := gw_in (by decide +kernel) (by decide +kernel)
theorem kw_550 : (.static yX11_inLowestTerms : Cond) ∈ gw_tbl := gw_in (by decide +kernel) (by decide +kernel)
theorem kw_551 : (.constantLong RX11 120 (-1) : Cond) ∈ gw_tbl := gw_in (by decide +kernel) (by decide +kernel)

set_option maxHeartbeats 4000000 in
set_option maxRecDepth 100000 in
theorem x_thinks (l : Launch) (D : va_G) (cs : Nat → ClassId) (x0 : Nat) (py : Nat) (pn : Nat) (hpn : pn ≤ 8) (td : Int32) (pg : Nat) (rd : Nat) (pl : Nat) (ch : Nat) (ro : Nat) (aq : Nat) (aw : Nat) (ac : Nat) (ao : Nat) (am : Nat) (C : Nat) (hC5 : C ≤ 5) (P : Nat) (hP4 : P ≤ 4) (tot : Int64) (faw : Nat → Int32) (ar : Nat → Nat) (far : Nat → Nat → Int32) (p1 : Int32) (p2 : Int32) (p3 : Int32) (p4 : Int32) : Met l yX11_thinks (Cond.code yX11_thinks cX11_thinks 7 (some .long) :: gw_tbl) ({ frames := 2, cells := 0, slots := 0, locals := 58 }) (pc_S D cs [(x0, .inr (11, [.ref pg, .ref rd, .ref aq, .ref py, .ref pl, .ref ch, .ref ro, .int (nI pn), .int td])), (aq, .inr (5, [.ref aw, .ref ac, .ref ao, .ref am, .int (nI C), .int (nI P), .long tot])), (aw, .inl (cs 0, 5, .inl faw)), (ac, .inl (cs 4, 5, .inr (.inr (.inr (.inr (rowsF 5 ar)))))), ((ar 0), .inl (cs 0, 4, .inl (far 0))), ((ar 1), .inl (cs 0, 4, .inl (far 1))), ((ar 2), .inl (cs 0, 4, .inl (far 2))), ((ar 3), .inl (cs 0, 4, .inl (far 3))), ((ar 4), .inl (cs 0, 4, .inl (far 4)))] [.ref x0, .int p1, .int p2, .int p3, .int p4]) (vp_Sl (fun r => True)) 0 0 (fun _ => False) := by
  refine Met.ofW (cc := cX11_thinks) (maxL := 7) (ret := (some .long)) (by decide) rfl ?_
  intro p e s m args below meth c s₁ B hml hv
  obtain ⟨hargs, hP, hK⟩ := hv
  have hx := B.exec
  have hb := B.bytes
  have hr := B.returns
  have hts := atoms_spec (ws := Cond.code yX11_thinks cX11_thinks 7 (some .long) :: gw_tbl) B.pre
  have hg := fun (w : Cond) (h : w ∈ gw_tbl) => hts w (List.mem_cons_of_mem _ h)
  have hown : s.vm.findClass RX11 = some m.cls := findClass_of_methodNamed B.named
  have hlocks := B.notSynchronized
  have hl := lv_entry ([.ref x0, .int p1, .int p2, .int p3, .int p4]) (n := 7) (Nat.le_of_ble_eq_true rfl)
  rw [show entryFrame m args 7 = F0 m 0 (lg_sl ([.ref x0, .int p1, .int p2, .int p3, .int p4]) ++ List.replicate (7 - (lg_sl ([.ref x0, .int p1, .int p2, .int p3, .int p4])).length) Slot.unset).toArray [] from by rw [hargs]; exact lg_entry_eq ..]
  generalize (lg_sl ([.ref x0, .int p1, .int p2, .int p3, .int p4]) ++ List.replicate (7 - (lg_sl ([.ref x0, .int p1, .int p2, .int p3, .int p4])).length) Slot.unset).toArray = ls at hl ⊢
  have hl : lv_has ls 7 [(0, .ref x0), (1, .int p1), (2, .int p2), (3, .int p3), (4, .int p4)] := hl
  refine W_genQ (fun Q hQ => ?_)
  have hlm := lim_le hP4
  have hlq := lim_pos P
  have hsg := sgn_le hP4
  refine lv_aload_n hx hb dX11_thinks_0 rfl (lv_at hl 0 rfl) ?_
  refine va_get (D := D) (ci := 11) (v := .ref aq) (C := RX11) (T := TX11) (N := 9) hx hb hg gwX11 hown hK hP 0 rfl rfl 2 (by decide) (hg _ kw_523) (fun _ h9 => h9) rfl dX11_thinks_1 ?_
  refine lv_iload_n hx hb dX11_thinks_4 rfl (lv_at hl 1 rfl) ?_
  have hPc := hP.sub (ws' := [(aq, .inr (5, [.ref aw, .ref ac, .ref ao, .ref am, .int (nI C), .int (nI P), .long tot]))]) [1] rfl
  refine vp_callSi (W.runV (As := [.int p1]) (rest := []) ⟨hx, hb, hml, hown, hg⟩ (q_hasPerson l D cs aq aw ac ao am C (by omega) P (by omega) tot p1) (cwV 1 hg (gw_V kw_529 kw_530 kw_531 kw_19 kw_528) rfl rfl rfl (by decide +kernel) ⟨(Nat.le_of_ble_eq_true rfl), (Nat.le_of_ble_eq_true rfl)⟩) (pr_SV (q := (RX5, TX5, 7)) 5 0 hK hPc rfl rfl) rfl rfl hl.1 rfl (lv_room (Nat.le_of_ble_eq_true rfl)) dX11_thinks_5 ⟨(Nat.le_of_ble_eq_true rfl), (Nat.le_of_ble_eq_true rfl)⟩) (fun r_5 h_5 => ?_)
  rcases h_5 with rfl | ⟨rfl, k_5, hk_5, rfl⟩
  · refine lv_if_eq (tgt := 27) hx hb dX11_thinks_8 (by decide) (fun c_8 => ?_) (fun c_8 => absurd c_8 (by decide))
    refine lv_ldc2 hx hb hown (hg _ kw_538) dX11_thinks_27 ?_
    refine W_sQ hQ ?_
    exact W.lret (v := (-101)) hx hb hr (fun t ht hW => ⟨(-101), rfl, trivial, ht⟩) (fun _ h => absurd h List.not_mem_nil) dX11_thinks_30
  · refine lv_if_eq (tgt := 27) hx hb dX11_thinks_8 (by decide) (fun c_8 => absurd c_8 (by decide)) (fun c_8 => ?_)
    refine lv_aload_n hx hb dX11_thinks_11 rfl (lv_at hl 0 rfl) ?_
    refine va_get (D := D) (ci := 11) (v := .ref aq) (C := RX11) (T := TX11) (N := 9) hx hb hg gwX11 hown hK hP 0 rfl rfl 2 (by decide) (hg _ kw_523) (fun _ h9 => h9) rfl dX11_thinks_12 ?_
    refine lv_iload_n hx hb dX11_thinks_15 rfl (lv_at hl 3 rfl) ?_
    have hPc := hP.sub (ws' := [(aq, .inr (5, [.ref aw, .ref ac, .ref ao, .ref am, .int (nI C), .int (nI P), .long tot]))]) [1] rfl
    refine vp_callSi (W.runV (As := [.int p3]) (rest := []) ⟨hx, hb, hml, hown, hg⟩ (q_hasPerson l D cs aq aw ac ao am C (by omega) P (by omega) tot p3) (cwV 1 hg (gw_V kw_529 kw_530 kw_531 kw_19 kw_528) rfl rfl rfl (by decide +kernel) ⟨(Nat.le_of_ble_eq_true rfl), (Nat.le_of_ble_eq_true rfl)⟩) (pr_SV (q := (RX5, TX5, 7)) 5 0 hK hPc rfl rfl) rfl rfl hl.1 rfl (lv_room (Nat.le_of_ble_eq_true rfl)) dX11_thinks_16 ⟨(Nat.le_of_ble_eq_true rfl), (Nat.le_of_ble_eq_true rfl)⟩) (fun r_16 h_16 => ?_)
    rcases h_16 with rfl | ⟨rfl, k_16, hk_16, rfl⟩
    · refine lv_if_eq (tgt := 27) hx hb dX11_thinks_19 (by decide) (fun c_19 => ?_) (fun c_19 => absurd c_19 (by decide))
      refine lv_ldc2 hx hb hown (hg _ kw_538) dX11_thinks_27 ?_
      refine W_sQ hQ ?_
      exact W.lret (v := (-101)) hx hb hr (fun t ht hW => ⟨(-101), rfl, trivial, ht⟩) (fun _ h => absurd h List.not_mem_nil) dX11_thinks_30
    · refine lv_if_eq (tgt := 27) hx hb dX11_thinks_19 (by decide) (fun c_19 => absurd c_19 (by decide)) (fun c_19 => ?_)
      refine lv_iload_n hx hb dX11_thinks_22 rfl (lv_at hl 1 rfl) ?_
      refine lv_iload_n hx hb dX11_thinks_23 rfl (lv_at hl 3 rfl) ?_
      refine lv_icmp_ne (tgt := 31) hx hb dX11_thinks_24 (by decide) (fun c_24 => ?_) (fun c_24 => ?_)
      · have n_24 : ¬ k_5 = k_16 := b_eq_f (by omega) (by omega) c_24
        refine lv_iload_n hx hb dX11_thinks_31 rfl (lv_at hl 2 rfl) ?_
        refine lv_iconst (v := 0) hx hb dX11_thinks_32 (by decide) ?_
        refine lv_iconst (v := 1) hx hb dX11_thinks_33 (by decide) ?_
        refine vp_callSi (W.runS (As := [.int p2, .int 0, .int 1]) (rest := []) ⟨hx, hb, hml, hown, hg⟩ (c_isWithin l p2 0 1) (va_cwS 3 hg (gw_S kw_535 kw_536 kw_12 kw_534) rfl rfl rfl (by decide +kernel) ⟨(Nat.le_of_ble_eq_true rfl), (Nat.le_of_ble_eq_true rfl)⟩) pr_0 rfl rfl hl.1 rfl (lv_room (Nat.le_of_ble_eq_true rfl)) dX11_thinks_34 ⟨(Nat.le_of_ble_eq_true rfl), (Nat.le_of_ble_eq_true rfl)⟩) (fun r_34 h_34 => ?_)
        replace h_34 := iw_s (n := 1) (by decide) h_34
        rcases h_34 with rfl | ⟨rfl, k_34, hk_34, rfl⟩
        · refine lv_if_eq (tgt := 50) hx hb dX11_thinks_37 (by decide) (fun c_37 => ?_) (fun c_37 => absurd c_37 (by decide))
          refine lv_ldc2 hx hb hown (hg _ kw_539) dX11_thinks_50 ?_
          refine W_sQ hQ ?_
          exact W.lret (v := (-102)) hx hb hr (fun t ht hW => ⟨(-102), rfl, trivial, ht⟩) (fun _ h => absurd h List.not_mem_nil) dX11_thinks_53
        · refine lv_if_eq (tgt := 50) hx hb dX11_thinks_37 (by decide) (fun c_37 => absurd c_37 (by decide)) (fun c_37 => ?_)
          refine lv_iload hx hb dX11_thinks_40 (lv_at hl 4 rfl) ?_
          refine lv_iconst (v := 0) hx hb dX11_thinks_42 (by decide) ?_
          refine lv_iconst (v := 1) hx hb dX11_thinks_43 (by decide) ?_
          refine vp_callSi (W.runS (As := [.int p4, .int 0, .int 1]) (rest := []) ⟨hx, hb, hml, hown, hg⟩ (c_isWithin l p4 0 1) (va_cwS 3 hg (gw_S kw_535 kw_536 kw_12 kw_534) rfl rfl rfl (by decide +kernel) ⟨(Nat.le_of_ble_eq_true rfl), (Nat.le_of_ble_eq_true rfl)⟩) pr_0 rfl rfl hl.1 rfl (lv_room (Nat.le_of_ble_eq_true rfl)) dX11_thinks_44 ⟨(Nat.le_of_ble_eq_true rfl), (Nat.le_of_ble_eq_true rfl)⟩) (fun r_44 h_44 => ?_)
          replace h_44 := iw_s (n := 1) (by decide) h_44
          rcases h_44 with rfl | ⟨rfl, k_44, hk_44, rfl⟩
          · refine lv_if_ne (tgt := 54) hx hb dX11_thinks_47 (by decide) (fun c_47 => absurd c_47 (by decide)) (fun c_47 => ?_)
            refine lv_ldc2 hx hb hown (hg _ kw_539) dX11_thinks_50 ?_
            refine W_sQ hQ ?_
            exact W.lret (v := (-102)) hx hb hr (fun t ht hW => ⟨(-102), rfl, trivial, ht⟩) (fun _ h => absurd h List.not_mem_nil) dX11_thinks_53
          · refine lv_if_ne (tgt := 54) hx hb dX11_thinks_47 (by decide) (fun c_47 => ?_) (fun c_47 => absurd c_47 (by decide))
            refine lv_aload_n hx hb dX11_thinks_54 rfl (lv_at hl 0 rfl) ?_
            refine va_get (D := D) (ci := 11) (v := .ref aq) (C := RX11) (T := TX11) (N := 9) hx hb hg gwX11 hown hK hP 0 rfl rfl 2 (by decide) (hg _ kw_523) (fun _ h9 => h9) rfl dX11_thinks_55 ?_
            refine lv_iload_n hx hb dX11_thinks_58 rfl (lv_at hl 1 rfl) ?_
            refine lv_iload_n hx hb dX11_thinks_59 rfl (lv_at hl 2 rfl) ?_
            have hPc := hP.sub (ws' := [(aq, .inr (5, [.ref aw, .ref ac, .ref ao, .ref am, .int (nI C), .int (nI P), .long tot])), (aw, .inl (cs 0, 5, .inl faw)), (ac, .inl (cs 4, 5, .inr (.inr (.inr (.inr (rowsF 5 ar)))))), ((ar 0), .inl (cs 0, 4, .inl (far 0))), ((ar 1), .inl (cs 0, 4, .inl (far 1))), ((ar 2), .inl (cs 0, 4, .inl (far 2))), ((ar 3), .inl (cs 0, 4, .inl (far 3))), ((ar 4), .inl (cs 0, 4, .inl (far 4)))]) [1, 2, 3, 4, 5, 6, 7, 8] rfl
            refine vp_callSl (W.runV (As := [.int (nI k_5), .int (nI k_34)]) (rest := []) ⟨hx, hb, hml, hown, hg⟩ (q_seenBelow l D cs aq aw ac ao am C (by omega) P (by omega) tot ar far faw k_5 (by omega) (nI k_34)) (cwV 2 hg (gw_V kw_541 kw_542 kw_543 kw_19 kw_540) rfl rfl rfl (by decide +kernel) ⟨(Nat.le_of_ble_eq_true rfl), (Nat.le_of_ble_eq_true rfl)⟩) (pr_SV (q := (RX5, TX5, 7)) 5 0 hK hPc rfl rfl) rfl rfl hl.1 rfl (lv_room (Nat.le_of_ble_eq_true rfl)) dX11_thinks_60 ⟨(Nat.le_of_ble_eq_true rfl), (Nat.le_of_ble_eq_true rfl)⟩) (fun r_60 h_60 => ?_)
            clear h_60
            refine lv_lstore (lv' := [(5, .long r_60), (0, .ref x0), (1, .int (nI k_5)), (2, .int (nI k_34)), (3, .int (nI k_16)), (4, .int (nI k_44))]) hx hb dX11_thinks_63 hl (by decide) rfl (fun ls hl => ?_)
            refine lv_lload hx hb dX11_thinks_65 (lv_at hl 0 rfl) ?_
            refine lv_lconst (v := 0) hx hb dX11_thinks_67 (by decide) ?_
            refine W.lcmp hx hb dX11_thinks_68 ?_
            refine lv_topi (fun z_68 e_68 => ?_)
            refine lv_if_ne (tgt := 76) hx hb dX11_thinks_69 (by decide) (fun c_69 => ?_) (fun c_69 => ?_)
            · refine lv_aload_n hx hb dX11_thinks_76 rfl (lv_at hl 1 rfl) ?_
              refine va_get (D := D) (ci := 11) (v := .ref aq) (C := RX11) (T := TX11) (N := 9) hx hb hg gwX11 hown hK hP 0 rfl rfl 2 (by decide) (hg _ kw_523) (fun _ h9 => h9) rfl dX11_thinks_77 ?_
              refine lv_iload_n hx hb dX11_thinks_80 rfl (lv_at hl 2 rfl) ?_
              refine lv_iload_n hx hb dX11_thinks_81 rfl (lv_at hl 3 rfl) ?_
              refine lv_iload_n hx hb dX11_thinks_82 rfl (lv_at hl 4 rfl) ?_
              have hPc := hP.sub (ws' := [(aq, .inr (5, [.ref aw, .ref ac, .ref ao, .ref am, .int (nI C), .int (nI P), .long tot])), (aw, .inl (cs 0, 5, .inl faw)), (ac, .inl (cs 4, 5, .inr (.inr (.inr (.inr (rowsF 5 ar)))))), ((ar 0), .inl (cs 0, 4, .inl (far 0))), ((ar 1), .inl (cs 0, 4, .inl (far 1))), ((ar 2), .inl (cs 0, 4, .inl (far 2))), ((ar 3), .inl (cs 0, 4, .inl (far 3))), ((ar 4), .inl (cs 0, 4, .inl (far 4)))]) [1, 2, 3, 4, 5, 6, 7, 8] rfl
              refine vp_callSl (W.runV (As := [.int (nI k_5), .int (nI k_34), .int (nI k_16)]) (rest := []) ⟨hx, hb, hml, hown, hg⟩ (q_seenAbove l D cs aq aw ac ao am C (by omega) P (by omega) tot ar far faw k_5 (by omega) (nI k_34) k_16 (by omega)) (cwV 3 hg (gw_V kw_545 kw_546 kw_547 kw_19 kw_544) rfl rfl rfl (by decide +kernel) ⟨(Nat.le_of_ble_eq_true rfl), (Nat.le_of_ble_eq_true rfl)⟩) (pr_SV (q := (RX5, TX5, 7)) 5 0 hK hPc rfl rfl) rfl rfl hl.1 rfl (lv_room (Nat.le_of_ble_eq_true rfl)) dX11_thinks_83 ⟨(Nat.le_of_ble_eq_true rfl), (Nat.le_of_ble_eq_true rfl)⟩) (fun r_83 h_83 => ?_)
              clear h_83
              refine lv_lload hx hb dX11_thinks_86 (lv_at hl 0 rfl) ?_
              refine lv_iload hx hb dX11_thinks_88 (lv_at hl 5 rfl) ?_
              refine vp_callSl (W.runS (As := [.long r_83, .long r_60, .int (nI k_44)]) (rest := []) ⟨hx, hb, hml, hown, hg⟩ (c_inLowestTerms l r_83 r_60 (nI k_44)) (va_cwS 3 hg (gw_S kw_549 kw_550 kw_12 kw_548) rfl rfl rfl (by decide +kernel) ⟨(Nat.le_of_ble_eq_true rfl), (Nat.le_of_ble_eq_true rfl)⟩) pr_0 rfl rfl hl.1 rfl (lv_room (Nat.le_of_ble_eq_true rfl)) dX11_thinks_90 ⟨(Nat.le_of_ble_eq_true rfl), (Nat.le_of_ble_eq_true rfl)⟩) (fun r_90 h_90 => ?_)
              clear h_90
              refine W_sQ hQ ?_
              exact W.lret (v := r_90) hx hb hr (fun t ht hW => ⟨r_90, rfl, trivial, ht⟩) (fun _ h => absurd h List.not_mem_nil) dX11_thinks_93
            · refine lv_ldc2 hx hb hown (hg _ kw_551) dX11_thinks_72 ?_
              refine W_sQ hQ ?_
              exact W.lret (v := (-1)) hx hb hr (fun t ht hW => ⟨(-1), rfl, trivial, ht⟩) (fun _ h => absurd h List.not_mem_nil) dX11_thinks_75
      · have n_24 : k_5 = k_16 := b_eq_t (by omega) (by omega) c_24
        refine lv_ldc2 hx hb hown (hg _ kw_538) dX11_thinks_27 ?_
        refine W_sQ hQ ?_
        exact W.lret (v := (-101)) hx hb hr (fun t ht hW => ⟨(-101), rfl, trivial, ht⟩) (fun _ h => absurd h List.not_mem_nil) dX11_thinks_30

theorem dX11_row_0 : decode cX11_row 0 = .ok (.aload_n 0, 1) := by decide +kernel
theorem dX11_row_1 : decode cX11_row 1 = .ok (.getfield 26, 3) := by decide +kernel
theorem dX11_row_4 : decode cX11_row 4 = .ok (.invokevirtual 204, 3) := by decide +kernel
theorem dX11_row_7 : decode cX11_row 7 = .ok (.ifCond .ne 6, 3) := by decide +kernel
theorem dX11_row_10 : decode cX11_row 10 = .ok (.bipush (-103), 2) := by decide +kernel
theorem dX11_row_12 : decode cX11_row 12 = .ok (.ireturn, 1) := by decide +kernel
theorem dX11_row_13 : decode cX11_row 13 = .ok (.iload_n 1, 1) := by decide +kernel
theorem dX11_row_14 : decode cX11_row 14 = .ok (.iconst 0, 1) := by decide +kernel
theorem dX11_row_15 : decode cX11_row 15 = .ok (.aload_n 0, 1) := by decide +kernel
theorem dX11_row_16 : decode cX11_row 16 = .ok (.getfield 26, 3) := by decide +kernel
theorem dX11_row_19 : decode cX11_row 19 = .ok (.getfield 87, 3) := by decide +kernel
theorem dX11_row_22 : decode cX11_row 22 = .ok (.invokestatic 264, 3) := by decide +kernel
theorem dX11_row_25 : decode cX11_row 25 = .ok (.iconst 1, 1) := by decide +kernel
theorem dX11_row_26 : decode cX11_row 26 = .ok (.isub, 1) := by decide +kernel
theorem dX11_row_27 : decode cX11_row 27 = .ok (.invokestatic 105, 3) := by decide +kernel
theorem dX11_row_30 : decode cX11_row 30 = .ok (.ifCond .ne 6, 3) := by decide +kernel
theorem dX11_row_33 : decode cX11_row 33 = .ok (.bipush (-102), 2) := by decide +kernel
theorem dX11_row_35 : decode cX11_row 35 = .ok (.ireturn, 1) := by decide +kernel
theorem dX11_row_36 : decode cX11_row 36 = .ok (.lload_n 2, 1) := by decide +kernel
theorem dX11_row_37 : decode cX11_row 37 = .ok (.ldc2_w 120, 3) := by decide +kernel
theorem dX11_row_40 : decode cX11_row 40 = .ok (.lcmp, 1) := by decide +kernel
theorem dX11_row_41 : decode cX11_row 41 = .ok (.ifCond .lt 18, 3) := by decide +kernel
theorem dX11_row_44 : decode cX11_row 44 = .ok (.lload_n 2, 1) := by decide +kernel
theorem dX11_row_45 : decode cX11_row 45 = .ok (.aload_n 0, 1) := by decide +kernel
theorem dX11_row_46 : decode cX11_row 46 = .ok (.getfield 26, 3) := by decide +kernel
theorem dX11_row_49 : decode cX11_row 49 = .ok (.getfield 87, 3) := by decide +kernel
theorem dX11_row_52 : decode cX11_row 52 = .ok (.invokestatic 267, 3) := by decide +kernel
theorem dX11_row_55 : decode cX11_row 55 = .ok (.lcmp, 1) := by decide +kernel
theorem dX11_row_56 : decode cX11_row 56 = .ok (.ifCond .lt 6, 3) := by decide +kernel
theorem dX11_row_59 : decode cX11_row 59 = .ok (.bipush (-102), 2) := by decide +kernel
theorem dX11_row_61 : decode cX11_row 61 = .ok (.ireturn, 1) := by decide +kernel
theorem dX11_row_62 : decode cX11_row 62 = .ok (.aload_n 0, 1) := by decide +kernel
theorem dX11_row_63 : decode cX11_row 63 = .ok (.getfield 55, 3) := by decide +kernel
theorem dX11_row_66 : decode cX11_row 66 = .ok (.getfield 83, 3) := by decide +kernel
theorem dX11_row_69 : decode cX11_row 69 = .ok (.bipush 24, 2) := by decide +kernel
theorem dX11_row_71 : decode cX11_row 71 = .ok (.if_icmp .lt 6, 3) := by decide +kernel
theorem dX11_row_74 : decode cX11_row 74 = .ok (.bipush (-104), 2) := by decide +kernel
theorem dX11_row_76 : decode cX11_row 76 = .ok (.ireturn, 1) := by decide +kernel
theorem dX11_row_77 : decode cX11_row 77 = .ok (.aload_n 0, 1) := by decide +kernel
theorem dX11_row_78 : decode cX11_row 78 = .ok (.getfield 55, 3) := by decide +kernel
theorem dX11_row_81 : decode cX11_row 81 = .ok (.iload_n 1, 1) := by decide +kernel
theorem dX11_row_82 : decode cX11_row 82 = .ok (.lload_n 2, 1) := by decide +kernel
theorem dX11_row_83 : decode cX11_row 83 = .ok (.invokevirtual 271, 3) := by decide +kernel
theorem dX11_row_86 : decode cX11_row 86 = .ok (.aload_n 0, 1) := by decide +kernel
theorem dX11_row_87 : decode cX11_row 87 = .ok (.getfield 55, 3) := by decide +kernel
theorem dX11_row_90 : decode cX11_row 90 = .ok (.getfield 83, 3) := by decide +kernel
theorem dX11_row_93 : decode cX11_row 93 = .ok (.ireturn, 1) := by decide +kernel
theorem kw_552 : (.code yX5_stands cX5_stands 1 (some .boolean) : Cond) ∈ gw_tbl := gw_in (by decide +kernel) (by decide +kernel)
theorem kw_553 : (.methodLink RX11 204 yX5_stands : Cond) ∈ gw_tbl := gw_in (by decide +kernel) (by decide +kernel)
theorem kw_554 : (.instanceMethod yX5_stands : Cond) ∈ gw_tbl := gw_in (by decide +kernel) (by decide +kernel)
theorem kw_555 : (.selects RX5 yX5_stands yX5_stands : Cond) ∈ gw_tbl := gw_in (by decide +kernel) (by decide +kernel)
theorem kw_556 : (.fieldLink RX11 87 "NobodyChecks$Question" "persons" "I" : Cond) ∈ gw_tbl := gw_in (by decide +kernel) (by decide +kernel)
theorem kw_557 : (.code yX8_answersLimit cX8_answersLimit 3 (some .int) : Cond) ∈ gw_tbl := gw_in (by decide +kernel) (by decide +kernel)
theorem kw_558 : (.methodLink RX11 264 yX8_answersLimit : Cond) ∈ gw_tbl := gw_in (by decide +kernel) (by decide +kernel)
theorem kw_559 : (.static yX8_answersLimit : Cond) ∈ gw_tbl := gw_in (by decide +kernel) (by decide +kernel)
theorem kw_560 : (.code yX8_guessesLimit cX8_guessesLimit 4 (some .long) : Cond) ∈ gw_tbl := gw_in (by decide +kernel) (by decide +kernel)
theorem kw_561 : (.methodLink RX11 267 yX8_guessesLimit : Cond) ∈ gw_tbl := gw_in (by decide +kernel) (by decide +kernel)
theorem kw_562 : (.static yX8_guessesLimit : Cond) ∈ gw_tbl := gw_in (by decide +kernel) (by decide +kernel)
theorem kw_563 : (.fieldLink RX11 55 "NobodyChecks" "rows" "LNobodyChecks$Rows;" : Cond) ∈ gw_tbl := gw_in (by decide +kernel) (by decide +kernel)
theorem kw_564 : (.fieldLink RX11 83 "NobodyChecks$Rows" "size" "I" : Cond) ∈ gw_tbl := gw_in (by decide +kernel) (by decide +kernel)
theorem kw_565 : (.code yX8_append cX8_append 4 none : Cond) ∈ gw_tbl := gw_in (by decide +kernel) (by decide +kernel)
theorem kw_566 : (.methodLink RX11 271 yX8_append : Cond) ∈ gw_tbl := gw_in (by decide +kernel) (by decide +kernel)
theorem kw_567 : (.instanceMethod yX8_append : Cond) ∈ gw_tbl := gw_in (by decide +kernel) (by decide +kernel)
theorem kw_568 : (.selects RX8 yX8_append yX8_append : Cond) ∈ gw_tbl := gw_in (by decide +kernel) (by decide +kernel)

set_option maxHeartbeats 4000000 in
set_option maxRecDepth 100000 in
theorem x_row (l : Launch) (D : va_G) (cs : Nat → ClassId) (x0 : Nat) (py : Nat) (pn : Nat) (hpn : pn ≤ 8) (td : Int32) (pg : Nat) (rd : Nat) (pl : Nat) (ch : Nat) (aq : Nat) (aw : Nat) (ac : Nat) (ao : Nat) (am : Nat) (C : Nat) (hC5 : C ≤ 5) (P : Nat) (hP4 : P ≤ 4) (tot : Int64) (ro : Nat) (ra : Nat) (rg : Nat) (rs : Nat) (hrs : rs ≤ 24) (fra : Nat → Int32) (frg : Nat → Int64) (p1 : Int32) (p2 : Int64) (sz : Nat) : Met l yX11_row (Cond.code yX11_row cX11_row 4 (some .int) :: gw_tbl) ({ frames := 1, cells := 0, slots := 0, locals := 23 }) (pc_M D cs [(x0, .inr (11, [.ref pg, .ref rd, .ref aq, .ref py, .ref pl, .ref ch, .ref ro, .int (nI pn), .int td])), (aq, .inr (5, [.ref aw, .ref ac, .ref ao, .ref am, .int (nI C), .int (nI P), .long tot])), (ro, .inr (8, [.ref ra, .ref rg, .int (nI rs)])), (ra, .inl (cs 0, 24, .inl fra)), (rg, .inl (cs 1, 24, .inr (.inl frg)))] sz [.ref x0, .int p1, .long p2]) (va_Qi (fun (r : Int32) (u : Unit) => True) (fun u t => ∃ (rs2 : Nat), ∃ (fra2 : Nat → Int32), ∃ (frg2 : Nat → Int64), (rs2 ≤ 24) ∧ va_P D vwCl [(x0, .inr (11, [.ref pg, .ref rd, .ref aq, .ref py, .ref pl, .ref ch, .ref ro, .int (nI pn), .int td])), (aq, .inr (5, [.ref aw, .ref ac, .ref ao, .ref am, .int (nI C), .int (nI P), .long tot])), (ro, .inr (8, [.ref ra, .ref rg, .int (nI rs2)])), (ra, .inl (cs 0, 24, .inl fra2)), (rg, .inl (cs 1, 24, .inr (.inl frg2)))] t.heap ∧ va_D (va_A [(x0, .inr (11, [.ref pg, .ref rd, .ref aq, .ref py, .ref pl, .ref ch, .ref ro, .int (nI pn), .int td])), (aq, .inr (5, [.ref aw, .ref ac, .ref ao, .ref am, .int (nI C), .int (nI P), .long tot])), (ro, .inr (8, [.ref ra, .ref rg, .int (nI rs)])), (ra, .inl (cs 0, 24, .inl fra)), (rg, .inl (cs 1, 24, .inr (.inl frg)))] sz) [(x0, .inr (11, [.ref pg, .ref rd, .ref aq, .ref py, .ref pl, .ref ch, .ref ro, .int (nI pn), .int td])), (aq, .inr (5, [.ref aw, .ref ac, .ref ao, .ref am, .int (nI C), .int (nI P), .long tot])), (ro, .inr (8, [.ref ra, .ref rg, .int (nI rs2)])), (ra, .inl (cs 0, 24, .inl fra2)), (rg, .inl (cs 1, 24, .inr (.inl frg2)))]) (va_A [(x0, .inr (11, [.ref pg, .ref rd, .ref aq, .ref py, .ref pl, .ref ch, .ref ro, .int (nI pn), .int td])), (aq, .inr (5, [.ref aw, .ref ac, .ref ao, .ref am, .int (nI C), .int (nI P), .long tot])), (ro, .inr (8, [.ref ra, .ref rg, .int (nI rs)])), (ra, .inl (cs 0, 24, .inl fra)), (rg, .inl (cs 1, 24, .inr (.inl frg)))] sz)) 0 0 (va_A [(x0, .inr (11, [.ref pg, .ref rd, .ref aq, .ref py, .ref pl, .ref ch, .ref ro, .int (nI pn), .int td])), (aq, .inr (5, [.ref aw, .ref ac, .ref ao, .ref am, .int (nI C), .int (nI P), .long tot])), (ro, .inr (8, [.ref ra, .ref rg, .int (nI rs)])), (ra, .inl (cs 0, 24, .inl fra)), (rg, .inl (cs 1, 24, .inr (.inl frg)))] sz) := by
  refine Met.ofW (cc := cX11_row) (maxL := 4) (ret := (some .int)) (by decide) rfl ?_
  intro p e s m args below meth c s₁ B hml hv
  obtain ⟨hargs, hsz, hP, hK, hD0⟩ := hv
  have hx := B.exec
  have hb := B.bytes
  have hr := B.returns
  have hts := atoms_spec (ws := Cond.code yX11_row cX11_row 4 (some .int) :: gw_tbl) B.pre
  have hg := fun (w : Cond) (h : w ∈ gw_tbl) => hts w (List.mem_cons_of_mem _ h)
  have hown : s.vm.findClass RX11 = some m.cls := findClass_of_methodNamed B.named
  have hlocks := B.notSynchronized
  subst hsz
  have hD := hD0.self (sz := s.heap.size)
  generalize hAe : va_A [(x0, .inr (11, [.ref pg, .ref rd, .ref aq, .ref py, .ref pl, .ref ch, .ref ro, .int (nI pn), .int td])), (aq, .inr (5, [.ref aw, .ref ac, .ref ao, .ref am, .int (nI C), .int (nI P), .long tot])), (ro, .inr (8, [.ref ra, .ref rg, .int (nI rs)])), (ra, .inl (cs 0, 24, .inl fra)), (rg, .inl (cs 1, 24, .inr (.inl frg)))] s.heap.size = A at hD ⊢
  have hA : ∀ q : Nat, s.heap.size ≤ q → A q := fun q h => by rw [← hAe]; exact Or.inr h
  have hS : va_S A s.heap s.heap [] := va_S.rf
  have hP : va_P D vwCl [(x0, .inr (11, [.ref pg, .ref rd, .ref aq, .ref py, .ref pl, .ref ch, .ref ro, .int (nI pn), .int td])), (aq, .inr (5, [.ref aw, .ref ac, .ref ao, .ref am, .int (nI C), .int (nI P), .long tot])), (ro, .inr (8, [.ref ra, .ref rg, .int (nI rs)])), (ra, .inl (cs 0, 24, .inl fra)), (rg, .inl (cs 1, 24, .inr (.inl frg)))] s.heap := hP
  have hl := lv_entry ([.ref x0, .int p1, .long p2]) (n := 4) (Nat.le_of_ble_eq_true rfl)
  rw [show entryFrame m args 4 = F0 m 0 (lg_sl ([.ref x0, .int p1, .long p2]) ++ List.replicate (4 - (lg_sl ([.ref x0, .int p1, .long p2])).length) Slot.unset).toArray [] from by rw [hargs]; exact lg_entry_eq ..]
  generalize (lg_sl ([.ref x0, .int p1, .long p2]) ++ List.replicate (4 - (lg_sl ([.ref x0, .int p1, .long p2])).length) Slot.unset).toArray = ls at hl ⊢
  have hl : lv_has ls 4 [(0, .ref x0), (1, .int p1), (2, .long p2)] := hl
  refine W_genQ (fun Q hQ => ?_)
  have hlm := lim_le hP4
  have hlq := lim_pos P
  have hsg := sgn_le hP4
  refine lv_aload_n hx hb dX11_row_0 rfl (lv_at hl 0 rfl) ?_
  refine va_get (D := D) (ci := 11) (v := .ref aq) (C := RX11) (T := TX11) (N := 9) hx hb hg gwX11 hown hK hP 0 rfl rfl 2 (by decide) (hg _ kw_523) (fun _ h9 => h9) rfl dX11_row_1 ?_
  have hPc := hP.sub (ws' := [(aq, .inr (5, [.ref aw, .ref ac, .ref ao, .ref am, .int (nI C), .int (nI P), .long tot]))]) [1] rfl
  refine vp_callSi (W.runV (As := []) (rest := []) ⟨hx, hb, hml, hown, hg⟩ (q_stands l D cs aq aw ac ao am C (by omega) P (by omega) tot) (cwV 0 hg (gw_V kw_553 kw_554 kw_555 kw_19 kw_552) rfl rfl rfl (by decide +kernel) ⟨(Nat.le_of_ble_eq_true rfl), (Nat.le_of_ble_eq_true rfl)⟩) (pr_SV (q := (RX5, TX5, 7)) 5 0 hK hPc rfl rfl) rfl rfl hl.1 rfl (lv_room (Nat.le_of_ble_eq_true rfl)) dX11_row_4 ⟨(Nat.le_of_ble_eq_true rfl), (Nat.le_of_ble_eq_true rfl)⟩) (fun r_4 h_4 => ?_)
  rcases h_4 with rfl | rfl
  · refine lv_if_ne (tgt := 13) hx hb dX11_row_7 (by decide) (fun c_7 => absurd c_7 (by decide)) (fun c_7 => ?_)
    refine lv_bipush (v := (-103)) hx hb dX11_row_10 (by decide) ?_
    refine W_sQ hQ ?_
    refine W.widen (k := 0) (n := 0) (Nat.le_of_ble_eq_true rfl) (Nat.le_of_ble_eq_true rfl) ?_
    have hP9 := hP.sub (ws' := [(x0, .inr (11, [.ref pg, .ref rd, .ref aq, .ref py, .ref pl, .ref ch, .ref ro, .int (nI pn), .int td])), (aq, .inr (5, [.ref aw, .ref ac, .ref ao, .ref am, .int (nI C), .int (nI P), .long tot])), (ro, .inr (8, [.ref ra, .ref rg, .int (nI rs)])), (ra, .inl (cs 0, 24, .inl fra)), (rg, .inl (cs 1, 24, .inr (.inl frg)))]) [0, 1, 2, 3, 4] rfl
    have hD9 := hD.sub (ws' := [(x0, .inr (11, [.ref pg, .ref rd, .ref aq, .ref py, .ref pl, .ref ch, .ref ro, .int (nI pn), .int td])), (aq, .inr (5, [.ref aw, .ref ac, .ref ao, .ref am, .int (nI C), .int (nI P), .long tot])), (ro, .inr (8, [.ref ra, .ref rg, .int (nI rs)])), (ra, .inl (cs 0, 24, .inl fra)), (rg, .inl (cs 1, 24, .inr (.inl frg)))]) [0, 1, 2, 3, 4] (by decide) rfl
    exact W.iret (v := (-103)) hx hb hr (fun t ht hW => ⟨⟨(-103), (), rfl, trivial, ⟨rs, fra, frg, (by omega), by rw [ht]; exact hP9, hD9⟩⟩, hS.F ht⟩) hS.2.2 dX11_row_12
  · refine lv_if_ne (tgt := 13) hx hb dX11_row_7 (by decide) (fun c_7 => ?_) (fun c_7 => absurd c_7 (by decide))
    refine lv_iload_n hx hb dX11_row_13 rfl (lv_at hl 1 rfl) ?_
    refine lv_iconst (v := 0) hx hb dX11_row_14 (by decide) ?_
    refine lv_aload_n hx hb dX11_row_15 rfl (lv_at hl 0 rfl) ?_
    refine va_get (D := D) (ci := 11) (v := .ref aq) (C := RX11) (T := TX11) (N := 9) hx hb hg gwX11 hown hK hP 0 rfl rfl 2 (by decide) (hg _ kw_523) (fun _ h9 => h9) rfl dX11_row_16 ?_
    refine va_get (D := D) (ci := 5) (v := .int (nI P)) (C := RX5) (T := TX5) (N := 7) hx hb hg gwX5 hown hK hP 1 rfl rfl 5 (by decide) (hg _ kw_556) (fun _ h9 => h9) rfl dX11_row_19 ?_
    refine vp_callSi (W.runS (As := [.int (nI P)]) (rest := [.int 0, .int p1]) ⟨hx, hb, hml, hown, hg⟩ (c_answersLimit l P (by omega)) (va_cwS 1 hg (gw_S kw_558 kw_559 kw_105 kw_557) rfl rfl rfl (by decide +kernel) ⟨(Nat.le_of_ble_eq_true rfl), (Nat.le_of_ble_eq_true rfl)⟩) pr_0 rfl rfl hl.1 rfl (lv_room (Nat.le_of_ble_eq_true rfl)) dX11_row_22 ⟨(Nat.le_of_ble_eq_true rfl), (Nat.le_of_ble_eq_true rfl)⟩) (fun r_22 h_22 => ?_)
    clear h_22
    refine lv_iconst (v := 1) hx hb dX11_row_25 (by decide) ?_
    refine lv_isub hx hb dX11_row_26 ?_
    refine lv_topi (fun z_26 e_26 => ?_)
    refine vp_callSi (W.runS (As := [.int p1, .int 0, .int z_26]) (rest := []) ⟨hx, hb, hml, hown, hg⟩ (c_isWithin l p1 0 z_26) (va_cwS 3 hg (gw_S kw_535 kw_536 kw_12 kw_534) rfl rfl rfl (by decide +kernel) ⟨(Nat.le_of_ble_eq_true rfl), (Nat.le_of_ble_eq_true rfl)⟩) pr_0 rfl rfl hl.1 rfl (lv_room (Nat.le_of_ble_eq_true rfl)) dX11_row_27 ⟨(Nat.le_of_ble_eq_true rfl), (Nat.le_of_ble_eq_true rfl)⟩) (fun r_27 h_27 => ?_)
    replace h_27 : r_27 = 0 ∨ r_27 = 1 := by rw [h_27]; exact iw_01
    rcases h_27 with rfl | rfl
    · refine lv_if_ne (tgt := 36) hx hb dX11_row_30 (by decide) (fun c_30 => absurd c_30 (by decide)) (fun c_30 => ?_)
      refine lv_bipush (v := (-102)) hx hb dX11_row_33 (by decide) ?_
      refine W_sQ hQ ?_
      refine W.widen (k := 0) (n := 0) (Nat.le_of_ble_eq_true rfl) (Nat.le_of_ble_eq_true rfl) ?_
      have hP9 := hP.sub (ws' := [(x0, .inr (11, [.ref pg, .ref rd, .ref aq, .ref py, .ref pl, .ref ch, .ref ro, .int (nI pn), .int td])), (aq, .inr (5, [.ref aw, .ref ac, .ref ao, .ref am, .int (nI C), .int (nI P), .long tot])), (ro, .inr (8, [.ref ra, .ref rg, .int (nI rs)])), (ra, .inl (cs 0, 24, .inl fra)), (rg, .inl (cs 1, 24, .inr (.inl frg)))]) [0, 1, 2, 3, 4] rfl
      have hD9 := hD.sub (ws' := [(x0, .inr (11, [.ref pg, .ref rd, .ref aq, .ref py, .ref pl, .ref ch, .ref ro, .int (nI pn), .int td])), (aq, .inr (5, [.ref aw, .ref ac, .ref ao, .ref am, .int (nI C), .int (nI P), .long tot])), (ro, .inr (8, [.ref ra, .ref rg, .int (nI rs)])), (ra, .inl (cs 0, 24, .inl fra)), (rg, .inl (cs 1, 24, .inr (.inl frg)))]) [0, 1, 2, 3, 4] (by decide) rfl
      exact W.iret (v := (-102)) hx hb hr (fun t ht hW => ⟨⟨(-102), (), rfl, trivial, ⟨rs, fra, frg, (by omega), by rw [ht]; exact hP9, hD9⟩⟩, hS.F ht⟩) hS.2.2 dX11_row_35
    · refine lv_if_ne (tgt := 36) hx hb dX11_row_30 (by decide) (fun c_30 => ?_) (fun c_30 => absurd c_30 (by decide))
      refine lv_lload_n hx hb dX11_row_36 rfl (lv_at hl 2 rfl) ?_
      refine lv_ldc2 hx hb hown (hg _ kw_551) dX11_row_37 ?_
      refine W.lcmp hx hb dX11_row_40 ?_
      refine lv_topi (fun z_40 e_40 => ?_)
      refine lv_if_lt (tgt := 59) hx hb dX11_row_41 (by decide) (fun c_41 => ?_) (fun c_41 => ?_)
      · refine lv_bipush (v := (-102)) hx hb dX11_row_59 (by decide) ?_
        refine W_sQ hQ ?_
        refine W.widen (k := 0) (n := 0) (Nat.le_of_ble_eq_true rfl) (Nat.le_of_ble_eq_true rfl) ?_
        have hP9 := hP.sub (ws' := [(x0, .inr (11, [.ref pg, .ref rd, .ref aq, .ref py, .ref pl, .ref ch, .ref ro, .int (nI pn), .int td])), (aq, .inr (5, [.ref aw, .ref ac, .ref ao, .ref am, .int (nI C), .int (nI P), .long tot])), (ro, .inr (8, [.ref ra, .ref rg, .int (nI rs)])), (ra, .inl (cs 0, 24, .inl fra)), (rg, .inl (cs 1, 24, .inr (.inl frg)))]) [0, 1, 2, 3, 4] rfl
        have hD9 := hD.sub (ws' := [(x0, .inr (11, [.ref pg, .ref rd, .ref aq, .ref py, .ref pl, .ref ch, .ref ro, .int (nI pn), .int td])), (aq, .inr (5, [.ref aw, .ref ac, .ref ao, .ref am, .int (nI C), .int (nI P), .long tot])), (ro, .inr (8, [.ref ra, .ref rg, .int (nI rs)])), (ra, .inl (cs 0, 24, .inl fra)), (rg, .inl (cs 1, 24, .inr (.inl frg)))]) [0, 1, 2, 3, 4] (by decide) rfl
        exact W.iret (v := (-102)) hx hb hr (fun t ht hW => ⟨⟨(-102), (), rfl, trivial, ⟨rs, fra, frg, (by omega), by rw [ht]; exact hP9, hD9⟩⟩, hS.F ht⟩) hS.2.2 dX11_row_61
      · refine lv_lload_n hx hb dX11_row_44 rfl (lv_at hl 2 rfl) ?_
        refine lv_aload_n hx hb dX11_row_45 rfl (lv_at hl 0 rfl) ?_
        refine va_get (D := D) (ci := 11) (v := .ref aq) (C := RX11) (T := TX11) (N := 9) hx hb hg gwX11 hown hK hP 0 rfl rfl 2 (by decide) (hg _ kw_523) (fun _ h9 => h9) rfl dX11_row_46 ?_
        refine va_get (D := D) (ci := 5) (v := .int (nI P)) (C := RX5) (T := TX5) (N := 7) hx hb hg gwX5 hown hK hP 1 rfl rfl 5 (by decide) (hg _ kw_556) (fun _ h9 => h9) rfl dX11_row_49 ?_
        refine vp_callSl (W.runS (As := [.int (nI P)]) (rest := [.long p2]) ⟨hx, hb, hml, hown, hg⟩ (c_guessesLimit l P (by omega)) (va_cwS 1 hg (gw_S kw_561 kw_562 kw_105 kw_560) rfl rfl rfl (by decide +kernel) ⟨(Nat.le_of_ble_eq_true rfl), (Nat.le_of_ble_eq_true rfl)⟩) pr_0 rfl rfl hl.1 rfl (lv_room (Nat.le_of_ble_eq_true rfl)) dX11_row_52 ⟨(Nat.le_of_ble_eq_true rfl), (Nat.le_of_ble_eq_true rfl)⟩) (fun r_52 h_52 => ?_)
        clear h_52
        refine W.lcmp hx hb dX11_row_55 ?_
        refine lv_topi (fun z_55 e_55 => ?_)
        refine lv_if_lt (tgt := 62) hx hb dX11_row_56 (by decide) (fun c_56 => ?_) (fun c_56 => ?_)
        · refine lv_aload_n hx hb dX11_row_62 rfl (lv_at hl 0 rfl) ?_
          refine va_get (D := D) (ci := 11) (v := .ref ro) (C := RX11) (T := TX11) (N := 9) hx hb hg gwX11 hown hK hP 0 rfl rfl 6 (by decide) (hg _ kw_563) (fun _ h9 => h9) rfl dX11_row_63 ?_
          refine va_get (D := D) (ci := 8) (v := .int (nI rs)) (C := RX8) (T := TX8) (N := 3) hx hb hg gwX8 hown hK hP 2 rfl rfl 2 (by decide) (hg _ kw_564) (fun _ h9 => h9) rfl dX11_row_66 ?_
          refine lv_bipush (v := 24) hx hb dX11_row_69 (by decide) ?_
          refine lv_icmp_lt (tgt := 77) hx hb dX11_row_71 (by decide) (fun c_71 => ?_) (fun c_71 => ?_)
          · have n_71 : rs < 24 := b_lt_t (by omega) (by omega) c_71
            refine lv_aload_n hx hb dX11_row_77 rfl (lv_at hl 0 rfl) ?_
            refine va_get (D := D) (ci := 11) (v := .ref ro) (C := RX11) (T := TX11) (N := 9) hx hb hg gwX11 hown hK hP 0 rfl rfl 6 (by decide) (hg _ kw_563) (fun _ h9 => h9) rfl dX11_row_78 ?_
            refine lv_iload_n hx hb dX11_row_81 rfl (lv_at hl 1 rfl) ?_
            refine lv_lload_n hx hb dX11_row_82 rfl (lv_at hl 2 rfl) ?_
            have hPc := hP.sub (ws' := [(ro, .inr (8, [.ref ra, .ref rg, .int (nI rs)])), (ra, .inl (cs 0, 24, .inl fra)), (rg, .inl (cs 1, 24, .inr (.inl frg)))]) [2, 3, 4] rfl
            have hDc := hD.sub (ws' := [(ro, .inr (8, [.ref ra, .ref rg, .int (nI rs)])), (ra, .inl (cs 0, 24, .inl fra)), (rg, .inl (cs 1, 24, .inr (.inl frg)))]) [2, 3, 4] (by decide) rfl
            have hFc := va_free (wc := [(ro, .inr (8, [.ref ra, .ref rg, .int (nI rs)])), (ra, .inl (cs 0, 24, .inl fra)), (rg, .inl (cs 1, 24, .inr (.inl frg)))]) hD hS hA [2, 3, 4] rfl
            refine va_callv (va_runV (As := [.int p1, .long p2]) (rest := []) ⟨hx, hb, hml, hown, hg⟩ (w_append l D cs ro ra rg rs (by omega) fra frg p1 p2 _) (cwV 2 hg (gw_V kw_566 kw_567 kw_568 kw_105 kw_565) rfl rfl rfl (by decide +kernel) ⟨(Nat.le_of_ble_eq_true rfl), (Nat.le_of_ble_eq_true rfl)⟩) (pr_MV (q := (RX8, TX8, 3)) 8 0 hK hPc hDc rfl rfl) rfl rfl hl.1 rfl (lv_room (Nat.le_of_ble_eq_true rfl)) dX11_row_83 ⟨(Nat.le_of_ble_eq_true rfl), (Nat.le_of_ble_eq_true rfl)⟩) hS (fun q _ h => hFc q h) hFc (fun u t H1 locs ht hvm h_83 hB hz1 hk1 hS => ?_)
            obtain ⟨rs2_83, fra2_83, frg2_83, hrs2_83, hP1, hD1⟩ := hB
            rw [ht] at hP1
            obtain ⟨hP, hD⟩ := va_join (wr := [(x0, .inr (11, [.ref pg, .ref rd, .ref aq, .ref py, .ref pl, .ref ch, .ref ro, .int (nI pn), .int td])), (aq, .inr (5, [.ref aw, .ref ac, .ref ao, .ref am, .int (nI C), .int (nI P), .long tot]))]) (w1 := [(ro, .inr (8, [.ref ra, .ref rg, .int (nI rs2_83)])), (ra, .inl (cs 0, 24, .inl fra2_83)), (rg, .inl (cs 1, 24, .inr (.inl frg2_83)))]) hP hD [2, 3, 4] [0, 1] rfl rfl (by decide) (by decide) hk1 hFc hP1 hD1
            generalize H1 = H at hP hS ⊢
            have hP : va_P D vwCl [(x0, .inr (11, [.ref pg, .ref rd, .ref aq, .ref py, .ref pl, .ref ch, .ref ro, .int (nI pn), .int td])), (aq, .inr (5, [.ref aw, .ref ac, .ref ao, .ref am, .int (nI C), .int (nI P), .long tot])), (ro, .inr (8, [.ref ra, .ref rg, .int (nI rs2_83)])), (ra, .inl (cs 0, 24, .inl fra2_83)), (rg, .inl (cs 1, 24, .inr (.inl frg2_83)))] H := hP
            have hD : va_D A [(x0, .inr (11, [.ref pg, .ref rd, .ref aq, .ref py, .ref pl, .ref ch, .ref ro, .int (nI pn), .int td])), (aq, .inr (5, [.ref aw, .ref ac, .ref ao, .ref am, .int (nI C), .int (nI P), .long tot])), (ro, .inr (8, [.ref ra, .ref rg, .int (nI rs2_83)])), (ra, .inl (cs 0, 24, .inl fra2_83)), (rg, .inl (cs 1, 24, .inr (.inl frg2_83)))] := hD
            refine W.cs (cells' := 0) (slots' := 0) rfl rfl ?_
            refine lv_aload_n hx hb dX11_row_86 rfl (lv_at hl 0 rfl) ?_
            refine va_get (D := D) (ci := 11) (v := .ref ro) (C := RX11) (T := TX11) (N := 9) hx hb hg gwX11 hown hK hP 0 rfl rfl 6 (by decide) (hg _ kw_563) (fun _ h9 => h9) rfl dX11_row_87 ?_
            refine va_get (D := D) (ci := 8) (v := .int (nI rs2_83)) (C := RX8) (T := TX8) (N := 3) hx hb hg gwX8 hown hK hP 2 rfl rfl 2 (by decide) (hg _ kw_564) (fun _ h9 => h9) rfl dX11_row_90 ?_
            refine W_sQ hQ ?_
            refine W.widen (k := 0) (n := 0) (Nat.le_of_ble_eq_true rfl) (Nat.le_of_ble_eq_true rfl) ?_
            have hP9 := hP.sub (ws' := [(x0, .inr (11, [.ref pg, .ref rd, .ref aq, .ref py, .ref pl, .ref ch, .ref ro, .int (nI pn), .int td])), (aq, .inr (5, [.ref aw, .ref ac, .ref ao, .ref am, .int (nI C), .int (nI P), .long tot])), (ro, .inr (8, [.ref ra, .ref rg, .int (nI rs2_83)])), (ra, .inl (cs 0, 24, .inl fra2_83)), (rg, .inl (cs 1, 24, .inr (.inl frg2_83)))]) [0, 1, 2, 3, 4] rfl
            have hD9 := hD.sub (ws' := [(x0, .inr (11, [.ref pg, .ref rd, .ref aq, .ref py, .ref pl, .ref ch, .ref ro, .int (nI pn), .int td])), (aq, .inr (5, [.ref aw, .ref ac, .ref ao, .ref am, .int (nI C), .int (nI P), .long tot])), (ro, .inr (8, [.ref ra, .ref rg, .int (nI rs2_83)])), (ra, .inl (cs 0, 24, .inl fra2_83)), (rg, .inl (cs 1, 24, .inr (.inl frg2_83)))]) [0, 1, 2, 3, 4] (by decide) rfl
            exact W.iret (v := (nI rs2_83)) hx hb hr (fun t ht hW => ⟨⟨(nI rs2_83), (), rfl, trivial, ⟨rs2_83, fra2_83, frg2_83, (by omega), by rw [ht]; exact hP9, hD9⟩⟩, hS.F ht⟩) hS.2.2 dX11_row_93
          · have n_71 : 24 ≤ rs := b_lt_f (by omega) (by omega) c_71
            refine lv_bipush (v := (-104)) hx hb dX11_row_74 (by decide) ?_
            refine W_sQ hQ ?_
            refine W.widen (k := 0) (n := 0) (Nat.le_of_ble_eq_true rfl) (Nat.le_of_ble_eq_true rfl) ?_
            have hP9 := hP.sub (ws' := [(x0, .inr (11, [.ref pg, .ref rd, .ref aq, .ref py, .ref pl, .ref ch, .ref ro, .int (nI pn), .int td])), (aq, .inr (5, [.ref aw, .ref ac, .ref ao, .ref am, .int (nI C), .int (nI P), .long tot])), (ro, .inr (8, [.ref ra, .ref rg, .int (nI rs)])), (ra, .inl (cs 0, 24, .inl fra)), (rg, .inl (cs 1, 24, .inr (.inl frg)))]) [0, 1, 2, 3, 4] rfl
            have hD9 := hD.sub (ws' := [(x0, .inr (11, [.ref pg, .ref rd, .ref aq, .ref py, .ref pl, .ref ch, .ref ro, .int (nI pn), .int td])), (aq, .inr (5, [.ref aw, .ref ac, .ref ao, .ref am, .int (nI C), .int (nI P), .long tot])), (ro, .inr (8, [.ref ra, .ref rg, .int (nI rs)])), (ra, .inl (cs 0, 24, .inl fra)), (rg, .inl (cs 1, 24, .inr (.inl frg)))]) [0, 1, 2, 3, 4] (by decide) rfl
            exact W.iret (v := (-104)) hx hb hr (fun t ht hW => ⟨⟨(-104), (), rfl, trivial, ⟨rs, fra, frg, (by omega), by rw [ht]; exact hP9, hD9⟩⟩, hS.F ht⟩) hS.2.2 dX11_row_76
        · refine lv_bipush (v := (-102)) hx hb dX11_row_59 (by decide) ?_
          refine W_sQ hQ ?_
          refine W.widen (k := 0) (n := 0) (Nat.le_of_ble_eq_true rfl) (Nat.le_of_ble_eq_true rfl) ?_
          have hP9 := hP.sub (ws' := [(x0, .inr (11, [.ref pg, .ref rd, .ref aq, .ref py, .ref pl, .ref ch, .ref ro, .int (nI pn), .int td])), (aq, .inr (5, [.ref aw, .ref ac, .ref ao, .ref am, .int (nI C), .int (nI P), .long tot])), (ro, .inr (8, [.ref ra, .ref rg, .int (nI rs)])), (ra, .inl (cs 0, 24, .inl fra)), (rg, .inl (cs 1, 24, .inr (.inl frg)))]) [0, 1, 2, 3, 4] rfl
          have hD9 := hD.sub (ws' := [(x0, .inr (11, [.ref pg, .ref rd, .ref aq, .ref py, .ref pl, .ref ch, .ref ro, .int (nI pn), .int td])), (aq, .inr (5, [.ref aw, .ref ac, .ref ao, .ref am, .int (nI C), .int (nI P), .long tot])), (ro, .inr (8, [.ref ra, .ref rg, .int (nI rs)])), (ra, .inl (cs 0, 24, .inl fra)), (rg, .inl (cs 1, 24, .inr (.inl frg)))]) [0, 1, 2, 3, 4] (by decide) rfl
          exact W.iret (v := (-102)) hx hb hr (fun t ht hW => ⟨⟨(-102), (), rfl, trivial, ⟨rs, fra, frg, (by omega), by rw [ht]; exact hP9, hD9⟩⟩, hS.F ht⟩) hS.2.2 dX11_row_61

theorem dX11_alike_0 : decode cX11_alike 0 = .ok (.aload_n 0, 1) := by decide +kernel
theorem dX11_alike_1 : decode cX11_alike 1 = .ok (.getfield 26, 3) := by decide +kernel
theorem dX11_alike_4 : decode cX11_alike 4 = .ok (.iload_n 1, 1) := by decide +kernel
theorem dX11_alike_5 : decode cX11_alike 5 = .ok (.invokevirtual 98, 3) := by decide +kernel
theorem dX11_alike_8 : decode cX11_alike 8 = .ok (.ifCond .eq 19, 3) := by decide +kernel
theorem dX11_alike_11 : decode cX11_alike 11 = .ok (.aload_n 0, 1) := by decide +kernel
theorem dX11_alike_12 : decode cX11_alike 12 = .ok (.getfield 26, 3) := by decide +kernel
theorem dX11_alike_15 : decode cX11_alike 15 = .ok (.iload_n 2, 1) := by decide +kernel
theorem dX11_alike_16 : decode cX11_alike 16 = .ok (.invokevirtual 98, 3) := by decide +kernel
theorem dX11_alike_19 : decode cX11_alike 19 = .ok (.ifCond .eq 8, 3) := by decide +kernel
theorem dX11_alike_22 : decode cX11_alike 22 = .ok (.iload_n 1, 1) := by decide +kernel
theorem dX11_alike_23 : decode cX11_alike 23 = .ok (.iload_n 2, 1) := by decide +kernel
theorem dX11_alike_24 : decode cX11_alike 24 = .ok (.if_icmp .ne 7, 3) := by decide +kernel
theorem dX11_alike_27 : decode cX11_alike 27 = .ok (.ldc_w 274, 3) := by decide +kernel
theorem dX11_alike_30 : decode cX11_alike 30 = .ok (.ireturn, 1) := by decide +kernel
theorem dX11_alike_31 : decode cX11_alike 31 = .ok (.iload_n 3, 1) := by decide +kernel
theorem dX11_alike_32 : decode cX11_alike 32 = .ok (.iconst 0, 1) := by decide +kernel
theorem dX11_alike_33 : decode cX11_alike 33 = .ok (.iconst 3, 1) := by decide +kernel
theorem dX11_alike_34 : decode cX11_alike 34 = .ok (.invokestatic 105, 3) := by decide +kernel
theorem dX11_alike_37 : decode cX11_alike 37 = .ok (.ifCond .ne 7, 3) := by decide +kernel
theorem dX11_alike_40 : decode cX11_alike 40 = .ok (.ldc_w 275, 3) := by decide +kernel
theorem dX11_alike_43 : decode cX11_alike 43 = .ok (.ireturn, 1) := by decide +kernel
theorem dX11_alike_44 : decode cX11_alike 44 = .ok (.aload_n 0, 1) := by decide +kernel
theorem dX11_alike_45 : decode cX11_alike 45 = .ok (.getfield 55, 3) := by decide +kernel
theorem dX11_alike_48 : decode cX11_alike 48 = .ok (.iload_n 1, 1) := by decide +kernel
theorem dX11_alike_49 : decode cX11_alike 49 = .ok (.iload_n 2, 1) := by decide +kernel
theorem dX11_alike_50 : decode cX11_alike 50 = .ok (.invokevirtual 276, 3) := by decide +kernel
theorem dX11_alike_53 : decode cX11_alike 53 = .ok (.istore 4, 2) := by decide +kernel
theorem dX11_alike_55 : decode cX11_alike 55 = .ok (.iload_n 3, 1) := by decide +kernel
theorem dX11_alike_56 : decode cX11_alike 56 = .ok (.iconst 2, 1) := by decide +kernel
theorem dX11_alike_57 : decode cX11_alike 57 = .ok (.if_icmp .lt 7, 3) := by decide +kernel
theorem dX11_alike_60 : decode cX11_alike 60 = .ok (.iconst 1, 1) := by decide +kernel
theorem dX11_alike_61 : decode cX11_alike 61 = .ok (.goto 4, 3) := by decide +kernel
theorem dX11_alike_64 : decode cX11_alike 64 = .ok (.iconst 0, 1) := by decide +kernel
theorem dX11_alike_65 : decode cX11_alike 65 = .ok (.istore 5, 2) := by decide +kernel
theorem dX11_alike_67 : decode cX11_alike 67 = .ok (.iload 4, 2) := by decide +kernel
theorem dX11_alike_69 : decode cX11_alike 69 = .ok (.iload 5, 2) := by decide +kernel
theorem dX11_alike_71 : decode cX11_alike 71 = .ok (.ifCond .eq 7, 3) := by decide +kernel
theorem dX11_alike_74 : decode cX11_alike 74 = .ok (.iconst 2, 1) := by decide +kernel
theorem dX11_alike_75 : decode cX11_alike 75 = .ok (.goto 4, 3) := by decide +kernel
theorem dX11_alike_78 : decode cX11_alike 78 = .ok (.iconst 1, 1) := by decide +kernel
theorem dX11_alike_79 : decode cX11_alike 79 = .ok (.if_icmp .ge 7, 3) := by decide +kernel
theorem dX11_alike_82 : decode cX11_alike 82 = .ok (.ldc_w 279, 3) := by decide +kernel
theorem dX11_alike_85 : decode cX11_alike 85 = .ok (.ireturn, 1) := by decide +kernel
theorem dX11_alike_86 : decode cX11_alike 86 = .ok (.aload_n 0, 1) := by decide +kernel
theorem dX11_alike_87 : decode cX11_alike 87 = .ok (.getfield 55, 3) := by decide +kernel
theorem dX11_alike_90 : decode cX11_alike 90 = .ok (.iload_n 1, 1) := by decide +kernel
theorem dX11_alike_91 : decode cX11_alike 91 = .ok (.iload_n 2, 1) := by decide +kernel
theorem dX11_alike_92 : decode cX11_alike 92 = .ok (.invokevirtual 280, 3) := by decide +kernel
theorem dX11_alike_95 : decode cX11_alike 95 = .ok (.istore 6, 2) := by decide +kernel
theorem dX11_alike_97 : decode cX11_alike 97 = .ok (.iload 5, 2) := by decide +kernel
theorem dX11_alike_99 : decode cX11_alike 99 = .ok (.ifCond .ne 15, 3) := by decide +kernel
theorem dX11_alike_102 : decode cX11_alike 102 = .ok (.iload 6, 2) := by decide +kernel
theorem dX11_alike_104 : decode cX11_alike 104 = .ok (.i2l, 1) := by decide +kernel
theorem dX11_alike_105 : decode cX11_alike 105 = .ok (.iload 4, 2) := by decide +kernel
theorem dX11_alike_107 : decode cX11_alike 107 = .ok (.i2l, 1) := by decide +kernel
theorem dX11_alike_108 : decode cX11_alike 108 = .ok (.iload_n 3, 1) := by decide +kernel
theorem dX11_alike_109 : decode cX11_alike 109 = .ok (.invokestatic 126, 3) := by decide +kernel
theorem dX11_alike_112 : decode cX11_alike 112 = .ok (.l2i, 1) := by decide +kernel
theorem dX11_alike_113 : decode cX11_alike 113 = .ok (.ireturn, 1) := by decide +kernel
theorem dX11_alike_114 : decode cX11_alike 114 = .ok (.iload 4, 2) := by decide +kernel
theorem dX11_alike_116 : decode cX11_alike 116 = .ok (.iload 4, 2) := by decide +kernel
theorem dX11_alike_118 : decode cX11_alike 118 = .ok (.iconst 1, 1) := by decide +kernel
theorem dX11_alike_119 : decode cX11_alike 119 = .ok (.isub, 1) := by decide +kernel
theorem dX11_alike_120 : decode cX11_alike 120 = .ok (.imul, 1) := by decide +kernel
theorem dX11_alike_121 : decode cX11_alike 121 = .ok (.istore 7, 2) := by decide +kernel
theorem dX11_alike_123 : decode cX11_alike 123 = .ok (.iload 6, 2) := by decide +kernel
theorem dX11_alike_125 : decode cX11_alike 125 = .ok (.iload 4, 2) := by decide +kernel
theorem dX11_alike_127 : decode cX11_alike 127 = .ok (.iconst 1, 1) := by decide +kernel
theorem dX11_alike_128 : decode cX11_alike 128 = .ok (.isub, 1) := by decide +kernel
theorem dX11_alike_129 : decode cX11_alike 129 = .ok (.imul, 1) := by decide +kernel
theorem dX11_alike_130 : decode cX11_alike 130 = .ok (.aload_n 0, 1) := by decide +kernel
theorem dX11_alike_131 : decode cX11_alike 131 = .ok (.getfield 55, 3) := by decide +kernel
theorem dX11_alike_134 : decode cX11_alike 134 = .ok (.iload_n 1, 1) := by decide +kernel
theorem dX11_alike_135 : decode cX11_alike 135 = .ok (.iload_n 2, 1) := by decide +kernel
theorem dX11_alike_136 : decode cX11_alike 136 = .ok (.invokevirtual 283, 3) := by decide +kernel
theorem dX11_alike_139 : decode cX11_alike 139 = .ok (.isub, 1) := by decide +kernel
theorem dX11_alike_140 : decode cX11_alike 140 = .ok (.istore 8, 2) := by decide +kernel
theorem dX11_alike_142 : decode cX11_alike 142 = .ok (.iload 8, 2) := by decide +kernel
theorem dX11_alike_144 : decode cX11_alike 144 = .ok (.i2l, 1) := by decide +kernel
theorem dX11_alike_145 : decode cX11_alike 145 = .ok (.iload 7, 2) := by decide +kernel
theorem dX11_alike_147 : decode cX11_alike 147 = .ok (.i2l, 1) := by decide +kernel
theorem dX11_alike_148 : decode cX11_alike 148 = .ok (.iload_n 3, 1) := by decide +kernel
theorem dX11_alike_149 : decode cX11_alike 149 = .ok (.iconst 2, 1) := by decide +kernel
theorem dX11_alike_150 : decode cX11_alike 150 = .ok (.isub, 1) := by decide +kernel
theorem dX11_alike_151 : decode cX11_alike 151 = .ok (.invokestatic 126, 3) := by decide +kernel
theorem dX11_alike_154 : decode cX11_alike 154 = .ok (.l2i, 1) := by decide +kernel
theorem dX11_alike_155 : decode cX11_alike 155 = .ok (.ireturn, 1) := by decide +kernel
theorem kw_569 : (.constant RX11 274 (-1000001) : Cond) ∈ gw_tbl := gw_in (by decide +kernel) (by decide +kernel)
theorem kw_570 : (.constant RX11 275 (-1000002) : Cond) ∈ gw_tbl := gw_in (by decide +kernel) (by decide +kernel)
theorem kw_571 : (.code yX8_answeredByBoth cX8_answeredByBoth 5 (some .int) : Cond) ∈ gw_tbl := gw_in (by decide +kernel) (by decide +kernel)
theorem kw_572 : (.methodLink RX11 276 yX8_answeredByBoth : Cond) ∈ gw_tbl := gw_in (by decide +kernel) (by decide +kernel)
theorem kw_573 : (.instanceMethod yX8_answeredByBoth : Cond) ∈ gw_tbl := gw_in (by decide +kernel) (by decide +kernel)
theorem kw_574 : (.selects RX8 yX8_answeredByBoth yX8_answeredByBoth : Cond) ∈ gw_tbl := gw_in (by decide +kernel) (by decide +kernel)
theorem kw_575 : (.code yX8_sameInOneRow cX8_sameInOneRow 5 (some .int) : Cond) ∈ gw_tbl := gw_in (by decide +kernel) (by decide +kernel)
theorem kw_576 : (.methodLink RX11 280 yX8_sameInOneRow : Cond) ∈ gw_tbl := gw_in (by decide +kernel) (by decide +kernel)
theorem kw_577 : (.instanceMethod yX8_sameInOneRow : Cond) ∈ gw_tbl := gw_in (by decide +kernel) (by decide +kernel)
theorem kw_578 : (.selects RX8 yX8_sameInOneRow yX8_sameInOneRow : Cond) ∈ gw_tbl := gw_in (by decide +kernel) (by decide +kernel)
theorem kw_579 : (.constant RX11 279 (-1000003) : Cond) ∈ gw_tbl := gw_in (by decide +kernel) (by decide +kernel)
theorem kw_580 : (.code yX8_sameInTwoRows cX8_sameInTwoRows 5 (some .int) : Cond) ∈ gw_tbl := gw_in (by decide +kernel) (by decide +kernel)
theorem kw_581 : (.methodLink RX11 283 yX8_sameInTwoRows : Cond) ∈ gw_tbl := gw_in (by decide +kernel) (by decide +kernel)
theorem kw_582 : (.instanceMethod yX8_sameInTwoRows : Cond) ∈ gw_tbl := gw_in (by decide +kernel) (by decide +kernel)
theorem kw_583 : (.selects RX8 yX8_sameInTwoRows yX8_sameInTwoRows : Cond) ∈ gw_tbl := gw_in (by decide +kernel) (by decide +kernel)

set_option maxHeartbeats 4000000 in
set_option maxRecDepth 100000 in
theorem x_alike (l : Launch) (D : va_G) (cs : Nat → ClassId) (x0 : Nat) (py : Nat) (pn : Nat) (hpn : pn ≤ 8) (td : Int32) (pg : Nat) (rd : Nat) (pl : Nat) (ch : Nat) (aq : Nat) (aw : Nat) (ac : Nat) (ao : Nat) (am : Nat) (C : Nat) (hC5 : C ≤ 5) (P : Nat) (hP4 : P ≤ 4) (tot : Int64) (ro : Nat) (ra : Nat) (rg : Nat) (rs : Nat) (hrs : rs ≤ 24) (fra : Nat → Int32) (p1 : Int32) (p2 : Int32) (p3 : Int32) : Met l yX11_alike (Cond.code yX11_alike cX11_alike 9 (some .int) :: gw_tbl) ({ frames := 4, cells := 0, slots := 0, locals := 97 }) (pc_S D cs [(x0, .inr (11, [.ref pg, .ref rd, .ref aq, .ref py, .ref pl, .ref ch, .ref ro, .int (nI pn), .int td])), (aq, .inr (5, [.ref aw, .ref ac, .ref ao, .ref am, .int (nI C), .int (nI P), .long tot])), (ro, .inr (8, [.ref ra, .ref rg, .int (nI rs)])), (ra, .inl (cs 0, 24, .inl fra))] [.ref x0, .int p1, .int p2, .int p3]) (vp_Si (fun r => True)) 0 0 (fun _ => False) := by
  refine Met.ofW (cc := cX11_alike) (maxL := 9) (ret := (some .int)) (by decide) rfl ?_
  intro p e s m args below meth c s₁ B hml hv
  obtain ⟨hargs, hP, hK⟩ := hv
  have hx := B.exec
  have hb := B.bytes
  have hr := B.returns
  have hts := atoms_spec (ws := Cond.code yX11_alike cX11_alike 9 (some .int) :: gw_tbl) B.pre
  have hg := fun (w : Cond) (h : w ∈ gw_tbl) => hts w (List.mem_cons_of_mem _ h)
  have hown : s.vm.findClass RX11 = some m.cls := findClass_of_methodNamed B.named
  have hlocks := B.notSynchronized
  have hl := lv_entry ([.ref x0, .int p1, .int p2, .int p3]) (n := 9) (Nat.le_of_ble_eq_true rfl)
  rw [show entryFrame m args 9 = F0 m 0 (lg_sl ([.ref x0, .int p1, .int p2, .int p3]) ++ List.replicate (9 - (lg_sl ([.ref x0, .int p1, .int p2, .int p3])).length) Slot.unset).toArray [] from by rw [hargs]; exact lg_entry_eq ..]
  generalize (lg_sl ([.ref x0, .int p1, .int p2, .int p3]) ++ List.replicate (9 - (lg_sl ([.ref x0, .int p1, .int p2, .int p3])).length) Slot.unset).toArray = ls at hl ⊢
  have hl : lv_has ls 9 [(0, .ref x0), (1, .int p1), (2, .int p2), (3, .int p3)] := hl
  refine W_genQ (fun Q hQ => ?_)
  have hlm := lim_le hP4
  have hlq := lim_pos P
  have hsg := sgn_le hP4
  refine lv_aload_n hx hb dX11_alike_0 rfl (lv_at hl 0 rfl) ?_
  refine va_get (D := D) (ci := 11) (v := .ref aq) (C := RX11) (T := TX11) (N := 9) hx hb hg gwX11 hown hK hP 0 rfl rfl 2 (by decide) (hg _ kw_523) (fun _ h9 => h9) rfl dX11_alike_1 ?_
  refine lv_iload_n hx hb dX11_alike_4 rfl (lv_at hl 1 rfl) ?_
  have hPc := hP.sub (ws' := [(aq, .inr (5, [.ref aw, .ref ac, .ref ao, .ref am, .int (nI C), .int (nI P), .long tot]))]) [1] rfl
  refine vp_callSi (W.runV (As := [.int p1]) (rest := []) ⟨hx, hb, hml, hown, hg⟩ (q_hasPerson l D cs aq aw ac ao am C (by omega) P (by omega) tot p1) (cwV 1 hg (gw_V kw_529 kw_530 kw_531 kw_19 kw_528) rfl rfl rfl (by decide +kernel) ⟨(Nat.le_of_ble_eq_true rfl), (Nat.le_of_ble_eq_true rfl)⟩) (pr_SV (q := (RX5, TX5, 7)) 5 0 hK hPc rfl rfl) rfl rfl hl.1 rfl (lv_room (Nat.le_of_ble_eq_true rfl)) dX11_alike_5 ⟨(Nat.le_of_ble_eq_true rfl), (Nat.le_of_ble_eq_true rfl)⟩) (fun r_5 h_5 => ?_)
  rcases h_5 with rfl | ⟨rfl, k_5, hk_5, rfl⟩
  · refine lv_if_eq (tgt := 27) hx hb dX11_alike_8 (by decide) (fun c_8 => ?_) (fun c_8 => absurd c_8 (by decide))
    refine lv_ldcw hx hb hown (hg _ kw_569) dX11_alike_27 ?_
    refine W_sQ hQ ?_
    exact W.iret (v := (-1000001)) hx hb hr (fun t ht hW => ⟨(-1000001), rfl, trivial, ht⟩) (fun _ h => absurd h List.not_mem_nil) dX11_alike_30
  · refine lv_if_eq (tgt := 27) hx hb dX11_alike_8 (by decide) (fun c_8 => absurd c_8 (by decide)) (fun c_8 => ?_)
    refine lv_aload_n hx hb dX11_alike_11 rfl (lv_at hl 0 rfl) ?_
    refine va_get (D := D) (ci := 11) (v := .ref aq) (C := RX11) (T := TX11) (N := 9) hx hb hg gwX11 hown hK hP 0 rfl rfl 2 (by decide) (hg _ kw_523) (fun _ h9 => h9) rfl dX11_alike_12 ?_
    refine lv_iload_n hx hb dX11_alike_15 rfl (lv_at hl 2 rfl) ?_
    have hPc := hP.sub (ws' := [(aq, .inr (5, [.ref aw, .ref ac, .ref ao, .ref am, .int (nI C), .int (nI P), .long tot]))]) [1] rfl
    refine vp_callSi (W.runV (As := [.int p2]) (rest := []) ⟨hx, hb, hml, hown, hg⟩ (q_hasPerson l D cs aq aw ac ao am C (by omega) P (by omega) tot p2) (cwV 1 hg (gw_V kw_529 kw_530 kw_531 kw_19 kw_528) rfl rfl rfl (by decide +kernel) ⟨(Nat.le_of_ble_eq_true rfl), (Nat.le_of_ble_eq_true rfl)⟩) (pr_SV (q := (RX5, TX5, 7)) 5 0 hK hPc rfl rfl) rfl rfl hl.1 rfl (lv_room (Nat.le_of_ble_eq_true rfl)) dX11_alike_16 ⟨(Nat.le_of_ble_eq_true rfl), (Nat.le_of_ble_eq_true rfl)⟩) (fun r_16 h_16 => ?_)
    rcases h_16 with rfl | ⟨rfl, k_16, hk_16, rfl⟩
    · refine lv_if_eq (tgt := 27) hx hb dX11_alike_19 (by decide) (fun c_19 => ?_) (fun c_19 => absurd c_19 (by decide))
      refine lv_ldcw hx hb hown (hg _ kw_569) dX11_alike_27 ?_
      refine W_sQ hQ ?_
      exact W.iret (v := (-1000001)) hx hb hr (fun t ht hW => ⟨(-1000001), rfl, trivial, ht⟩) (fun _ h => absurd h List.not_mem_nil) dX11_alike_30
    · refine lv_if_eq (tgt := 27) hx hb dX11_alike_19 (by decide) (fun c_19 => absurd c_19 (by decide)) (fun c_19 => ?_)
      refine lv_iload_n hx hb dX11_alike_22 rfl (lv_at hl 1 rfl) ?_
      refine lv_iload_n hx hb dX11_alike_23 rfl (lv_at hl 2 rfl) ?_
      refine lv_icmp_ne (tgt := 31) hx hb dX11_alike_24 (by decide) (fun c_24 => ?_) (fun c_24 => ?_)
      · have n_24 : ¬ k_5 = k_16 := b_eq_f (by omega) (by omega) c_24
        refine lv_iload_n hx hb dX11_alike_31 rfl (lv_at hl 3 rfl) ?_
        refine lv_iconst (v := 0) hx hb dX11_alike_32 (by decide) ?_
        refine lv_iconst (v := 3) hx hb dX11_alike_33 (by decide) ?_
        refine vp_callSi (W.runS (As := [.int p3, .int 0, .int 3]) (rest := []) ⟨hx, hb, hml, hown, hg⟩ (c_isWithin l p3 0 3) (va_cwS 3 hg (gw_S kw_535 kw_536 kw_12 kw_534) rfl rfl rfl (by decide +kernel) ⟨(Nat.le_of_ble_eq_true rfl), (Nat.le_of_ble_eq_true rfl)⟩) pr_0 rfl rfl hl.1 rfl (lv_room (Nat.le_of_ble_eq_true rfl)) dX11_alike_34 ⟨(Nat.le_of_ble_eq_true rfl), (Nat.le_of_ble_eq_true rfl)⟩) (fun r_34 h_34 => ?_)
        replace h_34 := iw_s (n := 3) (by decide) h_34
        rcases h_34 with rfl | ⟨rfl, k_34, hk_34, rfl⟩
        · refine lv_if_ne (tgt := 44) hx hb dX11_alike_37 (by decide) (fun c_37 => absurd c_37 (by decide)) (fun c_37 => ?_)
          refine lv_ldcw hx hb hown (hg _ kw_570) dX11_alike_40 ?_
          refine W_sQ hQ ?_
          exact W.iret (v := (-1000002)) hx hb hr (fun t ht hW => ⟨(-1000002), rfl, trivial, ht⟩) (fun _ h => absurd h List.not_mem_nil) dX11_alike_43
        · refine lv_if_ne (tgt := 44) hx hb dX11_alike_37 (by decide) (fun c_37 => ?_) (fun c_37 => absurd c_37 (by decide))
          refine lv_aload_n hx hb dX11_alike_44 rfl (lv_at hl 0 rfl) ?_
          refine va_get (D := D) (ci := 11) (v := .ref ro) (C := RX11) (T := TX11) (N := 9) hx hb hg gwX11 hown hK hP 0 rfl rfl 6 (by decide) (hg _ kw_563) (fun _ h9 => h9) rfl dX11_alike_45 ?_
          refine lv_iload_n hx hb dX11_alike_48 rfl (lv_at hl 1 rfl) ?_
          refine lv_iload_n hx hb dX11_alike_49 rfl (lv_at hl 2 rfl) ?_
          have hPc := hP.sub (ws' := [(ro, .inr (8, [.ref ra, .ref rg, .int (nI rs)])), (ra, .inl (cs 0, 24, .inl fra))]) [2, 3] rfl
          refine vp_callSi (W.runV (As := [.int (nI k_5), .int (nI k_16)]) (rest := []) ⟨hx, hb, hml, hown, hg⟩ (w_answeredByBoth l D cs ro ra rg rs (by omega) fra k_5 k_16 (by omega) (by omega)) (cwV 2 hg (gw_V kw_572 kw_573 kw_574 kw_105 kw_571) rfl rfl rfl (by decide +kernel) ⟨(Nat.le_of_ble_eq_true rfl), (Nat.le_of_ble_eq_true rfl)⟩) (pr_SV (q := (RX8, TX8, 3)) 8 0 hK hPc rfl rfl) rfl rfl hl.1 rfl (lv_room (Nat.le_of_ble_eq_true rfl)) dX11_alike_50 ⟨(Nat.le_of_ble_eq_true rfl), (Nat.le_of_ble_eq_true rfl)⟩) (fun r_50 h_50 => ?_)
          clear h_50
          refine lv_istore (lv' := [(4, .int r_50), (0, .ref x0), (1, .int (nI k_5)), (2, .int (nI k_16)), (3, .int (nI k_34))]) hx hb dX11_alike_53 hl (by decide) rfl (fun ls hl => ?_)
          refine lv_iload_n hx hb dX11_alike_55 rfl (lv_at hl 4 rfl) ?_
          refine lv_iconst (v := 2) hx hb dX11_alike_56 (by decide) ?_
          refine lv_icmp_lt (tgt := 64) hx hb dX11_alike_57 (by decide) (fun c_57 => ?_) (fun c_57 => ?_)
          · have n_57 : k_34 < 2 := b_lt_t (by omega) (by omega) c_57
            refine lv_iconst (v := 0) hx hb dX11_alike_64 (by decide) ?_
            refine lv_istore (lv' := [(5, .int 0), (4, .int r_50), (0, .ref x0), (1, .int (nI k_5)), (2, .int (nI k_16)), (3, .int (nI k_34))]) hx hb dX11_alike_65 hl (by decide) rfl (fun ls hl => ?_)
            refine lv_iload hx hb dX11_alike_67 (lv_at hl 1 rfl) ?_
            refine lv_iload hx hb dX11_alike_69 (lv_at hl 0 rfl) ?_
            refine lv_if_eq (tgt := 78) hx hb dX11_alike_71 (by decide) (fun c_71 => ?_) (fun c_71 => absurd c_71 (by decide))
            refine lv_iconst (v := 1) hx hb dX11_alike_78 (by decide) ?_
            refine lv_icmp_ge (tgt := 86) hx hb dX11_alike_79 (by decide) (fun c_79 => ?_) (fun c_79 => ?_)
            · refine lv_aload_n hx hb dX11_alike_86 rfl (lv_at hl 2 rfl) ?_
              refine va_get (D := D) (ci := 11) (v := .ref ro) (C := RX11) (T := TX11) (N := 9) hx hb hg gwX11 hown hK hP 0 rfl rfl 6 (by decide) (hg _ kw_563) (fun _ h9 => h9) rfl dX11_alike_87 ?_
              refine lv_iload_n hx hb dX11_alike_90 rfl (lv_at hl 3 rfl) ?_
              refine lv_iload_n hx hb dX11_alike_91 rfl (lv_at hl 4 rfl) ?_
              have hPc := hP.sub (ws' := [(ro, .inr (8, [.ref ra, .ref rg, .int (nI rs)])), (ra, .inl (cs 0, 24, .inl fra))]) [2, 3] rfl
              refine vp_callSi (W.runV (As := [.int (nI k_5), .int (nI k_16)]) (rest := []) ⟨hx, hb, hml, hown, hg⟩ (w_sameInOneRow l D cs ro ra rg rs (by omega) fra k_5 k_16 (by omega) (by omega)) (cwV 2 hg (gw_V kw_576 kw_577 kw_578 kw_105 kw_575) rfl rfl rfl (by decide +kernel) ⟨(Nat.le_of_ble_eq_true rfl), (Nat.le_of_ble_eq_true rfl)⟩) (pr_SV (q := (RX8, TX8, 3)) 8 0 hK hPc rfl rfl) rfl rfl hl.1 rfl (lv_room (Nat.le_of_ble_eq_true rfl)) dX11_alike_92 ⟨(Nat.le_of_ble_eq_true rfl), (Nat.le_of_ble_eq_true rfl)⟩) (fun r_92 h_92 => ?_)
              clear h_92
              refine lv_istore (lv' := [(6, .int r_92), (5, .int 0), (4, .int r_50), (0, .ref x0), (1, .int (nI k_5)), (2, .int (nI k_16)), (3, .int (nI k_34))]) hx hb dX11_alike_95 hl (by decide) rfl (fun ls hl => ?_)
              refine lv_iload hx hb dX11_alike_97 (lv_at hl 1 rfl) ?_
              refine lv_if_ne (tgt := 114) hx hb dX11_alike_99 (by decide) (fun c_99 => absurd c_99 (by decide)) (fun c_99 => ?_)
              refine lv_iload hx hb dX11_alike_102 (lv_at hl 0 rfl) ?_
              refine lv_i2l hx hb dX11_alike_104 rfl ?_
              refine lv_topl (fun z_104 e_104 => ?_)
              refine lv_iload hx hb dX11_alike_105 (lv_at hl 2 rfl) ?_
              refine lv_i2l hx hb dX11_alike_107 rfl ?_
              refine lv_topl (fun z_107 e_107 => ?_)
              refine lv_iload_n hx hb dX11_alike_108 rfl (lv_at hl 6 rfl) ?_
              refine vp_callSl (W.runS (As := [.long z_104, .long z_107, .int (nI k_34)]) (rest := []) ⟨hx, hb, hml, hown, hg⟩ (c_inLowestTerms l z_104 z_107 (nI k_34)) (va_cwS 3 hg (gw_S kw_549 kw_550 kw_12 kw_548) rfl rfl rfl (by decide +kernel) ⟨(Nat.le_of_ble_eq_true rfl), (Nat.le_of_ble_eq_true rfl)⟩) pr_0 rfl rfl hl.1 rfl (lv_room (Nat.le_of_ble_eq_true rfl)) dX11_alike_109 ⟨(Nat.le_of_ble_eq_true rfl), (Nat.le_of_ble_eq_true rfl)⟩) (fun r_109 h_109 => ?_)
              clear h_109
              refine lv_l2i hx hb dX11_alike_112 rfl ?_
              refine lv_topi (fun z_112 e_112 => ?_)
              refine W_sQ hQ ?_
              exact W.iret (v := z_112) hx hb hr (fun t ht hW => ⟨z_112, rfl, trivial, ht⟩) (fun _ h => absurd h List.not_mem_nil) dX11_alike_113
            · refine lv_ldcw hx hb hown (hg _ kw_579) dX11_alike_82 ?_
              refine W_sQ hQ ?_
              exact W.iret (v := (-1000003)) hx hb hr (fun t ht hW => ⟨(-1000003), rfl, trivial, ht⟩) (fun _ h => absurd h List.not_mem_nil) dX11_alike_85
          · have n_57 : 2 ≤ k_34 := b_lt_f (by omega) (by omega) c_57
            refine lv_iconst (v := 1) hx hb dX11_alike_60 (by decide) ?_
            refine lv_goto (tgt := 65) hx hb dX11_alike_61 (by decide) ?_
            refine lv_istore (lv' := [(5, .int 1), (4, .int r_50), (0, .ref x0), (1, .int (nI k_5)), (2, .int (nI k_16)), (3, .int (nI k_34))]) hx hb dX11_alike_65 hl (by decide) rfl (fun ls hl => ?_)
            refine lv_iload hx hb dX11_alike_67 (lv_at hl 1 rfl) ?_
            refine lv_iload hx hb dX11_alike_69 (lv_at hl 0 rfl) ?_
            refine lv_if_eq (tgt := 78) hx hb dX11_alike_71 (by decide) (fun c_71 => absurd c_71 (by decide)) (fun c_71 => ?_)
            refine lv_iconst (v := 2) hx hb dX11_alike_74 (by decide) ?_
            refine lv_goto (tgt := 79) hx hb dX11_alike_75 (by decide) ?_
            refine lv_icmp_ge (tgt := 86) hx hb dX11_alike_79 (by decide) (fun c_79 => ?_) (fun c_79 => ?_)
            · refine lv_aload_n hx hb dX11_alike_86 rfl (lv_at hl 2 rfl) ?_
              refine va_get (D := D) (ci := 11) (v := .ref ro) (C := RX11) (T := TX11) (N := 9) hx hb hg gwX11 hown hK hP 0 rfl rfl 6 (by decide) (hg _ kw_563) (fun _ h9 => h9) rfl dX11_alike_87 ?_
              refine lv_iload_n hx hb dX11_alike_90 rfl (lv_at hl 3 rfl) ?_
              refine lv_iload_n hx hb dX11_alike_91 rfl (lv_at hl 4 rfl) ?_
              have hPc := hP.sub (ws' := [(ro, .inr (8, [.ref ra, .ref rg, .int (nI rs)])), (ra, .inl (cs 0, 24, .inl fra))]) [2, 3] rfl
              refine vp_callSi (W.runV (As := [.int (nI k_5), .int (nI k_16)]) (rest := []) ⟨hx, hb, hml, hown, hg⟩ (w_sameInOneRow l D cs ro ra rg rs (by omega) fra k_5 k_16 (by omega) (by omega)) (cwV 2 hg (gw_V kw_576 kw_577 kw_578 kw_105 kw_575) rfl rfl rfl (by decide +kernel) ⟨(Nat.le_of_ble_eq_true rfl), (Nat.le_of_ble_eq_true rfl)⟩) (pr_SV (q := (RX8, TX8, 3)) 8 0 hK hPc rfl rfl) rfl rfl hl.1 rfl (lv_room (Nat.le_of_ble_eq_true rfl)) dX11_alike_92 ⟨(Nat.le_of_ble_eq_true rfl), (Nat.le_of_ble_eq_true rfl)⟩) (fun r_92 h_92 => ?_)
              clear h_92
              refine lv_istore (lv' := [(6, .int r_92), (5, .int 1), (4, .int r_50), (0, .ref x0), (1, .int (nI k_5)), (2, .int (nI k_16)), (3, .int (nI k_34))]) hx hb dX11_alike_95 hl (by decide) rfl (fun ls hl => ?_)
              refine lv_iload hx hb dX11_alike_97 (lv_at hl 1 rfl) ?_
              refine lv_if_ne (tgt := 114) hx hb dX11_alike_99 (by decide) (fun c_99 => ?_) (fun c_99 => absurd c_99 (by decide))
              refine lv_iload hx hb dX11_alike_114 (lv_at hl 2 rfl) ?_
              refine lv_iload hx hb dX11_alike_116 (lv_at hl 2 rfl) ?_
              refine lv_iconst (v := 1) hx hb dX11_alike_118 (by decide) ?_
              refine lv_isub hx hb dX11_alike_119 ?_
              refine lv_topi (fun z_119 e_119 => ?_)
              refine lv_imul hx hb dX11_alike_120 ?_
              refine lv_topi (fun z_120 e_120 => ?_)
              refine lv_istore (lv' := [(7, .int z_120), (6, .int r_92), (5, .int 1), (4, .int r_50), (0, .ref x0), (1, .int (nI k_5)), (2, .int (nI k_16)), (3, .int (nI k_34))]) hx hb dX11_alike_121 hl (by decide) rfl (fun ls hl => ?_)
              refine lv_iload hx hb dX11_alike_123 (lv_at hl 1 rfl) ?_
              refine lv_iload hx hb dX11_alike_125 (lv_at hl 3 rfl) ?_
              refine lv_iconst (v := 1) hx hb dX11_alike_127 (by decide) ?_
              refine lv_isub hx hb dX11_alike_128 ?_
              refine lv_topi (fun z_128 e_128 => ?_)
              refine lv_imul hx hb dX11_alike_129 ?_
              refine lv_topi (fun z_129 e_129 => ?_)
              refine lv_aload_n hx hb dX11_alike_130 rfl (lv_at hl 4 rfl) ?_
              refine va_get (D := D) (ci := 11) (v := .ref ro) (C := RX11) (T := TX11) (N := 9) hx hb hg gwX11 hown hK hP 0 rfl rfl 6 (by decide) (hg _ kw_563) (fun _ h9 => h9) rfl dX11_alike_131 ?_
              refine lv_iload_n hx hb dX11_alike_134 rfl (lv_at hl 5 rfl) ?_
              refine lv_iload_n hx hb dX11_alike_135 rfl (lv_at hl 6 rfl) ?_
              have hPc := hP.sub (ws' := [(ro, .inr (8, [.ref ra, .ref rg, .int (nI rs)])), (ra, .inl (cs 0, 24, .inl fra))]) [2, 3] rfl
              refine vp_callSi (W.runV (As := [.int (nI k_5), .int (nI k_16)]) (rest := [.int z_129]) ⟨hx, hb, hml, hown, hg⟩ (w_sameInTwoRows l D cs ro ra rg rs (by omega) fra k_5 k_16 (by omega) (by omega)) (cwV 2 hg (gw_V kw_581 kw_582 kw_583 kw_105 kw_580) rfl rfl rfl (by decide +kernel) ⟨(Nat.le_of_ble_eq_true rfl), (Nat.le_of_ble_eq_true rfl)⟩) (pr_SV (q := (RX8, TX8, 3)) 8 0 hK hPc rfl rfl) rfl rfl hl.1 rfl (lv_room (Nat.le_of_ble_eq_true rfl)) dX11_alike_136 ⟨(Nat.le_of_ble_eq_true rfl), (Nat.le_of_ble_eq_true rfl)⟩) (fun r_136 h_136 => ?_)
              clear h_136
              refine lv_isub hx hb dX11_alike_139 ?_
              refine lv_topi (fun z_139 e_139 => ?_)
              refine lv_istore (lv' := [(8, .int z_139), (7, .int z_120), (6, .int r_92), (5, .int 1), (4, .int r_50), (0, .ref x0), (1, .int (nI k_5)), (2, .int (nI k_16)), (3, .int (nI k_34))]) hx hb dX11_alike_140 hl (by decide) rfl (fun ls hl => ?_)
              refine lv_iload hx hb dX11_alike_142 (lv_at hl 0 rfl) ?_
              refine lv_i2l hx hb dX11_alike_144 rfl ?_
              refine lv_topl (fun z_144 e_144 => ?_)
              refine lv_iload hx hb dX11_alike_145 (lv_at hl 1 rfl) ?_
              refine lv_i2l hx hb dX11_alike_147 rfl ?_
              refine lv_topl (fun z_147 e_147 => ?_)
              refine lv_iload_n hx hb dX11_alike_148 rfl (lv_at hl 8 rfl) ?_
              refine lv_iconst (v := 2) hx hb dX11_alike_149 (by decide) ?_
              refine lv_isub hx hb dX11_alike_150 ?_
              refine lv_topi (fun z_150 e_150 => ?_)
              refine vp_callSl (W.runS (As := [.long z_144, .long z_147, .int z_150]) (rest := []) ⟨hx, hb, hml, hown, hg⟩ (c_inLowestTerms l z_144 z_147 z_150) (va_cwS 3 hg (gw_S kw_549 kw_550 kw_12 kw_548) rfl rfl rfl (by decide +kernel) ⟨(Nat.le_of_ble_eq_true rfl), (Nat.le_of_ble_eq_true rfl)⟩) pr_0 rfl rfl hl.1 rfl (lv_room (Nat.le_of_ble_eq_true rfl)) dX11_alike_151 ⟨(Nat.le_of_ble_eq_true rfl), (Nat.le_of_ble_eq_true rfl)⟩) (fun r_151 h_151 => ?_)
              clear h_151
              refine lv_l2i hx hb dX11_alike_154 rfl ?_
              refine lv_topi (fun z_154 e_154 => ?_)
              refine W_sQ hQ ?_
              exact W.iret (v := z_154) hx hb hr (fun t ht hW => ⟨z_154, rfl, trivial, ht⟩) (fun _ h => absurd h List.not_mem_nil) dX11_alike_155
            · refine lv_ldcw hx hb hown (hg _ kw_579) dX11_alike_82 ?_
              refine W_sQ hQ ?_
              exact W.iret (v := (-1000003)) hx hb hr (fun t ht hW => ⟨(-1000003), rfl, trivial, ht⟩) (fun _ h => absurd h List.not_mem_nil) dX11_alike_85
      · have n_24 : k_5 = k_16 := b_eq_t (by omega) (by omega) c_24
        refine lv_ldcw hx hb hown (hg _ kw_569) dX11_alike_27 ?_
        refine W_sQ hQ ?_
        exact W.iret (v := (-1000001)) hx hb hr (fun t ht hW => ⟨(-1000001), rfl, trivial, ht⟩) (fun _ h => absurd h List.not_mem_nil) dX11_alike_30

theorem dX11_crowd_0 : decode cX11_crowd 0 = .ok (.iload_n 1, 1) := by decide +kernel
theorem dX11_crowd_1 : decode cX11_crowd 1 = .ok (.iconst 0, 1) := by decide +kernel
theorem dX11_crowd_2 : decode cX11_crowd 2 = .ok (.aload_n 0, 1) := by decide +kernel
theorem dX11_crowd_3 : decode cX11_crowd 3 = .ok (.getfield 55, 3) := by decide +kernel
theorem dX11_crowd_6 : decode cX11_crowd 6 = .ok (.getfield 83, 3) := by decide +kernel
theorem dX11_crowd_9 : decode cX11_crowd 9 = .ok (.iconst 1, 1) := by decide +kernel
theorem dX11_crowd_10 : decode cX11_crowd 10 = .ok (.isub, 1) := by decide +kernel
theorem dX11_crowd_11 : decode cX11_crowd 11 = .ok (.invokestatic 105, 3) := by decide +kernel
theorem dX11_crowd_14 : decode cX11_crowd 14 = .ok (.ifCond .ne 6, 3) := by decide +kernel
theorem dX11_crowd_17 : decode cX11_crowd 17 = .ok (.bipush (-101), 2) := by decide +kernel
theorem dX11_crowd_19 : decode cX11_crowd 19 = .ok (.ireturn, 1) := by decide +kernel
theorem dX11_crowd_20 : decode cX11_crowd 20 = .ok (.iload_n 2, 1) := by decide +kernel
theorem dX11_crowd_21 : decode cX11_crowd 21 = .ok (.iconst 0, 1) := by decide +kernel
theorem dX11_crowd_22 : decode cX11_crowd 22 = .ok (.iconst 1, 1) := by decide +kernel
theorem dX11_crowd_23 : decode cX11_crowd 23 = .ok (.invokestatic 105, 3) := by decide +kernel
theorem dX11_crowd_26 : decode cX11_crowd 26 = .ok (.ifCond .ne 6, 3) := by decide +kernel
theorem dX11_crowd_29 : decode cX11_crowd 29 = .ok (.bipush (-102), 2) := by decide +kernel
theorem dX11_crowd_31 : decode cX11_crowd 31 = .ok (.ireturn, 1) := by decide +kernel
theorem dX11_crowd_32 : decode cX11_crowd 32 = .ok (.iload_n 2, 1) := by decide +kernel
theorem dX11_crowd_33 : decode cX11_crowd 33 = .ok (.ifCond .ne 21, 3) := by decide +kernel
theorem dX11_crowd_36 : decode cX11_crowd 36 = .ok (.aload_n 0, 1) := by decide +kernel
theorem dX11_crowd_37 : decode cX11_crowd 37 = .ok (.getfield 55, 3) := by decide +kernel
theorem dX11_crowd_40 : decode cX11_crowd 40 = .ok (.iload_n 1, 1) := by decide +kernel
theorem dX11_crowd_41 : decode cX11_crowd 41 = .ok (.aload_n 0, 1) := by decide +kernel
theorem dX11_crowd_42 : decode cX11_crowd 42 = .ok (.getfield 26, 3) := by decide +kernel
theorem dX11_crowd_45 : decode cX11_crowd 45 = .ok (.getfield 87, 3) := by decide +kernel
theorem dX11_crowd_48 : decode cX11_crowd 48 = .ok (.invokevirtual 286, 3) := by decide +kernel
theorem dX11_crowd_51 : decode cX11_crowd 51 = .ok (.goto 18, 3) := by decide +kernel
theorem dX11_crowd_54 : decode cX11_crowd 54 = .ok (.aload_n 0, 1) := by decide +kernel
theorem dX11_crowd_55 : decode cX11_crowd 55 = .ok (.getfield 55, 3) := by decide +kernel
theorem dX11_crowd_58 : decode cX11_crowd 58 = .ok (.iload_n 1, 1) := by decide +kernel
theorem dX11_crowd_59 : decode cX11_crowd 59 = .ok (.aload_n 0, 1) := by decide +kernel
theorem dX11_crowd_60 : decode cX11_crowd 60 = .ok (.getfield 26, 3) := by decide +kernel
theorem dX11_crowd_63 : decode cX11_crowd 63 = .ok (.getfield 87, 3) := by decide +kernel
theorem dX11_crowd_66 : decode cX11_crowd 66 = .ok (.invokevirtual 289, 3) := by decide +kernel
theorem dX11_crowd_69 : decode cX11_crowd 69 = .ok (.ireturn, 1) := by decide +kernel
theorem kw_584 : (.code yX8_surprisedAt cX8_surprisedAt 7 (some .int) : Cond) ∈ gw_tbl := gw_in (by decide +kernel) (by decide +kernel)
theorem kw_585 : (.methodLink RX11 289 yX8_surprisedAt : Cond) ∈ gw_tbl := gw_in (by decide +kernel) (by decide +kernel)
theorem kw_586 : (.instanceMethod yX8_surprisedAt : Cond) ∈ gw_tbl := gw_in (by decide +kernel) (by decide +kernel)
theorem kw_587 : (.selects RX8 yX8_surprisedAt yX8_surprisedAt : Cond) ∈ gw_tbl := gw_in (by decide +kernel) (by decide +kernel)
theorem kw_588 : (.code yX8_says cX8_says 7 (some .int) : Cond) ∈ gw_tbl := gw_in (by decide +kernel) (by decide +kernel)
theorem kw_589 : (.methodLink RX11 286 yX8_says : Cond) ∈ gw_tbl := gw_in (by decide +kernel) (by decide +kernel)
theorem kw_590 : (.instanceMethod yX8_says : Cond) ∈ gw_tbl := gw_in (by decide +kernel) (by decide +kernel)
theorem kw_591 : (.selects RX8 yX8_says yX8_says : Cond) ∈ gw_tbl := gw_in (by decide +kernel) (by decide +kernel)

set_option maxHeartbeats 4000000 in
set_option maxRecDepth 100000 in
theorem x_crowd (l : Launch) (D : va_G) (cs : Nat → ClassId) (x0 : Nat) (py : Nat) (pn : Nat) (hpn : pn ≤ 8) (td : Int32) (pg : Nat) (rd : Nat) (pl : Nat) (ch : Nat) (aq : Nat) (aw : Nat) (ac : Nat) (ao : Nat) (am : Nat) (C : Nat) (hC5 : C ≤ 5) (P : Nat) (hP4 : P ≤ 4) (tot : Int64) (ro : Nat) (ra : Nat) (rg : Nat) (rs : Nat) (hrs : rs ≤ 24) (fra : Nat → Int32) (frg : Nat → Int64) (p1 : Int32) (p2 : Int32) : Met l yX11_crowd (Cond.code yX11_crowd cX11_crowd 3 (some .int) :: gw_tbl) ({ frames := 2, cells := 0, slots := 0, locals := 51 }) (pc_S D cs [(x0, .inr (11, [.ref pg, .ref rd, .ref aq, .ref py, .ref pl, .ref ch, .ref ro, .int (nI pn), .int td])), (aq, .inr (5, [.ref aw, .ref ac, .ref ao, .ref am, .int (nI C), .int (nI P), .long tot])), (ro, .inr (8, [.ref ra, .ref rg, .int (nI rs)])), (ra, .inl (cs 0, 24, .inl fra)), (rg, .inl (cs 1, 24, .inr (.inl frg)))] [.ref x0, .int p1, .int p2]) (vp_Si (fun r => True)) 0 0 (fun _ => False) := by
  refine Met.ofW (cc := cX11_crowd) (maxL := 3) (ret := (some .int)) (by decide) rfl ?_
  intro p e s m args below meth c s₁ B hml hv
  obtain ⟨hargs, hP, hK⟩ := hv
  have hx := B.exec
  have hb := B.bytes
  have hr := B.returns
  have hts := atoms_spec (ws := Cond.code yX11_crowd cX11_crowd 3 (some .int) :: gw_tbl) B.pre
  have hg := fun (w : Cond) (h : w ∈ gw_tbl) => hts w (List.mem_cons_of_mem _ h)
  have hown : s.vm.findClass RX11 = some m.cls := findClass_of_methodNamed B.named
  have hlocks := B.notSynchronized
  have hl := lv_entry ([.ref x0, .int p1, .int p2]) (n := 3) (Nat.le_of_ble_eq_true rfl)
  rw [show entryFrame m args 3 = F0 m 0 (lg_sl ([.ref x0, .int p1, .int p2]) ++ List.replicate (3 - (lg_sl ([.ref x0, .int p1, .int p2])).length) Slot.unset).toArray [] from by rw [hargs]; exact lg_entry_eq ..]
  generalize (lg_sl ([.ref x0, .int p1, .int p2]) ++ List.replicate (3 - (lg_sl ([.ref x0, .int p1, .int p2])).length) Slot.unset).toArray = ls at hl ⊢
  have hl : lv_has ls 3 [(0, .ref x0), (1, .int p1), (2, .int p2)] := hl
  refine W_genQ (fun Q hQ => ?_)
  have hlm := lim_le hP4
  have hlq := lim_pos P
  have hsg := sgn_le hP4
  refine lv_iload_n hx hb dX11_crowd_0 rfl (lv_at hl 1 rfl) ?_
  refine lv_iconst (v := 0) hx hb dX11_crowd_1 (by decide) ?_
  refine lv_aload_n hx hb dX11_crowd_2 rfl (lv_at hl 0 rfl) ?_
  refine va_get (D := D) (ci := 11) (v := .ref ro) (C := RX11) (T := TX11) (N := 9) hx hb hg gwX11 hown hK hP 0 rfl rfl 6 (by decide) (hg _ kw_563) (fun _ h9 => h9) rfl dX11_crowd_3 ?_
  refine va_get (D := D) (ci := 8) (v := .int (nI rs)) (C := RX8) (T := TX8) (N := 3) hx hb hg gwX8 hown hK hP 2 rfl rfl 2 (by decide) (hg _ kw_564) (fun _ h9 => h9) rfl dX11_crowd_6 ?_
  refine lv_iconst (v := 1) hx hb dX11_crowd_9 (by decide) ?_
  refine lv_isub hx hb dX11_crowd_10 ?_
  refine lv_topi (fun z_10 e_10 => ?_)
  refine vp_callSi (W.runS (As := [.int p1, .int 0, .int z_10]) (rest := []) ⟨hx, hb, hml, hown, hg⟩ (c_isWithin l p1 0 z_10) (va_cwS 3 hg (gw_S kw_535 kw_536 kw_12 kw_534) rfl rfl rfl (by decide +kernel) ⟨(Nat.le_of_ble_eq_true rfl), (Nat.le_of_ble_eq_true rfl)⟩) pr_0 rfl rfl hl.1 rfl (lv_room (Nat.le_of_ble_eq_true rfl)) dX11_crowd_11 ⟨(Nat.le_of_ble_eq_true rfl), (Nat.le_of_ble_eq_true rfl)⟩) (fun r_11 h_11 => ?_)
  replace h_11 := iw_m (by omega) e_10 h_11
  rcases h_11 with rfl | ⟨rfl, k_11, hk_11, rfl⟩
  · refine lv_if_ne (tgt := 20) hx hb dX11_crowd_14 (by decide) (fun c_14 => absurd c_14 (by decide)) (fun c_14 => ?_)
    refine lv_bipush (v := (-101)) hx hb dX11_crowd_17 (by decide) ?_
    refine W_sQ hQ ?_
    exact W.iret (v := (-101)) hx hb hr (fun t ht hW => ⟨(-101), rfl, trivial, ht⟩) (fun _ h => absurd h List.not_mem_nil) dX11_crowd_19
  · refine lv_if_ne (tgt := 20) hx hb dX11_crowd_14 (by decide) (fun c_14 => ?_) (fun c_14 => absurd c_14 (by decide))
    refine lv_iload_n hx hb dX11_crowd_20 rfl (lv_at hl 2 rfl) ?_
    refine lv_iconst (v := 0) hx hb dX11_crowd_21 (by decide) ?_
    refine lv_iconst (v := 1) hx hb dX11_crowd_22 (by decide) ?_
    refine vp_callSi (W.runS (As := [.int p2, .int 0, .int 1]) (rest := []) ⟨hx, hb, hml, hown, hg⟩ (c_isWithin l p2 0 1) (va_cwS 3 hg (gw_S kw_535 kw_536 kw_12 kw_534) rfl rfl rfl (by decide +kernel) ⟨(Nat.le_of_ble_eq_true rfl), (Nat.le_of_ble_eq_true rfl)⟩) pr_0 rfl rfl hl.1 rfl (lv_room (Nat.le_of_ble_eq_true rfl)) dX11_crowd_23 ⟨(Nat.le_of_ble_eq_true rfl), (Nat.le_of_ble_eq_true rfl)⟩) (fun r_23 h_23 => ?_)
    replace h_23 := iw_s (n := 1) (by decide) h_23
    rcases h_23 with rfl | ⟨rfl, k_23, hk_23, rfl⟩
    · refine lv_if_ne (tgt := 32) hx hb dX11_crowd_26 (by decide) (fun c_26 => absurd c_26 (by decide)) (fun c_26 => ?_)
      refine lv_bipush (v := (-102)) hx hb dX11_crowd_29 (by decide) ?_
      refine W_sQ hQ ?_
      exact W.iret (v := (-102)) hx hb hr (fun t ht hW => ⟨(-102), rfl, trivial, ht⟩) (fun _ h => absurd h List.not_mem_nil) dX11_crowd_31
    · refine lv_if_ne (tgt := 32) hx hb dX11_crowd_26 (by decide) (fun c_26 => ?_) (fun c_26 => absurd c_26 (by decide))
      refine lv_iload_n hx hb dX11_crowd_32 rfl (lv_at hl 2 rfl) ?_
      refine lv_if_ne (tgt := 54) hx hb dX11_crowd_33 (by decide) (fun c_33 => ?_) (fun c_33 => ?_)
      · have n_33 : ¬ k_23 = 0 := b_eq_f (by omega) (by omega) c_33
        refine lv_aload_n hx hb dX11_crowd_54 rfl (lv_at hl 0 rfl) ?_
        refine va_get (D := D) (ci := 11) (v := .ref ro) (C := RX11) (T := TX11) (N := 9) hx hb hg gwX11 hown hK hP 0 rfl rfl 6 (by decide) (hg _ kw_563) (fun _ h9 => h9) rfl dX11_crowd_55 ?_
        refine lv_iload_n hx hb dX11_crowd_58 rfl (lv_at hl 1 rfl) ?_
        refine lv_aload_n hx hb dX11_crowd_59 rfl (lv_at hl 0 rfl) ?_
        refine va_get (D := D) (ci := 11) (v := .ref aq) (C := RX11) (T := TX11) (N := 9) hx hb hg gwX11 hown hK hP 0 rfl rfl 2 (by decide) (hg _ kw_523) (fun _ h9 => h9) rfl dX11_crowd_60 ?_
        refine va_get (D := D) (ci := 5) (v := .int (nI P)) (C := RX5) (T := TX5) (N := 7) hx hb hg gwX5 hown hK hP 1 rfl rfl 5 (by decide) (hg _ kw_556) (fun _ h9 => h9) rfl dX11_crowd_63 ?_
        have hPc := hP.sub (ws' := [(ro, .inr (8, [.ref ra, .ref rg, .int (nI rs)])), (ra, .inl (cs 0, 24, .inl fra)), (rg, .inl (cs 1, 24, .inr (.inl frg)))]) [2, 3, 4] rfl
        refine vp_callSi (W.runV (As := [.int (nI k_11), .int (nI P)]) (rest := []) ⟨hx, hb, hml, hown, hg⟩ (w_surprisedAt l D cs ro ra rg rs (by omega) fra frg k_11 (by omega) P (by omega)) (cwV 2 hg (gw_V kw_585 kw_586 kw_587 kw_105 kw_584) rfl rfl rfl (by decide +kernel) ⟨(Nat.le_of_ble_eq_true rfl), (Nat.le_of_ble_eq_true rfl)⟩) (pr_SV (q := (RX8, TX8, 3)) 8 0 hK hPc rfl rfl) rfl rfl hl.1 rfl (lv_room (Nat.le_of_ble_eq_true rfl)) dX11_crowd_66 ⟨(Nat.le_of_ble_eq_true rfl), (Nat.le_of_ble_eq_true rfl)⟩) (fun r_66 h_66 => ?_)
        clear h_66
        refine W_sQ hQ ?_
        exact W.iret (v := r_66) hx hb hr (fun t ht hW => ⟨r_66, rfl, trivial, ht⟩) (fun _ h => absurd h List.not_mem_nil) dX11_crowd_69
      · have n_33 : k_23 = 0 := b_eq_t (by omega) (by omega) c_33
        refine lv_aload_n hx hb dX11_crowd_36 rfl (lv_at hl 0 rfl) ?_
        refine va_get (D := D) (ci := 11) (v := .ref ro) (C := RX11) (T := TX11) (N := 9) hx hb hg gwX11 hown hK hP 0 rfl rfl 6 (by decide) (hg _ kw_563) (fun _ h9 => h9) rfl dX11_crowd_37 ?_
        refine lv_iload_n hx hb dX11_crowd_40 rfl (lv_at hl 1 rfl) ?_
        refine lv_aload_n hx hb dX11_crowd_41 rfl (lv_at hl 0 rfl) ?_
        refine va_get (D := D) (ci := 11) (v := .ref aq) (C := RX11) (T := TX11) (N := 9) hx hb hg gwX11 hown hK hP 0 rfl rfl 2 (by decide) (hg _ kw_523) (fun _ h9 => h9) rfl dX11_crowd_42 ?_
        refine va_get (D := D) (ci := 5) (v := .int (nI P)) (C := RX5) (T := TX5) (N := 7) hx hb hg gwX5 hown hK hP 1 rfl rfl 5 (by decide) (hg _ kw_556) (fun _ h9 => h9) rfl dX11_crowd_45 ?_
        have hPc := hP.sub (ws' := [(ro, .inr (8, [.ref ra, .ref rg, .int (nI rs)])), (ra, .inl (cs 0, 24, .inl fra))]) [2, 3] rfl
        refine vp_callSi (W.runV (As := [.int (nI k_11), .int (nI P)]) (rest := []) ⟨hx, hb, hml, hown, hg⟩ (w_says l D cs ro ra rg rs (by omega) fra k_11 (by omega) P (by omega)) (cwV 2 hg (gw_V kw_589 kw_590 kw_591 kw_105 kw_588) rfl rfl rfl (by decide +kernel) ⟨(Nat.le_of_ble_eq_true rfl), (Nat.le_of_ble_eq_true rfl)⟩) (pr_SV (q := (RX8, TX8, 3)) 8 0 hK hPc rfl rfl) rfl rfl hl.1 rfl (lv_room (Nat.le_of_ble_eq_true rfl)) dX11_crowd_48 ⟨(Nat.le_of_ble_eq_true rfl), (Nat.le_of_ble_eq_true rfl)⟩) (fun r_48 h_48 => ?_)
        clear h_48
        refine lv_goto (tgt := 69) hx hb dX11_crowd_51 (by decide) ?_
        refine W_sQ hQ ?_
        exact W.iret (v := r_48) hx hb hr (fun t ht hW => ⟨r_48, rfl, trivial, ht⟩) (fun _ h => absurd h List.not_mem_nil) dX11_crowd_69

theorem dX11_count_0 : decode cX11_count 0 = .ok (.iload_n 1, 1) := by decide +kernel
theorem dX11_count_1 : decode cX11_count 1 = .ok (.tableswitch 81 0 5 #[39, 47, 55, 60, 68, 76], 39) := by decide +kernel
theorem dX11_count_40 : decode cX11_count 40 = .ok (.aload_n 0, 1) := by decide +kernel
theorem dX11_count_41 : decode cX11_count 41 = .ok (.getfield 26, 3) := by decide +kernel
theorem dX11_count_44 : decode cX11_count 44 = .ok (.getfield 292, 3) := by decide +kernel
theorem dX11_count_47 : decode cX11_count 47 = .ok (.ireturn, 1) := by decide +kernel
theorem dX11_count_48 : decode cX11_count 48 = .ok (.aload_n 0, 1) := by decide +kernel
theorem dX11_count_49 : decode cX11_count 49 = .ok (.getfield 26, 3) := by decide +kernel
theorem dX11_count_52 : decode cX11_count 52 = .ok (.getfield 87, 3) := by decide +kernel
theorem dX11_count_55 : decode cX11_count 55 = .ok (.ireturn, 1) := by decide +kernel
theorem dX11_count_56 : decode cX11_count 56 = .ok (.aload_n 0, 1) := by decide +kernel
theorem dX11_count_57 : decode cX11_count 57 = .ok (.getfield 134, 3) := by decide +kernel
theorem dX11_count_60 : decode cX11_count 60 = .ok (.ireturn, 1) := by decide +kernel
theorem dX11_count_61 : decode cX11_count 61 = .ok (.aload_n 0, 1) := by decide +kernel
theorem dX11_count_62 : decode cX11_count 62 = .ok (.getfield 55, 3) := by decide +kernel
theorem dX11_count_65 : decode cX11_count 65 = .ok (.getfield 83, 3) := by decide +kernel
theorem dX11_count_68 : decode cX11_count 68 = .ok (.ireturn, 1) := by decide +kernel
theorem dX11_count_69 : decode cX11_count 69 = .ok (.aload_n 0, 1) := by decide +kernel
theorem dX11_count_70 : decode cX11_count 70 = .ok (.getfield 10, 3) := by decide +kernel
theorem dX11_count_73 : decode cX11_count 73 = .ok (.getfield 63, 3) := by decide +kernel
theorem dX11_count_76 : decode cX11_count 76 = .ok (.ireturn, 1) := by decide +kernel
theorem dX11_count_77 : decode cX11_count 77 = .ok (.aload_n 0, 1) := by decide +kernel
theorem dX11_count_78 : decode cX11_count 78 = .ok (.getfield 244, 3) := by decide +kernel
theorem dX11_count_81 : decode cX11_count 81 = .ok (.ireturn, 1) := by decide +kernel
theorem dX11_count_82 : decode cX11_count 82 = .ok (.bipush (-102), 2) := by decide +kernel
theorem dX11_count_84 : decode cX11_count 84 = .ok (.ireturn, 1) := by decide +kernel
theorem kw_592 : (.fieldLink RX11 292 "NobodyChecks$Question" "cases" "I" : Cond) ∈ gw_tbl := gw_in (by decide +kernel) (by decide +kernel)
theorem kw_593 : (.fieldLink RX11 134 "NobodyChecks" "payCount" "I" : Cond) ∈ gw_tbl := gw_in (by decide +kernel) (by decide +kernel)
theorem kw_594 : (.fieldLink RX11 244 "NobodyChecks" "tablesDone" "I" : Cond) ∈ gw_tbl := gw_in (by decide +kernel) (by decide +kernel)

set_option maxHeartbeats 4000000 in
set_option maxRecDepth 100000 in
theorem x_count (l : Launch) (D : va_G) (cs : Nat → ClassId) (x0 : Nat) (py : Nat) (pn : Nat) (hpn : pn ≤ 8) (td : Int32) (rd : Nat) (pl : Nat) (ch : Nat) (aq : Nat) (aw : Nat) (ac : Nat) (ao : Nat) (am : Nat) (C : Nat) (hC5 : C ≤ 5) (P : Nat) (hP4 : P ≤ 4) (tot : Int64) (ro : Nat) (ra : Nat) (rg : Nat) (rs : Nat) (hrs : rs ≤ 24) (pg : Nat) (cd : Nat) (ps : Nat) (hps : ps ≤ 90) (p1 : Int32) : Met l yX11_count (Cond.code yX11_count cX11_count 2 (some .int) :: gw_tbl) ({ frames := 0, cells := 0, slots := 0, locals := 0 }) (pc_S D cs [(x0, .inr (11, [.ref pg, .ref rd, .ref aq, .ref py, .ref pl, .ref ch, .ref ro, .int (nI pn), .int td])), (aq, .inr (5, [.ref aw, .ref ac, .ref ao, .ref am, .int (nI C), .int (nI P), .long tot])), (ro, .inr (8, [.ref ra, .ref rg, .int (nI rs)])), (pg, .inr (2, [.ref cd, .int (nI ps)]))] [.ref x0, .int p1]) (vp_Si (fun r => True)) 0 0 (fun _ => False) := by
  refine Met.ofW (cc := cX11_count) (maxL := 2) (ret := (some .int)) (by decide) rfl ?_
  intro p e s m args below meth c s₁ B hml hv
  obtain ⟨hargs, hP, hK⟩ := hv
  have hx := B.exec
  have hb := B.bytes
  have hr := B.returns
  have hts := atoms_spec (ws := Cond.code yX11_count cX11_count 2 (some .int) :: gw_tbl) B.pre
  have hg := fun (w : Cond) (h : w ∈ gw_tbl) => hts w (List.mem_cons_of_mem _ h)
  have hown : s.vm.findClass RX11 = some m.cls := findClass_of_methodNamed B.named
  have hlocks := B.notSynchronized
  have hl := lv_entry ([.ref x0, .int p1]) (n := 2) (Nat.le_of_ble_eq_true rfl)
  rw [show entryFrame m args 2 = F0 m 0 (lg_sl ([.ref x0, .int p1]) ++ List.replicate (2 - (lg_sl ([.ref x0, .int p1])).length) Slot.unset).toArray [] from by rw [hargs]; exact lg_entry_eq ..]
  generalize (lg_sl ([.ref x0, .int p1]) ++ List.replicate (2 - (lg_sl ([.ref x0, .int p1])).length) Slot.unset).toArray = ls at hl ⊢
  have hl : lv_has ls 2 [(0, .ref x0), (1, .int p1)] := hl
  refine W_genQ (fun Q hQ => ?_)
  have hlm := lim_le hP4
  have hlq := lim_pos P
  have hsg := sgn_le hP4
  refine lv_iload_n hx hb dX11_count_0 rfl (lv_at hl 1 rfl) ?_
  by_cases t_1 : p1.toInt < 0 ∨ 5 < p1.toInt
  · refine lv_tableOut (tgt := 82) hx hb dX11_count_1 t_1 (by decide) ?_
    refine lv_bipush (v := (-102)) hx hb dX11_count_82 (by decide) ?_
    refine W_sQ hQ ?_
    exact W.iret (v := (-102)) hx hb hr (fun t ht hW => ⟨(-102), rfl, trivial, ht⟩) (fun _ h => absurd h List.not_mem_nil) dX11_count_84
  · rcases tw_0_5 t_1 with rfl | rfl | rfl | rfl | rfl | rfl
    · refine lv_tableIn (tgt := 40) hx hb dX11_count_1 (by decide) (by decide) rfl (by decide) ?_
      refine lv_aload_n hx hb dX11_count_40 rfl (lv_at hl 0 rfl) ?_
      refine va_get (D := D) (ci := 11) (v := .ref aq) (C := RX11) (T := TX11) (N := 9) hx hb hg gwX11 hown hK hP 0 rfl rfl 2 (by decide) (hg _ kw_523) (fun _ h9 => h9) rfl dX11_count_41 ?_
      refine va_get (D := D) (ci := 5) (v := .int (nI C)) (C := RX5) (T := TX5) (N := 7) hx hb hg gwX5 hown hK hP 1 rfl rfl 4 (by decide) (hg _ kw_592) (fun _ h9 => h9) rfl dX11_count_44 ?_
      refine W_sQ hQ ?_
      exact W.iret (v := (nI C)) hx hb hr (fun t ht hW => ⟨(nI C), rfl, trivial, ht⟩) (fun _ h => absurd h List.not_mem_nil) dX11_count_47
    · refine lv_tableIn (tgt := 48) hx hb dX11_count_1 (by decide) (by decide) rfl (by decide) ?_
      refine lv_aload_n hx hb dX11_count_48 rfl (lv_at hl 0 rfl) ?_
      refine va_get (D := D) (ci := 11) (v := .ref aq) (C := RX11) (T := TX11) (N := 9) hx hb hg gwX11 hown hK hP 0 rfl rfl 2 (by decide) (hg _ kw_523) (fun _ h9 => h9) rfl dX11_count_49 ?_
      refine va_get (D := D) (ci := 5) (v := .int (nI P)) (C := RX5) (T := TX5) (N := 7) hx hb hg gwX5 hown hK hP 1 rfl rfl 5 (by decide) (hg _ kw_556) (fun _ h9 => h9) rfl dX11_count_52 ?_
      refine W_sQ hQ ?_
      exact W.iret (v := (nI P)) hx hb hr (fun t ht hW => ⟨(nI P), rfl, trivial, ht⟩) (fun _ h => absurd h List.not_mem_nil) dX11_count_55
    · refine lv_tableIn (tgt := 56) hx hb dX11_count_1 (by decide) (by decide) rfl (by decide) ?_
      refine lv_aload_n hx hb dX11_count_56 rfl (lv_at hl 0 rfl) ?_
      refine va_get (D := D) (ci := 11) (v := .int (nI pn)) (C := RX11) (T := TX11) (N := 9) hx hb hg gwX11 hown hK hP 0 rfl rfl 7 (by decide) (hg _ kw_593) (fun _ h9 => h9) rfl dX11_count_57 ?_
      refine W_sQ hQ ?_
      exact W.iret (v := (nI pn)) hx hb hr (fun t ht hW => ⟨(nI pn), rfl, trivial, ht⟩) (fun _ h => absurd h List.not_mem_nil) dX11_count_60
    · refine lv_tableIn (tgt := 61) hx hb dX11_count_1 (by decide) (by decide) rfl (by decide) ?_
      refine lv_aload_n hx hb dX11_count_61 rfl (lv_at hl 0 rfl) ?_
      refine va_get (D := D) (ci := 11) (v := .ref ro) (C := RX11) (T := TX11) (N := 9) hx hb hg gwX11 hown hK hP 0 rfl rfl 6 (by decide) (hg _ kw_563) (fun _ h9 => h9) rfl dX11_count_62 ?_
      refine va_get (D := D) (ci := 8) (v := .int (nI rs)) (C := RX8) (T := TX8) (N := 3) hx hb hg gwX8 hown hK hP 2 rfl rfl 2 (by decide) (hg _ kw_564) (fun _ h9 => h9) rfl dX11_count_65 ?_
      refine W_sQ hQ ?_
      exact W.iret (v := (nI rs)) hx hb hr (fun t ht hW => ⟨(nI rs), rfl, trivial, ht⟩) (fun _ h => absurd h List.not_mem_nil) dX11_count_68
    · refine lv_tableIn (tgt := 69) hx hb dX11_count_1 (by decide) (by decide) rfl (by decide) ?_
      refine lv_aload_n hx hb dX11_count_69 rfl (lv_at hl 0 rfl) ?_
      refine va_get (D := D) (ci := 11) (v := .ref pg) (C := RX11) (T := TX11) (N := 9) hx hb hg gwX11 hown hK hP 0 rfl rfl 0 (by decide) (hg _ kw_512) (fun _ h9 => h9) rfl dX11_count_70 ?_
      refine va_get (D := D) (ci := 2) (v := .int (nI ps)) (C := RX2) (T := TX2) (N := 2) hx hb hg gwX2 hown hK hP 3 rfl rfl 1 (by decide) (hg _ kw_513) (fun _ h9 => h9) rfl dX11_count_73 ?_
      refine W_sQ hQ ?_
      exact W.iret (v := (nI ps)) hx hb hr (fun t ht hW => ⟨(nI ps), rfl, trivial, ht⟩) (fun _ h => absurd h List.not_mem_nil) dX11_count_76
    · refine lv_tableIn (tgt := 77) hx hb dX11_count_1 (by decide) (by decide) rfl (by decide) ?_
      refine lv_aload_n hx hb dX11_count_77 rfl (lv_at hl 0 rfl) ?_
      refine va_get (D := D) (ci := 11) (v := .int td) (C := RX11) (T := TX11) (N := 9) hx hb hg gwX11 hown hK hP 0 rfl rfl 8 (by decide) (hg _ kw_594) (fun _ h9 => h9) rfl dX11_count_78 ?_
      refine W_sQ hQ ?_
      exact W.iret (v := td) hx hb hr (fun t ht hW => ⟨td, rfl, trivial, ht⟩) (fun _ h => absurd h List.not_mem_nil) dX11_count_81

theorem dX11_leastSame_0 : decode cX11_leastSame 0 = .ok (.aload_n 0, 1) := by decide +kernel
theorem dX11_leastSame_1 : decode cX11_leastSame 1 = .ok (.getfield 26, 3) := by decide +kernel
theorem dX11_leastSame_4 : decode cX11_leastSame 4 = .ok (.invokevirtual 204, 3) := by decide +kernel
theorem dX11_leastSame_7 : decode cX11_leastSame 7 = .ok (.ifCond .eq 13, 3) := by decide +kernel
theorem dX11_leastSame_10 : decode cX11_leastSame 10 = .ok (.aload_n 0, 1) := by decide +kernel
theorem dX11_leastSame_11 : decode cX11_leastSame 11 = .ok (.getfield 48, 3) := by decide +kernel
theorem dX11_leastSame_14 : decode cX11_leastSame 14 = .ok (.invokevirtual 241, 3) := by decide +kernel
theorem dX11_leastSame_17 : decode cX11_leastSame 17 = .ok (.goto 5, 3) := by decide +kernel
theorem dX11_leastSame_20 : decode cX11_leastSame 20 = .ok (.bipush (-103), 2) := by decide +kernel
theorem dX11_leastSame_22 : decode cX11_leastSame 22 = .ok (.ireturn, 1) := by decide +kernel
theorem kw_595 : (.fieldLink RX11 48 "NobodyChecks" "cheapest" "LNobodyChecks$Cheapest;" : Cond) ∈ gw_tbl := gw_in (by decide +kernel) (by decide +kernel)
theorem kw_596 : (.code yX0_seekSame cX0_seekSame 2 (some .int) : Cond) ∈ gw_tbl := gw_in (by decide +kernel) (by decide +kernel)
theorem kw_597 : (.methodLink RX11 241 yX0_seekSame : Cond) ∈ gw_tbl := gw_in (by decide +kernel) (by decide +kernel)
theorem kw_598 : (.instanceMethod yX0_seekSame : Cond) ∈ gw_tbl := gw_in (by decide +kernel) (by decide +kernel)
theorem kw_599 : (.selects RX0 yX0_seekSame yX0_seekSame : Cond) ∈ gw_tbl := gw_in (by decide +kernel) (by decide +kernel)

set_option maxHeartbeats 4000000 in
set_option maxRecDepth 100000 in
theorem x_leastSame (l : Launch) (D : va_G) (cs : Nat → ClassId) (x0 : Nat) (py : Nat) (pn : Nat) (hpn : pn ≤ 8) (td : Int32) (pg : Nat) (rd : Nat) (pl : Nat) (ro : Nat) (ch : Nat) (sm : Nat) (tb : Nat) (ck : Nat) (cm : Nat) (le : Nat) (ne : Nat) (pr : Nat) (tr : Nat) (ln : Nat) (trs : Int32) (lpr : Int64) (smn : Nat) (fsm : Nat → Int32) (aq : Nat) (aw : Nat) (ac : Nat) (ao : Nat) (am : Nat) (C : Nat) (hC5 : C ≤ 5) (P : Nat) (hP4 : P ≤ 4) (tot : Int64) (fao : Nat → Int32) (fam : Nat → Int64) (lr : Nat → Nat) (flr : Nat → Nat → Int64) (fne : Nat → Int64) (ftr : Nat → Int32) (sz : Nat) : Met l yX11_leastSame (Cond.code yX11_leastSame cX11_leastSame 1 (some .int) :: gw_tbl) ({ frames := 5, cells := 0, slots := 0, locals := 136 }) (pc_M D cs [(x0, .inr (11, [.ref pg, .ref rd, .ref aq, .ref py, .ref pl, .ref ch, .ref ro, .int (nI pn), .int td])), (aq, .inr (5, [.ref aw, .ref ac, .ref ao, .ref am, .int (nI C), .int (nI P), .long tot])), (ch, .inr (0, [.ref aq, .ref sm, .ref tb, .ref ck, .ref cm, .ref le, .ref ne, .ref pr, .ref tr, .ref ln, .int trs, .long lpr])), (sm, .inr (9, [.ref smn, .null, .int 0])), (smn, .inl (cs 0, 4, .inl fsm)), (ao, .inl (cs 0, 4, .inl fao)), (am, .inl (cs 1, 16, .inr (.inl fam))), (le, .inl (cs 5, 4, .inr (.inr (.inr (.inr (rowsF 4 lr)))))), ((lr 0), .inl (cs 1, 12, .inr (.inl (flr 0)))), ((lr 1), .inl (cs 1, 12, .inr (.inl (flr 1)))), ((lr 2), .inl (cs 1, 12, .inr (.inl (flr 2)))), ((lr 3), .inl (cs 1, 12, .inr (.inl (flr 3)))), (ne, .inl (cs 1, 12, .inr (.inl fne))), (tr, .inl (cs 0, 4, .inl ftr))] sz [.ref x0]) (va_Qi (fun (r : Int32) (u : Unit) => True) (fun u t => ∃ (fsm2 : Nat → Int32), ∃ (ftr2 : Nat → Int32), ∃ (fne2 : Nat → Int64), ∃ (flr2 : Nat → Nat → Int64), va_P D vwCl [(x0, .inr (11, [.ref pg, .ref rd, .ref aq, .ref py, .ref pl, .ref ch, .ref ro, .int (nI pn), .int td])), (aq, .inr (5, [.ref aw, .ref ac, .ref ao, .ref am, .int (nI C), .int (nI P), .long tot])), (ch, .inr (0, [.ref aq, .ref sm, .ref tb, .ref ck, .ref cm, .ref le, .ref ne, .ref pr, .ref tr, .ref ln, .int trs, .long lpr])), (sm, .inr (9, [.ref smn, .null, .int 0])), (smn, .inl (cs 0, 4, .inl fsm2)), (ao, .inl (cs 0, 4, .inl fao)), (am, .inl (cs 1, 16, .inr (.inl fam))), (le, .inl (cs 5, 4, .inr (.inr (.inr (.inr (rowsF 4 lr)))))), ((lr 0), .inl (cs 1, 12, .inr (.inl (flr2 0)))), ((lr 1), .inl (cs 1, 12, .inr (.inl (flr2 1)))), ((lr 2), .inl (cs 1, 12, .inr (.inl (flr2 2)))), ((lr 3), .inl (cs 1, 12, .inr (.inl (flr2 3)))), (ne, .inl (cs 1, 12, .inr (.inl fne2))), (tr, .inl (cs 0, 4, .inl ftr2))] t.heap ∧ va_D (va_A [(x0, .inr (11, [.ref pg, .ref rd, .ref aq, .ref py, .ref pl, .ref ch, .ref ro, .int (nI pn), .int td])), (aq, .inr (5, [.ref aw, .ref ac, .ref ao, .ref am, .int (nI C), .int (nI P), .long tot])), (ch, .inr (0, [.ref aq, .ref sm, .ref tb, .ref ck, .ref cm, .ref le, .ref ne, .ref pr, .ref tr, .ref ln, .int trs, .long lpr])), (sm, .inr (9, [.ref smn, .null, .int 0])), (smn, .inl (cs 0, 4, .inl fsm)), (ao, .inl (cs 0, 4, .inl fao)), (am, .inl (cs 1, 16, .inr (.inl fam))), (le, .inl (cs 5, 4, .inr (.inr (.inr (.inr (rowsF 4 lr)))))), ((lr 0), .inl (cs 1, 12, .inr (.inl (flr 0)))), ((lr 1), .inl (cs 1, 12, .inr (.inl (flr 1)))), ((lr 2), .inl (cs 1, 12, .inr (.inl (flr 2)))), ((lr 3), .inl (cs 1, 12, .inr (.inl (flr 3)))), (ne, .inl (cs 1, 12, .inr (.inl fne))), (tr, .inl (cs 0, 4, .inl ftr))] sz) [(x0, .inr (11, [.ref pg, .ref rd, .ref aq, .ref py, .ref pl, .ref ch, .ref ro, .int (nI pn), .int td])), (aq, .inr (5, [.ref aw, .ref ac, .ref ao, .ref am, .int (nI C), .int (nI P), .long tot])), (ch, .inr (0, [.ref aq, .ref sm, .ref tb, .ref ck, .ref cm, .ref le, .ref ne, .ref pr, .ref tr, .ref ln, .int trs, .long lpr])), (sm, .inr (9, [.ref smn, .null, .int 0])), (smn, .inl (cs 0, 4, .inl fsm2)), (ao, .inl (cs 0, 4, .inl fao)), (am, .inl (cs 1, 16, .inr (.inl fam))), (le, .inl (cs 5, 4, .inr (.inr (.inr (.inr (rowsF 4 lr)))))), ((lr 0), .inl (cs 1, 12, .inr (.inl (flr2 0)))), ((lr 1), .inl (cs 1, 12, .inr (.inl (flr2 1)))), ((lr 2), .inl (cs 1, 12, .inr (.inl (flr2 2)))), ((lr 3), .inl (cs 1, 12, .inr (.inl (flr2 3)))), (ne, .inl (cs 1, 12, .inr (.inl fne2))), (tr, .inl (cs 0, 4, .inl ftr2))]) (va_A [(x0, .inr (11, [.ref pg, .ref rd, .ref aq, .ref py, .ref pl, .ref ch, .ref ro, .int (nI pn), .int td])), (aq, .inr (5, [.ref aw, .ref ac, .ref ao, .ref am, .int (nI C), .int (nI P), .long tot])), (ch, .inr (0, [.ref aq, .ref sm, .ref tb, .ref ck, .ref cm, .ref le, .ref ne, .ref pr, .ref tr, .ref ln, .int trs, .long lpr])), (sm, .inr (9, [.ref smn, .null, .int 0])), (smn, .inl (cs 0, 4, .inl fsm)), (ao, .inl (cs 0, 4, .inl fao)), (am, .inl (cs 1, 16, .inr (.inl fam))), (le, .inl (cs 5, 4, .inr (.inr (.inr (.inr (rowsF 4 lr)))))), ((lr 0), .inl (cs 1, 12, .inr (.inl (flr 0)))), ((lr 1), .inl (cs 1, 12, .inr (.inl (flr 1)))), ((lr 2), .inl (cs 1, 12, .inr (.inl (flr 2)))), ((lr 3), .inl (cs 1, 12, .inr (.inl (flr 3)))), (ne, .inl (cs 1, 12, .inr (.inl fne))), (tr, .inl (cs 0, 4, .inl ftr))] sz)) 0 0 (va_A [(x0, .inr (11, [.ref pg, .ref rd, .ref aq, .ref py, .ref pl, .ref ch, .ref ro, .int (nI pn), .int td])), (aq, .inr (5, [.ref aw, .ref ac, .ref ao, .ref am, .int (nI C), .int (nI P), .long tot])), (ch, .inr (0, [.ref aq, .ref sm, .ref tb, .ref ck, .ref cm, .ref le, .ref ne, .ref pr, .ref tr, .ref ln, .int trs, .long lpr])), (sm, .inr (9, [.ref smn, .null, .int 0])), (smn, .inl (cs 0, 4, .inl fsm)), (ao, .inl (cs 0, 4, .inl fao)), (am, .inl (cs 1, 16, .inr (.inl fam))), (le, .inl (cs 5, 4, .inr (.inr (.inr (.inr (rowsF 4 lr)))))), ((lr 0), .inl (cs 1, 12, .inr (.inl (flr 0)))), ((lr 1), .inl (cs 1, 12, .inr (.inl (flr 1)))), ((lr 2), .inl (cs 1, 12, .inr (.inl (flr 2)))), ((lr 3), .inl (cs 1, 12, .inr (.inl (flr 3)))), (ne, .inl (cs 1, 12, .inr (.inl fne))), (tr, .inl (cs 0, 4, .inl ftr))] sz) := by
  refine Met.ofW (cc := cX11_leastSame) (maxL := 1) (ret := (some .int)) (by decide) rfl ?_
  intro p e s m args below meth c s₁ B hml hv
  obtain ⟨hargs, hsz, hP, hK, hD0⟩ := hv
  have hx := B.exec
  have hb := B.bytes
  have hr := B.returns
  have hts := atoms_spec (ws := Cond.code yX11_leastSame cX11_leastSame 1 (some .int) :: gw_tbl) B.pre
  have hg := fun (w : Cond) (h : w ∈ gw_tbl) => hts w (List.mem_cons_of_mem _ h)
  have hown : s.vm.findClass RX11 = some m.cls := findClass_of_methodNamed B.named
  have hlocks := B.notSynchronized
  subst hsz
  have hD := hD0.self (sz := s.heap.size)
  generalize hAe : va_A [(x0, .inr (11, [.ref pg, .ref rd, .ref aq, .ref py, .ref pl, .ref ch, .ref ro, .int (nI pn), .int td])), (aq, .inr (5, [.ref aw, .ref ac, .ref ao, .ref am, .int (nI C), .int (nI P), .long tot])), (ch, .inr (0, [.ref aq, .ref sm, .ref tb, .ref ck, .ref cm, .ref le, .ref ne, .ref pr, .ref tr, .ref ln, .int trs, .long lpr])), (sm, .inr (9, [.ref smn, .null, .int 0])), (smn, .inl (cs 0, 4, .inl fsm)), (ao, .inl (cs 0, 4, .inl fao)), (am, .inl (cs 1, 16, .inr (.inl fam))), (le, .inl (cs 5, 4, .inr (.inr (.inr (.inr (rowsF 4 lr)))))), ((lr 0), .inl (cs 1, 12, .inr (.inl (flr 0)))), ((lr 1), .inl (cs 1, 12, .inr (.inl (flr 1)))), ((lr 2), .inl (cs 1, 12, .inr (.inl (flr 2)))), ((lr 3), .inl (cs 1, 12, .inr (.inl (flr 3)))), (ne, .inl (cs 1, 12, .inr (.inl fne))), (tr, .inl (cs 0, 4, .inl ftr))] s.heap.size = A at hD ⊢
  have hA : ∀ q : Nat, s.heap.size ≤ q → A q := fun q h => by rw [← hAe]; exact Or.inr h
  have hS : va_S A s.heap s.heap [] := va_S.rf
  have hP : va_P D vwCl [(x0, .inr (11, [.ref pg, .ref rd, .ref aq, .ref py, .ref pl, .ref ch, .ref ro, .int (nI pn), .int td])), (aq, .inr (5, [.ref aw, .ref ac, .ref ao, .ref am, .int (nI C), .int (nI P), .long tot])), (ch, .inr (0, [.ref aq, .ref sm, .ref tb, .ref ck, .ref cm, .ref le, .ref ne, .ref pr, .ref tr, .ref ln, .int trs, .long lpr])), (sm, .inr (9, [.ref smn, .null, .int 0])), (smn, .inl (cs 0, 4, .inl fsm)), (ao, .inl (cs 0, 4, .inl fao)), (am, .inl (cs 1, 16, .inr (.inl fam))), (le, .inl (cs 5, 4, .inr (.inr (.inr (.inr (rowsF 4 lr)))))), ((lr 0), .inl (cs 1, 12, .inr (.inl (flr 0)))), ((lr 1), .inl (cs 1, 12, .inr (.inl (flr 1)))), ((lr 2), .inl (cs 1, 12, .inr (.inl (flr 2)))), ((lr 3), .inl (cs 1, 12, .inr (.inl (flr 3)))), (ne, .inl (cs 1, 12, .inr (.inl fne))), (tr, .inl (cs 0, 4, .inl ftr))] s.heap := hP
  have hl := lv_entry ([.ref x0]) (n := 1) (Nat.le_of_ble_eq_true rfl)
  rw [show entryFrame m args 1 = F0 m 0 (lg_sl ([.ref x0]) ++ List.replicate (1 - (lg_sl ([.ref x0])).length) Slot.unset).toArray [] from by rw [hargs]; exact lg_entry_eq ..]
  generalize (lg_sl ([.ref x0]) ++ List.replicate (1 - (lg_sl ([.ref x0])).length) Slot.unset).toArray = ls at hl ⊢
  have hl : lv_has ls 1 [(0, .ref x0)] := hl
  refine W_genQ (fun Q hQ => ?_)
  have hlm := lim_le hP4
  have hlq := lim_pos P
  have hsg := sgn_le hP4
  refine lv_aload_n hx hb dX11_leastSame_0 rfl (lv_at hl 0 rfl) ?_
  refine va_get (D := D) (ci := 11) (v := .ref aq) (C := RX11) (T := TX11) (N := 9) hx hb hg gwX11 hown hK hP 0 rfl rfl 2 (by decide) (hg _ kw_523) (fun _ h9 => h9) rfl dX11_leastSame_1 ?_
  have hPc := hP.sub (ws' := [(aq, .inr (5, [.ref aw, .ref ac, .ref ao, .ref am, .int (nI C), .int (nI P), .long tot]))]) [1] rfl
  refine vp_callSi (W.runV (As := []) (rest := []) ⟨hx, hb, hml, hown, hg⟩ (q_stands l D cs aq aw ac ao am C (by omega) P (by omega) tot) (cwV 0 hg (gw_V kw_553 kw_554 kw_555 kw_19 kw_552) rfl rfl rfl (by decide +kernel) ⟨(Nat.le_of_ble_eq_true rfl), (Nat.le_of_ble_eq_true rfl)⟩) (pr_SV (q := (RX5, TX5, 7)) 5 0 hK hPc rfl rfl) rfl rfl hl.1 rfl (lv_room (Nat.le_of_ble_eq_true rfl)) dX11_leastSame_4 ⟨(Nat.le_of_ble_eq_true rfl), (Nat.le_of_ble_eq_true rfl)⟩) (fun r_4 h_4 => ?_)
  rcases h_4 with rfl | rfl
  · refine lv_if_eq (tgt := 20) hx hb dX11_leastSame_7 (by decide) (fun c_7 => ?_) (fun c_7 => absurd c_7 (by decide))
    refine lv_bipush (v := (-103)) hx hb dX11_leastSame_20 (by decide) ?_
    refine W_sQ hQ ?_
    refine W.widen (k := 0) (n := 0) (Nat.le_of_ble_eq_true rfl) (Nat.le_of_ble_eq_true rfl) ?_
    have hP9 := hP.sub (ws' := [(x0, .inr (11, [.ref pg, .ref rd, .ref aq, .ref py, .ref pl, .ref ch, .ref ro, .int (nI pn), .int td])), (aq, .inr (5, [.ref aw, .ref ac, .ref ao, .ref am, .int (nI C), .int (nI P), .long tot])), (ch, .inr (0, [.ref aq, .ref sm, .ref tb, .ref ck, .ref cm, .ref le, .ref ne, .ref pr, .ref tr, .ref ln, .int trs, .long lpr])), (sm, .inr (9, [.ref smn, .null, .int 0])), (smn, .inl (cs 0, 4, .inl fsm)), (ao, .inl (cs 0, 4, .inl fao)), (am, .inl (cs 1, 16, .inr (.inl fam))), (le, .inl (cs 5, 4, .inr (.inr (.inr (.inr (rowsF 4 lr)))))), ((lr 0), .inl (cs 1, 12, .inr (.inl (flr 0)))), ((lr 1), .inl (cs 1, 12, .inr (.inl (flr 1)))), ((lr 2), .inl (cs 1, 12, .inr (.inl (flr 2)))), ((lr 3), .inl (cs 1, 12, .inr (.inl (flr 3)))), (ne, .inl (cs 1, 12, .inr (.inl fne))), (tr, .inl (cs 0, 4, .inl ftr))]) [0, 1, 2, 3, 4, 5, 6, 7, 8, 9, 10, 11, 12, 13] rfl
    have hD9 := hD.sub (ws' := [(x0, .inr (11, [.ref pg, .ref rd, .ref aq, .ref py, .ref pl, .ref ch, .ref ro, .int (nI pn), .int td])), (aq, .inr (5, [.ref aw, .ref ac, .ref ao, .ref am, .int (nI C), .int (nI P), .long tot])), (ch, .inr (0, [.ref aq, .ref sm, .ref tb, .ref ck, .ref cm, .ref le, .ref ne, .ref pr, .ref tr, .ref ln, .int trs, .long lpr])), (sm, .inr (9, [.ref smn, .null, .int 0])), (smn, .inl (cs 0, 4, .inl fsm)), (ao, .inl (cs 0, 4, .inl fao)), (am, .inl (cs 1, 16, .inr (.inl fam))), (le, .inl (cs 5, 4, .inr (.inr (.inr (.inr (rowsF 4 lr)))))), ((lr 0), .inl (cs 1, 12, .inr (.inl (flr 0)))), ((lr 1), .inl (cs 1, 12, .inr (.inl (flr 1)))), ((lr 2), .inl (cs 1, 12, .inr (.inl (flr 2)))), ((lr 3), .inl (cs 1, 12, .inr (.inl (flr 3)))), (ne, .inl (cs 1, 12, .inr (.inl fne))), (tr, .inl (cs 0, 4, .inl ftr))]) [0, 1, 2, 3, 4, 5, 6, 7, 8, 9, 10, 11, 12, 13] (by decide) rfl
    exact W.iret (v := (-103)) hx hb hr (fun t ht hW => ⟨⟨(-103), (), rfl, trivial, ⟨fsm, ftr, fne, flr, by rw [ht]; exact hP9, hD9⟩⟩, hS.F ht⟩) hS.2.2 dX11_leastSame_22
  · refine lv_if_eq (tgt := 20) hx hb dX11_leastSame_7 (by decide) (fun c_7 => absurd c_7 (by decide)) (fun c_7 => ?_)
    refine lv_aload_n hx hb dX11_leastSame_10 rfl (lv_at hl 0 rfl) ?_
    refine va_get (D := D) (ci := 11) (v := .ref ch) (C := RX11) (T := TX11) (N := 9) hx hb hg gwX11 hown hK hP 0 rfl rfl 5 (by decide) (hg _ kw_595) (fun _ h9 => h9) rfl dX11_leastSame_11 ?_
    have hPc := hP.sub (ws' := [(ch, .inr (0, [.ref aq, .ref sm, .ref tb, .ref ck, .ref cm, .ref le, .ref ne, .ref pr, .ref tr, .ref ln, .int trs, .long lpr])), (sm, .inr (9, [.ref smn, .null, .int 0])), (smn, .inl (cs 0, 4, .inl fsm)), (aq, .inr (5, [.ref aw, .ref ac, .ref ao, .ref am, .int (nI C), .int (nI P), .long tot])), (ao, .inl (cs 0, 4, .inl fao)), (am, .inl (cs 1, 16, .inr (.inl fam))), (le, .inl (cs 5, 4, .inr (.inr (.inr (.inr (rowsF 4 lr)))))), ((lr 0), .inl (cs 1, 12, .inr (.inl (flr 0)))), ((lr 1), .inl (cs 1, 12, .inr (.inl (flr 1)))), ((lr 2), .inl (cs 1, 12, .inr (.inl (flr 2)))), ((lr 3), .inl (cs 1, 12, .inr (.inl (flr 3)))), (ne, .inl (cs 1, 12, .inr (.inl fne))), (tr, .inl (cs 0, 4, .inl ftr))]) [2, 3, 4, 1, 5, 6, 7, 8, 9, 10, 11, 12, 13] rfl
    have hDc := hD.sub (ws' := [(ch, .inr (0, [.ref aq, .ref sm, .ref tb, .ref ck, .ref cm, .ref le, .ref ne, .ref pr, .ref tr, .ref ln, .int trs, .long lpr])), (sm, .inr (9, [.ref smn, .null, .int 0])), (smn, .inl (cs 0, 4, .inl fsm)), (aq, .inr (5, [.ref aw, .ref ac, .ref ao, .ref am, .int (nI C), .int (nI P), .long tot])), (ao, .inl (cs 0, 4, .inl fao)), (am, .inl (cs 1, 16, .inr (.inl fam))), (le, .inl (cs 5, 4, .inr (.inr (.inr (.inr (rowsF 4 lr)))))), ((lr 0), .inl (cs 1, 12, .inr (.inl (flr 0)))), ((lr 1), .inl (cs 1, 12, .inr (.inl (flr 1)))), ((lr 2), .inl (cs 1, 12, .inr (.inl (flr 2)))), ((lr 3), .inl (cs 1, 12, .inr (.inl (flr 3)))), (ne, .inl (cs 1, 12, .inr (.inl fne))), (tr, .inl (cs 0, 4, .inl ftr))]) [2, 3, 4, 1, 5, 6, 7, 8, 9, 10, 11, 12, 13] (by decide) rfl
    have hFc := va_free (wc := [(ch, .inr (0, [.ref aq, .ref sm, .ref tb, .ref ck, .ref cm, .ref le, .ref ne, .ref pr, .ref tr, .ref ln, .int trs, .long lpr])), (sm, .inr (9, [.ref smn, .null, .int 0])), (smn, .inl (cs 0, 4, .inl fsm)), (aq, .inr (5, [.ref aw, .ref ac, .ref ao, .ref am, .int (nI C), .int (nI P), .long tot])), (ao, .inl (cs 0, 4, .inl fao)), (am, .inl (cs 1, 16, .inr (.inl fam))), (le, .inl (cs 5, 4, .inr (.inr (.inr (.inr (rowsF 4 lr)))))), ((lr 0), .inl (cs 1, 12, .inr (.inl (flr 0)))), ((lr 1), .inl (cs 1, 12, .inr (.inl (flr 1)))), ((lr 2), .inl (cs 1, 12, .inr (.inl (flr 2)))), ((lr 3), .inl (cs 1, 12, .inr (.inl (flr 3)))), (ne, .inl (cs 1, 12, .inr (.inl fne))), (tr, .inl (cs 0, 4, .inl ftr))]) hD hS hA [2, 3, 4, 1, 5, 6, 7, 8, 9, 10, 11, 12, 13] rfl
    refine va_calli (va_runV (As := []) (rest := []) ⟨hx, hb, hml, hown, hg⟩ (h_seekSame l D cs ch sm tb ck cm le ne pr tr ln trs lpr smn fsm aq aw ac ao am C (by omega) P (by omega) tot fao fam lr flr fne ftr _) (cwV 0 hg (gw_V kw_597 kw_598 kw_599 kw_268 kw_596) rfl rfl rfl (by decide +kernel) ⟨(Nat.le_of_ble_eq_true rfl), (Nat.le_of_ble_eq_true rfl)⟩) (pr_MV (q := (RX0, TX0, 12)) 0 0 hK hPc hDc rfl rfl) rfl rfl hl.1 rfl (lv_room (Nat.le_of_ble_eq_true rfl)) dX11_leastSame_14 ⟨(Nat.le_of_ble_eq_true rfl), (Nat.le_of_ble_eq_true rfl)⟩) hS (fun q _ h => hFc q h) hFc (fun r_14 u t H1 locs ht hvm h_14 hB hz1 hk1 hS => ?_)
    obtain ⟨fsm2_14, ftr2_14, fne2_14, flr2_14, hP1, hD1⟩ := hB
    rw [ht] at hP1
    obtain ⟨hP, hD⟩ := va_join (wr := [(x0, .inr (11, [.ref pg, .ref rd, .ref aq, .ref py, .ref pl, .ref ch, .ref ro, .int (nI pn), .int td]))]) (w1 := [(ch, .inr (0, [.ref aq, .ref sm, .ref tb, .ref ck, .ref cm, .ref le, .ref ne, .ref pr, .ref tr, .ref ln, .int trs, .long lpr])), (sm, .inr (9, [.ref smn, .null, .int 0])), (smn, .inl (cs 0, 4, .inl fsm2_14)), (aq, .inr (5, [.ref aw, .ref ac, .ref ao, .ref am, .int (nI C), .int (nI P), .long tot])), (ao, .inl (cs 0, 4, .inl fao)), (am, .inl (cs 1, 16, .inr (.inl fam))), (le, .inl (cs 5, 4, .inr (.inr (.inr (.inr (rowsF 4 lr)))))), ((lr 0), .inl (cs 1, 12, .inr (.inl (flr2_14 0)))), ((lr 1), .inl (cs 1, 12, .inr (.inl (flr2_14 1)))), ((lr 2), .inl (cs 1, 12, .inr (.inl (flr2_14 2)))), ((lr 3), .inl (cs 1, 12, .inr (.inl (flr2_14 3)))), (ne, .inl (cs 1, 12, .inr (.inl fne2_14))), (tr, .inl (cs 0, 4, .inl ftr2_14))]) hP hD [2, 3, 4, 1, 5, 6, 7, 8, 9, 10, 11, 12, 13] [0] rfl rfl (by decide) (by decide) hk1 hFc hP1 hD1
    generalize H1 = H at hP hS ⊢
    have hP : va_P D vwCl [(x0, .inr (11, [.ref pg, .ref rd, .ref aq, .ref py, .ref pl, .ref ch, .ref ro, .int (nI pn), .int td])), (ch, .inr (0, [.ref aq, .ref sm, .ref tb, .ref ck, .ref cm, .ref le, .ref ne, .ref pr, .ref tr, .ref ln, .int trs, .long lpr])), (sm, .inr (9, [.ref smn, .null, .int 0])), (smn, .inl (cs 0, 4, .inl fsm2_14)), (aq, .inr (5, [.ref aw, .ref ac, .ref ao, .ref am, .int (nI C), .int (nI P), .long tot])), (ao, .inl (cs 0, 4, .inl fao)), (am, .inl (cs 1, 16, .inr (.inl fam))), (le, .inl (cs 5, 4, .inr (.inr (.inr (.inr (rowsF 4 lr)))))), ((lr 0), .inl (cs 1, 12, .inr (.inl (flr2_14 0)))), ((lr 1), .inl (cs 1, 12, .inr (.inl (flr2_14 1)))), ((lr 2), .inl (cs 1, 12, .inr (.inl (flr2_14 2)))), ((lr 3), .inl (cs 1, 12, .inr (.inl (flr2_14 3)))), (ne, .inl (cs 1, 12, .inr (.inl fne2_14))), (tr, .inl (cs 0, 4, .inl ftr2_14))] H := hP
    have hD : va_D A [(x0, .inr (11, [.ref pg, .ref rd, .ref aq, .ref py, .ref pl, .ref ch, .ref ro, .int (nI pn), .int td])), (ch, .inr (0, [.ref aq, .ref sm, .ref tb, .ref ck, .ref cm, .ref le, .ref ne, .ref pr, .ref tr, .ref ln, .int trs, .long lpr])), (sm, .inr (9, [.ref smn, .null, .int 0])), (smn, .inl (cs 0, 4, .inl fsm2_14)), (aq, .inr (5, [.ref aw, .ref ac, .ref ao, .ref am, .int (nI C), .int (nI P), .long tot])), (ao, .inl (cs 0, 4, .inl fao)), (am, .inl (cs 1, 16, .inr (.inl fam))), (le, .inl (cs 5, 4, .inr (.inr (.inr (.inr (rowsF 4 lr)))))), ((lr 0), .inl (cs 1, 12, .inr (.inl (flr2_14 0)))), ((lr 1), .inl (cs 1, 12, .inr (.inl (flr2_14 1)))), ((lr 2), .inl (cs 1, 12, .inr (.inl (flr2_14 2)))), ((lr 3), .inl (cs 1, 12, .inr (.inl (flr2_14 3)))), (ne, .inl (cs 1, 12, .inr (.inl fne2_14))), (tr, .inl (cs 0, 4, .inl ftr2_14))] := hD
    refine W.cs (cells' := 0) (slots' := 0) rfl rfl ?_
    refine lv_goto (tgt := 22) hx hb dX11_leastSame_17 (by decide) ?_
    refine W_sQ hQ ?_
    refine W.widen (k := 0) (n := 0) (Nat.le_of_ble_eq_true rfl) (Nat.le_of_ble_eq_true rfl) ?_
    have hP9 := hP.sub (ws' := [(x0, .inr (11, [.ref pg, .ref rd, .ref aq, .ref py, .ref pl, .ref ch, .ref ro, .int (nI pn), .int td])), (aq, .inr (5, [.ref aw, .ref ac, .ref ao, .ref am, .int (nI C), .int (nI P), .long tot])), (ch, .inr (0, [.ref aq, .ref sm, .ref tb, .ref ck, .ref cm, .ref le, .ref ne, .ref pr, .ref tr, .ref ln, .int trs, .long lpr])), (sm, .inr (9, [.ref smn, .null, .int 0])), (smn, .inl (cs 0, 4, .inl fsm2_14)), (ao, .inl (cs 0, 4, .inl fao)), (am, .inl (cs 1, 16, .inr (.inl fam))), (le, .inl (cs 5, 4, .inr (.inr (.inr (.inr (rowsF 4 lr)))))), ((lr 0), .inl (cs 1, 12, .inr (.inl (flr2_14 0)))), ((lr 1), .inl (cs 1, 12, .inr (.inl (flr2_14 1)))), ((lr 2), .inl (cs 1, 12, .inr (.inl (flr2_14 2)))), ((lr 3), .inl (cs 1, 12, .inr (.inl (flr2_14 3)))), (ne, .inl (cs 1, 12, .inr (.inl fne2_14))), (tr, .inl (cs 0, 4, .inl ftr2_14))]) [0, 4, 1, 2, 3, 5, 6, 7, 8, 9, 10, 11, 12, 13] rfl
    have hD9 := hD.sub (ws' := [(x0, .inr (11, [.ref pg, .ref rd, .ref aq, .ref py, .ref pl, .ref ch, .ref ro, .int (nI pn), .int td])), (aq, .inr (5, [.ref aw, .ref ac, .ref ao, .ref am, .int (nI C), .int (nI P), .long tot])), (ch, .inr (0, [.ref aq, .ref sm, .ref tb, .ref ck, .ref cm, .ref le, .ref ne, .ref pr, .ref tr, .ref ln, .int trs, .long lpr])), (sm, .inr (9, [.ref smn, .null, .int 0])), (smn, .inl (cs 0, 4, .inl fsm2_14)), (ao, .inl (cs 0, 4, .inl fao)), (am, .inl (cs 1, 16, .inr (.inl fam))), (le, .inl (cs 5, 4, .inr (.inr (.inr (.inr (rowsF 4 lr)))))), ((lr 0), .inl (cs 1, 12, .inr (.inl (flr2_14 0)))), ((lr 1), .inl (cs 1, 12, .inr (.inl (flr2_14 1)))), ((lr 2), .inl (cs 1, 12, .inr (.inl (flr2_14 2)))), ((lr 3), .inl (cs 1, 12, .inr (.inl (flr2_14 3)))), (ne, .inl (cs 1, 12, .inr (.inl fne2_14))), (tr, .inl (cs 0, 4, .inl ftr2_14))]) [0, 4, 1, 2, 3, 5, 6, 7, 8, 9, 10, 11, 12, 13] (by decide) rfl
    exact W.iret (v := r_14) hx hb hr (fun t ht hW => ⟨⟨r_14, (), rfl, trivial, ⟨fsm2_14, ftr2_14, fne2_14, flr2_14, by rw [ht]; exact hP9, hD9⟩⟩, hS.F ht⟩) hS.2.2 dX11_leastSame_22

theorem dX11_leastTable_0 : decode cX11_leastTable 0 = .ok (.aload_n 0, 1) := by decide +kernel
theorem dX11_leastTable_1 : decode cX11_leastTable 1 = .ok (.getfield 26, 3) := by decide +kernel
theorem dX11_leastTable_4 : decode cX11_leastTable 4 = .ok (.invokevirtual 204, 3) := by decide +kernel
theorem dX11_leastTable_7 : decode cX11_leastTable 7 = .ok (.ifCond .ne 6, 3) := by decide +kernel
theorem dX11_leastTable_10 : decode cX11_leastTable 10 = .ok (.bipush (-103), 2) := by decide +kernel
theorem dX11_leastTable_12 : decode cX11_leastTable 12 = .ok (.ireturn, 1) := by decide +kernel
theorem dX11_leastTable_13 : decode cX11_leastTable 13 = .ok (.iload_n 1, 1) := by decide +kernel
theorem dX11_leastTable_14 : decode cX11_leastTable 14 = .ok (.iconst 0, 1) := by decide +kernel
theorem dX11_leastTable_15 : decode cX11_leastTable 15 = .ok (.iconst 4, 1) := by decide +kernel
theorem dX11_leastTable_16 : decode cX11_leastTable 16 = .ok (.invokestatic 105, 3) := by decide +kernel
theorem dX11_leastTable_19 : decode cX11_leastTable 19 = .ok (.ifCond .ne 6, 3) := by decide +kernel
theorem dX11_leastTable_22 : decode cX11_leastTable 22 = .ok (.bipush (-102), 2) := by decide +kernel
theorem dX11_leastTable_24 : decode cX11_leastTable 24 = .ok (.ireturn, 1) := by decide +kernel
theorem dX11_leastTable_25 : decode cX11_leastTable 25 = .ok (.aload_n 0, 1) := by decide +kernel
theorem dX11_leastTable_26 : decode cX11_leastTable 26 = .ok (.getfield 244, 3) := by decide +kernel
theorem dX11_leastTable_29 : decode cX11_leastTable 29 = .ok (.bipush 10, 2) := by decide +kernel
theorem dX11_leastTable_31 : decode cX11_leastTable 31 = .ok (.if_icmp .lt 6, 3) := by decide +kernel
theorem dX11_leastTable_34 : decode cX11_leastTable 34 = .ok (.bipush (-103), 2) := by decide +kernel
theorem dX11_leastTable_36 : decode cX11_leastTable 36 = .ok (.ireturn, 1) := by decide +kernel
theorem dX11_leastTable_37 : decode cX11_leastTable 37 = .ok (.aload_n 0, 1) := by decide +kernel
theorem dX11_leastTable_38 : decode cX11_leastTable 38 = .ok (.dup, 1) := by decide +kernel
theorem dX11_leastTable_39 : decode cX11_leastTable 39 = .ok (.getfield 244, 3) := by decide +kernel
theorem dX11_leastTable_42 : decode cX11_leastTable 42 = .ok (.iconst 1, 1) := by decide +kernel
theorem dX11_leastTable_43 : decode cX11_leastTable 43 = .ok (.iadd, 1) := by decide +kernel
theorem dX11_leastTable_44 : decode cX11_leastTable 44 = .ok (.putfield 244, 3) := by decide +kernel
theorem dX11_leastTable_47 : decode cX11_leastTable 47 = .ok (.aload_n 0, 1) := by decide +kernel
theorem dX11_leastTable_48 : decode cX11_leastTable 48 = .ok (.getfield 48, 3) := by decide +kernel
theorem dX11_leastTable_51 : decode cX11_leastTable 51 = .ok (.invokevirtual 247, 3) := by decide +kernel
theorem dX11_leastTable_54 : decode cX11_leastTable 54 = .ok (.iload_n 1, 1) := by decide +kernel
theorem dX11_leastTable_55 : decode cX11_leastTable 55 = .ok (.iconst 4, 1) := by decide +kernel
theorem dX11_leastTable_56 : decode cX11_leastTable 56 = .ok (.if_icmp .ne 13, 3) := by decide +kernel
theorem dX11_leastTable_59 : decode cX11_leastTable 59 = .ok (.aload_n 0, 1) := by decide +kernel
theorem dX11_leastTable_60 : decode cX11_leastTable 60 = .ok (.getfield 48, 3) := by decide +kernel
theorem dX11_leastTable_63 : decode cX11_leastTable 63 = .ok (.getfield 250, 3) := by decide +kernel
theorem dX11_leastTable_66 : decode cX11_leastTable 66 = .ok (.goto 12, 3) := by decide +kernel
theorem dX11_leastTable_69 : decode cX11_leastTable 69 = .ok (.aload_n 0, 1) := by decide +kernel
theorem dX11_leastTable_70 : decode cX11_leastTable 70 = .ok (.getfield 48, 3) := by decide +kernel
theorem dX11_leastTable_73 : decode cX11_leastTable 73 = .ok (.getfield 253, 3) := by decide +kernel
theorem dX11_leastTable_76 : decode cX11_leastTable 76 = .ok (.iload_n 1, 1) := by decide +kernel
theorem dX11_leastTable_77 : decode cX11_leastTable 77 = .ok (.iaload, 1) := by decide +kernel
theorem dX11_leastTable_78 : decode cX11_leastTable 78 = .ok (.ireturn, 1) := by decide +kernel
theorem kw_600 : (.code yX0_seekTable cX0_seekTable 2 none : Cond) ∈ gw_tbl := gw_in (by decide +kernel) (by decide +kernel)
theorem kw_601 : (.methodLink RX11 247 yX0_seekTable : Cond) ∈ gw_tbl := gw_in (by decide +kernel) (by decide +kernel)
theorem kw_602 : (.instanceMethod yX0_seekTable : Cond) ∈ gw_tbl := gw_in (by decide +kernel) (by decide +kernel)
theorem kw_603 : (.selects RX0 yX0_seekTable yX0_seekTable : Cond) ∈ gw_tbl := gw_in (by decide +kernel) (by decide +kernel)
theorem kw_604 : (.fieldLink RX11 253 "NobodyChecks$Cheapest" "leastNumbers" "[I" : Cond) ∈ gw_tbl := gw_in (by decide +kernel) (by decide +kernel)
theorem kw_605 : (.fieldLink RX11 250 "NobodyChecks$Cheapest" "tablesResting" "I" : Cond) ∈ gw_tbl := gw_in (by decide +kernel) (by decide +kernel)

set_option maxHeartbeats 4000000 in
set_option maxRecDepth 100000 in
theorem x_leastTable (l : Launch) (D : va_G) (cs : Nat → ClassId) (x0 : Nat) (py : Nat) (pn : Nat) (hpn : pn ≤ 8) (td : Int32) (pg : Nat) (rd : Nat) (pl : Nat) (ro : Nat) (ch : Nat) (sm : Nat) (tb : Nat) (ck : Nat) (cm : Nat) (le : Nat) (ne : Nat) (pr : Nat) (tr : Nat) (ln : Nat) (trs : Int32) (lpr : Int64) (tbn : Nat) (ftb : Nat → Int32) (aq : Nat) (aw : Nat) (ac : Nat) (ao : Nat) (am : Nat) (C : Nat) (hC5 : C ≤ 5) (P : Nat) (hP4 : P ≤ 4) (tot : Int64) (fao : Nat → Int32) (fam : Nat → Int64) (lr : Nat → Nat) (flr : Nat → Nat → Int64) (fne : Nat → Int64) (ftr : Nat → Int32) (fln : Nat → Int32) (fpr : Nat → Int64) (p1 : Int32) (sz : Nat) : Met l yX11_leastTable (Cond.code yX11_leastTable cX11_leastTable 2 (some .int) :: gw_tbl) ({ frames := 5, cells := 0, slots := 0, locals := 136 }) (pc_M D cs [(x0, .inr (11, [.ref pg, .ref rd, .ref aq, .ref py, .ref pl, .ref ch, .ref ro, .int (nI pn), .int td])), (ch, .inr (0, [.ref aq, .ref sm, .ref tb, .ref ck, .ref cm, .ref le, .ref ne, .ref pr, .ref tr, .ref ln, .int trs, .long lpr])), (tb, .inr (10, [.ref tbn, .null, .int 0])), (tbn, .inl (cs 0, 4, .inl ftb)), (aq, .inr (5, [.ref aw, .ref ac, .ref ao, .ref am, .int (nI C), .int (nI P), .long tot])), (ao, .inl (cs 0, 4, .inl fao)), (am, .inl (cs 1, 16, .inr (.inl fam))), (le, .inl (cs 5, 4, .inr (.inr (.inr (.inr (rowsF 4 lr)))))), ((lr 0), .inl (cs 1, 12, .inr (.inl (flr 0)))), ((lr 1), .inl (cs 1, 12, .inr (.inl (flr 1)))), ((lr 2), .inl (cs 1, 12, .inr (.inl (flr 2)))), ((lr 3), .inl (cs 1, 12, .inr (.inl (flr 3)))), (ne, .inl (cs 1, 12, .inr (.inl fne))), (tr, .inl (cs 0, 4, .inl ftr)), (pr, .inl (cs 1, 4, .inr (.inl fpr))), (ln, .inl (cs 0, 4, .inl fln))] sz [.ref x0, .int p1]) (va_Qi (fun (r : Int32) (u : Unit) => True) (fun u t => ∃ (td2 : Int32), ∃ (trs2 : Int32), ∃ (lpr2 : Int64), ∃ (ftb2 : Nat → Int32), ∃ (ftr2 : Nat → Int32), ∃ (fln2 : Nat → Int32), ∃ (fne2 : Nat → Int64), ∃ (fpr2 : Nat → Int64), ∃ (flr2 : Nat → Nat → Int64), va_P D vwCl [(x0, .inr (11, [.ref pg, .ref rd, .ref aq, .ref py, .ref pl, .ref ch, .ref ro, .int (nI pn), .int td2])), (ch, .inr (0, [.ref aq, .ref sm, .ref tb, .ref ck, .ref cm, .ref le, .ref ne, .ref pr, .ref tr, .ref ln, .int trs2, .long lpr2])), (tb, .inr (10, [.ref tbn, .null, .int 0])), (tbn, .inl (cs 0, 4, .inl ftb2)), (aq, .inr (5, [.ref aw, .ref ac, .ref ao, .ref am, .int (nI C), .int (nI P), .long tot])), (ao, .inl (cs 0, 4, .inl fao)), (am, .inl (cs 1, 16, .inr (.inl fam))), (le, .inl (cs 5, 4, .inr (.inr (.inr (.inr (rowsF 4 lr)))))), ((lr 0), .inl (cs 1, 12, .inr (.inl (flr2 0)))), ((lr 1), .inl (cs 1, 12, .inr (.inl (flr2 1)))), ((lr 2), .inl (cs 1, 12, .inr (.inl (flr2 2)))), ((lr 3), .inl (cs 1, 12, .inr (.inl (flr2 3)))), (ne, .inl (cs 1, 12, .inr (.inl fne2))), (tr, .inl (cs 0, 4, .inl ftr2)), (pr, .inl (cs 1, 4, .inr (.inl fpr2))), (ln, .inl (cs 0, 4, .inl fln2))] t.heap ∧ va_D (va_A [(x0, .inr (11, [.ref pg, .ref rd, .ref aq, .ref py, .ref pl, .ref ch, .ref ro, .int (nI pn), .int td])), (ch, .inr (0, [.ref aq, .ref sm, .ref tb, .ref ck, .ref cm, .ref le, .ref ne, .ref pr, .ref tr, .ref ln, .int trs, .long lpr])), (tb, .inr (10, [.ref tbn, .null, .int 0])), (tbn, .inl (cs 0, 4, .inl ftb)), (aq, .inr (5, [.ref aw, .ref ac, .ref ao, .ref am, .int (nI C), .int (nI P), .long tot])), (ao, .inl (cs 0, 4, .inl fao)), (am, .inl (cs 1, 16, .inr (.inl fam))), (le, .inl (cs 5, 4, .inr (.inr (.inr (.inr (rowsF 4 lr)))))), ((lr 0), .inl (cs 1, 12, .inr (.inl (flr 0)))), ((lr 1), .inl (cs 1, 12, .inr (.inl (flr 1)))), ((lr 2), .inl (cs 1, 12, .inr (.inl (flr 2)))), ((lr 3), .inl (cs 1, 12, .inr (.inl (flr 3)))), (ne, .inl (cs 1, 12, .inr (.inl fne))), (tr, .inl (cs 0, 4, .inl ftr)), (pr, .inl (cs 1, 4, .inr (.inl fpr))), (ln, .inl (cs 0, 4, .inl fln))] sz) [(x0, .inr (11, [.ref pg, .ref rd, .ref aq, .ref py, .ref pl, .ref ch, .ref ro, .int (nI pn), .int td2])), (ch, .inr (0, [.ref aq, .ref sm, .ref tb, .ref ck, .ref cm, .ref le, .ref ne, .ref pr, .ref tr, .ref ln, .int trs2, .long lpr2])), (tb, .inr (10, [.ref tbn, .null, .int 0])), (tbn, .inl (cs 0, 4, .inl ftb2)), (aq, .inr (5, [.ref aw, .ref ac, .ref ao, .ref am, .int (nI C), .int (nI P), .long tot])), (ao, .inl (cs 0, 4, .inl fao)), (am, .inl (cs 1, 16, .inr (.inl fam))), (le, .inl (cs 5, 4, .inr (.inr (.inr (.inr (rowsF 4 lr)))))), ((lr 0), .inl (cs 1, 12, .inr (.inl (flr2 0)))), ((lr 1), .inl (cs 1, 12, .inr (.inl (flr2 1)))), ((lr 2), .inl (cs 1, 12, .inr (.inl (flr2 2)))), ((lr 3), .inl (cs 1, 12, .inr (.inl (flr2 3)))), (ne, .inl (cs 1, 12, .inr (.inl fne2))), (tr, .inl (cs 0, 4, .inl ftr2)), (pr, .inl (cs 1, 4, .inr (.inl fpr2))), (ln, .inl (cs 0, 4, .inl fln2))]) (va_A [(x0, .inr (11, [.ref pg, .ref rd, .ref aq, .ref py, .ref pl, .ref ch, .ref ro, .int (nI pn), .int td])), (ch, .inr (0, [.ref aq, .ref sm, .ref tb, .ref ck, .ref cm, .ref le, .ref ne, .ref pr, .ref tr, .ref ln, .int trs, .long lpr])), (tb, .inr (10, [.ref tbn, .null, .int 0])), (tbn, .inl (cs 0, 4, .inl ftb)), (aq, .inr (5, [.ref aw, .ref ac, .ref ao, .ref am, .int (nI C), .int (nI P), .long tot])), (ao, .inl (cs 0, 4, .inl fao)), (am, .inl (cs 1, 16, .inr (.inl fam))), (le, .inl (cs 5, 4, .inr (.inr (.inr (.inr (rowsF 4 lr)))))), ((lr 0), .inl (cs 1, 12, .inr (.inl (flr 0)))), ((lr 1), .inl (cs 1, 12, .inr (.inl (flr 1)))), ((lr 2), .inl (cs 1, 12, .inr (.inl (flr 2)))), ((lr 3), .inl (cs 1, 12, .inr (.inl (flr 3)))), (ne, .inl (cs 1, 12, .inr (.inl fne))), (tr, .inl (cs 0, 4, .inl ftr)), (pr, .inl (cs 1, 4, .inr (.inl fpr))), (ln, .inl (cs 0, 4, .inl fln))] sz)) 0 0 (va_A [(x0, .inr (11, [.ref pg, .ref rd, .ref aq, .ref py, .ref pl, .ref ch, .ref ro, .int (nI pn), .int td])), (ch, .inr (0, [.ref aq, .ref sm, .ref tb, .ref ck, .ref cm, .ref le, .ref ne, .ref pr, .ref tr, .ref ln, .int trs, .long lpr])), (tb, .inr (10, [.ref tbn, .null, .int 0])), (tbn, .inl (cs 0, 4, .inl ftb)), (aq, .inr (5, [.ref aw, .ref ac, .ref ao, .ref am, .int (nI C), .int (nI P), .long tot])), (ao, .inl (cs 0, 4, .inl fao)), (am, .inl (cs 1, 16, .inr (.inl fam))), (le, .inl (cs 5, 4, .inr (.inr (.inr (.inr (rowsF 4 lr)))))), ((lr 0), .inl (cs 1, 12, .inr (.inl (flr 0)))), ((lr 1), .inl (cs 1, 12, .inr (.inl (flr 1)))), ((lr 2), .inl (cs 1, 12, .inr (.inl (flr 2)))), ((lr 3), .inl (cs 1, 12, .inr (.inl (flr 3)))), (ne, .inl (cs 1, 12, .inr (.inl fne))), (tr, .inl (cs 0, 4, .inl ftr)), (pr, .inl (cs 1, 4, .inr (.inl fpr))), (ln, .inl (cs 0, 4, .inl fln))] sz) := by
  refine Met.ofW (cc := cX11_leastTable) (maxL := 2) (ret := (some .int)) (by decide) rfl ?_
  intro p e s m args below meth c s₁ B hml hv
  obtain ⟨hargs, hsz, hP, hK, hD0⟩ := hv
  have hx := B.exec
  have hb := B.bytes
  have hr := B.returns
  have hts := atoms_spec (ws := Cond.code yX11_leastTable cX11_leastTable 2 (some .int) :: gw_tbl) B.pre
  have hg := fun (w : Cond) (h : w ∈ gw_tbl) => hts w (List.mem_cons_of_mem _ h)
  have hown : s.vm.findClass RX11 = some m.cls := findClass_of_methodNamed B.named
  have hlocks := B.notSynchronized
  subst hsz
  have hD := hD0.self (sz := s.heap.size)
  generalize hAe : va_A [(x0, .inr (11, [.ref pg, .ref rd, .ref aq, .ref py, .ref pl, .ref ch, .ref ro, .int (nI pn), .int td])), (ch, .inr (0, [.ref aq, .ref sm, .ref tb, .ref ck, .ref cm, .ref le, .ref ne, .ref pr, .ref tr, .ref ln, .int trs, .long lpr])), (tb, .inr (10, [.ref tbn, .null, .int 0])), (tbn, .inl (cs 0, 4, .inl ftb)), (aq, .inr (5, [.ref aw, .ref ac, .ref ao, .ref am, .int (nI C), .int (nI P), .long tot])), (ao, .inl (cs 0, 4, .inl fao)), (am, .inl (cs 1, 16, .inr (.inl fam))), (le, .inl (cs 5, 4, .inr (.inr (.inr (.inr (rowsF 4 lr)))))), ((lr 0), .inl (cs 1, 12, .inr (.inl (flr 0)))), ((lr 1), .inl (cs 1, 12, .inr (.inl (flr 1)))), ((lr 2), .inl (cs 1, 12, .inr (.inl (flr 2)))), ((lr 3), .inl (cs 1, 12, .inr (.inl (flr 3)))), (ne, .inl (cs 1, 12, .inr (.inl fne))), (tr, .inl (cs 0, 4, .inl ftr)), (pr, .inl (cs 1, 4, .inr (.inl fpr))), (ln, .inl (cs 0, 4, .inl fln))] s.heap.size = A at hD ⊢
  have hA : ∀ q : Nat, s.heap.size ≤ q → A q := fun q h => by rw [← hAe]; exact Or.inr h
  have hS : va_S A s.heap s.heap [] := va_S.rf
  have hP : va_P D vwCl [(x0, .inr (11, [.ref pg, .ref rd, .ref aq, .ref py, .ref pl, .ref ch, .ref ro, .int (nI pn), .int td])), (ch, .inr (0, [.ref aq, .ref sm, .ref tb, .ref ck, .ref cm, .ref le, .ref ne, .ref pr, .ref tr, .ref ln, .int trs, .long lpr])), (tb, .inr (10, [.ref tbn, .null, .int 0])), (tbn, .inl (cs 0, 4, .inl ftb)), (aq, .inr (5, [.ref aw, .ref ac, .ref ao, .ref am, .int (nI C), .int (nI P), .long tot])), (ao, .inl (cs 0, 4, .inl fao)), (am, .inl (cs 1, 16, .inr (.inl fam))), (le, .inl (cs 5, 4, .inr (.inr (.inr (.inr (rowsF 4 lr)))))), ((lr 0), .inl (cs 1, 12, .inr (.inl (flr 0)))), ((lr 1), .inl (cs 1, 12, .inr (.inl (flr 1)))), ((lr 2), .inl (cs 1, 12, .inr (.inl (flr 2)))), ((lr 3), .inl (cs 1, 12, .inr (.inl (flr 3)))), (ne, .inl (cs 1, 12, .inr (.inl fne))), (tr, .inl (cs 0, 4, .inl ftr)), (pr, .inl (cs 1, 4, .inr (.inl fpr))), (ln, .inl (cs 0, 4, .inl fln))] s.heap := hP
  have hl := lv_entry ([.ref x0, .int p1]) (n := 2) (Nat.le_of_ble_eq_true rfl)
  rw [show entryFrame m args 2 = F0 m 0 (lg_sl ([.ref x0, .int p1]) ++ List.replicate (2 - (lg_sl ([.ref x0, .int p1])).length) Slot.unset).toArray [] from by rw [hargs]; exact lg_entry_eq ..]
  generalize (lg_sl ([.ref x0, .int p1]) ++ List.replicate (2 - (lg_sl ([.ref x0, .int p1])).length) Slot.unset).toArray = ls at hl ⊢
  have hl : lv_has ls 2 [(0, .ref x0), (1, .int p1)] := hl
  refine W_genQ (fun Q hQ => ?_)
  have hlm := lim_le hP4
  have hlq := lim_pos P
  have hsg := sgn_le hP4
  refine lv_aload_n hx hb dX11_leastTable_0 rfl (lv_at hl 0 rfl) ?_
  refine va_get (D := D) (ci := 11) (v := .ref aq) (C := RX11) (T := TX11) (N := 9) hx hb hg gwX11 hown hK hP 0 rfl rfl 2 (by decide) (hg _ kw_523) (fun _ h9 => h9) rfl dX11_leastTable_1 ?_
  have hPc := hP.sub (ws' := [(aq, .inr (5, [.ref aw, .ref ac, .ref ao, .ref am, .int (nI C), .int (nI P), .long tot]))]) [4] rfl
  refine vp_callSi (W.runV (As := []) (rest := []) ⟨hx, hb, hml, hown, hg⟩ (q_stands l D cs aq aw ac ao am C (by omega) P (by omega) tot) (cwV 0 hg (gw_V kw_553 kw_554 kw_555 kw_19 kw_552) rfl rfl rfl (by decide +kernel) ⟨(Nat.le_of_ble_eq_true rfl), (Nat.le_of_ble_eq_true rfl)⟩) (pr_SV (q := (RX5, TX5, 7)) 5 0 hK hPc rfl rfl) rfl rfl hl.1 rfl (lv_room (Nat.le_of_ble_eq_true rfl)) dX11_leastTable_4 ⟨(Nat.le_of_ble_eq_true rfl), (Nat.le_of_ble_eq_true rfl)⟩) (fun r_4 h_4 => ?_)
  rcases h_4 with rfl | rfl
  · refine lv_if_ne (tgt := 13) hx hb dX11_leastTable_7 (by decide) (fun c_7 => absurd c_7 (by decide)) (fun c_7 => ?_)
    refine lv_bipush (v := (-103)) hx hb dX11_leastTable_10 (by decide) ?_
    refine W_sQ hQ ?_
    refine W.widen (k := 0) (n := 0) (Nat.le_of_ble_eq_true rfl) (Nat.le_of_ble_eq_true rfl) ?_
    have hP9 := hP.sub (ws' := [(x0, .inr (11, [.ref pg, .ref rd, .ref aq, .ref py, .ref pl, .ref ch, .ref ro, .int (nI pn), .int td])), (ch, .inr (0, [.ref aq, .ref sm, .ref tb, .ref ck, .ref cm, .ref le, .ref ne, .ref pr, .ref tr, .ref ln, .int trs, .long lpr])), (tb, .inr (10, [.ref tbn, .null, .int 0])), (tbn, .inl (cs 0, 4, .inl ftb)), (aq, .inr (5, [.ref aw, .ref ac, .ref ao, .ref am, .int (nI C), .int (nI P), .long tot])), (ao, .inl (cs 0, 4, .inl fao)), (am, .inl (cs 1, 16, .inr (.inl fam))), (le, .inl (cs 5, 4, .inr (.inr (.inr (.inr (rowsF 4 lr)))))), ((lr 0), .inl (cs 1, 12, .inr (.inl (flr 0)))), ((lr 1), .inl (cs 1, 12, .inr (.inl (flr 1)))), ((lr 2), .inl (cs 1, 12, .inr (.inl (flr 2)))), ((lr 3), .inl (cs 1, 12, .inr (.inl (flr 3)))), (ne, .inl (cs 1, 12, .inr (.inl fne))), (tr, .inl (cs 0, 4, .inl ftr)), (pr, .inl (cs 1, 4, .inr (.inl fpr))), (ln, .inl (cs 0, 4, .inl fln))]) [0, 1, 2, 3, 4, 5, 6, 7, 8, 9, 10, 11, 12, 13, 14, 15] rfl
    have hD9 := hD.sub (ws' := [(x0, .inr (11, [.ref pg, .ref rd, .ref aq, .ref py, .ref pl, .ref ch, .ref ro, .int (nI pn), .int td])), (ch, .inr (0, [.ref aq, .ref sm, .ref tb, .ref ck, .ref cm, .ref le, .ref ne, .ref pr, .ref tr, .ref ln, .int trs, .long lpr])), (tb, .inr (10, [.ref tbn, .null, .int 0])), (tbn, .inl (cs 0, 4, .inl ftb)), (aq, .inr (5, [.ref aw, .ref ac, .ref ao, .ref am, .int (nI C), .int (nI P), .long tot])), (ao, .inl (cs 0, 4, .inl fao)), (am, .inl (cs 1, 16, .inr (.inl fam))), (le, .inl (cs 5, 4, .inr (.inr (.inr (.inr (rowsF 4 lr)))))), ((lr 0), .inl (cs 1, 12, .inr (.inl (flr 0)))), ((lr 1), .inl (cs 1, 12, .inr (.inl (flr 1)))), ((lr 2), .inl (cs 1, 12, .inr (.inl (flr 2)))), ((lr 3), .inl (cs 1, 12, .inr (.inl (flr 3)))), (ne, .inl (cs 1, 12, .inr (.inl fne))), (tr, .inl (cs 0, 4, .inl ftr)), (pr, .inl (cs 1, 4, .inr (.inl fpr))), (ln, .inl (cs 0, 4, .inl fln))]) [0, 1, 2, 3, 4, 5, 6, 7, 8, 9, 10, 11, 12, 13, 14, 15] (by decide) rfl
    exact W.iret (v := (-103)) hx hb hr (fun t ht hW => ⟨⟨(-103), (), rfl, trivial, ⟨td, trs, lpr, ftb, ftr, fln, fne, fpr, flr, by rw [ht]; exact hP9, hD9⟩⟩, hS.F ht⟩) hS.2.2 dX11_leastTable_12
  · refine lv_if_ne (tgt := 13) hx hb dX11_leastTable_7 (by decide) (fun c_7 => ?_) (fun c_7 => absurd c_7 (by decide))
    refine lv_iload_n hx hb dX11_leastTable_13 rfl (lv_at hl 1 rfl) ?_
    refine lv_iconst (v := 0) hx hb dX11_leastTable_14 (by decide) ?_
    refine lv_iconst (v := 4) hx hb dX11_leastTable_15 (by decide) ?_
    refine vp_callSi (W.runS (As := [.int p1, .int 0, .int 4]) (rest := []) ⟨hx, hb, hml, hown, hg⟩ (c_isWithin l p1 0 4) (va_cwS 3 hg (gw_S kw_535 kw_536 kw_12 kw_534) rfl rfl rfl (by decide +kernel) ⟨(Nat.le_of_ble_eq_true rfl), (Nat.le_of_ble_eq_true rfl)⟩) pr_0 rfl rfl hl.1 rfl (lv_room (Nat.le_of_ble_eq_true rfl)) dX11_leastTable_16 ⟨(Nat.le_of_ble_eq_true rfl), (Nat.le_of_ble_eq_true rfl)⟩) (fun r_16 h_16 => ?_)
    replace h_16 := iw_s (n := 4) (by decide) h_16
    rcases h_16 with rfl | ⟨rfl, k_16, hk_16, rfl⟩
    · refine lv_if_ne (tgt := 25) hx hb dX11_leastTable_19 (by decide) (fun c_19 => absurd c_19 (by decide)) (fun c_19 => ?_)
      refine lv_bipush (v := (-102)) hx hb dX11_leastTable_22 (by decide) ?_
      refine W_sQ hQ ?_
      refine W.widen (k := 0) (n := 0) (Nat.le_of_ble_eq_true rfl) (Nat.le_of_ble_eq_true rfl) ?_
      have hP9 := hP.sub (ws' := [(x0, .inr (11, [.ref pg, .ref rd, .ref aq, .ref py, .ref pl, .ref ch, .ref ro, .int (nI pn), .int td])), (ch, .inr (0, [.ref aq, .ref sm, .ref tb, .ref ck, .ref cm, .ref le, .ref ne, .ref pr, .ref tr, .ref ln, .int trs, .long lpr])), (tb, .inr (10, [.ref tbn, .null, .int 0])), (tbn, .inl (cs 0, 4, .inl ftb)), (aq, .inr (5, [.ref aw, .ref ac, .ref ao, .ref am, .int (nI C), .int (nI P), .long tot])), (ao, .inl (cs 0, 4, .inl fao)), (am, .inl (cs 1, 16, .inr (.inl fam))), (le, .inl (cs 5, 4, .inr (.inr (.inr (.inr (rowsF 4 lr)))))), ((lr 0), .inl (cs 1, 12, .inr (.inl (flr 0)))), ((lr 1), .inl (cs 1, 12, .inr (.inl (flr 1)))), ((lr 2), .inl (cs 1, 12, .inr (.inl (flr 2)))), ((lr 3), .inl (cs 1, 12, .inr (.inl (flr 3)))), (ne, .inl (cs 1, 12, .inr (.inl fne))), (tr, .inl (cs 0, 4, .inl ftr)), (pr, .inl (cs 1, 4, .inr (.inl fpr))), (ln, .inl (cs 0, 4, .inl fln))]) [0, 1, 2, 3, 4, 5, 6, 7, 8, 9, 10, 11, 12, 13, 14, 15] rfl
      have hD9 := hD.sub (ws' := [(x0, .inr (11, [.ref pg, .ref rd, .ref aq, .ref py, .ref pl, .ref ch, .ref ro, .int (nI pn), .int td])), (ch, .inr (0, [.ref aq, .ref sm, .ref tb, .ref ck, .ref cm, .ref le, .ref ne, .ref pr, .ref tr, .ref ln, .int trs, .long lpr])), (tb, .inr (10, [.ref tbn, .null, .int 0])), (tbn, .inl (cs 0, 4, .inl ftb)), (aq, .inr (5, [.ref aw, .ref ac, .ref ao, .ref am, .int (nI C), .int (nI P), .long tot])), (ao, .inl (cs 0, 4, .inl fao)), (am, .inl (cs 1, 16, .inr (.inl fam))), (le, .inl (cs 5, 4, .inr (.inr (.inr (.inr (rowsF 4 lr)))))), ((lr 0), .inl (cs 1, 12, .inr (.inl (flr 0)))), ((lr 1), .inl (cs 1, 12, .inr (.inl (flr 1)))), ((lr 2), .inl (cs 1, 12, .inr (.inl (flr 2)))), ((lr 3), .inl (cs 1, 12, .inr (.inl (flr 3)))), (ne, .inl (cs 1, 12, .inr (.inl fne))), (tr, .inl (cs 0, 4, .inl ftr)), (pr, .inl (cs 1, 4, .inr (.inl fpr))), (ln, .inl (cs 0, 4, .inl fln))]) [0, 1, 2, 3, 4, 5, 6, 7, 8, 9, 10, 11, 12, 13, 14, 15] (by decide) rfl
      exact W.iret (v := (-102)) hx hb hr (fun t ht hW => ⟨⟨(-102), (), rfl, trivial, ⟨td, trs, lpr, ftb, ftr, fln, fne, fpr, flr, by rw [ht]; exact hP9, hD9⟩⟩, hS.F ht⟩) hS.2.2 dX11_leastTable_24
    · refine lv_if_ne (tgt := 25) hx hb dX11_leastTable_19 (by decide) (fun c_19 => ?_) (fun c_19 => absurd c_19 (by decide))
      refine lv_aload_n hx hb dX11_leastTable_25 rfl (lv_at hl 0 rfl) ?_
      refine va_get (D := D) (ci := 11) (v := .int td) (C := RX11) (T := TX11) (N := 9) hx hb hg gwX11 hown hK hP 0 rfl rfl 8 (by decide) (hg _ kw_594) (fun _ h9 => h9) rfl dX11_leastTable_26 ?_
      refine lv_bipush (v := 10) hx hb dX11_leastTable_29 (by decide) ?_
      refine lv_icmp_lt (tgt := 37) hx hb dX11_leastTable_31 (by decide) (fun c_31 => ?_) (fun c_31 => ?_)
      · refine lv_aload_n hx hb dX11_leastTable_37 rfl (lv_at hl 0 rfl) ?_
        refine lv_dup hx hb dX11_leastTable_38 rfl ?_
        refine va_get (D := D) (ci := 11) (v := .int td) (C := RX11) (T := TX11) (N := 9) hx hb hg gwX11 hown hK hP 0 rfl rfl 8 (by decide) (hg _ kw_594) (fun _ h9 => h9) rfl dX11_leastTable_39 ?_
        refine lv_iconst (v := 1) hx hb dX11_leastTable_42 (by decide) ?_
        refine lv_iadd hx hb dX11_leastTable_43 ?_
        refine lv_topi (fun z_43 e_43 => ?_)
        refine va_put (D := D) (ci := 11) (v := .int z_43) (ty := .int) (C := RX11) (T := TX11) (N := 9) hx hb hg gwX11 tyX11 tyX11_ok nmX11 hown hK hP hD hS 0 rfl rfl 8 (by decide) (hg _ kw_594) (fun _ h9 => h9) rfl (by decide +kernel) rfl rfl (Nat.le_of_ble_eq_true rfl) dX11_leastTable_44 (fun H locs hP hD hS => ?_)
        have hP : va_P D vwCl [(x0, .inr (11, [.ref pg, .ref rd, .ref aq, .ref py, .ref pl, .ref ch, .ref ro, .int (nI pn), .int z_43])), (ch, .inr (0, [.ref aq, .ref sm, .ref tb, .ref ck, .ref cm, .ref le, .ref ne, .ref pr, .ref tr, .ref ln, .int trs, .long lpr])), (tb, .inr (10, [.ref tbn, .null, .int 0])), (tbn, .inl (cs 0, 4, .inl ftb)), (aq, .inr (5, [.ref aw, .ref ac, .ref ao, .ref am, .int (nI C), .int (nI P), .long tot])), (ao, .inl (cs 0, 4, .inl fao)), (am, .inl (cs 1, 16, .inr (.inl fam))), (le, .inl (cs 5, 4, .inr (.inr (.inr (.inr (rowsF 4 lr)))))), ((lr 0), .inl (cs 1, 12, .inr (.inl (flr 0)))), ((lr 1), .inl (cs 1, 12, .inr (.inl (flr 1)))), ((lr 2), .inl (cs 1, 12, .inr (.inl (flr 2)))), ((lr 3), .inl (cs 1, 12, .inr (.inl (flr 3)))), (ne, .inl (cs 1, 12, .inr (.inl fne))), (tr, .inl (cs 0, 4, .inl ftr)), (pr, .inl (cs 1, 4, .inr (.inl fpr))), (ln, .inl (cs 0, 4, .inl fln))] H := hP
        have hD : va_D A [(x0, .inr (11, [.ref pg, .ref rd, .ref aq, .ref py, .ref pl, .ref ch, .ref ro, .int (nI pn), .int z_43])), (ch, .inr (0, [.ref aq, .ref sm, .ref tb, .ref ck, .ref cm, .ref le, .ref ne, .ref pr, .ref tr, .ref ln, .int trs, .long lpr])), (tb, .inr (10, [.ref tbn, .null, .int 0])), (tbn, .inl (cs 0, 4, .inl ftb)), (aq, .inr (5, [.ref aw, .ref ac, .ref ao, .ref am, .int (nI C), .int (nI P), .long tot])), (ao, .inl (cs 0, 4, .inl fao)), (am, .inl (cs 1, 16, .inr (.inl fam))), (le, .inl (cs 5, 4, .inr (.inr (.inr (.inr (rowsF 4 lr)))))), ((lr 0), .inl (cs 1, 12, .inr (.inl (flr 0)))), ((lr 1), .inl (cs 1, 12, .inr (.inl (flr 1)))), ((lr 2), .inl (cs 1, 12, .inr (.inl (flr 2)))), ((lr 3), .inl (cs 1, 12, .inr (.inl (flr 3)))), (ne, .inl (cs 1, 12, .inr (.inl fne))), (tr, .inl (cs 0, 4, .inl ftr)), (pr, .inl (cs 1, 4, .inr (.inl fpr))), (ln, .inl (cs 0, 4, .inl fln))] := hD
        refine lv_aload_n hx hb dX11_leastTable_47 rfl (lv_at hl 0 rfl) ?_
        refine va_get (D := D) (ci := 11) (v := .ref ch) (C := RX11) (T := TX11) (N := 9) hx hb hg gwX11 hown hK hP 0 rfl rfl 5 (by decide) (hg _ kw_595) (fun _ h9 => h9) rfl dX11_leastTable_48 ?_
        have hPc := hP.sub (ws' := [(ch, .inr (0, [.ref aq, .ref sm, .ref tb, .ref ck, .ref cm, .ref le, .ref ne, .ref pr, .ref tr, .ref ln, .int trs, .long lpr])), (tb, .inr (10, [.ref tbn, .null, .int 0])), (tbn, .inl (cs 0, 4, .inl ftb)), (aq, .inr (5, [.ref aw, .ref ac, .ref ao, .ref am, .int (nI C), .int (nI P), .long tot])), (ao, .inl (cs 0, 4, .inl fao)), (am, .inl (cs 1, 16, .inr (.inl fam))), (le, .inl (cs 5, 4, .inr (.inr (.inr (.inr (rowsF 4 lr)))))), ((lr 0), .inl (cs 1, 12, .inr (.inl (flr 0)))), ((lr 1), .inl (cs 1, 12, .inr (.inl (flr 1)))), ((lr 2), .inl (cs 1, 12, .inr (.inl (flr 2)))), ((lr 3), .inl (cs 1, 12, .inr (.inl (flr 3)))), (ne, .inl (cs 1, 12, .inr (.inl fne))), (tr, .inl (cs 0, 4, .inl ftr)), (pr, .inl (cs 1, 4, .inr (.inl fpr))), (ln, .inl (cs 0, 4, .inl fln))]) [1, 2, 3, 4, 5, 6, 7, 8, 9, 10, 11, 12, 13, 14, 15] rfl
        have hDc := hD.sub (ws' := [(ch, .inr (0, [.ref aq, .ref sm, .ref tb, .ref ck, .ref cm, .ref le, .ref ne, .ref pr, .ref tr, .ref ln, .int trs, .long lpr])), (tb, .inr (10, [.ref tbn, .null, .int 0])), (tbn, .inl (cs 0, 4, .inl ftb)), (aq, .inr (5, [.ref aw, .ref ac, .ref ao, .ref am, .int (nI C), .int (nI P), .long tot])), (ao, .inl (cs 0, 4, .inl fao)), (am, .inl (cs 1, 16, .inr (.inl fam))), (le, .inl (cs 5, 4, .inr (.inr (.inr (.inr (rowsF 4 lr)))))), ((lr 0), .inl (cs 1, 12, .inr (.inl (flr 0)))), ((lr 1), .inl (cs 1, 12, .inr (.inl (flr 1)))), ((lr 2), .inl (cs 1, 12, .inr (.inl (flr 2)))), ((lr 3), .inl (cs 1, 12, .inr (.inl (flr 3)))), (ne, .inl (cs 1, 12, .inr (.inl fne))), (tr, .inl (cs 0, 4, .inl ftr)), (pr, .inl (cs 1, 4, .inr (.inl fpr))), (ln, .inl (cs 0, 4, .inl fln))]) [1, 2, 3, 4, 5, 6, 7, 8, 9, 10, 11, 12, 13, 14, 15] (by decide) rfl
        have hFc := va_free (wc := [(ch, .inr (0, [.ref aq, .ref sm, .ref tb, .ref ck, .ref cm, .ref le, .ref ne, .ref pr, .ref tr, .ref ln, .int trs, .long lpr])), (tb, .inr (10, [.ref tbn, .null, .int 0])), (tbn, .inl (cs 0, 4, .inl ftb)), (aq, .inr (5, [.ref aw, .ref ac, .ref ao, .ref am, .int (nI C), .int (nI P), .long tot])), (ao, .inl (cs 0, 4, .inl fao)), (am, .inl (cs 1, 16, .inr (.inl fam))), (le, .inl (cs 5, 4, .inr (.inr (.inr (.inr (rowsF 4 lr)))))), ((lr 0), .inl (cs 1, 12, .inr (.inl (flr 0)))), ((lr 1), .inl (cs 1, 12, .inr (.inl (flr 1)))), ((lr 2), .inl (cs 1, 12, .inr (.inl (flr 2)))), ((lr 3), .inl (cs 1, 12, .inr (.inl (flr 3)))), (ne, .inl (cs 1, 12, .inr (.inl fne))), (tr, .inl (cs 0, 4, .inl ftr)), (pr, .inl (cs 1, 4, .inr (.inl fpr))), (ln, .inl (cs 0, 4, .inl fln))]) hD hS hA [1, 2, 3, 4, 5, 6, 7, 8, 9, 10, 11, 12, 13, 14, 15] rfl
        refine va_callv (va_runV (As := []) (rest := []) ⟨hx, hb, hml, hown, hg⟩ (h_seekTable l D cs ch sm tb ck cm le ne pr tr ln trs lpr tbn ftb aq aw ac ao am C (by omega) P (by omega) tot fao fam lr flr fne ftr fln fpr _) (cwV 0 hg (gw_V kw_601 kw_602 kw_603 kw_268 kw_600) rfl rfl rfl (by decide +kernel) ⟨(Nat.le_of_ble_eq_true rfl), (Nat.le_of_ble_eq_true rfl)⟩) (pr_MV (q := (RX0, TX0, 12)) 0 0 hK hPc hDc rfl rfl) rfl rfl hl.1 rfl (lv_room (Nat.le_of_ble_eq_true rfl)) dX11_leastTable_51 ⟨(Nat.le_of_ble_eq_true rfl), (Nat.le_of_ble_eq_true rfl)⟩) hS (fun q _ h => hFc q h) hFc (fun u t H1 locs ht hvm h_51 hB hz1 hk1 hS => ?_)
        obtain ⟨trs2_51, lpr2_51, ftb2_51, ftr2_51, fln2_51, fne2_51, fpr2_51, flr2_51, hP1, hD1⟩ := hB
        rw [ht] at hP1
        obtain ⟨hP, hD⟩ := va_join (wr := [(x0, .inr (11, [.ref pg, .ref rd, .ref aq, .ref py, .ref pl, .ref ch, .ref ro, .int (nI pn), .int z_43]))]) (w1 := [(ch, .inr (0, [.ref aq, .ref sm, .ref tb, .ref ck, .ref cm, .ref le, .ref ne, .ref pr, .ref tr, .ref ln, .int trs2_51, .long lpr2_51])), (tb, .inr (10, [.ref tbn, .null, .int 0])), (tbn, .inl (cs 0, 4, .inl ftb2_51)), (aq, .inr (5, [.ref aw, .ref ac, .ref ao, .ref am, .int (nI C), .int (nI P), .long tot])), (ao, .inl (cs 0, 4, .inl fao)), (am, .inl (cs 1, 16, .inr (.inl fam))), (le, .inl (cs 5, 4, .inr (.inr (.inr (.inr (rowsF 4 lr)))))), ((lr 0), .inl (cs 1, 12, .inr (.inl (flr2_51 0)))), ((lr 1), .inl (cs 1, 12, .inr (.inl (flr2_51 1)))), ((lr 2), .inl (cs 1, 12, .inr (.inl (flr2_51 2)))), ((lr 3), .inl (cs 1, 12, .inr (.inl (flr2_51 3)))), (ne, .inl (cs 1, 12, .inr (.inl fne2_51))), (tr, .inl (cs 0, 4, .inl ftr2_51)), (pr, .inl (cs 1, 4, .inr (.inl fpr2_51))), (ln, .inl (cs 0, 4, .inl fln2_51))]) hP hD [1, 2, 3, 4, 5, 6, 7, 8, 9, 10, 11, 12, 13, 14, 15] [0] rfl rfl (by decide) (by decide) hk1 hFc hP1 hD1
        generalize H1 = H at hP hS ⊢
        have hP : va_P D vwCl [(x0, .inr (11, [.ref pg, .ref rd, .ref aq, .ref py, .ref pl, .ref ch, .ref ro, .int (nI pn), .int z_43])), (ch, .inr (0, [.ref aq, .ref sm, .ref tb, .ref ck, .ref cm, .ref le, .ref ne, .ref pr, .ref tr, .ref ln, .int trs2_51, .long lpr2_51])), (tb, .inr (10, [.ref tbn, .null, .int 0])), (tbn, .inl (cs 0, 4, .inl ftb2_51)), (aq, .inr (5, [.ref aw, .ref ac, .ref ao, .ref am, .int (nI C), .int (nI P), .long tot])), (ao, .inl (cs 0, 4, .inl fao)), (am, .inl (cs 1, 16, .inr (.inl fam))), (le, .inl (cs 5, 4, .inr (.inr (.inr (.inr (rowsF 4 lr)))))), ((lr 0), .inl (cs 1, 12, .inr (.inl (flr2_51 0)))), ((lr 1), .inl (cs 1, 12, .inr (.inl (flr2_51 1)))), ((lr 2), .inl (cs 1, 12, .inr (.inl (flr2_51 2)))), ((lr 3), .inl (cs 1, 12, .inr (.inl (flr2_51 3)))), (ne, .inl (cs 1, 12, .inr (.inl fne2_51))), (tr, .inl (cs 0, 4, .inl ftr2_51)), (pr, .inl (cs 1, 4, .inr (.inl fpr2_51))), (ln, .inl (cs 0, 4, .inl fln2_51))] H := hP
        have hD : va_D A [(x0, .inr (11, [.ref pg, .ref rd, .ref aq, .ref py, .ref pl, .ref ch, .ref ro, .int (nI pn), .int z_43])), (ch, .inr (0, [.ref aq, .ref sm, .ref tb, .ref ck, .ref cm, .ref le, .ref ne, .ref pr, .ref tr, .ref ln, .int trs2_51, .long lpr2_51])), (tb, .inr (10, [.ref tbn, .null, .int 0])), (tbn, .inl (cs 0, 4, .inl ftb2_51)), (aq, .inr (5, [.ref aw, .ref ac, .ref ao, .ref am, .int (nI C), .int (nI P), .long tot])), (ao, .inl (cs 0, 4, .inl fao)), (am, .inl (cs 1, 16, .inr (.inl fam))), (le, .inl (cs 5, 4, .inr (.inr (.inr (.inr (rowsF 4 lr)))))), ((lr 0), .inl (cs 1, 12, .inr (.inl (flr2_51 0)))), ((lr 1), .inl (cs 1, 12, .inr (.inl (flr2_51 1)))), ((lr 2), .inl (cs 1, 12, .inr (.inl (flr2_51 2)))), ((lr 3), .inl (cs 1, 12, .inr (.inl (flr2_51 3)))), (ne, .inl (cs 1, 12, .inr (.inl fne2_51))), (tr, .inl (cs 0, 4, .inl ftr2_51)), (pr, .inl (cs 1, 4, .inr (.inl fpr2_51))), (ln, .inl (cs 0, 4, .inl fln2_51))] := hD
        refine W.cs (cells' := 0) (slots' := 0) rfl rfl ?_
        refine lv_iload_n hx hb dX11_leastTable_54 rfl (lv_at hl 1 rfl) ?_
        refine lv_iconst (v := 4) hx hb dX11_leastTable_55 (by decide) ?_
        refine lv_icmp_ne (tgt := 69) hx hb dX11_leastTable_56 (by decide) (fun c_56 => ?_) (fun c_56 => ?_)
        · have n_56 : ¬ k_16 = 4 := b_eq_f (by omega) (by omega) c_56
          refine lv_aload_n hx hb dX11_leastTable_69 rfl (lv_at hl 0 rfl) ?_
          refine va_get (D := D) (ci := 11) (v := .ref ch) (C := RX11) (T := TX11) (N := 9) hx hb hg gwX11 hown hK hP 0 rfl rfl 5 (by decide) (hg _ kw_595) (fun _ h9 => h9) rfl dX11_leastTable_70 ?_
          refine va_get (D := D) (ci := 0) (v := .ref ln) (C := RX0) (T := TX0) (N := 12) hx hb hg gwX0 hown hK hP 1 rfl rfl 9 (by decide) (hg _ kw_604) (fun _ h9 => h9) rfl dX11_leastTable_73 ?_
          refine lv_iload_n hx hb dX11_leastTable_76 rfl (lv_at hl 1 rfl) ?_
          refine va_iald hx hb hK hP 15 0 rfl rfl (vp_in_nI (show k_16 < 4 by omega) (by decide)) dX11_leastTable_77 ?_
          refine lv_topi (fun z_77 e_77 => ?_)
          refine W_sQ hQ ?_
          refine W.widen (k := 0) (n := 0) (Nat.le_of_ble_eq_true rfl) (Nat.le_of_ble_eq_true rfl) ?_
          have hP9 := hP.sub (ws' := [(x0, .inr (11, [.ref pg, .ref rd, .ref aq, .ref py, .ref pl, .ref ch, .ref ro, .int (nI pn), .int z_43])), (ch, .inr (0, [.ref aq, .ref sm, .ref tb, .ref ck, .ref cm, .ref le, .ref ne, .ref pr, .ref tr, .ref ln, .int trs2_51, .long lpr2_51])), (tb, .inr (10, [.ref tbn, .null, .int 0])), (tbn, .inl (cs 0, 4, .inl ftb2_51)), (aq, .inr (5, [.ref aw, .ref ac, .ref ao, .ref am, .int (nI C), .int (nI P), .long tot])), (ao, .inl (cs 0, 4, .inl fao)), (am, .inl (cs 1, 16, .inr (.inl fam))), (le, .inl (cs 5, 4, .inr (.inr (.inr (.inr (rowsF 4 lr)))))), ((lr 0), .inl (cs 1, 12, .inr (.inl (flr2_51 0)))), ((lr 1), .inl (cs 1, 12, .inr (.inl (flr2_51 1)))), ((lr 2), .inl (cs 1, 12, .inr (.inl (flr2_51 2)))), ((lr 3), .inl (cs 1, 12, .inr (.inl (flr2_51 3)))), (ne, .inl (cs 1, 12, .inr (.inl fne2_51))), (tr, .inl (cs 0, 4, .inl ftr2_51)), (pr, .inl (cs 1, 4, .inr (.inl fpr2_51))), (ln, .inl (cs 0, 4, .inl fln2_51))]) [0, 1, 2, 3, 4, 5, 6, 7, 8, 9, 10, 11, 12, 13, 14, 15] rfl
          have hD9 := hD.sub (ws' := [(x0, .inr (11, [.ref pg, .ref rd, .ref aq, .ref py, .ref pl, .ref ch, .ref ro, .int (nI pn), .int z_43])), (ch, .inr (0, [.ref aq, .ref sm, .ref tb, .ref ck, .ref cm, .ref le, .ref ne, .ref pr, .ref tr, .ref ln, .int trs2_51, .long lpr2_51])), (tb, .inr (10, [.ref tbn, .null, .int 0])), (tbn, .inl (cs 0, 4, .inl ftb2_51)), (aq, .inr (5, [.ref aw, .ref ac, .ref ao, .ref am, .int (nI C), .int (nI P), .long tot])), (ao, .inl (cs 0, 4, .inl fao)), (am, .inl (cs 1, 16, .inr (.inl fam))), (le, .inl (cs 5, 4, .inr (.inr (.inr (.inr (rowsF 4 lr)))))), ((lr 0), .inl (cs 1, 12, .inr (.inl (flr2_51 0)))), ((lr 1), .inl (cs 1, 12, .inr (.inl (flr2_51 1)))), ((lr 2), .inl (cs 1, 12, .inr (.inl (flr2_51 2)))), ((lr 3), .inl (cs 1, 12, .inr (.inl (flr2_51 3)))), (ne, .inl (cs 1, 12, .inr (.inl fne2_51))), (tr, .inl (cs 0, 4, .inl ftr2_51)), (pr, .inl (cs 1, 4, .inr (.inl fpr2_51))), (ln, .inl (cs 0, 4, .inl fln2_51))]) [0, 1, 2, 3, 4, 5, 6, 7, 8, 9, 10, 11, 12, 13, 14, 15] (by decide) rfl
          exact W.iret (v := z_77) hx hb hr (fun t ht hW => ⟨⟨z_77, (), rfl, trivial, ⟨z_43, trs2_51, lpr2_51, ftb2_51, ftr2_51, fln2_51, fne2_51, fpr2_51, flr2_51, by rw [ht]; exact hP9, hD9⟩⟩, hS.F ht⟩) hS.2.2 dX11_leastTable_78
        · have n_56 : k_16 = 4 := b_eq_t (by omega) (by omega) c_56
          refine lv_aload_n hx hb dX11_leastTable_59 rfl (lv_at hl 0 rfl) ?_
          refine va_get (D := D) (ci := 11) (v := .ref ch) (C := RX11) (T := TX11) (N := 9) hx hb hg gwX11 hown hK hP 0 rfl rfl 5 (by decide) (hg _ kw_595) (fun _ h9 => h9) rfl dX11_leastTable_60 ?_
          refine va_get (D := D) (ci := 0) (v := .int trs2_51) (C := RX0) (T := TX0) (N := 12) hx hb hg gwX0 hown hK hP 1 rfl rfl 10 (by decide) (hg _ kw_605) (fun _ h9 => h9) rfl dX11_leastTable_63 ?_
          refine lv_goto (tgt := 78) hx hb dX11_leastTable_66 (by decide) ?_
          refine W_sQ hQ ?_
          refine W.widen (k := 0) (n := 0) (Nat.le_of_ble_eq_true rfl) (Nat.le_of_ble_eq_true rfl) ?_
          have hP9 := hP.sub (ws' := [(x0, .inr (11, [.ref pg, .ref rd, .ref aq, .ref py, .ref pl, .ref ch, .ref ro, .int (nI pn), .int z_43])), (ch, .inr (0, [.ref aq, .ref sm, .ref tb, .ref ck, .ref cm, .ref le, .ref ne, .ref pr, .ref tr, .ref ln, .int trs2_51, .long lpr2_51])), (tb, .inr (10, [.ref tbn, .null, .int 0])), (tbn, .inl (cs 0, 4, .inl ftb2_51)), (aq, .inr (5, [.ref aw, .ref ac, .ref ao, .ref am, .int (nI C), .int (nI P), .long tot])), (ao, .inl (cs 0, 4, .inl fao)), (am, .inl (cs 1, 16, .inr (.inl fam))), (le, .inl (cs 5, 4, .inr (.inr (.inr (.inr (rowsF 4 lr)))))), ((lr 0), .inl (cs 1, 12, .inr (.inl (flr2_51 0)))), ((lr 1), .inl (cs 1, 12, .inr (.inl (flr2_51 1)))), ((lr 2), .inl (cs 1, 12, .inr (.inl (flr2_51 2)))), ((lr 3), .inl (cs 1, 12, .inr (.inl (flr2_51 3)))), (ne, .inl (cs 1, 12, .inr (.inl fne2_51))), (tr, .inl (cs 0, 4, .inl ftr2_51)), (pr, .inl (cs 1, 4, .inr (.inl fpr2_51))), (ln, .inl (cs 0, 4, .inl fln2_51))]) [0, 1, 2, 3, 4, 5, 6, 7, 8, 9, 10, 11, 12, 13, 14, 15] rfl
          have hD9 := hD.sub (ws' := [(x0, .inr (11, [.ref pg, .ref rd, .ref aq, .ref py, .ref pl, .ref ch, .ref ro, .int (nI pn), .int z_43])), (ch, .inr (0, [.ref aq, .ref sm, .ref tb, .ref ck, .ref cm, .ref le, .ref ne, .ref pr, .ref tr, .ref ln, .int trs2_51, .long lpr2_51])), (tb, .inr (10, [.ref tbn, .null, .int 0])), (tbn, .inl (cs 0, 4, .inl ftb2_51)), (aq, .inr (5, [.ref aw, .ref ac, .ref ao, .ref am, .int (nI C), .int (nI P), .long tot])), (ao, .inl (cs 0, 4, .inl fao)), (am, .inl (cs 1, 16, .inr (.inl fam))), (le, .inl (cs 5, 4, .inr (.inr (.inr (.inr (rowsF 4 lr)))))), ((lr 0), .inl (cs 1, 12, .inr (.inl (flr2_51 0)))), ((lr 1), .inl (cs 1, 12, .inr (.inl (flr2_51 1)))), ((lr 2), .inl (cs 1, 12, .inr (.inl (flr2_51 2)))), ((lr 3), .inl (cs 1, 12, .inr (.inl (flr2_51 3)))), (ne, .inl (cs 1, 12, .inr (.inl fne2_51))), (tr, .inl (cs 0, 4, .inl ftr2_51)), (pr, .inl (cs 1, 4, .inr (.inl fpr2_51))), (ln, .inl (cs 0, 4, .inl fln2_51))]) [0, 1, 2, 3, 4, 5, 6, 7, 8, 9, 10, 11, 12, 13, 14, 15] (by decide) rfl
          exact W.iret (v := trs2_51) hx hb hr (fun t ht hW => ⟨⟨trs2_51, (), rfl, trivial, ⟨z_43, trs2_51, lpr2_51, ftb2_51, ftr2_51, fln2_51, fne2_51, fpr2_51, flr2_51, by rw [ht]; exact hP9, hD9⟩⟩, hS.F ht⟩) hS.2.2 dX11_leastTable_78
      · refine lv_bipush (v := (-103)) hx hb dX11_leastTable_34 (by decide) ?_
        refine W_sQ hQ ?_
        refine W.widen (k := 0) (n := 0) (Nat.le_of_ble_eq_true rfl) (Nat.le_of_ble_eq_true rfl) ?_
        have hP9 := hP.sub (ws' := [(x0, .inr (11, [.ref pg, .ref rd, .ref aq, .ref py, .ref pl, .ref ch, .ref ro, .int (nI pn), .int td])), (ch, .inr (0, [.ref aq, .ref sm, .ref tb, .ref ck, .ref cm, .ref le, .ref ne, .ref pr, .ref tr, .ref ln, .int trs, .long lpr])), (tb, .inr (10, [.ref tbn, .null, .int 0])), (tbn, .inl (cs 0, 4, .inl ftb)), (aq, .inr (5, [.ref aw, .ref ac, .ref ao, .ref am, .int (nI C), .int (nI P), .long tot])), (ao, .inl (cs 0, 4, .inl fao)), (am, .inl (cs 1, 16, .inr (.inl fam))), (le, .inl (cs 5, 4, .inr (.inr (.inr (.inr (rowsF 4 lr)))))), ((lr 0), .inl (cs 1, 12, .inr (.inl (flr 0)))), ((lr 1), .inl (cs 1, 12, .inr (.inl (flr 1)))), ((lr 2), .inl (cs 1, 12, .inr (.inl (flr 2)))), ((lr 3), .inl (cs 1, 12, .inr (.inl (flr 3)))), (ne, .inl (cs 1, 12, .inr (.inl fne))), (tr, .inl (cs 0, 4, .inl ftr)), (pr, .inl (cs 1, 4, .inr (.inl fpr))), (ln, .inl (cs 0, 4, .inl fln))]) [0, 1, 2, 3, 4, 5, 6, 7, 8, 9, 10, 11, 12, 13, 14, 15] rfl
        have hD9 := hD.sub (ws' := [(x0, .inr (11, [.ref pg, .ref rd, .ref aq, .ref py, .ref pl, .ref ch, .ref ro, .int (nI pn), .int td])), (ch, .inr (0, [.ref aq, .ref sm, .ref tb, .ref ck, .ref cm, .ref le, .ref ne, .ref pr, .ref tr, .ref ln, .int trs, .long lpr])), (tb, .inr (10, [.ref tbn, .null, .int 0])), (tbn, .inl (cs 0, 4, .inl ftb)), (aq, .inr (5, [.ref aw, .ref ac, .ref ao, .ref am, .int (nI C), .int (nI P), .long tot])), (ao, .inl (cs 0, 4, .inl fao)), (am, .inl (cs 1, 16, .inr (.inl fam))), (le, .inl (cs 5, 4, .inr (.inr (.inr (.inr (rowsF 4 lr)))))), ((lr 0), .inl (cs 1, 12, .inr (.inl (flr 0)))), ((lr 1), .inl (cs 1, 12, .inr (.inl (flr 1)))), ((lr 2), .inl (cs 1, 12, .inr (.inl (flr 2)))), ((lr 3), .inl (cs 1, 12, .inr (.inl (flr 3)))), (ne, .inl (cs 1, 12, .inr (.inl fne))), (tr, .inl (cs 0, 4, .inl ftr)), (pr, .inl (cs 1, 4, .inr (.inl fpr))), (ln, .inl (cs 0, 4, .inl fln))]) [0, 1, 2, 3, 4, 5, 6, 7, 8, 9, 10, 11, 12, 13, 14, 15] (by decide) rfl
        exact W.iret (v := (-103)) hx hb hr (fun t ht hW => ⟨⟨(-103), (), rfl, trivial, ⟨td, trs, lpr, ftb, ftr, fln, fne, fpr, flr, by rw [ht]; exact hP9, hD9⟩⟩, hS.F ht⟩) hS.2.2 dX11_leastTable_36
